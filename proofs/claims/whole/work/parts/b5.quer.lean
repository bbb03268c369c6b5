def zM (l : Launch) (X : pX) (y : MethodName) (md : pMd) (d : Nat) (as : List Value) (v : Int32) (I1 : pHI) (J1 : pHJ) (t1 g1 : Nat) : Prop := ∀ Q2 : pQ, (∀ I2 J2, Rel t1 g1 I2 → Q2 (some (.int v)) I2 J2 (pR t1 g1)) → pM l X y md d as pK pK I1 J1 (pR t1 g1) Q2
theorem relD.ex {H T : pN} {p0 p1 pc pm : pP} {od d u : Nat} {G : Nat → pN} {F : Nat → Bool} {Bx : Nat → pN} {nL : Nat} {L : Nat → Int32} {m um : Nat} {M : pMk} {n : Nat} {Bt : Nat → Nat} {t g : Nat} {I : pHI} (h : relD H T p0 p1 pc pm od d u G F Bx nL L m um M n Bt t g I) : Rel t g I := ⟨_, _, _, _, _, _, _, _, _, _, _, _, _, _, _, _, _, _, _, h⟩
set_option maxHeartbeats 400000 in
set_option maxRecDepth 100000 in
theorem Z_tenant {l : Launch} {X : pX} {t g : Nat} {I : pHI} {J : pHJ} {Q : pQ} {y x : Int32} (hR : Rel t g I) (hq : ∀ v I1 J1 t1 g1, zM l X yX12_tenant mX12_tenant 2 [.ref 67, .int y, .int x] v I1 J1 t1 g1 → Q (some (.int v)) I1 J1 (pR t1 g1)) : pM l X yX11_tenant mX11_tenant 2 [.ref 0, .int y, .int x] pK pK I J (pR t g) Q := by
  obtain ⟨H, T, p0, p1, pc, pm, od, dd, uu, G, F, Bx, nL, L, mk, um, M, n0, Bt, hD⟩ := hR
  obtain ⟨⟨ht, hg, htg⟩, ⟨⟨hH, hmH, hr⟩, ⟨hFc, hFm, hwc, hwm⟩, hF0, hF1, hp0, hp1, hw0, hw1⟩, ⟨hS, hmS, hrT⟩, ⟨hK, hmK, hGT, hGr⟩, ⟨hB, hmB, hBr⟩, ⟨hL, hmL⟩, ⟨hM, hmM, hrM⟩, ⟨hTp, hmTp⟩, hf1, hf2⟩ := id hD
  have h18 := hr.2.1
  have h20 := hr.1.2
  have hL8 := hL.2.1
  refine M_X11_tenant ht hH hr hS hrT (fun j hj e k hk e2 => ?_) (fun n => ?_)
  · refine hq _ _ _ _ _ (fun Q2 h => ?_)
    have hD1 := hD
    obtain ⟨-, ⟨⟨-, hmH, -⟩, -, hF0, hF1, -⟩, ⟨-, hmS, -⟩, ⟨-, hmK, -⟩, ⟨-, hmB, -⟩, ⟨-, hmL⟩, ⟨-, hmM, -⟩, ⟨-, hmTp⟩, -⟩ := id hD1
    refine M_X12_tenant hmH hr hmS hrT (fun j' hj' e' k' hk' e2' I2 f2 => ?_) (fun n' I2 f2 => ?_)
    · obtain rfl := nq_eq (by omega) (by omega) (e'.symm.trans e)
      obtain rfl := nq_eq (by omega) (by omega) (e2'.symm.trans e2)
      exact h _ _ (hD1.kA (kA.sm ht f2)).ex
    · exact False.elim (n'.elim (fun q => q j hj e) (fun q => q k hk e2))
  · refine hq _ _ _ _ _ (fun Q2 h => ?_)
    have hD1 := hD
    obtain ⟨-, ⟨⟨-, hmH, -⟩, -, hF0, hF1, -⟩, ⟨-, hmS, -⟩, ⟨-, hmK, -⟩, ⟨-, hmB, -⟩, ⟨-, hmL⟩, ⟨-, hmM, -⟩, ⟨-, hmTp⟩, -⟩ := id hD1
    refine M_X12_tenant hmH hr hmS hrT (fun j' hj' e' k' hk' e2' I2 f2 => ?_) (fun n' I2 f2 => ?_)
    · exact False.elim (n.elim (fun q => q j' hj' e') (fun q => q k' hk' e2'))
    · exact h _ _ (hD1.kA (kA.sm ht f2)).ex
set_option maxHeartbeats 400000 in
set_option maxRecDepth 100000 in
theorem Z_carries {l : Launch} {X : pX} {t g : Nat} {I : pHI} {J : pHJ} {Q : pQ} {x y : Int32} (hR : Rel t g I) (hq : ∀ v I1 J1 t1 g1, zM l X yX12_carries mX12_carries 2 [.ref 67, .int x, .int y] v I1 J1 t1 g1 → Q (some (.int v)) I1 J1 (pR t1 g1)) : pM l X yX11_carries mX11_carries 2 [.ref 0, .int x, .int y] pK pK I J (pR t g) Q := by
  obtain ⟨H, T, p0, p1, pc, pm, od, dd, uu, G, F, Bx, nL, L, mk, um, M, n0, Bt, hD⟩ := hR
  obtain ⟨⟨ht, hg, htg⟩, ⟨⟨hH, hmH, hr⟩, ⟨hFc, hFm, hwc, hwm⟩, hF0, hF1, hp0, hp1, hw0, hw1⟩, ⟨hS, hmS, hrT⟩, ⟨hK, hmK, hGT, hGr⟩, ⟨hB, hmB, hBr⟩, ⟨hL, hmL⟩, ⟨hM, hmM, hrM⟩, ⟨hTp, hmTp⟩, hf1, hf2⟩ := id hD
  have h18 := hr.2.1
  have h20 := hr.1.2
  have hL8 := hL.2.1
  refine M_X11_carries ht hH hr hS hrT (fun a b ha e hb e2 hab => ?_) (fun n => ?_)
  · refine hq _ _ _ _ _ (fun Q2 h => ?_)
    have hD1 := hD
    obtain ⟨-, ⟨⟨-, hmH, -⟩, -, hF0, hF1, -⟩, ⟨-, hmS, -⟩, ⟨-, hmK, -⟩, ⟨-, hmB, -⟩, ⟨-, hmL⟩, ⟨-, hmM, -⟩, ⟨-, hmTp⟩, -⟩ := id hD1
    refine M_X12_carries hmH hr hrT hmS (fun a' b' ha' e' hb' e2' hab' I2 f2 => ?_) (fun n' => ?_)
    · obtain rfl := nq_eq (by omega) (by omega) (e'.symm.trans e)
      obtain rfl := nq_eq (by omega) (by omega) (e2'.symm.trans e2)
      exact h _ _ (hD1.kA (kA.sm ht f2)).ex
    · exact False.elim (hab (n' a b ha e hb e2))
  · refine hq _ _ _ _ _ (fun Q2 h => ?_)
    have hD1 := hD
    obtain ⟨-, ⟨⟨-, hmH, -⟩, -, hF0, hF1, -⟩, ⟨-, hmS, -⟩, ⟨-, hmK, -⟩, ⟨-, hmB, -⟩, ⟨-, hmL⟩, ⟨-, hmM, -⟩, ⟨-, hmTp⟩, -⟩ := id hD1
    refine M_X12_carries hmH hr hrT hmS (fun a' b' ha' e' hb' e2' hab' I2 f2 => ?_) (fun n' => ?_)
    · exact False.elim (hab' (n a' b' ha' e' hb' e2'))
    · exact h _ _ hD1.ex
set_option maxHeartbeats 400000 in
set_option maxRecDepth 100000 in
theorem Z_gifts {l : Launch} {X : pX} {t g : Nat} {I : pHI} {J : pHJ} {Q : pQ} {x : Int32} (hR : Rel t g I) (hq : ∀ v I1 J1 t1 g1, zM l X yX12_gifts mX12_gifts 3 [.ref 67, .int x] v I1 J1 t1 g1 → Q (some (.int v)) I1 J1 (pR t1 g1)) : pM l X yX11_gifts mX11_gifts 3 [.ref 0, .int x] pK pK I J (pR t g) Q := by
  obtain ⟨H, T, p0, p1, pc, pm, od, dd, uu, G, F, Bx, nL, L, mk, um, M, n0, Bt, hD⟩ := hR
  obtain ⟨⟨ht, hg, htg⟩, ⟨⟨hH, hmH, hr⟩, ⟨hFc, hFm, hwc, hwm⟩, hF0, hF1, hp0, hp1, hw0, hw1⟩, ⟨hS, hmS, hrT⟩, ⟨hK, hmK, hGT, hGr⟩, ⟨hB, hmB, hBr⟩, ⟨hL, hmL⟩, ⟨hM, hmM, hrM⟩, ⟨hTp, hmTp⟩, hf1, hf2⟩ := id hD
  have h18 := hr.2.1
  have h20 := hr.1.2
  have hL8 := hL.2.1
  refine M_X11_gifts ht hH hr hS hrT (fun w hw e I1 f => ?_) (fun n => ?_)
  · refine hq _ _ _ _ _ (fun Q2 h => ?_)
    have hD1 := hD.kA (kA.sx ht f)
    obtain ⟨-, ⟨⟨-, hmH, -⟩, -, hF0, hF1, -⟩, ⟨-, hmS, -⟩, ⟨-, hmK, -⟩, ⟨-, hmB, -⟩, ⟨-, hmL⟩, ⟨-, hmM, -⟩, ⟨-, hmTp⟩, -⟩ := id hD1
    refine M_X12_gifts hmH hr hmS hrT (fun w' hw' e' I2 f2 => ?_) (fun n' => ?_)
    · obtain rfl := nq_eq (by omega) (by omega) (e'.symm.trans e)
      exact h _ _ (hD1.kA (kA.sm ht f2)).ex
    · exact False.elim (n' w hw e)
  · refine hq _ _ _ _ _ (fun Q2 h => ?_)
    have hD1 := hD
    obtain ⟨-, ⟨⟨-, hmH, -⟩, -, hF0, hF1, -⟩, ⟨-, hmS, -⟩, ⟨-, hmK, -⟩, ⟨-, hmB, -⟩, ⟨-, hmL⟩, ⟨-, hmM, -⟩, ⟨-, hmTp⟩, -⟩ := id hD1
    refine M_X12_gifts hmH hr hmS hrT (fun w' hw' e' I2 f2 => ?_) (fun n' => ?_)
    · exact False.elim (n w' hw' e')
    · exact h _ _ hD1.ex
set_option maxHeartbeats 400000 in
set_option maxRecDepth 100000 in
theorem Z_envies {l : Launch} {X : pX} {t g : Nat} {I : pHI} {J : pHJ} {Q : pQ} {x : Int32} (hR : Rel t g I) (hq : ∀ v I1 J1 t1 g1, zM l X yX12_envies mX12_envies 2 [.ref 67, .int x] v I1 J1 t1 g1 → Q (some (.int v)) I1 J1 (pR t1 g1)) : pM l X yX11_envies mX11_envies 1 [.ref 0, .int x] pK pK I J (pR t g) Q := by
  obtain ⟨H, T, p0, p1, pc, pm, od, dd, uu, G, F, Bx, nL, L, mk, um, M, n0, Bt, hD⟩ := hR
  obtain ⟨⟨ht, hg, htg⟩, ⟨⟨hH, hmH, hr⟩, ⟨hFc, hFm, hwc, hwm⟩, hF0, hF1, hp0, hp1, hw0, hw1⟩, ⟨hS, hmS, hrT⟩, ⟨hK, hmK, hGT, hGr⟩, ⟨hB, hmB, hBr⟩, ⟨hL, hmL⟩, ⟨hM, hmM, hrM⟩, ⟨hTp, hmTp⟩, hf1, hf2⟩ := id hD
  have h18 := hr.2.1
  have h20 := hr.1.2
  have hL8 := hL.2.1
  refine M_X11_envies ht hH hr (fun a ha e => ?_) (fun n => ?_)
  · refine hq _ _ _ _ _ (fun Q2 h => ?_)
    have hD1 := hD
    obtain ⟨-, ⟨⟨-, hmH, -⟩, -, hF0, hF1, -⟩, ⟨-, hmS, -⟩, ⟨-, hmK, -⟩, ⟨-, hmB, -⟩, ⟨-, hmL⟩, ⟨-, hmM, -⟩, ⟨-, hmTp⟩, -⟩ := id hD1
    refine M_X12_envies hmH hr (fun a' ha' e' I2 f2 => ?_) (fun n' => ?_)
    · obtain rfl := nq_eq (by omega) (by omega) (e'.symm.trans e)
      exact h _ _ (hD1.kA (kA.sz ht f2)).ex
    · exact False.elim (n' a ha e)
  · refine hq _ _ _ _ _ (fun Q2 h => ?_)
    have hD1 := hD
    obtain ⟨-, ⟨⟨-, hmH, -⟩, -, hF0, hF1, -⟩, ⟨-, hmS, -⟩, ⟨-, hmK, -⟩, ⟨-, hmB, -⟩, ⟨-, hmL⟩, ⟨-, hmM, -⟩, ⟨-, hmTp⟩, -⟩ := id hD1
    refine M_X12_envies hmH hr (fun a' ha' e' I2 f2 => ?_) (fun n' => ?_)
    · exact False.elim (n a' ha' e')
    · exact h _ _ hD1.ex
set_option maxHeartbeats 400000 in
set_option maxRecDepth 100000 in
theorem Z_month {l : Launch} {X : pX} {t g : Nat} {I : pHI} {J : pHJ} {Q : pQ} {x : Int32} (hR : Rel t g I) (hq : ∀ v I1 J1 t1 g1, zM l X yX12_month mX12_month 2 [.ref 67, .int x] v I1 J1 t1 g1 → Q (some (.int v)) I1 J1 (pR t1 g1)) : pM l X yX11_month mX11_month 1 [.ref 0, .int x] pK pK I J (pR t g) Q := by
  obtain ⟨H, T, p0, p1, pc, pm, od, dd, uu, G, F, Bx, nL, L, mk, um, M, n0, Bt, hD⟩ := hR
  obtain ⟨⟨ht, hg, htg⟩, ⟨⟨hH, hmH, hr⟩, ⟨hFc, hFm, hwc, hwm⟩, hF0, hF1, hp0, hp1, hw0, hw1⟩, ⟨hS, hmS, hrT⟩, ⟨hK, hmK, hGT, hGr⟩, ⟨hB, hmB, hBr⟩, ⟨hL, hmL⟩, ⟨hM, hmM, hrM⟩, ⟨hTp, hmTp⟩, hf1, hf2⟩ := id hD
  have h18 := hr.2.1
  have h20 := hr.1.2
  have hL8 := hL.2.1
  refine M_X11_month ht hH hr (fun a ha e => ?_) (fun n => ?_)
  · refine hq _ _ _ _ _ (fun Q2 h => ?_)
    have hD1 := hD
    obtain ⟨-, ⟨⟨-, hmH, -⟩, -, hF0, hF1, -⟩, ⟨-, hmS, -⟩, ⟨-, hmK, -⟩, ⟨-, hmB, -⟩, ⟨-, hmL⟩, ⟨-, hmM, -⟩, ⟨-, hmTp⟩, -⟩ := id hD1
    refine M_X12_month hmH hr (fun a' ha' e' I2 f2 => ?_) (fun n' => ?_)
    · obtain rfl := nq_eq (by omega) (by omega) (e'.symm.trans e)
      exact h _ _ (hD1.kA (kA.sz ht f2)).ex
    · exact False.elim (n' a ha e)
  · refine hq _ _ _ _ _ (fun Q2 h => ?_)
    have hD1 := hD
    obtain ⟨-, ⟨⟨-, hmH, -⟩, -, hF0, hF1, -⟩, ⟨-, hmS, -⟩, ⟨-, hmK, -⟩, ⟨-, hmB, -⟩, ⟨-, hmL⟩, ⟨-, hmM, -⟩, ⟨-, hmTp⟩, -⟩ := id hD1
    refine M_X12_month hmH hr (fun a' ha' e' I2 f2 => ?_) (fun n' => ?_)
    · exact False.elim (n a' ha' e')
    · exact h _ _ hD1.ex
set_option maxHeartbeats 400000 in
set_option maxRecDepth 100000 in
theorem Z_rest {l : Launch} {X : pX} {t g : Nat} {I : pHI} {J : pHJ} {Q : pQ} (hR : Rel t g I) (hq : ∀ v I1 J1 t1 g1, zM l X yX12_rest mX12_rest 5 [.ref 67] v I1 J1 t1 g1 → Q (some (.int v)) I1 J1 (pR t1 g1)) : pM l X yX11_rest mX11_rest 5 [.ref 0] pK pK I J (pR t g) Q := by
  obtain ⟨H, T, p0, p1, pc, pm, od, dd, uu, G, F, Bx, nL, L, mk, um, M, n0, Bt, hD⟩ := hR
  obtain ⟨⟨ht, hg, htg⟩, ⟨⟨hH, hmH, hr⟩, ⟨hFc, hFm, hwc, hwm⟩, hF0, hF1, hp0, hp1, hw0, hw1⟩, ⟨hS, hmS, hrT⟩, ⟨hK, hmK, hGT, hGr⟩, ⟨hB, hmB, hBr⟩, ⟨hL, hmL⟩, ⟨hM, hmM, hrM⟩, ⟨hTp, hmTp⟩, hf1, hf2⟩ := id hD
  have h18 := hr.2.1
  have h20 := hr.1.2
  have hL8 := hL.2.1
  refine M_X11_rest ht hH hr hS hrT hFm hwm (fun I1 f m hm hlt he => ?_) (fun I1 f n => ?_)
  · refine hq _ _ _ _ _ (fun Q2 h => ?_)
    have hD1 := hD.kA (kA.sx ht f)
    obtain ⟨-, ⟨⟨-, hmH, -⟩, -, hF0, hF1, -⟩, ⟨-, hmS, -⟩, ⟨-, hmK, -⟩, ⟨-, hmB, -⟩, ⟨-, hmL⟩, ⟨-, hmM, -⟩, ⟨-, hmTp⟩, -⟩ := id hD1
    refine M_X12_rest hmH hr hmS hrT hF1 hw1 hp1 (fun I2 f2 m' hm' hlt' he' => ?_) (fun I2 f2 n' => ?_)
    · obtain rfl : m' = m := by
        rcases Nat.lt_trichotomy m' m with z | z | z
        · exact absurd he' (hlt _ z)
        · exact z
        · exact absurd he (hlt' _ z)
      exact h _ _ (hD1.kA (kA.sm ht f2)).ex
    · exact False.elim (n' m hm he)
  · refine hq _ _ _ _ _ (fun Q2 h => ?_)
    have hD1 := hD.kA (kA.sx ht f)
    obtain ⟨-, ⟨⟨-, hmH, -⟩, -, hF0, hF1, -⟩, ⟨-, hmS, -⟩, ⟨-, hmK, -⟩, ⟨-, hmB, -⟩, ⟨-, hmL⟩, ⟨-, hmM, -⟩, ⟨-, hmTp⟩, -⟩ := id hD1
    refine M_X12_rest hmH hr hmS hrT hF1 hw1 hp1 (fun I2 f2 m' hm' hlt' he' => ?_) (fun I2 f2 n' => ?_)
    · exact False.elim (n m' hm' he')
    · exact h _ _ (hD1.kA (kA.sm ht f2)).ex
set_option maxHeartbeats 400000 in
set_option maxRecDepth 100000 in
theorem Z_will {l : Launch} {X : pX} {t g : Nat} {I : pHI} {J : pHJ} {Q : pQ} {x : Int32} (hR : Rel t g I) (hq : ∀ v I1 J1 t1 g1, zM l X yX12_will mX12_will 6 [.ref 67, .int x] v I1 J1 t1 g1 → Q (some (.int v)) I1 J1 (pR t1 g1)) : pM l X yX11_will mX11_will 6 [.ref 0, .int x] pK pK I J (pR t g) Q := by
  obtain ⟨H, T, p0, p1, pc, pm, od, dd, uu, G, F, Bx, nL, L, mk, um, M, n0, Bt, hD⟩ := hR
  obtain ⟨⟨ht, hg, htg⟩, ⟨⟨hH, hmH, hr⟩, ⟨hFc, hFm, hwc, hwm⟩, hF0, hF1, hp0, hp1, hw0, hw1⟩, ⟨hS, hmS, hrT⟩, ⟨hK, hmK, hGT, hGr⟩, ⟨hB, hmB, hBr⟩, ⟨hL, hmL⟩, ⟨hM, hmM, hrM⟩, ⟨hTp, hmTp⟩, hf1, hf2⟩ := id hD
  have h18 := hr.2.1
  have h20 := hr.1.2
  have hL8 := hL.2.1
  refine M_X11_will ht hH hr hS hrT hFm hwm (fun m e hm I1 f => ?_) (fun n => ?_)
  · refine hq _ _ _ _ _ (fun Q2 h => ?_)
    have hD1 := hD.kA (kA.sx ht f)
    obtain ⟨-, ⟨⟨-, hmH, -⟩, -, hF0, hF1, -⟩, ⟨-, hmS, -⟩, ⟨-, hmK, -⟩, ⟨-, hmB, -⟩, ⟨-, hmL⟩, ⟨-, hmM, -⟩, ⟨-, hmTp⟩, -⟩ := id hD1
    refine M_X12_will hmH hr hmS hrT hF1 hw1 hp1 (fun m' e' hm' I2 f2 => ?_) (fun n' => ?_)
    · obtain rfl := nq_eq (by omega) (by omega) (e'.symm.trans e)
      exact h _ _ (hD1.kA (kA.sm ht f2)).ex
    · exact False.elim (n' m hm e)
  · refine hq _ _ _ _ _ (fun Q2 h => ?_)
    have hD1 := hD
    obtain ⟨-, ⟨⟨-, hmH, -⟩, -, hF0, hF1, -⟩, ⟨-, hmS, -⟩, ⟨-, hmK, -⟩, ⟨-, hmB, -⟩, ⟨-, hmL⟩, ⟨-, hmM, -⟩, ⟨-, hmTp⟩, -⟩ := id hD1
    refine M_X12_will hmH hr hmS hrT hF1 hw1 hp1 (fun m' e' hm' I2 f2 => ?_) (fun n' => ?_)
    · exact False.elim (n m' hm' e')
    · exact h _ _ hD1.ex
set_option maxHeartbeats 400000 in
set_option maxRecDepth 100000 in
theorem Z_pull {l : Launch} {X : pX} {t g : Nat} {I : pHI} {J : pHJ} {Q : pQ} (hR : Rel t g I) (hq : ∀ v I1 J1 t1 g1, zM l X yX12_pull mX12_pull 4 [.ref 67] v I1 J1 t1 g1 → Q (some (.int v)) I1 J1 (pR t1 g1)) : pM l X yX11_pull mX11_pull 3 [.ref 0] pK pK I J (pR t g) Q := by
  obtain ⟨H, T, p0, p1, pc, pm, od, dd, uu, G, F, Bx, nL, L, mk, um, M, n0, Bt, hD⟩ := hR
  obtain ⟨⟨ht, hg, htg⟩, ⟨⟨hH, hmH, hr⟩, ⟨hFc, hFm, hwc, hwm⟩, hF0, hF1, hp0, hp1, hw0, hw1⟩, ⟨hS, hmS, hrT⟩, ⟨hK, hmK, hGT, hGr⟩, ⟨hB, hmB, hBr⟩, ⟨hL, hmL⟩, ⟨hM, hmM, hrM⟩, ⟨hTp, hmTp⟩, hf1, hf2⟩ := id hD
  have h18 := hr.2.1
  have h20 := hr.1.2
  have hL8 := hL.2.1
  refine M_X11_pull ht hH hr hS hrT hFm hwm (fun I1 f => ?_)
  · refine hq _ _ _ _ _ (fun Q2 h => ?_)
    have hD1 := hD.kA (kA.sb ht f)
    obtain ⟨-, ⟨⟨-, hmH, -⟩, -, hF0, hF1, -⟩, ⟨-, hmS, -⟩, ⟨-, hmK, -⟩, ⟨-, hmB, -⟩, ⟨-, hmL⟩, ⟨-, hmM, -⟩, ⟨-, hmTp⟩, -⟩ := id hD1
    refine M_X12_pull hmH hr hmS hrT hF1 hw1 hp1 (fun I2 f2 => ?_)
    · exact h _ _ (hD1.kA (kA.sm ht f2)).ex
set_option maxHeartbeats 400000 in
set_option maxRecDepth 100000 in
theorem Z_lever {l : Launch} {X : pX} {t g : Nat} {I : pHI} {J : pHJ} {Q : pQ} (hR : Rel t g I) (hq : ∀ v I1 J1 t1 g1, zM l X yX12_lever mX12_lever 5 [.ref 67] v I1 J1 t1 g1 → Q (some (.int v)) I1 J1 (pR t1 g1)) : pM l X yX11_lever mX11_lever 4 [.ref 0] pK pK I J (pR t g) Q := by
  obtain ⟨H, T, p0, p1, pc, pm, od, dd, uu, G, F, Bx, nL, L, mk, um, M, n0, Bt, hD⟩ := hR
  obtain ⟨⟨ht, hg, htg⟩, ⟨⟨hH, hmH, hr⟩, ⟨hFc, hFm, hwc, hwm⟩, hF0, hF1, hp0, hp1, hw0, hw1⟩, ⟨hS, hmS, hrT⟩, ⟨hK, hmK, hGT, hGr⟩, ⟨hB, hmB, hBr⟩, ⟨hL, hmL⟩, ⟨hM, hmM, hrM⟩, ⟨hTp, hmTp⟩, hf1, hf2⟩ := id hD
  have h18 := hr.2.1
  have h20 := hr.1.2
  have hL8 := hL.2.1
  refine M_X11_lever ht hH hr hS hrT hFm hwm (fun I1 f m hm hlt he => ?_) (fun I1 f n => ?_)
  · refine hq _ _ _ _ _ (fun Q2 h => ?_)
    have hD1 := hD.kA (kA.sb ht f)
    obtain ⟨-, ⟨⟨-, hmH, -⟩, -, hF0, hF1, -⟩, ⟨-, hmS, -⟩, ⟨-, hmK, -⟩, ⟨-, hmB, -⟩, ⟨-, hmL⟩, ⟨-, hmM, -⟩, ⟨-, hmTp⟩, -⟩ := id hD1
    refine M_X12_lever hmH hr hmS hrT hF1 hw1 hp1 (fun I2 f2 m' hm' hlt' he' => ?_) (fun I2 f2 n' => ?_)
    · obtain rfl : m' = m := by
        rcases Nat.lt_trichotomy m' m with z | z | z
        · exact absurd he' (hlt _ z)
        · exact z
        · exact absurd he (hlt' _ z)
      exact h _ _ (hD1.kA (kA.sm ht f2)).ex
    · exact False.elim (n' m hm he)
  · refine hq _ _ _ _ _ (fun Q2 h => ?_)
    have hD1 := hD.kA (kA.sb ht f)
    obtain ⟨-, ⟨⟨-, hmH, -⟩, -, hF0, hF1, -⟩, ⟨-, hmS, -⟩, ⟨-, hmK, -⟩, ⟨-, hmB, -⟩, ⟨-, hmL⟩, ⟨-, hmM, -⟩, ⟨-, hmTp⟩, -⟩ := id hD1
    refine M_X12_lever hmH hr hmS hrT hF1 hw1 hp1 (fun I2 f2 m' hm' hlt' he' => ?_) (fun I2 f2 n' => ?_)
    · exact False.elim (n m' hm' he')
    · exact h _ _ (hD1.kA (kA.sm ht f2)).ex
set_option maxHeartbeats 400000 in
set_option maxRecDepth 100000 in
theorem Z_odds {l : Launch} {X : pX} {t g : Nat} {I : pHI} {J : pHJ} {Q : pQ} {x y z u : Int32} (hR : Rel t g I) (hq : ∀ v I1 J1 t1 g1, zM l X yX12_odds mX12_odds 2 [.ref 67, .int x, .int y, .int z, .int u] v I1 J1 t1 g1 → Q (some (.int v)) I1 J1 (pR t1 g1)) : pM l X yX11_odds mX11_odds 1 [.ref 0, .int x, .int y, .int z, .int u] pK pK I J (pR t g) Q := by
  obtain ⟨H, T, p0, p1, pc, pm, od, dd, uu, G, F, Bx, nL, L, mk, um, M, n0, Bt, hD⟩ := hR
  obtain ⟨⟨ht, hg, htg⟩, ⟨⟨hH, hmH, hr⟩, ⟨hFc, hFm, hwc, hwm⟩, hF0, hF1, hp0, hp1, hw0, hw1⟩, ⟨hS, hmS, hrT⟩, ⟨hK, hmK, hGT, hGr⟩, ⟨hB, hmB, hBr⟩, ⟨hL, hmL⟩, ⟨hM, hmM, hrM⟩, ⟨hTp, hmTp⟩, hf1, hf2⟩ := id hD
  have h18 := hr.2.1
  have h20 := hr.1.2
  have hL8 := hL.2.1
  refine M_X11_odds ht hH hr (fun a ha e b hb e2 c hc e3 w hw e4 => ?_) (fun n => ?_)
  · refine hq _ _ _ _ _ (fun Q2 h => ?_)
    have hD1 := hD
    obtain ⟨-, ⟨⟨-, hmH, -⟩, -, hF0, hF1, -⟩, ⟨-, hmS, -⟩, ⟨-, hmK, -⟩, ⟨-, hmB, -⟩, ⟨-, hmL⟩, ⟨-, hmM, -⟩, ⟨-, hmTp⟩, -⟩ := id hD1
    refine M_X12_odds hmH hr (fun a' ha' e' b' hb' e2' c' hc' e3' w' hw' e4' => ?_) (fun n' => ?_)
    · obtain rfl := nq_eq (by omega) (by omega) (e'.symm.trans e)
      obtain rfl := nq_eq (by omega) (by omega) (e2'.symm.trans e2)
      obtain rfl := nq_eq (by omega) (by omega) (e3'.symm.trans e3)
      obtain rfl := nq_eq (by omega) (by omega) (e4'.symm.trans e4)
      exact h _ _ hD1.ex
    · exact False.elim (n' a ha e b hb e2 c hc e3 w hw e4)
  · refine hq _ _ _ _ _ (fun Q2 h => ?_)
    have hD1 := hD
    obtain ⟨-, ⟨⟨-, hmH, -⟩, -, hF0, hF1, -⟩, ⟨-, hmS, -⟩, ⟨-, hmK, -⟩, ⟨-, hmB, -⟩, ⟨-, hmL⟩, ⟨-, hmM, -⟩, ⟨-, hmTp⟩, -⟩ := id hD1
    refine M_X12_odds hmH hr (fun a' ha' e' b' hb' e2' c' hc' e3' w' hw' e4' => ?_) (fun n' => ?_)
    · exact False.elim (n a' ha' e' b' hb' e2' c' hc' e3' w' hw' e4')
    · exact h _ _ hD1.ex
set_option maxHeartbeats 400000 in
set_option maxRecDepth 100000 in
theorem Z_poorest {l : Launch} {X : pX} {t g : Nat} {I : pHI} {J : pHJ} {Q : pQ} (hR : Rel t g I) (hq : ∀ v I1 J1 t1 g1, zM l X yX12_poorest mX12_poorest 2 [.ref 67] v I1 J1 t1 g1 → Q (some (.int v)) I1 J1 (pR t1 g1)) : pM l X yX11_poorest mX11_poorest 2 [.ref 0] pK pK I J (pR t g) Q := by
  obtain ⟨H, T, p0, p1, pc, pm, od, dd, uu, G, F, Bx, nL, L, mk, um, M, n0, Bt, hD⟩ := hR
  obtain ⟨⟨ht, hg, htg⟩, ⟨⟨hH, hmH, hr⟩, ⟨hFc, hFm, hwc, hwm⟩, hF0, hF1, hp0, hp1, hw0, hw1⟩, ⟨hS, hmS, hrT⟩, ⟨hK, hmK, hGT, hGr⟩, ⟨hB, hmB, hBr⟩, ⟨hL, hmL⟩, ⟨hM, hmM, hrM⟩, ⟨hTp, hmTp⟩, hf1, hf2⟩ := id hD
  have h18 := hr.2.1
  have h20 := hr.1.2
  have hL8 := hL.2.1
  refine M_X11_poorest ht hH hr hS hrT ?_
  · refine hq _ _ _ _ _ (fun Q2 h => ?_)
    have hD1 := hD
    obtain ⟨-, ⟨⟨-, hmH, -⟩, -, hF0, hF1, -⟩, ⟨-, hmS, -⟩, ⟨-, hmK, -⟩, ⟨-, hmB, -⟩, ⟨-, hmL⟩, ⟨-, hmM, -⟩, ⟨-, hmTp⟩, -⟩ := id hD1
    refine M_X12_poorest hmH hr hrT hmS (fun I2 f2 => ?_)
    · exact h _ _ (hD1.kA (kA.sm ht f2)).ex
set_option maxHeartbeats 400000 in
set_option maxRecDepth 100000 in
theorem Z_owing {l : Launch} {X : pX} {t g : Nat} {I : pHI} {J : pHJ} {Q : pQ} (hR : Rel t g I) (hq : ∀ v I1 J1 t1 g1, zM l X yX12_owing mX12_owing 2 [.ref 67] v I1 J1 t1 g1 → Q (some (.int v)) I1 J1 (pR t1 g1)) : pM l X yX11_owing mX11_owing 2 [.ref 0] pK pK I J (pR t g) Q := by
  obtain ⟨H, T, p0, p1, pc, pm, od, dd, uu, G, F, Bx, nL, L, mk, um, M, n0, Bt, hD⟩ := hR
  obtain ⟨⟨ht, hg, htg⟩, ⟨⟨hH, hmH, hr⟩, ⟨hFc, hFm, hwc, hwm⟩, hF0, hF1, hp0, hp1, hw0, hw1⟩, ⟨hS, hmS, hrT⟩, ⟨hK, hmK, hGT, hGr⟩, ⟨hB, hmB, hBr⟩, ⟨hL, hmL⟩, ⟨hM, hmM, hrM⟩, ⟨hTp, hmTp⟩, hf1, hf2⟩ := id hD
  have h18 := hr.2.1
  have h20 := hr.1.2
  have hL8 := hL.2.1
  refine M_X11_owing ht hH hr hS hrT ?_
  · refine hq _ _ _ _ _ (fun Q2 h => ?_)
    have hD1 := hD
    obtain ⟨-, ⟨⟨-, hmH, -⟩, -, hF0, hF1, -⟩, ⟨-, hmS, -⟩, ⟨-, hmK, -⟩, ⟨-, hmB, -⟩, ⟨-, hmL⟩, ⟨-, hmM, -⟩, ⟨-, hmTp⟩, -⟩ := id hD1
    refine M_X12_owing hmH hr hmS hrT (fun I2 f2 => ?_)
    · exact h _ _ (hD1.kA (kA.sm ht f2)).ex
set_option maxHeartbeats 400000 in
set_option maxRecDepth 100000 in
theorem Z_law {l : Launch} {X : pX} {t g : Nat} {I : pHI} {J : pHJ} {Q : pQ} {x : Int32} (hR : Rel t g I) (hq : ∀ v I1 J1 t1 g1, zM l X yX12_law mX12_law 1 [.ref 67, .int x] v I1 J1 t1 g1 → Q (some (.int v)) I1 J1 (pR t1 g1)) : pM l X yX11_law mX11_law 1 [.ref 0, .int x] pK pK I J (pR t g) Q := by
  obtain ⟨H, T, p0, p1, pc, pm, od, dd, uu, G, F, Bx, nL, L, mk, um, M, n0, Bt, hD⟩ := hR
  obtain ⟨⟨ht, hg, htg⟩, ⟨⟨hH, hmH, hr⟩, ⟨hFc, hFm, hwc, hwm⟩, hF0, hF1, hp0, hp1, hw0, hw1⟩, ⟨hS, hmS, hrT⟩, ⟨hK, hmK, hGT, hGr⟩, ⟨hB, hmB, hBr⟩, ⟨hL, hmL⟩, ⟨hM, hmM, hrM⟩, ⟨hTp, hmTp⟩, hf1, hf2⟩ := id hD
  have h18 := hr.2.1
  have h20 := hr.1.2
  have hL8 := hL.2.1
  refine M_X11_law ht hH hr hS hrT (fun e1 e2 => ?_) (fun n => ?_)
  · refine hq _ _ _ _ _ (fun Q2 h => ?_)
    have hD1 := hD
    obtain ⟨-, ⟨⟨-, hmH, -⟩, -, hF0, hF1, -⟩, ⟨-, hmS, -⟩, ⟨-, hmK, -⟩, ⟨-, hmB, -⟩, ⟨-, hmL⟩, ⟨-, hmM, -⟩, ⟨-, hmTp⟩, -⟩ := id hD1
    refine M_X12_law hmH hr hrT hmS (fun e1' e2' => ?_) (fun n' => ?_)
    · exact h _ _ hD1.ex
    · exact False.elim (by omega)
  · refine hq _ _ _ _ _ (fun Q2 h => ?_)
    have hD1 := hD
    obtain ⟨-, ⟨⟨-, hmH, -⟩, -, hF0, hF1, -⟩, ⟨-, hmS, -⟩, ⟨-, hmK, -⟩, ⟨-, hmB, -⟩, ⟨-, hmL⟩, ⟨-, hmM, -⟩, ⟨-, hmTp⟩, -⟩ := id hD1
    refine M_X12_law hmH hr hrT hmS (fun e1' e2' => ?_) (fun n' => ?_)
    · exact False.elim (by omega)
    · exact h _ _ hD1.ex
set_option maxHeartbeats 400000 in
set_option maxRecDepth 100000 in
theorem Z_stride {l : Launch} {X : pX} {t g : Nat} {I : pHI} {J : pHJ} {Q : pQ} {x y : Int32} (hR : Rel t g I) (hq : ∀ v I1 J1 t1 g1, zM l X yX12_stride mX12_stride 4 [.ref 67, .int x, .int y] v I1 J1 t1 g1 → Q (some (.int v)) I1 J1 (pR t1 g1)) : pM l X yX11_stride mX11_stride 3 [.ref 0, .int x, .int y] pK pK I J (pR t g) Q := by
  obtain ⟨H, T, p0, p1, pc, pm, od, dd, uu, G, F, Bx, nL, L, mk, um, M, n0, Bt, hD⟩ := hR
  obtain ⟨⟨ht, hg, htg⟩, ⟨⟨hH, hmH, hr⟩, ⟨hFc, hFm, hwc, hwm⟩, hF0, hF1, hp0, hp1, hw0, hw1⟩, ⟨hS, hmS, hrT⟩, ⟨hK, hmK, hGT, hGr⟩, ⟨hB, hmB, hBr⟩, ⟨hL, hmL⟩, ⟨hM, hmM, hrM⟩, ⟨hTp, hmTp⟩, hf1, hf2⟩ := id hD
  have h18 := hr.2.1
  have h20 := hr.1.2
  have hL8 := hL.2.1
  refine M_X11_stride ht hH hr hS hrT hFc hwc (fun a ha e b hb e2 I1 f => ?_) (fun n => ?_)
  · refine hq _ _ _ _ _ (fun Q2 h => ?_)
    have hD1 := hD.kA (kA.sb ht f)
    obtain ⟨-, ⟨⟨-, hmH, -⟩, -, hF0, hF1, -⟩, ⟨-, hmS, -⟩, ⟨-, hmK, -⟩, ⟨-, hmB, -⟩, ⟨-, hmL⟩, ⟨-, hmM, -⟩, ⟨-, hmTp⟩, -⟩ := id hD1
    refine M_X12_stride hmH hr hrT hmS hF0 hw0 hp0 (fun a' ha' e' b' hb' e2' I2 f2 => ?_) (fun n' => ?_)
    · obtain rfl := nq_eq (by omega) (by omega) (e'.symm.trans e)
      obtain rfl := nq_eq (by omega) (by omega) (e2'.symm.trans e2)
      exact h _ _ (hD1.kA (kA.sm ht f2)).ex
    · exact False.elim (n'.elim (fun q => q a ha e) (fun q => q b hb e2))
  · refine hq _ _ _ _ _ (fun Q2 h => ?_)
    have hD1 := hD
    obtain ⟨-, ⟨⟨-, hmH, -⟩, -, hF0, hF1, -⟩, ⟨-, hmS, -⟩, ⟨-, hmK, -⟩, ⟨-, hmB, -⟩, ⟨-, hmL⟩, ⟨-, hmM, -⟩, ⟨-, hmTp⟩, -⟩ := id hD1
    refine M_X12_stride hmH hr hrT hmS hF0 hw0 hp0 (fun a' ha' e' b' hb' e2' I2 f2 => ?_) (fun n' => ?_)
    · exact False.elim (n.elim (fun q => q a' ha' e') (fun q => q b' hb' e2'))
    · exact h _ _ hD1.ex
set_option maxHeartbeats 400000 in
set_option maxRecDepth 100000 in
theorem Z_toil {l : Launch} {X : pX} {t g : Nat} {I : pHI} {J : pHJ} {Q : pQ} (hR : Rel t g I) (hq : ∀ v I1 J1 t1 g1, zM l X yX12_toil mX12_toil 6 [.ref 67] v I1 J1 t1 g1 → Q (some (.int v)) I1 J1 (pR t1 g1)) : pM l X yX11_toil mX11_toil 5 [.ref 0] pK pK I J (pR t g) Q := by
  obtain ⟨H, T, p0, p1, pc, pm, od, dd, uu, G, F, Bx, nL, L, mk, um, M, n0, Bt, hD⟩ := hR
  obtain ⟨⟨ht, hg, htg⟩, ⟨⟨hH, hmH, hr⟩, ⟨hFc, hFm, hwc, hwm⟩, hF0, hF1, hp0, hp1, hw0, hw1⟩, ⟨hS, hmS, hrT⟩, ⟨hK, hmK, hGT, hGr⟩, ⟨hB, hmB, hBr⟩, ⟨hL, hmL⟩, ⟨hM, hmM, hrM⟩, ⟨hTp, hmTp⟩, hf1, hf2⟩ := id hD
  have h18 := hr.2.1
  have h20 := hr.1.2
  have hL8 := hL.2.1
  refine M_X11_toil ht hH hr hS hrT hFc hwc (fun I1 f => ?_)
  · refine hq _ _ _ _ _ (fun Q2 h => ?_)
    have hD1 := hD.kA (kA.sQ ht f)
    obtain ⟨-, ⟨⟨-, hmH, -⟩, -, hF0, hF1, -⟩, ⟨-, hmS, -⟩, ⟨-, hmK, -⟩, ⟨-, hmB, -⟩, ⟨-, hmL⟩, ⟨-, hmM, -⟩, ⟨-, hmTp⟩, -⟩ := id hD1
    refine M_X12_toil hmH hr hrT hmS hF0 hw0 hp0 (fun I2 f2 => ?_)
    · exact h _ _ (hD1.kA (kA.sz ht f2)).ex
set_option maxHeartbeats 400000 in
set_option maxRecDepth 100000 in
theorem Z_settle {l : Launch} {X : pX} {t g : Nat} {I : pHI} {J : pHJ} {Q : pQ} {x y : Int32} (hR : Rel t g I) (hq : ∀ v I1 J1 t1 g1, zM l X yX12_settle mX12_settle 5 [.ref 67, .int x, .int y] v I1 J1 t1 g1 → Q (some (.int v)) I1 J1 (pR t1 g1)) : pM l X yX11_settle mX11_settle 5 [.ref 0, .int x, .int y] pK pK I J (pR t g) Q := by
  obtain ⟨H, T, p0, p1, pc, pm, od, dd, uu, G, F, Bx, nL, L, mk, um, M, n0, Bt, hD⟩ := hR
  obtain ⟨⟨ht, hg, htg⟩, ⟨⟨hH, hmH, hr⟩, ⟨hFc, hFm, hwc, hwm⟩, hF0, hF1, hp0, hp1, hw0, hw1⟩, ⟨hS, hmS, hrT⟩, ⟨hK, hmK, hGT, hGr⟩, ⟨hB, hmB, hBr⟩, ⟨hL, hmL⟩, ⟨hM, hmM, hrM⟩, ⟨hTp, hmTp⟩, hf1, hf2⟩ := id hD
  have h18 := hr.2.1
  have h20 := hr.1.2
  have hL8 := hL.2.1
  refine M_X11_settle ht hH hr hFc hwc hFm hwm hS hrT (fun a ha e s e2 h1 h2 I1 f => ?_) (fun n => ?_)
  · refine hq _ _ _ _ _ (fun Q2 h => ?_)
    have hD1 := hD.kA (kA.sx ht f)
    obtain ⟨-, ⟨⟨-, hmH, -⟩, -, hF0, hF1, -⟩, ⟨-, hmS, -⟩, ⟨-, hmK, -⟩, ⟨-, hmB, -⟩, ⟨-, hmL⟩, ⟨-, hmM, -⟩, ⟨-, hmTp⟩, -⟩ := id hD1
    refine M_X12_settle hmH hr hF0 hw0 hp0 hF1 hw1 hp1 hmS hrT (fun a' ha' e' s' e2' h1' h2' I2 f2 => ?_) (fun n' => ?_)
    · obtain rfl := nq_eq (by omega) (by omega) (e'.symm.trans e)
      obtain rfl := nq_eq (by omega) (by omega) (e2'.symm.trans e2)
      exact h _ _ (hD1.kA (kA.sm ht f2)).ex
    · exact False.elim (n'.elim (fun q => q a ha e) (fun q => q s h1 h2 e2))
  · refine hq _ _ _ _ _ (fun Q2 h => ?_)
    have hD1 := hD
    obtain ⟨-, ⟨⟨-, hmH, -⟩, -, hF0, hF1, -⟩, ⟨-, hmS, -⟩, ⟨-, hmK, -⟩, ⟨-, hmB, -⟩, ⟨-, hmL⟩, ⟨-, hmM, -⟩, ⟨-, hmTp⟩, -⟩ := id hD1
    refine M_X12_settle hmH hr hF0 hw0 hp0 hF1 hw1 hp1 hmS hrT (fun a' ha' e' s' e2' h1' h2' I2 f2 => ?_) (fun n' => ?_)
    · exact False.elim (n.elim (fun q => q a' ha' e') (fun q => q s' h1' h2' e2'))
    · exact h _ _ hD1.ex
set_option maxHeartbeats 400000 in
set_option maxRecDepth 100000 in
theorem Z_hover {l : Launch} {X : pX} {t g : Nat} {I : pHI} {J : pHJ} {Q : pQ} {x : Int32} (hR : Rel t g I) (hq : ∀ v I1 J1 t1 g1, zM l X yX12_hover mX12_hover 5 [.ref 67, .int x] v I1 J1 t1 g1 → Q (some (.int v)) I1 J1 (pR t1 g1)) : pM l X yX11_hover mX11_hover 5 [.ref 0, .int x] pK pK I J (pR t g) Q := by
  obtain ⟨H, T, p0, p1, pc, pm, od, dd, uu, G, F, Bx, nL, L, mk, um, M, n0, Bt, hD⟩ := hR
  obtain ⟨⟨ht, hg, htg⟩, ⟨⟨hH, hmH, hr⟩, ⟨hFc, hFm, hwc, hwm⟩, hF0, hF1, hp0, hp1, hw0, hw1⟩, ⟨hS, hmS, hrT⟩, ⟨hK, hmK, hGT, hGr⟩, ⟨hB, hmB, hBr⟩, ⟨hL, hmL⟩, ⟨hM, hmM, hrM⟩, ⟨hTp, hmTp⟩, hf1, hf2⟩ := id hD
  have h18 := hr.2.1
  have h20 := hr.1.2
  have hL8 := hL.2.1
  refine M_X11_hover ht hH hr hS hrT hFm hwm (fun m e hm I1 f => ?_) (fun n => ?_)
  · refine hq _ _ _ _ _ (fun Q2 h => ?_)
    have hD1 := hD.kA (kA.sx ht f)
    obtain ⟨-, ⟨⟨-, hmH, -⟩, -, hF0, hF1, -⟩, ⟨-, hmS, -⟩, ⟨-, hmK, -⟩, ⟨-, hmB, -⟩, ⟨-, hmL⟩, ⟨-, hmM, -⟩, ⟨-, hmTp⟩, -⟩ := id hD1
    refine M_X12_hover hmH hr hmS hrT hF1 hw1 hp1 (fun m' e' hm' I2 f2 => ?_) (fun n' => ?_)
    · obtain rfl := nq_eq (by omega) (by omega) (e'.symm.trans e)
      exact h _ _ (hD1.kA (kA.sm ht f2)).ex
    · exact False.elim (n' m hm e)
  · refine hq _ _ _ _ _ (fun Q2 h => ?_)
    have hD1 := hD
    obtain ⟨-, ⟨⟨-, hmH, -⟩, -, hF0, hF1, -⟩, ⟨-, hmS, -⟩, ⟨-, hmK, -⟩, ⟨-, hmB, -⟩, ⟨-, hmL⟩, ⟨-, hmM, -⟩, ⟨-, hmTp⟩, -⟩ := id hD1
    refine M_X12_hover hmH hr hmS hrT hF1 hw1 hp1 (fun m' e' hm' I2 f2 => ?_) (fun n' => ?_)
    · exact False.elim (n m' hm' e')
    · exact h _ _ hD1.ex
set_option maxHeartbeats 400000 in
set_option maxRecDepth 100000 in
theorem Z_ruin {l : Launch} {X : pX} {t g : Nat} {I : pHI} {J : pHJ} {Q : pQ} {x : Int32} (hR : Rel t g I) (hq : ∀ v I1 J1 t1 g1, zM l X yX12_ruin mX12_ruin 6 [.ref 67, .int x] v I1 J1 t1 g1 → Q (some (.int v)) I1 J1 (pR t1 g1)) : pM l X yX11_ruin mX11_ruin 6 [.ref 0, .int x] pK pK I J (pR t g) Q := by
  obtain ⟨H, T, p0, p1, pc, pm, od, dd, uu, G, F, Bx, nL, L, mk, um, M, n0, Bt, hD⟩ := hR
  obtain ⟨⟨ht, hg, htg⟩, ⟨⟨hH, hmH, hr⟩, ⟨hFc, hFm, hwc, hwm⟩, hF0, hF1, hp0, hp1, hw0, hw1⟩, ⟨hS, hmS, hrT⟩, ⟨hK, hmK, hGT, hGr⟩, ⟨hB, hmB, hBr⟩, ⟨hL, hmL⟩, ⟨hM, hmM, hrM⟩, ⟨hTp, hmTp⟩, hf1, hf2⟩ := id hD
  have h18 := hr.2.1
  have h20 := hr.1.2
  have hL8 := hL.2.1
  refine M_X11_ruin ht hH hr hS hrT hFm hwm (fun m e hm I1 f => ?_) (fun n => ?_)
  · refine hq _ _ _ _ _ (fun Q2 h => ?_)
    have hD1 := hD.kA (kA.sx ht f)
    obtain ⟨-, ⟨⟨-, hmH, -⟩, -, hF0, hF1, -⟩, ⟨-, hmS, -⟩, ⟨-, hmK, -⟩, ⟨-, hmB, -⟩, ⟨-, hmL⟩, ⟨-, hmM, -⟩, ⟨-, hmTp⟩, -⟩ := id hD1
    refine M_X12_ruin hmH hr hmS hrT hF1 hw1 hp1 (fun m' e' hm' I2 f2 => ?_) (fun n' => ?_)
    · obtain rfl := nq_eq (by omega) (by omega) (e'.symm.trans e)
      exact h _ _ (hD1.kA (kA.sm ht f2)).ex
    · exact False.elim (n' m hm e)
  · refine hq _ _ _ _ _ (fun Q2 h => ?_)
    have hD1 := hD
    obtain ⟨-, ⟨⟨-, hmH, -⟩, -, hF0, hF1, -⟩, ⟨-, hmS, -⟩, ⟨-, hmK, -⟩, ⟨-, hmB, -⟩, ⟨-, hmL⟩, ⟨-, hmM, -⟩, ⟨-, hmTp⟩, -⟩ := id hD1
    refine M_X12_ruin hmH hr hmS hrT hF1 hw1 hp1 (fun m' e' hm' I2 f2 => ?_) (fun n' => ?_)
    · exact False.elim (n m' hm' e')
    · exact h _ _ hD1.ex
set_option maxHeartbeats 400000 in
set_option maxRecDepth 100000 in
theorem Z_team {l : Launch} {X : pX} {t g : Nat} {I : pHI} {J : pHJ} {Q : pQ} {x y : Int32} (hR : Rel t g I) (hq : ∀ v I1 J1 t1 g1, zM l X yX12_team mX12_team 1 [.ref 67, .int x, .int y] v I1 J1 t1 g1 → Q (some (.int v)) I1 J1 (pR t1 g1)) : pM l X yX11_team mX11_team 1 [.ref 0, .int x, .int y] pK pK I J (pR t g) Q := by
  obtain ⟨H, T, p0, p1, pc, pm, od, dd, uu, G, F, Bx, nL, L, mk, um, M, n0, Bt, hD⟩ := hR
  obtain ⟨⟨ht, hg, htg⟩, ⟨⟨hH, hmH, hr⟩, ⟨hFc, hFm, hwc, hwm⟩, hF0, hF1, hp0, hp1, hw0, hw1⟩, ⟨hS, hmS, hrT⟩, ⟨hK, hmK, hGT, hGr⟩, ⟨hB, hmB, hBr⟩, ⟨hL, hmL⟩, ⟨hM, hmM, hrM⟩, ⟨hTp, hmTp⟩, hf1, hf2⟩ := id hD
  have h18 := hr.2.1
  have h20 := hr.1.2
  have hL8 := hL.2.1
  refine M_X11_team ht hH hr hS hrT (fun s hs e w hw e2 => ?_) (fun n => ?_)
  · refine hq _ _ _ _ _ (fun Q2 h => ?_)
    have hD1 := hD
    obtain ⟨-, ⟨⟨-, hmH, -⟩, -, hF0, hF1, -⟩, ⟨-, hmS, -⟩, ⟨-, hmK, -⟩, ⟨-, hmB, -⟩, ⟨-, hmL⟩, ⟨-, hmM, -⟩, ⟨-, hmTp⟩, -⟩ := id hD1
    refine M_X12_team hmH hr hrT hmS (fun s' hs' e' w' hw' e2' => ?_) (fun n' => ?_)
    · obtain rfl := nq_eq (by omega) (by omega) (e'.symm.trans e)
      obtain rfl := nq_eq (by omega) (by omega) (e2'.symm.trans e2)
      exact h _ _ hD1.ex
    · exact False.elim (n'.elim (fun q => q s hs e) (fun q => q w hw e2))
  · refine hq _ _ _ _ _ (fun Q2 h => ?_)
    have hD1 := hD
    obtain ⟨-, ⟨⟨-, hmH, -⟩, -, hF0, hF1, -⟩, ⟨-, hmS, -⟩, ⟨-, hmK, -⟩, ⟨-, hmB, -⟩, ⟨-, hmL⟩, ⟨-, hmM, -⟩, ⟨-, hmTp⟩, -⟩ := id hD1
    refine M_X12_team hmH hr hrT hmS (fun s' hs' e' w' hw' e2' => ?_) (fun n' => ?_)
    · exact False.elim (n.elim (fun q => q s' hs' e') (fun q => q w' hw' e2'))
    · exact h _ _ hD1.ex
set_option maxHeartbeats 400000 in
set_option maxRecDepth 100000 in
theorem Z_quarrel {l : Launch} {X : pX} {t g : Nat} {I : pHI} {J : pHJ} {Q : pQ} (hR : Rel t g I) (hq : ∀ v I1 J1 t1 g1, zM l X yX12_quarrel mX12_quarrel 2 [.ref 67] v I1 J1 t1 g1 → Q (some (.int v)) I1 J1 (pR t1 g1)) : pM l X yX11_quarrel mX11_quarrel 3 [.ref 0] pK pK I J (pR t g) Q := by
  obtain ⟨H, T, p0, p1, pc, pm, od, dd, uu, G, F, Bx, nL, L, mk, um, M, n0, Bt, hD⟩ := hR
  obtain ⟨⟨ht, hg, htg⟩, ⟨⟨hH, hmH, hr⟩, ⟨hFc, hFm, hwc, hwm⟩, hF0, hF1, hp0, hp1, hw0, hw1⟩, ⟨hS, hmS, hrT⟩, ⟨hK, hmK, hGT, hGr⟩, ⟨hB, hmB, hBr⟩, ⟨hL, hmL⟩, ⟨hM, hmM, hrM⟩, ⟨hTp, hmTp⟩, hf1, hf2⟩ := id hD
  have h18 := hr.2.1
  have h20 := hr.1.2
  have hL8 := hL.2.1
  refine M_X11_quarrel ht hH hr ?_
  · refine hq _ _ _ _ _ (fun Q2 h => ?_)
    have hD1 := hD
    obtain ⟨-, ⟨⟨-, hmH, -⟩, -, hF0, hF1, -⟩, ⟨-, hmS, -⟩, ⟨-, hmK, -⟩, ⟨-, hmB, -⟩, ⟨-, hmL⟩, ⟨-, hmM, -⟩, ⟨-, hmTp⟩, -⟩ := id hD1
    refine M_X12_quarrel hmH hr (fun I2 f2 => ?_)
    · exact h _ _ (hD1.kA (kA.sz ht f2)).ex
set_option maxHeartbeats 400000 in
set_option maxRecDepth 100000 in
theorem Z_calm {l : Launch} {X : pX} {t g : Nat} {I : pHI} {J : pHJ} {Q : pQ} {x : Int32} (hR : Rel t g I) (hq : ∀ v I1 J1 t1 g1, zM l X yX12_calm mX12_calm 3 [.ref 67, .int x] v I1 J1 t1 g1 → Q (some (.int v)) I1 J1 (pR t1 g1)) : pM l X yX11_calm mX11_calm 3 [.ref 0, .int x] pK pK I J (pR t g) Q := by
  obtain ⟨H, T, p0, p1, pc, pm, od, dd, uu, G, F, Bx, nL, L, mk, um, M, n0, Bt, hD⟩ := hR
  obtain ⟨⟨ht, hg, htg⟩, ⟨⟨hH, hmH, hr⟩, ⟨hFc, hFm, hwc, hwm⟩, hF0, hF1, hp0, hp1, hw0, hw1⟩, ⟨hS, hmS, hrT⟩, ⟨hK, hmK, hGT, hGr⟩, ⟨hB, hmB, hBr⟩, ⟨hL, hmL⟩, ⟨hM, hmM, hrM⟩, ⟨hTp, hmTp⟩, hf1, hf2⟩ := id hD
  have h18 := hr.2.1
  have h20 := hr.1.2
  have hL8 := hL.2.1
  refine M_X11_calm ht hH hr (fun w hw e => ?_) (fun n => ?_)
  · refine hq _ _ _ _ _ (fun Q2 h => ?_)
    have hD1 := hD
    obtain ⟨-, ⟨⟨-, hmH, -⟩, -, hF0, hF1, -⟩, ⟨-, hmS, -⟩, ⟨-, hmK, -⟩, ⟨-, hmB, -⟩, ⟨-, hmL⟩, ⟨-, hmM, -⟩, ⟨-, hmTp⟩, -⟩ := id hD1
    refine M_X12_calm hmH hr (fun w' hw' e' I2 f2 => ?_) (fun n' => ?_)
    · obtain rfl := nq_eq (by omega) (by omega) (e'.symm.trans e)
      exact h _ _ (hD1.kA (kA.sz ht f2)).ex
    · exact False.elim (n' w hw e)
  · refine hq _ _ _ _ _ (fun Q2 h => ?_)
    have hD1 := hD
    obtain ⟨-, ⟨⟨-, hmH, -⟩, -, hF0, hF1, -⟩, ⟨-, hmS, -⟩, ⟨-, hmK, -⟩, ⟨-, hmB, -⟩, ⟨-, hmL⟩, ⟨-, hmM, -⟩, ⟨-, hmTp⟩, -⟩ := id hD1
    refine M_X12_calm hmH hr (fun w' hw' e' I2 f2 => ?_) (fun n' => ?_)
    · exact False.elim (n w' hw' e')
    · exact h _ _ hD1.ex
set_option maxHeartbeats 400000 in
set_option maxRecDepth 100000 in
theorem Z_ladder {l : Launch} {X : pX} {t g : Nat} {I : pHI} {J : pHJ} {Q : pQ} {x : Int32} (hR : Rel t g I) (hq : ∀ v I1 J1 t1 g1, zM l X yX12_ladder mX12_ladder 4 [.ref 67, .int x] v I1 J1 t1 g1 → Q (some (.int v)) I1 J1 (pR t1 g1)) : pM l X yX11_ladder mX11_ladder 5 [.ref 0, .int x] pK pK I J (pR t g) Q := by
  obtain ⟨H, T, p0, p1, pc, pm, od, dd, uu, G, F, Bx, nL, L, mk, um, M, n0, Bt, hD⟩ := hR
  obtain ⟨⟨ht, hg, htg⟩, ⟨⟨hH, hmH, hr⟩, ⟨hFc, hFm, hwc, hwm⟩, hF0, hF1, hp0, hp1, hw0, hw1⟩, ⟨hS, hmS, hrT⟩, ⟨hK, hmK, hGT, hGr⟩, ⟨hB, hmB, hBr⟩, ⟨hL, hmL⟩, ⟨hM, hmM, hrM⟩, ⟨hTp, hmTp⟩, hf1, hf2⟩ := id hD
  have h18 := hr.2.1
  have h20 := hr.1.2
  have hL8 := hL.2.1
  refine M_X11_ladder ht hH hr hS hrT hFc hwc (fun a ha e I1 y f hM => ?_) (fun n => ?_)
  · refine hq _ _ _ _ _ (fun Q2 h => ?_)
    have hD1 := hD.kA (kA.sN ht f)
    obtain ⟨-, ⟨⟨-, hmH, -⟩, -, hF0, hF1, -⟩, ⟨-, hmS, -⟩, ⟨-, hmK, -⟩, ⟨-, hmB, -⟩, ⟨-, hmL⟩, ⟨-, hmM, -⟩, ⟨-, hmTp⟩, -⟩ := id hD1
    refine M_X12_ladder hmH hr hrT hF0 hw0 hp0 hmS (fun a' ha' e' I2 y' f2 hM' => ?_) (fun n' => ?_)
    · obtain rfl := nq_eq (by omega) (by omega) (e'.symm.trans e)
      obtain rfl := up_lad h20 hM hM'
      exact h _ _ (hD1.kA (kA.sz ht f2)).ex
    · exact False.elim (n' a ha e)
  · refine hq _ _ _ _ _ (fun Q2 h => ?_)
    have hD1 := hD
    obtain ⟨-, ⟨⟨-, hmH, -⟩, -, hF0, hF1, -⟩, ⟨-, hmS, -⟩, ⟨-, hmK, -⟩, ⟨-, hmB, -⟩, ⟨-, hmL⟩, ⟨-, hmM, -⟩, ⟨-, hmTp⟩, -⟩ := id hD1
    refine M_X12_ladder hmH hr hrT hF0 hw0 hp0 hmS (fun a' ha' e' I2 y' f2 hM' => ?_) (fun n' => ?_)
    · exact False.elim (n a' ha' e')
    · exact h _ _ hD1.ex
set_option maxHeartbeats 400000 in
set_option maxRecDepth 100000 in
theorem Z_spread {l : Launch} {X : pX} {t g : Nat} {I : pHI} {J : pHJ} {Q : pQ} (hR : Rel t g I) (hq : ∀ v I1 J1 t1 g1, zM l X yX12_spread mX12_spread 2 [.ref 67] v I1 J1 t1 g1 → Q (some (.int v)) I1 J1 (pR t1 g1)) : pM l X yX11_spread mX11_spread 1 [.ref 0] pK pK I J (pR t g) Q := by
  obtain ⟨H, T, p0, p1, pc, pm, od, dd, uu, G, F, Bx, nL, L, mk, um, M, n0, Bt, hD⟩ := hR
  obtain ⟨⟨ht, hg, htg⟩, ⟨⟨hH, hmH, hr⟩, ⟨hFc, hFm, hwc, hwm⟩, hF0, hF1, hp0, hp1, hw0, hw1⟩, ⟨hS, hmS, hrT⟩, ⟨hK, hmK, hGT, hGr⟩, ⟨hB, hmB, hBr⟩, ⟨hL, hmL⟩, ⟨hM, hmM, hrM⟩, ⟨hTp, hmTp⟩, hf1, hf2⟩ := id hD
  have h18 := hr.2.1
  have h20 := hr.1.2
  have hL8 := hL.2.1
  refine M_X11_spread ht hH hr (fun hp => ?_) (fun n => ?_)
  · refine hq _ _ _ _ _ (fun Q2 h => ?_)
    have hD1 := hD
    obtain ⟨-, ⟨⟨-, hmH, -⟩, -, hF0, hF1, -⟩, ⟨-, hmS, -⟩, ⟨-, hmK, -⟩, ⟨-, hmB, -⟩, ⟨-, hmL⟩, ⟨-, hmM, -⟩, ⟨-, hmTp⟩, -⟩ := id hD1
    refine M_X12_spread hmH hr (fun hp' I2 f2 => ?_) (fun n' => ?_)
    · exact h _ _ (hD1.kA (kA.sz ht f2)).ex
    · exact False.elim (by omega)
  · refine hq _ _ _ _ _ (fun Q2 h => ?_)
    have hD1 := hD
    obtain ⟨-, ⟨⟨-, hmH, -⟩, -, hF0, hF1, -⟩, ⟨-, hmS, -⟩, ⟨-, hmK, -⟩, ⟨-, hmB, -⟩, ⟨-, hmL⟩, ⟨-, hmM, -⟩, ⟨-, hmTp⟩, -⟩ := id hD1
    refine M_X12_spread hmH hr (fun hp' I2 f2 => ?_) (fun n' => ?_)
    · exact False.elim (by omega)
    · exact h _ _ hD1.ex
set_option maxHeartbeats 400000 in
set_option maxRecDepth 100000 in
theorem Z_live {l : Launch} {X : pX} {t g : Nat} {I : pHI} {J : pHJ} {Q : pQ} {x : Int32} (hR : Rel t g I) (hq : ∀ v I1 J1 t1 g1, zM l X yX12_live mX12_live 1 [.ref 67, .int x] v I1 J1 t1 g1 → Q (some (.int v)) I1 J1 (pR t1 g1)) : pM l X yX11_live mX11_live 1 [.ref 0, .int x] pK pK I J (pR t g) Q := by
  obtain ⟨H, T, p0, p1, pc, pm, od, dd, uu, G, F, Bx, nL, L, mk, um, M, n0, Bt, hD⟩ := hR
  obtain ⟨⟨ht, hg, htg⟩, ⟨⟨hH, hmH, hr⟩, ⟨hFc, hFm, hwc, hwm⟩, hF0, hF1, hp0, hp1, hw0, hw1⟩, ⟨hS, hmS, hrT⟩, ⟨hK, hmK, hGT, hGr⟩, ⟨hB, hmB, hBr⟩, ⟨hL, hmL⟩, ⟨hM, hmM, hrM⟩, ⟨hTp, hmTp⟩, hf1, hf2⟩ := id hD
  have h18 := hr.2.1
  have h20 := hr.1.2
  have hL8 := hL.2.1
  refine M_X11_live ht hH hr (fun m e hm => ?_) (fun n => ?_)
  · refine hq _ _ _ _ _ (fun Q2 h => ?_)
    have hD1 := hD
    obtain ⟨-, ⟨⟨-, hmH, -⟩, -, hF0, hF1, -⟩, ⟨-, hmS, -⟩, ⟨-, hmK, -⟩, ⟨-, hmB, -⟩, ⟨-, hmL⟩, ⟨-, hmM, -⟩, ⟨-, hmTp⟩, -⟩ := id hD1
    refine M_X12_live hmH hr (fun m' e' hm' => ?_) (fun n' => ?_)
    · obtain rfl := nq_eq (by omega) (by omega) (e'.symm.trans e)
      exact h _ _ hD1.ex
    · exact False.elim (n' m hm e)
  · refine hq _ _ _ _ _ (fun Q2 h => ?_)
    have hD1 := hD
    obtain ⟨-, ⟨⟨-, hmH, -⟩, -, hF0, hF1, -⟩, ⟨-, hmS, -⟩, ⟨-, hmK, -⟩, ⟨-, hmB, -⟩, ⟨-, hmL⟩, ⟨-, hmM, -⟩, ⟨-, hmTp⟩, -⟩ := id hD1
    refine M_X12_live hmH hr (fun m' e' hm' => ?_) (fun n' => ?_)
    · exact False.elim (n m' hm' e')
    · exact h _ _ hD1.ex
set_option maxHeartbeats 400000 in
set_option maxRecDepth 100000 in
theorem Z_lies {l : Launch} {X : pX} {t g : Nat} {I : pHI} {J : pHJ} {Q : pQ} {x : Int32} (hR : Rel t g I) (hq : ∀ v I1 J1 t1 g1, zM l X yX12_lies mX12_lies 1 [.ref 67, .int x] v I1 J1 t1 g1 → Q (some (.int v)) I1 J1 (pR t1 g1)) : pM l X yX11_lies mX11_lies 1 [.ref 0, .int x] pK pK I J (pR t g) Q := by
  obtain ⟨H, T, p0, p1, pc, pm, od, dd, uu, G, F, Bx, nL, L, mk, um, M, n0, Bt, hD⟩ := hR
  obtain ⟨⟨ht, hg, htg⟩, ⟨⟨hH, hmH, hr⟩, ⟨hFc, hFm, hwc, hwm⟩, hF0, hF1, hp0, hp1, hw0, hw1⟩, ⟨hS, hmS, hrT⟩, ⟨hK, hmK, hGT, hGr⟩, ⟨hB, hmB, hBr⟩, ⟨hL, hmL⟩, ⟨hM, hmM, hrM⟩, ⟨hTp, hmTp⟩, hf1, hf2⟩ := id hD
  have h18 := hr.2.1
  have h20 := hr.1.2
  have hL8 := hL.2.1
  refine M_X11_lies hL (fun i hi e => ?_) (fun n => ?_)
  · refine hq _ _ _ _ _ (fun Q2 h => ?_)
    have hD1 := hD
    obtain ⟨-, ⟨⟨-, hmH, -⟩, -, hF0, hF1, -⟩, ⟨-, hmS, -⟩, ⟨-, hmK, -⟩, ⟨-, hmB, -⟩, ⟨-, hmL⟩, ⟨-, hmM, -⟩, ⟨-, hmTp⟩, -⟩ := id hD1
    refine M_X12_lies hmL (fun i' hi' e' => ?_) (fun n' => ?_)
    · obtain rfl := nq_eq (by omega) (by omega) (e'.symm.trans e)
      exact h _ _ hD1.ex
    · exact False.elim (n' i hi e)
  · refine hq _ _ _ _ _ (fun Q2 h => ?_)
    have hD1 := hD
    obtain ⟨-, ⟨⟨-, hmH, -⟩, -, hF0, hF1, -⟩, ⟨-, hmS, -⟩, ⟨-, hmK, -⟩, ⟨-, hmB, -⟩, ⟨-, hmL⟩, ⟨-, hmM, -⟩, ⟨-, hmTp⟩, -⟩ := id hD1
    refine M_X12_lies hmL (fun i' hi' e' => ?_) (fun n' => ?_)
    · exact False.elim (n i' hi' e')
    · exact h _ _ hD1.ex
set_option maxHeartbeats 400000 in
set_option maxRecDepth 100000 in
theorem Z_runs {l : Launch} {X : pX} {t g : Nat} {I : pHI} {J : pHJ} {Q : pQ} {k : Int32} (hR : Rel t g I) (hq : ∀ v I1 J1 t1 g1, zM l X yX12_runs mX12_runs 3 [.ref 67, .int k] v I1 J1 t1 g1 → Q (some (.int v)) I1 J1 (pR t1 g1)) : pM l X yX11_runs mX11_runs 4 [.ref 0, .int k] pK pK I J (pR t g) Q := by
  obtain ⟨H, T, p0, p1, pc, pm, od, dd, uu, G, F, Bx, nL, L, mk, um, M, n0, Bt, hD⟩ := hR
  obtain ⟨⟨ht, hg, htg⟩, ⟨⟨hH, hmH, hr⟩, ⟨hFc, hFm, hwc, hwm⟩, hF0, hF1, hp0, hp1, hw0, hw1⟩, ⟨hS, hmS, hrT⟩, ⟨hK, hmK, hGT, hGr⟩, ⟨hB, hmB, hBr⟩, ⟨hL, hmL⟩, ⟨hM, hmM, hrM⟩, ⟨hTp, hmTp⟩, hf1, hf2⟩ := id hD
  have h18 := hr.2.1
  have h20 := hr.1.2
  have hL8 := hL.2.1
  refine M_X11_runs ht hH hr hM hrM (fun I1 f => ?_)
  · refine hq _ _ _ _ _ (fun Q2 h => ?_)
    have hD1 := hD.kA (kA.sC ht f)
    obtain ⟨-, ⟨⟨-, hmH, -⟩, -, hF0, hF1, -⟩, ⟨-, hmS, -⟩, ⟨-, hmK, -⟩, ⟨-, hmB, -⟩, ⟨-, hmL⟩, ⟨-, hmM, -⟩, ⟨-, hmTp⟩, -⟩ := id hD1
    refine M_X12_runs hmH hr hmM hrM ?_
    · exact h _ _ hD1.ex
set_option maxHeartbeats 400000 in
set_option maxRecDepth 100000 in
theorem Z_who {l : Launch} {X : pX} {t g : Nat} {I : pHI} {J : pHJ} {Q : pQ} {k : Int32} (hR : Rel t g I) (hq : ∀ v I1 J1 t1 g1, zM l X yX12_who mX12_who 3 [.ref 67, .int k] v I1 J1 t1 g1 → Q (some (.int v)) I1 J1 (pR t1 g1)) : pM l X yX11_who mX11_who 4 [.ref 0, .int k] pK pK I J (pR t g) Q := by
  obtain ⟨H, T, p0, p1, pc, pm, od, dd, uu, G, F, Bx, nL, L, mk, um, M, n0, Bt, hD⟩ := hR
  obtain ⟨⟨ht, hg, htg⟩, ⟨⟨hH, hmH, hr⟩, ⟨hFc, hFm, hwc, hwm⟩, hF0, hF1, hp0, hp1, hw0, hw1⟩, ⟨hS, hmS, hrT⟩, ⟨hK, hmK, hGT, hGr⟩, ⟨hB, hmB, hBr⟩, ⟨hL, hmL⟩, ⟨hM, hmM, hrM⟩, ⟨hTp, hmTp⟩, hf1, hf2⟩ := id hD
  have h18 := hr.2.1
  have h20 := hr.1.2
  have hL8 := hL.2.1
  refine M_X11_who ht hH hr hM hrM (fun I1 f => ?_)
  · refine hq _ _ _ _ _ (fun Q2 h => ?_)
    have hD1 := hD.kA (kA.sC ht f)
    obtain ⟨-, ⟨⟨-, hmH, -⟩, -, hF0, hF1, -⟩, ⟨-, hmS, -⟩, ⟨-, hmK, -⟩, ⟨-, hmB, -⟩, ⟨-, hmL⟩, ⟨-, hmM, -⟩, ⟨-, hmTp⟩, -⟩ := id hD1
    refine M_X12_who hmH hr hmM hrM ?_
    · exact h _ _ hD1.ex
set_option maxHeartbeats 400000 in
set_option maxRecDepth 100000 in
theorem Z_ask {l : Launch} {X : pX} {t g : Nat} {I : pHI} {J : pHJ} {Q : pQ} {x k : Int32} (hR : Rel t g I) (hq : ∀ v I1 J1 t1 g1, zM l X yX12_ask mX12_ask 3 [.ref 67, .int x, .int k] v I1 J1 t1 g1 → Q (some (.int v)) I1 J1 (pR t1 g1)) : pM l X yX11_ask mX11_ask 4 [.ref 0, .int x, .int k] pK pK I J (pR t g) Q := by
  obtain ⟨H, T, p0, p1, pc, pm, od, dd, uu, G, F, Bx, nL, L, mk, um, M, n0, Bt, hD⟩ := hR
  obtain ⟨⟨ht, hg, htg⟩, ⟨⟨hH, hmH, hr⟩, ⟨hFc, hFm, hwc, hwm⟩, hF0, hF1, hp0, hp1, hw0, hw1⟩, ⟨hS, hmS, hrT⟩, ⟨hK, hmK, hGT, hGr⟩, ⟨hB, hmB, hBr⟩, ⟨hL, hmL⟩, ⟨hM, hmM, hrM⟩, ⟨hTp, hmTp⟩, hf1, hf2⟩ := id hD
  have h18 := hr.2.1
  have h20 := hr.1.2
  have hL8 := hL.2.1
  refine M_X11_ask ht hH hr hM hrM (fun w hw e hp I1 f => ?_) (fun n I1 f => ?_)
  · refine hq _ _ _ _ _ (fun Q2 h => ?_)
    have hD1 := hD.kA (kA.sC ht f)
    obtain ⟨-, ⟨⟨-, hmH, -⟩, -, hF0, hF1, -⟩, ⟨-, hmS, -⟩, ⟨-, hmK, -⟩, ⟨-, hmB, -⟩, ⟨-, hmL⟩, ⟨-, hmM, -⟩, ⟨-, hmTp⟩, -⟩ := id hD1
    refine M_X12_ask hmH hr hmM hrM (fun w' hw' e' hp' I2 f2 => ?_) (fun n' I2 f2 => ?_)
    · obtain rfl := nq_eq (by omega) (by omega) (e'.symm.trans e)
      exact h _ _ (hD1.kA (kA.sz ht f2)).ex
    · exact False.elim (n'.elim (fun q => q w hw e) (fun q => by omega))
  · refine hq _ _ _ _ _ (fun Q2 h => ?_)
    have hD1 := hD.kA (kA.sC ht f)
    obtain ⟨-, ⟨⟨-, hmH, -⟩, -, hF0, hF1, -⟩, ⟨-, hmS, -⟩, ⟨-, hmK, -⟩, ⟨-, hmB, -⟩, ⟨-, hmL⟩, ⟨-, hmM, -⟩, ⟨-, hmTp⟩, -⟩ := id hD1
    refine M_X12_ask hmH hr hmM hrM (fun w' hw' e' hp' I2 f2 => ?_) (fun n' I2 f2 => ?_)
    · exact False.elim (n.elim (fun q => q w' hw' e') (fun q => by omega))
    · exact h _ _ (hD1.kA (kA.sz ht f2)).ex
set_option maxHeartbeats 400000 in
set_option maxRecDepth 100000 in
theorem Z_fault {l : Launch} {X : pX} {t g : Nat} {I : pHI} {J : pHJ} {Q : pQ} {x : Int32} (hR : Rel t g I) (hq : ∀ v I1 J1 t1 g1, zM l X yX12_fault mX12_fault 0 [.ref 67, .int x] v I1 J1 t1 g1 → Q (some (.int v)) I1 J1 (pR t1 g1)) : pM l X yX11_fault mX11_fault 0 [.ref 0, .int x] pK pK I J (pR t g) Q := by
  obtain ⟨H, T, p0, p1, pc, pm, od, dd, uu, G, F, Bx, nL, L, mk, um, M, n0, Bt, hD⟩ := hR
  obtain ⟨⟨ht, hg, htg⟩, ⟨⟨hH, hmH, hr⟩, ⟨hFc, hFm, hwc, hwm⟩, hF0, hF1, hp0, hp1, hw0, hw1⟩, ⟨hS, hmS, hrT⟩, ⟨hK, hmK, hGT, hGr⟩, ⟨hB, hmB, hBr⟩, ⟨hL, hmL⟩, ⟨hM, hmM, hrM⟩, ⟨hTp, hmTp⟩, hf1, hf2⟩ := id hD
  have h18 := hr.2.1
  have h20 := hr.1.2
  have hL8 := hL.2.1
  exact M_X11_fault (hq _ _ _ _ _ (fun Q2 h => M_X12_fault (by rw [← hf1, ← hf2]; exact h _ _ hD.ex)))
set_option maxHeartbeats 400000 in
set_option maxRecDepth 100000 in
theorem Z_about {l : Launch} {X : pX} {t g : Nat} {I : pHI} {J : pHJ} {Q : pQ} {x : Int32} (hR : Rel t g I) (hq : ∀ v I1 J1 t1 g1, zM l X yX12_about mX12_about 0 [.ref 67, .int x] v I1 J1 t1 g1 → Q (some (.int v)) I1 J1 (pR t1 g1)) : pM l X yX11_about mX11_about 0 [.ref 0, .int x] pK pK I J (pR t g) Q := by
  obtain ⟨H, T, p0, p1, pc, pm, od, dd, uu, G, F, Bx, nL, L, mk, um, M, n0, Bt, hD⟩ := hR
  obtain ⟨⟨ht, hg, htg⟩, ⟨⟨hH, hmH, hr⟩, ⟨hFc, hFm, hwc, hwm⟩, hF0, hF1, hp0, hp1, hw0, hw1⟩, ⟨hS, hmS, hrT⟩, ⟨hK, hmK, hGT, hGr⟩, ⟨hB, hmB, hBr⟩, ⟨hL, hmL⟩, ⟨hM, hmM, hrM⟩, ⟨hTp, hmTp⟩, hf1, hf2⟩ := id hD
  have h18 := hr.2.1
  have h20 := hr.1.2
  have hL8 := hL.2.1
  have el : ([I t 2, I t 0, I 33 4, I 33 3, I 33 5, I 33 6, I 41 2, I 41 3, I 47 5, I 47 6, I 0 1, I t 11, I 45 1] : List Int32) = [I 67 42, I 67 41, I 90 25, I 90 24, I 90 26, I 90 27, I 67 48, I 67 49, I 67 64, I 67 65, I 67 1, I 67 23, I 67 52] := by
    rw [hH.2.2.1, hH.1, hS.2.1, hS.1, hS.2.2.1, hS.2.2.2.1, hK.2.1, hK.2.2.1, hM.1, hM.2.1, hTp.1, hH.2.2.2.2.1, hL.1, hmH.2.1, hmH.1, hmS 25 (by decide), hmS 24 (by decide), hmS 26 (by decide), hmS 27 (by decide), hmK.1, hmK.2.1, hmM.1, hmM.2.1, hmTp.1, hmH.2.2.1, hmL.1]
  refine M_X11_about ht (fun k hk e => ?_) (fun n => ?_)
  · refine hq _ _ _ _ _ (fun Q2 h => M_X12_about (fun k' hk' e' => ?_) (fun n => absurd e (n k hk)))
    obtain rfl := nq_eq (by omega) (by omega) (e'.symm.trans e)
    rw [← el]
    exact h _ _ hD.ex
  · exact hq _ _ _ _ _ (fun Q2 h => M_X12_about (fun k' hk' e' => absurd e' (n k' hk')) (fun n => h _ _ hD.ex))
theorem CCw_u {H T : pN} {te by_ ca ni : Int32} {j s nt j' s' nt' : Nat} {c c' : Option Nat} (hr : rH H) (h : CCw H T te by_ ca ni j s nt c) (h' : CCw H T te by_ ca ni j' s' nt' c') : j' = j ∧ s' = s ∧ nt' = nt ∧ c' = c := by
  obtain ⟨a1, a2, a3, a4, a5, a6, a7, -⟩ := h
  obtain ⟨b1, b2, b3, b4, b5, b6, b7, -⟩ := h'
  have h18 := hr.2.1
  have h20 := hr.1.2
  refine ⟨nq_eq (by omega) (by omega) (b1.symm.trans a1), nq_eq (by omega) (by omega) (b3.symm.trans a3), nq_eq (by omega) (by omega) (b5.symm.trans a5), ?_⟩
  rcases a7 with ⟨rfl, e⟩ | ⟨i, rfl, e, hi, -⟩
  · rcases b7 with ⟨rfl, -⟩ | ⟨i', rfl, e', hi', -⟩
    · rfl
    · exact absurd (e'.symm.trans e) (nI_mm (by omega))
  · rcases b7 with ⟨rfl, e'⟩ | ⟨i', rfl, e', hi', -⟩
    · exact absurd (e.symm.trans e') (nI_mm (by omega))
    · rw [nq_eq (by omega) (by omega) (e'.symm.trans e)]
set_option maxHeartbeats 400000 in
set_option maxRecDepth 100000 in
theorem Z_worth {l : Launch} {X : pX} {t g : Nat} {I : pHI} {J : pHJ} {Q : pQ} {te by_ ca ni w : Int32} (hR : Rel t g I) (hq : ∀ v I1 J1 t1 g1, zM l X yX12_worth mX12_worth 4 [.ref 67, .int te, .int by_, .int ca, .int ni, .int w] v I1 J1 t1 g1 → Q (some (.int v)) I1 J1 (pR t1 g1)) : pM l X yX11_worth mX11_worth 3 [.ref 0, .int te, .int by_, .int ca, .int ni, .int w] pK pK I J (pR t g) Q := by
  obtain ⟨H, T, p0, p1, pc, pm, od, dd, uu, G, F, Bx, nL, L, mk, um, M, n0, Bt, hD⟩ := hR
  obtain ⟨⟨ht, hg, htg⟩, ⟨⟨hH, hmH, hr⟩, ⟨hFc, hFm, hwc, hwm⟩, hF0, hF1, hp0, hp1, hw0, hw1⟩, ⟨hS, hmS, hrT⟩, ⟨hK, hmK, hGT, hGr⟩, ⟨hB, hmB, hBr⟩, ⟨hL, hmL⟩, ⟨hM, hmM, hrM⟩, ⟨hTp, hmTp⟩, hf1, hf2⟩ := id hD
  have h18 := hr.2.1
  have h20 := hr.1.2
  have hL8 := hL.2.1
  refine M_X11_worth ht hH hr hS hrT hFc hwc (fun j s nt c hC e I1 f => ?_) (fun j s nt c hC e => ?_) (fun n => ?_)
  · refine hq _ _ _ _ _ (fun Q2 h => ?_)
    have hD1 := hD.kA (kA.sb ht f)
    obtain ⟨-, ⟨⟨-, hmH, -⟩, -, hF0, hF1, -⟩, ⟨-, hmS, -⟩, ⟨-, hmK, -⟩, ⟨-, hmB, -⟩, ⟨-, hmL⟩, ⟨-, hmM, -⟩, ⟨-, hmTp⟩, -⟩ := id hD1
    refine M_X12_worth hmH hr hrT hmS hF0 hw0 hp0 (fun j' s' nt' c' hC' e' I2 f2 => ?_) (fun j' s' nt' c' hC' e' I2 f2 => ?_) (fun n' I2 f2 => ?_)
    · obtain ⟨rfl, rfl, rfl, rfl⟩ := CCw_u hr hC hC'
      exact h _ _ (hD1.kA (kA.sm ht f2)).ex
    · exact absurd (nq_eq (by omega) (by omega) (e.symm.trans e')) (by decide)
    · exact False.elim (n'.elim (fun q => q j s nt c hC) (fun q => q.1 e))
  · refine hq _ _ _ _ _ (fun Q2 h => ?_)
    have hD1 := hD
    obtain ⟨-, ⟨⟨-, hmH, -⟩, -, hF0, hF1, -⟩, ⟨-, hmS, -⟩, ⟨-, hmK, -⟩, ⟨-, hmB, -⟩, ⟨-, hmL⟩, ⟨-, hmM, -⟩, ⟨-, hmTp⟩, -⟩ := id hD1
    refine M_X12_worth hmH hr hrT hmS hF0 hw0 hp0 (fun j' s' nt' c' hC' e' I2 f2 => ?_) (fun j' s' nt' c' hC' e' I2 f2 => ?_) (fun n' I2 f2 => ?_)
    · exact absurd (nq_eq (by omega) (by omega) (e.symm.trans e')) (by decide)
    · obtain ⟨rfl, rfl, rfl, rfl⟩ := CCw_u hr hC hC'
      exact h _ _ (hD1.kA (kA.sm ht f2)).ex
    · exact False.elim (n'.elim (fun q => q j s nt c hC) (fun q => q.2 e))
  · refine hq _ _ _ _ _ (fun Q2 h => ?_)
    have hD1 := hD
    obtain ⟨-, ⟨⟨-, hmH, -⟩, -, hF0, hF1, -⟩, ⟨-, hmS, -⟩, ⟨-, hmK, -⟩, ⟨-, hmB, -⟩, ⟨-, hmL⟩, ⟨-, hmM, -⟩, ⟨-, hmTp⟩, -⟩ := id hD1
    refine M_X12_worth hmH hr hrT hmS hF0 hw0 hp0 (fun j' s' nt' c' hC' e' I2 f2 => ?_) (fun j' s' nt' c' hC' e' I2 f2 => ?_) (fun n' I2 f2 => ?_)
    · exact False.elim (n.elim (fun q => q j' s' nt' c' hC') (fun q => q.1 e'))
    · exact False.elim (n.elim (fun q => q j' s' nt' c' hC') (fun q => q.2 e'))
    · exact h _ _ (hD1.kA (kA.sm ht f2)).ex
