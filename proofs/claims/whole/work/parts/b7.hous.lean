theorem dfl_w {o : Option pP} (h : ∀ w, o = some w → wfp w 0) : wfp (o.getD (dfl 0)) 0 ∧ wfp (o.getD (dfl 1)) 0 ∧ fR 0 (o.getD []) (o.getD (dfl 0)) ∧ fR 1 (o.getD []) (o.getD (dfl 1)) ∧ (o.getD [] = [] ∨ wfp (o.getD []) 0) := by
  cases o with
  | none =>
    refine ⟨?_, ?_, Or.inl ⟨rfl, rfl⟩, Or.inl ⟨rfl, rfl⟩, Or.inl rfl⟩
    · simp [dfl, wfp, isSg]
    · simp [dfl, wfp, isSg]
  | some w =>
    have hw : wfp w 0 := h w rfl
    have hne : w ≠ [] := fun e => by
      rw [e] at hw
      simp [wfp] at hw
    exact ⟨hw, hw, Or.inr ⟨hne, rfl⟩, Or.inr ⟨hne, rfl⟩, Or.inr hw⟩
set_option maxHeartbeats 400000 in
set_option maxRecDepth 100000 in
theorem Z_house {l : Launch} {X : pX} {t g : Nat} {I : pHI} {J : pHJ} {Q : pQ} (hR : Rel t g I) (hq : ∀ v I1 J1 t1 g1, zM l X yX12_house mX12_house 9 [.ref 67] v I1 J1 t1 g1 → Q (some (.int v)) I1 J1 (pR t1 g1)) : pM l X yX11_house mX11_house 74 [.ref 0] pK pK I J (pR t g) Q := by
  obtain ⟨H, T, p0, p1, pc, pm, od, dd, uu, G, F, Bx, nL, L, mk, um, M, n0, Bt, hD⟩ := hR
  obtain ⟨⟨ht, hg, htg⟩, ⟨⟨hH, hmH, hr⟩, ⟨hFc, hFm, hwc, hwm⟩, hF0, hF1, hp0, hp1, hw0, hw1⟩, ⟨hS, hmS, hrT⟩, ⟨hK, hmK, hGT, hGr⟩, ⟨hB, hmB, hBr⟩, ⟨hL, hmL⟩, ⟨hM, hmM, hrM⟩, ⟨hTp, hmTp⟩, hf1, hf2⟩ := id hD
  have h18 := hr.2.1
  have h20 := hr.1.2
  have hL8 := hL.2.1
  have ht' : t = 5 ∨ t = 19 := ht
  have hg' : g = 5 ∨ g = 19 := hg
  refine M_X11_house ht hg hTp (fun q I1 J1 e f hs => ?_) (fun e I1 J1 ee f h01 h26 h27 he4 he16 => ?_)
  · have hmTp1 : mTp I1 n0 Bt := ⟨(f _ _ (by omega) (by omega) (by omega) (by omega) (by omega) (by omega) (by omega) (by omega) (by omega) (by unfold scF; omega)).trans hmTp.1, hmTp.2.1, fun i hi => by
      rw [f 68 i (by omega) (by omega) (by omega) (by omega) (by omega) (by omega) (by omega) (by omega) (by omega) (by unfold scF; omega)]; exact hmTp.2.2 i hi⟩
    refine hq _ _ _ _ _ (fun Q2 h => M_X12_house hmTp1 (fun q' I2 J2 e' f2 hs2 => ?_) (fun e' I2 J2 ee' => by rw [e] at ee'; cases ee'))
    have hrD := txt_r e
    have hrH := hrD.H
    generalize hDD : (txt Bt n0).2 = D at hs hs2 hrD hrH h ⊢
    obtain ⟨c1, c2, c3, c4, c5, c6, c7, c8, c9, c10, c11⟩ := hs
    obtain ⟨m1, m2, m3, m4, m5, m6, m7, m8, m9, m10, m11, m12⟩ := hs2
    obtain ⟨w1, -, w2, -, w3⟩ := dfl_w (fun w z => (hrD.2.2.2.2.2.2.2.2.1 w z).1)
    obtain ⟨-, v1, -, v2, v3⟩ := dfl_w (fun w z => (hrD.2.2.2.2.2.2.2.2.2 w z).1)
    have k2 : ∀ c k, c < 67 → I2 c k = I1 c k := fun c k z => f2 c k (by omega) (by omega) (by omega) (by omega) (by omega)
    have k1 : ∀ k, I1 47 (k + 6) = I 47 (k + 6) := fun k => f _ _ (by omega) (by omega) (by omega) (by omega) (by omega) (by omega) (by omega) (by omega) (by omega) (by unfold scF; omega)
    have hD2 : relD D.1 (bgT D.1) (D.2.2.1.getD []) (D.2.2.2.1.getD []) (D.2.2.1.getD (dfl 0)) (D.2.2.2.1.getD (dfl 1)) 0 0 0 (fun _ => bgT D.1) (fun _ => false) Bx 0 (fun _ => 0) 0 um M 0 Bt g t I2 := by
      refine ⟨⟨hg, ht, fun z => htg z.symm⟩, ⟨⟨?_, m1, hrH⟩, ⟨?_, ?_, w1, v1⟩, m2, m3, w2, v2, w3, v3⟩, ⟨?_, m4, bg_r hrH⟩, ⟨?_, ⟨m5, m6, by omega, fun i hi => absurd hi (by omega), fun i _ hi => absurd hi (by omega)⟩, fun _ => rfl, fun i _ => bg_r hrH⟩, ⟨?_, ?_, fun b _ z => by cases z⟩, ⟨⟨(k2 _ _ (by omega)).trans c8, by omega, fun i hi => absurd hi (by omega)⟩, m8, by omega, fun i hi => absurd hi (by omega)⟩, ⟨⟨(k2 _ _ (by omega)).trans c7, ?_, fun i hi => absurd hi (by omega)⟩, ⟨m7, ?_, fun i hi => absurd hi (by omega)⟩, by omega, hrM.2.1, fun i hi => absurd hi (by omega)⟩, ⟨⟨(k2 _ _ (by omega)).trans c9, by omega, fun i hi => absurd hi (by omega)⟩, m10, by omega, fun i hi => absurd hi (by omega)⟩, ?_, ?_⟩
      · exact c1.fr (fun k hk => k2 _ _ (by omega)) (fun c i z1 z2 => k2 _ _ (by omega))
      · exact c2.fr (k2 _ _ (by omega)) (fun i => k2 _ _ (by omega)) (fun i => k2 _ _ (by omega))
      · exact c3.fr (k2 _ _ (by omega)) (fun i => k2 _ _ (by omega)) (fun i => k2 _ _ (by omega))
      · exact c4.fr (fun c k z1 z2 => k2 _ _ (by omega))
      · exact c5.off (fun c k z => k2 _ _ (by omega))
      · exact fun b hb => ⟨(k2 _ _ (by omega)).trans (c6 b hb), fun z => by cases z⟩
      · exact fun b hb => ⟨m9 b hb, fun z => by cases z⟩
      · exact (k2 _ _ (by omega)).trans ((k1 0).trans hM.2.1)
      · rw [f2 67 65 (by omega) (by omega) (by omega) (by omega) (by omega), f 67 65 (by omega) (by omega) (by omega) (by omega) (by omega) (by omega) (by omega) (by omega) (by omega) (by unfold scF; omega)]
        exact hmM.2.1
      · rw [k2 _ _ (by omega), c10, m11]
      · rw [k2 _ _ (by omega), c11, m12]
    exact h _ _ hD2.ex
  · have hmTp1 : mTp I1 n0 Bt := ⟨(f _ _ (by omega) (by omega) (by omega) (by omega)).trans hmTp.1, hmTp.2.1, fun i hi => by
      rw [f 68 i (by omega) (by omega) (by omega) (by omega)]; exact hmTp.2.2 i hi⟩
    refine hq _ _ _ _ _ (fun Q2 h => M_X12_house hmTp1 (fun q' I2 J2 e' => by rw [ee] at e'; cases e') (fun e' I2 J2 ee' f2 g1 g2 g3 g4 g5 => ?_))
    obtain rfl : e = e' := by rw [ee] at ee'; cases ee'; rfl
    have f' : ∀ c k, ¬ (c = 0 ∧ k = 1) → ¬ (c = 2 ∧ 2 ≤ k) → c ≠ 4 → ¬ (g ≤ c ∧ c ≤ g + 13) → ¬ (c = 67 ∧ (1 ≤ k ∧ k ≤ 44 ∧ k ≠ 23 ∧ k ≠ 41 ∧ k ≠ 42)) → ¬ (70 ≤ c ∧ c ≤ 72) → c ≠ 76 → c ≠ 78 → ¬ (80 ≤ c ∧ c ≤ 84) → I2 c k = I c k := fun c k e1 e2 e3 e4 e5 e6 e7 e8 e9 => (f2 c k e5 e6 e7 e8 e9).trans (f c k e1 e2 e3 e4)
    have k2 : ∀ c k, c < 67 → I2 c k = I1 c k := fun c k z => f2 c k (by omega) (by omega) (by omega) (by omega) (by omega)
    obtain ⟨a, b1, b2, b3, b4, b5, b6, b7, b8⟩ := hD
    have hD2 : relD H T p0 p1 pc pm od dd uu G F Bx nL L mk um M 0 Bt t g I2 := ⟨a, b1.kp (fun c k h => by unfold pcH at h; apply f' <;> (try unfold scF) <;> (try unfold scM) <;> omega), b2.kp (fun c k h => by unfold pcS at h; apply f' <;> (try unfold scF) <;> (try unfold scM) <;> omega), b3.kp (fun c k h => by unfold pcK at h; apply f' <;> (try unfold scF) <;> (try unfold scM) <;> omega), b4.kp (fun c k h => by unfold pcB at h; apply f' <;> (try unfold scF) <;> (try unfold scM) <;> omega), b5.kp (fun c k h => by unfold pcL at h; apply f' <;> (try unfold scF) <;> (try unfold scM) <;> omega), b6.kp (fun c k h => by unfold pcM at h; apply f' <;> (try unfold scF) <;> (try unfold scM) <;> omega), ⟨⟨(k2 _ _ (by omega)).trans h01, by omega, fun i hi => absurd hi (by omega)⟩, g1, by omega, fun i hi => absurd hi (by omega)⟩, by rw [k2 _ _ (by omega), h26, g2], by rw [k2 _ _ (by omega), h27, g3]⟩
    exact h _ _ hD2.ex
