theorem relD.mrk {H T : pN} {p0 p1 pc pm : pP} {od d u : Nat} {G : Nat → pN} {F : Nat → Bool} {Bx : Nat → pN} {nL : Nat} {L : Nat → Int32} {m um : Nat} {M : pMk} {n : Nat} {Bt : Nat → Nat} {t g : Nat} {I I2 : pHI} {m' um' : Nat} {M' : pMk} (hD : relD H T p0 p1 pc pm od d u G F Bx nL L m um M n Bt t g I) (f : ∀ c k, ¬ pcM c k → I2 c k = I c k) (h1 : cM I2 m' um' M') (h2 : mM I2 m' um' M') (h3 : rM H m' um' M') : relD H T p0 p1 pc pm od d u G F Bx nL L m' um' M' n Bt t g I2 := by
  have ht' : t = 5 ∨ t = 19 := hD.1.1
  obtain ⟨a, b1, b2, b3, b4, b5, b6, b7, b8⟩ := hD
  exact ⟨a, b1.kp (fun c k h => f c k (by unfold pcH at h; unfold pcM; omega)), b2.kp (fun c k h => f c k (by unfold pcS at h; unfold pcM; omega)), b3.kp (fun c k h => f c k (by unfold pcK at h; unfold pcM; omega)), b4.kp (fun c k h => f c k (by unfold pcB at h; unfold pcM; omega)), b5.kp (fun c k h => f c k (by unfold pcL at h; unfold pcM; omega)), ⟨h1, h2, h3⟩, b7.kp (fun c k h => f c k (by unfold pcT at h; unfold pcM; omega)), b8.kp (fun c k h => f c k (by unfold pcF at h; unfold pcM; omega))⟩
theorem relD.box {H T : pN} {p0 p1 pc pm : pP} {od d u : Nat} {G : Nat → pN} {F : Nat → Bool} {Bx : Nat → pN} {nL : Nat} {L : Nat → Int32} {m um : Nat} {M : pMk} {n : Nat} {Bt : Nat → Nat} {t g : Nat} {I I2 : pHI} {F' : Nat → Bool} {Bx' : Nat → pN} (hD : relD H T p0 p1 pc pm od d u G F Bx nL L m um M n Bt t g I) (f : ∀ c k, ¬ pcB c k → I2 c k = I c k) (h1 : cB 44 43 I2 F' Bx') (h2 : cB 107 108 I2 F' Bx') (h3 : ∀ b, b < 3 → F' b = true → rS 999 H (Bx' b)) : relD H T p0 p1 pc pm od d u G F' Bx' nL L m um M n Bt t g I2 := by
  have ht' : t = 5 ∨ t = 19 := hD.1.1
  obtain ⟨a, b1, b2, b3, b4, b5, b6, b7, b8⟩ := hD
  exact ⟨a, b1.kp (fun c k h => f c k (by unfold pcH at h; unfold pcB; omega)), b2.kp (fun c k h => f c k (by unfold pcS at h; unfold pcB; omega)), b3.kp (fun c k h => f c k (by unfold pcK at h; unfold pcB; omega)), ⟨h1, h2, h3⟩, b5.kp (fun c k h => f c k (by unfold pcL at h; unfold pcB; omega)), b6.kp (fun c k h => f c k (by unfold pcM at h; unfold pcB; omega)), b7.kp (fun c k h => f c k (by unfold pcT at h; unfold pcB; omega)), b8.kp (fun c k h => f c k (by unfold pcF at h; unfold pcB; omega))⟩
theorem relD.tap {H T : pN} {p0 p1 pc pm : pP} {od d u : Nat} {G : Nat → pN} {F : Nat → Bool} {Bx : Nat → pN} {nL : Nat} {L : Nat → Int32} {m um : Nat} {M : pMk} {n : Nat} {Bt : Nat → Nat} {t g : Nat} {I I2 : pHI} {n' : Nat} {Bt' : Nat → Nat} (hD : relD H T p0 p1 pc pm od d u G F Bx nL L m um M n Bt t g I) (f : ∀ c k, ¬ pcT c k → I2 c k = I c k) (h1 : cTp I2 n' Bt') (h2 : mTp I2 n' Bt') : relD H T p0 p1 pc pm od d u G F Bx nL L m um M n' Bt' t g I2 := by
  have ht' : t = 5 ∨ t = 19 := hD.1.1
  obtain ⟨a, b1, b2, b3, b4, b5, b6, b7, b8⟩ := hD
  exact ⟨a, b1.kp (fun c k h => f c k (by unfold pcH at h; unfold pcT; omega)), b2.kp (fun c k h => f c k (by unfold pcS at h; unfold pcT; omega)), b3.kp (fun c k h => f c k (by unfold pcK at h; unfold pcT; omega)), b4.kp (fun c k h => f c k (by unfold pcB at h; unfold pcT; omega)), b5.kp (fun c k h => f c k (by unfold pcL at h; unfold pcT; omega)), b6.kp (fun c k h => f c k (by unfold pcM at h; unfold pcT; omega)), ⟨h1, h2⟩, b8.kp (fun c k h => f c k (by unfold pcF at h; unfold pcT; omega))⟩
def sLk (I I1 : pHI) : Prop := ∀ c k, ¬ scF c k → ¬ (54 ≤ c ∧ c ≤ 66) → c ≠ 45 → c ≠ 46 → I1 c k = I c k
theorem relD.lst {H T : pN} {p0 p1 pc pm : pP} {od d u : Nat} {G : Nat → pN} {F : Nat → Bool} {Bx : Nat → pN} {nL : Nat} {L : Nat → Int32} {m um : Nat} {M : pMk} {n : Nat} {Bt : Nat → Nat} {t g : Nat} {I I1 I2 : pHI} {nL' : Nat} {L' : Nat → Int32} (hD : relD H T p0 p1 pc pm od d u G F Bx nL L m um M n Bt t g I) (f : sLk I I1) (f2 : sY I1 I2) (h1 : cL 45 1 46 I1 nL' L') (h2 : cL 67 52 94 I2 nL' L') : relD H T p0 p1 pc pm od d u G F Bx nL' L' m um M n Bt t g I2 := by
  have ht' : t = 5 ∨ t = 19 := hD.1.1
  obtain ⟨a, b1, b2, b3, b4, b5, b6, b7, b8⟩ := hD
  have f' : ∀ c k, ¬ scF c k → ¬ (54 ≤ c ∧ c ≤ 66) → c ≠ 45 → c ≠ 46 → ¬ scM c → c ≠ 94 → ¬ (c = 67 ∧ k = 52) → I2 c k = I c k := fun c k e1 e2 e3 e4 e5 e6 e7 => (f2 c k e1 e5 e6 e7).trans (f c k e1 e2 e3 e4)
  exact ⟨a, b1.kp (fun c k h => by unfold pcH at h; apply f' <;> (try unfold scF) <;> (try unfold scM) <;> omega), b2.kp (fun c k h => by unfold pcS at h; apply f' <;> (try unfold scF) <;> (try unfold scM) <;> omega), b3.kp (fun c k h => by unfold pcK at h; apply f' <;> (try unfold scF) <;> (try unfold scM) <;> omega), b4.kp (fun c k h => by unfold pcB at h; apply f' <;> (try unfold scF) <;> (try unfold scM) <;> omega), ⟨h1.fr (f2 _ _ (by unfold scF; omega) (by unfold scM; omega) (by omega) (by omega)) (fun k => f2 _ _ (by unfold scF; omega) (by unfold scM; omega) (by omega) (by omega)), h2⟩, b6.kp (fun c k h => by unfold pcM at h; apply f' <;> (try unfold scF) <;> (try unfold scM) <;> omega), b7.kp (fun c k h => by unfold pcT at h; apply f' <;> (try unfold scF) <;> (try unfold scM) <;> omega), b8.kp (fun c k h => by unfold pcF at h; apply f' <;> (try unfold scF) <;> (try unfold scM) <;> omega)⟩
theorem relD.lmd {H T : pN} {p0 p1 pc pm : pP} {od d u : Nat} {G : Nat → pN} {F : Nat → Bool} {Bx : Nat → pN} {nL : Nat} {L : Nat → Int32} {m um : Nat} {M : pMk} {n : Nat} {Bt : Nat → Nat} {t g : Nat} {I I1 : pHI} (hD : relD H T p0 p1 pc pm od d u G F Bx nL L m um M n Bt t g I) (f : sLk I I1) : mH H I1 ∧ mF 0 p0 I1 ∧ mF 1 p1 I1 ∧ mS 90 T I1 := by
  have ht' : t = 5 ∨ t = 19 := hD.1.1
  obtain ⟨a, b1, b2, b3, b4, b5, b6, b7, b8⟩ := hD
  exact ⟨b1.1.2.1.kp (t := t) (fun c k h => by unfold pcH at h; apply f <;> (try unfold scF) <;> (try unfold scM) <;> omega), b1.2.2.1.kp (t := t) (fun c k h => by unfold pcH at h; apply f <;> (try unfold scF) <;> (try unfold scM) <;> omega), b1.2.2.2.1.kp (t := t) (fun c k h => by unfold pcH at h; apply f <;> (try unfold scF) <;> (try unfold scM) <;> omega), b2.2.1.fr (fun k => f _ _ (by unfold scF; omega) (by omega) (by omega) (by omega))⟩
theorem relD.act {H T : pN} {p0 p1 pc pm : pP} {od d u : Nat} {G : Nat → pN} {F : Nat → Bool} {Bx : Nat → pN} {nL : Nat} {L : Nat → Int32} {m um : Nat} {M : pMk} {n : Nat} {Bt : Nat → Nat} {t g : Nat} {I I1 I2 : pHI} {T' : pN} {od' d' u' : Nat} {G' : Nat → pN} (hD : relD H T p0 p1 pc pm od d u G F Bx nL L m um M n Bt t g I) (f : sK I I1) (hS1 : cS 33 T' I1) (hK1 : cK I1 od' d' u' G') (f2 : sM I1 I2) (hS2 : mS 90 T' I2) (hK2 : mK I2 d' u' G') (hrS : rS 999 H T') (hG : ∀ q, G' d' q = T' q) (hGr : ∀ i, i ≤ d' + u' → rS 999 H (G' i)) : relD H T' p0 p1 pc pm od' d' u' G' F Bx nL L m um M n Bt t g I2 := by
  have ht' : t = 5 ∨ t = 19 := hD.1.1
  obtain ⟨a, b1, b2, b3, b4, b5, b6, b7, b8⟩ := hD
  have f' : ∀ c k, ¬ scF c k → ¬ (33 ≤ c ∧ c ≤ 36) → c ≠ 41 → c ≠ 42 → c ≠ 90 → c ≠ 91 → c ≠ 92 → ¬ (c = 67 ∧ (k = 48 ∨ k = 49)) → I2 c k = I c k := fun c k e1 e2 e3 e4 e5 e6 e7 e8 => (f2 c k e1 e5 e6 e7 e8).trans (f c k e1 e2 e3 e4)
  exact ⟨a, b1.kp (fun c k h => by unfold pcH at h; apply f' <;> (try unfold scF) <;> (try unfold scM) <;> omega), ⟨hS1.fr (fun c k z1 z2 => f2 _ _ (by unfold scF; omega) (by omega) (by omega) (by omega) (by omega)), hS2, hrS⟩, ⟨hK1.off (fun c k z => f2 _ _ (by unfold scF; omega) (by omega) (by omega) (by omega) (by omega)), hK2, hG, hGr⟩, b4.kp (fun c k h => by unfold pcB at h; apply f' <;> (try unfold scF) <;> (try unfold scM) <;> omega), b5.kp (fun c k h => by unfold pcL at h; apply f' <;> (try unfold scF) <;> (try unfold scM) <;> omega), b6.kp (fun c k h => by unfold pcM at h; apply f' <;> (try unfold scF) <;> (try unfold scM) <;> omega), b7.kp (fun c k h => by unfold pcT at h; apply f' <;> (try unfold scF) <;> (try unfold scM) <;> omega), b8.kp (fun c k h => by unfold pcF at h; apply f' <;> (try unfold scF) <;> (try unfold scM) <;> omega)⟩
theorem relD.amd {H T : pN} {p0 p1 pc pm : pP} {od d u : Nat} {G : Nat → pN} {F : Nat → Bool} {Bx : Nat → pN} {nL : Nat} {L : Nat → Int32} {m um : Nat} {M : pMk} {n : Nat} {Bt : Nat → Nat} {t g : Nat} {I I1 : pHI} (hD : relD H T p0 p1 pc pm od d u G F Bx nL L m um M n Bt t g I) (f : sK I I1) : mH H I1 ∧ mF 0 p0 I1 ∧ mF 1 p1 I1 ∧ mS 90 T I1 ∧ mK I1 d u G ∧ cB 107 108 I1 F Bx := by
  have ht' : t = 5 ∨ t = 19 := hD.1.1
  obtain ⟨a, b1, b2, b3, b4, b5, b6, b7, b8⟩ := hD
  exact ⟨b1.1.2.1.kp (t := t) (fun c k h => by unfold pcH at h; apply f <;> (try unfold scF) <;> (try unfold scM) <;> omega), b1.2.2.1.kp (t := t) (fun c k h => by unfold pcH at h; apply f <;> (try unfold scF) <;> (try unfold scM) <;> omega), b1.2.2.2.1.kp (t := t) (fun c k h => by unfold pcH at h; apply f <;> (try unfold scF) <;> (try unfold scM) <;> omega), b2.2.1.fr (fun k => f _ _ (by unfold scF; omega) (by omega) (by omega) (by omega)), b3.2.1.off (fun c k e => f _ _ (by unfold scF; omega) (by omega) (by omega) (by omega)), b4.2.1.off (fun k => f _ _ (by unfold scF; omega) (by omega) (by omega) (by omega)) (fun k => f _ _ (by unfold scF; omega) (by omega) (by omega) (by omega))⟩
theorem act_T {d : Nat} {G : Nat → pN} {T : pN} : ∀ q, actG d G T (min (d + 1) 40) q = T q := fun q => by unfold actG; rw [if_pos rfl]
theorem act_r {H T : pN} {d u : Nat} {G : Nat → pN} (hdu : d + u ≤ 40) (hG : ∀ i, i ≤ d + u → rS 999 H (G i)) (hT : rS 999 H T) : ∀ i, i ≤ min (d + 1) 40 + 0 → rS 999 H (actG d G T i) := fun i hi => by
  unfold actG
  by_cases e : i = min (d + 1) 40
  · rw [if_pos e]; exact hT
  · rw [if_neg e]
    by_cases e2 : d < 40
    · rw [if_pos e2]; exact hG i (by omega)
    · rw [if_neg e2]; exact hG (i + 1) (by omega)
theorem rS_dn {B B' : Nat} {H T : pN} (h : rS B H T) (h1 : T 26 ≤ B') (h2 : B' ≤ 10000) : rS B' H T := ⟨h.1, h1, h.2.2.1, h2, h.2.2.2.2⟩
theorem rS_wk {p : pP} {H T : pN} (hr : rH H) (h : rS 999 H T) (hT : T 26 < 999) : rS 999 H (weekN p H T) := by
  have e : weekN p H T 26 = T 26 + 1 := (wk_at H ((T 26 + 1) % 4 == 0) (up1 (up1 (up1 T 25 (liftN p H T (T 24))) 24 0) 26 (T 26 + 1)) (H 1) hr.2.1).2.2.2 26 (by omega)
  exact rS_dn (rS_week hr h (by omega)) (by omega) (by omega)
theorem rS_clm {p : pP} {H T : pN} {j s nt : Nat} {c : Option Nat} (h : rS 999 H T) (hj : j < 8) : rS 999 H (clmN p H T j s nt c) := by
  obtain ⟨h1, h2, h3, h4, h5⟩ := h
  have e25 : clmN p H T j s nt c 25 = T 25 := by
    unfold clmN walkN up1; rw [if_neg (by omega), if_neg (by omega), if_neg (by omega), if_neg (by omega)]
  have e26 : clmN p H T j s nt c 26 = T 26 := by
    unfold clmN walkN up1; rw [if_neg (by omega), if_neg (by omega), if_neg (by omega), if_neg (by omega)]
  have e27 : clmN p H T j s nt c 27 = seedN T := by
    unfold clmN walkN up1; rw [if_neg (by omega), if_neg (by omega), if_neg (by omega), if_pos rfl]
  refine ⟨by omega, by omega, by rw [e27]; unfold seedN; omega, h4, fun i hi => ?_⟩
  obtain ⟨a1, a2, a3⟩ := h5 i hi
  have g16 : clmN p H T j s nt c (16 + i) = T (16 + i) := by
    unfold clmN walkN up1; rw [if_neg (by omega), if_neg (by omega), if_neg (by omega), if_neg (by omega)]
  refine ⟨?_, ?_, by omega⟩
  · have ej : up1 T 27 (seedN T) j = T j := by unfold up1; rw [if_neg (by omega)]
    have b := h5 j hj
    unfold clmN walkN
    rw [ej]
    unfold up1
    rw [if_neg (by omega)]
    by_cases e : i = j
    · rw [if_pos e]; omega
    · rw [if_neg e, if_neg (by omega), if_neg (by omega)]; exact a1
  · unfold clmN walkN
    generalize clmC p H T j s nt c = x
    unfold up1
    rw [if_neg (by omega), if_neg (by omega)]
    by_cases e : 8 + i = 8 + j
    · rw [if_pos e]; omega
    · rw [if_neg e, if_neg (by omega)]; exact a2
theorem fwB_u {p : pP} {H T : pN} {a : Nat} {G G' : List Nat} (h : fwB p H T a G) (h' : fwB p H T a G') : G' = G := by
  have l1 := h.2.1 G' h'.1.2
  have l2 := h'.2.1 G h.1.2
  have l : G'.length = G.length := by omega
  have s1 := h.2.2.1 G' h'.1.2 l
  have s2 := h'.2.2.1 G h.1.2 l.symm
  exact lx_anti l (h'.2.2.2 G h.1.2 l.symm (by omega)) (h.2.2.2 G' h'.1.2 l (by omega))
theorem GVw_u {H T : pN} {x y z : Int32} {a b m a' b' m' : Nat} (hr : rH H) (hT : rS 999 H T) (h : GVw H T x y z a b m) (h' : GVw H T x y z a' b' m') : a' = a ∧ b' = b ∧ m' = m := by
  obtain ⟨a1, a2, a3, a4, -, a6, -, -, a9⟩ := h
  obtain ⟨b1, b2, b3, b4, -, b6, -, -, b9⟩ := h'
  have h18 := hr.2.1
  exact ⟨nq_eq (by omega) (by omega) (b1.symm.trans a1), nq_eq (by omega) (by omega) (b3.symm.trans a3), nq_eq (by omega) (by omega) (b6.symm.trans a6)⟩
set_option maxHeartbeats 400000 in
set_option maxRecDepth 100000 in
theorem Z_climb {l : Launch} {X : pX} {t g : Nat} {I : pHI} {J : pHJ} {Q : pQ} {te by_ ca ni : Int32} (hR : Rel t g I) (hq : ∀ v I1 J1 t1 g1, zM l X yX12_climb mX12_climb 4 [.ref 67, .int te, .int by_, .int ca, .int ni] v I1 J1 t1 g1 → Q (some (.int v)) I1 J1 (pR t1 g1)) : pM l X yX11_climb mX11_climb 3 [.ref 0, .int te, .int by_, .int ca, .int ni] pK pK I J (pR t g) Q := by
  obtain ⟨H, T, p0, p1, pc, pm, od, dd, uu, G, F, Bx, nL, L, mk, um, M, n0, Bt, hD⟩ := hR
  obtain ⟨⟨ht, hg, htg⟩, ⟨⟨hH, hmH, hr⟩, ⟨hFc, hFm, hwc, hwm⟩, hF0, hF1, hp0, hp1, hw0, hw1⟩, ⟨hS, hmS, hrT⟩, ⟨hK, hmK, hGT, hGr⟩, ⟨hB, hmB, hBr⟩, ⟨hL, hmL⟩, ⟨hM, hmM, hrM⟩, ⟨hTp, hmTp⟩, hf1, hf2⟩ := id hD
  have h18 := hr.2.1
  have h20 := hr.1.2
  have hL8 := hL.2.1
  refine M_X11_climb ht hH hr hS hrT hFc hwc hK (fun j s nt c hC I1 od1 f hS1 hK1 => ?_) (fun ng => ?_)
  · refine hq _ _ _ _ _ (fun Q2 h => ?_)
    obtain ⟨hmH1, hF01, hF11, hmS1, hmK1, hmB1⟩ := hD.amd f
    refine M_X12_climb hmH1 hr hrT hmS1 hF01 hw0 hp0 hmK1 hGT (fun j' s' nt' c' hC' I2 f2 hS2 hK2 => ?_) (fun n' => absurd hC (n' _ _ _ _))
    obtain ⟨rfl, rfl, rfl, rfl⟩ := CCw_u hr hC hC'
    have hj := hC.2.1
    exact h _ _ (hD.act f hS1 hK1 f2 hS2 hK2 (rS_clm hrT (by omega)) act_T (act_r hmK.2.2.1 hGr (rS_clm hrT (by omega)))).ex
  · exact hq _ _ _ _ _ (fun Q2 h => M_X12_climb hmH hr hrT hmS hF0 hw0 hp0 hmK hGT (fun j' s' nt' c' hC' => absurd hC' (ng _ _ _ _)) (fun n' I2 f2 => h _ _ (hD.kA (kA.sm ht f2)).ex))
set_option maxHeartbeats 400000 in
set_option maxRecDepth 100000 in
theorem Z_give {l : Launch} {X : pX} {t g : Nat} {I : pHI} {J : pHJ} {Q : pQ} {x y z : Int32} (hR : Rel t g I) (hq : ∀ v I1 J1 t1 g1, zM l X yX12_give mX12_give 2 [.ref 67, .int x, .int y, .int z] v I1 J1 t1 g1 → Q (some (.int v)) I1 J1 (pR t1 g1)) : pM l X yX11_give mX11_give 3 [.ref 0, .int x, .int y, .int z] pK pK I J (pR t g) Q := by
  obtain ⟨H, T, p0, p1, pc, pm, od, dd, uu, G, F, Bx, nL, L, mk, um, M, n0, Bt, hD⟩ := hR
  obtain ⟨⟨ht, hg, htg⟩, ⟨⟨hH, hmH, hr⟩, ⟨hFc, hFm, hwc, hwm⟩, hF0, hF1, hp0, hp1, hw0, hw1⟩, ⟨hS, hmS, hrT⟩, ⟨hK, hmK, hGT, hGr⟩, ⟨hB, hmB, hBr⟩, ⟨hL, hmL⟩, ⟨hM, hmM, hrM⟩, ⟨hTp, hmTp⟩, hf1, hf2⟩ := id hD
  have h18 := hr.2.1
  have h20 := hr.1.2
  have hL8 := hL.2.1
  refine M_X11_give ht hH hr hS hrT hK (fun a b m hC I1 od1 f hS1 hK1 => ?_) (fun ng => ?_)
  · refine hq _ _ _ _ _ (fun Q2 h => ?_)
    obtain ⟨hmH1, hF01, hF11, hmS1, hmK1, hmB1⟩ := hD.amd f
    refine M_X12_give hmH1 hr hrT hmS1 hmK1 hGT (fun a' b' m' hC' I2 f2 hS2 hK2 => ?_) (fun n' => absurd hC (n' _ _ _))
    obtain ⟨rfl, rfl, rfl⟩ := GVw_u hr hrT hC hC'
    have ha := hC.2.1
    have hb := hC.2.2.2.1
    have hg' := rS_giv hrT hC.2.2.2.2.1 (by omega : a' < 8) (by omega : b' < 8) hC.2.2.2.2.2.2.2.2
    exact h _ _ (hD.act f hS1 hK1 f2 hS2 hK2 hg' act_T (act_r hmK.2.2.1 hGr hg')).ex
  · exact hq _ _ _ _ _ (fun Q2 h => M_X12_give hmH hr hrT hmS hmK hGT (fun a' b' m' hC' => absurd hC' (ng _ _ _)) (fun n' => h _ _ hD.ex))
set_option maxHeartbeats 400000 in
set_option maxRecDepth 100000 in
theorem Z_week {l : Launch} {X : pX} {t g : Nat} {I : pHI} {J : pHJ} {Q : pQ} (hR : Rel t g I) (hq : ∀ v I1 J1 t1 g1, zM l X yX12_week mX12_week 5 [.ref 67] v I1 J1 t1 g1 → Q (some (.int v)) I1 J1 (pR t1 g1)) : pM l X yX11_week mX11_week 5 [.ref 0] pK pK I J (pR t g) Q := by
  obtain ⟨H, T, p0, p1, pc, pm, od, dd, uu, G, F, Bx, nL, L, mk, um, M, n0, Bt, hD⟩ := hR
  obtain ⟨⟨ht, hg, htg⟩, ⟨⟨hH, hmH, hr⟩, ⟨hFc, hFm, hwc, hwm⟩, hF0, hF1, hp0, hp1, hw0, hw1⟩, ⟨hS, hmS, hrT⟩, ⟨hK, hmK, hGT, hGr⟩, ⟨hB, hmB, hBr⟩, ⟨hL, hmL⟩, ⟨hM, hmM, hrM⟩, ⟨hTp, hmTp⟩, hf1, hf2⟩ := id hD
  have h18 := hr.2.1
  have h20 := hr.1.2
  have hL8 := hL.2.1
  refine M_X11_week ht hH hr hS hrT hFm hwm hK (fun hC I1 od1 f hS1 hK1 => ?_) (fun ng => ?_)
  · refine hq _ _ _ _ _ (fun Q2 h => ?_)
    obtain ⟨hmH1, hF01, hF11, hmS1, hmK1, hmB1⟩ := hD.amd f
    refine M_X12_week hmH1 hr hrT hmS1 hF11 hw1 hp1 hmK1 hGT (fun hC' I2 f2 hS2 hK2 => ?_) (fun n' => absurd hC n')
    exact h _ _ (hD.act f hS1 hK1 f2 hS2 hK2 (rS_wk hr hrT hC) act_T (act_r hmK.2.2.1 hGr (rS_wk hr hrT hC))).ex
  · exact hq _ _ _ _ _ (fun Q2 h => M_X12_week hmH hr hrT hmS hF1 hw1 hp1 hmK hGT (fun hC' => absurd hC' ng) (fun n' => h _ _ hD.ex))
set_option maxHeartbeats 400000 in
set_option maxRecDepth 100000 in
theorem Z_undo {l : Launch} {X : pX} {t g : Nat} {I : pHI} {J : pHJ} {Q : pQ} (hR : Rel t g I) (hq : ∀ v I1 J1 t1 g1, zM l X yX12_undo mX12_undo 1 [.ref 67] v I1 J1 t1 g1 → Q (some (.int v)) I1 J1 (pR t1 g1)) : pM l X yX11_undo mX11_undo 3 [.ref 0] pK pK I J (pR t g) Q := by
  obtain ⟨H, T, p0, p1, pc, pm, od, dd, uu, G, F, Bx, nL, L, mk, um, M, n0, Bt, hD⟩ := hR
  obtain ⟨⟨ht, hg, htg⟩, ⟨⟨hH, hmH, hr⟩, ⟨hFc, hFm, hwc, hwm⟩, hF0, hF1, hp0, hp1, hw0, hw1⟩, ⟨hS, hmS, hrT⟩, ⟨hK, hmK, hGT, hGr⟩, ⟨hB, hmB, hBr⟩, ⟨hL, hmL⟩, ⟨hM, hmM, hrM⟩, ⟨hTp, hmTp⟩, hf1, hf2⟩ := id hD
  have h18 := hr.2.1
  have h20 := hr.1.2
  have hL8 := hL.2.1
  refine M_X11_undo hK (fun hC I1 f0 hK1 hS1 => ?_) (fun ng => ?_)
  · refine hq _ _ _ _ _ (fun Q2 h => ?_)
    have f : sK I I1 := fun c k a b e _ => f0 c k a b e
    obtain ⟨hmH1, hF01, hF11, hmS1, hmK1, hmB1⟩ := hD.amd f
    refine M_X12_undo hmK1 (hmS1.cg (fun k _ => (hGT k).symm)) (fun hC' I2 f2 hK2 hS2 => ?_) (fun n' => absurd hC (by omega))
    exact h _ _ (hD.act f hS1 hK1 f2 hS2 hK2 (hGr _ (by omega)) (fun _ => rfl) (fun i hi => hGr i (by omega))).ex
  · exact hq _ _ _ _ _ (fun Q2 h => M_X12_undo hmK (hmS.cg (fun k _ => (hGT k).symm)) (fun hC' => absurd hC' (by omega)) (fun n' => h _ _ hD.ex))
set_option maxHeartbeats 400000 in
set_option maxRecDepth 100000 in
theorem Z_redo {l : Launch} {X : pX} {t g : Nat} {I : pHI} {J : pHJ} {Q : pQ} (hR : Rel t g I) (hq : ∀ v I1 J1 t1 g1, zM l X yX12_redo mX12_redo 1 [.ref 67] v I1 J1 t1 g1 → Q (some (.int v)) I1 J1 (pR t1 g1)) : pM l X yX11_redo mX11_redo 3 [.ref 0] pK pK I J (pR t g) Q := by
  obtain ⟨H, T, p0, p1, pc, pm, od, dd, uu, G, F, Bx, nL, L, mk, um, M, n0, Bt, hD⟩ := hR
  obtain ⟨⟨ht, hg, htg⟩, ⟨⟨hH, hmH, hr⟩, ⟨hFc, hFm, hwc, hwm⟩, hF0, hF1, hp0, hp1, hw0, hw1⟩, ⟨hS, hmS, hrT⟩, ⟨hK, hmK, hGT, hGr⟩, ⟨hB, hmB, hBr⟩, ⟨hL, hmL⟩, ⟨hM, hmM, hrM⟩, ⟨hTp, hmTp⟩, hf1, hf2⟩ := id hD
  have h18 := hr.2.1
  have h20 := hr.1.2
  have hL8 := hL.2.1
  refine M_X11_redo hK (fun hC I1 f0 hK1 hS1 => ?_) (fun ng => ?_)
  · refine hq _ _ _ _ _ (fun Q2 h => ?_)
    have f : sK I I1 := fun c k a b e _ => f0 c k a b e
    obtain ⟨hmH1, hF01, hF11, hmS1, hmK1, hmB1⟩ := hD.amd f
    refine M_X12_redo hmK1 (hmS1.cg (fun k _ => (hGT k).symm)) (fun hC' I2 f2 hK2 hS2 => ?_) (fun n' => absurd hC (by omega))
    exact h _ _ (hD.act f hS1 hK1 f2 hS2 hK2 (hGr _ (by omega)) (fun _ => rfl) (fun i hi => hGr i (by omega))).ex
  · exact hq _ _ _ _ _ (fun Q2 h => M_X12_redo hmK (hmS.cg (fun k _ => (hGT k).symm)) (fun hC' => absurd hC' (by omega)) (fun n' => h _ _ hD.ex))
set_option maxHeartbeats 400000 in
set_option maxRecDepth 100000 in
theorem Z_back {l : Launch} {X : pX} {t g : Nat} {I : pHI} {J : pHJ} {Q : pQ} {x : Int32} (hR : Rel t g I) (hq : ∀ v I1 J1 t1 g1, zM l X yX12_back mX12_back 1 [.ref 67, .int x] v I1 J1 t1 g1 → Q (some (.int v)) I1 J1 (pR t1 g1)) : pM l X yX11_back mX11_back 3 [.ref 0, .int x] pK pK I J (pR t g) Q := by
  obtain ⟨H, T, p0, p1, pc, pm, od, dd, uu, G, F, Bx, nL, L, mk, um, M, n0, Bt, hD⟩ := hR
  obtain ⟨⟨ht, hg, htg⟩, ⟨⟨hH, hmH, hr⟩, ⟨hFc, hFm, hwc, hwm⟩, hF0, hF1, hp0, hp1, hw0, hw1⟩, ⟨hS, hmS, hrT⟩, ⟨hK, hmK, hGT, hGr⟩, ⟨hB, hmB, hBr⟩, ⟨hL, hmL⟩, ⟨hM, hmM, hrM⟩, ⟨hTp, hmTp⟩, hf1, hf2⟩ := id hD
  have h18 := hr.2.1
  have h20 := hr.1.2
  have hL8 := hL.2.1
  refine M_X11_back hB (fun b hb e hF I1 f hS1 hK1 => ?_) (fun ng => ?_)
  · refine hq _ _ _ _ _ (fun Q2 h => ?_)
    obtain ⟨hmH1, hF01, hF11, hmS1, hmK1, hmB1⟩ := hD.amd f
    refine M_X12_back hmB1 (fun b' hb' e' hF' I2 f2 hS2 hK2 => ?_) (fun n' => absurd (n' b hb e) (by rw [hF]; decide))
    obtain rfl := nq_eq (by omega) (by omega) (e'.symm.trans e)
    exact h _ _ (hD.act f hS1 hK1 f2 hS2 hK2 (hBr _ hb hF) (fun _ => rfl) (fun i hi => hBr _ hb hF)).ex
  · exact hq _ _ _ _ _ (fun Q2 h => M_X12_back hmB (fun b' hb' e' hF' => absurd (ng b' hb' e') (by rw [hF']; decide)) (fun n' => h _ _ hD.ex))
set_option maxHeartbeats 400000 in
set_option maxRecDepth 100000 in
theorem Z_fewest {l : Launch} {X : pX} {t g : Nat} {I : pHI} {J : pHJ} {Q : pQ} {x : Int32} (hR : Rel t g I) (hq : ∀ v I1 J1 t1 g1, zM l X yX12_fewest mX12_fewest 5 [.ref 67, .int x] v I1 J1 t1 g1 → Q (some (.int v)) I1 J1 (pR t1 g1)) : pM l X yX11_fewest mX11_fewest 5 [.ref 0, .int x] pK pK I J (pR t g) Q := by
  obtain ⟨H, T, p0, p1, pc, pm, od, dd, uu, G, F, Bx, nL, L, mk, um, M, n0, Bt, hD⟩ := hR
  obtain ⟨⟨ht, hg, htg⟩, ⟨⟨hH, hmH, hr⟩, ⟨hFc, hFm, hwc, hwm⟩, hF0, hF1, hp0, hp1, hw0, hw1⟩, ⟨hS, hmS, hrT⟩, ⟨hK, hmK, hGT, hGr⟩, ⟨hB, hmB, hBr⟩, ⟨hL, hmL⟩, ⟨hM, hmM, hrM⟩, ⟨hTp, hmTp⟩, hf1, hf2⟩ := id hD
  have h18 := hr.2.1
  have h20 := hr.1.2
  have hL8 := hL.2.1
  refine M_X11_fewest ht hH hr hS hrT hFc hwc (fun a ha e G0 hG0 I1 f0 hL1 => ?_) (fun a ha e ng I1 f0 hL1 => ?_) (fun ng I1 f0 hL1 => ?_)
  all_goals
    have f : sLk I I1 := fun c k a b e1 e2 => f0 c k a (by omega) e1 e2
    obtain ⟨hmH1, hF01, hF11, hmS1⟩ := hD.lmd f
  · refine hq _ _ _ _ _ (fun Q2 h => M_X12_fewest hmH1 hr hrT hF01 hw0 hp0 hmS1 (fun a' ha' e' G' hG' I2 f2 hL2 => ?_) (fun a' ha' e' n' => ?_) (fun n' => absurd e (n' a ha)))
    · obtain rfl := nq_eq (by omega) (by omega) (e'.symm.trans e)
      obtain rfl := fwB_u hG0 hG'
      exact h _ _ (hD.lst f f2 hL1 hL2).ex
    · obtain rfl := nq_eq (by omega) (by omega) (e'.symm.trans e)
      exact absurd hG0.1.2 (n' _ hG0.1.1)
  · refine hq _ _ _ _ _ (fun Q2 h => M_X12_fewest hmH1 hr hrT hF01 hw0 hp0 hmS1 (fun a' ha' e' G' hG' I2 f2 hL2 => ?_) (fun a' ha' e' n' I2 f2 hL2 => ?_) (fun n' => absurd e (n' a ha)))
    · obtain rfl := nq_eq (by omega) (by omega) (e'.symm.trans e)
      exact absurd hG'.1.2 (ng _ hG'.1.1)
    · exact h _ _ (hD.lst f f2 hL1 hL2).ex
  · exact hq _ _ _ _ _ (fun Q2 h => M_X12_fewest hmH1 hr hrT hF01 hw0 hp0 hmS1 (fun a' ha' e' => absurd e' (ng a' ha')) (fun a' ha' e' => absurd e' (ng a' ha')) (fun n' I2 f2 hL2 => h _ _ (hD.lst f f2 hL1 hL2).ex))
set_option maxHeartbeats 400000 in
set_option maxRecDepth 100000 in
theorem Z_care {l : Launch} {X : pX} {t g : Nat} {I : pHI} {J : pHJ} {Q : pQ} (hR : Rel t g I) (hq : ∀ v I1 J1 t1 g1, zM l X yX12_care mX12_care 2 [.ref 67] v I1 J1 t1 g1 → Q (some (.int v)) I1 J1 (pR t1 g1)) : pM l X yX11_care mX11_care 4 [.ref 0] pK pK I J (pR t g) Q := by
  obtain ⟨H, T, p0, p1, pc, pm, od, dd, uu, G, F, Bx, nL, L, mk, um, M, n0, Bt, hD⟩ := hR
  obtain ⟨⟨ht, hg, htg⟩, ⟨⟨hH, hmH, hr⟩, ⟨hFc, hFm, hwc, hwm⟩, hF0, hF1, hp0, hp1, hw0, hw1⟩, ⟨hS, hmS, hrT⟩, ⟨hK, hmK, hGT, hGr⟩, ⟨hB, hmB, hBr⟩, ⟨hL, hmL⟩, ⟨hM, hmM, hrM⟩, ⟨hTp, hmTp⟩, hf1, hf2⟩ := id hD
  have h18 := hr.2.1
  have h20 := hr.1.2
  have hL8 := hL.2.1
  refine M_X11_care ht hH hr hS hrT (fun I1 f0 hL1 => ?_)
  have f : sLk I I1 := fun c k a b e1 e2 => f0 c k a (by omega) e1 e2
  obtain ⟨hmH1, hF01, hF11, hmS1⟩ := hD.lmd f
  exact hq _ _ _ _ _ (fun Q2 h => M_X12_care hmH1 hr hrT hmS1 (fun I2 f2 hL2 => h _ _ (hD.lst f f2 hL1 hL2).ex))
set_option maxHeartbeats 400000 in
set_option maxRecDepth 100000 in
theorem Z_proxy {l : Launch} {X : pX} {t g : Nat} {I : pHI} {J : pHJ} {Q : pQ} (hR : Rel t g I) (hq : ∀ v I1 J1 t1 g1, zM l X yX12_proxy mX12_proxy 6 [.ref 67] v I1 J1 t1 g1 → Q (some (.int v)) I1 J1 (pR t1 g1)) : pM l X yX11_proxy mX11_proxy 5 [.ref 0] pK pK I J (pR t g) Q := by
  obtain ⟨H, T, p0, p1, pc, pm, od, dd, uu, G, F, Bx, nL, L, mk, um, M, n0, Bt, hD⟩ := hR
  obtain ⟨⟨ht, hg, htg⟩, ⟨⟨hH, hmH, hr⟩, ⟨hFc, hFm, hwc, hwm⟩, hF0, hF1, hp0, hp1, hw0, hw1⟩, ⟨hS, hmS, hrT⟩, ⟨hK, hmK, hGT, hGr⟩, ⟨hB, hmB, hBr⟩, ⟨hL, hmL⟩, ⟨hM, hmM, hrM⟩, ⟨hTp, hmTp⟩, hf1, hf2⟩ := id hD
  have h18 := hr.2.1
  have h20 := hr.1.2
  have hL8 := hL.2.1
  refine M_X11_proxy ht hH hr hS hrT hFc hwc (fun I1 f0 hL1 => ?_)
  have f : sLk I I1 := fun c k a b e1 e2 => f0 c k a (by omega) e1 e2
  obtain ⟨hmH1, hF01, hF11, hmS1⟩ := hD.lmd f
  exact hq _ _ _ _ _ (fun Q2 h => M_X12_proxy hmH1 hr hrT hmS1 hF01 hw0 hp0 (fun I2 f2 hL2 => h _ _ (hD.lst f f2 hL1 hL2).ex))
set_option maxHeartbeats 400000 in
set_option maxRecDepth 100000 in
theorem Z_let {l : Launch} {X : pX} {t g : Nat} {I : pHI} {J : pHJ} {Q : pQ} (hR : Rel t g I) (hq : ∀ v I1 J1 t1 g1, zM l X yX12_let mX12_let 2 [.ref 67] v I1 J1 t1 g1 → Q (some (.int v)) I1 J1 (pR t1 g1)) : pM l X yX11_let mX11_let 4 [.ref 0] pK pK I J (pR t g) Q := by
  obtain ⟨H, T, p0, p1, pc, pm, od, dd, uu, G, F, Bx, nL, L, mk, um, M, n0, Bt, hD⟩ := hR
  obtain ⟨⟨ht, hg, htg⟩, ⟨⟨hH, hmH, hr⟩, ⟨hFc, hFm, hwc, hwm⟩, hF0, hF1, hp0, hp1, hw0, hw1⟩, ⟨hS, hmS, hrT⟩, ⟨hK, hmK, hGT, hGr⟩, ⟨hB, hmB, hBr⟩, ⟨hL, hmL⟩, ⟨hM, hmM, hrM⟩, ⟨hTp, hmTp⟩, hf1, hf2⟩ := id hD
  have h18 := hr.2.1
  have h20 := hr.1.2
  have hL8 := hL.2.1
  refine M_X11_let ht hH hr (fun e => ?_) (fun hp I1 m V f0 hL1 hm hV => ?_)
  · have f : sLk I (pu I 45 1 (nI 0)) := fun c k a b e1 e2 => by rw [pu_ne _ _ _ e1]
    obtain ⟨hmH1, hF01, hF11, hmS1⟩ := hD.lmd f
    refine hq _ _ _ _ _ (fun Q2 h => M_X12_let hmH1 hr (fun e' I2 f2 hL2 => ?_) (fun hp' => absurd e (by omega)))
    exact h _ _ (hD.lst (L' := fun _ => 0) f f2 ⟨by rw [pu_at, if_pos ⟨rfl, rfl⟩], by omega, fun i hi => absurd hi (by omega)⟩ ⟨hL2, by omega, fun i hi => absurd hi (by omega)⟩).ex
  · have f : sLk I I1 := fun c k a b e1 e2 => f0 c k (by omega) e1 e2
    obtain ⟨hmH1, hF01, hF11, hmS1⟩ := hD.lmd f
    refine hq _ _ _ _ _ (fun Q2 h => M_X12_let hmH1 hr (fun e' => absurd e' (by omega)) (fun hp' I2 m' V' f2 hL2 hm' hV' hA => ?_))
    obtain ⟨rfl, rfl⟩ := bT_u hV hV'
    exact h _ _ (hD.lst f f2 hL1 ⟨hL2, h18, hA⟩).ex
set_option maxHeartbeats 400000 in
set_option maxRecDepth 100000 in
theorem Z_image {l : Launch} {X : pX} {t g : Nat} {I : pHI} {J : pHJ} {Q : pQ} {x : Int32} (hR : Rel t g I) (hq : ∀ v I1 J1 t1 g1, zM l X yX12_image mX12_image 1 [.ref 67, .int x] v I1 J1 t1 g1 → Q (some (.int v)) I1 J1 (pR t1 g1)) : pM l X yX11_image mX11_image 3 [.ref 0, .int x] pK pK I J (pR t g) Q := by
  obtain ⟨H, T, p0, p1, pc, pm, od, dd, uu, G, F, Bx, nL, L, mk, um, M, n0, Bt, hD⟩ := hR
  obtain ⟨⟨ht, hg, htg⟩, ⟨⟨hH, hmH, hr⟩, ⟨hFc, hFm, hwc, hwm⟩, hF0, hF1, hp0, hp1, hw0, hw1⟩, ⟨hS, hmS, hrT⟩, ⟨hK, hmK, hGT, hGr⟩, ⟨hB, hmB, hBr⟩, ⟨hL, hmL⟩, ⟨hM, hmM, hrM⟩, ⟨hTp, hmTp⟩, hf1, hf2⟩ := id hD
  have h18 := hr.2.1
  have h20 := hr.1.2
  have hL8 := hL.2.1
  refine M_X11_image hS hB (fun b hb e I1 f hB1 => ?_) (fun ng => ?_)
  · refine hq _ _ _ _ _ (fun Q2 h => M_X12_image (hmS.fr (fun k => f _ _ (by omega) (by omega))) (hmB.off (fun k => f _ _ (by omega) (by omega)) (fun k => f _ _ (by omega) (by omega))) (fun b' hb' e' I2 f2 hB2 => ?_) (fun n' => absurd e (n' b hb)))
    obtain rfl := nq_eq (by omega) (by omega) (e'.symm.trans e)
    refine h _ _ (hD.box (fun c k z => ?_) (hB1.off (fun k => f2 _ _ (by omega) (by omega)) (fun k => f2 _ _ (by omega) (by omega))) hB2 (fun i hi hF => ?_)).ex
    · unfold pcB at z
      exact (f2 c k (by omega) (by omega)).trans (f c k (by omega) (by omega))
    · by_cases z : i = b'
      · rw [if_pos z]; exact hrT
      · rw [if_neg z]
        refine hBr i hi ?_
        simpa [z] using hF
  · exact hq _ _ _ _ _ (fun Q2 h => M_X12_image hmS hmB (fun b' hb' e' => absurd e' (ng b' hb')) (fun n' => h _ _ hD.ex))
set_option maxHeartbeats 400000 in
set_option maxRecDepth 100000 in
theorem Z_chalk {l : Launch} {X : pX} {t g : Nat} {I : pHI} {J : pHJ} {Q : pQ} {x b2 : Int32} (hR : Rel t g I) (hb2 : b2 = 0 ∨ b2 = 1) (hq : ∀ v I1 J1 t1 g1, zM l X yX12_chalk mX12_chalk 1 [.ref 67, .int x, .int b2] v I1 J1 t1 g1 → Q (some (.int v)) I1 J1 (pR t1 g1)) : pM l X yX11_chalk mX11_chalk 1 [.ref 0, .int x, .int b2] pK pK I J (pR t g) Q := by
  obtain ⟨H, T, p0, p1, pc, pm, od, dd, uu, G, F, Bx, nL, L, mk, um, M, n0, Bt, hD⟩ := hR
  obtain ⟨⟨ht, hg, htg⟩, ⟨⟨hH, hmH, hr⟩, ⟨hFc, hFm, hwc, hwm⟩, hF0, hF1, hp0, hp1, hw0, hw1⟩, ⟨hS, hmS, hrT⟩, ⟨hK, hmK, hGT, hGr⟩, ⟨hB, hmB, hBr⟩, ⟨hL, hmL⟩, ⟨hM, hmM, hrM⟩, ⟨hTp, hmTp⟩, hf1, hf2⟩ := id hD
  have h18 := hr.2.1
  have h20 := hr.1.2
  have hL8 := hL.2.1
  have hmb : ∃ b : Bool, b2 = nI b.toNat := by
    rcases hb2 with e | e
    · exact ⟨false, e.trans nI_0.symm⟩
    · exact ⟨true, e.trans nI_1'.symm⟩
  obtain ⟨bb, hbb⟩ := hmb
  have hm30 := hrM.1
  refine M_X11_chalk ht hH.1 hr.1.2 hM.1 hM.2.1 hrM.1 hb2 (fun v e hv hm => ?_) (fun ng => ?_)
  · refine hq _ _ _ _ _ (fun Q2 h => ?_)
    have hst2 : pu (pu (pu (pu (pu (pu I 48 mk (nI 1)) 49 mk b2) 50 mk (nI v)) 51 mk (nI um)) 52 mk (-1)) 47 5 (nI (mk + 1)) 67 41 = nI (H 0) := by
      simp only [pu_at]
      repeat rw [if_neg (by omega)]
      exact hmH.1
    have hc2 : pu (pu (pu (pu (pu (pu I 48 mk (nI 1)) 49 mk b2) 50 mk (nI v)) 51 mk (nI um)) 52 mk (-1)) 47 5 (nI (mk + 1)) 67 64 = nI mk := by
      simp only [pu_at]
      repeat rw [if_neg (by omega)]
      exact hmM.1
    have hu2 : pu (pu (pu (pu (pu (pu I 48 mk (nI 1)) 49 mk b2) 50 mk (nI v)) 51 mk (nI um)) 52 mk (-1)) 47 5 (nI (mk + 1)) 67 65 = nI um := by
      simp only [pu_at]
      repeat rw [if_neg (by omega)]
      exact hmM.2.1
    refine M_X12_chalk (hst2) hr.1.2 hc2 hu2 hrM.1 hb2 (fun v' e' hv' hm' => ?_) (fun n' => n'.elim (fun z => absurd hm (by omega)) (fun z => absurd e (z v hv)))
    obtain rfl := nq_eq (by omega) (by omega) (e'.symm.trans e)
    have hne : ∀ i, i < mk → i ≠ mk := fun i hi => by omega
    refine h _ _ (hD.mrk (m' := mk + 1) (um' := um) (M' := fun i => if i = mk then (true, bb, v', um, none) else M i) (fun c k z => ?_) ⟨?_, ?_, fun i hi => ?_⟩ ⟨?_, ?_, fun i hi => ?_⟩ ⟨by omega, hrM.2.1, fun i hi => ?_⟩).ex
    · unfold pcM at z
      simp only [pu_at]
      repeat rw [if_neg (by omega)]
    · simp [pu_at]
    · simp only [pu_at]; repeat rw [if_neg (by omega)]
      exact hM.2.1
    · by_cases z : i = mk
      · subst z
        simp [pu_at, hbb]
        rfl
      · have hz := hM.2.2 i (by omega)
        simpa [pu_at, z] using hz
    · simp [pu_at]
    · simp only [pu_at]; repeat rw [if_neg (by omega)]
      exact hmM.2.1
    · by_cases z : i = mk
      · subst z
        simp [pu_at, hbb]
        rfl
      · have hz := hmM.2.2 i (by omega)
        simpa [pu_at, z] using hz
    · by_cases z : i = mk
      · simp only [if_pos z]
        refine ⟨by omega, fun q => (by cases q), hrM.2.1, fun v q => (by cases q)⟩
      · simp only [if_neg z]
        exact hrM.2.2 i (by omega)
  · exact hq _ _ _ _ _ (fun Q2 h => M_X12_chalk hmH.1 hr.1.2 hmM.1 hmM.2.1 hrM.1 hb2 (fun v' e' hv' hm' => ng.elim (fun z => absurd hm' (by omega)) (fun z => absurd e' (z v' hv'))) (fun n' => h _ _ hD.ex))
set_option maxHeartbeats 400000 in
set_option maxRecDepth 100000 in
theorem Z_tread {l : Launch} {X : pX} {t g : Nat} {I : pHI} {J : pHJ} {Q : pQ} {x b2 : Int32} (hR : Rel t g I) (hb2 : b2 = 0 ∨ b2 = 1) (hq : ∀ v I1 J1 t1 g1, zM l X yX12_tread mX12_tread 1 [.ref 67, .int x, .int b2] v I1 J1 t1 g1 → Q (some (.int v)) I1 J1 (pR t1 g1)) : pM l X yX11_tread mX11_tread 1 [.ref 0, .int x, .int b2] pK pK I J (pR t g) Q := by
  obtain ⟨H, T, p0, p1, pc, pm, od, dd, uu, G, F, Bx, nL, L, mk, um, M, n0, Bt, hD⟩ := hR
  obtain ⟨⟨ht, hg, htg⟩, ⟨⟨hH, hmH, hr⟩, ⟨hFc, hFm, hwc, hwm⟩, hF0, hF1, hp0, hp1, hw0, hw1⟩, ⟨hS, hmS, hrT⟩, ⟨hK, hmK, hGT, hGr⟩, ⟨hB, hmB, hBr⟩, ⟨hL, hmL⟩, ⟨hM, hmM, hrM⟩, ⟨hTp, hmTp⟩, hf1, hf2⟩ := id hD
  have h18 := hr.2.1
  have h20 := hr.1.2
  have hL8 := hL.2.1
  have hmb : ∃ b : Bool, b2 = nI b.toNat := by
    rcases hb2 with e | e
    · exact ⟨false, e.trans nI_0.symm⟩
    · exact ⟨true, e.trans nI_1'.symm⟩
  obtain ⟨bb, hbb⟩ := hmb
  have hm30 := hrM.1
  refine M_X11_tread hM.1 hM.2.1 hrM.1 hb2 (fun v e hv hm => ?_) (fun ng => ?_)
  · refine hq _ _ _ _ _ (fun Q2 h => ?_)
    have hst2 : pu (pu (pu (pu (pu (pu I 48 mk (nI 0)) 49 mk b2) 50 mk (nI v)) 51 mk (nI um)) 52 mk (-1)) 47 5 (nI (mk + 1)) 67 41 = nI (H 0) := by
      simp only [pu_at]
      repeat rw [if_neg (by omega)]
      exact hmH.1
    have hc2 : pu (pu (pu (pu (pu (pu I 48 mk (nI 0)) 49 mk b2) 50 mk (nI v)) 51 mk (nI um)) 52 mk (-1)) 47 5 (nI (mk + 1)) 67 64 = nI mk := by
      simp only [pu_at]
      repeat rw [if_neg (by omega)]
      exact hmM.1
    have hu2 : pu (pu (pu (pu (pu (pu I 48 mk (nI 0)) 49 mk b2) 50 mk (nI v)) 51 mk (nI um)) 52 mk (-1)) 47 5 (nI (mk + 1)) 67 65 = nI um := by
      simp only [pu_at]
      repeat rw [if_neg (by omega)]
      exact hmM.2.1
    refine M_X12_tread hc2 hu2 hrM.1 hb2 (fun v' e' hv' hm' => ?_) (fun n' => n'.elim (fun z => absurd hm (by omega)) (fun z => absurd e (z v hv)))
    obtain rfl := nq_eq (by omega) (by omega) (e'.symm.trans e)
    have hne : ∀ i, i < mk → i ≠ mk := fun i hi => by omega
    refine h _ _ (hD.mrk (m' := mk + 1) (um' := um) (M' := fun i => if i = mk then (false, bb, v', um, none) else M i) (fun c k z => ?_) ⟨?_, ?_, fun i hi => ?_⟩ ⟨?_, ?_, fun i hi => ?_⟩ ⟨by omega, hrM.2.1, fun i hi => ?_⟩).ex
    · unfold pcM at z
      simp only [pu_at]
      repeat rw [if_neg (by omega)]
    · simp [pu_at]
    · simp only [pu_at]; repeat rw [if_neg (by omega)]
      exact hM.2.1
    · by_cases z : i = mk
      · subst z
        simp [pu_at, hbb]
        rfl
      · have hz := hM.2.2 i (by omega)
        simpa [pu_at, z] using hz
    · simp [pu_at]
    · simp only [pu_at]; repeat rw [if_neg (by omega)]
      exact hmM.2.1
    · by_cases z : i = mk
      · subst z
        simp [pu_at, hbb]
        rfl
      · have hz := hmM.2.2 i (by omega)
        simpa [pu_at, z] using hz
    · by_cases z : i = mk
      · simp only [if_pos z]
        refine ⟨by omega, fun q => (by omega), hrM.2.1, fun v q => (by cases q)⟩
      · simp only [if_neg z]
        exact hrM.2.2 i (by omega)
  · exact hq _ _ _ _ _ (fun Q2 h => M_X12_tread hmM.1 hmM.2.1 hrM.1 hb2 (fun v' e' hv' hm' => ng.elim (fun z => absurd hm' (by omega)) (fun z => absurd e' (z v' hv'))) (fun n' => h _ _ hD.ex))
set_option maxHeartbeats 400000 in
set_option maxRecDepth 100000 in
theorem Z_untell {l : Launch} {X : pX} {t g : Nat} {I : pHI} {J : pHJ} {Q : pQ} {x : Int32} (hR : Rel t g I) (hq : ∀ v I1 J1 t1 g1, zM l X yX12_untell mX12_untell 1 [.ref 67, .int x] v I1 J1 t1 g1 → Q (some (.int v)) I1 J1 (pR t1 g1)) : pM l X yX11_untell mX11_untell 1 [.ref 0, .int x] pK pK I J (pR t g) Q := by
  obtain ⟨H, T, p0, p1, pc, pm, od, dd, uu, G, F, Bx, nL, L, mk, um, M, n0, Bt, hD⟩ := hR
  obtain ⟨⟨ht, hg, htg⟩, ⟨⟨hH, hmH, hr⟩, ⟨hFc, hFm, hwc, hwm⟩, hF0, hF1, hp0, hp1, hw0, hw1⟩, ⟨hS, hmS, hrT⟩, ⟨hK, hmK, hGT, hGr⟩, ⟨hB, hmB, hBr⟩, ⟨hL, hmL⟩, ⟨hM, hmM, hrM⟩, ⟨hTp, hmTp⟩, hf1, hf2⟩ := id hD
  have h18 := hr.2.1
  have h20 := hr.1.2
  have hL8 := hL.2.1
  have hm30 := hrM.1
  have hun : ∀ I1 : pHI, (∀ k, I1 104 k = I 104 k) → ∀ i, i < mk → I1 104 i = -1 ∨ ∃ u0, u0 < 2 ^ 31 ∧ I1 104 i = nI u0 := fun I1 f i hi => by
    rw [f, (hmM.2.2 i hi).2.2.2.2]
    have hb := (hrM.2.2 i hi).2.2.2
    cases e : (M i).2.2.2.2 with
    | none => exact Or.inl rfl
    | some v => exact Or.inr ⟨v, by have := hb v e; omega, rfl⟩
  refine M_X11_untell hM.1 hM.2.1 hrM.1 (fun i e hi hn => ?_) (fun ng => ?_)
  · refine hq _ _ _ _ _ (fun Q2 h => ?_)
    refine M_X12_untell (by rw [pu_ne _ _ _ (by decide)]; exact hmM.1) (by rw [pu_ne _ _ _ (by decide)]; exact hmM.2.1) hrM.1 (hun _ (fun k => by rw [pu_ne _ _ _ (by decide)])) (fun i' e' hi' hn' => ?_) (fun n' => ?_)
    · obtain rfl := nq_eq (by omega) (by omega) (e'.symm.trans e)
      refine h _ _ (hD.mrk (m' := mk) (um' := um) (M' := fun k => if k = i' then ((M i').1, (M i').2.1, (M i').2.2.1, (M i').2.2.2.1, some um) else M k) (fun c k z => ?_) ⟨?_, ?_, fun k hk => ?_⟩ ⟨?_, ?_, fun k hk => ?_⟩ ⟨hrM.1, hrM.2.1, fun k hk => ?_⟩).ex
      · unfold pcM at z
        rw [pu_ne _ _ _ (by omega), pu_ne _ _ _ (by omega)]
      · rw [pu_ne _ _ _ (by decide), pu_ne _ _ _ (by decide)]; exact hM.1
      · rw [pu_ne _ _ _ (by decide), pu_ne _ _ _ (by decide)]; exact hM.2.1
      · have hz := hM.2.2 k hk
        by_cases z : k = i'
        · subst z
          simp only [pu_at, if_pos]
          exact ⟨hz.1, hz.2.1, hz.2.2.1, hz.2.2.2.1, rfl⟩
        · simpa [pu_at, z] using hz
      · rw [pu_ne _ _ _ (by decide), pu_ne _ _ _ (by decide)]; exact hmM.1
      · rw [pu_ne _ _ _ (by decide), pu_ne _ _ _ (by decide)]; exact hmM.2.1
      · have hz := hmM.2.2 k hk
        by_cases z : k = i'
        · subst z
          simp only [pu_at, if_pos]
          exact ⟨hz.1, hz.2.1, hz.2.2.1, hz.2.2.2.1, rfl⟩
        · simpa [pu_at, z] using hz
      · have hz := hrM.2.2 k hk
        by_cases z : k = i'
        · subst z
          simp only [if_pos]
          exact ⟨hz.1, hz.2.1, hz.2.2.1, fun v q => (by cases q; exact hrM.2.1)⟩
        · simp only [if_neg z]; exact hz
    · refine absurd ?_ (n' i hi e)
      rw [pu_ne _ _ _ (by decide), (hmM.2.2 i hi).2.2.2.2, ← (hM.2.2 i hi).2.2.2.2]; exact hn
  · refine hq _ _ _ _ _ (fun Q2 h => M_X12_untell hmM.1 hmM.2.1 hrM.1 (hun _ (fun _ => rfl)) (fun i' e' hi' hn' => ?_) (fun n' => h _ _ hD.ex))
    refine absurd ?_ (ng i' hi' e')
    rw [(hM.2.2 i' hi').2.2.2.2, ← (hmM.2.2 i' hi').2.2.2.2]; exact hn'
set_option maxHeartbeats 400000 in
set_option maxRecDepth 100000 in
theorem Z_later {l : Launch} {X : pX} {t g : Nat} {I : pHI} {J : pHJ} {Q : pQ} {x : Int32} (hR : Rel t g I) (hq : ∀ v I1 J1 t1 g1, zM l X yX12_later mX12_later 0 [.ref 67, .int x] v I1 J1 t1 g1 → Q (some (.int v)) I1 J1 (pR t1 g1)) : pM l X yX11_later mX11_later 1 [.ref 0, .int x] pK pK I J (pR t g) Q := by
  obtain ⟨H, T, p0, p1, pc, pm, od, dd, uu, G, F, Bx, nL, L, mk, um, M, n0, Bt, hD⟩ := hR
  obtain ⟨⟨ht, hg, htg⟩, ⟨⟨hH, hmH, hr⟩, ⟨hFc, hFm, hwc, hwm⟩, hF0, hF1, hp0, hp1, hw0, hw1⟩, ⟨hS, hmS, hrT⟩, ⟨hK, hmK, hGT, hGr⟩, ⟨hB, hmB, hBr⟩, ⟨hL, hmL⟩, ⟨hM, hmM, hrM⟩, ⟨hTp, hmTp⟩, hf1, hf2⟩ := id hD
  have h18 := hr.2.1
  have h20 := hr.1.2
  have hL8 := hL.2.1
  have hu5 := hrM.2.1
  refine M_X11_later hM.2.1 hu5 (fun b e hb hs => ?_) (fun ng => ?_)
  · refine hq _ _ _ _ _ (fun Q2 h => M_X12_later (by rw [pu_ne _ _ _ (by decide)]; exact hmM.2.1) hu5 (fun b' e' hb' hs' => ?_) (fun n' => absurd hs (n' b e hb)))
    obtain rfl := nq_eq (by omega) (by omega) (e'.symm.trans e)
    refine h _ _ (hD.mrk (m' := mk) (um' := um + b') (M' := M) (fun c k z => ?_) ⟨?_, ?_, fun k hk => ?_⟩ ⟨?_, ?_, fun k hk => ?_⟩ ⟨hrM.1, hs, hrM.2.2⟩).ex
    · unfold pcM at z
      rw [pu_at, if_neg (by omega), pu_at, if_neg (by omega)]
    · rw [pu_at, if_neg (by omega), pu_at, if_neg (by omega)]; exact hM.1
    · rw [pu_at, if_neg (by omega), pu_at, if_pos ⟨rfl, rfl⟩]
    · have hz := hM.2.2 k hk
      simpa [pu_at] using hz
    · rw [pu_at, if_neg (by omega), pu_at, if_neg (by omega)]; exact hmM.1
    · rw [pu_at, if_pos ⟨rfl, rfl⟩]
    · have hz := hmM.2.2 k hk
      simpa [pu_at] using hz
  · exact hq _ _ _ _ _ (fun Q2 h => M_X12_later hmM.2.1 hu5 (fun b' e' hb' hs' => absurd hs' (ng b' e' hb')) (fun n' => h _ _ hD.ex))
set_option maxHeartbeats 400000 in
set_option maxRecDepth 100000 in
theorem Z_feed {l : Launch} {X : pX} {t g : Nat} {I : pHI} {J : pHJ} {Q : pQ} {x1 x2 x3 x4 x5 : Int32} (hR : Rel t g I) (hq : ∀ v I1 J1 t1 g1, zM l X yX12_feed mX12_feed 1 [.ref 67, .int x1, .int x2, .int x3, .int x4, .int x5] v I1 J1 t1 g1 → Q (some (.int v)) I1 J1 (pR t1 g1)) : pM l X yX11_feed mX11_feed 1 [.ref 0, .int x1, .int x2, .int x3, .int x4, .int x5] pK pK I J (pR t g) Q := by
  obtain ⟨H, T, p0, p1, pc, pm, od, dd, uu, G, F, Bx, nL, L, mk, um, M, n0, Bt, hD⟩ := hR
  obtain ⟨⟨ht, hg, htg⟩, ⟨⟨hH, hmH, hr⟩, ⟨hFc, hFm, hwc, hwm⟩, hF0, hF1, hp0, hp1, hw0, hw1⟩, ⟨hS, hmS, hrT⟩, ⟨hK, hmK, hGT, hGr⟩, ⟨hB, hmB, hBr⟩, ⟨hL, hmL⟩, ⟨hM, hmM, hrM⟩, ⟨hTp, hmTp⟩, hf1, hf2⟩ := id hD
  have h18 := hr.2.1
  have h20 := hr.1.2
  have hL8 := hL.2.1
  refine M_X11_feed hTp (fun hn I1 f hT1 => ?_) (fun ng => ?_)
  · refine hq _ _ _ _ _ (fun Q2 h => M_X12_feed (⟨(f _ _ (by omega) (by omega)).trans hmTp.1, hmTp.2.1, fun i hi => by rw [f _ _ (by omega) (by omega)]; exact hmTp.2.2 i hi⟩ : mTp I1 n0 Bt) (fun hn' I2 f2 hT2 => ?_) (fun n' => absurd hn (by omega)))
    refine h _ _ (hD.tap (fun c k z => ?_) ⟨(f2 _ _ (by omega) (by omega)).trans hT1.1, hT1.2.1, fun i hi => by rw [f2 _ _ (by omega) (by omega)]; exact hT1.2.2 i hi⟩ hT2).ex
    unfold pcT at z
    exact (f2 c k (by omega) (by omega)).trans (f c k (by omega) (by omega))
  · exact hq _ _ _ _ _ (fun Q2 h => M_X12_feed hmTp (fun hn' => absurd hn' (by omega)) (fun n' => h _ _ hD.ex))
set_option maxHeartbeats 400000 in
set_option maxRecDepth 100000 in
theorem Z_end {l : Launch} {X : pX} {t g : Nat} {I : pHI} {J : pHJ} {Q : pQ} {x : Int32} (hR : Rel t g I) (hq : ∀ v I1 J1 t1 g1, zM l X yX12_end mX12_end 0 [.ref 67, .int x] v I1 J1 t1 g1 → Q (some (.int v)) I1 J1 (pR t1 g1)) : pM l X yX11_end mX11_end 0 [.ref 0, .int x] pK pK I J (pR t g) Q := by
  obtain ⟨H, T, p0, p1, pc, pm, od, dd, uu, G, F, Bx, nL, L, mk, um, M, n0, Bt, hD⟩ := hR
  obtain ⟨⟨ht, hg, htg⟩, ⟨⟨hH, hmH, hr⟩, ⟨hFc, hFm, hwc, hwm⟩, hF0, hF1, hp0, hp1, hw0, hw1⟩, ⟨hS, hmS, hrT⟩, ⟨hK, hmK, hGT, hGr⟩, ⟨hB, hmB, hBr⟩, ⟨hL, hmL⟩, ⟨hM, hmM, hrM⟩, ⟨hTp, hmTp⟩, hf1, hf2⟩ := id hD
  have h18 := hr.2.1
  have h20 := hr.1.2
  have hL8 := hL.2.1
  have hn16 := hTp.2.1
  refine M_X11_end (fun e1 e2 => ?_) (fun ng => ?_)
  · refine hq _ _ _ _ _ (fun Q2 h => M_X12_end (fun e1' e2' => ?_) (fun n' => ?_))
    · obtain z | ⟨k, hk, rfl⟩ := nI_or x
      · exact absurd z e1
      rw [hTp.1] at e2
      have hkn := nq_nlt (by omega) (by omega) e2
      refine h _ _ (hD.tap (n' := k) (Bt' := Bt) (fun c k z => ?_) ⟨?_, by omega, fun i hi => ?_⟩ ⟨?_, by omega, fun i hi => ?_⟩).ex
      · unfold pcT at z
        rw [pu_at, if_neg (by omega), pu_at, if_neg (by omega)]
      · rw [pu_at, if_neg (by omega), pu_at, if_pos ⟨rfl, rfl⟩]
      · rw [pu_ne _ _ _ (by decide), pu_ne _ _ _ (by decide)]; exact hTp.2.2 i (by omega)
      · rw [pu_at, if_pos ⟨rfl, rfl⟩]
      · rw [pu_ne _ _ _ (by decide), pu_ne _ _ _ (by decide)]; exact hmTp.2.2 i (by omega)
    · rw [pu_ne _ _ _ (by decide), hmTp.1, ← hTp.1] at n'
      exact absurd n' (fun q => q.elim e1 e2)
  · refine hq _ _ _ _ _ (fun Q2 h => M_X12_end (fun e1' e2' => ?_) (fun n' => h _ _ hD.ex))
    rw [hmTp.1, ← hTp.1] at e2'
    exact absurd ng (fun q => q.elim e1' e2')
