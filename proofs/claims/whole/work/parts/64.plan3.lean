def mxB (b : Nat) : Option Nat → Nat
  | none => b
  | some x => max b x
theorem mxB_I {o : Option Nat} {b : Nat} (ho : ∀ x, o = some x → x < 2 ^ 31) (hb : b < 2 ^ 31) : (if nI b < oI o then oI o else nI b) = nI (mxB b o) := by
  cases o with
  | none =>
    rw [show oI none = (-1 : Int32) from rfl, if_neg]
    · rfl
    · intro h
      rw [Int32.lt_iff_toInt_lt, nI_toInt hb] at h
      have h3 : (-1 : Int32).toInt = -1 := by decide +kernel
      omega
  | some x => rw [show oI (some x) = nI x from rfl, nI_max b x hb (ho x rfl)]; rfl
theorem isM_or {A B C : List Nat → Prop} {f : List Nat → Nat} {o : Option Nat} {b : Nat} (h : isM A f (some b)) (h2 : isM B f o) (e : ∀ L, C L ↔ A L ∨ B L) : isM C f (some (mxB b o)) := by
  cases o with
  | none => exact isM_same h h2 e
  | some x => exact isM_step h h2.1 h2.2 e
def upL (n q : Nat) (L : List Nat) : Prop := okL n L ∧ smL L ≤ q
theorem up_succ {n q : Nat} (L : List Nat) : upL n (q + 1) L ↔ upL n q L ∨ anyL n (q + 1) L := by
  unfold upL anyL
  constructor
  · rintro ⟨h1, h2⟩
    by_cases e : smL L = q + 1
    · exact Or.inr ⟨h1, e⟩
    · exact Or.inl ⟨h1, by omega⟩
  · rintro (⟨h1, h2⟩ | ⟨h1, h2⟩)
    · exact ⟨h1, by omega⟩
    · exact ⟨h1, by omega⟩
theorem up_0 {n : Nat} {f : List Nat → Nat} (hf : f [] = 0) : isM (upL n 0) f (some 0) := by
  refine ⟨⟨[], ⟨okL_nil n, Nat.le_refl _⟩, hf⟩, fun L hL => ?_⟩
  have := smL_len hL.1
  have h2 := hL.2
  rw [List.length_eq_zero_iff.mp (show L.length = 0 by omega), hf]
  exact Nat.le_refl _
theorem any_0 {n : Nat} {f : List Nat → Nat} (hf : f [] = 0) : isM (anyL n 0) f (some 0) :=
  isM_cg (up_0 hf) (fun L => ⟨fun h => ⟨h.1, by have := h.2; omega⟩, fun h => ⟨h.1, by have := h.2; omega⟩⟩)
theorem ok_lg {H T : pN} {a : Nat} (h20 : H 0 ≤ 20) {L : List Nat} (h : okL (H 0) L) (h2 : smL L ≤ T a) : okL (lgN H T a) L := by
  have key : ∀ (M : List Nat) (x : Nat), x ∈ M → x ≤ smL M := by
    intro M
    induction M with
    | nil => intro x hx; exact absurd hx (by simp)
    | cons y M ih =>
      intro x hx
      rcases List.mem_cons.mp hx with e | e
      · subst e; simp only [smL]; omega
      · have := ih x e; simp only [smL]; omega
  intro x hx
  have h3 := h x hx
  have h4 := key L x hx
  unfold lgN
  omega
theorem ok_up {m n : Nat} (h : m ≤ n) {L : List Nat} (ho : okL m L) : okL n L := fun x hx => ⟨(ho x hx).1, Nat.le_trans (ho x hx).2 h⟩
set_option maxHeartbeats 400000 in
set_option maxRecDepth 100000 in
theorem L_X7_mostCounted {l : Launch} {X : pX} {t g : Nat} {I : pHI} {J : pHJ} {Q : pQ} {a : Nat} {H T : pN} {p : pP} (ht : isH t) (hH : cH t H I) (hr : rH H) (hS : cS 33 T I) (hrT : rS 999 H T) (hF : cF (t + 6) p I) (hw : wfp p 0) (ha : a < H 1) (hq : ∀ I2 x, sN I I2 → isM (upL (lgN H T a) (T a)) (vlL (gC p T) 0) (some x) → x ≤ 39960 → Q (some (.int (nI x))) I2 J (pR t g)) : ∀ (fu : Nat) (j : Nat) (x : Nat) (I1 : pHI), T a - j < fu → (j ≤ T a) → (sN I I1) → (ctI I1 p T (T a) (lgN H T a)) → (isM (upL (lgN H T a) j) (vlL (gC p T) 0) (some x)) → (∀ q, q < j + 1 → mxI I1 (0 * 41 + q) (anyL (lgN H T a) q) (vlL (gC p T) 0)) → pE l X mX7_mostCounted 4 pK 20 [some (.ref 59), some (.ref t), some (.ref 33), some (.int (nI a)), some (.int (nI x)), some (.int (nI (j + 1)))] [] pK I1 J (pR t g) Q := by
  intro fu
  induction fu with
  | zero => intro j x I1 hn; exact absurd hn (Nat.not_lt_zero _)
  | succ fu ih =>
    intro j x I1 hn hj hx hc hm hv
    have hn8 := hr.2.1
    have hn20 := hr.1.2
    have hT40 := (hrT.2.2.2.2 a (by omega)).1
    have hlg : lgN H T a ≤ 20 ∧ lgN H T a ≤ H 0 ∧ lgN H T a ≤ T a := by unfold lgN; omega
    have hxb := isM_le hm (fun L hL => hL) (by omega) x rfl
    refine pE_iload dX7_mostCounted_20 rfl ?_
    refine pE_aload_n dX7_mostCounted_22 rfl rfl ?_
    refine pE_getI dX7_mostCounted_23 flX7_9 rfl (Or.inl rfl) (by first | assumption | rfl) ?_
    rw [hc.1]
    refine pE_icmp_gt (tgt := 63) dX7_mostCounted_26 (by decide) (fun h26 => ?_) (fun h26 => ?_)
    · have g26 := nq_lt (by omega) (by omega) h26
      refine pE_iload dX7_mostCounted_63 rfl ?_
      refine pE_iret dX7_mostCounted_65 rfl rfl ?_
      obtain rfl : j = T a := by omega
      exact hq _ x hx hm hxb
    · have g26 := nq_nlt (by omega) (by omega) h26
      refine pE_aload_n dX7_mostCounted_29 rfl rfl ?_
      refine pE_getR dX7_mostCounted_30 flX7_22 rfl (by first | assumption | rfl) (by first | assumption | rfl) ?_
      refine pE_iload dX7_mostCounted_33 rfl ?_
      refine pE_aload_n dX7_mostCounted_35 rfl rfl ?_
      refine pE_iconst (v := nI 0) dX7_mostCounted_36 rfl ?_
      refine pE_iload dX7_mostCounted_37 rfl ?_
      refine pE_callV (d' := 1) (as := [_, _]) dX7_mostCounted_39 lkX7_58 (cwX7_mostOfLast _ _) ivX7_mostOfLast ⟨_, rfl, rfl⟩ (by first | assumption | rfl) rfl rfl (Nat.le_of_ble_eq_true rfl) (by decide) pKK ?_
      refine M_X7_mostOfLast hc hT40 hlg.1 hv (fun q L h => h.2) (fun q L h => h.1) (by omega) (by omega) (fun o om ob => ?_)
      have om2 := isM_cg om (fun L => any_ex (by omega) L)
      refine pE_iastoreN dX7_mostCounted_42 (by first | assumption | rfl) (by first | assumption | omega) (by omega) ?_
      refine pE_iload dX7_mostCounted_43 rfl ?_
      refine pE_aload_n dX7_mostCounted_45 rfl rfl ?_
      refine pE_getR dX7_mostCounted_46 flX7_22 rfl (by first | assumption | rfl) (by first | assumption | rfl) ?_
      refine pE_iload dX7_mostCounted_49 rfl ?_
      refine pE_ialoadN dX7_mostCounted_51 (by first | assumption | rfl) (by first | assumption | omega) (by omega) ?_
      rw [show pu I1 61 (j + 1) (oI o) 61 (j + 1) = oI o by rw [pu_at, if_pos ⟨rfl, rfl⟩]]
      refine pE_max dX7_mostCounted_52 lkX7_41 (by decide) (Nat.le_of_ble_eq_true rfl) ?_
      rw [mxB_I (fun x e => by have := ob x e; omega) (by omega)]
      refine pE_istore (lc' := [_, _, _, _, some (.int _), _]) dX7_mostCounted_55 (Nat.le_of_ble_eq_true rfl) rfl rfl ?_
      refine pE_iincN (c0 := 1) (lc' := [_, _, _, _, _, some (.int _)]) dX7_mostCounted_57 rfl rfl rfl rfl ?_
      refine pE_goto (tgt := 20) dX7_mostCounted_60 (by decide) ?_
      refine ih (j + 1) _ _ (by omega) (by omega) (hx.p (by decide)) hc.p61 (isM_or hm om2 (fun L => up_succ L)) (fun q hq2 => ?_)
      by_cases e : q = j + 1
      · subst e
        exact ⟨o, by rw [pu_at, if_pos ⟨rfl, by omega⟩], om2, ob⟩
      · obtain ⟨o2, q1, q2, q3⟩ := hv q (by omega)
        exact ⟨o2, by rw [pu_at, if_neg (by omega)]; exact q1, q2, q3⟩
set_option maxHeartbeats 400000 in
set_option maxRecDepth 100000 in
theorem M_X7_mostCounted {l : Launch} {X : pX} {t g : Nat} {I : pHI} {J : pHJ} {Q : pQ} {a : Nat} {H T : pN} {p : pP} (ht : isH t) (hH : cH t H I) (hr : rH H) (hS : cS 33 T I) (hrT : rS 999 H T) (hF : cF (t + 6) p I) (hw : wfp p 0) (ha : a < H 1) (hq : ∀ I2 x, sN I I2 → isM (upL (lgN H T a) (T a)) (vlL (gC p T) 0) (some x) → x ≤ 39960 → Q (some (.int (nI x))) I2 J (pR t g)) : pM l X yX7_mostCounted mX7_mostCounted 4 [.ref 59, .ref t, .ref 33, .int (nI a)] pK pK I J (pR t g) Q := by
  refine pM_of rfl (fun h => by cases h) rfl pKM (Nat.le_of_ble_eq_true rfl) ?_
  refine pE_aload_n dX7_mostCounted_0 rfl rfl ?_
  refine pE_aload_n dX7_mostCounted_1 rfl rfl ?_
  refine pE_aload_n dX7_mostCounted_2 rfl rfl ?_
  refine pE_iload_n dX7_mostCounted_3 rfl rfl ?_
  refine pE_callV (d' := 3) (as := [_, _, _]) dX7_mostCounted_4 lkX7_54 (cwX7_prepare _ _) ivX7_prepare ⟨_, rfl, rfl⟩ (by first | assumption | rfl) rfl rfl (Nat.le_of_ble_eq_true rfl) (by decide) pKK ?_
  refine M_X7_prepare ht hH hr hS hrT hF hw ha (fun I1 f1 c1 n1 => ?_)
  refine pE_aload_n dX7_mostCounted_7 rfl rfl ?_
  refine pE_getR dX7_mostCounted_8 flX7_22 rfl (by first | assumption | rfl) (by first | assumption | rfl) ?_
  refine pE_iconst (v := nI 0) dX7_mostCounted_11 rfl ?_
  refine pE_iconst (v := nI 0) dX7_mostCounted_12 rfl ?_
  refine pE_iastoreN dX7_mostCounted_13 (by first | assumption | rfl) (by first | assumption | omega) (by omega) ?_
  refine pE_iconst (v := nI 0) dX7_mostCounted_14 rfl ?_
  refine pE_istore (lc' := [_, _, _, _, some (.int _), _]) dX7_mostCounted_15 (Nat.le_of_ble_eq_true rfl) rfl rfl ?_
  refine pE_iconst (v := nI 1) dX7_mostCounted_17 rfl ?_
  refine pE_istore (lc' := [_, _, _, _, _, some (.int _)]) dX7_mostCounted_18 (Nat.le_of_ble_eq_true rfl) rfl rfl ?_
  refine L_X7_mostCounted ht hH hr hS hrT hF hw ha hq (T a + 1) 0 0 _ (by omega) (by omega) (f1.p (by decide)) c1.p61 (up_0 rfl) (fun q hq2 => ?_)
  obtain rfl : q = 0 := by omega
  exact ⟨some 0, by rw [pu_at, if_pos ⟨rfl, rfl⟩]; rfl, any_0 rfl, fun x h => by cases h; omega⟩
set_option maxHeartbeats 400000 in
set_option maxRecDepth 100000 in
theorem M_X11_ladder {l : Launch} {X : pX} {t g : Nat} {I : pHI} {J : pHJ} {Q : pQ} {x : Int32} {H T : pN} {p : pP} (ht : isH t) (hH : cH t H I) (hr : rH H) (hS : cS 33 T I) (hrT : rS 999 H T) (hF : cF (t + 6) p I) (hw : wfp p 0) (h1 : ∀ a, a < H 1 → x = nI a → ∀ I2 y, sN I I2 → isM (upL (lgN H T a) (T a)) (vlL (gC p T) 0) (some y) → Q (some (.int (nI y))) I2 J (pR t g)) (h0 : (∀ a, a < H 1 → x ≠ nI a) → Q (some (.int (-1))) I J (pR t g)) : pM l X yX11_ladder mX11_ladder 5 [.ref 0, .int x] pK pK I J (pR t g) Q := by
  obtain ⟨fHFht0, fHFht1, fHFht2, fHFht3, fHFht4, fHFht5, fHFht6, fHFht7, fHFht8, fHFht9, fHFht10, fHFht11, fHFht12, fHFht13, fHFht14, fHFht15, fHFht16, fHFht17, fHFht18, fHFht19, fHFht20, fHFht21, fHFht22, fHFht23, fHFht24, fHFht25, fHFht26⟩ := HF t g ht
  refine pM_of rfl (fun h => by cases h) rfl pKM (Nat.le_of_ble_eq_true rfl) ?_
  refine pE_aload_n dX11_ladder_0 rfl rfl ?_
  refine pE_getR dX11_ladder_1 flX11_29 rfl (by first | assumption | rfl) (by first | assumption | rfl) ?_
  refine pE_iload_n dX11_ladder_4 rfl rfl ?_
  refine pE_callV (d' := 0) (as := [_]) dX11_ladder_5 lkX11_119 (cwX2_hasTenant _ _) ivX2_hasTenant ⟨_, rfl, rfl⟩ (by first | assumption | rfl) rfl rfl (Nat.le_of_ble_eq_true rfl) (by decide) pKK ?_
  refine M_X2_hasTenant (H := H) ht hH.2.2.1 hr.2.1 (fun a ha e1 => ?_) (fun hno => ?_)
  · subst e1
    refine pE_if_ne_t (tgt := 13) dX11_ladder_8 (by decide) nI_1n0 ?_
    refine pE_aload_n dX11_ladder_13 rfl rfl ?_
    refine pE_getR dX11_ladder_14 flX11_77 rfl (by first | assumption | rfl) (by first | assumption | rfl) ?_
    refine pE_aload_n dX11_ladder_17 rfl rfl ?_
    refine pE_getR dX11_ladder_18 flX11_29 rfl (by first | assumption | rfl) (by first | assumption | rfl) ?_
    refine pE_aload_n dX11_ladder_21 rfl rfl ?_
    refine pE_getR dX11_ladder_22 flX11_39 rfl (by first | assumption | rfl) (by first | assumption | rfl) ?_
    refine pE_iload_n dX11_ladder_25 rfl rfl ?_
    refine pE_callV (d' := 4) (as := [_, _, _]) dX11_ladder_26 lkX11_206 (cwX7_mostCounted _ _) ivX7_mostCounted ⟨_, rfl, rfl⟩ (by first | assumption | rfl) rfl rfl (Nat.le_of_ble_eq_true rfl) (by decide) pKK ?_
    refine M_X7_mostCounted ht hH hr hS hrT hF hw ha (fun I2 y f2 m2 _ => ?_)
    refine pE_iret dX11_ladder_29 rfl rfl ?_
    exact h1 a ha rfl I2 y f2 m2
  · refine pE_if_ne_f (tgt := 13) dX11_ladder_8 (by decide) nI_0 ?_
    refine pE_iconst (v := -1) dX11_ladder_11 rfl ?_
    refine pE_iret dX11_ladder_12 rfl rfl ?_
    exact h0 hno
set_option maxHeartbeats 400000 in
set_option maxRecDepth 100000 in
theorem LI_X7_fewestClimbs {l : Launch} {X : pX} {t g : Nat} {I : pHI} {J : pHJ} {Q : pQ} {c : Nat} {a : Nat} {H T : pN} {p : pP} (ht : isH t) (hH : cH t H I) (hr : rH H) (hS : cS 33 T I) (hrT : rS 999 H T) (hF : cF (t + 6) p I) (hw : wfp p 0) (ha : a < H 1) (hd9 : H (32 + a) + T (16 + a) ≤ 9999) (hlk : 0 < lackN H T a) (hL0 : cL 45 1 46 I 0 (fun _ => 0)) (hc3 : c ≤ 3) (h1 : ∀ G, fwB p H T a G → ∀ I1, (∀ c k, ¬ scF c k → ¬ (59 ≤ c ∧ c ≤ 61) → c ≠ 45 → c ≠ 46 → I1 c k = I c k) → cL 45 1 46 I1 G.length (fun i => nI (G.getD i 0)) → Q (some (.int (nI G.length))) I1 J (pR t g)) (h0 : (∀ L, L.length ≤ 4 → ¬ fwV p H T a L) → ∀ I1, sN I I1 → Q (some (.int (-1))) I1 J (pR t g)) (hq : ∀ I2 y7, sN I I2 → ctI I2 p T (T a) (lgN H T a) → (∀ q, q ≤ T a → mxI I2 ((c + 1) * 41 + q) (rowL (lgN H T a) (c + 1) q) (vlL (gC p T) 0)) → (∀ L, okL (lgN H T a) L → smL L ≤ T a → L.length < c + 2 → vlL (gC p T) 0 L < lackN H T a) → (∀ k, (c + 2) * 41 ≤ k → k < 205 → I2 61 k = -1) → pE l X mX7_fewestClimbs 4 pK 130 [some (.ref 59), some (.ref t), some (.ref 33), some (.int (nI a)), some (.ref 45), some (.int (nI (lackN H T a))), some (.int (nI (c + 1))), some (.int y7)] [] pK I2 J (pR t g) Q) : ∀ (fu : Nat) (j : Nat) (I1 : pHI), T a + 1 - j < fu → (c + 1 ≤ j) → (j ≤ 41) → (sN I I1) → (ctI I1 p T (T a) (lgN H T a)) → (∀ q, q ≤ T a → mxI I1 (c * 41 + q) (rowL (lgN H T a) c q) (vlL (gC p T) 0)) → (∀ L, okL (lgN H T a) L → smL L ≤ T a → L.length < c + 1 → vlL (gC p T) 0 L < lackN H T a) → (∀ q, q < j → mxI I1 ((c + 1) * 41 + q) (rowL (lgN H T a) (c + 1) q) (vlL (gC p T) 0)) → (∀ L, rowL (lgN H T a) (c + 1) (smL L) L → smL L < j → smL L ≤ T a → vlL (gC p T) 0 L < lackN H T a) → (∀ k, (c + 1) * 41 + j ≤ k → k < 205 → I1 61 k = -1) → pE l X mX7_fewestClimbs 4 pK 59 [some (.ref 59), some (.ref t), some (.ref 33), some (.int (nI a)), some (.ref 45), some (.int (nI (lackN H T a))), some (.int (nI (c + 1))), some (.int (nI j))] [] pK I1 J (pR t g) Q := by
  intro fu
  induction fu with
  | zero => intro j I1 hn; exact absurd hn (Nat.not_lt_zero _)
  | succ fu ih =>
    intro j I1 hn hjc hj41 hx hc hrow hno hcr hns hng
    have hn8 := hr.2.1
    have hn20 := hr.1.2
    have hT40 := (hrT.2.2.2.2 a (by omega)).1
    have hlg : lgN H T a ≤ 20 ∧ lgN H T a ≤ H 0 ∧ lgN H T a ≤ T a := by unfold lgN; omega
    have hlb := lack_leB hr hrT (show a < 8 by omega)
    refine pE_iload dX7_fewestClimbs_59 rfl ?_
    refine pE_aload_n dX7_fewestClimbs_61 rfl rfl ?_
    refine pE_getI dX7_fewestClimbs_62 flX7_9 rfl (Or.inl rfl) (by first | assumption | rfl) ?_
    rw [hc.1]
    refine pE_icmp_gt (tgt := 130) dX7_fewestClimbs_65 (by decide) (fun h65 => ?_) (fun h65 => ?_)
    · have g65 := nq_lt (by omega) (by omega) h65
      refine hq _ _ hx hc (fun q hq2 => hcr q (by omega)) (fun L ho hs hl => ?_) (fun k k1 k2 => hng k (by omega) k2)
      by_cases e : L.length = c + 1
      · exact hns L ⟨e, ho, rfl⟩ (by omega) hs
      · exact hno L ho hs (by omega)
    · have g65 := nq_nlt (by omega) (by omega) h65
      refine pE_aload_n dX7_fewestClimbs_68 rfl rfl ?_
      refine pE_getR dX7_fewestClimbs_69 flX7_22 rfl (by first | assumption | rfl) (by first | assumption | rfl) ?_
      refine pE_iload dX7_fewestClimbs_72 rfl ?_
      refine pE_bipush (v := nI 41) dX7_fewestClimbs_74 rfl ?_
      refine pE_imulN dX7_fewestClimbs_76 ?_
      refine pE_iload dX7_fewestClimbs_77 rfl ?_
      refine pE_iaddN dX7_fewestClimbs_79 ?_
      refine pE_aload_n dX7_fewestClimbs_80 rfl rfl ?_
      refine pE_iload dX7_fewestClimbs_81 rfl ?_
      refine pE_iconst (v := nI 1) dX7_fewestClimbs_83 rfl ?_
      refine pE_isubN dX7_fewestClimbs_84 (by omega) ?_
      refine pE_iload dX7_fewestClimbs_85 rfl ?_
      refine pE_callV (d' := 1) (as := [_, _]) dX7_fewestClimbs_87 lkX7_58 (cwX7_mostOfLast _ _) ivX7_mostOfLast ⟨_, rfl, rfl⟩ (by first | assumption | rfl) rfl rfl (Nat.le_of_ble_eq_true rfl) (by decide) pKK ?_
      refine M_X7_mostOfLast hc hT40 hlg.1 (A := rowL (lgN H T a) c) (rw := c) (fun q hq2 => hrow q (by omega)) (fun q L h => h.2.2) (fun q L h => h.2.1) (by omega) (by omega) (fun o om ob => ?_)
      have om2 := isM_cg om (fun L => row_ex L)
      refine pE_iastoreN dX7_fewestClimbs_90 (by first | assumption | rfl) (by first | assumption | omega) (by omega) ?_
      have hx2 : sN I (pu I1 61 ((c + 1) * 41 + j) (oI o)) := hx.p (by decide)
      have cell : pu I1 61 ((c + 1) * 41 + j) (oI o) 61 ((c + 1) * 41 + j) = oI o := by rw [pu_at, if_pos ⟨rfl, rfl⟩]
      have nxt : (∀ L, rowL (lgN H T a) (c + 1) j L → vlL (gC p T) 0 L < lackN H T a) → pE l X mX7_fewestClimbs 4 pK 59 [some (.ref 59), some (.ref t), some (.ref 33), some (.int (nI a)), some (.ref 45), some (.int (nI (lackN H T a))), some (.int (nI (c + 1))), some (.int (nI (j + 1)))] [] pK (pu I1 61 ((c + 1) * 41 + j) (oI o)) J (pR t g) Q := fun hlt => by
        refine ih (j + 1) _ (by omega) (by omega) (by omega) hx2 hc.p61 (fun q hq2 => ?_) hno (fun q hq2 => ?_) (fun L hL h1 h2 => ?_) (fun k k1 k2 => by rw [pu_at, if_neg (by omega)]; exact hng k (by omega) k2)
        · obtain ⟨o2, q1, q2, q3⟩ := hrow q hq2
          exact ⟨o2, by rw [pu_at, if_neg (by omega)]; exact q1, q2, q3⟩
        · by_cases e : q = j
          · subst e; exact ⟨o, cell, om2, ob⟩
          · obtain ⟨o2, q1, q2, q3⟩ := hcr q (by omega)
            exact ⟨o2, by rw [pu_at, if_neg (by omega)]; exact q1, q2, q3⟩
        · by_cases e : smL L = j
          · exact hlt L (by rw [← e]; exact hL)
          · exact hns L hL (by omega) h2
      cases o with
      | none =>
        refine pE_aload_n dX7_fewestClimbs_91 rfl rfl ?_
        refine pE_getR dX7_fewestClimbs_92 flX7_22 rfl (by first | assumption | rfl) (by first | assumption | rfl) ?_
        refine pE_iload dX7_fewestClimbs_95 rfl ?_
        refine pE_bipush (v := nI 41) dX7_fewestClimbs_97 rfl ?_
        refine pE_imulN dX7_fewestClimbs_99 ?_
        refine pE_iload dX7_fewestClimbs_100 rfl ?_
        refine pE_iaddN dX7_fewestClimbs_102 ?_
        refine pE_ialoadN dX7_fewestClimbs_103 (by first | assumption | rfl) (by first | assumption | omega) (by omega) ?_
        rw [cell, show oI none = (-1 : Int32) from rfl]
        refine pE_iload dX7_fewestClimbs_104 rfl ?_
        refine pE_icmp_lt (tgt := 124) dX7_fewestClimbs_106 (by decide) (fun h106 => ?_) (fun h106 => ?_)
        · refine pE_iincN (c0 := 1) (lc' := [_, _, _, _, _, _, _, some (.int _)]) dX7_fewestClimbs_124 rfl rfl rfl rfl ?_
          refine pE_goto (tgt := 59) dX7_fewestClimbs_127 (by decide) ?_
          exact nxt (fun L hL => absurd hL (om2 L))
        · exact absurd (show (-1 : Int32) < nI (lackN H T a) by rw [Int32.lt_iff_toInt_lt, nI_toInt (by omega)]; have h3 : (-1 : Int32).toInt = -1 := (by decide +kernel); omega) h106
      | some x =>
        have hx3 := ob x rfl
        obtain ⟨⟨L1, b1, b2⟩, b3⟩ := om2
        refine pE_aload_n dX7_fewestClimbs_91 rfl rfl ?_
        refine pE_getR dX7_fewestClimbs_92 flX7_22 rfl (by first | assumption | rfl) (by first | assumption | rfl) ?_
        refine pE_iload dX7_fewestClimbs_95 rfl ?_
        refine pE_bipush (v := nI 41) dX7_fewestClimbs_97 rfl ?_
        refine pE_imulN dX7_fewestClimbs_99 ?_
        refine pE_iload dX7_fewestClimbs_100 rfl ?_
        refine pE_iaddN dX7_fewestClimbs_102 ?_
        refine pE_ialoadN dX7_fewestClimbs_103 (by first | assumption | rfl) (by first | assumption | omega) (by omega) ?_
        rw [cell, show oI (some x) = nI x from rfl]
        refine pE_iload dX7_fewestClimbs_104 rfl ?_
        refine pE_icmp_lt (tgt := 124) dX7_fewestClimbs_106 (by decide) (fun h106 => ?_) (fun h106 => ?_)
        · have g106 := nq_lt (by omega) (by omega) h106
          refine pE_iincN (c0 := 1) (lc' := [_, _, _, _, _, _, _, some (.int _)]) dX7_fewestClimbs_124 rfl rfl rfl rfl ?_
          refine pE_goto (tgt := 59) dX7_fewestClimbs_127 (by decide) ?_
          exact nxt (fun L hL => by have := b3 L hL; omega)
        · have g106 := nq_nlt (by omega) (by omega) h106
          refine pE_aload_n dX7_fewestClimbs_109 rfl rfl ?_
          refine pE_iload dX7_fewestClimbs_110 rfl ?_
          refine pE_iload dX7_fewestClimbs_112 rfl ?_
          refine pE_iload dX7_fewestClimbs_114 rfl ?_
          refine pE_aload dX7_fewestClimbs_116 rfl ?_
          refine pE_callV (d' := 3) (as := [_, _, _, _]) dX7_fewestClimbs_118 lkX7_68 (cwX7_layFirstRow _ _) ivX7_layFirstRow ⟨_, rfl, rfl⟩ (by first | assumption | rfl) rfl rfl (Nat.le_of_ble_eq_true rfl) (by decide) pKK ?_
          refine M_X7_layFirstRow hc.p61 hT40 hlg.1 (by omega) (by omega) (by omega) (by omega) ⟨(hx2 45 1 (by simp [scF]) (by decide)).trans hL0.1, by omega, fun i hi => by omega⟩ (by omega) ⟨L1, b1, by omega⟩ (fun I2 G f2 g2 l2 => ?_)
          refine pE_iload dX7_fewestClimbs_121 rfl ?_
          refine pE_iret dX7_fewestClimbs_123 rfl rfl ?_
          obtain ⟨⟨⟨g3, g4, g5⟩, g6⟩, g7⟩ := g2
          rw [Nat.zero_add] at g5 g6
          have hB : fwB p H T a G := by
            refine ⟨⟨by omega, ok_up hlg.2.1 g4, by omega, hd9, g6⟩, fun L hL => ?_, fun L hL hl => ?_, fun L hL hl hs => ?_⟩
            · have ho := ok_lg (T := T) (a := a) hn20 hL.1 hL.2.1
              rcases Nat.lt_or_ge L.length G.length with e | e
              · have := hno L ho hL.2.1 (by omega)
                have := hL.2.2.2
                omega
              · exact e
            · have ho := ok_lg (T := T) (a := a) hn20 hL.1 hL.2.1
              rcases Nat.lt_or_ge (smL L) (smL G) with e | e
              · have := hns L ⟨by omega, ho, rfl⟩ (by omega) hL.2.1
                have := hL.2.2.2
                omega
              · exact e
            · have ho := ok_lg (T := T) (a := a) hn20 hL.1 hL.2.1
              exact g7 L ⟨by omega, ho, by omega⟩ (by have := hL.2.2.2; omega)
          rw [show c + 1 = G.length by omega]
          refine h1 G hB I2 (fun c2 k e1 e2 e3 e4 => (f2 c2 k (by omega) e3 e4).trans (hx2 c2 k e1 e2)) ?_
          rw [show G.length = c + 1 by omega]
          exact l2
set_option maxHeartbeats 400000 in
set_option maxRecDepth 100000 in
theorem LO_X7_fewestClimbs {l : Launch} {X : pX} {t g : Nat} {I : pHI} {J : pHJ} {Q : pQ} {a : Nat} {H T : pN} {p : pP} (ht : isH t) (hH : cH t H I) (hr : rH H) (hS : cS 33 T I) (hrT : rS 999 H T) (hF : cF (t + 6) p I) (hw : wfp p 0) (ha : a < H 1) (hd9 : H (32 + a) + T (16 + a) ≤ 9999) (hlk : 0 < lackN H T a) (hL0 : cL 45 1 46 I 0 (fun _ => 0)) (h1 : ∀ G, fwB p H T a G → ∀ I1, (∀ c k, ¬ scF c k → ¬ (59 ≤ c ∧ c ≤ 61) → c ≠ 45 → c ≠ 46 → I1 c k = I c k) → cL 45 1 46 I1 G.length (fun i => nI (G.getD i 0)) → Q (some (.int (nI G.length))) I1 J (pR t g)) (h0 : (∀ L, L.length ≤ 4 → ¬ fwV p H T a L) → ∀ I1, sN I I1 → Q (some (.int (-1))) I1 J (pR t g)) : ∀ (fu : Nat) (c : Nat) (v7 : Option Value) (I1 : pHI), 4 - c < fu → (c ≤ 4) → (sN I I1) → (ctI I1 p T (T a) (lgN H T a)) → (∀ q, q ≤ T a → mxI I1 (c * 41 + q) (rowL (lgN H T a) c q) (vlL (gC p T) 0)) → (∀ L, okL (lgN H T a) L → smL L ≤ T a → L.length < c + 1 → vlL (gC p T) 0 L < lackN H T a) → (∀ k, (c + 1) * 41 ≤ k → k < 205 → I1 61 k = -1) → pE l X mX7_fewestClimbs 4 pK 49 [some (.ref 59), some (.ref t), some (.ref 33), some (.int (nI a)), some (.ref 45), some (.int (nI (lackN H T a))), some (.int (nI (c + 1))), v7] [] pK I1 J (pR t g) Q := by
  intro fu
  induction fu with
  | zero => intro c v7 I1 hn; exact absurd hn (Nat.not_lt_zero _)
  | succ fu ih =>
    intro c v7 I1 hn hc4 hx hc hrow hno hng
    have hn8 := hr.2.1
    have hn20 := hr.1.2
    have hT40 := (hrT.2.2.2.2 a (by omega)).1
    have hlg : lgN H T a ≤ 20 ∧ lgN H T a ≤ H 0 ∧ lgN H T a ≤ T a := by unfold lgN; omega
    refine pE_iload dX7_fewestClimbs_49 rfl ?_
    refine pE_iconst (v := nI 4) dX7_fewestClimbs_51 rfl ?_
    refine pE_icmp_gt (tgt := 136) dX7_fewestClimbs_52 (by decide) (fun h52 => ?_) (fun h52 => ?_)
    · have g52 := nq_lt (by omega) (by omega) h52
      refine pE_iconst (v := -1) dX7_fewestClimbs_136 rfl ?_
      refine pE_iret dX7_fewestClimbs_137 rfl rfl ?_
      exact h0 (fun L hl hV => by have := hno L (ok_lg hn20 hV.1 hV.2.1) hV.2.1 (by omega); have := hV.2.2.2; omega) _ hx
    · have g52 := nq_nlt (by omega) (by omega) h52
      refine pE_iload dX7_fewestClimbs_55 rfl ?_
      refine pE_istore (lc' := [_, _, _, _, _, _, _, some (.int _)]) dX7_fewestClimbs_57 (Nat.le_of_ble_eq_true rfl) rfl rfl ?_
      refine LI_X7_fewestClimbs (c := c) ht (hH.sN ht hx) hr (hS.sN hx) hrT (hF.sN (isF_c ht) hx) hw ha hd9 hlk ⟨by rw [hx _ _ (by simp [scF]) (by decide)]; exact hL0.1, by omega, fun i hi => by omega⟩ (by omega) (fun G hG I2 f2 l2 => h1 G hG I2 (fun c2 k a b d e => (f2 c2 k a b d e).trans (hx c2 k a b)) l2) (fun hn2 I2 f2 => h0 hn2 I2 (hx.tr f2)) (fun I2 y7 f2 c2 r2 n2 k2 => ?_) (T a + 1 + 1) (c + 1) I1 (by omega) (Nat.le_refl _) (by omega) sN.rf hc hrow hno (fun q hq2 => ?_) (fun L hL h2 h3 => ?_) (fun k k1 k2 => hng k (by omega) k2)
      · refine pE_iincN (c0 := 1) (lc' := [_, _, _, _, _, _, some (.int _), _]) dX7_fewestClimbs_130 rfl rfl rfl rfl ?_
        refine pE_goto (tgt := 49) dX7_fewestClimbs_133 (by decide) ?_
        exact ih (c + 1) _ I2 (by omega) (by omega) (hx.tr f2) c2 r2 n2 k2
      · exact ⟨none, hng _ (by omega) (by omega), row_few hq2 _, fun x h => by simp at h⟩
      · have := smL_len hL.2.1; have := hL.1; omega
set_option maxHeartbeats 400000 in
set_option maxRecDepth 100000 in
theorem M_X7_fewestClimbs {l : Launch} {X : pX} {t g : Nat} {I : pHI} {J : pHJ} {Q : pQ} {a : Nat} {H T : pN} {p : pP} (ht : isH t) (hH : cH t H I) (hr : rH H) (hS : cS 33 T I) (hrT : rS 999 H T) (hF : cF (t + 6) p I) (hw : wfp p 0) (ha : a < H 1) (hL0 : cL 45 1 46 I 0 (fun _ => 0)) (h1 : ∀ G, fwB p H T a G → ∀ I1, (∀ c k, ¬ scF c k → ¬ (59 ≤ c ∧ c ≤ 61) → c ≠ 45 → c ≠ 46 → I1 c k = I c k) → cL 45 1 46 I1 G.length (fun i => nI (G.getD i 0)) → Q (some (.int (nI G.length))) I1 J (pR t g)) (h0 : (∀ L, L.length ≤ 4 → ¬ fwV p H T a L) → ∀ I1, sN I I1 → Q (some (.int (-1))) I1 J (pR t g)) : pM l X yX7_fewestClimbs mX7_fewestClimbs 4 [.ref 59, .ref t, .ref 33, .int (nI a), .ref 45] pK pK I J (pR t g) Q := by
  obtain ⟨fHFht0, fHFht1, fHFht2, fHFht3, fHFht4, fHFht5, fHFht6, fHFht7, fHFht8, fHFht9, fHFht10, fHFht11, fHFht12, fHFht13, fHFht14, fHFht15, fHFht16, fHFht17, fHFht18, fHFht19, fHFht20, fHFht21, fHFht22, fHFht23, fHFht24, fHFht25, fHFht26⟩ := HF t g ht
  have hn8 := hr.2.1
  have hn20 := hr.1.2
  have hT40 := (hrT.2.2.2.2 a (by omega)).1
  have hlg : lgN H T a ≤ 20 ∧ lgN H T a ≤ H 0 ∧ lgN H T a ≤ T a := by unfold lgN; omega
  obtain ⟨s0, s1, s2, s3, s4, s5, s6⟩ := SF t g (show isS 33 from Or.inl rfl)
  have hlb := lack_leB hr hrT (show a < 8 by omega)
  have hld : lackN H T a = H (32 + a) + T (16 + a) - T (8 + a) := rfl
  refine pM_of rfl (fun h => by cases h) rfl pKM (Nat.le_of_ble_eq_true rfl) ?_
  refine pE_aload_n dX7_fewestClimbs_0 rfl rfl ?_
  refine pE_aload_n dX7_fewestClimbs_1 rfl rfl ?_
  refine pE_iload_n dX7_fewestClimbs_2 rfl rfl ?_
  refine pE_callV (d' := 1) (as := [_, _]) dX7_fewestClimbs_3 lkX7_61 (cwX2_lackOf _ _) ivX2_lackOf ⟨_, rfl, rfl⟩ (by first | assumption | rfl) rfl rfl (Nat.le_of_ble_eq_true rfl) (by decide) pKK ?_
  refine M_X2_lackOf (H := H) (T := T) ht (Or.inl rfl) (by omega) (hH.2.2.2.2.2 a (by omega)).2.2.2.1 (hS.2.2.2.2 a (by omega)).2.2 (hS.2.2.2.2 a (by omega)).2.1 hlb.1 hlb.2.1 hlb.2.2.1 ?_
  refine pE_istore (lc' := [_, _, _, _, _, some (.int _), _, _]) dX7_fewestClimbs_6 (Nat.le_of_ble_eq_true rfl) rfl rfl ?_
  refine pE_iload dX7_fewestClimbs_8 rfl ?_
  refine pE_if_ne (tgt := 15) dX7_fewestClimbs_10 (by decide) (fun h10 => ?_) (fun h10 => ?_)
  · have g10 := nq_ne0 (by omega) h10
    refine pE_aload_n dX7_fewestClimbs_15 rfl rfl ?_
    refine pE_getR dX7_fewestClimbs_16 flX7_65 rfl (by first | assumption | rfl) (by first | assumption | rfl) ?_
    refine pE_iload_n dX7_fewestClimbs_19 rfl rfl ?_
    refine pE_ialoadN dX7_fewestClimbs_20 (by first | assumption | rfl) (by first | assumption | omega) (by omega) ?_
    rw [(hS.2.2.2.2 a (by omega)).2.1]
    refine pE_iload dX7_fewestClimbs_21 rfl ?_
    refine pE_iaddN dX7_fewestClimbs_23 ?_
    refine pE_sipush (v := nI 9999) dX7_fewestClimbs_24 rfl ?_
    refine pE_icmp_le (tgt := 32) dX7_fewestClimbs_27 (by decide) (fun h27 => ?_) (fun h27 => ?_)
    · have g27 := nq_le (by omega) (by omega) h27
      refine pE_aload_n dX7_fewestClimbs_32 rfl rfl ?_
      refine pE_aload_n dX7_fewestClimbs_33 rfl rfl ?_
      refine pE_aload_n dX7_fewestClimbs_34 rfl rfl ?_
      refine pE_iload_n dX7_fewestClimbs_35 rfl rfl ?_
      refine pE_callV (d' := 3) (as := [_, _, _]) dX7_fewestClimbs_36 lkX7_54 (cwX7_prepare _ _) ivX7_prepare ⟨_, rfl, rfl⟩ (by first | assumption | rfl) rfl rfl (Nat.le_of_ble_eq_true rfl) (by decide) pKK ?_
      refine M_X7_prepare ht hH hr hS hrT hF hw ha (fun I1 f1 c1 n1 => ?_)
      refine pE_aload_n dX7_fewestClimbs_39 rfl rfl ?_
      refine pE_getR dX7_fewestClimbs_40 flX7_22 rfl (by first | assumption | rfl) (by first | assumption | rfl) ?_
      refine pE_iconst (v := nI 0) dX7_fewestClimbs_43 rfl ?_
      refine pE_iconst (v := nI 0) dX7_fewestClimbs_44 rfl ?_
      refine pE_iastoreN dX7_fewestClimbs_45 (by first | assumption | rfl) (by first | assumption | omega) (by omega) ?_
      refine pE_iconst (v := nI 1) dX7_fewestClimbs_46 rfl ?_
      refine pE_istore (lc' := [_, _, _, _, _, _, some (.int _), _]) dX7_fewestClimbs_47 (Nat.le_of_ble_eq_true rfl) rfl rfl ?_
      refine LO_X7_fewestClimbs ht hH hr hS hrT hF hw ha (by omega) (by omega) hL0 h1 h0 5 0 _ _ (by omega) (by omega) (f1.p (by decide)) c1.p61 (fun q hq2 => ?_) (fun L ho hs hl => ?_) (fun k k1 k2 => by rw [pu_at, if_neg (by omega)]; exact n1 k k2)
      · by_cases e : q = 0
        · subst e
          exact ⟨some 0, by rw [pu_at, if_pos ⟨rfl, rfl⟩]; rfl, ⟨⟨[], ⟨rfl, okL_nil _, rfl⟩, rfl⟩, fun L hL => by rw [List.length_eq_zero_iff.mp hL.1]; exact Nat.le_refl _⟩, fun x h => by cases h; omega⟩
        · exact ⟨none, by rw [pu_at, if_neg (by omega)]; exact n1 _ (by omega), fun L hL => by have h3 := hL.2.2; rw [List.length_eq_zero_iff.mp hL.1] at h3; simp only [smL] at h3; omega, fun x h => by simp at h⟩
      · rw [List.length_eq_zero_iff.mp (show L.length = 0 by omega)]; simp only [vlL]; omega
    · have g27 := nq_nle (by omega) (by omega) h27
      refine pE_iconst (v := -1) dX7_fewestClimbs_30 rfl ?_
      refine pE_iret dX7_fewestClimbs_31 rfl rfl ?_
      exact h0 (fun L _ hV => by have := hV.2.2.1; omega) I sN.rf
  · have g10 := nq_eq0 (by omega) h10
    refine pE_iconst (v := nI 0) dX7_fewestClimbs_13 rfl ?_
    refine pE_iret dX7_fewestClimbs_14 rfl rfl ?_
    have hV : fwV p H T a [] := ⟨okL_nil _, Nat.zero_le _, by omega, by omega⟩
    exact h1 [] ⟨⟨Nat.zero_le _, hV⟩, fun _ _ => Nat.zero_le _, fun _ _ _ => Nat.zero_le _, fun _ _ _ _ => trivial⟩ I (fun _ _ _ _ _ _ => rfl) ⟨hL0.1, Nat.zero_le _, fun i hi => absurd hi (Nat.not_lt_zero _)⟩
set_option maxHeartbeats 400000 in
set_option maxRecDepth 100000 in
theorem M_X11_fewest {l : Launch} {X : pX} {t g : Nat} {I : pHI} {J : pHJ} {Q : pQ} {x : Int32} {H T : pN} {p : pP} (ht : isH t) (hH : cH t H I) (hr : rH H) (hS : cS 33 T I) (hrT : rS 999 H T) (hF : cF (t + 6) p I) (hw : wfp p 0) (h1 : ∀ a, a < H 1 → x = nI a → ∀ G, fwB p H T a G → ∀ I1, (∀ c k, ¬ scF c k → ¬ (59 ≤ c ∧ c ≤ 61) → c ≠ 45 → c ≠ 46 → I1 c k = I c k) → cL 45 1 46 I1 G.length (fun i => nI (G.getD i 0)) → Q (some (.int (nI G.length))) I1 J (pR t g)) (h2 : ∀ a, a < H 1 → x = nI a → (∀ L, L.length ≤ 4 → ¬ fwV p H T a L) → ∀ I1, (∀ c k, ¬ scF c k → ¬ (59 ≤ c ∧ c ≤ 61) → c ≠ 45 → c ≠ 46 → I1 c k = I c k) → cL 45 1 46 I1 0 (fun _ => 0) → Q (some (.int (-1))) I1 J (pR t g)) (h0 : (∀ a, a < H 1 → x ≠ nI a) → ∀ I1, (∀ c k, ¬ scF c k → ¬ (59 ≤ c ∧ c ≤ 61) → c ≠ 45 → c ≠ 46 → I1 c k = I c k) → cL 45 1 46 I1 0 (fun _ => 0) → Q (some (.int (-1))) I1 J (pR t g)) : pM l X yX11_fewest mX11_fewest 5 [.ref 0, .int x] pK pK I J (pR t g) Q := by
  obtain ⟨fHFht0, fHFht1, fHFht2, fHFht3, fHFht4, fHFht5, fHFht6, fHFht7, fHFht8, fHFht9, fHFht10, fHFht11, fHFht12, fHFht13, fHFht14, fHFht15, fHFht16, fHFht17, fHFht18, fHFht19, fHFht20, fHFht21, fHFht22, fHFht23, fHFht24, fHFht25, fHFht26⟩ := HF t g ht
  have f0 : ∀ c k, c ≠ 45 → pu I 45 1 (nI 0) c k = I c k := fun c k h => by rw [pu_ne _ _ _ h]
  have hf0 : (∀ c k, ¬ scF c k → ¬ (59 ≤ c ∧ c ≤ 61) → c ≠ 45 → c ≠ 46 → (pu I 45 1 (nI 0)) c k = I c k) := fun c k _ _ h _ => f0 c k h
  have hL0 : cL 45 1 46 (pu I 45 1 (nI 0)) 0 (fun _ => 0) := ⟨by rw [pu_at, if_pos ⟨rfl, rfl⟩], by omega, fun i hi => by omega⟩
  have hH0 : cH t H (pu I 45 1 (nI 0)) := hH.off (fun c k a b => f0 c k (by rcases ht with rfl | rfl <;> omega))
  have hS0 : cS 33 T (pu I 45 1 (nI 0)) := by
    obtain ⟨s1, s2, s3, s4, s5⟩ := hS
    exact ⟨by rw [f0 _ _ (by decide)]; exact s1, by rw [f0 _ _ (by decide)]; exact s2, by rw [f0 _ _ (by decide)]; exact s3, by rw [f0 _ _ (by decide)]; exact s4, fun j hj => by rw [f0 _ _ (by decide), f0 _ _ (by decide), f0 _ _ (by decide)]; exact s5 j hj⟩
  have hF0 : cF (t + 6) p (pu I 45 1 (nI 0)) := by
    obtain ⟨q1, q2, q3⟩ := hF
    have n : ∀ c k, t + 6 ≤ c → c ≤ t + 8 → pu I 45 1 (nI 0) c k = I c k := fun c k a b => f0 c k (by rcases ht with rfl | rfl <;> omega)
    refine ⟨q1, by rw [n _ _ (by omega) (by omega)]; exact q2, fun i q hi => ?_⟩
    rw [n _ _ (by omega) (by omega), n _ _ (by omega) (by omega)]
    exact q3 i q hi
  refine pM_of rfl (fun h => by cases h) rfl pKM (Nat.le_of_ble_eq_true rfl) ?_
  refine pE_aload_n dX11_fewest_0 rfl rfl ?_
  refine pE_getR dX11_fewest_1 flX11_56 rfl (by first | assumption | rfl) (by first | assumption | rfl) ?_
  refine pE_callV (d' := 0) (as := []) dX11_fewest_4 lkX11_109 (cwX5_clear _ _) ivX5_clear ⟨_, rfl, rfl⟩ (by first | assumption | rfl) rfl rfl (Nat.le_of_ble_eq_true rfl) (by decide) pKK ?_
  refine M_X5_clear ?_
  refine pE_aload_n dX11_fewest_7 rfl rfl ?_
  refine pE_getR dX11_fewest_8 flX11_29 rfl (by first | assumption | rfl) (by first | assumption | rfl) ?_
  refine pE_iload_n dX11_fewest_11 rfl rfl ?_
  refine pE_callV (d' := 0) (as := [_]) dX11_fewest_12 lkX11_119 (cwX2_hasTenant _ _) ivX2_hasTenant ⟨_, rfl, rfl⟩ (by first | assumption | rfl) rfl rfl (Nat.le_of_ble_eq_true rfl) (by decide) pKK ?_
  refine M_X2_hasTenant (H := H) ht hH0.2.2.1 hr.2.1 (fun a ha e1 => ?_) (fun hno => ?_)
  · subst e1
    refine pE_if_ne_t (tgt := 20) dX11_fewest_15 (by decide) nI_1n0 ?_
    refine pE_aload_n dX11_fewest_20 rfl rfl ?_
    refine pE_getR dX11_fewest_21 flX11_77 rfl (by first | assumption | rfl) (by first | assumption | rfl) ?_
    refine pE_aload_n dX11_fewest_24 rfl rfl ?_
    refine pE_getR dX11_fewest_25 flX11_29 rfl (by first | assumption | rfl) (by first | assumption | rfl) ?_
    refine pE_aload_n dX11_fewest_28 rfl rfl ?_
    refine pE_getR dX11_fewest_29 flX11_39 rfl (by first | assumption | rfl) (by first | assumption | rfl) ?_
    refine pE_iload_n dX11_fewest_32 rfl rfl ?_
    refine pE_aload_n dX11_fewest_33 rfl rfl ?_
    refine pE_getR dX11_fewest_34 flX11_56 rfl (by first | assumption | rfl) (by first | assumption | rfl) ?_
    refine pE_callV (d' := 4) (as := [_, _, _, _]) dX11_fewest_37 lkX11_202 (cwX7_fewestClimbs _ _) ivX7_fewestClimbs ⟨_, rfl, rfl⟩ (by first | assumption | rfl) rfl rfl (Nat.le_of_ble_eq_true rfl) (by decide) pKK ?_
    refine M_X7_fewestClimbs ht hH0 hr hS0 hrT hF0 hw ha hL0 (fun G hG I1 f1 l1 => ?_) (fun hn I1 f1 => ?_)
    · refine pE_iret dX11_fewest_40 rfl rfl ?_
      exact h1 a ha rfl G hG I1 (fun c k a b d e => (f1 c k a b d e).trans (hf0 c k a b d e)) l1
    · refine pE_iret dX11_fewest_40 rfl rfl ?_
      exact h2 a ha rfl hn I1 (fun c k a b d e => (f1 c k a b).trans (hf0 c k a b d e)) ⟨by rw [f1 _ _ (by simp [scF]) (by decide)]; exact hL0.1, by omega, fun i hi => by omega⟩
  · refine pE_if_ne_f (tgt := 20) dX11_fewest_15 (by decide) nI_0 ?_
    refine pE_iconst (v := -1) dX11_fewest_18 rfl ?_
    refine pE_iret dX11_fewest_19 rfl rfl ?_
    exact h0 hno _ hf0 hL0
