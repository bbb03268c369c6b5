theorem sY.rf {I : pHI} : sY I I := fun _ _ _ _ _ _ => rfl
theorem sY.tr {I I1 I2 : pHI} (h1 : sY I I1) (h2 : sY I1 I2) : sY I I2 := fun c k a b d e => (h2 c k a b d e).trans (h1 c k a b d e)
theorem sz.sY {I I' : pHI} (h : sz I I') : sY I I' := fun c k a b _ _ => h c k a b
theorem sY94 {I I1 : pHI} {k : Nat} {x : Int32} (h : sY I I1) : sY I (pu I1 94 k x) := fun c k' a b d e => by rw [pu_ne _ _ _ d]; exact h c k' a b d e
theorem sY52 {I I1 : pHI} {x : Int32} (h : sY I I1) : sY I (pu I1 67 52 x) := fun c k' a b d e => by rw [pu_at, if_neg e]; exact h c k' a b d e
theorem mH.sY {H : pN} {I I' : pHI} (h : mH H I) (hb : sY I I') : mH H I' := by
  obtain ⟨h1, h2, h3, h4⟩ := h
  have n : ∀ c k, ¬ scF c k → ¬ scM c → c ≠ 94 → ¬ (c = 67 ∧ k = 52) → I' c k = I c k := hb
  exact ⟨by rw [n 67 41 (by simp [scF]) (by simp [scM]) (by decide) (by decide)]; exact h1, by rw [n 67 42 (by simp [scF]) (by simp [scM]) (by decide) (by decide)]; exact h2, by rw [n 67 23 (by simp [scF]) (by simp [scM]) (by decide) (by decide)]; exact h3, fun j hj => by
    rw [n 85 _ (by simp [scF]) (by simp [scM]) (by decide) (by omega), n 86 _ (by simp [scF]) (by simp [scM]) (by decide) (by omega), n 87 _ (by simp [scF]) (by simp [scM]) (by decide) (by omega), n 88 _ (by simp [scF]) (by simp [scM]) (by decide) (by omega), n 89 _ (by simp [scF]) (by simp [scM]) (by decide) (by omega)]
    exact h4 j hj⟩
theorem mF.sY {w : Nat} {p : pP} {I I' : pHI} (h : mF w p I) (hs : sY I I') : mF w p I' := by
  obtain ⟨h1, h2, h3⟩ := h
  refine ⟨h1, ?_, fun i k m hi => ?_⟩
  · rw [hs 75 w (by simp [scF]) (by simp [scM]) (by decide) (by omega)]
    exact h2
  · rw [hs 73 _ (by simp [scF]) (by simp [scM]) (by decide) (by omega), hs 74 _ (by simp [scF]) (by simp [scM]) (by decide) (by omega)]
    exact h3 i k m hi
theorem mS90Y {T : pN} {I I' : pHI} (h : mS 90 T I) (hs : sY I I') : mS 90 T I' := fun k hk => (hs 90 k (by simp [scF]) (by simp [scM]) (by decide) (by omega)).trans (h k hk)
set_option maxHeartbeats 400000 in
set_option maxRecDepth 100000 in
theorem LK_X12_fewest {l : Launch} {X : pX} {t g : Nat} {I : pHI} {J : pHJ} {Q : pQ} {a c ls code own : Nat} {R : Nat → Int32} (hc : c ≤ 4) (hR : ∀ i, i < c → I 93 i = R i) (hq : ∀ I2 y6, (∀ cc k, cc ≠ 94 → I2 cc k = I cc k) → (∀ i, i < c → I2 94 i = R i) → pE l X mX12_fewest 5 pK 98 [some (.ref 67), some (.int (nI a)), some (.int (nI c)), some (.int (nI ls)), some (.int (nI code)), some (.int (nI own)), some (.int y6)] [] pK I2 J (pR t g) Q) : ∀ (fu : Nat) (j : Nat) (I1 : pHI), c - j < fu → (j ≤ c) → (∀ cc k, cc ≠ 94 → I1 cc k = I cc k) → (∀ i, i < j → I1 94 i = R i) → pE l X mX12_fewest 5 pK 72 [some (.ref 67), some (.int (nI a)), some (.int (nI c)), some (.int (nI ls)), some (.int (nI code)), some (.int (nI own)), some (.int (nI j))] [] pK I1 J (pR t g) Q := by
  intro fu
  induction fu with
  | zero => intro j I1 hn; exact absurd hn (Nat.not_lt_zero _)
  | succ fu ih =>
    intro j I1 hn hj hf hv
    refine pE_iload dX12_fewest_72 rfl ?_
    refine pE_iload_n dX12_fewest_74 rfl rfl ?_
    refine pE_icmp_ge (tgt := 98) dX12_fewest_75 (by decide) (fun h75 => ?_) (fun h75 => ?_)
    · have g75 := nq_le (by omega) (by omega) h75
      obtain rfl : j = c := by omega
      exact hq _ _ hf hv
    · have g75 := nq_nle (by omega) (by omega) h75
      refine pE_aload_n dX12_fewest_78 rfl rfl ?_
      refine pE_getR dX12_fewest_79 flX12_97 rfl (by first | assumption | rfl) (by first | assumption | rfl) ?_
      refine pE_iload dX12_fewest_82 rfl ?_
      refine pE_aload_n dX12_fewest_84 rfl rfl ?_
      refine pE_getR dX12_fewest_85 flX12_94 rfl (by first | assumption | rfl) (by first | assumption | rfl) ?_
      refine pE_iload dX12_fewest_88 rfl ?_
      refine pE_ialoadN dX12_fewest_90 (by first | assumption | rfl) (by first | assumption | omega) (by omega) ?_
      rw [(hf 93 j (by decide)).trans (hR j (by omega))]
      refine pE_iastoreN dX12_fewest_91 (by first | assumption | rfl) (by first | assumption | omega) (by omega) ?_
      refine pE_iincN (c0 := 1) (lc' := [_, _, _, _, _, _, some (.int _)]) dX12_fewest_92 rfl rfl rfl rfl ?_
      refine pE_goto (tgt := 72) dX12_fewest_95 (by decide) ?_
      refine ih (j + 1) _ (by omega) (by omega) (fun cc k h => by rw [pu_ne _ _ _ h]; exact hf cc k h) (fun i hi => ?_)
      rw [pu_at]
      by_cases e : i = j
      · subst e; rw [if_pos ⟨rfl, rfl⟩]
      · rw [if_neg (fun q => e q.2)]; exact hv i (by omega)
set_option maxHeartbeats 400000 in
set_option maxRecDepth 100000 in
theorem LI_X12_fewest {l : Launch} {X : pX} {t g : Nat} {I : pHI} {J : pHJ} {Q : pQ} {c : Nat} {a : Nat} {H T : pN} {p0 p : pP} (hH : mH H I) (hr : rH H) (hrT : rS 999 H T) (hF : mF 0 p0 I) (hw : p0 = [] ∨ wfp p0 0) (hp0 : fR 0 p0 p) (ha : a < H 1) (hS : mS 90 T I) (hc : c ≤ 4) (hq : ∀ I2 o y4 v5 v6, sY I I2 → I2 67 52 = nI 0 → bsT p H T a c (H 0 ^ c) o → (∀ K, o = some K → ∀ i, i < c → I2 94 i = nI (K.getD i 0)) → pE l X mX12_fewest 5 pK 104 [some (.ref 67), some (.int (nI a)), some (.int (nI c)), some (.int (nI (lsT o))), some (.int y4), v5, v6] [] pK I2 J (pR t g) Q) : ∀ (fu : Nat) (j : Nat) (o : Option (List Nat)) (I1 : pHI) (v5 : Option Value) (v6 : Option Value), H 0 ^ c - j < fu → (j ≤ H 0 ^ c) → (sY I I1) → (I1 67 52 = nI 0) → (bsT p H T a c j o) → ((∀ K, o = some K → ∀ i, i < c → I1 94 i = nI (K.getD i 0))) → pE l X mX12_fewest 5 pK 29 [some (.ref 67), some (.int (nI a)), some (.int (nI c)), some (.int (nI (lsT o))), some (.int (nI j)), v5, v6] [] pK I1 J (pR t g) Q := by
  intro fu
  induction fu with
  | zero => intro j o I1 v5 v6 hn; exact absurd hn (Nat.not_lt_zero _)
  | succ fu ih =>
    intro j o I1 v5 v6 hn hj hx h52 hb hl
    have hn8 := hr.2.1
    have hn20 := hr.1.2
    have hn1 := hr.1.1
    have hT40 := (hrT.2.2.2.2 a (by omega)).1
    have hH1 := hH.sY hx
    have hpw : H 0 ^ c ≤ 160000 := Nat.le_trans (Nat.pow_le_pow_left hn20 c) (Nat.le_trans (Nat.pow_le_pow_right (by decide) hc) (by decide))
    have hlo : lsT o ≤ 1000000 := by
      cases o with
      | none => exact Nat.le_refl _
      | some K => have := hb.1.1.2.1; simp only [lsT]; omega
    refine pE_iload dX12_fewest_29 rfl ?_
    refine pE_aload_n dX12_fewest_31 rfl rfl ?_
    refine pE_getI dX12_fewest_32 flX12_82 rfl (Or.inl rfl) (by first | assumption | rfl) ?_
    rw [hH1.1]
    refine pE_iload_n dX12_fewest_35 rfl rfl ?_
    refine pE_callS (d' := 0) (as := [_, _]) dX12_fewest_36 lkX12_424 (cwX12_power _ _) svX12_power rfl rfl (Nat.le_of_ble_eq_true rfl) (by decide) pKK ?_
    refine M_X12_power (by omega) ?_
    refine pE_icmp_ge (tgt := 104) dX12_fewest_39 (by decide) (fun h39 => ?_) (fun h39 => ?_)
    · have g39 := nq_le (by omega) (by omega) h39
      obtain rfl : j = H 0 ^ c := by omega
      exact hq _ _ _ _ _ hx h52 hb hl
    · have g39 := nq_nle (by omega) (by omega) h39
      refine pE_aload_n dX12_fewest_42 rfl rfl ?_
      refine pE_iload_n dX12_fewest_43 rfl rfl ?_
      refine pE_iload_n dX12_fewest_44 rfl rfl ?_
      refine pE_iload dX12_fewest_45 rfl ?_
      refine pE_callV (d' := 4) (as := [_, _, _]) dX12_fewest_47 lkX12_427 (cwX12_paidBy _ _) ivX12_paidBy ⟨_, rfl, rfl⟩ (by first | assumption | rfl) rfl rfl (Nat.le_of_ble_eq_true rfl) (by decide) pKK ?_
      refine M_X12_paidBy hH1 hr hrT (hF.sY hx) hw hp0 ha (mS90Y hS hx) (by omega) hc (fun hV I2 f2 r2 => ?_) (fun hnV I2 f2 => ?_)
      · have hs4 := hV.2.1
        refine pE_istore (lc' := [_, _, _, _, _, some (.int _), _]) dX12_fewest_50 (Nat.le_of_ble_eq_true rfl) rfl rfl ?_
        refine pE_iload dX12_fewest_52 rfl ?_
        refine pE_if_lt (tgt := 98) dX12_fewest_54 (by decide) (fun h54 => ?_) (fun h54 => ?_)
        · exact absurd h54 (nI_pos (by omega))
        · refine pE_iload dX12_fewest_57 rfl ?_
          refine pE_iload_n dX12_fewest_59 rfl rfl ?_
          refine pE_icmp_lt (tgt := 66) dX12_fewest_60 (by decide) (fun h60 => ?_) (fun h60 => ?_)
          · have g60 := nq_lt (by omega) (by omega) h60
            refine pE_iload dX12_fewest_66 rfl ?_
            refine pE_istore_n (lc' := [_, _, _, some (.int _), _, _, _]) dX12_fewest_68 rfl (Nat.le_of_ble_eq_true rfl) rfl rfl ?_
            refine pE_iconst (v := nI 0) dX12_fewest_69 rfl ?_
            refine pE_istore (lc' := [_, _, _, _, _, _, some (.int _)]) dX12_fewest_70 (Nat.le_of_ble_eq_true rfl) rfl rfl ?_
            refine LK_X12_fewest (I := I2) hc r2 (fun I3 y6 f3 r3 => ?_) (c + 1) 0 I2 (by omega) (by omega) (fun _ _ _ => rfl) (fun i hi => by omega)
            refine pE_iincN (c0 := 1) (lc' := [_, _, _, _, some (.int _), _, _]) dX12_fewest_98 rfl rfl rfl rfl ?_
            refine pE_goto (tgt := 29) dX12_fewest_101 (by decide) ?_
            refine ih (j + 1) (some (dgL (H 0) c j)) I3 _ _ (by omega) (by omega) (hx.tr (f2.sY.tr (fun cc k _ _ d _ => f3 cc k d))) ((f3 67 52 (by decide)).trans ((f2 67 52 (by simp [scF]) (by simp [scM])).trans h52)) (bs_new hb hV g60) (fun K hK i hi => ?_)
            cases hK
            exact r3 i hi
          · have g60 := nq_nlt (by omega) (by omega) h60
            refine pE_goto (tgt := 98) dX12_fewest_63 (by decide) ?_
            refine pE_iincN (c0 := 1) (lc' := [_, _, _, _, some (.int _), _, _]) dX12_fewest_98 rfl rfl rfl rfl ?_
            refine pE_goto (tgt := 29) dX12_fewest_101 (by decide) ?_
            exact ih (j + 1) o I2 _ _ (by omega) (by omega) (hx.tr f2.sY) ((f2 67 52 (by simp [scF]) (by simp [scM])).trans h52) (bs_skip hn1 (by omega) hb (fun _ => g60) hT40) (fun K hK i hi => (f2 94 i (by simp [scF]) (by simp [scM])).trans (hl K hK i hi))
      · refine pE_istore (lc' := [_, _, _, _, _, some (.int _), _]) dX12_fewest_50 (Nat.le_of_ble_eq_true rfl) rfl rfl ?_
        refine pE_iload dX12_fewest_52 rfl ?_
        refine pE_if_lt (tgt := 98) dX12_fewest_54 (by decide) (fun h54 => ?_) (fun h54 => ?_)
        · refine pE_iincN (c0 := 1) (lc' := [_, _, _, _, some (.int _), _, _]) dX12_fewest_98 rfl rfl rfl rfl ?_
          refine pE_goto (tgt := 29) dX12_fewest_101 (by decide) ?_
          exact ih (j + 1) o I2 _ _ (by omega) (by omega) (hx.tr f2.sY) ((f2 67 52 (by simp [scF]) (by simp [scM])).trans h52) (bs_skip hn1 (by omega) hb (fun h => absurd h hnV) hT40) (fun K hK i hi => (f2 94 i (by simp [scF]) (by simp [scM])).trans (hl K hK i hi))
        · exact absurd m1_lt0 h54
set_option maxHeartbeats 400000 in
set_option maxRecDepth 100000 in
theorem LO_X12_fewest {l : Launch} {X : pX} {t g : Nat} {I : pHI} {J : pHJ} {Q : pQ} {a : Nat} {H T : pN} {p0 p : pP} (hH : mH H I) (hr : rH H) (hrT : rS 999 H T) (hF : mF 0 p0 I) (hw : p0 = [] ∨ wfp p0 0) (hp0 : fR 0 p0 p) (ha : a < H 1) (hS : mS 90 T I) (h1 : ∀ G, fwB p H T a G → ∀ I1, sY I I1 → cL 67 52 94 I1 G.length (fun i => nI (G.getD i 0)) → Q (some (.int (nI G.length))) I1 J (pR t g)) (h2 : (∀ L, L.length ≤ 4 → ¬ fwV p H T a L) → ∀ I1, sY I I1 → cL 67 52 94 I1 0 (fun _ => 0) → Q (some (.int (-1))) I1 J (pR t g)) : ∀ (fu : Nat) (c : Nat) (I1 : pHI) (v3 : Option Value) (v4 : Option Value) (v5 : Option Value) (v6 : Option Value), 5 - c < fu → (c ≤ 5) → (sY I I1) → (I1 67 52 = nI 0) → (∀ L, L.length < c → ¬ fwV p H T a L) → pE l X mX12_fewest 5 pK 17 [some (.ref 67), some (.int (nI a)), some (.int (nI c)), v3, v4, v5, v6] [] pK I1 J (pR t g) Q := by
  intro fu
  induction fu with
  | zero => intro c I1 v3 v4 v5 v6 hn; exact absurd hn (Nat.not_lt_zero _)
  | succ fu ih =>
    intro c I1 v3 v4 v5 v6 hn hc5 hx h52 hno
    have hn1 := hr.1.1
    have hT40 := (hrT.2.2.2.2 a (by have := hr.2.1; omega)).1
    refine pE_iload_n dX12_fewest_17 rfl rfl ?_
    refine pE_iconst (v := nI 4) dX12_fewest_18 rfl ?_
    refine pE_icmp_gt (tgt := 127) dX12_fewest_19 (by decide) (fun h19 => ?_) (fun h19 => ?_)
    · have g19 := nq_lt (by omega) (by omega) h19
      refine pE_iconst (v := -1) dX12_fewest_127 rfl ?_
      refine pE_iret dX12_fewest_128 rfl rfl ?_
      exact h2 (fun L hL => hno L (by omega)) I1 hx ⟨h52, by omega, fun i hi => by omega⟩
    · have g19 := nq_nlt (by omega) (by omega) h19
      refine pE_ldcw dX12_fewest_22 kcX12_423 ?_
      rw [show (1000000 : Int32) = nI 1000000 from rfl]
      refine pE_istore_n (lc' := [_, _, _, some (.int _), _, _, _]) dX12_fewest_25 rfl (Nat.le_of_ble_eq_true rfl) rfl rfl ?_
      refine pE_iconst (v := nI 0) dX12_fewest_26 rfl ?_
      refine pE_istore (lc' := [_, _, _, _, some (.int _), _, _]) dX12_fewest_27 (Nat.le_of_ble_eq_true rfl) rfl rfl ?_
      refine LI_X12_fewest (c := c) (hH.sY hx) hr hrT (hF.sY hx) hw hp0 ha (mS90Y hS hx) (by omega) (fun I2 o y4 v5' v6' f2 g52 b2 l2 => ?_) (H 0 ^ c + 1) 0 none I1 _ _ (Nat.lt_succ_of_le (Nat.sub_le _ _)) (Nat.zero_le _) sY.rf h52 (bs_0 _ _ _ _ _) (fun K hK => by simp at hK)
      cases o with
      | none =>
        rw [show lsT none = 1000000 from rfl]
        refine pE_iload_n dX12_fewest_104 rfl rfl ?_
        refine pE_ldcw dX12_fewest_105 kcX12_423 ?_
        rw [show (1000000 : Int32) = nI 1000000 from rfl]
        refine pE_icmp_ne (tgt := 114) dX12_fewest_108 (by decide) (fun h108 => ?_) (fun h108 => ?_)
        · exact absurd rfl h108
        · refine pE_goto (tgt := 121) dX12_fewest_111 (by decide) ?_
          refine pE_iincN (c0 := 1) (lc' := [_, _, some (.int _), _, _, _, _]) dX12_fewest_121 rfl rfl rfl rfl ?_
          refine pE_goto (tgt := 17) dX12_fewest_124 (by decide) ?_
          refine ih (c + 1) I2 _ _ _ _ (by omega) (by omega) (hx.tr f2) g52 (fun L hL => ?_)
          by_cases e : L.length = c
          · exact bs_none hn1 b2 L e
          · exact hno L (by omega)
      | some K =>
        have hsm := b2.1.1.2.1
        have hB := bs_some hn1 (by omega) b2 hno
        rw [show lsT (some K) = smL K from rfl]
        refine pE_iload_n dX12_fewest_104 rfl rfl ?_
        refine pE_ldcw dX12_fewest_105 kcX12_423 ?_
        rw [show (1000000 : Int32) = nI 1000000 from rfl]
        refine pE_icmp_ne (tgt := 114) dX12_fewest_108 (by decide) (fun h108 => ?_) (fun h108 => ?_)
        · have g108 := nq_ne (by omega) (by omega) h108
          refine pE_aload_n dX12_fewest_114 rfl rfl ?_
          refine pE_iload_n dX12_fewest_115 rfl rfl ?_
          refine pE_putI dX12_fewest_116 flX12_365 ftX12 fiX12_52 rfl rfl (by first | assumption | rfl) ?_
          refine pE_iload_n dX12_fewest_119 rfl rfl ?_
          refine pE_iret dX12_fewest_120 rfl rfl ?_
          rw [← hB.2]
          refine h1 K hB.1 _ (sY52 (hx.tr f2)) ⟨by rw [pu_at, if_pos ⟨rfl, rfl⟩], by have := hB.2; omega, fun i hi => ?_⟩
          rw [pu_ne _ _ _ (by decide)]
          exact l2 K rfl i (by rw [← hB.2]; exact hi)
        · have g108 := nq_eq (by omega) (by omega) h108
          omega
set_option maxHeartbeats 400000 in
set_option maxRecDepth 100000 in
theorem M_X12_fewest {l : Launch} {X : pX} {t g : Nat} {I : pHI} {J : pHJ} {Q : pQ} {x : Int32} {H T : pN} {p0 p : pP} (hH : mH H I) (hr : rH H) (hrT : rS 999 H T) (hF : mF 0 p0 I) (hw : p0 = [] ∨ wfp p0 0) (hp0 : fR 0 p0 p) (hS : mS 90 T I) (h1 : ∀ a, a < H 1 → x = nI a → ∀ G, fwB p H T a G → ∀ I1, sY I I1 → cL 67 52 94 I1 G.length (fun i => nI (G.getD i 0)) → Q (some (.int (nI G.length))) I1 J (pR t g)) (h2 : ∀ a, a < H 1 → x = nI a → (∀ L, L.length ≤ 4 → ¬ fwV p H T a L) → ∀ I1, sY I I1 → cL 67 52 94 I1 0 (fun _ => 0) → Q (some (.int (-1))) I1 J (pR t g)) (h0 : (∀ a, a < H 1 → x ≠ nI a) → ∀ I1, sY I I1 → cL 67 52 94 I1 0 (fun _ => 0) → Q (some (.int (-1))) I1 J (pR t g)) : pM l X yX12_fewest mX12_fewest 5 [.ref 67, .int x] pK pK I J (pR t g) Q := by
  have f0 : sY I (pu I 67 52 (nI 0)) := sY52 sY.rf
  have hH0 := hH.sY f0
  have h520 : pu I 67 52 (nI 0) 67 52 = nI 0 := by rw [pu_at, if_pos ⟨rfl, rfl⟩]
  refine pM_of rfl (fun h => by cases h) rfl pKM (Nat.le_of_ble_eq_true rfl) ?_
  refine pE_aload_n dX12_fewest_0 rfl rfl ?_
  refine pE_iconst (v := nI 0) dX12_fewest_1 rfl ?_
  refine pE_putI dX12_fewest_2 flX12_365 ftX12 fiX12_52 rfl rfl (by first | assumption | rfl) ?_
  refine pE_aload_n dX12_fewest_5 rfl rfl ?_
  refine pE_iload_n dX12_fewest_6 rfl rfl ?_
  refine pE_callV (d' := 1) (as := [_]) dX12_fewest_7 lkX12_382 (cwX12_isTenant _ _) ivX12_isTenant ⟨_, rfl, rfl⟩ (by first | assumption | rfl) rfl rfl (Nat.le_of_ble_eq_true rfl) (by decide) pKK ?_
  refine M_X12_isTenant (H := H) hH0.2.1 hr.2.1 (fun a ha e1 => ?_) (fun hno => ?_)
  · subst e1
    refine pE_if_ne_t (tgt := 15) dX12_fewest_10 (by decide) nI_1n0 ?_
    refine pE_iconst (v := nI 0) dX12_fewest_15 rfl ?_
    refine pE_istore_n (lc' := [_, _, some (.int _), _, _, _, _]) dX12_fewest_16 rfl (Nat.le_of_ble_eq_true rfl) rfl rfl ?_
    exact LO_X12_fewest (I := I) hH hr hrT hF hw hp0 ha hS (h1 a ha rfl) (h2 a ha rfl) 6 0 _ _ _ _ _ (by omega) (by omega) f0 h520 (fun L hL => by omega)
  · refine pE_if_ne_f (tgt := 15) dX12_fewest_10 (by decide) nI_0 ?_
    refine pE_iconst (v := -1) dX12_fewest_13 rfl ?_
    refine pE_iret dX12_fewest_14 rfl rfl ?_
    exact h0 hno _ f0 ⟨h520, by omega, fun i hi => by omega⟩
