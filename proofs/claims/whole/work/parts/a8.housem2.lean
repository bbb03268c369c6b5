/-! the state at first; who is not there is not strong *) -/
def bgT (H : pN) : pN := fun k => if k < 8 then H (16 + k) else if k = 25 then H 2 else if k = 27 then H 3 else 0
def zG (D : pDt) : Prop := ∀ j, D.1 1 ≤ j → j < 8 → D.1 (16 + j) = 0
theorem ln1_zG {B : Nat → Nat} {n p : Nat} {b : Bool} {D : pDt} (h : zG D) : zG (ln1 B n p b D).2 := by
  unfold ln1
  split
  · intro j h1 h2
    simp only [stL] at h1 ⊢
    rw [upN_n (by omega), upN_n (by omega)] at h1 ⊢
    exact h j h1 h2
  · split
    · intro j h1 h2
      have h1' : tnH B n p D 1 ≤ j := h1
      rw [show tnH B n p D 1 = D.1 1 + 1 from upN_e] at h1'
      show tnH B n p D (16 + j) = 0
      unfold tnH
      by_cases c : 16 + j = 8 + D.1 1
      · omega
      · rw [upN_n (by omega), upN_n (by omega), upN_n (by omega), upN_n (by omega), upN_n (by omega), upN_n c]
        exact h j (by omega) h2
    · split
      · intro j h1 h2
        dsimp only at h1 ⊢
        rw [upN_n (by omega)] at h1 ⊢
        exact h j h1 h2
      · split
        · intro j h1 h2
          dsimp only at h1 ⊢
          rw [upN_n (by omega)] at h1 ⊢
          exact h j h1 h2
        · split
          · intro j h1 h2
            dsimp only at h1 ⊢
            rw [upN_n (by omega)] at h1 ⊢
            exact h j h1 h2
          · exact h
theorem lns_zG {B : Nat → Nat} {n : Nat} : ∀ (m : Nat) (s : pRS) (b : Bool) (D : pDt), zG D → zG (lns B n m s b D).2 := by
  intro m
  induction m with
  | zero => intro s b D h; exact h
  | succ m ih =>
    intro s b D h
    cases s with
    | inl e => exact h
    | inr p =>
      rw [lns]
      split
      · exact h
      · exact ih _ _ _ (ln1_zG h)
theorem txt_zG {B : Nat → Nat} {n : Nat} : zG (txt B n).2 := lns_zG _ _ _ _ (fun j _ hj => H9_0 (by omega))
theorem rDt.H {D : pDt} (h : rDt D) : rH D.1 := ⟨h.1, h.2.1, h.2.2.1, h.2.2.2.1, h.2.2.2.2.2.1⟩
theorem bg_r {H : pN} (h : rH H) : rS 999 H (bgT H) := by
  obtain ⟨a, b, c, d, e⟩ := h
  refine ⟨?_, ?_, ?_, by omega, fun j hj => ⟨?_, ?_, ?_⟩⟩
  · show (if 25 < 8 then _ else _) ≤ _
    simp; exact c
  · show (if 26 < 8 then _ else _) ≤ _
    simp
  · show (if 27 < 8 then _ else _) ≤ _
    simp; exact d
  · show (if j < 8 then _ else _) ≤ _
    rw [if_pos hj]; exact (e j hj).2.1
  · show (if 8 + j < 8 then _ else _) ≤ _
    rw [if_neg (by omega), if_neg (by omega), if_neg (by omega)]; omega
  · show (if 16 + j < 8 then _ else _) ≤ _
    rw [if_neg (by omega), if_neg (by omega), if_neg (by omega)]; omega
/-- a formula copied *) -/
def cpF (w m : Nat) (I I1 : pHI) : Prop := ∀ i, i < m → I1 73 (320 * w + i) = I 70 (320 * w + i) ∧ I1 74 (320 * w + i) = I 71 (320 * w + i)
def sCp (w : Nat) (I I1 : pHI) : Prop := ∀ c k, ¬ (c = 75 ∧ k = w) → ¬ ((c = 73 ∨ c = 74) ∧ 320 * w ≤ k ∧ k < 320 * w + 320) → I1 c k = I c k
theorem sCp.rf {w : Nat} {I : pHI} : sCp w I I := fun _ _ _ _ => rfl
theorem mG.mF {w : Nat} {o : pP} {I I1 : pHI} (h : mG w o I) (hl : o.length ≤ 269) (h75 : I1 75 w = nI o.length) (hc : cpF w o.length I I1) : mF w o I1 := by
  refine ⟨by omega, h75, fun i k m e => ?_⟩
  have hi := (List.getElem?_eq_some_iff.mp e).1
  have z := h.2 i k m e
  rw [(hc i hi).1, (hc i hi).2]
  exact z
set_option maxHeartbeats 400000 in
set_option maxRecDepth 100000 in
theorem L_X12_copyI {l : Launch} {X : pX} {t g : Nat} {I : pHI} {J : pHJ} {Q : pQ} {w m : Nat} {I0 : pHI} (hw : w ≤ 1) (hm : m ≤ 269) (k : ∀ I1, sCp w I0 I1 → I1 75 w = nI m → cpF w m I0 I1 → ∀ v2, pE l X mX12_house 9 pK 39 [some (.ref 67), some (.int (nI (w + 1))), v2] [] pK I1 J (pR t g) Q) : ∀ (fu : Nat) (i : Nat) (I1 : pHI), m - i < fu → (i ≤ m) → (sCp w I0 I1) → (I1 75 w = nI m) → (cpF w i I0 I1) → pE l X mX12_house 9 pK 75 [some (.ref 67), some (.int (nI w)), some (.int (nI (320 * w + i)))] [] pK I1 J (pR t g) Q := by
  intro fu
  induction fu with
  | zero => intro i I1 hn; exact absurd hn (Nat.not_lt_zero _)
  | succ fu ih =>
    intro i I1 hn hi hx h75 hc
    refine pE_iload_n dX12_house_75 rfl rfl ?_
    refine pE_sipush (v := nI 320) dX12_house_76 rfl ?_
    refine pE_iload_n dX12_house_79 rfl rfl ?_
    refine pE_imulN dX12_house_80 ?_
    refine pE_aload_n dX12_house_81 rfl rfl ?_
    refine pE_getR dX12_house_82 flX12_36 rfl (by first | assumption | rfl) (by first | assumption | rfl) ?_
    refine pE_iload_n dX12_house_85 rfl rfl ?_
    refine pE_ialoadN dX12_house_86 (by first | assumption | rfl) (by first | assumption | omega) (by omega) ?_
    rw [h75]
    refine pE_iaddN dX12_house_87 ?_
    refine pE_icmp_ge (tgt := 121) dX12_house_88 (by decide) (fun h88 => ?_) (fun h88 => ?_)
    · have g88 := nq_le (by omega) (by omega) h88
      have ei : i = m := by omega
      subst ei
      refine pE_iincN (c0 := 1) (lc' := [_, some (.int _), _]) dX12_house_121 rfl rfl rfl rfl ?_
      refine pE_goto (tgt := 39) dX12_house_124 (by decide) ?_
      exact k I1 hx h75 hc _
    · have g88 := nq_nle (by omega) (by omega) h88
      refine pE_aload_n dX12_house_91 rfl rfl ?_
      refine pE_getR dX12_house_92 flX12_30 rfl (by first | assumption | rfl) (by first | assumption | rfl) ?_
      refine pE_iload_n dX12_house_95 rfl rfl ?_
      refine pE_aload_n dX12_house_96 rfl rfl ?_
      refine pE_getR dX12_house_97 flX12_21 rfl (by first | assumption | rfl) (by first | assumption | rfl) ?_
      refine pE_iload_n dX12_house_100 rfl rfl ?_
      refine pE_ialoadN dX12_house_101 (by first | assumption | rfl) (by first | assumption | omega) (by omega) ?_
      refine pE_iastoreN dX12_house_102 (by first | assumption | rfl) (by first | assumption | omega) (by omega) ?_
      refine pE_aload_n dX12_house_103 rfl rfl ?_
      refine pE_getR dX12_house_104 flX12_33 rfl (by first | assumption | rfl) (by first | assumption | rfl) ?_
      refine pE_iload_n dX12_house_107 rfl rfl ?_
      refine pE_aload_n dX12_house_108 rfl rfl ?_
      refine pE_getR dX12_house_109 flX12_24 rfl (by first | assumption | rfl) (by first | assumption | rfl) ?_
      refine pE_iload_n dX12_house_112 rfl rfl ?_
      refine pE_ialoadN dX12_house_113 (by first | assumption | rfl) (by first | assumption | omega) (by omega) ?_
      refine pE_iastoreN dX12_house_114 (by first | assumption | rfl) (by first | assumption | omega) (by omega) ?_
      refine pE_iincN (c0 := 1) (lc' := [_, _, some (.int _)]) dX12_house_115 rfl rfl rfl rfl ?_
      refine pE_goto (tgt := 75) dX12_house_118 (by decide) ?_
      refine pE_cg (ih (i + 1) _ (by omega) (by omega) ?_ ?_ ?_) (by simp only [Nat.add_assoc]) rfl rfl rfl rfl
      · intro c k2 a b
        rw [pu_at, if_neg (by omega), pu_at, if_neg (by omega)]; exact hx c k2 a b
      · rw [pu_ne _ _ _ (by decide), pu_ne _ _ _ (by decide)]; exact h75
      · intro j hj
        by_cases c : j = i
        · subst c
          refine ⟨?_, ?_⟩
          · rw [pu_ne _ _ _ (by decide), pu_at, if_pos ⟨rfl, rfl⟩]; exact hx 70 _ (by omega) (by omega)
          · rw [pu_at, if_pos ⟨rfl, rfl⟩, pu_ne _ _ _ (by decide)]; exact hx 71 _ (by omega) (by omega)
        · have z := hc j (by omega)
          rw [pu_ne _ _ _ (show (73 : Nat) ≠ 74 by decide), pu_at, if_neg (by omega), pu_at, if_neg (by omega), pu_ne _ _ _ (show (74 : Nat) ≠ 73 by decide)]
          exact z
set_option maxHeartbeats 400000 in
set_option maxRecDepth 100000 in
theorem L_X12_copy {l : Launch} {X : pX} {t g : Nat} {I : pHI} {J : pHJ} {Q : pQ} {w fl m : Nat} {v2 : Option Value} (hw : w ≤ 1) (hfl : fl ≤ 1) (h78 : I 78 w = nI fl) (h72 : fl = 1 → I 72 w = nI m) (hm0 : fl = 0 → m = 0) (hm : m ≤ 269) (k : ∀ I1, sCp w I I1 → I1 75 w = nI m → cpF w m I I1 → ∀ v2, pE l X mX12_house 9 pK 39 [some (.ref 67), some (.int (nI (w + 1))), v2] [] pK I1 J (pR t g) Q) : pE l X mX12_house 9 pK 39 [some (.ref 67), some (.int (nI w)), v2] [] pK I J (pR t g) Q := by
  refine pE_iload_n dX12_house_39 rfl rfl ?_
  refine pE_iconst (v := nI 2) dX12_house_40 rfl ?_
  refine pE_icmp_ge (tgt := 127) dX12_house_41 (by decide) (fun h41 => ?_) (fun h41 => ?_)
  · have g41 := nq_le (by omega) (by omega) h41
    omega
  · have g41 := nq_nle (by omega) (by omega) h41
    refine pE_aload_n dX12_house_44 rfl rfl ?_
    refine pE_getR dX12_house_45 flX12_36 rfl (by first | assumption | rfl) (by first | assumption | rfl) ?_
    refine pE_iload_n dX12_house_48 rfl rfl ?_
    refine pE_aload_n dX12_house_49 rfl rfl ?_
    refine pE_getR dX12_house_50 flX12_45 rfl (by first | assumption | rfl) (by first | assumption | rfl) ?_
    refine pE_iload_n dX12_house_53 rfl rfl ?_
    refine pE_zaloadN dX12_house_54 (by first | assumption | rfl) (by first | assumption | omega) (by omega) ?_
    rw [h78]
    refine pE_if_eq (tgt := 67) dX12_house_55 (by decide) (fun h55 => ?_) (fun h55 => ?_)
    · have g55 := nq_eq0 (by omega) h55
      refine pE_iconst (v := nI 0) dX12_house_67 rfl ?_
      refine pE_iastoreN dX12_house_68 (by first | assumption | rfl) (by first | assumption | omega) (by omega) ?_
      first
      | (have ez := hm0 g55
         subst ez
         refine pE_sipush (v := nI 320) dX12_house_69 rfl ?_
         refine pE_iload_n dX12_house_72 rfl rfl ?_
         refine pE_imulN dX12_house_73 ?_
         refine pE_istore_n (lc' := [_, _, some (.int _)]) dX12_house_74 rfl (Nat.le_of_ble_eq_true rfl) rfl rfl ?_
         refine pE_cg (L_X12_copyI (I := I) hw hm k 270 0 _ (by omega) (by omega) ?_ ?_ (fun i hi => absurd hi (by omega))) (by rfl) rfl rfl rfl rfl
         · intro c k2 a b
           rw [pu_at, if_neg (by omega)]
         · rw [pu_at, if_pos ⟨rfl, rfl⟩])
      | (refine pE_sipush (v := nI 320) dX12_house_69 rfl ?_
         refine pE_iload_n dX12_house_72 rfl rfl ?_
         refine pE_imulN dX12_house_73 ?_
         refine pE_istore_n (lc' := [_, _, some (.int _)]) dX12_house_74 rfl (Nat.le_of_ble_eq_true rfl) rfl rfl ?_
         refine pE_cg (L_X12_copyI (I := I) hw hm k 270 0 _ (by omega) (by omega) ?_ ?_ (fun i hi => absurd hi (by omega))) (by rfl) rfl rfl rfl rfl
         · intro c k2 a b
           rw [pu_at, if_neg (by omega)]
         · rw [pu_at, if_pos ⟨rfl, rfl⟩])
    · have g55 := nq_ne0 (by omega) h55
      refine pE_aload_n dX12_house_58 rfl rfl ?_
      refine pE_getR dX12_house_59 flX12_27 rfl (by first | assumption | rfl) (by first | assumption | rfl) ?_
      refine pE_iload_n dX12_house_62 rfl rfl ?_
      refine pE_ialoadN dX12_house_63 (by first | assumption | rfl) (by first | assumption | omega) (by omega) ?_
      rw [h72 (by omega)]
      refine pE_goto (tgt := 68) dX12_house_64 (by decide) ?_
      refine pE_iastoreN dX12_house_68 (by first | assumption | rfl) (by first | assumption | omega) (by omega) ?_
      first
      | (have ez := hm0 g55
         subst ez
         refine pE_sipush (v := nI 320) dX12_house_69 rfl ?_
         refine pE_iload_n dX12_house_72 rfl rfl ?_
         refine pE_imulN dX12_house_73 ?_
         refine pE_istore_n (lc' := [_, _, some (.int _)]) dX12_house_74 rfl (Nat.le_of_ble_eq_true rfl) rfl rfl ?_
         refine pE_cg (L_X12_copyI (I := I) hw hm k 270 0 _ (by omega) (by omega) ?_ ?_ (fun i hi => absurd hi (by omega))) (by rfl) rfl rfl rfl rfl
         · intro c k2 a b
           rw [pu_at, if_neg (by omega)]
         · rw [pu_at, if_pos ⟨rfl, rfl⟩])
      | (refine pE_sipush (v := nI 320) dX12_house_69 rfl ?_
         refine pE_iload_n dX12_house_72 rfl rfl ?_
         refine pE_imulN dX12_house_73 ?_
         refine pE_istore_n (lc' := [_, _, some (.int _)]) dX12_house_74 rfl (Nat.le_of_ble_eq_true rfl) rfl rfl ?_
         refine pE_cg (L_X12_copyI (I := I) hw hm k 270 0 _ (by omega) (by omega) ?_ ?_ (fun i hi => absurd hi (by omega))) (by rfl) rfl rfl rfl rfl
         · intro c k2 a b
           rw [pu_at, if_neg (by omega)]
         · rw [pu_at, if_pos ⟨rfl, rfl⟩])
def sNa (a : Nat) (I I1 : pHI) : Prop := ∀ c k, c ≠ a → I1 c k = I c k
set_option maxHeartbeats 400000 in
set_option maxRecDepth 100000 in
theorem L_X12_now0 {l : Launch} {X : pX} {t g : Nat} {I : pHI} {J : pHJ} {Q : pQ} {v2 : Option Value} {I0 : pHI} (k : ∀ I1, sNa 90 I0 I1 → (∀ j, j < 28 → I1 90 j = nI 0) → pE l X mX12_house 9 pK 148 [some (.ref 67), some (.int (nI 28)), v2] [] pK I1 J (pR t g) Q) : ∀ (fu : Nat) (i : Nat) (I1 : pHI), 28 - i < fu → (i ≤ 28) → (sNa 90 I0 I1) → (∀ j, j < i → I1 90 j = nI 0) → pE l X mX12_house 9 pK 129 [some (.ref 67), some (.int (nI i)), v2] [] pK I1 J (pR t g) Q := by
  intro fu
  induction fu with
  | zero => intro i I1 hn; exact absurd hn (Nat.not_lt_zero _)
  | succ fu ih =>
    intro i I1 hn hi hx hv
    refine pE_iload_n dX12_house_129 rfl rfl ?_
    refine pE_bipush (v := nI 28) dX12_house_130 rfl ?_
    refine pE_icmp_ge (tgt := 148) dX12_house_132 (by decide) (fun h132 => ?_) (fun h132 => ?_)
    · have g132 := nq_le (by omega) (by omega) h132
      have ei : i = 28 := by omega
      subst ei
      exact k I1 hx hv
    · have g132 := nq_nle (by omega) (by omega) h132
      refine pE_aload_n dX12_house_135 rfl rfl ?_
      refine pE_getR dX12_house_136 flX12_85 rfl (by first | assumption | rfl) (by first | assumption | rfl) ?_
      refine pE_iload_n dX12_house_139 rfl rfl ?_
      refine pE_iconst (v := nI 0) dX12_house_140 rfl ?_
      refine pE_iastoreN dX12_house_141 (by first | assumption | rfl) (by first | assumption | omega) (by omega) ?_
      refine pE_iincN (c0 := 1) (lc' := [_, some (.int _), _]) dX12_house_142 rfl rfl rfl rfl ?_
      refine pE_goto (tgt := 129) dX12_house_145 (by decide) ?_
      refine ih (i + 1) _ (by omega) (by omega) (fun c k2 a => by rw [pu_ne _ _ _ a]; exact hx c k2 a) (fun j hj => ?_)
      rw [pu_at]
      split
      · rfl
      · exact hv j (by omega)
def sTn (I I1 : pHI) : Prop := ∀ c k, ¬ (85 ≤ c ∧ c ≤ 90) → I1 c k = I c k
def tnC (H : pN) (i : Nat) (I : pHI) : Prop := ∀ j, j < i → I 85 j = nI (H (8 + j)) ∧ I 86 j = nI (H (16 + j)) ∧ I 87 j = nI (H (24 + j)) ∧ I 88 j = nI (H (32 + j)) ∧ I 89 j = nI (H (40 + j)) ∧ I 90 j = nI (H (16 + j))
set_option maxHeartbeats 400000 in
set_option maxRecDepth 100000 in
theorem L_X12_tens {l : Launch} {X : pX} {t g : Nat} {I : pHI} {J : pHJ} {Q : pQ} {v2 : Option Value} {I0 : pHI} {H : pN} (h8 : H 1 ≤ 8) (h42 : I0 67 42 = nI (H 1)) (hnn : ∀ j, j < H 1 → I0 80 j = nI (H (8 + j)) ∧ I0 81 j = nI (H (16 + j)) ∧ I0 82 j = nI (H (24 + j)) ∧ I0 83 j = nI (H (32 + j)) ∧ I0 84 j = nI (H (40 + j))) (k : ∀ I1, sTn I0 I1 → tnC H (H 1) I1 → (∀ j, H 1 ≤ j → I1 90 j = I0 90 j) → pE l X mX12_house 9 pK 236 [some (.ref 67), some (.int (nI (H 1))), v2] [] pK I1 J (pR t g) Q) : ∀ (fu : Nat) (i : Nat) (I1 : pHI), H 1 - i < fu → (i ≤ H 1) → (sTn I0 I1) → (tnC H i I1) → (∀ j, i ≤ j → I1 90 j = I0 90 j) → pE l X mX12_house 9 pK 150 [some (.ref 67), some (.int (nI i)), v2] [] pK I1 J (pR t g) Q := by
  intro fu
  induction fu with
  | zero => intro i I1 hn; exact absurd hn (Nat.not_lt_zero _)
  | succ fu ih =>
    intro i I1 hn hi hx hv hr
    have h42b : I1 67 42 = nI (H 1) := (hx 67 42 (by omega)).trans h42
    refine pE_iload_n dX12_house_150 rfl rfl ?_
    refine pE_aload_n dX12_house_151 rfl rfl ?_
    refine pE_getI dX12_house_152 flX12_350 rfl (Or.inl rfl) (by first | assumption | rfl) ?_
    rw [h42b]
    refine pE_icmp_ge (tgt := 236) dX12_house_155 (by decide) (fun h155 => ?_) (fun h155 => ?_)
    · have g155 := nq_le (by omega) (by omega) h155
      have ei : i = H 1 := by omega
      subst ei
      exact k I1 hx hv hr
    · have g155 := nq_nle (by omega) (by omega) h155
      refine pE_aload_n dX12_house_158 rfl rfl ?_
      refine pE_getR dX12_house_159 flX12_67 rfl (by first | assumption | rfl) (by first | assumption | rfl) ?_
      refine pE_iload_n dX12_house_162 rfl rfl ?_
      refine pE_aload_n dX12_house_163 rfl rfl ?_
      refine pE_getR dX12_house_164 flX12_52 rfl (by first | assumption | rfl) (by first | assumption | rfl) ?_
      refine pE_iload_n dX12_house_167 rfl rfl ?_
      refine pE_ialoadN dX12_house_168 (by first | assumption | rfl) (by first | assumption | omega) (by omega) ?_
      refine pE_iastoreN dX12_house_169 (by first | assumption | rfl) (by first | assumption | omega) (by omega) ?_
      refine pE_aload_n dX12_house_170 rfl rfl ?_
      refine pE_getR dX12_house_171 flX12_70 rfl (by first | assumption | rfl) (by first | assumption | rfl) ?_
      refine pE_iload_n dX12_house_174 rfl rfl ?_
      refine pE_aload_n dX12_house_175 rfl rfl ?_
      refine pE_getR dX12_house_176 flX12_55 rfl (by first | assumption | rfl) (by first | assumption | rfl) ?_
      refine pE_iload_n dX12_house_179 rfl rfl ?_
      refine pE_ialoadN dX12_house_180 (by first | assumption | rfl) (by first | assumption | omega) (by omega) ?_
      refine pE_iastoreN dX12_house_181 (by first | assumption | rfl) (by first | assumption | omega) (by omega) ?_
      refine pE_aload_n dX12_house_182 rfl rfl ?_
      refine pE_getR dX12_house_183 flX12_73 rfl (by first | assumption | rfl) (by first | assumption | rfl) ?_
      refine pE_iload_n dX12_house_186 rfl rfl ?_
      refine pE_aload_n dX12_house_187 rfl rfl ?_
      refine pE_getR dX12_house_188 flX12_58 rfl (by first | assumption | rfl) (by first | assumption | rfl) ?_
      refine pE_iload_n dX12_house_191 rfl rfl ?_
      refine pE_ialoadN dX12_house_192 (by first | assumption | rfl) (by first | assumption | omega) (by omega) ?_
      refine pE_iastoreN dX12_house_193 (by first | assumption | rfl) (by first | assumption | omega) (by omega) ?_
      refine pE_aload_n dX12_house_194 rfl rfl ?_
      refine pE_getR dX12_house_195 flX12_76 rfl (by first | assumption | rfl) (by first | assumption | rfl) ?_
      refine pE_iload_n dX12_house_198 rfl rfl ?_
      refine pE_aload_n dX12_house_199 rfl rfl ?_
      refine pE_getR dX12_house_200 flX12_61 rfl (by first | assumption | rfl) (by first | assumption | rfl) ?_
      refine pE_iload_n dX12_house_203 rfl rfl ?_
      refine pE_ialoadN dX12_house_204 (by first | assumption | rfl) (by first | assumption | omega) (by omega) ?_
      refine pE_iastoreN dX12_house_205 (by first | assumption | rfl) (by first | assumption | omega) (by omega) ?_
      refine pE_aload_n dX12_house_206 rfl rfl ?_
      refine pE_getR dX12_house_207 flX12_79 rfl (by first | assumption | rfl) (by first | assumption | rfl) ?_
      refine pE_iload_n dX12_house_210 rfl rfl ?_
      refine pE_aload_n dX12_house_211 rfl rfl ?_
      refine pE_getR dX12_house_212 flX12_64 rfl (by first | assumption | rfl) (by first | assumption | rfl) ?_
      refine pE_iload_n dX12_house_215 rfl rfl ?_
      refine pE_ialoadN dX12_house_216 (by first | assumption | rfl) (by first | assumption | omega) (by omega) ?_
      refine pE_iastoreN dX12_house_217 (by first | assumption | rfl) (by first | assumption | omega) (by omega) ?_
      refine pE_aload_n dX12_house_218 rfl rfl ?_
      refine pE_getR dX12_house_219 flX12_85 rfl (by first | assumption | rfl) (by first | assumption | rfl) ?_
      refine pE_iload_n dX12_house_222 rfl rfl ?_
      refine pE_aload_n dX12_house_223 rfl rfl ?_
      refine pE_getR dX12_house_224 flX12_70 rfl (by first | assumption | rfl) (by first | assumption | rfl) ?_
      refine pE_iload_n dX12_house_227 rfl rfl ?_
      refine pE_ialoadN dX12_house_228 (by first | assumption | rfl) (by first | assumption | omega) (by omega) ?_
      refine pE_iastoreN dX12_house_229 (by first | assumption | rfl) (by first | assumption | omega) (by omega) ?_
      refine pE_iincN (c0 := 1) (lc' := [_, some (.int _), _]) dX12_house_230 rfl rfl rfl rfl ?_
      refine pE_goto (tgt := 150) dX12_house_233 (by decide) ?_
      obtain ⟨n1, n2, n3, n4, n5⟩ := hnn i (by omega)
      refine ih (i + 1) _ (by omega) (by omega) (fun c k2 a => ?_) (fun j hj => ?_) (fun j hj => ?_)
      · rw [pu_ne _ _ _ (by omega), pu_ne _ _ _ (by omega), pu_ne _ _ _ (by omega), pu_ne _ _ _ (by omega), pu_ne _ _ _ (by omega), pu_ne _ _ _ (by omega)]; exact hx c k2 a
      · rw [pu_ne _ _ _ (show (85 : Nat) ≠ 90 by decide), pu_ne _ _ _ (show (85 : Nat) ≠ 89 by decide), pu_ne _ _ _ (show (85 : Nat) ≠ 88 by decide), pu_ne _ _ _ (show (85 : Nat) ≠ 87 by decide), pu_ne _ _ _ (show (85 : Nat) ≠ 86 by decide), pu_ne _ _ _ (show (86 : Nat) ≠ 90 by decide), pu_ne _ _ _ (show (86 : Nat) ≠ 89 by decide), pu_ne _ _ _ (show (86 : Nat) ≠ 88 by decide), pu_ne _ _ _ (show (86 : Nat) ≠ 87 by decide), pu_ne _ _ _ (show (87 : Nat) ≠ 90 by decide), pu_ne _ _ _ (show (87 : Nat) ≠ 89 by decide), pu_ne _ _ _ (show (87 : Nat) ≠ 88 by decide), pu_ne _ _ _ (show (88 : Nat) ≠ 90 by decide), pu_ne _ _ _ (show (88 : Nat) ≠ 89 by decide), pu_ne _ _ _ (show (89 : Nat) ≠ 90 by decide)]
        by_cases c : j = i
        · subst c
          have e6 : I1 86 j = I1 86 j := rfl
          refine ⟨?_, ?_, ?_, ?_, ?_, ?_⟩
          · rw [pu_at, if_pos ⟨rfl, rfl⟩, hx 80 _ (by omega)]; exact n1
          · rw [pu_at, if_pos ⟨rfl, rfl⟩, pu_ne _ _ _ (by decide), hx 81 _ (by omega)]; exact n2
          · rw [pu_at, if_pos ⟨rfl, rfl⟩, pu_ne _ _ _ (by decide), pu_ne _ _ _ (by decide), hx 82 _ (by omega)]; exact n3
          · rw [pu_at, if_pos ⟨rfl, rfl⟩, pu_ne _ _ _ (by decide), pu_ne _ _ _ (by decide), pu_ne _ _ _ (by decide), hx 83 _ (by omega)]; exact n4
          · rw [pu_at, if_pos ⟨rfl, rfl⟩, pu_ne _ _ _ (by decide), pu_ne _ _ _ (by decide), pu_ne _ _ _ (by decide), pu_ne _ _ _ (by decide), hx 84 _ (by omega)]; exact n5
          · rw [pu_at, if_pos ⟨rfl, rfl⟩, pu_at, if_pos ⟨rfl, rfl⟩, pu_ne _ _ _ (show (81 : Nat) ≠ 85 by decide), hx 81 _ (by omega)]; exact n2
        · obtain ⟨m1, m2, m3, m4, m5, m6⟩ := hv j (by omega)
          refine ⟨?_, ?_, ?_, ?_, ?_, ?_⟩
          · rw [pu_at, if_neg (by omega)]; exact m1
          · rw [pu_at, if_neg (by omega), pu_ne _ _ _ (by decide)]; exact m2
          · rw [pu_at, if_neg (by omega), pu_ne _ _ _ (by decide), pu_ne _ _ _ (by decide)]; exact m3
          · rw [pu_at, if_neg (by omega), pu_ne _ _ _ (by decide), pu_ne _ _ _ (by decide), pu_ne _ _ _ (by decide)]; exact m4
          · rw [pu_at, if_neg (by omega), pu_ne _ _ _ (by decide), pu_ne _ _ _ (by decide), pu_ne _ _ _ (by decide), pu_ne _ _ _ (by decide)]; exact m5
          · rw [pu_at, if_neg (by omega), pu_ne _ _ _ (by decide), pu_ne _ _ _ (by decide), pu_ne _ _ _ (by decide), pu_ne _ _ _ (by decide), pu_ne _ _ _ (by decide)]; exact m6
      · rw [pu_at, if_neg (by omega), pu_ne _ _ _ (by decide), pu_ne _ _ _ (by decide), pu_ne _ _ _ (by decide), pu_ne _ _ _ (by decide), pu_ne _ _ _ (by decide)]; exact hr j (by omega)
set_option maxHeartbeats 400000 in
set_option maxRecDepth 100000 in
theorem L_X12_boxes {l : Launch} {X : pX} {t g : Nat} {I : pHI} {J : pHJ} {Q : pQ} {v2 : Option Value} {I0 : pHI} {m : Nat} (h42 : I0 67 42 = nI m) (k : ∀ I1, sNa 107 I0 I1 → (∀ j, j < 3 → I1 107 j = nI 0) → Q (some (.int (nI m))) I1 J (pR t g)) : ∀ (fu : Nat) (i : Nat) (I1 : pHI), 3 - i < fu → (i ≤ 3) → (sNa 107 I0 I1) → (∀ j, j < i → I1 107 j = nI 0) → pE l X mX12_house 9 pK 280 [some (.ref 67), some (.int (nI i)), v2] [] pK I1 J (pR t g) Q := by
  intro fu
  induction fu with
  | zero => intro i I1 hn; exact absurd hn (Nat.not_lt_zero _)
  | succ fu ih =>
    intro i I1 hn hi hx hv
    have h42b : I1 67 42 = nI m := (hx 67 42 (by omega)).trans h42
    refine pE_iload_n dX12_house_280 rfl rfl ?_
    refine pE_iconst (v := nI 3) dX12_house_281 rfl ?_
    refine pE_icmp_ge (tgt := 298) dX12_house_282 (by decide) (fun h282 => ?_) (fun h282 => ?_)
    · have g282 := nq_le (by omega) (by omega) h282
      refine pE_aload_n dX12_house_298 rfl rfl ?_
      refine pE_getI dX12_house_299 flX12_350 rfl (Or.inl rfl) (by first | assumption | rfl) ?_
      rw [h42b]
      refine pE_iret dX12_house_302 rfl rfl ?_
      exact k I1 hx (fun j hj => hv j (by omega))
    · have g282 := nq_nle (by omega) (by omega) h282
      refine pE_aload_n dX12_house_285 rfl rfl ?_
      refine pE_getR dX12_house_286 flX12_136 rfl (by first | assumption | rfl) (by first | assumption | rfl) ?_
      refine pE_iload_n dX12_house_289 rfl rfl ?_
      refine pE_iconst (v := nI 0) dX12_house_290 rfl ?_
      refine pE_zastoreN dX12_house_291 (by first | assumption | rfl) (by exact Or.inl nI_0) (by first | assumption | omega) (by omega) ?_
      refine pE_iincN (c0 := 1) (lc' := [_, some (.int _), _]) dX12_house_292 rfl rfl rfl rfl ?_
      refine pE_goto (tgt := 280) dX12_house_295 (by decide) ?_
      refine ih (i + 1) _ (by omega) (by omega) (fun c k2 a => by rw [pu_ne _ _ _ a]; exact hx c k2 a) (fun j hj => ?_)
      rw [pu_at]
      split
      · rfl
      · exact hv j (by omega)
def sHs (I I1 : pHI) : Prop := ∀ c k, ¬ (c = 67 ∧ (k = 23 ∨ k = 41 ∨ k = 42 ∨ k = 48 ∨ k = 49 ∨ k = 52 ∨ k = 64 ∨ (1 ≤ k ∧ k ≤ 44))) → ¬ (70 ≤ c ∧ c ≤ 76) → c ≠ 78 → ¬ (80 ≤ c ∧ c ≤ 90) → c ≠ 107 → I1 c k = I c k
def hsM (D : pDt) (I : pHI) : Prop := mH D.1 I ∧ mF 0 (D.2.2.1.getD []) I ∧ mF 1 (D.2.2.2.1.getD []) I ∧ mS 90 (bgT D.1) I ∧ I 67 48 = nI 0 ∧ I 67 49 = nI 0 ∧ I 67 64 = nI 0 ∧ I 67 52 = nI 0 ∧ (∀ b, b < 3 → I 107 b = nI 0) ∧ I 67 1 = nI 0 ∧ I 67 2 = nI 0 ∧ I 67 3 = -1
set_option maxHeartbeats 400000 in
set_option maxRecDepth 100000 in
theorem L_X12_houseO {l : Launch} {X : pX} {t g : Nat} {I : pHI} {J : pHJ} {Q : pQ} {I0 : pHI} {D : pDt} {v1 v2 : Option Value} (hx : sHs I0 I) (hrD : rDt D) (hz : zG D) (hD : mDt I J D) (h1 : I 67 1 = nI 0) (h2 : I 67 2 = nI 0) (h3 : I 67 3 = -1) (hq : ∀ I1, sHs I0 I1 → hsM D I1 → Q (some (.int (nI (D.1 1)))) I1 J (pR t g)) : pE l X mX12_house 9 pK 13 [some (.ref 67), v1, v2] [] pK I J (pR t g) Q := by
  obtain ⟨⟨a1, a2, a3, a4, a5, a6⟩, b1, b2, b3, b4, b5, b6⟩ := hD
  have h8 := hrD.2.1
  refine pE_aload_n dX12_house_13 rfl rfl ?_
  refine pE_aload_n dX12_house_14 rfl rfl ?_
  refine pE_getI dX12_house_15 flX12_312 rfl (Or.inl rfl) (by first | assumption | rfl) ?_
  rw [a1]
  refine pE_putI dX12_house_18 flX12_82 ftX12 fiX12_41 rfl rfl (by first | assumption | rfl) ?_
  refine pE_aload_n dX12_house_21 rfl rfl ?_
  refine pE_aload_n dX12_house_22 rfl rfl ?_
  refine pE_getI dX12_house_23 flX12_248 rfl (Or.inl rfl) (by first | assumption | rfl) ?_
  rw [pu_at, if_neg (by omega), a3]
  refine pE_putI dX12_house_26 flX12_350 ftX12 fiX12_42 rfl rfl (by first | assumption | rfl) ?_
  refine pE_aload_n dX12_house_29 rfl rfl ?_
  refine pE_aload_n dX12_house_30 rfl rfl ?_
  refine pE_getI dX12_house_31 flX12_267 rfl (Or.inl rfl) (by first | assumption | rfl) ?_
  rw [pu_at, if_neg (by omega), pu_at, if_neg (by omega), a5]
  refine pE_putI dX12_house_34 flX12_353 ftX12 fiX12_23 rfl rfl (by first | assumption | rfl) ?_
  refine pE_iconst (v := nI 0) dX12_house_37 rfl ?_
  refine pE_istore_n (lc' := [_, some (.int _), _]) dX12_house_38 rfl (Nat.le_of_ble_eq_true rfl) rfl rfl ?_
  have g3 : ∀ c k, ¬ (c = 67 ∧ (k = 23 ∨ k = 41 ∨ k = 42)) → (pu (pu (pu I 67 41 (nI (D.1 0))) 67 42 (nI (D.1 1))) 67 23 (nI (D.1 4))) c k = I c k := fun c k z => by
    rw [pu_at, if_neg (by omega), pu_at, if_neg (by omega), pu_at, if_neg (by omega)]
  have l0 : (D.2.2.1.getD []).length ≤ 269 := by
    cases e : D.2.2.1 with
    | none => simp
    | some w => exact (hrD.2.2.2.2.2.2.2.2.1 w e).2.1
  have l1 : (D.2.2.2.1.getD []).length ≤ 269 := by
    cases e : D.2.2.2.1 with
    | none => simp
    | some w => exact (hrD.2.2.2.2.2.2.2.2.2 w e).2.1
  have c0 : D.2.2.1 = none → D.2.2.1.getD [] = [] := fun e => by rw [e]; rfl
  have c1 : D.2.2.2.1 = none → D.2.2.2.1.getD [] = [] := fun e => by rw [e]; rfl
  have f0 : (if D.2.2.1 = none then 0 else 1) ≤ 1 := by split <;> omega
  have f1 : (if D.2.2.2.1 = none then 0 else 1) ≤ 1 := by split <;> omega
  refine L_X12_copy (w := 0) (m := (D.2.2.1.getD []).length) (by omega) f0 ((g3 _ _ (by omega)).trans b1) (fun e => ?_) (fun e => ?_) l0 (fun I4 x4 y4 z4 v4 => ?_)
  · rw [g3 _ _ (by omega)]
    cases e2 : D.2.2.1 with
    | none => rw [if_pos e2] at e; cases e
    | some w => exact (b5 w e2).1
  · by_cases e2 : D.2.2.1 = none
    · rw [c0 e2]; rfl
    · rw [if_neg e2] at e; cases e
  have g4 : ∀ c k, ¬ (c = 67 ∧ (k = 23 ∨ k = 41 ∨ k = 42)) → ¬ (c = 75 ∧ k = 0) → ¬ ((c = 73 ∨ c = 74) ∧ k < 320) → I4 c k = I c k := fun c k z1 z2 z3 => by
    rw [x4 c k z2 (by omega), g3 c k z1]
  refine L_X12_copy (w := 1) (m := (D.2.2.2.1.getD []).length) (by omega) f1 ((g4 _ _ (by omega) (by omega) (by omega)).trans b2) (fun e => ?_) (fun e => ?_) l1 (fun I5 x5 y5 z5 v5 => ?_)
  · rw [g4 _ _ (by omega) (by omega) (by omega)]
    cases e2 : D.2.2.2.1 with
    | none => rw [if_pos e2] at e; cases e
    | some w => exact (b6 w e2).1
  · by_cases e2 : D.2.2.2.1 = none
    · rw [c1 e2]; rfl
    · rw [if_neg e2] at e; cases e
  have g5 : ∀ c k, ¬ (c = 67 ∧ (k = 23 ∨ k = 41 ∨ k = 42)) → c ≠ 75 → c ≠ 73 → c ≠ 74 → I5 c k = I c k := fun c k z1 z2 z3 z4 => by
    rw [x5 c k (by omega) (by omega), g4 c k z1 (by omega) (by omega)]
  have g567 : ∀ k, I5 67 k = (pu (pu (pu I 67 41 (nI (D.1 0))) 67 42 (nI (D.1 1))) 67 23 (nI (D.1 4))) 67 k := fun k => by rw [x5 _ _ (by omega) (by omega), x4 _ _ (by omega) (by omega)]
  have m0 : mF 0 (D.2.2.1.getD []) I5 := by
    have k : mF 0 (D.2.2.1.getD []) I4 := by
      cases e2 : D.2.2.1 with
      | none => exact ⟨by simp, by rw [y4, c0 e2]; rfl, fun i k m e => by cases e⟩
      | some w =>
        rw [e2] at y4 z4 l0
        exact (b5 w e2).mF l0 y4 (fun i hi => by
          have q1 := z4 i hi
          rw [g3 _ _ (by omega), g3 _ _ (by omega)] at q1; exact q1)
    obtain ⟨k1, k2, k3⟩ := k
    exact ⟨k1, (x5 _ _ (by omega) (by omega)).trans k2, fun i k m e => by
      have hi := (List.getElem?_eq_some_iff.mp e).1
      rw [x5 _ _ (by omega) (by omega), x5 _ _ (by omega) (by omega)]; exact k3 i k m e⟩
  have m1 : mF 1 (D.2.2.2.1.getD []) I5 := by
    cases e2 : D.2.2.2.1 with
    | none => exact ⟨by simp, by rw [y5, c1 e2]; rfl, fun i k m e => by cases e⟩
    | some w =>
      rw [e2] at y5 z5 l1
      exact (b6 w e2).mF l1 y5 (fun i hi => by
        have q1 := z5 i hi
        rw [g4 _ _ (by omega) (by omega) (by omega), g4 _ _ (by omega) (by omega) (by omega)] at q1; exact q1)
  refine pE_iload_n dX12_house_39 rfl rfl ?_
  refine pE_iconst (v := nI 2) dX12_house_40 rfl ?_
  refine pE_icmp_ge (tgt := 127) dX12_house_41 (by decide) (fun h41 => ?_) (fun h41 => ?_)
  · have g41 := nq_le (by omega) (by omega) h41
    refine pE_iconst (v := nI 0) dX12_house_127 rfl ?_
    refine pE_istore_n (lc' := [_, some (.int _), _]) dX12_house_128 rfl (Nat.le_of_ble_eq_true rfl) rfl rfl ?_
    refine L_X12_now0 (I := I) (I0 := I5) (fun I6 x6 y6 => ?_) 29 0 I5 (by omega) (by omega) (fun _ _ _ => rfl) (fun j hj => absurd hj (by omega))
    refine pE_iconst (v := nI 0) dX12_house_148 rfl ?_
    refine pE_istore_n (lc' := [_, some (.int _), _]) dX12_house_149 rfl (Nat.le_of_ble_eq_true rfl) rfl rfl ?_
    refine L_X12_tens (I := I) (I0 := I6) (H := D.1) h8 (by rw [x6 _ _ (by omega), g567, pu_at, if_neg (by omega), pu_at, if_pos ⟨rfl, rfl⟩]) (fun j hj => ?_) (fun I7 x7 y7 z7 => ?_) (D.1 1 + 1) 0 I6 (by omega) (by omega) (fun _ _ _ => rfl) (fun j hj => absurd hj (by omega)) (fun _ _ => rfl)
    · have k := a6 j hj
      rw [x6 _ _ (by omega), g5 _ _ (by omega) (by omega) (by omega) (by omega), x6 _ _ (by omega), g5 _ _ (by omega) (by omega) (by omega) (by omega), x6 _ _ (by omega), g5 _ _ (by omega) (by omega) (by omega) (by omega), x6 _ _ (by omega), g5 _ _ (by omega) (by omega) (by omega) (by omega), x6 _ _ (by omega), g5 _ _ (by omega) (by omega) (by omega) (by omega)]
      exact k
    have g7 : ∀ k, I7 67 k = (pu (pu (pu I 67 41 (nI (D.1 0))) 67 42 (nI (D.1 1))) 67 23 (nI (D.1 4))) 67 k := fun k => by rw [x7 _ _ (by omega), x6 _ _ (by omega), g567]
    refine pE_aload_n dX12_house_236 rfl rfl ?_
    refine pE_getR dX12_house_237 flX12_85 rfl (by first | assumption | rfl) (by first | assumption | rfl) ?_
    refine pE_bipush (v := nI 25) dX12_house_240 rfl ?_
    refine pE_aload_n dX12_house_242 rfl rfl ?_
    refine pE_getI dX12_house_243 flX12_319 rfl (Or.inl rfl) (by first | assumption | rfl) ?_
    rw [g7, pu_at, if_neg (by omega), pu_at, if_neg (by omega), pu_at, if_neg (by omega), a2]
    refine pE_iastoreN dX12_house_246 (by first | assumption | rfl) (by first | assumption | omega) (by omega) ?_
    refine pE_aload_n dX12_house_247 rfl rfl ?_
    refine pE_getR dX12_house_248 flX12_85 rfl (by first | assumption | rfl) (by first | assumption | rfl) ?_
    refine pE_bipush (v := nI 27) dX12_house_251 rfl ?_
    refine pE_aload_n dX12_house_253 rfl rfl ?_
    refine pE_getI dX12_house_254 flX12_341 rfl (Or.inl rfl) (by first | assumption | rfl) ?_
    rw [pu_ne _ _ _ (show (67 : Nat) ≠ 90 by decide), g7, pu_at, if_neg (by omega), pu_at, if_neg (by omega), pu_at, if_neg (by omega), a4]
    refine pE_iastoreN dX12_house_257 (by first | assumption | rfl) (by first | assumption | omega) (by omega) ?_
    refine pE_aload_n dX12_house_258 rfl rfl ?_
    refine pE_iconst (v := nI 0) dX12_house_259 rfl ?_
    refine pE_putI dX12_house_260 flX12_356 ftX12 fiX12_48 rfl rfl (by first | assumption | rfl) ?_
    refine pE_aload_n dX12_house_263 rfl rfl ?_
    refine pE_iconst (v := nI 0) dX12_house_264 rfl ?_
    refine pE_putI dX12_house_265 flX12_359 ftX12 fiX12_49 rfl rfl (by first | assumption | rfl) ?_
    refine pE_aload_n dX12_house_268 rfl rfl ?_
    refine pE_iconst (v := nI 0) dX12_house_269 rfl ?_
    refine pE_putI dX12_house_270 flX12_362 ftX12 fiX12_64 rfl rfl (by first | assumption | rfl) ?_
    refine pE_aload_n dX12_house_273 rfl rfl ?_
    refine pE_iconst (v := nI 0) dX12_house_274 rfl ?_
    refine pE_putI dX12_house_275 flX12_365 ftX12 fiX12_52 rfl rfl (by first | assumption | rfl) ?_
    refine pE_iconst (v := nI 0) dX12_house_278 rfl ?_
    refine pE_istore_n (lc' := [_, some (.int _), _]) dX12_house_279 rfl (Nat.le_of_ble_eq_true rfl) rfl rfl ?_
    have g8 : ∀ k, (pu (pu (pu (pu (pu (pu I7 90 25 (nI (D.1 2))) 90 27 (nI (D.1 3))) 67 48 (nI 0)) 67 49 (nI 0)) 67 64 (nI 0)) 67 52 (nI 0)) 67 k = if k = 52 then nI 0 else if k = 64 then nI 0 else if k = 49 then nI 0 else if k = 48 then nI 0 else if k = 23 then nI (D.1 4) else if k = 42 then nI (D.1 1) else if k = 41 then nI (D.1 0) else I 67 k := fun k => by
      rw [pu_at _ _ _ 67 k, pu_at _ _ _ 67 k, pu_at _ _ _ 67 k, pu_at _ _ _ 67 k, pu_ne _ _ _ (show (67 : Nat) ≠ 90 by decide), pu_ne _ _ _ (show (67 : Nat) ≠ 90 by decide), g7, pu_at _ _ _ 67 k, pu_at _ _ _ 67 k, pu_at _ _ _ 67 k]
      simp only [true_and]
    have g9 : ∀ c k, c ≠ 67 → c ≠ 90 → (pu (pu (pu (pu (pu (pu I7 90 25 (nI (D.1 2))) 90 27 (nI (D.1 3))) 67 48 (nI 0)) 67 49 (nI 0)) 67 64 (nI 0)) 67 52 (nI 0)) c k = I7 c k := fun c k z1 z2 => by
      rw [pu_ne _ _ _ z1, pu_ne _ _ _ z1, pu_ne _ _ _ z1, pu_ne _ _ _ z1, pu_ne _ _ _ z2, pu_ne _ _ _ z2]
    have g90 : ∀ k, (pu (pu (pu (pu (pu (pu I7 90 25 (nI (D.1 2))) 90 27 (nI (D.1 3))) 67 48 (nI 0)) 67 49 (nI 0)) 67 64 (nI 0)) 67 52 (nI 0)) 90 k = if k = 27 then nI (D.1 3) else if k = 25 then nI (D.1 2) else I7 90 k := fun k => by
      rw [pu_ne _ _ _ (show (90 : Nat) ≠ 67 by decide), pu_ne _ _ _ (show (90 : Nat) ≠ 67 by decide), pu_ne _ _ _ (show (90 : Nat) ≠ 67 by decide), pu_ne _ _ _ (show (90 : Nat) ≠ 67 by decide), pu_at _ _ _ 90 k, pu_at _ _ _ 90 k]
      simp only [true_and]
    refine L_X12_boxes (I := I) (m := D.1 1) (by rw [g8]; rfl) (fun I9 x9 y9 => ?_) 4 0 _ (by omega) (by omega) (fun _ _ _ => rfl) (fun j hj => absurd hj (by omega))
    have w67 : ∀ k, I9 67 k = if k = 52 then nI 0 else if k = 64 then nI 0 else if k = 49 then nI 0 else if k = 48 then nI 0 else if k = 23 then nI (D.1 4) else if k = 42 then nI (D.1 1) else if k = 41 then nI (D.1 0) else I 67 k := fun k => by rw [x9 _ _ (by omega), g8]
    have w0 : ∀ c k, c ≠ 67 → c ≠ 90 → c ≠ 107 → I9 c k = I7 c k := fun c k z1 z2 z3 => by rw [x9 _ _ z3, g9 _ _ z1 z2]
    refine hq I9 (fun c k e1 e2 e3 e4 e5 => ?_) ⟨⟨?_, ?_, ?_, fun j hj => ?_⟩, ?_, ?_, fun k hk => ?_, ?_, ?_, ?_, ?_, y9, ?_, ?_, ?_⟩
    · by_cases c67 : c = 67
      · subst c67
        rw [w67]
        repeat rw [if_neg (by omega)]
        exact hx 67 k e1 e2 e3 e4 e5
      · rw [w0 _ _ c67 (by omega) e5, x7 _ _ (by omega), x6 _ _ (by omega), g5 _ _ (by omega) (by omega) (by omega) (by omega)]
        exact hx c k e1 e2 e3 e4 e5
    · rw [w67]; rfl
    · rw [w67]; rfl
    · rw [w67]; rfl
    · obtain ⟨k1, k2, k3, k4, k5, k6⟩ := y7 j hj
      rw [w0 _ _ (by omega) (by omega) (by omega), w0 _ _ (by omega) (by omega) (by omega), w0 _ _ (by omega) (by omega) (by omega), w0 _ _ (by omega) (by omega) (by omega), w0 _ _ (by omega) (by omega) (by omega)]
      exact ⟨k1, k2, k3, k4, k5⟩
    · exact ⟨m0.1, by rw [w0 _ _ (by omega) (by omega) (by omega), x7 _ _ (by omega), x6 _ _ (by omega)]; exact m0.2.1, fun i k m e => by rw [w0 _ _ (by omega) (by omega) (by omega), x7 _ _ (by omega), x6 _ _ (by omega), w0 _ _ (by omega) (by omega) (by omega), x7 _ _ (by omega), x6 _ _ (by omega)]; exact m0.2.2 i k m e⟩
    · exact ⟨m1.1, by rw [w0 _ _ (by omega) (by omega) (by omega), x7 _ _ (by omega), x6 _ _ (by omega)]; exact m1.2.1, fun i k m e => by rw [w0 _ _ (by omega) (by omega) (by omega), x7 _ _ (by omega), x6 _ _ (by omega), w0 _ _ (by omega) (by omega) (by omega), x7 _ _ (by omega), x6 _ _ (by omega)]; exact m1.2.2 i k m e⟩
    · rw [x9 _ _ (by omega), g90]
      unfold bgT
      by_cases c27 : k = 27
      · rw [if_pos c27, c27, if_neg (by omega), if_neg (by omega), if_pos rfl]
      · rw [if_neg c27]
        by_cases c25 : k = 25
        · rw [if_pos c25, c25, if_neg (by omega), if_pos rfl]
        · rw [if_neg c25]
          by_cases c8 : k < 8
          · rw [if_pos c8]
            by_cases ct : k < D.1 1
            · exact (y7 k ct).2.2.2.2.2
            · rw [z7 k (by omega), y6 k hk, hz k (by omega) c8]
          · rw [if_neg c8, if_neg c25, if_neg c27, z7 k (by omega), y6 k hk]
    · rw [w67]; rfl
    · rw [w67]; rfl
    · rw [w67]; rfl
    · rw [w67]; rfl
    · rw [w67]; exact h1
    · rw [w67]; exact h2
    · rw [w67]; exact h3
  · have g41 := nq_nle (by omega) (by omega) h41
    omega
set_option maxHeartbeats 400000 in
set_option maxRecDepth 100000 in
theorem M_X12_house {l : Launch} {X : pX} {t g : Nat} {I : pHI} {J : pHJ} {Q : pQ} {n : Nat} {B : Nat → Nat} (hTp : mTp I n B) (h1 : ∀ q I1 J1, (txt B n).1 = .inr q → sHs I I1 → hsM (txt B n).2 I1 → Q (some (.int (nI ((txt B n).2.1 1)))) I1 J1 (pR t g)) (h0 : ∀ e I1 J1, (txt B n).1 = .inl e → sMA I I1 → I1 67 1 = nI 0 → I1 67 2 = nI e.1 → I1 67 3 = nI e.2 → e.1 ≤ 4 → e.2 ≤ 1600 → Q (some (.int (-1))) I1 J1 (pR t g)) : pM l X yX12_house mX12_house 9 [.ref 67] pK pK I J (pR t g) Q := by
  refine pM_of rfl (fun h => by cases h) rfl pKM (Nat.le_of_ble_eq_true rfl) ?_
  refine pE_aload_n dX12_house_0 rfl rfl ?_
  refine pE_callV (d' := 8) (as := []) dX12_house_1 lkX12_347 (cwX12_readAll _ _) ivX12_readAll ⟨_, rfl, rfl⟩ (by first | assumption | rfl) rfl rfl (Nat.le_of_ble_eq_true rfl) (by decide) pKK ?_
  refine M_X12_readAll hTp (fun q I1 J1 x1 y1 e1 D1 a1 a2 a3 => ?_) (fun e I1 J1 x1 y1 e1 a1 a2 a3 a4 a5 => ?_)
  · refine pE_aload_n dX12_house_4 rfl rfl ?_
    refine pE_getI dX12_house_5 flX12_182 rfl (Or.inl rfl) (by first | assumption | rfl) ?_
    rw [a2]
    refine pE_if_le (tgt := 13) dX12_house_8 (by decide) (fun h8 => ?_) (fun h8 => ?_)
    · have g8 := nq_le0 (by omega) h8
      exact L_X12_houseO (fun c k b1 b2 b3 b4 b5 => x1 c k (fun z => b1 ⟨z.1, by omega⟩) (by omega) (by omega) b3 (by omega)) (txt_r e1) txt_zG D1 a1 a2 a3 (fun I2 z1 z2 => h1 q I2 J1 e1 z1 z2)
    · have g8 := nq_nle0 (by omega) h8
      omega
  · refine pE_aload_n dX12_house_4 rfl rfl ?_
    refine pE_getI dX12_house_5 flX12_182 rfl (Or.inl rfl) (by first | assumption | rfl) ?_
    rw [a2]
    refine pE_if_le (tgt := 13) dX12_house_8 (by decide) (fun h8 => ?_) (fun h8 => ?_)
    · have g8 := nq_le0 (by omega) h8
      omega
    · have g8 := nq_nle0 (by omega) h8
      refine pE_iconst (v := -1) dX12_house_11 rfl ?_
      refine pE_iret dX12_house_12 rfl rfl ?_
      exact h0 e I1 J1 e1 x1 a1 a2 a3 a4.2 a5
