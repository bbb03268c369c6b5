def rfL (s : Nat → Nat) (tk : Nat → Bool) : Nat → Nat → List Nat
  | _, 0 => []
  | f, m + 1 => if tk f = true then rfL s tk (f + 1) m else s f :: rfL s tk (f + 1) m
theorem rg_succ {s : Nat → Nat} {tk : Nat → Bool} : ∀ (m f : Nat), rfL s tk f (m + 1) = rfL s tk f m ++ (if tk (f + m) = true then [] else [s (f + m)])
  | 0, f => by
    simp only [rfL, Nat.add_zero, List.nil_append]
  | m + 1, f => by
    rw [rfL, rg_succ m (f + 1), rfL, show f + 1 + m = f + (m + 1) by omega]
    by_cases c : tk f = true
    · rw [if_pos c, if_pos c]
    · rw [if_neg c, if_neg c, List.cons_append]
theorem rg_all {s : Nat → Nat} {tk : Nat → Bool} : ∀ n, rmL s tk n = rfL s tk 0 n
  | 0 => rfl
  | n + 1 => by rw [rg_succ, rmL, rg_all n, Nat.zero_add]
theorem rg_y {s : Nat → Nat} {tk : Nat → Bool} {n f : Nat} (hf : f < n) (h : tk f = true) : rfL s tk f (n - f) = rfL s tk (f + 1) (n - (f + 1)) := by
  rw [show n - f = (n - (f + 1)) + 1 by omega, rfL, if_pos h]
theorem rg_n {s : Nat → Nat} {tk : Nat → Bool} {n f : Nat} (hf : f < n) (h : tk f = false) : rfL s tk f (n - f) = s f :: rfL s tk (f + 1) (n - (f + 1)) := by
  rw [show n - f = (n - (f + 1)) + 1 by omega, rfL, if_neg (by rw [h]; decide)]
theorem rg_e {s : Nat → Nat} {tk : Nat → Bool} {n f : Nat} (hf : n ≤ f) : rfL s tk f (n - f) = [] := by
  rw [show n - f = 0 by omega]; rfl
theorem hL_drop {o : Nat → Nat} {n i : Nat} (hi : i < n) : (hL o n).drop i = o i :: (hL o n).drop (i + 1) := by
  have h : i < (hL o n).length := by rw [hL_len]; exact hi
  rw [List.drop_eq_getElem_cons h]
  congr 1
  have := hL_get (h := o) hi
  rw [List.getElem?_eq_getElem h] at this
  exact Option.some.inj this
theorem tkI {b : Bool} : (if b = true then nI 1 else nI 0) = 0 ↔ b = false := by cases b <;> decide
set_option maxHeartbeats 400000 in
set_option maxRecDepth 100000 in
theorem L_X4_diff2 {l : Launch} {X : pX} {t g : Nat} {I : pHI} {J : pHJ} {Q : pQ} {H : pN} {o s gv : Nat → Nat} {tk : Nat → Bool} {tt : Nat} {lo hi i : Nat} {v7 v8 : Int32} {v9 : Option Value} (ht : isH t) (hH : cH t H I) (hr : rH H) (ho : ∀ p, p < H 1 → I 65 p = nI (o p) ∧ o p < H 1) (hs : ∀ p, p < H 1 → I 63 p = nI (s p) ∧ s p ≤ 20) (hk : ∀ p, p < H 1 → I 64 p = if tk p = true then nI 1 else nI 0) (hg : ∀ p, p < tt → I 66 p = nI (gv p) ∧ gv p ≤ 20) (htt : tt ≤ H 1) (hi8 : i ≤ 8) {f0 : Nat} (hq : ∀ f1, f1 ≤ H 1 + i → rfL s tk f1 (H 1 - f1) = rfL s tk f0 (H 1 - f0) → (f1 < H 1 → tk f1 = false) → pE l X mX4_difference 1 pK 77 [some (.ref 62), some (.ref t), some (.int (nI tt)), some (.int (nI lo)), some (.int (nI hi)), some (.int (nI f1)), some (.int (nI i)), some (.int v7), some (.int v8), v9] [] pK I J (pR t g) Q) : ∀ (fu : Nat) (f : Nat), 8 + i + 1 - f < fu → (f ≤ H 1 + i) → (rfL s tk f (H 1 - f) = rfL s tk f0 (H 1 - f0)) → pE l X mX4_difference 1 pK 52 [some (.ref 62), some (.ref t), some (.int (nI tt)), some (.int (nI lo)), some (.int (nI hi)), some (.int (nI f)), some (.int (nI i)), some (.int v7), some (.int v8), v9] [] pK I J (pR t g) Q := by
  obtain ⟨fHFht0, fHFht1, fHFht2, fHFht3, fHFht4, fHFht5, fHFht6, fHFht7, fHFht8, fHFht9, fHFht10, fHFht11, fHFht12, fHFht13, fHFht14, fHFht15, fHFht16, fHFht17, fHFht18, fHFht19, fHFht20, fHFht21, fHFht22, fHFht23, fHFht24, fHFht25, fHFht26⟩ := HF t g ht
  intro fu
  induction fu with
  | zero => intro f hn; exact absurd hn (Nat.not_lt_zero _)
  | succ fu ih =>
    intro f hn hf he
    have hn8 := hr.2.1
    refine pE_iload dX4_difference_52 rfl ?_
    refine pE_aload_n dX4_difference_54 rfl rfl ?_
    refine pE_getI dX4_difference_55 flX4_36 rfl (Or.inl rfl) (by first | assumption | rfl) ?_
    rw [hH.2.2.1]
    refine pE_icmp_ge (tgt := 77) dX4_difference_58 (by decide) (fun h58 => ?_) (fun h58 => ?_)
    · have g58 := nq_le (by omega) (by omega) h58
      exact hq f hf he (fun q => by first | exact e68 | omega)
    · have g58 := nq_nle (by omega) (by omega) h58
      refine pE_aload_n dX4_difference_61 rfl rfl ?_
      refine pE_getR dX4_difference_62 flX4_15 rfl (by first | assumption | rfl) (by first | assumption | rfl) ?_
      refine pE_iload dX4_difference_65 rfl ?_
      refine pE_zaloadN dX4_difference_67 (by first | assumption | rfl) (by first | assumption | omega) (by omega) ?_
      rw [hk f (by omega)]
      refine pE_if_eq (tgt := 77) dX4_difference_68 (by decide) (fun h68 => ?_) (fun h68 => ?_)
      · have e68 := tkI.mp h68
        exact hq f hf he (fun q => by first | exact e68 | omega)
      · have e68 : tk f = true := by
          cases e : tk f with
          | true => rfl
          | false => exact absurd (tkI.mpr e) h68
        refine pE_iincN (c0 := 1) (lc' := [_, _, _, _, _, some (.int _), _, _, _, _]) dX4_difference_71 rfl rfl rfl rfl ?_
        refine pE_goto (tgt := 52) dX4_difference_74 (by decide) ?_
        exact ih (f + 1) (by omega) (by omega) ((rg_y g58 e68).symm.trans he)
set_option maxHeartbeats 400000 in
set_option maxRecDepth 100000 in
theorem L_X4_diff1 {l : Launch} {X : pX} {t g : Nat} {I : pHI} {J : pHJ} {Q : pQ} {H : pN} {o s gv : Nat → Nat} {tk : Nat → Bool} {tt : Nat} (ht : isH t) (hH : cH t H I) (hr : rH H) (ho : ∀ p, p < H 1 → I 65 p = nI (o p) ∧ o p < H 1) (hs : ∀ p, p < H 1 → I 63 p = nI (s p) ∧ s p ≤ 20) (hk : ∀ p, p < H 1 → I 64 p = if tk p = true then nI 1 else nI 0) (hg : ∀ p, p < tt → I 66 p = nI (gv p) ∧ gv p ≤ 20) (htt : tt ≤ H 1) (h0 : 0 < H 1) (hq : Q (some (.int (nI ((aC tt gv (fun a => H (32 + a)) (hL o (H 1)) (rmL s tk (H 1))).foldl max 0 - (aC tt gv (fun a => H (32 + a)) (hL o (H 1)) (rmL s tk (H 1))).foldl min 1599)))) I J (pR t g)) : ∀ (fu : Nat) (i : Nat) (f : Nat) (lo : Nat) (hi : Nat) (v7 : Option Value) (v8 : Option Value) (v9 : Option Value), H 1 - i < fu → (i ≤ H 1) → (f ≤ H 1 + i) → ((aC tt gv (fun a => H (32 + a)) (hL o (H 1)) (rmL s tk (H 1))).foldl max 0 = (aC tt gv (fun a => H (32 + a)) ((hL o (H 1)).drop i) (rfL s tk f (H 1 - f))).foldl max hi) → ((aC tt gv (fun a => H (32 + a)) (hL o (H 1)) (rmL s tk (H 1))).foldl min 1599 = (aC tt gv (fun a => H (32 + a)) ((hL o (H 1)).drop i) (rfL s tk f (H 1 - f))).foldl min lo) → (lo ≤ 1599) → (hi ≤ 1599) → (i = 0 ∨ lo ≤ hi) → pE l X mX4_difference 1 pK 13 [some (.ref 62), some (.ref t), some (.int (nI tt)), some (.int (nI lo)), some (.int (nI hi)), some (.int (nI f)), some (.int (nI i)), v7, v8, v9] [] pK I J (pR t g) Q := by
  obtain ⟨fHFht0, fHFht1, fHFht2, fHFht3, fHFht4, fHFht5, fHFht6, fHFht7, fHFht8, fHFht9, fHFht10, fHFht11, fHFht12, fHFht13, fHFht14, fHFht15, fHFht16, fHFht17, fHFht18, fHFht19, fHFht20, fHFht21, fHFht22, fHFht23, fHFht24, fHFht25, fHFht26⟩ := HF t g ht
  intro fu
  induction fu with
  | zero => intro i f lo hi v7 v8 v9 hn; exact absurd hn (Nat.not_lt_zero _)
  | succ fu ih =>
    intro i f lo hi v7 v8 v9 hn hi1 hf ex en hlo hhi hlh
    have hn8 := hr.2.1
    refine pE_iload dX4_difference_13 rfl ?_
    refine pE_aload_n dX4_difference_15 rfl rfl ?_
    refine pE_getI dX4_difference_16 flX4_36 rfl (Or.inl rfl) (by first | assumption | rfl) ?_
    rw [hH.2.2.1]
    refine pE_icmp_ge (tgt := 139) dX4_difference_19 (by decide) (fun h19 => ?_) (fun h19 => ?_)
    · have g19 := nq_le (by omega) (by omega) h19
      refine pE_iload dX4_difference_139 rfl ?_
      refine pE_iload_n dX4_difference_141 rfl rfl ?_
      refine pE_isubN dX4_difference_142 (by omega) ?_
      refine pE_iret dX4_difference_143 rfl rfl ?_
      obtain rfl : i = H 1 := by omega
      rw [List.drop_eq_nil_of_le (by rw [hL_len]; omega)] at ex en
      simp only [aC, List.foldl_nil] at ex en
      rw [ex, en] at hq
      exact hq
    · have g19 := nq_nle (by omega) (by omega) h19
      refine pE_aload_n dX4_difference_22 rfl rfl ?_
      refine pE_getR dX4_difference_23 flX4_19 rfl (by first | assumption | rfl) (by first | assumption | rfl) ?_
      refine pE_iload dX4_difference_26 rfl ?_
      refine pE_ialoadN dX4_difference_28 (by first | assumption | rfl) (by first | assumption | omega) (by omega) ?_
      rw [(ho i (by omega)).1]
      refine pE_istore (lc' := [_, _, _, _, _, _, _, some (.int _), _, _]) dX4_difference_29 (Nat.le_of_ble_eq_true rfl) rfl rfl ?_
      have ho1 := (ho i (by omega)).2
      have hw1 := (hr.2.2.2.2 (o i) (by omega)).2.2.2.1
      refine pE_iconst (v := nI 0) dX4_difference_31 rfl ?_
      refine pE_istore (lc' := [_, _, _, _, _, _, _, _, some (.int _), _]) dX4_difference_32 (Nat.le_of_ble_eq_true rfl) rfl rfl ?_
      refine pE_iload dX4_difference_34 rfl ?_
      refine pE_iload_n dX4_difference_36 rfl rfl ?_
      refine pE_icmp_ge (tgt := 52) dX4_difference_37 (by decide) (fun h37 => ?_) (fun h37 => ?_)
      · have g37 := nq_le (by omega) (by omega) h37
        refine L_X4_diff2 ht hH hr ho hs hk hg htt (by omega) (f0 := f) (fun f1 k1 k2 k3 => ?_) (8 + i + 2) f (by omega) hf rfl
        refine pE_iload dX4_difference_77 rfl ?_
        refine pE_aload_n dX4_difference_79 rfl rfl ?_
        refine pE_getI dX4_difference_80 flX4_36 rfl (Or.inl rfl) (by first | assumption | rfl) ?_
        rw [hH.2.2.1]
        refine pE_icmp_ge (tgt := 96) dX4_difference_83 (by decide) (fun h83 => ?_) (fun h83 => ?_)
        · have g83 := nq_le (by omega) (by omega) h83
          refine pE_iconst (v := nI 0) dX4_difference_96 rfl ?_
          refine pE_istore (lc' := [_, _, _, _, _, _, _, _, some (.int _), _]) dX4_difference_97 (Nat.le_of_ble_eq_true rfl) rfl rfl ?_
          refine pE_iincN (c0 := 1) (lc' := [_, _, _, _, _, some (.int _), _, _, _, _]) dX4_difference_99 rfl rfl rfl rfl ?_
          refine pE_bipush (v := nI 30) dX4_difference_102 rfl ?_
          refine pE_iload dX4_difference_104 rfl ?_
          refine pE_imulN dX4_difference_106 ?_
          refine pE_aload_n dX4_difference_107 rfl rfl ?_
          refine pE_getR dX4_difference_108 flX4_55 rfl (by first | assumption | rfl) (by first | assumption | rfl) ?_
          refine pE_iload dX4_difference_111 rfl ?_
          refine pE_ialoadN dX4_difference_113 (by first | assumption | rfl) (by first | assumption | omega) (by omega) ?_
          rw [(hH.2.2.2.2.2 (o i) (by omega)).2.2.2.1]
          refine pE_iaddN dX4_difference_114 ?_
          refine pE_istore (lc' := [_, _, _, _, _, _, _, _, _, some (.int _)]) dX4_difference_115 (Nat.le_of_ble_eq_true rfl) rfl rfl ?_
          refine pE_iload_n dX4_difference_117 rfl rfl ?_
          refine pE_iload dX4_difference_118 rfl ?_
          refine pE_min dX4_difference_120 lkX4_58 (by decide) (Nat.le_of_ble_eq_true rfl) ?_
          rw [nI_min _ _ (by omega) (by omega)]
          refine pE_istore_n (lc' := [_, _, _, some (.int _), _, _, _, _, _, _]) dX4_difference_123 rfl (Nat.le_of_ble_eq_true rfl) rfl rfl ?_
          refine pE_iload dX4_difference_124 rfl ?_
          refine pE_iload dX4_difference_126 rfl ?_
          refine pE_max dX4_difference_128 lkX4_64 (by decide) (Nat.le_of_ble_eq_true rfl) ?_
          rw [nI_max _ _ (by omega) (by omega)]
          refine pE_istore (lc' := [_, _, _, _, some (.int _), _, _, _, _, _]) dX4_difference_131 (Nat.le_of_ble_eq_true rfl) rfl rfl ?_
          refine pE_iincN (c0 := 1) (lc' := [_, _, _, _, _, _, some (.int _), _, _, _]) dX4_difference_133 rfl rfl rfl rfl ?_
          refine pE_goto (tgt := 13) dX4_difference_136 (by decide) ?_
          refine ih (i + 1) (f1 + 1) (min lo (30 * 0 + H (32 + o i))) (max hi (30 * 0 + H (32 + o i))) _ _ _ (by omega) (by omega) (by omega) ?_ ?_ (by omega) (by omega) (Or.inr (by omega))
          · rw [ex, hL_drop g19]
            simp only [aC]
            rw [if_neg (by omega), List.foldl_cons, ← k2, rg_e (show H 1 ≤ f1 by omega), rg_e (show H 1 ≤ f1 + 1 by omega)]
            rfl
          · rw [en, hL_drop g19]
            simp only [aC]
            rw [if_neg (by omega), List.foldl_cons, ← k2, rg_e (show H 1 ≤ f1 by omega), rg_e (show H 1 ≤ f1 + 1 by omega)]
            rfl
        · have g83 := nq_nle (by omega) (by omega) h83
          have hs1 := (hs f1 (by omega)).2
          have e83 := k3 g83
          refine pE_aload_n dX4_difference_86 rfl rfl ?_
          refine pE_getR dX4_difference_87 flX4_9 rfl (by first | assumption | rfl) (by first | assumption | rfl) ?_
          refine pE_iload dX4_difference_90 rfl ?_
          refine pE_ialoadN dX4_difference_92 (by first | assumption | rfl) (by first | assumption | omega) (by omega) ?_
          rw [(hs f1 (by omega)).1]
          refine pE_goto (tgt := 97) dX4_difference_93 (by decide) ?_
          refine pE_istore (lc' := [_, _, _, _, _, _, _, _, some (.int _), _]) dX4_difference_97 (Nat.le_of_ble_eq_true rfl) rfl rfl ?_
          refine pE_iincN (c0 := 1) (lc' := [_, _, _, _, _, some (.int _), _, _, _, _]) dX4_difference_99 rfl rfl rfl rfl ?_
          refine pE_bipush (v := nI 30) dX4_difference_102 rfl ?_
          refine pE_iload dX4_difference_104 rfl ?_
          refine pE_imulN dX4_difference_106 ?_
          refine pE_aload_n dX4_difference_107 rfl rfl ?_
          refine pE_getR dX4_difference_108 flX4_55 rfl (by first | assumption | rfl) (by first | assumption | rfl) ?_
          refine pE_iload dX4_difference_111 rfl ?_
          refine pE_ialoadN dX4_difference_113 (by first | assumption | rfl) (by first | assumption | omega) (by omega) ?_
          rw [(hH.2.2.2.2.2 (o i) (by omega)).2.2.2.1]
          refine pE_iaddN dX4_difference_114 ?_
          refine pE_istore (lc' := [_, _, _, _, _, _, _, _, _, some (.int _)]) dX4_difference_115 (Nat.le_of_ble_eq_true rfl) rfl rfl ?_
          refine pE_iload_n dX4_difference_117 rfl rfl ?_
          refine pE_iload dX4_difference_118 rfl ?_
          refine pE_min dX4_difference_120 lkX4_58 (by decide) (Nat.le_of_ble_eq_true rfl) ?_
          rw [nI_min _ _ (by omega) (by omega)]
          refine pE_istore_n (lc' := [_, _, _, some (.int _), _, _, _, _, _, _]) dX4_difference_123 rfl (Nat.le_of_ble_eq_true rfl) rfl rfl ?_
          refine pE_iload dX4_difference_124 rfl ?_
          refine pE_iload dX4_difference_126 rfl ?_
          refine pE_max dX4_difference_128 lkX4_64 (by decide) (Nat.le_of_ble_eq_true rfl) ?_
          rw [nI_max _ _ (by omega) (by omega)]
          refine pE_istore (lc' := [_, _, _, _, some (.int _), _, _, _, _, _]) dX4_difference_131 (Nat.le_of_ble_eq_true rfl) rfl rfl ?_
          refine pE_iincN (c0 := 1) (lc' := [_, _, _, _, _, _, some (.int _), _, _, _]) dX4_difference_133 rfl rfl rfl rfl ?_
          refine pE_goto (tgt := 13) dX4_difference_136 (by decide) ?_
          refine ih (i + 1) (f1 + 1) (min lo (30 * s f1 + H (32 + o i))) (max hi (30 * s f1 + H (32 + o i))) _ _ _ (by omega) (by omega) (by omega) ?_ ?_ (by omega) (by omega) (Or.inr (by omega))
          · rw [ex, hL_drop g19]
            simp only [aC]
            rw [if_neg (by omega), List.foldl_cons, ← k2, rg_n g83 e83]
            rfl
          · rw [en, hL_drop g19]
            simp only [aC]
            rw [if_neg (by omega), List.foldl_cons, ← k2, rg_n g83 e83]
            rfl
      · have g37 := nq_nle (by omega) (by omega) h37
        refine pE_aload_n dX4_difference_40 rfl rfl ?_
        refine pE_getR dX4_difference_41 flX4_22 rfl (by first | assumption | rfl) (by first | assumption | rfl) ?_
        refine pE_iload dX4_difference_44 rfl ?_
        refine pE_ialoadN dX4_difference_46 (by first | assumption | rfl) (by first | assumption | omega) (by omega) ?_
        rw [(hg (o i) (by omega)).1]
        refine pE_istore (lc' := [_, _, _, _, _, _, _, _, some (.int _), _]) dX4_difference_47 (Nat.le_of_ble_eq_true rfl) rfl rfl ?_
        refine pE_goto (tgt := 102) dX4_difference_49 (by decide) ?_
        have hg1 := (hg (o i) (by omega)).2
        refine pE_bipush (v := nI 30) dX4_difference_102 rfl ?_
        refine pE_iload dX4_difference_104 rfl ?_
        refine pE_imulN dX4_difference_106 ?_
        refine pE_aload_n dX4_difference_107 rfl rfl ?_
        refine pE_getR dX4_difference_108 flX4_55 rfl (by first | assumption | rfl) (by first | assumption | rfl) ?_
        refine pE_iload dX4_difference_111 rfl ?_
        refine pE_ialoadN dX4_difference_113 (by first | assumption | rfl) (by first | assumption | omega) (by omega) ?_
        rw [(hH.2.2.2.2.2 (o i) (by omega)).2.2.2.1]
        refine pE_iaddN dX4_difference_114 ?_
        refine pE_istore (lc' := [_, _, _, _, _, _, _, _, _, some (.int _)]) dX4_difference_115 (Nat.le_of_ble_eq_true rfl) rfl rfl ?_
        refine pE_iload_n dX4_difference_117 rfl rfl ?_
        refine pE_iload dX4_difference_118 rfl ?_
        refine pE_min dX4_difference_120 lkX4_58 (by decide) (Nat.le_of_ble_eq_true rfl) ?_
        rw [nI_min _ _ (by omega) (by omega)]
        refine pE_istore_n (lc' := [_, _, _, some (.int _), _, _, _, _, _, _]) dX4_difference_123 rfl (Nat.le_of_ble_eq_true rfl) rfl rfl ?_
        refine pE_iload dX4_difference_124 rfl ?_
        refine pE_iload dX4_difference_126 rfl ?_
        refine pE_max dX4_difference_128 lkX4_64 (by decide) (Nat.le_of_ble_eq_true rfl) ?_
        rw [nI_max _ _ (by omega) (by omega)]
        refine pE_istore (lc' := [_, _, _, _, some (.int _), _, _, _, _, _]) dX4_difference_131 (Nat.le_of_ble_eq_true rfl) rfl rfl ?_
        refine pE_iincN (c0 := 1) (lc' := [_, _, _, _, _, _, some (.int _), _, _, _]) dX4_difference_133 rfl rfl rfl rfl ?_
        refine pE_goto (tgt := 13) dX4_difference_136 (by decide) ?_
        refine ih (i + 1) f (min lo (30 * gv (o i) + H (32 + o i))) (max hi (30 * gv (o i) + H (32 + o i))) _ _ _ (by omega) (by omega) (by omega) ?_ ?_ (by omega) (by omega) (Or.inr (by omega))
        · rw [ex, hL_drop g19]
          simp only [aC]
          rw [if_pos g37, List.foldl_cons]
        · rw [en, hL_drop g19]
          simp only [aC]
          rw [if_pos g37, List.foldl_cons]
set_option maxHeartbeats 400000 in
set_option maxRecDepth 100000 in
theorem M_X4_difference {l : Launch} {X : pX} {t g : Nat} {I : pHI} {J : pHJ} {Q : pQ} {H : pN} {o s gv : Nat → Nat} {tk : Nat → Bool} {tt : Nat} (ht : isH t) (hH : cH t H I) (hr : rH H) (ho : ∀ p, p < H 1 → I 65 p = nI (o p) ∧ o p < H 1) (hs : ∀ p, p < H 1 → I 63 p = nI (s p) ∧ s p ≤ 20) (hk : ∀ p, p < H 1 → I 64 p = if tk p = true then nI 1 else nI 0) (hg : ∀ p, p < tt → I 66 p = nI (gv p) ∧ gv p ≤ 20) (htt : tt ≤ H 1) (h0 : 0 < H 1) (hq : Q (some (.int (nI (dC tt gv (fun a => H (32 + a)) (hL o (H 1)) (rmL s tk (H 1)))))) I J (pR t g)) : pM l X yX4_difference mX4_difference 1 [.ref 62, .ref t, .int (nI tt)] pK pK I J (pR t g) Q := by
  refine pM_of rfl (fun h => by cases h) rfl pKM (Nat.le_of_ble_eq_true rfl) ?_
  refine pE_sipush (v := nI 1599) dX4_difference_0 rfl ?_
  refine pE_istore_n (lc' := [_, _, _, some (.int _), _, _, _, _, _, _]) dX4_difference_3 rfl (Nat.le_of_ble_eq_true rfl) rfl rfl ?_
  refine pE_iconst (v := nI 0) dX4_difference_4 rfl ?_
  refine pE_istore (lc' := [_, _, _, _, some (.int _), _, _, _, _, _]) dX4_difference_5 (Nat.le_of_ble_eq_true rfl) rfl rfl ?_
  refine pE_iconst (v := nI 0) dX4_difference_7 rfl ?_
  refine pE_istore (lc' := [_, _, _, _, _, some (.int _), _, _, _, _]) dX4_difference_8 (Nat.le_of_ble_eq_true rfl) rfl rfl ?_
  refine pE_iconst (v := nI 0) dX4_difference_10 rfl ?_
  refine pE_istore (lc' := [_, _, _, _, _, _, some (.int _), _, _, _]) dX4_difference_11 (Nat.le_of_ble_eq_true rfl) rfl rfl ?_
  exact L_X4_diff1 ht hH hr ho hs hk hg htt h0 hq (H 1 + 1) 0 0 1599 0 _ _ _ (by omega) (by omega) (by omega) (by rw [rg_all]; rfl) (by rw [rg_all]; rfl) (by omega) (by omega) (Or.inl rfl)
