/-! the class's TOKENS: cell 4 -/
def bI (c : Nat) : Int32 := if c = 256 then -1 else nI c
def tpC (I : pHI) (n : Nat) (B : Nat → Nat) : Prop := I 4 1 = nI n ∧ n ≤ 1600 ∧ ∀ i, i < n → I 1 i &&& 255 = nI (B i) ∧ B i < 256
def s4 (I I1 : pHI) : Prop := ∀ c k, ¬ (c = 4 ∧ 2 ≤ k) → I1 c k = I c k
theorem s4.rf {I : pHI} : s4 I I := fun _ _ _ => rfl
theorem s4.tr {I I1 I2 : pHI} (h1 : s4 I I1) (h2 : s4 I1 I2) : s4 I I2 := fun c k a => (h2 c k a).trans (h1 c k a)
theorem s4.pu {I I1 : pHI} {k : Nat} {x : Int32} (h : s4 I I1) (hk : 2 ≤ k) : s4 I (pu I1 4 k x) := fun c j a => by
  rw [pu_at, if_neg (fun q => a ⟨q.1, by omega⟩)]; exact h c j a
def j4 (J J1 : pHJ) : Prop := ∀ c k, ¬ (c = 4 ∧ k = 7) → J1 c k = J c k
theorem j4.rf {J : pHJ} : j4 J J := fun _ _ _ => rfl
theorem j4.tr {I I1 I2 : pHJ} (h1 : j4 I I1) (h2 : j4 I1 I2) : j4 I I2 := fun c k a => (h2 c k a).trans (h1 c k a)
theorem j4.pu {J J1 : pHJ} {x : Int64} (h : j4 J J1) : j4 J (pu J1 4 7 x) := fun c j a => by
  rw [pu_at, if_neg a]; exact h c j a
theorem tpC.s4 {I I1 : pHI} {n : Nat} {B : Nat → Nat} (h : tpC I n B) (hx : s4 I I1) : tpC I1 n B := ⟨by rw [hx 4 1 (by omega)]; exact h.1, h.2.1, fun i hi => by rw [hx 1 i (by omega)]; exact h.2.2 i hi⟩
theorem cbB_le {I : pHI} {n : Nat} {B : Nat → Nat} (h : tpC I n B) (p : Nat) : cbB B n p ≤ 256 := by
  unfold cbB
  split
  · have := (h.2.2 p (by assumption)).2; omega
  · omega
theorem bI_n {c : Nat} (h : c < 256) : bI c = nI c := by unfold bI; rw [if_neg (by omega)]
theorem bI_e : bI 256 = -1 := rfl
set_option maxHeartbeats 400000 in
set_option maxRecDepth 100000 in
theorem M_X10_byteAt {l : Launch} {X : pX} {t g : Nat} {I : pHI} {J : pHJ} {Q : pQ} {n r : Nat} {B : Nat → Nat} (hT : tpC I n B) (hr : r < 2 ^ 31) (hq : Q (some (.int (bI (cbB B n r)))) I J (pR t g)) : pM l X yX10_byteAt mX10_byteAt 0 [.ref 4, .int (nI r)] pK pK I J (pR t g) Q := by
  have hn := hT.2.1
  refine pM_of rfl (fun h => by cases h) rfl pKM (Nat.le_of_ble_eq_true rfl) ?_
  refine pE_iload_n dX10_byteAt_0 rfl rfl ?_
  refine pE_if_lt (tgt := 34) dX10_byteAt_1 (by decide) (fun h1 => ?_) (fun h1 => ?_)
  · exact absurd h1 (nI_pos (by omega))
  · refine pE_iload_n dX10_byteAt_4 rfl rfl ?_
    refine pE_aload_n dX10_byteAt_5 rfl rfl ?_
    refine pE_getI dX10_byteAt_6 flX10_9 rfl (Or.inl rfl) (by first | assumption | rfl) ?_
    rw [hT.1]
    refine pE_icmp_ge (tgt := 34) dX10_byteAt_9 (by decide) (fun h9 => ?_) (fun h9 => ?_)
    · have g9 := nq_le (by omega) (by omega) h9
      refine pE_iconst (v := -1) dX10_byteAt_34 rfl ?_
      refine pE_iret dX10_byteAt_35 rfl rfl ?_
      first
      | (rw [cbB_e (by omega)] at hq; exact hq)
      | (rw [cbB_i (by omega), bI_n (hT.2.2 r (by omega)).2, ← (hT.2.2 r (by omega)).1] at hq; exact hq)
    · have g9 := nq_nle (by omega) (by omega) h9
      refine pE_iload_n dX10_byteAt_12 rfl rfl ?_
      refine pE_aload_n dX10_byteAt_13 rfl rfl ?_
      refine pE_getR dX10_byteAt_14 flX10_34 rfl (by first | assumption | rfl) (by first | assumption | rfl) ?_
      refine pE_alenN dX10_byteAt_17 (by first | assumption | rfl) (by decide) ?_
      refine pE_icmp_ge (tgt := 34) dX10_byteAt_18 (by decide) (fun h18 => ?_) (fun h18 => ?_)
      · have g18 := nq_le (by omega) (by omega) h18
        omega
      · have g18 := nq_nle (by omega) (by omega) h18
        refine pE_aload_n dX10_byteAt_21 rfl rfl ?_
        refine pE_getR dX10_byteAt_22 flX10_34 rfl (by first | assumption | rfl) (by first | assumption | rfl) ?_
        refine pE_iload_n dX10_byteAt_25 rfl rfl ?_
        refine pE_baloadN dX10_byteAt_26 (by first | assumption | rfl) (by first | assumption | omega) (by omega) ?_
        skip
        refine pE_sipush (v := 255) dX10_byteAt_27 rfl ?_
        refine pE_iand dX10_byteAt_30 ?_
        skip
        refine pE_goto (tgt := 35) dX10_byteAt_31 (by decide) ?_
        refine pE_iret dX10_byteAt_35 rfl rfl ?_
        first
        | (rw [cbB_e (by omega)] at hq; exact hq)
        | (rw [cbB_i (by omega), bI_n (hT.2.2 r (by omega)).2, ← (hT.2.2 r (by omega)).1] at hq; exact hq)
theorem sCh0 : (∀ j, j < 11 → sgB (sCh 0 j) = true) ∧ ∀ c, c < 256 → sgB c = true → ∃ j, j < 11 ∧ sCh 0 j = c := by decide +kernel
theorem sort_pos {c : Nat} (h1 : c < 256) (h2 : ¬ (c = 32 ∨ c = 10)) (h3 : ¬ (97 ≤ c ∧ c ≤ 122)) (h4 : ¬ (48 ≤ c ∧ c ≤ 57)) : sortC c = if sgB c = true then 4 else 1 := by
  unfold sortC
  rw [if_neg (by omega), if_neg h2, if_neg h3, if_neg h4]
theorem nI_mm {c : Nat} (h : c < 256) : ¬ nI c = -1 := fun e => nI_pos (by omega : c < 2 ^ 31) (by rw [e]; decide)
set_option maxHeartbeats 400000 in
set_option maxRecDepth 100000 in
theorem M_X10_sortOfE {l : Launch} {X : pX} {t g : Nat} {I : pHI} {J : pHJ} {Q : pQ}  (hq : Q (some (.int (nI 0))) I J (pR t g)) : pM l X yX10_sortOf mX10_sortOf 4 [.int (-1)] pK pK I J (pR t g) Q := by
  refine pM_of rfl (fun h => by cases h) rfl pKM (Nat.le_of_ble_eq_true rfl) ?_
  refine pE_iload_n dX10_sortOf_0 rfl rfl ?_
  refine pE_iconst (v := -1) dX10_sortOf_1 rfl ?_
  refine pE_icmp_ne (tgt := 7) dX10_sortOf_2 (by decide) (fun h2 => ?_) (fun h2 => ?_)
  · exact absurd rfl h2
  · refine pE_iconst (v := nI 0) dX10_sortOf_5 rfl ?_
    refine pE_iret dX10_sortOf_6 rfl rfl ?_
    exact hq
set_option maxHeartbeats 400000 in
set_option maxRecDepth 100000 in
theorem M_X10_sortOfB {l : Launch} {X : pX} {t g : Nat} {I : pHI} {J : pHJ} {Q : pQ} {c : Nat} (hc : c < 256) (hq : Q (some (.int (nI (sortC c)))) I J (pR t g)) : pM l X yX10_sortOf mX10_sortOf 4 [.int (nI c)] pK pK I J (pR t g) Q := by
  refine pM_of rfl (fun h => by cases h) rfl pKM (Nat.le_of_ble_eq_true rfl) ?_
  refine pE_iload_n dX10_sortOf_0 rfl rfl ?_
  refine pE_iconst (v := -1) dX10_sortOf_1 rfl ?_
  refine pE_icmp_ne (tgt := 7) dX10_sortOf_2 (by decide) (fun h2 => ?_) (fun h2 => ?_)
  · refine pE_iload_n dX10_sortOf_7 rfl rfl ?_
    refine pE_bipush (v := nI 32) dX10_sortOf_8 rfl ?_
    refine pE_icmp_eq (tgt := 19) dX10_sortOf_10 (by decide) (fun h10 => ?_) (fun h10 => ?_)
    · have g10 := nq_eq (by omega) (by omega) h10
      refine pE_iconst (v := nI 5) dX10_sortOf_19 rfl ?_
      refine pE_iret dX10_sortOf_20 rfl rfl ?_
      rw [sort_5.mpr (by omega)] at hq
      exact hq
    · have g10 := nq_ne (by omega) (by omega) h10
      refine pE_iload_n dX10_sortOf_13 rfl rfl ?_
      refine pE_bipush (v := nI 10) dX10_sortOf_14 rfl ?_
      refine pE_icmp_ne (tgt := 21) dX10_sortOf_16 (by decide) (fun h16 => ?_) (fun h16 => ?_)
      · have g16 := nq_ne (by omega) (by omega) h16
        refine pE_iload_n dX10_sortOf_21 rfl rfl ?_
        refine pE_bipush (v := nI 97) dX10_sortOf_22 rfl ?_
        refine pE_icmp_lt (tgt := 35) dX10_sortOf_24 (by decide) (fun h24 => ?_) (fun h24 => ?_)
        · have g24 := nq_lt (by omega) (by omega) h24
          refine pE_iload_n dX10_sortOf_35 rfl rfl ?_
          refine pE_bipush (v := nI 48) dX10_sortOf_36 rfl ?_
          refine pE_icmp_lt (tgt := 49) dX10_sortOf_38 (by decide) (fun h38 => ?_) (fun h38 => ?_)
          · have g38 := nq_lt (by omega) (by omega) h38
            refine pE_ldcS (i := 0) dX10_sortOf_49 rfl ?_
            refine pE_iload_n dX10_sortOf_51 rfl rfl ?_
            refine pE_i2c dX10_sortOf_52 ?_
            rw [i2c_s hc]
            refine pE_callVS (d' := 3) (as := [_]) dX10_sortOf_53 lkX10_63 (cwJ0_indexOf_0f7a4 _ _) ivJ0_indexOf_0f7a4 rfl (by first | assumption | decide) rfl rfl (Nat.le_of_ble_eq_true rfl) (by decide) pKK ?_
            refine M_J0_indexOf_0f7a4 (i := 0) (by decide) (by decide) hc (fun j hj e => ?_) (fun hn => ?_)
            · refine pE_if_lt (tgt := 63) dX10_sortOf_56 (by decide) (fun h56 => ?_) (fun h56 => ?_)
              · refine pE_iconst (v := nI 1) dX10_sortOf_63 rfl ?_
                refine pE_iret dX10_sortOf_64 rfl rfl ?_
                rw [sort_pos hc (by omega) (by omega) (by omega)] at hq
                first
                | (have hs : sgB c = true := by rw [← e]; exact sCh0.1 j hj
                   rw [if_pos hs] at hq
                   first | exact hq | exact absurd h56 (nI_pos (by have h11 : pLen.getD 0 0 = 11 := rfl; omega)))
                | (have hs : ¬ sgB c = true := fun z => by
                     obtain ⟨j, hj, e⟩ := sCh0.2 c hc z
                     exact hn j hj e
                   rw [if_neg hs] at hq
                   first | exact hq | exact absurd (by decide : (-1 : Int32) < 0) h56)
              · refine pE_iconst (v := nI 4) dX10_sortOf_59 rfl ?_
                refine pE_goto (tgt := 64) dX10_sortOf_60 (by decide) ?_
                refine pE_iret dX10_sortOf_64 rfl rfl ?_
                rw [sort_pos hc (by omega) (by omega) (by omega)] at hq
                first
                | (have hs : sgB c = true := by rw [← e]; exact sCh0.1 j hj
                   rw [if_pos hs] at hq
                   first | exact hq | exact absurd h56 (nI_pos (by have h11 : pLen.getD 0 0 = 11 := rfl; omega)))
                | (have hs : ¬ sgB c = true := fun z => by
                     obtain ⟨j, hj, e⟩ := sCh0.2 c hc z
                     exact hn j hj e
                   rw [if_neg hs] at hq
                   first | exact hq | exact absurd (by decide : (-1 : Int32) < 0) h56)
            · refine pE_if_lt (tgt := 63) dX10_sortOf_56 (by decide) (fun h56 => ?_) (fun h56 => ?_)
              · refine pE_iconst (v := nI 1) dX10_sortOf_63 rfl ?_
                refine pE_iret dX10_sortOf_64 rfl rfl ?_
                rw [sort_pos hc (by omega) (by omega) (by omega)] at hq
                first
                | (have hs : sgB c = true := by rw [← e]; exact sCh0.1 j hj
                   rw [if_pos hs] at hq
                   first | exact hq | exact absurd h56 (nI_pos (by have h11 : pLen.getD 0 0 = 11 := rfl; omega)))
                | (have hs : ¬ sgB c = true := fun z => by
                     obtain ⟨j, hj, e⟩ := sCh0.2 c hc z
                     exact hn j hj e
                   rw [if_neg hs] at hq
                   first | exact hq | exact absurd (by decide : (-1 : Int32) < 0) h56)
              · refine pE_iconst (v := nI 4) dX10_sortOf_59 rfl ?_
                refine pE_goto (tgt := 64) dX10_sortOf_60 (by decide) ?_
                refine pE_iret dX10_sortOf_64 rfl rfl ?_
                rw [sort_pos hc (by omega) (by omega) (by omega)] at hq
                first
                | (have hs : sgB c = true := by rw [← e]; exact sCh0.1 j hj
                   rw [if_pos hs] at hq
                   first | exact hq | exact absurd h56 (nI_pos (by have h11 : pLen.getD 0 0 = 11 := rfl; omega)))
                | (have hs : ¬ sgB c = true := fun z => by
                     obtain ⟨j, hj, e⟩ := sCh0.2 c hc z
                     exact hn j hj e
                   rw [if_neg hs] at hq
                   first | exact hq | exact absurd (by decide : (-1 : Int32) < 0) h56)
          · have g38 := nq_nlt (by omega) (by omega) h38
            refine pE_iload_n dX10_sortOf_41 rfl rfl ?_
            refine pE_bipush (v := nI 57) dX10_sortOf_42 rfl ?_
            refine pE_icmp_gt (tgt := 49) dX10_sortOf_44 (by decide) (fun h44 => ?_) (fun h44 => ?_)
            · have g44 := nq_lt (by omega) (by omega) h44
              refine pE_ldcS (i := 0) dX10_sortOf_49 rfl ?_
              refine pE_iload_n dX10_sortOf_51 rfl rfl ?_
              refine pE_i2c dX10_sortOf_52 ?_
              rw [i2c_s hc]
              refine pE_callVS (d' := 3) (as := [_]) dX10_sortOf_53 lkX10_63 (cwJ0_indexOf_0f7a4 _ _) ivJ0_indexOf_0f7a4 rfl (by first | assumption | decide) rfl rfl (Nat.le_of_ble_eq_true rfl) (by decide) pKK ?_
              refine M_J0_indexOf_0f7a4 (i := 0) (by decide) (by decide) hc (fun j hj e => ?_) (fun hn => ?_)
              · refine pE_if_lt (tgt := 63) dX10_sortOf_56 (by decide) (fun h56 => ?_) (fun h56 => ?_)
                · refine pE_iconst (v := nI 1) dX10_sortOf_63 rfl ?_
                  refine pE_iret dX10_sortOf_64 rfl rfl ?_
                  rw [sort_pos hc (by omega) (by omega) (by omega)] at hq
                  first
                  | (have hs : sgB c = true := by rw [← e]; exact sCh0.1 j hj
                     rw [if_pos hs] at hq
                     first | exact hq | exact absurd h56 (nI_pos (by have h11 : pLen.getD 0 0 = 11 := rfl; omega)))
                  | (have hs : ¬ sgB c = true := fun z => by
                       obtain ⟨j, hj, e⟩ := sCh0.2 c hc z
                       exact hn j hj e
                     rw [if_neg hs] at hq
                     first | exact hq | exact absurd (by decide : (-1 : Int32) < 0) h56)
                · refine pE_iconst (v := nI 4) dX10_sortOf_59 rfl ?_
                  refine pE_goto (tgt := 64) dX10_sortOf_60 (by decide) ?_
                  refine pE_iret dX10_sortOf_64 rfl rfl ?_
                  rw [sort_pos hc (by omega) (by omega) (by omega)] at hq
                  first
                  | (have hs : sgB c = true := by rw [← e]; exact sCh0.1 j hj
                     rw [if_pos hs] at hq
                     first | exact hq | exact absurd h56 (nI_pos (by have h11 : pLen.getD 0 0 = 11 := rfl; omega)))
                  | (have hs : ¬ sgB c = true := fun z => by
                       obtain ⟨j, hj, e⟩ := sCh0.2 c hc z
                       exact hn j hj e
                     rw [if_neg hs] at hq
                     first | exact hq | exact absurd (by decide : (-1 : Int32) < 0) h56)
              · refine pE_if_lt (tgt := 63) dX10_sortOf_56 (by decide) (fun h56 => ?_) (fun h56 => ?_)
                · refine pE_iconst (v := nI 1) dX10_sortOf_63 rfl ?_
                  refine pE_iret dX10_sortOf_64 rfl rfl ?_
                  rw [sort_pos hc (by omega) (by omega) (by omega)] at hq
                  first
                  | (have hs : sgB c = true := by rw [← e]; exact sCh0.1 j hj
                     rw [if_pos hs] at hq
                     first | exact hq | exact absurd h56 (nI_pos (by have h11 : pLen.getD 0 0 = 11 := rfl; omega)))
                  | (have hs : ¬ sgB c = true := fun z => by
                       obtain ⟨j, hj, e⟩ := sCh0.2 c hc z
                       exact hn j hj e
                     rw [if_neg hs] at hq
                     first | exact hq | exact absurd (by decide : (-1 : Int32) < 0) h56)
                · refine pE_iconst (v := nI 4) dX10_sortOf_59 rfl ?_
                  refine pE_goto (tgt := 64) dX10_sortOf_60 (by decide) ?_
                  refine pE_iret dX10_sortOf_64 rfl rfl ?_
                  rw [sort_pos hc (by omega) (by omega) (by omega)] at hq
                  first
                  | (have hs : sgB c = true := by rw [← e]; exact sCh0.1 j hj
                     rw [if_pos hs] at hq
                     first | exact hq | exact absurd h56 (nI_pos (by have h11 : pLen.getD 0 0 = 11 := rfl; omega)))
                  | (have hs : ¬ sgB c = true := fun z => by
                       obtain ⟨j, hj, e⟩ := sCh0.2 c hc z
                       exact hn j hj e
                     rw [if_neg hs] at hq
                     first | exact hq | exact absurd (by decide : (-1 : Int32) < 0) h56)
            · have g44 := nq_nlt (by omega) (by omega) h44
              refine pE_iconst (v := nI 3) dX10_sortOf_47 rfl ?_
              refine pE_iret dX10_sortOf_48 rfl rfl ?_
              rw [sort_3.mpr ⟨by omega, by omega⟩] at hq
              exact hq
        · have g24 := nq_nlt (by omega) (by omega) h24
          refine pE_iload_n dX10_sortOf_27 rfl rfl ?_
          refine pE_bipush (v := nI 122) dX10_sortOf_28 rfl ?_
          refine pE_icmp_gt (tgt := 35) dX10_sortOf_30 (by decide) (fun h30 => ?_) (fun h30 => ?_)
          · have g30 := nq_lt (by omega) (by omega) h30
            refine pE_iload_n dX10_sortOf_35 rfl rfl ?_
            refine pE_bipush (v := nI 48) dX10_sortOf_36 rfl ?_
            refine pE_icmp_lt (tgt := 49) dX10_sortOf_38 (by decide) (fun h38 => ?_) (fun h38 => ?_)
            · have g38 := nq_lt (by omega) (by omega) h38
              refine pE_ldcS (i := 0) dX10_sortOf_49 rfl ?_
              refine pE_iload_n dX10_sortOf_51 rfl rfl ?_
              refine pE_i2c dX10_sortOf_52 ?_
              rw [i2c_s hc]
              refine pE_callVS (d' := 3) (as := [_]) dX10_sortOf_53 lkX10_63 (cwJ0_indexOf_0f7a4 _ _) ivJ0_indexOf_0f7a4 rfl (by first | assumption | decide) rfl rfl (Nat.le_of_ble_eq_true rfl) (by decide) pKK ?_
              refine M_J0_indexOf_0f7a4 (i := 0) (by decide) (by decide) hc (fun j hj e => ?_) (fun hn => ?_)
              · refine pE_if_lt (tgt := 63) dX10_sortOf_56 (by decide) (fun h56 => ?_) (fun h56 => ?_)
                · refine pE_iconst (v := nI 1) dX10_sortOf_63 rfl ?_
                  refine pE_iret dX10_sortOf_64 rfl rfl ?_
                  rw [sort_pos hc (by omega) (by omega) (by omega)] at hq
                  first
                  | (have hs : sgB c = true := by rw [← e]; exact sCh0.1 j hj
                     rw [if_pos hs] at hq
                     first | exact hq | exact absurd h56 (nI_pos (by have h11 : pLen.getD 0 0 = 11 := rfl; omega)))
                  | (have hs : ¬ sgB c = true := fun z => by
                       obtain ⟨j, hj, e⟩ := sCh0.2 c hc z
                       exact hn j hj e
                     rw [if_neg hs] at hq
                     first | exact hq | exact absurd (by decide : (-1 : Int32) < 0) h56)
                · refine pE_iconst (v := nI 4) dX10_sortOf_59 rfl ?_
                  refine pE_goto (tgt := 64) dX10_sortOf_60 (by decide) ?_
                  refine pE_iret dX10_sortOf_64 rfl rfl ?_
                  rw [sort_pos hc (by omega) (by omega) (by omega)] at hq
                  first
                  | (have hs : sgB c = true := by rw [← e]; exact sCh0.1 j hj
                     rw [if_pos hs] at hq
                     first | exact hq | exact absurd h56 (nI_pos (by have h11 : pLen.getD 0 0 = 11 := rfl; omega)))
                  | (have hs : ¬ sgB c = true := fun z => by
                       obtain ⟨j, hj, e⟩ := sCh0.2 c hc z
                       exact hn j hj e
                     rw [if_neg hs] at hq
                     first | exact hq | exact absurd (by decide : (-1 : Int32) < 0) h56)
              · refine pE_if_lt (tgt := 63) dX10_sortOf_56 (by decide) (fun h56 => ?_) (fun h56 => ?_)
                · refine pE_iconst (v := nI 1) dX10_sortOf_63 rfl ?_
                  refine pE_iret dX10_sortOf_64 rfl rfl ?_
                  rw [sort_pos hc (by omega) (by omega) (by omega)] at hq
                  first
                  | (have hs : sgB c = true := by rw [← e]; exact sCh0.1 j hj
                     rw [if_pos hs] at hq
                     first | exact hq | exact absurd h56 (nI_pos (by have h11 : pLen.getD 0 0 = 11 := rfl; omega)))
                  | (have hs : ¬ sgB c = true := fun z => by
                       obtain ⟨j, hj, e⟩ := sCh0.2 c hc z
                       exact hn j hj e
                     rw [if_neg hs] at hq
                     first | exact hq | exact absurd (by decide : (-1 : Int32) < 0) h56)
                · refine pE_iconst (v := nI 4) dX10_sortOf_59 rfl ?_
                  refine pE_goto (tgt := 64) dX10_sortOf_60 (by decide) ?_
                  refine pE_iret dX10_sortOf_64 rfl rfl ?_
                  rw [sort_pos hc (by omega) (by omega) (by omega)] at hq
                  first
                  | (have hs : sgB c = true := by rw [← e]; exact sCh0.1 j hj
                     rw [if_pos hs] at hq
                     first | exact hq | exact absurd h56 (nI_pos (by have h11 : pLen.getD 0 0 = 11 := rfl; omega)))
                  | (have hs : ¬ sgB c = true := fun z => by
                       obtain ⟨j, hj, e⟩ := sCh0.2 c hc z
                       exact hn j hj e
                     rw [if_neg hs] at hq
                     first | exact hq | exact absurd (by decide : (-1 : Int32) < 0) h56)
            · have g38 := nq_nlt (by omega) (by omega) h38
              refine pE_iload_n dX10_sortOf_41 rfl rfl ?_
              refine pE_bipush (v := nI 57) dX10_sortOf_42 rfl ?_
              refine pE_icmp_gt (tgt := 49) dX10_sortOf_44 (by decide) (fun h44 => ?_) (fun h44 => ?_)
              · have g44 := nq_lt (by omega) (by omega) h44
                refine pE_ldcS (i := 0) dX10_sortOf_49 rfl ?_
                refine pE_iload_n dX10_sortOf_51 rfl rfl ?_
                refine pE_i2c dX10_sortOf_52 ?_
                rw [i2c_s hc]
                refine pE_callVS (d' := 3) (as := [_]) dX10_sortOf_53 lkX10_63 (cwJ0_indexOf_0f7a4 _ _) ivJ0_indexOf_0f7a4 rfl (by first | assumption | decide) rfl rfl (Nat.le_of_ble_eq_true rfl) (by decide) pKK ?_
                refine M_J0_indexOf_0f7a4 (i := 0) (by decide) (by decide) hc (fun j hj e => ?_) (fun hn => ?_)
                · refine pE_if_lt (tgt := 63) dX10_sortOf_56 (by decide) (fun h56 => ?_) (fun h56 => ?_)
                  · refine pE_iconst (v := nI 1) dX10_sortOf_63 rfl ?_
                    refine pE_iret dX10_sortOf_64 rfl rfl ?_
                    rw [sort_pos hc (by omega) (by omega) (by omega)] at hq
                    first
                    | (have hs : sgB c = true := by rw [← e]; exact sCh0.1 j hj
                       rw [if_pos hs] at hq
                       first | exact hq | exact absurd h56 (nI_pos (by have h11 : pLen.getD 0 0 = 11 := rfl; omega)))
                    | (have hs : ¬ sgB c = true := fun z => by
                         obtain ⟨j, hj, e⟩ := sCh0.2 c hc z
                         exact hn j hj e
                       rw [if_neg hs] at hq
                       first | exact hq | exact absurd (by decide : (-1 : Int32) < 0) h56)
                  · refine pE_iconst (v := nI 4) dX10_sortOf_59 rfl ?_
                    refine pE_goto (tgt := 64) dX10_sortOf_60 (by decide) ?_
                    refine pE_iret dX10_sortOf_64 rfl rfl ?_
                    rw [sort_pos hc (by omega) (by omega) (by omega)] at hq
                    first
                    | (have hs : sgB c = true := by rw [← e]; exact sCh0.1 j hj
                       rw [if_pos hs] at hq
                       first | exact hq | exact absurd h56 (nI_pos (by have h11 : pLen.getD 0 0 = 11 := rfl; omega)))
                    | (have hs : ¬ sgB c = true := fun z => by
                         obtain ⟨j, hj, e⟩ := sCh0.2 c hc z
                         exact hn j hj e
                       rw [if_neg hs] at hq
                       first | exact hq | exact absurd (by decide : (-1 : Int32) < 0) h56)
                · refine pE_if_lt (tgt := 63) dX10_sortOf_56 (by decide) (fun h56 => ?_) (fun h56 => ?_)
                  · refine pE_iconst (v := nI 1) dX10_sortOf_63 rfl ?_
                    refine pE_iret dX10_sortOf_64 rfl rfl ?_
                    rw [sort_pos hc (by omega) (by omega) (by omega)] at hq
                    first
                    | (have hs : sgB c = true := by rw [← e]; exact sCh0.1 j hj
                       rw [if_pos hs] at hq
                       first | exact hq | exact absurd h56 (nI_pos (by have h11 : pLen.getD 0 0 = 11 := rfl; omega)))
                    | (have hs : ¬ sgB c = true := fun z => by
                         obtain ⟨j, hj, e⟩ := sCh0.2 c hc z
                         exact hn j hj e
                       rw [if_neg hs] at hq
                       first | exact hq | exact absurd (by decide : (-1 : Int32) < 0) h56)
                  · refine pE_iconst (v := nI 4) dX10_sortOf_59 rfl ?_
                    refine pE_goto (tgt := 64) dX10_sortOf_60 (by decide) ?_
                    refine pE_iret dX10_sortOf_64 rfl rfl ?_
                    rw [sort_pos hc (by omega) (by omega) (by omega)] at hq
                    first
                    | (have hs : sgB c = true := by rw [← e]; exact sCh0.1 j hj
                       rw [if_pos hs] at hq
                       first | exact hq | exact absurd h56 (nI_pos (by have h11 : pLen.getD 0 0 = 11 := rfl; omega)))
                    | (have hs : ¬ sgB c = true := fun z => by
                         obtain ⟨j, hj, e⟩ := sCh0.2 c hc z
                         exact hn j hj e
                       rw [if_neg hs] at hq
                       first | exact hq | exact absurd (by decide : (-1 : Int32) < 0) h56)
              · have g44 := nq_nlt (by omega) (by omega) h44
                refine pE_iconst (v := nI 3) dX10_sortOf_47 rfl ?_
                refine pE_iret dX10_sortOf_48 rfl rfl ?_
                rw [sort_3.mpr ⟨by omega, by omega⟩] at hq
                exact hq
          · have g30 := nq_nlt (by omega) (by omega) h30
            refine pE_iconst (v := nI 2) dX10_sortOf_33 rfl ?_
            refine pE_iret dX10_sortOf_34 rfl rfl ?_
            rw [sort_2.mpr ⟨by omega, by omega⟩] at hq
            exact hq
      · have g16 := nq_eq (by omega) (by omega) h16
        refine pE_iconst (v := nI 5) dX10_sortOf_19 rfl ?_
        refine pE_iret dX10_sortOf_20 rfl rfl ?_
        rw [sort_5.mpr (by omega)] at hq
        exact hq
  · exact absurd h2 (nI_mm hc)
set_option maxHeartbeats 400000 in
set_option maxRecDepth 100000 in
theorem M_X10_sortOf {l : Launch} {X : pX} {t g : Nat} {I : pHI} {J : pHJ} {Q : pQ} {c : Nat} (hc : c ≤ 256) (hq : Q (some (.int (nI (sortC c)))) I J (pR t g)) : pM l X yX10_sortOf mX10_sortOf 4 [.int (bI c)] pK pK I J (pR t g) Q := by
  by_cases e : c = 256
  · subst e
    exact M_X10_sortOfE hq
  · rw [bI_n (by omega)]
    exact M_X10_sortOfB (by omega) hq
set_option maxHeartbeats 400000 in
set_option maxRecDepth 100000 in
theorem M_X10_withLetter {l : Launch} {X : pX} {t g : Nat} {I : pHI} {J : pHJ} {Q : pQ} {a : Int64} {c : Nat} (hq : Q (some (.long (a * 32 + (nI c - nI 97 + nI 1).toInt64))) I J (pR t g)) : pM l X yX10_withLetter mX10_withLetter 0 [.long a, .int (nI c)] pK pK I J (pR t g) Q := by
  refine pM_of rfl (fun h => by cases h) rfl pKM (Nat.le_of_ble_eq_true rfl) ?_
  refine pE_lload_n dX10_withLetter_0 rfl rfl ?_
  refine pE_ldc2 dX10_withLetter_1 kcX10_81 ?_
  refine pE_lmul dX10_withLetter_4 ?_
  refine pE_iload_n dX10_withLetter_5 rfl rfl ?_
  refine pE_bipush (v := nI 97) dX10_withLetter_6 rfl ?_
  refine pE_isub dX10_withLetter_8 ?_
  refine pE_iconst (v := nI 1) dX10_withLetter_9 rfl ?_
  refine pE_iadd dX10_withLetter_10 ?_
  refine pE_i2l dX10_withLetter_11 ?_
  refine pE_ladd dX10_withLetter_12 ?_
  refine pE_lret dX10_withLetter_13 rfl rfl ?_
  exact hq
