theorem bw_0 {n sum b : Nat} (h : b ≤ sum) (f : List Nat → Nat) (hf : f [] = 0) : isM (bwL n sum 0 b) f (if b = sum then some 0 else none) := by
  split
  · rename_i e
    subst e
    refine ⟨⟨[], ⟨rfl, okL_nil n, by simp [smL]⟩, hf⟩, fun L hL => ?_⟩
    rw [List.length_eq_zero_iff.mp hL.1, hf]
    exact Nat.le_refl _
  · rename_i e
    intro L hL
    have h1 := List.length_eq_zero_iff.mp hL.1
    have h2 := hL.2.2
    subst h1
    simp only [smL] at h2
    omega
theorem bw_end {n sum m : Nat} (f : List Nat → Nat) : isM (bwL n sum (m + 1) sum) f none := fun L hL => by
  have h1 := smL_len hL.2.1
  have h2 := hL.1
  have h3 := hL.2.2
  omega
theorem row_few {n c q : Nat} (h : q < c) (f : List Nat → Nat) : isM (rowL n c q) f none := fun L hL => by
  have h1 := smL_len hL.2.1
  have h2 := hL.1
  have h3 := hL.2.2
  omega
set_option maxHeartbeats 400000 in
set_option maxRecDepth 100000 in
theorem LI_X7_countBackwards {l : Launch} {X : pX} {t g : Nat} {I : pHI} {J : pHJ} {Q : pQ} {m : Nat} {cl sum br lg : Nat} {T : pN} {p : pP} (hc : ctI I p T br lg) (hbr : br ≤ 40) (hlg : lg ≤ 20) (hs : sum ≤ br) (hcl : cl ≤ 4) (hs1 : 1 ≤ sum) (hm : m + 1 < cl) (h0 : ∀ a b, a < m + 1 → 1 ≤ b → b ≤ sum → mxI I (a * 41 + b) (bwL lg sum a b) (vlL (gC p T) b)) (hng : ∀ k, (m + 1) * 41 ≤ k → k < 205 → I 61 k = -1) (hq : ∀ I2, (∀ c k, c ≠ 61 → I2 c k = I c k) → (∀ a b, a < m + 2 → 1 ≤ b → b ≤ sum → mxI I2 (a * 41 + b) (bwL lg sum a b) (vlL (gC p T) b)) → (∀ k, (m + 2) * 41 ≤ k → k < 205 → I2 61 k = -1) → pE l X mX7_countBackwards 2 pK 75 [some (.ref 59), some (.int (nI cl)), some (.int (nI sum)), some (.int (nI (m + 1))), some (.int (nI sum))] [] pK I2 J (pR t g) Q) : ∀ (fu : Nat) (j : Nat) (I1 : pHI), sum - j < fu → (1 ≤ j) → (j ≤ sum) → ((∀ c k, c ≠ 61 → I1 c k = I c k)) → (∀ k, ¬ ((m + 1) * 41 + 1 ≤ k ∧ k < (m + 1) * 41 + j) → I1 61 k = I 61 k) → (∀ b, 1 ≤ b → b < j → mxI I1 ((m + 1) * 41 + b) (bwL lg sum (m + 1) b) (vlL (gC p T) b)) → pE l X mX7_countBackwards 2 pK 41 [some (.ref 59), some (.int (nI cl)), some (.int (nI sum)), some (.int (nI (m + 1))), some (.int (nI j))] [] pK I1 J (pR t g) Q := by
  intro fu
  induction fu with
  | zero => intro j I1 hn; exact absurd hn (Nat.not_lt_zero _)
  | succ fu ih =>
    intro j I1 hn hj1 hj hf hk hv
    have hc1 := hc.o61 hf
    refine pE_iload dX7_countBackwards_41 rfl ?_
    refine pE_iload_n dX7_countBackwards_43 rfl rfl ?_
    refine pE_icmp_ge (tgt := 75) dX7_countBackwards_44 (by decide) (fun h44 => ?_) (fun h44 => ?_)
    · have g44 := nq_le (by omega) (by omega) h44
      obtain rfl : j = sum := by omega
      refine hq _ hf (fun a b a1 a2 a3 => ?_) (fun k k1 k2 => by rw [hk _ (by omega)]; exact hng k (by omega) k2)
      rcases Nat.lt_or_ge a (m + 1) with c | c
      · obtain ⟨o, o1, o2, o3⟩ := h0 a b c a2 a3
        exact ⟨o, by rw [hk _ (by omega)]; exact o1, o2, o3⟩
      · obtain rfl : a = m + 1 := by omega
        by_cases e : b = j
        · subst e
          exact ⟨none, by rw [hk _ (by omega)]; exact hng _ (by omega) (by omega), bw_end _, fun x h => by simp at h⟩
        · exact hv b a2 (by omega)
    · have g44 := nq_nle (by omega) (by omega) h44
      refine pE_aload_n dX7_countBackwards_47 rfl rfl ?_
      refine pE_getR dX7_countBackwards_48 flX7_22 rfl (by first | assumption | rfl) (by first | assumption | rfl) ?_
      refine pE_iload_n dX7_countBackwards_51 rfl rfl ?_
      refine pE_bipush (v := nI 41) dX7_countBackwards_52 rfl ?_
      refine pE_imulN dX7_countBackwards_54 ?_
      refine pE_iload dX7_countBackwards_55 rfl ?_
      refine pE_iaddN dX7_countBackwards_57 ?_
      refine pE_aload_n dX7_countBackwards_58 rfl rfl ?_
      refine pE_iload_n dX7_countBackwards_59 rfl rfl ?_
      refine pE_iconst (v := nI 1) dX7_countBackwards_60 rfl ?_
      refine pE_isubN dX7_countBackwards_61 (by omega) ?_
      refine pE_iload dX7_countBackwards_62 rfl ?_
      refine pE_iload_n dX7_countBackwards_64 rfl rfl ?_
      refine pE_callV (d' := 1) (as := [_, _, _]) dX7_countBackwards_65 lkX7_86 (cwX7_mostOfNext _ _) ivX7_mostOfNext ⟨_, rfl, rfl⟩ (by first | assumption | rfl) rfl rfl (Nat.le_of_ble_eq_true rfl) (by decide) pKK ?_
      refine M_X7_mostOfNext hc1 hbr hlg (fun q a1 a2 => by
        obtain ⟨o, o1, o2, o3⟩ := h0 m q (by omega) a1 a2
        exact ⟨o, by rw [hk _ (by omega)]; exact o1, o2, o3⟩) hs (by omega) (by omega) (fun o om ob => ?_)
      refine pE_iastoreN dX7_countBackwards_68 (by first | assumption | rfl) (by first | assumption | omega) (by omega) ?_
      refine pE_iincN (c0 := 1) (lc' := [_, _, _, _, some (.int _)]) dX7_countBackwards_69 rfl rfl rfl rfl ?_
      refine pE_goto (tgt := 41) dX7_countBackwards_72 (by decide) ?_
      refine ih (j + 1) _ (by omega) (by omega) (by omega) (fun c k h => by rw [pu_ne _ _ _ h]; exact hf c k h) (fun k h => by rw [pu_at, if_neg (by omega)]; exact hk k (by omega)) (fun b b1 b2 => ?_)
      by_cases e : b = j
      · subst e
        exact ⟨o, by rw [pu_at, if_pos ⟨rfl, rfl⟩], om, ob⟩
      · obtain ⟨o2, q1, q2, q3⟩ := hv b b1 (by omega)
        exact ⟨o2, by rw [pu_at, if_neg (by omega)]; exact q1, q2, q3⟩
set_option maxHeartbeats 400000 in
set_option maxRecDepth 100000 in
theorem LO_X7_countBackwards {l : Launch} {X : pX} {t g : Nat} {I : pHI} {J : pHJ} {Q : pQ} {cl sum br lg : Nat} {T : pN} {p : pP} (hc : ctI I p T br lg) (hbr : br ≤ 40) (hlg : lg ≤ 20) (hs : sum ≤ br) (hcl : cl ≤ 4) (hs1 : 1 ≤ sum) (hq : ∀ I2, (∀ c k, c ≠ 61 → I2 c k = I c k) → (∀ m b, m < cl → 1 ≤ b → b ≤ sum → mxI I2 (m * 41 + b) (bwL lg sum m b) (vlL (gC p T) b)) → Q none I2 J (pR t g)) : ∀ (fu : Nat) (j : Nat) (v4 : Option Value) (I1 : pHI), cl - j < fu → (1 ≤ j) → (j ≤ max 1 cl) → ((∀ c k, c ≠ 61 → I1 c k = I c k)) → (∀ a b, a < j → 1 ≤ b → b ≤ sum → mxI I1 (a * 41 + b) (bwL lg sum a b) (vlL (gC p T) b)) → (∀ k, j * 41 ≤ k → k < 205 → I1 61 k = -1) → pE l X mX7_countBackwards 2 pK 33 [some (.ref 59), some (.int (nI cl)), some (.int (nI sum)), some (.int (nI j)), v4] [] pK I1 J (pR t g) Q := by
  intro fu
  induction fu with
  | zero => intro j v4 I1 hn; exact absurd hn (Nat.not_lt_zero _)
  | succ fu ih =>
    intro j v4 I1 hn hj1 hj hf hv hng
    refine pE_iload_n dX7_countBackwards_33 rfl rfl ?_
    refine pE_iload_n dX7_countBackwards_34 rfl rfl ?_
    refine pE_icmp_ge (tgt := 81) dX7_countBackwards_35 (by decide) (fun h35 => ?_) (fun h35 => ?_)
    · have g35 := nq_le (by omega) (by omega) h35
      refine pE_vret dX7_countBackwards_81 rfl rfl ?_
      exact hq _ hf (fun m b h1 h2 h3 => hv m b (by omega) h2 h3)
    · have g35 := nq_nle (by omega) (by omega) h35
      refine pE_iconst (v := nI 1) dX7_countBackwards_38 rfl ?_
      refine pE_istore (lc' := [_, _, _, _, some (.int _)]) dX7_countBackwards_39 (Nat.le_of_ble_eq_true rfl) rfl rfl ?_
      obtain ⟨m, rfl⟩ : ∃ m, j = m + 1 := ⟨j - 1, by omega⟩
      refine LI_X7_countBackwards (I := I1) (hc.o61 hf) hbr hlg hs hcl hs1 (by omega) hv hng (fun I2 f2 h2 n2 => ?_) (sum + 1) 1 I1 (by omega) (by omega) (by omega) (fun _ _ _ => rfl) (fun _ _ => rfl) (fun b b1 b2 => by omega)
      refine pE_iincN (c0 := 1) (lc' := [_, _, _, some (.int _), _]) dX7_countBackwards_75 rfl rfl rfl rfl ?_
      refine pE_goto (tgt := 33) dX7_countBackwards_78 (by decide) ?_
      exact ih (m + 2) _ I2 (by omega) (by omega) (by omega) (fun c k h => (f2 c k h).trans (hf c k h)) h2 n2
set_option maxHeartbeats 400000 in
set_option maxRecDepth 100000 in
theorem LF_X7_countBackwards {l : Launch} {X : pX} {t g : Nat} {I : pHI} {J : pHJ} {Q : pQ} {cl sum br lg : Nat} {T : pN} {p : pP} {v4 : Option Value} (hc : ctI I p T br lg) (hbr : br ≤ 40) (hlg : lg ≤ 20) (hs : sum ≤ br) (hcl : cl ≤ 4) (hs1 : 1 ≤ sum) (hq : ∀ I2, (∀ c k, c ≠ 61 → I2 c k = I c k) → (∀ m b, m < cl → 1 ≤ b → b ≤ sum → mxI I2 (m * 41 + b) (bwL lg sum m b) (vlL (gC p T) b)) → Q none I2 J (pR t g)) : ∀ (fu : Nat) (j : Nat) (I1 : pHI), 205 - j < fu → (j ≤ 205) → ((∀ c k, c ≠ 61 → I1 c k = I c k)) → (∀ k, k < j → I1 61 k = -1) → pE l X mX7_countBackwards 2 pK 2 [some (.ref 59), some (.int (nI cl)), some (.int (nI sum)), some (.int (nI j)), v4] [] pK I1 J (pR t g) Q := by
  intro fu
  induction fu with
  | zero => intro j I1 hn; exact absurd hn (Nat.not_lt_zero _)
  | succ fu ih =>
    intro j I1 hn hj hf hv
    refine pE_iload_n dX7_countBackwards_2 rfl rfl ?_
    refine pE_aload_n dX7_countBackwards_3 rfl rfl ?_
    refine pE_getR dX7_countBackwards_4 flX7_22 rfl (by first | assumption | rfl) (by first | assumption | rfl) ?_
    refine pE_alenN dX7_countBackwards_7 (by first | assumption | rfl) (by decide) ?_
    refine pE_icmp_ge (tgt := 24) dX7_countBackwards_8 (by decide) (fun h8 => ?_) (fun h8 => ?_)
    · have g8 := nq_le (by omega) (by omega) h8
      refine pE_aload_n dX7_countBackwards_24 rfl rfl ?_
      refine pE_getR dX7_countBackwards_25 flX7_22 rfl (by first | assumption | rfl) (by first | assumption | rfl) ?_
      refine pE_iload_n dX7_countBackwards_28 rfl rfl ?_
      refine pE_iconst (v := nI 0) dX7_countBackwards_29 rfl ?_
      refine pE_iastoreN dX7_countBackwards_30 (by first | assumption | rfl) (by first | assumption | omega) (by omega) ?_
      refine pE_iconst (v := nI 1) dX7_countBackwards_31 rfl ?_
      refine pE_istore_n (lc' := [_, _, _, some (.int _), _]) dX7_countBackwards_32 rfl (Nat.le_of_ble_eq_true rfl) rfl rfl ?_
      refine LO_X7_countBackwards (I := I) hc hbr hlg hs hcl hs1 hq 5 1 _ _ (by omega) (by omega) (by omega) (fun c k h => by rw [pu_ne _ _ _ h]; exact hf c k h) (fun a b a1 a2 a3 => ?_) (fun k k1 k2 => by rw [pu_at, if_neg (by omega)]; exact hv k (by omega))
      obtain rfl : a = 0 := by omega
      refine ⟨if b = sum then some 0 else none, ?_, bw_0 a3 _ rfl, fun x h => ?_⟩
      · rw [pu_at]
        by_cases e : b = sum
        · subst e; rw [if_pos ⟨rfl, by omega⟩, if_pos rfl]; rfl
        · rw [if_neg (fun h => e (by omega)), if_neg e, hv _ (by omega)]; rfl
      · split at h
        · cases h; omega
        · simp at h
    · have g8 := nq_nle (by omega) (by omega) h8
      refine pE_aload_n dX7_countBackwards_11 rfl rfl ?_
      refine pE_getR dX7_countBackwards_12 flX7_22 rfl (by first | assumption | rfl) (by first | assumption | rfl) ?_
      refine pE_iload_n dX7_countBackwards_15 rfl rfl ?_
      refine pE_iconst (v := -1) dX7_countBackwards_16 rfl ?_
      refine pE_iastoreN dX7_countBackwards_17 (by first | assumption | rfl) (by first | assumption | omega) (by omega) ?_
      refine pE_iincN (c0 := 1) (lc' := [_, _, _, some (.int _), _]) dX7_countBackwards_18 rfl rfl rfl rfl ?_
      refine pE_goto (tgt := 2) dX7_countBackwards_21 (by decide) ?_
      refine ih (j + 1) _ (by omega) (by omega) (fun c k h => by rw [pu_ne _ _ _ h]; exact hf c k h) (fun k hk => ?_)
      rw [pu_at]
      by_cases c : k = j
      · subst c; rw [if_pos ⟨rfl, rfl⟩]
      · rw [if_neg (fun q => c q.2)]; exact hv k (by omega)
set_option maxHeartbeats 400000 in
set_option maxRecDepth 100000 in
theorem M_X7_countBackwards {l : Launch} {X : pX} {t g : Nat} {I : pHI} {J : pHJ} {Q : pQ} {cl sum br lg : Nat} {T : pN} {p : pP} (hc : ctI I p T br lg) (hbr : br ≤ 40) (hlg : lg ≤ 20) (hs : sum ≤ br) (hcl : cl ≤ 4) (hs1 : 1 ≤ sum) (hq : ∀ I2, (∀ c k, c ≠ 61 → I2 c k = I c k) → (∀ m b, m < cl → 1 ≤ b → b ≤ sum → mxI I2 (m * 41 + b) (bwL lg sum m b) (vlL (gC p T) b)) → Q none I2 J (pR t g)) : pM l X yX7_countBackwards mX7_countBackwards 2 [.ref 59, .int (nI cl), .int (nI sum)] pK pK I J (pR t g) Q := by
  refine pM_of rfl (fun h => by cases h) rfl pKM (Nat.le_of_ble_eq_true rfl) ?_
  refine pE_iconst (v := nI 0) dX7_countBackwards_0 rfl ?_
  refine pE_istore_n (lc' := [_, _, _, some (.int _), _]) dX7_countBackwards_1 rfl (Nat.le_of_ble_eq_true rfl) rfl rfl ?_
  exact LF_X7_countBackwards hc hbr hlg hs hcl hs1 hq 206 0 I (by omega) (by omega) (fun _ _ _ => rfl) (fun k hk => by omega)
set_option maxHeartbeats 400000 in
set_option maxRecDepth 100000 in
theorem L_X7_layFirstRow {l : Launch} {X : pX} {t g : Nat} {I : pHI} {J : pHJ} {lk : Nat} {cl sum br lg : Nat} {T : pN} {p : pP} (hc : ctI I p T br lg) (hbr : br ≤ 40) (hlg : lg ≤ 20) (hs : sum ≤ br) (hcl : cl ≤ 4) (hs1 : 1 ≤ sum) (hlk : lk ≤ 200000000) (hB : (∀ m b, m < cl → 1 ≤ b → b ≤ sum → mxI I (m * 41 + b) (bwL lg sum m b) (vlL (gC p T) b))) : ∀ (m b ac : Nat) (I1 : pHI) (P : List Nat) (v8 : Option Value) (Q : pQ), m ≤ cl → P.length + m = cl → okL lg P → smL P = b → vlL (gC p T) 0 P = ac → (∃ L, bwL lg sum m b L ∧ lk ≤ ac + vlL (gC p T) b L) → (∀ c k, c ≠ 45 → c ≠ 46 → I1 c k = I c k) → cL 45 1 46 I1 P.length (fun i => nI (P.getD i 0)) → (∀ I2 G, (∀ c k, c ≠ 45 → c ≠ 46 → I2 c k = I c k) → isG (gC p T) lg sum lk m b ac G → cL 45 1 46 I2 cl (fun i => nI ((P ++ G).getD i 0)) → Q none I2 J (pR t g)) → pE l X mX7_layFirstRow 3 pK 17 [some (.ref 59), some (.int (nI cl)), some (.int (nI sum)), some (.int (nI lk)), some (.ref 45), some (.int (nI b)), some (.int (nI lk - nI ac)), some (.int (nI m + -1)), v8] [] pK I1 J (pR t g) Q := by
  intro m
  induction m with
  | zero =>
    intro b ac I1 P v8 Q hm hP ho hb hv hex hf hL hq
    refine pE_iload dX7_layFirstRow_17 rfl ?_
    refine pE_if_lt (tgt := 80) dX7_layFirstRow_19 (by decide) (fun h19 => ?_) (fun h19 => ?_)
    · refine pE_vret dX7_layFirstRow_80 rfl rfl ?_
      obtain ⟨L, l1, l2⟩ := hex
      have l3 := List.length_eq_zero_iff.mp l1.1
      subst l3
      refine hq _ [] hf ⟨⟨l1, l2⟩, fun L _ _ => trivial⟩ ?_
      rw [List.append_nil, show cl = P.length by omega]
      exact hL
    · exact absurd (by decide : nI 0 + -1 < 0) h19
  | succ m ih =>
    intro b ac I1 P v8 Q hm hP ho hb hv hex hf hL hq
    rw [nI_dec]
    have hc1 : ctI I1 p T br lg := ⟨by rw [hf _ _ (by decide) (by decide)]; exact hc.1, by rw [hf _ _ (by decide) (by decide)]; exact hc.2.1, fun s q h1 h2 h3 => by rw [hf _ _ (by decide) (by decide)]; exact hc.2.2 s q h1 h2 h3⟩
    have hB1 : ∀ q, 1 ≤ q → q ≤ sum → mxI I1 (m * 41 + q) (bwL lg sum m q) (vlL (gC p T) q) := fun q h1 h2 => by
      obtain ⟨o, o1, o2, o3⟩ := hB m q (by omega) h1 h2
      exact ⟨o, by rw [hf _ _ (by decide) (by decide)]; exact o1, o2, o3⟩
    obtain ⟨L, l1, l2⟩ := hex
    obtain ⟨l3, l4, l5⟩ := l1
    have hb40 : b ≤ 40 := by omega
    have hac : ac ≤ 39960 := by
      have := vl_le2 (g := gC p T) (n := lg) (fun s b => gC_le p T s b) P 0 ho
      rw [hb] at this
      omega
    refine pE_iload dX7_layFirstRow_17 rfl ?_
    refine pE_if_lt (tgt := 80) dX7_layFirstRow_19 (by decide) (fun h19 => ?_) (fun h19 => ?_)
    · exact absurd h19 (nI_pos (by omega))
    · refine pE_aload_n dX7_layFirstRow_22 rfl rfl ?_
      refine pE_iload dX7_layFirstRow_23 rfl ?_
      refine pE_iload dX7_layFirstRow_25 rfl ?_
      refine pE_iload_n dX7_layFirstRow_27 rfl rfl ?_
      refine pE_iload dX7_layFirstRow_28 rfl ?_
      refine pE_callV (d' := 0) (as := [_, _, _, _]) dX7_layFirstRow_30 lkX7_76 (cwX7_firstClimb _ _) ivX7_firstClimb ⟨_, rfl, rfl⟩ (by first | assumption | rfl) rfl rfl (Nat.le_of_ble_eq_true rfl) (by decide) pKK ?_
      refine M_X7_firstClimb hc1 hbr hlg hB1 hs (by omega) hlk (by omega) hb40 (fun s a1 a2 hex2 hmin => ?_) (fun hno => ?_)
      · refine pE_istore (lc' := [_, _, _, _, _, _, _, _, some (.int _)]) dX7_layFirstRow_33 (Nat.le_of_ble_eq_true rfl) rfl rfl ?_
        refine pE_iload dX7_layFirstRow_35 rfl ?_
        refine pE_iconst (v := -1) dX7_layFirstRow_37 rfl ?_
        refine pE_icmp_ne (tgt := 42) dX7_layFirstRow_38 (by decide) (fun h38 => ?_) (fun h38 => ?_)
        · obtain ⟨L0, z1, z2⟩ := hex2
          have hg9 := gC_le p T s b
          have hsb := z1.2.2
          refine pE_aload dX7_layFirstRow_42 rfl ?_
          refine pE_iload dX7_layFirstRow_44 rfl ?_
          refine pE_callV (d' := 0) (as := [_]) dX7_layFirstRow_46 lkX7_80 (cwX5_lay _ _) ivX5_lay ⟨_, rfl, rfl⟩ (by first | assumption | rfl) rfl rfl (Nat.le_of_ble_eq_true rfl) (by decide) pKK ?_
          refine M_X5_lay hL (by omega) (fun I2 f2 h2 => ?_)
          refine pE_iload dX7_layFirstRow_49 rfl ?_
          refine pE_aload_n dX7_layFirstRow_51 rfl rfl ?_
          refine pE_getR dX7_layFirstRow_52 flX7_18 rfl (by first | assumption | rfl) (by first | assumption | rfl) ?_
          refine pE_iload dX7_layFirstRow_55 rfl ?_
          refine pE_bipush (v := nI 41) dX7_layFirstRow_57 rfl ?_
          refine pE_imulN dX7_layFirstRow_59 ?_
          refine pE_iload dX7_layFirstRow_60 rfl ?_
          refine pE_iaddN dX7_layFirstRow_62 ?_
          refine pE_ialoadN dX7_layFirstRow_63 (by first | assumption | rfl) (by first | assumption | omega) (by omega) ?_
          rw [show I2 60 (s * 41 + b) = nI (gC p T s b) from (f2 60 _ (by decide) (by decide)).trans (hc1.2.2 s b a1 a2 (by omega))]
          refine pE_isub dX7_layFirstRow_64 ?_
          refine pE_istore (lc' := [_, _, _, _, _, _, some (.int _), _, _]) dX7_layFirstRow_65 (Nat.le_of_ble_eq_true rfl) rfl rfl ?_
          refine pE_iload dX7_layFirstRow_67 rfl ?_
          refine pE_iload dX7_layFirstRow_69 rfl ?_
          refine pE_iaddN dX7_layFirstRow_71 ?_
          refine pE_istore (lc' := [_, _, _, _, _, some (.int _), _, _, _]) dX7_layFirstRow_72 (Nat.le_of_ble_eq_true rfl) rfl rfl ?_
          refine pE_iinc (c0 := -1) (lc' := [_, _, _, _, _, _, _, some (.int _), _]) dX7_layFirstRow_74 rfl rfl rfl rfl ?_
          refine pE_goto (tgt := 17) dX7_layFirstRow_77 (by decide) ?_
          refine pE_cg (ih (b + s) (ac + gC p T s b) I2 (P ++ [s]) (some (.int (nI s))) Q (by omega) (by simp only [List.length_append, List.length_cons, List.length_nil]; omega) (okL_snoc.mpr ⟨ho, a1, a2⟩) (by rw [smL_app, hb]; simp [smL]) (by rw [vl_app, hv, hb]; simp [vlL]) ⟨L0, z1, by omega⟩ (fun c k h1 h3 => (f2 c k h1 h3).trans (hf c k h1 h3)) ?_ (fun I3 G f3 g3 h3 => ?_)) (by rw [sub_add2]) rfl rfl rfl rfl
          · rw [show (P ++ [s]).length = P.length + 1 by simp]
            refine ⟨h2.1, h2.2.1, fun i hi => ?_⟩
            rw [h2.2.2 i hi]
            show (if i = P.length then nI s else nI (P.getD i 0)) = nI ((P ++ [s]).getD i 0)
            split
            · rename_i e; subst e; simp
            · show nI (P[i]?.getD 0) = nI ((P ++ [s])[i]?.getD 0)
              rw [List.getElem?_append_left (by omega)]
          · refine hq I3 (s :: G) f3 (isG_step ⟨a1, a2⟩ hmin g3) ?_
            rw [show P ++ s :: G = P ++ [s] ++ G by simp]
            exact h3
        · exact absurd h38 (nI_m1n (by omega))
      · exfalso
        cases L with
        | nil => simp at l3
        | cons s L0 =>
          have l6 := okL_cons.mp l4
          simp only [smL] at l5
          simp only [vlL] at l2
          simp only [List.length_cons] at l3
          exact hno s l6.1.1 l6.1.2 L0 ⟨by omega, l6.2, by omega⟩ l2
set_option maxHeartbeats 400000 in
set_option maxRecDepth 100000 in
theorem M_X7_layFirstRow {l : Launch} {X : pX} {t g : Nat} {I : pHI} {J : pHJ} {Q : pQ} {lk : Nat} {cl sum br lg : Nat} {T : pN} {p : pP} (hc : ctI I p T br lg) (hbr : br ≤ 40) (hlg : lg ≤ 20) (hs : sum ≤ br) (hcl : cl ≤ 4) (hs1 : 1 ≤ sum) (hlk : lk ≤ 200000000) (hL : cL 45 1 46 I 0 (fun _ => 0)) (hcl1 : 1 ≤ cl) (hex : ∃ L, rowL lg cl sum L ∧ lk ≤ vlL (gC p T) 0 L) (hq : ∀ I2 G, (∀ c k, c ≠ 61 → c ≠ 45 → c ≠ 46 → I2 c k = I c k) → isG (gC p T) lg sum lk cl 0 0 G → cL 45 1 46 I2 cl (fun i => nI (G.getD i 0)) → Q none I2 J (pR t g)) : pM l X yX7_layFirstRow mX7_layFirstRow 3 [.ref 59, .int (nI cl), .int (nI sum), .int (nI lk), .ref 45] pK pK I J (pR t g) Q := by
  refine pM_of rfl (fun h => by cases h) rfl pKM (Nat.le_of_ble_eq_true rfl) ?_
  refine pE_aload_n dX7_layFirstRow_0 rfl rfl ?_
  refine pE_iload_n dX7_layFirstRow_1 rfl rfl ?_
  refine pE_iload_n dX7_layFirstRow_2 rfl rfl ?_
  refine pE_callV (d' := 2) (as := [_, _]) dX7_layFirstRow_3 lkX7_72 (cwX7_countBackwards _ _) ivX7_countBackwards ⟨_, rfl, rfl⟩ (by first | assumption | rfl) rfl rfl (Nat.le_of_ble_eq_true rfl) (by decide) pKK ?_
  refine M_X7_countBackwards hc hbr hlg hs hcl hs1 (fun I2 f2 h2 => ?_)
  refine pE_iconst (v := nI 0) dX7_layFirstRow_6 rfl ?_
  refine pE_istore (lc' := [_, _, _, _, _, some (.int _), _, _, _]) dX7_layFirstRow_7 (Nat.le_of_ble_eq_true rfl) rfl rfl ?_
  refine pE_iload_n dX7_layFirstRow_9 rfl rfl ?_
  refine pE_istore (lc' := [_, _, _, _, _, _, some (.int _), _, _]) dX7_layFirstRow_10 (Nat.le_of_ble_eq_true rfl) rfl rfl ?_
  refine pE_iload_n dX7_layFirstRow_12 rfl rfl ?_
  refine pE_iconst (v := nI 1) dX7_layFirstRow_13 rfl ?_
  refine pE_isub dX7_layFirstRow_14 ?_
  refine pE_istore (lc' := [_, _, _, _, _, _, _, some (.int _), _]) dX7_layFirstRow_15 (Nat.le_of_ble_eq_true rfl) rfl rfl ?_
  obtain ⟨L, l1, l2⟩ := hex
  refine pE_cg (L_X7_layFirstRow (I := I2) (hc.o61 f2) hbr hlg hs hcl hs1 hlk h2 cl 0 0 I2 [] _ Q (Nat.le_refl _) (by simp) (okL_nil _) rfl rfl ⟨L, ⟨l1.1, l1.2.1, by rw [Nat.zero_add]; exact l1.2.2⟩, by omega⟩ (fun _ _ _ _ => rfl) ?_ (fun I3 G f3 g3 h3 => hq I3 G (fun c k a b d => (f3 c k b d).trans (f2 c k a)) g3 h3)) (by rw [← sub_0, Int32.sub_eq_add_neg]; rfl) rfl rfl rfl rfl
  exact ⟨by rw [f2 _ _ (by decide)]; exact hL.1, by simp, fun i hi => by simp at hi⟩
