theorem sY.sz {I I1 : pHI} (h : sz I I1) : sY I I1 := fun c k a b _ _ => h c k a b
theorem sY.L {I I1 I2 : pHI} (h : sY I I1) (h2 : sL I1 I2) : sY I I2 := fun c k a b d e => (h2 c k d e).trans (h c k a b d e)
theorem sL.n99 {I I1 : pHI} (h : sL I I1) (k : Nat) : I1 99 k = I 99 k := h 99 k (by decide) (by omega)
theorem uH_le (H : pN) (h : Nat → Nat) (hb : ∀ i, i < H 1 → h i ≤ 20) (hr : rH H) : uH H h ≤ 1599 := by
  have hn8 := hr.2.1
  have := maxN_le (f := fun j => 30 * h j + H (32 + j)) (B := 1599) (H 1) (fun i hi => by
    have a1 := hr.2.2.2.2 i (by omega)
    have a2 := hb i hi
    show 30 * h i + H (32 + i) ≤ 1599
    omega)
  unfold uH
  omega
set_option maxHeartbeats 400000 in
set_option maxRecDepth 100000 in
theorem L_X12_letJ {l : Launch} {X : pX} {t g : Nat} {I : pHI} {J : pHJ} {Q : pQ} {H : pN} {i : Nat} (hH : mH H I) (hr : rH H) (hi : i < H 1) (hq : ∀ I1 h, sz I I1 → (∀ i, i < H 1 → I1 99 i = nI (h i)) → ((hL h (H 1)).Perm (hL (fun j => H (8 + j)) (H 1))) → (∀ i, i < H 1 → h i ≤ 20) → (∀ a b, a ≤ i → a < b → b < H 1 → h a ≤ h b) → pE l X mX12_let 2 pK 67 [some (.ref 67), some (.int (nI i)), some (.int (nI (H 1))), none, none] [] pK I1 J (pR t g) Q) : ∀ (fu : Nat) (j : Nat) (h : Nat → Nat) (I1 : pHI), H 1 - j < fu → (j ≤ H 1) → (i < j) → (sz I I1) → ((∀ i, i < H 1 → I1 99 i = nI (h i))) → ((hL h (H 1)).Perm (hL (fun j => H (8 + j)) (H 1))) → (∀ i, i < H 1 → h i ≤ 20) → (∀ a b, a < i → a < b → b < H 1 → h a ≤ h b) → (∀ b, i < b → b < j → h i ≤ h b) → pE l X mX12_let 2 pK 32 [some (.ref 67), some (.int (nI i)), some (.int (nI j)), none, none] [] pK I1 J (pR t g) Q := by
  intro fu
  induction fu with
  | zero => intro j h I1 hn; exact absurd hn (Nat.not_lt_zero _)
  | succ fu ih =>
    intro j h I1 hn hj hij hx hho hp hb ho hs
    have hn8 := hr.2.1
    have hH1 := hH.sz hx
    refine pE_iload_n dX12_let_32 rfl rfl ?_
    refine pE_aload_n dX12_let_33 rfl rfl ?_
    refine pE_getI dX12_let_34 flX12_350 rfl (Or.inl rfl) (by first | assumption | rfl) ?_
    rw [hH1.2.1]
    refine pE_icmp_ge (tgt := 67) dX12_let_37 (by decide) (fun h37 => ?_) (fun h37 => ?_)
    · have g37 := nq_le (by omega) (by omega) h37
      obtain rfl : j = H 1 := by omega
      refine hq _ h hx hho hp hb (fun a b e f d => ?_)
      rcases Nat.lt_or_ge a i with c | c
      · exact ho a b c f d
      · obtain rfl : a = i := by omega
        exact hs b f d
    · have g37 := nq_nle (by omega) (by omega) h37
      have b1 := hb i (by omega)
      have b2 := hb j (by omega)
      refine pE_aload_n dX12_let_40 rfl rfl ?_
      refine pE_getR dX12_let_41 flX12_112 rfl (by first | assumption | rfl) (by first | assumption | rfl) ?_
      refine pE_iload_n dX12_let_44 rfl rfl ?_
      refine pE_ialoadN dX12_let_45 (by first | assumption | rfl) (by first | assumption | omega) (by omega) ?_
      rw [hho _ (by omega)]
      refine pE_aload_n dX12_let_46 rfl rfl ?_
      refine pE_getR dX12_let_47 flX12_112 rfl (by first | assumption | rfl) (by first | assumption | rfl) ?_
      refine pE_iload_n dX12_let_50 rfl rfl ?_
      refine pE_ialoadN dX12_let_51 (by first | assumption | rfl) (by first | assumption | omega) (by omega) ?_
      rw [hho _ (by omega)]
      refine pE_icmp_ge (tgt := 61) dX12_let_52 (by decide) (fun h52 => ?_) (fun h52 => ?_)
      · have g52 := nq_le (by omega) (by omega) h52
        refine pE_iincN (c0 := 1) (lc' := [_, _, some (.int _), _, _]) dX12_let_61 rfl rfl rfl rfl ?_
        refine pE_goto (tgt := 32) dX12_let_64 (by decide) ?_
        refine ih (j + 1) h I1 (by omega) (by omega) (by omega) hx hho hp hb ho (fun b e f => ?_)
        rcases Nat.lt_or_ge b j with c | c
        · exact hs b e c
        · obtain rfl : b = j := by omega
          omega
      · have g52 := nq_nle (by omega) (by omega) h52
        refine pE_aload_n dX12_let_55 rfl rfl ?_
        refine pE_iload_n dX12_let_56 rfl rfl ?_
        refine pE_iload_n dX12_let_57 rfl rfl ?_
        refine pE_callV (d' := 0) (as := [_, _]) dX12_let_58 lkX12_464 (cwX12_changeHomes _ _) ivX12_changeHomes ⟨_, rfl, rfl⟩ (by first | assumption | rfl) rfl rfl (Nat.le_of_ble_eq_true rfl) (by decide) pKK ?_
        refine M_X12_changeHomes hn8 (h := h) hho (by omega) (by omega) (fun I2 f2 hho2 => ?_)
        have es : ∀ z, swH h i j z = if z = i then h j else if z = j then h i else h z := fun z => rfl
        refine pE_iincN (c0 := 1) (lc' := [_, _, some (.int _), _, _]) dX12_let_61 rfl rfl rfl rfl ?_
        refine pE_goto (tgt := 32) dX12_let_64 (by decide) ?_
        refine ih (j + 1) (swH h i j) I2 (by omega) (by omega) (by omega) (hx.p99 f2) hho2 ((sw_perm (by omega) (by omega)).trans hp) (fun z hz => ?_) (fun a b e f d => ?_) (fun b e f => ?_)
        · rw [es]
          split
          · exact b2
          · split
            · exact b1
            · exact hb z hz
        · have k1 := ho a i e e (by omega)
          have k2 := ho a j e (by omega) (by omega)
          have k3 := ho a b e f d
          rw [es a, if_neg (by omega), if_neg (by omega), es b]
          split
          · exact k2
          · split
            · exact k1
            · exact k3
        · rw [es i, if_pos rfl, es b, if_neg (by omega)]
          split
          · omega
          · have := hs b e (by omega)
            omega
set_option maxHeartbeats 400000 in
set_option maxRecDepth 100000 in
theorem L_X12_letI {l : Launch} {X : pX} {t g : Nat} {I : pHI} {J : pHJ} {Q : pQ} {H : pN} (hH : mH H I) (hr : rH H) (hq : ∀ I1 h v2, sz I I1 → (∀ i, i < H 1 → I1 99 i = nI (h i)) → ((hL h (H 1)).Perm (hL (fun j => H (8 + j)) (H 1))) → (∀ i, i < H 1 → h i ≤ 20) → (hL h (H 1)).Pairwise (· ≤ ·) → pE l X mX12_let 2 pK 73 [some (.ref 67), some (.int (nI (H 1))), v2, none, none] [] pK I1 J (pR t g) Q) : ∀ (fu : Nat) (i : Nat) (h : Nat → Nat) (v2 : Option Value) (I1 : pHI), H 1 - i < fu → (i ≤ H 1) → (sz I I1) → ((∀ i, i < H 1 → I1 99 i = nI (h i))) → ((hL h (H 1)).Perm (hL (fun j => H (8 + j)) (H 1))) → (∀ i, i < H 1 → h i ≤ 20) → (∀ a b, a < i → a < b → b < H 1 → h a ≤ h b) → pE l X mX12_let 2 pK 20 [some (.ref 67), some (.int (nI i)), v2, none, none] [] pK I1 J (pR t g) Q := by
  intro fu
  induction fu with
  | zero => intro i h v2 I1 hn; exact absurd hn (Nat.not_lt_zero _)
  | succ fu ih =>
    intro i h v2 I1 hn hi hx hho hp hb ho
    have hn8 := hr.2.1
    have hH1 := hH.sz hx
    refine pE_iload_n dX12_let_20 rfl rfl ?_
    refine pE_aload_n dX12_let_21 rfl rfl ?_
    refine pE_getI dX12_let_22 flX12_350 rfl (Or.inl rfl) (by first | assumption | rfl) ?_
    rw [hH1.2.1]
    refine pE_icmp_ge (tgt := 73) dX12_let_25 (by decide) (fun h25 => ?_) (fun h25 => ?_)
    · have g25 := nq_le (by omega) (by omega) h25
      obtain rfl : i = H 1 := by omega
      exact hq I1 h v2 hx hho hp hb (hL_pw (fun a b e f => ho a b (by omega) e f))
    · have g25 := nq_nle (by omega) (by omega) h25
      refine pE_iload_n dX12_let_28 rfl rfl ?_
      refine pE_iconst (v := nI 1) dX12_let_29 rfl ?_
      refine pE_iaddN dX12_let_30 ?_
      refine pE_istore_n (lc' := [_, _, some (.int _), _, _]) dX12_let_31 rfl (Nat.le_of_ble_eq_true rfl) rfl rfl ?_
      refine L_X12_letJ hH hr (i := i) (by omega) (fun I2 h2 hx2 hho2 hp2 hb2 ho2 => ?_) (H 1 + 1) (i + 1) h I1 (by omega) (by omega) (by omega) hx hho hp hb ho (fun b e f => absurd e (by omega))
      refine pE_iincN (c0 := 1) (lc' := [_, some (.int _), _, _, _]) dX12_let_67 rfl rfl rfl rfl ?_
      refine pE_goto (tgt := 20) dX12_let_70 (by decide) ?_
      exact ih (i + 1) h2 _ I2 (by omega) (by omega) hx2 hho2 hp2 hb2 (fun a b e f d => ho2 a b (by omega) f d)
set_option maxHeartbeats 400000 in
set_option maxRecDepth 100000 in
theorem L_X12_letC {l : Launch} {X : pX} {t g : Nat} {I : pHI} {J : pHJ} {Q : pQ} {H : pN} {h : Nat → Nat} {m : Nat} (hH : mH H I) (hr : rH H) (hho : (∀ i, i < H 1 → I 99 i = nI (h i))) (hq : ∀ I1 v4, sL I I1 → (∀ i, i < H 1 → I1 94 i = nI (h i)) → pE l X mX12_let 2 pK 127 [some (.ref 67), some (.int (nI m)), some (.int (nI 1)), some (.int (nI m)), v4] [] pK I1 J (pR t g) Q) : ∀ (fu : Nat) (i : Nat) (I1 : pHI), H 1 - i < fu → (i ≤ H 1) → (sL I I1) → (∀ z, z < i → I1 94 z = nI (h z)) → pE l X mX12_let 2 pK 98 [some (.ref 67), some (.int (nI m)), some (.int (nI 1)), some (.int (nI m)), some (.int (nI i))] [] pK I1 J (pR t g) Q := by
  intro fu
  induction fu with
  | zero => intro i I1 hn; exact absurd hn (Nat.not_lt_zero _)
  | succ fu ih =>
    intro i I1 hn hi hx hv
    have hn8 := hr.2.1
    have hH1 := hH.sY (sY.rf.L hx)
    have e9 : ∀ z, z < H 1 → I1 99 z = nI (h z) := fun z hz => by rw [hx.n99]; exact hho z hz
    refine pE_iload dX12_let_98 rfl ?_
    refine pE_aload_n dX12_let_100 rfl rfl ?_
    refine pE_getI dX12_let_101 flX12_350 rfl (Or.inl rfl) (by first | assumption | rfl) ?_
    rw [hH1.2.1]
    refine pE_icmp_ge (tgt := 127) dX12_let_104 (by decide) (fun h104 => ?_) (fun h104 => ?_)
    · have g104 := nq_le (by omega) (by omega) h104
      obtain rfl : i = H 1 := by omega
      exact hq _ _ hx hv
    · have g104 := nq_nle (by omega) (by omega) h104
      refine pE_aload_n dX12_let_107 rfl rfl ?_
      refine pE_getR dX12_let_108 flX12_97 rfl (by first | assumption | rfl) (by first | assumption | rfl) ?_
      refine pE_iload dX12_let_111 rfl ?_
      refine pE_aload_n dX12_let_113 rfl rfl ?_
      refine pE_getR dX12_let_114 flX12_112 rfl (by first | assumption | rfl) (by first | assumption | rfl) ?_
      refine pE_iload dX12_let_117 rfl ?_
      refine pE_ialoadN dX12_let_119 (by first | assumption | rfl) (by first | assumption | omega) (by omega) ?_
      rw [e9 _ (by omega)]
      refine pE_iastoreN dX12_let_120 (by first | assumption | rfl) (by first | assumption | omega) (by omega) ?_
      refine pE_iincN (c0 := 1) (lc' := [_, _, _, _, some (.int _)]) dX12_let_121 rfl rfl rfl rfl ?_
      refine pE_goto (tgt := 98) dX12_let_124 (by decide) ?_
      refine ih (i + 1) _ (by omega) (by omega) (hx.pu) (fun z hz => ?_)
      by_cases c : z = i
      · subst c
        rw [pu_at, if_pos ⟨rfl, rfl⟩]
      · rw [pu_at, if_neg (fun q => c q.2)]
        exact hv z (by omega)
set_option maxHeartbeats 400000 in
set_option maxRecDepth 100000 in
theorem L_X12_letU {l : Launch} {X : pX} {t g : Nat} {I : pHI} {J : pHJ} {Q : pQ} {H : pN} {h : Nat → Nat} {m : Nat} {V : List Nat} {v3 v4 : Option Value} (hH : mH H I) (hr : rH H) (h0 : 0 < H 1) (hho : (∀ i, i < H 1 → I 99 i = nI (h i))) (hp : (hL h (H 1)).Perm (hL (fun j => H (8 + j)) (H 1))) (hb : ∀ i, i < H 1 → h i ≤ 20) (hm : m ≤ 1000000) (hA : bA (hL (fun j => H (8 + j)) (H 1)) (uL H) (hL h (H 1)) m V) (hv : m = 1000000 ∨ (∀ i, i < H 1 → I 94 i = nI (V.getD i 0))) (hq : ∀ I1 m V v3 v4, sL I I1 → m ≤ 1000000 → bB (hL (fun j => H (8 + j)) (H 1)) (uL H) (hL h (H 1)) m V → (∀ i, i < H 1 → I1 94 i = nI (V.getD i 0)) → pE l X mX12_let 2 pK 127 [some (.ref 67), some (.int (nI m)), some (.int (nI 1)), v3, v4] [] pK I1 J (pR t g) Q) : pE l X mX12_let 2 pK 79 [some (.ref 67), some (.int (nI m)), some (.int (nI 1)), v3, v4] [] pK I J (pR t g) Q := by
  have hn8 := hr.2.1
  have hu := uH_le H h hb hr
  have eu := uL_h H h
  refine pE_iload_n dX12_let_79 rfl rfl ?_
  refine pE_if_eq (tgt := 135) dX12_let_80 (by decide) (fun h80 => ?_) (fun h80 => ?_)
  · have g80 := nq_eq0 (by omega) h80
    exact absurd g80 (by omega)
  · have g80 := nq_ne0 (by omega) h80
    refine pE_aload_n dX12_let_83 rfl rfl ?_
    refine pE_callV (d' := 1) (as := []) dX12_let_84 lkX12_470 (cwX12_uneven _ _) ivX12_uneven ⟨_, rfl, rfl⟩ (by first | assumption | rfl) rfl rfl (Nat.le_of_ble_eq_true rfl) (by decide) pKK ?_
    refine M_X12_uneven (H := H) (h := h) hH hr hho hb h0 ?_
    rw [show maxN (fun j => 30 * h j + H (32 + j)) (H 1) - minN (fun j => 30 * h j + H (32 + j)) 1000000 (H 1) = uH H h from rfl]
    refine pE_istore_n (lc' := [_, _, _, some (.int _), _]) dX12_let_87 rfl (Nat.le_of_ble_eq_true rfl) rfl rfl ?_
    refine pE_iload_n dX12_let_88 rfl rfl ?_
    refine pE_iload_n dX12_let_89 rfl rfl ?_
    refine pE_icmp_ge (tgt := 127) dX12_let_90 (by decide) (fun h90 => ?_) (fun h90 => ?_)
    · have g90 := nq_le (by omega) (by omega) h90
      exact hq I m V _ _ sL.rf hm (bA_n hA (by rw [eu]; omega) (by rw [eu]; omega)) (hv.resolve_left (by omega))
    · have g90 := nq_nle (by omega) (by omega) h90
      refine pE_iload_n dX12_let_93 rfl rfl ?_
      refine pE_istore_n (lc' := [_, some (.int _), _, _, _]) dX12_let_94 rfl (Nat.le_of_ble_eq_true rfl) rfl rfl ?_
      refine pE_iconst (v := nI 0) dX12_let_95 rfl ?_
      refine pE_istore (lc' := [_, _, _, _, some (.int _)]) dX12_let_96 (Nat.le_of_ble_eq_true rfl) rfl rfl ?_
      refine L_X12_letC hH hr hho (fun I1 v4 hx hv1 => ?_) (H 1 + 1) 0 I (by omega) (by omega) sL.rf (fun z hz => absurd hz (by omega))
      exact hq I1 (uH H h) (hL h (H 1)) _ _ hx (by omega) (by rw [← eu]; exact bA_y hA hp (by rw [eu]; omega)) (fun i hi => by rw [hL_gd hi]; exact hv1 i hi)
set_option maxHeartbeats 400000 in
set_option maxRecDepth 100000 in
theorem L_X12_letN {l : Launch} {X : pX} {t g : Nat} {I : pHI} {J : pHJ} {Q : pQ} {H : pN} (hH : mH H I) (hr : rH H) (h0 : 0 < H 1) (hq : ∀ I1 m V, sY I I1 → I1 67 52 = nI (H 1) → m ≤ 1000000 → bT (hL (fun j => H (8 + j)) (H 1)) (uL H) m V → (∀ i, i < H 1 → I1 94 i = nI (V.getD i 0)) → Q (some (.int (nI m))) I1 J (pR t g)) : ∀ (fu : Nat) (m : Nat) (V : List Nat) (h : Nat → Nat) (v3 : Option Value) (v4 : Option Value) (I1 : pHI), 21 ^ H 1 - cdL (hL h (H 1)) < fu → (sY I I1) → ((∀ i, i < H 1 → I1 99 i = nI (h i))) → ((hL h (H 1)).Perm (hL (fun j => H (8 + j)) (H 1))) → (∀ i, i < H 1 → h i ≤ 20) → (m ≤ 1000000) → (bB (hL (fun j => H (8 + j)) (H 1)) (uL H) (hL h (H 1)) m V) → ((∀ i, i < H 1 → I1 94 i = nI (V.getD i 0))) → pE l X mX12_let 2 pK 127 [some (.ref 67), some (.int (nI m)), some (.int (nI 1)), v3, v4] [] pK I1 J (pR t g) Q := by
  intro fu
  induction fu with
  | zero => intro m V h v3 v4 I1 hn; exact absurd hn (Nat.not_lt_zero _)
  | succ fu ih =>
    intro m V h v3 v4 I1 hn hx hho hp hb hm hB hv
    have hn8 := hr.2.1
    have hH1 := hH.sY hx
    refine pE_aload_n dX12_let_127 rfl rfl ?_
    refine pE_callV (d' := 1) (as := []) dX12_let_128 lkX12_473 (cwX12_nextHomes _ _) ivX12_nextHomes ⟨_, rfl, rfl⟩ (by first | assumption | rfl) rfl rfl (Nat.le_of_ble_eq_true rfl) (by decide) pKK ?_
    refine M_X12_nextHomes (H := H) (h := h) hH1 hr h0 hho hb (fun hfall => ?_) (fun I2 h2 hz hho2 hp2 hnx => ?_)
    · refine pE_istore_n (lc' := [_, _, some (.int _), _, _]) dX12_let_131 rfl (Nat.le_of_ble_eq_true rfl) rfl rfl ?_
      refine pE_goto (tgt := 79) dX12_let_132 (by decide) ?_
      refine pE_iload_n dX12_let_79 rfl rfl ?_
      refine pE_if_eq (tgt := 135) dX12_let_80 (by decide) (fun h80 => ?_) (fun h80 => ?_)
      · have g80 := nq_eq0 (by omega) h80
        refine pE_aload_n dX12_let_135 rfl rfl ?_
        refine pE_aload_n dX12_let_136 rfl rfl ?_
        refine pE_getI dX12_let_137 flX12_350 rfl (Or.inl rfl) (by first | assumption | rfl) ?_
        rw [hH1.2.1]
        refine pE_putI dX12_let_140 flX12_365 ftX12 fiX12_52 rfl rfl (by first | assumption | rfl) ?_
        refine pE_iload_n dX12_let_143 rfl rfl ?_
        refine pE_iret dX12_let_144 rfl rfl ?_
        refine hq _ m V (sY52 hx) (by rw [pu_at, if_pos ⟨rfl, rfl⟩]) hm (bB_end hB hp (hL_pw (fun a b e f => hfall a b e f))) (fun i hi => by rw [pu_ne _ _ _ (by decide)]; exact hv i hi)
      · have g80 := nq_ne0 (by omega) h80
        exact absurd g80 (by omega)
    · refine pE_istore_n (lc' := [_, _, some (.int _), _, _]) dX12_let_131 rfl (Nat.le_of_ble_eq_true rfl) rfl rfl ?_
      refine pE_goto (tgt := 79) dX12_let_132 (by decide) ?_
      have hp3 := hp2.trans hp
      have hb3 : ∀ i, i < H 1 → h2 i ≤ 20 := fun i hi => by
        have : h2 i ∈ hL h (H 1) := hp2.mem_iff.mp (hL_mem.mpr ⟨i, hi, rfl⟩)
        obtain ⟨z, hz, e⟩ := hL_mem.mp this
        rw [← e]
        exact hb z hz
      have hl : cdL (hL h (H 1)) < cdL (hL h2 (H 1)) := by
        rcases nx_len hnx with q | q
        · exact q.2.2
        · exact absurd (fun x hx => by obtain ⟨z, hz, e⟩ := hL_mem.mp hx; rw [← e]; exact hb z hz) q
      have hl2 : cdL (hL h2 (H 1)) < 21 ^ H 1 := by
        have := cd_lt (L := hL h2 (H 1)) (fun x hx => by obtain ⟨z, hz, e⟩ := hL_mem.mp hx; rw [← e]; exact hb3 z hz)
        rwa [hL_len] at this
      exact L_X12_letU (hH1.sz hz) hr h0 hho2 hp3 hb3 hm (bB_next hB hp hnx) (Or.inr (fun i hi => by rw [hz 94 i (by simp only [scF]; omega) (by simp only [scM]; omega)]; exact hv i hi)) (fun I3 m3 V3 v3 v4 hx3 hm3 hB3 hv3 => ih m3 V3 h2 v3 v4 I3 (by omega) ((hx.tr (sY.sz hz)).L hx3) (fun i hi => by rw [hx3.n99]; exact hho2 i hi) hp3 hb3 hm3 hB3 hv3)
set_option maxHeartbeats 400000 in
set_option maxRecDepth 100000 in
theorem M_X12_let {l : Launch} {X : pX} {t g : Nat} {I : pHI} {J : pHJ} {Q : pQ} {H : pN} (hH : mH H I) (hr : rH H) (h1 : H 1 = 0 → ∀ I1, sY I I1 → I1 67 52 = nI 0 → Q (some (.int (-1))) I1 J (pR t g)) (hq : 0 < H 1 → ∀ I1 m V, sY I I1 → I1 67 52 = nI (H 1) → m ≤ 1000000 → bT (hL (fun j => H (8 + j)) (H 1)) (uL H) m V → (∀ i, i < H 1 → I1 94 i = nI (V.getD i 0)) → Q (some (.int (nI m))) I1 J (pR t g)) : pM l X yX12_let mX12_let 2 [.ref 67] pK pK I J (pR t g) Q := by
  have hn8 := hr.2.1
  have hn20 := hr.1.2
  have hx0 : sY I (pu I 67 52 (nI 0)) := sY52 sY.rf
  refine pM_of rfl (fun h => by cases h) rfl pKM (Nat.le_of_ble_eq_true rfl) ?_
  refine pE_aload_n dX12_let_0 rfl rfl ?_
  refine pE_iconst (v := nI 0) dX12_let_1 rfl ?_
  refine pE_putI dX12_let_2 flX12_365 ftX12 fiX12_52 rfl rfl (by first | assumption | rfl) ?_
  refine pE_aload_n dX12_let_5 rfl rfl ?_
  refine pE_getI dX12_let_6 flX12_350 rfl (Or.inl rfl) (by first | assumption | rfl) ?_
  rw [hx0 67 42 (by simp only [scF]; omega) (by simp only [scM]; omega) (by omega) (by omega), hH.2.1]
  refine pE_if_ne (tgt := 14) dX12_let_9 (by decide) (fun h9 => ?_) (fun h9 => ?_)
  · have g9 := nq_ne0 (by omega) h9
    refine pE_aload_n dX12_let_14 rfl rfl ?_
    refine pE_callV (d' := 0) (as := []) dX12_let_15 lkX12_458 (cwX12_layHomes _ _) ivX12_layHomes ⟨_, rfl, rfl⟩ (by first | assumption | rfl) rfl rfl (Nat.le_of_ble_eq_true rfl) (by decide) pKK ?_
    refine M_X12_layHomes (hH.sY hx0) hr (fun I1 hz hho => ?_)
    refine pE_iconst (v := nI 0) dX12_let_18 rfl ?_
    refine pE_istore_n (lc' := [_, some (.int _), _, _, _]) dX12_let_19 rfl (Nat.le_of_ble_eq_true rfl) rfl rfl ?_
    refine L_X12_letI ((hH.sY hx0).sz hz) hr (fun I2 h v2 hx2 hho2 hp2 hb2 hs2 => ?_) (H 1 + 1) 0 (fun j => H (8 + j)) _ I1 (by omega) (by omega) sz.rf hho (List.Perm.refl _) (fun i hi => Nat.le_trans (hr.2.2.2.2 i (by omega)).1 hn20) (fun a b e => absurd e (by omega))
    have hx3 := (hx0.tr (sY.sz hz)).tr (sY.sz hx2)
    refine pE_ldcw dX12_let_73 kcX12_423 ?_
    rw [show (1000000 : Int32) = nI 1000000 from rfl]
    refine pE_istore_n (lc' := [_, some (.int _), _, _, _]) dX12_let_76 rfl (Nat.le_of_ble_eq_true rfl) rfl rfl ?_
    refine pE_iconst (v := nI 1) dX12_let_77 rfl ?_
    refine pE_istore_n (lc' := [_, _, some (.int _), _, _]) dX12_let_78 rfl (Nat.le_of_ble_eq_true rfl) rfl rfl ?_
    refine L_X12_letU (V := []) (hH.sY hx3) hr g9 hho2 hp2 hb2 (Nat.le_refl _) (bA_0 hp2 hs2) (Or.inl rfl) (fun I3 m3 V3 v3 v4 hx4 hm3 hB3 hv3 => ?_)
    exact L_X12_letN (hH.sY hx3) hr g9 (fun I4 m V hx5 => hq g9 I4 m V (hx3.tr hx5)) (21 ^ H 1 + 1) m3 V3 h v3 v4 I3 (Nat.lt_succ_of_le (Nat.sub_le _ _)) (sY.rf.L hx4) (fun i hi => by rw [hx4.n99]; exact hho2 i hi) hp2 hb2 hm3 hB3 hv3
  · have g9 := nq_eq0 (by omega) h9
    refine pE_iconst (v := -1) dX12_let_12 rfl ?_
    refine pE_iret dX12_let_13 rfl rfl ?_
    exact h1 g9 _ hx0 (by rw [pu_at, if_pos ⟨rfl, rfl⟩])
