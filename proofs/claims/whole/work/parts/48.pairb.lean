set_option maxHeartbeats 400000 in
set_option maxRecDepth 100000 in
theorem L0_X6_choose {l : Launch} {X : pX} {t g : Nat} {I : pHI} {J : pHJ} {Q : pQ} {a s b j : Nat} {n : Nat} {sv pr : Nat → Nat} (hn8 : n ≤ 8) (ha : a < n) (hj : j ≤ n) (hb : b < n) (h0 : I 54 0 = nI n) (h1 : I 57 a = nI b) (hq : ∀ y4, pE l X mX6_choose 2 pK 89 [some (.ref 54), some (.int (nI s)), some (.int (nI a)), some (.int (nI (vl (btN (canS sv) pr n a s)))), some (.int y4)] [] pK I J (pR t g) Q) : pE l X mX6_choose 2 pK 33 [some (.ref 54), some (.int (nI s)), some (.int (nI a)), some (.int (nI (vl (btN (canS sv) pr n a s)))), some (.int (nI j))] [] pK I J (pR t g) Q := by
  refine pE_iload dX6_choose_33 rfl ?_
  refine pE_aload_n dX6_choose_35 rfl rfl ?_
  refine pE_getI dX6_choose_36 flX6_9 rfl (Or.inl rfl) (by first | assumption | rfl) ?_
  rw [h0]
  refine pE_icmp_ge (tgt := 89) dX6_choose_39 (by decide) (fun h39 => ?_) (fun h39 => ?_)
  · have g39 := nq_le (by omega) (by omega) h39
    exact hq _
  · have g39 := nq_nle (by omega) (by omega) h39
    refine pE_aload_n dX6_choose_42 rfl rfl ?_
    refine pE_getR dX6_choose_43 flX6_22 rfl (by first | assumption | rfl) (by first | assumption | rfl) ?_
    refine pE_iload_n dX6_choose_46 rfl rfl ?_
    refine pE_ialoadN dX6_choose_47 (by first | assumption | rfl) (by first | assumption | omega) (by omega) ?_
    rw [h1]
    refine pE_iconst (v := -1) dX6_choose_48 rfl ?_
    refine pE_icmp_ne (tgt := 89) dX6_choose_49 (by decide) (fun h49 => ?_) (fun h49 => ?_)
    · exact hq _
    · exact absurd h49 (nI_m1n (by omega))
