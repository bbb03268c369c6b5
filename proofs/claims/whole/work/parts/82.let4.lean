theorem aC_b {t : Nat} {gv ow : Nat → Nat} : ∀ {os R : List Nat}, (∀ a, a ∈ os → ow a ≤ 999) → (∀ a, a ∈ os → a < t → gv a ≤ 20) → (∀ v, v ∈ R → v ≤ 20) → ∀ x, x ∈ aC t gv ow os R → x ≤ 1599
  | [], R, _, _, _, x, hx => by simp [aC] at hx
  | a :: os, R, h1, h2, h3, x, hx => by
    have k1 := h1 a (by simp)
    simp only [aC] at hx
    by_cases c : a < t
    · rw [if_pos c] at hx
      have k2 := h2 a (by simp) c
      rcases List.mem_cons.mp hx with e | e
      · omega
      · exact aC_b (fun b hb => h1 b (List.mem_cons_of_mem _ hb)) (fun b hb => h2 b (List.mem_cons_of_mem _ hb)) h3 x e
    · rw [if_neg c] at hx
      rcases List.mem_cons.mp hx with e | e
      · cases R with
        | nil => simp at e; omega
        | cons r R => have := h3 r (by simp); simp at e; omega
      · exact aC_b (fun b hb => h1 b (List.mem_cons_of_mem _ hb)) (fun b hb => h2 b (List.mem_cons_of_mem _ hb)) (fun v hv => h3 v (List.mem_of_mem_tail hv)) x e
theorem dC_b {t : Nat} {gv ow : Nat → Nat} {os R : List Nat} (h1 : ∀ a, a ∈ os → ow a ≤ 999) (h2 : ∀ a, a ∈ os → a < t → gv a ≤ 20) (h3 : ∀ v, v ∈ R → v ≤ 20) : dC t gv ow os R ≤ 1599 := by
  have := (mx_f (aC t gv ow os R) 0).2.2 1599 (by omega) (aC_b h1 h2 h3)
  unfold dC
  omega
theorem hL_pf {o f : Nat → Nat} {n : Nat} (h : ∀ a b, a < b → b < n → f (o b) ≤ f (o a)) : ((hL o n).map f).Pairwise (· ≥ ·) := by
  unfold hL
  refine List.pairwise_map.mpr (List.pairwise_map.mpr ?_)
  exact List.Pairwise.imp_of_mem (fun {a b} _ hb q => h a b q (List.mem_range.mp hb)) List.pairwise_lt_range
theorem hL_getD {h : Nat → Nat} {n i : Nat} (hi : i < n) : (hL h n).getD i 0 = h i := by
  show ((hL h n)[i]?).getD 0 = h i
  rw [hL_get hi]; rfl
theorem cL_cg {a b c n : Nat} {L L' : Nat → Int32} {I : pHI} (h : cL a b c I n L) (e : ∀ i, i < n → L i = L' i) : cL a b c I n L' := ⟨h.1, h.2.1, fun i hi => (h.2.2 i hi).trans (e i hi)⟩
def sl (I I1 : pHI) : Prop := ∀ c k, c ≠ 64 → c ≠ 66 → I1 c k = I c k
theorem sl.rf {I : pHI} : sl I I := fun _ _ _ _ => rfl
theorem sl.tr {I I1 I2 : pHI} (h1 : sl I I1) (h2 : sl I1 I2) : sl I I2 := fun c k a b => (h2 c k a b).trans (h1 c k a b)
theorem sl.t {I I1 : pHI} (h : sl I I1) : sT I I1 := fun c k a => h c k (fun e => a (by omega)) (fun e => a (by omega))
theorem sl.pu {I I1 : pHI} {c k : Nat} {x : Int32} (h : sl I I1) (hc : c = 64 ∨ c = 66) : sl I (pu I1 c k x) := fun c2 k2 a b => by rw [pu_ne _ _ _ (show c2 ≠ c by omega)]; exact h c2 k2 a b
def kI (I : pHI) (n : Nat) (tk : Nat → Bool) : Prop := ∀ p, p < n → I 64 p = if tk p = true then nI 1 else nI 0
def gI (I : pHI) (n : Nat) (gv : Nat → Nat) : Prop := ∀ p, p < n → I 66 p = nI (gv p) ∧ gv p ≤ 20
theorem kI.on {I : pHI} {n i : Nat} {tk : Nat → Bool} (h : kI I n tk) : kI (pu I 64 i (nI 1)) n (tkS tk i) := fun p hp => by
  rw [pu_at]
  unfold tkS
  by_cases c : p = i
  · rw [if_pos ⟨rfl, c⟩, if_pos c, if_pos rfl]
  · rw [if_neg (fun q => c q.2), if_neg c]; exact h p hp
theorem kI.off {I : pHI} {n i : Nat} {tk : Nat → Bool} (h : kI I n (tkS tk i)) (hi : tk i = false) : kI (pu I 64 i (nI 0)) n tk := fun p hp => by
  rw [pu_at]
  by_cases c : p = i
  · rw [if_pos ⟨rfl, c⟩, c, hi]; rfl
  · rw [if_neg (fun q => c q.2)]
    have := h p hp
    unfold tkS at this
    rwa [if_neg c] at this
theorem kI.o {I : pHI} {n c k : Nat} {x : Int32} {tk : Nat → Bool} (h : kI I n tk) (hc : c ≠ 64) : kI (pu I c k x) n tk := fun p hp => by
  rw [pu_ne _ _ _ (fun e => hc e.symm)]; exact h p hp
theorem gI.o {I : pHI} {n c k : Nat} {x : Int32} {gv : Nat → Nat} (h : gI I n gv) (hc : c ≠ 66) : gI (pu I c k x) n gv := fun p hp => by
  rw [pu_ne _ _ _ (fun e => hc e.symm)]; exact h p hp
theorem gI.put {I : pHI} {n v : Nat} {gv : Nat → Nat} (h : gI I n gv) (hv : v ≤ 20) : gI (pu I 66 n (nI v)) (n + 1) (upT gv n v) := fun p hp => by
  rw [pu_at]
  unfold upT
  by_cases c : p = n
  · rw [if_pos ⟨rfl, c⟩, if_pos c]; exact ⟨rfl, hv⟩
  · rw [if_neg (fun q => c q.2), if_neg c]; exact h p (by omega)
theorem gI.lo {I : pHI} {n v : Nat} {gv : Nat → Nat} (h : gI I (n + 1) (upT gv n v)) : gI I n gv := fun p hp => by
  have := h p (by omega)
  rwa [upT_lo hp] at this
set_option maxHeartbeats 400000 in
set_option maxRecDepth 100000 in
theorem L_X4_settleL {l : Launch} {X : pX} {t g : Nat} {I : pHI} {J : pHJ} {Q : pQ} {H : pN} {o s gv : Nat → Nat} {tk : Nat → Bool} {tt least : Nat} (ht : isH t) (hH : cH t H I) (hr : rH H) (ho : ∀ p, p < H 1 → I 65 p = nI (o p) ∧ o p < H 1) (hs : ∀ p, p < H 1 → I 63 p = nI (s p) ∧ s p ≤ 20) (htt : tt < H 1) (hle : least ≤ 1599) (hex : ∃ i, i < H 1 ∧ tk i = false ∧ dS H (hL o (H 1)) s (upT gv tt (s i)) (tkS tk i) (tt + 1) ≤ least) (hq : ∀ I1 i, sl I I1 → i < H 1 → tk i = false → dS H (hL o (H 1)) s (upT gv tt (s i)) (tkS tk i) (tt + 1) ≤ least → (∀ k, k < i → tk k = false → ¬ dS H (hL o (H 1)) s (upT gv tt (s k)) (tkS tk k) (tt + 1) ≤ least) → kI I1 (H 1) (tkS tk i) → gI I1 (tt + 1) (upT gv tt (s i)) → Q none I1 J (pR t g)) : ∀ (fu : Nat) (i : Nat) (I1 : pHI), H 1 - i < fu → (i ≤ H 1) → (sl I I1) → (kI I1 (H 1) tk) → (gI I1 tt gv) → (∀ k, k < i → tk k = false → ¬ dS H (hL o (H 1)) s (upT gv tt (s k)) (tkS tk k) (tt + 1) ≤ least) → pE l X mX4_settleLowest 2 pK 3 [some (.ref 62), some (.ref t), some (.int (nI tt)), some (.int (nI least)), some (.int (nI i))] [] pK I1 J (pR t g) Q := by
  obtain ⟨fHFht0, fHFht1, fHFht2, fHFht3, fHFht4, fHFht5, fHFht6, fHFht7, fHFht8, fHFht9, fHFht10, fHFht11, fHFht12, fHFht13, fHFht14, fHFht15, fHFht16, fHFht17, fHFht18, fHFht19, fHFht20, fHFht21, fHFht22, fHFht23, fHFht24, fHFht25, fHFht26⟩ := HF t g ht
  intro fu
  induction fu with
  | zero => intro i I1 hn; exact absurd hn (Nat.not_lt_zero _)
  | succ fu ih =>
    intro i I1 hn hi hx hk hg hn
    have hn8 := hr.2.1
    have hH1 := hH.sT ht hx.t
    have ho1 : ∀ p, p < H 1 → I1 65 p = nI (o p) ∧ o p < H 1 := fun p hp => by rw [hx 65 p (by decide) (by decide)]; exact ho p hp
    have hs1 : ∀ p, p < H 1 → I1 63 p = nI (s p) ∧ s p ≤ 20 := fun p hp => by rw [hx 63 p (by decide) (by decide)]; exact hs p hp
    refine pE_iload dX4_settleLowest_3 rfl ?_
    refine pE_aload_n dX4_settleLowest_5 rfl rfl ?_
    refine pE_getI dX4_settleLowest_6 flX4_36 rfl (Or.inl rfl) (by first | assumption | rfl) ?_
    rw [hH1.2.2.1]
    refine pE_icmp_ge (tgt := 70) dX4_settleLowest_9 (by decide) (fun h9 => ?_) (fun h9 => ?_)
    · have g9 := nq_le (by omega) (by omega) h9
      refine pE_vret dX4_settleLowest_70 rfl rfl ?_
      obtain ⟨k, k1, k2, k3⟩ := hex
      exact absurd k3 (hn k (by omega) k2)
    · have g9 := nq_nle (by omega) (by omega) h9
      refine pE_aload_n dX4_settleLowest_12 rfl rfl ?_
      refine pE_getR dX4_settleLowest_13 flX4_15 rfl (by first | assumption | rfl) (by first | assumption | rfl) ?_
      refine pE_iload dX4_settleLowest_16 rfl ?_
      refine pE_zaloadN dX4_settleLowest_18 (by first | assumption | rfl) (by first | assumption | omega) (by omega) ?_
      rw [hk i (by omega)]
      refine pE_if_ne (tgt := 64) dX4_settleLowest_19 (by decide) (fun h19 => ?_) (fun h19 => ?_)
      · have e19 : tk i = true := by
          cases e : tk i with
          | true => rfl
          | false => exact absurd (tkI.mpr e) h19
        refine pE_iincN (c0 := 1) (lc' := [_, _, _, _, some (.int _)]) dX4_settleLowest_64 rfl rfl rfl rfl ?_
        refine pE_goto (tgt := 3) dX4_settleLowest_67 (by decide) ?_
        first
        | (have _ := e19; have z := g52; refine ih (i + 1) _ (by omega) (by omega) (hx2.pu (Or.inl rfl)) (hk2.off e19) ((hg2.lo).o (by decide)) (fun k a b => ?_)
           by_cases c : k = i
           · rw [c]; omega
           · exact hn k (by omega) b)
        | (refine ih (i + 1) _ (by omega) (by omega) hx hk hg (fun k a b => ?_)
           by_cases c : k = i
           · rw [c, e19] at b; exact absurd b (by decide)
           · exact hn k (by omega) b)
      · have e19 := tkI.mp h19
        refine pE_aload_n dX4_settleLowest_22 rfl rfl ?_
        refine pE_getR dX4_settleLowest_23 flX4_15 rfl (by first | assumption | rfl) (by first | assumption | rfl) ?_
        refine pE_iload dX4_settleLowest_26 rfl ?_
        refine pE_iconst (v := nI 1) dX4_settleLowest_28 rfl ?_
        refine pE_zastoreN dX4_settleLowest_29 (by first | assumption | rfl) (by first | exact Or.inl nI_0 | exact Or.inr nI_1' | assumption) (by first | assumption | omega) (by omega) ?_
        refine pE_aload_n dX4_settleLowest_30 rfl rfl ?_
        refine pE_getR dX4_settleLowest_31 flX4_22 rfl (by first | assumption | rfl) (by first | assumption | rfl) ?_
        refine pE_iload_n dX4_settleLowest_34 rfl rfl ?_
        refine pE_aload_n dX4_settleLowest_35 rfl rfl ?_
        refine pE_getR dX4_settleLowest_36 flX4_9 rfl (by first | assumption | rfl) (by first | assumption | rfl) ?_
        refine pE_iload dX4_settleLowest_39 rfl ?_
        refine pE_ialoadN dX4_settleLowest_41 (by first | assumption | rfl) (by first | assumption | omega) (by omega) ?_
        rw [pu_ne I1 _ _ (show (63 : Nat) ≠ 64 by decide), (hs1 i (by omega)).1]
        refine pE_iastoreN dX4_settleLowest_42 (by first | assumption | rfl) (by first | assumption | omega) (by omega) ?_
        have hs0 := (hs i (by omega)).2
        have hx2 := (hx.pu (c := 64) (k := i) (x := nI 1) (Or.inl rfl)).pu (c := 66) (k := tt) (x := nI (s i)) (Or.inr rfl)
        have hH2 := hH.sT ht hx2.t
        have hk2 : kI (pu (pu I1 64 i (nI 1)) 66 tt (nI (s i))) (H 1) (tkS tk i) := hk.on.o (by decide)
        have hg2 : gI (pu (pu I1 64 i (nI 1)) 66 tt (nI (s i))) (tt + 1) (upT gv tt (s i)) := (hg.o (by decide)).put hs0
        have ho2 : ∀ p, p < H 1 → (pu (pu I1 64 i (nI 1)) 66 tt (nI (s i))) 65 p = nI (o p) ∧ o p < H 1 := fun p hp => by rw [hx2 65 p (by decide) (by decide)]; exact ho p hp
        have hs2 : ∀ p, p < H 1 → (pu (pu I1 64 i (nI 1)) 66 tt (nI (s i))) 63 p = nI (s p) ∧ s p ≤ 20 := fun p hp => by rw [hx2 63 p (by decide) (by decide)]; exact hs p hp
        have hdb : dS H (hL o (H 1)) s (upT gv tt (s i)) (tkS tk i) (tt + 1) ≤ 1599 := dC_b (fun a ha => by
            obtain ⟨z, hz, rfl⟩ := hL_mem.mp ha
            exact (hr.2.2.2.2 _ (by have := (ho z hz).2; omega)).2.2.2.1) (fun a _ ha => (hg2 a ha).2) (fun v hv => by
            obtain ⟨z, hz, _, rfl⟩ := rm_mem.mp hv
            exact (hs z hz).2)
        refine pE_aload_n dX4_settleLowest_43 rfl rfl ?_
        refine pE_aload_n dX4_settleLowest_44 rfl rfl ?_
        refine pE_iload_n dX4_settleLowest_45 rfl rfl ?_
        refine pE_iconst (v := nI 1) dX4_settleLowest_46 rfl ?_
        refine pE_iaddN dX4_settleLowest_47 ?_
        refine pE_callV (d' := 1) (as := [_, _]) dX4_settleLowest_48 lkX4_32 (cwX4_difference _ _) ivX4_difference ⟨_, rfl, rfl⟩ (by first | assumption | rfl) rfl rfl (Nat.le_of_ble_eq_true rfl) (by decide) pKK ?_
        refine M_X4_difference (gv := upT gv tt (s i)) (tk := tkS tk i) (o := o) (s := s) ht hH2 hr ho2 hs2 hk2 hg2 (by omega) (by omega) ?_
        rw [show dC (tt + 1) (upT gv tt (s i)) (fun a => H (32 + a)) (hL o (H 1)) (rmL s (tkS tk i) (H 1)) = dS H (hL o (H 1)) s (upT gv tt (s i)) (tkS tk i) (tt + 1) from rfl]
        refine pE_iload_n dX4_settleLowest_51 rfl rfl ?_
        refine pE_icmp_gt (tgt := 56) dX4_settleLowest_52 (by decide) (fun h52 => ?_) (fun h52 => ?_)
        · have g52 := nq_lt (by omega) (by omega) h52
          refine pE_aload_n dX4_settleLowest_56 rfl rfl ?_
          refine pE_getR dX4_settleLowest_57 flX4_15 rfl (by first | assumption | rfl) (by first | assumption | rfl) ?_
          refine pE_iload dX4_settleLowest_60 rfl ?_
          refine pE_iconst (v := nI 0) dX4_settleLowest_62 rfl ?_
          refine pE_zastoreN dX4_settleLowest_63 (by first | assumption | rfl) (by first | exact Or.inl nI_0 | exact Or.inr nI_1' | assumption) (by first | assumption | omega) (by omega) ?_
          refine pE_iincN (c0 := 1) (lc' := [_, _, _, _, some (.int _)]) dX4_settleLowest_64 rfl rfl rfl rfl ?_
          refine pE_goto (tgt := 3) dX4_settleLowest_67 (by decide) ?_
          first
          | (have _ := e19; have z := g52; refine ih (i + 1) _ (by omega) (by omega) (hx2.pu (Or.inl rfl)) (hk2.off e19) ((hg2.lo).o (by decide)) (fun k a b => ?_)
             by_cases c : k = i
             · rw [c]; omega
             · exact hn k (by omega) b)
          | (refine ih (i + 1) _ (by omega) (by omega) hx hk hg (fun k a b => ?_)
             by_cases c : k = i
             · rw [c, e19] at b; exact absurd b (by decide)
             · exact hn k (by omega) b)
        · have g52 := nq_nlt (by omega) (by omega) h52
          refine pE_vret dX4_settleLowest_55 rfl rfl ?_
          exact hq _ i hx2 (by omega) e19 g52 hn hk2 hg2
set_option maxHeartbeats 400000 in
set_option maxRecDepth 100000 in
theorem M_X4_settleLowest {l : Launch} {X : pX} {t g : Nat} {I : pHI} {J : pHJ} {Q : pQ} {H : pN} {o s gv : Nat → Nat} {tk : Nat → Bool} {tt least : Nat} (ht : isH t) (hH : cH t H I) (hr : rH H) (ho : ∀ p, p < H 1 → I 65 p = nI (o p) ∧ o p < H 1) (hs : ∀ p, p < H 1 → I 63 p = nI (s p) ∧ s p ≤ 20) (htt : tt < H 1) (hle : least ≤ 1599) (hex : ∃ i, i < H 1 ∧ tk i = false ∧ dS H (hL o (H 1)) s (upT gv tt (s i)) (tkS tk i) (tt + 1) ≤ least) (hq : ∀ I1 i, sl I I1 → i < H 1 → tk i = false → dS H (hL o (H 1)) s (upT gv tt (s i)) (tkS tk i) (tt + 1) ≤ least → (∀ k, k < i → tk k = false → ¬ dS H (hL o (H 1)) s (upT gv tt (s k)) (tkS tk k) (tt + 1) ≤ least) → kI I1 (H 1) (tkS tk i) → gI I1 (tt + 1) (upT gv tt (s i)) → Q none I1 J (pR t g)) (hk : kI I (H 1) tk) (hg : gI I tt gv) : pM l X yX4_settleLowest mX4_settleLowest 2 [.ref 62, .ref t, .int (nI tt), .int (nI least)] pK pK I J (pR t g) Q := by
  refine pM_of rfl (fun h => by cases h) rfl pKM (Nat.le_of_ble_eq_true rfl) ?_
  refine pE_iconst (v := nI 0) dX4_settleLowest_0 rfl ?_
  refine pE_istore (lc' := [_, _, _, _, some (.int _)]) dX4_settleLowest_1 (Nat.le_of_ble_eq_true rfl) rfl rfl ?_
  exact L_X4_settleL ht hH hr ho hs htt hle hex hq (H 1 + 1) 0 I (by omega) (by omega) sl.rf hk hg (fun k hk => absurd hk (by omega))
def sKL (I I1 : pHI) : Prop := ∀ c k, ¬ (63 ≤ c ∧ c ≤ 66) → c ≠ 45 → c ≠ 46 → I1 c k = I c k
theorem sKL.rf {I : pHI} : sKL I I := fun _ _ _ _ _ => rfl
theorem sKL.tr {I I1 I2 : pHI} (h1 : sKL I I1) (h2 : sKL I1 I2) : sKL I I2 := fun c k a b d => (h2 c k a b d).trans (h1 c k a b d)
theorem sT.k {I I1 : pHI} (h : sT I I1) : sKL I I1 := fun c k a _ _ => h c k a
theorem cH.sKL {H : pN} {t : Nat} {I I1 : pHI} (ht : isH t) (h : cH t H I) (hx : sKL I I1) : cH t H I1 := by
  have ho : t = 5 ∨ t = 19 := ht
  have n : ∀ d k, d ≤ 11 → I1 (t + d) k = I (t + d) k := fun d k hd => hx _ _ (by omega) (by omega) (by omega)
  have n0 : ∀ k, I1 t k = I t k := fun k => hx _ _ (by omega) (by omega) (by omega)
  obtain ⟨a, b, c, d, e, f⟩ := h
  exact ⟨by rw [n0]; exact a, by rw [n0]; exact b, by rw [n0]; exact c, by rw [n0]; exact d, by rw [n0]; exact e, fun j hj => by
    rw [n 1 _ (by omega), n 2 _ (by omega), n 3 _ (by omega), n 4 _ (by omega), n 5 _ (by omega)]
    exact f j hj⟩
set_option maxHeartbeats 400000 in
set_option maxRecDepth 100000 in
theorem L_X4_leastL {l : Launch} {X : pX} {t g : Nat} {I : pHI} {J : pHJ} {Q : pQ} {H : pN} {o s : Nat → Nat} {least : Nat} (ht : isH t) (hH : cH t H I) (hr : rH H) (h0 : 0 < H 1) (hc : lC H (hL o (H 1)) s) (hob : ∀ p, p < H 1 → o p < H 1) (hpm : (hL s (H 1)).Perm (hL (fun j => H (8 + j)) (H 1))) (hle : least ≤ 1599) (hl0 : least = dS H (hL o (H 1)) s (fun _ => 0) (fun _ => false) 0) (hq : ∀ I1 m V, sKL I I1 → cL 45 1 46 I1 (H 1) (fun i => nI (V.getD i 0)) → m ≤ 1599 → bT (hL (fun j => H (8 + j)) (H 1)) (uL H) m V → Q (some (.int (nI m))) I1 J (pR t g)) : ∀ (fu : Nat) (tt : Nat) (gv : Nat → Nat) (tk : Nat → Bool) (I1 : pHI), H 1 - tt < fu → (tt ≤ H 1) → (sKL I I1) → (kI I1 (H 1) tk) → (gI I1 tt gv) → (cL 45 1 46 I1 tt (fun i => nI (gv i))) → (lI H (hL o (H 1)) s gv tk least tt) → (∀ p, p < H 1 → I1 65 p = nI (o p) ∧ o p < H 1) → (∀ p, p < H 1 → I1 63 p = nI (s p) ∧ s p ≤ 20) → pE l X mX4_leastDifference 3 pK 20 [some (.ref 62), some (.ref t), some (.ref 45), some (.int (nI least)), some (.int (nI tt))] [] pK I1 J (pR t g) Q := by
  obtain ⟨fHFht0, fHFht1, fHFht2, fHFht3, fHFht4, fHFht5, fHFht6, fHFht7, fHFht8, fHFht9, fHFht10, fHFht11, fHFht12, fHFht13, fHFht14, fHFht15, fHFht16, fHFht17, fHFht18, fHFht19, fHFht20, fHFht21, fHFht22, fHFht23, fHFht24, fHFht25, fHFht26⟩ := HF t g ht
  intro fu
  induction fu with
  | zero => intro tt gv tk I1 hn; exact absurd hn (Nat.not_lt_zero _)
  | succ fu ih =>
    intro tt gv tk I1 hn hi hx hk hg hy hv ho hs
    have hn8 := hr.2.1
    have hH1 := hH.sKL ht hx
    refine pE_iload dX4_leastDifference_20 rfl ?_
    refine pE_aload_n dX4_leastDifference_22 rfl rfl ?_
    refine pE_getI dX4_leastDifference_23 flX4_36 rfl (Or.inl rfl) (by first | assumption | rfl) ?_
    rw [hH1.2.2.1]
    refine pE_icmp_ge (tgt := 54) dX4_leastDifference_26 (by decide) (fun h26 => ?_) (fun h26 => ?_)
    · have g26 := nq_le (by omega) (by omega) h26
      refine pE_iload_n dX4_leastDifference_54 rfl rfl ?_
      refine pE_iret dX4_leastDifference_55 rfl rfl ?_
      obtain rfl : tt = H 1 := by omega
      subst hl0
      exact hq I1 _ (hL gv (H 1)) hx (cL_cg hy (fun i hi => by rw [hL_getD hi])) hle (bT_pm hpm (lI_end hc h0 hv))
    · have g26 := nq_nle (by omega) (by omega) h26
      refine pE_aload_n dX4_leastDifference_29 rfl rfl ?_
      refine pE_aload_n dX4_leastDifference_30 rfl rfl ?_
      refine pE_iload dX4_leastDifference_31 rfl ?_
      refine pE_iload_n dX4_leastDifference_33 rfl rfl ?_
      refine pE_callV (d' := 2) (as := [_, _, _]) dX4_leastDifference_34 lkX4_42 (cwX4_settleLowest _ _) ivX4_settleLowest ⟨_, rfl, rfl⟩ (by first | assumption | rfl) rfl rfl (Nat.le_of_ble_eq_true rfl) (by decide) pKK ?_
      refine M_X4_settleLowest (gv := gv) (tk := tk) (o := o) (s := s) (least := least) (tt := tt) ht hH1 hr ho hs (by omega) hle (lI_ex hc (by omega) hv) (fun I2 i x1 x2 x3 x4 x5 x6 x7 => ?_) hk hg
      refine pE_aload_n dX4_leastDifference_37 rfl rfl ?_
      refine pE_aload_n dX4_leastDifference_38 rfl rfl ?_
      refine pE_getR dX4_leastDifference_39 flX4_22 rfl (by first | assumption | rfl) (by first | assumption | rfl) ?_
      refine pE_iload dX4_leastDifference_42 rfl ?_
      refine pE_ialoadN dX4_leastDifference_44 (by first | assumption | rfl) (by first | assumption | omega) (by omega) ?_
      rw [(x7 tt (by omega)).1, upT_at]
      refine pE_callV (d' := 0) (as := [_]) dX4_leastDifference_45 lkX4_46 (cwX5_lay _ _) ivX5_lay ⟨_, rfl, rfl⟩ (by first | assumption | rfl) rfl rfl (Nat.le_of_ble_eq_true rfl) (by decide) pKK ?_
      refine M_X5_lay (n := tt) (L := fun i => nI (gv i)) ⟨by rw [x1 45 1 (by decide) (by decide)]; exact hy.1, by omega, fun j hj => by rw [x1 46 j (by decide) (by decide)]; exact hy.2.2 j hj⟩ (by omega) (fun I3 y1 y2 => ?_)
      refine pE_iincN (c0 := 1) (lc' := [_, _, _, _, some (.int _)]) dX4_leastDifference_48 rfl rfl rfl rfl ?_
      refine pE_goto (tgt := 20) dX4_leastDifference_51 (by decide) ?_
      refine ih (tt + 1) (upT gv tt (s i)) (tkS tk i) I3 (by omega) (by omega) ((hx.tr x1.t.k).tr (fun c k _ a b => y1 c k a b)) (fun p hp => by rw [y1 64 p (by decide) (by decide)]; exact x6 p hp) (fun p hp => by rw [y1 66 p (by decide) (by decide)]; exact x7 p hp) (cL_cg y2 (fun z hz => ?_)) (lI_st hc (by omega) hv x2 x3 x4 x5) (fun p hp => by rw [y1 65 p (by decide) (by decide), x1 65 p (by decide) (by decide)]; exact ho p hp) (fun p hp => by rw [y1 63 p (by decide) (by decide), x1 63 p (by decide) (by decide)]; exact hs p hp)
      unfold upT
      by_cases c : z = tt
      · rw [if_pos c, if_pos c]
      · rw [if_neg c, if_neg c]
set_option maxHeartbeats 400000 in
set_option maxRecDepth 100000 in
theorem M_X4_leastDifference {l : Launch} {X : pX} {t g : Nat} {I : pHI} {J : pHJ} {Q : pQ} {H : pN} {L0 : Nat → Int32} (ht : isH t) (hH : cH t H I) (hr : rH H) (h0 : 0 < H 1) (hy : cL 45 1 46 I 0 L0) (hq : ∀ I1 m V, sKL I I1 → cL 45 1 46 I1 (H 1) (fun i => nI (V.getD i 0)) → m ≤ 1599 → bT (hL (fun j => H (8 + j)) (H 1)) (uL H) m V → Q (some (.int (nI m))) I1 J (pR t g)) : pM l X yX4_leastDifference mX4_leastDifference 3 [.ref 62, .ref t, .ref 45] pK pK I J (pR t g) Q := by
  obtain ⟨fHFht0, fHFht1, fHFht2, fHFht3, fHFht4, fHFht5, fHFht6, fHFht7, fHFht8, fHFht9, fHFht10, fHFht11, fHFht12, fHFht13, fHFht14, fHFht15, fHFht16, fHFht17, fHFht18, fHFht19, fHFht20, fHFht21, fHFht22, fHFht23, fHFht24, fHFht25, fHFht26⟩ := HF t g ht
  have hn8 := hr.2.1
  refine pM_of rfl (fun h => by cases h) rfl pKM (Nat.le_of_ble_eq_true rfl) ?_
  refine pE_aload_n dX4_leastDifference_0 rfl rfl ?_
  refine pE_aload_n dX4_leastDifference_1 rfl rfl ?_
  refine pE_callV (d' := 0) (as := [_]) dX4_leastDifference_2 lkX4_25 (cwX4_sortStoreys _ _) ivX4_sortStoreys ⟨_, rfl, rfl⟩ (by first | assumption | rfl) rfl rfl (Nat.le_of_ble_eq_true rfl) (by decide) pKK ?_
  refine M_X4_sortStoreys (H := H) ht hH hr (fun I2 s x1 x2 x3 x4 x5 x6 => ?_)
  refine pE_aload_n dX4_leastDifference_5 rfl rfl ?_
  refine pE_aload_n dX4_leastDifference_6 rfl rfl ?_
  refine pE_callV (d' := 0) (as := [_]) dX4_leastDifference_7 lkX4_29 (cwX4_sortTenants _ _) ivX4_sortTenants ⟨_, rfl, rfl⟩ (by first | assumption | rfl) rfl rfl (Nat.le_of_ble_eq_true rfl) (by decide) pKK ?_
  refine M_X4_sortTenants (H := H) ht (hH.sT ht x1) hr (fun I3 o y1 y2 y3 y4 y5 y6 => ?_)
  have hs3 : ∀ p, p < H 1 → I3 63 p = nI (s p) ∧ s p ≤ 20 := fun p hp => by rw [y2 63 p (by decide)]; exact ⟨x2 p hp, x6 p hp⟩
  have hk3 : kI I3 (H 1) (fun _ => false) := fun p hp => by rw [y2 64 p (by decide)]; exact x3 p hp
  have hdb : dS H (hL o (H 1)) s (fun _ => 0) (fun _ => false) 0 ≤ 1599 := dC_b (fun a ha => by
      obtain ⟨z, hz, rfl⟩ := hL_mem.mp ha
      exact (hr.2.2.2.2 _ (by have := y6 z hz; omega)).2.2.2.1) (fun a _ ha => absurd ha (by omega)) (fun v hv => by
      obtain ⟨z, hz, _, rfl⟩ := rm_mem.mp hv
      exact x6 z hz)
  have hc : lC H (hL o (H 1)) s := ⟨y5, hL_pf (f := fun a => H (32 + a)) y4, x4, x6, fun i hi => (hr.2.2.2.2 i (by omega)).2.2.2.1⟩
  refine pE_aload_n dX4_leastDifference_10 rfl rfl ?_
  refine pE_aload_n dX4_leastDifference_11 rfl rfl ?_
  refine pE_iconst (v := nI 0) dX4_leastDifference_12 rfl ?_
  refine pE_callV (d' := 1) (as := [_, _]) dX4_leastDifference_13 lkX4_32 (cwX4_difference _ _) ivX4_difference ⟨_, rfl, rfl⟩ (by first | assumption | rfl) rfl rfl (Nat.le_of_ble_eq_true rfl) (by decide) pKK ?_
  refine M_X4_difference (gv := fun _ => 0) (tk := fun _ => false) (o := o) (s := s) (tt := 0) ht ((hH.sT ht x1).sT ht y1) hr (fun p hp => ⟨y3 p hp, y6 p hp⟩) hs3 hk3 (fun p hp => absurd hp (by omega)) (by omega) h0 ?_
  rw [show dC 0 (fun _ => 0) (fun a => H (32 + a)) (hL o (H 1)) (rmL s (fun _ => false) (H 1)) = dS H (hL o (H 1)) s (fun _ => 0) (fun _ => false) 0 from rfl]
  refine pE_istore_n (lc' := [_, _, _, some (.int _), _]) dX4_leastDifference_16 rfl (Nat.le_of_ble_eq_true rfl) rfl rfl ?_
  refine pE_iconst (v := nI 0) dX4_leastDifference_17 rfl ?_
  refine pE_istore (lc' := [_, _, _, _, some (.int _)]) dX4_leastDifference_18 (Nat.le_of_ble_eq_true rfl) rfl rfl ?_
  have hxk := (x1.tr y1).k
  exact L_X4_leastL ht hH hr h0 hc y6 x5 hdb rfl hq (H 1 + 1) 0 (fun _ => 0) (fun _ => false) I3 (by omega) (by omega) hxk hk3 (fun p hp => absurd hp (by omega)) ⟨by rw [(x1.tr y1) 45 1 (by decide)]; exact hy.1, by omega, fun i hi => absurd hi (by omega)⟩ lI_0 (fun p hp => ⟨y3 p hp, y6 p hp⟩) hs3
set_option maxHeartbeats 400000 in
set_option maxRecDepth 100000 in
theorem M_X11_let {l : Launch} {X : pX} {t g : Nat} {I : pHI} {J : pHJ} {Q : pQ} {H : pN} (ht : isH t) (hH : cH t H I) (hr : rH H) (h1 : H 1 = 0 → Q (some (.int (-1))) (pu I 45 1 (nI 0)) J (pR t g)) (hq : 0 < H 1 → ∀ I1 m V, sKL I I1 → cL 45 1 46 I1 (H 1) (fun i => nI (V.getD i 0)) → m ≤ 1599 → bT (hL (fun j => H (8 + j)) (H 1)) (uL H) m V → Q (some (.int (nI m))) I1 J (pR t g)) : pM l X yX11_let mX11_let 4 [.ref 0] pK pK I J (pR t g) Q := by
  obtain ⟨fHFht0, fHFht1, fHFht2, fHFht3, fHFht4, fHFht5, fHFht6, fHFht7, fHFht8, fHFht9, fHFht10, fHFht11, fHFht12, fHFht13, fHFht14, fHFht15, fHFht16, fHFht17, fHFht18, fHFht19, fHFht20, fHFht21, fHFht22, fHFht23, fHFht24, fHFht25, fHFht26⟩ := HF t g ht
  have hn8 := hr.2.1
  have hxc : sKL I (pu I 45 1 (nI 0)) := fun c k _ a _ => by rw [pu_ne _ _ _ a]
  have hHc := hH.sKL ht hxc
  refine pM_of rfl (fun h => by cases h) rfl pKM (Nat.le_of_ble_eq_true rfl) ?_
  refine pE_aload_n dX11_let_0 rfl rfl ?_
  refine pE_getR dX11_let_1 flX11_56 rfl (by first | assumption | rfl) (by first | assumption | rfl) ?_
  refine pE_callV (d' := 0) (as := []) dX11_let_4 lkX11_109 (cwX5_clear _ _) ivX5_clear ⟨_, rfl, rfl⟩ (by first | assumption | rfl) rfl rfl (Nat.le_of_ble_eq_true rfl) (by decide) pKK ?_
  refine M_X5_clear ?_
  refine pE_aload_n dX11_let_7 rfl rfl ?_
  refine pE_getR dX11_let_8 flX11_29 rfl (by first | assumption | rfl) (by first | assumption | rfl) ?_
  refine pE_getI dX11_let_11 flX11_110 rfl (Or.inl rfl) (by first | assumption | rfl) ?_
  rw [hHc.2.2.1]
  refine pE_if_ne (tgt := 19) dX11_let_14 (by decide) (fun h14 => ?_) (fun h14 => ?_)
  · have g14 := nq_ne0 (by omega) h14
    refine pE_aload_n dX11_let_19 rfl rfl ?_
    refine pE_getR dX11_let_20 flX11_84 rfl (by first | assumption | rfl) (by first | assumption | rfl) ?_
    refine pE_aload_n dX11_let_23 rfl rfl ?_
    refine pE_getR dX11_let_24 flX11_29 rfl (by first | assumption | rfl) (by first | assumption | rfl) ?_
    refine pE_aload_n dX11_let_27 rfl rfl ?_
    refine pE_getR dX11_let_28 flX11_56 rfl (by first | assumption | rfl) (by first | assumption | rfl) ?_
    refine pE_callV (d' := 3) (as := [_, _]) dX11_let_31 lkX11_281 (cwX4_leastDifference _ _) ivX4_leastDifference ⟨_, rfl, rfl⟩ (by first | assumption | rfl) rfl rfl (Nat.le_of_ble_eq_true rfl) (by decide) pKK ?_
    refine M_X4_leastDifference (H := H) (L0 := fun _ => 0) ht hHc hr g14 ⟨by rw [pu_at, if_pos ⟨rfl, rfl⟩], by omega, fun i hi => absurd hi (by omega)⟩ (fun I1 m V z1 z2 z3 z4 => ?_)
    refine pE_iret dX11_let_34 rfl rfl ?_
    exact hq g14 I1 m V (hxc.tr z1) z2 z3 z4
  · have g14 := nq_eq0 (by omega) h14
    refine pE_iconst (v := -1) dX11_let_17 rfl ?_
    refine pE_iret dX11_let_18 rfl rfl ?_
    exact h1 g14
