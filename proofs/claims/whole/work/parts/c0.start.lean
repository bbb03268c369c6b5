/-! THE CLAIM OUT OF ONE WALK OF THE LAW'S BODY. Your part is whole_start (and what it stands on); all else here is the same for every law, but numbers. -/
def R_law : String := "SoManyStairsLaw"
def lw_P (b : Addr) (xs : List Int32) (args : Array Value) (s : State) : Prop := args = #[.ref b] ∧ s.IntsAt b xs ∧ xs.length ≤ 3072 ∧ (Jvm.Cond.and given_1 narrow_1).before args s = true
def lw_Q (_ : Array Value) (s : State) (o : Outcome) (t : State) : Prop := o = .returned (some (.int 1)) ∧ Framed s o t [] 600000 7302250
def lw_Z (below : List Frame) (a : Array Value) (s : State) : State → Prop := fun t => ∃ o, t.status = .running ∧ Ended t below o ∧ lw_Q a s o t
/-- the law's own end, with 1 on the stack, nothing written that was there before, its room as the claim has it -/
theorem lw_ret {p : Program} {l : Launch} {e : Env} {s : State} {m : MethodId} {below : List Frame} {meth : Method} {c : Code} {b : Nat} (hx : p.tables.exec = Jvm.exec) (hb : c.code = code) (hr : meth.sig.returnType = ret) (hlocks : meth.locks = false) {pc : Nat} {H : Heap} {ls : Array Slot} (hdg : decode code pc = .ok (.ireturn, 1)) : W p l e room_1 s m #[Value.ref b] below meth c H [] 600000 7302250 (lw_Z below #[Value.ref b] s) (F0 m pc ls [.int 1]) := by
  intro T hT X
  obtain ⟨fs, hret, hrun, hended, hW, hframe⟩ := X.leave (v := some (.int 1)) (hlocks := hlocks) (fun h => by rw [hr] at h; cases h)
  have hmeth' : T.vm.method? m = some meth := X.method'
  refine ⟨T.setFrames fs, ?_, .returned (some (.int 1)), hrun, hended, rfl, ⟨_, rfl⟩, hW, hframe⟩
  jvm_step X.here [X.here.top, hx, hb, hdg, hmeth', hr, ret, narrow_b1]
  (try refine ⟨rfl, ?_⟩); (try refine ⟨rfl, ?_⟩)
  first | (intro acts; rw [hret _ acts rfl rfl rfl]) | rw [hret _ _ rfl rfl rfl]
  exact Steps.refl _
/-- what holds at the law's entry: the machine, the code, the tables' words (any of lw_tbl by 'hts w (by decide +kernel)'), the script of L ints xs at the cell b, what the Statement gives of the start (any of its parts by flat_of_before) -/
def lw_At (p : Program) (s : State) (m : MethodId) (meth : Method) (c : Code) (b L : Nat) (xs : Nat → Int32) : Prop :=
  p.tables.exec = Jvm.exec ∧ c.code = code ∧ meth.sig.returnType = ret ∧ c.maxLocals = 4 ∧ s.vm.findClass R_law = some m.cls ∧ (∀ w ∈ lw_tbl, w.before #[Value.ref b] s = true) ∧ va_X b L xs s s.heap ∧ b < s.heap.size ∧ meth.locks = false ∧ (Jvm.Cond.and given_1 narrow_1).before #[Value.ref b] s = true
def srQ (i : Nat) : String × Nat × String := pSR.getD i ("", 0, "")
def tmS (i : Nat) : Term := .string (srQ i).1 (srQ i).2.1
def tmV (i : Nat) : Term := .field (tmS i) "java/lang/String" "value" "[B"
def nPos : List Nat := [9, 24, 36, 46, 59, 161, 172, 188, 204, 220, 238, 258, 276, 297, 318, 343, 365, 387, 413]
def nar : List Cond := flatC (Jvm.Cond.and given_1 narrow_1)
theorem srIn : ∀ i, i < 19 → Cond.stringRef (srQ i).1 (srQ i).2.1 (srQ i).2.2 ∈ lw_tbl := by decide +kernel
theorem nEx : ∀ i, i < 19 → nar[nPos.getD i 0]? = some (Cond.exactly (tmS i) "java/lang/String") := by decide +kernel
theorem nCo : ∀ i, i < 19 → nar[nPos.getD i 0 + 1]? = some (Cond.eq (.field (tmS i) "java/lang/String" "coder" "B") (.int 0)) := by decide +kernel
theorem nAr : ∀ i, i < 19 → nar[nPos.getD i 0 + 2]? = some (Cond.arrayOf (tmV i) .byte) := by decide +kernel
theorem nLe : ∀ i, i < 19 → nar[nPos.getD i 0 + 3]? = some (Cond.eq (.length (tmV i)) (.int (Int32.ofNat (pLen.getD i 0)))) := by decide +kernel
theorem nEl : ∀ i, i < 19 → ∀ j, j < pLen.getD i 0 → nar[nPos.getD i 0 + 4 + j]? = some (Cond.eq (.elem (tmV i) (.int (Int32.ofNat j))) (.int ((pByt.getD i []).getD j 0))) := by decide +kernel
theorem nNe : ∀ i, i < 19 → ∀ k, k < i → nar[nPos.getD i 0 + 4 + pLen.getD i 0 + k]? = some (Cond.not (Cond.eq (tmS k) (tmS i))) := by decide +kernel
theorem nCs : nar[4]? = some (Cond.eq (.static "java/lang/String" "COMPACT_STRINGS" "Z") (.int 1)) := by decide +kernel
theorem nFm : nar[5]? = some (Cond.isRef (.static "jdk/internal/util/Preconditions" "SIOOBE_FORMATTER" "Ljava/util/function/BiFunction;")) := by decide +kernel
theorem ws_str {s : State} {args : Array Value} {A : Nat → Prop} (hs : ∀ c ∈ nar, c.before args s = true) (hA : ∀ a : Nat, a < s.heap.size → ¬ A a) : ∃ adK adV : Nat → Nat, vk_S 19 pLen pByt adK adV A s s.heap ∧ ∀ i : Nat, i < 19 → (tmS i).eval args s none [] s = some (.ref (adK i)) := by
  refine vk_Sof (N := 19) (tm := tmS) (fun i hi => ?_) (fun i hi => hs _ (List.mem_of_getElem? (nEx i hi))) (fun i hi => hs _ (List.mem_of_getElem? (nCo i hi))) (fun i hi => hs _ (List.mem_of_getElem? (nAr i hi))) (fun i hi => hs _ (List.mem_of_getElem? (nLe i hi))) (fun i hi j hj => hs _ (List.mem_of_getElem? (nEl i hi j hj))) (fun i j hi hj hij => ?_) hA
  · have := sl_ok i hi
    omega
  · rcases Nat.lt_or_gt_of_ne hij with h | h
    · exact Or.inl (hs _ (List.mem_of_getElem? (nNe j hj i h)))
    · exact Or.inr (hs _ (List.mem_of_getElem? (nNe i hi j h)))
theorem ws_arr {s : State} {args : Array Value} {ty : FieldType} (h : (Cond.arrayClass ty).before args s = true) : ∃ cA, s.vm.findClass ("[" ++ ty.toString) = some cA ∧ ArrOfT s cA ty := by
  obtain ⟨cA, kA, comp, hf, hk, hkind⟩ := Cond.arrayClass_spec h
  exact ⟨cA, hf, fun n z => ⟨fun k h => (by cases h), kA, hk, comp, hkind⟩⟩
theorem ws_known {s : State} {args : Array Value} (hT : ∀ w ∈ pTb, w.before args s = true) : ∃ (dC : Nat → ClassId) (dI : Nat → Nat → Nat) (cA : Nat → ClassId), va_K (dC, dI) vwCl (pTy cA) s := by
  obtain ⟨c0, i0, k0⟩ := u_known (C := RX0) (T := TX0) (N := 14) (n := 14) hT gX0 (hT _ (pT1_2 63 rfl rfl))
  obtain ⟨c1, i1, k1⟩ := u_known (C := RX1) (T := TX1) (N := 5) (n := 5) hT gX1 (hT _ (pT1_1 108 rfl rfl))
  obtain ⟨c2, i2, k2⟩ := u_known (C := RX2) (T := TX2) (N := 12) (n := 12) hT gX2 (hT _ (pT1_1 102 rfl rfl))
  obtain ⟨c3, i3, k3⟩ := u_known (C := RX3) (T := TX3) (N := 6) (n := 6) hT gX3 (hT _ (pT1_2 21 rfl rfl))
  obtain ⟨c4, i4, k4⟩ := u_known (C := RX4) (T := TX4) (N := 4) (n := 4) hT gX4 (hT _ (pT1_2 157 rfl rfl))
  obtain ⟨c5, i5, k5⟩ := u_known (C := RX5) (T := TX5) (N := 2) (n := 2) hT gX5 (hT _ (pT1_2 49 rfl rfl))
  obtain ⟨c6, i6, k6⟩ := u_known (C := RX6) (T := TX6) (N := 5) (n := 5) hT gX6 (hT _ (pT1_2 116 rfl rfl))
  obtain ⟨c7, i7, k7⟩ := u_known (C := RX7) (T := TX7) (N := 4) (n := 4) hT gX7 (hT _ (pT1_2 138 rfl rfl))
  obtain ⟨c8, i8, k8⟩ := u_known (C := RX8) (T := TX8) (N := 8) (n := 8) hT gX8 (hT _ (pT1_1 31 rfl rfl))
  obtain ⟨c9, i9, k9⟩ := u_known (C := RX9) (T := TX9) (N := 7) (n := 7) hT gX9 (hT _ (pT1_1 216 rfl rfl))
  obtain ⟨c10, i10, k10⟩ := u_known (C := RX10) (T := TX10) (N := 8) (n := 8) hT gX10 (hT _ (pT1_1 37 rfl rfl))
  obtain ⟨c11, i11, k11⟩ := u_known (C := RX11) (T := TX11) (N := 13) (n := 13) hT gX11 (hT _ (pT1_1 23 rfl rfl))
  obtain ⟨c12, i12, k12⟩ := u_known (C := RX12) (T := TX12) (N := 69) (n := 69) hT gX12 (hT _ (pT1_6 98 rfl rfl))
  obtain ⟨a0, e0, r0⟩ := ws_arr (hT (Cond.arrayClass .int) (pT1_1 129 rfl rfl))
  obtain ⟨a1, e1, r1⟩ := ws_arr (hT (Cond.arrayClass .long) (pT1_1 73 rfl rfl))
  obtain ⟨a2, e2, r2⟩ := ws_arr (hT (Cond.arrayClass .byte) (pT1_1 72 rfl rfl))
  obtain ⟨a3, e3, r3⟩ := ws_arr (hT (Cond.arrayClass .boolean) (pT1_2 47 rfl rfl))
  refine ⟨fun k => [c0, c1, c2, c3, c4, c5, c6, c7, c8, c9, c10, c11, c12].getD k c0, fun k => [i0, i1, i2, i3, i4, i5, i6, i7, i8, i9, i10, i11, i12].getD k i0, fun k => [a0, a1, a2, a3].getD k a0, ?_, ?_⟩
  · intro c q hq
    match c, hq with
    | 0, hq => cases hq; exact k0
    | 1, hq => cases hq; exact k1
    | 2, hq => cases hq; exact k2
    | 3, hq => cases hq; exact k3
    | 4, hq => cases hq; exact k4
    | 5, hq => cases hq; exact k5
    | 6, hq => cases hq; exact k6
    | 7, hq => cases hq; exact k7
    | 8, hq => cases hq; exact k8
    | 9, hq => cases hq; exact k9
    | 10, hq => cases hq; exact k10
    | 11, hq => cases hq; exact k11
    | 12, hq => cases hq; exact k12
    | k + 13, hq => simp [vwCl] at hq
  · intro k q hq
    match k, hq with
    | 0, hq => cases hq; exact ⟨r0, e0⟩
    | 1, hq => cases hq; exact ⟨r1, e1⟩
    | 2, hq => cases hq; exact ⟨r2, e2⟩
    | 3, hq => cases hq; exact ⟨r3, e3⟩
    | k + 4, hq => simp [pTy] at hq
theorem ws_ad (sz b t : Nat) (adK adV : Nat → Nat) : ∃ ad : Nat → Nat, (∀ i, i < 1000000 → ad i = sz + i) ∧ ad 2000000 = b ∧ ad 2000001 = t ∧ (∀ i, i < 19 → ad (1000000 + 2 * i) = adK i) ∧ ∀ i, i < 19 → ad (1000001 + 2 * i) = adV i := by
  refine ⟨fun n => if n < 1000000 then sz + n else if n = 2000000 then b else if n = 2000001 then t else if n % 2 = 0 then adK ((n - 1000000) / 2) else adV ((n - 1000001) / 2), fun i hi => if_pos hi, rfl, rfl, fun i hi => ?_, fun i hi => ?_⟩
  · show (if 1000000 + 2 * i < 1000000 then _ else _) = _
    rw [if_neg (by omega), if_neg (by omega), if_neg (by omega), if_pos (by omega)]
    congr 1
    omega
  · show (if 1000001 + 2 * i < 1000000 then _ else _) = _
    rw [if_neg (by omega), if_neg (by omega), if_neg (by omega), if_neg (by omega)]
    congr 1
    omega
theorem ws_pst {s : State} {args : Array Value} {b L : Nat} {xs : Nat → Int32} (hs : ∀ c ∈ nar, c.before args s = true) (hts : ∀ w ∈ lw_tbl, w.before args s = true) (hX : va_X b L xs s s.heap) (hbl : b < s.heap.size) : ∃ ad : Nat → Nat, (∀ i, i < 1000000 → ad i = s.heap.size + i) ∧ ad 2000000 = b ∧ pSt (L, xs) ad s.heap.size s s.heap := by
  have hA : ∀ a : Nat, a < s.heap.size → ¬ pG s.heap.size a := fun a h g => absurd h (Nat.not_lt.mpr g)
  obtain ⟨adK, adV, hS, he⟩ := ws_str (A := pG s.heap.size) hs hA
  have hq := va_Zqof (A := pG s.heap.size) (hts (.laysStatic "jdk/internal/util/Preconditions" "SIOOBE_FORMATTER" "Ljava/util/function/BiFunction;") (by decide +kernel)) (hts (.initialized "jdk/internal/util/Preconditions") (by decide +kernel)) (hs _ (List.mem_of_getElem? nFm)) hA
  have hc := va_Zof (A := pG s.heap.size) (hts (.laysStatic "java/lang/String" "COMPACT_STRINGS" "Z") (by decide +kernel)) (hts (.initialized "java/lang/String") (by decide +kernel)) (va_eqi (hs _ (List.mem_of_getElem? nCs))) hA
  obtain ⟨t, hZ⟩ : ∃ t : Nat, va_Z "jdk/internal/util/Preconditions" "SIOOBE_FORMATTER" "Ljava/util/function/BiFunction;" .null (pG s.heap.size) s s.heap ∨ va_Z "jdk/internal/util/Preconditions" "SIOOBE_FORMATTER" "Ljava/util/function/BiFunction;" (.ref t) (pG s.heap.size) s s.heap := by
    rcases hq with h | ⟨t, h⟩
    · exact ⟨0, Or.inl h⟩
    · exact ⟨t, Or.inr h⟩
  obtain ⟨ad, a1, a2, a3, a4, a5⟩ := ws_ad s.heap.size b t adK adV
  refine ⟨ad, a1, a2, ⟨fun i hi => ?_, fun i j hi hj e => ?_⟩, fun i q hi => ?_, ⟨⟨hc, ?_⟩, fun w hw => pNb_of hw (hts w (List.mem_filter.mp hw).1)⟩, ?_, ?_⟩
  · have h := hS.1 i hi
    rw [← a4 i hi, ← a5 i hi] at h
    exact h
  · have e' : ad (1000000 + 2 * i) = ad (1000000 + 2 * j) := e
    rw [a4 i hi, a4 j hj] at e'
    exact hS.2 i j hi hj e'
  · have hi' : i < 19 := (List.getElem?_eq_some_iff.mp hi).1
    have e : srQ i = q := by
      unfold srQ
      rw [List.getD_eq_getElem?_getD, hi]
      rfl
    subst e
    rw [a4 i hi']
    exact vk_R.of (A := args) (hts _ (srIn i hi')) (he i hi')
  · rw [a3]; exact hZ
  · rw [a2]; exact hX
  · rw [a2]; exact hbl
set_option maxHeartbeats 4000000 in
set_option maxRecDepth 100000 in
theorem whole_start {p : Program} {e : Env} {s : State} {m : MethodId} {below : List Frame} {meth : Method} {c : Code} (l : Launch) (hflags : l.flags = flags0) {b L : Nat} {xs : Nat → Int32} (hL : L ≤ 3072) (C0 : lw_At p s m meth c b L xs) : W p l e room_1 s m #[Value.ref b] below meth c s.heap [] 0 0 (lw_Z below #[Value.ref b] s) (entryFrame m ([Value.ref b] : List Value).toArray 4) := by
  obtain ⟨hx, hb, hr, hml, hown, hts, hX, hbl, hlocks, hgv⟩ := id C0
  have hT : ∀ w ∈ pTb, w.before #[Value.ref b] s = true := fun w hw => hts w (List.mem_filter.mp hw).1
  obtain ⟨dC, dI, cA, hK⟩ := ws_known hT
  obtain ⟨ad, had, hb2, hSt⟩ := ws_pst (flat_of_before _ hgv) hts hX hbl
  have hpE := L_whole (l := l) (X := (L, xs)) (Q := fun rv _ _ _ => rv = some (.int (nI 1))) hL (fun _ _ _ => rfl)
  have hls := pLs_entry (ad := ad) (as := [.ref 2000000]) (n := 4) (by decide)
  have hm : [Value.ref 2000000].map (trv ad) = [Value.ref b] := by
    show [Value.ref (ad 2000000)] = _
    rw [hb2]
  rw [hm] at hls
  rw [lg_entry_eq]
  refine hpE dC dI ad s.heap.size cA p _ room_1 s m #[Value.ref b] below meth c 0 0 _ ⟨⟨hx, hb, hml, hr, hlocks, hown, fun g => by cases g⟩, ⟨hT, hK, hSt, rfl, had⟩, (by decide), (by decide), (by decide +kernel), (by decide +kernel)⟩ (fun pc' ls' rv I' J' R' H' locs' cells' slots' hat hq hw h1 h2 => ?_) s.heap [] 0 0 _ ⟨fun k q h => by simp [pW] at h, ⟨fun i j p q h => by simp [pW] at h, fun k q h => by simp [pW] at h⟩, va_S.rf, by decide⟩ rfl rfl hls
  have hq' : rv = some (.int (nI 1)) := hq
  subst hq'
  have e1 : (pK.take 109).length = 109 := by decide +kernel
  have e2 : pSz (pK.take 109) ≤ 7302250 := by decide +kernel
  refine va_forget (fun q hq => hw.2.2.1.2.2 q hq) ?_
  refine W.widen (k := 600000) (n := 7302250) (by omega) (by omega) ?_
  show W p l _ room_1 s m #[Value.ref b] below meth c H' [] 600000 7302250 (lw_Z below #[Value.ref b] s) (F0 m pc' ls' [.int (nI 1)])
  rw [nI_1']
  exact lw_ret hx hb hr hlocks hat.1
