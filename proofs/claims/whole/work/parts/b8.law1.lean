abbrev mL_law : pMd := (RL, cL_law, 4, ret, false)
theorem pE_sw {l : Launch} {X : pX} {md : pMd} {d : Nat} {K1 : List pS} {pc : Nat} {lc : pLc} {st : List Value} {K : List pS} {I : pHI} {J : pHJ} {R R' : pHR} {Q : pQ} (h : ∀ i ci k, K[i]? = some (.inl ci) → (pk ci)[k]? = some 2 → R i k = R' i k) (k : pE l X md d K1 pc lc st K I J R' Q) : pE l X md d K1 pc lc st K I J R Q := by
  intro dC dI ad base cA p e Rm s m args below meth c n0 z0 Z hC hr H locs cells slots ls hW h1 h2 hL
  have e : pW cA ad K I J R = pW cA ad K I J R' := by
    refine List.ext_getElem? (fun i => ?_)
    unfold pW
    rw [List.getElem?_mapIdx, List.getElem?_mapIdx]
    cases hK : K[i]? with
    | none => rfl
    | some sh =>
      cases sh with
      | inr q => rfl
      | inl ci =>
        have ef : pFs ad I J R i ci = pFs ad I J R' i ci := by
          refine List.ext_getElem? (fun k => ?_)
          unfold pFs
          rw [List.getElem?_mapIdx, List.getElem?_mapIdx]
          cases hk : (pk ci)[k]? with
          | none => rfl
          | some kd =>
            by_cases h2 : kd = 2
            · subst h2
              show some (pf ad I J R i k 2) = some (pf ad I J R' i k 2)
              unfold pf
              rw [h i ci k hK hk]
            · show some (pf ad I J R i k kd) = some (pf ad I J R' i k kd)
              unfold pf
              split
              · rfl
              · exact absurd rfl h2
              · rfl
        exact congrArg (fun z => some (ad i, (Sum.inr (ci, z) : va_E))) ef
  refine k dC dI ad base cA p _ Rm s m args below meth c n0 z0 Z hC hr H locs cells slots ls ?_ h1 h2 hL
  unfold pWd
  rw [← e]
  exact hW
def RQ : pHR := (pu (pu (pu (pu (pu (pu (pu (pu (pu (pu (pu (pu (pu (pu (pu (pu (pu (pu (pu (pu (pu (pu (pu (pu (pu (pu (pu (pu (pu (pu (pu (pu (pu (pu (pu (pu (pu (pu (pu (pu (pu (pu (pu (pu (pu (pu (pu (pu (pu (pu (pu (pu (pu (pu (pu (pu (pu (pu (pu (pu (pu (pu (pu (pu (pu (pu (pu (pu (pu (pu (pu (pu (pu (pu (pu (pu (pu (pu (pu (pu (pu (pu (pu (pu (pu (pu (pu (pu (pu (pu (pu (pu (pu (pu (pu (pu (pu (pu (pu (pu (pu (pu (pu (pu (pu (pu (pu (pu (fun _ _ => none) 0 0 (some 1)) 2 1 (some 3)) 4 0 (some 1)) 2 0 (some 4)) 0 2 (some 2)) 5 3 (some 6)) 5 4 (some 7)) 5 5 (some 8)) 5 6 (some 9)) 5 7 (some 10)) 11 0 (some 12)) 11 1 (some 13)) 11 3 (some 14)) 5 8 (some 11)) 15 0 (some 16)) 15 1 (some 17)) 15 3 (some 18)) 5 9 (some 15)) 0 3 (some 5)) 19 3 (some 20)) 19 4 (some 21)) 19 5 (some 22)) 19 6 (some 23)) 19 7 (some 24)) 25 0 (some 26)) 25 1 (some 27)) 25 3 (some 28)) 19 8 (some 25)) 29 0 (some 30)) 29 1 (some 31)) 29 3 (some 32)) 19 9 (some 29)) 0 4 (some 19)) 33 0 (some 34)) 33 1 (some 35)) 33 2 (some 36)) 0 5 (some 33)) 37 0 (some 38)) 37 1 (some 39)) 37 2 (some 40)) 0 6 (some 37)) 41 0 (some 42)) 41 4 (some 43)) 41 5 (some 44)) 0 7 (some 41)) 45 0 (some 46)) 0 8 (some 45)) 47 0 (some 48)) 47 1 (some 49)) 47 2 (some 50)) 47 3 (some 51)) 47 4 (some 52)) 47 13 (some 53)) 0 9 (some 47)) 54 1 (some 55)) 54 2 (some 56)) 54 3 (some 57)) 54 4 (some 58)) 0 10 (some 54)) 59 2 (some 60)) 59 3 (some 61)) 0 11 (some 59)) 62 0 (some 63)) 62 1 (some 64)) 62 2 (some 65)) 62 3 (some 66)) 0 12 (some 62)) 67 0 (some 68)) 67 10 (some 69)) 67 11 (some 70)) 67 12 (some 71)) 67 13 (some 72)) 67 14 (some 73)) 67 15 (some 74)) 67 16 (some 75)) 67 17 (some 76)) 67 18 (some 77)) 67 19 (some 78)) 67 26 (some 79)) 67 27 (some 80)) 67 28 (some 81)) 67 29 (some 82)) 67 30 (some 83)) 67 31 (some 84)) 67 32 (some 85)) 67 33 (some 86)) 67 34 (some 87)) 67 35 (some 88)) 67 36 (some 89)) 67 45 (some 90)) 67 46 (some 91)) 67 47 (some 92)) 67 50 (some 93)) 67 51 (some 94)) 67 53 (some 95)) 67 54 (some 96)) 67 55 (some 97)) 67 56 (some 98)) 67 57 (some 99)) 67 58 (some 100)) 67 59 (some 101)) 67 60 (some 102)) 67 61 (some 103)) 67 62 (some 104)) 67 63 (some 105)) 67 66 (some 106)) 67 67 (some 107)) 67 68 (some 108))
def swB (R R' : pHR) : Bool := (List.range 109).all (fun i => (List.range 80).all (fun k => match pK[i]? with
  | some (.inl ci) => (pk ci)[k]? != some 2 || R i k == R' i k
  | _ => true))
theorem pk_l80 {ci k kd : Nat} (h : (pk ci)[k]? = some kd) : k < 80 := by
  have h1 : ∀ l : List Nat, l ∈ pkL → l.length ≤ 80 := by decide +kernel
  have h2 : k < (pk ci).length := (List.getElem?_eq_some_iff.mp h).1
  have h3 : (pk ci).length ≤ 80 := by
    unfold pk at h2 ⊢
    rw [List.getD_eq_getElem?_getD] at h2 ⊢
    cases e : pkL[ci]? with
    | none => simp
    | some l => exact h1 l (List.mem_of_getElem? e)
  omega
theorem swB_ok {R R' : pHR} (h : swB R R' = true) : ∀ i ci k, pK[i]? = some (.inl ci) → (pk ci)[k]? = some 2 → R i k = R' i k := by
  intro i ci k hK hk
  have hi : i < 109 := (List.getElem?_eq_some_iff.mp hK).1
  unfold swB at h
  have h1 := List.all_eq_true.mp (List.all_eq_true.mp h i (List.mem_range.mpr hi)) k (List.mem_range.mpr (pk_l80 hk))
  rw [hK] at h1
  simp only [hk] at h1
  simpa using h1
theorem swRQ : swB RQ (pR 5 19) = true := by decide +kernel
theorem ini_rel {I : pHI} (h : iniC I) (hz : ∀ c, 67 ≤ c → I c = fun _ => 0) : Rel 5 19 (pu (pu I 67 3 (-1)) 67 41 (nI 9)) := by
  obtain ⟨c1, c2, c3, c4, c5, c6, c7, c8, c9, c10, c11, c12⟩ := h
  have k : ∀ c k, c < 67 → pu (pu I 67 3 (-1)) 67 41 (nI 9) c k = I c k := fun c k z => by rw [pu_ne _ _ _ (by omega), pu_ne _ _ _ (by omega)]
  have z : ∀ c k, 67 < c → pu (pu I 67 3 (-1)) 67 41 (nI 9) c k = nI 0 := fun c k z => by rw [pu_ne _ _ _ (by omega), pu_ne _ _ _ (by omega), hz c (by omega)]; exact nI_0.symm
  have z7 : ∀ k, k ≠ 3 → k ≠ 41 → pu (pu I 67 3 (-1)) 67 41 (nI 9) 67 k = nI 0 := fun k z1 z2 => by rw [pu_at, if_neg (by omega), pu_at, if_neg (by omega), hz 67 (by omega)]; exact nI_0.symm
  have hr : rH H9 := ⟨⟨by decide, by decide⟩, by decide, by decide, by decide, fun j hj => ⟨by rw [H9_0 (by omega)]; omega, by rw [H9_0 (by omega)]; omega, by rw [H9_0 (by omega)]; omega, by rw [H9_0 (by omega)]; omega, by rw [H9_0 (by omega)]; omega⟩⟩
  have hb : ∀ k, bgT H9 k = 0 := fun k => by
    unfold bgT
    split
    · exact H9_0 (by omega)
    · split
      · exact H9_0 (by omega)
      · split
        · exact H9_0 (by omega)
        · rfl
  obtain ⟨w1, -, w2, -, w3⟩ := dfl_w (o := none) (fun w z => by cases z)
  obtain ⟨-, v1, -, v2, v3⟩ := dfl_w (o := none) (fun w z => by cases z)
  have hD : relD H9 (bgT H9) [] [] (dfl 0) (dfl 1) 0 0 0 (fun _ => bgT H9) (fun _ => false) (fun _ => bgT H9) 0 (fun _ => 0) 0 0 (fun _ => (false, false, 0, 0, none)) 0 (fun _ => 0) 5 19 (pu (pu I 67 3 (-1)) 67 41 (nI 9)) := by
    refine ⟨⟨Or.inl rfl, Or.inr rfl, by decide⟩, ⟨⟨?_, ⟨?_, ?_, ?_, fun j hj => absurd hj (Nat.not_lt_zero _)⟩, hr⟩, ⟨?_, ?_, w1, v1⟩, ?_, ?_, w2, v2, w3, v3⟩, ⟨?_, fun q _ => ?_, bg_r hr⟩, ⟨?_, ⟨z7 _ (by decide) (by decide), z7 _ (by decide) (by decide), by omega, fun i hi => absurd hi (by omega), fun i _ hi => absurd hi (by omega)⟩, fun _ => rfl, fun i _ => bg_r hr⟩, ⟨?_, ?_, fun b _ z => by cases z⟩, ⟨⟨(k _ _ (by omega)).trans c9, by omega, fun i hi => absurd hi (by omega)⟩, z7 _ (by decide) (by decide), by omega, fun i hi => absurd hi (by omega)⟩, ⟨⟨(k _ _ (by omega)).trans c7, (k _ _ (by omega)).trans c8, fun i hi => absurd hi (by omega)⟩, ⟨z7 _ (by decide) (by decide), z7 _ (by decide) (by decide), fun i hi => absurd hi (by omega)⟩, by omega, by omega, fun i hi => absurd hi (by omega)⟩, ⟨⟨(k _ _ (by omega)).trans c10, by omega, fun i hi => absurd hi (by omega)⟩, z7 _ (by decide) (by decide), by omega, fun i hi => absurd hi (by omega)⟩, ?_, ?_⟩
    · exact c1.fr (fun _ _ => k _ _ (by omega)) (fun c i z1 z2 => k _ _ (by omega))
    · rw [pu_at, if_pos ⟨rfl, rfl⟩]; rfl
    · exact (z7 _ (by decide) (by decide)).trans (by rw [H9_0 (by omega)])
    · exact (z7 _ (by decide) (by decide)).trans (by rw [H9_0 (by omega)])
    · exact c2.fr (k _ _ (by omega)) (fun i => k _ _ (by omega)) (fun i => k _ _ (by omega))
    · exact c3.fr (k _ _ (by omega)) (fun i => k _ _ (by omega)) (fun i => k _ _ (by omega))
    · exact ⟨by decide, z _ _ (by omega), fun i k m e => by simp at e⟩
    · exact ⟨by decide, z _ _ (by omega), fun i k m e => by simp at e⟩
    · exact c4.fr (fun c k' z1 z2 => k _ _ (by omega))
    · rw [hb]; exact z _ _ (by omega)
    · exact c5.off (fun c k' z => k _ _ (by omega))
    · exact fun b hb => ⟨(k _ _ (by omega)).trans (c6 b hb), fun z => by cases z⟩
    · exact fun b hb => ⟨z _ _ (by omega), fun z => by cases z⟩
    · rw [k _ _ (by omega), c11, z7 _ (by decide) (by decide)]
    · rw [k _ _ (by omega), c12, pu_at, if_neg (by decide), pu_at, if_pos ⟨rfl, rfl⟩]
  exact hD.ex
theorem hr1L (c : Nat) (hc : 67 ≤ c) : (pu (pu (pu (pu (pu (pu (pu (pu (pu (pu (pu (pu (pu (pu (pu (pu (pu (pu (pu (pu (pu (pu (pu (pu (pu (pu (pu (pu (pu (pu (pu (pu (pu (pu (pu (pu (pu (pu (pu (pu (pu (pu (pu (pu (pu (pu (pu (pu (pu (pu (pu (pu (pu (pu (pu (pu (pu (pu (pu (pu (pu (pu (pu (pu (pu (pu (pu (fun _ _ => none) 0 0 (some 1)) 2 1 (some 3)) 4 0 (some 1)) 2 0 (some 4)) 0 2 (some 2)) 5 3 (some 6)) 5 4 (some 7)) 5 5 (some 8)) 5 6 (some 9)) 5 7 (some 10)) 11 0 (some 12)) 11 1 (some 13)) 11 3 (some 14)) 5 8 (some 11)) 15 0 (some 16)) 15 1 (some 17)) 15 3 (some 18)) 5 9 (some 15)) 0 3 (some 5)) 19 3 (some 20)) 19 4 (some 21)) 19 5 (some 22)) 19 6 (some 23)) 19 7 (some 24)) 25 0 (some 26)) 25 1 (some 27)) 25 3 (some 28)) 19 8 (some 25)) 29 0 (some 30)) 29 1 (some 31)) 29 3 (some 32)) 19 9 (some 29)) 0 4 (some 19)) 33 0 (some 34)) 33 1 (some 35)) 33 2 (some 36)) 0 5 (some 33)) 37 0 (some 38)) 37 1 (some 39)) 37 2 (some 40)) 0 6 (some 37)) 41 0 (some 42)) 41 4 (some 43)) 41 5 (some 44)) 0 7 (some 41)) 45 0 (some 46)) 0 8 (some 45)) 47 0 (some 48)) 47 1 (some 49)) 47 2 (some 50)) 47 3 (some 51)) 47 4 (some 52)) 47 13 (some 53)) 0 9 (some 47)) 54 1 (some 55)) 54 2 (some 56)) 54 3 (some 57)) 54 4 (some 58)) 0 10 (some 54)) 59 2 (some 60)) 59 3 (some 61)) 0 11 (some 59)) 62 0 (some 63)) 62 1 (some 64)) 62 2 (some 65)) 62 3 (some 66)) 0 12 (some 62)) c = fun _ => none := by
  rw [pu_ne _ _ _ (by omega)]
  rw [pu_ne _ _ _ (by omega)]
  rw [pu_ne _ _ _ (by omega)]
  rw [pu_ne _ _ _ (by omega)]
  rw [pu_ne _ _ _ (by omega)]
  rw [pu_ne _ _ _ (by omega)]
  rw [pu_ne _ _ _ (by omega)]
  rw [pu_ne _ _ _ (by omega)]
  rw [pu_ne _ _ _ (by omega)]
  rw [pu_ne _ _ _ (by omega)]
  rw [pu_ne _ _ _ (by omega)]
  rw [pu_ne _ _ _ (by omega)]
  rw [pu_ne _ _ _ (by omega)]
  rw [pu_ne _ _ _ (by omega)]
  rw [pu_ne _ _ _ (by omega)]
  rw [pu_ne _ _ _ (by omega)]
  rw [pu_ne _ _ _ (by omega)]
  rw [pu_ne _ _ _ (by omega)]
  rw [pu_ne _ _ _ (by omega)]
  rw [pu_ne _ _ _ (by omega)]
  rw [pu_ne _ _ _ (by omega)]
  rw [pu_ne _ _ _ (by omega)]
  rw [pu_ne _ _ _ (by omega)]
  rw [pu_ne _ _ _ (by omega)]
  rw [pu_ne _ _ _ (by omega)]
  rw [pu_ne _ _ _ (by omega)]
  rw [pu_ne _ _ _ (by omega)]
  rw [pu_ne _ _ _ (by omega)]
  rw [pu_ne _ _ _ (by omega)]
  rw [pu_ne _ _ _ (by omega)]
  rw [pu_ne _ _ _ (by omega)]
  rw [pu_ne _ _ _ (by omega)]
  rw [pu_ne _ _ _ (by omega)]
  rw [pu_ne _ _ _ (by omega)]
  rw [pu_ne _ _ _ (by omega)]
  rw [pu_ne _ _ _ (by omega)]
  rw [pu_ne _ _ _ (by omega)]
  rw [pu_ne _ _ _ (by omega)]
  rw [pu_ne _ _ _ (by omega)]
  rw [pu_ne _ _ _ (by omega)]
  rw [pu_ne _ _ _ (by omega)]
  rw [pu_ne _ _ _ (by omega)]
  rw [pu_ne _ _ _ (by omega)]
  rw [pu_ne _ _ _ (by omega)]
  rw [pu_ne _ _ _ (by omega)]
  rw [pu_ne _ _ _ (by omega)]
  rw [pu_ne _ _ _ (by omega)]
  rw [pu_ne _ _ _ (by omega)]
  rw [pu_ne _ _ _ (by omega)]
  rw [pu_ne _ _ _ (by omega)]
  rw [pu_ne _ _ _ (by omega)]
  rw [pu_ne _ _ _ (by omega)]
  rw [pu_ne _ _ _ (by omega)]
  rw [pu_ne _ _ _ (by omega)]
  rw [pu_ne _ _ _ (by omega)]
  rw [pu_ne _ _ _ (by omega)]
  rw [pu_ne _ _ _ (by omega)]
  rw [pu_ne _ _ _ (by omega)]
  rw [pu_ne _ _ _ (by omega)]
  rw [pu_ne _ _ _ (by omega)]
  rw [pu_ne _ _ _ (by omega)]
  rw [pu_ne _ _ _ (by omega)]
  rw [pu_ne _ _ _ (by omega)]
  rw [pu_ne _ _ _ (by omega)]
  rw [pu_ne _ _ _ (by omega)]
  rw [pu_ne _ _ _ (by omega)]
  rw [pu_ne _ _ _ (by omega)]
set_option maxHeartbeats 4000000 in
set_option maxRecDepth 100000 in
theorem L_start {l : Launch} {X : pX} {Q : pQ} (hk : ∀ I1, Rel 5 19 I1 → pE l X mL_law 80 pK 18 [some (.ref 2000000), some (.ref 0), some (.ref 67), some (.int (nI 0))] [] pK I1 jz (pR 5 19) Q) : pE l X mL_law 80 (pK.take 109) 0 [some (.ref 2000000), none, none, none] [] (pK.take 0) (fun _ _ => 0) jz (fun _ _ => none) Q := by
  have hr1 := hr1L
  refine pE_newT (m := 0) dL_law_0 ftX11 nwL_7 rfl (by decide) (by decide) (by first | exact hz1 _ (by decide) | rfl) (by rfl) (by first | rfl | (repeat rw [pu_ne _ _ _ (by decide)])) ?_
  refine pE_dupR dL_law_3 ?_
  refine pE_callI (d' := 5) (as := []) dL_law_4 lkL_9 (cwX11_init _ _) ivX11_init rfl rfl rfl rfl (Nat.le_of_ble_eq_true rfl) (by decide) (pT5 (b := 67) (by decide) (by decide) (by decide)) ?_
  refine M_X11_init (fun _ _ => rfl) (fun _ _ => rfl) (fun I1 hI hz1 => ?_)
  refine pE_astore_n (lc' := [_, some (.ref _), _, _]) dL_law_7 rfl (Nat.le_of_ble_eq_true rfl) rfl rfl ?_
  refine pE_newT (m := 67) dL_law_8 ftX12 nwL_10 rfl (by decide) (by decide) (by first | exact hz1 _ (by decide) | rfl) (by rfl) (by first | rfl | (repeat rw [pu_ne _ _ _ (by decide)])) ?_
  refine pE_dupR dL_law_11 ?_
  refine pE_callI (d' := 1) (as := []) dL_law_12 lkL_12 (cwX12_init _ _) ivX12_init rfl rfl rfl rfl (Nat.le_of_ble_eq_true rfl) (by decide) (pT5 (b := 109) (by decide) (by decide) (by decide)) ?_
  refine M_X12_init_67 (fun c hc => hz1 c hc) (fun c hc => hr1 c hc) ?_
  refine pE_astore_n (lc' := [_, _, some (.ref _), _]) dL_law_15 rfl (Nat.le_of_ble_eq_true rfl) rfl rfl ?_
  refine pE_iconst (v := nI 0) dL_law_16 rfl ?_
  refine pE_istore_n (lc' := [_, _, _, some (.int _)]) dL_law_17 rfl (Nat.le_of_ble_eq_true rfl) rfl rfl ?_
  refine pE_sw (R := RQ) (R' := pR 5 19) (swB_ok swRQ) ?_
  exact hk _ (ini_rel hI hz1)
