def foR (B : Nat → Nat) (n w u0 : Nat) (res : pPS) (I : pHI) (J : pHJ) : Prop := (∃ e, res = .inl e ∧ mRd B n I J (.inl e)) ∨ (∃ p o u, res = .inr (p, o, u) ∧ mR0 B n p I J ∧ tK B n p ≠ 1 ∧ mG w o I ∧ I 67 22 = nI (u0 + u))
theorem mQ.sgn {w u0 u c : Nat} {st : List Nat} {o : pP} {I : pHI} (h : mQ w u0 st o u I) (hc : isSg c) : mQ w u0 (c :: st) o u (pu (pu I 76 st.length (nI c)) 67 21 (nI (st.length + 1))) := by
  obtain ⟨a1, a2, a3, a4, a5, a6, a7⟩ := h
  have hb := isSg_b hc
  have hx : c ≠ 21 := fun z => by rw [z] at hc; unfold isSg at hc; omega
  refine ⟨?_, ?_, ?_, ?_, a5.push, ?_, fun x hx => ?_⟩
  · rw [pu_at, if_neg (by omega), pu_at, if_neg (by omega)]; exact a1
  · rw [pu_at, if_neg (by omega), pu_at, if_neg (by omega)]; exact a2
  · rw [pu_at, if_neg (by omega), pu_at, if_neg (by omega)]; exact a3
  · rw [pu_at, if_neg (by omega), pu_at, if_neg (by omega), dp_n (by omega) hx]; exact a4
  · exact a6.fr (by rw [pu_ne _ _ _ (by decide), pu_ne _ _ _ (by decide)]) (fun i _ => ⟨by rw [pu_ne _ _ _ (by decide), pu_ne _ _ _ (by decide)], by rw [pu_ne _ _ _ (by decide), pu_ne _ _ _ (by decide)]⟩)
  · rcases List.mem_cons.mp hx with z | z
    · rw [z]; exact Or.inr (Or.inr hc)
    · exact a7 x z
/-- a bracket off the top -/
theorem mQ.off {w u0 u : Nat} {st : List Nat} {o : pP} {I : pHI} (h : mQ w u0 (20 :: st) o u I) : mQ w u0 st o u (pu (pu I 67 21 (nI st.length)) 67 25 (nI (dpL st))) := by
  obtain ⟨a1, a2, a3, a4, a5, a6, a7⟩ := h
  refine ⟨?_, ?_, ?_, ?_, ?_, ?_, fun x hx => a7 x (List.mem_cons_of_mem _ hx)⟩
  · rw [pu_at, if_neg (by omega), pu_at, if_neg (by omega)]; exact a1
  · rw [pu_at, if_neg (by omega), pu_at, if_neg (by omega)]; exact a2
  · rw [pu_at, if_neg (by omega), pu_at, if_neg (by omega)]; exact a3
  · rw [pu_at, if_pos ⟨rfl, rfl⟩]
  · exact (a5.pop).fr (by rw [pu_at, if_neg (by omega)]) (fun i => by rw [pu_ne _ _ _ (by decide)])
  · exact a6.fr (by rw [pu_ne _ _ _ (by decide), pu_ne _ _ _ (by decide)]) (fun i _ => ⟨by rw [pu_ne _ _ _ (by decide), pu_ne _ _ _ (by decide)], by rw [pu_ne _ _ _ (by decide), pu_ne _ _ _ (by decide)]⟩)
set_option maxHeartbeats 400000 in
set_option maxRecDepth 100000 in
theorem L_X12_formX {l : Launch} {X : pX} {t g : Nat} {I : pHI} {J : pHJ} {Q : pQ} {n w u0 : Nat} {B : Nat → Nat} {res : pPS} {v2 v3 : Option Value} {st : List Nat} {p : Nat} {o : pP} {u : Nat} {I1 : pHI} {J1 : pHJ} (hT : tpM I n B) (hw : w ≤ 1) (hu0 : u0 ≤ 30) (hq : ∀ I1 J1, sMF w I I1 → jM J J1 → foR B n w u0 res I1 J1 → Q none I1 J1 (pR t g)) (hx : sMF w I I1) (jx : jM J J1) (hr : mR0 B n p I1 J1) (hm : mQ w u0 st o u I1) (hi : iN false st o u) (hb : tK B n p = 1 → res = .inl (1, tQ B n p)) (hg : tK B n p ≠ 1 → res = soS B n st (p, o, u)) : pE l X mX12_formula 5 pK 177 [some (.ref 67), some (.int (nI w)), v2, v3] [] pK I1 J1 (pR t g) Q := by
  obtain ⟨q1, q2, q3, q4, q5, q6, q7⟩ := id hm
  obtain ⟨b1, b2, b3, b4⟩ := iN_b hi
  have hT1 := hT.f hx
  have hp := hr.2.2.1
  have hk := hr.2.2.2
  have hd := mKd_b (B := B) hp
  refine pE_aload_n dX12_formula_177 rfl rfl ?_
  refine pE_getI dX12_formula_178 flX12_182 rfl (Or.inl rfl) (by first | assumption | rfl) ?_
  rw [hr.1]
  refine pE_if_ne (tgt := 196) dX12_formula_181 (by decide) (fun h181 => ?_) (fun h181 => ?_)
  · have g181 := nq_ne0 (by omega) h181
    omega
  · have g181 := nq_eq0 (by omega) h181
    refine pE_aload_n dX12_formula_184 rfl rfl ?_
    refine pE_callV (d' := 0) (as := []) dX12_formula_185 lkX12_295 (cwX12_hasBracket _ _) ivX12_hasBracket ⟨_, rfl, rfl⟩ (by first | assumption | rfl) rfl rfl (Nat.le_of_ble_eq_true rfl) (by decide) pKK ?_
    refine M_X12_hasBracket q5 q7 (by omega) (fun zb => ?_) (fun zb => ?_)
    · refine pE_if_eq_f (tgt := 196) dX12_formula_188 (by decide) nI_1n0 ?_
      refine pE_aload_n dX12_formula_191 rfl rfl ?_
      refine pE_iconst (v := nI 2) dX12_formula_192 rfl ?_
      refine pE_callV (d' := 0) (as := [_]) dX12_formula_193 lkX12_227 (cwX12_wrong _ _) ivX12_wrong ⟨_, rfl, rfl⟩ (by first | assumption | rfl) rfl rfl (Nat.le_of_ble_eq_true rfl) (by decide) pKK ?_
      refine M_X12_wrong hT1 hr (by omega) (fun I2 x1 x2 => ?_)
      have x3 := x2.1
      have x4 := x2.2.1
      simp only at x3 x4
      refine pE_aload_n dX12_formula_196 rfl rfl ?_
      refine pE_getI dX12_formula_197 flX12_182 rfl (Or.inl rfl) (by first | assumption | rfl) ?_
      rw [x3]
      refine pE_if_ne (tgt := 208) dX12_formula_200 (by decide) (fun h200 => ?_) (fun h200 => ?_)
      · have g200 := nq_ne0 (by omega) h200
        refine pE_vret dX12_formula_208 rfl rfl ?_
        refine hq _ _ (hx.tr x1.f) jx (Or.inl ⟨_, ?_, x2.rd⟩)
        by_cases k : tK B n p = 1
        · rw [hb k, if_pos k]
        · rw [hg k, soS, if_pos zb, if_neg k]
      · have g200 := nq_eq0 (by omega) h200
        omega
    · refine pE_if_eq_t (tgt := 196) dX12_formula_188 (by decide) nI_0 ?_
      refine pE_aload_n dX12_formula_196 rfl rfl ?_
      refine pE_getI dX12_formula_197 flX12_182 rfl (Or.inl rfl) (by first | assumption | rfl) ?_
      rw [hr.1]
      refine pE_if_ne (tgt := 208) dX12_formula_200 (by decide) (fun h200 => ?_) (fun h200 => ?_)
      · have g200 := nq_ne0 (by omega) h200
        omega
      · have g200 := nq_eq0 (by omega) h200
        refine pE_aload_n dX12_formula_203 rfl rfl ?_
        refine pE_iconst (v := nI 0) dX12_formula_204 rfl ?_
        refine pE_callV (d' := 1) (as := [_]) dX12_formula_205 lkX12_298 (cwX12_close _ _) ivX12_close ⟨_, rfl, rfl⟩ (by first | assumption | rfl) rfl rfl (Nat.le_of_ble_eq_true rfl) (by decide) pKK ?_
        refine M_X12_close (tt := 0) (by omega) hm (by omega) (by omega) hw (fun I2 x1 x19 x2 => ?_)
        refine pE_vret dX12_formula_208 rfl rfl ?_
        by_cases k : tK B n p = 1
        · refine hq _ _ (hx.tr x1) jx (Or.inl ⟨_, hb k, ?_⟩)
          have e : sOf B n p = .inl (1, tQ B n p) := by unfold sOf; rw [if_pos k]
          rw [← e]; exact (hr.f x19).rd
        · refine hq _ _ (hx.tr x1) jx (Or.inr ⟨p, o ++ clP 0 st, u, ?_, hr.f x19, k, x2.2.2.2.2.2.1, x2.2.1⟩)
          rw [hg k, soS, if_neg zb]
set_option maxHeartbeats 400000 in
set_option maxRecDepth 100000 in
theorem L_X12_formE {l : Launch} {X : pX} {t g : Nat} {I : pHI} {J : pHJ} {Q : pQ} {n w u0 : Nat} {B : Nat → Nat} {res : pPS} {v3 : Option Value} {e : Nat × Nat} {I1 : pHI} {J1 : pHJ} (hw : w ≤ 1) (hq : ∀ I1 J1, sMF w I I1 → jM J J1 → foR B n w u0 res I1 J1 → Q none I1 J1 (pR t g)) (hx : sMF w I I1) (jx : jM J J1) (he : res = .inl e) (hf : mFa I1 e) : pE l X mX12_formula 5 pK 50 [some (.ref 67), some (.int (nI w)), some (.int (nI 1)), v3] [] pK I1 J1 (pR t g) Q := by
  have h1 := hf.2.1
  refine pE_iload_n dX12_formula_50 rfl rfl ?_
  refine pE_if_eq (tgt := 177) dX12_formula_51 (by decide) (fun h51 => ?_) (fun h51 => ?_)
  · have g51 := nq_eq0 (by omega) h51
    exact absurd g51 (by decide)
  · have g51 := nq_ne0 (by omega) h51
    refine pE_aload_n dX12_formula_54 rfl rfl ?_
    refine pE_getI dX12_formula_55 flX12_182 rfl (Or.inl rfl) (by first | assumption | rfl) ?_
    rw [hf.1]
    refine pE_if_ne (tgt := 177) dX12_formula_58 (by decide) (fun h58 => ?_) (fun h58 => ?_)
    · have g58 := nq_ne0 (by omega) h58
      refine pE_aload_n dX12_formula_177 rfl rfl ?_
      refine pE_getI dX12_formula_178 flX12_182 rfl (Or.inl rfl) (by first | assumption | rfl) ?_
      rw [hf.1]
      refine pE_if_ne (tgt := 196) dX12_formula_181 (by decide) (fun h181 => ?_) (fun h181 => ?_)
      · have g181 := nq_ne0 (by omega) h181
        refine pE_aload_n dX12_formula_196 rfl rfl ?_
        refine pE_getI dX12_formula_197 flX12_182 rfl (Or.inl rfl) (by first | assumption | rfl) ?_
        rw [hf.1]
        refine pE_if_ne (tgt := 208) dX12_formula_200 (by decide) (fun h200 => ?_) (fun h200 => ?_)
        · have g200 := nq_ne0 (by omega) h200
          refine pE_vret dX12_formula_208 rfl rfl ?_
          exact hq _ _ hx jx (Or.inl ⟨_, he, hf.rd⟩)
        · have g200 := nq_eq0 (by omega) h200
          omega
      · have g181 := nq_eq0 (by omega) h181
        omega
    · have g58 := nq_eq0 (by omega) h58
      omega
set_option maxHeartbeats 400000 in
set_option maxRecDepth 100000 in
theorem L_X12_formG {l : Launch} {X : pX} {t g : Nat} {I : pHI} {J : pHJ} {Q : pQ} {n w u0 : Nat} {B : Nat → Nat} {res : pPS} {f0 : Nat} {st : List Nat} {p : Nat} {o : pP} {u : Nat} {I1 : pHI} {J1 : pHJ} (hT : tpM I n B) (hw : w ≤ 1) (hu0 : u0 ≤ 30) (hq : ∀ I1 J1, sMF w I I1 → jM J J1 → foR B n w u0 res I1 J1 → Q none I1 J1 (pR t g)) (ih : ∀ (f : Nat) (st : List Nat) (p : Nat) (o : pP) (u : Nat) (I1 : pHI) (J1 : pHJ) (v3 : Option Value), f < f0 → ruM B n f (false, st, liS o u (sOf B n p)) = some res → sMF w I I1 → jM J J1 → mR0 B n p I1 J1 → mQ w u0 st o u I1 → iN false st o u → pE l X mX12_formula 5 pK 50 [some (.ref 67), some (.int (nI w)), some (.int (nI 1)), v3] [] pK I1 J1 (pR t g) Q) (hru : ruM B n f0 (false, st, liS o u (sOf B n p)) = some res) (hx : sMF w I I1) (jx : jM J J1) (hr : mR0 B n p I1 J1) (hm : mQ w u0 st o u I1) (hi : iN false st o u) (hncb : ¬ (tkGb B n p 41 = true ∧ hBr st = true)) : pE l X mX12_formula 5 pK 114 [some (.ref 67), some (.int (nI w)), some (.int (nI 1)), some (.int (nI (mSg B n p)))] [] pK I1 J1 (pR t g) Q := by
  obtain ⟨q1, q2, q3, q4, q5, q6, q7⟩ := id hm
  obtain ⟨b1, b2, b3, b4⟩ := iN_b hi
  have hT1 := hT.f hx
  have hp := hr.2.2.1
  have hk := hr.2.2.2
  have hd := mKd_b (B := B) hp
  have hsb : mSg B n p ≤ 200 := by
    by_cases z : mSg B n p = 0
    · omega
    · exact (mSg_sg z).2
  have htb := tgt_b (mSg B n p)
  have hsg : mSg B n p ≠ 0 → (mSg B n p = 20 ∨ mSg B n p = 21 ∨ isSg (mSg B n p)) := fun z => Or.inr (Or.inr (mSg_sg z).1)
  have hbad : tK B n p = 1 → res = .inl (1, tQ B n p) := fun k => by rw [sOf_y k] at hru; exact ru_e hru
  refine pE_iload_n dX12_formula_114 rfl rfl ?_
  refine pE_if_eq (tgt := 172) dX12_formula_115 (by decide) (fun h115 => ?_) (fun h115 => ?_)
  · have g115 := nq_eq0 (by omega) h115
    refine pE_iconst (v := nI 0) dX12_formula_172 rfl ?_
    refine pE_istore_n (lc' := [_, _, some (.int _), _]) dX12_formula_173 rfl (Nat.le_of_ble_eq_true rfl) rfl rfl ?_
    refine pE_goto (tgt := 50) dX12_formula_174 (by decide) ?_
    refine pE_iload_n dX12_formula_50 rfl rfl ?_
    refine pE_if_eq (tgt := 177) dX12_formula_51 (by decide) (fun h51 => ?_) (fun h51 => ?_)
    · have g51 := nq_eq0 (by omega) h51
      refine L_X12_formX hT hw hu0 hq hx jx hr hm hi hbad (fun k => ruO_so hru k hncb ?_)
      first
      | exact Or.inl g115
      | exact Or.inr ⟨g123, zr⟩
    · have g51 := nq_ne0 (by omega) h51
      omega
  · have g115 := nq_ne0 (by omega) h115
    have g1 : mSg B n p ≠ 0 := by omega
    refine pE_iload_n dX12_formula_118 rfl rfl ?_
    refine pE_callS (d' := 0) (as := [_]) dX12_formula_119 lkX12_257 (cwX12_tight _ _) svX12_tight rfl rfl (Nat.le_of_ble_eq_true rfl) (by decide) pKK ?_
    refine M_X12_tight (hsg g1) ?_
    refine pE_iconst (v := nI 4) dX12_formula_122 rfl ?_
    refine pE_icmp_ne (tgt := 133) dX12_formula_123 (by decide) (fun h123 => ?_) (fun h123 => ?_)
    · have g123 := nq_ne (by omega) (by omega) h123
      refine pE_aload_n dX12_formula_133 rfl rfl ?_
      refine pE_iload_n dX12_formula_134 rfl rfl ?_
      refine pE_callS (d' := 0) (as := [_]) dX12_formula_135 lkX12_257 (cwX12_tight _ _) svX12_tight rfl rfl (Nat.le_of_ble_eq_true rfl) (by decide) pKK ?_
      refine M_X12_tight (hsg g1) ?_
      have h2 : ¬ (tgt (mSg B n p) = 4 ∧ hRl st = true) := by
        first
        | exact fun z => g123 z.1
        | exact fun z => zr z.2
      obtain ⟨f', rfl, hf'⟩ := ruO_sg hru g1 h2
      have hcl := cl_len (tgt (mSg B n p)) st
      refine pE_callV (d' := 1) (as := [_]) dX12_formula_138 lkX12_298 (cwX12_close _ _) ivX12_close ⟨_, rfl, rfl⟩ (by first | assumption | rfl) rfl rfl (Nat.le_of_ble_eq_true rfl) (by decide) pKK ?_
      refine M_X12_close htb.2 hm (by omega) (by omega) hw (fun I2 x1 x19 x2 => ?_)
      have xs := x2.sgn (mSg_sg g1).1
      obtain ⟨w1, w2, w3, w4, w5, w6, w7⟩ := x2
      refine pE_aload_n dX12_formula_141 rfl rfl ?_
      refine pE_getR dX12_formula_142 flX12_39 rfl (by first | assumption | rfl) (by first | assumption | rfl) ?_
      refine pE_aload_n dX12_formula_145 rfl rfl ?_
      refine pE_getI dX12_formula_146 flX12_254 rfl (Or.inl rfl) (by first | assumption | rfl) ?_
      rw [w5.1]
      refine pE_iload_n dX12_formula_149 rfl rfl ?_
      refine pE_iastoreN dX12_formula_150 (by first | assumption | rfl) (by first | assumption | omega) (by omega) ?_
      refine pE_aload_n dX12_formula_151 rfl rfl ?_
      refine pE_dupR dX12_formula_152 ?_
      refine pE_getI dX12_formula_153 flX12_254 rfl (Or.inl rfl) (by first | assumption | rfl) ?_
      rw [pu_ne _ _ _ (show (67 : Nat) ≠ 76 by decide), w5.1]
      refine pE_iconst (v := nI 1) dX12_formula_156 rfl ?_
      refine pE_iaddN dX12_formula_157 ?_
      refine pE_putI dX12_formula_158 flX12_254 ftX12 fiX12_21 rfl rfl (by first | assumption | rfl) ?_
      refine pE_aload_n dX12_formula_161 rfl rfl ?_
      refine pE_callV (d' := 2) (as := []) dX12_formula_162 lkX12_230 (cwX12_token _ _) ivX12_token ⟨_, rfl, rfl⟩ (by first | assumption | rfl) rfl rfl (Nat.le_of_ble_eq_true rfl) (by decide) pKK ?_
      refine M_X12_tokenN ((hT1.f x1).f (w := w) ((sMF.rf.u76).u67 (by omega))) ((hr.f x19).f (fun k hk => by rw [pu_at, if_neg (by omega), pu_at, if_neg (by omega)])) (mSg_1 g1) (fun I3 J3 y1 z1 y2 => ?_)
      refine pE_aload_n dX12_formula_165 rfl rfl ?_
      refine pE_callV (d' := 4) (as := []) dX12_formula_166 lkX12_289 (cwX12_unit _ _) ivX12_unit ⟨_, rfl, rfl⟩ (by first | assumption | rfl) rfl rfl (Nat.le_of_ble_eq_true rfl) (by decide) pKK ?_
      refine M_X12_unit (((hT1.f x1).f (w := w) ((sMF.rf.u76).u67 (by omega))).f (w := w) y1.f) hw hu0 hf' y2 (xs.fr y1) (iN_sg hi (mSg_n g1).1 (mSg_n g1).2.1) (fun I4 J4 u1 u2 u3 => ?_)
      refine pE_goto (tgt := 174) dX12_formula_169 (by decide) ?_
      refine pE_goto (tgt := 50) dX12_formula_174 (by decide) ?_
      rcases u3 with ⟨e, e1, e2⟩ | ⟨f2, st2, p2, o2, u2x, e1, e2, e3, e4, e5⟩
      · exact L_X12_formE hw hq ((hx.tr x1).tr ((((sMF.rf.u76).u67 (by omega)).tr y1.f).tr u1)) (jx.tr (z1.tr u2)) e1 e2
      · exact ih f2 _ _ _ _ _ _ _ (by omega) e2 ((hx.tr x1).tr ((((sMF.rf.u76).u67 (by omega)).tr y1.f).tr u1)) (jx.tr (z1.tr u2)) e3 e4 e5
    · have g123 := nq_eq (by omega) (by omega) h123
      refine pE_aload_n dX12_formula_126 rfl rfl ?_
      refine pE_callV (d' := 1) (as := []) dX12_formula_127 lkX12_301 (cwX12_hasRelation _ _) ivX12_hasRelation ⟨_, rfl, rfl⟩ (by first | assumption | rfl) rfl rfl (Nat.le_of_ble_eq_true rfl) (by decide) pKK ?_
      refine M_X12_hasRelation q5 q7 (by omega) (fun zr => ?_) (fun zr => ?_)
      · refine pE_if_ne_t (tgt := 172) dX12_formula_130 (by decide) nI_1n0 ?_
        refine pE_iconst (v := nI 0) dX12_formula_172 rfl ?_
        refine pE_istore_n (lc' := [_, _, some (.int _), _]) dX12_formula_173 rfl (Nat.le_of_ble_eq_true rfl) rfl rfl ?_
        refine pE_goto (tgt := 50) dX12_formula_174 (by decide) ?_
        refine pE_iload_n dX12_formula_50 rfl rfl ?_
        refine pE_if_eq (tgt := 177) dX12_formula_51 (by decide) (fun h51 => ?_) (fun h51 => ?_)
        · have g51 := nq_eq0 (by omega) h51
          refine L_X12_formX hT hw hu0 hq hx jx hr hm hi hbad (fun k => ruO_so hru k hncb ?_)
          first
          | exact Or.inl g115
          | exact Or.inr ⟨g123, zr⟩
        · have g51 := nq_ne0 (by omega) h51
          omega
      · refine pE_if_ne_f (tgt := 172) dX12_formula_130 (by decide) nI_0 ?_
        refine pE_aload_n dX12_formula_133 rfl rfl ?_
        refine pE_iload_n dX12_formula_134 rfl rfl ?_
        refine pE_callS (d' := 0) (as := [_]) dX12_formula_135 lkX12_257 (cwX12_tight _ _) svX12_tight rfl rfl (Nat.le_of_ble_eq_true rfl) (by decide) pKK ?_
        refine M_X12_tight (hsg g1) ?_
        have h2 : ¬ (tgt (mSg B n p) = 4 ∧ hRl st = true) := by
          first
          | exact fun z => g123 z.1
          | exact fun z => zr z.2
        obtain ⟨f', rfl, hf'⟩ := ruO_sg hru g1 h2
        have hcl := cl_len (tgt (mSg B n p)) st
        refine pE_callV (d' := 1) (as := [_]) dX12_formula_138 lkX12_298 (cwX12_close _ _) ivX12_close ⟨_, rfl, rfl⟩ (by first | assumption | rfl) rfl rfl (Nat.le_of_ble_eq_true rfl) (by decide) pKK ?_
        refine M_X12_close htb.2 hm (by omega) (by omega) hw (fun I2 x1 x19 x2 => ?_)
        have xs := x2.sgn (mSg_sg g1).1
        obtain ⟨w1, w2, w3, w4, w5, w6, w7⟩ := x2
        refine pE_aload_n dX12_formula_141 rfl rfl ?_
        refine pE_getR dX12_formula_142 flX12_39 rfl (by first | assumption | rfl) (by first | assumption | rfl) ?_
        refine pE_aload_n dX12_formula_145 rfl rfl ?_
        refine pE_getI dX12_formula_146 flX12_254 rfl (Or.inl rfl) (by first | assumption | rfl) ?_
        rw [w5.1]
        refine pE_iload_n dX12_formula_149 rfl rfl ?_
        refine pE_iastoreN dX12_formula_150 (by first | assumption | rfl) (by first | assumption | omega) (by omega) ?_
        refine pE_aload_n dX12_formula_151 rfl rfl ?_
        refine pE_dupR dX12_formula_152 ?_
        refine pE_getI dX12_formula_153 flX12_254 rfl (Or.inl rfl) (by first | assumption | rfl) ?_
        rw [pu_ne _ _ _ (show (67 : Nat) ≠ 76 by decide), w5.1]
        refine pE_iconst (v := nI 1) dX12_formula_156 rfl ?_
        refine pE_iaddN dX12_formula_157 ?_
        refine pE_putI dX12_formula_158 flX12_254 ftX12 fiX12_21 rfl rfl (by first | assumption | rfl) ?_
        refine pE_aload_n dX12_formula_161 rfl rfl ?_
        refine pE_callV (d' := 2) (as := []) dX12_formula_162 lkX12_230 (cwX12_token _ _) ivX12_token ⟨_, rfl, rfl⟩ (by first | assumption | rfl) rfl rfl (Nat.le_of_ble_eq_true rfl) (by decide) pKK ?_
        refine M_X12_tokenN ((hT1.f x1).f (w := w) ((sMF.rf.u76).u67 (by omega))) ((hr.f x19).f (fun k hk => by rw [pu_at, if_neg (by omega), pu_at, if_neg (by omega)])) (mSg_1 g1) (fun I3 J3 y1 z1 y2 => ?_)
        refine pE_aload_n dX12_formula_165 rfl rfl ?_
        refine pE_callV (d' := 4) (as := []) dX12_formula_166 lkX12_289 (cwX12_unit _ _) ivX12_unit ⟨_, rfl, rfl⟩ (by first | assumption | rfl) rfl rfl (Nat.le_of_ble_eq_true rfl) (by decide) pKK ?_
        refine M_X12_unit (((hT1.f x1).f (w := w) ((sMF.rf.u76).u67 (by omega))).f (w := w) y1.f) hw hu0 hf' y2 (xs.fr y1) (iN_sg hi (mSg_n g1).1 (mSg_n g1).2.1) (fun I4 J4 u1 u2 u3 => ?_)
        refine pE_goto (tgt := 174) dX12_formula_169 (by decide) ?_
        refine pE_goto (tgt := 50) dX12_formula_174 (by decide) ?_
        rcases u3 with ⟨e, e1, e2⟩ | ⟨f2, st2, p2, o2, u2x, e1, e2, e3, e4, e5⟩
        · exact L_X12_formE hw hq ((hx.tr x1).tr ((((sMF.rf.u76).u67 (by omega)).tr y1.f).tr u1)) (jx.tr (z1.tr u2)) e1 e2
        · exact ih f2 _ _ _ _ _ _ _ (by omega) e2 ((hx.tr x1).tr ((((sMF.rf.u76).u67 (by omega)).tr y1.f).tr u1)) (jx.tr (z1.tr u2)) e3 e4 e5
set_option maxHeartbeats 400000 in
set_option maxRecDepth 100000 in
theorem L_X12_form {l : Launch} {X : pX} {t g : Nat} {I : pHI} {J : pHJ} {Q : pQ} {n w u0 : Nat} {B : Nat → Nat} {res : pPS} (hT : tpM I n B) (hw : w ≤ 1) (hu0 : u0 ≤ 30) (hq : ∀ I1 J1, sMF w I I1 → jM J J1 → foR B n w u0 res I1 J1 → Q none I1 J1 (pR t g)) : ∀ (fu : Nat) (f : Nat) (v3 : Option Value) (st : List Nat) (p : Nat) (o : pP) (u : Nat) (I1 : pHI) (J1 : pHJ), f < fu → (ruM B n f (false, st, liS o u (sOf B n p)) = some res) → (sMF w I I1) → (jM J J1) → (mR0 B n p I1 J1) → (mQ w u0 st o u I1) → (iN false st o u) → pE l X mX12_formula 5 pK 50 [some (.ref 67), some (.int (nI w)), some (.int (nI 1)), v3] [] pK I1 J1 (pR t g) Q := by
  intro fu
  induction fu with
  | zero => intro f v3 st p o u I1 J1 hn; exact absurd hn (Nat.not_lt_zero _)
  | succ fu ih =>
    intro f v3 st p o u I1 J1 hn hru hx jx hr hm hi
    obtain ⟨q1, q2, q3, q4, q5, q6, q7⟩ := id hm
    obtain ⟨b1, b2, b3, b4⟩ := iN_b hi
    have hT1 := hT.f hx
    have hp := hr.2.2.1
    have hk := hr.2.2.2
    have hd := mKd_b (B := B) hp
    refine pE_iload_n dX12_formula_50 rfl rfl ?_
    refine pE_if_eq (tgt := 177) dX12_formula_51 (by decide) (fun h51 => ?_) (fun h51 => ?_)
    · have g51 := nq_eq0 (by omega) h51
      exact absurd g51 (by decide)
    · have g51 := nq_ne0 (by omega) h51
      refine pE_aload_n dX12_formula_54 rfl rfl ?_
      refine pE_getI dX12_formula_55 flX12_182 rfl (Or.inl rfl) (by first | assumption | rfl) ?_
      rw [hr.1]
      refine pE_if_ne (tgt := 177) dX12_formula_58 (by decide) (fun h58 => ?_) (fun h58 => ?_)
      · have g58 := nq_ne0 (by omega) h58
        omega
      · have g58 := nq_eq0 (by omega) h58
        refine pE_aload_n dX12_formula_61 rfl rfl ?_
        have hsb : mSg B n p ≤ 200 := by
          by_cases z : mSg B n p = 0
          · omega
          · exact (mSg_sg z).2
        refine pE_callV (d' := 1) (as := []) dX12_formula_62 lkX12_292 (cwX12_sign _ _) ivX12_sign ⟨_, rfl, rfl⟩ (by first | assumption | rfl) rfl rfl (Nat.le_of_ble_eq_true rfl) (by decide) pKK ?_
        refine M_X12_sign hr ?_
        refine pE_istore_n (lc' := [_, _, _, some (.int _)]) dX12_formula_65 rfl (Nat.le_of_ble_eq_true rfl) rfl rfl ?_
        refine pE_aload_n dX12_formula_66 rfl rfl ?_
        refine pE_getI dX12_formula_67 flX12_169 rfl (Or.inl rfl) (by first | assumption | rfl) ?_
        rw [hk.1]
        refine pE_bipush (v := nI 41) dX12_formula_70 rfl ?_
        refine pE_icmp_ne (tgt := 114) dX12_formula_72 (by decide) (fun h72 => ?_) (fun h72 => ?_)
        · have g72 := nq_ne (by omega) (by omega) h72
          have hnb : ¬ tkGb B n p 41 = true := fun z => g72 ((hd.2.2.2.2.2 41 (by omega)).mpr z)
          have hncb : ¬ (tkGb B n p 41 = true ∧ hBr st = true) := by
            first
            | exact fun z => hnb z.1
            | exact fun z => zb z.2
          exact L_X12_formG hT hw hu0 hq (fun f st p o u I1 J1 v3 hf => ih f v3 st p o u I1 J1 (by omega)) hru hx jx hr hm hi hncb
        · have g72 := nq_eq (by omega) (by omega) h72
          have hcb : tkGb B n p 41 = true := (hd.2.2.2.2.2 41 (by omega)).mp g72
          refine pE_aload_n dX12_formula_75 rfl rfl ?_
          refine pE_callV (d' := 0) (as := []) dX12_formula_76 lkX12_295 (cwX12_hasBracket _ _) ivX12_hasBracket ⟨_, rfl, rfl⟩ (by first | assumption | rfl) rfl rfl (Nat.le_of_ble_eq_true rfl) (by decide) pKK ?_
          refine M_X12_hasBracket q5 q7 (by omega) (fun zb => ?_) (fun zb => ?_)
          · refine pE_if_eq_f (tgt := 114) dX12_formula_79 (by decide) nI_1n0 ?_
            obtain ⟨st2, est⟩ := clL_b st zb
            obtain ⟨f', rfl, hf'⟩ := ruO_cb hru hcb zb
            have hi2 := iN_cb hi zb
            refine pE_aload_n dX12_formula_82 rfl rfl ?_
            refine pE_iconst (v := nI 0) dX12_formula_83 rfl ?_
            refine pE_callV (d' := 1) (as := [_]) dX12_formula_84 lkX12_298 (cwX12_close _ _) ivX12_close ⟨_, rfl, rfl⟩ (by first | assumption | rfl) rfl rfl (Nat.le_of_ble_eq_true rfl) (by decide) pKK ?_
            refine M_X12_close (tt := 0) (by omega) hm (by omega) (by omega) hw (fun I2 x1 x19 x2 => ?_)
            rw [est] at x2 hf' hi2
            have xo := x2.off
            obtain ⟨w1, w2, w3, w4, w5, w6, w7⟩ := x2
            have w51 : I2 67 21 = nI (st2.length + 1) := w5.1
            have w41 : I2 67 25 = nI (dpL st2 + 1) := by rw [w4, dp_y (Or.inl rfl)]
            refine pE_aload_n dX12_formula_87 rfl rfl ?_
            refine pE_dupR dX12_formula_88 ?_
            refine pE_getI dX12_formula_89 flX12_254 rfl (Or.inl rfl) (by first | assumption | rfl) ?_
            rw [w51]
            refine pE_iconst (v := nI 1) dX12_formula_92 rfl ?_
            refine pE_isubN dX12_formula_93 (by omega) ?_
            rw [Nat.add_sub_cancel]
            refine pE_putI dX12_formula_94 flX12_254 ftX12 fiX12_21 rfl rfl (by first | assumption | rfl) ?_
            refine pE_aload_n dX12_formula_97 rfl rfl ?_
            refine pE_dupR dX12_formula_98 ?_
            refine pE_getI dX12_formula_99 flX12_264 rfl (Or.inl rfl) (by first | assumption | rfl) ?_
            rw [pu_at, if_neg (by omega), w41]
            refine pE_iconst (v := nI 1) dX12_formula_102 rfl ?_
            refine pE_isubN dX12_formula_103 (by omega) ?_
            rw [Nat.add_sub_cancel]
            refine pE_putI dX12_formula_104 flX12_264 ftX12 fiX12_25 rfl rfl (by first | assumption | rfl) ?_
            refine pE_aload_n dX12_formula_107 rfl rfl ?_
            refine pE_callV (d' := 2) (as := []) dX12_formula_108 lkX12_230 (cwX12_token _ _) ivX12_token ⟨_, rfl, rfl⟩ (by first | assumption | rfl) rfl rfl (Nat.le_of_ble_eq_true rfl) (by decide) pKK ?_
            refine M_X12_tokenN ((hT1.f x1).f (w := w) ((sMF.rf.u67 (by omega)).u67 (by omega))) ((hr.f x19).f (fun k hk => by rw [pu_at, if_neg (by omega), pu_at, if_neg (by omega)])) (by have := (tkGb_k hcb).1; omega) (fun I3 J3 y1 z1 y2 => ?_)
            refine pE_goto (tgt := 174) dX12_formula_111 (by decide) ?_
            refine pE_goto (tgt := 50) dX12_formula_174 (by decide) ?_
            exact ih f' _ _ _ _ _ _ _ (by omega) hf' ((hx.tr x1).tr (((sMF.rf.u67 (by omega)).u67 (by omega)).tr y1.f)) (jx.tr z1) y2 (xo.fr y1) hi2
          · refine pE_if_eq_t (tgt := 114) dX12_formula_79 (by decide) nI_0 ?_
            have hncb : ¬ (tkGb B n p 41 = true ∧ hBr st = true) := by
              first
              | exact fun z => hnb z.1
              | exact fun z => zb z.2
            exact L_X12_formG hT hw hu0 hq (fun f st p o u I1 J1 v3 hf => ih f v3 st p o u I1 J1 (by omega)) hru hx jx hr hm hi hncb
set_option maxHeartbeats 400000 in
set_option maxRecDepth 100000 in
theorem M_X12_formula {l : Launch} {X : pX} {t g : Nat} {I : pHI} {J : pHJ} {Q : pQ} {n w u0 p : Nat} {B : Nat → Nat} (hT : tpM I n B) (hw : w ≤ 1) (hu0 : u0 ≤ 30) (hr : mR0 B n p I J) (hk1 : tK B n p ≠ 1) (h22 : I 67 22 = nI u0) (hq : ∀ I1 J1, sMF w (pu I 78 w (nI 1)) I1 → jM J J1 → foR B n w u0 (foS B n (liS [] 0 (stp B n p))) I1 J1 → Q none I1 J1 (pR t g)) : pM l X yX12_formula mX12_formula 5 [.ref 67, .int (nI w)] pK pK I J (pR t g) Q := by
  obtain ⟨f0, hf0⟩ := fo_s (B := B) (n := n) (liS [] 0 (stp B n p))
  refine pM_of rfl (fun h => by cases h) rfl pKM (Nat.le_of_ble_eq_true rfl) ?_
  refine pE_aload_n dX12_formula_0 rfl rfl ?_
  refine pE_callV (d' := 2) (as := []) dX12_formula_1 lkX12_230 (cwX12_token _ _) ivX12_token ⟨_, rfl, rfl⟩ (by first | assumption | rfl) rfl rfl (Nat.le_of_ble_eq_true rfl) (by decide) pKK ?_
  refine M_X12_tokenN hT hr hk1 (fun I1 J1 x1 y1 x2 => ?_)
  have hT1 : tpM (pu I1 78 w (nI 1)) n B := (hT.r x1).fr (by rw [pu_ne _ _ _ (by decide)]) (fun i => by rw [pu_ne _ _ _ (by decide)])
  refine pE_aload_n dX12_formula_4 rfl rfl ?_
  refine pE_iload_n dX12_formula_5 rfl rfl ?_
  refine pE_putI dX12_formula_6 flX12_251 ftX12 fiX12_20 rfl rfl (by first | assumption | rfl) ?_
  refine pE_aload_n dX12_formula_9 rfl rfl ?_
  refine pE_getR dX12_formula_10 flX12_45 rfl (by first | assumption | rfl) (by first | assumption | rfl) ?_
  refine pE_aload_n dX12_formula_13 rfl rfl ?_
  refine pE_getI dX12_formula_14 flX12_251 rfl (Or.inl rfl) (by first | assumption | rfl) ?_
  rw [pu_at, if_pos ⟨rfl, rfl⟩]
  refine pE_iconst (v := nI 1) dX12_formula_17 rfl ?_
  refine pE_zastoreN dX12_formula_18 (by first | assumption | rfl) (by exact Or.inr nI_1') (by first | assumption | omega) (by omega) ?_
  refine pE_aload_n dX12_formula_19 rfl rfl ?_
  refine pE_getR dX12_formula_20 flX12_27 rfl (by first | assumption | rfl) (by first | assumption | rfl) ?_
  refine pE_aload_n dX12_formula_23 rfl rfl ?_
  refine pE_getI dX12_formula_24 flX12_251 rfl (Or.inl rfl) (by first | assumption | rfl) ?_
  rw [pu_ne _ _ _ (show (67 : Nat) ≠ 78 by decide), pu_at, if_pos ⟨rfl, rfl⟩]
  refine pE_iconst (v := nI 0) dX12_formula_27 rfl ?_
  refine pE_iastoreN dX12_formula_28 (by first | assumption | rfl) (by first | assumption | omega) (by omega) ?_
  refine pE_aload_n dX12_formula_29 rfl rfl ?_
  refine pE_iconst (v := nI 0) dX12_formula_30 rfl ?_
  refine pE_putI dX12_formula_31 flX12_254 ftX12 fiX12_21 rfl rfl (by first | assumption | rfl) ?_
  refine pE_aload_n dX12_formula_34 rfl rfl ?_
  refine pE_iconst (v := nI 0) dX12_formula_35 rfl ?_
  refine pE_putI dX12_formula_36 flX12_264 ftX12 fiX12_25 rfl rfl (by first | assumption | rfl) ?_
  refine pE_aload_n dX12_formula_39 rfl rfl ?_
  refine pE_iconst (v := nI 0) dX12_formula_40 rfl ?_
  refine pE_putI dX12_formula_41 flX12_270 ftX12 fiX12_24 rfl rfl (by first | assumption | rfl) ?_
  have hh : ∀ c k, pu (pu (pu (pu (pu (pu I1 67 20 (nI w)) 78 w (nI 1)) 72 w (nI 0)) 67 21 (nI 0)) 67 25 (nI 0)) 67 24 (nI 0) c k = pu (pu (pu (pu (pu (pu I1 78 w (nI 1)) 67 20 (nI w)) 72 w (nI 0)) 67 21 (nI 0)) 67 25 (nI 0)) 67 24 (nI 0) c k := fun c k => by
    rw [pu_at, pu_at, pu_at, pu_at, pu_at, pu_at, pu_at _ 67 24, pu_at _ 67 25, pu_at _ 67 21, pu_at _ 72 w, pu_at _ 67 20, pu_at _ 78 w]
    by_cases a : c = 67
    · subst a; simp
    · simp [a]
  have hxx : sMF w (pu I1 78 w (nI 1)) (pu (pu (pu (pu (pu (pu I1 67 20 (nI w)) 78 w (nI 1)) 72 w (nI 0)) 67 21 (nI 0)) 67 25 (nI 0)) 67 24 (nI 0)) := fun c k a b d e => by
    rw [hh]; exact (((((sMF.rf.u67 (by omega)).u72 rfl).u67 (by omega)).u67 (by omega)).u67 (by omega)) c k a b d e
  have hmq : mQ w u0 [] [] 0 (pu (pu (pu (pu (pu (pu I1 67 20 (nI w)) 78 w (nI 1)) 72 w (nI 0)) 67 21 (nI 0)) 67 25 (nI 0)) 67 24 (nI 0)) := by
    refine ⟨?_, ?_, ?_, ?_, ⟨?_, fun i c h => by cases h⟩, ⟨?_, fun i k m h => by cases h⟩, fun c h => by cases h⟩
    · rw [pu_at, if_neg (by omega), pu_at, if_neg (by omega), pu_at, if_neg (by omega), pu_ne _ _ _ (by decide), pu_ne _ _ _ (by decide), pu_at, if_pos ⟨rfl, rfl⟩]
    · rw [pu_at, if_neg (by omega), pu_at, if_neg (by omega), pu_at, if_neg (by omega), pu_ne _ _ _ (by decide), pu_ne _ _ _ (by decide), pu_at, if_neg (by omega), x1 67 22 (by omega)]; exact h22
    · rw [pu_at, if_pos ⟨rfl, rfl⟩]
    · rw [pu_at, if_neg (by omega), pu_at, if_pos ⟨rfl, rfl⟩]; rfl
    · rw [pu_at, if_neg (by omega), pu_at, if_neg (by omega), pu_at, if_pos ⟨rfl, rfl⟩]; rfl
    · rw [pu_ne _ _ _ (by decide), pu_ne _ _ _ (by decide), pu_ne _ _ _ (by decide), pu_at, if_pos ⟨rfl, rfl⟩]; rfl
  have hq2 : ∀ I3 J3, sMF w (pu I1 78 w (nI 1)) I3 → jM J1 J3 → foR B n w u0 (foS B n (liS [] 0 (stp B n p))) I3 J3 → Q none I3 J3 (pR t g) := fun I3 J3 a b d => hq I3 J3 (fun c k e1 e2 e3 e4 => by
    rw [a c k e1 e2 e3 e4, pu_at, pu_at]
    split
    · rfl
    · exact x1 c k (fun z => e1 ⟨z.1, by omega⟩)) (y1.tr b) d
  refine pE_aload_n dX12_formula_44 rfl rfl ?_
  refine pE_callV (d' := 4) (as := []) dX12_formula_45 lkX12_289 (cwX12_unit _ _) ivX12_unit ⟨_, rfl, rfl⟩ (by first | assumption | rfl) rfl rfl (Nat.le_of_ble_eq_true rfl) (by decide) pKK ?_
  refine M_X12_unit (f0 := f0) (res := foS B n (liS [] 0 (stp B n p))) (hT1.f hxx) hw hu0 hf0 (x2.f (fun k hk => by rw [pu_at, if_neg (by omega), pu_at, if_neg (by omega), pu_at, if_neg (by omega), pu_ne _ _ _ (by decide), pu_ne _ _ _ (by decide), pu_at, if_neg (by omega)])) hmq (by simp [iN, dpL]) (fun I3 J3 u1 u2 u3 => ?_)
  refine pE_iconst (v := nI 1) dX12_formula_48 rfl ?_
  refine pE_istore_n (lc' := [_, _, some (.int _), _]) dX12_formula_49 rfl (Nat.le_of_ble_eq_true rfl) rfl rfl ?_
  rcases u3 with ⟨e, e1, e2⟩ | ⟨f2, st2, p2, o2, u2x, e1, e2, e3, e4, e5⟩
  · exact L_X12_formE hw hq2 (hxx.tr u1) u2 e1 e2
  · exact L_X12_form hT1 hw hu0 hq2 (f2 + 1) f2 _ _ _ _ _ _ _ (by omega) e2 (hxx.tr u1) u2 e3 e4 e5
