set_option maxHeartbeats 4000000 in
set_option maxRecDepth 100000 in
theorem M_X12_truth {l : Launch} {X : pX} {t g : Nat} {I : pHI} {J : pHJ} {Q : pQ} {c : Nat} (hc : c = 0 ∨ c = 1) (hq : Q (some (.int (nI c))) I J (pR t g)) : pM l X yX12_truth mX12_truth 0 [.int (nI c)] pK pK I J (pR t g) Q := by
  refine pM_of rfl (fun h => by cases h) rfl pKM (Nat.le_of_ble_eq_true rfl) ?_
  rcases hc with rfl | rfl
  · refine pE_iload_n dX12_truth_0 rfl rfl ?_
    refine pE_if_eq_t (tgt := 8) dX12_truth_1 (by decide) nI_0 ?_
    refine pE_iconst (v := nI 0) dX12_truth_8 rfl ?_
    refine pE_iret dX12_truth_9 rfl rfl ?_
    exact hq
  · refine pE_iload_n dX12_truth_0 rfl rfl ?_
    refine pE_if_eq_f (tgt := 8) dX12_truth_1 (by decide) nI_1n0 ?_
    refine pE_iconst (v := nI 1) dX12_truth_4 rfl ?_
    refine pE_goto (tgt := 9) dX12_truth_5 (by decide) ?_
    refine pE_iret dX12_truth_9 rfl rfl ?_
    exact hq
set_option maxHeartbeats 4000000 in
set_option maxRecDepth 100000 in
theorem M_X12_within {l : Launch} {X : pX} {t g : Nat} {I : pHI} {J : pHJ} {Q : pQ} {v : Int32} {m : Nat} (hm : m < 2 ^ 31) (hq : Q (some (.int (nI (clp v m)))) I J (pR t g)) : pM l X yX12_within mX12_within 0 [.int v, .int (nI m)] pK pK I J (pR t g) Q := by
  refine pM_of rfl (fun h => by cases h) rfl pKM (Nat.le_of_ble_eq_true rfl) ?_
  refine pE_iload_n dX12_within_0 rfl rfl ?_
  refine pE_if_ge (tgt := 8) dX12_within_1 (by decide) (fun k1 => ?_) (fun k1 => ?_)
  · refine pE_iload_n dX12_within_8 rfl rfl ?_
    refine pE_iload_n dX12_within_9 rfl rfl ?_
    refine pE_icmp_le (tgt := 17) dX12_within_10 (by decide) (fun k2 => ?_) (fun k2 => ?_)
    · refine pE_iload_n dX12_within_17 rfl rfl ?_
      refine pE_iret dX12_within_18 rfl rfl ?_
      first | exact cgQ (by rw [clp_neg (Int32.not_le.mp k1)]) hq | exact cgQ (clp_in hm (Int32.not_lt.mpr k1) (by first | exact Int32.not_lt.mpr k2 | exact fun h => k2 (Int32.not_lt.mp (fun h2 => Int32.lt_irrefl (Int32.lt_trans h h2))))) hq | exact cgQ (by rw [clp_gt hm (Int32.not_le.mp k2)]) hq
    · refine pE_iload_n dX12_within_13 rfl rfl ?_
      refine pE_goto (tgt := 18) dX12_within_14 (by decide) ?_
      refine pE_iret dX12_within_18 rfl rfl ?_
      first | exact cgQ (by rw [clp_neg (Int32.not_le.mp k1)]) hq | exact cgQ (clp_in hm (Int32.not_lt.mpr k1) (by first | exact Int32.not_lt.mpr k2 | exact fun h => k2 (Int32.not_lt.mp (fun h2 => Int32.lt_irrefl (Int32.lt_trans h h2))))) hq | exact cgQ (by rw [clp_gt hm (Int32.not_le.mp k2)]) hq
  · refine pE_iconst (v := nI 0) dX12_within_4 rfl ?_
    refine pE_goto (tgt := 18) dX12_within_5 (by decide) ?_
    refine pE_iret dX12_within_18 rfl rfl ?_
    first | exact cgQ (by rw [clp_neg (Int32.not_le.mp k1)]) hq | exact cgQ (clp_in hm (Int32.not_lt.mpr k1) (by first | exact Int32.not_lt.mpr k2 | exact fun h => k2 (Int32.not_lt.mp (fun h2 => Int32.lt_irrefl (Int32.lt_trans h h2))))) hq | exact cgQ (by rw [clp_gt hm (Int32.not_le.mp k2)]) hq
set_option maxHeartbeats 4000000 in
set_option maxRecDepth 100000 in
theorem M_X12_done {l : Launch} {X : pX} {t g : Nat} {I : pHI} {J : pHJ} {Q : pQ} {k : Nat} {a b : Int32} (hk : isSg k) (hq : Q (some (.int (dn k a b))) I J (pR t g)) : pM l X yX12_done mX12_done 1 [.int (nI k), .int a, .int b] pK pK I J (pR t g) Q := by
  refine pM_of rfl (fun h => by cases h) rfl pKM (Nat.le_of_ble_eq_true rfl) ?_
  refine pE_iload_n dX12_done_0 rfl rfl ?_
  rcases hk with rfl | rfl | rfl | rfl | rfl | rfl | rfl | rfl | rfl | rfl
  · refine pE_tableIn (off := 143) (tgt := 144) dX12_done_1 (by decide +kernel) (by decide +kernel) rfl (by decide) ?_
    refine pE_iload_n dX12_done_144 rfl rfl ?_
    refine pE_if_ne (tgt := 152) dX12_done_145 (by decide) (fun h145 => ?_) (fun h145 => ?_)
    · refine pE_iload_n dX12_done_152 rfl rfl ?_
      refine pE_iload_n dX12_done_153 rfl rfl ?_
      refine pE_irem dX12_done_154 (by assumption) ?_
      refine pE_iret dX12_done_155 rfl rfl ?_
      refine cgQ ?_ hq
      simp [dn, *]
    · refine pE_iconst (v := nI 0) dX12_done_148 rfl ?_
      refine pE_goto (tgt := 155) dX12_done_149 (by decide) ?_
      refine pE_iret dX12_done_155 rfl rfl ?_
      refine cgQ ?_ hq
      simp [dn, *]
  · refine pE_tableIn (off := 197) (tgt := 198) dX12_done_1 (by decide +kernel) (by decide +kernel) rfl (by decide) ?_
    refine pE_iload_n dX12_done_198 rfl rfl ?_
    refine pE_if_eq (tgt := 210) dX12_done_199 (by decide) (fun h199 => ?_) (fun h199 => ?_)
    · refine pE_iconst (v := nI 0) dX12_done_210 rfl ?_
      refine pE_callS (d' := 0) (as := [_]) dX12_done_211 lkX12_304 (cwX12_truth _ _) svX12_truth rfl rfl (Nat.le_of_ble_eq_true rfl) (by decide) pKK ?_
      refine M_X12_truth (by first | exact Or.inl rfl | exact Or.inr rfl) ?_
      refine pE_iret dX12_done_214 rfl rfl ?_
      refine cgQ ?_ hq
      simp [dn, *]
    · refine pE_iload_n dX12_done_202 rfl rfl ?_
      refine pE_if_eq (tgt := 210) dX12_done_203 (by decide) (fun h203 => ?_) (fun h203 => ?_)
      · refine pE_iconst (v := nI 0) dX12_done_210 rfl ?_
        refine pE_callS (d' := 0) (as := [_]) dX12_done_211 lkX12_304 (cwX12_truth _ _) svX12_truth rfl rfl (Nat.le_of_ble_eq_true rfl) (by decide) pKK ?_
        refine M_X12_truth (by first | exact Or.inl rfl | exact Or.inr rfl) ?_
        refine pE_iret dX12_done_214 rfl rfl ?_
        refine cgQ ?_ hq
        simp [dn, *]
      · refine pE_iconst (v := nI 1) dX12_done_206 rfl ?_
        refine pE_goto (tgt := 211) dX12_done_207 (by decide) ?_
        refine pE_callS (d' := 0) (as := [_]) dX12_done_211 lkX12_304 (cwX12_truth _ _) svX12_truth rfl rfl (Nat.le_of_ble_eq_true rfl) (by decide) pKK ?_
        refine M_X12_truth (by first | exact Or.inl rfl | exact Or.inr rfl) ?_
        refine pE_iret dX12_done_214 rfl rfl ?_
        refine cgQ ?_ hq
        simp [dn, *]
  · refine pE_tableIn (off := 127) (tgt := 128) dX12_done_1 (by decide +kernel) (by decide +kernel) rfl (by decide) ?_
    refine pE_iload_n dX12_done_128 rfl rfl ?_
    refine pE_iload_n dX12_done_129 rfl rfl ?_
    refine pE_imul dX12_done_130 ?_
    refine pE_iret dX12_done_131 rfl rfl ?_
    refine cgQ ?_ hq
    simp [dn, *]
  · refine pE_tableIn (off := 119) (tgt := 120) dX12_done_1 (by decide +kernel) (by decide +kernel) rfl (by decide) ?_
    refine pE_iload_n dX12_done_120 rfl rfl ?_
    refine pE_iload_n dX12_done_121 rfl rfl ?_
    refine pE_iadd dX12_done_122 ?_
    refine pE_iret dX12_done_123 rfl rfl ?_
    refine cgQ ?_ hq
    simp [dn, *]
  · refine pE_tableIn (off := 123) (tgt := 124) dX12_done_1 (by decide +kernel) (by decide +kernel) rfl (by decide) ?_
    refine pE_iload_n dX12_done_124 rfl rfl ?_
    refine pE_iload_n dX12_done_125 rfl rfl ?_
    refine pE_isub dX12_done_126 ?_
    refine pE_iret dX12_done_127 rfl rfl ?_
    refine cgQ ?_ hq
    simp [dn, *]
  · refine pE_tableIn (off := 131) (tgt := 132) dX12_done_1 (by decide +kernel) (by decide +kernel) rfl (by decide) ?_
    refine pE_iload_n dX12_done_132 rfl rfl ?_
    refine pE_if_ne (tgt := 140) dX12_done_133 (by decide) (fun h133 => ?_) (fun h133 => ?_)
    · refine pE_iload_n dX12_done_140 rfl rfl ?_
      refine pE_iload_n dX12_done_141 rfl rfl ?_
      refine pE_idiv dX12_done_142 (by assumption) ?_
      refine pE_iret dX12_done_143 rfl rfl ?_
      refine cgQ ?_ hq
      simp [dn, *]
    · refine pE_iconst (v := nI 0) dX12_done_136 rfl ?_
      refine pE_goto (tgt := 143) dX12_done_137 (by decide) ?_
      refine pE_iret dX12_done_143 rfl rfl ?_
      refine cgQ ?_ hq
      simp [dn, *]
  · refine pE_tableIn (off := 155) (tgt := 156) dX12_done_1 (by decide +kernel) (by decide +kernel) rfl (by decide) ?_
    refine pE_iload_n dX12_done_156 rfl rfl ?_
    refine pE_iload_n dX12_done_157 rfl rfl ?_
    refine pE_icmp_ge (tgt := 165) dX12_done_158 (by decide) (fun h158 => ?_) (fun h158 => ?_)
    · refine pE_iconst (v := nI 0) dX12_done_165 rfl ?_
      refine pE_callS (d' := 0) (as := [_]) dX12_done_166 lkX12_304 (cwX12_truth _ _) svX12_truth rfl rfl (Nat.le_of_ble_eq_true rfl) (by decide) pKK ?_
      refine M_X12_truth (by first | exact Or.inl rfl | exact Or.inr rfl) ?_
      refine pE_iret dX12_done_169 rfl rfl ?_
      refine cgQ ?_ hq
      simp [dn, *]
    · refine pE_iconst (v := nI 1) dX12_done_161 rfl ?_
      refine pE_goto (tgt := 166) dX12_done_162 (by decide) ?_
      refine pE_callS (d' := 0) (as := [_]) dX12_done_166 lkX12_304 (cwX12_truth _ _) svX12_truth rfl rfl (Nat.le_of_ble_eq_true rfl) (by decide) pKK ?_
      refine M_X12_truth (by first | exact Or.inl rfl | exact Or.inr rfl) ?_
      refine pE_iret dX12_done_169 rfl rfl ?_
      refine cgQ ?_ hq
      simp [dn, *]
  · refine pE_tableIn (off := 183) (tgt := 184) dX12_done_1 (by decide +kernel) (by decide +kernel) rfl (by decide) ?_
    refine pE_iload_n dX12_done_184 rfl rfl ?_
    refine pE_iload_n dX12_done_185 rfl rfl ?_
    refine pE_icmp_ne (tgt := 193) dX12_done_186 (by decide) (fun h186 => ?_) (fun h186 => ?_)
    · refine pE_iconst (v := nI 0) dX12_done_193 rfl ?_
      refine pE_callS (d' := 0) (as := [_]) dX12_done_194 lkX12_304 (cwX12_truth _ _) svX12_truth rfl rfl (Nat.le_of_ble_eq_true rfl) (by decide) pKK ?_
      refine M_X12_truth (by first | exact Or.inl rfl | exact Or.inr rfl) ?_
      refine pE_iret dX12_done_197 rfl rfl ?_
      refine cgQ ?_ hq
      simp [dn, *]
    · refine pE_iconst (v := nI 1) dX12_done_189 rfl ?_
      refine pE_goto (tgt := 194) dX12_done_190 (by decide) ?_
      refine pE_callS (d' := 0) (as := [_]) dX12_done_194 lkX12_304 (cwX12_truth _ _) svX12_truth rfl rfl (Nat.le_of_ble_eq_true rfl) (by decide) pKK ?_
      refine M_X12_truth (by first | exact Or.inl rfl | exact Or.inr rfl) ?_
      refine pE_iret dX12_done_197 rfl rfl ?_
      refine cgQ ?_ hq
      simp [dn, *]
  · refine pE_tableIn (off := 169) (tgt := 170) dX12_done_1 (by decide +kernel) (by decide +kernel) rfl (by decide) ?_
    refine pE_iload_n dX12_done_170 rfl rfl ?_
    refine pE_iload_n dX12_done_171 rfl rfl ?_
    refine pE_icmp_le (tgt := 179) dX12_done_172 (by decide) (fun h172 => ?_) (fun h172 => ?_)
    · refine pE_iconst (v := nI 0) dX12_done_179 rfl ?_
      refine pE_callS (d' := 0) (as := [_]) dX12_done_180 lkX12_304 (cwX12_truth _ _) svX12_truth rfl rfl (Nat.le_of_ble_eq_true rfl) (by decide) pKK ?_
      refine M_X12_truth (by first | exact Or.inl rfl | exact Or.inr rfl) ?_
      refine pE_iret dX12_done_183 rfl rfl ?_
      refine cgQ ?_ hq
      simp [dn, *]
    · refine pE_iconst (v := nI 1) dX12_done_175 rfl ?_
      refine pE_goto (tgt := 180) dX12_done_176 (by decide) ?_
      refine pE_callS (d' := 0) (as := [_]) dX12_done_180 lkX12_304 (cwX12_truth _ _) svX12_truth rfl rfl (Nat.le_of_ble_eq_true rfl) (by decide) pKK ?_
      refine M_X12_truth (by first | exact Or.inl rfl | exact Or.inr rfl) ?_
      refine pE_iret dX12_done_183 rfl rfl ?_
      refine cgQ ?_ hq
      simp [dn, *]
  · refine pE_tableOut (tgt := 215) dX12_done_1 (by decide +kernel) (by decide) ?_
    refine pE_iload_n dX12_done_215 rfl rfl ?_
    refine pE_if_ne (tgt := 223) dX12_done_216 (by decide) (fun h216 => ?_) (fun h216 => ?_)
    · refine pE_iconst (v := nI 1) dX12_done_223 rfl ?_
      refine pE_goto (tgt := 228) dX12_done_224 (by decide) ?_
      refine pE_callS (d' := 0) (as := [_]) dX12_done_228 lkX12_304 (cwX12_truth _ _) svX12_truth rfl rfl (Nat.le_of_ble_eq_true rfl) (by decide) pKK ?_
      refine M_X12_truth (by first | exact Or.inl rfl | exact Or.inr rfl) ?_
      refine pE_iret dX12_done_231 rfl rfl ?_
      refine cgQ ?_ hq
      simp [dn, *]
    · refine pE_iload_n dX12_done_219 rfl rfl ?_
      refine pE_if_eq (tgt := 227) dX12_done_220 (by decide) (fun h220 => ?_) (fun h220 => ?_)
      · refine pE_iconst (v := nI 0) dX12_done_227 rfl ?_
        refine pE_callS (d' := 0) (as := [_]) dX12_done_228 lkX12_304 (cwX12_truth _ _) svX12_truth rfl rfl (Nat.le_of_ble_eq_true rfl) (by decide) pKK ?_
        refine M_X12_truth (by first | exact Or.inl rfl | exact Or.inr rfl) ?_
        refine pE_iret dX12_done_231 rfl rfl ?_
        refine cgQ ?_ hq
        simp [dn, *]
      · refine pE_iconst (v := nI 1) dX12_done_223 rfl ?_
        refine pE_goto (tgt := 228) dX12_done_224 (by decide) ?_
        refine pE_callS (d' := 0) (as := [_]) dX12_done_228 lkX12_304 (cwX12_truth _ _) svX12_truth rfl rfl (Nat.le_of_ble_eq_true rfl) (by decide) pKK ?_
        refine M_X12_truth (by first | exact Or.inl rfl | exact Or.inr rfl) ?_
        refine pE_iret dX12_done_231 rfl rfl ?_
        refine cgQ ?_ hq
        simp [dn, *]
set_option maxHeartbeats 4000000 in
set_option maxRecDepth 100000 in
theorem L_X12_worked {l : Launch} {X : pX} {t g : Nat} {I : pHI} {J : pHJ} {Q : pQ} {w : Nat} {p : pP} {x : Nat → Int32} {y2 y3 y4 y5 : Int32} (hw1 : w ≤ 1) (hF : mF w p I) (hq : ∀ I1, sb I I1 → Q (some (.int (ev p x))) I1 J (pR t g)) : ∀ (p2 : pP) (i : Nat) (s : List Int32) (I1 : pHI), p.drop i = p2 → i ≤ p.length → sb I I1 → mk s I1 → (∀ c, 1 ≤ c → c ≤ 6 → I1 79 (c - 1) = x c) → s.length ≤ 32 → wfp p2 s.length → (evs x p2 s).headD 0 = ev p x → pE l X mX12_worked 2 pK 79 [some (.ref 67), some (.int (nI w)), some (.int y2), some (.int y3), some (.int y4), some (.int y5), some (.int (nI s.length)), some (.int (nI (320 * w + i)))] [] pK I1 J (pR t g) Q := by
  intro p2
  induction p2 with
  | nil =>
    intro i s I1 hd hi hs hk hx hl hw he
    have hi2 : i = p.length := by have := congrArg List.length hd; simp at this; omega
    obtain ⟨b1, b2, b3⟩ := mF.sb hF hs
    have hw : s.length = 1 := hw
    obtain ⟨a, rfl⟩ : ∃ a, s = [a] := by match s, hw with | [a], _ => exact ⟨a, rfl⟩
    refine pE_iload dX12_worked_79 rfl ?_
    refine pE_sipush (v := nI 320) dX12_worked_81 rfl ?_
    refine pE_iload_n dX12_worked_84 rfl rfl ?_
    refine pE_imulN dX12_worked_85 ?_
    refine pE_aload_n dX12_worked_86 rfl rfl ?_
    refine pE_getR dX12_worked_87 flX12_36 rfl (by first | assumption | rfl) (by first | assumption | rfl) ?_
    refine pE_iload_n dX12_worked_90 rfl rfl ?_
    refine pE_ialoadN dX12_worked_91 (by first | assumption | rfl) (by first | assumption | omega) (by omega) ?_
    rw [b2]
    refine pE_iaddN dX12_worked_92 ?_
    refine pE_icmp_ge (tgt := 249) dX12_worked_93 (by decide) (fun h93 => ?_) (fun h93 => ?_)
    · have g93 := nq_le (by omega) (by omega) h93
      refine pE_aload_n dX12_worked_249 rfl rfl ?_
      refine pE_getR dX12_worked_250 flX12_42 rfl (by first | assumption | rfl) (by first | assumption | rfl) ?_
      refine pE_iconst (v := nI 0) dX12_worked_253 rfl ?_
      refine pE_ialoadN dX12_worked_254 (by first | assumption | rfl) (by first | assumption | omega) (by omega) ?_
      refine pE_iret dX12_worked_255 rfl rfl ?_
      refine cgQ ?_ (hq _ hs)
      have h0 := hk.top
      simp only [List.length_nil] at h0
      rw [h0]
      exact he
    · have g93 := nq_nle (by omega) (by omega) h93
      exact absurd g93 (by omega)
  | cons q p2 ih =>
    intro i s I1 hd hi hs hk hx hl hw he
    have hlt : i < p.length := by rcases Nat.lt_or_ge i p.length with h | h; exact h; rw [List.drop_eq_nil_of_le h] at hd; cases hd
    have hq0 : p[i]? = some q := by have := congrArg (fun z => z[0]?) hd; simpa using this
    have hd2 : p.drop (i + 1) = p2 := by have := congrArg List.tail hd; simpa using this
    obtain ⟨b1, b2, b3⟩ := mF.sb hF hs
    obtain ⟨k, m⟩ := q
    have hw2 := hw
    rcases b3 i k m hq0 with ⟨rfl, c1, c2⟩ | ⟨⟨k1, k6⟩, c1, c2⟩ | ⟨rfl, c1⟩ | ⟨hk3, c1, c2⟩
    · have hw3 : s.length + 1 ≤ 32 ∧ wfp p2 (s.length + 1) := by rcases hw with ⟨-, h1, h2⟩ | ⟨h1, -, -⟩ | ⟨h1, -, -⟩; exact ⟨h1, h2⟩; exact absurd (show (0 : Nat) = 7 from h1) (by decide); exact absurd (show isSg 0 from h1) (by simp [isSg])
      refine pE_iload dX12_worked_79 rfl ?_
      refine pE_sipush (v := nI 320) dX12_worked_81 rfl ?_
      refine pE_iload_n dX12_worked_84 rfl rfl ?_
      refine pE_imulN dX12_worked_85 ?_
      refine pE_aload_n dX12_worked_86 rfl rfl ?_
      refine pE_getR dX12_worked_87 flX12_36 rfl (by first | assumption | rfl) (by first | assumption | rfl) ?_
      refine pE_iload_n dX12_worked_90 rfl rfl ?_
      refine pE_ialoadN dX12_worked_91 (by first | assumption | rfl) (by first | assumption | omega) (by omega) ?_
      rw [b2]
      refine pE_iaddN dX12_worked_92 ?_
      refine pE_icmp_ge (tgt := 249) dX12_worked_93 (by decide) (fun h93 => ?_) (fun h93 => ?_)
      · have g93 := nq_le (by omega) (by omega) h93
        exact absurd g93 (by omega)
      · have g93 := nq_nle (by omega) (by omega) h93
        refine pE_aload_n dX12_worked_96 rfl rfl ?_
        refine pE_getR dX12_worked_97 flX12_30 rfl (by first | assumption | rfl) (by first | assumption | rfl) ?_
        refine pE_iload dX12_worked_100 rfl ?_
        refine pE_ialoadN dX12_worked_102 (by first | assumption | rfl) (by first | assumption | omega) (by omega) ?_
        rw [c1]
        refine pE_if_eq (tgt := 117) dX12_worked_103 (by decide) (fun h103 => ?_) (fun h103 => ?_)
        · have g103 := nq_eq0 (by omega) h103
          refine pE_aload_n dX12_worked_117 rfl rfl ?_
          refine pE_getR dX12_worked_118 flX12_42 rfl (by first | assumption | rfl) (by first | assumption | rfl) ?_
          refine pE_iload dX12_worked_121 rfl ?_
          refine pE_aload_n dX12_worked_123 rfl rfl ?_
          refine pE_getR dX12_worked_124 flX12_30 rfl (by first | assumption | rfl) (by first | assumption | rfl) ?_
          refine pE_iload dX12_worked_127 rfl ?_
          refine pE_ialoadN dX12_worked_129 (by first | assumption | rfl) (by first | assumption | omega) (by omega) ?_
          rw [c1]
          refine pE_if_ne (tgt := 143) dX12_worked_130 (by decide) (fun h130 => ?_) (fun h130 => ?_)
          · have g130 := nq_ne0 (by omega) h130
            exact absurd g130 (by decide)
          · have g130 := nq_eq0 (by omega) h130
            refine pE_aload_n dX12_worked_133 rfl rfl ?_
            refine pE_getR dX12_worked_134 flX12_33 rfl (by first | assumption | rfl) (by first | assumption | rfl) ?_
            refine pE_iload dX12_worked_137 rfl ?_
            refine pE_ialoadN dX12_worked_139 (by first | assumption | rfl) (by first | assumption | omega) (by omega) ?_
            rw [c2]
            refine pE_goto (tgt := 155) dX12_worked_140 (by decide) ?_
            refine pE_iastoreN dX12_worked_155 (by first | assumption | rfl) (by first | assumption | omega) (by omega) ?_
            refine pE_iincN (c0 := 1) (lc' := [_, _, _, _, _, _, some (.int _), _]) dX12_worked_156 rfl rfl rfl rfl ?_
            refine pE_goto (tgt := 243) dX12_worked_159 (by decide) ?_
            refine pE_iincN (c0 := 1) (lc' := [_, _, _, _, _, _, _, some (.int _)]) dX12_worked_243 rfl rfl rfl rfl ?_
            refine pE_goto (tgt := 79) dX12_worked_246 (by decide) ?_
            refine pE_cg (ih (i + 1) (nI m :: s) _ hd2 (by omega) (hs.pu (by simp [scF])) hk.push (fun c h1 h2 => by rw [pu_ne _ _ _ (by decide : (79 : Nat) ≠ 77)]; exact hx c h1 h2) (by simp only [List.length_cons]; omega) hw3.2 (by simpa [evs, ev1] using he)) (by simp only [Nat.add_assoc, List.length_cons]) rfl rfl rfl rfl
        · have g103 := nq_ne0 (by omega) h103
          exact absurd g103 (by decide)
    · have hw3 : s.length + 1 ≤ 32 ∧ wfp p2 (s.length + 1) := by rcases hw with ⟨-, h1, h2⟩ | ⟨h1, -, -⟩ | ⟨h1, -, -⟩; exact ⟨h1, h2⟩; exact absurd (show k = 7 from h1) (by omega); exact absurd (show isSg k from h1) (by unfold isSg; omega)
      refine pE_iload dX12_worked_79 rfl ?_
      refine pE_sipush (v := nI 320) dX12_worked_81 rfl ?_
      refine pE_iload_n dX12_worked_84 rfl rfl ?_
      refine pE_imulN dX12_worked_85 ?_
      refine pE_aload_n dX12_worked_86 rfl rfl ?_
      refine pE_getR dX12_worked_87 flX12_36 rfl (by first | assumption | rfl) (by first | assumption | rfl) ?_
      refine pE_iload_n dX12_worked_90 rfl rfl ?_
      refine pE_ialoadN dX12_worked_91 (by first | assumption | rfl) (by first | assumption | omega) (by omega) ?_
      rw [b2]
      refine pE_iaddN dX12_worked_92 ?_
      refine pE_icmp_ge (tgt := 249) dX12_worked_93 (by decide) (fun h93 => ?_) (fun h93 => ?_)
      · have g93 := nq_le (by omega) (by omega) h93
        exact absurd g93 (by omega)
      · have g93 := nq_nle (by omega) (by omega) h93
        refine pE_aload_n dX12_worked_96 rfl rfl ?_
        refine pE_getR dX12_worked_97 flX12_30 rfl (by first | assumption | rfl) (by first | assumption | rfl) ?_
        refine pE_iload dX12_worked_100 rfl ?_
        refine pE_ialoadN dX12_worked_102 (by first | assumption | rfl) (by first | assumption | omega) (by omega) ?_
        rw [c1]
        refine pE_if_eq (tgt := 117) dX12_worked_103 (by decide) (fun h103 => ?_) (fun h103 => ?_)
        · have g103 := nq_eq0 (by omega) h103
          exact absurd g103 (by decide)
        · have g103 := nq_ne0 (by omega) h103
          refine pE_aload_n dX12_worked_106 rfl rfl ?_
          refine pE_getR dX12_worked_107 flX12_30 rfl (by first | assumption | rfl) (by first | assumption | rfl) ?_
          refine pE_iload dX12_worked_110 rfl ?_
          refine pE_ialoadN dX12_worked_112 (by first | assumption | rfl) (by first | assumption | omega) (by omega) ?_
          rw [c1]
          refine pE_iconst (v := nI 1) dX12_worked_113 rfl ?_
          refine pE_icmp_ne (tgt := 162) dX12_worked_114 (by decide) (fun h114 => ?_) (fun h114 => ?_)
          · have g114 := nq_ne (by omega) (by omega) h114
            exact absurd rfl g114
          · have g114 := nq_eq (by omega) (by omega) h114
            refine pE_aload_n dX12_worked_117 rfl rfl ?_
            refine pE_getR dX12_worked_118 flX12_42 rfl (by first | assumption | rfl) (by first | assumption | rfl) ?_
            refine pE_iload dX12_worked_121 rfl ?_
            refine pE_aload_n dX12_worked_123 rfl rfl ?_
            refine pE_getR dX12_worked_124 flX12_30 rfl (by first | assumption | rfl) (by first | assumption | rfl) ?_
            refine pE_iload dX12_worked_127 rfl ?_
            refine pE_ialoadN dX12_worked_129 (by first | assumption | rfl) (by first | assumption | omega) (by omega) ?_
            rw [c1]
            refine pE_if_ne (tgt := 143) dX12_worked_130 (by decide) (fun h130 => ?_) (fun h130 => ?_)
            · have g130 := nq_ne0 (by omega) h130
              refine pE_aload_n dX12_worked_143 rfl rfl ?_
              refine pE_getR dX12_worked_144 flX12_49 rfl (by first | assumption | rfl) (by first | assumption | rfl) ?_
              refine pE_aload_n dX12_worked_147 rfl rfl ?_
              refine pE_getR dX12_worked_148 flX12_33 rfl (by first | assumption | rfl) (by first | assumption | rfl) ?_
              refine pE_iload dX12_worked_151 rfl ?_
              refine pE_ialoadN dX12_worked_153 (by first | assumption | rfl) (by first | assumption | omega) (by omega) ?_
              rw [c2]
              refine pE_ialoadN dX12_worked_154 (by first | assumption | rfl) (by first | assumption | omega) (by omega) ?_
              rw [hx k k1 k6]
              refine pE_iastoreN dX12_worked_155 (by first | assumption | rfl) (by first | assumption | omega) (by omega) ?_
              refine pE_iincN (c0 := 1) (lc' := [_, _, _, _, _, _, some (.int _), _]) dX12_worked_156 rfl rfl rfl rfl ?_
              refine pE_goto (tgt := 243) dX12_worked_159 (by decide) ?_
              refine pE_iincN (c0 := 1) (lc' := [_, _, _, _, _, _, _, some (.int _)]) dX12_worked_243 rfl rfl rfl rfl ?_
              refine pE_goto (tgt := 79) dX12_worked_246 (by decide) ?_
              refine pE_cg (ih (i + 1) (x k :: s) _ hd2 (by omega) (hs.pu (by simp [scF])) hk.push (fun c h1 h2 => by rw [pu_ne _ _ _ (by decide : (79 : Nat) ≠ 77)]; exact hx c h1 h2) (by simp only [List.length_cons]; omega) hw3.2 (by have h0 : ¬ k = 0 := (by omega); simpa [evs, ev1, h0, k6] using he)) (by simp only [Nat.add_assoc, List.length_cons]) rfl rfl rfl rfl
            · have g130 := nq_eq0 (by omega) h130
              exact absurd g130 (by decide)
    · have hw3 : 1 ≤ s.length ∧ wfp p2 s.length := by rcases hw with ⟨h1, -, -⟩ | ⟨-, h1, h2⟩ | ⟨h1, -, -⟩; exact absurd (show 7 ≤ 6 from h1) (by decide); exact ⟨h1, h2⟩; exact absurd (show isSg 7 from h1) (by simp [isSg])
      obtain ⟨a, s, rfl⟩ : ∃ a s2, s = a :: s2 := by
        cases s with
        | nil => exact absurd hw3.1 (by simp)
        | cons a s2 => exact ⟨a, s2, rfl⟩
      have hl2 : s.length + 1 ≤ 32 := hl
      simp only [List.length_cons]
      refine pE_iload dX12_worked_79 rfl ?_
      refine pE_sipush (v := nI 320) dX12_worked_81 rfl ?_
      refine pE_iload_n dX12_worked_84 rfl rfl ?_
      refine pE_imulN dX12_worked_85 ?_
      refine pE_aload_n dX12_worked_86 rfl rfl ?_
      refine pE_getR dX12_worked_87 flX12_36 rfl (by first | assumption | rfl) (by first | assumption | rfl) ?_
      refine pE_iload_n dX12_worked_90 rfl rfl ?_
      refine pE_ialoadN dX12_worked_91 (by first | assumption | rfl) (by first | assumption | omega) (by omega) ?_
      rw [b2]
      refine pE_iaddN dX12_worked_92 ?_
      refine pE_icmp_ge (tgt := 249) dX12_worked_93 (by decide) (fun h93 => ?_) (fun h93 => ?_)
      · have g93 := nq_le (by omega) (by omega) h93
        exact absurd g93 (by omega)
      · have g93 := nq_nle (by omega) (by omega) h93
        refine pE_aload_n dX12_worked_96 rfl rfl ?_
        refine pE_getR dX12_worked_97 flX12_30 rfl (by first | assumption | rfl) (by first | assumption | rfl) ?_
        refine pE_iload dX12_worked_100 rfl ?_
        refine pE_ialoadN dX12_worked_102 (by first | assumption | rfl) (by first | assumption | omega) (by omega) ?_
        rw [c1]
        refine pE_if_eq (tgt := 117) dX12_worked_103 (by decide) (fun h103 => ?_) (fun h103 => ?_)
        · have g103 := nq_eq0 (by omega) h103
          exact absurd g103 (by decide)
        · have g103 := nq_ne0 (by omega) h103
          refine pE_aload_n dX12_worked_106 rfl rfl ?_
          refine pE_getR dX12_worked_107 flX12_30 rfl (by first | assumption | rfl) (by first | assumption | rfl) ?_
          refine pE_iload dX12_worked_110 rfl ?_
          refine pE_ialoadN dX12_worked_112 (by first | assumption | rfl) (by first | assumption | omega) (by omega) ?_
          rw [c1]
          refine pE_iconst (v := nI 1) dX12_worked_113 rfl ?_
          refine pE_icmp_ne (tgt := 162) dX12_worked_114 (by decide) (fun h114 => ?_) (fun h114 => ?_)
          · have g114 := nq_ne (by omega) (by omega) h114
            refine pE_aload_n dX12_worked_162 rfl rfl ?_
            refine pE_getR dX12_worked_163 flX12_30 rfl (by first | assumption | rfl) (by first | assumption | rfl) ?_
            refine pE_iload dX12_worked_166 rfl ?_
            refine pE_ialoadN dX12_worked_168 (by first | assumption | rfl) (by first | assumption | omega) (by omega) ?_
            rw [c1]
            refine pE_iconst (v := nI 2) dX12_worked_169 rfl ?_
            refine pE_icmp_ne (tgt := 205) dX12_worked_170 (by decide) (fun h170 => ?_) (fun h170 => ?_)
            · have g170 := nq_ne (by omega) (by omega) h170
              exact absurd rfl g170
            · have g170 := nq_eq (by omega) (by omega) h170
              refine pE_aload_n dX12_worked_173 rfl rfl ?_
              refine pE_getR dX12_worked_174 flX12_42 rfl (by first | assumption | rfl) (by first | assumption | rfl) ?_
              refine pE_iload dX12_worked_177 rfl ?_
              refine pE_iconst (v := nI 1) dX12_worked_179 rfl ?_
              refine pE_isubN dX12_worked_180 (by omega) ?_
              rw [Nat.add_sub_cancel]
              refine pE_aload_n dX12_worked_181 rfl rfl ?_
              refine pE_getR dX12_worked_182 flX12_42 rfl (by first | assumption | rfl) (by first | assumption | rfl) ?_
              refine pE_iload dX12_worked_185 rfl ?_
              refine pE_iconst (v := nI 1) dX12_worked_187 rfl ?_
              refine pE_isubN dX12_worked_188 (by omega) ?_
              rw [Nat.add_sub_cancel]
              refine pE_ialoadN dX12_worked_189 (by first | assumption | rfl) (by first | assumption | omega) (by omega) ?_
              rw [hk.top]
              refine pE_if_ne (tgt := 197) dX12_worked_190 (by decide) (fun h190 => ?_) (fun h190 => ?_)
              · refine pE_iconst (v := nI 0) dX12_worked_197 rfl ?_
                refine pE_callS (d' := 0) (as := [_]) dX12_worked_198 lkX12_304 (cwX12_truth _ _) svX12_truth rfl rfl (Nat.le_of_ble_eq_true rfl) (by decide) pKK ?_
                refine M_X12_truth (by first | exact Or.inl rfl | exact Or.inr rfl) ?_
                refine pE_iastoreN dX12_worked_201 (by first | assumption | rfl) (by first | assumption | omega) (by omega) ?_
                refine pE_goto (tgt := 243) dX12_worked_202 (by decide) ?_
                refine pE_iincN (c0 := 1) (lc' := [_, _, _, _, _, _, _, some (.int _)]) dX12_worked_243 rfl rfl rfl rfl ?_
                refine pE_goto (tgt := 79) dX12_worked_246 (by decide) ?_
                first
                  | refine pE_cg (ih (i + 1) (nI 0 :: s) _ hd2 (by omega) (hs.pu (by simp [scF])) hk.set (fun c h1 h2 => by rw [pu_ne _ _ _ (by decide : (79 : Nat) ≠ 77)]; exact hx c h1 h2) hl hw3.2 (by simpa [evs, ev1, h190] using he)) (by simp only [Nat.add_assoc, List.length_cons]) rfl rfl rfl rfl
                  | refine pE_cg (ih (i + 1) (nI 1 :: s) _ hd2 (by omega) (hs.pu (by simp [scF])) hk.set (fun c h1 h2 => by rw [pu_ne _ _ _ (by decide : (79 : Nat) ≠ 77)]; exact hx c h1 h2) hl hw3.2 (by simpa [evs, ev1, h190] using he)) (by simp only [Nat.add_assoc, List.length_cons]) rfl rfl rfl rfl
              · refine pE_iconst (v := nI 1) dX12_worked_193 rfl ?_
                refine pE_goto (tgt := 198) dX12_worked_194 (by decide) ?_
                refine pE_callS (d' := 0) (as := [_]) dX12_worked_198 lkX12_304 (cwX12_truth _ _) svX12_truth rfl rfl (Nat.le_of_ble_eq_true rfl) (by decide) pKK ?_
                refine M_X12_truth (by first | exact Or.inl rfl | exact Or.inr rfl) ?_
                refine pE_iastoreN dX12_worked_201 (by first | assumption | rfl) (by first | assumption | omega) (by omega) ?_
                refine pE_goto (tgt := 243) dX12_worked_202 (by decide) ?_
                refine pE_iincN (c0 := 1) (lc' := [_, _, _, _, _, _, _, some (.int _)]) dX12_worked_243 rfl rfl rfl rfl ?_
                refine pE_goto (tgt := 79) dX12_worked_246 (by decide) ?_
                first
                  | refine pE_cg (ih (i + 1) (nI 0 :: s) _ hd2 (by omega) (hs.pu (by simp [scF])) hk.set (fun c h1 h2 => by rw [pu_ne _ _ _ (by decide : (79 : Nat) ≠ 77)]; exact hx c h1 h2) hl hw3.2 (by simpa [evs, ev1, h190] using he)) (by simp only [Nat.add_assoc, List.length_cons]) rfl rfl rfl rfl
                  | refine pE_cg (ih (i + 1) (nI 1 :: s) _ hd2 (by omega) (hs.pu (by simp [scF])) hk.set (fun c h1 h2 => by rw [pu_ne _ _ _ (by decide : (79 : Nat) ≠ 77)]; exact hx c h1 h2) hl hw3.2 (by simpa [evs, ev1, h190] using he)) (by simp only [Nat.add_assoc, List.length_cons]) rfl rfl rfl rfl
          · have g114 := nq_eq (by omega) (by omega) h114
            exact absurd g114 (by decide)
    · have hk8 : 8 ≤ k ∧ k ≤ 200 ∧ k ≠ 0 ∧ ¬ k ≤ 6 ∧ k ≠ 7 := by rcases hk3 with rfl | rfl | rfl | rfl | rfl | rfl | rfl | rfl | rfl | rfl <;> decide
      have hw3 : 2 ≤ s.length ∧ wfp p2 (s.length - 1) := by rcases hw with ⟨h1, -, -⟩ | ⟨h1, -, -⟩ | ⟨-, h1, h2⟩; exact absurd (show k ≤ 6 from h1) hk8.2.2.2.1; exact absurd (show k = 7 from h1) hk8.2.2.2.2; exact ⟨h1, h2⟩
      obtain ⟨b, a, s, rfl⟩ : ∃ b a s2, s = b :: a :: s2 := by
        match s, hw3.1 with
        | b :: a :: s2, _ => exact ⟨b, a, s2, rfl⟩
      have hl2 : s.length + 1 + 1 ≤ 32 := hl
      simp only [List.length_cons]
      refine pE_iload dX12_worked_79 rfl ?_
      refine pE_sipush (v := nI 320) dX12_worked_81 rfl ?_
      refine pE_iload_n dX12_worked_84 rfl rfl ?_
      refine pE_imulN dX12_worked_85 ?_
      refine pE_aload_n dX12_worked_86 rfl rfl ?_
      refine pE_getR dX12_worked_87 flX12_36 rfl (by first | assumption | rfl) (by first | assumption | rfl) ?_
      refine pE_iload_n dX12_worked_90 rfl rfl ?_
      refine pE_ialoadN dX12_worked_91 (by first | assumption | rfl) (by first | assumption | omega) (by omega) ?_
      rw [b2]
      refine pE_iaddN dX12_worked_92 ?_
      refine pE_icmp_ge (tgt := 249) dX12_worked_93 (by decide) (fun h93 => ?_) (fun h93 => ?_)
      · have g93 := nq_le (by omega) (by omega) h93
        exact absurd g93 (by omega)
      · have g93 := nq_nle (by omega) (by omega) h93
        refine pE_aload_n dX12_worked_96 rfl rfl ?_
        refine pE_getR dX12_worked_97 flX12_30 rfl (by first | assumption | rfl) (by first | assumption | rfl) ?_
        refine pE_iload dX12_worked_100 rfl ?_
        refine pE_ialoadN dX12_worked_102 (by first | assumption | rfl) (by first | assumption | omega) (by omega) ?_
        rw [c1]
        refine pE_if_eq (tgt := 117) dX12_worked_103 (by decide) (fun h103 => ?_) (fun h103 => ?_)
        · have g103 := nq_eq0 (by omega) h103
          exact absurd g103 (by decide)
        · have g103 := nq_ne0 (by omega) h103
          refine pE_aload_n dX12_worked_106 rfl rfl ?_
          refine pE_getR dX12_worked_107 flX12_30 rfl (by first | assumption | rfl) (by first | assumption | rfl) ?_
          refine pE_iload dX12_worked_110 rfl ?_
          refine pE_ialoadN dX12_worked_112 (by first | assumption | rfl) (by first | assumption | omega) (by omega) ?_
          rw [c1]
          refine pE_iconst (v := nI 1) dX12_worked_113 rfl ?_
          refine pE_icmp_ne (tgt := 162) dX12_worked_114 (by decide) (fun h114 => ?_) (fun h114 => ?_)
          · have g114 := nq_ne (by omega) (by omega) h114
            refine pE_aload_n dX12_worked_162 rfl rfl ?_
            refine pE_getR dX12_worked_163 flX12_30 rfl (by first | assumption | rfl) (by first | assumption | rfl) ?_
            refine pE_iload dX12_worked_166 rfl ?_
            refine pE_ialoadN dX12_worked_168 (by first | assumption | rfl) (by first | assumption | omega) (by omega) ?_
            rw [c1]
            refine pE_iconst (v := nI 2) dX12_worked_169 rfl ?_
            refine pE_icmp_ne (tgt := 205) dX12_worked_170 (by decide) (fun h170 => ?_) (fun h170 => ?_)
            · have g170 := nq_ne (by omega) (by omega) h170
              refine pE_iinc (c0 := -1) (lc' := [_, _, _, _, _, _, some (.int _), _]) dX12_worked_205 rfl rfl rfl rfl ?_
              rw [nI_dec]
              refine pE_aload_n dX12_worked_208 rfl rfl ?_
              refine pE_getR dX12_worked_209 flX12_42 rfl (by first | assumption | rfl) (by first | assumption | rfl) ?_
              refine pE_iload dX12_worked_212 rfl ?_
              refine pE_iconst (v := nI 1) dX12_worked_214 rfl ?_
              refine pE_isubN dX12_worked_215 (by omega) ?_
              rw [Nat.add_sub_cancel]
              refine pE_aload_n dX12_worked_216 rfl rfl ?_
              refine pE_getR dX12_worked_217 flX12_33 rfl (by first | assumption | rfl) (by first | assumption | rfl) ?_
              refine pE_iload dX12_worked_220 rfl ?_
              refine pE_ialoadN dX12_worked_222 (by first | assumption | rfl) (by first | assumption | omega) (by omega) ?_
              rw [c2]
              refine pE_aload_n dX12_worked_223 rfl rfl ?_
              refine pE_getR dX12_worked_224 flX12_42 rfl (by first | assumption | rfl) (by first | assumption | rfl) ?_
              refine pE_iload dX12_worked_227 rfl ?_
              refine pE_iconst (v := nI 1) dX12_worked_229 rfl ?_
              refine pE_isubN dX12_worked_230 (by omega) ?_
              rw [Nat.add_sub_cancel]
              refine pE_ialoadN dX12_worked_231 (by first | assumption | rfl) (by first | assumption | omega) (by omega) ?_
              rw [hk.tail.top]
              refine pE_aload_n dX12_worked_232 rfl rfl ?_
              refine pE_getR dX12_worked_233 flX12_42 rfl (by first | assumption | rfl) (by first | assumption | rfl) ?_
              refine pE_iload dX12_worked_236 rfl ?_
              refine pE_ialoadN dX12_worked_238 (by first | assumption | rfl) (by first | assumption | omega) (by omega) ?_
              rw [show I1 77 (s.length + 1) = b from hk.top]
              refine pE_callS (d' := 1) (as := [_, _, _]) dX12_worked_239 lkX12_308 (cwX12_done _ _) svX12_done rfl rfl (Nat.le_of_ble_eq_true rfl) (by decide) pKK ?_
              refine M_X12_done hk3 ?_
              refine pE_iastoreN dX12_worked_242 (by first | assumption | rfl) (by first | assumption | omega) (by omega) ?_
              refine pE_iincN (c0 := 1) (lc' := [_, _, _, _, _, _, _, some (.int _)]) dX12_worked_243 rfl rfl rfl rfl ?_
              refine pE_goto (tgt := 79) dX12_worked_246 (by decide) ?_
              refine pE_cg (ih (i + 1) (_ :: s) _ hd2 (by omega) (hs.pu (by simp [scF])) hk.tail.set (fun c h1 h2 => by rw [pu_ne _ _ _ (by decide : (79 : Nat) ≠ 77)]; exact hx c h1 h2) (by simp only [List.length_cons]; omega) hw3.2 (by simpa [evs, ev1, hk8] using he)) (by simp only [Nat.add_assoc, List.length_cons]) rfl rfl rfl rfl
            · have g170 := nq_eq (by omega) (by omega) h170
              exact absurd g170 (by decide)
          · have g114 := nq_eq (by omega) (by omega) h114
            exact absurd g114 (by decide)
set_option maxHeartbeats 4000000 in
set_option maxRecDepth 100000 in
theorem M_X12_worked {l : Launch} {X : pX} {t g : Nat} {I : pHI} {J : pHJ} {Q : pQ} {w : Nat} {p : pP} {x : Nat → Int32} {o : Int32} (hw1 : w ≤ 1) (hF : mF w p I) (hw : p = [] ∨ wfp p 0) (e4 : I 91 26 = x 4) (e5 : I 91 24 = x 5) (e6 : I 91 25 = x 6) (hq : ∀ I1, sb I I1 → Q (some (.int (if p = [] then o else ev p x))) I1 J (pR t g)) : pM l X yX12_worked mX12_worked 2 [.ref 67, .int (nI w), .int (x 1), .int (x 2), .int (x 3), .int o] pK pK I J (pR t g) Q := by
  refine pM_of rfl (fun h => by cases h) rfl pKM (Nat.le_of_ble_eq_true rfl) ?_
  refine pE_aload_n dX12_worked_0 rfl rfl ?_
  refine pE_getR dX12_worked_1 flX12_49 rfl (by first | assumption | rfl) (by first | assumption | rfl) ?_
  refine pE_iconst (v := nI 0) dX12_worked_4 rfl ?_
  refine pE_iload_n dX12_worked_5 rfl rfl ?_
  refine pE_iastoreN dX12_worked_6 (by first | assumption | rfl) (by first | assumption | omega) (by omega) ?_
  refine pE_aload_n dX12_worked_7 rfl rfl ?_
  refine pE_getR dX12_worked_8 flX12_49 rfl (by first | assumption | rfl) (by first | assumption | rfl) ?_
  refine pE_iconst (v := nI 1) dX12_worked_11 rfl ?_
  refine pE_iload_n dX12_worked_12 rfl rfl ?_
  refine pE_iastoreN dX12_worked_13 (by first | assumption | rfl) (by first | assumption | omega) (by omega) ?_
  refine pE_aload_n dX12_worked_14 rfl rfl ?_
  refine pE_getR dX12_worked_15 flX12_49 rfl (by first | assumption | rfl) (by first | assumption | rfl) ?_
  refine pE_iconst (v := nI 2) dX12_worked_18 rfl ?_
  refine pE_iload dX12_worked_19 rfl ?_
  refine pE_iastoreN dX12_worked_21 (by first | assumption | rfl) (by first | assumption | omega) (by omega) ?_
  refine pE_aload_n dX12_worked_22 rfl rfl ?_
  refine pE_getR dX12_worked_23 flX12_49 rfl (by first | assumption | rfl) (by first | assumption | rfl) ?_
  refine pE_iconst (v := nI 3) dX12_worked_26 rfl ?_
  refine pE_aload_n dX12_worked_27 rfl rfl ?_
  refine pE_getR dX12_worked_28 flX12_88 rfl (by first | assumption | rfl) (by first | assumption | rfl) ?_
  refine pE_bipush (v := nI 26) dX12_worked_31 rfl ?_
  refine pE_ialoadN dX12_worked_33 (by first | assumption | rfl) (by first | assumption | omega) (by omega) ?_
  rw [pu_ne _ _ _ (by decide : (91 : Nat) ≠ 79), pu_ne _ _ _ (by decide : (91 : Nat) ≠ 79), pu_ne _ _ _ (by decide : (91 : Nat) ≠ 79), e4]
  refine pE_iastoreN dX12_worked_34 (by first | assumption | rfl) (by first | assumption | omega) (by omega) ?_
  refine pE_aload_n dX12_worked_35 rfl rfl ?_
  refine pE_getR dX12_worked_36 flX12_49 rfl (by first | assumption | rfl) (by first | assumption | rfl) ?_
  refine pE_iconst (v := nI 4) dX12_worked_39 rfl ?_
  refine pE_aload_n dX12_worked_40 rfl rfl ?_
  refine pE_getR dX12_worked_41 flX12_88 rfl (by first | assumption | rfl) (by first | assumption | rfl) ?_
  refine pE_bipush (v := nI 24) dX12_worked_44 rfl ?_
  refine pE_ialoadN dX12_worked_46 (by first | assumption | rfl) (by first | assumption | omega) (by omega) ?_
  rw [pu_ne _ _ _ (by decide : (91 : Nat) ≠ 79), pu_ne _ _ _ (by decide : (91 : Nat) ≠ 79), pu_ne _ _ _ (by decide : (91 : Nat) ≠ 79), pu_ne _ _ _ (by decide : (91 : Nat) ≠ 79), e5]
  refine pE_iastoreN dX12_worked_47 (by first | assumption | rfl) (by first | assumption | omega) (by omega) ?_
  refine pE_aload_n dX12_worked_48 rfl rfl ?_
  refine pE_getR dX12_worked_49 flX12_49 rfl (by first | assumption | rfl) (by first | assumption | rfl) ?_
  refine pE_iconst (v := nI 5) dX12_worked_52 rfl ?_
  refine pE_aload_n dX12_worked_53 rfl rfl ?_
  refine pE_getR dX12_worked_54 flX12_88 rfl (by first | assumption | rfl) (by first | assumption | rfl) ?_
  refine pE_bipush (v := nI 25) dX12_worked_57 rfl ?_
  refine pE_ialoadN dX12_worked_59 (by first | assumption | rfl) (by first | assumption | omega) (by omega) ?_
  rw [pu_ne _ _ _ (by decide : (91 : Nat) ≠ 79), pu_ne _ _ _ (by decide : (91 : Nat) ≠ 79), pu_ne _ _ _ (by decide : (91 : Nat) ≠ 79), pu_ne _ _ _ (by decide : (91 : Nat) ≠ 79), pu_ne _ _ _ (by decide : (91 : Nat) ≠ 79), e6]
  refine pE_iastoreN dX12_worked_60 (by first | assumption | rfl) (by first | assumption | omega) (by omega) ?_
  refine pE_iconst (v := nI 0) dX12_worked_61 rfl ?_
  refine pE_istore (lc' := [_, _, _, _, _, _, some (.int _), _]) dX12_worked_62 (Nat.le_of_ble_eq_true rfl) rfl rfl ?_
  refine pE_aload_n dX12_worked_64 rfl rfl ?_
  refine pE_getR dX12_worked_65 flX12_42 rfl (by first | assumption | rfl) (by first | assumption | rfl) ?_
  refine pE_iconst (v := nI 0) dX12_worked_68 rfl ?_
  refine pE_iload dX12_worked_69 rfl ?_
  refine pE_iastoreN dX12_worked_71 (by first | assumption | rfl) (by first | assumption | omega) (by omega) ?_
  refine pE_sipush (v := nI 320) dX12_worked_72 rfl ?_
  refine pE_iload_n dX12_worked_75 rfl rfl ?_
  refine pE_imulN dX12_worked_76 ?_
  refine pE_istore (lc' := [_, _, _, _, _, _, _, some (.int _)]) dX12_worked_77 (Nat.le_of_ble_eq_true rfl) rfl rfl ?_
  have hs : sb I (pu (pu (pu (pu (pu (pu (pu I 79 0 (x 1)) 79 1 (x 2)) 79 2 (x 3)) 79 3 (x 4)) 79 4 (x 5)) 79 5 (x 6)) 77 0 o) := ((((((sb.rf.pu (by simp [scF])).pu (by simp [scF])).pu (by simp [scF])).pu (by simp [scF])).pu (by simp [scF])).pu (by simp [scF])).pu (by simp [scF])
  by_cases hp : p = []
  · subst hp
    obtain ⟨b1, b2, b3⟩ := mF.sb hF hs
    refine pE_iload dX12_worked_79 rfl ?_
    refine pE_sipush (v := nI 320) dX12_worked_81 rfl ?_
    refine pE_iload_n dX12_worked_84 rfl rfl ?_
    refine pE_imulN dX12_worked_85 ?_
    refine pE_aload_n dX12_worked_86 rfl rfl ?_
    refine pE_getR dX12_worked_87 flX12_36 rfl (by first | assumption | rfl) (by first | assumption | rfl) ?_
    refine pE_iload_n dX12_worked_90 rfl rfl ?_
    refine pE_ialoadN dX12_worked_91 (by first | assumption | rfl) (by first | assumption | omega) (by omega) ?_
    rw [b2]
    refine pE_iaddN dX12_worked_92 ?_
    refine pE_icmp_ge (tgt := 249) dX12_worked_93 (by decide) (fun h93 => ?_) (fun h93 => ?_)
    · have g93 := nq_le (by omega) (by omega) h93
      refine pE_aload_n dX12_worked_249 rfl rfl ?_
      refine pE_getR dX12_worked_250 flX12_42 rfl (by first | assumption | rfl) (by first | assumption | rfl) ?_
      refine pE_iconst (v := nI 0) dX12_worked_253 rfl ?_
      refine pE_ialoadN dX12_worked_254 (by first | assumption | rfl) (by first | assumption | omega) (by omega) ?_
      refine pE_iret dX12_worked_255 rfl rfl ?_
      refine cgQ ?_ (hq _ hs)
      simp [pu_at]
    · have g93 := nq_nle (by omega) (by omega) h93
      exact absurd g93 (by simp)
  · refine L_X12_worked (x := x) hw1 hF (fun I1 h => ?_) p 0 [] _ rfl (Nat.zero_le _) hs (by intro i x h; simp at h) ?_ (by simp) (hw.resolve_left hp) rfl
    · have := hq I1 h
      rw [if_neg hp] at this
      exact this
    · intro c h1 h2
      have hc : c = 1 ∨ c = 2 ∨ c = 3 ∨ c = 4 ∨ c = 5 ∨ c = 6 := by omega
      rcases hc with rfl | rfl | rfl | rfl | rfl | rfl <;> simp [pu_at]
