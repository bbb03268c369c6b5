theorem pT1_1 {w : Cond} (i : Nat) (h : tables_1_1[i]? = some w) (hg : goodWord w = true) : w ∈ pTb := pTb_in (List.mem_append_right _ (show w ∈ tables_1 from List.mem_append_left _ (List.mem_of_getElem? h))) hg
theorem pT1_2 {w : Cond} (i : Nat) (h : tables_1_2[i]? = some w) (hg : goodWord w = true) : w ∈ pTb := pTb_in (List.mem_append_right _ (show w ∈ tables_1 from List.mem_append_right _ (List.mem_append_left _ (List.mem_of_getElem? h)))) hg
theorem pT1_3 {w : Cond} (i : Nat) (h : tables_1_3[i]? = some w) (hg : goodWord w = true) : w ∈ pTb := pTb_in (List.mem_append_right _ (show w ∈ tables_1 from List.mem_append_right _ (List.mem_append_right _ (List.mem_append_left _ (List.mem_of_getElem? h))))) hg
theorem pT1_4 {w : Cond} (i : Nat) (h : tables_1_4[i]? = some w) (hg : goodWord w = true) : w ∈ pTb := pTb_in (List.mem_append_right _ (show w ∈ tables_1 from List.mem_append_right _ (List.mem_append_right _ (List.mem_append_right _ (List.mem_append_left _ (List.mem_of_getElem? h)))))) hg
theorem pT1_5 {w : Cond} (i : Nat) (h : tables_1_5[i]? = some w) (hg : goodWord w = true) : w ∈ pTb := pTb_in (List.mem_append_right _ (show w ∈ tables_1 from List.mem_append_right _ (List.mem_append_right _ (List.mem_append_right _ (List.mem_append_right _ (List.mem_append_left _ (List.mem_of_getElem? h))))))) hg
theorem pT1_6 {w : Cond} (i : Nat) (h : tables_1_6[i]? = some w) (hg : goodWord w = true) : w ∈ pTb := pTb_in (List.mem_append_right _ (show w ∈ tables_1 from List.mem_append_right _ (List.mem_append_right _ (List.mem_append_right _ (List.mem_append_right _ (List.mem_append_right _ (List.mem_append_left _ (List.mem_of_getElem? h)))))))) hg
theorem pT1_7 {w : Cond} (i : Nat) (h : tables_1_7[i]? = some w) (hg : goodWord w = true) : w ∈ pTb := pTb_in (List.mem_append_right _ (show w ∈ tables_1 from List.mem_append_right _ (List.mem_append_right _ (List.mem_append_right _ (List.mem_append_right _ (List.mem_append_right _ (List.mem_append_right _ (List.mem_append_left _ (List.mem_of_getElem? h))))))))) hg
theorem pT1_8 {w : Cond} (i : Nat) (h : tables_1_8[i]? = some w) (hg : goodWord w = true) : w ∈ pTb := pTb_in (List.mem_append_right _ (show w ∈ tables_1 from List.mem_append_right _ (List.mem_append_right _ (List.mem_append_right _ (List.mem_append_right _ (List.mem_append_right _ (List.mem_append_right _ (List.mem_append_right _ (List.mem_append_left _ (List.mem_of_getElem? h)))))))))) hg
theorem pT1_9 {w : Cond} (i : Nat) (h : tables_1_9[i]? = some w) (hg : goodWord w = true) : w ∈ pTb := pTb_in (List.mem_append_right _ (show w ∈ tables_1 from List.mem_append_right _ (List.mem_append_right _ (List.mem_append_right _ (List.mem_append_right _ (List.mem_append_right _ (List.mem_append_right _ (List.mem_append_right _ (List.mem_append_right _ (List.mem_of_getElem? h)))))))))) hg
theorem pN1_1 {w : Cond} (i : Nat) (h : tables_1_1[i]? = some w) (hg : pIsN w = true) : w ∈ pNb := pNb_in (List.mem_append_right _ (show w ∈ tables_1 from List.mem_append_left _ (List.mem_of_getElem? h))) hg
theorem pN1_2 {w : Cond} (i : Nat) (h : tables_1_2[i]? = some w) (hg : pIsN w = true) : w ∈ pNb := pNb_in (List.mem_append_right _ (show w ∈ tables_1 from List.mem_append_right _ (List.mem_append_left _ (List.mem_of_getElem? h)))) hg
theorem pN1_3 {w : Cond} (i : Nat) (h : tables_1_3[i]? = some w) (hg : pIsN w = true) : w ∈ pNb := pNb_in (List.mem_append_right _ (show w ∈ tables_1 from List.mem_append_right _ (List.mem_append_right _ (List.mem_append_left _ (List.mem_of_getElem? h))))) hg
theorem pN1_4 {w : Cond} (i : Nat) (h : tables_1_4[i]? = some w) (hg : pIsN w = true) : w ∈ pNb := pNb_in (List.mem_append_right _ (show w ∈ tables_1 from List.mem_append_right _ (List.mem_append_right _ (List.mem_append_right _ (List.mem_append_left _ (List.mem_of_getElem? h)))))) hg
theorem pN1_5 {w : Cond} (i : Nat) (h : tables_1_5[i]? = some w) (hg : pIsN w = true) : w ∈ pNb := pNb_in (List.mem_append_right _ (show w ∈ tables_1 from List.mem_append_right _ (List.mem_append_right _ (List.mem_append_right _ (List.mem_append_right _ (List.mem_append_left _ (List.mem_of_getElem? h))))))) hg
theorem pN1_6 {w : Cond} (i : Nat) (h : tables_1_6[i]? = some w) (hg : pIsN w = true) : w ∈ pNb := pNb_in (List.mem_append_right _ (show w ∈ tables_1 from List.mem_append_right _ (List.mem_append_right _ (List.mem_append_right _ (List.mem_append_right _ (List.mem_append_right _ (List.mem_append_left _ (List.mem_of_getElem? h)))))))) hg
theorem pN1_7 {w : Cond} (i : Nat) (h : tables_1_7[i]? = some w) (hg : pIsN w = true) : w ∈ pNb := pNb_in (List.mem_append_right _ (show w ∈ tables_1 from List.mem_append_right _ (List.mem_append_right _ (List.mem_append_right _ (List.mem_append_right _ (List.mem_append_right _ (List.mem_append_right _ (List.mem_append_left _ (List.mem_of_getElem? h))))))))) hg
theorem pN1_8 {w : Cond} (i : Nat) (h : tables_1_8[i]? = some w) (hg : pIsN w = true) : w ∈ pNb := pNb_in (List.mem_append_right _ (show w ∈ tables_1 from List.mem_append_right _ (List.mem_append_right _ (List.mem_append_right _ (List.mem_append_right _ (List.mem_append_right _ (List.mem_append_right _ (List.mem_append_right _ (List.mem_append_left _ (List.mem_of_getElem? h)))))))))) hg
theorem pN1_9 {w : Cond} (i : Nat) (h : tables_1_9[i]? = some w) (hg : pIsN w = true) : w ∈ pNb := pNb_in (List.mem_append_right _ (show w ∈ tables_1 from List.mem_append_right _ (List.mem_append_right _ (List.mem_append_right _ (List.mem_append_right _ (List.mem_append_right _ (List.mem_append_right _ (List.mem_append_right _ (List.mem_append_right _ (List.mem_of_getElem? h)))))))))) hg
theorem pFs_zero (ad : Nat → Nat) (o ci : Nat) : pFs ad (fun _ _ => 0) (fun _ _ => 0) (fun _ _ => none) o ci = pFs id (fun _ _ => 0) (fun _ _ => 0) (fun _ _ => none) 0 ci := by
  unfold pFs
  congr 1
theorem pd_0 : (parseMethodDescriptor "()B").map (fun d => d.parameters.length) = some 0 := by decide +kernel
theorem pd_1 : (parseMethodDescriptor "()I").map (fun d => d.parameters.length) = some 0 := by decide +kernel
theorem pd_2 : (parseMethodDescriptor "()V").map (fun d => d.parameters.length) = some 0 := by decide +kernel
theorem pd_3 : (parseMethodDescriptor "()Z").map (fun d => d.parameters.length) = some 0 := by decide +kernel
theorem pd_4 : (parseMethodDescriptor "(I)C").map (fun d => d.parameters.length) = some 1 := by decide +kernel
theorem pd_5 : (parseMethodDescriptor "(I)I").map (fun d => d.parameters.length) = some 1 := by decide +kernel
theorem pd_6 : (parseMethodDescriptor "(I)V").map (fun d => d.parameters.length) = some 1 := by decide +kernel
theorem pd_7 : (parseMethodDescriptor "(I)Z").map (fun d => d.parameters.length) = some 1 := by decide +kernel
theorem pd_8 : (parseMethodDescriptor "(II)I").map (fun d => d.parameters.length) = some 2 := by decide +kernel
theorem pd_9 : (parseMethodDescriptor "(II)V").map (fun d => d.parameters.length) = some 2 := by decide +kernel
theorem pd_10 : (parseMethodDescriptor "(II)Z").map (fun d => d.parameters.length) = some 2 := by decide +kernel
theorem pd_11 : (parseMethodDescriptor "(III)I").map (fun d => d.parameters.length) = some 3 := by decide +kernel
theorem pd_12 : (parseMethodDescriptor "(III)V").map (fun d => d.parameters.length) = some 3 := by decide +kernel
theorem pd_13 : (parseMethodDescriptor "(III)Z").map (fun d => d.parameters.length) = some 3 := by decide +kernel
theorem pd_14 : (parseMethodDescriptor "(IIII)I").map (fun d => d.parameters.length) = some 4 := by decide +kernel
theorem pd_15 : (parseMethodDescriptor "(IIII)V").map (fun d => d.parameters.length) = some 4 := by decide +kernel
theorem pd_16 : (parseMethodDescriptor "(IIII)Z").map (fun d => d.parameters.length) = some 4 := by decide +kernel
theorem pd_17 : (parseMethodDescriptor "(IIIII)I").map (fun d => d.parameters.length) = some 5 := by decide +kernel
theorem pd_18 : (parseMethodDescriptor "(IIIIII)I").map (fun d => d.parameters.length) = some 6 := by decide +kernel
theorem pd_19 : (parseMethodDescriptor "(IIILSoManyStairs$Lying;)V").map (fun d => d.parameters.length) = some 4 := by decide +kernel
theorem pd_20 : (parseMethodDescriptor "(IIILjava/util/function/BiFunction;)I").map (fun d => d.parameters.length) = some 4 := by decide +kernel
theorem pd_21 : (parseMethodDescriptor "(IILjava/util/function/BiFunction;)I").map (fun d => d.parameters.length) = some 3 := by decide +kernel
theorem pd_22 : (parseMethodDescriptor "(IIZ)I").map (fun d => d.parameters.length) = some 3 := by decide +kernel
theorem pd_23 : (parseMethodDescriptor "(II[B)V").map (fun d => d.parameters.length) = some 3 := by decide +kernel
theorem pd_24 : (parseMethodDescriptor "(ILSoManyStairs$House;)Z").map (fun d => d.parameters.length) = some 2 := by decide +kernel
theorem pd_25 : (parseMethodDescriptor "(ILSoManyStairs$State;)Z").map (fun d => d.parameters.length) = some 2 := by decide +kernel
theorem pd_26 : (parseMethodDescriptor "(IZ)I").map (fun d => d.parameters.length) = some 2 := by decide +kernel
theorem pd_27 : (parseMethodDescriptor "(I[B)V").map (fun d => d.parameters.length) = some 2 := by decide +kernel
theorem pd_28 : (parseMethodDescriptor "(J)V").map (fun d => d.parameters.length) = some 1 := by decide +kernel
theorem pd_29 : (parseMethodDescriptor "(J)Z").map (fun d => d.parameters.length) = some 1 := by decide +kernel
theorem pd_30 : (parseMethodDescriptor "(JI)I").map (fun d => d.parameters.length) = some 2 := by decide +kernel
theorem pd_31 : (parseMethodDescriptor "(JI)J").map (fun d => d.parameters.length) = some 2 := by decide +kernel
theorem pd_32 : (parseMethodDescriptor "(JII)I").map (fun d => d.parameters.length) = some 3 := by decide +kernel
theorem pd_33 : (parseMethodDescriptor "(LSoManyStairs$Formula;I)V").map (fun d => d.parameters.length) = some 2 := by decide +kernel
theorem pd_34 : (parseMethodDescriptor "(LSoManyStairs$House;)V").map (fun d => d.parameters.length) = some 1 := by decide +kernel
theorem pd_35 : (parseMethodDescriptor "(LSoManyStairs$House;I)I").map (fun d => d.parameters.length) = some 2 := by decide +kernel
theorem pd_36 : (parseMethodDescriptor "(LSoManyStairs$House;I)V").map (fun d => d.parameters.length) = some 2 := by decide +kernel
theorem pd_37 : (parseMethodDescriptor "(LSoManyStairs$House;II)V").map (fun d => d.parameters.length) = some 3 := by decide +kernel
theorem pd_38 : (parseMethodDescriptor "(LSoManyStairs$House;LSoManyStairs$Formula;)V").map (fun d => d.parameters.length) = some 2 := by decide +kernel
theorem pd_39 : (parseMethodDescriptor "(LSoManyStairs$House;LSoManyStairs$Lying;)I").map (fun d => d.parameters.length) = some 2 := by decide +kernel
theorem pd_40 : (parseMethodDescriptor "(LSoManyStairs$House;LSoManyStairs$State;I)I").map (fun d => d.parameters.length) = some 3 := by decide +kernel
theorem pd_41 : (parseMethodDescriptor "(LSoManyStairs$House;LSoManyStairs$State;I)V").map (fun d => d.parameters.length) = some 3 := by decide +kernel
theorem pd_42 : (parseMethodDescriptor "(LSoManyStairs$House;LSoManyStairs$State;ILSoManyStairs$Lying;)I").map (fun d => d.parameters.length) = some 4 := by decide +kernel
theorem pd_43 : (parseMethodDescriptor "(LSoManyStairs$Lying;)V").map (fun d => d.parameters.length) = some 1 := by decide +kernel
theorem pd_44 : (parseMethodDescriptor "(LSoManyStairs$State;)V").map (fun d => d.parameters.length) = some 1 := by decide +kernel
theorem pd_45 : (parseMethodDescriptor "(LSoManyStairs$State;)Z").map (fun d => d.parameters.length) = some 1 := by decide +kernel
theorem pd_46 : (parseMethodDescriptor "(LSoManyStairs$State;I)I").map (fun d => d.parameters.length) = some 2 := by decide +kernel
theorem pd_47 : (parseMethodDescriptor "(LSoManyStairs$State;I)V").map (fun d => d.parameters.length) = some 2 := by decide +kernel
theorem pd_48 : (parseMethodDescriptor "(LSoManyStairs$State;I)Z").map (fun d => d.parameters.length) = some 2 := by decide +kernel
theorem pd_49 : (parseMethodDescriptor "(LSoManyStairs$State;II)V").map (fun d => d.parameters.length) = some 3 := by decide +kernel
theorem pd_50 : (parseMethodDescriptor "(LSoManyStairs$State;IIII)I").map (fun d => d.parameters.length) = some 5 := by decide +kernel
theorem pd_51 : (parseMethodDescriptor "(LSoManyStairs$State;IIII)V").map (fun d => d.parameters.length) = some 5 := by decide +kernel
theorem pd_52 : (parseMethodDescriptor "(LSoManyStairs$State;IIII)Z").map (fun d => d.parameters.length) = some 5 := by decide +kernel
theorem pd_53 : (parseMethodDescriptor "(Ljava/lang/String;)V").map (fun d => d.parameters.length) = some 1 := by decide +kernel
theorem pd_54 : (parseMethodDescriptor "(Ljava/lang/String;)Z").map (fun d => d.parameters.length) = some 1 := by decide +kernel
theorem pd_55 : (parseMethodDescriptor "(Z)I").map (fun d => d.parameters.length) = some 1 := by decide +kernel
theorem pd_56 : (parseMethodDescriptor "(ZIZ)I").map (fun d => d.parameters.length) = some 3 := by decide +kernel
theorem pd_57 : (parseMethodDescriptor "([B)I").map (fun d => d.parameters.length) = some 1 := by decide +kernel
theorem pd_58 : (parseMethodDescriptor "([B)V").map (fun d => d.parameters.length) = some 1 := by decide +kernel
theorem pd_59 : (parseMethodDescriptor "([BI)C").map (fun d => d.parameters.length) = some 2 := by decide +kernel
theorem pd_60 : (parseMethodDescriptor "([BIII)I").map (fun d => d.parameters.length) = some 4 := by decide +kernel
theorem pd_61 : (parseMethodDescriptor "([I)Z").map (fun d => d.parameters.length) = some 1 := by decide +kernel
theorem pd_62 : (parseMethodDescriptor "([II)V").map (fun d => d.parameters.length) = some 2 := by decide +kernel
theorem mhRX0 : RX0 ≠ "java/lang/invoke/MethodHandle" ∧ RX0 ≠ "java/lang/invoke/VarHandle" := ⟨by decide +kernel, by decide +kernel⟩
theorem mhRX1 : RX1 ≠ "java/lang/invoke/MethodHandle" ∧ RX1 ≠ "java/lang/invoke/VarHandle" := ⟨by decide +kernel, by decide +kernel⟩
theorem mhRX2 : RX2 ≠ "java/lang/invoke/MethodHandle" ∧ RX2 ≠ "java/lang/invoke/VarHandle" := ⟨by decide +kernel, by decide +kernel⟩
theorem mhRX3 : RX3 ≠ "java/lang/invoke/MethodHandle" ∧ RX3 ≠ "java/lang/invoke/VarHandle" := ⟨by decide +kernel, by decide +kernel⟩
theorem mhRX4 : RX4 ≠ "java/lang/invoke/MethodHandle" ∧ RX4 ≠ "java/lang/invoke/VarHandle" := ⟨by decide +kernel, by decide +kernel⟩
theorem mhRX5 : RX5 ≠ "java/lang/invoke/MethodHandle" ∧ RX5 ≠ "java/lang/invoke/VarHandle" := ⟨by decide +kernel, by decide +kernel⟩
theorem mhRX6 : RX6 ≠ "java/lang/invoke/MethodHandle" ∧ RX6 ≠ "java/lang/invoke/VarHandle" := ⟨by decide +kernel, by decide +kernel⟩
theorem mhRX7 : RX7 ≠ "java/lang/invoke/MethodHandle" ∧ RX7 ≠ "java/lang/invoke/VarHandle" := ⟨by decide +kernel, by decide +kernel⟩
theorem mhRX8 : RX8 ≠ "java/lang/invoke/MethodHandle" ∧ RX8 ≠ "java/lang/invoke/VarHandle" := ⟨by decide +kernel, by decide +kernel⟩
theorem mhRX9 : RX9 ≠ "java/lang/invoke/MethodHandle" ∧ RX9 ≠ "java/lang/invoke/VarHandle" := ⟨by decide +kernel, by decide +kernel⟩
theorem mhRX10 : RX10 ≠ "java/lang/invoke/MethodHandle" ∧ RX10 ≠ "java/lang/invoke/VarHandle" := ⟨by decide +kernel, by decide +kernel⟩
theorem mhRX11 : RX11 ≠ "java/lang/invoke/MethodHandle" ∧ RX11 ≠ "java/lang/invoke/VarHandle" := ⟨by decide +kernel, by decide +kernel⟩
theorem mhRX12 : RX12 ≠ "java/lang/invoke/MethodHandle" ∧ RX12 ≠ "java/lang/invoke/VarHandle" := ⟨by decide +kernel, by decide +kernel⟩
theorem mhRJ11 : RJ11 ≠ "java/lang/invoke/MethodHandle" ∧ RJ11 ≠ "java/lang/invoke/VarHandle" := ⟨by decide +kernel, by decide +kernel⟩
theorem mhRJ6 : RJ6 ≠ "java/lang/invoke/MethodHandle" ∧ RJ6 ≠ "java/lang/invoke/VarHandle" := ⟨by decide +kernel, by decide +kernel⟩
theorem mhRJ9 : RJ9 ≠ "java/lang/invoke/MethodHandle" ∧ RJ9 ≠ "java/lang/invoke/VarHandle" := ⟨by decide +kernel, by decide +kernel⟩
theorem mhRJ0 : RJ0 ≠ "java/lang/invoke/MethodHandle" ∧ RJ0 ≠ "java/lang/invoke/VarHandle" := ⟨by decide +kernel, by decide +kernel⟩
theorem mhRJ1 : RJ1 ≠ "java/lang/invoke/MethodHandle" ∧ RJ1 ≠ "java/lang/invoke/VarHandle" := ⟨by decide +kernel, by decide +kernel⟩
theorem mhRJ2 : RJ2 ≠ "java/lang/invoke/MethodHandle" ∧ RJ2 ≠ "java/lang/invoke/VarHandle" := ⟨by decide +kernel, by decide +kernel⟩
theorem mhRJ10 : RJ10 ≠ "java/lang/invoke/MethodHandle" ∧ RJ10 ≠ "java/lang/invoke/VarHandle" := ⟨by decide +kernel, by decide +kernel⟩
theorem mhRJ3 : RJ3 ≠ "java/lang/invoke/MethodHandle" ∧ RJ3 ≠ "java/lang/invoke/VarHandle" := ⟨by decide +kernel, by decide +kernel⟩
theorem mhRL : RL ≠ "java/lang/invoke/MethodHandle" ∧ RL ≠ "java/lang/invoke/VarHandle" := ⟨by decide +kernel, by decide +kernel⟩
theorem pT0 {w : Cond} (i : Nat) (h : (k2_sels lw_privs)[i]? = some w) (hg : goodWord w = true) : w ∈ pTb := pTb_in (List.mem_append_left _ (List.mem_of_getElem? h)) hg
theorem gX0 : ∀ w ∈ wsX00, w ∈ pTb := by
  have h : ∀ w ∈ wsX00, goodWord w = true := by decide +kernel
  exact fun w hw => pTb_in (inX0 w hw) (h w hw)
theorem ftX0 : pFt 0 tyX0 := ⟨_, rfl, tyX0_ok, nmX0, rfl⟩
theorem gX1 : ∀ w ∈ wsX10, w ∈ pTb := by
  have h : ∀ w ∈ wsX10, goodWord w = true := by decide +kernel
  exact fun w hw => pTb_in (inX1 w hw) (h w hw)
theorem ftX1 : pFt 1 tyX1 := ⟨_, rfl, tyX1_ok, nmX1, rfl⟩
theorem gX2 : ∀ w ∈ wsX20, w ∈ pTb := by
  have h : ∀ w ∈ wsX20, goodWord w = true := by decide +kernel
  exact fun w hw => pTb_in (inX2 w hw) (h w hw)
theorem ftX2 : pFt 2 tyX2 := ⟨_, rfl, tyX2_ok, nmX2, rfl⟩
theorem gX3 : ∀ w ∈ wsX30, w ∈ pTb := by
  have h : ∀ w ∈ wsX30, goodWord w = true := by decide +kernel
  exact fun w hw => pTb_in (inX3 w hw) (h w hw)
theorem ftX3 : pFt 3 tyX3 := ⟨_, rfl, tyX3_ok, nmX3, rfl⟩
theorem gX4 : ∀ w ∈ wsX40, w ∈ pTb := by
  have h : ∀ w ∈ wsX40, goodWord w = true := by decide +kernel
  exact fun w hw => pTb_in (inX4 w hw) (h w hw)
theorem ftX4 : pFt 4 tyX4 := ⟨_, rfl, tyX4_ok, nmX4, rfl⟩
theorem gX5 : ∀ w ∈ wsX50, w ∈ pTb := by
  have h : ∀ w ∈ wsX50, goodWord w = true := by decide +kernel
  exact fun w hw => pTb_in (inX5 w hw) (h w hw)
theorem ftX5 : pFt 5 tyX5 := ⟨_, rfl, tyX5_ok, nmX5, rfl⟩
theorem gX6 : ∀ w ∈ wsX60, w ∈ pTb := by
  have h : ∀ w ∈ wsX60, goodWord w = true := by decide +kernel
  exact fun w hw => pTb_in (inX6 w hw) (h w hw)
theorem ftX6 : pFt 6 tyX6 := ⟨_, rfl, tyX6_ok, nmX6, rfl⟩
theorem gX7 : ∀ w ∈ wsX70, w ∈ pTb := by
  have h : ∀ w ∈ wsX70, goodWord w = true := by decide +kernel
  exact fun w hw => pTb_in (inX7 w hw) (h w hw)
theorem ftX7 : pFt 7 tyX7 := ⟨_, rfl, tyX7_ok, nmX7, rfl⟩
theorem gX8 : ∀ w ∈ wsX80, w ∈ pTb := by
  have h : ∀ w ∈ wsX80, goodWord w = true := by decide +kernel
  exact fun w hw => pTb_in (inX8 w hw) (h w hw)
theorem ftX8 : pFt 8 tyX8 := ⟨_, rfl, tyX8_ok, nmX8, rfl⟩
theorem gX9 : ∀ w ∈ wsX90, w ∈ pTb := by
  have h : ∀ w ∈ wsX90, goodWord w = true := by decide +kernel
  exact fun w hw => pTb_in (inX9 w hw) (h w hw)
theorem ftX9 : pFt 9 tyX9 := ⟨_, rfl, tyX9_ok, nmX9, rfl⟩
theorem gX10 : ∀ w ∈ wsX100, w ∈ pTb := by
  have h : ∀ w ∈ wsX100, goodWord w = true := by decide +kernel
  exact fun w hw => pTb_in (inX10 w hw) (h w hw)
theorem ftX10 : pFt 10 tyX10 := ⟨_, rfl, tyX10_ok, nmX10, rfl⟩
theorem gX11 : ∀ w ∈ wsX110, w ∈ pTb := by
  have h : ∀ w ∈ wsX110, goodWord w = true := by decide +kernel
  exact fun w hw => pTb_in (inX11 w hw) (h w hw)
theorem ftX11 : pFt 11 tyX11 := ⟨_, rfl, tyX11_ok, nmX11, rfl⟩
theorem gX12 : ∀ w ∈ wsX120, w ∈ pTb := by
  have h : ∀ w ∈ wsX120, goodWord w = true := by decide +kernel
  exact fun w hw => pTb_in (inX12 w hw) (h w hw)
theorem ftX12 : pFt 12 tyX12 := ⟨_, rfl, tyX12_ok, nmX12, rfl⟩
