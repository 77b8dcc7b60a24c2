/-! ===== printed by gen/ctors.py: constructors ===== -/
def votesP (a : Nat) (tc : Nat → ClassId) : va_W := [] ++ cityW (a + 1) tc ++ stateW (a + 9) (a + 1) tc ++ readerW (a + 15) tc ++ stateW (a + 25) (a + 1) tc ++ pollsW (a + 31) (a + 1) (a + 9) tc ++ placerW (a + 32) (a + 1) (a + 9) tc ++ tallyW (a + 42) (a + 1) (a + 9) tc ++ bookW (a + 47) (a + 9) tc ++ drawsW (a + 50) (a + 1) (a + 9) tc ++ histW (a + 51) (a + 1) tc
theorem histW_len (a ct : Nat) (tc : Nat → ClassId) : (histW a ct tc).length = 98 := by
  unfold histW; rw [List.length_append, stL_len]; rfl
theorem votesP_len (a : Nat) (tc : Nat → ClassId) : (votesP a tc).length = 148 := by
  unfold votesP; simp only [List.length_append, histW_len]; rfl
set_option maxRecDepth 100000 in
theorem ci_X10 (a : Nat) : jc_M rm_X10 iX10 a 10 z_X10 [] 163 1655 (votesW a) := by
  refine jc_M.of (lv := [(0, .ref a)]) rfl rfl (by decide +kernel) (Nat.le_of_ble_eq_true rfl) rfl ?_
  refine jc_aload_n dX10_init_0 rfl 0 rfl ?_
  refine jc_obj (List.mem_append_right _ (List.mem_of_getElem? (i := 21) (by decide +kernel))) fi_o1 fi_o2 dX10_init_1 (Nat.le_of_ble_eq_true rfl) (Nat.le_of_ble_eq_true rfl) ?_
  refine jc_new (ci := 1) fw_X1 tyX1 tyX1_ok (List.mem_append_right _ (List.mem_of_getElem? (i := 24) (by decide +kernel))) (List.mem_append_right _ (List.mem_of_getElem? (i := 25) (by decide +kernel))) (List.mem_append_right _ (List.mem_of_getElem? (i := 2) (by decide +kernel))) rfl z_X1_ok (Nat.le_of_ble_eq_true rfl) (Nat.le_of_ble_eq_true rfl) dX10_init_4 ?_
  refine jc_n (n' := a + 2) (c2 := 1) (s2 := 11) rfl rfl rfl ?_
  refine jc_dup dX10_init_7 ?_
  refine jc_initN (rest0 := _) (ci_X1 (a + 1)) fi_X1 (by decide +kernel) ⟨rfl, rfl, Nat.le_of_ble_eq_true rfl, Nat.le_of_ble_eq_true rfl⟩ rfl (Nat.le_of_ble_eq_true rfl) dX10_init_8 ⟨Nat.le_of_ble_eq_true rfl, Nat.le_of_ble_eq_true rfl⟩ rfl ?_
  refine jc_n (n' := a + 9) (c2 := 8) (s2 := 55) rfl rfl rfl ?_
  refine jc_eqv (n' := a + 9) (fs' := [.null, .null, .null, .null, .null, .null, .null, .null, .null, .null, .null]) (rest' := fun tc => [] ++ cityW (a + 1) tc) rfl rfl (fun _ => rfl) ?_
  refine jc_astore_n (lv' := [(1, .ref (a + 1)), (0, .ref a)]) dX10_init_11 rfl (by decide) rfl ?_
  refine jc_new (ci := 8) fw_X8 tyX8 tyX8_ok (List.mem_append_right _ (List.mem_of_getElem? (i := 93) (by decide +kernel))) (List.mem_append_right _ (List.mem_of_getElem? (i := 94) (by decide +kernel))) (List.mem_append_right _ (List.mem_of_getElem? (i := 3) (by decide +kernel))) rfl z_X8_ok (Nat.le_of_ble_eq_true rfl) (Nat.le_of_ble_eq_true rfl) dX10_init_12 ?_
  refine jc_n (n' := a + 10) (c2 := 9) (s2 := 62) rfl rfl rfl ?_
  refine jc_dup dX10_init_15 ?_
  refine jc_aload_n dX10_init_16 rfl 0 rfl ?_
  refine jc_init (rest0 := _) (ci_X8 (a + 9) (a + 1)) fi_X8 (List.mem_append_right _ (List.mem_of_getElem? (i := 95) (by decide +kernel))) ⟨rfl, rfl, Nat.le_of_ble_eq_true rfl, Nat.le_of_ble_eq_true rfl⟩ rfl (Nat.le_of_ble_eq_true rfl) dX10_init_17 ⟨Nat.le_of_ble_eq_true rfl, Nat.le_of_ble_eq_true rfl⟩ rfl ?_
  refine jc_n (n' := a + 15) (c2 := 14) (s2 := 94) rfl rfl rfl ?_
  refine jc_eqv (n' := a + 15) (fs' := [.null, .null, .null, .null, .null, .null, .null, .null, .null, .null, .null]) (rest' := fun tc => [] ++ cityW (a + 1) tc ++ stateW (a + 9) (a + 1) tc) rfl rfl (fun _ => rfl) ?_
  refine jc_astore_n (lv' := [(2, .ref (a + 9)), (1, .ref (a + 1)), (0, .ref a)]) dX10_init_20 rfl (by decide) rfl ?_
  refine jc_aload_n dX10_init_21 rfl 2 rfl ?_
  refine jc_new (ci := 7) fw_X7 tyX7 tyX7_ok (List.mem_append_right _ (List.mem_of_getElem? (i := 132) (by decide +kernel))) (List.mem_append_right _ (List.mem_of_getElem? (i := 133) (by decide +kernel))) (List.mem_append_right _ (List.mem_of_getElem? (i := 4) (by decide +kernel))) rfl z_X7_ok (Nat.le_of_ble_eq_true rfl) (Nat.le_of_ble_eq_true rfl) dX10_init_22 ?_
  refine jc_n (n' := a + 16) (c2 := 15) (s2 := 100) rfl rfl rfl ?_
  refine jc_dup dX10_init_25 ?_
  refine jc_initN (rest0 := _) (ci_X7 (a + 15)) fi_X7 (by decide +kernel) ⟨rfl, rfl, Nat.le_of_ble_eq_true rfl, Nat.le_of_ble_eq_true rfl⟩ rfl (Nat.le_of_ble_eq_true rfl) dX10_init_26 ⟨Nat.le_of_ble_eq_true rfl, Nat.le_of_ble_eq_true rfl⟩ rfl ?_
  refine jc_n (n' := a + 25) (c2 := 24) (s2 := 395) rfl rfl rfl ?_
  refine jc_eqv (n' := a + 25) (fs' := [.null, .null, .null, .null, .null, .null, .null, .null, .null, .null, .null]) (rest' := fun tc => [] ++ cityW (a + 1) tc ++ stateW (a + 9) (a + 1) tc ++ readerW (a + 15) tc) rfl rfl (fun _ => rfl) ?_
  refine jc_put (j := 0) (fin := true) ⟨RX10, TX10, 11, tyX10, .object "StatueVotes$Reader", rfl, Nat.le_of_ble_eq_true rfl, fw_X10, (List.mem_append_right _ (List.mem_of_getElem? (i := 309) (by decide +kernel))), tyX10_ok, nmX10, rfl, rfl, by decide +kernel, rfl, rfl⟩ (Nat.le_of_ble_eq_true rfl) dX10_init_29 ?_
  refine jc_fs (fs' := [.ref (a + 15), .null, .null, .null, .null, .null, .null, .null, .null, .null, .null]) rfl ?_
  refine jc_aload_n dX10_init_32 rfl 2 rfl ?_
  refine jc_aload_n dX10_init_33 rfl 1 rfl ?_
  refine jc_put (j := 1) (fin := true) ⟨RX10, TX10, 11, tyX10, .object "StatueVotes$City", rfl, Nat.le_of_ble_eq_true rfl, fw_X10, (List.mem_append_right _ (List.mem_of_getElem? (i := 310) (by decide +kernel))), tyX10_ok, nmX10, rfl, rfl, by decide +kernel, rfl, rfl⟩ (Nat.le_of_ble_eq_true rfl) dX10_init_34 ?_
  refine jc_fs (fs' := [.ref (a + 15), .ref (a + 1), .null, .null, .null, .null, .null, .null, .null, .null, .null]) rfl ?_
  refine jc_aload_n dX10_init_37 rfl 2 rfl ?_
  refine jc_aload_n dX10_init_38 rfl 0 rfl ?_
  refine jc_put (j := 2) (fin := true) ⟨RX10, TX10, 11, tyX10, .object "StatueVotes$State", rfl, Nat.le_of_ble_eq_true rfl, fw_X10, (List.mem_append_right _ (List.mem_of_getElem? (i := 311) (by decide +kernel))), tyX10_ok, nmX10, rfl, rfl, by decide +kernel, rfl, rfl⟩ (Nat.le_of_ble_eq_true rfl) dX10_init_39 ?_
  refine jc_fs (fs' := [.ref (a + 15), .ref (a + 1), .ref (a + 9), .null, .null, .null, .null, .null, .null, .null, .null]) rfl ?_
  refine jc_aload_n dX10_init_42 rfl 2 rfl ?_
  refine jc_new (ci := 8) fw_X8 tyX8 tyX8_ok (List.mem_append_right _ (List.mem_of_getElem? (i := 93) (by decide +kernel))) (List.mem_append_right _ (List.mem_of_getElem? (i := 94) (by decide +kernel))) (List.mem_append_right _ (List.mem_of_getElem? (i := 3) (by decide +kernel))) rfl z_X8_ok (Nat.le_of_ble_eq_true rfl) (Nat.le_of_ble_eq_true rfl) dX10_init_43 ?_
  refine jc_n (n' := a + 26) (c2 := 25) (s2 := 402) rfl rfl rfl ?_
  refine jc_dup dX10_init_46 ?_
  refine jc_aload_n dX10_init_47 rfl 1 rfl ?_
  refine jc_init (rest0 := _) (ci_X8 (a + 25) (a + 1)) fi_X8 (List.mem_append_right _ (List.mem_of_getElem? (i := 95) (by decide +kernel))) ⟨rfl, rfl, Nat.le_of_ble_eq_true rfl, Nat.le_of_ble_eq_true rfl⟩ rfl (Nat.le_of_ble_eq_true rfl) dX10_init_48 ⟨Nat.le_of_ble_eq_true rfl, Nat.le_of_ble_eq_true rfl⟩ rfl ?_
  refine jc_n (n' := a + 31) (c2 := 30) (s2 := 434) rfl rfl rfl ?_
  refine jc_eqv (n' := a + 31) (fs' := [.ref (a + 15), .ref (a + 1), .ref (a + 9), .null, .null, .null, .null, .null, .null, .null, .null]) (rest' := fun tc => [] ++ cityW (a + 1) tc ++ stateW (a + 9) (a + 1) tc ++ readerW (a + 15) tc ++ stateW (a + 25) (a + 1) tc) rfl rfl (fun _ => rfl) ?_
  refine jc_put (j := 3) (fin := true) ⟨RX10, TX10, 11, tyX10, .object "StatueVotes$State", rfl, Nat.le_of_ble_eq_true rfl, fw_X10, (List.mem_append_right _ (List.mem_of_getElem? (i := 312) (by decide +kernel))), tyX10_ok, nmX10, rfl, rfl, by decide +kernel, rfl, rfl⟩ (Nat.le_of_ble_eq_true rfl) dX10_init_51 ?_
  refine jc_fs (fs' := [.ref (a + 15), .ref (a + 1), .ref (a + 9), .ref (a + 25), .null, .null, .null, .null, .null, .null, .null]) rfl ?_
  refine jc_aload_n dX10_init_54 rfl 2 rfl ?_
  refine jc_new (ci := 6) fw_X6 tyX6 tyX6_ok (List.mem_append_right _ (List.mem_of_getElem? (i := 163) (by decide +kernel))) (List.mem_append_right _ (List.mem_of_getElem? (i := 164) (by decide +kernel))) (List.mem_append_right _ (List.mem_of_getElem? (i := 5) (by decide +kernel))) rfl z_X6_ok (Nat.le_of_ble_eq_true rfl) (Nat.le_of_ble_eq_true rfl) dX10_init_55 ?_
  refine jc_n (n' := a + 32) (c2 := 31) (s2 := 436) rfl rfl rfl ?_
  refine jc_dup dX10_init_58 ?_
  refine jc_aload_n dX10_init_59 rfl 1 rfl ?_
  refine jc_aload_n dX10_init_60 rfl 0 rfl ?_
  refine jc_init (rest0 := _) (ci_X6 (a + 31) (a + 1) (a + 9)) fi_X6 (List.mem_append_right _ (List.mem_of_getElem? (i := 165) (by decide +kernel))) ⟨rfl, rfl, Nat.le_of_ble_eq_true rfl, Nat.le_of_ble_eq_true rfl⟩ rfl (Nat.le_of_ble_eq_true rfl) dX10_init_61 ⟨Nat.le_of_ble_eq_true rfl, Nat.le_of_ble_eq_true rfl⟩ rfl ?_
  refine jc_n (n' := a + 32) (c2 := 31) (s2 := 436) rfl rfl rfl ?_
  refine jc_eqv (n' := a + 32) (fs' := [.ref (a + 15), .ref (a + 1), .ref (a + 9), .ref (a + 25), .null, .null, .null, .null, .null, .null, .null]) (rest' := fun tc => [] ++ cityW (a + 1) tc ++ stateW (a + 9) (a + 1) tc ++ readerW (a + 15) tc ++ stateW (a + 25) (a + 1) tc ++ pollsW (a + 31) (a + 1) (a + 9) tc) rfl rfl (fun _ => rfl) ?_
  refine jc_put (j := 4) (fin := true) ⟨RX10, TX10, 11, tyX10, .object "StatueVotes$Polls", rfl, Nat.le_of_ble_eq_true rfl, fw_X10, (List.mem_append_right _ (List.mem_of_getElem? (i := 313) (by decide +kernel))), tyX10_ok, nmX10, rfl, rfl, by decide +kernel, rfl, rfl⟩ (Nat.le_of_ble_eq_true rfl) dX10_init_64 ?_
  refine jc_fs (fs' := [.ref (a + 15), .ref (a + 1), .ref (a + 9), .ref (a + 25), .ref (a + 31), .null, .null, .null, .null, .null, .null]) rfl ?_
  refine jc_aload_n dX10_init_67 rfl 2 rfl ?_
  refine jc_new (ci := 5) fw_X5 tyX5 tyX5_ok (List.mem_append_right _ (List.mem_of_getElem? (i := 176) (by decide +kernel))) (List.mem_append_right _ (List.mem_of_getElem? (i := 177) (by decide +kernel))) (List.mem_append_right _ (List.mem_of_getElem? (i := 6) (by decide +kernel))) rfl z_X5_ok (Nat.le_of_ble_eq_true rfl) (Nat.le_of_ble_eq_true rfl) dX10_init_68 ?_
  refine jc_n (n' := a + 33) (c2 := 32) (s2 := 440) rfl rfl rfl ?_
  refine jc_dup dX10_init_71 ?_
  refine jc_aload_n dX10_init_72 rfl 1 rfl ?_
  refine jc_aload_n dX10_init_73 rfl 0 rfl ?_
  refine jc_init (rest0 := _) (ci_X5 (a + 32) (a + 1) (a + 9)) fi_X5 (List.mem_append_right _ (List.mem_of_getElem? (i := 178) (by decide +kernel))) ⟨rfl, rfl, Nat.le_of_ble_eq_true rfl, Nat.le_of_ble_eq_true rfl⟩ rfl (Nat.le_of_ble_eq_true rfl) dX10_init_74 ⟨Nat.le_of_ble_eq_true rfl, Nat.le_of_ble_eq_true rfl⟩ rfl ?_
  refine jc_n (n' := a + 42) (c2 := 41) (s2 := 677) rfl rfl rfl ?_
  refine jc_eqv (n' := a + 42) (fs' := [.ref (a + 15), .ref (a + 1), .ref (a + 9), .ref (a + 25), .ref (a + 31), .null, .null, .null, .null, .null, .null]) (rest' := fun tc => [] ++ cityW (a + 1) tc ++ stateW (a + 9) (a + 1) tc ++ readerW (a + 15) tc ++ stateW (a + 25) (a + 1) tc ++ pollsW (a + 31) (a + 1) (a + 9) tc ++ placerW (a + 32) (a + 1) (a + 9) tc) rfl rfl (fun _ => rfl) ?_
  refine jc_put (j := 5) (fin := true) ⟨RX10, TX10, 11, tyX10, .object "StatueVotes$Placer", rfl, Nat.le_of_ble_eq_true rfl, fw_X10, (List.mem_append_right _ (List.mem_of_getElem? (i := 314) (by decide +kernel))), tyX10_ok, nmX10, rfl, rfl, by decide +kernel, rfl, rfl⟩ (Nat.le_of_ble_eq_true rfl) dX10_init_77 ?_
  refine jc_fs (fs' := [.ref (a + 15), .ref (a + 1), .ref (a + 9), .ref (a + 25), .ref (a + 31), .ref (a + 32), .null, .null, .null, .null, .null]) rfl ?_
  refine jc_aload_n dX10_init_80 rfl 2 rfl ?_
  refine jc_new (ci := 9) fw_X9 tyX9 tyX9_ok (List.mem_append_right _ (List.mem_of_getElem? (i := 198) (by decide +kernel))) (List.mem_append_right _ (List.mem_of_getElem? (i := 199) (by decide +kernel))) (List.mem_append_right _ (List.mem_of_getElem? (i := 7) (by decide +kernel))) rfl z_X9_ok (Nat.le_of_ble_eq_true rfl) (Nat.le_of_ble_eq_true rfl) dX10_init_81 ?_
  refine jc_n (n' := a + 43) (c2 := 42) (s2 := 685) rfl rfl rfl ?_
  refine jc_dup dX10_init_84 ?_
  refine jc_aload_n dX10_init_85 rfl 1 rfl ?_
  refine jc_aload_n dX10_init_86 rfl 0 rfl ?_
  refine jc_init (rest0 := _) (ci_X9 (a + 42) (a + 1) (a + 9)) fi_X9 (List.mem_append_right _ (List.mem_of_getElem? (i := 200) (by decide +kernel))) ⟨rfl, rfl, Nat.le_of_ble_eq_true rfl, Nat.le_of_ble_eq_true rfl⟩ rfl (Nat.le_of_ble_eq_true rfl) dX10_init_87 ⟨Nat.le_of_ble_eq_true rfl, Nat.le_of_ble_eq_true rfl⟩ rfl ?_
  refine jc_n (n' := a + 47) (c2 := 46) (s2 := 889) rfl rfl rfl ?_
  refine jc_eqv (n' := a + 47) (fs' := [.ref (a + 15), .ref (a + 1), .ref (a + 9), .ref (a + 25), .ref (a + 31), .ref (a + 32), .null, .null, .null, .null, .null]) (rest' := fun tc => [] ++ cityW (a + 1) tc ++ stateW (a + 9) (a + 1) tc ++ readerW (a + 15) tc ++ stateW (a + 25) (a + 1) tc ++ pollsW (a + 31) (a + 1) (a + 9) tc ++ placerW (a + 32) (a + 1) (a + 9) tc ++ tallyW (a + 42) (a + 1) (a + 9) tc) rfl rfl (fun _ => rfl) ?_
  refine jc_put (j := 6) (fin := true) ⟨RX10, TX10, 11, tyX10, .object "StatueVotes$Tally", rfl, Nat.le_of_ble_eq_true rfl, fw_X10, (List.mem_append_right _ (List.mem_of_getElem? (i := 315) (by decide +kernel))), tyX10_ok, nmX10, rfl, rfl, by decide +kernel, rfl, rfl⟩ (Nat.le_of_ble_eq_true rfl) dX10_init_90 ?_
  refine jc_fs (fs' := [.ref (a + 15), .ref (a + 1), .ref (a + 9), .ref (a + 25), .ref (a + 31), .ref (a + 32), .ref (a + 42), .null, .null, .null, .null]) rfl ?_
  refine jc_aload_n dX10_init_93 rfl 2 rfl ?_
  refine jc_new (ci := 0) fw_X0 tyX0 tyX0_ok (List.mem_append_right _ (List.mem_of_getElem? (i := 232) (by decide +kernel))) (List.mem_append_right _ (List.mem_of_getElem? (i := 233) (by decide +kernel))) (List.mem_append_right _ (List.mem_of_getElem? (i := 8) (by decide +kernel))) rfl z_X0_ok (Nat.le_of_ble_eq_true rfl) (Nat.le_of_ble_eq_true rfl) dX10_init_94 ?_
  refine jc_n (n' := a + 48) (c2 := 47) (s2 := 893) rfl rfl rfl ?_
  refine jc_dup dX10_init_97 ?_
  refine jc_aload_n dX10_init_98 rfl 0 rfl ?_
  refine jc_init (rest0 := _) (ci_X0 (a + 47) (a + 9)) fi_X0 (List.mem_append_right _ (List.mem_of_getElem? (i := 234) (by decide +kernel))) ⟨rfl, rfl, Nat.le_of_ble_eq_true rfl, Nat.le_of_ble_eq_true rfl⟩ rfl (Nat.le_of_ble_eq_true rfl) dX10_init_99 ⟨Nat.le_of_ble_eq_true rfl, Nat.le_of_ble_eq_true rfl⟩ rfl ?_
  refine jc_n (n' := a + 50) (c2 := 49) (s2 := 923) rfl rfl rfl ?_
  refine jc_eqv (n' := a + 50) (fs' := [.ref (a + 15), .ref (a + 1), .ref (a + 9), .ref (a + 25), .ref (a + 31), .ref (a + 32), .ref (a + 42), .null, .null, .null, .null]) (rest' := fun tc => [] ++ cityW (a + 1) tc ++ stateW (a + 9) (a + 1) tc ++ readerW (a + 15) tc ++ stateW (a + 25) (a + 1) tc ++ pollsW (a + 31) (a + 1) (a + 9) tc ++ placerW (a + 32) (a + 1) (a + 9) tc ++ tallyW (a + 42) (a + 1) (a + 9) tc ++ bookW (a + 47) (a + 9) tc) rfl rfl (fun _ => rfl) ?_
  refine jc_put (j := 7) (fin := true) ⟨RX10, TX10, 11, tyX10, .object "StatueVotes$Book", rfl, Nat.le_of_ble_eq_true rfl, fw_X10, (List.mem_append_right _ (List.mem_of_getElem? (i := 316) (by decide +kernel))), tyX10_ok, nmX10, rfl, rfl, by decide +kernel, rfl, rfl⟩ (Nat.le_of_ble_eq_true rfl) dX10_init_102 ?_
  refine jc_fs (fs' := [.ref (a + 15), .ref (a + 1), .ref (a + 9), .ref (a + 25), .ref (a + 31), .ref (a + 32), .ref (a + 42), .ref (a + 47), .null, .null, .null]) rfl ?_
  refine jc_aload_n dX10_init_105 rfl 2 rfl ?_
  refine jc_new (ci := 2) fw_X2 tyX2 tyX2_ok (List.mem_append_right _ (List.mem_of_getElem? (i := 252) (by decide +kernel))) (List.mem_append_right _ (List.mem_of_getElem? (i := 253) (by decide +kernel))) (List.mem_append_right _ (List.mem_of_getElem? (i := 9) (by decide +kernel))) rfl z_X2_ok (Nat.le_of_ble_eq_true rfl) (Nat.le_of_ble_eq_true rfl) dX10_init_106 ?_
  refine jc_n (n' := a + 51) (c2 := 50) (s2 := 926) rfl rfl rfl ?_
  refine jc_dup dX10_init_109 ?_
  refine jc_aload_n dX10_init_110 rfl 1 rfl ?_
  refine jc_aload_n dX10_init_111 rfl 0 rfl ?_
  refine jc_init (rest0 := _) (ci_X2 (a + 50) (a + 1) (a + 9)) fi_X2 (List.mem_append_right _ (List.mem_of_getElem? (i := 254) (by decide +kernel))) ⟨rfl, rfl, Nat.le_of_ble_eq_true rfl, Nat.le_of_ble_eq_true rfl⟩ rfl (Nat.le_of_ble_eq_true rfl) dX10_init_112 ⟨Nat.le_of_ble_eq_true rfl, Nat.le_of_ble_eq_true rfl⟩ rfl ?_
  refine jc_n (n' := a + 51) (c2 := 50) (s2 := 926) rfl rfl rfl ?_
  refine jc_eqv (n' := a + 51) (fs' := [.ref (a + 15), .ref (a + 1), .ref (a + 9), .ref (a + 25), .ref (a + 31), .ref (a + 32), .ref (a + 42), .ref (a + 47), .null, .null, .null]) (rest' := fun tc => [] ++ cityW (a + 1) tc ++ stateW (a + 9) (a + 1) tc ++ readerW (a + 15) tc ++ stateW (a + 25) (a + 1) tc ++ pollsW (a + 31) (a + 1) (a + 9) tc ++ placerW (a + 32) (a + 1) (a + 9) tc ++ tallyW (a + 42) (a + 1) (a + 9) tc ++ bookW (a + 47) (a + 9) tc ++ drawsW (a + 50) (a + 1) (a + 9) tc) rfl rfl (fun _ => rfl) ?_
  refine jc_put (j := 8) (fin := true) ⟨RX10, TX10, 11, tyX10, .object "StatueVotes$Draws", rfl, Nat.le_of_ble_eq_true rfl, fw_X10, (List.mem_append_right _ (List.mem_of_getElem? (i := 317) (by decide +kernel))), tyX10_ok, nmX10, rfl, rfl, by decide +kernel, rfl, rfl⟩ (Nat.le_of_ble_eq_true rfl) dX10_init_115 ?_
  refine jc_fs (fs' := [.ref (a + 15), .ref (a + 1), .ref (a + 9), .ref (a + 25), .ref (a + 31), .ref (a + 32), .ref (a + 42), .ref (a + 47), .ref (a + 50), .null, .null]) rfl ?_
  refine jc_aload_n dX10_init_118 rfl 2 rfl ?_
  refine jc_new (ci := 3) fw_X3 tyX3 tyX3_ok (List.mem_append_right _ (List.mem_of_getElem? (i := 269) (by decide +kernel))) (List.mem_append_right _ (List.mem_of_getElem? (i := 270) (by decide +kernel))) (List.mem_append_right _ (List.mem_of_getElem? (i := 10) (by decide +kernel))) rfl z_X3_ok (Nat.le_of_ble_eq_true rfl) (Nat.le_of_ble_eq_true rfl) dX10_init_119 ?_
  refine jc_n (n' := a + 52) (c2 := 51) (s2 := 929) rfl rfl rfl ?_
  refine jc_dup dX10_init_122 ?_
  refine jc_aload_n dX10_init_123 rfl 1 rfl ?_
  refine jc_init (rest0 := _) (ci_X3 (a + 51) (a + 1)) fi_X3 (List.mem_append_right _ (List.mem_of_getElem? (i := 271) (by decide +kernel))) ⟨rfl, rfl, Nat.le_of_ble_eq_true rfl, Nat.le_of_ble_eq_true rfl⟩ rfl (Nat.le_of_ble_eq_true rfl) dX10_init_124 ⟨Nat.le_of_ble_eq_true rfl, Nat.le_of_ble_eq_true rfl⟩ rfl ?_
  refine jc_n (n' := a + 149) (c2 := 148) (s2 := 1569) rfl rfl rfl ?_
  refine jc_eqv (n' := a + 149) (fs' := [.ref (a + 15), .ref (a + 1), .ref (a + 9), .ref (a + 25), .ref (a + 31), .ref (a + 32), .ref (a + 42), .ref (a + 47), .ref (a + 50), .null, .null]) (rest' := fun tc => votesP a tc) rfl rfl (fun _ => rfl) ?_
  refine jc_put (j := 9) (fin := true) ⟨RX10, TX10, 11, tyX10, .object "StatueVotes$History", rfl, Nat.le_of_ble_eq_true rfl, fw_X10, (List.mem_append_right _ (List.mem_of_getElem? (i := 318) (by decide +kernel))), tyX10_ok, nmX10, rfl, rfl, by decide +kernel, rfl, rfl⟩ (Nat.le_of_ble_eq_true rfl) dX10_init_127 ?_
  refine jc_fs (fs' := [.ref (a + 15), .ref (a + 1), .ref (a + 9), .ref (a + 25), .ref (a + 31), .ref (a + 32), .ref (a + 42), .ref (a + 47), .ref (a + 50), .ref (a + 51), .null]) rfl ?_
  refine jc_aload_n dX10_init_130 rfl 2 rfl ?_
  refine jc_iconst (v := 2) dX10_init_131 (by decide) ?_
  -- 132 .anewarray 81
  refine jc_newq (t0 := 4) (N' := 2) (List.mem_append_right _ (List.mem_of_getElem? (i := 289) (by decide +kernel))) (Or.inr rfl) (fun _ => rfl) (by decide) (by decide) (Nat.le_of_ble_eq_true rfl) (Nat.le_of_ble_eq_true rfl) (Nat.le_of_ble_eq_true rfl) dX10_init_132 ?_
  refine jc_n (n' := a + 150) (c2 := 149) (s2 := 1571) rfl rfl rfl ?_
  refine jc_eqv (n' := a + 150) (fs' := [.ref (a + 15), .ref (a + 1), .ref (a + 9), .ref (a + 25), .ref (a + 31), .ref (a + 32), .ref (a + 42), .ref (a + 47), .ref (a + 50), .ref (a + 51), .null]) (rest' := fun tc => votesP a tc ++ [(a + 149, .inl (tc 4, 2, .inr (.inr (.inr (.inr (imgF a 0))))))]) rfl rfl (fun _ => by rw [img_0]) ?_
  refine jc_dup dX10_init_135 ?_
  refine jc_iconst (v := 0) dX10_init_136 (by decide) ?_
  refine jc_new (ci := 4) fw_X4 tyX4 tyX4_ok (List.mem_append_right _ (List.mem_of_getElem? (i := 289) (by decide +kernel))) (List.mem_append_right _ (List.mem_of_getElem? (i := 291) (by decide +kernel))) (List.mem_append_right _ (List.mem_of_getElem? (i := 11) (by decide +kernel))) rfl z_X4_ok (Nat.le_of_ble_eq_true rfl) (Nat.le_of_ble_eq_true rfl) dX10_init_137 ?_
  refine jc_n (n' := a + 151) (c2 := 150) (s2 := 1574) rfl rfl rfl ?_
  refine jc_dup dX10_init_140 ?_
  refine jc_aload_n dX10_init_141 rfl 1 rfl ?_
  refine jc_init (rest0 := _) (ci_X4 (a + 150) (a + 1)) fi_X4 (List.mem_append_right _ (List.mem_of_getElem? (i := 292) (by decide +kernel))) ⟨rfl, rfl, Nat.le_of_ble_eq_true rfl, Nat.le_of_ble_eq_true rfl⟩ rfl (Nat.le_of_ble_eq_true rfl) dX10_init_142 ⟨Nat.le_of_ble_eq_true rfl, Nat.le_of_ble_eq_true rfl⟩ rfl ?_
  refine jc_n (n' := a + 157) (c2 := 156) (s2 := 1613) rfl rfl rfl ?_
  refine jc_eqv (n' := a + 157) (fs' := [.ref (a + 15), .ref (a + 1), .ref (a + 9), .ref (a + 25), .ref (a + 31), .ref (a + 32), .ref (a + 42), .ref (a + 47), .ref (a + 50), .ref (a + 51), .null]) (rest' := fun tc => votesP a tc ++ [(a + 149, .inl (tc 4, 2, .inr (.inr (.inr (.inr (imgF a 0))))))] ++ imageW (a + 150) (a + 1) tc) rfl rfl (fun _ => rfl) ?_
  -- 145 .aastore
  refine jc_astq (t0 := 4) (ci := 4) (f := imgF a 0) (N' := 2) (rest' := fun tc => votesP a tc ++ [(a + 149, .inl (tc 4, 2, .inr (.inr (.inr (.inr (imgF a 1))))))] ++ imageW (a + 150) (a + 1) tc) 148 149 (fun tc => lx_get (votesP_len a tc)) (fun _ => rfl) (fun tc => lx_nxt (pre := votesP a tc ++ [_]) (by rw [List.length_append, votesP_len]; rfl)) rfl (nI_in (c := 0) (N := 2) (by decide) (by decide)) (fun tc => by rw [img_1]; exact lx_set (votesP_len a tc)) dX10_init_145 ?_
  refine jc_dup dX10_init_146 ?_
  refine jc_iconst (v := 1) dX10_init_147 (by decide) ?_
  refine jc_new (ci := 4) fw_X4 tyX4 tyX4_ok (List.mem_append_right _ (List.mem_of_getElem? (i := 289) (by decide +kernel))) (List.mem_append_right _ (List.mem_of_getElem? (i := 291) (by decide +kernel))) (List.mem_append_right _ (List.mem_of_getElem? (i := 11) (by decide +kernel))) rfl z_X4_ok (Nat.le_of_ble_eq_true rfl) (Nat.le_of_ble_eq_true rfl) dX10_init_148 ?_
  refine jc_n (n' := a + 158) (c2 := 157) (s2 := 1616) rfl rfl rfl ?_
  refine jc_dup dX10_init_151 ?_
  refine jc_aload_n dX10_init_152 rfl 1 rfl ?_
  refine jc_init (rest0 := _) (ci_X4 (a + 157) (a + 1)) fi_X4 (List.mem_append_right _ (List.mem_of_getElem? (i := 292) (by decide +kernel))) ⟨rfl, rfl, Nat.le_of_ble_eq_true rfl, Nat.le_of_ble_eq_true rfl⟩ rfl (Nat.le_of_ble_eq_true rfl) dX10_init_153 ⟨Nat.le_of_ble_eq_true rfl, Nat.le_of_ble_eq_true rfl⟩ rfl ?_
  refine jc_n (n' := a + 164) (c2 := 163) (s2 := 1655) rfl rfl rfl ?_
  refine jc_eqv (n' := a + 164) (fs' := [.ref (a + 15), .ref (a + 1), .ref (a + 9), .ref (a + 25), .ref (a + 31), .ref (a + 32), .ref (a + 42), .ref (a + 47), .ref (a + 50), .ref (a + 51), .null]) (rest' := fun tc => votesP a tc ++ [(a + 149, .inl (tc 4, 2, .inr (.inr (.inr (.inr (imgF a 1))))))] ++ imageW (a + 150) (a + 1) tc ++ imageW (a + 157) (a + 1) tc) rfl rfl (fun _ => rfl) ?_
  -- 156 .aastore
  refine jc_astq (t0 := 4) (ci := 4) (f := imgF a 1) (N' := 2) (rest' := fun tc => votesP a tc ++ [(a + 149, .inl (tc 4, 2, .inr (.inr (.inr (.inr (imgF a 2))))))] ++ imageW (a + 150) (a + 1) tc ++ imageW (a + 157) (a + 1) tc) 148 156 (fun tc => (by rw [List.append_assoc (votesP a tc ++ [_])]; exact lx_get (votesP_len a tc))) (fun _ => rfl) (fun tc => lx_nxt (pre := votesP a tc ++ [_] ++ imageW (a + 150) (a + 1) tc) (by rw [List.length_append, List.length_append, votesP_len]; rfl)) rfl (nI_in (c := 1) (N := 2) (by decide) (by decide)) (fun tc => by rw [img_2, List.append_assoc (votesP a tc ++ [_]), lx_set (votesP_len a tc), ← List.append_assoc]) dX10_init_156 ?_
  refine jc_put (j := 10) (fin := true) ⟨RX10, TX10, 11, tyX10, .array (.object "StatueVotes$Image"), rfl, Nat.le_of_ble_eq_true rfl, fw_X10, (List.mem_append_right _ (List.mem_of_getElem? (i := 319) (by decide +kernel))), tyX10_ok, nmX10, rfl, rfl, by decide +kernel, rfl, rfl⟩ (Nat.le_of_ble_eq_true rfl) dX10_init_157 ?_
  refine jc_fs (fs' := [.ref (a + 15), .ref (a + 1), .ref (a + 9), .ref (a + 25), .ref (a + 31), .ref (a + 32), .ref (a + 42), .ref (a + 47), .ref (a + 50), .ref (a + 51), .ref (a + 149)]) rfl ?_
  exact jc_ret dX10_init_160 rfl rfl rfl (fun _ => rfl)
