/-! ===== printed by gen/ctors.py: constructors ===== -/
set_option maxRecDepth 100000 in
theorem ci_X8 (a ct : Nat) : jc_M rm_X8 iX8 a 8 z_X8 [.ref ct] 5 32 (stateW a ct) := by
  refine jc_M.of (lv := [(0, .ref a), (1, .ref ct)]) rfl rfl (by decide +kernel) (Nat.le_of_ble_eq_true rfl) rfl ?_
  refine jc_aload_n dX8_init_0 rfl 0 rfl ?_
  refine jc_obj (List.mem_append_right _ (List.mem_of_getElem? (i := 98) (by decide +kernel))) fi_o1 fi_o2 dX8_init_1 (Nat.le_of_ble_eq_true rfl) (Nat.le_of_ble_eq_true rfl) ?_
  refine jc_aload_n dX8_init_4 rfl 0 rfl ?_
  refine jc_bipush (v := 6) dX8_init_5 (by decide) ?_
  refine jc_newa (atype := .int) (t0 := 0) (N' := 6) fi_aI rfl (fun _ => rfl) (fun _ => rfl) (by decide) (by decide) (Nat.le_of_ble_eq_true rfl) (Nat.le_of_ble_eq_true rfl) (Nat.le_of_ble_eq_true rfl) dX8_init_7 ?_
  refine jc_n (n' := a + 2) (c2 := 1) (s2 := 6) rfl rfl rfl ?_
  refine jc_put (j := 2) (fin := true) ⟨RX8, TX8, 7, tyX8, .array .int, rfl, Nat.le_of_ble_eq_true rfl, fw_X8, (List.mem_append_right _ (List.mem_of_getElem? (i := 102) (by decide +kernel))), tyX8_ok, nmX8, rfl, rfl, by decide +kernel, rfl, rfl⟩ (Nat.le_of_ble_eq_true rfl) dX8_init_9 ?_
  refine jc_aload_n dX8_init_12 rfl 0 rfl ?_
  refine jc_bipush (v := 6) dX8_init_13 (by decide) ?_
  refine jc_newa (atype := .int) (t0 := 0) (N' := 6) fi_aI rfl (fun _ => rfl) (fun _ => rfl) (by decide) (by decide) (Nat.le_of_ble_eq_true rfl) (Nat.le_of_ble_eq_true rfl) (Nat.le_of_ble_eq_true rfl) dX8_init_15 ?_
  refine jc_n (n' := a + 3) (c2 := 2) (s2 := 12) rfl rfl rfl ?_
  refine jc_put (j := 3) (fin := true) ⟨RX8, TX8, 7, tyX8, .array .int, rfl, Nat.le_of_ble_eq_true rfl, fw_X8, (List.mem_append_right _ (List.mem_of_getElem? (i := 107) (by decide +kernel))), tyX8_ok, nmX8, rfl, rfl, by decide +kernel, rfl, rfl⟩ (Nat.le_of_ble_eq_true rfl) dX8_init_17 ?_
  refine jc_aload_n dX8_init_20 rfl 0 rfl ?_
  refine jc_bipush (v := 6) dX8_init_21 (by decide) ?_
  refine jc_newa (atype := .int) (t0 := 0) (N' := 6) fi_aI rfl (fun _ => rfl) (fun _ => rfl) (by decide) (by decide) (Nat.le_of_ble_eq_true rfl) (Nat.le_of_ble_eq_true rfl) (Nat.le_of_ble_eq_true rfl) dX8_init_23 ?_
  refine jc_n (n' := a + 4) (c2 := 3) (s2 := 18) rfl rfl rfl ?_
  refine jc_put (j := 4) (fin := true) ⟨RX8, TX8, 7, tyX8, .array .int, rfl, Nat.le_of_ble_eq_true rfl, fw_X8, (List.mem_append_right _ (List.mem_of_getElem? (i := 110) (by decide +kernel))), tyX8_ok, nmX8, rfl, rfl, by decide +kernel, rfl, rfl⟩ (Nat.le_of_ble_eq_true rfl) dX8_init_25 ?_
  refine jc_aload_n dX8_init_28 rfl 0 rfl ?_
  refine jc_bipush (v := 7) dX8_init_29 (by decide) ?_
  refine jc_newa (atype := .int) (t0 := 0) (N' := 7) fi_aI rfl (fun _ => rfl) (fun _ => rfl) (by decide) (by decide) (Nat.le_of_ble_eq_true rfl) (Nat.le_of_ble_eq_true rfl) (Nat.le_of_ble_eq_true rfl) dX8_init_31 ?_
  refine jc_n (n' := a + 5) (c2 := 4) (s2 := 25) rfl rfl rfl ?_
  refine jc_put (j := 5) (fin := true) ⟨RX8, TX8, 7, tyX8, .array .int, rfl, Nat.le_of_ble_eq_true rfl, fw_X8, (List.mem_append_right _ (List.mem_of_getElem? (i := 112) (by decide +kernel))), tyX8_ok, nmX8, rfl, rfl, by decide +kernel, rfl, rfl⟩ (Nat.le_of_ble_eq_true rfl) dX8_init_33 ?_
  refine jc_aload_n dX8_init_36 rfl 0 rfl ?_
  refine jc_bipush (v := 7) dX8_init_37 (by decide) ?_
  refine jc_newa (atype := .int) (t0 := 0) (N' := 7) fi_aI rfl (fun _ => rfl) (fun _ => rfl) (by decide) (by decide) (Nat.le_of_ble_eq_true rfl) (Nat.le_of_ble_eq_true rfl) (Nat.le_of_ble_eq_true rfl) dX8_init_39 ?_
  refine jc_n (n' := a + 6) (c2 := 5) (s2 := 32) rfl rfl rfl ?_
  refine jc_put (j := 6) (fin := true) ⟨RX8, TX8, 7, tyX8, .array .int, rfl, Nat.le_of_ble_eq_true rfl, fw_X8, (List.mem_append_right _ (List.mem_of_getElem? (i := 115) (by decide +kernel))), tyX8_ok, nmX8, rfl, rfl, by decide +kernel, rfl, rfl⟩ (Nat.le_of_ble_eq_true rfl) dX8_init_41 ?_
  refine jc_aload_n dX8_init_44 rfl 0 rfl ?_
  refine jc_aload_n dX8_init_45 rfl 1 rfl ?_
  refine jc_put (j := 0) (fin := true) ⟨RX8, TX8, 7, tyX8, .object "StatueVotes$City", rfl, Nat.le_of_ble_eq_true rfl, fw_X8, (List.mem_append_right _ (List.mem_of_getElem? (i := 99) (by decide +kernel))), tyX8_ok, nmX8, rfl, rfl, by decide +kernel, rfl, rfl⟩ (Nat.le_of_ble_eq_true rfl) dX8_init_46 ?_
  exact jc_ret dX8_init_49 rfl rfl rfl (fun _ => rfl)
set_option maxRecDepth 100000 in
theorem ci_X1 (a : Nat) : jc_M rm_X1 iX1 a 1 z_X1 [] 7 44 (cityW a) := by
  refine jc_M.of (lv := [(0, .ref a)]) rfl rfl (by decide +kernel) (Nat.le_of_ble_eq_true rfl) rfl ?_
  refine jc_aload_n dX1_init_0 rfl 0 rfl ?_
  refine jc_obj (List.mem_append_right _ (List.mem_of_getElem? (i := 29) (by decide +kernel))) fi_o1 fi_o2 dX1_init_1 (Nat.le_of_ble_eq_true rfl) (Nat.le_of_ble_eq_true rfl) ?_
  refine jc_aload_n dX1_init_4 rfl 0 rfl ?_
  refine jc_iconst (v := 5) dX1_init_5 (by decide) ?_
  refine jc_newa (atype := .int) (t0 := 0) (N' := 5) fi_aI rfl (fun _ => rfl) (fun _ => rfl) (by decide) (by decide) (Nat.le_of_ble_eq_true rfl) (Nat.le_of_ble_eq_true rfl) (Nat.le_of_ble_eq_true rfl) dX1_init_6 ?_
  refine jc_n (n' := a + 2) (c2 := 1) (s2 := 5) rfl rfl rfl ?_
  refine jc_put (j := 4) (fin := true) ⟨RX1, TX1, 11, tyX1, .array .int, rfl, Nat.le_of_ble_eq_true rfl, fw_X1, (List.mem_append_right _ (List.mem_of_getElem? (i := 53) (by decide +kernel))), tyX1_ok, nmX1, rfl, rfl, by decide +kernel, rfl, rfl⟩ (Nat.le_of_ble_eq_true rfl) dX1_init_8 ?_
  refine jc_aload_n dX1_init_11 rfl 0 rfl ?_
  refine jc_bipush (v := 6) dX1_init_12 (by decide) ?_
  refine jc_newa (atype := .int) (t0 := 0) (N' := 6) fi_aI rfl (fun _ => rfl) (fun _ => rfl) (by decide) (by decide) (Nat.le_of_ble_eq_true rfl) (Nat.le_of_ble_eq_true rfl) (Nat.le_of_ble_eq_true rfl) dX1_init_14 ?_
  refine jc_n (n' := a + 3) (c2 := 2) (s2 := 11) rfl rfl rfl ?_
  refine jc_put (j := 5) (fin := true) ⟨RX1, TX1, 11, tyX1, .array .int, rfl, Nat.le_of_ble_eq_true rfl, fw_X1, (List.mem_append_right _ (List.mem_of_getElem? (i := 56) (by decide +kernel))), tyX1_ok, nmX1, rfl, rfl, by decide +kernel, rfl, rfl⟩ (Nat.le_of_ble_eq_true rfl) dX1_init_16 ?_
  refine jc_aload_n dX1_init_19 rfl 0 rfl ?_
  refine jc_bipush (v := 6) dX1_init_20 (by decide) ?_
  refine jc_newa (atype := .int) (t0 := 0) (N' := 6) fi_aI rfl (fun _ => rfl) (fun _ => rfl) (by decide) (by decide) (Nat.le_of_ble_eq_true rfl) (Nat.le_of_ble_eq_true rfl) (Nat.le_of_ble_eq_true rfl) dX1_init_22 ?_
  refine jc_n (n' := a + 4) (c2 := 3) (s2 := 17) rfl rfl rfl ?_
  refine jc_put (j := 6) (fin := true) ⟨RX1, TX1, 11, tyX1, .array .int, rfl, Nat.le_of_ble_eq_true rfl, fw_X1, (List.mem_append_right _ (List.mem_of_getElem? (i := 59) (by decide +kernel))), tyX1_ok, nmX1, rfl, rfl, by decide +kernel, rfl, rfl⟩ (Nat.le_of_ble_eq_true rfl) dX1_init_24 ?_
  refine jc_aload_n dX1_init_27 rfl 0 rfl ?_
  refine jc_bipush (v := 6) dX1_init_28 (by decide) ?_
  refine jc_newa (atype := .int) (t0 := 0) (N' := 6) fi_aI rfl (fun _ => rfl) (fun _ => rfl) (by decide) (by decide) (Nat.le_of_ble_eq_true rfl) (Nat.le_of_ble_eq_true rfl) (Nat.le_of_ble_eq_true rfl) dX1_init_30 ?_
  refine jc_n (n' := a + 5) (c2 := 4) (s2 := 23) rfl rfl rfl ?_
  refine jc_put (j := 7) (fin := true) ⟨RX1, TX1, 11, tyX1, .array .int, rfl, Nat.le_of_ble_eq_true rfl, fw_X1, (List.mem_append_right _ (List.mem_of_getElem? (i := 61) (by decide +kernel))), tyX1_ok, nmX1, rfl, rfl, by decide +kernel, rfl, rfl⟩ (Nat.le_of_ble_eq_true rfl) dX1_init_32 ?_
  refine jc_aload_n dX1_init_35 rfl 0 rfl ?_
  refine jc_bipush (v := 7) dX1_init_36 (by decide) ?_
  refine jc_newa (atype := .int) (t0 := 0) (N' := 7) fi_aI rfl (fun _ => rfl) (fun _ => rfl) (by decide) (by decide) (Nat.le_of_ble_eq_true rfl) (Nat.le_of_ble_eq_true rfl) (Nat.le_of_ble_eq_true rfl) dX1_init_38 ?_
  refine jc_n (n' := a + 6) (c2 := 5) (s2 := 30) rfl rfl rfl ?_
  refine jc_put (j := 8) (fin := true) ⟨RX1, TX1, 11, tyX1, .array .int, rfl, Nat.le_of_ble_eq_true rfl, fw_X1, (List.mem_append_right _ (List.mem_of_getElem? (i := 63) (by decide +kernel))), tyX1_ok, nmX1, rfl, rfl, by decide +kernel, rfl, rfl⟩ (Nat.le_of_ble_eq_true rfl) dX1_init_40 ?_
  refine jc_aload_n dX1_init_43 rfl 0 rfl ?_
  refine jc_bipush (v := 7) dX1_init_44 (by decide) ?_
  refine jc_newa (atype := .int) (t0 := 0) (N' := 7) fi_aI rfl (fun _ => rfl) (fun _ => rfl) (by decide) (by decide) (Nat.le_of_ble_eq_true rfl) (Nat.le_of_ble_eq_true rfl) (Nat.le_of_ble_eq_true rfl) dX1_init_46 ?_
  refine jc_n (n' := a + 7) (c2 := 6) (s2 := 37) rfl rfl rfl ?_
  refine jc_put (j := 9) (fin := true) ⟨RX1, TX1, 11, tyX1, .array .int, rfl, Nat.le_of_ble_eq_true rfl, fw_X1, (List.mem_append_right _ (List.mem_of_getElem? (i := 65) (by decide +kernel))), tyX1_ok, nmX1, rfl, rfl, by decide +kernel, rfl, rfl⟩ (Nat.le_of_ble_eq_true rfl) dX1_init_48 ?_
  refine jc_aload_n dX1_init_51 rfl 0 rfl ?_
  refine jc_bipush (v := 7) dX1_init_52 (by decide) ?_
  refine jc_newa (atype := .int) (t0 := 0) (N' := 7) fi_aI rfl (fun _ => rfl) (fun _ => rfl) (by decide) (by decide) (Nat.le_of_ble_eq_true rfl) (Nat.le_of_ble_eq_true rfl) (Nat.le_of_ble_eq_true rfl) dX1_init_54 ?_
  refine jc_n (n' := a + 8) (c2 := 7) (s2 := 44) rfl rfl rfl ?_
  refine jc_put (j := 10) (fin := true) ⟨RX1, TX1, 11, tyX1, .array .int, rfl, Nat.le_of_ble_eq_true rfl, fw_X1, (List.mem_append_right _ (List.mem_of_getElem? (i := 67) (by decide +kernel))), tyX1_ok, nmX1, rfl, rfl, by decide +kernel, rfl, rfl⟩ (Nat.le_of_ble_eq_true rfl) dX1_init_56 ?_
  exact jc_ret dX1_init_59 rfl rfl rfl (fun _ => rfl)
set_option maxRecDepth 100000 in
theorem ci_X7 (a : Nat) : jc_M rm_X7 iX7 a 7 z_X7 [] 9 295 (readerW a) := by
  refine jc_M.of (lv := [(0, .ref a)]) rfl rfl (by decide +kernel) (Nat.le_of_ble_eq_true rfl) rfl ?_
  refine jc_aload_n dX7_init_0 rfl 0 rfl ?_
  refine jc_obj (List.mem_append_right _ (List.mem_of_getElem? (i := 137) (by decide +kernel))) fi_o1 fi_o2 dX7_init_1 (Nat.le_of_ble_eq_true rfl) (Nat.le_of_ble_eq_true rfl) ?_
  refine jc_aload_n dX7_init_4 rfl 0 rfl ?_
  refine jc_sipush (v := 240) dX7_init_5 (by decide) ?_
  refine jc_newa (atype := .int) (t0 := 0) (N' := 240) fi_aI rfl (fun _ => rfl) (fun _ => rfl) (by decide) (by decide) (Nat.le_of_ble_eq_true rfl) (Nat.le_of_ble_eq_true rfl) (Nat.le_of_ble_eq_true rfl) dX7_init_8 ?_
  refine jc_n (n' := a + 2) (c2 := 1) (s2 := 240) rfl rfl rfl ?_
  refine jc_put (j := 0) (fin := true) ⟨RX7, TX7, 6, tyX7, .array .int, rfl, Nat.le_of_ble_eq_true rfl, fw_X7, (List.mem_append_right _ (List.mem_of_getElem? (i := 140) (by decide +kernel))), tyX7_ok, nmX7, rfl, rfl, by decide +kernel, rfl, rfl⟩ (Nat.le_of_ble_eq_true rfl) dX7_init_10 ?_
  refine jc_aload_n dX7_init_13 rfl 0 rfl ?_
  refine jc_iconst (v := (-1)) dX7_init_14 (by decide) ?_
  refine jc_put (j := 4) (fin := false) ⟨RX7, TX7, 6, tyX7, .int, rfl, Nat.le_of_ble_eq_true rfl, fw_X7, (List.mem_append_right _ (List.mem_of_getElem? (i := 146) (by decide +kernel))), tyX7_ok, nmX7, rfl, rfl, by decide +kernel, rfl, rfl⟩ (Nat.le_of_ble_eq_true rfl) dX7_init_15 ?_
  refine jc_aload_n dX7_init_18 rfl 0 rfl ?_
  refine jc_new (ci := 1) fw_X1 tyX1 tyX1_ok (List.mem_append_right _ (List.mem_of_getElem? (i := 138) (by decide +kernel))) (List.mem_append_right _ (List.mem_of_getElem? (i := 25) (by decide +kernel))) (List.mem_append_right _ (List.mem_of_getElem? (i := 2) (by decide +kernel))) rfl z_X1_ok (Nat.le_of_ble_eq_true rfl) (Nat.le_of_ble_eq_true rfl) dX7_init_19 ?_
  refine jc_n (n' := a + 3) (c2 := 2) (s2 := 251) rfl rfl rfl ?_
  refine jc_dup dX7_init_22 ?_
  refine jc_initN (rest0 := _) (ci_X1 (a + 2)) fi_X1 (by decide +kernel) ⟨rfl, rfl, Nat.le_of_ble_eq_true rfl, Nat.le_of_ble_eq_true rfl⟩ rfl (Nat.le_of_ble_eq_true rfl) dX7_init_23 ⟨Nat.le_of_ble_eq_true rfl, Nat.le_of_ble_eq_true rfl⟩ rfl ?_
  refine jc_n (n' := a + 10) (c2 := 9) (s2 := 295) rfl rfl rfl ?_
  refine jc_put (j := 5) (fin := true) ⟨RX7, TX7, 6, tyX7, .object "StatueVotes$City", rfl, Nat.le_of_ble_eq_true rfl, fw_X7, (List.mem_append_right _ (List.mem_of_getElem? (i := 148) (by decide +kernel))), tyX7_ok, nmX7, rfl, rfl, by decide +kernel, rfl, rfl⟩ (Nat.le_of_ble_eq_true rfl) dX7_init_26 ?_
  exact jc_ret dX7_init_29 rfl rfl rfl (fun _ => rfl)
set_option maxRecDepth 100000 in
theorem ci_X6 (a ct nw : Nat) : jc_M rm_X6 iX6 a 6 z_X6 [.ref ct, .ref nw] 0 0 (pollsW a ct nw) := by
  refine jc_M.of (lv := [(0, .ref a), (1, .ref ct), (2, .ref nw)]) rfl rfl (by decide +kernel) (Nat.le_of_ble_eq_true rfl) rfl ?_
  refine jc_aload_n dX6_init_0 rfl 0 rfl ?_
  refine jc_obj (List.mem_append_right _ (List.mem_of_getElem? (i := 168) (by decide +kernel))) fi_o1 fi_o2 dX6_init_1 (Nat.le_of_ble_eq_true rfl) (Nat.le_of_ble_eq_true rfl) ?_
  refine jc_aload_n dX6_init_4 rfl 0 rfl ?_
  refine jc_aload_n dX6_init_5 rfl 1 rfl ?_
  refine jc_put (j := 0) (fin := true) ⟨RX6, TX6, 2, tyX6, .object "StatueVotes$City", rfl, Nat.le_of_ble_eq_true rfl, fw_X6, (List.mem_append_right _ (List.mem_of_getElem? (i := 169) (by decide +kernel))), tyX6_ok, nmX6, rfl, rfl, by decide +kernel, rfl, rfl⟩ (Nat.le_of_ble_eq_true rfl) dX6_init_6 ?_
  refine jc_aload_n dX6_init_9 rfl 0 rfl ?_
  refine jc_aload_n dX6_init_10 rfl 2 rfl ?_
  refine jc_put (j := 1) (fin := true) ⟨RX6, TX6, 2, tyX6, .object "StatueVotes$State", rfl, Nat.le_of_ble_eq_true rfl, fw_X6, (List.mem_append_right _ (List.mem_of_getElem? (i := 170) (by decide +kernel))), tyX6_ok, nmX6, rfl, rfl, by decide +kernel, rfl, rfl⟩ (Nat.le_of_ble_eq_true rfl) dX6_init_11 ?_
  exact jc_ret dX6_init_14 rfl rfl rfl (fun _ => rfl)
set_option maxRecDepth 100000 in
theorem ci_X5 (a ct nw : Nat) : jc_M rm_X5 iX5 a 5 z_X5 [.ref ct, .ref nw] 9 237 (placerW a ct nw) := by
  refine jc_M.of (lv := [(0, .ref a), (1, .ref ct), (2, .ref nw)]) rfl rfl (by decide +kernel) (Nat.le_of_ble_eq_true rfl) rfl ?_
  refine jc_aload_n dX5_init_0 rfl 0 rfl ?_
  refine jc_obj (List.mem_append_right _ (List.mem_of_getElem? (i := 181) (by decide +kernel))) fi_o1 fi_o2 dX5_init_1 (Nat.le_of_ble_eq_true rfl) (Nat.le_of_ble_eq_true rfl) ?_
  refine jc_aload_n dX5_init_4 rfl 0 rfl ?_
  refine jc_bipush (v := 7) dX5_init_5 (by decide) ?_
  refine jc_bipush (v := 32) dX5_init_7 (by decide) ?_
  refine jc_mna (List.mem_append_right _ (List.mem_of_getElem? (i := 182) (by decide +kernel))) fi_aI (Nat.le_of_ble_eq_true rfl) (Nat.le_of_ble_eq_true rfl) dX5_init_9 ?_
  refine jc_n (n' := a + 9) (c2 := 8) (s2 := 231) rfl rfl rfl ?_
  refine jc_put (j := 2) (fin := true) ⟨RX5, TX5, 4, tyX5, .array (.array .int), rfl, Nat.le_of_ble_eq_true rfl, fw_X5, (List.mem_append_right _ (List.mem_of_getElem? (i := 186) (by decide +kernel))), tyX5_ok, nmX5, rfl, rfl, by decide +kernel, rfl, rfl⟩ (Nat.le_of_ble_eq_true rfl) dX5_init_13 ?_
  refine jc_aload_n dX5_init_16 rfl 0 rfl ?_
  refine jc_bipush (v := 6) dX5_init_17 (by decide) ?_
  refine jc_newa (atype := .int) (t0 := 0) (N' := 6) fi_aI rfl (fun _ => rfl) (fun _ => rfl) (by decide) (by decide) (Nat.le_of_ble_eq_true rfl) (Nat.le_of_ble_eq_true rfl) (Nat.le_of_ble_eq_true rfl) dX5_init_19 ?_
  refine jc_n (n' := a + 10) (c2 := 9) (s2 := 237) rfl rfl rfl ?_
  refine jc_put (j := 3) (fin := true) ⟨RX5, TX5, 4, tyX5, .array .int, rfl, Nat.le_of_ble_eq_true rfl, fw_X5, (List.mem_append_right _ (List.mem_of_getElem? (i := 187) (by decide +kernel))), tyX5_ok, nmX5, rfl, rfl, by decide +kernel, rfl, rfl⟩ (Nat.le_of_ble_eq_true rfl) dX5_init_21 ?_
  refine jc_aload_n dX5_init_24 rfl 0 rfl ?_
  refine jc_aload_n dX5_init_25 rfl 1 rfl ?_
  refine jc_put (j := 0) (fin := true) ⟨RX5, TX5, 4, tyX5, .object "StatueVotes$City", rfl, Nat.le_of_ble_eq_true rfl, fw_X5, (List.mem_append_right _ (List.mem_of_getElem? (i := 184) (by decide +kernel))), tyX5_ok, nmX5, rfl, rfl, by decide +kernel, rfl, rfl⟩ (Nat.le_of_ble_eq_true rfl) dX5_init_26 ?_
  refine jc_aload_n dX5_init_29 rfl 0 rfl ?_
  refine jc_aload_n dX5_init_30 rfl 2 rfl ?_
  refine jc_put (j := 1) (fin := true) ⟨RX5, TX5, 4, tyX5, .object "StatueVotes$State", rfl, Nat.le_of_ble_eq_true rfl, fw_X5, (List.mem_append_right _ (List.mem_of_getElem? (i := 185) (by decide +kernel))), tyX5_ok, nmX5, rfl, rfl, by decide +kernel, rfl, rfl⟩ (Nat.le_of_ble_eq_true rfl) dX5_init_31 ?_
  exact jc_ret dX5_init_34 rfl rfl rfl (fun _ => rfl)
set_option maxRecDepth 100000 in
theorem ci_X9 (a ct nw : Nat) : jc_M rm_X9 iX9 a 9 z_X9 [.ref ct, .ref nw] 4 204 (tallyW a ct nw) := by
  refine jc_M.of (lv := [(0, .ref a), (1, .ref ct), (2, .ref nw)]) rfl rfl (by decide +kernel) (Nat.le_of_ble_eq_true rfl) rfl ?_
  refine jc_aload_n dX9_init_0 rfl 0 rfl ?_
  refine jc_obj (List.mem_append_right _ (List.mem_of_getElem? (i := 203) (by decide +kernel))) fi_o1 fi_o2 dX9_init_1 (Nat.le_of_ble_eq_true rfl) (Nat.le_of_ble_eq_true rfl) ?_
  refine jc_aload_n dX9_init_4 rfl 0 rfl ?_
  refine jc_bipush (v := 6) dX9_init_5 (by decide) ?_
  refine jc_newa (atype := .int) (t0 := 0) (N' := 6) fi_aI rfl (fun _ => rfl) (fun _ => rfl) (by decide) (by decide) (Nat.le_of_ble_eq_true rfl) (Nat.le_of_ble_eq_true rfl) (Nat.le_of_ble_eq_true rfl) dX9_init_7 ?_
  refine jc_n (n' := a + 2) (c2 := 1) (s2 := 6) rfl rfl rfl ?_
  refine jc_put (j := 2) (fin := true) ⟨RX9, TX9, 8, tyX9, .array .int, rfl, Nat.le_of_ble_eq_true rfl, fw_X9, (List.mem_append_right _ (List.mem_of_getElem? (i := 206) (by decide +kernel))), tyX9_ok, nmX9, rfl, rfl, by decide +kernel, rfl, rfl⟩ (Nat.le_of_ble_eq_true rfl) dX9_init_9 ?_
  refine jc_aload_n dX9_init_12 rfl 0 rfl ?_
  refine jc_bipush (v := 6) dX9_init_13 (by decide) ?_
  refine jc_newa (atype := .int) (t0 := 0) (N' := 6) fi_aI rfl (fun _ => rfl) (fun _ => rfl) (by decide) (by decide) (Nat.le_of_ble_eq_true rfl) (Nat.le_of_ble_eq_true rfl) (Nat.le_of_ble_eq_true rfl) dX9_init_15 ?_
  refine jc_n (n' := a + 3) (c2 := 2) (s2 := 12) rfl rfl rfl ?_
  refine jc_put (j := 3) (fin := true) ⟨RX9, TX9, 8, tyX9, .array .int, rfl, Nat.le_of_ble_eq_true rfl, fw_X9, (List.mem_append_right _ (List.mem_of_getElem? (i := 207) (by decide +kernel))), tyX9_ok, nmX9, rfl, rfl, by decide +kernel, rfl, rfl⟩ (Nat.le_of_ble_eq_true rfl) dX9_init_17 ?_
  refine jc_aload_n dX9_init_20 rfl 0 rfl ?_
  refine jc_sipush (v := 128) dX9_init_21 (by decide) ?_
  refine jc_newa (atype := .boolean) (t0 := 1) (N' := 128) fi_aZ rfl (fun _ => rfl) (fun _ => rfl) (by decide) (by decide) (Nat.le_of_ble_eq_true rfl) (Nat.le_of_ble_eq_true rfl) (Nat.le_of_ble_eq_true rfl) dX9_init_24 ?_
  refine jc_n (n' := a + 4) (c2 := 3) (s2 := 140) rfl rfl rfl ?_
  refine jc_put (j := 4) (fin := true) ⟨RX9, TX9, 8, tyX9, .array .boolean, rfl, Nat.le_of_ble_eq_true rfl, fw_X9, (List.mem_append_right _ (List.mem_of_getElem? (i := 208) (by decide +kernel))), tyX9_ok, nmX9, rfl, rfl, by decide +kernel, rfl, rfl⟩ (Nat.le_of_ble_eq_true rfl) dX9_init_26 ?_
  refine jc_aload_n dX9_init_29 rfl 0 rfl ?_
  refine jc_bipush (v := 64) dX9_init_30 (by decide) ?_
  refine jc_newa (atype := .int) (t0 := 0) (N' := 64) fi_aI rfl (fun _ => rfl) (fun _ => rfl) (by decide) (by decide) (Nat.le_of_ble_eq_true rfl) (Nat.le_of_ble_eq_true rfl) (Nat.le_of_ble_eq_true rfl) dX9_init_32 ?_
  refine jc_n (n' := a + 5) (c2 := 4) (s2 := 204) rfl rfl rfl ?_
  refine jc_put (j := 5) (fin := true) ⟨RX9, TX9, 8, tyX9, .array .int, rfl, Nat.le_of_ble_eq_true rfl, fw_X9, (List.mem_append_right _ (List.mem_of_getElem? (i := 209) (by decide +kernel))), tyX9_ok, nmX9, rfl, rfl, by decide +kernel, rfl, rfl⟩ (Nat.le_of_ble_eq_true rfl) dX9_init_34 ?_
  refine jc_aload_n dX9_init_37 rfl 0 rfl ?_
  refine jc_aload_n dX9_init_38 rfl 1 rfl ?_
  refine jc_put (j := 0) (fin := true) ⟨RX9, TX9, 8, tyX9, .object "StatueVotes$City", rfl, Nat.le_of_ble_eq_true rfl, fw_X9, (List.mem_append_right _ (List.mem_of_getElem? (i := 204) (by decide +kernel))), tyX9_ok, nmX9, rfl, rfl, by decide +kernel, rfl, rfl⟩ (Nat.le_of_ble_eq_true rfl) dX9_init_39 ?_
  refine jc_aload_n dX9_init_42 rfl 0 rfl ?_
  refine jc_aload_n dX9_init_43 rfl 2 rfl ?_
  refine jc_put (j := 1) (fin := true) ⟨RX9, TX9, 8, tyX9, .object "StatueVotes$State", rfl, Nat.le_of_ble_eq_true rfl, fw_X9, (List.mem_append_right _ (List.mem_of_getElem? (i := 205) (by decide +kernel))), tyX9_ok, nmX9, rfl, rfl, by decide +kernel, rfl, rfl⟩ (Nat.le_of_ble_eq_true rfl) dX9_init_44 ?_
  exact jc_ret dX9_init_47 rfl rfl rfl (fun _ => rfl)
set_option maxRecDepth 100000 in
theorem ci_X0 (a nw : Nat) : jc_M rm_X0 iX0 a 0 z_X0 [.ref nw] 2 30 (bookW a nw) := by
  refine jc_M.of (lv := [(0, .ref a), (1, .ref nw)]) rfl rfl (by decide +kernel) (Nat.le_of_ble_eq_true rfl) rfl ?_
  refine jc_aload_n dX0_init_0 rfl 0 rfl ?_
  refine jc_obj (List.mem_append_right _ (List.mem_of_getElem? (i := 237) (by decide +kernel))) fi_o1 fi_o2 dX0_init_1 (Nat.le_of_ble_eq_true rfl) (Nat.le_of_ble_eq_true rfl) ?_
  refine jc_aload_n dX0_init_4 rfl 0 rfl ?_
  refine jc_bipush (v := 15) dX0_init_5 (by decide) ?_
  refine jc_newa (atype := .int) (t0 := 0) (N' := 15) fi_aI rfl (fun _ => rfl) (fun _ => rfl) (by decide) (by decide) (Nat.le_of_ble_eq_true rfl) (Nat.le_of_ble_eq_true rfl) (Nat.le_of_ble_eq_true rfl) dX0_init_7 ?_
  refine jc_n (n' := a + 2) (c2 := 1) (s2 := 15) rfl rfl rfl ?_
  refine jc_put (j := 1) (fin := true) ⟨RX0, TX0, 4, tyX0, .array .int, rfl, Nat.le_of_ble_eq_true rfl, fw_X0, (List.mem_append_right _ (List.mem_of_getElem? (i := 239) (by decide +kernel))), tyX0_ok, nmX0, rfl, rfl, by decide +kernel, rfl, rfl⟩ (Nat.le_of_ble_eq_true rfl) dX0_init_9 ?_
  refine jc_aload_n dX0_init_12 rfl 0 rfl ?_
  refine jc_bipush (v := 15) dX0_init_13 (by decide) ?_
  refine jc_newa (atype := .int) (t0 := 0) (N' := 15) fi_aI rfl (fun _ => rfl) (fun _ => rfl) (by decide) (by decide) (Nat.le_of_ble_eq_true rfl) (Nat.le_of_ble_eq_true rfl) (Nat.le_of_ble_eq_true rfl) dX0_init_15 ?_
  refine jc_n (n' := a + 3) (c2 := 2) (s2 := 30) rfl rfl rfl ?_
  refine jc_put (j := 2) (fin := true) ⟨RX0, TX0, 4, tyX0, .array .int, rfl, Nat.le_of_ble_eq_true rfl, fw_X0, (List.mem_append_right _ (List.mem_of_getElem? (i := 240) (by decide +kernel))), tyX0_ok, nmX0, rfl, rfl, by decide +kernel, rfl, rfl⟩ (Nat.le_of_ble_eq_true rfl) dX0_init_17 ?_
  refine jc_aload_n dX0_init_20 rfl 0 rfl ?_
  refine jc_aload_n dX0_init_21 rfl 1 rfl ?_
  refine jc_put (j := 0) (fin := true) ⟨RX0, TX0, 4, tyX0, .object "StatueVotes$State", rfl, Nat.le_of_ble_eq_true rfl, fw_X0, (List.mem_append_right _ (List.mem_of_getElem? (i := 238) (by decide +kernel))), tyX0_ok, nmX0, rfl, rfl, by decide +kernel, rfl, rfl⟩ (Nat.le_of_ble_eq_true rfl) dX0_init_22 ?_
  exact jc_ret dX0_init_25 rfl rfl rfl (fun _ => rfl)
set_option maxRecDepth 100000 in
theorem ci_X2 (a ct nw : Nat) : jc_M rm_X2 iX2 a 2 z_X2 [.ref ct, .ref nw] 0 0 (drawsW a ct nw) := by
  refine jc_M.of (lv := [(0, .ref a), (1, .ref ct), (2, .ref nw)]) rfl rfl (by decide +kernel) (Nat.le_of_ble_eq_true rfl) rfl ?_
  refine jc_aload_n dX2_init_0 rfl 0 rfl ?_
  refine jc_obj (List.mem_append_right _ (List.mem_of_getElem? (i := 257) (by decide +kernel))) fi_o1 fi_o2 dX2_init_1 (Nat.le_of_ble_eq_true rfl) (Nat.le_of_ble_eq_true rfl) ?_
  refine jc_aload_n dX2_init_4 rfl 0 rfl ?_
  refine jc_aload_n dX2_init_5 rfl 1 rfl ?_
  refine jc_put (j := 0) (fin := true) ⟨RX2, TX2, 3, tyX2, .object "StatueVotes$City", rfl, Nat.le_of_ble_eq_true rfl, fw_X2, (List.mem_append_right _ (List.mem_of_getElem? (i := 258) (by decide +kernel))), tyX2_ok, nmX2, rfl, rfl, by decide +kernel, rfl, rfl⟩ (Nat.le_of_ble_eq_true rfl) dX2_init_6 ?_
  refine jc_aload_n dX2_init_9 rfl 0 rfl ?_
  refine jc_aload_n dX2_init_10 rfl 2 rfl ?_
  refine jc_put (j := 1) (fin := true) ⟨RX2, TX2, 3, tyX2, .object "StatueVotes$State", rfl, Nat.le_of_ble_eq_true rfl, fw_X2, (List.mem_append_right _ (List.mem_of_getElem? (i := 259) (by decide +kernel))), tyX2_ok, nmX2, rfl, rfl, by decide +kernel, rfl, rfl⟩ (Nat.le_of_ble_eq_true rfl) dX2_init_11 ?_
  exact jc_ret dX2_init_14 rfl rfl rfl (fun _ => rfl)
set_option maxRecDepth 100000 in
theorem ci_X4 (a ct : Nat) : jc_M rm_X4 iX4 a 4 z_X4 [.ref ct] 6 39 (imageW a ct) := by
  refine jc_M.of (lv := [(0, .ref a), (1, .ref ct)]) rfl rfl (by decide +kernel) (Nat.le_of_ble_eq_true rfl) rfl ?_
  refine jc_aload_n dX4_init_0 rfl 0 rfl ?_
  refine jc_obj (List.mem_append_right _ (List.mem_of_getElem? (i := 295) (by decide +kernel))) fi_o1 fi_o2 dX4_init_1 (Nat.le_of_ble_eq_true rfl) (Nat.le_of_ble_eq_true rfl) ?_
  refine jc_aload_n dX4_init_4 rfl 0 rfl ?_
  refine jc_new (ci := 8) fw_X8 tyX8 tyX8_ok (List.mem_append_right _ (List.mem_of_getElem? (i := 296) (by decide +kernel))) (List.mem_append_right _ (List.mem_of_getElem? (i := 94) (by decide +kernel))) (List.mem_append_right _ (List.mem_of_getElem? (i := 3) (by decide +kernel))) rfl z_X8_ok (Nat.le_of_ble_eq_true rfl) (Nat.le_of_ble_eq_true rfl) dX4_init_5 ?_
  refine jc_n (n' := a + 2) (c2 := 1) (s2 := 7) rfl rfl rfl ?_
  refine jc_dup dX4_init_8 ?_
  refine jc_aload_n dX4_init_9 rfl 1 rfl ?_
  refine jc_init (rest0 := _) (ci_X8 (a + 1) (ct)) fi_X8 (List.mem_append_right _ (List.mem_of_getElem? (i := 297) (by decide +kernel))) ⟨rfl, rfl, Nat.le_of_ble_eq_true rfl, Nat.le_of_ble_eq_true rfl⟩ rfl (Nat.le_of_ble_eq_true rfl) dX4_init_10 ⟨Nat.le_of_ble_eq_true rfl, Nat.le_of_ble_eq_true rfl⟩ rfl ?_
  refine jc_n (n' := a + 7) (c2 := 6) (s2 := 39) rfl rfl rfl ?_
  refine jc_put (j := 0) (fin := true) ⟨RX4, TX4, 3, tyX4, .object "StatueVotes$State", rfl, Nat.le_of_ble_eq_true rfl, fw_X4, (List.mem_append_right _ (List.mem_of_getElem? (i := 298) (by decide +kernel))), tyX4_ok, nmX4, rfl, rfl, by decide +kernel, rfl, rfl⟩ (Nat.le_of_ble_eq_true rfl) dX4_init_13 ?_
  exact jc_ret dX4_init_16 rfl rfl rfl (fun _ => rfl)
