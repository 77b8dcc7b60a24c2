/-! ===== printed by gen/ctors.py: constructors ===== -/
set_option maxRecDepth 100000 in
theorem ci_X11 (a : Nat) : jc_M rm_X11 iX11 a 11 z_X11 [] 26 1322 (modelW a) := by
  refine jc_M.of (lv := [(0, .ref a)]) rfl rfl (by decide +kernel) (Nat.le_of_ble_eq_true rfl) rfl ?_
  refine jc_aload_n dX11_init_0 rfl 0 rfl ?_
  refine jc_obj (List.mem_append_right _ (List.mem_of_getElem? (i := 869) (by decide +kernel))) fi_o1 fi_o2 dX11_init_1 (Nat.le_of_ble_eq_true rfl) (Nat.le_of_ble_eq_true rfl) ?_
  refine jc_aload_n dX11_init_4 rfl 0 rfl ?_
  refine jc_iconst (v := 5) dX11_init_5 (by decide) ?_
  refine jc_newa (atype := .int) (t0 := 0) (N' := 5) fi_aI rfl (fun _ => rfl) (fun _ => rfl) (by decide) (by decide) (Nat.le_of_ble_eq_true rfl) (Nat.le_of_ble_eq_true rfl) (Nat.le_of_ble_eq_true rfl) dX11_init_6 ?_
  refine jc_n (n' := a + 2) (c2 := 1) (s2 := 5) rfl rfl rfl ?_
  refine jc_put (j := 2) (fin := true) ⟨RX11, TX11, 43, tyX11, .array .int, rfl, Nat.le_of_ble_eq_true rfl, fw_X11, (List.mem_append_right _ (List.mem_of_getElem? (i := 872) (by decide +kernel))), tyX11_ok, nmX11, rfl, rfl, by decide +kernel, rfl, rfl⟩ (Nat.le_of_ble_eq_true rfl) dX11_init_8 ?_
  refine jc_fs (fs' := [.int 0, .int 0, .ref (a + 1), .int 0, .null, .null, .null, .int 0, .null, .null, .null, .null, .int 0, .null, .int 0, .int 0, .int 0, .int 0, .int 0, .int 0, .int 0, .null, .int 0, .null, .null, .null, .int 0, .null, .null, .null, .int 0, .null, .null, .null, .int 0, .null, .null, .null, .int 0, .null, .null, .null, .null]) rfl ?_
  refine jc_aload_n dX11_init_11 rfl 0 rfl ?_
  refine jc_bipush (v := 6) dX11_init_12 (by decide) ?_
  refine jc_newa (atype := .int) (t0 := 0) (N' := 6) fi_aI rfl (fun _ => rfl) (fun _ => rfl) (by decide) (by decide) (Nat.le_of_ble_eq_true rfl) (Nat.le_of_ble_eq_true rfl) (Nat.le_of_ble_eq_true rfl) dX11_init_14 ?_
  refine jc_n (n' := a + 3) (c2 := 2) (s2 := 11) rfl rfl rfl ?_
  refine jc_put (j := 4) (fin := true) ⟨RX11, TX11, 43, tyX11, .array .int, rfl, Nat.le_of_ble_eq_true rfl, fw_X11, (List.mem_append_right _ (List.mem_of_getElem? (i := 874) (by decide +kernel))), tyX11_ok, nmX11, rfl, rfl, by decide +kernel, rfl, rfl⟩ (Nat.le_of_ble_eq_true rfl) dX11_init_16 ?_
  refine jc_fs (fs' := [.int 0, .int 0, .ref (a + 1), .int 0, .ref (a + 2), .null, .null, .int 0, .null, .null, .null, .null, .int 0, .null, .int 0, .int 0, .int 0, .int 0, .int 0, .int 0, .int 0, .null, .int 0, .null, .null, .null, .int 0, .null, .null, .null, .int 0, .null, .null, .null, .int 0, .null, .null, .null, .int 0, .null, .null, .null, .null]) rfl ?_
  refine jc_aload_n dX11_init_19 rfl 0 rfl ?_
  refine jc_bipush (v := 6) dX11_init_20 (by decide) ?_
  refine jc_newa (atype := .int) (t0 := 0) (N' := 6) fi_aI rfl (fun _ => rfl) (fun _ => rfl) (by decide) (by decide) (Nat.le_of_ble_eq_true rfl) (Nat.le_of_ble_eq_true rfl) (Nat.le_of_ble_eq_true rfl) dX11_init_22 ?_
  refine jc_n (n' := a + 4) (c2 := 3) (s2 := 17) rfl rfl rfl ?_
  refine jc_put (j := 5) (fin := true) ⟨RX11, TX11, 43, tyX11, .array .int, rfl, Nat.le_of_ble_eq_true rfl, fw_X11, (List.mem_append_right _ (List.mem_of_getElem? (i := 875) (by decide +kernel))), tyX11_ok, nmX11, rfl, rfl, by decide +kernel, rfl, rfl⟩ (Nat.le_of_ble_eq_true rfl) dX11_init_24 ?_
  refine jc_fs (fs' := [.int 0, .int 0, .ref (a + 1), .int 0, .ref (a + 2), .ref (a + 3), .null, .int 0, .null, .null, .null, .null, .int 0, .null, .int 0, .int 0, .int 0, .int 0, .int 0, .int 0, .int 0, .null, .int 0, .null, .null, .null, .int 0, .null, .null, .null, .int 0, .null, .null, .null, .int 0, .null, .null, .null, .int 0, .null, .null, .null, .null]) rfl ?_
  refine jc_aload_n dX11_init_27 rfl 0 rfl ?_
  refine jc_bipush (v := 6) dX11_init_28 (by decide) ?_
  refine jc_newa (atype := .int) (t0 := 0) (N' := 6) fi_aI rfl (fun _ => rfl) (fun _ => rfl) (by decide) (by decide) (Nat.le_of_ble_eq_true rfl) (Nat.le_of_ble_eq_true rfl) (Nat.le_of_ble_eq_true rfl) dX11_init_30 ?_
  refine jc_n (n' := a + 5) (c2 := 4) (s2 := 23) rfl rfl rfl ?_
  refine jc_put (j := 6) (fin := true) ⟨RX11, TX11, 43, tyX11, .array .int, rfl, Nat.le_of_ble_eq_true rfl, fw_X11, (List.mem_append_right _ (List.mem_of_getElem? (i := 876) (by decide +kernel))), tyX11_ok, nmX11, rfl, rfl, by decide +kernel, rfl, rfl⟩ (Nat.le_of_ble_eq_true rfl) dX11_init_32 ?_
  refine jc_fs (fs' := [.int 0, .int 0, .ref (a + 1), .int 0, .ref (a + 2), .ref (a + 3), .ref (a + 4), .int 0, .null, .null, .null, .null, .int 0, .null, .int 0, .int 0, .int 0, .int 0, .int 0, .int 0, .int 0, .null, .int 0, .null, .null, .null, .int 0, .null, .null, .null, .int 0, .null, .null, .null, .int 0, .null, .null, .null, .int 0, .null, .null, .null, .null]) rfl ?_
  refine jc_aload_n dX11_init_35 rfl 0 rfl ?_
  refine jc_bipush (v := 7) dX11_init_36 (by decide) ?_
  refine jc_newa (atype := .int) (t0 := 0) (N' := 7) fi_aI rfl (fun _ => rfl) (fun _ => rfl) (by decide) (by decide) (Nat.le_of_ble_eq_true rfl) (Nat.le_of_ble_eq_true rfl) (Nat.le_of_ble_eq_true rfl) dX11_init_38 ?_
  refine jc_n (n' := a + 6) (c2 := 5) (s2 := 30) rfl rfl rfl ?_
  refine jc_put (j := 8) (fin := true) ⟨RX11, TX11, 43, tyX11, .array .int, rfl, Nat.le_of_ble_eq_true rfl, fw_X11, (List.mem_append_right _ (List.mem_of_getElem? (i := 878) (by decide +kernel))), tyX11_ok, nmX11, rfl, rfl, by decide +kernel, rfl, rfl⟩ (Nat.le_of_ble_eq_true rfl) dX11_init_40 ?_
  refine jc_fs (fs' := [.int 0, .int 0, .ref (a + 1), .int 0, .ref (a + 2), .ref (a + 3), .ref (a + 4), .int 0, .ref (a + 5), .null, .null, .null, .int 0, .null, .int 0, .int 0, .int 0, .int 0, .int 0, .int 0, .int 0, .null, .int 0, .null, .null, .null, .int 0, .null, .null, .null, .int 0, .null, .null, .null, .int 0, .null, .null, .null, .int 0, .null, .null, .null, .null]) rfl ?_
  refine jc_aload_n dX11_init_43 rfl 0 rfl ?_
  refine jc_bipush (v := 7) dX11_init_44 (by decide) ?_
  refine jc_newa (atype := .int) (t0 := 0) (N' := 7) fi_aI rfl (fun _ => rfl) (fun _ => rfl) (by decide) (by decide) (Nat.le_of_ble_eq_true rfl) (Nat.le_of_ble_eq_true rfl) (Nat.le_of_ble_eq_true rfl) dX11_init_46 ?_
  refine jc_n (n' := a + 7) (c2 := 6) (s2 := 37) rfl rfl rfl ?_
  refine jc_put (j := 9) (fin := true) ⟨RX11, TX11, 43, tyX11, .array .int, rfl, Nat.le_of_ble_eq_true rfl, fw_X11, (List.mem_append_right _ (List.mem_of_getElem? (i := 879) (by decide +kernel))), tyX11_ok, nmX11, rfl, rfl, by decide +kernel, rfl, rfl⟩ (Nat.le_of_ble_eq_true rfl) dX11_init_48 ?_
  refine jc_fs (fs' := [.int 0, .int 0, .ref (a + 1), .int 0, .ref (a + 2), .ref (a + 3), .ref (a + 4), .int 0, .ref (a + 5), .ref (a + 6), .null, .null, .int 0, .null, .int 0, .int 0, .int 0, .int 0, .int 0, .int 0, .int 0, .null, .int 0, .null, .null, .null, .int 0, .null, .null, .null, .int 0, .null, .null, .null, .int 0, .null, .null, .null, .int 0, .null, .null, .null, .null]) rfl ?_
  refine jc_aload_n dX11_init_51 rfl 0 rfl ?_
  refine jc_bipush (v := 7) dX11_init_52 (by decide) ?_
  refine jc_newa (atype := .int) (t0 := 0) (N' := 7) fi_aI rfl (fun _ => rfl) (fun _ => rfl) (by decide) (by decide) (Nat.le_of_ble_eq_true rfl) (Nat.le_of_ble_eq_true rfl) (Nat.le_of_ble_eq_true rfl) dX11_init_54 ?_
  refine jc_n (n' := a + 8) (c2 := 7) (s2 := 44) rfl rfl rfl ?_
  refine jc_put (j := 10) (fin := true) ⟨RX11, TX11, 43, tyX11, .array .int, rfl, Nat.le_of_ble_eq_true rfl, fw_X11, (List.mem_append_right _ (List.mem_of_getElem? (i := 880) (by decide +kernel))), tyX11_ok, nmX11, rfl, rfl, by decide +kernel, rfl, rfl⟩ (Nat.le_of_ble_eq_true rfl) dX11_init_56 ?_
  refine jc_fs (fs' := [.int 0, .int 0, .ref (a + 1), .int 0, .ref (a + 2), .ref (a + 3), .ref (a + 4), .int 0, .ref (a + 5), .ref (a + 6), .ref (a + 7), .null, .int 0, .null, .int 0, .int 0, .int 0, .int 0, .int 0, .int 0, .int 0, .null, .int 0, .null, .null, .null, .int 0, .null, .null, .null, .int 0, .null, .null, .null, .int 0, .null, .null, .null, .int 0, .null, .null, .null, .null]) rfl ?_
  refine jc_aload_n dX11_init_59 rfl 0 rfl ?_
  refine jc_bipush (v := 33) dX11_init_60 (by decide) ?_
  refine jc_newa (atype := .int) (t0 := 0) (N' := 33) fi_aI rfl (fun _ => rfl) (fun _ => rfl) (by decide) (by decide) (Nat.le_of_ble_eq_true rfl) (Nat.le_of_ble_eq_true rfl) (Nat.le_of_ble_eq_true rfl) dX11_init_62 ?_
  refine jc_n (n' := a + 9) (c2 := 8) (s2 := 77) rfl rfl rfl ?_
  refine jc_put (j := 11) (fin := true) ⟨RX11, TX11, 43, tyX11, .array .int, rfl, Nat.le_of_ble_eq_true rfl, fw_X11, (List.mem_append_right _ (List.mem_of_getElem? (i := 881) (by decide +kernel))), tyX11_ok, nmX11, rfl, rfl, by decide +kernel, rfl, rfl⟩ (Nat.le_of_ble_eq_true rfl) dX11_init_64 ?_
  refine jc_fs (fs' := [.int 0, .int 0, .ref (a + 1), .int 0, .ref (a + 2), .ref (a + 3), .ref (a + 4), .int 0, .ref (a + 5), .ref (a + 6), .ref (a + 7), .ref (a + 8), .int 0, .null, .int 0, .int 0, .int 0, .int 0, .int 0, .int 0, .int 0, .null, .int 0, .null, .null, .null, .int 0, .null, .null, .null, .int 0, .null, .null, .null, .int 0, .null, .null, .null, .int 0, .null, .null, .null, .null]) rfl ?_
  refine jc_aload_n dX11_init_67 rfl 0 rfl ?_
  refine jc_sipush (v := 240) dX11_init_68 (by decide) ?_
  refine jc_newa (atype := .int) (t0 := 0) (N' := 240) fi_aI rfl (fun _ => rfl) (fun _ => rfl) (by decide) (by decide) (Nat.le_of_ble_eq_true rfl) (Nat.le_of_ble_eq_true rfl) (Nat.le_of_ble_eq_true rfl) dX11_init_71 ?_
  refine jc_n (n' := a + 10) (c2 := 9) (s2 := 317) rfl rfl rfl ?_
  refine jc_put (j := 13) (fin := true) ⟨RX11, TX11, 43, tyX11, .array .int, rfl, Nat.le_of_ble_eq_true rfl, fw_X11, (List.mem_append_right _ (List.mem_of_getElem? (i := 883) (by decide +kernel))), tyX11_ok, nmX11, rfl, rfl, by decide +kernel, rfl, rfl⟩ (Nat.le_of_ble_eq_true rfl) dX11_init_73 ?_
  refine jc_fs (fs' := [.int 0, .int 0, .ref (a + 1), .int 0, .ref (a + 2), .ref (a + 3), .ref (a + 4), .int 0, .ref (a + 5), .ref (a + 6), .ref (a + 7), .ref (a + 8), .int 0, .ref (a + 9), .int 0, .int 0, .int 0, .int 0, .int 0, .int 0, .int 0, .null, .int 0, .null, .null, .null, .int 0, .null, .null, .null, .int 0, .null, .null, .null, .int 0, .null, .null, .null, .int 0, .null, .null, .null, .null]) rfl ?_
  refine jc_aload_n dX11_init_76 rfl 0 rfl ?_
  refine jc_iconst (v := (-1)) dX11_init_77 (by decide) ?_
  refine jc_put (j := 15) (fin := false) ⟨RX11, TX11, 43, tyX11, .int, rfl, Nat.le_of_ble_eq_true rfl, fw_X11, (List.mem_append_right _ (List.mem_of_getElem? (i := 885) (by decide +kernel))), tyX11_ok, nmX11, rfl, rfl, by decide +kernel, rfl, rfl⟩ (Nat.le_of_ble_eq_true rfl) dX11_init_78 ?_
  refine jc_fs (fs' := [.int 0, .int 0, .ref (a + 1), .int 0, .ref (a + 2), .ref (a + 3), .ref (a + 4), .int 0, .ref (a + 5), .ref (a + 6), .ref (a + 7), .ref (a + 8), .int 0, .ref (a + 9), .int 0, .int (-1), .int 0, .int 0, .int 0, .int 0, .int 0, .null, .int 0, .null, .null, .null, .int 0, .null, .null, .null, .int 0, .null, .null, .null, .int 0, .null, .null, .null, .int 0, .null, .null, .null, .null]) rfl ?_
  refine jc_aload_n dX11_init_81 rfl 0 rfl ?_
  refine jc_iconst (v := 5) dX11_init_82 (by decide) ?_
  refine jc_newa (atype := .int) (t0 := 0) (N' := 5) fi_aI rfl (fun _ => rfl) (fun _ => rfl) (by decide) (by decide) (Nat.le_of_ble_eq_true rfl) (Nat.le_of_ble_eq_true rfl) (Nat.le_of_ble_eq_true rfl) dX11_init_83 ?_
  refine jc_n (n' := a + 11) (c2 := 10) (s2 := 322) rfl rfl rfl ?_
  refine jc_put (j := 21) (fin := true) ⟨RX11, TX11, 43, tyX11, .array .int, rfl, Nat.le_of_ble_eq_true rfl, fw_X11, (List.mem_append_right _ (List.mem_of_getElem? (i := 891) (by decide +kernel))), tyX11_ok, nmX11, rfl, rfl, by decide +kernel, rfl, rfl⟩ (Nat.le_of_ble_eq_true rfl) dX11_init_85 ?_
  refine jc_fs (fs' := [.int 0, .int 0, .ref (a + 1), .int 0, .ref (a + 2), .ref (a + 3), .ref (a + 4), .int 0, .ref (a + 5), .ref (a + 6), .ref (a + 7), .ref (a + 8), .int 0, .ref (a + 9), .int 0, .int (-1), .int 0, .int 0, .int 0, .int 0, .int 0, .ref (a + 10), .int 0, .null, .null, .null, .int 0, .null, .null, .null, .int 0, .null, .null, .null, .int 0, .null, .null, .null, .int 0, .null, .null, .null, .null]) rfl ?_
  refine jc_aload_n dX11_init_88 rfl 0 rfl ?_
  refine jc_bipush (v := 6) dX11_init_89 (by decide) ?_
  refine jc_newa (atype := .int) (t0 := 0) (N' := 6) fi_aI rfl (fun _ => rfl) (fun _ => rfl) (by decide) (by decide) (Nat.le_of_ble_eq_true rfl) (Nat.le_of_ble_eq_true rfl) (Nat.le_of_ble_eq_true rfl) dX11_init_91 ?_
  refine jc_n (n' := a + 12) (c2 := 11) (s2 := 328) rfl rfl rfl ?_
  refine jc_put (j := 23) (fin := true) ⟨RX11, TX11, 43, tyX11, .array .int, rfl, Nat.le_of_ble_eq_true rfl, fw_X11, (List.mem_append_right _ (List.mem_of_getElem? (i := 893) (by decide +kernel))), tyX11_ok, nmX11, rfl, rfl, by decide +kernel, rfl, rfl⟩ (Nat.le_of_ble_eq_true rfl) dX11_init_93 ?_
  refine jc_fs (fs' := [.int 0, .int 0, .ref (a + 1), .int 0, .ref (a + 2), .ref (a + 3), .ref (a + 4), .int 0, .ref (a + 5), .ref (a + 6), .ref (a + 7), .ref (a + 8), .int 0, .ref (a + 9), .int 0, .int (-1), .int 0, .int 0, .int 0, .int 0, .int 0, .ref (a + 10), .int 0, .ref (a + 11), .null, .null, .int 0, .null, .null, .null, .int 0, .null, .null, .null, .int 0, .null, .null, .null, .int 0, .null, .null, .null, .null]) rfl ?_
  refine jc_aload_n dX11_init_96 rfl 0 rfl ?_
  refine jc_bipush (v := 6) dX11_init_97 (by decide) ?_
  refine jc_newa (atype := .int) (t0 := 0) (N' := 6) fi_aI rfl (fun _ => rfl) (fun _ => rfl) (by decide) (by decide) (Nat.le_of_ble_eq_true rfl) (Nat.le_of_ble_eq_true rfl) (Nat.le_of_ble_eq_true rfl) dX11_init_99 ?_
  refine jc_n (n' := a + 13) (c2 := 12) (s2 := 334) rfl rfl rfl ?_
  refine jc_put (j := 24) (fin := true) ⟨RX11, TX11, 43, tyX11, .array .int, rfl, Nat.le_of_ble_eq_true rfl, fw_X11, (List.mem_append_right _ (List.mem_of_getElem? (i := 894) (by decide +kernel))), tyX11_ok, nmX11, rfl, rfl, by decide +kernel, rfl, rfl⟩ (Nat.le_of_ble_eq_true rfl) dX11_init_101 ?_
  refine jc_fs (fs' := [.int 0, .int 0, .ref (a + 1), .int 0, .ref (a + 2), .ref (a + 3), .ref (a + 4), .int 0, .ref (a + 5), .ref (a + 6), .ref (a + 7), .ref (a + 8), .int 0, .ref (a + 9), .int 0, .int (-1), .int 0, .int 0, .int 0, .int 0, .int 0, .ref (a + 10), .int 0, .ref (a + 11), .ref (a + 12), .null, .int 0, .null, .null, .null, .int 0, .null, .null, .null, .int 0, .null, .null, .null, .int 0, .null, .null, .null, .null]) rfl ?_
  refine jc_aload_n dX11_init_104 rfl 0 rfl ?_
  refine jc_bipush (v := 6) dX11_init_105 (by decide) ?_
  refine jc_newa (atype := .int) (t0 := 0) (N' := 6) fi_aI rfl (fun _ => rfl) (fun _ => rfl) (by decide) (by decide) (Nat.le_of_ble_eq_true rfl) (Nat.le_of_ble_eq_true rfl) (Nat.le_of_ble_eq_true rfl) dX11_init_107 ?_
  refine jc_n (n' := a + 14) (c2 := 13) (s2 := 340) rfl rfl rfl ?_
  refine jc_put (j := 25) (fin := true) ⟨RX11, TX11, 43, tyX11, .array .int, rfl, Nat.le_of_ble_eq_true rfl, fw_X11, (List.mem_append_right _ (List.mem_of_getElem? (i := 895) (by decide +kernel))), tyX11_ok, nmX11, rfl, rfl, by decide +kernel, rfl, rfl⟩ (Nat.le_of_ble_eq_true rfl) dX11_init_109 ?_
  refine jc_fs (fs' := [.int 0, .int 0, .ref (a + 1), .int 0, .ref (a + 2), .ref (a + 3), .ref (a + 4), .int 0, .ref (a + 5), .ref (a + 6), .ref (a + 7), .ref (a + 8), .int 0, .ref (a + 9), .int 0, .int (-1), .int 0, .int 0, .int 0, .int 0, .int 0, .ref (a + 10), .int 0, .ref (a + 11), .ref (a + 12), .ref (a + 13), .int 0, .null, .null, .null, .int 0, .null, .null, .null, .int 0, .null, .null, .null, .int 0, .null, .null, .null, .null]) rfl ?_
  refine jc_aload_n dX11_init_112 rfl 0 rfl ?_
  refine jc_bipush (v := 7) dX11_init_113 (by decide) ?_
  refine jc_newa (atype := .int) (t0 := 0) (N' := 7) fi_aI rfl (fun _ => rfl) (fun _ => rfl) (by decide) (by decide) (Nat.le_of_ble_eq_true rfl) (Nat.le_of_ble_eq_true rfl) (Nat.le_of_ble_eq_true rfl) dX11_init_115 ?_
  refine jc_n (n' := a + 15) (c2 := 14) (s2 := 347) rfl rfl rfl ?_
  refine jc_put (j := 27) (fin := true) ⟨RX11, TX11, 43, tyX11, .array .int, rfl, Nat.le_of_ble_eq_true rfl, fw_X11, (List.mem_append_right _ (List.mem_of_getElem? (i := 897) (by decide +kernel))), tyX11_ok, nmX11, rfl, rfl, by decide +kernel, rfl, rfl⟩ (Nat.le_of_ble_eq_true rfl) dX11_init_117 ?_
  refine jc_fs (fs' := [.int 0, .int 0, .ref (a + 1), .int 0, .ref (a + 2), .ref (a + 3), .ref (a + 4), .int 0, .ref (a + 5), .ref (a + 6), .ref (a + 7), .ref (a + 8), .int 0, .ref (a + 9), .int 0, .int (-1), .int 0, .int 0, .int 0, .int 0, .int 0, .ref (a + 10), .int 0, .ref (a + 11), .ref (a + 12), .ref (a + 13), .int 0, .ref (a + 14), .null, .null, .int 0, .null, .null, .null, .int 0, .null, .null, .null, .int 0, .null, .null, .null, .null]) rfl ?_
  refine jc_aload_n dX11_init_120 rfl 0 rfl ?_
  refine jc_bipush (v := 7) dX11_init_121 (by decide) ?_
  refine jc_newa (atype := .int) (t0 := 0) (N' := 7) fi_aI rfl (fun _ => rfl) (fun _ => rfl) (by decide) (by decide) (Nat.le_of_ble_eq_true rfl) (Nat.le_of_ble_eq_true rfl) (Nat.le_of_ble_eq_true rfl) dX11_init_123 ?_
  refine jc_n (n' := a + 16) (c2 := 15) (s2 := 354) rfl rfl rfl ?_
  refine jc_put (j := 28) (fin := true) ⟨RX11, TX11, 43, tyX11, .array .int, rfl, Nat.le_of_ble_eq_true rfl, fw_X11, (List.mem_append_right _ (List.mem_of_getElem? (i := 898) (by decide +kernel))), tyX11_ok, nmX11, rfl, rfl, by decide +kernel, rfl, rfl⟩ (Nat.le_of_ble_eq_true rfl) dX11_init_125 ?_
  refine jc_fs (fs' := [.int 0, .int 0, .ref (a + 1), .int 0, .ref (a + 2), .ref (a + 3), .ref (a + 4), .int 0, .ref (a + 5), .ref (a + 6), .ref (a + 7), .ref (a + 8), .int 0, .ref (a + 9), .int 0, .int (-1), .int 0, .int 0, .int 0, .int 0, .int 0, .ref (a + 10), .int 0, .ref (a + 11), .ref (a + 12), .ref (a + 13), .int 0, .ref (a + 14), .ref (a + 15), .null, .int 0, .null, .null, .null, .int 0, .null, .null, .null, .int 0, .null, .null, .null, .null]) rfl ?_
  refine jc_aload_n dX11_init_128 rfl 0 rfl ?_
  refine jc_bipush (v := 7) dX11_init_129 (by decide) ?_
  refine jc_newa (atype := .int) (t0 := 0) (N' := 7) fi_aI rfl (fun _ => rfl) (fun _ => rfl) (by decide) (by decide) (Nat.le_of_ble_eq_true rfl) (Nat.le_of_ble_eq_true rfl) (Nat.le_of_ble_eq_true rfl) dX11_init_131 ?_
  refine jc_n (n' := a + 17) (c2 := 16) (s2 := 361) rfl rfl rfl ?_
  refine jc_put (j := 29) (fin := true) ⟨RX11, TX11, 43, tyX11, .array .int, rfl, Nat.le_of_ble_eq_true rfl, fw_X11, (List.mem_append_right _ (List.mem_of_getElem? (i := 899) (by decide +kernel))), tyX11_ok, nmX11, rfl, rfl, by decide +kernel, rfl, rfl⟩ (Nat.le_of_ble_eq_true rfl) dX11_init_133 ?_
  refine jc_fs (fs' := [.int 0, .int 0, .ref (a + 1), .int 0, .ref (a + 2), .ref (a + 3), .ref (a + 4), .int 0, .ref (a + 5), .ref (a + 6), .ref (a + 7), .ref (a + 8), .int 0, .ref (a + 9), .int 0, .int (-1), .int 0, .int 0, .int 0, .int 0, .int 0, .ref (a + 10), .int 0, .ref (a + 11), .ref (a + 12), .ref (a + 13), .int 0, .ref (a + 14), .ref (a + 15), .ref (a + 16), .int 0, .null, .null, .null, .int 0, .null, .null, .null, .int 0, .null, .null, .null, .null]) rfl ?_
  refine jc_aload_n dX11_init_136 rfl 0 rfl ?_
  refine jc_sipush (v := 528) dX11_init_137 (by decide) ?_
  refine jc_newa (atype := .int) (t0 := 0) (N' := 528) fi_aI rfl (fun _ => rfl) (fun _ => rfl) (by decide) (by decide) (Nat.le_of_ble_eq_true rfl) (Nat.le_of_ble_eq_true rfl) (Nat.le_of_ble_eq_true rfl) dX11_init_140 ?_
  refine jc_n (n' := a + 18) (c2 := 17) (s2 := 889) rfl rfl rfl ?_
  refine jc_put (j := 31) (fin := true) ⟨RX11, TX11, 43, tyX11, .array .int, rfl, Nat.le_of_ble_eq_true rfl, fw_X11, (List.mem_append_right _ (List.mem_of_getElem? (i := 901) (by decide +kernel))), tyX11_ok, nmX11, rfl, rfl, by decide +kernel, rfl, rfl⟩ (Nat.le_of_ble_eq_true rfl) dX11_init_142 ?_
  refine jc_fs (fs' := [.int 0, .int 0, .ref (a + 1), .int 0, .ref (a + 2), .ref (a + 3), .ref (a + 4), .int 0, .ref (a + 5), .ref (a + 6), .ref (a + 7), .ref (a + 8), .int 0, .ref (a + 9), .int 0, .int (-1), .int 0, .int 0, .int 0, .int 0, .int 0, .ref (a + 10), .int 0, .ref (a + 11), .ref (a + 12), .ref (a + 13), .int 0, .ref (a + 14), .ref (a + 15), .ref (a + 16), .int 0, .ref (a + 17), .null, .null, .int 0, .null, .null, .null, .int 0, .null, .null, .null, .null]) rfl ?_
  refine jc_aload_n dX11_init_145 rfl 0 rfl ?_
  refine jc_bipush (v := 33) dX11_init_146 (by decide) ?_
  refine jc_newa (atype := .int) (t0 := 0) (N' := 33) fi_aI rfl (fun _ => rfl) (fun _ => rfl) (by decide) (by decide) (Nat.le_of_ble_eq_true rfl) (Nat.le_of_ble_eq_true rfl) (Nat.le_of_ble_eq_true rfl) dX11_init_148 ?_
  refine jc_n (n' := a + 19) (c2 := 18) (s2 := 922) rfl rfl rfl ?_
  refine jc_put (j := 32) (fin := true) ⟨RX11, TX11, 43, tyX11, .array .int, rfl, Nat.le_of_ble_eq_true rfl, fw_X11, (List.mem_append_right _ (List.mem_of_getElem? (i := 902) (by decide +kernel))), tyX11_ok, nmX11, rfl, rfl, by decide +kernel, rfl, rfl⟩ (Nat.le_of_ble_eq_true rfl) dX11_init_150 ?_
  refine jc_fs (fs' := [.int 0, .int 0, .ref (a + 1), .int 0, .ref (a + 2), .ref (a + 3), .ref (a + 4), .int 0, .ref (a + 5), .ref (a + 6), .ref (a + 7), .ref (a + 8), .int 0, .ref (a + 9), .int 0, .int (-1), .int 0, .int 0, .int 0, .int 0, .int 0, .ref (a + 10), .int 0, .ref (a + 11), .ref (a + 12), .ref (a + 13), .int 0, .ref (a + 14), .ref (a + 15), .ref (a + 16), .int 0, .ref (a + 17), .ref (a + 18), .null, .int 0, .null, .null, .null, .int 0, .null, .null, .null, .null]) rfl ?_
  refine jc_aload_n dX11_init_153 rfl 0 rfl ?_
  refine jc_sipush (v := 224) dX11_init_154 (by decide) ?_
  refine jc_newa (atype := .int) (t0 := 0) (N' := 224) fi_aI rfl (fun _ => rfl) (fun _ => rfl) (by decide) (by decide) (Nat.le_of_ble_eq_true rfl) (Nat.le_of_ble_eq_true rfl) (Nat.le_of_ble_eq_true rfl) dX11_init_157 ?_
  refine jc_n (n' := a + 20) (c2 := 19) (s2 := 1146) rfl rfl rfl ?_
  refine jc_put (j := 33) (fin := true) ⟨RX11, TX11, 43, tyX11, .array .int, rfl, Nat.le_of_ble_eq_true rfl, fw_X11, (List.mem_append_right _ (List.mem_of_getElem? (i := 903) (by decide +kernel))), tyX11_ok, nmX11, rfl, rfl, by decide +kernel, rfl, rfl⟩ (Nat.le_of_ble_eq_true rfl) dX11_init_159 ?_
  refine jc_fs (fs' := [.int 0, .int 0, .ref (a + 1), .int 0, .ref (a + 2), .ref (a + 3), .ref (a + 4), .int 0, .ref (a + 5), .ref (a + 6), .ref (a + 7), .ref (a + 8), .int 0, .ref (a + 9), .int 0, .int (-1), .int 0, .int 0, .int 0, .int 0, .int 0, .ref (a + 10), .int 0, .ref (a + 11), .ref (a + 12), .ref (a + 13), .int 0, .ref (a + 14), .ref (a + 15), .ref (a + 16), .int 0, .ref (a + 17), .ref (a + 18), .ref (a + 19), .int 0, .null, .null, .null, .int 0, .null, .null, .null, .null]) rfl ?_
  refine jc_aload_n dX11_init_162 rfl 0 rfl ?_
  refine jc_bipush (v := 6) dX11_init_163 (by decide) ?_
  refine jc_newa (atype := .int) (t0 := 0) (N' := 6) fi_aI rfl (fun _ => rfl) (fun _ => rfl) (by decide) (by decide) (Nat.le_of_ble_eq_true rfl) (Nat.le_of_ble_eq_true rfl) (Nat.le_of_ble_eq_true rfl) dX11_init_165 ?_
  refine jc_n (n' := a + 21) (c2 := 20) (s2 := 1152) rfl rfl rfl ?_
  refine jc_put (j := 35) (fin := true) ⟨RX11, TX11, 43, tyX11, .array .int, rfl, Nat.le_of_ble_eq_true rfl, fw_X11, (List.mem_append_right _ (List.mem_of_getElem? (i := 905) (by decide +kernel))), tyX11_ok, nmX11, rfl, rfl, by decide +kernel, rfl, rfl⟩ (Nat.le_of_ble_eq_true rfl) dX11_init_167 ?_
  refine jc_fs (fs' := [.int 0, .int 0, .ref (a + 1), .int 0, .ref (a + 2), .ref (a + 3), .ref (a + 4), .int 0, .ref (a + 5), .ref (a + 6), .ref (a + 7), .ref (a + 8), .int 0, .ref (a + 9), .int 0, .int (-1), .int 0, .int 0, .int 0, .int 0, .int 0, .ref (a + 10), .int 0, .ref (a + 11), .ref (a + 12), .ref (a + 13), .int 0, .ref (a + 14), .ref (a + 15), .ref (a + 16), .int 0, .ref (a + 17), .ref (a + 18), .ref (a + 19), .int 0, .ref (a + 20), .null, .null, .int 0, .null, .null, .null, .null]) rfl ?_
  refine jc_aload_n dX11_init_170 rfl 0 rfl ?_
  refine jc_bipush (v := 6) dX11_init_171 (by decide) ?_
  refine jc_newa (atype := .int) (t0 := 0) (N' := 6) fi_aI rfl (fun _ => rfl) (fun _ => rfl) (by decide) (by decide) (Nat.le_of_ble_eq_true rfl) (Nat.le_of_ble_eq_true rfl) (Nat.le_of_ble_eq_true rfl) dX11_init_173 ?_
  refine jc_n (n' := a + 22) (c2 := 21) (s2 := 1158) rfl rfl rfl ?_
  refine jc_put (j := 36) (fin := true) ⟨RX11, TX11, 43, tyX11, .array .int, rfl, Nat.le_of_ble_eq_true rfl, fw_X11, (List.mem_append_right _ (List.mem_of_getElem? (i := 906) (by decide +kernel))), tyX11_ok, nmX11, rfl, rfl, by decide +kernel, rfl, rfl⟩ (Nat.le_of_ble_eq_true rfl) dX11_init_175 ?_
  refine jc_fs (fs' := [.int 0, .int 0, .ref (a + 1), .int 0, .ref (a + 2), .ref (a + 3), .ref (a + 4), .int 0, .ref (a + 5), .ref (a + 6), .ref (a + 7), .ref (a + 8), .int 0, .ref (a + 9), .int 0, .int (-1), .int 0, .int 0, .int 0, .int 0, .int 0, .ref (a + 10), .int 0, .ref (a + 11), .ref (a + 12), .ref (a + 13), .int 0, .ref (a + 14), .ref (a + 15), .ref (a + 16), .int 0, .ref (a + 17), .ref (a + 18), .ref (a + 19), .int 0, .ref (a + 20), .ref (a + 21), .null, .int 0, .null, .null, .null, .null]) rfl ?_
  refine jc_aload_n dX11_init_178 rfl 0 rfl ?_
  refine jc_bipush (v := 64) dX11_init_179 (by decide) ?_
  refine jc_newa (atype := .int) (t0 := 0) (N' := 64) fi_aI rfl (fun _ => rfl) (fun _ => rfl) (by decide) (by decide) (Nat.le_of_ble_eq_true rfl) (Nat.le_of_ble_eq_true rfl) (Nat.le_of_ble_eq_true rfl) dX11_init_181 ?_
  refine jc_n (n' := a + 23) (c2 := 22) (s2 := 1222) rfl rfl rfl ?_
  refine jc_put (j := 37) (fin := true) ⟨RX11, TX11, 43, tyX11, .array .int, rfl, Nat.le_of_ble_eq_true rfl, fw_X11, (List.mem_append_right _ (List.mem_of_getElem? (i := 907) (by decide +kernel))), tyX11_ok, nmX11, rfl, rfl, by decide +kernel, rfl, rfl⟩ (Nat.le_of_ble_eq_true rfl) dX11_init_183 ?_
  refine jc_fs (fs' := [.int 0, .int 0, .ref (a + 1), .int 0, .ref (a + 2), .ref (a + 3), .ref (a + 4), .int 0, .ref (a + 5), .ref (a + 6), .ref (a + 7), .ref (a + 8), .int 0, .ref (a + 9), .int 0, .int (-1), .int 0, .int 0, .int 0, .int 0, .int 0, .ref (a + 10), .int 0, .ref (a + 11), .ref (a + 12), .ref (a + 13), .int 0, .ref (a + 14), .ref (a + 15), .ref (a + 16), .int 0, .ref (a + 17), .ref (a + 18), .ref (a + 19), .int 0, .ref (a + 20), .ref (a + 21), .ref (a + 22), .int 0, .null, .null, .null, .null]) rfl ?_
  refine jc_aload_n dX11_init_186 rfl 0 rfl ?_
  refine jc_bipush (v := 15) dX11_init_187 (by decide) ?_
  refine jc_newa (atype := .int) (t0 := 0) (N' := 15) fi_aI rfl (fun _ => rfl) (fun _ => rfl) (by decide) (by decide) (Nat.le_of_ble_eq_true rfl) (Nat.le_of_ble_eq_true rfl) (Nat.le_of_ble_eq_true rfl) dX11_init_189 ?_
  refine jc_n (n' := a + 24) (c2 := 23) (s2 := 1237) rfl rfl rfl ?_
  refine jc_put (j := 39) (fin := true) ⟨RX11, TX11, 43, tyX11, .array .int, rfl, Nat.le_of_ble_eq_true rfl, fw_X11, (List.mem_append_right _ (List.mem_of_getElem? (i := 909) (by decide +kernel))), tyX11_ok, nmX11, rfl, rfl, by decide +kernel, rfl, rfl⟩ (Nat.le_of_ble_eq_true rfl) dX11_init_191 ?_
  refine jc_fs (fs' := [.int 0, .int 0, .ref (a + 1), .int 0, .ref (a + 2), .ref (a + 3), .ref (a + 4), .int 0, .ref (a + 5), .ref (a + 6), .ref (a + 7), .ref (a + 8), .int 0, .ref (a + 9), .int 0, .int (-1), .int 0, .int 0, .int 0, .int 0, .int 0, .ref (a + 10), .int 0, .ref (a + 11), .ref (a + 12), .ref (a + 13), .int 0, .ref (a + 14), .ref (a + 15), .ref (a + 16), .int 0, .ref (a + 17), .ref (a + 18), .ref (a + 19), .int 0, .ref (a + 20), .ref (a + 21), .ref (a + 22), .int 0, .ref (a + 23), .null, .null, .null]) rfl ?_
  refine jc_aload_n dX11_init_194 rfl 0 rfl ?_
  refine jc_bipush (v := 15) dX11_init_195 (by decide) ?_
  refine jc_newa (atype := .int) (t0 := 0) (N' := 15) fi_aI rfl (fun _ => rfl) (fun _ => rfl) (by decide) (by decide) (Nat.le_of_ble_eq_true rfl) (Nat.le_of_ble_eq_true rfl) (Nat.le_of_ble_eq_true rfl) dX11_init_197 ?_
  refine jc_n (n' := a + 25) (c2 := 24) (s2 := 1252) rfl rfl rfl ?_
  refine jc_put (j := 40) (fin := true) ⟨RX11, TX11, 43, tyX11, .array .int, rfl, Nat.le_of_ble_eq_true rfl, fw_X11, (List.mem_append_right _ (List.mem_of_getElem? (i := 910) (by decide +kernel))), tyX11_ok, nmX11, rfl, rfl, by decide +kernel, rfl, rfl⟩ (Nat.le_of_ble_eq_true rfl) dX11_init_199 ?_
  refine jc_fs (fs' := [.int 0, .int 0, .ref (a + 1), .int 0, .ref (a + 2), .ref (a + 3), .ref (a + 4), .int 0, .ref (a + 5), .ref (a + 6), .ref (a + 7), .ref (a + 8), .int 0, .ref (a + 9), .int 0, .int (-1), .int 0, .int 0, .int 0, .int 0, .int 0, .ref (a + 10), .int 0, .ref (a + 11), .ref (a + 12), .ref (a + 13), .int 0, .ref (a + 14), .ref (a + 15), .ref (a + 16), .int 0, .ref (a + 17), .ref (a + 18), .ref (a + 19), .int 0, .ref (a + 20), .ref (a + 21), .ref (a + 22), .int 0, .ref (a + 23), .ref (a + 24), .null, .null]) rfl ?_
  refine jc_aload_n dX11_init_202 rfl 0 rfl ?_
  refine jc_bipush (v := 68) dX11_init_203 (by decide) ?_
  refine jc_newa (atype := .int) (t0 := 0) (N' := 68) fi_aI rfl (fun _ => rfl) (fun _ => rfl) (by decide) (by decide) (Nat.le_of_ble_eq_true rfl) (Nat.le_of_ble_eq_true rfl) (Nat.le_of_ble_eq_true rfl) dX11_init_205 ?_
  refine jc_n (n' := a + 26) (c2 := 25) (s2 := 1320) rfl rfl rfl ?_
  refine jc_put (j := 41) (fin := true) ⟨RX11, TX11, 43, tyX11, .array .int, rfl, Nat.le_of_ble_eq_true rfl, fw_X11, (List.mem_append_right _ (List.mem_of_getElem? (i := 911) (by decide +kernel))), tyX11_ok, nmX11, rfl, rfl, by decide +kernel, rfl, rfl⟩ (Nat.le_of_ble_eq_true rfl) dX11_init_207 ?_
  refine jc_fs (fs' := [.int 0, .int 0, .ref (a + 1), .int 0, .ref (a + 2), .ref (a + 3), .ref (a + 4), .int 0, .ref (a + 5), .ref (a + 6), .ref (a + 7), .ref (a + 8), .int 0, .ref (a + 9), .int 0, .int (-1), .int 0, .int 0, .int 0, .int 0, .int 0, .ref (a + 10), .int 0, .ref (a + 11), .ref (a + 12), .ref (a + 13), .int 0, .ref (a + 14), .ref (a + 15), .ref (a + 16), .int 0, .ref (a + 17), .ref (a + 18), .ref (a + 19), .int 0, .ref (a + 20), .ref (a + 21), .ref (a + 22), .int 0, .ref (a + 23), .ref (a + 24), .ref (a + 25), .null]) rfl ?_
  refine jc_aload_n dX11_init_210 rfl 0 rfl ?_
  refine jc_iconst (v := 2) dX11_init_211 (by decide) ?_
  refine jc_newa (atype := .boolean) (t0 := 1) (N' := 2) fi_aZ rfl (fun _ => rfl) (fun _ => rfl) (by decide) (by decide) (Nat.le_of_ble_eq_true rfl) (Nat.le_of_ble_eq_true rfl) (Nat.le_of_ble_eq_true rfl) dX11_init_212 ?_
  refine jc_n (n' := a + 27) (c2 := 26) (s2 := 1322) rfl rfl rfl ?_
  refine jc_put (j := 42) (fin := true) ⟨RX11, TX11, 43, tyX11, .array .boolean, rfl, Nat.le_of_ble_eq_true rfl, fw_X11, (List.mem_append_right _ (List.mem_of_getElem? (i := 912) (by decide +kernel))), tyX11_ok, nmX11, rfl, rfl, by decide +kernel, rfl, rfl⟩ (Nat.le_of_ble_eq_true rfl) dX11_init_214 ?_
  refine jc_fs (fs' := [.int 0, .int 0, .ref (a + 1), .int 0, .ref (a + 2), .ref (a + 3), .ref (a + 4), .int 0, .ref (a + 5), .ref (a + 6), .ref (a + 7), .ref (a + 8), .int 0, .ref (a + 9), .int 0, .int (-1), .int 0, .int 0, .int 0, .int 0, .int 0, .ref (a + 10), .int 0, .ref (a + 11), .ref (a + 12), .ref (a + 13), .int 0, .ref (a + 14), .ref (a + 15), .ref (a + 16), .int 0, .ref (a + 17), .ref (a + 18), .ref (a + 19), .int 0, .ref (a + 20), .ref (a + 21), .ref (a + 22), .int 0, .ref (a + 23), .ref (a + 24), .ref (a + 25), .ref (a + 26)]) rfl ?_
  refine jc_aload_n dX11_init_217 rfl 0 rfl ?_
  refine jc_iconst (v := 0) dX11_init_218 (by decide) ?_
  refine jc_put (j := 0) (fin := false) ⟨RX11, TX11, 43, tyX11, .int, rfl, Nat.le_of_ble_eq_true rfl, fw_X11, (List.mem_append_right _ (List.mem_of_getElem? (i := 870) (by decide +kernel))), tyX11_ok, nmX11, rfl, rfl, by decide +kernel, rfl, rfl⟩ (Nat.le_of_ble_eq_true rfl) dX11_init_219 ?_
  refine jc_fs (fs' := [.int 0, .int 0, .ref (a + 1), .int 0, .ref (a + 2), .ref (a + 3), .ref (a + 4), .int 0, .ref (a + 5), .ref (a + 6), .ref (a + 7), .ref (a + 8), .int 0, .ref (a + 9), .int 0, .int (-1), .int 0, .int 0, .int 0, .int 0, .int 0, .ref (a + 10), .int 0, .ref (a + 11), .ref (a + 12), .ref (a + 13), .int 0, .ref (a + 14), .ref (a + 15), .ref (a + 16), .int 0, .ref (a + 17), .ref (a + 18), .ref (a + 19), .int 0, .ref (a + 20), .ref (a + 21), .ref (a + 22), .int 0, .ref (a + 23), .ref (a + 24), .ref (a + 25), .ref (a + 26)]) rfl ?_
  exact jc_ret dX11_init_222 rfl rfl rfl (fun _ => by simp only [modelW, List.nil_append, List.cons_append])
