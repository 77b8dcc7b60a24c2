/-! ===== the law's loop, and its start ===== -/
set_option maxRecDepth 20000 in
theorem law_loop {p : Program} {e : Env} {s : State} {m : MethodId} {below : List Frame} {meth : Method} {c : Code} (l : Launch) {b L : Nat} {xs : Nat → Int32} (hL : L ≤ 256) (C0 : lw_At p s m meth c b L xs) {g : jw_G} (hI : jw_I g) (hK : jw_K g s) (hA : ∀ q, jw_A g q → s.heap.size ≤ q) : ∀ (n i : Nat), L < i + n → i ≤ L → ∀ M : jw_Mem, Inv M → ∀ (H : Heap) (locs : List Loc) (ls : Array Slot), va_P g.1 vwCl (jw_ws g M) H → va_S (fun q : Nat => s.heap.size ≤ q) s.heap H locs → lv_has ls 4 (lawLv g b i) → W p l e room_1 s m #[Value.ref b] below meth c H locs 191 3031 (lw_Z below #[Value.ref b] s) (F0 m 18 ls [])
  | 0, i, hn, hi0, _, _, _, _, _, _, _, _ => absurd hi0 (by omega)
  | n + 1, i, hn, hi0, M, hM, H, locs, ls, hP, hS, hl => by
    obtain ⟨hx, hb, hr, hml, hown, hts, hX, hbl, hlocks, hgv⟩ := id C0
    refine lv_iload_n hx hb dl_18 rfl (lv_at hl 0 rfl) ?_
    refine lv_aload_n hx hb dl_19 rfl (lv_at hl 3 rfl) ?_
    refine va_slen (A := fun q : Nat => s.heap.size ≤ q) hx hb hX hbl (Nat.not_le.mpr hbl) hS dl_20 ?_
    refine lv_iconst (v := 4) hx hb dl_21 (by decide) ?_
    refine lv_isub hx hb dl_22 ?_
    refine lv_icmp_gt (tgt := 998) hx hb dl_23 (by decide) (fun _ => ?_) (fun h => ?_)
    · refine lv_iconst (v := 1) hx hb dl_998 (by decide) ?_
      refine va_forget (fun q hq => hS.2.2 q hq) ?_
      refine W.widen (k := 600000) (n := 7302250) (by decide) (by decide) ?_
      exact lw_ret hx hb hr hlocks dl_999
    have hi : i + 4 ≤ L := law_len hL hi0 h
    refine lv_aload_n hx hb dl_26 rfl (lv_at hl 3 rfl) ?_
    refine lv_iload_n hx hb dl_27 rfl (lv_at hl 0 rfl) ?_
    refine va_sld (A := fun q : Nat => s.heap.size ≤ q) hx hb hX hbl (Nat.not_le.mpr hbl) hS (vp_in_nI (show i < L by omega) (by omega)) dl_28 ?_
    refine lv_bipush (v := 31) hx hb dl_29 (by decide) ?_
    refine lv_iand hx hb dl_31 ?_
    generalize xs (nI i).toNatClampNeg &&& 31 = v
    have back : ∀ (M2 : jw_Mem) (H1 : Heap) (locs1 : List Loc), Inv M2 → va_P g.1 vwCl (jw_ws g M2) H1 → va_S (fun q : Nat => s.heap.size ≤ q) s.heap H1 locs1 → W p l e room_1 s m #[Value.ref b] below meth c H1 locs1 191 3031 (lw_Z below #[Value.ref b] s) (F0 m 992 ls []) := by
      intro M2 H1 locs1 hM2 hP2 hS2
      refine lv_iinc (v := nI (i + 4)) (lv' := lawLv g b (i + 4)) hx hb dl_992 hl (k := 0) rfl (nI_add i 4) (by decide) rfl (fun ls2 hl2 => ?_)
      refine lv_goto (tgt := 18) hx hb dl_995 (by decide) ?_
      exact law_loop l hL C0 hI hK hA n (i + 4) (by omega) hi M2 hM2 H1 locs1 ls2 hP2 hS2 hl2
    have hin : ∀ j : Nat, j < 32 → ∃ (off : Int) (t : Nat), (#[144, 167, 180, 193, 216, 249, 282, 315, 338, 371, 394, 417, 450, 483, 506, 519, 552, 575, 608, 651, 684, 707, 730, 763, 796, 819, 832, 865, 878, 891, 914, 937] : Array Int)[j]? = some off ∧ ((32 : Nat) : Int) + off = (t : Int) ∧ W p l e room_1 s m #[Value.ref b] below meth c H locs 191 3031 (lw_Z below #[Value.ref b] s) (F0 m t ls []) := by
      intro j hj
      match j, hj with
      | 0, _ => exact ⟨144, 176, rfl, by decide, law_blk1 C0 hL hI hK hA hi hM hP hS hl (t_feed _) fl_13 fl_17 (by decide) (by decide) rfl rfl dk_0 back⟩
      | 1, _ => exact ⟨167, 199, rfl, by decide, law_blk0 C0 hL hI hK hA hi hM hP hS hl (t_capital) fl_18 fl_22 (by decide) (by decide) rfl rfl dk_1 back⟩
      | 2, _ => exact ⟨180, 212, rfl, by decide, law_blk0 C0 hL hI hK hA hi hM hP hS hl (t_fault) fl_23 fl_26 (by decide) (by decide) rfl rfl dk_2 back⟩
      | 3, _ => exact ⟨193, 225, rfl, by decide, law_blk1 C0 hL hI hK hA hi hM hP hS hl (t_told _) fl_27 fl_30 (by decide) (by decide) rfl rfl dk_3 back⟩
      | 4, _ => exact ⟨216, 248, rfl, by decide, law_blk2 C0 hL hI hK hA hi hM hP hS hl (t_plinth _ _) fl_31 fl_35 (by decide) (by decide) rfl rfl dk_4 back⟩
      | 5, _ => exact ⟨249, 281, rfl, by decide, law_blk2 C0 hL hI hK hA hi hM hP hS hl (t_statue _ _) fl_36 fl_39 (by decide) (by decide) rfl rfl dk_5 back⟩
      | 6, _ => exact ⟨282, 314, rfl, by decide, law_blk2 C0 hL hI hK hA hi hM hP hS hl (t_walker _ _) fl_40 fl_43 (by decide) (by decide) rfl rfl dk_6 back⟩
      | 7, _ => exact ⟨315, 347, rfl, by decide, law_blk1 C0 hL hI hK hA hi hM hP hS hl (t_year _) fl_44 fl_47 (by decide) (by decide) rfl rfl dk_7 back⟩
      | 8, _ => exact ⟨338, 370, rfl, by decide, law_blk2 C0 hL hI hK hA hi hM hP hS hl (t_stand _ _) fl_48 fl_51 (by decide) (by decide) rfl rfl dk_8 back⟩
      | 9, _ => exact ⟨371, 403, rfl, by decide, law_blk1 C0 hL hI hK hA hi hM hP hS hl (t_down _) fl_52 fl_55 (by decide) (by decide) rfl rfl dk_9 back⟩
      | 10, _ => exact ⟨394, 426, rfl, by decide, law_blk1 C0 hL hI hK hA hi hM hP hS hl (t_scrub _) fl_56 fl_59 (by decide) (by decide) rfl rfl dk_10 back⟩
      | 11, _ => exact ⟨417, 449, rfl, by decide, law_blk2 C0 hL hI hK hA hi hM hP hS hl (t_walk _ _) fl_60 fl_63 (by decide) (by decide) rfl rfl dk_11 back⟩
      | 12, _ => exact ⟨450, 482, rfl, by decide, law_blk2 C0 hL hI hK hA hi hM hP hS hl (t_like _ _) fl_64 fl_67 (by decide) (by decide) rfl rfl dk_12 back⟩
      | 13, _ => exact ⟨483, 515, rfl, by decide, law_blk1 C0 hL hI hK hA hi hM hP hS hl (t_drift _) fl_68 fl_71 (by decide) (by decide) rfl rfl dk_13 back⟩
      | 14, _ => exact ⟨506, 538, rfl, by decide, law_blk0 C0 hL hI hK hA hi hM hP hS hl (t_undo) fl_72 fl_75 (by decide) (by decide) rfl rfl dk_14 back⟩
      | 15, _ => exact ⟨519, 551, rfl, by decide, law_blk2 C0 hL hI hK hA hi hM hP hS hl (t_standing _ _) fl_76 fl_79 (by decide) (by decide) rfl rfl dk_15 back⟩
      | 16, _ => exact ⟨552, 584, rfl, by decide, law_blk1 C0 hL hI hK hA hi hM hP hS hl (t_goesDown _) fl_80 fl_83 (by decide) (by decide) rfl rfl dk_16 back⟩
      | 17, _ => exact ⟨575, 607, rfl, by decide, law_blk2 C0 hL hI hK hA hi hM hP hS hl (t_change _ _) fl_84 fl_87 (by decide) (by decide) rfl rfl dk_17 back⟩
      | 18, _ => exact ⟨608, 640, rfl, by decide, law_blk3 C0 hL hI hK hA hi hM hP hS hl (t_power _ _ _) fl_88 fl_92 (by decide) (by decide) rfl rfl dk_18 back⟩
      | 19, _ => exact ⟨651, 683, rfl, by decide, law_blk2 C0 hL hI hK hA hi hM hP hS hl (t_mostHave _ _) fl_93 fl_96 (by decide) (by decide) rfl rfl dk_19 back⟩
      | 20, _ => exact ⟨684, 716, rfl, by decide, law_blk1 C0 hL hI hK hA hi hM hP hS hl (t_places _) fl_97 fl_100 (by decide) (by decide) rfl rfl dk_20 back⟩
      | 21, _ => exact ⟨707, 739, rfl, by decide, law_blk1 C0 hL hI hK hA hi hM hP hS hl (t_swaps _) fl_101 fl_104 (by decide) (by decide) rfl rfl dk_21 back⟩
      | 22, _ => exact ⟨730, 762, rfl, by decide, law_blk2 C0 hL hI hK hA hi hM hP hS hl (t_close _ _) fl_105 fl_108 (by decide) (by decide) rfl rfl dk_22 back⟩
      | 23, _ => exact ⟨763, 795, rfl, by decide, law_blk2 C0 hL hI hK hA hi hM hP hS hl (t_count _ _) fl_109 fl_112 (by decide) (by decide) rfl rfl dk_23 back⟩
      | 24, _ => exact ⟨796, 828, rfl, by decide, law_blk1 C0 hL hI hK hA hi hM hP hS hl (t_likings _) fl_113 fl_116 (by decide) (by decide) rfl rfl dk_24 back⟩
      | 25, _ => exact ⟨819, 851, rfl, by decide, law_blk0 C0 hL hI hK hA hi hM hP hS hl (t_ladder) fl_117 fl_120 (by decide) (by decide) rfl rfl dk_25 back⟩
      | 26, _ => exact ⟨832, 864, rfl, by decide, law_blk2 C0 hL hI hK hA hi hM hP hS hl (t_write _ _) fl_121 fl_124 (by decide) (by decide) rfl rfl dk_26 back⟩
      | 27, _ => exact ⟨865, 897, rfl, by decide, law_blk0 C0 hL hI hK hA hi hM hP hS hl (t_tear) fl_125 fl_128 (by decide) (by decide) rfl rfl dk_27 back⟩
      | 28, _ => exact ⟨878, 910, rfl, by decide, law_blk0 C0 hL hI hK hA hi hM hP hS hl (t_judge) fl_129 fl_132 (by decide) (by decide) rfl rfl dk_28 back⟩
      | 29, _ => exact ⟨891, 923, rfl, by decide, law_blk1 C0 hL hI hK hA hi hM hP hS hl (t_seed _) fl_133 fl_136 (by decide) (by decide) rfl rfl dk_29 back⟩
      | 30, _ => exact ⟨914, 946, rfl, by decide, law_blk1 C0 hL hI hK hA hi hM hP hS hl (t_keep _) fl_137 fl_140 (by decide) (by decide) rfl rfl dk_30 back⟩
      | 31, _ => exact ⟨937, 969, rfl, by decide, law_blk1 C0 hL hI hK hA hi hM hP hS hl (t_goBack _) fl_141 fl_144 (by decide) (by decide) rfl rfl dk_31 back⟩
      | n + 32, h => exact absurd h (by omega)
    by_cases h1 : v.toInt < 0
    · exact lv_tableOut (tgt := 992) hx hb dl_32 (Or.inl h1) (by decide) (back M H locs hM hP hS)
    · by_cases h2 : (31 : Int) < v.toInt
      · exact lv_tableOut (tgt := 992) hx hb dl_32 (Or.inr h2) (by decide) (back M H locs hM hP hS)
      · obtain ⟨off, t, ho, ht2, hJ⟩ := hin (v.toInt - 0).toNat (by omega)
        exact lv_tableIn hx hb dl_32 h1 h2 ho ht2 hJ
set_option maxHeartbeats 4000000 in
set_option maxRecDepth 100000 in
theorem whole_start {p : Program} {e : Env} {s : State} {m : MethodId} {below : List Frame} {meth : Method} {c : Code} (l : Launch) {b L : Nat} {xs : Nat → Int32} (hL : L ≤ 256) (C0 : lw_At p s m meth c b L xs) : W p l e room_1 s m #[Value.ref b] below meth c s.heap [] 0 0 (lw_Z below #[Value.ref b] s) (entryFrame m ([Value.ref b] : List Value).toArray 4) := by
  obtain ⟨hx, hb, hr, hml, hown, hts, hX, hbl, hlocks, hgv⟩ := id C0
  obtain ⟨g1, tc, od, hKc, hK⟩ := law_K hgv hts
  have hA : ∀ q : Nat, s.heap.size ≤ q → (fun q : Nat => s.heap.size ≤ q) q := fun _ h => h
  have hS : va_S (fun q : Nat => s.heap.size ≤ q) s.heap s.heap [] := va_S.rf
  have hP : va_P g1 vwCl [] s.heap := fun k q h => by simp at h
  have hD : va_D (fun q : Nat => s.heap.size ≤ q) [] := ⟨fun i j p q h => by simp at h, fun k q h => by simp at h⟩
  have hl := lv_entry ([.ref b]) (n := 4) (Nat.le_of_ble_eq_true rfl)
  rw [lg_entry_eq]
  generalize (lg_sl ([.ref b]) ++ List.replicate (4 - (lg_sl ([.ref b])).length) Slot.unset).toArray = ls at hl ⊢
  have hl : lv_has ls 4 [(0, .ref b)] := hl
  have wl : ∀ {k : Nat} {C : String} {T : u_T} {N : Nat}, (∀ w ∈ u_ws C T N, w ∈ jw_words) → ∀ w ∈ u_ws C T N, w ∈ lw_tbl := fun h w hw => (List.mem_filter.mp (h w hw)).1
  refine jn_new (ci := 10) (own := RL) (q := s.heap.size) hx hb hts (wl (k := 0) fw_X10) tyX10 tyX10_ok hown (hts _ (show Cond.classLink RL 7 RX10 ∈ lw_tbl from (List.mem_append_right _ (List.mem_of_getElem? (i := 16) (by decide +kernel))))) (hts _ (show Cond.instantiable RX10 11 ∈ lw_tbl from (List.mem_append_right _ (List.mem_of_getElem? (i := 17) (by decide +kernel))))) (hts _ (show Cond.initialized RX10 ∈ lw_tbl from (List.mem_append_right _ (List.mem_of_getElem? (i := 1) (by decide +kernel))))) hKc.1 hP hD hS hA rfl z_X10_ok (by decide) (by decide) dl_0 rfl (fun H1 z1 hP1 hD1 hS1 => ?_)
  refine lv_dup hx hb dl_3 rfl ?_
  refine jn_init (own := RL) (n := 0) (Ts := lw_tbl) (ci_X10 s.heap.size) hx hb hml hown hts (law_goodIn fi_X10.1) (hts _ fi_X10.2.1) (hts _ (show Cond.methodLink RL 9 yX10_init ∈ lw_tbl from (List.mem_append_right _ (List.mem_of_getElem? (i := 18) (by decide +kernel))))) (hts _ fi_X10.2.2.1) rfl rfl fi_X10.2.2.2.2.2 ⟨rfl, rfl, by decide, by decide⟩ hl.1 rfl rfl (Nat.le_of_ble_eq_true rfl) dl_4 ⟨by decide, by decide⟩ z1 hP1 hD1 hS1 hA hKc (fun H2 locs2 z2 hP2 hD2 hS2 => ?_)
  refine lv_astore_n (lv' := [(1, .ref s.heap.size), (0, .ref b)]) hx hb dl_7 rfl hl (by decide) rfl (fun ls hl => ?_)
  refine jn_new (ci := 11) (own := RL) (q := s.heap.size + 164) hx hb hts (wl (k := 0) fw_X11) tyX11 tyX11_ok hown (hts _ (show Cond.classLink RL 10 RX11 ∈ lw_tbl from (List.mem_append_right _ (List.mem_of_getElem? (i := 864) (by decide +kernel))))) (hts _ (show Cond.instantiable RX11 43 ∈ lw_tbl from (List.mem_append_right _ (List.mem_of_getElem? (i := 865) (by decide +kernel))))) (hts _ (show Cond.initialized RX11 ∈ lw_tbl from (List.mem_append_right _ (List.mem_of_getElem? (i := 12) (by decide +kernel))))) hKc.1 hP2 hD2 hS2 hA rfl z_X11_ok (by decide) (by decide) dl_8 z2 (fun H3 z3 hP3 hD3 hS3 => ?_)
  refine lv_dup hx hb dl_11 rfl ?_
  refine jn_init (own := RL) (n := 0) (Ts := lw_tbl) (ci_X11 (s.heap.size + 164)) hx hb hml hown hts (law_goodIn fi_X11.1) (hts _ fi_X11.2.1) (hts _ (show Cond.methodLink RL 12 yX11_init ∈ lw_tbl from (List.mem_append_right _ (List.mem_of_getElem? (i := 866) (by decide +kernel))))) (hts _ fi_X11.2.2.1) rfl rfl fi_X11.2.2.2.2.2 ⟨rfl, rfl, by decide, by decide⟩ hl.1 rfl rfl (Nat.le_of_ble_eq_true rfl) dl_12 ⟨by decide, by decide⟩ z3 hP3 hD3 hS3 hA hKc (fun H4 locs4 z4 hP4 hD4 hS4 => ?_)
  refine lv_astore_n (lv' := [(2, .ref (s.heap.size + 164)), (1, .ref s.heap.size), (0, .ref b)]) hx hb dl_15 rfl hl (by decide) rfl (fun ls hl => ?_)
  refine lv_iconst (v := nI 0) hx hb dl_16 (by decide) ?_
  refine lv_istore_n (lv' := lawLv (gW g1 s.heap.size tc od) b 0) hx hb dl_17 rfl hl (by decide) rfl (fun ls hl => ?_)
  exact law_loop l hL C0 (gW_I g1 s.heap.size tc od) hK (fun q h => gW_A h) (L + 1) 0 (by omega) (Nat.zero_le L) M0 Inv_M0 H4 locs4 ls (world_P hP4) hS4 hl
