theorem dX11_mostHave_0 : decode cX11_mostHave 0 = .ok (.aload_n 0, 1) := by decide +kernel
theorem dX11_mostHave_1 : decode cX11_mostHave 1 = .ok (.iload_n 1, 1) := by decide +kernel
theorem dX11_mostHave_2 : decode cX11_mostHave 2 = .ok (.invokevirtual 242, 3) := by decide +kernel
theorem dX11_mostHave_5 : decode cX11_mostHave 5 = .ok (.ifCond .eq 16, 3) := by decide +kernel
theorem dX11_mostHave_8 : decode cX11_mostHave 8 = .ok (.aload_n 0, 1) := by decide +kernel
theorem dX11_mostHave_9 : decode cX11_mostHave 9 = .ok (.iload_n 2, 1) := by decide +kernel
theorem dX11_mostHave_10 : decode cX11_mostHave 10 = .ok (.invokevirtual 242, 3) := by decide +kernel
theorem dX11_mostHave_13 : decode cX11_mostHave 13 = .ok (.ifCond .eq 8, 3) := by decide +kernel
theorem dX11_mostHave_16 : decode cX11_mostHave 16 = .ok (.iload_n 1, 1) := by decide +kernel
theorem dX11_mostHave_17 : decode cX11_mostHave 17 = .ok (.iload_n 2, 1) := by decide +kernel
theorem dX11_mostHave_18 : decode cX11_mostHave 18 = .ok (.if_icmp .ne 6, 3) := by decide +kernel
theorem dX11_mostHave_21 : decode cX11_mostHave 21 = .ok (.ldc 241, 2) := by decide +kernel
theorem dX11_mostHave_23 : decode cX11_mostHave 23 = .ok (.ireturn, 1) := by decide +kernel
theorem dX11_mostHave_24 : decode cX11_mostHave 24 = .ok (.aload_n 0, 1) := by decide +kernel
theorem dX11_mostHave_25 : decode cX11_mostHave 25 = .ok (.iload_n 1, 1) := by decide +kernel
theorem dX11_mostHave_26 : decode cX11_mostHave 26 = .ok (.iload_n 2, 1) := by decide +kernel
theorem dX11_mostHave_27 : decode cX11_mostHave 27 = .ok (.invokevirtual 220, 3) := by decide +kernel
theorem dX11_mostHave_30 : decode cX11_mostHave 30 = .ok (.ifCond .eq 7, 3) := by decide +kernel
theorem dX11_mostHave_33 : decode cX11_mostHave 33 = .ok (.iconst 1, 1) := by decide +kernel
theorem dX11_mostHave_34 : decode cX11_mostHave 34 = .ok (.goto 4, 3) := by decide +kernel
theorem dX11_mostHave_37 : decode cX11_mostHave 37 = .ok (.iconst 0, 1) := by decide +kernel
theorem dX11_mostHave_38 : decode cX11_mostHave 38 = .ok (.ireturn, 1) := by decide +kernel
set_option maxHeartbeats 4000000 in
set_option maxRecDepth 20000 in
theorem en_X11_mostHave {a1 : Int32} {a2 : Int32} {M : jw_Mem} {Q : Int32 → jw_Mem → Prop}  (h : (jw_M 1 mX11_isStatue [vr 11 0, vi a1] M (fun x1 M2 => ((x1 = 0 → Q (-1000000001) M2) ∧ (¬ x1 = 0 → (jw_M 1 mX11_isStatue [vr 11 0, vi a2] M2 (fun x3 M4 => ((x3 = 0 → Q (-1000000001) M4) ∧ (¬ x3 = 0 → ((¬ a1 = a2 → (jw_M 2 mX11_isHad [vr 11 0, vi a1, vi a2] M4 (fun x5 M6 => ((x5 = 0 → Q 0 M6) ∧ (¬ x5 = 0 → Q 1 M6))))) ∧ (a1 = a2 → Q (-1000000001) M4))))))))))) : jw_M 3 mX11_mostHave [vr 11 0, vi a1, vi a2] M Q := by
  refine jw_M.of (by decide) (Nat.le_of_ble_eq_true rfl) ?_
  show jw_J 3 mX11_mostHave 0 [(0, vr 11 0), (1, vi a1), (2, vi a2)] [] M Q
  refine jr_aload_n (pc := 0) dX11_mostHave_0 rfl 0 rfl ?_
  refine jr_iload_n (pc := 1) dX11_mostHave_1 rfl 1 rfl ?_
  refine jr_callV (pc := 2) (d' := 1) (mt' := mX11_isStatue) (k := 11) (n := 0) (As := [vi a1]) (st := []) fc_X11_242 (by decide) (by decide) (Nat.le_of_ble_eq_true rfl) rfl dX11_mostHave_2 (jw_M.mono h (fun x1 M2 h => ?_))
  show jw_J 3 mX11_mostHave 5 [(0, vr 11 0), (1, vi a1), (2, vi a2)] [vi x1] M2 Q
  refine jr_if_eq (pc := 5) (tgt := 21) dX11_mostHave_5 (by decide) (fun c => ?_) (fun c => ?_)
  · replace h := h.1 c
    refine jr_ldc (pc := 21) fk_X11_241 dX11_mostHave_21 ?_
    exact jr_iret (pc := 23) rfl dX11_mostHave_23 h
  · replace h := h.2 c
    refine jr_aload_n (pc := 8) dX11_mostHave_8 rfl 0 rfl ?_
    refine jr_iload_n (pc := 9) dX11_mostHave_9 rfl 2 rfl ?_
    refine jr_callV (pc := 10) (d' := 1) (mt' := mX11_isStatue) (k := 11) (n := 0) (As := [vi a2]) (st := []) fc_X11_242 (by decide) (by decide) (Nat.le_of_ble_eq_true rfl) rfl dX11_mostHave_10 (jw_M.mono h (fun x3 M4 h => ?_))
    show jw_J 3 mX11_mostHave 13 [(0, vr 11 0), (1, vi a1), (2, vi a2)] [vi x3] M4 Q
    refine jr_if_eq (pc := 13) (tgt := 21) dX11_mostHave_13 (by decide) (fun c => ?_) (fun c => ?_)
    · replace h := h.1 c
      refine jr_ldc (pc := 21) fk_X11_241 dX11_mostHave_21 ?_
      exact jr_iret (pc := 23) rfl dX11_mostHave_23 h
    · replace h := h.2 c
      refine jr_iload_n (pc := 16) dX11_mostHave_16 rfl 1 rfl ?_
      refine jr_iload_n (pc := 17) dX11_mostHave_17 rfl 2 rfl ?_
      refine jr_icmp_ne (pc := 18) (tgt := 24) dX11_mostHave_18 (by decide) (fun c => ?_) (fun c => ?_)
      · replace h := h.1 c
        refine jr_aload_n (pc := 24) dX11_mostHave_24 rfl 0 rfl ?_
        refine jr_iload_n (pc := 25) dX11_mostHave_25 rfl 1 rfl ?_
        refine jr_iload_n (pc := 26) dX11_mostHave_26 rfl 2 rfl ?_
        refine jr_callV (pc := 27) (d' := 2) (mt' := mX11_isHad) (k := 11) (n := 0) (As := [vi a1, vi a2]) (st := []) fc_X11_220 (by decide) (by decide) (Nat.le_of_ble_eq_true rfl) rfl dX11_mostHave_27 (jw_M.mono h (fun x5 M6 h => ?_))
        show jw_J 3 mX11_mostHave 30 [(0, vr 11 0), (1, vi a1), (2, vi a2)] [vi x5] M6 Q
        refine jr_if_eq (pc := 30) (tgt := 37) dX11_mostHave_30 (by decide) (fun c => ?_) (fun c => ?_)
        · replace h := h.1 c
          refine jr_iconst (pc := 37) (v := 0) dX11_mostHave_37 (by decide) ?_
          exact jr_iret (pc := 38) rfl dX11_mostHave_38 h
        · replace h := h.2 c
          refine jr_iconst (pc := 33) (v := 1) dX11_mostHave_33 (by decide) ?_
          refine jr_goto (pc := 34) (tgt := 38) dX11_mostHave_34 (by decide) ?_
          exact jr_iret (pc := 38) rfl dX11_mostHave_38 h
      · replace h := h.2 c
        refine jr_ldc (pc := 21) fk_X11_241 dX11_mostHave_21 ?_
        exact jr_iret (pc := 23) rfl dX11_mostHave_23 h
theorem dX11_withPlace_0 : decode cX11_withPlace 0 = .ok (.iload_n 2, 1) := by decide +kernel
theorem dX11_withPlace_1 : decode cX11_withPlace 1 = .ok (.iload_n 3, 1) := by decide +kernel
theorem dX11_withPlace_2 : decode cX11_withPlace 2 = .ok (.invokestatic 195, 3) := by decide +kernel
theorem dX11_withPlace_5 : decode cX11_withPlace 5 = .ok (.ifCond .ne 22, 3) := by decide +kernel
theorem dX11_withPlace_8 : decode cX11_withPlace 8 = .ok (.aload_n 0, 1) := by decide +kernel
theorem dX11_withPlace_9 : decode cX11_withPlace 9 = .ok (.getfield 7, 3) := by decide +kernel
theorem dX11_withPlace_12 : decode cX11_withPlace 12 = .ok (.iload_n 3, 1) := by decide +kernel
theorem dX11_withPlace_13 : decode cX11_withPlace 13 = .ok (.iaload, 1) := by decide +kernel
theorem dX11_withPlace_14 : decode cX11_withPlace 14 = .ok (.aload_n 0, 1) := by decide +kernel
theorem dX11_withPlace_15 : decode cX11_withPlace 15 = .ok (.getfield 19, 3) := by decide +kernel
theorem dX11_withPlace_18 : decode cX11_withPlace 18 = .ok (.iload_n 1, 1) := by decide +kernel
theorem dX11_withPlace_19 : decode cX11_withPlace 19 = .ok (.iaload, 1) := by decide +kernel
theorem dX11_withPlace_20 : decode cX11_withPlace 20 = .ok (.if_icmp .lt 7, 3) := by decide +kernel
theorem dX11_withPlace_23 : decode cX11_withPlace 23 = .ok (.iconst 1, 1) := by decide +kernel
theorem dX11_withPlace_24 : decode cX11_withPlace 24 = .ok (.goto 4, 3) := by decide +kernel
theorem dX11_withPlace_27 : decode cX11_withPlace 27 = .ok (.iconst 0, 1) := by decide +kernel
theorem dX11_withPlace_28 : decode cX11_withPlace 28 = .ok (.istore 4, 2) := by decide +kernel
theorem dX11_withPlace_30 : decode cX11_withPlace 30 = .ok (.iload 4, 2) := by decide +kernel
theorem dX11_withPlace_32 : decode cX11_withPlace 32 = .ok (.ifCond .eq 35, 3) := by decide +kernel
theorem dX11_withPlace_35 : decode cX11_withPlace 35 = .ok (.sipush 1000, 3) := by decide +kernel
theorem dX11_withPlace_38 : decode cX11_withPlace 38 = .ok (.aload_n 0, 1) := by decide +kernel
theorem dX11_withPlace_39 : decode cX11_withPlace 39 = .ok (.getfield 7, 3) := by decide +kernel
theorem dX11_withPlace_42 : decode cX11_withPlace 42 = .ok (.iload_n 3, 1) := by decide +kernel
theorem dX11_withPlace_43 : decode cX11_withPlace 43 = .ok (.iaload, 1) := by decide +kernel
theorem dX11_withPlace_44 : decode cX11_withPlace 44 = .ok (.iadd, 1) := by decide +kernel
theorem dX11_withPlace_45 : decode cX11_withPlace 45 = .ok (.aload_n 0, 1) := by decide +kernel
theorem dX11_withPlace_46 : decode cX11_withPlace 46 = .ok (.getfield 68, 3) := by decide +kernel
theorem dX11_withPlace_49 : decode cX11_withPlace 49 = .ok (.bipush 32, 2) := by decide +kernel
theorem dX11_withPlace_51 : decode cX11_withPlace 51 = .ok (.iload_n 1, 1) := by decide +kernel
theorem dX11_withPlace_52 : decode cX11_withPlace 52 = .ok (.imul, 1) := by decide +kernel
theorem dX11_withPlace_53 : decode cX11_withPlace 53 = .ok (.bipush 32, 2) := by decide +kernel
theorem dX11_withPlace_55 : decode cX11_withPlace 55 = .ok (.iadd, 1) := by decide +kernel
theorem dX11_withPlace_56 : decode cX11_withPlace 56 = .ok (.iload_n 2, 1) := by decide +kernel
theorem dX11_withPlace_57 : decode cX11_withPlace 57 = .ok (.iconst 1, 1) := by decide +kernel
theorem dX11_withPlace_58 : decode cX11_withPlace 58 = .ok (.iload_n 3, 1) := by decide +kernel
theorem dX11_withPlace_59 : decode cX11_withPlace 59 = .ok (.ishl, 1) := by decide +kernel
theorem dX11_withPlace_60 : decode cX11_withPlace 60 = .ok (.ior, 1) := by decide +kernel
theorem dX11_withPlace_61 : decode cX11_withPlace 61 = .ok (.iadd, 1) := by decide +kernel
theorem dX11_withPlace_62 : decode cX11_withPlace 62 = .ok (.iaload, 1) := by decide +kernel
theorem dX11_withPlace_63 : decode cX11_withPlace 63 = .ok (.iadd, 1) := by decide +kernel
theorem dX11_withPlace_64 : decode cX11_withPlace 64 = .ok (.goto 6, 3) := by decide +kernel
theorem dX11_withPlace_67 : decode cX11_withPlace 67 = .ok (.ldc_w 291, 3) := by decide +kernel
theorem dX11_withPlace_70 : decode cX11_withPlace 70 = .ok (.ireturn, 1) := by decide +kernel
set_option maxHeartbeats 4000000 in
set_option maxRecDepth 20000 in
theorem en_X11_withPlace {a1 : Int32} {a2 : Int32} {a3 : Int32} {M : jw_Mem} {Q : Int32 → jw_Mem → Prop}  (h : (jw_M 0 mX11_has [vi a2, vi a3] M (fun x1 M2 => ((¬ x1 = 0 → Q (-1000000) M2) ∧ (x1 = 0 → (vp_in a3 5 ∧ (vp_in a1 6 ∧ (((M2 36 0 a3.toNatClampNeg) < (M2 39 0 a1.toNatClampNeg) → Q (-1000000) M2) ∧ (¬ (M2 36 0 a3.toNatClampNeg) < (M2 39 0 a1.toNatClampNeg) → (vp_in a3 5 ∧ (vp_in (((32 * a1) + 32) + (a2 ||| ((1 : Int32) <<< (a3 &&& 31)))) 224 ∧ Q ((1000 + (M2 36 0 a3.toNatClampNeg)) + (M2 54 0 ((((32 * a1) + 32) + (a2 ||| ((1 : Int32) <<< (a3 &&& 31)))) : Int32).toNatClampNeg)) M2))))))))))) : jw_M 1 mX11_withPlace [vr 11 0, vi a1, vi a2, vi a3] M Q := by
  refine jw_M.of (by decide) (Nat.le_of_ble_eq_true rfl) ?_
  show jw_J 1 mX11_withPlace 0 [(0, vr 11 0), (1, vi a1), (2, vi a2), (3, vi a3)] [] M Q
  refine jr_iload_n (pc := 0) dX11_withPlace_0 rfl 2 rfl ?_
  refine jr_iload_n (pc := 1) dX11_withPlace_1 rfl 3 rfl ?_
  refine jr_callS (pc := 2) (d' := 0) (mt' := mX11_has) (As := [vi a2, vi a3]) (st := []) fc_X11_195 (by decide) (Nat.le_of_ble_eq_true rfl) rfl dX11_withPlace_2 (jw_M.mono h (fun x1 M2 h => ?_))
  show jw_J 1 mX11_withPlace 5 [(0, vr 11 0), (1, vi a1), (2, vi a2), (3, vi a3)] [vi x1] M2 Q
  refine jr_if_ne (pc := 5) (tgt := 27) dX11_withPlace_5 (by decide) (fun c => ?_) (fun c => ?_)
  · replace h := h.1 c
    refine jr_iconst (pc := 27) (v := 0) dX11_withPlace_27 (by decide) ?_
    refine jr_istore (pc := 28) (lv' := [(4, vi 0), (0, vr 11 0), (1, vi a1), (2, vi a2), (3, vi a3)]) dX11_withPlace_28 (by decide) rfl ?_
    refine jr_iload (pc := 30) dX11_withPlace_30 0 rfl ?_
    refine jr_if_eq (pc := 32) (tgt := 67) dX11_withPlace_32 (by decide) (fun _ => ?_) (fun c => absurd c (by decide))
    refine jr_ldcw (pc := 67) fk_X11_291 dX11_withPlace_67 ?_
    exact jr_iret (pc := 70) rfl dX11_withPlace_70 h
  · replace h := h.2 c
    refine jr_aload_n (pc := 8) dX11_withPlace_8 rfl 0 rfl ?_
    refine jr_get (pc := 9) (v := vr 36 0) fg_X11_7 (by decide) rfl dX11_withPlace_9 ?_
    refine jr_iload_n (pc := 12) dX11_withPlace_12 rfl 3 rfl ?_
    refine jr_iald (pc := 13) ⟨rfl, (by decide)⟩ h.1 dX11_withPlace_13 ?_
    replace h := h.2
    refine jr_aload_n (pc := 14) dX11_withPlace_14 rfl 0 rfl ?_
    refine jr_get (pc := 15) (v := vr 39 0) fg_X11_19 (by decide) rfl dX11_withPlace_15 ?_
    refine jr_iload_n (pc := 18) dX11_withPlace_18 rfl 1 rfl ?_
    refine jr_iald (pc := 19) ⟨rfl, (by decide)⟩ h.1 dX11_withPlace_19 ?_
    replace h := h.2
    refine jr_icmp_lt (pc := 20) (tgt := 27) dX11_withPlace_20 (by decide) (fun c => ?_) (fun c => ?_)
    · replace h := h.1 c
      refine jr_iconst (pc := 27) (v := 0) dX11_withPlace_27 (by decide) ?_
      refine jr_istore (pc := 28) (lv' := [(4, vi 0), (0, vr 11 0), (1, vi a1), (2, vi a2), (3, vi a3)]) dX11_withPlace_28 (by decide) rfl ?_
      refine jr_iload (pc := 30) dX11_withPlace_30 0 rfl ?_
      refine jr_if_eq (pc := 32) (tgt := 67) dX11_withPlace_32 (by decide) (fun _ => ?_) (fun c => absurd c (by decide))
      refine jr_ldcw (pc := 67) fk_X11_291 dX11_withPlace_67 ?_
      exact jr_iret (pc := 70) rfl dX11_withPlace_70 h
    · replace h := h.2 c
      refine jr_iconst (pc := 23) (v := 1) dX11_withPlace_23 (by decide) ?_
      refine jr_goto (pc := 24) (tgt := 28) dX11_withPlace_24 (by decide) ?_
      refine jr_istore (pc := 28) (lv' := [(4, vi 1), (0, vr 11 0), (1, vi a1), (2, vi a2), (3, vi a3)]) dX11_withPlace_28 (by decide) rfl ?_
      refine jr_iload (pc := 30) dX11_withPlace_30 0 rfl ?_
      refine jr_if_eq (pc := 32) (tgt := 67) dX11_withPlace_32 (by decide) (fun c => absurd c (by decide)) (fun _ => ?_)
      refine jr_sipush (pc := 35) (v := 1000) dX11_withPlace_35 (by decide) ?_
      refine jr_aload_n (pc := 38) dX11_withPlace_38 rfl 1 rfl ?_
      refine jr_get (pc := 39) (v := vr 36 0) fg_X11_7 (by decide) rfl dX11_withPlace_39 ?_
      refine jr_iload_n (pc := 42) dX11_withPlace_42 rfl 4 rfl ?_
      refine jr_iald (pc := 43) ⟨rfl, (by decide)⟩ h.1 dX11_withPlace_43 ?_
      replace h := h.2
      refine jr_iadd (pc := 44) dX11_withPlace_44 ?_
      refine jr_aload_n (pc := 45) dX11_withPlace_45 rfl 1 rfl ?_
      refine jr_get (pc := 46) (v := vr 54 0) fg_X11_68 (by decide) rfl dX11_withPlace_46 ?_
      refine jr_bipush (pc := 49) (v := 32) dX11_withPlace_49 (by decide) ?_
      refine jr_iload_n (pc := 51) dX11_withPlace_51 rfl 2 rfl ?_
      refine jr_imul (pc := 52) dX11_withPlace_52 ?_
      refine jr_bipush (pc := 53) (v := 32) dX11_withPlace_53 (by decide) ?_
      refine jr_iadd (pc := 55) dX11_withPlace_55 ?_
      refine jr_iload_n (pc := 56) dX11_withPlace_56 rfl 3 rfl ?_
      refine jr_iconst (pc := 57) (v := 1) dX11_withPlace_57 (by decide) ?_
      refine jr_iload_n (pc := 58) dX11_withPlace_58 rfl 4 rfl ?_
      refine jr_ishl (pc := 59) dX11_withPlace_59 ?_
      refine jr_ior (pc := 60) dX11_withPlace_60 ?_
      refine jr_iadd (pc := 61) dX11_withPlace_61 ?_
      refine jr_iald (pc := 62) ⟨rfl, (by decide)⟩ h.1 dX11_withPlace_62 ?_
      replace h := h.2
      refine jr_iadd (pc := 63) dX11_withPlace_63 ?_
      refine jr_goto (pc := 64) (tgt := 70) dX11_withPlace_64 (by decide) ?_
      exact jr_iret (pc := 70) rfl dX11_withPlace_70 h
theorem dX11_findPlaces_0 : decode cX11_findPlaces 0 = .ok (.iconst 0, 1) := by decide +kernel
theorem dX11_findPlaces_1 : decode cX11_findPlaces 1 = .ok (.istore_n 1, 1) := by decide +kernel
theorem dX11_findPlaces_2 : decode cX11_findPlaces 2 = .ok (.iload_n 1, 1) := by decide +kernel
theorem dX11_findPlaces_3 : decode cX11_findPlaces 3 = .ok (.bipush 32, 2) := by decide +kernel
theorem dX11_findPlaces_5 : decode cX11_findPlaces 5 = .ok (.if_icmp .ge 24, 3) := by decide +kernel
theorem dX11_findPlaces_8 : decode cX11_findPlaces 8 = .ok (.aload_n 0, 1) := by decide +kernel
theorem dX11_findPlaces_9 : decode cX11_findPlaces 9 = .ok (.getfield 68, 3) := by decide +kernel
theorem dX11_findPlaces_12 : decode cX11_findPlaces 12 = .ok (.bipush 32, 2) := by decide +kernel
theorem dX11_findPlaces_14 : decode cX11_findPlaces 14 = .ok (.aload_n 0, 1) := by decide +kernel
theorem dX11_findPlaces_15 : decode cX11_findPlaces 15 = .ok (.getfield 103, 3) := by decide +kernel
theorem dX11_findPlaces_18 : decode cX11_findPlaces 18 = .ok (.imul, 1) := by decide +kernel
theorem dX11_findPlaces_19 : decode cX11_findPlaces 19 = .ok (.iload_n 1, 1) := by decide +kernel
theorem dX11_findPlaces_20 : decode cX11_findPlaces 20 = .ok (.iadd, 1) := by decide +kernel
theorem dX11_findPlaces_21 : decode cX11_findPlaces 21 = .ok (.iconst 0, 1) := by decide +kernel
theorem dX11_findPlaces_22 : decode cX11_findPlaces 22 = .ok (.iastore, 1) := by decide +kernel
theorem dX11_findPlaces_23 : decode cX11_findPlaces 23 = .ok (.iinc 1 1, 3) := by decide +kernel
theorem dX11_findPlaces_26 : decode cX11_findPlaces 26 = .ok (.goto (-24), 3) := by decide +kernel
theorem dX11_findPlaces_29 : decode cX11_findPlaces 29 = .ok (.aload_n 0, 1) := by decide +kernel
theorem dX11_findPlaces_30 : decode cX11_findPlaces 30 = .ok (.getfield 103, 3) := by decide +kernel
theorem dX11_findPlaces_33 : decode cX11_findPlaces 33 = .ok (.iconst 1, 1) := by decide +kernel
theorem dX11_findPlaces_34 : decode cX11_findPlaces 34 = .ok (.isub, 1) := by decide +kernel
theorem dX11_findPlaces_35 : decode cX11_findPlaces 35 = .ok (.istore_n 1, 1) := by decide +kernel
theorem dX11_findPlaces_36 : decode cX11_findPlaces 36 = .ok (.iload_n 1, 1) := by decide +kernel
theorem dX11_findPlaces_37 : decode cX11_findPlaces 37 = .ok (.ifCond .lt 91, 3) := by decide +kernel
theorem dX11_findPlaces_40 : decode cX11_findPlaces 40 = .ok (.iconst 0, 1) := by decide +kernel
theorem dX11_findPlaces_41 : decode cX11_findPlaces 41 = .ok (.istore_n 2, 1) := by decide +kernel
theorem dX11_findPlaces_42 : decode cX11_findPlaces 42 = .ok (.iload_n 2, 1) := by decide +kernel
theorem dX11_findPlaces_43 : decode cX11_findPlaces 43 = .ok (.bipush 32, 2) := by decide +kernel
theorem dX11_findPlaces_45 : decode cX11_findPlaces 45 = .ok (.if_icmp .ge 77, 3) := by decide +kernel
theorem dX11_findPlaces_48 : decode cX11_findPlaces 48 = .ok (.aload_n 0, 1) := by decide +kernel
theorem dX11_findPlaces_49 : decode cX11_findPlaces 49 = .ok (.getfield 68, 3) := by decide +kernel
theorem dX11_findPlaces_52 : decode cX11_findPlaces 52 = .ok (.bipush 32, 2) := by decide +kernel
theorem dX11_findPlaces_54 : decode cX11_findPlaces 54 = .ok (.iload_n 1, 1) := by decide +kernel
theorem dX11_findPlaces_55 : decode cX11_findPlaces 55 = .ok (.imul, 1) := by decide +kernel
theorem dX11_findPlaces_56 : decode cX11_findPlaces 56 = .ok (.bipush 32, 2) := by decide +kernel
theorem dX11_findPlaces_58 : decode cX11_findPlaces 58 = .ok (.iadd, 1) := by decide +kernel
theorem dX11_findPlaces_59 : decode cX11_findPlaces 59 = .ok (.iload_n 2, 1) := by decide +kernel
theorem dX11_findPlaces_60 : decode cX11_findPlaces 60 = .ok (.iadd, 1) := by decide +kernel
theorem dX11_findPlaces_61 : decode cX11_findPlaces 61 = .ok (.iaload, 1) := by decide +kernel
theorem dX11_findPlaces_62 : decode cX11_findPlaces 62 = .ok (.istore_n 3, 1) := by decide +kernel
theorem dX11_findPlaces_63 : decode cX11_findPlaces 63 = .ok (.iconst 0, 1) := by decide +kernel
theorem dX11_findPlaces_64 : decode cX11_findPlaces 64 = .ok (.istore 4, 2) := by decide +kernel
theorem dX11_findPlaces_66 : decode cX11_findPlaces 66 = .ok (.iload 4, 2) := by decide +kernel
theorem dX11_findPlaces_68 : decode cX11_findPlaces 68 = .ok (.aload_n 0, 1) := by decide +kernel
theorem dX11_findPlaces_69 : decode cX11_findPlaces 69 = .ok (.getfield 96, 3) := by decide +kernel
theorem dX11_findPlaces_72 : decode cX11_findPlaces 72 = .ok (.if_icmp .ge 32, 3) := by decide +kernel
theorem dX11_findPlaces_75 : decode cX11_findPlaces 75 = .ok (.aload_n 0, 1) := by decide +kernel
theorem dX11_findPlaces_76 : decode cX11_findPlaces 76 = .ok (.iload_n 1, 1) := by decide +kernel
theorem dX11_findPlaces_77 : decode cX11_findPlaces 77 = .ok (.iload_n 2, 1) := by decide +kernel
theorem dX11_findPlaces_78 : decode cX11_findPlaces 78 = .ok (.iload 4, 2) := by decide +kernel
theorem dX11_findPlaces_80 : decode cX11_findPlaces 80 = .ok (.invokevirtual 292, 3) := by decide +kernel
theorem dX11_findPlaces_83 : decode cX11_findPlaces 83 = .ok (.istore 5, 2) := by decide +kernel
theorem dX11_findPlaces_85 : decode cX11_findPlaces 85 = .ok (.iload 5, 2) := by decide +kernel
theorem dX11_findPlaces_87 : decode cX11_findPlaces 87 = .ok (.iload_n 3, 1) := by decide +kernel
theorem dX11_findPlaces_88 : decode cX11_findPlaces 88 = .ok (.if_icmp .le 8, 3) := by decide +kernel
theorem dX11_findPlaces_91 : decode cX11_findPlaces 91 = .ok (.iload 5, 2) := by decide +kernel
theorem dX11_findPlaces_93 : decode cX11_findPlaces 93 = .ok (.goto 4, 3) := by decide +kernel
theorem dX11_findPlaces_96 : decode cX11_findPlaces 96 = .ok (.iload_n 3, 1) := by decide +kernel
theorem dX11_findPlaces_97 : decode cX11_findPlaces 97 = .ok (.istore_n 3, 1) := by decide +kernel
theorem dX11_findPlaces_98 : decode cX11_findPlaces 98 = .ok (.iinc 4 1, 3) := by decide +kernel
theorem dX11_findPlaces_101 : decode cX11_findPlaces 101 = .ok (.goto (-35), 3) := by decide +kernel
theorem dX11_findPlaces_104 : decode cX11_findPlaces 104 = .ok (.aload_n 0, 1) := by decide +kernel
theorem dX11_findPlaces_105 : decode cX11_findPlaces 105 = .ok (.getfield 68, 3) := by decide +kernel
theorem dX11_findPlaces_108 : decode cX11_findPlaces 108 = .ok (.bipush 32, 2) := by decide +kernel
theorem dX11_findPlaces_110 : decode cX11_findPlaces 110 = .ok (.iload_n 1, 1) := by decide +kernel
theorem dX11_findPlaces_111 : decode cX11_findPlaces 111 = .ok (.imul, 1) := by decide +kernel
theorem dX11_findPlaces_112 : decode cX11_findPlaces 112 = .ok (.iload_n 2, 1) := by decide +kernel
theorem dX11_findPlaces_113 : decode cX11_findPlaces 113 = .ok (.iadd, 1) := by decide +kernel
theorem dX11_findPlaces_114 : decode cX11_findPlaces 114 = .ok (.iload_n 3, 1) := by decide +kernel
theorem dX11_findPlaces_115 : decode cX11_findPlaces 115 = .ok (.iastore, 1) := by decide +kernel
theorem dX11_findPlaces_116 : decode cX11_findPlaces 116 = .ok (.iinc 2 1, 3) := by decide +kernel
theorem dX11_findPlaces_119 : decode cX11_findPlaces 119 = .ok (.goto (-77), 3) := by decide +kernel
theorem dX11_findPlaces_122 : decode cX11_findPlaces 122 = .ok (.iinc 1 (-1), 3) := by decide +kernel
theorem dX11_findPlaces_125 : decode cX11_findPlaces 125 = .ok (.goto (-89), 3) := by decide +kernel
theorem dX11_findPlaces_128 : decode cX11_findPlaces 128 = .ok (.return_, 1) := by decide +kernel
set_option maxHeartbeats 4000000 in
set_option maxRecDepth 20000 in
theorem en_X11_findPlaces {M : jw_Mem} {Q : Int32 → jw_Mem → Prop}  (h : jw_J 2 mX11_findPlaces 2 [(0, vr 11 0), (1, vi 0)] [] M Q) : jw_M 2 mX11_findPlaces [vr 11 0] M Q := by
  refine jw_M.of (by decide) (Nat.le_of_ble_eq_true rfl) ?_
  show jw_J 2 mX11_findPlaces 0 [(0, vr 11 0)] [] M Q
  refine jr_iconst (pc := 0) (v := 0) dX11_findPlaces_0 (by decide) ?_
  refine jr_istore_n (pc := 1) (lv' := [(1, vi 0), (0, vr 11 0)]) dX11_findPlaces_1 rfl (by decide) rfl ?_
  exact jr_sub [1, 0] rfl h
set_option maxHeartbeats 4000000 in
set_option maxRecDepth 20000 in
theorem bk_X11_findPlaces_2 {v1 : Int32} {M : jw_Mem} {Q : Int32 → jw_Mem → Prop}  (h : ((32 ≤ v1 → jw_J 2 mX11_findPlaces 36 [(0, vr 11 0), (1, vi ((M 11 0 3) - 1))] [] M Q) ∧ (¬ 32 ≤ v1 → (vp_in ((32 * (M 11 0 3)) + v1) 224 ∧ (∀ M1 : jw_Mem, M1 = jw_up M 54 0 (((32 * (M 11 0 3)) + v1) : Int32).toNatClampNeg 0 → jw_J 2 mX11_findPlaces 2 [(0, vr 11 0), (1, vi (v1 + 1))] [] M1 Q))))) : jw_J 2 mX11_findPlaces 2 [(0, vr 11 0), (1, vi v1)] [] M Q := by
  refine jr_iload_n (pc := 2) dX11_findPlaces_2 rfl 1 rfl ?_
  refine jr_bipush (pc := 3) (v := 32) dX11_findPlaces_3 (by decide) ?_
  refine jr_icmp_ge (pc := 5) (tgt := 29) dX11_findPlaces_5 (by decide) (fun c => ?_) (fun c => ?_)
  · replace h := h.1 c
    refine jr_aload_n (pc := 29) dX11_findPlaces_29 rfl 0 rfl ?_
    refine jr_get (pc := 30) (v := vi (M 11 0 3)) fg_X11_103 (by decide) rfl dX11_findPlaces_30 ?_
    refine jr_iconst (pc := 33) (v := 1) dX11_findPlaces_33 (by decide) ?_
    refine jr_isub (pc := 34) dX11_findPlaces_34 ?_
    refine jr_istore_n (pc := 35) (lv' := [(1, vi ((M 11 0 3) - 1)), (0, vr 11 0)]) dX11_findPlaces_35 rfl (by decide) rfl ?_
    exact jr_sub [1, 0] rfl h
  · replace h := h.2 c
    refine jr_aload_n (pc := 8) dX11_findPlaces_8 rfl 0 rfl ?_
    refine jr_get (pc := 9) (v := vr 54 0) fg_X11_68 (by decide) rfl dX11_findPlaces_9 ?_
    refine jr_bipush (pc := 12) (v := 32) dX11_findPlaces_12 (by decide) ?_
    refine jr_aload_n (pc := 14) dX11_findPlaces_14 rfl 0 rfl ?_
    refine jr_get (pc := 15) (v := vi (M 11 0 3)) fg_X11_103 (by decide) rfl dX11_findPlaces_15 ?_
    refine jr_imul (pc := 18) dX11_findPlaces_18 ?_
    refine jr_iload_n (pc := 19) dX11_findPlaces_19 rfl 1 rfl ?_
    refine jr_iadd (pc := 20) dX11_findPlaces_20 ?_
    refine jr_iconst (pc := 21) (v := 0) dX11_findPlaces_21 (by decide) ?_
    refine jr_iast (pc := 22) ⟨rfl, (by decide)⟩ h.1 dX11_findPlaces_22 ?_
    replace h := h.2
    replace h := h _ rfl
    generalize jw_up M 54 0 (((32 * (M 11 0 3)) + v1) : Int32).toNatClampNeg 0 = M1 at h ⊢
    refine jr_iinc (pc := 23) (lv' := [(1, vi (v1 + 1)), (0, vr 11 0)]) (q := 1) dX11_findPlaces_23 rfl (by rfl) (by decide) rfl ?_
    refine jr_goto (pc := 26) (tgt := 2) dX11_findPlaces_26 (by decide) ?_
    exact jr_sub [1, 0] rfl h
set_option maxHeartbeats 4000000 in
set_option maxRecDepth 20000 in
theorem bk_X11_findPlaces_36 {v1 : Int32} {M : jw_Mem} {Q : Int32 → jw_Mem → Prop}  (h : ((v1 < 0 → Q 0 M) ∧ (¬ v1 < 0 → jw_J 2 mX11_findPlaces 42 [(0, vr 11 0), (1, vi v1), (2, vi 0)] [] M Q))) : jw_J 2 mX11_findPlaces 36 [(0, vr 11 0), (1, vi v1)] [] M Q := by
  refine jr_iload_n (pc := 36) dX11_findPlaces_36 rfl 1 rfl ?_
  refine jr_if_lt (pc := 37) (tgt := 128) dX11_findPlaces_37 (by decide) (fun c => ?_) (fun c => ?_)
  · replace h := h.1 c
    exact jr_vret (pc := 128) rfl dX11_findPlaces_128 h
  · replace h := h.2 c
    refine jr_iconst (pc := 40) (v := 0) dX11_findPlaces_40 (by decide) ?_
    refine jr_istore_n (pc := 41) (lv' := [(2, vi 0), (0, vr 11 0), (1, vi v1)]) dX11_findPlaces_41 rfl (by decide) rfl ?_
    exact jr_sub [1, 2, 0] rfl h
set_option maxHeartbeats 4000000 in
set_option maxRecDepth 20000 in
theorem bk_X11_findPlaces_42 {v1 : Int32} {v2 : Int32} {M : jw_Mem} {Q : Int32 → jw_Mem → Prop}  (h : ((32 ≤ v2 → jw_J 2 mX11_findPlaces 36 [(0, vr 11 0), (1, vi (v1 + (-1)))] [] M Q) ∧ (¬ 32 ≤ v2 → (vp_in (((32 * v1) + 32) + v2) 224 ∧ jw_J 2 mX11_findPlaces 66 [(0, vr 11 0), (1, vi v1), (2, vi v2), (3, vi (M 54 0 ((((32 * v1) + 32) + v2) : Int32).toNatClampNeg)), (4, vi 0)] [] M Q)))) : jw_J 2 mX11_findPlaces 42 [(0, vr 11 0), (1, vi v1), (2, vi v2)] [] M Q := by
  refine jr_iload_n (pc := 42) dX11_findPlaces_42 rfl 2 rfl ?_
  refine jr_bipush (pc := 43) (v := 32) dX11_findPlaces_43 (by decide) ?_
  refine jr_icmp_ge (pc := 45) (tgt := 122) dX11_findPlaces_45 (by decide) (fun c => ?_) (fun c => ?_)
  · replace h := h.1 c
    refine jr_iinc (pc := 122) (lv' := [(1, vi (v1 + (-1))), (0, vr 11 0), (2, vi v2)]) (q := 1) dX11_findPlaces_122 rfl (by rfl) (by decide) rfl ?_
    refine jr_goto (pc := 125) (tgt := 36) dX11_findPlaces_125 (by decide) ?_
    exact jr_sub [1, 0] rfl h
  · replace h := h.2 c
    refine jr_aload_n (pc := 48) dX11_findPlaces_48 rfl 0 rfl ?_
    refine jr_get (pc := 49) (v := vr 54 0) fg_X11_68 (by decide) rfl dX11_findPlaces_49 ?_
    refine jr_bipush (pc := 52) (v := 32) dX11_findPlaces_52 (by decide) ?_
    refine jr_iload_n (pc := 54) dX11_findPlaces_54 rfl 1 rfl ?_
    refine jr_imul (pc := 55) dX11_findPlaces_55 ?_
    refine jr_bipush (pc := 56) (v := 32) dX11_findPlaces_56 (by decide) ?_
    refine jr_iadd (pc := 58) dX11_findPlaces_58 ?_
    refine jr_iload_n (pc := 59) dX11_findPlaces_59 rfl 2 rfl ?_
    refine jr_iadd (pc := 60) dX11_findPlaces_60 ?_
    refine jr_iald (pc := 61) ⟨rfl, (by decide)⟩ h.1 dX11_findPlaces_61 ?_
    replace h := h.2
    refine jr_istore_n (pc := 62) (lv' := [(3, vi (M 54 0 ((((32 * v1) + 32) + v2) : Int32).toNatClampNeg)), (0, vr 11 0), (1, vi v1), (2, vi v2)]) dX11_findPlaces_62 rfl (by decide) rfl ?_
    refine jr_iconst (pc := 63) (v := 0) dX11_findPlaces_63 (by decide) ?_
    refine jr_istore (pc := 64) (lv' := [(4, vi 0), (3, vi (M 54 0 ((((32 * v1) + 32) + v2) : Int32).toNatClampNeg)), (0, vr 11 0), (1, vi v1), (2, vi v2)]) dX11_findPlaces_64 (by decide) rfl ?_
    exact jr_sub [2, 3, 4, 1, 0] rfl h
set_option maxHeartbeats 4000000 in
set_option maxRecDepth 20000 in
theorem bk_X11_findPlaces_66 {v1 : Int32} {v2 : Int32} {v3 : Int32} {v4 : Int32} {M : jw_Mem} {Q : Int32 → jw_Mem → Prop}  (h : (((M 11 0 1) ≤ v4 → (vp_in ((32 * v1) + v2) 224 ∧ (∀ M2 : jw_Mem, M2 = jw_up M 54 0 (((32 * v1) + v2) : Int32).toNatClampNeg v3 → jw_J 2 mX11_findPlaces 42 [(0, vr 11 0), (1, vi v1), (2, vi (v2 + 1))] [] M2 Q))) ∧ (¬ (M 11 0 1) ≤ v4 → (jw_M 1 mX11_withPlace [vr 11 0, vi v1, vi v2, vi v4] M (fun x3 M4 => ((x3 ≤ v3 → jw_J 2 mX11_findPlaces 66 [(0, vr 11 0), (1, vi v1), (2, vi v2), (3, vi v3), (4, vi (v4 + 1))] [] M4 Q) ∧ (¬ x3 ≤ v3 → jw_J 2 mX11_findPlaces 66 [(0, vr 11 0), (1, vi v1), (2, vi v2), (3, vi x3), (4, vi (v4 + 1))] [] M4 Q))))))) : jw_J 2 mX11_findPlaces 66 [(0, vr 11 0), (1, vi v1), (2, vi v2), (3, vi v3), (4, vi v4)] [] M Q := by
  refine jr_iload (pc := 66) dX11_findPlaces_66 4 rfl ?_
  refine jr_aload_n (pc := 68) dX11_findPlaces_68 rfl 0 rfl ?_
  refine jr_get (pc := 69) (v := vi (M 11 0 1)) fg_X11_96 (by decide) rfl dX11_findPlaces_69 ?_
  refine jr_icmp_ge (pc := 72) (tgt := 104) dX11_findPlaces_72 (by decide) (fun c => ?_) (fun c => ?_)
  · replace h := h.1 c
    refine jr_aload_n (pc := 104) dX11_findPlaces_104 rfl 0 rfl ?_
    refine jr_get (pc := 105) (v := vr 54 0) fg_X11_68 (by decide) rfl dX11_findPlaces_105 ?_
    refine jr_bipush (pc := 108) (v := 32) dX11_findPlaces_108 (by decide) ?_
    refine jr_iload_n (pc := 110) dX11_findPlaces_110 rfl 1 rfl ?_
    refine jr_imul (pc := 111) dX11_findPlaces_111 ?_
    refine jr_iload_n (pc := 112) dX11_findPlaces_112 rfl 2 rfl ?_
    refine jr_iadd (pc := 113) dX11_findPlaces_113 ?_
    refine jr_iload_n (pc := 114) dX11_findPlaces_114 rfl 3 rfl ?_
    refine jr_iast (pc := 115) ⟨rfl, (by decide)⟩ h.1 dX11_findPlaces_115 ?_
    replace h := h.2
    replace h := h _ rfl
    generalize jw_up M 54 0 (((32 * v1) + v2) : Int32).toNatClampNeg v3 = M2 at h ⊢
    refine jr_iinc (pc := 116) (lv' := [(2, vi (v2 + 1)), (0, vr 11 0), (1, vi v1), (3, vi v3), (4, vi v4)]) (q := 2) dX11_findPlaces_116 rfl (by rfl) (by decide) rfl ?_
    refine jr_goto (pc := 119) (tgt := 42) dX11_findPlaces_119 (by decide) ?_
    exact jr_sub [1, 2, 0] rfl h
  · replace h := h.2 c
    refine jr_aload_n (pc := 75) dX11_findPlaces_75 rfl 0 rfl ?_
    refine jr_iload_n (pc := 76) dX11_findPlaces_76 rfl 1 rfl ?_
    refine jr_iload_n (pc := 77) dX11_findPlaces_77 rfl 2 rfl ?_
    refine jr_iload (pc := 78) dX11_findPlaces_78 4 rfl ?_
    refine jr_callV (pc := 80) (d' := 1) (mt' := mX11_withPlace) (k := 11) (n := 0) (As := [vi v1, vi v2, vi v4]) (st := []) fc_X11_292 (by decide) (by decide) (Nat.le_of_ble_eq_true rfl) rfl dX11_findPlaces_80 (jw_M.mono h (fun x3 M4 h => ?_))
    show jw_J 2 mX11_findPlaces 83 [(0, vr 11 0), (1, vi v1), (2, vi v2), (3, vi v3), (4, vi v4)] [vi x3] M4 Q
    refine jr_istore (pc := 83) (lv' := [(5, vi x3), (0, vr 11 0), (1, vi v1), (2, vi v2), (3, vi v3), (4, vi v4)]) dX11_findPlaces_83 (by decide) rfl ?_
    refine jr_iload (pc := 85) dX11_findPlaces_85 0 rfl ?_
    refine jr_iload_n (pc := 87) dX11_findPlaces_87 rfl 4 rfl ?_
    refine jr_icmp_le (pc := 88) (tgt := 96) dX11_findPlaces_88 (by decide) (fun c => ?_) (fun c => ?_)
    · replace h := h.1 c
      refine jr_iload_n (pc := 96) dX11_findPlaces_96 rfl 4 rfl ?_
      refine jr_istore_n (pc := 97) (lv' := [(3, vi v3), (5, vi x3), (0, vr 11 0), (1, vi v1), (2, vi v2), (4, vi v4)]) dX11_findPlaces_97 rfl (by decide) rfl ?_
      refine jr_iinc (pc := 98) (lv' := [(4, vi (v4 + 1)), (3, vi v3), (5, vi x3), (0, vr 11 0), (1, vi v1), (2, vi v2)]) (q := 5) dX11_findPlaces_98 rfl (by rfl) (by decide) rfl ?_
      refine jr_goto (pc := 101) (tgt := 66) dX11_findPlaces_101 (by decide) ?_
      exact jr_sub [3, 4, 5, 1, 0] rfl h
    · replace h := h.2 c
      refine jr_iload (pc := 91) dX11_findPlaces_91 0 rfl ?_
      refine jr_goto (pc := 93) (tgt := 97) dX11_findPlaces_93 (by decide) ?_
      refine jr_istore_n (pc := 97) (lv' := [(3, vi x3), (5, vi x3), (0, vr 11 0), (1, vi v1), (2, vi v2), (4, vi v4)]) dX11_findPlaces_97 rfl (by decide) rfl ?_
      refine jr_iinc (pc := 98) (lv' := [(4, vi (v4 + 1)), (3, vi x3), (5, vi x3), (0, vr 11 0), (1, vi v1), (2, vi v2)]) (q := 5) dX11_findPlaces_98 rfl (by rfl) (by decide) rfl ?_
      refine jr_goto (pc := 101) (tgt := 66) dX11_findPlaces_101 (by decide) ?_
      exact jr_sub [3, 4, 5, 1, 0] rfl h
theorem dX11_placeOf_0 : decode cX11_placeOf 0 = .ok (.iconst 0, 1) := by decide +kernel
theorem dX11_placeOf_1 : decode cX11_placeOf 1 = .ok (.istore_n 2, 1) := by decide +kernel
theorem dX11_placeOf_2 : decode cX11_placeOf 2 = .ok (.iconst (-1), 1) := by decide +kernel
theorem dX11_placeOf_3 : decode cX11_placeOf 3 = .ok (.istore_n 3, 1) := by decide +kernel
theorem dX11_placeOf_4 : decode cX11_placeOf 4 = .ok (.iconst 0, 1) := by decide +kernel
theorem dX11_placeOf_5 : decode cX11_placeOf 5 = .ok (.istore 4, 2) := by decide +kernel
theorem dX11_placeOf_7 : decode cX11_placeOf 7 = .ok (.iload 4, 2) := by decide +kernel
theorem dX11_placeOf_9 : decode cX11_placeOf 9 = .ok (.iload_n 1, 1) := by decide +kernel
theorem dX11_placeOf_10 : decode cX11_placeOf 10 = .ok (.if_icmp .gt 75, 3) := by decide +kernel
theorem dX11_placeOf_13 : decode cX11_placeOf 13 = .ok (.iconst (-1), 1) := by decide +kernel
theorem dX11_placeOf_14 : decode cX11_placeOf 14 = .ok (.istore_n 3, 1) := by decide +kernel
theorem dX11_placeOf_15 : decode cX11_placeOf 15 = .ok (.aload_n 0, 1) := by decide +kernel
theorem dX11_placeOf_16 : decode cX11_placeOf 16 = .ok (.getfield 96, 3) := by decide +kernel
theorem dX11_placeOf_19 : decode cX11_placeOf 19 = .ok (.iconst 1, 1) := by decide +kernel
theorem dX11_placeOf_20 : decode cX11_placeOf 20 = .ok (.isub, 1) := by decide +kernel
theorem dX11_placeOf_21 : decode cX11_placeOf 21 = .ok (.istore 5, 2) := by decide +kernel
theorem dX11_placeOf_23 : decode cX11_placeOf 23 = .ok (.iload 5, 2) := by decide +kernel
theorem dX11_placeOf_25 : decode cX11_placeOf 25 = .ok (.ifCond .lt 40, 3) := by decide +kernel
theorem dX11_placeOf_28 : decode cX11_placeOf 28 = .ok (.aload_n 0, 1) := by decide +kernel
theorem dX11_placeOf_29 : decode cX11_placeOf 29 = .ok (.iload 4, 2) := by decide +kernel
theorem dX11_placeOf_31 : decode cX11_placeOf 31 = .ok (.iload_n 2, 1) := by decide +kernel
theorem dX11_placeOf_32 : decode cX11_placeOf 32 = .ok (.iload 5, 2) := by decide +kernel
theorem dX11_placeOf_34 : decode cX11_placeOf 34 = .ok (.invokevirtual 292, 3) := by decide +kernel
theorem dX11_placeOf_37 : decode cX11_placeOf 37 = .ok (.aload_n 0, 1) := by decide +kernel
theorem dX11_placeOf_38 : decode cX11_placeOf 38 = .ok (.getfield 68, 3) := by decide +kernel
theorem dX11_placeOf_41 : decode cX11_placeOf 41 = .ok (.bipush 32, 2) := by decide +kernel
theorem dX11_placeOf_43 : decode cX11_placeOf 43 = .ok (.iload 4, 2) := by decide +kernel
theorem dX11_placeOf_45 : decode cX11_placeOf 45 = .ok (.imul, 1) := by decide +kernel
theorem dX11_placeOf_46 : decode cX11_placeOf 46 = .ok (.iload_n 2, 1) := by decide +kernel
theorem dX11_placeOf_47 : decode cX11_placeOf 47 = .ok (.iadd, 1) := by decide +kernel
theorem dX11_placeOf_48 : decode cX11_placeOf 48 = .ok (.iaload, 1) := by decide +kernel
theorem dX11_placeOf_49 : decode cX11_placeOf 49 = .ok (.if_icmp .ne 8, 3) := by decide +kernel
theorem dX11_placeOf_52 : decode cX11_placeOf 52 = .ok (.iload 5, 2) := by decide +kernel
theorem dX11_placeOf_54 : decode cX11_placeOf 54 = .ok (.goto 4, 3) := by decide +kernel
theorem dX11_placeOf_57 : decode cX11_placeOf 57 = .ok (.iload_n 3, 1) := by decide +kernel
theorem dX11_placeOf_58 : decode cX11_placeOf 58 = .ok (.istore_n 3, 1) := by decide +kernel
theorem dX11_placeOf_59 : decode cX11_placeOf 59 = .ok (.iinc 5 (-1), 3) := by decide +kernel
theorem dX11_placeOf_62 : decode cX11_placeOf 62 = .ok (.goto (-39), 3) := by decide +kernel
theorem dX11_placeOf_65 : decode cX11_placeOf 65 = .ok (.iload_n 2, 1) := by decide +kernel
theorem dX11_placeOf_66 : decode cX11_placeOf 66 = .ok (.iload_n 3, 1) := by decide +kernel
theorem dX11_placeOf_67 : decode cX11_placeOf 67 = .ok (.ifCond .ge 7, 3) := by decide +kernel
theorem dX11_placeOf_70 : decode cX11_placeOf 70 = .ok (.iconst 0, 1) := by decide +kernel
theorem dX11_placeOf_71 : decode cX11_placeOf 71 = .ok (.goto 6, 3) := by decide +kernel
theorem dX11_placeOf_74 : decode cX11_placeOf 74 = .ok (.iconst 1, 1) := by decide +kernel
theorem dX11_placeOf_75 : decode cX11_placeOf 75 = .ok (.iload_n 3, 1) := by decide +kernel
theorem dX11_placeOf_76 : decode cX11_placeOf 76 = .ok (.ishl, 1) := by decide +kernel
theorem dX11_placeOf_77 : decode cX11_placeOf 77 = .ok (.ior, 1) := by decide +kernel
theorem dX11_placeOf_78 : decode cX11_placeOf 78 = .ok (.istore_n 2, 1) := by decide +kernel
theorem dX11_placeOf_79 : decode cX11_placeOf 79 = .ok (.iinc 4 1, 3) := by decide +kernel
theorem dX11_placeOf_82 : decode cX11_placeOf 82 = .ok (.goto (-75), 3) := by decide +kernel
theorem dX11_placeOf_85 : decode cX11_placeOf 85 = .ok (.iload_n 3, 1) := by decide +kernel
theorem dX11_placeOf_86 : decode cX11_placeOf 86 = .ok (.ireturn, 1) := by decide +kernel
set_option maxHeartbeats 4000000 in
set_option maxRecDepth 20000 in
theorem en_X11_placeOf {a1 : Int32} {M : jw_Mem} {Q : Int32 → jw_Mem → Prop}  (h : jw_J 2 mX11_placeOf 7 [(0, vr 11 0), (1, vi a1), (2, vi 0), (3, vi (-1)), (4, vi 0)] [] M Q) : jw_M 2 mX11_placeOf [vr 11 0, vi a1] M Q := by
  refine jw_M.of (by decide) (Nat.le_of_ble_eq_true rfl) ?_
  show jw_J 2 mX11_placeOf 0 [(0, vr 11 0), (1, vi a1)] [] M Q
  refine jr_iconst (pc := 0) (v := 0) dX11_placeOf_0 (by decide) ?_
  refine jr_istore_n (pc := 1) (lv' := [(2, vi 0), (0, vr 11 0), (1, vi a1)]) dX11_placeOf_1 rfl (by decide) rfl ?_
  refine jr_iconst (pc := 2) (v := (-1)) dX11_placeOf_2 (by decide) ?_
  refine jr_istore_n (pc := 3) (lv' := [(3, vi (-1)), (2, vi 0), (0, vr 11 0), (1, vi a1)]) dX11_placeOf_3 rfl (by decide) rfl ?_
  refine jr_iconst (pc := 4) (v := 0) dX11_placeOf_4 (by decide) ?_
  refine jr_istore (pc := 5) (lv' := [(4, vi 0), (3, vi (-1)), (2, vi 0), (0, vr 11 0), (1, vi a1)]) dX11_placeOf_5 (by decide) rfl ?_
  exact jr_sub [3, 4, 2, 1, 0] rfl h
set_option maxHeartbeats 4000000 in
set_option maxRecDepth 20000 in
theorem bk_X11_placeOf_7 {v1 : Int32} {v2 : Int32} {v3 : Int32} {v4 : Int32} {M : jw_Mem} {Q : Int32 → jw_Mem → Prop}  (h : ((v1 < v4 → Q v3 M) ∧ (¬ v1 < v4 → jw_J 2 mX11_placeOf 23 [(0, vr 11 0), (1, vi v1), (2, vi v2), (3, vi (-1)), (4, vi v4), (5, vi ((M 11 0 1) - 1))] [] M Q))) : jw_J 2 mX11_placeOf 7 [(0, vr 11 0), (1, vi v1), (2, vi v2), (3, vi v3), (4, vi v4)] [] M Q := by
  refine jr_iload (pc := 7) dX11_placeOf_7 4 rfl ?_
  refine jr_iload_n (pc := 9) dX11_placeOf_9 rfl 1 rfl ?_
  refine jr_icmp_gt (pc := 10) (tgt := 85) dX11_placeOf_10 (by decide) (fun c => ?_) (fun c => ?_)
  · replace h := h.1 c
    refine jr_iload_n (pc := 85) dX11_placeOf_85 rfl 3 rfl ?_
    exact jr_iret (pc := 86) rfl dX11_placeOf_86 h
  · replace h := h.2 c
    refine jr_iconst (pc := 13) (v := (-1)) dX11_placeOf_13 (by decide) ?_
    refine jr_istore_n (pc := 14) (lv' := [(3, vi (-1)), (0, vr 11 0), (1, vi v1), (2, vi v2), (4, vi v4)]) dX11_placeOf_14 rfl (by decide) rfl ?_
    refine jr_aload_n (pc := 15) dX11_placeOf_15 rfl 1 rfl ?_
    refine jr_get (pc := 16) (v := vi (M 11 0 1)) fg_X11_96 (by decide) rfl dX11_placeOf_16 ?_
    refine jr_iconst (pc := 19) (v := 1) dX11_placeOf_19 (by decide) ?_
    refine jr_isub (pc := 20) dX11_placeOf_20 ?_
    refine jr_istore (pc := 21) (lv' := [(5, vi ((M 11 0 1) - 1)), (3, vi (-1)), (0, vr 11 0), (1, vi v1), (2, vi v2), (4, vi v4)]) dX11_placeOf_21 (by decide) rfl ?_
    exact jr_sub [2, 3, 4, 1, 5, 0] rfl h
set_option maxHeartbeats 4000000 in
set_option maxRecDepth 20000 in
theorem bk_X11_placeOf_23 {v1 : Int32} {v2 : Int32} {v3 : Int32} {v4 : Int32} {v5 : Int32} {M : jw_Mem} {Q : Int32 → jw_Mem → Prop}  (h : ((v5 < 0 → ((0 ≤ v3 → jw_J 2 mX11_placeOf 7 [(0, vr 11 0), (1, vi v1), (2, vi (v2 ||| ((1 : Int32) <<< (v3 &&& 31)))), (3, vi v3), (4, vi (v4 + 1))] [] M Q) ∧ (¬ 0 ≤ v3 → jw_J 2 mX11_placeOf 7 [(0, vr 11 0), (1, vi v1), (2, vi (v2 ||| 0)), (3, vi v3), (4, vi (v4 + 1))] [] M Q))) ∧ (¬ v5 < 0 → (jw_M 1 mX11_withPlace [vr 11 0, vi v4, vi v2, vi v5] M (fun x1 M2 => (vp_in ((32 * v4) + v2) 224 ∧ ((¬ x1 = (M2 54 0 (((32 * v4) + v2) : Int32).toNatClampNeg) → jw_J 2 mX11_placeOf 23 [(0, vr 11 0), (1, vi v1), (2, vi v2), (3, vi v3), (4, vi v4), (5, vi (v5 + (-1)))] [] M2 Q) ∧ (x1 = (M2 54 0 (((32 * v4) + v2) : Int32).toNatClampNeg) → jw_J 2 mX11_placeOf 23 [(0, vr 11 0), (1, vi v1), (2, vi v2), (3, vi v5), (4, vi v4), (5, vi (v5 + (-1)))] [] M2 Q)))))))) : jw_J 2 mX11_placeOf 23 [(0, vr 11 0), (1, vi v1), (2, vi v2), (3, vi v3), (4, vi v4), (5, vi v5)] [] M Q := by
  refine jr_iload (pc := 23) dX11_placeOf_23 5 rfl ?_
  refine jr_if_lt (pc := 25) (tgt := 65) dX11_placeOf_25 (by decide) (fun c => ?_) (fun c => ?_)
  · replace h := h.1 c
    refine jr_iload_n (pc := 65) dX11_placeOf_65 rfl 2 rfl ?_
    refine jr_iload_n (pc := 66) dX11_placeOf_66 rfl 3 rfl ?_
    refine jr_if_ge (pc := 67) (tgt := 74) dX11_placeOf_67 (by decide) (fun c => ?_) (fun c => ?_)
    · replace h := h.1 c
      refine jr_iconst (pc := 74) (v := 1) dX11_placeOf_74 (by decide) ?_
      refine jr_iload_n (pc := 75) dX11_placeOf_75 rfl 3 rfl ?_
      refine jr_ishl (pc := 76) dX11_placeOf_76 ?_
      refine jr_ior (pc := 77) dX11_placeOf_77 ?_
      refine jr_istore_n (pc := 78) (lv' := [(2, vi (v2 ||| ((1 : Int32) <<< (v3 &&& 31)))), (0, vr 11 0), (1, vi v1), (3, vi v3), (4, vi v4), (5, vi v5)]) dX11_placeOf_78 rfl (by decide) rfl ?_
      refine jr_iinc (pc := 79) (lv' := [(4, vi (v4 + 1)), (2, vi (v2 ||| ((1 : Int32) <<< (v3 &&& 31)))), (0, vr 11 0), (1, vi v1), (3, vi v3), (5, vi v5)]) (q := 4) dX11_placeOf_79 rfl (by rfl) (by decide) rfl ?_
      refine jr_goto (pc := 82) (tgt := 7) dX11_placeOf_82 (by decide) ?_
      exact jr_sub [2, 3, 1, 4, 0] rfl h
    · replace h := h.2 c
      refine jr_iconst (pc := 70) (v := 0) dX11_placeOf_70 (by decide) ?_
      refine jr_goto (pc := 71) (tgt := 77) dX11_placeOf_71 (by decide) ?_
      refine jr_ior (pc := 77) dX11_placeOf_77 ?_
      refine jr_istore_n (pc := 78) (lv' := [(2, vi (v2 ||| 0)), (0, vr 11 0), (1, vi v1), (3, vi v3), (4, vi v4), (5, vi v5)]) dX11_placeOf_78 rfl (by decide) rfl ?_
      refine jr_iinc (pc := 79) (lv' := [(4, vi (v4 + 1)), (2, vi (v2 ||| 0)), (0, vr 11 0), (1, vi v1), (3, vi v3), (5, vi v5)]) (q := 4) dX11_placeOf_79 rfl (by rfl) (by decide) rfl ?_
      refine jr_goto (pc := 82) (tgt := 7) dX11_placeOf_82 (by decide) ?_
      exact jr_sub [2, 3, 1, 4, 0] rfl h
  · replace h := h.2 c
    refine jr_aload_n (pc := 28) dX11_placeOf_28 rfl 0 rfl ?_
    refine jr_iload (pc := 29) dX11_placeOf_29 4 rfl ?_
    refine jr_iload_n (pc := 31) dX11_placeOf_31 rfl 2 rfl ?_
    refine jr_iload (pc := 32) dX11_placeOf_32 5 rfl ?_
    refine jr_callV (pc := 34) (d' := 1) (mt' := mX11_withPlace) (k := 11) (n := 0) (As := [vi v4, vi v2, vi v5]) (st := []) fc_X11_292 (by decide) (by decide) (Nat.le_of_ble_eq_true rfl) rfl dX11_placeOf_34 (jw_M.mono h (fun x1 M2 h => ?_))
    show jw_J 2 mX11_placeOf 37 [(0, vr 11 0), (1, vi v1), (2, vi v2), (3, vi v3), (4, vi v4), (5, vi v5)] [vi x1] M2 Q
    refine jr_aload_n (pc := 37) dX11_placeOf_37 rfl 0 rfl ?_
    refine jr_get (pc := 38) (v := vr 54 0) fg_X11_68 (by decide) rfl dX11_placeOf_38 ?_
    refine jr_bipush (pc := 41) (v := 32) dX11_placeOf_41 (by decide) ?_
    refine jr_iload (pc := 43) dX11_placeOf_43 4 rfl ?_
    refine jr_imul (pc := 45) dX11_placeOf_45 ?_
    refine jr_iload_n (pc := 46) dX11_placeOf_46 rfl 2 rfl ?_
    refine jr_iadd (pc := 47) dX11_placeOf_47 ?_
    refine jr_iald (pc := 48) ⟨rfl, (by decide)⟩ h.1 dX11_placeOf_48 ?_
    replace h := h.2
    refine jr_icmp_ne (pc := 49) (tgt := 57) dX11_placeOf_49 (by decide) (fun c => ?_) (fun c => ?_)
    · replace h := h.1 c
      refine jr_iload_n (pc := 57) dX11_placeOf_57 rfl 3 rfl ?_
      refine jr_istore_n (pc := 58) (lv' := [(3, vi v3), (0, vr 11 0), (1, vi v1), (2, vi v2), (4, vi v4), (5, vi v5)]) dX11_placeOf_58 rfl (by decide) rfl ?_
      refine jr_iinc (pc := 59) (lv' := [(5, vi (v5 + (-1))), (3, vi v3), (0, vr 11 0), (1, vi v1), (2, vi v2), (4, vi v4)]) (q := 5) dX11_placeOf_59 rfl (by rfl) (by decide) rfl ?_
      refine jr_goto (pc := 62) (tgt := 23) dX11_placeOf_62 (by decide) ?_
      exact jr_sub [2, 3, 4, 1, 5, 0] rfl h
    · replace h := h.2 c
      refine jr_iload (pc := 52) dX11_placeOf_52 5 rfl ?_
      refine jr_goto (pc := 54) (tgt := 58) dX11_placeOf_54 (by decide) ?_
      refine jr_istore_n (pc := 58) (lv' := [(3, vi v5), (0, vr 11 0), (1, vi v1), (2, vi v2), (4, vi v4), (5, vi v5)]) dX11_placeOf_58 rfl (by decide) rfl ?_
      refine jr_iinc (pc := 59) (lv' := [(5, vi (v5 + (-1))), (3, vi v5), (0, vr 11 0), (1, vi v1), (2, vi v2), (4, vi v4)]) (q := 5) dX11_placeOf_59 rfl (by rfl) (by decide) rfl ?_
      refine jr_goto (pc := 62) (tgt := 23) dX11_placeOf_62 (by decide) ?_
      exact jr_sub [2, 3, 4, 1, 5, 0] rfl h
theorem dX11_places_0 : decode cX11_places 0 = .ok (.iload_n 1, 1) := by decide +kernel
theorem dX11_places_1 : decode cX11_places 1 = .ok (.i2l, 1) := by decide +kernel
theorem dX11_places_2 : decode cX11_places 2 = .ok (.ldc2_w 296, 3) := by decide +kernel
theorem dX11_places_5 : decode cX11_places 5 = .ok (.aload_n 0, 1) := by decide +kernel
theorem dX11_places_6 : decode cX11_places 6 = .ok (.getfield 103, 3) := by decide +kernel
theorem dX11_places_9 : decode cX11_places 9 = .ok (.iconst 1, 1) := by decide +kernel
theorem dX11_places_10 : decode cX11_places 10 = .ok (.isub, 1) := by decide +kernel
theorem dX11_places_11 : decode cX11_places 11 = .ok (.i2l, 1) := by decide +kernel
theorem dX11_places_12 : decode cX11_places 12 = .ok (.invokestatic 99, 3) := by decide +kernel
theorem dX11_places_15 : decode cX11_places 15 = .ok (.ifCond .ne 6, 3) := by decide +kernel
theorem dX11_places_18 : decode cX11_places 18 = .ok (.ldc 241, 2) := by decide +kernel
theorem dX11_places_20 : decode cX11_places 20 = .ok (.ireturn, 1) := by decide +kernel
theorem dX11_places_21 : decode cX11_places 21 = .ok (.aload_n 0, 1) := by decide +kernel
theorem dX11_places_22 : decode cX11_places 22 = .ok (.invokevirtual 298, 3) := by decide +kernel
theorem dX11_places_25 : decode cX11_places 25 = .ok (.iload_n 1, 1) := by decide +kernel
theorem dX11_places_26 : decode cX11_places 26 = .ok (.iconst (-1), 1) := by decide +kernel
theorem dX11_places_27 : decode cX11_places 27 = .ok (.if_icmp .ne 16, 3) := by decide +kernel
theorem dX11_places_30 : decode cX11_places 30 = .ok (.aload_n 0, 1) := by decide +kernel
theorem dX11_places_31 : decode cX11_places 31 = .ok (.getfield 68, 3) := by decide +kernel
theorem dX11_places_34 : decode cX11_places 34 = .ok (.iconst 0, 1) := by decide +kernel
theorem dX11_places_35 : decode cX11_places 35 = .ok (.iaload, 1) := by decide +kernel
theorem dX11_places_36 : decode cX11_places 36 = .ok (.sipush 1000, 3) := by decide +kernel
theorem dX11_places_39 : decode cX11_places 39 = .ok (.idiv, 1) := by decide +kernel
theorem dX11_places_40 : decode cX11_places 40 = .ok (.goto 27, 3) := by decide +kernel
theorem dX11_places_43 : decode cX11_places 43 = .ok (.iload_n 1, 1) := by decide +kernel
theorem dX11_places_44 : decode cX11_places 44 = .ok (.bipush (-2), 2) := by decide +kernel
theorem dX11_places_46 : decode cX11_places 46 = .ok (.if_icmp .ne 16, 3) := by decide +kernel
theorem dX11_places_49 : decode cX11_places 49 = .ok (.aload_n 0, 1) := by decide +kernel
theorem dX11_places_50 : decode cX11_places 50 = .ok (.getfield 68, 3) := by decide +kernel
theorem dX11_places_53 : decode cX11_places 53 = .ok (.iconst 0, 1) := by decide +kernel
theorem dX11_places_54 : decode cX11_places 54 = .ok (.iaload, 1) := by decide +kernel
theorem dX11_places_55 : decode cX11_places 55 = .ok (.sipush 1000, 3) := by decide +kernel
theorem dX11_places_58 : decode cX11_places 58 = .ok (.irem, 1) := by decide +kernel
theorem dX11_places_59 : decode cX11_places 59 = .ok (.goto 8, 3) := by decide +kernel
theorem dX11_places_62 : decode cX11_places 62 = .ok (.aload_n 0, 1) := by decide +kernel
theorem dX11_places_63 : decode cX11_places 63 = .ok (.iload_n 1, 1) := by decide +kernel
theorem dX11_places_64 : decode cX11_places 64 = .ok (.invokevirtual 301, 3) := by decide +kernel
theorem dX11_places_67 : decode cX11_places 67 = .ok (.ireturn, 1) := by decide +kernel
set_option maxHeartbeats 4000000 in
set_option maxRecDepth 20000 in
theorem en_X11_places {a1 : Int32} {M : jw_Mem} {Q : Int32 → jw_Mem → Prop}  (h : (jw_M 0 mX11_in [vl (a1.toInt64), vl (-2), vl (((M 11 0 3) - 1).toInt64)] M (fun x1 M2 => ((¬ x1 = 0 → (jw_M 2 mX11_findPlaces [vr 11 0] M2 (fun x3 M4 => ((¬ a1 = (-1) → ((¬ a1 = (-2) → (jw_M 2 mX11_placeOf [vr 11 0, vi a1] M4 (fun x5 M6 => Q x5 M6))) ∧ (a1 = (-2) → (vp_in 0 224 ∧ Q ((M4 54 0 (0 : Int32).toNatClampNeg) - (M4 54 0 (0 : Int32).toNatClampNeg) / 1000 * 1000) M4)))) ∧ (a1 = (-1) → (vp_in 0 224 ∧ Q ((M4 54 0 (0 : Int32).toNatClampNeg) / 1000) M4)))))) ∧ (x1 = 0 → Q (-1000000001) M2))))) : jw_M 3 mX11_places [vr 11 0, vi a1] M Q := by
  refine jw_M.of (by decide) (Nat.le_of_ble_eq_true rfl) ?_
  show jw_J 3 mX11_places 0 [(0, vr 11 0), (1, vi a1)] [] M Q
  refine jr_iload_n (pc := 0) dX11_places_0 rfl 1 rfl ?_
  refine jr_i2l (pc := 1) dX11_places_1 ?_
  refine jr_ldc2 (pc := 2) fk_X11_296 dX11_places_2 ?_
  refine jr_aload_n (pc := 5) dX11_places_5 rfl 0 rfl ?_
  refine jr_get (pc := 6) (v := vi (M 11 0 3)) fg_X11_103 (by decide) rfl dX11_places_6 ?_
  refine jr_iconst (pc := 9) (v := 1) dX11_places_9 (by decide) ?_
  refine jr_isub (pc := 10) dX11_places_10 ?_
  refine jr_i2l (pc := 11) dX11_places_11 ?_
  refine jr_callS (pc := 12) (d' := 0) (mt' := mX11_in) (As := [vl (a1.toInt64), vl (-2), vl (((M 11 0 3) - 1).toInt64)]) (st := []) fc_X11_99 (by decide) (Nat.le_of_ble_eq_true rfl) rfl dX11_places_12 (jw_M.mono h (fun x1 M2 h => ?_))
  show jw_J 3 mX11_places 15 [(0, vr 11 0), (1, vi a1)] [vi x1] M2 Q
  refine jr_if_ne (pc := 15) (tgt := 21) dX11_places_15 (by decide) (fun c => ?_) (fun c => ?_)
  · replace h := h.1 c
    refine jr_aload_n (pc := 21) dX11_places_21 rfl 0 rfl ?_
    refine jr_callV (pc := 22) (d' := 2) (mt' := mX11_findPlaces) (k := 11) (n := 0) (As := []) (st := []) fc_X11_298 (by decide) (by decide) (Nat.le_of_ble_eq_true rfl) rfl dX11_places_22 (jw_M.mono h (fun x3 M4 h => ?_))
    show jw_J 3 mX11_places 25 [(0, vr 11 0), (1, vi a1)] [] M4 Q
    refine jr_iload_n (pc := 25) dX11_places_25 rfl 1 rfl ?_
    refine jr_iconst (pc := 26) (v := (-1)) dX11_places_26 (by decide) ?_
    refine jr_icmp_ne (pc := 27) (tgt := 43) dX11_places_27 (by decide) (fun c => ?_) (fun c => ?_)
    · replace h := h.1 c
      refine jr_iload_n (pc := 43) dX11_places_43 rfl 1 rfl ?_
      refine jr_bipush (pc := 44) (v := (-2)) dX11_places_44 (by decide) ?_
      refine jr_icmp_ne (pc := 46) (tgt := 62) dX11_places_46 (by decide) (fun c => ?_) (fun c => ?_)
      · replace h := h.1 c
        refine jr_aload_n (pc := 62) dX11_places_62 rfl 0 rfl ?_
        refine jr_iload_n (pc := 63) dX11_places_63 rfl 1 rfl ?_
        refine jr_callV (pc := 64) (d' := 2) (mt' := mX11_placeOf) (k := 11) (n := 0) (As := [vi a1]) (st := []) fc_X11_301 (by decide) (by decide) (Nat.le_of_ble_eq_true rfl) rfl dX11_places_64 (jw_M.mono h (fun x5 M6 h => ?_))
        show jw_J 3 mX11_places 67 [(0, vr 11 0), (1, vi a1)] [vi x5] M6 Q
        exact jr_iret (pc := 67) rfl dX11_places_67 h
      · replace h := h.2 c
        refine jr_aload_n (pc := 49) dX11_places_49 rfl 0 rfl ?_
        refine jr_get (pc := 50) (v := vr 54 0) fg_X11_68 (by decide) rfl dX11_places_50 ?_
        refine jr_iconst (pc := 53) (v := 0) dX11_places_53 (by decide) ?_
        refine jr_iald (pc := 54) ⟨rfl, (by decide)⟩ h.1 dX11_places_54 ?_
        replace h := h.2
        refine jr_sipush (pc := 55) (v := 1000) dX11_places_55 (by decide) ?_
        refine jr_irem (pc := 58) dX11_places_58 (by decide) ?_
        refine jr_goto (pc := 59) (tgt := 67) dX11_places_59 (by decide) ?_
        exact jr_iret (pc := 67) rfl dX11_places_67 h
    · replace h := h.2 c
      refine jr_aload_n (pc := 30) dX11_places_30 rfl 0 rfl ?_
      refine jr_get (pc := 31) (v := vr 54 0) fg_X11_68 (by decide) rfl dX11_places_31 ?_
      refine jr_iconst (pc := 34) (v := 0) dX11_places_34 (by decide) ?_
      refine jr_iald (pc := 35) ⟨rfl, (by decide)⟩ h.1 dX11_places_35 ?_
      replace h := h.2
      refine jr_sipush (pc := 36) (v := 1000) dX11_places_36 (by decide) ?_
      refine jr_idiv (pc := 39) dX11_places_39 (by decide) ?_
      refine jr_goto (pc := 40) (tgt := 67) dX11_places_40 (by decide) ?_
      exact jr_iret (pc := 67) rfl dX11_places_67 h
  · replace h := h.2 c
    refine jr_ldc (pc := 18) fk_X11_241 dX11_places_18 ?_
    exact jr_iret (pc := 20) rfl dX11_places_20 h
theorem dX11_swaps_0 : decode cX11_swaps 0 = .ok (.iconst 0, 1) := by decide +kernel
theorem dX11_swaps_1 : decode cX11_swaps 1 = .ok (.istore_n 2, 1) := by decide +kernel
theorem dX11_swaps_2 : decode cX11_swaps 2 = .ok (.iconst 0, 1) := by decide +kernel
theorem dX11_swaps_3 : decode cX11_swaps 3 = .ok (.istore_n 3, 1) := by decide +kernel
theorem dX11_swaps_4 : decode cX11_swaps 4 = .ok (.iload_n 3, 1) := by decide +kernel
theorem dX11_swaps_5 : decode cX11_swaps 5 = .ok (.aload_n 0, 1) := by decide +kernel
theorem dX11_swaps_6 : decode cX11_swaps 6 = .ok (.getfield 103, 3) := by decide +kernel
theorem dX11_swaps_9 : decode cX11_swaps 9 = .ok (.if_icmp .ge 170, 3) := by decide +kernel
theorem dX11_swaps_12 : decode cX11_swaps 12 = .ok (.iload_n 3, 1) := by decide +kernel
theorem dX11_swaps_13 : decode cX11_swaps 13 = .ok (.iconst 1, 1) := by decide +kernel
theorem dX11_swaps_14 : decode cX11_swaps 14 = .ok (.iadd, 1) := by decide +kernel
theorem dX11_swaps_15 : decode cX11_swaps 15 = .ok (.istore 4, 2) := by decide +kernel
theorem dX11_swaps_17 : decode cX11_swaps 17 = .ok (.iload 4, 2) := by decide +kernel
theorem dX11_swaps_19 : decode cX11_swaps 19 = .ok (.aload_n 0, 1) := by decide +kernel
theorem dX11_swaps_20 : decode cX11_swaps 20 = .ok (.getfield 103, 3) := by decide +kernel
theorem dX11_swaps_23 : decode cX11_swaps 23 = .ok (.if_icmp .ge 150, 3) := by decide +kernel
theorem dX11_swaps_26 : decode cX11_swaps 26 = .ok (.aload_n 0, 1) := by decide +kernel
theorem dX11_swaps_27 : decode cX11_swaps 27 = .ok (.iload_n 3, 1) := by decide +kernel
theorem dX11_swaps_28 : decode cX11_swaps 28 = .ok (.invokevirtual 211, 3) := by decide +kernel
theorem dX11_swaps_31 : decode cX11_swaps 31 = .ok (.ifCond .eq 16, 3) := by decide +kernel
theorem dX11_swaps_34 : decode cX11_swaps 34 = .ok (.aload_n 0, 1) := by decide +kernel
theorem dX11_swaps_35 : decode cX11_swaps 35 = .ok (.iload 4, 2) := by decide +kernel
theorem dX11_swaps_37 : decode cX11_swaps 37 = .ok (.invokevirtual 211, 3) := by decide +kernel
theorem dX11_swaps_40 : decode cX11_swaps 40 = .ok (.ifCond .eq 7, 3) := by decide +kernel
theorem dX11_swaps_43 : decode cX11_swaps 43 = .ok (.iconst 1, 1) := by decide +kernel
theorem dX11_swaps_44 : decode cX11_swaps 44 = .ok (.goto 4, 3) := by decide +kernel
theorem dX11_swaps_47 : decode cX11_swaps 47 = .ok (.iconst 0, 1) := by decide +kernel
theorem dX11_swaps_48 : decode cX11_swaps 48 = .ok (.istore 5, 2) := by decide +kernel
theorem dX11_swaps_50 : decode cX11_swaps 50 = .ok (.iload 5, 2) := by decide +kernel
theorem dX11_swaps_52 : decode cX11_swaps 52 = .ok (.ifCond .eq 49, 3) := by decide +kernel
theorem dX11_swaps_55 : decode cX11_swaps 55 = .ok (.aload_n 0, 1) := by decide +kernel
theorem dX11_swaps_56 : decode cX11_swaps 56 = .ok (.getfield 7, 3) := by decide +kernel
theorem dX11_swaps_59 : decode cX11_swaps 59 = .ok (.aload_n 0, 1) := by decide +kernel
theorem dX11_swaps_60 : decode cX11_swaps 60 = .ok (.getfield 31, 3) := by decide +kernel
theorem dX11_swaps_63 : decode cX11_swaps 63 = .ok (.iload 4, 2) := by decide +kernel
theorem dX11_swaps_65 : decode cX11_swaps 65 = .ok (.iaload, 1) := by decide +kernel
theorem dX11_swaps_66 : decode cX11_swaps 66 = .ok (.iaload, 1) := by decide +kernel
theorem dX11_swaps_67 : decode cX11_swaps 67 = .ok (.aload_n 0, 1) := by decide +kernel
theorem dX11_swaps_68 : decode cX11_swaps 68 = .ok (.getfield 19, 3) := by decide +kernel
theorem dX11_swaps_71 : decode cX11_swaps 71 = .ok (.iload_n 3, 1) := by decide +kernel
theorem dX11_swaps_72 : decode cX11_swaps 72 = .ok (.iaload, 1) := by decide +kernel
theorem dX11_swaps_73 : decode cX11_swaps 73 = .ok (.if_icmp .lt 28, 3) := by decide +kernel
theorem dX11_swaps_76 : decode cX11_swaps 76 = .ok (.aload_n 0, 1) := by decide +kernel
theorem dX11_swaps_77 : decode cX11_swaps 77 = .ok (.getfield 7, 3) := by decide +kernel
theorem dX11_swaps_80 : decode cX11_swaps 80 = .ok (.aload_n 0, 1) := by decide +kernel
theorem dX11_swaps_81 : decode cX11_swaps 81 = .ok (.getfield 31, 3) := by decide +kernel
theorem dX11_swaps_84 : decode cX11_swaps 84 = .ok (.iload_n 3, 1) := by decide +kernel
theorem dX11_swaps_85 : decode cX11_swaps 85 = .ok (.iaload, 1) := by decide +kernel
theorem dX11_swaps_86 : decode cX11_swaps 86 = .ok (.iaload, 1) := by decide +kernel
theorem dX11_swaps_87 : decode cX11_swaps 87 = .ok (.aload_n 0, 1) := by decide +kernel
theorem dX11_swaps_88 : decode cX11_swaps 88 = .ok (.getfield 19, 3) := by decide +kernel
theorem dX11_swaps_91 : decode cX11_swaps 91 = .ok (.iload 4, 2) := by decide +kernel
theorem dX11_swaps_93 : decode cX11_swaps 93 = .ok (.iaload, 1) := by decide +kernel
theorem dX11_swaps_94 : decode cX11_swaps 94 = .ok (.if_icmp .lt 7, 3) := by decide +kernel
theorem dX11_swaps_97 : decode cX11_swaps 97 = .ok (.iconst 1, 1) := by decide +kernel
theorem dX11_swaps_98 : decode cX11_swaps 98 = .ok (.goto 4, 3) := by decide +kernel
theorem dX11_swaps_101 : decode cX11_swaps 101 = .ok (.iconst 0, 1) := by decide +kernel
theorem dX11_swaps_102 : decode cX11_swaps 102 = .ok (.istore 6, 2) := by decide +kernel
theorem dX11_swaps_104 : decode cX11_swaps 104 = .ok (.iload 6, 2) := by decide +kernel
theorem dX11_swaps_106 : decode cX11_swaps 106 = .ok (.ifCond .eq 61, 3) := by decide +kernel
theorem dX11_swaps_109 : decode cX11_swaps 109 = .ok (.aload_n 0, 1) := by decide +kernel
theorem dX11_swaps_110 : decode cX11_swaps 110 = .ok (.getfield 7, 3) := by decide +kernel
theorem dX11_swaps_113 : decode cX11_swaps 113 = .ok (.aload_n 0, 1) := by decide +kernel
theorem dX11_swaps_114 : decode cX11_swaps 114 = .ok (.getfield 31, 3) := by decide +kernel
theorem dX11_swaps_117 : decode cX11_swaps 117 = .ok (.iload_n 3, 1) := by decide +kernel
theorem dX11_swaps_118 : decode cX11_swaps 118 = .ok (.iaload, 1) := by decide +kernel
theorem dX11_swaps_119 : decode cX11_swaps 119 = .ok (.iaload, 1) := by decide +kernel
theorem dX11_swaps_120 : decode cX11_swaps 120 = .ok (.aload_n 0, 1) := by decide +kernel
theorem dX11_swaps_121 : decode cX11_swaps 121 = .ok (.getfield 19, 3) := by decide +kernel
theorem dX11_swaps_124 : decode cX11_swaps 124 = .ok (.iload_n 3, 1) := by decide +kernel
theorem dX11_swaps_125 : decode cX11_swaps 125 = .ok (.iaload, 1) := by decide +kernel
theorem dX11_swaps_126 : decode cX11_swaps 126 = .ok (.if_icmp .lt 25, 3) := by decide +kernel
theorem dX11_swaps_129 : decode cX11_swaps 129 = .ok (.aload_n 0, 1) := by decide +kernel
theorem dX11_swaps_130 : decode cX11_swaps 130 = .ok (.getfield 7, 3) := by decide +kernel
theorem dX11_swaps_133 : decode cX11_swaps 133 = .ok (.aload_n 0, 1) := by decide +kernel
theorem dX11_swaps_134 : decode cX11_swaps 134 = .ok (.getfield 31, 3) := by decide +kernel
theorem dX11_swaps_137 : decode cX11_swaps 137 = .ok (.iload 4, 2) := by decide +kernel
theorem dX11_swaps_139 : decode cX11_swaps 139 = .ok (.iaload, 1) := by decide +kernel
theorem dX11_swaps_140 : decode cX11_swaps 140 = .ok (.iaload, 1) := by decide +kernel
theorem dX11_swaps_141 : decode cX11_swaps 141 = .ok (.aload_n 0, 1) := by decide +kernel
theorem dX11_swaps_142 : decode cX11_swaps 142 = .ok (.getfield 19, 3) := by decide +kernel
theorem dX11_swaps_145 : decode cX11_swaps 145 = .ok (.iload 4, 2) := by decide +kernel
theorem dX11_swaps_147 : decode cX11_swaps 147 = .ok (.iaload, 1) := by decide +kernel
theorem dX11_swaps_148 : decode cX11_swaps 148 = .ok (.if_icmp .ge 19, 3) := by decide +kernel
theorem dX11_swaps_151 : decode cX11_swaps 151 = .ok (.iload_n 2, 1) := by decide +kernel
theorem dX11_swaps_152 : decode cX11_swaps 152 = .ok (.iload_n 1, 1) := by decide +kernel
theorem dX11_swaps_153 : decode cX11_swaps 153 = .ok (.if_icmp .ne 11, 3) := by decide +kernel
theorem dX11_swaps_156 : decode cX11_swaps 156 = .ok (.bipush 100, 2) := by decide +kernel
theorem dX11_swaps_158 : decode cX11_swaps 158 = .ok (.iload_n 3, 1) := by decide +kernel
theorem dX11_swaps_159 : decode cX11_swaps 159 = .ok (.imul, 1) := by decide +kernel
theorem dX11_swaps_160 : decode cX11_swaps 160 = .ok (.iload 4, 2) := by decide +kernel
theorem dX11_swaps_162 : decode cX11_swaps 162 = .ok (.iadd, 1) := by decide +kernel
theorem dX11_swaps_163 : decode cX11_swaps 163 = .ok (.ireturn, 1) := by decide +kernel
theorem dX11_swaps_164 : decode cX11_swaps 164 = .ok (.iinc 2 1, 3) := by decide +kernel
theorem dX11_swaps_167 : decode cX11_swaps 167 = .ok (.iinc 4 1, 3) := by decide +kernel
theorem dX11_swaps_170 : decode cX11_swaps 170 = .ok (.goto (-153), 3) := by decide +kernel
theorem dX11_swaps_173 : decode cX11_swaps 173 = .ok (.iinc 3 1, 3) := by decide +kernel
theorem dX11_swaps_176 : decode cX11_swaps 176 = .ok (.goto (-172), 3) := by decide +kernel
theorem dX11_swaps_179 : decode cX11_swaps 179 = .ok (.iload_n 1, 1) := by decide +kernel
theorem dX11_swaps_180 : decode cX11_swaps 180 = .ok (.iconst (-1), 1) := by decide +kernel
theorem dX11_swaps_181 : decode cX11_swaps 181 = .ok (.if_icmp .ne 7, 3) := by decide +kernel
theorem dX11_swaps_184 : decode cX11_swaps 184 = .ok (.iload_n 2, 1) := by decide +kernel
theorem dX11_swaps_185 : decode cX11_swaps 185 = .ok (.goto 4, 3) := by decide +kernel
theorem dX11_swaps_188 : decode cX11_swaps 188 = .ok (.iconst (-1), 1) := by decide +kernel
theorem dX11_swaps_189 : decode cX11_swaps 189 = .ok (.ireturn, 1) := by decide +kernel
set_option maxHeartbeats 4000000 in
set_option maxRecDepth 20000 in
theorem en_X11_swaps {a1 : Int32} {M : jw_Mem} {Q : Int32 → jw_Mem → Prop}  (h : jw_J 1 mX11_swaps 4 [(0, vr 11 0), (1, vi a1), (2, vi 0), (3, vi 0)] [] M Q) : jw_M 1 mX11_swaps [vr 11 0, vi a1] M Q := by
  refine jw_M.of (by decide) (Nat.le_of_ble_eq_true rfl) ?_
  show jw_J 1 mX11_swaps 0 [(0, vr 11 0), (1, vi a1)] [] M Q
  refine jr_iconst (pc := 0) (v := 0) dX11_swaps_0 (by decide) ?_
  refine jr_istore_n (pc := 1) (lv' := [(2, vi 0), (0, vr 11 0), (1, vi a1)]) dX11_swaps_1 rfl (by decide) rfl ?_
  refine jr_iconst (pc := 2) (v := 0) dX11_swaps_2 (by decide) ?_
  refine jr_istore_n (pc := 3) (lv' := [(3, vi 0), (2, vi 0), (0, vr 11 0), (1, vi a1)]) dX11_swaps_3 rfl (by decide) rfl ?_
  exact jr_sub [2, 3, 1, 0] rfl h
set_option maxHeartbeats 4000000 in
set_option maxRecDepth 20000 in
theorem bk_X11_swaps_4 {v1 : Int32} {v2 : Int32} {v3 : Int32} {M : jw_Mem} {Q : Int32 → jw_Mem → Prop}  (h : (((M 11 0 3) ≤ v3 → ((¬ v1 = (-1) → Q (-1) M) ∧ (v1 = (-1) → Q v2 M))) ∧ (¬ (M 11 0 3) ≤ v3 → jw_J 1 mX11_swaps 17 [(0, vr 11 0), (1, vi v1), (2, vi v2), (3, vi v3), (4, vi (v3 + 1))] [] M Q))) : jw_J 1 mX11_swaps 4 [(0, vr 11 0), (1, vi v1), (2, vi v2), (3, vi v3)] [] M Q := by
  refine jr_iload_n (pc := 4) dX11_swaps_4 rfl 3 rfl ?_
  refine jr_aload_n (pc := 5) dX11_swaps_5 rfl 0 rfl ?_
  refine jr_get (pc := 6) (v := vi (M 11 0 3)) fg_X11_103 (by decide) rfl dX11_swaps_6 ?_
  refine jr_icmp_ge (pc := 9) (tgt := 179) dX11_swaps_9 (by decide) (fun c => ?_) (fun c => ?_)
  · replace h := h.1 c
    refine jr_iload_n (pc := 179) dX11_swaps_179 rfl 1 rfl ?_
    refine jr_iconst (pc := 180) (v := (-1)) dX11_swaps_180 (by decide) ?_
    refine jr_icmp_ne (pc := 181) (tgt := 188) dX11_swaps_181 (by decide) (fun c => ?_) (fun c => ?_)
    · replace h := h.1 c
      refine jr_iconst (pc := 188) (v := (-1)) dX11_swaps_188 (by decide) ?_
      exact jr_iret (pc := 189) rfl dX11_swaps_189 h
    · replace h := h.2 c
      refine jr_iload_n (pc := 184) dX11_swaps_184 rfl 2 rfl ?_
      refine jr_goto (pc := 185) (tgt := 189) dX11_swaps_185 (by decide) ?_
      exact jr_iret (pc := 189) rfl dX11_swaps_189 h
  · replace h := h.2 c
    refine jr_iload_n (pc := 12) dX11_swaps_12 rfl 3 rfl ?_
    refine jr_iconst (pc := 13) (v := 1) dX11_swaps_13 (by decide) ?_
    refine jr_iadd (pc := 14) dX11_swaps_14 ?_
    refine jr_istore (pc := 15) (lv' := [(4, vi (v3 + 1)), (0, vr 11 0), (1, vi v1), (2, vi v2), (3, vi v3)]) dX11_swaps_15 (by decide) rfl ?_
    exact jr_sub [1, 2, 3, 4, 0] rfl h
set_option maxHeartbeats 4000000 in
set_option maxRecDepth 20000 in
theorem bk_X11_swaps_17 {v1 : Int32} {v2 : Int32} {v3 : Int32} {v4 : Int32} {M : jw_Mem} {Q : Int32 → jw_Mem → Prop}  (h : (((M 11 0 3) ≤ v4 → jw_J 1 mX11_swaps 4 [(0, vr 11 0), (1, vi v1), (2, vi v2), (3, vi (v3 + 1))] [] M Q) ∧ (¬ (M 11 0 3) ≤ v4 → (jw_M 0 mX11_stands [vr 11 0, vi v3] M (fun x1 M2 => ((x1 = 0 → jw_J 1 mX11_swaps 17 [(0, vr 11 0), (1, vi v1), (2, vi v2), (3, vi v3), (4, vi (v4 + 1))] [] M2 Q) ∧ (¬ x1 = 0 → (jw_M 0 mX11_stands [vr 11 0, vi v4] M2 (fun x3 M4 => ((x3 = 0 → jw_J 1 mX11_swaps 17 [(0, vr 11 0), (1, vi v1), (2, vi v2), (3, vi v3), (4, vi (v4 + 1))] [] M4 Q) ∧ (¬ x3 = 0 → (vp_in v4 33 ∧ (vp_in (M4 43 0 v4.toNatClampNeg) 5 ∧ (vp_in v3 6 ∧ (((M4 36 0 ((M4 43 0 v4.toNatClampNeg) : Int32).toNatClampNeg) < (M4 39 0 v3.toNatClampNeg) → jw_J 1 mX11_swaps 17 [(0, vr 11 0), (1, vi v1), (2, vi v2), (3, vi v3), (4, vi (v4 + 1))] [] M4 Q) ∧ (¬ (M4 36 0 ((M4 43 0 v4.toNatClampNeg) : Int32).toNatClampNeg) < (M4 39 0 v3.toNatClampNeg) → (vp_in v3 33 ∧ (vp_in (M4 43 0 v3.toNatClampNeg) 5 ∧ (vp_in v4 6 ∧ (((M4 36 0 ((M4 43 0 v3.toNatClampNeg) : Int32).toNatClampNeg) < (M4 39 0 v4.toNatClampNeg) → jw_J 1 mX11_swaps 17 [(0, vr 11 0), (1, vi v1), (2, vi v2), (3, vi v3), (4, vi (v4 + 1))] [] M4 Q) ∧ (¬ (M4 36 0 ((M4 43 0 v3.toNatClampNeg) : Int32).toNatClampNeg) < (M4 39 0 v4.toNatClampNeg) → (vp_in v3 33 ∧ (vp_in (M4 43 0 v3.toNatClampNeg) 5 ∧ (vp_in v3 6 ∧ (((M4 36 0 ((M4 43 0 v3.toNatClampNeg) : Int32).toNatClampNeg) < (M4 39 0 v3.toNatClampNeg) → ((¬ v2 = v1 → jw_J 1 mX11_swaps 17 [(0, vr 11 0), (1, vi v1), (2, vi (v2 + 1)), (3, vi v3), (4, vi (v4 + 1))] [] M4 Q) ∧ (v2 = v1 → Q ((100 * v3) + v4) M4))) ∧ (¬ (M4 36 0 ((M4 43 0 v3.toNatClampNeg) : Int32).toNatClampNeg) < (M4 39 0 v3.toNatClampNeg) → (vp_in v4 33 ∧ (vp_in (M4 43 0 v4.toNatClampNeg) 5 ∧ (vp_in v4 6 ∧ (((M4 39 0 v4.toNatClampNeg) ≤ (M4 36 0 ((M4 43 0 v4.toNatClampNeg) : Int32).toNatClampNeg) → jw_J 1 mX11_swaps 17 [(0, vr 11 0), (1, vi v1), (2, vi v2), (3, vi v3), (4, vi (v4 + 1))] [] M4 Q) ∧ (¬ (M4 39 0 v4.toNatClampNeg) ≤ (M4 36 0 ((M4 43 0 v4.toNatClampNeg) : Int32).toNatClampNeg) → ((¬ v2 = v1 → jw_J 1 mX11_swaps 17 [(0, vr 11 0), (1, vi v1), (2, vi (v2 + 1)), (3, vi v3), (4, vi (v4 + 1))] [] M4 Q) ∧ (v2 = v1 → Q ((100 * v3) + v4) M4))))))))))))))))))))))))))))))))) : jw_J 1 mX11_swaps 17 [(0, vr 11 0), (1, vi v1), (2, vi v2), (3, vi v3), (4, vi v4)] [] M Q := by
  refine jr_iload (pc := 17) dX11_swaps_17 4 rfl ?_
  refine jr_aload_n (pc := 19) dX11_swaps_19 rfl 0 rfl ?_
  refine jr_get (pc := 20) (v := vi (M 11 0 3)) fg_X11_103 (by decide) rfl dX11_swaps_20 ?_
  refine jr_icmp_ge (pc := 23) (tgt := 173) dX11_swaps_23 (by decide) (fun c => ?_) (fun c => ?_)
  · replace h := h.1 c
    refine jr_iinc (pc := 173) (lv' := [(3, vi (v3 + 1)), (0, vr 11 0), (1, vi v1), (2, vi v2), (4, vi v4)]) (q := 3) dX11_swaps_173 rfl (by rfl) (by decide) rfl ?_
    refine jr_goto (pc := 176) (tgt := 4) dX11_swaps_176 (by decide) ?_
    exact jr_sub [1, 2, 3, 0] rfl h
  · replace h := h.2 c
    refine jr_aload_n (pc := 26) dX11_swaps_26 rfl 0 rfl ?_
    refine jr_iload_n (pc := 27) dX11_swaps_27 rfl 3 rfl ?_
    refine jr_callV (pc := 28) (d' := 0) (mt' := mX11_stands) (k := 11) (n := 0) (As := [vi v3]) (st := []) fc_X11_211 (by decide) (by decide) (Nat.le_of_ble_eq_true rfl) rfl dX11_swaps_28 (jw_M.mono h (fun x1 M2 h => ?_))
    show jw_J 1 mX11_swaps 31 [(0, vr 11 0), (1, vi v1), (2, vi v2), (3, vi v3), (4, vi v4)] [vi x1] M2 Q
    refine jr_if_eq (pc := 31) (tgt := 47) dX11_swaps_31 (by decide) (fun c => ?_) (fun c => ?_)
    · replace h := h.1 c
      refine jr_iconst (pc := 47) (v := 0) dX11_swaps_47 (by decide) ?_
      refine jr_istore (pc := 48) (lv' := [(5, vi 0), (0, vr 11 0), (1, vi v1), (2, vi v2), (3, vi v3), (4, vi v4)]) dX11_swaps_48 (by decide) rfl ?_
      refine jr_iload (pc := 50) dX11_swaps_50 0 rfl ?_
      refine jr_if_eq (pc := 52) (tgt := 101) dX11_swaps_52 (by decide) (fun _ => ?_) (fun c => absurd c (by decide))
      refine jr_iconst (pc := 101) (v := 0) dX11_swaps_101 (by decide) ?_
      refine jr_istore (pc := 102) (lv' := [(6, vi 0), (5, vi 0), (0, vr 11 0), (1, vi v1), (2, vi v2), (3, vi v3), (4, vi v4)]) dX11_swaps_102 (by decide) rfl ?_
      refine jr_iload (pc := 104) dX11_swaps_104 0 rfl ?_
      refine jr_if_eq (pc := 106) (tgt := 167) dX11_swaps_106 (by decide) (fun _ => ?_) (fun c => absurd c (by decide))
      refine jr_iinc (pc := 167) (lv' := [(4, vi (v4 + 1)), (6, vi 0), (5, vi 0), (0, vr 11 0), (1, vi v1), (2, vi v2), (3, vi v3)]) (q := 6) dX11_swaps_167 rfl (by rfl) (by decide) rfl ?_
      refine jr_goto (pc := 170) (tgt := 17) dX11_swaps_170 (by decide) ?_
      exact jr_sub [3, 4, 5, 6, 0] rfl h
    · replace h := h.2 c
      refine jr_aload_n (pc := 34) dX11_swaps_34 rfl 0 rfl ?_
      refine jr_iload (pc := 35) dX11_swaps_35 4 rfl ?_
      refine jr_callV (pc := 37) (d' := 0) (mt' := mX11_stands) (k := 11) (n := 0) (As := [vi v4]) (st := []) fc_X11_211 (by decide) (by decide) (Nat.le_of_ble_eq_true rfl) rfl dX11_swaps_37 (jw_M.mono h (fun x3 M4 h => ?_))
      show jw_J 1 mX11_swaps 40 [(0, vr 11 0), (1, vi v1), (2, vi v2), (3, vi v3), (4, vi v4)] [vi x3] M4 Q
      refine jr_if_eq (pc := 40) (tgt := 47) dX11_swaps_40 (by decide) (fun c => ?_) (fun c => ?_)
      · replace h := h.1 c
        refine jr_iconst (pc := 47) (v := 0) dX11_swaps_47 (by decide) ?_
        refine jr_istore (pc := 48) (lv' := [(5, vi 0), (0, vr 11 0), (1, vi v1), (2, vi v2), (3, vi v3), (4, vi v4)]) dX11_swaps_48 (by decide) rfl ?_
        refine jr_iload (pc := 50) dX11_swaps_50 0 rfl ?_
        refine jr_if_eq (pc := 52) (tgt := 101) dX11_swaps_52 (by decide) (fun _ => ?_) (fun c => absurd c (by decide))
        refine jr_iconst (pc := 101) (v := 0) dX11_swaps_101 (by decide) ?_
        refine jr_istore (pc := 102) (lv' := [(6, vi 0), (5, vi 0), (0, vr 11 0), (1, vi v1), (2, vi v2), (3, vi v3), (4, vi v4)]) dX11_swaps_102 (by decide) rfl ?_
        refine jr_iload (pc := 104) dX11_swaps_104 0 rfl ?_
        refine jr_if_eq (pc := 106) (tgt := 167) dX11_swaps_106 (by decide) (fun _ => ?_) (fun c => absurd c (by decide))
        refine jr_iinc (pc := 167) (lv' := [(4, vi (v4 + 1)), (6, vi 0), (5, vi 0), (0, vr 11 0), (1, vi v1), (2, vi v2), (3, vi v3)]) (q := 6) dX11_swaps_167 rfl (by rfl) (by decide) rfl ?_
        refine jr_goto (pc := 170) (tgt := 17) dX11_swaps_170 (by decide) ?_
        exact jr_sub [3, 4, 5, 6, 0] rfl h
      · replace h := h.2 c
        refine jr_iconst (pc := 43) (v := 1) dX11_swaps_43 (by decide) ?_
        refine jr_goto (pc := 44) (tgt := 48) dX11_swaps_44 (by decide) ?_
        refine jr_istore (pc := 48) (lv' := [(5, vi 1), (0, vr 11 0), (1, vi v1), (2, vi v2), (3, vi v3), (4, vi v4)]) dX11_swaps_48 (by decide) rfl ?_
        refine jr_iload (pc := 50) dX11_swaps_50 0 rfl ?_
        refine jr_if_eq (pc := 52) (tgt := 101) dX11_swaps_52 (by decide) (fun c => absurd c (by decide)) (fun _ => ?_)
        refine jr_aload_n (pc := 55) dX11_swaps_55 rfl 1 rfl ?_
        refine jr_get (pc := 56) (v := vr 36 0) fg_X11_7 (by decide) rfl dX11_swaps_56 ?_
        refine jr_aload_n (pc := 59) dX11_swaps_59 rfl 1 rfl ?_
        refine jr_get (pc := 60) (v := vr 43 0) fg_X11_31 (by decide) rfl dX11_swaps_60 ?_
        refine jr_iload (pc := 63) dX11_swaps_63 5 rfl ?_
        refine jr_iald (pc := 65) ⟨rfl, (by decide)⟩ h.1 dX11_swaps_65 ?_
        replace h := h.2
        refine jr_iald (pc := 66) ⟨rfl, (by decide)⟩ h.1 dX11_swaps_66 ?_
        replace h := h.2
        refine jr_aload_n (pc := 67) dX11_swaps_67 rfl 1 rfl ?_
        refine jr_get (pc := 68) (v := vr 39 0) fg_X11_19 (by decide) rfl dX11_swaps_68 ?_
        refine jr_iload_n (pc := 71) dX11_swaps_71 rfl 4 rfl ?_
        refine jr_iald (pc := 72) ⟨rfl, (by decide)⟩ h.1 dX11_swaps_72 ?_
        replace h := h.2
        refine jr_icmp_lt (pc := 73) (tgt := 101) dX11_swaps_73 (by decide) (fun c => ?_) (fun c => ?_)
        · replace h := h.1 c
          refine jr_iconst (pc := 101) (v := 0) dX11_swaps_101 (by decide) ?_
          refine jr_istore (pc := 102) (lv' := [(6, vi 0), (5, vi 1), (0, vr 11 0), (1, vi v1), (2, vi v2), (3, vi v3), (4, vi v4)]) dX11_swaps_102 (by decide) rfl ?_
          refine jr_iload (pc := 104) dX11_swaps_104 0 rfl ?_
          refine jr_if_eq (pc := 106) (tgt := 167) dX11_swaps_106 (by decide) (fun _ => ?_) (fun c => absurd c (by decide))
          refine jr_iinc (pc := 167) (lv' := [(4, vi (v4 + 1)), (6, vi 0), (5, vi 1), (0, vr 11 0), (1, vi v1), (2, vi v2), (3, vi v3)]) (q := 6) dX11_swaps_167 rfl (by rfl) (by decide) rfl ?_
          refine jr_goto (pc := 170) (tgt := 17) dX11_swaps_170 (by decide) ?_
          exact jr_sub [3, 4, 5, 6, 0] rfl h
        · replace h := h.2 c
          refine jr_aload_n (pc := 76) dX11_swaps_76 rfl 1 rfl ?_
          refine jr_get (pc := 77) (v := vr 36 0) fg_X11_7 (by decide) rfl dX11_swaps_77 ?_
          refine jr_aload_n (pc := 80) dX11_swaps_80 rfl 1 rfl ?_
          refine jr_get (pc := 81) (v := vr 43 0) fg_X11_31 (by decide) rfl dX11_swaps_81 ?_
          refine jr_iload_n (pc := 84) dX11_swaps_84 rfl 4 rfl ?_
          refine jr_iald (pc := 85) ⟨rfl, (by decide)⟩ h.1 dX11_swaps_85 ?_
          replace h := h.2
          refine jr_iald (pc := 86) ⟨rfl, (by decide)⟩ h.1 dX11_swaps_86 ?_
          replace h := h.2
          refine jr_aload_n (pc := 87) dX11_swaps_87 rfl 1 rfl ?_
          refine jr_get (pc := 88) (v := vr 39 0) fg_X11_19 (by decide) rfl dX11_swaps_88 ?_
          refine jr_iload (pc := 91) dX11_swaps_91 5 rfl ?_
          refine jr_iald (pc := 93) ⟨rfl, (by decide)⟩ h.1 dX11_swaps_93 ?_
          replace h := h.2
          refine jr_icmp_lt (pc := 94) (tgt := 101) dX11_swaps_94 (by decide) (fun c => ?_) (fun c => ?_)
          · replace h := h.1 c
            refine jr_iconst (pc := 101) (v := 0) dX11_swaps_101 (by decide) ?_
            refine jr_istore (pc := 102) (lv' := [(6, vi 0), (5, vi 1), (0, vr 11 0), (1, vi v1), (2, vi v2), (3, vi v3), (4, vi v4)]) dX11_swaps_102 (by decide) rfl ?_
            refine jr_iload (pc := 104) dX11_swaps_104 0 rfl ?_
            refine jr_if_eq (pc := 106) (tgt := 167) dX11_swaps_106 (by decide) (fun _ => ?_) (fun c => absurd c (by decide))
            refine jr_iinc (pc := 167) (lv' := [(4, vi (v4 + 1)), (6, vi 0), (5, vi 1), (0, vr 11 0), (1, vi v1), (2, vi v2), (3, vi v3)]) (q := 6) dX11_swaps_167 rfl (by rfl) (by decide) rfl ?_
            refine jr_goto (pc := 170) (tgt := 17) dX11_swaps_170 (by decide) ?_
            exact jr_sub [3, 4, 5, 6, 0] rfl h
          · replace h := h.2 c
            refine jr_iconst (pc := 97) (v := 1) dX11_swaps_97 (by decide) ?_
            refine jr_goto (pc := 98) (tgt := 102) dX11_swaps_98 (by decide) ?_
            refine jr_istore (pc := 102) (lv' := [(6, vi 1), (5, vi 1), (0, vr 11 0), (1, vi v1), (2, vi v2), (3, vi v3), (4, vi v4)]) dX11_swaps_102 (by decide) rfl ?_
            refine jr_iload (pc := 104) dX11_swaps_104 0 rfl ?_
            refine jr_if_eq (pc := 106) (tgt := 167) dX11_swaps_106 (by decide) (fun c => absurd c (by decide)) (fun _ => ?_)
            refine jr_aload_n (pc := 109) dX11_swaps_109 rfl 2 rfl ?_
            refine jr_get (pc := 110) (v := vr 36 0) fg_X11_7 (by decide) rfl dX11_swaps_110 ?_
            refine jr_aload_n (pc := 113) dX11_swaps_113 rfl 2 rfl ?_
            refine jr_get (pc := 114) (v := vr 43 0) fg_X11_31 (by decide) rfl dX11_swaps_114 ?_
            refine jr_iload_n (pc := 117) dX11_swaps_117 rfl 5 rfl ?_
            refine jr_iald (pc := 118) ⟨rfl, (by decide)⟩ h.1 dX11_swaps_118 ?_
            replace h := h.2
            refine jr_iald (pc := 119) ⟨rfl, (by decide)⟩ h.1 dX11_swaps_119 ?_
            replace h := h.2
            refine jr_aload_n (pc := 120) dX11_swaps_120 rfl 2 rfl ?_
            refine jr_get (pc := 121) (v := vr 39 0) fg_X11_19 (by decide) rfl dX11_swaps_121 ?_
            refine jr_iload_n (pc := 124) dX11_swaps_124 rfl 5 rfl ?_
            refine jr_iald (pc := 125) ⟨rfl, (by decide)⟩ h.1 dX11_swaps_125 ?_
            replace h := h.2
            refine jr_icmp_lt (pc := 126) (tgt := 151) dX11_swaps_126 (by decide) (fun c => ?_) (fun c => ?_)
            · replace h := h.1 c
              refine jr_iload_n (pc := 151) dX11_swaps_151 rfl 4 rfl ?_
              refine jr_iload_n (pc := 152) dX11_swaps_152 rfl 3 rfl ?_
              refine jr_icmp_ne (pc := 153) (tgt := 164) dX11_swaps_153 (by decide) (fun c => ?_) (fun c => ?_)
              · replace h := h.1 c
                refine jr_iinc (pc := 164) (lv' := [(2, vi (v2 + 1)), (6, vi 1), (5, vi 1), (0, vr 11 0), (1, vi v1), (3, vi v3), (4, vi v4)]) (q := 4) dX11_swaps_164 rfl (by rfl) (by decide) rfl ?_
                refine jr_iinc (pc := 167) (lv' := [(4, vi (v4 + 1)), (2, vi (v2 + 1)), (6, vi 1), (5, vi 1), (0, vr 11 0), (1, vi v1), (3, vi v3)]) (q := 6) dX11_swaps_167 rfl (by rfl) (by decide) rfl ?_
                refine jr_goto (pc := 170) (tgt := 17) dX11_swaps_170 (by decide) ?_
                exact jr_sub [4, 5, 1, 6, 0] rfl h
              · replace h := h.2 c
                refine jr_bipush (pc := 156) (v := 100) dX11_swaps_156 (by decide) ?_
                refine jr_iload_n (pc := 158) dX11_swaps_158 rfl 5 rfl ?_
                refine jr_imul (pc := 159) dX11_swaps_159 ?_
                refine jr_iload (pc := 160) dX11_swaps_160 6 rfl ?_
                refine jr_iadd (pc := 162) dX11_swaps_162 ?_
                exact jr_iret (pc := 163) rfl dX11_swaps_163 h
            · replace h := h.2 c
              refine jr_aload_n (pc := 129) dX11_swaps_129 rfl 2 rfl ?_
              refine jr_get (pc := 130) (v := vr 36 0) fg_X11_7 (by decide) rfl dX11_swaps_130 ?_
              refine jr_aload_n (pc := 133) dX11_swaps_133 rfl 2 rfl ?_
              refine jr_get (pc := 134) (v := vr 43 0) fg_X11_31 (by decide) rfl dX11_swaps_134 ?_
              refine jr_iload (pc := 137) dX11_swaps_137 6 rfl ?_
              refine jr_iald (pc := 139) ⟨rfl, (by decide)⟩ h.1 dX11_swaps_139 ?_
              replace h := h.2
              refine jr_iald (pc := 140) ⟨rfl, (by decide)⟩ h.1 dX11_swaps_140 ?_
              replace h := h.2
              refine jr_aload_n (pc := 141) dX11_swaps_141 rfl 2 rfl ?_
              refine jr_get (pc := 142) (v := vr 39 0) fg_X11_19 (by decide) rfl dX11_swaps_142 ?_
              refine jr_iload (pc := 145) dX11_swaps_145 6 rfl ?_
              refine jr_iald (pc := 147) ⟨rfl, (by decide)⟩ h.1 dX11_swaps_147 ?_
              replace h := h.2
              refine jr_icmp_ge (pc := 148) (tgt := 167) dX11_swaps_148 (by decide) (fun c => ?_) (fun c => ?_)
              · replace h := h.1 c
                refine jr_iinc (pc := 167) (lv' := [(4, vi (v4 + 1)), (6, vi 1), (5, vi 1), (0, vr 11 0), (1, vi v1), (2, vi v2), (3, vi v3)]) (q := 6) dX11_swaps_167 rfl (by rfl) (by decide) rfl ?_
                refine jr_goto (pc := 170) (tgt := 17) dX11_swaps_170 (by decide) ?_
                exact jr_sub [3, 4, 5, 6, 0] rfl h
              · replace h := h.2 c
                refine jr_iload_n (pc := 151) dX11_swaps_151 rfl 4 rfl ?_
                refine jr_iload_n (pc := 152) dX11_swaps_152 rfl 3 rfl ?_
                refine jr_icmp_ne (pc := 153) (tgt := 164) dX11_swaps_153 (by decide) (fun c => ?_) (fun c => ?_)
                · replace h := h.1 c
                  refine jr_iinc (pc := 164) (lv' := [(2, vi (v2 + 1)), (6, vi 1), (5, vi 1), (0, vr 11 0), (1, vi v1), (3, vi v3), (4, vi v4)]) (q := 4) dX11_swaps_164 rfl (by rfl) (by decide) rfl ?_
                  refine jr_iinc (pc := 167) (lv' := [(4, vi (v4 + 1)), (2, vi (v2 + 1)), (6, vi 1), (5, vi 1), (0, vr 11 0), (1, vi v1), (3, vi v3)]) (q := 6) dX11_swaps_167 rfl (by rfl) (by decide) rfl ?_
                  refine jr_goto (pc := 170) (tgt := 17) dX11_swaps_170 (by decide) ?_
                  exact jr_sub [4, 5, 1, 6, 0] rfl h
                · replace h := h.2 c
                  refine jr_bipush (pc := 156) (v := 100) dX11_swaps_156 (by decide) ?_
                  refine jr_iload_n (pc := 158) dX11_swaps_158 rfl 5 rfl ?_
                  refine jr_imul (pc := 159) dX11_swaps_159 ?_
                  refine jr_iload (pc := 160) dX11_swaps_160 6 rfl ?_
                  refine jr_iadd (pc := 162) dX11_swaps_162 ?_
                  exact jr_iret (pc := 163) rfl dX11_swaps_163 h
theorem dX11_close_0 : decode cX11_close 0 = .ok (.iload_n 1, 1) := by decide +kernel
theorem dX11_close_1 : decode cX11_close 1 = .ok (.i2l, 1) := by decide +kernel
theorem dX11_close_2 : decode cX11_close 2 = .ok (.lconst 0, 1) := by decide +kernel
theorem dX11_close_3 : decode cX11_close 3 = .ok (.ldc2_w 254, 3) := by decide +kernel
theorem dX11_close_6 : decode cX11_close 6 = .ok (.invokestatic 99, 3) := by decide +kernel
theorem dX11_close_9 : decode cX11_close 9 = .ok (.ifCond .eq 15, 3) := by decide +kernel
theorem dX11_close_12 : decode cX11_close 12 = .ok (.iload_n 2, 1) := by decide +kernel
theorem dX11_close_13 : decode cX11_close 13 = .ok (.i2l, 1) := by decide +kernel
theorem dX11_close_14 : decode cX11_close 14 = .ok (.lconst 0, 1) := by decide +kernel
theorem dX11_close_15 : decode cX11_close 15 = .ok (.ldc2_w 304, 3) := by decide +kernel
theorem dX11_close_18 : decode cX11_close 18 = .ok (.invokestatic 99, 3) := by decide +kernel
theorem dX11_close_21 : decode cX11_close 21 = .ok (.ifCond .ne 6, 3) := by decide +kernel
theorem dX11_close_24 : decode cX11_close 24 = .ok (.ldc 111, 2) := by decide +kernel
theorem dX11_close_26 : decode cX11_close 26 = .ok (.ireturn, 1) := by decide +kernel
theorem dX11_close_27 : decode cX11_close 27 = .ok (.ldc2_w 306, 3) := by decide +kernel
theorem dX11_close_30 : decode cX11_close 30 = .ok (.lstore_n 3, 1) := by decide +kernel
theorem dX11_close_31 : decode cX11_close 31 = .ok (.iconst 0, 1) := by decide +kernel
theorem dX11_close_32 : decode cX11_close 32 = .ok (.istore 5, 2) := by decide +kernel
theorem dX11_close_34 : decode cX11_close 34 = .ok (.iload 5, 2) := by decide +kernel
theorem dX11_close_36 : decode cX11_close 36 = .ok (.iload_n 1, 1) := by decide +kernel
theorem dX11_close_37 : decode cX11_close 37 = .ok (.if_icmp .ge 18, 3) := by decide +kernel
theorem dX11_close_40 : decode cX11_close 40 = .ok (.lload_n 3, 1) := by decide +kernel
theorem dX11_close_41 : decode cX11_close 41 = .ok (.iload_n 2, 1) := by decide +kernel
theorem dX11_close_42 : decode cX11_close 42 = .ok (.i2l, 1) := by decide +kernel
theorem dX11_close_43 : decode cX11_close 43 = .ok (.lmul, 1) := by decide +kernel
theorem dX11_close_44 : decode cX11_close 44 = .ok (.ldc2_w 304, 3) := by decide +kernel
theorem dX11_close_47 : decode cX11_close 47 = .ok (.ldiv, 1) := by decide +kernel
theorem dX11_close_48 : decode cX11_close 48 = .ok (.lstore_n 3, 1) := by decide +kernel
theorem dX11_close_49 : decode cX11_close 49 = .ok (.iinc 5 1, 3) := by decide +kernel
theorem dX11_close_52 : decode cX11_close 52 = .ok (.goto (-18), 3) := by decide +kernel
theorem dX11_close_55 : decode cX11_close 55 = .ok (.lload_n 3, 1) := by decide +kernel
theorem dX11_close_56 : decode cX11_close 56 = .ok (.l2i, 1) := by decide +kernel
theorem dX11_close_57 : decode cX11_close 57 = .ok (.ireturn, 1) := by decide +kernel
set_option maxHeartbeats 4000000 in
set_option maxRecDepth 20000 in
theorem en_X11_close {a1 : Int32} {a2 : Int32} {M : jw_Mem} {Q : Int32 → jw_Mem → Prop}  (h : (jw_M 0 mX11_in [vl (a1.toInt64), vl 0, vl 60] M (fun x1 M2 => ((x1 = 0 → Q (-1000000002) M2) ∧ (¬ x1 = 0 → (jw_M 0 mX11_in [vl (a2.toInt64), vl 0, vl 100] M2 (fun x3 M4 => ((¬ x3 = 0 → jw_J 1 mX11_close 34 [(1, vi a1), (2, vi a2), (3, vl 1000000000), (5, vi 0)] [] M4 Q) ∧ (x3 = 0 → Q (-1000000002) M4))))))))) : jw_M 1 mX11_close [vr 11 0, vi a1, vi a2] M Q := by
  refine jw_M.of (by decide) (Nat.le_of_ble_eq_true rfl) ?_
  show jw_J 1 mX11_close 0 [(0, vr 11 0), (1, vi a1), (2, vi a2)] [] M Q
  refine jr_iload_n (pc := 0) dX11_close_0 rfl 1 rfl ?_
  refine jr_i2l (pc := 1) dX11_close_1 ?_
  refine jr_lconst (pc := 2) (v := 0) dX11_close_2 (by decide) ?_
  refine jr_ldc2 (pc := 3) fk_X11_254 dX11_close_3 ?_
  refine jr_callS (pc := 6) (d' := 0) (mt' := mX11_in) (As := [vl (a1.toInt64), vl 0, vl 60]) (st := []) fc_X11_99 (by decide) (Nat.le_of_ble_eq_true rfl) rfl dX11_close_6 (jw_M.mono h (fun x1 M2 h => ?_))
  show jw_J 1 mX11_close 9 [(0, vr 11 0), (1, vi a1), (2, vi a2)] [vi x1] M2 Q
  refine jr_if_eq (pc := 9) (tgt := 24) dX11_close_9 (by decide) (fun c => ?_) (fun c => ?_)
  · replace h := h.1 c
    refine jr_ldc (pc := 24) fk_X11_111 dX11_close_24 ?_
    exact jr_iret (pc := 26) rfl dX11_close_26 h
  · replace h := h.2 c
    refine jr_iload_n (pc := 12) dX11_close_12 rfl 2 rfl ?_
    refine jr_i2l (pc := 13) dX11_close_13 ?_
    refine jr_lconst (pc := 14) (v := 0) dX11_close_14 (by decide) ?_
    refine jr_ldc2 (pc := 15) fk_X11_304 dX11_close_15 ?_
    refine jr_callS (pc := 18) (d' := 0) (mt' := mX11_in) (As := [vl (a2.toInt64), vl 0, vl 100]) (st := []) fc_X11_99 (by decide) (Nat.le_of_ble_eq_true rfl) rfl dX11_close_18 (jw_M.mono h (fun x3 M4 h => ?_))
    show jw_J 1 mX11_close 21 [(0, vr 11 0), (1, vi a1), (2, vi a2)] [vi x3] M4 Q
    refine jr_if_ne (pc := 21) (tgt := 27) dX11_close_21 (by decide) (fun c => ?_) (fun c => ?_)
    · replace h := h.1 c
      refine jr_ldc2 (pc := 27) fk_X11_306 dX11_close_27 ?_
      refine jr_lstore_n (pc := 30) (lv' := [(3, vl 1000000000), (0, vr 11 0), (1, vi a1), (2, vi a2)]) dX11_close_30 rfl (by decide) rfl ?_
      refine jr_iconst (pc := 31) (v := 0) dX11_close_31 (by decide) ?_
      refine jr_istore (pc := 32) (lv' := [(5, vi 0), (3, vl 1000000000), (0, vr 11 0), (1, vi a1), (2, vi a2)]) dX11_close_32 (by decide) rfl ?_
      exact jr_sub [3, 4, 1, 0] rfl h
    · replace h := h.2 c
      refine jr_ldc (pc := 24) fk_X11_111 dX11_close_24 ?_
      exact jr_iret (pc := 26) rfl dX11_close_26 h
set_option maxHeartbeats 4000000 in
set_option maxRecDepth 20000 in
theorem bk_X11_close_34 {v1 : Int32} {v2 : Int32} {v3 : Int64} {v5 : Int32} {M : jw_Mem} {Q : Int32 → jw_Mem → Prop}  (h : ((v1 ≤ v5 → Q (v3.toInt32) M) ∧ (¬ v1 ≤ v5 → jw_J 1 mX11_close 34 [(1, vi v1), (2, vi v2), (3, vl ((v3 * (v2.toInt64)) / 100)), (5, vi (v5 + 1))] [] M Q))) : jw_J 1 mX11_close 34 [(1, vi v1), (2, vi v2), (3, vl v3), (5, vi v5)] [] M Q := by
  refine jr_iload (pc := 34) dX11_close_34 3 rfl ?_
  refine jr_iload_n (pc := 36) dX11_close_36 rfl 0 rfl ?_
  refine jr_icmp_ge (pc := 37) (tgt := 55) dX11_close_37 (by decide) (fun c => ?_) (fun c => ?_)
  · replace h := h.1 c
    refine jr_lload_n (pc := 55) dX11_close_55 rfl 2 rfl ?_
    refine jr_l2i (pc := 56) dX11_close_56 ?_
    exact jr_iret (pc := 57) rfl dX11_close_57 h
  · replace h := h.2 c
    refine jr_lload_n (pc := 40) dX11_close_40 rfl 2 rfl ?_
    refine jr_iload_n (pc := 41) dX11_close_41 rfl 1 rfl ?_
    refine jr_i2l (pc := 42) dX11_close_42 ?_
    refine jr_lmul (pc := 43) dX11_close_43 ?_
    refine jr_ldc2 (pc := 44) fk_X11_304 dX11_close_44 ?_
    refine jr_ldiv (pc := 47) dX11_close_47 (by decide) ?_
    refine jr_lstore_n (pc := 48) (lv' := [(3, vl ((v3 * (v2.toInt64)) / 100)), (1, vi v1), (2, vi v2), (5, vi v5)]) dX11_close_48 rfl (by decide) rfl ?_
    refine jr_iinc (pc := 49) (lv' := [(5, vi (v5 + 1)), (3, vl ((v3 * (v2.toInt64)) / 100)), (1, vi v1), (2, vi v2)]) (q := 3) dX11_close_49 rfl (by rfl) (by decide) rfl ?_
    refine jr_goto (pc := 52) (tgt := 34) dX11_close_52 (by decide) ?_
    exact jr_sub [2, 3, 1, 0] rfl h
theorem dX11_count_0 : decode cX11_count 0 = .ok (.aload_n 0, 1) := by decide +kernel
theorem dX11_count_1 : decode cX11_count 1 = .ok (.iload_n 1, 1) := by decide +kernel
theorem dX11_count_2 : decode cX11_count 2 = .ok (.invokevirtual 238, 3) := by decide +kernel
theorem dX11_count_5 : decode cX11_count 5 = .ok (.ifCond .ne 6, 3) := by decide +kernel
theorem dX11_count_8 : decode cX11_count 8 = .ok (.ldc 241, 2) := by decide +kernel
theorem dX11_count_10 : decode cX11_count 10 = .ok (.ireturn, 1) := by decide +kernel
theorem dX11_count_11 : decode cX11_count 11 = .ok (.iload_n 2, 1) := by decide +kernel
theorem dX11_count_12 : decode cX11_count 12 = .ok (.i2l, 1) := by decide +kernel
theorem dX11_count_13 : decode cX11_count 13 = .ok (.lconst 0, 1) := by decide +kernel
theorem dX11_count_14 : decode cX11_count 14 = .ok (.ldc2_w 308, 3) := by decide +kernel
theorem dX11_count_17 : decode cX11_count 17 = .ok (.invokestatic 99, 3) := by decide +kernel
theorem dX11_count_20 : decode cX11_count 20 = .ok (.ifCond .ne 6, 3) := by decide +kernel
theorem dX11_count_23 : decode cX11_count 23 = .ok (.ldc 111, 2) := by decide +kernel
theorem dX11_count_25 : decode cX11_count 25 = .ok (.ireturn, 1) := by decide +kernel
theorem dX11_count_26 : decode cX11_count 26 = .ok (.aload_n 0, 1) := by decide +kernel
theorem dX11_count_27 : decode cX11_count 27 = .ok (.getfield 186, 3) := by decide +kernel
theorem dX11_count_30 : decode cX11_count 30 = .ok (.bipush 6, 2) := by decide +kernel
theorem dX11_count_32 : decode cX11_count 32 = .ok (.if_icmp .ne 6, 3) := by decide +kernel
theorem dX11_count_35 : decode cX11_count 35 = .ok (.ldc 115, 2) := by decide +kernel
theorem dX11_count_37 : decode cX11_count 37 = .ok (.ireturn, 1) := by decide +kernel
theorem dX11_count_38 : decode cX11_count 38 = .ok (.aload_n 0, 1) := by decide +kernel
theorem dX11_count_39 : decode cX11_count 39 = .ok (.getfield 71, 3) := by decide +kernel
theorem dX11_count_42 : decode cX11_count 42 = .ok (.aload_n 0, 1) := by decide +kernel
theorem dX11_count_43 : decode cX11_count 43 = .ok (.getfield 186, 3) := by decide +kernel
theorem dX11_count_46 : decode cX11_count 46 = .ok (.iload_n 1, 1) := by decide +kernel
theorem dX11_count_47 : decode cX11_count 47 = .ok (.iastore, 1) := by decide +kernel
theorem dX11_count_48 : decode cX11_count 48 = .ok (.aload_n 0, 1) := by decide +kernel
theorem dX11_count_49 : decode cX11_count 49 = .ok (.getfield 74, 3) := by decide +kernel
theorem dX11_count_52 : decode cX11_count 52 = .ok (.aload_n 0, 1) := by decide +kernel
theorem dX11_count_53 : decode cX11_count 53 = .ok (.getfield 186, 3) := by decide +kernel
theorem dX11_count_56 : decode cX11_count 56 = .ok (.iload_n 2, 1) := by decide +kernel
theorem dX11_count_57 : decode cX11_count 57 = .ok (.iastore, 1) := by decide +kernel
theorem dX11_count_58 : decode cX11_count 58 = .ok (.aload_n 0, 1) := by decide +kernel
theorem dX11_count_59 : decode cX11_count 59 = .ok (.dup, 1) := by decide +kernel
theorem dX11_count_60 : decode cX11_count 60 = .ok (.getfield 186, 3) := by decide +kernel
theorem dX11_count_63 : decode cX11_count 63 = .ok (.iconst 1, 1) := by decide +kernel
theorem dX11_count_64 : decode cX11_count 64 = .ok (.iadd, 1) := by decide +kernel
theorem dX11_count_65 : decode cX11_count 65 = .ok (.putfield 186, 3) := by decide +kernel
theorem dX11_count_68 : decode cX11_count 68 = .ok (.aload_n 0, 1) := by decide +kernel
theorem dX11_count_69 : decode cX11_count 69 = .ok (.getfield 186, 3) := by decide +kernel
theorem dX11_count_72 : decode cX11_count 72 = .ok (.ireturn, 1) := by decide +kernel
set_option maxHeartbeats 4000000 in
set_option maxRecDepth 20000 in
theorem en_X11_count {a1 : Int32} {a2 : Int32} {M : jw_Mem} {Q : Int32 → jw_Mem → Prop}  (h : (jw_M 1 mX11_isPlinth [vr 11 0, vi a1] M (fun x1 M2 => ((¬ x1 = 0 → (jw_M 0 mX11_in [vl (a2.toInt64), vl 0, vl 99] M2 (fun x3 M4 => ((¬ x3 = 0 → ((¬ (M4 11 0 34) = 6 → (vp_in (M4 11 0 34) 6 ∧ (∀ M5 : jw_Mem, M5 = jw_up M4 55 0 ((M4 11 0 34) : Int32).toNatClampNeg a1 → (vp_in (M5 11 0 34) 6 ∧ (∀ M6 : jw_Mem, M6 = jw_up M5 56 0 ((M5 11 0 34) : Int32).toNatClampNeg a2 → (∀ M7 : jw_Mem, M7 = jw_up M6 11 0 34 ((M6 11 0 34) + 1) → Q (M7 11 0 34) M7)))))) ∧ ((M4 11 0 34) = 6 → Q (-1000000004) M4))) ∧ (x3 = 0 → Q (-1000000002) M4))))) ∧ (x1 = 0 → Q (-1000000001) M2))))) : jw_M 2 mX11_count [vr 11 0, vi a1, vi a2] M Q := by
  refine jw_M.of (by decide) (Nat.le_of_ble_eq_true rfl) ?_
  show jw_J 2 mX11_count 0 [(0, vr 11 0), (1, vi a1), (2, vi a2)] [] M Q
  refine jr_aload_n (pc := 0) dX11_count_0 rfl 0 rfl ?_
  refine jr_iload_n (pc := 1) dX11_count_1 rfl 1 rfl ?_
  refine jr_callV (pc := 2) (d' := 1) (mt' := mX11_isPlinth) (k := 11) (n := 0) (As := [vi a1]) (st := []) fc_X11_238 (by decide) (by decide) (Nat.le_of_ble_eq_true rfl) rfl dX11_count_2 (jw_M.mono h (fun x1 M2 h => ?_))
  show jw_J 2 mX11_count 5 [(0, vr 11 0), (1, vi a1), (2, vi a2)] [vi x1] M2 Q
  refine jr_if_ne (pc := 5) (tgt := 11) dX11_count_5 (by decide) (fun c => ?_) (fun c => ?_)
  · replace h := h.1 c
    refine jr_iload_n (pc := 11) dX11_count_11 rfl 2 rfl ?_
    refine jr_i2l (pc := 12) dX11_count_12 ?_
    refine jr_lconst (pc := 13) (v := 0) dX11_count_13 (by decide) ?_
    refine jr_ldc2 (pc := 14) fk_X11_308 dX11_count_14 ?_
    refine jr_callS (pc := 17) (d' := 0) (mt' := mX11_in) (As := [vl (a2.toInt64), vl 0, vl 99]) (st := []) fc_X11_99 (by decide) (Nat.le_of_ble_eq_true rfl) rfl dX11_count_17 (jw_M.mono h (fun x3 M4 h => ?_))
    show jw_J 2 mX11_count 20 [(0, vr 11 0), (1, vi a1), (2, vi a2)] [vi x3] M4 Q
    refine jr_if_ne (pc := 20) (tgt := 26) dX11_count_20 (by decide) (fun c => ?_) (fun c => ?_)
    · replace h := h.1 c
      refine jr_aload_n (pc := 26) dX11_count_26 rfl 0 rfl ?_
      refine jr_get (pc := 27) (v := vi (M4 11 0 34)) fg_X11_186 (by decide) rfl dX11_count_27 ?_
      refine jr_bipush (pc := 30) (v := 6) dX11_count_30 (by decide) ?_
      refine jr_icmp_ne (pc := 32) (tgt := 38) dX11_count_32 (by decide) (fun c => ?_) (fun c => ?_)
      · replace h := h.1 c
        refine jr_aload_n (pc := 38) dX11_count_38 rfl 0 rfl ?_
        refine jr_get (pc := 39) (v := vr 55 0) fg_X11_71 (by decide) rfl dX11_count_39 ?_
        refine jr_aload_n (pc := 42) dX11_count_42 rfl 0 rfl ?_
        refine jr_get (pc := 43) (v := vi (M4 11 0 34)) fg_X11_186 (by decide) rfl dX11_count_43 ?_
        refine jr_iload_n (pc := 46) dX11_count_46 rfl 1 rfl ?_
        refine jr_iast (pc := 47) ⟨rfl, (by decide)⟩ h.1 dX11_count_47 ?_
        replace h := h.2
        replace h := h _ rfl
        generalize jw_up M4 55 0 ((M4 11 0 34) : Int32).toNatClampNeg a1 = M5 at h ⊢
        refine jr_aload_n (pc := 48) dX11_count_48 rfl 0 rfl ?_
        refine jr_get (pc := 49) (v := vr 56 0) fg_X11_74 (by decide) rfl dX11_count_49 ?_
        refine jr_aload_n (pc := 52) dX11_count_52 rfl 0 rfl ?_
        refine jr_get (pc := 53) (v := vi (M5 11 0 34)) fg_X11_186 (by decide) rfl dX11_count_53 ?_
        refine jr_iload_n (pc := 56) dX11_count_56 rfl 2 rfl ?_
        refine jr_iast (pc := 57) ⟨rfl, (by decide)⟩ h.1 dX11_count_57 ?_
        replace h := h.2
        replace h := h _ rfl
        generalize jw_up M5 56 0 ((M5 11 0 34) : Int32).toNatClampNeg a2 = M6 at h ⊢
        refine jr_aload_n (pc := 58) dX11_count_58 rfl 0 rfl ?_
        refine jr_dup_r (pc := 59) dX11_count_59 ?_
        refine jr_get (pc := 60) (v := vi (M6 11 0 34)) fg_X11_186 (by decide) rfl dX11_count_60 ?_
        refine jr_iconst (pc := 63) (v := 1) dX11_count_63 (by decide) ?_
        refine jr_iadd (pc := 64) dX11_count_64 ?_
        refine jr_put (pc := 65) fp_X11_186 (by decide) (Or.inl ⟨_, _, _, rfl, by decide +kernel⟩) dX11_count_65 ?_
        replace h := h _ rfl
        generalize jw_up M6 11 0 34 ((M6 11 0 34) + 1) = M7 at h ⊢
        refine jr_aload_n (pc := 68) dX11_count_68 rfl 0 rfl ?_
        refine jr_get (pc := 69) (v := vi (M7 11 0 34)) fg_X11_186 (by decide) rfl dX11_count_69 ?_
        exact jr_iret (pc := 72) rfl dX11_count_72 h
      · replace h := h.2 c
        refine jr_ldc (pc := 35) fk_X11_115 dX11_count_35 ?_
        exact jr_iret (pc := 37) rfl dX11_count_37 h
    · replace h := h.2 c
      refine jr_ldc (pc := 23) fk_X11_111 dX11_count_23 ?_
      exact jr_iret (pc := 25) rfl dX11_count_25 h
  · replace h := h.2 c
    refine jr_ldc (pc := 8) fk_X11_241 dX11_count_8 ?_
    exact jr_iret (pc := 10) rfl dX11_count_10 h
theorem dX11_votesOn_0 : decode cX11_votesOn 0 = .ok (.aload_n 0, 1) := by decide +kernel
theorem dX11_votesOn_1 : decode cX11_votesOn 1 = .ok (.iload_n 1, 1) := by decide +kernel
theorem dX11_votesOn_2 : decode cX11_votesOn 2 = .ok (.aload_n 0, 1) := by decide +kernel
theorem dX11_votesOn_3 : decode cX11_votesOn 3 = .ok (.iload_n 2, 1) := by decide +kernel
theorem dX11_votesOn_4 : decode cX11_votesOn 4 = .ok (.invokevirtual 205, 3) := by decide +kernel
theorem dX11_votesOn_7 : decode cX11_votesOn 7 = .ok (.iand, 1) := by decide +kernel
theorem dX11_votesOn_8 : decode cX11_votesOn 8 = .ok (.invokevirtual 202, 3) := by decide +kernel
theorem dX11_votesOn_11 : decode cX11_votesOn 11 = .ok (.ireturn, 1) := by decide +kernel
set_option maxHeartbeats 4000000 in
set_option maxRecDepth 20000 in
theorem en_X11_votesOn {a1 : Int32} {a2 : Int32} {M : jw_Mem} {Q : Int32 → jw_Mem → Prop}  (h : (jw_M 1 mX11_walkersUnder [vr 11 0, vi a2] M (fun x1 M2 => (jw_M 1 mX11_votesOf [vr 11 0, vi (a1 &&& x1)] M2 (fun x3 M4 => Q x3 M4))))) : jw_M 2 mX11_votesOn [vr 11 0, vi a1, vi a2] M Q := by
  refine jw_M.of (by decide) (Nat.le_of_ble_eq_true rfl) ?_
  show jw_J 2 mX11_votesOn 0 [(0, vr 11 0), (1, vi a1), (2, vi a2)] [] M Q
  refine jr_aload_n (pc := 0) dX11_votesOn_0 rfl 0 rfl ?_
  refine jr_iload_n (pc := 1) dX11_votesOn_1 rfl 1 rfl ?_
  refine jr_aload_n (pc := 2) dX11_votesOn_2 rfl 0 rfl ?_
  refine jr_iload_n (pc := 3) dX11_votesOn_3 rfl 2 rfl ?_
  refine jr_callV (pc := 4) (d' := 1) (mt' := mX11_walkersUnder) (k := 11) (n := 0) (As := [vi a2]) (st := [vi a1, vr 11 0]) fc_X11_205 (by decide) (by decide) (Nat.le_of_ble_eq_true rfl) rfl dX11_votesOn_4 (jw_M.mono h (fun x1 M2 h => ?_))
  show jw_J 2 mX11_votesOn 7 [(0, vr 11 0), (1, vi a1), (2, vi a2)] [vi x1, vi a1, vr 11 0] M2 Q
  refine jr_iand (pc := 7) dX11_votesOn_7 ?_
  refine jr_callV (pc := 8) (d' := 1) (mt' := mX11_votesOf) (k := 11) (n := 0) (As := [vi (a1 &&& x1)]) (st := []) fc_X11_202 (by decide) (by decide) (Nat.le_of_ble_eq_true rfl) rfl dX11_votesOn_8 (jw_M.mono h (fun x3 M4 h => ?_))
  show jw_J 2 mX11_votesOn 11 [(0, vr 11 0), (1, vi a1), (2, vi a2)] [vi x3] M4 Q
  exact jr_iret (pc := 11) rfl dX11_votesOn_11 h
theorem dX11_couldBe_0 : decode cX11_couldBe 0 = .ok (.iconst 1, 1) := by decide +kernel
theorem dX11_couldBe_1 : decode cX11_couldBe 1 = .ok (.istore_n 2, 1) := by decide +kernel
theorem dX11_couldBe_2 : decode cX11_couldBe 2 = .ok (.iconst 0, 1) := by decide +kernel
theorem dX11_couldBe_3 : decode cX11_couldBe 3 = .ok (.istore_n 3, 1) := by decide +kernel
theorem dX11_couldBe_4 : decode cX11_couldBe 4 = .ok (.iload_n 3, 1) := by decide +kernel
theorem dX11_couldBe_5 : decode cX11_couldBe 5 = .ok (.aload_n 0, 1) := by decide +kernel
theorem dX11_couldBe_6 : decode cX11_couldBe 6 = .ok (.getfield 186, 3) := by decide +kernel
theorem dX11_couldBe_9 : decode cX11_couldBe 9 = .ok (.if_icmp .ge 39, 3) := by decide +kernel
theorem dX11_couldBe_12 : decode cX11_couldBe 12 = .ok (.iload_n 2, 1) := by decide +kernel
theorem dX11_couldBe_13 : decode cX11_couldBe 13 = .ok (.ifCond .eq 35, 3) := by decide +kernel
theorem dX11_couldBe_16 : decode cX11_couldBe 16 = .ok (.aload_n 0, 1) := by decide +kernel
theorem dX11_couldBe_17 : decode cX11_couldBe 17 = .ok (.iload_n 1, 1) := by decide +kernel
theorem dX11_couldBe_18 : decode cX11_couldBe 18 = .ok (.aload_n 0, 1) := by decide +kernel
theorem dX11_couldBe_19 : decode cX11_couldBe 19 = .ok (.getfield 71, 3) := by decide +kernel
theorem dX11_couldBe_22 : decode cX11_couldBe 22 = .ok (.iload_n 3, 1) := by decide +kernel
theorem dX11_couldBe_23 : decode cX11_couldBe 23 = .ok (.iaload, 1) := by decide +kernel
theorem dX11_couldBe_24 : decode cX11_couldBe 24 = .ok (.invokevirtual 310, 3) := by decide +kernel
theorem dX11_couldBe_27 : decode cX11_couldBe 27 = .ok (.aload_n 0, 1) := by decide +kernel
theorem dX11_couldBe_28 : decode cX11_couldBe 28 = .ok (.getfield 74, 3) := by decide +kernel
theorem dX11_couldBe_31 : decode cX11_couldBe 31 = .ok (.iload_n 3, 1) := by decide +kernel
theorem dX11_couldBe_32 : decode cX11_couldBe 32 = .ok (.iaload, 1) := by decide +kernel
theorem dX11_couldBe_33 : decode cX11_couldBe 33 = .ok (.if_icmp .ne 7, 3) := by decide +kernel
theorem dX11_couldBe_36 : decode cX11_couldBe 36 = .ok (.iconst 1, 1) := by decide +kernel
theorem dX11_couldBe_37 : decode cX11_couldBe 37 = .ok (.goto 4, 3) := by decide +kernel
theorem dX11_couldBe_40 : decode cX11_couldBe 40 = .ok (.iconst 0, 1) := by decide +kernel
theorem dX11_couldBe_41 : decode cX11_couldBe 41 = .ok (.istore_n 2, 1) := by decide +kernel
theorem dX11_couldBe_42 : decode cX11_couldBe 42 = .ok (.iinc 3 1, 3) := by decide +kernel
theorem dX11_couldBe_45 : decode cX11_couldBe 45 = .ok (.goto (-41), 3) := by decide +kernel
theorem dX11_couldBe_48 : decode cX11_couldBe 48 = .ok (.iload_n 2, 1) := by decide +kernel
theorem dX11_couldBe_49 : decode cX11_couldBe 49 = .ok (.ireturn, 1) := by decide +kernel
set_option maxHeartbeats 4000000 in
set_option maxRecDepth 20000 in
theorem en_X11_couldBe {a1 : Int32} {M : jw_Mem} {Q : Int32 → jw_Mem → Prop}  (h : jw_J 3 mX11_couldBe 4 [(0, vr 11 0), (1, vi a1), (2, vi 1), (3, vi 0)] [] M Q) : jw_M 3 mX11_couldBe [vr 11 0, vi a1] M Q := by
  refine jw_M.of (by decide) (Nat.le_of_ble_eq_true rfl) ?_
  show jw_J 3 mX11_couldBe 0 [(0, vr 11 0), (1, vi a1)] [] M Q
  refine jr_iconst (pc := 0) (v := 1) dX11_couldBe_0 (by decide) ?_
  refine jr_istore_n (pc := 1) (lv' := [(2, vi 1), (0, vr 11 0), (1, vi a1)]) dX11_couldBe_1 rfl (by decide) rfl ?_
  refine jr_iconst (pc := 2) (v := 0) dX11_couldBe_2 (by decide) ?_
  refine jr_istore_n (pc := 3) (lv' := [(3, vi 0), (2, vi 1), (0, vr 11 0), (1, vi a1)]) dX11_couldBe_3 rfl (by decide) rfl ?_
  exact jr_sub [2, 3, 1, 0] rfl h
set_option maxHeartbeats 4000000 in
set_option maxRecDepth 20000 in
theorem bk_X11_couldBe_4 {v1 : Int32} {v2 : Int32} {v3 : Int32} {M : jw_Mem} {Q : Int32 → jw_Mem → Prop}  (h : (((M 11 0 34) ≤ v3 → ((v2 = 0 ∨ v2 = 1) ∧ Q v2 M)) ∧ (¬ (M 11 0 34) ≤ v3 → ((v2 = 0 → ((v2 = 0 ∨ v2 = 1) ∧ Q v2 M)) ∧ (¬ v2 = 0 → (vp_in v3 6 ∧ (jw_M 2 mX11_votesOn [vr 11 0, vi v1, vi (M 55 0 v3.toNatClampNeg)] M (fun x1 M2 => (vp_in v3 6 ∧ ((¬ x1 = (M2 56 0 v3.toNatClampNeg) → jw_J 3 mX11_couldBe 4 [(0, vr 11 0), (1, vi v1), (2, vi 0), (3, vi (v3 + 1))] [] M2 Q) ∧ (x1 = (M2 56 0 v3.toNatClampNeg) → jw_J 3 mX11_couldBe 4 [(0, vr 11 0), (1, vi v1), (2, vi 1), (3, vi (v3 + 1))] [] M2 Q))))))))))) : jw_J 3 mX11_couldBe 4 [(0, vr 11 0), (1, vi v1), (2, vi v2), (3, vi v3)] [] M Q := by
  refine jr_iload_n (pc := 4) dX11_couldBe_4 rfl 3 rfl ?_
  refine jr_aload_n (pc := 5) dX11_couldBe_5 rfl 0 rfl ?_
  refine jr_get (pc := 6) (v := vi (M 11 0 34)) fg_X11_186 (by decide) rfl dX11_couldBe_6 ?_
  refine jr_icmp_ge (pc := 9) (tgt := 48) dX11_couldBe_9 (by decide) (fun c => ?_) (fun c => ?_)
  · replace h := h.1 c
    refine jr_iload_n (pc := 48) dX11_couldBe_48 rfl 2 rfl ?_
    exact jr_zret (pc := 49) rfl dX11_couldBe_49 h.1 h.2
  · replace h := h.2 c
    refine jr_iload_n (pc := 12) dX11_couldBe_12 rfl 2 rfl ?_
    refine jr_if_eq (pc := 13) (tgt := 48) dX11_couldBe_13 (by decide) (fun c => ?_) (fun c => ?_)
    · replace h := h.1 c
      refine jr_iload_n (pc := 48) dX11_couldBe_48 rfl 2 rfl ?_
      exact jr_zret (pc := 49) rfl dX11_couldBe_49 h.1 h.2
    · replace h := h.2 c
      refine jr_aload_n (pc := 16) dX11_couldBe_16 rfl 0 rfl ?_
      refine jr_iload_n (pc := 17) dX11_couldBe_17 rfl 1 rfl ?_
      refine jr_aload_n (pc := 18) dX11_couldBe_18 rfl 0 rfl ?_
      refine jr_get (pc := 19) (v := vr 55 0) fg_X11_71 (by decide) rfl dX11_couldBe_19 ?_
      refine jr_iload_n (pc := 22) dX11_couldBe_22 rfl 3 rfl ?_
      refine jr_iald (pc := 23) ⟨rfl, (by decide)⟩ h.1 dX11_couldBe_23 ?_
      replace h := h.2
      refine jr_callV (pc := 24) (d' := 2) (mt' := mX11_votesOn) (k := 11) (n := 0) (As := [vi v1, vi (M 55 0 v3.toNatClampNeg)]) (st := []) fc_X11_310 (by decide) (by decide) (Nat.le_of_ble_eq_true rfl) rfl dX11_couldBe_24 (jw_M.mono h (fun x1 M2 h => ?_))
      show jw_J 3 mX11_couldBe 27 [(0, vr 11 0), (1, vi v1), (2, vi v2), (3, vi v3)] [vi x1] M2 Q
      refine jr_aload_n (pc := 27) dX11_couldBe_27 rfl 0 rfl ?_
      refine jr_get (pc := 28) (v := vr 56 0) fg_X11_74 (by decide) rfl dX11_couldBe_28 ?_
      refine jr_iload_n (pc := 31) dX11_couldBe_31 rfl 3 rfl ?_
      refine jr_iald (pc := 32) ⟨rfl, (by decide)⟩ h.1 dX11_couldBe_32 ?_
      replace h := h.2
      refine jr_icmp_ne (pc := 33) (tgt := 40) dX11_couldBe_33 (by decide) (fun c => ?_) (fun c => ?_)
      · replace h := h.1 c
        refine jr_iconst (pc := 40) (v := 0) dX11_couldBe_40 (by decide) ?_
        refine jr_istore_n (pc := 41) (lv' := [(2, vi 0), (0, vr 11 0), (1, vi v1), (3, vi v3)]) dX11_couldBe_41 rfl (by decide) rfl ?_
        refine jr_iinc (pc := 42) (lv' := [(3, vi (v3 + 1)), (2, vi 0), (0, vr 11 0), (1, vi v1)]) (q := 3) dX11_couldBe_42 rfl (by rfl) (by decide) rfl ?_
        refine jr_goto (pc := 45) (tgt := 4) dX11_couldBe_45 (by decide) ?_
        exact jr_sub [2, 3, 1, 0] rfl h
      · replace h := h.2 c
        refine jr_iconst (pc := 36) (v := 1) dX11_couldBe_36 (by decide) ?_
        refine jr_goto (pc := 37) (tgt := 41) dX11_couldBe_37 (by decide) ?_
        refine jr_istore_n (pc := 41) (lv' := [(2, vi 1), (0, vr 11 0), (1, vi v1), (3, vi v3)]) dX11_couldBe_41 rfl (by decide) rfl ?_
        refine jr_iinc (pc := 42) (lv' := [(3, vi (v3 + 1)), (2, vi 1), (0, vr 11 0), (1, vi v1)]) (q := 3) dX11_couldBe_42 rfl (by rfl) (by decide) rfl ?_
        refine jr_goto (pc := 45) (tgt := 4) dX11_couldBe_45 (by decide) ?_
        exact jr_sub [2, 3, 1, 0] rfl h
theorem dX11_manyThat_0 : decode cX11_manyThat 0 = .ok (.iconst 0, 1) := by decide +kernel
theorem dX11_manyThat_1 : decode cX11_manyThat 1 = .ok (.istore_n 1, 1) := by decide +kernel
theorem dX11_manyThat_2 : decode cX11_manyThat 2 = .ok (.iconst 0, 1) := by decide +kernel
theorem dX11_manyThat_3 : decode cX11_manyThat 3 = .ok (.istore_n 2, 1) := by decide +kernel
theorem dX11_manyThat_4 : decode cX11_manyThat 4 = .ok (.iload_n 2, 1) := by decide +kernel
theorem dX11_manyThat_5 : decode cX11_manyThat 5 = .ok (.iconst 1, 1) := by decide +kernel
theorem dX11_manyThat_6 : decode cX11_manyThat 6 = .ok (.aload_n 0, 1) := by decide +kernel
theorem dX11_manyThat_7 : decode cX11_manyThat 7 = .ok (.getfield 106, 3) := by decide +kernel
theorem dX11_manyThat_10 : decode cX11_manyThat 10 = .ok (.ishl, 1) := by decide +kernel
theorem dX11_manyThat_11 : decode cX11_manyThat 11 = .ok (.if_icmp .ge 25, 3) := by decide +kernel
theorem dX11_manyThat_14 : decode cX11_manyThat 14 = .ok (.iload_n 1, 1) := by decide +kernel
theorem dX11_manyThat_15 : decode cX11_manyThat 15 = .ok (.aload_n 0, 1) := by decide +kernel
theorem dX11_manyThat_16 : decode cX11_manyThat 16 = .ok (.iload_n 2, 1) := by decide +kernel
theorem dX11_manyThat_17 : decode cX11_manyThat 17 = .ok (.invokevirtual 313, 3) := by decide +kernel
theorem dX11_manyThat_20 : decode cX11_manyThat 20 = .ok (.ifCond .eq 7, 3) := by decide +kernel
theorem dX11_manyThat_23 : decode cX11_manyThat 23 = .ok (.iconst 1, 1) := by decide +kernel
theorem dX11_manyThat_24 : decode cX11_manyThat 24 = .ok (.goto 4, 3) := by decide +kernel
theorem dX11_manyThat_27 : decode cX11_manyThat 27 = .ok (.iconst 0, 1) := by decide +kernel
theorem dX11_manyThat_28 : decode cX11_manyThat 28 = .ok (.iadd, 1) := by decide +kernel
theorem dX11_manyThat_29 : decode cX11_manyThat 29 = .ok (.istore_n 1, 1) := by decide +kernel
theorem dX11_manyThat_30 : decode cX11_manyThat 30 = .ok (.iinc 2 1, 3) := by decide +kernel
theorem dX11_manyThat_33 : decode cX11_manyThat 33 = .ok (.goto (-29), 3) := by decide +kernel
theorem dX11_manyThat_36 : decode cX11_manyThat 36 = .ok (.iload_n 1, 1) := by decide +kernel
theorem dX11_manyThat_37 : decode cX11_manyThat 37 = .ok (.ireturn, 1) := by decide +kernel
set_option maxHeartbeats 4000000 in
set_option maxRecDepth 20000 in
theorem en_X11_manyThat {M : jw_Mem} {Q : Int32 → jw_Mem → Prop}  (h : jw_J 4 mX11_manyThat 4 [(0, vr 11 0), (1, vi 0), (2, vi 0)] [] M Q) : jw_M 4 mX11_manyThat [vr 11 0] M Q := by
  refine jw_M.of (by decide) (Nat.le_of_ble_eq_true rfl) ?_
  show jw_J 4 mX11_manyThat 0 [(0, vr 11 0)] [] M Q
  refine jr_iconst (pc := 0) (v := 0) dX11_manyThat_0 (by decide) ?_
  refine jr_istore_n (pc := 1) (lv' := [(1, vi 0), (0, vr 11 0)]) dX11_manyThat_1 rfl (by decide) rfl ?_
  refine jr_iconst (pc := 2) (v := 0) dX11_manyThat_2 (by decide) ?_
  refine jr_istore_n (pc := 3) (lv' := [(2, vi 0), (1, vi 0), (0, vr 11 0)]) dX11_manyThat_3 rfl (by decide) rfl ?_
  exact jr_sub [2, 1, 0] rfl h
set_option maxHeartbeats 4000000 in
set_option maxRecDepth 20000 in
theorem bk_X11_manyThat_4 {v1 : Int32} {v2 : Int32} {M : jw_Mem} {Q : Int32 → jw_Mem → Prop}  (h : ((((1 : Int32) <<< ((M 11 0 7) &&& 31)) ≤ v2 → Q v1 M) ∧ (¬ ((1 : Int32) <<< ((M 11 0 7) &&& 31)) ≤ v2 → (jw_M 3 mX11_couldBe [vr 11 0, vi v2] M (fun x1 M2 => ((x1 = 0 → jw_J 4 mX11_manyThat 4 [(0, vr 11 0), (1, vi (v1 + 0)), (2, vi (v2 + 1))] [] M2 Q) ∧ (¬ x1 = 0 → jw_J 4 mX11_manyThat 4 [(0, vr 11 0), (1, vi (v1 + 1)), (2, vi (v2 + 1))] [] M2 Q))))))) : jw_J 4 mX11_manyThat 4 [(0, vr 11 0), (1, vi v1), (2, vi v2)] [] M Q := by
  refine jr_iload_n (pc := 4) dX11_manyThat_4 rfl 2 rfl ?_
  refine jr_iconst (pc := 5) (v := 1) dX11_manyThat_5 (by decide) ?_
  refine jr_aload_n (pc := 6) dX11_manyThat_6 rfl 0 rfl ?_
  refine jr_get (pc := 7) (v := vi (M 11 0 7)) fg_X11_106 (by decide) rfl dX11_manyThat_7 ?_
  refine jr_ishl (pc := 10) dX11_manyThat_10 ?_
  refine jr_icmp_ge (pc := 11) (tgt := 36) dX11_manyThat_11 (by decide) (fun c => ?_) (fun c => ?_)
  · replace h := h.1 c
    refine jr_iload_n (pc := 36) dX11_manyThat_36 rfl 1 rfl ?_
    exact jr_iret (pc := 37) rfl dX11_manyThat_37 h
  · replace h := h.2 c
    refine jr_iload_n (pc := 14) dX11_manyThat_14 rfl 1 rfl ?_
    refine jr_aload_n (pc := 15) dX11_manyThat_15 rfl 0 rfl ?_
    refine jr_iload_n (pc := 16) dX11_manyThat_16 rfl 2 rfl ?_
    refine jr_callV (pc := 17) (d' := 3) (mt' := mX11_couldBe) (k := 11) (n := 0) (As := [vi v2]) (st := [vi v1]) fc_X11_313 (by decide) (by decide) (Nat.le_of_ble_eq_true rfl) rfl dX11_manyThat_17 (jw_M.mono h (fun x1 M2 h => ?_))
    show jw_J 4 mX11_manyThat 20 [(0, vr 11 0), (1, vi v1), (2, vi v2)] [vi x1, vi v1] M2 Q
    refine jr_if_eq (pc := 20) (tgt := 27) dX11_manyThat_20 (by decide) (fun c => ?_) (fun c => ?_)
    · replace h := h.1 c
      refine jr_iconst (pc := 27) (v := 0) dX11_manyThat_27 (by decide) ?_
      refine jr_iadd (pc := 28) dX11_manyThat_28 ?_
      refine jr_istore_n (pc := 29) (lv' := [(1, vi (v1 + 0)), (0, vr 11 0), (2, vi v2)]) dX11_manyThat_29 rfl (by decide) rfl ?_
      refine jr_iinc (pc := 30) (lv' := [(2, vi (v2 + 1)), (1, vi (v1 + 0)), (0, vr 11 0)]) (q := 2) dX11_manyThat_30 rfl (by rfl) (by decide) rfl ?_
      refine jr_goto (pc := 33) (tgt := 4) dX11_manyThat_33 (by decide) ?_
      exact jr_sub [2, 1, 0] rfl h
    · replace h := h.2 c
      refine jr_iconst (pc := 23) (v := 1) dX11_manyThat_23 (by decide) ?_
      refine jr_goto (pc := 24) (tgt := 28) dX11_manyThat_24 (by decide) ?_
      refine jr_iadd (pc := 28) dX11_manyThat_28 ?_
      refine jr_istore_n (pc := 29) (lv' := [(1, vi (v1 + 1)), (0, vr 11 0), (2, vi v2)]) dX11_manyThat_29 rfl (by decide) rfl ?_
      refine jr_iinc (pc := 30) (lv' := [(2, vi (v2 + 1)), (1, vi (v1 + 1)), (0, vr 11 0)]) (q := 2) dX11_manyThat_30 rfl (by rfl) (by decide) rfl ?_
      refine jr_goto (pc := 33) (tgt := 4) dX11_manyThat_33 (by decide) ?_
      exact jr_sub [2, 1, 0] rfl h
theorem dX11_likings_0 : decode cX11_likings 0 = .ok (.iload_n 1, 1) := by decide +kernel
theorem dX11_likings_1 : decode cX11_likings 1 = .ok (.i2l, 1) := by decide +kernel
theorem dX11_likings_2 : decode cX11_likings 2 = .ok (.lconst 0, 1) := by decide +kernel
theorem dX11_likings_3 : decode cX11_likings 3 = .ok (.lconst 1, 1) := by decide +kernel
theorem dX11_likings_4 : decode cX11_likings 4 = .ok (.invokestatic 99, 3) := by decide +kernel
theorem dX11_likings_7 : decode cX11_likings 7 = .ok (.ifCond .ne 6, 3) := by decide +kernel
theorem dX11_likings_10 : decode cX11_likings 10 = .ok (.ldc 111, 2) := by decide +kernel
theorem dX11_likings_12 : decode cX11_likings 12 = .ok (.ireturn, 1) := by decide +kernel
theorem dX11_likings_13 : decode cX11_likings 13 = .ok (.iconst (-1), 1) := by decide +kernel
theorem dX11_likings_14 : decode cX11_likings 14 = .ok (.istore_n 2, 1) := by decide +kernel
theorem dX11_likings_15 : decode cX11_likings 15 = .ok (.iconst 0, 1) := by decide +kernel
theorem dX11_likings_16 : decode cX11_likings 16 = .ok (.istore_n 3, 1) := by decide +kernel
theorem dX11_likings_17 : decode cX11_likings 17 = .ok (.iload_n 3, 1) := by decide +kernel
theorem dX11_likings_18 : decode cX11_likings 18 = .ok (.iconst 1, 1) := by decide +kernel
theorem dX11_likings_19 : decode cX11_likings 19 = .ok (.aload_n 0, 1) := by decide +kernel
theorem dX11_likings_20 : decode cX11_likings 20 = .ok (.getfield 106, 3) := by decide +kernel
theorem dX11_likings_23 : decode cX11_likings 23 = .ok (.ishl, 1) := by decide +kernel
theorem dX11_likings_24 : decode cX11_likings 24 = .ok (.if_icmp .ge 33, 3) := by decide +kernel
theorem dX11_likings_27 : decode cX11_likings 27 = .ok (.aload_n 0, 1) := by decide +kernel
theorem dX11_likings_28 : decode cX11_likings 28 = .ok (.iload_n 3, 1) := by decide +kernel
theorem dX11_likings_29 : decode cX11_likings 29 = .ok (.invokevirtual 313, 3) := by decide +kernel
theorem dX11_likings_32 : decode cX11_likings 32 = .ok (.ifCond .eq 17, 3) := by decide +kernel
theorem dX11_likings_35 : decode cX11_likings 35 = .ok (.iload_n 2, 1) := by decide +kernel
theorem dX11_likings_36 : decode cX11_likings 36 = .ok (.ifCond .ge 7, 3) := by decide +kernel
theorem dX11_likings_39 : decode cX11_likings 39 = .ok (.iload_n 3, 1) := by decide +kernel
theorem dX11_likings_40 : decode cX11_likings 40 = .ok (.goto 10, 3) := by decide +kernel
theorem dX11_likings_43 : decode cX11_likings 43 = .ok (.iload_n 2, 1) := by decide +kernel
theorem dX11_likings_44 : decode cX11_likings 44 = .ok (.iload_n 3, 1) := by decide +kernel
theorem dX11_likings_45 : decode cX11_likings 45 = .ok (.iand, 1) := by decide +kernel
theorem dX11_likings_46 : decode cX11_likings 46 = .ok (.goto 4, 3) := by decide +kernel
theorem dX11_likings_49 : decode cX11_likings 49 = .ok (.iload_n 2, 1) := by decide +kernel
theorem dX11_likings_50 : decode cX11_likings 50 = .ok (.istore_n 2, 1) := by decide +kernel
theorem dX11_likings_51 : decode cX11_likings 51 = .ok (.iinc 3 1, 3) := by decide +kernel
theorem dX11_likings_54 : decode cX11_likings 54 = .ok (.goto (-37), 3) := by decide +kernel
theorem dX11_likings_57 : decode cX11_likings 57 = .ok (.iload_n 1, 1) := by decide +kernel
theorem dX11_likings_58 : decode cX11_likings 58 = .ok (.ifCond .ne 10, 3) := by decide +kernel
theorem dX11_likings_61 : decode cX11_likings 61 = .ok (.aload_n 0, 1) := by decide +kernel
theorem dX11_likings_62 : decode cX11_likings 62 = .ok (.invokevirtual 316, 3) := by decide +kernel
theorem dX11_likings_65 : decode cX11_likings 65 = .ok (.goto 4, 3) := by decide +kernel
theorem dX11_likings_68 : decode cX11_likings 68 = .ok (.iload_n 2, 1) := by decide +kernel
theorem dX11_likings_69 : decode cX11_likings 69 = .ok (.ireturn, 1) := by decide +kernel
set_option maxHeartbeats 4000000 in
set_option maxRecDepth 20000 in
theorem en_X11_likings {a1 : Int32} {M : jw_Mem} {Q : Int32 → jw_Mem → Prop}  (h : (jw_M 0 mX11_in [vl (a1.toInt64), vl 0, vl 1] M (fun x1 M2 => ((¬ x1 = 0 → jw_J 5 mX11_likings 17 [(0, vr 11 0), (1, vi a1), (2, vi (-1)), (3, vi 0)] [] M2 Q) ∧ (x1 = 0 → Q (-1000000002) M2))))) : jw_M 5 mX11_likings [vr 11 0, vi a1] M Q := by
  refine jw_M.of (by decide) (Nat.le_of_ble_eq_true rfl) ?_
  show jw_J 5 mX11_likings 0 [(0, vr 11 0), (1, vi a1)] [] M Q
  refine jr_iload_n (pc := 0) dX11_likings_0 rfl 1 rfl ?_
  refine jr_i2l (pc := 1) dX11_likings_1 ?_
  refine jr_lconst (pc := 2) (v := 0) dX11_likings_2 (by decide) ?_
  refine jr_lconst (pc := 3) (v := 1) dX11_likings_3 (by decide) ?_
  refine jr_callS (pc := 4) (d' := 0) (mt' := mX11_in) (As := [vl (a1.toInt64), vl 0, vl 1]) (st := []) fc_X11_99 (by decide) (Nat.le_of_ble_eq_true rfl) rfl dX11_likings_4 (jw_M.mono h (fun x1 M2 h => ?_))
  show jw_J 5 mX11_likings 7 [(0, vr 11 0), (1, vi a1)] [vi x1] M2 Q
  refine jr_if_ne (pc := 7) (tgt := 13) dX11_likings_7 (by decide) (fun c => ?_) (fun c => ?_)
  · replace h := h.1 c
    refine jr_iconst (pc := 13) (v := (-1)) dX11_likings_13 (by decide) ?_
    refine jr_istore_n (pc := 14) (lv' := [(2, vi (-1)), (0, vr 11 0), (1, vi a1)]) dX11_likings_14 rfl (by decide) rfl ?_
    refine jr_iconst (pc := 15) (v := 0) dX11_likings_15 (by decide) ?_
    refine jr_istore_n (pc := 16) (lv' := [(3, vi 0), (2, vi (-1)), (0, vr 11 0), (1, vi a1)]) dX11_likings_16 rfl (by decide) rfl ?_
    exact jr_sub [2, 3, 1, 0] rfl h
  · replace h := h.2 c
    refine jr_ldc (pc := 10) fk_X11_111 dX11_likings_10 ?_
    exact jr_iret (pc := 12) rfl dX11_likings_12 h
set_option maxHeartbeats 4000000 in
set_option maxRecDepth 20000 in
theorem bk_X11_likings_17 {v1 : Int32} {v2 : Int32} {v3 : Int32} {M : jw_Mem} {Q : Int32 → jw_Mem → Prop}  (h : ((((1 : Int32) <<< ((M 11 0 7) &&& 31)) ≤ v3 → ((¬ v1 = 0 → Q v2 M) ∧ (v1 = 0 → (jw_M 4 mX11_manyThat [vr 11 0] M (fun x3 M4 => Q x3 M4))))) ∧ (¬ ((1 : Int32) <<< ((M 11 0 7) &&& 31)) ≤ v3 → (jw_M 3 mX11_couldBe [vr 11 0, vi v3] M (fun x5 M6 => ((x5 = 0 → jw_J 5 mX11_likings 17 [(0, vr 11 0), (1, vi v1), (2, vi v2), (3, vi (v3 + 1))] [] M6 Q) ∧ (¬ x5 = 0 → ((0 ≤ v2 → jw_J 5 mX11_likings 17 [(0, vr 11 0), (1, vi v1), (2, vi (v2 &&& v3)), (3, vi (v3 + 1))] [] M6 Q) ∧ (¬ 0 ≤ v2 → jw_J 5 mX11_likings 17 [(0, vr 11 0), (1, vi v1), (2, vi v3), (3, vi (v3 + 1))] [] M6 Q))))))))) : jw_J 5 mX11_likings 17 [(0, vr 11 0), (1, vi v1), (2, vi v2), (3, vi v3)] [] M Q := by
  refine jr_iload_n (pc := 17) dX11_likings_17 rfl 3 rfl ?_
  refine jr_iconst (pc := 18) (v := 1) dX11_likings_18 (by decide) ?_
  refine jr_aload_n (pc := 19) dX11_likings_19 rfl 0 rfl ?_
  refine jr_get (pc := 20) (v := vi (M 11 0 7)) fg_X11_106 (by decide) rfl dX11_likings_20 ?_
  refine jr_ishl (pc := 23) dX11_likings_23 ?_
  refine jr_icmp_ge (pc := 24) (tgt := 57) dX11_likings_24 (by decide) (fun c => ?_) (fun c => ?_)
  · replace h := h.1 c
    refine jr_iload_n (pc := 57) dX11_likings_57 rfl 1 rfl ?_
    refine jr_if_ne (pc := 58) (tgt := 68) dX11_likings_58 (by decide) (fun c => ?_) (fun c => ?_)
    · replace h := h.1 c
      refine jr_iload_n (pc := 68) dX11_likings_68 rfl 2 rfl ?_
      exact jr_iret (pc := 69) rfl dX11_likings_69 h
    · replace h := h.2 c
      refine jr_aload_n (pc := 61) dX11_likings_61 rfl 0 rfl ?_
      refine jr_callV (pc := 62) (d' := 4) (mt' := mX11_manyThat) (k := 11) (n := 0) (As := []) (st := []) fc_X11_316 (by decide) (by decide) (Nat.le_of_ble_eq_true rfl) rfl dX11_likings_62 (jw_M.mono h (fun x3 M4 h => ?_))
      show jw_J 5 mX11_likings 65 [(0, vr 11 0), (1, vi v1), (2, vi v2), (3, vi v3)] [vi x3] M4 Q
      refine jr_goto (pc := 65) (tgt := 69) dX11_likings_65 (by decide) ?_
      exact jr_iret (pc := 69) rfl dX11_likings_69 h
  · replace h := h.2 c
    refine jr_aload_n (pc := 27) dX11_likings_27 rfl 0 rfl ?_
    refine jr_iload_n (pc := 28) dX11_likings_28 rfl 3 rfl ?_
    refine jr_callV (pc := 29) (d' := 3) (mt' := mX11_couldBe) (k := 11) (n := 0) (As := [vi v3]) (st := []) fc_X11_313 (by decide) (by decide) (Nat.le_of_ble_eq_true rfl) rfl dX11_likings_29 (jw_M.mono h (fun x5 M6 h => ?_))
    show jw_J 5 mX11_likings 32 [(0, vr 11 0), (1, vi v1), (2, vi v2), (3, vi v3)] [vi x5] M6 Q
    refine jr_if_eq (pc := 32) (tgt := 49) dX11_likings_32 (by decide) (fun c => ?_) (fun c => ?_)
    · replace h := h.1 c
      refine jr_iload_n (pc := 49) dX11_likings_49 rfl 2 rfl ?_
      refine jr_istore_n (pc := 50) (lv' := [(2, vi v2), (0, vr 11 0), (1, vi v1), (3, vi v3)]) dX11_likings_50 rfl (by decide) rfl ?_
      refine jr_iinc (pc := 51) (lv' := [(3, vi (v3 + 1)), (2, vi v2), (0, vr 11 0), (1, vi v1)]) (q := 3) dX11_likings_51 rfl (by rfl) (by decide) rfl ?_
      refine jr_goto (pc := 54) (tgt := 17) dX11_likings_54 (by decide) ?_
      exact jr_sub [2, 3, 1, 0] rfl h
    · replace h := h.2 c
      refine jr_iload_n (pc := 35) dX11_likings_35 rfl 2 rfl ?_
      refine jr_if_ge (pc := 36) (tgt := 43) dX11_likings_36 (by decide) (fun c => ?_) (fun c => ?_)
      · replace h := h.1 c
        refine jr_iload_n (pc := 43) dX11_likings_43 rfl 2 rfl ?_
        refine jr_iload_n (pc := 44) dX11_likings_44 rfl 3 rfl ?_
        refine jr_iand (pc := 45) dX11_likings_45 ?_
        refine jr_goto (pc := 46) (tgt := 50) dX11_likings_46 (by decide) ?_
        refine jr_istore_n (pc := 50) (lv' := [(2, vi (v2 &&& v3)), (0, vr 11 0), (1, vi v1), (3, vi v3)]) dX11_likings_50 rfl (by decide) rfl ?_
        refine jr_iinc (pc := 51) (lv' := [(3, vi (v3 + 1)), (2, vi (v2 &&& v3)), (0, vr 11 0), (1, vi v1)]) (q := 3) dX11_likings_51 rfl (by rfl) (by decide) rfl ?_
        refine jr_goto (pc := 54) (tgt := 17) dX11_likings_54 (by decide) ?_
        exact jr_sub [2, 3, 1, 0] rfl h
      · replace h := h.2 c
        refine jr_iload_n (pc := 39) dX11_likings_39 rfl 3 rfl ?_
        refine jr_goto (pc := 40) (tgt := 50) dX11_likings_40 (by decide) ?_
        refine jr_istore_n (pc := 50) (lv' := [(2, vi v3), (0, vr 11 0), (1, vi v1), (3, vi v3)]) dX11_likings_50 rfl (by decide) rfl ?_
        refine jr_iinc (pc := 51) (lv' := [(3, vi (v3 + 1)), (2, vi v3), (0, vr 11 0), (1, vi v1)]) (q := 3) dX11_likings_51 rfl (by rfl) (by decide) rfl ?_
        refine jr_goto (pc := 54) (tgt := 17) dX11_likings_54 (by decide) ?_
        exact jr_sub [2, 3, 1, 0] rfl h
theorem dX11_greatestPart_0 : decode cX11_greatestPart 0 = .ok (.iconst 0, 1) := by decide +kernel
theorem dX11_greatestPart_1 : decode cX11_greatestPart 1 = .ok (.istore_n 2, 1) := by decide +kernel
theorem dX11_greatestPart_2 : decode cX11_greatestPart 2 = .ok (.iconst 0, 1) := by decide +kernel
theorem dX11_greatestPart_3 : decode cX11_greatestPart 3 = .ok (.istore_n 3, 1) := by decide +kernel
theorem dX11_greatestPart_4 : decode cX11_greatestPart 4 = .ok (.iload_n 3, 1) := by decide +kernel
theorem dX11_greatestPart_5 : decode cX11_greatestPart 5 = .ok (.bipush 64, 2) := by decide +kernel
theorem dX11_greatestPart_7 : decode cX11_greatestPart 7 = .ok (.if_icmp .ge 16, 3) := by decide +kernel
theorem dX11_greatestPart_10 : decode cX11_greatestPart 10 = .ok (.aload_n 0, 1) := by decide +kernel
theorem dX11_greatestPart_11 : decode cX11_greatestPart 11 = .ok (.getfield 77, 3) := by decide +kernel
theorem dX11_greatestPart_14 : decode cX11_greatestPart 14 = .ok (.iload_n 3, 1) := by decide +kernel
theorem dX11_greatestPart_15 : decode cX11_greatestPart 15 = .ok (.iconst 0, 1) := by decide +kernel
theorem dX11_greatestPart_16 : decode cX11_greatestPart 16 = .ok (.iastore, 1) := by decide +kernel
theorem dX11_greatestPart_17 : decode cX11_greatestPart 17 = .ok (.iinc 3 1, 3) := by decide +kernel
theorem dX11_greatestPart_20 : decode cX11_greatestPart 20 = .ok (.goto (-16), 3) := by decide +kernel
theorem dX11_greatestPart_23 : decode cX11_greatestPart 23 = .ok (.iconst 0, 1) := by decide +kernel
theorem dX11_greatestPart_24 : decode cX11_greatestPart 24 = .ok (.istore_n 3, 1) := by decide +kernel
theorem dX11_greatestPart_25 : decode cX11_greatestPart 25 = .ok (.iload_n 3, 1) := by decide +kernel
theorem dX11_greatestPart_26 : decode cX11_greatestPart 26 = .ok (.iconst 1, 1) := by decide +kernel
theorem dX11_greatestPart_27 : decode cX11_greatestPart 27 = .ok (.aload_n 0, 1) := by decide +kernel
theorem dX11_greatestPart_28 : decode cX11_greatestPart 28 = .ok (.getfield 106, 3) := by decide +kernel
theorem dX11_greatestPart_31 : decode cX11_greatestPart 31 = .ok (.ishl, 1) := by decide +kernel
theorem dX11_greatestPart_32 : decode cX11_greatestPart 32 = .ok (.if_icmp .ge 59, 3) := by decide +kernel
theorem dX11_greatestPart_35 : decode cX11_greatestPart 35 = .ok (.aload_n 0, 1) := by decide +kernel
theorem dX11_greatestPart_36 : decode cX11_greatestPart 36 = .ok (.iload_n 3, 1) := by decide +kernel
theorem dX11_greatestPart_37 : decode cX11_greatestPart 37 = .ok (.invokevirtual 313, 3) := by decide +kernel
theorem dX11_greatestPart_40 : decode cX11_greatestPart 40 = .ok (.ifCond .eq 45, 3) := by decide +kernel
theorem dX11_greatestPart_43 : decode cX11_greatestPart 43 = .ok (.aload_n 0, 1) := by decide +kernel
theorem dX11_greatestPart_44 : decode cX11_greatestPart 44 = .ok (.iload_n 3, 1) := by decide +kernel
theorem dX11_greatestPart_45 : decode cX11_greatestPart 45 = .ok (.iload_n 1, 1) := by decide +kernel
theorem dX11_greatestPart_46 : decode cX11_greatestPart 46 = .ok (.invokevirtual 310, 3) := by decide +kernel
theorem dX11_greatestPart_49 : decode cX11_greatestPart 49 = .ok (.istore 4, 2) := by decide +kernel
theorem dX11_greatestPart_51 : decode cX11_greatestPart 51 = .ok (.aload_n 0, 1) := by decide +kernel
theorem dX11_greatestPart_52 : decode cX11_greatestPart 52 = .ok (.getfield 77, 3) := by decide +kernel
theorem dX11_greatestPart_55 : decode cX11_greatestPart 55 = .ok (.iload 4, 2) := by decide +kernel
theorem dX11_greatestPart_57 : decode cX11_greatestPart 57 = .ok (.dup2, 1) := by decide +kernel
theorem dX11_greatestPart_58 : decode cX11_greatestPart 58 = .ok (.iaload, 1) := by decide +kernel
theorem dX11_greatestPart_59 : decode cX11_greatestPart 59 = .ok (.iconst 1, 1) := by decide +kernel
theorem dX11_greatestPart_60 : decode cX11_greatestPart 60 = .ok (.iadd, 1) := by decide +kernel
theorem dX11_greatestPart_61 : decode cX11_greatestPart 61 = .ok (.iastore, 1) := by decide +kernel
theorem dX11_greatestPart_62 : decode cX11_greatestPart 62 = .ok (.aload_n 0, 1) := by decide +kernel
theorem dX11_greatestPart_63 : decode cX11_greatestPart 63 = .ok (.getfield 77, 3) := by decide +kernel
theorem dX11_greatestPart_66 : decode cX11_greatestPart 66 = .ok (.iload 4, 2) := by decide +kernel
theorem dX11_greatestPart_68 : decode cX11_greatestPart 68 = .ok (.iaload, 1) := by decide +kernel
theorem dX11_greatestPart_69 : decode cX11_greatestPart 69 = .ok (.iload_n 2, 1) := by decide +kernel
theorem dX11_greatestPart_70 : decode cX11_greatestPart 70 = .ok (.if_icmp .le 13, 3) := by decide +kernel
theorem dX11_greatestPart_73 : decode cX11_greatestPart 73 = .ok (.aload_n 0, 1) := by decide +kernel
theorem dX11_greatestPart_74 : decode cX11_greatestPart 74 = .ok (.getfield 77, 3) := by decide +kernel
theorem dX11_greatestPart_77 : decode cX11_greatestPart 77 = .ok (.iload 4, 2) := by decide +kernel
theorem dX11_greatestPart_79 : decode cX11_greatestPart 79 = .ok (.iaload, 1) := by decide +kernel
theorem dX11_greatestPart_80 : decode cX11_greatestPart 80 = .ok (.goto 4, 3) := by decide +kernel
theorem dX11_greatestPart_83 : decode cX11_greatestPart 83 = .ok (.iload_n 2, 1) := by decide +kernel
theorem dX11_greatestPart_84 : decode cX11_greatestPart 84 = .ok (.istore_n 2, 1) := by decide +kernel
theorem dX11_greatestPart_85 : decode cX11_greatestPart 85 = .ok (.iinc 3 1, 3) := by decide +kernel
theorem dX11_greatestPart_88 : decode cX11_greatestPart 88 = .ok (.goto (-63), 3) := by decide +kernel
theorem dX11_greatestPart_91 : decode cX11_greatestPart 91 = .ok (.iload_n 2, 1) := by decide +kernel
theorem dX11_greatestPart_92 : decode cX11_greatestPart 92 = .ok (.ireturn, 1) := by decide +kernel
set_option maxHeartbeats 4000000 in
set_option maxRecDepth 20000 in
theorem en_X11_greatestPart {a1 : Int32} {M : jw_Mem} {Q : Int32 → jw_Mem → Prop}  (h : jw_J 4 mX11_greatestPart 4 [(0, vr 11 0), (1, vi a1), (2, vi 0), (3, vi 0)] [] M Q) : jw_M 4 mX11_greatestPart [vr 11 0, vi a1] M Q := by
  refine jw_M.of (by decide) (Nat.le_of_ble_eq_true rfl) ?_
  show jw_J 4 mX11_greatestPart 0 [(0, vr 11 0), (1, vi a1)] [] M Q
  refine jr_iconst (pc := 0) (v := 0) dX11_greatestPart_0 (by decide) ?_
  refine jr_istore_n (pc := 1) (lv' := [(2, vi 0), (0, vr 11 0), (1, vi a1)]) dX11_greatestPart_1 rfl (by decide) rfl ?_
  refine jr_iconst (pc := 2) (v := 0) dX11_greatestPart_2 (by decide) ?_
  refine jr_istore_n (pc := 3) (lv' := [(3, vi 0), (2, vi 0), (0, vr 11 0), (1, vi a1)]) dX11_greatestPart_3 rfl (by decide) rfl ?_
  exact jr_sub [2, 3, 1, 0] rfl h
set_option maxHeartbeats 4000000 in
set_option maxRecDepth 20000 in
theorem bk_X11_greatestPart_4 {v1 : Int32} {v2 : Int32} {v3 : Int32} {M : jw_Mem} {Q : Int32 → jw_Mem → Prop}  (h : ((64 ≤ v3 → jw_J 4 mX11_greatestPart 25 [(0, vr 11 0), (1, vi v1), (2, vi v2), (3, vi 0)] [] M Q) ∧ (¬ 64 ≤ v3 → (vp_in v3 64 ∧ (∀ M1 : jw_Mem, M1 = jw_up M 57 0 v3.toNatClampNeg 0 → jw_J 4 mX11_greatestPart 4 [(0, vr 11 0), (1, vi v1), (2, vi v2), (3, vi (v3 + 1))] [] M1 Q))))) : jw_J 4 mX11_greatestPart 4 [(0, vr 11 0), (1, vi v1), (2, vi v2), (3, vi v3)] [] M Q := by
  refine jr_iload_n (pc := 4) dX11_greatestPart_4 rfl 3 rfl ?_
  refine jr_bipush (pc := 5) (v := 64) dX11_greatestPart_5 (by decide) ?_
  refine jr_icmp_ge (pc := 7) (tgt := 23) dX11_greatestPart_7 (by decide) (fun c => ?_) (fun c => ?_)
  · replace h := h.1 c
    refine jr_iconst (pc := 23) (v := 0) dX11_greatestPart_23 (by decide) ?_
    refine jr_istore_n (pc := 24) (lv' := [(3, vi 0), (0, vr 11 0), (1, vi v1), (2, vi v2)]) dX11_greatestPart_24 rfl (by decide) rfl ?_
    exact jr_sub [1, 2, 3, 0] rfl h
  · replace h := h.2 c
    refine jr_aload_n (pc := 10) dX11_greatestPart_10 rfl 0 rfl ?_
    refine jr_get (pc := 11) (v := vr 57 0) fg_X11_77 (by decide) rfl dX11_greatestPart_11 ?_
    refine jr_iload_n (pc := 14) dX11_greatestPart_14 rfl 3 rfl ?_
    refine jr_iconst (pc := 15) (v := 0) dX11_greatestPart_15 (by decide) ?_
    refine jr_iast (pc := 16) ⟨rfl, (by decide)⟩ h.1 dX11_greatestPart_16 ?_
    replace h := h.2
    replace h := h _ rfl
    generalize jw_up M 57 0 v3.toNatClampNeg 0 = M1 at h ⊢
    refine jr_iinc (pc := 17) (lv' := [(3, vi (v3 + 1)), (0, vr 11 0), (1, vi v1), (2, vi v2)]) (q := 3) dX11_greatestPart_17 rfl (by rfl) (by decide) rfl ?_
    refine jr_goto (pc := 20) (tgt := 4) dX11_greatestPart_20 (by decide) ?_
    exact jr_sub [1, 2, 3, 0] rfl h
set_option maxHeartbeats 4000000 in
set_option maxRecDepth 20000 in
theorem bk_X11_greatestPart_25 {v1 : Int32} {v2 : Int32} {v3 : Int32} {M : jw_Mem} {Q : Int32 → jw_Mem → Prop}  (h : ((((1 : Int32) <<< ((M 11 0 7) &&& 31)) ≤ v3 → Q v2 M) ∧ (¬ ((1 : Int32) <<< ((M 11 0 7) &&& 31)) ≤ v3 → (jw_M 3 mX11_couldBe [vr 11 0, vi v3] M (fun x2 M3 => ((x2 = 0 → jw_J 4 mX11_greatestPart 25 [(0, vr 11 0), (1, vi v1), (2, vi v2), (3, vi (v3 + 1))] [] M3 Q) ∧ (¬ x2 = 0 → (jw_M 2 mX11_votesOn [vr 11 0, vi v3, vi v1] M3 (fun x4 M5 => (vp_in x4 64 ∧ (vp_in x4 64 ∧ (∀ M6 : jw_Mem, M6 = jw_up M5 57 0 x4.toNatClampNeg ((M5 57 0 x4.toNatClampNeg) + 1) → (vp_in x4 64 ∧ (((M6 57 0 x4.toNatClampNeg) ≤ v2 → jw_J 4 mX11_greatestPart 25 [(0, vr 11 0), (1, vi v1), (2, vi v2), (3, vi (v3 + 1))] [] M6 Q) ∧ (¬ (M6 57 0 x4.toNatClampNeg) ≤ v2 → (vp_in x4 64 ∧ jw_J 4 mX11_greatestPart 25 [(0, vr 11 0), (1, vi v1), (2, vi (M6 57 0 x4.toNatClampNeg)), (3, vi (v3 + 1))] [] M6 Q)))))))))))))))) : jw_J 4 mX11_greatestPart 25 [(0, vr 11 0), (1, vi v1), (2, vi v2), (3, vi v3)] [] M Q := by
  refine jr_iload_n (pc := 25) dX11_greatestPart_25 rfl 3 rfl ?_
  refine jr_iconst (pc := 26) (v := 1) dX11_greatestPart_26 (by decide) ?_
  refine jr_aload_n (pc := 27) dX11_greatestPart_27 rfl 0 rfl ?_
  refine jr_get (pc := 28) (v := vi (M 11 0 7)) fg_X11_106 (by decide) rfl dX11_greatestPart_28 ?_
  refine jr_ishl (pc := 31) dX11_greatestPart_31 ?_
  refine jr_icmp_ge (pc := 32) (tgt := 91) dX11_greatestPart_32 (by decide) (fun c => ?_) (fun c => ?_)
  · replace h := h.1 c
    refine jr_iload_n (pc := 91) dX11_greatestPart_91 rfl 2 rfl ?_
    exact jr_iret (pc := 92) rfl dX11_greatestPart_92 h
  · replace h := h.2 c
    refine jr_aload_n (pc := 35) dX11_greatestPart_35 rfl 0 rfl ?_
    refine jr_iload_n (pc := 36) dX11_greatestPart_36 rfl 3 rfl ?_
    refine jr_callV (pc := 37) (d' := 3) (mt' := mX11_couldBe) (k := 11) (n := 0) (As := [vi v3]) (st := []) fc_X11_313 (by decide) (by decide) (Nat.le_of_ble_eq_true rfl) rfl dX11_greatestPart_37 (jw_M.mono h (fun x2 M3 h => ?_))
    show jw_J 4 mX11_greatestPart 40 [(0, vr 11 0), (1, vi v1), (2, vi v2), (3, vi v3)] [vi x2] M3 Q
    refine jr_if_eq (pc := 40) (tgt := 85) dX11_greatestPart_40 (by decide) (fun c => ?_) (fun c => ?_)
    · replace h := h.1 c
      refine jr_iinc (pc := 85) (lv' := [(3, vi (v3 + 1)), (0, vr 11 0), (1, vi v1), (2, vi v2)]) (q := 3) dX11_greatestPart_85 rfl (by rfl) (by decide) rfl ?_
      refine jr_goto (pc := 88) (tgt := 25) dX11_greatestPart_88 (by decide) ?_
      exact jr_sub [1, 2, 3, 0] rfl h
    · replace h := h.2 c
      refine jr_aload_n (pc := 43) dX11_greatestPart_43 rfl 0 rfl ?_
      refine jr_iload_n (pc := 44) dX11_greatestPart_44 rfl 3 rfl ?_
      refine jr_iload_n (pc := 45) dX11_greatestPart_45 rfl 1 rfl ?_
      refine jr_callV (pc := 46) (d' := 2) (mt' := mX11_votesOn) (k := 11) (n := 0) (As := [vi v3, vi v1]) (st := []) fc_X11_310 (by decide) (by decide) (Nat.le_of_ble_eq_true rfl) rfl dX11_greatestPart_46 (jw_M.mono h (fun x4 M5 h => ?_))
      show jw_J 4 mX11_greatestPart 49 [(0, vr 11 0), (1, vi v1), (2, vi v2), (3, vi v3)] [vi x4] M5 Q
      refine jr_istore (pc := 49) (lv' := [(4, vi x4), (0, vr 11 0), (1, vi v1), (2, vi v2), (3, vi v3)]) dX11_greatestPart_49 (by decide) rfl ?_
      refine jr_aload_n (pc := 51) dX11_greatestPart_51 rfl 1 rfl ?_
      refine jr_get (pc := 52) (v := vr 57 0) fg_X11_77 (by decide) rfl dX11_greatestPart_52 ?_
      refine jr_iload (pc := 55) dX11_greatestPart_55 0 rfl ?_
      refine jr_dup2 (pc := 57) dX11_greatestPart_57 ?_
      refine jr_iald (pc := 58) ⟨rfl, (by decide)⟩ h.1 dX11_greatestPart_58 ?_
      replace h := h.2
      refine jr_iconst (pc := 59) (v := 1) dX11_greatestPart_59 (by decide) ?_
      refine jr_iadd (pc := 60) dX11_greatestPart_60 ?_
      refine jr_iast (pc := 61) ⟨rfl, (by decide)⟩ h.1 dX11_greatestPart_61 ?_
      replace h := h.2
      replace h := h _ rfl
      generalize jw_up M5 57 0 x4.toNatClampNeg ((M5 57 0 x4.toNatClampNeg) + 1) = M6 at h ⊢
      refine jr_aload_n (pc := 62) dX11_greatestPart_62 rfl 1 rfl ?_
      refine jr_get (pc := 63) (v := vr 57 0) fg_X11_77 (by decide) rfl dX11_greatestPart_63 ?_
      refine jr_iload (pc := 66) dX11_greatestPart_66 0 rfl ?_
      refine jr_iald (pc := 68) ⟨rfl, (by decide)⟩ h.1 dX11_greatestPart_68 ?_
      replace h := h.2
      refine jr_iload_n (pc := 69) dX11_greatestPart_69 rfl 3 rfl ?_
      refine jr_icmp_le (pc := 70) (tgt := 83) dX11_greatestPart_70 (by decide) (fun c => ?_) (fun c => ?_)
      · replace h := h.1 c
        refine jr_iload_n (pc := 83) dX11_greatestPart_83 rfl 3 rfl ?_
        refine jr_istore_n (pc := 84) (lv' := [(2, vi v2), (4, vi x4), (0, vr 11 0), (1, vi v1), (3, vi v3)]) dX11_greatestPart_84 rfl (by decide) rfl ?_
        refine jr_iinc (pc := 85) (lv' := [(3, vi (v3 + 1)), (2, vi v2), (4, vi x4), (0, vr 11 0), (1, vi v1)]) (q := 4) dX11_greatestPart_85 rfl (by rfl) (by decide) rfl ?_
        refine jr_goto (pc := 88) (tgt := 25) dX11_greatestPart_88 (by decide) ?_
        exact jr_sub [3, 4, 1, 0] rfl h
      · replace h := h.2 c
        refine jr_aload_n (pc := 73) dX11_greatestPart_73 rfl 1 rfl ?_
        refine jr_get (pc := 74) (v := vr 57 0) fg_X11_77 (by decide) rfl dX11_greatestPart_74 ?_
        refine jr_iload (pc := 77) dX11_greatestPart_77 0 rfl ?_
        refine jr_iald (pc := 79) ⟨rfl, (by decide)⟩ h.1 dX11_greatestPart_79 ?_
        replace h := h.2
        refine jr_goto (pc := 80) (tgt := 84) dX11_greatestPart_80 (by decide) ?_
        refine jr_istore_n (pc := 84) (lv' := [(2, vi (M6 57 0 x4.toNatClampNeg)), (4, vi x4), (0, vr 11 0), (1, vi v1), (3, vi v3)]) dX11_greatestPart_84 rfl (by decide) rfl ?_
        refine jr_iinc (pc := 85) (lv' := [(3, vi (v3 + 1)), (2, vi (M6 57 0 x4.toNatClampNeg)), (4, vi x4), (0, vr 11 0), (1, vi v1)]) (q := 4) dX11_greatestPart_85 rfl (by rfl) (by decide) rfl ?_
        refine jr_goto (pc := 88) (tgt := 25) dX11_greatestPart_88 (by decide) ?_
        exact jr_sub [3, 4, 1, 0] rfl h
theorem dX11_ladder_0 : decode cX11_ladder 0 = .ok (.iconst (-1), 1) := by decide +kernel
theorem dX11_ladder_1 : decode cX11_ladder 1 = .ok (.istore_n 1, 1) := by decide +kernel
theorem dX11_ladder_2 : decode cX11_ladder 2 = .ok (.aload_n 0, 1) := by decide +kernel
theorem dX11_ladder_3 : decode cX11_ladder 3 = .ok (.invokevirtual 316, 3) := by decide +kernel
theorem dX11_ladder_6 : decode cX11_ladder 6 = .ok (.istore_n 2, 1) := by decide +kernel
theorem dX11_ladder_7 : decode cX11_ladder 7 = .ok (.iconst 0, 1) := by decide +kernel
theorem dX11_ladder_8 : decode cX11_ladder 8 = .ok (.istore_n 3, 1) := by decide +kernel
theorem dX11_ladder_9 : decode cX11_ladder 9 = .ok (.iload_n 3, 1) := by decide +kernel
theorem dX11_ladder_10 : decode cX11_ladder 10 = .ok (.aload_n 0, 1) := by decide +kernel
theorem dX11_ladder_11 : decode cX11_ladder 11 = .ok (.getfield 96, 3) := by decide +kernel
theorem dX11_ladder_14 : decode cX11_ladder 14 = .ok (.if_icmp .ge 41, 3) := by decide +kernel
theorem dX11_ladder_17 : decode cX11_ladder 17 = .ok (.aload_n 0, 1) := by decide +kernel
theorem dX11_ladder_18 : decode cX11_ladder 18 = .ok (.iload_n 3, 1) := by decide +kernel
theorem dX11_ladder_19 : decode cX11_ladder 19 = .ok (.invokevirtual 319, 3) := by decide +kernel
theorem dX11_ladder_22 : decode cX11_ladder 22 = .ok (.istore 4, 2) := by decide +kernel
theorem dX11_ladder_24 : decode cX11_ladder 24 = .ok (.iload 4, 2) := by decide +kernel
theorem dX11_ladder_26 : decode cX11_ladder 26 = .ok (.iload_n 2, 1) := by decide +kernel
theorem dX11_ladder_27 : decode cX11_ladder 27 = .ok (.if_icmp .ge 7, 3) := by decide +kernel
theorem dX11_ladder_30 : decode cX11_ladder 30 = .ok (.iload_n 3, 1) := by decide +kernel
theorem dX11_ladder_31 : decode cX11_ladder 31 = .ok (.goto 4, 3) := by decide +kernel
theorem dX11_ladder_34 : decode cX11_ladder 34 = .ok (.iload_n 1, 1) := by decide +kernel
theorem dX11_ladder_35 : decode cX11_ladder 35 = .ok (.istore_n 1, 1) := by decide +kernel
theorem dX11_ladder_36 : decode cX11_ladder 36 = .ok (.iload 4, 2) := by decide +kernel
theorem dX11_ladder_38 : decode cX11_ladder 38 = .ok (.iload_n 2, 1) := by decide +kernel
theorem dX11_ladder_39 : decode cX11_ladder 39 = .ok (.if_icmp .ge 8, 3) := by decide +kernel
theorem dX11_ladder_42 : decode cX11_ladder 42 = .ok (.iload 4, 2) := by decide +kernel
theorem dX11_ladder_44 : decode cX11_ladder 44 = .ok (.goto 4, 3) := by decide +kernel
theorem dX11_ladder_47 : decode cX11_ladder 47 = .ok (.iload_n 2, 1) := by decide +kernel
theorem dX11_ladder_48 : decode cX11_ladder 48 = .ok (.istore_n 2, 1) := by decide +kernel
theorem dX11_ladder_49 : decode cX11_ladder 49 = .ok (.iinc 3 1, 3) := by decide +kernel
theorem dX11_ladder_52 : decode cX11_ladder 52 = .ok (.goto (-43), 3) := by decide +kernel
theorem dX11_ladder_55 : decode cX11_ladder 55 = .ok (.iload_n 1, 1) := by decide +kernel
theorem dX11_ladder_56 : decode cX11_ladder 56 = .ok (.ireturn, 1) := by decide +kernel
set_option maxHeartbeats 4000000 in
set_option maxRecDepth 20000 in
theorem en_X11_ladder {M : jw_Mem} {Q : Int32 → jw_Mem → Prop}  (h : (jw_M 4 mX11_manyThat [vr 11 0] M (fun x1 M2 => jw_J 5 mX11_ladder 9 [(0, vr 11 0), (1, vi (-1)), (2, vi x1), (3, vi 0)] [] M2 Q))) : jw_M 5 mX11_ladder [vr 11 0] M Q := by
  refine jw_M.of (by decide) (Nat.le_of_ble_eq_true rfl) ?_
  show jw_J 5 mX11_ladder 0 [(0, vr 11 0)] [] M Q
  refine jr_iconst (pc := 0) (v := (-1)) dX11_ladder_0 (by decide) ?_
  refine jr_istore_n (pc := 1) (lv' := [(1, vi (-1)), (0, vr 11 0)]) dX11_ladder_1 rfl (by decide) rfl ?_
  refine jr_aload_n (pc := 2) dX11_ladder_2 rfl 1 rfl ?_
  refine jr_callV (pc := 3) (d' := 4) (mt' := mX11_manyThat) (k := 11) (n := 0) (As := []) (st := []) fc_X11_316 (by decide) (by decide) (Nat.le_of_ble_eq_true rfl) rfl dX11_ladder_3 (jw_M.mono h (fun x1 M2 h => ?_))
  show jw_J 5 mX11_ladder 6 [(1, vi (-1)), (0, vr 11 0)] [vi x1] M2 Q
  refine jr_istore_n (pc := 6) (lv' := [(2, vi x1), (1, vi (-1)), (0, vr 11 0)]) dX11_ladder_6 rfl (by decide) rfl ?_
  refine jr_iconst (pc := 7) (v := 0) dX11_ladder_7 (by decide) ?_
  refine jr_istore_n (pc := 8) (lv' := [(3, vi 0), (2, vi x1), (1, vi (-1)), (0, vr 11 0)]) dX11_ladder_8 rfl (by decide) rfl ?_
  exact jr_sub [3, 2, 1, 0] rfl h
set_option maxHeartbeats 4000000 in
set_option maxRecDepth 20000 in
theorem bk_X11_ladder_9 {v1 : Int32} {v2 : Int32} {v3 : Int32} {M : jw_Mem} {Q : Int32 → jw_Mem → Prop}  (h : (((M 11 0 1) ≤ v3 → Q v1 M) ∧ (¬ (M 11 0 1) ≤ v3 → (jw_M 4 mX11_greatestPart [vr 11 0, vi v3] M (fun x3 M4 => ((v2 ≤ x3 → ((v2 ≤ x3 → jw_J 5 mX11_ladder 9 [(0, vr 11 0), (1, vi v1), (2, vi v2), (3, vi (v3 + 1))] [] M4 Q) ∧ (¬ v2 ≤ x3 → jw_J 5 mX11_ladder 9 [(0, vr 11 0), (1, vi v1), (2, vi x3), (3, vi (v3 + 1))] [] M4 Q))) ∧ (¬ v2 ≤ x3 → ((v2 ≤ x3 → jw_J 5 mX11_ladder 9 [(0, vr 11 0), (1, vi v3), (2, vi v2), (3, vi (v3 + 1))] [] M4 Q) ∧ (¬ v2 ≤ x3 → jw_J 5 mX11_ladder 9 [(0, vr 11 0), (1, vi v3), (2, vi x3), (3, vi (v3 + 1))] [] M4 Q))))))))) : jw_J 5 mX11_ladder 9 [(0, vr 11 0), (1, vi v1), (2, vi v2), (3, vi v3)] [] M Q := by
  refine jr_iload_n (pc := 9) dX11_ladder_9 rfl 3 rfl ?_
  refine jr_aload_n (pc := 10) dX11_ladder_10 rfl 0 rfl ?_
  refine jr_get (pc := 11) (v := vi (M 11 0 1)) fg_X11_96 (by decide) rfl dX11_ladder_11 ?_
  refine jr_icmp_ge (pc := 14) (tgt := 55) dX11_ladder_14 (by decide) (fun c => ?_) (fun c => ?_)
  · replace h := h.1 c
    refine jr_iload_n (pc := 55) dX11_ladder_55 rfl 1 rfl ?_
    exact jr_iret (pc := 56) rfl dX11_ladder_56 h
  · replace h := h.2 c
    refine jr_aload_n (pc := 17) dX11_ladder_17 rfl 0 rfl ?_
    refine jr_iload_n (pc := 18) dX11_ladder_18 rfl 3 rfl ?_
    refine jr_callV (pc := 19) (d' := 4) (mt' := mX11_greatestPart) (k := 11) (n := 0) (As := [vi v3]) (st := []) fc_X11_319 (by decide) (by decide) (Nat.le_of_ble_eq_true rfl) rfl dX11_ladder_19 (jw_M.mono h (fun x3 M4 h => ?_))
    show jw_J 5 mX11_ladder 22 [(0, vr 11 0), (1, vi v1), (2, vi v2), (3, vi v3)] [vi x3] M4 Q
    refine jr_istore (pc := 22) (lv' := [(4, vi x3), (0, vr 11 0), (1, vi v1), (2, vi v2), (3, vi v3)]) dX11_ladder_22 (by decide) rfl ?_
    refine jr_iload (pc := 24) dX11_ladder_24 0 rfl ?_
    refine jr_iload_n (pc := 26) dX11_ladder_26 rfl 3 rfl ?_
    refine jr_icmp_ge (pc := 27) (tgt := 34) dX11_ladder_27 (by decide) (fun c => ?_) (fun c => ?_)
    · replace h := h.1 c
      refine jr_iload_n (pc := 34) dX11_ladder_34 rfl 2 rfl ?_
      refine jr_istore_n (pc := 35) (lv' := [(1, vi v1), (4, vi x3), (0, vr 11 0), (2, vi v2), (3, vi v3)]) dX11_ladder_35 rfl (by decide) rfl ?_
      refine jr_iload (pc := 36) dX11_ladder_36 1 rfl ?_
      refine jr_iload_n (pc := 38) dX11_ladder_38 rfl 3 rfl ?_
      refine jr_icmp_ge (pc := 39) (tgt := 47) dX11_ladder_39 (by decide) (fun c => ?_) (fun c => ?_)
      · replace h := h.1 c
        refine jr_iload_n (pc := 47) dX11_ladder_47 rfl 3 rfl ?_
        refine jr_istore_n (pc := 48) (lv' := [(2, vi v2), (1, vi v1), (4, vi x3), (0, vr 11 0), (3, vi v3)]) dX11_ladder_48 rfl (by decide) rfl ?_
        refine jr_iinc (pc := 49) (lv' := [(3, vi (v3 + 1)), (2, vi v2), (1, vi v1), (4, vi x3), (0, vr 11 0)]) (q := 4) dX11_ladder_49 rfl (by rfl) (by decide) rfl ?_
        refine jr_goto (pc := 52) (tgt := 9) dX11_ladder_52 (by decide) ?_
        exact jr_sub [4, 2, 1, 0] rfl h
      · replace h := h.2 c
        refine jr_iload (pc := 42) dX11_ladder_42 1 rfl ?_
        refine jr_goto (pc := 44) (tgt := 48) dX11_ladder_44 (by decide) ?_
        refine jr_istore_n (pc := 48) (lv' := [(2, vi x3), (1, vi v1), (4, vi x3), (0, vr 11 0), (3, vi v3)]) dX11_ladder_48 rfl (by decide) rfl ?_
        refine jr_iinc (pc := 49) (lv' := [(3, vi (v3 + 1)), (2, vi x3), (1, vi v1), (4, vi x3), (0, vr 11 0)]) (q := 4) dX11_ladder_49 rfl (by rfl) (by decide) rfl ?_
        refine jr_goto (pc := 52) (tgt := 9) dX11_ladder_52 (by decide) ?_
        exact jr_sub [4, 2, 1, 0] rfl h
    · replace h := h.2 c
      refine jr_iload_n (pc := 30) dX11_ladder_30 rfl 4 rfl ?_
      refine jr_goto (pc := 31) (tgt := 35) dX11_ladder_31 (by decide) ?_
      refine jr_istore_n (pc := 35) (lv' := [(1, vi v3), (4, vi x3), (0, vr 11 0), (2, vi v2), (3, vi v3)]) dX11_ladder_35 rfl (by decide) rfl ?_
      refine jr_iload (pc := 36) dX11_ladder_36 1 rfl ?_
      refine jr_iload_n (pc := 38) dX11_ladder_38 rfl 3 rfl ?_
      refine jr_icmp_ge (pc := 39) (tgt := 47) dX11_ladder_39 (by decide) (fun c => ?_) (fun c => ?_)
      · replace h := h.1 c
        refine jr_iload_n (pc := 47) dX11_ladder_47 rfl 3 rfl ?_
        refine jr_istore_n (pc := 48) (lv' := [(2, vi v2), (1, vi v3), (4, vi x3), (0, vr 11 0), (3, vi v3)]) dX11_ladder_48 rfl (by decide) rfl ?_
        refine jr_iinc (pc := 49) (lv' := [(3, vi (v3 + 1)), (2, vi v2), (1, vi v3), (4, vi x3), (0, vr 11 0)]) (q := 4) dX11_ladder_49 rfl (by rfl) (by decide) rfl ?_
        refine jr_goto (pc := 52) (tgt := 9) dX11_ladder_52 (by decide) ?_
        exact jr_sub [4, 2, 1, 0] rfl h
      · replace h := h.2 c
        refine jr_iload (pc := 42) dX11_ladder_42 1 rfl ?_
        refine jr_goto (pc := 44) (tgt := 48) dX11_ladder_44 (by decide) ?_
        refine jr_istore_n (pc := 48) (lv' := [(2, vi x3), (1, vi v3), (4, vi x3), (0, vr 11 0), (3, vi v3)]) dX11_ladder_48 rfl (by decide) rfl ?_
        refine jr_iinc (pc := 49) (lv' := [(3, vi (v3 + 1)), (2, vi x3), (1, vi v3), (4, vi x3), (0, vr 11 0)]) (q := 4) dX11_ladder_49 rfl (by rfl) (by decide) rfl ?_
        refine jr_goto (pc := 52) (tgt := 9) dX11_ladder_52 (by decide) ?_
        exact jr_sub [4, 2, 1, 0] rfl h
theorem dX11_write_0 : decode cX11_write 0 = .ok (.aload_n 0, 1) := by decide +kernel
theorem dX11_write_1 : decode cX11_write 1 = .ok (.iload_n 1, 1) := by decide +kernel
theorem dX11_write_2 : decode cX11_write 2 = .ok (.invokevirtual 242, 3) := by decide +kernel
theorem dX11_write_5 : decode cX11_write 5 = .ok (.ifCond .eq 16, 3) := by decide +kernel
theorem dX11_write_8 : decode cX11_write 8 = .ok (.iload_n 2, 1) := by decide +kernel
theorem dX11_write_9 : decode cX11_write 9 = .ok (.iconst (-1), 1) := by decide +kernel
theorem dX11_write_10 : decode cX11_write 10 = .ok (.if_icmp .eq 14, 3) := by decide +kernel
theorem dX11_write_13 : decode cX11_write 13 = .ok (.aload_n 0, 1) := by decide +kernel
theorem dX11_write_14 : decode cX11_write 14 = .ok (.iload_n 2, 1) := by decide +kernel
theorem dX11_write_15 : decode cX11_write 15 = .ok (.invokevirtual 238, 3) := by decide +kernel
theorem dX11_write_18 : decode cX11_write 18 = .ok (.ifCond .ne 6, 3) := by decide +kernel
theorem dX11_write_21 : decode cX11_write 21 = .ok (.ldc 241, 2) := by decide +kernel
theorem dX11_write_23 : decode cX11_write 23 = .ok (.ireturn, 1) := by decide +kernel
theorem dX11_write_24 : decode cX11_write 24 = .ok (.aload_n 0, 1) := by decide +kernel
theorem dX11_write_25 : decode cX11_write 25 = .ok (.getfield 189, 3) := by decide +kernel
theorem dX11_write_28 : decode cX11_write 28 = .ok (.bipush 15, 2) := by decide +kernel
theorem dX11_write_30 : decode cX11_write 30 = .ok (.if_icmp .ne 6, 3) := by decide +kernel
theorem dX11_write_33 : decode cX11_write 33 = .ok (.ldc 115, 2) := by decide +kernel
theorem dX11_write_35 : decode cX11_write 35 = .ok (.ireturn, 1) := by decide +kernel
theorem dX11_write_36 : decode cX11_write 36 = .ok (.aload_n 0, 1) := by decide +kernel
theorem dX11_write_37 : decode cX11_write 37 = .ok (.getfield 80, 3) := by decide +kernel
theorem dX11_write_40 : decode cX11_write 40 = .ok (.aload_n 0, 1) := by decide +kernel
theorem dX11_write_41 : decode cX11_write 41 = .ok (.getfield 189, 3) := by decide +kernel
theorem dX11_write_44 : decode cX11_write 44 = .ok (.iload_n 1, 1) := by decide +kernel
theorem dX11_write_45 : decode cX11_write 45 = .ok (.iastore, 1) := by decide +kernel
theorem dX11_write_46 : decode cX11_write 46 = .ok (.aload_n 0, 1) := by decide +kernel
theorem dX11_write_47 : decode cX11_write 47 = .ok (.getfield 83, 3) := by decide +kernel
theorem dX11_write_50 : decode cX11_write 50 = .ok (.aload_n 0, 1) := by decide +kernel
theorem dX11_write_51 : decode cX11_write 51 = .ok (.getfield 189, 3) := by decide +kernel
theorem dX11_write_54 : decode cX11_write 54 = .ok (.iload_n 2, 1) := by decide +kernel
theorem dX11_write_55 : decode cX11_write 55 = .ok (.iastore, 1) := by decide +kernel
theorem dX11_write_56 : decode cX11_write 56 = .ok (.aload_n 0, 1) := by decide +kernel
theorem dX11_write_57 : decode cX11_write 57 = .ok (.dup, 1) := by decide +kernel
theorem dX11_write_58 : decode cX11_write 58 = .ok (.getfield 189, 3) := by decide +kernel
theorem dX11_write_61 : decode cX11_write 61 = .ok (.iconst 1, 1) := by decide +kernel
theorem dX11_write_62 : decode cX11_write 62 = .ok (.iadd, 1) := by decide +kernel
theorem dX11_write_63 : decode cX11_write 63 = .ok (.putfield 189, 3) := by decide +kernel
theorem dX11_write_66 : decode cX11_write 66 = .ok (.aload_n 0, 1) := by decide +kernel
theorem dX11_write_67 : decode cX11_write 67 = .ok (.getfield 189, 3) := by decide +kernel
theorem dX11_write_70 : decode cX11_write 70 = .ok (.ireturn, 1) := by decide +kernel
set_option maxHeartbeats 4000000 in
set_option maxRecDepth 20000 in
theorem en_X11_write {a1 : Int32} {a2 : Int32} {M : jw_Mem} {Q : Int32 → jw_Mem → Prop}  (h : (jw_M 1 mX11_isStatue [vr 11 0, vi a1] M (fun x1 M2 => ((x1 = 0 → Q (-1000000001) M2) ∧ (¬ x1 = 0 → ((a2 = (-1) → ((¬ (M2 11 0 38) = 15 → (vp_in (M2 11 0 38) 15 ∧ (∀ M3 : jw_Mem, M3 = jw_up M2 58 0 ((M2 11 0 38) : Int32).toNatClampNeg a1 → (vp_in (M3 11 0 38) 15 ∧ (∀ M4 : jw_Mem, M4 = jw_up M3 59 0 ((M3 11 0 38) : Int32).toNatClampNeg a2 → (∀ M5 : jw_Mem, M5 = jw_up M4 11 0 38 ((M4 11 0 38) + 1) → Q (M5 11 0 38) M5)))))) ∧ ((M2 11 0 38) = 15 → Q (-1000000004) M2))) ∧ (¬ a2 = (-1) → (jw_M 1 mX11_isPlinth [vr 11 0, vi a2] M2 (fun x6 M7 => ((¬ x6 = 0 → ((¬ (M7 11 0 38) = 15 → (vp_in (M7 11 0 38) 15 ∧ (∀ M8 : jw_Mem, M8 = jw_up M7 58 0 ((M7 11 0 38) : Int32).toNatClampNeg a1 → (vp_in (M8 11 0 38) 15 ∧ (∀ M9 : jw_Mem, M9 = jw_up M8 59 0 ((M8 11 0 38) : Int32).toNatClampNeg a2 → (∀ M10 : jw_Mem, M10 = jw_up M9 11 0 38 ((M9 11 0 38) + 1) → Q (M10 11 0 38) M10)))))) ∧ ((M7 11 0 38) = 15 → Q (-1000000004) M7))) ∧ (x6 = 0 → Q (-1000000001) M7))))))))))) : jw_M 2 mX11_write [vr 11 0, vi a1, vi a2] M Q := by
  refine jw_M.of (by decide) (Nat.le_of_ble_eq_true rfl) ?_
  show jw_J 2 mX11_write 0 [(0, vr 11 0), (1, vi a1), (2, vi a2)] [] M Q
  refine jr_aload_n (pc := 0) dX11_write_0 rfl 0 rfl ?_
  refine jr_iload_n (pc := 1) dX11_write_1 rfl 1 rfl ?_
  refine jr_callV (pc := 2) (d' := 1) (mt' := mX11_isStatue) (k := 11) (n := 0) (As := [vi a1]) (st := []) fc_X11_242 (by decide) (by decide) (Nat.le_of_ble_eq_true rfl) rfl dX11_write_2 (jw_M.mono h (fun x1 M2 h => ?_))
  show jw_J 2 mX11_write 5 [(0, vr 11 0), (1, vi a1), (2, vi a2)] [vi x1] M2 Q
  refine jr_if_eq (pc := 5) (tgt := 21) dX11_write_5 (by decide) (fun c => ?_) (fun c => ?_)
  · replace h := h.1 c
    refine jr_ldc (pc := 21) fk_X11_241 dX11_write_21 ?_
    exact jr_iret (pc := 23) rfl dX11_write_23 h
  · replace h := h.2 c
    refine jr_iload_n (pc := 8) dX11_write_8 rfl 2 rfl ?_
    refine jr_iconst (pc := 9) (v := (-1)) dX11_write_9 (by decide) ?_
    refine jr_icmp_eq (pc := 10) (tgt := 24) dX11_write_10 (by decide) (fun c => ?_) (fun c => ?_)
    · replace h := h.1 c
      refine jr_aload_n (pc := 24) dX11_write_24 rfl 0 rfl ?_
      refine jr_get (pc := 25) (v := vi (M2 11 0 38)) fg_X11_189 (by decide) rfl dX11_write_25 ?_
      refine jr_bipush (pc := 28) (v := 15) dX11_write_28 (by decide) ?_
      refine jr_icmp_ne (pc := 30) (tgt := 36) dX11_write_30 (by decide) (fun c => ?_) (fun c => ?_)
      · replace h := h.1 c
        refine jr_aload_n (pc := 36) dX11_write_36 rfl 0 rfl ?_
        refine jr_get (pc := 37) (v := vr 58 0) fg_X11_80 (by decide) rfl dX11_write_37 ?_
        refine jr_aload_n (pc := 40) dX11_write_40 rfl 0 rfl ?_
        refine jr_get (pc := 41) (v := vi (M2 11 0 38)) fg_X11_189 (by decide) rfl dX11_write_41 ?_
        refine jr_iload_n (pc := 44) dX11_write_44 rfl 1 rfl ?_
        refine jr_iast (pc := 45) ⟨rfl, (by decide)⟩ h.1 dX11_write_45 ?_
        replace h := h.2
        replace h := h _ rfl
        generalize jw_up M2 58 0 ((M2 11 0 38) : Int32).toNatClampNeg a1 = M3 at h ⊢
        refine jr_aload_n (pc := 46) dX11_write_46 rfl 0 rfl ?_
        refine jr_get (pc := 47) (v := vr 59 0) fg_X11_83 (by decide) rfl dX11_write_47 ?_
        refine jr_aload_n (pc := 50) dX11_write_50 rfl 0 rfl ?_
        refine jr_get (pc := 51) (v := vi (M3 11 0 38)) fg_X11_189 (by decide) rfl dX11_write_51 ?_
        refine jr_iload_n (pc := 54) dX11_write_54 rfl 2 rfl ?_
        refine jr_iast (pc := 55) ⟨rfl, (by decide)⟩ h.1 dX11_write_55 ?_
        replace h := h.2
        replace h := h _ rfl
        generalize jw_up M3 59 0 ((M3 11 0 38) : Int32).toNatClampNeg a2 = M4 at h ⊢
        refine jr_aload_n (pc := 56) dX11_write_56 rfl 0 rfl ?_
        refine jr_dup_r (pc := 57) dX11_write_57 ?_
        refine jr_get (pc := 58) (v := vi (M4 11 0 38)) fg_X11_189 (by decide) rfl dX11_write_58 ?_
        refine jr_iconst (pc := 61) (v := 1) dX11_write_61 (by decide) ?_
        refine jr_iadd (pc := 62) dX11_write_62 ?_
        refine jr_put (pc := 63) fp_X11_189 (by decide) (Or.inl ⟨_, _, _, rfl, by decide +kernel⟩) dX11_write_63 ?_
        replace h := h _ rfl
        generalize jw_up M4 11 0 38 ((M4 11 0 38) + 1) = M5 at h ⊢
        refine jr_aload_n (pc := 66) dX11_write_66 rfl 0 rfl ?_
        refine jr_get (pc := 67) (v := vi (M5 11 0 38)) fg_X11_189 (by decide) rfl dX11_write_67 ?_
        exact jr_iret (pc := 70) rfl dX11_write_70 h
      · replace h := h.2 c
        refine jr_ldc (pc := 33) fk_X11_115 dX11_write_33 ?_
        exact jr_iret (pc := 35) rfl dX11_write_35 h
    · replace h := h.2 c
      refine jr_aload_n (pc := 13) dX11_write_13 rfl 0 rfl ?_
      refine jr_iload_n (pc := 14) dX11_write_14 rfl 2 rfl ?_
      refine jr_callV (pc := 15) (d' := 1) (mt' := mX11_isPlinth) (k := 11) (n := 0) (As := [vi a2]) (st := []) fc_X11_238 (by decide) (by decide) (Nat.le_of_ble_eq_true rfl) rfl dX11_write_15 (jw_M.mono h (fun x6 M7 h => ?_))
      show jw_J 2 mX11_write 18 [(0, vr 11 0), (1, vi a1), (2, vi a2)] [vi x6] M7 Q
      refine jr_if_ne (pc := 18) (tgt := 24) dX11_write_18 (by decide) (fun c => ?_) (fun c => ?_)
      · replace h := h.1 c
        refine jr_aload_n (pc := 24) dX11_write_24 rfl 0 rfl ?_
        refine jr_get (pc := 25) (v := vi (M7 11 0 38)) fg_X11_189 (by decide) rfl dX11_write_25 ?_
        refine jr_bipush (pc := 28) (v := 15) dX11_write_28 (by decide) ?_
        refine jr_icmp_ne (pc := 30) (tgt := 36) dX11_write_30 (by decide) (fun c => ?_) (fun c => ?_)
        · replace h := h.1 c
          refine jr_aload_n (pc := 36) dX11_write_36 rfl 0 rfl ?_
          refine jr_get (pc := 37) (v := vr 58 0) fg_X11_80 (by decide) rfl dX11_write_37 ?_
          refine jr_aload_n (pc := 40) dX11_write_40 rfl 0 rfl ?_
          refine jr_get (pc := 41) (v := vi (M7 11 0 38)) fg_X11_189 (by decide) rfl dX11_write_41 ?_
          refine jr_iload_n (pc := 44) dX11_write_44 rfl 1 rfl ?_
          refine jr_iast (pc := 45) ⟨rfl, (by decide)⟩ h.1 dX11_write_45 ?_
          replace h := h.2
          replace h := h _ rfl
          generalize jw_up M7 58 0 ((M7 11 0 38) : Int32).toNatClampNeg a1 = M8 at h ⊢
          refine jr_aload_n (pc := 46) dX11_write_46 rfl 0 rfl ?_
          refine jr_get (pc := 47) (v := vr 59 0) fg_X11_83 (by decide) rfl dX11_write_47 ?_
          refine jr_aload_n (pc := 50) dX11_write_50 rfl 0 rfl ?_
          refine jr_get (pc := 51) (v := vi (M8 11 0 38)) fg_X11_189 (by decide) rfl dX11_write_51 ?_
          refine jr_iload_n (pc := 54) dX11_write_54 rfl 2 rfl ?_
          refine jr_iast (pc := 55) ⟨rfl, (by decide)⟩ h.1 dX11_write_55 ?_
          replace h := h.2
          replace h := h _ rfl
          generalize jw_up M8 59 0 ((M8 11 0 38) : Int32).toNatClampNeg a2 = M9 at h ⊢
          refine jr_aload_n (pc := 56) dX11_write_56 rfl 0 rfl ?_
          refine jr_dup_r (pc := 57) dX11_write_57 ?_
          refine jr_get (pc := 58) (v := vi (M9 11 0 38)) fg_X11_189 (by decide) rfl dX11_write_58 ?_
          refine jr_iconst (pc := 61) (v := 1) dX11_write_61 (by decide) ?_
          refine jr_iadd (pc := 62) dX11_write_62 ?_
          refine jr_put (pc := 63) fp_X11_189 (by decide) (Or.inl ⟨_, _, _, rfl, by decide +kernel⟩) dX11_write_63 ?_
          replace h := h _ rfl
          generalize jw_up M9 11 0 38 ((M9 11 0 38) + 1) = M10 at h ⊢
          refine jr_aload_n (pc := 66) dX11_write_66 rfl 0 rfl ?_
          refine jr_get (pc := 67) (v := vi (M10 11 0 38)) fg_X11_189 (by decide) rfl dX11_write_67 ?_
          exact jr_iret (pc := 70) rfl dX11_write_70 h
        · replace h := h.2 c
          refine jr_ldc (pc := 33) fk_X11_115 dX11_write_33 ?_
          exact jr_iret (pc := 35) rfl dX11_write_35 h
      · replace h := h.2 c
        refine jr_ldc (pc := 21) fk_X11_241 dX11_write_21 ?_
        exact jr_iret (pc := 23) rfl dX11_write_23 h
theorem dX11_tear_0 : decode cX11_tear 0 = .ok (.aload_n 0, 1) := by decide +kernel
theorem dX11_tear_1 : decode cX11_tear 1 = .ok (.getfield 186, 3) := by decide +kernel
theorem dX11_tear_4 : decode cX11_tear 4 = .ok (.aload_n 0, 1) := by decide +kernel
theorem dX11_tear_5 : decode cX11_tear 5 = .ok (.getfield 189, 3) := by decide +kernel
theorem dX11_tear_8 : decode cX11_tear 8 = .ok (.iadd, 1) := by decide +kernel
theorem dX11_tear_9 : decode cX11_tear 9 = .ok (.istore_n 1, 1) := by decide +kernel
theorem dX11_tear_10 : decode cX11_tear 10 = .ok (.aload_n 0, 1) := by decide +kernel
theorem dX11_tear_11 : decode cX11_tear 11 = .ok (.iconst 0, 1) := by decide +kernel
theorem dX11_tear_12 : decode cX11_tear 12 = .ok (.putfield 186, 3) := by decide +kernel
theorem dX11_tear_15 : decode cX11_tear 15 = .ok (.aload_n 0, 1) := by decide +kernel
theorem dX11_tear_16 : decode cX11_tear 16 = .ok (.iconst 0, 1) := by decide +kernel
theorem dX11_tear_17 : decode cX11_tear 17 = .ok (.putfield 189, 3) := by decide +kernel
theorem dX11_tear_20 : decode cX11_tear 20 = .ok (.iload_n 1, 1) := by decide +kernel
theorem dX11_tear_21 : decode cX11_tear 21 = .ok (.ireturn, 1) := by decide +kernel
set_option maxHeartbeats 4000000 in
set_option maxRecDepth 20000 in
theorem en_X11_tear {M : jw_Mem} {Q : Int32 → jw_Mem → Prop}  (h : (∀ M1 : jw_Mem, M1 = jw_up M 11 0 34 0 → (∀ M2 : jw_Mem, M2 = jw_up M1 11 0 38 0 → Q ((M 11 0 34) + (M 11 0 38)) M2))) : jw_M 0 mX11_tear [vr 11 0] M Q := by
  refine jw_M.of (by decide) (Nat.le_of_ble_eq_true rfl) ?_
  show jw_J 0 mX11_tear 0 [(0, vr 11 0)] [] M Q
  refine jr_aload_n (pc := 0) dX11_tear_0 rfl 0 rfl ?_
  refine jr_get (pc := 1) (v := vi (M 11 0 34)) fg_X11_186 (by decide) rfl dX11_tear_1 ?_
  refine jr_aload_n (pc := 4) dX11_tear_4 rfl 0 rfl ?_
  refine jr_get (pc := 5) (v := vi (M 11 0 38)) fg_X11_189 (by decide) rfl dX11_tear_5 ?_
  refine jr_iadd (pc := 8) dX11_tear_8 ?_
  refine jr_istore_n (pc := 9) (lv' := [(1, vi ((M 11 0 34) + (M 11 0 38))), (0, vr 11 0)]) dX11_tear_9 rfl (by decide) rfl ?_
  refine jr_aload_n (pc := 10) dX11_tear_10 rfl 1 rfl ?_
  refine jr_iconst (pc := 11) (v := 0) dX11_tear_11 (by decide) ?_
  refine jr_put (pc := 12) fp_X11_186 (by decide) (Or.inl ⟨_, _, _, rfl, by decide +kernel⟩) dX11_tear_12 ?_
  replace h := h _ rfl
  generalize jw_up M 11 0 34 0 = M1 at h ⊢
  refine jr_aload_n (pc := 15) dX11_tear_15 rfl 1 rfl ?_
  refine jr_iconst (pc := 16) (v := 0) dX11_tear_16 (by decide) ?_
  refine jr_put (pc := 17) fp_X11_189 (by decide) (Or.inl ⟨_, _, _, rfl, by decide +kernel⟩) dX11_tear_17 ?_
  replace h := h _ rfl
  generalize jw_up M1 11 0 38 0 = M2 at h ⊢
  refine jr_iload_n (pc := 20) dX11_tear_20 rfl 0 rfl ?_
  exact jr_iret (pc := 21) rfl dX11_tear_21 h
theorem dX11_judge_0 : decode cX11_judge 0 = .ok (.iconst 0, 1) := by decide +kernel
theorem dX11_judge_1 : decode cX11_judge 1 = .ok (.istore_n 1, 1) := by decide +kernel
theorem dX11_judge_2 : decode cX11_judge 2 = .ok (.iload_n 1, 1) := by decide +kernel
theorem dX11_judge_3 : decode cX11_judge 3 = .ok (.aload_n 0, 1) := by decide +kernel
theorem dX11_judge_4 : decode cX11_judge 4 = .ok (.getfield 189, 3) := by decide +kernel
theorem dX11_judge_7 : decode cX11_judge 7 = .ok (.if_icmp .ge 31, 3) := by decide +kernel
theorem dX11_judge_10 : decode cX11_judge 10 = .ok (.aload_n 0, 1) := by decide +kernel
theorem dX11_judge_11 : decode cX11_judge 11 = .ok (.getfield 31, 3) := by decide +kernel
theorem dX11_judge_14 : decode cX11_judge 14 = .ok (.aload_n 0, 1) := by decide +kernel
theorem dX11_judge_15 : decode cX11_judge 15 = .ok (.getfield 80, 3) := by decide +kernel
theorem dX11_judge_18 : decode cX11_judge 18 = .ok (.iload_n 1, 1) := by decide +kernel
theorem dX11_judge_19 : decode cX11_judge 19 = .ok (.iaload, 1) := by decide +kernel
theorem dX11_judge_20 : decode cX11_judge 20 = .ok (.iaload, 1) := by decide +kernel
theorem dX11_judge_21 : decode cX11_judge 21 = .ok (.aload_n 0, 1) := by decide +kernel
theorem dX11_judge_22 : decode cX11_judge 22 = .ok (.getfield 83, 3) := by decide +kernel
theorem dX11_judge_25 : decode cX11_judge 25 = .ok (.iload_n 1, 1) := by decide +kernel
theorem dX11_judge_26 : decode cX11_judge 26 = .ok (.iaload, 1) := by decide +kernel
theorem dX11_judge_27 : decode cX11_judge 27 = .ok (.if_icmp .eq 5, 3) := by decide +kernel
theorem dX11_judge_30 : decode cX11_judge 30 = .ok (.iload_n 1, 1) := by decide +kernel
theorem dX11_judge_31 : decode cX11_judge 31 = .ok (.ireturn, 1) := by decide +kernel
theorem dX11_judge_32 : decode cX11_judge 32 = .ok (.iinc 1 1, 3) := by decide +kernel
theorem dX11_judge_35 : decode cX11_judge 35 = .ok (.goto (-33), 3) := by decide +kernel
theorem dX11_judge_38 : decode cX11_judge 38 = .ok (.iconst (-1), 1) := by decide +kernel
theorem dX11_judge_39 : decode cX11_judge 39 = .ok (.ireturn, 1) := by decide +kernel
set_option maxHeartbeats 4000000 in
set_option maxRecDepth 20000 in
theorem en_X11_judge {M : jw_Mem} {Q : Int32 → jw_Mem → Prop}  (h : jw_J 0 mX11_judge 2 [(0, vr 11 0), (1, vi 0)] [] M Q) : jw_M 0 mX11_judge [vr 11 0] M Q := by
  refine jw_M.of (by decide) (Nat.le_of_ble_eq_true rfl) ?_
  show jw_J 0 mX11_judge 0 [(0, vr 11 0)] [] M Q
  refine jr_iconst (pc := 0) (v := 0) dX11_judge_0 (by decide) ?_
  refine jr_istore_n (pc := 1) (lv' := [(1, vi 0), (0, vr 11 0)]) dX11_judge_1 rfl (by decide) rfl ?_
  exact jr_sub [1, 0] rfl h
set_option maxHeartbeats 4000000 in
set_option maxRecDepth 20000 in
theorem bk_X11_judge_2 {v1 : Int32} {M : jw_Mem} {Q : Int32 → jw_Mem → Prop}  (h : (((M 11 0 38) ≤ v1 → Q (-1) M) ∧ (¬ (M 11 0 38) ≤ v1 → (vp_in v1 15 ∧ (vp_in (M 58 0 v1.toNatClampNeg) 33 ∧ (vp_in v1 15 ∧ (((M 43 0 ((M 58 0 v1.toNatClampNeg) : Int32).toNatClampNeg) = (M 59 0 v1.toNatClampNeg) → jw_J 0 mX11_judge 2 [(0, vr 11 0), (1, vi (v1 + 1))] [] M Q) ∧ (¬ (M 43 0 ((M 58 0 v1.toNatClampNeg) : Int32).toNatClampNeg) = (M 59 0 v1.toNatClampNeg) → Q v1 M)))))))) : jw_J 0 mX11_judge 2 [(0, vr 11 0), (1, vi v1)] [] M Q := by
  refine jr_iload_n (pc := 2) dX11_judge_2 rfl 1 rfl ?_
  refine jr_aload_n (pc := 3) dX11_judge_3 rfl 0 rfl ?_
  refine jr_get (pc := 4) (v := vi (M 11 0 38)) fg_X11_189 (by decide) rfl dX11_judge_4 ?_
  refine jr_icmp_ge (pc := 7) (tgt := 38) dX11_judge_7 (by decide) (fun c => ?_) (fun c => ?_)
  · replace h := h.1 c
    refine jr_iconst (pc := 38) (v := (-1)) dX11_judge_38 (by decide) ?_
    exact jr_iret (pc := 39) rfl dX11_judge_39 h
  · replace h := h.2 c
    refine jr_aload_n (pc := 10) dX11_judge_10 rfl 0 rfl ?_
    refine jr_get (pc := 11) (v := vr 43 0) fg_X11_31 (by decide) rfl dX11_judge_11 ?_
    refine jr_aload_n (pc := 14) dX11_judge_14 rfl 0 rfl ?_
    refine jr_get (pc := 15) (v := vr 58 0) fg_X11_80 (by decide) rfl dX11_judge_15 ?_
    refine jr_iload_n (pc := 18) dX11_judge_18 rfl 1 rfl ?_
    refine jr_iald (pc := 19) ⟨rfl, (by decide)⟩ h.1 dX11_judge_19 ?_
    replace h := h.2
    refine jr_iald (pc := 20) ⟨rfl, (by decide)⟩ h.1 dX11_judge_20 ?_
    replace h := h.2
    refine jr_aload_n (pc := 21) dX11_judge_21 rfl 0 rfl ?_
    refine jr_get (pc := 22) (v := vr 59 0) fg_X11_83 (by decide) rfl dX11_judge_22 ?_
    refine jr_iload_n (pc := 25) dX11_judge_25 rfl 1 rfl ?_
    refine jr_iald (pc := 26) ⟨rfl, (by decide)⟩ h.1 dX11_judge_26 ?_
    replace h := h.2
    refine jr_icmp_eq (pc := 27) (tgt := 32) dX11_judge_27 (by decide) (fun c => ?_) (fun c => ?_)
    · replace h := h.1 c
      refine jr_iinc (pc := 32) (lv' := [(1, vi (v1 + 1)), (0, vr 11 0)]) (q := 1) dX11_judge_32 rfl (by rfl) (by decide) rfl ?_
      refine jr_goto (pc := 35) (tgt := 2) dX11_judge_35 (by decide) ?_
      exact jr_sub [1, 0] rfl h
    · replace h := h.2 c
      refine jr_iload_n (pc := 30) dX11_judge_30 rfl 1 rfl ?_
      exact jr_iret (pc := 31) rfl dX11_judge_31 h
theorem dX11_seed_0 : decode cX11_seed 0 = .ok (.iload_n 1, 1) := by decide +kernel
theorem dX11_seed_1 : decode cX11_seed 1 = .ok (.ifCond .ge 6, 3) := by decide +kernel
theorem dX11_seed_4 : decode cX11_seed 4 = .ok (.ldc 111, 2) := by decide +kernel
theorem dX11_seed_6 : decode cX11_seed 6 = .ok (.ireturn, 1) := by decide +kernel
theorem dX11_seed_7 : decode cX11_seed 7 = .ok (.aload_n 0, 1) := by decide +kernel
theorem dX11_seed_8 : decode cX11_seed 8 = .ok (.getfield 269, 3) := by decide +kernel
theorem dX11_seed_11 : decode cX11_seed 11 = .ok (.istore_n 2, 1) := by decide +kernel
theorem dX11_seed_12 : decode cX11_seed 12 = .ok (.aload_n 0, 1) := by decide +kernel
theorem dX11_seed_13 : decode cX11_seed 13 = .ok (.iload_n 1, 1) := by decide +kernel
theorem dX11_seed_14 : decode cX11_seed 14 = .ok (.putfield 269, 3) := by decide +kernel
theorem dX11_seed_17 : decode cX11_seed 17 = .ok (.iload_n 2, 1) := by decide +kernel
theorem dX11_seed_18 : decode cX11_seed 18 = .ok (.ireturn, 1) := by decide +kernel
set_option maxHeartbeats 4000000 in
set_option maxRecDepth 20000 in
theorem en_X11_seed {a1 : Int32} {M : jw_Mem} {Q : Int32 → jw_Mem → Prop}  (h : ((0 ≤ a1 → (∀ M1 : jw_Mem, M1 = jw_up M 11 0 12 a1 → Q (M 11 0 12) M1)) ∧ (¬ 0 ≤ a1 → Q (-1000000002) M))) : jw_M 0 mX11_seed [vr 11 0, vi a1] M Q := by
  refine jw_M.of (by decide) (Nat.le_of_ble_eq_true rfl) ?_
  show jw_J 0 mX11_seed 0 [(0, vr 11 0), (1, vi a1)] [] M Q
  refine jr_iload_n (pc := 0) dX11_seed_0 rfl 1 rfl ?_
  refine jr_if_ge (pc := 1) (tgt := 7) dX11_seed_1 (by decide) (fun c => ?_) (fun c => ?_)
  · replace h := h.1 c
    refine jr_aload_n (pc := 7) dX11_seed_7 rfl 0 rfl ?_
    refine jr_get (pc := 8) (v := vi (M 11 0 12)) fg_X11_269 (by decide) rfl dX11_seed_8 ?_
    refine jr_istore_n (pc := 11) (lv' := [(2, vi (M 11 0 12)), (0, vr 11 0), (1, vi a1)]) dX11_seed_11 rfl (by decide) rfl ?_
    refine jr_aload_n (pc := 12) dX11_seed_12 rfl 1 rfl ?_
    refine jr_iload_n (pc := 13) dX11_seed_13 rfl 2 rfl ?_
    refine jr_put (pc := 14) fp_X11_269 (by decide) (Or.inl ⟨_, _, _, rfl, by decide +kernel⟩) dX11_seed_14 ?_
    replace h := h _ rfl
    generalize jw_up M 11 0 12 a1 = M1 at h ⊢
    refine jr_iload_n (pc := 17) dX11_seed_17 rfl 0 rfl ?_
    exact jr_iret (pc := 18) rfl dX11_seed_18 h
  · replace h := h.2 c
    refine jr_ldc (pc := 4) fk_X11_111 dX11_seed_4 ?_
    exact jr_iret (pc := 6) rfl dX11_seed_6 h
theorem dX11_keep_0 : decode cX11_keep 0 = .ok (.iload_n 1, 1) := by decide +kernel
theorem dX11_keep_1 : decode cX11_keep 1 = .ok (.i2l, 1) := by decide +kernel
theorem dX11_keep_2 : decode cX11_keep 2 = .ok (.lconst 0, 1) := by decide +kernel
theorem dX11_keep_3 : decode cX11_keep 3 = .ok (.lconst 1, 1) := by decide +kernel
theorem dX11_keep_4 : decode cX11_keep 4 = .ok (.invokestatic 99, 3) := by decide +kernel
theorem dX11_keep_7 : decode cX11_keep 7 = .ok (.ifCond .ne 6, 3) := by decide +kernel
theorem dX11_keep_10 : decode cX11_keep 10 = .ok (.ldc 241, 2) := by decide +kernel
theorem dX11_keep_12 : decode cX11_keep 12 = .ok (.ireturn, 1) := by decide +kernel
theorem dX11_keep_13 : decode cX11_keep 13 = .ok (.iconst 0, 1) := by decide +kernel
theorem dX11_keep_14 : decode cX11_keep 14 = .ok (.istore_n 2, 1) := by decide +kernel
theorem dX11_keep_15 : decode cX11_keep 15 = .ok (.iload_n 2, 1) := by decide +kernel
theorem dX11_keep_16 : decode cX11_keep 16 = .ok (.bipush 33, 2) := by decide +kernel
theorem dX11_keep_18 : decode cX11_keep 18 = .ok (.if_icmp .ge 26, 3) := by decide +kernel
theorem dX11_keep_21 : decode cX11_keep 21 = .ok (.aload_n 0, 1) := by decide +kernel
theorem dX11_keep_22 : decode cX11_keep 22 = .ok (.getfield 86, 3) := by decide +kernel
theorem dX11_keep_25 : decode cX11_keep 25 = .ok (.bipush 34, 2) := by decide +kernel
theorem dX11_keep_27 : decode cX11_keep 27 = .ok (.iload_n 1, 1) := by decide +kernel
theorem dX11_keep_28 : decode cX11_keep 28 = .ok (.imul, 1) := by decide +kernel
theorem dX11_keep_29 : decode cX11_keep 29 = .ok (.iload_n 2, 1) := by decide +kernel
theorem dX11_keep_30 : decode cX11_keep 30 = .ok (.iadd, 1) := by decide +kernel
theorem dX11_keep_31 : decode cX11_keep 31 = .ok (.aload_n 0, 1) := by decide +kernel
theorem dX11_keep_32 : decode cX11_keep 32 = .ok (.getfield 31, 3) := by decide +kernel
theorem dX11_keep_35 : decode cX11_keep 35 = .ok (.iload_n 2, 1) := by decide +kernel
theorem dX11_keep_36 : decode cX11_keep 36 = .ok (.iaload, 1) := by decide +kernel
theorem dX11_keep_37 : decode cX11_keep 37 = .ok (.iastore, 1) := by decide +kernel
theorem dX11_keep_38 : decode cX11_keep 38 = .ok (.iinc 2 1, 3) := by decide +kernel
theorem dX11_keep_41 : decode cX11_keep 41 = .ok (.goto (-26), 3) := by decide +kernel
theorem dX11_keep_44 : decode cX11_keep 44 = .ok (.aload_n 0, 1) := by decide +kernel
theorem dX11_keep_45 : decode cX11_keep 45 = .ok (.getfield 86, 3) := by decide +kernel
theorem dX11_keep_48 : decode cX11_keep 48 = .ok (.bipush 34, 2) := by decide +kernel
theorem dX11_keep_50 : decode cX11_keep 50 = .ok (.iload_n 1, 1) := by decide +kernel
theorem dX11_keep_51 : decode cX11_keep 51 = .ok (.imul, 1) := by decide +kernel
theorem dX11_keep_52 : decode cX11_keep 52 = .ok (.bipush 33, 2) := by decide +kernel
theorem dX11_keep_54 : decode cX11_keep 54 = .ok (.iadd, 1) := by decide +kernel
theorem dX11_keep_55 : decode cX11_keep 55 = .ok (.aload_n 0, 1) := by decide +kernel
theorem dX11_keep_56 : decode cX11_keep 56 = .ok (.getfield 269, 3) := by decide +kernel
theorem dX11_keep_59 : decode cX11_keep 59 = .ok (.iastore, 1) := by decide +kernel
theorem dX11_keep_60 : decode cX11_keep 60 = .ok (.aload_n 0, 1) := by decide +kernel
theorem dX11_keep_61 : decode cX11_keep 61 = .ok (.getfield 89, 3) := by decide +kernel
theorem dX11_keep_64 : decode cX11_keep 64 = .ok (.iload_n 1, 1) := by decide +kernel
theorem dX11_keep_65 : decode cX11_keep 65 = .ok (.iconst 1, 1) := by decide +kernel
theorem dX11_keep_66 : decode cX11_keep 66 = .ok (.bastore, 1) := by decide +kernel
theorem dX11_keep_67 : decode cX11_keep 67 = .ok (.aload_n 0, 1) := by decide +kernel
theorem dX11_keep_68 : decode cX11_keep 68 = .ok (.iconst 0, 1) := by decide +kernel
theorem dX11_keep_69 : decode cX11_keep 69 = .ok (.putfield 192, 3) := by decide +kernel
theorem dX11_keep_72 : decode cX11_keep 72 = .ok (.iconst 1, 1) := by decide +kernel
theorem dX11_keep_73 : decode cX11_keep 73 = .ok (.ireturn, 1) := by decide +kernel
set_option maxHeartbeats 4000000 in
set_option maxRecDepth 20000 in
theorem en_X11_keep {a1 : Int32} {M : jw_Mem} {Q : Int32 → jw_Mem → Prop}  (h : (jw_M 0 mX11_in [vl (a1.toInt64), vl 0, vl 1] M (fun x1 M2 => ((¬ x1 = 0 → jw_J 1 mX11_keep 15 [(0, vr 11 0), (1, vi a1), (2, vi 0)] [] M2 Q) ∧ (x1 = 0 → Q (-1000000001) M2))))) : jw_M 1 mX11_keep [vr 11 0, vi a1] M Q := by
  refine jw_M.of (by decide) (Nat.le_of_ble_eq_true rfl) ?_
  show jw_J 1 mX11_keep 0 [(0, vr 11 0), (1, vi a1)] [] M Q
  refine jr_iload_n (pc := 0) dX11_keep_0 rfl 1 rfl ?_
  refine jr_i2l (pc := 1) dX11_keep_1 ?_
  refine jr_lconst (pc := 2) (v := 0) dX11_keep_2 (by decide) ?_
  refine jr_lconst (pc := 3) (v := 1) dX11_keep_3 (by decide) ?_
  refine jr_callS (pc := 4) (d' := 0) (mt' := mX11_in) (As := [vl (a1.toInt64), vl 0, vl 1]) (st := []) fc_X11_99 (by decide) (Nat.le_of_ble_eq_true rfl) rfl dX11_keep_4 (jw_M.mono h (fun x1 M2 h => ?_))
  show jw_J 1 mX11_keep 7 [(0, vr 11 0), (1, vi a1)] [vi x1] M2 Q
  refine jr_if_ne (pc := 7) (tgt := 13) dX11_keep_7 (by decide) (fun c => ?_) (fun c => ?_)
  · replace h := h.1 c
    refine jr_iconst (pc := 13) (v := 0) dX11_keep_13 (by decide) ?_
    refine jr_istore_n (pc := 14) (lv' := [(2, vi 0), (0, vr 11 0), (1, vi a1)]) dX11_keep_14 rfl (by decide) rfl ?_
    exact jr_sub [1, 2, 0] rfl h
  · replace h := h.2 c
    refine jr_ldc (pc := 10) fk_X11_241 dX11_keep_10 ?_
    exact jr_iret (pc := 12) rfl dX11_keep_12 h
set_option maxHeartbeats 4000000 in
set_option maxRecDepth 20000 in
theorem bk_X11_keep_15 {v1 : Int32} {v2 : Int32} {M : jw_Mem} {Q : Int32 → jw_Mem → Prop}  (h : ((33 ≤ v2 → (vp_in ((34 * v1) + 33) 68 ∧ (∀ M3 : jw_Mem, M3 = jw_up M 60 0 (((34 * v1) + 33) : Int32).toNatClampNeg (M 11 0 12) → (vp_in v1 2 ∧ (∀ M4 : jw_Mem, M4 = jw_up M3 61 0 v1.toNatClampNeg (vp_nar .boolean 1) → (∀ M5 : jw_Mem, M5 = jw_up M4 11 0 30 0 → Q 1 M5)))))) ∧ (¬ 33 ≤ v2 → (vp_in v2 33 ∧ (vp_in ((34 * v1) + v2) 68 ∧ (∀ M6 : jw_Mem, M6 = jw_up M 60 0 (((34 * v1) + v2) : Int32).toNatClampNeg (M 43 0 v2.toNatClampNeg) → jw_J 1 mX11_keep 15 [(0, vr 11 0), (1, vi v1), (2, vi (v2 + 1))] [] M6 Q)))))) : jw_J 1 mX11_keep 15 [(0, vr 11 0), (1, vi v1), (2, vi v2)] [] M Q := by
  refine jr_iload_n (pc := 15) dX11_keep_15 rfl 2 rfl ?_
  refine jr_bipush (pc := 16) (v := 33) dX11_keep_16 (by decide) ?_
  refine jr_icmp_ge (pc := 18) (tgt := 44) dX11_keep_18 (by decide) (fun c => ?_) (fun c => ?_)
  · replace h := h.1 c
    refine jr_aload_n (pc := 44) dX11_keep_44 rfl 0 rfl ?_
    refine jr_get (pc := 45) (v := vr 60 0) fg_X11_86 (by decide) rfl dX11_keep_45 ?_
    refine jr_bipush (pc := 48) (v := 34) dX11_keep_48 (by decide) ?_
    refine jr_iload_n (pc := 50) dX11_keep_50 rfl 1 rfl ?_
    refine jr_imul (pc := 51) dX11_keep_51 ?_
    refine jr_bipush (pc := 52) (v := 33) dX11_keep_52 (by decide) ?_
    refine jr_iadd (pc := 54) dX11_keep_54 ?_
    refine jr_aload_n (pc := 55) dX11_keep_55 rfl 0 rfl ?_
    refine jr_get (pc := 56) (v := vi (M 11 0 12)) fg_X11_269 (by decide) rfl dX11_keep_56 ?_
    refine jr_iast (pc := 59) ⟨rfl, (by decide)⟩ h.1 dX11_keep_59 ?_
    replace h := h.2
    replace h := h _ rfl
    generalize jw_up M 60 0 (((34 * v1) + 33) : Int32).toNatClampNeg (M 11 0 12) = M3 at h ⊢
    refine jr_aload_n (pc := 60) dX11_keep_60 rfl 0 rfl ?_
    refine jr_get (pc := 61) (v := vr 61 0) fg_X11_89 (by decide) rfl dX11_keep_61 ?_
    refine jr_iload_n (pc := 64) dX11_keep_64 rfl 1 rfl ?_
    refine jr_iconst (pc := 65) (v := 1) dX11_keep_65 (by decide) ?_
    refine jr_zast (pc := 66) ⟨rfl, (by decide)⟩ h.1 dX11_keep_66 ?_
    replace h := h.2
    replace h := h _ rfl
    generalize jw_up M3 61 0 v1.toNatClampNeg (vp_nar .boolean 1) = M4 at h ⊢
    refine jr_aload_n (pc := 67) dX11_keep_67 rfl 0 rfl ?_
    refine jr_iconst (pc := 68) (v := 0) dX11_keep_68 (by decide) ?_
    refine jr_put (pc := 69) fp_X11_192 (by decide) (Or.inl ⟨_, _, _, rfl, by decide +kernel⟩) dX11_keep_69 ?_
    replace h := h _ rfl
    generalize jw_up M4 11 0 30 0 = M5 at h ⊢
    refine jr_iconst (pc := 72) (v := 1) dX11_keep_72 (by decide) ?_
    exact jr_iret (pc := 73) rfl dX11_keep_73 h
  · replace h := h.2 c
    refine jr_aload_n (pc := 21) dX11_keep_21 rfl 0 rfl ?_
    refine jr_get (pc := 22) (v := vr 60 0) fg_X11_86 (by decide) rfl dX11_keep_22 ?_
    refine jr_bipush (pc := 25) (v := 34) dX11_keep_25 (by decide) ?_
    refine jr_iload_n (pc := 27) dX11_keep_27 rfl 1 rfl ?_
    refine jr_imul (pc := 28) dX11_keep_28 ?_
    refine jr_iload_n (pc := 29) dX11_keep_29 rfl 2 rfl ?_
    refine jr_iadd (pc := 30) dX11_keep_30 ?_
    refine jr_aload_n (pc := 31) dX11_keep_31 rfl 0 rfl ?_
    refine jr_get (pc := 32) (v := vr 43 0) fg_X11_31 (by decide) rfl dX11_keep_32 ?_
    refine jr_iload_n (pc := 35) dX11_keep_35 rfl 2 rfl ?_
    refine jr_iald (pc := 36) ⟨rfl, (by decide)⟩ h.1 dX11_keep_36 ?_
    replace h := h.2
    refine jr_iast (pc := 37) ⟨rfl, (by decide)⟩ h.1 dX11_keep_37 ?_
    replace h := h.2
    replace h := h _ rfl
    generalize jw_up M 60 0 (((34 * v1) + v2) : Int32).toNatClampNeg (M 43 0 v2.toNatClampNeg) = M6 at h ⊢
    refine jr_iinc (pc := 38) (lv' := [(2, vi (v2 + 1)), (0, vr 11 0), (1, vi v1)]) (q := 2) dX11_keep_38 rfl (by rfl) (by decide) rfl ?_
    refine jr_goto (pc := 41) (tgt := 15) dX11_keep_41 (by decide) ?_
    exact jr_sub [1, 2, 0] rfl h
theorem dX11_goBack_0 : decode cX11_goBack 0 = .ok (.iload_n 1, 1) := by decide +kernel
theorem dX11_goBack_1 : decode cX11_goBack 1 = .ok (.i2l, 1) := by decide +kernel
theorem dX11_goBack_2 : decode cX11_goBack 2 = .ok (.lconst 0, 1) := by decide +kernel
theorem dX11_goBack_3 : decode cX11_goBack 3 = .ok (.lconst 1, 1) := by decide +kernel
theorem dX11_goBack_4 : decode cX11_goBack 4 = .ok (.invokestatic 99, 3) := by decide +kernel
theorem dX11_goBack_7 : decode cX11_goBack 7 = .ok (.ifCond .ne 6, 3) := by decide +kernel
theorem dX11_goBack_10 : decode cX11_goBack 10 = .ok (.ldc 241, 2) := by decide +kernel
theorem dX11_goBack_12 : decode cX11_goBack 12 = .ok (.ireturn, 1) := by decide +kernel
theorem dX11_goBack_13 : decode cX11_goBack 13 = .ok (.aload_n 0, 1) := by decide +kernel
theorem dX11_goBack_14 : decode cX11_goBack 14 = .ok (.getfield 89, 3) := by decide +kernel
theorem dX11_goBack_17 : decode cX11_goBack 17 = .ok (.iload_n 1, 1) := by decide +kernel
theorem dX11_goBack_18 : decode cX11_goBack 18 = .ok (.baload, 1) := by decide +kernel
theorem dX11_goBack_19 : decode cX11_goBack 19 = .ok (.ifCond .ne 7, 3) := by decide +kernel
theorem dX11_goBack_22 : decode cX11_goBack 22 = .ok (.ldc_w 256, 3) := by decide +kernel
theorem dX11_goBack_25 : decode cX11_goBack 25 = .ok (.ireturn, 1) := by decide +kernel
theorem dX11_goBack_26 : decode cX11_goBack 26 = .ok (.iconst 0, 1) := by decide +kernel
theorem dX11_goBack_27 : decode cX11_goBack 27 = .ok (.istore_n 2, 1) := by decide +kernel
theorem dX11_goBack_28 : decode cX11_goBack 28 = .ok (.iload_n 2, 1) := by decide +kernel
theorem dX11_goBack_29 : decode cX11_goBack 29 = .ok (.bipush 33, 2) := by decide +kernel
theorem dX11_goBack_31 : decode cX11_goBack 31 = .ok (.if_icmp .ge 26, 3) := by decide +kernel
theorem dX11_goBack_34 : decode cX11_goBack 34 = .ok (.aload_n 0, 1) := by decide +kernel
theorem dX11_goBack_35 : decode cX11_goBack 35 = .ok (.getfield 31, 3) := by decide +kernel
theorem dX11_goBack_38 : decode cX11_goBack 38 = .ok (.iload_n 2, 1) := by decide +kernel
theorem dX11_goBack_39 : decode cX11_goBack 39 = .ok (.aload_n 0, 1) := by decide +kernel
theorem dX11_goBack_40 : decode cX11_goBack 40 = .ok (.getfield 86, 3) := by decide +kernel
theorem dX11_goBack_43 : decode cX11_goBack 43 = .ok (.bipush 34, 2) := by decide +kernel
theorem dX11_goBack_45 : decode cX11_goBack 45 = .ok (.iload_n 1, 1) := by decide +kernel
theorem dX11_goBack_46 : decode cX11_goBack 46 = .ok (.imul, 1) := by decide +kernel
theorem dX11_goBack_47 : decode cX11_goBack 47 = .ok (.iload_n 2, 1) := by decide +kernel
theorem dX11_goBack_48 : decode cX11_goBack 48 = .ok (.iadd, 1) := by decide +kernel
theorem dX11_goBack_49 : decode cX11_goBack 49 = .ok (.iaload, 1) := by decide +kernel
theorem dX11_goBack_50 : decode cX11_goBack 50 = .ok (.iastore, 1) := by decide +kernel
theorem dX11_goBack_51 : decode cX11_goBack 51 = .ok (.iinc 2 1, 3) := by decide +kernel
theorem dX11_goBack_54 : decode cX11_goBack 54 = .ok (.goto (-26), 3) := by decide +kernel
theorem dX11_goBack_57 : decode cX11_goBack 57 = .ok (.aload_n 0, 1) := by decide +kernel
theorem dX11_goBack_58 : decode cX11_goBack 58 = .ok (.aload_n 0, 1) := by decide +kernel
theorem dX11_goBack_59 : decode cX11_goBack 59 = .ok (.getfield 86, 3) := by decide +kernel
theorem dX11_goBack_62 : decode cX11_goBack 62 = .ok (.bipush 34, 2) := by decide +kernel
theorem dX11_goBack_64 : decode cX11_goBack 64 = .ok (.iload_n 1, 1) := by decide +kernel
theorem dX11_goBack_65 : decode cX11_goBack 65 = .ok (.imul, 1) := by decide +kernel
theorem dX11_goBack_66 : decode cX11_goBack 66 = .ok (.bipush 33, 2) := by decide +kernel
theorem dX11_goBack_68 : decode cX11_goBack 68 = .ok (.iadd, 1) := by decide +kernel
theorem dX11_goBack_69 : decode cX11_goBack 69 = .ok (.iaload, 1) := by decide +kernel
theorem dX11_goBack_70 : decode cX11_goBack 70 = .ok (.putfield 269, 3) := by decide +kernel
theorem dX11_goBack_73 : decode cX11_goBack 73 = .ok (.aload_n 0, 1) := by decide +kernel
theorem dX11_goBack_74 : decode cX11_goBack 74 = .ok (.iconst 0, 1) := by decide +kernel
theorem dX11_goBack_75 : decode cX11_goBack 75 = .ok (.putfield 192, 3) := by decide +kernel
theorem dX11_goBack_78 : decode cX11_goBack 78 = .ok (.iconst 1, 1) := by decide +kernel
theorem dX11_goBack_79 : decode cX11_goBack 79 = .ok (.ireturn, 1) := by decide +kernel
set_option maxHeartbeats 4000000 in
set_option maxRecDepth 20000 in
theorem en_X11_goBack {a1 : Int32} {M : jw_Mem} {Q : Int32 → jw_Mem → Prop}  (h : (jw_M 0 mX11_in [vl (a1.toInt64), vl 0, vl 1] M (fun x1 M2 => ((¬ x1 = 0 → (vp_in a1 2 ∧ ((¬ (M2 61 0 a1.toNatClampNeg) = 0 → jw_J 1 mX11_goBack 28 [(0, vr 11 0), (1, vi a1), (2, vi 0)] [] M2 Q) ∧ ((M2 61 0 a1.toNatClampNeg) = 0 → Q (-1000000003) M2)))) ∧ (x1 = 0 → Q (-1000000001) M2))))) : jw_M 1 mX11_goBack [vr 11 0, vi a1] M Q := by
  refine jw_M.of (by decide) (Nat.le_of_ble_eq_true rfl) ?_
  show jw_J 1 mX11_goBack 0 [(0, vr 11 0), (1, vi a1)] [] M Q
  refine jr_iload_n (pc := 0) dX11_goBack_0 rfl 1 rfl ?_
  refine jr_i2l (pc := 1) dX11_goBack_1 ?_
  refine jr_lconst (pc := 2) (v := 0) dX11_goBack_2 (by decide) ?_
  refine jr_lconst (pc := 3) (v := 1) dX11_goBack_3 (by decide) ?_
  refine jr_callS (pc := 4) (d' := 0) (mt' := mX11_in) (As := [vl (a1.toInt64), vl 0, vl 1]) (st := []) fc_X11_99 (by decide) (Nat.le_of_ble_eq_true rfl) rfl dX11_goBack_4 (jw_M.mono h (fun x1 M2 h => ?_))
  show jw_J 1 mX11_goBack 7 [(0, vr 11 0), (1, vi a1)] [vi x1] M2 Q
  refine jr_if_ne (pc := 7) (tgt := 13) dX11_goBack_7 (by decide) (fun c => ?_) (fun c => ?_)
  · replace h := h.1 c
    refine jr_aload_n (pc := 13) dX11_goBack_13 rfl 0 rfl ?_
    refine jr_get (pc := 14) (v := vr 61 0) fg_X11_89 (by decide) rfl dX11_goBack_14 ?_
    refine jr_iload_n (pc := 17) dX11_goBack_17 rfl 1 rfl ?_
    refine jr_zald (pc := 18) ⟨rfl, (by decide)⟩ h.1 dX11_goBack_18 ?_
    replace h := h.2
    refine jr_if_ne (pc := 19) (tgt := 26) dX11_goBack_19 (by decide) (fun c => ?_) (fun c => ?_)
    · replace h := h.1 c
      refine jr_iconst (pc := 26) (v := 0) dX11_goBack_26 (by decide) ?_
      refine jr_istore_n (pc := 27) (lv' := [(2, vi 0), (0, vr 11 0), (1, vi a1)]) dX11_goBack_27 rfl (by decide) rfl ?_
      exact jr_sub [1, 2, 0] rfl h
    · replace h := h.2 c
      refine jr_ldcw (pc := 22) fk_X11_256 dX11_goBack_22 ?_
      exact jr_iret (pc := 25) rfl dX11_goBack_25 h
  · replace h := h.2 c
    refine jr_ldc (pc := 10) fk_X11_241 dX11_goBack_10 ?_
    exact jr_iret (pc := 12) rfl dX11_goBack_12 h
set_option maxHeartbeats 4000000 in
set_option maxRecDepth 20000 in
theorem bk_X11_goBack_28 {v1 : Int32} {v2 : Int32} {M : jw_Mem} {Q : Int32 → jw_Mem → Prop}  (h : ((33 ≤ v2 → (vp_in ((34 * v1) + 33) 68 ∧ (∀ M3 : jw_Mem, M3 = jw_up M 11 0 12 (M 60 0 (((34 * v1) + 33) : Int32).toNatClampNeg) → (∀ M4 : jw_Mem, M4 = jw_up M3 11 0 30 0 → Q 1 M4)))) ∧ (¬ 33 ≤ v2 → (vp_in ((34 * v1) + v2) 68 ∧ (vp_in v2 33 ∧ (∀ M5 : jw_Mem, M5 = jw_up M 43 0 v2.toNatClampNeg (M 60 0 (((34 * v1) + v2) : Int32).toNatClampNeg) → jw_J 1 mX11_goBack 28 [(0, vr 11 0), (1, vi v1), (2, vi (v2 + 1))] [] M5 Q)))))) : jw_J 1 mX11_goBack 28 [(0, vr 11 0), (1, vi v1), (2, vi v2)] [] M Q := by
  refine jr_iload_n (pc := 28) dX11_goBack_28 rfl 2 rfl ?_
  refine jr_bipush (pc := 29) (v := 33) dX11_goBack_29 (by decide) ?_
  refine jr_icmp_ge (pc := 31) (tgt := 57) dX11_goBack_31 (by decide) (fun c => ?_) (fun c => ?_)
  · replace h := h.1 c
    refine jr_aload_n (pc := 57) dX11_goBack_57 rfl 0 rfl ?_
    refine jr_aload_n (pc := 58) dX11_goBack_58 rfl 0 rfl ?_
    refine jr_get (pc := 59) (v := vr 60 0) fg_X11_86 (by decide) rfl dX11_goBack_59 ?_
    refine jr_bipush (pc := 62) (v := 34) dX11_goBack_62 (by decide) ?_
    refine jr_iload_n (pc := 64) dX11_goBack_64 rfl 1 rfl ?_
    refine jr_imul (pc := 65) dX11_goBack_65 ?_
    refine jr_bipush (pc := 66) (v := 33) dX11_goBack_66 (by decide) ?_
    refine jr_iadd (pc := 68) dX11_goBack_68 ?_
    refine jr_iald (pc := 69) ⟨rfl, (by decide)⟩ h.1 dX11_goBack_69 ?_
    replace h := h.2
    refine jr_put (pc := 70) fp_X11_269 (by decide) (Or.inl ⟨_, _, _, rfl, by decide +kernel⟩) dX11_goBack_70 ?_
    replace h := h _ rfl
    generalize jw_up M 11 0 12 (M 60 0 (((34 * v1) + 33) : Int32).toNatClampNeg) = M3 at h ⊢
    refine jr_aload_n (pc := 73) dX11_goBack_73 rfl 0 rfl ?_
    refine jr_iconst (pc := 74) (v := 0) dX11_goBack_74 (by decide) ?_
    refine jr_put (pc := 75) fp_X11_192 (by decide) (Or.inl ⟨_, _, _, rfl, by decide +kernel⟩) dX11_goBack_75 ?_
    replace h := h _ rfl
    generalize jw_up M3 11 0 30 0 = M4 at h ⊢
    refine jr_iconst (pc := 78) (v := 1) dX11_goBack_78 (by decide) ?_
    exact jr_iret (pc := 79) rfl dX11_goBack_79 h
  · replace h := h.2 c
    refine jr_aload_n (pc := 34) dX11_goBack_34 rfl 0 rfl ?_
    refine jr_get (pc := 35) (v := vr 43 0) fg_X11_31 (by decide) rfl dX11_goBack_35 ?_
    refine jr_iload_n (pc := 38) dX11_goBack_38 rfl 2 rfl ?_
    refine jr_aload_n (pc := 39) dX11_goBack_39 rfl 0 rfl ?_
    refine jr_get (pc := 40) (v := vr 60 0) fg_X11_86 (by decide) rfl dX11_goBack_40 ?_
    refine jr_bipush (pc := 43) (v := 34) dX11_goBack_43 (by decide) ?_
    refine jr_iload_n (pc := 45) dX11_goBack_45 rfl 1 rfl ?_
    refine jr_imul (pc := 46) dX11_goBack_46 ?_
    refine jr_iload_n (pc := 47) dX11_goBack_47 rfl 2 rfl ?_
    refine jr_iadd (pc := 48) dX11_goBack_48 ?_
    refine jr_iald (pc := 49) ⟨rfl, (by decide)⟩ h.1 dX11_goBack_49 ?_
    replace h := h.2
    refine jr_iast (pc := 50) ⟨rfl, (by decide)⟩ h.1 dX11_goBack_50 ?_
    replace h := h.2
    replace h := h _ rfl
    generalize jw_up M 43 0 v2.toNatClampNeg (M 60 0 (((34 * v1) + v2) : Int32).toNatClampNeg) = M5 at h ⊢
    refine jr_iinc (pc := 51) (lv' := [(2, vi (v2 + 1)), (0, vr 11 0), (1, vi v1)]) (q := 2) dX11_goBack_51 rfl (by rfl) (by decide) rfl ?_
    refine jr_goto (pc := 54) (tgt := 28) dX11_goBack_54 (by decide) ?_
    exact jr_sub [1, 2, 0] rfl h
