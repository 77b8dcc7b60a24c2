theorem dX10_power_0 : decode cX10_power 0 = .ok (.aload_n 0, 1) := by decide +kernel
theorem dX10_power_1 : decode cX10_power 1 = .ok (.getfield 24, 3) := by decide +kernel
theorem dX10_power_4 : decode cX10_power 4 = .ok (.iload_n 1, 1) := by decide +kernel
theorem dX10_power_5 : decode cX10_power 5 = .ok (.invokevirtual 203, 3) := by decide +kernel
theorem dX10_power_8 : decode cX10_power 8 = .ok (.ifCond .eq 14, 3) := by decide +kernel
theorem dX10_power_11 : decode cX10_power 11 = .ok (.aload_n 0, 1) := by decide +kernel
theorem dX10_power_12 : decode cX10_power 12 = .ok (.getfield 24, 3) := by decide +kernel
theorem dX10_power_15 : decode cX10_power 15 = .ok (.iload_n 2, 1) := by decide +kernel
theorem dX10_power_16 : decode cX10_power 16 = .ok (.invokevirtual 161, 3) := by decide +kernel
theorem dX10_power_19 : decode cX10_power 19 = .ok (.ifCond .ne 6, 3) := by decide +kernel
theorem dX10_power_22 : decode cX10_power 22 = .ok (.ldc 164, 2) := by decide +kernel
theorem dX10_power_24 : decode cX10_power 24 = .ok (.ireturn, 1) := by decide +kernel
theorem dX10_power_25 : decode cX10_power 25 = .ok (.iload_n 3, 1) := by decide +kernel
theorem dX10_power_26 : decode cX10_power 26 = .ok (.ifCond .lt 8, 3) := by decide +kernel
theorem dX10_power_29 : decode cX10_power 29 = .ok (.iload_n 3, 1) := by decide +kernel
theorem dX10_power_30 : decode cX10_power 30 = .ok (.iconst 1, 1) := by decide +kernel
theorem dX10_power_31 : decode cX10_power 31 = .ok (.if_icmp .le 6, 3) := by decide +kernel
theorem dX10_power_34 : decode cX10_power 34 = .ok (.ldc 88, 2) := by decide +kernel
theorem dX10_power_36 : decode cX10_power 36 = .ok (.ireturn, 1) := by decide +kernel
theorem dX10_power_37 : decode cX10_power 37 = .ok (.aload_n 0, 1) := by decide +kernel
theorem dX10_power_38 : decode cX10_power 38 = .ok (.getfield 40, 3) := by decide +kernel
theorem dX10_power_41 : decode cX10_power 41 = .ok (.iload_n 1, 1) := by decide +kernel
theorem dX10_power_42 : decode cX10_power 42 = .ok (.iload_n 2, 1) := by decide +kernel
theorem dX10_power_43 : decode cX10_power 43 = .ok (.iload_n 3, 1) := by decide +kernel
theorem dX10_power_44 : decode cX10_power 44 = .ok (.ifCond .ne 7, 3) := by decide +kernel
theorem dX10_power_47 : decode cX10_power 47 = .ok (.iconst 1, 1) := by decide +kernel
theorem dX10_power_48 : decode cX10_power 48 = .ok (.goto 4, 3) := by decide +kernel
theorem dX10_power_51 : decode cX10_power 51 = .ok (.iconst 0, 1) := by decide +kernel
theorem dX10_power_52 : decode cX10_power 52 = .ok (.invokevirtual 250, 3) := by decide +kernel
theorem dX10_power_55 : decode cX10_power 55 = .ok (.ireturn, 1) := by decide +kernel
set_option maxHeartbeats 4000000 in
set_option maxRecDepth 20000 in
theorem en_X10_power {a1 : Int32} {a2 : Int32} {a3 : Int32} {M : jw_Mem} {Q : Int32 → jw_Mem → Prop}  (h : (jw_M 0 mX1_hasWalker [vr 1 0, vi a1] M (fun x1 M2 => ((x1 = 0 → Q (-1000000001) M2) ∧ (¬ x1 = 0 → (jw_M 0 mX1_hasPlinth [vr 1 0, vi a2] M2 (fun x3 M4 => ((¬ x3 = 0 → ((a3 < 0 → Q (-1000000002) M4) ∧ (¬ a3 < 0 → ((a3 ≤ 1 → ((¬ a3 = 0 → (jw_M 2 mX6_weight [vr 6 0, vi a1, vi a2, vi 0] M4 (fun x5 M6 => Q x5 M6))) ∧ (a3 = 0 → (jw_M 2 mX6_weight [vr 6 0, vi a1, vi a2, vi 1] M4 (fun x7 M8 => Q x7 M8))))) ∧ (¬ a3 ≤ 1 → Q (-1000000002) M4))))) ∧ (x3 = 0 → Q (-1000000001) M4))))))))) : jw_M 3 mX10_power [vr 10 0, vi a1, vi a2, vi a3] M Q := by
  refine jw_M.of (by decide) (Nat.le_of_ble_eq_true rfl) ?_
  show jw_J 3 mX10_power 0 [(0, vr 10 0), (1, vi a1), (2, vi a2), (3, vi a3)] [] M Q
  refine jr_aload_n (pc := 0) dX10_power_0 rfl 0 rfl ?_
  refine jr_get (pc := 1) (v := vr 1 0) fg_X10_24 (by decide) rfl dX10_power_1 ?_
  refine jr_iload_n (pc := 4) dX10_power_4 rfl 1 rfl ?_
  refine jr_callV (pc := 5) (d' := 0) (mt' := mX1_hasWalker) (k := 1) (n := 0) (As := [vi a1]) (st := []) fc_X10_203 (by decide) (by decide) (Nat.le_of_ble_eq_true rfl) rfl dX10_power_5 (jw_M.mono h (fun x1 M2 h => ?_))
  show jw_J 3 mX10_power 8 [(0, vr 10 0), (1, vi a1), (2, vi a2), (3, vi a3)] [vi x1] M2 Q
  refine jr_if_eq (pc := 8) (tgt := 22) dX10_power_8 (by decide) (fun c => ?_) (fun c => ?_)
  · replace h := h.1 c
    refine jr_ldc (pc := 22) fk_X10_164 dX10_power_22 ?_
    exact jr_iret (pc := 24) rfl dX10_power_24 h
  · replace h := h.2 c
    refine jr_aload_n (pc := 11) dX10_power_11 rfl 0 rfl ?_
    refine jr_get (pc := 12) (v := vr 1 0) fg_X10_24 (by decide) rfl dX10_power_12 ?_
    refine jr_iload_n (pc := 15) dX10_power_15 rfl 2 rfl ?_
    refine jr_callV (pc := 16) (d' := 0) (mt' := mX1_hasPlinth) (k := 1) (n := 0) (As := [vi a2]) (st := []) fc_X10_161 (by decide) (by decide) (Nat.le_of_ble_eq_true rfl) rfl dX10_power_16 (jw_M.mono h (fun x3 M4 h => ?_))
    show jw_J 3 mX10_power 19 [(0, vr 10 0), (1, vi a1), (2, vi a2), (3, vi a3)] [vi x3] M4 Q
    refine jr_if_ne (pc := 19) (tgt := 25) dX10_power_19 (by decide) (fun c => ?_) (fun c => ?_)
    · replace h := h.1 c
      refine jr_iload_n (pc := 25) dX10_power_25 rfl 3 rfl ?_
      refine jr_if_lt (pc := 26) (tgt := 34) dX10_power_26 (by decide) (fun c => ?_) (fun c => ?_)
      · replace h := h.1 c
        refine jr_ldc (pc := 34) fk_X10_88 dX10_power_34 ?_
        exact jr_iret (pc := 36) rfl dX10_power_36 h
      · replace h := h.2 c
        refine jr_iload_n (pc := 29) dX10_power_29 rfl 3 rfl ?_
        refine jr_iconst (pc := 30) (v := 1) dX10_power_30 (by decide) ?_
        refine jr_icmp_le (pc := 31) (tgt := 37) dX10_power_31 (by decide) (fun c => ?_) (fun c => ?_)
        · replace h := h.1 c
          refine jr_aload_n (pc := 37) dX10_power_37 rfl 0 rfl ?_
          refine jr_get (pc := 38) (v := vr 6 0) fg_X10_40 (by decide) rfl dX10_power_38 ?_
          refine jr_iload_n (pc := 41) dX10_power_41 rfl 1 rfl ?_
          refine jr_iload_n (pc := 42) dX10_power_42 rfl 2 rfl ?_
          refine jr_iload_n (pc := 43) dX10_power_43 rfl 3 rfl ?_
          refine jr_if_ne (pc := 44) (tgt := 51) dX10_power_44 (by decide) (fun c => ?_) (fun c => ?_)
          · replace h := h.1 c
            refine jr_iconst (pc := 51) (v := 0) dX10_power_51 (by decide) ?_
            refine jr_callV (pc := 52) (d' := 2) (mt' := mX6_weight) (k := 6) (n := 0) (As := [vi a1, vi a2, vi 0]) (st := []) fc_X10_250 (by decide) (by decide) (Nat.le_of_ble_eq_true rfl) rfl dX10_power_52 (jw_M.mono h (fun x5 M6 h => ?_))
            show jw_J 3 mX10_power 55 [(0, vr 10 0), (1, vi a1), (2, vi a2), (3, vi a3)] [vi x5] M6 Q
            exact jr_iret (pc := 55) rfl dX10_power_55 h
          · replace h := h.2 c
            refine jr_iconst (pc := 47) (v := 1) dX10_power_47 (by decide) ?_
            refine jr_goto (pc := 48) (tgt := 52) dX10_power_48 (by decide) ?_
            refine jr_callV (pc := 52) (d' := 2) (mt' := mX6_weight) (k := 6) (n := 0) (As := [vi a1, vi a2, vi 1]) (st := []) fc_X10_250 (by decide) (by decide) (Nat.le_of_ble_eq_true rfl) rfl dX10_power_52 (jw_M.mono h (fun x7 M8 h => ?_))
            show jw_J 3 mX10_power 55 [(0, vr 10 0), (1, vi a1), (2, vi a2), (3, vi a3)] [vi x7] M8 Q
            exact jr_iret (pc := 55) rfl dX10_power_55 h
        · replace h := h.2 c
          refine jr_ldc (pc := 34) fk_X10_88 dX10_power_34 ?_
          exact jr_iret (pc := 36) rfl dX10_power_36 h
    · replace h := h.2 c
      refine jr_ldc (pc := 22) fk_X10_164 dX10_power_22 ?_
      exact jr_iret (pc := 24) rfl dX10_power_24 h
theorem dX10_mostHave_0 : decode cX10_mostHave 0 = .ok (.aload_n 0, 1) := by decide +kernel
theorem dX10_mostHave_1 : decode cX10_mostHave 1 = .ok (.getfield 24, 3) := by decide +kernel
theorem dX10_mostHave_4 : decode cX10_mostHave 4 = .ok (.iload_n 1, 1) := by decide +kernel
theorem dX10_mostHave_5 : decode cX10_mostHave 5 = .ok (.invokevirtual 179, 3) := by decide +kernel
theorem dX10_mostHave_8 : decode cX10_mostHave 8 = .ok (.ifCond .eq 19, 3) := by decide +kernel
theorem dX10_mostHave_11 : decode cX10_mostHave 11 = .ok (.aload_n 0, 1) := by decide +kernel
theorem dX10_mostHave_12 : decode cX10_mostHave 12 = .ok (.getfield 24, 3) := by decide +kernel
theorem dX10_mostHave_15 : decode cX10_mostHave 15 = .ok (.iload_n 2, 1) := by decide +kernel
theorem dX10_mostHave_16 : decode cX10_mostHave 16 = .ok (.invokevirtual 179, 3) := by decide +kernel
theorem dX10_mostHave_19 : decode cX10_mostHave 19 = .ok (.ifCond .eq 8, 3) := by decide +kernel
theorem dX10_mostHave_22 : decode cX10_mostHave 22 = .ok (.iload_n 1, 1) := by decide +kernel
theorem dX10_mostHave_23 : decode cX10_mostHave 23 = .ok (.iload_n 2, 1) := by decide +kernel
theorem dX10_mostHave_24 : decode cX10_mostHave 24 = .ok (.if_icmp .ne 6, 3) := by decide +kernel
theorem dX10_mostHave_27 : decode cX10_mostHave 27 = .ok (.ldc 164, 2) := by decide +kernel
theorem dX10_mostHave_29 : decode cX10_mostHave 29 = .ok (.ireturn, 1) := by decide +kernel
theorem dX10_mostHave_30 : decode cX10_mostHave 30 = .ok (.aload_n 0, 1) := by decide +kernel
theorem dX10_mostHave_31 : decode cX10_mostHave 31 = .ok (.getfield 40, 3) := by decide +kernel
theorem dX10_mostHave_34 : decode cX10_mostHave 34 = .ok (.iload_n 1, 1) := by decide +kernel
theorem dX10_mostHave_35 : decode cX10_mostHave 35 = .ok (.iload_n 2, 1) := by decide +kernel
theorem dX10_mostHave_36 : decode cX10_mostHave 36 = .ok (.invokevirtual 254, 3) := by decide +kernel
theorem dX10_mostHave_39 : decode cX10_mostHave 39 = .ok (.ifCond .eq 7, 3) := by decide +kernel
theorem dX10_mostHave_42 : decode cX10_mostHave 42 = .ok (.iconst 1, 1) := by decide +kernel
theorem dX10_mostHave_43 : decode cX10_mostHave 43 = .ok (.goto 4, 3) := by decide +kernel
theorem dX10_mostHave_46 : decode cX10_mostHave 46 = .ok (.iconst 0, 1) := by decide +kernel
theorem dX10_mostHave_47 : decode cX10_mostHave 47 = .ok (.ireturn, 1) := by decide +kernel
set_option maxHeartbeats 4000000 in
set_option maxRecDepth 20000 in
theorem en_X10_mostHave {a1 : Int32} {a2 : Int32} {M : jw_Mem} {Q : Int32 → jw_Mem → Prop}  (h : (jw_M 0 mX1_hasStatue [vr 1 0, vi a1] M (fun x1 M2 => ((x1 = 0 → Q (-1000000001) M2) ∧ (¬ x1 = 0 → (jw_M 0 mX1_hasStatue [vr 1 0, vi a2] M2 (fun x3 M4 => ((x3 = 0 → Q (-1000000001) M4) ∧ (¬ x3 = 0 → ((¬ a1 = a2 → (jw_M 2 mX6_isHadAgainst [vr 6 0, vi a1, vi a2] M4 (fun x5 M6 => ((x5 = 0 → Q 0 M6) ∧ (¬ x5 = 0 → Q 1 M6))))) ∧ (a1 = a2 → Q (-1000000001) M4))))))))))) : jw_M 3 mX10_mostHave [vr 10 0, vi a1, vi a2] M Q := by
  refine jw_M.of (by decide) (Nat.le_of_ble_eq_true rfl) ?_
  show jw_J 3 mX10_mostHave 0 [(0, vr 10 0), (1, vi a1), (2, vi a2)] [] M Q
  refine jr_aload_n (pc := 0) dX10_mostHave_0 rfl 0 rfl ?_
  refine jr_get (pc := 1) (v := vr 1 0) fg_X10_24 (by decide) rfl dX10_mostHave_1 ?_
  refine jr_iload_n (pc := 4) dX10_mostHave_4 rfl 1 rfl ?_
  refine jr_callV (pc := 5) (d' := 0) (mt' := mX1_hasStatue) (k := 1) (n := 0) (As := [vi a1]) (st := []) fc_X10_179 (by decide) (by decide) (Nat.le_of_ble_eq_true rfl) rfl dX10_mostHave_5 (jw_M.mono h (fun x1 M2 h => ?_))
  show jw_J 3 mX10_mostHave 8 [(0, vr 10 0), (1, vi a1), (2, vi a2)] [vi x1] M2 Q
  refine jr_if_eq (pc := 8) (tgt := 27) dX10_mostHave_8 (by decide) (fun c => ?_) (fun c => ?_)
  · replace h := h.1 c
    refine jr_ldc (pc := 27) fk_X10_164 dX10_mostHave_27 ?_
    exact jr_iret (pc := 29) rfl dX10_mostHave_29 h
  · replace h := h.2 c
    refine jr_aload_n (pc := 11) dX10_mostHave_11 rfl 0 rfl ?_
    refine jr_get (pc := 12) (v := vr 1 0) fg_X10_24 (by decide) rfl dX10_mostHave_12 ?_
    refine jr_iload_n (pc := 15) dX10_mostHave_15 rfl 2 rfl ?_
    refine jr_callV (pc := 16) (d' := 0) (mt' := mX1_hasStatue) (k := 1) (n := 0) (As := [vi a2]) (st := []) fc_X10_179 (by decide) (by decide) (Nat.le_of_ble_eq_true rfl) rfl dX10_mostHave_16 (jw_M.mono h (fun x3 M4 h => ?_))
    show jw_J 3 mX10_mostHave 19 [(0, vr 10 0), (1, vi a1), (2, vi a2)] [vi x3] M4 Q
    refine jr_if_eq (pc := 19) (tgt := 27) dX10_mostHave_19 (by decide) (fun c => ?_) (fun c => ?_)
    · replace h := h.1 c
      refine jr_ldc (pc := 27) fk_X10_164 dX10_mostHave_27 ?_
      exact jr_iret (pc := 29) rfl dX10_mostHave_29 h
    · replace h := h.2 c
      refine jr_iload_n (pc := 22) dX10_mostHave_22 rfl 1 rfl ?_
      refine jr_iload_n (pc := 23) dX10_mostHave_23 rfl 2 rfl ?_
      refine jr_icmp_ne (pc := 24) (tgt := 30) dX10_mostHave_24 (by decide) (fun c => ?_) (fun c => ?_)
      · replace h := h.1 c
        refine jr_aload_n (pc := 30) dX10_mostHave_30 rfl 0 rfl ?_
        refine jr_get (pc := 31) (v := vr 6 0) fg_X10_40 (by decide) rfl dX10_mostHave_31 ?_
        refine jr_iload_n (pc := 34) dX10_mostHave_34 rfl 1 rfl ?_
        refine jr_iload_n (pc := 35) dX10_mostHave_35 rfl 2 rfl ?_
        refine jr_callV (pc := 36) (d' := 2) (mt' := mX6_isHadAgainst) (k := 6) (n := 0) (As := [vi a1, vi a2]) (st := []) fc_X10_254 (by decide) (by decide) (Nat.le_of_ble_eq_true rfl) rfl dX10_mostHave_36 (jw_M.mono h (fun x5 M6 h => ?_))
        show jw_J 3 mX10_mostHave 39 [(0, vr 10 0), (1, vi a1), (2, vi a2)] [vi x5] M6 Q
        refine jr_if_eq (pc := 39) (tgt := 46) dX10_mostHave_39 (by decide) (fun c => ?_) (fun c => ?_)
        · replace h := h.1 c
          refine jr_iconst (pc := 46) (v := 0) dX10_mostHave_46 (by decide) ?_
          exact jr_iret (pc := 47) rfl dX10_mostHave_47 h
        · replace h := h.2 c
          refine jr_iconst (pc := 42) (v := 1) dX10_mostHave_42 (by decide) ?_
          refine jr_goto (pc := 43) (tgt := 47) dX10_mostHave_43 (by decide) ?_
          exact jr_iret (pc := 47) rfl dX10_mostHave_47 h
      · replace h := h.2 c
        refine jr_ldc (pc := 27) fk_X10_164 dX10_mostHave_27 ?_
        exact jr_iret (pc := 29) rfl dX10_mostHave_29 h
theorem dX10_places_0 : decode cX10_places 0 = .ok (.iload_n 1, 1) := by decide +kernel
theorem dX10_places_1 : decode cX10_places 1 = .ok (.iconst (-1), 1) := by decide +kernel
theorem dX10_places_2 : decode cX10_places 2 = .ok (.if_icmp .eq 23, 3) := by decide +kernel
theorem dX10_places_5 : decode cX10_places 5 = .ok (.iload_n 1, 1) := by decide +kernel
theorem dX10_places_6 : decode cX10_places 6 = .ok (.bipush (-2), 2) := by decide +kernel
theorem dX10_places_8 : decode cX10_places 8 = .ok (.if_icmp .eq 17, 3) := by decide +kernel
theorem dX10_places_11 : decode cX10_places 11 = .ok (.aload_n 0, 1) := by decide +kernel
theorem dX10_places_12 : decode cX10_places 12 = .ok (.getfield 24, 3) := by decide +kernel
theorem dX10_places_15 : decode cX10_places 15 = .ok (.iload_n 1, 1) := by decide +kernel
theorem dX10_places_16 : decode cX10_places 16 = .ok (.invokevirtual 179, 3) := by decide +kernel
theorem dX10_places_19 : decode cX10_places 19 = .ok (.ifCond .ne 6, 3) := by decide +kernel
theorem dX10_places_22 : decode cX10_places 22 = .ok (.ldc 164, 2) := by decide +kernel
theorem dX10_places_24 : decode cX10_places 24 = .ok (.ireturn, 1) := by decide +kernel
theorem dX10_places_25 : decode cX10_places 25 = .ok (.aload_n 0, 1) := by decide +kernel
theorem dX10_places_26 : decode cX10_places 26 = .ok (.getfield 47, 3) := by decide +kernel
theorem dX10_places_29 : decode cX10_places 29 = .ok (.invokevirtual 257, 3) := by decide +kernel
theorem dX10_places_32 : decode cX10_places 32 = .ok (.iload_n 1, 1) := by decide +kernel
theorem dX10_places_33 : decode cX10_places 33 = .ok (.iconst (-1), 1) := by decide +kernel
theorem dX10_places_34 : decode cX10_places 34 = .ok (.if_icmp .ne 11, 3) := by decide +kernel
theorem dX10_places_37 : decode cX10_places 37 = .ok (.aload_n 0, 1) := by decide +kernel
theorem dX10_places_38 : decode cX10_places 38 = .ok (.getfield 47, 3) := by decide +kernel
theorem dX10_places_41 : decode cX10_places 41 = .ok (.invokevirtual 260, 3) := by decide +kernel
theorem dX10_places_44 : decode cX10_places 44 = .ok (.ireturn, 1) := by decide +kernel
theorem dX10_places_45 : decode cX10_places 45 = .ok (.iload_n 1, 1) := by decide +kernel
theorem dX10_places_46 : decode cX10_places 46 = .ok (.bipush (-2), 2) := by decide +kernel
theorem dX10_places_48 : decode cX10_places 48 = .ok (.if_icmp .ne 11, 3) := by decide +kernel
theorem dX10_places_51 : decode cX10_places 51 = .ok (.aload_n 0, 1) := by decide +kernel
theorem dX10_places_52 : decode cX10_places 52 = .ok (.getfield 47, 3) := by decide +kernel
theorem dX10_places_55 : decode cX10_places 55 = .ok (.invokevirtual 263, 3) := by decide +kernel
theorem dX10_places_58 : decode cX10_places 58 = .ok (.ireturn, 1) := by decide +kernel
theorem dX10_places_59 : decode cX10_places 59 = .ok (.aload_n 0, 1) := by decide +kernel
theorem dX10_places_60 : decode cX10_places 60 = .ok (.getfield 47, 3) := by decide +kernel
theorem dX10_places_63 : decode cX10_places 63 = .ok (.getfield 266, 3) := by decide +kernel
theorem dX10_places_66 : decode cX10_places 66 = .ok (.iload_n 1, 1) := by decide +kernel
theorem dX10_places_67 : decode cX10_places 67 = .ok (.iaload, 1) := by decide +kernel
theorem dX10_places_68 : decode cX10_places 68 = .ok (.ireturn, 1) := by decide +kernel
set_option maxHeartbeats 4000000 in
set_option maxRecDepth 20000 in
theorem en_X10_places {a1 : Int32} {M : jw_Mem} {Q : Int32 → jw_Mem → Prop}  (h : ((a1 = (-1) → (jw_M 4 mX5_placeAll [vr 5 0] M (fun x1 M2 => ((¬ a1 = (-1) → ((¬ a1 = (-2) → (vp_in a1 6 ∧ Q (M2 23 0 a1.toNatClampNeg) M2)) ∧ (a1 = (-2) → (jw_M 1 mX5_viewTogether [vr 5 0] M2 (fun x3 M4 => Q x3 M4))))) ∧ (a1 = (-1) → (jw_M 1 mX5_placed [vr 5 0] M2 (fun x5 M6 => Q x5 M6))))))) ∧ (¬ a1 = (-1) → ((a1 = (-2) → (jw_M 4 mX5_placeAll [vr 5 0] M (fun x7 M8 => ((¬ a1 = (-1) → ((¬ a1 = (-2) → (vp_in a1 6 ∧ Q (M8 23 0 a1.toNatClampNeg) M8)) ∧ (a1 = (-2) → (jw_M 1 mX5_viewTogether [vr 5 0] M8 (fun x9 M10 => Q x9 M10))))) ∧ (a1 = (-1) → (jw_M 1 mX5_placed [vr 5 0] M8 (fun x11 M12 => Q x11 M12))))))) ∧ (¬ a1 = (-2) → (jw_M 0 mX1_hasStatue [vr 1 0, vi a1] M (fun x13 M14 => ((¬ x13 = 0 → (jw_M 4 mX5_placeAll [vr 5 0] M14 (fun x15 M16 => ((¬ a1 = (-1) → ((¬ a1 = (-2) → (vp_in a1 6 ∧ Q (M16 23 0 a1.toNatClampNeg) M16)) ∧ (a1 = (-2) → (jw_M 1 mX5_viewTogether [vr 5 0] M16 (fun x17 M18 => Q x17 M18))))) ∧ (a1 = (-1) → (jw_M 1 mX5_placed [vr 5 0] M16 (fun x19 M20 => Q x19 M20))))))) ∧ (x13 = 0 → Q (-1000000001) M14))))))))) : jw_M 5 mX10_places [vr 10 0, vi a1] M Q := by
  refine jw_M.of (by decide) (Nat.le_of_ble_eq_true rfl) ?_
  show jw_J 5 mX10_places 0 [(0, vr 10 0), (1, vi a1)] [] M Q
  refine jr_iload_n (pc := 0) dX10_places_0 rfl 1 rfl ?_
  refine jr_iconst (pc := 1) (v := (-1)) dX10_places_1 (by decide) ?_
  refine jr_icmp_eq (pc := 2) (tgt := 25) dX10_places_2 (by decide) (fun c => ?_) (fun c => ?_)
  · replace h := h.1 c
    refine jr_aload_n (pc := 25) dX10_places_25 rfl 0 rfl ?_
    refine jr_get (pc := 26) (v := vr 5 0) fg_X10_47 (by decide) rfl dX10_places_26 ?_
    refine jr_callV (pc := 29) (d' := 4) (mt' := mX5_placeAll) (k := 5) (n := 0) (As := []) (st := []) fc_X10_257 (by decide) (by decide) (Nat.le_of_ble_eq_true rfl) rfl dX10_places_29 (jw_M.mono h (fun x1 M2 h => ?_))
    show jw_J 5 mX10_places 32 [(0, vr 10 0), (1, vi a1)] [] M2 Q
    refine jr_iload_n (pc := 32) dX10_places_32 rfl 1 rfl ?_
    refine jr_iconst (pc := 33) (v := (-1)) dX10_places_33 (by decide) ?_
    refine jr_icmp_ne (pc := 34) (tgt := 45) dX10_places_34 (by decide) (fun c => ?_) (fun c => ?_)
    · replace h := h.1 c
      refine jr_iload_n (pc := 45) dX10_places_45 rfl 1 rfl ?_
      refine jr_bipush (pc := 46) (v := (-2)) dX10_places_46 (by decide) ?_
      refine jr_icmp_ne (pc := 48) (tgt := 59) dX10_places_48 (by decide) (fun c => ?_) (fun c => ?_)
      · replace h := h.1 c
        refine jr_aload_n (pc := 59) dX10_places_59 rfl 0 rfl ?_
        refine jr_get (pc := 60) (v := vr 5 0) fg_X10_47 (by decide) rfl dX10_places_60 ?_
        refine jr_get (pc := 63) (v := vr 23 0) fg_X10_266 (by decide) rfl dX10_places_63 ?_
        refine jr_iload_n (pc := 66) dX10_places_66 rfl 1 rfl ?_
        refine jr_iald (pc := 67) ⟨rfl, (by decide)⟩ h.1 dX10_places_67 ?_
        replace h := h.2
        exact jr_iret (pc := 68) rfl dX10_places_68 h
      · replace h := h.2 c
        refine jr_aload_n (pc := 51) dX10_places_51 rfl 0 rfl ?_
        refine jr_get (pc := 52) (v := vr 5 0) fg_X10_47 (by decide) rfl dX10_places_52 ?_
        refine jr_callV (pc := 55) (d' := 1) (mt' := mX5_viewTogether) (k := 5) (n := 0) (As := []) (st := []) fc_X10_263 (by decide) (by decide) (Nat.le_of_ble_eq_true rfl) rfl dX10_places_55 (jw_M.mono h (fun x3 M4 h => ?_))
        show jw_J 5 mX10_places 58 [(0, vr 10 0), (1, vi a1)] [vi x3] M4 Q
        exact jr_iret (pc := 58) rfl dX10_places_58 h
    · replace h := h.2 c
      refine jr_aload_n (pc := 37) dX10_places_37 rfl 0 rfl ?_
      refine jr_get (pc := 38) (v := vr 5 0) fg_X10_47 (by decide) rfl dX10_places_38 ?_
      refine jr_callV (pc := 41) (d' := 1) (mt' := mX5_placed) (k := 5) (n := 0) (As := []) (st := []) fc_X10_260 (by decide) (by decide) (Nat.le_of_ble_eq_true rfl) rfl dX10_places_41 (jw_M.mono h (fun x5 M6 h => ?_))
      show jw_J 5 mX10_places 44 [(0, vr 10 0), (1, vi a1)] [vi x5] M6 Q
      exact jr_iret (pc := 44) rfl dX10_places_44 h
  · replace h := h.2 c
    refine jr_iload_n (pc := 5) dX10_places_5 rfl 1 rfl ?_
    refine jr_bipush (pc := 6) (v := (-2)) dX10_places_6 (by decide) ?_
    refine jr_icmp_eq (pc := 8) (tgt := 25) dX10_places_8 (by decide) (fun c => ?_) (fun c => ?_)
    · replace h := h.1 c
      refine jr_aload_n (pc := 25) dX10_places_25 rfl 0 rfl ?_
      refine jr_get (pc := 26) (v := vr 5 0) fg_X10_47 (by decide) rfl dX10_places_26 ?_
      refine jr_callV (pc := 29) (d' := 4) (mt' := mX5_placeAll) (k := 5) (n := 0) (As := []) (st := []) fc_X10_257 (by decide) (by decide) (Nat.le_of_ble_eq_true rfl) rfl dX10_places_29 (jw_M.mono h (fun x7 M8 h => ?_))
      show jw_J 5 mX10_places 32 [(0, vr 10 0), (1, vi a1)] [] M8 Q
      refine jr_iload_n (pc := 32) dX10_places_32 rfl 1 rfl ?_
      refine jr_iconst (pc := 33) (v := (-1)) dX10_places_33 (by decide) ?_
      refine jr_icmp_ne (pc := 34) (tgt := 45) dX10_places_34 (by decide) (fun c => ?_) (fun c => ?_)
      · replace h := h.1 c
        refine jr_iload_n (pc := 45) dX10_places_45 rfl 1 rfl ?_
        refine jr_bipush (pc := 46) (v := (-2)) dX10_places_46 (by decide) ?_
        refine jr_icmp_ne (pc := 48) (tgt := 59) dX10_places_48 (by decide) (fun c => ?_) (fun c => ?_)
        · replace h := h.1 c
          refine jr_aload_n (pc := 59) dX10_places_59 rfl 0 rfl ?_
          refine jr_get (pc := 60) (v := vr 5 0) fg_X10_47 (by decide) rfl dX10_places_60 ?_
          refine jr_get (pc := 63) (v := vr 23 0) fg_X10_266 (by decide) rfl dX10_places_63 ?_
          refine jr_iload_n (pc := 66) dX10_places_66 rfl 1 rfl ?_
          refine jr_iald (pc := 67) ⟨rfl, (by decide)⟩ h.1 dX10_places_67 ?_
          replace h := h.2
          exact jr_iret (pc := 68) rfl dX10_places_68 h
        · replace h := h.2 c
          refine jr_aload_n (pc := 51) dX10_places_51 rfl 0 rfl ?_
          refine jr_get (pc := 52) (v := vr 5 0) fg_X10_47 (by decide) rfl dX10_places_52 ?_
          refine jr_callV (pc := 55) (d' := 1) (mt' := mX5_viewTogether) (k := 5) (n := 0) (As := []) (st := []) fc_X10_263 (by decide) (by decide) (Nat.le_of_ble_eq_true rfl) rfl dX10_places_55 (jw_M.mono h (fun x9 M10 h => ?_))
          show jw_J 5 mX10_places 58 [(0, vr 10 0), (1, vi a1)] [vi x9] M10 Q
          exact jr_iret (pc := 58) rfl dX10_places_58 h
      · replace h := h.2 c
        refine jr_aload_n (pc := 37) dX10_places_37 rfl 0 rfl ?_
        refine jr_get (pc := 38) (v := vr 5 0) fg_X10_47 (by decide) rfl dX10_places_38 ?_
        refine jr_callV (pc := 41) (d' := 1) (mt' := mX5_placed) (k := 5) (n := 0) (As := []) (st := []) fc_X10_260 (by decide) (by decide) (Nat.le_of_ble_eq_true rfl) rfl dX10_places_41 (jw_M.mono h (fun x11 M12 h => ?_))
        show jw_J 5 mX10_places 44 [(0, vr 10 0), (1, vi a1)] [vi x11] M12 Q
        exact jr_iret (pc := 44) rfl dX10_places_44 h
    · replace h := h.2 c
      refine jr_aload_n (pc := 11) dX10_places_11 rfl 0 rfl ?_
      refine jr_get (pc := 12) (v := vr 1 0) fg_X10_24 (by decide) rfl dX10_places_12 ?_
      refine jr_iload_n (pc := 15) dX10_places_15 rfl 1 rfl ?_
      refine jr_callV (pc := 16) (d' := 0) (mt' := mX1_hasStatue) (k := 1) (n := 0) (As := [vi a1]) (st := []) fc_X10_179 (by decide) (by decide) (Nat.le_of_ble_eq_true rfl) rfl dX10_places_16 (jw_M.mono h (fun x13 M14 h => ?_))
      show jw_J 5 mX10_places 19 [(0, vr 10 0), (1, vi a1)] [vi x13] M14 Q
      refine jr_if_ne (pc := 19) (tgt := 25) dX10_places_19 (by decide) (fun c => ?_) (fun c => ?_)
      · replace h := h.1 c
        refine jr_aload_n (pc := 25) dX10_places_25 rfl 0 rfl ?_
        refine jr_get (pc := 26) (v := vr 5 0) fg_X10_47 (by decide) rfl dX10_places_26 ?_
        refine jr_callV (pc := 29) (d' := 4) (mt' := mX5_placeAll) (k := 5) (n := 0) (As := []) (st := []) fc_X10_257 (by decide) (by decide) (Nat.le_of_ble_eq_true rfl) rfl dX10_places_29 (jw_M.mono h (fun x15 M16 h => ?_))
        show jw_J 5 mX10_places 32 [(0, vr 10 0), (1, vi a1)] [] M16 Q
        refine jr_iload_n (pc := 32) dX10_places_32 rfl 1 rfl ?_
        refine jr_iconst (pc := 33) (v := (-1)) dX10_places_33 (by decide) ?_
        refine jr_icmp_ne (pc := 34) (tgt := 45) dX10_places_34 (by decide) (fun c => ?_) (fun c => ?_)
        · replace h := h.1 c
          refine jr_iload_n (pc := 45) dX10_places_45 rfl 1 rfl ?_
          refine jr_bipush (pc := 46) (v := (-2)) dX10_places_46 (by decide) ?_
          refine jr_icmp_ne (pc := 48) (tgt := 59) dX10_places_48 (by decide) (fun c => ?_) (fun c => ?_)
          · replace h := h.1 c
            refine jr_aload_n (pc := 59) dX10_places_59 rfl 0 rfl ?_
            refine jr_get (pc := 60) (v := vr 5 0) fg_X10_47 (by decide) rfl dX10_places_60 ?_
            refine jr_get (pc := 63) (v := vr 23 0) fg_X10_266 (by decide) rfl dX10_places_63 ?_
            refine jr_iload_n (pc := 66) dX10_places_66 rfl 1 rfl ?_
            refine jr_iald (pc := 67) ⟨rfl, (by decide)⟩ h.1 dX10_places_67 ?_
            replace h := h.2
            exact jr_iret (pc := 68) rfl dX10_places_68 h
          · replace h := h.2 c
            refine jr_aload_n (pc := 51) dX10_places_51 rfl 0 rfl ?_
            refine jr_get (pc := 52) (v := vr 5 0) fg_X10_47 (by decide) rfl dX10_places_52 ?_
            refine jr_callV (pc := 55) (d' := 1) (mt' := mX5_viewTogether) (k := 5) (n := 0) (As := []) (st := []) fc_X10_263 (by decide) (by decide) (Nat.le_of_ble_eq_true rfl) rfl dX10_places_55 (jw_M.mono h (fun x17 M18 h => ?_))
            show jw_J 5 mX10_places 58 [(0, vr 10 0), (1, vi a1)] [vi x17] M18 Q
            exact jr_iret (pc := 58) rfl dX10_places_58 h
        · replace h := h.2 c
          refine jr_aload_n (pc := 37) dX10_places_37 rfl 0 rfl ?_
          refine jr_get (pc := 38) (v := vr 5 0) fg_X10_47 (by decide) rfl dX10_places_38 ?_
          refine jr_callV (pc := 41) (d' := 1) (mt' := mX5_placed) (k := 5) (n := 0) (As := []) (st := []) fc_X10_260 (by decide) (by decide) (Nat.le_of_ble_eq_true rfl) rfl dX10_places_41 (jw_M.mono h (fun x19 M20 h => ?_))
          show jw_J 5 mX10_places 44 [(0, vr 10 0), (1, vi a1)] [vi x19] M20 Q
          exact jr_iret (pc := 44) rfl dX10_places_44 h
      · replace h := h.2 c
        refine jr_ldc (pc := 22) fk_X10_164 dX10_places_22 ?_
        exact jr_iret (pc := 24) rfl dX10_places_24 h
theorem dX10_swaps_0 : decode cX10_swaps 0 = .ok (.iload_n 1, 1) := by decide +kernel
theorem dX10_swaps_1 : decode cX10_swaps 1 = .ok (.iconst (-1), 1) := by decide +kernel
theorem dX10_swaps_2 : decode cX10_swaps 2 = .ok (.if_icmp .ge 5, 3) := by decide +kernel
theorem dX10_swaps_5 : decode cX10_swaps 5 = .ok (.iconst (-1), 1) := by decide +kernel
theorem dX10_swaps_6 : decode cX10_swaps 6 = .ok (.ireturn, 1) := by decide +kernel
theorem dX10_swaps_7 : decode cX10_swaps 7 = .ok (.iload_n 1, 1) := by decide +kernel
theorem dX10_swaps_8 : decode cX10_swaps 8 = .ok (.iconst (-1), 1) := by decide +kernel
theorem dX10_swaps_9 : decode cX10_swaps 9 = .ok (.if_icmp .ne 13, 3) := by decide +kernel
theorem dX10_swaps_12 : decode cX10_swaps 12 = .ok (.aload_n 0, 1) := by decide +kernel
theorem dX10_swaps_13 : decode cX10_swaps 13 = .ok (.getfield 47, 3) := by decide +kernel
theorem dX10_swaps_16 : decode cX10_swaps 16 = .ok (.invokevirtual 269, 3) := by decide +kernel
theorem dX10_swaps_19 : decode cX10_swaps 19 = .ok (.goto 11, 3) := by decide +kernel
theorem dX10_swaps_22 : decode cX10_swaps 22 = .ok (.aload_n 0, 1) := by decide +kernel
theorem dX10_swaps_23 : decode cX10_swaps 23 = .ok (.getfield 47, 3) := by decide +kernel
theorem dX10_swaps_26 : decode cX10_swaps 26 = .ok (.iload_n 1, 1) := by decide +kernel
theorem dX10_swaps_27 : decode cX10_swaps 27 = .ok (.invokevirtual 272, 3) := by decide +kernel
theorem dX10_swaps_30 : decode cX10_swaps 30 = .ok (.ireturn, 1) := by decide +kernel
set_option maxHeartbeats 4000000 in
set_option maxRecDepth 20000 in
theorem en_X10_swaps {a1 : Int32} {M : jw_Mem} {Q : Int32 → jw_Mem → Prop}  (h : (((-1) ≤ a1 → ((¬ a1 = (-1) → (jw_M 3 mX5_nthSwap [vr 5 0, vi a1] M (fun x1 M2 => Q x1 M2))) ∧ (a1 = (-1) → (jw_M 3 mX5_howManySwaps [vr 5 0] M (fun x3 M4 => Q x3 M4))))) ∧ (¬ (-1) ≤ a1 → Q (-1) M))) : jw_M 4 mX10_swaps [vr 10 0, vi a1] M Q := by
  refine jw_M.of (by decide) (Nat.le_of_ble_eq_true rfl) ?_
  show jw_J 4 mX10_swaps 0 [(0, vr 10 0), (1, vi a1)] [] M Q
  refine jr_iload_n (pc := 0) dX10_swaps_0 rfl 1 rfl ?_
  refine jr_iconst (pc := 1) (v := (-1)) dX10_swaps_1 (by decide) ?_
  refine jr_icmp_ge (pc := 2) (tgt := 7) dX10_swaps_2 (by decide) (fun c => ?_) (fun c => ?_)
  · replace h := h.1 c
    refine jr_iload_n (pc := 7) dX10_swaps_7 rfl 1 rfl ?_
    refine jr_iconst (pc := 8) (v := (-1)) dX10_swaps_8 (by decide) ?_
    refine jr_icmp_ne (pc := 9) (tgt := 22) dX10_swaps_9 (by decide) (fun c => ?_) (fun c => ?_)
    · replace h := h.1 c
      refine jr_aload_n (pc := 22) dX10_swaps_22 rfl 0 rfl ?_
      refine jr_get (pc := 23) (v := vr 5 0) fg_X10_47 (by decide) rfl dX10_swaps_23 ?_
      refine jr_iload_n (pc := 26) dX10_swaps_26 rfl 1 rfl ?_
      refine jr_callV (pc := 27) (d' := 3) (mt' := mX5_nthSwap) (k := 5) (n := 0) (As := [vi a1]) (st := []) fc_X10_272 (by decide) (by decide) (Nat.le_of_ble_eq_true rfl) rfl dX10_swaps_27 (jw_M.mono h (fun x1 M2 h => ?_))
      show jw_J 4 mX10_swaps 30 [(0, vr 10 0), (1, vi a1)] [vi x1] M2 Q
      exact jr_iret (pc := 30) rfl dX10_swaps_30 h
    · replace h := h.2 c
      refine jr_aload_n (pc := 12) dX10_swaps_12 rfl 0 rfl ?_
      refine jr_get (pc := 13) (v := vr 5 0) fg_X10_47 (by decide) rfl dX10_swaps_13 ?_
      refine jr_callV (pc := 16) (d' := 3) (mt' := mX5_howManySwaps) (k := 5) (n := 0) (As := []) (st := []) fc_X10_269 (by decide) (by decide) (Nat.le_of_ble_eq_true rfl) rfl dX10_swaps_16 (jw_M.mono h (fun x3 M4 h => ?_))
      show jw_J 4 mX10_swaps 19 [(0, vr 10 0), (1, vi a1)] [vi x3] M4 Q
      refine jr_goto (pc := 19) (tgt := 30) dX10_swaps_19 (by decide) ?_
      exact jr_iret (pc := 30) rfl dX10_swaps_30 h
  · replace h := h.2 c
    refine jr_iconst (pc := 5) (v := (-1)) dX10_swaps_5 (by decide) ?_
    exact jr_iret (pc := 6) rfl dX10_swaps_6 h
theorem dX10_close_0 : decode cX10_close 0 = .ok (.iload_n 1, 1) := by decide +kernel
theorem dX10_close_1 : decode cX10_close 1 = .ok (.ifCond .lt 19, 3) := by decide +kernel
theorem dX10_close_4 : decode cX10_close 4 = .ok (.iload_n 1, 1) := by decide +kernel
theorem dX10_close_5 : decode cX10_close 5 = .ok (.bipush 60, 2) := by decide +kernel
theorem dX10_close_7 : decode cX10_close 7 = .ok (.if_icmp .gt 13, 3) := by decide +kernel
theorem dX10_close_10 : decode cX10_close 10 = .ok (.iload_n 2, 1) := by decide +kernel
theorem dX10_close_11 : decode cX10_close 11 = .ok (.ifCond .lt 9, 3) := by decide +kernel
theorem dX10_close_14 : decode cX10_close 14 = .ok (.iload_n 2, 1) := by decide +kernel
theorem dX10_close_15 : decode cX10_close 15 = .ok (.bipush 100, 2) := by decide +kernel
theorem dX10_close_17 : decode cX10_close 17 = .ok (.if_icmp .le 6, 3) := by decide +kernel
theorem dX10_close_20 : decode cX10_close 20 = .ok (.ldc 88, 2) := by decide +kernel
theorem dX10_close_22 : decode cX10_close 22 = .ok (.ireturn, 1) := by decide +kernel
theorem dX10_close_23 : decode cX10_close 23 = .ok (.ldc2_w 275, 3) := by decide +kernel
theorem dX10_close_26 : decode cX10_close 26 = .ok (.lstore_n 3, 1) := by decide +kernel
theorem dX10_close_27 : decode cX10_close 27 = .ok (.iconst 0, 1) := by decide +kernel
theorem dX10_close_28 : decode cX10_close 28 = .ok (.istore 5, 2) := by decide +kernel
theorem dX10_close_30 : decode cX10_close 30 = .ok (.iload 5, 2) := by decide +kernel
theorem dX10_close_32 : decode cX10_close 32 = .ok (.iload_n 1, 1) := by decide +kernel
theorem dX10_close_33 : decode cX10_close 33 = .ok (.if_icmp .ge 18, 3) := by decide +kernel
theorem dX10_close_36 : decode cX10_close 36 = .ok (.lload_n 3, 1) := by decide +kernel
theorem dX10_close_37 : decode cX10_close 37 = .ok (.iload_n 2, 1) := by decide +kernel
theorem dX10_close_38 : decode cX10_close 38 = .ok (.i2l, 1) := by decide +kernel
theorem dX10_close_39 : decode cX10_close 39 = .ok (.lmul, 1) := by decide +kernel
theorem dX10_close_40 : decode cX10_close 40 = .ok (.ldc2_w 277, 3) := by decide +kernel
theorem dX10_close_43 : decode cX10_close 43 = .ok (.ldiv, 1) := by decide +kernel
theorem dX10_close_44 : decode cX10_close 44 = .ok (.lstore_n 3, 1) := by decide +kernel
theorem dX10_close_45 : decode cX10_close 45 = .ok (.iinc 5 1, 3) := by decide +kernel
theorem dX10_close_48 : decode cX10_close 48 = .ok (.goto (-18), 3) := by decide +kernel
theorem dX10_close_51 : decode cX10_close 51 = .ok (.lload_n 3, 1) := by decide +kernel
theorem dX10_close_52 : decode cX10_close 52 = .ok (.l2i, 1) := by decide +kernel
theorem dX10_close_53 : decode cX10_close 53 = .ok (.ireturn, 1) := by decide +kernel
set_option maxHeartbeats 4000000 in
set_option maxRecDepth 20000 in
theorem en_X10_close {a1 : Int32} {a2 : Int32} {M : jw_Mem} {Q : Int32 → jw_Mem → Prop}  (h : ((a1 < 0 → Q (-1000000002) M) ∧ (¬ a1 < 0 → ((60 < a1 → Q (-1000000002) M) ∧ (¬ 60 < a1 → ((a2 < 0 → Q (-1000000002) M) ∧ (¬ a2 < 0 → ((a2 ≤ 100 → jw_J 0 mX10_close 30 [(1, vi a1), (2, vi a2), (3, vl 1000000000), (5, vi 0)] [] M Q) ∧ (¬ a2 ≤ 100 → Q (-1000000002) M))))))))) : jw_M 0 mX10_close [vr 10 0, vi a1, vi a2] M Q := by
  refine jw_M.of (by decide) (Nat.le_of_ble_eq_true rfl) ?_
  show jw_J 0 mX10_close 0 [(0, vr 10 0), (1, vi a1), (2, vi a2)] [] M Q
  refine jr_iload_n (pc := 0) dX10_close_0 rfl 1 rfl ?_
  refine jr_if_lt (pc := 1) (tgt := 20) dX10_close_1 (by decide) (fun c => ?_) (fun c => ?_)
  · replace h := h.1 c
    refine jr_ldc (pc := 20) fk_X10_88 dX10_close_20 ?_
    exact jr_iret (pc := 22) rfl dX10_close_22 h
  · replace h := h.2 c
    refine jr_iload_n (pc := 4) dX10_close_4 rfl 1 rfl ?_
    refine jr_bipush (pc := 5) (v := 60) dX10_close_5 (by decide) ?_
    refine jr_icmp_gt (pc := 7) (tgt := 20) dX10_close_7 (by decide) (fun c => ?_) (fun c => ?_)
    · replace h := h.1 c
      refine jr_ldc (pc := 20) fk_X10_88 dX10_close_20 ?_
      exact jr_iret (pc := 22) rfl dX10_close_22 h
    · replace h := h.2 c
      refine jr_iload_n (pc := 10) dX10_close_10 rfl 2 rfl ?_
      refine jr_if_lt (pc := 11) (tgt := 20) dX10_close_11 (by decide) (fun c => ?_) (fun c => ?_)
      · replace h := h.1 c
        refine jr_ldc (pc := 20) fk_X10_88 dX10_close_20 ?_
        exact jr_iret (pc := 22) rfl dX10_close_22 h
      · replace h := h.2 c
        refine jr_iload_n (pc := 14) dX10_close_14 rfl 2 rfl ?_
        refine jr_bipush (pc := 15) (v := 100) dX10_close_15 (by decide) ?_
        refine jr_icmp_le (pc := 17) (tgt := 23) dX10_close_17 (by decide) (fun c => ?_) (fun c => ?_)
        · replace h := h.1 c
          refine jr_ldc2 (pc := 23) fk_X10_275 dX10_close_23 ?_
          refine jr_lstore_n (pc := 26) (lv' := [(3, vl 1000000000), (0, vr 10 0), (1, vi a1), (2, vi a2)]) dX10_close_26 rfl (by decide) rfl ?_
          refine jr_iconst (pc := 27) (v := 0) dX10_close_27 (by decide) ?_
          refine jr_istore (pc := 28) (lv' := [(5, vi 0), (3, vl 1000000000), (0, vr 10 0), (1, vi a1), (2, vi a2)]) dX10_close_28 (by decide) rfl ?_
          exact jr_sub [3, 4, 1, 0] rfl h
        · replace h := h.2 c
          refine jr_ldc (pc := 20) fk_X10_88 dX10_close_20 ?_
          exact jr_iret (pc := 22) rfl dX10_close_22 h
set_option maxHeartbeats 4000000 in
set_option maxRecDepth 20000 in
theorem bk_X10_close_30 {v1 : Int32} {v2 : Int32} {v3 : Int64} {v5 : Int32} {M : jw_Mem} {Q : Int32 → jw_Mem → Prop}  (h : ((v1 ≤ v5 → Q (v3.toInt32) M) ∧ (¬ v1 ≤ v5 → jw_J 0 mX10_close 30 [(1, vi v1), (2, vi v2), (3, vl ((v3 * (v2.toInt64)) / 100)), (5, vi (v5 + 1))] [] M Q))) : jw_J 0 mX10_close 30 [(1, vi v1), (2, vi v2), (3, vl v3), (5, vi v5)] [] M Q := by
  refine jr_iload (pc := 30) dX10_close_30 3 rfl ?_
  refine jr_iload_n (pc := 32) dX10_close_32 rfl 0 rfl ?_
  refine jr_icmp_ge (pc := 33) (tgt := 51) dX10_close_33 (by decide) (fun c => ?_) (fun c => ?_)
  · replace h := h.1 c
    refine jr_lload_n (pc := 51) dX10_close_51 rfl 2 rfl ?_
    refine jr_l2i (pc := 52) dX10_close_52 ?_
    exact jr_iret (pc := 53) rfl dX10_close_53 h
  · replace h := h.2 c
    refine jr_lload_n (pc := 36) dX10_close_36 rfl 2 rfl ?_
    refine jr_iload_n (pc := 37) dX10_close_37 rfl 1 rfl ?_
    refine jr_i2l (pc := 38) dX10_close_38 ?_
    refine jr_lmul (pc := 39) dX10_close_39 ?_
    refine jr_ldc2 (pc := 40) fk_X10_277 dX10_close_40 ?_
    refine jr_ldiv (pc := 43) dX10_close_43 (by decide) ?_
    refine jr_lstore_n (pc := 44) (lv' := [(3, vl ((v3 * (v2.toInt64)) / 100)), (1, vi v1), (2, vi v2), (5, vi v5)]) dX10_close_44 rfl (by decide) rfl ?_
    refine jr_iinc (pc := 45) (lv' := [(5, vi (v5 + 1)), (3, vl ((v3 * (v2.toInt64)) / 100)), (1, vi v1), (2, vi v2)]) (q := 3) dX10_close_45 rfl (by rfl) (by decide) rfl ?_
    refine jr_goto (pc := 48) (tgt := 30) dX10_close_48 (by decide) ?_
    exact jr_sub [2, 3, 1, 0] rfl h
theorem dX10_count_0 : decode cX10_count 0 = .ok (.aload_n 0, 1) := by decide +kernel
theorem dX10_count_1 : decode cX10_count 1 = .ok (.getfield 24, 3) := by decide +kernel
theorem dX10_count_4 : decode cX10_count 4 = .ok (.iload_n 1, 1) := by decide +kernel
theorem dX10_count_5 : decode cX10_count 5 = .ok (.invokevirtual 161, 3) := by decide +kernel
theorem dX10_count_8 : decode cX10_count 8 = .ok (.ifCond .ne 6, 3) := by decide +kernel
theorem dX10_count_11 : decode cX10_count 11 = .ok (.ldc 164, 2) := by decide +kernel
theorem dX10_count_13 : decode cX10_count 13 = .ok (.ireturn, 1) := by decide +kernel
theorem dX10_count_14 : decode cX10_count 14 = .ok (.iload_n 2, 1) := by decide +kernel
theorem dX10_count_15 : decode cX10_count 15 = .ok (.ifCond .lt 9, 3) := by decide +kernel
theorem dX10_count_18 : decode cX10_count 18 = .ok (.iload_n 2, 1) := by decide +kernel
theorem dX10_count_19 : decode cX10_count 19 = .ok (.bipush 99, 2) := by decide +kernel
theorem dX10_count_21 : decode cX10_count 21 = .ok (.if_icmp .le 6, 3) := by decide +kernel
theorem dX10_count_24 : decode cX10_count 24 = .ok (.ldc 88, 2) := by decide +kernel
theorem dX10_count_26 : decode cX10_count 26 = .ok (.ireturn, 1) := by decide +kernel
theorem dX10_count_27 : decode cX10_count 27 = .ok (.aload_n 0, 1) := by decide +kernel
theorem dX10_count_28 : decode cX10_count 28 = .ok (.getfield 54, 3) := by decide +kernel
theorem dX10_count_31 : decode cX10_count 31 = .ok (.iload_n 1, 1) := by decide +kernel
theorem dX10_count_32 : decode cX10_count 32 = .ok (.iload_n 2, 1) := by decide +kernel
theorem dX10_count_33 : decode cX10_count 33 = .ok (.invokevirtual 279, 3) := by decide +kernel
theorem dX10_count_36 : decode cX10_count 36 = .ok (.ifCond .eq 13, 3) := by decide +kernel
theorem dX10_count_39 : decode cX10_count 39 = .ok (.aload_n 0, 1) := by decide +kernel
theorem dX10_count_40 : decode cX10_count 40 = .ok (.getfield 54, 3) := by decide +kernel
theorem dX10_count_43 : decode cX10_count 43 = .ok (.getfield 156, 3) := by decide +kernel
theorem dX10_count_46 : decode cX10_count 46 = .ok (.goto 5, 3) := by decide +kernel
theorem dX10_count_49 : decode cX10_count 49 = .ok (.ldc 97, 2) := by decide +kernel
theorem dX10_count_51 : decode cX10_count 51 = .ok (.ireturn, 1) := by decide +kernel
set_option maxHeartbeats 4000000 in
set_option maxRecDepth 20000 in
theorem en_X10_count {a1 : Int32} {a2 : Int32} {M : jw_Mem} {Q : Int32 → jw_Mem → Prop}  (h : (jw_M 0 mX1_hasPlinth [vr 1 0, vi a1] M (fun x1 M2 => ((¬ x1 = 0 → ((a2 < 0 → Q (-1000000002) M2) ∧ (¬ a2 < 0 → ((a2 ≤ 99 → (jw_M 0 mX9_add [vr 9 0, vi a1, vi a2] M2 (fun x3 M4 => ((x3 = 0 → Q (-1000000004) M4) ∧ (¬ x3 = 0 → Q (M4 9 0 6) M4))))) ∧ (¬ a2 ≤ 99 → Q (-1000000002) M2))))) ∧ (x1 = 0 → Q (-1000000001) M2))))) : jw_M 1 mX10_count [vr 10 0, vi a1, vi a2] M Q := by
  refine jw_M.of (by decide) (Nat.le_of_ble_eq_true rfl) ?_
  show jw_J 1 mX10_count 0 [(0, vr 10 0), (1, vi a1), (2, vi a2)] [] M Q
  refine jr_aload_n (pc := 0) dX10_count_0 rfl 0 rfl ?_
  refine jr_get (pc := 1) (v := vr 1 0) fg_X10_24 (by decide) rfl dX10_count_1 ?_
  refine jr_iload_n (pc := 4) dX10_count_4 rfl 1 rfl ?_
  refine jr_callV (pc := 5) (d' := 0) (mt' := mX1_hasPlinth) (k := 1) (n := 0) (As := [vi a1]) (st := []) fc_X10_161 (by decide) (by decide) (Nat.le_of_ble_eq_true rfl) rfl dX10_count_5 (jw_M.mono h (fun x1 M2 h => ?_))
  show jw_J 1 mX10_count 8 [(0, vr 10 0), (1, vi a1), (2, vi a2)] [vi x1] M2 Q
  refine jr_if_ne (pc := 8) (tgt := 14) dX10_count_8 (by decide) (fun c => ?_) (fun c => ?_)
  · replace h := h.1 c
    refine jr_iload_n (pc := 14) dX10_count_14 rfl 2 rfl ?_
    refine jr_if_lt (pc := 15) (tgt := 24) dX10_count_15 (by decide) (fun c => ?_) (fun c => ?_)
    · replace h := h.1 c
      refine jr_ldc (pc := 24) fk_X10_88 dX10_count_24 ?_
      exact jr_iret (pc := 26) rfl dX10_count_26 h
    · replace h := h.2 c
      refine jr_iload_n (pc := 18) dX10_count_18 rfl 2 rfl ?_
      refine jr_bipush (pc := 19) (v := 99) dX10_count_19 (by decide) ?_
      refine jr_icmp_le (pc := 21) (tgt := 27) dX10_count_21 (by decide) (fun c => ?_) (fun c => ?_)
      · replace h := h.1 c
        refine jr_aload_n (pc := 27) dX10_count_27 rfl 0 rfl ?_
        refine jr_get (pc := 28) (v := vr 9 0) fg_X10_54 (by decide) rfl dX10_count_28 ?_
        refine jr_iload_n (pc := 31) dX10_count_31 rfl 1 rfl ?_
        refine jr_iload_n (pc := 32) dX10_count_32 rfl 2 rfl ?_
        refine jr_callV (pc := 33) (d' := 0) (mt' := mX9_add) (k := 9) (n := 0) (As := [vi a1, vi a2]) (st := []) fc_X10_279 (by decide) (by decide) (Nat.le_of_ble_eq_true rfl) rfl dX10_count_33 (jw_M.mono h (fun x3 M4 h => ?_))
        show jw_J 1 mX10_count 36 [(0, vr 10 0), (1, vi a1), (2, vi a2)] [vi x3] M4 Q
        refine jr_if_eq (pc := 36) (tgt := 49) dX10_count_36 (by decide) (fun c => ?_) (fun c => ?_)
        · replace h := h.1 c
          refine jr_ldc (pc := 49) fk_X10_97 dX10_count_49 ?_
          exact jr_iret (pc := 51) rfl dX10_count_51 h
        · replace h := h.2 c
          refine jr_aload_n (pc := 39) dX10_count_39 rfl 0 rfl ?_
          refine jr_get (pc := 40) (v := vr 9 0) fg_X10_54 (by decide) rfl dX10_count_40 ?_
          refine jr_get (pc := 43) (v := vi (M4 9 0 6)) fg_X10_156 (by decide) rfl dX10_count_43 ?_
          refine jr_goto (pc := 46) (tgt := 51) dX10_count_46 (by decide) ?_
          exact jr_iret (pc := 51) rfl dX10_count_51 h
      · replace h := h.2 c
        refine jr_ldc (pc := 24) fk_X10_88 dX10_count_24 ?_
        exact jr_iret (pc := 26) rfl dX10_count_26 h
  · replace h := h.2 c
    refine jr_ldc (pc := 11) fk_X10_164 dX10_count_11 ?_
    exact jr_iret (pc := 13) rfl dX10_count_13 h
theorem dX10_likings_0 : decode cX10_likings 0 = .ok (.iload_n 1, 1) := by decide +kernel
theorem dX10_likings_1 : decode cX10_likings 1 = .ok (.ifCond .lt 8, 3) := by decide +kernel
theorem dX10_likings_4 : decode cX10_likings 4 = .ok (.iload_n 1, 1) := by decide +kernel
theorem dX10_likings_5 : decode cX10_likings 5 = .ok (.iconst 1, 1) := by decide +kernel
theorem dX10_likings_6 : decode cX10_likings 6 = .ok (.if_icmp .le 6, 3) := by decide +kernel
theorem dX10_likings_9 : decode cX10_likings 9 = .ok (.ldc 88, 2) := by decide +kernel
theorem dX10_likings_11 : decode cX10_likings 11 = .ok (.ireturn, 1) := by decide +kernel
theorem dX10_likings_12 : decode cX10_likings 12 = .ok (.aload_n 0, 1) := by decide +kernel
theorem dX10_likings_13 : decode cX10_likings 13 = .ok (.getfield 54, 3) := by decide +kernel
theorem dX10_likings_16 : decode cX10_likings 16 = .ok (.invokevirtual 282, 3) := by decide +kernel
theorem dX10_likings_19 : decode cX10_likings 19 = .ok (.iload_n 1, 1) := by decide +kernel
theorem dX10_likings_20 : decode cX10_likings 20 = .ok (.ifCond .ne 13, 3) := by decide +kernel
theorem dX10_likings_23 : decode cX10_likings 23 = .ok (.aload_n 0, 1) := by decide +kernel
theorem dX10_likings_24 : decode cX10_likings 24 = .ok (.getfield 54, 3) := by decide +kernel
theorem dX10_likings_27 : decode cX10_likings 27 = .ok (.getfield 285, 3) := by decide +kernel
theorem dX10_likings_30 : decode cX10_likings 30 = .ok (.goto 10, 3) := by decide +kernel
theorem dX10_likings_33 : decode cX10_likings 33 = .ok (.aload_n 0, 1) := by decide +kernel
theorem dX10_likings_34 : decode cX10_likings 34 = .ok (.getfield 54, 3) := by decide +kernel
theorem dX10_likings_37 : decode cX10_likings 37 = .ok (.invokevirtual 288, 3) := by decide +kernel
theorem dX10_likings_40 : decode cX10_likings 40 = .ok (.ireturn, 1) := by decide +kernel
set_option maxHeartbeats 4000000 in
set_option maxRecDepth 20000 in
theorem en_X10_likings {a1 : Int32} {M : jw_Mem} {Q : Int32 → jw_Mem → Prop}  (h : ((a1 < 0 → Q (-1000000002) M) ∧ (¬ a1 < 0 → ((a1 ≤ 1 → (jw_M 2 mX9_fitAll [vr 9 0] M (fun x1 M2 => ((¬ a1 = 0 → (jw_M 1 mX9_inEach [vr 9 0] M2 (fun x3 M4 => Q x3 M4))) ∧ (a1 = 0 → Q (M2 9 0 7) M2))))) ∧ (¬ a1 ≤ 1 → Q (-1000000002) M))))) : jw_M 3 mX10_likings [vr 10 0, vi a1] M Q := by
  refine jw_M.of (by decide) (Nat.le_of_ble_eq_true rfl) ?_
  show jw_J 3 mX10_likings 0 [(0, vr 10 0), (1, vi a1)] [] M Q
  refine jr_iload_n (pc := 0) dX10_likings_0 rfl 1 rfl ?_
  refine jr_if_lt (pc := 1) (tgt := 9) dX10_likings_1 (by decide) (fun c => ?_) (fun c => ?_)
  · replace h := h.1 c
    refine jr_ldc (pc := 9) fk_X10_88 dX10_likings_9 ?_
    exact jr_iret (pc := 11) rfl dX10_likings_11 h
  · replace h := h.2 c
    refine jr_iload_n (pc := 4) dX10_likings_4 rfl 1 rfl ?_
    refine jr_iconst (pc := 5) (v := 1) dX10_likings_5 (by decide) ?_
    refine jr_icmp_le (pc := 6) (tgt := 12) dX10_likings_6 (by decide) (fun c => ?_) (fun c => ?_)
    · replace h := h.1 c
      refine jr_aload_n (pc := 12) dX10_likings_12 rfl 0 rfl ?_
      refine jr_get (pc := 13) (v := vr 9 0) fg_X10_54 (by decide) rfl dX10_likings_13 ?_
      refine jr_callV (pc := 16) (d' := 2) (mt' := mX9_fitAll) (k := 9) (n := 0) (As := []) (st := []) fc_X10_282 (by decide) (by decide) (Nat.le_of_ble_eq_true rfl) rfl dX10_likings_16 (jw_M.mono h (fun x1 M2 h => ?_))
      show jw_J 3 mX10_likings 19 [(0, vr 10 0), (1, vi a1)] [] M2 Q
      refine jr_iload_n (pc := 19) dX10_likings_19 rfl 1 rfl ?_
      refine jr_if_ne (pc := 20) (tgt := 33) dX10_likings_20 (by decide) (fun c => ?_) (fun c => ?_)
      · replace h := h.1 c
        refine jr_aload_n (pc := 33) dX10_likings_33 rfl 0 rfl ?_
        refine jr_get (pc := 34) (v := vr 9 0) fg_X10_54 (by decide) rfl dX10_likings_34 ?_
        refine jr_callV (pc := 37) (d' := 1) (mt' := mX9_inEach) (k := 9) (n := 0) (As := []) (st := []) fc_X10_288 (by decide) (by decide) (Nat.le_of_ble_eq_true rfl) rfl dX10_likings_37 (jw_M.mono h (fun x3 M4 h => ?_))
        show jw_J 3 mX10_likings 40 [(0, vr 10 0), (1, vi a1)] [vi x3] M4 Q
        exact jr_iret (pc := 40) rfl dX10_likings_40 h
      · replace h := h.2 c
        refine jr_aload_n (pc := 23) dX10_likings_23 rfl 0 rfl ?_
        refine jr_get (pc := 24) (v := vr 9 0) fg_X10_54 (by decide) rfl dX10_likings_24 ?_
        refine jr_get (pc := 27) (v := vi (M2 9 0 7)) fg_X10_285 (by decide) rfl dX10_likings_27 ?_
        refine jr_goto (pc := 30) (tgt := 40) dX10_likings_30 (by decide) ?_
        exact jr_iret (pc := 40) rfl dX10_likings_40 h
    · replace h := h.2 c
      refine jr_ldc (pc := 9) fk_X10_88 dX10_likings_9 ?_
      exact jr_iret (pc := 11) rfl dX10_likings_11 h
theorem dX10_ladder_0 : decode cX10_ladder 0 = .ok (.aload_n 0, 1) := by decide +kernel
theorem dX10_ladder_1 : decode cX10_ladder 1 = .ok (.getfield 54, 3) := by decide +kernel
theorem dX10_ladder_4 : decode cX10_ladder 4 = .ok (.invokevirtual 282, 3) := by decide +kernel
theorem dX10_ladder_7 : decode cX10_ladder 7 = .ok (.aload_n 0, 1) := by decide +kernel
theorem dX10_ladder_8 : decode cX10_ladder 8 = .ok (.getfield 54, 3) := by decide +kernel
theorem dX10_ladder_11 : decode cX10_ladder 11 = .ok (.invokevirtual 291, 3) := by decide +kernel
theorem dX10_ladder_14 : decode cX10_ladder 14 = .ok (.ireturn, 1) := by decide +kernel
set_option maxHeartbeats 4000000 in
set_option maxRecDepth 20000 in
theorem en_X10_ladder {M : jw_Mem} {Q : Int32 → jw_Mem → Prop}  (h : (jw_M 2 mX9_fitAll [vr 9 0] M (fun x1 M2 => (jw_M 3 mX9_bestPlinth [vr 9 0] M2 (fun x3 M4 => Q x3 M4))))) : jw_M 4 mX10_ladder [vr 10 0] M Q := by
  refine jw_M.of (by decide) (Nat.le_of_ble_eq_true rfl) ?_
  show jw_J 4 mX10_ladder 0 [(0, vr 10 0)] [] M Q
  refine jr_aload_n (pc := 0) dX10_ladder_0 rfl 0 rfl ?_
  refine jr_get (pc := 1) (v := vr 9 0) fg_X10_54 (by decide) rfl dX10_ladder_1 ?_
  refine jr_callV (pc := 4) (d' := 2) (mt' := mX9_fitAll) (k := 9) (n := 0) (As := []) (st := []) fc_X10_282 (by decide) (by decide) (Nat.le_of_ble_eq_true rfl) rfl dX10_ladder_4 (jw_M.mono h (fun x1 M2 h => ?_))
  show jw_J 4 mX10_ladder 7 [(0, vr 10 0)] [] M2 Q
  refine jr_aload_n (pc := 7) dX10_ladder_7 rfl 0 rfl ?_
  refine jr_get (pc := 8) (v := vr 9 0) fg_X10_54 (by decide) rfl dX10_ladder_8 ?_
  refine jr_callV (pc := 11) (d' := 3) (mt' := mX9_bestPlinth) (k := 9) (n := 0) (As := []) (st := []) fc_X10_291 (by decide) (by decide) (Nat.le_of_ble_eq_true rfl) rfl dX10_ladder_11 (jw_M.mono h (fun x3 M4 h => ?_))
  show jw_J 4 mX10_ladder 14 [(0, vr 10 0)] [vi x3] M4 Q
  exact jr_iret (pc := 14) rfl dX10_ladder_14 h
theorem dX10_write_0 : decode cX10_write 0 = .ok (.aload_n 0, 1) := by decide +kernel
theorem dX10_write_1 : decode cX10_write 1 = .ok (.getfield 24, 3) := by decide +kernel
theorem dX10_write_4 : decode cX10_write 4 = .ok (.iload_n 1, 1) := by decide +kernel
theorem dX10_write_5 : decode cX10_write 5 = .ok (.invokevirtual 179, 3) := by decide +kernel
theorem dX10_write_8 : decode cX10_write 8 = .ok (.ifCond .eq 19, 3) := by decide +kernel
theorem dX10_write_11 : decode cX10_write 11 = .ok (.iload_n 2, 1) := by decide +kernel
theorem dX10_write_12 : decode cX10_write 12 = .ok (.iconst (-1), 1) := by decide +kernel
theorem dX10_write_13 : decode cX10_write 13 = .ok (.if_icmp .eq 17, 3) := by decide +kernel
theorem dX10_write_16 : decode cX10_write 16 = .ok (.aload_n 0, 1) := by decide +kernel
theorem dX10_write_17 : decode cX10_write 17 = .ok (.getfield 24, 3) := by decide +kernel
theorem dX10_write_20 : decode cX10_write 20 = .ok (.iload_n 2, 1) := by decide +kernel
theorem dX10_write_21 : decode cX10_write 21 = .ok (.invokevirtual 161, 3) := by decide +kernel
theorem dX10_write_24 : decode cX10_write 24 = .ok (.ifCond .ne 6, 3) := by decide +kernel
theorem dX10_write_27 : decode cX10_write 27 = .ok (.ldc 164, 2) := by decide +kernel
theorem dX10_write_29 : decode cX10_write 29 = .ok (.ireturn, 1) := by decide +kernel
theorem dX10_write_30 : decode cX10_write 30 = .ok (.aload_n 0, 1) := by decide +kernel
theorem dX10_write_31 : decode cX10_write 31 = .ok (.getfield 63, 3) := by decide +kernel
theorem dX10_write_34 : decode cX10_write 34 = .ok (.iload_n 1, 1) := by decide +kernel
theorem dX10_write_35 : decode cX10_write 35 = .ok (.iload_n 2, 1) := by decide +kernel
theorem dX10_write_36 : decode cX10_write 36 = .ok (.invokevirtual 294, 3) := by decide +kernel
theorem dX10_write_39 : decode cX10_write 39 = .ok (.ifCond .eq 13, 3) := by decide +kernel
theorem dX10_write_42 : decode cX10_write 42 = .ok (.aload_n 0, 1) := by decide +kernel
theorem dX10_write_43 : decode cX10_write 43 = .ok (.getfield 63, 3) := by decide +kernel
theorem dX10_write_46 : decode cX10_write 46 = .ok (.getfield 159, 3) := by decide +kernel
theorem dX10_write_49 : decode cX10_write 49 = .ok (.goto 5, 3) := by decide +kernel
theorem dX10_write_52 : decode cX10_write 52 = .ok (.ldc 97, 2) := by decide +kernel
theorem dX10_write_54 : decode cX10_write 54 = .ok (.ireturn, 1) := by decide +kernel
set_option maxHeartbeats 4000000 in
set_option maxRecDepth 20000 in
theorem en_X10_write {a1 : Int32} {a2 : Int32} {M : jw_Mem} {Q : Int32 → jw_Mem → Prop}  (h : (jw_M 0 mX1_hasStatue [vr 1 0, vi a1] M (fun x1 M2 => ((x1 = 0 → Q (-1000000001) M2) ∧ (¬ x1 = 0 → ((a2 = (-1) → (jw_M 0 mX0_add [vr 0 0, vi a1, vi a2] M2 (fun x3 M4 => ((x3 = 0 → Q (-1000000004) M4) ∧ (¬ x3 = 0 → Q (M4 0 0 3) M4))))) ∧ (¬ a2 = (-1) → (jw_M 0 mX1_hasPlinth [vr 1 0, vi a2] M2 (fun x5 M6 => ((¬ x5 = 0 → (jw_M 0 mX0_add [vr 0 0, vi a1, vi a2] M6 (fun x7 M8 => ((x7 = 0 → Q (-1000000004) M8) ∧ (¬ x7 = 0 → Q (M8 0 0 3) M8))))) ∧ (x5 = 0 → Q (-1000000001) M6))))))))))) : jw_M 1 mX10_write [vr 10 0, vi a1, vi a2] M Q := by
  refine jw_M.of (by decide) (Nat.le_of_ble_eq_true rfl) ?_
  show jw_J 1 mX10_write 0 [(0, vr 10 0), (1, vi a1), (2, vi a2)] [] M Q
  refine jr_aload_n (pc := 0) dX10_write_0 rfl 0 rfl ?_
  refine jr_get (pc := 1) (v := vr 1 0) fg_X10_24 (by decide) rfl dX10_write_1 ?_
  refine jr_iload_n (pc := 4) dX10_write_4 rfl 1 rfl ?_
  refine jr_callV (pc := 5) (d' := 0) (mt' := mX1_hasStatue) (k := 1) (n := 0) (As := [vi a1]) (st := []) fc_X10_179 (by decide) (by decide) (Nat.le_of_ble_eq_true rfl) rfl dX10_write_5 (jw_M.mono h (fun x1 M2 h => ?_))
  show jw_J 1 mX10_write 8 [(0, vr 10 0), (1, vi a1), (2, vi a2)] [vi x1] M2 Q
  refine jr_if_eq (pc := 8) (tgt := 27) dX10_write_8 (by decide) (fun c => ?_) (fun c => ?_)
  · replace h := h.1 c
    refine jr_ldc (pc := 27) fk_X10_164 dX10_write_27 ?_
    exact jr_iret (pc := 29) rfl dX10_write_29 h
  · replace h := h.2 c
    refine jr_iload_n (pc := 11) dX10_write_11 rfl 2 rfl ?_
    refine jr_iconst (pc := 12) (v := (-1)) dX10_write_12 (by decide) ?_
    refine jr_icmp_eq (pc := 13) (tgt := 30) dX10_write_13 (by decide) (fun c => ?_) (fun c => ?_)
    · replace h := h.1 c
      refine jr_aload_n (pc := 30) dX10_write_30 rfl 0 rfl ?_
      refine jr_get (pc := 31) (v := vr 0 0) fg_X10_63 (by decide) rfl dX10_write_31 ?_
      refine jr_iload_n (pc := 34) dX10_write_34 rfl 1 rfl ?_
      refine jr_iload_n (pc := 35) dX10_write_35 rfl 2 rfl ?_
      refine jr_callV (pc := 36) (d' := 0) (mt' := mX0_add) (k := 0) (n := 0) (As := [vi a1, vi a2]) (st := []) fc_X10_294 (by decide) (by decide) (Nat.le_of_ble_eq_true rfl) rfl dX10_write_36 (jw_M.mono h (fun x3 M4 h => ?_))
      show jw_J 1 mX10_write 39 [(0, vr 10 0), (1, vi a1), (2, vi a2)] [vi x3] M4 Q
      refine jr_if_eq (pc := 39) (tgt := 52) dX10_write_39 (by decide) (fun c => ?_) (fun c => ?_)
      · replace h := h.1 c
        refine jr_ldc (pc := 52) fk_X10_97 dX10_write_52 ?_
        exact jr_iret (pc := 54) rfl dX10_write_54 h
      · replace h := h.2 c
        refine jr_aload_n (pc := 42) dX10_write_42 rfl 0 rfl ?_
        refine jr_get (pc := 43) (v := vr 0 0) fg_X10_63 (by decide) rfl dX10_write_43 ?_
        refine jr_get (pc := 46) (v := vi (M4 0 0 3)) fg_X10_159 (by decide) rfl dX10_write_46 ?_
        refine jr_goto (pc := 49) (tgt := 54) dX10_write_49 (by decide) ?_
        exact jr_iret (pc := 54) rfl dX10_write_54 h
    · replace h := h.2 c
      refine jr_aload_n (pc := 16) dX10_write_16 rfl 0 rfl ?_
      refine jr_get (pc := 17) (v := vr 1 0) fg_X10_24 (by decide) rfl dX10_write_17 ?_
      refine jr_iload_n (pc := 20) dX10_write_20 rfl 2 rfl ?_
      refine jr_callV (pc := 21) (d' := 0) (mt' := mX1_hasPlinth) (k := 1) (n := 0) (As := [vi a2]) (st := []) fc_X10_161 (by decide) (by decide) (Nat.le_of_ble_eq_true rfl) rfl dX10_write_21 (jw_M.mono h (fun x5 M6 h => ?_))
      show jw_J 1 mX10_write 24 [(0, vr 10 0), (1, vi a1), (2, vi a2)] [vi x5] M6 Q
      refine jr_if_ne (pc := 24) (tgt := 30) dX10_write_24 (by decide) (fun c => ?_) (fun c => ?_)
      · replace h := h.1 c
        refine jr_aload_n (pc := 30) dX10_write_30 rfl 0 rfl ?_
        refine jr_get (pc := 31) (v := vr 0 0) fg_X10_63 (by decide) rfl dX10_write_31 ?_
        refine jr_iload_n (pc := 34) dX10_write_34 rfl 1 rfl ?_
        refine jr_iload_n (pc := 35) dX10_write_35 rfl 2 rfl ?_
        refine jr_callV (pc := 36) (d' := 0) (mt' := mX0_add) (k := 0) (n := 0) (As := [vi a1, vi a2]) (st := []) fc_X10_294 (by decide) (by decide) (Nat.le_of_ble_eq_true rfl) rfl dX10_write_36 (jw_M.mono h (fun x7 M8 h => ?_))
        show jw_J 1 mX10_write 39 [(0, vr 10 0), (1, vi a1), (2, vi a2)] [vi x7] M8 Q
        refine jr_if_eq (pc := 39) (tgt := 52) dX10_write_39 (by decide) (fun c => ?_) (fun c => ?_)
        · replace h := h.1 c
          refine jr_ldc (pc := 52) fk_X10_97 dX10_write_52 ?_
          exact jr_iret (pc := 54) rfl dX10_write_54 h
        · replace h := h.2 c
          refine jr_aload_n (pc := 42) dX10_write_42 rfl 0 rfl ?_
          refine jr_get (pc := 43) (v := vr 0 0) fg_X10_63 (by decide) rfl dX10_write_43 ?_
          refine jr_get (pc := 46) (v := vi (M8 0 0 3)) fg_X10_159 (by decide) rfl dX10_write_46 ?_
          refine jr_goto (pc := 49) (tgt := 54) dX10_write_49 (by decide) ?_
          exact jr_iret (pc := 54) rfl dX10_write_54 h
      · replace h := h.2 c
        refine jr_ldc (pc := 27) fk_X10_164 dX10_write_27 ?_
        exact jr_iret (pc := 29) rfl dX10_write_29 h
theorem dX10_tear_0 : decode cX10_tear 0 = .ok (.aload_n 0, 1) := by decide +kernel
theorem dX10_tear_1 : decode cX10_tear 1 = .ok (.getfield 54, 3) := by decide +kernel
theorem dX10_tear_4 : decode cX10_tear 4 = .ok (.getfield 156, 3) := by decide +kernel
theorem dX10_tear_7 : decode cX10_tear 7 = .ok (.aload_n 0, 1) := by decide +kernel
theorem dX10_tear_8 : decode cX10_tear 8 = .ok (.getfield 63, 3) := by decide +kernel
theorem dX10_tear_11 : decode cX10_tear 11 = .ok (.getfield 159, 3) := by decide +kernel
theorem dX10_tear_14 : decode cX10_tear 14 = .ok (.iadd, 1) := by decide +kernel
theorem dX10_tear_15 : decode cX10_tear 15 = .ok (.istore_n 1, 1) := by decide +kernel
theorem dX10_tear_16 : decode cX10_tear 16 = .ok (.aload_n 0, 1) := by decide +kernel
theorem dX10_tear_17 : decode cX10_tear 17 = .ok (.getfield 54, 3) := by decide +kernel
theorem dX10_tear_20 : decode cX10_tear 20 = .ok (.invokevirtual 113, 3) := by decide +kernel
theorem dX10_tear_23 : decode cX10_tear 23 = .ok (.aload_n 0, 1) := by decide +kernel
theorem dX10_tear_24 : decode cX10_tear 24 = .ok (.getfield 63, 3) := by decide +kernel
theorem dX10_tear_27 : decode cX10_tear 27 = .ok (.invokevirtual 116, 3) := by decide +kernel
theorem dX10_tear_30 : decode cX10_tear 30 = .ok (.iload_n 1, 1) := by decide +kernel
theorem dX10_tear_31 : decode cX10_tear 31 = .ok (.ireturn, 1) := by decide +kernel
set_option maxHeartbeats 4000000 in
set_option maxRecDepth 20000 in
theorem en_X10_tear {M : jw_Mem} {Q : Int32 → jw_Mem → Prop}  (h : (jw_M 0 mX9_clear [vr 9 0] M (fun x1 M2 => (jw_M 0 mX0_clear [vr 0 0] M2 (fun x3 M4 => Q ((M 9 0 6) + (M 0 0 3)) M4))))) : jw_M 1 mX10_tear [vr 10 0] M Q := by
  refine jw_M.of (by decide) (Nat.le_of_ble_eq_true rfl) ?_
  show jw_J 1 mX10_tear 0 [(0, vr 10 0)] [] M Q
  refine jr_aload_n (pc := 0) dX10_tear_0 rfl 0 rfl ?_
  refine jr_get (pc := 1) (v := vr 9 0) fg_X10_54 (by decide) rfl dX10_tear_1 ?_
  refine jr_get (pc := 4) (v := vi (M 9 0 6)) fg_X10_156 (by decide) rfl dX10_tear_4 ?_
  refine jr_aload_n (pc := 7) dX10_tear_7 rfl 0 rfl ?_
  refine jr_get (pc := 8) (v := vr 0 0) fg_X10_63 (by decide) rfl dX10_tear_8 ?_
  refine jr_get (pc := 11) (v := vi (M 0 0 3)) fg_X10_159 (by decide) rfl dX10_tear_11 ?_
  refine jr_iadd (pc := 14) dX10_tear_14 ?_
  refine jr_istore_n (pc := 15) (lv' := [(1, vi ((M 9 0 6) + (M 0 0 3))), (0, vr 10 0)]) dX10_tear_15 rfl (by decide) rfl ?_
  refine jr_aload_n (pc := 16) dX10_tear_16 rfl 1 rfl ?_
  refine jr_get (pc := 17) (v := vr 9 0) fg_X10_54 (by decide) rfl dX10_tear_17 ?_
  refine jr_callV (pc := 20) (d' := 0) (mt' := mX9_clear) (k := 9) (n := 0) (As := []) (st := []) fc_X10_113 (by decide) (by decide) (Nat.le_of_ble_eq_true rfl) rfl dX10_tear_20 (jw_M.mono h (fun x1 M2 h => ?_))
  show jw_J 1 mX10_tear 23 [(1, vi ((M 9 0 6) + (M 0 0 3))), (0, vr 10 0)] [] M2 Q
  refine jr_aload_n (pc := 23) dX10_tear_23 rfl 1 rfl ?_
  refine jr_get (pc := 24) (v := vr 0 0) fg_X10_63 (by decide) rfl dX10_tear_24 ?_
  refine jr_callV (pc := 27) (d' := 0) (mt' := mX0_clear) (k := 0) (n := 0) (As := []) (st := []) fc_X10_116 (by decide) (by decide) (Nat.le_of_ble_eq_true rfl) rfl dX10_tear_27 (jw_M.mono h (fun x3 M4 h => ?_))
  show jw_J 1 mX10_tear 30 [(1, vi ((M 9 0 6) + (M 0 0 3))), (0, vr 10 0)] [] M4 Q
  refine jr_iload_n (pc := 30) dX10_tear_30 rfl 0 rfl ?_
  exact jr_iret (pc := 31) rfl dX10_tear_31 h
theorem dX10_judge_0 : decode cX10_judge 0 = .ok (.aload_n 0, 1) := by decide +kernel
theorem dX10_judge_1 : decode cX10_judge 1 = .ok (.getfield 63, 3) := by decide +kernel
theorem dX10_judge_4 : decode cX10_judge 4 = .ok (.invokevirtual 295, 3) := by decide +kernel
theorem dX10_judge_7 : decode cX10_judge 7 = .ok (.ireturn, 1) := by decide +kernel
set_option maxHeartbeats 4000000 in
set_option maxRecDepth 20000 in
theorem en_X10_judge {M : jw_Mem} {Q : Int32 → jw_Mem → Prop}  (h : (jw_M 2 mX0_firstWrong [vr 0 0] M (fun x1 M2 => Q x1 M2))) : jw_M 3 mX10_judge [vr 10 0] M Q := by
  refine jw_M.of (by decide) (Nat.le_of_ble_eq_true rfl) ?_
  show jw_J 3 mX10_judge 0 [(0, vr 10 0)] [] M Q
  refine jr_aload_n (pc := 0) dX10_judge_0 rfl 0 rfl ?_
  refine jr_get (pc := 1) (v := vr 0 0) fg_X10_63 (by decide) rfl dX10_judge_1 ?_
  refine jr_callV (pc := 4) (d' := 2) (mt' := mX0_firstWrong) (k := 0) (n := 0) (As := []) (st := []) fc_X10_295 (by decide) (by decide) (Nat.le_of_ble_eq_true rfl) rfl dX10_judge_4 (jw_M.mono h (fun x1 M2 h => ?_))
  show jw_J 3 mX10_judge 7 [(0, vr 10 0)] [vi x1] M2 Q
  exact jr_iret (pc := 7) rfl dX10_judge_7 h
theorem dX10_seed_0 : decode cX10_seed 0 = .ok (.iload_n 1, 1) := by decide +kernel
theorem dX10_seed_1 : decode cX10_seed 1 = .ok (.ifCond .ge 6, 3) := by decide +kernel
theorem dX10_seed_4 : decode cX10_seed 4 = .ok (.ldc 88, 2) := by decide +kernel
theorem dX10_seed_6 : decode cX10_seed 6 = .ok (.ireturn, 1) := by decide +kernel
theorem dX10_seed_7 : decode cX10_seed 7 = .ok (.aload_n 0, 1) := by decide +kernel
theorem dX10_seed_8 : decode cX10_seed 8 = .ok (.getfield 70, 3) := by decide +kernel
theorem dX10_seed_11 : decode cX10_seed 11 = .ok (.getfield 298, 3) := by decide +kernel
theorem dX10_seed_14 : decode cX10_seed 14 = .ok (.istore_n 2, 1) := by decide +kernel
theorem dX10_seed_15 : decode cX10_seed 15 = .ok (.aload_n 0, 1) := by decide +kernel
theorem dX10_seed_16 : decode cX10_seed 16 = .ok (.getfield 70, 3) := by decide +kernel
theorem dX10_seed_19 : decode cX10_seed 19 = .ok (.iload_n 1, 1) := by decide +kernel
theorem dX10_seed_20 : decode cX10_seed 20 = .ok (.putfield 298, 3) := by decide +kernel
theorem dX10_seed_23 : decode cX10_seed 23 = .ok (.iload_n 2, 1) := by decide +kernel
theorem dX10_seed_24 : decode cX10_seed 24 = .ok (.ireturn, 1) := by decide +kernel
set_option maxHeartbeats 4000000 in
set_option maxRecDepth 20000 in
theorem en_X10_seed {a1 : Int32} {M : jw_Mem} {Q : Int32 → jw_Mem → Prop}  (h : ((0 ≤ a1 → (∀ M1 : jw_Mem, M1 = jw_up M 2 0 2 a1 → Q (M 2 0 2) M1)) ∧ (¬ 0 ≤ a1 → Q (-1000000002) M))) : jw_M 0 mX10_seed [vr 10 0, vi a1] M Q := by
  refine jw_M.of (by decide) (Nat.le_of_ble_eq_true rfl) ?_
  show jw_J 0 mX10_seed 0 [(0, vr 10 0), (1, vi a1)] [] M Q
  refine jr_iload_n (pc := 0) dX10_seed_0 rfl 1 rfl ?_
  refine jr_if_ge (pc := 1) (tgt := 7) dX10_seed_1 (by decide) (fun c => ?_) (fun c => ?_)
  · replace h := h.1 c
    refine jr_aload_n (pc := 7) dX10_seed_7 rfl 0 rfl ?_
    refine jr_get (pc := 8) (v := vr 2 0) fg_X10_70 (by decide) rfl dX10_seed_8 ?_
    refine jr_get (pc := 11) (v := vi (M 2 0 2)) fg_X10_298 (by decide) rfl dX10_seed_11 ?_
    refine jr_istore_n (pc := 14) (lv' := [(2, vi (M 2 0 2)), (0, vr 10 0), (1, vi a1)]) dX10_seed_14 rfl (by decide) rfl ?_
    refine jr_aload_n (pc := 15) dX10_seed_15 rfl 1 rfl ?_
    refine jr_get (pc := 16) (v := vr 2 0) fg_X10_70 (by decide) rfl dX10_seed_16 ?_
    refine jr_iload_n (pc := 19) dX10_seed_19 rfl 2 rfl ?_
    refine jr_put (pc := 20) fp_X10_298 (by decide) (Or.inl ⟨_, _, _, rfl, by decide +kernel⟩) dX10_seed_20 ?_
    replace h := h _ rfl
    generalize jw_up M 2 0 2 a1 = M1 at h ⊢
    refine jr_iload_n (pc := 23) dX10_seed_23 rfl 0 rfl ?_
    exact jr_iret (pc := 24) rfl dX10_seed_24 h
  · replace h := h.2 c
    refine jr_ldc (pc := 4) fk_X10_88 dX10_seed_4 ?_
    exact jr_iret (pc := 6) rfl dX10_seed_6 h
theorem dX10_keep_0 : decode cX10_keep 0 = .ok (.iload_n 1, 1) := by decide +kernel
theorem dX10_keep_1 : decode cX10_keep 1 = .ok (.ifCond .lt 12, 3) := by decide +kernel
theorem dX10_keep_4 : decode cX10_keep 4 = .ok (.iload_n 1, 1) := by decide +kernel
theorem dX10_keep_5 : decode cX10_keep 5 = .ok (.aload_n 0, 1) := by decide +kernel
theorem dX10_keep_6 : decode cX10_keep 6 = .ok (.getfield 84, 3) := by decide +kernel
theorem dX10_keep_9 : decode cX10_keep 9 = .ok (.arraylength, 1) := by decide +kernel
theorem dX10_keep_10 : decode cX10_keep 10 = .ok (.if_icmp .lt 6, 3) := by decide +kernel
theorem dX10_keep_13 : decode cX10_keep 13 = .ok (.ldc 164, 2) := by decide +kernel
theorem dX10_keep_15 : decode cX10_keep 15 = .ok (.ireturn, 1) := by decide +kernel
theorem dX10_keep_16 : decode cX10_keep 16 = .ok (.aload_n 0, 1) := by decide +kernel
theorem dX10_keep_17 : decode cX10_keep 17 = .ok (.getfield 84, 3) := by decide +kernel
theorem dX10_keep_20 : decode cX10_keep 20 = .ok (.iload_n 1, 1) := by decide +kernel
theorem dX10_keep_21 : decode cX10_keep 21 = .ok (.aaload, 1) := by decide +kernel
theorem dX10_keep_22 : decode cX10_keep 22 = .ok (.getfield 301, 3) := by decide +kernel
theorem dX10_keep_25 : decode cX10_keep 25 = .ok (.aload_n 0, 1) := by decide +kernel
theorem dX10_keep_26 : decode cX10_keep 26 = .ok (.getfield 28, 3) := by decide +kernel
theorem dX10_keep_29 : decode cX10_keep 29 = .ok (.invokevirtual 244, 3) := by decide +kernel
theorem dX10_keep_32 : decode cX10_keep 32 = .ok (.aload_n 0, 1) := by decide +kernel
theorem dX10_keep_33 : decode cX10_keep 33 = .ok (.getfield 84, 3) := by decide +kernel
theorem dX10_keep_36 : decode cX10_keep 36 = .ok (.iload_n 1, 1) := by decide +kernel
theorem dX10_keep_37 : decode cX10_keep 37 = .ok (.aaload, 1) := by decide +kernel
theorem dX10_keep_38 : decode cX10_keep 38 = .ok (.aload_n 0, 1) := by decide +kernel
theorem dX10_keep_39 : decode cX10_keep 39 = .ok (.getfield 70, 3) := by decide +kernel
theorem dX10_keep_42 : decode cX10_keep 42 = .ok (.getfield 298, 3) := by decide +kernel
theorem dX10_keep_45 : decode cX10_keep 45 = .ok (.putfield 303, 3) := by decide +kernel
theorem dX10_keep_48 : decode cX10_keep 48 = .ok (.aload_n 0, 1) := by decide +kernel
theorem dX10_keep_49 : decode cX10_keep 49 = .ok (.getfield 84, 3) := by decide +kernel
theorem dX10_keep_52 : decode cX10_keep 52 = .ok (.iload_n 1, 1) := by decide +kernel
theorem dX10_keep_53 : decode cX10_keep 53 = .ok (.aaload, 1) := by decide +kernel
theorem dX10_keep_54 : decode cX10_keep 54 = .ok (.iconst 1, 1) := by decide +kernel
theorem dX10_keep_55 : decode cX10_keep 55 = .ok (.putfield 118, 3) := by decide +kernel
theorem dX10_keep_58 : decode cX10_keep 58 = .ok (.aload_n 0, 1) := by decide +kernel
theorem dX10_keep_59 : decode cX10_keep 59 = .ok (.getfield 77, 3) := by decide +kernel
theorem dX10_keep_62 : decode cX10_keep 62 = .ok (.invokevirtual 117, 3) := by decide +kernel
theorem dX10_keep_65 : decode cX10_keep 65 = .ok (.iconst 1, 1) := by decide +kernel
theorem dX10_keep_66 : decode cX10_keep 66 = .ok (.ireturn, 1) := by decide +kernel
set_option maxHeartbeats 4000000 in
set_option maxRecDepth 20000 in
theorem en_X10_keep {a1 : Int32} {M : jw_Mem} {Q : Int32 → jw_Mem → Prop}  (h : ((a1 < 0 → Q (-1000000001) M) ∧ (¬ a1 < 0 → ((a1 < (nI 2) → (vp_in a1 2 ∧ (∀ q1 : Nat, q1 = a1.toNatClampNeg → q1 < 2 → (jw_M 1 mX8_copyFrom [vr 8 (18 + q1), vr 8 0] M (fun x2 M3 => (vp_in a1 2 ∧ (∀ M4 : jw_Mem, M4 = jw_up M3 4 q1 1 (M3 2 0 2) → (vp_in a1 2 ∧ (∀ M5 : jw_Mem, M5 = jw_up M4 4 q1 2 1 → (jw_M 0 mX3_clear [vr 3 0] M5 (fun x6 M7 => Q 1 M7))))))))))) ∧ (¬ a1 < (nI 2) → Q (-1000000001) M))))) : jw_M 2 mX10_keep [vr 10 0, vi a1] M Q := by
  refine jw_M.of (by decide) (Nat.le_of_ble_eq_true rfl) ?_
  show jw_J 2 mX10_keep 0 [(0, vr 10 0), (1, vi a1)] [] M Q
  refine jr_iload_n (pc := 0) dX10_keep_0 rfl 1 rfl ?_
  refine jr_if_lt (pc := 1) (tgt := 13) dX10_keep_1 (by decide) (fun c => ?_) (fun c => ?_)
  · replace h := h.1 c
    refine jr_ldc (pc := 13) fk_X10_164 dX10_keep_13 ?_
    exact jr_iret (pc := 15) rfl dX10_keep_15 h
  · replace h := h.2 c
    refine jr_iload_n (pc := 4) dX10_keep_4 rfl 1 rfl ?_
    refine jr_aload_n (pc := 5) dX10_keep_5 rfl 0 rfl ?_
    refine jr_get (pc := 6) (v := vr 35 0) fg_X10_84 (by decide) rfl dX10_keep_6 ?_
    refine jr_alen (pc := 9) (by decide) (by decide) dX10_keep_9 ?_
    show jw_J 2 mX10_keep 10 [(0, vr 10 0), (1, vi a1)] [vi (nI 2), vi a1] M Q
    refine jr_icmp_lt (pc := 10) (tgt := 16) dX10_keep_10 (by decide) (fun c => ?_) (fun c => ?_)
    · replace h := h.1 c
      refine jr_aload_n (pc := 16) dX10_keep_16 rfl 0 rfl ?_
      refine jr_get (pc := 17) (v := vr 35 0) fg_X10_84 (by decide) rfl dX10_keep_17 ?_
      refine jr_iload_n (pc := 20) dX10_keep_20 rfl 1 rfl ?_
      refine jr_imgs (pc := 21) (by decide) h.1 dX10_keep_21 ?_
      have hb_q1 : a1.toNatClampNeg < 2 := Nat.not_le.mp fun z => h.1 (Or.inr z)
      replace h := h.2 _ rfl hb_q1
      generalize hq_q1 : a1.toNatClampNeg = q1 at h hb_q1 ⊢
      refine jr_get (pc := 22) (v := vr 8 (18 + q1)) fg_X10_301 (by show q1 < 2; omega) rfl dX10_keep_22 ?_
      refine jr_aload_n (pc := 25) dX10_keep_25 rfl 0 rfl ?_
      refine jr_get (pc := 26) (v := vr 8 0) fg_X10_28 (by decide) rfl dX10_keep_26 ?_
      refine jr_callV (pc := 29) (d' := 1) (mt' := mX8_copyFrom) (k := 8) (n := (18 + q1)) (As := [vr 8 0]) (st := []) fc_X10_244 (by decide) (by show 18 + q1 < 20; omega) (Nat.le_of_ble_eq_true rfl) rfl dX10_keep_29 (jw_M.mono h (fun x2 M3 h => ?_))
      show jw_J 2 mX10_keep 32 [(0, vr 10 0), (1, vi a1)] [] M3 Q
      refine jr_aload_n (pc := 32) dX10_keep_32 rfl 0 rfl ?_
      refine jr_get (pc := 33) (v := vr 35 0) fg_X10_84 (by decide) rfl dX10_keep_33 ?_
      refine jr_iload_n (pc := 36) dX10_keep_36 rfl 1 rfl ?_
      refine jr_imgs (pc := 37) (by decide) h.1 dX10_keep_37 ?_
      replace h := h.2
      rw [hq_q1]
      refine jr_aload_n (pc := 38) dX10_keep_38 rfl 0 rfl ?_
      refine jr_get (pc := 39) (v := vr 2 0) fg_X10_70 (by decide) rfl dX10_keep_39 ?_
      refine jr_get (pc := 42) (v := vi (M3 2 0 2)) fg_X10_298 (by decide) rfl dX10_keep_42 ?_
      refine jr_put (pc := 45) fp_X10_303 (by show q1 < 2; omega) (Or.inl ⟨_, _, _, rfl, by decide +kernel⟩) dX10_keep_45 ?_
      replace h := h _ rfl
      generalize jw_up M3 4 q1 1 (M3 2 0 2) = M4 at h ⊢
      refine jr_aload_n (pc := 48) dX10_keep_48 rfl 0 rfl ?_
      refine jr_get (pc := 49) (v := vr 35 0) fg_X10_84 (by decide) rfl dX10_keep_49 ?_
      refine jr_iload_n (pc := 52) dX10_keep_52 rfl 1 rfl ?_
      refine jr_imgs (pc := 53) (by decide) h.1 dX10_keep_53 ?_
      replace h := h.2
      rw [hq_q1]
      refine jr_iconst (pc := 54) (v := 1) dX10_keep_54 (by decide) ?_
      refine jr_put (pc := 55) fp_X10_118 (by show q1 < 2; omega) (Or.inr (Or.inr rfl)) dX10_keep_55 ?_
      replace h := h _ rfl
      generalize jw_up M4 4 q1 2 1 = M5 at h ⊢
      refine jr_aload_n (pc := 58) dX10_keep_58 rfl 0 rfl ?_
      refine jr_get (pc := 59) (v := vr 3 0) fg_X10_77 (by decide) rfl dX10_keep_59 ?_
      refine jr_callV (pc := 62) (d' := 0) (mt' := mX3_clear) (k := 3) (n := 0) (As := []) (st := []) fc_X10_117 (by decide) (by decide) (Nat.le_of_ble_eq_true rfl) rfl dX10_keep_62 (jw_M.mono h (fun x6 M7 h => ?_))
      show jw_J 2 mX10_keep 65 [(0, vr 10 0), (1, vi a1)] [] M7 Q
      refine jr_iconst (pc := 65) (v := 1) dX10_keep_65 (by decide) ?_
      exact jr_iret (pc := 66) rfl dX10_keep_66 h
    · replace h := h.2 c
      refine jr_ldc (pc := 13) fk_X10_164 dX10_keep_13 ?_
      exact jr_iret (pc := 15) rfl dX10_keep_15 h
theorem dX10_goBack_0 : decode cX10_goBack 0 = .ok (.iload_n 1, 1) := by decide +kernel
theorem dX10_goBack_1 : decode cX10_goBack 1 = .ok (.ifCond .lt 12, 3) := by decide +kernel
theorem dX10_goBack_4 : decode cX10_goBack 4 = .ok (.iload_n 1, 1) := by decide +kernel
theorem dX10_goBack_5 : decode cX10_goBack 5 = .ok (.aload_n 0, 1) := by decide +kernel
theorem dX10_goBack_6 : decode cX10_goBack 6 = .ok (.getfield 84, 3) := by decide +kernel
theorem dX10_goBack_9 : decode cX10_goBack 9 = .ok (.arraylength, 1) := by decide +kernel
theorem dX10_goBack_10 : decode cX10_goBack 10 = .ok (.if_icmp .lt 6, 3) := by decide +kernel
theorem dX10_goBack_13 : decode cX10_goBack 13 = .ok (.ldc 164, 2) := by decide +kernel
theorem dX10_goBack_15 : decode cX10_goBack 15 = .ok (.ireturn, 1) := by decide +kernel
theorem dX10_goBack_16 : decode cX10_goBack 16 = .ok (.aload_n 0, 1) := by decide +kernel
theorem dX10_goBack_17 : decode cX10_goBack 17 = .ok (.getfield 84, 3) := by decide +kernel
theorem dX10_goBack_20 : decode cX10_goBack 20 = .ok (.iload_n 1, 1) := by decide +kernel
theorem dX10_goBack_21 : decode cX10_goBack 21 = .ok (.aaload, 1) := by decide +kernel
theorem dX10_goBack_22 : decode cX10_goBack 22 = .ok (.getfield 118, 3) := by decide +kernel
theorem dX10_goBack_25 : decode cX10_goBack 25 = .ok (.ifCond .ne 6, 3) := by decide +kernel
theorem dX10_goBack_28 : decode cX10_goBack 28 = .ok (.ldc 228, 2) := by decide +kernel
theorem dX10_goBack_30 : decode cX10_goBack 30 = .ok (.ireturn, 1) := by decide +kernel
theorem dX10_goBack_31 : decode cX10_goBack 31 = .ok (.aload_n 0, 1) := by decide +kernel
theorem dX10_goBack_32 : decode cX10_goBack 32 = .ok (.getfield 28, 3) := by decide +kernel
theorem dX10_goBack_35 : decode cX10_goBack 35 = .ok (.aload_n 0, 1) := by decide +kernel
theorem dX10_goBack_36 : decode cX10_goBack 36 = .ok (.getfield 84, 3) := by decide +kernel
theorem dX10_goBack_39 : decode cX10_goBack 39 = .ok (.iload_n 1, 1) := by decide +kernel
theorem dX10_goBack_40 : decode cX10_goBack 40 = .ok (.aaload, 1) := by decide +kernel
theorem dX10_goBack_41 : decode cX10_goBack 41 = .ok (.getfield 301, 3) := by decide +kernel
theorem dX10_goBack_44 : decode cX10_goBack 44 = .ok (.invokevirtual 244, 3) := by decide +kernel
theorem dX10_goBack_47 : decode cX10_goBack 47 = .ok (.aload_n 0, 1) := by decide +kernel
theorem dX10_goBack_48 : decode cX10_goBack 48 = .ok (.getfield 70, 3) := by decide +kernel
theorem dX10_goBack_51 : decode cX10_goBack 51 = .ok (.aload_n 0, 1) := by decide +kernel
theorem dX10_goBack_52 : decode cX10_goBack 52 = .ok (.getfield 84, 3) := by decide +kernel
theorem dX10_goBack_55 : decode cX10_goBack 55 = .ok (.iload_n 1, 1) := by decide +kernel
theorem dX10_goBack_56 : decode cX10_goBack 56 = .ok (.aaload, 1) := by decide +kernel
theorem dX10_goBack_57 : decode cX10_goBack 57 = .ok (.getfield 303, 3) := by decide +kernel
theorem dX10_goBack_60 : decode cX10_goBack 60 = .ok (.putfield 298, 3) := by decide +kernel
theorem dX10_goBack_63 : decode cX10_goBack 63 = .ok (.aload_n 0, 1) := by decide +kernel
theorem dX10_goBack_64 : decode cX10_goBack 64 = .ok (.getfield 77, 3) := by decide +kernel
theorem dX10_goBack_67 : decode cX10_goBack 67 = .ok (.invokevirtual 117, 3) := by decide +kernel
theorem dX10_goBack_70 : decode cX10_goBack 70 = .ok (.iconst 1, 1) := by decide +kernel
theorem dX10_goBack_71 : decode cX10_goBack 71 = .ok (.ireturn, 1) := by decide +kernel
set_option maxHeartbeats 4000000 in
set_option maxRecDepth 20000 in
theorem en_X10_goBack {a1 : Int32} {M : jw_Mem} {Q : Int32 → jw_Mem → Prop}  (h : ((a1 < 0 → Q (-1000000001) M) ∧ (¬ a1 < 0 → ((a1 < (nI 2) → (vp_in a1 2 ∧ (∀ q1 : Nat, q1 = a1.toNatClampNeg → q1 < 2 → ((¬ (M 4 q1 2) = 0 → (vp_in a1 2 ∧ (jw_M 1 mX8_copyFrom [vr 8 0, vr 8 (18 + q1)] M (fun x2 M3 => (vp_in a1 2 ∧ (∀ M4 : jw_Mem, M4 = jw_up M3 2 0 2 (M3 4 q1 1) → (jw_M 0 mX3_clear [vr 3 0] M4 (fun x5 M6 => Q 1 M6)))))))) ∧ ((M 4 q1 2) = 0 → Q (-1000000003) M))))) ∧ (¬ a1 < (nI 2) → Q (-1000000001) M))))) : jw_M 2 mX10_goBack [vr 10 0, vi a1] M Q := by
  refine jw_M.of (by decide) (Nat.le_of_ble_eq_true rfl) ?_
  show jw_J 2 mX10_goBack 0 [(0, vr 10 0), (1, vi a1)] [] M Q
  refine jr_iload_n (pc := 0) dX10_goBack_0 rfl 1 rfl ?_
  refine jr_if_lt (pc := 1) (tgt := 13) dX10_goBack_1 (by decide) (fun c => ?_) (fun c => ?_)
  · replace h := h.1 c
    refine jr_ldc (pc := 13) fk_X10_164 dX10_goBack_13 ?_
    exact jr_iret (pc := 15) rfl dX10_goBack_15 h
  · replace h := h.2 c
    refine jr_iload_n (pc := 4) dX10_goBack_4 rfl 1 rfl ?_
    refine jr_aload_n (pc := 5) dX10_goBack_5 rfl 0 rfl ?_
    refine jr_get (pc := 6) (v := vr 35 0) fg_X10_84 (by decide) rfl dX10_goBack_6 ?_
    refine jr_alen (pc := 9) (by decide) (by decide) dX10_goBack_9 ?_
    show jw_J 2 mX10_goBack 10 [(0, vr 10 0), (1, vi a1)] [vi (nI 2), vi a1] M Q
    refine jr_icmp_lt (pc := 10) (tgt := 16) dX10_goBack_10 (by decide) (fun c => ?_) (fun c => ?_)
    · replace h := h.1 c
      refine jr_aload_n (pc := 16) dX10_goBack_16 rfl 0 rfl ?_
      refine jr_get (pc := 17) (v := vr 35 0) fg_X10_84 (by decide) rfl dX10_goBack_17 ?_
      refine jr_iload_n (pc := 20) dX10_goBack_20 rfl 1 rfl ?_
      refine jr_imgs (pc := 21) (by decide) h.1 dX10_goBack_21 ?_
      have hb_q1 : a1.toNatClampNeg < 2 := Nat.not_le.mp fun z => h.1 (Or.inr z)
      replace h := h.2 _ rfl hb_q1
      generalize hq_q1 : a1.toNatClampNeg = q1 at h hb_q1 ⊢
      refine jr_get (pc := 22) (v := vi (M 4 q1 2)) fg_X10_118 (by show q1 < 2; omega) rfl dX10_goBack_22 ?_
      refine jr_if_ne (pc := 25) (tgt := 31) dX10_goBack_25 (by decide) (fun c => ?_) (fun c => ?_)
      · replace h := h.1 c
        refine jr_aload_n (pc := 31) dX10_goBack_31 rfl 0 rfl ?_
        refine jr_get (pc := 32) (v := vr 8 0) fg_X10_28 (by decide) rfl dX10_goBack_32 ?_
        refine jr_aload_n (pc := 35) dX10_goBack_35 rfl 0 rfl ?_
        refine jr_get (pc := 36) (v := vr 35 0) fg_X10_84 (by decide) rfl dX10_goBack_36 ?_
        refine jr_iload_n (pc := 39) dX10_goBack_39 rfl 1 rfl ?_
        refine jr_imgs (pc := 40) (by decide) h.1 dX10_goBack_40 ?_
        replace h := h.2
        rw [hq_q1]
        refine jr_get (pc := 41) (v := vr 8 (18 + q1)) fg_X10_301 (by show q1 < 2; omega) rfl dX10_goBack_41 ?_
        refine jr_callV (pc := 44) (d' := 1) (mt' := mX8_copyFrom) (k := 8) (n := 0) (As := [vr 8 (18 + q1)]) (st := []) fc_X10_244 (by decide) (by decide) (Nat.le_of_ble_eq_true rfl) rfl dX10_goBack_44 (jw_M.mono h (fun x2 M3 h => ?_))
        show jw_J 2 mX10_goBack 47 [(0, vr 10 0), (1, vi a1)] [] M3 Q
        refine jr_aload_n (pc := 47) dX10_goBack_47 rfl 0 rfl ?_
        refine jr_get (pc := 48) (v := vr 2 0) fg_X10_70 (by decide) rfl dX10_goBack_48 ?_
        refine jr_aload_n (pc := 51) dX10_goBack_51 rfl 0 rfl ?_
        refine jr_get (pc := 52) (v := vr 35 0) fg_X10_84 (by decide) rfl dX10_goBack_52 ?_
        refine jr_iload_n (pc := 55) dX10_goBack_55 rfl 1 rfl ?_
        refine jr_imgs (pc := 56) (by decide) h.1 dX10_goBack_56 ?_
        replace h := h.2
        rw [hq_q1]
        refine jr_get (pc := 57) (v := vi (M3 4 q1 1)) fg_X10_303 (by show q1 < 2; omega) rfl dX10_goBack_57 ?_
        refine jr_put (pc := 60) fp_X10_298 (by decide) (Or.inl ⟨_, _, _, rfl, by decide +kernel⟩) dX10_goBack_60 ?_
        replace h := h _ rfl
        generalize jw_up M3 2 0 2 (M3 4 q1 1) = M4 at h ⊢
        refine jr_aload_n (pc := 63) dX10_goBack_63 rfl 0 rfl ?_
        refine jr_get (pc := 64) (v := vr 3 0) fg_X10_77 (by decide) rfl dX10_goBack_64 ?_
        refine jr_callV (pc := 67) (d' := 0) (mt' := mX3_clear) (k := 3) (n := 0) (As := []) (st := []) fc_X10_117 (by decide) (by decide) (Nat.le_of_ble_eq_true rfl) rfl dX10_goBack_67 (jw_M.mono h (fun x5 M6 h => ?_))
        show jw_J 2 mX10_goBack 70 [(0, vr 10 0), (1, vi a1)] [] M6 Q
        refine jr_iconst (pc := 70) (v := 1) dX10_goBack_70 (by decide) ?_
        exact jr_iret (pc := 71) rfl dX10_goBack_71 h
      · replace h := h.2 c
        refine jr_ldc (pc := 28) fk_X10_228 dX10_goBack_28 ?_
        exact jr_iret (pc := 30) rfl dX10_goBack_30 h
    · replace h := h.2 c
      refine jr_ldc (pc := 13) fk_X10_164 dX10_goBack_13 ?_
      exact jr_iret (pc := 15) rfl dX10_goBack_15 h
theorem dX10_refusalOfYears_0 : decode cX10_refusalOfYears 0 = .ok (.iload_n 1, 1) := by decide +kernel
theorem dX10_refusalOfYears_1 : decode cX10_refusalOfYears 1 = .ok (.iconst 1, 1) := by decide +kernel
theorem dX10_refusalOfYears_2 : decode cX10_refusalOfYears 2 = .ok (.if_icmp .lt 9, 3) := by decide +kernel
theorem dX10_refusalOfYears_5 : decode cX10_refusalOfYears 5 = .ok (.iload_n 1, 1) := by decide +kernel
theorem dX10_refusalOfYears_6 : decode cX10_refusalOfYears 6 = .ok (.bipush 60, 2) := by decide +kernel
theorem dX10_refusalOfYears_8 : decode cX10_refusalOfYears 8 = .ok (.if_icmp .le 6, 3) := by decide +kernel
theorem dX10_refusalOfYears_11 : decode cX10_refusalOfYears 11 = .ok (.ldc 88, 2) := by decide +kernel
theorem dX10_refusalOfYears_13 : decode cX10_refusalOfYears 13 = .ok (.ireturn, 1) := by decide +kernel
theorem dX10_refusalOfYears_14 : decode cX10_refusalOfYears 14 = .ok (.aload_n 0, 1) := by decide +kernel
theorem dX10_refusalOfYears_15 : decode cX10_refusalOfYears 15 = .ok (.getfield 24, 3) := by decide +kernel
theorem dX10_refusalOfYears_18 : decode cX10_refusalOfYears 18 = .ok (.getfield 128, 3) := by decide +kernel
theorem dX10_refusalOfYears_21 : decode cX10_refusalOfYears 21 = .ok (.ifCond .ne 6, 3) := by decide +kernel
theorem dX10_refusalOfYears_24 : decode cX10_refusalOfYears 24 = .ok (.ldc 228, 2) := by decide +kernel
theorem dX10_refusalOfYears_26 : decode cX10_refusalOfYears 26 = .ok (.ireturn, 1) := by decide +kernel
theorem dX10_refusalOfYears_27 : decode cX10_refusalOfYears 27 = .ok (.aload_n 0, 1) := by decide +kernel
theorem dX10_refusalOfYears_28 : decode cX10_refusalOfYears 28 = .ok (.getfield 28, 3) := by decide +kernel
theorem dX10_refusalOfYears_31 : decode cX10_refusalOfYears 31 = .ok (.getfield 137, 3) := by decide +kernel
theorem dX10_refusalOfYears_34 : decode cX10_refusalOfYears 34 = .ok (.sipush 9000, 3) := by decide +kernel
theorem dX10_refusalOfYears_37 : decode cX10_refusalOfYears 37 = .ok (.if_icmp .le 8, 3) := by decide +kernel
theorem dX10_refusalOfYears_40 : decode cX10_refusalOfYears 40 = .ok (.ldc 97, 2) := by decide +kernel
theorem dX10_refusalOfYears_42 : decode cX10_refusalOfYears 42 = .ok (.goto 4, 3) := by decide +kernel
theorem dX10_refusalOfYears_45 : decode cX10_refusalOfYears 45 = .ok (.iconst 0, 1) := by decide +kernel
theorem dX10_refusalOfYears_46 : decode cX10_refusalOfYears 46 = .ok (.ireturn, 1) := by decide +kernel
set_option maxHeartbeats 4000000 in
set_option maxRecDepth 20000 in
theorem en_X10_refusalOfYears {a1 : Int32} {M : jw_Mem} {Q : Int32 → jw_Mem → Prop}  (h : ((a1 < 1 → Q (-1000000002) M) ∧ (¬ a1 < 1 → ((a1 ≤ 60 → ((¬ (M 1 0 0) = 0 → (((M 8 0 1) ≤ 9000 → Q 0 M) ∧ (¬ (M 8 0 1) ≤ 9000 → Q (-1000000004) M))) ∧ ((M 1 0 0) = 0 → Q (-1000000003) M))) ∧ (¬ a1 ≤ 60 → Q (-1000000002) M))))) : jw_M 0 mX10_refusalOfYears [vr 10 0, vi a1] M Q := by
  refine jw_M.of (by decide) (Nat.le_of_ble_eq_true rfl) ?_
  show jw_J 0 mX10_refusalOfYears 0 [(0, vr 10 0), (1, vi a1)] [] M Q
  refine jr_iload_n (pc := 0) dX10_refusalOfYears_0 rfl 1 rfl ?_
  refine jr_iconst (pc := 1) (v := 1) dX10_refusalOfYears_1 (by decide) ?_
  refine jr_icmp_lt (pc := 2) (tgt := 11) dX10_refusalOfYears_2 (by decide) (fun c => ?_) (fun c => ?_)
  · replace h := h.1 c
    refine jr_ldc (pc := 11) fk_X10_88 dX10_refusalOfYears_11 ?_
    exact jr_iret (pc := 13) rfl dX10_refusalOfYears_13 h
  · replace h := h.2 c
    refine jr_iload_n (pc := 5) dX10_refusalOfYears_5 rfl 1 rfl ?_
    refine jr_bipush (pc := 6) (v := 60) dX10_refusalOfYears_6 (by decide) ?_
    refine jr_icmp_le (pc := 8) (tgt := 14) dX10_refusalOfYears_8 (by decide) (fun c => ?_) (fun c => ?_)
    · replace h := h.1 c
      refine jr_aload_n (pc := 14) dX10_refusalOfYears_14 rfl 0 rfl ?_
      refine jr_get (pc := 15) (v := vr 1 0) fg_X10_24 (by decide) rfl dX10_refusalOfYears_15 ?_
      refine jr_get (pc := 18) (v := vi (M 1 0 0)) fg_X10_128 (by decide) rfl dX10_refusalOfYears_18 ?_
      refine jr_if_ne (pc := 21) (tgt := 27) dX10_refusalOfYears_21 (by decide) (fun c => ?_) (fun c => ?_)
      · replace h := h.1 c
        refine jr_aload_n (pc := 27) dX10_refusalOfYears_27 rfl 0 rfl ?_
        refine jr_get (pc := 28) (v := vr 8 0) fg_X10_28 (by decide) rfl dX10_refusalOfYears_28 ?_
        refine jr_get (pc := 31) (v := vi (M 8 0 1)) fg_X10_137 (by decide) rfl dX10_refusalOfYears_31 ?_
        refine jr_sipush (pc := 34) (v := 9000) dX10_refusalOfYears_34 (by decide) ?_
        refine jr_icmp_le (pc := 37) (tgt := 45) dX10_refusalOfYears_37 (by decide) (fun c => ?_) (fun c => ?_)
        · replace h := h.1 c
          refine jr_iconst (pc := 45) (v := 0) dX10_refusalOfYears_45 (by decide) ?_
          exact jr_iret (pc := 46) rfl dX10_refusalOfYears_46 h
        · replace h := h.2 c
          refine jr_ldc (pc := 40) fk_X10_97 dX10_refusalOfYears_40 ?_
          refine jr_goto (pc := 42) (tgt := 46) dX10_refusalOfYears_42 (by decide) ?_
          exact jr_iret (pc := 46) rfl dX10_refusalOfYears_46 h
      · replace h := h.2 c
        refine jr_ldc (pc := 24) fk_X10_228 dX10_refusalOfYears_24 ?_
        exact jr_iret (pc := 26) rfl dX10_refusalOfYears_26 h
    · replace h := h.2 c
      refine jr_ldc (pc := 11) fk_X10_88 dX10_refusalOfYears_11 ?_
      exact jr_iret (pc := 13) rfl dX10_refusalOfYears_13 h
