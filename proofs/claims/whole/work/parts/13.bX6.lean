theorem dX6_fewestChanges_0 : decode cX6_fewestChanges 0 = .ok (.aload_n 0, 1) := by decide +kernel
theorem dX6_fewestChanges_1 : decode cX6_fewestChanges 1 = .ok (.getfield 15, 3) := by decide +kernel
theorem dX6_fewestChanges_4 : decode cX6_fewestChanges 4 = .ok (.iload_n 1, 1) := by decide +kernel
theorem dX6_fewestChanges_5 : decode cX6_fewestChanges 5 = .ok (.invokevirtual 19, 3) := by decide +kernel
theorem dX6_fewestChanges_8 : decode cX6_fewestChanges 8 = .ok (.ifCond .ne 5, 3) := by decide +kernel
theorem dX6_fewestChanges_11 : decode cX6_fewestChanges 11 = .ok (.iconst (-1), 1) := by decide +kernel
theorem dX6_fewestChanges_12 : decode cX6_fewestChanges 12 = .ok (.ireturn, 1) := by decide +kernel
theorem dX6_fewestChanges_13 : decode cX6_fewestChanges 13 = .ok (.aload_n 0, 1) := by decide +kernel
theorem dX6_fewestChanges_14 : decode cX6_fewestChanges 14 = .ok (.getfield 15, 3) := by decide +kernel
theorem dX6_fewestChanges_17 : decode cX6_fewestChanges 17 = .ok (.aload_n 0, 1) := by decide +kernel
theorem dX6_fewestChanges_18 : decode cX6_fewestChanges 18 = .ok (.getfield 15, 3) := by decide +kernel
theorem dX6_fewestChanges_21 : decode cX6_fewestChanges 21 = .ok (.getfield 25, 3) := by decide +kernel
theorem dX6_fewestChanges_24 : decode cX6_fewestChanges 24 = .ok (.iload_n 1, 1) := by decide +kernel
theorem dX6_fewestChanges_25 : decode cX6_fewestChanges 25 = .ok (.iaload, 1) := by decide +kernel
theorem dX6_fewestChanges_26 : decode cX6_fewestChanges 26 = .ok (.invokevirtual 29, 3) := by decide +kernel
theorem dX6_fewestChanges_29 : decode cX6_fewestChanges 29 = .ok (.istore_n 3, 1) := by decide +kernel
theorem dX6_fewestChanges_30 : decode cX6_fewestChanges 30 = .ok (.iconst (-1), 1) := by decide +kernel
theorem dX6_fewestChanges_31 : decode cX6_fewestChanges 31 = .ok (.istore 4, 2) := by decide +kernel
theorem dX6_fewestChanges_33 : decode cX6_fewestChanges 33 = .ok (.iconst 0, 1) := by decide +kernel
theorem dX6_fewestChanges_34 : decode cX6_fewestChanges 34 = .ok (.istore 5, 2) := by decide +kernel
theorem dX6_fewestChanges_36 : decode cX6_fewestChanges 36 = .ok (.iload 5, 2) := by decide +kernel
theorem dX6_fewestChanges_38 : decode cX6_fewestChanges 38 = .ok (.aload_n 0, 1) := by decide +kernel
theorem dX6_fewestChanges_39 : decode cX6_fewestChanges 39 = .ok (.getfield 9, 3) := by decide +kernel
theorem dX6_fewestChanges_42 : decode cX6_fewestChanges 42 = .ok (.invokevirtual 33, 3) := by decide +kernel
theorem dX6_fewestChanges_45 : decode cX6_fewestChanges 45 = .ok (.if_icmp .ge 68, 3) := by decide +kernel
theorem dX6_fewestChanges_48 : decode cX6_fewestChanges 48 = .ok (.iload 4, 2) := by decide +kernel
theorem dX6_fewestChanges_50 : decode cX6_fewestChanges 50 = .ok (.iconst (-1), 1) := by decide +kernel
theorem dX6_fewestChanges_51 : decode cX6_fewestChanges 51 = .ok (.if_icmp .eq 16, 3) := by decide +kernel
theorem dX6_fewestChanges_54 : decode cX6_fewestChanges 54 = .ok (.iload 5, 2) := by decide +kernel
theorem dX6_fewestChanges_56 : decode cX6_fewestChanges 56 = .ok (.invokestatic 39, 3) := by decide +kernel
theorem dX6_fewestChanges_59 : decode cX6_fewestChanges 59 = .ok (.iload 4, 2) := by decide +kernel
theorem dX6_fewestChanges_61 : decode cX6_fewestChanges 61 = .ok (.invokestatic 39, 3) := by decide +kernel
theorem dX6_fewestChanges_64 : decode cX6_fewestChanges 64 = .ok (.if_icmp .ge 7, 3) := by decide +kernel
theorem dX6_fewestChanges_67 : decode cX6_fewestChanges 67 = .ok (.iconst 1, 1) := by decide +kernel
theorem dX6_fewestChanges_68 : decode cX6_fewestChanges 68 = .ok (.goto 4, 3) := by decide +kernel
theorem dX6_fewestChanges_71 : decode cX6_fewestChanges 71 = .ok (.iconst 0, 1) := by decide +kernel
theorem dX6_fewestChanges_72 : decode cX6_fewestChanges 72 = .ok (.istore 6, 2) := by decide +kernel
theorem dX6_fewestChanges_74 : decode cX6_fewestChanges 74 = .ok (.iload 6, 2) := by decide +kernel
theorem dX6_fewestChanges_76 : decode cX6_fewestChanges 76 = .ok (.ifCond .eq 31, 3) := by decide +kernel
theorem dX6_fewestChanges_79 : decode cX6_fewestChanges 79 = .ok (.aload_n 0, 1) := by decide +kernel
theorem dX6_fewestChanges_80 : decode cX6_fewestChanges 80 = .ok (.getfield 15, 3) := by decide +kernel
theorem dX6_fewestChanges_83 : decode cX6_fewestChanges 83 = .ok (.iload_n 1, 1) := by decide +kernel
theorem dX6_fewestChanges_84 : decode cX6_fewestChanges 84 = .ok (.iload_n 3, 1) := by decide +kernel
theorem dX6_fewestChanges_85 : decode cX6_fewestChanges 85 = .ok (.iload 5, 2) := by decide +kernel
theorem dX6_fewestChanges_87 : decode cX6_fewestChanges 87 = .ok (.ixor, 1) := by decide +kernel
theorem dX6_fewestChanges_88 : decode cX6_fewestChanges 88 = .ok (.invokevirtual 44, 3) := by decide +kernel
theorem dX6_fewestChanges_91 : decode cX6_fewestChanges 91 = .ok (.ifCond .lt 7, 3) := by decide +kernel
theorem dX6_fewestChanges_94 : decode cX6_fewestChanges 94 = .ok (.iconst 1, 1) := by decide +kernel
theorem dX6_fewestChanges_95 : decode cX6_fewestChanges 95 = .ok (.goto 4, 3) := by decide +kernel
theorem dX6_fewestChanges_98 : decode cX6_fewestChanges 98 = .ok (.iconst 0, 1) := by decide +kernel
theorem dX6_fewestChanges_99 : decode cX6_fewestChanges 99 = .ok (.iload_n 2, 1) := by decide +kernel
theorem dX6_fewestChanges_100 : decode cX6_fewestChanges 100 = .ok (.if_icmp .ne 7, 3) := by decide +kernel
theorem dX6_fewestChanges_103 : decode cX6_fewestChanges 103 = .ok (.iload 5, 2) := by decide +kernel
theorem dX6_fewestChanges_105 : decode cX6_fewestChanges 105 = .ok (.istore 4, 2) := by decide +kernel
theorem dX6_fewestChanges_107 : decode cX6_fewestChanges 107 = .ok (.iinc 5 1, 3) := by decide +kernel
theorem dX6_fewestChanges_110 : decode cX6_fewestChanges 110 = .ok (.goto (-74), 3) := by decide +kernel
theorem dX6_fewestChanges_113 : decode cX6_fewestChanges 113 = .ok (.iload 4, 2) := by decide +kernel
theorem dX6_fewestChanges_115 : decode cX6_fewestChanges 115 = .ok (.ireturn, 1) := by decide +kernel
set_option maxHeartbeats 4000000 in
set_option maxRecDepth 20000 in
theorem en_X6_fewestChanges {a1 : Int32} {a2 : Int32} {M : jw_Mem} {Q : Int32 → jw_Mem → Prop}  (h : (jw_M 1 mX8_stands [vr 8 0, vi a1] M (fun x1 M2 => ((¬ x1 = 0 → (vp_in a1 6 ∧ (jw_M 1 mX8_walkersUnder [vr 8 0, vi (M2 26 0 a1.toNatClampNeg)] M2 (fun x3 M4 => jw_J 3 mX6_fewestChanges 36 [(0, vr 6 0), (1, vi a1), (2, vi a2), (3, vi x3), (4, vi (-1)), (5, vi 0)] [] M4 Q)))) ∧ (x1 = 0 → Q (-1) M2))))) : jw_M 3 mX6_fewestChanges [vr 6 0, vi a1, vi a2] M Q := by
  refine jw_M.of (by decide) (Nat.le_of_ble_eq_true rfl) ?_
  show jw_J 3 mX6_fewestChanges 0 [(0, vr 6 0), (1, vi a1), (2, vi a2)] [] M Q
  refine jr_aload_n (pc := 0) dX6_fewestChanges_0 rfl 0 rfl ?_
  refine jr_get (pc := 1) (v := vr 8 0) fg_X6_15 (by decide) rfl dX6_fewestChanges_1 ?_
  refine jr_iload_n (pc := 4) dX6_fewestChanges_4 rfl 1 rfl ?_
  refine jr_callV (pc := 5) (d' := 1) (mt' := mX8_stands) (k := 8) (n := 0) (As := [vi a1]) (st := []) fc_X6_19 (by decide) (by decide) (Nat.le_of_ble_eq_true rfl) rfl dX6_fewestChanges_5 (jw_M.mono h (fun x1 M2 h => ?_))
  show jw_J 3 mX6_fewestChanges 8 [(0, vr 6 0), (1, vi a1), (2, vi a2)] [vi x1] M2 Q
  refine jr_if_ne (pc := 8) (tgt := 13) dX6_fewestChanges_8 (by decide) (fun c => ?_) (fun c => ?_)
  · replace h := h.1 c
    refine jr_aload_n (pc := 13) dX6_fewestChanges_13 rfl 0 rfl ?_
    refine jr_get (pc := 14) (v := vr 8 0) fg_X6_15 (by decide) rfl dX6_fewestChanges_14 ?_
    refine jr_aload_n (pc := 17) dX6_fewestChanges_17 rfl 0 rfl ?_
    refine jr_get (pc := 18) (v := vr 8 0) fg_X6_15 (by decide) rfl dX6_fewestChanges_18 ?_
    refine jr_get (pc := 21) (v := vr 26 0) fg_X6_25 (by decide) rfl dX6_fewestChanges_21 ?_
    refine jr_iload_n (pc := 24) dX6_fewestChanges_24 rfl 1 rfl ?_
    refine jr_iald (pc := 25) ⟨rfl, (by decide)⟩ h.1 dX6_fewestChanges_25 ?_
    replace h := h.2
    refine jr_callV (pc := 26) (d' := 1) (mt' := mX8_walkersUnder) (k := 8) (n := 0) (As := [vi (M2 26 0 a1.toNatClampNeg)]) (st := []) fc_X6_29 (by decide) (by decide) (Nat.le_of_ble_eq_true rfl) rfl dX6_fewestChanges_26 (jw_M.mono h (fun x3 M4 h => ?_))
    show jw_J 3 mX6_fewestChanges 29 [(0, vr 6 0), (1, vi a1), (2, vi a2)] [vi x3] M4 Q
    refine jr_istore_n (pc := 29) (lv' := [(3, vi x3), (0, vr 6 0), (1, vi a1), (2, vi a2)]) dX6_fewestChanges_29 rfl (by decide) rfl ?_
    refine jr_iconst (pc := 30) (v := (-1)) dX6_fewestChanges_30 (by decide) ?_
    refine jr_istore (pc := 31) (lv' := [(4, vi (-1)), (3, vi x3), (0, vr 6 0), (1, vi a1), (2, vi a2)]) dX6_fewestChanges_31 (by decide) rfl ?_
    refine jr_iconst (pc := 33) (v := 0) dX6_fewestChanges_33 (by decide) ?_
    refine jr_istore (pc := 34) (lv' := [(5, vi 0), (4, vi (-1)), (3, vi x3), (0, vr 6 0), (1, vi a1), (2, vi a2)]) dX6_fewestChanges_34 (by decide) rfl ?_
    exact jr_sub [3, 4, 5, 2, 1, 0] rfl h
  · replace h := h.2 c
    refine jr_iconst (pc := 11) (v := (-1)) dX6_fewestChanges_11 (by decide) ?_
    exact jr_iret (pc := 12) rfl dX6_fewestChanges_12 h
set_option maxHeartbeats 4000000 in
set_option maxRecDepth 20000 in
theorem bk_X6_fewestChanges_36 {v1 : Int32} {v2 : Int32} {v3 : Int32} {v4 : Int32} {v5 : Int32} {M : jw_Mem} {Q : Int32 → jw_Mem → Prop}  (h : (jw_M 0 mX1_setsOfWalkers [vr 1 0] M (fun x5 M6 => ((x5 ≤ v5 → Q v4 M6) ∧ (¬ x5 ≤ v5 → ((v4 = (-1) → (jw_M 2 mX8_lead [vr 8 0, vi v1, vi (v3 ^^^ v5)] M6 (fun x7 M8 => ((x7 < 0 → ((¬ 0 = v2 → jw_J 3 mX6_fewestChanges 36 [(0, vr 6 0), (1, vi v1), (2, vi v2), (3, vi v3), (4, vi v4), (5, vi (v5 + 1))] [] M8 Q) ∧ (0 = v2 → jw_J 3 mX6_fewestChanges 36 [(0, vr 6 0), (1, vi v1), (2, vi v2), (3, vi v3), (4, vi v5), (5, vi (v5 + 1))] [] M8 Q))) ∧ (¬ x7 < 0 → ((¬ 1 = v2 → jw_J 3 mX6_fewestChanges 36 [(0, vr 6 0), (1, vi v1), (2, vi v2), (3, vi v3), (4, vi v4), (5, vi (v5 + 1))] [] M8 Q) ∧ (1 = v2 → jw_J 3 mX6_fewestChanges 36 [(0, vr 6 0), (1, vi v1), (2, vi v2), (3, vi v3), (4, vi v5), (5, vi (v5 + 1))] [] M8 Q))))))) ∧ (¬ v4 = (-1) → (jw_M 0 mJ6_bitCount_0f7a4 [vi v5] M6 (fun x9 M10 => (jw_M 0 mJ6_bitCount_0f7a4 [vi v4] M10 (fun x11 M12 => ((x11 ≤ x9 → jw_J 3 mX6_fewestChanges 36 [(0, vr 6 0), (1, vi v1), (2, vi v2), (3, vi v3), (4, vi v4), (5, vi (v5 + 1))] [] M12 Q) ∧ (¬ x11 ≤ x9 → (jw_M 2 mX8_lead [vr 8 0, vi v1, vi (v3 ^^^ v5)] M12 (fun x13 M14 => ((x13 < 0 → ((¬ 0 = v2 → jw_J 3 mX6_fewestChanges 36 [(0, vr 6 0), (1, vi v1), (2, vi v2), (3, vi v3), (4, vi v4), (5, vi (v5 + 1))] [] M14 Q) ∧ (0 = v2 → jw_J 3 mX6_fewestChanges 36 [(0, vr 6 0), (1, vi v1), (2, vi v2), (3, vi v3), (4, vi v5), (5, vi (v5 + 1))] [] M14 Q))) ∧ (¬ x13 < 0 → ((¬ 1 = v2 → jw_J 3 mX6_fewestChanges 36 [(0, vr 6 0), (1, vi v1), (2, vi v2), (3, vi v3), (4, vi v4), (5, vi (v5 + 1))] [] M14 Q) ∧ (1 = v2 → jw_J 3 mX6_fewestChanges 36 [(0, vr 6 0), (1, vi v1), (2, vi v2), (3, vi v3), (4, vi v5), (5, vi (v5 + 1))] [] M14 Q))))))))))))))))))) : jw_J 3 mX6_fewestChanges 36 [(0, vr 6 0), (1, vi v1), (2, vi v2), (3, vi v3), (4, vi v4), (5, vi v5)] [] M Q := by
  refine jr_iload (pc := 36) dX6_fewestChanges_36 5 rfl ?_
  refine jr_aload_n (pc := 38) dX6_fewestChanges_38 rfl 0 rfl ?_
  refine jr_get (pc := 39) (v := vr 1 0) fg_X6_9 (by decide) rfl dX6_fewestChanges_39 ?_
  refine jr_callV (pc := 42) (d' := 0) (mt' := mX1_setsOfWalkers) (k := 1) (n := 0) (As := []) (st := [vi v5]) fc_X6_33 (by decide) (by decide) (Nat.le_of_ble_eq_true rfl) rfl dX6_fewestChanges_42 (jw_M.mono h (fun x5 M6 h => ?_))
  show jw_J 3 mX6_fewestChanges 45 [(0, vr 6 0), (1, vi v1), (2, vi v2), (3, vi v3), (4, vi v4), (5, vi v5)] [vi x5, vi v5] M6 Q
  refine jr_icmp_ge (pc := 45) (tgt := 113) dX6_fewestChanges_45 (by decide) (fun c => ?_) (fun c => ?_)
  · replace h := h.1 c
    refine jr_iload (pc := 113) dX6_fewestChanges_113 4 rfl ?_
    exact jr_iret (pc := 115) rfl dX6_fewestChanges_115 h
  · replace h := h.2 c
    refine jr_iload (pc := 48) dX6_fewestChanges_48 4 rfl ?_
    refine jr_iconst (pc := 50) (v := (-1)) dX6_fewestChanges_50 (by decide) ?_
    refine jr_icmp_eq (pc := 51) (tgt := 67) dX6_fewestChanges_51 (by decide) (fun c => ?_) (fun c => ?_)
    · replace h := h.1 c
      refine jr_iconst (pc := 67) (v := 1) dX6_fewestChanges_67 (by decide) ?_
      refine jr_goto (pc := 68) (tgt := 72) dX6_fewestChanges_68 (by decide) ?_
      refine jr_istore (pc := 72) (lv' := [(6, vi 1), (0, vr 6 0), (1, vi v1), (2, vi v2), (3, vi v3), (4, vi v4), (5, vi v5)]) dX6_fewestChanges_72 (by decide) rfl ?_
      refine jr_iload (pc := 74) dX6_fewestChanges_74 0 rfl ?_
      refine jr_if_eq (pc := 76) (tgt := 107) dX6_fewestChanges_76 (by decide) (fun c => absurd c (by decide)) (fun _ => ?_)
      refine jr_aload_n (pc := 79) dX6_fewestChanges_79 rfl 1 rfl ?_
      refine jr_get (pc := 80) (v := vr 8 0) fg_X6_15 (by decide) rfl dX6_fewestChanges_80 ?_
      refine jr_iload_n (pc := 83) dX6_fewestChanges_83 rfl 2 rfl ?_
      refine jr_iload_n (pc := 84) dX6_fewestChanges_84 rfl 4 rfl ?_
      refine jr_iload (pc := 85) dX6_fewestChanges_85 6 rfl ?_
      refine jr_ixor (pc := 87) dX6_fewestChanges_87 ?_
      refine jr_callV (pc := 88) (d' := 2) (mt' := mX8_lead) (k := 8) (n := 0) (As := [vi v1, vi (v3 ^^^ v5)]) (st := []) fc_X6_44 (by decide) (by decide) (Nat.le_of_ble_eq_true rfl) rfl dX6_fewestChanges_88 (jw_M.mono h (fun x7 M8 h => ?_))
      show jw_J 3 mX6_fewestChanges 91 [(6, vi 1), (0, vr 6 0), (1, vi v1), (2, vi v2), (3, vi v3), (4, vi v4), (5, vi v5)] [vi x7] M8 Q
      refine jr_if_lt (pc := 91) (tgt := 98) dX6_fewestChanges_91 (by decide) (fun c => ?_) (fun c => ?_)
      · replace h := h.1 c
        refine jr_iconst (pc := 98) (v := 0) dX6_fewestChanges_98 (by decide) ?_
        refine jr_iload_n (pc := 99) dX6_fewestChanges_99 rfl 3 rfl ?_
        refine jr_icmp_ne (pc := 100) (tgt := 107) dX6_fewestChanges_100 (by decide) (fun c => ?_) (fun c => ?_)
        · replace h := h.1 c
          refine jr_iinc (pc := 107) (lv' := [(5, vi (v5 + 1)), (6, vi 1), (0, vr 6 0), (1, vi v1), (2, vi v2), (3, vi v3), (4, vi v4)]) (q := 6) dX6_fewestChanges_107 rfl (by rfl) (by decide) rfl ?_
          refine jr_goto (pc := 110) (tgt := 36) dX6_fewestChanges_110 (by decide) ?_
          exact jr_sub [2, 3, 4, 5, 6, 0] rfl h
        · replace h := h.2 c
          refine jr_iload (pc := 103) dX6_fewestChanges_103 6 rfl ?_
          refine jr_istore (pc := 105) (lv' := [(4, vi v5), (6, vi 1), (0, vr 6 0), (1, vi v1), (2, vi v2), (3, vi v3), (5, vi v5)]) dX6_fewestChanges_105 (by decide) rfl ?_
          refine jr_iinc (pc := 107) (lv' := [(5, vi (v5 + 1)), (4, vi v5), (6, vi 1), (0, vr 6 0), (1, vi v1), (2, vi v2), (3, vi v3)]) (q := 6) dX6_fewestChanges_107 rfl (by rfl) (by decide) rfl ?_
          refine jr_goto (pc := 110) (tgt := 36) dX6_fewestChanges_110 (by decide) ?_
          exact jr_sub [3, 4, 5, 6, 1, 0] rfl h
      · replace h := h.2 c
        refine jr_iconst (pc := 94) (v := 1) dX6_fewestChanges_94 (by decide) ?_
        refine jr_goto (pc := 95) (tgt := 99) dX6_fewestChanges_95 (by decide) ?_
        refine jr_iload_n (pc := 99) dX6_fewestChanges_99 rfl 3 rfl ?_
        refine jr_icmp_ne (pc := 100) (tgt := 107) dX6_fewestChanges_100 (by decide) (fun c => ?_) (fun c => ?_)
        · replace h := h.1 c
          refine jr_iinc (pc := 107) (lv' := [(5, vi (v5 + 1)), (6, vi 1), (0, vr 6 0), (1, vi v1), (2, vi v2), (3, vi v3), (4, vi v4)]) (q := 6) dX6_fewestChanges_107 rfl (by rfl) (by decide) rfl ?_
          refine jr_goto (pc := 110) (tgt := 36) dX6_fewestChanges_110 (by decide) ?_
          exact jr_sub [2, 3, 4, 5, 6, 0] rfl h
        · replace h := h.2 c
          refine jr_iload (pc := 103) dX6_fewestChanges_103 6 rfl ?_
          refine jr_istore (pc := 105) (lv' := [(4, vi v5), (6, vi 1), (0, vr 6 0), (1, vi v1), (2, vi v2), (3, vi v3), (5, vi v5)]) dX6_fewestChanges_105 (by decide) rfl ?_
          refine jr_iinc (pc := 107) (lv' := [(5, vi (v5 + 1)), (4, vi v5), (6, vi 1), (0, vr 6 0), (1, vi v1), (2, vi v2), (3, vi v3)]) (q := 6) dX6_fewestChanges_107 rfl (by rfl) (by decide) rfl ?_
          refine jr_goto (pc := 110) (tgt := 36) dX6_fewestChanges_110 (by decide) ?_
          exact jr_sub [3, 4, 5, 6, 1, 0] rfl h
    · replace h := h.2 c
      refine jr_iload (pc := 54) dX6_fewestChanges_54 5 rfl ?_
      refine jr_callS (pc := 56) (d' := 0) (mt' := mJ6_bitCount_0f7a4) (As := [vi v5]) (st := []) fc_X6_39 (by decide) (Nat.le_of_ble_eq_true rfl) rfl dX6_fewestChanges_56 (jw_M.mono h (fun x9 M10 h => ?_))
      show jw_J 3 mX6_fewestChanges 59 [(0, vr 6 0), (1, vi v1), (2, vi v2), (3, vi v3), (4, vi v4), (5, vi v5)] [vi x9] M10 Q
      refine jr_iload (pc := 59) dX6_fewestChanges_59 4 rfl ?_
      refine jr_callS (pc := 61) (d' := 0) (mt' := mJ6_bitCount_0f7a4) (As := [vi v4]) (st := [vi x9]) fc_X6_39 (by decide) (Nat.le_of_ble_eq_true rfl) rfl dX6_fewestChanges_61 (jw_M.mono h (fun x11 M12 h => ?_))
      show jw_J 3 mX6_fewestChanges 64 [(0, vr 6 0), (1, vi v1), (2, vi v2), (3, vi v3), (4, vi v4), (5, vi v5)] [vi x11, vi x9] M12 Q
      refine jr_icmp_ge (pc := 64) (tgt := 71) dX6_fewestChanges_64 (by decide) (fun c => ?_) (fun c => ?_)
      · replace h := h.1 c
        refine jr_iconst (pc := 71) (v := 0) dX6_fewestChanges_71 (by decide) ?_
        refine jr_istore (pc := 72) (lv' := [(6, vi 0), (0, vr 6 0), (1, vi v1), (2, vi v2), (3, vi v3), (4, vi v4), (5, vi v5)]) dX6_fewestChanges_72 (by decide) rfl ?_
        refine jr_iload (pc := 74) dX6_fewestChanges_74 0 rfl ?_
        refine jr_if_eq (pc := 76) (tgt := 107) dX6_fewestChanges_76 (by decide) (fun _ => ?_) (fun c => absurd c (by decide))
        refine jr_iinc (pc := 107) (lv' := [(5, vi (v5 + 1)), (6, vi 0), (0, vr 6 0), (1, vi v1), (2, vi v2), (3, vi v3), (4, vi v4)]) (q := 6) dX6_fewestChanges_107 rfl (by rfl) (by decide) rfl ?_
        refine jr_goto (pc := 110) (tgt := 36) dX6_fewestChanges_110 (by decide) ?_
        exact jr_sub [2, 3, 4, 5, 6, 0] rfl h
      · replace h := h.2 c
        refine jr_iconst (pc := 67) (v := 1) dX6_fewestChanges_67 (by decide) ?_
        refine jr_goto (pc := 68) (tgt := 72) dX6_fewestChanges_68 (by decide) ?_
        refine jr_istore (pc := 72) (lv' := [(6, vi 1), (0, vr 6 0), (1, vi v1), (2, vi v2), (3, vi v3), (4, vi v4), (5, vi v5)]) dX6_fewestChanges_72 (by decide) rfl ?_
        refine jr_iload (pc := 74) dX6_fewestChanges_74 0 rfl ?_
        refine jr_if_eq (pc := 76) (tgt := 107) dX6_fewestChanges_76 (by decide) (fun c => absurd c (by decide)) (fun _ => ?_)
        refine jr_aload_n (pc := 79) dX6_fewestChanges_79 rfl 1 rfl ?_
        refine jr_get (pc := 80) (v := vr 8 0) fg_X6_15 (by decide) rfl dX6_fewestChanges_80 ?_
        refine jr_iload_n (pc := 83) dX6_fewestChanges_83 rfl 2 rfl ?_
        refine jr_iload_n (pc := 84) dX6_fewestChanges_84 rfl 4 rfl ?_
        refine jr_iload (pc := 85) dX6_fewestChanges_85 6 rfl ?_
        refine jr_ixor (pc := 87) dX6_fewestChanges_87 ?_
        refine jr_callV (pc := 88) (d' := 2) (mt' := mX8_lead) (k := 8) (n := 0) (As := [vi v1, vi (v3 ^^^ v5)]) (st := []) fc_X6_44 (by decide) (by decide) (Nat.le_of_ble_eq_true rfl) rfl dX6_fewestChanges_88 (jw_M.mono h (fun x13 M14 h => ?_))
        show jw_J 3 mX6_fewestChanges 91 [(6, vi 1), (0, vr 6 0), (1, vi v1), (2, vi v2), (3, vi v3), (4, vi v4), (5, vi v5)] [vi x13] M14 Q
        refine jr_if_lt (pc := 91) (tgt := 98) dX6_fewestChanges_91 (by decide) (fun c => ?_) (fun c => ?_)
        · replace h := h.1 c
          refine jr_iconst (pc := 98) (v := 0) dX6_fewestChanges_98 (by decide) ?_
          refine jr_iload_n (pc := 99) dX6_fewestChanges_99 rfl 3 rfl ?_
          refine jr_icmp_ne (pc := 100) (tgt := 107) dX6_fewestChanges_100 (by decide) (fun c => ?_) (fun c => ?_)
          · replace h := h.1 c
            refine jr_iinc (pc := 107) (lv' := [(5, vi (v5 + 1)), (6, vi 1), (0, vr 6 0), (1, vi v1), (2, vi v2), (3, vi v3), (4, vi v4)]) (q := 6) dX6_fewestChanges_107 rfl (by rfl) (by decide) rfl ?_
            refine jr_goto (pc := 110) (tgt := 36) dX6_fewestChanges_110 (by decide) ?_
            exact jr_sub [2, 3, 4, 5, 6, 0] rfl h
          · replace h := h.2 c
            refine jr_iload (pc := 103) dX6_fewestChanges_103 6 rfl ?_
            refine jr_istore (pc := 105) (lv' := [(4, vi v5), (6, vi 1), (0, vr 6 0), (1, vi v1), (2, vi v2), (3, vi v3), (5, vi v5)]) dX6_fewestChanges_105 (by decide) rfl ?_
            refine jr_iinc (pc := 107) (lv' := [(5, vi (v5 + 1)), (4, vi v5), (6, vi 1), (0, vr 6 0), (1, vi v1), (2, vi v2), (3, vi v3)]) (q := 6) dX6_fewestChanges_107 rfl (by rfl) (by decide) rfl ?_
            refine jr_goto (pc := 110) (tgt := 36) dX6_fewestChanges_110 (by decide) ?_
            exact jr_sub [3, 4, 5, 6, 1, 0] rfl h
        · replace h := h.2 c
          refine jr_iconst (pc := 94) (v := 1) dX6_fewestChanges_94 (by decide) ?_
          refine jr_goto (pc := 95) (tgt := 99) dX6_fewestChanges_95 (by decide) ?_
          refine jr_iload_n (pc := 99) dX6_fewestChanges_99 rfl 3 rfl ?_
          refine jr_icmp_ne (pc := 100) (tgt := 107) dX6_fewestChanges_100 (by decide) (fun c => ?_) (fun c => ?_)
          · replace h := h.1 c
            refine jr_iinc (pc := 107) (lv' := [(5, vi (v5 + 1)), (6, vi 1), (0, vr 6 0), (1, vi v1), (2, vi v2), (3, vi v3), (4, vi v4)]) (q := 6) dX6_fewestChanges_107 rfl (by rfl) (by decide) rfl ?_
            refine jr_goto (pc := 110) (tgt := 36) dX6_fewestChanges_110 (by decide) ?_
            exact jr_sub [2, 3, 4, 5, 6, 0] rfl h
          · replace h := h.2 c
            refine jr_iload (pc := 103) dX6_fewestChanges_103 6 rfl ?_
            refine jr_istore (pc := 105) (lv' := [(4, vi v5), (6, vi 1), (0, vr 6 0), (1, vi v1), (2, vi v2), (3, vi v3), (5, vi v5)]) dX6_fewestChanges_105 (by decide) rfl ?_
            refine jr_iinc (pc := 107) (lv' := [(5, vi (v5 + 1)), (4, vi v5), (6, vi 1), (0, vr 6 0), (1, vi v1), (2, vi v2), (3, vi v3)]) (q := 6) dX6_fewestChanges_107 rfl (by rfl) (by decide) rfl ?_
            refine jr_goto (pc := 110) (tgt := 36) dX6_fewestChanges_110 (by decide) ?_
            exact jr_sub [3, 4, 5, 6, 1, 0] rfl h
theorem dX6_weight_0 : decode cX6_weight 0 = .ok (.aload_n 0, 1) := by decide +kernel
theorem dX6_weight_1 : decode cX6_weight 1 = .ok (.getfield 15, 3) := by decide +kernel
theorem dX6_weight_4 : decode cX6_weight 4 = .ok (.iload_n 2, 1) := by decide +kernel
theorem dX6_weight_5 : decode cX6_weight 5 = .ok (.invokevirtual 29, 3) := by decide +kernel
theorem dX6_weight_8 : decode cX6_weight 8 = .ok (.istore 4, 2) := by decide +kernel
theorem dX6_weight_10 : decode cX6_weight 10 = .ok (.iload 4, 2) := by decide +kernel
theorem dX6_weight_12 : decode cX6_weight 12 = .ok (.iload_n 1, 1) := by decide +kernel
theorem dX6_weight_13 : decode cX6_weight 13 = .ok (.invokestatic 48, 3) := by decide +kernel
theorem dX6_weight_16 : decode cX6_weight 16 = .ok (.ifCond .ne 5, 3) := by decide +kernel
theorem dX6_weight_19 : decode cX6_weight 19 = .ok (.iconst 0, 1) := by decide +kernel
theorem dX6_weight_20 : decode cX6_weight 20 = .ok (.ireturn, 1) := by decide +kernel
theorem dX6_weight_21 : decode cX6_weight 21 = .ok (.iload 4, 2) := by decide +kernel
theorem dX6_weight_23 : decode cX6_weight 23 = .ok (.iconst 1, 1) := by decide +kernel
theorem dX6_weight_24 : decode cX6_weight 24 = .ok (.iload_n 1, 1) := by decide +kernel
theorem dX6_weight_25 : decode cX6_weight 25 = .ok (.ishl, 1) := by decide +kernel
theorem dX6_weight_26 : decode cX6_weight 26 = .ok (.iconst (-1), 1) := by decide +kernel
theorem dX6_weight_27 : decode cX6_weight 27 = .ok (.ixor, 1) := by decide +kernel
theorem dX6_weight_28 : decode cX6_weight 28 = .ok (.iand, 1) := by decide +kernel
theorem dX6_weight_29 : decode cX6_weight 29 = .ok (.istore 5, 2) := by decide +kernel
theorem dX6_weight_31 : decode cX6_weight 31 = .ok (.aload_n 0, 1) := by decide +kernel
theorem dX6_weight_32 : decode cX6_weight 32 = .ok (.getfield 9, 3) := by decide +kernel
theorem dX6_weight_35 : decode cX6_weight 35 = .ok (.iload 4, 2) := by decide +kernel
theorem dX6_weight_37 : decode cX6_weight 37 = .ok (.invokevirtual 52, 3) := by decide +kernel
theorem dX6_weight_40 : decode cX6_weight 40 = .ok (.iconst 1, 1) := by decide +kernel
theorem dX6_weight_41 : decode cX6_weight 41 = .ok (.iadd, 1) := by decide +kernel
theorem dX6_weight_42 : decode cX6_weight 42 = .ok (.iconst 2, 1) := by decide +kernel
theorem dX6_weight_43 : decode cX6_weight 43 = .ok (.idiv, 1) := by decide +kernel
theorem dX6_weight_44 : decode cX6_weight 44 = .ok (.istore 6, 2) := by decide +kernel
theorem dX6_weight_46 : decode cX6_weight 46 = .ok (.iconst 0, 1) := by decide +kernel
theorem dX6_weight_47 : decode cX6_weight 47 = .ok (.istore 7, 2) := by decide +kernel
theorem dX6_weight_49 : decode cX6_weight 49 = .ok (.iconst 0, 1) := by decide +kernel
theorem dX6_weight_50 : decode cX6_weight 50 = .ok (.istore 8, 2) := by decide +kernel
theorem dX6_weight_52 : decode cX6_weight 52 = .ok (.iload 8, 2) := by decide +kernel
theorem dX6_weight_54 : decode cX6_weight 54 = .ok (.aload_n 0, 1) := by decide +kernel
theorem dX6_weight_55 : decode cX6_weight 55 = .ok (.getfield 9, 3) := by decide +kernel
theorem dX6_weight_58 : decode cX6_weight 58 = .ok (.invokevirtual 33, 3) := by decide +kernel
theorem dX6_weight_61 : decode cX6_weight 61 = .ok (.if_icmp .ge 83, 3) := by decide +kernel
theorem dX6_weight_64 : decode cX6_weight 64 = .ok (.iload 8, 2) := by decide +kernel
theorem dX6_weight_66 : decode cX6_weight 66 = .ok (.iload 5, 2) := by decide +kernel
theorem dX6_weight_68 : decode cX6_weight 68 = .ok (.iconst (-1), 1) := by decide +kernel
theorem dX6_weight_69 : decode cX6_weight 69 = .ok (.ixor, 1) := by decide +kernel
theorem dX6_weight_70 : decode cX6_weight 70 = .ok (.iand, 1) := by decide +kernel
theorem dX6_weight_71 : decode cX6_weight 71 = .ok (.ifCond .ne 67, 3) := by decide +kernel
theorem dX6_weight_74 : decode cX6_weight 74 = .ok (.aload_n 0, 1) := by decide +kernel
theorem dX6_weight_75 : decode cX6_weight 75 = .ok (.getfield 9, 3) := by decide +kernel
theorem dX6_weight_78 : decode cX6_weight 78 = .ok (.iload 8, 2) := by decide +kernel
theorem dX6_weight_80 : decode cX6_weight 80 = .ok (.invokevirtual 52, 3) := by decide +kernel
theorem dX6_weight_83 : decode cX6_weight 83 = .ok (.iload 6, 2) := by decide +kernel
theorem dX6_weight_85 : decode cX6_weight 85 = .ok (.if_icmp .ge 53, 3) := by decide +kernel
theorem dX6_weight_88 : decode cX6_weight 88 = .ok (.aload_n 0, 1) := by decide +kernel
theorem dX6_weight_89 : decode cX6_weight 89 = .ok (.getfield 9, 3) := by decide +kernel
theorem dX6_weight_92 : decode cX6_weight 92 = .ok (.iload 8, 2) := by decide +kernel
theorem dX6_weight_94 : decode cX6_weight 94 = .ok (.iconst 1, 1) := by decide +kernel
theorem dX6_weight_95 : decode cX6_weight 95 = .ok (.iload_n 1, 1) := by decide +kernel
theorem dX6_weight_96 : decode cX6_weight 96 = .ok (.ishl, 1) := by decide +kernel
theorem dX6_weight_97 : decode cX6_weight 97 = .ok (.ior, 1) := by decide +kernel
theorem dX6_weight_98 : decode cX6_weight 98 = .ok (.invokevirtual 52, 3) := by decide +kernel
theorem dX6_weight_101 : decode cX6_weight 101 = .ok (.iload 6, 2) := by decide +kernel
theorem dX6_weight_103 : decode cX6_weight 103 = .ok (.if_icmp .lt 35, 3) := by decide +kernel
theorem dX6_weight_106 : decode cX6_weight 106 = .ok (.iload 7, 2) := by decide +kernel
theorem dX6_weight_108 : decode cX6_weight 108 = .ok (.iload_n 3, 1) := by decide +kernel
theorem dX6_weight_109 : decode cX6_weight 109 = .ok (.ifCond .eq 25, 3) := by decide +kernel
theorem dX6_weight_112 : decode cX6_weight 112 = .ok (.aload_n 0, 1) := by decide +kernel
theorem dX6_weight_113 : decode cX6_weight 113 = .ok (.iload 8, 2) := by decide +kernel
theorem dX6_weight_115 : decode cX6_weight 115 = .ok (.invokestatic 39, 3) := by decide +kernel
theorem dX6_weight_118 : decode cX6_weight 118 = .ok (.iload 5, 2) := by decide +kernel
theorem dX6_weight_120 : decode cX6_weight 120 = .ok (.iload 8, 2) := by decide +kernel
theorem dX6_weight_122 : decode cX6_weight 122 = .ok (.iconst (-1), 1) := by decide +kernel
theorem dX6_weight_123 : decode cX6_weight 123 = .ok (.ixor, 1) := by decide +kernel
theorem dX6_weight_124 : decode cX6_weight 124 = .ok (.iand, 1) := by decide +kernel
theorem dX6_weight_125 : decode cX6_weight 125 = .ok (.invokestatic 39, 3) := by decide +kernel
theorem dX6_weight_128 : decode cX6_weight 128 = .ok (.invokevirtual 55, 3) := by decide +kernel
theorem dX6_weight_131 : decode cX6_weight 131 = .ok (.goto 4, 3) := by decide +kernel
theorem dX6_weight_134 : decode cX6_weight 134 = .ok (.iconst 1, 1) := by decide +kernel
theorem dX6_weight_135 : decode cX6_weight 135 = .ok (.iadd, 1) := by decide +kernel
theorem dX6_weight_136 : decode cX6_weight 136 = .ok (.istore 7, 2) := by decide +kernel
theorem dX6_weight_138 : decode cX6_weight 138 = .ok (.iinc 8 1, 3) := by decide +kernel
theorem dX6_weight_141 : decode cX6_weight 141 = .ok (.goto (-89), 3) := by decide +kernel
theorem dX6_weight_144 : decode cX6_weight 144 = .ok (.iload 7, 2) := by decide +kernel
theorem dX6_weight_146 : decode cX6_weight 146 = .ok (.ireturn, 1) := by decide +kernel
set_option maxHeartbeats 4000000 in
set_option maxRecDepth 20000 in
theorem en_X6_weight {a1 : Int32} {a2 : Int32} {a3 : Int32} {M : jw_Mem} {Q : Int32 → jw_Mem → Prop}  (h : (jw_M 1 mX8_walkersUnder [vr 8 0, vi a2] M (fun x1 M2 => (jw_M 0 mX10_isIn [vi x1, vi a1] M2 (fun x3 M4 => ((¬ x3 = 0 → (jw_M 1 mX1_votesOf [vr 1 0, vi x1] M4 (fun x5 M6 => jw_J 2 mX6_weight 52 [(0, vr 6 0), (1, vi a1), (3, vi a3), (5, vi (x1 &&& (((1 : Int32) <<< (a1 &&& 31)) ^^^ (-1)))), (6, vi ((x5 + 1) / 2)), (7, vi 0), (8, vi 0)] [] M6 Q))) ∧ (x3 = 0 → Q 0 M4))))))) : jw_M 2 mX6_weight [vr 6 0, vi a1, vi a2, vi a3] M Q := by
  refine jw_M.of (by decide) (Nat.le_of_ble_eq_true rfl) ?_
  show jw_J 2 mX6_weight 0 [(0, vr 6 0), (1, vi a1), (2, vi a2), (3, vi a3)] [] M Q
  refine jr_aload_n (pc := 0) dX6_weight_0 rfl 0 rfl ?_
  refine jr_get (pc := 1) (v := vr 8 0) fg_X6_15 (by decide) rfl dX6_weight_1 ?_
  refine jr_iload_n (pc := 4) dX6_weight_4 rfl 2 rfl ?_
  refine jr_callV (pc := 5) (d' := 1) (mt' := mX8_walkersUnder) (k := 8) (n := 0) (As := [vi a2]) (st := []) fc_X6_29 (by decide) (by decide) (Nat.le_of_ble_eq_true rfl) rfl dX6_weight_5 (jw_M.mono h (fun x1 M2 h => ?_))
  show jw_J 2 mX6_weight 8 [(0, vr 6 0), (1, vi a1), (2, vi a2), (3, vi a3)] [vi x1] M2 Q
  refine jr_istore (pc := 8) (lv' := [(4, vi x1), (0, vr 6 0), (1, vi a1), (2, vi a2), (3, vi a3)]) dX6_weight_8 (by decide) rfl ?_
  refine jr_iload (pc := 10) dX6_weight_10 0 rfl ?_
  refine jr_iload_n (pc := 12) dX6_weight_12 rfl 2 rfl ?_
  refine jr_callN (pc := 13) (d' := 0) (mt' := mX10_isIn) (As := [vi x1, vi a1]) (st := []) fc_X6_48 (by decide) (Nat.le_of_ble_eq_true rfl) rfl dX6_weight_13 (jw_M.mono h (fun x3 M4 h => ?_))
  show jw_J 2 mX6_weight 16 [(4, vi x1), (0, vr 6 0), (1, vi a1), (2, vi a2), (3, vi a3)] [vi x3] M4 Q
  refine jr_if_ne (pc := 16) (tgt := 21) dX6_weight_16 (by decide) (fun c => ?_) (fun c => ?_)
  · replace h := h.1 c
    refine jr_iload (pc := 21) dX6_weight_21 0 rfl ?_
    refine jr_iconst (pc := 23) (v := 1) dX6_weight_23 (by decide) ?_
    refine jr_iload_n (pc := 24) dX6_weight_24 rfl 2 rfl ?_
    refine jr_ishl (pc := 25) dX6_weight_25 ?_
    refine jr_iconst (pc := 26) (v := (-1)) dX6_weight_26 (by decide) ?_
    refine jr_ixor (pc := 27) dX6_weight_27 ?_
    refine jr_iand (pc := 28) dX6_weight_28 ?_
    refine jr_istore (pc := 29) (lv' := [(5, vi (x1 &&& (((1 : Int32) <<< (a1 &&& 31)) ^^^ (-1)))), (4, vi x1), (0, vr 6 0), (1, vi a1), (2, vi a2), (3, vi a3)]) dX6_weight_29 (by decide) rfl ?_
    refine jr_aload_n (pc := 31) dX6_weight_31 rfl 2 rfl ?_
    refine jr_get (pc := 32) (v := vr 1 0) fg_X6_9 (by decide) rfl dX6_weight_32 ?_
    refine jr_iload (pc := 35) dX6_weight_35 1 rfl ?_
    refine jr_callV (pc := 37) (d' := 1) (mt' := mX1_votesOf) (k := 1) (n := 0) (As := [vi x1]) (st := []) fc_X6_52 (by decide) (by decide) (Nat.le_of_ble_eq_true rfl) rfl dX6_weight_37 (jw_M.mono h (fun x5 M6 h => ?_))
    show jw_J 2 mX6_weight 40 [(5, vi (x1 &&& (((1 : Int32) <<< (a1 &&& 31)) ^^^ (-1)))), (4, vi x1), (0, vr 6 0), (1, vi a1), (2, vi a2), (3, vi a3)] [vi x5] M6 Q
    refine jr_iconst (pc := 40) (v := 1) dX6_weight_40 (by decide) ?_
    refine jr_iadd (pc := 41) dX6_weight_41 ?_
    refine jr_iconst (pc := 42) (v := 2) dX6_weight_42 (by decide) ?_
    refine jr_idiv (pc := 43) dX6_weight_43 (by decide) ?_
    refine jr_istore (pc := 44) (lv' := [(6, vi ((x5 + 1) / 2)), (5, vi (x1 &&& (((1 : Int32) <<< (a1 &&& 31)) ^^^ (-1)))), (4, vi x1), (0, vr 6 0), (1, vi a1), (2, vi a2), (3, vi a3)]) dX6_weight_44 (by decide) rfl ?_
    refine jr_iconst (pc := 46) (v := 0) dX6_weight_46 (by decide) ?_
    refine jr_istore (pc := 47) (lv' := [(7, vi 0), (6, vi ((x5 + 1) / 2)), (5, vi (x1 &&& (((1 : Int32) <<< (a1 &&& 31)) ^^^ (-1)))), (4, vi x1), (0, vr 6 0), (1, vi a1), (2, vi a2), (3, vi a3)]) dX6_weight_47 (by decide) rfl ?_
    refine jr_iconst (pc := 49) (v := 0) dX6_weight_49 (by decide) ?_
    refine jr_istore (pc := 50) (lv' := [(8, vi 0), (7, vi 0), (6, vi ((x5 + 1) / 2)), (5, vi (x1 &&& (((1 : Int32) <<< (a1 &&& 31)) ^^^ (-1)))), (4, vi x1), (0, vr 6 0), (1, vi a1), (2, vi a2), (3, vi a3)]) dX6_weight_50 (by decide) rfl ?_
    exact jr_sub [5, 6, 8, 3, 2, 1, 0] rfl h
  · replace h := h.2 c
    refine jr_iconst (pc := 19) (v := 0) dX6_weight_19 (by decide) ?_
    exact jr_iret (pc := 20) rfl dX6_weight_20 h
set_option maxHeartbeats 4000000 in
set_option maxRecDepth 20000 in
theorem bk_X6_weight_52 {v1 : Int32} {v3 : Int32} {v5 : Int32} {v6 : Int32} {v7 : Int32} {v8 : Int32} {M : jw_Mem} {Q : Int32 → jw_Mem → Prop}  (h : (jw_M 0 mX1_setsOfWalkers [vr 1 0] M (fun x7 M8 => ((x7 ≤ v8 → Q v7 M8) ∧ (¬ x7 ≤ v8 → ((¬ (v8 &&& (v5 ^^^ (-1))) = 0 → jw_J 2 mX6_weight 52 [(0, vr 6 0), (1, vi v1), (3, vi v3), (5, vi v5), (6, vi v6), (7, vi v7), (8, vi (v8 + 1))] [] M8 Q) ∧ ((v8 &&& (v5 ^^^ (-1))) = 0 → (jw_M 1 mX1_votesOf [vr 1 0, vi v8] M8 (fun x9 M10 => ((v6 ≤ x9 → jw_J 2 mX6_weight 52 [(0, vr 6 0), (1, vi v1), (3, vi v3), (5, vi v5), (6, vi v6), (7, vi v7), (8, vi (v8 + 1))] [] M10 Q) ∧ (¬ v6 ≤ x9 → (jw_M 1 mX1_votesOf [vr 1 0, vi (v8 ||| ((1 : Int32) <<< (v1 &&& 31)))] M10 (fun x11 M12 => ((x11 < v6 → jw_J 2 mX6_weight 52 [(0, vr 6 0), (1, vi v1), (3, vi v3), (5, vi v5), (6, vi v6), (7, vi v7), (8, vi (v8 + 1))] [] M12 Q) ∧ (¬ x11 < v6 → ((v3 = 0 → jw_J 2 mX6_weight 52 [(0, vr 6 0), (1, vi v1), (3, vi v3), (5, vi v5), (6, vi v6), (7, vi (v7 + 1)), (8, vi (v8 + 1))] [] M12 Q) ∧ (¬ v3 = 0 → (jw_M 0 mJ6_bitCount_0f7a4 [vi v8] M12 (fun x13 M14 => (jw_M 0 mJ6_bitCount_0f7a4 [vi (v5 &&& (v8 ^^^ (-1)))] M14 (fun x15 M16 => (jw_M 0 mX6_ordersAround [vr 6 0, vi x13, vi x15] M16 (fun x17 M18 => jw_J 2 mX6_weight 52 [(0, vr 6 0), (1, vi v1), (3, vi v3), (5, vi v5), (6, vi v6), (7, vi (v7 + x17)), (8, vi (v8 + 1))] [] M18 Q))))))))))))))))))))))) : jw_J 2 mX6_weight 52 [(0, vr 6 0), (1, vi v1), (3, vi v3), (5, vi v5), (6, vi v6), (7, vi v7), (8, vi v8)] [] M Q := by
  refine jr_iload (pc := 52) dX6_weight_52 6 rfl ?_
  refine jr_aload_n (pc := 54) dX6_weight_54 rfl 0 rfl ?_
  refine jr_get (pc := 55) (v := vr 1 0) fg_X6_9 (by decide) rfl dX6_weight_55 ?_
  refine jr_callV (pc := 58) (d' := 0) (mt' := mX1_setsOfWalkers) (k := 1) (n := 0) (As := []) (st := [vi v8]) fc_X6_33 (by decide) (by decide) (Nat.le_of_ble_eq_true rfl) rfl dX6_weight_58 (jw_M.mono h (fun x7 M8 h => ?_))
  show jw_J 2 mX6_weight 61 [(0, vr 6 0), (1, vi v1), (3, vi v3), (5, vi v5), (6, vi v6), (7, vi v7), (8, vi v8)] [vi x7, vi v8] M8 Q
  refine jr_icmp_ge (pc := 61) (tgt := 144) dX6_weight_61 (by decide) (fun c => ?_) (fun c => ?_)
  · replace h := h.1 c
    refine jr_iload (pc := 144) dX6_weight_144 5 rfl ?_
    exact jr_iret (pc := 146) rfl dX6_weight_146 h
  · replace h := h.2 c
    refine jr_iload (pc := 64) dX6_weight_64 6 rfl ?_
    refine jr_iload (pc := 66) dX6_weight_66 3 rfl ?_
    refine jr_iconst (pc := 68) (v := (-1)) dX6_weight_68 (by decide) ?_
    refine jr_ixor (pc := 69) dX6_weight_69 ?_
    refine jr_iand (pc := 70) dX6_weight_70 ?_
    refine jr_if_ne (pc := 71) (tgt := 138) dX6_weight_71 (by decide) (fun c => ?_) (fun c => ?_)
    · replace h := h.1 c
      refine jr_iinc (pc := 138) (lv' := [(8, vi (v8 + 1)), (0, vr 6 0), (1, vi v1), (3, vi v3), (5, vi v5), (6, vi v6), (7, vi v7)]) (q := 6) dX6_weight_138 rfl (by rfl) (by decide) rfl ?_
      refine jr_goto (pc := 141) (tgt := 52) dX6_weight_141 (by decide) ?_
      exact jr_sub [1, 2, 3, 4, 5, 6, 0] rfl h
    · replace h := h.2 c
      refine jr_aload_n (pc := 74) dX6_weight_74 rfl 0 rfl ?_
      refine jr_get (pc := 75) (v := vr 1 0) fg_X6_9 (by decide) rfl dX6_weight_75 ?_
      refine jr_iload (pc := 78) dX6_weight_78 6 rfl ?_
      refine jr_callV (pc := 80) (d' := 1) (mt' := mX1_votesOf) (k := 1) (n := 0) (As := [vi v8]) (st := []) fc_X6_52 (by decide) (by decide) (Nat.le_of_ble_eq_true rfl) rfl dX6_weight_80 (jw_M.mono h (fun x9 M10 h => ?_))
      show jw_J 2 mX6_weight 83 [(0, vr 6 0), (1, vi v1), (3, vi v3), (5, vi v5), (6, vi v6), (7, vi v7), (8, vi v8)] [vi x9] M10 Q
      refine jr_iload (pc := 83) dX6_weight_83 4 rfl ?_
      refine jr_icmp_ge (pc := 85) (tgt := 138) dX6_weight_85 (by decide) (fun c => ?_) (fun c => ?_)
      · replace h := h.1 c
        refine jr_iinc (pc := 138) (lv' := [(8, vi (v8 + 1)), (0, vr 6 0), (1, vi v1), (3, vi v3), (5, vi v5), (6, vi v6), (7, vi v7)]) (q := 6) dX6_weight_138 rfl (by rfl) (by decide) rfl ?_
        refine jr_goto (pc := 141) (tgt := 52) dX6_weight_141 (by decide) ?_
        exact jr_sub [1, 2, 3, 4, 5, 6, 0] rfl h
      · replace h := h.2 c
        refine jr_aload_n (pc := 88) dX6_weight_88 rfl 0 rfl ?_
        refine jr_get (pc := 89) (v := vr 1 0) fg_X6_9 (by decide) rfl dX6_weight_89 ?_
        refine jr_iload (pc := 92) dX6_weight_92 6 rfl ?_
        refine jr_iconst (pc := 94) (v := 1) dX6_weight_94 (by decide) ?_
        refine jr_iload_n (pc := 95) dX6_weight_95 rfl 1 rfl ?_
        refine jr_ishl (pc := 96) dX6_weight_96 ?_
        refine jr_ior (pc := 97) dX6_weight_97 ?_
        refine jr_callV (pc := 98) (d' := 1) (mt' := mX1_votesOf) (k := 1) (n := 0) (As := [vi (v8 ||| ((1 : Int32) <<< (v1 &&& 31)))]) (st := []) fc_X6_52 (by decide) (by decide) (Nat.le_of_ble_eq_true rfl) rfl dX6_weight_98 (jw_M.mono h (fun x11 M12 h => ?_))
        show jw_J 2 mX6_weight 101 [(0, vr 6 0), (1, vi v1), (3, vi v3), (5, vi v5), (6, vi v6), (7, vi v7), (8, vi v8)] [vi x11] M12 Q
        refine jr_iload (pc := 101) dX6_weight_101 4 rfl ?_
        refine jr_icmp_lt (pc := 103) (tgt := 138) dX6_weight_103 (by decide) (fun c => ?_) (fun c => ?_)
        · replace h := h.1 c
          refine jr_iinc (pc := 138) (lv' := [(8, vi (v8 + 1)), (0, vr 6 0), (1, vi v1), (3, vi v3), (5, vi v5), (6, vi v6), (7, vi v7)]) (q := 6) dX6_weight_138 rfl (by rfl) (by decide) rfl ?_
          refine jr_goto (pc := 141) (tgt := 52) dX6_weight_141 (by decide) ?_
          exact jr_sub [1, 2, 3, 4, 5, 6, 0] rfl h
        · replace h := h.2 c
          refine jr_iload (pc := 106) dX6_weight_106 5 rfl ?_
          refine jr_iload_n (pc := 108) dX6_weight_108 rfl 2 rfl ?_
          refine jr_if_eq (pc := 109) (tgt := 134) dX6_weight_109 (by decide) (fun c => ?_) (fun c => ?_)
          · replace h := h.1 c
            refine jr_iconst (pc := 134) (v := 1) dX6_weight_134 (by decide) ?_
            refine jr_iadd (pc := 135) dX6_weight_135 ?_
            refine jr_istore (pc := 136) (lv' := [(7, vi (v7 + 1)), (0, vr 6 0), (1, vi v1), (3, vi v3), (5, vi v5), (6, vi v6), (8, vi v8)]) dX6_weight_136 (by decide) rfl ?_
            refine jr_iinc (pc := 138) (lv' := [(8, vi (v8 + 1)), (7, vi (v7 + 1)), (0, vr 6 0), (1, vi v1), (3, vi v3), (5, vi v5), (6, vi v6)]) (q := 6) dX6_weight_138 rfl (by rfl) (by decide) rfl ?_
            refine jr_goto (pc := 141) (tgt := 52) dX6_weight_141 (by decide) ?_
            exact jr_sub [2, 3, 4, 5, 6, 1, 0] rfl h
          · replace h := h.2 c
            refine jr_aload_n (pc := 112) dX6_weight_112 rfl 0 rfl ?_
            refine jr_iload (pc := 113) dX6_weight_113 6 rfl ?_
            refine jr_callS (pc := 115) (d' := 0) (mt' := mJ6_bitCount_0f7a4) (As := [vi v8]) (st := [vr 6 0, vi v7]) fc_X6_39 (by decide) (Nat.le_of_ble_eq_true rfl) rfl dX6_weight_115 (jw_M.mono h (fun x13 M14 h => ?_))
            show jw_J 2 mX6_weight 118 [(0, vr 6 0), (1, vi v1), (3, vi v3), (5, vi v5), (6, vi v6), (7, vi v7), (8, vi v8)] [vi x13, vr 6 0, vi v7] M14 Q
            refine jr_iload (pc := 118) dX6_weight_118 3 rfl ?_
            refine jr_iload (pc := 120) dX6_weight_120 6 rfl ?_
            refine jr_iconst (pc := 122) (v := (-1)) dX6_weight_122 (by decide) ?_
            refine jr_ixor (pc := 123) dX6_weight_123 ?_
            refine jr_iand (pc := 124) dX6_weight_124 ?_
            refine jr_callS (pc := 125) (d' := 0) (mt' := mJ6_bitCount_0f7a4) (As := [vi (v5 &&& (v8 ^^^ (-1)))]) (st := [vi x13, vr 6 0, vi v7]) fc_X6_39 (by decide) (Nat.le_of_ble_eq_true rfl) rfl dX6_weight_125 (jw_M.mono h (fun x15 M16 h => ?_))
            show jw_J 2 mX6_weight 128 [(0, vr 6 0), (1, vi v1), (3, vi v3), (5, vi v5), (6, vi v6), (7, vi v7), (8, vi v8)] [vi x15, vi x13, vr 6 0, vi v7] M16 Q
            refine jr_callV (pc := 128) (d' := 0) (mt' := mX6_ordersAround) (k := 6) (n := 0) (As := [vi x13, vi x15]) (st := [vi v7]) fc_X6_55 (by decide) (by decide) (Nat.le_of_ble_eq_true rfl) rfl dX6_weight_128 (jw_M.mono h (fun x17 M18 h => ?_))
            show jw_J 2 mX6_weight 131 [(0, vr 6 0), (1, vi v1), (3, vi v3), (5, vi v5), (6, vi v6), (7, vi v7), (8, vi v8)] [vi x17, vi v7] M18 Q
            refine jr_goto (pc := 131) (tgt := 135) dX6_weight_131 (by decide) ?_
            refine jr_iadd (pc := 135) dX6_weight_135 ?_
            refine jr_istore (pc := 136) (lv' := [(7, vi (v7 + x17)), (0, vr 6 0), (1, vi v1), (3, vi v3), (5, vi v5), (6, vi v6), (8, vi v8)]) dX6_weight_136 (by decide) rfl ?_
            refine jr_iinc (pc := 138) (lv' := [(8, vi (v8 + 1)), (7, vi (v7 + x17)), (0, vr 6 0), (1, vi v1), (3, vi v3), (5, vi v5), (6, vi v6)]) (q := 6) dX6_weight_138 rfl (by rfl) (by decide) rfl ?_
            refine jr_goto (pc := 141) (tgt := 52) dX6_weight_141 (by decide) ?_
            exact jr_sub [2, 3, 4, 5, 6, 1, 0] rfl h
theorem dX6_ordersAround_0 : decode cX6_ordersAround 0 = .ok (.iload_n 1, 1) := by decide +kernel
theorem dX6_ordersAround_1 : decode cX6_ordersAround 1 = .ok (.ifCond .lt 27, 3) := by decide +kernel
theorem dX6_ordersAround_4 : decode cX6_ordersAround 4 = .ok (.iload_n 1, 1) := by decide +kernel
theorem dX6_ordersAround_5 : decode cX6_ordersAround 5 = .ok (.getstatic 58, 3) := by decide +kernel
theorem dX6_ordersAround_8 : decode cX6_ordersAround 8 = .ok (.arraylength, 1) := by decide +kernel
theorem dX6_ordersAround_9 : decode cX6_ordersAround 9 = .ok (.if_icmp .ge 19, 3) := by decide +kernel
theorem dX6_ordersAround_12 : decode cX6_ordersAround 12 = .ok (.iload_n 2, 1) := by decide +kernel
theorem dX6_ordersAround_13 : decode cX6_ordersAround 13 = .ok (.ifCond .lt 15, 3) := by decide +kernel
theorem dX6_ordersAround_16 : decode cX6_ordersAround 16 = .ok (.iload_n 2, 1) := by decide +kernel
theorem dX6_ordersAround_17 : decode cX6_ordersAround 17 = .ok (.getstatic 58, 3) := by decide +kernel
theorem dX6_ordersAround_20 : decode cX6_ordersAround 20 = .ok (.arraylength, 1) := by decide +kernel
theorem dX6_ordersAround_21 : decode cX6_ordersAround 21 = .ok (.if_icmp .ge 7, 3) := by decide +kernel
theorem dX6_ordersAround_24 : decode cX6_ordersAround 24 = .ok (.iconst 1, 1) := by decide +kernel
theorem dX6_ordersAround_25 : decode cX6_ordersAround 25 = .ok (.goto 4, 3) := by decide +kernel
theorem dX6_ordersAround_28 : decode cX6_ordersAround 28 = .ok (.iconst 0, 1) := by decide +kernel
theorem dX6_ordersAround_29 : decode cX6_ordersAround 29 = .ok (.istore_n 3, 1) := by decide +kernel
theorem dX6_ordersAround_30 : decode cX6_ordersAround 30 = .ok (.iload_n 3, 1) := by decide +kernel
theorem dX6_ordersAround_31 : decode cX6_ordersAround 31 = .ok (.ifCond .eq 17, 3) := by decide +kernel
theorem dX6_ordersAround_34 : decode cX6_ordersAround 34 = .ok (.getstatic 58, 3) := by decide +kernel
theorem dX6_ordersAround_37 : decode cX6_ordersAround 37 = .ok (.iload_n 1, 1) := by decide +kernel
theorem dX6_ordersAround_38 : decode cX6_ordersAround 38 = .ok (.iaload, 1) := by decide +kernel
theorem dX6_ordersAround_39 : decode cX6_ordersAround 39 = .ok (.getstatic 58, 3) := by decide +kernel
theorem dX6_ordersAround_42 : decode cX6_ordersAround 42 = .ok (.iload_n 2, 1) := by decide +kernel
theorem dX6_ordersAround_43 : decode cX6_ordersAround 43 = .ok (.iaload, 1) := by decide +kernel
theorem dX6_ordersAround_44 : decode cX6_ordersAround 44 = .ok (.imul, 1) := by decide +kernel
theorem dX6_ordersAround_45 : decode cX6_ordersAround 45 = .ok (.goto 4, 3) := by decide +kernel
theorem dX6_ordersAround_48 : decode cX6_ordersAround 48 = .ok (.iconst 0, 1) := by decide +kernel
theorem dX6_ordersAround_49 : decode cX6_ordersAround 49 = .ok (.ireturn, 1) := by decide +kernel
set_option maxHeartbeats 4000000 in
set_option maxRecDepth 20000 in
theorem en_X6_ordersAround {a1 : Int32} {a2 : Int32} {M : jw_Mem} {Q : Int32 → jw_Mem → Prop}  (h : ((a1 < 0 → Q 0 M) ∧ (¬ a1 < 0 → ((8 ≤ a1 → Q 0 M) ∧ (¬ 8 ≤ a1 → ((a2 < 0 → Q 0 M) ∧ (¬ a2 < 0 → ((8 ≤ a2 → Q 0 M) ∧ (¬ 8 ≤ a2 → (vp_in a1 8 ∧ (vp_in a2 8 ∧ Q ((jw_ord a1.toNatClampNeg) * (jw_ord a2.toNatClampNeg)) M))))))))))) : jw_M 0 mX6_ordersAround [vr 6 0, vi a1, vi a2] M Q := by
  refine jw_M.of (by decide) (Nat.le_of_ble_eq_true rfl) ?_
  show jw_J 0 mX6_ordersAround 0 [(0, vr 6 0), (1, vi a1), (2, vi a2)] [] M Q
  refine jr_iload_n (pc := 0) dX6_ordersAround_0 rfl 1 rfl ?_
  refine jr_if_lt (pc := 1) (tgt := 28) dX6_ordersAround_1 (by decide) (fun c => ?_) (fun c => ?_)
  · replace h := h.1 c
    refine jr_iconst (pc := 28) (v := 0) dX6_ordersAround_28 (by decide) ?_
    refine jr_istore_n (pc := 29) (lv' := [(3, vi 0), (0, vr 6 0), (1, vi a1), (2, vi a2)]) dX6_ordersAround_29 rfl (by decide) rfl ?_
    refine jr_iload_n (pc := 30) dX6_ordersAround_30 rfl 0 rfl ?_
    refine jr_if_eq (pc := 31) (tgt := 48) dX6_ordersAround_31 (by decide) (fun _ => ?_) (fun c => absurd c (by decide))
    refine jr_iconst (pc := 48) (v := 0) dX6_ordersAround_48 (by decide) ?_
    exact jr_iret (pc := 49) rfl dX6_ordersAround_49 h
  · replace h := h.2 c
    refine jr_iload_n (pc := 4) dX6_ordersAround_4 rfl 1 rfl ?_
    refine jr_ords (pc := 5) rfl fo_58 dX6_ordersAround_5 dX6_ordersAround_8 ?_
    refine jr_icmp_ge (pc := 9) (tgt := 28) dX6_ordersAround_9 (by decide) (fun c => ?_) (fun c => ?_)
    · replace h := h.1 c
      refine jr_iconst (pc := 28) (v := 0) dX6_ordersAround_28 (by decide) ?_
      refine jr_istore_n (pc := 29) (lv' := [(3, vi 0), (0, vr 6 0), (1, vi a1), (2, vi a2)]) dX6_ordersAround_29 rfl (by decide) rfl ?_
      refine jr_iload_n (pc := 30) dX6_ordersAround_30 rfl 0 rfl ?_
      refine jr_if_eq (pc := 31) (tgt := 48) dX6_ordersAround_31 (by decide) (fun _ => ?_) (fun c => absurd c (by decide))
      refine jr_iconst (pc := 48) (v := 0) dX6_ordersAround_48 (by decide) ?_
      exact jr_iret (pc := 49) rfl dX6_ordersAround_49 h
    · replace h := h.2 c
      refine jr_iload_n (pc := 12) dX6_ordersAround_12 rfl 2 rfl ?_
      refine jr_if_lt (pc := 13) (tgt := 28) dX6_ordersAround_13 (by decide) (fun c => ?_) (fun c => ?_)
      · replace h := h.1 c
        refine jr_iconst (pc := 28) (v := 0) dX6_ordersAround_28 (by decide) ?_
        refine jr_istore_n (pc := 29) (lv' := [(3, vi 0), (0, vr 6 0), (1, vi a1), (2, vi a2)]) dX6_ordersAround_29 rfl (by decide) rfl ?_
        refine jr_iload_n (pc := 30) dX6_ordersAround_30 rfl 0 rfl ?_
        refine jr_if_eq (pc := 31) (tgt := 48) dX6_ordersAround_31 (by decide) (fun _ => ?_) (fun c => absurd c (by decide))
        refine jr_iconst (pc := 48) (v := 0) dX6_ordersAround_48 (by decide) ?_
        exact jr_iret (pc := 49) rfl dX6_ordersAround_49 h
      · replace h := h.2 c
        refine jr_iload_n (pc := 16) dX6_ordersAround_16 rfl 2 rfl ?_
        refine jr_ords (pc := 17) rfl fo_58 dX6_ordersAround_17 dX6_ordersAround_20 ?_
        refine jr_icmp_ge (pc := 21) (tgt := 28) dX6_ordersAround_21 (by decide) (fun c => ?_) (fun c => ?_)
        · replace h := h.1 c
          refine jr_iconst (pc := 28) (v := 0) dX6_ordersAround_28 (by decide) ?_
          refine jr_istore_n (pc := 29) (lv' := [(3, vi 0), (0, vr 6 0), (1, vi a1), (2, vi a2)]) dX6_ordersAround_29 rfl (by decide) rfl ?_
          refine jr_iload_n (pc := 30) dX6_ordersAround_30 rfl 0 rfl ?_
          refine jr_if_eq (pc := 31) (tgt := 48) dX6_ordersAround_31 (by decide) (fun _ => ?_) (fun c => absurd c (by decide))
          refine jr_iconst (pc := 48) (v := 0) dX6_ordersAround_48 (by decide) ?_
          exact jr_iret (pc := 49) rfl dX6_ordersAround_49 h
        · replace h := h.2 c
          refine jr_iconst (pc := 24) (v := 1) dX6_ordersAround_24 (by decide) ?_
          refine jr_goto (pc := 25) (tgt := 29) dX6_ordersAround_25 (by decide) ?_
          refine jr_istore_n (pc := 29) (lv' := [(3, vi 1), (0, vr 6 0), (1, vi a1), (2, vi a2)]) dX6_ordersAround_29 rfl (by decide) rfl ?_
          refine jr_iload_n (pc := 30) dX6_ordersAround_30 rfl 0 rfl ?_
          refine jr_if_eq (pc := 31) (tgt := 48) dX6_ordersAround_31 (by decide) (fun c => absurd c (by decide)) (fun _ => ?_)
          refine jr_ordi (pc := 34) (q := 2) rfl fo_58 dX6_ordersAround_34 dX6_ordersAround_37 rfl rfl h.1 dX6_ordersAround_38 ?_
          replace h := h.2
          refine jr_ordi (pc := 39) (q := 3) rfl fo_58 dX6_ordersAround_39 dX6_ordersAround_42 rfl rfl h.1 dX6_ordersAround_43 ?_
          replace h := h.2
          refine jr_imul (pc := 44) dX6_ordersAround_44 ?_
          refine jr_goto (pc := 45) (tgt := 49) dX6_ordersAround_45 (by decide) ?_
          exact jr_iret (pc := 49) rfl dX6_ordersAround_49 h
theorem dX6_isHadAgainst_0 : decode cX6_isHadAgainst 0 = .ok (.aload_n 0, 1) := by decide +kernel
theorem dX6_isHadAgainst_1 : decode cX6_isHadAgainst 1 = .ok (.getfield 15, 3) := by decide +kernel
theorem dX6_isHadAgainst_4 : decode cX6_isHadAgainst 4 = .ok (.iload_n 1, 1) := by decide +kernel
theorem dX6_isHadAgainst_5 : decode cX6_isHadAgainst 5 = .ok (.invokevirtual 61, 3) := by decide +kernel
theorem dX6_isHadAgainst_8 : decode cX6_isHadAgainst 8 = .ok (.istore_n 3, 1) := by decide +kernel
theorem dX6_isHadAgainst_9 : decode cX6_isHadAgainst 9 = .ok (.aload_n 0, 1) := by decide +kernel
theorem dX6_isHadAgainst_10 : decode cX6_isHadAgainst 10 = .ok (.getfield 15, 3) := by decide +kernel
theorem dX6_isHadAgainst_13 : decode cX6_isHadAgainst 13 = .ok (.iload_n 2, 1) := by decide +kernel
theorem dX6_isHadAgainst_14 : decode cX6_isHadAgainst 14 = .ok (.invokevirtual 61, 3) := by decide +kernel
theorem dX6_isHadAgainst_17 : decode cX6_isHadAgainst 17 = .ok (.istore 4, 2) := by decide +kernel
theorem dX6_isHadAgainst_19 : decode cX6_isHadAgainst 19 = .ok (.aload_n 0, 1) := by decide +kernel
theorem dX6_isHadAgainst_20 : decode cX6_isHadAgainst 20 = .ok (.getfield 9, 3) := by decide +kernel
theorem dX6_isHadAgainst_23 : decode cX6_isHadAgainst 23 = .ok (.iload_n 3, 1) := by decide +kernel
theorem dX6_isHadAgainst_24 : decode cX6_isHadAgainst 24 = .ok (.iload 4, 2) := by decide +kernel
theorem dX6_isHadAgainst_26 : decode cX6_isHadAgainst 26 = .ok (.iconst (-1), 1) := by decide +kernel
theorem dX6_isHadAgainst_27 : decode cX6_isHadAgainst 27 = .ok (.ixor, 1) := by decide +kernel
theorem dX6_isHadAgainst_28 : decode cX6_isHadAgainst 28 = .ok (.iand, 1) := by decide +kernel
theorem dX6_isHadAgainst_29 : decode cX6_isHadAgainst 29 = .ok (.invokevirtual 52, 3) := by decide +kernel
theorem dX6_isHadAgainst_32 : decode cX6_isHadAgainst 32 = .ok (.aload_n 0, 1) := by decide +kernel
theorem dX6_isHadAgainst_33 : decode cX6_isHadAgainst 33 = .ok (.getfield 9, 3) := by decide +kernel
theorem dX6_isHadAgainst_36 : decode cX6_isHadAgainst 36 = .ok (.iload 4, 2) := by decide +kernel
theorem dX6_isHadAgainst_38 : decode cX6_isHadAgainst 38 = .ok (.iload_n 3, 1) := by decide +kernel
theorem dX6_isHadAgainst_39 : decode cX6_isHadAgainst 39 = .ok (.iconst (-1), 1) := by decide +kernel
theorem dX6_isHadAgainst_40 : decode cX6_isHadAgainst 40 = .ok (.ixor, 1) := by decide +kernel
theorem dX6_isHadAgainst_41 : decode cX6_isHadAgainst 41 = .ok (.iand, 1) := by decide +kernel
theorem dX6_isHadAgainst_42 : decode cX6_isHadAgainst 42 = .ok (.invokevirtual 52, 3) := by decide +kernel
theorem dX6_isHadAgainst_45 : decode cX6_isHadAgainst 45 = .ok (.if_icmp .le 7, 3) := by decide +kernel
theorem dX6_isHadAgainst_48 : decode cX6_isHadAgainst 48 = .ok (.iconst 1, 1) := by decide +kernel
theorem dX6_isHadAgainst_49 : decode cX6_isHadAgainst 49 = .ok (.goto 4, 3) := by decide +kernel
theorem dX6_isHadAgainst_52 : decode cX6_isHadAgainst 52 = .ok (.iconst 0, 1) := by decide +kernel
theorem dX6_isHadAgainst_53 : decode cX6_isHadAgainst 53 = .ok (.ireturn, 1) := by decide +kernel
set_option maxHeartbeats 4000000 in
set_option maxRecDepth 20000 in
theorem en_X6_isHadAgainst {a1 : Int32} {a2 : Int32} {M : jw_Mem} {Q : Int32 → jw_Mem → Prop}  (h : (jw_M 1 mX8_walkersLiking [vr 8 0, vi a1] M (fun x1 M2 => (jw_M 1 mX8_walkersLiking [vr 8 0, vi a2] M2 (fun x3 M4 => (jw_M 1 mX1_votesOf [vr 1 0, vi (x1 &&& (x3 ^^^ (-1)))] M4 (fun x5 M6 => (jw_M 1 mX1_votesOf [vr 1 0, vi (x3 &&& (x1 ^^^ (-1)))] M6 (fun x7 M8 => ((x5 ≤ x7 → Q 0 M8) ∧ (¬ x5 ≤ x7 → Q 1 M8))))))))))) : jw_M 2 mX6_isHadAgainst [vr 6 0, vi a1, vi a2] M Q := by
  refine jw_M.of (by decide) (Nat.le_of_ble_eq_true rfl) ?_
  show jw_J 2 mX6_isHadAgainst 0 [(0, vr 6 0), (1, vi a1), (2, vi a2)] [] M Q
  refine jr_aload_n (pc := 0) dX6_isHadAgainst_0 rfl 0 rfl ?_
  refine jr_get (pc := 1) (v := vr 8 0) fg_X6_15 (by decide) rfl dX6_isHadAgainst_1 ?_
  refine jr_iload_n (pc := 4) dX6_isHadAgainst_4 rfl 1 rfl ?_
  refine jr_callV (pc := 5) (d' := 1) (mt' := mX8_walkersLiking) (k := 8) (n := 0) (As := [vi a1]) (st := []) fc_X6_61 (by decide) (by decide) (Nat.le_of_ble_eq_true rfl) rfl dX6_isHadAgainst_5 (jw_M.mono h (fun x1 M2 h => ?_))
  show jw_J 2 mX6_isHadAgainst 8 [(0, vr 6 0), (1, vi a1), (2, vi a2)] [vi x1] M2 Q
  refine jr_istore_n (pc := 8) (lv' := [(3, vi x1), (0, vr 6 0), (1, vi a1), (2, vi a2)]) dX6_isHadAgainst_8 rfl (by decide) rfl ?_
  refine jr_aload_n (pc := 9) dX6_isHadAgainst_9 rfl 1 rfl ?_
  refine jr_get (pc := 10) (v := vr 8 0) fg_X6_15 (by decide) rfl dX6_isHadAgainst_10 ?_
  refine jr_iload_n (pc := 13) dX6_isHadAgainst_13 rfl 3 rfl ?_
  refine jr_callV (pc := 14) (d' := 1) (mt' := mX8_walkersLiking) (k := 8) (n := 0) (As := [vi a2]) (st := []) fc_X6_61 (by decide) (by decide) (Nat.le_of_ble_eq_true rfl) rfl dX6_isHadAgainst_14 (jw_M.mono h (fun x3 M4 h => ?_))
  show jw_J 2 mX6_isHadAgainst 17 [(3, vi x1), (0, vr 6 0), (1, vi a1), (2, vi a2)] [vi x3] M4 Q
  refine jr_istore (pc := 17) (lv' := [(4, vi x3), (3, vi x1), (0, vr 6 0), (1, vi a1), (2, vi a2)]) dX6_isHadAgainst_17 (by decide) rfl ?_
  refine jr_aload_n (pc := 19) dX6_isHadAgainst_19 rfl 2 rfl ?_
  refine jr_get (pc := 20) (v := vr 1 0) fg_X6_9 (by decide) rfl dX6_isHadAgainst_20 ?_
  refine jr_iload_n (pc := 23) dX6_isHadAgainst_23 rfl 1 rfl ?_
  refine jr_iload (pc := 24) dX6_isHadAgainst_24 0 rfl ?_
  refine jr_iconst (pc := 26) (v := (-1)) dX6_isHadAgainst_26 (by decide) ?_
  refine jr_ixor (pc := 27) dX6_isHadAgainst_27 ?_
  refine jr_iand (pc := 28) dX6_isHadAgainst_28 ?_
  refine jr_callV (pc := 29) (d' := 1) (mt' := mX1_votesOf) (k := 1) (n := 0) (As := [vi (x1 &&& (x3 ^^^ (-1)))]) (st := []) fc_X6_52 (by decide) (by decide) (Nat.le_of_ble_eq_true rfl) rfl dX6_isHadAgainst_29 (jw_M.mono h (fun x5 M6 h => ?_))
  show jw_J 2 mX6_isHadAgainst 32 [(4, vi x3), (3, vi x1), (0, vr 6 0), (1, vi a1), (2, vi a2)] [vi x5] M6 Q
  refine jr_aload_n (pc := 32) dX6_isHadAgainst_32 rfl 2 rfl ?_
  refine jr_get (pc := 33) (v := vr 1 0) fg_X6_9 (by decide) rfl dX6_isHadAgainst_33 ?_
  refine jr_iload (pc := 36) dX6_isHadAgainst_36 0 rfl ?_
  refine jr_iload_n (pc := 38) dX6_isHadAgainst_38 rfl 1 rfl ?_
  refine jr_iconst (pc := 39) (v := (-1)) dX6_isHadAgainst_39 (by decide) ?_
  refine jr_ixor (pc := 40) dX6_isHadAgainst_40 ?_
  refine jr_iand (pc := 41) dX6_isHadAgainst_41 ?_
  refine jr_callV (pc := 42) (d' := 1) (mt' := mX1_votesOf) (k := 1) (n := 0) (As := [vi (x3 &&& (x1 ^^^ (-1)))]) (st := [vi x5]) fc_X6_52 (by decide) (by decide) (Nat.le_of_ble_eq_true rfl) rfl dX6_isHadAgainst_42 (jw_M.mono h (fun x7 M8 h => ?_))
  show jw_J 2 mX6_isHadAgainst 45 [(4, vi x3), (3, vi x1), (0, vr 6 0), (1, vi a1), (2, vi a2)] [vi x7, vi x5] M8 Q
  refine jr_icmp_le (pc := 45) (tgt := 52) dX6_isHadAgainst_45 (by decide) (fun c => ?_) (fun c => ?_)
  · replace h := h.1 c
    refine jr_iconst (pc := 52) (v := 0) dX6_isHadAgainst_52 (by decide) ?_
    exact jr_zret (pc := 53) rfl dX6_isHadAgainst_53 (Or.inl rfl) h
  · replace h := h.2 c
    refine jr_iconst (pc := 48) (v := 1) dX6_isHadAgainst_48 (by decide) ?_
    refine jr_goto (pc := 49) (tgt := 53) dX6_isHadAgainst_49 (by decide) ?_
    exact jr_zret (pc := 53) rfl dX6_isHadAgainst_53 (Or.inr rfl) h
theorem dX6_beloved_0 : decode cX6_beloved 0 = .ok (.iconst 0, 1) := by decide +kernel
theorem dX6_beloved_1 : decode cX6_beloved 1 = .ok (.istore_n 1, 1) := by decide +kernel
theorem dX6_beloved_2 : decode cX6_beloved 2 = .ok (.iload_n 1, 1) := by decide +kernel
theorem dX6_beloved_3 : decode cX6_beloved 3 = .ok (.aload_n 0, 1) := by decide +kernel
theorem dX6_beloved_4 : decode cX6_beloved 4 = .ok (.getfield 9, 3) := by decide +kernel
theorem dX6_beloved_7 : decode cX6_beloved 7 = .ok (.getfield 64, 3) := by decide +kernel
theorem dX6_beloved_10 : decode cX6_beloved 10 = .ok (.if_icmp .ge 19, 3) := by decide +kernel
theorem dX6_beloved_13 : decode cX6_beloved 13 = .ok (.aload_n 0, 1) := by decide +kernel
theorem dX6_beloved_14 : decode cX6_beloved 14 = .ok (.iload_n 1, 1) := by decide +kernel
theorem dX6_beloved_15 : decode cX6_beloved 15 = .ok (.invokevirtual 68, 3) := by decide +kernel
theorem dX6_beloved_18 : decode cX6_beloved 18 = .ok (.ifCond .eq 5, 3) := by decide +kernel
theorem dX6_beloved_21 : decode cX6_beloved 21 = .ok (.iload_n 1, 1) := by decide +kernel
theorem dX6_beloved_22 : decode cX6_beloved 22 = .ok (.ireturn, 1) := by decide +kernel
theorem dX6_beloved_23 : decode cX6_beloved 23 = .ok (.iinc 1 1, 3) := by decide +kernel
theorem dX6_beloved_26 : decode cX6_beloved 26 = .ok (.goto (-24), 3) := by decide +kernel
theorem dX6_beloved_29 : decode cX6_beloved 29 = .ok (.iconst (-1), 1) := by decide +kernel
theorem dX6_beloved_30 : decode cX6_beloved 30 = .ok (.ireturn, 1) := by decide +kernel
set_option maxHeartbeats 4000000 in
set_option maxRecDepth 20000 in
theorem en_X6_beloved {M : jw_Mem} {Q : Int32 → jw_Mem → Prop}  (h : jw_J 4 mX6_beloved 2 [(0, vr 6 0), (1, vi 0)] [] M Q) : jw_M 4 mX6_beloved [vr 6 0] M Q := by
  refine jw_M.of (by decide) (Nat.le_of_ble_eq_true rfl) ?_
  show jw_J 4 mX6_beloved 0 [(0, vr 6 0)] [] M Q
  refine jr_iconst (pc := 0) (v := 0) dX6_beloved_0 (by decide) ?_
  refine jr_istore_n (pc := 1) (lv' := [(1, vi 0), (0, vr 6 0)]) dX6_beloved_1 rfl (by decide) rfl ?_
  exact jr_sub [1, 0] rfl h
set_option maxHeartbeats 4000000 in
set_option maxRecDepth 20000 in
theorem bk_X6_beloved_2 {v1 : Int32} {M : jw_Mem} {Q : Int32 → jw_Mem → Prop}  (h : (((M 1 0 2) ≤ v1 → Q (-1) M) ∧ (¬ (M 1 0 2) ≤ v1 → (jw_M 3 mX6_isHadAgainstAll [vr 6 0, vi v1] M (fun x1 M2 => ((x1 = 0 → jw_J 4 mX6_beloved 2 [(0, vr 6 0), (1, vi (v1 + 1))] [] M2 Q) ∧ (¬ x1 = 0 → Q v1 M2))))))) : jw_J 4 mX6_beloved 2 [(0, vr 6 0), (1, vi v1)] [] M Q := by
  refine jr_iload_n (pc := 2) dX6_beloved_2 rfl 1 rfl ?_
  refine jr_aload_n (pc := 3) dX6_beloved_3 rfl 0 rfl ?_
  refine jr_get (pc := 4) (v := vr 1 0) fg_X6_9 (by decide) rfl dX6_beloved_4 ?_
  refine jr_get (pc := 7) (v := vi (M 1 0 2)) fg_X6_64 (by decide) rfl dX6_beloved_7 ?_
  refine jr_icmp_ge (pc := 10) (tgt := 29) dX6_beloved_10 (by decide) (fun c => ?_) (fun c => ?_)
  · replace h := h.1 c
    refine jr_iconst (pc := 29) (v := (-1)) dX6_beloved_29 (by decide) ?_
    exact jr_iret (pc := 30) rfl dX6_beloved_30 h
  · replace h := h.2 c
    refine jr_aload_n (pc := 13) dX6_beloved_13 rfl 0 rfl ?_
    refine jr_iload_n (pc := 14) dX6_beloved_14 rfl 1 rfl ?_
    refine jr_callV (pc := 15) (d' := 3) (mt' := mX6_isHadAgainstAll) (k := 6) (n := 0) (As := [vi v1]) (st := []) fc_X6_68 (by decide) (by decide) (Nat.le_of_ble_eq_true rfl) rfl dX6_beloved_15 (jw_M.mono h (fun x1 M2 h => ?_))
    show jw_J 4 mX6_beloved 18 [(0, vr 6 0), (1, vi v1)] [vi x1] M2 Q
    refine jr_if_eq (pc := 18) (tgt := 23) dX6_beloved_18 (by decide) (fun c => ?_) (fun c => ?_)
    · replace h := h.1 c
      refine jr_iinc (pc := 23) (lv' := [(1, vi (v1 + 1)), (0, vr 6 0)]) (q := 1) dX6_beloved_23 rfl (by rfl) (by decide) rfl ?_
      refine jr_goto (pc := 26) (tgt := 2) dX6_beloved_26 (by decide) ?_
      exact jr_sub [1, 0] rfl h
    · replace h := h.2 c
      refine jr_iload_n (pc := 21) dX6_beloved_21 rfl 1 rfl ?_
      exact jr_iret (pc := 22) rfl dX6_beloved_22 h
theorem dX6_isHadAgainstAll_0 : decode cX6_isHadAgainstAll 0 = .ok (.iconst 0, 1) := by decide +kernel
theorem dX6_isHadAgainstAll_1 : decode cX6_isHadAgainstAll 1 = .ok (.istore_n 2, 1) := by decide +kernel
theorem dX6_isHadAgainstAll_2 : decode cX6_isHadAgainstAll 2 = .ok (.iload_n 2, 1) := by decide +kernel
theorem dX6_isHadAgainstAll_3 : decode cX6_isHadAgainstAll 3 = .ok (.aload_n 0, 1) := by decide +kernel
theorem dX6_isHadAgainstAll_4 : decode cX6_isHadAgainstAll 4 = .ok (.getfield 9, 3) := by decide +kernel
theorem dX6_isHadAgainstAll_7 : decode cX6_isHadAgainstAll 7 = .ok (.getfield 64, 3) := by decide +kernel
theorem dX6_isHadAgainstAll_10 : decode cX6_isHadAgainstAll 10 = .ok (.if_icmp .ge 25, 3) := by decide +kernel
theorem dX6_isHadAgainstAll_13 : decode cX6_isHadAgainstAll 13 = .ok (.iload_n 2, 1) := by decide +kernel
theorem dX6_isHadAgainstAll_14 : decode cX6_isHadAgainstAll 14 = .ok (.iload_n 1, 1) := by decide +kernel
theorem dX6_isHadAgainstAll_15 : decode cX6_isHadAgainstAll 15 = .ok (.if_icmp .eq 14, 3) := by decide +kernel
theorem dX6_isHadAgainstAll_18 : decode cX6_isHadAgainstAll 18 = .ok (.aload_n 0, 1) := by decide +kernel
theorem dX6_isHadAgainstAll_19 : decode cX6_isHadAgainstAll 19 = .ok (.iload_n 1, 1) := by decide +kernel
theorem dX6_isHadAgainstAll_20 : decode cX6_isHadAgainstAll 20 = .ok (.iload_n 2, 1) := by decide +kernel
theorem dX6_isHadAgainstAll_21 : decode cX6_isHadAgainstAll 21 = .ok (.invokevirtual 71, 3) := by decide +kernel
theorem dX6_isHadAgainstAll_24 : decode cX6_isHadAgainstAll 24 = .ok (.ifCond .ne 5, 3) := by decide +kernel
theorem dX6_isHadAgainstAll_27 : decode cX6_isHadAgainstAll 27 = .ok (.iconst 0, 1) := by decide +kernel
theorem dX6_isHadAgainstAll_28 : decode cX6_isHadAgainstAll 28 = .ok (.ireturn, 1) := by decide +kernel
theorem dX6_isHadAgainstAll_29 : decode cX6_isHadAgainstAll 29 = .ok (.iinc 2 1, 3) := by decide +kernel
theorem dX6_isHadAgainstAll_32 : decode cX6_isHadAgainstAll 32 = .ok (.goto (-30), 3) := by decide +kernel
theorem dX6_isHadAgainstAll_35 : decode cX6_isHadAgainstAll 35 = .ok (.iconst 1, 1) := by decide +kernel
theorem dX6_isHadAgainstAll_36 : decode cX6_isHadAgainstAll 36 = .ok (.ireturn, 1) := by decide +kernel
set_option maxHeartbeats 4000000 in
set_option maxRecDepth 20000 in
theorem en_X6_isHadAgainstAll {a1 : Int32} {M : jw_Mem} {Q : Int32 → jw_Mem → Prop}  (h : jw_J 3 mX6_isHadAgainstAll 2 [(0, vr 6 0), (1, vi a1), (2, vi 0)] [] M Q) : jw_M 3 mX6_isHadAgainstAll [vr 6 0, vi a1] M Q := by
  refine jw_M.of (by decide) (Nat.le_of_ble_eq_true rfl) ?_
  show jw_J 3 mX6_isHadAgainstAll 0 [(0, vr 6 0), (1, vi a1)] [] M Q
  refine jr_iconst (pc := 0) (v := 0) dX6_isHadAgainstAll_0 (by decide) ?_
  refine jr_istore_n (pc := 1) (lv' := [(2, vi 0), (0, vr 6 0), (1, vi a1)]) dX6_isHadAgainstAll_1 rfl (by decide) rfl ?_
  exact jr_sub [1, 2, 0] rfl h
set_option maxHeartbeats 4000000 in
set_option maxRecDepth 20000 in
theorem bk_X6_isHadAgainstAll_2 {v1 : Int32} {v2 : Int32} {M : jw_Mem} {Q : Int32 → jw_Mem → Prop}  (h : (((M 1 0 2) ≤ v2 → Q 1 M) ∧ (¬ (M 1 0 2) ≤ v2 → ((v2 = v1 → jw_J 3 mX6_isHadAgainstAll 2 [(0, vr 6 0), (1, vi v1), (2, vi (v2 + 1))] [] M Q) ∧ (¬ v2 = v1 → (jw_M 2 mX6_isHadAgainst [vr 6 0, vi v1, vi v2] M (fun x1 M2 => ((¬ x1 = 0 → jw_J 3 mX6_isHadAgainstAll 2 [(0, vr 6 0), (1, vi v1), (2, vi (v2 + 1))] [] M2 Q) ∧ (x1 = 0 → Q 0 M2))))))))) : jw_J 3 mX6_isHadAgainstAll 2 [(0, vr 6 0), (1, vi v1), (2, vi v2)] [] M Q := by
  refine jr_iload_n (pc := 2) dX6_isHadAgainstAll_2 rfl 2 rfl ?_
  refine jr_aload_n (pc := 3) dX6_isHadAgainstAll_3 rfl 0 rfl ?_
  refine jr_get (pc := 4) (v := vr 1 0) fg_X6_9 (by decide) rfl dX6_isHadAgainstAll_4 ?_
  refine jr_get (pc := 7) (v := vi (M 1 0 2)) fg_X6_64 (by decide) rfl dX6_isHadAgainstAll_7 ?_
  refine jr_icmp_ge (pc := 10) (tgt := 35) dX6_isHadAgainstAll_10 (by decide) (fun c => ?_) (fun c => ?_)
  · replace h := h.1 c
    refine jr_iconst (pc := 35) (v := 1) dX6_isHadAgainstAll_35 (by decide) ?_
    exact jr_zret (pc := 36) rfl dX6_isHadAgainstAll_36 (Or.inr rfl) h
  · replace h := h.2 c
    refine jr_iload_n (pc := 13) dX6_isHadAgainstAll_13 rfl 2 rfl ?_
    refine jr_iload_n (pc := 14) dX6_isHadAgainstAll_14 rfl 1 rfl ?_
    refine jr_icmp_eq (pc := 15) (tgt := 29) dX6_isHadAgainstAll_15 (by decide) (fun c => ?_) (fun c => ?_)
    · replace h := h.1 c
      refine jr_iinc (pc := 29) (lv' := [(2, vi (v2 + 1)), (0, vr 6 0), (1, vi v1)]) (q := 2) dX6_isHadAgainstAll_29 rfl (by rfl) (by decide) rfl ?_
      refine jr_goto (pc := 32) (tgt := 2) dX6_isHadAgainstAll_32 (by decide) ?_
      exact jr_sub [1, 2, 0] rfl h
    · replace h := h.2 c
      refine jr_aload_n (pc := 18) dX6_isHadAgainstAll_18 rfl 0 rfl ?_
      refine jr_iload_n (pc := 19) dX6_isHadAgainstAll_19 rfl 1 rfl ?_
      refine jr_iload_n (pc := 20) dX6_isHadAgainstAll_20 rfl 2 rfl ?_
      refine jr_callV (pc := 21) (d' := 2) (mt' := mX6_isHadAgainst) (k := 6) (n := 0) (As := [vi v1, vi v2]) (st := []) fc_X6_71 (by decide) (by decide) (Nat.le_of_ble_eq_true rfl) rfl dX6_isHadAgainstAll_21 (jw_M.mono h (fun x1 M2 h => ?_))
      show jw_J 3 mX6_isHadAgainstAll 24 [(0, vr 6 0), (1, vi v1), (2, vi v2)] [vi x1] M2 Q
      refine jr_if_ne (pc := 24) (tgt := 29) dX6_isHadAgainstAll_24 (by decide) (fun c => ?_) (fun c => ?_)
      · replace h := h.1 c
        refine jr_iinc (pc := 29) (lv' := [(2, vi (v2 + 1)), (0, vr 6 0), (1, vi v1)]) (q := 2) dX6_isHadAgainstAll_29 rfl (by rfl) (by decide) rfl ?_
        refine jr_goto (pc := 32) (tgt := 2) dX6_isHadAgainstAll_32 (by decide) ?_
        exact jr_sub [1, 2, 0] rfl h
      · replace h := h.2 c
        refine jr_iconst (pc := 27) (v := 0) dX6_isHadAgainstAll_27 (by decide) ?_
        exact jr_zret (pc := 28) rfl dX6_isHadAgainstAll_28 (Or.inl rfl) h
theorem dX6_rings_0 : decode cX6_rings 0 = .ok (.iconst 0, 1) := by decide +kernel
theorem dX6_rings_1 : decode cX6_rings 1 = .ok (.istore_n 1, 1) := by decide +kernel
theorem dX6_rings_2 : decode cX6_rings 2 = .ok (.iconst 0, 1) := by decide +kernel
theorem dX6_rings_3 : decode cX6_rings 3 = .ok (.istore_n 2, 1) := by decide +kernel
theorem dX6_rings_4 : decode cX6_rings 4 = .ok (.iload_n 2, 1) := by decide +kernel
theorem dX6_rings_5 : decode cX6_rings 5 = .ok (.aload_n 0, 1) := by decide +kernel
theorem dX6_rings_6 : decode cX6_rings 6 = .ok (.getfield 9, 3) := by decide +kernel
theorem dX6_rings_9 : decode cX6_rings 9 = .ok (.getfield 64, 3) := by decide +kernel
theorem dX6_rings_12 : decode cX6_rings 12 = .ok (.if_icmp .ge 78, 3) := by decide +kernel
theorem dX6_rings_15 : decode cX6_rings 15 = .ok (.iload_n 2, 1) := by decide +kernel
theorem dX6_rings_16 : decode cX6_rings 16 = .ok (.iconst 1, 1) := by decide +kernel
theorem dX6_rings_17 : decode cX6_rings 17 = .ok (.iadd, 1) := by decide +kernel
theorem dX6_rings_18 : decode cX6_rings 18 = .ok (.istore_n 3, 1) := by decide +kernel
theorem dX6_rings_19 : decode cX6_rings 19 = .ok (.iload_n 3, 1) := by decide +kernel
theorem dX6_rings_20 : decode cX6_rings 20 = .ok (.aload_n 0, 1) := by decide +kernel
theorem dX6_rings_21 : decode cX6_rings 21 = .ok (.getfield 9, 3) := by decide +kernel
theorem dX6_rings_24 : decode cX6_rings 24 = .ok (.getfield 64, 3) := by decide +kernel
theorem dX6_rings_27 : decode cX6_rings 27 = .ok (.if_icmp .ge 57, 3) := by decide +kernel
theorem dX6_rings_30 : decode cX6_rings 30 = .ok (.iload_n 3, 1) := by decide +kernel
theorem dX6_rings_31 : decode cX6_rings 31 = .ok (.iconst 1, 1) := by decide +kernel
theorem dX6_rings_32 : decode cX6_rings 32 = .ok (.iadd, 1) := by decide +kernel
theorem dX6_rings_33 : decode cX6_rings 33 = .ok (.istore 4, 2) := by decide +kernel
theorem dX6_rings_35 : decode cX6_rings 35 = .ok (.iload 4, 2) := by decide +kernel
theorem dX6_rings_37 : decode cX6_rings 37 = .ok (.aload_n 0, 1) := by decide +kernel
theorem dX6_rings_38 : decode cX6_rings 38 = .ok (.getfield 9, 3) := by decide +kernel
theorem dX6_rings_41 : decode cX6_rings 41 = .ok (.getfield 64, 3) := by decide +kernel
theorem dX6_rings_44 : decode cX6_rings 44 = .ok (.if_icmp .ge 34, 3) := by decide +kernel
theorem dX6_rings_47 : decode cX6_rings 47 = .ok (.aload_n 0, 1) := by decide +kernel
theorem dX6_rings_48 : decode cX6_rings 48 = .ok (.iload_n 2, 1) := by decide +kernel
theorem dX6_rings_49 : decode cX6_rings 49 = .ok (.iload_n 3, 1) := by decide +kernel
theorem dX6_rings_50 : decode cX6_rings 50 = .ok (.iload 4, 2) := by decide +kernel
theorem dX6_rings_52 : decode cX6_rings 52 = .ok (.invokevirtual 74, 3) := by decide +kernel
theorem dX6_rings_55 : decode cX6_rings 55 = .ok (.ifCond .ne 14, 3) := by decide +kernel
theorem dX6_rings_58 : decode cX6_rings 58 = .ok (.aload_n 0, 1) := by decide +kernel
theorem dX6_rings_59 : decode cX6_rings 59 = .ok (.iload_n 2, 1) := by decide +kernel
theorem dX6_rings_60 : decode cX6_rings 60 = .ok (.iload 4, 2) := by decide +kernel
theorem dX6_rings_62 : decode cX6_rings 62 = .ok (.iload_n 3, 1) := by decide +kernel
theorem dX6_rings_63 : decode cX6_rings 63 = .ok (.invokevirtual 74, 3) := by decide +kernel
theorem dX6_rings_66 : decode cX6_rings 66 = .ok (.ifCond .eq 6, 3) := by decide +kernel
theorem dX6_rings_69 : decode cX6_rings 69 = .ok (.iinc 1 1, 3) := by decide +kernel
theorem dX6_rings_72 : decode cX6_rings 72 = .ok (.iinc 4 1, 3) := by decide +kernel
theorem dX6_rings_75 : decode cX6_rings 75 = .ok (.goto (-40), 3) := by decide +kernel
theorem dX6_rings_78 : decode cX6_rings 78 = .ok (.iinc 3 1, 3) := by decide +kernel
theorem dX6_rings_81 : decode cX6_rings 81 = .ok (.goto (-62), 3) := by decide +kernel
theorem dX6_rings_84 : decode cX6_rings 84 = .ok (.iinc 2 1, 3) := by decide +kernel
theorem dX6_rings_87 : decode cX6_rings 87 = .ok (.goto (-83), 3) := by decide +kernel
theorem dX6_rings_90 : decode cX6_rings 90 = .ok (.iload_n 1, 1) := by decide +kernel
theorem dX6_rings_91 : decode cX6_rings 91 = .ok (.ireturn, 1) := by decide +kernel
set_option maxHeartbeats 4000000 in
set_option maxRecDepth 20000 in
theorem en_X6_rings {M : jw_Mem} {Q : Int32 → jw_Mem → Prop}  (h : jw_J 4 mX6_rings 4 [(0, vr 6 0), (1, vi 0), (2, vi 0)] [] M Q) : jw_M 4 mX6_rings [vr 6 0] M Q := by
  refine jw_M.of (by decide) (Nat.le_of_ble_eq_true rfl) ?_
  show jw_J 4 mX6_rings 0 [(0, vr 6 0)] [] M Q
  refine jr_iconst (pc := 0) (v := 0) dX6_rings_0 (by decide) ?_
  refine jr_istore_n (pc := 1) (lv' := [(1, vi 0), (0, vr 6 0)]) dX6_rings_1 rfl (by decide) rfl ?_
  refine jr_iconst (pc := 2) (v := 0) dX6_rings_2 (by decide) ?_
  refine jr_istore_n (pc := 3) (lv' := [(2, vi 0), (1, vi 0), (0, vr 6 0)]) dX6_rings_3 rfl (by decide) rfl ?_
  exact jr_sub [2, 1, 0] rfl h
set_option maxHeartbeats 4000000 in
set_option maxRecDepth 20000 in
theorem bk_X6_rings_4 {v1 : Int32} {v2 : Int32} {M : jw_Mem} {Q : Int32 → jw_Mem → Prop}  (h : (((M 1 0 2) ≤ v2 → Q v1 M) ∧ (¬ (M 1 0 2) ≤ v2 → jw_J 4 mX6_rings 19 [(0, vr 6 0), (1, vi v1), (2, vi v2), (3, vi (v2 + 1))] [] M Q))) : jw_J 4 mX6_rings 4 [(0, vr 6 0), (1, vi v1), (2, vi v2)] [] M Q := by
  refine jr_iload_n (pc := 4) dX6_rings_4 rfl 2 rfl ?_
  refine jr_aload_n (pc := 5) dX6_rings_5 rfl 0 rfl ?_
  refine jr_get (pc := 6) (v := vr 1 0) fg_X6_9 (by decide) rfl dX6_rings_6 ?_
  refine jr_get (pc := 9) (v := vi (M 1 0 2)) fg_X6_64 (by decide) rfl dX6_rings_9 ?_
  refine jr_icmp_ge (pc := 12) (tgt := 90) dX6_rings_12 (by decide) (fun c => ?_) (fun c => ?_)
  · replace h := h.1 c
    refine jr_iload_n (pc := 90) dX6_rings_90 rfl 1 rfl ?_
    exact jr_iret (pc := 91) rfl dX6_rings_91 h
  · replace h := h.2 c
    refine jr_iload_n (pc := 15) dX6_rings_15 rfl 2 rfl ?_
    refine jr_iconst (pc := 16) (v := 1) dX6_rings_16 (by decide) ?_
    refine jr_iadd (pc := 17) dX6_rings_17 ?_
    refine jr_istore_n (pc := 18) (lv' := [(3, vi (v2 + 1)), (0, vr 6 0), (1, vi v1), (2, vi v2)]) dX6_rings_18 rfl (by decide) rfl ?_
    exact jr_sub [1, 2, 3, 0] rfl h
set_option maxHeartbeats 4000000 in
set_option maxRecDepth 20000 in
theorem bk_X6_rings_19 {v1 : Int32} {v2 : Int32} {v3 : Int32} {M : jw_Mem} {Q : Int32 → jw_Mem → Prop}  (h : (((M 1 0 2) ≤ v3 → jw_J 4 mX6_rings 4 [(0, vr 6 0), (1, vi v1), (2, vi (v2 + 1))] [] M Q) ∧ (¬ (M 1 0 2) ≤ v3 → jw_J 4 mX6_rings 35 [(0, vr 6 0), (1, vi v1), (2, vi v2), (3, vi v3), (4, vi (v3 + 1))] [] M Q))) : jw_J 4 mX6_rings 19 [(0, vr 6 0), (1, vi v1), (2, vi v2), (3, vi v3)] [] M Q := by
  refine jr_iload_n (pc := 19) dX6_rings_19 rfl 3 rfl ?_
  refine jr_aload_n (pc := 20) dX6_rings_20 rfl 0 rfl ?_
  refine jr_get (pc := 21) (v := vr 1 0) fg_X6_9 (by decide) rfl dX6_rings_21 ?_
  refine jr_get (pc := 24) (v := vi (M 1 0 2)) fg_X6_64 (by decide) rfl dX6_rings_24 ?_
  refine jr_icmp_ge (pc := 27) (tgt := 84) dX6_rings_27 (by decide) (fun c => ?_) (fun c => ?_)
  · replace h := h.1 c
    refine jr_iinc (pc := 84) (lv' := [(2, vi (v2 + 1)), (0, vr 6 0), (1, vi v1), (3, vi v3)]) (q := 2) dX6_rings_84 rfl (by rfl) (by decide) rfl ?_
    refine jr_goto (pc := 87) (tgt := 4) dX6_rings_87 (by decide) ?_
    exact jr_sub [1, 2, 0] rfl h
  · replace h := h.2 c
    refine jr_iload_n (pc := 30) dX6_rings_30 rfl 3 rfl ?_
    refine jr_iconst (pc := 31) (v := 1) dX6_rings_31 (by decide) ?_
    refine jr_iadd (pc := 32) dX6_rings_32 ?_
    refine jr_istore (pc := 33) (lv' := [(4, vi (v3 + 1)), (0, vr 6 0), (1, vi v1), (2, vi v2), (3, vi v3)]) dX6_rings_33 (by decide) rfl ?_
    exact jr_sub [1, 2, 3, 4, 0] rfl h
set_option maxHeartbeats 4000000 in
set_option maxRecDepth 20000 in
theorem bk_X6_rings_35 {v1 : Int32} {v2 : Int32} {v3 : Int32} {v4 : Int32} {M : jw_Mem} {Q : Int32 → jw_Mem → Prop}  (h : (((M 1 0 2) ≤ v4 → jw_J 4 mX6_rings 19 [(0, vr 6 0), (1, vi v1), (2, vi v2), (3, vi (v3 + 1))] [] M Q) ∧ (¬ (M 1 0 2) ≤ v4 → (jw_M 3 mX6_goesRound [vr 6 0, vi v2, vi v3, vi v4] M (fun x1 M2 => ((¬ x1 = 0 → jw_J 4 mX6_rings 35 [(0, vr 6 0), (1, vi (v1 + 1)), (2, vi v2), (3, vi v3), (4, vi (v4 + 1))] [] M2 Q) ∧ (x1 = 0 → (jw_M 3 mX6_goesRound [vr 6 0, vi v2, vi v4, vi v3] M2 (fun x3 M4 => ((x3 = 0 → jw_J 4 mX6_rings 35 [(0, vr 6 0), (1, vi v1), (2, vi v2), (3, vi v3), (4, vi (v4 + 1))] [] M4 Q) ∧ (¬ x3 = 0 → jw_J 4 mX6_rings 35 [(0, vr 6 0), (1, vi (v1 + 1)), (2, vi v2), (3, vi v3), (4, vi (v4 + 1))] [] M4 Q))))))))))) : jw_J 4 mX6_rings 35 [(0, vr 6 0), (1, vi v1), (2, vi v2), (3, vi v3), (4, vi v4)] [] M Q := by
  refine jr_iload (pc := 35) dX6_rings_35 4 rfl ?_
  refine jr_aload_n (pc := 37) dX6_rings_37 rfl 0 rfl ?_
  refine jr_get (pc := 38) (v := vr 1 0) fg_X6_9 (by decide) rfl dX6_rings_38 ?_
  refine jr_get (pc := 41) (v := vi (M 1 0 2)) fg_X6_64 (by decide) rfl dX6_rings_41 ?_
  refine jr_icmp_ge (pc := 44) (tgt := 78) dX6_rings_44 (by decide) (fun c => ?_) (fun c => ?_)
  · replace h := h.1 c
    refine jr_iinc (pc := 78) (lv' := [(3, vi (v3 + 1)), (0, vr 6 0), (1, vi v1), (2, vi v2), (4, vi v4)]) (q := 3) dX6_rings_78 rfl (by rfl) (by decide) rfl ?_
    refine jr_goto (pc := 81) (tgt := 19) dX6_rings_81 (by decide) ?_
    exact jr_sub [1, 2, 3, 0] rfl h
  · replace h := h.2 c
    refine jr_aload_n (pc := 47) dX6_rings_47 rfl 0 rfl ?_
    refine jr_iload_n (pc := 48) dX6_rings_48 rfl 2 rfl ?_
    refine jr_iload_n (pc := 49) dX6_rings_49 rfl 3 rfl ?_
    refine jr_iload (pc := 50) dX6_rings_50 4 rfl ?_
    refine jr_callV (pc := 52) (d' := 3) (mt' := mX6_goesRound) (k := 6) (n := 0) (As := [vi v2, vi v3, vi v4]) (st := []) fc_X6_74 (by decide) (by decide) (Nat.le_of_ble_eq_true rfl) rfl dX6_rings_52 (jw_M.mono h (fun x1 M2 h => ?_))
    show jw_J 4 mX6_rings 55 [(0, vr 6 0), (1, vi v1), (2, vi v2), (3, vi v3), (4, vi v4)] [vi x1] M2 Q
    refine jr_if_ne (pc := 55) (tgt := 69) dX6_rings_55 (by decide) (fun c => ?_) (fun c => ?_)
    · replace h := h.1 c
      refine jr_iinc (pc := 69) (lv' := [(1, vi (v1 + 1)), (0, vr 6 0), (2, vi v2), (3, vi v3), (4, vi v4)]) (q := 1) dX6_rings_69 rfl (by rfl) (by decide) rfl ?_
      refine jr_iinc (pc := 72) (lv' := [(4, vi (v4 + 1)), (1, vi (v1 + 1)), (0, vr 6 0), (2, vi v2), (3, vi v3)]) (q := 4) dX6_rings_72 rfl (by rfl) (by decide) rfl ?_
      refine jr_goto (pc := 75) (tgt := 35) dX6_rings_75 (by decide) ?_
      exact jr_sub [2, 1, 3, 4, 0] rfl h
    · replace h := h.2 c
      refine jr_aload_n (pc := 58) dX6_rings_58 rfl 0 rfl ?_
      refine jr_iload_n (pc := 59) dX6_rings_59 rfl 2 rfl ?_
      refine jr_iload (pc := 60) dX6_rings_60 4 rfl ?_
      refine jr_iload_n (pc := 62) dX6_rings_62 rfl 3 rfl ?_
      refine jr_callV (pc := 63) (d' := 3) (mt' := mX6_goesRound) (k := 6) (n := 0) (As := [vi v2, vi v4, vi v3]) (st := []) fc_X6_74 (by decide) (by decide) (Nat.le_of_ble_eq_true rfl) rfl dX6_rings_63 (jw_M.mono h (fun x3 M4 h => ?_))
      show jw_J 4 mX6_rings 66 [(0, vr 6 0), (1, vi v1), (2, vi v2), (3, vi v3), (4, vi v4)] [vi x3] M4 Q
      refine jr_if_eq (pc := 66) (tgt := 72) dX6_rings_66 (by decide) (fun c => ?_) (fun c => ?_)
      · replace h := h.1 c
        refine jr_iinc (pc := 72) (lv' := [(4, vi (v4 + 1)), (0, vr 6 0), (1, vi v1), (2, vi v2), (3, vi v3)]) (q := 4) dX6_rings_72 rfl (by rfl) (by decide) rfl ?_
        refine jr_goto (pc := 75) (tgt := 35) dX6_rings_75 (by decide) ?_
        exact jr_sub [1, 2, 3, 4, 0] rfl h
      · replace h := h.2 c
        refine jr_iinc (pc := 69) (lv' := [(1, vi (v1 + 1)), (0, vr 6 0), (2, vi v2), (3, vi v3), (4, vi v4)]) (q := 1) dX6_rings_69 rfl (by rfl) (by decide) rfl ?_
        refine jr_iinc (pc := 72) (lv' := [(4, vi (v4 + 1)), (1, vi (v1 + 1)), (0, vr 6 0), (2, vi v2), (3, vi v3)]) (q := 4) dX6_rings_72 rfl (by rfl) (by decide) rfl ?_
        refine jr_goto (pc := 75) (tgt := 35) dX6_rings_75 (by decide) ?_
        exact jr_sub [2, 1, 3, 4, 0] rfl h
theorem dX6_goesRound_0 : decode cX6_goesRound 0 = .ok (.aload_n 0, 1) := by decide +kernel
theorem dX6_goesRound_1 : decode cX6_goesRound 1 = .ok (.iload_n 1, 1) := by decide +kernel
theorem dX6_goesRound_2 : decode cX6_goesRound 2 = .ok (.iload_n 2, 1) := by decide +kernel
theorem dX6_goesRound_3 : decode cX6_goesRound 3 = .ok (.invokevirtual 71, 3) := by decide +kernel
theorem dX6_goesRound_6 : decode cX6_goesRound 6 = .ok (.ifCond .eq 25, 3) := by decide +kernel
theorem dX6_goesRound_9 : decode cX6_goesRound 9 = .ok (.aload_n 0, 1) := by decide +kernel
theorem dX6_goesRound_10 : decode cX6_goesRound 10 = .ok (.iload_n 2, 1) := by decide +kernel
theorem dX6_goesRound_11 : decode cX6_goesRound 11 = .ok (.iload_n 3, 1) := by decide +kernel
theorem dX6_goesRound_12 : decode cX6_goesRound 12 = .ok (.invokevirtual 71, 3) := by decide +kernel
theorem dX6_goesRound_15 : decode cX6_goesRound 15 = .ok (.ifCond .eq 16, 3) := by decide +kernel
theorem dX6_goesRound_18 : decode cX6_goesRound 18 = .ok (.aload_n 0, 1) := by decide +kernel
theorem dX6_goesRound_19 : decode cX6_goesRound 19 = .ok (.iload_n 3, 1) := by decide +kernel
theorem dX6_goesRound_20 : decode cX6_goesRound 20 = .ok (.iload_n 1, 1) := by decide +kernel
theorem dX6_goesRound_21 : decode cX6_goesRound 21 = .ok (.invokevirtual 71, 3) := by decide +kernel
theorem dX6_goesRound_24 : decode cX6_goesRound 24 = .ok (.ifCond .eq 7, 3) := by decide +kernel
theorem dX6_goesRound_27 : decode cX6_goesRound 27 = .ok (.iconst 1, 1) := by decide +kernel
theorem dX6_goesRound_28 : decode cX6_goesRound 28 = .ok (.goto 4, 3) := by decide +kernel
theorem dX6_goesRound_31 : decode cX6_goesRound 31 = .ok (.iconst 0, 1) := by decide +kernel
theorem dX6_goesRound_32 : decode cX6_goesRound 32 = .ok (.ireturn, 1) := by decide +kernel
set_option maxHeartbeats 4000000 in
set_option maxRecDepth 20000 in
theorem en_X6_goesRound {a1 : Int32} {a2 : Int32} {a3 : Int32} {M : jw_Mem} {Q : Int32 → jw_Mem → Prop}  (h : (jw_M 2 mX6_isHadAgainst [vr 6 0, vi a1, vi a2] M (fun x1 M2 => ((x1 = 0 → Q 0 M2) ∧ (¬ x1 = 0 → (jw_M 2 mX6_isHadAgainst [vr 6 0, vi a2, vi a3] M2 (fun x3 M4 => ((x3 = 0 → Q 0 M4) ∧ (¬ x3 = 0 → (jw_M 2 mX6_isHadAgainst [vr 6 0, vi a3, vi a1] M4 (fun x5 M6 => ((x5 = 0 → Q 0 M6) ∧ (¬ x5 = 0 → Q 1 M6))))))))))))) : jw_M 3 mX6_goesRound [vr 6 0, vi a1, vi a2, vi a3] M Q := by
  refine jw_M.of (by decide) (Nat.le_of_ble_eq_true rfl) ?_
  show jw_J 3 mX6_goesRound 0 [(0, vr 6 0), (1, vi a1), (2, vi a2), (3, vi a3)] [] M Q
  refine jr_aload_n (pc := 0) dX6_goesRound_0 rfl 0 rfl ?_
  refine jr_iload_n (pc := 1) dX6_goesRound_1 rfl 1 rfl ?_
  refine jr_iload_n (pc := 2) dX6_goesRound_2 rfl 2 rfl ?_
  refine jr_callV (pc := 3) (d' := 2) (mt' := mX6_isHadAgainst) (k := 6) (n := 0) (As := [vi a1, vi a2]) (st := []) fc_X6_71 (by decide) (by decide) (Nat.le_of_ble_eq_true rfl) rfl dX6_goesRound_3 (jw_M.mono h (fun x1 M2 h => ?_))
  show jw_J 3 mX6_goesRound 6 [(0, vr 6 0), (1, vi a1), (2, vi a2), (3, vi a3)] [vi x1] M2 Q
  refine jr_if_eq (pc := 6) (tgt := 31) dX6_goesRound_6 (by decide) (fun c => ?_) (fun c => ?_)
  · replace h := h.1 c
    refine jr_iconst (pc := 31) (v := 0) dX6_goesRound_31 (by decide) ?_
    exact jr_zret (pc := 32) rfl dX6_goesRound_32 (Or.inl rfl) h
  · replace h := h.2 c
    refine jr_aload_n (pc := 9) dX6_goesRound_9 rfl 0 rfl ?_
    refine jr_iload_n (pc := 10) dX6_goesRound_10 rfl 2 rfl ?_
    refine jr_iload_n (pc := 11) dX6_goesRound_11 rfl 3 rfl ?_
    refine jr_callV (pc := 12) (d' := 2) (mt' := mX6_isHadAgainst) (k := 6) (n := 0) (As := [vi a2, vi a3]) (st := []) fc_X6_71 (by decide) (by decide) (Nat.le_of_ble_eq_true rfl) rfl dX6_goesRound_12 (jw_M.mono h (fun x3 M4 h => ?_))
    show jw_J 3 mX6_goesRound 15 [(0, vr 6 0), (1, vi a1), (2, vi a2), (3, vi a3)] [vi x3] M4 Q
    refine jr_if_eq (pc := 15) (tgt := 31) dX6_goesRound_15 (by decide) (fun c => ?_) (fun c => ?_)
    · replace h := h.1 c
      refine jr_iconst (pc := 31) (v := 0) dX6_goesRound_31 (by decide) ?_
      exact jr_zret (pc := 32) rfl dX6_goesRound_32 (Or.inl rfl) h
    · replace h := h.2 c
      refine jr_aload_n (pc := 18) dX6_goesRound_18 rfl 0 rfl ?_
      refine jr_iload_n (pc := 19) dX6_goesRound_19 rfl 3 rfl ?_
      refine jr_iload_n (pc := 20) dX6_goesRound_20 rfl 1 rfl ?_
      refine jr_callV (pc := 21) (d' := 2) (mt' := mX6_isHadAgainst) (k := 6) (n := 0) (As := [vi a3, vi a1]) (st := []) fc_X6_71 (by decide) (by decide) (Nat.le_of_ble_eq_true rfl) rfl dX6_goesRound_21 (jw_M.mono h (fun x5 M6 h => ?_))
      show jw_J 3 mX6_goesRound 24 [(0, vr 6 0), (1, vi a1), (2, vi a2), (3, vi a3)] [vi x5] M6 Q
      refine jr_if_eq (pc := 24) (tgt := 31) dX6_goesRound_24 (by decide) (fun c => ?_) (fun c => ?_)
      · replace h := h.1 c
        refine jr_iconst (pc := 31) (v := 0) dX6_goesRound_31 (by decide) ?_
        exact jr_zret (pc := 32) rfl dX6_goesRound_32 (Or.inl rfl) h
      · replace h := h.2 c
        refine jr_iconst (pc := 27) (v := 1) dX6_goesRound_27 (by decide) ?_
        refine jr_goto (pc := 28) (tgt := 32) dX6_goesRound_28 (by decide) ?_
        exact jr_zret (pc := 32) rfl dX6_goesRound_32 (Or.inr rfl) h
