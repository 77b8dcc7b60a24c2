theorem dX10_feed_0 : decode cX10_feed 0 = .ok (.iload_n 1, 1) := by decide +kernel
theorem dX10_feed_1 : decode cX10_feed 1 = .ok (.ifCond .lt 10, 3) := by decide +kernel
theorem dX10_feed_4 : decode cX10_feed 4 = .ok (.iload_n 1, 1) := by decide +kernel
theorem dX10_feed_5 : decode cX10_feed 5 = .ok (.sipush 255, 3) := by decide +kernel
theorem dX10_feed_8 : decode cX10_feed 8 = .ok (.if_icmp .le 6, 3) := by decide +kernel
theorem dX10_feed_11 : decode cX10_feed 11 = .ok (.ldc 88, 2) := by decide +kernel
theorem dX10_feed_13 : decode cX10_feed 13 = .ok (.ireturn, 1) := by decide +kernel
theorem dX10_feed_14 : decode cX10_feed 14 = .ok (.aload_n 0, 1) := by decide +kernel
theorem dX10_feed_15 : decode cX10_feed 15 = .ok (.getfield 18, 3) := by decide +kernel
theorem dX10_feed_18 : decode cX10_feed 18 = .ok (.iload_n 1, 1) := by decide +kernel
theorem dX10_feed_19 : decode cX10_feed 19 = .ok (.invokevirtual 89, 3) := by decide +kernel
theorem dX10_feed_22 : decode cX10_feed 22 = .ok (.ifCond .eq 13, 3) := by decide +kernel
theorem dX10_feed_25 : decode cX10_feed 25 = .ok (.aload_n 0, 1) := by decide +kernel
theorem dX10_feed_26 : decode cX10_feed 26 = .ok (.getfield 18, 3) := by decide +kernel
theorem dX10_feed_29 : decode cX10_feed 29 = .ok (.getfield 93, 3) := by decide +kernel
theorem dX10_feed_32 : decode cX10_feed 32 = .ok (.goto 5, 3) := by decide +kernel
theorem dX10_feed_35 : decode cX10_feed 35 = .ok (.ldc 97, 2) := by decide +kernel
theorem dX10_feed_37 : decode cX10_feed 37 = .ok (.ireturn, 1) := by decide +kernel
set_option maxHeartbeats 4000000 in
set_option maxRecDepth 20000 in
theorem en_X10_feed {a1 : Int32} {M : jw_Mem} {Q : Int32 → jw_Mem → Prop}  (h : ((a1 < 0 → Q (-1000000002) M) ∧ (¬ a1 < 0 → ((a1 ≤ 255 → (jw_M 0 mX7_append [vr 7 0, vi a1] M (fun x1 M2 => ((x1 = 0 → Q (-1000000004) M2) ∧ (¬ x1 = 0 → Q (M2 7 0 2) M2))))) ∧ (¬ a1 ≤ 255 → Q (-1000000002) M))))) : jw_M 1 mX10_feed [vr 10 0, vi a1] M Q := by
  refine jw_M.of (by decide) (Nat.le_of_ble_eq_true rfl) ?_
  show jw_J 1 mX10_feed 0 [(0, vr 10 0), (1, vi a1)] [] M Q
  refine jr_iload_n (pc := 0) dX10_feed_0 rfl 1 rfl ?_
  refine jr_if_lt (pc := 1) (tgt := 11) dX10_feed_1 (by decide) (fun c => ?_) (fun c => ?_)
  · replace h := h.1 c
    refine jr_ldc (pc := 11) fk_X10_88 dX10_feed_11 ?_
    exact jr_iret (pc := 13) rfl dX10_feed_13 h
  · replace h := h.2 c
    refine jr_iload_n (pc := 4) dX10_feed_4 rfl 1 rfl ?_
    refine jr_sipush (pc := 5) (v := 255) dX10_feed_5 (by decide) ?_
    refine jr_icmp_le (pc := 8) (tgt := 14) dX10_feed_8 (by decide) (fun c => ?_) (fun c => ?_)
    · replace h := h.1 c
      refine jr_aload_n (pc := 14) dX10_feed_14 rfl 0 rfl ?_
      refine jr_get (pc := 15) (v := vr 7 0) fg_X10_18 (by decide) rfl dX10_feed_15 ?_
      refine jr_iload_n (pc := 18) dX10_feed_18 rfl 1 rfl ?_
      refine jr_callV (pc := 19) (d' := 0) (mt' := mX7_append) (k := 7) (n := 0) (As := [vi a1]) (st := []) fc_X10_89 (by decide) (by decide) (Nat.le_of_ble_eq_true rfl) rfl dX10_feed_19 (jw_M.mono h (fun x1 M2 h => ?_))
      show jw_J 1 mX10_feed 22 [(0, vr 10 0), (1, vi a1)] [vi x1] M2 Q
      refine jr_if_eq (pc := 22) (tgt := 35) dX10_feed_22 (by decide) (fun c => ?_) (fun c => ?_)
      · replace h := h.1 c
        refine jr_ldc (pc := 35) fk_X10_97 dX10_feed_35 ?_
        exact jr_iret (pc := 37) rfl dX10_feed_37 h
      · replace h := h.2 c
        refine jr_aload_n (pc := 25) dX10_feed_25 rfl 0 rfl ?_
        refine jr_get (pc := 26) (v := vr 7 0) fg_X10_18 (by decide) rfl dX10_feed_26 ?_
        refine jr_get (pc := 29) (v := vi (M2 7 0 2)) fg_X10_93 (by decide) rfl dX10_feed_29 ?_
        refine jr_goto (pc := 32) (tgt := 37) dX10_feed_32 (by decide) ?_
        exact jr_iret (pc := 37) rfl dX10_feed_37 h
    · replace h := h.2 c
      refine jr_ldc (pc := 11) fk_X10_88 dX10_feed_11 ?_
      exact jr_iret (pc := 13) rfl dX10_feed_13 h
theorem dX10_capital_0 : decode cX10_capital 0 = .ok (.aload_n 0, 1) := by decide +kernel
theorem dX10_capital_1 : decode cX10_capital 1 = .ok (.getfield 18, 3) := by decide +kernel
theorem dX10_capital_4 : decode cX10_capital 4 = .ok (.invokevirtual 98, 3) := by decide +kernel
theorem dX10_capital_7 : decode cX10_capital 7 = .ok (.aload_n 0, 1) := by decide +kernel
theorem dX10_capital_8 : decode cX10_capital 8 = .ok (.getfield 18, 3) := by decide +kernel
theorem dX10_capital_11 : decode cX10_capital 11 = .ok (.getfield 101, 3) := by decide +kernel
theorem dX10_capital_14 : decode cX10_capital 14 = .ok (.ifCond .eq 14, 3) := by decide +kernel
theorem dX10_capital_17 : decode cX10_capital 17 = .ok (.bipush (-10), 2) := by decide +kernel
theorem dX10_capital_19 : decode cX10_capital 19 = .ok (.aload_n 0, 1) := by decide +kernel
theorem dX10_capital_20 : decode cX10_capital 20 = .ok (.getfield 18, 3) := by decide +kernel
theorem dX10_capital_23 : decode cX10_capital 23 = .ok (.getfield 101, 3) := by decide +kernel
theorem dX10_capital_26 : decode cX10_capital 26 = .ok (.isub, 1) := by decide +kernel
theorem dX10_capital_27 : decode cX10_capital 27 = .ok (.ireturn, 1) := by decide +kernel
theorem dX10_capital_28 : decode cX10_capital 28 = .ok (.aload_n 0, 1) := by decide +kernel
theorem dX10_capital_29 : decode cX10_capital 29 = .ok (.getfield 24, 3) := by decide +kernel
theorem dX10_capital_32 : decode cX10_capital 32 = .ok (.aload_n 0, 1) := by decide +kernel
theorem dX10_capital_33 : decode cX10_capital 33 = .ok (.getfield 18, 3) := by decide +kernel
theorem dX10_capital_36 : decode cX10_capital 36 = .ok (.getfield 104, 3) := by decide +kernel
theorem dX10_capital_39 : decode cX10_capital 39 = .ok (.invokevirtual 107, 3) := by decide +kernel
theorem dX10_capital_42 : decode cX10_capital 42 = .ok (.aload_n 0, 1) := by decide +kernel
theorem dX10_capital_43 : decode cX10_capital 43 = .ok (.getfield 28, 3) := by decide +kernel
theorem dX10_capital_46 : decode cX10_capital 46 = .ok (.invokevirtual 110, 3) := by decide +kernel
theorem dX10_capital_49 : decode cX10_capital 49 = .ok (.aload_n 0, 1) := by decide +kernel
theorem dX10_capital_50 : decode cX10_capital 50 = .ok (.getfield 54, 3) := by decide +kernel
theorem dX10_capital_53 : decode cX10_capital 53 = .ok (.invokevirtual 113, 3) := by decide +kernel
theorem dX10_capital_56 : decode cX10_capital 56 = .ok (.aload_n 0, 1) := by decide +kernel
theorem dX10_capital_57 : decode cX10_capital 57 = .ok (.getfield 63, 3) := by decide +kernel
theorem dX10_capital_60 : decode cX10_capital 60 = .ok (.invokevirtual 116, 3) := by decide +kernel
theorem dX10_capital_63 : decode cX10_capital 63 = .ok (.aload_n 0, 1) := by decide +kernel
theorem dX10_capital_64 : decode cX10_capital 64 = .ok (.getfield 77, 3) := by decide +kernel
theorem dX10_capital_67 : decode cX10_capital 67 = .ok (.invokevirtual 117, 3) := by decide +kernel
theorem dX10_capital_70 : decode cX10_capital 70 = .ok (.iconst 0, 1) := by decide +kernel
theorem dX10_capital_71 : decode cX10_capital 71 = .ok (.istore_n 1, 1) := by decide +kernel
theorem dX10_capital_72 : decode cX10_capital 72 = .ok (.iload_n 1, 1) := by decide +kernel
theorem dX10_capital_73 : decode cX10_capital 73 = .ok (.aload_n 0, 1) := by decide +kernel
theorem dX10_capital_74 : decode cX10_capital 74 = .ok (.getfield 84, 3) := by decide +kernel
theorem dX10_capital_77 : decode cX10_capital 77 = .ok (.arraylength, 1) := by decide +kernel
theorem dX10_capital_78 : decode cX10_capital 78 = .ok (.if_icmp .ge 19, 3) := by decide +kernel
theorem dX10_capital_81 : decode cX10_capital 81 = .ok (.aload_n 0, 1) := by decide +kernel
theorem dX10_capital_82 : decode cX10_capital 82 = .ok (.getfield 84, 3) := by decide +kernel
theorem dX10_capital_85 : decode cX10_capital 85 = .ok (.iload_n 1, 1) := by decide +kernel
theorem dX10_capital_86 : decode cX10_capital 86 = .ok (.aaload, 1) := by decide +kernel
theorem dX10_capital_87 : decode cX10_capital 87 = .ok (.iconst 0, 1) := by decide +kernel
theorem dX10_capital_88 : decode cX10_capital 88 = .ok (.putfield 118, 3) := by decide +kernel
theorem dX10_capital_91 : decode cX10_capital 91 = .ok (.iinc 1 1, 3) := by decide +kernel
theorem dX10_capital_94 : decode cX10_capital 94 = .ok (.goto (-22), 3) := by decide +kernel
theorem dX10_capital_97 : decode cX10_capital 97 = .ok (.aload_n 0, 1) := by decide +kernel
theorem dX10_capital_98 : decode cX10_capital 98 = .ok (.getfield 24, 3) := by decide +kernel
theorem dX10_capital_101 : decode cX10_capital 101 = .ok (.getfield 122, 3) := by decide +kernel
theorem dX10_capital_104 : decode cX10_capital 104 = .ok (.ireturn, 1) := by decide +kernel
set_option maxHeartbeats 4000000 in
set_option maxRecDepth 20000 in
theorem en_X10_capital {M : jw_Mem} {Q : Int32 → jw_Mem → Prop}  (h : (jw_M 5 mX7_readAll [vr 7 0] M (fun x1 M2 => (((M2 7 0 3) = 0 → (jw_M 1 mX1_copyFrom [vr 1 0, vr 1 1] M2 (fun x3 M4 => (jw_M 0 mX8_begin [vr 8 0] M4 (fun x5 M6 => (jw_M 0 mX9_clear [vr 9 0] M6 (fun x7 M8 => (jw_M 0 mX0_clear [vr 0 0] M8 (fun x9 M10 => (jw_M 0 mX3_clear [vr 3 0] M10 (fun x11 M12 => jw_J 6 mX10_capital 72 [(0, vr 10 0), (1, vi 0)] [] M12 Q))))))))))) ∧ (¬ (M2 7 0 3) = 0 → Q ((-10) - (M2 7 0 3)) M2))))) : jw_M 6 mX10_capital [vr 10 0] M Q := by
  refine jw_M.of (by decide) (Nat.le_of_ble_eq_true rfl) ?_
  show jw_J 6 mX10_capital 0 [(0, vr 10 0)] [] M Q
  refine jr_aload_n (pc := 0) dX10_capital_0 rfl 0 rfl ?_
  refine jr_get (pc := 1) (v := vr 7 0) fg_X10_18 (by decide) rfl dX10_capital_1 ?_
  refine jr_callV (pc := 4) (d' := 5) (mt' := mX7_readAll) (k := 7) (n := 0) (As := []) (st := []) fc_X10_98 (by decide) (by decide) (Nat.le_of_ble_eq_true rfl) rfl dX10_capital_4 (jw_M.mono h (fun x1 M2 h => ?_))
  show jw_J 6 mX10_capital 7 [(0, vr 10 0)] [] M2 Q
  refine jr_aload_n (pc := 7) dX10_capital_7 rfl 0 rfl ?_
  refine jr_get (pc := 8) (v := vr 7 0) fg_X10_18 (by decide) rfl dX10_capital_8 ?_
  refine jr_get (pc := 11) (v := vi (M2 7 0 3)) fg_X10_101 (by decide) rfl dX10_capital_11 ?_
  refine jr_if_eq (pc := 14) (tgt := 28) dX10_capital_14 (by decide) (fun c => ?_) (fun c => ?_)
  · replace h := h.1 c
    refine jr_aload_n (pc := 28) dX10_capital_28 rfl 0 rfl ?_
    refine jr_get (pc := 29) (v := vr 1 0) fg_X10_24 (by decide) rfl dX10_capital_29 ?_
    refine jr_aload_n (pc := 32) dX10_capital_32 rfl 0 rfl ?_
    refine jr_get (pc := 33) (v := vr 7 0) fg_X10_18 (by decide) rfl dX10_capital_33 ?_
    refine jr_get (pc := 36) (v := vr 1 1) fg_X10_104 (by decide) rfl dX10_capital_36 ?_
    refine jr_callV (pc := 39) (d' := 1) (mt' := mX1_copyFrom) (k := 1) (n := 0) (As := [vr 1 1]) (st := []) fc_X10_107 (by decide) (by decide) (Nat.le_of_ble_eq_true rfl) rfl dX10_capital_39 (jw_M.mono h (fun x3 M4 h => ?_))
    show jw_J 6 mX10_capital 42 [(0, vr 10 0)] [] M4 Q
    refine jr_aload_n (pc := 42) dX10_capital_42 rfl 0 rfl ?_
    refine jr_get (pc := 43) (v := vr 8 0) fg_X10_28 (by decide) rfl dX10_capital_43 ?_
    refine jr_callV (pc := 46) (d' := 0) (mt' := mX8_begin) (k := 8) (n := 0) (As := []) (st := []) fc_X10_110 (by decide) (by decide) (Nat.le_of_ble_eq_true rfl) rfl dX10_capital_46 (jw_M.mono h (fun x5 M6 h => ?_))
    show jw_J 6 mX10_capital 49 [(0, vr 10 0)] [] M6 Q
    refine jr_aload_n (pc := 49) dX10_capital_49 rfl 0 rfl ?_
    refine jr_get (pc := 50) (v := vr 9 0) fg_X10_54 (by decide) rfl dX10_capital_50 ?_
    refine jr_callV (pc := 53) (d' := 0) (mt' := mX9_clear) (k := 9) (n := 0) (As := []) (st := []) fc_X10_113 (by decide) (by decide) (Nat.le_of_ble_eq_true rfl) rfl dX10_capital_53 (jw_M.mono h (fun x7 M8 h => ?_))
    show jw_J 6 mX10_capital 56 [(0, vr 10 0)] [] M8 Q
    refine jr_aload_n (pc := 56) dX10_capital_56 rfl 0 rfl ?_
    refine jr_get (pc := 57) (v := vr 0 0) fg_X10_63 (by decide) rfl dX10_capital_57 ?_
    refine jr_callV (pc := 60) (d' := 0) (mt' := mX0_clear) (k := 0) (n := 0) (As := []) (st := []) fc_X10_116 (by decide) (by decide) (Nat.le_of_ble_eq_true rfl) rfl dX10_capital_60 (jw_M.mono h (fun x9 M10 h => ?_))
    show jw_J 6 mX10_capital 63 [(0, vr 10 0)] [] M10 Q
    refine jr_aload_n (pc := 63) dX10_capital_63 rfl 0 rfl ?_
    refine jr_get (pc := 64) (v := vr 3 0) fg_X10_77 (by decide) rfl dX10_capital_64 ?_
    refine jr_callV (pc := 67) (d' := 0) (mt' := mX3_clear) (k := 3) (n := 0) (As := []) (st := []) fc_X10_117 (by decide) (by decide) (Nat.le_of_ble_eq_true rfl) rfl dX10_capital_67 (jw_M.mono h (fun x11 M12 h => ?_))
    show jw_J 6 mX10_capital 70 [(0, vr 10 0)] [] M12 Q
    refine jr_iconst (pc := 70) (v := 0) dX10_capital_70 (by decide) ?_
    refine jr_istore_n (pc := 71) (lv' := [(1, vi 0), (0, vr 10 0)]) dX10_capital_71 rfl (by decide) rfl ?_
    exact jr_sub [1, 0] rfl h
  · replace h := h.2 c
    refine jr_bipush (pc := 17) (v := (-10)) dX10_capital_17 (by decide) ?_
    refine jr_aload_n (pc := 19) dX10_capital_19 rfl 0 rfl ?_
    refine jr_get (pc := 20) (v := vr 7 0) fg_X10_18 (by decide) rfl dX10_capital_20 ?_
    refine jr_get (pc := 23) (v := vi (M2 7 0 3)) fg_X10_101 (by decide) rfl dX10_capital_23 ?_
    refine jr_isub (pc := 26) dX10_capital_26 ?_
    exact jr_iret (pc := 27) rfl dX10_capital_27 h
set_option maxHeartbeats 4000000 in
set_option maxRecDepth 20000 in
theorem bk_X10_capital_72 {v1 : Int32} {M : jw_Mem} {Q : Int32 → jw_Mem → Prop}  (h : (((nI 2) ≤ v1 → Q (M 1 0 1) M) ∧ (¬ (nI 2) ≤ v1 → (vp_in v1 2 ∧ (∀ q13 : Nat, q13 = v1.toNatClampNeg → q13 < 2 → (∀ M14 : jw_Mem, M14 = jw_up M 4 q13 2 0 → jw_J 6 mX10_capital 72 [(0, vr 10 0), (1, vi (v1 + 1))] [] M14 Q)))))) : jw_J 6 mX10_capital 72 [(0, vr 10 0), (1, vi v1)] [] M Q := by
  refine jr_iload_n (pc := 72) dX10_capital_72 rfl 1 rfl ?_
  refine jr_aload_n (pc := 73) dX10_capital_73 rfl 0 rfl ?_
  refine jr_get (pc := 74) (v := vr 35 0) fg_X10_84 (by decide) rfl dX10_capital_74 ?_
  refine jr_alen (pc := 77) (by decide) (by decide) dX10_capital_77 ?_
  show jw_J 6 mX10_capital 78 [(0, vr 10 0), (1, vi v1)] [vi (nI 2), vi v1] M Q
  refine jr_icmp_ge (pc := 78) (tgt := 97) dX10_capital_78 (by decide) (fun c => ?_) (fun c => ?_)
  · replace h := h.1 c
    refine jr_aload_n (pc := 97) dX10_capital_97 rfl 0 rfl ?_
    refine jr_get (pc := 98) (v := vr 1 0) fg_X10_24 (by decide) rfl dX10_capital_98 ?_
    refine jr_get (pc := 101) (v := vi (M 1 0 1)) fg_X10_122 (by decide) rfl dX10_capital_101 ?_
    exact jr_iret (pc := 104) rfl dX10_capital_104 h
  · replace h := h.2 c
    refine jr_aload_n (pc := 81) dX10_capital_81 rfl 0 rfl ?_
    refine jr_get (pc := 82) (v := vr 35 0) fg_X10_84 (by decide) rfl dX10_capital_82 ?_
    refine jr_iload_n (pc := 85) dX10_capital_85 rfl 1 rfl ?_
    refine jr_imgs (pc := 86) (by decide) h.1 dX10_capital_86 ?_
    have hb_q13 : v1.toNatClampNeg < 2 := Nat.not_le.mp fun z => h.1 (Or.inr z)
    replace h := h.2 _ rfl hb_q13
    generalize hq_q13 : v1.toNatClampNeg = q13 at h hb_q13 ⊢
    refine jr_iconst (pc := 87) (v := 0) dX10_capital_87 (by decide) ?_
    refine jr_put (pc := 88) fp_X10_118 (by show q13 < 2; omega) (Or.inr (Or.inl rfl)) dX10_capital_88 ?_
    replace h := h _ rfl
    generalize jw_up M 4 q13 2 0 = M14 at h ⊢
    refine jr_iinc (pc := 91) (lv' := [(1, vi (v1 + 1)), (0, vr 10 0)]) (q := 1) dX10_capital_91 rfl (by rfl) (by decide) rfl ?_
    refine jr_goto (pc := 94) (tgt := 72) dX10_capital_94 (by decide) ?_
    exact jr_sub [1, 0] rfl h
theorem dX10_fault_0 : decode cX10_fault 0 = .ok (.aload_n 0, 1) := by decide +kernel
theorem dX10_fault_1 : decode cX10_fault 1 = .ok (.getfield 18, 3) := by decide +kernel
theorem dX10_fault_4 : decode cX10_fault 4 = .ok (.getfield 125, 3) := by decide +kernel
theorem dX10_fault_7 : decode cX10_fault 7 = .ok (.ireturn, 1) := by decide +kernel
set_option maxHeartbeats 4000000 in
set_option maxRecDepth 20000 in
theorem en_X10_fault {M : jw_Mem} {Q : Int32 → jw_Mem → Prop}  (h : Q (M 7 0 4) M) : jw_M 0 mX10_fault [vr 10 0] M Q := by
  refine jw_M.of (by decide) (Nat.le_of_ble_eq_true rfl) ?_
  show jw_J 0 mX10_fault 0 [(0, vr 10 0)] [] M Q
  refine jr_aload_n (pc := 0) dX10_fault_0 rfl 0 rfl ?_
  refine jr_get (pc := 1) (v := vr 7 0) fg_X10_18 (by decide) rfl dX10_fault_1 ?_
  refine jr_get (pc := 4) (v := vi (M 7 0 4)) fg_X10_125 (by decide) rfl dX10_fault_4 ?_
  exact jr_iret (pc := 7) rfl dX10_fault_7 h
theorem dX10_told_0 : decode cX10_told 0 = .ok (.iload_n 1, 1) := by decide +kernel
theorem dX10_told_1 : decode cX10_told 1 = .ok (.tableswitch 183 0 13 #[71, 79, 87, 95, 103, 111, 119, 127, 135, 143, 151, 159, 167, 175], 71) := by decide +kernel
theorem dX10_told_72 : decode cX10_told 72 = .ok (.aload_n 0, 1) := by decide +kernel
theorem dX10_told_73 : decode cX10_told 73 = .ok (.getfield 24, 3) := by decide +kernel
theorem dX10_told_76 : decode cX10_told 76 = .ok (.getfield 128, 3) := by decide +kernel
theorem dX10_told_79 : decode cX10_told 79 = .ok (.ireturn, 1) := by decide +kernel
theorem dX10_told_80 : decode cX10_told 80 = .ok (.aload_n 0, 1) := by decide +kernel
theorem dX10_told_81 : decode cX10_told 81 = .ok (.getfield 24, 3) := by decide +kernel
theorem dX10_told_84 : decode cX10_told 84 = .ok (.getfield 122, 3) := by decide +kernel
theorem dX10_told_87 : decode cX10_told 87 = .ok (.ireturn, 1) := by decide +kernel
theorem dX10_told_88 : decode cX10_told 88 = .ok (.aload_n 0, 1) := by decide +kernel
theorem dX10_told_89 : decode cX10_told 89 = .ok (.getfield 24, 3) := by decide +kernel
theorem dX10_told_92 : decode cX10_told 92 = .ok (.getfield 131, 3) := by decide +kernel
theorem dX10_told_95 : decode cX10_told 95 = .ok (.ireturn, 1) := by decide +kernel
theorem dX10_told_96 : decode cX10_told 96 = .ok (.aload_n 0, 1) := by decide +kernel
theorem dX10_told_97 : decode cX10_told 97 = .ok (.getfield 24, 3) := by decide +kernel
theorem dX10_told_100 : decode cX10_told 100 = .ok (.getfield 134, 3) := by decide +kernel
theorem dX10_told_103 : decode cX10_told 103 = .ok (.ireturn, 1) := by decide +kernel
theorem dX10_told_104 : decode cX10_told 104 = .ok (.aload_n 0, 1) := by decide +kernel
theorem dX10_told_105 : decode cX10_told 105 = .ok (.getfield 18, 3) := by decide +kernel
theorem dX10_told_108 : decode cX10_told 108 = .ok (.getfield 93, 3) := by decide +kernel
theorem dX10_told_111 : decode cX10_told 111 = .ok (.ireturn, 1) := by decide +kernel
theorem dX10_told_112 : decode cX10_told 112 = .ok (.aload_n 0, 1) := by decide +kernel
theorem dX10_told_113 : decode cX10_told 113 = .ok (.getfield 28, 3) := by decide +kernel
theorem dX10_told_116 : decode cX10_told 116 = .ok (.getfield 137, 3) := by decide +kernel
theorem dX10_told_119 : decode cX10_told 119 = .ok (.ireturn, 1) := by decide +kernel
theorem dX10_told_120 : decode cX10_told 120 = .ok (.aload_n 0, 1) := by decide +kernel
theorem dX10_told_121 : decode cX10_told 121 = .ok (.getfield 28, 3) := by decide +kernel
theorem dX10_told_124 : decode cX10_told 124 = .ok (.invokevirtual 140, 3) := by decide +kernel
theorem dX10_told_127 : decode cX10_told 127 = .ok (.ireturn, 1) := by decide +kernel
theorem dX10_told_128 : decode cX10_told 128 = .ok (.aload_n 0, 1) := by decide +kernel
theorem dX10_told_129 : decode cX10_told 129 = .ok (.getfield 28, 3) := by decide +kernel
theorem dX10_told_132 : decode cX10_told 132 = .ok (.invokevirtual 144, 3) := by decide +kernel
theorem dX10_told_135 : decode cX10_told 135 = .ok (.ireturn, 1) := by decide +kernel
theorem dX10_told_136 : decode cX10_told 136 = .ok (.aload_n 0, 1) := by decide +kernel
theorem dX10_told_137 : decode cX10_told 137 = .ok (.getfield 28, 3) := by decide +kernel
theorem dX10_told_140 : decode cX10_told 140 = .ok (.invokevirtual 147, 3) := by decide +kernel
theorem dX10_told_143 : decode cX10_told 143 = .ok (.ireturn, 1) := by decide +kernel
theorem dX10_told_144 : decode cX10_told 144 = .ok (.aload_n 0, 1) := by decide +kernel
theorem dX10_told_145 : decode cX10_told 145 = .ok (.getfield 40, 3) := by decide +kernel
theorem dX10_told_148 : decode cX10_told 148 = .ok (.invokevirtual 150, 3) := by decide +kernel
theorem dX10_told_151 : decode cX10_told 151 = .ok (.ireturn, 1) := by decide +kernel
theorem dX10_told_152 : decode cX10_told 152 = .ok (.aload_n 0, 1) := by decide +kernel
theorem dX10_told_153 : decode cX10_told 153 = .ok (.getfield 40, 3) := by decide +kernel
theorem dX10_told_156 : decode cX10_told 156 = .ok (.invokevirtual 153, 3) := by decide +kernel
theorem dX10_told_159 : decode cX10_told 159 = .ok (.ireturn, 1) := by decide +kernel
theorem dX10_told_160 : decode cX10_told 160 = .ok (.aload_n 0, 1) := by decide +kernel
theorem dX10_told_161 : decode cX10_told 161 = .ok (.getfield 54, 3) := by decide +kernel
theorem dX10_told_164 : decode cX10_told 164 = .ok (.getfield 156, 3) := by decide +kernel
theorem dX10_told_167 : decode cX10_told 167 = .ok (.ireturn, 1) := by decide +kernel
theorem dX10_told_168 : decode cX10_told 168 = .ok (.aload_n 0, 1) := by decide +kernel
theorem dX10_told_169 : decode cX10_told 169 = .ok (.getfield 63, 3) := by decide +kernel
theorem dX10_told_172 : decode cX10_told 172 = .ok (.getfield 159, 3) := by decide +kernel
theorem dX10_told_175 : decode cX10_told 175 = .ok (.ireturn, 1) := by decide +kernel
theorem dX10_told_176 : decode cX10_told 176 = .ok (.aload_n 0, 1) := by decide +kernel
theorem dX10_told_177 : decode cX10_told 177 = .ok (.getfield 77, 3) := by decide +kernel
theorem dX10_told_180 : decode cX10_told 180 = .ok (.getfield 160, 3) := by decide +kernel
theorem dX10_told_183 : decode cX10_told 183 = .ok (.ireturn, 1) := by decide +kernel
theorem dX10_told_184 : decode cX10_told 184 = .ok (.ldc 88, 2) := by decide +kernel
theorem dX10_told_186 : decode cX10_told 186 = .ok (.ireturn, 1) := by decide +kernel
set_option maxHeartbeats 4000000 in
set_option maxRecDepth 20000 in
theorem en_X10_told {a1 : Int32} {M : jw_Mem} {Q : Int32 → jw_Mem → Prop}  (h : ((a1.toInt < 0 ∨ 13 < a1.toInt → Q (-1000000002) M) ∧ (a1.toInt = 0 → Q (M 1 0 0) M) ∧ (a1.toInt = 1 → Q (M 1 0 1) M) ∧ (a1.toInt = 2 → Q (M 1 0 2) M) ∧ (a1.toInt = 3 → Q (M 1 0 3) M) ∧ (a1.toInt = 4 → Q (M 7 0 2) M) ∧ (a1.toInt = 5 → Q (M 8 0 1) M) ∧ (a1.toInt = 6 → (jw_M 2 mX8_standers [vr 8 0] M (fun x1 M2 => Q x1 M2))) ∧ (a1.toInt = 7 → (jw_M 1 mX8_emptyPlinths [vr 8 0] M (fun x3 M4 => Q x3 M4))) ∧ (a1.toInt = 8 → (jw_M 3 mX8_outvoted [vr 8 0] M (fun x5 M6 => Q x5 M6))) ∧ (a1.toInt = 9 → (jw_M 4 mX6_beloved [vr 6 0] M (fun x7 M8 => Q x7 M8))) ∧ (a1.toInt = 10 → (jw_M 4 mX6_rings [vr 6 0] M (fun x9 M10 => Q x9 M10))) ∧ (a1.toInt = 11 → Q (M 9 0 6) M) ∧ (a1.toInt = 12 → Q (M 0 0 3) M) ∧ (a1.toInt = 13 → Q (M 3 0 2) M))) : jw_M 5 mX10_told [vr 10 0, vi a1] M Q := by
  refine jw_M.of (by decide) (Nat.le_of_ble_eq_true rfl) ?_
  show jw_J 5 mX10_told 0 [(0, vr 10 0), (1, vi a1)] [] M Q
  refine jr_iload_n (pc := 0) dX10_told_0 rfl 1 rfl ?_
  refine jr_tsw (pc := 1) dX10_told_1 (tgt := 184) (by decide) (by decide) (fun c => ?_) (fun j c c2 => ?_)
  · replace h := h.1 c
    refine jr_ldc (pc := 184) fk_X10_88 dX10_told_184 ?_
    exact jr_iret (pc := 186) rfl dX10_told_186 h
  · have hj : j = 0 ∨ j = 1 ∨ j = 2 ∨ j = 3 ∨ j = 4 ∨ j = 5 ∨ j = 6 ∨ j = 7 ∨ j = 8 ∨ j = 9 ∨ j = 10 ∨ j = 11 ∨ j = 12 ∨ j = 13 := by omega
    rcases hj with rfl | rfl | rfl | rfl | rfl | rfl | rfl | rfl | rfl | rfl | rfl | rfl | rfl | rfl
    · replace h := h.2.1 (c.trans (by decide))
      refine ⟨71, 72, rfl, by decide, ?_⟩
      refine jr_aload_n (pc := 72) dX10_told_72 rfl 0 rfl ?_
      refine jr_get (pc := 73) (v := vr 1 0) fg_X10_24 (by decide) rfl dX10_told_73 ?_
      refine jr_get (pc := 76) (v := vi (M 1 0 0)) fg_X10_128 (by decide) rfl dX10_told_76 ?_
      exact jr_iret (pc := 79) rfl dX10_told_79 h
    · replace h := h.2.2.1 (c.trans (by decide))
      refine ⟨79, 80, rfl, by decide, ?_⟩
      refine jr_aload_n (pc := 80) dX10_told_80 rfl 0 rfl ?_
      refine jr_get (pc := 81) (v := vr 1 0) fg_X10_24 (by decide) rfl dX10_told_81 ?_
      refine jr_get (pc := 84) (v := vi (M 1 0 1)) fg_X10_122 (by decide) rfl dX10_told_84 ?_
      exact jr_iret (pc := 87) rfl dX10_told_87 h
    · replace h := h.2.2.2.1 (c.trans (by decide))
      refine ⟨87, 88, rfl, by decide, ?_⟩
      refine jr_aload_n (pc := 88) dX10_told_88 rfl 0 rfl ?_
      refine jr_get (pc := 89) (v := vr 1 0) fg_X10_24 (by decide) rfl dX10_told_89 ?_
      refine jr_get (pc := 92) (v := vi (M 1 0 2)) fg_X10_131 (by decide) rfl dX10_told_92 ?_
      exact jr_iret (pc := 95) rfl dX10_told_95 h
    · replace h := h.2.2.2.2.1 (c.trans (by decide))
      refine ⟨95, 96, rfl, by decide, ?_⟩
      refine jr_aload_n (pc := 96) dX10_told_96 rfl 0 rfl ?_
      refine jr_get (pc := 97) (v := vr 1 0) fg_X10_24 (by decide) rfl dX10_told_97 ?_
      refine jr_get (pc := 100) (v := vi (M 1 0 3)) fg_X10_134 (by decide) rfl dX10_told_100 ?_
      exact jr_iret (pc := 103) rfl dX10_told_103 h
    · replace h := h.2.2.2.2.2.1 (c.trans (by decide))
      refine ⟨103, 104, rfl, by decide, ?_⟩
      refine jr_aload_n (pc := 104) dX10_told_104 rfl 0 rfl ?_
      refine jr_get (pc := 105) (v := vr 7 0) fg_X10_18 (by decide) rfl dX10_told_105 ?_
      refine jr_get (pc := 108) (v := vi (M 7 0 2)) fg_X10_93 (by decide) rfl dX10_told_108 ?_
      exact jr_iret (pc := 111) rfl dX10_told_111 h
    · replace h := h.2.2.2.2.2.2.1 (c.trans (by decide))
      refine ⟨111, 112, rfl, by decide, ?_⟩
      refine jr_aload_n (pc := 112) dX10_told_112 rfl 0 rfl ?_
      refine jr_get (pc := 113) (v := vr 8 0) fg_X10_28 (by decide) rfl dX10_told_113 ?_
      refine jr_get (pc := 116) (v := vi (M 8 0 1)) fg_X10_137 (by decide) rfl dX10_told_116 ?_
      exact jr_iret (pc := 119) rfl dX10_told_119 h
    · replace h := h.2.2.2.2.2.2.2.1 (c.trans (by decide))
      refine ⟨119, 120, rfl, by decide, ?_⟩
      refine jr_aload_n (pc := 120) dX10_told_120 rfl 0 rfl ?_
      refine jr_get (pc := 121) (v := vr 8 0) fg_X10_28 (by decide) rfl dX10_told_121 ?_
      refine jr_callV (pc := 124) (d' := 2) (mt' := mX8_standers) (k := 8) (n := 0) (As := []) (st := []) fc_X10_140 (by decide) (by decide) (Nat.le_of_ble_eq_true rfl) rfl dX10_told_124 (jw_M.mono h (fun x1 M2 h => ?_))
      show jw_J 5 mX10_told 127 [(0, vr 10 0), (1, vi a1)] [vi x1] M2 Q
      exact jr_iret (pc := 127) rfl dX10_told_127 h
    · replace h := h.2.2.2.2.2.2.2.2.1 (c.trans (by decide))
      refine ⟨127, 128, rfl, by decide, ?_⟩
      refine jr_aload_n (pc := 128) dX10_told_128 rfl 0 rfl ?_
      refine jr_get (pc := 129) (v := vr 8 0) fg_X10_28 (by decide) rfl dX10_told_129 ?_
      refine jr_callV (pc := 132) (d' := 1) (mt' := mX8_emptyPlinths) (k := 8) (n := 0) (As := []) (st := []) fc_X10_144 (by decide) (by decide) (Nat.le_of_ble_eq_true rfl) rfl dX10_told_132 (jw_M.mono h (fun x3 M4 h => ?_))
      show jw_J 5 mX10_told 135 [(0, vr 10 0), (1, vi a1)] [vi x3] M4 Q
      exact jr_iret (pc := 135) rfl dX10_told_135 h
    · replace h := h.2.2.2.2.2.2.2.2.2.1 (c.trans (by decide))
      refine ⟨135, 136, rfl, by decide, ?_⟩
      refine jr_aload_n (pc := 136) dX10_told_136 rfl 0 rfl ?_
      refine jr_get (pc := 137) (v := vr 8 0) fg_X10_28 (by decide) rfl dX10_told_137 ?_
      refine jr_callV (pc := 140) (d' := 3) (mt' := mX8_outvoted) (k := 8) (n := 0) (As := []) (st := []) fc_X10_147 (by decide) (by decide) (Nat.le_of_ble_eq_true rfl) rfl dX10_told_140 (jw_M.mono h (fun x5 M6 h => ?_))
      show jw_J 5 mX10_told 143 [(0, vr 10 0), (1, vi a1)] [vi x5] M6 Q
      exact jr_iret (pc := 143) rfl dX10_told_143 h
    · replace h := h.2.2.2.2.2.2.2.2.2.2.1 (c.trans (by decide))
      refine ⟨143, 144, rfl, by decide, ?_⟩
      refine jr_aload_n (pc := 144) dX10_told_144 rfl 0 rfl ?_
      refine jr_get (pc := 145) (v := vr 6 0) fg_X10_40 (by decide) rfl dX10_told_145 ?_
      refine jr_callV (pc := 148) (d' := 4) (mt' := mX6_beloved) (k := 6) (n := 0) (As := []) (st := []) fc_X10_150 (by decide) (by decide) (Nat.le_of_ble_eq_true rfl) rfl dX10_told_148 (jw_M.mono h (fun x7 M8 h => ?_))
      show jw_J 5 mX10_told 151 [(0, vr 10 0), (1, vi a1)] [vi x7] M8 Q
      exact jr_iret (pc := 151) rfl dX10_told_151 h
    · replace h := h.2.2.2.2.2.2.2.2.2.2.2.1 (c.trans (by decide))
      refine ⟨151, 152, rfl, by decide, ?_⟩
      refine jr_aload_n (pc := 152) dX10_told_152 rfl 0 rfl ?_
      refine jr_get (pc := 153) (v := vr 6 0) fg_X10_40 (by decide) rfl dX10_told_153 ?_
      refine jr_callV (pc := 156) (d' := 4) (mt' := mX6_rings) (k := 6) (n := 0) (As := []) (st := []) fc_X10_153 (by decide) (by decide) (Nat.le_of_ble_eq_true rfl) rfl dX10_told_156 (jw_M.mono h (fun x9 M10 h => ?_))
      show jw_J 5 mX10_told 159 [(0, vr 10 0), (1, vi a1)] [vi x9] M10 Q
      exact jr_iret (pc := 159) rfl dX10_told_159 h
    · replace h := h.2.2.2.2.2.2.2.2.2.2.2.2.1 (c.trans (by decide))
      refine ⟨159, 160, rfl, by decide, ?_⟩
      refine jr_aload_n (pc := 160) dX10_told_160 rfl 0 rfl ?_
      refine jr_get (pc := 161) (v := vr 9 0) fg_X10_54 (by decide) rfl dX10_told_161 ?_
      refine jr_get (pc := 164) (v := vi (M 9 0 6)) fg_X10_156 (by decide) rfl dX10_told_164 ?_
      exact jr_iret (pc := 167) rfl dX10_told_167 h
    · replace h := h.2.2.2.2.2.2.2.2.2.2.2.2.2.1 (c.trans (by decide))
      refine ⟨167, 168, rfl, by decide, ?_⟩
      refine jr_aload_n (pc := 168) dX10_told_168 rfl 0 rfl ?_
      refine jr_get (pc := 169) (v := vr 0 0) fg_X10_63 (by decide) rfl dX10_told_169 ?_
      refine jr_get (pc := 172) (v := vi (M 0 0 3)) fg_X10_159 (by decide) rfl dX10_told_172 ?_
      exact jr_iret (pc := 175) rfl dX10_told_175 h
    · replace h := h.2.2.2.2.2.2.2.2.2.2.2.2.2.2 (c.trans (by decide))
      refine ⟨175, 176, rfl, by decide, ?_⟩
      refine jr_aload_n (pc := 176) dX10_told_176 rfl 0 rfl ?_
      refine jr_get (pc := 177) (v := vr 3 0) fg_X10_77 (by decide) rfl dX10_told_177 ?_
      refine jr_get (pc := 180) (v := vi (M 3 0 2)) fg_X10_160 (by decide) rfl dX10_told_180 ?_
      exact jr_iret (pc := 183) rfl dX10_told_183 h
theorem dX10_plinth_0 : decode cX10_plinth 0 = .ok (.aload_n 0, 1) := by decide +kernel
theorem dX10_plinth_1 : decode cX10_plinth 1 = .ok (.getfield 24, 3) := by decide +kernel
theorem dX10_plinth_4 : decode cX10_plinth 4 = .ok (.iload_n 1, 1) := by decide +kernel
theorem dX10_plinth_5 : decode cX10_plinth 5 = .ok (.invokevirtual 161, 3) := by decide +kernel
theorem dX10_plinth_8 : decode cX10_plinth 8 = .ok (.ifCond .ne 6, 3) := by decide +kernel
theorem dX10_plinth_11 : decode cX10_plinth 11 = .ok (.ldc 164, 2) := by decide +kernel
theorem dX10_plinth_13 : decode cX10_plinth 13 = .ok (.ireturn, 1) := by decide +kernel
theorem dX10_plinth_14 : decode cX10_plinth 14 = .ok (.iload_n 2, 1) := by decide +kernel
theorem dX10_plinth_15 : decode cX10_plinth 15 = .ok (.tableswitch 73 0 3 #[29, 39, 48, 57], 29) := by decide +kernel
theorem dX10_plinth_44 : decode cX10_plinth 44 = .ok (.aload_n 0, 1) := by decide +kernel
theorem dX10_plinth_45 : decode cX10_plinth 45 = .ok (.getfield 24, 3) := by decide +kernel
theorem dX10_plinth_48 : decode cX10_plinth 48 = .ok (.getfield 165, 3) := by decide +kernel
theorem dX10_plinth_51 : decode cX10_plinth 51 = .ok (.iload_n 1, 1) := by decide +kernel
theorem dX10_plinth_52 : decode cX10_plinth 52 = .ok (.iaload, 1) := by decide +kernel
theorem dX10_plinth_53 : decode cX10_plinth 53 = .ok (.ireturn, 1) := by decide +kernel
theorem dX10_plinth_54 : decode cX10_plinth 54 = .ok (.aload_n 0, 1) := by decide +kernel
theorem dX10_plinth_55 : decode cX10_plinth 55 = .ok (.getfield 28, 3) := by decide +kernel
theorem dX10_plinth_58 : decode cX10_plinth 58 = .ok (.iload_n 1, 1) := by decide +kernel
theorem dX10_plinth_59 : decode cX10_plinth 59 = .ok (.invokevirtual 169, 3) := by decide +kernel
theorem dX10_plinth_62 : decode cX10_plinth 62 = .ok (.ireturn, 1) := by decide +kernel
theorem dX10_plinth_63 : decode cX10_plinth 63 = .ok (.aload_n 0, 1) := by decide +kernel
theorem dX10_plinth_64 : decode cX10_plinth 64 = .ok (.getfield 28, 3) := by decide +kernel
theorem dX10_plinth_67 : decode cX10_plinth 67 = .ok (.iload_n 1, 1) := by decide +kernel
theorem dX10_plinth_68 : decode cX10_plinth 68 = .ok (.invokevirtual 173, 3) := by decide +kernel
theorem dX10_plinth_71 : decode cX10_plinth 71 = .ok (.ireturn, 1) := by decide +kernel
theorem dX10_plinth_72 : decode cX10_plinth 72 = .ok (.aload_n 0, 1) := by decide +kernel
theorem dX10_plinth_73 : decode cX10_plinth 73 = .ok (.getfield 24, 3) := by decide +kernel
theorem dX10_plinth_76 : decode cX10_plinth 76 = .ok (.aload_n 0, 1) := by decide +kernel
theorem dX10_plinth_77 : decode cX10_plinth 77 = .ok (.getfield 28, 3) := by decide +kernel
theorem dX10_plinth_80 : decode cX10_plinth 80 = .ok (.iload_n 1, 1) := by decide +kernel
theorem dX10_plinth_81 : decode cX10_plinth 81 = .ok (.invokevirtual 173, 3) := by decide +kernel
theorem dX10_plinth_84 : decode cX10_plinth 84 = .ok (.invokevirtual 176, 3) := by decide +kernel
theorem dX10_plinth_87 : decode cX10_plinth 87 = .ok (.ireturn, 1) := by decide +kernel
theorem dX10_plinth_88 : decode cX10_plinth 88 = .ok (.ldc 88, 2) := by decide +kernel
theorem dX10_plinth_90 : decode cX10_plinth 90 = .ok (.ireturn, 1) := by decide +kernel
set_option maxHeartbeats 4000000 in
set_option maxRecDepth 20000 in
theorem en_X10_plinth {a1 : Int32} {a2 : Int32} {M : jw_Mem} {Q : Int32 → jw_Mem → Prop}  (h : (jw_M 0 mX1_hasPlinth [vr 1 0, vi a1] M (fun x1 M2 => ((¬ x1 = 0 → ((a2.toInt < 0 ∨ 3 < a2.toInt → Q (-1000000002) M2) ∧ (a2.toInt = 0 → (vp_in a1 5 ∧ Q (M2 14 0 a1.toNatClampNeg) M2)) ∧ (a2.toInt = 1 → (jw_M 0 mX8_whoIsOn [vr 8 0, vi a1] M2 (fun x3 M4 => Q x3 M4))) ∧ (a2.toInt = 2 → (jw_M 1 mX8_walkersUnder [vr 8 0, vi a1] M2 (fun x5 M6 => Q x5 M6))) ∧ (a2.toInt = 3 → (jw_M 1 mX8_walkersUnder [vr 8 0, vi a1] M2 (fun x7 M8 => (jw_M 1 mX1_votesOf [vr 1 0, vi x7] M8 (fun x9 M10 => Q x9 M10))))))) ∧ (x1 = 0 → Q (-1000000001) M2))))) : jw_M 2 mX10_plinth [vr 10 0, vi a1, vi a2] M Q := by
  refine jw_M.of (by decide) (Nat.le_of_ble_eq_true rfl) ?_
  show jw_J 2 mX10_plinth 0 [(0, vr 10 0), (1, vi a1), (2, vi a2)] [] M Q
  refine jr_aload_n (pc := 0) dX10_plinth_0 rfl 0 rfl ?_
  refine jr_get (pc := 1) (v := vr 1 0) fg_X10_24 (by decide) rfl dX10_plinth_1 ?_
  refine jr_iload_n (pc := 4) dX10_plinth_4 rfl 1 rfl ?_
  refine jr_callV (pc := 5) (d' := 0) (mt' := mX1_hasPlinth) (k := 1) (n := 0) (As := [vi a1]) (st := []) fc_X10_161 (by decide) (by decide) (Nat.le_of_ble_eq_true rfl) rfl dX10_plinth_5 (jw_M.mono h (fun x1 M2 h => ?_))
  show jw_J 2 mX10_plinth 8 [(0, vr 10 0), (1, vi a1), (2, vi a2)] [vi x1] M2 Q
  refine jr_if_ne (pc := 8) (tgt := 14) dX10_plinth_8 (by decide) (fun c => ?_) (fun c => ?_)
  · replace h := h.1 c
    refine jr_iload_n (pc := 14) dX10_plinth_14 rfl 2 rfl ?_
    refine jr_tsw (pc := 15) dX10_plinth_15 (tgt := 88) (by decide) (by decide) (fun c => ?_) (fun j c c2 => ?_)
    · replace h := h.1 c
      refine jr_ldc (pc := 88) fk_X10_88 dX10_plinth_88 ?_
      exact jr_iret (pc := 90) rfl dX10_plinth_90 h
    · have hj : j = 0 ∨ j = 1 ∨ j = 2 ∨ j = 3 := by omega
      rcases hj with rfl | rfl | rfl | rfl
      · replace h := h.2.1 (c.trans (by decide))
        refine ⟨29, 44, rfl, by decide, ?_⟩
        refine jr_aload_n (pc := 44) dX10_plinth_44 rfl 0 rfl ?_
        refine jr_get (pc := 45) (v := vr 1 0) fg_X10_24 (by decide) rfl dX10_plinth_45 ?_
        refine jr_get (pc := 48) (v := vr 14 0) fg_X10_165 (by decide) rfl dX10_plinth_48 ?_
        refine jr_iload_n (pc := 51) dX10_plinth_51 rfl 1 rfl ?_
        refine jr_iald (pc := 52) ⟨rfl, (by decide)⟩ h.1 dX10_plinth_52 ?_
        replace h := h.2
        exact jr_iret (pc := 53) rfl dX10_plinth_53 h
      · replace h := h.2.2.1 (c.trans (by decide))
        refine ⟨39, 54, rfl, by decide, ?_⟩
        refine jr_aload_n (pc := 54) dX10_plinth_54 rfl 0 rfl ?_
        refine jr_get (pc := 55) (v := vr 8 0) fg_X10_28 (by decide) rfl dX10_plinth_55 ?_
        refine jr_iload_n (pc := 58) dX10_plinth_58 rfl 1 rfl ?_
        refine jr_callV (pc := 59) (d' := 0) (mt' := mX8_whoIsOn) (k := 8) (n := 0) (As := [vi a1]) (st := []) fc_X10_169 (by decide) (by decide) (Nat.le_of_ble_eq_true rfl) rfl dX10_plinth_59 (jw_M.mono h (fun x3 M4 h => ?_))
        show jw_J 2 mX10_plinth 62 [(0, vr 10 0), (1, vi a1), (2, vi a2)] [vi x3] M4 Q
        exact jr_iret (pc := 62) rfl dX10_plinth_62 h
      · replace h := h.2.2.2.1 (c.trans (by decide))
        refine ⟨48, 63, rfl, by decide, ?_⟩
        refine jr_aload_n (pc := 63) dX10_plinth_63 rfl 0 rfl ?_
        refine jr_get (pc := 64) (v := vr 8 0) fg_X10_28 (by decide) rfl dX10_plinth_64 ?_
        refine jr_iload_n (pc := 67) dX10_plinth_67 rfl 1 rfl ?_
        refine jr_callV (pc := 68) (d' := 1) (mt' := mX8_walkersUnder) (k := 8) (n := 0) (As := [vi a1]) (st := []) fc_X10_173 (by decide) (by decide) (Nat.le_of_ble_eq_true rfl) rfl dX10_plinth_68 (jw_M.mono h (fun x5 M6 h => ?_))
        show jw_J 2 mX10_plinth 71 [(0, vr 10 0), (1, vi a1), (2, vi a2)] [vi x5] M6 Q
        exact jr_iret (pc := 71) rfl dX10_plinth_71 h
      · replace h := h.2.2.2.2 (c.trans (by decide))
        refine ⟨57, 72, rfl, by decide, ?_⟩
        refine jr_aload_n (pc := 72) dX10_plinth_72 rfl 0 rfl ?_
        refine jr_get (pc := 73) (v := vr 1 0) fg_X10_24 (by decide) rfl dX10_plinth_73 ?_
        refine jr_aload_n (pc := 76) dX10_plinth_76 rfl 0 rfl ?_
        refine jr_get (pc := 77) (v := vr 8 0) fg_X10_28 (by decide) rfl dX10_plinth_77 ?_
        refine jr_iload_n (pc := 80) dX10_plinth_80 rfl 1 rfl ?_
        refine jr_callV (pc := 81) (d' := 1) (mt' := mX8_walkersUnder) (k := 8) (n := 0) (As := [vi a1]) (st := [vr 1 0]) fc_X10_173 (by decide) (by decide) (Nat.le_of_ble_eq_true rfl) rfl dX10_plinth_81 (jw_M.mono h (fun x7 M8 h => ?_))
        show jw_J 2 mX10_plinth 84 [(0, vr 10 0), (1, vi a1), (2, vi a2)] [vi x7, vr 1 0] M8 Q
        refine jr_callV (pc := 84) (d' := 1) (mt' := mX1_votesOf) (k := 1) (n := 0) (As := [vi x7]) (st := []) fc_X10_176 (by decide) (by decide) (Nat.le_of_ble_eq_true rfl) rfl dX10_plinth_84 (jw_M.mono h (fun x9 M10 h => ?_))
        show jw_J 2 mX10_plinth 87 [(0, vr 10 0), (1, vi a1), (2, vi a2)] [vi x9] M10 Q
        exact jr_iret (pc := 87) rfl dX10_plinth_87 h
  · replace h := h.2 c
    refine jr_ldc (pc := 11) fk_X10_164 dX10_plinth_11 ?_
    exact jr_iret (pc := 13) rfl dX10_plinth_13 h
theorem dX10_statue_0 : decode cX10_statue 0 = .ok (.aload_n 0, 1) := by decide +kernel
theorem dX10_statue_1 : decode cX10_statue 1 = .ok (.getfield 24, 3) := by decide +kernel
theorem dX10_statue_4 : decode cX10_statue 4 = .ok (.iload_n 1, 1) := by decide +kernel
theorem dX10_statue_5 : decode cX10_statue 5 = .ok (.invokevirtual 179, 3) := by decide +kernel
theorem dX10_statue_8 : decode cX10_statue 8 = .ok (.ifCond .ne 6, 3) := by decide +kernel
theorem dX10_statue_11 : decode cX10_statue 11 = .ok (.ldc 164, 2) := by decide +kernel
theorem dX10_statue_13 : decode cX10_statue 13 = .ok (.ireturn, 1) := by decide +kernel
theorem dX10_statue_14 : decode cX10_statue 14 = .ok (.iload_n 2, 1) := by decide +kernel
theorem dX10_statue_15 : decode cX10_statue 15 = .ok (.tableswitch 109 0 6 #[41, 51, 61, 71, 81, 91, 100], 41) := by decide +kernel
theorem dX10_statue_56 : decode cX10_statue 56 = .ok (.aload_n 0, 1) := by decide +kernel
theorem dX10_statue_57 : decode cX10_statue 57 = .ok (.getfield 24, 3) := by decide +kernel
theorem dX10_statue_60 : decode cX10_statue 60 = .ok (.getfield 182, 3) := by decide +kernel
theorem dX10_statue_63 : decode cX10_statue 63 = .ok (.iload_n 1, 1) := by decide +kernel
theorem dX10_statue_64 : decode cX10_statue 64 = .ok (.iaload, 1) := by decide +kernel
theorem dX10_statue_65 : decode cX10_statue 65 = .ok (.ireturn, 1) := by decide +kernel
theorem dX10_statue_66 : decode cX10_statue 66 = .ok (.aload_n 0, 1) := by decide +kernel
theorem dX10_statue_67 : decode cX10_statue 67 = .ok (.getfield 24, 3) := by decide +kernel
theorem dX10_statue_70 : decode cX10_statue 70 = .ok (.getfield 185, 3) := by decide +kernel
theorem dX10_statue_73 : decode cX10_statue 73 = .ok (.iload_n 1, 1) := by decide +kernel
theorem dX10_statue_74 : decode cX10_statue 74 = .ok (.iaload, 1) := by decide +kernel
theorem dX10_statue_75 : decode cX10_statue 75 = .ok (.ireturn, 1) := by decide +kernel
theorem dX10_statue_76 : decode cX10_statue 76 = .ok (.aload_n 0, 1) := by decide +kernel
theorem dX10_statue_77 : decode cX10_statue 77 = .ok (.getfield 28, 3) := by decide +kernel
theorem dX10_statue_80 : decode cX10_statue 80 = .ok (.getfield 188, 3) := by decide +kernel
theorem dX10_statue_83 : decode cX10_statue 83 = .ok (.iload_n 1, 1) := by decide +kernel
theorem dX10_statue_84 : decode cX10_statue 84 = .ok (.iaload, 1) := by decide +kernel
theorem dX10_statue_85 : decode cX10_statue 85 = .ok (.ireturn, 1) := by decide +kernel
theorem dX10_statue_86 : decode cX10_statue 86 = .ok (.aload_n 0, 1) := by decide +kernel
theorem dX10_statue_87 : decode cX10_statue 87 = .ok (.getfield 28, 3) := by decide +kernel
theorem dX10_statue_90 : decode cX10_statue 90 = .ok (.getfield 191, 3) := by decide +kernel
theorem dX10_statue_93 : decode cX10_statue 93 = .ok (.iload_n 1, 1) := by decide +kernel
theorem dX10_statue_94 : decode cX10_statue 94 = .ok (.iaload, 1) := by decide +kernel
theorem dX10_statue_95 : decode cX10_statue 95 = .ok (.ireturn, 1) := by decide +kernel
theorem dX10_statue_96 : decode cX10_statue 96 = .ok (.aload_n 0, 1) := by decide +kernel
theorem dX10_statue_97 : decode cX10_statue 97 = .ok (.getfield 28, 3) := by decide +kernel
theorem dX10_statue_100 : decode cX10_statue 100 = .ok (.getfield 194, 3) := by decide +kernel
theorem dX10_statue_103 : decode cX10_statue 103 = .ok (.iload_n 1, 1) := by decide +kernel
theorem dX10_statue_104 : decode cX10_statue 104 = .ok (.iaload, 1) := by decide +kernel
theorem dX10_statue_105 : decode cX10_statue 105 = .ok (.ireturn, 1) := by decide +kernel
theorem dX10_statue_106 : decode cX10_statue 106 = .ok (.aload_n 0, 1) := by decide +kernel
theorem dX10_statue_107 : decode cX10_statue 107 = .ok (.getfield 28, 3) := by decide +kernel
theorem dX10_statue_110 : decode cX10_statue 110 = .ok (.iload_n 1, 1) := by decide +kernel
theorem dX10_statue_111 : decode cX10_statue 111 = .ok (.invokevirtual 197, 3) := by decide +kernel
theorem dX10_statue_114 : decode cX10_statue 114 = .ok (.ireturn, 1) := by decide +kernel
theorem dX10_statue_115 : decode cX10_statue 115 = .ok (.aload_n 0, 1) := by decide +kernel
theorem dX10_statue_116 : decode cX10_statue 116 = .ok (.getfield 28, 3) := by decide +kernel
theorem dX10_statue_119 : decode cX10_statue 119 = .ok (.iload_n 1, 1) := by decide +kernel
theorem dX10_statue_120 : decode cX10_statue 120 = .ok (.invokevirtual 200, 3) := by decide +kernel
theorem dX10_statue_123 : decode cX10_statue 123 = .ok (.ireturn, 1) := by decide +kernel
theorem dX10_statue_124 : decode cX10_statue 124 = .ok (.ldc 88, 2) := by decide +kernel
theorem dX10_statue_126 : decode cX10_statue 126 = .ok (.ireturn, 1) := by decide +kernel
set_option maxHeartbeats 4000000 in
set_option maxRecDepth 20000 in
theorem en_X10_statue {a1 : Int32} {a2 : Int32} {M : jw_Mem} {Q : Int32 → jw_Mem → Prop}  (h : (jw_M 0 mX1_hasStatue [vr 1 0, vi a1] M (fun x1 M2 => ((¬ x1 = 0 → ((a2.toInt < 0 ∨ 6 < a2.toInt → Q (-1000000002) M2) ∧ (a2.toInt = 0 → (vp_in a1 6 ∧ Q (M2 15 0 a1.toNatClampNeg) M2)) ∧ (a2.toInt = 1 → (vp_in a1 6 ∧ Q (M2 16 0 a1.toNatClampNeg) M2)) ∧ (a2.toInt = 2 → (vp_in a1 6 ∧ Q (M2 26 0 a1.toNatClampNeg) M2)) ∧ (a2.toInt = 3 → (vp_in a1 6 ∧ Q (M2 27 0 a1.toNatClampNeg) M2)) ∧ (a2.toInt = 4 → (vp_in a1 6 ∧ Q (M2 28 0 a1.toNatClampNeg) M2)) ∧ (a2.toInt = 5 → (jw_M 3 mX8_margin [vr 8 0, vi a1] M2 (fun x3 M4 => Q x3 M4))) ∧ (a2.toInt = 6 → (jw_M 1 mX8_walkersLiking [vr 8 0, vi a1] M2 (fun x5 M6 => Q x5 M6))))) ∧ (x1 = 0 → Q (-1000000001) M2))))) : jw_M 4 mX10_statue [vr 10 0, vi a1, vi a2] M Q := by
  refine jw_M.of (by decide) (Nat.le_of_ble_eq_true rfl) ?_
  show jw_J 4 mX10_statue 0 [(0, vr 10 0), (1, vi a1), (2, vi a2)] [] M Q
  refine jr_aload_n (pc := 0) dX10_statue_0 rfl 0 rfl ?_
  refine jr_get (pc := 1) (v := vr 1 0) fg_X10_24 (by decide) rfl dX10_statue_1 ?_
  refine jr_iload_n (pc := 4) dX10_statue_4 rfl 1 rfl ?_
  refine jr_callV (pc := 5) (d' := 0) (mt' := mX1_hasStatue) (k := 1) (n := 0) (As := [vi a1]) (st := []) fc_X10_179 (by decide) (by decide) (Nat.le_of_ble_eq_true rfl) rfl dX10_statue_5 (jw_M.mono h (fun x1 M2 h => ?_))
  show jw_J 4 mX10_statue 8 [(0, vr 10 0), (1, vi a1), (2, vi a2)] [vi x1] M2 Q
  refine jr_if_ne (pc := 8) (tgt := 14) dX10_statue_8 (by decide) (fun c => ?_) (fun c => ?_)
  · replace h := h.1 c
    refine jr_iload_n (pc := 14) dX10_statue_14 rfl 2 rfl ?_
    refine jr_tsw (pc := 15) dX10_statue_15 (tgt := 124) (by decide) (by decide) (fun c => ?_) (fun j c c2 => ?_)
    · replace h := h.1 c
      refine jr_ldc (pc := 124) fk_X10_88 dX10_statue_124 ?_
      exact jr_iret (pc := 126) rfl dX10_statue_126 h
    · have hj : j = 0 ∨ j = 1 ∨ j = 2 ∨ j = 3 ∨ j = 4 ∨ j = 5 ∨ j = 6 := by omega
      rcases hj with rfl | rfl | rfl | rfl | rfl | rfl | rfl
      · replace h := h.2.1 (c.trans (by decide))
        refine ⟨41, 56, rfl, by decide, ?_⟩
        refine jr_aload_n (pc := 56) dX10_statue_56 rfl 0 rfl ?_
        refine jr_get (pc := 57) (v := vr 1 0) fg_X10_24 (by decide) rfl dX10_statue_57 ?_
        refine jr_get (pc := 60) (v := vr 15 0) fg_X10_182 (by decide) rfl dX10_statue_60 ?_
        refine jr_iload_n (pc := 63) dX10_statue_63 rfl 1 rfl ?_
        refine jr_iald (pc := 64) ⟨rfl, (by decide)⟩ h.1 dX10_statue_64 ?_
        replace h := h.2
        exact jr_iret (pc := 65) rfl dX10_statue_65 h
      · replace h := h.2.2.1 (c.trans (by decide))
        refine ⟨51, 66, rfl, by decide, ?_⟩
        refine jr_aload_n (pc := 66) dX10_statue_66 rfl 0 rfl ?_
        refine jr_get (pc := 67) (v := vr 1 0) fg_X10_24 (by decide) rfl dX10_statue_67 ?_
        refine jr_get (pc := 70) (v := vr 16 0) fg_X10_185 (by decide) rfl dX10_statue_70 ?_
        refine jr_iload_n (pc := 73) dX10_statue_73 rfl 1 rfl ?_
        refine jr_iald (pc := 74) ⟨rfl, (by decide)⟩ h.1 dX10_statue_74 ?_
        replace h := h.2
        exact jr_iret (pc := 75) rfl dX10_statue_75 h
      · replace h := h.2.2.2.1 (c.trans (by decide))
        refine ⟨61, 76, rfl, by decide, ?_⟩
        refine jr_aload_n (pc := 76) dX10_statue_76 rfl 0 rfl ?_
        refine jr_get (pc := 77) (v := vr 8 0) fg_X10_28 (by decide) rfl dX10_statue_77 ?_
        refine jr_get (pc := 80) (v := vr 26 0) fg_X10_188 (by decide) rfl dX10_statue_80 ?_
        refine jr_iload_n (pc := 83) dX10_statue_83 rfl 1 rfl ?_
        refine jr_iald (pc := 84) ⟨rfl, (by decide)⟩ h.1 dX10_statue_84 ?_
        replace h := h.2
        exact jr_iret (pc := 85) rfl dX10_statue_85 h
      · replace h := h.2.2.2.2.1 (c.trans (by decide))
        refine ⟨71, 86, rfl, by decide, ?_⟩
        refine jr_aload_n (pc := 86) dX10_statue_86 rfl 0 rfl ?_
        refine jr_get (pc := 87) (v := vr 8 0) fg_X10_28 (by decide) rfl dX10_statue_87 ?_
        refine jr_get (pc := 90) (v := vr 27 0) fg_X10_191 (by decide) rfl dX10_statue_90 ?_
        refine jr_iload_n (pc := 93) dX10_statue_93 rfl 1 rfl ?_
        refine jr_iald (pc := 94) ⟨rfl, (by decide)⟩ h.1 dX10_statue_94 ?_
        replace h := h.2
        exact jr_iret (pc := 95) rfl dX10_statue_95 h
      · replace h := h.2.2.2.2.2.1 (c.trans (by decide))
        refine ⟨81, 96, rfl, by decide, ?_⟩
        refine jr_aload_n (pc := 96) dX10_statue_96 rfl 0 rfl ?_
        refine jr_get (pc := 97) (v := vr 8 0) fg_X10_28 (by decide) rfl dX10_statue_97 ?_
        refine jr_get (pc := 100) (v := vr 28 0) fg_X10_194 (by decide) rfl dX10_statue_100 ?_
        refine jr_iload_n (pc := 103) dX10_statue_103 rfl 1 rfl ?_
        refine jr_iald (pc := 104) ⟨rfl, (by decide)⟩ h.1 dX10_statue_104 ?_
        replace h := h.2
        exact jr_iret (pc := 105) rfl dX10_statue_105 h
      · replace h := h.2.2.2.2.2.2.1 (c.trans (by decide))
        refine ⟨91, 106, rfl, by decide, ?_⟩
        refine jr_aload_n (pc := 106) dX10_statue_106 rfl 0 rfl ?_
        refine jr_get (pc := 107) (v := vr 8 0) fg_X10_28 (by decide) rfl dX10_statue_107 ?_
        refine jr_iload_n (pc := 110) dX10_statue_110 rfl 1 rfl ?_
        refine jr_callV (pc := 111) (d' := 3) (mt' := mX8_margin) (k := 8) (n := 0) (As := [vi a1]) (st := []) fc_X10_197 (by decide) (by decide) (Nat.le_of_ble_eq_true rfl) rfl dX10_statue_111 (jw_M.mono h (fun x3 M4 h => ?_))
        show jw_J 4 mX10_statue 114 [(0, vr 10 0), (1, vi a1), (2, vi a2)] [vi x3] M4 Q
        exact jr_iret (pc := 114) rfl dX10_statue_114 h
      · replace h := h.2.2.2.2.2.2.2 (c.trans (by decide))
        refine ⟨100, 115, rfl, by decide, ?_⟩
        refine jr_aload_n (pc := 115) dX10_statue_115 rfl 0 rfl ?_
        refine jr_get (pc := 116) (v := vr 8 0) fg_X10_28 (by decide) rfl dX10_statue_116 ?_
        refine jr_iload_n (pc := 119) dX10_statue_119 rfl 1 rfl ?_
        refine jr_callV (pc := 120) (d' := 1) (mt' := mX8_walkersLiking) (k := 8) (n := 0) (As := [vi a1]) (st := []) fc_X10_200 (by decide) (by decide) (Nat.le_of_ble_eq_true rfl) rfl dX10_statue_120 (jw_M.mono h (fun x5 M6 h => ?_))
        show jw_J 4 mX10_statue 123 [(0, vr 10 0), (1, vi a1), (2, vi a2)] [vi x5] M6 Q
        exact jr_iret (pc := 123) rfl dX10_statue_123 h
  · replace h := h.2 c
    refine jr_ldc (pc := 11) fk_X10_164 dX10_statue_11 ?_
    exact jr_iret (pc := 13) rfl dX10_statue_13 h
theorem dX10_walker_0 : decode cX10_walker 0 = .ok (.aload_n 0, 1) := by decide +kernel
theorem dX10_walker_1 : decode cX10_walker 1 = .ok (.getfield 24, 3) := by decide +kernel
theorem dX10_walker_4 : decode cX10_walker 4 = .ok (.iload_n 1, 1) := by decide +kernel
theorem dX10_walker_5 : decode cX10_walker 5 = .ok (.invokevirtual 203, 3) := by decide +kernel
theorem dX10_walker_8 : decode cX10_walker 8 = .ok (.ifCond .ne 6, 3) := by decide +kernel
theorem dX10_walker_11 : decode cX10_walker 11 = .ok (.ldc 164, 2) := by decide +kernel
theorem dX10_walker_13 : decode cX10_walker 13 = .ok (.ireturn, 1) := by decide +kernel
theorem dX10_walker_14 : decode cX10_walker 14 = .ok (.iload_n 2, 1) := by decide +kernel
theorem dX10_walker_15 : decode cX10_walker 15 = .ok (.tableswitch 55 0 2 #[25, 35, 45], 25) := by decide +kernel
theorem dX10_walker_40 : decode cX10_walker 40 = .ok (.aload_n 0, 1) := by decide +kernel
theorem dX10_walker_41 : decode cX10_walker 41 = .ok (.getfield 28, 3) := by decide +kernel
theorem dX10_walker_44 : decode cX10_walker 44 = .ok (.getfield 206, 3) := by decide +kernel
theorem dX10_walker_47 : decode cX10_walker 47 = .ok (.iload_n 1, 1) := by decide +kernel
theorem dX10_walker_48 : decode cX10_walker 48 = .ok (.iaload, 1) := by decide +kernel
theorem dX10_walker_49 : decode cX10_walker 49 = .ok (.ireturn, 1) := by decide +kernel
theorem dX10_walker_50 : decode cX10_walker 50 = .ok (.aload_n 0, 1) := by decide +kernel
theorem dX10_walker_51 : decode cX10_walker 51 = .ok (.getfield 24, 3) := by decide +kernel
theorem dX10_walker_54 : decode cX10_walker 54 = .ok (.getfield 209, 3) := by decide +kernel
theorem dX10_walker_57 : decode cX10_walker 57 = .ok (.iload_n 1, 1) := by decide +kernel
theorem dX10_walker_58 : decode cX10_walker 58 = .ok (.iaload, 1) := by decide +kernel
theorem dX10_walker_59 : decode cX10_walker 59 = .ok (.ireturn, 1) := by decide +kernel
theorem dX10_walker_60 : decode cX10_walker 60 = .ok (.aload_n 0, 1) := by decide +kernel
theorem dX10_walker_61 : decode cX10_walker 61 = .ok (.getfield 28, 3) := by decide +kernel
theorem dX10_walker_64 : decode cX10_walker 64 = .ok (.getfield 212, 3) := by decide +kernel
theorem dX10_walker_67 : decode cX10_walker 67 = .ok (.iload_n 1, 1) := by decide +kernel
theorem dX10_walker_68 : decode cX10_walker 68 = .ok (.iaload, 1) := by decide +kernel
theorem dX10_walker_69 : decode cX10_walker 69 = .ok (.ireturn, 1) := by decide +kernel
theorem dX10_walker_70 : decode cX10_walker 70 = .ok (.ldc 88, 2) := by decide +kernel
theorem dX10_walker_72 : decode cX10_walker 72 = .ok (.ireturn, 1) := by decide +kernel
set_option maxHeartbeats 4000000 in
set_option maxRecDepth 20000 in
theorem en_X10_walker {a1 : Int32} {a2 : Int32} {M : jw_Mem} {Q : Int32 → jw_Mem → Prop}  (h : (jw_M 0 mX1_hasWalker [vr 1 0, vi a1] M (fun x1 M2 => ((¬ x1 = 0 → ((a2.toInt < 0 ∨ 2 < a2.toInt → Q (-1000000002) M2) ∧ (a2.toInt = 0 → (vp_in a1 7 ∧ Q (M2 29 0 a1.toNatClampNeg) M2)) ∧ (a2.toInt = 1 → (vp_in a1 7 ∧ Q (M2 18 0 a1.toNatClampNeg) M2)) ∧ (a2.toInt = 2 → (vp_in a1 7 ∧ Q (M2 30 0 a1.toNatClampNeg) M2)))) ∧ (x1 = 0 → Q (-1000000001) M2))))) : jw_M 1 mX10_walker [vr 10 0, vi a1, vi a2] M Q := by
  refine jw_M.of (by decide) (Nat.le_of_ble_eq_true rfl) ?_
  show jw_J 1 mX10_walker 0 [(0, vr 10 0), (1, vi a1), (2, vi a2)] [] M Q
  refine jr_aload_n (pc := 0) dX10_walker_0 rfl 0 rfl ?_
  refine jr_get (pc := 1) (v := vr 1 0) fg_X10_24 (by decide) rfl dX10_walker_1 ?_
  refine jr_iload_n (pc := 4) dX10_walker_4 rfl 1 rfl ?_
  refine jr_callV (pc := 5) (d' := 0) (mt' := mX1_hasWalker) (k := 1) (n := 0) (As := [vi a1]) (st := []) fc_X10_203 (by decide) (by decide) (Nat.le_of_ble_eq_true rfl) rfl dX10_walker_5 (jw_M.mono h (fun x1 M2 h => ?_))
  show jw_J 1 mX10_walker 8 [(0, vr 10 0), (1, vi a1), (2, vi a2)] [vi x1] M2 Q
  refine jr_if_ne (pc := 8) (tgt := 14) dX10_walker_8 (by decide) (fun c => ?_) (fun c => ?_)
  · replace h := h.1 c
    refine jr_iload_n (pc := 14) dX10_walker_14 rfl 2 rfl ?_
    refine jr_tsw (pc := 15) dX10_walker_15 (tgt := 70) (by decide) (by decide) (fun c => ?_) (fun j c c2 => ?_)
    · replace h := h.1 c
      refine jr_ldc (pc := 70) fk_X10_88 dX10_walker_70 ?_
      exact jr_iret (pc := 72) rfl dX10_walker_72 h
    · have hj : j = 0 ∨ j = 1 ∨ j = 2 := by omega
      rcases hj with rfl | rfl | rfl
      · replace h := h.2.1 (c.trans (by decide))
        refine ⟨25, 40, rfl, by decide, ?_⟩
        refine jr_aload_n (pc := 40) dX10_walker_40 rfl 0 rfl ?_
        refine jr_get (pc := 41) (v := vr 8 0) fg_X10_28 (by decide) rfl dX10_walker_41 ?_
        refine jr_get (pc := 44) (v := vr 29 0) fg_X10_206 (by decide) rfl dX10_walker_44 ?_
        refine jr_iload_n (pc := 47) dX10_walker_47 rfl 1 rfl ?_
        refine jr_iald (pc := 48) ⟨rfl, (by decide)⟩ h.1 dX10_walker_48 ?_
        replace h := h.2
        exact jr_iret (pc := 49) rfl dX10_walker_49 h
      · replace h := h.2.2.1 (c.trans (by decide))
        refine ⟨35, 50, rfl, by decide, ?_⟩
        refine jr_aload_n (pc := 50) dX10_walker_50 rfl 0 rfl ?_
        refine jr_get (pc := 51) (v := vr 1 0) fg_X10_24 (by decide) rfl dX10_walker_51 ?_
        refine jr_get (pc := 54) (v := vr 18 0) fg_X10_209 (by decide) rfl dX10_walker_54 ?_
        refine jr_iload_n (pc := 57) dX10_walker_57 rfl 1 rfl ?_
        refine jr_iald (pc := 58) ⟨rfl, (by decide)⟩ h.1 dX10_walker_58 ?_
        replace h := h.2
        exact jr_iret (pc := 59) rfl dX10_walker_59 h
      · replace h := h.2.2.2 (c.trans (by decide))
        refine ⟨45, 60, rfl, by decide, ?_⟩
        refine jr_aload_n (pc := 60) dX10_walker_60 rfl 0 rfl ?_
        refine jr_get (pc := 61) (v := vr 8 0) fg_X10_28 (by decide) rfl dX10_walker_61 ?_
        refine jr_get (pc := 64) (v := vr 30 0) fg_X10_212 (by decide) rfl dX10_walker_64 ?_
        refine jr_iload_n (pc := 67) dX10_walker_67 rfl 1 rfl ?_
        refine jr_iald (pc := 68) ⟨rfl, (by decide)⟩ h.1 dX10_walker_68 ?_
        replace h := h.2
        exact jr_iret (pc := 69) rfl dX10_walker_69 h
  · replace h := h.2 c
    refine jr_ldc (pc := 11) fk_X10_164 dX10_walker_11 ?_
    exact jr_iret (pc := 13) rfl dX10_walker_13 h
theorem dX10_year_0 : decode cX10_year 0 = .ok (.aload_n 0, 1) := by decide +kernel
theorem dX10_year_1 : decode cX10_year 1 = .ok (.iload_n 1, 1) := by decide +kernel
theorem dX10_year_2 : decode cX10_year 2 = .ok (.invokevirtual 215, 3) := by decide +kernel
theorem dX10_year_5 : decode cX10_year 5 = .ok (.istore_n 2, 1) := by decide +kernel
theorem dX10_year_6 : decode cX10_year 6 = .ok (.iload_n 2, 1) := by decide +kernel
theorem dX10_year_7 : decode cX10_year 7 = .ok (.ifCond .eq 5, 3) := by decide +kernel
theorem dX10_year_10 : decode cX10_year 10 = .ok (.iload_n 2, 1) := by decide +kernel
theorem dX10_year_11 : decode cX10_year 11 = .ok (.ireturn, 1) := by decide +kernel
theorem dX10_year_12 : decode cX10_year 12 = .ok (.aload_n 0, 1) := by decide +kernel
theorem dX10_year_13 : decode cX10_year 13 = .ok (.getfield 77, 3) := by decide +kernel
theorem dX10_year_16 : decode cX10_year 16 = .ok (.aload_n 0, 1) := by decide +kernel
theorem dX10_year_17 : decode cX10_year 17 = .ok (.getfield 28, 3) := by decide +kernel
theorem dX10_year_20 : decode cX10_year 20 = .ok (.invokevirtual 218, 3) := by decide +kernel
theorem dX10_year_23 : decode cX10_year 23 = .ok (.iconst 0, 1) := by decide +kernel
theorem dX10_year_24 : decode cX10_year 24 = .ok (.istore_n 3, 1) := by decide +kernel
theorem dX10_year_25 : decode cX10_year 25 = .ok (.iload_n 3, 1) := by decide +kernel
theorem dX10_year_26 : decode cX10_year 26 = .ok (.iload_n 1, 1) := by decide +kernel
theorem dX10_year_27 : decode cX10_year 27 = .ok (.if_icmp .ge 16, 3) := by decide +kernel
theorem dX10_year_30 : decode cX10_year 30 = .ok (.aload_n 0, 1) := by decide +kernel
theorem dX10_year_31 : decode cX10_year 31 = .ok (.getfield 28, 3) := by decide +kernel
theorem dX10_year_34 : decode cX10_year 34 = .ok (.invokevirtual 221, 3) := by decide +kernel
theorem dX10_year_37 : decode cX10_year 37 = .ok (.iinc 3 1, 3) := by decide +kernel
theorem dX10_year_40 : decode cX10_year 40 = .ok (.goto (-15), 3) := by decide +kernel
theorem dX10_year_43 : decode cX10_year 43 = .ok (.aload_n 0, 1) := by decide +kernel
theorem dX10_year_44 : decode cX10_year 44 = .ok (.getfield 28, 3) := by decide +kernel
theorem dX10_year_47 : decode cX10_year 47 = .ok (.invokevirtual 140, 3) := by decide +kernel
theorem dX10_year_50 : decode cX10_year 50 = .ok (.ireturn, 1) := by decide +kernel
set_option maxHeartbeats 4000000 in
set_option maxRecDepth 20000 in
theorem en_X10_year {a1 : Int32} {M : jw_Mem} {Q : Int32 → jw_Mem → Prop}  (h : (jw_M 0 mX10_refusalOfYears [vr 10 0, vi a1] M (fun x1 M2 => ((x1 = 0 → (jw_M 2 mX3_push [vr 3 0, vr 8 0] M2 (fun x3 M4 => jw_J 6 mX10_year 25 [(0, vr 10 0), (1, vi a1), (3, vi 0)] [] M4 Q))) ∧ (¬ x1 = 0 → Q x1 M2))))) : jw_M 6 mX10_year [vr 10 0, vi a1] M Q := by
  refine jw_M.of (by decide) (Nat.le_of_ble_eq_true rfl) ?_
  show jw_J 6 mX10_year 0 [(0, vr 10 0), (1, vi a1)] [] M Q
  refine jr_aload_n (pc := 0) dX10_year_0 rfl 0 rfl ?_
  refine jr_iload_n (pc := 1) dX10_year_1 rfl 1 rfl ?_
  refine jr_callV (pc := 2) (d' := 0) (mt' := mX10_refusalOfYears) (k := 10) (n := 0) (As := [vi a1]) (st := []) fc_X10_215 (by decide) (by decide) (Nat.le_of_ble_eq_true rfl) rfl dX10_year_2 (jw_M.mono h (fun x1 M2 h => ?_))
  show jw_J 6 mX10_year 5 [(0, vr 10 0), (1, vi a1)] [vi x1] M2 Q
  refine jr_istore_n (pc := 5) (lv' := [(2, vi x1), (0, vr 10 0), (1, vi a1)]) dX10_year_5 rfl (by decide) rfl ?_
  refine jr_iload_n (pc := 6) dX10_year_6 rfl 0 rfl ?_
  refine jr_if_eq (pc := 7) (tgt := 12) dX10_year_7 (by decide) (fun c => ?_) (fun c => ?_)
  · replace h := h.1 c
    refine jr_aload_n (pc := 12) dX10_year_12 rfl 1 rfl ?_
    refine jr_get (pc := 13) (v := vr 3 0) fg_X10_77 (by decide) rfl dX10_year_13 ?_
    refine jr_aload_n (pc := 16) dX10_year_16 rfl 1 rfl ?_
    refine jr_get (pc := 17) (v := vr 8 0) fg_X10_28 (by decide) rfl dX10_year_17 ?_
    refine jr_callV (pc := 20) (d' := 2) (mt' := mX3_push) (k := 3) (n := 0) (As := [vr 8 0]) (st := []) fc_X10_218 (by decide) (by decide) (Nat.le_of_ble_eq_true rfl) rfl dX10_year_20 (jw_M.mono h (fun x3 M4 h => ?_))
    show jw_J 6 mX10_year 23 [(2, vi x1), (0, vr 10 0), (1, vi a1)] [] M4 Q
    refine jr_iconst (pc := 23) (v := 0) dX10_year_23 (by decide) ?_
    refine jr_istore_n (pc := 24) (lv' := [(3, vi 0), (2, vi x1), (0, vr 10 0), (1, vi a1)]) dX10_year_24 rfl (by decide) rfl ?_
    exact jr_sub [2, 3, 0] rfl h
  · replace h := h.2 c
    refine jr_iload_n (pc := 10) dX10_year_10 rfl 0 rfl ?_
    exact jr_iret (pc := 11) rfl dX10_year_11 h
set_option maxHeartbeats 4000000 in
set_option maxRecDepth 20000 in
theorem bk_X10_year_25 {v1 : Int32} {v3 : Int32} {M : jw_Mem} {Q : Int32 → jw_Mem → Prop}  (h : ((v1 ≤ v3 → (jw_M 2 mX8_standers [vr 8 0] M (fun x5 M6 => Q x5 M6))) ∧ (¬ v1 ≤ v3 → (jw_M 5 mX8_passYear [vr 8 0] M (fun x7 M8 => jw_J 6 mX10_year 25 [(0, vr 10 0), (1, vi v1), (3, vi (v3 + 1))] [] M8 Q))))) : jw_J 6 mX10_year 25 [(0, vr 10 0), (1, vi v1), (3, vi v3)] [] M Q := by
  refine jr_iload_n (pc := 25) dX10_year_25 rfl 2 rfl ?_
  refine jr_iload_n (pc := 26) dX10_year_26 rfl 1 rfl ?_
  refine jr_icmp_ge (pc := 27) (tgt := 43) dX10_year_27 (by decide) (fun c => ?_) (fun c => ?_)
  · replace h := h.1 c
    refine jr_aload_n (pc := 43) dX10_year_43 rfl 0 rfl ?_
    refine jr_get (pc := 44) (v := vr 8 0) fg_X10_28 (by decide) rfl dX10_year_44 ?_
    refine jr_callV (pc := 47) (d' := 2) (mt' := mX8_standers) (k := 8) (n := 0) (As := []) (st := []) fc_X10_140 (by decide) (by decide) (Nat.le_of_ble_eq_true rfl) rfl dX10_year_47 (jw_M.mono h (fun x5 M6 h => ?_))
    show jw_J 6 mX10_year 50 [(0, vr 10 0), (1, vi v1), (3, vi v3)] [vi x5] M6 Q
    exact jr_iret (pc := 50) rfl dX10_year_50 h
  · replace h := h.2 c
    refine jr_aload_n (pc := 30) dX10_year_30 rfl 0 rfl ?_
    refine jr_get (pc := 31) (v := vr 8 0) fg_X10_28 (by decide) rfl dX10_year_31 ?_
    refine jr_callV (pc := 34) (d' := 5) (mt' := mX8_passYear) (k := 8) (n := 0) (As := []) (st := []) fc_X10_221 (by decide) (by decide) (Nat.le_of_ble_eq_true rfl) rfl dX10_year_34 (jw_M.mono h (fun x7 M8 h => ?_))
    show jw_J 6 mX10_year 37 [(0, vr 10 0), (1, vi v1), (3, vi v3)] [] M8 Q
    refine jr_iinc (pc := 37) (lv' := [(3, vi (v3 + 1)), (0, vr 10 0), (1, vi v1)]) (q := 2) dX10_year_37 rfl (by rfl) (by decide) rfl ?_
    refine jr_goto (pc := 40) (tgt := 25) dX10_year_40 (by decide) ?_
    exact jr_sub [1, 2, 0] rfl h
theorem dX10_stand_0 : decode cX10_stand 0 = .ok (.aload_n 0, 1) := by decide +kernel
theorem dX10_stand_1 : decode cX10_stand 1 = .ok (.getfield 24, 3) := by decide +kernel
theorem dX10_stand_4 : decode cX10_stand 4 = .ok (.iload_n 1, 1) := by decide +kernel
theorem dX10_stand_5 : decode cX10_stand 5 = .ok (.invokevirtual 179, 3) := by decide +kernel
theorem dX10_stand_8 : decode cX10_stand 8 = .ok (.ifCond .eq 14, 3) := by decide +kernel
theorem dX10_stand_11 : decode cX10_stand 11 = .ok (.aload_n 0, 1) := by decide +kernel
theorem dX10_stand_12 : decode cX10_stand 12 = .ok (.getfield 24, 3) := by decide +kernel
theorem dX10_stand_15 : decode cX10_stand 15 = .ok (.iload_n 2, 1) := by decide +kernel
theorem dX10_stand_16 : decode cX10_stand 16 = .ok (.invokevirtual 161, 3) := by decide +kernel
theorem dX10_stand_19 : decode cX10_stand 19 = .ok (.ifCond .ne 6, 3) := by decide +kernel
theorem dX10_stand_22 : decode cX10_stand 22 = .ok (.ldc 164, 2) := by decide +kernel
theorem dX10_stand_24 : decode cX10_stand 24 = .ok (.ireturn, 1) := by decide +kernel
theorem dX10_stand_25 : decode cX10_stand 25 = .ok (.aload_n 0, 1) := by decide +kernel
theorem dX10_stand_26 : decode cX10_stand 26 = .ok (.getfield 28, 3) := by decide +kernel
theorem dX10_stand_29 : decode cX10_stand 29 = .ok (.iload_n 1, 1) := by decide +kernel
theorem dX10_stand_30 : decode cX10_stand 30 = .ok (.iload_n 2, 1) := by decide +kernel
theorem dX10_stand_31 : decode cX10_stand 31 = .ok (.invokevirtual 224, 3) := by decide +kernel
theorem dX10_stand_34 : decode cX10_stand 34 = .ok (.ifCond .ne 6, 3) := by decide +kernel
theorem dX10_stand_37 : decode cX10_stand 37 = .ok (.ldc 228, 2) := by decide +kernel
theorem dX10_stand_39 : decode cX10_stand 39 = .ok (.ireturn, 1) := by decide +kernel
theorem dX10_stand_40 : decode cX10_stand 40 = .ok (.aload_n 0, 1) := by decide +kernel
theorem dX10_stand_41 : decode cX10_stand 41 = .ok (.getfield 77, 3) := by decide +kernel
theorem dX10_stand_44 : decode cX10_stand 44 = .ok (.aload_n 0, 1) := by decide +kernel
theorem dX10_stand_45 : decode cX10_stand 45 = .ok (.getfield 28, 3) := by decide +kernel
theorem dX10_stand_48 : decode cX10_stand 48 = .ok (.invokevirtual 218, 3) := by decide +kernel
theorem dX10_stand_51 : decode cX10_stand 51 = .ok (.aload_n 0, 1) := by decide +kernel
theorem dX10_stand_52 : decode cX10_stand 52 = .ok (.getfield 28, 3) := by decide +kernel
theorem dX10_stand_55 : decode cX10_stand 55 = .ok (.getfield 188, 3) := by decide +kernel
theorem dX10_stand_58 : decode cX10_stand 58 = .ok (.iload_n 1, 1) := by decide +kernel
theorem dX10_stand_59 : decode cX10_stand 59 = .ok (.iload_n 2, 1) := by decide +kernel
theorem dX10_stand_60 : decode cX10_stand 60 = .ok (.iastore, 1) := by decide +kernel
theorem dX10_stand_61 : decode cX10_stand 61 = .ok (.aload_n 0, 1) := by decide +kernel
theorem dX10_stand_62 : decode cX10_stand 62 = .ok (.getfield 28, 3) := by decide +kernel
theorem dX10_stand_65 : decode cX10_stand 65 = .ok (.iload_n 1, 1) := by decide +kernel
theorem dX10_stand_66 : decode cX10_stand 66 = .ok (.invokevirtual 197, 3) := by decide +kernel
theorem dX10_stand_69 : decode cX10_stand 69 = .ok (.ireturn, 1) := by decide +kernel
set_option maxHeartbeats 4000000 in
set_option maxRecDepth 20000 in
theorem en_X10_stand {a1 : Int32} {a2 : Int32} {M : jw_Mem} {Q : Int32 → jw_Mem → Prop}  (h : (jw_M 0 mX1_hasStatue [vr 1 0, vi a1] M (fun x1 M2 => ((x1 = 0 → Q (-1000000001) M2) ∧ (¬ x1 = 0 → (jw_M 0 mX1_hasPlinth [vr 1 0, vi a2] M2 (fun x3 M4 => ((¬ x3 = 0 → (jw_M 2 mX8_canStand [vr 8 0, vi a1, vi a2] M4 (fun x5 M6 => ((¬ x5 = 0 → (jw_M 2 mX3_push [vr 3 0, vr 8 0] M6 (fun x7 M8 => (vp_in a1 6 ∧ (∀ M9 : jw_Mem, M9 = jw_up M8 26 0 a1.toNatClampNeg a2 → (jw_M 3 mX8_margin [vr 8 0, vi a1] M9 (fun x10 M11 => Q x10 M11))))))) ∧ (x5 = 0 → Q (-1000000003) M6))))) ∧ (x3 = 0 → Q (-1000000001) M4))))))))) : jw_M 4 mX10_stand [vr 10 0, vi a1, vi a2] M Q := by
  refine jw_M.of (by decide) (Nat.le_of_ble_eq_true rfl) ?_
  show jw_J 4 mX10_stand 0 [(0, vr 10 0), (1, vi a1), (2, vi a2)] [] M Q
  refine jr_aload_n (pc := 0) dX10_stand_0 rfl 0 rfl ?_
  refine jr_get (pc := 1) (v := vr 1 0) fg_X10_24 (by decide) rfl dX10_stand_1 ?_
  refine jr_iload_n (pc := 4) dX10_stand_4 rfl 1 rfl ?_
  refine jr_callV (pc := 5) (d' := 0) (mt' := mX1_hasStatue) (k := 1) (n := 0) (As := [vi a1]) (st := []) fc_X10_179 (by decide) (by decide) (Nat.le_of_ble_eq_true rfl) rfl dX10_stand_5 (jw_M.mono h (fun x1 M2 h => ?_))
  show jw_J 4 mX10_stand 8 [(0, vr 10 0), (1, vi a1), (2, vi a2)] [vi x1] M2 Q
  refine jr_if_eq (pc := 8) (tgt := 22) dX10_stand_8 (by decide) (fun c => ?_) (fun c => ?_)
  · replace h := h.1 c
    refine jr_ldc (pc := 22) fk_X10_164 dX10_stand_22 ?_
    exact jr_iret (pc := 24) rfl dX10_stand_24 h
  · replace h := h.2 c
    refine jr_aload_n (pc := 11) dX10_stand_11 rfl 0 rfl ?_
    refine jr_get (pc := 12) (v := vr 1 0) fg_X10_24 (by decide) rfl dX10_stand_12 ?_
    refine jr_iload_n (pc := 15) dX10_stand_15 rfl 2 rfl ?_
    refine jr_callV (pc := 16) (d' := 0) (mt' := mX1_hasPlinth) (k := 1) (n := 0) (As := [vi a2]) (st := []) fc_X10_161 (by decide) (by decide) (Nat.le_of_ble_eq_true rfl) rfl dX10_stand_16 (jw_M.mono h (fun x3 M4 h => ?_))
    show jw_J 4 mX10_stand 19 [(0, vr 10 0), (1, vi a1), (2, vi a2)] [vi x3] M4 Q
    refine jr_if_ne (pc := 19) (tgt := 25) dX10_stand_19 (by decide) (fun c => ?_) (fun c => ?_)
    · replace h := h.1 c
      refine jr_aload_n (pc := 25) dX10_stand_25 rfl 0 rfl ?_
      refine jr_get (pc := 26) (v := vr 8 0) fg_X10_28 (by decide) rfl dX10_stand_26 ?_
      refine jr_iload_n (pc := 29) dX10_stand_29 rfl 1 rfl ?_
      refine jr_iload_n (pc := 30) dX10_stand_30 rfl 2 rfl ?_
      refine jr_callV (pc := 31) (d' := 2) (mt' := mX8_canStand) (k := 8) (n := 0) (As := [vi a1, vi a2]) (st := []) fc_X10_224 (by decide) (by decide) (Nat.le_of_ble_eq_true rfl) rfl dX10_stand_31 (jw_M.mono h (fun x5 M6 h => ?_))
      show jw_J 4 mX10_stand 34 [(0, vr 10 0), (1, vi a1), (2, vi a2)] [vi x5] M6 Q
      refine jr_if_ne (pc := 34) (tgt := 40) dX10_stand_34 (by decide) (fun c => ?_) (fun c => ?_)
      · replace h := h.1 c
        refine jr_aload_n (pc := 40) dX10_stand_40 rfl 0 rfl ?_
        refine jr_get (pc := 41) (v := vr 3 0) fg_X10_77 (by decide) rfl dX10_stand_41 ?_
        refine jr_aload_n (pc := 44) dX10_stand_44 rfl 0 rfl ?_
        refine jr_get (pc := 45) (v := vr 8 0) fg_X10_28 (by decide) rfl dX10_stand_45 ?_
        refine jr_callV (pc := 48) (d' := 2) (mt' := mX3_push) (k := 3) (n := 0) (As := [vr 8 0]) (st := []) fc_X10_218 (by decide) (by decide) (Nat.le_of_ble_eq_true rfl) rfl dX10_stand_48 (jw_M.mono h (fun x7 M8 h => ?_))
        show jw_J 4 mX10_stand 51 [(0, vr 10 0), (1, vi a1), (2, vi a2)] [] M8 Q
        refine jr_aload_n (pc := 51) dX10_stand_51 rfl 0 rfl ?_
        refine jr_get (pc := 52) (v := vr 8 0) fg_X10_28 (by decide) rfl dX10_stand_52 ?_
        refine jr_get (pc := 55) (v := vr 26 0) fg_X10_188 (by decide) rfl dX10_stand_55 ?_
        refine jr_iload_n (pc := 58) dX10_stand_58 rfl 1 rfl ?_
        refine jr_iload_n (pc := 59) dX10_stand_59 rfl 2 rfl ?_
        refine jr_iast (pc := 60) ⟨rfl, (by decide)⟩ h.1 dX10_stand_60 ?_
        replace h := h.2
        replace h := h _ rfl
        generalize jw_up M8 26 0 a1.toNatClampNeg a2 = M9 at h ⊢
        refine jr_aload_n (pc := 61) dX10_stand_61 rfl 0 rfl ?_
        refine jr_get (pc := 62) (v := vr 8 0) fg_X10_28 (by decide) rfl dX10_stand_62 ?_
        refine jr_iload_n (pc := 65) dX10_stand_65 rfl 1 rfl ?_
        refine jr_callV (pc := 66) (d' := 3) (mt' := mX8_margin) (k := 8) (n := 0) (As := [vi a1]) (st := []) fc_X10_197 (by decide) (by decide) (Nat.le_of_ble_eq_true rfl) rfl dX10_stand_66 (jw_M.mono h (fun x10 M11 h => ?_))
        show jw_J 4 mX10_stand 69 [(0, vr 10 0), (1, vi a1), (2, vi a2)] [vi x10] M11 Q
        exact jr_iret (pc := 69) rfl dX10_stand_69 h
      · replace h := h.2 c
        refine jr_ldc (pc := 37) fk_X10_228 dX10_stand_37 ?_
        exact jr_iret (pc := 39) rfl dX10_stand_39 h
    · replace h := h.2 c
      refine jr_ldc (pc := 22) fk_X10_164 dX10_stand_22 ?_
      exact jr_iret (pc := 24) rfl dX10_stand_24 h
theorem dX10_down_0 : decode cX10_down 0 = .ok (.aload_n 0, 1) := by decide +kernel
theorem dX10_down_1 : decode cX10_down 1 = .ok (.getfield 24, 3) := by decide +kernel
theorem dX10_down_4 : decode cX10_down 4 = .ok (.iload_n 1, 1) := by decide +kernel
theorem dX10_down_5 : decode cX10_down 5 = .ok (.invokevirtual 179, 3) := by decide +kernel
theorem dX10_down_8 : decode cX10_down 8 = .ok (.ifCond .ne 6, 3) := by decide +kernel
theorem dX10_down_11 : decode cX10_down 11 = .ok (.ldc 164, 2) := by decide +kernel
theorem dX10_down_13 : decode cX10_down 13 = .ok (.ireturn, 1) := by decide +kernel
theorem dX10_down_14 : decode cX10_down 14 = .ok (.aload_n 0, 1) := by decide +kernel
theorem dX10_down_15 : decode cX10_down 15 = .ok (.getfield 28, 3) := by decide +kernel
theorem dX10_down_18 : decode cX10_down 18 = .ok (.iload_n 1, 1) := by decide +kernel
theorem dX10_down_19 : decode cX10_down 19 = .ok (.invokevirtual 229, 3) := by decide +kernel
theorem dX10_down_22 : decode cX10_down 22 = .ok (.ifCond .ne 6, 3) := by decide +kernel
theorem dX10_down_25 : decode cX10_down 25 = .ok (.ldc 228, 2) := by decide +kernel
theorem dX10_down_27 : decode cX10_down 27 = .ok (.ireturn, 1) := by decide +kernel
theorem dX10_down_28 : decode cX10_down 28 = .ok (.aload_n 0, 1) := by decide +kernel
theorem dX10_down_29 : decode cX10_down 29 = .ok (.getfield 77, 3) := by decide +kernel
theorem dX10_down_32 : decode cX10_down 32 = .ok (.aload_n 0, 1) := by decide +kernel
theorem dX10_down_33 : decode cX10_down 33 = .ok (.getfield 28, 3) := by decide +kernel
theorem dX10_down_36 : decode cX10_down 36 = .ok (.invokevirtual 218, 3) := by decide +kernel
theorem dX10_down_39 : decode cX10_down 39 = .ok (.aload_n 0, 1) := by decide +kernel
theorem dX10_down_40 : decode cX10_down 40 = .ok (.getfield 28, 3) := by decide +kernel
theorem dX10_down_43 : decode cX10_down 43 = .ok (.getfield 188, 3) := by decide +kernel
theorem dX10_down_46 : decode cX10_down 46 = .ok (.iload_n 1, 1) := by decide +kernel
theorem dX10_down_47 : decode cX10_down 47 = .ok (.iaload, 1) := by decide +kernel
theorem dX10_down_48 : decode cX10_down 48 = .ok (.istore_n 2, 1) := by decide +kernel
theorem dX10_down_49 : decode cX10_down 49 = .ok (.aload_n 0, 1) := by decide +kernel
theorem dX10_down_50 : decode cX10_down 50 = .ok (.getfield 28, 3) := by decide +kernel
theorem dX10_down_53 : decode cX10_down 53 = .ok (.getfield 188, 3) := by decide +kernel
theorem dX10_down_56 : decode cX10_down 56 = .ok (.iload_n 1, 1) := by decide +kernel
theorem dX10_down_57 : decode cX10_down 57 = .ok (.iconst (-1), 1) := by decide +kernel
theorem dX10_down_58 : decode cX10_down 58 = .ok (.iastore, 1) := by decide +kernel
theorem dX10_down_59 : decode cX10_down 59 = .ok (.iload_n 2, 1) := by decide +kernel
theorem dX10_down_60 : decode cX10_down 60 = .ok (.ireturn, 1) := by decide +kernel
set_option maxHeartbeats 4000000 in
set_option maxRecDepth 20000 in
theorem en_X10_down {a1 : Int32} {M : jw_Mem} {Q : Int32 → jw_Mem → Prop}  (h : (jw_M 0 mX1_hasStatue [vr 1 0, vi a1] M (fun x1 M2 => ((¬ x1 = 0 → (jw_M 1 mX8_stands [vr 8 0, vi a1] M2 (fun x3 M4 => ((¬ x3 = 0 → (jw_M 2 mX3_push [vr 3 0, vr 8 0] M4 (fun x5 M6 => (vp_in a1 6 ∧ (vp_in a1 6 ∧ (∀ M7 : jw_Mem, M7 = jw_up M6 26 0 a1.toNatClampNeg (-1) → Q (M6 26 0 a1.toNatClampNeg) M7)))))) ∧ (x3 = 0 → Q (-1000000003) M4))))) ∧ (x1 = 0 → Q (-1000000001) M2))))) : jw_M 3 mX10_down [vr 10 0, vi a1] M Q := by
  refine jw_M.of (by decide) (Nat.le_of_ble_eq_true rfl) ?_
  show jw_J 3 mX10_down 0 [(0, vr 10 0), (1, vi a1)] [] M Q
  refine jr_aload_n (pc := 0) dX10_down_0 rfl 0 rfl ?_
  refine jr_get (pc := 1) (v := vr 1 0) fg_X10_24 (by decide) rfl dX10_down_1 ?_
  refine jr_iload_n (pc := 4) dX10_down_4 rfl 1 rfl ?_
  refine jr_callV (pc := 5) (d' := 0) (mt' := mX1_hasStatue) (k := 1) (n := 0) (As := [vi a1]) (st := []) fc_X10_179 (by decide) (by decide) (Nat.le_of_ble_eq_true rfl) rfl dX10_down_5 (jw_M.mono h (fun x1 M2 h => ?_))
  show jw_J 3 mX10_down 8 [(0, vr 10 0), (1, vi a1)] [vi x1] M2 Q
  refine jr_if_ne (pc := 8) (tgt := 14) dX10_down_8 (by decide) (fun c => ?_) (fun c => ?_)
  · replace h := h.1 c
    refine jr_aload_n (pc := 14) dX10_down_14 rfl 0 rfl ?_
    refine jr_get (pc := 15) (v := vr 8 0) fg_X10_28 (by decide) rfl dX10_down_15 ?_
    refine jr_iload_n (pc := 18) dX10_down_18 rfl 1 rfl ?_
    refine jr_callV (pc := 19) (d' := 1) (mt' := mX8_stands) (k := 8) (n := 0) (As := [vi a1]) (st := []) fc_X10_229 (by decide) (by decide) (Nat.le_of_ble_eq_true rfl) rfl dX10_down_19 (jw_M.mono h (fun x3 M4 h => ?_))
    show jw_J 3 mX10_down 22 [(0, vr 10 0), (1, vi a1)] [vi x3] M4 Q
    refine jr_if_ne (pc := 22) (tgt := 28) dX10_down_22 (by decide) (fun c => ?_) (fun c => ?_)
    · replace h := h.1 c
      refine jr_aload_n (pc := 28) dX10_down_28 rfl 0 rfl ?_
      refine jr_get (pc := 29) (v := vr 3 0) fg_X10_77 (by decide) rfl dX10_down_29 ?_
      refine jr_aload_n (pc := 32) dX10_down_32 rfl 0 rfl ?_
      refine jr_get (pc := 33) (v := vr 8 0) fg_X10_28 (by decide) rfl dX10_down_33 ?_
      refine jr_callV (pc := 36) (d' := 2) (mt' := mX3_push) (k := 3) (n := 0) (As := [vr 8 0]) (st := []) fc_X10_218 (by decide) (by decide) (Nat.le_of_ble_eq_true rfl) rfl dX10_down_36 (jw_M.mono h (fun x5 M6 h => ?_))
      show jw_J 3 mX10_down 39 [(0, vr 10 0), (1, vi a1)] [] M6 Q
      refine jr_aload_n (pc := 39) dX10_down_39 rfl 0 rfl ?_
      refine jr_get (pc := 40) (v := vr 8 0) fg_X10_28 (by decide) rfl dX10_down_40 ?_
      refine jr_get (pc := 43) (v := vr 26 0) fg_X10_188 (by decide) rfl dX10_down_43 ?_
      refine jr_iload_n (pc := 46) dX10_down_46 rfl 1 rfl ?_
      refine jr_iald (pc := 47) ⟨rfl, (by decide)⟩ h.1 dX10_down_47 ?_
      replace h := h.2
      refine jr_istore_n (pc := 48) (lv' := [(2, vi (M6 26 0 a1.toNatClampNeg)), (0, vr 10 0), (1, vi a1)]) dX10_down_48 rfl (by decide) rfl ?_
      refine jr_aload_n (pc := 49) dX10_down_49 rfl 1 rfl ?_
      refine jr_get (pc := 50) (v := vr 8 0) fg_X10_28 (by decide) rfl dX10_down_50 ?_
      refine jr_get (pc := 53) (v := vr 26 0) fg_X10_188 (by decide) rfl dX10_down_53 ?_
      refine jr_iload_n (pc := 56) dX10_down_56 rfl 2 rfl ?_
      refine jr_iconst (pc := 57) (v := (-1)) dX10_down_57 (by decide) ?_
      refine jr_iast (pc := 58) ⟨rfl, (by decide)⟩ h.1 dX10_down_58 ?_
      replace h := h.2
      replace h := h _ rfl
      generalize jw_up M6 26 0 a1.toNatClampNeg (-1) = M7 at h ⊢
      refine jr_iload_n (pc := 59) dX10_down_59 rfl 0 rfl ?_
      exact jr_iret (pc := 60) rfl dX10_down_60 h
    · replace h := h.2 c
      refine jr_ldc (pc := 25) fk_X10_228 dX10_down_25 ?_
      exact jr_iret (pc := 27) rfl dX10_down_27 h
  · replace h := h.2 c
    refine jr_ldc (pc := 11) fk_X10_164 dX10_down_11 ?_
    exact jr_iret (pc := 13) rfl dX10_down_13 h
theorem dX10_scrub_0 : decode cX10_scrub 0 = .ok (.aload_n 0, 1) := by decide +kernel
theorem dX10_scrub_1 : decode cX10_scrub 1 = .ok (.getfield 24, 3) := by decide +kernel
theorem dX10_scrub_4 : decode cX10_scrub 4 = .ok (.iload_n 1, 1) := by decide +kernel
theorem dX10_scrub_5 : decode cX10_scrub 5 = .ok (.invokevirtual 179, 3) := by decide +kernel
theorem dX10_scrub_8 : decode cX10_scrub 8 = .ok (.ifCond .ne 6, 3) := by decide +kernel
theorem dX10_scrub_11 : decode cX10_scrub 11 = .ok (.ldc 164, 2) := by decide +kernel
theorem dX10_scrub_13 : decode cX10_scrub 13 = .ok (.ireturn, 1) := by decide +kernel
theorem dX10_scrub_14 : decode cX10_scrub 14 = .ok (.aload_n 0, 1) := by decide +kernel
theorem dX10_scrub_15 : decode cX10_scrub 15 = .ok (.getfield 77, 3) := by decide +kernel
theorem dX10_scrub_18 : decode cX10_scrub 18 = .ok (.aload_n 0, 1) := by decide +kernel
theorem dX10_scrub_19 : decode cX10_scrub 19 = .ok (.getfield 28, 3) := by decide +kernel
theorem dX10_scrub_22 : decode cX10_scrub 22 = .ok (.invokevirtual 218, 3) := by decide +kernel
theorem dX10_scrub_25 : decode cX10_scrub 25 = .ok (.aload_n 0, 1) := by decide +kernel
theorem dX10_scrub_26 : decode cX10_scrub 26 = .ok (.getfield 28, 3) := by decide +kernel
theorem dX10_scrub_29 : decode cX10_scrub 29 = .ok (.getfield 191, 3) := by decide +kernel
theorem dX10_scrub_32 : decode cX10_scrub 32 = .ok (.iload_n 1, 1) := by decide +kernel
theorem dX10_scrub_33 : decode cX10_scrub 33 = .ok (.iaload, 1) := by decide +kernel
theorem dX10_scrub_34 : decode cX10_scrub 34 = .ok (.istore_n 2, 1) := by decide +kernel
theorem dX10_scrub_35 : decode cX10_scrub 35 = .ok (.aload_n 0, 1) := by decide +kernel
theorem dX10_scrub_36 : decode cX10_scrub 36 = .ok (.getfield 28, 3) := by decide +kernel
theorem dX10_scrub_39 : decode cX10_scrub 39 = .ok (.getfield 191, 3) := by decide +kernel
theorem dX10_scrub_42 : decode cX10_scrub 42 = .ok (.iload_n 1, 1) := by decide +kernel
theorem dX10_scrub_43 : decode cX10_scrub 43 = .ok (.iconst 0, 1) := by decide +kernel
theorem dX10_scrub_44 : decode cX10_scrub 44 = .ok (.iastore, 1) := by decide +kernel
theorem dX10_scrub_45 : decode cX10_scrub 45 = .ok (.iload_n 2, 1) := by decide +kernel
theorem dX10_scrub_46 : decode cX10_scrub 46 = .ok (.ireturn, 1) := by decide +kernel
set_option maxHeartbeats 4000000 in
set_option maxRecDepth 20000 in
theorem en_X10_scrub {a1 : Int32} {M : jw_Mem} {Q : Int32 → jw_Mem → Prop}  (h : (jw_M 0 mX1_hasStatue [vr 1 0, vi a1] M (fun x1 M2 => ((¬ x1 = 0 → (jw_M 2 mX3_push [vr 3 0, vr 8 0] M2 (fun x3 M4 => (vp_in a1 6 ∧ (vp_in a1 6 ∧ (∀ M5 : jw_Mem, M5 = jw_up M4 27 0 a1.toNatClampNeg 0 → Q (M4 27 0 a1.toNatClampNeg) M5)))))) ∧ (x1 = 0 → Q (-1000000001) M2))))) : jw_M 3 mX10_scrub [vr 10 0, vi a1] M Q := by
  refine jw_M.of (by decide) (Nat.le_of_ble_eq_true rfl) ?_
  show jw_J 3 mX10_scrub 0 [(0, vr 10 0), (1, vi a1)] [] M Q
  refine jr_aload_n (pc := 0) dX10_scrub_0 rfl 0 rfl ?_
  refine jr_get (pc := 1) (v := vr 1 0) fg_X10_24 (by decide) rfl dX10_scrub_1 ?_
  refine jr_iload_n (pc := 4) dX10_scrub_4 rfl 1 rfl ?_
  refine jr_callV (pc := 5) (d' := 0) (mt' := mX1_hasStatue) (k := 1) (n := 0) (As := [vi a1]) (st := []) fc_X10_179 (by decide) (by decide) (Nat.le_of_ble_eq_true rfl) rfl dX10_scrub_5 (jw_M.mono h (fun x1 M2 h => ?_))
  show jw_J 3 mX10_scrub 8 [(0, vr 10 0), (1, vi a1)] [vi x1] M2 Q
  refine jr_if_ne (pc := 8) (tgt := 14) dX10_scrub_8 (by decide) (fun c => ?_) (fun c => ?_)
  · replace h := h.1 c
    refine jr_aload_n (pc := 14) dX10_scrub_14 rfl 0 rfl ?_
    refine jr_get (pc := 15) (v := vr 3 0) fg_X10_77 (by decide) rfl dX10_scrub_15 ?_
    refine jr_aload_n (pc := 18) dX10_scrub_18 rfl 0 rfl ?_
    refine jr_get (pc := 19) (v := vr 8 0) fg_X10_28 (by decide) rfl dX10_scrub_19 ?_
    refine jr_callV (pc := 22) (d' := 2) (mt' := mX3_push) (k := 3) (n := 0) (As := [vr 8 0]) (st := []) fc_X10_218 (by decide) (by decide) (Nat.le_of_ble_eq_true rfl) rfl dX10_scrub_22 (jw_M.mono h (fun x3 M4 h => ?_))
    show jw_J 3 mX10_scrub 25 [(0, vr 10 0), (1, vi a1)] [] M4 Q
    refine jr_aload_n (pc := 25) dX10_scrub_25 rfl 0 rfl ?_
    refine jr_get (pc := 26) (v := vr 8 0) fg_X10_28 (by decide) rfl dX10_scrub_26 ?_
    refine jr_get (pc := 29) (v := vr 27 0) fg_X10_191 (by decide) rfl dX10_scrub_29 ?_
    refine jr_iload_n (pc := 32) dX10_scrub_32 rfl 1 rfl ?_
    refine jr_iald (pc := 33) ⟨rfl, (by decide)⟩ h.1 dX10_scrub_33 ?_
    replace h := h.2
    refine jr_istore_n (pc := 34) (lv' := [(2, vi (M4 27 0 a1.toNatClampNeg)), (0, vr 10 0), (1, vi a1)]) dX10_scrub_34 rfl (by decide) rfl ?_
    refine jr_aload_n (pc := 35) dX10_scrub_35 rfl 1 rfl ?_
    refine jr_get (pc := 36) (v := vr 8 0) fg_X10_28 (by decide) rfl dX10_scrub_36 ?_
    refine jr_get (pc := 39) (v := vr 27 0) fg_X10_191 (by decide) rfl dX10_scrub_39 ?_
    refine jr_iload_n (pc := 42) dX10_scrub_42 rfl 2 rfl ?_
    refine jr_iconst (pc := 43) (v := 0) dX10_scrub_43 (by decide) ?_
    refine jr_iast (pc := 44) ⟨rfl, (by decide)⟩ h.1 dX10_scrub_44 ?_
    replace h := h.2
    replace h := h _ rfl
    generalize jw_up M4 27 0 a1.toNatClampNeg 0 = M5 at h ⊢
    refine jr_iload_n (pc := 45) dX10_scrub_45 rfl 0 rfl ?_
    exact jr_iret (pc := 46) rfl dX10_scrub_46 h
  · replace h := h.2 c
    refine jr_ldc (pc := 11) fk_X10_164 dX10_scrub_11 ?_
    exact jr_iret (pc := 13) rfl dX10_scrub_13 h
theorem dX10_walk_0 : decode cX10_walk 0 = .ok (.aload_n 0, 1) := by decide +kernel
theorem dX10_walk_1 : decode cX10_walk 1 = .ok (.getfield 24, 3) := by decide +kernel
theorem dX10_walk_4 : decode cX10_walk 4 = .ok (.iload_n 1, 1) := by decide +kernel
theorem dX10_walk_5 : decode cX10_walk 5 = .ok (.invokevirtual 203, 3) := by decide +kernel
theorem dX10_walk_8 : decode cX10_walk 8 = .ok (.ifCond .eq 14, 3) := by decide +kernel
theorem dX10_walk_11 : decode cX10_walk 11 = .ok (.aload_n 0, 1) := by decide +kernel
theorem dX10_walk_12 : decode cX10_walk 12 = .ok (.getfield 24, 3) := by decide +kernel
theorem dX10_walk_15 : decode cX10_walk 15 = .ok (.iload_n 2, 1) := by decide +kernel
theorem dX10_walk_16 : decode cX10_walk 16 = .ok (.invokevirtual 232, 3) := by decide +kernel
theorem dX10_walk_19 : decode cX10_walk 19 = .ok (.ifCond .ne 6, 3) := by decide +kernel
theorem dX10_walk_22 : decode cX10_walk 22 = .ok (.ldc 164, 2) := by decide +kernel
theorem dX10_walk_24 : decode cX10_walk 24 = .ok (.ireturn, 1) := by decide +kernel
theorem dX10_walk_25 : decode cX10_walk 25 = .ok (.aload_n 0, 1) := by decide +kernel
theorem dX10_walk_26 : decode cX10_walk 26 = .ok (.getfield 77, 3) := by decide +kernel
theorem dX10_walk_29 : decode cX10_walk 29 = .ok (.aload_n 0, 1) := by decide +kernel
theorem dX10_walk_30 : decode cX10_walk 30 = .ok (.getfield 28, 3) := by decide +kernel
theorem dX10_walk_33 : decode cX10_walk 33 = .ok (.invokevirtual 218, 3) := by decide +kernel
theorem dX10_walk_36 : decode cX10_walk 36 = .ok (.aload_n 0, 1) := by decide +kernel
theorem dX10_walk_37 : decode cX10_walk 37 = .ok (.getfield 28, 3) := by decide +kernel
theorem dX10_walk_40 : decode cX10_walk 40 = .ok (.getfield 206, 3) := by decide +kernel
theorem dX10_walk_43 : decode cX10_walk 43 = .ok (.iload_n 1, 1) := by decide +kernel
theorem dX10_walk_44 : decode cX10_walk 44 = .ok (.iaload, 1) := by decide +kernel
theorem dX10_walk_45 : decode cX10_walk 45 = .ok (.istore_n 3, 1) := by decide +kernel
theorem dX10_walk_46 : decode cX10_walk 46 = .ok (.aload_n 0, 1) := by decide +kernel
theorem dX10_walk_47 : decode cX10_walk 47 = .ok (.getfield 28, 3) := by decide +kernel
theorem dX10_walk_50 : decode cX10_walk 50 = .ok (.getfield 206, 3) := by decide +kernel
theorem dX10_walk_53 : decode cX10_walk 53 = .ok (.iload_n 1, 1) := by decide +kernel
theorem dX10_walk_54 : decode cX10_walk 54 = .ok (.iload_n 2, 1) := by decide +kernel
theorem dX10_walk_55 : decode cX10_walk 55 = .ok (.iastore, 1) := by decide +kernel
theorem dX10_walk_56 : decode cX10_walk 56 = .ok (.iload_n 3, 1) := by decide +kernel
theorem dX10_walk_57 : decode cX10_walk 57 = .ok (.ireturn, 1) := by decide +kernel
set_option maxHeartbeats 4000000 in
set_option maxRecDepth 20000 in
theorem en_X10_walk {a1 : Int32} {a2 : Int32} {M : jw_Mem} {Q : Int32 → jw_Mem → Prop}  (h : (jw_M 0 mX1_hasWalker [vr 1 0, vi a1] M (fun x1 M2 => ((x1 = 0 → Q (-1000000001) M2) ∧ (¬ x1 = 0 → (jw_M 0 mX1_isSetOfPlinths [vr 1 0, vi a2] M2 (fun x3 M4 => ((¬ x3 = 0 → (jw_M 2 mX3_push [vr 3 0, vr 8 0] M4 (fun x5 M6 => (vp_in a1 7 ∧ (vp_in a1 7 ∧ (∀ M7 : jw_Mem, M7 = jw_up M6 29 0 a1.toNatClampNeg a2 → Q (M6 29 0 a1.toNatClampNeg) M7)))))) ∧ (x3 = 0 → Q (-1000000001) M4))))))))) : jw_M 3 mX10_walk [vr 10 0, vi a1, vi a2] M Q := by
  refine jw_M.of (by decide) (Nat.le_of_ble_eq_true rfl) ?_
  show jw_J 3 mX10_walk 0 [(0, vr 10 0), (1, vi a1), (2, vi a2)] [] M Q
  refine jr_aload_n (pc := 0) dX10_walk_0 rfl 0 rfl ?_
  refine jr_get (pc := 1) (v := vr 1 0) fg_X10_24 (by decide) rfl dX10_walk_1 ?_
  refine jr_iload_n (pc := 4) dX10_walk_4 rfl 1 rfl ?_
  refine jr_callV (pc := 5) (d' := 0) (mt' := mX1_hasWalker) (k := 1) (n := 0) (As := [vi a1]) (st := []) fc_X10_203 (by decide) (by decide) (Nat.le_of_ble_eq_true rfl) rfl dX10_walk_5 (jw_M.mono h (fun x1 M2 h => ?_))
  show jw_J 3 mX10_walk 8 [(0, vr 10 0), (1, vi a1), (2, vi a2)] [vi x1] M2 Q
  refine jr_if_eq (pc := 8) (tgt := 22) dX10_walk_8 (by decide) (fun c => ?_) (fun c => ?_)
  · replace h := h.1 c
    refine jr_ldc (pc := 22) fk_X10_164 dX10_walk_22 ?_
    exact jr_iret (pc := 24) rfl dX10_walk_24 h
  · replace h := h.2 c
    refine jr_aload_n (pc := 11) dX10_walk_11 rfl 0 rfl ?_
    refine jr_get (pc := 12) (v := vr 1 0) fg_X10_24 (by decide) rfl dX10_walk_12 ?_
    refine jr_iload_n (pc := 15) dX10_walk_15 rfl 2 rfl ?_
    refine jr_callV (pc := 16) (d' := 0) (mt' := mX1_isSetOfPlinths) (k := 1) (n := 0) (As := [vi a2]) (st := []) fc_X10_232 (by decide) (by decide) (Nat.le_of_ble_eq_true rfl) rfl dX10_walk_16 (jw_M.mono h (fun x3 M4 h => ?_))
    show jw_J 3 mX10_walk 19 [(0, vr 10 0), (1, vi a1), (2, vi a2)] [vi x3] M4 Q
    refine jr_if_ne (pc := 19) (tgt := 25) dX10_walk_19 (by decide) (fun c => ?_) (fun c => ?_)
    · replace h := h.1 c
      refine jr_aload_n (pc := 25) dX10_walk_25 rfl 0 rfl ?_
      refine jr_get (pc := 26) (v := vr 3 0) fg_X10_77 (by decide) rfl dX10_walk_26 ?_
      refine jr_aload_n (pc := 29) dX10_walk_29 rfl 0 rfl ?_
      refine jr_get (pc := 30) (v := vr 8 0) fg_X10_28 (by decide) rfl dX10_walk_30 ?_
      refine jr_callV (pc := 33) (d' := 2) (mt' := mX3_push) (k := 3) (n := 0) (As := [vr 8 0]) (st := []) fc_X10_218 (by decide) (by decide) (Nat.le_of_ble_eq_true rfl) rfl dX10_walk_33 (jw_M.mono h (fun x5 M6 h => ?_))
      show jw_J 3 mX10_walk 36 [(0, vr 10 0), (1, vi a1), (2, vi a2)] [] M6 Q
      refine jr_aload_n (pc := 36) dX10_walk_36 rfl 0 rfl ?_
      refine jr_get (pc := 37) (v := vr 8 0) fg_X10_28 (by decide) rfl dX10_walk_37 ?_
      refine jr_get (pc := 40) (v := vr 29 0) fg_X10_206 (by decide) rfl dX10_walk_40 ?_
      refine jr_iload_n (pc := 43) dX10_walk_43 rfl 1 rfl ?_
      refine jr_iald (pc := 44) ⟨rfl, (by decide)⟩ h.1 dX10_walk_44 ?_
      replace h := h.2
      refine jr_istore_n (pc := 45) (lv' := [(3, vi (M6 29 0 a1.toNatClampNeg)), (0, vr 10 0), (1, vi a1), (2, vi a2)]) dX10_walk_45 rfl (by decide) rfl ?_
      refine jr_aload_n (pc := 46) dX10_walk_46 rfl 1 rfl ?_
      refine jr_get (pc := 47) (v := vr 8 0) fg_X10_28 (by decide) rfl dX10_walk_47 ?_
      refine jr_get (pc := 50) (v := vr 29 0) fg_X10_206 (by decide) rfl dX10_walk_50 ?_
      refine jr_iload_n (pc := 53) dX10_walk_53 rfl 2 rfl ?_
      refine jr_iload_n (pc := 54) dX10_walk_54 rfl 3 rfl ?_
      refine jr_iast (pc := 55) ⟨rfl, (by decide)⟩ h.1 dX10_walk_55 ?_
      replace h := h.2
      replace h := h _ rfl
      generalize jw_up M6 29 0 a1.toNatClampNeg a2 = M7 at h ⊢
      refine jr_iload_n (pc := 56) dX10_walk_56 rfl 0 rfl ?_
      exact jr_iret (pc := 57) rfl dX10_walk_57 h
    · replace h := h.2 c
      refine jr_ldc (pc := 22) fk_X10_164 dX10_walk_22 ?_
      exact jr_iret (pc := 24) rfl dX10_walk_24 h
theorem dX10_like_0 : decode cX10_like 0 = .ok (.aload_n 0, 1) := by decide +kernel
theorem dX10_like_1 : decode cX10_like 1 = .ok (.getfield 24, 3) := by decide +kernel
theorem dX10_like_4 : decode cX10_like 4 = .ok (.iload_n 1, 1) := by decide +kernel
theorem dX10_like_5 : decode cX10_like 5 = .ok (.invokevirtual 203, 3) := by decide +kernel
theorem dX10_like_8 : decode cX10_like 8 = .ok (.ifCond .eq 14, 3) := by decide +kernel
theorem dX10_like_11 : decode cX10_like 11 = .ok (.aload_n 0, 1) := by decide +kernel
theorem dX10_like_12 : decode cX10_like 12 = .ok (.getfield 24, 3) := by decide +kernel
theorem dX10_like_15 : decode cX10_like 15 = .ok (.iload_n 2, 1) := by decide +kernel
theorem dX10_like_16 : decode cX10_like 16 = .ok (.invokevirtual 235, 3) := by decide +kernel
theorem dX10_like_19 : decode cX10_like 19 = .ok (.ifCond .ne 6, 3) := by decide +kernel
theorem dX10_like_22 : decode cX10_like 22 = .ok (.ldc 164, 2) := by decide +kernel
theorem dX10_like_24 : decode cX10_like 24 = .ok (.ireturn, 1) := by decide +kernel
theorem dX10_like_25 : decode cX10_like 25 = .ok (.aload_n 0, 1) := by decide +kernel
theorem dX10_like_26 : decode cX10_like 26 = .ok (.getfield 77, 3) := by decide +kernel
theorem dX10_like_29 : decode cX10_like 29 = .ok (.aload_n 0, 1) := by decide +kernel
theorem dX10_like_30 : decode cX10_like 30 = .ok (.getfield 28, 3) := by decide +kernel
theorem dX10_like_33 : decode cX10_like 33 = .ok (.invokevirtual 218, 3) := by decide +kernel
theorem dX10_like_36 : decode cX10_like 36 = .ok (.aload_n 0, 1) := by decide +kernel
theorem dX10_like_37 : decode cX10_like 37 = .ok (.getfield 28, 3) := by decide +kernel
theorem dX10_like_40 : decode cX10_like 40 = .ok (.getfield 212, 3) := by decide +kernel
theorem dX10_like_43 : decode cX10_like 43 = .ok (.iload_n 1, 1) := by decide +kernel
theorem dX10_like_44 : decode cX10_like 44 = .ok (.iaload, 1) := by decide +kernel
theorem dX10_like_45 : decode cX10_like 45 = .ok (.istore_n 3, 1) := by decide +kernel
theorem dX10_like_46 : decode cX10_like 46 = .ok (.aload_n 0, 1) := by decide +kernel
theorem dX10_like_47 : decode cX10_like 47 = .ok (.getfield 28, 3) := by decide +kernel
theorem dX10_like_50 : decode cX10_like 50 = .ok (.getfield 212, 3) := by decide +kernel
theorem dX10_like_53 : decode cX10_like 53 = .ok (.iload_n 1, 1) := by decide +kernel
theorem dX10_like_54 : decode cX10_like 54 = .ok (.iload_n 2, 1) := by decide +kernel
theorem dX10_like_55 : decode cX10_like 55 = .ok (.iastore, 1) := by decide +kernel
theorem dX10_like_56 : decode cX10_like 56 = .ok (.iload_n 3, 1) := by decide +kernel
theorem dX10_like_57 : decode cX10_like 57 = .ok (.ireturn, 1) := by decide +kernel
set_option maxHeartbeats 4000000 in
set_option maxRecDepth 20000 in
theorem en_X10_like {a1 : Int32} {a2 : Int32} {M : jw_Mem} {Q : Int32 → jw_Mem → Prop}  (h : (jw_M 0 mX1_hasWalker [vr 1 0, vi a1] M (fun x1 M2 => ((x1 = 0 → Q (-1000000001) M2) ∧ (¬ x1 = 0 → (jw_M 0 mX1_isSetOfStatues [vr 1 0, vi a2] M2 (fun x3 M4 => ((¬ x3 = 0 → (jw_M 2 mX3_push [vr 3 0, vr 8 0] M4 (fun x5 M6 => (vp_in a1 7 ∧ (vp_in a1 7 ∧ (∀ M7 : jw_Mem, M7 = jw_up M6 30 0 a1.toNatClampNeg a2 → Q (M6 30 0 a1.toNatClampNeg) M7)))))) ∧ (x3 = 0 → Q (-1000000001) M4))))))))) : jw_M 3 mX10_like [vr 10 0, vi a1, vi a2] M Q := by
  refine jw_M.of (by decide) (Nat.le_of_ble_eq_true rfl) ?_
  show jw_J 3 mX10_like 0 [(0, vr 10 0), (1, vi a1), (2, vi a2)] [] M Q
  refine jr_aload_n (pc := 0) dX10_like_0 rfl 0 rfl ?_
  refine jr_get (pc := 1) (v := vr 1 0) fg_X10_24 (by decide) rfl dX10_like_1 ?_
  refine jr_iload_n (pc := 4) dX10_like_4 rfl 1 rfl ?_
  refine jr_callV (pc := 5) (d' := 0) (mt' := mX1_hasWalker) (k := 1) (n := 0) (As := [vi a1]) (st := []) fc_X10_203 (by decide) (by decide) (Nat.le_of_ble_eq_true rfl) rfl dX10_like_5 (jw_M.mono h (fun x1 M2 h => ?_))
  show jw_J 3 mX10_like 8 [(0, vr 10 0), (1, vi a1), (2, vi a2)] [vi x1] M2 Q
  refine jr_if_eq (pc := 8) (tgt := 22) dX10_like_8 (by decide) (fun c => ?_) (fun c => ?_)
  · replace h := h.1 c
    refine jr_ldc (pc := 22) fk_X10_164 dX10_like_22 ?_
    exact jr_iret (pc := 24) rfl dX10_like_24 h
  · replace h := h.2 c
    refine jr_aload_n (pc := 11) dX10_like_11 rfl 0 rfl ?_
    refine jr_get (pc := 12) (v := vr 1 0) fg_X10_24 (by decide) rfl dX10_like_12 ?_
    refine jr_iload_n (pc := 15) dX10_like_15 rfl 2 rfl ?_
    refine jr_callV (pc := 16) (d' := 0) (mt' := mX1_isSetOfStatues) (k := 1) (n := 0) (As := [vi a2]) (st := []) fc_X10_235 (by decide) (by decide) (Nat.le_of_ble_eq_true rfl) rfl dX10_like_16 (jw_M.mono h (fun x3 M4 h => ?_))
    show jw_J 3 mX10_like 19 [(0, vr 10 0), (1, vi a1), (2, vi a2)] [vi x3] M4 Q
    refine jr_if_ne (pc := 19) (tgt := 25) dX10_like_19 (by decide) (fun c => ?_) (fun c => ?_)
    · replace h := h.1 c
      refine jr_aload_n (pc := 25) dX10_like_25 rfl 0 rfl ?_
      refine jr_get (pc := 26) (v := vr 3 0) fg_X10_77 (by decide) rfl dX10_like_26 ?_
      refine jr_aload_n (pc := 29) dX10_like_29 rfl 0 rfl ?_
      refine jr_get (pc := 30) (v := vr 8 0) fg_X10_28 (by decide) rfl dX10_like_30 ?_
      refine jr_callV (pc := 33) (d' := 2) (mt' := mX3_push) (k := 3) (n := 0) (As := [vr 8 0]) (st := []) fc_X10_218 (by decide) (by decide) (Nat.le_of_ble_eq_true rfl) rfl dX10_like_33 (jw_M.mono h (fun x5 M6 h => ?_))
      show jw_J 3 mX10_like 36 [(0, vr 10 0), (1, vi a1), (2, vi a2)] [] M6 Q
      refine jr_aload_n (pc := 36) dX10_like_36 rfl 0 rfl ?_
      refine jr_get (pc := 37) (v := vr 8 0) fg_X10_28 (by decide) rfl dX10_like_37 ?_
      refine jr_get (pc := 40) (v := vr 30 0) fg_X10_212 (by decide) rfl dX10_like_40 ?_
      refine jr_iload_n (pc := 43) dX10_like_43 rfl 1 rfl ?_
      refine jr_iald (pc := 44) ⟨rfl, (by decide)⟩ h.1 dX10_like_44 ?_
      replace h := h.2
      refine jr_istore_n (pc := 45) (lv' := [(3, vi (M6 30 0 a1.toNatClampNeg)), (0, vr 10 0), (1, vi a1), (2, vi a2)]) dX10_like_45 rfl (by decide) rfl ?_
      refine jr_aload_n (pc := 46) dX10_like_46 rfl 1 rfl ?_
      refine jr_get (pc := 47) (v := vr 8 0) fg_X10_28 (by decide) rfl dX10_like_47 ?_
      refine jr_get (pc := 50) (v := vr 30 0) fg_X10_212 (by decide) rfl dX10_like_50 ?_
      refine jr_iload_n (pc := 53) dX10_like_53 rfl 2 rfl ?_
      refine jr_iload_n (pc := 54) dX10_like_54 rfl 3 rfl ?_
      refine jr_iast (pc := 55) ⟨rfl, (by decide)⟩ h.1 dX10_like_55 ?_
      replace h := h.2
      replace h := h _ rfl
      generalize jw_up M6 30 0 a1.toNatClampNeg a2 = M7 at h ⊢
      refine jr_iload_n (pc := 56) dX10_like_56 rfl 0 rfl ?_
      exact jr_iret (pc := 57) rfl dX10_like_57 h
    · replace h := h.2 c
      refine jr_ldc (pc := 22) fk_X10_164 dX10_like_22 ?_
      exact jr_iret (pc := 24) rfl dX10_like_24 h
theorem dX10_drift_0 : decode cX10_drift 0 = .ok (.aload_n 0, 1) := by decide +kernel
theorem dX10_drift_1 : decode cX10_drift 1 = .ok (.iload_n 1, 1) := by decide +kernel
theorem dX10_drift_2 : decode cX10_drift 2 = .ok (.invokevirtual 215, 3) := by decide +kernel
theorem dX10_drift_5 : decode cX10_drift 5 = .ok (.istore_n 2, 1) := by decide +kernel
theorem dX10_drift_6 : decode cX10_drift 6 = .ok (.iload_n 2, 1) := by decide +kernel
theorem dX10_drift_7 : decode cX10_drift 7 = .ok (.ifCond .eq 5, 3) := by decide +kernel
theorem dX10_drift_10 : decode cX10_drift 10 = .ok (.iload_n 2, 1) := by decide +kernel
theorem dX10_drift_11 : decode cX10_drift 11 = .ok (.ireturn, 1) := by decide +kernel
theorem dX10_drift_12 : decode cX10_drift 12 = .ok (.aload_n 0, 1) := by decide +kernel
theorem dX10_drift_13 : decode cX10_drift 13 = .ok (.getfield 77, 3) := by decide +kernel
theorem dX10_drift_16 : decode cX10_drift 16 = .ok (.aload_n 0, 1) := by decide +kernel
theorem dX10_drift_17 : decode cX10_drift 17 = .ok (.getfield 28, 3) := by decide +kernel
theorem dX10_drift_20 : decode cX10_drift 20 = .ok (.invokevirtual 218, 3) := by decide +kernel
theorem dX10_drift_23 : decode cX10_drift 23 = .ok (.iconst 0, 1) := by decide +kernel
theorem dX10_drift_24 : decode cX10_drift 24 = .ok (.istore_n 3, 1) := by decide +kernel
theorem dX10_drift_25 : decode cX10_drift 25 = .ok (.iload_n 3, 1) := by decide +kernel
theorem dX10_drift_26 : decode cX10_drift 26 = .ok (.iload_n 1, 1) := by decide +kernel
theorem dX10_drift_27 : decode cX10_drift 27 = .ok (.if_icmp .ge 23, 3) := by decide +kernel
theorem dX10_drift_30 : decode cX10_drift 30 = .ok (.aload_n 0, 1) := by decide +kernel
theorem dX10_drift_31 : decode cX10_drift 31 = .ok (.getfield 70, 3) := by decide +kernel
theorem dX10_drift_34 : decode cX10_drift 34 = .ok (.invokevirtual 238, 3) := by decide +kernel
theorem dX10_drift_37 : decode cX10_drift 37 = .ok (.aload_n 0, 1) := by decide +kernel
theorem dX10_drift_38 : decode cX10_drift 38 = .ok (.getfield 28, 3) := by decide +kernel
theorem dX10_drift_41 : decode cX10_drift 41 = .ok (.invokevirtual 221, 3) := by decide +kernel
theorem dX10_drift_44 : decode cX10_drift 44 = .ok (.iinc 3 1, 3) := by decide +kernel
theorem dX10_drift_47 : decode cX10_drift 47 = .ok (.goto (-22), 3) := by decide +kernel
theorem dX10_drift_50 : decode cX10_drift 50 = .ok (.aload_n 0, 1) := by decide +kernel
theorem dX10_drift_51 : decode cX10_drift 51 = .ok (.getfield 28, 3) := by decide +kernel
theorem dX10_drift_54 : decode cX10_drift 54 = .ok (.invokevirtual 140, 3) := by decide +kernel
theorem dX10_drift_57 : decode cX10_drift 57 = .ok (.ireturn, 1) := by decide +kernel
set_option maxHeartbeats 4000000 in
set_option maxRecDepth 20000 in
theorem en_X10_drift {a1 : Int32} {M : jw_Mem} {Q : Int32 → jw_Mem → Prop}  (h : (jw_M 0 mX10_refusalOfYears [vr 10 0, vi a1] M (fun x1 M2 => ((x1 = 0 → (jw_M 2 mX3_push [vr 3 0, vr 8 0] M2 (fun x3 M4 => jw_J 6 mX10_drift 25 [(0, vr 10 0), (1, vi a1), (3, vi 0)] [] M4 Q))) ∧ (¬ x1 = 0 → Q x1 M2))))) : jw_M 6 mX10_drift [vr 10 0, vi a1] M Q := by
  refine jw_M.of (by decide) (Nat.le_of_ble_eq_true rfl) ?_
  show jw_J 6 mX10_drift 0 [(0, vr 10 0), (1, vi a1)] [] M Q
  refine jr_aload_n (pc := 0) dX10_drift_0 rfl 0 rfl ?_
  refine jr_iload_n (pc := 1) dX10_drift_1 rfl 1 rfl ?_
  refine jr_callV (pc := 2) (d' := 0) (mt' := mX10_refusalOfYears) (k := 10) (n := 0) (As := [vi a1]) (st := []) fc_X10_215 (by decide) (by decide) (Nat.le_of_ble_eq_true rfl) rfl dX10_drift_2 (jw_M.mono h (fun x1 M2 h => ?_))
  show jw_J 6 mX10_drift 5 [(0, vr 10 0), (1, vi a1)] [vi x1] M2 Q
  refine jr_istore_n (pc := 5) (lv' := [(2, vi x1), (0, vr 10 0), (1, vi a1)]) dX10_drift_5 rfl (by decide) rfl ?_
  refine jr_iload_n (pc := 6) dX10_drift_6 rfl 0 rfl ?_
  refine jr_if_eq (pc := 7) (tgt := 12) dX10_drift_7 (by decide) (fun c => ?_) (fun c => ?_)
  · replace h := h.1 c
    refine jr_aload_n (pc := 12) dX10_drift_12 rfl 1 rfl ?_
    refine jr_get (pc := 13) (v := vr 3 0) fg_X10_77 (by decide) rfl dX10_drift_13 ?_
    refine jr_aload_n (pc := 16) dX10_drift_16 rfl 1 rfl ?_
    refine jr_get (pc := 17) (v := vr 8 0) fg_X10_28 (by decide) rfl dX10_drift_17 ?_
    refine jr_callV (pc := 20) (d' := 2) (mt' := mX3_push) (k := 3) (n := 0) (As := [vr 8 0]) (st := []) fc_X10_218 (by decide) (by decide) (Nat.le_of_ble_eq_true rfl) rfl dX10_drift_20 (jw_M.mono h (fun x3 M4 h => ?_))
    show jw_J 6 mX10_drift 23 [(2, vi x1), (0, vr 10 0), (1, vi a1)] [] M4 Q
    refine jr_iconst (pc := 23) (v := 0) dX10_drift_23 (by decide) ?_
    refine jr_istore_n (pc := 24) (lv' := [(3, vi 0), (2, vi x1), (0, vr 10 0), (1, vi a1)]) dX10_drift_24 rfl (by decide) rfl ?_
    exact jr_sub [2, 3, 0] rfl h
  · replace h := h.2 c
    refine jr_iload_n (pc := 10) dX10_drift_10 rfl 0 rfl ?_
    exact jr_iret (pc := 11) rfl dX10_drift_11 h
set_option maxHeartbeats 4000000 in
set_option maxRecDepth 20000 in
theorem bk_X10_drift_25 {v1 : Int32} {v3 : Int32} {M : jw_Mem} {Q : Int32 → jw_Mem → Prop}  (h : ((v1 ≤ v3 → (jw_M 2 mX8_standers [vr 8 0] M (fun x5 M6 => Q x5 M6))) ∧ (¬ v1 ≤ v3 → (jw_M 4 mX2_befall [vr 2 0] M (fun x7 M8 => (jw_M 5 mX8_passYear [vr 8 0] M8 (fun x9 M10 => jw_J 6 mX10_drift 25 [(0, vr 10 0), (1, vi v1), (3, vi (v3 + 1))] [] M10 Q))))))) : jw_J 6 mX10_drift 25 [(0, vr 10 0), (1, vi v1), (3, vi v3)] [] M Q := by
  refine jr_iload_n (pc := 25) dX10_drift_25 rfl 2 rfl ?_
  refine jr_iload_n (pc := 26) dX10_drift_26 rfl 1 rfl ?_
  refine jr_icmp_ge (pc := 27) (tgt := 50) dX10_drift_27 (by decide) (fun c => ?_) (fun c => ?_)
  · replace h := h.1 c
    refine jr_aload_n (pc := 50) dX10_drift_50 rfl 0 rfl ?_
    refine jr_get (pc := 51) (v := vr 8 0) fg_X10_28 (by decide) rfl dX10_drift_51 ?_
    refine jr_callV (pc := 54) (d' := 2) (mt' := mX8_standers) (k := 8) (n := 0) (As := []) (st := []) fc_X10_140 (by decide) (by decide) (Nat.le_of_ble_eq_true rfl) rfl dX10_drift_54 (jw_M.mono h (fun x5 M6 h => ?_))
    show jw_J 6 mX10_drift 57 [(0, vr 10 0), (1, vi v1), (3, vi v3)] [vi x5] M6 Q
    exact jr_iret (pc := 57) rfl dX10_drift_57 h
  · replace h := h.2 c
    refine jr_aload_n (pc := 30) dX10_drift_30 rfl 0 rfl ?_
    refine jr_get (pc := 31) (v := vr 2 0) fg_X10_70 (by decide) rfl dX10_drift_31 ?_
    refine jr_callV (pc := 34) (d' := 4) (mt' := mX2_befall) (k := 2) (n := 0) (As := []) (st := []) fc_X10_238 (by decide) (by decide) (Nat.le_of_ble_eq_true rfl) rfl dX10_drift_34 (jw_M.mono h (fun x7 M8 h => ?_))
    show jw_J 6 mX10_drift 37 [(0, vr 10 0), (1, vi v1), (3, vi v3)] [] M8 Q
    refine jr_aload_n (pc := 37) dX10_drift_37 rfl 0 rfl ?_
    refine jr_get (pc := 38) (v := vr 8 0) fg_X10_28 (by decide) rfl dX10_drift_38 ?_
    refine jr_callV (pc := 41) (d' := 5) (mt' := mX8_passYear) (k := 8) (n := 0) (As := []) (st := []) fc_X10_221 (by decide) (by decide) (Nat.le_of_ble_eq_true rfl) rfl dX10_drift_41 (jw_M.mono h (fun x9 M10 h => ?_))
    show jw_J 6 mX10_drift 44 [(0, vr 10 0), (1, vi v1), (3, vi v3)] [] M10 Q
    refine jr_iinc (pc := 44) (lv' := [(3, vi (v3 + 1)), (0, vr 10 0), (1, vi v1)]) (q := 2) dX10_drift_44 rfl (by rfl) (by decide) rfl ?_
    refine jr_goto (pc := 47) (tgt := 25) dX10_drift_47 (by decide) ?_
    exact jr_sub [1, 2, 0] rfl h
theorem dX10_undo_0 : decode cX10_undo 0 = .ok (.aload_n 0, 1) := by decide +kernel
theorem dX10_undo_1 : decode cX10_undo 1 = .ok (.getfield 77, 3) := by decide +kernel
theorem dX10_undo_4 : decode cX10_undo 4 = .ok (.getfield 160, 3) := by decide +kernel
theorem dX10_undo_7 : decode cX10_undo 7 = .ok (.ifCond .ne 6, 3) := by decide +kernel
theorem dX10_undo_10 : decode cX10_undo 10 = .ok (.ldc 228, 2) := by decide +kernel
theorem dX10_undo_12 : decode cX10_undo 12 = .ok (.ireturn, 1) := by decide +kernel
theorem dX10_undo_13 : decode cX10_undo 13 = .ok (.aload_n 0, 1) := by decide +kernel
theorem dX10_undo_14 : decode cX10_undo 14 = .ok (.getfield 77, 3) := by decide +kernel
theorem dX10_undo_17 : decode cX10_undo 17 = .ok (.aload_n 0, 1) := by decide +kernel
theorem dX10_undo_18 : decode cX10_undo 18 = .ok (.getfield 28, 3) := by decide +kernel
theorem dX10_undo_21 : decode cX10_undo 21 = .ok (.invokevirtual 241, 3) := by decide +kernel
theorem dX10_undo_24 : decode cX10_undo 24 = .ok (.aload_n 0, 1) := by decide +kernel
theorem dX10_undo_25 : decode cX10_undo 25 = .ok (.getfield 77, 3) := by decide +kernel
theorem dX10_undo_28 : decode cX10_undo 28 = .ok (.getfield 160, 3) := by decide +kernel
theorem dX10_undo_31 : decode cX10_undo 31 = .ok (.ireturn, 1) := by decide +kernel
set_option maxHeartbeats 4000000 in
set_option maxRecDepth 20000 in
theorem en_X10_undo {M : jw_Mem} {Q : Int32 → jw_Mem → Prop}  (h : ((¬ (M 3 0 2) = 0 → (jw_M 2 mX3_popInto [vr 3 0, vr 8 0] M (fun x1 M2 => Q (M2 3 0 2) M2))) ∧ ((M 3 0 2) = 0 → Q (-1000000003) M))) : jw_M 3 mX10_undo [vr 10 0] M Q := by
  refine jw_M.of (by decide) (Nat.le_of_ble_eq_true rfl) ?_
  show jw_J 3 mX10_undo 0 [(0, vr 10 0)] [] M Q
  refine jr_aload_n (pc := 0) dX10_undo_0 rfl 0 rfl ?_
  refine jr_get (pc := 1) (v := vr 3 0) fg_X10_77 (by decide) rfl dX10_undo_1 ?_
  refine jr_get (pc := 4) (v := vi (M 3 0 2)) fg_X10_160 (by decide) rfl dX10_undo_4 ?_
  refine jr_if_ne (pc := 7) (tgt := 13) dX10_undo_7 (by decide) (fun c => ?_) (fun c => ?_)
  · replace h := h.1 c
    refine jr_aload_n (pc := 13) dX10_undo_13 rfl 0 rfl ?_
    refine jr_get (pc := 14) (v := vr 3 0) fg_X10_77 (by decide) rfl dX10_undo_14 ?_
    refine jr_aload_n (pc := 17) dX10_undo_17 rfl 0 rfl ?_
    refine jr_get (pc := 18) (v := vr 8 0) fg_X10_28 (by decide) rfl dX10_undo_18 ?_
    refine jr_callV (pc := 21) (d' := 2) (mt' := mX3_popInto) (k := 3) (n := 0) (As := [vr 8 0]) (st := []) fc_X10_241 (by decide) (by decide) (Nat.le_of_ble_eq_true rfl) rfl dX10_undo_21 (jw_M.mono h (fun x1 M2 h => ?_))
    show jw_J 3 mX10_undo 24 [(0, vr 10 0)] [] M2 Q
    refine jr_aload_n (pc := 24) dX10_undo_24 rfl 0 rfl ?_
    refine jr_get (pc := 25) (v := vr 3 0) fg_X10_77 (by decide) rfl dX10_undo_25 ?_
    refine jr_get (pc := 28) (v := vi (M2 3 0 2)) fg_X10_160 (by decide) rfl dX10_undo_28 ?_
    exact jr_iret (pc := 31) rfl dX10_undo_31 h
  · replace h := h.2 c
    refine jr_ldc (pc := 10) fk_X10_228 dX10_undo_10 ?_
    exact jr_iret (pc := 12) rfl dX10_undo_12 h
theorem dX10_standing_0 : decode cX10_standing 0 = .ok (.aload_n 0, 1) := by decide +kernel
theorem dX10_standing_1 : decode cX10_standing 1 = .ok (.getfield 24, 3) := by decide +kernel
theorem dX10_standing_4 : decode cX10_standing 4 = .ok (.iload_n 1, 1) := by decide +kernel
theorem dX10_standing_5 : decode cX10_standing 5 = .ok (.invokevirtual 179, 3) := by decide +kernel
theorem dX10_standing_8 : decode cX10_standing 8 = .ok (.ifCond .ne 6, 3) := by decide +kernel
theorem dX10_standing_11 : decode cX10_standing 11 = .ok (.ldc 164, 2) := by decide +kernel
theorem dX10_standing_13 : decode cX10_standing 13 = .ok (.ireturn, 1) := by decide +kernel
theorem dX10_standing_14 : decode cX10_standing 14 = .ok (.iload_n 2, 1) := by decide +kernel
theorem dX10_standing_15 : decode cX10_standing 15 = .ok (.ifCond .lt 9, 3) := by decide +kernel
theorem dX10_standing_18 : decode cX10_standing 18 = .ok (.iload_n 2, 1) := by decide +kernel
theorem dX10_standing_19 : decode cX10_standing 19 = .ok (.bipush 60, 2) := by decide +kernel
theorem dX10_standing_21 : decode cX10_standing 21 = .ok (.if_icmp .le 6, 3) := by decide +kernel
theorem dX10_standing_24 : decode cX10_standing 24 = .ok (.ldc 88, 2) := by decide +kernel
theorem dX10_standing_26 : decode cX10_standing 26 = .ok (.ireturn, 1) := by decide +kernel
theorem dX10_standing_27 : decode cX10_standing 27 = .ok (.aload_n 0, 1) := by decide +kernel
theorem dX10_standing_28 : decode cX10_standing 28 = .ok (.getfield 32, 3) := by decide +kernel
theorem dX10_standing_31 : decode cX10_standing 31 = .ok (.aload_n 0, 1) := by decide +kernel
theorem dX10_standing_32 : decode cX10_standing 32 = .ok (.getfield 28, 3) := by decide +kernel
theorem dX10_standing_35 : decode cX10_standing 35 = .ok (.invokevirtual 244, 3) := by decide +kernel
theorem dX10_standing_38 : decode cX10_standing 38 = .ok (.iconst 0, 1) := by decide +kernel
theorem dX10_standing_39 : decode cX10_standing 39 = .ok (.istore_n 3, 1) := by decide +kernel
theorem dX10_standing_40 : decode cX10_standing 40 = .ok (.iload_n 3, 1) := by decide +kernel
theorem dX10_standing_41 : decode cX10_standing 41 = .ok (.iload_n 2, 1) := by decide +kernel
theorem dX10_standing_42 : decode cX10_standing 42 = .ok (.if_icmp .ge 16, 3) := by decide +kernel
theorem dX10_standing_45 : decode cX10_standing 45 = .ok (.aload_n 0, 1) := by decide +kernel
theorem dX10_standing_46 : decode cX10_standing 46 = .ok (.getfield 32, 3) := by decide +kernel
theorem dX10_standing_49 : decode cX10_standing 49 = .ok (.invokevirtual 221, 3) := by decide +kernel
theorem dX10_standing_52 : decode cX10_standing 52 = .ok (.iinc 3 1, 3) := by decide +kernel
theorem dX10_standing_55 : decode cX10_standing 55 = .ok (.goto (-15), 3) := by decide +kernel
theorem dX10_standing_58 : decode cX10_standing 58 = .ok (.aload_n 0, 1) := by decide +kernel
theorem dX10_standing_59 : decode cX10_standing 59 = .ok (.getfield 32, 3) := by decide +kernel
theorem dX10_standing_62 : decode cX10_standing 62 = .ok (.getfield 188, 3) := by decide +kernel
theorem dX10_standing_65 : decode cX10_standing 65 = .ok (.iload_n 1, 1) := by decide +kernel
theorem dX10_standing_66 : decode cX10_standing 66 = .ok (.iaload, 1) := by decide +kernel
theorem dX10_standing_67 : decode cX10_standing 67 = .ok (.ireturn, 1) := by decide +kernel
set_option maxHeartbeats 4000000 in
set_option maxRecDepth 20000 in
theorem en_X10_standing {a1 : Int32} {a2 : Int32} {M : jw_Mem} {Q : Int32 → jw_Mem → Prop}  (h : (jw_M 0 mX1_hasStatue [vr 1 0, vi a1] M (fun x1 M2 => ((¬ x1 = 0 → ((a2 < 0 → Q (-1000000002) M2) ∧ (¬ a2 < 0 → ((a2 ≤ 60 → (jw_M 1 mX8_copyFrom [vr 8 1, vr 8 0] M2 (fun x3 M4 => jw_J 6 mX10_standing 40 [(0, vr 10 0), (1, vi a1), (2, vi a2), (3, vi 0)] [] M4 Q))) ∧ (¬ a2 ≤ 60 → Q (-1000000002) M2))))) ∧ (x1 = 0 → Q (-1000000001) M2))))) : jw_M 6 mX10_standing [vr 10 0, vi a1, vi a2] M Q := by
  refine jw_M.of (by decide) (Nat.le_of_ble_eq_true rfl) ?_
  show jw_J 6 mX10_standing 0 [(0, vr 10 0), (1, vi a1), (2, vi a2)] [] M Q
  refine jr_aload_n (pc := 0) dX10_standing_0 rfl 0 rfl ?_
  refine jr_get (pc := 1) (v := vr 1 0) fg_X10_24 (by decide) rfl dX10_standing_1 ?_
  refine jr_iload_n (pc := 4) dX10_standing_4 rfl 1 rfl ?_
  refine jr_callV (pc := 5) (d' := 0) (mt' := mX1_hasStatue) (k := 1) (n := 0) (As := [vi a1]) (st := []) fc_X10_179 (by decide) (by decide) (Nat.le_of_ble_eq_true rfl) rfl dX10_standing_5 (jw_M.mono h (fun x1 M2 h => ?_))
  show jw_J 6 mX10_standing 8 [(0, vr 10 0), (1, vi a1), (2, vi a2)] [vi x1] M2 Q
  refine jr_if_ne (pc := 8) (tgt := 14) dX10_standing_8 (by decide) (fun c => ?_) (fun c => ?_)
  · replace h := h.1 c
    refine jr_iload_n (pc := 14) dX10_standing_14 rfl 2 rfl ?_
    refine jr_if_lt (pc := 15) (tgt := 24) dX10_standing_15 (by decide) (fun c => ?_) (fun c => ?_)
    · replace h := h.1 c
      refine jr_ldc (pc := 24) fk_X10_88 dX10_standing_24 ?_
      exact jr_iret (pc := 26) rfl dX10_standing_26 h
    · replace h := h.2 c
      refine jr_iload_n (pc := 18) dX10_standing_18 rfl 2 rfl ?_
      refine jr_bipush (pc := 19) (v := 60) dX10_standing_19 (by decide) ?_
      refine jr_icmp_le (pc := 21) (tgt := 27) dX10_standing_21 (by decide) (fun c => ?_) (fun c => ?_)
      · replace h := h.1 c
        refine jr_aload_n (pc := 27) dX10_standing_27 rfl 0 rfl ?_
        refine jr_get (pc := 28) (v := vr 8 1) fg_X10_32 (by decide) rfl dX10_standing_28 ?_
        refine jr_aload_n (pc := 31) dX10_standing_31 rfl 0 rfl ?_
        refine jr_get (pc := 32) (v := vr 8 0) fg_X10_28 (by decide) rfl dX10_standing_32 ?_
        refine jr_callV (pc := 35) (d' := 1) (mt' := mX8_copyFrom) (k := 8) (n := 1) (As := [vr 8 0]) (st := []) fc_X10_244 (by decide) (by decide) (Nat.le_of_ble_eq_true rfl) rfl dX10_standing_35 (jw_M.mono h (fun x3 M4 h => ?_))
        show jw_J 6 mX10_standing 38 [(0, vr 10 0), (1, vi a1), (2, vi a2)] [] M4 Q
        refine jr_iconst (pc := 38) (v := 0) dX10_standing_38 (by decide) ?_
        refine jr_istore_n (pc := 39) (lv' := [(3, vi 0), (0, vr 10 0), (1, vi a1), (2, vi a2)]) dX10_standing_39 rfl (by decide) rfl ?_
        exact jr_sub [1, 2, 3, 0] rfl h
      · replace h := h.2 c
        refine jr_ldc (pc := 24) fk_X10_88 dX10_standing_24 ?_
        exact jr_iret (pc := 26) rfl dX10_standing_26 h
  · replace h := h.2 c
    refine jr_ldc (pc := 11) fk_X10_164 dX10_standing_11 ?_
    exact jr_iret (pc := 13) rfl dX10_standing_13 h
set_option maxHeartbeats 4000000 in
set_option maxRecDepth 20000 in
theorem bk_X10_standing_40 {v1 : Int32} {v2 : Int32} {v3 : Int32} {M : jw_Mem} {Q : Int32 → jw_Mem → Prop}  (h : ((v2 ≤ v3 → (vp_in v1 6 ∧ Q (M 26 1 v1.toNatClampNeg) M)) ∧ (¬ v2 ≤ v3 → (jw_M 5 mX8_passYear [vr 8 1] M (fun x5 M6 => jw_J 6 mX10_standing 40 [(0, vr 10 0), (1, vi v1), (2, vi v2), (3, vi (v3 + 1))] [] M6 Q))))) : jw_J 6 mX10_standing 40 [(0, vr 10 0), (1, vi v1), (2, vi v2), (3, vi v3)] [] M Q := by
  refine jr_iload_n (pc := 40) dX10_standing_40 rfl 3 rfl ?_
  refine jr_iload_n (pc := 41) dX10_standing_41 rfl 2 rfl ?_
  refine jr_icmp_ge (pc := 42) (tgt := 58) dX10_standing_42 (by decide) (fun c => ?_) (fun c => ?_)
  · replace h := h.1 c
    refine jr_aload_n (pc := 58) dX10_standing_58 rfl 0 rfl ?_
    refine jr_get (pc := 59) (v := vr 8 1) fg_X10_32 (by decide) rfl dX10_standing_59 ?_
    refine jr_get (pc := 62) (v := vr 26 1) fg_X10_188 (by decide) rfl dX10_standing_62 ?_
    refine jr_iload_n (pc := 65) dX10_standing_65 rfl 1 rfl ?_
    refine jr_iald (pc := 66) ⟨rfl, (by decide)⟩ h.1 dX10_standing_66 ?_
    replace h := h.2
    exact jr_iret (pc := 67) rfl dX10_standing_67 h
  · replace h := h.2 c
    refine jr_aload_n (pc := 45) dX10_standing_45 rfl 0 rfl ?_
    refine jr_get (pc := 46) (v := vr 8 1) fg_X10_32 (by decide) rfl dX10_standing_46 ?_
    refine jr_callV (pc := 49) (d' := 5) (mt' := mX8_passYear) (k := 8) (n := 1) (As := []) (st := []) fc_X10_221 (by decide) (by decide) (Nat.le_of_ble_eq_true rfl) rfl dX10_standing_49 (jw_M.mono h (fun x5 M6 h => ?_))
    show jw_J 6 mX10_standing 52 [(0, vr 10 0), (1, vi v1), (2, vi v2), (3, vi v3)] [] M6 Q
    refine jr_iinc (pc := 52) (lv' := [(3, vi (v3 + 1)), (0, vr 10 0), (1, vi v1), (2, vi v2)]) (q := 3) dX10_standing_52 rfl (by rfl) (by decide) rfl ?_
    refine jr_goto (pc := 55) (tgt := 40) dX10_standing_55 (by decide) ?_
    exact jr_sub [1, 2, 3, 0] rfl h
theorem dX10_goesDown_0 : decode cX10_goesDown 0 = .ok (.aload_n 0, 1) := by decide +kernel
theorem dX10_goesDown_1 : decode cX10_goesDown 1 = .ok (.getfield 24, 3) := by decide +kernel
theorem dX10_goesDown_4 : decode cX10_goesDown 4 = .ok (.iload_n 1, 1) := by decide +kernel
theorem dX10_goesDown_5 : decode cX10_goesDown 5 = .ok (.invokevirtual 179, 3) := by decide +kernel
theorem dX10_goesDown_8 : decode cX10_goesDown 8 = .ok (.ifCond .ne 6, 3) := by decide +kernel
theorem dX10_goesDown_11 : decode cX10_goesDown 11 = .ok (.ldc 164, 2) := by decide +kernel
theorem dX10_goesDown_13 : decode cX10_goesDown 13 = .ok (.ireturn, 1) := by decide +kernel
theorem dX10_goesDown_14 : decode cX10_goesDown 14 = .ok (.aload_n 0, 1) := by decide +kernel
theorem dX10_goesDown_15 : decode cX10_goesDown 15 = .ok (.getfield 32, 3) := by decide +kernel
theorem dX10_goesDown_18 : decode cX10_goesDown 18 = .ok (.aload_n 0, 1) := by decide +kernel
theorem dX10_goesDown_19 : decode cX10_goesDown 19 = .ok (.getfield 28, 3) := by decide +kernel
theorem dX10_goesDown_22 : decode cX10_goesDown 22 = .ok (.invokevirtual 244, 3) := by decide +kernel
theorem dX10_goesDown_25 : decode cX10_goesDown 25 = .ok (.iconst 0, 1) := by decide +kernel
theorem dX10_goesDown_26 : decode cX10_goesDown 26 = .ok (.istore_n 2, 1) := by decide +kernel
theorem dX10_goesDown_27 : decode cX10_goesDown 27 = .ok (.iload_n 2, 1) := by decide +kernel
theorem dX10_goesDown_28 : decode cX10_goesDown 28 = .ok (.bipush 100, 2) := by decide +kernel
theorem dX10_goesDown_30 : decode cX10_goesDown 30 = .ok (.if_icmp .gt 29, 3) := by decide +kernel
theorem dX10_goesDown_33 : decode cX10_goesDown 33 = .ok (.aload_n 0, 1) := by decide +kernel
theorem dX10_goesDown_34 : decode cX10_goesDown 34 = .ok (.getfield 32, 3) := by decide +kernel
theorem dX10_goesDown_37 : decode cX10_goesDown 37 = .ok (.iload_n 1, 1) := by decide +kernel
theorem dX10_goesDown_38 : decode cX10_goesDown 38 = .ok (.invokevirtual 229, 3) := by decide +kernel
theorem dX10_goesDown_41 : decode cX10_goesDown 41 = .ok (.ifCond .ne 5, 3) := by decide +kernel
theorem dX10_goesDown_44 : decode cX10_goesDown 44 = .ok (.iload_n 2, 1) := by decide +kernel
theorem dX10_goesDown_45 : decode cX10_goesDown 45 = .ok (.ireturn, 1) := by decide +kernel
theorem dX10_goesDown_46 : decode cX10_goesDown 46 = .ok (.aload_n 0, 1) := by decide +kernel
theorem dX10_goesDown_47 : decode cX10_goesDown 47 = .ok (.getfield 32, 3) := by decide +kernel
theorem dX10_goesDown_50 : decode cX10_goesDown 50 = .ok (.invokevirtual 221, 3) := by decide +kernel
theorem dX10_goesDown_53 : decode cX10_goesDown 53 = .ok (.iinc 2 1, 3) := by decide +kernel
theorem dX10_goesDown_56 : decode cX10_goesDown 56 = .ok (.goto (-29), 3) := by decide +kernel
theorem dX10_goesDown_59 : decode cX10_goesDown 59 = .ok (.iconst (-1), 1) := by decide +kernel
theorem dX10_goesDown_60 : decode cX10_goesDown 60 = .ok (.ireturn, 1) := by decide +kernel
set_option maxHeartbeats 4000000 in
set_option maxRecDepth 20000 in
theorem en_X10_goesDown {a1 : Int32} {M : jw_Mem} {Q : Int32 → jw_Mem → Prop}  (h : (jw_M 0 mX1_hasStatue [vr 1 0, vi a1] M (fun x1 M2 => ((¬ x1 = 0 → (jw_M 1 mX8_copyFrom [vr 8 1, vr 8 0] M2 (fun x3 M4 => jw_J 6 mX10_goesDown 27 [(0, vr 10 0), (1, vi a1), (2, vi 0)] [] M4 Q))) ∧ (x1 = 0 → Q (-1000000001) M2))))) : jw_M 6 mX10_goesDown [vr 10 0, vi a1] M Q := by
  refine jw_M.of (by decide) (Nat.le_of_ble_eq_true rfl) ?_
  show jw_J 6 mX10_goesDown 0 [(0, vr 10 0), (1, vi a1)] [] M Q
  refine jr_aload_n (pc := 0) dX10_goesDown_0 rfl 0 rfl ?_
  refine jr_get (pc := 1) (v := vr 1 0) fg_X10_24 (by decide) rfl dX10_goesDown_1 ?_
  refine jr_iload_n (pc := 4) dX10_goesDown_4 rfl 1 rfl ?_
  refine jr_callV (pc := 5) (d' := 0) (mt' := mX1_hasStatue) (k := 1) (n := 0) (As := [vi a1]) (st := []) fc_X10_179 (by decide) (by decide) (Nat.le_of_ble_eq_true rfl) rfl dX10_goesDown_5 (jw_M.mono h (fun x1 M2 h => ?_))
  show jw_J 6 mX10_goesDown 8 [(0, vr 10 0), (1, vi a1)] [vi x1] M2 Q
  refine jr_if_ne (pc := 8) (tgt := 14) dX10_goesDown_8 (by decide) (fun c => ?_) (fun c => ?_)
  · replace h := h.1 c
    refine jr_aload_n (pc := 14) dX10_goesDown_14 rfl 0 rfl ?_
    refine jr_get (pc := 15) (v := vr 8 1) fg_X10_32 (by decide) rfl dX10_goesDown_15 ?_
    refine jr_aload_n (pc := 18) dX10_goesDown_18 rfl 0 rfl ?_
    refine jr_get (pc := 19) (v := vr 8 0) fg_X10_28 (by decide) rfl dX10_goesDown_19 ?_
    refine jr_callV (pc := 22) (d' := 1) (mt' := mX8_copyFrom) (k := 8) (n := 1) (As := [vr 8 0]) (st := []) fc_X10_244 (by decide) (by decide) (Nat.le_of_ble_eq_true rfl) rfl dX10_goesDown_22 (jw_M.mono h (fun x3 M4 h => ?_))
    show jw_J 6 mX10_goesDown 25 [(0, vr 10 0), (1, vi a1)] [] M4 Q
    refine jr_iconst (pc := 25) (v := 0) dX10_goesDown_25 (by decide) ?_
    refine jr_istore_n (pc := 26) (lv' := [(2, vi 0), (0, vr 10 0), (1, vi a1)]) dX10_goesDown_26 rfl (by decide) rfl ?_
    exact jr_sub [1, 2, 0] rfl h
  · replace h := h.2 c
    refine jr_ldc (pc := 11) fk_X10_164 dX10_goesDown_11 ?_
    exact jr_iret (pc := 13) rfl dX10_goesDown_13 h
set_option maxHeartbeats 4000000 in
set_option maxRecDepth 20000 in
theorem bk_X10_goesDown_27 {v1 : Int32} {v2 : Int32} {M : jw_Mem} {Q : Int32 → jw_Mem → Prop}  (h : ((100 < v2 → Q (-1) M) ∧ (¬ 100 < v2 → (jw_M 1 mX8_stands [vr 8 1, vi v1] M (fun x5 M6 => ((¬ x5 = 0 → (jw_M 5 mX8_passYear [vr 8 1] M6 (fun x7 M8 => jw_J 6 mX10_goesDown 27 [(0, vr 10 0), (1, vi v1), (2, vi (v2 + 1))] [] M8 Q))) ∧ (x5 = 0 → Q v2 M6))))))) : jw_J 6 mX10_goesDown 27 [(0, vr 10 0), (1, vi v1), (2, vi v2)] [] M Q := by
  refine jr_iload_n (pc := 27) dX10_goesDown_27 rfl 2 rfl ?_
  refine jr_bipush (pc := 28) (v := 100) dX10_goesDown_28 (by decide) ?_
  refine jr_icmp_gt (pc := 30) (tgt := 59) dX10_goesDown_30 (by decide) (fun c => ?_) (fun c => ?_)
  · replace h := h.1 c
    refine jr_iconst (pc := 59) (v := (-1)) dX10_goesDown_59 (by decide) ?_
    exact jr_iret (pc := 60) rfl dX10_goesDown_60 h
  · replace h := h.2 c
    refine jr_aload_n (pc := 33) dX10_goesDown_33 rfl 0 rfl ?_
    refine jr_get (pc := 34) (v := vr 8 1) fg_X10_32 (by decide) rfl dX10_goesDown_34 ?_
    refine jr_iload_n (pc := 37) dX10_goesDown_37 rfl 1 rfl ?_
    refine jr_callV (pc := 38) (d' := 1) (mt' := mX8_stands) (k := 8) (n := 1) (As := [vi v1]) (st := []) fc_X10_229 (by decide) (by decide) (Nat.le_of_ble_eq_true rfl) rfl dX10_goesDown_38 (jw_M.mono h (fun x5 M6 h => ?_))
    show jw_J 6 mX10_goesDown 41 [(0, vr 10 0), (1, vi v1), (2, vi v2)] [vi x5] M6 Q
    refine jr_if_ne (pc := 41) (tgt := 46) dX10_goesDown_41 (by decide) (fun c => ?_) (fun c => ?_)
    · replace h := h.1 c
      refine jr_aload_n (pc := 46) dX10_goesDown_46 rfl 0 rfl ?_
      refine jr_get (pc := 47) (v := vr 8 1) fg_X10_32 (by decide) rfl dX10_goesDown_47 ?_
      refine jr_callV (pc := 50) (d' := 5) (mt' := mX8_passYear) (k := 8) (n := 1) (As := []) (st := []) fc_X10_221 (by decide) (by decide) (Nat.le_of_ble_eq_true rfl) rfl dX10_goesDown_50 (jw_M.mono h (fun x7 M8 h => ?_))
      show jw_J 6 mX10_goesDown 53 [(0, vr 10 0), (1, vi v1), (2, vi v2)] [] M8 Q
      refine jr_iinc (pc := 53) (lv' := [(2, vi (v2 + 1)), (0, vr 10 0), (1, vi v1)]) (q := 2) dX10_goesDown_53 rfl (by rfl) (by decide) rfl ?_
      refine jr_goto (pc := 56) (tgt := 27) dX10_goesDown_56 (by decide) ?_
      exact jr_sub [1, 2, 0] rfl h
    · replace h := h.2 c
      refine jr_iload_n (pc := 44) dX10_goesDown_44 rfl 2 rfl ?_
      exact jr_iret (pc := 45) rfl dX10_goesDown_45 h
theorem dX10_change_0 : decode cX10_change 0 = .ok (.aload_n 0, 1) := by decide +kernel
theorem dX10_change_1 : decode cX10_change 1 = .ok (.getfield 24, 3) := by decide +kernel
theorem dX10_change_4 : decode cX10_change 4 = .ok (.iload_n 1, 1) := by decide +kernel
theorem dX10_change_5 : decode cX10_change 5 = .ok (.invokevirtual 179, 3) := by decide +kernel
theorem dX10_change_8 : decode cX10_change 8 = .ok (.ifCond .ne 6, 3) := by decide +kernel
theorem dX10_change_11 : decode cX10_change 11 = .ok (.ldc 164, 2) := by decide +kernel
theorem dX10_change_13 : decode cX10_change 13 = .ok (.ireturn, 1) := by decide +kernel
theorem dX10_change_14 : decode cX10_change 14 = .ok (.iload_n 2, 1) := by decide +kernel
theorem dX10_change_15 : decode cX10_change 15 = .ok (.ifCond .lt 8, 3) := by decide +kernel
theorem dX10_change_18 : decode cX10_change 18 = .ok (.iload_n 2, 1) := by decide +kernel
theorem dX10_change_19 : decode cX10_change 19 = .ok (.iconst 1, 1) := by decide +kernel
theorem dX10_change_20 : decode cX10_change 20 = .ok (.if_icmp .le 6, 3) := by decide +kernel
theorem dX10_change_23 : decode cX10_change 23 = .ok (.ldc 88, 2) := by decide +kernel
theorem dX10_change_25 : decode cX10_change 25 = .ok (.ireturn, 1) := by decide +kernel
theorem dX10_change_26 : decode cX10_change 26 = .ok (.aload_n 0, 1) := by decide +kernel
theorem dX10_change_27 : decode cX10_change 27 = .ok (.getfield 28, 3) := by decide +kernel
theorem dX10_change_30 : decode cX10_change 30 = .ok (.iload_n 1, 1) := by decide +kernel
theorem dX10_change_31 : decode cX10_change 31 = .ok (.invokevirtual 229, 3) := by decide +kernel
theorem dX10_change_34 : decode cX10_change 34 = .ok (.ifCond .ne 6, 3) := by decide +kernel
theorem dX10_change_37 : decode cX10_change 37 = .ok (.ldc 228, 2) := by decide +kernel
theorem dX10_change_39 : decode cX10_change 39 = .ok (.ireturn, 1) := by decide +kernel
theorem dX10_change_40 : decode cX10_change 40 = .ok (.aload_n 0, 1) := by decide +kernel
theorem dX10_change_41 : decode cX10_change 41 = .ok (.getfield 40, 3) := by decide +kernel
theorem dX10_change_44 : decode cX10_change 44 = .ok (.iload_n 1, 1) := by decide +kernel
theorem dX10_change_45 : decode cX10_change 45 = .ok (.iload_n 2, 1) := by decide +kernel
theorem dX10_change_46 : decode cX10_change 46 = .ok (.ifCond .ne 7, 3) := by decide +kernel
theorem dX10_change_49 : decode cX10_change 49 = .ok (.iconst 1, 1) := by decide +kernel
theorem dX10_change_50 : decode cX10_change 50 = .ok (.goto 4, 3) := by decide +kernel
theorem dX10_change_53 : decode cX10_change 53 = .ok (.iconst 0, 1) := by decide +kernel
theorem dX10_change_54 : decode cX10_change 54 = .ok (.invokevirtual 246, 3) := by decide +kernel
theorem dX10_change_57 : decode cX10_change 57 = .ok (.ireturn, 1) := by decide +kernel
set_option maxHeartbeats 4000000 in
set_option maxRecDepth 20000 in
theorem en_X10_change {a1 : Int32} {a2 : Int32} {M : jw_Mem} {Q : Int32 → jw_Mem → Prop}  (h : (jw_M 0 mX1_hasStatue [vr 1 0, vi a1] M (fun x1 M2 => ((¬ x1 = 0 → ((a2 < 0 → Q (-1000000002) M2) ∧ (¬ a2 < 0 → ((a2 ≤ 1 → (jw_M 1 mX8_stands [vr 8 0, vi a1] M2 (fun x3 M4 => ((¬ x3 = 0 → ((¬ a2 = 0 → (jw_M 3 mX6_fewestChanges [vr 6 0, vi a1, vi 0] M4 (fun x5 M6 => Q x5 M6))) ∧ (a2 = 0 → (jw_M 3 mX6_fewestChanges [vr 6 0, vi a1, vi 1] M4 (fun x7 M8 => Q x7 M8))))) ∧ (x3 = 0 → Q (-1000000003) M4))))) ∧ (¬ a2 ≤ 1 → Q (-1000000002) M2))))) ∧ (x1 = 0 → Q (-1000000001) M2))))) : jw_M 4 mX10_change [vr 10 0, vi a1, vi a2] M Q := by
  refine jw_M.of (by decide) (Nat.le_of_ble_eq_true rfl) ?_
  show jw_J 4 mX10_change 0 [(0, vr 10 0), (1, vi a1), (2, vi a2)] [] M Q
  refine jr_aload_n (pc := 0) dX10_change_0 rfl 0 rfl ?_
  refine jr_get (pc := 1) (v := vr 1 0) fg_X10_24 (by decide) rfl dX10_change_1 ?_
  refine jr_iload_n (pc := 4) dX10_change_4 rfl 1 rfl ?_
  refine jr_callV (pc := 5) (d' := 0) (mt' := mX1_hasStatue) (k := 1) (n := 0) (As := [vi a1]) (st := []) fc_X10_179 (by decide) (by decide) (Nat.le_of_ble_eq_true rfl) rfl dX10_change_5 (jw_M.mono h (fun x1 M2 h => ?_))
  show jw_J 4 mX10_change 8 [(0, vr 10 0), (1, vi a1), (2, vi a2)] [vi x1] M2 Q
  refine jr_if_ne (pc := 8) (tgt := 14) dX10_change_8 (by decide) (fun c => ?_) (fun c => ?_)
  · replace h := h.1 c
    refine jr_iload_n (pc := 14) dX10_change_14 rfl 2 rfl ?_
    refine jr_if_lt (pc := 15) (tgt := 23) dX10_change_15 (by decide) (fun c => ?_) (fun c => ?_)
    · replace h := h.1 c
      refine jr_ldc (pc := 23) fk_X10_88 dX10_change_23 ?_
      exact jr_iret (pc := 25) rfl dX10_change_25 h
    · replace h := h.2 c
      refine jr_iload_n (pc := 18) dX10_change_18 rfl 2 rfl ?_
      refine jr_iconst (pc := 19) (v := 1) dX10_change_19 (by decide) ?_
      refine jr_icmp_le (pc := 20) (tgt := 26) dX10_change_20 (by decide) (fun c => ?_) (fun c => ?_)
      · replace h := h.1 c
        refine jr_aload_n (pc := 26) dX10_change_26 rfl 0 rfl ?_
        refine jr_get (pc := 27) (v := vr 8 0) fg_X10_28 (by decide) rfl dX10_change_27 ?_
        refine jr_iload_n (pc := 30) dX10_change_30 rfl 1 rfl ?_
        refine jr_callV (pc := 31) (d' := 1) (mt' := mX8_stands) (k := 8) (n := 0) (As := [vi a1]) (st := []) fc_X10_229 (by decide) (by decide) (Nat.le_of_ble_eq_true rfl) rfl dX10_change_31 (jw_M.mono h (fun x3 M4 h => ?_))
        show jw_J 4 mX10_change 34 [(0, vr 10 0), (1, vi a1), (2, vi a2)] [vi x3] M4 Q
        refine jr_if_ne (pc := 34) (tgt := 40) dX10_change_34 (by decide) (fun c => ?_) (fun c => ?_)
        · replace h := h.1 c
          refine jr_aload_n (pc := 40) dX10_change_40 rfl 0 rfl ?_
          refine jr_get (pc := 41) (v := vr 6 0) fg_X10_40 (by decide) rfl dX10_change_41 ?_
          refine jr_iload_n (pc := 44) dX10_change_44 rfl 1 rfl ?_
          refine jr_iload_n (pc := 45) dX10_change_45 rfl 2 rfl ?_
          refine jr_if_ne (pc := 46) (tgt := 53) dX10_change_46 (by decide) (fun c => ?_) (fun c => ?_)
          · replace h := h.1 c
            refine jr_iconst (pc := 53) (v := 0) dX10_change_53 (by decide) ?_
            refine jr_callV (pc := 54) (d' := 3) (mt' := mX6_fewestChanges) (k := 6) (n := 0) (As := [vi a1, vi 0]) (st := []) fc_X10_246 (by decide) (by decide) (Nat.le_of_ble_eq_true rfl) rfl dX10_change_54 (jw_M.mono h (fun x5 M6 h => ?_))
            show jw_J 4 mX10_change 57 [(0, vr 10 0), (1, vi a1), (2, vi a2)] [vi x5] M6 Q
            exact jr_iret (pc := 57) rfl dX10_change_57 h
          · replace h := h.2 c
            refine jr_iconst (pc := 49) (v := 1) dX10_change_49 (by decide) ?_
            refine jr_goto (pc := 50) (tgt := 54) dX10_change_50 (by decide) ?_
            refine jr_callV (pc := 54) (d' := 3) (mt' := mX6_fewestChanges) (k := 6) (n := 0) (As := [vi a1, vi 1]) (st := []) fc_X10_246 (by decide) (by decide) (Nat.le_of_ble_eq_true rfl) rfl dX10_change_54 (jw_M.mono h (fun x7 M8 h => ?_))
            show jw_J 4 mX10_change 57 [(0, vr 10 0), (1, vi a1), (2, vi a2)] [vi x7] M8 Q
            exact jr_iret (pc := 57) rfl dX10_change_57 h
        · replace h := h.2 c
          refine jr_ldc (pc := 37) fk_X10_228 dX10_change_37 ?_
          exact jr_iret (pc := 39) rfl dX10_change_39 h
      · replace h := h.2 c
        refine jr_ldc (pc := 23) fk_X10_88 dX10_change_23 ?_
        exact jr_iret (pc := 25) rfl dX10_change_25 h
  · replace h := h.2 c
    refine jr_ldc (pc := 11) fk_X10_164 dX10_change_11 ?_
    exact jr_iret (pc := 13) rfl dX10_change_13 h
