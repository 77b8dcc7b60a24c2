theorem dX10_isIn_0 : decode cX10_isIn 0 = .ok (.iload_n 0, 1) := by decide +kernel
theorem dX10_isIn_1 : decode cX10_isIn 1 = .ok (.iload_n 1, 1) := by decide +kernel
theorem dX10_isIn_2 : decode cX10_isIn 2 = .ok (.ishr, 1) := by decide +kernel
theorem dX10_isIn_3 : decode cX10_isIn 3 = .ok (.iconst 1, 1) := by decide +kernel
theorem dX10_isIn_4 : decode cX10_isIn 4 = .ok (.iand, 1) := by decide +kernel
theorem dX10_isIn_5 : decode cX10_isIn 5 = .ok (.iconst 1, 1) := by decide +kernel
theorem dX10_isIn_6 : decode cX10_isIn 6 = .ok (.if_icmp .ne 7, 3) := by decide +kernel
theorem dX10_isIn_9 : decode cX10_isIn 9 = .ok (.iconst 1, 1) := by decide +kernel
theorem dX10_isIn_10 : decode cX10_isIn 10 = .ok (.goto 4, 3) := by decide +kernel
theorem dX10_isIn_13 : decode cX10_isIn 13 = .ok (.iconst 0, 1) := by decide +kernel
theorem dX10_isIn_14 : decode cX10_isIn 14 = .ok (.ireturn, 1) := by decide +kernel
set_option maxHeartbeats 4000000 in
set_option maxRecDepth 20000 in
theorem en_X10_isIn {a1 : Int32} {a2 : Int32} {M : jw_Mem} {Q : Int32 → jw_Mem → Prop}  (h : ((¬ ((a1 >>> (a2 &&& 31)) &&& 1) = 1 → Q 0 M) ∧ (((a1 >>> (a2 &&& 31)) &&& 1) = 1 → Q 1 M))) : jw_M 0 mX10_isIn [vi a1, vi a2] M Q := by
  refine jw_M.of (by decide) (Nat.le_of_ble_eq_true rfl) ?_
  show jw_J 0 mX10_isIn 0 [(0, vi a1), (1, vi a2)] [] M Q
  refine jr_iload_n (pc := 0) dX10_isIn_0 rfl 0 rfl ?_
  refine jr_iload_n (pc := 1) dX10_isIn_1 rfl 1 rfl ?_
  refine jr_ishr (pc := 2) dX10_isIn_2 ?_
  refine jr_iconst (pc := 3) (v := 1) dX10_isIn_3 (by decide) ?_
  refine jr_iand (pc := 4) dX10_isIn_4 ?_
  refine jr_iconst (pc := 5) (v := 1) dX10_isIn_5 (by decide) ?_
  refine jr_icmp_ne (pc := 6) (tgt := 13) dX10_isIn_6 (by decide) (fun c => ?_) (fun c => ?_)
  · replace h := h.1 c
    refine jr_iconst (pc := 13) (v := 0) dX10_isIn_13 (by decide) ?_
    exact jr_zret (pc := 14) rfl dX10_isIn_14 (Or.inl rfl) h
  · replace h := h.2 c
    refine jr_iconst (pc := 9) (v := 1) dX10_isIn_9 (by decide) ?_
    refine jr_goto (pc := 10) (tgt := 14) dX10_isIn_10 (by decide) ?_
    exact jr_zret (pc := 14) rfl dX10_isIn_14 (Or.inr rfl) h
theorem dJ6_bitCount_0f7a4_0 : decode cJ6_bitCount_0f7a4 0 = .ok (.iload_n 0, 1) := by decide +kernel
theorem dJ6_bitCount_0f7a4_1 : decode cJ6_bitCount_0f7a4 1 = .ok (.iload_n 0, 1) := by decide +kernel
theorem dJ6_bitCount_0f7a4_2 : decode cJ6_bitCount_0f7a4 2 = .ok (.iconst 1, 1) := by decide +kernel
theorem dJ6_bitCount_0f7a4_3 : decode cJ6_bitCount_0f7a4 3 = .ok (.iushr, 1) := by decide +kernel
theorem dJ6_bitCount_0f7a4_4 : decode cJ6_bitCount_0f7a4 4 = .ok (.ldc_w 265, 3) := by decide +kernel
theorem dJ6_bitCount_0f7a4_7 : decode cJ6_bitCount_0f7a4 7 = .ok (.iand, 1) := by decide +kernel
theorem dJ6_bitCount_0f7a4_8 : decode cJ6_bitCount_0f7a4 8 = .ok (.isub, 1) := by decide +kernel
theorem dJ6_bitCount_0f7a4_9 : decode cJ6_bitCount_0f7a4 9 = .ok (.istore_n 0, 1) := by decide +kernel
theorem dJ6_bitCount_0f7a4_10 : decode cJ6_bitCount_0f7a4 10 = .ok (.iload_n 0, 1) := by decide +kernel
theorem dJ6_bitCount_0f7a4_11 : decode cJ6_bitCount_0f7a4 11 = .ok (.ldc_w 266, 3) := by decide +kernel
theorem dJ6_bitCount_0f7a4_14 : decode cJ6_bitCount_0f7a4 14 = .ok (.iand, 1) := by decide +kernel
theorem dJ6_bitCount_0f7a4_15 : decode cJ6_bitCount_0f7a4 15 = .ok (.iload_n 0, 1) := by decide +kernel
theorem dJ6_bitCount_0f7a4_16 : decode cJ6_bitCount_0f7a4 16 = .ok (.iconst 2, 1) := by decide +kernel
theorem dJ6_bitCount_0f7a4_17 : decode cJ6_bitCount_0f7a4 17 = .ok (.iushr, 1) := by decide +kernel
theorem dJ6_bitCount_0f7a4_18 : decode cJ6_bitCount_0f7a4 18 = .ok (.ldc_w 266, 3) := by decide +kernel
theorem dJ6_bitCount_0f7a4_21 : decode cJ6_bitCount_0f7a4 21 = .ok (.iand, 1) := by decide +kernel
theorem dJ6_bitCount_0f7a4_22 : decode cJ6_bitCount_0f7a4 22 = .ok (.iadd, 1) := by decide +kernel
theorem dJ6_bitCount_0f7a4_23 : decode cJ6_bitCount_0f7a4 23 = .ok (.istore_n 0, 1) := by decide +kernel
theorem dJ6_bitCount_0f7a4_24 : decode cJ6_bitCount_0f7a4 24 = .ok (.iload_n 0, 1) := by decide +kernel
theorem dJ6_bitCount_0f7a4_25 : decode cJ6_bitCount_0f7a4 25 = .ok (.iload_n 0, 1) := by decide +kernel
theorem dJ6_bitCount_0f7a4_26 : decode cJ6_bitCount_0f7a4 26 = .ok (.iconst 4, 1) := by decide +kernel
theorem dJ6_bitCount_0f7a4_27 : decode cJ6_bitCount_0f7a4 27 = .ok (.iushr, 1) := by decide +kernel
theorem dJ6_bitCount_0f7a4_28 : decode cJ6_bitCount_0f7a4 28 = .ok (.iadd, 1) := by decide +kernel
theorem dJ6_bitCount_0f7a4_29 : decode cJ6_bitCount_0f7a4 29 = .ok (.ldc_w 267, 3) := by decide +kernel
theorem dJ6_bitCount_0f7a4_32 : decode cJ6_bitCount_0f7a4 32 = .ok (.iand, 1) := by decide +kernel
theorem dJ6_bitCount_0f7a4_33 : decode cJ6_bitCount_0f7a4 33 = .ok (.istore_n 0, 1) := by decide +kernel
theorem dJ6_bitCount_0f7a4_34 : decode cJ6_bitCount_0f7a4 34 = .ok (.iload_n 0, 1) := by decide +kernel
theorem dJ6_bitCount_0f7a4_35 : decode cJ6_bitCount_0f7a4 35 = .ok (.iload_n 0, 1) := by decide +kernel
theorem dJ6_bitCount_0f7a4_36 : decode cJ6_bitCount_0f7a4 36 = .ok (.bipush 8, 2) := by decide +kernel
theorem dJ6_bitCount_0f7a4_38 : decode cJ6_bitCount_0f7a4 38 = .ok (.iushr, 1) := by decide +kernel
theorem dJ6_bitCount_0f7a4_39 : decode cJ6_bitCount_0f7a4 39 = .ok (.iadd, 1) := by decide +kernel
theorem dJ6_bitCount_0f7a4_40 : decode cJ6_bitCount_0f7a4 40 = .ok (.istore_n 0, 1) := by decide +kernel
theorem dJ6_bitCount_0f7a4_41 : decode cJ6_bitCount_0f7a4 41 = .ok (.iload_n 0, 1) := by decide +kernel
theorem dJ6_bitCount_0f7a4_42 : decode cJ6_bitCount_0f7a4 42 = .ok (.iload_n 0, 1) := by decide +kernel
theorem dJ6_bitCount_0f7a4_43 : decode cJ6_bitCount_0f7a4 43 = .ok (.bipush 16, 2) := by decide +kernel
theorem dJ6_bitCount_0f7a4_45 : decode cJ6_bitCount_0f7a4 45 = .ok (.iushr, 1) := by decide +kernel
theorem dJ6_bitCount_0f7a4_46 : decode cJ6_bitCount_0f7a4 46 = .ok (.iadd, 1) := by decide +kernel
theorem dJ6_bitCount_0f7a4_47 : decode cJ6_bitCount_0f7a4 47 = .ok (.istore_n 0, 1) := by decide +kernel
theorem dJ6_bitCount_0f7a4_48 : decode cJ6_bitCount_0f7a4 48 = .ok (.iload_n 0, 1) := by decide +kernel
theorem dJ6_bitCount_0f7a4_49 : decode cJ6_bitCount_0f7a4 49 = .ok (.bipush 63, 2) := by decide +kernel
theorem dJ6_bitCount_0f7a4_51 : decode cJ6_bitCount_0f7a4 51 = .ok (.iand, 1) := by decide +kernel
theorem dJ6_bitCount_0f7a4_52 : decode cJ6_bitCount_0f7a4 52 = .ok (.ireturn, 1) := by decide +kernel
set_option maxHeartbeats 4000000 in
set_option maxRecDepth 20000 in
theorem en_J6_bitCount_0f7a4 {a1 : Int32} {M : jw_Mem} {Q : Int32 → jw_Mem → Prop}  (h : Q ((((((((a1 - ((((a1).toUInt32 >>> ((1 : Int32).toUInt32 &&& Int32.toUInt32 31)).toInt32) &&& 1431655765)) &&& 858993459) + (((((a1 - ((((a1).toUInt32 >>> ((1 : Int32).toUInt32 &&& Int32.toUInt32 31)).toInt32) &&& 1431655765))).toUInt32 >>> ((2 : Int32).toUInt32 &&& Int32.toUInt32 31)).toInt32) &&& 858993459)) + ((((((a1 - ((((a1).toUInt32 >>> ((1 : Int32).toUInt32 &&& Int32.toUInt32 31)).toInt32) &&& 1431655765)) &&& 858993459) + (((((a1 - ((((a1).toUInt32 >>> ((1 : Int32).toUInt32 &&& Int32.toUInt32 31)).toInt32) &&& 1431655765))).toUInt32 >>> ((2 : Int32).toUInt32 &&& Int32.toUInt32 31)).toInt32) &&& 858993459))).toUInt32 >>> ((4 : Int32).toUInt32 &&& Int32.toUInt32 31)).toInt32)) &&& 252645135) + ((((((((a1 - ((((a1).toUInt32 >>> ((1 : Int32).toUInt32 &&& Int32.toUInt32 31)).toInt32) &&& 1431655765)) &&& 858993459) + (((((a1 - ((((a1).toUInt32 >>> ((1 : Int32).toUInt32 &&& Int32.toUInt32 31)).toInt32) &&& 1431655765))).toUInt32 >>> ((2 : Int32).toUInt32 &&& Int32.toUInt32 31)).toInt32) &&& 858993459)) + ((((((a1 - ((((a1).toUInt32 >>> ((1 : Int32).toUInt32 &&& Int32.toUInt32 31)).toInt32) &&& 1431655765)) &&& 858993459) + (((((a1 - ((((a1).toUInt32 >>> ((1 : Int32).toUInt32 &&& Int32.toUInt32 31)).toInt32) &&& 1431655765))).toUInt32 >>> ((2 : Int32).toUInt32 &&& Int32.toUInt32 31)).toInt32) &&& 858993459))).toUInt32 >>> ((4 : Int32).toUInt32 &&& Int32.toUInt32 31)).toInt32)) &&& 252645135)).toUInt32 >>> ((8 : Int32).toUInt32 &&& Int32.toUInt32 31)).toInt32)) + (((((((((a1 - ((((a1).toUInt32 >>> ((1 : Int32).toUInt32 &&& Int32.toUInt32 31)).toInt32) &&& 1431655765)) &&& 858993459) + (((((a1 - ((((a1).toUInt32 >>> ((1 : Int32).toUInt32 &&& Int32.toUInt32 31)).toInt32) &&& 1431655765))).toUInt32 >>> ((2 : Int32).toUInt32 &&& Int32.toUInt32 31)).toInt32) &&& 858993459)) + ((((((a1 - ((((a1).toUInt32 >>> ((1 : Int32).toUInt32 &&& Int32.toUInt32 31)).toInt32) &&& 1431655765)) &&& 858993459) + (((((a1 - ((((a1).toUInt32 >>> ((1 : Int32).toUInt32 &&& Int32.toUInt32 31)).toInt32) &&& 1431655765))).toUInt32 >>> ((2 : Int32).toUInt32 &&& Int32.toUInt32 31)).toInt32) &&& 858993459))).toUInt32 >>> ((4 : Int32).toUInt32 &&& Int32.toUInt32 31)).toInt32)) &&& 252645135) + ((((((((a1 - ((((a1).toUInt32 >>> ((1 : Int32).toUInt32 &&& Int32.toUInt32 31)).toInt32) &&& 1431655765)) &&& 858993459) + (((((a1 - ((((a1).toUInt32 >>> ((1 : Int32).toUInt32 &&& Int32.toUInt32 31)).toInt32) &&& 1431655765))).toUInt32 >>> ((2 : Int32).toUInt32 &&& Int32.toUInt32 31)).toInt32) &&& 858993459)) + ((((((a1 - ((((a1).toUInt32 >>> ((1 : Int32).toUInt32 &&& Int32.toUInt32 31)).toInt32) &&& 1431655765)) &&& 858993459) + (((((a1 - ((((a1).toUInt32 >>> ((1 : Int32).toUInt32 &&& Int32.toUInt32 31)).toInt32) &&& 1431655765))).toUInt32 >>> ((2 : Int32).toUInt32 &&& Int32.toUInt32 31)).toInt32) &&& 858993459))).toUInt32 >>> ((4 : Int32).toUInt32 &&& Int32.toUInt32 31)).toInt32)) &&& 252645135)).toUInt32 >>> ((8 : Int32).toUInt32 &&& Int32.toUInt32 31)).toInt32))).toUInt32 >>> ((16 : Int32).toUInt32 &&& Int32.toUInt32 31)).toInt32)) &&& 63) M) : jw_M 0 mJ6_bitCount_0f7a4 [vi a1] M Q := by
  refine jw_M.of (by decide) (Nat.le_of_ble_eq_true rfl) ?_
  show jw_J 0 mJ6_bitCount_0f7a4 0 [(0, vi a1)] [] M Q
  refine jr_iload_n (pc := 0) dJ6_bitCount_0f7a4_0 rfl 0 rfl ?_
  refine jr_iload_n (pc := 1) dJ6_bitCount_0f7a4_1 rfl 0 rfl ?_
  refine jr_iconst (pc := 2) (v := 1) dJ6_bitCount_0f7a4_2 (by decide) ?_
  refine jr_iushr (pc := 3) dJ6_bitCount_0f7a4_3 ?_
  refine jr_ldcw (pc := 4) fk_J6_265 dJ6_bitCount_0f7a4_4 ?_
  refine jr_iand (pc := 7) dJ6_bitCount_0f7a4_7 ?_
  refine jr_isub (pc := 8) dJ6_bitCount_0f7a4_8 ?_
  refine jr_istore_n (pc := 9) (lv' := [(0, vi (a1 - ((((a1).toUInt32 >>> ((1 : Int32).toUInt32 &&& Int32.toUInt32 31)).toInt32) &&& 1431655765)))]) dJ6_bitCount_0f7a4_9 rfl (by decide) rfl ?_
  refine jr_iload_n (pc := 10) dJ6_bitCount_0f7a4_10 rfl 0 rfl ?_
  refine jr_ldcw (pc := 11) fk_J6_266 dJ6_bitCount_0f7a4_11 ?_
  refine jr_iand (pc := 14) dJ6_bitCount_0f7a4_14 ?_
  refine jr_iload_n (pc := 15) dJ6_bitCount_0f7a4_15 rfl 0 rfl ?_
  refine jr_iconst (pc := 16) (v := 2) dJ6_bitCount_0f7a4_16 (by decide) ?_
  refine jr_iushr (pc := 17) dJ6_bitCount_0f7a4_17 ?_
  refine jr_ldcw (pc := 18) fk_J6_266 dJ6_bitCount_0f7a4_18 ?_
  refine jr_iand (pc := 21) dJ6_bitCount_0f7a4_21 ?_
  refine jr_iadd (pc := 22) dJ6_bitCount_0f7a4_22 ?_
  refine jr_istore_n (pc := 23) (lv' := [(0, vi (((a1 - ((((a1).toUInt32 >>> ((1 : Int32).toUInt32 &&& Int32.toUInt32 31)).toInt32) &&& 1431655765)) &&& 858993459) + (((((a1 - ((((a1).toUInt32 >>> ((1 : Int32).toUInt32 &&& Int32.toUInt32 31)).toInt32) &&& 1431655765))).toUInt32 >>> ((2 : Int32).toUInt32 &&& Int32.toUInt32 31)).toInt32) &&& 858993459)))]) dJ6_bitCount_0f7a4_23 rfl (by decide) rfl ?_
  refine jr_iload_n (pc := 24) dJ6_bitCount_0f7a4_24 rfl 0 rfl ?_
  refine jr_iload_n (pc := 25) dJ6_bitCount_0f7a4_25 rfl 0 rfl ?_
  refine jr_iconst (pc := 26) (v := 4) dJ6_bitCount_0f7a4_26 (by decide) ?_
  refine jr_iushr (pc := 27) dJ6_bitCount_0f7a4_27 ?_
  refine jr_iadd (pc := 28) dJ6_bitCount_0f7a4_28 ?_
  refine jr_ldcw (pc := 29) fk_J6_267 dJ6_bitCount_0f7a4_29 ?_
  refine jr_iand (pc := 32) dJ6_bitCount_0f7a4_32 ?_
  refine jr_istore_n (pc := 33) (lv' := [(0, vi (((((a1 - ((((a1).toUInt32 >>> ((1 : Int32).toUInt32 &&& Int32.toUInt32 31)).toInt32) &&& 1431655765)) &&& 858993459) + (((((a1 - ((((a1).toUInt32 >>> ((1 : Int32).toUInt32 &&& Int32.toUInt32 31)).toInt32) &&& 1431655765))).toUInt32 >>> ((2 : Int32).toUInt32 &&& Int32.toUInt32 31)).toInt32) &&& 858993459)) + ((((((a1 - ((((a1).toUInt32 >>> ((1 : Int32).toUInt32 &&& Int32.toUInt32 31)).toInt32) &&& 1431655765)) &&& 858993459) + (((((a1 - ((((a1).toUInt32 >>> ((1 : Int32).toUInt32 &&& Int32.toUInt32 31)).toInt32) &&& 1431655765))).toUInt32 >>> ((2 : Int32).toUInt32 &&& Int32.toUInt32 31)).toInt32) &&& 858993459))).toUInt32 >>> ((4 : Int32).toUInt32 &&& Int32.toUInt32 31)).toInt32)) &&& 252645135))]) dJ6_bitCount_0f7a4_33 rfl (by decide) rfl ?_
  refine jr_iload_n (pc := 34) dJ6_bitCount_0f7a4_34 rfl 0 rfl ?_
  refine jr_iload_n (pc := 35) dJ6_bitCount_0f7a4_35 rfl 0 rfl ?_
  refine jr_bipush (pc := 36) (v := 8) dJ6_bitCount_0f7a4_36 (by decide) ?_
  refine jr_iushr (pc := 38) dJ6_bitCount_0f7a4_38 ?_
  refine jr_iadd (pc := 39) dJ6_bitCount_0f7a4_39 ?_
  refine jr_istore_n (pc := 40) (lv' := [(0, vi ((((((a1 - ((((a1).toUInt32 >>> ((1 : Int32).toUInt32 &&& Int32.toUInt32 31)).toInt32) &&& 1431655765)) &&& 858993459) + (((((a1 - ((((a1).toUInt32 >>> ((1 : Int32).toUInt32 &&& Int32.toUInt32 31)).toInt32) &&& 1431655765))).toUInt32 >>> ((2 : Int32).toUInt32 &&& Int32.toUInt32 31)).toInt32) &&& 858993459)) + ((((((a1 - ((((a1).toUInt32 >>> ((1 : Int32).toUInt32 &&& Int32.toUInt32 31)).toInt32) &&& 1431655765)) &&& 858993459) + (((((a1 - ((((a1).toUInt32 >>> ((1 : Int32).toUInt32 &&& Int32.toUInt32 31)).toInt32) &&& 1431655765))).toUInt32 >>> ((2 : Int32).toUInt32 &&& Int32.toUInt32 31)).toInt32) &&& 858993459))).toUInt32 >>> ((4 : Int32).toUInt32 &&& Int32.toUInt32 31)).toInt32)) &&& 252645135) + ((((((((a1 - ((((a1).toUInt32 >>> ((1 : Int32).toUInt32 &&& Int32.toUInt32 31)).toInt32) &&& 1431655765)) &&& 858993459) + (((((a1 - ((((a1).toUInt32 >>> ((1 : Int32).toUInt32 &&& Int32.toUInt32 31)).toInt32) &&& 1431655765))).toUInt32 >>> ((2 : Int32).toUInt32 &&& Int32.toUInt32 31)).toInt32) &&& 858993459)) + ((((((a1 - ((((a1).toUInt32 >>> ((1 : Int32).toUInt32 &&& Int32.toUInt32 31)).toInt32) &&& 1431655765)) &&& 858993459) + (((((a1 - ((((a1).toUInt32 >>> ((1 : Int32).toUInt32 &&& Int32.toUInt32 31)).toInt32) &&& 1431655765))).toUInt32 >>> ((2 : Int32).toUInt32 &&& Int32.toUInt32 31)).toInt32) &&& 858993459))).toUInt32 >>> ((4 : Int32).toUInt32 &&& Int32.toUInt32 31)).toInt32)) &&& 252645135)).toUInt32 >>> ((8 : Int32).toUInt32 &&& Int32.toUInt32 31)).toInt32)))]) dJ6_bitCount_0f7a4_40 rfl (by decide) rfl ?_
  refine jr_iload_n (pc := 41) dJ6_bitCount_0f7a4_41 rfl 0 rfl ?_
  refine jr_iload_n (pc := 42) dJ6_bitCount_0f7a4_42 rfl 0 rfl ?_
  refine jr_bipush (pc := 43) (v := 16) dJ6_bitCount_0f7a4_43 (by decide) ?_
  refine jr_iushr (pc := 45) dJ6_bitCount_0f7a4_45 ?_
  refine jr_iadd (pc := 46) dJ6_bitCount_0f7a4_46 ?_
  refine jr_istore_n (pc := 47) (lv' := [(0, vi (((((((a1 - ((((a1).toUInt32 >>> ((1 : Int32).toUInt32 &&& Int32.toUInt32 31)).toInt32) &&& 1431655765)) &&& 858993459) + (((((a1 - ((((a1).toUInt32 >>> ((1 : Int32).toUInt32 &&& Int32.toUInt32 31)).toInt32) &&& 1431655765))).toUInt32 >>> ((2 : Int32).toUInt32 &&& Int32.toUInt32 31)).toInt32) &&& 858993459)) + ((((((a1 - ((((a1).toUInt32 >>> ((1 : Int32).toUInt32 &&& Int32.toUInt32 31)).toInt32) &&& 1431655765)) &&& 858993459) + (((((a1 - ((((a1).toUInt32 >>> ((1 : Int32).toUInt32 &&& Int32.toUInt32 31)).toInt32) &&& 1431655765))).toUInt32 >>> ((2 : Int32).toUInt32 &&& Int32.toUInt32 31)).toInt32) &&& 858993459))).toUInt32 >>> ((4 : Int32).toUInt32 &&& Int32.toUInt32 31)).toInt32)) &&& 252645135) + ((((((((a1 - ((((a1).toUInt32 >>> ((1 : Int32).toUInt32 &&& Int32.toUInt32 31)).toInt32) &&& 1431655765)) &&& 858993459) + (((((a1 - ((((a1).toUInt32 >>> ((1 : Int32).toUInt32 &&& Int32.toUInt32 31)).toInt32) &&& 1431655765))).toUInt32 >>> ((2 : Int32).toUInt32 &&& Int32.toUInt32 31)).toInt32) &&& 858993459)) + ((((((a1 - ((((a1).toUInt32 >>> ((1 : Int32).toUInt32 &&& Int32.toUInt32 31)).toInt32) &&& 1431655765)) &&& 858993459) + (((((a1 - ((((a1).toUInt32 >>> ((1 : Int32).toUInt32 &&& Int32.toUInt32 31)).toInt32) &&& 1431655765))).toUInt32 >>> ((2 : Int32).toUInt32 &&& Int32.toUInt32 31)).toInt32) &&& 858993459))).toUInt32 >>> ((4 : Int32).toUInt32 &&& Int32.toUInt32 31)).toInt32)) &&& 252645135)).toUInt32 >>> ((8 : Int32).toUInt32 &&& Int32.toUInt32 31)).toInt32)) + (((((((((a1 - ((((a1).toUInt32 >>> ((1 : Int32).toUInt32 &&& Int32.toUInt32 31)).toInt32) &&& 1431655765)) &&& 858993459) + (((((a1 - ((((a1).toUInt32 >>> ((1 : Int32).toUInt32 &&& Int32.toUInt32 31)).toInt32) &&& 1431655765))).toUInt32 >>> ((2 : Int32).toUInt32 &&& Int32.toUInt32 31)).toInt32) &&& 858993459)) + ((((((a1 - ((((a1).toUInt32 >>> ((1 : Int32).toUInt32 &&& Int32.toUInt32 31)).toInt32) &&& 1431655765)) &&& 858993459) + (((((a1 - ((((a1).toUInt32 >>> ((1 : Int32).toUInt32 &&& Int32.toUInt32 31)).toInt32) &&& 1431655765))).toUInt32 >>> ((2 : Int32).toUInt32 &&& Int32.toUInt32 31)).toInt32) &&& 858993459))).toUInt32 >>> ((4 : Int32).toUInt32 &&& Int32.toUInt32 31)).toInt32)) &&& 252645135) + ((((((((a1 - ((((a1).toUInt32 >>> ((1 : Int32).toUInt32 &&& Int32.toUInt32 31)).toInt32) &&& 1431655765)) &&& 858993459) + (((((a1 - ((((a1).toUInt32 >>> ((1 : Int32).toUInt32 &&& Int32.toUInt32 31)).toInt32) &&& 1431655765))).toUInt32 >>> ((2 : Int32).toUInt32 &&& Int32.toUInt32 31)).toInt32) &&& 858993459)) + ((((((a1 - ((((a1).toUInt32 >>> ((1 : Int32).toUInt32 &&& Int32.toUInt32 31)).toInt32) &&& 1431655765)) &&& 858993459) + (((((a1 - ((((a1).toUInt32 >>> ((1 : Int32).toUInt32 &&& Int32.toUInt32 31)).toInt32) &&& 1431655765))).toUInt32 >>> ((2 : Int32).toUInt32 &&& Int32.toUInt32 31)).toInt32) &&& 858993459))).toUInt32 >>> ((4 : Int32).toUInt32 &&& Int32.toUInt32 31)).toInt32)) &&& 252645135)).toUInt32 >>> ((8 : Int32).toUInt32 &&& Int32.toUInt32 31)).toInt32))).toUInt32 >>> ((16 : Int32).toUInt32 &&& Int32.toUInt32 31)).toInt32)))]) dJ6_bitCount_0f7a4_47 rfl (by decide) rfl ?_
  refine jr_iload_n (pc := 48) dJ6_bitCount_0f7a4_48 rfl 0 rfl ?_
  refine jr_bipush (pc := 49) (v := 63) dJ6_bitCount_0f7a4_49 (by decide) ?_
  refine jr_iand (pc := 51) dJ6_bitCount_0f7a4_51 ?_
  exact jr_iret (pc := 52) rfl dJ6_bitCount_0f7a4_52 h
theorem dX1_clear_0 : decode cX1_clear 0 = .ok (.aload_n 0, 1) := by decide +kernel
theorem dX1_clear_1 : decode cX1_clear 1 = .ok (.iconst 0, 1) := by decide +kernel
theorem dX1_clear_2 : decode cX1_clear 2 = .ok (.putfield 33, 3) := by decide +kernel
theorem dX1_clear_5 : decode cX1_clear 5 = .ok (.aload_n 0, 1) := by decide +kernel
theorem dX1_clear_6 : decode cX1_clear 6 = .ok (.iconst 0, 1) := by decide +kernel
theorem dX1_clear_7 : decode cX1_clear 7 = .ok (.putfield 37, 3) := by decide +kernel
theorem dX1_clear_10 : decode cX1_clear 10 = .ok (.aload_n 0, 1) := by decide +kernel
theorem dX1_clear_11 : decode cX1_clear 11 = .ok (.iconst 0, 1) := by decide +kernel
theorem dX1_clear_12 : decode cX1_clear 12 = .ok (.putfield 40, 3) := by decide +kernel
theorem dX1_clear_15 : decode cX1_clear 15 = .ok (.aload_n 0, 1) := by decide +kernel
theorem dX1_clear_16 : decode cX1_clear 16 = .ok (.iconst 0, 1) := by decide +kernel
theorem dX1_clear_17 : decode cX1_clear 17 = .ok (.putfield 43, 3) := by decide +kernel
theorem dX1_clear_20 : decode cX1_clear 20 = .ok (.return_, 1) := by decide +kernel
set_option maxHeartbeats 4000000 in
set_option maxRecDepth 20000 in
theorem en_X1_clear {n : Nat} {M : jw_Mem} {Q : Int32 → jw_Mem → Prop} (hn_n : n < 2) (h : (∀ M1 : jw_Mem, M1 = jw_up M 1 n 0 0 → (∀ M2 : jw_Mem, M2 = jw_up M1 1 n 1 0 → (∀ M3 : jw_Mem, M3 = jw_up M2 1 n 2 0 → (∀ M4 : jw_Mem, M4 = jw_up M3 1 n 3 0 → Q 0 M4))))) : jw_M 0 mX1_clear [vr 1 n] M Q := by
  refine jw_M.of (by decide) (Nat.le_of_ble_eq_true rfl) ?_
  show jw_J 0 mX1_clear 0 [(0, vr 1 n)] [] M Q
  refine jr_aload_n (pc := 0) dX1_clear_0 rfl 0 rfl ?_
  refine jr_iconst (pc := 1) (v := 0) dX1_clear_1 (by decide) ?_
  refine jr_put (pc := 2) fp_X1_33 (by show n < 2; omega) (Or.inl ⟨_, _, _, rfl, by decide +kernel⟩) dX1_clear_2 ?_
  replace h := h _ rfl
  generalize jw_up M 1 n 0 0 = M1 at h ⊢
  refine jr_aload_n (pc := 5) dX1_clear_5 rfl 0 rfl ?_
  refine jr_iconst (pc := 6) (v := 0) dX1_clear_6 (by decide) ?_
  refine jr_put (pc := 7) fp_X1_37 (by show n < 2; omega) (Or.inl ⟨_, _, _, rfl, by decide +kernel⟩) dX1_clear_7 ?_
  replace h := h _ rfl
  generalize jw_up M1 1 n 1 0 = M2 at h ⊢
  refine jr_aload_n (pc := 10) dX1_clear_10 rfl 0 rfl ?_
  refine jr_iconst (pc := 11) (v := 0) dX1_clear_11 (by decide) ?_
  refine jr_put (pc := 12) fp_X1_40 (by show n < 2; omega) (Or.inl ⟨_, _, _, rfl, by decide +kernel⟩) dX1_clear_12 ?_
  replace h := h _ rfl
  generalize jw_up M2 1 n 2 0 = M3 at h ⊢
  refine jr_aload_n (pc := 15) dX1_clear_15 rfl 0 rfl ?_
  refine jr_iconst (pc := 16) (v := 0) dX1_clear_16 (by decide) ?_
  refine jr_put (pc := 17) fp_X1_43 (by show n < 2; omega) (Or.inl ⟨_, _, _, rfl, by decide +kernel⟩) dX1_clear_17 ?_
  replace h := h _ rfl
  generalize jw_up M3 1 n 3 0 = M4 at h ⊢
  exact jr_vret (pc := 20) rfl dX1_clear_20 h
theorem dX1_copyFrom_0 : decode cX1_copyFrom 0 = .ok (.aload_n 0, 1) := by decide +kernel
theorem dX1_copyFrom_1 : decode cX1_copyFrom 1 = .ok (.aload_n 1, 1) := by decide +kernel
theorem dX1_copyFrom_2 : decode cX1_copyFrom 2 = .ok (.getfield 33, 3) := by decide +kernel
theorem dX1_copyFrom_5 : decode cX1_copyFrom 5 = .ok (.putfield 33, 3) := by decide +kernel
theorem dX1_copyFrom_8 : decode cX1_copyFrom 8 = .ok (.aload_n 0, 1) := by decide +kernel
theorem dX1_copyFrom_9 : decode cX1_copyFrom 9 = .ok (.aload_n 1, 1) := by decide +kernel
theorem dX1_copyFrom_10 : decode cX1_copyFrom 10 = .ok (.getfield 37, 3) := by decide +kernel
theorem dX1_copyFrom_13 : decode cX1_copyFrom 13 = .ok (.putfield 37, 3) := by decide +kernel
theorem dX1_copyFrom_16 : decode cX1_copyFrom 16 = .ok (.aload_n 0, 1) := by decide +kernel
theorem dX1_copyFrom_17 : decode cX1_copyFrom 17 = .ok (.aload_n 1, 1) := by decide +kernel
theorem dX1_copyFrom_18 : decode cX1_copyFrom 18 = .ok (.getfield 40, 3) := by decide +kernel
theorem dX1_copyFrom_21 : decode cX1_copyFrom 21 = .ok (.putfield 40, 3) := by decide +kernel
theorem dX1_copyFrom_24 : decode cX1_copyFrom 24 = .ok (.aload_n 0, 1) := by decide +kernel
theorem dX1_copyFrom_25 : decode cX1_copyFrom 25 = .ok (.aload_n 1, 1) := by decide +kernel
theorem dX1_copyFrom_26 : decode cX1_copyFrom 26 = .ok (.getfield 43, 3) := by decide +kernel
theorem dX1_copyFrom_29 : decode cX1_copyFrom 29 = .ok (.putfield 43, 3) := by decide +kernel
theorem dX1_copyFrom_32 : decode cX1_copyFrom 32 = .ok (.aload_n 1, 1) := by decide +kernel
theorem dX1_copyFrom_33 : decode cX1_copyFrom 33 = .ok (.getfield 9, 3) := by decide +kernel
theorem dX1_copyFrom_36 : decode cX1_copyFrom 36 = .ok (.iconst 0, 1) := by decide +kernel
theorem dX1_copyFrom_37 : decode cX1_copyFrom 37 = .ok (.aload_n 0, 1) := by decide +kernel
theorem dX1_copyFrom_38 : decode cX1_copyFrom 38 = .ok (.getfield 9, 3) := by decide +kernel
theorem dX1_copyFrom_41 : decode cX1_copyFrom 41 = .ok (.iconst 0, 1) := by decide +kernel
theorem dX1_copyFrom_42 : decode cX1_copyFrom 42 = .ok (.iconst 5, 1) := by decide +kernel
theorem dX1_copyFrom_43 : decode cX1_copyFrom 43 = .ok (.invokestatic 46, 3) := by decide +kernel
theorem dX1_copyFrom_46 : decode cX1_copyFrom 46 = .ok (.aload_n 1, 1) := by decide +kernel
theorem dX1_copyFrom_47 : decode cX1_copyFrom 47 = .ok (.getfield 15, 3) := by decide +kernel
theorem dX1_copyFrom_50 : decode cX1_copyFrom 50 = .ok (.iconst 0, 1) := by decide +kernel
theorem dX1_copyFrom_51 : decode cX1_copyFrom 51 = .ok (.aload_n 0, 1) := by decide +kernel
theorem dX1_copyFrom_52 : decode cX1_copyFrom 52 = .ok (.getfield 15, 3) := by decide +kernel
theorem dX1_copyFrom_55 : decode cX1_copyFrom 55 = .ok (.iconst 0, 1) := by decide +kernel
theorem dX1_copyFrom_56 : decode cX1_copyFrom 56 = .ok (.bipush 6, 2) := by decide +kernel
theorem dX1_copyFrom_58 : decode cX1_copyFrom 58 = .ok (.invokestatic 46, 3) := by decide +kernel
theorem dX1_copyFrom_61 : decode cX1_copyFrom 61 = .ok (.aload_n 1, 1) := by decide +kernel
theorem dX1_copyFrom_62 : decode cX1_copyFrom 62 = .ok (.getfield 18, 3) := by decide +kernel
theorem dX1_copyFrom_65 : decode cX1_copyFrom 65 = .ok (.iconst 0, 1) := by decide +kernel
theorem dX1_copyFrom_66 : decode cX1_copyFrom 66 = .ok (.aload_n 0, 1) := by decide +kernel
theorem dX1_copyFrom_67 : decode cX1_copyFrom 67 = .ok (.getfield 18, 3) := by decide +kernel
theorem dX1_copyFrom_70 : decode cX1_copyFrom 70 = .ok (.iconst 0, 1) := by decide +kernel
theorem dX1_copyFrom_71 : decode cX1_copyFrom 71 = .ok (.bipush 6, 2) := by decide +kernel
theorem dX1_copyFrom_73 : decode cX1_copyFrom 73 = .ok (.invokestatic 46, 3) := by decide +kernel
theorem dX1_copyFrom_76 : decode cX1_copyFrom 76 = .ok (.aload_n 1, 1) := by decide +kernel
theorem dX1_copyFrom_77 : decode cX1_copyFrom 77 = .ok (.getfield 21, 3) := by decide +kernel
theorem dX1_copyFrom_80 : decode cX1_copyFrom 80 = .ok (.iconst 0, 1) := by decide +kernel
theorem dX1_copyFrom_81 : decode cX1_copyFrom 81 = .ok (.aload_n 0, 1) := by decide +kernel
theorem dX1_copyFrom_82 : decode cX1_copyFrom 82 = .ok (.getfield 21, 3) := by decide +kernel
theorem dX1_copyFrom_85 : decode cX1_copyFrom 85 = .ok (.iconst 0, 1) := by decide +kernel
theorem dX1_copyFrom_86 : decode cX1_copyFrom 86 = .ok (.bipush 6, 2) := by decide +kernel
theorem dX1_copyFrom_88 : decode cX1_copyFrom 88 = .ok (.invokestatic 46, 3) := by decide +kernel
theorem dX1_copyFrom_91 : decode cX1_copyFrom 91 = .ok (.aload_n 1, 1) := by decide +kernel
theorem dX1_copyFrom_92 : decode cX1_copyFrom 92 = .ok (.getfield 24, 3) := by decide +kernel
theorem dX1_copyFrom_95 : decode cX1_copyFrom 95 = .ok (.iconst 0, 1) := by decide +kernel
theorem dX1_copyFrom_96 : decode cX1_copyFrom 96 = .ok (.aload_n 0, 1) := by decide +kernel
theorem dX1_copyFrom_97 : decode cX1_copyFrom 97 = .ok (.getfield 24, 3) := by decide +kernel
theorem dX1_copyFrom_100 : decode cX1_copyFrom 100 = .ok (.iconst 0, 1) := by decide +kernel
theorem dX1_copyFrom_101 : decode cX1_copyFrom 101 = .ok (.bipush 7, 2) := by decide +kernel
theorem dX1_copyFrom_103 : decode cX1_copyFrom 103 = .ok (.invokestatic 46, 3) := by decide +kernel
theorem dX1_copyFrom_106 : decode cX1_copyFrom 106 = .ok (.aload_n 1, 1) := by decide +kernel
theorem dX1_copyFrom_107 : decode cX1_copyFrom 107 = .ok (.getfield 27, 3) := by decide +kernel
theorem dX1_copyFrom_110 : decode cX1_copyFrom 110 = .ok (.iconst 0, 1) := by decide +kernel
theorem dX1_copyFrom_111 : decode cX1_copyFrom 111 = .ok (.aload_n 0, 1) := by decide +kernel
theorem dX1_copyFrom_112 : decode cX1_copyFrom 112 = .ok (.getfield 27, 3) := by decide +kernel
theorem dX1_copyFrom_115 : decode cX1_copyFrom 115 = .ok (.iconst 0, 1) := by decide +kernel
theorem dX1_copyFrom_116 : decode cX1_copyFrom 116 = .ok (.bipush 7, 2) := by decide +kernel
theorem dX1_copyFrom_118 : decode cX1_copyFrom 118 = .ok (.invokestatic 46, 3) := by decide +kernel
theorem dX1_copyFrom_121 : decode cX1_copyFrom 121 = .ok (.aload_n 1, 1) := by decide +kernel
theorem dX1_copyFrom_122 : decode cX1_copyFrom 122 = .ok (.getfield 30, 3) := by decide +kernel
theorem dX1_copyFrom_125 : decode cX1_copyFrom 125 = .ok (.iconst 0, 1) := by decide +kernel
theorem dX1_copyFrom_126 : decode cX1_copyFrom 126 = .ok (.aload_n 0, 1) := by decide +kernel
theorem dX1_copyFrom_127 : decode cX1_copyFrom 127 = .ok (.getfield 30, 3) := by decide +kernel
theorem dX1_copyFrom_130 : decode cX1_copyFrom 130 = .ok (.iconst 0, 1) := by decide +kernel
theorem dX1_copyFrom_131 : decode cX1_copyFrom 131 = .ok (.bipush 7, 2) := by decide +kernel
theorem dX1_copyFrom_133 : decode cX1_copyFrom 133 = .ok (.invokestatic 46, 3) := by decide +kernel
theorem dX1_copyFrom_136 : decode cX1_copyFrom 136 = .ok (.return_, 1) := by decide +kernel
set_option maxHeartbeats 4000000 in
set_option maxRecDepth 20000 in
theorem en_X1_copyFrom {n : Nat} {n1 : Nat} {M : jw_Mem} {Q : Int32 → jw_Mem → Prop} (hn_n : n < 2) (hn_n1 : n1 < 2) (h : (∀ M1 : jw_Mem, M1 = jw_up M 1 n 0 (M 1 n1 0) → (∀ M2 : jw_Mem, M2 = jw_up M1 1 n 1 (M1 1 n1 1) → (∀ M3 : jw_Mem, M3 = jw_up M2 1 n 2 (M2 1 n1 2) → (∀ M4 : jw_Mem, M4 = jw_up M3 1 n 3 (M3 1 n1 3) → (∀ M5 : jw_Mem, M5 = jw_row M4 14 n (va_cpy (M4 14 n1) (M4 14 n) 0 0 (5 : Int32).toNatClampNeg) → (∀ M6 : jw_Mem, M6 = jw_row M5 15 n (va_cpy (M5 15 n1) (M5 15 n) 0 0 (6 : Int32).toNatClampNeg) → (∀ M7 : jw_Mem, M7 = jw_row M6 16 n (va_cpy (M6 16 n1) (M6 16 n) 0 0 (6 : Int32).toNatClampNeg) → (∀ M8 : jw_Mem, M8 = jw_row M7 17 n (va_cpy (M7 17 n1) (M7 17 n) 0 0 (6 : Int32).toNatClampNeg) → (∀ M9 : jw_Mem, M9 = jw_row M8 18 n (va_cpy (M8 18 n1) (M8 18 n) 0 0 (7 : Int32).toNatClampNeg) → (∀ M10 : jw_Mem, M10 = jw_row M9 19 n (va_cpy (M9 19 n1) (M9 19 n) 0 0 (7 : Int32).toNatClampNeg) → (∀ M11 : jw_Mem, M11 = jw_row M10 20 n (va_cpy (M10 20 n1) (M10 20 n) 0 0 (7 : Int32).toNatClampNeg) → Q 0 M11)))))))))))) : jw_M 1 mX1_copyFrom [vr 1 n, vr 1 n1] M Q := by
  refine jw_M.of (by decide) (Nat.le_of_ble_eq_true rfl) ?_
  show jw_J 1 mX1_copyFrom 0 [(0, vr 1 n), (1, vr 1 n1)] [] M Q
  refine jr_aload_n (pc := 0) dX1_copyFrom_0 rfl 0 rfl ?_
  refine jr_aload_n (pc := 1) dX1_copyFrom_1 rfl 1 rfl ?_
  refine jr_get (pc := 2) (v := vi (M 1 n1 0)) fg_X1_33 (by show n1 < 2; omega) rfl dX1_copyFrom_2 ?_
  refine jr_put (pc := 5) fp_X1_33 (by show n < 2; omega) (Or.inl ⟨_, _, _, rfl, by decide +kernel⟩) dX1_copyFrom_5 ?_
  replace h := h _ rfl
  generalize jw_up M 1 n 0 (M 1 n1 0) = M1 at h ⊢
  refine jr_aload_n (pc := 8) dX1_copyFrom_8 rfl 0 rfl ?_
  refine jr_aload_n (pc := 9) dX1_copyFrom_9 rfl 1 rfl ?_
  refine jr_get (pc := 10) (v := vi (M1 1 n1 1)) fg_X1_37 (by show n1 < 2; omega) rfl dX1_copyFrom_10 ?_
  refine jr_put (pc := 13) fp_X1_37 (by show n < 2; omega) (Or.inl ⟨_, _, _, rfl, by decide +kernel⟩) dX1_copyFrom_13 ?_
  replace h := h _ rfl
  generalize jw_up M1 1 n 1 (M1 1 n1 1) = M2 at h ⊢
  refine jr_aload_n (pc := 16) dX1_copyFrom_16 rfl 0 rfl ?_
  refine jr_aload_n (pc := 17) dX1_copyFrom_17 rfl 1 rfl ?_
  refine jr_get (pc := 18) (v := vi (M2 1 n1 2)) fg_X1_40 (by show n1 < 2; omega) rfl dX1_copyFrom_18 ?_
  refine jr_put (pc := 21) fp_X1_40 (by show n < 2; omega) (Or.inl ⟨_, _, _, rfl, by decide +kernel⟩) dX1_copyFrom_21 ?_
  replace h := h _ rfl
  generalize jw_up M2 1 n 2 (M2 1 n1 2) = M3 at h ⊢
  refine jr_aload_n (pc := 24) dX1_copyFrom_24 rfl 0 rfl ?_
  refine jr_aload_n (pc := 25) dX1_copyFrom_25 rfl 1 rfl ?_
  refine jr_get (pc := 26) (v := vi (M3 1 n1 3)) fg_X1_43 (by show n1 < 2; omega) rfl dX1_copyFrom_26 ?_
  refine jr_put (pc := 29) fp_X1_43 (by show n < 2; omega) (Or.inl ⟨_, _, _, rfl, by decide +kernel⟩) dX1_copyFrom_29 ?_
  replace h := h _ rfl
  generalize jw_up M3 1 n 3 (M3 1 n1 3) = M4 at h ⊢
  refine jr_aload_n (pc := 32) dX1_copyFrom_32 rfl 1 rfl ?_
  refine jr_get (pc := 33) (v := vr 14 n1) fg_X1_9 (by show n1 < 2; omega) rfl dX1_copyFrom_33 ?_
  refine jr_iconst (pc := 36) (v := 0) dX1_copyFrom_36 (by decide) ?_
  refine jr_aload_n (pc := 37) dX1_copyFrom_37 rfl 0 rfl ?_
  refine jr_get (pc := 38) (v := vr 14 n) fg_X1_9 (by show n < 2; omega) rfl dX1_copyFrom_38 ?_
  refine jr_iconst (pc := 41) (v := 0) dX1_copyFrom_41 (by decide) ?_
  refine jr_iconst (pc := 42) (v := 5) dX1_copyFrom_42 (by decide) ?_
  refine jr_copy (pc := 43) ⟨rfl, (by show n1 < 2; omega)⟩ ⟨rfl, (by show n < 2; omega)⟩ fc_X1_46 (by decide) (by decide) (by decide) (by decide) dX1_copyFrom_43 ?_
  replace h := h _ rfl
  generalize jw_row M4 14 n (va_cpy (M4 14 n1) (M4 14 n) 0 0 (5 : Int32).toNatClampNeg) = M5 at h ⊢
  refine jr_aload_n (pc := 46) dX1_copyFrom_46 rfl 1 rfl ?_
  refine jr_get (pc := 47) (v := vr 15 n1) fg_X1_15 (by show n1 < 2; omega) rfl dX1_copyFrom_47 ?_
  refine jr_iconst (pc := 50) (v := 0) dX1_copyFrom_50 (by decide) ?_
  refine jr_aload_n (pc := 51) dX1_copyFrom_51 rfl 0 rfl ?_
  refine jr_get (pc := 52) (v := vr 15 n) fg_X1_15 (by show n < 2; omega) rfl dX1_copyFrom_52 ?_
  refine jr_iconst (pc := 55) (v := 0) dX1_copyFrom_55 (by decide) ?_
  refine jr_bipush (pc := 56) (v := 6) dX1_copyFrom_56 (by decide) ?_
  refine jr_copy (pc := 58) ⟨rfl, (by show n1 < 2; omega)⟩ ⟨rfl, (by show n < 2; omega)⟩ fc_X1_46 (by decide) (by decide) (by decide) (by decide) dX1_copyFrom_58 ?_
  replace h := h _ rfl
  generalize jw_row M5 15 n (va_cpy (M5 15 n1) (M5 15 n) 0 0 (6 : Int32).toNatClampNeg) = M6 at h ⊢
  refine jr_aload_n (pc := 61) dX1_copyFrom_61 rfl 1 rfl ?_
  refine jr_get (pc := 62) (v := vr 16 n1) fg_X1_18 (by show n1 < 2; omega) rfl dX1_copyFrom_62 ?_
  refine jr_iconst (pc := 65) (v := 0) dX1_copyFrom_65 (by decide) ?_
  refine jr_aload_n (pc := 66) dX1_copyFrom_66 rfl 0 rfl ?_
  refine jr_get (pc := 67) (v := vr 16 n) fg_X1_18 (by show n < 2; omega) rfl dX1_copyFrom_67 ?_
  refine jr_iconst (pc := 70) (v := 0) dX1_copyFrom_70 (by decide) ?_
  refine jr_bipush (pc := 71) (v := 6) dX1_copyFrom_71 (by decide) ?_
  refine jr_copy (pc := 73) ⟨rfl, (by show n1 < 2; omega)⟩ ⟨rfl, (by show n < 2; omega)⟩ fc_X1_46 (by decide) (by decide) (by decide) (by decide) dX1_copyFrom_73 ?_
  replace h := h _ rfl
  generalize jw_row M6 16 n (va_cpy (M6 16 n1) (M6 16 n) 0 0 (6 : Int32).toNatClampNeg) = M7 at h ⊢
  refine jr_aload_n (pc := 76) dX1_copyFrom_76 rfl 1 rfl ?_
  refine jr_get (pc := 77) (v := vr 17 n1) fg_X1_21 (by show n1 < 2; omega) rfl dX1_copyFrom_77 ?_
  refine jr_iconst (pc := 80) (v := 0) dX1_copyFrom_80 (by decide) ?_
  refine jr_aload_n (pc := 81) dX1_copyFrom_81 rfl 0 rfl ?_
  refine jr_get (pc := 82) (v := vr 17 n) fg_X1_21 (by show n < 2; omega) rfl dX1_copyFrom_82 ?_
  refine jr_iconst (pc := 85) (v := 0) dX1_copyFrom_85 (by decide) ?_
  refine jr_bipush (pc := 86) (v := 6) dX1_copyFrom_86 (by decide) ?_
  refine jr_copy (pc := 88) ⟨rfl, (by show n1 < 2; omega)⟩ ⟨rfl, (by show n < 2; omega)⟩ fc_X1_46 (by decide) (by decide) (by decide) (by decide) dX1_copyFrom_88 ?_
  replace h := h _ rfl
  generalize jw_row M7 17 n (va_cpy (M7 17 n1) (M7 17 n) 0 0 (6 : Int32).toNatClampNeg) = M8 at h ⊢
  refine jr_aload_n (pc := 91) dX1_copyFrom_91 rfl 1 rfl ?_
  refine jr_get (pc := 92) (v := vr 18 n1) fg_X1_24 (by show n1 < 2; omega) rfl dX1_copyFrom_92 ?_
  refine jr_iconst (pc := 95) (v := 0) dX1_copyFrom_95 (by decide) ?_
  refine jr_aload_n (pc := 96) dX1_copyFrom_96 rfl 0 rfl ?_
  refine jr_get (pc := 97) (v := vr 18 n) fg_X1_24 (by show n < 2; omega) rfl dX1_copyFrom_97 ?_
  refine jr_iconst (pc := 100) (v := 0) dX1_copyFrom_100 (by decide) ?_
  refine jr_bipush (pc := 101) (v := 7) dX1_copyFrom_101 (by decide) ?_
  refine jr_copy (pc := 103) ⟨rfl, (by show n1 < 2; omega)⟩ ⟨rfl, (by show n < 2; omega)⟩ fc_X1_46 (by decide) (by decide) (by decide) (by decide) dX1_copyFrom_103 ?_
  replace h := h _ rfl
  generalize jw_row M8 18 n (va_cpy (M8 18 n1) (M8 18 n) 0 0 (7 : Int32).toNatClampNeg) = M9 at h ⊢
  refine jr_aload_n (pc := 106) dX1_copyFrom_106 rfl 1 rfl ?_
  refine jr_get (pc := 107) (v := vr 19 n1) fg_X1_27 (by show n1 < 2; omega) rfl dX1_copyFrom_107 ?_
  refine jr_iconst (pc := 110) (v := 0) dX1_copyFrom_110 (by decide) ?_
  refine jr_aload_n (pc := 111) dX1_copyFrom_111 rfl 0 rfl ?_
  refine jr_get (pc := 112) (v := vr 19 n) fg_X1_27 (by show n < 2; omega) rfl dX1_copyFrom_112 ?_
  refine jr_iconst (pc := 115) (v := 0) dX1_copyFrom_115 (by decide) ?_
  refine jr_bipush (pc := 116) (v := 7) dX1_copyFrom_116 (by decide) ?_
  refine jr_copy (pc := 118) ⟨rfl, (by show n1 < 2; omega)⟩ ⟨rfl, (by show n < 2; omega)⟩ fc_X1_46 (by decide) (by decide) (by decide) (by decide) dX1_copyFrom_118 ?_
  replace h := h _ rfl
  generalize jw_row M9 19 n (va_cpy (M9 19 n1) (M9 19 n) 0 0 (7 : Int32).toNatClampNeg) = M10 at h ⊢
  refine jr_aload_n (pc := 121) dX1_copyFrom_121 rfl 1 rfl ?_
  refine jr_get (pc := 122) (v := vr 20 n1) fg_X1_30 (by show n1 < 2; omega) rfl dX1_copyFrom_122 ?_
  refine jr_iconst (pc := 125) (v := 0) dX1_copyFrom_125 (by decide) ?_
  refine jr_aload_n (pc := 126) dX1_copyFrom_126 rfl 0 rfl ?_
  refine jr_get (pc := 127) (v := vr 20 n) fg_X1_30 (by show n < 2; omega) rfl dX1_copyFrom_127 ?_
  refine jr_iconst (pc := 130) (v := 0) dX1_copyFrom_130 (by decide) ?_
  refine jr_bipush (pc := 131) (v := 7) dX1_copyFrom_131 (by decide) ?_
  refine jr_copy (pc := 133) ⟨rfl, (by show n1 < 2; omega)⟩ ⟨rfl, (by show n < 2; omega)⟩ fc_X1_46 (by decide) (by decide) (by decide) (by decide) dX1_copyFrom_133 ?_
  replace h := h _ rfl
  generalize jw_row M10 20 n (va_cpy (M10 20 n1) (M10 20 n) 0 0 (7 : Int32).toNatClampNeg) = M11 at h ⊢
  exact jr_vret (pc := 136) rfl dX1_copyFrom_136 h
theorem dX1_addPlinth_0 : decode cX1_addPlinth 0 = .ok (.aload_n 0, 1) := by decide +kernel
theorem dX1_addPlinth_1 : decode cX1_addPlinth 1 = .ok (.getfield 37, 3) := by decide +kernel
theorem dX1_addPlinth_4 : decode cX1_addPlinth 4 = .ok (.iconst 5, 1) := by decide +kernel
theorem dX1_addPlinth_5 : decode cX1_addPlinth 5 = .ok (.if_icmp .ge 23, 3) := by decide +kernel
theorem dX1_addPlinth_8 : decode cX1_addPlinth 8 = .ok (.aload_n 0, 1) := by decide +kernel
theorem dX1_addPlinth_9 : decode cX1_addPlinth 9 = .ok (.getfield 9, 3) := by decide +kernel
theorem dX1_addPlinth_12 : decode cX1_addPlinth 12 = .ok (.aload_n 0, 1) := by decide +kernel
theorem dX1_addPlinth_13 : decode cX1_addPlinth 13 = .ok (.getfield 37, 3) := by decide +kernel
theorem dX1_addPlinth_16 : decode cX1_addPlinth 16 = .ok (.iload_n 1, 1) := by decide +kernel
theorem dX1_addPlinth_17 : decode cX1_addPlinth 17 = .ok (.iastore, 1) := by decide +kernel
theorem dX1_addPlinth_18 : decode cX1_addPlinth 18 = .ok (.aload_n 0, 1) := by decide +kernel
theorem dX1_addPlinth_19 : decode cX1_addPlinth 19 = .ok (.dup, 1) := by decide +kernel
theorem dX1_addPlinth_20 : decode cX1_addPlinth 20 = .ok (.getfield 37, 3) := by decide +kernel
theorem dX1_addPlinth_23 : decode cX1_addPlinth 23 = .ok (.iconst 1, 1) := by decide +kernel
theorem dX1_addPlinth_24 : decode cX1_addPlinth 24 = .ok (.iadd, 1) := by decide +kernel
theorem dX1_addPlinth_25 : decode cX1_addPlinth 25 = .ok (.putfield 37, 3) := by decide +kernel
theorem dX1_addPlinth_28 : decode cX1_addPlinth 28 = .ok (.return_, 1) := by decide +kernel
set_option maxHeartbeats 4000000 in
set_option maxRecDepth 20000 in
theorem en_X1_addPlinth {n : Nat} {a1 : Int32} {M : jw_Mem} {Q : Int32 → jw_Mem → Prop} (hn_n : n < 2) (h : ((5 ≤ (M 1 n 1) → Q 0 M) ∧ (¬ 5 ≤ (M 1 n 1) → (vp_in (M 1 n 1) 5 ∧ (∀ M1 : jw_Mem, M1 = jw_up M 14 n ((M 1 n 1) : Int32).toNatClampNeg a1 → (∀ M2 : jw_Mem, M2 = jw_up M1 1 n 1 ((M1 1 n 1) + 1) → Q 0 M2)))))) : jw_M 0 mX1_addPlinth [vr 1 n, vi a1] M Q := by
  refine jw_M.of (by decide) (Nat.le_of_ble_eq_true rfl) ?_
  show jw_J 0 mX1_addPlinth 0 [(0, vr 1 n), (1, vi a1)] [] M Q
  refine jr_aload_n (pc := 0) dX1_addPlinth_0 rfl 0 rfl ?_
  refine jr_get (pc := 1) (v := vi (M 1 n 1)) fg_X1_37 (by show n < 2; omega) rfl dX1_addPlinth_1 ?_
  refine jr_iconst (pc := 4) (v := 5) dX1_addPlinth_4 (by decide) ?_
  refine jr_icmp_ge (pc := 5) (tgt := 28) dX1_addPlinth_5 (by decide) (fun c => ?_) (fun c => ?_)
  · replace h := h.1 c
    exact jr_vret (pc := 28) rfl dX1_addPlinth_28 h
  · replace h := h.2 c
    refine jr_aload_n (pc := 8) dX1_addPlinth_8 rfl 0 rfl ?_
    refine jr_get (pc := 9) (v := vr 14 n) fg_X1_9 (by show n < 2; omega) rfl dX1_addPlinth_9 ?_
    refine jr_aload_n (pc := 12) dX1_addPlinth_12 rfl 0 rfl ?_
    refine jr_get (pc := 13) (v := vi (M 1 n 1)) fg_X1_37 (by show n < 2; omega) rfl dX1_addPlinth_13 ?_
    refine jr_iload_n (pc := 16) dX1_addPlinth_16 rfl 1 rfl ?_
    refine jr_iast (pc := 17) ⟨rfl, (by show n < 2; omega)⟩ h.1 dX1_addPlinth_17 ?_
    replace h := h.2
    replace h := h _ rfl
    generalize jw_up M 14 n ((M 1 n 1) : Int32).toNatClampNeg a1 = M1 at h ⊢
    refine jr_aload_n (pc := 18) dX1_addPlinth_18 rfl 0 rfl ?_
    refine jr_dup_r (pc := 19) dX1_addPlinth_19 ?_
    refine jr_get (pc := 20) (v := vi (M1 1 n 1)) fg_X1_37 (by show n < 2; omega) rfl dX1_addPlinth_20 ?_
    refine jr_iconst (pc := 23) (v := 1) dX1_addPlinth_23 (by decide) ?_
    refine jr_iadd (pc := 24) dX1_addPlinth_24 ?_
    refine jr_put (pc := 25) fp_X1_37 (by show n < 2; omega) (Or.inl ⟨_, _, _, rfl, by decide +kernel⟩) dX1_addPlinth_25 ?_
    replace h := h _ rfl
    generalize jw_up M1 1 n 1 ((M1 1 n 1) + 1) = M2 at h ⊢
    exact jr_vret (pc := 28) rfl dX1_addPlinth_28 h
theorem dX1_addStatue_0 : decode cX1_addStatue 0 = .ok (.aload_n 0, 1) := by decide +kernel
theorem dX1_addStatue_1 : decode cX1_addStatue 1 = .ok (.getfield 40, 3) := by decide +kernel
theorem dX1_addStatue_4 : decode cX1_addStatue 4 = .ok (.bipush 6, 2) := by decide +kernel
theorem dX1_addStatue_6 : decode cX1_addStatue 6 = .ok (.if_icmp .ge 43, 3) := by decide +kernel
theorem dX1_addStatue_9 : decode cX1_addStatue 9 = .ok (.aload_n 0, 1) := by decide +kernel
theorem dX1_addStatue_10 : decode cX1_addStatue 10 = .ok (.getfield 15, 3) := by decide +kernel
theorem dX1_addStatue_13 : decode cX1_addStatue 13 = .ok (.aload_n 0, 1) := by decide +kernel
theorem dX1_addStatue_14 : decode cX1_addStatue 14 = .ok (.getfield 40, 3) := by decide +kernel
theorem dX1_addStatue_17 : decode cX1_addStatue 17 = .ok (.iload_n 1, 1) := by decide +kernel
theorem dX1_addStatue_18 : decode cX1_addStatue 18 = .ok (.iastore, 1) := by decide +kernel
theorem dX1_addStatue_19 : decode cX1_addStatue 19 = .ok (.aload_n 0, 1) := by decide +kernel
theorem dX1_addStatue_20 : decode cX1_addStatue 20 = .ok (.getfield 21, 3) := by decide +kernel
theorem dX1_addStatue_23 : decode cX1_addStatue 23 = .ok (.aload_n 0, 1) := by decide +kernel
theorem dX1_addStatue_24 : decode cX1_addStatue 24 = .ok (.getfield 40, 3) := by decide +kernel
theorem dX1_addStatue_27 : decode cX1_addStatue 27 = .ok (.iload_n 2, 1) := by decide +kernel
theorem dX1_addStatue_28 : decode cX1_addStatue 28 = .ok (.iastore, 1) := by decide +kernel
theorem dX1_addStatue_29 : decode cX1_addStatue 29 = .ok (.aload_n 0, 1) := by decide +kernel
theorem dX1_addStatue_30 : decode cX1_addStatue 30 = .ok (.getfield 18, 3) := by decide +kernel
theorem dX1_addStatue_33 : decode cX1_addStatue 33 = .ok (.aload_n 0, 1) := by decide +kernel
theorem dX1_addStatue_34 : decode cX1_addStatue 34 = .ok (.getfield 40, 3) := by decide +kernel
theorem dX1_addStatue_37 : decode cX1_addStatue 37 = .ok (.iload_n 3, 1) := by decide +kernel
theorem dX1_addStatue_38 : decode cX1_addStatue 38 = .ok (.iastore, 1) := by decide +kernel
theorem dX1_addStatue_39 : decode cX1_addStatue 39 = .ok (.aload_n 0, 1) := by decide +kernel
theorem dX1_addStatue_40 : decode cX1_addStatue 40 = .ok (.dup, 1) := by decide +kernel
theorem dX1_addStatue_41 : decode cX1_addStatue 41 = .ok (.getfield 40, 3) := by decide +kernel
theorem dX1_addStatue_44 : decode cX1_addStatue 44 = .ok (.iconst 1, 1) := by decide +kernel
theorem dX1_addStatue_45 : decode cX1_addStatue 45 = .ok (.iadd, 1) := by decide +kernel
theorem dX1_addStatue_46 : decode cX1_addStatue 46 = .ok (.putfield 40, 3) := by decide +kernel
theorem dX1_addStatue_49 : decode cX1_addStatue 49 = .ok (.return_, 1) := by decide +kernel
set_option maxHeartbeats 4000000 in
set_option maxRecDepth 20000 in
theorem en_X1_addStatue {n : Nat} {a1 : Int32} {a2 : Int32} {a3 : Int32} {M : jw_Mem} {Q : Int32 → jw_Mem → Prop} (hn_n : n < 2) (h : ((6 ≤ (M 1 n 2) → Q 0 M) ∧ (¬ 6 ≤ (M 1 n 2) → (vp_in (M 1 n 2) 6 ∧ (∀ M1 : jw_Mem, M1 = jw_up M 15 n ((M 1 n 2) : Int32).toNatClampNeg a1 → (vp_in (M1 1 n 2) 6 ∧ (∀ M2 : jw_Mem, M2 = jw_up M1 17 n ((M1 1 n 2) : Int32).toNatClampNeg a2 → (vp_in (M2 1 n 2) 6 ∧ (∀ M3 : jw_Mem, M3 = jw_up M2 16 n ((M2 1 n 2) : Int32).toNatClampNeg a3 → (∀ M4 : jw_Mem, M4 = jw_up M3 1 n 2 ((M3 1 n 2) + 1) → Q 0 M4)))))))))) : jw_M 0 mX1_addStatue [vr 1 n, vi a1, vi a2, vi a3] M Q := by
  refine jw_M.of (by decide) (Nat.le_of_ble_eq_true rfl) ?_
  show jw_J 0 mX1_addStatue 0 [(0, vr 1 n), (1, vi a1), (2, vi a2), (3, vi a3)] [] M Q
  refine jr_aload_n (pc := 0) dX1_addStatue_0 rfl 0 rfl ?_
  refine jr_get (pc := 1) (v := vi (M 1 n 2)) fg_X1_40 (by show n < 2; omega) rfl dX1_addStatue_1 ?_
  refine jr_bipush (pc := 4) (v := 6) dX1_addStatue_4 (by decide) ?_
  refine jr_icmp_ge (pc := 6) (tgt := 49) dX1_addStatue_6 (by decide) (fun c => ?_) (fun c => ?_)
  · replace h := h.1 c
    exact jr_vret (pc := 49) rfl dX1_addStatue_49 h
  · replace h := h.2 c
    refine jr_aload_n (pc := 9) dX1_addStatue_9 rfl 0 rfl ?_
    refine jr_get (pc := 10) (v := vr 15 n) fg_X1_15 (by show n < 2; omega) rfl dX1_addStatue_10 ?_
    refine jr_aload_n (pc := 13) dX1_addStatue_13 rfl 0 rfl ?_
    refine jr_get (pc := 14) (v := vi (M 1 n 2)) fg_X1_40 (by show n < 2; omega) rfl dX1_addStatue_14 ?_
    refine jr_iload_n (pc := 17) dX1_addStatue_17 rfl 1 rfl ?_
    refine jr_iast (pc := 18) ⟨rfl, (by show n < 2; omega)⟩ h.1 dX1_addStatue_18 ?_
    replace h := h.2
    replace h := h _ rfl
    generalize jw_up M 15 n ((M 1 n 2) : Int32).toNatClampNeg a1 = M1 at h ⊢
    refine jr_aload_n (pc := 19) dX1_addStatue_19 rfl 0 rfl ?_
    refine jr_get (pc := 20) (v := vr 17 n) fg_X1_21 (by show n < 2; omega) rfl dX1_addStatue_20 ?_
    refine jr_aload_n (pc := 23) dX1_addStatue_23 rfl 0 rfl ?_
    refine jr_get (pc := 24) (v := vi (M1 1 n 2)) fg_X1_40 (by show n < 2; omega) rfl dX1_addStatue_24 ?_
    refine jr_iload_n (pc := 27) dX1_addStatue_27 rfl 2 rfl ?_
    refine jr_iast (pc := 28) ⟨rfl, (by show n < 2; omega)⟩ h.1 dX1_addStatue_28 ?_
    replace h := h.2
    replace h := h _ rfl
    generalize jw_up M1 17 n ((M1 1 n 2) : Int32).toNatClampNeg a2 = M2 at h ⊢
    refine jr_aload_n (pc := 29) dX1_addStatue_29 rfl 0 rfl ?_
    refine jr_get (pc := 30) (v := vr 16 n) fg_X1_18 (by show n < 2; omega) rfl dX1_addStatue_30 ?_
    refine jr_aload_n (pc := 33) dX1_addStatue_33 rfl 0 rfl ?_
    refine jr_get (pc := 34) (v := vi (M2 1 n 2)) fg_X1_40 (by show n < 2; omega) rfl dX1_addStatue_34 ?_
    refine jr_iload_n (pc := 37) dX1_addStatue_37 rfl 3 rfl ?_
    refine jr_iast (pc := 38) ⟨rfl, (by show n < 2; omega)⟩ h.1 dX1_addStatue_38 ?_
    replace h := h.2
    replace h := h _ rfl
    generalize jw_up M2 16 n ((M2 1 n 2) : Int32).toNatClampNeg a3 = M3 at h ⊢
    refine jr_aload_n (pc := 39) dX1_addStatue_39 rfl 0 rfl ?_
    refine jr_dup_r (pc := 40) dX1_addStatue_40 ?_
    refine jr_get (pc := 41) (v := vi (M3 1 n 2)) fg_X1_40 (by show n < 2; omega) rfl dX1_addStatue_41 ?_
    refine jr_iconst (pc := 44) (v := 1) dX1_addStatue_44 (by decide) ?_
    refine jr_iadd (pc := 45) dX1_addStatue_45 ?_
    refine jr_put (pc := 46) fp_X1_40 (by show n < 2; omega) (Or.inl ⟨_, _, _, rfl, by decide +kernel⟩) dX1_addStatue_46 ?_
    replace h := h _ rfl
    generalize jw_up M3 1 n 2 ((M3 1 n 2) + 1) = M4 at h ⊢
    exact jr_vret (pc := 49) rfl dX1_addStatue_49 h
theorem dX1_addWalker_0 : decode cX1_addWalker 0 = .ok (.aload_n 0, 1) := by decide +kernel
theorem dX1_addWalker_1 : decode cX1_addWalker 1 = .ok (.getfield 43, 3) := by decide +kernel
theorem dX1_addWalker_4 : decode cX1_addWalker 4 = .ok (.bipush 7, 2) := by decide +kernel
theorem dX1_addWalker_6 : decode cX1_addWalker 6 = .ok (.if_icmp .ge 43, 3) := by decide +kernel
theorem dX1_addWalker_9 : decode cX1_addWalker 9 = .ok (.aload_n 0, 1) := by decide +kernel
theorem dX1_addWalker_10 : decode cX1_addWalker 10 = .ok (.getfield 27, 3) := by decide +kernel
theorem dX1_addWalker_13 : decode cX1_addWalker 13 = .ok (.aload_n 0, 1) := by decide +kernel
theorem dX1_addWalker_14 : decode cX1_addWalker 14 = .ok (.getfield 43, 3) := by decide +kernel
theorem dX1_addWalker_17 : decode cX1_addWalker 17 = .ok (.iload_n 1, 1) := by decide +kernel
theorem dX1_addWalker_18 : decode cX1_addWalker 18 = .ok (.iastore, 1) := by decide +kernel
theorem dX1_addWalker_19 : decode cX1_addWalker 19 = .ok (.aload_n 0, 1) := by decide +kernel
theorem dX1_addWalker_20 : decode cX1_addWalker 20 = .ok (.getfield 24, 3) := by decide +kernel
theorem dX1_addWalker_23 : decode cX1_addWalker 23 = .ok (.aload_n 0, 1) := by decide +kernel
theorem dX1_addWalker_24 : decode cX1_addWalker 24 = .ok (.getfield 43, 3) := by decide +kernel
theorem dX1_addWalker_27 : decode cX1_addWalker 27 = .ok (.iload_n 2, 1) := by decide +kernel
theorem dX1_addWalker_28 : decode cX1_addWalker 28 = .ok (.iastore, 1) := by decide +kernel
theorem dX1_addWalker_29 : decode cX1_addWalker 29 = .ok (.aload_n 0, 1) := by decide +kernel
theorem dX1_addWalker_30 : decode cX1_addWalker 30 = .ok (.getfield 30, 3) := by decide +kernel
theorem dX1_addWalker_33 : decode cX1_addWalker 33 = .ok (.aload_n 0, 1) := by decide +kernel
theorem dX1_addWalker_34 : decode cX1_addWalker 34 = .ok (.getfield 43, 3) := by decide +kernel
theorem dX1_addWalker_37 : decode cX1_addWalker 37 = .ok (.iload_n 3, 1) := by decide +kernel
theorem dX1_addWalker_38 : decode cX1_addWalker 38 = .ok (.iastore, 1) := by decide +kernel
theorem dX1_addWalker_39 : decode cX1_addWalker 39 = .ok (.aload_n 0, 1) := by decide +kernel
theorem dX1_addWalker_40 : decode cX1_addWalker 40 = .ok (.dup, 1) := by decide +kernel
theorem dX1_addWalker_41 : decode cX1_addWalker 41 = .ok (.getfield 43, 3) := by decide +kernel
theorem dX1_addWalker_44 : decode cX1_addWalker 44 = .ok (.iconst 1, 1) := by decide +kernel
theorem dX1_addWalker_45 : decode cX1_addWalker 45 = .ok (.iadd, 1) := by decide +kernel
theorem dX1_addWalker_46 : decode cX1_addWalker 46 = .ok (.putfield 43, 3) := by decide +kernel
theorem dX1_addWalker_49 : decode cX1_addWalker 49 = .ok (.return_, 1) := by decide +kernel
set_option maxHeartbeats 4000000 in
set_option maxRecDepth 20000 in
theorem en_X1_addWalker {n : Nat} {a1 : Int32} {a2 : Int32} {a3 : Int32} {M : jw_Mem} {Q : Int32 → jw_Mem → Prop} (hn_n : n < 2) (h : ((7 ≤ (M 1 n 3) → Q 0 M) ∧ (¬ 7 ≤ (M 1 n 3) → (vp_in (M 1 n 3) 7 ∧ (∀ M1 : jw_Mem, M1 = jw_up M 19 n ((M 1 n 3) : Int32).toNatClampNeg a1 → (vp_in (M1 1 n 3) 7 ∧ (∀ M2 : jw_Mem, M2 = jw_up M1 18 n ((M1 1 n 3) : Int32).toNatClampNeg a2 → (vp_in (M2 1 n 3) 7 ∧ (∀ M3 : jw_Mem, M3 = jw_up M2 20 n ((M2 1 n 3) : Int32).toNatClampNeg a3 → (∀ M4 : jw_Mem, M4 = jw_up M3 1 n 3 ((M3 1 n 3) + 1) → Q 0 M4)))))))))) : jw_M 0 mX1_addWalker [vr 1 n, vi a1, vi a2, vi a3] M Q := by
  refine jw_M.of (by decide) (Nat.le_of_ble_eq_true rfl) ?_
  show jw_J 0 mX1_addWalker 0 [(0, vr 1 n), (1, vi a1), (2, vi a2), (3, vi a3)] [] M Q
  refine jr_aload_n (pc := 0) dX1_addWalker_0 rfl 0 rfl ?_
  refine jr_get (pc := 1) (v := vi (M 1 n 3)) fg_X1_43 (by show n < 2; omega) rfl dX1_addWalker_1 ?_
  refine jr_bipush (pc := 4) (v := 7) dX1_addWalker_4 (by decide) ?_
  refine jr_icmp_ge (pc := 6) (tgt := 49) dX1_addWalker_6 (by decide) (fun c => ?_) (fun c => ?_)
  · replace h := h.1 c
    exact jr_vret (pc := 49) rfl dX1_addWalker_49 h
  · replace h := h.2 c
    refine jr_aload_n (pc := 9) dX1_addWalker_9 rfl 0 rfl ?_
    refine jr_get (pc := 10) (v := vr 19 n) fg_X1_27 (by show n < 2; omega) rfl dX1_addWalker_10 ?_
    refine jr_aload_n (pc := 13) dX1_addWalker_13 rfl 0 rfl ?_
    refine jr_get (pc := 14) (v := vi (M 1 n 3)) fg_X1_43 (by show n < 2; omega) rfl dX1_addWalker_14 ?_
    refine jr_iload_n (pc := 17) dX1_addWalker_17 rfl 1 rfl ?_
    refine jr_iast (pc := 18) ⟨rfl, (by show n < 2; omega)⟩ h.1 dX1_addWalker_18 ?_
    replace h := h.2
    replace h := h _ rfl
    generalize jw_up M 19 n ((M 1 n 3) : Int32).toNatClampNeg a1 = M1 at h ⊢
    refine jr_aload_n (pc := 19) dX1_addWalker_19 rfl 0 rfl ?_
    refine jr_get (pc := 20) (v := vr 18 n) fg_X1_24 (by show n < 2; omega) rfl dX1_addWalker_20 ?_
    refine jr_aload_n (pc := 23) dX1_addWalker_23 rfl 0 rfl ?_
    refine jr_get (pc := 24) (v := vi (M1 1 n 3)) fg_X1_43 (by show n < 2; omega) rfl dX1_addWalker_24 ?_
    refine jr_iload_n (pc := 27) dX1_addWalker_27 rfl 2 rfl ?_
    refine jr_iast (pc := 28) ⟨rfl, (by show n < 2; omega)⟩ h.1 dX1_addWalker_28 ?_
    replace h := h.2
    replace h := h _ rfl
    generalize jw_up M1 18 n ((M1 1 n 3) : Int32).toNatClampNeg a2 = M2 at h ⊢
    refine jr_aload_n (pc := 29) dX1_addWalker_29 rfl 0 rfl ?_
    refine jr_get (pc := 30) (v := vr 20 n) fg_X1_30 (by show n < 2; omega) rfl dX1_addWalker_30 ?_
    refine jr_aload_n (pc := 33) dX1_addWalker_33 rfl 0 rfl ?_
    refine jr_get (pc := 34) (v := vi (M2 1 n 3)) fg_X1_43 (by show n < 2; omega) rfl dX1_addWalker_34 ?_
    refine jr_iload_n (pc := 37) dX1_addWalker_37 rfl 3 rfl ?_
    refine jr_iast (pc := 38) ⟨rfl, (by show n < 2; omega)⟩ h.1 dX1_addWalker_38 ?_
    replace h := h.2
    replace h := h _ rfl
    generalize jw_up M2 20 n ((M2 1 n 3) : Int32).toNatClampNeg a3 = M3 at h ⊢
    refine jr_aload_n (pc := 39) dX1_addWalker_39 rfl 0 rfl ?_
    refine jr_dup_r (pc := 40) dX1_addWalker_40 ?_
    refine jr_get (pc := 41) (v := vi (M3 1 n 3)) fg_X1_43 (by show n < 2; omega) rfl dX1_addWalker_41 ?_
    refine jr_iconst (pc := 44) (v := 1) dX1_addWalker_44 (by decide) ?_
    refine jr_iadd (pc := 45) dX1_addWalker_45 ?_
    refine jr_put (pc := 46) fp_X1_43 (by show n < 2; omega) (Or.inl ⟨_, _, _, rfl, by decide +kernel⟩) dX1_addWalker_46 ?_
    replace h := h _ rfl
    generalize jw_up M3 1 n 3 ((M3 1 n 3) + 1) = M4 at h ⊢
    exact jr_vret (pc := 49) rfl dX1_addWalker_49 h
theorem dX1_isTakenAtFirst_0 : decode cX1_isTakenAtFirst 0 = .ok (.iconst 0, 1) := by decide +kernel
theorem dX1_isTakenAtFirst_1 : decode cX1_isTakenAtFirst 1 = .ok (.istore_n 2, 1) := by decide +kernel
theorem dX1_isTakenAtFirst_2 : decode cX1_isTakenAtFirst 2 = .ok (.iload_n 2, 1) := by decide +kernel
theorem dX1_isTakenAtFirst_3 : decode cX1_isTakenAtFirst 3 = .ok (.aload_n 0, 1) := by decide +kernel
theorem dX1_isTakenAtFirst_4 : decode cX1_isTakenAtFirst 4 = .ok (.getfield 40, 3) := by decide +kernel
theorem dX1_isTakenAtFirst_7 : decode cX1_isTakenAtFirst 7 = .ok (.if_icmp .ge 21, 3) := by decide +kernel
theorem dX1_isTakenAtFirst_10 : decode cX1_isTakenAtFirst 10 = .ok (.aload_n 0, 1) := by decide +kernel
theorem dX1_isTakenAtFirst_11 : decode cX1_isTakenAtFirst 11 = .ok (.getfield 21, 3) := by decide +kernel
theorem dX1_isTakenAtFirst_14 : decode cX1_isTakenAtFirst 14 = .ok (.iload_n 2, 1) := by decide +kernel
theorem dX1_isTakenAtFirst_15 : decode cX1_isTakenAtFirst 15 = .ok (.iaload, 1) := by decide +kernel
theorem dX1_isTakenAtFirst_16 : decode cX1_isTakenAtFirst 16 = .ok (.iload_n 1, 1) := by decide +kernel
theorem dX1_isTakenAtFirst_17 : decode cX1_isTakenAtFirst 17 = .ok (.if_icmp .ne 5, 3) := by decide +kernel
theorem dX1_isTakenAtFirst_20 : decode cX1_isTakenAtFirst 20 = .ok (.iconst 1, 1) := by decide +kernel
theorem dX1_isTakenAtFirst_21 : decode cX1_isTakenAtFirst 21 = .ok (.ireturn, 1) := by decide +kernel
theorem dX1_isTakenAtFirst_22 : decode cX1_isTakenAtFirst 22 = .ok (.iinc 2 1, 3) := by decide +kernel
theorem dX1_isTakenAtFirst_25 : decode cX1_isTakenAtFirst 25 = .ok (.goto (-23), 3) := by decide +kernel
theorem dX1_isTakenAtFirst_28 : decode cX1_isTakenAtFirst 28 = .ok (.iconst 0, 1) := by decide +kernel
theorem dX1_isTakenAtFirst_29 : decode cX1_isTakenAtFirst 29 = .ok (.ireturn, 1) := by decide +kernel
set_option maxHeartbeats 4000000 in
set_option maxRecDepth 20000 in
theorem en_X1_isTakenAtFirst {n : Nat} {a1 : Int32} {M : jw_Mem} {Q : Int32 → jw_Mem → Prop} (hn_n : n < 2) (h : jw_J 0 mX1_isTakenAtFirst 2 [(0, vr 1 n), (1, vi a1), (2, vi 0)] [] M Q) : jw_M 0 mX1_isTakenAtFirst [vr 1 n, vi a1] M Q := by
  refine jw_M.of (by decide) (Nat.le_of_ble_eq_true rfl) ?_
  show jw_J 0 mX1_isTakenAtFirst 0 [(0, vr 1 n), (1, vi a1)] [] M Q
  refine jr_iconst (pc := 0) (v := 0) dX1_isTakenAtFirst_0 (by decide) ?_
  refine jr_istore_n (pc := 1) (lv' := [(2, vi 0), (0, vr 1 n), (1, vi a1)]) dX1_isTakenAtFirst_1 rfl (by decide) rfl ?_
  exact jr_sub [1, 2, 0] rfl h
set_option maxHeartbeats 4000000 in
set_option maxRecDepth 20000 in
theorem bk_X1_isTakenAtFirst_2 {n : Nat} {v1 : Int32} {v2 : Int32} {M : jw_Mem} {Q : Int32 → jw_Mem → Prop} (hn_n : n < 2) (h : (((M 1 n 2) ≤ v2 → Q 0 M) ∧ (¬ (M 1 n 2) ≤ v2 → (vp_in v2 6 ∧ ((¬ (M 17 n v2.toNatClampNeg) = v1 → jw_J 0 mX1_isTakenAtFirst 2 [(0, vr 1 n), (1, vi v1), (2, vi (v2 + 1))] [] M Q) ∧ ((M 17 n v2.toNatClampNeg) = v1 → Q 1 M)))))) : jw_J 0 mX1_isTakenAtFirst 2 [(0, vr 1 n), (1, vi v1), (2, vi v2)] [] M Q := by
  refine jr_iload_n (pc := 2) dX1_isTakenAtFirst_2 rfl 2 rfl ?_
  refine jr_aload_n (pc := 3) dX1_isTakenAtFirst_3 rfl 0 rfl ?_
  refine jr_get (pc := 4) (v := vi (M 1 n 2)) fg_X1_40 (by show n < 2; omega) rfl dX1_isTakenAtFirst_4 ?_
  refine jr_icmp_ge (pc := 7) (tgt := 28) dX1_isTakenAtFirst_7 (by decide) (fun c => ?_) (fun c => ?_)
  · replace h := h.1 c
    refine jr_iconst (pc := 28) (v := 0) dX1_isTakenAtFirst_28 (by decide) ?_
    exact jr_zret (pc := 29) rfl dX1_isTakenAtFirst_29 (Or.inl rfl) h
  · replace h := h.2 c
    refine jr_aload_n (pc := 10) dX1_isTakenAtFirst_10 rfl 0 rfl ?_
    refine jr_get (pc := 11) (v := vr 17 n) fg_X1_21 (by show n < 2; omega) rfl dX1_isTakenAtFirst_11 ?_
    refine jr_iload_n (pc := 14) dX1_isTakenAtFirst_14 rfl 2 rfl ?_
    refine jr_iald (pc := 15) ⟨rfl, (by show n < 2; omega)⟩ h.1 dX1_isTakenAtFirst_15 ?_
    replace h := h.2
    refine jr_iload_n (pc := 16) dX1_isTakenAtFirst_16 rfl 1 rfl ?_
    refine jr_icmp_ne (pc := 17) (tgt := 22) dX1_isTakenAtFirst_17 (by decide) (fun c => ?_) (fun c => ?_)
    · replace h := h.1 c
      refine jr_iinc (pc := 22) (lv' := [(2, vi (v2 + 1)), (0, vr 1 n), (1, vi v1)]) (q := 2) dX1_isTakenAtFirst_22 rfl (by rfl) (by decide) rfl ?_
      refine jr_goto (pc := 25) (tgt := 2) dX1_isTakenAtFirst_25 (by decide) ?_
      exact jr_sub [1, 2, 0] rfl h
    · replace h := h.2 c
      refine jr_iconst (pc := 20) (v := 1) dX1_isTakenAtFirst_20 (by decide) ?_
      exact jr_zret (pc := 21) rfl dX1_isTakenAtFirst_21 (Or.inr rfl) h
theorem dX1_hasPlinth_0 : decode cX1_hasPlinth 0 = .ok (.iload_n 1, 1) := by decide +kernel
theorem dX1_hasPlinth_1 : decode cX1_hasPlinth 1 = .ok (.ifCond .lt 15, 3) := by decide +kernel
theorem dX1_hasPlinth_4 : decode cX1_hasPlinth 4 = .ok (.iload_n 1, 1) := by decide +kernel
theorem dX1_hasPlinth_5 : decode cX1_hasPlinth 5 = .ok (.aload_n 0, 1) := by decide +kernel
theorem dX1_hasPlinth_6 : decode cX1_hasPlinth 6 = .ok (.getfield 37, 3) := by decide +kernel
theorem dX1_hasPlinth_9 : decode cX1_hasPlinth 9 = .ok (.if_icmp .ge 7, 3) := by decide +kernel
theorem dX1_hasPlinth_12 : decode cX1_hasPlinth 12 = .ok (.iconst 1, 1) := by decide +kernel
theorem dX1_hasPlinth_13 : decode cX1_hasPlinth 13 = .ok (.goto 4, 3) := by decide +kernel
theorem dX1_hasPlinth_16 : decode cX1_hasPlinth 16 = .ok (.iconst 0, 1) := by decide +kernel
theorem dX1_hasPlinth_17 : decode cX1_hasPlinth 17 = .ok (.ireturn, 1) := by decide +kernel
set_option maxHeartbeats 4000000 in
set_option maxRecDepth 20000 in
theorem en_X1_hasPlinth {n : Nat} {a1 : Int32} {M : jw_Mem} {Q : Int32 → jw_Mem → Prop} (hn_n : n < 2) (h : ((a1 < 0 → Q 0 M) ∧ (¬ a1 < 0 → (((M 1 n 1) ≤ a1 → Q 0 M) ∧ (¬ (M 1 n 1) ≤ a1 → Q 1 M))))) : jw_M 0 mX1_hasPlinth [vr 1 n, vi a1] M Q := by
  refine jw_M.of (by decide) (Nat.le_of_ble_eq_true rfl) ?_
  show jw_J 0 mX1_hasPlinth 0 [(0, vr 1 n), (1, vi a1)] [] M Q
  refine jr_iload_n (pc := 0) dX1_hasPlinth_0 rfl 1 rfl ?_
  refine jr_if_lt (pc := 1) (tgt := 16) dX1_hasPlinth_1 (by decide) (fun c => ?_) (fun c => ?_)
  · replace h := h.1 c
    refine jr_iconst (pc := 16) (v := 0) dX1_hasPlinth_16 (by decide) ?_
    exact jr_zret (pc := 17) rfl dX1_hasPlinth_17 (Or.inl rfl) h
  · replace h := h.2 c
    refine jr_iload_n (pc := 4) dX1_hasPlinth_4 rfl 1 rfl ?_
    refine jr_aload_n (pc := 5) dX1_hasPlinth_5 rfl 0 rfl ?_
    refine jr_get (pc := 6) (v := vi (M 1 n 1)) fg_X1_37 (by show n < 2; omega) rfl dX1_hasPlinth_6 ?_
    refine jr_icmp_ge (pc := 9) (tgt := 16) dX1_hasPlinth_9 (by decide) (fun c => ?_) (fun c => ?_)
    · replace h := h.1 c
      refine jr_iconst (pc := 16) (v := 0) dX1_hasPlinth_16 (by decide) ?_
      exact jr_zret (pc := 17) rfl dX1_hasPlinth_17 (Or.inl rfl) h
    · replace h := h.2 c
      refine jr_iconst (pc := 12) (v := 1) dX1_hasPlinth_12 (by decide) ?_
      refine jr_goto (pc := 13) (tgt := 17) dX1_hasPlinth_13 (by decide) ?_
      exact jr_zret (pc := 17) rfl dX1_hasPlinth_17 (Or.inr rfl) h
theorem dX1_hasStatue_0 : decode cX1_hasStatue 0 = .ok (.iload_n 1, 1) := by decide +kernel
theorem dX1_hasStatue_1 : decode cX1_hasStatue 1 = .ok (.ifCond .lt 15, 3) := by decide +kernel
theorem dX1_hasStatue_4 : decode cX1_hasStatue 4 = .ok (.iload_n 1, 1) := by decide +kernel
theorem dX1_hasStatue_5 : decode cX1_hasStatue 5 = .ok (.aload_n 0, 1) := by decide +kernel
theorem dX1_hasStatue_6 : decode cX1_hasStatue 6 = .ok (.getfield 40, 3) := by decide +kernel
theorem dX1_hasStatue_9 : decode cX1_hasStatue 9 = .ok (.if_icmp .ge 7, 3) := by decide +kernel
theorem dX1_hasStatue_12 : decode cX1_hasStatue 12 = .ok (.iconst 1, 1) := by decide +kernel
theorem dX1_hasStatue_13 : decode cX1_hasStatue 13 = .ok (.goto 4, 3) := by decide +kernel
theorem dX1_hasStatue_16 : decode cX1_hasStatue 16 = .ok (.iconst 0, 1) := by decide +kernel
theorem dX1_hasStatue_17 : decode cX1_hasStatue 17 = .ok (.ireturn, 1) := by decide +kernel
set_option maxHeartbeats 4000000 in
set_option maxRecDepth 20000 in
theorem en_X1_hasStatue {n : Nat} {a1 : Int32} {M : jw_Mem} {Q : Int32 → jw_Mem → Prop} (hn_n : n < 2) (h : ((a1 < 0 → Q 0 M) ∧ (¬ a1 < 0 → (((M 1 n 2) ≤ a1 → Q 0 M) ∧ (¬ (M 1 n 2) ≤ a1 → Q 1 M))))) : jw_M 0 mX1_hasStatue [vr 1 n, vi a1] M Q := by
  refine jw_M.of (by decide) (Nat.le_of_ble_eq_true rfl) ?_
  show jw_J 0 mX1_hasStatue 0 [(0, vr 1 n), (1, vi a1)] [] M Q
  refine jr_iload_n (pc := 0) dX1_hasStatue_0 rfl 1 rfl ?_
  refine jr_if_lt (pc := 1) (tgt := 16) dX1_hasStatue_1 (by decide) (fun c => ?_) (fun c => ?_)
  · replace h := h.1 c
    refine jr_iconst (pc := 16) (v := 0) dX1_hasStatue_16 (by decide) ?_
    exact jr_zret (pc := 17) rfl dX1_hasStatue_17 (Or.inl rfl) h
  · replace h := h.2 c
    refine jr_iload_n (pc := 4) dX1_hasStatue_4 rfl 1 rfl ?_
    refine jr_aload_n (pc := 5) dX1_hasStatue_5 rfl 0 rfl ?_
    refine jr_get (pc := 6) (v := vi (M 1 n 2)) fg_X1_40 (by show n < 2; omega) rfl dX1_hasStatue_6 ?_
    refine jr_icmp_ge (pc := 9) (tgt := 16) dX1_hasStatue_9 (by decide) (fun c => ?_) (fun c => ?_)
    · replace h := h.1 c
      refine jr_iconst (pc := 16) (v := 0) dX1_hasStatue_16 (by decide) ?_
      exact jr_zret (pc := 17) rfl dX1_hasStatue_17 (Or.inl rfl) h
    · replace h := h.2 c
      refine jr_iconst (pc := 12) (v := 1) dX1_hasStatue_12 (by decide) ?_
      refine jr_goto (pc := 13) (tgt := 17) dX1_hasStatue_13 (by decide) ?_
      exact jr_zret (pc := 17) rfl dX1_hasStatue_17 (Or.inr rfl) h
theorem dX1_hasWalker_0 : decode cX1_hasWalker 0 = .ok (.iload_n 1, 1) := by decide +kernel
theorem dX1_hasWalker_1 : decode cX1_hasWalker 1 = .ok (.ifCond .lt 15, 3) := by decide +kernel
theorem dX1_hasWalker_4 : decode cX1_hasWalker 4 = .ok (.iload_n 1, 1) := by decide +kernel
theorem dX1_hasWalker_5 : decode cX1_hasWalker 5 = .ok (.aload_n 0, 1) := by decide +kernel
theorem dX1_hasWalker_6 : decode cX1_hasWalker 6 = .ok (.getfield 43, 3) := by decide +kernel
theorem dX1_hasWalker_9 : decode cX1_hasWalker 9 = .ok (.if_icmp .ge 7, 3) := by decide +kernel
theorem dX1_hasWalker_12 : decode cX1_hasWalker 12 = .ok (.iconst 1, 1) := by decide +kernel
theorem dX1_hasWalker_13 : decode cX1_hasWalker 13 = .ok (.goto 4, 3) := by decide +kernel
theorem dX1_hasWalker_16 : decode cX1_hasWalker 16 = .ok (.iconst 0, 1) := by decide +kernel
theorem dX1_hasWalker_17 : decode cX1_hasWalker 17 = .ok (.ireturn, 1) := by decide +kernel
set_option maxHeartbeats 4000000 in
set_option maxRecDepth 20000 in
theorem en_X1_hasWalker {n : Nat} {a1 : Int32} {M : jw_Mem} {Q : Int32 → jw_Mem → Prop} (hn_n : n < 2) (h : ((a1 < 0 → Q 0 M) ∧ (¬ a1 < 0 → (((M 1 n 3) ≤ a1 → Q 0 M) ∧ (¬ (M 1 n 3) ≤ a1 → Q 1 M))))) : jw_M 0 mX1_hasWalker [vr 1 n, vi a1] M Q := by
  refine jw_M.of (by decide) (Nat.le_of_ble_eq_true rfl) ?_
  show jw_J 0 mX1_hasWalker 0 [(0, vr 1 n), (1, vi a1)] [] M Q
  refine jr_iload_n (pc := 0) dX1_hasWalker_0 rfl 1 rfl ?_
  refine jr_if_lt (pc := 1) (tgt := 16) dX1_hasWalker_1 (by decide) (fun c => ?_) (fun c => ?_)
  · replace h := h.1 c
    refine jr_iconst (pc := 16) (v := 0) dX1_hasWalker_16 (by decide) ?_
    exact jr_zret (pc := 17) rfl dX1_hasWalker_17 (Or.inl rfl) h
  · replace h := h.2 c
    refine jr_iload_n (pc := 4) dX1_hasWalker_4 rfl 1 rfl ?_
    refine jr_aload_n (pc := 5) dX1_hasWalker_5 rfl 0 rfl ?_
    refine jr_get (pc := 6) (v := vi (M 1 n 3)) fg_X1_43 (by show n < 2; omega) rfl dX1_hasWalker_6 ?_
    refine jr_icmp_ge (pc := 9) (tgt := 16) dX1_hasWalker_9 (by decide) (fun c => ?_) (fun c => ?_)
    · replace h := h.1 c
      refine jr_iconst (pc := 16) (v := 0) dX1_hasWalker_16 (by decide) ?_
      exact jr_zret (pc := 17) rfl dX1_hasWalker_17 (Or.inl rfl) h
    · replace h := h.2 c
      refine jr_iconst (pc := 12) (v := 1) dX1_hasWalker_12 (by decide) ?_
      refine jr_goto (pc := 13) (tgt := 17) dX1_hasWalker_13 (by decide) ?_
      exact jr_zret (pc := 17) rfl dX1_hasWalker_17 (Or.inr rfl) h
theorem dX1_isSetOfPlinths_0 : decode cX1_isSetOfPlinths 0 = .ok (.iload_n 1, 1) := by decide +kernel
theorem dX1_isSetOfPlinths_1 : decode cX1_isSetOfPlinths 1 = .ok (.ifCond .lt 17, 3) := by decide +kernel
theorem dX1_isSetOfPlinths_4 : decode cX1_isSetOfPlinths 4 = .ok (.iload_n 1, 1) := by decide +kernel
theorem dX1_isSetOfPlinths_5 : decode cX1_isSetOfPlinths 5 = .ok (.iconst 1, 1) := by decide +kernel
theorem dX1_isSetOfPlinths_6 : decode cX1_isSetOfPlinths 6 = .ok (.aload_n 0, 1) := by decide +kernel
theorem dX1_isSetOfPlinths_7 : decode cX1_isSetOfPlinths 7 = .ok (.getfield 37, 3) := by decide +kernel
theorem dX1_isSetOfPlinths_10 : decode cX1_isSetOfPlinths 10 = .ok (.ishl, 1) := by decide +kernel
theorem dX1_isSetOfPlinths_11 : decode cX1_isSetOfPlinths 11 = .ok (.if_icmp .ge 7, 3) := by decide +kernel
theorem dX1_isSetOfPlinths_14 : decode cX1_isSetOfPlinths 14 = .ok (.iconst 1, 1) := by decide +kernel
theorem dX1_isSetOfPlinths_15 : decode cX1_isSetOfPlinths 15 = .ok (.goto 4, 3) := by decide +kernel
theorem dX1_isSetOfPlinths_18 : decode cX1_isSetOfPlinths 18 = .ok (.iconst 0, 1) := by decide +kernel
theorem dX1_isSetOfPlinths_19 : decode cX1_isSetOfPlinths 19 = .ok (.ireturn, 1) := by decide +kernel
set_option maxHeartbeats 4000000 in
set_option maxRecDepth 20000 in
theorem en_X1_isSetOfPlinths {n : Nat} {a1 : Int32} {M : jw_Mem} {Q : Int32 → jw_Mem → Prop} (hn_n : n < 2) (h : ((a1 < 0 → Q 0 M) ∧ (¬ a1 < 0 → ((((1 : Int32) <<< ((M 1 n 1) &&& 31)) ≤ a1 → Q 0 M) ∧ (¬ ((1 : Int32) <<< ((M 1 n 1) &&& 31)) ≤ a1 → Q 1 M))))) : jw_M 0 mX1_isSetOfPlinths [vr 1 n, vi a1] M Q := by
  refine jw_M.of (by decide) (Nat.le_of_ble_eq_true rfl) ?_
  show jw_J 0 mX1_isSetOfPlinths 0 [(0, vr 1 n), (1, vi a1)] [] M Q
  refine jr_iload_n (pc := 0) dX1_isSetOfPlinths_0 rfl 1 rfl ?_
  refine jr_if_lt (pc := 1) (tgt := 18) dX1_isSetOfPlinths_1 (by decide) (fun c => ?_) (fun c => ?_)
  · replace h := h.1 c
    refine jr_iconst (pc := 18) (v := 0) dX1_isSetOfPlinths_18 (by decide) ?_
    exact jr_zret (pc := 19) rfl dX1_isSetOfPlinths_19 (Or.inl rfl) h
  · replace h := h.2 c
    refine jr_iload_n (pc := 4) dX1_isSetOfPlinths_4 rfl 1 rfl ?_
    refine jr_iconst (pc := 5) (v := 1) dX1_isSetOfPlinths_5 (by decide) ?_
    refine jr_aload_n (pc := 6) dX1_isSetOfPlinths_6 rfl 0 rfl ?_
    refine jr_get (pc := 7) (v := vi (M 1 n 1)) fg_X1_37 (by show n < 2; omega) rfl dX1_isSetOfPlinths_7 ?_
    refine jr_ishl (pc := 10) dX1_isSetOfPlinths_10 ?_
    refine jr_icmp_ge (pc := 11) (tgt := 18) dX1_isSetOfPlinths_11 (by decide) (fun c => ?_) (fun c => ?_)
    · replace h := h.1 c
      refine jr_iconst (pc := 18) (v := 0) dX1_isSetOfPlinths_18 (by decide) ?_
      exact jr_zret (pc := 19) rfl dX1_isSetOfPlinths_19 (Or.inl rfl) h
    · replace h := h.2 c
      refine jr_iconst (pc := 14) (v := 1) dX1_isSetOfPlinths_14 (by decide) ?_
      refine jr_goto (pc := 15) (tgt := 19) dX1_isSetOfPlinths_15 (by decide) ?_
      exact jr_zret (pc := 19) rfl dX1_isSetOfPlinths_19 (Or.inr rfl) h
theorem dX1_isSetOfStatues_0 : decode cX1_isSetOfStatues 0 = .ok (.iload_n 1, 1) := by decide +kernel
theorem dX1_isSetOfStatues_1 : decode cX1_isSetOfStatues 1 = .ok (.ifCond .lt 17, 3) := by decide +kernel
theorem dX1_isSetOfStatues_4 : decode cX1_isSetOfStatues 4 = .ok (.iload_n 1, 1) := by decide +kernel
theorem dX1_isSetOfStatues_5 : decode cX1_isSetOfStatues 5 = .ok (.iconst 1, 1) := by decide +kernel
theorem dX1_isSetOfStatues_6 : decode cX1_isSetOfStatues 6 = .ok (.aload_n 0, 1) := by decide +kernel
theorem dX1_isSetOfStatues_7 : decode cX1_isSetOfStatues 7 = .ok (.getfield 40, 3) := by decide +kernel
theorem dX1_isSetOfStatues_10 : decode cX1_isSetOfStatues 10 = .ok (.ishl, 1) := by decide +kernel
theorem dX1_isSetOfStatues_11 : decode cX1_isSetOfStatues 11 = .ok (.if_icmp .ge 7, 3) := by decide +kernel
theorem dX1_isSetOfStatues_14 : decode cX1_isSetOfStatues 14 = .ok (.iconst 1, 1) := by decide +kernel
theorem dX1_isSetOfStatues_15 : decode cX1_isSetOfStatues 15 = .ok (.goto 4, 3) := by decide +kernel
theorem dX1_isSetOfStatues_18 : decode cX1_isSetOfStatues 18 = .ok (.iconst 0, 1) := by decide +kernel
theorem dX1_isSetOfStatues_19 : decode cX1_isSetOfStatues 19 = .ok (.ireturn, 1) := by decide +kernel
set_option maxHeartbeats 4000000 in
set_option maxRecDepth 20000 in
theorem en_X1_isSetOfStatues {n : Nat} {a1 : Int32} {M : jw_Mem} {Q : Int32 → jw_Mem → Prop} (hn_n : n < 2) (h : ((a1 < 0 → Q 0 M) ∧ (¬ a1 < 0 → ((((1 : Int32) <<< ((M 1 n 2) &&& 31)) ≤ a1 → Q 0 M) ∧ (¬ ((1 : Int32) <<< ((M 1 n 2) &&& 31)) ≤ a1 → Q 1 M))))) : jw_M 0 mX1_isSetOfStatues [vr 1 n, vi a1] M Q := by
  refine jw_M.of (by decide) (Nat.le_of_ble_eq_true rfl) ?_
  show jw_J 0 mX1_isSetOfStatues 0 [(0, vr 1 n), (1, vi a1)] [] M Q
  refine jr_iload_n (pc := 0) dX1_isSetOfStatues_0 rfl 1 rfl ?_
  refine jr_if_lt (pc := 1) (tgt := 18) dX1_isSetOfStatues_1 (by decide) (fun c => ?_) (fun c => ?_)
  · replace h := h.1 c
    refine jr_iconst (pc := 18) (v := 0) dX1_isSetOfStatues_18 (by decide) ?_
    exact jr_zret (pc := 19) rfl dX1_isSetOfStatues_19 (Or.inl rfl) h
  · replace h := h.2 c
    refine jr_iload_n (pc := 4) dX1_isSetOfStatues_4 rfl 1 rfl ?_
    refine jr_iconst (pc := 5) (v := 1) dX1_isSetOfStatues_5 (by decide) ?_
    refine jr_aload_n (pc := 6) dX1_isSetOfStatues_6 rfl 0 rfl ?_
    refine jr_get (pc := 7) (v := vi (M 1 n 2)) fg_X1_40 (by show n < 2; omega) rfl dX1_isSetOfStatues_7 ?_
    refine jr_ishl (pc := 10) dX1_isSetOfStatues_10 ?_
    refine jr_icmp_ge (pc := 11) (tgt := 18) dX1_isSetOfStatues_11 (by decide) (fun c => ?_) (fun c => ?_)
    · replace h := h.1 c
      refine jr_iconst (pc := 18) (v := 0) dX1_isSetOfStatues_18 (by decide) ?_
      exact jr_zret (pc := 19) rfl dX1_isSetOfStatues_19 (Or.inl rfl) h
    · replace h := h.2 c
      refine jr_iconst (pc := 14) (v := 1) dX1_isSetOfStatues_14 (by decide) ?_
      refine jr_goto (pc := 15) (tgt := 19) dX1_isSetOfStatues_15 (by decide) ?_
      exact jr_zret (pc := 19) rfl dX1_isSetOfStatues_19 (Or.inr rfl) h
theorem dX1_setsOfWalkers_0 : decode cX1_setsOfWalkers 0 = .ok (.iconst 1, 1) := by decide +kernel
theorem dX1_setsOfWalkers_1 : decode cX1_setsOfWalkers 1 = .ok (.aload_n 0, 1) := by decide +kernel
theorem dX1_setsOfWalkers_2 : decode cX1_setsOfWalkers 2 = .ok (.getfield 43, 3) := by decide +kernel
theorem dX1_setsOfWalkers_5 : decode cX1_setsOfWalkers 5 = .ok (.ishl, 1) := by decide +kernel
theorem dX1_setsOfWalkers_6 : decode cX1_setsOfWalkers 6 = .ok (.ireturn, 1) := by decide +kernel
set_option maxHeartbeats 4000000 in
set_option maxRecDepth 20000 in
theorem en_X1_setsOfWalkers {n : Nat} {M : jw_Mem} {Q : Int32 → jw_Mem → Prop} (hn_n : n < 2) (h : Q ((1 : Int32) <<< ((M 1 n 3) &&& 31)) M) : jw_M 0 mX1_setsOfWalkers [vr 1 n] M Q := by
  refine jw_M.of (by decide) (Nat.le_of_ble_eq_true rfl) ?_
  show jw_J 0 mX1_setsOfWalkers 0 [(0, vr 1 n)] [] M Q
  refine jr_iconst (pc := 0) (v := 1) dX1_setsOfWalkers_0 (by decide) ?_
  refine jr_aload_n (pc := 1) dX1_setsOfWalkers_1 rfl 0 rfl ?_
  refine jr_get (pc := 2) (v := vi (M 1 n 3)) fg_X1_43 (by show n < 2; omega) rfl dX1_setsOfWalkers_2 ?_
  refine jr_ishl (pc := 5) dX1_setsOfWalkers_5 ?_
  exact jr_iret (pc := 6) rfl dX1_setsOfWalkers_6 h
theorem dX1_pleases_0 : decode cX1_pleases 0 = .ok (.aload_n 0, 1) := by decide +kernel
theorem dX1_pleases_1 : decode cX1_pleases 1 = .ok (.iload_n 1, 1) := by decide +kernel
theorem dX1_pleases_2 : decode cX1_pleases 2 = .ok (.invokevirtual 52, 3) := by decide +kernel
theorem dX1_pleases_5 : decode cX1_pleases 5 = .ok (.ifCond .eq 30, 3) := by decide +kernel
theorem dX1_pleases_8 : decode cX1_pleases 8 = .ok (.aload_n 0, 1) := by decide +kernel
theorem dX1_pleases_9 : decode cX1_pleases 9 = .ok (.iload_n 2, 1) := by decide +kernel
theorem dX1_pleases_10 : decode cX1_pleases 10 = .ok (.invokevirtual 56, 3) := by decide +kernel
theorem dX1_pleases_13 : decode cX1_pleases 13 = .ok (.ifCond .eq 22, 3) := by decide +kernel
theorem dX1_pleases_16 : decode cX1_pleases 16 = .ok (.aload_n 0, 1) := by decide +kernel
theorem dX1_pleases_17 : decode cX1_pleases 17 = .ok (.getfield 9, 3) := by decide +kernel
theorem dX1_pleases_20 : decode cX1_pleases 20 = .ok (.iload_n 1, 1) := by decide +kernel
theorem dX1_pleases_21 : decode cX1_pleases 21 = .ok (.iaload, 1) := by decide +kernel
theorem dX1_pleases_22 : decode cX1_pleases 22 = .ok (.aload_n 0, 1) := by decide +kernel
theorem dX1_pleases_23 : decode cX1_pleases 23 = .ok (.getfield 18, 3) := by decide +kernel
theorem dX1_pleases_26 : decode cX1_pleases 26 = .ok (.iload_n 2, 1) := by decide +kernel
theorem dX1_pleases_27 : decode cX1_pleases 27 = .ok (.iaload, 1) := by decide +kernel
theorem dX1_pleases_28 : decode cX1_pleases 28 = .ok (.if_icmp .lt 7, 3) := by decide +kernel
theorem dX1_pleases_31 : decode cX1_pleases 31 = .ok (.iconst 1, 1) := by decide +kernel
theorem dX1_pleases_32 : decode cX1_pleases 32 = .ok (.goto 4, 3) := by decide +kernel
theorem dX1_pleases_35 : decode cX1_pleases 35 = .ok (.iconst 0, 1) := by decide +kernel
theorem dX1_pleases_36 : decode cX1_pleases 36 = .ok (.ireturn, 1) := by decide +kernel
set_option maxHeartbeats 4000000 in
set_option maxRecDepth 20000 in
theorem en_X1_pleases {n : Nat} {a1 : Int32} {a2 : Int32} {M : jw_Mem} {Q : Int32 → jw_Mem → Prop} (hn_n : n < 2) (h : (jw_M 0 mX1_hasPlinth [vr 1 n, vi a1] M (fun x1 M2 => ((x1 = 0 → Q 0 M2) ∧ (¬ x1 = 0 → (jw_M 0 mX1_hasStatue [vr 1 n, vi a2] M2 (fun x3 M4 => ((x3 = 0 → Q 0 M4) ∧ (¬ x3 = 0 → (vp_in a1 5 ∧ (vp_in a2 6 ∧ (((M4 14 n a1.toNatClampNeg) < (M4 16 n a2.toNatClampNeg) → Q 0 M4) ∧ (¬ (M4 14 n a1.toNatClampNeg) < (M4 16 n a2.toNatClampNeg) → Q 1 M4))))))))))))) : jw_M 1 mX1_pleases [vr 1 n, vi a1, vi a2] M Q := by
  refine jw_M.of (by decide) (Nat.le_of_ble_eq_true rfl) ?_
  show jw_J 1 mX1_pleases 0 [(0, vr 1 n), (1, vi a1), (2, vi a2)] [] M Q
  refine jr_aload_n (pc := 0) dX1_pleases_0 rfl 0 rfl ?_
  refine jr_iload_n (pc := 1) dX1_pleases_1 rfl 1 rfl ?_
  refine jr_callV (pc := 2) (d' := 0) (mt' := mX1_hasPlinth) (k := 1) (n := n) (As := [vi a1]) (st := []) fc_X1_52 (by decide) (by show n < 2; omega) (Nat.le_of_ble_eq_true rfl) rfl dX1_pleases_2 (jw_M.mono h (fun x1 M2 h => ?_))
  show jw_J 1 mX1_pleases 5 [(0, vr 1 n), (1, vi a1), (2, vi a2)] [vi x1] M2 Q
  refine jr_if_eq (pc := 5) (tgt := 35) dX1_pleases_5 (by decide) (fun c => ?_) (fun c => ?_)
  · replace h := h.1 c
    refine jr_iconst (pc := 35) (v := 0) dX1_pleases_35 (by decide) ?_
    exact jr_zret (pc := 36) rfl dX1_pleases_36 (Or.inl rfl) h
  · replace h := h.2 c
    refine jr_aload_n (pc := 8) dX1_pleases_8 rfl 0 rfl ?_
    refine jr_iload_n (pc := 9) dX1_pleases_9 rfl 2 rfl ?_
    refine jr_callV (pc := 10) (d' := 0) (mt' := mX1_hasStatue) (k := 1) (n := n) (As := [vi a2]) (st := []) fc_X1_56 (by decide) (by show n < 2; omega) (Nat.le_of_ble_eq_true rfl) rfl dX1_pleases_10 (jw_M.mono h (fun x3 M4 h => ?_))
    show jw_J 1 mX1_pleases 13 [(0, vr 1 n), (1, vi a1), (2, vi a2)] [vi x3] M4 Q
    refine jr_if_eq (pc := 13) (tgt := 35) dX1_pleases_13 (by decide) (fun c => ?_) (fun c => ?_)
    · replace h := h.1 c
      refine jr_iconst (pc := 35) (v := 0) dX1_pleases_35 (by decide) ?_
      exact jr_zret (pc := 36) rfl dX1_pleases_36 (Or.inl rfl) h
    · replace h := h.2 c
      refine jr_aload_n (pc := 16) dX1_pleases_16 rfl 0 rfl ?_
      refine jr_get (pc := 17) (v := vr 14 n) fg_X1_9 (by show n < 2; omega) rfl dX1_pleases_17 ?_
      refine jr_iload_n (pc := 20) dX1_pleases_20 rfl 1 rfl ?_
      refine jr_iald (pc := 21) ⟨rfl, (by show n < 2; omega)⟩ h.1 dX1_pleases_21 ?_
      replace h := h.2
      refine jr_aload_n (pc := 22) dX1_pleases_22 rfl 0 rfl ?_
      refine jr_get (pc := 23) (v := vr 16 n) fg_X1_18 (by show n < 2; omega) rfl dX1_pleases_23 ?_
      refine jr_iload_n (pc := 26) dX1_pleases_26 rfl 2 rfl ?_
      refine jr_iald (pc := 27) ⟨rfl, (by show n < 2; omega)⟩ h.1 dX1_pleases_27 ?_
      replace h := h.2
      refine jr_icmp_lt (pc := 28) (tgt := 35) dX1_pleases_28 (by decide) (fun c => ?_) (fun c => ?_)
      · replace h := h.1 c
        refine jr_iconst (pc := 35) (v := 0) dX1_pleases_35 (by decide) ?_
        exact jr_zret (pc := 36) rfl dX1_pleases_36 (Or.inl rfl) h
      · replace h := h.2 c
        refine jr_iconst (pc := 31) (v := 1) dX1_pleases_31 (by decide) ?_
        refine jr_goto (pc := 32) (tgt := 36) dX1_pleases_32 (by decide) ?_
        exact jr_zret (pc := 36) rfl dX1_pleases_36 (Or.inr rfl) h
theorem dX1_votesOf_0 : decode cX1_votesOf 0 = .ok (.iconst 0, 1) := by decide +kernel
theorem dX1_votesOf_1 : decode cX1_votesOf 1 = .ok (.istore_n 2, 1) := by decide +kernel
theorem dX1_votesOf_2 : decode cX1_votesOf 2 = .ok (.iconst 0, 1) := by decide +kernel
theorem dX1_votesOf_3 : decode cX1_votesOf 3 = .ok (.istore_n 3, 1) := by decide +kernel
theorem dX1_votesOf_4 : decode cX1_votesOf 4 = .ok (.iload_n 3, 1) := by decide +kernel
theorem dX1_votesOf_5 : decode cX1_votesOf 5 = .ok (.aload_n 0, 1) := by decide +kernel
theorem dX1_votesOf_6 : decode cX1_votesOf 6 = .ok (.getfield 43, 3) := by decide +kernel
theorem dX1_votesOf_9 : decode cX1_votesOf 9 = .ok (.if_icmp .ge 26, 3) := by decide +kernel
theorem dX1_votesOf_12 : decode cX1_votesOf 12 = .ok (.iload_n 1, 1) := by decide +kernel
theorem dX1_votesOf_13 : decode cX1_votesOf 13 = .ok (.iload_n 3, 1) := by decide +kernel
theorem dX1_votesOf_14 : decode cX1_votesOf 14 = .ok (.invokestatic 59, 3) := by decide +kernel
theorem dX1_votesOf_17 : decode cX1_votesOf 17 = .ok (.ifCond .eq 12, 3) := by decide +kernel
theorem dX1_votesOf_20 : decode cX1_votesOf 20 = .ok (.iload_n 2, 1) := by decide +kernel
theorem dX1_votesOf_21 : decode cX1_votesOf 21 = .ok (.aload_n 0, 1) := by decide +kernel
theorem dX1_votesOf_22 : decode cX1_votesOf 22 = .ok (.getfield 24, 3) := by decide +kernel
theorem dX1_votesOf_25 : decode cX1_votesOf 25 = .ok (.iload_n 3, 1) := by decide +kernel
theorem dX1_votesOf_26 : decode cX1_votesOf 26 = .ok (.iaload, 1) := by decide +kernel
theorem dX1_votesOf_27 : decode cX1_votesOf 27 = .ok (.iadd, 1) := by decide +kernel
theorem dX1_votesOf_28 : decode cX1_votesOf 28 = .ok (.istore_n 2, 1) := by decide +kernel
theorem dX1_votesOf_29 : decode cX1_votesOf 29 = .ok (.iinc 3 1, 3) := by decide +kernel
theorem dX1_votesOf_32 : decode cX1_votesOf 32 = .ok (.goto (-28), 3) := by decide +kernel
theorem dX1_votesOf_35 : decode cX1_votesOf 35 = .ok (.iload_n 2, 1) := by decide +kernel
theorem dX1_votesOf_36 : decode cX1_votesOf 36 = .ok (.ireturn, 1) := by decide +kernel
set_option maxHeartbeats 4000000 in
set_option maxRecDepth 20000 in
theorem en_X1_votesOf {n : Nat} {a1 : Int32} {M : jw_Mem} {Q : Int32 → jw_Mem → Prop} (hn_n : n < 2) (h : jw_J 1 mX1_votesOf 4 [(0, vr 1 n), (1, vi a1), (2, vi 0), (3, vi 0)] [] M Q) : jw_M 1 mX1_votesOf [vr 1 n, vi a1] M Q := by
  refine jw_M.of (by decide) (Nat.le_of_ble_eq_true rfl) ?_
  show jw_J 1 mX1_votesOf 0 [(0, vr 1 n), (1, vi a1)] [] M Q
  refine jr_iconst (pc := 0) (v := 0) dX1_votesOf_0 (by decide) ?_
  refine jr_istore_n (pc := 1) (lv' := [(2, vi 0), (0, vr 1 n), (1, vi a1)]) dX1_votesOf_1 rfl (by decide) rfl ?_
  refine jr_iconst (pc := 2) (v := 0) dX1_votesOf_2 (by decide) ?_
  refine jr_istore_n (pc := 3) (lv' := [(3, vi 0), (2, vi 0), (0, vr 1 n), (1, vi a1)]) dX1_votesOf_3 rfl (by decide) rfl ?_
  exact jr_sub [2, 3, 1, 0] rfl h
set_option maxHeartbeats 4000000 in
set_option maxRecDepth 20000 in
theorem bk_X1_votesOf_4 {n : Nat} {v1 : Int32} {v2 : Int32} {v3 : Int32} {M : jw_Mem} {Q : Int32 → jw_Mem → Prop} (hn_n : n < 2) (h : (((M 1 n 3) ≤ v3 → Q v2 M) ∧ (¬ (M 1 n 3) ≤ v3 → (jw_M 0 mX10_isIn [vi v1, vi v3] M (fun x1 M2 => ((x1 = 0 → jw_J 1 mX1_votesOf 4 [(0, vr 1 n), (1, vi v1), (2, vi v2), (3, vi (v3 + 1))] [] M2 Q) ∧ (¬ x1 = 0 → (vp_in v3 7 ∧ jw_J 1 mX1_votesOf 4 [(0, vr 1 n), (1, vi v1), (2, vi (v2 + (M2 18 n v3.toNatClampNeg))), (3, vi (v3 + 1))] [] M2 Q)))))))) : jw_J 1 mX1_votesOf 4 [(0, vr 1 n), (1, vi v1), (2, vi v2), (3, vi v3)] [] M Q := by
  refine jr_iload_n (pc := 4) dX1_votesOf_4 rfl 3 rfl ?_
  refine jr_aload_n (pc := 5) dX1_votesOf_5 rfl 0 rfl ?_
  refine jr_get (pc := 6) (v := vi (M 1 n 3)) fg_X1_43 (by show n < 2; omega) rfl dX1_votesOf_6 ?_
  refine jr_icmp_ge (pc := 9) (tgt := 35) dX1_votesOf_9 (by decide) (fun c => ?_) (fun c => ?_)
  · replace h := h.1 c
    refine jr_iload_n (pc := 35) dX1_votesOf_35 rfl 2 rfl ?_
    exact jr_iret (pc := 36) rfl dX1_votesOf_36 h
  · replace h := h.2 c
    refine jr_iload_n (pc := 12) dX1_votesOf_12 rfl 1 rfl ?_
    refine jr_iload_n (pc := 13) dX1_votesOf_13 rfl 3 rfl ?_
    refine jr_callN (pc := 14) (d' := 0) (mt' := mX10_isIn) (As := [vi v1, vi v3]) (st := []) fc_X1_59 (by decide) (Nat.le_of_ble_eq_true rfl) rfl dX1_votesOf_14 (jw_M.mono h (fun x1 M2 h => ?_))
    show jw_J 1 mX1_votesOf 17 [(0, vr 1 n), (1, vi v1), (2, vi v2), (3, vi v3)] [vi x1] M2 Q
    refine jr_if_eq (pc := 17) (tgt := 29) dX1_votesOf_17 (by decide) (fun c => ?_) (fun c => ?_)
    · replace h := h.1 c
      refine jr_iinc (pc := 29) (lv' := [(3, vi (v3 + 1)), (0, vr 1 n), (1, vi v1), (2, vi v2)]) (q := 3) dX1_votesOf_29 rfl (by rfl) (by decide) rfl ?_
      refine jr_goto (pc := 32) (tgt := 4) dX1_votesOf_32 (by decide) ?_
      exact jr_sub [1, 2, 3, 0] rfl h
    · replace h := h.2 c
      refine jr_iload_n (pc := 20) dX1_votesOf_20 rfl 2 rfl ?_
      refine jr_aload_n (pc := 21) dX1_votesOf_21 rfl 0 rfl ?_
      refine jr_get (pc := 22) (v := vr 18 n) fg_X1_24 (by show n < 2; omega) rfl dX1_votesOf_22 ?_
      refine jr_iload_n (pc := 25) dX1_votesOf_25 rfl 3 rfl ?_
      refine jr_iald (pc := 26) ⟨rfl, (by show n < 2; omega)⟩ h.1 dX1_votesOf_26 ?_
      replace h := h.2
      refine jr_iadd (pc := 27) dX1_votesOf_27 ?_
      refine jr_istore_n (pc := 28) (lv' := [(2, vi (v2 + (M2 18 n v3.toNatClampNeg))), (0, vr 1 n), (1, vi v1), (3, vi v3)]) dX1_votesOf_28 rfl (by decide) rfl ?_
      refine jr_iinc (pc := 29) (lv' := [(3, vi (v3 + 1)), (2, vi (v2 + (M2 18 n v3.toNatClampNeg))), (0, vr 1 n), (1, vi v1)]) (q := 3) dX1_votesOf_29 rfl (by rfl) (by decide) rfl ?_
      refine jr_goto (pc := 32) (tgt := 4) dX1_votesOf_32 (by decide) ?_
      exact jr_sub [2, 3, 1, 0] rfl h
