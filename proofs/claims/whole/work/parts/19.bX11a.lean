theorem dX11_in_0 : decode cX11_in 0 = .ok (.lload_n 0, 1) := by decide +kernel
theorem dX11_in_1 : decode cX11_in 1 = .ok (.lload_n 2, 1) := by decide +kernel
theorem dX11_in_2 : decode cX11_in 2 = .ok (.lcmp, 1) := by decide +kernel
theorem dX11_in_3 : decode cX11_in 3 = .ok (.ifCond .lt 14, 3) := by decide +kernel
theorem dX11_in_6 : decode cX11_in 6 = .ok (.lload_n 0, 1) := by decide +kernel
theorem dX11_in_7 : decode cX11_in 7 = .ok (.lload 4, 2) := by decide +kernel
theorem dX11_in_9 : decode cX11_in 9 = .ok (.lcmp, 1) := by decide +kernel
theorem dX11_in_10 : decode cX11_in 10 = .ok (.ifCond .gt 7, 3) := by decide +kernel
theorem dX11_in_13 : decode cX11_in 13 = .ok (.iconst 1, 1) := by decide +kernel
theorem dX11_in_14 : decode cX11_in 14 = .ok (.goto 4, 3) := by decide +kernel
theorem dX11_in_17 : decode cX11_in 17 = .ok (.iconst 0, 1) := by decide +kernel
theorem dX11_in_18 : decode cX11_in 18 = .ok (.ireturn, 1) := by decide +kernel
set_option maxHeartbeats 4000000 in
set_option maxRecDepth 20000 in
theorem en_X11_in {a1 : Int64} {a2 : Int64} {a3 : Int64} {M : jw_Mem} {Q : Int32 → jw_Mem → Prop}  (h : (((lg_cmp a1 a2) < 0 → Q 0 M) ∧ (¬ (lg_cmp a1 a2) < 0 → ((0 < (lg_cmp a1 a3) → Q 0 M) ∧ (¬ 0 < (lg_cmp a1 a3) → Q 1 M))))) : jw_M 0 mX11_in [vl a1, vl a2, vl a3] M Q := by
  refine jw_M.of (by decide) (Nat.le_of_ble_eq_true rfl) ?_
  show jw_J 0 mX11_in 0 [(0, vl a1), (2, vl a2), (4, vl a3)] [] M Q
  refine jr_lload_n (pc := 0) dX11_in_0 rfl 0 rfl ?_
  refine jr_lload_n (pc := 1) dX11_in_1 rfl 1 rfl ?_
  refine jr_lcmp (pc := 2) dX11_in_2 ?_
  refine jr_if_lt (pc := 3) (tgt := 17) dX11_in_3 (by decide) (fun c => ?_) (fun c => ?_)
  · replace h := h.1 c
    refine jr_iconst (pc := 17) (v := 0) dX11_in_17 (by decide) ?_
    exact jr_zret (pc := 18) rfl dX11_in_18 (Or.inl rfl) h
  · replace h := h.2 c
    refine jr_lload_n (pc := 6) dX11_in_6 rfl 0 rfl ?_
    refine jr_lload (pc := 7) dX11_in_7 2 rfl ?_
    refine jr_lcmp (pc := 9) dX11_in_9 ?_
    refine jr_if_gt (pc := 10) (tgt := 17) dX11_in_10 (by decide) (fun c => ?_) (fun c => ?_)
    · replace h := h.1 c
      refine jr_iconst (pc := 17) (v := 0) dX11_in_17 (by decide) ?_
      exact jr_zret (pc := 18) rfl dX11_in_18 (Or.inl rfl) h
    · replace h := h.2 c
      refine jr_iconst (pc := 13) (v := 1) dX11_in_13 (by decide) ?_
      refine jr_goto (pc := 14) (tgt := 18) dX11_in_14 (by decide) ?_
      exact jr_zret (pc := 18) rfl dX11_in_18 (Or.inr rfl) h
theorem dX11_has_0 : decode cX11_has 0 = .ok (.iload_n 0, 1) := by decide +kernel
theorem dX11_has_1 : decode cX11_has 1 = .ok (.iload_n 1, 1) := by decide +kernel
theorem dX11_has_2 : decode cX11_has 2 = .ok (.ishr, 1) := by decide +kernel
theorem dX11_has_3 : decode cX11_has 3 = .ok (.iconst 1, 1) := by decide +kernel
theorem dX11_has_4 : decode cX11_has 4 = .ok (.iand, 1) := by decide +kernel
theorem dX11_has_5 : decode cX11_has 5 = .ok (.iconst 1, 1) := by decide +kernel
theorem dX11_has_6 : decode cX11_has 6 = .ok (.if_icmp .ne 7, 3) := by decide +kernel
theorem dX11_has_9 : decode cX11_has 9 = .ok (.iconst 1, 1) := by decide +kernel
theorem dX11_has_10 : decode cX11_has 10 = .ok (.goto 4, 3) := by decide +kernel
theorem dX11_has_13 : decode cX11_has 13 = .ok (.iconst 0, 1) := by decide +kernel
theorem dX11_has_14 : decode cX11_has 14 = .ok (.ireturn, 1) := by decide +kernel
set_option maxHeartbeats 4000000 in
set_option maxRecDepth 20000 in
theorem en_X11_has {a1 : Int32} {a2 : Int32} {M : jw_Mem} {Q : Int32 → jw_Mem → Prop}  (h : ((¬ ((a1 >>> (a2 &&& 31)) &&& 1) = 1 → Q 0 M) ∧ (((a1 >>> (a2 &&& 31)) &&& 1) = 1 → Q 1 M))) : jw_M 0 mX11_has [vi a1, vi a2] M Q := by
  refine jw_M.of (by decide) (Nat.le_of_ble_eq_true rfl) ?_
  show jw_J 0 mX11_has 0 [(0, vi a1), (1, vi a2)] [] M Q
  refine jr_iload_n (pc := 0) dX11_has_0 rfl 0 rfl ?_
  refine jr_iload_n (pc := 1) dX11_has_1 rfl 1 rfl ?_
  refine jr_ishr (pc := 2) dX11_has_2 ?_
  refine jr_iconst (pc := 3) (v := 1) dX11_has_3 (by decide) ?_
  refine jr_iand (pc := 4) dX11_has_4 ?_
  refine jr_iconst (pc := 5) (v := 1) dX11_has_5 (by decide) ?_
  refine jr_icmp_ne (pc := 6) (tgt := 13) dX11_has_6 (by decide) (fun c => ?_) (fun c => ?_)
  · replace h := h.1 c
    refine jr_iconst (pc := 13) (v := 0) dX11_has_13 (by decide) ?_
    exact jr_zret (pc := 14) rfl dX11_has_14 (Or.inl rfl) h
  · replace h := h.2 c
    refine jr_iconst (pc := 9) (v := 1) dX11_has_9 (by decide) ?_
    refine jr_goto (pc := 10) (tgt := 14) dX11_has_10 (by decide) ?_
    exact jr_zret (pc := 14) rfl dX11_has_14 (Or.inr rfl) h
theorem dX11_bits_0 : decode cX11_bits 0 = .ok (.iconst 0, 1) := by decide +kernel
theorem dX11_bits_1 : decode cX11_bits 1 = .ok (.istore_n 1, 1) := by decide +kernel
theorem dX11_bits_2 : decode cX11_bits 2 = .ok (.iconst 0, 1) := by decide +kernel
theorem dX11_bits_3 : decode cX11_bits 3 = .ok (.istore_n 2, 1) := by decide +kernel
theorem dX11_bits_4 : decode cX11_bits 4 = .ok (.iload_n 2, 1) := by decide +kernel
theorem dX11_bits_5 : decode cX11_bits 5 = .ok (.bipush 7, 2) := by decide +kernel
theorem dX11_bits_7 : decode cX11_bits 7 = .ok (.if_icmp .ge 17, 3) := by decide +kernel
theorem dX11_bits_10 : decode cX11_bits 10 = .ok (.iload_n 1, 1) := by decide +kernel
theorem dX11_bits_11 : decode cX11_bits 11 = .ok (.iload_n 0, 1) := by decide +kernel
theorem dX11_bits_12 : decode cX11_bits 12 = .ok (.iload_n 2, 1) := by decide +kernel
theorem dX11_bits_13 : decode cX11_bits 13 = .ok (.ishr, 1) := by decide +kernel
theorem dX11_bits_14 : decode cX11_bits 14 = .ok (.iconst 1, 1) := by decide +kernel
theorem dX11_bits_15 : decode cX11_bits 15 = .ok (.iand, 1) := by decide +kernel
theorem dX11_bits_16 : decode cX11_bits 16 = .ok (.iadd, 1) := by decide +kernel
theorem dX11_bits_17 : decode cX11_bits 17 = .ok (.istore_n 1, 1) := by decide +kernel
theorem dX11_bits_18 : decode cX11_bits 18 = .ok (.iinc 2 1, 3) := by decide +kernel
theorem dX11_bits_21 : decode cX11_bits 21 = .ok (.goto (-17), 3) := by decide +kernel
theorem dX11_bits_24 : decode cX11_bits 24 = .ok (.iload_n 1, 1) := by decide +kernel
theorem dX11_bits_25 : decode cX11_bits 25 = .ok (.ireturn, 1) := by decide +kernel
set_option maxHeartbeats 4000000 in
set_option maxRecDepth 20000 in
theorem en_X11_bits {a1 : Int32} {M : jw_Mem} {Q : Int32 → jw_Mem → Prop}  (h : jw_J 0 mX11_bits 4 [(0, vi a1), (1, vi 0), (2, vi 0)] [] M Q) : jw_M 0 mX11_bits [vi a1] M Q := by
  refine jw_M.of (by decide) (Nat.le_of_ble_eq_true rfl) ?_
  show jw_J 0 mX11_bits 0 [(0, vi a1)] [] M Q
  refine jr_iconst (pc := 0) (v := 0) dX11_bits_0 (by decide) ?_
  refine jr_istore_n (pc := 1) (lv' := [(1, vi 0), (0, vi a1)]) dX11_bits_1 rfl (by decide) rfl ?_
  refine jr_iconst (pc := 2) (v := 0) dX11_bits_2 (by decide) ?_
  refine jr_istore_n (pc := 3) (lv' := [(2, vi 0), (1, vi 0), (0, vi a1)]) dX11_bits_3 rfl (by decide) rfl ?_
  exact jr_sub [2, 1, 0] rfl h
set_option maxHeartbeats 4000000 in
set_option maxRecDepth 20000 in
theorem bk_X11_bits_4 {v0 : Int32} {v1 : Int32} {v2 : Int32} {M : jw_Mem} {Q : Int32 → jw_Mem → Prop}  (h : ((7 ≤ v2 → Q v1 M) ∧ (¬ 7 ≤ v2 → jw_J 0 mX11_bits 4 [(0, vi v0), (1, vi (v1 + ((v0 >>> (v2 &&& 31)) &&& 1))), (2, vi (v2 + 1))] [] M Q))) : jw_J 0 mX11_bits 4 [(0, vi v0), (1, vi v1), (2, vi v2)] [] M Q := by
  refine jr_iload_n (pc := 4) dX11_bits_4 rfl 2 rfl ?_
  refine jr_bipush (pc := 5) (v := 7) dX11_bits_5 (by decide) ?_
  refine jr_icmp_ge (pc := 7) (tgt := 24) dX11_bits_7 (by decide) (fun c => ?_) (fun c => ?_)
  · replace h := h.1 c
    refine jr_iload_n (pc := 24) dX11_bits_24 rfl 1 rfl ?_
    exact jr_iret (pc := 25) rfl dX11_bits_25 h
  · replace h := h.2 c
    refine jr_iload_n (pc := 10) dX11_bits_10 rfl 1 rfl ?_
    refine jr_iload_n (pc := 11) dX11_bits_11 rfl 0 rfl ?_
    refine jr_iload_n (pc := 12) dX11_bits_12 rfl 2 rfl ?_
    refine jr_ishr (pc := 13) dX11_bits_13 ?_
    refine jr_iconst (pc := 14) (v := 1) dX11_bits_14 (by decide) ?_
    refine jr_iand (pc := 15) dX11_bits_15 ?_
    refine jr_iadd (pc := 16) dX11_bits_16 ?_
    refine jr_istore_n (pc := 17) (lv' := [(1, vi (v1 + ((v0 >>> (v2 &&& 31)) &&& 1))), (0, vi v0), (2, vi v2)]) dX11_bits_17 rfl (by decide) rfl ?_
    refine jr_iinc (pc := 18) (lv' := [(2, vi (v2 + 1)), (1, vi (v1 + ((v0 >>> (v2 &&& 31)) &&& 1))), (0, vi v0)]) (q := 2) dX11_bits_18 rfl (by rfl) (by decide) rfl ?_
    refine jr_goto (pc := 21) (tgt := 4) dX11_bits_21 (by decide) ?_
    exact jr_sub [2, 1, 0] rfl h
theorem dX11_isPlinth_0 : decode cX11_isPlinth 0 = .ok (.iload_n 1, 1) := by decide +kernel
theorem dX11_isPlinth_1 : decode cX11_isPlinth 1 = .ok (.i2l, 1) := by decide +kernel
theorem dX11_isPlinth_2 : decode cX11_isPlinth 2 = .ok (.lconst 0, 1) := by decide +kernel
theorem dX11_isPlinth_3 : decode cX11_isPlinth 3 = .ok (.aload_n 0, 1) := by decide +kernel
theorem dX11_isPlinth_4 : decode cX11_isPlinth 4 = .ok (.getfield 96, 3) := by decide +kernel
theorem dX11_isPlinth_7 : decode cX11_isPlinth 7 = .ok (.iconst 1, 1) := by decide +kernel
theorem dX11_isPlinth_8 : decode cX11_isPlinth 8 = .ok (.isub, 1) := by decide +kernel
theorem dX11_isPlinth_9 : decode cX11_isPlinth 9 = .ok (.i2l, 1) := by decide +kernel
theorem dX11_isPlinth_10 : decode cX11_isPlinth 10 = .ok (.invokestatic 99, 3) := by decide +kernel
theorem dX11_isPlinth_13 : decode cX11_isPlinth 13 = .ok (.ireturn, 1) := by decide +kernel
set_option maxHeartbeats 4000000 in
set_option maxRecDepth 20000 in
theorem en_X11_isPlinth {a1 : Int32} {M : jw_Mem} {Q : Int32 → jw_Mem → Prop}  (h : (jw_M 0 mX11_in [vl (a1.toInt64), vl 0, vl (((M 11 0 1) - 1).toInt64)] M (fun x1 M2 => ((x1 = 0 ∨ x1 = 1) ∧ Q x1 M2)))) : jw_M 1 mX11_isPlinth [vr 11 0, vi a1] M Q := by
  refine jw_M.of (by decide) (Nat.le_of_ble_eq_true rfl) ?_
  show jw_J 1 mX11_isPlinth 0 [(0, vr 11 0), (1, vi a1)] [] M Q
  refine jr_iload_n (pc := 0) dX11_isPlinth_0 rfl 1 rfl ?_
  refine jr_i2l (pc := 1) dX11_isPlinth_1 ?_
  refine jr_lconst (pc := 2) (v := 0) dX11_isPlinth_2 (by decide) ?_
  refine jr_aload_n (pc := 3) dX11_isPlinth_3 rfl 0 rfl ?_
  refine jr_get (pc := 4) (v := vi (M 11 0 1)) fg_X11_96 (by decide) rfl dX11_isPlinth_4 ?_
  refine jr_iconst (pc := 7) (v := 1) dX11_isPlinth_7 (by decide) ?_
  refine jr_isub (pc := 8) dX11_isPlinth_8 ?_
  refine jr_i2l (pc := 9) dX11_isPlinth_9 ?_
  refine jr_callS (pc := 10) (d' := 0) (mt' := mX11_in) (As := [vl (a1.toInt64), vl 0, vl (((M 11 0 1) - 1).toInt64)]) (st := []) fc_X11_99 (by decide) (Nat.le_of_ble_eq_true rfl) rfl dX11_isPlinth_10 (jw_M.mono h (fun x1 M2 h => ?_))
  show jw_J 1 mX11_isPlinth 13 [(0, vr 11 0), (1, vi a1)] [vi x1] M2 Q
  exact jr_zret (pc := 13) rfl dX11_isPlinth_13 h.1 h.2
theorem dX11_isStatue_0 : decode cX11_isStatue 0 = .ok (.iload_n 1, 1) := by decide +kernel
theorem dX11_isStatue_1 : decode cX11_isStatue 1 = .ok (.i2l, 1) := by decide +kernel
theorem dX11_isStatue_2 : decode cX11_isStatue 2 = .ok (.lconst 0, 1) := by decide +kernel
theorem dX11_isStatue_3 : decode cX11_isStatue 3 = .ok (.aload_n 0, 1) := by decide +kernel
theorem dX11_isStatue_4 : decode cX11_isStatue 4 = .ok (.getfield 103, 3) := by decide +kernel
theorem dX11_isStatue_7 : decode cX11_isStatue 7 = .ok (.iconst 1, 1) := by decide +kernel
theorem dX11_isStatue_8 : decode cX11_isStatue 8 = .ok (.isub, 1) := by decide +kernel
theorem dX11_isStatue_9 : decode cX11_isStatue 9 = .ok (.i2l, 1) := by decide +kernel
theorem dX11_isStatue_10 : decode cX11_isStatue 10 = .ok (.invokestatic 99, 3) := by decide +kernel
theorem dX11_isStatue_13 : decode cX11_isStatue 13 = .ok (.ireturn, 1) := by decide +kernel
set_option maxHeartbeats 4000000 in
set_option maxRecDepth 20000 in
theorem en_X11_isStatue {a1 : Int32} {M : jw_Mem} {Q : Int32 → jw_Mem → Prop}  (h : (jw_M 0 mX11_in [vl (a1.toInt64), vl 0, vl (((M 11 0 3) - 1).toInt64)] M (fun x1 M2 => ((x1 = 0 ∨ x1 = 1) ∧ Q x1 M2)))) : jw_M 1 mX11_isStatue [vr 11 0, vi a1] M Q := by
  refine jw_M.of (by decide) (Nat.le_of_ble_eq_true rfl) ?_
  show jw_J 1 mX11_isStatue 0 [(0, vr 11 0), (1, vi a1)] [] M Q
  refine jr_iload_n (pc := 0) dX11_isStatue_0 rfl 1 rfl ?_
  refine jr_i2l (pc := 1) dX11_isStatue_1 ?_
  refine jr_lconst (pc := 2) (v := 0) dX11_isStatue_2 (by decide) ?_
  refine jr_aload_n (pc := 3) dX11_isStatue_3 rfl 0 rfl ?_
  refine jr_get (pc := 4) (v := vi (M 11 0 3)) fg_X11_103 (by decide) rfl dX11_isStatue_4 ?_
  refine jr_iconst (pc := 7) (v := 1) dX11_isStatue_7 (by decide) ?_
  refine jr_isub (pc := 8) dX11_isStatue_8 ?_
  refine jr_i2l (pc := 9) dX11_isStatue_9 ?_
  refine jr_callS (pc := 10) (d' := 0) (mt' := mX11_in) (As := [vl (a1.toInt64), vl 0, vl (((M 11 0 3) - 1).toInt64)]) (st := []) fc_X11_99 (by decide) (Nat.le_of_ble_eq_true rfl) rfl dX11_isStatue_10 (jw_M.mono h (fun x1 M2 h => ?_))
  show jw_J 1 mX11_isStatue 13 [(0, vr 11 0), (1, vi a1)] [vi x1] M2 Q
  exact jr_zret (pc := 13) rfl dX11_isStatue_13 h.1 h.2
theorem dX11_isWalker_0 : decode cX11_isWalker 0 = .ok (.iload_n 1, 1) := by decide +kernel
theorem dX11_isWalker_1 : decode cX11_isWalker 1 = .ok (.i2l, 1) := by decide +kernel
theorem dX11_isWalker_2 : decode cX11_isWalker 2 = .ok (.lconst 0, 1) := by decide +kernel
theorem dX11_isWalker_3 : decode cX11_isWalker 3 = .ok (.aload_n 0, 1) := by decide +kernel
theorem dX11_isWalker_4 : decode cX11_isWalker 4 = .ok (.getfield 106, 3) := by decide +kernel
theorem dX11_isWalker_7 : decode cX11_isWalker 7 = .ok (.iconst 1, 1) := by decide +kernel
theorem dX11_isWalker_8 : decode cX11_isWalker 8 = .ok (.isub, 1) := by decide +kernel
theorem dX11_isWalker_9 : decode cX11_isWalker 9 = .ok (.i2l, 1) := by decide +kernel
theorem dX11_isWalker_10 : decode cX11_isWalker 10 = .ok (.invokestatic 99, 3) := by decide +kernel
theorem dX11_isWalker_13 : decode cX11_isWalker 13 = .ok (.ireturn, 1) := by decide +kernel
set_option maxHeartbeats 4000000 in
set_option maxRecDepth 20000 in
theorem en_X11_isWalker {a1 : Int32} {M : jw_Mem} {Q : Int32 → jw_Mem → Prop}  (h : (jw_M 0 mX11_in [vl (a1.toInt64), vl 0, vl (((M 11 0 7) - 1).toInt64)] M (fun x1 M2 => ((x1 = 0 ∨ x1 = 1) ∧ Q x1 M2)))) : jw_M 1 mX11_isWalker [vr 11 0, vi a1] M Q := by
  refine jw_M.of (by decide) (Nat.le_of_ble_eq_true rfl) ?_
  show jw_J 1 mX11_isWalker 0 [(0, vr 11 0), (1, vi a1)] [] M Q
  refine jr_iload_n (pc := 0) dX11_isWalker_0 rfl 1 rfl ?_
  refine jr_i2l (pc := 1) dX11_isWalker_1 ?_
  refine jr_lconst (pc := 2) (v := 0) dX11_isWalker_2 (by decide) ?_
  refine jr_aload_n (pc := 3) dX11_isWalker_3 rfl 0 rfl ?_
  refine jr_get (pc := 4) (v := vi (M 11 0 7)) fg_X11_106 (by decide) rfl dX11_isWalker_4 ?_
  refine jr_iconst (pc := 7) (v := 1) dX11_isWalker_7 (by decide) ?_
  refine jr_isub (pc := 8) dX11_isWalker_8 ?_
  refine jr_i2l (pc := 9) dX11_isWalker_9 ?_
  refine jr_callS (pc := 10) (d' := 0) (mt' := mX11_in) (As := [vl (a1.toInt64), vl 0, vl (((M 11 0 7) - 1).toInt64)]) (st := []) fc_X11_99 (by decide) (Nat.le_of_ble_eq_true rfl) rfl dX11_isWalker_10 (jw_M.mono h (fun x1 M2 h => ?_))
  show jw_J 1 mX11_isWalker 13 [(0, vr 11 0), (1, vi a1)] [vi x1] M2 Q
  exact jr_zret (pc := 13) rfl dX11_isWalker_13 h.1 h.2
theorem dX11_feed_0 : decode cX11_feed 0 = .ok (.iload_n 1, 1) := by decide +kernel
theorem dX11_feed_1 : decode cX11_feed 1 = .ok (.i2l, 1) := by decide +kernel
theorem dX11_feed_2 : decode cX11_feed 2 = .ok (.lconst 0, 1) := by decide +kernel
theorem dX11_feed_3 : decode cX11_feed 3 = .ok (.ldc2_w 109, 3) := by decide +kernel
theorem dX11_feed_6 : decode cX11_feed 6 = .ok (.invokestatic 99, 3) := by decide +kernel
theorem dX11_feed_9 : decode cX11_feed 9 = .ok (.ifCond .ne 6, 3) := by decide +kernel
theorem dX11_feed_12 : decode cX11_feed 12 = .ok (.ldc 111, 2) := by decide +kernel
theorem dX11_feed_14 : decode cX11_feed 14 = .ok (.ireturn, 1) := by decide +kernel
theorem dX11_feed_15 : decode cX11_feed 15 = .ok (.aload_n 0, 1) := by decide +kernel
theorem dX11_feed_16 : decode cX11_feed 16 = .ok (.getfield 112, 3) := by decide +kernel
theorem dX11_feed_19 : decode cX11_feed 19 = .ok (.sipush 240, 3) := by decide +kernel
theorem dX11_feed_22 : decode cX11_feed 22 = .ok (.if_icmp .ne 6, 3) := by decide +kernel
theorem dX11_feed_25 : decode cX11_feed 25 = .ok (.ldc 115, 2) := by decide +kernel
theorem dX11_feed_27 : decode cX11_feed 27 = .ok (.ireturn, 1) := by decide +kernel
theorem dX11_feed_28 : decode cX11_feed 28 = .ok (.aload_n 0, 1) := by decide +kernel
theorem dX11_feed_29 : decode cX11_feed 29 = .ok (.getfield 34, 3) := by decide +kernel
theorem dX11_feed_32 : decode cX11_feed 32 = .ok (.aload_n 0, 1) := by decide +kernel
theorem dX11_feed_33 : decode cX11_feed 33 = .ok (.getfield 112, 3) := by decide +kernel
theorem dX11_feed_36 : decode cX11_feed 36 = .ok (.iload_n 1, 1) := by decide +kernel
theorem dX11_feed_37 : decode cX11_feed 37 = .ok (.iastore, 1) := by decide +kernel
theorem dX11_feed_38 : decode cX11_feed 38 = .ok (.aload_n 0, 1) := by decide +kernel
theorem dX11_feed_39 : decode cX11_feed 39 = .ok (.dup, 1) := by decide +kernel
theorem dX11_feed_40 : decode cX11_feed 40 = .ok (.getfield 112, 3) := by decide +kernel
theorem dX11_feed_43 : decode cX11_feed 43 = .ok (.iconst 1, 1) := by decide +kernel
theorem dX11_feed_44 : decode cX11_feed 44 = .ok (.iadd, 1) := by decide +kernel
theorem dX11_feed_45 : decode cX11_feed 45 = .ok (.putfield 112, 3) := by decide +kernel
theorem dX11_feed_48 : decode cX11_feed 48 = .ok (.aload_n 0, 1) := by decide +kernel
theorem dX11_feed_49 : decode cX11_feed 49 = .ok (.getfield 112, 3) := by decide +kernel
theorem dX11_feed_52 : decode cX11_feed 52 = .ok (.ireturn, 1) := by decide +kernel
set_option maxHeartbeats 4000000 in
set_option maxRecDepth 20000 in
theorem en_X11_feed {a1 : Int32} {M : jw_Mem} {Q : Int32 → jw_Mem → Prop}  (h : (jw_M 0 mX11_in [vl (a1.toInt64), vl 0, vl 255] M (fun x1 M2 => ((¬ x1 = 0 → ((¬ (M2 11 0 14) = 240 → (vp_in (M2 11 0 14) 240 ∧ (∀ M3 : jw_Mem, M3 = jw_up M2 44 0 ((M2 11 0 14) : Int32).toNatClampNeg a1 → (∀ M4 : jw_Mem, M4 = jw_up M3 11 0 14 ((M3 11 0 14) + 1) → Q (M4 11 0 14) M4)))) ∧ ((M2 11 0 14) = 240 → Q (-1000000004) M2))) ∧ (x1 = 0 → Q (-1000000002) M2))))) : jw_M 1 mX11_feed [vr 11 0, vi a1] M Q := by
  refine jw_M.of (by decide) (Nat.le_of_ble_eq_true rfl) ?_
  show jw_J 1 mX11_feed 0 [(0, vr 11 0), (1, vi a1)] [] M Q
  refine jr_iload_n (pc := 0) dX11_feed_0 rfl 1 rfl ?_
  refine jr_i2l (pc := 1) dX11_feed_1 ?_
  refine jr_lconst (pc := 2) (v := 0) dX11_feed_2 (by decide) ?_
  refine jr_ldc2 (pc := 3) fk_X11_109 dX11_feed_3 ?_
  refine jr_callS (pc := 6) (d' := 0) (mt' := mX11_in) (As := [vl (a1.toInt64), vl 0, vl 255]) (st := []) fc_X11_99 (by decide) (Nat.le_of_ble_eq_true rfl) rfl dX11_feed_6 (jw_M.mono h (fun x1 M2 h => ?_))
  show jw_J 1 mX11_feed 9 [(0, vr 11 0), (1, vi a1)] [vi x1] M2 Q
  refine jr_if_ne (pc := 9) (tgt := 15) dX11_feed_9 (by decide) (fun c => ?_) (fun c => ?_)
  · replace h := h.1 c
    refine jr_aload_n (pc := 15) dX11_feed_15 rfl 0 rfl ?_
    refine jr_get (pc := 16) (v := vi (M2 11 0 14)) fg_X11_112 (by decide) rfl dX11_feed_16 ?_
    refine jr_sipush (pc := 19) (v := 240) dX11_feed_19 (by decide) ?_
    refine jr_icmp_ne (pc := 22) (tgt := 28) dX11_feed_22 (by decide) (fun c => ?_) (fun c => ?_)
    · replace h := h.1 c
      refine jr_aload_n (pc := 28) dX11_feed_28 rfl 0 rfl ?_
      refine jr_get (pc := 29) (v := vr 44 0) fg_X11_34 (by decide) rfl dX11_feed_29 ?_
      refine jr_aload_n (pc := 32) dX11_feed_32 rfl 0 rfl ?_
      refine jr_get (pc := 33) (v := vi (M2 11 0 14)) fg_X11_112 (by decide) rfl dX11_feed_33 ?_
      refine jr_iload_n (pc := 36) dX11_feed_36 rfl 1 rfl ?_
      refine jr_iast (pc := 37) ⟨rfl, (by decide)⟩ h.1 dX11_feed_37 ?_
      replace h := h.2
      replace h := h _ rfl
      generalize jw_up M2 44 0 ((M2 11 0 14) : Int32).toNatClampNeg a1 = M3 at h ⊢
      refine jr_aload_n (pc := 38) dX11_feed_38 rfl 0 rfl ?_
      refine jr_dup_r (pc := 39) dX11_feed_39 ?_
      refine jr_get (pc := 40) (v := vi (M3 11 0 14)) fg_X11_112 (by decide) rfl dX11_feed_40 ?_
      refine jr_iconst (pc := 43) (v := 1) dX11_feed_43 (by decide) ?_
      refine jr_iadd (pc := 44) dX11_feed_44 ?_
      refine jr_put (pc := 45) fp_X11_112 (by decide) (Or.inl ⟨_, _, _, rfl, by decide +kernel⟩) dX11_feed_45 ?_
      replace h := h _ rfl
      generalize jw_up M3 11 0 14 ((M3 11 0 14) + 1) = M4 at h ⊢
      refine jr_aload_n (pc := 48) dX11_feed_48 rfl 0 rfl ?_
      refine jr_get (pc := 49) (v := vi (M4 11 0 14)) fg_X11_112 (by decide) rfl dX11_feed_49 ?_
      exact jr_iret (pc := 52) rfl dX11_feed_52 h
    · replace h := h.2 c
      refine jr_ldc (pc := 25) fk_X11_115 dX11_feed_25 ?_
      exact jr_iret (pc := 27) rfl dX11_feed_27 h
  · replace h := h.2 c
    refine jr_ldc (pc := 12) fk_X11_111 dX11_feed_12 ?_
    exact jr_iret (pc := 14) rfl dX11_feed_14 h
theorem dX11_here_0 : decode cX11_here 0 = .ok (.aload_n 0, 1) := by decide +kernel
theorem dX11_here_1 : decode cX11_here 1 = .ok (.getfield 116, 3) := by decide +kernel
theorem dX11_here_4 : decode cX11_here 4 = .ok (.aload_n 0, 1) := by decide +kernel
theorem dX11_here_5 : decode cX11_here 5 = .ok (.getfield 112, 3) := by decide +kernel
theorem dX11_here_8 : decode cX11_here 8 = .ok (.if_icmp .ge 30, 3) := by decide +kernel
theorem dX11_here_11 : decode cX11_here 11 = .ok (.aload_n 0, 1) := by decide +kernel
theorem dX11_here_12 : decode cX11_here 12 = .ok (.getfield 34, 3) := by decide +kernel
theorem dX11_here_15 : decode cX11_here 15 = .ok (.aload_n 0, 1) := by decide +kernel
theorem dX11_here_16 : decode cX11_here 16 = .ok (.getfield 116, 3) := by decide +kernel
theorem dX11_here_19 : decode cX11_here 19 = .ok (.iaload, 1) := by decide +kernel
theorem dX11_here_20 : decode cX11_here 20 = .ok (.bipush 32, 2) := by decide +kernel
theorem dX11_here_22 : decode cX11_here 22 = .ok (.if_icmp .ne 16, 3) := by decide +kernel
theorem dX11_here_25 : decode cX11_here 25 = .ok (.aload_n 0, 1) := by decide +kernel
theorem dX11_here_26 : decode cX11_here 26 = .ok (.dup, 1) := by decide +kernel
theorem dX11_here_27 : decode cX11_here 27 = .ok (.getfield 116, 3) := by decide +kernel
theorem dX11_here_30 : decode cX11_here 30 = .ok (.iconst 1, 1) := by decide +kernel
theorem dX11_here_31 : decode cX11_here 31 = .ok (.iadd, 1) := by decide +kernel
theorem dX11_here_32 : decode cX11_here 32 = .ok (.putfield 116, 3) := by decide +kernel
theorem dX11_here_35 : decode cX11_here 35 = .ok (.goto (-35), 3) := by decide +kernel
theorem dX11_here_38 : decode cX11_here 38 = .ok (.aload_n 0, 1) := by decide +kernel
theorem dX11_here_39 : decode cX11_here 39 = .ok (.getfield 116, 3) := by decide +kernel
theorem dX11_here_42 : decode cX11_here 42 = .ok (.aload_n 0, 1) := by decide +kernel
theorem dX11_here_43 : decode cX11_here 43 = .ok (.getfield 112, 3) := by decide +kernel
theorem dX11_here_46 : decode cX11_here 46 = .ok (.if_icmp .ge 15, 3) := by decide +kernel
theorem dX11_here_49 : decode cX11_here 49 = .ok (.aload_n 0, 1) := by decide +kernel
theorem dX11_here_50 : decode cX11_here 50 = .ok (.getfield 34, 3) := by decide +kernel
theorem dX11_here_53 : decode cX11_here 53 = .ok (.aload_n 0, 1) := by decide +kernel
theorem dX11_here_54 : decode cX11_here 54 = .ok (.getfield 116, 3) := by decide +kernel
theorem dX11_here_57 : decode cX11_here 57 = .ok (.iaload, 1) := by decide +kernel
theorem dX11_here_58 : decode cX11_here 58 = .ok (.goto 4, 3) := by decide +kernel
theorem dX11_here_61 : decode cX11_here 61 = .ok (.iconst (-1), 1) := by decide +kernel
theorem dX11_here_62 : decode cX11_here 62 = .ok (.ireturn, 1) := by decide +kernel
set_option maxHeartbeats 4000000 in
set_option maxRecDepth 20000 in
theorem en_X11_here {M : jw_Mem} {Q : Int32 → jw_Mem → Prop}  (h : jw_J 0 mX11_here 0 [(0, vr 11 0)] [] M Q) : jw_M 0 mX11_here [vr 11 0] M Q := by
  refine jw_M.of (by decide) (Nat.le_of_ble_eq_true rfl) ?_
  show jw_J 0 mX11_here 0 [(0, vr 11 0)] [] M Q
  exact jr_sub [0] rfl h
set_option maxHeartbeats 4000000 in
set_option maxRecDepth 20000 in
theorem bk_X11_here_0 {M : jw_Mem} {Q : Int32 → jw_Mem → Prop}  (h : (((M 11 0 14) ≤ (M 11 0 16) → (((M 11 0 14) ≤ (M 11 0 16) → Q (-1) M) ∧ (¬ (M 11 0 14) ≤ (M 11 0 16) → (vp_in (M 11 0 16) 240 ∧ Q (M 44 0 ((M 11 0 16) : Int32).toNatClampNeg) M)))) ∧ (¬ (M 11 0 14) ≤ (M 11 0 16) → (vp_in (M 11 0 16) 240 ∧ ((¬ (M 44 0 ((M 11 0 16) : Int32).toNatClampNeg) = 32 → (((M 11 0 14) ≤ (M 11 0 16) → Q (-1) M) ∧ (¬ (M 11 0 14) ≤ (M 11 0 16) → (vp_in (M 11 0 16) 240 ∧ Q (M 44 0 ((M 11 0 16) : Int32).toNatClampNeg) M)))) ∧ ((M 44 0 ((M 11 0 16) : Int32).toNatClampNeg) = 32 → (∀ M1 : jw_Mem, M1 = jw_up M 11 0 16 ((M 11 0 16) + 1) → jw_J 0 mX11_here 0 [(0, vr 11 0)] [] M1 Q))))))) : jw_J 0 mX11_here 0 [(0, vr 11 0)] [] M Q := by
  refine jr_aload_n (pc := 0) dX11_here_0 rfl 0 rfl ?_
  refine jr_get (pc := 1) (v := vi (M 11 0 16)) fg_X11_116 (by decide) rfl dX11_here_1 ?_
  refine jr_aload_n (pc := 4) dX11_here_4 rfl 0 rfl ?_
  refine jr_get (pc := 5) (v := vi (M 11 0 14)) fg_X11_112 (by decide) rfl dX11_here_5 ?_
  refine jr_icmp_ge (pc := 8) (tgt := 38) dX11_here_8 (by decide) (fun c => ?_) (fun c => ?_)
  · replace h := h.1 c
    refine jr_aload_n (pc := 38) dX11_here_38 rfl 0 rfl ?_
    refine jr_get (pc := 39) (v := vi (M 11 0 16)) fg_X11_116 (by decide) rfl dX11_here_39 ?_
    refine jr_aload_n (pc := 42) dX11_here_42 rfl 0 rfl ?_
    refine jr_get (pc := 43) (v := vi (M 11 0 14)) fg_X11_112 (by decide) rfl dX11_here_43 ?_
    refine jr_icmp_ge (pc := 46) (tgt := 61) dX11_here_46 (by decide) (fun c => ?_) (fun c => ?_)
    · replace h := h.1 c
      refine jr_iconst (pc := 61) (v := (-1)) dX11_here_61 (by decide) ?_
      exact jr_iret (pc := 62) rfl dX11_here_62 h
    · replace h := h.2 c
      refine jr_aload_n (pc := 49) dX11_here_49 rfl 0 rfl ?_
      refine jr_get (pc := 50) (v := vr 44 0) fg_X11_34 (by decide) rfl dX11_here_50 ?_
      refine jr_aload_n (pc := 53) dX11_here_53 rfl 0 rfl ?_
      refine jr_get (pc := 54) (v := vi (M 11 0 16)) fg_X11_116 (by decide) rfl dX11_here_54 ?_
      refine jr_iald (pc := 57) ⟨rfl, (by decide)⟩ h.1 dX11_here_57 ?_
      replace h := h.2
      refine jr_goto (pc := 58) (tgt := 62) dX11_here_58 (by decide) ?_
      exact jr_iret (pc := 62) rfl dX11_here_62 h
  · replace h := h.2 c
    refine jr_aload_n (pc := 11) dX11_here_11 rfl 0 rfl ?_
    refine jr_get (pc := 12) (v := vr 44 0) fg_X11_34 (by decide) rfl dX11_here_12 ?_
    refine jr_aload_n (pc := 15) dX11_here_15 rfl 0 rfl ?_
    refine jr_get (pc := 16) (v := vi (M 11 0 16)) fg_X11_116 (by decide) rfl dX11_here_16 ?_
    refine jr_iald (pc := 19) ⟨rfl, (by decide)⟩ h.1 dX11_here_19 ?_
    replace h := h.2
    refine jr_bipush (pc := 20) (v := 32) dX11_here_20 (by decide) ?_
    refine jr_icmp_ne (pc := 22) (tgt := 38) dX11_here_22 (by decide) (fun c => ?_) (fun c => ?_)
    · replace h := h.1 c
      refine jr_aload_n (pc := 38) dX11_here_38 rfl 0 rfl ?_
      refine jr_get (pc := 39) (v := vi (M 11 0 16)) fg_X11_116 (by decide) rfl dX11_here_39 ?_
      refine jr_aload_n (pc := 42) dX11_here_42 rfl 0 rfl ?_
      refine jr_get (pc := 43) (v := vi (M 11 0 14)) fg_X11_112 (by decide) rfl dX11_here_43 ?_
      refine jr_icmp_ge (pc := 46) (tgt := 61) dX11_here_46 (by decide) (fun c => ?_) (fun c => ?_)
      · replace h := h.1 c
        refine jr_iconst (pc := 61) (v := (-1)) dX11_here_61 (by decide) ?_
        exact jr_iret (pc := 62) rfl dX11_here_62 h
      · replace h := h.2 c
        refine jr_aload_n (pc := 49) dX11_here_49 rfl 0 rfl ?_
        refine jr_get (pc := 50) (v := vr 44 0) fg_X11_34 (by decide) rfl dX11_here_50 ?_
        refine jr_aload_n (pc := 53) dX11_here_53 rfl 0 rfl ?_
        refine jr_get (pc := 54) (v := vi (M 11 0 16)) fg_X11_116 (by decide) rfl dX11_here_54 ?_
        refine jr_iald (pc := 57) ⟨rfl, (by decide)⟩ h.1 dX11_here_57 ?_
        replace h := h.2
        refine jr_goto (pc := 58) (tgt := 62) dX11_here_58 (by decide) ?_
        exact jr_iret (pc := 62) rfl dX11_here_62 h
    · replace h := h.2 c
      refine jr_aload_n (pc := 25) dX11_here_25 rfl 0 rfl ?_
      refine jr_dup_r (pc := 26) dX11_here_26 ?_
      refine jr_get (pc := 27) (v := vi (M 11 0 16)) fg_X11_116 (by decide) rfl dX11_here_27 ?_
      refine jr_iconst (pc := 30) (v := 1) dX11_here_30 (by decide) ?_
      refine jr_iadd (pc := 31) dX11_here_31 ?_
      refine jr_put (pc := 32) fp_X11_116 (by decide) (Or.inl ⟨_, _, _, rfl, by decide +kernel⟩) dX11_here_32 ?_
      replace h := h _ rfl
      generalize jw_up M 11 0 16 ((M 11 0 16) + 1) = M1 at h ⊢
      refine jr_goto (pc := 35) (tgt := 0) dX11_here_35 (by decide) ?_
      exact jr_sub [0] rfl h
theorem dX11_fails_0 : decode cX11_fails 0 = .ok (.aload_n 0, 1) := by decide +kernel
theorem dX11_fails_1 : decode cX11_fails 1 = .ok (.iload_n 2, 1) := by decide +kernel
theorem dX11_fails_2 : decode cX11_fails 2 = .ok (.putfield 37, 3) := by decide +kernel
theorem dX11_fails_5 : decode cX11_fails 5 = .ok (.iload_n 1, 1) := by decide +kernel
theorem dX11_fails_6 : decode cX11_fails 6 = .ok (.ireturn, 1) := by decide +kernel
set_option maxHeartbeats 4000000 in
set_option maxRecDepth 20000 in
theorem en_X11_fails {a1 : Int32} {a2 : Int32} {M : jw_Mem} {Q : Int32 → jw_Mem → Prop}  (h : (∀ M1 : jw_Mem, M1 = jw_up M 11 0 15 a2 → Q a1 M1)) : jw_M 0 mX11_fails [vr 11 0, vi a1, vi a2] M Q := by
  refine jw_M.of (by decide) (Nat.le_of_ble_eq_true rfl) ?_
  show jw_J 0 mX11_fails 0 [(0, vr 11 0), (1, vi a1), (2, vi a2)] [] M Q
  refine jr_aload_n (pc := 0) dX11_fails_0 rfl 0 rfl ?_
  refine jr_iload_n (pc := 1) dX11_fails_1 rfl 2 rfl ?_
  refine jr_put (pc := 2) fp_X11_37 (by decide) (Or.inl ⟨_, _, _, rfl, by decide +kernel⟩) dX11_fails_2 ?_
  replace h := h _ rfl
  generalize jw_up M 11 0 15 a2 = M1 at h ⊢
  refine jr_iload_n (pc := 5) dX11_fails_5 rfl 1 rfl ?_
  exact jr_iret (pc := 6) rfl dX11_fails_6 h
theorem dX11_takeNumber_0 : decode cX11_takeNumber 0 = .ok (.aload_n 0, 1) := by decide +kernel
theorem dX11_takeNumber_1 : decode cX11_takeNumber 1 = .ok (.invokevirtual 119, 3) := by decide +kernel
theorem dX11_takeNumber_4 : decode cX11_takeNumber 4 = .ok (.istore_n 3, 1) := by decide +kernel
theorem dX11_takeNumber_5 : decode cX11_takeNumber 5 = .ok (.iload_n 3, 1) := by decide +kernel
theorem dX11_takeNumber_6 : decode cX11_takeNumber 6 = .ok (.i2l, 1) := by decide +kernel
theorem dX11_takeNumber_7 : decode cX11_takeNumber 7 = .ok (.ldc2_w 123, 3) := by decide +kernel
theorem dX11_takeNumber_10 : decode cX11_takeNumber 10 = .ok (.ldc2_w 125, 3) := by decide +kernel
theorem dX11_takeNumber_13 : decode cX11_takeNumber 13 = .ok (.invokestatic 99, 3) := by decide +kernel
theorem dX11_takeNumber_16 : decode cX11_takeNumber 16 = .ok (.ifCond .ne 13, 3) := by decide +kernel
theorem dX11_takeNumber_19 : decode cX11_takeNumber 19 = .ok (.aload_n 0, 1) := by decide +kernel
theorem dX11_takeNumber_20 : decode cX11_takeNumber 20 = .ok (.iconst 1, 1) := by decide +kernel
theorem dX11_takeNumber_21 : decode cX11_takeNumber 21 = .ok (.aload_n 0, 1) := by decide +kernel
theorem dX11_takeNumber_22 : decode cX11_takeNumber 22 = .ok (.getfield 116, 3) := by decide +kernel
theorem dX11_takeNumber_25 : decode cX11_takeNumber 25 = .ok (.invokevirtual 127, 3) := by decide +kernel
theorem dX11_takeNumber_28 : decode cX11_takeNumber 28 = .ok (.ireturn, 1) := by decide +kernel
theorem dX11_takeNumber_29 : decode cX11_takeNumber 29 = .ok (.aload_n 0, 1) := by decide +kernel
theorem dX11_takeNumber_30 : decode cX11_takeNumber 30 = .ok (.aload_n 0, 1) := by decide +kernel
theorem dX11_takeNumber_31 : decode cX11_takeNumber 31 = .ok (.getfield 116, 3) := by decide +kernel
theorem dX11_takeNumber_34 : decode cX11_takeNumber 34 = .ok (.putfield 131, 3) := by decide +kernel
theorem dX11_takeNumber_37 : decode cX11_takeNumber 37 = .ok (.aload_n 0, 1) := by decide +kernel
theorem dX11_takeNumber_38 : decode cX11_takeNumber 38 = .ok (.iconst 0, 1) := by decide +kernel
theorem dX11_takeNumber_39 : decode cX11_takeNumber 39 = .ok (.putfield 134, 3) := by decide +kernel
theorem dX11_takeNumber_42 : decode cX11_takeNumber 42 = .ok (.aload_n 0, 1) := by decide +kernel
theorem dX11_takeNumber_43 : decode cX11_takeNumber 43 = .ok (.getfield 116, 3) := by decide +kernel
theorem dX11_takeNumber_46 : decode cX11_takeNumber 46 = .ok (.aload_n 0, 1) := by decide +kernel
theorem dX11_takeNumber_47 : decode cX11_takeNumber 47 = .ok (.getfield 112, 3) := by decide +kernel
theorem dX11_takeNumber_50 : decode cX11_takeNumber 50 = .ok (.if_icmp .ge 79, 3) := by decide +kernel
theorem dX11_takeNumber_53 : decode cX11_takeNumber 53 = .ok (.aload_n 0, 1) := by decide +kernel
theorem dX11_takeNumber_54 : decode cX11_takeNumber 54 = .ok (.getfield 34, 3) := by decide +kernel
theorem dX11_takeNumber_57 : decode cX11_takeNumber 57 = .ok (.aload_n 0, 1) := by decide +kernel
theorem dX11_takeNumber_58 : decode cX11_takeNumber 58 = .ok (.getfield 116, 3) := by decide +kernel
theorem dX11_takeNumber_61 : decode cX11_takeNumber 61 = .ok (.iaload, 1) := by decide +kernel
theorem dX11_takeNumber_62 : decode cX11_takeNumber 62 = .ok (.i2l, 1) := by decide +kernel
theorem dX11_takeNumber_63 : decode cX11_takeNumber 63 = .ok (.ldc2_w 123, 3) := by decide +kernel
theorem dX11_takeNumber_66 : decode cX11_takeNumber 66 = .ok (.ldc2_w 125, 3) := by decide +kernel
theorem dX11_takeNumber_69 : decode cX11_takeNumber 69 = .ok (.invokestatic 99, 3) := by decide +kernel
theorem dX11_takeNumber_72 : decode cX11_takeNumber 72 = .ok (.ifCond .eq 57, 3) := by decide +kernel
theorem dX11_takeNumber_75 : decode cX11_takeNumber 75 = .ok (.aload_n 0, 1) := by decide +kernel
theorem dX11_takeNumber_76 : decode cX11_takeNumber 76 = .ok (.aload_n 0, 1) := by decide +kernel
theorem dX11_takeNumber_77 : decode cX11_takeNumber 77 = .ok (.getfield 134, 3) := by decide +kernel
theorem dX11_takeNumber_80 : decode cX11_takeNumber 80 = .ok (.sipush 10000, 3) := by decide +kernel
theorem dX11_takeNumber_83 : decode cX11_takeNumber 83 = .ok (.if_icmp .le 10, 3) := by decide +kernel
theorem dX11_takeNumber_86 : decode cX11_takeNumber 86 = .ok (.aload_n 0, 1) := by decide +kernel
theorem dX11_takeNumber_87 : decode cX11_takeNumber 87 = .ok (.getfield 134, 3) := by decide +kernel
theorem dX11_takeNumber_90 : decode cX11_takeNumber 90 = .ok (.goto 23, 3) := by decide +kernel
theorem dX11_takeNumber_93 : decode cX11_takeNumber 93 = .ok (.bipush 10, 2) := by decide +kernel
theorem dX11_takeNumber_95 : decode cX11_takeNumber 95 = .ok (.aload_n 0, 1) := by decide +kernel
theorem dX11_takeNumber_96 : decode cX11_takeNumber 96 = .ok (.getfield 134, 3) := by decide +kernel
theorem dX11_takeNumber_99 : decode cX11_takeNumber 99 = .ok (.imul, 1) := by decide +kernel
theorem dX11_takeNumber_100 : decode cX11_takeNumber 100 = .ok (.aload_n 0, 1) := by decide +kernel
theorem dX11_takeNumber_101 : decode cX11_takeNumber 101 = .ok (.getfield 34, 3) := by decide +kernel
theorem dX11_takeNumber_104 : decode cX11_takeNumber 104 = .ok (.aload_n 0, 1) := by decide +kernel
theorem dX11_takeNumber_105 : decode cX11_takeNumber 105 = .ok (.getfield 116, 3) := by decide +kernel
theorem dX11_takeNumber_108 : decode cX11_takeNumber 108 = .ok (.iaload, 1) := by decide +kernel
theorem dX11_takeNumber_109 : decode cX11_takeNumber 109 = .ok (.iadd, 1) := by decide +kernel
theorem dX11_takeNumber_110 : decode cX11_takeNumber 110 = .ok (.bipush 48, 2) := by decide +kernel
theorem dX11_takeNumber_112 : decode cX11_takeNumber 112 = .ok (.isub, 1) := by decide +kernel
theorem dX11_takeNumber_113 : decode cX11_takeNumber 113 = .ok (.putfield 134, 3) := by decide +kernel
theorem dX11_takeNumber_116 : decode cX11_takeNumber 116 = .ok (.aload_n 0, 1) := by decide +kernel
theorem dX11_takeNumber_117 : decode cX11_takeNumber 117 = .ok (.dup, 1) := by decide +kernel
theorem dX11_takeNumber_118 : decode cX11_takeNumber 118 = .ok (.getfield 116, 3) := by decide +kernel
theorem dX11_takeNumber_121 : decode cX11_takeNumber 121 = .ok (.iconst 1, 1) := by decide +kernel
theorem dX11_takeNumber_122 : decode cX11_takeNumber 122 = .ok (.iadd, 1) := by decide +kernel
theorem dX11_takeNumber_123 : decode cX11_takeNumber 123 = .ok (.putfield 116, 3) := by decide +kernel
theorem dX11_takeNumber_126 : decode cX11_takeNumber 126 = .ok (.goto (-84), 3) := by decide +kernel
theorem dX11_takeNumber_129 : decode cX11_takeNumber 129 = .ok (.aload_n 0, 1) := by decide +kernel
theorem dX11_takeNumber_130 : decode cX11_takeNumber 130 = .ok (.getfield 116, 3) := by decide +kernel
theorem dX11_takeNumber_133 : decode cX11_takeNumber 133 = .ok (.aload_n 0, 1) := by decide +kernel
theorem dX11_takeNumber_134 : decode cX11_takeNumber 134 = .ok (.getfield 131, 3) := by decide +kernel
theorem dX11_takeNumber_137 : decode cX11_takeNumber 137 = .ok (.isub, 1) := by decide +kernel
theorem dX11_takeNumber_138 : decode cX11_takeNumber 138 = .ok (.iconst 3, 1) := by decide +kernel
theorem dX11_takeNumber_139 : decode cX11_takeNumber 139 = .ok (.if_icmp .gt 18, 3) := by decide +kernel
theorem dX11_takeNumber_142 : decode cX11_takeNumber 142 = .ok (.aload_n 0, 1) := by decide +kernel
theorem dX11_takeNumber_143 : decode cX11_takeNumber 143 = .ok (.getfield 134, 3) := by decide +kernel
theorem dX11_takeNumber_146 : decode cX11_takeNumber 146 = .ok (.i2l, 1) := by decide +kernel
theorem dX11_takeNumber_147 : decode cX11_takeNumber 147 = .ok (.iload_n 1, 1) := by decide +kernel
theorem dX11_takeNumber_148 : decode cX11_takeNumber 148 = .ok (.i2l, 1) := by decide +kernel
theorem dX11_takeNumber_149 : decode cX11_takeNumber 149 = .ok (.iload_n 2, 1) := by decide +kernel
theorem dX11_takeNumber_150 : decode cX11_takeNumber 150 = .ok (.i2l, 1) := by decide +kernel
theorem dX11_takeNumber_151 : decode cX11_takeNumber 151 = .ok (.invokestatic 99, 3) := by decide +kernel
theorem dX11_takeNumber_154 : decode cX11_takeNumber 154 = .ok (.ifCond .ne 15, 3) := by decide +kernel
theorem dX11_takeNumber_157 : decode cX11_takeNumber 157 = .ok (.aload_n 0, 1) := by decide +kernel
theorem dX11_takeNumber_158 : decode cX11_takeNumber 158 = .ok (.iconst 2, 1) := by decide +kernel
theorem dX11_takeNumber_159 : decode cX11_takeNumber 159 = .ok (.aload_n 0, 1) := by decide +kernel
theorem dX11_takeNumber_160 : decode cX11_takeNumber 160 = .ok (.getfield 131, 3) := by decide +kernel
theorem dX11_takeNumber_163 : decode cX11_takeNumber 163 = .ok (.invokevirtual 127, 3) := by decide +kernel
theorem dX11_takeNumber_166 : decode cX11_takeNumber 166 = .ok (.goto 4, 3) := by decide +kernel
theorem dX11_takeNumber_169 : decode cX11_takeNumber 169 = .ok (.iconst 0, 1) := by decide +kernel
theorem dX11_takeNumber_170 : decode cX11_takeNumber 170 = .ok (.ireturn, 1) := by decide +kernel
set_option maxHeartbeats 4000000 in
set_option maxRecDepth 20000 in
theorem en_X11_takeNumber {a1 : Int32} {a2 : Int32} {M : jw_Mem} {Q : Int32 → jw_Mem → Prop}  (h : (jw_M 0 mX11_here [vr 11 0] M (fun x1 M2 => (jw_M 0 mX11_in [vl (x1.toInt64), vl 48, vl 57] M2 (fun x3 M4 => ((¬ x3 = 0 → (∀ M5 : jw_Mem, M5 = jw_up M4 11 0 18 (M4 11 0 16) → (∀ M6 : jw_Mem, M6 = jw_up M5 11 0 17 0 → jw_J 1 mX11_takeNumber 42 [(0, vr 11 0), (1, vi a1), (2, vi a2)] [] M6 Q))) ∧ (x3 = 0 → (jw_M 0 mX11_fails [vr 11 0, vi 1, vi (M4 11 0 16)] M4 (fun x7 M8 => Q x7 M8))))))))) : jw_M 1 mX11_takeNumber [vr 11 0, vi a1, vi a2] M Q := by
  refine jw_M.of (by decide) (Nat.le_of_ble_eq_true rfl) ?_
  show jw_J 1 mX11_takeNumber 0 [(0, vr 11 0), (1, vi a1), (2, vi a2)] [] M Q
  refine jr_aload_n (pc := 0) dX11_takeNumber_0 rfl 0 rfl ?_
  refine jr_callV (pc := 1) (d' := 0) (mt' := mX11_here) (k := 11) (n := 0) (As := []) (st := []) fc_X11_119 (by decide) (by decide) (Nat.le_of_ble_eq_true rfl) rfl dX11_takeNumber_1 (jw_M.mono h (fun x1 M2 h => ?_))
  show jw_J 1 mX11_takeNumber 4 [(0, vr 11 0), (1, vi a1), (2, vi a2)] [vi x1] M2 Q
  refine jr_istore_n (pc := 4) (lv' := [(3, vi x1), (0, vr 11 0), (1, vi a1), (2, vi a2)]) dX11_takeNumber_4 rfl (by decide) rfl ?_
  refine jr_iload_n (pc := 5) dX11_takeNumber_5 rfl 0 rfl ?_
  refine jr_i2l (pc := 6) dX11_takeNumber_6 ?_
  refine jr_ldc2 (pc := 7) fk_X11_123 dX11_takeNumber_7 ?_
  refine jr_ldc2 (pc := 10) fk_X11_125 dX11_takeNumber_10 ?_
  refine jr_callS (pc := 13) (d' := 0) (mt' := mX11_in) (As := [vl (x1.toInt64), vl 48, vl 57]) (st := []) fc_X11_99 (by decide) (Nat.le_of_ble_eq_true rfl) rfl dX11_takeNumber_13 (jw_M.mono h (fun x3 M4 h => ?_))
  show jw_J 1 mX11_takeNumber 16 [(3, vi x1), (0, vr 11 0), (1, vi a1), (2, vi a2)] [vi x3] M4 Q
  refine jr_if_ne (pc := 16) (tgt := 29) dX11_takeNumber_16 (by decide) (fun c => ?_) (fun c => ?_)
  · replace h := h.1 c
    refine jr_aload_n (pc := 29) dX11_takeNumber_29 rfl 1 rfl ?_
    refine jr_aload_n (pc := 30) dX11_takeNumber_30 rfl 1 rfl ?_
    refine jr_get (pc := 31) (v := vi (M4 11 0 16)) fg_X11_116 (by decide) rfl dX11_takeNumber_31 ?_
    refine jr_put (pc := 34) fp_X11_131 (by decide) (Or.inl ⟨_, _, _, rfl, by decide +kernel⟩) dX11_takeNumber_34 ?_
    replace h := h _ rfl
    generalize jw_up M4 11 0 18 (M4 11 0 16) = M5 at h ⊢
    refine jr_aload_n (pc := 37) dX11_takeNumber_37 rfl 1 rfl ?_
    refine jr_iconst (pc := 38) (v := 0) dX11_takeNumber_38 (by decide) ?_
    refine jr_put (pc := 39) fp_X11_134 (by decide) (Or.inl ⟨_, _, _, rfl, by decide +kernel⟩) dX11_takeNumber_39 ?_
    replace h := h _ rfl
    generalize jw_up M5 11 0 17 0 = M6 at h ⊢
    exact jr_sub [1, 2, 3] rfl h
  · replace h := h.2 c
    refine jr_aload_n (pc := 19) dX11_takeNumber_19 rfl 1 rfl ?_
    refine jr_iconst (pc := 20) (v := 1) dX11_takeNumber_20 (by decide) ?_
    refine jr_aload_n (pc := 21) dX11_takeNumber_21 rfl 1 rfl ?_
    refine jr_get (pc := 22) (v := vi (M4 11 0 16)) fg_X11_116 (by decide) rfl dX11_takeNumber_22 ?_
    refine jr_callV (pc := 25) (d' := 0) (mt' := mX11_fails) (k := 11) (n := 0) (As := [vi 1, vi (M4 11 0 16)]) (st := []) fc_X11_127 (by decide) (by decide) (Nat.le_of_ble_eq_true rfl) rfl dX11_takeNumber_25 (jw_M.mono h (fun x7 M8 h => ?_))
    show jw_J 1 mX11_takeNumber 28 [(3, vi x1), (0, vr 11 0), (1, vi a1), (2, vi a2)] [vi x7] M8 Q
    exact jr_iret (pc := 28) rfl dX11_takeNumber_28 h
set_option maxHeartbeats 4000000 in
set_option maxRecDepth 20000 in
theorem bk_X11_takeNumber_42 {v1 : Int32} {v2 : Int32} {M : jw_Mem} {Q : Int32 → jw_Mem → Prop}  (h : (((M 11 0 14) ≤ (M 11 0 16) → ((3 < ((M 11 0 16) - (M 11 0 18)) → (jw_M 0 mX11_fails [vr 11 0, vi 2, vi (M 11 0 18)] M (fun x9 M10 => Q x9 M10))) ∧ (¬ 3 < ((M 11 0 16) - (M 11 0 18)) → (jw_M 0 mX11_in [vl ((M 11 0 17).toInt64), vl (v1.toInt64), vl (v2.toInt64)] M (fun x11 M12 => ((¬ x11 = 0 → Q 0 M12) ∧ (x11 = 0 → (jw_M 0 mX11_fails [vr 11 0, vi 2, vi (M12 11 0 18)] M12 (fun x13 M14 => Q x13 M14))))))))) ∧ (¬ (M 11 0 14) ≤ (M 11 0 16) → (vp_in (M 11 0 16) 240 ∧ (jw_M 0 mX11_in [vl ((M 44 0 ((M 11 0 16) : Int32).toNatClampNeg).toInt64), vl 48, vl 57] M (fun x15 M16 => ((x15 = 0 → ((3 < ((M16 11 0 16) - (M16 11 0 18)) → (jw_M 0 mX11_fails [vr 11 0, vi 2, vi (M16 11 0 18)] M16 (fun x17 M18 => Q x17 M18))) ∧ (¬ 3 < ((M16 11 0 16) - (M16 11 0 18)) → (jw_M 0 mX11_in [vl ((M16 11 0 17).toInt64), vl (v1.toInt64), vl (v2.toInt64)] M16 (fun x19 M20 => ((¬ x19 = 0 → Q 0 M20) ∧ (x19 = 0 → (jw_M 0 mX11_fails [vr 11 0, vi 2, vi (M20 11 0 18)] M20 (fun x21 M22 => Q x21 M22))))))))) ∧ (¬ x15 = 0 → (((M16 11 0 17) ≤ 10000 → (vp_in (M16 11 0 16) 240 ∧ (∀ M23 : jw_Mem, M23 = jw_up M16 11 0 17 (((10 * (M16 11 0 17)) + (M16 44 0 ((M16 11 0 16) : Int32).toNatClampNeg)) - 48) → (∀ M24 : jw_Mem, M24 = jw_up M23 11 0 16 ((M23 11 0 16) + 1) → jw_J 1 mX11_takeNumber 42 [(0, vr 11 0), (1, vi v1), (2, vi v2)] [] M24 Q)))) ∧ (¬ (M16 11 0 17) ≤ 10000 → (∀ M25 : jw_Mem, M25 = jw_up M16 11 0 17 (M16 11 0 17) → (∀ M26 : jw_Mem, M26 = jw_up M25 11 0 16 ((M25 11 0 16) + 1) → jw_J 1 mX11_takeNumber 42 [(0, vr 11 0), (1, vi v1), (2, vi v2)] [] M26 Q)))))))))))) : jw_J 1 mX11_takeNumber 42 [(0, vr 11 0), (1, vi v1), (2, vi v2)] [] M Q := by
  refine jr_aload_n (pc := 42) dX11_takeNumber_42 rfl 0 rfl ?_
  refine jr_get (pc := 43) (v := vi (M 11 0 16)) fg_X11_116 (by decide) rfl dX11_takeNumber_43 ?_
  refine jr_aload_n (pc := 46) dX11_takeNumber_46 rfl 0 rfl ?_
  refine jr_get (pc := 47) (v := vi (M 11 0 14)) fg_X11_112 (by decide) rfl dX11_takeNumber_47 ?_
  refine jr_icmp_ge (pc := 50) (tgt := 129) dX11_takeNumber_50 (by decide) (fun c => ?_) (fun c => ?_)
  · replace h := h.1 c
    refine jr_aload_n (pc := 129) dX11_takeNumber_129 rfl 0 rfl ?_
    refine jr_get (pc := 130) (v := vi (M 11 0 16)) fg_X11_116 (by decide) rfl dX11_takeNumber_130 ?_
    refine jr_aload_n (pc := 133) dX11_takeNumber_133 rfl 0 rfl ?_
    refine jr_get (pc := 134) (v := vi (M 11 0 18)) fg_X11_131 (by decide) rfl dX11_takeNumber_134 ?_
    refine jr_isub (pc := 137) dX11_takeNumber_137 ?_
    refine jr_iconst (pc := 138) (v := 3) dX11_takeNumber_138 (by decide) ?_
    refine jr_icmp_gt (pc := 139) (tgt := 157) dX11_takeNumber_139 (by decide) (fun c => ?_) (fun c => ?_)
    · replace h := h.1 c
      refine jr_aload_n (pc := 157) dX11_takeNumber_157 rfl 0 rfl ?_
      refine jr_iconst (pc := 158) (v := 2) dX11_takeNumber_158 (by decide) ?_
      refine jr_aload_n (pc := 159) dX11_takeNumber_159 rfl 0 rfl ?_
      refine jr_get (pc := 160) (v := vi (M 11 0 18)) fg_X11_131 (by decide) rfl dX11_takeNumber_160 ?_
      refine jr_callV (pc := 163) (d' := 0) (mt' := mX11_fails) (k := 11) (n := 0) (As := [vi 2, vi (M 11 0 18)]) (st := []) fc_X11_127 (by decide) (by decide) (Nat.le_of_ble_eq_true rfl) rfl dX11_takeNumber_163 (jw_M.mono h (fun x9 M10 h => ?_))
      show jw_J 1 mX11_takeNumber 166 [(0, vr 11 0), (1, vi v1), (2, vi v2)] [vi x9] M10 Q
      refine jr_goto (pc := 166) (tgt := 170) dX11_takeNumber_166 (by decide) ?_
      exact jr_iret (pc := 170) rfl dX11_takeNumber_170 h
    · replace h := h.2 c
      refine jr_aload_n (pc := 142) dX11_takeNumber_142 rfl 0 rfl ?_
      refine jr_get (pc := 143) (v := vi (M 11 0 17)) fg_X11_134 (by decide) rfl dX11_takeNumber_143 ?_
      refine jr_i2l (pc := 146) dX11_takeNumber_146 ?_
      refine jr_iload_n (pc := 147) dX11_takeNumber_147 rfl 1 rfl ?_
      refine jr_i2l (pc := 148) dX11_takeNumber_148 ?_
      refine jr_iload_n (pc := 149) dX11_takeNumber_149 rfl 2 rfl ?_
      refine jr_i2l (pc := 150) dX11_takeNumber_150 ?_
      refine jr_callS (pc := 151) (d' := 0) (mt' := mX11_in) (As := [vl ((M 11 0 17).toInt64), vl (v1.toInt64), vl (v2.toInt64)]) (st := []) fc_X11_99 (by decide) (Nat.le_of_ble_eq_true rfl) rfl dX11_takeNumber_151 (jw_M.mono h (fun x11 M12 h => ?_))
      show jw_J 1 mX11_takeNumber 154 [(0, vr 11 0), (1, vi v1), (2, vi v2)] [vi x11] M12 Q
      refine jr_if_ne (pc := 154) (tgt := 169) dX11_takeNumber_154 (by decide) (fun c => ?_) (fun c => ?_)
      · replace h := h.1 c
        refine jr_iconst (pc := 169) (v := 0) dX11_takeNumber_169 (by decide) ?_
        exact jr_iret (pc := 170) rfl dX11_takeNumber_170 h
      · replace h := h.2 c
        refine jr_aload_n (pc := 157) dX11_takeNumber_157 rfl 0 rfl ?_
        refine jr_iconst (pc := 158) (v := 2) dX11_takeNumber_158 (by decide) ?_
        refine jr_aload_n (pc := 159) dX11_takeNumber_159 rfl 0 rfl ?_
        refine jr_get (pc := 160) (v := vi (M12 11 0 18)) fg_X11_131 (by decide) rfl dX11_takeNumber_160 ?_
        refine jr_callV (pc := 163) (d' := 0) (mt' := mX11_fails) (k := 11) (n := 0) (As := [vi 2, vi (M12 11 0 18)]) (st := []) fc_X11_127 (by decide) (by decide) (Nat.le_of_ble_eq_true rfl) rfl dX11_takeNumber_163 (jw_M.mono h (fun x13 M14 h => ?_))
        show jw_J 1 mX11_takeNumber 166 [(0, vr 11 0), (1, vi v1), (2, vi v2)] [vi x13] M14 Q
        refine jr_goto (pc := 166) (tgt := 170) dX11_takeNumber_166 (by decide) ?_
        exact jr_iret (pc := 170) rfl dX11_takeNumber_170 h
  · replace h := h.2 c
    refine jr_aload_n (pc := 53) dX11_takeNumber_53 rfl 0 rfl ?_
    refine jr_get (pc := 54) (v := vr 44 0) fg_X11_34 (by decide) rfl dX11_takeNumber_54 ?_
    refine jr_aload_n (pc := 57) dX11_takeNumber_57 rfl 0 rfl ?_
    refine jr_get (pc := 58) (v := vi (M 11 0 16)) fg_X11_116 (by decide) rfl dX11_takeNumber_58 ?_
    refine jr_iald (pc := 61) ⟨rfl, (by decide)⟩ h.1 dX11_takeNumber_61 ?_
    replace h := h.2
    refine jr_i2l (pc := 62) dX11_takeNumber_62 ?_
    refine jr_ldc2 (pc := 63) fk_X11_123 dX11_takeNumber_63 ?_
    refine jr_ldc2 (pc := 66) fk_X11_125 dX11_takeNumber_66 ?_
    refine jr_callS (pc := 69) (d' := 0) (mt' := mX11_in) (As := [vl ((M 44 0 ((M 11 0 16) : Int32).toNatClampNeg).toInt64), vl 48, vl 57]) (st := []) fc_X11_99 (by decide) (Nat.le_of_ble_eq_true rfl) rfl dX11_takeNumber_69 (jw_M.mono h (fun x15 M16 h => ?_))
    show jw_J 1 mX11_takeNumber 72 [(0, vr 11 0), (1, vi v1), (2, vi v2)] [vi x15] M16 Q
    refine jr_if_eq (pc := 72) (tgt := 129) dX11_takeNumber_72 (by decide) (fun c => ?_) (fun c => ?_)
    · replace h := h.1 c
      refine jr_aload_n (pc := 129) dX11_takeNumber_129 rfl 0 rfl ?_
      refine jr_get (pc := 130) (v := vi (M16 11 0 16)) fg_X11_116 (by decide) rfl dX11_takeNumber_130 ?_
      refine jr_aload_n (pc := 133) dX11_takeNumber_133 rfl 0 rfl ?_
      refine jr_get (pc := 134) (v := vi (M16 11 0 18)) fg_X11_131 (by decide) rfl dX11_takeNumber_134 ?_
      refine jr_isub (pc := 137) dX11_takeNumber_137 ?_
      refine jr_iconst (pc := 138) (v := 3) dX11_takeNumber_138 (by decide) ?_
      refine jr_icmp_gt (pc := 139) (tgt := 157) dX11_takeNumber_139 (by decide) (fun c => ?_) (fun c => ?_)
      · replace h := h.1 c
        refine jr_aload_n (pc := 157) dX11_takeNumber_157 rfl 0 rfl ?_
        refine jr_iconst (pc := 158) (v := 2) dX11_takeNumber_158 (by decide) ?_
        refine jr_aload_n (pc := 159) dX11_takeNumber_159 rfl 0 rfl ?_
        refine jr_get (pc := 160) (v := vi (M16 11 0 18)) fg_X11_131 (by decide) rfl dX11_takeNumber_160 ?_
        refine jr_callV (pc := 163) (d' := 0) (mt' := mX11_fails) (k := 11) (n := 0) (As := [vi 2, vi (M16 11 0 18)]) (st := []) fc_X11_127 (by decide) (by decide) (Nat.le_of_ble_eq_true rfl) rfl dX11_takeNumber_163 (jw_M.mono h (fun x17 M18 h => ?_))
        show jw_J 1 mX11_takeNumber 166 [(0, vr 11 0), (1, vi v1), (2, vi v2)] [vi x17] M18 Q
        refine jr_goto (pc := 166) (tgt := 170) dX11_takeNumber_166 (by decide) ?_
        exact jr_iret (pc := 170) rfl dX11_takeNumber_170 h
      · replace h := h.2 c
        refine jr_aload_n (pc := 142) dX11_takeNumber_142 rfl 0 rfl ?_
        refine jr_get (pc := 143) (v := vi (M16 11 0 17)) fg_X11_134 (by decide) rfl dX11_takeNumber_143 ?_
        refine jr_i2l (pc := 146) dX11_takeNumber_146 ?_
        refine jr_iload_n (pc := 147) dX11_takeNumber_147 rfl 1 rfl ?_
        refine jr_i2l (pc := 148) dX11_takeNumber_148 ?_
        refine jr_iload_n (pc := 149) dX11_takeNumber_149 rfl 2 rfl ?_
        refine jr_i2l (pc := 150) dX11_takeNumber_150 ?_
        refine jr_callS (pc := 151) (d' := 0) (mt' := mX11_in) (As := [vl ((M16 11 0 17).toInt64), vl (v1.toInt64), vl (v2.toInt64)]) (st := []) fc_X11_99 (by decide) (Nat.le_of_ble_eq_true rfl) rfl dX11_takeNumber_151 (jw_M.mono h (fun x19 M20 h => ?_))
        show jw_J 1 mX11_takeNumber 154 [(0, vr 11 0), (1, vi v1), (2, vi v2)] [vi x19] M20 Q
        refine jr_if_ne (pc := 154) (tgt := 169) dX11_takeNumber_154 (by decide) (fun c => ?_) (fun c => ?_)
        · replace h := h.1 c
          refine jr_iconst (pc := 169) (v := 0) dX11_takeNumber_169 (by decide) ?_
          exact jr_iret (pc := 170) rfl dX11_takeNumber_170 h
        · replace h := h.2 c
          refine jr_aload_n (pc := 157) dX11_takeNumber_157 rfl 0 rfl ?_
          refine jr_iconst (pc := 158) (v := 2) dX11_takeNumber_158 (by decide) ?_
          refine jr_aload_n (pc := 159) dX11_takeNumber_159 rfl 0 rfl ?_
          refine jr_get (pc := 160) (v := vi (M20 11 0 18)) fg_X11_131 (by decide) rfl dX11_takeNumber_160 ?_
          refine jr_callV (pc := 163) (d' := 0) (mt' := mX11_fails) (k := 11) (n := 0) (As := [vi 2, vi (M20 11 0 18)]) (st := []) fc_X11_127 (by decide) (by decide) (Nat.le_of_ble_eq_true rfl) rfl dX11_takeNumber_163 (jw_M.mono h (fun x21 M22 h => ?_))
          show jw_J 1 mX11_takeNumber 166 [(0, vr 11 0), (1, vi v1), (2, vi v2)] [vi x21] M22 Q
          refine jr_goto (pc := 166) (tgt := 170) dX11_takeNumber_166 (by decide) ?_
          exact jr_iret (pc := 170) rfl dX11_takeNumber_170 h
    · replace h := h.2 c
      refine jr_aload_n (pc := 75) dX11_takeNumber_75 rfl 0 rfl ?_
      refine jr_aload_n (pc := 76) dX11_takeNumber_76 rfl 0 rfl ?_
      refine jr_get (pc := 77) (v := vi (M16 11 0 17)) fg_X11_134 (by decide) rfl dX11_takeNumber_77 ?_
      refine jr_sipush (pc := 80) (v := 10000) dX11_takeNumber_80 (by decide) ?_
      refine jr_icmp_le (pc := 83) (tgt := 93) dX11_takeNumber_83 (by decide) (fun c => ?_) (fun c => ?_)
      · replace h := h.1 c
        refine jr_bipush (pc := 93) (v := 10) dX11_takeNumber_93 (by decide) ?_
        refine jr_aload_n (pc := 95) dX11_takeNumber_95 rfl 0 rfl ?_
        refine jr_get (pc := 96) (v := vi (M16 11 0 17)) fg_X11_134 (by decide) rfl dX11_takeNumber_96 ?_
        refine jr_imul (pc := 99) dX11_takeNumber_99 ?_
        refine jr_aload_n (pc := 100) dX11_takeNumber_100 rfl 0 rfl ?_
        refine jr_get (pc := 101) (v := vr 44 0) fg_X11_34 (by decide) rfl dX11_takeNumber_101 ?_
        refine jr_aload_n (pc := 104) dX11_takeNumber_104 rfl 0 rfl ?_
        refine jr_get (pc := 105) (v := vi (M16 11 0 16)) fg_X11_116 (by decide) rfl dX11_takeNumber_105 ?_
        refine jr_iald (pc := 108) ⟨rfl, (by decide)⟩ h.1 dX11_takeNumber_108 ?_
        replace h := h.2
        refine jr_iadd (pc := 109) dX11_takeNumber_109 ?_
        refine jr_bipush (pc := 110) (v := 48) dX11_takeNumber_110 (by decide) ?_
        refine jr_isub (pc := 112) dX11_takeNumber_112 ?_
        refine jr_put (pc := 113) fp_X11_134 (by decide) (Or.inl ⟨_, _, _, rfl, by decide +kernel⟩) dX11_takeNumber_113 ?_
        replace h := h _ rfl
        generalize jw_up M16 11 0 17 (((10 * (M16 11 0 17)) + (M16 44 0 ((M16 11 0 16) : Int32).toNatClampNeg)) - 48) = M23 at h ⊢
        refine jr_aload_n (pc := 116) dX11_takeNumber_116 rfl 0 rfl ?_
        refine jr_dup_r (pc := 117) dX11_takeNumber_117 ?_
        refine jr_get (pc := 118) (v := vi (M23 11 0 16)) fg_X11_116 (by decide) rfl dX11_takeNumber_118 ?_
        refine jr_iconst (pc := 121) (v := 1) dX11_takeNumber_121 (by decide) ?_
        refine jr_iadd (pc := 122) dX11_takeNumber_122 ?_
        refine jr_put (pc := 123) fp_X11_116 (by decide) (Or.inl ⟨_, _, _, rfl, by decide +kernel⟩) dX11_takeNumber_123 ?_
        replace h := h _ rfl
        generalize jw_up M23 11 0 16 ((M23 11 0 16) + 1) = M24 at h ⊢
        refine jr_goto (pc := 126) (tgt := 42) dX11_takeNumber_126 (by decide) ?_
        exact jr_sub [0, 1, 2] rfl h
      · replace h := h.2 c
        refine jr_aload_n (pc := 86) dX11_takeNumber_86 rfl 0 rfl ?_
        refine jr_get (pc := 87) (v := vi (M16 11 0 17)) fg_X11_134 (by decide) rfl dX11_takeNumber_87 ?_
        refine jr_goto (pc := 90) (tgt := 113) dX11_takeNumber_90 (by decide) ?_
        refine jr_put (pc := 113) fp_X11_134 (by decide) (Or.inl ⟨_, _, _, rfl, by decide +kernel⟩) dX11_takeNumber_113 ?_
        replace h := h _ rfl
        generalize jw_up M16 11 0 17 (M16 11 0 17) = M25 at h ⊢
        refine jr_aload_n (pc := 116) dX11_takeNumber_116 rfl 0 rfl ?_
        refine jr_dup_r (pc := 117) dX11_takeNumber_117 ?_
        refine jr_get (pc := 118) (v := vi (M25 11 0 16)) fg_X11_116 (by decide) rfl dX11_takeNumber_118 ?_
        refine jr_iconst (pc := 121) (v := 1) dX11_takeNumber_121 (by decide) ?_
        refine jr_iadd (pc := 122) dX11_takeNumber_122 ?_
        refine jr_put (pc := 123) fp_X11_116 (by decide) (Or.inl ⟨_, _, _, rfl, by decide +kernel⟩) dX11_takeNumber_123 ?_
        replace h := h _ rfl
        generalize jw_up M25 11 0 16 ((M25 11 0 16) + 1) = M26 at h ⊢
        refine jr_goto (pc := 126) (tgt := 42) dX11_takeNumber_126 (by decide) ?_
        exact jr_sub [0, 1, 2] rfl h
theorem dX11_into_0 : decode cX11_into 0 = .ok (.aload_n 0, 1) := by decide +kernel
theorem dX11_into_1 : decode cX11_into 1 = .ok (.iload_n 3, 1) := by decide +kernel
theorem dX11_into_2 : decode cX11_into 2 = .ok (.iload 4, 2) := by decide +kernel
theorem dX11_into_4 : decode cX11_into 4 = .ok (.invokevirtual 137, 3) := by decide +kernel
theorem dX11_into_7 : decode cX11_into 7 = .ok (.istore 5, 2) := by decide +kernel
theorem dX11_into_9 : decode cX11_into 9 = .ok (.aload_n 1, 1) := by decide +kernel
theorem dX11_into_10 : decode cX11_into 10 = .ok (.iload_n 2, 1) := by decide +kernel
theorem dX11_into_11 : decode cX11_into 11 = .ok (.aload_n 0, 1) := by decide +kernel
theorem dX11_into_12 : decode cX11_into 12 = .ok (.getfield 134, 3) := by decide +kernel
theorem dX11_into_15 : decode cX11_into 15 = .ok (.iastore, 1) := by decide +kernel
theorem dX11_into_16 : decode cX11_into 16 = .ok (.iload 5, 2) := by decide +kernel
theorem dX11_into_18 : decode cX11_into 18 = .ok (.ireturn, 1) := by decide +kernel
set_option maxHeartbeats 4000000 in
set_option maxRecDepth 20000 in
theorem en_X11_into {k1 n1 : Nat} {a2 : Int32} {a3 : Int32} {a4 : Int32} {M : jw_Mem} {Q : Int32 → jw_Mem → Prop} (ha_k1 : jw_a k1 n1) (h : (jw_M 1 mX11_takeNumber [vr 11 0, vi a3, vi a4] M (fun x1 M2 => (vp_in a2 (jw_len k1) ∧ (∀ M3 : jw_Mem, M3 = jw_up M2 k1 n1 a2.toNatClampNeg (M2 11 0 17) → Q x1 M3))))) : jw_M 2 mX11_into [vr 11 0, vr k1 n1, vi a2, vi a3, vi a4] M Q := by
  refine jw_M.of (by decide) (Nat.le_of_ble_eq_true rfl) ?_
  show jw_J 2 mX11_into 0 [(0, vr 11 0), (1, vr k1 n1), (2, vi a2), (3, vi a3), (4, vi a4)] [] M Q
  refine jr_aload_n (pc := 0) dX11_into_0 rfl 0 rfl ?_
  refine jr_iload_n (pc := 1) dX11_into_1 rfl 3 rfl ?_
  refine jr_iload (pc := 2) dX11_into_2 4 rfl ?_
  refine jr_callV (pc := 4) (d' := 1) (mt' := mX11_takeNumber) (k := 11) (n := 0) (As := [vi a3, vi a4]) (st := []) fc_X11_137 (by decide) (by decide) (Nat.le_of_ble_eq_true rfl) rfl dX11_into_4 (jw_M.mono h (fun x1 M2 h => ?_))
  show jw_J 2 mX11_into 7 [(0, vr 11 0), (1, vr k1 n1), (2, vi a2), (3, vi a3), (4, vi a4)] [vi x1] M2 Q
  refine jr_istore (pc := 7) (lv' := [(5, vi x1), (0, vr 11 0), (1, vr k1 n1), (2, vi a2), (3, vi a3), (4, vi a4)]) dX11_into_7 (by decide) rfl ?_
  refine jr_aload_n (pc := 9) dX11_into_9 rfl 2 rfl ?_
  refine jr_iload_n (pc := 10) dX11_into_10 rfl 3 rfl ?_
  refine jr_aload_n (pc := 11) dX11_into_11 rfl 1 rfl ?_
  refine jr_get (pc := 12) (v := vi (M2 11 0 17)) fg_X11_134 (by decide) rfl dX11_into_12 ?_
  refine jr_iast (pc := 15) ha_k1 h.1 dX11_into_15 ?_
  replace h := h.2
  replace h := h _ rfl
  generalize jw_up M2 k1 n1 a2.toNatClampNeg (M2 11 0 17) = M3 at h ⊢
  refine jr_iload (pc := 16) dX11_into_16 0 rfl ?_
  exact jr_iret (pc := 18) rfl dX11_into_18 h
theorem dX11_takeTerm_0 : decode cX11_takeTerm 0 = .ok (.aload_n 0, 1) := by decide +kernel
theorem dX11_takeTerm_1 : decode cX11_takeTerm 1 = .ok (.iconst 1, 1) := by decide +kernel
theorem dX11_takeTerm_2 : decode cX11_takeTerm 2 = .ok (.bipush 9, 2) := by decide +kernel
theorem dX11_takeTerm_4 : decode cX11_takeTerm 4 = .ok (.invokevirtual 137, 3) := by decide +kernel
theorem dX11_takeTerm_7 : decode cX11_takeTerm 7 = .ok (.istore_n 1, 1) := by decide +kernel
theorem dX11_takeTerm_8 : decode cX11_takeTerm 8 = .ok (.aload_n 0, 1) := by decide +kernel
theorem dX11_takeTerm_9 : decode cX11_takeTerm 9 = .ok (.aload_n 0, 1) := by decide +kernel
theorem dX11_takeTerm_10 : decode cX11_takeTerm 10 = .ok (.getfield 134, 3) := by decide +kernel
theorem dX11_takeTerm_13 : decode cX11_takeTerm 13 = .ok (.putfield 140, 3) := by decide +kernel
theorem dX11_takeTerm_16 : decode cX11_takeTerm 16 = .ok (.iload_n 1, 1) := by decide +kernel
theorem dX11_takeTerm_17 : decode cX11_takeTerm 17 = .ok (.ireturn, 1) := by decide +kernel
set_option maxHeartbeats 4000000 in
set_option maxRecDepth 20000 in
theorem en_X11_takeTerm {M : jw_Mem} {Q : Int32 → jw_Mem → Prop}  (h : (jw_M 1 mX11_takeNumber [vr 11 0, vi 1, vi 9] M (fun x1 M2 => (∀ M3 : jw_Mem, M3 = jw_up M2 11 0 19 (M2 11 0 17) → Q x1 M3)))) : jw_M 2 mX11_takeTerm [vr 11 0] M Q := by
  refine jw_M.of (by decide) (Nat.le_of_ble_eq_true rfl) ?_
  show jw_J 2 mX11_takeTerm 0 [(0, vr 11 0)] [] M Q
  refine jr_aload_n (pc := 0) dX11_takeTerm_0 rfl 0 rfl ?_
  refine jr_iconst (pc := 1) (v := 1) dX11_takeTerm_1 (by decide) ?_
  refine jr_bipush (pc := 2) (v := 9) dX11_takeTerm_2 (by decide) ?_
  refine jr_callV (pc := 4) (d' := 1) (mt' := mX11_takeNumber) (k := 11) (n := 0) (As := [vi 1, vi 9]) (st := []) fc_X11_137 (by decide) (by decide) (Nat.le_of_ble_eq_true rfl) rfl dX11_takeTerm_4 (jw_M.mono h (fun x1 M2 h => ?_))
  show jw_J 2 mX11_takeTerm 7 [(0, vr 11 0)] [vi x1] M2 Q
  refine jr_istore_n (pc := 7) (lv' := [(1, vi x1), (0, vr 11 0)]) dX11_takeTerm_7 rfl (by decide) rfl ?_
  refine jr_aload_n (pc := 8) dX11_takeTerm_8 rfl 1 rfl ?_
  refine jr_aload_n (pc := 9) dX11_takeTerm_9 rfl 1 rfl ?_
  refine jr_get (pc := 10) (v := vi (M2 11 0 17)) fg_X11_134 (by decide) rfl dX11_takeTerm_10 ?_
  refine jr_put (pc := 13) fp_X11_140 (by decide) (Or.inl ⟨_, _, _, rfl, by decide +kernel⟩) dX11_takeTerm_13 ?_
  replace h := h _ rfl
  generalize jw_up M2 11 0 19 (M2 11 0 17) = M3 at h ⊢
  refine jr_iload_n (pc := 16) dX11_takeTerm_16 rfl 0 rfl ?_
  exact jr_iret (pc := 17) rfl dX11_takeTerm_17 h
theorem dX11_takePlinth_0 : decode cX11_takePlinth 0 = .ok (.aload_n 0, 1) := by decide +kernel
theorem dX11_takePlinth_1 : decode cX11_takePlinth 1 = .ok (.dup, 1) := by decide +kernel
theorem dX11_takePlinth_2 : decode cX11_takePlinth 2 = .ok (.getfield 143, 3) := by decide +kernel
theorem dX11_takePlinth_5 : decode cX11_takePlinth 5 = .ok (.iconst 1, 1) := by decide +kernel
theorem dX11_takePlinth_6 : decode cX11_takePlinth 6 = .ok (.iadd, 1) := by decide +kernel
theorem dX11_takePlinth_7 : decode cX11_takePlinth 7 = .ok (.putfield 143, 3) := by decide +kernel
theorem dX11_takePlinth_10 : decode cX11_takePlinth 10 = .ok (.aload_n 0, 1) := by decide +kernel
theorem dX11_takePlinth_11 : decode cX11_takePlinth 11 = .ok (.aload_n 0, 1) := by decide +kernel
theorem dX11_takePlinth_12 : decode cX11_takePlinth 12 = .ok (.getfield 41, 3) := by decide +kernel
theorem dX11_takePlinth_15 : decode cX11_takePlinth 15 = .ok (.aload_n 0, 1) := by decide +kernel
theorem dX11_takePlinth_16 : decode cX11_takePlinth 16 = .ok (.getfield 143, 3) := by decide +kernel
theorem dX11_takePlinth_19 : decode cX11_takePlinth 19 = .ok (.iconst 1, 1) := by decide +kernel
theorem dX11_takePlinth_20 : decode cX11_takePlinth 20 = .ok (.isub, 1) := by decide +kernel
theorem dX11_takePlinth_21 : decode cX11_takePlinth 21 = .ok (.iconst 0, 1) := by decide +kernel
theorem dX11_takePlinth_22 : decode cX11_takePlinth 22 = .ok (.bipush 99, 2) := by decide +kernel
theorem dX11_takePlinth_24 : decode cX11_takePlinth 24 = .ok (.invokevirtual 146, 3) := by decide +kernel
theorem dX11_takePlinth_27 : decode cX11_takePlinth 27 = .ok (.ireturn, 1) := by decide +kernel
set_option maxHeartbeats 4000000 in
set_option maxRecDepth 20000 in
theorem en_X11_takePlinth {M : jw_Mem} {Q : Int32 → jw_Mem → Prop}  (h : (∀ M1 : jw_Mem, M1 = jw_up M 11 0 20 ((M 11 0 20) + 1) → (jw_M 2 mX11_into [vr 11 0, vr 45 0, vi ((M1 11 0 20) - 1), vi 0, vi 99] M1 (fun x2 M3 => Q x2 M3)))) : jw_M 3 mX11_takePlinth [vr 11 0] M Q := by
  refine jw_M.of (by decide) (Nat.le_of_ble_eq_true rfl) ?_
  show jw_J 3 mX11_takePlinth 0 [(0, vr 11 0)] [] M Q
  refine jr_aload_n (pc := 0) dX11_takePlinth_0 rfl 0 rfl ?_
  refine jr_dup_r (pc := 1) dX11_takePlinth_1 ?_
  refine jr_get (pc := 2) (v := vi (M 11 0 20)) fg_X11_143 (by decide) rfl dX11_takePlinth_2 ?_
  refine jr_iconst (pc := 5) (v := 1) dX11_takePlinth_5 (by decide) ?_
  refine jr_iadd (pc := 6) dX11_takePlinth_6 ?_
  refine jr_put (pc := 7) fp_X11_143 (by decide) (Or.inl ⟨_, _, _, rfl, by decide +kernel⟩) dX11_takePlinth_7 ?_
  replace h := h _ rfl
  generalize jw_up M 11 0 20 ((M 11 0 20) + 1) = M1 at h ⊢
  refine jr_aload_n (pc := 10) dX11_takePlinth_10 rfl 0 rfl ?_
  refine jr_aload_n (pc := 11) dX11_takePlinth_11 rfl 0 rfl ?_
  refine jr_get (pc := 12) (v := vr 45 0) fg_X11_41 (by decide) rfl dX11_takePlinth_12 ?_
  refine jr_aload_n (pc := 15) dX11_takePlinth_15 rfl 0 rfl ?_
  refine jr_get (pc := 16) (v := vi (M1 11 0 20)) fg_X11_143 (by decide) rfl dX11_takePlinth_16 ?_
  refine jr_iconst (pc := 19) (v := 1) dX11_takePlinth_19 (by decide) ?_
  refine jr_isub (pc := 20) dX11_takePlinth_20 ?_
  refine jr_iconst (pc := 21) (v := 0) dX11_takePlinth_21 (by decide) ?_
  refine jr_bipush (pc := 22) (v := 99) dX11_takePlinth_22 (by decide) ?_
  refine jr_callV (pc := 24) (d' := 2) (mt' := mX11_into) (k := 11) (n := 0) (As := [vr 45 0, vi ((M1 11 0 20) - 1), vi 0, vi 99]) (st := []) fc_X11_146 (by decide) (by decide) (Nat.le_of_ble_eq_true rfl) rfl dX11_takePlinth_24 (jw_M.mono h (fun x2 M3 h => ?_))
  show jw_J 3 mX11_takePlinth 27 [(0, vr 11 0)] [vi x2] M3 Q
  exact jr_iret (pc := 27) rfl dX11_takePlinth_27 h
theorem dX11_takePlace_0 : decode cX11_takePlace 0 = .ok (.aload_n 0, 1) := by decide +kernel
theorem dX11_takePlace_1 : decode cX11_takePlace 1 = .ok (.iconst 0, 1) := by decide +kernel
theorem dX11_takePlace_2 : decode cX11_takePlace 2 = .ok (.bipush 9, 2) := by decide +kernel
theorem dX11_takePlace_4 : decode cX11_takePlace 4 = .ok (.invokevirtual 137, 3) := by decide +kernel
theorem dX11_takePlace_7 : decode cX11_takePlace 7 = .ok (.istore_n 2, 1) := by decide +kernel
theorem dX11_takePlace_8 : decode cX11_takePlace 8 = .ok (.iload_n 2, 1) := by decide +kernel
theorem dX11_takePlace_9 : decode cX11_takePlace 9 = .ok (.ifCond .le 5, 3) := by decide +kernel
theorem dX11_takePlace_12 : decode cX11_takePlace 12 = .ok (.iload_n 2, 1) := by decide +kernel
theorem dX11_takePlace_13 : decode cX11_takePlace 13 = .ok (.ireturn, 1) := by decide +kernel
theorem dX11_takePlace_14 : decode cX11_takePlace 14 = .ok (.aload_n 0, 1) := by decide +kernel
theorem dX11_takePlace_15 : decode cX11_takePlace 15 = .ok (.getfield 134, 3) := by decide +kernel
theorem dX11_takePlace_18 : decode cX11_takePlace 18 = .ok (.bipush 9, 2) := by decide +kernel
theorem dX11_takePlace_20 : decode cX11_takePlace 20 = .ok (.if_icmp .ge 24, 3) := by decide +kernel
theorem dX11_takePlace_23 : decode cX11_takePlace 23 = .ok (.aload_n 0, 1) := by decide +kernel
theorem dX11_takePlace_24 : decode cX11_takePlace 24 = .ok (.getfield 134, 3) := by decide +kernel
theorem dX11_takePlace_27 : decode cX11_takePlace 27 = .ok (.aload_n 0, 1) := by decide +kernel
theorem dX11_takePlace_28 : decode cX11_takePlace 28 = .ok (.getfield 143, 3) := by decide +kernel
theorem dX11_takePlace_31 : decode cX11_takePlace 31 = .ok (.if_icmp .lt 13, 3) := by decide +kernel
theorem dX11_takePlace_34 : decode cX11_takePlace 34 = .ok (.aload_n 0, 1) := by decide +kernel
theorem dX11_takePlace_35 : decode cX11_takePlace 35 = .ok (.iconst 2, 1) := by decide +kernel
theorem dX11_takePlace_36 : decode cX11_takePlace 36 = .ok (.aload_n 0, 1) := by decide +kernel
theorem dX11_takePlace_37 : decode cX11_takePlace 37 = .ok (.getfield 131, 3) := by decide +kernel
theorem dX11_takePlace_40 : decode cX11_takePlace 40 = .ok (.invokevirtual 127, 3) := by decide +kernel
theorem dX11_takePlace_43 : decode cX11_takePlace 43 = .ok (.ireturn, 1) := by decide +kernel
theorem dX11_takePlace_44 : decode cX11_takePlace 44 = .ok (.aload_n 0, 1) := by decide +kernel
theorem dX11_takePlace_45 : decode cX11_takePlace 45 = .ok (.getfield 134, 3) := by decide +kernel
theorem dX11_takePlace_48 : decode cX11_takePlace 48 = .ok (.bipush 9, 2) := by decide +kernel
theorem dX11_takePlace_50 : decode cX11_takePlace 50 = .ok (.if_icmp .ne 7, 3) := by decide +kernel
theorem dX11_takePlace_53 : decode cX11_takePlace 53 = .ok (.iconst (-1), 1) := by decide +kernel
theorem dX11_takePlace_54 : decode cX11_takePlace 54 = .ok (.goto 7, 3) := by decide +kernel
theorem dX11_takePlace_57 : decode cX11_takePlace 57 = .ok (.aload_n 0, 1) := by decide +kernel
theorem dX11_takePlace_58 : decode cX11_takePlace 58 = .ok (.getfield 134, 3) := by decide +kernel
theorem dX11_takePlace_61 : decode cX11_takePlace 61 = .ok (.istore_n 3, 1) := by decide +kernel
theorem dX11_takePlace_62 : decode cX11_takePlace 62 = .ok (.iconst 0, 1) := by decide +kernel
theorem dX11_takePlace_63 : decode cX11_takePlace 63 = .ok (.istore 4, 2) := by decide +kernel
theorem dX11_takePlace_65 : decode cX11_takePlace 65 = .ok (.iload 4, 2) := by decide +kernel
theorem dX11_takePlace_67 : decode cX11_takePlace 67 = .ok (.iload_n 1, 1) := by decide +kernel
theorem dX11_takePlace_68 : decode cX11_takePlace 68 = .ok (.if_icmp .ge 34, 3) := by decide +kernel
theorem dX11_takePlace_71 : decode cX11_takePlace 71 = .ok (.iload_n 3, 1) := by decide +kernel
theorem dX11_takePlace_72 : decode cX11_takePlace 72 = .ok (.ifCond .lt 30, 3) := by decide +kernel
theorem dX11_takePlace_75 : decode cX11_takePlace 75 = .ok (.aload_n 0, 1) := by decide +kernel
theorem dX11_takePlace_76 : decode cX11_takePlace 76 = .ok (.getfield 47, 3) := by decide +kernel
theorem dX11_takePlace_79 : decode cX11_takePlace 79 = .ok (.iload 4, 2) := by decide +kernel
theorem dX11_takePlace_81 : decode cX11_takePlace 81 = .ok (.iaload, 1) := by decide +kernel
theorem dX11_takePlace_82 : decode cX11_takePlace 82 = .ok (.iload_n 3, 1) := by decide +kernel
theorem dX11_takePlace_83 : decode cX11_takePlace 83 = .ok (.if_icmp .ne 13, 3) := by decide +kernel
theorem dX11_takePlace_86 : decode cX11_takePlace 86 = .ok (.aload_n 0, 1) := by decide +kernel
theorem dX11_takePlace_87 : decode cX11_takePlace 87 = .ok (.iconst 4, 1) := by decide +kernel
theorem dX11_takePlace_88 : decode cX11_takePlace 88 = .ok (.aload_n 0, 1) := by decide +kernel
theorem dX11_takePlace_89 : decode cX11_takePlace 89 = .ok (.getfield 131, 3) := by decide +kernel
theorem dX11_takePlace_92 : decode cX11_takePlace 92 = .ok (.invokevirtual 127, 3) := by decide +kernel
theorem dX11_takePlace_95 : decode cX11_takePlace 95 = .ok (.ireturn, 1) := by decide +kernel
theorem dX11_takePlace_96 : decode cX11_takePlace 96 = .ok (.iinc 4 1, 3) := by decide +kernel
theorem dX11_takePlace_99 : decode cX11_takePlace 99 = .ok (.goto (-34), 3) := by decide +kernel
theorem dX11_takePlace_102 : decode cX11_takePlace 102 = .ok (.aload_n 0, 1) := by decide +kernel
theorem dX11_takePlace_103 : decode cX11_takePlace 103 = .ok (.getfield 47, 3) := by decide +kernel
theorem dX11_takePlace_106 : decode cX11_takePlace 106 = .ok (.iload_n 1, 1) := by decide +kernel
theorem dX11_takePlace_107 : decode cX11_takePlace 107 = .ok (.iload_n 3, 1) := by decide +kernel
theorem dX11_takePlace_108 : decode cX11_takePlace 108 = .ok (.iastore, 1) := by decide +kernel
theorem dX11_takePlace_109 : decode cX11_takePlace 109 = .ok (.iconst 0, 1) := by decide +kernel
theorem dX11_takePlace_110 : decode cX11_takePlace 110 = .ok (.ireturn, 1) := by decide +kernel
set_option maxHeartbeats 4000000 in
set_option maxRecDepth 20000 in
theorem en_X11_takePlace {a1 : Int32} {M : jw_Mem} {Q : Int32 → jw_Mem → Prop}  (h : (jw_M 1 mX11_takeNumber [vr 11 0, vi 0, vi 9] M (fun x1 M2 => ((x1 ≤ 0 → ((9 ≤ (M2 11 0 17) → ((¬ (M2 11 0 17) = 9 → jw_J 2 mX11_takePlace 65 [(0, vr 11 0), (1, vi a1), (3, vi (M2 11 0 17)), (4, vi 0)] [] M2 Q) ∧ ((M2 11 0 17) = 9 → jw_J 2 mX11_takePlace 65 [(0, vr 11 0), (1, vi a1), (3, vi (-1)), (4, vi 0)] [] M2 Q))) ∧ (¬ 9 ≤ (M2 11 0 17) → (((M2 11 0 17) < (M2 11 0 20) → ((¬ (M2 11 0 17) = 9 → jw_J 2 mX11_takePlace 65 [(0, vr 11 0), (1, vi a1), (3, vi (M2 11 0 17)), (4, vi 0)] [] M2 Q) ∧ ((M2 11 0 17) = 9 → jw_J 2 mX11_takePlace 65 [(0, vr 11 0), (1, vi a1), (3, vi (-1)), (4, vi 0)] [] M2 Q))) ∧ (¬ (M2 11 0 17) < (M2 11 0 20) → (jw_M 0 mX11_fails [vr 11 0, vi 2, vi (M2 11 0 18)] M2 (fun x3 M4 => Q x3 M4))))))) ∧ (¬ x1 ≤ 0 → Q x1 M2))))) : jw_M 2 mX11_takePlace [vr 11 0, vi a1] M Q := by
  refine jw_M.of (by decide) (Nat.le_of_ble_eq_true rfl) ?_
  show jw_J 2 mX11_takePlace 0 [(0, vr 11 0), (1, vi a1)] [] M Q
  refine jr_aload_n (pc := 0) dX11_takePlace_0 rfl 0 rfl ?_
  refine jr_iconst (pc := 1) (v := 0) dX11_takePlace_1 (by decide) ?_
  refine jr_bipush (pc := 2) (v := 9) dX11_takePlace_2 (by decide) ?_
  refine jr_callV (pc := 4) (d' := 1) (mt' := mX11_takeNumber) (k := 11) (n := 0) (As := [vi 0, vi 9]) (st := []) fc_X11_137 (by decide) (by decide) (Nat.le_of_ble_eq_true rfl) rfl dX11_takePlace_4 (jw_M.mono h (fun x1 M2 h => ?_))
  show jw_J 2 mX11_takePlace 7 [(0, vr 11 0), (1, vi a1)] [vi x1] M2 Q
  refine jr_istore_n (pc := 7) (lv' := [(2, vi x1), (0, vr 11 0), (1, vi a1)]) dX11_takePlace_7 rfl (by decide) rfl ?_
  refine jr_iload_n (pc := 8) dX11_takePlace_8 rfl 0 rfl ?_
  refine jr_if_le (pc := 9) (tgt := 14) dX11_takePlace_9 (by decide) (fun c => ?_) (fun c => ?_)
  · replace h := h.1 c
    refine jr_aload_n (pc := 14) dX11_takePlace_14 rfl 1 rfl ?_
    refine jr_get (pc := 15) (v := vi (M2 11 0 17)) fg_X11_134 (by decide) rfl dX11_takePlace_15 ?_
    refine jr_bipush (pc := 18) (v := 9) dX11_takePlace_18 (by decide) ?_
    refine jr_icmp_ge (pc := 20) (tgt := 44) dX11_takePlace_20 (by decide) (fun c => ?_) (fun c => ?_)
    · replace h := h.1 c
      refine jr_aload_n (pc := 44) dX11_takePlace_44 rfl 1 rfl ?_
      refine jr_get (pc := 45) (v := vi (M2 11 0 17)) fg_X11_134 (by decide) rfl dX11_takePlace_45 ?_
      refine jr_bipush (pc := 48) (v := 9) dX11_takePlace_48 (by decide) ?_
      refine jr_icmp_ne (pc := 50) (tgt := 57) dX11_takePlace_50 (by decide) (fun c => ?_) (fun c => ?_)
      · replace h := h.1 c
        refine jr_aload_n (pc := 57) dX11_takePlace_57 rfl 1 rfl ?_
        refine jr_get (pc := 58) (v := vi (M2 11 0 17)) fg_X11_134 (by decide) rfl dX11_takePlace_58 ?_
        refine jr_istore_n (pc := 61) (lv' := [(3, vi (M2 11 0 17)), (2, vi x1), (0, vr 11 0), (1, vi a1)]) dX11_takePlace_61 rfl (by decide) rfl ?_
        refine jr_iconst (pc := 62) (v := 0) dX11_takePlace_62 (by decide) ?_
        refine jr_istore (pc := 63) (lv' := [(4, vi 0), (3, vi (M2 11 0 17)), (2, vi x1), (0, vr 11 0), (1, vi a1)]) dX11_takePlace_63 (by decide) rfl ?_
        exact jr_sub [3, 4, 1, 0] rfl h
      · replace h := h.2 c
        refine jr_iconst (pc := 53) (v := (-1)) dX11_takePlace_53 (by decide) ?_
        refine jr_goto (pc := 54) (tgt := 61) dX11_takePlace_54 (by decide) ?_
        refine jr_istore_n (pc := 61) (lv' := [(3, vi (-1)), (2, vi x1), (0, vr 11 0), (1, vi a1)]) dX11_takePlace_61 rfl (by decide) rfl ?_
        refine jr_iconst (pc := 62) (v := 0) dX11_takePlace_62 (by decide) ?_
        refine jr_istore (pc := 63) (lv' := [(4, vi 0), (3, vi (-1)), (2, vi x1), (0, vr 11 0), (1, vi a1)]) dX11_takePlace_63 (by decide) rfl ?_
        exact jr_sub [3, 4, 1, 0] rfl h
    · replace h := h.2 c
      refine jr_aload_n (pc := 23) dX11_takePlace_23 rfl 1 rfl ?_
      refine jr_get (pc := 24) (v := vi (M2 11 0 17)) fg_X11_134 (by decide) rfl dX11_takePlace_24 ?_
      refine jr_aload_n (pc := 27) dX11_takePlace_27 rfl 1 rfl ?_
      refine jr_get (pc := 28) (v := vi (M2 11 0 20)) fg_X11_143 (by decide) rfl dX11_takePlace_28 ?_
      refine jr_icmp_lt (pc := 31) (tgt := 44) dX11_takePlace_31 (by decide) (fun c => ?_) (fun c => ?_)
      · replace h := h.1 c
        refine jr_aload_n (pc := 44) dX11_takePlace_44 rfl 1 rfl ?_
        refine jr_get (pc := 45) (v := vi (M2 11 0 17)) fg_X11_134 (by decide) rfl dX11_takePlace_45 ?_
        refine jr_bipush (pc := 48) (v := 9) dX11_takePlace_48 (by decide) ?_
        refine jr_icmp_ne (pc := 50) (tgt := 57) dX11_takePlace_50 (by decide) (fun c => ?_) (fun c => ?_)
        · replace h := h.1 c
          refine jr_aload_n (pc := 57) dX11_takePlace_57 rfl 1 rfl ?_
          refine jr_get (pc := 58) (v := vi (M2 11 0 17)) fg_X11_134 (by decide) rfl dX11_takePlace_58 ?_
          refine jr_istore_n (pc := 61) (lv' := [(3, vi (M2 11 0 17)), (2, vi x1), (0, vr 11 0), (1, vi a1)]) dX11_takePlace_61 rfl (by decide) rfl ?_
          refine jr_iconst (pc := 62) (v := 0) dX11_takePlace_62 (by decide) ?_
          refine jr_istore (pc := 63) (lv' := [(4, vi 0), (3, vi (M2 11 0 17)), (2, vi x1), (0, vr 11 0), (1, vi a1)]) dX11_takePlace_63 (by decide) rfl ?_
          exact jr_sub [3, 4, 1, 0] rfl h
        · replace h := h.2 c
          refine jr_iconst (pc := 53) (v := (-1)) dX11_takePlace_53 (by decide) ?_
          refine jr_goto (pc := 54) (tgt := 61) dX11_takePlace_54 (by decide) ?_
          refine jr_istore_n (pc := 61) (lv' := [(3, vi (-1)), (2, vi x1), (0, vr 11 0), (1, vi a1)]) dX11_takePlace_61 rfl (by decide) rfl ?_
          refine jr_iconst (pc := 62) (v := 0) dX11_takePlace_62 (by decide) ?_
          refine jr_istore (pc := 63) (lv' := [(4, vi 0), (3, vi (-1)), (2, vi x1), (0, vr 11 0), (1, vi a1)]) dX11_takePlace_63 (by decide) rfl ?_
          exact jr_sub [3, 4, 1, 0] rfl h
      · replace h := h.2 c
        refine jr_aload_n (pc := 34) dX11_takePlace_34 rfl 1 rfl ?_
        refine jr_iconst (pc := 35) (v := 2) dX11_takePlace_35 (by decide) ?_
        refine jr_aload_n (pc := 36) dX11_takePlace_36 rfl 1 rfl ?_
        refine jr_get (pc := 37) (v := vi (M2 11 0 18)) fg_X11_131 (by decide) rfl dX11_takePlace_37 ?_
        refine jr_callV (pc := 40) (d' := 0) (mt' := mX11_fails) (k := 11) (n := 0) (As := [vi 2, vi (M2 11 0 18)]) (st := []) fc_X11_127 (by decide) (by decide) (Nat.le_of_ble_eq_true rfl) rfl dX11_takePlace_40 (jw_M.mono h (fun x3 M4 h => ?_))
        show jw_J 2 mX11_takePlace 43 [(2, vi x1), (0, vr 11 0), (1, vi a1)] [vi x3] M4 Q
        exact jr_iret (pc := 43) rfl dX11_takePlace_43 h
  · replace h := h.2 c
    refine jr_iload_n (pc := 12) dX11_takePlace_12 rfl 0 rfl ?_
    exact jr_iret (pc := 13) rfl dX11_takePlace_13 h
set_option maxHeartbeats 4000000 in
set_option maxRecDepth 20000 in
theorem bk_X11_takePlace_65 {v1 : Int32} {v3 : Int32} {v4 : Int32} {M : jw_Mem} {Q : Int32 → jw_Mem → Prop}  (h : ((v1 ≤ v4 → (vp_in v1 6 ∧ (∀ M5 : jw_Mem, M5 = jw_up M 47 0 v1.toNatClampNeg v3 → Q 0 M5))) ∧ (¬ v1 ≤ v4 → ((v3 < 0 → (vp_in v1 6 ∧ (∀ M6 : jw_Mem, M6 = jw_up M 47 0 v1.toNatClampNeg v3 → Q 0 M6))) ∧ (¬ v3 < 0 → (vp_in v4 6 ∧ ((¬ (M 47 0 v4.toNatClampNeg) = v3 → jw_J 2 mX11_takePlace 65 [(0, vr 11 0), (1, vi v1), (3, vi v3), (4, vi (v4 + 1))] [] M Q) ∧ ((M 47 0 v4.toNatClampNeg) = v3 → (jw_M 0 mX11_fails [vr 11 0, vi 4, vi (M 11 0 18)] M (fun x7 M8 => Q x7 M8)))))))))) : jw_J 2 mX11_takePlace 65 [(0, vr 11 0), (1, vi v1), (3, vi v3), (4, vi v4)] [] M Q := by
  refine jr_iload (pc := 65) dX11_takePlace_65 3 rfl ?_
  refine jr_iload_n (pc := 67) dX11_takePlace_67 rfl 1 rfl ?_
  refine jr_icmp_ge (pc := 68) (tgt := 102) dX11_takePlace_68 (by decide) (fun c => ?_) (fun c => ?_)
  · replace h := h.1 c
    refine jr_aload_n (pc := 102) dX11_takePlace_102 rfl 0 rfl ?_
    refine jr_get (pc := 103) (v := vr 47 0) fg_X11_47 (by decide) rfl dX11_takePlace_103 ?_
    refine jr_iload_n (pc := 106) dX11_takePlace_106 rfl 1 rfl ?_
    refine jr_iload_n (pc := 107) dX11_takePlace_107 rfl 2 rfl ?_
    refine jr_iast (pc := 108) ⟨rfl, (by decide)⟩ h.1 dX11_takePlace_108 ?_
    replace h := h.2
    replace h := h _ rfl
    generalize jw_up M 47 0 v1.toNatClampNeg v3 = M5 at h ⊢
    refine jr_iconst (pc := 109) (v := 0) dX11_takePlace_109 (by decide) ?_
    exact jr_iret (pc := 110) rfl dX11_takePlace_110 h
  · replace h := h.2 c
    refine jr_iload_n (pc := 71) dX11_takePlace_71 rfl 2 rfl ?_
    refine jr_if_lt (pc := 72) (tgt := 102) dX11_takePlace_72 (by decide) (fun c => ?_) (fun c => ?_)
    · replace h := h.1 c
      refine jr_aload_n (pc := 102) dX11_takePlace_102 rfl 0 rfl ?_
      refine jr_get (pc := 103) (v := vr 47 0) fg_X11_47 (by decide) rfl dX11_takePlace_103 ?_
      refine jr_iload_n (pc := 106) dX11_takePlace_106 rfl 1 rfl ?_
      refine jr_iload_n (pc := 107) dX11_takePlace_107 rfl 2 rfl ?_
      refine jr_iast (pc := 108) ⟨rfl, (by decide)⟩ h.1 dX11_takePlace_108 ?_
      replace h := h.2
      replace h := h _ rfl
      generalize jw_up M 47 0 v1.toNatClampNeg v3 = M6 at h ⊢
      refine jr_iconst (pc := 109) (v := 0) dX11_takePlace_109 (by decide) ?_
      exact jr_iret (pc := 110) rfl dX11_takePlace_110 h
    · replace h := h.2 c
      refine jr_aload_n (pc := 75) dX11_takePlace_75 rfl 0 rfl ?_
      refine jr_get (pc := 76) (v := vr 47 0) fg_X11_47 (by decide) rfl dX11_takePlace_76 ?_
      refine jr_iload (pc := 79) dX11_takePlace_79 3 rfl ?_
      refine jr_iald (pc := 81) ⟨rfl, (by decide)⟩ h.1 dX11_takePlace_81 ?_
      replace h := h.2
      refine jr_iload_n (pc := 82) dX11_takePlace_82 rfl 2 rfl ?_
      refine jr_icmp_ne (pc := 83) (tgt := 96) dX11_takePlace_83 (by decide) (fun c => ?_) (fun c => ?_)
      · replace h := h.1 c
        refine jr_iinc (pc := 96) (lv' := [(4, vi (v4 + 1)), (0, vr 11 0), (1, vi v1), (3, vi v3)]) (q := 3) dX11_takePlace_96 rfl (by rfl) (by decide) rfl ?_
        refine jr_goto (pc := 99) (tgt := 65) dX11_takePlace_99 (by decide) ?_
        exact jr_sub [1, 2, 3, 0] rfl h
      · replace h := h.2 c
        refine jr_aload_n (pc := 86) dX11_takePlace_86 rfl 0 rfl ?_
        refine jr_iconst (pc := 87) (v := 4) dX11_takePlace_87 (by decide) ?_
        refine jr_aload_n (pc := 88) dX11_takePlace_88 rfl 0 rfl ?_
        refine jr_get (pc := 89) (v := vi (M 11 0 18)) fg_X11_131 (by decide) rfl dX11_takePlace_89 ?_
        refine jr_callV (pc := 92) (d' := 0) (mt' := mX11_fails) (k := 11) (n := 0) (As := [vi 4, vi (M 11 0 18)]) (st := []) fc_X11_127 (by decide) (by decide) (Nat.le_of_ble_eq_true rfl) rfl dX11_takePlace_92 (jw_M.mono h (fun x7 M8 h => ?_))
        show jw_J 2 mX11_takePlace 95 [(0, vr 11 0), (1, vi v1), (3, vi v3), (4, vi v4)] [vi x7] M8 Q
        exact jr_iret (pc := 95) rfl dX11_takePlace_95 h
theorem dX11_takeStatue_0 : decode cX11_takeStatue 0 = .ok (.aload_n 0, 1) := by decide +kernel
theorem dX11_takeStatue_1 : decode cX11_takeStatue 1 = .ok (.getfield 150, 3) := by decide +kernel
theorem dX11_takeStatue_4 : decode cX11_takeStatue 4 = .ok (.istore_n 1, 1) := by decide +kernel
theorem dX11_takeStatue_5 : decode cX11_takeStatue 5 = .ok (.aload_n 0, 1) := by decide +kernel
theorem dX11_takeStatue_6 : decode cX11_takeStatue 6 = .ok (.dup, 1) := by decide +kernel
theorem dX11_takeStatue_7 : decode cX11_takeStatue 7 = .ok (.getfield 150, 3) := by decide +kernel
theorem dX11_takeStatue_10 : decode cX11_takeStatue 10 = .ok (.iconst 1, 1) := by decide +kernel
theorem dX11_takeStatue_11 : decode cX11_takeStatue 11 = .ok (.iadd, 1) := by decide +kernel
theorem dX11_takeStatue_12 : decode cX11_takeStatue 12 = .ok (.putfield 150, 3) := by decide +kernel
theorem dX11_takeStatue_15 : decode cX11_takeStatue 15 = .ok (.aload_n 0, 1) := by decide +kernel
theorem dX11_takeStatue_16 : decode cX11_takeStatue 16 = .ok (.aload_n 0, 1) := by decide +kernel
theorem dX11_takeStatue_17 : decode cX11_takeStatue 17 = .ok (.getfield 44, 3) := by decide +kernel
theorem dX11_takeStatue_20 : decode cX11_takeStatue 20 = .ok (.iload_n 1, 1) := by decide +kernel
theorem dX11_takeStatue_21 : decode cX11_takeStatue 21 = .ok (.iconst 0, 1) := by decide +kernel
theorem dX11_takeStatue_22 : decode cX11_takeStatue 22 = .ok (.iconst 3, 1) := by decide +kernel
theorem dX11_takeStatue_23 : decode cX11_takeStatue 23 = .ok (.invokevirtual 146, 3) := by decide +kernel
theorem dX11_takeStatue_26 : decode cX11_takeStatue 26 = .ok (.istore_n 2, 1) := by decide +kernel
theorem dX11_takeStatue_27 : decode cX11_takeStatue 27 = .ok (.iload_n 2, 1) := by decide +kernel
theorem dX11_takeStatue_28 : decode cX11_takeStatue 28 = .ok (.ifCond .le 7, 3) := by decide +kernel
theorem dX11_takeStatue_31 : decode cX11_takeStatue 31 = .ok (.iload_n 2, 1) := by decide +kernel
theorem dX11_takeStatue_32 : decode cX11_takeStatue 32 = .ok (.goto 8, 3) := by decide +kernel
theorem dX11_takeStatue_35 : decode cX11_takeStatue 35 = .ok (.aload_n 0, 1) := by decide +kernel
theorem dX11_takeStatue_36 : decode cX11_takeStatue 36 = .ok (.iload_n 1, 1) := by decide +kernel
theorem dX11_takeStatue_37 : decode cX11_takeStatue 37 = .ok (.invokevirtual 153, 3) := by decide +kernel
theorem dX11_takeStatue_40 : decode cX11_takeStatue 40 = .ok (.istore_n 2, 1) := by decide +kernel
theorem dX11_takeStatue_41 : decode cX11_takeStatue 41 = .ok (.iload_n 2, 1) := by decide +kernel
theorem dX11_takeStatue_42 : decode cX11_takeStatue 42 = .ok (.ifCond .le 7, 3) := by decide +kernel
theorem dX11_takeStatue_45 : decode cX11_takeStatue 45 = .ok (.iload_n 2, 1) := by decide +kernel
theorem dX11_takeStatue_46 : decode cX11_takeStatue 46 = .ok (.goto 15, 3) := by decide +kernel
theorem dX11_takeStatue_49 : decode cX11_takeStatue 49 = .ok (.aload_n 0, 1) := by decide +kernel
theorem dX11_takeStatue_50 : decode cX11_takeStatue 50 = .ok (.aload_n 0, 1) := by decide +kernel
theorem dX11_takeStatue_51 : decode cX11_takeStatue 51 = .ok (.getfield 50, 3) := by decide +kernel
theorem dX11_takeStatue_54 : decode cX11_takeStatue 54 = .ok (.iload_n 1, 1) := by decide +kernel
theorem dX11_takeStatue_55 : decode cX11_takeStatue 55 = .ok (.iconst 0, 1) := by decide +kernel
theorem dX11_takeStatue_56 : decode cX11_takeStatue 56 = .ok (.bipush 99, 2) := by decide +kernel
theorem dX11_takeStatue_58 : decode cX11_takeStatue 58 = .ok (.invokevirtual 146, 3) := by decide +kernel
theorem dX11_takeStatue_61 : decode cX11_takeStatue 61 = .ok (.ireturn, 1) := by decide +kernel
set_option maxHeartbeats 4000000 in
set_option maxRecDepth 20000 in
theorem en_X11_takeStatue {M : jw_Mem} {Q : Int32 → jw_Mem → Prop}  (h : (∀ M1 : jw_Mem, M1 = jw_up M 11 0 22 ((M 11 0 22) + 1) → (jw_M 2 mX11_into [vr 11 0, vr 46 0, vi (M 11 0 22), vi 0, vi 3] M1 (fun x2 M3 => ((x2 ≤ 0 → (jw_M 2 mX11_takePlace [vr 11 0, vi (M 11 0 22)] M3 (fun x4 M5 => ((x4 ≤ 0 → (jw_M 2 mX11_into [vr 11 0, vr 48 0, vi (M 11 0 22), vi 0, vi 99] M5 (fun x6 M7 => Q x6 M7))) ∧ (¬ x4 ≤ 0 → Q x4 M5))))) ∧ (¬ x2 ≤ 0 → ((x2 ≤ 0 → (jw_M 2 mX11_into [vr 11 0, vr 48 0, vi (M 11 0 22), vi 0, vi 99] M3 (fun x8 M9 => Q x8 M9))) ∧ (¬ x2 ≤ 0 → Q x2 M3)))))))) : jw_M 3 mX11_takeStatue [vr 11 0] M Q := by
  refine jw_M.of (by decide) (Nat.le_of_ble_eq_true rfl) ?_
  show jw_J 3 mX11_takeStatue 0 [(0, vr 11 0)] [] M Q
  refine jr_aload_n (pc := 0) dX11_takeStatue_0 rfl 0 rfl ?_
  refine jr_get (pc := 1) (v := vi (M 11 0 22)) fg_X11_150 (by decide) rfl dX11_takeStatue_1 ?_
  refine jr_istore_n (pc := 4) (lv' := [(1, vi (M 11 0 22)), (0, vr 11 0)]) dX11_takeStatue_4 rfl (by decide) rfl ?_
  refine jr_aload_n (pc := 5) dX11_takeStatue_5 rfl 1 rfl ?_
  refine jr_dup_r (pc := 6) dX11_takeStatue_6 ?_
  refine jr_get (pc := 7) (v := vi (M 11 0 22)) fg_X11_150 (by decide) rfl dX11_takeStatue_7 ?_
  refine jr_iconst (pc := 10) (v := 1) dX11_takeStatue_10 (by decide) ?_
  refine jr_iadd (pc := 11) dX11_takeStatue_11 ?_
  refine jr_put (pc := 12) fp_X11_150 (by decide) (Or.inl ⟨_, _, _, rfl, by decide +kernel⟩) dX11_takeStatue_12 ?_
  replace h := h _ rfl
  generalize jw_up M 11 0 22 ((M 11 0 22) + 1) = M1 at h ⊢
  refine jr_aload_n (pc := 15) dX11_takeStatue_15 rfl 1 rfl ?_
  refine jr_aload_n (pc := 16) dX11_takeStatue_16 rfl 1 rfl ?_
  refine jr_get (pc := 17) (v := vr 46 0) fg_X11_44 (by decide) rfl dX11_takeStatue_17 ?_
  refine jr_iload_n (pc := 20) dX11_takeStatue_20 rfl 0 rfl ?_
  refine jr_iconst (pc := 21) (v := 0) dX11_takeStatue_21 (by decide) ?_
  refine jr_iconst (pc := 22) (v := 3) dX11_takeStatue_22 (by decide) ?_
  refine jr_callV (pc := 23) (d' := 2) (mt' := mX11_into) (k := 11) (n := 0) (As := [vr 46 0, vi (M 11 0 22), vi 0, vi 3]) (st := []) fc_X11_146 (by decide) (by decide) (Nat.le_of_ble_eq_true rfl) rfl dX11_takeStatue_23 (jw_M.mono h (fun x2 M3 h => ?_))
  show jw_J 3 mX11_takeStatue 26 [(1, vi (M 11 0 22)), (0, vr 11 0)] [vi x2] M3 Q
  refine jr_istore_n (pc := 26) (lv' := [(2, vi x2), (1, vi (M 11 0 22)), (0, vr 11 0)]) dX11_takeStatue_26 rfl (by decide) rfl ?_
  refine jr_iload_n (pc := 27) dX11_takeStatue_27 rfl 0 rfl ?_
  refine jr_if_le (pc := 28) (tgt := 35) dX11_takeStatue_28 (by decide) (fun c => ?_) (fun c => ?_)
  · replace h := h.1 c
    refine jr_aload_n (pc := 35) dX11_takeStatue_35 rfl 2 rfl ?_
    refine jr_iload_n (pc := 36) dX11_takeStatue_36 rfl 1 rfl ?_
    refine jr_callV (pc := 37) (d' := 2) (mt' := mX11_takePlace) (k := 11) (n := 0) (As := [vi (M 11 0 22)]) (st := []) fc_X11_153 (by decide) (by decide) (Nat.le_of_ble_eq_true rfl) rfl dX11_takeStatue_37 (jw_M.mono h (fun x4 M5 h => ?_))
    show jw_J 3 mX11_takeStatue 40 [(2, vi x2), (1, vi (M 11 0 22)), (0, vr 11 0)] [vi x4] M5 Q
    refine jr_istore_n (pc := 40) (lv' := [(2, vi x4), (1, vi (M 11 0 22)), (0, vr 11 0)]) dX11_takeStatue_40 rfl (by decide) rfl ?_
    refine jr_iload_n (pc := 41) dX11_takeStatue_41 rfl 0 rfl ?_
    refine jr_if_le (pc := 42) (tgt := 49) dX11_takeStatue_42 (by decide) (fun c => ?_) (fun c => ?_)
    · replace h := h.1 c
      refine jr_aload_n (pc := 49) dX11_takeStatue_49 rfl 2 rfl ?_
      refine jr_aload_n (pc := 50) dX11_takeStatue_50 rfl 2 rfl ?_
      refine jr_get (pc := 51) (v := vr 48 0) fg_X11_50 (by decide) rfl dX11_takeStatue_51 ?_
      refine jr_iload_n (pc := 54) dX11_takeStatue_54 rfl 1 rfl ?_
      refine jr_iconst (pc := 55) (v := 0) dX11_takeStatue_55 (by decide) ?_
      refine jr_bipush (pc := 56) (v := 99) dX11_takeStatue_56 (by decide) ?_
      refine jr_callV (pc := 58) (d' := 2) (mt' := mX11_into) (k := 11) (n := 0) (As := [vr 48 0, vi (M 11 0 22), vi 0, vi 99]) (st := []) fc_X11_146 (by decide) (by decide) (Nat.le_of_ble_eq_true rfl) rfl dX11_takeStatue_58 (jw_M.mono h (fun x6 M7 h => ?_))
      show jw_J 3 mX11_takeStatue 61 [(2, vi x4), (1, vi (M 11 0 22)), (0, vr 11 0)] [vi x6] M7 Q
      exact jr_iret (pc := 61) rfl dX11_takeStatue_61 h
    · replace h := h.2 c
      refine jr_iload_n (pc := 45) dX11_takeStatue_45 rfl 0 rfl ?_
      refine jr_goto (pc := 46) (tgt := 61) dX11_takeStatue_46 (by decide) ?_
      exact jr_iret (pc := 61) rfl dX11_takeStatue_61 h
  · replace h := h.2 c
    refine jr_iload_n (pc := 31) dX11_takeStatue_31 rfl 0 rfl ?_
    refine jr_goto (pc := 32) (tgt := 40) dX11_takeStatue_32 (by decide) ?_
    refine jr_istore_n (pc := 40) (lv' := [(2, vi x2), (1, vi (M 11 0 22)), (0, vr 11 0)]) dX11_takeStatue_40 rfl (by decide) rfl ?_
    refine jr_iload_n (pc := 41) dX11_takeStatue_41 rfl 0 rfl ?_
    refine jr_if_le (pc := 42) (tgt := 49) dX11_takeStatue_42 (by decide) (fun c => ?_) (fun c => ?_)
    · replace h := h.1 c
      refine jr_aload_n (pc := 49) dX11_takeStatue_49 rfl 2 rfl ?_
      refine jr_aload_n (pc := 50) dX11_takeStatue_50 rfl 2 rfl ?_
      refine jr_get (pc := 51) (v := vr 48 0) fg_X11_50 (by decide) rfl dX11_takeStatue_51 ?_
      refine jr_iload_n (pc := 54) dX11_takeStatue_54 rfl 1 rfl ?_
      refine jr_iconst (pc := 55) (v := 0) dX11_takeStatue_55 (by decide) ?_
      refine jr_bipush (pc := 56) (v := 99) dX11_takeStatue_56 (by decide) ?_
      refine jr_callV (pc := 58) (d' := 2) (mt' := mX11_into) (k := 11) (n := 0) (As := [vr 48 0, vi (M 11 0 22), vi 0, vi 99]) (st := []) fc_X11_146 (by decide) (by decide) (Nat.le_of_ble_eq_true rfl) rfl dX11_takeStatue_58 (jw_M.mono h (fun x8 M9 h => ?_))
      show jw_J 3 mX11_takeStatue 61 [(2, vi x2), (1, vi (M 11 0 22)), (0, vr 11 0)] [vi x8] M9 Q
      exact jr_iret (pc := 61) rfl dX11_takeStatue_61 h
    · replace h := h.2 c
      refine jr_iload_n (pc := 45) dX11_takeStatue_45 rfl 0 rfl ?_
      refine jr_goto (pc := 46) (tgt := 61) dX11_takeStatue_46 (by decide) ?_
      exact jr_iret (pc := 61) rfl dX11_takeStatue_61 h
theorem dX11_takeWalker_0 : decode cX11_takeWalker 0 = .ok (.aload_n 0, 1) := by decide +kernel
theorem dX11_takeWalker_1 : decode cX11_takeWalker 1 = .ok (.getfield 157, 3) := by decide +kernel
theorem dX11_takeWalker_4 : decode cX11_takeWalker 4 = .ok (.istore_n 1, 1) := by decide +kernel
theorem dX11_takeWalker_5 : decode cX11_takeWalker 5 = .ok (.aload_n 0, 1) := by decide +kernel
theorem dX11_takeWalker_6 : decode cX11_takeWalker 6 = .ok (.dup, 1) := by decide +kernel
theorem dX11_takeWalker_7 : decode cX11_takeWalker 7 = .ok (.getfield 157, 3) := by decide +kernel
theorem dX11_takeWalker_10 : decode cX11_takeWalker 10 = .ok (.iconst 1, 1) := by decide +kernel
theorem dX11_takeWalker_11 : decode cX11_takeWalker 11 = .ok (.iadd, 1) := by decide +kernel
theorem dX11_takeWalker_12 : decode cX11_takeWalker 12 = .ok (.putfield 157, 3) := by decide +kernel
theorem dX11_takeWalker_15 : decode cX11_takeWalker 15 = .ok (.aload_n 0, 1) := by decide +kernel
theorem dX11_takeWalker_16 : decode cX11_takeWalker 16 = .ok (.aload_n 0, 1) := by decide +kernel
theorem dX11_takeWalker_17 : decode cX11_takeWalker 17 = .ok (.getfield 53, 3) := by decide +kernel
theorem dX11_takeWalker_20 : decode cX11_takeWalker 20 = .ok (.iload_n 1, 1) := by decide +kernel
theorem dX11_takeWalker_21 : decode cX11_takeWalker 21 = .ok (.iconst 0, 1) := by decide +kernel
theorem dX11_takeWalker_22 : decode cX11_takeWalker 22 = .ok (.iconst 1, 1) := by decide +kernel
theorem dX11_takeWalker_23 : decode cX11_takeWalker 23 = .ok (.aload_n 0, 1) := by decide +kernel
theorem dX11_takeWalker_24 : decode cX11_takeWalker 24 = .ok (.getfield 143, 3) := by decide +kernel
theorem dX11_takeWalker_27 : decode cX11_takeWalker 27 = .ok (.ishl, 1) := by decide +kernel
theorem dX11_takeWalker_28 : decode cX11_takeWalker 28 = .ok (.iconst 1, 1) := by decide +kernel
theorem dX11_takeWalker_29 : decode cX11_takeWalker 29 = .ok (.isub, 1) := by decide +kernel
theorem dX11_takeWalker_30 : decode cX11_takeWalker 30 = .ok (.invokevirtual 146, 3) := by decide +kernel
theorem dX11_takeWalker_33 : decode cX11_takeWalker 33 = .ok (.istore_n 2, 1) := by decide +kernel
theorem dX11_takeWalker_34 : decode cX11_takeWalker 34 = .ok (.iload_n 2, 1) := by decide +kernel
theorem dX11_takeWalker_35 : decode cX11_takeWalker 35 = .ok (.ifCond .le 7, 3) := by decide +kernel
theorem dX11_takeWalker_38 : decode cX11_takeWalker 38 = .ok (.iload_n 2, 1) := by decide +kernel
theorem dX11_takeWalker_39 : decode cX11_takeWalker 39 = .ok (.goto 15, 3) := by decide +kernel
theorem dX11_takeWalker_42 : decode cX11_takeWalker 42 = .ok (.aload_n 0, 1) := by decide +kernel
theorem dX11_takeWalker_43 : decode cX11_takeWalker 43 = .ok (.aload_n 0, 1) := by decide +kernel
theorem dX11_takeWalker_44 : decode cX11_takeWalker 44 = .ok (.getfield 56, 3) := by decide +kernel
theorem dX11_takeWalker_47 : decode cX11_takeWalker 47 = .ok (.iload_n 1, 1) := by decide +kernel
theorem dX11_takeWalker_48 : decode cX11_takeWalker 48 = .ok (.iconst 1, 1) := by decide +kernel
theorem dX11_takeWalker_49 : decode cX11_takeWalker 49 = .ok (.bipush 9, 2) := by decide +kernel
theorem dX11_takeWalker_51 : decode cX11_takeWalker 51 = .ok (.invokevirtual 146, 3) := by decide +kernel
theorem dX11_takeWalker_54 : decode cX11_takeWalker 54 = .ok (.istore_n 2, 1) := by decide +kernel
theorem dX11_takeWalker_55 : decode cX11_takeWalker 55 = .ok (.iload_n 2, 1) := by decide +kernel
theorem dX11_takeWalker_56 : decode cX11_takeWalker 56 = .ok (.ifCond .le 7, 3) := by decide +kernel
theorem dX11_takeWalker_59 : decode cX11_takeWalker 59 = .ok (.iload_n 2, 1) := by decide +kernel
theorem dX11_takeWalker_60 : decode cX11_takeWalker 60 = .ok (.goto 21, 3) := by decide +kernel
theorem dX11_takeWalker_63 : decode cX11_takeWalker 63 = .ok (.aload_n 0, 1) := by decide +kernel
theorem dX11_takeWalker_64 : decode cX11_takeWalker 64 = .ok (.aload_n 0, 1) := by decide +kernel
theorem dX11_takeWalker_65 : decode cX11_takeWalker 65 = .ok (.getfield 59, 3) := by decide +kernel
theorem dX11_takeWalker_68 : decode cX11_takeWalker 68 = .ok (.iload_n 1, 1) := by decide +kernel
theorem dX11_takeWalker_69 : decode cX11_takeWalker 69 = .ok (.iconst 0, 1) := by decide +kernel
theorem dX11_takeWalker_70 : decode cX11_takeWalker 70 = .ok (.iconst 1, 1) := by decide +kernel
theorem dX11_takeWalker_71 : decode cX11_takeWalker 71 = .ok (.aload_n 0, 1) := by decide +kernel
theorem dX11_takeWalker_72 : decode cX11_takeWalker 72 = .ok (.getfield 150, 3) := by decide +kernel
theorem dX11_takeWalker_75 : decode cX11_takeWalker 75 = .ok (.ishl, 1) := by decide +kernel
theorem dX11_takeWalker_76 : decode cX11_takeWalker 76 = .ok (.iconst 1, 1) := by decide +kernel
theorem dX11_takeWalker_77 : decode cX11_takeWalker 77 = .ok (.isub, 1) := by decide +kernel
theorem dX11_takeWalker_78 : decode cX11_takeWalker 78 = .ok (.invokevirtual 146, 3) := by decide +kernel
theorem dX11_takeWalker_81 : decode cX11_takeWalker 81 = .ok (.ireturn, 1) := by decide +kernel
set_option maxHeartbeats 4000000 in
set_option maxRecDepth 20000 in
theorem en_X11_takeWalker {M : jw_Mem} {Q : Int32 → jw_Mem → Prop}  (h : (∀ M1 : jw_Mem, M1 = jw_up M 11 0 26 ((M 11 0 26) + 1) → (jw_M 2 mX11_into [vr 11 0, vr 49 0, vi (M 11 0 26), vi 0, vi (((1 : Int32) <<< ((M1 11 0 20) &&& 31)) - 1)] M1 (fun x2 M3 => ((x2 ≤ 0 → (jw_M 2 mX11_into [vr 11 0, vr 50 0, vi (M 11 0 26), vi 1, vi 9] M3 (fun x4 M5 => ((x4 ≤ 0 → (jw_M 2 mX11_into [vr 11 0, vr 51 0, vi (M 11 0 26), vi 0, vi (((1 : Int32) <<< ((M5 11 0 22) &&& 31)) - 1)] M5 (fun x6 M7 => Q x6 M7))) ∧ (¬ x4 ≤ 0 → Q x4 M5))))) ∧ (¬ x2 ≤ 0 → ((x2 ≤ 0 → (jw_M 2 mX11_into [vr 11 0, vr 51 0, vi (M 11 0 26), vi 0, vi (((1 : Int32) <<< ((M3 11 0 22) &&& 31)) - 1)] M3 (fun x8 M9 => Q x8 M9))) ∧ (¬ x2 ≤ 0 → Q x2 M3)))))))) : jw_M 3 mX11_takeWalker [vr 11 0] M Q := by
  refine jw_M.of (by decide) (Nat.le_of_ble_eq_true rfl) ?_
  show jw_J 3 mX11_takeWalker 0 [(0, vr 11 0)] [] M Q
  refine jr_aload_n (pc := 0) dX11_takeWalker_0 rfl 0 rfl ?_
  refine jr_get (pc := 1) (v := vi (M 11 0 26)) fg_X11_157 (by decide) rfl dX11_takeWalker_1 ?_
  refine jr_istore_n (pc := 4) (lv' := [(1, vi (M 11 0 26)), (0, vr 11 0)]) dX11_takeWalker_4 rfl (by decide) rfl ?_
  refine jr_aload_n (pc := 5) dX11_takeWalker_5 rfl 1 rfl ?_
  refine jr_dup_r (pc := 6) dX11_takeWalker_6 ?_
  refine jr_get (pc := 7) (v := vi (M 11 0 26)) fg_X11_157 (by decide) rfl dX11_takeWalker_7 ?_
  refine jr_iconst (pc := 10) (v := 1) dX11_takeWalker_10 (by decide) ?_
  refine jr_iadd (pc := 11) dX11_takeWalker_11 ?_
  refine jr_put (pc := 12) fp_X11_157 (by decide) (Or.inl ⟨_, _, _, rfl, by decide +kernel⟩) dX11_takeWalker_12 ?_
  replace h := h _ rfl
  generalize jw_up M 11 0 26 ((M 11 0 26) + 1) = M1 at h ⊢
  refine jr_aload_n (pc := 15) dX11_takeWalker_15 rfl 1 rfl ?_
  refine jr_aload_n (pc := 16) dX11_takeWalker_16 rfl 1 rfl ?_
  refine jr_get (pc := 17) (v := vr 49 0) fg_X11_53 (by decide) rfl dX11_takeWalker_17 ?_
  refine jr_iload_n (pc := 20) dX11_takeWalker_20 rfl 0 rfl ?_
  refine jr_iconst (pc := 21) (v := 0) dX11_takeWalker_21 (by decide) ?_
  refine jr_iconst (pc := 22) (v := 1) dX11_takeWalker_22 (by decide) ?_
  refine jr_aload_n (pc := 23) dX11_takeWalker_23 rfl 1 rfl ?_
  refine jr_get (pc := 24) (v := vi (M1 11 0 20)) fg_X11_143 (by decide) rfl dX11_takeWalker_24 ?_
  refine jr_ishl (pc := 27) dX11_takeWalker_27 ?_
  refine jr_iconst (pc := 28) (v := 1) dX11_takeWalker_28 (by decide) ?_
  refine jr_isub (pc := 29) dX11_takeWalker_29 ?_
  refine jr_callV (pc := 30) (d' := 2) (mt' := mX11_into) (k := 11) (n := 0) (As := [vr 49 0, vi (M 11 0 26), vi 0, vi (((1 : Int32) <<< ((M1 11 0 20) &&& 31)) - 1)]) (st := []) fc_X11_146 (by decide) (by decide) (Nat.le_of_ble_eq_true rfl) rfl dX11_takeWalker_30 (jw_M.mono h (fun x2 M3 h => ?_))
  show jw_J 3 mX11_takeWalker 33 [(1, vi (M 11 0 26)), (0, vr 11 0)] [vi x2] M3 Q
  refine jr_istore_n (pc := 33) (lv' := [(2, vi x2), (1, vi (M 11 0 26)), (0, vr 11 0)]) dX11_takeWalker_33 rfl (by decide) rfl ?_
  refine jr_iload_n (pc := 34) dX11_takeWalker_34 rfl 0 rfl ?_
  refine jr_if_le (pc := 35) (tgt := 42) dX11_takeWalker_35 (by decide) (fun c => ?_) (fun c => ?_)
  · replace h := h.1 c
    refine jr_aload_n (pc := 42) dX11_takeWalker_42 rfl 2 rfl ?_
    refine jr_aload_n (pc := 43) dX11_takeWalker_43 rfl 2 rfl ?_
    refine jr_get (pc := 44) (v := vr 50 0) fg_X11_56 (by decide) rfl dX11_takeWalker_44 ?_
    refine jr_iload_n (pc := 47) dX11_takeWalker_47 rfl 1 rfl ?_
    refine jr_iconst (pc := 48) (v := 1) dX11_takeWalker_48 (by decide) ?_
    refine jr_bipush (pc := 49) (v := 9) dX11_takeWalker_49 (by decide) ?_
    refine jr_callV (pc := 51) (d' := 2) (mt' := mX11_into) (k := 11) (n := 0) (As := [vr 50 0, vi (M 11 0 26), vi 1, vi 9]) (st := []) fc_X11_146 (by decide) (by decide) (Nat.le_of_ble_eq_true rfl) rfl dX11_takeWalker_51 (jw_M.mono h (fun x4 M5 h => ?_))
    show jw_J 3 mX11_takeWalker 54 [(2, vi x2), (1, vi (M 11 0 26)), (0, vr 11 0)] [vi x4] M5 Q
    refine jr_istore_n (pc := 54) (lv' := [(2, vi x4), (1, vi (M 11 0 26)), (0, vr 11 0)]) dX11_takeWalker_54 rfl (by decide) rfl ?_
    refine jr_iload_n (pc := 55) dX11_takeWalker_55 rfl 0 rfl ?_
    refine jr_if_le (pc := 56) (tgt := 63) dX11_takeWalker_56 (by decide) (fun c => ?_) (fun c => ?_)
    · replace h := h.1 c
      refine jr_aload_n (pc := 63) dX11_takeWalker_63 rfl 2 rfl ?_
      refine jr_aload_n (pc := 64) dX11_takeWalker_64 rfl 2 rfl ?_
      refine jr_get (pc := 65) (v := vr 51 0) fg_X11_59 (by decide) rfl dX11_takeWalker_65 ?_
      refine jr_iload_n (pc := 68) dX11_takeWalker_68 rfl 1 rfl ?_
      refine jr_iconst (pc := 69) (v := 0) dX11_takeWalker_69 (by decide) ?_
      refine jr_iconst (pc := 70) (v := 1) dX11_takeWalker_70 (by decide) ?_
      refine jr_aload_n (pc := 71) dX11_takeWalker_71 rfl 2 rfl ?_
      refine jr_get (pc := 72) (v := vi (M5 11 0 22)) fg_X11_150 (by decide) rfl dX11_takeWalker_72 ?_
      refine jr_ishl (pc := 75) dX11_takeWalker_75 ?_
      refine jr_iconst (pc := 76) (v := 1) dX11_takeWalker_76 (by decide) ?_
      refine jr_isub (pc := 77) dX11_takeWalker_77 ?_
      refine jr_callV (pc := 78) (d' := 2) (mt' := mX11_into) (k := 11) (n := 0) (As := [vr 51 0, vi (M 11 0 26), vi 0, vi (((1 : Int32) <<< ((M5 11 0 22) &&& 31)) - 1)]) (st := []) fc_X11_146 (by decide) (by decide) (Nat.le_of_ble_eq_true rfl) rfl dX11_takeWalker_78 (jw_M.mono h (fun x6 M7 h => ?_))
      show jw_J 3 mX11_takeWalker 81 [(2, vi x4), (1, vi (M 11 0 26)), (0, vr 11 0)] [vi x6] M7 Q
      exact jr_iret (pc := 81) rfl dX11_takeWalker_81 h
    · replace h := h.2 c
      refine jr_iload_n (pc := 59) dX11_takeWalker_59 rfl 0 rfl ?_
      refine jr_goto (pc := 60) (tgt := 81) dX11_takeWalker_60 (by decide) ?_
      exact jr_iret (pc := 81) rfl dX11_takeWalker_81 h
  · replace h := h.2 c
    refine jr_iload_n (pc := 38) dX11_takeWalker_38 rfl 0 rfl ?_
    refine jr_goto (pc := 39) (tgt := 54) dX11_takeWalker_39 (by decide) ?_
    refine jr_istore_n (pc := 54) (lv' := [(2, vi x2), (1, vi (M 11 0 26)), (0, vr 11 0)]) dX11_takeWalker_54 rfl (by decide) rfl ?_
    refine jr_iload_n (pc := 55) dX11_takeWalker_55 rfl 0 rfl ?_
    refine jr_if_le (pc := 56) (tgt := 63) dX11_takeWalker_56 (by decide) (fun c => ?_) (fun c => ?_)
    · replace h := h.1 c
      refine jr_aload_n (pc := 63) dX11_takeWalker_63 rfl 2 rfl ?_
      refine jr_aload_n (pc := 64) dX11_takeWalker_64 rfl 2 rfl ?_
      refine jr_get (pc := 65) (v := vr 51 0) fg_X11_59 (by decide) rfl dX11_takeWalker_65 ?_
      refine jr_iload_n (pc := 68) dX11_takeWalker_68 rfl 1 rfl ?_
      refine jr_iconst (pc := 69) (v := 0) dX11_takeWalker_69 (by decide) ?_
      refine jr_iconst (pc := 70) (v := 1) dX11_takeWalker_70 (by decide) ?_
      refine jr_aload_n (pc := 71) dX11_takeWalker_71 rfl 2 rfl ?_
      refine jr_get (pc := 72) (v := vi (M3 11 0 22)) fg_X11_150 (by decide) rfl dX11_takeWalker_72 ?_
      refine jr_ishl (pc := 75) dX11_takeWalker_75 ?_
      refine jr_iconst (pc := 76) (v := 1) dX11_takeWalker_76 (by decide) ?_
      refine jr_isub (pc := 77) dX11_takeWalker_77 ?_
      refine jr_callV (pc := 78) (d' := 2) (mt' := mX11_into) (k := 11) (n := 0) (As := [vr 51 0, vi (M 11 0 26), vi 0, vi (((1 : Int32) <<< ((M3 11 0 22) &&& 31)) - 1)]) (st := []) fc_X11_146 (by decide) (by decide) (Nat.le_of_ble_eq_true rfl) rfl dX11_takeWalker_78 (jw_M.mono h (fun x8 M9 h => ?_))
      show jw_J 3 mX11_takeWalker 81 [(2, vi x2), (1, vi (M 11 0 26)), (0, vr 11 0)] [vi x8] M9 Q
      exact jr_iret (pc := 81) rfl dX11_takeWalker_81 h
    · replace h := h.2 c
      refine jr_iload_n (pc := 59) dX11_takeWalker_59 rfl 0 rfl ?_
      refine jr_goto (pc := 60) (tgt := 81) dX11_takeWalker_60 (by decide) ?_
      exact jr_iret (pc := 81) rfl dX11_takeWalker_81 h
theorem dX11_isFull_0 : decode cX11_isFull 0 = .ok (.iload_n 1, 1) := by decide +kernel
theorem dX11_isFull_1 : decode cX11_isFull 1 = .ok (.tableswitch 69 0 2 #[27, 40, 54], 27) := by decide +kernel
theorem dX11_isFull_28 : decode cX11_isFull 28 = .ok (.aload_n 0, 1) := by decide +kernel
theorem dX11_isFull_29 : decode cX11_isFull 29 = .ok (.getfield 140, 3) := by decide +kernel
theorem dX11_isFull_32 : decode cX11_isFull 32 = .ok (.ifCond .le 7, 3) := by decide +kernel
theorem dX11_isFull_35 : decode cX11_isFull 35 = .ok (.iconst 1, 1) := by decide +kernel
theorem dX11_isFull_36 : decode cX11_isFull 36 = .ok (.goto 4, 3) := by decide +kernel
theorem dX11_isFull_39 : decode cX11_isFull 39 = .ok (.iconst 0, 1) := by decide +kernel
theorem dX11_isFull_40 : decode cX11_isFull 40 = .ok (.ireturn, 1) := by decide +kernel
theorem dX11_isFull_41 : decode cX11_isFull 41 = .ok (.aload_n 0, 1) := by decide +kernel
theorem dX11_isFull_42 : decode cX11_isFull 42 = .ok (.getfield 143, 3) := by decide +kernel
theorem dX11_isFull_45 : decode cX11_isFull 45 = .ok (.iconst 5, 1) := by decide +kernel
theorem dX11_isFull_46 : decode cX11_isFull 46 = .ok (.if_icmp .ne 7, 3) := by decide +kernel
theorem dX11_isFull_49 : decode cX11_isFull 49 = .ok (.iconst 1, 1) := by decide +kernel
theorem dX11_isFull_50 : decode cX11_isFull 50 = .ok (.goto 4, 3) := by decide +kernel
theorem dX11_isFull_53 : decode cX11_isFull 53 = .ok (.iconst 0, 1) := by decide +kernel
theorem dX11_isFull_54 : decode cX11_isFull 54 = .ok (.ireturn, 1) := by decide +kernel
theorem dX11_isFull_55 : decode cX11_isFull 55 = .ok (.aload_n 0, 1) := by decide +kernel
theorem dX11_isFull_56 : decode cX11_isFull 56 = .ok (.getfield 150, 3) := by decide +kernel
theorem dX11_isFull_59 : decode cX11_isFull 59 = .ok (.bipush 6, 2) := by decide +kernel
theorem dX11_isFull_61 : decode cX11_isFull 61 = .ok (.if_icmp .ne 7, 3) := by decide +kernel
theorem dX11_isFull_64 : decode cX11_isFull 64 = .ok (.iconst 1, 1) := by decide +kernel
theorem dX11_isFull_65 : decode cX11_isFull 65 = .ok (.goto 4, 3) := by decide +kernel
theorem dX11_isFull_68 : decode cX11_isFull 68 = .ok (.iconst 0, 1) := by decide +kernel
theorem dX11_isFull_69 : decode cX11_isFull 69 = .ok (.ireturn, 1) := by decide +kernel
theorem dX11_isFull_70 : decode cX11_isFull 70 = .ok (.aload_n 0, 1) := by decide +kernel
theorem dX11_isFull_71 : decode cX11_isFull 71 = .ok (.getfield 157, 3) := by decide +kernel
theorem dX11_isFull_74 : decode cX11_isFull 74 = .ok (.bipush 7, 2) := by decide +kernel
theorem dX11_isFull_76 : decode cX11_isFull 76 = .ok (.if_icmp .ne 7, 3) := by decide +kernel
theorem dX11_isFull_79 : decode cX11_isFull 79 = .ok (.iconst 1, 1) := by decide +kernel
theorem dX11_isFull_80 : decode cX11_isFull 80 = .ok (.goto 4, 3) := by decide +kernel
theorem dX11_isFull_83 : decode cX11_isFull 83 = .ok (.iconst 0, 1) := by decide +kernel
theorem dX11_isFull_84 : decode cX11_isFull 84 = .ok (.ireturn, 1) := by decide +kernel
set_option maxHeartbeats 4000000 in
set_option maxRecDepth 20000 in
theorem en_X11_isFull {a1 : Int32} {M : jw_Mem} {Q : Int32 → jw_Mem → Prop}  (h : ((a1.toInt < 0 ∨ 2 < a1.toInt → ((¬ (M 11 0 26) = 7 → Q 0 M) ∧ ((M 11 0 26) = 7 → Q 1 M))) ∧ (a1.toInt = 0 → (((M 11 0 19) ≤ 0 → Q 0 M) ∧ (¬ (M 11 0 19) ≤ 0 → Q 1 M))) ∧ (a1.toInt = 1 → ((¬ (M 11 0 20) = 5 → Q 0 M) ∧ ((M 11 0 20) = 5 → Q 1 M))) ∧ (a1.toInt = 2 → ((¬ (M 11 0 22) = 6 → Q 0 M) ∧ ((M 11 0 22) = 6 → Q 1 M))))) : jw_M 0 mX11_isFull [vr 11 0, vi a1] M Q := by
  refine jw_M.of (by decide) (Nat.le_of_ble_eq_true rfl) ?_
  show jw_J 0 mX11_isFull 0 [(0, vr 11 0), (1, vi a1)] [] M Q
  refine jr_iload_n (pc := 0) dX11_isFull_0 rfl 1 rfl ?_
  refine jr_tsw (pc := 1) dX11_isFull_1 (tgt := 70) (by decide) (by decide) (fun c => ?_) (fun j c c2 => ?_)
  · replace h := h.1 c
    refine jr_aload_n (pc := 70) dX11_isFull_70 rfl 0 rfl ?_
    refine jr_get (pc := 71) (v := vi (M 11 0 26)) fg_X11_157 (by decide) rfl dX11_isFull_71 ?_
    refine jr_bipush (pc := 74) (v := 7) dX11_isFull_74 (by decide) ?_
    refine jr_icmp_ne (pc := 76) (tgt := 83) dX11_isFull_76 (by decide) (fun c => ?_) (fun c => ?_)
    · replace h := h.1 c
      refine jr_iconst (pc := 83) (v := 0) dX11_isFull_83 (by decide) ?_
      exact jr_zret (pc := 84) rfl dX11_isFull_84 (Or.inl rfl) h
    · replace h := h.2 c
      refine jr_iconst (pc := 79) (v := 1) dX11_isFull_79 (by decide) ?_
      refine jr_goto (pc := 80) (tgt := 84) dX11_isFull_80 (by decide) ?_
      exact jr_zret (pc := 84) rfl dX11_isFull_84 (Or.inr rfl) h
  · have hj : j = 0 ∨ j = 1 ∨ j = 2 := by omega
    rcases hj with rfl | rfl | rfl
    · replace h := h.2.1 (c.trans (by decide))
      refine ⟨27, 28, rfl, by decide, ?_⟩
      refine jr_aload_n (pc := 28) dX11_isFull_28 rfl 0 rfl ?_
      refine jr_get (pc := 29) (v := vi (M 11 0 19)) fg_X11_140 (by decide) rfl dX11_isFull_29 ?_
      refine jr_if_le (pc := 32) (tgt := 39) dX11_isFull_32 (by decide) (fun c => ?_) (fun c => ?_)
      · replace h := h.1 c
        refine jr_iconst (pc := 39) (v := 0) dX11_isFull_39 (by decide) ?_
        exact jr_zret (pc := 40) rfl dX11_isFull_40 (Or.inl rfl) h
      · replace h := h.2 c
        refine jr_iconst (pc := 35) (v := 1) dX11_isFull_35 (by decide) ?_
        refine jr_goto (pc := 36) (tgt := 40) dX11_isFull_36 (by decide) ?_
        exact jr_zret (pc := 40) rfl dX11_isFull_40 (Or.inr rfl) h
    · replace h := h.2.2.1 (c.trans (by decide))
      refine ⟨40, 41, rfl, by decide, ?_⟩
      refine jr_aload_n (pc := 41) dX11_isFull_41 rfl 0 rfl ?_
      refine jr_get (pc := 42) (v := vi (M 11 0 20)) fg_X11_143 (by decide) rfl dX11_isFull_42 ?_
      refine jr_iconst (pc := 45) (v := 5) dX11_isFull_45 (by decide) ?_
      refine jr_icmp_ne (pc := 46) (tgt := 53) dX11_isFull_46 (by decide) (fun c => ?_) (fun c => ?_)
      · replace h := h.1 c
        refine jr_iconst (pc := 53) (v := 0) dX11_isFull_53 (by decide) ?_
        exact jr_zret (pc := 54) rfl dX11_isFull_54 (Or.inl rfl) h
      · replace h := h.2 c
        refine jr_iconst (pc := 49) (v := 1) dX11_isFull_49 (by decide) ?_
        refine jr_goto (pc := 50) (tgt := 54) dX11_isFull_50 (by decide) ?_
        exact jr_zret (pc := 54) rfl dX11_isFull_54 (Or.inr rfl) h
    · replace h := h.2.2.2 (c.trans (by decide))
      refine ⟨54, 55, rfl, by decide, ?_⟩
      refine jr_aload_n (pc := 55) dX11_isFull_55 rfl 0 rfl ?_
      refine jr_get (pc := 56) (v := vi (M 11 0 22)) fg_X11_150 (by decide) rfl dX11_isFull_56 ?_
      refine jr_bipush (pc := 59) (v := 6) dX11_isFull_59 (by decide) ?_
      refine jr_icmp_ne (pc := 61) (tgt := 68) dX11_isFull_61 (by decide) (fun c => ?_) (fun c => ?_)
      · replace h := h.1 c
        refine jr_iconst (pc := 68) (v := 0) dX11_isFull_68 (by decide) ?_
        exact jr_zret (pc := 69) rfl dX11_isFull_69 (Or.inl rfl) h
      · replace h := h.2 c
        refine jr_iconst (pc := 64) (v := 1) dX11_isFull_64 (by decide) ?_
        refine jr_goto (pc := 65) (tgt := 69) dX11_isFull_65 (by decide) ?_
        exact jr_zret (pc := 69) rfl dX11_isFull_69 (Or.inr rfl) h
theorem dX11_takeClause_0 : decode cX11_takeClause 0 = .ok (.aload_n 0, 1) := by decide +kernel
theorem dX11_takeClause_1 : decode cX11_takeClause 1 = .ok (.invokevirtual 119, 3) := by decide +kernel
theorem dX11_takeClause_4 : decode cX11_takeClause 4 = .ok (.istore_n 1, 1) := by decide +kernel
theorem dX11_takeClause_5 : decode cX11_takeClause 5 = .ok (.iload_n 1, 1) := by decide +kernel
theorem dX11_takeClause_6 : decode cX11_takeClause 6 = .ok (.bipush 116, 2) := by decide +kernel
theorem dX11_takeClause_8 : decode cX11_takeClause 8 = .ok (.if_icmp .ne 7, 3) := by decide +kernel
theorem dX11_takeClause_11 : decode cX11_takeClause 11 = .ok (.iconst 0, 1) := by decide +kernel
theorem dX11_takeClause_12 : decode cX11_takeClause 12 = .ok (.goto 34, 3) := by decide +kernel
theorem dX11_takeClause_15 : decode cX11_takeClause 15 = .ok (.iload_n 1, 1) := by decide +kernel
theorem dX11_takeClause_16 : decode cX11_takeClause 16 = .ok (.bipush 112, 2) := by decide +kernel
theorem dX11_takeClause_18 : decode cX11_takeClause 18 = .ok (.if_icmp .ne 7, 3) := by decide +kernel
theorem dX11_takeClause_21 : decode cX11_takeClause 21 = .ok (.iconst 1, 1) := by decide +kernel
theorem dX11_takeClause_22 : decode cX11_takeClause 22 = .ok (.goto 24, 3) := by decide +kernel
theorem dX11_takeClause_25 : decode cX11_takeClause 25 = .ok (.iload_n 1, 1) := by decide +kernel
theorem dX11_takeClause_26 : decode cX11_takeClause 26 = .ok (.bipush 115, 2) := by decide +kernel
theorem dX11_takeClause_28 : decode cX11_takeClause 28 = .ok (.if_icmp .ne 7, 3) := by decide +kernel
theorem dX11_takeClause_31 : decode cX11_takeClause 31 = .ok (.iconst 2, 1) := by decide +kernel
theorem dX11_takeClause_32 : decode cX11_takeClause 32 = .ok (.goto 14, 3) := by decide +kernel
theorem dX11_takeClause_35 : decode cX11_takeClause 35 = .ok (.iload_n 1, 1) := by decide +kernel
theorem dX11_takeClause_36 : decode cX11_takeClause 36 = .ok (.bipush 119, 2) := by decide +kernel
theorem dX11_takeClause_38 : decode cX11_takeClause 38 = .ok (.if_icmp .ne 7, 3) := by decide +kernel
theorem dX11_takeClause_41 : decode cX11_takeClause 41 = .ok (.iconst 3, 1) := by decide +kernel
theorem dX11_takeClause_42 : decode cX11_takeClause 42 = .ok (.goto 4, 3) := by decide +kernel
theorem dX11_takeClause_45 : decode cX11_takeClause 45 = .ok (.iconst (-1), 1) := by decide +kernel
theorem dX11_takeClause_46 : decode cX11_takeClause 46 = .ok (.istore_n 2, 1) := by decide +kernel
theorem dX11_takeClause_47 : decode cX11_takeClause 47 = .ok (.iload_n 2, 1) := by decide +kernel
theorem dX11_takeClause_48 : decode cX11_takeClause 48 = .ok (.iconst 1, 1) := by decide +kernel
theorem dX11_takeClause_49 : decode cX11_takeClause 49 = .ok (.if_icmp .eq 8, 3) := by decide +kernel
theorem dX11_takeClause_52 : decode cX11_takeClause 52 = .ok (.iload_n 2, 1) := by decide +kernel
theorem dX11_takeClause_53 : decode cX11_takeClause 53 = .ok (.iconst 2, 1) := by decide +kernel
theorem dX11_takeClause_54 : decode cX11_takeClause 54 = .ok (.if_icmp .ne 14, 3) := by decide +kernel
theorem dX11_takeClause_57 : decode cX11_takeClause 57 = .ok (.aload_n 0, 1) := by decide +kernel
theorem dX11_takeClause_58 : decode cX11_takeClause 58 = .ok (.getfield 157, 3) := by decide +kernel
theorem dX11_takeClause_61 : decode cX11_takeClause 61 = .ok (.ifCond .le 7, 3) := by decide +kernel
theorem dX11_takeClause_64 : decode cX11_takeClause 64 = .ok (.iconst 1, 1) := by decide +kernel
theorem dX11_takeClause_65 : decode cX11_takeClause 65 = .ok (.goto 4, 3) := by decide +kernel
theorem dX11_takeClause_68 : decode cX11_takeClause 68 = .ok (.iconst 0, 1) := by decide +kernel
theorem dX11_takeClause_69 : decode cX11_takeClause 69 = .ok (.istore_n 3, 1) := by decide +kernel
theorem dX11_takeClause_70 : decode cX11_takeClause 70 = .ok (.iload_n 2, 1) := by decide +kernel
theorem dX11_takeClause_71 : decode cX11_takeClause 71 = .ok (.ifCond .lt 18, 3) := by decide +kernel
theorem dX11_takeClause_74 : decode cX11_takeClause 74 = .ok (.iload_n 2, 1) := by decide +kernel
theorem dX11_takeClause_75 : decode cX11_takeClause 75 = .ok (.ifCond .le 10, 3) := by decide +kernel
theorem dX11_takeClause_78 : decode cX11_takeClause 78 = .ok (.aload_n 0, 1) := by decide +kernel
theorem dX11_takeClause_79 : decode cX11_takeClause 79 = .ok (.getfield 140, 3) := by decide +kernel
theorem dX11_takeClause_82 : decode cX11_takeClause 82 = .ok (.ifCond .eq 7, 3) := by decide +kernel
theorem dX11_takeClause_85 : decode cX11_takeClause 85 = .ok (.iload_n 3, 1) := by decide +kernel
theorem dX11_takeClause_86 : decode cX11_takeClause 86 = .ok (.ifCond .eq 13, 3) := by decide +kernel
theorem dX11_takeClause_89 : decode cX11_takeClause 89 = .ok (.aload_n 0, 1) := by decide +kernel
theorem dX11_takeClause_90 : decode cX11_takeClause 90 = .ok (.iconst 1, 1) := by decide +kernel
theorem dX11_takeClause_91 : decode cX11_takeClause 91 = .ok (.aload_n 0, 1) := by decide +kernel
theorem dX11_takeClause_92 : decode cX11_takeClause 92 = .ok (.getfield 116, 3) := by decide +kernel
theorem dX11_takeClause_95 : decode cX11_takeClause 95 = .ok (.invokevirtual 127, 3) := by decide +kernel
theorem dX11_takeClause_98 : decode cX11_takeClause 98 = .ok (.ireturn, 1) := by decide +kernel
theorem dX11_takeClause_99 : decode cX11_takeClause 99 = .ok (.aload_n 0, 1) := by decide +kernel
theorem dX11_takeClause_100 : decode cX11_takeClause 100 = .ok (.iload_n 2, 1) := by decide +kernel
theorem dX11_takeClause_101 : decode cX11_takeClause 101 = .ok (.invokevirtual 160, 3) := by decide +kernel
theorem dX11_takeClause_104 : decode cX11_takeClause 104 = .ok (.ifCond .eq 13, 3) := by decide +kernel
theorem dX11_takeClause_107 : decode cX11_takeClause 107 = .ok (.aload_n 0, 1) := by decide +kernel
theorem dX11_takeClause_108 : decode cX11_takeClause 108 = .ok (.iconst 3, 1) := by decide +kernel
theorem dX11_takeClause_109 : decode cX11_takeClause 109 = .ok (.aload_n 0, 1) := by decide +kernel
theorem dX11_takeClause_110 : decode cX11_takeClause 110 = .ok (.getfield 116, 3) := by decide +kernel
theorem dX11_takeClause_113 : decode cX11_takeClause 113 = .ok (.invokevirtual 127, 3) := by decide +kernel
theorem dX11_takeClause_116 : decode cX11_takeClause 116 = .ok (.ireturn, 1) := by decide +kernel
theorem dX11_takeClause_117 : decode cX11_takeClause 117 = .ok (.aload_n 0, 1) := by decide +kernel
theorem dX11_takeClause_118 : decode cX11_takeClause 118 = .ok (.dup, 1) := by decide +kernel
theorem dX11_takeClause_119 : decode cX11_takeClause 119 = .ok (.getfield 116, 3) := by decide +kernel
theorem dX11_takeClause_122 : decode cX11_takeClause 122 = .ok (.iconst 1, 1) := by decide +kernel
theorem dX11_takeClause_123 : decode cX11_takeClause 123 = .ok (.iadd, 1) := by decide +kernel
theorem dX11_takeClause_124 : decode cX11_takeClause 124 = .ok (.putfield 116, 3) := by decide +kernel
theorem dX11_takeClause_127 : decode cX11_takeClause 127 = .ok (.iload_n 2, 1) := by decide +kernel
theorem dX11_takeClause_128 : decode cX11_takeClause 128 = .ok (.ifCond .ne 10, 3) := by decide +kernel
theorem dX11_takeClause_131 : decode cX11_takeClause 131 = .ok (.aload_n 0, 1) := by decide +kernel
theorem dX11_takeClause_132 : decode cX11_takeClause 132 = .ok (.invokevirtual 164, 3) := by decide +kernel
theorem dX11_takeClause_135 : decode cX11_takeClause 135 = .ok (.goto 31, 3) := by decide +kernel
theorem dX11_takeClause_138 : decode cX11_takeClause 138 = .ok (.iload_n 2, 1) := by decide +kernel
theorem dX11_takeClause_139 : decode cX11_takeClause 139 = .ok (.iconst 1, 1) := by decide +kernel
theorem dX11_takeClause_140 : decode cX11_takeClause 140 = .ok (.if_icmp .ne 10, 3) := by decide +kernel
theorem dX11_takeClause_143 : decode cX11_takeClause 143 = .ok (.aload_n 0, 1) := by decide +kernel
theorem dX11_takeClause_144 : decode cX11_takeClause 144 = .ok (.invokevirtual 167, 3) := by decide +kernel
theorem dX11_takeClause_147 : decode cX11_takeClause 147 = .ok (.goto 19, 3) := by decide +kernel
theorem dX11_takeClause_150 : decode cX11_takeClause 150 = .ok (.iload_n 2, 1) := by decide +kernel
theorem dX11_takeClause_151 : decode cX11_takeClause 151 = .ok (.iconst 2, 1) := by decide +kernel
theorem dX11_takeClause_152 : decode cX11_takeClause 152 = .ok (.if_icmp .ne 10, 3) := by decide +kernel
theorem dX11_takeClause_155 : decode cX11_takeClause 155 = .ok (.aload_n 0, 1) := by decide +kernel
theorem dX11_takeClause_156 : decode cX11_takeClause 156 = .ok (.invokevirtual 170, 3) := by decide +kernel
theorem dX11_takeClause_159 : decode cX11_takeClause 159 = .ok (.goto 7, 3) := by decide +kernel
theorem dX11_takeClause_162 : decode cX11_takeClause 162 = .ok (.aload_n 0, 1) := by decide +kernel
theorem dX11_takeClause_163 : decode cX11_takeClause 163 = .ok (.invokevirtual 173, 3) := by decide +kernel
theorem dX11_takeClause_166 : decode cX11_takeClause 166 = .ok (.istore 4, 2) := by decide +kernel
theorem dX11_takeClause_168 : decode cX11_takeClause 168 = .ok (.iload 4, 2) := by decide +kernel
theorem dX11_takeClause_170 : decode cX11_takeClause 170 = .ok (.ifCond .ne 22, 3) := by decide +kernel
theorem dX11_takeClause_173 : decode cX11_takeClause 173 = .ok (.aload_n 0, 1) := by decide +kernel
theorem dX11_takeClause_174 : decode cX11_takeClause 174 = .ok (.invokevirtual 119, 3) := by decide +kernel
theorem dX11_takeClause_177 : decode cX11_takeClause 177 = .ok (.bipush 59, 2) := by decide +kernel
theorem dX11_takeClause_179 : decode cX11_takeClause 179 = .ok (.if_icmp .eq 13, 3) := by decide +kernel
theorem dX11_takeClause_182 : decode cX11_takeClause 182 = .ok (.aload_n 0, 1) := by decide +kernel
theorem dX11_takeClause_183 : decode cX11_takeClause 183 = .ok (.iconst 1, 1) := by decide +kernel
theorem dX11_takeClause_184 : decode cX11_takeClause 184 = .ok (.aload_n 0, 1) := by decide +kernel
theorem dX11_takeClause_185 : decode cX11_takeClause 185 = .ok (.getfield 116, 3) := by decide +kernel
theorem dX11_takeClause_188 : decode cX11_takeClause 188 = .ok (.invokevirtual 127, 3) := by decide +kernel
theorem dX11_takeClause_191 : decode cX11_takeClause 191 = .ok (.ireturn, 1) := by decide +kernel
theorem dX11_takeClause_192 : decode cX11_takeClause 192 = .ok (.aload_n 0, 1) := by decide +kernel
theorem dX11_takeClause_193 : decode cX11_takeClause 193 = .ok (.dup, 1) := by decide +kernel
theorem dX11_takeClause_194 : decode cX11_takeClause 194 = .ok (.getfield 116, 3) := by decide +kernel
theorem dX11_takeClause_197 : decode cX11_takeClause 197 = .ok (.iconst 1, 1) := by decide +kernel
theorem dX11_takeClause_198 : decode cX11_takeClause 198 = .ok (.iadd, 1) := by decide +kernel
theorem dX11_takeClause_199 : decode cX11_takeClause 199 = .ok (.putfield 116, 3) := by decide +kernel
theorem dX11_takeClause_202 : decode cX11_takeClause 202 = .ok (.iload 4, 2) := by decide +kernel
theorem dX11_takeClause_204 : decode cX11_takeClause 204 = .ok (.ireturn, 1) := by decide +kernel
set_option maxHeartbeats 4000000 in
set_option maxRecDepth 20000 in
theorem en_X11_takeClause {M : jw_Mem} {Q : Int32 → jw_Mem → Prop}  (h : (jw_M 0 mX11_here [vr 11 0] M (fun x1 M2 => ((¬ x1 = 116 → ((¬ x1 = 112 → ((¬ x1 = 115 → ((¬ x1 = 119 → (jw_M 0 mX11_fails [vr 11 0, vi 1, vi (M2 11 0 16)] M2 (fun x3 M4 => Q x3 M4))) ∧ (x1 = 119 → (((M2 11 0 19) = 0 → (jw_M 0 mX11_fails [vr 11 0, vi 1, vi (M2 11 0 16)] M2 (fun x5 M6 => Q x5 M6))) ∧ (¬ (M2 11 0 19) = 0 → (jw_M 0 mX11_isFull [vr 11 0, vi 3] M2 (fun x7 M8 => ((x7 = 0 → (∀ M9 : jw_Mem, M9 = jw_up M8 11 0 16 ((M8 11 0 16) + 1) → (jw_M 3 mX11_takeWalker [vr 11 0] M9 (fun x10 M11 => ((¬ x10 = 0 → (∀ M12 : jw_Mem, M12 = jw_up M11 11 0 16 ((M11 11 0 16) + 1) → Q x10 M12)) ∧ (x10 = 0 → (jw_M 0 mX11_here [vr 11 0] M11 (fun x13 M14 => ((x13 = 59 → (∀ M15 : jw_Mem, M15 = jw_up M14 11 0 16 ((M14 11 0 16) + 1) → Q x10 M15)) ∧ (¬ x13 = 59 → (jw_M 0 mX11_fails [vr 11 0, vi 1, vi (M14 11 0 16)] M14 (fun x16 M17 => Q x16 M17)))))))))))) ∧ (¬ x7 = 0 → (jw_M 0 mX11_fails [vr 11 0, vi 3, vi (M8 11 0 16)] M8 (fun x18 M19 => Q x18 M19))))))))))) ∧ (x1 = 115 → (((M2 11 0 26) ≤ 0 → (((M2 11 0 19) = 0 → (jw_M 0 mX11_fails [vr 11 0, vi 1, vi (M2 11 0 16)] M2 (fun x20 M21 => Q x20 M21))) ∧ (¬ (M2 11 0 19) = 0 → (jw_M 0 mX11_isFull [vr 11 0, vi 2] M2 (fun x22 M23 => ((x22 = 0 → (∀ M24 : jw_Mem, M24 = jw_up M23 11 0 16 ((M23 11 0 16) + 1) → (jw_M 3 mX11_takeStatue [vr 11 0] M24 (fun x25 M26 => ((¬ x25 = 0 → (∀ M27 : jw_Mem, M27 = jw_up M26 11 0 16 ((M26 11 0 16) + 1) → Q x25 M27)) ∧ (x25 = 0 → (jw_M 0 mX11_here [vr 11 0] M26 (fun x28 M29 => ((x28 = 59 → (∀ M30 : jw_Mem, M30 = jw_up M29 11 0 16 ((M29 11 0 16) + 1) → Q x25 M30)) ∧ (¬ x28 = 59 → (jw_M 0 mX11_fails [vr 11 0, vi 1, vi (M29 11 0 16)] M29 (fun x31 M32 => Q x31 M32)))))))))))) ∧ (¬ x22 = 0 → (jw_M 0 mX11_fails [vr 11 0, vi 3, vi (M23 11 0 16)] M23 (fun x33 M34 => Q x33 M34))))))))) ∧ (¬ (M2 11 0 26) ≤ 0 → (((M2 11 0 19) = 0 → (jw_M 0 mX11_fails [vr 11 0, vi 1, vi (M2 11 0 16)] M2 (fun x35 M36 => Q x35 M36))) ∧ (¬ (M2 11 0 19) = 0 → (jw_M 0 mX11_fails [vr 11 0, vi 1, vi (M2 11 0 16)] M2 (fun x37 M38 => Q x37 M38))))))))) ∧ (x1 = 112 → (((M2 11 0 26) ≤ 0 → (((M2 11 0 19) = 0 → (jw_M 0 mX11_fails [vr 11 0, vi 1, vi (M2 11 0 16)] M2 (fun x39 M40 => Q x39 M40))) ∧ (¬ (M2 11 0 19) = 0 → (jw_M 0 mX11_isFull [vr 11 0, vi 1] M2 (fun x41 M42 => ((x41 = 0 → (∀ M43 : jw_Mem, M43 = jw_up M42 11 0 16 ((M42 11 0 16) + 1) → (jw_M 3 mX11_takePlinth [vr 11 0] M43 (fun x44 M45 => ((¬ x44 = 0 → (∀ M46 : jw_Mem, M46 = jw_up M45 11 0 16 ((M45 11 0 16) + 1) → Q x44 M46)) ∧ (x44 = 0 → (jw_M 0 mX11_here [vr 11 0] M45 (fun x47 M48 => ((x47 = 59 → (∀ M49 : jw_Mem, M49 = jw_up M48 11 0 16 ((M48 11 0 16) + 1) → Q x44 M49)) ∧ (¬ x47 = 59 → (jw_M 0 mX11_fails [vr 11 0, vi 1, vi (M48 11 0 16)] M48 (fun x50 M51 => Q x50 M51)))))))))))) ∧ (¬ x41 = 0 → (jw_M 0 mX11_fails [vr 11 0, vi 3, vi (M42 11 0 16)] M42 (fun x52 M53 => Q x52 M53))))))))) ∧ (¬ (M2 11 0 26) ≤ 0 → (((M2 11 0 19) = 0 → (jw_M 0 mX11_fails [vr 11 0, vi 1, vi (M2 11 0 16)] M2 (fun x54 M55 => Q x54 M55))) ∧ (¬ (M2 11 0 19) = 0 → (jw_M 0 mX11_fails [vr 11 0, vi 1, vi (M2 11 0 16)] M2 (fun x56 M57 => Q x56 M57))))))))) ∧ (x1 = 116 → (jw_M 0 mX11_isFull [vr 11 0, vi 0] M2 (fun x58 M59 => ((x58 = 0 → (∀ M60 : jw_Mem, M60 = jw_up M59 11 0 16 ((M59 11 0 16) + 1) → (jw_M 2 mX11_takeTerm [vr 11 0] M60 (fun x61 M62 => ((¬ x61 = 0 → (∀ M63 : jw_Mem, M63 = jw_up M62 11 0 16 ((M62 11 0 16) + 1) → Q x61 M63)) ∧ (x61 = 0 → (jw_M 0 mX11_here [vr 11 0] M62 (fun x64 M65 => ((x64 = 59 → (∀ M66 : jw_Mem, M66 = jw_up M65 11 0 16 ((M65 11 0 16) + 1) → Q x61 M66)) ∧ (¬ x64 = 59 → (jw_M 0 mX11_fails [vr 11 0, vi 1, vi (M65 11 0 16)] M65 (fun x67 M68 => Q x67 M68)))))))))))) ∧ (¬ x58 = 0 → (jw_M 0 mX11_fails [vr 11 0, vi 3, vi (M59 11 0 16)] M59 (fun x69 M70 => Q x69 M70))))))))))) : jw_M 4 mX11_takeClause [vr 11 0] M Q := by
  refine jw_M.of (by decide) (Nat.le_of_ble_eq_true rfl) ?_
  show jw_J 4 mX11_takeClause 0 [(0, vr 11 0)] [] M Q
  refine jr_aload_n (pc := 0) dX11_takeClause_0 rfl 0 rfl ?_
  refine jr_callV (pc := 1) (d' := 0) (mt' := mX11_here) (k := 11) (n := 0) (As := []) (st := []) fc_X11_119 (by decide) (by decide) (Nat.le_of_ble_eq_true rfl) rfl dX11_takeClause_1 (jw_M.mono h (fun x1 M2 h => ?_))
  show jw_J 4 mX11_takeClause 4 [(0, vr 11 0)] [vi x1] M2 Q
  refine jr_istore_n (pc := 4) (lv' := [(1, vi x1), (0, vr 11 0)]) dX11_takeClause_4 rfl (by decide) rfl ?_
  refine jr_iload_n (pc := 5) dX11_takeClause_5 rfl 0 rfl ?_
  refine jr_bipush (pc := 6) (v := 116) dX11_takeClause_6 (by decide) ?_
  refine jr_icmp_ne (pc := 8) (tgt := 15) dX11_takeClause_8 (by decide) (fun c => ?_) (fun c => ?_)
  · replace h := h.1 c
    refine jr_iload_n (pc := 15) dX11_takeClause_15 rfl 0 rfl ?_
    refine jr_bipush (pc := 16) (v := 112) dX11_takeClause_16 (by decide) ?_
    refine jr_icmp_ne (pc := 18) (tgt := 25) dX11_takeClause_18 (by decide) (fun c => ?_) (fun c => ?_)
    · replace h := h.1 c
      refine jr_iload_n (pc := 25) dX11_takeClause_25 rfl 0 rfl ?_
      refine jr_bipush (pc := 26) (v := 115) dX11_takeClause_26 (by decide) ?_
      refine jr_icmp_ne (pc := 28) (tgt := 35) dX11_takeClause_28 (by decide) (fun c => ?_) (fun c => ?_)
      · replace h := h.1 c
        refine jr_iload_n (pc := 35) dX11_takeClause_35 rfl 0 rfl ?_
        refine jr_bipush (pc := 36) (v := 119) dX11_takeClause_36 (by decide) ?_
        refine jr_icmp_ne (pc := 38) (tgt := 45) dX11_takeClause_38 (by decide) (fun c => ?_) (fun c => ?_)
        · replace h := h.1 c
          refine jr_iconst (pc := 45) (v := (-1)) dX11_takeClause_45 (by decide) ?_
          refine jr_istore_n (pc := 46) (lv' := [(2, vi (-1)), (1, vi x1), (0, vr 11 0)]) dX11_takeClause_46 rfl (by decide) rfl ?_
          refine jr_iload_n (pc := 47) dX11_takeClause_47 rfl 0 rfl ?_
          refine jr_iconst (pc := 48) (v := 1) dX11_takeClause_48 (by decide) ?_
          refine jr_icmp_eq (pc := 49) (tgt := 57) dX11_takeClause_49 (by decide) (fun c => absurd c (by decide)) (fun _ => ?_)
          refine jr_iload_n (pc := 52) dX11_takeClause_52 rfl 0 rfl ?_
          refine jr_iconst (pc := 53) (v := 2) dX11_takeClause_53 (by decide) ?_
          refine jr_icmp_ne (pc := 54) (tgt := 68) dX11_takeClause_54 (by decide) (fun _ => ?_) (fun c => absurd c (by decide))
          refine jr_iconst (pc := 68) (v := 0) dX11_takeClause_68 (by decide) ?_
          refine jr_istore_n (pc := 69) (lv' := [(3, vi 0), (2, vi (-1)), (1, vi x1), (0, vr 11 0)]) dX11_takeClause_69 rfl (by decide) rfl ?_
          refine jr_iload_n (pc := 70) dX11_takeClause_70 rfl 1 rfl ?_
          refine jr_if_lt (pc := 71) (tgt := 89) dX11_takeClause_71 (by decide) (fun _ => ?_) (fun c => absurd c (by decide))
          refine jr_aload_n (pc := 89) dX11_takeClause_89 rfl 3 rfl ?_
          refine jr_iconst (pc := 90) (v := 1) dX11_takeClause_90 (by decide) ?_
          refine jr_aload_n (pc := 91) dX11_takeClause_91 rfl 3 rfl ?_
          refine jr_get (pc := 92) (v := vi (M2 11 0 16)) fg_X11_116 (by decide) rfl dX11_takeClause_92 ?_
          refine jr_callV (pc := 95) (d' := 0) (mt' := mX11_fails) (k := 11) (n := 0) (As := [vi 1, vi (M2 11 0 16)]) (st := []) fc_X11_127 (by decide) (by decide) (Nat.le_of_ble_eq_true rfl) rfl dX11_takeClause_95 (jw_M.mono h (fun x3 M4 h => ?_))
          show jw_J 4 mX11_takeClause 98 [(3, vi 0), (2, vi (-1)), (1, vi x1), (0, vr 11 0)] [vi x3] M4 Q
          exact jr_iret (pc := 98) rfl dX11_takeClause_98 h
        · replace h := h.2 c
          refine jr_iconst (pc := 41) (v := 3) dX11_takeClause_41 (by decide) ?_
          refine jr_goto (pc := 42) (tgt := 46) dX11_takeClause_42 (by decide) ?_
          refine jr_istore_n (pc := 46) (lv' := [(2, vi 3), (1, vi x1), (0, vr 11 0)]) dX11_takeClause_46 rfl (by decide) rfl ?_
          refine jr_iload_n (pc := 47) dX11_takeClause_47 rfl 0 rfl ?_
          refine jr_iconst (pc := 48) (v := 1) dX11_takeClause_48 (by decide) ?_
          refine jr_icmp_eq (pc := 49) (tgt := 57) dX11_takeClause_49 (by decide) (fun c => absurd c (by decide)) (fun _ => ?_)
          refine jr_iload_n (pc := 52) dX11_takeClause_52 rfl 0 rfl ?_
          refine jr_iconst (pc := 53) (v := 2) dX11_takeClause_53 (by decide) ?_
          refine jr_icmp_ne (pc := 54) (tgt := 68) dX11_takeClause_54 (by decide) (fun _ => ?_) (fun c => absurd c (by decide))
          refine jr_iconst (pc := 68) (v := 0) dX11_takeClause_68 (by decide) ?_
          refine jr_istore_n (pc := 69) (lv' := [(3, vi 0), (2, vi 3), (1, vi x1), (0, vr 11 0)]) dX11_takeClause_69 rfl (by decide) rfl ?_
          refine jr_iload_n (pc := 70) dX11_takeClause_70 rfl 1 rfl ?_
          refine jr_if_lt (pc := 71) (tgt := 89) dX11_takeClause_71 (by decide) (fun c => absurd c (by decide)) (fun _ => ?_)
          refine jr_iload_n (pc := 74) dX11_takeClause_74 rfl 1 rfl ?_
          refine jr_if_le (pc := 75) (tgt := 85) dX11_takeClause_75 (by decide) (fun c => absurd c (by decide)) (fun _ => ?_)
          refine jr_aload_n (pc := 78) dX11_takeClause_78 rfl 3 rfl ?_
          refine jr_get (pc := 79) (v := vi (M2 11 0 19)) fg_X11_140 (by decide) rfl dX11_takeClause_79 ?_
          refine jr_if_eq (pc := 82) (tgt := 89) dX11_takeClause_82 (by decide) (fun c => ?_) (fun c => ?_)
          · replace h := h.1 c
            refine jr_aload_n (pc := 89) dX11_takeClause_89 rfl 3 rfl ?_
            refine jr_iconst (pc := 90) (v := 1) dX11_takeClause_90 (by decide) ?_
            refine jr_aload_n (pc := 91) dX11_takeClause_91 rfl 3 rfl ?_
            refine jr_get (pc := 92) (v := vi (M2 11 0 16)) fg_X11_116 (by decide) rfl dX11_takeClause_92 ?_
            refine jr_callV (pc := 95) (d' := 0) (mt' := mX11_fails) (k := 11) (n := 0) (As := [vi 1, vi (M2 11 0 16)]) (st := []) fc_X11_127 (by decide) (by decide) (Nat.le_of_ble_eq_true rfl) rfl dX11_takeClause_95 (jw_M.mono h (fun x5 M6 h => ?_))
            show jw_J 4 mX11_takeClause 98 [(3, vi 0), (2, vi 3), (1, vi x1), (0, vr 11 0)] [vi x5] M6 Q
            exact jr_iret (pc := 98) rfl dX11_takeClause_98 h
          · replace h := h.2 c
            refine jr_iload_n (pc := 85) dX11_takeClause_85 rfl 0 rfl ?_
            refine jr_if_eq (pc := 86) (tgt := 99) dX11_takeClause_86 (by decide) (fun _ => ?_) (fun c => absurd c (by decide))
            refine jr_aload_n (pc := 99) dX11_takeClause_99 rfl 3 rfl ?_
            refine jr_iload_n (pc := 100) dX11_takeClause_100 rfl 1 rfl ?_
            refine jr_callV (pc := 101) (d' := 0) (mt' := mX11_isFull) (k := 11) (n := 0) (As := [vi 3]) (st := []) fc_X11_160 (by decide) (by decide) (Nat.le_of_ble_eq_true rfl) rfl dX11_takeClause_101 (jw_M.mono h (fun x7 M8 h => ?_))
            show jw_J 4 mX11_takeClause 104 [(3, vi 0), (2, vi 3), (1, vi x1), (0, vr 11 0)] [vi x7] M8 Q
            refine jr_if_eq (pc := 104) (tgt := 117) dX11_takeClause_104 (by decide) (fun c => ?_) (fun c => ?_)
            · replace h := h.1 c
              refine jr_aload_n (pc := 117) dX11_takeClause_117 rfl 3 rfl ?_
              refine jr_dup_r (pc := 118) dX11_takeClause_118 ?_
              refine jr_get (pc := 119) (v := vi (M8 11 0 16)) fg_X11_116 (by decide) rfl dX11_takeClause_119 ?_
              refine jr_iconst (pc := 122) (v := 1) dX11_takeClause_122 (by decide) ?_
              refine jr_iadd (pc := 123) dX11_takeClause_123 ?_
              refine jr_put (pc := 124) fp_X11_116 (by decide) (Or.inl ⟨_, _, _, rfl, by decide +kernel⟩) dX11_takeClause_124 ?_
              replace h := h _ rfl
              generalize jw_up M8 11 0 16 ((M8 11 0 16) + 1) = M9 at h ⊢
              refine jr_iload_n (pc := 127) dX11_takeClause_127 rfl 1 rfl ?_
              refine jr_if_ne (pc := 128) (tgt := 138) dX11_takeClause_128 (by decide) (fun _ => ?_) (fun c => absurd c (by decide))
              refine jr_iload_n (pc := 138) dX11_takeClause_138 rfl 1 rfl ?_
              refine jr_iconst (pc := 139) (v := 1) dX11_takeClause_139 (by decide) ?_
              refine jr_icmp_ne (pc := 140) (tgt := 150) dX11_takeClause_140 (by decide) (fun _ => ?_) (fun c => absurd c (by decide))
              refine jr_iload_n (pc := 150) dX11_takeClause_150 rfl 1 rfl ?_
              refine jr_iconst (pc := 151) (v := 2) dX11_takeClause_151 (by decide) ?_
              refine jr_icmp_ne (pc := 152) (tgt := 162) dX11_takeClause_152 (by decide) (fun _ => ?_) (fun c => absurd c (by decide))
              refine jr_aload_n (pc := 162) dX11_takeClause_162 rfl 3 rfl ?_
              refine jr_callV (pc := 163) (d' := 3) (mt' := mX11_takeWalker) (k := 11) (n := 0) (As := []) (st := []) fc_X11_173 (by decide) (by decide) (Nat.le_of_ble_eq_true rfl) rfl dX11_takeClause_163 (jw_M.mono h (fun x10 M11 h => ?_))
              show jw_J 4 mX11_takeClause 166 [(3, vi 0), (2, vi 3), (1, vi x1), (0, vr 11 0)] [vi x10] M11 Q
              refine jr_istore (pc := 166) (lv' := [(4, vi x10), (3, vi 0), (2, vi 3), (1, vi x1), (0, vr 11 0)]) dX11_takeClause_166 (by decide) rfl ?_
              refine jr_iload (pc := 168) dX11_takeClause_168 0 rfl ?_
              refine jr_if_ne (pc := 170) (tgt := 192) dX11_takeClause_170 (by decide) (fun c => ?_) (fun c => ?_)
              · replace h := h.1 c
                refine jr_aload_n (pc := 192) dX11_takeClause_192 rfl 4 rfl ?_
                refine jr_dup_r (pc := 193) dX11_takeClause_193 ?_
                refine jr_get (pc := 194) (v := vi (M11 11 0 16)) fg_X11_116 (by decide) rfl dX11_takeClause_194 ?_
                refine jr_iconst (pc := 197) (v := 1) dX11_takeClause_197 (by decide) ?_
                refine jr_iadd (pc := 198) dX11_takeClause_198 ?_
                refine jr_put (pc := 199) fp_X11_116 (by decide) (Or.inl ⟨_, _, _, rfl, by decide +kernel⟩) dX11_takeClause_199 ?_
                replace h := h _ rfl
                generalize jw_up M11 11 0 16 ((M11 11 0 16) + 1) = M12 at h ⊢
                refine jr_iload (pc := 202) dX11_takeClause_202 0 rfl ?_
                exact jr_iret (pc := 204) rfl dX11_takeClause_204 h
              · replace h := h.2 c
                refine jr_aload_n (pc := 173) dX11_takeClause_173 rfl 4 rfl ?_
                refine jr_callV (pc := 174) (d' := 0) (mt' := mX11_here) (k := 11) (n := 0) (As := []) (st := []) fc_X11_119 (by decide) (by decide) (Nat.le_of_ble_eq_true rfl) rfl dX11_takeClause_174 (jw_M.mono h (fun x13 M14 h => ?_))
                show jw_J 4 mX11_takeClause 177 [(4, vi x10), (3, vi 0), (2, vi 3), (1, vi x1), (0, vr 11 0)] [vi x13] M14 Q
                refine jr_bipush (pc := 177) (v := 59) dX11_takeClause_177 (by decide) ?_
                refine jr_icmp_eq (pc := 179) (tgt := 192) dX11_takeClause_179 (by decide) (fun c => ?_) (fun c => ?_)
                · replace h := h.1 c
                  refine jr_aload_n (pc := 192) dX11_takeClause_192 rfl 4 rfl ?_
                  refine jr_dup_r (pc := 193) dX11_takeClause_193 ?_
                  refine jr_get (pc := 194) (v := vi (M14 11 0 16)) fg_X11_116 (by decide) rfl dX11_takeClause_194 ?_
                  refine jr_iconst (pc := 197) (v := 1) dX11_takeClause_197 (by decide) ?_
                  refine jr_iadd (pc := 198) dX11_takeClause_198 ?_
                  refine jr_put (pc := 199) fp_X11_116 (by decide) (Or.inl ⟨_, _, _, rfl, by decide +kernel⟩) dX11_takeClause_199 ?_
                  replace h := h _ rfl
                  generalize jw_up M14 11 0 16 ((M14 11 0 16) + 1) = M15 at h ⊢
                  refine jr_iload (pc := 202) dX11_takeClause_202 0 rfl ?_
                  exact jr_iret (pc := 204) rfl dX11_takeClause_204 h
                · replace h := h.2 c
                  refine jr_aload_n (pc := 182) dX11_takeClause_182 rfl 4 rfl ?_
                  refine jr_iconst (pc := 183) (v := 1) dX11_takeClause_183 (by decide) ?_
                  refine jr_aload_n (pc := 184) dX11_takeClause_184 rfl 4 rfl ?_
                  refine jr_get (pc := 185) (v := vi (M14 11 0 16)) fg_X11_116 (by decide) rfl dX11_takeClause_185 ?_
                  refine jr_callV (pc := 188) (d' := 0) (mt' := mX11_fails) (k := 11) (n := 0) (As := [vi 1, vi (M14 11 0 16)]) (st := []) fc_X11_127 (by decide) (by decide) (Nat.le_of_ble_eq_true rfl) rfl dX11_takeClause_188 (jw_M.mono h (fun x16 M17 h => ?_))
                  show jw_J 4 mX11_takeClause 191 [(4, vi x10), (3, vi 0), (2, vi 3), (1, vi x1), (0, vr 11 0)] [vi x16] M17 Q
                  exact jr_iret (pc := 191) rfl dX11_takeClause_191 h
            · replace h := h.2 c
              refine jr_aload_n (pc := 107) dX11_takeClause_107 rfl 3 rfl ?_
              refine jr_iconst (pc := 108) (v := 3) dX11_takeClause_108 (by decide) ?_
              refine jr_aload_n (pc := 109) dX11_takeClause_109 rfl 3 rfl ?_
              refine jr_get (pc := 110) (v := vi (M8 11 0 16)) fg_X11_116 (by decide) rfl dX11_takeClause_110 ?_
              refine jr_callV (pc := 113) (d' := 0) (mt' := mX11_fails) (k := 11) (n := 0) (As := [vi 3, vi (M8 11 0 16)]) (st := []) fc_X11_127 (by decide) (by decide) (Nat.le_of_ble_eq_true rfl) rfl dX11_takeClause_113 (jw_M.mono h (fun x18 M19 h => ?_))
              show jw_J 4 mX11_takeClause 116 [(3, vi 0), (2, vi 3), (1, vi x1), (0, vr 11 0)] [vi x18] M19 Q
              exact jr_iret (pc := 116) rfl dX11_takeClause_116 h
      · replace h := h.2 c
        refine jr_iconst (pc := 31) (v := 2) dX11_takeClause_31 (by decide) ?_
        refine jr_goto (pc := 32) (tgt := 46) dX11_takeClause_32 (by decide) ?_
        refine jr_istore_n (pc := 46) (lv' := [(2, vi 2), (1, vi x1), (0, vr 11 0)]) dX11_takeClause_46 rfl (by decide) rfl ?_
        refine jr_iload_n (pc := 47) dX11_takeClause_47 rfl 0 rfl ?_
        refine jr_iconst (pc := 48) (v := 1) dX11_takeClause_48 (by decide) ?_
        refine jr_icmp_eq (pc := 49) (tgt := 57) dX11_takeClause_49 (by decide) (fun c => absurd c (by decide)) (fun _ => ?_)
        refine jr_iload_n (pc := 52) dX11_takeClause_52 rfl 0 rfl ?_
        refine jr_iconst (pc := 53) (v := 2) dX11_takeClause_53 (by decide) ?_
        refine jr_icmp_ne (pc := 54) (tgt := 68) dX11_takeClause_54 (by decide) (fun c => absurd c (by decide)) (fun _ => ?_)
        refine jr_aload_n (pc := 57) dX11_takeClause_57 rfl 2 rfl ?_
        refine jr_get (pc := 58) (v := vi (M2 11 0 26)) fg_X11_157 (by decide) rfl dX11_takeClause_58 ?_
        refine jr_if_le (pc := 61) (tgt := 68) dX11_takeClause_61 (by decide) (fun c => ?_) (fun c => ?_)
        · replace h := h.1 c
          refine jr_iconst (pc := 68) (v := 0) dX11_takeClause_68 (by decide) ?_
          refine jr_istore_n (pc := 69) (lv' := [(3, vi 0), (2, vi 2), (1, vi x1), (0, vr 11 0)]) dX11_takeClause_69 rfl (by decide) rfl ?_
          refine jr_iload_n (pc := 70) dX11_takeClause_70 rfl 1 rfl ?_
          refine jr_if_lt (pc := 71) (tgt := 89) dX11_takeClause_71 (by decide) (fun c => absurd c (by decide)) (fun _ => ?_)
          refine jr_iload_n (pc := 74) dX11_takeClause_74 rfl 1 rfl ?_
          refine jr_if_le (pc := 75) (tgt := 85) dX11_takeClause_75 (by decide) (fun c => absurd c (by decide)) (fun _ => ?_)
          refine jr_aload_n (pc := 78) dX11_takeClause_78 rfl 3 rfl ?_
          refine jr_get (pc := 79) (v := vi (M2 11 0 19)) fg_X11_140 (by decide) rfl dX11_takeClause_79 ?_
          refine jr_if_eq (pc := 82) (tgt := 89) dX11_takeClause_82 (by decide) (fun c => ?_) (fun c => ?_)
          · replace h := h.1 c
            refine jr_aload_n (pc := 89) dX11_takeClause_89 rfl 3 rfl ?_
            refine jr_iconst (pc := 90) (v := 1) dX11_takeClause_90 (by decide) ?_
            refine jr_aload_n (pc := 91) dX11_takeClause_91 rfl 3 rfl ?_
            refine jr_get (pc := 92) (v := vi (M2 11 0 16)) fg_X11_116 (by decide) rfl dX11_takeClause_92 ?_
            refine jr_callV (pc := 95) (d' := 0) (mt' := mX11_fails) (k := 11) (n := 0) (As := [vi 1, vi (M2 11 0 16)]) (st := []) fc_X11_127 (by decide) (by decide) (Nat.le_of_ble_eq_true rfl) rfl dX11_takeClause_95 (jw_M.mono h (fun x20 M21 h => ?_))
            show jw_J 4 mX11_takeClause 98 [(3, vi 0), (2, vi 2), (1, vi x1), (0, vr 11 0)] [vi x20] M21 Q
            exact jr_iret (pc := 98) rfl dX11_takeClause_98 h
          · replace h := h.2 c
            refine jr_iload_n (pc := 85) dX11_takeClause_85 rfl 0 rfl ?_
            refine jr_if_eq (pc := 86) (tgt := 99) dX11_takeClause_86 (by decide) (fun _ => ?_) (fun c => absurd c (by decide))
            refine jr_aload_n (pc := 99) dX11_takeClause_99 rfl 3 rfl ?_
            refine jr_iload_n (pc := 100) dX11_takeClause_100 rfl 1 rfl ?_
            refine jr_callV (pc := 101) (d' := 0) (mt' := mX11_isFull) (k := 11) (n := 0) (As := [vi 2]) (st := []) fc_X11_160 (by decide) (by decide) (Nat.le_of_ble_eq_true rfl) rfl dX11_takeClause_101 (jw_M.mono h (fun x22 M23 h => ?_))
            show jw_J 4 mX11_takeClause 104 [(3, vi 0), (2, vi 2), (1, vi x1), (0, vr 11 0)] [vi x22] M23 Q
            refine jr_if_eq (pc := 104) (tgt := 117) dX11_takeClause_104 (by decide) (fun c => ?_) (fun c => ?_)
            · replace h := h.1 c
              refine jr_aload_n (pc := 117) dX11_takeClause_117 rfl 3 rfl ?_
              refine jr_dup_r (pc := 118) dX11_takeClause_118 ?_
              refine jr_get (pc := 119) (v := vi (M23 11 0 16)) fg_X11_116 (by decide) rfl dX11_takeClause_119 ?_
              refine jr_iconst (pc := 122) (v := 1) dX11_takeClause_122 (by decide) ?_
              refine jr_iadd (pc := 123) dX11_takeClause_123 ?_
              refine jr_put (pc := 124) fp_X11_116 (by decide) (Or.inl ⟨_, _, _, rfl, by decide +kernel⟩) dX11_takeClause_124 ?_
              replace h := h _ rfl
              generalize jw_up M23 11 0 16 ((M23 11 0 16) + 1) = M24 at h ⊢
              refine jr_iload_n (pc := 127) dX11_takeClause_127 rfl 1 rfl ?_
              refine jr_if_ne (pc := 128) (tgt := 138) dX11_takeClause_128 (by decide) (fun _ => ?_) (fun c => absurd c (by decide))
              refine jr_iload_n (pc := 138) dX11_takeClause_138 rfl 1 rfl ?_
              refine jr_iconst (pc := 139) (v := 1) dX11_takeClause_139 (by decide) ?_
              refine jr_icmp_ne (pc := 140) (tgt := 150) dX11_takeClause_140 (by decide) (fun _ => ?_) (fun c => absurd c (by decide))
              refine jr_iload_n (pc := 150) dX11_takeClause_150 rfl 1 rfl ?_
              refine jr_iconst (pc := 151) (v := 2) dX11_takeClause_151 (by decide) ?_
              refine jr_icmp_ne (pc := 152) (tgt := 162) dX11_takeClause_152 (by decide) (fun c => absurd c (by decide)) (fun _ => ?_)
              refine jr_aload_n (pc := 155) dX11_takeClause_155 rfl 3 rfl ?_
              refine jr_callV (pc := 156) (d' := 3) (mt' := mX11_takeStatue) (k := 11) (n := 0) (As := []) (st := []) fc_X11_170 (by decide) (by decide) (Nat.le_of_ble_eq_true rfl) rfl dX11_takeClause_156 (jw_M.mono h (fun x25 M26 h => ?_))
              show jw_J 4 mX11_takeClause 159 [(3, vi 0), (2, vi 2), (1, vi x1), (0, vr 11 0)] [vi x25] M26 Q
              refine jr_goto (pc := 159) (tgt := 166) dX11_takeClause_159 (by decide) ?_
              refine jr_istore (pc := 166) (lv' := [(4, vi x25), (3, vi 0), (2, vi 2), (1, vi x1), (0, vr 11 0)]) dX11_takeClause_166 (by decide) rfl ?_
              refine jr_iload (pc := 168) dX11_takeClause_168 0 rfl ?_
              refine jr_if_ne (pc := 170) (tgt := 192) dX11_takeClause_170 (by decide) (fun c => ?_) (fun c => ?_)
              · replace h := h.1 c
                refine jr_aload_n (pc := 192) dX11_takeClause_192 rfl 4 rfl ?_
                refine jr_dup_r (pc := 193) dX11_takeClause_193 ?_
                refine jr_get (pc := 194) (v := vi (M26 11 0 16)) fg_X11_116 (by decide) rfl dX11_takeClause_194 ?_
                refine jr_iconst (pc := 197) (v := 1) dX11_takeClause_197 (by decide) ?_
                refine jr_iadd (pc := 198) dX11_takeClause_198 ?_
                refine jr_put (pc := 199) fp_X11_116 (by decide) (Or.inl ⟨_, _, _, rfl, by decide +kernel⟩) dX11_takeClause_199 ?_
                replace h := h _ rfl
                generalize jw_up M26 11 0 16 ((M26 11 0 16) + 1) = M27 at h ⊢
                refine jr_iload (pc := 202) dX11_takeClause_202 0 rfl ?_
                exact jr_iret (pc := 204) rfl dX11_takeClause_204 h
              · replace h := h.2 c
                refine jr_aload_n (pc := 173) dX11_takeClause_173 rfl 4 rfl ?_
                refine jr_callV (pc := 174) (d' := 0) (mt' := mX11_here) (k := 11) (n := 0) (As := []) (st := []) fc_X11_119 (by decide) (by decide) (Nat.le_of_ble_eq_true rfl) rfl dX11_takeClause_174 (jw_M.mono h (fun x28 M29 h => ?_))
                show jw_J 4 mX11_takeClause 177 [(4, vi x25), (3, vi 0), (2, vi 2), (1, vi x1), (0, vr 11 0)] [vi x28] M29 Q
                refine jr_bipush (pc := 177) (v := 59) dX11_takeClause_177 (by decide) ?_
                refine jr_icmp_eq (pc := 179) (tgt := 192) dX11_takeClause_179 (by decide) (fun c => ?_) (fun c => ?_)
                · replace h := h.1 c
                  refine jr_aload_n (pc := 192) dX11_takeClause_192 rfl 4 rfl ?_
                  refine jr_dup_r (pc := 193) dX11_takeClause_193 ?_
                  refine jr_get (pc := 194) (v := vi (M29 11 0 16)) fg_X11_116 (by decide) rfl dX11_takeClause_194 ?_
                  refine jr_iconst (pc := 197) (v := 1) dX11_takeClause_197 (by decide) ?_
                  refine jr_iadd (pc := 198) dX11_takeClause_198 ?_
                  refine jr_put (pc := 199) fp_X11_116 (by decide) (Or.inl ⟨_, _, _, rfl, by decide +kernel⟩) dX11_takeClause_199 ?_
                  replace h := h _ rfl
                  generalize jw_up M29 11 0 16 ((M29 11 0 16) + 1) = M30 at h ⊢
                  refine jr_iload (pc := 202) dX11_takeClause_202 0 rfl ?_
                  exact jr_iret (pc := 204) rfl dX11_takeClause_204 h
                · replace h := h.2 c
                  refine jr_aload_n (pc := 182) dX11_takeClause_182 rfl 4 rfl ?_
                  refine jr_iconst (pc := 183) (v := 1) dX11_takeClause_183 (by decide) ?_
                  refine jr_aload_n (pc := 184) dX11_takeClause_184 rfl 4 rfl ?_
                  refine jr_get (pc := 185) (v := vi (M29 11 0 16)) fg_X11_116 (by decide) rfl dX11_takeClause_185 ?_
                  refine jr_callV (pc := 188) (d' := 0) (mt' := mX11_fails) (k := 11) (n := 0) (As := [vi 1, vi (M29 11 0 16)]) (st := []) fc_X11_127 (by decide) (by decide) (Nat.le_of_ble_eq_true rfl) rfl dX11_takeClause_188 (jw_M.mono h (fun x31 M32 h => ?_))
                  show jw_J 4 mX11_takeClause 191 [(4, vi x25), (3, vi 0), (2, vi 2), (1, vi x1), (0, vr 11 0)] [vi x31] M32 Q
                  exact jr_iret (pc := 191) rfl dX11_takeClause_191 h
            · replace h := h.2 c
              refine jr_aload_n (pc := 107) dX11_takeClause_107 rfl 3 rfl ?_
              refine jr_iconst (pc := 108) (v := 3) dX11_takeClause_108 (by decide) ?_
              refine jr_aload_n (pc := 109) dX11_takeClause_109 rfl 3 rfl ?_
              refine jr_get (pc := 110) (v := vi (M23 11 0 16)) fg_X11_116 (by decide) rfl dX11_takeClause_110 ?_
              refine jr_callV (pc := 113) (d' := 0) (mt' := mX11_fails) (k := 11) (n := 0) (As := [vi 3, vi (M23 11 0 16)]) (st := []) fc_X11_127 (by decide) (by decide) (Nat.le_of_ble_eq_true rfl) rfl dX11_takeClause_113 (jw_M.mono h (fun x33 M34 h => ?_))
              show jw_J 4 mX11_takeClause 116 [(3, vi 0), (2, vi 2), (1, vi x1), (0, vr 11 0)] [vi x33] M34 Q
              exact jr_iret (pc := 116) rfl dX11_takeClause_116 h
        · replace h := h.2 c
          refine jr_iconst (pc := 64) (v := 1) dX11_takeClause_64 (by decide) ?_
          refine jr_goto (pc := 65) (tgt := 69) dX11_takeClause_65 (by decide) ?_
          refine jr_istore_n (pc := 69) (lv' := [(3, vi 1), (2, vi 2), (1, vi x1), (0, vr 11 0)]) dX11_takeClause_69 rfl (by decide) rfl ?_
          refine jr_iload_n (pc := 70) dX11_takeClause_70 rfl 1 rfl ?_
          refine jr_if_lt (pc := 71) (tgt := 89) dX11_takeClause_71 (by decide) (fun c => absurd c (by decide)) (fun _ => ?_)
          refine jr_iload_n (pc := 74) dX11_takeClause_74 rfl 1 rfl ?_
          refine jr_if_le (pc := 75) (tgt := 85) dX11_takeClause_75 (by decide) (fun c => absurd c (by decide)) (fun _ => ?_)
          refine jr_aload_n (pc := 78) dX11_takeClause_78 rfl 3 rfl ?_
          refine jr_get (pc := 79) (v := vi (M2 11 0 19)) fg_X11_140 (by decide) rfl dX11_takeClause_79 ?_
          refine jr_if_eq (pc := 82) (tgt := 89) dX11_takeClause_82 (by decide) (fun c => ?_) (fun c => ?_)
          · replace h := h.1 c
            refine jr_aload_n (pc := 89) dX11_takeClause_89 rfl 3 rfl ?_
            refine jr_iconst (pc := 90) (v := 1) dX11_takeClause_90 (by decide) ?_
            refine jr_aload_n (pc := 91) dX11_takeClause_91 rfl 3 rfl ?_
            refine jr_get (pc := 92) (v := vi (M2 11 0 16)) fg_X11_116 (by decide) rfl dX11_takeClause_92 ?_
            refine jr_callV (pc := 95) (d' := 0) (mt' := mX11_fails) (k := 11) (n := 0) (As := [vi 1, vi (M2 11 0 16)]) (st := []) fc_X11_127 (by decide) (by decide) (Nat.le_of_ble_eq_true rfl) rfl dX11_takeClause_95 (jw_M.mono h (fun x35 M36 h => ?_))
            show jw_J 4 mX11_takeClause 98 [(3, vi 1), (2, vi 2), (1, vi x1), (0, vr 11 0)] [vi x35] M36 Q
            exact jr_iret (pc := 98) rfl dX11_takeClause_98 h
          · replace h := h.2 c
            refine jr_iload_n (pc := 85) dX11_takeClause_85 rfl 0 rfl ?_
            refine jr_if_eq (pc := 86) (tgt := 99) dX11_takeClause_86 (by decide) (fun c => absurd c (by decide)) (fun _ => ?_)
            refine jr_aload_n (pc := 89) dX11_takeClause_89 rfl 3 rfl ?_
            refine jr_iconst (pc := 90) (v := 1) dX11_takeClause_90 (by decide) ?_
            refine jr_aload_n (pc := 91) dX11_takeClause_91 rfl 3 rfl ?_
            refine jr_get (pc := 92) (v := vi (M2 11 0 16)) fg_X11_116 (by decide) rfl dX11_takeClause_92 ?_
            refine jr_callV (pc := 95) (d' := 0) (mt' := mX11_fails) (k := 11) (n := 0) (As := [vi 1, vi (M2 11 0 16)]) (st := []) fc_X11_127 (by decide) (by decide) (Nat.le_of_ble_eq_true rfl) rfl dX11_takeClause_95 (jw_M.mono h (fun x37 M38 h => ?_))
            show jw_J 4 mX11_takeClause 98 [(3, vi 1), (2, vi 2), (1, vi x1), (0, vr 11 0)] [vi x37] M38 Q
            exact jr_iret (pc := 98) rfl dX11_takeClause_98 h
    · replace h := h.2 c
      refine jr_iconst (pc := 21) (v := 1) dX11_takeClause_21 (by decide) ?_
      refine jr_goto (pc := 22) (tgt := 46) dX11_takeClause_22 (by decide) ?_
      refine jr_istore_n (pc := 46) (lv' := [(2, vi 1), (1, vi x1), (0, vr 11 0)]) dX11_takeClause_46 rfl (by decide) rfl ?_
      refine jr_iload_n (pc := 47) dX11_takeClause_47 rfl 0 rfl ?_
      refine jr_iconst (pc := 48) (v := 1) dX11_takeClause_48 (by decide) ?_
      refine jr_icmp_eq (pc := 49) (tgt := 57) dX11_takeClause_49 (by decide) (fun _ => ?_) (fun c => absurd c (by decide))
      refine jr_aload_n (pc := 57) dX11_takeClause_57 rfl 2 rfl ?_
      refine jr_get (pc := 58) (v := vi (M2 11 0 26)) fg_X11_157 (by decide) rfl dX11_takeClause_58 ?_
      refine jr_if_le (pc := 61) (tgt := 68) dX11_takeClause_61 (by decide) (fun c => ?_) (fun c => ?_)
      · replace h := h.1 c
        refine jr_iconst (pc := 68) (v := 0) dX11_takeClause_68 (by decide) ?_
        refine jr_istore_n (pc := 69) (lv' := [(3, vi 0), (2, vi 1), (1, vi x1), (0, vr 11 0)]) dX11_takeClause_69 rfl (by decide) rfl ?_
        refine jr_iload_n (pc := 70) dX11_takeClause_70 rfl 1 rfl ?_
        refine jr_if_lt (pc := 71) (tgt := 89) dX11_takeClause_71 (by decide) (fun c => absurd c (by decide)) (fun _ => ?_)
        refine jr_iload_n (pc := 74) dX11_takeClause_74 rfl 1 rfl ?_
        refine jr_if_le (pc := 75) (tgt := 85) dX11_takeClause_75 (by decide) (fun c => absurd c (by decide)) (fun _ => ?_)
        refine jr_aload_n (pc := 78) dX11_takeClause_78 rfl 3 rfl ?_
        refine jr_get (pc := 79) (v := vi (M2 11 0 19)) fg_X11_140 (by decide) rfl dX11_takeClause_79 ?_
        refine jr_if_eq (pc := 82) (tgt := 89) dX11_takeClause_82 (by decide) (fun c => ?_) (fun c => ?_)
        · replace h := h.1 c
          refine jr_aload_n (pc := 89) dX11_takeClause_89 rfl 3 rfl ?_
          refine jr_iconst (pc := 90) (v := 1) dX11_takeClause_90 (by decide) ?_
          refine jr_aload_n (pc := 91) dX11_takeClause_91 rfl 3 rfl ?_
          refine jr_get (pc := 92) (v := vi (M2 11 0 16)) fg_X11_116 (by decide) rfl dX11_takeClause_92 ?_
          refine jr_callV (pc := 95) (d' := 0) (mt' := mX11_fails) (k := 11) (n := 0) (As := [vi 1, vi (M2 11 0 16)]) (st := []) fc_X11_127 (by decide) (by decide) (Nat.le_of_ble_eq_true rfl) rfl dX11_takeClause_95 (jw_M.mono h (fun x39 M40 h => ?_))
          show jw_J 4 mX11_takeClause 98 [(3, vi 0), (2, vi 1), (1, vi x1), (0, vr 11 0)] [vi x39] M40 Q
          exact jr_iret (pc := 98) rfl dX11_takeClause_98 h
        · replace h := h.2 c
          refine jr_iload_n (pc := 85) dX11_takeClause_85 rfl 0 rfl ?_
          refine jr_if_eq (pc := 86) (tgt := 99) dX11_takeClause_86 (by decide) (fun _ => ?_) (fun c => absurd c (by decide))
          refine jr_aload_n (pc := 99) dX11_takeClause_99 rfl 3 rfl ?_
          refine jr_iload_n (pc := 100) dX11_takeClause_100 rfl 1 rfl ?_
          refine jr_callV (pc := 101) (d' := 0) (mt' := mX11_isFull) (k := 11) (n := 0) (As := [vi 1]) (st := []) fc_X11_160 (by decide) (by decide) (Nat.le_of_ble_eq_true rfl) rfl dX11_takeClause_101 (jw_M.mono h (fun x41 M42 h => ?_))
          show jw_J 4 mX11_takeClause 104 [(3, vi 0), (2, vi 1), (1, vi x1), (0, vr 11 0)] [vi x41] M42 Q
          refine jr_if_eq (pc := 104) (tgt := 117) dX11_takeClause_104 (by decide) (fun c => ?_) (fun c => ?_)
          · replace h := h.1 c
            refine jr_aload_n (pc := 117) dX11_takeClause_117 rfl 3 rfl ?_
            refine jr_dup_r (pc := 118) dX11_takeClause_118 ?_
            refine jr_get (pc := 119) (v := vi (M42 11 0 16)) fg_X11_116 (by decide) rfl dX11_takeClause_119 ?_
            refine jr_iconst (pc := 122) (v := 1) dX11_takeClause_122 (by decide) ?_
            refine jr_iadd (pc := 123) dX11_takeClause_123 ?_
            refine jr_put (pc := 124) fp_X11_116 (by decide) (Or.inl ⟨_, _, _, rfl, by decide +kernel⟩) dX11_takeClause_124 ?_
            replace h := h _ rfl
            generalize jw_up M42 11 0 16 ((M42 11 0 16) + 1) = M43 at h ⊢
            refine jr_iload_n (pc := 127) dX11_takeClause_127 rfl 1 rfl ?_
            refine jr_if_ne (pc := 128) (tgt := 138) dX11_takeClause_128 (by decide) (fun _ => ?_) (fun c => absurd c (by decide))
            refine jr_iload_n (pc := 138) dX11_takeClause_138 rfl 1 rfl ?_
            refine jr_iconst (pc := 139) (v := 1) dX11_takeClause_139 (by decide) ?_
            refine jr_icmp_ne (pc := 140) (tgt := 150) dX11_takeClause_140 (by decide) (fun c => absurd c (by decide)) (fun _ => ?_)
            refine jr_aload_n (pc := 143) dX11_takeClause_143 rfl 3 rfl ?_
            refine jr_callV (pc := 144) (d' := 3) (mt' := mX11_takePlinth) (k := 11) (n := 0) (As := []) (st := []) fc_X11_167 (by decide) (by decide) (Nat.le_of_ble_eq_true rfl) rfl dX11_takeClause_144 (jw_M.mono h (fun x44 M45 h => ?_))
            show jw_J 4 mX11_takeClause 147 [(3, vi 0), (2, vi 1), (1, vi x1), (0, vr 11 0)] [vi x44] M45 Q
            refine jr_goto (pc := 147) (tgt := 166) dX11_takeClause_147 (by decide) ?_
            refine jr_istore (pc := 166) (lv' := [(4, vi x44), (3, vi 0), (2, vi 1), (1, vi x1), (0, vr 11 0)]) dX11_takeClause_166 (by decide) rfl ?_
            refine jr_iload (pc := 168) dX11_takeClause_168 0 rfl ?_
            refine jr_if_ne (pc := 170) (tgt := 192) dX11_takeClause_170 (by decide) (fun c => ?_) (fun c => ?_)
            · replace h := h.1 c
              refine jr_aload_n (pc := 192) dX11_takeClause_192 rfl 4 rfl ?_
              refine jr_dup_r (pc := 193) dX11_takeClause_193 ?_
              refine jr_get (pc := 194) (v := vi (M45 11 0 16)) fg_X11_116 (by decide) rfl dX11_takeClause_194 ?_
              refine jr_iconst (pc := 197) (v := 1) dX11_takeClause_197 (by decide) ?_
              refine jr_iadd (pc := 198) dX11_takeClause_198 ?_
              refine jr_put (pc := 199) fp_X11_116 (by decide) (Or.inl ⟨_, _, _, rfl, by decide +kernel⟩) dX11_takeClause_199 ?_
              replace h := h _ rfl
              generalize jw_up M45 11 0 16 ((M45 11 0 16) + 1) = M46 at h ⊢
              refine jr_iload (pc := 202) dX11_takeClause_202 0 rfl ?_
              exact jr_iret (pc := 204) rfl dX11_takeClause_204 h
            · replace h := h.2 c
              refine jr_aload_n (pc := 173) dX11_takeClause_173 rfl 4 rfl ?_
              refine jr_callV (pc := 174) (d' := 0) (mt' := mX11_here) (k := 11) (n := 0) (As := []) (st := []) fc_X11_119 (by decide) (by decide) (Nat.le_of_ble_eq_true rfl) rfl dX11_takeClause_174 (jw_M.mono h (fun x47 M48 h => ?_))
              show jw_J 4 mX11_takeClause 177 [(4, vi x44), (3, vi 0), (2, vi 1), (1, vi x1), (0, vr 11 0)] [vi x47] M48 Q
              refine jr_bipush (pc := 177) (v := 59) dX11_takeClause_177 (by decide) ?_
              refine jr_icmp_eq (pc := 179) (tgt := 192) dX11_takeClause_179 (by decide) (fun c => ?_) (fun c => ?_)
              · replace h := h.1 c
                refine jr_aload_n (pc := 192) dX11_takeClause_192 rfl 4 rfl ?_
                refine jr_dup_r (pc := 193) dX11_takeClause_193 ?_
                refine jr_get (pc := 194) (v := vi (M48 11 0 16)) fg_X11_116 (by decide) rfl dX11_takeClause_194 ?_
                refine jr_iconst (pc := 197) (v := 1) dX11_takeClause_197 (by decide) ?_
                refine jr_iadd (pc := 198) dX11_takeClause_198 ?_
                refine jr_put (pc := 199) fp_X11_116 (by decide) (Or.inl ⟨_, _, _, rfl, by decide +kernel⟩) dX11_takeClause_199 ?_
                replace h := h _ rfl
                generalize jw_up M48 11 0 16 ((M48 11 0 16) + 1) = M49 at h ⊢
                refine jr_iload (pc := 202) dX11_takeClause_202 0 rfl ?_
                exact jr_iret (pc := 204) rfl dX11_takeClause_204 h
              · replace h := h.2 c
                refine jr_aload_n (pc := 182) dX11_takeClause_182 rfl 4 rfl ?_
                refine jr_iconst (pc := 183) (v := 1) dX11_takeClause_183 (by decide) ?_
                refine jr_aload_n (pc := 184) dX11_takeClause_184 rfl 4 rfl ?_
                refine jr_get (pc := 185) (v := vi (M48 11 0 16)) fg_X11_116 (by decide) rfl dX11_takeClause_185 ?_
                refine jr_callV (pc := 188) (d' := 0) (mt' := mX11_fails) (k := 11) (n := 0) (As := [vi 1, vi (M48 11 0 16)]) (st := []) fc_X11_127 (by decide) (by decide) (Nat.le_of_ble_eq_true rfl) rfl dX11_takeClause_188 (jw_M.mono h (fun x50 M51 h => ?_))
                show jw_J 4 mX11_takeClause 191 [(4, vi x44), (3, vi 0), (2, vi 1), (1, vi x1), (0, vr 11 0)] [vi x50] M51 Q
                exact jr_iret (pc := 191) rfl dX11_takeClause_191 h
          · replace h := h.2 c
            refine jr_aload_n (pc := 107) dX11_takeClause_107 rfl 3 rfl ?_
            refine jr_iconst (pc := 108) (v := 3) dX11_takeClause_108 (by decide) ?_
            refine jr_aload_n (pc := 109) dX11_takeClause_109 rfl 3 rfl ?_
            refine jr_get (pc := 110) (v := vi (M42 11 0 16)) fg_X11_116 (by decide) rfl dX11_takeClause_110 ?_
            refine jr_callV (pc := 113) (d' := 0) (mt' := mX11_fails) (k := 11) (n := 0) (As := [vi 3, vi (M42 11 0 16)]) (st := []) fc_X11_127 (by decide) (by decide) (Nat.le_of_ble_eq_true rfl) rfl dX11_takeClause_113 (jw_M.mono h (fun x52 M53 h => ?_))
            show jw_J 4 mX11_takeClause 116 [(3, vi 0), (2, vi 1), (1, vi x1), (0, vr 11 0)] [vi x52] M53 Q
            exact jr_iret (pc := 116) rfl dX11_takeClause_116 h
      · replace h := h.2 c
        refine jr_iconst (pc := 64) (v := 1) dX11_takeClause_64 (by decide) ?_
        refine jr_goto (pc := 65) (tgt := 69) dX11_takeClause_65 (by decide) ?_
        refine jr_istore_n (pc := 69) (lv' := [(3, vi 1), (2, vi 1), (1, vi x1), (0, vr 11 0)]) dX11_takeClause_69 rfl (by decide) rfl ?_
        refine jr_iload_n (pc := 70) dX11_takeClause_70 rfl 1 rfl ?_
        refine jr_if_lt (pc := 71) (tgt := 89) dX11_takeClause_71 (by decide) (fun c => absurd c (by decide)) (fun _ => ?_)
        refine jr_iload_n (pc := 74) dX11_takeClause_74 rfl 1 rfl ?_
        refine jr_if_le (pc := 75) (tgt := 85) dX11_takeClause_75 (by decide) (fun c => absurd c (by decide)) (fun _ => ?_)
        refine jr_aload_n (pc := 78) dX11_takeClause_78 rfl 3 rfl ?_
        refine jr_get (pc := 79) (v := vi (M2 11 0 19)) fg_X11_140 (by decide) rfl dX11_takeClause_79 ?_
        refine jr_if_eq (pc := 82) (tgt := 89) dX11_takeClause_82 (by decide) (fun c => ?_) (fun c => ?_)
        · replace h := h.1 c
          refine jr_aload_n (pc := 89) dX11_takeClause_89 rfl 3 rfl ?_
          refine jr_iconst (pc := 90) (v := 1) dX11_takeClause_90 (by decide) ?_
          refine jr_aload_n (pc := 91) dX11_takeClause_91 rfl 3 rfl ?_
          refine jr_get (pc := 92) (v := vi (M2 11 0 16)) fg_X11_116 (by decide) rfl dX11_takeClause_92 ?_
          refine jr_callV (pc := 95) (d' := 0) (mt' := mX11_fails) (k := 11) (n := 0) (As := [vi 1, vi (M2 11 0 16)]) (st := []) fc_X11_127 (by decide) (by decide) (Nat.le_of_ble_eq_true rfl) rfl dX11_takeClause_95 (jw_M.mono h (fun x54 M55 h => ?_))
          show jw_J 4 mX11_takeClause 98 [(3, vi 1), (2, vi 1), (1, vi x1), (0, vr 11 0)] [vi x54] M55 Q
          exact jr_iret (pc := 98) rfl dX11_takeClause_98 h
        · replace h := h.2 c
          refine jr_iload_n (pc := 85) dX11_takeClause_85 rfl 0 rfl ?_
          refine jr_if_eq (pc := 86) (tgt := 99) dX11_takeClause_86 (by decide) (fun c => absurd c (by decide)) (fun _ => ?_)
          refine jr_aload_n (pc := 89) dX11_takeClause_89 rfl 3 rfl ?_
          refine jr_iconst (pc := 90) (v := 1) dX11_takeClause_90 (by decide) ?_
          refine jr_aload_n (pc := 91) dX11_takeClause_91 rfl 3 rfl ?_
          refine jr_get (pc := 92) (v := vi (M2 11 0 16)) fg_X11_116 (by decide) rfl dX11_takeClause_92 ?_
          refine jr_callV (pc := 95) (d' := 0) (mt' := mX11_fails) (k := 11) (n := 0) (As := [vi 1, vi (M2 11 0 16)]) (st := []) fc_X11_127 (by decide) (by decide) (Nat.le_of_ble_eq_true rfl) rfl dX11_takeClause_95 (jw_M.mono h (fun x56 M57 h => ?_))
          show jw_J 4 mX11_takeClause 98 [(3, vi 1), (2, vi 1), (1, vi x1), (0, vr 11 0)] [vi x56] M57 Q
          exact jr_iret (pc := 98) rfl dX11_takeClause_98 h
  · replace h := h.2 c
    refine jr_iconst (pc := 11) (v := 0) dX11_takeClause_11 (by decide) ?_
    refine jr_goto (pc := 12) (tgt := 46) dX11_takeClause_12 (by decide) ?_
    refine jr_istore_n (pc := 46) (lv' := [(2, vi 0), (1, vi x1), (0, vr 11 0)]) dX11_takeClause_46 rfl (by decide) rfl ?_
    refine jr_iload_n (pc := 47) dX11_takeClause_47 rfl 0 rfl ?_
    refine jr_iconst (pc := 48) (v := 1) dX11_takeClause_48 (by decide) ?_
    refine jr_icmp_eq (pc := 49) (tgt := 57) dX11_takeClause_49 (by decide) (fun c => absurd c (by decide)) (fun _ => ?_)
    refine jr_iload_n (pc := 52) dX11_takeClause_52 rfl 0 rfl ?_
    refine jr_iconst (pc := 53) (v := 2) dX11_takeClause_53 (by decide) ?_
    refine jr_icmp_ne (pc := 54) (tgt := 68) dX11_takeClause_54 (by decide) (fun _ => ?_) (fun c => absurd c (by decide))
    refine jr_iconst (pc := 68) (v := 0) dX11_takeClause_68 (by decide) ?_
    refine jr_istore_n (pc := 69) (lv' := [(3, vi 0), (2, vi 0), (1, vi x1), (0, vr 11 0)]) dX11_takeClause_69 rfl (by decide) rfl ?_
    refine jr_iload_n (pc := 70) dX11_takeClause_70 rfl 1 rfl ?_
    refine jr_if_lt (pc := 71) (tgt := 89) dX11_takeClause_71 (by decide) (fun c => absurd c (by decide)) (fun _ => ?_)
    refine jr_iload_n (pc := 74) dX11_takeClause_74 rfl 1 rfl ?_
    refine jr_if_le (pc := 75) (tgt := 85) dX11_takeClause_75 (by decide) (fun _ => ?_) (fun c => absurd c (by decide))
    refine jr_iload_n (pc := 85) dX11_takeClause_85 rfl 0 rfl ?_
    refine jr_if_eq (pc := 86) (tgt := 99) dX11_takeClause_86 (by decide) (fun _ => ?_) (fun c => absurd c (by decide))
    refine jr_aload_n (pc := 99) dX11_takeClause_99 rfl 3 rfl ?_
    refine jr_iload_n (pc := 100) dX11_takeClause_100 rfl 1 rfl ?_
    refine jr_callV (pc := 101) (d' := 0) (mt' := mX11_isFull) (k := 11) (n := 0) (As := [vi 0]) (st := []) fc_X11_160 (by decide) (by decide) (Nat.le_of_ble_eq_true rfl) rfl dX11_takeClause_101 (jw_M.mono h (fun x58 M59 h => ?_))
    show jw_J 4 mX11_takeClause 104 [(3, vi 0), (2, vi 0), (1, vi x1), (0, vr 11 0)] [vi x58] M59 Q
    refine jr_if_eq (pc := 104) (tgt := 117) dX11_takeClause_104 (by decide) (fun c => ?_) (fun c => ?_)
    · replace h := h.1 c
      refine jr_aload_n (pc := 117) dX11_takeClause_117 rfl 3 rfl ?_
      refine jr_dup_r (pc := 118) dX11_takeClause_118 ?_
      refine jr_get (pc := 119) (v := vi (M59 11 0 16)) fg_X11_116 (by decide) rfl dX11_takeClause_119 ?_
      refine jr_iconst (pc := 122) (v := 1) dX11_takeClause_122 (by decide) ?_
      refine jr_iadd (pc := 123) dX11_takeClause_123 ?_
      refine jr_put (pc := 124) fp_X11_116 (by decide) (Or.inl ⟨_, _, _, rfl, by decide +kernel⟩) dX11_takeClause_124 ?_
      replace h := h _ rfl
      generalize jw_up M59 11 0 16 ((M59 11 0 16) + 1) = M60 at h ⊢
      refine jr_iload_n (pc := 127) dX11_takeClause_127 rfl 1 rfl ?_
      refine jr_if_ne (pc := 128) (tgt := 138) dX11_takeClause_128 (by decide) (fun c => absurd c (by decide)) (fun _ => ?_)
      refine jr_aload_n (pc := 131) dX11_takeClause_131 rfl 3 rfl ?_
      refine jr_callV (pc := 132) (d' := 2) (mt' := mX11_takeTerm) (k := 11) (n := 0) (As := []) (st := []) fc_X11_164 (by decide) (by decide) (Nat.le_of_ble_eq_true rfl) rfl dX11_takeClause_132 (jw_M.mono h (fun x61 M62 h => ?_))
      show jw_J 4 mX11_takeClause 135 [(3, vi 0), (2, vi 0), (1, vi x1), (0, vr 11 0)] [vi x61] M62 Q
      refine jr_goto (pc := 135) (tgt := 166) dX11_takeClause_135 (by decide) ?_
      refine jr_istore (pc := 166) (lv' := [(4, vi x61), (3, vi 0), (2, vi 0), (1, vi x1), (0, vr 11 0)]) dX11_takeClause_166 (by decide) rfl ?_
      refine jr_iload (pc := 168) dX11_takeClause_168 0 rfl ?_
      refine jr_if_ne (pc := 170) (tgt := 192) dX11_takeClause_170 (by decide) (fun c => ?_) (fun c => ?_)
      · replace h := h.1 c
        refine jr_aload_n (pc := 192) dX11_takeClause_192 rfl 4 rfl ?_
        refine jr_dup_r (pc := 193) dX11_takeClause_193 ?_
        refine jr_get (pc := 194) (v := vi (M62 11 0 16)) fg_X11_116 (by decide) rfl dX11_takeClause_194 ?_
        refine jr_iconst (pc := 197) (v := 1) dX11_takeClause_197 (by decide) ?_
        refine jr_iadd (pc := 198) dX11_takeClause_198 ?_
        refine jr_put (pc := 199) fp_X11_116 (by decide) (Or.inl ⟨_, _, _, rfl, by decide +kernel⟩) dX11_takeClause_199 ?_
        replace h := h _ rfl
        generalize jw_up M62 11 0 16 ((M62 11 0 16) + 1) = M63 at h ⊢
        refine jr_iload (pc := 202) dX11_takeClause_202 0 rfl ?_
        exact jr_iret (pc := 204) rfl dX11_takeClause_204 h
      · replace h := h.2 c
        refine jr_aload_n (pc := 173) dX11_takeClause_173 rfl 4 rfl ?_
        refine jr_callV (pc := 174) (d' := 0) (mt' := mX11_here) (k := 11) (n := 0) (As := []) (st := []) fc_X11_119 (by decide) (by decide) (Nat.le_of_ble_eq_true rfl) rfl dX11_takeClause_174 (jw_M.mono h (fun x64 M65 h => ?_))
        show jw_J 4 mX11_takeClause 177 [(4, vi x61), (3, vi 0), (2, vi 0), (1, vi x1), (0, vr 11 0)] [vi x64] M65 Q
        refine jr_bipush (pc := 177) (v := 59) dX11_takeClause_177 (by decide) ?_
        refine jr_icmp_eq (pc := 179) (tgt := 192) dX11_takeClause_179 (by decide) (fun c => ?_) (fun c => ?_)
        · replace h := h.1 c
          refine jr_aload_n (pc := 192) dX11_takeClause_192 rfl 4 rfl ?_
          refine jr_dup_r (pc := 193) dX11_takeClause_193 ?_
          refine jr_get (pc := 194) (v := vi (M65 11 0 16)) fg_X11_116 (by decide) rfl dX11_takeClause_194 ?_
          refine jr_iconst (pc := 197) (v := 1) dX11_takeClause_197 (by decide) ?_
          refine jr_iadd (pc := 198) dX11_takeClause_198 ?_
          refine jr_put (pc := 199) fp_X11_116 (by decide) (Or.inl ⟨_, _, _, rfl, by decide +kernel⟩) dX11_takeClause_199 ?_
          replace h := h _ rfl
          generalize jw_up M65 11 0 16 ((M65 11 0 16) + 1) = M66 at h ⊢
          refine jr_iload (pc := 202) dX11_takeClause_202 0 rfl ?_
          exact jr_iret (pc := 204) rfl dX11_takeClause_204 h
        · replace h := h.2 c
          refine jr_aload_n (pc := 182) dX11_takeClause_182 rfl 4 rfl ?_
          refine jr_iconst (pc := 183) (v := 1) dX11_takeClause_183 (by decide) ?_
          refine jr_aload_n (pc := 184) dX11_takeClause_184 rfl 4 rfl ?_
          refine jr_get (pc := 185) (v := vi (M65 11 0 16)) fg_X11_116 (by decide) rfl dX11_takeClause_185 ?_
          refine jr_callV (pc := 188) (d' := 0) (mt' := mX11_fails) (k := 11) (n := 0) (As := [vi 1, vi (M65 11 0 16)]) (st := []) fc_X11_127 (by decide) (by decide) (Nat.le_of_ble_eq_true rfl) rfl dX11_takeClause_188 (jw_M.mono h (fun x67 M68 h => ?_))
          show jw_J 4 mX11_takeClause 191 [(4, vi x61), (3, vi 0), (2, vi 0), (1, vi x1), (0, vr 11 0)] [vi x67] M68 Q
          exact jr_iret (pc := 191) rfl dX11_takeClause_191 h
    · replace h := h.2 c
      refine jr_aload_n (pc := 107) dX11_takeClause_107 rfl 3 rfl ?_
      refine jr_iconst (pc := 108) (v := 3) dX11_takeClause_108 (by decide) ?_
      refine jr_aload_n (pc := 109) dX11_takeClause_109 rfl 3 rfl ?_
      refine jr_get (pc := 110) (v := vi (M59 11 0 16)) fg_X11_116 (by decide) rfl dX11_takeClause_110 ?_
      refine jr_callV (pc := 113) (d' := 0) (mt' := mX11_fails) (k := 11) (n := 0) (As := [vi 3, vi (M59 11 0 16)]) (st := []) fc_X11_127 (by decide) (by decide) (Nat.le_of_ble_eq_true rfl) rfl dX11_takeClause_113 (jw_M.mono h (fun x69 M70 h => ?_))
      show jw_J 4 mX11_takeClause 116 [(3, vi 0), (2, vi 0), (1, vi x1), (0, vr 11 0)] [vi x69] M70 Q
      exact jr_iret (pc := 116) rfl dX11_takeClause_116 h
theorem dX11_copyRow_0 : decode cX11_copyRow 0 = .ok (.iconst 0, 1) := by decide +kernel
theorem dX11_copyRow_1 : decode cX11_copyRow 1 = .ok (.istore_n 3, 1) := by decide +kernel
theorem dX11_copyRow_2 : decode cX11_copyRow 2 = .ok (.iload_n 3, 1) := by decide +kernel
theorem dX11_copyRow_3 : decode cX11_copyRow 3 = .ok (.iload_n 2, 1) := by decide +kernel
theorem dX11_copyRow_4 : decode cX11_copyRow 4 = .ok (.if_icmp .ge 15, 3) := by decide +kernel
theorem dX11_copyRow_7 : decode cX11_copyRow 7 = .ok (.aload_n 1, 1) := by decide +kernel
theorem dX11_copyRow_8 : decode cX11_copyRow 8 = .ok (.iload_n 3, 1) := by decide +kernel
theorem dX11_copyRow_9 : decode cX11_copyRow 9 = .ok (.aload_n 0, 1) := by decide +kernel
theorem dX11_copyRow_10 : decode cX11_copyRow 10 = .ok (.iload_n 3, 1) := by decide +kernel
theorem dX11_copyRow_11 : decode cX11_copyRow 11 = .ok (.iaload, 1) := by decide +kernel
theorem dX11_copyRow_12 : decode cX11_copyRow 12 = .ok (.iastore, 1) := by decide +kernel
theorem dX11_copyRow_13 : decode cX11_copyRow 13 = .ok (.iinc 3 1, 3) := by decide +kernel
theorem dX11_copyRow_16 : decode cX11_copyRow 16 = .ok (.goto (-14), 3) := by decide +kernel
theorem dX11_copyRow_19 : decode cX11_copyRow 19 = .ok (.return_, 1) := by decide +kernel
set_option maxHeartbeats 4000000 in
set_option maxRecDepth 20000 in
theorem en_X11_copyRow {k1 n1 : Nat} {k2 n2 : Nat} {a3 : Int32} {M : jw_Mem} {Q : Int32 → jw_Mem → Prop} (ha_k1 : jw_a k1 n1) (ha_k2 : jw_a k2 n2) (h : jw_J 0 mX11_copyRow 2 [(0, vr k1 n1), (1, vr k2 n2), (2, vi a3), (3, vi 0)] [] M Q) : jw_M 0 mX11_copyRow [vr k1 n1, vr k2 n2, vi a3] M Q := by
  refine jw_M.of (by decide) (Nat.le_of_ble_eq_true rfl) ?_
  show jw_J 0 mX11_copyRow 0 [(0, vr k1 n1), (1, vr k2 n2), (2, vi a3)] [] M Q
  refine jr_iconst (pc := 0) (v := 0) dX11_copyRow_0 (by decide) ?_
  refine jr_istore_n (pc := 1) (lv' := [(3, vi 0), (0, vr k1 n1), (1, vr k2 n2), (2, vi a3)]) dX11_copyRow_1 rfl (by decide) rfl ?_
  exact jr_sub [1, 2, 3, 0] rfl h
set_option maxHeartbeats 4000000 in
set_option maxRecDepth 20000 in
theorem bk_X11_copyRow_2 {k1 n1 : Nat} {k2 n2 : Nat} {v2 : Int32} {v3 : Int32} {M : jw_Mem} {Q : Int32 → jw_Mem → Prop} (ha_k1 : jw_a k1 n1) (ha_k2 : jw_a k2 n2) (h : ((v2 ≤ v3 → Q 0 M) ∧ (¬ v2 ≤ v3 → (vp_in v3 (jw_len k1) ∧ (vp_in v3 (jw_len k2) ∧ (∀ M1 : jw_Mem, M1 = jw_up M k2 n2 v3.toNatClampNeg (M k1 n1 v3.toNatClampNeg) → jw_J 0 mX11_copyRow 2 [(0, vr k1 n1), (1, vr k2 n2), (2, vi v2), (3, vi (v3 + 1))] [] M1 Q)))))) : jw_J 0 mX11_copyRow 2 [(0, vr k1 n1), (1, vr k2 n2), (2, vi v2), (3, vi v3)] [] M Q := by
  refine jr_iload_n (pc := 2) dX11_copyRow_2 rfl 3 rfl ?_
  refine jr_iload_n (pc := 3) dX11_copyRow_3 rfl 2 rfl ?_
  refine jr_icmp_ge (pc := 4) (tgt := 19) dX11_copyRow_4 (by decide) (fun c => ?_) (fun c => ?_)
  · replace h := h.1 c
    exact jr_vret (pc := 19) rfl dX11_copyRow_19 h
  · replace h := h.2 c
    refine jr_aload_n (pc := 7) dX11_copyRow_7 rfl 1 rfl ?_
    refine jr_iload_n (pc := 8) dX11_copyRow_8 rfl 3 rfl ?_
    refine jr_aload_n (pc := 9) dX11_copyRow_9 rfl 0 rfl ?_
    refine jr_iload_n (pc := 10) dX11_copyRow_10 rfl 3 rfl ?_
    refine jr_iald (pc := 11) ha_k1 h.1 dX11_copyRow_11 ?_
    replace h := h.2
    refine jr_iast (pc := 12) ha_k2 h.1 dX11_copyRow_12 ?_
    replace h := h.2
    replace h := h _ rfl
    generalize jw_up M k2 n2 v3.toNatClampNeg (M k1 n1 v3.toNatClampNeg) = M1 at h ⊢
    refine jr_iinc (pc := 13) (lv' := [(3, vi (v3 + 1)), (0, vr k1 n1), (1, vr k2 n2), (2, vi v2)]) (q := 3) dX11_copyRow_13 rfl (by rfl) (by decide) rfl ?_
    refine jr_goto (pc := 16) (tgt := 2) dX11_copyRow_16 (by decide) ?_
    exact jr_sub [1, 2, 3, 0] rfl h
theorem dX11_takeRead_0 : decode cX11_takeRead 0 = .ok (.aload_n 0, 1) := by decide +kernel
theorem dX11_takeRead_1 : decode cX11_takeRead 1 = .ok (.aload_n 0, 1) := by decide +kernel
theorem dX11_takeRead_2 : decode cX11_takeRead 2 = .ok (.getfield 140, 3) := by decide +kernel
theorem dX11_takeRead_5 : decode cX11_takeRead 5 = .ok (.putfield 93, 3) := by decide +kernel
theorem dX11_takeRead_8 : decode cX11_takeRead 8 = .ok (.aload_n 0, 1) := by decide +kernel
theorem dX11_takeRead_9 : decode cX11_takeRead 9 = .ok (.aload_n 0, 1) := by decide +kernel
theorem dX11_takeRead_10 : decode cX11_takeRead 10 = .ok (.getfield 143, 3) := by decide +kernel
theorem dX11_takeRead_13 : decode cX11_takeRead 13 = .ok (.putfield 96, 3) := by decide +kernel
theorem dX11_takeRead_16 : decode cX11_takeRead 16 = .ok (.aload_n 0, 1) := by decide +kernel
theorem dX11_takeRead_17 : decode cX11_takeRead 17 = .ok (.aload_n 0, 1) := by decide +kernel
theorem dX11_takeRead_18 : decode cX11_takeRead 18 = .ok (.getfield 150, 3) := by decide +kernel
theorem dX11_takeRead_21 : decode cX11_takeRead 21 = .ok (.putfield 103, 3) := by decide +kernel
theorem dX11_takeRead_24 : decode cX11_takeRead 24 = .ok (.aload_n 0, 1) := by decide +kernel
theorem dX11_takeRead_25 : decode cX11_takeRead 25 = .ok (.aload_n 0, 1) := by decide +kernel
theorem dX11_takeRead_26 : decode cX11_takeRead 26 = .ok (.getfield 157, 3) := by decide +kernel
theorem dX11_takeRead_29 : decode cX11_takeRead 29 = .ok (.putfield 106, 3) := by decide +kernel
theorem dX11_takeRead_32 : decode cX11_takeRead 32 = .ok (.aload_n 0, 1) := by decide +kernel
theorem dX11_takeRead_33 : decode cX11_takeRead 33 = .ok (.getfield 41, 3) := by decide +kernel
theorem dX11_takeRead_36 : decode cX11_takeRead 36 = .ok (.aload_n 0, 1) := by decide +kernel
theorem dX11_takeRead_37 : decode cX11_takeRead 37 = .ok (.getfield 7, 3) := by decide +kernel
theorem dX11_takeRead_40 : decode cX11_takeRead 40 = .ok (.aload_n 0, 1) := by decide +kernel
theorem dX11_takeRead_41 : decode cX11_takeRead 41 = .ok (.getfield 96, 3) := by decide +kernel
theorem dX11_takeRead_44 : decode cX11_takeRead 44 = .ok (.invokestatic 176, 3) := by decide +kernel
theorem dX11_takeRead_47 : decode cX11_takeRead 47 = .ok (.aload_n 0, 1) := by decide +kernel
theorem dX11_takeRead_48 : decode cX11_takeRead 48 = .ok (.getfield 44, 3) := by decide +kernel
theorem dX11_takeRead_51 : decode cX11_takeRead 51 = .ok (.aload_n 0, 1) := by decide +kernel
theorem dX11_takeRead_52 : decode cX11_takeRead 52 = .ok (.getfield 13, 3) := by decide +kernel
theorem dX11_takeRead_55 : decode cX11_takeRead 55 = .ok (.aload_n 0, 1) := by decide +kernel
theorem dX11_takeRead_56 : decode cX11_takeRead 56 = .ok (.getfield 103, 3) := by decide +kernel
theorem dX11_takeRead_59 : decode cX11_takeRead 59 = .ok (.invokestatic 176, 3) := by decide +kernel
theorem dX11_takeRead_62 : decode cX11_takeRead 62 = .ok (.aload_n 0, 1) := by decide +kernel
theorem dX11_takeRead_63 : decode cX11_takeRead 63 = .ok (.getfield 47, 3) := by decide +kernel
theorem dX11_takeRead_66 : decode cX11_takeRead 66 = .ok (.aload_n 0, 1) := by decide +kernel
theorem dX11_takeRead_67 : decode cX11_takeRead 67 = .ok (.getfield 16, 3) := by decide +kernel
theorem dX11_takeRead_70 : decode cX11_takeRead 70 = .ok (.aload_n 0, 1) := by decide +kernel
theorem dX11_takeRead_71 : decode cX11_takeRead 71 = .ok (.getfield 103, 3) := by decide +kernel
theorem dX11_takeRead_74 : decode cX11_takeRead 74 = .ok (.invokestatic 176, 3) := by decide +kernel
theorem dX11_takeRead_77 : decode cX11_takeRead 77 = .ok (.aload_n 0, 1) := by decide +kernel
theorem dX11_takeRead_78 : decode cX11_takeRead 78 = .ok (.getfield 50, 3) := by decide +kernel
theorem dX11_takeRead_81 : decode cX11_takeRead 81 = .ok (.aload_n 0, 1) := by decide +kernel
theorem dX11_takeRead_82 : decode cX11_takeRead 82 = .ok (.getfield 19, 3) := by decide +kernel
theorem dX11_takeRead_85 : decode cX11_takeRead 85 = .ok (.aload_n 0, 1) := by decide +kernel
theorem dX11_takeRead_86 : decode cX11_takeRead 86 = .ok (.getfield 103, 3) := by decide +kernel
theorem dX11_takeRead_89 : decode cX11_takeRead 89 = .ok (.invokestatic 176, 3) := by decide +kernel
theorem dX11_takeRead_92 : decode cX11_takeRead 92 = .ok (.aload_n 0, 1) := by decide +kernel
theorem dX11_takeRead_93 : decode cX11_takeRead 93 = .ok (.getfield 53, 3) := by decide +kernel
theorem dX11_takeRead_96 : decode cX11_takeRead 96 = .ok (.aload_n 0, 1) := by decide +kernel
theorem dX11_takeRead_97 : decode cX11_takeRead 97 = .ok (.getfield 22, 3) := by decide +kernel
theorem dX11_takeRead_100 : decode cX11_takeRead 100 = .ok (.aload_n 0, 1) := by decide +kernel
theorem dX11_takeRead_101 : decode cX11_takeRead 101 = .ok (.getfield 106, 3) := by decide +kernel
theorem dX11_takeRead_104 : decode cX11_takeRead 104 = .ok (.invokestatic 176, 3) := by decide +kernel
theorem dX11_takeRead_107 : decode cX11_takeRead 107 = .ok (.aload_n 0, 1) := by decide +kernel
theorem dX11_takeRead_108 : decode cX11_takeRead 108 = .ok (.getfield 56, 3) := by decide +kernel
theorem dX11_takeRead_111 : decode cX11_takeRead 111 = .ok (.aload_n 0, 1) := by decide +kernel
theorem dX11_takeRead_112 : decode cX11_takeRead 112 = .ok (.getfield 25, 3) := by decide +kernel
theorem dX11_takeRead_115 : decode cX11_takeRead 115 = .ok (.aload_n 0, 1) := by decide +kernel
theorem dX11_takeRead_116 : decode cX11_takeRead 116 = .ok (.getfield 106, 3) := by decide +kernel
theorem dX11_takeRead_119 : decode cX11_takeRead 119 = .ok (.invokestatic 176, 3) := by decide +kernel
theorem dX11_takeRead_122 : decode cX11_takeRead 122 = .ok (.aload_n 0, 1) := by decide +kernel
theorem dX11_takeRead_123 : decode cX11_takeRead 123 = .ok (.getfield 59, 3) := by decide +kernel
theorem dX11_takeRead_126 : decode cX11_takeRead 126 = .ok (.aload_n 0, 1) := by decide +kernel
theorem dX11_takeRead_127 : decode cX11_takeRead 127 = .ok (.getfield 28, 3) := by decide +kernel
theorem dX11_takeRead_130 : decode cX11_takeRead 130 = .ok (.aload_n 0, 1) := by decide +kernel
theorem dX11_takeRead_131 : decode cX11_takeRead 131 = .ok (.getfield 106, 3) := by decide +kernel
theorem dX11_takeRead_134 : decode cX11_takeRead 134 = .ok (.invokestatic 176, 3) := by decide +kernel
theorem dX11_takeRead_137 : decode cX11_takeRead 137 = .ok (.iconst 0, 1) := by decide +kernel
theorem dX11_takeRead_138 : decode cX11_takeRead 138 = .ok (.istore_n 1, 1) := by decide +kernel
theorem dX11_takeRead_139 : decode cX11_takeRead 139 = .ok (.iload_n 1, 1) := by decide +kernel
theorem dX11_takeRead_140 : decode cX11_takeRead 140 = .ok (.bipush 33, 2) := by decide +kernel
theorem dX11_takeRead_142 : decode cX11_takeRead 142 = .ok (.if_icmp .ge 26, 3) := by decide +kernel
theorem dX11_takeRead_145 : decode cX11_takeRead 145 = .ok (.aload_n 0, 1) := by decide +kernel
theorem dX11_takeRead_146 : decode cX11_takeRead 146 = .ok (.getfield 31, 3) := by decide +kernel
theorem dX11_takeRead_149 : decode cX11_takeRead 149 = .ok (.iload_n 1, 1) := by decide +kernel
theorem dX11_takeRead_150 : decode cX11_takeRead 150 = .ok (.iload_n 1, 1) := by decide +kernel
theorem dX11_takeRead_151 : decode cX11_takeRead 151 = .ok (.bipush 6, 2) := by decide +kernel
theorem dX11_takeRead_153 : decode cX11_takeRead 153 = .ok (.if_icmp .ge 7, 3) := by decide +kernel
theorem dX11_takeRead_156 : decode cX11_takeRead 156 = .ok (.iconst (-1), 1) := by decide +kernel
theorem dX11_takeRead_157 : decode cX11_takeRead 157 = .ok (.goto 4, 3) := by decide +kernel
theorem dX11_takeRead_160 : decode cX11_takeRead 160 = .ok (.iconst 0, 1) := by decide +kernel
theorem dX11_takeRead_161 : decode cX11_takeRead 161 = .ok (.iastore, 1) := by decide +kernel
theorem dX11_takeRead_162 : decode cX11_takeRead 162 = .ok (.iinc 1 1, 3) := by decide +kernel
theorem dX11_takeRead_165 : decode cX11_takeRead 165 = .ok (.goto (-26), 3) := by decide +kernel
theorem dX11_takeRead_168 : decode cX11_takeRead 168 = .ok (.aload_n 0, 1) := by decide +kernel
theorem dX11_takeRead_169 : decode cX11_takeRead 169 = .ok (.getfield 16, 3) := by decide +kernel
theorem dX11_takeRead_172 : decode cX11_takeRead 172 = .ok (.aload_n 0, 1) := by decide +kernel
theorem dX11_takeRead_173 : decode cX11_takeRead 173 = .ok (.getfield 31, 3) := by decide +kernel
theorem dX11_takeRead_176 : decode cX11_takeRead 176 = .ok (.aload_n 0, 1) := by decide +kernel
theorem dX11_takeRead_177 : decode cX11_takeRead 177 = .ok (.getfield 103, 3) := by decide +kernel
theorem dX11_takeRead_180 : decode cX11_takeRead 180 = .ok (.invokestatic 176, 3) := by decide +kernel
theorem dX11_takeRead_183 : decode cX11_takeRead 183 = .ok (.iconst 0, 1) := by decide +kernel
theorem dX11_takeRead_184 : decode cX11_takeRead 184 = .ok (.istore_n 1, 1) := by decide +kernel
theorem dX11_takeRead_185 : decode cX11_takeRead 185 = .ok (.iload_n 1, 1) := by decide +kernel
theorem dX11_takeRead_186 : decode cX11_takeRead 186 = .ok (.aload_n 0, 1) := by decide +kernel
theorem dX11_takeRead_187 : decode cX11_takeRead 187 = .ok (.getfield 106, 3) := by decide +kernel
theorem dX11_takeRead_190 : decode cX11_takeRead 190 = .ok (.if_icmp .ge 39, 3) := by decide +kernel
theorem dX11_takeRead_193 : decode cX11_takeRead 193 = .ok (.aload_n 0, 1) := by decide +kernel
theorem dX11_takeRead_194 : decode cX11_takeRead 194 = .ok (.getfield 31, 3) := by decide +kernel
theorem dX11_takeRead_197 : decode cX11_takeRead 197 = .ok (.bipush 18, 2) := by decide +kernel
theorem dX11_takeRead_199 : decode cX11_takeRead 199 = .ok (.iload_n 1, 1) := by decide +kernel
theorem dX11_takeRead_200 : decode cX11_takeRead 200 = .ok (.iadd, 1) := by decide +kernel
theorem dX11_takeRead_201 : decode cX11_takeRead 201 = .ok (.aload_n 0, 1) := by decide +kernel
theorem dX11_takeRead_202 : decode cX11_takeRead 202 = .ok (.getfield 22, 3) := by decide +kernel
theorem dX11_takeRead_205 : decode cX11_takeRead 205 = .ok (.iload_n 1, 1) := by decide +kernel
theorem dX11_takeRead_206 : decode cX11_takeRead 206 = .ok (.iaload, 1) := by decide +kernel
theorem dX11_takeRead_207 : decode cX11_takeRead 207 = .ok (.iastore, 1) := by decide +kernel
theorem dX11_takeRead_208 : decode cX11_takeRead 208 = .ok (.aload_n 0, 1) := by decide +kernel
theorem dX11_takeRead_209 : decode cX11_takeRead 209 = .ok (.getfield 31, 3) := by decide +kernel
theorem dX11_takeRead_212 : decode cX11_takeRead 212 = .ok (.bipush 25, 2) := by decide +kernel
theorem dX11_takeRead_214 : decode cX11_takeRead 214 = .ok (.iload_n 1, 1) := by decide +kernel
theorem dX11_takeRead_215 : decode cX11_takeRead 215 = .ok (.iadd, 1) := by decide +kernel
theorem dX11_takeRead_216 : decode cX11_takeRead 216 = .ok (.aload_n 0, 1) := by decide +kernel
theorem dX11_takeRead_217 : decode cX11_takeRead 217 = .ok (.getfield 28, 3) := by decide +kernel
theorem dX11_takeRead_220 : decode cX11_takeRead 220 = .ok (.iload_n 1, 1) := by decide +kernel
theorem dX11_takeRead_221 : decode cX11_takeRead 221 = .ok (.iaload, 1) := by decide +kernel
theorem dX11_takeRead_222 : decode cX11_takeRead 222 = .ok (.iastore, 1) := by decide +kernel
theorem dX11_takeRead_223 : decode cX11_takeRead 223 = .ok (.iinc 1 1, 3) := by decide +kernel
theorem dX11_takeRead_226 : decode cX11_takeRead 226 = .ok (.goto (-41), 3) := by decide +kernel
theorem dX11_takeRead_229 : decode cX11_takeRead 229 = .ok (.return_, 1) := by decide +kernel
set_option maxHeartbeats 4000000 in
set_option maxRecDepth 20000 in
theorem en_X11_takeRead {M : jw_Mem} {Q : Int32 → jw_Mem → Prop}  (h : (∀ M1 : jw_Mem, M1 = jw_up M 11 0 0 (M 11 0 19) → (∀ M2 : jw_Mem, M2 = jw_up M1 11 0 1 (M1 11 0 20) → (∀ M3 : jw_Mem, M3 = jw_up M2 11 0 3 (M2 11 0 22) → (∀ M4 : jw_Mem, M4 = jw_up M3 11 0 7 (M3 11 0 26) → (jw_M 0 mX11_copyRow [vr 45 0, vr 36 0, vi (M4 11 0 1)] M4 (fun x5 M6 => (jw_M 0 mX11_copyRow [vr 46 0, vr 37 0, vi (M6 11 0 3)] M6 (fun x7 M8 => (jw_M 0 mX11_copyRow [vr 47 0, vr 38 0, vi (M8 11 0 3)] M8 (fun x9 M10 => (jw_M 0 mX11_copyRow [vr 48 0, vr 39 0, vi (M10 11 0 3)] M10 (fun x11 M12 => (jw_M 0 mX11_copyRow [vr 49 0, vr 40 0, vi (M12 11 0 7)] M12 (fun x13 M14 => (jw_M 0 mX11_copyRow [vr 50 0, vr 41 0, vi (M14 11 0 7)] M14 (fun x15 M16 => (jw_M 0 mX11_copyRow [vr 51 0, vr 42 0, vi (M16 11 0 7)] M16 (fun x17 M18 => jw_J 1 mX11_takeRead 139 [(0, vr 11 0), (1, vi 0)] [] M18 Q))))))))))))))))))) : jw_M 1 mX11_takeRead [vr 11 0] M Q := by
  refine jw_M.of (by decide) (Nat.le_of_ble_eq_true rfl) ?_
  show jw_J 1 mX11_takeRead 0 [(0, vr 11 0)] [] M Q
  refine jr_aload_n (pc := 0) dX11_takeRead_0 rfl 0 rfl ?_
  refine jr_aload_n (pc := 1) dX11_takeRead_1 rfl 0 rfl ?_
  refine jr_get (pc := 2) (v := vi (M 11 0 19)) fg_X11_140 (by decide) rfl dX11_takeRead_2 ?_
  refine jr_put (pc := 5) fp_X11_93 (by decide) (Or.inl ⟨_, _, _, rfl, by decide +kernel⟩) dX11_takeRead_5 ?_
  replace h := h _ rfl
  generalize jw_up M 11 0 0 (M 11 0 19) = M1 at h ⊢
  refine jr_aload_n (pc := 8) dX11_takeRead_8 rfl 0 rfl ?_
  refine jr_aload_n (pc := 9) dX11_takeRead_9 rfl 0 rfl ?_
  refine jr_get (pc := 10) (v := vi (M1 11 0 20)) fg_X11_143 (by decide) rfl dX11_takeRead_10 ?_
  refine jr_put (pc := 13) fp_X11_96 (by decide) (Or.inl ⟨_, _, _, rfl, by decide +kernel⟩) dX11_takeRead_13 ?_
  replace h := h _ rfl
  generalize jw_up M1 11 0 1 (M1 11 0 20) = M2 at h ⊢
  refine jr_aload_n (pc := 16) dX11_takeRead_16 rfl 0 rfl ?_
  refine jr_aload_n (pc := 17) dX11_takeRead_17 rfl 0 rfl ?_
  refine jr_get (pc := 18) (v := vi (M2 11 0 22)) fg_X11_150 (by decide) rfl dX11_takeRead_18 ?_
  refine jr_put (pc := 21) fp_X11_103 (by decide) (Or.inl ⟨_, _, _, rfl, by decide +kernel⟩) dX11_takeRead_21 ?_
  replace h := h _ rfl
  generalize jw_up M2 11 0 3 (M2 11 0 22) = M3 at h ⊢
  refine jr_aload_n (pc := 24) dX11_takeRead_24 rfl 0 rfl ?_
  refine jr_aload_n (pc := 25) dX11_takeRead_25 rfl 0 rfl ?_
  refine jr_get (pc := 26) (v := vi (M3 11 0 26)) fg_X11_157 (by decide) rfl dX11_takeRead_26 ?_
  refine jr_put (pc := 29) fp_X11_106 (by decide) (Or.inl ⟨_, _, _, rfl, by decide +kernel⟩) dX11_takeRead_29 ?_
  replace h := h _ rfl
  generalize jw_up M3 11 0 7 (M3 11 0 26) = M4 at h ⊢
  refine jr_aload_n (pc := 32) dX11_takeRead_32 rfl 0 rfl ?_
  refine jr_get (pc := 33) (v := vr 45 0) fg_X11_41 (by decide) rfl dX11_takeRead_33 ?_
  refine jr_aload_n (pc := 36) dX11_takeRead_36 rfl 0 rfl ?_
  refine jr_get (pc := 37) (v := vr 36 0) fg_X11_7 (by decide) rfl dX11_takeRead_37 ?_
  refine jr_aload_n (pc := 40) dX11_takeRead_40 rfl 0 rfl ?_
  refine jr_get (pc := 41) (v := vi (M4 11 0 1)) fg_X11_96 (by decide) rfl dX11_takeRead_41 ?_
  refine jr_callS (pc := 44) (d' := 0) (mt' := mX11_copyRow) (As := [vr 45 0, vr 36 0, vi (M4 11 0 1)]) (st := []) fc_X11_176 (by decide) (Nat.le_of_ble_eq_true rfl) rfl dX11_takeRead_44 (jw_M.mono h (fun x5 M6 h => ?_))
  show jw_J 1 mX11_takeRead 47 [(0, vr 11 0)] [] M6 Q
  refine jr_aload_n (pc := 47) dX11_takeRead_47 rfl 0 rfl ?_
  refine jr_get (pc := 48) (v := vr 46 0) fg_X11_44 (by decide) rfl dX11_takeRead_48 ?_
  refine jr_aload_n (pc := 51) dX11_takeRead_51 rfl 0 rfl ?_
  refine jr_get (pc := 52) (v := vr 37 0) fg_X11_13 (by decide) rfl dX11_takeRead_52 ?_
  refine jr_aload_n (pc := 55) dX11_takeRead_55 rfl 0 rfl ?_
  refine jr_get (pc := 56) (v := vi (M6 11 0 3)) fg_X11_103 (by decide) rfl dX11_takeRead_56 ?_
  refine jr_callS (pc := 59) (d' := 0) (mt' := mX11_copyRow) (As := [vr 46 0, vr 37 0, vi (M6 11 0 3)]) (st := []) fc_X11_176 (by decide) (Nat.le_of_ble_eq_true rfl) rfl dX11_takeRead_59 (jw_M.mono h (fun x7 M8 h => ?_))
  show jw_J 1 mX11_takeRead 62 [(0, vr 11 0)] [] M8 Q
  refine jr_aload_n (pc := 62) dX11_takeRead_62 rfl 0 rfl ?_
  refine jr_get (pc := 63) (v := vr 47 0) fg_X11_47 (by decide) rfl dX11_takeRead_63 ?_
  refine jr_aload_n (pc := 66) dX11_takeRead_66 rfl 0 rfl ?_
  refine jr_get (pc := 67) (v := vr 38 0) fg_X11_16 (by decide) rfl dX11_takeRead_67 ?_
  refine jr_aload_n (pc := 70) dX11_takeRead_70 rfl 0 rfl ?_
  refine jr_get (pc := 71) (v := vi (M8 11 0 3)) fg_X11_103 (by decide) rfl dX11_takeRead_71 ?_
  refine jr_callS (pc := 74) (d' := 0) (mt' := mX11_copyRow) (As := [vr 47 0, vr 38 0, vi (M8 11 0 3)]) (st := []) fc_X11_176 (by decide) (Nat.le_of_ble_eq_true rfl) rfl dX11_takeRead_74 (jw_M.mono h (fun x9 M10 h => ?_))
  show jw_J 1 mX11_takeRead 77 [(0, vr 11 0)] [] M10 Q
  refine jr_aload_n (pc := 77) dX11_takeRead_77 rfl 0 rfl ?_
  refine jr_get (pc := 78) (v := vr 48 0) fg_X11_50 (by decide) rfl dX11_takeRead_78 ?_
  refine jr_aload_n (pc := 81) dX11_takeRead_81 rfl 0 rfl ?_
  refine jr_get (pc := 82) (v := vr 39 0) fg_X11_19 (by decide) rfl dX11_takeRead_82 ?_
  refine jr_aload_n (pc := 85) dX11_takeRead_85 rfl 0 rfl ?_
  refine jr_get (pc := 86) (v := vi (M10 11 0 3)) fg_X11_103 (by decide) rfl dX11_takeRead_86 ?_
  refine jr_callS (pc := 89) (d' := 0) (mt' := mX11_copyRow) (As := [vr 48 0, vr 39 0, vi (M10 11 0 3)]) (st := []) fc_X11_176 (by decide) (Nat.le_of_ble_eq_true rfl) rfl dX11_takeRead_89 (jw_M.mono h (fun x11 M12 h => ?_))
  show jw_J 1 mX11_takeRead 92 [(0, vr 11 0)] [] M12 Q
  refine jr_aload_n (pc := 92) dX11_takeRead_92 rfl 0 rfl ?_
  refine jr_get (pc := 93) (v := vr 49 0) fg_X11_53 (by decide) rfl dX11_takeRead_93 ?_
  refine jr_aload_n (pc := 96) dX11_takeRead_96 rfl 0 rfl ?_
  refine jr_get (pc := 97) (v := vr 40 0) fg_X11_22 (by decide) rfl dX11_takeRead_97 ?_
  refine jr_aload_n (pc := 100) dX11_takeRead_100 rfl 0 rfl ?_
  refine jr_get (pc := 101) (v := vi (M12 11 0 7)) fg_X11_106 (by decide) rfl dX11_takeRead_101 ?_
  refine jr_callS (pc := 104) (d' := 0) (mt' := mX11_copyRow) (As := [vr 49 0, vr 40 0, vi (M12 11 0 7)]) (st := []) fc_X11_176 (by decide) (Nat.le_of_ble_eq_true rfl) rfl dX11_takeRead_104 (jw_M.mono h (fun x13 M14 h => ?_))
  show jw_J 1 mX11_takeRead 107 [(0, vr 11 0)] [] M14 Q
  refine jr_aload_n (pc := 107) dX11_takeRead_107 rfl 0 rfl ?_
  refine jr_get (pc := 108) (v := vr 50 0) fg_X11_56 (by decide) rfl dX11_takeRead_108 ?_
  refine jr_aload_n (pc := 111) dX11_takeRead_111 rfl 0 rfl ?_
  refine jr_get (pc := 112) (v := vr 41 0) fg_X11_25 (by decide) rfl dX11_takeRead_112 ?_
  refine jr_aload_n (pc := 115) dX11_takeRead_115 rfl 0 rfl ?_
  refine jr_get (pc := 116) (v := vi (M14 11 0 7)) fg_X11_106 (by decide) rfl dX11_takeRead_116 ?_
  refine jr_callS (pc := 119) (d' := 0) (mt' := mX11_copyRow) (As := [vr 50 0, vr 41 0, vi (M14 11 0 7)]) (st := []) fc_X11_176 (by decide) (Nat.le_of_ble_eq_true rfl) rfl dX11_takeRead_119 (jw_M.mono h (fun x15 M16 h => ?_))
  show jw_J 1 mX11_takeRead 122 [(0, vr 11 0)] [] M16 Q
  refine jr_aload_n (pc := 122) dX11_takeRead_122 rfl 0 rfl ?_
  refine jr_get (pc := 123) (v := vr 51 0) fg_X11_59 (by decide) rfl dX11_takeRead_123 ?_
  refine jr_aload_n (pc := 126) dX11_takeRead_126 rfl 0 rfl ?_
  refine jr_get (pc := 127) (v := vr 42 0) fg_X11_28 (by decide) rfl dX11_takeRead_127 ?_
  refine jr_aload_n (pc := 130) dX11_takeRead_130 rfl 0 rfl ?_
  refine jr_get (pc := 131) (v := vi (M16 11 0 7)) fg_X11_106 (by decide) rfl dX11_takeRead_131 ?_
  refine jr_callS (pc := 134) (d' := 0) (mt' := mX11_copyRow) (As := [vr 51 0, vr 42 0, vi (M16 11 0 7)]) (st := []) fc_X11_176 (by decide) (Nat.le_of_ble_eq_true rfl) rfl dX11_takeRead_134 (jw_M.mono h (fun x17 M18 h => ?_))
  show jw_J 1 mX11_takeRead 137 [(0, vr 11 0)] [] M18 Q
  refine jr_iconst (pc := 137) (v := 0) dX11_takeRead_137 (by decide) ?_
  refine jr_istore_n (pc := 138) (lv' := [(1, vi 0), (0, vr 11 0)]) dX11_takeRead_138 rfl (by decide) rfl ?_
  exact jr_sub [1, 0] rfl h
set_option maxHeartbeats 4000000 in
set_option maxRecDepth 20000 in
theorem bk_X11_takeRead_139 {v1 : Int32} {M : jw_Mem} {Q : Int32 → jw_Mem → Prop}  (h : ((33 ≤ v1 → (jw_M 0 mX11_copyRow [vr 38 0, vr 43 0, vi (M 11 0 3)] M (fun x19 M20 => jw_J 1 mX11_takeRead 185 [(0, vr 11 0), (1, vi 0)] [] M20 Q))) ∧ (¬ 33 ≤ v1 → ((6 ≤ v1 → (vp_in v1 33 ∧ (∀ M21 : jw_Mem, M21 = jw_up M 43 0 v1.toNatClampNeg 0 → jw_J 1 mX11_takeRead 139 [(0, vr 11 0), (1, vi (v1 + 1))] [] M21 Q))) ∧ (¬ 6 ≤ v1 → (vp_in v1 33 ∧ (∀ M22 : jw_Mem, M22 = jw_up M 43 0 v1.toNatClampNeg (-1) → jw_J 1 mX11_takeRead 139 [(0, vr 11 0), (1, vi (v1 + 1))] [] M22 Q))))))) : jw_J 1 mX11_takeRead 139 [(0, vr 11 0), (1, vi v1)] [] M Q := by
  refine jr_iload_n (pc := 139) dX11_takeRead_139 rfl 1 rfl ?_
  refine jr_bipush (pc := 140) (v := 33) dX11_takeRead_140 (by decide) ?_
  refine jr_icmp_ge (pc := 142) (tgt := 168) dX11_takeRead_142 (by decide) (fun c => ?_) (fun c => ?_)
  · replace h := h.1 c
    refine jr_aload_n (pc := 168) dX11_takeRead_168 rfl 0 rfl ?_
    refine jr_get (pc := 169) (v := vr 38 0) fg_X11_16 (by decide) rfl dX11_takeRead_169 ?_
    refine jr_aload_n (pc := 172) dX11_takeRead_172 rfl 0 rfl ?_
    refine jr_get (pc := 173) (v := vr 43 0) fg_X11_31 (by decide) rfl dX11_takeRead_173 ?_
    refine jr_aload_n (pc := 176) dX11_takeRead_176 rfl 0 rfl ?_
    refine jr_get (pc := 177) (v := vi (M 11 0 3)) fg_X11_103 (by decide) rfl dX11_takeRead_177 ?_
    refine jr_callS (pc := 180) (d' := 0) (mt' := mX11_copyRow) (As := [vr 38 0, vr 43 0, vi (M 11 0 3)]) (st := []) fc_X11_176 (by decide) (Nat.le_of_ble_eq_true rfl) rfl dX11_takeRead_180 (jw_M.mono h (fun x19 M20 h => ?_))
    show jw_J 1 mX11_takeRead 183 [(0, vr 11 0), (1, vi v1)] [] M20 Q
    refine jr_iconst (pc := 183) (v := 0) dX11_takeRead_183 (by decide) ?_
    refine jr_istore_n (pc := 184) (lv' := [(1, vi 0), (0, vr 11 0)]) dX11_takeRead_184 rfl (by decide) rfl ?_
    exact jr_sub [1, 0] rfl h
  · replace h := h.2 c
    refine jr_aload_n (pc := 145) dX11_takeRead_145 rfl 0 rfl ?_
    refine jr_get (pc := 146) (v := vr 43 0) fg_X11_31 (by decide) rfl dX11_takeRead_146 ?_
    refine jr_iload_n (pc := 149) dX11_takeRead_149 rfl 1 rfl ?_
    refine jr_iload_n (pc := 150) dX11_takeRead_150 rfl 1 rfl ?_
    refine jr_bipush (pc := 151) (v := 6) dX11_takeRead_151 (by decide) ?_
    refine jr_icmp_ge (pc := 153) (tgt := 160) dX11_takeRead_153 (by decide) (fun c => ?_) (fun c => ?_)
    · replace h := h.1 c
      refine jr_iconst (pc := 160) (v := 0) dX11_takeRead_160 (by decide) ?_
      refine jr_iast (pc := 161) ⟨rfl, (by decide)⟩ h.1 dX11_takeRead_161 ?_
      replace h := h.2
      replace h := h _ rfl
      generalize jw_up M 43 0 v1.toNatClampNeg 0 = M21 at h ⊢
      refine jr_iinc (pc := 162) (lv' := [(1, vi (v1 + 1)), (0, vr 11 0)]) (q := 1) dX11_takeRead_162 rfl (by rfl) (by decide) rfl ?_
      refine jr_goto (pc := 165) (tgt := 139) dX11_takeRead_165 (by decide) ?_
      exact jr_sub [1, 0] rfl h
    · replace h := h.2 c
      refine jr_iconst (pc := 156) (v := (-1)) dX11_takeRead_156 (by decide) ?_
      refine jr_goto (pc := 157) (tgt := 161) dX11_takeRead_157 (by decide) ?_
      refine jr_iast (pc := 161) ⟨rfl, (by decide)⟩ h.1 dX11_takeRead_161 ?_
      replace h := h.2
      replace h := h _ rfl
      generalize jw_up M 43 0 v1.toNatClampNeg (-1) = M22 at h ⊢
      refine jr_iinc (pc := 162) (lv' := [(1, vi (v1 + 1)), (0, vr 11 0)]) (q := 1) dX11_takeRead_162 rfl (by rfl) (by decide) rfl ?_
      refine jr_goto (pc := 165) (tgt := 139) dX11_takeRead_165 (by decide) ?_
      exact jr_sub [1, 0] rfl h
set_option maxHeartbeats 4000000 in
set_option maxRecDepth 20000 in
theorem bk_X11_takeRead_185 {v1 : Int32} {M : jw_Mem} {Q : Int32 → jw_Mem → Prop}  (h : (((M 11 0 7) ≤ v1 → Q 0 M) ∧ (¬ (M 11 0 7) ≤ v1 → (vp_in v1 7 ∧ (vp_in (18 + v1) 33 ∧ (∀ M23 : jw_Mem, M23 = jw_up M 43 0 ((18 + v1) : Int32).toNatClampNeg (M 40 0 v1.toNatClampNeg) → (vp_in v1 7 ∧ (vp_in (25 + v1) 33 ∧ (∀ M24 : jw_Mem, M24 = jw_up M23 43 0 ((25 + v1) : Int32).toNatClampNeg (M23 42 0 v1.toNatClampNeg) → jw_J 1 mX11_takeRead 185 [(0, vr 11 0), (1, vi (v1 + 1))] [] M24 Q))))))))) : jw_J 1 mX11_takeRead 185 [(0, vr 11 0), (1, vi v1)] [] M Q := by
  refine jr_iload_n (pc := 185) dX11_takeRead_185 rfl 1 rfl ?_
  refine jr_aload_n (pc := 186) dX11_takeRead_186 rfl 0 rfl ?_
  refine jr_get (pc := 187) (v := vi (M 11 0 7)) fg_X11_106 (by decide) rfl dX11_takeRead_187 ?_
  refine jr_icmp_ge (pc := 190) (tgt := 229) dX11_takeRead_190 (by decide) (fun c => ?_) (fun c => ?_)
  · replace h := h.1 c
    exact jr_vret (pc := 229) rfl dX11_takeRead_229 h
  · replace h := h.2 c
    refine jr_aload_n (pc := 193) dX11_takeRead_193 rfl 0 rfl ?_
    refine jr_get (pc := 194) (v := vr 43 0) fg_X11_31 (by decide) rfl dX11_takeRead_194 ?_
    refine jr_bipush (pc := 197) (v := 18) dX11_takeRead_197 (by decide) ?_
    refine jr_iload_n (pc := 199) dX11_takeRead_199 rfl 1 rfl ?_
    refine jr_iadd (pc := 200) dX11_takeRead_200 ?_
    refine jr_aload_n (pc := 201) dX11_takeRead_201 rfl 0 rfl ?_
    refine jr_get (pc := 202) (v := vr 40 0) fg_X11_22 (by decide) rfl dX11_takeRead_202 ?_
    refine jr_iload_n (pc := 205) dX11_takeRead_205 rfl 1 rfl ?_
    refine jr_iald (pc := 206) ⟨rfl, (by decide)⟩ h.1 dX11_takeRead_206 ?_
    replace h := h.2
    refine jr_iast (pc := 207) ⟨rfl, (by decide)⟩ h.1 dX11_takeRead_207 ?_
    replace h := h.2
    replace h := h _ rfl
    generalize jw_up M 43 0 ((18 + v1) : Int32).toNatClampNeg (M 40 0 v1.toNatClampNeg) = M23 at h ⊢
    refine jr_aload_n (pc := 208) dX11_takeRead_208 rfl 0 rfl ?_
    refine jr_get (pc := 209) (v := vr 43 0) fg_X11_31 (by decide) rfl dX11_takeRead_209 ?_
    refine jr_bipush (pc := 212) (v := 25) dX11_takeRead_212 (by decide) ?_
    refine jr_iload_n (pc := 214) dX11_takeRead_214 rfl 1 rfl ?_
    refine jr_iadd (pc := 215) dX11_takeRead_215 ?_
    refine jr_aload_n (pc := 216) dX11_takeRead_216 rfl 0 rfl ?_
    refine jr_get (pc := 217) (v := vr 42 0) fg_X11_28 (by decide) rfl dX11_takeRead_217 ?_
    refine jr_iload_n (pc := 220) dX11_takeRead_220 rfl 1 rfl ?_
    refine jr_iald (pc := 221) ⟨rfl, (by decide)⟩ h.1 dX11_takeRead_221 ?_
    replace h := h.2
    refine jr_iast (pc := 222) ⟨rfl, (by decide)⟩ h.1 dX11_takeRead_222 ?_
    replace h := h.2
    replace h := h _ rfl
    generalize jw_up M23 43 0 ((25 + v1) : Int32).toNatClampNeg (M23 42 0 v1.toNatClampNeg) = M24 at h ⊢
    refine jr_iinc (pc := 223) (lv' := [(1, vi (v1 + 1)), (0, vr 11 0)]) (q := 1) dX11_takeRead_223 rfl (by rfl) (by decide) rfl ?_
    refine jr_goto (pc := 226) (tgt := 185) dX11_takeRead_226 (by decide) ?_
    exact jr_sub [1, 0] rfl h
