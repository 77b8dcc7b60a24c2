theorem dX0_clear_0 : decode cX0_clear 0 = .ok (.aload_n 0, 1) := by decide +kernel
theorem dX0_clear_1 : decode cX0_clear 1 = .ok (.iconst 0, 1) := by decide +kernel
theorem dX0_clear_2 : decode cX0_clear 2 = .ok (.putfield 22, 3) := by decide +kernel
theorem dX0_clear_5 : decode cX0_clear 5 = .ok (.return_, 1) := by decide +kernel
set_option maxHeartbeats 4000000 in
set_option maxRecDepth 20000 in
theorem en_X0_clear {M : jw_Mem} {Q : Int32 → jw_Mem → Prop}  (h : (∀ M1 : jw_Mem, M1 = jw_up M 0 0 3 0 → Q 0 M1)) : jw_M 0 mX0_clear [vr 0 0] M Q := by
  refine jw_M.of (by decide) (Nat.le_of_ble_eq_true rfl) ?_
  show jw_J 0 mX0_clear 0 [(0, vr 0 0)] [] M Q
  refine jr_aload_n (pc := 0) dX0_clear_0 rfl 0 rfl ?_
  refine jr_iconst (pc := 1) (v := 0) dX0_clear_1 (by decide) ?_
  refine jr_put (pc := 2) fp_X0_22 (by decide) (Or.inl ⟨_, _, _, rfl, by decide +kernel⟩) dX0_clear_2 ?_
  replace h := h _ rfl
  generalize jw_up M 0 0 3 0 = M1 at h ⊢
  exact jr_vret (pc := 5) rfl dX0_clear_5 h
theorem dX0_add_0 : decode cX0_add 0 = .ok (.aload_n 0, 1) := by decide +kernel
theorem dX0_add_1 : decode cX0_add 1 = .ok (.getfield 22, 3) := by decide +kernel
theorem dX0_add_4 : decode cX0_add 4 = .ok (.bipush 15, 2) := by decide +kernel
theorem dX0_add_6 : decode cX0_add 6 = .ok (.if_icmp .lt 5, 3) := by decide +kernel
theorem dX0_add_9 : decode cX0_add 9 = .ok (.iconst 0, 1) := by decide +kernel
theorem dX0_add_10 : decode cX0_add 10 = .ok (.ireturn, 1) := by decide +kernel
theorem dX0_add_11 : decode cX0_add 11 = .ok (.aload_n 0, 1) := by decide +kernel
theorem dX0_add_12 : decode cX0_add 12 = .ok (.getfield 11, 3) := by decide +kernel
theorem dX0_add_15 : decode cX0_add 15 = .ok (.aload_n 0, 1) := by decide +kernel
theorem dX0_add_16 : decode cX0_add 16 = .ok (.getfield 22, 3) := by decide +kernel
theorem dX0_add_19 : decode cX0_add 19 = .ok (.iload_n 1, 1) := by decide +kernel
theorem dX0_add_20 : decode cX0_add 20 = .ok (.iastore, 1) := by decide +kernel
theorem dX0_add_21 : decode cX0_add 21 = .ok (.aload_n 0, 1) := by decide +kernel
theorem dX0_add_22 : decode cX0_add 22 = .ok (.getfield 15, 3) := by decide +kernel
theorem dX0_add_25 : decode cX0_add 25 = .ok (.aload_n 0, 1) := by decide +kernel
theorem dX0_add_26 : decode cX0_add 26 = .ok (.getfield 22, 3) := by decide +kernel
theorem dX0_add_29 : decode cX0_add 29 = .ok (.iload_n 2, 1) := by decide +kernel
theorem dX0_add_30 : decode cX0_add 30 = .ok (.iastore, 1) := by decide +kernel
theorem dX0_add_31 : decode cX0_add 31 = .ok (.aload_n 0, 1) := by decide +kernel
theorem dX0_add_32 : decode cX0_add 32 = .ok (.dup, 1) := by decide +kernel
theorem dX0_add_33 : decode cX0_add 33 = .ok (.getfield 22, 3) := by decide +kernel
theorem dX0_add_36 : decode cX0_add 36 = .ok (.iconst 1, 1) := by decide +kernel
theorem dX0_add_37 : decode cX0_add 37 = .ok (.iadd, 1) := by decide +kernel
theorem dX0_add_38 : decode cX0_add 38 = .ok (.putfield 22, 3) := by decide +kernel
theorem dX0_add_41 : decode cX0_add 41 = .ok (.iconst 1, 1) := by decide +kernel
theorem dX0_add_42 : decode cX0_add 42 = .ok (.ireturn, 1) := by decide +kernel
set_option maxHeartbeats 4000000 in
set_option maxRecDepth 20000 in
theorem en_X0_add {a1 : Int32} {a2 : Int32} {M : jw_Mem} {Q : Int32 → jw_Mem → Prop}  (h : (((M 0 0 3) < 15 → (vp_in (M 0 0 3) 15 ∧ (∀ M1 : jw_Mem, M1 = jw_up M 12 0 ((M 0 0 3) : Int32).toNatClampNeg a1 → (vp_in (M1 0 0 3) 15 ∧ (∀ M2 : jw_Mem, M2 = jw_up M1 13 0 ((M1 0 0 3) : Int32).toNatClampNeg a2 → (∀ M3 : jw_Mem, M3 = jw_up M2 0 0 3 ((M2 0 0 3) + 1) → Q 1 M3)))))) ∧ (¬ (M 0 0 3) < 15 → Q 0 M))) : jw_M 0 mX0_add [vr 0 0, vi a1, vi a2] M Q := by
  refine jw_M.of (by decide) (Nat.le_of_ble_eq_true rfl) ?_
  show jw_J 0 mX0_add 0 [(0, vr 0 0), (1, vi a1), (2, vi a2)] [] M Q
  refine jr_aload_n (pc := 0) dX0_add_0 rfl 0 rfl ?_
  refine jr_get (pc := 1) (v := vi (M 0 0 3)) fg_X0_22 (by decide) rfl dX0_add_1 ?_
  refine jr_bipush (pc := 4) (v := 15) dX0_add_4 (by decide) ?_
  refine jr_icmp_lt (pc := 6) (tgt := 11) dX0_add_6 (by decide) (fun c => ?_) (fun c => ?_)
  · replace h := h.1 c
    refine jr_aload_n (pc := 11) dX0_add_11 rfl 0 rfl ?_
    refine jr_get (pc := 12) (v := vr 12 0) fg_X0_11 (by decide) rfl dX0_add_12 ?_
    refine jr_aload_n (pc := 15) dX0_add_15 rfl 0 rfl ?_
    refine jr_get (pc := 16) (v := vi (M 0 0 3)) fg_X0_22 (by decide) rfl dX0_add_16 ?_
    refine jr_iload_n (pc := 19) dX0_add_19 rfl 1 rfl ?_
    refine jr_iast (pc := 20) ⟨rfl, (by decide)⟩ h.1 dX0_add_20 ?_
    replace h := h.2
    replace h := h _ rfl
    generalize jw_up M 12 0 ((M 0 0 3) : Int32).toNatClampNeg a1 = M1 at h ⊢
    refine jr_aload_n (pc := 21) dX0_add_21 rfl 0 rfl ?_
    refine jr_get (pc := 22) (v := vr 13 0) fg_X0_15 (by decide) rfl dX0_add_22 ?_
    refine jr_aload_n (pc := 25) dX0_add_25 rfl 0 rfl ?_
    refine jr_get (pc := 26) (v := vi (M1 0 0 3)) fg_X0_22 (by decide) rfl dX0_add_26 ?_
    refine jr_iload_n (pc := 29) dX0_add_29 rfl 2 rfl ?_
    refine jr_iast (pc := 30) ⟨rfl, (by decide)⟩ h.1 dX0_add_30 ?_
    replace h := h.2
    replace h := h _ rfl
    generalize jw_up M1 13 0 ((M1 0 0 3) : Int32).toNatClampNeg a2 = M2 at h ⊢
    refine jr_aload_n (pc := 31) dX0_add_31 rfl 0 rfl ?_
    refine jr_dup_r (pc := 32) dX0_add_32 ?_
    refine jr_get (pc := 33) (v := vi (M2 0 0 3)) fg_X0_22 (by decide) rfl dX0_add_33 ?_
    refine jr_iconst (pc := 36) (v := 1) dX0_add_36 (by decide) ?_
    refine jr_iadd (pc := 37) dX0_add_37 ?_
    refine jr_put (pc := 38) fp_X0_22 (by decide) (Or.inl ⟨_, _, _, rfl, by decide +kernel⟩) dX0_add_38 ?_
    replace h := h _ rfl
    generalize jw_up M2 0 0 3 ((M2 0 0 3) + 1) = M3 at h ⊢
    refine jr_iconst (pc := 41) (v := 1) dX0_add_41 (by decide) ?_
    exact jr_zret (pc := 42) rfl dX0_add_42 (Or.inr rfl) h
  · replace h := h.2 c
    refine jr_iconst (pc := 9) (v := 0) dX0_add_9 (by decide) ?_
    exact jr_zret (pc := 10) rfl dX0_add_10 (Or.inl rfl) h
theorem dX0_firstWrong_0 : decode cX0_firstWrong 0 = .ok (.iconst 0, 1) := by decide +kernel
theorem dX0_firstWrong_1 : decode cX0_firstWrong 1 = .ok (.istore_n 1, 1) := by decide +kernel
theorem dX0_firstWrong_2 : decode cX0_firstWrong 2 = .ok (.iload_n 1, 1) := by decide +kernel
theorem dX0_firstWrong_3 : decode cX0_firstWrong 3 = .ok (.aload_n 0, 1) := by decide +kernel
theorem dX0_firstWrong_4 : decode cX0_firstWrong 4 = .ok (.getfield 22, 3) := by decide +kernel
theorem dX0_firstWrong_7 : decode cX0_firstWrong 7 = .ok (.if_icmp .ge 33, 3) := by decide +kernel
theorem dX0_firstWrong_10 : decode cX0_firstWrong 10 = .ok (.aload_n 0, 1) := by decide +kernel
theorem dX0_firstWrong_11 : decode cX0_firstWrong 11 = .ok (.getfield 18, 3) := by decide +kernel
theorem dX0_firstWrong_14 : decode cX0_firstWrong 14 = .ok (.aload_n 0, 1) := by decide +kernel
theorem dX0_firstWrong_15 : decode cX0_firstWrong 15 = .ok (.getfield 11, 3) := by decide +kernel
theorem dX0_firstWrong_18 : decode cX0_firstWrong 18 = .ok (.iload_n 1, 1) := by decide +kernel
theorem dX0_firstWrong_19 : decode cX0_firstWrong 19 = .ok (.iaload, 1) := by decide +kernel
theorem dX0_firstWrong_20 : decode cX0_firstWrong 20 = .ok (.aload_n 0, 1) := by decide +kernel
theorem dX0_firstWrong_21 : decode cX0_firstWrong 21 = .ok (.getfield 15, 3) := by decide +kernel
theorem dX0_firstWrong_24 : decode cX0_firstWrong 24 = .ok (.iload_n 1, 1) := by decide +kernel
theorem dX0_firstWrong_25 : decode cX0_firstWrong 25 = .ok (.iaload, 1) := by decide +kernel
theorem dX0_firstWrong_26 : decode cX0_firstWrong 26 = .ok (.invokevirtual 26, 3) := by decide +kernel
theorem dX0_firstWrong_29 : decode cX0_firstWrong 29 = .ok (.ifCond .ne 5, 3) := by decide +kernel
theorem dX0_firstWrong_32 : decode cX0_firstWrong 32 = .ok (.iload_n 1, 1) := by decide +kernel
theorem dX0_firstWrong_33 : decode cX0_firstWrong 33 = .ok (.ireturn, 1) := by decide +kernel
theorem dX0_firstWrong_34 : decode cX0_firstWrong 34 = .ok (.iinc 1 1, 3) := by decide +kernel
theorem dX0_firstWrong_37 : decode cX0_firstWrong 37 = .ok (.goto (-35), 3) := by decide +kernel
theorem dX0_firstWrong_40 : decode cX0_firstWrong 40 = .ok (.iconst (-1), 1) := by decide +kernel
theorem dX0_firstWrong_41 : decode cX0_firstWrong 41 = .ok (.ireturn, 1) := by decide +kernel
set_option maxHeartbeats 4000000 in
set_option maxRecDepth 20000 in
theorem en_X0_firstWrong {M : jw_Mem} {Q : Int32 → jw_Mem → Prop}  (h : jw_J 2 mX0_firstWrong 2 [(0, vr 0 0), (1, vi 0)] [] M Q) : jw_M 2 mX0_firstWrong [vr 0 0] M Q := by
  refine jw_M.of (by decide) (Nat.le_of_ble_eq_true rfl) ?_
  show jw_J 2 mX0_firstWrong 0 [(0, vr 0 0)] [] M Q
  refine jr_iconst (pc := 0) (v := 0) dX0_firstWrong_0 (by decide) ?_
  refine jr_istore_n (pc := 1) (lv' := [(1, vi 0), (0, vr 0 0)]) dX0_firstWrong_1 rfl (by decide) rfl ?_
  exact jr_sub [1, 0] rfl h
set_option maxHeartbeats 4000000 in
set_option maxRecDepth 20000 in
theorem bk_X0_firstWrong_2 {v1 : Int32} {M : jw_Mem} {Q : Int32 → jw_Mem → Prop}  (h : (((M 0 0 3) ≤ v1 → Q (-1) M) ∧ (¬ (M 0 0 3) ≤ v1 → (vp_in v1 15 ∧ (vp_in v1 15 ∧ (jw_M 1 mX8_isOn [vr 8 0, vi (M 12 0 v1.toNatClampNeg), vi (M 13 0 v1.toNatClampNeg)] M (fun x1 M2 => ((¬ x1 = 0 → jw_J 2 mX0_firstWrong 2 [(0, vr 0 0), (1, vi (v1 + 1))] [] M2 Q) ∧ (x1 = 0 → Q v1 M2))))))))) : jw_J 2 mX0_firstWrong 2 [(0, vr 0 0), (1, vi v1)] [] M Q := by
  refine jr_iload_n (pc := 2) dX0_firstWrong_2 rfl 1 rfl ?_
  refine jr_aload_n (pc := 3) dX0_firstWrong_3 rfl 0 rfl ?_
  refine jr_get (pc := 4) (v := vi (M 0 0 3)) fg_X0_22 (by decide) rfl dX0_firstWrong_4 ?_
  refine jr_icmp_ge (pc := 7) (tgt := 40) dX0_firstWrong_7 (by decide) (fun c => ?_) (fun c => ?_)
  · replace h := h.1 c
    refine jr_iconst (pc := 40) (v := (-1)) dX0_firstWrong_40 (by decide) ?_
    exact jr_iret (pc := 41) rfl dX0_firstWrong_41 h
  · replace h := h.2 c
    refine jr_aload_n (pc := 10) dX0_firstWrong_10 rfl 0 rfl ?_
    refine jr_get (pc := 11) (v := vr 8 0) fg_X0_18 (by decide) rfl dX0_firstWrong_11 ?_
    refine jr_aload_n (pc := 14) dX0_firstWrong_14 rfl 0 rfl ?_
    refine jr_get (pc := 15) (v := vr 12 0) fg_X0_11 (by decide) rfl dX0_firstWrong_15 ?_
    refine jr_iload_n (pc := 18) dX0_firstWrong_18 rfl 1 rfl ?_
    refine jr_iald (pc := 19) ⟨rfl, (by decide)⟩ h.1 dX0_firstWrong_19 ?_
    replace h := h.2
    refine jr_aload_n (pc := 20) dX0_firstWrong_20 rfl 0 rfl ?_
    refine jr_get (pc := 21) (v := vr 13 0) fg_X0_15 (by decide) rfl dX0_firstWrong_21 ?_
    refine jr_iload_n (pc := 24) dX0_firstWrong_24 rfl 1 rfl ?_
    refine jr_iald (pc := 25) ⟨rfl, (by decide)⟩ h.1 dX0_firstWrong_25 ?_
    replace h := h.2
    refine jr_callV (pc := 26) (d' := 1) (mt' := mX8_isOn) (k := 8) (n := 0) (As := [vi (M 12 0 v1.toNatClampNeg), vi (M 13 0 v1.toNatClampNeg)]) (st := []) fc_X0_26 (by decide) (by decide) (Nat.le_of_ble_eq_true rfl) rfl dX0_firstWrong_26 (jw_M.mono h (fun x1 M2 h => ?_))
    show jw_J 2 mX0_firstWrong 29 [(0, vr 0 0), (1, vi v1)] [vi x1] M2 Q
    refine jr_if_ne (pc := 29) (tgt := 34) dX0_firstWrong_29 (by decide) (fun c => ?_) (fun c => ?_)
    · replace h := h.1 c
      refine jr_iinc (pc := 34) (lv' := [(1, vi (v1 + 1)), (0, vr 0 0)]) (q := 1) dX0_firstWrong_34 rfl (by rfl) (by decide) rfl ?_
      refine jr_goto (pc := 37) (tgt := 2) dX0_firstWrong_37 (by decide) ?_
      exact jr_sub [1, 0] rfl h
    · replace h := h.2 c
      refine jr_iload_n (pc := 32) dX0_firstWrong_32 rfl 1 rfl ?_
      exact jr_iret (pc := 33) rfl dX0_firstWrong_33 h
theorem dX2_draw_0 : decode cX2_draw 0 = .ok (.aload_n 0, 1) := by decide +kernel
theorem dX2_draw_1 : decode cX2_draw 1 = .ok (.aload_n 0, 1) := by decide +kernel
theorem dX2_draw_2 : decode cX2_draw 2 = .ok (.getfield 17, 3) := by decide +kernel
theorem dX2_draw_5 : decode cX2_draw 5 = .ok (.i2l, 1) := by decide +kernel
theorem dX2_draw_6 : decode cX2_draw 6 = .ok (.ldc2_w 21, 3) := by decide +kernel
theorem dX2_draw_9 : decode cX2_draw 9 = .ok (.lmul, 1) := by decide +kernel
theorem dX2_draw_10 : decode cX2_draw 10 = .ok (.ldc2_w 23, 3) := by decide +kernel
theorem dX2_draw_13 : decode cX2_draw 13 = .ok (.ladd, 1) := by decide +kernel
theorem dX2_draw_14 : decode cX2_draw 14 = .ok (.ldc2_w 25, 3) := by decide +kernel
theorem dX2_draw_17 : decode cX2_draw 17 = .ok (.land, 1) := by decide +kernel
theorem dX2_draw_18 : decode cX2_draw 18 = .ok (.l2i, 1) := by decide +kernel
theorem dX2_draw_19 : decode cX2_draw 19 = .ok (.putfield 17, 3) := by decide +kernel
theorem dX2_draw_22 : decode cX2_draw 22 = .ok (.iload_n 1, 1) := by decide +kernel
theorem dX2_draw_23 : decode cX2_draw 23 = .ok (.ifCond .le 15, 3) := by decide +kernel
theorem dX2_draw_26 : decode cX2_draw 26 = .ok (.aload_n 0, 1) := by decide +kernel
theorem dX2_draw_27 : decode cX2_draw 27 = .ok (.getfield 17, 3) := by decide +kernel
theorem dX2_draw_30 : decode cX2_draw 30 = .ok (.ldc 27, 2) := by decide +kernel
theorem dX2_draw_32 : decode cX2_draw 32 = .ok (.idiv, 1) := by decide +kernel
theorem dX2_draw_33 : decode cX2_draw 33 = .ok (.iload_n 1, 1) := by decide +kernel
theorem dX2_draw_34 : decode cX2_draw 34 = .ok (.irem, 1) := by decide +kernel
theorem dX2_draw_35 : decode cX2_draw 35 = .ok (.goto 4, 3) := by decide +kernel
theorem dX2_draw_38 : decode cX2_draw 38 = .ok (.iconst 0, 1) := by decide +kernel
theorem dX2_draw_39 : decode cX2_draw 39 = .ok (.ireturn, 1) := by decide +kernel
set_option maxHeartbeats 4000000 in
set_option maxRecDepth 20000 in
theorem en_X2_draw {a1 : Int32} {M : jw_Mem} {Q : Int32 → jw_Mem → Prop}  (h : (∀ M1 : jw_Mem, M1 = jw_up M 2 0 2 ((((((M 2 0 2).toInt64) * 1103515245) + 12345) &&& 2147483647).toInt32) → ((a1 ≤ 0 → Q 0 M1) ∧ (¬ a1 ≤ 0 → (¬ a1 = 0 ∧ Q (((M1 2 0 2) / 65536) - ((M1 2 0 2) / 65536) / a1 * a1) M1))))) : jw_M 0 mX2_draw [vr 2 0, vi a1] M Q := by
  refine jw_M.of (by decide) (Nat.le_of_ble_eq_true rfl) ?_
  show jw_J 0 mX2_draw 0 [(0, vr 2 0), (1, vi a1)] [] M Q
  refine jr_aload_n (pc := 0) dX2_draw_0 rfl 0 rfl ?_
  refine jr_aload_n (pc := 1) dX2_draw_1 rfl 0 rfl ?_
  refine jr_get (pc := 2) (v := vi (M 2 0 2)) fg_X2_17 (by decide) rfl dX2_draw_2 ?_
  refine jr_i2l (pc := 5) dX2_draw_5 ?_
  refine jr_ldc2 (pc := 6) fk_X2_21 dX2_draw_6 ?_
  refine jr_lmul (pc := 9) dX2_draw_9 ?_
  refine jr_ldc2 (pc := 10) fk_X2_23 dX2_draw_10 ?_
  refine jr_ladd (pc := 13) dX2_draw_13 ?_
  refine jr_ldc2 (pc := 14) fk_X2_25 dX2_draw_14 ?_
  refine jr_land (pc := 17) dX2_draw_17 ?_
  refine jr_l2i (pc := 18) dX2_draw_18 ?_
  refine jr_put (pc := 19) fp_X2_17 (by decide) (Or.inl ⟨_, _, _, rfl, by decide +kernel⟩) dX2_draw_19 ?_
  replace h := h _ rfl
  generalize jw_up M 2 0 2 ((((((M 2 0 2).toInt64) * 1103515245) + 12345) &&& 2147483647).toInt32) = M1 at h ⊢
  refine jr_iload_n (pc := 22) dX2_draw_22 rfl 1 rfl ?_
  refine jr_if_le (pc := 23) (tgt := 38) dX2_draw_23 (by decide) (fun c => ?_) (fun c => ?_)
  · replace h := h.1 c
    refine jr_iconst (pc := 38) (v := 0) dX2_draw_38 (by decide) ?_
    exact jr_iret (pc := 39) rfl dX2_draw_39 h
  · replace h := h.2 c
    refine jr_aload_n (pc := 26) dX2_draw_26 rfl 0 rfl ?_
    refine jr_get (pc := 27) (v := vi (M1 2 0 2)) fg_X2_17 (by decide) rfl dX2_draw_27 ?_
    refine jr_ldc (pc := 30) fk_X2_27 dX2_draw_30 ?_
    refine jr_idiv (pc := 32) dX2_draw_32 (by decide) ?_
    refine jr_iload_n (pc := 33) dX2_draw_33 rfl 1 rfl ?_
    refine jr_irem (pc := 34) dX2_draw_34 h.1 ?_
    replace h := h.2
    refine jr_goto (pc := 35) (tgt := 39) dX2_draw_35 (by decide) ?_
    exact jr_iret (pc := 39) rfl dX2_draw_39 h
theorem dX2_befall_0 : decode cX2_befall 0 = .ok (.aload_n 0, 1) := by decide +kernel
theorem dX2_befall_1 : decode cX2_befall 1 = .ok (.iconst 4, 1) := by decide +kernel
theorem dX2_befall_2 : decode cX2_befall 2 = .ok (.invokevirtual 28, 3) := by decide +kernel
theorem dX2_befall_5 : decode cX2_befall 5 = .ok (.tableswitch 48 0 2 #[27, 34, 41], 27) := by decide +kernel
theorem dX2_befall_32 : decode cX2_befall 32 = .ok (.aload_n 0, 1) := by decide +kernel
theorem dX2_befall_33 : decode cX2_befall 33 = .ok (.invokevirtual 32, 3) := by decide +kernel
theorem dX2_befall_36 : decode cX2_befall 36 = .ok (.goto 17, 3) := by decide +kernel
theorem dX2_befall_39 : decode cX2_befall 39 = .ok (.aload_n 0, 1) := by decide +kernel
theorem dX2_befall_40 : decode cX2_befall 40 = .ok (.invokevirtual 35, 3) := by decide +kernel
theorem dX2_befall_43 : decode cX2_befall 43 = .ok (.goto 10, 3) := by decide +kernel
theorem dX2_befall_46 : decode cX2_befall 46 = .ok (.aload_n 0, 1) := by decide +kernel
theorem dX2_befall_47 : decode cX2_befall 47 = .ok (.invokevirtual 38, 3) := by decide +kernel
theorem dX2_befall_50 : decode cX2_befall 50 = .ok (.goto 3, 3) := by decide +kernel
theorem dX2_befall_53 : decode cX2_befall 53 = .ok (.return_, 1) := by decide +kernel
set_option maxHeartbeats 4000000 in
set_option maxRecDepth 20000 in
theorem en_X2_befall {M : jw_Mem} {Q : Int32 → jw_Mem → Prop}  (h : (jw_M 0 mX2_draw [vr 2 0, vi 4] M (fun x1 M2 => ((x1.toInt < 0 ∨ 2 < x1.toInt → Q 0 M2) ∧ (x1.toInt = 0 → (jw_M 1 mX2_turnWalker [vr 2 0] M2 (fun x3 M4 => Q 0 M4))) ∧ (x1.toInt = 1 → (jw_M 3 mX2_raiseStatue [vr 2 0] M2 (fun x5 M6 => Q 0 M6))) ∧ (x1.toInt = 2 → (jw_M 1 mX2_washStatue [vr 2 0] M2 (fun x7 M8 => Q 0 M8))))))) : jw_M 4 mX2_befall [vr 2 0] M Q := by
  refine jw_M.of (by decide) (Nat.le_of_ble_eq_true rfl) ?_
  show jw_J 4 mX2_befall 0 [(0, vr 2 0)] [] M Q
  refine jr_aload_n (pc := 0) dX2_befall_0 rfl 0 rfl ?_
  refine jr_iconst (pc := 1) (v := 4) dX2_befall_1 (by decide) ?_
  refine jr_callV (pc := 2) (d' := 0) (mt' := mX2_draw) (k := 2) (n := 0) (As := [vi 4]) (st := []) fc_X2_28 (by decide) (by decide) (Nat.le_of_ble_eq_true rfl) rfl dX2_befall_2 (jw_M.mono h (fun x1 M2 h => ?_))
  show jw_J 4 mX2_befall 5 [(0, vr 2 0)] [vi x1] M2 Q
  refine jr_tsw (pc := 5) dX2_befall_5 (tgt := 53) (by decide) (by decide) (fun c => ?_) (fun j c c2 => ?_)
  · replace h := h.1 c
    exact jr_vret (pc := 53) rfl dX2_befall_53 h
  · have hj : j = 0 ∨ j = 1 ∨ j = 2 := by omega
    rcases hj with rfl | rfl | rfl
    · replace h := h.2.1 (c.trans (by decide))
      refine ⟨27, 32, rfl, by decide, ?_⟩
      refine jr_aload_n (pc := 32) dX2_befall_32 rfl 0 rfl ?_
      refine jr_callV (pc := 33) (d' := 1) (mt' := mX2_turnWalker) (k := 2) (n := 0) (As := []) (st := []) fc_X2_32 (by decide) (by decide) (Nat.le_of_ble_eq_true rfl) rfl dX2_befall_33 (jw_M.mono h (fun x3 M4 h => ?_))
      show jw_J 4 mX2_befall 36 [(0, vr 2 0)] [] M4 Q
      refine jr_goto (pc := 36) (tgt := 53) dX2_befall_36 (by decide) ?_
      exact jr_vret (pc := 53) rfl dX2_befall_53 h
    · replace h := h.2.2.1 (c.trans (by decide))
      refine ⟨34, 39, rfl, by decide, ?_⟩
      refine jr_aload_n (pc := 39) dX2_befall_39 rfl 0 rfl ?_
      refine jr_callV (pc := 40) (d' := 3) (mt' := mX2_raiseStatue) (k := 2) (n := 0) (As := []) (st := []) fc_X2_35 (by decide) (by decide) (Nat.le_of_ble_eq_true rfl) rfl dX2_befall_40 (jw_M.mono h (fun x5 M6 h => ?_))
      show jw_J 4 mX2_befall 43 [(0, vr 2 0)] [] M6 Q
      refine jr_goto (pc := 43) (tgt := 53) dX2_befall_43 (by decide) ?_
      exact jr_vret (pc := 53) rfl dX2_befall_53 h
    · replace h := h.2.2.2 (c.trans (by decide))
      refine ⟨41, 46, rfl, by decide, ?_⟩
      refine jr_aload_n (pc := 46) dX2_befall_46 rfl 0 rfl ?_
      refine jr_callV (pc := 47) (d' := 1) (mt' := mX2_washStatue) (k := 2) (n := 0) (As := []) (st := []) fc_X2_38 (by decide) (by decide) (Nat.le_of_ble_eq_true rfl) rfl dX2_befall_47 (jw_M.mono h (fun x7 M8 h => ?_))
      show jw_J 4 mX2_befall 50 [(0, vr 2 0)] [] M8 Q
      refine jr_goto (pc := 50) (tgt := 53) dX2_befall_50 (by decide) ?_
      exact jr_vret (pc := 53) rfl dX2_befall_53 h
theorem dX2_turnWalker_0 : decode cX2_turnWalker 0 = .ok (.aload_n 0, 1) := by decide +kernel
theorem dX2_turnWalker_1 : decode cX2_turnWalker 1 = .ok (.getfield 7, 3) := by decide +kernel
theorem dX2_turnWalker_4 : decode cX2_turnWalker 4 = .ok (.getfield 41, 3) := by decide +kernel
theorem dX2_turnWalker_7 : decode cX2_turnWalker 7 = .ok (.ifCond .le 63, 3) := by decide +kernel
theorem dX2_turnWalker_10 : decode cX2_turnWalker 10 = .ok (.aload_n 0, 1) := by decide +kernel
theorem dX2_turnWalker_11 : decode cX2_turnWalker 11 = .ok (.getfield 7, 3) := by decide +kernel
theorem dX2_turnWalker_14 : decode cX2_turnWalker 14 = .ok (.getfield 46, 3) := by decide +kernel
theorem dX2_turnWalker_17 : decode cX2_turnWalker 17 = .ok (.ifCond .le 53, 3) := by decide +kernel
theorem dX2_turnWalker_20 : decode cX2_turnWalker 20 = .ok (.aload_n 0, 1) := by decide +kernel
theorem dX2_turnWalker_21 : decode cX2_turnWalker 21 = .ok (.aload_n 0, 1) := by decide +kernel
theorem dX2_turnWalker_22 : decode cX2_turnWalker 22 = .ok (.getfield 7, 3) := by decide +kernel
theorem dX2_turnWalker_25 : decode cX2_turnWalker 25 = .ok (.getfield 41, 3) := by decide +kernel
theorem dX2_turnWalker_28 : decode cX2_turnWalker 28 = .ok (.invokevirtual 28, 3) := by decide +kernel
theorem dX2_turnWalker_31 : decode cX2_turnWalker 31 = .ok (.istore_n 1, 1) := by decide +kernel
theorem dX2_turnWalker_32 : decode cX2_turnWalker 32 = .ok (.aload_n 0, 1) := by decide +kernel
theorem dX2_turnWalker_33 : decode cX2_turnWalker 33 = .ok (.aload_n 0, 1) := by decide +kernel
theorem dX2_turnWalker_34 : decode cX2_turnWalker 34 = .ok (.getfield 7, 3) := by decide +kernel
theorem dX2_turnWalker_37 : decode cX2_turnWalker 37 = .ok (.getfield 46, 3) := by decide +kernel
theorem dX2_turnWalker_40 : decode cX2_turnWalker 40 = .ok (.invokevirtual 28, 3) := by decide +kernel
theorem dX2_turnWalker_43 : decode cX2_turnWalker 43 = .ok (.istore_n 2, 1) := by decide +kernel
theorem dX2_turnWalker_44 : decode cX2_turnWalker 44 = .ok (.aload_n 0, 1) := by decide +kernel
theorem dX2_turnWalker_45 : decode cX2_turnWalker 45 = .ok (.getfield 7, 3) := by decide +kernel
theorem dX2_turnWalker_48 : decode cX2_turnWalker 48 = .ok (.iload_n 1, 1) := by decide +kernel
theorem dX2_turnWalker_49 : decode cX2_turnWalker 49 = .ok (.invokevirtual 49, 3) := by decide +kernel
theorem dX2_turnWalker_52 : decode cX2_turnWalker 52 = .ok (.ifCond .eq 18, 3) := by decide +kernel
theorem dX2_turnWalker_55 : decode cX2_turnWalker 55 = .ok (.aload_n 0, 1) := by decide +kernel
theorem dX2_turnWalker_56 : decode cX2_turnWalker 56 = .ok (.getfield 13, 3) := by decide +kernel
theorem dX2_turnWalker_59 : decode cX2_turnWalker 59 = .ok (.getfield 53, 3) := by decide +kernel
theorem dX2_turnWalker_62 : decode cX2_turnWalker 62 = .ok (.iload_n 1, 1) := by decide +kernel
theorem dX2_turnWalker_63 : decode cX2_turnWalker 63 = .ok (.dup2, 1) := by decide +kernel
theorem dX2_turnWalker_64 : decode cX2_turnWalker 64 = .ok (.iaload, 1) := by decide +kernel
theorem dX2_turnWalker_65 : decode cX2_turnWalker 65 = .ok (.iconst 1, 1) := by decide +kernel
theorem dX2_turnWalker_66 : decode cX2_turnWalker 66 = .ok (.iload_n 2, 1) := by decide +kernel
theorem dX2_turnWalker_67 : decode cX2_turnWalker 67 = .ok (.ishl, 1) := by decide +kernel
theorem dX2_turnWalker_68 : decode cX2_turnWalker 68 = .ok (.ixor, 1) := by decide +kernel
theorem dX2_turnWalker_69 : decode cX2_turnWalker 69 = .ok (.iastore, 1) := by decide +kernel
theorem dX2_turnWalker_70 : decode cX2_turnWalker 70 = .ok (.return_, 1) := by decide +kernel
set_option maxHeartbeats 4000000 in
set_option maxRecDepth 20000 in
theorem en_X2_turnWalker {M : jw_Mem} {Q : Int32 → jw_Mem → Prop}  (h : (((M 1 0 3) ≤ 0 → Q 0 M) ∧ (¬ (M 1 0 3) ≤ 0 → (((M 1 0 1) ≤ 0 → Q 0 M) ∧ (¬ (M 1 0 1) ≤ 0 → (jw_M 0 mX2_draw [vr 2 0, vi (M 1 0 3)] M (fun x1 M2 => (jw_M 0 mX2_draw [vr 2 0, vi (M2 1 0 1)] M2 (fun x3 M4 => (jw_M 0 mX1_hasWalker [vr 1 0, vi x1] M4 (fun x5 M6 => ((x5 = 0 → Q 0 M6) ∧ (¬ x5 = 0 → (vp_in x1 7 ∧ (vp_in x1 7 ∧ (∀ M7 : jw_Mem, M7 = jw_up M6 29 0 x1.toNatClampNeg ((M6 29 0 x1.toNatClampNeg) ^^^ ((1 : Int32) <<< (x3 &&& 31))) → Q 0 M7)))))))))))))))) : jw_M 1 mX2_turnWalker [vr 2 0] M Q := by
  refine jw_M.of (by decide) (Nat.le_of_ble_eq_true rfl) ?_
  show jw_J 1 mX2_turnWalker 0 [(0, vr 2 0)] [] M Q
  refine jr_aload_n (pc := 0) dX2_turnWalker_0 rfl 0 rfl ?_
  refine jr_get (pc := 1) (v := vr 1 0) fg_X2_7 (by decide) rfl dX2_turnWalker_1 ?_
  refine jr_get (pc := 4) (v := vi (M 1 0 3)) fg_X2_41 (by decide) rfl dX2_turnWalker_4 ?_
  refine jr_if_le (pc := 7) (tgt := 70) dX2_turnWalker_7 (by decide) (fun c => ?_) (fun c => ?_)
  · replace h := h.1 c
    exact jr_vret (pc := 70) rfl dX2_turnWalker_70 h
  · replace h := h.2 c
    refine jr_aload_n (pc := 10) dX2_turnWalker_10 rfl 0 rfl ?_
    refine jr_get (pc := 11) (v := vr 1 0) fg_X2_7 (by decide) rfl dX2_turnWalker_11 ?_
    refine jr_get (pc := 14) (v := vi (M 1 0 1)) fg_X2_46 (by decide) rfl dX2_turnWalker_14 ?_
    refine jr_if_le (pc := 17) (tgt := 70) dX2_turnWalker_17 (by decide) (fun c => ?_) (fun c => ?_)
    · replace h := h.1 c
      exact jr_vret (pc := 70) rfl dX2_turnWalker_70 h
    · replace h := h.2 c
      refine jr_aload_n (pc := 20) dX2_turnWalker_20 rfl 0 rfl ?_
      refine jr_aload_n (pc := 21) dX2_turnWalker_21 rfl 0 rfl ?_
      refine jr_get (pc := 22) (v := vr 1 0) fg_X2_7 (by decide) rfl dX2_turnWalker_22 ?_
      refine jr_get (pc := 25) (v := vi (M 1 0 3)) fg_X2_41 (by decide) rfl dX2_turnWalker_25 ?_
      refine jr_callV (pc := 28) (d' := 0) (mt' := mX2_draw) (k := 2) (n := 0) (As := [vi (M 1 0 3)]) (st := []) fc_X2_28 (by decide) (by decide) (Nat.le_of_ble_eq_true rfl) rfl dX2_turnWalker_28 (jw_M.mono h (fun x1 M2 h => ?_))
      show jw_J 1 mX2_turnWalker 31 [(0, vr 2 0)] [vi x1] M2 Q
      refine jr_istore_n (pc := 31) (lv' := [(1, vi x1), (0, vr 2 0)]) dX2_turnWalker_31 rfl (by decide) rfl ?_
      refine jr_aload_n (pc := 32) dX2_turnWalker_32 rfl 1 rfl ?_
      refine jr_aload_n (pc := 33) dX2_turnWalker_33 rfl 1 rfl ?_
      refine jr_get (pc := 34) (v := vr 1 0) fg_X2_7 (by decide) rfl dX2_turnWalker_34 ?_
      refine jr_get (pc := 37) (v := vi (M2 1 0 1)) fg_X2_46 (by decide) rfl dX2_turnWalker_37 ?_
      refine jr_callV (pc := 40) (d' := 0) (mt' := mX2_draw) (k := 2) (n := 0) (As := [vi (M2 1 0 1)]) (st := []) fc_X2_28 (by decide) (by decide) (Nat.le_of_ble_eq_true rfl) rfl dX2_turnWalker_40 (jw_M.mono h (fun x3 M4 h => ?_))
      show jw_J 1 mX2_turnWalker 43 [(1, vi x1), (0, vr 2 0)] [vi x3] M4 Q
      refine jr_istore_n (pc := 43) (lv' := [(2, vi x3), (1, vi x1), (0, vr 2 0)]) dX2_turnWalker_43 rfl (by decide) rfl ?_
      refine jr_aload_n (pc := 44) dX2_turnWalker_44 rfl 2 rfl ?_
      refine jr_get (pc := 45) (v := vr 1 0) fg_X2_7 (by decide) rfl dX2_turnWalker_45 ?_
      refine jr_iload_n (pc := 48) dX2_turnWalker_48 rfl 1 rfl ?_
      refine jr_callV (pc := 49) (d' := 0) (mt' := mX1_hasWalker) (k := 1) (n := 0) (As := [vi x1]) (st := []) fc_X2_49 (by decide) (by decide) (Nat.le_of_ble_eq_true rfl) rfl dX2_turnWalker_49 (jw_M.mono h (fun x5 M6 h => ?_))
      show jw_J 1 mX2_turnWalker 52 [(2, vi x3), (1, vi x1), (0, vr 2 0)] [vi x5] M6 Q
      refine jr_if_eq (pc := 52) (tgt := 70) dX2_turnWalker_52 (by decide) (fun c => ?_) (fun c => ?_)
      · replace h := h.1 c
        exact jr_vret (pc := 70) rfl dX2_turnWalker_70 h
      · replace h := h.2 c
        refine jr_aload_n (pc := 55) dX2_turnWalker_55 rfl 2 rfl ?_
        refine jr_get (pc := 56) (v := vr 8 0) fg_X2_13 (by decide) rfl dX2_turnWalker_56 ?_
        refine jr_get (pc := 59) (v := vr 29 0) fg_X2_53 (by decide) rfl dX2_turnWalker_59 ?_
        refine jr_iload_n (pc := 62) dX2_turnWalker_62 rfl 1 rfl ?_
        refine jr_dup2 (pc := 63) dX2_turnWalker_63 ?_
        refine jr_iald (pc := 64) ⟨rfl, (by decide)⟩ h.1 dX2_turnWalker_64 ?_
        replace h := h.2
        refine jr_iconst (pc := 65) (v := 1) dX2_turnWalker_65 (by decide) ?_
        refine jr_iload_n (pc := 66) dX2_turnWalker_66 rfl 0 rfl ?_
        refine jr_ishl (pc := 67) dX2_turnWalker_67 ?_
        refine jr_ixor (pc := 68) dX2_turnWalker_68 ?_
        refine jr_iast (pc := 69) ⟨rfl, (by decide)⟩ h.1 dX2_turnWalker_69 ?_
        replace h := h.2
        replace h := h _ rfl
        generalize jw_up M6 29 0 x1.toNatClampNeg ((M6 29 0 x1.toNatClampNeg) ^^^ ((1 : Int32) <<< (x3 &&& 31))) = M7 at h ⊢
        exact jr_vret (pc := 70) rfl dX2_turnWalker_70 h
theorem dX2_raiseStatue_0 : decode cX2_raiseStatue 0 = .ok (.aload_n 0, 1) := by decide +kernel
theorem dX2_raiseStatue_1 : decode cX2_raiseStatue 1 = .ok (.getfield 7, 3) := by decide +kernel
theorem dX2_raiseStatue_4 : decode cX2_raiseStatue 4 = .ok (.getfield 59, 3) := by decide +kernel
theorem dX2_raiseStatue_7 : decode cX2_raiseStatue 7 = .ok (.ifCond .le 59, 3) := by decide +kernel
theorem dX2_raiseStatue_10 : decode cX2_raiseStatue 10 = .ok (.aload_n 0, 1) := by decide +kernel
theorem dX2_raiseStatue_11 : decode cX2_raiseStatue 11 = .ok (.getfield 7, 3) := by decide +kernel
theorem dX2_raiseStatue_14 : decode cX2_raiseStatue 14 = .ok (.getfield 46, 3) := by decide +kernel
theorem dX2_raiseStatue_17 : decode cX2_raiseStatue 17 = .ok (.ifCond .le 49, 3) := by decide +kernel
theorem dX2_raiseStatue_20 : decode cX2_raiseStatue 20 = .ok (.aload_n 0, 1) := by decide +kernel
theorem dX2_raiseStatue_21 : decode cX2_raiseStatue 21 = .ok (.aload_n 0, 1) := by decide +kernel
theorem dX2_raiseStatue_22 : decode cX2_raiseStatue 22 = .ok (.getfield 7, 3) := by decide +kernel
theorem dX2_raiseStatue_25 : decode cX2_raiseStatue 25 = .ok (.getfield 59, 3) := by decide +kernel
theorem dX2_raiseStatue_28 : decode cX2_raiseStatue 28 = .ok (.invokevirtual 28, 3) := by decide +kernel
theorem dX2_raiseStatue_31 : decode cX2_raiseStatue 31 = .ok (.istore_n 1, 1) := by decide +kernel
theorem dX2_raiseStatue_32 : decode cX2_raiseStatue 32 = .ok (.aload_n 0, 1) := by decide +kernel
theorem dX2_raiseStatue_33 : decode cX2_raiseStatue 33 = .ok (.aload_n 0, 1) := by decide +kernel
theorem dX2_raiseStatue_34 : decode cX2_raiseStatue 34 = .ok (.getfield 7, 3) := by decide +kernel
theorem dX2_raiseStatue_37 : decode cX2_raiseStatue 37 = .ok (.getfield 46, 3) := by decide +kernel
theorem dX2_raiseStatue_40 : decode cX2_raiseStatue 40 = .ok (.invokevirtual 28, 3) := by decide +kernel
theorem dX2_raiseStatue_43 : decode cX2_raiseStatue 43 = .ok (.istore_n 2, 1) := by decide +kernel
theorem dX2_raiseStatue_44 : decode cX2_raiseStatue 44 = .ok (.aload_n 0, 1) := by decide +kernel
theorem dX2_raiseStatue_45 : decode cX2_raiseStatue 45 = .ok (.getfield 13, 3) := by decide +kernel
theorem dX2_raiseStatue_48 : decode cX2_raiseStatue 48 = .ok (.iload_n 1, 1) := by decide +kernel
theorem dX2_raiseStatue_49 : decode cX2_raiseStatue 49 = .ok (.iload_n 2, 1) := by decide +kernel
theorem dX2_raiseStatue_50 : decode cX2_raiseStatue 50 = .ok (.invokevirtual 62, 3) := by decide +kernel
theorem dX2_raiseStatue_53 : decode cX2_raiseStatue 53 = .ok (.ifCond .eq 13, 3) := by decide +kernel
theorem dX2_raiseStatue_56 : decode cX2_raiseStatue 56 = .ok (.aload_n 0, 1) := by decide +kernel
theorem dX2_raiseStatue_57 : decode cX2_raiseStatue 57 = .ok (.getfield 13, 3) := by decide +kernel
theorem dX2_raiseStatue_60 : decode cX2_raiseStatue 60 = .ok (.getfield 66, 3) := by decide +kernel
theorem dX2_raiseStatue_63 : decode cX2_raiseStatue 63 = .ok (.iload_n 1, 1) := by decide +kernel
theorem dX2_raiseStatue_64 : decode cX2_raiseStatue 64 = .ok (.iload_n 2, 1) := by decide +kernel
theorem dX2_raiseStatue_65 : decode cX2_raiseStatue 65 = .ok (.iastore, 1) := by decide +kernel
theorem dX2_raiseStatue_66 : decode cX2_raiseStatue 66 = .ok (.return_, 1) := by decide +kernel
set_option maxHeartbeats 4000000 in
set_option maxRecDepth 20000 in
theorem en_X2_raiseStatue {M : jw_Mem} {Q : Int32 → jw_Mem → Prop}  (h : (((M 1 0 2) ≤ 0 → Q 0 M) ∧ (¬ (M 1 0 2) ≤ 0 → (((M 1 0 1) ≤ 0 → Q 0 M) ∧ (¬ (M 1 0 1) ≤ 0 → (jw_M 0 mX2_draw [vr 2 0, vi (M 1 0 2)] M (fun x1 M2 => (jw_M 0 mX2_draw [vr 2 0, vi (M2 1 0 1)] M2 (fun x3 M4 => (jw_M 2 mX8_canStand [vr 8 0, vi x1, vi x3] M4 (fun x5 M6 => ((x5 = 0 → Q 0 M6) ∧ (¬ x5 = 0 → (vp_in x1 6 ∧ (∀ M7 : jw_Mem, M7 = jw_up M6 26 0 x1.toNatClampNeg x3 → Q 0 M7))))))))))))))) : jw_M 3 mX2_raiseStatue [vr 2 0] M Q := by
  refine jw_M.of (by decide) (Nat.le_of_ble_eq_true rfl) ?_
  show jw_J 3 mX2_raiseStatue 0 [(0, vr 2 0)] [] M Q
  refine jr_aload_n (pc := 0) dX2_raiseStatue_0 rfl 0 rfl ?_
  refine jr_get (pc := 1) (v := vr 1 0) fg_X2_7 (by decide) rfl dX2_raiseStatue_1 ?_
  refine jr_get (pc := 4) (v := vi (M 1 0 2)) fg_X2_59 (by decide) rfl dX2_raiseStatue_4 ?_
  refine jr_if_le (pc := 7) (tgt := 66) dX2_raiseStatue_7 (by decide) (fun c => ?_) (fun c => ?_)
  · replace h := h.1 c
    exact jr_vret (pc := 66) rfl dX2_raiseStatue_66 h
  · replace h := h.2 c
    refine jr_aload_n (pc := 10) dX2_raiseStatue_10 rfl 0 rfl ?_
    refine jr_get (pc := 11) (v := vr 1 0) fg_X2_7 (by decide) rfl dX2_raiseStatue_11 ?_
    refine jr_get (pc := 14) (v := vi (M 1 0 1)) fg_X2_46 (by decide) rfl dX2_raiseStatue_14 ?_
    refine jr_if_le (pc := 17) (tgt := 66) dX2_raiseStatue_17 (by decide) (fun c => ?_) (fun c => ?_)
    · replace h := h.1 c
      exact jr_vret (pc := 66) rfl dX2_raiseStatue_66 h
    · replace h := h.2 c
      refine jr_aload_n (pc := 20) dX2_raiseStatue_20 rfl 0 rfl ?_
      refine jr_aload_n (pc := 21) dX2_raiseStatue_21 rfl 0 rfl ?_
      refine jr_get (pc := 22) (v := vr 1 0) fg_X2_7 (by decide) rfl dX2_raiseStatue_22 ?_
      refine jr_get (pc := 25) (v := vi (M 1 0 2)) fg_X2_59 (by decide) rfl dX2_raiseStatue_25 ?_
      refine jr_callV (pc := 28) (d' := 0) (mt' := mX2_draw) (k := 2) (n := 0) (As := [vi (M 1 0 2)]) (st := []) fc_X2_28 (by decide) (by decide) (Nat.le_of_ble_eq_true rfl) rfl dX2_raiseStatue_28 (jw_M.mono h (fun x1 M2 h => ?_))
      show jw_J 3 mX2_raiseStatue 31 [(0, vr 2 0)] [vi x1] M2 Q
      refine jr_istore_n (pc := 31) (lv' := [(1, vi x1), (0, vr 2 0)]) dX2_raiseStatue_31 rfl (by decide) rfl ?_
      refine jr_aload_n (pc := 32) dX2_raiseStatue_32 rfl 1 rfl ?_
      refine jr_aload_n (pc := 33) dX2_raiseStatue_33 rfl 1 rfl ?_
      refine jr_get (pc := 34) (v := vr 1 0) fg_X2_7 (by decide) rfl dX2_raiseStatue_34 ?_
      refine jr_get (pc := 37) (v := vi (M2 1 0 1)) fg_X2_46 (by decide) rfl dX2_raiseStatue_37 ?_
      refine jr_callV (pc := 40) (d' := 0) (mt' := mX2_draw) (k := 2) (n := 0) (As := [vi (M2 1 0 1)]) (st := []) fc_X2_28 (by decide) (by decide) (Nat.le_of_ble_eq_true rfl) rfl dX2_raiseStatue_40 (jw_M.mono h (fun x3 M4 h => ?_))
      show jw_J 3 mX2_raiseStatue 43 [(1, vi x1), (0, vr 2 0)] [vi x3] M4 Q
      refine jr_istore_n (pc := 43) (lv' := [(2, vi x3), (1, vi x1), (0, vr 2 0)]) dX2_raiseStatue_43 rfl (by decide) rfl ?_
      refine jr_aload_n (pc := 44) dX2_raiseStatue_44 rfl 2 rfl ?_
      refine jr_get (pc := 45) (v := vr 8 0) fg_X2_13 (by decide) rfl dX2_raiseStatue_45 ?_
      refine jr_iload_n (pc := 48) dX2_raiseStatue_48 rfl 1 rfl ?_
      refine jr_iload_n (pc := 49) dX2_raiseStatue_49 rfl 0 rfl ?_
      refine jr_callV (pc := 50) (d' := 2) (mt' := mX8_canStand) (k := 8) (n := 0) (As := [vi x1, vi x3]) (st := []) fc_X2_62 (by decide) (by decide) (Nat.le_of_ble_eq_true rfl) rfl dX2_raiseStatue_50 (jw_M.mono h (fun x5 M6 h => ?_))
      show jw_J 3 mX2_raiseStatue 53 [(2, vi x3), (1, vi x1), (0, vr 2 0)] [vi x5] M6 Q
      refine jr_if_eq (pc := 53) (tgt := 66) dX2_raiseStatue_53 (by decide) (fun c => ?_) (fun c => ?_)
      · replace h := h.1 c
        exact jr_vret (pc := 66) rfl dX2_raiseStatue_66 h
      · replace h := h.2 c
        refine jr_aload_n (pc := 56) dX2_raiseStatue_56 rfl 2 rfl ?_
        refine jr_get (pc := 57) (v := vr 8 0) fg_X2_13 (by decide) rfl dX2_raiseStatue_57 ?_
        refine jr_get (pc := 60) (v := vr 26 0) fg_X2_66 (by decide) rfl dX2_raiseStatue_60 ?_
        refine jr_iload_n (pc := 63) dX2_raiseStatue_63 rfl 1 rfl ?_
        refine jr_iload_n (pc := 64) dX2_raiseStatue_64 rfl 0 rfl ?_
        refine jr_iast (pc := 65) ⟨rfl, (by decide)⟩ h.1 dX2_raiseStatue_65 ?_
        replace h := h.2
        replace h := h _ rfl
        generalize jw_up M6 26 0 x1.toNatClampNeg x3 = M7 at h ⊢
        exact jr_vret (pc := 66) rfl dX2_raiseStatue_66 h
theorem dX2_washStatue_0 : decode cX2_washStatue 0 = .ok (.aload_n 0, 1) := by decide +kernel
theorem dX2_washStatue_1 : decode cX2_washStatue 1 = .ok (.getfield 7, 3) := by decide +kernel
theorem dX2_washStatue_4 : decode cX2_washStatue 4 = .ok (.getfield 59, 3) := by decide +kernel
theorem dX2_washStatue_7 : decode cX2_washStatue 7 = .ok (.ifCond .le 36, 3) := by decide +kernel
theorem dX2_washStatue_10 : decode cX2_washStatue 10 = .ok (.aload_n 0, 1) := by decide +kernel
theorem dX2_washStatue_11 : decode cX2_washStatue 11 = .ok (.aload_n 0, 1) := by decide +kernel
theorem dX2_washStatue_12 : decode cX2_washStatue 12 = .ok (.getfield 7, 3) := by decide +kernel
theorem dX2_washStatue_15 : decode cX2_washStatue 15 = .ok (.getfield 59, 3) := by decide +kernel
theorem dX2_washStatue_18 : decode cX2_washStatue 18 = .ok (.invokevirtual 28, 3) := by decide +kernel
theorem dX2_washStatue_21 : decode cX2_washStatue 21 = .ok (.istore_n 1, 1) := by decide +kernel
theorem dX2_washStatue_22 : decode cX2_washStatue 22 = .ok (.aload_n 0, 1) := by decide +kernel
theorem dX2_washStatue_23 : decode cX2_washStatue 23 = .ok (.getfield 7, 3) := by decide +kernel
theorem dX2_washStatue_26 : decode cX2_washStatue 26 = .ok (.iload_n 1, 1) := by decide +kernel
theorem dX2_washStatue_27 : decode cX2_washStatue 27 = .ok (.invokevirtual 69, 3) := by decide +kernel
theorem dX2_washStatue_30 : decode cX2_washStatue 30 = .ok (.ifCond .eq 13, 3) := by decide +kernel
theorem dX2_washStatue_33 : decode cX2_washStatue 33 = .ok (.aload_n 0, 1) := by decide +kernel
theorem dX2_washStatue_34 : decode cX2_washStatue 34 = .ok (.getfield 13, 3) := by decide +kernel
theorem dX2_washStatue_37 : decode cX2_washStatue 37 = .ok (.getfield 72, 3) := by decide +kernel
theorem dX2_washStatue_40 : decode cX2_washStatue 40 = .ok (.iload_n 1, 1) := by decide +kernel
theorem dX2_washStatue_41 : decode cX2_washStatue 41 = .ok (.iconst 0, 1) := by decide +kernel
theorem dX2_washStatue_42 : decode cX2_washStatue 42 = .ok (.iastore, 1) := by decide +kernel
theorem dX2_washStatue_43 : decode cX2_washStatue 43 = .ok (.return_, 1) := by decide +kernel
set_option maxHeartbeats 4000000 in
set_option maxRecDepth 20000 in
theorem en_X2_washStatue {M : jw_Mem} {Q : Int32 → jw_Mem → Prop}  (h : (((M 1 0 2) ≤ 0 → Q 0 M) ∧ (¬ (M 1 0 2) ≤ 0 → (jw_M 0 mX2_draw [vr 2 0, vi (M 1 0 2)] M (fun x1 M2 => (jw_M 0 mX1_hasStatue [vr 1 0, vi x1] M2 (fun x3 M4 => ((x3 = 0 → Q 0 M4) ∧ (¬ x3 = 0 → (vp_in x1 6 ∧ (∀ M5 : jw_Mem, M5 = jw_up M4 27 0 x1.toNatClampNeg 0 → Q 0 M5))))))))))) : jw_M 1 mX2_washStatue [vr 2 0] M Q := by
  refine jw_M.of (by decide) (Nat.le_of_ble_eq_true rfl) ?_
  show jw_J 1 mX2_washStatue 0 [(0, vr 2 0)] [] M Q
  refine jr_aload_n (pc := 0) dX2_washStatue_0 rfl 0 rfl ?_
  refine jr_get (pc := 1) (v := vr 1 0) fg_X2_7 (by decide) rfl dX2_washStatue_1 ?_
  refine jr_get (pc := 4) (v := vi (M 1 0 2)) fg_X2_59 (by decide) rfl dX2_washStatue_4 ?_
  refine jr_if_le (pc := 7) (tgt := 43) dX2_washStatue_7 (by decide) (fun c => ?_) (fun c => ?_)
  · replace h := h.1 c
    exact jr_vret (pc := 43) rfl dX2_washStatue_43 h
  · replace h := h.2 c
    refine jr_aload_n (pc := 10) dX2_washStatue_10 rfl 0 rfl ?_
    refine jr_aload_n (pc := 11) dX2_washStatue_11 rfl 0 rfl ?_
    refine jr_get (pc := 12) (v := vr 1 0) fg_X2_7 (by decide) rfl dX2_washStatue_12 ?_
    refine jr_get (pc := 15) (v := vi (M 1 0 2)) fg_X2_59 (by decide) rfl dX2_washStatue_15 ?_
    refine jr_callV (pc := 18) (d' := 0) (mt' := mX2_draw) (k := 2) (n := 0) (As := [vi (M 1 0 2)]) (st := []) fc_X2_28 (by decide) (by decide) (Nat.le_of_ble_eq_true rfl) rfl dX2_washStatue_18 (jw_M.mono h (fun x1 M2 h => ?_))
    show jw_J 1 mX2_washStatue 21 [(0, vr 2 0)] [vi x1] M2 Q
    refine jr_istore_n (pc := 21) (lv' := [(1, vi x1), (0, vr 2 0)]) dX2_washStatue_21 rfl (by decide) rfl ?_
    refine jr_aload_n (pc := 22) dX2_washStatue_22 rfl 1 rfl ?_
    refine jr_get (pc := 23) (v := vr 1 0) fg_X2_7 (by decide) rfl dX2_washStatue_23 ?_
    refine jr_iload_n (pc := 26) dX2_washStatue_26 rfl 0 rfl ?_
    refine jr_callV (pc := 27) (d' := 0) (mt' := mX1_hasStatue) (k := 1) (n := 0) (As := [vi x1]) (st := []) fc_X2_69 (by decide) (by decide) (Nat.le_of_ble_eq_true rfl) rfl dX2_washStatue_27 (jw_M.mono h (fun x3 M4 h => ?_))
    show jw_J 1 mX2_washStatue 30 [(1, vi x1), (0, vr 2 0)] [vi x3] M4 Q
    refine jr_if_eq (pc := 30) (tgt := 43) dX2_washStatue_30 (by decide) (fun c => ?_) (fun c => ?_)
    · replace h := h.1 c
      exact jr_vret (pc := 43) rfl dX2_washStatue_43 h
    · replace h := h.2 c
      refine jr_aload_n (pc := 33) dX2_washStatue_33 rfl 1 rfl ?_
      refine jr_get (pc := 34) (v := vr 8 0) fg_X2_13 (by decide) rfl dX2_washStatue_34 ?_
      refine jr_get (pc := 37) (v := vr 27 0) fg_X2_72 (by decide) rfl dX2_washStatue_37 ?_
      refine jr_iload_n (pc := 40) dX2_washStatue_40 rfl 0 rfl ?_
      refine jr_iconst (pc := 41) (v := 0) dX2_washStatue_41 (by decide) ?_
      refine jr_iast (pc := 42) ⟨rfl, (by decide)⟩ h.1 dX2_washStatue_42 ?_
      replace h := h.2
      replace h := h _ rfl
      generalize jw_up M4 27 0 x1.toNatClampNeg 0 = M5 at h ⊢
      exact jr_vret (pc := 43) rfl dX2_washStatue_43 h
theorem dX3_clear_0 : decode cX3_clear 0 = .ok (.aload_n 0, 1) := by decide +kernel
theorem dX3_clear_1 : decode cX3_clear 1 = .ok (.iconst 0, 1) := by decide +kernel
theorem dX3_clear_2 : decode cX3_clear 2 = .ok (.putfield 18, 3) := by decide +kernel
theorem dX3_clear_5 : decode cX3_clear 5 = .ok (.return_, 1) := by decide +kernel
set_option maxHeartbeats 4000000 in
set_option maxRecDepth 20000 in
theorem en_X3_clear {M : jw_Mem} {Q : Int32 → jw_Mem → Prop}  (h : (∀ M1 : jw_Mem, M1 = jw_up M 3 0 2 0 → Q 0 M1)) : jw_M 0 mX3_clear [vr 3 0] M Q := by
  refine jw_M.of (by decide) (Nat.le_of_ble_eq_true rfl) ?_
  show jw_J 0 mX3_clear 0 [(0, vr 3 0)] [] M Q
  refine jr_aload_n (pc := 0) dX3_clear_0 rfl 0 rfl ?_
  refine jr_iconst (pc := 1) (v := 0) dX3_clear_1 (by decide) ?_
  refine jr_put (pc := 2) fp_X3_18 (by decide) (Or.inl ⟨_, _, _, rfl, by decide +kernel⟩) dX3_clear_2 ?_
  replace h := h _ rfl
  generalize jw_up M 3 0 2 0 = M1 at h ⊢
  exact jr_vret (pc := 5) rfl dX3_clear_5 h
theorem dX3_push_0 : decode cX3_push 0 = .ok (.aload_n 0, 1) := by decide +kernel
theorem dX3_push_1 : decode cX3_push 1 = .ok (.getfield 11, 3) := by decide +kernel
theorem dX3_push_4 : decode cX3_push 4 = .ok (.aload_n 0, 1) := by decide +kernel
theorem dX3_push_5 : decode cX3_push 5 = .ok (.getfield 22, 3) := by decide +kernel
theorem dX3_push_8 : decode cX3_push 8 = .ok (.aaload, 1) := by decide +kernel
theorem dX3_push_9 : decode cX3_push 9 = .ok (.aload_n 1, 1) := by decide +kernel
theorem dX3_push_10 : decode cX3_push 10 = .ok (.invokevirtual 25, 3) := by decide +kernel
theorem dX3_push_13 : decode cX3_push 13 = .ok (.aload_n 0, 1) := by decide +kernel
theorem dX3_push_14 : decode cX3_push 14 = .ok (.aload_n 0, 1) := by decide +kernel
theorem dX3_push_15 : decode cX3_push 15 = .ok (.getfield 22, 3) := by decide +kernel
theorem dX3_push_18 : decode cX3_push 18 = .ok (.iconst 1, 1) := by decide +kernel
theorem dX3_push_19 : decode cX3_push 19 = .ok (.iadd, 1) := by decide +kernel
theorem dX3_push_20 : decode cX3_push 20 = .ok (.bipush 16, 2) := by decide +kernel
theorem dX3_push_22 : decode cX3_push 22 = .ok (.irem, 1) := by decide +kernel
theorem dX3_push_23 : decode cX3_push 23 = .ok (.putfield 22, 3) := by decide +kernel
theorem dX3_push_26 : decode cX3_push 26 = .ok (.aload_n 0, 1) := by decide +kernel
theorem dX3_push_27 : decode cX3_push 27 = .ok (.aload_n 0, 1) := by decide +kernel
theorem dX3_push_28 : decode cX3_push 28 = .ok (.getfield 18, 3) := by decide +kernel
theorem dX3_push_31 : decode cX3_push 31 = .ok (.iconst 1, 1) := by decide +kernel
theorem dX3_push_32 : decode cX3_push 32 = .ok (.iadd, 1) := by decide +kernel
theorem dX3_push_33 : decode cX3_push 33 = .ok (.bipush 16, 2) := by decide +kernel
theorem dX3_push_35 : decode cX3_push 35 = .ok (.invokestatic 29, 3) := by decide +kernel
theorem dX3_push_38 : decode cX3_push 38 = .ok (.putfield 18, 3) := by decide +kernel
theorem dX3_push_41 : decode cX3_push 41 = .ok (.return_, 1) := by decide +kernel
set_option maxHeartbeats 4000000 in
set_option maxRecDepth 20000 in
theorem en_X3_push {n1 : Nat} {M : jw_Mem} {Q : Int32 → jw_Mem → Prop} (hn_n1 : n1 < 20) (h : (vp_in (M 3 0 1) 16 ∧ (∀ q1 : Nat, q1 = ((M 3 0 1) : Int32).toNatClampNeg → q1 < 16 → (jw_M 1 mX8_copyFrom [vr 8 (2 + q1), vr 8 n1] M (fun x2 M3 => (∀ M4 : jw_Mem, M4 = jw_up M3 3 0 1 (((M3 3 0 1) + 1) - ((M3 3 0 1) + 1) / 16 * 16) → (∀ M5 : jw_Mem, M5 = jw_up M4 3 0 2 (if 16 < ((M4 3 0 2) + 1) then 16 else ((M4 3 0 2) + 1)) → Q 0 M5))))))) : jw_M 2 mX3_push [vr 3 0, vr 8 n1] M Q := by
  refine jw_M.of (by decide) (Nat.le_of_ble_eq_true rfl) ?_
  show jw_J 2 mX3_push 0 [(0, vr 3 0), (1, vr 8 n1)] [] M Q
  refine jr_aload_n (pc := 0) dX3_push_0 rfl 0 rfl ?_
  refine jr_get (pc := 1) (v := vr 21 0) fg_X3_11 (by decide) rfl dX3_push_1 ?_
  refine jr_aload_n (pc := 4) dX3_push_4 rfl 0 rfl ?_
  refine jr_get (pc := 5) (v := vi (M 3 0 1)) fg_X3_22 (by decide) rfl dX3_push_5 ?_
  refine jr_ring (pc := 8) (by decide) h.1 dX3_push_8 ?_
  have hb_q1 : ((M 3 0 1) : Int32).toNatClampNeg < 16 := Nat.not_le.mp fun z => h.1 (Or.inr z)
  replace h := h.2 _ rfl hb_q1
  generalize hq_q1 : ((M 3 0 1) : Int32).toNatClampNeg = q1 at h hb_q1 ⊢
  refine jr_aload_n (pc := 9) dX3_push_9 rfl 1 rfl ?_
  refine jr_callV (pc := 10) (d' := 1) (mt' := mX8_copyFrom) (k := 8) (n := (2 + q1)) (As := [vr 8 n1]) (st := []) fc_X3_25 (by decide) (by show 2 + q1 < 20; omega) (Nat.le_of_ble_eq_true rfl) rfl dX3_push_10 (jw_M.mono h (fun x2 M3 h => ?_))
  show jw_J 2 mX3_push 13 [(0, vr 3 0), (1, vr 8 n1)] [] M3 Q
  refine jr_aload_n (pc := 13) dX3_push_13 rfl 0 rfl ?_
  refine jr_aload_n (pc := 14) dX3_push_14 rfl 0 rfl ?_
  refine jr_get (pc := 15) (v := vi (M3 3 0 1)) fg_X3_22 (by decide) rfl dX3_push_15 ?_
  refine jr_iconst (pc := 18) (v := 1) dX3_push_18 (by decide) ?_
  refine jr_iadd (pc := 19) dX3_push_19 ?_
  refine jr_bipush (pc := 20) (v := 16) dX3_push_20 (by decide) ?_
  refine jr_irem (pc := 22) dX3_push_22 (by decide) ?_
  refine jr_put (pc := 23) fp_X3_22 (by decide) (Or.inl ⟨_, _, _, rfl, by decide +kernel⟩) dX3_push_23 ?_
  replace h := h _ rfl
  generalize jw_up M3 3 0 1 (((M3 3 0 1) + 1) - ((M3 3 0 1) + 1) / 16 * 16) = M4 at h ⊢
  refine jr_aload_n (pc := 26) dX3_push_26 rfl 0 rfl ?_
  refine jr_aload_n (pc := 27) dX3_push_27 rfl 0 rfl ?_
  refine jr_get (pc := 28) (v := vi (M4 3 0 2)) fg_X3_18 (by decide) rfl dX3_push_28 ?_
  refine jr_iconst (pc := 31) (v := 1) dX3_push_31 (by decide) ?_
  refine jr_iadd (pc := 32) dX3_push_32 ?_
  refine jr_bipush (pc := 33) (v := 16) dX3_push_33 (by decide) ?_
  refine jr_mmin (pc := 35) fc_X3_29 (Nat.le_of_ble_eq_true rfl) (by decide) dX3_push_35 ?_
  refine jr_put (pc := 38) fp_X3_18 (by decide) (Or.inl ⟨_, _, _, rfl, by decide +kernel⟩) dX3_push_38 ?_
  replace h := h _ rfl
  generalize jw_up M4 3 0 2 (if 16 < ((M4 3 0 2) + 1) then 16 else ((M4 3 0 2) + 1)) = M5 at h ⊢
  exact jr_vret (pc := 41) rfl dX3_push_41 h
theorem dX3_popInto_0 : decode cX3_popInto 0 = .ok (.aload_n 0, 1) := by decide +kernel
theorem dX3_popInto_1 : decode cX3_popInto 1 = .ok (.getfield 18, 3) := by decide +kernel
theorem dX3_popInto_4 : decode cX3_popInto 4 = .ok (.ifCond .le 42, 3) := by decide +kernel
theorem dX3_popInto_7 : decode cX3_popInto 7 = .ok (.aload_n 0, 1) := by decide +kernel
theorem dX3_popInto_8 : decode cX3_popInto 8 = .ok (.aload_n 0, 1) := by decide +kernel
theorem dX3_popInto_9 : decode cX3_popInto 9 = .ok (.getfield 22, 3) := by decide +kernel
theorem dX3_popInto_12 : decode cX3_popInto 12 = .ok (.bipush 16, 2) := by decide +kernel
theorem dX3_popInto_14 : decode cX3_popInto 14 = .ok (.iadd, 1) := by decide +kernel
theorem dX3_popInto_15 : decode cX3_popInto 15 = .ok (.iconst 1, 1) := by decide +kernel
theorem dX3_popInto_16 : decode cX3_popInto 16 = .ok (.isub, 1) := by decide +kernel
theorem dX3_popInto_17 : decode cX3_popInto 17 = .ok (.bipush 16, 2) := by decide +kernel
theorem dX3_popInto_19 : decode cX3_popInto 19 = .ok (.irem, 1) := by decide +kernel
theorem dX3_popInto_20 : decode cX3_popInto 20 = .ok (.putfield 22, 3) := by decide +kernel
theorem dX3_popInto_23 : decode cX3_popInto 23 = .ok (.aload_n 1, 1) := by decide +kernel
theorem dX3_popInto_24 : decode cX3_popInto 24 = .ok (.aload_n 0, 1) := by decide +kernel
theorem dX3_popInto_25 : decode cX3_popInto 25 = .ok (.getfield 11, 3) := by decide +kernel
theorem dX3_popInto_28 : decode cX3_popInto 28 = .ok (.aload_n 0, 1) := by decide +kernel
theorem dX3_popInto_29 : decode cX3_popInto 29 = .ok (.getfield 22, 3) := by decide +kernel
theorem dX3_popInto_32 : decode cX3_popInto 32 = .ok (.aaload, 1) := by decide +kernel
theorem dX3_popInto_33 : decode cX3_popInto 33 = .ok (.invokevirtual 25, 3) := by decide +kernel
theorem dX3_popInto_36 : decode cX3_popInto 36 = .ok (.aload_n 0, 1) := by decide +kernel
theorem dX3_popInto_37 : decode cX3_popInto 37 = .ok (.dup, 1) := by decide +kernel
theorem dX3_popInto_38 : decode cX3_popInto 38 = .ok (.getfield 18, 3) := by decide +kernel
theorem dX3_popInto_41 : decode cX3_popInto 41 = .ok (.iconst 1, 1) := by decide +kernel
theorem dX3_popInto_42 : decode cX3_popInto 42 = .ok (.isub, 1) := by decide +kernel
theorem dX3_popInto_43 : decode cX3_popInto 43 = .ok (.putfield 18, 3) := by decide +kernel
theorem dX3_popInto_46 : decode cX3_popInto 46 = .ok (.return_, 1) := by decide +kernel
set_option maxHeartbeats 4000000 in
set_option maxRecDepth 20000 in
theorem en_X3_popInto {n1 : Nat} {M : jw_Mem} {Q : Int32 → jw_Mem → Prop} (hn_n1 : n1 < 20) (h : (((M 3 0 2) ≤ 0 → Q 0 M) ∧ (¬ (M 3 0 2) ≤ 0 → (∀ M1 : jw_Mem, M1 = jw_up M 3 0 1 ((((M 3 0 1) + 16) - 1) - (((M 3 0 1) + 16) - 1) / 16 * 16) → (vp_in (M1 3 0 1) 16 ∧ (∀ q2 : Nat, q2 = ((M1 3 0 1) : Int32).toNatClampNeg → q2 < 16 → (jw_M 1 mX8_copyFrom [vr 8 n1, vr 8 (2 + q2)] M1 (fun x3 M4 => (∀ M5 : jw_Mem, M5 = jw_up M4 3 0 2 ((M4 3 0 2) - 1) → Q 0 M5))))))))) : jw_M 2 mX3_popInto [vr 3 0, vr 8 n1] M Q := by
  refine jw_M.of (by decide) (Nat.le_of_ble_eq_true rfl) ?_
  show jw_J 2 mX3_popInto 0 [(0, vr 3 0), (1, vr 8 n1)] [] M Q
  refine jr_aload_n (pc := 0) dX3_popInto_0 rfl 0 rfl ?_
  refine jr_get (pc := 1) (v := vi (M 3 0 2)) fg_X3_18 (by decide) rfl dX3_popInto_1 ?_
  refine jr_if_le (pc := 4) (tgt := 46) dX3_popInto_4 (by decide) (fun c => ?_) (fun c => ?_)
  · replace h := h.1 c
    exact jr_vret (pc := 46) rfl dX3_popInto_46 h
  · replace h := h.2 c
    refine jr_aload_n (pc := 7) dX3_popInto_7 rfl 0 rfl ?_
    refine jr_aload_n (pc := 8) dX3_popInto_8 rfl 0 rfl ?_
    refine jr_get (pc := 9) (v := vi (M 3 0 1)) fg_X3_22 (by decide) rfl dX3_popInto_9 ?_
    refine jr_bipush (pc := 12) (v := 16) dX3_popInto_12 (by decide) ?_
    refine jr_iadd (pc := 14) dX3_popInto_14 ?_
    refine jr_iconst (pc := 15) (v := 1) dX3_popInto_15 (by decide) ?_
    refine jr_isub (pc := 16) dX3_popInto_16 ?_
    refine jr_bipush (pc := 17) (v := 16) dX3_popInto_17 (by decide) ?_
    refine jr_irem (pc := 19) dX3_popInto_19 (by decide) ?_
    refine jr_put (pc := 20) fp_X3_22 (by decide) (Or.inl ⟨_, _, _, rfl, by decide +kernel⟩) dX3_popInto_20 ?_
    replace h := h _ rfl
    generalize jw_up M 3 0 1 ((((M 3 0 1) + 16) - 1) - (((M 3 0 1) + 16) - 1) / 16 * 16) = M1 at h ⊢
    refine jr_aload_n (pc := 23) dX3_popInto_23 rfl 1 rfl ?_
    refine jr_aload_n (pc := 24) dX3_popInto_24 rfl 0 rfl ?_
    refine jr_get (pc := 25) (v := vr 21 0) fg_X3_11 (by decide) rfl dX3_popInto_25 ?_
    refine jr_aload_n (pc := 28) dX3_popInto_28 rfl 0 rfl ?_
    refine jr_get (pc := 29) (v := vi (M1 3 0 1)) fg_X3_22 (by decide) rfl dX3_popInto_29 ?_
    refine jr_ring (pc := 32) (by decide) h.1 dX3_popInto_32 ?_
    have hb_q2 : ((M1 3 0 1) : Int32).toNatClampNeg < 16 := Nat.not_le.mp fun z => h.1 (Or.inr z)
    replace h := h.2 _ rfl hb_q2
    generalize hq_q2 : ((M1 3 0 1) : Int32).toNatClampNeg = q2 at h hb_q2 ⊢
    refine jr_callV (pc := 33) (d' := 1) (mt' := mX8_copyFrom) (k := 8) (n := n1) (As := [vr 8 (2 + q2)]) (st := []) fc_X3_25 (by decide) (by show n1 < 20; omega) (Nat.le_of_ble_eq_true rfl) rfl dX3_popInto_33 (jw_M.mono h (fun x3 M4 h => ?_))
    show jw_J 2 mX3_popInto 36 [(0, vr 3 0), (1, vr 8 n1)] [] M4 Q
    refine jr_aload_n (pc := 36) dX3_popInto_36 rfl 0 rfl ?_
    refine jr_dup_r (pc := 37) dX3_popInto_37 ?_
    refine jr_get (pc := 38) (v := vi (M4 3 0 2)) fg_X3_18 (by decide) rfl dX3_popInto_38 ?_
    refine jr_iconst (pc := 41) (v := 1) dX3_popInto_41 (by decide) ?_
    refine jr_isub (pc := 42) dX3_popInto_42 ?_
    refine jr_put (pc := 43) fp_X3_18 (by decide) (Or.inl ⟨_, _, _, rfl, by decide +kernel⟩) dX3_popInto_43 ?_
    replace h := h _ rfl
    generalize jw_up M4 3 0 2 ((M4 3 0 2) - 1) = M5 at h ⊢
    exact jr_vret (pc := 46) rfl dX3_popInto_46 h
