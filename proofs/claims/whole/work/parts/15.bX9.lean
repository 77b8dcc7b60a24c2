theorem dX9_clear_0 : decode cX9_clear 0 = .ok (.aload_n 0, 1) := by decide +kernel
theorem dX9_clear_1 : decode cX9_clear 1 = .ok (.iconst 0, 1) := by decide +kernel
theorem dX9_clear_2 : decode cX9_clear 2 = .ok (.putfield 33, 3) := by decide +kernel
theorem dX9_clear_5 : decode cX9_clear 5 = .ok (.return_, 1) := by decide +kernel
set_option maxHeartbeats 4000000 in
set_option maxRecDepth 20000 in
theorem en_X9_clear {M : jw_Mem} {Q : Int32 → jw_Mem → Prop}  (h : (∀ M1 : jw_Mem, M1 = jw_up M 9 0 6 0 → Q 0 M1)) : jw_M 0 mX9_clear [vr 9 0] M Q := by
  refine jw_M.of (by decide) (Nat.le_of_ble_eq_true rfl) ?_
  show jw_J 0 mX9_clear 0 [(0, vr 9 0)] [] M Q
  refine jr_aload_n (pc := 0) dX9_clear_0 rfl 0 rfl ?_
  refine jr_iconst (pc := 1) (v := 0) dX9_clear_1 (by decide) ?_
  refine jr_put (pc := 2) fp_X9_33 (by decide) (Or.inl ⟨_, _, _, rfl, by decide +kernel⟩) dX9_clear_2 ?_
  replace h := h _ rfl
  generalize jw_up M 9 0 6 0 = M1 at h ⊢
  exact jr_vret (pc := 5) rfl dX9_clear_5 h
theorem dX9_add_0 : decode cX9_add 0 = .ok (.aload_n 0, 1) := by decide +kernel
theorem dX9_add_1 : decode cX9_add 1 = .ok (.getfield 33, 3) := by decide +kernel
theorem dX9_add_4 : decode cX9_add 4 = .ok (.bipush 6, 2) := by decide +kernel
theorem dX9_add_6 : decode cX9_add 6 = .ok (.if_icmp .lt 5, 3) := by decide +kernel
theorem dX9_add_9 : decode cX9_add 9 = .ok (.iconst 0, 1) := by decide +kernel
theorem dX9_add_10 : decode cX9_add 10 = .ok (.ireturn, 1) := by decide +kernel
theorem dX9_add_11 : decode cX9_add 11 = .ok (.aload_n 0, 1) := by decide +kernel
theorem dX9_add_12 : decode cX9_add 12 = .ok (.getfield 11, 3) := by decide +kernel
theorem dX9_add_15 : decode cX9_add 15 = .ok (.aload_n 0, 1) := by decide +kernel
theorem dX9_add_16 : decode cX9_add 16 = .ok (.getfield 33, 3) := by decide +kernel
theorem dX9_add_19 : decode cX9_add 19 = .ok (.iload_n 1, 1) := by decide +kernel
theorem dX9_add_20 : decode cX9_add 20 = .ok (.iastore, 1) := by decide +kernel
theorem dX9_add_21 : decode cX9_add 21 = .ok (.aload_n 0, 1) := by decide +kernel
theorem dX9_add_22 : decode cX9_add 22 = .ok (.getfield 15, 3) := by decide +kernel
theorem dX9_add_25 : decode cX9_add 25 = .ok (.aload_n 0, 1) := by decide +kernel
theorem dX9_add_26 : decode cX9_add 26 = .ok (.getfield 33, 3) := by decide +kernel
theorem dX9_add_29 : decode cX9_add 29 = .ok (.iload_n 2, 1) := by decide +kernel
theorem dX9_add_30 : decode cX9_add 30 = .ok (.iastore, 1) := by decide +kernel
theorem dX9_add_31 : decode cX9_add 31 = .ok (.aload_n 0, 1) := by decide +kernel
theorem dX9_add_32 : decode cX9_add 32 = .ok (.dup, 1) := by decide +kernel
theorem dX9_add_33 : decode cX9_add 33 = .ok (.getfield 33, 3) := by decide +kernel
theorem dX9_add_36 : decode cX9_add 36 = .ok (.iconst 1, 1) := by decide +kernel
theorem dX9_add_37 : decode cX9_add 37 = .ok (.iadd, 1) := by decide +kernel
theorem dX9_add_38 : decode cX9_add 38 = .ok (.putfield 33, 3) := by decide +kernel
theorem dX9_add_41 : decode cX9_add 41 = .ok (.iconst 1, 1) := by decide +kernel
theorem dX9_add_42 : decode cX9_add 42 = .ok (.ireturn, 1) := by decide +kernel
set_option maxHeartbeats 4000000 in
set_option maxRecDepth 20000 in
theorem en_X9_add {a1 : Int32} {a2 : Int32} {M : jw_Mem} {Q : Int32 → jw_Mem → Prop}  (h : (((M 9 0 6) < 6 → (vp_in (M 9 0 6) 6 ∧ (∀ M1 : jw_Mem, M1 = jw_up M 31 0 ((M 9 0 6) : Int32).toNatClampNeg a1 → (vp_in (M1 9 0 6) 6 ∧ (∀ M2 : jw_Mem, M2 = jw_up M1 32 0 ((M1 9 0 6) : Int32).toNatClampNeg a2 → (∀ M3 : jw_Mem, M3 = jw_up M2 9 0 6 ((M2 9 0 6) + 1) → Q 1 M3)))))) ∧ (¬ (M 9 0 6) < 6 → Q 0 M))) : jw_M 0 mX9_add [vr 9 0, vi a1, vi a2] M Q := by
  refine jw_M.of (by decide) (Nat.le_of_ble_eq_true rfl) ?_
  show jw_J 0 mX9_add 0 [(0, vr 9 0), (1, vi a1), (2, vi a2)] [] M Q
  refine jr_aload_n (pc := 0) dX9_add_0 rfl 0 rfl ?_
  refine jr_get (pc := 1) (v := vi (M 9 0 6)) fg_X9_33 (by decide) rfl dX9_add_1 ?_
  refine jr_bipush (pc := 4) (v := 6) dX9_add_4 (by decide) ?_
  refine jr_icmp_lt (pc := 6) (tgt := 11) dX9_add_6 (by decide) (fun c => ?_) (fun c => ?_)
  · replace h := h.1 c
    refine jr_aload_n (pc := 11) dX9_add_11 rfl 0 rfl ?_
    refine jr_get (pc := 12) (v := vr 31 0) fg_X9_11 (by decide) rfl dX9_add_12 ?_
    refine jr_aload_n (pc := 15) dX9_add_15 rfl 0 rfl ?_
    refine jr_get (pc := 16) (v := vi (M 9 0 6)) fg_X9_33 (by decide) rfl dX9_add_16 ?_
    refine jr_iload_n (pc := 19) dX9_add_19 rfl 1 rfl ?_
    refine jr_iast (pc := 20) ⟨rfl, (by decide)⟩ h.1 dX9_add_20 ?_
    replace h := h.2
    replace h := h _ rfl
    generalize jw_up M 31 0 ((M 9 0 6) : Int32).toNatClampNeg a1 = M1 at h ⊢
    refine jr_aload_n (pc := 21) dX9_add_21 rfl 0 rfl ?_
    refine jr_get (pc := 22) (v := vr 32 0) fg_X9_15 (by decide) rfl dX9_add_22 ?_
    refine jr_aload_n (pc := 25) dX9_add_25 rfl 0 rfl ?_
    refine jr_get (pc := 26) (v := vi (M1 9 0 6)) fg_X9_33 (by decide) rfl dX9_add_26 ?_
    refine jr_iload_n (pc := 29) dX9_add_29 rfl 2 rfl ?_
    refine jr_iast (pc := 30) ⟨rfl, (by decide)⟩ h.1 dX9_add_30 ?_
    replace h := h.2
    replace h := h _ rfl
    generalize jw_up M1 32 0 ((M1 9 0 6) : Int32).toNatClampNeg a2 = M2 at h ⊢
    refine jr_aload_n (pc := 31) dX9_add_31 rfl 0 rfl ?_
    refine jr_dup_r (pc := 32) dX9_add_32 ?_
    refine jr_get (pc := 33) (v := vi (M2 9 0 6)) fg_X9_33 (by decide) rfl dX9_add_33 ?_
    refine jr_iconst (pc := 36) (v := 1) dX9_add_36 (by decide) ?_
    refine jr_iadd (pc := 37) dX9_add_37 ?_
    refine jr_put (pc := 38) fp_X9_33 (by decide) (Or.inl ⟨_, _, _, rfl, by decide +kernel⟩) dX9_add_38 ?_
    replace h := h _ rfl
    generalize jw_up M2 9 0 6 ((M2 9 0 6) + 1) = M3 at h ⊢
    refine jr_iconst (pc := 41) (v := 1) dX9_add_41 (by decide) ?_
    exact jr_zret (pc := 42) rfl dX9_add_42 (Or.inr rfl) h
  · replace h := h.2 c
    refine jr_iconst (pc := 9) (v := 0) dX9_add_9 (by decide) ?_
    exact jr_zret (pc := 10) rfl dX9_add_10 (Or.inl rfl) h
theorem dX9_fitAll_0 : decode cX9_fitAll 0 = .ok (.aload_n 0, 1) := by decide +kernel
theorem dX9_fitAll_1 : decode cX9_fitAll 1 = .ok (.getfield 25, 3) := by decide +kernel
theorem dX9_fitAll_4 : decode cX9_fitAll 4 = .ok (.invokevirtual 37, 3) := by decide +kernel
theorem dX9_fitAll_7 : decode cX9_fitAll 7 = .ok (.istore_n 1, 1) := by decide +kernel
theorem dX9_fitAll_8 : decode cX9_fitAll 8 = .ok (.iconst 0, 1) := by decide +kernel
theorem dX9_fitAll_9 : decode cX9_fitAll 9 = .ok (.istore_n 2, 1) := by decide +kernel
theorem dX9_fitAll_10 : decode cX9_fitAll 10 = .ok (.iload_n 2, 1) := by decide +kernel
theorem dX9_fitAll_11 : decode cX9_fitAll 11 = .ok (.sipush 128, 3) := by decide +kernel
theorem dX9_fitAll_14 : decode cX9_fitAll 14 = .ok (.if_icmp .ge 25, 3) := by decide +kernel
theorem dX9_fitAll_17 : decode cX9_fitAll 17 = .ok (.aload_n 0, 1) := by decide +kernel
theorem dX9_fitAll_18 : decode cX9_fitAll 18 = .ok (.getfield 18, 3) := by decide +kernel
theorem dX9_fitAll_21 : decode cX9_fitAll 21 = .ok (.iload_n 2, 1) := by decide +kernel
theorem dX9_fitAll_22 : decode cX9_fitAll 22 = .ok (.iload_n 2, 1) := by decide +kernel
theorem dX9_fitAll_23 : decode cX9_fitAll 23 = .ok (.iload_n 1, 1) := by decide +kernel
theorem dX9_fitAll_24 : decode cX9_fitAll 24 = .ok (.if_icmp .ge 7, 3) := by decide +kernel
theorem dX9_fitAll_27 : decode cX9_fitAll 27 = .ok (.iconst 1, 1) := by decide +kernel
theorem dX9_fitAll_28 : decode cX9_fitAll 28 = .ok (.goto 4, 3) := by decide +kernel
theorem dX9_fitAll_31 : decode cX9_fitAll 31 = .ok (.iconst 0, 1) := by decide +kernel
theorem dX9_fitAll_32 : decode cX9_fitAll 32 = .ok (.bastore, 1) := by decide +kernel
theorem dX9_fitAll_33 : decode cX9_fitAll 33 = .ok (.iinc 2 1, 3) := by decide +kernel
theorem dX9_fitAll_36 : decode cX9_fitAll 36 = .ok (.goto (-26), 3) := by decide +kernel
theorem dX9_fitAll_39 : decode cX9_fitAll 39 = .ok (.iconst 0, 1) := by decide +kernel
theorem dX9_fitAll_40 : decode cX9_fitAll 40 = .ok (.istore_n 2, 1) := by decide +kernel
theorem dX9_fitAll_41 : decode cX9_fitAll 41 = .ok (.iload_n 2, 1) := by decide +kernel
theorem dX9_fitAll_42 : decode cX9_fitAll 42 = .ok (.aload_n 0, 1) := by decide +kernel
theorem dX9_fitAll_43 : decode cX9_fitAll 43 = .ok (.getfield 33, 3) := by decide +kernel
theorem dX9_fitAll_46 : decode cX9_fitAll 46 = .ok (.if_icmp .ge 80, 3) := by decide +kernel
theorem dX9_fitAll_49 : decode cX9_fitAll 49 = .ok (.aload_n 0, 1) := by decide +kernel
theorem dX9_fitAll_50 : decode cX9_fitAll 50 = .ok (.getfield 29, 3) := by decide +kernel
theorem dX9_fitAll_53 : decode cX9_fitAll 53 = .ok (.aload_n 0, 1) := by decide +kernel
theorem dX9_fitAll_54 : decode cX9_fitAll 54 = .ok (.getfield 11, 3) := by decide +kernel
theorem dX9_fitAll_57 : decode cX9_fitAll 57 = .ok (.iload_n 2, 1) := by decide +kernel
theorem dX9_fitAll_58 : decode cX9_fitAll 58 = .ok (.iaload, 1) := by decide +kernel
theorem dX9_fitAll_59 : decode cX9_fitAll 59 = .ok (.invokevirtual 43, 3) := by decide +kernel
theorem dX9_fitAll_62 : decode cX9_fitAll 62 = .ok (.istore_n 3, 1) := by decide +kernel
theorem dX9_fitAll_63 : decode cX9_fitAll 63 = .ok (.iconst 0, 1) := by decide +kernel
theorem dX9_fitAll_64 : decode cX9_fitAll 64 = .ok (.istore 4, 2) := by decide +kernel
theorem dX9_fitAll_66 : decode cX9_fitAll 66 = .ok (.iload 4, 2) := by decide +kernel
theorem dX9_fitAll_68 : decode cX9_fitAll 68 = .ok (.iload_n 1, 1) := by decide +kernel
theorem dX9_fitAll_69 : decode cX9_fitAll 69 = .ok (.if_icmp .ge 51, 3) := by decide +kernel
theorem dX9_fitAll_72 : decode cX9_fitAll 72 = .ok (.aload_n 0, 1) := by decide +kernel
theorem dX9_fitAll_73 : decode cX9_fitAll 73 = .ok (.getfield 18, 3) := by decide +kernel
theorem dX9_fitAll_76 : decode cX9_fitAll 76 = .ok (.iload 4, 2) := by decide +kernel
theorem dX9_fitAll_78 : decode cX9_fitAll 78 = .ok (.aload_n 0, 1) := by decide +kernel
theorem dX9_fitAll_79 : decode cX9_fitAll 79 = .ok (.getfield 18, 3) := by decide +kernel
theorem dX9_fitAll_82 : decode cX9_fitAll 82 = .ok (.iload 4, 2) := by decide +kernel
theorem dX9_fitAll_84 : decode cX9_fitAll 84 = .ok (.baload, 1) := by decide +kernel
theorem dX9_fitAll_85 : decode cX9_fitAll 85 = .ok (.ifCond .eq 27, 3) := by decide +kernel
theorem dX9_fitAll_88 : decode cX9_fitAll 88 = .ok (.aload_n 0, 1) := by decide +kernel
theorem dX9_fitAll_89 : decode cX9_fitAll 89 = .ok (.getfield 25, 3) := by decide +kernel
theorem dX9_fitAll_92 : decode cX9_fitAll 92 = .ok (.iload 4, 2) := by decide +kernel
theorem dX9_fitAll_94 : decode cX9_fitAll 94 = .ok (.iload_n 3, 1) := by decide +kernel
theorem dX9_fitAll_95 : decode cX9_fitAll 95 = .ok (.iand, 1) := by decide +kernel
theorem dX9_fitAll_96 : decode cX9_fitAll 96 = .ok (.invokevirtual 49, 3) := by decide +kernel
theorem dX9_fitAll_99 : decode cX9_fitAll 99 = .ok (.aload_n 0, 1) := by decide +kernel
theorem dX9_fitAll_100 : decode cX9_fitAll 100 = .ok (.getfield 15, 3) := by decide +kernel
theorem dX9_fitAll_103 : decode cX9_fitAll 103 = .ok (.iload_n 2, 1) := by decide +kernel
theorem dX9_fitAll_104 : decode cX9_fitAll 104 = .ok (.iaload, 1) := by decide +kernel
theorem dX9_fitAll_105 : decode cX9_fitAll 105 = .ok (.if_icmp .ne 7, 3) := by decide +kernel
theorem dX9_fitAll_108 : decode cX9_fitAll 108 = .ok (.iconst 1, 1) := by decide +kernel
theorem dX9_fitAll_109 : decode cX9_fitAll 109 = .ok (.goto 4, 3) := by decide +kernel
theorem dX9_fitAll_112 : decode cX9_fitAll 112 = .ok (.iconst 0, 1) := by decide +kernel
theorem dX9_fitAll_113 : decode cX9_fitAll 113 = .ok (.bastore, 1) := by decide +kernel
theorem dX9_fitAll_114 : decode cX9_fitAll 114 = .ok (.iinc 4 1, 3) := by decide +kernel
theorem dX9_fitAll_117 : decode cX9_fitAll 117 = .ok (.goto (-51), 3) := by decide +kernel
theorem dX9_fitAll_120 : decode cX9_fitAll 120 = .ok (.iinc 2 1, 3) := by decide +kernel
theorem dX9_fitAll_123 : decode cX9_fitAll 123 = .ok (.goto (-82), 3) := by decide +kernel
theorem dX9_fitAll_126 : decode cX9_fitAll 126 = .ok (.aload_n 0, 1) := by decide +kernel
theorem dX9_fitAll_127 : decode cX9_fitAll 127 = .ok (.iconst 0, 1) := by decide +kernel
theorem dX9_fitAll_128 : decode cX9_fitAll 128 = .ok (.putfield 52, 3) := by decide +kernel
theorem dX9_fitAll_131 : decode cX9_fitAll 131 = .ok (.iconst 0, 1) := by decide +kernel
theorem dX9_fitAll_132 : decode cX9_fitAll 132 = .ok (.istore_n 2, 1) := by decide +kernel
theorem dX9_fitAll_133 : decode cX9_fitAll 133 = .ok (.iload_n 2, 1) := by decide +kernel
theorem dX9_fitAll_134 : decode cX9_fitAll 134 = .ok (.iload_n 1, 1) := by decide +kernel
theorem dX9_fitAll_135 : decode cX9_fitAll 135 = .ok (.if_icmp .ge 28, 3) := by decide +kernel
theorem dX9_fitAll_138 : decode cX9_fitAll 138 = .ok (.aload_n 0, 1) := by decide +kernel
theorem dX9_fitAll_139 : decode cX9_fitAll 139 = .ok (.getfield 18, 3) := by decide +kernel
theorem dX9_fitAll_142 : decode cX9_fitAll 142 = .ok (.iload_n 2, 1) := by decide +kernel
theorem dX9_fitAll_143 : decode cX9_fitAll 143 = .ok (.baload, 1) := by decide +kernel
theorem dX9_fitAll_144 : decode cX9_fitAll 144 = .ok (.ifCond .eq 13, 3) := by decide +kernel
theorem dX9_fitAll_147 : decode cX9_fitAll 147 = .ok (.aload_n 0, 1) := by decide +kernel
theorem dX9_fitAll_148 : decode cX9_fitAll 148 = .ok (.dup, 1) := by decide +kernel
theorem dX9_fitAll_149 : decode cX9_fitAll 149 = .ok (.getfield 52, 3) := by decide +kernel
theorem dX9_fitAll_152 : decode cX9_fitAll 152 = .ok (.iconst 1, 1) := by decide +kernel
theorem dX9_fitAll_153 : decode cX9_fitAll 153 = .ok (.iadd, 1) := by decide +kernel
theorem dX9_fitAll_154 : decode cX9_fitAll 154 = .ok (.putfield 52, 3) := by decide +kernel
theorem dX9_fitAll_157 : decode cX9_fitAll 157 = .ok (.iinc 2 1, 3) := by decide +kernel
theorem dX9_fitAll_160 : decode cX9_fitAll 160 = .ok (.goto (-27), 3) := by decide +kernel
theorem dX9_fitAll_163 : decode cX9_fitAll 163 = .ok (.return_, 1) := by decide +kernel
set_option maxHeartbeats 4000000 in
set_option maxRecDepth 20000 in
theorem en_X9_fitAll {M : jw_Mem} {Q : Int32 → jw_Mem → Prop}  (h : (jw_M 0 mX1_setsOfWalkers [vr 1 0] M (fun x1 M2 => jw_J 2 mX9_fitAll 10 [(0, vr 9 0), (1, vi x1), (2, vi 0)] [] M2 Q))) : jw_M 2 mX9_fitAll [vr 9 0] M Q := by
  refine jw_M.of (by decide) (Nat.le_of_ble_eq_true rfl) ?_
  show jw_J 2 mX9_fitAll 0 [(0, vr 9 0)] [] M Q
  refine jr_aload_n (pc := 0) dX9_fitAll_0 rfl 0 rfl ?_
  refine jr_get (pc := 1) (v := vr 1 0) fg_X9_25 (by decide) rfl dX9_fitAll_1 ?_
  refine jr_callV (pc := 4) (d' := 0) (mt' := mX1_setsOfWalkers) (k := 1) (n := 0) (As := []) (st := []) fc_X9_37 (by decide) (by decide) (Nat.le_of_ble_eq_true rfl) rfl dX9_fitAll_4 (jw_M.mono h (fun x1 M2 h => ?_))
  show jw_J 2 mX9_fitAll 7 [(0, vr 9 0)] [vi x1] M2 Q
  refine jr_istore_n (pc := 7) (lv' := [(1, vi x1), (0, vr 9 0)]) dX9_fitAll_7 rfl (by decide) rfl ?_
  refine jr_iconst (pc := 8) (v := 0) dX9_fitAll_8 (by decide) ?_
  refine jr_istore_n (pc := 9) (lv' := [(2, vi 0), (1, vi x1), (0, vr 9 0)]) dX9_fitAll_9 rfl (by decide) rfl ?_
  exact jr_sub [2, 1, 0] rfl h
set_option maxHeartbeats 4000000 in
set_option maxRecDepth 20000 in
theorem bk_X9_fitAll_10 {v1 : Int32} {v2 : Int32} {M : jw_Mem} {Q : Int32 → jw_Mem → Prop}  (h : ((128 ≤ v2 → jw_J 2 mX9_fitAll 41 [(0, vr 9 0), (1, vi v1), (2, vi 0)] [] M Q) ∧ (¬ 128 ≤ v2 → ((v1 ≤ v2 → (vp_in v2 128 ∧ (∀ M3 : jw_Mem, M3 = jw_up M 33 0 v2.toNatClampNeg (vp_nar .boolean 0) → jw_J 2 mX9_fitAll 10 [(0, vr 9 0), (1, vi v1), (2, vi (v2 + 1))] [] M3 Q))) ∧ (¬ v1 ≤ v2 → (vp_in v2 128 ∧ (∀ M4 : jw_Mem, M4 = jw_up M 33 0 v2.toNatClampNeg (vp_nar .boolean 1) → jw_J 2 mX9_fitAll 10 [(0, vr 9 0), (1, vi v1), (2, vi (v2 + 1))] [] M4 Q))))))) : jw_J 2 mX9_fitAll 10 [(0, vr 9 0), (1, vi v1), (2, vi v2)] [] M Q := by
  refine jr_iload_n (pc := 10) dX9_fitAll_10 rfl 2 rfl ?_
  refine jr_sipush (pc := 11) (v := 128) dX9_fitAll_11 (by decide) ?_
  refine jr_icmp_ge (pc := 14) (tgt := 39) dX9_fitAll_14 (by decide) (fun c => ?_) (fun c => ?_)
  · replace h := h.1 c
    refine jr_iconst (pc := 39) (v := 0) dX9_fitAll_39 (by decide) ?_
    refine jr_istore_n (pc := 40) (lv' := [(2, vi 0), (0, vr 9 0), (1, vi v1)]) dX9_fitAll_40 rfl (by decide) rfl ?_
    exact jr_sub [1, 2, 0] rfl h
  · replace h := h.2 c
    refine jr_aload_n (pc := 17) dX9_fitAll_17 rfl 0 rfl ?_
    refine jr_get (pc := 18) (v := vr 33 0) fg_X9_18 (by decide) rfl dX9_fitAll_18 ?_
    refine jr_iload_n (pc := 21) dX9_fitAll_21 rfl 2 rfl ?_
    refine jr_iload_n (pc := 22) dX9_fitAll_22 rfl 2 rfl ?_
    refine jr_iload_n (pc := 23) dX9_fitAll_23 rfl 1 rfl ?_
    refine jr_icmp_ge (pc := 24) (tgt := 31) dX9_fitAll_24 (by decide) (fun c => ?_) (fun c => ?_)
    · replace h := h.1 c
      refine jr_iconst (pc := 31) (v := 0) dX9_fitAll_31 (by decide) ?_
      refine jr_zast (pc := 32) ⟨rfl, (by decide)⟩ h.1 dX9_fitAll_32 ?_
      replace h := h.2
      replace h := h _ rfl
      generalize jw_up M 33 0 v2.toNatClampNeg (vp_nar .boolean 0) = M3 at h ⊢
      refine jr_iinc (pc := 33) (lv' := [(2, vi (v2 + 1)), (0, vr 9 0), (1, vi v1)]) (q := 2) dX9_fitAll_33 rfl (by rfl) (by decide) rfl ?_
      refine jr_goto (pc := 36) (tgt := 10) dX9_fitAll_36 (by decide) ?_
      exact jr_sub [1, 2, 0] rfl h
    · replace h := h.2 c
      refine jr_iconst (pc := 27) (v := 1) dX9_fitAll_27 (by decide) ?_
      refine jr_goto (pc := 28) (tgt := 32) dX9_fitAll_28 (by decide) ?_
      refine jr_zast (pc := 32) ⟨rfl, (by decide)⟩ h.1 dX9_fitAll_32 ?_
      replace h := h.2
      replace h := h _ rfl
      generalize jw_up M 33 0 v2.toNatClampNeg (vp_nar .boolean 1) = M4 at h ⊢
      refine jr_iinc (pc := 33) (lv' := [(2, vi (v2 + 1)), (0, vr 9 0), (1, vi v1)]) (q := 2) dX9_fitAll_33 rfl (by rfl) (by decide) rfl ?_
      refine jr_goto (pc := 36) (tgt := 10) dX9_fitAll_36 (by decide) ?_
      exact jr_sub [1, 2, 0] rfl h
set_option maxHeartbeats 4000000 in
set_option maxRecDepth 20000 in
theorem bk_X9_fitAll_41 {v1 : Int32} {v2 : Int32} {M : jw_Mem} {Q : Int32 → jw_Mem → Prop}  (h : (((M 9 0 6) ≤ v2 → (∀ M5 : jw_Mem, M5 = jw_up M 9 0 7 0 → jw_J 2 mX9_fitAll 133 [(0, vr 9 0), (1, vi v1), (2, vi 0)] [] M5 Q)) ∧ (¬ (M 9 0 6) ≤ v2 → (vp_in v2 6 ∧ (jw_M 1 mX8_walkersUnder [vr 8 0, vi (M 31 0 v2.toNatClampNeg)] M (fun x6 M7 => jw_J 2 mX9_fitAll 66 [(0, vr 9 0), (1, vi v1), (2, vi v2), (3, vi x6), (4, vi 0)] [] M7 Q)))))) : jw_J 2 mX9_fitAll 41 [(0, vr 9 0), (1, vi v1), (2, vi v2)] [] M Q := by
  refine jr_iload_n (pc := 41) dX9_fitAll_41 rfl 2 rfl ?_
  refine jr_aload_n (pc := 42) dX9_fitAll_42 rfl 0 rfl ?_
  refine jr_get (pc := 43) (v := vi (M 9 0 6)) fg_X9_33 (by decide) rfl dX9_fitAll_43 ?_
  refine jr_icmp_ge (pc := 46) (tgt := 126) dX9_fitAll_46 (by decide) (fun c => ?_) (fun c => ?_)
  · replace h := h.1 c
    refine jr_aload_n (pc := 126) dX9_fitAll_126 rfl 0 rfl ?_
    refine jr_iconst (pc := 127) (v := 0) dX9_fitAll_127 (by decide) ?_
    refine jr_put (pc := 128) fp_X9_52 (by decide) (Or.inl ⟨_, _, _, rfl, by decide +kernel⟩) dX9_fitAll_128 ?_
    replace h := h _ rfl
    generalize jw_up M 9 0 7 0 = M5 at h ⊢
    refine jr_iconst (pc := 131) (v := 0) dX9_fitAll_131 (by decide) ?_
    refine jr_istore_n (pc := 132) (lv' := [(2, vi 0), (0, vr 9 0), (1, vi v1)]) dX9_fitAll_132 rfl (by decide) rfl ?_
    exact jr_sub [1, 2, 0] rfl h
  · replace h := h.2 c
    refine jr_aload_n (pc := 49) dX9_fitAll_49 rfl 0 rfl ?_
    refine jr_get (pc := 50) (v := vr 8 0) fg_X9_29 (by decide) rfl dX9_fitAll_50 ?_
    refine jr_aload_n (pc := 53) dX9_fitAll_53 rfl 0 rfl ?_
    refine jr_get (pc := 54) (v := vr 31 0) fg_X9_11 (by decide) rfl dX9_fitAll_54 ?_
    refine jr_iload_n (pc := 57) dX9_fitAll_57 rfl 2 rfl ?_
    refine jr_iald (pc := 58) ⟨rfl, (by decide)⟩ h.1 dX9_fitAll_58 ?_
    replace h := h.2
    refine jr_callV (pc := 59) (d' := 1) (mt' := mX8_walkersUnder) (k := 8) (n := 0) (As := [vi (M 31 0 v2.toNatClampNeg)]) (st := []) fc_X9_43 (by decide) (by decide) (Nat.le_of_ble_eq_true rfl) rfl dX9_fitAll_59 (jw_M.mono h (fun x6 M7 h => ?_))
    show jw_J 2 mX9_fitAll 62 [(0, vr 9 0), (1, vi v1), (2, vi v2)] [vi x6] M7 Q
    refine jr_istore_n (pc := 62) (lv' := [(3, vi x6), (0, vr 9 0), (1, vi v1), (2, vi v2)]) dX9_fitAll_62 rfl (by decide) rfl ?_
    refine jr_iconst (pc := 63) (v := 0) dX9_fitAll_63 (by decide) ?_
    refine jr_istore (pc := 64) (lv' := [(4, vi 0), (3, vi x6), (0, vr 9 0), (1, vi v1), (2, vi v2)]) dX9_fitAll_64 (by decide) rfl ?_
    exact jr_sub [2, 3, 4, 1, 0] rfl h
set_option maxHeartbeats 4000000 in
set_option maxRecDepth 20000 in
theorem bk_X9_fitAll_133 {v1 : Int32} {v2 : Int32} {M : jw_Mem} {Q : Int32 → jw_Mem → Prop}  (h : ((v1 ≤ v2 → Q 0 M) ∧ (¬ v1 ≤ v2 → (vp_in v2 128 ∧ (((M 33 0 v2.toNatClampNeg) = 0 → jw_J 2 mX9_fitAll 133 [(0, vr 9 0), (1, vi v1), (2, vi (v2 + 1))] [] M Q) ∧ (¬ (M 33 0 v2.toNatClampNeg) = 0 → (∀ M8 : jw_Mem, M8 = jw_up M 9 0 7 ((M 9 0 7) + 1) → jw_J 2 mX9_fitAll 133 [(0, vr 9 0), (1, vi v1), (2, vi (v2 + 1))] [] M8 Q))))))) : jw_J 2 mX9_fitAll 133 [(0, vr 9 0), (1, vi v1), (2, vi v2)] [] M Q := by
  refine jr_iload_n (pc := 133) dX9_fitAll_133 rfl 2 rfl ?_
  refine jr_iload_n (pc := 134) dX9_fitAll_134 rfl 1 rfl ?_
  refine jr_icmp_ge (pc := 135) (tgt := 163) dX9_fitAll_135 (by decide) (fun c => ?_) (fun c => ?_)
  · replace h := h.1 c
    exact jr_vret (pc := 163) rfl dX9_fitAll_163 h
  · replace h := h.2 c
    refine jr_aload_n (pc := 138) dX9_fitAll_138 rfl 0 rfl ?_
    refine jr_get (pc := 139) (v := vr 33 0) fg_X9_18 (by decide) rfl dX9_fitAll_139 ?_
    refine jr_iload_n (pc := 142) dX9_fitAll_142 rfl 2 rfl ?_
    refine jr_zald (pc := 143) ⟨rfl, (by decide)⟩ h.1 dX9_fitAll_143 ?_
    replace h := h.2
    refine jr_if_eq (pc := 144) (tgt := 157) dX9_fitAll_144 (by decide) (fun c => ?_) (fun c => ?_)
    · replace h := h.1 c
      refine jr_iinc (pc := 157) (lv' := [(2, vi (v2 + 1)), (0, vr 9 0), (1, vi v1)]) (q := 2) dX9_fitAll_157 rfl (by rfl) (by decide) rfl ?_
      refine jr_goto (pc := 160) (tgt := 133) dX9_fitAll_160 (by decide) ?_
      exact jr_sub [1, 2, 0] rfl h
    · replace h := h.2 c
      refine jr_aload_n (pc := 147) dX9_fitAll_147 rfl 0 rfl ?_
      refine jr_dup_r (pc := 148) dX9_fitAll_148 ?_
      refine jr_get (pc := 149) (v := vi (M 9 0 7)) fg_X9_52 (by decide) rfl dX9_fitAll_149 ?_
      refine jr_iconst (pc := 152) (v := 1) dX9_fitAll_152 (by decide) ?_
      refine jr_iadd (pc := 153) dX9_fitAll_153 ?_
      refine jr_put (pc := 154) fp_X9_52 (by decide) (Or.inl ⟨_, _, _, rfl, by decide +kernel⟩) dX9_fitAll_154 ?_
      replace h := h _ rfl
      generalize jw_up M 9 0 7 ((M 9 0 7) + 1) = M8 at h ⊢
      refine jr_iinc (pc := 157) (lv' := [(2, vi (v2 + 1)), (0, vr 9 0), (1, vi v1)]) (q := 2) dX9_fitAll_157 rfl (by rfl) (by decide) rfl ?_
      refine jr_goto (pc := 160) (tgt := 133) dX9_fitAll_160 (by decide) ?_
      exact jr_sub [1, 2, 0] rfl h
set_option maxHeartbeats 4000000 in
set_option maxRecDepth 20000 in
theorem bk_X9_fitAll_66 {v1 : Int32} {v2 : Int32} {v3 : Int32} {v4 : Int32} {M : jw_Mem} {Q : Int32 → jw_Mem → Prop}  (h : ((v1 ≤ v4 → jw_J 2 mX9_fitAll 41 [(0, vr 9 0), (1, vi v1), (2, vi (v2 + 1))] [] M Q) ∧ (¬ v1 ≤ v4 → (vp_in v4 128 ∧ (((M 33 0 v4.toNatClampNeg) = 0 → (vp_in v4 128 ∧ (∀ M9 : jw_Mem, M9 = jw_up M 33 0 v4.toNatClampNeg (vp_nar .boolean 0) → jw_J 2 mX9_fitAll 66 [(0, vr 9 0), (1, vi v1), (2, vi v2), (3, vi v3), (4, vi (v4 + 1))] [] M9 Q))) ∧ (¬ (M 33 0 v4.toNatClampNeg) = 0 → (jw_M 1 mX1_votesOf [vr 1 0, vi (v4 &&& v3)] M (fun x10 M11 => (vp_in v2 6 ∧ ((¬ x10 = (M11 32 0 v2.toNatClampNeg) → (vp_in v4 128 ∧ (∀ M12 : jw_Mem, M12 = jw_up M11 33 0 v4.toNatClampNeg (vp_nar .boolean 0) → jw_J 2 mX9_fitAll 66 [(0, vr 9 0), (1, vi v1), (2, vi v2), (3, vi v3), (4, vi (v4 + 1))] [] M12 Q))) ∧ (x10 = (M11 32 0 v2.toNatClampNeg) → (vp_in v4 128 ∧ (∀ M13 : jw_Mem, M13 = jw_up M11 33 0 v4.toNatClampNeg (vp_nar .boolean 1) → jw_J 2 mX9_fitAll 66 [(0, vr 9 0), (1, vi v1), (2, vi v2), (3, vi v3), (4, vi (v4 + 1))] [] M13 Q))))))))))))) : jw_J 2 mX9_fitAll 66 [(0, vr 9 0), (1, vi v1), (2, vi v2), (3, vi v3), (4, vi v4)] [] M Q := by
  refine jr_iload (pc := 66) dX9_fitAll_66 4 rfl ?_
  refine jr_iload_n (pc := 68) dX9_fitAll_68 rfl 1 rfl ?_
  refine jr_icmp_ge (pc := 69) (tgt := 120) dX9_fitAll_69 (by decide) (fun c => ?_) (fun c => ?_)
  · replace h := h.1 c
    refine jr_iinc (pc := 120) (lv' := [(2, vi (v2 + 1)), (0, vr 9 0), (1, vi v1), (3, vi v3), (4, vi v4)]) (q := 2) dX9_fitAll_120 rfl (by rfl) (by decide) rfl ?_
    refine jr_goto (pc := 123) (tgt := 41) dX9_fitAll_123 (by decide) ?_
    exact jr_sub [1, 2, 0] rfl h
  · replace h := h.2 c
    refine jr_aload_n (pc := 72) dX9_fitAll_72 rfl 0 rfl ?_
    refine jr_get (pc := 73) (v := vr 33 0) fg_X9_18 (by decide) rfl dX9_fitAll_73 ?_
    refine jr_iload (pc := 76) dX9_fitAll_76 4 rfl ?_
    refine jr_aload_n (pc := 78) dX9_fitAll_78 rfl 0 rfl ?_
    refine jr_get (pc := 79) (v := vr 33 0) fg_X9_18 (by decide) rfl dX9_fitAll_79 ?_
    refine jr_iload (pc := 82) dX9_fitAll_82 4 rfl ?_
    refine jr_zald (pc := 84) ⟨rfl, (by decide)⟩ h.1 dX9_fitAll_84 ?_
    replace h := h.2
    refine jr_if_eq (pc := 85) (tgt := 112) dX9_fitAll_85 (by decide) (fun c => ?_) (fun c => ?_)
    · replace h := h.1 c
      refine jr_iconst (pc := 112) (v := 0) dX9_fitAll_112 (by decide) ?_
      refine jr_zast (pc := 113) ⟨rfl, (by decide)⟩ h.1 dX9_fitAll_113 ?_
      replace h := h.2
      replace h := h _ rfl
      generalize jw_up M 33 0 v4.toNatClampNeg (vp_nar .boolean 0) = M9 at h ⊢
      refine jr_iinc (pc := 114) (lv' := [(4, vi (v4 + 1)), (0, vr 9 0), (1, vi v1), (2, vi v2), (3, vi v3)]) (q := 4) dX9_fitAll_114 rfl (by rfl) (by decide) rfl ?_
      refine jr_goto (pc := 117) (tgt := 66) dX9_fitAll_117 (by decide) ?_
      exact jr_sub [1, 2, 3, 4, 0] rfl h
    · replace h := h.2 c
      refine jr_aload_n (pc := 88) dX9_fitAll_88 rfl 0 rfl ?_
      refine jr_get (pc := 89) (v := vr 1 0) fg_X9_25 (by decide) rfl dX9_fitAll_89 ?_
      refine jr_iload (pc := 92) dX9_fitAll_92 4 rfl ?_
      refine jr_iload_n (pc := 94) dX9_fitAll_94 rfl 3 rfl ?_
      refine jr_iand (pc := 95) dX9_fitAll_95 ?_
      refine jr_callV (pc := 96) (d' := 1) (mt' := mX1_votesOf) (k := 1) (n := 0) (As := [vi (v4 &&& v3)]) (st := [vi v4, vr 33 0]) fc_X9_49 (by decide) (by decide) (Nat.le_of_ble_eq_true rfl) rfl dX9_fitAll_96 (jw_M.mono h (fun x10 M11 h => ?_))
      show jw_J 2 mX9_fitAll 99 [(0, vr 9 0), (1, vi v1), (2, vi v2), (3, vi v3), (4, vi v4)] [vi x10, vi v4, vr 33 0] M11 Q
      refine jr_aload_n (pc := 99) dX9_fitAll_99 rfl 0 rfl ?_
      refine jr_get (pc := 100) (v := vr 32 0) fg_X9_15 (by decide) rfl dX9_fitAll_100 ?_
      refine jr_iload_n (pc := 103) dX9_fitAll_103 rfl 2 rfl ?_
      refine jr_iald (pc := 104) ⟨rfl, (by decide)⟩ h.1 dX9_fitAll_104 ?_
      replace h := h.2
      refine jr_icmp_ne (pc := 105) (tgt := 112) dX9_fitAll_105 (by decide) (fun c => ?_) (fun c => ?_)
      · replace h := h.1 c
        refine jr_iconst (pc := 112) (v := 0) dX9_fitAll_112 (by decide) ?_
        refine jr_zast (pc := 113) ⟨rfl, (by decide)⟩ h.1 dX9_fitAll_113 ?_
        replace h := h.2
        replace h := h _ rfl
        generalize jw_up M11 33 0 v4.toNatClampNeg (vp_nar .boolean 0) = M12 at h ⊢
        refine jr_iinc (pc := 114) (lv' := [(4, vi (v4 + 1)), (0, vr 9 0), (1, vi v1), (2, vi v2), (3, vi v3)]) (q := 4) dX9_fitAll_114 rfl (by rfl) (by decide) rfl ?_
        refine jr_goto (pc := 117) (tgt := 66) dX9_fitAll_117 (by decide) ?_
        exact jr_sub [1, 2, 3, 4, 0] rfl h
      · replace h := h.2 c
        refine jr_iconst (pc := 108) (v := 1) dX9_fitAll_108 (by decide) ?_
        refine jr_goto (pc := 109) (tgt := 113) dX9_fitAll_109 (by decide) ?_
        refine jr_zast (pc := 113) ⟨rfl, (by decide)⟩ h.1 dX9_fitAll_113 ?_
        replace h := h.2
        replace h := h _ rfl
        generalize jw_up M11 33 0 v4.toNatClampNeg (vp_nar .boolean 1) = M13 at h ⊢
        refine jr_iinc (pc := 114) (lv' := [(4, vi (v4 + 1)), (0, vr 9 0), (1, vi v1), (2, vi v2), (3, vi v3)]) (q := 4) dX9_fitAll_114 rfl (by rfl) (by decide) rfl ?_
        refine jr_goto (pc := 117) (tgt := 66) dX9_fitAll_117 (by decide) ?_
        exact jr_sub [1, 2, 3, 4, 0] rfl h
theorem dX9_inEach_0 : decode cX9_inEach 0 = .ok (.aload_n 0, 1) := by decide +kernel
theorem dX9_inEach_1 : decode cX9_inEach 1 = .ok (.getfield 25, 3) := by decide +kernel
theorem dX9_inEach_4 : decode cX9_inEach 4 = .ok (.invokevirtual 37, 3) := by decide +kernel
theorem dX9_inEach_7 : decode cX9_inEach 7 = .ok (.istore_n 1, 1) := by decide +kernel
theorem dX9_inEach_8 : decode cX9_inEach 8 = .ok (.iload_n 1, 1) := by decide +kernel
theorem dX9_inEach_9 : decode cX9_inEach 9 = .ok (.iconst 1, 1) := by decide +kernel
theorem dX9_inEach_10 : decode cX9_inEach 10 = .ok (.isub, 1) := by decide +kernel
theorem dX9_inEach_11 : decode cX9_inEach 11 = .ok (.istore_n 2, 1) := by decide +kernel
theorem dX9_inEach_12 : decode cX9_inEach 12 = .ok (.iconst 0, 1) := by decide +kernel
theorem dX9_inEach_13 : decode cX9_inEach 13 = .ok (.istore_n 3, 1) := by decide +kernel
theorem dX9_inEach_14 : decode cX9_inEach 14 = .ok (.iload_n 3, 1) := by decide +kernel
theorem dX9_inEach_15 : decode cX9_inEach 15 = .ok (.iload_n 1, 1) := by decide +kernel
theorem dX9_inEach_16 : decode cX9_inEach 16 = .ok (.if_icmp .ge 22, 3) := by decide +kernel
theorem dX9_inEach_19 : decode cX9_inEach 19 = .ok (.aload_n 0, 1) := by decide +kernel
theorem dX9_inEach_20 : decode cX9_inEach 20 = .ok (.getfield 18, 3) := by decide +kernel
theorem dX9_inEach_23 : decode cX9_inEach 23 = .ok (.iload_n 3, 1) := by decide +kernel
theorem dX9_inEach_24 : decode cX9_inEach 24 = .ok (.baload, 1) := by decide +kernel
theorem dX9_inEach_25 : decode cX9_inEach 25 = .ok (.ifCond .eq 7, 3) := by decide +kernel
theorem dX9_inEach_28 : decode cX9_inEach 28 = .ok (.iload_n 2, 1) := by decide +kernel
theorem dX9_inEach_29 : decode cX9_inEach 29 = .ok (.iload_n 3, 1) := by decide +kernel
theorem dX9_inEach_30 : decode cX9_inEach 30 = .ok (.iand, 1) := by decide +kernel
theorem dX9_inEach_31 : decode cX9_inEach 31 = .ok (.istore_n 2, 1) := by decide +kernel
theorem dX9_inEach_32 : decode cX9_inEach 32 = .ok (.iinc 3 1, 3) := by decide +kernel
theorem dX9_inEach_35 : decode cX9_inEach 35 = .ok (.goto (-21), 3) := by decide +kernel
theorem dX9_inEach_38 : decode cX9_inEach 38 = .ok (.aload_n 0, 1) := by decide +kernel
theorem dX9_inEach_39 : decode cX9_inEach 39 = .ok (.getfield 52, 3) := by decide +kernel
theorem dX9_inEach_42 : decode cX9_inEach 42 = .ok (.ifCond .ne 7, 3) := by decide +kernel
theorem dX9_inEach_45 : decode cX9_inEach 45 = .ok (.iconst (-1), 1) := by decide +kernel
theorem dX9_inEach_46 : decode cX9_inEach 46 = .ok (.goto 4, 3) := by decide +kernel
theorem dX9_inEach_49 : decode cX9_inEach 49 = .ok (.iload_n 2, 1) := by decide +kernel
theorem dX9_inEach_50 : decode cX9_inEach 50 = .ok (.ireturn, 1) := by decide +kernel
set_option maxHeartbeats 4000000 in
set_option maxRecDepth 20000 in
theorem en_X9_inEach {M : jw_Mem} {Q : Int32 → jw_Mem → Prop}  (h : (jw_M 0 mX1_setsOfWalkers [vr 1 0] M (fun x1 M2 => jw_J 1 mX9_inEach 14 [(0, vr 9 0), (1, vi x1), (2, vi (x1 - 1)), (3, vi 0)] [] M2 Q))) : jw_M 1 mX9_inEach [vr 9 0] M Q := by
  refine jw_M.of (by decide) (Nat.le_of_ble_eq_true rfl) ?_
  show jw_J 1 mX9_inEach 0 [(0, vr 9 0)] [] M Q
  refine jr_aload_n (pc := 0) dX9_inEach_0 rfl 0 rfl ?_
  refine jr_get (pc := 1) (v := vr 1 0) fg_X9_25 (by decide) rfl dX9_inEach_1 ?_
  refine jr_callV (pc := 4) (d' := 0) (mt' := mX1_setsOfWalkers) (k := 1) (n := 0) (As := []) (st := []) fc_X9_37 (by decide) (by decide) (Nat.le_of_ble_eq_true rfl) rfl dX9_inEach_4 (jw_M.mono h (fun x1 M2 h => ?_))
  show jw_J 1 mX9_inEach 7 [(0, vr 9 0)] [vi x1] M2 Q
  refine jr_istore_n (pc := 7) (lv' := [(1, vi x1), (0, vr 9 0)]) dX9_inEach_7 rfl (by decide) rfl ?_
  refine jr_iload_n (pc := 8) dX9_inEach_8 rfl 0 rfl ?_
  refine jr_iconst (pc := 9) (v := 1) dX9_inEach_9 (by decide) ?_
  refine jr_isub (pc := 10) dX9_inEach_10 ?_
  refine jr_istore_n (pc := 11) (lv' := [(2, vi (x1 - 1)), (1, vi x1), (0, vr 9 0)]) dX9_inEach_11 rfl (by decide) rfl ?_
  refine jr_iconst (pc := 12) (v := 0) dX9_inEach_12 (by decide) ?_
  refine jr_istore_n (pc := 13) (lv' := [(3, vi 0), (2, vi (x1 - 1)), (1, vi x1), (0, vr 9 0)]) dX9_inEach_13 rfl (by decide) rfl ?_
  exact jr_sub [3, 2, 1, 0] rfl h
set_option maxHeartbeats 4000000 in
set_option maxRecDepth 20000 in
theorem bk_X9_inEach_14 {v1 : Int32} {v2 : Int32} {v3 : Int32} {M : jw_Mem} {Q : Int32 → jw_Mem → Prop}  (h : ((v1 ≤ v3 → ((¬ (M 9 0 7) = 0 → Q v2 M) ∧ ((M 9 0 7) = 0 → Q (-1) M))) ∧ (¬ v1 ≤ v3 → (vp_in v3 128 ∧ (((M 33 0 v3.toNatClampNeg) = 0 → jw_J 1 mX9_inEach 14 [(0, vr 9 0), (1, vi v1), (2, vi v2), (3, vi (v3 + 1))] [] M Q) ∧ (¬ (M 33 0 v3.toNatClampNeg) = 0 → jw_J 1 mX9_inEach 14 [(0, vr 9 0), (1, vi v1), (2, vi (v2 &&& v3)), (3, vi (v3 + 1))] [] M Q)))))) : jw_J 1 mX9_inEach 14 [(0, vr 9 0), (1, vi v1), (2, vi v2), (3, vi v3)] [] M Q := by
  refine jr_iload_n (pc := 14) dX9_inEach_14 rfl 3 rfl ?_
  refine jr_iload_n (pc := 15) dX9_inEach_15 rfl 1 rfl ?_
  refine jr_icmp_ge (pc := 16) (tgt := 38) dX9_inEach_16 (by decide) (fun c => ?_) (fun c => ?_)
  · replace h := h.1 c
    refine jr_aload_n (pc := 38) dX9_inEach_38 rfl 0 rfl ?_
    refine jr_get (pc := 39) (v := vi (M 9 0 7)) fg_X9_52 (by decide) rfl dX9_inEach_39 ?_
    refine jr_if_ne (pc := 42) (tgt := 49) dX9_inEach_42 (by decide) (fun c => ?_) (fun c => ?_)
    · replace h := h.1 c
      refine jr_iload_n (pc := 49) dX9_inEach_49 rfl 2 rfl ?_
      exact jr_iret (pc := 50) rfl dX9_inEach_50 h
    · replace h := h.2 c
      refine jr_iconst (pc := 45) (v := (-1)) dX9_inEach_45 (by decide) ?_
      refine jr_goto (pc := 46) (tgt := 50) dX9_inEach_46 (by decide) ?_
      exact jr_iret (pc := 50) rfl dX9_inEach_50 h
  · replace h := h.2 c
    refine jr_aload_n (pc := 19) dX9_inEach_19 rfl 0 rfl ?_
    refine jr_get (pc := 20) (v := vr 33 0) fg_X9_18 (by decide) rfl dX9_inEach_20 ?_
    refine jr_iload_n (pc := 23) dX9_inEach_23 rfl 3 rfl ?_
    refine jr_zald (pc := 24) ⟨rfl, (by decide)⟩ h.1 dX9_inEach_24 ?_
    replace h := h.2
    refine jr_if_eq (pc := 25) (tgt := 32) dX9_inEach_25 (by decide) (fun c => ?_) (fun c => ?_)
    · replace h := h.1 c
      refine jr_iinc (pc := 32) (lv' := [(3, vi (v3 + 1)), (0, vr 9 0), (1, vi v1), (2, vi v2)]) (q := 3) dX9_inEach_32 rfl (by rfl) (by decide) rfl ?_
      refine jr_goto (pc := 35) (tgt := 14) dX9_inEach_35 (by decide) ?_
      exact jr_sub [1, 2, 3, 0] rfl h
    · replace h := h.2 c
      refine jr_iload_n (pc := 28) dX9_inEach_28 rfl 2 rfl ?_
      refine jr_iload_n (pc := 29) dX9_inEach_29 rfl 3 rfl ?_
      refine jr_iand (pc := 30) dX9_inEach_30 ?_
      refine jr_istore_n (pc := 31) (lv' := [(2, vi (v2 &&& v3)), (0, vr 9 0), (1, vi v1), (3, vi v3)]) dX9_inEach_31 rfl (by decide) rfl ?_
      refine jr_iinc (pc := 32) (lv' := [(3, vi (v3 + 1)), (2, vi (v2 &&& v3)), (0, vr 9 0), (1, vi v1)]) (q := 3) dX9_inEach_32 rfl (by rfl) (by decide) rfl ?_
      refine jr_goto (pc := 35) (tgt := 14) dX9_inEach_35 (by decide) ?_
      exact jr_sub [2, 3, 1, 0] rfl h
theorem dX9_bestPlinth_0 : decode cX9_bestPlinth 0 = .ok (.iconst (-1), 1) := by decide +kernel
theorem dX9_bestPlinth_1 : decode cX9_bestPlinth 1 = .ok (.istore_n 1, 1) := by decide +kernel
theorem dX9_bestPlinth_2 : decode cX9_bestPlinth 2 = .ok (.aload_n 0, 1) := by decide +kernel
theorem dX9_bestPlinth_3 : decode cX9_bestPlinth 3 = .ok (.getfield 52, 3) := by decide +kernel
theorem dX9_bestPlinth_6 : decode cX9_bestPlinth 6 = .ok (.istore_n 2, 1) := by decide +kernel
theorem dX9_bestPlinth_7 : decode cX9_bestPlinth 7 = .ok (.iconst 0, 1) := by decide +kernel
theorem dX9_bestPlinth_8 : decode cX9_bestPlinth 8 = .ok (.istore_n 3, 1) := by decide +kernel
theorem dX9_bestPlinth_9 : decode cX9_bestPlinth 9 = .ok (.iload_n 3, 1) := by decide +kernel
theorem dX9_bestPlinth_10 : decode cX9_bestPlinth 10 = .ok (.aload_n 0, 1) := by decide +kernel
theorem dX9_bestPlinth_11 : decode cX9_bestPlinth 11 = .ok (.getfield 25, 3) := by decide +kernel
theorem dX9_bestPlinth_14 : decode cX9_bestPlinth 14 = .ok (.getfield 55, 3) := by decide +kernel
theorem dX9_bestPlinth_17 : decode cX9_bestPlinth 17 = .ok (.if_icmp .ge 27, 3) := by decide +kernel
theorem dX9_bestPlinth_20 : decode cX9_bestPlinth 20 = .ok (.aload_n 0, 1) := by decide +kernel
theorem dX9_bestPlinth_21 : decode cX9_bestPlinth 21 = .ok (.iload_n 3, 1) := by decide +kernel
theorem dX9_bestPlinth_22 : decode cX9_bestPlinth 22 = .ok (.invokevirtual 57, 3) := by decide +kernel
theorem dX9_bestPlinth_25 : decode cX9_bestPlinth 25 = .ok (.istore 4, 2) := by decide +kernel
theorem dX9_bestPlinth_27 : decode cX9_bestPlinth 27 = .ok (.iload 4, 2) := by decide +kernel
theorem dX9_bestPlinth_29 : decode cX9_bestPlinth 29 = .ok (.iload_n 2, 1) := by decide +kernel
theorem dX9_bestPlinth_30 : decode cX9_bestPlinth 30 = .ok (.if_icmp .ge 8, 3) := by decide +kernel
theorem dX9_bestPlinth_33 : decode cX9_bestPlinth 33 = .ok (.iload 4, 2) := by decide +kernel
theorem dX9_bestPlinth_35 : decode cX9_bestPlinth 35 = .ok (.istore_n 2, 1) := by decide +kernel
theorem dX9_bestPlinth_36 : decode cX9_bestPlinth 36 = .ok (.iload_n 3, 1) := by decide +kernel
theorem dX9_bestPlinth_37 : decode cX9_bestPlinth 37 = .ok (.istore_n 1, 1) := by decide +kernel
theorem dX9_bestPlinth_38 : decode cX9_bestPlinth 38 = .ok (.iinc 3 1, 3) := by decide +kernel
theorem dX9_bestPlinth_41 : decode cX9_bestPlinth 41 = .ok (.goto (-32), 3) := by decide +kernel
theorem dX9_bestPlinth_44 : decode cX9_bestPlinth 44 = .ok (.iload_n 1, 1) := by decide +kernel
theorem dX9_bestPlinth_45 : decode cX9_bestPlinth 45 = .ok (.ireturn, 1) := by decide +kernel
set_option maxHeartbeats 4000000 in
set_option maxRecDepth 20000 in
theorem en_X9_bestPlinth {M : jw_Mem} {Q : Int32 → jw_Mem → Prop}  (h : jw_J 3 mX9_bestPlinth 9 [(0, vr 9 0), (1, vi (-1)), (2, vi (M 9 0 7)), (3, vi 0)] [] M Q) : jw_M 3 mX9_bestPlinth [vr 9 0] M Q := by
  refine jw_M.of (by decide) (Nat.le_of_ble_eq_true rfl) ?_
  show jw_J 3 mX9_bestPlinth 0 [(0, vr 9 0)] [] M Q
  refine jr_iconst (pc := 0) (v := (-1)) dX9_bestPlinth_0 (by decide) ?_
  refine jr_istore_n (pc := 1) (lv' := [(1, vi (-1)), (0, vr 9 0)]) dX9_bestPlinth_1 rfl (by decide) rfl ?_
  refine jr_aload_n (pc := 2) dX9_bestPlinth_2 rfl 1 rfl ?_
  refine jr_get (pc := 3) (v := vi (M 9 0 7)) fg_X9_52 (by decide) rfl dX9_bestPlinth_3 ?_
  refine jr_istore_n (pc := 6) (lv' := [(2, vi (M 9 0 7)), (1, vi (-1)), (0, vr 9 0)]) dX9_bestPlinth_6 rfl (by decide) rfl ?_
  refine jr_iconst (pc := 7) (v := 0) dX9_bestPlinth_7 (by decide) ?_
  refine jr_istore_n (pc := 8) (lv' := [(3, vi 0), (2, vi (M 9 0 7)), (1, vi (-1)), (0, vr 9 0)]) dX9_bestPlinth_8 rfl (by decide) rfl ?_
  exact jr_sub [3, 2, 1, 0] rfl h
set_option maxHeartbeats 4000000 in
set_option maxRecDepth 20000 in
theorem bk_X9_bestPlinth_9 {v1 : Int32} {v2 : Int32} {v3 : Int32} {M : jw_Mem} {Q : Int32 → jw_Mem → Prop}  (h : (((M 1 0 1) ≤ v3 → Q v1 M) ∧ (¬ (M 1 0 1) ≤ v3 → (jw_M 2 mX9_greatestPart [vr 9 0, vi v3] M (fun x1 M2 => ((v2 ≤ x1 → jw_J 3 mX9_bestPlinth 9 [(0, vr 9 0), (1, vi v1), (2, vi v2), (3, vi (v3 + 1))] [] M2 Q) ∧ (¬ v2 ≤ x1 → jw_J 3 mX9_bestPlinth 9 [(0, vr 9 0), (1, vi v3), (2, vi x1), (3, vi (v3 + 1))] [] M2 Q))))))) : jw_J 3 mX9_bestPlinth 9 [(0, vr 9 0), (1, vi v1), (2, vi v2), (3, vi v3)] [] M Q := by
  refine jr_iload_n (pc := 9) dX9_bestPlinth_9 rfl 3 rfl ?_
  refine jr_aload_n (pc := 10) dX9_bestPlinth_10 rfl 0 rfl ?_
  refine jr_get (pc := 11) (v := vr 1 0) fg_X9_25 (by decide) rfl dX9_bestPlinth_11 ?_
  refine jr_get (pc := 14) (v := vi (M 1 0 1)) fg_X9_55 (by decide) rfl dX9_bestPlinth_14 ?_
  refine jr_icmp_ge (pc := 17) (tgt := 44) dX9_bestPlinth_17 (by decide) (fun c => ?_) (fun c => ?_)
  · replace h := h.1 c
    refine jr_iload_n (pc := 44) dX9_bestPlinth_44 rfl 1 rfl ?_
    exact jr_iret (pc := 45) rfl dX9_bestPlinth_45 h
  · replace h := h.2 c
    refine jr_aload_n (pc := 20) dX9_bestPlinth_20 rfl 0 rfl ?_
    refine jr_iload_n (pc := 21) dX9_bestPlinth_21 rfl 3 rfl ?_
    refine jr_callV (pc := 22) (d' := 2) (mt' := mX9_greatestPart) (k := 9) (n := 0) (As := [vi v3]) (st := []) fc_X9_57 (by decide) (by decide) (Nat.le_of_ble_eq_true rfl) rfl dX9_bestPlinth_22 (jw_M.mono h (fun x1 M2 h => ?_))
    show jw_J 3 mX9_bestPlinth 25 [(0, vr 9 0), (1, vi v1), (2, vi v2), (3, vi v3)] [vi x1] M2 Q
    refine jr_istore (pc := 25) (lv' := [(4, vi x1), (0, vr 9 0), (1, vi v1), (2, vi v2), (3, vi v3)]) dX9_bestPlinth_25 (by decide) rfl ?_
    refine jr_iload (pc := 27) dX9_bestPlinth_27 0 rfl ?_
    refine jr_iload_n (pc := 29) dX9_bestPlinth_29 rfl 3 rfl ?_
    refine jr_icmp_ge (pc := 30) (tgt := 38) dX9_bestPlinth_30 (by decide) (fun c => ?_) (fun c => ?_)
    · replace h := h.1 c
      refine jr_iinc (pc := 38) (lv' := [(3, vi (v3 + 1)), (4, vi x1), (0, vr 9 0), (1, vi v1), (2, vi v2)]) (q := 4) dX9_bestPlinth_38 rfl (by rfl) (by decide) rfl ?_
      refine jr_goto (pc := 41) (tgt := 9) dX9_bestPlinth_41 (by decide) ?_
      exact jr_sub [2, 3, 4, 0] rfl h
    · replace h := h.2 c
      refine jr_iload (pc := 33) dX9_bestPlinth_33 0 rfl ?_
      refine jr_istore_n (pc := 35) (lv' := [(2, vi x1), (4, vi x1), (0, vr 9 0), (1, vi v1), (3, vi v3)]) dX9_bestPlinth_35 rfl (by decide) rfl ?_
      refine jr_iload_n (pc := 36) dX9_bestPlinth_36 rfl 4 rfl ?_
      refine jr_istore_n (pc := 37) (lv' := [(1, vi v3), (2, vi x1), (4, vi x1), (0, vr 9 0), (3, vi v3)]) dX9_bestPlinth_37 rfl (by decide) rfl ?_
      refine jr_iinc (pc := 38) (lv' := [(3, vi (v3 + 1)), (1, vi v3), (2, vi x1), (4, vi x1), (0, vr 9 0)]) (q := 4) dX9_bestPlinth_38 rfl (by rfl) (by decide) rfl ?_
      refine jr_goto (pc := 41) (tgt := 9) dX9_bestPlinth_41 (by decide) ?_
      exact jr_sub [4, 1, 2, 0] rfl h
theorem dX9_greatestPart_0 : decode cX9_greatestPart 0 = .ok (.iconst 0, 1) := by decide +kernel
theorem dX9_greatestPart_1 : decode cX9_greatestPart 1 = .ok (.istore_n 2, 1) := by decide +kernel
theorem dX9_greatestPart_2 : decode cX9_greatestPart 2 = .ok (.iload_n 2, 1) := by decide +kernel
theorem dX9_greatestPart_3 : decode cX9_greatestPart 3 = .ok (.bipush 64, 2) := by decide +kernel
theorem dX9_greatestPart_5 : decode cX9_greatestPart 5 = .ok (.if_icmp .ge 16, 3) := by decide +kernel
theorem dX9_greatestPart_8 : decode cX9_greatestPart 8 = .ok (.aload_n 0, 1) := by decide +kernel
theorem dX9_greatestPart_9 : decode cX9_greatestPart 9 = .ok (.getfield 22, 3) := by decide +kernel
theorem dX9_greatestPart_12 : decode cX9_greatestPart 12 = .ok (.iload_n 2, 1) := by decide +kernel
theorem dX9_greatestPart_13 : decode cX9_greatestPart 13 = .ok (.iconst 0, 1) := by decide +kernel
theorem dX9_greatestPart_14 : decode cX9_greatestPart 14 = .ok (.iastore, 1) := by decide +kernel
theorem dX9_greatestPart_15 : decode cX9_greatestPart 15 = .ok (.iinc 2 1, 3) := by decide +kernel
theorem dX9_greatestPart_18 : decode cX9_greatestPart 18 = .ok (.goto (-16), 3) := by decide +kernel
theorem dX9_greatestPart_21 : decode cX9_greatestPart 21 = .ok (.aload_n 0, 1) := by decide +kernel
theorem dX9_greatestPart_22 : decode cX9_greatestPart 22 = .ok (.getfield 29, 3) := by decide +kernel
theorem dX9_greatestPart_25 : decode cX9_greatestPart 25 = .ok (.iload_n 1, 1) := by decide +kernel
theorem dX9_greatestPart_26 : decode cX9_greatestPart 26 = .ok (.invokevirtual 43, 3) := by decide +kernel
theorem dX9_greatestPart_29 : decode cX9_greatestPart 29 = .ok (.istore_n 2, 1) := by decide +kernel
theorem dX9_greatestPart_30 : decode cX9_greatestPart 30 = .ok (.iconst 0, 1) := by decide +kernel
theorem dX9_greatestPart_31 : decode cX9_greatestPart 31 = .ok (.istore_n 3, 1) := by decide +kernel
theorem dX9_greatestPart_32 : decode cX9_greatestPart 32 = .ok (.iconst 0, 1) := by decide +kernel
theorem dX9_greatestPart_33 : decode cX9_greatestPart 33 = .ok (.istore 4, 2) := by decide +kernel
theorem dX9_greatestPart_35 : decode cX9_greatestPart 35 = .ok (.iload 4, 2) := by decide +kernel
theorem dX9_greatestPart_37 : decode cX9_greatestPart 37 = .ok (.aload_n 0, 1) := by decide +kernel
theorem dX9_greatestPart_38 : decode cX9_greatestPart 38 = .ok (.getfield 25, 3) := by decide +kernel
theorem dX9_greatestPart_41 : decode cX9_greatestPart 41 = .ok (.invokevirtual 37, 3) := by decide +kernel
theorem dX9_greatestPart_44 : decode cX9_greatestPart 44 = .ok (.if_icmp .ge 67, 3) := by decide +kernel
theorem dX9_greatestPart_47 : decode cX9_greatestPart 47 = .ok (.aload_n 0, 1) := by decide +kernel
theorem dX9_greatestPart_48 : decode cX9_greatestPart 48 = .ok (.getfield 25, 3) := by decide +kernel
theorem dX9_greatestPart_51 : decode cX9_greatestPart 51 = .ok (.iload 4, 2) := by decide +kernel
theorem dX9_greatestPart_53 : decode cX9_greatestPart 53 = .ok (.iload_n 2, 1) := by decide +kernel
theorem dX9_greatestPart_54 : decode cX9_greatestPart 54 = .ok (.iand, 1) := by decide +kernel
theorem dX9_greatestPart_55 : decode cX9_greatestPart 55 = .ok (.invokevirtual 49, 3) := by decide +kernel
theorem dX9_greatestPart_58 : decode cX9_greatestPart 58 = .ok (.istore 5, 2) := by decide +kernel
theorem dX9_greatestPart_60 : decode cX9_greatestPart 60 = .ok (.aload_n 0, 1) := by decide +kernel
theorem dX9_greatestPart_61 : decode cX9_greatestPart 61 = .ok (.getfield 18, 3) := by decide +kernel
theorem dX9_greatestPart_64 : decode cX9_greatestPart 64 = .ok (.iload 4, 2) := by decide +kernel
theorem dX9_greatestPart_66 : decode cX9_greatestPart 66 = .ok (.baload, 1) := by decide +kernel
theorem dX9_greatestPart_67 : decode cX9_greatestPart 67 = .ok (.ifCond .eq 38, 3) := by decide +kernel
theorem dX9_greatestPart_70 : decode cX9_greatestPart 70 = .ok (.iload 5, 2) := by decide +kernel
theorem dX9_greatestPart_72 : decode cX9_greatestPart 72 = .ok (.ifCond .lt 33, 3) := by decide +kernel
theorem dX9_greatestPart_75 : decode cX9_greatestPart 75 = .ok (.iload 5, 2) := by decide +kernel
theorem dX9_greatestPart_77 : decode cX9_greatestPart 77 = .ok (.bipush 64, 2) := by decide +kernel
theorem dX9_greatestPart_79 : decode cX9_greatestPart 79 = .ok (.if_icmp .ge 26, 3) := by decide +kernel
theorem dX9_greatestPart_82 : decode cX9_greatestPart 82 = .ok (.aload_n 0, 1) := by decide +kernel
theorem dX9_greatestPart_83 : decode cX9_greatestPart 83 = .ok (.getfield 22, 3) := by decide +kernel
theorem dX9_greatestPart_86 : decode cX9_greatestPart 86 = .ok (.iload 5, 2) := by decide +kernel
theorem dX9_greatestPart_88 : decode cX9_greatestPart 88 = .ok (.dup2, 1) := by decide +kernel
theorem dX9_greatestPart_89 : decode cX9_greatestPart 89 = .ok (.iaload, 1) := by decide +kernel
theorem dX9_greatestPart_90 : decode cX9_greatestPart 90 = .ok (.iconst 1, 1) := by decide +kernel
theorem dX9_greatestPart_91 : decode cX9_greatestPart 91 = .ok (.iadd, 1) := by decide +kernel
theorem dX9_greatestPart_92 : decode cX9_greatestPart 92 = .ok (.iastore, 1) := by decide +kernel
theorem dX9_greatestPart_93 : decode cX9_greatestPart 93 = .ok (.iload_n 3, 1) := by decide +kernel
theorem dX9_greatestPart_94 : decode cX9_greatestPart 94 = .ok (.aload_n 0, 1) := by decide +kernel
theorem dX9_greatestPart_95 : decode cX9_greatestPart 95 = .ok (.getfield 22, 3) := by decide +kernel
theorem dX9_greatestPart_98 : decode cX9_greatestPart 98 = .ok (.iload 5, 2) := by decide +kernel
theorem dX9_greatestPart_100 : decode cX9_greatestPart 100 = .ok (.iaload, 1) := by decide +kernel
theorem dX9_greatestPart_101 : decode cX9_greatestPart 101 = .ok (.invokestatic 60, 3) := by decide +kernel
theorem dX9_greatestPart_104 : decode cX9_greatestPart 104 = .ok (.istore_n 3, 1) := by decide +kernel
theorem dX9_greatestPart_105 : decode cX9_greatestPart 105 = .ok (.iinc 4 1, 3) := by decide +kernel
theorem dX9_greatestPart_108 : decode cX9_greatestPart 108 = .ok (.goto (-73), 3) := by decide +kernel
theorem dX9_greatestPart_111 : decode cX9_greatestPart 111 = .ok (.iload_n 3, 1) := by decide +kernel
theorem dX9_greatestPart_112 : decode cX9_greatestPart 112 = .ok (.ireturn, 1) := by decide +kernel
set_option maxHeartbeats 4000000 in
set_option maxRecDepth 20000 in
theorem en_X9_greatestPart {a1 : Int32} {M : jw_Mem} {Q : Int32 → jw_Mem → Prop}  (h : jw_J 2 mX9_greatestPart 2 [(0, vr 9 0), (1, vi a1), (2, vi 0)] [] M Q) : jw_M 2 mX9_greatestPart [vr 9 0, vi a1] M Q := by
  refine jw_M.of (by decide) (Nat.le_of_ble_eq_true rfl) ?_
  show jw_J 2 mX9_greatestPart 0 [(0, vr 9 0), (1, vi a1)] [] M Q
  refine jr_iconst (pc := 0) (v := 0) dX9_greatestPart_0 (by decide) ?_
  refine jr_istore_n (pc := 1) (lv' := [(2, vi 0), (0, vr 9 0), (1, vi a1)]) dX9_greatestPart_1 rfl (by decide) rfl ?_
  exact jr_sub [1, 2, 0] rfl h
set_option maxHeartbeats 4000000 in
set_option maxRecDepth 20000 in
theorem bk_X9_greatestPart_2 {v1 : Int32} {v2 : Int32} {M : jw_Mem} {Q : Int32 → jw_Mem → Prop}  (h : ((64 ≤ v2 → (jw_M 1 mX8_walkersUnder [vr 8 0, vi v1] M (fun x1 M2 => jw_J 2 mX9_greatestPart 35 [(0, vr 9 0), (2, vi x1), (3, vi 0), (4, vi 0)] [] M2 Q))) ∧ (¬ 64 ≤ v2 → (vp_in v2 64 ∧ (∀ M3 : jw_Mem, M3 = jw_up M 34 0 v2.toNatClampNeg 0 → jw_J 2 mX9_greatestPart 2 [(0, vr 9 0), (1, vi v1), (2, vi (v2 + 1))] [] M3 Q))))) : jw_J 2 mX9_greatestPart 2 [(0, vr 9 0), (1, vi v1), (2, vi v2)] [] M Q := by
  refine jr_iload_n (pc := 2) dX9_greatestPart_2 rfl 2 rfl ?_
  refine jr_bipush (pc := 3) (v := 64) dX9_greatestPart_3 (by decide) ?_
  refine jr_icmp_ge (pc := 5) (tgt := 21) dX9_greatestPart_5 (by decide) (fun c => ?_) (fun c => ?_)
  · replace h := h.1 c
    refine jr_aload_n (pc := 21) dX9_greatestPart_21 rfl 0 rfl ?_
    refine jr_get (pc := 22) (v := vr 8 0) fg_X9_29 (by decide) rfl dX9_greatestPart_22 ?_
    refine jr_iload_n (pc := 25) dX9_greatestPart_25 rfl 1 rfl ?_
    refine jr_callV (pc := 26) (d' := 1) (mt' := mX8_walkersUnder) (k := 8) (n := 0) (As := [vi v1]) (st := []) fc_X9_43 (by decide) (by decide) (Nat.le_of_ble_eq_true rfl) rfl dX9_greatestPart_26 (jw_M.mono h (fun x1 M2 h => ?_))
    show jw_J 2 mX9_greatestPart 29 [(0, vr 9 0), (1, vi v1), (2, vi v2)] [vi x1] M2 Q
    refine jr_istore_n (pc := 29) (lv' := [(2, vi x1), (0, vr 9 0), (1, vi v1)]) dX9_greatestPart_29 rfl (by decide) rfl ?_
    refine jr_iconst (pc := 30) (v := 0) dX9_greatestPart_30 (by decide) ?_
    refine jr_istore_n (pc := 31) (lv' := [(3, vi 0), (2, vi x1), (0, vr 9 0), (1, vi v1)]) dX9_greatestPart_31 rfl (by decide) rfl ?_
    refine jr_iconst (pc := 32) (v := 0) dX9_greatestPart_32 (by decide) ?_
    refine jr_istore (pc := 33) (lv' := [(4, vi 0), (3, vi 0), (2, vi x1), (0, vr 9 0), (1, vi v1)]) dX9_greatestPart_33 (by decide) rfl ?_
    exact jr_sub [3, 2, 1, 0] rfl h
  · replace h := h.2 c
    refine jr_aload_n (pc := 8) dX9_greatestPart_8 rfl 0 rfl ?_
    refine jr_get (pc := 9) (v := vr 34 0) fg_X9_22 (by decide) rfl dX9_greatestPart_9 ?_
    refine jr_iload_n (pc := 12) dX9_greatestPart_12 rfl 2 rfl ?_
    refine jr_iconst (pc := 13) (v := 0) dX9_greatestPart_13 (by decide) ?_
    refine jr_iast (pc := 14) ⟨rfl, (by decide)⟩ h.1 dX9_greatestPart_14 ?_
    replace h := h.2
    replace h := h _ rfl
    generalize jw_up M 34 0 v2.toNatClampNeg 0 = M3 at h ⊢
    refine jr_iinc (pc := 15) (lv' := [(2, vi (v2 + 1)), (0, vr 9 0), (1, vi v1)]) (q := 2) dX9_greatestPart_15 rfl (by rfl) (by decide) rfl ?_
    refine jr_goto (pc := 18) (tgt := 2) dX9_greatestPart_18 (by decide) ?_
    exact jr_sub [1, 2, 0] rfl h
set_option maxHeartbeats 4000000 in
set_option maxRecDepth 20000 in
theorem bk_X9_greatestPart_35 {v2 : Int32} {v3 : Int32} {v4 : Int32} {M : jw_Mem} {Q : Int32 → jw_Mem → Prop}  (h : (jw_M 0 mX1_setsOfWalkers [vr 1 0] M (fun x4 M5 => ((x4 ≤ v4 → Q v3 M5) ∧ (¬ x4 ≤ v4 → (jw_M 1 mX1_votesOf [vr 1 0, vi (v4 &&& v2)] M5 (fun x6 M7 => (vp_in v4 128 ∧ (((M7 33 0 v4.toNatClampNeg) = 0 → jw_J 2 mX9_greatestPart 35 [(0, vr 9 0), (2, vi v2), (3, vi v3), (4, vi (v4 + 1))] [] M7 Q) ∧ (¬ (M7 33 0 v4.toNatClampNeg) = 0 → ((x6 < 0 → jw_J 2 mX9_greatestPart 35 [(0, vr 9 0), (2, vi v2), (3, vi v3), (4, vi (v4 + 1))] [] M7 Q) ∧ (¬ x6 < 0 → ((64 ≤ x6 → jw_J 2 mX9_greatestPart 35 [(0, vr 9 0), (2, vi v2), (3, vi v3), (4, vi (v4 + 1))] [] M7 Q) ∧ (¬ 64 ≤ x6 → (vp_in x6 64 ∧ (vp_in x6 64 ∧ (∀ M8 : jw_Mem, M8 = jw_up M7 34 0 x6.toNatClampNeg ((M7 34 0 x6.toNatClampNeg) + 1) → (vp_in x6 64 ∧ jw_J 2 mX9_greatestPart 35 [(0, vr 9 0), (2, vi v2), (3, vi (if v3 < (M8 34 0 x6.toNatClampNeg) then (M8 34 0 x6.toNatClampNeg) else v3)), (4, vi (v4 + 1))] [] M8 Q)))))))))))))))))) : jw_J 2 mX9_greatestPart 35 [(0, vr 9 0), (2, vi v2), (3, vi v3), (4, vi v4)] [] M Q := by
  refine jr_iload (pc := 35) dX9_greatestPart_35 3 rfl ?_
  refine jr_aload_n (pc := 37) dX9_greatestPart_37 rfl 0 rfl ?_
  refine jr_get (pc := 38) (v := vr 1 0) fg_X9_25 (by decide) rfl dX9_greatestPart_38 ?_
  refine jr_callV (pc := 41) (d' := 0) (mt' := mX1_setsOfWalkers) (k := 1) (n := 0) (As := []) (st := [vi v4]) fc_X9_37 (by decide) (by decide) (Nat.le_of_ble_eq_true rfl) rfl dX9_greatestPart_41 (jw_M.mono h (fun x4 M5 h => ?_))
  show jw_J 2 mX9_greatestPart 44 [(0, vr 9 0), (2, vi v2), (3, vi v3), (4, vi v4)] [vi x4, vi v4] M5 Q
  refine jr_icmp_ge (pc := 44) (tgt := 111) dX9_greatestPart_44 (by decide) (fun c => ?_) (fun c => ?_)
  · replace h := h.1 c
    refine jr_iload_n (pc := 111) dX9_greatestPart_111 rfl 2 rfl ?_
    exact jr_iret (pc := 112) rfl dX9_greatestPart_112 h
  · replace h := h.2 c
    refine jr_aload_n (pc := 47) dX9_greatestPart_47 rfl 0 rfl ?_
    refine jr_get (pc := 48) (v := vr 1 0) fg_X9_25 (by decide) rfl dX9_greatestPart_48 ?_
    refine jr_iload (pc := 51) dX9_greatestPart_51 3 rfl ?_
    refine jr_iload_n (pc := 53) dX9_greatestPart_53 rfl 1 rfl ?_
    refine jr_iand (pc := 54) dX9_greatestPart_54 ?_
    refine jr_callV (pc := 55) (d' := 1) (mt' := mX1_votesOf) (k := 1) (n := 0) (As := [vi (v4 &&& v2)]) (st := []) fc_X9_49 (by decide) (by decide) (Nat.le_of_ble_eq_true rfl) rfl dX9_greatestPart_55 (jw_M.mono h (fun x6 M7 h => ?_))
    show jw_J 2 mX9_greatestPart 58 [(0, vr 9 0), (2, vi v2), (3, vi v3), (4, vi v4)] [vi x6] M7 Q
    refine jr_istore (pc := 58) (lv' := [(5, vi x6), (0, vr 9 0), (2, vi v2), (3, vi v3), (4, vi v4)]) dX9_greatestPart_58 (by decide) rfl ?_
    refine jr_aload_n (pc := 60) dX9_greatestPart_60 rfl 1 rfl ?_
    refine jr_get (pc := 61) (v := vr 33 0) fg_X9_18 (by decide) rfl dX9_greatestPart_61 ?_
    refine jr_iload (pc := 64) dX9_greatestPart_64 4 rfl ?_
    refine jr_zald (pc := 66) ⟨rfl, (by decide)⟩ h.1 dX9_greatestPart_66 ?_
    replace h := h.2
    refine jr_if_eq (pc := 67) (tgt := 105) dX9_greatestPart_67 (by decide) (fun c => ?_) (fun c => ?_)
    · replace h := h.1 c
      refine jr_iinc (pc := 105) (lv' := [(4, vi (v4 + 1)), (5, vi x6), (0, vr 9 0), (2, vi v2), (3, vi v3)]) (q := 4) dX9_greatestPart_105 rfl (by rfl) (by decide) rfl ?_
      refine jr_goto (pc := 108) (tgt := 35) dX9_greatestPart_108 (by decide) ?_
      exact jr_sub [2, 3, 4, 0] rfl h
    · replace h := h.2 c
      refine jr_iload (pc := 70) dX9_greatestPart_70 0 rfl ?_
      refine jr_if_lt (pc := 72) (tgt := 105) dX9_greatestPart_72 (by decide) (fun c => ?_) (fun c => ?_)
      · replace h := h.1 c
        refine jr_iinc (pc := 105) (lv' := [(4, vi (v4 + 1)), (5, vi x6), (0, vr 9 0), (2, vi v2), (3, vi v3)]) (q := 4) dX9_greatestPart_105 rfl (by rfl) (by decide) rfl ?_
        refine jr_goto (pc := 108) (tgt := 35) dX9_greatestPart_108 (by decide) ?_
        exact jr_sub [2, 3, 4, 0] rfl h
      · replace h := h.2 c
        refine jr_iload (pc := 75) dX9_greatestPart_75 0 rfl ?_
        refine jr_bipush (pc := 77) (v := 64) dX9_greatestPart_77 (by decide) ?_
        refine jr_icmp_ge (pc := 79) (tgt := 105) dX9_greatestPart_79 (by decide) (fun c => ?_) (fun c => ?_)
        · replace h := h.1 c
          refine jr_iinc (pc := 105) (lv' := [(4, vi (v4 + 1)), (5, vi x6), (0, vr 9 0), (2, vi v2), (3, vi v3)]) (q := 4) dX9_greatestPart_105 rfl (by rfl) (by decide) rfl ?_
          refine jr_goto (pc := 108) (tgt := 35) dX9_greatestPart_108 (by decide) ?_
          exact jr_sub [2, 3, 4, 0] rfl h
        · replace h := h.2 c
          refine jr_aload_n (pc := 82) dX9_greatestPart_82 rfl 1 rfl ?_
          refine jr_get (pc := 83) (v := vr 34 0) fg_X9_22 (by decide) rfl dX9_greatestPart_83 ?_
          refine jr_iload (pc := 86) dX9_greatestPart_86 0 rfl ?_
          refine jr_dup2 (pc := 88) dX9_greatestPart_88 ?_
          refine jr_iald (pc := 89) ⟨rfl, (by decide)⟩ h.1 dX9_greatestPart_89 ?_
          replace h := h.2
          refine jr_iconst (pc := 90) (v := 1) dX9_greatestPart_90 (by decide) ?_
          refine jr_iadd (pc := 91) dX9_greatestPart_91 ?_
          refine jr_iast (pc := 92) ⟨rfl, (by decide)⟩ h.1 dX9_greatestPart_92 ?_
          replace h := h.2
          replace h := h _ rfl
          generalize jw_up M7 34 0 x6.toNatClampNeg ((M7 34 0 x6.toNatClampNeg) + 1) = M8 at h ⊢
          refine jr_iload_n (pc := 93) dX9_greatestPart_93 rfl 3 rfl ?_
          refine jr_aload_n (pc := 94) dX9_greatestPart_94 rfl 1 rfl ?_
          refine jr_get (pc := 95) (v := vr 34 0) fg_X9_22 (by decide) rfl dX9_greatestPart_95 ?_
          refine jr_iload (pc := 98) dX9_greatestPart_98 0 rfl ?_
          refine jr_iald (pc := 100) ⟨rfl, (by decide)⟩ h.1 dX9_greatestPart_100 ?_
          replace h := h.2
          refine jr_mmax (pc := 101) fc_X9_60 (Nat.le_of_ble_eq_true rfl) (by decide) dX9_greatestPart_101 ?_
          refine jr_istore_n (pc := 104) (lv' := [(3, vi (if v3 < (M8 34 0 x6.toNatClampNeg) then (M8 34 0 x6.toNatClampNeg) else v3)), (5, vi x6), (0, vr 9 0), (2, vi v2), (4, vi v4)]) dX9_greatestPart_104 rfl (by decide) rfl ?_
          refine jr_iinc (pc := 105) (lv' := [(4, vi (v4 + 1)), (3, vi (if v3 < (M8 34 0 x6.toNatClampNeg) then (M8 34 0 x6.toNatClampNeg) else v3)), (5, vi x6), (0, vr 9 0), (2, vi v2)]) (q := 4) dX9_greatestPart_105 rfl (by rfl) (by decide) rfl ?_
          refine jr_goto (pc := 108) (tgt := 35) dX9_greatestPart_108 (by decide) ?_
          exact jr_sub [3, 4, 1, 0] rfl h
