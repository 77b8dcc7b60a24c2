theorem dX5_placeAll_0 : decode cX5_placeAll 0 = .ok (.iconst 0, 1) := by decide +kernel
theorem dX5_placeAll_1 : decode cX5_placeAll 1 = .ok (.istore_n 1, 1) := by decide +kernel
theorem dX5_placeAll_2 : decode cX5_placeAll 2 = .ok (.iload_n 1, 1) := by decide +kernel
theorem dX5_placeAll_3 : decode cX5_placeAll 3 = .ok (.bipush 32, 2) := by decide +kernel
theorem dX5_placeAll_5 : decode cX5_placeAll 5 = .ok (.if_icmp .ge 24, 3) := by decide +kernel
theorem dX5_placeAll_8 : decode cX5_placeAll 8 = .ok (.aload_n 0, 1) := by decide +kernel
theorem dX5_placeAll_9 : decode cX5_placeAll 9 = .ok (.getfield 13, 3) := by decide +kernel
theorem dX5_placeAll_12 : decode cX5_placeAll 12 = .ok (.aload_n 0, 1) := by decide +kernel
theorem dX5_placeAll_13 : decode cX5_placeAll 13 = .ok (.getfield 20, 3) := by decide +kernel
theorem dX5_placeAll_16 : decode cX5_placeAll 16 = .ok (.getfield 28, 3) := by decide +kernel
theorem dX5_placeAll_19 : decode cX5_placeAll 19 = .ok (.aaload, 1) := by decide +kernel
theorem dX5_placeAll_20 : decode cX5_placeAll 20 = .ok (.iload_n 1, 1) := by decide +kernel
theorem dX5_placeAll_21 : decode cX5_placeAll 21 = .ok (.iconst 0, 1) := by decide +kernel
theorem dX5_placeAll_22 : decode cX5_placeAll 22 = .ok (.iastore, 1) := by decide +kernel
theorem dX5_placeAll_23 : decode cX5_placeAll 23 = .ok (.iinc 1 1, 3) := by decide +kernel
theorem dX5_placeAll_26 : decode cX5_placeAll 26 = .ok (.goto (-24), 3) := by decide +kernel
theorem dX5_placeAll_29 : decode cX5_placeAll 29 = .ok (.aload_n 0, 1) := by decide +kernel
theorem dX5_placeAll_30 : decode cX5_placeAll 30 = .ok (.getfield 20, 3) := by decide +kernel
theorem dX5_placeAll_33 : decode cX5_placeAll 33 = .ok (.getfield 28, 3) := by decide +kernel
theorem dX5_placeAll_36 : decode cX5_placeAll 36 = .ok (.iconst 1, 1) := by decide +kernel
theorem dX5_placeAll_37 : decode cX5_placeAll 37 = .ok (.isub, 1) := by decide +kernel
theorem dX5_placeAll_38 : decode cX5_placeAll 38 = .ok (.istore_n 1, 1) := by decide +kernel
theorem dX5_placeAll_39 : decode cX5_placeAll 39 = .ok (.iload_n 1, 1) := by decide +kernel
theorem dX5_placeAll_40 : decode cX5_placeAll 40 = .ok (.ifCond .lt 37, 3) := by decide +kernel
theorem dX5_placeAll_43 : decode cX5_placeAll 43 = .ok (.iconst 0, 1) := by decide +kernel
theorem dX5_placeAll_44 : decode cX5_placeAll 44 = .ok (.istore_n 2, 1) := by decide +kernel
theorem dX5_placeAll_45 : decode cX5_placeAll 45 = .ok (.iload_n 2, 1) := by decide +kernel
theorem dX5_placeAll_46 : decode cX5_placeAll 46 = .ok (.bipush 32, 2) := by decide +kernel
theorem dX5_placeAll_48 : decode cX5_placeAll 48 = .ok (.if_icmp .ge 23, 3) := by decide +kernel
theorem dX5_placeAll_51 : decode cX5_placeAll 51 = .ok (.aload_n 0, 1) := by decide +kernel
theorem dX5_placeAll_52 : decode cX5_placeAll 52 = .ok (.getfield 13, 3) := by decide +kernel
theorem dX5_placeAll_55 : decode cX5_placeAll 55 = .ok (.iload_n 1, 1) := by decide +kernel
theorem dX5_placeAll_56 : decode cX5_placeAll 56 = .ok (.aaload, 1) := by decide +kernel
theorem dX5_placeAll_57 : decode cX5_placeAll 57 = .ok (.iload_n 2, 1) := by decide +kernel
theorem dX5_placeAll_58 : decode cX5_placeAll 58 = .ok (.aload_n 0, 1) := by decide +kernel
theorem dX5_placeAll_59 : decode cX5_placeAll 59 = .ok (.iload_n 1, 1) := by decide +kernel
theorem dX5_placeAll_60 : decode cX5_placeAll 60 = .ok (.iload_n 2, 1) := by decide +kernel
theorem dX5_placeAll_61 : decode cX5_placeAll 61 = .ok (.invokevirtual 34, 3) := by decide +kernel
theorem dX5_placeAll_64 : decode cX5_placeAll 64 = .ok (.iastore, 1) := by decide +kernel
theorem dX5_placeAll_65 : decode cX5_placeAll 65 = .ok (.iinc 2 1, 3) := by decide +kernel
theorem dX5_placeAll_68 : decode cX5_placeAll 68 = .ok (.goto (-23), 3) := by decide +kernel
theorem dX5_placeAll_71 : decode cX5_placeAll 71 = .ok (.iinc 1 (-1), 3) := by decide +kernel
theorem dX5_placeAll_74 : decode cX5_placeAll 74 = .ok (.goto (-35), 3) := by decide +kernel
theorem dX5_placeAll_77 : decode cX5_placeAll 77 = .ok (.iconst 1, 1) := by decide +kernel
theorem dX5_placeAll_78 : decode cX5_placeAll 78 = .ok (.aload_n 0, 1) := by decide +kernel
theorem dX5_placeAll_79 : decode cX5_placeAll 79 = .ok (.getfield 20, 3) := by decide +kernel
theorem dX5_placeAll_82 : decode cX5_placeAll 82 = .ok (.getfield 38, 3) := by decide +kernel
theorem dX5_placeAll_85 : decode cX5_placeAll 85 = .ok (.ishl, 1) := by decide +kernel
theorem dX5_placeAll_86 : decode cX5_placeAll 86 = .ok (.iconst 1, 1) := by decide +kernel
theorem dX5_placeAll_87 : decode cX5_placeAll 87 = .ok (.isub, 1) := by decide +kernel
theorem dX5_placeAll_88 : decode cX5_placeAll 88 = .ok (.istore_n 1, 1) := by decide +kernel
theorem dX5_placeAll_89 : decode cX5_placeAll 89 = .ok (.iconst 0, 1) := by decide +kernel
theorem dX5_placeAll_90 : decode cX5_placeAll 90 = .ok (.istore_n 2, 1) := by decide +kernel
theorem dX5_placeAll_91 : decode cX5_placeAll 91 = .ok (.iload_n 2, 1) := by decide +kernel
theorem dX5_placeAll_92 : decode cX5_placeAll 92 = .ok (.aload_n 0, 1) := by decide +kernel
theorem dX5_placeAll_93 : decode cX5_placeAll 93 = .ok (.getfield 20, 3) := by decide +kernel
theorem dX5_placeAll_96 : decode cX5_placeAll 96 = .ok (.getfield 28, 3) := by decide +kernel
theorem dX5_placeAll_99 : decode cX5_placeAll 99 = .ok (.if_icmp .ge 32, 3) := by decide +kernel
theorem dX5_placeAll_102 : decode cX5_placeAll 102 = .ok (.aload_n 0, 1) := by decide +kernel
theorem dX5_placeAll_103 : decode cX5_placeAll 103 = .ok (.getfield 16, 3) := by decide +kernel
theorem dX5_placeAll_106 : decode cX5_placeAll 106 = .ok (.iload_n 2, 1) := by decide +kernel
theorem dX5_placeAll_107 : decode cX5_placeAll 107 = .ok (.aload_n 0, 1) := by decide +kernel
theorem dX5_placeAll_108 : decode cX5_placeAll 108 = .ok (.iload_n 2, 1) := by decide +kernel
theorem dX5_placeAll_109 : decode cX5_placeAll 109 = .ok (.iload_n 1, 1) := by decide +kernel
theorem dX5_placeAll_110 : decode cX5_placeAll 110 = .ok (.invokevirtual 41, 3) := by decide +kernel
theorem dX5_placeAll_113 : decode cX5_placeAll 113 = .ok (.iastore, 1) := by decide +kernel
theorem dX5_placeAll_114 : decode cX5_placeAll 114 = .ok (.iload_n 1, 1) := by decide +kernel
theorem dX5_placeAll_115 : decode cX5_placeAll 115 = .ok (.aload_n 0, 1) := by decide +kernel
theorem dX5_placeAll_116 : decode cX5_placeAll 116 = .ok (.getfield 16, 3) := by decide +kernel
theorem dX5_placeAll_119 : decode cX5_placeAll 119 = .ok (.iload_n 2, 1) := by decide +kernel
theorem dX5_placeAll_120 : decode cX5_placeAll 120 = .ok (.iaload, 1) := by decide +kernel
theorem dX5_placeAll_121 : decode cX5_placeAll 121 = .ok (.invokestatic 44, 3) := by decide +kernel
theorem dX5_placeAll_124 : decode cX5_placeAll 124 = .ok (.istore_n 1, 1) := by decide +kernel
theorem dX5_placeAll_125 : decode cX5_placeAll 125 = .ok (.iinc 2 1, 3) := by decide +kernel
theorem dX5_placeAll_128 : decode cX5_placeAll 128 = .ok (.goto (-37), 3) := by decide +kernel
theorem dX5_placeAll_131 : decode cX5_placeAll 131 = .ok (.return_, 1) := by decide +kernel
set_option maxHeartbeats 4000000 in
set_option maxRecDepth 20000 in
theorem en_X5_placeAll {M : jw_Mem} {Q : Int32 → jw_Mem → Prop}  (h : jw_J 4 mX5_placeAll 2 [(0, vr 5 0), (1, vi 0)] [] M Q) : jw_M 4 mX5_placeAll [vr 5 0] M Q := by
  refine jw_M.of (by decide) (Nat.le_of_ble_eq_true rfl) ?_
  show jw_J 4 mX5_placeAll 0 [(0, vr 5 0)] [] M Q
  refine jr_iconst (pc := 0) (v := 0) dX5_placeAll_0 (by decide) ?_
  refine jr_istore_n (pc := 1) (lv' := [(1, vi 0), (0, vr 5 0)]) dX5_placeAll_1 rfl (by decide) rfl ?_
  exact jr_sub [1, 0] rfl h
set_option maxHeartbeats 4000000 in
set_option maxRecDepth 20000 in
theorem bk_X5_placeAll_2 {v1 : Int32} {M : jw_Mem} {Q : Int32 → jw_Mem → Prop}  (h : ((32 ≤ v1 → jw_J 4 mX5_placeAll 39 [(0, vr 5 0), (1, vi ((M 1 0 2) - 1))] [] M Q) ∧ (¬ 32 ≤ v1 → (vp_in (M 1 0 2) 7 ∧ (∀ q1 : Nat, q1 = ((M 1 0 2) : Int32).toNatClampNeg → q1 < 7 → (vp_in v1 32 ∧ (∀ M2 : jw_Mem, M2 = jw_up M 24 q1 v1.toNatClampNeg 0 → jw_J 4 mX5_placeAll 2 [(0, vr 5 0), (1, vi (v1 + 1))] [] M2 Q))))))) : jw_J 4 mX5_placeAll 2 [(0, vr 5 0), (1, vi v1)] [] M Q := by
  refine jr_iload_n (pc := 2) dX5_placeAll_2 rfl 1 rfl ?_
  refine jr_bipush (pc := 3) (v := 32) dX5_placeAll_3 (by decide) ?_
  refine jr_icmp_ge (pc := 5) (tgt := 29) dX5_placeAll_5 (by decide) (fun c => ?_) (fun c => ?_)
  · replace h := h.1 c
    refine jr_aload_n (pc := 29) dX5_placeAll_29 rfl 0 rfl ?_
    refine jr_get (pc := 30) (v := vr 1 0) fg_X5_20 (by decide) rfl dX5_placeAll_30 ?_
    refine jr_get (pc := 33) (v := vi (M 1 0 2)) fg_X5_28 (by decide) rfl dX5_placeAll_33 ?_
    refine jr_iconst (pc := 36) (v := 1) dX5_placeAll_36 (by decide) ?_
    refine jr_isub (pc := 37) dX5_placeAll_37 ?_
    refine jr_istore_n (pc := 38) (lv' := [(1, vi ((M 1 0 2) - 1)), (0, vr 5 0)]) dX5_placeAll_38 rfl (by decide) rfl ?_
    exact jr_sub [1, 0] rfl h
  · replace h := h.2 c
    refine jr_aload_n (pc := 8) dX5_placeAll_8 rfl 0 rfl ?_
    refine jr_get (pc := 9) (v := vr 22 0) fg_X5_13 (by decide) rfl dX5_placeAll_9 ?_
    refine jr_aload_n (pc := 12) dX5_placeAll_12 rfl 0 rfl ?_
    refine jr_get (pc := 13) (v := vr 1 0) fg_X5_20 (by decide) rfl dX5_placeAll_13 ?_
    refine jr_get (pc := 16) (v := vi (M 1 0 2)) fg_X5_28 (by decide) rfl dX5_placeAll_16 ?_
    refine jr_wrth (pc := 19) (by decide) h.1 dX5_placeAll_19 ?_
    have hb_q1 : ((M 1 0 2) : Int32).toNatClampNeg < 7 := Nat.not_le.mp fun z => h.1 (Or.inr z)
    replace h := h.2 _ rfl hb_q1
    generalize hq_q1 : ((M 1 0 2) : Int32).toNatClampNeg = q1 at h hb_q1 ⊢
    refine jr_iload_n (pc := 20) dX5_placeAll_20 rfl 1 rfl ?_
    refine jr_iconst (pc := 21) (v := 0) dX5_placeAll_21 (by decide) ?_
    refine jr_iast (pc := 22) ⟨rfl, (by show q1 < 7; omega)⟩ h.1 dX5_placeAll_22 ?_
    replace h := h.2
    replace h := h _ rfl
    generalize jw_up M 24 q1 v1.toNatClampNeg 0 = M2 at h ⊢
    refine jr_iinc (pc := 23) (lv' := [(1, vi (v1 + 1)), (0, vr 5 0)]) (q := 1) dX5_placeAll_23 rfl (by rfl) (by decide) rfl ?_
    refine jr_goto (pc := 26) (tgt := 2) dX5_placeAll_26 (by decide) ?_
    exact jr_sub [1, 0] rfl h
set_option maxHeartbeats 4000000 in
set_option maxRecDepth 20000 in
theorem bk_X5_placeAll_39 {v1 : Int32} {M : jw_Mem} {Q : Int32 → jw_Mem → Prop}  (h : ((v1 < 0 → jw_J 4 mX5_placeAll 91 [(0, vr 5 0), (1, vi (((1 : Int32) <<< ((M 1 0 1) &&& 31)) - 1)), (2, vi 0)] [] M Q) ∧ (¬ v1 < 0 → jw_J 4 mX5_placeAll 45 [(0, vr 5 0), (1, vi v1), (2, vi 0)] [] M Q))) : jw_J 4 mX5_placeAll 39 [(0, vr 5 0), (1, vi v1)] [] M Q := by
  refine jr_iload_n (pc := 39) dX5_placeAll_39 rfl 1 rfl ?_
  refine jr_if_lt (pc := 40) (tgt := 77) dX5_placeAll_40 (by decide) (fun c => ?_) (fun c => ?_)
  · replace h := h.1 c
    refine jr_iconst (pc := 77) (v := 1) dX5_placeAll_77 (by decide) ?_
    refine jr_aload_n (pc := 78) dX5_placeAll_78 rfl 0 rfl ?_
    refine jr_get (pc := 79) (v := vr 1 0) fg_X5_20 (by decide) rfl dX5_placeAll_79 ?_
    refine jr_get (pc := 82) (v := vi (M 1 0 1)) fg_X5_38 (by decide) rfl dX5_placeAll_82 ?_
    refine jr_ishl (pc := 85) dX5_placeAll_85 ?_
    refine jr_iconst (pc := 86) (v := 1) dX5_placeAll_86 (by decide) ?_
    refine jr_isub (pc := 87) dX5_placeAll_87 ?_
    refine jr_istore_n (pc := 88) (lv' := [(1, vi (((1 : Int32) <<< ((M 1 0 1) &&& 31)) - 1)), (0, vr 5 0)]) dX5_placeAll_88 rfl (by decide) rfl ?_
    refine jr_iconst (pc := 89) (v := 0) dX5_placeAll_89 (by decide) ?_
    refine jr_istore_n (pc := 90) (lv' := [(2, vi 0), (1, vi (((1 : Int32) <<< ((M 1 0 1) &&& 31)) - 1)), (0, vr 5 0)]) dX5_placeAll_90 rfl (by decide) rfl ?_
    exact jr_sub [2, 1, 0] rfl h
  · replace h := h.2 c
    refine jr_iconst (pc := 43) (v := 0) dX5_placeAll_43 (by decide) ?_
    refine jr_istore_n (pc := 44) (lv' := [(2, vi 0), (0, vr 5 0), (1, vi v1)]) dX5_placeAll_44 rfl (by decide) rfl ?_
    exact jr_sub [1, 2, 0] rfl h
set_option maxHeartbeats 4000000 in
set_option maxRecDepth 20000 in
theorem bk_X5_placeAll_91 {v1 : Int32} {v2 : Int32} {M : jw_Mem} {Q : Int32 → jw_Mem → Prop}  (h : (((M 1 0 2) ≤ v2 → Q 0 M) ∧ (¬ (M 1 0 2) ≤ v2 → (jw_M 3 mX5_firstBest [vr 5 0, vi v2, vi v1] M (fun x3 M4 => (vp_in v2 6 ∧ (∀ M5 : jw_Mem, M5 = jw_up M4 23 0 v2.toNatClampNeg x3 → (vp_in v2 6 ∧ (jw_M 0 mX5_without [vi v1, vi (M5 23 0 v2.toNatClampNeg)] M5 (fun x6 M7 => jw_J 4 mX5_placeAll 91 [(0, vr 5 0), (1, vi x6), (2, vi (v2 + 1))] [] M7 Q)))))))))) : jw_J 4 mX5_placeAll 91 [(0, vr 5 0), (1, vi v1), (2, vi v2)] [] M Q := by
  refine jr_iload_n (pc := 91) dX5_placeAll_91 rfl 2 rfl ?_
  refine jr_aload_n (pc := 92) dX5_placeAll_92 rfl 0 rfl ?_
  refine jr_get (pc := 93) (v := vr 1 0) fg_X5_20 (by decide) rfl dX5_placeAll_93 ?_
  refine jr_get (pc := 96) (v := vi (M 1 0 2)) fg_X5_28 (by decide) rfl dX5_placeAll_96 ?_
  refine jr_icmp_ge (pc := 99) (tgt := 131) dX5_placeAll_99 (by decide) (fun c => ?_) (fun c => ?_)
  · replace h := h.1 c
    exact jr_vret (pc := 131) rfl dX5_placeAll_131 h
  · replace h := h.2 c
    refine jr_aload_n (pc := 102) dX5_placeAll_102 rfl 0 rfl ?_
    refine jr_get (pc := 103) (v := vr 23 0) fg_X5_16 (by decide) rfl dX5_placeAll_103 ?_
    refine jr_iload_n (pc := 106) dX5_placeAll_106 rfl 2 rfl ?_
    refine jr_aload_n (pc := 107) dX5_placeAll_107 rfl 0 rfl ?_
    refine jr_iload_n (pc := 108) dX5_placeAll_108 rfl 2 rfl ?_
    refine jr_iload_n (pc := 109) dX5_placeAll_109 rfl 1 rfl ?_
    refine jr_callV (pc := 110) (d' := 3) (mt' := mX5_firstBest) (k := 5) (n := 0) (As := [vi v2, vi v1]) (st := [vi v2, vr 23 0]) fc_X5_41 (by decide) (by decide) (Nat.le_of_ble_eq_true rfl) rfl dX5_placeAll_110 (jw_M.mono h (fun x3 M4 h => ?_))
    show jw_J 4 mX5_placeAll 113 [(0, vr 5 0), (1, vi v1), (2, vi v2)] [vi x3, vi v2, vr 23 0] M4 Q
    refine jr_iast (pc := 113) ⟨rfl, (by decide)⟩ h.1 dX5_placeAll_113 ?_
    replace h := h.2
    replace h := h _ rfl
    generalize jw_up M4 23 0 v2.toNatClampNeg x3 = M5 at h ⊢
    refine jr_iload_n (pc := 114) dX5_placeAll_114 rfl 1 rfl ?_
    refine jr_aload_n (pc := 115) dX5_placeAll_115 rfl 0 rfl ?_
    refine jr_get (pc := 116) (v := vr 23 0) fg_X5_16 (by decide) rfl dX5_placeAll_116 ?_
    refine jr_iload_n (pc := 119) dX5_placeAll_119 rfl 2 rfl ?_
    refine jr_iald (pc := 120) ⟨rfl, (by decide)⟩ h.1 dX5_placeAll_120 ?_
    replace h := h.2
    refine jr_callS (pc := 121) (d' := 0) (mt' := mX5_without) (As := [vi v1, vi (M5 23 0 v2.toNatClampNeg)]) (st := []) fc_X5_44 (by decide) (Nat.le_of_ble_eq_true rfl) rfl dX5_placeAll_121 (jw_M.mono h (fun x6 M7 h => ?_))
    show jw_J 4 mX5_placeAll 124 [(0, vr 5 0), (1, vi v1), (2, vi v2)] [vi x6] M7 Q
    refine jr_istore_n (pc := 124) (lv' := [(1, vi x6), (0, vr 5 0), (2, vi v2)]) dX5_placeAll_124 rfl (by decide) rfl ?_
    refine jr_iinc (pc := 125) (lv' := [(2, vi (v2 + 1)), (1, vi x6), (0, vr 5 0)]) (q := 2) dX5_placeAll_125 rfl (by rfl) (by decide) rfl ?_
    refine jr_goto (pc := 128) (tgt := 91) dX5_placeAll_128 (by decide) ?_
    exact jr_sub [2, 1, 0] rfl h
set_option maxHeartbeats 4000000 in
set_option maxRecDepth 20000 in
theorem bk_X5_placeAll_45 {v1 : Int32} {v2 : Int32} {M : jw_Mem} {Q : Int32 → jw_Mem → Prop}  (h : ((32 ≤ v2 → jw_J 4 mX5_placeAll 39 [(0, vr 5 0), (1, vi (v1 + (-1)))] [] M Q) ∧ (¬ 32 ≤ v2 → (vp_in v1 7 ∧ (∀ q8 : Nat, q8 = v1.toNatClampNeg → q8 < 7 → (jw_M 3 mX5_bestWorth [vr 5 0, vi v1, vi v2] M (fun x9 M10 => (vp_in v2 32 ∧ (∀ M11 : jw_Mem, M11 = jw_up M10 24 q8 v2.toNatClampNeg x9 → jw_J 4 mX5_placeAll 45 [(0, vr 5 0), (1, vi v1), (2, vi (v2 + 1))] [] M11 Q))))))))) : jw_J 4 mX5_placeAll 45 [(0, vr 5 0), (1, vi v1), (2, vi v2)] [] M Q := by
  refine jr_iload_n (pc := 45) dX5_placeAll_45 rfl 2 rfl ?_
  refine jr_bipush (pc := 46) (v := 32) dX5_placeAll_46 (by decide) ?_
  refine jr_icmp_ge (pc := 48) (tgt := 71) dX5_placeAll_48 (by decide) (fun c => ?_) (fun c => ?_)
  · replace h := h.1 c
    refine jr_iinc (pc := 71) (lv' := [(1, vi (v1 + (-1))), (0, vr 5 0), (2, vi v2)]) (q := 1) dX5_placeAll_71 rfl (by rfl) (by decide) rfl ?_
    refine jr_goto (pc := 74) (tgt := 39) dX5_placeAll_74 (by decide) ?_
    exact jr_sub [1, 0] rfl h
  · replace h := h.2 c
    refine jr_aload_n (pc := 51) dX5_placeAll_51 rfl 0 rfl ?_
    refine jr_get (pc := 52) (v := vr 22 0) fg_X5_13 (by decide) rfl dX5_placeAll_52 ?_
    refine jr_iload_n (pc := 55) dX5_placeAll_55 rfl 1 rfl ?_
    refine jr_wrth (pc := 56) (by decide) h.1 dX5_placeAll_56 ?_
    have hb_q8 : v1.toNatClampNeg < 7 := Nat.not_le.mp fun z => h.1 (Or.inr z)
    replace h := h.2 _ rfl hb_q8
    generalize hq_q8 : v1.toNatClampNeg = q8 at h hb_q8 ⊢
    refine jr_iload_n (pc := 57) dX5_placeAll_57 rfl 2 rfl ?_
    refine jr_aload_n (pc := 58) dX5_placeAll_58 rfl 0 rfl ?_
    refine jr_iload_n (pc := 59) dX5_placeAll_59 rfl 1 rfl ?_
    refine jr_iload_n (pc := 60) dX5_placeAll_60 rfl 2 rfl ?_
    refine jr_callV (pc := 61) (d' := 3) (mt' := mX5_bestWorth) (k := 5) (n := 0) (As := [vi v1, vi v2]) (st := [vi v2, vr 24 q8]) fc_X5_34 (by decide) (by decide) (Nat.le_of_ble_eq_true rfl) rfl dX5_placeAll_61 (jw_M.mono h (fun x9 M10 h => ?_))
    show jw_J 4 mX5_placeAll 64 [(0, vr 5 0), (1, vi v1), (2, vi v2)] [vi x9, vi v2, vr 24 q8] M10 Q
    refine jr_iast (pc := 64) ⟨rfl, (by show q8 < 7; omega)⟩ h.1 dX5_placeAll_64 ?_
    replace h := h.2
    replace h := h _ rfl
    generalize jw_up M10 24 q8 v2.toNatClampNeg x9 = M11 at h ⊢
    refine jr_iinc (pc := 65) (lv' := [(2, vi (v2 + 1)), (0, vr 5 0), (1, vi v1)]) (q := 2) dX5_placeAll_65 rfl (by rfl) (by decide) rfl ?_
    refine jr_goto (pc := 68) (tgt := 45) dX5_placeAll_68 (by decide) ?_
    exact jr_sub [1, 2, 0] rfl h
theorem dX5_placed_0 : decode cX5_placed 0 = .ok (.aload_n 0, 1) := by decide +kernel
theorem dX5_placed_1 : decode cX5_placed 1 = .ok (.invokevirtual 47, 3) := by decide +kernel
theorem dX5_placed_4 : decode cX5_placed 4 = .ok (.sipush 1000, 3) := by decide +kernel
theorem dX5_placed_7 : decode cX5_placed 7 = .ok (.idiv, 1) := by decide +kernel
theorem dX5_placed_8 : decode cX5_placed 8 = .ok (.ireturn, 1) := by decide +kernel
set_option maxHeartbeats 4000000 in
set_option maxRecDepth 20000 in
theorem en_X5_placed {M : jw_Mem} {Q : Int32 → jw_Mem → Prop}  (h : (jw_M 0 mX5_bestOfAll [vr 5 0] M (fun x1 M2 => Q (x1 / 1000) M2))) : jw_M 1 mX5_placed [vr 5 0] M Q := by
  refine jw_M.of (by decide) (Nat.le_of_ble_eq_true rfl) ?_
  show jw_J 1 mX5_placed 0 [(0, vr 5 0)] [] M Q
  refine jr_aload_n (pc := 0) dX5_placed_0 rfl 0 rfl ?_
  refine jr_callV (pc := 1) (d' := 0) (mt' := mX5_bestOfAll) (k := 5) (n := 0) (As := []) (st := []) fc_X5_47 (by decide) (by decide) (Nat.le_of_ble_eq_true rfl) rfl dX5_placed_1 (jw_M.mono h (fun x1 M2 h => ?_))
  show jw_J 1 mX5_placed 4 [(0, vr 5 0)] [vi x1] M2 Q
  refine jr_sipush (pc := 4) (v := 1000) dX5_placed_4 (by decide) ?_
  refine jr_idiv (pc := 7) dX5_placed_7 (by decide) ?_
  exact jr_iret (pc := 8) rfl dX5_placed_8 h
theorem dX5_viewTogether_0 : decode cX5_viewTogether 0 = .ok (.aload_n 0, 1) := by decide +kernel
theorem dX5_viewTogether_1 : decode cX5_viewTogether 1 = .ok (.invokevirtual 47, 3) := by decide +kernel
theorem dX5_viewTogether_4 : decode cX5_viewTogether 4 = .ok (.sipush 1000, 3) := by decide +kernel
theorem dX5_viewTogether_7 : decode cX5_viewTogether 7 = .ok (.irem, 1) := by decide +kernel
theorem dX5_viewTogether_8 : decode cX5_viewTogether 8 = .ok (.ireturn, 1) := by decide +kernel
set_option maxHeartbeats 4000000 in
set_option maxRecDepth 20000 in
theorem en_X5_viewTogether {M : jw_Mem} {Q : Int32 → jw_Mem → Prop}  (h : (jw_M 0 mX5_bestOfAll [vr 5 0] M (fun x1 M2 => Q (x1 - x1 / 1000 * 1000) M2))) : jw_M 1 mX5_viewTogether [vr 5 0] M Q := by
  refine jw_M.of (by decide) (Nat.le_of_ble_eq_true rfl) ?_
  show jw_J 1 mX5_viewTogether 0 [(0, vr 5 0)] [] M Q
  refine jr_aload_n (pc := 0) dX5_viewTogether_0 rfl 0 rfl ?_
  refine jr_callV (pc := 1) (d' := 0) (mt' := mX5_bestOfAll) (k := 5) (n := 0) (As := []) (st := []) fc_X5_47 (by decide) (by decide) (Nat.le_of_ble_eq_true rfl) rfl dX5_viewTogether_1 (jw_M.mono h (fun x1 M2 h => ?_))
  show jw_J 1 mX5_viewTogether 4 [(0, vr 5 0)] [vi x1] M2 Q
  refine jr_sipush (pc := 4) (v := 1000) dX5_viewTogether_4 (by decide) ?_
  refine jr_irem (pc := 7) dX5_viewTogether_7 (by decide) ?_
  exact jr_iret (pc := 8) rfl dX5_viewTogether_8 h
theorem dX5_bestOfAll_0 : decode cX5_bestOfAll 0 = .ok (.aload_n 0, 1) := by decide +kernel
theorem dX5_bestOfAll_1 : decode cX5_bestOfAll 1 = .ok (.getfield 13, 3) := by decide +kernel
theorem dX5_bestOfAll_4 : decode cX5_bestOfAll 4 = .ok (.iconst 0, 1) := by decide +kernel
theorem dX5_bestOfAll_5 : decode cX5_bestOfAll 5 = .ok (.aaload, 1) := by decide +kernel
theorem dX5_bestOfAll_6 : decode cX5_bestOfAll 6 = .ok (.iconst 1, 1) := by decide +kernel
theorem dX5_bestOfAll_7 : decode cX5_bestOfAll 7 = .ok (.aload_n 0, 1) := by decide +kernel
theorem dX5_bestOfAll_8 : decode cX5_bestOfAll 8 = .ok (.getfield 20, 3) := by decide +kernel
theorem dX5_bestOfAll_11 : decode cX5_bestOfAll 11 = .ok (.getfield 38, 3) := by decide +kernel
theorem dX5_bestOfAll_14 : decode cX5_bestOfAll 14 = .ok (.ishl, 1) := by decide +kernel
theorem dX5_bestOfAll_15 : decode cX5_bestOfAll 15 = .ok (.iconst 1, 1) := by decide +kernel
theorem dX5_bestOfAll_16 : decode cX5_bestOfAll 16 = .ok (.isub, 1) := by decide +kernel
theorem dX5_bestOfAll_17 : decode cX5_bestOfAll 17 = .ok (.iaload, 1) := by decide +kernel
theorem dX5_bestOfAll_18 : decode cX5_bestOfAll 18 = .ok (.ireturn, 1) := by decide +kernel
set_option maxHeartbeats 4000000 in
set_option maxRecDepth 20000 in
theorem en_X5_bestOfAll {M : jw_Mem} {Q : Int32 → jw_Mem → Prop}  (h : (vp_in 0 7 ∧ (∀ q1 : Nat, q1 = (0 : Int32).toNatClampNeg → q1 < 7 → (vp_in (((1 : Int32) <<< ((M 1 0 1) &&& 31)) - 1) 32 ∧ Q (M 24 q1 ((((1 : Int32) <<< ((M 1 0 1) &&& 31)) - 1) : Int32).toNatClampNeg) M)))) : jw_M 0 mX5_bestOfAll [vr 5 0] M Q := by
  refine jw_M.of (by decide) (Nat.le_of_ble_eq_true rfl) ?_
  show jw_J 0 mX5_bestOfAll 0 [(0, vr 5 0)] [] M Q
  refine jr_aload_n (pc := 0) dX5_bestOfAll_0 rfl 0 rfl ?_
  refine jr_get (pc := 1) (v := vr 22 0) fg_X5_13 (by decide) rfl dX5_bestOfAll_1 ?_
  refine jr_iconst (pc := 4) (v := 0) dX5_bestOfAll_4 (by decide) ?_
  refine jr_wrth (pc := 5) (by decide) h.1 dX5_bestOfAll_5 ?_
  have hb_q1 : (0 : Int32).toNatClampNeg < 7 := Nat.not_le.mp fun z => h.1 (Or.inr z)
  replace h := h.2 _ rfl hb_q1
  generalize hq_q1 : (0 : Int32).toNatClampNeg = q1 at h hb_q1 ⊢
  refine jr_iconst (pc := 6) (v := 1) dX5_bestOfAll_6 (by decide) ?_
  refine jr_aload_n (pc := 7) dX5_bestOfAll_7 rfl 0 rfl ?_
  refine jr_get (pc := 8) (v := vr 1 0) fg_X5_20 (by decide) rfl dX5_bestOfAll_8 ?_
  refine jr_get (pc := 11) (v := vi (M 1 0 1)) fg_X5_38 (by decide) rfl dX5_bestOfAll_11 ?_
  refine jr_ishl (pc := 14) dX5_bestOfAll_14 ?_
  refine jr_iconst (pc := 15) (v := 1) dX5_bestOfAll_15 (by decide) ?_
  refine jr_isub (pc := 16) dX5_bestOfAll_16 ?_
  refine jr_iald (pc := 17) ⟨rfl, (by show q1 < 7; omega)⟩ h.1 dX5_bestOfAll_17 ?_
  replace h := h.2
  exact jr_iret (pc := 18) rfl dX5_bestOfAll_18 h
theorem dX5_bestWorth_0 : decode cX5_bestWorth 0 = .ok (.aload_n 0, 1) := by decide +kernel
theorem dX5_bestWorth_1 : decode cX5_bestWorth 1 = .ok (.getfield 13, 3) := by decide +kernel
theorem dX5_bestWorth_4 : decode cX5_bestWorth 4 = .ok (.iload_n 1, 1) := by decide +kernel
theorem dX5_bestWorth_5 : decode cX5_bestWorth 5 = .ok (.iconst 1, 1) := by decide +kernel
theorem dX5_bestWorth_6 : decode cX5_bestWorth 6 = .ok (.iadd, 1) := by decide +kernel
theorem dX5_bestWorth_7 : decode cX5_bestWorth 7 = .ok (.aaload, 1) := by decide +kernel
theorem dX5_bestWorth_8 : decode cX5_bestWorth 8 = .ok (.iload_n 2, 1) := by decide +kernel
theorem dX5_bestWorth_9 : decode cX5_bestWorth 9 = .ok (.iaload, 1) := by decide +kernel
theorem dX5_bestWorth_10 : decode cX5_bestWorth 10 = .ok (.istore_n 3, 1) := by decide +kernel
theorem dX5_bestWorth_11 : decode cX5_bestWorth 11 = .ok (.iconst 0, 1) := by decide +kernel
theorem dX5_bestWorth_12 : decode cX5_bestWorth 12 = .ok (.istore 4, 2) := by decide +kernel
theorem dX5_bestWorth_14 : decode cX5_bestWorth 14 = .ok (.iload 4, 2) := by decide +kernel
theorem dX5_bestWorth_16 : decode cX5_bestWorth 16 = .ok (.aload_n 0, 1) := by decide +kernel
theorem dX5_bestWorth_17 : decode cX5_bestWorth 17 = .ok (.getfield 20, 3) := by decide +kernel
theorem dX5_bestWorth_20 : decode cX5_bestWorth 20 = .ok (.getfield 38, 3) := by decide +kernel
theorem dX5_bestWorth_23 : decode cX5_bestWorth 23 = .ok (.if_icmp .ge 33, 3) := by decide +kernel
theorem dX5_bestWorth_26 : decode cX5_bestWorth 26 = .ok (.aload_n 0, 1) := by decide +kernel
theorem dX5_bestWorth_27 : decode cX5_bestWorth 27 = .ok (.iload_n 1, 1) := by decide +kernel
theorem dX5_bestWorth_28 : decode cX5_bestWorth 28 = .ok (.iload 4, 2) := by decide +kernel
theorem dX5_bestWorth_30 : decode cX5_bestWorth 30 = .ok (.iload_n 2, 1) := by decide +kernel
theorem dX5_bestWorth_31 : decode cX5_bestWorth 31 = .ok (.invokevirtual 51, 3) := by decide +kernel
theorem dX5_bestWorth_34 : decode cX5_bestWorth 34 = .ok (.ifCond .eq 16, 3) := by decide +kernel
theorem dX5_bestWorth_37 : decode cX5_bestWorth 37 = .ok (.iload_n 3, 1) := by decide +kernel
theorem dX5_bestWorth_38 : decode cX5_bestWorth 38 = .ok (.aload_n 0, 1) := by decide +kernel
theorem dX5_bestWorth_39 : decode cX5_bestWorth 39 = .ok (.iload_n 1, 1) := by decide +kernel
theorem dX5_bestWorth_40 : decode cX5_bestWorth 40 = .ok (.iload 4, 2) := by decide +kernel
theorem dX5_bestWorth_42 : decode cX5_bestWorth 42 = .ok (.iload_n 2, 1) := by decide +kernel
theorem dX5_bestWorth_43 : decode cX5_bestWorth 43 = .ok (.invokevirtual 55, 3) := by decide +kernel
theorem dX5_bestWorth_46 : decode cX5_bestWorth 46 = .ok (.invokestatic 59, 3) := by decide +kernel
theorem dX5_bestWorth_49 : decode cX5_bestWorth 49 = .ok (.istore_n 3, 1) := by decide +kernel
theorem dX5_bestWorth_50 : decode cX5_bestWorth 50 = .ok (.iinc 4 1, 3) := by decide +kernel
theorem dX5_bestWorth_53 : decode cX5_bestWorth 53 = .ok (.goto (-39), 3) := by decide +kernel
theorem dX5_bestWorth_56 : decode cX5_bestWorth 56 = .ok (.iload_n 3, 1) := by decide +kernel
theorem dX5_bestWorth_57 : decode cX5_bestWorth 57 = .ok (.ireturn, 1) := by decide +kernel
set_option maxHeartbeats 4000000 in
set_option maxRecDepth 20000 in
theorem en_X5_bestWorth {a1 : Int32} {a2 : Int32} {M : jw_Mem} {Q : Int32 → jw_Mem → Prop}  (h : (vp_in (a1 + 1) 7 ∧ (∀ q1 : Nat, q1 = ((a1 + 1) : Int32).toNatClampNeg → q1 < 7 → (vp_in a2 32 ∧ jw_J 3 mX5_bestWorth 14 [(0, vr 5 0), (1, vi a1), (2, vi a2), (3, vi (M 24 q1 a2.toNatClampNeg)), (4, vi 0)] [] M Q)))) : jw_M 3 mX5_bestWorth [vr 5 0, vi a1, vi a2] M Q := by
  refine jw_M.of (by decide) (Nat.le_of_ble_eq_true rfl) ?_
  show jw_J 3 mX5_bestWorth 0 [(0, vr 5 0), (1, vi a1), (2, vi a2)] [] M Q
  refine jr_aload_n (pc := 0) dX5_bestWorth_0 rfl 0 rfl ?_
  refine jr_get (pc := 1) (v := vr 22 0) fg_X5_13 (by decide) rfl dX5_bestWorth_1 ?_
  refine jr_iload_n (pc := 4) dX5_bestWorth_4 rfl 1 rfl ?_
  refine jr_iconst (pc := 5) (v := 1) dX5_bestWorth_5 (by decide) ?_
  refine jr_iadd (pc := 6) dX5_bestWorth_6 ?_
  refine jr_wrth (pc := 7) (by decide) h.1 dX5_bestWorth_7 ?_
  have hb_q1 : ((a1 + 1) : Int32).toNatClampNeg < 7 := Nat.not_le.mp fun z => h.1 (Or.inr z)
  replace h := h.2 _ rfl hb_q1
  generalize hq_q1 : ((a1 + 1) : Int32).toNatClampNeg = q1 at h hb_q1 ⊢
  refine jr_iload_n (pc := 8) dX5_bestWorth_8 rfl 2 rfl ?_
  refine jr_iald (pc := 9) ⟨rfl, (by show q1 < 7; omega)⟩ h.1 dX5_bestWorth_9 ?_
  replace h := h.2
  refine jr_istore_n (pc := 10) (lv' := [(3, vi (M 24 q1 a2.toNatClampNeg)), (0, vr 5 0), (1, vi a1), (2, vi a2)]) dX5_bestWorth_10 rfl (by decide) rfl ?_
  refine jr_iconst (pc := 11) (v := 0) dX5_bestWorth_11 (by decide) ?_
  refine jr_istore (pc := 12) (lv' := [(4, vi 0), (3, vi (M 24 q1 a2.toNatClampNeg)), (0, vr 5 0), (1, vi a1), (2, vi a2)]) dX5_bestWorth_12 (by decide) rfl ?_
  exact jr_sub [2, 3, 4, 1, 0] rfl h
set_option maxHeartbeats 4000000 in
set_option maxRecDepth 20000 in
theorem bk_X5_bestWorth_14 {v1 : Int32} {v2 : Int32} {v3 : Int32} {v4 : Int32} {M : jw_Mem} {Q : Int32 → jw_Mem → Prop}  (h : (((M 1 0 1) ≤ v4 → Q v3 M) ∧ (¬ (M 1 0 1) ≤ v4 → (jw_M 2 mX5_canHave [vr 5 0, vi v1, vi v4, vi v2] M (fun x2 M3 => ((x2 = 0 → jw_J 3 mX5_bestWorth 14 [(0, vr 5 0), (1, vi v1), (2, vi v2), (3, vi v3), (4, vi (v4 + 1))] [] M3 Q) ∧ (¬ x2 = 0 → (jw_M 1 mX5_worthOn [vr 5 0, vi v1, vi v4, vi v2] M3 (fun x4 M5 => jw_J 3 mX5_bestWorth 14 [(0, vr 5 0), (1, vi v1), (2, vi v2), (3, vi (if v3 < x4 then x4 else v3)), (4, vi (v4 + 1))] [] M5 Q))))))))) : jw_J 3 mX5_bestWorth 14 [(0, vr 5 0), (1, vi v1), (2, vi v2), (3, vi v3), (4, vi v4)] [] M Q := by
  refine jr_iload (pc := 14) dX5_bestWorth_14 4 rfl ?_
  refine jr_aload_n (pc := 16) dX5_bestWorth_16 rfl 0 rfl ?_
  refine jr_get (pc := 17) (v := vr 1 0) fg_X5_20 (by decide) rfl dX5_bestWorth_17 ?_
  refine jr_get (pc := 20) (v := vi (M 1 0 1)) fg_X5_38 (by decide) rfl dX5_bestWorth_20 ?_
  refine jr_icmp_ge (pc := 23) (tgt := 56) dX5_bestWorth_23 (by decide) (fun c => ?_) (fun c => ?_)
  · replace h := h.1 c
    refine jr_iload_n (pc := 56) dX5_bestWorth_56 rfl 3 rfl ?_
    exact jr_iret (pc := 57) rfl dX5_bestWorth_57 h
  · replace h := h.2 c
    refine jr_aload_n (pc := 26) dX5_bestWorth_26 rfl 0 rfl ?_
    refine jr_iload_n (pc := 27) dX5_bestWorth_27 rfl 1 rfl ?_
    refine jr_iload (pc := 28) dX5_bestWorth_28 4 rfl ?_
    refine jr_iload_n (pc := 30) dX5_bestWorth_30 rfl 2 rfl ?_
    refine jr_callV (pc := 31) (d' := 2) (mt' := mX5_canHave) (k := 5) (n := 0) (As := [vi v1, vi v4, vi v2]) (st := []) fc_X5_51 (by decide) (by decide) (Nat.le_of_ble_eq_true rfl) rfl dX5_bestWorth_31 (jw_M.mono h (fun x2 M3 h => ?_))
    show jw_J 3 mX5_bestWorth 34 [(0, vr 5 0), (1, vi v1), (2, vi v2), (3, vi v3), (4, vi v4)] [vi x2] M3 Q
    refine jr_if_eq (pc := 34) (tgt := 50) dX5_bestWorth_34 (by decide) (fun c => ?_) (fun c => ?_)
    · replace h := h.1 c
      refine jr_iinc (pc := 50) (lv' := [(4, vi (v4 + 1)), (0, vr 5 0), (1, vi v1), (2, vi v2), (3, vi v3)]) (q := 4) dX5_bestWorth_50 rfl (by rfl) (by decide) rfl ?_
      refine jr_goto (pc := 53) (tgt := 14) dX5_bestWorth_53 (by decide) ?_
      exact jr_sub [1, 2, 3, 4, 0] rfl h
    · replace h := h.2 c
      refine jr_iload_n (pc := 37) dX5_bestWorth_37 rfl 3 rfl ?_
      refine jr_aload_n (pc := 38) dX5_bestWorth_38 rfl 0 rfl ?_
      refine jr_iload_n (pc := 39) dX5_bestWorth_39 rfl 1 rfl ?_
      refine jr_iload (pc := 40) dX5_bestWorth_40 4 rfl ?_
      refine jr_iload_n (pc := 42) dX5_bestWorth_42 rfl 2 rfl ?_
      refine jr_callV (pc := 43) (d' := 1) (mt' := mX5_worthOn) (k := 5) (n := 0) (As := [vi v1, vi v4, vi v2]) (st := [vi v3]) fc_X5_55 (by decide) (by decide) (Nat.le_of_ble_eq_true rfl) rfl dX5_bestWorth_43 (jw_M.mono h (fun x4 M5 h => ?_))
      show jw_J 3 mX5_bestWorth 46 [(0, vr 5 0), (1, vi v1), (2, vi v2), (3, vi v3), (4, vi v4)] [vi x4, vi v3] M5 Q
      refine jr_mmax (pc := 46) fc_X5_59 (Nat.le_of_ble_eq_true rfl) (by decide) dX5_bestWorth_46 ?_
      refine jr_istore_n (pc := 49) (lv' := [(3, vi (if v3 < x4 then x4 else v3)), (0, vr 5 0), (1, vi v1), (2, vi v2), (4, vi v4)]) dX5_bestWorth_49 rfl (by decide) rfl ?_
      refine jr_iinc (pc := 50) (lv' := [(4, vi (v4 + 1)), (3, vi (if v3 < x4 then x4 else v3)), (0, vr 5 0), (1, vi v1), (2, vi v2)]) (q := 4) dX5_bestWorth_50 rfl (by rfl) (by decide) rfl ?_
      refine jr_goto (pc := 53) (tgt := 14) dX5_bestWorth_53 (by decide) ?_
      exact jr_sub [2, 3, 4, 1, 0] rfl h
theorem dX5_firstBest_0 : decode cX5_firstBest 0 = .ok (.iconst 0, 1) := by decide +kernel
theorem dX5_firstBest_1 : decode cX5_firstBest 1 = .ok (.istore_n 3, 1) := by decide +kernel
theorem dX5_firstBest_2 : decode cX5_firstBest 2 = .ok (.iload_n 3, 1) := by decide +kernel
theorem dX5_firstBest_3 : decode cX5_firstBest 3 = .ok (.aload_n 0, 1) := by decide +kernel
theorem dX5_firstBest_4 : decode cX5_firstBest 4 = .ok (.getfield 20, 3) := by decide +kernel
theorem dX5_firstBest_7 : decode cX5_firstBest 7 = .ok (.getfield 38, 3) := by decide +kernel
theorem dX5_firstBest_10 : decode cX5_firstBest 10 = .ok (.if_icmp .ge 39, 3) := by decide +kernel
theorem dX5_firstBest_13 : decode cX5_firstBest 13 = .ok (.aload_n 0, 1) := by decide +kernel
theorem dX5_firstBest_14 : decode cX5_firstBest 14 = .ok (.iload_n 1, 1) := by decide +kernel
theorem dX5_firstBest_15 : decode cX5_firstBest 15 = .ok (.iload_n 3, 1) := by decide +kernel
theorem dX5_firstBest_16 : decode cX5_firstBest 16 = .ok (.iload_n 2, 1) := by decide +kernel
theorem dX5_firstBest_17 : decode cX5_firstBest 17 = .ok (.invokevirtual 51, 3) := by decide +kernel
theorem dX5_firstBest_20 : decode cX5_firstBest 20 = .ok (.ifCond .eq 23, 3) := by decide +kernel
theorem dX5_firstBest_23 : decode cX5_firstBest 23 = .ok (.aload_n 0, 1) := by decide +kernel
theorem dX5_firstBest_24 : decode cX5_firstBest 24 = .ok (.iload_n 1, 1) := by decide +kernel
theorem dX5_firstBest_25 : decode cX5_firstBest 25 = .ok (.iload_n 3, 1) := by decide +kernel
theorem dX5_firstBest_26 : decode cX5_firstBest 26 = .ok (.iload_n 2, 1) := by decide +kernel
theorem dX5_firstBest_27 : decode cX5_firstBest 27 = .ok (.invokevirtual 55, 3) := by decide +kernel
theorem dX5_firstBest_30 : decode cX5_firstBest 30 = .ok (.aload_n 0, 1) := by decide +kernel
theorem dX5_firstBest_31 : decode cX5_firstBest 31 = .ok (.getfield 13, 3) := by decide +kernel
theorem dX5_firstBest_34 : decode cX5_firstBest 34 = .ok (.iload_n 1, 1) := by decide +kernel
theorem dX5_firstBest_35 : decode cX5_firstBest 35 = .ok (.aaload, 1) := by decide +kernel
theorem dX5_firstBest_36 : decode cX5_firstBest 36 = .ok (.iload_n 2, 1) := by decide +kernel
theorem dX5_firstBest_37 : decode cX5_firstBest 37 = .ok (.iaload, 1) := by decide +kernel
theorem dX5_firstBest_38 : decode cX5_firstBest 38 = .ok (.if_icmp .ne 5, 3) := by decide +kernel
theorem dX5_firstBest_41 : decode cX5_firstBest 41 = .ok (.iload_n 3, 1) := by decide +kernel
theorem dX5_firstBest_42 : decode cX5_firstBest 42 = .ok (.ireturn, 1) := by decide +kernel
theorem dX5_firstBest_43 : decode cX5_firstBest 43 = .ok (.iinc 3 1, 3) := by decide +kernel
theorem dX5_firstBest_46 : decode cX5_firstBest 46 = .ok (.goto (-44), 3) := by decide +kernel
theorem dX5_firstBest_49 : decode cX5_firstBest 49 = .ok (.iconst (-1), 1) := by decide +kernel
theorem dX5_firstBest_50 : decode cX5_firstBest 50 = .ok (.ireturn, 1) := by decide +kernel
set_option maxHeartbeats 4000000 in
set_option maxRecDepth 20000 in
theorem en_X5_firstBest {a1 : Int32} {a2 : Int32} {M : jw_Mem} {Q : Int32 → jw_Mem → Prop}  (h : jw_J 3 mX5_firstBest 2 [(0, vr 5 0), (1, vi a1), (2, vi a2), (3, vi 0)] [] M Q) : jw_M 3 mX5_firstBest [vr 5 0, vi a1, vi a2] M Q := by
  refine jw_M.of (by decide) (Nat.le_of_ble_eq_true rfl) ?_
  show jw_J 3 mX5_firstBest 0 [(0, vr 5 0), (1, vi a1), (2, vi a2)] [] M Q
  refine jr_iconst (pc := 0) (v := 0) dX5_firstBest_0 (by decide) ?_
  refine jr_istore_n (pc := 1) (lv' := [(3, vi 0), (0, vr 5 0), (1, vi a1), (2, vi a2)]) dX5_firstBest_1 rfl (by decide) rfl ?_
  exact jr_sub [1, 2, 3, 0] rfl h
set_option maxHeartbeats 4000000 in
set_option maxRecDepth 20000 in
theorem bk_X5_firstBest_2 {v1 : Int32} {v2 : Int32} {v3 : Int32} {M : jw_Mem} {Q : Int32 → jw_Mem → Prop}  (h : (((M 1 0 1) ≤ v3 → Q (-1) M) ∧ (¬ (M 1 0 1) ≤ v3 → (jw_M 2 mX5_canHave [vr 5 0, vi v1, vi v3, vi v2] M (fun x1 M2 => ((x1 = 0 → jw_J 3 mX5_firstBest 2 [(0, vr 5 0), (1, vi v1), (2, vi v2), (3, vi (v3 + 1))] [] M2 Q) ∧ (¬ x1 = 0 → (jw_M 1 mX5_worthOn [vr 5 0, vi v1, vi v3, vi v2] M2 (fun x3 M4 => (vp_in v1 7 ∧ (∀ q5 : Nat, q5 = v1.toNatClampNeg → q5 < 7 → (vp_in v2 32 ∧ ((¬ x3 = (M4 24 q5 v2.toNatClampNeg) → jw_J 3 mX5_firstBest 2 [(0, vr 5 0), (1, vi v1), (2, vi v2), (3, vi (v3 + 1))] [] M4 Q) ∧ (x3 = (M4 24 q5 v2.toNatClampNeg) → Q v3 M4)))))))))))))) : jw_J 3 mX5_firstBest 2 [(0, vr 5 0), (1, vi v1), (2, vi v2), (3, vi v3)] [] M Q := by
  refine jr_iload_n (pc := 2) dX5_firstBest_2 rfl 3 rfl ?_
  refine jr_aload_n (pc := 3) dX5_firstBest_3 rfl 0 rfl ?_
  refine jr_get (pc := 4) (v := vr 1 0) fg_X5_20 (by decide) rfl dX5_firstBest_4 ?_
  refine jr_get (pc := 7) (v := vi (M 1 0 1)) fg_X5_38 (by decide) rfl dX5_firstBest_7 ?_
  refine jr_icmp_ge (pc := 10) (tgt := 49) dX5_firstBest_10 (by decide) (fun c => ?_) (fun c => ?_)
  · replace h := h.1 c
    refine jr_iconst (pc := 49) (v := (-1)) dX5_firstBest_49 (by decide) ?_
    exact jr_iret (pc := 50) rfl dX5_firstBest_50 h
  · replace h := h.2 c
    refine jr_aload_n (pc := 13) dX5_firstBest_13 rfl 0 rfl ?_
    refine jr_iload_n (pc := 14) dX5_firstBest_14 rfl 1 rfl ?_
    refine jr_iload_n (pc := 15) dX5_firstBest_15 rfl 3 rfl ?_
    refine jr_iload_n (pc := 16) dX5_firstBest_16 rfl 2 rfl ?_
    refine jr_callV (pc := 17) (d' := 2) (mt' := mX5_canHave) (k := 5) (n := 0) (As := [vi v1, vi v3, vi v2]) (st := []) fc_X5_51 (by decide) (by decide) (Nat.le_of_ble_eq_true rfl) rfl dX5_firstBest_17 (jw_M.mono h (fun x1 M2 h => ?_))
    show jw_J 3 mX5_firstBest 20 [(0, vr 5 0), (1, vi v1), (2, vi v2), (3, vi v3)] [vi x1] M2 Q
    refine jr_if_eq (pc := 20) (tgt := 43) dX5_firstBest_20 (by decide) (fun c => ?_) (fun c => ?_)
    · replace h := h.1 c
      refine jr_iinc (pc := 43) (lv' := [(3, vi (v3 + 1)), (0, vr 5 0), (1, vi v1), (2, vi v2)]) (q := 3) dX5_firstBest_43 rfl (by rfl) (by decide) rfl ?_
      refine jr_goto (pc := 46) (tgt := 2) dX5_firstBest_46 (by decide) ?_
      exact jr_sub [1, 2, 3, 0] rfl h
    · replace h := h.2 c
      refine jr_aload_n (pc := 23) dX5_firstBest_23 rfl 0 rfl ?_
      refine jr_iload_n (pc := 24) dX5_firstBest_24 rfl 1 rfl ?_
      refine jr_iload_n (pc := 25) dX5_firstBest_25 rfl 3 rfl ?_
      refine jr_iload_n (pc := 26) dX5_firstBest_26 rfl 2 rfl ?_
      refine jr_callV (pc := 27) (d' := 1) (mt' := mX5_worthOn) (k := 5) (n := 0) (As := [vi v1, vi v3, vi v2]) (st := []) fc_X5_55 (by decide) (by decide) (Nat.le_of_ble_eq_true rfl) rfl dX5_firstBest_27 (jw_M.mono h (fun x3 M4 h => ?_))
      show jw_J 3 mX5_firstBest 30 [(0, vr 5 0), (1, vi v1), (2, vi v2), (3, vi v3)] [vi x3] M4 Q
      refine jr_aload_n (pc := 30) dX5_firstBest_30 rfl 0 rfl ?_
      refine jr_get (pc := 31) (v := vr 22 0) fg_X5_13 (by decide) rfl dX5_firstBest_31 ?_
      refine jr_iload_n (pc := 34) dX5_firstBest_34 rfl 1 rfl ?_
      refine jr_wrth (pc := 35) (by decide) h.1 dX5_firstBest_35 ?_
      have hb_q5 : v1.toNatClampNeg < 7 := Nat.not_le.mp fun z => h.1 (Or.inr z)
      replace h := h.2 _ rfl hb_q5
      generalize hq_q5 : v1.toNatClampNeg = q5 at h hb_q5 ⊢
      refine jr_iload_n (pc := 36) dX5_firstBest_36 rfl 2 rfl ?_
      refine jr_iald (pc := 37) ⟨rfl, (by show q5 < 7; omega)⟩ h.1 dX5_firstBest_37 ?_
      replace h := h.2
      refine jr_icmp_ne (pc := 38) (tgt := 43) dX5_firstBest_38 (by decide) (fun c => ?_) (fun c => ?_)
      · replace h := h.1 c
        refine jr_iinc (pc := 43) (lv' := [(3, vi (v3 + 1)), (0, vr 5 0), (1, vi v1), (2, vi v2)]) (q := 3) dX5_firstBest_43 rfl (by rfl) (by decide) rfl ?_
        refine jr_goto (pc := 46) (tgt := 2) dX5_firstBest_46 (by decide) ?_
        exact jr_sub [1, 2, 3, 0] rfl h
      · replace h := h.2 c
        refine jr_iload_n (pc := 41) dX5_firstBest_41 rfl 3 rfl ?_
        exact jr_iret (pc := 42) rfl dX5_firstBest_42 h
theorem dX5_canHave_0 : decode cX5_canHave 0 = .ok (.iload_n 3, 1) := by decide +kernel
theorem dX5_canHave_1 : decode cX5_canHave 1 = .ok (.iload_n 2, 1) := by decide +kernel
theorem dX5_canHave_2 : decode cX5_canHave 2 = .ok (.invokestatic 64, 3) := by decide +kernel
theorem dX5_canHave_5 : decode cX5_canHave 5 = .ok (.ifCond .eq 19, 3) := by decide +kernel
theorem dX5_canHave_8 : decode cX5_canHave 8 = .ok (.aload_n 0, 1) := by decide +kernel
theorem dX5_canHave_9 : decode cX5_canHave 9 = .ok (.getfield 20, 3) := by decide +kernel
theorem dX5_canHave_12 : decode cX5_canHave 12 = .ok (.iload_n 2, 1) := by decide +kernel
theorem dX5_canHave_13 : decode cX5_canHave 13 = .ok (.iload_n 1, 1) := by decide +kernel
theorem dX5_canHave_14 : decode cX5_canHave 14 = .ok (.invokevirtual 68, 3) := by decide +kernel
theorem dX5_canHave_17 : decode cX5_canHave 17 = .ok (.ifCond .eq 7, 3) := by decide +kernel
theorem dX5_canHave_20 : decode cX5_canHave 20 = .ok (.iconst 1, 1) := by decide +kernel
theorem dX5_canHave_21 : decode cX5_canHave 21 = .ok (.goto 4, 3) := by decide +kernel
theorem dX5_canHave_24 : decode cX5_canHave 24 = .ok (.iconst 0, 1) := by decide +kernel
theorem dX5_canHave_25 : decode cX5_canHave 25 = .ok (.ireturn, 1) := by decide +kernel
set_option maxHeartbeats 4000000 in
set_option maxRecDepth 20000 in
theorem en_X5_canHave {a1 : Int32} {a2 : Int32} {a3 : Int32} {M : jw_Mem} {Q : Int32 → jw_Mem → Prop}  (h : (jw_M 0 mX10_isIn [vi a3, vi a2] M (fun x1 M2 => ((x1 = 0 → Q 0 M2) ∧ (¬ x1 = 0 → (jw_M 1 mX1_pleases [vr 1 0, vi a2, vi a1] M2 (fun x3 M4 => ((x3 = 0 → Q 0 M4) ∧ (¬ x3 = 0 → Q 1 M4))))))))) : jw_M 2 mX5_canHave [vr 5 0, vi a1, vi a2, vi a3] M Q := by
  refine jw_M.of (by decide) (Nat.le_of_ble_eq_true rfl) ?_
  show jw_J 2 mX5_canHave 0 [(0, vr 5 0), (1, vi a1), (2, vi a2), (3, vi a3)] [] M Q
  refine jr_iload_n (pc := 0) dX5_canHave_0 rfl 3 rfl ?_
  refine jr_iload_n (pc := 1) dX5_canHave_1 rfl 2 rfl ?_
  refine jr_callN (pc := 2) (d' := 0) (mt' := mX10_isIn) (As := [vi a3, vi a2]) (st := []) fc_X5_64 (by decide) (Nat.le_of_ble_eq_true rfl) rfl dX5_canHave_2 (jw_M.mono h (fun x1 M2 h => ?_))
  show jw_J 2 mX5_canHave 5 [(0, vr 5 0), (1, vi a1), (2, vi a2), (3, vi a3)] [vi x1] M2 Q
  refine jr_if_eq (pc := 5) (tgt := 24) dX5_canHave_5 (by decide) (fun c => ?_) (fun c => ?_)
  · replace h := h.1 c
    refine jr_iconst (pc := 24) (v := 0) dX5_canHave_24 (by decide) ?_
    exact jr_zret (pc := 25) rfl dX5_canHave_25 (Or.inl rfl) h
  · replace h := h.2 c
    refine jr_aload_n (pc := 8) dX5_canHave_8 rfl 0 rfl ?_
    refine jr_get (pc := 9) (v := vr 1 0) fg_X5_20 (by decide) rfl dX5_canHave_9 ?_
    refine jr_iload_n (pc := 12) dX5_canHave_12 rfl 2 rfl ?_
    refine jr_iload_n (pc := 13) dX5_canHave_13 rfl 1 rfl ?_
    refine jr_callV (pc := 14) (d' := 1) (mt' := mX1_pleases) (k := 1) (n := 0) (As := [vi a2, vi a1]) (st := []) fc_X5_68 (by decide) (by decide) (Nat.le_of_ble_eq_true rfl) rfl dX5_canHave_14 (jw_M.mono h (fun x3 M4 h => ?_))
    show jw_J 2 mX5_canHave 17 [(0, vr 5 0), (1, vi a1), (2, vi a2), (3, vi a3)] [vi x3] M4 Q
    refine jr_if_eq (pc := 17) (tgt := 24) dX5_canHave_17 (by decide) (fun c => ?_) (fun c => ?_)
    · replace h := h.1 c
      refine jr_iconst (pc := 24) (v := 0) dX5_canHave_24 (by decide) ?_
      exact jr_zret (pc := 25) rfl dX5_canHave_25 (Or.inl rfl) h
    · replace h := h.2 c
      refine jr_iconst (pc := 20) (v := 1) dX5_canHave_20 (by decide) ?_
      refine jr_goto (pc := 21) (tgt := 25) dX5_canHave_21 (by decide) ?_
      exact jr_zret (pc := 25) rfl dX5_canHave_25 (Or.inr rfl) h
theorem dX5_worthOn_0 : decode cX5_worthOn 0 = .ok (.sipush 1000, 3) := by decide +kernel
theorem dX5_worthOn_3 : decode cX5_worthOn 3 = .ok (.aload_n 0, 1) := by decide +kernel
theorem dX5_worthOn_4 : decode cX5_worthOn 4 = .ok (.getfield 20, 3) := by decide +kernel
theorem dX5_worthOn_7 : decode cX5_worthOn 7 = .ok (.getfield 71, 3) := by decide +kernel
theorem dX5_worthOn_10 : decode cX5_worthOn 10 = .ok (.iload_n 2, 1) := by decide +kernel
theorem dX5_worthOn_11 : decode cX5_worthOn 11 = .ok (.iaload, 1) := by decide +kernel
theorem dX5_worthOn_12 : decode cX5_worthOn 12 = .ok (.iadd, 1) := by decide +kernel
theorem dX5_worthOn_13 : decode cX5_worthOn 13 = .ok (.aload_n 0, 1) := by decide +kernel
theorem dX5_worthOn_14 : decode cX5_worthOn 14 = .ok (.getfield 13, 3) := by decide +kernel
theorem dX5_worthOn_17 : decode cX5_worthOn 17 = .ok (.iload_n 1, 1) := by decide +kernel
theorem dX5_worthOn_18 : decode cX5_worthOn 18 = .ok (.iconst 1, 1) := by decide +kernel
theorem dX5_worthOn_19 : decode cX5_worthOn 19 = .ok (.iadd, 1) := by decide +kernel
theorem dX5_worthOn_20 : decode cX5_worthOn 20 = .ok (.aaload, 1) := by decide +kernel
theorem dX5_worthOn_21 : decode cX5_worthOn 21 = .ok (.iload_n 3, 1) := by decide +kernel
theorem dX5_worthOn_22 : decode cX5_worthOn 22 = .ok (.iload_n 2, 1) := by decide +kernel
theorem dX5_worthOn_23 : decode cX5_worthOn 23 = .ok (.invokestatic 44, 3) := by decide +kernel
theorem dX5_worthOn_26 : decode cX5_worthOn 26 = .ok (.iaload, 1) := by decide +kernel
theorem dX5_worthOn_27 : decode cX5_worthOn 27 = .ok (.iadd, 1) := by decide +kernel
theorem dX5_worthOn_28 : decode cX5_worthOn 28 = .ok (.ireturn, 1) := by decide +kernel
set_option maxHeartbeats 4000000 in
set_option maxRecDepth 20000 in
theorem en_X5_worthOn {a1 : Int32} {a2 : Int32} {a3 : Int32} {M : jw_Mem} {Q : Int32 → jw_Mem → Prop}  (h : (vp_in a2 5 ∧ (vp_in (a1 + 1) 7 ∧ (∀ q1 : Nat, q1 = ((a1 + 1) : Int32).toNatClampNeg → q1 < 7 → (jw_M 0 mX5_without [vi a3, vi a2] M (fun x2 M3 => (vp_in x2 32 ∧ Q ((1000 + (M 14 0 a2.toNatClampNeg)) + (M3 24 q1 x2.toNatClampNeg)) M3))))))) : jw_M 1 mX5_worthOn [vr 5 0, vi a1, vi a2, vi a3] M Q := by
  refine jw_M.of (by decide) (Nat.le_of_ble_eq_true rfl) ?_
  show jw_J 1 mX5_worthOn 0 [(0, vr 5 0), (1, vi a1), (2, vi a2), (3, vi a3)] [] M Q
  refine jr_sipush (pc := 0) (v := 1000) dX5_worthOn_0 (by decide) ?_
  refine jr_aload_n (pc := 3) dX5_worthOn_3 rfl 0 rfl ?_
  refine jr_get (pc := 4) (v := vr 1 0) fg_X5_20 (by decide) rfl dX5_worthOn_4 ?_
  refine jr_get (pc := 7) (v := vr 14 0) fg_X5_71 (by decide) rfl dX5_worthOn_7 ?_
  refine jr_iload_n (pc := 10) dX5_worthOn_10 rfl 2 rfl ?_
  refine jr_iald (pc := 11) ⟨rfl, (by decide)⟩ h.1 dX5_worthOn_11 ?_
  replace h := h.2
  refine jr_iadd (pc := 12) dX5_worthOn_12 ?_
  refine jr_aload_n (pc := 13) dX5_worthOn_13 rfl 0 rfl ?_
  refine jr_get (pc := 14) (v := vr 22 0) fg_X5_13 (by decide) rfl dX5_worthOn_14 ?_
  refine jr_iload_n (pc := 17) dX5_worthOn_17 rfl 1 rfl ?_
  refine jr_iconst (pc := 18) (v := 1) dX5_worthOn_18 (by decide) ?_
  refine jr_iadd (pc := 19) dX5_worthOn_19 ?_
  refine jr_wrth (pc := 20) (by decide) h.1 dX5_worthOn_20 ?_
  have hb_q1 : ((a1 + 1) : Int32).toNatClampNeg < 7 := Nat.not_le.mp fun z => h.1 (Or.inr z)
  replace h := h.2 _ rfl hb_q1
  generalize hq_q1 : ((a1 + 1) : Int32).toNatClampNeg = q1 at h hb_q1 ⊢
  refine jr_iload_n (pc := 21) dX5_worthOn_21 rfl 3 rfl ?_
  refine jr_iload_n (pc := 22) dX5_worthOn_22 rfl 2 rfl ?_
  refine jr_callS (pc := 23) (d' := 0) (mt' := mX5_without) (As := [vi a3, vi a2]) (st := [vr 24 q1, vi (1000 + (M 14 0 a2.toNatClampNeg))]) fc_X5_44 (by decide) (Nat.le_of_ble_eq_true rfl) rfl dX5_worthOn_23 (jw_M.mono h (fun x2 M3 h => ?_))
  show jw_J 1 mX5_worthOn 26 [(0, vr 5 0), (1, vi a1), (2, vi a2), (3, vi a3)] [vi x2, vr 24 q1, vi (1000 + (M 14 0 a2.toNatClampNeg))] M3 Q
  refine jr_iald (pc := 26) ⟨rfl, (by show q1 < 7; omega)⟩ h.1 dX5_worthOn_26 ?_
  replace h := h.2
  refine jr_iadd (pc := 27) dX5_worthOn_27 ?_
  exact jr_iret (pc := 28) rfl dX5_worthOn_28 h
theorem dX5_without_0 : decode cX5_without 0 = .ok (.iload_n 1, 1) := by decide +kernel
theorem dX5_without_1 : decode cX5_without 1 = .ok (.iconst (-1), 1) := by decide +kernel
theorem dX5_without_2 : decode cX5_without 2 = .ok (.if_icmp .ne 7, 3) := by decide +kernel
theorem dX5_without_5 : decode cX5_without 5 = .ok (.iload_n 0, 1) := by decide +kernel
theorem dX5_without_6 : decode cX5_without 6 = .ok (.goto 10, 3) := by decide +kernel
theorem dX5_without_9 : decode cX5_without 9 = .ok (.iload_n 0, 1) := by decide +kernel
theorem dX5_without_10 : decode cX5_without 10 = .ok (.iconst 1, 1) := by decide +kernel
theorem dX5_without_11 : decode cX5_without 11 = .ok (.iload_n 1, 1) := by decide +kernel
theorem dX5_without_12 : decode cX5_without 12 = .ok (.ishl, 1) := by decide +kernel
theorem dX5_without_13 : decode cX5_without 13 = .ok (.iconst (-1), 1) := by decide +kernel
theorem dX5_without_14 : decode cX5_without 14 = .ok (.ixor, 1) := by decide +kernel
theorem dX5_without_15 : decode cX5_without 15 = .ok (.iand, 1) := by decide +kernel
theorem dX5_without_16 : decode cX5_without 16 = .ok (.ireturn, 1) := by decide +kernel
set_option maxHeartbeats 4000000 in
set_option maxRecDepth 20000 in
theorem en_X5_without {a1 : Int32} {a2 : Int32} {M : jw_Mem} {Q : Int32 → jw_Mem → Prop}  (h : ((¬ a2 = (-1) → Q (a1 &&& (((1 : Int32) <<< (a2 &&& 31)) ^^^ (-1))) M) ∧ (a2 = (-1) → Q a1 M))) : jw_M 0 mX5_without [vi a1, vi a2] M Q := by
  refine jw_M.of (by decide) (Nat.le_of_ble_eq_true rfl) ?_
  show jw_J 0 mX5_without 0 [(0, vi a1), (1, vi a2)] [] M Q
  refine jr_iload_n (pc := 0) dX5_without_0 rfl 1 rfl ?_
  refine jr_iconst (pc := 1) (v := (-1)) dX5_without_1 (by decide) ?_
  refine jr_icmp_ne (pc := 2) (tgt := 9) dX5_without_2 (by decide) (fun c => ?_) (fun c => ?_)
  · replace h := h.1 c
    refine jr_iload_n (pc := 9) dX5_without_9 rfl 0 rfl ?_
    refine jr_iconst (pc := 10) (v := 1) dX5_without_10 (by decide) ?_
    refine jr_iload_n (pc := 11) dX5_without_11 rfl 1 rfl ?_
    refine jr_ishl (pc := 12) dX5_without_12 ?_
    refine jr_iconst (pc := 13) (v := (-1)) dX5_without_13 (by decide) ?_
    refine jr_ixor (pc := 14) dX5_without_14 ?_
    refine jr_iand (pc := 15) dX5_without_15 ?_
    exact jr_iret (pc := 16) rfl dX5_without_16 h
  · replace h := h.2 c
    refine jr_iload_n (pc := 5) dX5_without_5 rfl 0 rfl ?_
    refine jr_goto (pc := 6) (tgt := 16) dX5_without_6 (by decide) ?_
    exact jr_iret (pc := 16) rfl dX5_without_16 h
theorem dX5_howManySwaps_0 : decode cX5_howManySwaps 0 = .ok (.iconst 0, 1) := by decide +kernel
theorem dX5_howManySwaps_1 : decode cX5_howManySwaps 1 = .ok (.istore_n 1, 1) := by decide +kernel
theorem dX5_howManySwaps_2 : decode cX5_howManySwaps 2 = .ok (.iconst 0, 1) := by decide +kernel
theorem dX5_howManySwaps_3 : decode cX5_howManySwaps 3 = .ok (.istore_n 2, 1) := by decide +kernel
theorem dX5_howManySwaps_4 : decode cX5_howManySwaps 4 = .ok (.iload_n 2, 1) := by decide +kernel
theorem dX5_howManySwaps_5 : decode cX5_howManySwaps 5 = .ok (.aload_n 0, 1) := by decide +kernel
theorem dX5_howManySwaps_6 : decode cX5_howManySwaps 6 = .ok (.getfield 20, 3) := by decide +kernel
theorem dX5_howManySwaps_9 : decode cX5_howManySwaps 9 = .ok (.getfield 28, 3) := by decide +kernel
theorem dX5_howManySwaps_12 : decode cX5_howManySwaps 12 = .ok (.if_icmp .ge 42, 3) := by decide +kernel
theorem dX5_howManySwaps_15 : decode cX5_howManySwaps 15 = .ok (.iload_n 2, 1) := by decide +kernel
theorem dX5_howManySwaps_16 : decode cX5_howManySwaps 16 = .ok (.iconst 1, 1) := by decide +kernel
theorem dX5_howManySwaps_17 : decode cX5_howManySwaps 17 = .ok (.iadd, 1) := by decide +kernel
theorem dX5_howManySwaps_18 : decode cX5_howManySwaps 18 = .ok (.istore_n 3, 1) := by decide +kernel
theorem dX5_howManySwaps_19 : decode cX5_howManySwaps 19 = .ok (.iload_n 3, 1) := by decide +kernel
theorem dX5_howManySwaps_20 : decode cX5_howManySwaps 20 = .ok (.aload_n 0, 1) := by decide +kernel
theorem dX5_howManySwaps_21 : decode cX5_howManySwaps 21 = .ok (.getfield 20, 3) := by decide +kernel
theorem dX5_howManySwaps_24 : decode cX5_howManySwaps 24 = .ok (.getfield 28, 3) := by decide +kernel
theorem dX5_howManySwaps_27 : decode cX5_howManySwaps 27 = .ok (.if_icmp .ge 21, 3) := by decide +kernel
theorem dX5_howManySwaps_30 : decode cX5_howManySwaps 30 = .ok (.aload_n 0, 1) := by decide +kernel
theorem dX5_howManySwaps_31 : decode cX5_howManySwaps 31 = .ok (.iload_n 2, 1) := by decide +kernel
theorem dX5_howManySwaps_32 : decode cX5_howManySwaps 32 = .ok (.iload_n 3, 1) := by decide +kernel
theorem dX5_howManySwaps_33 : decode cX5_howManySwaps 33 = .ok (.invokevirtual 74, 3) := by decide +kernel
theorem dX5_howManySwaps_36 : decode cX5_howManySwaps 36 = .ok (.ifCond .eq 6, 3) := by decide +kernel
theorem dX5_howManySwaps_39 : decode cX5_howManySwaps 39 = .ok (.iinc 1 1, 3) := by decide +kernel
theorem dX5_howManySwaps_42 : decode cX5_howManySwaps 42 = .ok (.iinc 3 1, 3) := by decide +kernel
theorem dX5_howManySwaps_45 : decode cX5_howManySwaps 45 = .ok (.goto (-26), 3) := by decide +kernel
theorem dX5_howManySwaps_48 : decode cX5_howManySwaps 48 = .ok (.iinc 2 1, 3) := by decide +kernel
theorem dX5_howManySwaps_51 : decode cX5_howManySwaps 51 = .ok (.goto (-47), 3) := by decide +kernel
theorem dX5_howManySwaps_54 : decode cX5_howManySwaps 54 = .ok (.iload_n 1, 1) := by decide +kernel
theorem dX5_howManySwaps_55 : decode cX5_howManySwaps 55 = .ok (.ireturn, 1) := by decide +kernel
set_option maxHeartbeats 4000000 in
set_option maxRecDepth 20000 in
theorem en_X5_howManySwaps {M : jw_Mem} {Q : Int32 → jw_Mem → Prop}  (h : jw_J 3 mX5_howManySwaps 4 [(0, vr 5 0), (1, vi 0), (2, vi 0)] [] M Q) : jw_M 3 mX5_howManySwaps [vr 5 0] M Q := by
  refine jw_M.of (by decide) (Nat.le_of_ble_eq_true rfl) ?_
  show jw_J 3 mX5_howManySwaps 0 [(0, vr 5 0)] [] M Q
  refine jr_iconst (pc := 0) (v := 0) dX5_howManySwaps_0 (by decide) ?_
  refine jr_istore_n (pc := 1) (lv' := [(1, vi 0), (0, vr 5 0)]) dX5_howManySwaps_1 rfl (by decide) rfl ?_
  refine jr_iconst (pc := 2) (v := 0) dX5_howManySwaps_2 (by decide) ?_
  refine jr_istore_n (pc := 3) (lv' := [(2, vi 0), (1, vi 0), (0, vr 5 0)]) dX5_howManySwaps_3 rfl (by decide) rfl ?_
  exact jr_sub [2, 1, 0] rfl h
set_option maxHeartbeats 4000000 in
set_option maxRecDepth 20000 in
theorem bk_X5_howManySwaps_4 {v1 : Int32} {v2 : Int32} {M : jw_Mem} {Q : Int32 → jw_Mem → Prop}  (h : (((M 1 0 2) ≤ v2 → Q v1 M) ∧ (¬ (M 1 0 2) ≤ v2 → jw_J 3 mX5_howManySwaps 19 [(0, vr 5 0), (1, vi v1), (2, vi v2), (3, vi (v2 + 1))] [] M Q))) : jw_J 3 mX5_howManySwaps 4 [(0, vr 5 0), (1, vi v1), (2, vi v2)] [] M Q := by
  refine jr_iload_n (pc := 4) dX5_howManySwaps_4 rfl 2 rfl ?_
  refine jr_aload_n (pc := 5) dX5_howManySwaps_5 rfl 0 rfl ?_
  refine jr_get (pc := 6) (v := vr 1 0) fg_X5_20 (by decide) rfl dX5_howManySwaps_6 ?_
  refine jr_get (pc := 9) (v := vi (M 1 0 2)) fg_X5_28 (by decide) rfl dX5_howManySwaps_9 ?_
  refine jr_icmp_ge (pc := 12) (tgt := 54) dX5_howManySwaps_12 (by decide) (fun c => ?_) (fun c => ?_)
  · replace h := h.1 c
    refine jr_iload_n (pc := 54) dX5_howManySwaps_54 rfl 1 rfl ?_
    exact jr_iret (pc := 55) rfl dX5_howManySwaps_55 h
  · replace h := h.2 c
    refine jr_iload_n (pc := 15) dX5_howManySwaps_15 rfl 2 rfl ?_
    refine jr_iconst (pc := 16) (v := 1) dX5_howManySwaps_16 (by decide) ?_
    refine jr_iadd (pc := 17) dX5_howManySwaps_17 ?_
    refine jr_istore_n (pc := 18) (lv' := [(3, vi (v2 + 1)), (0, vr 5 0), (1, vi v1), (2, vi v2)]) dX5_howManySwaps_18 rfl (by decide) rfl ?_
    exact jr_sub [1, 2, 3, 0] rfl h
set_option maxHeartbeats 4000000 in
set_option maxRecDepth 20000 in
theorem bk_X5_howManySwaps_19 {v1 : Int32} {v2 : Int32} {v3 : Int32} {M : jw_Mem} {Q : Int32 → jw_Mem → Prop}  (h : (((M 1 0 2) ≤ v3 → jw_J 3 mX5_howManySwaps 4 [(0, vr 5 0), (1, vi v1), (2, vi (v2 + 1))] [] M Q) ∧ (¬ (M 1 0 2) ≤ v3 → (jw_M 2 mX5_wouldSwap [vr 5 0, vi v2, vi v3] M (fun x1 M2 => ((x1 = 0 → jw_J 3 mX5_howManySwaps 19 [(0, vr 5 0), (1, vi v1), (2, vi v2), (3, vi (v3 + 1))] [] M2 Q) ∧ (¬ x1 = 0 → jw_J 3 mX5_howManySwaps 19 [(0, vr 5 0), (1, vi (v1 + 1)), (2, vi v2), (3, vi (v3 + 1))] [] M2 Q))))))) : jw_J 3 mX5_howManySwaps 19 [(0, vr 5 0), (1, vi v1), (2, vi v2), (3, vi v3)] [] M Q := by
  refine jr_iload_n (pc := 19) dX5_howManySwaps_19 rfl 3 rfl ?_
  refine jr_aload_n (pc := 20) dX5_howManySwaps_20 rfl 0 rfl ?_
  refine jr_get (pc := 21) (v := vr 1 0) fg_X5_20 (by decide) rfl dX5_howManySwaps_21 ?_
  refine jr_get (pc := 24) (v := vi (M 1 0 2)) fg_X5_28 (by decide) rfl dX5_howManySwaps_24 ?_
  refine jr_icmp_ge (pc := 27) (tgt := 48) dX5_howManySwaps_27 (by decide) (fun c => ?_) (fun c => ?_)
  · replace h := h.1 c
    refine jr_iinc (pc := 48) (lv' := [(2, vi (v2 + 1)), (0, vr 5 0), (1, vi v1), (3, vi v3)]) (q := 2) dX5_howManySwaps_48 rfl (by rfl) (by decide) rfl ?_
    refine jr_goto (pc := 51) (tgt := 4) dX5_howManySwaps_51 (by decide) ?_
    exact jr_sub [1, 2, 0] rfl h
  · replace h := h.2 c
    refine jr_aload_n (pc := 30) dX5_howManySwaps_30 rfl 0 rfl ?_
    refine jr_iload_n (pc := 31) dX5_howManySwaps_31 rfl 2 rfl ?_
    refine jr_iload_n (pc := 32) dX5_howManySwaps_32 rfl 3 rfl ?_
    refine jr_callV (pc := 33) (d' := 2) (mt' := mX5_wouldSwap) (k := 5) (n := 0) (As := [vi v2, vi v3]) (st := []) fc_X5_74 (by decide) (by decide) (Nat.le_of_ble_eq_true rfl) rfl dX5_howManySwaps_33 (jw_M.mono h (fun x1 M2 h => ?_))
    show jw_J 3 mX5_howManySwaps 36 [(0, vr 5 0), (1, vi v1), (2, vi v2), (3, vi v3)] [vi x1] M2 Q
    refine jr_if_eq (pc := 36) (tgt := 42) dX5_howManySwaps_36 (by decide) (fun c => ?_) (fun c => ?_)
    · replace h := h.1 c
      refine jr_iinc (pc := 42) (lv' := [(3, vi (v3 + 1)), (0, vr 5 0), (1, vi v1), (2, vi v2)]) (q := 3) dX5_howManySwaps_42 rfl (by rfl) (by decide) rfl ?_
      refine jr_goto (pc := 45) (tgt := 19) dX5_howManySwaps_45 (by decide) ?_
      exact jr_sub [1, 2, 3, 0] rfl h
    · replace h := h.2 c
      refine jr_iinc (pc := 39) (lv' := [(1, vi (v1 + 1)), (0, vr 5 0), (2, vi v2), (3, vi v3)]) (q := 1) dX5_howManySwaps_39 rfl (by rfl) (by decide) rfl ?_
      refine jr_iinc (pc := 42) (lv' := [(3, vi (v3 + 1)), (1, vi (v1 + 1)), (0, vr 5 0), (2, vi v2)]) (q := 3) dX5_howManySwaps_42 rfl (by rfl) (by decide) rfl ?_
      refine jr_goto (pc := 45) (tgt := 19) dX5_howManySwaps_45 (by decide) ?_
      exact jr_sub [2, 1, 3, 0] rfl h
theorem dX5_nthSwap_0 : decode cX5_nthSwap 0 = .ok (.iconst 0, 1) := by decide +kernel
theorem dX5_nthSwap_1 : decode cX5_nthSwap 1 = .ok (.istore_n 2, 1) := by decide +kernel
theorem dX5_nthSwap_2 : decode cX5_nthSwap 2 = .ok (.iconst 0, 1) := by decide +kernel
theorem dX5_nthSwap_3 : decode cX5_nthSwap 3 = .ok (.istore_n 3, 1) := by decide +kernel
theorem dX5_nthSwap_4 : decode cX5_nthSwap 4 = .ok (.iload_n 3, 1) := by decide +kernel
theorem dX5_nthSwap_5 : decode cX5_nthSwap 5 = .ok (.aload_n 0, 1) := by decide +kernel
theorem dX5_nthSwap_6 : decode cX5_nthSwap 6 = .ok (.getfield 20, 3) := by decide +kernel
theorem dX5_nthSwap_9 : decode cX5_nthSwap 9 = .ok (.getfield 28, 3) := by decide +kernel
theorem dX5_nthSwap_12 : decode cX5_nthSwap 12 = .ok (.if_icmp .ge 58, 3) := by decide +kernel
theorem dX5_nthSwap_15 : decode cX5_nthSwap 15 = .ok (.iload_n 3, 1) := by decide +kernel
theorem dX5_nthSwap_16 : decode cX5_nthSwap 16 = .ok (.iconst 1, 1) := by decide +kernel
theorem dX5_nthSwap_17 : decode cX5_nthSwap 17 = .ok (.iadd, 1) := by decide +kernel
theorem dX5_nthSwap_18 : decode cX5_nthSwap 18 = .ok (.istore 4, 2) := by decide +kernel
theorem dX5_nthSwap_20 : decode cX5_nthSwap 20 = .ok (.iload 4, 2) := by decide +kernel
theorem dX5_nthSwap_22 : decode cX5_nthSwap 22 = .ok (.aload_n 0, 1) := by decide +kernel
theorem dX5_nthSwap_23 : decode cX5_nthSwap 23 = .ok (.getfield 20, 3) := by decide +kernel
theorem dX5_nthSwap_26 : decode cX5_nthSwap 26 = .ok (.getfield 28, 3) := by decide +kernel
theorem dX5_nthSwap_29 : decode cX5_nthSwap 29 = .ok (.if_icmp .ge 35, 3) := by decide +kernel
theorem dX5_nthSwap_32 : decode cX5_nthSwap 32 = .ok (.aload_n 0, 1) := by decide +kernel
theorem dX5_nthSwap_33 : decode cX5_nthSwap 33 = .ok (.iload_n 3, 1) := by decide +kernel
theorem dX5_nthSwap_34 : decode cX5_nthSwap 34 = .ok (.iload 4, 2) := by decide +kernel
theorem dX5_nthSwap_36 : decode cX5_nthSwap 36 = .ok (.invokevirtual 74, 3) := by decide +kernel
theorem dX5_nthSwap_39 : decode cX5_nthSwap 39 = .ok (.ifCond .eq 19, 3) := by decide +kernel
theorem dX5_nthSwap_42 : decode cX5_nthSwap 42 = .ok (.iload_n 2, 1) := by decide +kernel
theorem dX5_nthSwap_43 : decode cX5_nthSwap 43 = .ok (.iload_n 1, 1) := by decide +kernel
theorem dX5_nthSwap_44 : decode cX5_nthSwap 44 = .ok (.if_icmp .ne 11, 3) := by decide +kernel
theorem dX5_nthSwap_47 : decode cX5_nthSwap 47 = .ok (.bipush 100, 2) := by decide +kernel
theorem dX5_nthSwap_49 : decode cX5_nthSwap 49 = .ok (.iload_n 3, 1) := by decide +kernel
theorem dX5_nthSwap_50 : decode cX5_nthSwap 50 = .ok (.imul, 1) := by decide +kernel
theorem dX5_nthSwap_51 : decode cX5_nthSwap 51 = .ok (.iload 4, 2) := by decide +kernel
theorem dX5_nthSwap_53 : decode cX5_nthSwap 53 = .ok (.iadd, 1) := by decide +kernel
theorem dX5_nthSwap_54 : decode cX5_nthSwap 54 = .ok (.ireturn, 1) := by decide +kernel
theorem dX5_nthSwap_55 : decode cX5_nthSwap 55 = .ok (.iinc 2 1, 3) := by decide +kernel
theorem dX5_nthSwap_58 : decode cX5_nthSwap 58 = .ok (.iinc 4 1, 3) := by decide +kernel
theorem dX5_nthSwap_61 : decode cX5_nthSwap 61 = .ok (.goto (-41), 3) := by decide +kernel
theorem dX5_nthSwap_64 : decode cX5_nthSwap 64 = .ok (.iinc 3 1, 3) := by decide +kernel
theorem dX5_nthSwap_67 : decode cX5_nthSwap 67 = .ok (.goto (-63), 3) := by decide +kernel
theorem dX5_nthSwap_70 : decode cX5_nthSwap 70 = .ok (.iconst (-1), 1) := by decide +kernel
theorem dX5_nthSwap_71 : decode cX5_nthSwap 71 = .ok (.ireturn, 1) := by decide +kernel
set_option maxHeartbeats 4000000 in
set_option maxRecDepth 20000 in
theorem en_X5_nthSwap {a1 : Int32} {M : jw_Mem} {Q : Int32 → jw_Mem → Prop}  (h : jw_J 3 mX5_nthSwap 4 [(0, vr 5 0), (1, vi a1), (2, vi 0), (3, vi 0)] [] M Q) : jw_M 3 mX5_nthSwap [vr 5 0, vi a1] M Q := by
  refine jw_M.of (by decide) (Nat.le_of_ble_eq_true rfl) ?_
  show jw_J 3 mX5_nthSwap 0 [(0, vr 5 0), (1, vi a1)] [] M Q
  refine jr_iconst (pc := 0) (v := 0) dX5_nthSwap_0 (by decide) ?_
  refine jr_istore_n (pc := 1) (lv' := [(2, vi 0), (0, vr 5 0), (1, vi a1)]) dX5_nthSwap_1 rfl (by decide) rfl ?_
  refine jr_iconst (pc := 2) (v := 0) dX5_nthSwap_2 (by decide) ?_
  refine jr_istore_n (pc := 3) (lv' := [(3, vi 0), (2, vi 0), (0, vr 5 0), (1, vi a1)]) dX5_nthSwap_3 rfl (by decide) rfl ?_
  exact jr_sub [2, 3, 1, 0] rfl h
set_option maxHeartbeats 4000000 in
set_option maxRecDepth 20000 in
theorem bk_X5_nthSwap_4 {v1 : Int32} {v2 : Int32} {v3 : Int32} {M : jw_Mem} {Q : Int32 → jw_Mem → Prop}  (h : (((M 1 0 2) ≤ v3 → Q (-1) M) ∧ (¬ (M 1 0 2) ≤ v3 → jw_J 3 mX5_nthSwap 20 [(0, vr 5 0), (1, vi v1), (2, vi v2), (3, vi v3), (4, vi (v3 + 1))] [] M Q))) : jw_J 3 mX5_nthSwap 4 [(0, vr 5 0), (1, vi v1), (2, vi v2), (3, vi v3)] [] M Q := by
  refine jr_iload_n (pc := 4) dX5_nthSwap_4 rfl 3 rfl ?_
  refine jr_aload_n (pc := 5) dX5_nthSwap_5 rfl 0 rfl ?_
  refine jr_get (pc := 6) (v := vr 1 0) fg_X5_20 (by decide) rfl dX5_nthSwap_6 ?_
  refine jr_get (pc := 9) (v := vi (M 1 0 2)) fg_X5_28 (by decide) rfl dX5_nthSwap_9 ?_
  refine jr_icmp_ge (pc := 12) (tgt := 70) dX5_nthSwap_12 (by decide) (fun c => ?_) (fun c => ?_)
  · replace h := h.1 c
    refine jr_iconst (pc := 70) (v := (-1)) dX5_nthSwap_70 (by decide) ?_
    exact jr_iret (pc := 71) rfl dX5_nthSwap_71 h
  · replace h := h.2 c
    refine jr_iload_n (pc := 15) dX5_nthSwap_15 rfl 3 rfl ?_
    refine jr_iconst (pc := 16) (v := 1) dX5_nthSwap_16 (by decide) ?_
    refine jr_iadd (pc := 17) dX5_nthSwap_17 ?_
    refine jr_istore (pc := 18) (lv' := [(4, vi (v3 + 1)), (0, vr 5 0), (1, vi v1), (2, vi v2), (3, vi v3)]) dX5_nthSwap_18 (by decide) rfl ?_
    exact jr_sub [1, 2, 3, 4, 0] rfl h
set_option maxHeartbeats 4000000 in
set_option maxRecDepth 20000 in
theorem bk_X5_nthSwap_20 {v1 : Int32} {v2 : Int32} {v3 : Int32} {v4 : Int32} {M : jw_Mem} {Q : Int32 → jw_Mem → Prop}  (h : (((M 1 0 2) ≤ v4 → jw_J 3 mX5_nthSwap 4 [(0, vr 5 0), (1, vi v1), (2, vi v2), (3, vi (v3 + 1))] [] M Q) ∧ (¬ (M 1 0 2) ≤ v4 → (jw_M 2 mX5_wouldSwap [vr 5 0, vi v3, vi v4] M (fun x1 M2 => ((x1 = 0 → jw_J 3 mX5_nthSwap 20 [(0, vr 5 0), (1, vi v1), (2, vi v2), (3, vi v3), (4, vi (v4 + 1))] [] M2 Q) ∧ (¬ x1 = 0 → ((¬ v2 = v1 → jw_J 3 mX5_nthSwap 20 [(0, vr 5 0), (1, vi v1), (2, vi (v2 + 1)), (3, vi v3), (4, vi (v4 + 1))] [] M2 Q) ∧ (v2 = v1 → Q ((100 * v3) + v4) M2))))))))) : jw_J 3 mX5_nthSwap 20 [(0, vr 5 0), (1, vi v1), (2, vi v2), (3, vi v3), (4, vi v4)] [] M Q := by
  refine jr_iload (pc := 20) dX5_nthSwap_20 4 rfl ?_
  refine jr_aload_n (pc := 22) dX5_nthSwap_22 rfl 0 rfl ?_
  refine jr_get (pc := 23) (v := vr 1 0) fg_X5_20 (by decide) rfl dX5_nthSwap_23 ?_
  refine jr_get (pc := 26) (v := vi (M 1 0 2)) fg_X5_28 (by decide) rfl dX5_nthSwap_26 ?_
  refine jr_icmp_ge (pc := 29) (tgt := 64) dX5_nthSwap_29 (by decide) (fun c => ?_) (fun c => ?_)
  · replace h := h.1 c
    refine jr_iinc (pc := 64) (lv' := [(3, vi (v3 + 1)), (0, vr 5 0), (1, vi v1), (2, vi v2), (4, vi v4)]) (q := 3) dX5_nthSwap_64 rfl (by rfl) (by decide) rfl ?_
    refine jr_goto (pc := 67) (tgt := 4) dX5_nthSwap_67 (by decide) ?_
    exact jr_sub [1, 2, 3, 0] rfl h
  · replace h := h.2 c
    refine jr_aload_n (pc := 32) dX5_nthSwap_32 rfl 0 rfl ?_
    refine jr_iload_n (pc := 33) dX5_nthSwap_33 rfl 3 rfl ?_
    refine jr_iload (pc := 34) dX5_nthSwap_34 4 rfl ?_
    refine jr_callV (pc := 36) (d' := 2) (mt' := mX5_wouldSwap) (k := 5) (n := 0) (As := [vi v3, vi v4]) (st := []) fc_X5_74 (by decide) (by decide) (Nat.le_of_ble_eq_true rfl) rfl dX5_nthSwap_36 (jw_M.mono h (fun x1 M2 h => ?_))
    show jw_J 3 mX5_nthSwap 39 [(0, vr 5 0), (1, vi v1), (2, vi v2), (3, vi v3), (4, vi v4)] [vi x1] M2 Q
    refine jr_if_eq (pc := 39) (tgt := 58) dX5_nthSwap_39 (by decide) (fun c => ?_) (fun c => ?_)
    · replace h := h.1 c
      refine jr_iinc (pc := 58) (lv' := [(4, vi (v4 + 1)), (0, vr 5 0), (1, vi v1), (2, vi v2), (3, vi v3)]) (q := 4) dX5_nthSwap_58 rfl (by rfl) (by decide) rfl ?_
      refine jr_goto (pc := 61) (tgt := 20) dX5_nthSwap_61 (by decide) ?_
      exact jr_sub [1, 2, 3, 4, 0] rfl h
    · replace h := h.2 c
      refine jr_iload_n (pc := 42) dX5_nthSwap_42 rfl 2 rfl ?_
      refine jr_iload_n (pc := 43) dX5_nthSwap_43 rfl 1 rfl ?_
      refine jr_icmp_ne (pc := 44) (tgt := 55) dX5_nthSwap_44 (by decide) (fun c => ?_) (fun c => ?_)
      · replace h := h.1 c
        refine jr_iinc (pc := 55) (lv' := [(2, vi (v2 + 1)), (0, vr 5 0), (1, vi v1), (3, vi v3), (4, vi v4)]) (q := 2) dX5_nthSwap_55 rfl (by rfl) (by decide) rfl ?_
        refine jr_iinc (pc := 58) (lv' := [(4, vi (v4 + 1)), (2, vi (v2 + 1)), (0, vr 5 0), (1, vi v1), (3, vi v3)]) (q := 4) dX5_nthSwap_58 rfl (by rfl) (by decide) rfl ?_
        refine jr_goto (pc := 61) (tgt := 20) dX5_nthSwap_61 (by decide) ?_
        exact jr_sub [2, 3, 1, 4, 0] rfl h
      · replace h := h.2 c
        refine jr_bipush (pc := 47) (v := 100) dX5_nthSwap_47 (by decide) ?_
        refine jr_iload_n (pc := 49) dX5_nthSwap_49 rfl 3 rfl ?_
        refine jr_imul (pc := 50) dX5_nthSwap_50 ?_
        refine jr_iload (pc := 51) dX5_nthSwap_51 4 rfl ?_
        refine jr_iadd (pc := 53) dX5_nthSwap_53 ?_
        exact jr_iret (pc := 54) rfl dX5_nthSwap_54 h
theorem dX5_wouldSwap_0 : decode cX5_wouldSwap 0 = .ok (.aload_n 0, 1) := by decide +kernel
theorem dX5_wouldSwap_1 : decode cX5_wouldSwap 1 = .ok (.getfield 24, 3) := by decide +kernel
theorem dX5_wouldSwap_4 : decode cX5_wouldSwap 4 = .ok (.iload_n 1, 1) := by decide +kernel
theorem dX5_wouldSwap_5 : decode cX5_wouldSwap 5 = .ok (.invokevirtual 77, 3) := by decide +kernel
theorem dX5_wouldSwap_8 : decode cX5_wouldSwap 8 = .ok (.ifCond .eq 14, 3) := by decide +kernel
theorem dX5_wouldSwap_11 : decode cX5_wouldSwap 11 = .ok (.aload_n 0, 1) := by decide +kernel
theorem dX5_wouldSwap_12 : decode cX5_wouldSwap 12 = .ok (.getfield 24, 3) := by decide +kernel
theorem dX5_wouldSwap_15 : decode cX5_wouldSwap 15 = .ok (.iload_n 2, 1) := by decide +kernel
theorem dX5_wouldSwap_16 : decode cX5_wouldSwap 16 = .ok (.invokevirtual 77, 3) := by decide +kernel
theorem dX5_wouldSwap_19 : decode cX5_wouldSwap 19 = .ok (.ifCond .ne 5, 3) := by decide +kernel
theorem dX5_wouldSwap_22 : decode cX5_wouldSwap 22 = .ok (.iconst 0, 1) := by decide +kernel
theorem dX5_wouldSwap_23 : decode cX5_wouldSwap 23 = .ok (.ireturn, 1) := by decide +kernel
theorem dX5_wouldSwap_24 : decode cX5_wouldSwap 24 = .ok (.aload_n 0, 1) := by decide +kernel
theorem dX5_wouldSwap_25 : decode cX5_wouldSwap 25 = .ok (.getfield 24, 3) := by decide +kernel
theorem dX5_wouldSwap_28 : decode cX5_wouldSwap 28 = .ok (.getfield 83, 3) := by decide +kernel
theorem dX5_wouldSwap_31 : decode cX5_wouldSwap 31 = .ok (.iload_n 1, 1) := by decide +kernel
theorem dX5_wouldSwap_32 : decode cX5_wouldSwap 32 = .ok (.iaload, 1) := by decide +kernel
theorem dX5_wouldSwap_33 : decode cX5_wouldSwap 33 = .ok (.istore_n 3, 1) := by decide +kernel
theorem dX5_wouldSwap_34 : decode cX5_wouldSwap 34 = .ok (.aload_n 0, 1) := by decide +kernel
theorem dX5_wouldSwap_35 : decode cX5_wouldSwap 35 = .ok (.getfield 24, 3) := by decide +kernel
theorem dX5_wouldSwap_38 : decode cX5_wouldSwap 38 = .ok (.getfield 83, 3) := by decide +kernel
theorem dX5_wouldSwap_41 : decode cX5_wouldSwap 41 = .ok (.iload_n 2, 1) := by decide +kernel
theorem dX5_wouldSwap_42 : decode cX5_wouldSwap 42 = .ok (.iaload, 1) := by decide +kernel
theorem dX5_wouldSwap_43 : decode cX5_wouldSwap 43 = .ok (.istore 4, 2) := by decide +kernel
theorem dX5_wouldSwap_45 : decode cX5_wouldSwap 45 = .ok (.aload_n 0, 1) := by decide +kernel
theorem dX5_wouldSwap_46 : decode cX5_wouldSwap 46 = .ok (.getfield 20, 3) := by decide +kernel
theorem dX5_wouldSwap_49 : decode cX5_wouldSwap 49 = .ok (.iload 4, 2) := by decide +kernel
theorem dX5_wouldSwap_51 : decode cX5_wouldSwap 51 = .ok (.iload_n 1, 1) := by decide +kernel
theorem dX5_wouldSwap_52 : decode cX5_wouldSwap 52 = .ok (.invokevirtual 68, 3) := by decide +kernel
theorem dX5_wouldSwap_55 : decode cX5_wouldSwap 55 = .ok (.ifCond .eq 19, 3) := by decide +kernel
theorem dX5_wouldSwap_58 : decode cX5_wouldSwap 58 = .ok (.aload_n 0, 1) := by decide +kernel
theorem dX5_wouldSwap_59 : decode cX5_wouldSwap 59 = .ok (.getfield 20, 3) := by decide +kernel
theorem dX5_wouldSwap_62 : decode cX5_wouldSwap 62 = .ok (.iload_n 3, 1) := by decide +kernel
theorem dX5_wouldSwap_63 : decode cX5_wouldSwap 63 = .ok (.iload_n 2, 1) := by decide +kernel
theorem dX5_wouldSwap_64 : decode cX5_wouldSwap 64 = .ok (.invokevirtual 68, 3) := by decide +kernel
theorem dX5_wouldSwap_67 : decode cX5_wouldSwap 67 = .ok (.ifCond .eq 7, 3) := by decide +kernel
theorem dX5_wouldSwap_70 : decode cX5_wouldSwap 70 = .ok (.iconst 1, 1) := by decide +kernel
theorem dX5_wouldSwap_71 : decode cX5_wouldSwap 71 = .ok (.goto 4, 3) := by decide +kernel
theorem dX5_wouldSwap_74 : decode cX5_wouldSwap 74 = .ok (.iconst 0, 1) := by decide +kernel
theorem dX5_wouldSwap_75 : decode cX5_wouldSwap 75 = .ok (.istore 5, 2) := by decide +kernel
theorem dX5_wouldSwap_77 : decode cX5_wouldSwap 77 = .ok (.iload 5, 2) := by decide +kernel
theorem dX5_wouldSwap_79 : decode cX5_wouldSwap 79 = .ok (.ifCond .eq 32, 3) := by decide +kernel
theorem dX5_wouldSwap_82 : decode cX5_wouldSwap 82 = .ok (.aload_n 0, 1) := by decide +kernel
theorem dX5_wouldSwap_83 : decode cX5_wouldSwap 83 = .ok (.getfield 20, 3) := by decide +kernel
theorem dX5_wouldSwap_86 : decode cX5_wouldSwap 86 = .ok (.iload_n 3, 1) := by decide +kernel
theorem dX5_wouldSwap_87 : decode cX5_wouldSwap 87 = .ok (.iload_n 1, 1) := by decide +kernel
theorem dX5_wouldSwap_88 : decode cX5_wouldSwap 88 = .ok (.invokevirtual 68, 3) := by decide +kernel
theorem dX5_wouldSwap_91 : decode cX5_wouldSwap 91 = .ok (.ifCond .eq 16, 3) := by decide +kernel
theorem dX5_wouldSwap_94 : decode cX5_wouldSwap 94 = .ok (.aload_n 0, 1) := by decide +kernel
theorem dX5_wouldSwap_95 : decode cX5_wouldSwap 95 = .ok (.getfield 20, 3) := by decide +kernel
theorem dX5_wouldSwap_98 : decode cX5_wouldSwap 98 = .ok (.iload 4, 2) := by decide +kernel
theorem dX5_wouldSwap_100 : decode cX5_wouldSwap 100 = .ok (.iload_n 2, 1) := by decide +kernel
theorem dX5_wouldSwap_101 : decode cX5_wouldSwap 101 = .ok (.invokevirtual 68, 3) := by decide +kernel
theorem dX5_wouldSwap_104 : decode cX5_wouldSwap 104 = .ok (.ifCond .ne 7, 3) := by decide +kernel
theorem dX5_wouldSwap_107 : decode cX5_wouldSwap 107 = .ok (.iconst 1, 1) := by decide +kernel
theorem dX5_wouldSwap_108 : decode cX5_wouldSwap 108 = .ok (.goto 4, 3) := by decide +kernel
theorem dX5_wouldSwap_111 : decode cX5_wouldSwap 111 = .ok (.iconst 0, 1) := by decide +kernel
theorem dX5_wouldSwap_112 : decode cX5_wouldSwap 112 = .ok (.ireturn, 1) := by decide +kernel
set_option maxHeartbeats 4000000 in
set_option maxRecDepth 20000 in
theorem en_X5_wouldSwap {a1 : Int32} {a2 : Int32} {M : jw_Mem} {Q : Int32 → jw_Mem → Prop}  (h : (jw_M 1 mX8_stands [vr 8 0, vi a1] M (fun x1 M2 => ((x1 = 0 → Q 0 M2) ∧ (¬ x1 = 0 → (jw_M 1 mX8_stands [vr 8 0, vi a2] M2 (fun x3 M4 => ((¬ x3 = 0 → (vp_in a1 6 ∧ (vp_in a2 6 ∧ (jw_M 1 mX1_pleases [vr 1 0, vi (M4 26 0 a2.toNatClampNeg), vi a1] M4 (fun x5 M6 => ((x5 = 0 → Q 0 M6) ∧ (¬ x5 = 0 → (jw_M 1 mX1_pleases [vr 1 0, vi (M4 26 0 a1.toNatClampNeg), vi a2] M6 (fun x7 M8 => ((x7 = 0 → Q 0 M8) ∧ (¬ x7 = 0 → (jw_M 1 mX1_pleases [vr 1 0, vi (M4 26 0 a1.toNatClampNeg), vi a1] M8 (fun x9 M10 => ((x9 = 0 → Q 1 M10) ∧ (¬ x9 = 0 → (jw_M 1 mX1_pleases [vr 1 0, vi (M4 26 0 a2.toNatClampNeg), vi a2] M10 (fun x11 M12 => ((¬ x11 = 0 → Q 0 M12) ∧ (x11 = 0 → Q 1 M12))))))))))))))))))) ∧ (x3 = 0 → Q 0 M4))))))))) : jw_M 2 mX5_wouldSwap [vr 5 0, vi a1, vi a2] M Q := by
  refine jw_M.of (by decide) (Nat.le_of_ble_eq_true rfl) ?_
  show jw_J 2 mX5_wouldSwap 0 [(0, vr 5 0), (1, vi a1), (2, vi a2)] [] M Q
  refine jr_aload_n (pc := 0) dX5_wouldSwap_0 rfl 0 rfl ?_
  refine jr_get (pc := 1) (v := vr 8 0) fg_X5_24 (by decide) rfl dX5_wouldSwap_1 ?_
  refine jr_iload_n (pc := 4) dX5_wouldSwap_4 rfl 1 rfl ?_
  refine jr_callV (pc := 5) (d' := 1) (mt' := mX8_stands) (k := 8) (n := 0) (As := [vi a1]) (st := []) fc_X5_77 (by decide) (by decide) (Nat.le_of_ble_eq_true rfl) rfl dX5_wouldSwap_5 (jw_M.mono h (fun x1 M2 h => ?_))
  show jw_J 2 mX5_wouldSwap 8 [(0, vr 5 0), (1, vi a1), (2, vi a2)] [vi x1] M2 Q
  refine jr_if_eq (pc := 8) (tgt := 22) dX5_wouldSwap_8 (by decide) (fun c => ?_) (fun c => ?_)
  · replace h := h.1 c
    refine jr_iconst (pc := 22) (v := 0) dX5_wouldSwap_22 (by decide) ?_
    exact jr_zret (pc := 23) rfl dX5_wouldSwap_23 (Or.inl rfl) h
  · replace h := h.2 c
    refine jr_aload_n (pc := 11) dX5_wouldSwap_11 rfl 0 rfl ?_
    refine jr_get (pc := 12) (v := vr 8 0) fg_X5_24 (by decide) rfl dX5_wouldSwap_12 ?_
    refine jr_iload_n (pc := 15) dX5_wouldSwap_15 rfl 2 rfl ?_
    refine jr_callV (pc := 16) (d' := 1) (mt' := mX8_stands) (k := 8) (n := 0) (As := [vi a2]) (st := []) fc_X5_77 (by decide) (by decide) (Nat.le_of_ble_eq_true rfl) rfl dX5_wouldSwap_16 (jw_M.mono h (fun x3 M4 h => ?_))
    show jw_J 2 mX5_wouldSwap 19 [(0, vr 5 0), (1, vi a1), (2, vi a2)] [vi x3] M4 Q
    refine jr_if_ne (pc := 19) (tgt := 24) dX5_wouldSwap_19 (by decide) (fun c => ?_) (fun c => ?_)
    · replace h := h.1 c
      refine jr_aload_n (pc := 24) dX5_wouldSwap_24 rfl 0 rfl ?_
      refine jr_get (pc := 25) (v := vr 8 0) fg_X5_24 (by decide) rfl dX5_wouldSwap_25 ?_
      refine jr_get (pc := 28) (v := vr 26 0) fg_X5_83 (by decide) rfl dX5_wouldSwap_28 ?_
      refine jr_iload_n (pc := 31) dX5_wouldSwap_31 rfl 1 rfl ?_
      refine jr_iald (pc := 32) ⟨rfl, (by decide)⟩ h.1 dX5_wouldSwap_32 ?_
      replace h := h.2
      refine jr_istore_n (pc := 33) (lv' := [(3, vi (M4 26 0 a1.toNatClampNeg)), (0, vr 5 0), (1, vi a1), (2, vi a2)]) dX5_wouldSwap_33 rfl (by decide) rfl ?_
      refine jr_aload_n (pc := 34) dX5_wouldSwap_34 rfl 1 rfl ?_
      refine jr_get (pc := 35) (v := vr 8 0) fg_X5_24 (by decide) rfl dX5_wouldSwap_35 ?_
      refine jr_get (pc := 38) (v := vr 26 0) fg_X5_83 (by decide) rfl dX5_wouldSwap_38 ?_
      refine jr_iload_n (pc := 41) dX5_wouldSwap_41 rfl 3 rfl ?_
      refine jr_iald (pc := 42) ⟨rfl, (by decide)⟩ h.1 dX5_wouldSwap_42 ?_
      replace h := h.2
      refine jr_istore (pc := 43) (lv' := [(4, vi (M4 26 0 a2.toNatClampNeg)), (3, vi (M4 26 0 a1.toNatClampNeg)), (0, vr 5 0), (1, vi a1), (2, vi a2)]) dX5_wouldSwap_43 (by decide) rfl ?_
      refine jr_aload_n (pc := 45) dX5_wouldSwap_45 rfl 2 rfl ?_
      refine jr_get (pc := 46) (v := vr 1 0) fg_X5_20 (by decide) rfl dX5_wouldSwap_46 ?_
      refine jr_iload (pc := 49) dX5_wouldSwap_49 0 rfl ?_
      refine jr_iload_n (pc := 51) dX5_wouldSwap_51 rfl 3 rfl ?_
      refine jr_callV (pc := 52) (d' := 1) (mt' := mX1_pleases) (k := 1) (n := 0) (As := [vi (M4 26 0 a2.toNatClampNeg), vi a1]) (st := []) fc_X5_68 (by decide) (by decide) (Nat.le_of_ble_eq_true rfl) rfl dX5_wouldSwap_52 (jw_M.mono h (fun x5 M6 h => ?_))
      show jw_J 2 mX5_wouldSwap 55 [(4, vi (M4 26 0 a2.toNatClampNeg)), (3, vi (M4 26 0 a1.toNatClampNeg)), (0, vr 5 0), (1, vi a1), (2, vi a2)] [vi x5] M6 Q
      refine jr_if_eq (pc := 55) (tgt := 74) dX5_wouldSwap_55 (by decide) (fun c => ?_) (fun c => ?_)
      · replace h := h.1 c
        refine jr_iconst (pc := 74) (v := 0) dX5_wouldSwap_74 (by decide) ?_
        refine jr_istore (pc := 75) (lv' := [(5, vi 0), (4, vi (M4 26 0 a2.toNatClampNeg)), (3, vi (M4 26 0 a1.toNatClampNeg)), (0, vr 5 0), (1, vi a1), (2, vi a2)]) dX5_wouldSwap_75 (by decide) rfl ?_
        refine jr_iload (pc := 77) dX5_wouldSwap_77 0 rfl ?_
        refine jr_if_eq (pc := 79) (tgt := 111) dX5_wouldSwap_79 (by decide) (fun _ => ?_) (fun c => absurd c (by decide))
        refine jr_iconst (pc := 111) (v := 0) dX5_wouldSwap_111 (by decide) ?_
        exact jr_zret (pc := 112) rfl dX5_wouldSwap_112 (Or.inl rfl) h
      · replace h := h.2 c
        refine jr_aload_n (pc := 58) dX5_wouldSwap_58 rfl 2 rfl ?_
        refine jr_get (pc := 59) (v := vr 1 0) fg_X5_20 (by decide) rfl dX5_wouldSwap_59 ?_
        refine jr_iload_n (pc := 62) dX5_wouldSwap_62 rfl 1 rfl ?_
        refine jr_iload_n (pc := 63) dX5_wouldSwap_63 rfl 4 rfl ?_
        refine jr_callV (pc := 64) (d' := 1) (mt' := mX1_pleases) (k := 1) (n := 0) (As := [vi (M4 26 0 a1.toNatClampNeg), vi a2]) (st := []) fc_X5_68 (by decide) (by decide) (Nat.le_of_ble_eq_true rfl) rfl dX5_wouldSwap_64 (jw_M.mono h (fun x7 M8 h => ?_))
        show jw_J 2 mX5_wouldSwap 67 [(4, vi (M4 26 0 a2.toNatClampNeg)), (3, vi (M4 26 0 a1.toNatClampNeg)), (0, vr 5 0), (1, vi a1), (2, vi a2)] [vi x7] M8 Q
        refine jr_if_eq (pc := 67) (tgt := 74) dX5_wouldSwap_67 (by decide) (fun c => ?_) (fun c => ?_)
        · replace h := h.1 c
          refine jr_iconst (pc := 74) (v := 0) dX5_wouldSwap_74 (by decide) ?_
          refine jr_istore (pc := 75) (lv' := [(5, vi 0), (4, vi (M4 26 0 a2.toNatClampNeg)), (3, vi (M4 26 0 a1.toNatClampNeg)), (0, vr 5 0), (1, vi a1), (2, vi a2)]) dX5_wouldSwap_75 (by decide) rfl ?_
          refine jr_iload (pc := 77) dX5_wouldSwap_77 0 rfl ?_
          refine jr_if_eq (pc := 79) (tgt := 111) dX5_wouldSwap_79 (by decide) (fun _ => ?_) (fun c => absurd c (by decide))
          refine jr_iconst (pc := 111) (v := 0) dX5_wouldSwap_111 (by decide) ?_
          exact jr_zret (pc := 112) rfl dX5_wouldSwap_112 (Or.inl rfl) h
        · replace h := h.2 c
          refine jr_iconst (pc := 70) (v := 1) dX5_wouldSwap_70 (by decide) ?_
          refine jr_goto (pc := 71) (tgt := 75) dX5_wouldSwap_71 (by decide) ?_
          refine jr_istore (pc := 75) (lv' := [(5, vi 1), (4, vi (M4 26 0 a2.toNatClampNeg)), (3, vi (M4 26 0 a1.toNatClampNeg)), (0, vr 5 0), (1, vi a1), (2, vi a2)]) dX5_wouldSwap_75 (by decide) rfl ?_
          refine jr_iload (pc := 77) dX5_wouldSwap_77 0 rfl ?_
          refine jr_if_eq (pc := 79) (tgt := 111) dX5_wouldSwap_79 (by decide) (fun c => absurd c (by decide)) (fun _ => ?_)
          refine jr_aload_n (pc := 82) dX5_wouldSwap_82 rfl 3 rfl ?_
          refine jr_get (pc := 83) (v := vr 1 0) fg_X5_20 (by decide) rfl dX5_wouldSwap_83 ?_
          refine jr_iload_n (pc := 86) dX5_wouldSwap_86 rfl 2 rfl ?_
          refine jr_iload_n (pc := 87) dX5_wouldSwap_87 rfl 4 rfl ?_
          refine jr_callV (pc := 88) (d' := 1) (mt' := mX1_pleases) (k := 1) (n := 0) (As := [vi (M4 26 0 a1.toNatClampNeg), vi a1]) (st := []) fc_X5_68 (by decide) (by decide) (Nat.le_of_ble_eq_true rfl) rfl dX5_wouldSwap_88 (jw_M.mono h (fun x9 M10 h => ?_))
          show jw_J 2 mX5_wouldSwap 91 [(5, vi 1), (4, vi (M4 26 0 a2.toNatClampNeg)), (3, vi (M4 26 0 a1.toNatClampNeg)), (0, vr 5 0), (1, vi a1), (2, vi a2)] [vi x9] M10 Q
          refine jr_if_eq (pc := 91) (tgt := 107) dX5_wouldSwap_91 (by decide) (fun c => ?_) (fun c => ?_)
          · replace h := h.1 c
            refine jr_iconst (pc := 107) (v := 1) dX5_wouldSwap_107 (by decide) ?_
            refine jr_goto (pc := 108) (tgt := 112) dX5_wouldSwap_108 (by decide) ?_
            exact jr_zret (pc := 112) rfl dX5_wouldSwap_112 (Or.inr rfl) h
          · replace h := h.2 c
            refine jr_aload_n (pc := 94) dX5_wouldSwap_94 rfl 3 rfl ?_
            refine jr_get (pc := 95) (v := vr 1 0) fg_X5_20 (by decide) rfl dX5_wouldSwap_95 ?_
            refine jr_iload (pc := 98) dX5_wouldSwap_98 1 rfl ?_
            refine jr_iload_n (pc := 100) dX5_wouldSwap_100 rfl 5 rfl ?_
            refine jr_callV (pc := 101) (d' := 1) (mt' := mX1_pleases) (k := 1) (n := 0) (As := [vi (M4 26 0 a2.toNatClampNeg), vi a2]) (st := []) fc_X5_68 (by decide) (by decide) (Nat.le_of_ble_eq_true rfl) rfl dX5_wouldSwap_101 (jw_M.mono h (fun x11 M12 h => ?_))
            show jw_J 2 mX5_wouldSwap 104 [(5, vi 1), (4, vi (M4 26 0 a2.toNatClampNeg)), (3, vi (M4 26 0 a1.toNatClampNeg)), (0, vr 5 0), (1, vi a1), (2, vi a2)] [vi x11] M12 Q
            refine jr_if_ne (pc := 104) (tgt := 111) dX5_wouldSwap_104 (by decide) (fun c => ?_) (fun c => ?_)
            · replace h := h.1 c
              refine jr_iconst (pc := 111) (v := 0) dX5_wouldSwap_111 (by decide) ?_
              exact jr_zret (pc := 112) rfl dX5_wouldSwap_112 (Or.inl rfl) h
            · replace h := h.2 c
              refine jr_iconst (pc := 107) (v := 1) dX5_wouldSwap_107 (by decide) ?_
              refine jr_goto (pc := 108) (tgt := 112) dX5_wouldSwap_108 (by decide) ?_
              exact jr_zret (pc := 112) rfl dX5_wouldSwap_112 (Or.inr rfl) h
    · replace h := h.2 c
      refine jr_iconst (pc := 22) (v := 0) dX5_wouldSwap_22 (by decide) ?_
      exact jr_zret (pc := 23) rfl dX5_wouldSwap_23 (Or.inl rfl) h
