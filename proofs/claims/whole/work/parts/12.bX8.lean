theorem dX8_begin_0 : decode cX8_begin 0 = .ok (.aload_n 0, 1) := by decide +kernel
theorem dX8_begin_1 : decode cX8_begin 1 = .ok (.iconst 0, 1) := by decide +kernel
theorem dX8_begin_2 : decode cX8_begin 2 = .ok (.putfield 31, 3) := by decide +kernel
theorem dX8_begin_5 : decode cX8_begin 5 = .ok (.iconst 0, 1) := by decide +kernel
theorem dX8_begin_6 : decode cX8_begin 6 = .ok (.istore_n 1, 1) := by decide +kernel
theorem dX8_begin_7 : decode cX8_begin 7 = .ok (.iload_n 1, 1) := by decide +kernel
theorem dX8_begin_8 : decode cX8_begin 8 = .ok (.bipush 6, 2) := by decide +kernel
theorem dX8_begin_10 : decode cX8_begin 10 = .ok (.if_icmp .ge 38, 3) := by decide +kernel
theorem dX8_begin_13 : decode cX8_begin 13 = .ok (.aload_n 0, 1) := by decide +kernel
theorem dX8_begin_14 : decode cX8_begin 14 = .ok (.getfield 9, 3) := by decide +kernel
theorem dX8_begin_17 : decode cX8_begin 17 = .ok (.iload_n 1, 1) := by decide +kernel
theorem dX8_begin_18 : decode cX8_begin 18 = .ok (.aload_n 0, 1) := by decide +kernel
theorem dX8_begin_19 : decode cX8_begin 19 = .ok (.getfield 27, 3) := by decide +kernel
theorem dX8_begin_22 : decode cX8_begin 22 = .ok (.getfield 35, 3) := by decide +kernel
theorem dX8_begin_25 : decode cX8_begin 25 = .ok (.iload_n 1, 1) := by decide +kernel
theorem dX8_begin_26 : decode cX8_begin 26 = .ok (.iaload, 1) := by decide +kernel
theorem dX8_begin_27 : decode cX8_begin 27 = .ok (.iastore, 1) := by decide +kernel
theorem dX8_begin_28 : decode cX8_begin 28 = .ok (.aload_n 0, 1) := by decide +kernel
theorem dX8_begin_29 : decode cX8_begin 29 = .ok (.getfield 15, 3) := by decide +kernel
theorem dX8_begin_32 : decode cX8_begin 32 = .ok (.iload_n 1, 1) := by decide +kernel
theorem dX8_begin_33 : decode cX8_begin 33 = .ok (.iconst 0, 1) := by decide +kernel
theorem dX8_begin_34 : decode cX8_begin 34 = .ok (.iastore, 1) := by decide +kernel
theorem dX8_begin_35 : decode cX8_begin 35 = .ok (.aload_n 0, 1) := by decide +kernel
theorem dX8_begin_36 : decode cX8_begin 36 = .ok (.getfield 18, 3) := by decide +kernel
theorem dX8_begin_39 : decode cX8_begin 39 = .ok (.iload_n 1, 1) := by decide +kernel
theorem dX8_begin_40 : decode cX8_begin 40 = .ok (.iconst 0, 1) := by decide +kernel
theorem dX8_begin_41 : decode cX8_begin 41 = .ok (.iastore, 1) := by decide +kernel
theorem dX8_begin_42 : decode cX8_begin 42 = .ok (.iinc 1 1, 3) := by decide +kernel
theorem dX8_begin_45 : decode cX8_begin 45 = .ok (.goto (-38), 3) := by decide +kernel
theorem dX8_begin_48 : decode cX8_begin 48 = .ok (.iconst 0, 1) := by decide +kernel
theorem dX8_begin_49 : decode cX8_begin 49 = .ok (.istore_n 1, 1) := by decide +kernel
theorem dX8_begin_50 : decode cX8_begin 50 = .ok (.iload_n 1, 1) := by decide +kernel
theorem dX8_begin_51 : decode cX8_begin 51 = .ok (.bipush 7, 2) := by decide +kernel
theorem dX8_begin_53 : decode cX8_begin 53 = .ok (.if_icmp .ge 39, 3) := by decide +kernel
theorem dX8_begin_56 : decode cX8_begin 56 = .ok (.aload_n 0, 1) := by decide +kernel
theorem dX8_begin_57 : decode cX8_begin 57 = .ok (.getfield 21, 3) := by decide +kernel
theorem dX8_begin_60 : decode cX8_begin 60 = .ok (.iload_n 1, 1) := by decide +kernel
theorem dX8_begin_61 : decode cX8_begin 61 = .ok (.aload_n 0, 1) := by decide +kernel
theorem dX8_begin_62 : decode cX8_begin 62 = .ok (.getfield 27, 3) := by decide +kernel
theorem dX8_begin_65 : decode cX8_begin 65 = .ok (.getfield 40, 3) := by decide +kernel
theorem dX8_begin_68 : decode cX8_begin 68 = .ok (.iload_n 1, 1) := by decide +kernel
theorem dX8_begin_69 : decode cX8_begin 69 = .ok (.iaload, 1) := by decide +kernel
theorem dX8_begin_70 : decode cX8_begin 70 = .ok (.iastore, 1) := by decide +kernel
theorem dX8_begin_71 : decode cX8_begin 71 = .ok (.aload_n 0, 1) := by decide +kernel
theorem dX8_begin_72 : decode cX8_begin 72 = .ok (.getfield 24, 3) := by decide +kernel
theorem dX8_begin_75 : decode cX8_begin 75 = .ok (.iload_n 1, 1) := by decide +kernel
theorem dX8_begin_76 : decode cX8_begin 76 = .ok (.aload_n 0, 1) := by decide +kernel
theorem dX8_begin_77 : decode cX8_begin 77 = .ok (.getfield 27, 3) := by decide +kernel
theorem dX8_begin_80 : decode cX8_begin 80 = .ok (.getfield 43, 3) := by decide +kernel
theorem dX8_begin_83 : decode cX8_begin 83 = .ok (.iload_n 1, 1) := by decide +kernel
theorem dX8_begin_84 : decode cX8_begin 84 = .ok (.iaload, 1) := by decide +kernel
theorem dX8_begin_85 : decode cX8_begin 85 = .ok (.iastore, 1) := by decide +kernel
theorem dX8_begin_86 : decode cX8_begin 86 = .ok (.iinc 1 1, 3) := by decide +kernel
theorem dX8_begin_89 : decode cX8_begin 89 = .ok (.goto (-39), 3) := by decide +kernel
theorem dX8_begin_92 : decode cX8_begin 92 = .ok (.return_, 1) := by decide +kernel
set_option maxHeartbeats 4000000 in
set_option maxRecDepth 20000 in
theorem en_X8_begin {n : Nat} {M : jw_Mem} {Q : Int32 → jw_Mem → Prop} (hn_n : n < 20) (h : (∀ M1 : jw_Mem, M1 = jw_up M 8 n 1 0 → jw_J 0 mX8_begin 7 [(0, vr 8 n), (1, vi 0)] [] M1 Q)) : jw_M 0 mX8_begin [vr 8 n] M Q := by
  refine jw_M.of (by decide) (Nat.le_of_ble_eq_true rfl) ?_
  show jw_J 0 mX8_begin 0 [(0, vr 8 n)] [] M Q
  refine jr_aload_n (pc := 0) dX8_begin_0 rfl 0 rfl ?_
  refine jr_iconst (pc := 1) (v := 0) dX8_begin_1 (by decide) ?_
  refine jr_put (pc := 2) fp_X8_31 (by show n < 20; omega) (Or.inl ⟨_, _, _, rfl, by decide +kernel⟩) dX8_begin_2 ?_
  replace h := h _ rfl
  generalize jw_up M 8 n 1 0 = M1 at h ⊢
  refine jr_iconst (pc := 5) (v := 0) dX8_begin_5 (by decide) ?_
  refine jr_istore_n (pc := 6) (lv' := [(1, vi 0), (0, vr 8 n)]) dX8_begin_6 rfl (by decide) rfl ?_
  exact jr_sub [1, 0] rfl h
set_option maxHeartbeats 4000000 in
set_option maxRecDepth 20000 in
theorem bk_X8_begin_7 {n : Nat} {v1 : Int32} {M : jw_Mem} {Q : Int32 → jw_Mem → Prop} (hn_n : n < 20) (h : ((6 ≤ v1 → jw_J 0 mX8_begin 50 [(0, vr 8 n), (1, vi 0)] [] M Q) ∧ (¬ 6 ≤ v1 → (vp_in v1 6 ∧ (vp_in v1 6 ∧ (∀ M2 : jw_Mem, M2 = jw_up M 26 n v1.toNatClampNeg (M 17 0 v1.toNatClampNeg) → (vp_in v1 6 ∧ (∀ M3 : jw_Mem, M3 = jw_up M2 27 n v1.toNatClampNeg 0 → (vp_in v1 6 ∧ (∀ M4 : jw_Mem, M4 = jw_up M3 28 n v1.toNatClampNeg 0 → jw_J 0 mX8_begin 7 [(0, vr 8 n), (1, vi (v1 + 1))] [] M4 Q)))))))))) : jw_J 0 mX8_begin 7 [(0, vr 8 n), (1, vi v1)] [] M Q := by
  refine jr_iload_n (pc := 7) dX8_begin_7 rfl 1 rfl ?_
  refine jr_bipush (pc := 8) (v := 6) dX8_begin_8 (by decide) ?_
  refine jr_icmp_ge (pc := 10) (tgt := 48) dX8_begin_10 (by decide) (fun c => ?_) (fun c => ?_)
  · replace h := h.1 c
    refine jr_iconst (pc := 48) (v := 0) dX8_begin_48 (by decide) ?_
    refine jr_istore_n (pc := 49) (lv' := [(1, vi 0), (0, vr 8 n)]) dX8_begin_49 rfl (by decide) rfl ?_
    exact jr_sub [1, 0] rfl h
  · replace h := h.2 c
    refine jr_aload_n (pc := 13) dX8_begin_13 rfl 0 rfl ?_
    refine jr_get (pc := 14) (v := vr 26 n) fg_X8_9 (by show n < 20; omega) rfl dX8_begin_14 ?_
    refine jr_iload_n (pc := 17) dX8_begin_17 rfl 1 rfl ?_
    refine jr_aload_n (pc := 18) dX8_begin_18 rfl 0 rfl ?_
    refine jr_get (pc := 19) (v := vr 1 0) fg_X8_27 (by show n < 20; omega) rfl dX8_begin_19 ?_
    refine jr_get (pc := 22) (v := vr 17 0) fg_X8_35 (by decide) rfl dX8_begin_22 ?_
    refine jr_iload_n (pc := 25) dX8_begin_25 rfl 1 rfl ?_
    refine jr_iald (pc := 26) ⟨rfl, (by decide)⟩ h.1 dX8_begin_26 ?_
    replace h := h.2
    refine jr_iast (pc := 27) ⟨rfl, (by show n < 20; omega)⟩ h.1 dX8_begin_27 ?_
    replace h := h.2
    replace h := h _ rfl
    generalize jw_up M 26 n v1.toNatClampNeg (M 17 0 v1.toNatClampNeg) = M2 at h ⊢
    refine jr_aload_n (pc := 28) dX8_begin_28 rfl 0 rfl ?_
    refine jr_get (pc := 29) (v := vr 27 n) fg_X8_15 (by show n < 20; omega) rfl dX8_begin_29 ?_
    refine jr_iload_n (pc := 32) dX8_begin_32 rfl 1 rfl ?_
    refine jr_iconst (pc := 33) (v := 0) dX8_begin_33 (by decide) ?_
    refine jr_iast (pc := 34) ⟨rfl, (by show n < 20; omega)⟩ h.1 dX8_begin_34 ?_
    replace h := h.2
    replace h := h _ rfl
    generalize jw_up M2 27 n v1.toNatClampNeg 0 = M3 at h ⊢
    refine jr_aload_n (pc := 35) dX8_begin_35 rfl 0 rfl ?_
    refine jr_get (pc := 36) (v := vr 28 n) fg_X8_18 (by show n < 20; omega) rfl dX8_begin_36 ?_
    refine jr_iload_n (pc := 39) dX8_begin_39 rfl 1 rfl ?_
    refine jr_iconst (pc := 40) (v := 0) dX8_begin_40 (by decide) ?_
    refine jr_iast (pc := 41) ⟨rfl, (by show n < 20; omega)⟩ h.1 dX8_begin_41 ?_
    replace h := h.2
    replace h := h _ rfl
    generalize jw_up M3 28 n v1.toNatClampNeg 0 = M4 at h ⊢
    refine jr_iinc (pc := 42) (lv' := [(1, vi (v1 + 1)), (0, vr 8 n)]) (q := 1) dX8_begin_42 rfl (by rfl) (by decide) rfl ?_
    refine jr_goto (pc := 45) (tgt := 7) dX8_begin_45 (by decide) ?_
    exact jr_sub [1, 0] rfl h
set_option maxHeartbeats 4000000 in
set_option maxRecDepth 20000 in
theorem bk_X8_begin_50 {n : Nat} {v1 : Int32} {M : jw_Mem} {Q : Int32 → jw_Mem → Prop} (hn_n : n < 20) (h : ((7 ≤ v1 → Q 0 M) ∧ (¬ 7 ≤ v1 → (vp_in v1 7 ∧ (vp_in v1 7 ∧ (∀ M5 : jw_Mem, M5 = jw_up M 29 n v1.toNatClampNeg (M 19 0 v1.toNatClampNeg) → (vp_in v1 7 ∧ (vp_in v1 7 ∧ (∀ M6 : jw_Mem, M6 = jw_up M5 30 n v1.toNatClampNeg (M5 20 0 v1.toNatClampNeg) → jw_J 0 mX8_begin 50 [(0, vr 8 n), (1, vi (v1 + 1))] [] M6 Q))))))))) : jw_J 0 mX8_begin 50 [(0, vr 8 n), (1, vi v1)] [] M Q := by
  refine jr_iload_n (pc := 50) dX8_begin_50 rfl 1 rfl ?_
  refine jr_bipush (pc := 51) (v := 7) dX8_begin_51 (by decide) ?_
  refine jr_icmp_ge (pc := 53) (tgt := 92) dX8_begin_53 (by decide) (fun c => ?_) (fun c => ?_)
  · replace h := h.1 c
    exact jr_vret (pc := 92) rfl dX8_begin_92 h
  · replace h := h.2 c
    refine jr_aload_n (pc := 56) dX8_begin_56 rfl 0 rfl ?_
    refine jr_get (pc := 57) (v := vr 29 n) fg_X8_21 (by show n < 20; omega) rfl dX8_begin_57 ?_
    refine jr_iload_n (pc := 60) dX8_begin_60 rfl 1 rfl ?_
    refine jr_aload_n (pc := 61) dX8_begin_61 rfl 0 rfl ?_
    refine jr_get (pc := 62) (v := vr 1 0) fg_X8_27 (by show n < 20; omega) rfl dX8_begin_62 ?_
    refine jr_get (pc := 65) (v := vr 19 0) fg_X8_40 (by decide) rfl dX8_begin_65 ?_
    refine jr_iload_n (pc := 68) dX8_begin_68 rfl 1 rfl ?_
    refine jr_iald (pc := 69) ⟨rfl, (by decide)⟩ h.1 dX8_begin_69 ?_
    replace h := h.2
    refine jr_iast (pc := 70) ⟨rfl, (by show n < 20; omega)⟩ h.1 dX8_begin_70 ?_
    replace h := h.2
    replace h := h _ rfl
    generalize jw_up M 29 n v1.toNatClampNeg (M 19 0 v1.toNatClampNeg) = M5 at h ⊢
    refine jr_aload_n (pc := 71) dX8_begin_71 rfl 0 rfl ?_
    refine jr_get (pc := 72) (v := vr 30 n) fg_X8_24 (by show n < 20; omega) rfl dX8_begin_72 ?_
    refine jr_iload_n (pc := 75) dX8_begin_75 rfl 1 rfl ?_
    refine jr_aload_n (pc := 76) dX8_begin_76 rfl 0 rfl ?_
    refine jr_get (pc := 77) (v := vr 1 0) fg_X8_27 (by show n < 20; omega) rfl dX8_begin_77 ?_
    refine jr_get (pc := 80) (v := vr 20 0) fg_X8_43 (by decide) rfl dX8_begin_80 ?_
    refine jr_iload_n (pc := 83) dX8_begin_83 rfl 1 rfl ?_
    refine jr_iald (pc := 84) ⟨rfl, (by decide)⟩ h.1 dX8_begin_84 ?_
    replace h := h.2
    refine jr_iast (pc := 85) ⟨rfl, (by show n < 20; omega)⟩ h.1 dX8_begin_85 ?_
    replace h := h.2
    replace h := h _ rfl
    generalize jw_up M5 30 n v1.toNatClampNeg (M5 20 0 v1.toNatClampNeg) = M6 at h ⊢
    refine jr_iinc (pc := 86) (lv' := [(1, vi (v1 + 1)), (0, vr 8 n)]) (q := 1) dX8_begin_86 rfl (by rfl) (by decide) rfl ?_
    refine jr_goto (pc := 89) (tgt := 50) dX8_begin_89 (by decide) ?_
    exact jr_sub [1, 0] rfl h
theorem dX8_copyFrom_0 : decode cX8_copyFrom 0 = .ok (.aload_n 0, 1) := by decide +kernel
theorem dX8_copyFrom_1 : decode cX8_copyFrom 1 = .ok (.aload_n 1, 1) := by decide +kernel
theorem dX8_copyFrom_2 : decode cX8_copyFrom 2 = .ok (.getfield 31, 3) := by decide +kernel
theorem dX8_copyFrom_5 : decode cX8_copyFrom 5 = .ok (.putfield 31, 3) := by decide +kernel
theorem dX8_copyFrom_8 : decode cX8_copyFrom 8 = .ok (.aload_n 1, 1) := by decide +kernel
theorem dX8_copyFrom_9 : decode cX8_copyFrom 9 = .ok (.getfield 9, 3) := by decide +kernel
theorem dX8_copyFrom_12 : decode cX8_copyFrom 12 = .ok (.iconst 0, 1) := by decide +kernel
theorem dX8_copyFrom_13 : decode cX8_copyFrom 13 = .ok (.aload_n 0, 1) := by decide +kernel
theorem dX8_copyFrom_14 : decode cX8_copyFrom 14 = .ok (.getfield 9, 3) := by decide +kernel
theorem dX8_copyFrom_17 : decode cX8_copyFrom 17 = .ok (.iconst 0, 1) := by decide +kernel
theorem dX8_copyFrom_18 : decode cX8_copyFrom 18 = .ok (.bipush 6, 2) := by decide +kernel
theorem dX8_copyFrom_20 : decode cX8_copyFrom 20 = .ok (.invokestatic 46, 3) := by decide +kernel
theorem dX8_copyFrom_23 : decode cX8_copyFrom 23 = .ok (.aload_n 1, 1) := by decide +kernel
theorem dX8_copyFrom_24 : decode cX8_copyFrom 24 = .ok (.getfield 15, 3) := by decide +kernel
theorem dX8_copyFrom_27 : decode cX8_copyFrom 27 = .ok (.iconst 0, 1) := by decide +kernel
theorem dX8_copyFrom_28 : decode cX8_copyFrom 28 = .ok (.aload_n 0, 1) := by decide +kernel
theorem dX8_copyFrom_29 : decode cX8_copyFrom 29 = .ok (.getfield 15, 3) := by decide +kernel
theorem dX8_copyFrom_32 : decode cX8_copyFrom 32 = .ok (.iconst 0, 1) := by decide +kernel
theorem dX8_copyFrom_33 : decode cX8_copyFrom 33 = .ok (.bipush 6, 2) := by decide +kernel
theorem dX8_copyFrom_35 : decode cX8_copyFrom 35 = .ok (.invokestatic 46, 3) := by decide +kernel
theorem dX8_copyFrom_38 : decode cX8_copyFrom 38 = .ok (.aload_n 1, 1) := by decide +kernel
theorem dX8_copyFrom_39 : decode cX8_copyFrom 39 = .ok (.getfield 18, 3) := by decide +kernel
theorem dX8_copyFrom_42 : decode cX8_copyFrom 42 = .ok (.iconst 0, 1) := by decide +kernel
theorem dX8_copyFrom_43 : decode cX8_copyFrom 43 = .ok (.aload_n 0, 1) := by decide +kernel
theorem dX8_copyFrom_44 : decode cX8_copyFrom 44 = .ok (.getfield 18, 3) := by decide +kernel
theorem dX8_copyFrom_47 : decode cX8_copyFrom 47 = .ok (.iconst 0, 1) := by decide +kernel
theorem dX8_copyFrom_48 : decode cX8_copyFrom 48 = .ok (.bipush 6, 2) := by decide +kernel
theorem dX8_copyFrom_50 : decode cX8_copyFrom 50 = .ok (.invokestatic 46, 3) := by decide +kernel
theorem dX8_copyFrom_53 : decode cX8_copyFrom 53 = .ok (.aload_n 1, 1) := by decide +kernel
theorem dX8_copyFrom_54 : decode cX8_copyFrom 54 = .ok (.getfield 21, 3) := by decide +kernel
theorem dX8_copyFrom_57 : decode cX8_copyFrom 57 = .ok (.iconst 0, 1) := by decide +kernel
theorem dX8_copyFrom_58 : decode cX8_copyFrom 58 = .ok (.aload_n 0, 1) := by decide +kernel
theorem dX8_copyFrom_59 : decode cX8_copyFrom 59 = .ok (.getfield 21, 3) := by decide +kernel
theorem dX8_copyFrom_62 : decode cX8_copyFrom 62 = .ok (.iconst 0, 1) := by decide +kernel
theorem dX8_copyFrom_63 : decode cX8_copyFrom 63 = .ok (.bipush 7, 2) := by decide +kernel
theorem dX8_copyFrom_65 : decode cX8_copyFrom 65 = .ok (.invokestatic 46, 3) := by decide +kernel
theorem dX8_copyFrom_68 : decode cX8_copyFrom 68 = .ok (.aload_n 1, 1) := by decide +kernel
theorem dX8_copyFrom_69 : decode cX8_copyFrom 69 = .ok (.getfield 24, 3) := by decide +kernel
theorem dX8_copyFrom_72 : decode cX8_copyFrom 72 = .ok (.iconst 0, 1) := by decide +kernel
theorem dX8_copyFrom_73 : decode cX8_copyFrom 73 = .ok (.aload_n 0, 1) := by decide +kernel
theorem dX8_copyFrom_74 : decode cX8_copyFrom 74 = .ok (.getfield 24, 3) := by decide +kernel
theorem dX8_copyFrom_77 : decode cX8_copyFrom 77 = .ok (.iconst 0, 1) := by decide +kernel
theorem dX8_copyFrom_78 : decode cX8_copyFrom 78 = .ok (.bipush 7, 2) := by decide +kernel
theorem dX8_copyFrom_80 : decode cX8_copyFrom 80 = .ok (.invokestatic 46, 3) := by decide +kernel
theorem dX8_copyFrom_83 : decode cX8_copyFrom 83 = .ok (.return_, 1) := by decide +kernel
set_option maxHeartbeats 4000000 in
set_option maxRecDepth 20000 in
theorem en_X8_copyFrom {n : Nat} {n1 : Nat} {M : jw_Mem} {Q : Int32 → jw_Mem → Prop} (hn_n : n < 20) (hn_n1 : n1 < 20) (h : (∀ M1 : jw_Mem, M1 = jw_up M 8 n 1 (M 8 n1 1) → (∀ M2 : jw_Mem, M2 = jw_row M1 26 n (va_cpy (M1 26 n1) (M1 26 n) 0 0 (6 : Int32).toNatClampNeg) → (∀ M3 : jw_Mem, M3 = jw_row M2 27 n (va_cpy (M2 27 n1) (M2 27 n) 0 0 (6 : Int32).toNatClampNeg) → (∀ M4 : jw_Mem, M4 = jw_row M3 28 n (va_cpy (M3 28 n1) (M3 28 n) 0 0 (6 : Int32).toNatClampNeg) → (∀ M5 : jw_Mem, M5 = jw_row M4 29 n (va_cpy (M4 29 n1) (M4 29 n) 0 0 (7 : Int32).toNatClampNeg) → (∀ M6 : jw_Mem, M6 = jw_row M5 30 n (va_cpy (M5 30 n1) (M5 30 n) 0 0 (7 : Int32).toNatClampNeg) → Q 0 M6))))))) : jw_M 1 mX8_copyFrom [vr 8 n, vr 8 n1] M Q := by
  refine jw_M.of (by decide) (Nat.le_of_ble_eq_true rfl) ?_
  show jw_J 1 mX8_copyFrom 0 [(0, vr 8 n), (1, vr 8 n1)] [] M Q
  refine jr_aload_n (pc := 0) dX8_copyFrom_0 rfl 0 rfl ?_
  refine jr_aload_n (pc := 1) dX8_copyFrom_1 rfl 1 rfl ?_
  refine jr_get (pc := 2) (v := vi (M 8 n1 1)) fg_X8_31 (by show n1 < 20; omega) rfl dX8_copyFrom_2 ?_
  refine jr_put (pc := 5) fp_X8_31 (by show n < 20; omega) (Or.inl ⟨_, _, _, rfl, by decide +kernel⟩) dX8_copyFrom_5 ?_
  replace h := h _ rfl
  generalize jw_up M 8 n 1 (M 8 n1 1) = M1 at h ⊢
  refine jr_aload_n (pc := 8) dX8_copyFrom_8 rfl 1 rfl ?_
  refine jr_get (pc := 9) (v := vr 26 n1) fg_X8_9 (by show n1 < 20; omega) rfl dX8_copyFrom_9 ?_
  refine jr_iconst (pc := 12) (v := 0) dX8_copyFrom_12 (by decide) ?_
  refine jr_aload_n (pc := 13) dX8_copyFrom_13 rfl 0 rfl ?_
  refine jr_get (pc := 14) (v := vr 26 n) fg_X8_9 (by show n < 20; omega) rfl dX8_copyFrom_14 ?_
  refine jr_iconst (pc := 17) (v := 0) dX8_copyFrom_17 (by decide) ?_
  refine jr_bipush (pc := 18) (v := 6) dX8_copyFrom_18 (by decide) ?_
  refine jr_copy (pc := 20) ⟨rfl, (by show n1 < 20; omega)⟩ ⟨rfl, (by show n < 20; omega)⟩ fc_X8_46 (by decide) (by decide) (by decide) (by decide) dX8_copyFrom_20 ?_
  replace h := h _ rfl
  generalize jw_row M1 26 n (va_cpy (M1 26 n1) (M1 26 n) 0 0 (6 : Int32).toNatClampNeg) = M2 at h ⊢
  refine jr_aload_n (pc := 23) dX8_copyFrom_23 rfl 1 rfl ?_
  refine jr_get (pc := 24) (v := vr 27 n1) fg_X8_15 (by show n1 < 20; omega) rfl dX8_copyFrom_24 ?_
  refine jr_iconst (pc := 27) (v := 0) dX8_copyFrom_27 (by decide) ?_
  refine jr_aload_n (pc := 28) dX8_copyFrom_28 rfl 0 rfl ?_
  refine jr_get (pc := 29) (v := vr 27 n) fg_X8_15 (by show n < 20; omega) rfl dX8_copyFrom_29 ?_
  refine jr_iconst (pc := 32) (v := 0) dX8_copyFrom_32 (by decide) ?_
  refine jr_bipush (pc := 33) (v := 6) dX8_copyFrom_33 (by decide) ?_
  refine jr_copy (pc := 35) ⟨rfl, (by show n1 < 20; omega)⟩ ⟨rfl, (by show n < 20; omega)⟩ fc_X8_46 (by decide) (by decide) (by decide) (by decide) dX8_copyFrom_35 ?_
  replace h := h _ rfl
  generalize jw_row M2 27 n (va_cpy (M2 27 n1) (M2 27 n) 0 0 (6 : Int32).toNatClampNeg) = M3 at h ⊢
  refine jr_aload_n (pc := 38) dX8_copyFrom_38 rfl 1 rfl ?_
  refine jr_get (pc := 39) (v := vr 28 n1) fg_X8_18 (by show n1 < 20; omega) rfl dX8_copyFrom_39 ?_
  refine jr_iconst (pc := 42) (v := 0) dX8_copyFrom_42 (by decide) ?_
  refine jr_aload_n (pc := 43) dX8_copyFrom_43 rfl 0 rfl ?_
  refine jr_get (pc := 44) (v := vr 28 n) fg_X8_18 (by show n < 20; omega) rfl dX8_copyFrom_44 ?_
  refine jr_iconst (pc := 47) (v := 0) dX8_copyFrom_47 (by decide) ?_
  refine jr_bipush (pc := 48) (v := 6) dX8_copyFrom_48 (by decide) ?_
  refine jr_copy (pc := 50) ⟨rfl, (by show n1 < 20; omega)⟩ ⟨rfl, (by show n < 20; omega)⟩ fc_X8_46 (by decide) (by decide) (by decide) (by decide) dX8_copyFrom_50 ?_
  replace h := h _ rfl
  generalize jw_row M3 28 n (va_cpy (M3 28 n1) (M3 28 n) 0 0 (6 : Int32).toNatClampNeg) = M4 at h ⊢
  refine jr_aload_n (pc := 53) dX8_copyFrom_53 rfl 1 rfl ?_
  refine jr_get (pc := 54) (v := vr 29 n1) fg_X8_21 (by show n1 < 20; omega) rfl dX8_copyFrom_54 ?_
  refine jr_iconst (pc := 57) (v := 0) dX8_copyFrom_57 (by decide) ?_
  refine jr_aload_n (pc := 58) dX8_copyFrom_58 rfl 0 rfl ?_
  refine jr_get (pc := 59) (v := vr 29 n) fg_X8_21 (by show n < 20; omega) rfl dX8_copyFrom_59 ?_
  refine jr_iconst (pc := 62) (v := 0) dX8_copyFrom_62 (by decide) ?_
  refine jr_bipush (pc := 63) (v := 7) dX8_copyFrom_63 (by decide) ?_
  refine jr_copy (pc := 65) ⟨rfl, (by show n1 < 20; omega)⟩ ⟨rfl, (by show n < 20; omega)⟩ fc_X8_46 (by decide) (by decide) (by decide) (by decide) dX8_copyFrom_65 ?_
  replace h := h _ rfl
  generalize jw_row M4 29 n (va_cpy (M4 29 n1) (M4 29 n) 0 0 (7 : Int32).toNatClampNeg) = M5 at h ⊢
  refine jr_aload_n (pc := 68) dX8_copyFrom_68 rfl 1 rfl ?_
  refine jr_get (pc := 69) (v := vr 30 n1) fg_X8_24 (by show n1 < 20; omega) rfl dX8_copyFrom_69 ?_
  refine jr_iconst (pc := 72) (v := 0) dX8_copyFrom_72 (by decide) ?_
  refine jr_aload_n (pc := 73) dX8_copyFrom_73 rfl 0 rfl ?_
  refine jr_get (pc := 74) (v := vr 30 n) fg_X8_24 (by show n < 20; omega) rfl dX8_copyFrom_74 ?_
  refine jr_iconst (pc := 77) (v := 0) dX8_copyFrom_77 (by decide) ?_
  refine jr_bipush (pc := 78) (v := 7) dX8_copyFrom_78 (by decide) ?_
  refine jr_copy (pc := 80) ⟨rfl, (by show n1 < 20; omega)⟩ ⟨rfl, (by show n < 20; omega)⟩ fc_X8_46 (by decide) (by decide) (by decide) (by decide) dX8_copyFrom_80 ?_
  replace h := h _ rfl
  generalize jw_row M5 30 n (va_cpy (M5 30 n1) (M5 30 n) 0 0 (7 : Int32).toNatClampNeg) = M6 at h ⊢
  exact jr_vret (pc := 83) rfl dX8_copyFrom_83 h
theorem dX8_stands_0 : decode cX8_stands 0 = .ok (.aload_n 0, 1) := by decide +kernel
theorem dX8_stands_1 : decode cX8_stands 1 = .ok (.getfield 27, 3) := by decide +kernel
theorem dX8_stands_4 : decode cX8_stands 4 = .ok (.iload_n 1, 1) := by decide +kernel
theorem dX8_stands_5 : decode cX8_stands 5 = .ok (.invokevirtual 52, 3) := by decide +kernel
theorem dX8_stands_8 : decode cX8_stands 8 = .ok (.ifCond .eq 23, 3) := by decide +kernel
theorem dX8_stands_11 : decode cX8_stands 11 = .ok (.aload_n 0, 1) := by decide +kernel
theorem dX8_stands_12 : decode cX8_stands 12 = .ok (.getfield 27, 3) := by decide +kernel
theorem dX8_stands_15 : decode cX8_stands 15 = .ok (.aload_n 0, 1) := by decide +kernel
theorem dX8_stands_16 : decode cX8_stands 16 = .ok (.getfield 9, 3) := by decide +kernel
theorem dX8_stands_19 : decode cX8_stands 19 = .ok (.iload_n 1, 1) := by decide +kernel
theorem dX8_stands_20 : decode cX8_stands 20 = .ok (.iaload, 1) := by decide +kernel
theorem dX8_stands_21 : decode cX8_stands 21 = .ok (.invokevirtual 56, 3) := by decide +kernel
theorem dX8_stands_24 : decode cX8_stands 24 = .ok (.ifCond .eq 7, 3) := by decide +kernel
theorem dX8_stands_27 : decode cX8_stands 27 = .ok (.iconst 1, 1) := by decide +kernel
theorem dX8_stands_28 : decode cX8_stands 28 = .ok (.goto 4, 3) := by decide +kernel
theorem dX8_stands_31 : decode cX8_stands 31 = .ok (.iconst 0, 1) := by decide +kernel
theorem dX8_stands_32 : decode cX8_stands 32 = .ok (.ireturn, 1) := by decide +kernel
set_option maxHeartbeats 4000000 in
set_option maxRecDepth 20000 in
theorem en_X8_stands {n : Nat} {a1 : Int32} {M : jw_Mem} {Q : Int32 → jw_Mem → Prop} (hn_n : n < 20) (h : (jw_M 0 mX1_hasStatue [vr 1 0, vi a1] M (fun x1 M2 => ((x1 = 0 → Q 0 M2) ∧ (¬ x1 = 0 → (vp_in a1 6 ∧ (jw_M 0 mX1_hasPlinth [vr 1 0, vi (M2 26 n a1.toNatClampNeg)] M2 (fun x3 M4 => ((x3 = 0 → Q 0 M4) ∧ (¬ x3 = 0 → Q 1 M4)))))))))) : jw_M 1 mX8_stands [vr 8 n, vi a1] M Q := by
  refine jw_M.of (by decide) (Nat.le_of_ble_eq_true rfl) ?_
  show jw_J 1 mX8_stands 0 [(0, vr 8 n), (1, vi a1)] [] M Q
  refine jr_aload_n (pc := 0) dX8_stands_0 rfl 0 rfl ?_
  refine jr_get (pc := 1) (v := vr 1 0) fg_X8_27 (by show n < 20; omega) rfl dX8_stands_1 ?_
  refine jr_iload_n (pc := 4) dX8_stands_4 rfl 1 rfl ?_
  refine jr_callV (pc := 5) (d' := 0) (mt' := mX1_hasStatue) (k := 1) (n := 0) (As := [vi a1]) (st := []) fc_X8_52 (by decide) (by decide) (Nat.le_of_ble_eq_true rfl) rfl dX8_stands_5 (jw_M.mono h (fun x1 M2 h => ?_))
  show jw_J 1 mX8_stands 8 [(0, vr 8 n), (1, vi a1)] [vi x1] M2 Q
  refine jr_if_eq (pc := 8) (tgt := 31) dX8_stands_8 (by decide) (fun c => ?_) (fun c => ?_)
  · replace h := h.1 c
    refine jr_iconst (pc := 31) (v := 0) dX8_stands_31 (by decide) ?_
    exact jr_zret (pc := 32) rfl dX8_stands_32 (Or.inl rfl) h
  · replace h := h.2 c
    refine jr_aload_n (pc := 11) dX8_stands_11 rfl 0 rfl ?_
    refine jr_get (pc := 12) (v := vr 1 0) fg_X8_27 (by show n < 20; omega) rfl dX8_stands_12 ?_
    refine jr_aload_n (pc := 15) dX8_stands_15 rfl 0 rfl ?_
    refine jr_get (pc := 16) (v := vr 26 n) fg_X8_9 (by show n < 20; omega) rfl dX8_stands_16 ?_
    refine jr_iload_n (pc := 19) dX8_stands_19 rfl 1 rfl ?_
    refine jr_iald (pc := 20) ⟨rfl, (by show n < 20; omega)⟩ h.1 dX8_stands_20 ?_
    replace h := h.2
    refine jr_callV (pc := 21) (d' := 0) (mt' := mX1_hasPlinth) (k := 1) (n := 0) (As := [vi (M2 26 n a1.toNatClampNeg)]) (st := []) fc_X8_56 (by decide) (by decide) (Nat.le_of_ble_eq_true rfl) rfl dX8_stands_21 (jw_M.mono h (fun x3 M4 h => ?_))
    show jw_J 1 mX8_stands 24 [(0, vr 8 n), (1, vi a1)] [vi x3] M4 Q
    refine jr_if_eq (pc := 24) (tgt := 31) dX8_stands_24 (by decide) (fun c => ?_) (fun c => ?_)
    · replace h := h.1 c
      refine jr_iconst (pc := 31) (v := 0) dX8_stands_31 (by decide) ?_
      exact jr_zret (pc := 32) rfl dX8_stands_32 (Or.inl rfl) h
    · replace h := h.2 c
      refine jr_iconst (pc := 27) (v := 1) dX8_stands_27 (by decide) ?_
      refine jr_goto (pc := 28) (tgt := 32) dX8_stands_28 (by decide) ?_
      exact jr_zret (pc := 32) rfl dX8_stands_32 (Or.inr rfl) h
theorem dX8_isOn_0 : decode cX8_isOn 0 = .ok (.aload_n 0, 1) := by decide +kernel
theorem dX8_isOn_1 : decode cX8_isOn 1 = .ok (.getfield 27, 3) := by decide +kernel
theorem dX8_isOn_4 : decode cX8_isOn 4 = .ok (.iload_n 1, 1) := by decide +kernel
theorem dX8_isOn_5 : decode cX8_isOn 5 = .ok (.invokevirtual 52, 3) := by decide +kernel
theorem dX8_isOn_8 : decode cX8_isOn 8 = .ok (.ifCond .eq 17, 3) := by decide +kernel
theorem dX8_isOn_11 : decode cX8_isOn 11 = .ok (.aload_n 0, 1) := by decide +kernel
theorem dX8_isOn_12 : decode cX8_isOn 12 = .ok (.getfield 9, 3) := by decide +kernel
theorem dX8_isOn_15 : decode cX8_isOn 15 = .ok (.iload_n 1, 1) := by decide +kernel
theorem dX8_isOn_16 : decode cX8_isOn 16 = .ok (.iaload, 1) := by decide +kernel
theorem dX8_isOn_17 : decode cX8_isOn 17 = .ok (.iload_n 2, 1) := by decide +kernel
theorem dX8_isOn_18 : decode cX8_isOn 18 = .ok (.if_icmp .ne 7, 3) := by decide +kernel
theorem dX8_isOn_21 : decode cX8_isOn 21 = .ok (.iconst 1, 1) := by decide +kernel
theorem dX8_isOn_22 : decode cX8_isOn 22 = .ok (.goto 4, 3) := by decide +kernel
theorem dX8_isOn_25 : decode cX8_isOn 25 = .ok (.iconst 0, 1) := by decide +kernel
theorem dX8_isOn_26 : decode cX8_isOn 26 = .ok (.ireturn, 1) := by decide +kernel
set_option maxHeartbeats 4000000 in
set_option maxRecDepth 20000 in
theorem en_X8_isOn {n : Nat} {a1 : Int32} {a2 : Int32} {M : jw_Mem} {Q : Int32 → jw_Mem → Prop} (hn_n : n < 20) (h : (jw_M 0 mX1_hasStatue [vr 1 0, vi a1] M (fun x1 M2 => ((x1 = 0 → Q 0 M2) ∧ (¬ x1 = 0 → (vp_in a1 6 ∧ ((¬ (M2 26 n a1.toNatClampNeg) = a2 → Q 0 M2) ∧ ((M2 26 n a1.toNatClampNeg) = a2 → Q 1 M2)))))))) : jw_M 1 mX8_isOn [vr 8 n, vi a1, vi a2] M Q := by
  refine jw_M.of (by decide) (Nat.le_of_ble_eq_true rfl) ?_
  show jw_J 1 mX8_isOn 0 [(0, vr 8 n), (1, vi a1), (2, vi a2)] [] M Q
  refine jr_aload_n (pc := 0) dX8_isOn_0 rfl 0 rfl ?_
  refine jr_get (pc := 1) (v := vr 1 0) fg_X8_27 (by show n < 20; omega) rfl dX8_isOn_1 ?_
  refine jr_iload_n (pc := 4) dX8_isOn_4 rfl 1 rfl ?_
  refine jr_callV (pc := 5) (d' := 0) (mt' := mX1_hasStatue) (k := 1) (n := 0) (As := [vi a1]) (st := []) fc_X8_52 (by decide) (by decide) (Nat.le_of_ble_eq_true rfl) rfl dX8_isOn_5 (jw_M.mono h (fun x1 M2 h => ?_))
  show jw_J 1 mX8_isOn 8 [(0, vr 8 n), (1, vi a1), (2, vi a2)] [vi x1] M2 Q
  refine jr_if_eq (pc := 8) (tgt := 25) dX8_isOn_8 (by decide) (fun c => ?_) (fun c => ?_)
  · replace h := h.1 c
    refine jr_iconst (pc := 25) (v := 0) dX8_isOn_25 (by decide) ?_
    exact jr_zret (pc := 26) rfl dX8_isOn_26 (Or.inl rfl) h
  · replace h := h.2 c
    refine jr_aload_n (pc := 11) dX8_isOn_11 rfl 0 rfl ?_
    refine jr_get (pc := 12) (v := vr 26 n) fg_X8_9 (by show n < 20; omega) rfl dX8_isOn_12 ?_
    refine jr_iload_n (pc := 15) dX8_isOn_15 rfl 1 rfl ?_
    refine jr_iald (pc := 16) ⟨rfl, (by show n < 20; omega)⟩ h.1 dX8_isOn_16 ?_
    replace h := h.2
    refine jr_iload_n (pc := 17) dX8_isOn_17 rfl 2 rfl ?_
    refine jr_icmp_ne (pc := 18) (tgt := 25) dX8_isOn_18 (by decide) (fun c => ?_) (fun c => ?_)
    · replace h := h.1 c
      refine jr_iconst (pc := 25) (v := 0) dX8_isOn_25 (by decide) ?_
      exact jr_zret (pc := 26) rfl dX8_isOn_26 (Or.inl rfl) h
    · replace h := h.2 c
      refine jr_iconst (pc := 21) (v := 1) dX8_isOn_21 (by decide) ?_
      refine jr_goto (pc := 22) (tgt := 26) dX8_isOn_22 (by decide) ?_
      exact jr_zret (pc := 26) rfl dX8_isOn_26 (Or.inr rfl) h
theorem dX8_canStand_0 : decode cX8_canStand 0 = .ok (.aload_n 0, 1) := by decide +kernel
theorem dX8_canStand_1 : decode cX8_canStand 1 = .ok (.getfield 27, 3) := by decide +kernel
theorem dX8_canStand_4 : decode cX8_canStand 4 = .ok (.iload_n 1, 1) := by decide +kernel
theorem dX8_canStand_5 : decode cX8_canStand 5 = .ok (.invokevirtual 52, 3) := by decide +kernel
theorem dX8_canStand_8 : decode cX8_canStand 8 = .ok (.ifCond .eq 35, 3) := by decide +kernel
theorem dX8_canStand_11 : decode cX8_canStand 11 = .ok (.aload_n 0, 1) := by decide +kernel
theorem dX8_canStand_12 : decode cX8_canStand 12 = .ok (.getfield 27, 3) := by decide +kernel
theorem dX8_canStand_15 : decode cX8_canStand 15 = .ok (.iload_n 2, 1) := by decide +kernel
theorem dX8_canStand_16 : decode cX8_canStand 16 = .ok (.invokevirtual 56, 3) := by decide +kernel
theorem dX8_canStand_19 : decode cX8_canStand 19 = .ok (.ifCond .eq 24, 3) := by decide +kernel
theorem dX8_canStand_22 : decode cX8_canStand 22 = .ok (.aload_n 0, 1) := by decide +kernel
theorem dX8_canStand_23 : decode cX8_canStand 23 = .ok (.iload_n 1, 1) := by decide +kernel
theorem dX8_canStand_24 : decode cX8_canStand 24 = .ok (.invokevirtual 59, 3) := by decide +kernel
theorem dX8_canStand_27 : decode cX8_canStand 27 = .ok (.ifCond .ne 16, 3) := by decide +kernel
theorem dX8_canStand_30 : decode cX8_canStand 30 = .ok (.aload_n 0, 1) := by decide +kernel
theorem dX8_canStand_31 : decode cX8_canStand 31 = .ok (.iload_n 2, 1) := by decide +kernel
theorem dX8_canStand_32 : decode cX8_canStand 32 = .ok (.invokevirtual 62, 3) := by decide +kernel
theorem dX8_canStand_35 : decode cX8_canStand 35 = .ok (.iconst (-1), 1) := by decide +kernel
theorem dX8_canStand_36 : decode cX8_canStand 36 = .ok (.if_icmp .ne 7, 3) := by decide +kernel
theorem dX8_canStand_39 : decode cX8_canStand 39 = .ok (.iconst 1, 1) := by decide +kernel
theorem dX8_canStand_40 : decode cX8_canStand 40 = .ok (.goto 4, 3) := by decide +kernel
theorem dX8_canStand_43 : decode cX8_canStand 43 = .ok (.iconst 0, 1) := by decide +kernel
theorem dX8_canStand_44 : decode cX8_canStand 44 = .ok (.ireturn, 1) := by decide +kernel
set_option maxHeartbeats 4000000 in
set_option maxRecDepth 20000 in
theorem en_X8_canStand {n : Nat} {a1 : Int32} {a2 : Int32} {M : jw_Mem} {Q : Int32 → jw_Mem → Prop} (hn_n : n < 20) (h : (jw_M 0 mX1_hasStatue [vr 1 0, vi a1] M (fun x1 M2 => ((x1 = 0 → Q 0 M2) ∧ (¬ x1 = 0 → (jw_M 0 mX1_hasPlinth [vr 1 0, vi a2] M2 (fun x3 M4 => ((x3 = 0 → Q 0 M4) ∧ (¬ x3 = 0 → (jw_M 1 mX8_stands [vr 8 n, vi a1] M4 (fun x5 M6 => ((¬ x5 = 0 → Q 0 M6) ∧ (x5 = 0 → (jw_M 0 mX8_whoIsOn [vr 8 n, vi a2] M6 (fun x7 M8 => ((¬ x7 = (-1) → Q 0 M8) ∧ (x7 = (-1) → Q 1 M8))))))))))))))))) : jw_M 2 mX8_canStand [vr 8 n, vi a1, vi a2] M Q := by
  refine jw_M.of (by decide) (Nat.le_of_ble_eq_true rfl) ?_
  show jw_J 2 mX8_canStand 0 [(0, vr 8 n), (1, vi a1), (2, vi a2)] [] M Q
  refine jr_aload_n (pc := 0) dX8_canStand_0 rfl 0 rfl ?_
  refine jr_get (pc := 1) (v := vr 1 0) fg_X8_27 (by show n < 20; omega) rfl dX8_canStand_1 ?_
  refine jr_iload_n (pc := 4) dX8_canStand_4 rfl 1 rfl ?_
  refine jr_callV (pc := 5) (d' := 0) (mt' := mX1_hasStatue) (k := 1) (n := 0) (As := [vi a1]) (st := []) fc_X8_52 (by decide) (by decide) (Nat.le_of_ble_eq_true rfl) rfl dX8_canStand_5 (jw_M.mono h (fun x1 M2 h => ?_))
  show jw_J 2 mX8_canStand 8 [(0, vr 8 n), (1, vi a1), (2, vi a2)] [vi x1] M2 Q
  refine jr_if_eq (pc := 8) (tgt := 43) dX8_canStand_8 (by decide) (fun c => ?_) (fun c => ?_)
  · replace h := h.1 c
    refine jr_iconst (pc := 43) (v := 0) dX8_canStand_43 (by decide) ?_
    exact jr_zret (pc := 44) rfl dX8_canStand_44 (Or.inl rfl) h
  · replace h := h.2 c
    refine jr_aload_n (pc := 11) dX8_canStand_11 rfl 0 rfl ?_
    refine jr_get (pc := 12) (v := vr 1 0) fg_X8_27 (by show n < 20; omega) rfl dX8_canStand_12 ?_
    refine jr_iload_n (pc := 15) dX8_canStand_15 rfl 2 rfl ?_
    refine jr_callV (pc := 16) (d' := 0) (mt' := mX1_hasPlinth) (k := 1) (n := 0) (As := [vi a2]) (st := []) fc_X8_56 (by decide) (by decide) (Nat.le_of_ble_eq_true rfl) rfl dX8_canStand_16 (jw_M.mono h (fun x3 M4 h => ?_))
    show jw_J 2 mX8_canStand 19 [(0, vr 8 n), (1, vi a1), (2, vi a2)] [vi x3] M4 Q
    refine jr_if_eq (pc := 19) (tgt := 43) dX8_canStand_19 (by decide) (fun c => ?_) (fun c => ?_)
    · replace h := h.1 c
      refine jr_iconst (pc := 43) (v := 0) dX8_canStand_43 (by decide) ?_
      exact jr_zret (pc := 44) rfl dX8_canStand_44 (Or.inl rfl) h
    · replace h := h.2 c
      refine jr_aload_n (pc := 22) dX8_canStand_22 rfl 0 rfl ?_
      refine jr_iload_n (pc := 23) dX8_canStand_23 rfl 1 rfl ?_
      refine jr_callV (pc := 24) (d' := 1) (mt' := mX8_stands) (k := 8) (n := n) (As := [vi a1]) (st := []) fc_X8_59 (by decide) (by show n < 20; omega) (Nat.le_of_ble_eq_true rfl) rfl dX8_canStand_24 (jw_M.mono h (fun x5 M6 h => ?_))
      show jw_J 2 mX8_canStand 27 [(0, vr 8 n), (1, vi a1), (2, vi a2)] [vi x5] M6 Q
      refine jr_if_ne (pc := 27) (tgt := 43) dX8_canStand_27 (by decide) (fun c => ?_) (fun c => ?_)
      · replace h := h.1 c
        refine jr_iconst (pc := 43) (v := 0) dX8_canStand_43 (by decide) ?_
        exact jr_zret (pc := 44) rfl dX8_canStand_44 (Or.inl rfl) h
      · replace h := h.2 c
        refine jr_aload_n (pc := 30) dX8_canStand_30 rfl 0 rfl ?_
        refine jr_iload_n (pc := 31) dX8_canStand_31 rfl 2 rfl ?_
        refine jr_callV (pc := 32) (d' := 0) (mt' := mX8_whoIsOn) (k := 8) (n := n) (As := [vi a2]) (st := []) fc_X8_62 (by decide) (by show n < 20; omega) (Nat.le_of_ble_eq_true rfl) rfl dX8_canStand_32 (jw_M.mono h (fun x7 M8 h => ?_))
        show jw_J 2 mX8_canStand 35 [(0, vr 8 n), (1, vi a1), (2, vi a2)] [vi x7] M8 Q
        refine jr_iconst (pc := 35) (v := (-1)) dX8_canStand_35 (by decide) ?_
        refine jr_icmp_ne (pc := 36) (tgt := 43) dX8_canStand_36 (by decide) (fun c => ?_) (fun c => ?_)
        · replace h := h.1 c
          refine jr_iconst (pc := 43) (v := 0) dX8_canStand_43 (by decide) ?_
          exact jr_zret (pc := 44) rfl dX8_canStand_44 (Or.inl rfl) h
        · replace h := h.2 c
          refine jr_iconst (pc := 39) (v := 1) dX8_canStand_39 (by decide) ?_
          refine jr_goto (pc := 40) (tgt := 44) dX8_canStand_40 (by decide) ?_
          exact jr_zret (pc := 44) rfl dX8_canStand_44 (Or.inr rfl) h
theorem dX8_whoIsOn_0 : decode cX8_whoIsOn 0 = .ok (.iconst 0, 1) := by decide +kernel
theorem dX8_whoIsOn_1 : decode cX8_whoIsOn 1 = .ok (.istore_n 2, 1) := by decide +kernel
theorem dX8_whoIsOn_2 : decode cX8_whoIsOn 2 = .ok (.iload_n 2, 1) := by decide +kernel
theorem dX8_whoIsOn_3 : decode cX8_whoIsOn 3 = .ok (.aload_n 0, 1) := by decide +kernel
theorem dX8_whoIsOn_4 : decode cX8_whoIsOn 4 = .ok (.getfield 27, 3) := by decide +kernel
theorem dX8_whoIsOn_7 : decode cX8_whoIsOn 7 = .ok (.getfield 66, 3) := by decide +kernel
theorem dX8_whoIsOn_10 : decode cX8_whoIsOn 10 = .ok (.if_icmp .ge 21, 3) := by decide +kernel
theorem dX8_whoIsOn_13 : decode cX8_whoIsOn 13 = .ok (.aload_n 0, 1) := by decide +kernel
theorem dX8_whoIsOn_14 : decode cX8_whoIsOn 14 = .ok (.getfield 9, 3) := by decide +kernel
theorem dX8_whoIsOn_17 : decode cX8_whoIsOn 17 = .ok (.iload_n 2, 1) := by decide +kernel
theorem dX8_whoIsOn_18 : decode cX8_whoIsOn 18 = .ok (.iaload, 1) := by decide +kernel
theorem dX8_whoIsOn_19 : decode cX8_whoIsOn 19 = .ok (.iload_n 1, 1) := by decide +kernel
theorem dX8_whoIsOn_20 : decode cX8_whoIsOn 20 = .ok (.if_icmp .ne 5, 3) := by decide +kernel
theorem dX8_whoIsOn_23 : decode cX8_whoIsOn 23 = .ok (.iload_n 2, 1) := by decide +kernel
theorem dX8_whoIsOn_24 : decode cX8_whoIsOn 24 = .ok (.ireturn, 1) := by decide +kernel
theorem dX8_whoIsOn_25 : decode cX8_whoIsOn 25 = .ok (.iinc 2 1, 3) := by decide +kernel
theorem dX8_whoIsOn_28 : decode cX8_whoIsOn 28 = .ok (.goto (-26), 3) := by decide +kernel
theorem dX8_whoIsOn_31 : decode cX8_whoIsOn 31 = .ok (.iconst (-1), 1) := by decide +kernel
theorem dX8_whoIsOn_32 : decode cX8_whoIsOn 32 = .ok (.ireturn, 1) := by decide +kernel
set_option maxHeartbeats 4000000 in
set_option maxRecDepth 20000 in
theorem en_X8_whoIsOn {n : Nat} {a1 : Int32} {M : jw_Mem} {Q : Int32 → jw_Mem → Prop} (hn_n : n < 20) (h : jw_J 0 mX8_whoIsOn 2 [(0, vr 8 n), (1, vi a1), (2, vi 0)] [] M Q) : jw_M 0 mX8_whoIsOn [vr 8 n, vi a1] M Q := by
  refine jw_M.of (by decide) (Nat.le_of_ble_eq_true rfl) ?_
  show jw_J 0 mX8_whoIsOn 0 [(0, vr 8 n), (1, vi a1)] [] M Q
  refine jr_iconst (pc := 0) (v := 0) dX8_whoIsOn_0 (by decide) ?_
  refine jr_istore_n (pc := 1) (lv' := [(2, vi 0), (0, vr 8 n), (1, vi a1)]) dX8_whoIsOn_1 rfl (by decide) rfl ?_
  exact jr_sub [1, 2, 0] rfl h
set_option maxHeartbeats 4000000 in
set_option maxRecDepth 20000 in
theorem bk_X8_whoIsOn_2 {n : Nat} {v1 : Int32} {v2 : Int32} {M : jw_Mem} {Q : Int32 → jw_Mem → Prop} (hn_n : n < 20) (h : (((M 1 0 2) ≤ v2 → Q (-1) M) ∧ (¬ (M 1 0 2) ≤ v2 → (vp_in v2 6 ∧ ((¬ (M 26 n v2.toNatClampNeg) = v1 → jw_J 0 mX8_whoIsOn 2 [(0, vr 8 n), (1, vi v1), (2, vi (v2 + 1))] [] M Q) ∧ ((M 26 n v2.toNatClampNeg) = v1 → Q v2 M)))))) : jw_J 0 mX8_whoIsOn 2 [(0, vr 8 n), (1, vi v1), (2, vi v2)] [] M Q := by
  refine jr_iload_n (pc := 2) dX8_whoIsOn_2 rfl 2 rfl ?_
  refine jr_aload_n (pc := 3) dX8_whoIsOn_3 rfl 0 rfl ?_
  refine jr_get (pc := 4) (v := vr 1 0) fg_X8_27 (by show n < 20; omega) rfl dX8_whoIsOn_4 ?_
  refine jr_get (pc := 7) (v := vi (M 1 0 2)) fg_X8_66 (by decide) rfl dX8_whoIsOn_7 ?_
  refine jr_icmp_ge (pc := 10) (tgt := 31) dX8_whoIsOn_10 (by decide) (fun c => ?_) (fun c => ?_)
  · replace h := h.1 c
    refine jr_iconst (pc := 31) (v := (-1)) dX8_whoIsOn_31 (by decide) ?_
    exact jr_iret (pc := 32) rfl dX8_whoIsOn_32 h
  · replace h := h.2 c
    refine jr_aload_n (pc := 13) dX8_whoIsOn_13 rfl 0 rfl ?_
    refine jr_get (pc := 14) (v := vr 26 n) fg_X8_9 (by show n < 20; omega) rfl dX8_whoIsOn_14 ?_
    refine jr_iload_n (pc := 17) dX8_whoIsOn_17 rfl 2 rfl ?_
    refine jr_iald (pc := 18) ⟨rfl, (by show n < 20; omega)⟩ h.1 dX8_whoIsOn_18 ?_
    replace h := h.2
    refine jr_iload_n (pc := 19) dX8_whoIsOn_19 rfl 1 rfl ?_
    refine jr_icmp_ne (pc := 20) (tgt := 25) dX8_whoIsOn_20 (by decide) (fun c => ?_) (fun c => ?_)
    · replace h := h.1 c
      refine jr_iinc (pc := 25) (lv' := [(2, vi (v2 + 1)), (0, vr 8 n), (1, vi v1)]) (q := 2) dX8_whoIsOn_25 rfl (by rfl) (by decide) rfl ?_
      refine jr_goto (pc := 28) (tgt := 2) dX8_whoIsOn_28 (by decide) ?_
      exact jr_sub [1, 2, 0] rfl h
    · replace h := h.2 c
      refine jr_iload_n (pc := 23) dX8_whoIsOn_23 rfl 2 rfl ?_
      exact jr_iret (pc := 24) rfl dX8_whoIsOn_24 h
theorem dX8_standers_0 : decode cX8_standers 0 = .ok (.iconst 0, 1) := by decide +kernel
theorem dX8_standers_1 : decode cX8_standers 1 = .ok (.istore_n 1, 1) := by decide +kernel
theorem dX8_standers_2 : decode cX8_standers 2 = .ok (.iconst 0, 1) := by decide +kernel
theorem dX8_standers_3 : decode cX8_standers 3 = .ok (.istore_n 2, 1) := by decide +kernel
theorem dX8_standers_4 : decode cX8_standers 4 = .ok (.iload_n 2, 1) := by decide +kernel
theorem dX8_standers_5 : decode cX8_standers 5 = .ok (.aload_n 0, 1) := by decide +kernel
theorem dX8_standers_6 : decode cX8_standers 6 = .ok (.getfield 27, 3) := by decide +kernel
theorem dX8_standers_9 : decode cX8_standers 9 = .ok (.getfield 66, 3) := by decide +kernel
theorem dX8_standers_12 : decode cX8_standers 12 = .ok (.if_icmp .ge 23, 3) := by decide +kernel
theorem dX8_standers_15 : decode cX8_standers 15 = .ok (.aload_n 0, 1) := by decide +kernel
theorem dX8_standers_16 : decode cX8_standers 16 = .ok (.iload_n 2, 1) := by decide +kernel
theorem dX8_standers_17 : decode cX8_standers 17 = .ok (.invokevirtual 59, 3) := by decide +kernel
theorem dX8_standers_20 : decode cX8_standers 20 = .ok (.ifCond .eq 9, 3) := by decide +kernel
theorem dX8_standers_23 : decode cX8_standers 23 = .ok (.iload_n 1, 1) := by decide +kernel
theorem dX8_standers_24 : decode cX8_standers 24 = .ok (.iconst 1, 1) := by decide +kernel
theorem dX8_standers_25 : decode cX8_standers 25 = .ok (.iload_n 2, 1) := by decide +kernel
theorem dX8_standers_26 : decode cX8_standers 26 = .ok (.ishl, 1) := by decide +kernel
theorem dX8_standers_27 : decode cX8_standers 27 = .ok (.ior, 1) := by decide +kernel
theorem dX8_standers_28 : decode cX8_standers 28 = .ok (.istore_n 1, 1) := by decide +kernel
theorem dX8_standers_29 : decode cX8_standers 29 = .ok (.iinc 2 1, 3) := by decide +kernel
theorem dX8_standers_32 : decode cX8_standers 32 = .ok (.goto (-28), 3) := by decide +kernel
theorem dX8_standers_35 : decode cX8_standers 35 = .ok (.iload_n 1, 1) := by decide +kernel
theorem dX8_standers_36 : decode cX8_standers 36 = .ok (.ireturn, 1) := by decide +kernel
set_option maxHeartbeats 4000000 in
set_option maxRecDepth 20000 in
theorem en_X8_standers {n : Nat} {M : jw_Mem} {Q : Int32 → jw_Mem → Prop} (hn_n : n < 20) (h : jw_J 2 mX8_standers 4 [(0, vr 8 n), (1, vi 0), (2, vi 0)] [] M Q) : jw_M 2 mX8_standers [vr 8 n] M Q := by
  refine jw_M.of (by decide) (Nat.le_of_ble_eq_true rfl) ?_
  show jw_J 2 mX8_standers 0 [(0, vr 8 n)] [] M Q
  refine jr_iconst (pc := 0) (v := 0) dX8_standers_0 (by decide) ?_
  refine jr_istore_n (pc := 1) (lv' := [(1, vi 0), (0, vr 8 n)]) dX8_standers_1 rfl (by decide) rfl ?_
  refine jr_iconst (pc := 2) (v := 0) dX8_standers_2 (by decide) ?_
  refine jr_istore_n (pc := 3) (lv' := [(2, vi 0), (1, vi 0), (0, vr 8 n)]) dX8_standers_3 rfl (by decide) rfl ?_
  exact jr_sub [2, 1, 0] rfl h
set_option maxHeartbeats 4000000 in
set_option maxRecDepth 20000 in
theorem bk_X8_standers_4 {n : Nat} {v1 : Int32} {v2 : Int32} {M : jw_Mem} {Q : Int32 → jw_Mem → Prop} (hn_n : n < 20) (h : (((M 1 0 2) ≤ v2 → Q v1 M) ∧ (¬ (M 1 0 2) ≤ v2 → (jw_M 1 mX8_stands [vr 8 n, vi v2] M (fun x1 M2 => ((x1 = 0 → jw_J 2 mX8_standers 4 [(0, vr 8 n), (1, vi v1), (2, vi (v2 + 1))] [] M2 Q) ∧ (¬ x1 = 0 → jw_J 2 mX8_standers 4 [(0, vr 8 n), (1, vi (v1 ||| ((1 : Int32) <<< (v2 &&& 31)))), (2, vi (v2 + 1))] [] M2 Q))))))) : jw_J 2 mX8_standers 4 [(0, vr 8 n), (1, vi v1), (2, vi v2)] [] M Q := by
  refine jr_iload_n (pc := 4) dX8_standers_4 rfl 2 rfl ?_
  refine jr_aload_n (pc := 5) dX8_standers_5 rfl 0 rfl ?_
  refine jr_get (pc := 6) (v := vr 1 0) fg_X8_27 (by show n < 20; omega) rfl dX8_standers_6 ?_
  refine jr_get (pc := 9) (v := vi (M 1 0 2)) fg_X8_66 (by decide) rfl dX8_standers_9 ?_
  refine jr_icmp_ge (pc := 12) (tgt := 35) dX8_standers_12 (by decide) (fun c => ?_) (fun c => ?_)
  · replace h := h.1 c
    refine jr_iload_n (pc := 35) dX8_standers_35 rfl 1 rfl ?_
    exact jr_iret (pc := 36) rfl dX8_standers_36 h
  · replace h := h.2 c
    refine jr_aload_n (pc := 15) dX8_standers_15 rfl 0 rfl ?_
    refine jr_iload_n (pc := 16) dX8_standers_16 rfl 2 rfl ?_
    refine jr_callV (pc := 17) (d' := 1) (mt' := mX8_stands) (k := 8) (n := n) (As := [vi v2]) (st := []) fc_X8_59 (by decide) (by show n < 20; omega) (Nat.le_of_ble_eq_true rfl) rfl dX8_standers_17 (jw_M.mono h (fun x1 M2 h => ?_))
    show jw_J 2 mX8_standers 20 [(0, vr 8 n), (1, vi v1), (2, vi v2)] [vi x1] M2 Q
    refine jr_if_eq (pc := 20) (tgt := 29) dX8_standers_20 (by decide) (fun c => ?_) (fun c => ?_)
    · replace h := h.1 c
      refine jr_iinc (pc := 29) (lv' := [(2, vi (v2 + 1)), (0, vr 8 n), (1, vi v1)]) (q := 2) dX8_standers_29 rfl (by rfl) (by decide) rfl ?_
      refine jr_goto (pc := 32) (tgt := 4) dX8_standers_32 (by decide) ?_
      exact jr_sub [1, 2, 0] rfl h
    · replace h := h.2 c
      refine jr_iload_n (pc := 23) dX8_standers_23 rfl 1 rfl ?_
      refine jr_iconst (pc := 24) (v := 1) dX8_standers_24 (by decide) ?_
      refine jr_iload_n (pc := 25) dX8_standers_25 rfl 2 rfl ?_
      refine jr_ishl (pc := 26) dX8_standers_26 ?_
      refine jr_ior (pc := 27) dX8_standers_27 ?_
      refine jr_istore_n (pc := 28) (lv' := [(1, vi (v1 ||| ((1 : Int32) <<< (v2 &&& 31)))), (0, vr 8 n), (2, vi v2)]) dX8_standers_28 rfl (by decide) rfl ?_
      refine jr_iinc (pc := 29) (lv' := [(2, vi (v2 + 1)), (1, vi (v1 ||| ((1 : Int32) <<< (v2 &&& 31)))), (0, vr 8 n)]) (q := 2) dX8_standers_29 rfl (by rfl) (by decide) rfl ?_
      refine jr_goto (pc := 32) (tgt := 4) dX8_standers_32 (by decide) ?_
      exact jr_sub [2, 1, 0] rfl h
theorem dX8_emptyPlinths_0 : decode cX8_emptyPlinths 0 = .ok (.iconst 0, 1) := by decide +kernel
theorem dX8_emptyPlinths_1 : decode cX8_emptyPlinths 1 = .ok (.istore_n 1, 1) := by decide +kernel
theorem dX8_emptyPlinths_2 : decode cX8_emptyPlinths 2 = .ok (.iconst 0, 1) := by decide +kernel
theorem dX8_emptyPlinths_3 : decode cX8_emptyPlinths 3 = .ok (.istore_n 2, 1) := by decide +kernel
theorem dX8_emptyPlinths_4 : decode cX8_emptyPlinths 4 = .ok (.iload_n 2, 1) := by decide +kernel
theorem dX8_emptyPlinths_5 : decode cX8_emptyPlinths 5 = .ok (.aload_n 0, 1) := by decide +kernel
theorem dX8_emptyPlinths_6 : decode cX8_emptyPlinths 6 = .ok (.getfield 27, 3) := by decide +kernel
theorem dX8_emptyPlinths_9 : decode cX8_emptyPlinths 9 = .ok (.getfield 69, 3) := by decide +kernel
theorem dX8_emptyPlinths_12 : decode cX8_emptyPlinths 12 = .ok (.if_icmp .ge 24, 3) := by decide +kernel
theorem dX8_emptyPlinths_15 : decode cX8_emptyPlinths 15 = .ok (.aload_n 0, 1) := by decide +kernel
theorem dX8_emptyPlinths_16 : decode cX8_emptyPlinths 16 = .ok (.iload_n 2, 1) := by decide +kernel
theorem dX8_emptyPlinths_17 : decode cX8_emptyPlinths 17 = .ok (.invokevirtual 62, 3) := by decide +kernel
theorem dX8_emptyPlinths_20 : decode cX8_emptyPlinths 20 = .ok (.iconst (-1), 1) := by decide +kernel
theorem dX8_emptyPlinths_21 : decode cX8_emptyPlinths 21 = .ok (.if_icmp .ne 9, 3) := by decide +kernel
theorem dX8_emptyPlinths_24 : decode cX8_emptyPlinths 24 = .ok (.iload_n 1, 1) := by decide +kernel
theorem dX8_emptyPlinths_25 : decode cX8_emptyPlinths 25 = .ok (.iconst 1, 1) := by decide +kernel
theorem dX8_emptyPlinths_26 : decode cX8_emptyPlinths 26 = .ok (.iload_n 2, 1) := by decide +kernel
theorem dX8_emptyPlinths_27 : decode cX8_emptyPlinths 27 = .ok (.ishl, 1) := by decide +kernel
theorem dX8_emptyPlinths_28 : decode cX8_emptyPlinths 28 = .ok (.ior, 1) := by decide +kernel
theorem dX8_emptyPlinths_29 : decode cX8_emptyPlinths 29 = .ok (.istore_n 1, 1) := by decide +kernel
theorem dX8_emptyPlinths_30 : decode cX8_emptyPlinths 30 = .ok (.iinc 2 1, 3) := by decide +kernel
theorem dX8_emptyPlinths_33 : decode cX8_emptyPlinths 33 = .ok (.goto (-29), 3) := by decide +kernel
theorem dX8_emptyPlinths_36 : decode cX8_emptyPlinths 36 = .ok (.iload_n 1, 1) := by decide +kernel
theorem dX8_emptyPlinths_37 : decode cX8_emptyPlinths 37 = .ok (.ireturn, 1) := by decide +kernel
set_option maxHeartbeats 4000000 in
set_option maxRecDepth 20000 in
theorem en_X8_emptyPlinths {n : Nat} {M : jw_Mem} {Q : Int32 → jw_Mem → Prop} (hn_n : n < 20) (h : jw_J 1 mX8_emptyPlinths 4 [(0, vr 8 n), (1, vi 0), (2, vi 0)] [] M Q) : jw_M 1 mX8_emptyPlinths [vr 8 n] M Q := by
  refine jw_M.of (by decide) (Nat.le_of_ble_eq_true rfl) ?_
  show jw_J 1 mX8_emptyPlinths 0 [(0, vr 8 n)] [] M Q
  refine jr_iconst (pc := 0) (v := 0) dX8_emptyPlinths_0 (by decide) ?_
  refine jr_istore_n (pc := 1) (lv' := [(1, vi 0), (0, vr 8 n)]) dX8_emptyPlinths_1 rfl (by decide) rfl ?_
  refine jr_iconst (pc := 2) (v := 0) dX8_emptyPlinths_2 (by decide) ?_
  refine jr_istore_n (pc := 3) (lv' := [(2, vi 0), (1, vi 0), (0, vr 8 n)]) dX8_emptyPlinths_3 rfl (by decide) rfl ?_
  exact jr_sub [2, 1, 0] rfl h
set_option maxHeartbeats 4000000 in
set_option maxRecDepth 20000 in
theorem bk_X8_emptyPlinths_4 {n : Nat} {v1 : Int32} {v2 : Int32} {M : jw_Mem} {Q : Int32 → jw_Mem → Prop} (hn_n : n < 20) (h : (((M 1 0 1) ≤ v2 → Q v1 M) ∧ (¬ (M 1 0 1) ≤ v2 → (jw_M 0 mX8_whoIsOn [vr 8 n, vi v2] M (fun x1 M2 => ((¬ x1 = (-1) → jw_J 1 mX8_emptyPlinths 4 [(0, vr 8 n), (1, vi v1), (2, vi (v2 + 1))] [] M2 Q) ∧ (x1 = (-1) → jw_J 1 mX8_emptyPlinths 4 [(0, vr 8 n), (1, vi (v1 ||| ((1 : Int32) <<< (v2 &&& 31)))), (2, vi (v2 + 1))] [] M2 Q))))))) : jw_J 1 mX8_emptyPlinths 4 [(0, vr 8 n), (1, vi v1), (2, vi v2)] [] M Q := by
  refine jr_iload_n (pc := 4) dX8_emptyPlinths_4 rfl 2 rfl ?_
  refine jr_aload_n (pc := 5) dX8_emptyPlinths_5 rfl 0 rfl ?_
  refine jr_get (pc := 6) (v := vr 1 0) fg_X8_27 (by show n < 20; omega) rfl dX8_emptyPlinths_6 ?_
  refine jr_get (pc := 9) (v := vi (M 1 0 1)) fg_X8_69 (by decide) rfl dX8_emptyPlinths_9 ?_
  refine jr_icmp_ge (pc := 12) (tgt := 36) dX8_emptyPlinths_12 (by decide) (fun c => ?_) (fun c => ?_)
  · replace h := h.1 c
    refine jr_iload_n (pc := 36) dX8_emptyPlinths_36 rfl 1 rfl ?_
    exact jr_iret (pc := 37) rfl dX8_emptyPlinths_37 h
  · replace h := h.2 c
    refine jr_aload_n (pc := 15) dX8_emptyPlinths_15 rfl 0 rfl ?_
    refine jr_iload_n (pc := 16) dX8_emptyPlinths_16 rfl 2 rfl ?_
    refine jr_callV (pc := 17) (d' := 0) (mt' := mX8_whoIsOn) (k := 8) (n := n) (As := [vi v2]) (st := []) fc_X8_62 (by decide) (by show n < 20; omega) (Nat.le_of_ble_eq_true rfl) rfl dX8_emptyPlinths_17 (jw_M.mono h (fun x1 M2 h => ?_))
    show jw_J 1 mX8_emptyPlinths 20 [(0, vr 8 n), (1, vi v1), (2, vi v2)] [vi x1] M2 Q
    refine jr_iconst (pc := 20) (v := (-1)) dX8_emptyPlinths_20 (by decide) ?_
    refine jr_icmp_ne (pc := 21) (tgt := 30) dX8_emptyPlinths_21 (by decide) (fun c => ?_) (fun c => ?_)
    · replace h := h.1 c
      refine jr_iinc (pc := 30) (lv' := [(2, vi (v2 + 1)), (0, vr 8 n), (1, vi v1)]) (q := 2) dX8_emptyPlinths_30 rfl (by rfl) (by decide) rfl ?_
      refine jr_goto (pc := 33) (tgt := 4) dX8_emptyPlinths_33 (by decide) ?_
      exact jr_sub [1, 2, 0] rfl h
    · replace h := h.2 c
      refine jr_iload_n (pc := 24) dX8_emptyPlinths_24 rfl 1 rfl ?_
      refine jr_iconst (pc := 25) (v := 1) dX8_emptyPlinths_25 (by decide) ?_
      refine jr_iload_n (pc := 26) dX8_emptyPlinths_26 rfl 2 rfl ?_
      refine jr_ishl (pc := 27) dX8_emptyPlinths_27 ?_
      refine jr_ior (pc := 28) dX8_emptyPlinths_28 ?_
      refine jr_istore_n (pc := 29) (lv' := [(1, vi (v1 ||| ((1 : Int32) <<< (v2 &&& 31)))), (0, vr 8 n), (2, vi v2)]) dX8_emptyPlinths_29 rfl (by decide) rfl ?_
      refine jr_iinc (pc := 30) (lv' := [(2, vi (v2 + 1)), (1, vi (v1 ||| ((1 : Int32) <<< (v2 &&& 31)))), (0, vr 8 n)]) (q := 2) dX8_emptyPlinths_30 rfl (by rfl) (by decide) rfl ?_
      refine jr_goto (pc := 33) (tgt := 4) dX8_emptyPlinths_33 (by decide) ?_
      exact jr_sub [2, 1, 0] rfl h
theorem dX8_walkersUnder_0 : decode cX8_walkersUnder 0 = .ok (.iconst 0, 1) := by decide +kernel
theorem dX8_walkersUnder_1 : decode cX8_walkersUnder 1 = .ok (.istore_n 2, 1) := by decide +kernel
theorem dX8_walkersUnder_2 : decode cX8_walkersUnder 2 = .ok (.iconst 0, 1) := by decide +kernel
theorem dX8_walkersUnder_3 : decode cX8_walkersUnder 3 = .ok (.istore_n 3, 1) := by decide +kernel
theorem dX8_walkersUnder_4 : decode cX8_walkersUnder 4 = .ok (.iload_n 3, 1) := by decide +kernel
theorem dX8_walkersUnder_5 : decode cX8_walkersUnder 5 = .ok (.aload_n 0, 1) := by decide +kernel
theorem dX8_walkersUnder_6 : decode cX8_walkersUnder 6 = .ok (.getfield 27, 3) := by decide +kernel
theorem dX8_walkersUnder_9 : decode cX8_walkersUnder 9 = .ok (.getfield 72, 3) := by decide +kernel
theorem dX8_walkersUnder_12 : decode cX8_walkersUnder 12 = .ok (.if_icmp .ge 28, 3) := by decide +kernel
theorem dX8_walkersUnder_15 : decode cX8_walkersUnder 15 = .ok (.aload_n 0, 1) := by decide +kernel
theorem dX8_walkersUnder_16 : decode cX8_walkersUnder 16 = .ok (.getfield 21, 3) := by decide +kernel
theorem dX8_walkersUnder_19 : decode cX8_walkersUnder 19 = .ok (.iload_n 3, 1) := by decide +kernel
theorem dX8_walkersUnder_20 : decode cX8_walkersUnder 20 = .ok (.iaload, 1) := by decide +kernel
theorem dX8_walkersUnder_21 : decode cX8_walkersUnder 21 = .ok (.iload_n 1, 1) := by decide +kernel
theorem dX8_walkersUnder_22 : decode cX8_walkersUnder 22 = .ok (.invokestatic 75, 3) := by decide +kernel
theorem dX8_walkersUnder_25 : decode cX8_walkersUnder 25 = .ok (.ifCond .eq 9, 3) := by decide +kernel
theorem dX8_walkersUnder_28 : decode cX8_walkersUnder 28 = .ok (.iload_n 2, 1) := by decide +kernel
theorem dX8_walkersUnder_29 : decode cX8_walkersUnder 29 = .ok (.iconst 1, 1) := by decide +kernel
theorem dX8_walkersUnder_30 : decode cX8_walkersUnder 30 = .ok (.iload_n 3, 1) := by decide +kernel
theorem dX8_walkersUnder_31 : decode cX8_walkersUnder 31 = .ok (.ishl, 1) := by decide +kernel
theorem dX8_walkersUnder_32 : decode cX8_walkersUnder 32 = .ok (.ior, 1) := by decide +kernel
theorem dX8_walkersUnder_33 : decode cX8_walkersUnder 33 = .ok (.istore_n 2, 1) := by decide +kernel
theorem dX8_walkersUnder_34 : decode cX8_walkersUnder 34 = .ok (.iinc 3 1, 3) := by decide +kernel
theorem dX8_walkersUnder_37 : decode cX8_walkersUnder 37 = .ok (.goto (-33), 3) := by decide +kernel
theorem dX8_walkersUnder_40 : decode cX8_walkersUnder 40 = .ok (.iload_n 2, 1) := by decide +kernel
theorem dX8_walkersUnder_41 : decode cX8_walkersUnder 41 = .ok (.ireturn, 1) := by decide +kernel
set_option maxHeartbeats 4000000 in
set_option maxRecDepth 20000 in
theorem en_X8_walkersUnder {n : Nat} {a1 : Int32} {M : jw_Mem} {Q : Int32 → jw_Mem → Prop} (hn_n : n < 20) (h : jw_J 1 mX8_walkersUnder 4 [(0, vr 8 n), (1, vi a1), (2, vi 0), (3, vi 0)] [] M Q) : jw_M 1 mX8_walkersUnder [vr 8 n, vi a1] M Q := by
  refine jw_M.of (by decide) (Nat.le_of_ble_eq_true rfl) ?_
  show jw_J 1 mX8_walkersUnder 0 [(0, vr 8 n), (1, vi a1)] [] M Q
  refine jr_iconst (pc := 0) (v := 0) dX8_walkersUnder_0 (by decide) ?_
  refine jr_istore_n (pc := 1) (lv' := [(2, vi 0), (0, vr 8 n), (1, vi a1)]) dX8_walkersUnder_1 rfl (by decide) rfl ?_
  refine jr_iconst (pc := 2) (v := 0) dX8_walkersUnder_2 (by decide) ?_
  refine jr_istore_n (pc := 3) (lv' := [(3, vi 0), (2, vi 0), (0, vr 8 n), (1, vi a1)]) dX8_walkersUnder_3 rfl (by decide) rfl ?_
  exact jr_sub [2, 3, 1, 0] rfl h
set_option maxHeartbeats 4000000 in
set_option maxRecDepth 20000 in
theorem bk_X8_walkersUnder_4 {n : Nat} {v1 : Int32} {v2 : Int32} {v3 : Int32} {M : jw_Mem} {Q : Int32 → jw_Mem → Prop} (hn_n : n < 20) (h : (((M 1 0 3) ≤ v3 → Q v2 M) ∧ (¬ (M 1 0 3) ≤ v3 → (vp_in v3 7 ∧ (jw_M 0 mX10_isIn [vi (M 29 n v3.toNatClampNeg), vi v1] M (fun x1 M2 => ((x1 = 0 → jw_J 1 mX8_walkersUnder 4 [(0, vr 8 n), (1, vi v1), (2, vi v2), (3, vi (v3 + 1))] [] M2 Q) ∧ (¬ x1 = 0 → jw_J 1 mX8_walkersUnder 4 [(0, vr 8 n), (1, vi v1), (2, vi (v2 ||| ((1 : Int32) <<< (v3 &&& 31)))), (3, vi (v3 + 1))] [] M2 Q)))))))) : jw_J 1 mX8_walkersUnder 4 [(0, vr 8 n), (1, vi v1), (2, vi v2), (3, vi v3)] [] M Q := by
  refine jr_iload_n (pc := 4) dX8_walkersUnder_4 rfl 3 rfl ?_
  refine jr_aload_n (pc := 5) dX8_walkersUnder_5 rfl 0 rfl ?_
  refine jr_get (pc := 6) (v := vr 1 0) fg_X8_27 (by show n < 20; omega) rfl dX8_walkersUnder_6 ?_
  refine jr_get (pc := 9) (v := vi (M 1 0 3)) fg_X8_72 (by decide) rfl dX8_walkersUnder_9 ?_
  refine jr_icmp_ge (pc := 12) (tgt := 40) dX8_walkersUnder_12 (by decide) (fun c => ?_) (fun c => ?_)
  · replace h := h.1 c
    refine jr_iload_n (pc := 40) dX8_walkersUnder_40 rfl 2 rfl ?_
    exact jr_iret (pc := 41) rfl dX8_walkersUnder_41 h
  · replace h := h.2 c
    refine jr_aload_n (pc := 15) dX8_walkersUnder_15 rfl 0 rfl ?_
    refine jr_get (pc := 16) (v := vr 29 n) fg_X8_21 (by show n < 20; omega) rfl dX8_walkersUnder_16 ?_
    refine jr_iload_n (pc := 19) dX8_walkersUnder_19 rfl 3 rfl ?_
    refine jr_iald (pc := 20) ⟨rfl, (by show n < 20; omega)⟩ h.1 dX8_walkersUnder_20 ?_
    replace h := h.2
    refine jr_iload_n (pc := 21) dX8_walkersUnder_21 rfl 1 rfl ?_
    refine jr_callN (pc := 22) (d' := 0) (mt' := mX10_isIn) (As := [vi (M 29 n v3.toNatClampNeg), vi v1]) (st := []) fc_X8_75 (by decide) (Nat.le_of_ble_eq_true rfl) rfl dX8_walkersUnder_22 (jw_M.mono h (fun x1 M2 h => ?_))
    show jw_J 1 mX8_walkersUnder 25 [(0, vr 8 n), (1, vi v1), (2, vi v2), (3, vi v3)] [vi x1] M2 Q
    refine jr_if_eq (pc := 25) (tgt := 34) dX8_walkersUnder_25 (by decide) (fun c => ?_) (fun c => ?_)
    · replace h := h.1 c
      refine jr_iinc (pc := 34) (lv' := [(3, vi (v3 + 1)), (0, vr 8 n), (1, vi v1), (2, vi v2)]) (q := 3) dX8_walkersUnder_34 rfl (by rfl) (by decide) rfl ?_
      refine jr_goto (pc := 37) (tgt := 4) dX8_walkersUnder_37 (by decide) ?_
      exact jr_sub [1, 2, 3, 0] rfl h
    · replace h := h.2 c
      refine jr_iload_n (pc := 28) dX8_walkersUnder_28 rfl 2 rfl ?_
      refine jr_iconst (pc := 29) (v := 1) dX8_walkersUnder_29 (by decide) ?_
      refine jr_iload_n (pc := 30) dX8_walkersUnder_30 rfl 3 rfl ?_
      refine jr_ishl (pc := 31) dX8_walkersUnder_31 ?_
      refine jr_ior (pc := 32) dX8_walkersUnder_32 ?_
      refine jr_istore_n (pc := 33) (lv' := [(2, vi (v2 ||| ((1 : Int32) <<< (v3 &&& 31)))), (0, vr 8 n), (1, vi v1), (3, vi v3)]) dX8_walkersUnder_33 rfl (by decide) rfl ?_
      refine jr_iinc (pc := 34) (lv' := [(3, vi (v3 + 1)), (2, vi (v2 ||| ((1 : Int32) <<< (v3 &&& 31)))), (0, vr 8 n), (1, vi v1)]) (q := 3) dX8_walkersUnder_34 rfl (by rfl) (by decide) rfl ?_
      refine jr_goto (pc := 37) (tgt := 4) dX8_walkersUnder_37 (by decide) ?_
      exact jr_sub [2, 3, 1, 0] rfl h
theorem dX8_walkersLiking_0 : decode cX8_walkersLiking 0 = .ok (.iconst 0, 1) := by decide +kernel
theorem dX8_walkersLiking_1 : decode cX8_walkersLiking 1 = .ok (.istore_n 2, 1) := by decide +kernel
theorem dX8_walkersLiking_2 : decode cX8_walkersLiking 2 = .ok (.iconst 0, 1) := by decide +kernel
theorem dX8_walkersLiking_3 : decode cX8_walkersLiking 3 = .ok (.istore_n 3, 1) := by decide +kernel
theorem dX8_walkersLiking_4 : decode cX8_walkersLiking 4 = .ok (.iload_n 3, 1) := by decide +kernel
theorem dX8_walkersLiking_5 : decode cX8_walkersLiking 5 = .ok (.aload_n 0, 1) := by decide +kernel
theorem dX8_walkersLiking_6 : decode cX8_walkersLiking 6 = .ok (.getfield 27, 3) := by decide +kernel
theorem dX8_walkersLiking_9 : decode cX8_walkersLiking 9 = .ok (.getfield 72, 3) := by decide +kernel
theorem dX8_walkersLiking_12 : decode cX8_walkersLiking 12 = .ok (.if_icmp .ge 28, 3) := by decide +kernel
theorem dX8_walkersLiking_15 : decode cX8_walkersLiking 15 = .ok (.aload_n 0, 1) := by decide +kernel
theorem dX8_walkersLiking_16 : decode cX8_walkersLiking 16 = .ok (.getfield 24, 3) := by decide +kernel
theorem dX8_walkersLiking_19 : decode cX8_walkersLiking 19 = .ok (.iload_n 3, 1) := by decide +kernel
theorem dX8_walkersLiking_20 : decode cX8_walkersLiking 20 = .ok (.iaload, 1) := by decide +kernel
theorem dX8_walkersLiking_21 : decode cX8_walkersLiking 21 = .ok (.iload_n 1, 1) := by decide +kernel
theorem dX8_walkersLiking_22 : decode cX8_walkersLiking 22 = .ok (.invokestatic 75, 3) := by decide +kernel
theorem dX8_walkersLiking_25 : decode cX8_walkersLiking 25 = .ok (.ifCond .eq 9, 3) := by decide +kernel
theorem dX8_walkersLiking_28 : decode cX8_walkersLiking 28 = .ok (.iload_n 2, 1) := by decide +kernel
theorem dX8_walkersLiking_29 : decode cX8_walkersLiking 29 = .ok (.iconst 1, 1) := by decide +kernel
theorem dX8_walkersLiking_30 : decode cX8_walkersLiking 30 = .ok (.iload_n 3, 1) := by decide +kernel
theorem dX8_walkersLiking_31 : decode cX8_walkersLiking 31 = .ok (.ishl, 1) := by decide +kernel
theorem dX8_walkersLiking_32 : decode cX8_walkersLiking 32 = .ok (.ior, 1) := by decide +kernel
theorem dX8_walkersLiking_33 : decode cX8_walkersLiking 33 = .ok (.istore_n 2, 1) := by decide +kernel
theorem dX8_walkersLiking_34 : decode cX8_walkersLiking 34 = .ok (.iinc 3 1, 3) := by decide +kernel
theorem dX8_walkersLiking_37 : decode cX8_walkersLiking 37 = .ok (.goto (-33), 3) := by decide +kernel
theorem dX8_walkersLiking_40 : decode cX8_walkersLiking 40 = .ok (.iload_n 2, 1) := by decide +kernel
theorem dX8_walkersLiking_41 : decode cX8_walkersLiking 41 = .ok (.ireturn, 1) := by decide +kernel
set_option maxHeartbeats 4000000 in
set_option maxRecDepth 20000 in
theorem en_X8_walkersLiking {n : Nat} {a1 : Int32} {M : jw_Mem} {Q : Int32 → jw_Mem → Prop} (hn_n : n < 20) (h : jw_J 1 mX8_walkersLiking 4 [(0, vr 8 n), (1, vi a1), (2, vi 0), (3, vi 0)] [] M Q) : jw_M 1 mX8_walkersLiking [vr 8 n, vi a1] M Q := by
  refine jw_M.of (by decide) (Nat.le_of_ble_eq_true rfl) ?_
  show jw_J 1 mX8_walkersLiking 0 [(0, vr 8 n), (1, vi a1)] [] M Q
  refine jr_iconst (pc := 0) (v := 0) dX8_walkersLiking_0 (by decide) ?_
  refine jr_istore_n (pc := 1) (lv' := [(2, vi 0), (0, vr 8 n), (1, vi a1)]) dX8_walkersLiking_1 rfl (by decide) rfl ?_
  refine jr_iconst (pc := 2) (v := 0) dX8_walkersLiking_2 (by decide) ?_
  refine jr_istore_n (pc := 3) (lv' := [(3, vi 0), (2, vi 0), (0, vr 8 n), (1, vi a1)]) dX8_walkersLiking_3 rfl (by decide) rfl ?_
  exact jr_sub [2, 3, 1, 0] rfl h
set_option maxHeartbeats 4000000 in
set_option maxRecDepth 20000 in
theorem bk_X8_walkersLiking_4 {n : Nat} {v1 : Int32} {v2 : Int32} {v3 : Int32} {M : jw_Mem} {Q : Int32 → jw_Mem → Prop} (hn_n : n < 20) (h : (((M 1 0 3) ≤ v3 → Q v2 M) ∧ (¬ (M 1 0 3) ≤ v3 → (vp_in v3 7 ∧ (jw_M 0 mX10_isIn [vi (M 30 n v3.toNatClampNeg), vi v1] M (fun x1 M2 => ((x1 = 0 → jw_J 1 mX8_walkersLiking 4 [(0, vr 8 n), (1, vi v1), (2, vi v2), (3, vi (v3 + 1))] [] M2 Q) ∧ (¬ x1 = 0 → jw_J 1 mX8_walkersLiking 4 [(0, vr 8 n), (1, vi v1), (2, vi (v2 ||| ((1 : Int32) <<< (v3 &&& 31)))), (3, vi (v3 + 1))] [] M2 Q)))))))) : jw_J 1 mX8_walkersLiking 4 [(0, vr 8 n), (1, vi v1), (2, vi v2), (3, vi v3)] [] M Q := by
  refine jr_iload_n (pc := 4) dX8_walkersLiking_4 rfl 3 rfl ?_
  refine jr_aload_n (pc := 5) dX8_walkersLiking_5 rfl 0 rfl ?_
  refine jr_get (pc := 6) (v := vr 1 0) fg_X8_27 (by show n < 20; omega) rfl dX8_walkersLiking_6 ?_
  refine jr_get (pc := 9) (v := vi (M 1 0 3)) fg_X8_72 (by decide) rfl dX8_walkersLiking_9 ?_
  refine jr_icmp_ge (pc := 12) (tgt := 40) dX8_walkersLiking_12 (by decide) (fun c => ?_) (fun c => ?_)
  · replace h := h.1 c
    refine jr_iload_n (pc := 40) dX8_walkersLiking_40 rfl 2 rfl ?_
    exact jr_iret (pc := 41) rfl dX8_walkersLiking_41 h
  · replace h := h.2 c
    refine jr_aload_n (pc := 15) dX8_walkersLiking_15 rfl 0 rfl ?_
    refine jr_get (pc := 16) (v := vr 30 n) fg_X8_24 (by show n < 20; omega) rfl dX8_walkersLiking_16 ?_
    refine jr_iload_n (pc := 19) dX8_walkersLiking_19 rfl 3 rfl ?_
    refine jr_iald (pc := 20) ⟨rfl, (by show n < 20; omega)⟩ h.1 dX8_walkersLiking_20 ?_
    replace h := h.2
    refine jr_iload_n (pc := 21) dX8_walkersLiking_21 rfl 1 rfl ?_
    refine jr_callN (pc := 22) (d' := 0) (mt' := mX10_isIn) (As := [vi (M 30 n v3.toNatClampNeg), vi v1]) (st := []) fc_X8_75 (by decide) (Nat.le_of_ble_eq_true rfl) rfl dX8_walkersLiking_22 (jw_M.mono h (fun x1 M2 h => ?_))
    show jw_J 1 mX8_walkersLiking 25 [(0, vr 8 n), (1, vi v1), (2, vi v2), (3, vi v3)] [vi x1] M2 Q
    refine jr_if_eq (pc := 25) (tgt := 34) dX8_walkersLiking_25 (by decide) (fun c => ?_) (fun c => ?_)
    · replace h := h.1 c
      refine jr_iinc (pc := 34) (lv' := [(3, vi (v3 + 1)), (0, vr 8 n), (1, vi v1), (2, vi v2)]) (q := 3) dX8_walkersLiking_34 rfl (by rfl) (by decide) rfl ?_
      refine jr_goto (pc := 37) (tgt := 4) dX8_walkersLiking_37 (by decide) ?_
      exact jr_sub [1, 2, 3, 0] rfl h
    · replace h := h.2 c
      refine jr_iload_n (pc := 28) dX8_walkersLiking_28 rfl 2 rfl ?_
      refine jr_iconst (pc := 29) (v := 1) dX8_walkersLiking_29 (by decide) ?_
      refine jr_iload_n (pc := 30) dX8_walkersLiking_30 rfl 3 rfl ?_
      refine jr_ishl (pc := 31) dX8_walkersLiking_31 ?_
      refine jr_ior (pc := 32) dX8_walkersLiking_32 ?_
      refine jr_istore_n (pc := 33) (lv' := [(2, vi (v2 ||| ((1 : Int32) <<< (v3 &&& 31)))), (0, vr 8 n), (1, vi v1), (3, vi v3)]) dX8_walkersLiking_33 rfl (by decide) rfl ?_
      refine jr_iinc (pc := 34) (lv' := [(3, vi (v3 + 1)), (2, vi (v2 ||| ((1 : Int32) <<< (v3 &&& 31)))), (0, vr 8 n), (1, vi v1)]) (q := 3) dX8_walkersLiking_34 rfl (by rfl) (by decide) rfl ?_
      refine jr_goto (pc := 37) (tgt := 4) dX8_walkersLiking_37 (by decide) ?_
      exact jr_sub [2, 3, 1, 0] rfl h
theorem dX8_lead_0 : decode cX8_lead 0 = .ok (.aload_n 0, 1) := by decide +kernel
theorem dX8_lead_1 : decode cX8_lead 1 = .ok (.iload_n 1, 1) := by decide +kernel
theorem dX8_lead_2 : decode cX8_lead 2 = .ok (.invokevirtual 79, 3) := by decide +kernel
theorem dX8_lead_5 : decode cX8_lead 5 = .ok (.istore_n 3, 1) := by decide +kernel
theorem dX8_lead_6 : decode cX8_lead 6 = .ok (.aload_n 0, 1) := by decide +kernel
theorem dX8_lead_7 : decode cX8_lead 7 = .ok (.getfield 27, 3) := by decide +kernel
theorem dX8_lead_10 : decode cX8_lead 10 = .ok (.iload_n 2, 1) := by decide +kernel
theorem dX8_lead_11 : decode cX8_lead 11 = .ok (.iload_n 3, 1) := by decide +kernel
theorem dX8_lead_12 : decode cX8_lead 12 = .ok (.iand, 1) := by decide +kernel
theorem dX8_lead_13 : decode cX8_lead 13 = .ok (.invokevirtual 82, 3) := by decide +kernel
theorem dX8_lead_16 : decode cX8_lead 16 = .ok (.aload_n 0, 1) := by decide +kernel
theorem dX8_lead_17 : decode cX8_lead 17 = .ok (.getfield 27, 3) := by decide +kernel
theorem dX8_lead_20 : decode cX8_lead 20 = .ok (.iload_n 2, 1) := by decide +kernel
theorem dX8_lead_21 : decode cX8_lead 21 = .ok (.iload_n 3, 1) := by decide +kernel
theorem dX8_lead_22 : decode cX8_lead 22 = .ok (.iconst (-1), 1) := by decide +kernel
theorem dX8_lead_23 : decode cX8_lead 23 = .ok (.ixor, 1) := by decide +kernel
theorem dX8_lead_24 : decode cX8_lead 24 = .ok (.iand, 1) := by decide +kernel
theorem dX8_lead_25 : decode cX8_lead 25 = .ok (.invokevirtual 82, 3) := by decide +kernel
theorem dX8_lead_28 : decode cX8_lead 28 = .ok (.isub, 1) := by decide +kernel
theorem dX8_lead_29 : decode cX8_lead 29 = .ok (.ireturn, 1) := by decide +kernel
set_option maxHeartbeats 4000000 in
set_option maxRecDepth 20000 in
theorem en_X8_lead {n : Nat} {a1 : Int32} {a2 : Int32} {M : jw_Mem} {Q : Int32 → jw_Mem → Prop} (hn_n : n < 20) (h : (jw_M 1 mX8_walkersLiking [vr 8 n, vi a1] M (fun x1 M2 => (jw_M 1 mX1_votesOf [vr 1 0, vi (a2 &&& x1)] M2 (fun x3 M4 => (jw_M 1 mX1_votesOf [vr 1 0, vi (a2 &&& (x1 ^^^ (-1)))] M4 (fun x5 M6 => Q (x3 - x5) M6))))))) : jw_M 2 mX8_lead [vr 8 n, vi a1, vi a2] M Q := by
  refine jw_M.of (by decide) (Nat.le_of_ble_eq_true rfl) ?_
  show jw_J 2 mX8_lead 0 [(0, vr 8 n), (1, vi a1), (2, vi a2)] [] M Q
  refine jr_aload_n (pc := 0) dX8_lead_0 rfl 0 rfl ?_
  refine jr_iload_n (pc := 1) dX8_lead_1 rfl 1 rfl ?_
  refine jr_callV (pc := 2) (d' := 1) (mt' := mX8_walkersLiking) (k := 8) (n := n) (As := [vi a1]) (st := []) fc_X8_79 (by decide) (by show n < 20; omega) (Nat.le_of_ble_eq_true rfl) rfl dX8_lead_2 (jw_M.mono h (fun x1 M2 h => ?_))
  show jw_J 2 mX8_lead 5 [(0, vr 8 n), (1, vi a1), (2, vi a2)] [vi x1] M2 Q
  refine jr_istore_n (pc := 5) (lv' := [(3, vi x1), (0, vr 8 n), (1, vi a1), (2, vi a2)]) dX8_lead_5 rfl (by decide) rfl ?_
  refine jr_aload_n (pc := 6) dX8_lead_6 rfl 1 rfl ?_
  refine jr_get (pc := 7) (v := vr 1 0) fg_X8_27 (by show n < 20; omega) rfl dX8_lead_7 ?_
  refine jr_iload_n (pc := 10) dX8_lead_10 rfl 3 rfl ?_
  refine jr_iload_n (pc := 11) dX8_lead_11 rfl 0 rfl ?_
  refine jr_iand (pc := 12) dX8_lead_12 ?_
  refine jr_callV (pc := 13) (d' := 1) (mt' := mX1_votesOf) (k := 1) (n := 0) (As := [vi (a2 &&& x1)]) (st := []) fc_X8_82 (by decide) (by decide) (Nat.le_of_ble_eq_true rfl) rfl dX8_lead_13 (jw_M.mono h (fun x3 M4 h => ?_))
  show jw_J 2 mX8_lead 16 [(3, vi x1), (0, vr 8 n), (1, vi a1), (2, vi a2)] [vi x3] M4 Q
  refine jr_aload_n (pc := 16) dX8_lead_16 rfl 1 rfl ?_
  refine jr_get (pc := 17) (v := vr 1 0) fg_X8_27 (by show n < 20; omega) rfl dX8_lead_17 ?_
  refine jr_iload_n (pc := 20) dX8_lead_20 rfl 3 rfl ?_
  refine jr_iload_n (pc := 21) dX8_lead_21 rfl 0 rfl ?_
  refine jr_iconst (pc := 22) (v := (-1)) dX8_lead_22 (by decide) ?_
  refine jr_ixor (pc := 23) dX8_lead_23 ?_
  refine jr_iand (pc := 24) dX8_lead_24 ?_
  refine jr_callV (pc := 25) (d' := 1) (mt' := mX1_votesOf) (k := 1) (n := 0) (As := [vi (a2 &&& (x1 ^^^ (-1)))]) (st := [vi x3]) fc_X8_82 (by decide) (by decide) (Nat.le_of_ble_eq_true rfl) rfl dX8_lead_25 (jw_M.mono h (fun x5 M6 h => ?_))
  show jw_J 2 mX8_lead 28 [(3, vi x1), (0, vr 8 n), (1, vi a1), (2, vi a2)] [vi x5, vi x3] M6 Q
  refine jr_isub (pc := 28) dX8_lead_28 ?_
  exact jr_iret (pc := 29) rfl dX8_lead_29 h
theorem dX8_margin_0 : decode cX8_margin 0 = .ok (.aload_n 0, 1) := by decide +kernel
theorem dX8_margin_1 : decode cX8_margin 1 = .ok (.iload_n 1, 1) := by decide +kernel
theorem dX8_margin_2 : decode cX8_margin 2 = .ok (.invokevirtual 59, 3) := by decide +kernel
theorem dX8_margin_5 : decode cX8_margin 5 = .ok (.ifCond .eq 25, 3) := by decide +kernel
theorem dX8_margin_8 : decode cX8_margin 8 = .ok (.sipush 1000, 3) := by decide +kernel
theorem dX8_margin_11 : decode cX8_margin 11 = .ok (.aload_n 0, 1) := by decide +kernel
theorem dX8_margin_12 : decode cX8_margin 12 = .ok (.iload_n 1, 1) := by decide +kernel
theorem dX8_margin_13 : decode cX8_margin 13 = .ok (.aload_n 0, 1) := by decide +kernel
theorem dX8_margin_14 : decode cX8_margin 14 = .ok (.aload_n 0, 1) := by decide +kernel
theorem dX8_margin_15 : decode cX8_margin 15 = .ok (.getfield 9, 3) := by decide +kernel
theorem dX8_margin_18 : decode cX8_margin 18 = .ok (.iload_n 1, 1) := by decide +kernel
theorem dX8_margin_19 : decode cX8_margin 19 = .ok (.iaload, 1) := by decide +kernel
theorem dX8_margin_20 : decode cX8_margin 20 = .ok (.invokevirtual 85, 3) := by decide +kernel
theorem dX8_margin_23 : decode cX8_margin 23 = .ok (.invokevirtual 88, 3) := by decide +kernel
theorem dX8_margin_26 : decode cX8_margin 26 = .ok (.iadd, 1) := by decide +kernel
theorem dX8_margin_27 : decode cX8_margin 27 = .ok (.goto 4, 3) := by decide +kernel
theorem dX8_margin_30 : decode cX8_margin 30 = .ok (.iconst (-1), 1) := by decide +kernel
theorem dX8_margin_31 : decode cX8_margin 31 = .ok (.ireturn, 1) := by decide +kernel
set_option maxHeartbeats 4000000 in
set_option maxRecDepth 20000 in
theorem en_X8_margin {n : Nat} {a1 : Int32} {M : jw_Mem} {Q : Int32 → jw_Mem → Prop} (hn_n : n < 20) (h : (jw_M 1 mX8_stands [vr 8 n, vi a1] M (fun x1 M2 => ((x1 = 0 → Q (-1) M2) ∧ (¬ x1 = 0 → (vp_in a1 6 ∧ (jw_M 1 mX8_walkersUnder [vr 8 n, vi (M2 26 n a1.toNatClampNeg)] M2 (fun x3 M4 => (jw_M 2 mX8_lead [vr 8 n, vi a1, vi x3] M4 (fun x5 M6 => Q (1000 + x5) M6)))))))))) : jw_M 3 mX8_margin [vr 8 n, vi a1] M Q := by
  refine jw_M.of (by decide) (Nat.le_of_ble_eq_true rfl) ?_
  show jw_J 3 mX8_margin 0 [(0, vr 8 n), (1, vi a1)] [] M Q
  refine jr_aload_n (pc := 0) dX8_margin_0 rfl 0 rfl ?_
  refine jr_iload_n (pc := 1) dX8_margin_1 rfl 1 rfl ?_
  refine jr_callV (pc := 2) (d' := 1) (mt' := mX8_stands) (k := 8) (n := n) (As := [vi a1]) (st := []) fc_X8_59 (by decide) (by show n < 20; omega) (Nat.le_of_ble_eq_true rfl) rfl dX8_margin_2 (jw_M.mono h (fun x1 M2 h => ?_))
  show jw_J 3 mX8_margin 5 [(0, vr 8 n), (1, vi a1)] [vi x1] M2 Q
  refine jr_if_eq (pc := 5) (tgt := 30) dX8_margin_5 (by decide) (fun c => ?_) (fun c => ?_)
  · replace h := h.1 c
    refine jr_iconst (pc := 30) (v := (-1)) dX8_margin_30 (by decide) ?_
    exact jr_iret (pc := 31) rfl dX8_margin_31 h
  · replace h := h.2 c
    refine jr_sipush (pc := 8) (v := 1000) dX8_margin_8 (by decide) ?_
    refine jr_aload_n (pc := 11) dX8_margin_11 rfl 0 rfl ?_
    refine jr_iload_n (pc := 12) dX8_margin_12 rfl 1 rfl ?_
    refine jr_aload_n (pc := 13) dX8_margin_13 rfl 0 rfl ?_
    refine jr_aload_n (pc := 14) dX8_margin_14 rfl 0 rfl ?_
    refine jr_get (pc := 15) (v := vr 26 n) fg_X8_9 (by show n < 20; omega) rfl dX8_margin_15 ?_
    refine jr_iload_n (pc := 18) dX8_margin_18 rfl 1 rfl ?_
    refine jr_iald (pc := 19) ⟨rfl, (by show n < 20; omega)⟩ h.1 dX8_margin_19 ?_
    replace h := h.2
    refine jr_callV (pc := 20) (d' := 1) (mt' := mX8_walkersUnder) (k := 8) (n := n) (As := [vi (M2 26 n a1.toNatClampNeg)]) (st := [vi a1, vr 8 n, vi 1000]) fc_X8_85 (by decide) (by show n < 20; omega) (Nat.le_of_ble_eq_true rfl) rfl dX8_margin_20 (jw_M.mono h (fun x3 M4 h => ?_))
    show jw_J 3 mX8_margin 23 [(0, vr 8 n), (1, vi a1)] [vi x3, vi a1, vr 8 n, vi 1000] M4 Q
    refine jr_callV (pc := 23) (d' := 2) (mt' := mX8_lead) (k := 8) (n := n) (As := [vi a1, vi x3]) (st := [vi 1000]) fc_X8_88 (by decide) (by show n < 20; omega) (Nat.le_of_ble_eq_true rfl) rfl dX8_margin_23 (jw_M.mono h (fun x5 M6 h => ?_))
    show jw_J 3 mX8_margin 26 [(0, vr 8 n), (1, vi a1)] [vi x5, vi 1000] M6 Q
    refine jr_iadd (pc := 26) dX8_margin_26 ?_
    refine jr_goto (pc := 27) (tgt := 31) dX8_margin_27 (by decide) ?_
    exact jr_iret (pc := 31) rfl dX8_margin_31 h
theorem dX8_outvoted_0 : decode cX8_outvoted 0 = .ok (.iconst 0, 1) := by decide +kernel
theorem dX8_outvoted_1 : decode cX8_outvoted 1 = .ok (.istore_n 1, 1) := by decide +kernel
theorem dX8_outvoted_2 : decode cX8_outvoted 2 = .ok (.iconst 0, 1) := by decide +kernel
theorem dX8_outvoted_3 : decode cX8_outvoted 3 = .ok (.istore_n 2, 1) := by decide +kernel
theorem dX8_outvoted_4 : decode cX8_outvoted 4 = .ok (.iload_n 2, 1) := by decide +kernel
theorem dX8_outvoted_5 : decode cX8_outvoted 5 = .ok (.aload_n 0, 1) := by decide +kernel
theorem dX8_outvoted_6 : decode cX8_outvoted 6 = .ok (.getfield 27, 3) := by decide +kernel
theorem dX8_outvoted_9 : decode cX8_outvoted 9 = .ok (.getfield 66, 3) := by decide +kernel
theorem dX8_outvoted_12 : decode cX8_outvoted 12 = .ok (.if_icmp .ge 41, 3) := by decide +kernel
theorem dX8_outvoted_15 : decode cX8_outvoted 15 = .ok (.aload_n 0, 1) := by decide +kernel
theorem dX8_outvoted_16 : decode cX8_outvoted 16 = .ok (.iload_n 2, 1) := by decide +kernel
theorem dX8_outvoted_17 : decode cX8_outvoted 17 = .ok (.invokevirtual 59, 3) := by decide +kernel
theorem dX8_outvoted_20 : decode cX8_outvoted 20 = .ok (.ifCond .eq 27, 3) := by decide +kernel
theorem dX8_outvoted_23 : decode cX8_outvoted 23 = .ok (.aload_n 0, 1) := by decide +kernel
theorem dX8_outvoted_24 : decode cX8_outvoted 24 = .ok (.iload_n 2, 1) := by decide +kernel
theorem dX8_outvoted_25 : decode cX8_outvoted 25 = .ok (.aload_n 0, 1) := by decide +kernel
theorem dX8_outvoted_26 : decode cX8_outvoted 26 = .ok (.aload_n 0, 1) := by decide +kernel
theorem dX8_outvoted_27 : decode cX8_outvoted 27 = .ok (.getfield 9, 3) := by decide +kernel
theorem dX8_outvoted_30 : decode cX8_outvoted 30 = .ok (.iload_n 2, 1) := by decide +kernel
theorem dX8_outvoted_31 : decode cX8_outvoted 31 = .ok (.iaload, 1) := by decide +kernel
theorem dX8_outvoted_32 : decode cX8_outvoted 32 = .ok (.invokevirtual 85, 3) := by decide +kernel
theorem dX8_outvoted_35 : decode cX8_outvoted 35 = .ok (.invokevirtual 88, 3) := by decide +kernel
theorem dX8_outvoted_38 : decode cX8_outvoted 38 = .ok (.ifCond .ge 9, 3) := by decide +kernel
theorem dX8_outvoted_41 : decode cX8_outvoted 41 = .ok (.iload_n 1, 1) := by decide +kernel
theorem dX8_outvoted_42 : decode cX8_outvoted 42 = .ok (.iconst 1, 1) := by decide +kernel
theorem dX8_outvoted_43 : decode cX8_outvoted 43 = .ok (.iload_n 2, 1) := by decide +kernel
theorem dX8_outvoted_44 : decode cX8_outvoted 44 = .ok (.ishl, 1) := by decide +kernel
theorem dX8_outvoted_45 : decode cX8_outvoted 45 = .ok (.ior, 1) := by decide +kernel
theorem dX8_outvoted_46 : decode cX8_outvoted 46 = .ok (.istore_n 1, 1) := by decide +kernel
theorem dX8_outvoted_47 : decode cX8_outvoted 47 = .ok (.iinc 2 1, 3) := by decide +kernel
theorem dX8_outvoted_50 : decode cX8_outvoted 50 = .ok (.goto (-46), 3) := by decide +kernel
theorem dX8_outvoted_53 : decode cX8_outvoted 53 = .ok (.iload_n 1, 1) := by decide +kernel
theorem dX8_outvoted_54 : decode cX8_outvoted 54 = .ok (.ireturn, 1) := by decide +kernel
set_option maxHeartbeats 4000000 in
set_option maxRecDepth 20000 in
theorem en_X8_outvoted {n : Nat} {M : jw_Mem} {Q : Int32 → jw_Mem → Prop} (hn_n : n < 20) (h : jw_J 3 mX8_outvoted 4 [(0, vr 8 n), (1, vi 0), (2, vi 0)] [] M Q) : jw_M 3 mX8_outvoted [vr 8 n] M Q := by
  refine jw_M.of (by decide) (Nat.le_of_ble_eq_true rfl) ?_
  show jw_J 3 mX8_outvoted 0 [(0, vr 8 n)] [] M Q
  refine jr_iconst (pc := 0) (v := 0) dX8_outvoted_0 (by decide) ?_
  refine jr_istore_n (pc := 1) (lv' := [(1, vi 0), (0, vr 8 n)]) dX8_outvoted_1 rfl (by decide) rfl ?_
  refine jr_iconst (pc := 2) (v := 0) dX8_outvoted_2 (by decide) ?_
  refine jr_istore_n (pc := 3) (lv' := [(2, vi 0), (1, vi 0), (0, vr 8 n)]) dX8_outvoted_3 rfl (by decide) rfl ?_
  exact jr_sub [2, 1, 0] rfl h
set_option maxHeartbeats 4000000 in
set_option maxRecDepth 20000 in
theorem bk_X8_outvoted_4 {n : Nat} {v1 : Int32} {v2 : Int32} {M : jw_Mem} {Q : Int32 → jw_Mem → Prop} (hn_n : n < 20) (h : (((M 1 0 2) ≤ v2 → Q v1 M) ∧ (¬ (M 1 0 2) ≤ v2 → (jw_M 1 mX8_stands [vr 8 n, vi v2] M (fun x1 M2 => ((x1 = 0 → jw_J 3 mX8_outvoted 4 [(0, vr 8 n), (1, vi v1), (2, vi (v2 + 1))] [] M2 Q) ∧ (¬ x1 = 0 → (vp_in v2 6 ∧ (jw_M 1 mX8_walkersUnder [vr 8 n, vi (M2 26 n v2.toNatClampNeg)] M2 (fun x3 M4 => (jw_M 2 mX8_lead [vr 8 n, vi v2, vi x3] M4 (fun x5 M6 => ((0 ≤ x5 → jw_J 3 mX8_outvoted 4 [(0, vr 8 n), (1, vi v1), (2, vi (v2 + 1))] [] M6 Q) ∧ (¬ 0 ≤ x5 → jw_J 3 mX8_outvoted 4 [(0, vr 8 n), (1, vi (v1 ||| ((1 : Int32) <<< (v2 &&& 31)))), (2, vi (v2 + 1))] [] M6 Q)))))))))))))) : jw_J 3 mX8_outvoted 4 [(0, vr 8 n), (1, vi v1), (2, vi v2)] [] M Q := by
  refine jr_iload_n (pc := 4) dX8_outvoted_4 rfl 2 rfl ?_
  refine jr_aload_n (pc := 5) dX8_outvoted_5 rfl 0 rfl ?_
  refine jr_get (pc := 6) (v := vr 1 0) fg_X8_27 (by show n < 20; omega) rfl dX8_outvoted_6 ?_
  refine jr_get (pc := 9) (v := vi (M 1 0 2)) fg_X8_66 (by decide) rfl dX8_outvoted_9 ?_
  refine jr_icmp_ge (pc := 12) (tgt := 53) dX8_outvoted_12 (by decide) (fun c => ?_) (fun c => ?_)
  · replace h := h.1 c
    refine jr_iload_n (pc := 53) dX8_outvoted_53 rfl 1 rfl ?_
    exact jr_iret (pc := 54) rfl dX8_outvoted_54 h
  · replace h := h.2 c
    refine jr_aload_n (pc := 15) dX8_outvoted_15 rfl 0 rfl ?_
    refine jr_iload_n (pc := 16) dX8_outvoted_16 rfl 2 rfl ?_
    refine jr_callV (pc := 17) (d' := 1) (mt' := mX8_stands) (k := 8) (n := n) (As := [vi v2]) (st := []) fc_X8_59 (by decide) (by show n < 20; omega) (Nat.le_of_ble_eq_true rfl) rfl dX8_outvoted_17 (jw_M.mono h (fun x1 M2 h => ?_))
    show jw_J 3 mX8_outvoted 20 [(0, vr 8 n), (1, vi v1), (2, vi v2)] [vi x1] M2 Q
    refine jr_if_eq (pc := 20) (tgt := 47) dX8_outvoted_20 (by decide) (fun c => ?_) (fun c => ?_)
    · replace h := h.1 c
      refine jr_iinc (pc := 47) (lv' := [(2, vi (v2 + 1)), (0, vr 8 n), (1, vi v1)]) (q := 2) dX8_outvoted_47 rfl (by rfl) (by decide) rfl ?_
      refine jr_goto (pc := 50) (tgt := 4) dX8_outvoted_50 (by decide) ?_
      exact jr_sub [1, 2, 0] rfl h
    · replace h := h.2 c
      refine jr_aload_n (pc := 23) dX8_outvoted_23 rfl 0 rfl ?_
      refine jr_iload_n (pc := 24) dX8_outvoted_24 rfl 2 rfl ?_
      refine jr_aload_n (pc := 25) dX8_outvoted_25 rfl 0 rfl ?_
      refine jr_aload_n (pc := 26) dX8_outvoted_26 rfl 0 rfl ?_
      refine jr_get (pc := 27) (v := vr 26 n) fg_X8_9 (by show n < 20; omega) rfl dX8_outvoted_27 ?_
      refine jr_iload_n (pc := 30) dX8_outvoted_30 rfl 2 rfl ?_
      refine jr_iald (pc := 31) ⟨rfl, (by show n < 20; omega)⟩ h.1 dX8_outvoted_31 ?_
      replace h := h.2
      refine jr_callV (pc := 32) (d' := 1) (mt' := mX8_walkersUnder) (k := 8) (n := n) (As := [vi (M2 26 n v2.toNatClampNeg)]) (st := [vi v2, vr 8 n]) fc_X8_85 (by decide) (by show n < 20; omega) (Nat.le_of_ble_eq_true rfl) rfl dX8_outvoted_32 (jw_M.mono h (fun x3 M4 h => ?_))
      show jw_J 3 mX8_outvoted 35 [(0, vr 8 n), (1, vi v1), (2, vi v2)] [vi x3, vi v2, vr 8 n] M4 Q
      refine jr_callV (pc := 35) (d' := 2) (mt' := mX8_lead) (k := 8) (n := n) (As := [vi v2, vi x3]) (st := []) fc_X8_88 (by decide) (by show n < 20; omega) (Nat.le_of_ble_eq_true rfl) rfl dX8_outvoted_35 (jw_M.mono h (fun x5 M6 h => ?_))
      show jw_J 3 mX8_outvoted 38 [(0, vr 8 n), (1, vi v1), (2, vi v2)] [vi x5] M6 Q
      refine jr_if_ge (pc := 38) (tgt := 47) dX8_outvoted_38 (by decide) (fun c => ?_) (fun c => ?_)
      · replace h := h.1 c
        refine jr_iinc (pc := 47) (lv' := [(2, vi (v2 + 1)), (0, vr 8 n), (1, vi v1)]) (q := 2) dX8_outvoted_47 rfl (by rfl) (by decide) rfl ?_
        refine jr_goto (pc := 50) (tgt := 4) dX8_outvoted_50 (by decide) ?_
        exact jr_sub [1, 2, 0] rfl h
      · replace h := h.2 c
        refine jr_iload_n (pc := 41) dX8_outvoted_41 rfl 1 rfl ?_
        refine jr_iconst (pc := 42) (v := 1) dX8_outvoted_42 (by decide) ?_
        refine jr_iload_n (pc := 43) dX8_outvoted_43 rfl 2 rfl ?_
        refine jr_ishl (pc := 44) dX8_outvoted_44 ?_
        refine jr_ior (pc := 45) dX8_outvoted_45 ?_
        refine jr_istore_n (pc := 46) (lv' := [(1, vi (v1 ||| ((1 : Int32) <<< (v2 &&& 31)))), (0, vr 8 n), (2, vi v2)]) dX8_outvoted_46 rfl (by decide) rfl ?_
        refine jr_iinc (pc := 47) (lv' := [(2, vi (v2 + 1)), (1, vi (v1 ||| ((1 : Int32) <<< (v2 &&& 31)))), (0, vr 8 n)]) (q := 2) dX8_outvoted_47 rfl (by rfl) (by decide) rfl ?_
        refine jr_goto (pc := 50) (tgt := 4) dX8_outvoted_50 (by decide) ?_
        exact jr_sub [2, 1, 0] rfl h
theorem dX8_passYear_0 : decode cX8_passYear 0 = .ok (.iconst 0, 1) := by decide +kernel
theorem dX8_passYear_1 : decode cX8_passYear 1 = .ok (.istore_n 1, 1) := by decide +kernel
theorem dX8_passYear_2 : decode cX8_passYear 2 = .ok (.iload_n 1, 1) := by decide +kernel
theorem dX8_passYear_3 : decode cX8_passYear 3 = .ok (.aload_n 0, 1) := by decide +kernel
theorem dX8_passYear_4 : decode cX8_passYear 4 = .ok (.getfield 27, 3) := by decide +kernel
theorem dX8_passYear_7 : decode cX8_passYear 7 = .ok (.getfield 66, 3) := by decide +kernel
theorem dX8_passYear_10 : decode cX8_passYear 10 = .ok (.if_icmp .ge 36, 3) := by decide +kernel
theorem dX8_passYear_13 : decode cX8_passYear 13 = .ok (.aload_n 0, 1) := by decide +kernel
theorem dX8_passYear_14 : decode cX8_passYear 14 = .ok (.getfield 15, 3) := by decide +kernel
theorem dX8_passYear_17 : decode cX8_passYear 17 = .ok (.iload_n 1, 1) := by decide +kernel
theorem dX8_passYear_18 : decode cX8_passYear 18 = .ok (.iconst 0, 1) := by decide +kernel
theorem dX8_passYear_19 : decode cX8_passYear 19 = .ok (.bipush 99, 2) := by decide +kernel
theorem dX8_passYear_21 : decode cX8_passYear 21 = .ok (.aload_n 0, 1) := by decide +kernel
theorem dX8_passYear_22 : decode cX8_passYear 22 = .ok (.getfield 15, 3) := by decide +kernel
theorem dX8_passYear_25 : decode cX8_passYear 25 = .ok (.iload_n 1, 1) := by decide +kernel
theorem dX8_passYear_26 : decode cX8_passYear 26 = .ok (.iaload, 1) := by decide +kernel
theorem dX8_passYear_27 : decode cX8_passYear 27 = .ok (.aload_n 0, 1) := by decide +kernel
theorem dX8_passYear_28 : decode cX8_passYear 28 = .ok (.iload_n 1, 1) := by decide +kernel
theorem dX8_passYear_29 : decode cX8_passYear 29 = .ok (.invokevirtual 92, 3) := by decide +kernel
theorem dX8_passYear_32 : decode cX8_passYear 32 = .ok (.iadd, 1) := by decide +kernel
theorem dX8_passYear_33 : decode cX8_passYear 33 = .ok (.invokestatic 95, 3) := by decide +kernel
theorem dX8_passYear_36 : decode cX8_passYear 36 = .ok (.invokestatic 100, 3) := by decide +kernel
theorem dX8_passYear_39 : decode cX8_passYear 39 = .ok (.iastore, 1) := by decide +kernel
theorem dX8_passYear_40 : decode cX8_passYear 40 = .ok (.iinc 1 1, 3) := by decide +kernel
theorem dX8_passYear_43 : decode cX8_passYear 43 = .ok (.goto (-41), 3) := by decide +kernel
theorem dX8_passYear_46 : decode cX8_passYear 46 = .ok (.iconst 0, 1) := by decide +kernel
theorem dX8_passYear_47 : decode cX8_passYear 47 = .ok (.istore_n 1, 1) := by decide +kernel
theorem dX8_passYear_48 : decode cX8_passYear 48 = .ok (.iload_n 1, 1) := by decide +kernel
theorem dX8_passYear_49 : decode cX8_passYear 49 = .ok (.aload_n 0, 1) := by decide +kernel
theorem dX8_passYear_50 : decode cX8_passYear 50 = .ok (.getfield 27, 3) := by decide +kernel
theorem dX8_passYear_53 : decode cX8_passYear 53 = .ok (.getfield 66, 3) := by decide +kernel
theorem dX8_passYear_56 : decode cX8_passYear 56 = .ok (.if_icmp .ge 27, 3) := by decide +kernel
theorem dX8_passYear_59 : decode cX8_passYear 59 = .ok (.aload_n 0, 1) := by decide +kernel
theorem dX8_passYear_60 : decode cX8_passYear 60 = .ok (.getfield 15, 3) := by decide +kernel
theorem dX8_passYear_63 : decode cX8_passYear 63 = .ok (.iload_n 1, 1) := by decide +kernel
theorem dX8_passYear_64 : decode cX8_passYear 64 = .ok (.iaload, 1) := by decide +kernel
theorem dX8_passYear_65 : decode cX8_passYear 65 = .ok (.bipush 30, 2) := by decide +kernel
theorem dX8_passYear_67 : decode cX8_passYear 67 = .ok (.if_icmp .lt 10, 3) := by decide +kernel
theorem dX8_passYear_70 : decode cX8_passYear 70 = .ok (.aload_n 0, 1) := by decide +kernel
theorem dX8_passYear_71 : decode cX8_passYear 71 = .ok (.getfield 9, 3) := by decide +kernel
theorem dX8_passYear_74 : decode cX8_passYear 74 = .ok (.iload_n 1, 1) := by decide +kernel
theorem dX8_passYear_75 : decode cX8_passYear 75 = .ok (.iconst (-1), 1) := by decide +kernel
theorem dX8_passYear_76 : decode cX8_passYear 76 = .ok (.iastore, 1) := by decide +kernel
theorem dX8_passYear_77 : decode cX8_passYear 77 = .ok (.iinc 1 1, 3) := by decide +kernel
theorem dX8_passYear_80 : decode cX8_passYear 80 = .ok (.goto (-32), 3) := by decide +kernel
theorem dX8_passYear_83 : decode cX8_passYear 83 = .ok (.aload_n 0, 1) := by decide +kernel
theorem dX8_passYear_84 : decode cX8_passYear 84 = .ok (.dup, 1) := by decide +kernel
theorem dX8_passYear_85 : decode cX8_passYear 85 = .ok (.getfield 31, 3) := by decide +kernel
theorem dX8_passYear_88 : decode cX8_passYear 88 = .ok (.iconst 1, 1) := by decide +kernel
theorem dX8_passYear_89 : decode cX8_passYear 89 = .ok (.iadd, 1) := by decide +kernel
theorem dX8_passYear_90 : decode cX8_passYear 90 = .ok (.putfield 31, 3) := by decide +kernel
theorem dX8_passYear_93 : decode cX8_passYear 93 = .ok (.aload_n 0, 1) := by decide +kernel
theorem dX8_passYear_94 : decode cX8_passYear 94 = .ok (.getfield 27, 3) := by decide +kernel
theorem dX8_passYear_97 : decode cX8_passYear 97 = .ok (.getfield 103, 3) := by decide +kernel
theorem dX8_passYear_100 : decode cX8_passYear 100 = .ok (.ifCond .le 22, 3) := by decide +kernel
theorem dX8_passYear_103 : decode cX8_passYear 103 = .ok (.aload_n 0, 1) := by decide +kernel
theorem dX8_passYear_104 : decode cX8_passYear 104 = .ok (.getfield 31, 3) := by decide +kernel
theorem dX8_passYear_107 : decode cX8_passYear 107 = .ok (.aload_n 0, 1) := by decide +kernel
theorem dX8_passYear_108 : decode cX8_passYear 108 = .ok (.getfield 27, 3) := by decide +kernel
theorem dX8_passYear_111 : decode cX8_passYear 111 = .ok (.getfield 103, 3) := by decide +kernel
theorem dX8_passYear_114 : decode cX8_passYear 114 = .ok (.irem, 1) := by decide +kernel
theorem dX8_passYear_115 : decode cX8_passYear 115 = .ok (.ifCond .ne 7, 3) := by decide +kernel
theorem dX8_passYear_118 : decode cX8_passYear 118 = .ok (.aload_n 0, 1) := by decide +kernel
theorem dX8_passYear_119 : decode cX8_passYear 119 = .ok (.invokevirtual 106, 3) := by decide +kernel
theorem dX8_passYear_122 : decode cX8_passYear 122 = .ok (.return_, 1) := by decide +kernel
set_option maxHeartbeats 4000000 in
set_option maxRecDepth 20000 in
theorem en_X8_passYear {n : Nat} {M : jw_Mem} {Q : Int32 → jw_Mem → Prop} (hn_n : n < 20) (h : jw_J 5 mX8_passYear 2 [(0, vr 8 n), (1, vi 0)] [] M Q) : jw_M 5 mX8_passYear [vr 8 n] M Q := by
  refine jw_M.of (by decide) (Nat.le_of_ble_eq_true rfl) ?_
  show jw_J 5 mX8_passYear 0 [(0, vr 8 n)] [] M Q
  refine jr_iconst (pc := 0) (v := 0) dX8_passYear_0 (by decide) ?_
  refine jr_istore_n (pc := 1) (lv' := [(1, vi 0), (0, vr 8 n)]) dX8_passYear_1 rfl (by decide) rfl ?_
  exact jr_sub [1, 0] rfl h
set_option maxHeartbeats 4000000 in
set_option maxRecDepth 20000 in
theorem bk_X8_passYear_2 {n : Nat} {v1 : Int32} {M : jw_Mem} {Q : Int32 → jw_Mem → Prop} (hn_n : n < 20) (h : (((M 1 0 2) ≤ v1 → jw_J 5 mX8_passYear 48 [(0, vr 8 n), (1, vi 0)] [] M Q) ∧ (¬ (M 1 0 2) ≤ v1 → (vp_in v1 6 ∧ (jw_M 2 mX8_strain [vr 8 n, vi v1] M (fun x1 M2 => (vp_in v1 6 ∧ (∀ M3 : jw_Mem, M3 = jw_up M2 27 n v1.toNatClampNeg (if 0 < (if ((M 27 n v1.toNatClampNeg) + x1) < 99 then ((M 27 n v1.toNatClampNeg) + x1) else 99) then (if ((M 27 n v1.toNatClampNeg) + x1) < 99 then ((M 27 n v1.toNatClampNeg) + x1) else 99) else 0) → jw_J 5 mX8_passYear 2 [(0, vr 8 n), (1, vi (v1 + 1))] [] M3 Q)))))))) : jw_J 5 mX8_passYear 2 [(0, vr 8 n), (1, vi v1)] [] M Q := by
  refine jr_iload_n (pc := 2) dX8_passYear_2 rfl 1 rfl ?_
  refine jr_aload_n (pc := 3) dX8_passYear_3 rfl 0 rfl ?_
  refine jr_get (pc := 4) (v := vr 1 0) fg_X8_27 (by show n < 20; omega) rfl dX8_passYear_4 ?_
  refine jr_get (pc := 7) (v := vi (M 1 0 2)) fg_X8_66 (by decide) rfl dX8_passYear_7 ?_
  refine jr_icmp_ge (pc := 10) (tgt := 46) dX8_passYear_10 (by decide) (fun c => ?_) (fun c => ?_)
  · replace h := h.1 c
    refine jr_iconst (pc := 46) (v := 0) dX8_passYear_46 (by decide) ?_
    refine jr_istore_n (pc := 47) (lv' := [(1, vi 0), (0, vr 8 n)]) dX8_passYear_47 rfl (by decide) rfl ?_
    exact jr_sub [1, 0] rfl h
  · replace h := h.2 c
    refine jr_aload_n (pc := 13) dX8_passYear_13 rfl 0 rfl ?_
    refine jr_get (pc := 14) (v := vr 27 n) fg_X8_15 (by show n < 20; omega) rfl dX8_passYear_14 ?_
    refine jr_iload_n (pc := 17) dX8_passYear_17 rfl 1 rfl ?_
    refine jr_iconst (pc := 18) (v := 0) dX8_passYear_18 (by decide) ?_
    refine jr_bipush (pc := 19) (v := 99) dX8_passYear_19 (by decide) ?_
    refine jr_aload_n (pc := 21) dX8_passYear_21 rfl 0 rfl ?_
    refine jr_get (pc := 22) (v := vr 27 n) fg_X8_15 (by show n < 20; omega) rfl dX8_passYear_22 ?_
    refine jr_iload_n (pc := 25) dX8_passYear_25 rfl 1 rfl ?_
    refine jr_iald (pc := 26) ⟨rfl, (by show n < 20; omega)⟩ h.1 dX8_passYear_26 ?_
    replace h := h.2
    refine jr_aload_n (pc := 27) dX8_passYear_27 rfl 0 rfl ?_
    refine jr_iload_n (pc := 28) dX8_passYear_28 rfl 1 rfl ?_
    refine jr_callV (pc := 29) (d' := 2) (mt' := mX8_strain) (k := 8) (n := n) (As := [vi v1]) (st := [vi (M 27 n v1.toNatClampNeg), vi 99, vi 0, vi v1, vr 27 n]) fc_X8_92 (by decide) (by show n < 20; omega) (Nat.le_of_ble_eq_true rfl) rfl dX8_passYear_29 (jw_M.mono h (fun x1 M2 h => ?_))
    show jw_J 5 mX8_passYear 32 [(0, vr 8 n), (1, vi v1)] [vi x1, vi (M 27 n v1.toNatClampNeg), vi 99, vi 0, vi v1, vr 27 n] M2 Q
    refine jr_iadd (pc := 32) dX8_passYear_32 ?_
    refine jr_mmin (pc := 33) fc_X8_95 (Nat.le_of_ble_eq_true rfl) (by decide) dX8_passYear_33 ?_
    refine jr_mmax (pc := 36) fc_X8_100 (Nat.le_of_ble_eq_true rfl) (by decide) dX8_passYear_36 ?_
    refine jr_iast (pc := 39) ⟨rfl, (by show n < 20; omega)⟩ h.1 dX8_passYear_39 ?_
    replace h := h.2
    replace h := h _ rfl
    generalize jw_up M2 27 n v1.toNatClampNeg (if 0 < (if ((M 27 n v1.toNatClampNeg) + x1) < 99 then ((M 27 n v1.toNatClampNeg) + x1) else 99) then (if ((M 27 n v1.toNatClampNeg) + x1) < 99 then ((M 27 n v1.toNatClampNeg) + x1) else 99) else 0) = M3 at h ⊢
    refine jr_iinc (pc := 40) (lv' := [(1, vi (v1 + 1)), (0, vr 8 n)]) (q := 1) dX8_passYear_40 rfl (by rfl) (by decide) rfl ?_
    refine jr_goto (pc := 43) (tgt := 2) dX8_passYear_43 (by decide) ?_
    exact jr_sub [1, 0] rfl h
set_option maxHeartbeats 4000000 in
set_option maxRecDepth 20000 in
theorem bk_X8_passYear_48 {n : Nat} {v1 : Int32} {M : jw_Mem} {Q : Int32 → jw_Mem → Prop} (hn_n : n < 20) (h : (((M 1 0 2) ≤ v1 → (∀ M4 : jw_Mem, M4 = jw_up M 8 n 1 ((M 8 n 1) + 1) → (((M4 1 0 0) ≤ 0 → Q 0 M4) ∧ (¬ (M4 1 0 0) ≤ 0 → (¬ (M4 1 0 0) = 0 ∧ ((¬ ((M4 8 n 1) - (M4 8 n 1) / (M4 1 0 0) * (M4 1 0 0)) = 0 → Q 0 M4) ∧ (((M4 8 n 1) - (M4 8 n 1) / (M4 1 0 0) * (M4 1 0 0)) = 0 → (jw_M 4 mX8_holdElection [vr 8 n] M4 (fun x5 M6 => Q 0 M6))))))))) ∧ (¬ (M 1 0 2) ≤ v1 → (vp_in v1 6 ∧ (((M 27 n v1.toNatClampNeg) < 30 → jw_J 5 mX8_passYear 48 [(0, vr 8 n), (1, vi (v1 + 1))] [] M Q) ∧ (¬ (M 27 n v1.toNatClampNeg) < 30 → (vp_in v1 6 ∧ (∀ M7 : jw_Mem, M7 = jw_up M 26 n v1.toNatClampNeg (-1) → jw_J 5 mX8_passYear 48 [(0, vr 8 n), (1, vi (v1 + 1))] [] M7 Q)))))))) : jw_J 5 mX8_passYear 48 [(0, vr 8 n), (1, vi v1)] [] M Q := by
  refine jr_iload_n (pc := 48) dX8_passYear_48 rfl 1 rfl ?_
  refine jr_aload_n (pc := 49) dX8_passYear_49 rfl 0 rfl ?_
  refine jr_get (pc := 50) (v := vr 1 0) fg_X8_27 (by show n < 20; omega) rfl dX8_passYear_50 ?_
  refine jr_get (pc := 53) (v := vi (M 1 0 2)) fg_X8_66 (by decide) rfl dX8_passYear_53 ?_
  refine jr_icmp_ge (pc := 56) (tgt := 83) dX8_passYear_56 (by decide) (fun c => ?_) (fun c => ?_)
  · replace h := h.1 c
    refine jr_aload_n (pc := 83) dX8_passYear_83 rfl 0 rfl ?_
    refine jr_dup_r (pc := 84) dX8_passYear_84 ?_
    refine jr_get (pc := 85) (v := vi (M 8 n 1)) fg_X8_31 (by show n < 20; omega) rfl dX8_passYear_85 ?_
    refine jr_iconst (pc := 88) (v := 1) dX8_passYear_88 (by decide) ?_
    refine jr_iadd (pc := 89) dX8_passYear_89 ?_
    refine jr_put (pc := 90) fp_X8_31 (by show n < 20; omega) (Or.inl ⟨_, _, _, rfl, by decide +kernel⟩) dX8_passYear_90 ?_
    replace h := h _ rfl
    generalize jw_up M 8 n 1 ((M 8 n 1) + 1) = M4 at h ⊢
    refine jr_aload_n (pc := 93) dX8_passYear_93 rfl 0 rfl ?_
    refine jr_get (pc := 94) (v := vr 1 0) fg_X8_27 (by show n < 20; omega) rfl dX8_passYear_94 ?_
    refine jr_get (pc := 97) (v := vi (M4 1 0 0)) fg_X8_103 (by decide) rfl dX8_passYear_97 ?_
    refine jr_if_le (pc := 100) (tgt := 122) dX8_passYear_100 (by decide) (fun c => ?_) (fun c => ?_)
    · replace h := h.1 c
      exact jr_vret (pc := 122) rfl dX8_passYear_122 h
    · replace h := h.2 c
      refine jr_aload_n (pc := 103) dX8_passYear_103 rfl 0 rfl ?_
      refine jr_get (pc := 104) (v := vi (M4 8 n 1)) fg_X8_31 (by show n < 20; omega) rfl dX8_passYear_104 ?_
      refine jr_aload_n (pc := 107) dX8_passYear_107 rfl 0 rfl ?_
      refine jr_get (pc := 108) (v := vr 1 0) fg_X8_27 (by show n < 20; omega) rfl dX8_passYear_108 ?_
      refine jr_get (pc := 111) (v := vi (M4 1 0 0)) fg_X8_103 (by decide) rfl dX8_passYear_111 ?_
      refine jr_irem (pc := 114) dX8_passYear_114 h.1 ?_
      replace h := h.2
      refine jr_if_ne (pc := 115) (tgt := 122) dX8_passYear_115 (by decide) (fun c => ?_) (fun c => ?_)
      · replace h := h.1 c
        exact jr_vret (pc := 122) rfl dX8_passYear_122 h
      · replace h := h.2 c
        refine jr_aload_n (pc := 118) dX8_passYear_118 rfl 0 rfl ?_
        refine jr_callV (pc := 119) (d' := 4) (mt' := mX8_holdElection) (k := 8) (n := n) (As := []) (st := []) fc_X8_106 (by decide) (by show n < 20; omega) (Nat.le_of_ble_eq_true rfl) rfl dX8_passYear_119 (jw_M.mono h (fun x5 M6 h => ?_))
        show jw_J 5 mX8_passYear 122 [(0, vr 8 n), (1, vi v1)] [] M6 Q
        exact jr_vret (pc := 122) rfl dX8_passYear_122 h
  · replace h := h.2 c
    refine jr_aload_n (pc := 59) dX8_passYear_59 rfl 0 rfl ?_
    refine jr_get (pc := 60) (v := vr 27 n) fg_X8_15 (by show n < 20; omega) rfl dX8_passYear_60 ?_
    refine jr_iload_n (pc := 63) dX8_passYear_63 rfl 1 rfl ?_
    refine jr_iald (pc := 64) ⟨rfl, (by show n < 20; omega)⟩ h.1 dX8_passYear_64 ?_
    replace h := h.2
    refine jr_bipush (pc := 65) (v := 30) dX8_passYear_65 (by decide) ?_
    refine jr_icmp_lt (pc := 67) (tgt := 77) dX8_passYear_67 (by decide) (fun c => ?_) (fun c => ?_)
    · replace h := h.1 c
      refine jr_iinc (pc := 77) (lv' := [(1, vi (v1 + 1)), (0, vr 8 n)]) (q := 1) dX8_passYear_77 rfl (by rfl) (by decide) rfl ?_
      refine jr_goto (pc := 80) (tgt := 48) dX8_passYear_80 (by decide) ?_
      exact jr_sub [1, 0] rfl h
    · replace h := h.2 c
      refine jr_aload_n (pc := 70) dX8_passYear_70 rfl 0 rfl ?_
      refine jr_get (pc := 71) (v := vr 26 n) fg_X8_9 (by show n < 20; omega) rfl dX8_passYear_71 ?_
      refine jr_iload_n (pc := 74) dX8_passYear_74 rfl 1 rfl ?_
      refine jr_iconst (pc := 75) (v := (-1)) dX8_passYear_75 (by decide) ?_
      refine jr_iast (pc := 76) ⟨rfl, (by show n < 20; omega)⟩ h.1 dX8_passYear_76 ?_
      replace h := h.2
      replace h := h _ rfl
      generalize jw_up M 26 n v1.toNatClampNeg (-1) = M7 at h ⊢
      refine jr_iinc (pc := 77) (lv' := [(1, vi (v1 + 1)), (0, vr 8 n)]) (q := 1) dX8_passYear_77 rfl (by rfl) (by decide) rfl ?_
      refine jr_goto (pc := 80) (tgt := 48) dX8_passYear_80 (by decide) ?_
      exact jr_sub [1, 0] rfl h
theorem dX8_strain_0 : decode cX8_strain 0 = .ok (.aload_n 0, 1) := by decide +kernel
theorem dX8_strain_1 : decode cX8_strain 1 = .ok (.iload_n 1, 1) := by decide +kernel
theorem dX8_strain_2 : decode cX8_strain 2 = .ok (.invokevirtual 59, 3) := by decide +kernel
theorem dX8_strain_5 : decode cX8_strain 5 = .ok (.ifCond .ne 6, 3) := by decide +kernel
theorem dX8_strain_8 : decode cX8_strain 8 = .ok (.bipush (-5), 2) := by decide +kernel
theorem dX8_strain_10 : decode cX8_strain 10 = .ok (.ireturn, 1) := by decide +kernel
theorem dX8_strain_11 : decode cX8_strain 11 = .ok (.aload_n 0, 1) := by decide +kernel
theorem dX8_strain_12 : decode cX8_strain 12 = .ok (.getfield 27, 3) := by decide +kernel
theorem dX8_strain_15 : decode cX8_strain 15 = .ok (.getfield 109, 3) := by decide +kernel
theorem dX8_strain_18 : decode cX8_strain 18 = .ok (.iload_n 1, 1) := by decide +kernel
theorem dX8_strain_19 : decode cX8_strain 19 = .ok (.iaload, 1) := by decide +kernel
theorem dX8_strain_20 : decode cX8_strain 20 = .ok (.tableswitch 55 0 2 #[28, 30, 32], 28) := by decide +kernel
theorem dX8_strain_48 : decode cX8_strain 48 = .ok (.iconst 3, 1) := by decide +kernel
theorem dX8_strain_49 : decode cX8_strain 49 = .ok (.ireturn, 1) := by decide +kernel
theorem dX8_strain_50 : decode cX8_strain 50 = .ok (.iconst 1, 1) := by decide +kernel
theorem dX8_strain_51 : decode cX8_strain 51 = .ok (.ireturn, 1) := by decide +kernel
theorem dX8_strain_52 : decode cX8_strain 52 = .ok (.aload_n 0, 1) := by decide +kernel
theorem dX8_strain_53 : decode cX8_strain 53 = .ok (.getfield 27, 3) := by decide +kernel
theorem dX8_strain_56 : decode cX8_strain 56 = .ok (.aload_n 0, 1) := by decide +kernel
theorem dX8_strain_57 : decode cX8_strain 57 = .ok (.getfield 9, 3) := by decide +kernel
theorem dX8_strain_60 : decode cX8_strain 60 = .ok (.iload_n 1, 1) := by decide +kernel
theorem dX8_strain_61 : decode cX8_strain 61 = .ok (.iaload, 1) := by decide +kernel
theorem dX8_strain_62 : decode cX8_strain 62 = .ok (.iload_n 1, 1) := by decide +kernel
theorem dX8_strain_63 : decode cX8_strain 63 = .ok (.invokevirtual 112, 3) := by decide +kernel
theorem dX8_strain_66 : decode cX8_strain 66 = .ok (.ifCond .eq 7, 3) := by decide +kernel
theorem dX8_strain_69 : decode cX8_strain 69 = .ok (.iconst 2, 1) := by decide +kernel
theorem dX8_strain_70 : decode cX8_strain 70 = .ok (.goto 4, 3) := by decide +kernel
theorem dX8_strain_73 : decode cX8_strain 73 = .ok (.iconst 4, 1) := by decide +kernel
theorem dX8_strain_74 : decode cX8_strain 74 = .ok (.ireturn, 1) := by decide +kernel
theorem dX8_strain_75 : decode cX8_strain 75 = .ok (.iconst 0, 1) := by decide +kernel
theorem dX8_strain_76 : decode cX8_strain 76 = .ok (.ireturn, 1) := by decide +kernel
set_option maxHeartbeats 4000000 in
set_option maxRecDepth 20000 in
theorem en_X8_strain {n : Nat} {a1 : Int32} {M : jw_Mem} {Q : Int32 → jw_Mem → Prop} (hn_n : n < 20) (h : (jw_M 1 mX8_stands [vr 8 n, vi a1] M (fun x1 M2 => ((¬ x1 = 0 → (vp_in a1 6 ∧ (((M2 15 0 a1.toNatClampNeg).toInt < 0 ∨ 2 < (M2 15 0 a1.toNatClampNeg).toInt → Q 0 M2) ∧ ((M2 15 0 a1.toNatClampNeg).toInt = 0 → Q 3 M2) ∧ ((M2 15 0 a1.toNatClampNeg).toInt = 1 → Q 1 M2) ∧ ((M2 15 0 a1.toNatClampNeg).toInt = 2 → (vp_in a1 6 ∧ (jw_M 1 mX1_pleases [vr 1 0, vi (M2 26 n a1.toNatClampNeg), vi a1] M2 (fun x3 M4 => ((x3 = 0 → Q 4 M4) ∧ (¬ x3 = 0 → Q 2 M4))))))))) ∧ (x1 = 0 → Q (-5) M2))))) : jw_M 2 mX8_strain [vr 8 n, vi a1] M Q := by
  refine jw_M.of (by decide) (Nat.le_of_ble_eq_true rfl) ?_
  show jw_J 2 mX8_strain 0 [(0, vr 8 n), (1, vi a1)] [] M Q
  refine jr_aload_n (pc := 0) dX8_strain_0 rfl 0 rfl ?_
  refine jr_iload_n (pc := 1) dX8_strain_1 rfl 1 rfl ?_
  refine jr_callV (pc := 2) (d' := 1) (mt' := mX8_stands) (k := 8) (n := n) (As := [vi a1]) (st := []) fc_X8_59 (by decide) (by show n < 20; omega) (Nat.le_of_ble_eq_true rfl) rfl dX8_strain_2 (jw_M.mono h (fun x1 M2 h => ?_))
  show jw_J 2 mX8_strain 5 [(0, vr 8 n), (1, vi a1)] [vi x1] M2 Q
  refine jr_if_ne (pc := 5) (tgt := 11) dX8_strain_5 (by decide) (fun c => ?_) (fun c => ?_)
  · replace h := h.1 c
    refine jr_aload_n (pc := 11) dX8_strain_11 rfl 0 rfl ?_
    refine jr_get (pc := 12) (v := vr 1 0) fg_X8_27 (by show n < 20; omega) rfl dX8_strain_12 ?_
    refine jr_get (pc := 15) (v := vr 15 0) fg_X8_109 (by decide) rfl dX8_strain_15 ?_
    refine jr_iload_n (pc := 18) dX8_strain_18 rfl 1 rfl ?_
    refine jr_iald (pc := 19) ⟨rfl, (by decide)⟩ h.1 dX8_strain_19 ?_
    replace h := h.2
    refine jr_tsw (pc := 20) dX8_strain_20 (tgt := 75) (by decide) (by decide) (fun c => ?_) (fun j c c2 => ?_)
    · replace h := h.1 c
      refine jr_iconst (pc := 75) (v := 0) dX8_strain_75 (by decide) ?_
      exact jr_iret (pc := 76) rfl dX8_strain_76 h
    · have hj : j = 0 ∨ j = 1 ∨ j = 2 := by omega
      rcases hj with rfl | rfl | rfl
      · replace h := h.2.1 (c.trans (by decide))
        refine ⟨28, 48, rfl, by decide, ?_⟩
        refine jr_iconst (pc := 48) (v := 3) dX8_strain_48 (by decide) ?_
        exact jr_iret (pc := 49) rfl dX8_strain_49 h
      · replace h := h.2.2.1 (c.trans (by decide))
        refine ⟨30, 50, rfl, by decide, ?_⟩
        refine jr_iconst (pc := 50) (v := 1) dX8_strain_50 (by decide) ?_
        exact jr_iret (pc := 51) rfl dX8_strain_51 h
      · replace h := h.2.2.2 (c.trans (by decide))
        refine ⟨32, 52, rfl, by decide, ?_⟩
        refine jr_aload_n (pc := 52) dX8_strain_52 rfl 0 rfl ?_
        refine jr_get (pc := 53) (v := vr 1 0) fg_X8_27 (by show n < 20; omega) rfl dX8_strain_53 ?_
        refine jr_aload_n (pc := 56) dX8_strain_56 rfl 0 rfl ?_
        refine jr_get (pc := 57) (v := vr 26 n) fg_X8_9 (by show n < 20; omega) rfl dX8_strain_57 ?_
        refine jr_iload_n (pc := 60) dX8_strain_60 rfl 1 rfl ?_
        refine jr_iald (pc := 61) ⟨rfl, (by show n < 20; omega)⟩ h.1 dX8_strain_61 ?_
        replace h := h.2
        refine jr_iload_n (pc := 62) dX8_strain_62 rfl 1 rfl ?_
        refine jr_callV (pc := 63) (d' := 1) (mt' := mX1_pleases) (k := 1) (n := 0) (As := [vi (M2 26 n a1.toNatClampNeg), vi a1]) (st := []) fc_X8_112 (by decide) (by decide) (Nat.le_of_ble_eq_true rfl) rfl dX8_strain_63 (jw_M.mono h (fun x3 M4 h => ?_))
        show jw_J 2 mX8_strain 66 [(0, vr 8 n), (1, vi a1)] [vi x3] M4 Q
        refine jr_if_eq (pc := 66) (tgt := 73) dX8_strain_66 (by decide) (fun c => ?_) (fun c => ?_)
        · replace h := h.1 c
          refine jr_iconst (pc := 73) (v := 4) dX8_strain_73 (by decide) ?_
          exact jr_iret (pc := 74) rfl dX8_strain_74 h
        · replace h := h.2 c
          refine jr_iconst (pc := 69) (v := 2) dX8_strain_69 (by decide) ?_
          refine jr_goto (pc := 70) (tgt := 74) dX8_strain_70 (by decide) ?_
          exact jr_iret (pc := 74) rfl dX8_strain_74 h
  · replace h := h.2 c
    refine jr_bipush (pc := 8) (v := (-5)) dX8_strain_8 (by decide) ?_
    exact jr_iret (pc := 10) rfl dX8_strain_10 h
theorem dX8_holdElection_0 : decode cX8_holdElection 0 = .ok (.aload_n 0, 1) := by decide +kernel
theorem dX8_holdElection_1 : decode cX8_holdElection 1 = .ok (.invokevirtual 115, 3) := by decide +kernel
theorem dX8_holdElection_4 : decode cX8_holdElection 4 = .ok (.istore_n 1, 1) := by decide +kernel
theorem dX8_holdElection_5 : decode cX8_holdElection 5 = .ok (.iconst 0, 1) := by decide +kernel
theorem dX8_holdElection_6 : decode cX8_holdElection 6 = .ok (.istore_n 2, 1) := by decide +kernel
theorem dX8_holdElection_7 : decode cX8_holdElection 7 = .ok (.iload_n 2, 1) := by decide +kernel
theorem dX8_holdElection_8 : decode cX8_holdElection 8 = .ok (.aload_n 0, 1) := by decide +kernel
theorem dX8_holdElection_9 : decode cX8_holdElection 9 = .ok (.getfield 27, 3) := by decide +kernel
theorem dX8_holdElection_12 : decode cX8_holdElection 12 = .ok (.getfield 66, 3) := by decide +kernel
theorem dX8_holdElection_15 : decode cX8_holdElection 15 = .ok (.if_icmp .ge 45, 3) := by decide +kernel
theorem dX8_holdElection_18 : decode cX8_holdElection 18 = .ok (.iload_n 1, 1) := by decide +kernel
theorem dX8_holdElection_19 : decode cX8_holdElection 19 = .ok (.iload_n 2, 1) := by decide +kernel
theorem dX8_holdElection_20 : decode cX8_holdElection 20 = .ok (.invokestatic 75, 3) := by decide +kernel
theorem dX8_holdElection_23 : decode cX8_holdElection 23 = .ok (.ifCond .eq 13, 3) := by decide +kernel
theorem dX8_holdElection_26 : decode cX8_holdElection 26 = .ok (.aload_n 0, 1) := by decide +kernel
theorem dX8_holdElection_27 : decode cX8_holdElection 27 = .ok (.getfield 9, 3) := by decide +kernel
theorem dX8_holdElection_30 : decode cX8_holdElection 30 = .ok (.iload_n 2, 1) := by decide +kernel
theorem dX8_holdElection_31 : decode cX8_holdElection 31 = .ok (.iconst (-1), 1) := by decide +kernel
theorem dX8_holdElection_32 : decode cX8_holdElection 32 = .ok (.iastore, 1) := by decide +kernel
theorem dX8_holdElection_33 : decode cX8_holdElection 33 = .ok (.goto 21, 3) := by decide +kernel
theorem dX8_holdElection_36 : decode cX8_holdElection 36 = .ok (.aload_n 0, 1) := by decide +kernel
theorem dX8_holdElection_37 : decode cX8_holdElection 37 = .ok (.iload_n 2, 1) := by decide +kernel
theorem dX8_holdElection_38 : decode cX8_holdElection 38 = .ok (.invokevirtual 59, 3) := by decide +kernel
theorem dX8_holdElection_41 : decode cX8_holdElection 41 = .ok (.ifCond .eq 13, 3) := by decide +kernel
theorem dX8_holdElection_44 : decode cX8_holdElection 44 = .ok (.aload_n 0, 1) := by decide +kernel
theorem dX8_holdElection_45 : decode cX8_holdElection 45 = .ok (.getfield 18, 3) := by decide +kernel
theorem dX8_holdElection_48 : decode cX8_holdElection 48 = .ok (.iload_n 2, 1) := by decide +kernel
theorem dX8_holdElection_49 : decode cX8_holdElection 49 = .ok (.dup2, 1) := by decide +kernel
theorem dX8_holdElection_50 : decode cX8_holdElection 50 = .ok (.iaload, 1) := by decide +kernel
theorem dX8_holdElection_51 : decode cX8_holdElection 51 = .ok (.iconst 1, 1) := by decide +kernel
theorem dX8_holdElection_52 : decode cX8_holdElection 52 = .ok (.iadd, 1) := by decide +kernel
theorem dX8_holdElection_53 : decode cX8_holdElection 53 = .ok (.iastore, 1) := by decide +kernel
theorem dX8_holdElection_54 : decode cX8_holdElection 54 = .ok (.iinc 2 1, 3) := by decide +kernel
theorem dX8_holdElection_57 : decode cX8_holdElection 57 = .ok (.goto (-50), 3) := by decide +kernel
theorem dX8_holdElection_60 : decode cX8_holdElection 60 = .ok (.return_, 1) := by decide +kernel
set_option maxHeartbeats 4000000 in
set_option maxRecDepth 20000 in
theorem en_X8_holdElection {n : Nat} {M : jw_Mem} {Q : Int32 → jw_Mem → Prop} (hn_n : n < 20) (h : (jw_M 3 mX8_outvoted [vr 8 n] M (fun x1 M2 => jw_J 4 mX8_holdElection 7 [(0, vr 8 n), (1, vi x1), (2, vi 0)] [] M2 Q))) : jw_M 4 mX8_holdElection [vr 8 n] M Q := by
  refine jw_M.of (by decide) (Nat.le_of_ble_eq_true rfl) ?_
  show jw_J 4 mX8_holdElection 0 [(0, vr 8 n)] [] M Q
  refine jr_aload_n (pc := 0) dX8_holdElection_0 rfl 0 rfl ?_
  refine jr_callV (pc := 1) (d' := 3) (mt' := mX8_outvoted) (k := 8) (n := n) (As := []) (st := []) fc_X8_115 (by decide) (by show n < 20; omega) (Nat.le_of_ble_eq_true rfl) rfl dX8_holdElection_1 (jw_M.mono h (fun x1 M2 h => ?_))
  show jw_J 4 mX8_holdElection 4 [(0, vr 8 n)] [vi x1] M2 Q
  refine jr_istore_n (pc := 4) (lv' := [(1, vi x1), (0, vr 8 n)]) dX8_holdElection_4 rfl (by decide) rfl ?_
  refine jr_iconst (pc := 5) (v := 0) dX8_holdElection_5 (by decide) ?_
  refine jr_istore_n (pc := 6) (lv' := [(2, vi 0), (1, vi x1), (0, vr 8 n)]) dX8_holdElection_6 rfl (by decide) rfl ?_
  exact jr_sub [2, 1, 0] rfl h
set_option maxHeartbeats 4000000 in
set_option maxRecDepth 20000 in
theorem bk_X8_holdElection_7 {n : Nat} {v1 : Int32} {v2 : Int32} {M : jw_Mem} {Q : Int32 → jw_Mem → Prop} (hn_n : n < 20) (h : (((M 1 0 2) ≤ v2 → Q 0 M) ∧ (¬ (M 1 0 2) ≤ v2 → (jw_M 0 mX10_isIn [vi v1, vi v2] M (fun x3 M4 => ((x3 = 0 → (jw_M 1 mX8_stands [vr 8 n, vi v2] M4 (fun x5 M6 => ((x5 = 0 → jw_J 4 mX8_holdElection 7 [(0, vr 8 n), (1, vi v1), (2, vi (v2 + 1))] [] M6 Q) ∧ (¬ x5 = 0 → (vp_in v2 6 ∧ (vp_in v2 6 ∧ (∀ M7 : jw_Mem, M7 = jw_up M6 28 n v2.toNatClampNeg ((M6 28 n v2.toNatClampNeg) + 1) → jw_J 4 mX8_holdElection 7 [(0, vr 8 n), (1, vi v1), (2, vi (v2 + 1))] [] M7 Q)))))))) ∧ (¬ x3 = 0 → (vp_in v2 6 ∧ (∀ M8 : jw_Mem, M8 = jw_up M4 26 n v2.toNatClampNeg (-1) → jw_J 4 mX8_holdElection 7 [(0, vr 8 n), (1, vi v1), (2, vi (v2 + 1))] [] M8 Q))))))))) : jw_J 4 mX8_holdElection 7 [(0, vr 8 n), (1, vi v1), (2, vi v2)] [] M Q := by
  refine jr_iload_n (pc := 7) dX8_holdElection_7 rfl 2 rfl ?_
  refine jr_aload_n (pc := 8) dX8_holdElection_8 rfl 0 rfl ?_
  refine jr_get (pc := 9) (v := vr 1 0) fg_X8_27 (by show n < 20; omega) rfl dX8_holdElection_9 ?_
  refine jr_get (pc := 12) (v := vi (M 1 0 2)) fg_X8_66 (by decide) rfl dX8_holdElection_12 ?_
  refine jr_icmp_ge (pc := 15) (tgt := 60) dX8_holdElection_15 (by decide) (fun c => ?_) (fun c => ?_)
  · replace h := h.1 c
    exact jr_vret (pc := 60) rfl dX8_holdElection_60 h
  · replace h := h.2 c
    refine jr_iload_n (pc := 18) dX8_holdElection_18 rfl 1 rfl ?_
    refine jr_iload_n (pc := 19) dX8_holdElection_19 rfl 2 rfl ?_
    refine jr_callN (pc := 20) (d' := 0) (mt' := mX10_isIn) (As := [vi v1, vi v2]) (st := []) fc_X8_75 (by decide) (Nat.le_of_ble_eq_true rfl) rfl dX8_holdElection_20 (jw_M.mono h (fun x3 M4 h => ?_))
    show jw_J 4 mX8_holdElection 23 [(0, vr 8 n), (1, vi v1), (2, vi v2)] [vi x3] M4 Q
    refine jr_if_eq (pc := 23) (tgt := 36) dX8_holdElection_23 (by decide) (fun c => ?_) (fun c => ?_)
    · replace h := h.1 c
      refine jr_aload_n (pc := 36) dX8_holdElection_36 rfl 0 rfl ?_
      refine jr_iload_n (pc := 37) dX8_holdElection_37 rfl 2 rfl ?_
      refine jr_callV (pc := 38) (d' := 1) (mt' := mX8_stands) (k := 8) (n := n) (As := [vi v2]) (st := []) fc_X8_59 (by decide) (by show n < 20; omega) (Nat.le_of_ble_eq_true rfl) rfl dX8_holdElection_38 (jw_M.mono h (fun x5 M6 h => ?_))
      show jw_J 4 mX8_holdElection 41 [(0, vr 8 n), (1, vi v1), (2, vi v2)] [vi x5] M6 Q
      refine jr_if_eq (pc := 41) (tgt := 54) dX8_holdElection_41 (by decide) (fun c => ?_) (fun c => ?_)
      · replace h := h.1 c
        refine jr_iinc (pc := 54) (lv' := [(2, vi (v2 + 1)), (0, vr 8 n), (1, vi v1)]) (q := 2) dX8_holdElection_54 rfl (by rfl) (by decide) rfl ?_
        refine jr_goto (pc := 57) (tgt := 7) dX8_holdElection_57 (by decide) ?_
        exact jr_sub [1, 2, 0] rfl h
      · replace h := h.2 c
        refine jr_aload_n (pc := 44) dX8_holdElection_44 rfl 0 rfl ?_
        refine jr_get (pc := 45) (v := vr 28 n) fg_X8_18 (by show n < 20; omega) rfl dX8_holdElection_45 ?_
        refine jr_iload_n (pc := 48) dX8_holdElection_48 rfl 2 rfl ?_
        refine jr_dup2 (pc := 49) dX8_holdElection_49 ?_
        refine jr_iald (pc := 50) ⟨rfl, (by show n < 20; omega)⟩ h.1 dX8_holdElection_50 ?_
        replace h := h.2
        refine jr_iconst (pc := 51) (v := 1) dX8_holdElection_51 (by decide) ?_
        refine jr_iadd (pc := 52) dX8_holdElection_52 ?_
        refine jr_iast (pc := 53) ⟨rfl, (by show n < 20; omega)⟩ h.1 dX8_holdElection_53 ?_
        replace h := h.2
        replace h := h _ rfl
        generalize jw_up M6 28 n v2.toNatClampNeg ((M6 28 n v2.toNatClampNeg) + 1) = M7 at h ⊢
        refine jr_iinc (pc := 54) (lv' := [(2, vi (v2 + 1)), (0, vr 8 n), (1, vi v1)]) (q := 2) dX8_holdElection_54 rfl (by rfl) (by decide) rfl ?_
        refine jr_goto (pc := 57) (tgt := 7) dX8_holdElection_57 (by decide) ?_
        exact jr_sub [1, 2, 0] rfl h
    · replace h := h.2 c
      refine jr_aload_n (pc := 26) dX8_holdElection_26 rfl 0 rfl ?_
      refine jr_get (pc := 27) (v := vr 26 n) fg_X8_9 (by show n < 20; omega) rfl dX8_holdElection_27 ?_
      refine jr_iload_n (pc := 30) dX8_holdElection_30 rfl 2 rfl ?_
      refine jr_iconst (pc := 31) (v := (-1)) dX8_holdElection_31 (by decide) ?_
      refine jr_iast (pc := 32) ⟨rfl, (by show n < 20; omega)⟩ h.1 dX8_holdElection_32 ?_
      replace h := h.2
      replace h := h _ rfl
      generalize jw_up M4 26 n v2.toNatClampNeg (-1) = M8 at h ⊢
      refine jr_goto (pc := 33) (tgt := 54) dX8_holdElection_33 (by decide) ?_
      refine jr_iinc (pc := 54) (lv' := [(2, vi (v2 + 1)), (0, vr 8 n), (1, vi v1)]) (q := 2) dX8_holdElection_54 rfl (by rfl) (by decide) rfl ?_
      refine jr_goto (pc := 57) (tgt := 7) dX8_holdElection_57 (by decide) ?_
      exact jr_sub [1, 2, 0] rfl h
