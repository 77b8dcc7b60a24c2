theorem dX7_append_0 : decode cX7_append 0 = .ok (.aload_n 0, 1) := by decide +kernel
theorem dX7_append_1 : decode cX7_append 1 = .ok (.getfield 26, 3) := by decide +kernel
theorem dX7_append_4 : decode cX7_append 4 = .ok (.sipush 240, 3) := by decide +kernel
theorem dX7_append_7 : decode cX7_append 7 = .ok (.if_icmp .lt 5, 3) := by decide +kernel
theorem dX7_append_10 : decode cX7_append 10 = .ok (.iconst 0, 1) := by decide +kernel
theorem dX7_append_11 : decode cX7_append 11 = .ok (.ireturn, 1) := by decide +kernel
theorem dX7_append_12 : decode cX7_append 12 = .ok (.aload_n 0, 1) := by decide +kernel
theorem dX7_append_13 : decode cX7_append 13 = .ok (.getfield 9, 3) := by decide +kernel
theorem dX7_append_16 : decode cX7_append 16 = .ok (.aload_n 0, 1) := by decide +kernel
theorem dX7_append_17 : decode cX7_append 17 = .ok (.getfield 26, 3) := by decide +kernel
theorem dX7_append_20 : decode cX7_append 20 = .ok (.iload_n 1, 1) := by decide +kernel
theorem dX7_append_21 : decode cX7_append 21 = .ok (.iastore, 1) := by decide +kernel
theorem dX7_append_22 : decode cX7_append 22 = .ok (.aload_n 0, 1) := by decide +kernel
theorem dX7_append_23 : decode cX7_append 23 = .ok (.dup, 1) := by decide +kernel
theorem dX7_append_24 : decode cX7_append 24 = .ok (.getfield 26, 3) := by decide +kernel
theorem dX7_append_27 : decode cX7_append 27 = .ok (.iconst 1, 1) := by decide +kernel
theorem dX7_append_28 : decode cX7_append 28 = .ok (.iadd, 1) := by decide +kernel
theorem dX7_append_29 : decode cX7_append 29 = .ok (.putfield 26, 3) := by decide +kernel
theorem dX7_append_32 : decode cX7_append 32 = .ok (.iconst 1, 1) := by decide +kernel
theorem dX7_append_33 : decode cX7_append 33 = .ok (.ireturn, 1) := by decide +kernel
set_option maxHeartbeats 4000000 in
set_option maxRecDepth 20000 in
theorem en_X7_append {a1 : Int32} {M : jw_Mem} {Q : Int32 → jw_Mem → Prop}  (h : (((M 7 0 2) < 240 → (vp_in (M 7 0 2) 240 ∧ (∀ M1 : jw_Mem, M1 = jw_up M 25 0 ((M 7 0 2) : Int32).toNatClampNeg a1 → (∀ M2 : jw_Mem, M2 = jw_up M1 7 0 2 ((M1 7 0 2) + 1) → Q 1 M2)))) ∧ (¬ (M 7 0 2) < 240 → Q 0 M))) : jw_M 0 mX7_append [vr 7 0, vi a1] M Q := by
  refine jw_M.of (by decide) (Nat.le_of_ble_eq_true rfl) ?_
  show jw_J 0 mX7_append 0 [(0, vr 7 0), (1, vi a1)] [] M Q
  refine jr_aload_n (pc := 0) dX7_append_0 rfl 0 rfl ?_
  refine jr_get (pc := 1) (v := vi (M 7 0 2)) fg_X7_26 (by decide) rfl dX7_append_1 ?_
  refine jr_sipush (pc := 4) (v := 240) dX7_append_4 (by decide) ?_
  refine jr_icmp_lt (pc := 7) (tgt := 12) dX7_append_7 (by decide) (fun c => ?_) (fun c => ?_)
  · replace h := h.1 c
    refine jr_aload_n (pc := 12) dX7_append_12 rfl 0 rfl ?_
    refine jr_get (pc := 13) (v := vr 25 0) fg_X7_9 (by decide) rfl dX7_append_13 ?_
    refine jr_aload_n (pc := 16) dX7_append_16 rfl 0 rfl ?_
    refine jr_get (pc := 17) (v := vi (M 7 0 2)) fg_X7_26 (by decide) rfl dX7_append_17 ?_
    refine jr_iload_n (pc := 20) dX7_append_20 rfl 1 rfl ?_
    refine jr_iast (pc := 21) ⟨rfl, (by decide)⟩ h.1 dX7_append_21 ?_
    replace h := h.2
    replace h := h _ rfl
    generalize jw_up M 25 0 ((M 7 0 2) : Int32).toNatClampNeg a1 = M1 at h ⊢
    refine jr_aload_n (pc := 22) dX7_append_22 rfl 0 rfl ?_
    refine jr_dup_r (pc := 23) dX7_append_23 ?_
    refine jr_get (pc := 24) (v := vi (M1 7 0 2)) fg_X7_26 (by decide) rfl dX7_append_24 ?_
    refine jr_iconst (pc := 27) (v := 1) dX7_append_27 (by decide) ?_
    refine jr_iadd (pc := 28) dX7_append_28 ?_
    refine jr_put (pc := 29) fp_X7_26 (by decide) (Or.inl ⟨_, _, _, rfl, by decide +kernel⟩) dX7_append_29 ?_
    replace h := h _ rfl
    generalize jw_up M1 7 0 2 ((M1 7 0 2) + 1) = M2 at h ⊢
    refine jr_iconst (pc := 32) (v := 1) dX7_append_32 (by decide) ?_
    exact jr_zret (pc := 33) rfl dX7_append_33 (Or.inr rfl) h
  · replace h := h.2 c
    refine jr_iconst (pc := 10) (v := 0) dX7_append_10 (by decide) ?_
    exact jr_zret (pc := 11) rfl dX7_append_11 (Or.inl rfl) h
theorem dX7_readAll_0 : decode cX7_readAll 0 = .ok (.aload_n 0, 1) := by decide +kernel
theorem dX7_readAll_1 : decode cX7_readAll 1 = .ok (.getfield 22, 3) := by decide +kernel
theorem dX7_readAll_4 : decode cX7_readAll 4 = .ok (.invokevirtual 29, 3) := by decide +kernel
theorem dX7_readAll_7 : decode cX7_readAll 7 = .ok (.aload_n 0, 1) := by decide +kernel
theorem dX7_readAll_8 : decode cX7_readAll 8 = .ok (.iconst 0, 1) := by decide +kernel
theorem dX7_readAll_9 : decode cX7_readAll 9 = .ok (.putfield 32, 3) := by decide +kernel
theorem dX7_readAll_12 : decode cX7_readAll 12 = .ok (.aload_n 0, 1) := by decide +kernel
theorem dX7_readAll_13 : decode cX7_readAll 13 = .ok (.iconst 0, 1) := by decide +kernel
theorem dX7_readAll_14 : decode cX7_readAll 14 = .ok (.putfield 35, 3) := by decide +kernel
theorem dX7_readAll_17 : decode cX7_readAll 17 = .ok (.aload_n 0, 1) := by decide +kernel
theorem dX7_readAll_18 : decode cX7_readAll 18 = .ok (.iconst (-1), 1) := by decide +kernel
theorem dX7_readAll_19 : decode cX7_readAll 19 = .ok (.putfield 15, 3) := by decide +kernel
theorem dX7_readAll_22 : decode cX7_readAll 22 = .ok (.aload_n 0, 1) := by decide +kernel
theorem dX7_readAll_23 : decode cX7_readAll 23 = .ok (.invokevirtual 38, 3) := by decide +kernel
theorem dX7_readAll_26 : decode cX7_readAll 26 = .ok (.iconst 0, 1) := by decide +kernel
theorem dX7_readAll_27 : decode cX7_readAll 27 = .ok (.istore_n 1, 1) := by decide +kernel
theorem dX7_readAll_28 : decode cX7_readAll 28 = .ok (.iload_n 1, 1) := by decide +kernel
theorem dX7_readAll_29 : decode cX7_readAll 29 = .ok (.sipush 240, 3) := by decide +kernel
theorem dX7_readAll_32 : decode cX7_readAll 32 = .ok (.if_icmp .ge 35, 3) := by decide +kernel
theorem dX7_readAll_35 : decode cX7_readAll 35 = .ok (.aload_n 0, 1) := by decide +kernel
theorem dX7_readAll_36 : decode cX7_readAll 36 = .ok (.getfield 35, 3) := by decide +kernel
theorem dX7_readAll_39 : decode cX7_readAll 39 = .ok (.ifCond .ne 28, 3) := by decide +kernel
theorem dX7_readAll_42 : decode cX7_readAll 42 = .ok (.aload_n 0, 1) := by decide +kernel
theorem dX7_readAll_43 : decode cX7_readAll 43 = .ok (.getfield 32, 3) := by decide +kernel
theorem dX7_readAll_46 : decode cX7_readAll 46 = .ok (.aload_n 0, 1) := by decide +kernel
theorem dX7_readAll_47 : decode cX7_readAll 47 = .ok (.getfield 26, 3) := by decide +kernel
theorem dX7_readAll_50 : decode cX7_readAll 50 = .ok (.if_icmp .ge 17, 3) := by decide +kernel
theorem dX7_readAll_53 : decode cX7_readAll 53 = .ok (.aload_n 0, 1) := by decide +kernel
theorem dX7_readAll_54 : decode cX7_readAll 54 = .ok (.invokevirtual 41, 3) := by decide +kernel
theorem dX7_readAll_57 : decode cX7_readAll 57 = .ok (.aload_n 0, 1) := by decide +kernel
theorem dX7_readAll_58 : decode cX7_readAll 58 = .ok (.invokevirtual 38, 3) := by decide +kernel
theorem dX7_readAll_61 : decode cX7_readAll 61 = .ok (.iinc 1 1, 3) := by decide +kernel
theorem dX7_readAll_64 : decode cX7_readAll 64 = .ok (.goto (-36), 3) := by decide +kernel
theorem dX7_readAll_67 : decode cX7_readAll 67 = .ok (.aload_n 0, 1) := by decide +kernel
theorem dX7_readAll_68 : decode cX7_readAll 68 = .ok (.iconst 0, 1) := by decide +kernel
theorem dX7_readAll_69 : decode cX7_readAll 69 = .ok (.putfield 26, 3) := by decide +kernel
theorem dX7_readAll_72 : decode cX7_readAll 72 = .ok (.return_, 1) := by decide +kernel
set_option maxHeartbeats 4000000 in
set_option maxRecDepth 20000 in
theorem en_X7_readAll {M : jw_Mem} {Q : Int32 → jw_Mem → Prop}  (h : (jw_M 0 mX1_clear [vr 1 1] M (fun x1 M2 => (∀ M3 : jw_Mem, M3 = jw_up M2 7 0 1 0 → (∀ M4 : jw_Mem, M4 = jw_up M3 7 0 3 0 → (∀ M5 : jw_Mem, M5 = jw_up M4 7 0 4 (-1) → (jw_M 0 mX7_skipBlanks [vr 7 0] M5 (fun x6 M7 => jw_J 5 mX7_readAll 28 [(0, vr 7 0), (1, vi 0)] [] M7 Q)))))))) : jw_M 5 mX7_readAll [vr 7 0] M Q := by
  refine jw_M.of (by decide) (Nat.le_of_ble_eq_true rfl) ?_
  show jw_J 5 mX7_readAll 0 [(0, vr 7 0)] [] M Q
  refine jr_aload_n (pc := 0) dX7_readAll_0 rfl 0 rfl ?_
  refine jr_get (pc := 1) (v := vr 1 1) fg_X7_22 (by decide) rfl dX7_readAll_1 ?_
  refine jr_callV (pc := 4) (d' := 0) (mt' := mX1_clear) (k := 1) (n := 1) (As := []) (st := []) fc_X7_29 (by decide) (by decide) (Nat.le_of_ble_eq_true rfl) rfl dX7_readAll_4 (jw_M.mono h (fun x1 M2 h => ?_))
  show jw_J 5 mX7_readAll 7 [(0, vr 7 0)] [] M2 Q
  refine jr_aload_n (pc := 7) dX7_readAll_7 rfl 0 rfl ?_
  refine jr_iconst (pc := 8) (v := 0) dX7_readAll_8 (by decide) ?_
  refine jr_put (pc := 9) fp_X7_32 (by decide) (Or.inl ⟨_, _, _, rfl, by decide +kernel⟩) dX7_readAll_9 ?_
  replace h := h _ rfl
  generalize jw_up M2 7 0 1 0 = M3 at h ⊢
  refine jr_aload_n (pc := 12) dX7_readAll_12 rfl 0 rfl ?_
  refine jr_iconst (pc := 13) (v := 0) dX7_readAll_13 (by decide) ?_
  refine jr_put (pc := 14) fp_X7_35 (by decide) (Or.inl ⟨_, _, _, rfl, by decide +kernel⟩) dX7_readAll_14 ?_
  replace h := h _ rfl
  generalize jw_up M3 7 0 3 0 = M4 at h ⊢
  refine jr_aload_n (pc := 17) dX7_readAll_17 rfl 0 rfl ?_
  refine jr_iconst (pc := 18) (v := (-1)) dX7_readAll_18 (by decide) ?_
  refine jr_put (pc := 19) fp_X7_15 (by decide) (Or.inl ⟨_, _, _, rfl, by decide +kernel⟩) dX7_readAll_19 ?_
  replace h := h _ rfl
  generalize jw_up M4 7 0 4 (-1) = M5 at h ⊢
  refine jr_aload_n (pc := 22) dX7_readAll_22 rfl 0 rfl ?_
  refine jr_callV (pc := 23) (d' := 0) (mt' := mX7_skipBlanks) (k := 7) (n := 0) (As := []) (st := []) fc_X7_38 (by decide) (by decide) (Nat.le_of_ble_eq_true rfl) rfl dX7_readAll_23 (jw_M.mono h (fun x6 M7 h => ?_))
  show jw_J 5 mX7_readAll 26 [(0, vr 7 0)] [] M7 Q
  refine jr_iconst (pc := 26) (v := 0) dX7_readAll_26 (by decide) ?_
  refine jr_istore_n (pc := 27) (lv' := [(1, vi 0), (0, vr 7 0)]) dX7_readAll_27 rfl (by decide) rfl ?_
  exact jr_sub [1, 0] rfl h
set_option maxHeartbeats 4000000 in
set_option maxRecDepth 20000 in
theorem bk_X7_readAll_28 {v1 : Int32} {M : jw_Mem} {Q : Int32 → jw_Mem → Prop}  (h : ((240 ≤ v1 → (∀ M8 : jw_Mem, M8 = jw_up M 7 0 2 0 → Q 0 M8)) ∧ (¬ 240 ≤ v1 → ((¬ (M 7 0 3) = 0 → (∀ M9 : jw_Mem, M9 = jw_up M 7 0 2 0 → Q 0 M9)) ∧ ((M 7 0 3) = 0 → (((M 7 0 2) ≤ (M 7 0 1) → (∀ M10 : jw_Mem, M10 = jw_up M 7 0 2 0 → Q 0 M10)) ∧ (¬ (M 7 0 2) ≤ (M 7 0 1) → (jw_M 4 mX7_readClause [vr 7 0] M (fun x11 M12 => (jw_M 0 mX7_skipBlanks [vr 7 0] M12 (fun x13 M14 => jw_J 5 mX7_readAll 28 [(0, vr 7 0), (1, vi (v1 + 1))] [] M14 Q))))))))))) : jw_J 5 mX7_readAll 28 [(0, vr 7 0), (1, vi v1)] [] M Q := by
  refine jr_iload_n (pc := 28) dX7_readAll_28 rfl 1 rfl ?_
  refine jr_sipush (pc := 29) (v := 240) dX7_readAll_29 (by decide) ?_
  refine jr_icmp_ge (pc := 32) (tgt := 67) dX7_readAll_32 (by decide) (fun c => ?_) (fun c => ?_)
  · replace h := h.1 c
    refine jr_aload_n (pc := 67) dX7_readAll_67 rfl 0 rfl ?_
    refine jr_iconst (pc := 68) (v := 0) dX7_readAll_68 (by decide) ?_
    refine jr_put (pc := 69) fp_X7_26 (by decide) (Or.inl ⟨_, _, _, rfl, by decide +kernel⟩) dX7_readAll_69 ?_
    replace h := h _ rfl
    generalize jw_up M 7 0 2 0 = M8 at h ⊢
    exact jr_vret (pc := 72) rfl dX7_readAll_72 h
  · replace h := h.2 c
    refine jr_aload_n (pc := 35) dX7_readAll_35 rfl 0 rfl ?_
    refine jr_get (pc := 36) (v := vi (M 7 0 3)) fg_X7_35 (by decide) rfl dX7_readAll_36 ?_
    refine jr_if_ne (pc := 39) (tgt := 67) dX7_readAll_39 (by decide) (fun c => ?_) (fun c => ?_)
    · replace h := h.1 c
      refine jr_aload_n (pc := 67) dX7_readAll_67 rfl 0 rfl ?_
      refine jr_iconst (pc := 68) (v := 0) dX7_readAll_68 (by decide) ?_
      refine jr_put (pc := 69) fp_X7_26 (by decide) (Or.inl ⟨_, _, _, rfl, by decide +kernel⟩) dX7_readAll_69 ?_
      replace h := h _ rfl
      generalize jw_up M 7 0 2 0 = M9 at h ⊢
      exact jr_vret (pc := 72) rfl dX7_readAll_72 h
    · replace h := h.2 c
      refine jr_aload_n (pc := 42) dX7_readAll_42 rfl 0 rfl ?_
      refine jr_get (pc := 43) (v := vi (M 7 0 1)) fg_X7_32 (by decide) rfl dX7_readAll_43 ?_
      refine jr_aload_n (pc := 46) dX7_readAll_46 rfl 0 rfl ?_
      refine jr_get (pc := 47) (v := vi (M 7 0 2)) fg_X7_26 (by decide) rfl dX7_readAll_47 ?_
      refine jr_icmp_ge (pc := 50) (tgt := 67) dX7_readAll_50 (by decide) (fun c => ?_) (fun c => ?_)
      · replace h := h.1 c
        refine jr_aload_n (pc := 67) dX7_readAll_67 rfl 0 rfl ?_
        refine jr_iconst (pc := 68) (v := 0) dX7_readAll_68 (by decide) ?_
        refine jr_put (pc := 69) fp_X7_26 (by decide) (Or.inl ⟨_, _, _, rfl, by decide +kernel⟩) dX7_readAll_69 ?_
        replace h := h _ rfl
        generalize jw_up M 7 0 2 0 = M10 at h ⊢
        exact jr_vret (pc := 72) rfl dX7_readAll_72 h
      · replace h := h.2 c
        refine jr_aload_n (pc := 53) dX7_readAll_53 rfl 0 rfl ?_
        refine jr_callV (pc := 54) (d' := 4) (mt' := mX7_readClause) (k := 7) (n := 0) (As := []) (st := []) fc_X7_41 (by decide) (by decide) (Nat.le_of_ble_eq_true rfl) rfl dX7_readAll_54 (jw_M.mono h (fun x11 M12 h => ?_))
        show jw_J 5 mX7_readAll 57 [(0, vr 7 0), (1, vi v1)] [] M12 Q
        refine jr_aload_n (pc := 57) dX7_readAll_57 rfl 0 rfl ?_
        refine jr_callV (pc := 58) (d' := 0) (mt' := mX7_skipBlanks) (k := 7) (n := 0) (As := []) (st := []) fc_X7_38 (by decide) (by decide) (Nat.le_of_ble_eq_true rfl) rfl dX7_readAll_58 (jw_M.mono h (fun x13 M14 h => ?_))
        show jw_J 5 mX7_readAll 61 [(0, vr 7 0), (1, vi v1)] [] M14 Q
        refine jr_iinc (pc := 61) (lv' := [(1, vi (v1 + 1)), (0, vr 7 0)]) (q := 1) dX7_readAll_61 rfl (by rfl) (by decide) rfl ?_
        refine jr_goto (pc := 64) (tgt := 28) dX7_readAll_64 (by decide) ?_
        exact jr_sub [1, 0] rfl h
theorem dX7_letter_0 : decode cX7_letter 0 = .ok (.aload_n 0, 1) := by decide +kernel
theorem dX7_letter_1 : decode cX7_letter 1 = .ok (.getfield 32, 3) := by decide +kernel
theorem dX7_letter_4 : decode cX7_letter 4 = .ok (.ifCond .lt 36, 3) := by decide +kernel
theorem dX7_letter_7 : decode cX7_letter 7 = .ok (.aload_n 0, 1) := by decide +kernel
theorem dX7_letter_8 : decode cX7_letter 8 = .ok (.getfield 32, 3) := by decide +kernel
theorem dX7_letter_11 : decode cX7_letter 11 = .ok (.aload_n 0, 1) := by decide +kernel
theorem dX7_letter_12 : decode cX7_letter 12 = .ok (.getfield 26, 3) := by decide +kernel
theorem dX7_letter_15 : decode cX7_letter 15 = .ok (.if_icmp .ge 25, 3) := by decide +kernel
theorem dX7_letter_18 : decode cX7_letter 18 = .ok (.aload_n 0, 1) := by decide +kernel
theorem dX7_letter_19 : decode cX7_letter 19 = .ok (.getfield 32, 3) := by decide +kernel
theorem dX7_letter_22 : decode cX7_letter 22 = .ok (.sipush 240, 3) := by decide +kernel
theorem dX7_letter_25 : decode cX7_letter 25 = .ok (.if_icmp .ge 15, 3) := by decide +kernel
theorem dX7_letter_28 : decode cX7_letter 28 = .ok (.aload_n 0, 1) := by decide +kernel
theorem dX7_letter_29 : decode cX7_letter 29 = .ok (.getfield 9, 3) := by decide +kernel
theorem dX7_letter_32 : decode cX7_letter 32 = .ok (.aload_n 0, 1) := by decide +kernel
theorem dX7_letter_33 : decode cX7_letter 33 = .ok (.getfield 32, 3) := by decide +kernel
theorem dX7_letter_36 : decode cX7_letter 36 = .ok (.iaload, 1) := by decide +kernel
theorem dX7_letter_37 : decode cX7_letter 37 = .ok (.goto 4, 3) := by decide +kernel
theorem dX7_letter_40 : decode cX7_letter 40 = .ok (.iconst (-1), 1) := by decide +kernel
theorem dX7_letter_41 : decode cX7_letter 41 = .ok (.ireturn, 1) := by decide +kernel
set_option maxHeartbeats 4000000 in
set_option maxRecDepth 20000 in
theorem en_X7_letter {M : jw_Mem} {Q : Int32 → jw_Mem → Prop}  (h : (((M 7 0 1) < 0 → Q (-1) M) ∧ (¬ (M 7 0 1) < 0 → (((M 7 0 2) ≤ (M 7 0 1) → Q (-1) M) ∧ (¬ (M 7 0 2) ≤ (M 7 0 1) → ((240 ≤ (M 7 0 1) → Q (-1) M) ∧ (¬ 240 ≤ (M 7 0 1) → (vp_in (M 7 0 1) 240 ∧ Q (M 25 0 ((M 7 0 1) : Int32).toNatClampNeg) M)))))))) : jw_M 0 mX7_letter [vr 7 0] M Q := by
  refine jw_M.of (by decide) (Nat.le_of_ble_eq_true rfl) ?_
  show jw_J 0 mX7_letter 0 [(0, vr 7 0)] [] M Q
  refine jr_aload_n (pc := 0) dX7_letter_0 rfl 0 rfl ?_
  refine jr_get (pc := 1) (v := vi (M 7 0 1)) fg_X7_32 (by decide) rfl dX7_letter_1 ?_
  refine jr_if_lt (pc := 4) (tgt := 40) dX7_letter_4 (by decide) (fun c => ?_) (fun c => ?_)
  · replace h := h.1 c
    refine jr_iconst (pc := 40) (v := (-1)) dX7_letter_40 (by decide) ?_
    exact jr_iret (pc := 41) rfl dX7_letter_41 h
  · replace h := h.2 c
    refine jr_aload_n (pc := 7) dX7_letter_7 rfl 0 rfl ?_
    refine jr_get (pc := 8) (v := vi (M 7 0 1)) fg_X7_32 (by decide) rfl dX7_letter_8 ?_
    refine jr_aload_n (pc := 11) dX7_letter_11 rfl 0 rfl ?_
    refine jr_get (pc := 12) (v := vi (M 7 0 2)) fg_X7_26 (by decide) rfl dX7_letter_12 ?_
    refine jr_icmp_ge (pc := 15) (tgt := 40) dX7_letter_15 (by decide) (fun c => ?_) (fun c => ?_)
    · replace h := h.1 c
      refine jr_iconst (pc := 40) (v := (-1)) dX7_letter_40 (by decide) ?_
      exact jr_iret (pc := 41) rfl dX7_letter_41 h
    · replace h := h.2 c
      refine jr_aload_n (pc := 18) dX7_letter_18 rfl 0 rfl ?_
      refine jr_get (pc := 19) (v := vi (M 7 0 1)) fg_X7_32 (by decide) rfl dX7_letter_19 ?_
      refine jr_sipush (pc := 22) (v := 240) dX7_letter_22 (by decide) ?_
      refine jr_icmp_ge (pc := 25) (tgt := 40) dX7_letter_25 (by decide) (fun c => ?_) (fun c => ?_)
      · replace h := h.1 c
        refine jr_iconst (pc := 40) (v := (-1)) dX7_letter_40 (by decide) ?_
        exact jr_iret (pc := 41) rfl dX7_letter_41 h
      · replace h := h.2 c
        refine jr_aload_n (pc := 28) dX7_letter_28 rfl 0 rfl ?_
        refine jr_get (pc := 29) (v := vr 25 0) fg_X7_9 (by decide) rfl dX7_letter_29 ?_
        refine jr_aload_n (pc := 32) dX7_letter_32 rfl 0 rfl ?_
        refine jr_get (pc := 33) (v := vi (M 7 0 1)) fg_X7_32 (by decide) rfl dX7_letter_33 ?_
        refine jr_iald (pc := 36) ⟨rfl, (by decide)⟩ h.1 dX7_letter_36 ?_
        replace h := h.2
        refine jr_goto (pc := 37) (tgt := 41) dX7_letter_37 (by decide) ?_
        exact jr_iret (pc := 41) rfl dX7_letter_41 h
theorem dX7_isFigure_0 : decode cX7_isFigure 0 = .ok (.iload_n 0, 1) := by decide +kernel
theorem dX7_isFigure_1 : decode cX7_isFigure 1 = .ok (.bipush 48, 2) := by decide +kernel
theorem dX7_isFigure_3 : decode cX7_isFigure 3 = .ok (.if_icmp .lt 13, 3) := by decide +kernel
theorem dX7_isFigure_6 : decode cX7_isFigure 6 = .ok (.iload_n 0, 1) := by decide +kernel
theorem dX7_isFigure_7 : decode cX7_isFigure 7 = .ok (.bipush 57, 2) := by decide +kernel
theorem dX7_isFigure_9 : decode cX7_isFigure 9 = .ok (.if_icmp .gt 7, 3) := by decide +kernel
theorem dX7_isFigure_12 : decode cX7_isFigure 12 = .ok (.iconst 1, 1) := by decide +kernel
theorem dX7_isFigure_13 : decode cX7_isFigure 13 = .ok (.goto 4, 3) := by decide +kernel
theorem dX7_isFigure_16 : decode cX7_isFigure 16 = .ok (.iconst 0, 1) := by decide +kernel
theorem dX7_isFigure_17 : decode cX7_isFigure 17 = .ok (.ireturn, 1) := by decide +kernel
set_option maxHeartbeats 4000000 in
set_option maxRecDepth 20000 in
theorem en_X7_isFigure {a1 : Int32} {M : jw_Mem} {Q : Int32 → jw_Mem → Prop}  (h : ((a1 < 48 → Q 0 M) ∧ (¬ a1 < 48 → ((57 < a1 → Q 0 M) ∧ (¬ 57 < a1 → Q 1 M))))) : jw_M 0 mX7_isFigure [vi a1] M Q := by
  refine jw_M.of (by decide) (Nat.le_of_ble_eq_true rfl) ?_
  show jw_J 0 mX7_isFigure 0 [(0, vi a1)] [] M Q
  refine jr_iload_n (pc := 0) dX7_isFigure_0 rfl 0 rfl ?_
  refine jr_bipush (pc := 1) (v := 48) dX7_isFigure_1 (by decide) ?_
  refine jr_icmp_lt (pc := 3) (tgt := 16) dX7_isFigure_3 (by decide) (fun c => ?_) (fun c => ?_)
  · replace h := h.1 c
    refine jr_iconst (pc := 16) (v := 0) dX7_isFigure_16 (by decide) ?_
    exact jr_zret (pc := 17) rfl dX7_isFigure_17 (Or.inl rfl) h
  · replace h := h.2 c
    refine jr_iload_n (pc := 6) dX7_isFigure_6 rfl 0 rfl ?_
    refine jr_bipush (pc := 7) (v := 57) dX7_isFigure_7 (by decide) ?_
    refine jr_icmp_gt (pc := 9) (tgt := 16) dX7_isFigure_9 (by decide) (fun c => ?_) (fun c => ?_)
    · replace h := h.1 c
      refine jr_iconst (pc := 16) (v := 0) dX7_isFigure_16 (by decide) ?_
      exact jr_zret (pc := 17) rfl dX7_isFigure_17 (Or.inl rfl) h
    · replace h := h.2 c
      refine jr_iconst (pc := 12) (v := 1) dX7_isFigure_12 (by decide) ?_
      refine jr_goto (pc := 13) (tgt := 17) dX7_isFigure_13 (by decide) ?_
      exact jr_zret (pc := 17) rfl dX7_isFigure_17 (Or.inr rfl) h
theorem dX7_skipBlanks_0 : decode cX7_skipBlanks 0 = .ok (.aload_n 0, 1) := by decide +kernel
theorem dX7_skipBlanks_1 : decode cX7_skipBlanks 1 = .ok (.getfield 32, 3) := by decide +kernel
theorem dX7_skipBlanks_4 : decode cX7_skipBlanks 4 = .ok (.aload_n 0, 1) := by decide +kernel
theorem dX7_skipBlanks_5 : decode cX7_skipBlanks 5 = .ok (.getfield 26, 3) := by decide +kernel
theorem dX7_skipBlanks_8 : decode cX7_skipBlanks 8 = .ok (.if_icmp .ge 30, 3) := by decide +kernel
theorem dX7_skipBlanks_11 : decode cX7_skipBlanks 11 = .ok (.aload_n 0, 1) := by decide +kernel
theorem dX7_skipBlanks_12 : decode cX7_skipBlanks 12 = .ok (.getfield 9, 3) := by decide +kernel
theorem dX7_skipBlanks_15 : decode cX7_skipBlanks 15 = .ok (.aload_n 0, 1) := by decide +kernel
theorem dX7_skipBlanks_16 : decode cX7_skipBlanks 16 = .ok (.getfield 32, 3) := by decide +kernel
theorem dX7_skipBlanks_19 : decode cX7_skipBlanks 19 = .ok (.iaload, 1) := by decide +kernel
theorem dX7_skipBlanks_20 : decode cX7_skipBlanks 20 = .ok (.bipush 32, 2) := by decide +kernel
theorem dX7_skipBlanks_22 : decode cX7_skipBlanks 22 = .ok (.if_icmp .ne 16, 3) := by decide +kernel
theorem dX7_skipBlanks_25 : decode cX7_skipBlanks 25 = .ok (.aload_n 0, 1) := by decide +kernel
theorem dX7_skipBlanks_26 : decode cX7_skipBlanks 26 = .ok (.dup, 1) := by decide +kernel
theorem dX7_skipBlanks_27 : decode cX7_skipBlanks 27 = .ok (.getfield 32, 3) := by decide +kernel
theorem dX7_skipBlanks_30 : decode cX7_skipBlanks 30 = .ok (.iconst 1, 1) := by decide +kernel
theorem dX7_skipBlanks_31 : decode cX7_skipBlanks 31 = .ok (.iadd, 1) := by decide +kernel
theorem dX7_skipBlanks_32 : decode cX7_skipBlanks 32 = .ok (.putfield 32, 3) := by decide +kernel
theorem dX7_skipBlanks_35 : decode cX7_skipBlanks 35 = .ok (.goto (-35), 3) := by decide +kernel
theorem dX7_skipBlanks_38 : decode cX7_skipBlanks 38 = .ok (.return_, 1) := by decide +kernel
set_option maxHeartbeats 4000000 in
set_option maxRecDepth 20000 in
theorem en_X7_skipBlanks {M : jw_Mem} {Q : Int32 → jw_Mem → Prop}  (h : jw_J 0 mX7_skipBlanks 0 [(0, vr 7 0)] [] M Q) : jw_M 0 mX7_skipBlanks [vr 7 0] M Q := by
  refine jw_M.of (by decide) (Nat.le_of_ble_eq_true rfl) ?_
  show jw_J 0 mX7_skipBlanks 0 [(0, vr 7 0)] [] M Q
  exact jr_sub [0] rfl h
set_option maxHeartbeats 4000000 in
set_option maxRecDepth 20000 in
theorem bk_X7_skipBlanks_0 {M : jw_Mem} {Q : Int32 → jw_Mem → Prop}  (h : (((M 7 0 2) ≤ (M 7 0 1) → Q 0 M) ∧ (¬ (M 7 0 2) ≤ (M 7 0 1) → (vp_in (M 7 0 1) 240 ∧ ((¬ (M 25 0 ((M 7 0 1) : Int32).toNatClampNeg) = 32 → Q 0 M) ∧ ((M 25 0 ((M 7 0 1) : Int32).toNatClampNeg) = 32 → (∀ M1 : jw_Mem, M1 = jw_up M 7 0 1 ((M 7 0 1) + 1) → jw_J 0 mX7_skipBlanks 0 [(0, vr 7 0)] [] M1 Q))))))) : jw_J 0 mX7_skipBlanks 0 [(0, vr 7 0)] [] M Q := by
  refine jr_aload_n (pc := 0) dX7_skipBlanks_0 rfl 0 rfl ?_
  refine jr_get (pc := 1) (v := vi (M 7 0 1)) fg_X7_32 (by decide) rfl dX7_skipBlanks_1 ?_
  refine jr_aload_n (pc := 4) dX7_skipBlanks_4 rfl 0 rfl ?_
  refine jr_get (pc := 5) (v := vi (M 7 0 2)) fg_X7_26 (by decide) rfl dX7_skipBlanks_5 ?_
  refine jr_icmp_ge (pc := 8) (tgt := 38) dX7_skipBlanks_8 (by decide) (fun c => ?_) (fun c => ?_)
  · replace h := h.1 c
    exact jr_vret (pc := 38) rfl dX7_skipBlanks_38 h
  · replace h := h.2 c
    refine jr_aload_n (pc := 11) dX7_skipBlanks_11 rfl 0 rfl ?_
    refine jr_get (pc := 12) (v := vr 25 0) fg_X7_9 (by decide) rfl dX7_skipBlanks_12 ?_
    refine jr_aload_n (pc := 15) dX7_skipBlanks_15 rfl 0 rfl ?_
    refine jr_get (pc := 16) (v := vi (M 7 0 1)) fg_X7_32 (by decide) rfl dX7_skipBlanks_16 ?_
    refine jr_iald (pc := 19) ⟨rfl, (by decide)⟩ h.1 dX7_skipBlanks_19 ?_
    replace h := h.2
    refine jr_bipush (pc := 20) (v := 32) dX7_skipBlanks_20 (by decide) ?_
    refine jr_icmp_ne (pc := 22) (tgt := 38) dX7_skipBlanks_22 (by decide) (fun c => ?_) (fun c => ?_)
    · replace h := h.1 c
      exact jr_vret (pc := 38) rfl dX7_skipBlanks_38 h
    · replace h := h.2 c
      refine jr_aload_n (pc := 25) dX7_skipBlanks_25 rfl 0 rfl ?_
      refine jr_dup_r (pc := 26) dX7_skipBlanks_26 ?_
      refine jr_get (pc := 27) (v := vi (M 7 0 1)) fg_X7_32 (by decide) rfl dX7_skipBlanks_27 ?_
      refine jr_iconst (pc := 30) (v := 1) dX7_skipBlanks_30 (by decide) ?_
      refine jr_iadd (pc := 31) dX7_skipBlanks_31 ?_
      refine jr_put (pc := 32) fp_X7_32 (by decide) (Or.inl ⟨_, _, _, rfl, by decide +kernel⟩) dX7_skipBlanks_32 ?_
      replace h := h _ rfl
      generalize jw_up M 7 0 1 ((M 7 0 1) + 1) = M1 at h ⊢
      refine jr_goto (pc := 35) (tgt := 0) dX7_skipBlanks_35 (by decide) ?_
      exact jr_sub [0] rfl h
theorem dX7_blame_0 : decode cX7_blame 0 = .ok (.aload_n 0, 1) := by decide +kernel
theorem dX7_blame_1 : decode cX7_blame 1 = .ok (.getfield 35, 3) := by decide +kernel
theorem dX7_blame_4 : decode cX7_blame 4 = .ok (.ifCond .ne 13, 3) := by decide +kernel
theorem dX7_blame_7 : decode cX7_blame 7 = .ok (.aload_n 0, 1) := by decide +kernel
theorem dX7_blame_8 : decode cX7_blame 8 = .ok (.iload_n 1, 1) := by decide +kernel
theorem dX7_blame_9 : decode cX7_blame 9 = .ok (.putfield 35, 3) := by decide +kernel
theorem dX7_blame_12 : decode cX7_blame 12 = .ok (.aload_n 0, 1) := by decide +kernel
theorem dX7_blame_13 : decode cX7_blame 13 = .ok (.iload_n 2, 1) := by decide +kernel
theorem dX7_blame_14 : decode cX7_blame 14 = .ok (.putfield 15, 3) := by decide +kernel
theorem dX7_blame_17 : decode cX7_blame 17 = .ok (.return_, 1) := by decide +kernel
set_option maxHeartbeats 4000000 in
set_option maxRecDepth 20000 in
theorem en_X7_blame {a1 : Int32} {a2 : Int32} {M : jw_Mem} {Q : Int32 → jw_Mem → Prop}  (h : ((¬ (M 7 0 3) = 0 → Q 0 M) ∧ ((M 7 0 3) = 0 → (∀ M1 : jw_Mem, M1 = jw_up M 7 0 3 a1 → (∀ M2 : jw_Mem, M2 = jw_up M1 7 0 4 a2 → Q 0 M2))))) : jw_M 0 mX7_blame [vr 7 0, vi a1, vi a2] M Q := by
  refine jw_M.of (by decide) (Nat.le_of_ble_eq_true rfl) ?_
  show jw_J 0 mX7_blame 0 [(0, vr 7 0), (1, vi a1), (2, vi a2)] [] M Q
  refine jr_aload_n (pc := 0) dX7_blame_0 rfl 0 rfl ?_
  refine jr_get (pc := 1) (v := vi (M 7 0 3)) fg_X7_35 (by decide) rfl dX7_blame_1 ?_
  refine jr_if_ne (pc := 4) (tgt := 17) dX7_blame_4 (by decide) (fun c => ?_) (fun c => ?_)
  · replace h := h.1 c
    exact jr_vret (pc := 17) rfl dX7_blame_17 h
  · replace h := h.2 c
    refine jr_aload_n (pc := 7) dX7_blame_7 rfl 0 rfl ?_
    refine jr_iload_n (pc := 8) dX7_blame_8 rfl 1 rfl ?_
    refine jr_put (pc := 9) fp_X7_35 (by decide) (Or.inl ⟨_, _, _, rfl, by decide +kernel⟩) dX7_blame_9 ?_
    replace h := h _ rfl
    generalize jw_up M 7 0 3 a1 = M1 at h ⊢
    refine jr_aload_n (pc := 12) dX7_blame_12 rfl 0 rfl ?_
    refine jr_iload_n (pc := 13) dX7_blame_13 rfl 2 rfl ?_
    refine jr_put (pc := 14) fp_X7_15 (by decide) (Or.inl ⟨_, _, _, rfl, by decide +kernel⟩) dX7_blame_14 ?_
    replace h := h _ rfl
    generalize jw_up M1 7 0 4 a2 = M2 at h ⊢
    exact jr_vret (pc := 17) rfl dX7_blame_17 h
theorem dX7_readClause_0 : decode cX7_readClause 0 = .ok (.aload_n 0, 1) := by decide +kernel
theorem dX7_readClause_1 : decode cX7_readClause 1 = .ok (.invokevirtual 44, 3) := by decide +kernel
theorem dX7_readClause_4 : decode cX7_readClause 4 = .ok (.istore_n 1, 1) := by decide +kernel
theorem dX7_readClause_5 : decode cX7_readClause 5 = .ok (.aload_n 0, 1) := by decide +kernel
theorem dX7_readClause_6 : decode cX7_readClause 6 = .ok (.iload_n 1, 1) := by decide +kernel
theorem dX7_readClause_7 : decode cX7_readClause 7 = .ok (.invokevirtual 48, 3) := by decide +kernel
theorem dX7_readClause_10 : decode cX7_readClause 10 = .ok (.istore_n 2, 1) := by decide +kernel
theorem dX7_readClause_11 : decode cX7_readClause 11 = .ok (.iload_n 2, 1) := by decide +kernel
theorem dX7_readClause_12 : decode cX7_readClause 12 = .ok (.ifCond .eq 13, 3) := by decide +kernel
theorem dX7_readClause_15 : decode cX7_readClause 15 = .ok (.aload_n 0, 1) := by decide +kernel
theorem dX7_readClause_16 : decode cX7_readClause 16 = .ok (.iload_n 2, 1) := by decide +kernel
theorem dX7_readClause_17 : decode cX7_readClause 17 = .ok (.aload_n 0, 1) := by decide +kernel
theorem dX7_readClause_18 : decode cX7_readClause 18 = .ok (.getfield 32, 3) := by decide +kernel
theorem dX7_readClause_21 : decode cX7_readClause 21 = .ok (.invokevirtual 52, 3) := by decide +kernel
theorem dX7_readClause_24 : decode cX7_readClause 24 = .ok (.return_, 1) := by decide +kernel
theorem dX7_readClause_25 : decode cX7_readClause 25 = .ok (.aload_n 0, 1) := by decide +kernel
theorem dX7_readClause_26 : decode cX7_readClause 26 = .ok (.dup, 1) := by decide +kernel
theorem dX7_readClause_27 : decode cX7_readClause 27 = .ok (.getfield 32, 3) := by decide +kernel
theorem dX7_readClause_30 : decode cX7_readClause 30 = .ok (.iconst 1, 1) := by decide +kernel
theorem dX7_readClause_31 : decode cX7_readClause 31 = .ok (.iadd, 1) := by decide +kernel
theorem dX7_readClause_32 : decode cX7_readClause 32 = .ok (.putfield 32, 3) := by decide +kernel
theorem dX7_readClause_35 : decode cX7_readClause 35 = .ok (.iload_n 1, 1) := by decide +kernel
theorem dX7_readClause_36 : decode cX7_readClause 36 = .ok (.tableswitch 57 112 116 #[43, 57, 57, 50, 36], 36) := by decide +kernel
theorem dX7_readClause_72 : decode cX7_readClause 72 = .ok (.aload_n 0, 1) := by decide +kernel
theorem dX7_readClause_73 : decode cX7_readClause 73 = .ok (.invokevirtual 56, 3) := by decide +kernel
theorem dX7_readClause_76 : decode cX7_readClause 76 = .ok (.goto 21, 3) := by decide +kernel
theorem dX7_readClause_79 : decode cX7_readClause 79 = .ok (.aload_n 0, 1) := by decide +kernel
theorem dX7_readClause_80 : decode cX7_readClause 80 = .ok (.invokevirtual 59, 3) := by decide +kernel
theorem dX7_readClause_83 : decode cX7_readClause 83 = .ok (.goto 14, 3) := by decide +kernel
theorem dX7_readClause_86 : decode cX7_readClause 86 = .ok (.aload_n 0, 1) := by decide +kernel
theorem dX7_readClause_87 : decode cX7_readClause 87 = .ok (.invokevirtual 62, 3) := by decide +kernel
theorem dX7_readClause_90 : decode cX7_readClause 90 = .ok (.goto 7, 3) := by decide +kernel
theorem dX7_readClause_93 : decode cX7_readClause 93 = .ok (.aload_n 0, 1) := by decide +kernel
theorem dX7_readClause_94 : decode cX7_readClause 94 = .ok (.invokevirtual 65, 3) := by decide +kernel
theorem dX7_readClause_97 : decode cX7_readClause 97 = .ok (.return_, 1) := by decide +kernel
set_option maxHeartbeats 4000000 in
set_option maxRecDepth 20000 in
theorem en_X7_readClause {M : jw_Mem} {Q : Int32 → jw_Mem → Prop}  (h : (jw_M 0 mX7_letter [vr 7 0] M (fun x1 M2 => (jw_M 0 mX7_faultOfWord [vr 7 0, vi x1] M2 (fun x3 M4 => ((x3 = 0 → (∀ M5 : jw_Mem, M5 = jw_up M4 7 0 1 ((M4 7 0 1) + 1) → ((x1.toInt < 112 ∨ 116 < x1.toInt → (jw_M 2 mX7_readWalker [vr 7 0] M5 (fun x6 M7 => Q 0 M7))) ∧ (x1.toInt = 112 → (jw_M 2 mX7_readPlinth [vr 7 0] M5 (fun x8 M9 => Q 0 M9))) ∧ (x1.toInt = 113 → (jw_M 2 mX7_readWalker [vr 7 0] M5 (fun x10 M11 => Q 0 M11))) ∧ (x1.toInt = 114 → (jw_M 2 mX7_readWalker [vr 7 0] M5 (fun x12 M13 => Q 0 M13))) ∧ (x1.toInt = 115 → (jw_M 3 mX7_readStatue [vr 7 0] M5 (fun x14 M15 => Q 0 M15))) ∧ (x1.toInt = 116 → (jw_M 2 mX7_readTerm [vr 7 0] M5 (fun x16 M17 => Q 0 M17)))))) ∧ (¬ x3 = 0 → (jw_M 0 mX7_blame [vr 7 0, vi x3, vi (M4 7 0 1)] M4 (fun x18 M19 => Q 0 M19))))))))) : jw_M 4 mX7_readClause [vr 7 0] M Q := by
  refine jw_M.of (by decide) (Nat.le_of_ble_eq_true rfl) ?_
  show jw_J 4 mX7_readClause 0 [(0, vr 7 0)] [] M Q
  refine jr_aload_n (pc := 0) dX7_readClause_0 rfl 0 rfl ?_
  refine jr_callV (pc := 1) (d' := 0) (mt' := mX7_letter) (k := 7) (n := 0) (As := []) (st := []) fc_X7_44 (by decide) (by decide) (Nat.le_of_ble_eq_true rfl) rfl dX7_readClause_1 (jw_M.mono h (fun x1 M2 h => ?_))
  show jw_J 4 mX7_readClause 4 [(0, vr 7 0)] [vi x1] M2 Q
  refine jr_istore_n (pc := 4) (lv' := [(1, vi x1), (0, vr 7 0)]) dX7_readClause_4 rfl (by decide) rfl ?_
  refine jr_aload_n (pc := 5) dX7_readClause_5 rfl 1 rfl ?_
  refine jr_iload_n (pc := 6) dX7_readClause_6 rfl 0 rfl ?_
  refine jr_callV (pc := 7) (d' := 0) (mt' := mX7_faultOfWord) (k := 7) (n := 0) (As := [vi x1]) (st := []) fc_X7_48 (by decide) (by decide) (Nat.le_of_ble_eq_true rfl) rfl dX7_readClause_7 (jw_M.mono h (fun x3 M4 h => ?_))
  show jw_J 4 mX7_readClause 10 [(1, vi x1), (0, vr 7 0)] [vi x3] M4 Q
  refine jr_istore_n (pc := 10) (lv' := [(2, vi x3), (1, vi x1), (0, vr 7 0)]) dX7_readClause_10 rfl (by decide) rfl ?_
  refine jr_iload_n (pc := 11) dX7_readClause_11 rfl 0 rfl ?_
  refine jr_if_eq (pc := 12) (tgt := 25) dX7_readClause_12 (by decide) (fun c => ?_) (fun c => ?_)
  · replace h := h.1 c
    refine jr_aload_n (pc := 25) dX7_readClause_25 rfl 2 rfl ?_
    refine jr_dup_r (pc := 26) dX7_readClause_26 ?_
    refine jr_get (pc := 27) (v := vi (M4 7 0 1)) fg_X7_32 (by decide) rfl dX7_readClause_27 ?_
    refine jr_iconst (pc := 30) (v := 1) dX7_readClause_30 (by decide) ?_
    refine jr_iadd (pc := 31) dX7_readClause_31 ?_
    refine jr_put (pc := 32) fp_X7_32 (by decide) (Or.inl ⟨_, _, _, rfl, by decide +kernel⟩) dX7_readClause_32 ?_
    replace h := h _ rfl
    generalize jw_up M4 7 0 1 ((M4 7 0 1) + 1) = M5 at h ⊢
    refine jr_iload_n (pc := 35) dX7_readClause_35 rfl 1 rfl ?_
    refine jr_tsw (pc := 36) dX7_readClause_36 (tgt := 93) (by decide) (by decide) (fun c => ?_) (fun j c c2 => ?_)
    · replace h := h.1 c
      refine jr_aload_n (pc := 93) dX7_readClause_93 rfl 2 rfl ?_
      refine jr_callV (pc := 94) (d' := 2) (mt' := mX7_readWalker) (k := 7) (n := 0) (As := []) (st := []) fc_X7_65 (by decide) (by decide) (Nat.le_of_ble_eq_true rfl) rfl dX7_readClause_94 (jw_M.mono h (fun x6 M7 h => ?_))
      show jw_J 4 mX7_readClause 97 [(2, vi x3), (1, vi x1), (0, vr 7 0)] [] M7 Q
      exact jr_vret (pc := 97) rfl dX7_readClause_97 h
    · have hj : j = 0 ∨ j = 1 ∨ j = 2 ∨ j = 3 ∨ j = 4 := by omega
      rcases hj with rfl | rfl | rfl | rfl | rfl
      · replace h := h.2.1 (c.trans (by decide))
        refine ⟨43, 79, rfl, by decide, ?_⟩
        refine jr_aload_n (pc := 79) dX7_readClause_79 rfl 2 rfl ?_
        refine jr_callV (pc := 80) (d' := 2) (mt' := mX7_readPlinth) (k := 7) (n := 0) (As := []) (st := []) fc_X7_59 (by decide) (by decide) (Nat.le_of_ble_eq_true rfl) rfl dX7_readClause_80 (jw_M.mono h (fun x8 M9 h => ?_))
        show jw_J 4 mX7_readClause 83 [(2, vi x3), (1, vi x1), (0, vr 7 0)] [] M9 Q
        refine jr_goto (pc := 83) (tgt := 97) dX7_readClause_83 (by decide) ?_
        exact jr_vret (pc := 97) rfl dX7_readClause_97 h
      · replace h := h.2.2.1 (c.trans (by decide))
        refine ⟨57, 93, rfl, by decide, ?_⟩
        refine jr_aload_n (pc := 93) dX7_readClause_93 rfl 2 rfl ?_
        refine jr_callV (pc := 94) (d' := 2) (mt' := mX7_readWalker) (k := 7) (n := 0) (As := []) (st := []) fc_X7_65 (by decide) (by decide) (Nat.le_of_ble_eq_true rfl) rfl dX7_readClause_94 (jw_M.mono h (fun x10 M11 h => ?_))
        show jw_J 4 mX7_readClause 97 [(2, vi x3), (1, vi x1), (0, vr 7 0)] [] M11 Q
        exact jr_vret (pc := 97) rfl dX7_readClause_97 h
      · replace h := h.2.2.2.1 (c.trans (by decide))
        refine ⟨57, 93, rfl, by decide, ?_⟩
        refine jr_aload_n (pc := 93) dX7_readClause_93 rfl 2 rfl ?_
        refine jr_callV (pc := 94) (d' := 2) (mt' := mX7_readWalker) (k := 7) (n := 0) (As := []) (st := []) fc_X7_65 (by decide) (by decide) (Nat.le_of_ble_eq_true rfl) rfl dX7_readClause_94 (jw_M.mono h (fun x12 M13 h => ?_))
        show jw_J 4 mX7_readClause 97 [(2, vi x3), (1, vi x1), (0, vr 7 0)] [] M13 Q
        exact jr_vret (pc := 97) rfl dX7_readClause_97 h
      · replace h := h.2.2.2.2.1 (c.trans (by decide))
        refine ⟨50, 86, rfl, by decide, ?_⟩
        refine jr_aload_n (pc := 86) dX7_readClause_86 rfl 2 rfl ?_
        refine jr_callV (pc := 87) (d' := 3) (mt' := mX7_readStatue) (k := 7) (n := 0) (As := []) (st := []) fc_X7_62 (by decide) (by decide) (Nat.le_of_ble_eq_true rfl) rfl dX7_readClause_87 (jw_M.mono h (fun x14 M15 h => ?_))
        show jw_J 4 mX7_readClause 90 [(2, vi x3), (1, vi x1), (0, vr 7 0)] [] M15 Q
        refine jr_goto (pc := 90) (tgt := 97) dX7_readClause_90 (by decide) ?_
        exact jr_vret (pc := 97) rfl dX7_readClause_97 h
      · replace h := h.2.2.2.2.2 (c.trans (by decide))
        refine ⟨36, 72, rfl, by decide, ?_⟩
        refine jr_aload_n (pc := 72) dX7_readClause_72 rfl 2 rfl ?_
        refine jr_callV (pc := 73) (d' := 2) (mt' := mX7_readTerm) (k := 7) (n := 0) (As := []) (st := []) fc_X7_56 (by decide) (by decide) (Nat.le_of_ble_eq_true rfl) rfl dX7_readClause_73 (jw_M.mono h (fun x16 M17 h => ?_))
        show jw_J 4 mX7_readClause 76 [(2, vi x3), (1, vi x1), (0, vr 7 0)] [] M17 Q
        refine jr_goto (pc := 76) (tgt := 97) dX7_readClause_76 (by decide) ?_
        exact jr_vret (pc := 97) rfl dX7_readClause_97 h
  · replace h := h.2 c
    refine jr_aload_n (pc := 15) dX7_readClause_15 rfl 2 rfl ?_
    refine jr_iload_n (pc := 16) dX7_readClause_16 rfl 0 rfl ?_
    refine jr_aload_n (pc := 17) dX7_readClause_17 rfl 2 rfl ?_
    refine jr_get (pc := 18) (v := vi (M4 7 0 1)) fg_X7_32 (by decide) rfl dX7_readClause_18 ?_
    refine jr_callV (pc := 21) (d' := 0) (mt' := mX7_blame) (k := 7) (n := 0) (As := [vi x3, vi (M4 7 0 1)]) (st := []) fc_X7_52 (by decide) (by decide) (Nat.le_of_ble_eq_true rfl) rfl dX7_readClause_21 (jw_M.mono h (fun x18 M19 h => ?_))
    show jw_J 4 mX7_readClause 24 [(2, vi x3), (1, vi x1), (0, vr 7 0)] [] M19 Q
    exact jr_vret (pc := 24) rfl dX7_readClause_24 h
theorem dX7_faultOfWord_0 : decode cX7_faultOfWord 0 = .ok (.aload_n 0, 1) := by decide +kernel
theorem dX7_faultOfWord_1 : decode cX7_faultOfWord 1 = .ok (.getfield 22, 3) := by decide +kernel
theorem dX7_faultOfWord_4 : decode cX7_faultOfWord 4 = .ok (.getfield 68, 3) := by decide +kernel
theorem dX7_faultOfWord_7 : decode cX7_faultOfWord 7 = .ok (.ifCond .ne 7, 3) := by decide +kernel
theorem dX7_faultOfWord_10 : decode cX7_faultOfWord 10 = .ok (.iconst 1, 1) := by decide +kernel
theorem dX7_faultOfWord_11 : decode cX7_faultOfWord 11 = .ok (.goto 4, 3) := by decide +kernel
theorem dX7_faultOfWord_14 : decode cX7_faultOfWord 14 = .ok (.iconst 0, 1) := by decide +kernel
theorem dX7_faultOfWord_15 : decode cX7_faultOfWord 15 = .ok (.istore_n 2, 1) := by decide +kernel
theorem dX7_faultOfWord_16 : decode cX7_faultOfWord 16 = .ok (.aload_n 0, 1) := by decide +kernel
theorem dX7_faultOfWord_17 : decode cX7_faultOfWord 17 = .ok (.getfield 22, 3) := by decide +kernel
theorem dX7_faultOfWord_20 : decode cX7_faultOfWord 20 = .ok (.getfield 71, 3) := by decide +kernel
theorem dX7_faultOfWord_23 : decode cX7_faultOfWord 23 = .ok (.ifCond .le 7, 3) := by decide +kernel
theorem dX7_faultOfWord_26 : decode cX7_faultOfWord 26 = .ok (.iconst 1, 1) := by decide +kernel
theorem dX7_faultOfWord_27 : decode cX7_faultOfWord 27 = .ok (.goto 4, 3) := by decide +kernel
theorem dX7_faultOfWord_30 : decode cX7_faultOfWord 30 = .ok (.iconst 0, 1) := by decide +kernel
theorem dX7_faultOfWord_31 : decode cX7_faultOfWord 31 = .ok (.istore_n 3, 1) := by decide +kernel
theorem dX7_faultOfWord_32 : decode cX7_faultOfWord 32 = .ok (.iload_n 1, 1) := by decide +kernel
theorem dX7_faultOfWord_33 : decode cX7_faultOfWord 33 = .ok (.tableswitch 142 112 119 #[57, 142, 142, 86, 47, 142, 142, 116], 47) := by decide +kernel
theorem dX7_faultOfWord_80 : decode cX7_faultOfWord 80 = .ok (.iload_n 2, 1) := by decide +kernel
theorem dX7_faultOfWord_81 : decode cX7_faultOfWord 81 = .ok (.ifCond .eq 7, 3) := by decide +kernel
theorem dX7_faultOfWord_84 : decode cX7_faultOfWord 84 = .ok (.iconst 0, 1) := by decide +kernel
theorem dX7_faultOfWord_85 : decode cX7_faultOfWord 85 = .ok (.goto 4, 3) := by decide +kernel
theorem dX7_faultOfWord_88 : decode cX7_faultOfWord 88 = .ok (.iconst 3, 1) := by decide +kernel
theorem dX7_faultOfWord_89 : decode cX7_faultOfWord 89 = .ok (.ireturn, 1) := by decide +kernel
theorem dX7_faultOfWord_90 : decode cX7_faultOfWord 90 = .ok (.iload_n 2, 1) := by decide +kernel
theorem dX7_faultOfWord_91 : decode cX7_faultOfWord 91 = .ok (.ifCond .ne 7, 3) := by decide +kernel
theorem dX7_faultOfWord_94 : decode cX7_faultOfWord 94 = .ok (.iload_n 3, 1) := by decide +kernel
theorem dX7_faultOfWord_95 : decode cX7_faultOfWord 95 = .ok (.ifCond .eq 7, 3) := by decide +kernel
theorem dX7_faultOfWord_98 : decode cX7_faultOfWord 98 = .ok (.iconst 1, 1) := by decide +kernel
theorem dX7_faultOfWord_99 : decode cX7_faultOfWord 99 = .ok (.goto 19, 3) := by decide +kernel
theorem dX7_faultOfWord_102 : decode cX7_faultOfWord 102 = .ok (.aload_n 0, 1) := by decide +kernel
theorem dX7_faultOfWord_103 : decode cX7_faultOfWord 103 = .ok (.getfield 22, 3) := by decide +kernel
theorem dX7_faultOfWord_106 : decode cX7_faultOfWord 106 = .ok (.getfield 74, 3) := by decide +kernel
theorem dX7_faultOfWord_109 : decode cX7_faultOfWord 109 = .ok (.iconst 5, 1) := by decide +kernel
theorem dX7_faultOfWord_110 : decode cX7_faultOfWord 110 = .ok (.if_icmp .ge 7, 3) := by decide +kernel
theorem dX7_faultOfWord_113 : decode cX7_faultOfWord 113 = .ok (.iconst 0, 1) := by decide +kernel
theorem dX7_faultOfWord_114 : decode cX7_faultOfWord 114 = .ok (.goto 4, 3) := by decide +kernel
theorem dX7_faultOfWord_117 : decode cX7_faultOfWord 117 = .ok (.iconst 3, 1) := by decide +kernel
theorem dX7_faultOfWord_118 : decode cX7_faultOfWord 118 = .ok (.ireturn, 1) := by decide +kernel
theorem dX7_faultOfWord_119 : decode cX7_faultOfWord 119 = .ok (.iload_n 2, 1) := by decide +kernel
theorem dX7_faultOfWord_120 : decode cX7_faultOfWord 120 = .ok (.ifCond .ne 7, 3) := by decide +kernel
theorem dX7_faultOfWord_123 : decode cX7_faultOfWord 123 = .ok (.iload_n 3, 1) := by decide +kernel
theorem dX7_faultOfWord_124 : decode cX7_faultOfWord 124 = .ok (.ifCond .eq 7, 3) := by decide +kernel
theorem dX7_faultOfWord_127 : decode cX7_faultOfWord 127 = .ok (.iconst 1, 1) := by decide +kernel
theorem dX7_faultOfWord_128 : decode cX7_faultOfWord 128 = .ok (.goto 20, 3) := by decide +kernel
theorem dX7_faultOfWord_131 : decode cX7_faultOfWord 131 = .ok (.aload_n 0, 1) := by decide +kernel
theorem dX7_faultOfWord_132 : decode cX7_faultOfWord 132 = .ok (.getfield 22, 3) := by decide +kernel
theorem dX7_faultOfWord_135 : decode cX7_faultOfWord 135 = .ok (.getfield 77, 3) := by decide +kernel
theorem dX7_faultOfWord_138 : decode cX7_faultOfWord 138 = .ok (.bipush 6, 2) := by decide +kernel
theorem dX7_faultOfWord_140 : decode cX7_faultOfWord 140 = .ok (.if_icmp .ge 7, 3) := by decide +kernel
theorem dX7_faultOfWord_143 : decode cX7_faultOfWord 143 = .ok (.iconst 0, 1) := by decide +kernel
theorem dX7_faultOfWord_144 : decode cX7_faultOfWord 144 = .ok (.goto 4, 3) := by decide +kernel
theorem dX7_faultOfWord_147 : decode cX7_faultOfWord 147 = .ok (.iconst 3, 1) := by decide +kernel
theorem dX7_faultOfWord_148 : decode cX7_faultOfWord 148 = .ok (.ireturn, 1) := by decide +kernel
theorem dX7_faultOfWord_149 : decode cX7_faultOfWord 149 = .ok (.iload_n 2, 1) := by decide +kernel
theorem dX7_faultOfWord_150 : decode cX7_faultOfWord 150 = .ok (.ifCond .eq 7, 3) := by decide +kernel
theorem dX7_faultOfWord_153 : decode cX7_faultOfWord 153 = .ok (.iconst 1, 1) := by decide +kernel
theorem dX7_faultOfWord_154 : decode cX7_faultOfWord 154 = .ok (.goto 20, 3) := by decide +kernel
theorem dX7_faultOfWord_157 : decode cX7_faultOfWord 157 = .ok (.aload_n 0, 1) := by decide +kernel
theorem dX7_faultOfWord_158 : decode cX7_faultOfWord 158 = .ok (.getfield 22, 3) := by decide +kernel
theorem dX7_faultOfWord_161 : decode cX7_faultOfWord 161 = .ok (.getfield 71, 3) := by decide +kernel
theorem dX7_faultOfWord_164 : decode cX7_faultOfWord 164 = .ok (.bipush 7, 2) := by decide +kernel
theorem dX7_faultOfWord_166 : decode cX7_faultOfWord 166 = .ok (.if_icmp .ge 7, 3) := by decide +kernel
theorem dX7_faultOfWord_169 : decode cX7_faultOfWord 169 = .ok (.iconst 0, 1) := by decide +kernel
theorem dX7_faultOfWord_170 : decode cX7_faultOfWord 170 = .ok (.goto 4, 3) := by decide +kernel
theorem dX7_faultOfWord_173 : decode cX7_faultOfWord 173 = .ok (.iconst 3, 1) := by decide +kernel
theorem dX7_faultOfWord_174 : decode cX7_faultOfWord 174 = .ok (.ireturn, 1) := by decide +kernel
theorem dX7_faultOfWord_175 : decode cX7_faultOfWord 175 = .ok (.iconst 1, 1) := by decide +kernel
theorem dX7_faultOfWord_176 : decode cX7_faultOfWord 176 = .ok (.ireturn, 1) := by decide +kernel
set_option maxHeartbeats 4000000 in
set_option maxRecDepth 20000 in
theorem en_X7_faultOfWord {a1 : Int32} {M : jw_Mem} {Q : Int32 → jw_Mem → Prop}  (h : ((¬ (M 1 1 0) = 0 → (((M 1 1 3) ≤ 0 → ((a1.toInt < 112 ∨ 119 < a1.toInt → Q 1 M) ∧ (a1.toInt = 112 → ((5 ≤ (M 1 1 1) → Q 3 M) ∧ (¬ 5 ≤ (M 1 1 1) → Q 0 M))) ∧ (a1.toInt = 113 → Q 1 M) ∧ (a1.toInt = 114 → Q 1 M) ∧ (a1.toInt = 115 → ((6 ≤ (M 1 1 2) → Q 3 M) ∧ (¬ 6 ≤ (M 1 1 2) → Q 0 M))) ∧ (a1.toInt = 116 → Q 3 M) ∧ (a1.toInt = 117 → Q 1 M) ∧ (a1.toInt = 118 → Q 1 M) ∧ (a1.toInt = 119 → ((7 ≤ (M 1 1 3) → Q 3 M) ∧ (¬ 7 ≤ (M 1 1 3) → Q 0 M))))) ∧ (¬ (M 1 1 3) ≤ 0 → ((a1.toInt < 112 ∨ 119 < a1.toInt → Q 1 M) ∧ (a1.toInt = 112 → Q 1 M) ∧ (a1.toInt = 113 → Q 1 M) ∧ (a1.toInt = 114 → Q 1 M) ∧ (a1.toInt = 115 → Q 1 M) ∧ (a1.toInt = 116 → Q 3 M) ∧ (a1.toInt = 117 → Q 1 M) ∧ (a1.toInt = 118 → Q 1 M) ∧ (a1.toInt = 119 → ((7 ≤ (M 1 1 3) → Q 3 M) ∧ (¬ 7 ≤ (M 1 1 3) → Q 0 M))))))) ∧ ((M 1 1 0) = 0 → (((M 1 1 3) ≤ 0 → ((a1.toInt < 112 ∨ 119 < a1.toInt → Q 1 M) ∧ (a1.toInt = 112 → Q 1 M) ∧ (a1.toInt = 113 → Q 1 M) ∧ (a1.toInt = 114 → Q 1 M) ∧ (a1.toInt = 115 → Q 1 M) ∧ (a1.toInt = 116 → Q 0 M) ∧ (a1.toInt = 117 → Q 1 M) ∧ (a1.toInt = 118 → Q 1 M) ∧ (a1.toInt = 119 → Q 1 M))) ∧ (¬ (M 1 1 3) ≤ 0 → ((a1.toInt < 112 ∨ 119 < a1.toInt → Q 1 M) ∧ (a1.toInt = 112 → Q 1 M) ∧ (a1.toInt = 113 → Q 1 M) ∧ (a1.toInt = 114 → Q 1 M) ∧ (a1.toInt = 115 → Q 1 M) ∧ (a1.toInt = 116 → Q 0 M) ∧ (a1.toInt = 117 → Q 1 M) ∧ (a1.toInt = 118 → Q 1 M) ∧ (a1.toInt = 119 → Q 1 M))))))) : jw_M 0 mX7_faultOfWord [vr 7 0, vi a1] M Q := by
  refine jw_M.of (by decide) (Nat.le_of_ble_eq_true rfl) ?_
  show jw_J 0 mX7_faultOfWord 0 [(0, vr 7 0), (1, vi a1)] [] M Q
  refine jr_aload_n (pc := 0) dX7_faultOfWord_0 rfl 0 rfl ?_
  refine jr_get (pc := 1) (v := vr 1 1) fg_X7_22 (by decide) rfl dX7_faultOfWord_1 ?_
  refine jr_get (pc := 4) (v := vi (M 1 1 0)) fg_X7_68 (by decide) rfl dX7_faultOfWord_4 ?_
  refine jr_if_ne (pc := 7) (tgt := 14) dX7_faultOfWord_7 (by decide) (fun c => ?_) (fun c => ?_)
  · replace h := h.1 c
    refine jr_iconst (pc := 14) (v := 0) dX7_faultOfWord_14 (by decide) ?_
    refine jr_istore_n (pc := 15) (lv' := [(2, vi 0), (0, vr 7 0), (1, vi a1)]) dX7_faultOfWord_15 rfl (by decide) rfl ?_
    refine jr_aload_n (pc := 16) dX7_faultOfWord_16 rfl 1 rfl ?_
    refine jr_get (pc := 17) (v := vr 1 1) fg_X7_22 (by decide) rfl dX7_faultOfWord_17 ?_
    refine jr_get (pc := 20) (v := vi (M 1 1 3)) fg_X7_71 (by decide) rfl dX7_faultOfWord_20 ?_
    refine jr_if_le (pc := 23) (tgt := 30) dX7_faultOfWord_23 (by decide) (fun c => ?_) (fun c => ?_)
    · replace h := h.1 c
      refine jr_iconst (pc := 30) (v := 0) dX7_faultOfWord_30 (by decide) ?_
      refine jr_istore_n (pc := 31) (lv' := [(3, vi 0), (2, vi 0), (0, vr 7 0), (1, vi a1)]) dX7_faultOfWord_31 rfl (by decide) rfl ?_
      refine jr_iload_n (pc := 32) dX7_faultOfWord_32 rfl 3 rfl ?_
      refine jr_tsw (pc := 33) dX7_faultOfWord_33 (tgt := 175) (by decide) (by decide) (fun c => ?_) (fun j c c2 => ?_)
      · replace h := h.1 c
        refine jr_iconst (pc := 175) (v := 1) dX7_faultOfWord_175 (by decide) ?_
        exact jr_iret (pc := 176) rfl dX7_faultOfWord_176 h
      · have hj : j = 0 ∨ j = 1 ∨ j = 2 ∨ j = 3 ∨ j = 4 ∨ j = 5 ∨ j = 6 ∨ j = 7 := by omega
        rcases hj with rfl | rfl | rfl | rfl | rfl | rfl | rfl | rfl
        · replace h := h.2.1 (c.trans (by decide))
          refine ⟨57, 90, rfl, by decide, ?_⟩
          refine jr_iload_n (pc := 90) dX7_faultOfWord_90 rfl 1 rfl ?_
          refine jr_if_ne (pc := 91) (tgt := 98) dX7_faultOfWord_91 (by decide) (fun c => absurd c (by decide)) (fun _ => ?_)
          refine jr_iload_n (pc := 94) dX7_faultOfWord_94 rfl 0 rfl ?_
          refine jr_if_eq (pc := 95) (tgt := 102) dX7_faultOfWord_95 (by decide) (fun _ => ?_) (fun c => absurd c (by decide))
          refine jr_aload_n (pc := 102) dX7_faultOfWord_102 rfl 2 rfl ?_
          refine jr_get (pc := 103) (v := vr 1 1) fg_X7_22 (by decide) rfl dX7_faultOfWord_103 ?_
          refine jr_get (pc := 106) (v := vi (M 1 1 1)) fg_X7_74 (by decide) rfl dX7_faultOfWord_106 ?_
          refine jr_iconst (pc := 109) (v := 5) dX7_faultOfWord_109 (by decide) ?_
          refine jr_icmp_ge (pc := 110) (tgt := 117) dX7_faultOfWord_110 (by decide) (fun c => ?_) (fun c => ?_)
          · replace h := h.1 c
            refine jr_iconst (pc := 117) (v := 3) dX7_faultOfWord_117 (by decide) ?_
            exact jr_iret (pc := 118) rfl dX7_faultOfWord_118 h
          · replace h := h.2 c
            refine jr_iconst (pc := 113) (v := 0) dX7_faultOfWord_113 (by decide) ?_
            refine jr_goto (pc := 114) (tgt := 118) dX7_faultOfWord_114 (by decide) ?_
            exact jr_iret (pc := 118) rfl dX7_faultOfWord_118 h
        · replace h := h.2.2.1 (c.trans (by decide))
          refine ⟨142, 175, rfl, by decide, ?_⟩
          refine jr_iconst (pc := 175) (v := 1) dX7_faultOfWord_175 (by decide) ?_
          exact jr_iret (pc := 176) rfl dX7_faultOfWord_176 h
        · replace h := h.2.2.2.1 (c.trans (by decide))
          refine ⟨142, 175, rfl, by decide, ?_⟩
          refine jr_iconst (pc := 175) (v := 1) dX7_faultOfWord_175 (by decide) ?_
          exact jr_iret (pc := 176) rfl dX7_faultOfWord_176 h
        · replace h := h.2.2.2.2.1 (c.trans (by decide))
          refine ⟨86, 119, rfl, by decide, ?_⟩
          refine jr_iload_n (pc := 119) dX7_faultOfWord_119 rfl 1 rfl ?_
          refine jr_if_ne (pc := 120) (tgt := 127) dX7_faultOfWord_120 (by decide) (fun c => absurd c (by decide)) (fun _ => ?_)
          refine jr_iload_n (pc := 123) dX7_faultOfWord_123 rfl 0 rfl ?_
          refine jr_if_eq (pc := 124) (tgt := 131) dX7_faultOfWord_124 (by decide) (fun _ => ?_) (fun c => absurd c (by decide))
          refine jr_aload_n (pc := 131) dX7_faultOfWord_131 rfl 2 rfl ?_
          refine jr_get (pc := 132) (v := vr 1 1) fg_X7_22 (by decide) rfl dX7_faultOfWord_132 ?_
          refine jr_get (pc := 135) (v := vi (M 1 1 2)) fg_X7_77 (by decide) rfl dX7_faultOfWord_135 ?_
          refine jr_bipush (pc := 138) (v := 6) dX7_faultOfWord_138 (by decide) ?_
          refine jr_icmp_ge (pc := 140) (tgt := 147) dX7_faultOfWord_140 (by decide) (fun c => ?_) (fun c => ?_)
          · replace h := h.1 c
            refine jr_iconst (pc := 147) (v := 3) dX7_faultOfWord_147 (by decide) ?_
            exact jr_iret (pc := 148) rfl dX7_faultOfWord_148 h
          · replace h := h.2 c
            refine jr_iconst (pc := 143) (v := 0) dX7_faultOfWord_143 (by decide) ?_
            refine jr_goto (pc := 144) (tgt := 148) dX7_faultOfWord_144 (by decide) ?_
            exact jr_iret (pc := 148) rfl dX7_faultOfWord_148 h
        · replace h := h.2.2.2.2.2.1 (c.trans (by decide))
          refine ⟨47, 80, rfl, by decide, ?_⟩
          refine jr_iload_n (pc := 80) dX7_faultOfWord_80 rfl 1 rfl ?_
          refine jr_if_eq (pc := 81) (tgt := 88) dX7_faultOfWord_81 (by decide) (fun _ => ?_) (fun c => absurd c (by decide))
          refine jr_iconst (pc := 88) (v := 3) dX7_faultOfWord_88 (by decide) ?_
          exact jr_iret (pc := 89) rfl dX7_faultOfWord_89 h
        · replace h := h.2.2.2.2.2.2.1 (c.trans (by decide))
          refine ⟨142, 175, rfl, by decide, ?_⟩
          refine jr_iconst (pc := 175) (v := 1) dX7_faultOfWord_175 (by decide) ?_
          exact jr_iret (pc := 176) rfl dX7_faultOfWord_176 h
        · replace h := h.2.2.2.2.2.2.2.1 (c.trans (by decide))
          refine ⟨142, 175, rfl, by decide, ?_⟩
          refine jr_iconst (pc := 175) (v := 1) dX7_faultOfWord_175 (by decide) ?_
          exact jr_iret (pc := 176) rfl dX7_faultOfWord_176 h
        · replace h := h.2.2.2.2.2.2.2.2 (c.trans (by decide))
          refine ⟨116, 149, rfl, by decide, ?_⟩
          refine jr_iload_n (pc := 149) dX7_faultOfWord_149 rfl 1 rfl ?_
          refine jr_if_eq (pc := 150) (tgt := 157) dX7_faultOfWord_150 (by decide) (fun _ => ?_) (fun c => absurd c (by decide))
          refine jr_aload_n (pc := 157) dX7_faultOfWord_157 rfl 2 rfl ?_
          refine jr_get (pc := 158) (v := vr 1 1) fg_X7_22 (by decide) rfl dX7_faultOfWord_158 ?_
          refine jr_get (pc := 161) (v := vi (M 1 1 3)) fg_X7_71 (by decide) rfl dX7_faultOfWord_161 ?_
          refine jr_bipush (pc := 164) (v := 7) dX7_faultOfWord_164 (by decide) ?_
          refine jr_icmp_ge (pc := 166) (tgt := 173) dX7_faultOfWord_166 (by decide) (fun c => ?_) (fun c => ?_)
          · replace h := h.1 c
            refine jr_iconst (pc := 173) (v := 3) dX7_faultOfWord_173 (by decide) ?_
            exact jr_iret (pc := 174) rfl dX7_faultOfWord_174 h
          · replace h := h.2 c
            refine jr_iconst (pc := 169) (v := 0) dX7_faultOfWord_169 (by decide) ?_
            refine jr_goto (pc := 170) (tgt := 174) dX7_faultOfWord_170 (by decide) ?_
            exact jr_iret (pc := 174) rfl dX7_faultOfWord_174 h
    · replace h := h.2 c
      refine jr_iconst (pc := 26) (v := 1) dX7_faultOfWord_26 (by decide) ?_
      refine jr_goto (pc := 27) (tgt := 31) dX7_faultOfWord_27 (by decide) ?_
      refine jr_istore_n (pc := 31) (lv' := [(3, vi 1), (2, vi 0), (0, vr 7 0), (1, vi a1)]) dX7_faultOfWord_31 rfl (by decide) rfl ?_
      refine jr_iload_n (pc := 32) dX7_faultOfWord_32 rfl 3 rfl ?_
      refine jr_tsw (pc := 33) dX7_faultOfWord_33 (tgt := 175) (by decide) (by decide) (fun c => ?_) (fun j c c2 => ?_)
      · replace h := h.1 c
        refine jr_iconst (pc := 175) (v := 1) dX7_faultOfWord_175 (by decide) ?_
        exact jr_iret (pc := 176) rfl dX7_faultOfWord_176 h
      · have hj : j = 0 ∨ j = 1 ∨ j = 2 ∨ j = 3 ∨ j = 4 ∨ j = 5 ∨ j = 6 ∨ j = 7 := by omega
        rcases hj with rfl | rfl | rfl | rfl | rfl | rfl | rfl | rfl
        · replace h := h.2.1 (c.trans (by decide))
          refine ⟨57, 90, rfl, by decide, ?_⟩
          refine jr_iload_n (pc := 90) dX7_faultOfWord_90 rfl 1 rfl ?_
          refine jr_if_ne (pc := 91) (tgt := 98) dX7_faultOfWord_91 (by decide) (fun c => absurd c (by decide)) (fun _ => ?_)
          refine jr_iload_n (pc := 94) dX7_faultOfWord_94 rfl 0 rfl ?_
          refine jr_if_eq (pc := 95) (tgt := 102) dX7_faultOfWord_95 (by decide) (fun c => absurd c (by decide)) (fun _ => ?_)
          refine jr_iconst (pc := 98) (v := 1) dX7_faultOfWord_98 (by decide) ?_
          refine jr_goto (pc := 99) (tgt := 118) dX7_faultOfWord_99 (by decide) ?_
          exact jr_iret (pc := 118) rfl dX7_faultOfWord_118 h
        · replace h := h.2.2.1 (c.trans (by decide))
          refine ⟨142, 175, rfl, by decide, ?_⟩
          refine jr_iconst (pc := 175) (v := 1) dX7_faultOfWord_175 (by decide) ?_
          exact jr_iret (pc := 176) rfl dX7_faultOfWord_176 h
        · replace h := h.2.2.2.1 (c.trans (by decide))
          refine ⟨142, 175, rfl, by decide, ?_⟩
          refine jr_iconst (pc := 175) (v := 1) dX7_faultOfWord_175 (by decide) ?_
          exact jr_iret (pc := 176) rfl dX7_faultOfWord_176 h
        · replace h := h.2.2.2.2.1 (c.trans (by decide))
          refine ⟨86, 119, rfl, by decide, ?_⟩
          refine jr_iload_n (pc := 119) dX7_faultOfWord_119 rfl 1 rfl ?_
          refine jr_if_ne (pc := 120) (tgt := 127) dX7_faultOfWord_120 (by decide) (fun c => absurd c (by decide)) (fun _ => ?_)
          refine jr_iload_n (pc := 123) dX7_faultOfWord_123 rfl 0 rfl ?_
          refine jr_if_eq (pc := 124) (tgt := 131) dX7_faultOfWord_124 (by decide) (fun c => absurd c (by decide)) (fun _ => ?_)
          refine jr_iconst (pc := 127) (v := 1) dX7_faultOfWord_127 (by decide) ?_
          refine jr_goto (pc := 128) (tgt := 148) dX7_faultOfWord_128 (by decide) ?_
          exact jr_iret (pc := 148) rfl dX7_faultOfWord_148 h
        · replace h := h.2.2.2.2.2.1 (c.trans (by decide))
          refine ⟨47, 80, rfl, by decide, ?_⟩
          refine jr_iload_n (pc := 80) dX7_faultOfWord_80 rfl 1 rfl ?_
          refine jr_if_eq (pc := 81) (tgt := 88) dX7_faultOfWord_81 (by decide) (fun _ => ?_) (fun c => absurd c (by decide))
          refine jr_iconst (pc := 88) (v := 3) dX7_faultOfWord_88 (by decide) ?_
          exact jr_iret (pc := 89) rfl dX7_faultOfWord_89 h
        · replace h := h.2.2.2.2.2.2.1 (c.trans (by decide))
          refine ⟨142, 175, rfl, by decide, ?_⟩
          refine jr_iconst (pc := 175) (v := 1) dX7_faultOfWord_175 (by decide) ?_
          exact jr_iret (pc := 176) rfl dX7_faultOfWord_176 h
        · replace h := h.2.2.2.2.2.2.2.1 (c.trans (by decide))
          refine ⟨142, 175, rfl, by decide, ?_⟩
          refine jr_iconst (pc := 175) (v := 1) dX7_faultOfWord_175 (by decide) ?_
          exact jr_iret (pc := 176) rfl dX7_faultOfWord_176 h
        · replace h := h.2.2.2.2.2.2.2.2 (c.trans (by decide))
          refine ⟨116, 149, rfl, by decide, ?_⟩
          refine jr_iload_n (pc := 149) dX7_faultOfWord_149 rfl 1 rfl ?_
          refine jr_if_eq (pc := 150) (tgt := 157) dX7_faultOfWord_150 (by decide) (fun _ => ?_) (fun c => absurd c (by decide))
          refine jr_aload_n (pc := 157) dX7_faultOfWord_157 rfl 2 rfl ?_
          refine jr_get (pc := 158) (v := vr 1 1) fg_X7_22 (by decide) rfl dX7_faultOfWord_158 ?_
          refine jr_get (pc := 161) (v := vi (M 1 1 3)) fg_X7_71 (by decide) rfl dX7_faultOfWord_161 ?_
          refine jr_bipush (pc := 164) (v := 7) dX7_faultOfWord_164 (by decide) ?_
          refine jr_icmp_ge (pc := 166) (tgt := 173) dX7_faultOfWord_166 (by decide) (fun c => ?_) (fun c => ?_)
          · replace h := h.1 c
            refine jr_iconst (pc := 173) (v := 3) dX7_faultOfWord_173 (by decide) ?_
            exact jr_iret (pc := 174) rfl dX7_faultOfWord_174 h
          · replace h := h.2 c
            refine jr_iconst (pc := 169) (v := 0) dX7_faultOfWord_169 (by decide) ?_
            refine jr_goto (pc := 170) (tgt := 174) dX7_faultOfWord_170 (by decide) ?_
            exact jr_iret (pc := 174) rfl dX7_faultOfWord_174 h
  · replace h := h.2 c
    refine jr_iconst (pc := 10) (v := 1) dX7_faultOfWord_10 (by decide) ?_
    refine jr_goto (pc := 11) (tgt := 15) dX7_faultOfWord_11 (by decide) ?_
    refine jr_istore_n (pc := 15) (lv' := [(2, vi 1), (0, vr 7 0), (1, vi a1)]) dX7_faultOfWord_15 rfl (by decide) rfl ?_
    refine jr_aload_n (pc := 16) dX7_faultOfWord_16 rfl 1 rfl ?_
    refine jr_get (pc := 17) (v := vr 1 1) fg_X7_22 (by decide) rfl dX7_faultOfWord_17 ?_
    refine jr_get (pc := 20) (v := vi (M 1 1 3)) fg_X7_71 (by decide) rfl dX7_faultOfWord_20 ?_
    refine jr_if_le (pc := 23) (tgt := 30) dX7_faultOfWord_23 (by decide) (fun c => ?_) (fun c => ?_)
    · replace h := h.1 c
      refine jr_iconst (pc := 30) (v := 0) dX7_faultOfWord_30 (by decide) ?_
      refine jr_istore_n (pc := 31) (lv' := [(3, vi 0), (2, vi 1), (0, vr 7 0), (1, vi a1)]) dX7_faultOfWord_31 rfl (by decide) rfl ?_
      refine jr_iload_n (pc := 32) dX7_faultOfWord_32 rfl 3 rfl ?_
      refine jr_tsw (pc := 33) dX7_faultOfWord_33 (tgt := 175) (by decide) (by decide) (fun c => ?_) (fun j c c2 => ?_)
      · replace h := h.1 c
        refine jr_iconst (pc := 175) (v := 1) dX7_faultOfWord_175 (by decide) ?_
        exact jr_iret (pc := 176) rfl dX7_faultOfWord_176 h
      · have hj : j = 0 ∨ j = 1 ∨ j = 2 ∨ j = 3 ∨ j = 4 ∨ j = 5 ∨ j = 6 ∨ j = 7 := by omega
        rcases hj with rfl | rfl | rfl | rfl | rfl | rfl | rfl | rfl
        · replace h := h.2.1 (c.trans (by decide))
          refine ⟨57, 90, rfl, by decide, ?_⟩
          refine jr_iload_n (pc := 90) dX7_faultOfWord_90 rfl 1 rfl ?_
          refine jr_if_ne (pc := 91) (tgt := 98) dX7_faultOfWord_91 (by decide) (fun _ => ?_) (fun c => absurd c (by decide))
          refine jr_iconst (pc := 98) (v := 1) dX7_faultOfWord_98 (by decide) ?_
          refine jr_goto (pc := 99) (tgt := 118) dX7_faultOfWord_99 (by decide) ?_
          exact jr_iret (pc := 118) rfl dX7_faultOfWord_118 h
        · replace h := h.2.2.1 (c.trans (by decide))
          refine ⟨142, 175, rfl, by decide, ?_⟩
          refine jr_iconst (pc := 175) (v := 1) dX7_faultOfWord_175 (by decide) ?_
          exact jr_iret (pc := 176) rfl dX7_faultOfWord_176 h
        · replace h := h.2.2.2.1 (c.trans (by decide))
          refine ⟨142, 175, rfl, by decide, ?_⟩
          refine jr_iconst (pc := 175) (v := 1) dX7_faultOfWord_175 (by decide) ?_
          exact jr_iret (pc := 176) rfl dX7_faultOfWord_176 h
        · replace h := h.2.2.2.2.1 (c.trans (by decide))
          refine ⟨86, 119, rfl, by decide, ?_⟩
          refine jr_iload_n (pc := 119) dX7_faultOfWord_119 rfl 1 rfl ?_
          refine jr_if_ne (pc := 120) (tgt := 127) dX7_faultOfWord_120 (by decide) (fun _ => ?_) (fun c => absurd c (by decide))
          refine jr_iconst (pc := 127) (v := 1) dX7_faultOfWord_127 (by decide) ?_
          refine jr_goto (pc := 128) (tgt := 148) dX7_faultOfWord_128 (by decide) ?_
          exact jr_iret (pc := 148) rfl dX7_faultOfWord_148 h
        · replace h := h.2.2.2.2.2.1 (c.trans (by decide))
          refine ⟨47, 80, rfl, by decide, ?_⟩
          refine jr_iload_n (pc := 80) dX7_faultOfWord_80 rfl 1 rfl ?_
          refine jr_if_eq (pc := 81) (tgt := 88) dX7_faultOfWord_81 (by decide) (fun c => absurd c (by decide)) (fun _ => ?_)
          refine jr_iconst (pc := 84) (v := 0) dX7_faultOfWord_84 (by decide) ?_
          refine jr_goto (pc := 85) (tgt := 89) dX7_faultOfWord_85 (by decide) ?_
          exact jr_iret (pc := 89) rfl dX7_faultOfWord_89 h
        · replace h := h.2.2.2.2.2.2.1 (c.trans (by decide))
          refine ⟨142, 175, rfl, by decide, ?_⟩
          refine jr_iconst (pc := 175) (v := 1) dX7_faultOfWord_175 (by decide) ?_
          exact jr_iret (pc := 176) rfl dX7_faultOfWord_176 h
        · replace h := h.2.2.2.2.2.2.2.1 (c.trans (by decide))
          refine ⟨142, 175, rfl, by decide, ?_⟩
          refine jr_iconst (pc := 175) (v := 1) dX7_faultOfWord_175 (by decide) ?_
          exact jr_iret (pc := 176) rfl dX7_faultOfWord_176 h
        · replace h := h.2.2.2.2.2.2.2.2 (c.trans (by decide))
          refine ⟨116, 149, rfl, by decide, ?_⟩
          refine jr_iload_n (pc := 149) dX7_faultOfWord_149 rfl 1 rfl ?_
          refine jr_if_eq (pc := 150) (tgt := 157) dX7_faultOfWord_150 (by decide) (fun c => absurd c (by decide)) (fun _ => ?_)
          refine jr_iconst (pc := 153) (v := 1) dX7_faultOfWord_153 (by decide) ?_
          refine jr_goto (pc := 154) (tgt := 174) dX7_faultOfWord_154 (by decide) ?_
          exact jr_iret (pc := 174) rfl dX7_faultOfWord_174 h
    · replace h := h.2 c
      refine jr_iconst (pc := 26) (v := 1) dX7_faultOfWord_26 (by decide) ?_
      refine jr_goto (pc := 27) (tgt := 31) dX7_faultOfWord_27 (by decide) ?_
      refine jr_istore_n (pc := 31) (lv' := [(3, vi 1), (2, vi 1), (0, vr 7 0), (1, vi a1)]) dX7_faultOfWord_31 rfl (by decide) rfl ?_
      refine jr_iload_n (pc := 32) dX7_faultOfWord_32 rfl 3 rfl ?_
      refine jr_tsw (pc := 33) dX7_faultOfWord_33 (tgt := 175) (by decide) (by decide) (fun c => ?_) (fun j c c2 => ?_)
      · replace h := h.1 c
        refine jr_iconst (pc := 175) (v := 1) dX7_faultOfWord_175 (by decide) ?_
        exact jr_iret (pc := 176) rfl dX7_faultOfWord_176 h
      · have hj : j = 0 ∨ j = 1 ∨ j = 2 ∨ j = 3 ∨ j = 4 ∨ j = 5 ∨ j = 6 ∨ j = 7 := by omega
        rcases hj with rfl | rfl | rfl | rfl | rfl | rfl | rfl | rfl
        · replace h := h.2.1 (c.trans (by decide))
          refine ⟨57, 90, rfl, by decide, ?_⟩
          refine jr_iload_n (pc := 90) dX7_faultOfWord_90 rfl 1 rfl ?_
          refine jr_if_ne (pc := 91) (tgt := 98) dX7_faultOfWord_91 (by decide) (fun _ => ?_) (fun c => absurd c (by decide))
          refine jr_iconst (pc := 98) (v := 1) dX7_faultOfWord_98 (by decide) ?_
          refine jr_goto (pc := 99) (tgt := 118) dX7_faultOfWord_99 (by decide) ?_
          exact jr_iret (pc := 118) rfl dX7_faultOfWord_118 h
        · replace h := h.2.2.1 (c.trans (by decide))
          refine ⟨142, 175, rfl, by decide, ?_⟩
          refine jr_iconst (pc := 175) (v := 1) dX7_faultOfWord_175 (by decide) ?_
          exact jr_iret (pc := 176) rfl dX7_faultOfWord_176 h
        · replace h := h.2.2.2.1 (c.trans (by decide))
          refine ⟨142, 175, rfl, by decide, ?_⟩
          refine jr_iconst (pc := 175) (v := 1) dX7_faultOfWord_175 (by decide) ?_
          exact jr_iret (pc := 176) rfl dX7_faultOfWord_176 h
        · replace h := h.2.2.2.2.1 (c.trans (by decide))
          refine ⟨86, 119, rfl, by decide, ?_⟩
          refine jr_iload_n (pc := 119) dX7_faultOfWord_119 rfl 1 rfl ?_
          refine jr_if_ne (pc := 120) (tgt := 127) dX7_faultOfWord_120 (by decide) (fun _ => ?_) (fun c => absurd c (by decide))
          refine jr_iconst (pc := 127) (v := 1) dX7_faultOfWord_127 (by decide) ?_
          refine jr_goto (pc := 128) (tgt := 148) dX7_faultOfWord_128 (by decide) ?_
          exact jr_iret (pc := 148) rfl dX7_faultOfWord_148 h
        · replace h := h.2.2.2.2.2.1 (c.trans (by decide))
          refine ⟨47, 80, rfl, by decide, ?_⟩
          refine jr_iload_n (pc := 80) dX7_faultOfWord_80 rfl 1 rfl ?_
          refine jr_if_eq (pc := 81) (tgt := 88) dX7_faultOfWord_81 (by decide) (fun c => absurd c (by decide)) (fun _ => ?_)
          refine jr_iconst (pc := 84) (v := 0) dX7_faultOfWord_84 (by decide) ?_
          refine jr_goto (pc := 85) (tgt := 89) dX7_faultOfWord_85 (by decide) ?_
          exact jr_iret (pc := 89) rfl dX7_faultOfWord_89 h
        · replace h := h.2.2.2.2.2.2.1 (c.trans (by decide))
          refine ⟨142, 175, rfl, by decide, ?_⟩
          refine jr_iconst (pc := 175) (v := 1) dX7_faultOfWord_175 (by decide) ?_
          exact jr_iret (pc := 176) rfl dX7_faultOfWord_176 h
        · replace h := h.2.2.2.2.2.2.2.1 (c.trans (by decide))
          refine ⟨142, 175, rfl, by decide, ?_⟩
          refine jr_iconst (pc := 175) (v := 1) dX7_faultOfWord_175 (by decide) ?_
          exact jr_iret (pc := 176) rfl dX7_faultOfWord_176 h
        · replace h := h.2.2.2.2.2.2.2.2 (c.trans (by decide))
          refine ⟨116, 149, rfl, by decide, ?_⟩
          refine jr_iload_n (pc := 149) dX7_faultOfWord_149 rfl 1 rfl ?_
          refine jr_if_eq (pc := 150) (tgt := 157) dX7_faultOfWord_150 (by decide) (fun c => absurd c (by decide)) (fun _ => ?_)
          refine jr_iconst (pc := 153) (v := 1) dX7_faultOfWord_153 (by decide) ?_
          refine jr_goto (pc := 154) (tgt := 174) dX7_faultOfWord_154 (by decide) ?_
          exact jr_iret (pc := 174) rfl dX7_faultOfWord_174 h
theorem dX7_readTerm_0 : decode cX7_readTerm 0 = .ok (.aload_n 0, 1) := by decide +kernel
theorem dX7_readTerm_1 : decode cX7_readTerm 1 = .ok (.iconst 1, 1) := by decide +kernel
theorem dX7_readTerm_2 : decode cX7_readTerm 2 = .ok (.bipush 9, 2) := by decide +kernel
theorem dX7_readTerm_4 : decode cX7_readTerm 4 = .ok (.invokevirtual 80, 3) := by decide +kernel
theorem dX7_readTerm_7 : decode cX7_readTerm 7 = .ok (.istore_n 1, 1) := by decide +kernel
theorem dX7_readTerm_8 : decode cX7_readTerm 8 = .ok (.aload_n 0, 1) := by decide +kernel
theorem dX7_readTerm_9 : decode cX7_readTerm 9 = .ok (.invokevirtual 84, 3) := by decide +kernel
theorem dX7_readTerm_12 : decode cX7_readTerm 12 = .ok (.aload_n 0, 1) := by decide +kernel
theorem dX7_readTerm_13 : decode cX7_readTerm 13 = .ok (.getfield 35, 3) := by decide +kernel
theorem dX7_readTerm_16 : decode cX7_readTerm 16 = .ok (.ifCond .ne 11, 3) := by decide +kernel
theorem dX7_readTerm_19 : decode cX7_readTerm 19 = .ok (.aload_n 0, 1) := by decide +kernel
theorem dX7_readTerm_20 : decode cX7_readTerm 20 = .ok (.getfield 22, 3) := by decide +kernel
theorem dX7_readTerm_23 : decode cX7_readTerm 23 = .ok (.iload_n 1, 1) := by decide +kernel
theorem dX7_readTerm_24 : decode cX7_readTerm 24 = .ok (.putfield 68, 3) := by decide +kernel
theorem dX7_readTerm_27 : decode cX7_readTerm 27 = .ok (.return_, 1) := by decide +kernel
set_option maxHeartbeats 4000000 in
set_option maxRecDepth 20000 in
theorem en_X7_readTerm {M : jw_Mem} {Q : Int32 → jw_Mem → Prop}  (h : (jw_M 1 mX7_readNumber [vr 7 0, vi 1, vi 9] M (fun x1 M2 => (jw_M 1 mX7_readSemicolon [vr 7 0] M2 (fun x3 M4 => ((¬ (M4 7 0 3) = 0 → Q 0 M4) ∧ ((M4 7 0 3) = 0 → (∀ M5 : jw_Mem, M5 = jw_up M4 1 1 0 x1 → Q 0 M5)))))))) : jw_M 2 mX7_readTerm [vr 7 0] M Q := by
  refine jw_M.of (by decide) (Nat.le_of_ble_eq_true rfl) ?_
  show jw_J 2 mX7_readTerm 0 [(0, vr 7 0)] [] M Q
  refine jr_aload_n (pc := 0) dX7_readTerm_0 rfl 0 rfl ?_
  refine jr_iconst (pc := 1) (v := 1) dX7_readTerm_1 (by decide) ?_
  refine jr_bipush (pc := 2) (v := 9) dX7_readTerm_2 (by decide) ?_
  refine jr_callV (pc := 4) (d' := 1) (mt' := mX7_readNumber) (k := 7) (n := 0) (As := [vi 1, vi 9]) (st := []) fc_X7_80 (by decide) (by decide) (Nat.le_of_ble_eq_true rfl) rfl dX7_readTerm_4 (jw_M.mono h (fun x1 M2 h => ?_))
  show jw_J 2 mX7_readTerm 7 [(0, vr 7 0)] [vi x1] M2 Q
  refine jr_istore_n (pc := 7) (lv' := [(1, vi x1), (0, vr 7 0)]) dX7_readTerm_7 rfl (by decide) rfl ?_
  refine jr_aload_n (pc := 8) dX7_readTerm_8 rfl 1 rfl ?_
  refine jr_callV (pc := 9) (d' := 1) (mt' := mX7_readSemicolon) (k := 7) (n := 0) (As := []) (st := []) fc_X7_84 (by decide) (by decide) (Nat.le_of_ble_eq_true rfl) rfl dX7_readTerm_9 (jw_M.mono h (fun x3 M4 h => ?_))
  show jw_J 2 mX7_readTerm 12 [(1, vi x1), (0, vr 7 0)] [] M4 Q
  refine jr_aload_n (pc := 12) dX7_readTerm_12 rfl 1 rfl ?_
  refine jr_get (pc := 13) (v := vi (M4 7 0 3)) fg_X7_35 (by decide) rfl dX7_readTerm_13 ?_
  refine jr_if_ne (pc := 16) (tgt := 27) dX7_readTerm_16 (by decide) (fun c => ?_) (fun c => ?_)
  · replace h := h.1 c
    exact jr_vret (pc := 27) rfl dX7_readTerm_27 h
  · replace h := h.2 c
    refine jr_aload_n (pc := 19) dX7_readTerm_19 rfl 1 rfl ?_
    refine jr_get (pc := 20) (v := vr 1 1) fg_X7_22 (by decide) rfl dX7_readTerm_20 ?_
    refine jr_iload_n (pc := 23) dX7_readTerm_23 rfl 0 rfl ?_
    refine jr_put (pc := 24) fp_X7_68 (by decide) (Or.inl ⟨_, _, _, rfl, by decide +kernel⟩) dX7_readTerm_24 ?_
    replace h := h _ rfl
    generalize jw_up M4 1 1 0 x1 = M5 at h ⊢
    exact jr_vret (pc := 27) rfl dX7_readTerm_27 h
theorem dX7_readPlinth_0 : decode cX7_readPlinth 0 = .ok (.aload_n 0, 1) := by decide +kernel
theorem dX7_readPlinth_1 : decode cX7_readPlinth 1 = .ok (.iconst 0, 1) := by decide +kernel
theorem dX7_readPlinth_2 : decode cX7_readPlinth 2 = .ok (.bipush 99, 2) := by decide +kernel
theorem dX7_readPlinth_4 : decode cX7_readPlinth 4 = .ok (.invokevirtual 80, 3) := by decide +kernel
theorem dX7_readPlinth_7 : decode cX7_readPlinth 7 = .ok (.istore_n 1, 1) := by decide +kernel
theorem dX7_readPlinth_8 : decode cX7_readPlinth 8 = .ok (.aload_n 0, 1) := by decide +kernel
theorem dX7_readPlinth_9 : decode cX7_readPlinth 9 = .ok (.invokevirtual 84, 3) := by decide +kernel
theorem dX7_readPlinth_12 : decode cX7_readPlinth 12 = .ok (.aload_n 0, 1) := by decide +kernel
theorem dX7_readPlinth_13 : decode cX7_readPlinth 13 = .ok (.getfield 35, 3) := by decide +kernel
theorem dX7_readPlinth_16 : decode cX7_readPlinth 16 = .ok (.ifCond .ne 11, 3) := by decide +kernel
theorem dX7_readPlinth_19 : decode cX7_readPlinth 19 = .ok (.aload_n 0, 1) := by decide +kernel
theorem dX7_readPlinth_20 : decode cX7_readPlinth 20 = .ok (.getfield 22, 3) := by decide +kernel
theorem dX7_readPlinth_23 : decode cX7_readPlinth 23 = .ok (.iload_n 1, 1) := by decide +kernel
theorem dX7_readPlinth_24 : decode cX7_readPlinth 24 = .ok (.invokevirtual 87, 3) := by decide +kernel
theorem dX7_readPlinth_27 : decode cX7_readPlinth 27 = .ok (.return_, 1) := by decide +kernel
set_option maxHeartbeats 4000000 in
set_option maxRecDepth 20000 in
theorem en_X7_readPlinth {M : jw_Mem} {Q : Int32 → jw_Mem → Prop}  (h : (jw_M 1 mX7_readNumber [vr 7 0, vi 0, vi 99] M (fun x1 M2 => (jw_M 1 mX7_readSemicolon [vr 7 0] M2 (fun x3 M4 => ((¬ (M4 7 0 3) = 0 → Q 0 M4) ∧ ((M4 7 0 3) = 0 → (jw_M 0 mX1_addPlinth [vr 1 1, vi x1] M4 (fun x5 M6 => Q 0 M6))))))))) : jw_M 2 mX7_readPlinth [vr 7 0] M Q := by
  refine jw_M.of (by decide) (Nat.le_of_ble_eq_true rfl) ?_
  show jw_J 2 mX7_readPlinth 0 [(0, vr 7 0)] [] M Q
  refine jr_aload_n (pc := 0) dX7_readPlinth_0 rfl 0 rfl ?_
  refine jr_iconst (pc := 1) (v := 0) dX7_readPlinth_1 (by decide) ?_
  refine jr_bipush (pc := 2) (v := 99) dX7_readPlinth_2 (by decide) ?_
  refine jr_callV (pc := 4) (d' := 1) (mt' := mX7_readNumber) (k := 7) (n := 0) (As := [vi 0, vi 99]) (st := []) fc_X7_80 (by decide) (by decide) (Nat.le_of_ble_eq_true rfl) rfl dX7_readPlinth_4 (jw_M.mono h (fun x1 M2 h => ?_))
  show jw_J 2 mX7_readPlinth 7 [(0, vr 7 0)] [vi x1] M2 Q
  refine jr_istore_n (pc := 7) (lv' := [(1, vi x1), (0, vr 7 0)]) dX7_readPlinth_7 rfl (by decide) rfl ?_
  refine jr_aload_n (pc := 8) dX7_readPlinth_8 rfl 1 rfl ?_
  refine jr_callV (pc := 9) (d' := 1) (mt' := mX7_readSemicolon) (k := 7) (n := 0) (As := []) (st := []) fc_X7_84 (by decide) (by decide) (Nat.le_of_ble_eq_true rfl) rfl dX7_readPlinth_9 (jw_M.mono h (fun x3 M4 h => ?_))
  show jw_J 2 mX7_readPlinth 12 [(1, vi x1), (0, vr 7 0)] [] M4 Q
  refine jr_aload_n (pc := 12) dX7_readPlinth_12 rfl 1 rfl ?_
  refine jr_get (pc := 13) (v := vi (M4 7 0 3)) fg_X7_35 (by decide) rfl dX7_readPlinth_13 ?_
  refine jr_if_ne (pc := 16) (tgt := 27) dX7_readPlinth_16 (by decide) (fun c => ?_) (fun c => ?_)
  · replace h := h.1 c
    exact jr_vret (pc := 27) rfl dX7_readPlinth_27 h
  · replace h := h.2 c
    refine jr_aload_n (pc := 19) dX7_readPlinth_19 rfl 1 rfl ?_
    refine jr_get (pc := 20) (v := vr 1 1) fg_X7_22 (by decide) rfl dX7_readPlinth_20 ?_
    refine jr_iload_n (pc := 23) dX7_readPlinth_23 rfl 0 rfl ?_
    refine jr_callV (pc := 24) (d' := 0) (mt' := mX1_addPlinth) (k := 1) (n := 1) (As := [vi x1]) (st := []) fc_X7_87 (by decide) (by decide) (Nat.le_of_ble_eq_true rfl) rfl dX7_readPlinth_24 (jw_M.mono h (fun x5 M6 h => ?_))
    show jw_J 2 mX7_readPlinth 27 [(1, vi x1), (0, vr 7 0)] [] M6 Q
    exact jr_vret (pc := 27) rfl dX7_readPlinth_27 h
theorem dX7_readStatue_0 : decode cX7_readStatue 0 = .ok (.aload_n 0, 1) := by decide +kernel
theorem dX7_readStatue_1 : decode cX7_readStatue 1 = .ok (.iconst 0, 1) := by decide +kernel
theorem dX7_readStatue_2 : decode cX7_readStatue 2 = .ok (.iconst 3, 1) := by decide +kernel
theorem dX7_readStatue_3 : decode cX7_readStatue 3 = .ok (.invokevirtual 80, 3) := by decide +kernel
theorem dX7_readStatue_6 : decode cX7_readStatue 6 = .ok (.istore_n 1, 1) := by decide +kernel
theorem dX7_readStatue_7 : decode cX7_readStatue 7 = .ok (.aload_n 0, 1) := by decide +kernel
theorem dX7_readStatue_8 : decode cX7_readStatue 8 = .ok (.invokevirtual 91, 3) := by decide +kernel
theorem dX7_readStatue_11 : decode cX7_readStatue 11 = .ok (.istore_n 2, 1) := by decide +kernel
theorem dX7_readStatue_12 : decode cX7_readStatue 12 = .ok (.aload_n 0, 1) := by decide +kernel
theorem dX7_readStatue_13 : decode cX7_readStatue 13 = .ok (.iconst 0, 1) := by decide +kernel
theorem dX7_readStatue_14 : decode cX7_readStatue 14 = .ok (.bipush 99, 2) := by decide +kernel
theorem dX7_readStatue_16 : decode cX7_readStatue 16 = .ok (.invokevirtual 80, 3) := by decide +kernel
theorem dX7_readStatue_19 : decode cX7_readStatue 19 = .ok (.istore_n 3, 1) := by decide +kernel
theorem dX7_readStatue_20 : decode cX7_readStatue 20 = .ok (.aload_n 0, 1) := by decide +kernel
theorem dX7_readStatue_21 : decode cX7_readStatue 21 = .ok (.invokevirtual 84, 3) := by decide +kernel
theorem dX7_readStatue_24 : decode cX7_readStatue 24 = .ok (.aload_n 0, 1) := by decide +kernel
theorem dX7_readStatue_25 : decode cX7_readStatue 25 = .ok (.getfield 35, 3) := by decide +kernel
theorem dX7_readStatue_28 : decode cX7_readStatue 28 = .ok (.ifCond .ne 13, 3) := by decide +kernel
theorem dX7_readStatue_31 : decode cX7_readStatue 31 = .ok (.aload_n 0, 1) := by decide +kernel
theorem dX7_readStatue_32 : decode cX7_readStatue 32 = .ok (.getfield 22, 3) := by decide +kernel
theorem dX7_readStatue_35 : decode cX7_readStatue 35 = .ok (.iload_n 1, 1) := by decide +kernel
theorem dX7_readStatue_36 : decode cX7_readStatue 36 = .ok (.iload_n 2, 1) := by decide +kernel
theorem dX7_readStatue_37 : decode cX7_readStatue 37 = .ok (.iload_n 3, 1) := by decide +kernel
theorem dX7_readStatue_38 : decode cX7_readStatue 38 = .ok (.invokevirtual 94, 3) := by decide +kernel
theorem dX7_readStatue_41 : decode cX7_readStatue 41 = .ok (.return_, 1) := by decide +kernel
set_option maxHeartbeats 4000000 in
set_option maxRecDepth 20000 in
theorem en_X7_readStatue {M : jw_Mem} {Q : Int32 → jw_Mem → Prop}  (h : (jw_M 1 mX7_readNumber [vr 7 0, vi 0, vi 3] M (fun x1 M2 => (jw_M 2 mX7_readPlace [vr 7 0] M2 (fun x3 M4 => (jw_M 1 mX7_readNumber [vr 7 0, vi 0, vi 99] M4 (fun x5 M6 => (jw_M 1 mX7_readSemicolon [vr 7 0] M6 (fun x7 M8 => ((¬ (M8 7 0 3) = 0 → Q 0 M8) ∧ ((M8 7 0 3) = 0 → (jw_M 0 mX1_addStatue [vr 1 1, vi x1, vi x3, vi x5] M8 (fun x9 M10 => Q 0 M10))))))))))))) : jw_M 3 mX7_readStatue [vr 7 0] M Q := by
  refine jw_M.of (by decide) (Nat.le_of_ble_eq_true rfl) ?_
  show jw_J 3 mX7_readStatue 0 [(0, vr 7 0)] [] M Q
  refine jr_aload_n (pc := 0) dX7_readStatue_0 rfl 0 rfl ?_
  refine jr_iconst (pc := 1) (v := 0) dX7_readStatue_1 (by decide) ?_
  refine jr_iconst (pc := 2) (v := 3) dX7_readStatue_2 (by decide) ?_
  refine jr_callV (pc := 3) (d' := 1) (mt' := mX7_readNumber) (k := 7) (n := 0) (As := [vi 0, vi 3]) (st := []) fc_X7_80 (by decide) (by decide) (Nat.le_of_ble_eq_true rfl) rfl dX7_readStatue_3 (jw_M.mono h (fun x1 M2 h => ?_))
  show jw_J 3 mX7_readStatue 6 [(0, vr 7 0)] [vi x1] M2 Q
  refine jr_istore_n (pc := 6) (lv' := [(1, vi x1), (0, vr 7 0)]) dX7_readStatue_6 rfl (by decide) rfl ?_
  refine jr_aload_n (pc := 7) dX7_readStatue_7 rfl 1 rfl ?_
  refine jr_callV (pc := 8) (d' := 2) (mt' := mX7_readPlace) (k := 7) (n := 0) (As := []) (st := []) fc_X7_91 (by decide) (by decide) (Nat.le_of_ble_eq_true rfl) rfl dX7_readStatue_8 (jw_M.mono h (fun x3 M4 h => ?_))
  show jw_J 3 mX7_readStatue 11 [(1, vi x1), (0, vr 7 0)] [vi x3] M4 Q
  refine jr_istore_n (pc := 11) (lv' := [(2, vi x3), (1, vi x1), (0, vr 7 0)]) dX7_readStatue_11 rfl (by decide) rfl ?_
  refine jr_aload_n (pc := 12) dX7_readStatue_12 rfl 2 rfl ?_
  refine jr_iconst (pc := 13) (v := 0) dX7_readStatue_13 (by decide) ?_
  refine jr_bipush (pc := 14) (v := 99) dX7_readStatue_14 (by decide) ?_
  refine jr_callV (pc := 16) (d' := 1) (mt' := mX7_readNumber) (k := 7) (n := 0) (As := [vi 0, vi 99]) (st := []) fc_X7_80 (by decide) (by decide) (Nat.le_of_ble_eq_true rfl) rfl dX7_readStatue_16 (jw_M.mono h (fun x5 M6 h => ?_))
  show jw_J 3 mX7_readStatue 19 [(2, vi x3), (1, vi x1), (0, vr 7 0)] [vi x5] M6 Q
  refine jr_istore_n (pc := 19) (lv' := [(3, vi x5), (2, vi x3), (1, vi x1), (0, vr 7 0)]) dX7_readStatue_19 rfl (by decide) rfl ?_
  refine jr_aload_n (pc := 20) dX7_readStatue_20 rfl 3 rfl ?_
  refine jr_callV (pc := 21) (d' := 1) (mt' := mX7_readSemicolon) (k := 7) (n := 0) (As := []) (st := []) fc_X7_84 (by decide) (by decide) (Nat.le_of_ble_eq_true rfl) rfl dX7_readStatue_21 (jw_M.mono h (fun x7 M8 h => ?_))
  show jw_J 3 mX7_readStatue 24 [(3, vi x5), (2, vi x3), (1, vi x1), (0, vr 7 0)] [] M8 Q
  refine jr_aload_n (pc := 24) dX7_readStatue_24 rfl 3 rfl ?_
  refine jr_get (pc := 25) (v := vi (M8 7 0 3)) fg_X7_35 (by decide) rfl dX7_readStatue_25 ?_
  refine jr_if_ne (pc := 28) (tgt := 41) dX7_readStatue_28 (by decide) (fun c => ?_) (fun c => ?_)
  · replace h := h.1 c
    exact jr_vret (pc := 41) rfl dX7_readStatue_41 h
  · replace h := h.2 c
    refine jr_aload_n (pc := 31) dX7_readStatue_31 rfl 3 rfl ?_
    refine jr_get (pc := 32) (v := vr 1 1) fg_X7_22 (by decide) rfl dX7_readStatue_32 ?_
    refine jr_iload_n (pc := 35) dX7_readStatue_35 rfl 2 rfl ?_
    refine jr_iload_n (pc := 36) dX7_readStatue_36 rfl 1 rfl ?_
    refine jr_iload_n (pc := 37) dX7_readStatue_37 rfl 0 rfl ?_
    refine jr_callV (pc := 38) (d' := 0) (mt' := mX1_addStatue) (k := 1) (n := 1) (As := [vi x1, vi x3, vi x5]) (st := []) fc_X7_94 (by decide) (by decide) (Nat.le_of_ble_eq_true rfl) rfl dX7_readStatue_38 (jw_M.mono h (fun x9 M10 h => ?_))
    show jw_J 3 mX7_readStatue 41 [(3, vi x5), (2, vi x3), (1, vi x1), (0, vr 7 0)] [] M10 Q
    exact jr_vret (pc := 41) rfl dX7_readStatue_41 h
theorem dX7_readWalker_0 : decode cX7_readWalker 0 = .ok (.aload_n 0, 1) := by decide +kernel
theorem dX7_readWalker_1 : decode cX7_readWalker 1 = .ok (.iconst 0, 1) := by decide +kernel
theorem dX7_readWalker_2 : decode cX7_readWalker 2 = .ok (.iconst 1, 1) := by decide +kernel
theorem dX7_readWalker_3 : decode cX7_readWalker 3 = .ok (.aload_n 0, 1) := by decide +kernel
theorem dX7_readWalker_4 : decode cX7_readWalker 4 = .ok (.getfield 22, 3) := by decide +kernel
theorem dX7_readWalker_7 : decode cX7_readWalker 7 = .ok (.getfield 74, 3) := by decide +kernel
theorem dX7_readWalker_10 : decode cX7_readWalker 10 = .ok (.ishl, 1) := by decide +kernel
theorem dX7_readWalker_11 : decode cX7_readWalker 11 = .ok (.iconst 1, 1) := by decide +kernel
theorem dX7_readWalker_12 : decode cX7_readWalker 12 = .ok (.isub, 1) := by decide +kernel
theorem dX7_readWalker_13 : decode cX7_readWalker 13 = .ok (.invokevirtual 80, 3) := by decide +kernel
theorem dX7_readWalker_16 : decode cX7_readWalker 16 = .ok (.istore_n 1, 1) := by decide +kernel
theorem dX7_readWalker_17 : decode cX7_readWalker 17 = .ok (.aload_n 0, 1) := by decide +kernel
theorem dX7_readWalker_18 : decode cX7_readWalker 18 = .ok (.iconst 1, 1) := by decide +kernel
theorem dX7_readWalker_19 : decode cX7_readWalker 19 = .ok (.bipush 9, 2) := by decide +kernel
theorem dX7_readWalker_21 : decode cX7_readWalker 21 = .ok (.invokevirtual 80, 3) := by decide +kernel
theorem dX7_readWalker_24 : decode cX7_readWalker 24 = .ok (.istore_n 2, 1) := by decide +kernel
theorem dX7_readWalker_25 : decode cX7_readWalker 25 = .ok (.aload_n 0, 1) := by decide +kernel
theorem dX7_readWalker_26 : decode cX7_readWalker 26 = .ok (.iconst 0, 1) := by decide +kernel
theorem dX7_readWalker_27 : decode cX7_readWalker 27 = .ok (.iconst 1, 1) := by decide +kernel
theorem dX7_readWalker_28 : decode cX7_readWalker 28 = .ok (.aload_n 0, 1) := by decide +kernel
theorem dX7_readWalker_29 : decode cX7_readWalker 29 = .ok (.getfield 22, 3) := by decide +kernel
theorem dX7_readWalker_32 : decode cX7_readWalker 32 = .ok (.getfield 77, 3) := by decide +kernel
theorem dX7_readWalker_35 : decode cX7_readWalker 35 = .ok (.ishl, 1) := by decide +kernel
theorem dX7_readWalker_36 : decode cX7_readWalker 36 = .ok (.iconst 1, 1) := by decide +kernel
theorem dX7_readWalker_37 : decode cX7_readWalker 37 = .ok (.isub, 1) := by decide +kernel
theorem dX7_readWalker_38 : decode cX7_readWalker 38 = .ok (.invokevirtual 80, 3) := by decide +kernel
theorem dX7_readWalker_41 : decode cX7_readWalker 41 = .ok (.istore_n 3, 1) := by decide +kernel
theorem dX7_readWalker_42 : decode cX7_readWalker 42 = .ok (.aload_n 0, 1) := by decide +kernel
theorem dX7_readWalker_43 : decode cX7_readWalker 43 = .ok (.invokevirtual 84, 3) := by decide +kernel
theorem dX7_readWalker_46 : decode cX7_readWalker 46 = .ok (.aload_n 0, 1) := by decide +kernel
theorem dX7_readWalker_47 : decode cX7_readWalker 47 = .ok (.getfield 35, 3) := by decide +kernel
theorem dX7_readWalker_50 : decode cX7_readWalker 50 = .ok (.ifCond .ne 13, 3) := by decide +kernel
theorem dX7_readWalker_53 : decode cX7_readWalker 53 = .ok (.aload_n 0, 1) := by decide +kernel
theorem dX7_readWalker_54 : decode cX7_readWalker 54 = .ok (.getfield 22, 3) := by decide +kernel
theorem dX7_readWalker_57 : decode cX7_readWalker 57 = .ok (.iload_n 1, 1) := by decide +kernel
theorem dX7_readWalker_58 : decode cX7_readWalker 58 = .ok (.iload_n 2, 1) := by decide +kernel
theorem dX7_readWalker_59 : decode cX7_readWalker 59 = .ok (.iload_n 3, 1) := by decide +kernel
theorem dX7_readWalker_60 : decode cX7_readWalker 60 = .ok (.invokevirtual 98, 3) := by decide +kernel
theorem dX7_readWalker_63 : decode cX7_readWalker 63 = .ok (.return_, 1) := by decide +kernel
set_option maxHeartbeats 4000000 in
set_option maxRecDepth 20000 in
theorem en_X7_readWalker {M : jw_Mem} {Q : Int32 → jw_Mem → Prop}  (h : (jw_M 1 mX7_readNumber [vr 7 0, vi 0, vi (((1 : Int32) <<< ((M 1 1 1) &&& 31)) - 1)] M (fun x1 M2 => (jw_M 1 mX7_readNumber [vr 7 0, vi 1, vi 9] M2 (fun x3 M4 => (jw_M 1 mX7_readNumber [vr 7 0, vi 0, vi (((1 : Int32) <<< ((M4 1 1 2) &&& 31)) - 1)] M4 (fun x5 M6 => (jw_M 1 mX7_readSemicolon [vr 7 0] M6 (fun x7 M8 => ((¬ (M8 7 0 3) = 0 → Q 0 M8) ∧ ((M8 7 0 3) = 0 → (jw_M 0 mX1_addWalker [vr 1 1, vi x1, vi x3, vi x5] M8 (fun x9 M10 => Q 0 M10))))))))))))) : jw_M 2 mX7_readWalker [vr 7 0] M Q := by
  refine jw_M.of (by decide) (Nat.le_of_ble_eq_true rfl) ?_
  show jw_J 2 mX7_readWalker 0 [(0, vr 7 0)] [] M Q
  refine jr_aload_n (pc := 0) dX7_readWalker_0 rfl 0 rfl ?_
  refine jr_iconst (pc := 1) (v := 0) dX7_readWalker_1 (by decide) ?_
  refine jr_iconst (pc := 2) (v := 1) dX7_readWalker_2 (by decide) ?_
  refine jr_aload_n (pc := 3) dX7_readWalker_3 rfl 0 rfl ?_
  refine jr_get (pc := 4) (v := vr 1 1) fg_X7_22 (by decide) rfl dX7_readWalker_4 ?_
  refine jr_get (pc := 7) (v := vi (M 1 1 1)) fg_X7_74 (by decide) rfl dX7_readWalker_7 ?_
  refine jr_ishl (pc := 10) dX7_readWalker_10 ?_
  refine jr_iconst (pc := 11) (v := 1) dX7_readWalker_11 (by decide) ?_
  refine jr_isub (pc := 12) dX7_readWalker_12 ?_
  refine jr_callV (pc := 13) (d' := 1) (mt' := mX7_readNumber) (k := 7) (n := 0) (As := [vi 0, vi (((1 : Int32) <<< ((M 1 1 1) &&& 31)) - 1)]) (st := []) fc_X7_80 (by decide) (by decide) (Nat.le_of_ble_eq_true rfl) rfl dX7_readWalker_13 (jw_M.mono h (fun x1 M2 h => ?_))
  show jw_J 2 mX7_readWalker 16 [(0, vr 7 0)] [vi x1] M2 Q
  refine jr_istore_n (pc := 16) (lv' := [(1, vi x1), (0, vr 7 0)]) dX7_readWalker_16 rfl (by decide) rfl ?_
  refine jr_aload_n (pc := 17) dX7_readWalker_17 rfl 1 rfl ?_
  refine jr_iconst (pc := 18) (v := 1) dX7_readWalker_18 (by decide) ?_
  refine jr_bipush (pc := 19) (v := 9) dX7_readWalker_19 (by decide) ?_
  refine jr_callV (pc := 21) (d' := 1) (mt' := mX7_readNumber) (k := 7) (n := 0) (As := [vi 1, vi 9]) (st := []) fc_X7_80 (by decide) (by decide) (Nat.le_of_ble_eq_true rfl) rfl dX7_readWalker_21 (jw_M.mono h (fun x3 M4 h => ?_))
  show jw_J 2 mX7_readWalker 24 [(1, vi x1), (0, vr 7 0)] [vi x3] M4 Q
  refine jr_istore_n (pc := 24) (lv' := [(2, vi x3), (1, vi x1), (0, vr 7 0)]) dX7_readWalker_24 rfl (by decide) rfl ?_
  refine jr_aload_n (pc := 25) dX7_readWalker_25 rfl 2 rfl ?_
  refine jr_iconst (pc := 26) (v := 0) dX7_readWalker_26 (by decide) ?_
  refine jr_iconst (pc := 27) (v := 1) dX7_readWalker_27 (by decide) ?_
  refine jr_aload_n (pc := 28) dX7_readWalker_28 rfl 2 rfl ?_
  refine jr_get (pc := 29) (v := vr 1 1) fg_X7_22 (by decide) rfl dX7_readWalker_29 ?_
  refine jr_get (pc := 32) (v := vi (M4 1 1 2)) fg_X7_77 (by decide) rfl dX7_readWalker_32 ?_
  refine jr_ishl (pc := 35) dX7_readWalker_35 ?_
  refine jr_iconst (pc := 36) (v := 1) dX7_readWalker_36 (by decide) ?_
  refine jr_isub (pc := 37) dX7_readWalker_37 ?_
  refine jr_callV (pc := 38) (d' := 1) (mt' := mX7_readNumber) (k := 7) (n := 0) (As := [vi 0, vi (((1 : Int32) <<< ((M4 1 1 2) &&& 31)) - 1)]) (st := []) fc_X7_80 (by decide) (by decide) (Nat.le_of_ble_eq_true rfl) rfl dX7_readWalker_38 (jw_M.mono h (fun x5 M6 h => ?_))
  show jw_J 2 mX7_readWalker 41 [(2, vi x3), (1, vi x1), (0, vr 7 0)] [vi x5] M6 Q
  refine jr_istore_n (pc := 41) (lv' := [(3, vi x5), (2, vi x3), (1, vi x1), (0, vr 7 0)]) dX7_readWalker_41 rfl (by decide) rfl ?_
  refine jr_aload_n (pc := 42) dX7_readWalker_42 rfl 3 rfl ?_
  refine jr_callV (pc := 43) (d' := 1) (mt' := mX7_readSemicolon) (k := 7) (n := 0) (As := []) (st := []) fc_X7_84 (by decide) (by decide) (Nat.le_of_ble_eq_true rfl) rfl dX7_readWalker_43 (jw_M.mono h (fun x7 M8 h => ?_))
  show jw_J 2 mX7_readWalker 46 [(3, vi x5), (2, vi x3), (1, vi x1), (0, vr 7 0)] [] M8 Q
  refine jr_aload_n (pc := 46) dX7_readWalker_46 rfl 3 rfl ?_
  refine jr_get (pc := 47) (v := vi (M8 7 0 3)) fg_X7_35 (by decide) rfl dX7_readWalker_47 ?_
  refine jr_if_ne (pc := 50) (tgt := 63) dX7_readWalker_50 (by decide) (fun c => ?_) (fun c => ?_)
  · replace h := h.1 c
    exact jr_vret (pc := 63) rfl dX7_readWalker_63 h
  · replace h := h.2 c
    refine jr_aload_n (pc := 53) dX7_readWalker_53 rfl 3 rfl ?_
    refine jr_get (pc := 54) (v := vr 1 1) fg_X7_22 (by decide) rfl dX7_readWalker_54 ?_
    refine jr_iload_n (pc := 57) dX7_readWalker_57 rfl 2 rfl ?_
    refine jr_iload_n (pc := 58) dX7_readWalker_58 rfl 1 rfl ?_
    refine jr_iload_n (pc := 59) dX7_readWalker_59 rfl 0 rfl ?_
    refine jr_callV (pc := 60) (d' := 0) (mt' := mX1_addWalker) (k := 1) (n := 1) (As := [vi x1, vi x3, vi x5]) (st := []) fc_X7_98 (by decide) (by decide) (Nat.le_of_ble_eq_true rfl) rfl dX7_readWalker_60 (jw_M.mono h (fun x9 M10 h => ?_))
    show jw_J 2 mX7_readWalker 63 [(3, vi x5), (2, vi x3), (1, vi x1), (0, vr 7 0)] [] M10 Q
    exact jr_vret (pc := 63) rfl dX7_readWalker_63 h
theorem dX7_readPlace_0 : decode cX7_readPlace 0 = .ok (.aload_n 0, 1) := by decide +kernel
theorem dX7_readPlace_1 : decode cX7_readPlace 1 = .ok (.invokevirtual 38, 3) := by decide +kernel
theorem dX7_readPlace_4 : decode cX7_readPlace 4 = .ok (.aload_n 0, 1) := by decide +kernel
theorem dX7_readPlace_5 : decode cX7_readPlace 5 = .ok (.getfield 32, 3) := by decide +kernel
theorem dX7_readPlace_8 : decode cX7_readPlace 8 = .ok (.istore_n 1, 1) := by decide +kernel
theorem dX7_readPlace_9 : decode cX7_readPlace 9 = .ok (.aload_n 0, 1) := by decide +kernel
theorem dX7_readPlace_10 : decode cX7_readPlace 10 = .ok (.iconst 0, 1) := by decide +kernel
theorem dX7_readPlace_11 : decode cX7_readPlace 11 = .ok (.bipush 9, 2) := by decide +kernel
theorem dX7_readPlace_13 : decode cX7_readPlace 13 = .ok (.invokevirtual 80, 3) := by decide +kernel
theorem dX7_readPlace_16 : decode cX7_readPlace 16 = .ok (.istore_n 2, 1) := by decide +kernel
theorem dX7_readPlace_17 : decode cX7_readPlace 17 = .ok (.iload_n 2, 1) := by decide +kernel
theorem dX7_readPlace_18 : decode cX7_readPlace 18 = .ok (.bipush 9, 2) := by decide +kernel
theorem dX7_readPlace_20 : decode cX7_readPlace 20 = .ok (.if_icmp .ne 5, 3) := by decide +kernel
theorem dX7_readPlace_23 : decode cX7_readPlace 23 = .ok (.iconst (-1), 1) := by decide +kernel
theorem dX7_readPlace_24 : decode cX7_readPlace 24 = .ok (.ireturn, 1) := by decide +kernel
theorem dX7_readPlace_25 : decode cX7_readPlace 25 = .ok (.aload_n 0, 1) := by decide +kernel
theorem dX7_readPlace_26 : decode cX7_readPlace 26 = .ok (.getfield 22, 3) := by decide +kernel
theorem dX7_readPlace_29 : decode cX7_readPlace 29 = .ok (.iload_n 2, 1) := by decide +kernel
theorem dX7_readPlace_30 : decode cX7_readPlace 30 = .ok (.invokevirtual 101, 3) := by decide +kernel
theorem dX7_readPlace_33 : decode cX7_readPlace 33 = .ok (.ifCond .ne 12, 3) := by decide +kernel
theorem dX7_readPlace_36 : decode cX7_readPlace 36 = .ok (.aload_n 0, 1) := by decide +kernel
theorem dX7_readPlace_37 : decode cX7_readPlace 37 = .ok (.iconst 2, 1) := by decide +kernel
theorem dX7_readPlace_38 : decode cX7_readPlace 38 = .ok (.iload_n 1, 1) := by decide +kernel
theorem dX7_readPlace_39 : decode cX7_readPlace 39 = .ok (.invokevirtual 52, 3) := by decide +kernel
theorem dX7_readPlace_42 : decode cX7_readPlace 42 = .ok (.goto 20, 3) := by decide +kernel
theorem dX7_readPlace_45 : decode cX7_readPlace 45 = .ok (.aload_n 0, 1) := by decide +kernel
theorem dX7_readPlace_46 : decode cX7_readPlace 46 = .ok (.getfield 22, 3) := by decide +kernel
theorem dX7_readPlace_49 : decode cX7_readPlace 49 = .ok (.iload_n 2, 1) := by decide +kernel
theorem dX7_readPlace_50 : decode cX7_readPlace 50 = .ok (.invokevirtual 105, 3) := by decide +kernel
theorem dX7_readPlace_53 : decode cX7_readPlace 53 = .ok (.ifCond .eq 9, 3) := by decide +kernel
theorem dX7_readPlace_56 : decode cX7_readPlace 56 = .ok (.aload_n 0, 1) := by decide +kernel
theorem dX7_readPlace_57 : decode cX7_readPlace 57 = .ok (.iconst 4, 1) := by decide +kernel
theorem dX7_readPlace_58 : decode cX7_readPlace 58 = .ok (.iload_n 1, 1) := by decide +kernel
theorem dX7_readPlace_59 : decode cX7_readPlace 59 = .ok (.invokevirtual 52, 3) := by decide +kernel
theorem dX7_readPlace_62 : decode cX7_readPlace 62 = .ok (.iload_n 2, 1) := by decide +kernel
theorem dX7_readPlace_63 : decode cX7_readPlace 63 = .ok (.ireturn, 1) := by decide +kernel
set_option maxHeartbeats 4000000 in
set_option maxRecDepth 20000 in
theorem en_X7_readPlace {M : jw_Mem} {Q : Int32 → jw_Mem → Prop}  (h : (jw_M 0 mX7_skipBlanks [vr 7 0] M (fun x1 M2 => (jw_M 1 mX7_readNumber [vr 7 0, vi 0, vi 9] M2 (fun x3 M4 => ((¬ x3 = 9 → (jw_M 0 mX1_hasPlinth [vr 1 1, vi x3] M4 (fun x5 M6 => ((¬ x5 = 0 → (jw_M 0 mX1_isTakenAtFirst [vr 1 1, vi x3] M6 (fun x7 M8 => ((x7 = 0 → Q x3 M8) ∧ (¬ x7 = 0 → (jw_M 0 mX7_blame [vr 7 0, vi 4, vi (M2 7 0 1)] M8 (fun x9 M10 => Q x3 M10))))))) ∧ (x5 = 0 → (jw_M 0 mX7_blame [vr 7 0, vi 2, vi (M2 7 0 1)] M6 (fun x11 M12 => Q x3 M12))))))) ∧ (x3 = 9 → Q (-1) M4))))))) : jw_M 2 mX7_readPlace [vr 7 0] M Q := by
  refine jw_M.of (by decide) (Nat.le_of_ble_eq_true rfl) ?_
  show jw_J 2 mX7_readPlace 0 [(0, vr 7 0)] [] M Q
  refine jr_aload_n (pc := 0) dX7_readPlace_0 rfl 0 rfl ?_
  refine jr_callV (pc := 1) (d' := 0) (mt' := mX7_skipBlanks) (k := 7) (n := 0) (As := []) (st := []) fc_X7_38 (by decide) (by decide) (Nat.le_of_ble_eq_true rfl) rfl dX7_readPlace_1 (jw_M.mono h (fun x1 M2 h => ?_))
  show jw_J 2 mX7_readPlace 4 [(0, vr 7 0)] [] M2 Q
  refine jr_aload_n (pc := 4) dX7_readPlace_4 rfl 0 rfl ?_
  refine jr_get (pc := 5) (v := vi (M2 7 0 1)) fg_X7_32 (by decide) rfl dX7_readPlace_5 ?_
  refine jr_istore_n (pc := 8) (lv' := [(1, vi (M2 7 0 1)), (0, vr 7 0)]) dX7_readPlace_8 rfl (by decide) rfl ?_
  refine jr_aload_n (pc := 9) dX7_readPlace_9 rfl 1 rfl ?_
  refine jr_iconst (pc := 10) (v := 0) dX7_readPlace_10 (by decide) ?_
  refine jr_bipush (pc := 11) (v := 9) dX7_readPlace_11 (by decide) ?_
  refine jr_callV (pc := 13) (d' := 1) (mt' := mX7_readNumber) (k := 7) (n := 0) (As := [vi 0, vi 9]) (st := []) fc_X7_80 (by decide) (by decide) (Nat.le_of_ble_eq_true rfl) rfl dX7_readPlace_13 (jw_M.mono h (fun x3 M4 h => ?_))
  show jw_J 2 mX7_readPlace 16 [(1, vi (M2 7 0 1)), (0, vr 7 0)] [vi x3] M4 Q
  refine jr_istore_n (pc := 16) (lv' := [(2, vi x3), (1, vi (M2 7 0 1)), (0, vr 7 0)]) dX7_readPlace_16 rfl (by decide) rfl ?_
  refine jr_iload_n (pc := 17) dX7_readPlace_17 rfl 0 rfl ?_
  refine jr_bipush (pc := 18) (v := 9) dX7_readPlace_18 (by decide) ?_
  refine jr_icmp_ne (pc := 20) (tgt := 25) dX7_readPlace_20 (by decide) (fun c => ?_) (fun c => ?_)
  · replace h := h.1 c
    refine jr_aload_n (pc := 25) dX7_readPlace_25 rfl 2 rfl ?_
    refine jr_get (pc := 26) (v := vr 1 1) fg_X7_22 (by decide) rfl dX7_readPlace_26 ?_
    refine jr_iload_n (pc := 29) dX7_readPlace_29 rfl 0 rfl ?_
    refine jr_callV (pc := 30) (d' := 0) (mt' := mX1_hasPlinth) (k := 1) (n := 1) (As := [vi x3]) (st := []) fc_X7_101 (by decide) (by decide) (Nat.le_of_ble_eq_true rfl) rfl dX7_readPlace_30 (jw_M.mono h (fun x5 M6 h => ?_))
    show jw_J 2 mX7_readPlace 33 [(2, vi x3), (1, vi (M2 7 0 1)), (0, vr 7 0)] [vi x5] M6 Q
    refine jr_if_ne (pc := 33) (tgt := 45) dX7_readPlace_33 (by decide) (fun c => ?_) (fun c => ?_)
    · replace h := h.1 c
      refine jr_aload_n (pc := 45) dX7_readPlace_45 rfl 2 rfl ?_
      refine jr_get (pc := 46) (v := vr 1 1) fg_X7_22 (by decide) rfl dX7_readPlace_46 ?_
      refine jr_iload_n (pc := 49) dX7_readPlace_49 rfl 0 rfl ?_
      refine jr_callV (pc := 50) (d' := 0) (mt' := mX1_isTakenAtFirst) (k := 1) (n := 1) (As := [vi x3]) (st := []) fc_X7_105 (by decide) (by decide) (Nat.le_of_ble_eq_true rfl) rfl dX7_readPlace_50 (jw_M.mono h (fun x7 M8 h => ?_))
      show jw_J 2 mX7_readPlace 53 [(2, vi x3), (1, vi (M2 7 0 1)), (0, vr 7 0)] [vi x7] M8 Q
      refine jr_if_eq (pc := 53) (tgt := 62) dX7_readPlace_53 (by decide) (fun c => ?_) (fun c => ?_)
      · replace h := h.1 c
        refine jr_iload_n (pc := 62) dX7_readPlace_62 rfl 0 rfl ?_
        exact jr_iret (pc := 63) rfl dX7_readPlace_63 h
      · replace h := h.2 c
        refine jr_aload_n (pc := 56) dX7_readPlace_56 rfl 2 rfl ?_
        refine jr_iconst (pc := 57) (v := 4) dX7_readPlace_57 (by decide) ?_
        refine jr_iload_n (pc := 58) dX7_readPlace_58 rfl 1 rfl ?_
        refine jr_callV (pc := 59) (d' := 0) (mt' := mX7_blame) (k := 7) (n := 0) (As := [vi 4, vi (M2 7 0 1)]) (st := []) fc_X7_52 (by decide) (by decide) (Nat.le_of_ble_eq_true rfl) rfl dX7_readPlace_59 (jw_M.mono h (fun x9 M10 h => ?_))
        show jw_J 2 mX7_readPlace 62 [(2, vi x3), (1, vi (M2 7 0 1)), (0, vr 7 0)] [] M10 Q
        refine jr_iload_n (pc := 62) dX7_readPlace_62 rfl 0 rfl ?_
        exact jr_iret (pc := 63) rfl dX7_readPlace_63 h
    · replace h := h.2 c
      refine jr_aload_n (pc := 36) dX7_readPlace_36 rfl 2 rfl ?_
      refine jr_iconst (pc := 37) (v := 2) dX7_readPlace_37 (by decide) ?_
      refine jr_iload_n (pc := 38) dX7_readPlace_38 rfl 1 rfl ?_
      refine jr_callV (pc := 39) (d' := 0) (mt' := mX7_blame) (k := 7) (n := 0) (As := [vi 2, vi (M2 7 0 1)]) (st := []) fc_X7_52 (by decide) (by decide) (Nat.le_of_ble_eq_true rfl) rfl dX7_readPlace_39 (jw_M.mono h (fun x11 M12 h => ?_))
      show jw_J 2 mX7_readPlace 42 [(2, vi x3), (1, vi (M2 7 0 1)), (0, vr 7 0)] [] M12 Q
      refine jr_goto (pc := 42) (tgt := 62) dX7_readPlace_42 (by decide) ?_
      refine jr_iload_n (pc := 62) dX7_readPlace_62 rfl 0 rfl ?_
      exact jr_iret (pc := 63) rfl dX7_readPlace_63 h
  · replace h := h.2 c
    refine jr_iconst (pc := 23) (v := (-1)) dX7_readPlace_23 (by decide) ?_
    exact jr_iret (pc := 24) rfl dX7_readPlace_24 h
theorem dX7_readNumber_0 : decode cX7_readNumber 0 = .ok (.aload_n 0, 1) := by decide +kernel
theorem dX7_readNumber_1 : decode cX7_readNumber 1 = .ok (.invokevirtual 38, 3) := by decide +kernel
theorem dX7_readNumber_4 : decode cX7_readNumber 4 = .ok (.aload_n 0, 1) := by decide +kernel
theorem dX7_readNumber_5 : decode cX7_readNumber 5 = .ok (.getfield 32, 3) := by decide +kernel
theorem dX7_readNumber_8 : decode cX7_readNumber 8 = .ok (.istore_n 3, 1) := by decide +kernel
theorem dX7_readNumber_9 : decode cX7_readNumber 9 = .ok (.iconst 0, 1) := by decide +kernel
theorem dX7_readNumber_10 : decode cX7_readNumber 10 = .ok (.istore 4, 2) := by decide +kernel
theorem dX7_readNumber_12 : decode cX7_readNumber 12 = .ok (.aload_n 0, 1) := by decide +kernel
theorem dX7_readNumber_13 : decode cX7_readNumber 13 = .ok (.getfield 32, 3) := by decide +kernel
theorem dX7_readNumber_16 : decode cX7_readNumber 16 = .ok (.aload_n 0, 1) := by decide +kernel
theorem dX7_readNumber_17 : decode cX7_readNumber 17 = .ok (.getfield 26, 3) := by decide +kernel
theorem dX7_readNumber_20 : decode cX7_readNumber 20 = .ok (.if_icmp .ge 51, 3) := by decide +kernel
theorem dX7_readNumber_23 : decode cX7_readNumber 23 = .ok (.aload_n 0, 1) := by decide +kernel
theorem dX7_readNumber_24 : decode cX7_readNumber 24 = .ok (.invokevirtual 44, 3) := by decide +kernel
theorem dX7_readNumber_27 : decode cX7_readNumber 27 = .ok (.invokestatic 108, 3) := by decide +kernel
theorem dX7_readNumber_30 : decode cX7_readNumber 30 = .ok (.ifCond .eq 41, 3) := by decide +kernel
theorem dX7_readNumber_33 : decode cX7_readNumber 33 = .ok (.aload_n 0, 1) := by decide +kernel
theorem dX7_readNumber_34 : decode cX7_readNumber 34 = .ok (.getfield 32, 3) := by decide +kernel
theorem dX7_readNumber_37 : decode cX7_readNumber 37 = .ok (.iload_n 3, 1) := by decide +kernel
theorem dX7_readNumber_38 : decode cX7_readNumber 38 = .ok (.isub, 1) := by decide +kernel
theorem dX7_readNumber_39 : decode cX7_readNumber 39 = .ok (.iconst 3, 1) := by decide +kernel
theorem dX7_readNumber_40 : decode cX7_readNumber 40 = .ok (.if_icmp .ge 18, 3) := by decide +kernel
theorem dX7_readNumber_43 : decode cX7_readNumber 43 = .ok (.iload 4, 2) := by decide +kernel
theorem dX7_readNumber_45 : decode cX7_readNumber 45 = .ok (.bipush 10, 2) := by decide +kernel
theorem dX7_readNumber_47 : decode cX7_readNumber 47 = .ok (.imul, 1) := by decide +kernel
theorem dX7_readNumber_48 : decode cX7_readNumber 48 = .ok (.aload_n 0, 1) := by decide +kernel
theorem dX7_readNumber_49 : decode cX7_readNumber 49 = .ok (.invokevirtual 44, 3) := by decide +kernel
theorem dX7_readNumber_52 : decode cX7_readNumber 52 = .ok (.iadd, 1) := by decide +kernel
theorem dX7_readNumber_53 : decode cX7_readNumber 53 = .ok (.bipush 48, 2) := by decide +kernel
theorem dX7_readNumber_55 : decode cX7_readNumber 55 = .ok (.isub, 1) := by decide +kernel
theorem dX7_readNumber_56 : decode cX7_readNumber 56 = .ok (.istore 4, 2) := by decide +kernel
theorem dX7_readNumber_58 : decode cX7_readNumber 58 = .ok (.aload_n 0, 1) := by decide +kernel
theorem dX7_readNumber_59 : decode cX7_readNumber 59 = .ok (.dup, 1) := by decide +kernel
theorem dX7_readNumber_60 : decode cX7_readNumber 60 = .ok (.getfield 32, 3) := by decide +kernel
theorem dX7_readNumber_63 : decode cX7_readNumber 63 = .ok (.iconst 1, 1) := by decide +kernel
theorem dX7_readNumber_64 : decode cX7_readNumber 64 = .ok (.iadd, 1) := by decide +kernel
theorem dX7_readNumber_65 : decode cX7_readNumber 65 = .ok (.putfield 32, 3) := by decide +kernel
theorem dX7_readNumber_68 : decode cX7_readNumber 68 = .ok (.goto (-56), 3) := by decide +kernel
theorem dX7_readNumber_71 : decode cX7_readNumber 71 = .ok (.aload_n 0, 1) := by decide +kernel
theorem dX7_readNumber_72 : decode cX7_readNumber 72 = .ok (.getfield 32, 3) := by decide +kernel
theorem dX7_readNumber_75 : decode cX7_readNumber 75 = .ok (.iload_n 3, 1) := by decide +kernel
theorem dX7_readNumber_76 : decode cX7_readNumber 76 = .ok (.if_icmp .ne 12, 3) := by decide +kernel
theorem dX7_readNumber_79 : decode cX7_readNumber 79 = .ok (.aload_n 0, 1) := by decide +kernel
theorem dX7_readNumber_80 : decode cX7_readNumber 80 = .ok (.iconst 1, 1) := by decide +kernel
theorem dX7_readNumber_81 : decode cX7_readNumber 81 = .ok (.iload_n 3, 1) := by decide +kernel
theorem dX7_readNumber_82 : decode cX7_readNumber 82 = .ok (.invokevirtual 52, 3) := by decide +kernel
theorem dX7_readNumber_85 : decode cX7_readNumber 85 = .ok (.goto 31, 3) := by decide +kernel
theorem dX7_readNumber_88 : decode cX7_readNumber 88 = .ok (.aload_n 0, 1) := by decide +kernel
theorem dX7_readNumber_89 : decode cX7_readNumber 89 = .ok (.getfield 32, 3) := by decide +kernel
theorem dX7_readNumber_92 : decode cX7_readNumber 92 = .ok (.iload_n 3, 1) := by decide +kernel
theorem dX7_readNumber_93 : decode cX7_readNumber 93 = .ok (.isub, 1) := by decide +kernel
theorem dX7_readNumber_94 : decode cX7_readNumber 94 = .ok (.iconst 3, 1) := by decide +kernel
theorem dX7_readNumber_95 : decode cX7_readNumber 95 = .ok (.if_icmp .gt 15, 3) := by decide +kernel
theorem dX7_readNumber_98 : decode cX7_readNumber 98 = .ok (.iload 4, 2) := by decide +kernel
theorem dX7_readNumber_100 : decode cX7_readNumber 100 = .ok (.iload_n 1, 1) := by decide +kernel
theorem dX7_readNumber_101 : decode cX7_readNumber 101 = .ok (.if_icmp .lt 9, 3) := by decide +kernel
theorem dX7_readNumber_104 : decode cX7_readNumber 104 = .ok (.iload 4, 2) := by decide +kernel
theorem dX7_readNumber_106 : decode cX7_readNumber 106 = .ok (.iload_n 2, 1) := by decide +kernel
theorem dX7_readNumber_107 : decode cX7_readNumber 107 = .ok (.if_icmp .le 9, 3) := by decide +kernel
theorem dX7_readNumber_110 : decode cX7_readNumber 110 = .ok (.aload_n 0, 1) := by decide +kernel
theorem dX7_readNumber_111 : decode cX7_readNumber 111 = .ok (.iconst 2, 1) := by decide +kernel
theorem dX7_readNumber_112 : decode cX7_readNumber 112 = .ok (.iload_n 3, 1) := by decide +kernel
theorem dX7_readNumber_113 : decode cX7_readNumber 113 = .ok (.invokevirtual 52, 3) := by decide +kernel
theorem dX7_readNumber_116 : decode cX7_readNumber 116 = .ok (.iload 4, 2) := by decide +kernel
theorem dX7_readNumber_118 : decode cX7_readNumber 118 = .ok (.ireturn, 1) := by decide +kernel
set_option maxHeartbeats 4000000 in
set_option maxRecDepth 20000 in
theorem en_X7_readNumber {a1 : Int32} {a2 : Int32} {M : jw_Mem} {Q : Int32 → jw_Mem → Prop}  (h : (jw_M 0 mX7_skipBlanks [vr 7 0] M (fun x1 M2 => jw_J 1 mX7_readNumber 12 [(0, vr 7 0), (1, vi a1), (2, vi a2), (3, vi (M2 7 0 1)), (4, vi 0)] [] M2 Q))) : jw_M 1 mX7_readNumber [vr 7 0, vi a1, vi a2] M Q := by
  refine jw_M.of (by decide) (Nat.le_of_ble_eq_true rfl) ?_
  show jw_J 1 mX7_readNumber 0 [(0, vr 7 0), (1, vi a1), (2, vi a2)] [] M Q
  refine jr_aload_n (pc := 0) dX7_readNumber_0 rfl 0 rfl ?_
  refine jr_callV (pc := 1) (d' := 0) (mt' := mX7_skipBlanks) (k := 7) (n := 0) (As := []) (st := []) fc_X7_38 (by decide) (by decide) (Nat.le_of_ble_eq_true rfl) rfl dX7_readNumber_1 (jw_M.mono h (fun x1 M2 h => ?_))
  show jw_J 1 mX7_readNumber 4 [(0, vr 7 0), (1, vi a1), (2, vi a2)] [] M2 Q
  refine jr_aload_n (pc := 4) dX7_readNumber_4 rfl 0 rfl ?_
  refine jr_get (pc := 5) (v := vi (M2 7 0 1)) fg_X7_32 (by decide) rfl dX7_readNumber_5 ?_
  refine jr_istore_n (pc := 8) (lv' := [(3, vi (M2 7 0 1)), (0, vr 7 0), (1, vi a1), (2, vi a2)]) dX7_readNumber_8 rfl (by decide) rfl ?_
  refine jr_iconst (pc := 9) (v := 0) dX7_readNumber_9 (by decide) ?_
  refine jr_istore (pc := 10) (lv' := [(4, vi 0), (3, vi (M2 7 0 1)), (0, vr 7 0), (1, vi a1), (2, vi a2)]) dX7_readNumber_10 (by decide) rfl ?_
  exact jr_sub [2, 3, 4, 1, 0] rfl h
set_option maxHeartbeats 4000000 in
set_option maxRecDepth 20000 in
theorem bk_X7_readNumber_12 {v1 : Int32} {v2 : Int32} {v3 : Int32} {v4 : Int32} {M : jw_Mem} {Q : Int32 → jw_Mem → Prop}  (h : (((M 7 0 2) ≤ (M 7 0 1) → ((¬ (M 7 0 1) = v3 → ((3 < ((M 7 0 1) - v3) → (jw_M 0 mX7_blame [vr 7 0, vi 2, vi v3] M (fun x3 M4 => Q v4 M4))) ∧ (¬ 3 < ((M 7 0 1) - v3) → ((v4 < v1 → (jw_M 0 mX7_blame [vr 7 0, vi 2, vi v3] M (fun x5 M6 => Q v4 M6))) ∧ (¬ v4 < v1 → ((v4 ≤ v2 → Q v4 M) ∧ (¬ v4 ≤ v2 → (jw_M 0 mX7_blame [vr 7 0, vi 2, vi v3] M (fun x7 M8 => Q v4 M8))))))))) ∧ ((M 7 0 1) = v3 → (jw_M 0 mX7_blame [vr 7 0, vi 1, vi v3] M (fun x9 M10 => Q v4 M10))))) ∧ (¬ (M 7 0 2) ≤ (M 7 0 1) → (jw_M 0 mX7_letter [vr 7 0] M (fun x11 M12 => (jw_M 0 mX7_isFigure [vi x11] M12 (fun x13 M14 => ((x13 = 0 → ((¬ (M14 7 0 1) = v3 → ((3 < ((M14 7 0 1) - v3) → (jw_M 0 mX7_blame [vr 7 0, vi 2, vi v3] M14 (fun x15 M16 => Q v4 M16))) ∧ (¬ 3 < ((M14 7 0 1) - v3) → ((v4 < v1 → (jw_M 0 mX7_blame [vr 7 0, vi 2, vi v3] M14 (fun x17 M18 => Q v4 M18))) ∧ (¬ v4 < v1 → ((v4 ≤ v2 → Q v4 M14) ∧ (¬ v4 ≤ v2 → (jw_M 0 mX7_blame [vr 7 0, vi 2, vi v3] M14 (fun x19 M20 => Q v4 M20))))))))) ∧ ((M14 7 0 1) = v3 → (jw_M 0 mX7_blame [vr 7 0, vi 1, vi v3] M14 (fun x21 M22 => Q v4 M22))))) ∧ (¬ x13 = 0 → ((3 ≤ ((M14 7 0 1) - v3) → (∀ M23 : jw_Mem, M23 = jw_up M14 7 0 1 ((M14 7 0 1) + 1) → jw_J 1 mX7_readNumber 12 [(0, vr 7 0), (1, vi v1), (2, vi v2), (3, vi v3), (4, vi v4)] [] M23 Q)) ∧ (¬ 3 ≤ ((M14 7 0 1) - v3) → (jw_M 0 mX7_letter [vr 7 0] M14 (fun x24 M25 => (∀ M26 : jw_Mem, M26 = jw_up M25 7 0 1 ((M25 7 0 1) + 1) → jw_J 1 mX7_readNumber 12 [(0, vr 7 0), (1, vi v1), (2, vi v2), (3, vi v3), (4, vi (((v4 * 10) + x24) - 48))] [] M26 Q)))))))))))))) : jw_J 1 mX7_readNumber 12 [(0, vr 7 0), (1, vi v1), (2, vi v2), (3, vi v3), (4, vi v4)] [] M Q := by
  refine jr_aload_n (pc := 12) dX7_readNumber_12 rfl 0 rfl ?_
  refine jr_get (pc := 13) (v := vi (M 7 0 1)) fg_X7_32 (by decide) rfl dX7_readNumber_13 ?_
  refine jr_aload_n (pc := 16) dX7_readNumber_16 rfl 0 rfl ?_
  refine jr_get (pc := 17) (v := vi (M 7 0 2)) fg_X7_26 (by decide) rfl dX7_readNumber_17 ?_
  refine jr_icmp_ge (pc := 20) (tgt := 71) dX7_readNumber_20 (by decide) (fun c => ?_) (fun c => ?_)
  · replace h := h.1 c
    refine jr_aload_n (pc := 71) dX7_readNumber_71 rfl 0 rfl ?_
    refine jr_get (pc := 72) (v := vi (M 7 0 1)) fg_X7_32 (by decide) rfl dX7_readNumber_72 ?_
    refine jr_iload_n (pc := 75) dX7_readNumber_75 rfl 3 rfl ?_
    refine jr_icmp_ne (pc := 76) (tgt := 88) dX7_readNumber_76 (by decide) (fun c => ?_) (fun c => ?_)
    · replace h := h.1 c
      refine jr_aload_n (pc := 88) dX7_readNumber_88 rfl 0 rfl ?_
      refine jr_get (pc := 89) (v := vi (M 7 0 1)) fg_X7_32 (by decide) rfl dX7_readNumber_89 ?_
      refine jr_iload_n (pc := 92) dX7_readNumber_92 rfl 3 rfl ?_
      refine jr_isub (pc := 93) dX7_readNumber_93 ?_
      refine jr_iconst (pc := 94) (v := 3) dX7_readNumber_94 (by decide) ?_
      refine jr_icmp_gt (pc := 95) (tgt := 110) dX7_readNumber_95 (by decide) (fun c => ?_) (fun c => ?_)
      · replace h := h.1 c
        refine jr_aload_n (pc := 110) dX7_readNumber_110 rfl 0 rfl ?_
        refine jr_iconst (pc := 111) (v := 2) dX7_readNumber_111 (by decide) ?_
        refine jr_iload_n (pc := 112) dX7_readNumber_112 rfl 3 rfl ?_
        refine jr_callV (pc := 113) (d' := 0) (mt' := mX7_blame) (k := 7) (n := 0) (As := [vi 2, vi v3]) (st := []) fc_X7_52 (by decide) (by decide) (Nat.le_of_ble_eq_true rfl) rfl dX7_readNumber_113 (jw_M.mono h (fun x3 M4 h => ?_))
        show jw_J 1 mX7_readNumber 116 [(0, vr 7 0), (1, vi v1), (2, vi v2), (3, vi v3), (4, vi v4)] [] M4 Q
        refine jr_iload (pc := 116) dX7_readNumber_116 4 rfl ?_
        exact jr_iret (pc := 118) rfl dX7_readNumber_118 h
      · replace h := h.2 c
        refine jr_iload (pc := 98) dX7_readNumber_98 4 rfl ?_
        refine jr_iload_n (pc := 100) dX7_readNumber_100 rfl 1 rfl ?_
        refine jr_icmp_lt (pc := 101) (tgt := 110) dX7_readNumber_101 (by decide) (fun c => ?_) (fun c => ?_)
        · replace h := h.1 c
          refine jr_aload_n (pc := 110) dX7_readNumber_110 rfl 0 rfl ?_
          refine jr_iconst (pc := 111) (v := 2) dX7_readNumber_111 (by decide) ?_
          refine jr_iload_n (pc := 112) dX7_readNumber_112 rfl 3 rfl ?_
          refine jr_callV (pc := 113) (d' := 0) (mt' := mX7_blame) (k := 7) (n := 0) (As := [vi 2, vi v3]) (st := []) fc_X7_52 (by decide) (by decide) (Nat.le_of_ble_eq_true rfl) rfl dX7_readNumber_113 (jw_M.mono h (fun x5 M6 h => ?_))
          show jw_J 1 mX7_readNumber 116 [(0, vr 7 0), (1, vi v1), (2, vi v2), (3, vi v3), (4, vi v4)] [] M6 Q
          refine jr_iload (pc := 116) dX7_readNumber_116 4 rfl ?_
          exact jr_iret (pc := 118) rfl dX7_readNumber_118 h
        · replace h := h.2 c
          refine jr_iload (pc := 104) dX7_readNumber_104 4 rfl ?_
          refine jr_iload_n (pc := 106) dX7_readNumber_106 rfl 2 rfl ?_
          refine jr_icmp_le (pc := 107) (tgt := 116) dX7_readNumber_107 (by decide) (fun c => ?_) (fun c => ?_)
          · replace h := h.1 c
            refine jr_iload (pc := 116) dX7_readNumber_116 4 rfl ?_
            exact jr_iret (pc := 118) rfl dX7_readNumber_118 h
          · replace h := h.2 c
            refine jr_aload_n (pc := 110) dX7_readNumber_110 rfl 0 rfl ?_
            refine jr_iconst (pc := 111) (v := 2) dX7_readNumber_111 (by decide) ?_
            refine jr_iload_n (pc := 112) dX7_readNumber_112 rfl 3 rfl ?_
            refine jr_callV (pc := 113) (d' := 0) (mt' := mX7_blame) (k := 7) (n := 0) (As := [vi 2, vi v3]) (st := []) fc_X7_52 (by decide) (by decide) (Nat.le_of_ble_eq_true rfl) rfl dX7_readNumber_113 (jw_M.mono h (fun x7 M8 h => ?_))
            show jw_J 1 mX7_readNumber 116 [(0, vr 7 0), (1, vi v1), (2, vi v2), (3, vi v3), (4, vi v4)] [] M8 Q
            refine jr_iload (pc := 116) dX7_readNumber_116 4 rfl ?_
            exact jr_iret (pc := 118) rfl dX7_readNumber_118 h
    · replace h := h.2 c
      refine jr_aload_n (pc := 79) dX7_readNumber_79 rfl 0 rfl ?_
      refine jr_iconst (pc := 80) (v := 1) dX7_readNumber_80 (by decide) ?_
      refine jr_iload_n (pc := 81) dX7_readNumber_81 rfl 3 rfl ?_
      refine jr_callV (pc := 82) (d' := 0) (mt' := mX7_blame) (k := 7) (n := 0) (As := [vi 1, vi v3]) (st := []) fc_X7_52 (by decide) (by decide) (Nat.le_of_ble_eq_true rfl) rfl dX7_readNumber_82 (jw_M.mono h (fun x9 M10 h => ?_))
      show jw_J 1 mX7_readNumber 85 [(0, vr 7 0), (1, vi v1), (2, vi v2), (3, vi v3), (4, vi v4)] [] M10 Q
      refine jr_goto (pc := 85) (tgt := 116) dX7_readNumber_85 (by decide) ?_
      refine jr_iload (pc := 116) dX7_readNumber_116 4 rfl ?_
      exact jr_iret (pc := 118) rfl dX7_readNumber_118 h
  · replace h := h.2 c
    refine jr_aload_n (pc := 23) dX7_readNumber_23 rfl 0 rfl ?_
    refine jr_callV (pc := 24) (d' := 0) (mt' := mX7_letter) (k := 7) (n := 0) (As := []) (st := []) fc_X7_44 (by decide) (by decide) (Nat.le_of_ble_eq_true rfl) rfl dX7_readNumber_24 (jw_M.mono h (fun x11 M12 h => ?_))
    show jw_J 1 mX7_readNumber 27 [(0, vr 7 0), (1, vi v1), (2, vi v2), (3, vi v3), (4, vi v4)] [vi x11] M12 Q
    refine jr_callS (pc := 27) (d' := 0) (mt' := mX7_isFigure) (As := [vi x11]) (st := []) fc_X7_108 (by decide) (Nat.le_of_ble_eq_true rfl) rfl dX7_readNumber_27 (jw_M.mono h (fun x13 M14 h => ?_))
    show jw_J 1 mX7_readNumber 30 [(0, vr 7 0), (1, vi v1), (2, vi v2), (3, vi v3), (4, vi v4)] [vi x13] M14 Q
    refine jr_if_eq (pc := 30) (tgt := 71) dX7_readNumber_30 (by decide) (fun c => ?_) (fun c => ?_)
    · replace h := h.1 c
      refine jr_aload_n (pc := 71) dX7_readNumber_71 rfl 0 rfl ?_
      refine jr_get (pc := 72) (v := vi (M14 7 0 1)) fg_X7_32 (by decide) rfl dX7_readNumber_72 ?_
      refine jr_iload_n (pc := 75) dX7_readNumber_75 rfl 3 rfl ?_
      refine jr_icmp_ne (pc := 76) (tgt := 88) dX7_readNumber_76 (by decide) (fun c => ?_) (fun c => ?_)
      · replace h := h.1 c
        refine jr_aload_n (pc := 88) dX7_readNumber_88 rfl 0 rfl ?_
        refine jr_get (pc := 89) (v := vi (M14 7 0 1)) fg_X7_32 (by decide) rfl dX7_readNumber_89 ?_
        refine jr_iload_n (pc := 92) dX7_readNumber_92 rfl 3 rfl ?_
        refine jr_isub (pc := 93) dX7_readNumber_93 ?_
        refine jr_iconst (pc := 94) (v := 3) dX7_readNumber_94 (by decide) ?_
        refine jr_icmp_gt (pc := 95) (tgt := 110) dX7_readNumber_95 (by decide) (fun c => ?_) (fun c => ?_)
        · replace h := h.1 c
          refine jr_aload_n (pc := 110) dX7_readNumber_110 rfl 0 rfl ?_
          refine jr_iconst (pc := 111) (v := 2) dX7_readNumber_111 (by decide) ?_
          refine jr_iload_n (pc := 112) dX7_readNumber_112 rfl 3 rfl ?_
          refine jr_callV (pc := 113) (d' := 0) (mt' := mX7_blame) (k := 7) (n := 0) (As := [vi 2, vi v3]) (st := []) fc_X7_52 (by decide) (by decide) (Nat.le_of_ble_eq_true rfl) rfl dX7_readNumber_113 (jw_M.mono h (fun x15 M16 h => ?_))
          show jw_J 1 mX7_readNumber 116 [(0, vr 7 0), (1, vi v1), (2, vi v2), (3, vi v3), (4, vi v4)] [] M16 Q
          refine jr_iload (pc := 116) dX7_readNumber_116 4 rfl ?_
          exact jr_iret (pc := 118) rfl dX7_readNumber_118 h
        · replace h := h.2 c
          refine jr_iload (pc := 98) dX7_readNumber_98 4 rfl ?_
          refine jr_iload_n (pc := 100) dX7_readNumber_100 rfl 1 rfl ?_
          refine jr_icmp_lt (pc := 101) (tgt := 110) dX7_readNumber_101 (by decide) (fun c => ?_) (fun c => ?_)
          · replace h := h.1 c
            refine jr_aload_n (pc := 110) dX7_readNumber_110 rfl 0 rfl ?_
            refine jr_iconst (pc := 111) (v := 2) dX7_readNumber_111 (by decide) ?_
            refine jr_iload_n (pc := 112) dX7_readNumber_112 rfl 3 rfl ?_
            refine jr_callV (pc := 113) (d' := 0) (mt' := mX7_blame) (k := 7) (n := 0) (As := [vi 2, vi v3]) (st := []) fc_X7_52 (by decide) (by decide) (Nat.le_of_ble_eq_true rfl) rfl dX7_readNumber_113 (jw_M.mono h (fun x17 M18 h => ?_))
            show jw_J 1 mX7_readNumber 116 [(0, vr 7 0), (1, vi v1), (2, vi v2), (3, vi v3), (4, vi v4)] [] M18 Q
            refine jr_iload (pc := 116) dX7_readNumber_116 4 rfl ?_
            exact jr_iret (pc := 118) rfl dX7_readNumber_118 h
          · replace h := h.2 c
            refine jr_iload (pc := 104) dX7_readNumber_104 4 rfl ?_
            refine jr_iload_n (pc := 106) dX7_readNumber_106 rfl 2 rfl ?_
            refine jr_icmp_le (pc := 107) (tgt := 116) dX7_readNumber_107 (by decide) (fun c => ?_) (fun c => ?_)
            · replace h := h.1 c
              refine jr_iload (pc := 116) dX7_readNumber_116 4 rfl ?_
              exact jr_iret (pc := 118) rfl dX7_readNumber_118 h
            · replace h := h.2 c
              refine jr_aload_n (pc := 110) dX7_readNumber_110 rfl 0 rfl ?_
              refine jr_iconst (pc := 111) (v := 2) dX7_readNumber_111 (by decide) ?_
              refine jr_iload_n (pc := 112) dX7_readNumber_112 rfl 3 rfl ?_
              refine jr_callV (pc := 113) (d' := 0) (mt' := mX7_blame) (k := 7) (n := 0) (As := [vi 2, vi v3]) (st := []) fc_X7_52 (by decide) (by decide) (Nat.le_of_ble_eq_true rfl) rfl dX7_readNumber_113 (jw_M.mono h (fun x19 M20 h => ?_))
              show jw_J 1 mX7_readNumber 116 [(0, vr 7 0), (1, vi v1), (2, vi v2), (3, vi v3), (4, vi v4)] [] M20 Q
              refine jr_iload (pc := 116) dX7_readNumber_116 4 rfl ?_
              exact jr_iret (pc := 118) rfl dX7_readNumber_118 h
      · replace h := h.2 c
        refine jr_aload_n (pc := 79) dX7_readNumber_79 rfl 0 rfl ?_
        refine jr_iconst (pc := 80) (v := 1) dX7_readNumber_80 (by decide) ?_
        refine jr_iload_n (pc := 81) dX7_readNumber_81 rfl 3 rfl ?_
        refine jr_callV (pc := 82) (d' := 0) (mt' := mX7_blame) (k := 7) (n := 0) (As := [vi 1, vi v3]) (st := []) fc_X7_52 (by decide) (by decide) (Nat.le_of_ble_eq_true rfl) rfl dX7_readNumber_82 (jw_M.mono h (fun x21 M22 h => ?_))
        show jw_J 1 mX7_readNumber 85 [(0, vr 7 0), (1, vi v1), (2, vi v2), (3, vi v3), (4, vi v4)] [] M22 Q
        refine jr_goto (pc := 85) (tgt := 116) dX7_readNumber_85 (by decide) ?_
        refine jr_iload (pc := 116) dX7_readNumber_116 4 rfl ?_
        exact jr_iret (pc := 118) rfl dX7_readNumber_118 h
    · replace h := h.2 c
      refine jr_aload_n (pc := 33) dX7_readNumber_33 rfl 0 rfl ?_
      refine jr_get (pc := 34) (v := vi (M14 7 0 1)) fg_X7_32 (by decide) rfl dX7_readNumber_34 ?_
      refine jr_iload_n (pc := 37) dX7_readNumber_37 rfl 3 rfl ?_
      refine jr_isub (pc := 38) dX7_readNumber_38 ?_
      refine jr_iconst (pc := 39) (v := 3) dX7_readNumber_39 (by decide) ?_
      refine jr_icmp_ge (pc := 40) (tgt := 58) dX7_readNumber_40 (by decide) (fun c => ?_) (fun c => ?_)
      · replace h := h.1 c
        refine jr_aload_n (pc := 58) dX7_readNumber_58 rfl 0 rfl ?_
        refine jr_dup_r (pc := 59) dX7_readNumber_59 ?_
        refine jr_get (pc := 60) (v := vi (M14 7 0 1)) fg_X7_32 (by decide) rfl dX7_readNumber_60 ?_
        refine jr_iconst (pc := 63) (v := 1) dX7_readNumber_63 (by decide) ?_
        refine jr_iadd (pc := 64) dX7_readNumber_64 ?_
        refine jr_put (pc := 65) fp_X7_32 (by decide) (Or.inl ⟨_, _, _, rfl, by decide +kernel⟩) dX7_readNumber_65 ?_
        replace h := h _ rfl
        generalize jw_up M14 7 0 1 ((M14 7 0 1) + 1) = M23 at h ⊢
        refine jr_goto (pc := 68) (tgt := 12) dX7_readNumber_68 (by decide) ?_
        exact jr_sub [0, 1, 2, 3, 4] rfl h
      · replace h := h.2 c
        refine jr_iload (pc := 43) dX7_readNumber_43 4 rfl ?_
        refine jr_bipush (pc := 45) (v := 10) dX7_readNumber_45 (by decide) ?_
        refine jr_imul (pc := 47) dX7_readNumber_47 ?_
        refine jr_aload_n (pc := 48) dX7_readNumber_48 rfl 0 rfl ?_
        refine jr_callV (pc := 49) (d' := 0) (mt' := mX7_letter) (k := 7) (n := 0) (As := []) (st := [vi (v4 * 10)]) fc_X7_44 (by decide) (by decide) (Nat.le_of_ble_eq_true rfl) rfl dX7_readNumber_49 (jw_M.mono h (fun x24 M25 h => ?_))
        show jw_J 1 mX7_readNumber 52 [(0, vr 7 0), (1, vi v1), (2, vi v2), (3, vi v3), (4, vi v4)] [vi x24, vi (v4 * 10)] M25 Q
        refine jr_iadd (pc := 52) dX7_readNumber_52 ?_
        refine jr_bipush (pc := 53) (v := 48) dX7_readNumber_53 (by decide) ?_
        refine jr_isub (pc := 55) dX7_readNumber_55 ?_
        refine jr_istore (pc := 56) (lv' := [(4, vi (((v4 * 10) + x24) - 48)), (0, vr 7 0), (1, vi v1), (2, vi v2), (3, vi v3)]) dX7_readNumber_56 (by decide) rfl ?_
        refine jr_aload_n (pc := 58) dX7_readNumber_58 rfl 1 rfl ?_
        refine jr_dup_r (pc := 59) dX7_readNumber_59 ?_
        refine jr_get (pc := 60) (v := vi (M25 7 0 1)) fg_X7_32 (by decide) rfl dX7_readNumber_60 ?_
        refine jr_iconst (pc := 63) (v := 1) dX7_readNumber_63 (by decide) ?_
        refine jr_iadd (pc := 64) dX7_readNumber_64 ?_
        refine jr_put (pc := 65) fp_X7_32 (by decide) (Or.inl ⟨_, _, _, rfl, by decide +kernel⟩) dX7_readNumber_65 ?_
        replace h := h _ rfl
        generalize jw_up M25 7 0 1 ((M25 7 0 1) + 1) = M26 at h ⊢
        refine jr_goto (pc := 68) (tgt := 12) dX7_readNumber_68 (by decide) ?_
        exact jr_sub [1, 2, 3, 4, 0] rfl h
theorem dX7_readSemicolon_0 : decode cX7_readSemicolon 0 = .ok (.aload_n 0, 1) := by decide +kernel
theorem dX7_readSemicolon_1 : decode cX7_readSemicolon 1 = .ok (.invokevirtual 38, 3) := by decide +kernel
theorem dX7_readSemicolon_4 : decode cX7_readSemicolon 4 = .ok (.aload_n 0, 1) := by decide +kernel
theorem dX7_readSemicolon_5 : decode cX7_readSemicolon 5 = .ok (.invokevirtual 44, 3) := by decide +kernel
theorem dX7_readSemicolon_8 : decode cX7_readSemicolon 8 = .ok (.bipush 59, 2) := by decide +kernel
theorem dX7_readSemicolon_10 : decode cX7_readSemicolon 10 = .ok (.if_icmp .ne 16, 3) := by decide +kernel
theorem dX7_readSemicolon_13 : decode cX7_readSemicolon 13 = .ok (.aload_n 0, 1) := by decide +kernel
theorem dX7_readSemicolon_14 : decode cX7_readSemicolon 14 = .ok (.dup, 1) := by decide +kernel
theorem dX7_readSemicolon_15 : decode cX7_readSemicolon 15 = .ok (.getfield 32, 3) := by decide +kernel
theorem dX7_readSemicolon_18 : decode cX7_readSemicolon 18 = .ok (.iconst 1, 1) := by decide +kernel
theorem dX7_readSemicolon_19 : decode cX7_readSemicolon 19 = .ok (.iadd, 1) := by decide +kernel
theorem dX7_readSemicolon_20 : decode cX7_readSemicolon 20 = .ok (.putfield 32, 3) := by decide +kernel
theorem dX7_readSemicolon_23 : decode cX7_readSemicolon 23 = .ok (.goto 12, 3) := by decide +kernel
theorem dX7_readSemicolon_26 : decode cX7_readSemicolon 26 = .ok (.aload_n 0, 1) := by decide +kernel
theorem dX7_readSemicolon_27 : decode cX7_readSemicolon 27 = .ok (.iconst 1, 1) := by decide +kernel
theorem dX7_readSemicolon_28 : decode cX7_readSemicolon 28 = .ok (.aload_n 0, 1) := by decide +kernel
theorem dX7_readSemicolon_29 : decode cX7_readSemicolon 29 = .ok (.getfield 32, 3) := by decide +kernel
theorem dX7_readSemicolon_32 : decode cX7_readSemicolon 32 = .ok (.invokevirtual 52, 3) := by decide +kernel
theorem dX7_readSemicolon_35 : decode cX7_readSemicolon 35 = .ok (.return_, 1) := by decide +kernel
set_option maxHeartbeats 4000000 in
set_option maxRecDepth 20000 in
theorem en_X7_readSemicolon {M : jw_Mem} {Q : Int32 → jw_Mem → Prop}  (h : (jw_M 0 mX7_skipBlanks [vr 7 0] M (fun x1 M2 => (jw_M 0 mX7_letter [vr 7 0] M2 (fun x3 M4 => ((¬ x3 = 59 → (jw_M 0 mX7_blame [vr 7 0, vi 1, vi (M4 7 0 1)] M4 (fun x5 M6 => Q 0 M6))) ∧ (x3 = 59 → (∀ M7 : jw_Mem, M7 = jw_up M4 7 0 1 ((M4 7 0 1) + 1) → Q 0 M7)))))))) : jw_M 1 mX7_readSemicolon [vr 7 0] M Q := by
  refine jw_M.of (by decide) (Nat.le_of_ble_eq_true rfl) ?_
  show jw_J 1 mX7_readSemicolon 0 [(0, vr 7 0)] [] M Q
  refine jr_aload_n (pc := 0) dX7_readSemicolon_0 rfl 0 rfl ?_
  refine jr_callV (pc := 1) (d' := 0) (mt' := mX7_skipBlanks) (k := 7) (n := 0) (As := []) (st := []) fc_X7_38 (by decide) (by decide) (Nat.le_of_ble_eq_true rfl) rfl dX7_readSemicolon_1 (jw_M.mono h (fun x1 M2 h => ?_))
  show jw_J 1 mX7_readSemicolon 4 [(0, vr 7 0)] [] M2 Q
  refine jr_aload_n (pc := 4) dX7_readSemicolon_4 rfl 0 rfl ?_
  refine jr_callV (pc := 5) (d' := 0) (mt' := mX7_letter) (k := 7) (n := 0) (As := []) (st := []) fc_X7_44 (by decide) (by decide) (Nat.le_of_ble_eq_true rfl) rfl dX7_readSemicolon_5 (jw_M.mono h (fun x3 M4 h => ?_))
  show jw_J 1 mX7_readSemicolon 8 [(0, vr 7 0)] [vi x3] M4 Q
  refine jr_bipush (pc := 8) (v := 59) dX7_readSemicolon_8 (by decide) ?_
  refine jr_icmp_ne (pc := 10) (tgt := 26) dX7_readSemicolon_10 (by decide) (fun c => ?_) (fun c => ?_)
  · replace h := h.1 c
    refine jr_aload_n (pc := 26) dX7_readSemicolon_26 rfl 0 rfl ?_
    refine jr_iconst (pc := 27) (v := 1) dX7_readSemicolon_27 (by decide) ?_
    refine jr_aload_n (pc := 28) dX7_readSemicolon_28 rfl 0 rfl ?_
    refine jr_get (pc := 29) (v := vi (M4 7 0 1)) fg_X7_32 (by decide) rfl dX7_readSemicolon_29 ?_
    refine jr_callV (pc := 32) (d' := 0) (mt' := mX7_blame) (k := 7) (n := 0) (As := [vi 1, vi (M4 7 0 1)]) (st := []) fc_X7_52 (by decide) (by decide) (Nat.le_of_ble_eq_true rfl) rfl dX7_readSemicolon_32 (jw_M.mono h (fun x5 M6 h => ?_))
    show jw_J 1 mX7_readSemicolon 35 [(0, vr 7 0)] [] M6 Q
    exact jr_vret (pc := 35) rfl dX7_readSemicolon_35 h
  · replace h := h.2 c
    refine jr_aload_n (pc := 13) dX7_readSemicolon_13 rfl 0 rfl ?_
    refine jr_dup_r (pc := 14) dX7_readSemicolon_14 ?_
    refine jr_get (pc := 15) (v := vi (M4 7 0 1)) fg_X7_32 (by decide) rfl dX7_readSemicolon_15 ?_
    refine jr_iconst (pc := 18) (v := 1) dX7_readSemicolon_18 (by decide) ?_
    refine jr_iadd (pc := 19) dX7_readSemicolon_19 ?_
    refine jr_put (pc := 20) fp_X7_32 (by decide) (Or.inl ⟨_, _, _, rfl, by decide +kernel⟩) dX7_readSemicolon_20 ?_
    replace h := h _ rfl
    generalize jw_up M4 7 0 1 ((M4 7 0 1) + 1) = M7 at h ⊢
    refine jr_goto (pc := 23) (tgt := 35) dX7_readSemicolon_23 (by decide) ?_
    exact jr_vret (pc := 35) rfl dX7_readSemicolon_35 h
