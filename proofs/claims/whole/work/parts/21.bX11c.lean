theorem dX11_elect_0 : decode cX11_elect 0 = .ok (.aload_n 0, 1) := by decide +kernel
theorem dX11_elect_1 : decode cX11_elect 1 = .ok (.invokevirtual 229, 3) := by decide +kernel
theorem dX11_elect_4 : decode cX11_elect 4 = .ok (.istore_n 1, 1) := by decide +kernel
theorem dX11_elect_5 : decode cX11_elect 5 = .ok (.iconst 0, 1) := by decide +kernel
theorem dX11_elect_6 : decode cX11_elect 6 = .ok (.istore_n 2, 1) := by decide +kernel
theorem dX11_elect_7 : decode cX11_elect 7 = .ok (.iload_n 2, 1) := by decide +kernel
theorem dX11_elect_8 : decode cX11_elect 8 = .ok (.aload_n 0, 1) := by decide +kernel
theorem dX11_elect_9 : decode cX11_elect 9 = .ok (.getfield 103, 3) := by decide +kernel
theorem dX11_elect_12 : decode cX11_elect 12 = .ok (.if_icmp .ge 66, 3) := by decide +kernel
theorem dX11_elect_15 : decode cX11_elect 15 = .ok (.aload_n 0, 1) := by decide +kernel
theorem dX11_elect_16 : decode cX11_elect 16 = .ok (.getfield 31, 3) := by decide +kernel
theorem dX11_elect_19 : decode cX11_elect 19 = .ok (.bipush 12, 2) := by decide +kernel
theorem dX11_elect_21 : decode cX11_elect 21 = .ok (.iload_n 2, 1) := by decide +kernel
theorem dX11_elect_22 : decode cX11_elect 22 = .ok (.iadd, 1) := by decide +kernel
theorem dX11_elect_23 : decode cX11_elect 23 = .ok (.dup2, 1) := by decide +kernel
theorem dX11_elect_24 : decode cX11_elect 24 = .ok (.iaload, 1) := by decide +kernel
theorem dX11_elect_25 : decode cX11_elect 25 = .ok (.aload_n 0, 1) := by decide +kernel
theorem dX11_elect_26 : decode cX11_elect 26 = .ok (.iload_n 2, 1) := by decide +kernel
theorem dX11_elect_27 : decode cX11_elect 27 = .ok (.invokevirtual 211, 3) := by decide +kernel
theorem dX11_elect_30 : decode cX11_elect 30 = .ok (.ifCond .eq 15, 3) := by decide +kernel
theorem dX11_elect_33 : decode cX11_elect 33 = .ok (.iload_n 1, 1) := by decide +kernel
theorem dX11_elect_34 : decode cX11_elect 34 = .ok (.iload_n 2, 1) := by decide +kernel
theorem dX11_elect_35 : decode cX11_elect 35 = .ok (.invokestatic 195, 3) := by decide +kernel
theorem dX11_elect_38 : decode cX11_elect 38 = .ok (.ifCond .ne 7, 3) := by decide +kernel
theorem dX11_elect_41 : decode cX11_elect 41 = .ok (.iconst 1, 1) := by decide +kernel
theorem dX11_elect_42 : decode cX11_elect 42 = .ok (.goto 4, 3) := by decide +kernel
theorem dX11_elect_45 : decode cX11_elect 45 = .ok (.iconst 0, 1) := by decide +kernel
theorem dX11_elect_46 : decode cX11_elect 46 = .ok (.iadd, 1) := by decide +kernel
theorem dX11_elect_47 : decode cX11_elect 47 = .ok (.iastore, 1) := by decide +kernel
theorem dX11_elect_48 : decode cX11_elect 48 = .ok (.aload_n 0, 1) := by decide +kernel
theorem dX11_elect_49 : decode cX11_elect 49 = .ok (.getfield 31, 3) := by decide +kernel
theorem dX11_elect_52 : decode cX11_elect 52 = .ok (.iload_n 2, 1) := by decide +kernel
theorem dX11_elect_53 : decode cX11_elect 53 = .ok (.iload_n 1, 1) := by decide +kernel
theorem dX11_elect_54 : decode cX11_elect 54 = .ok (.iload_n 2, 1) := by decide +kernel
theorem dX11_elect_55 : decode cX11_elect 55 = .ok (.invokestatic 195, 3) := by decide +kernel
theorem dX11_elect_58 : decode cX11_elect 58 = .ok (.ifCond .eq 7, 3) := by decide +kernel
theorem dX11_elect_61 : decode cX11_elect 61 = .ok (.iconst (-1), 1) := by decide +kernel
theorem dX11_elect_62 : decode cX11_elect 62 = .ok (.goto 9, 3) := by decide +kernel
theorem dX11_elect_65 : decode cX11_elect 65 = .ok (.aload_n 0, 1) := by decide +kernel
theorem dX11_elect_66 : decode cX11_elect 66 = .ok (.getfield 31, 3) := by decide +kernel
theorem dX11_elect_69 : decode cX11_elect 69 = .ok (.iload_n 2, 1) := by decide +kernel
theorem dX11_elect_70 : decode cX11_elect 70 = .ok (.iaload, 1) := by decide +kernel
theorem dX11_elect_71 : decode cX11_elect 71 = .ok (.iastore, 1) := by decide +kernel
theorem dX11_elect_72 : decode cX11_elect 72 = .ok (.iinc 2 1, 3) := by decide +kernel
theorem dX11_elect_75 : decode cX11_elect 75 = .ok (.goto (-68), 3) := by decide +kernel
theorem dX11_elect_78 : decode cX11_elect 78 = .ok (.return_, 1) := by decide +kernel
set_option maxHeartbeats 4000000 in
set_option maxRecDepth 20000 in
theorem en_X11_elect {M : jw_Mem} {Q : Int32 → jw_Mem → Prop}  (h : (jw_M 4 mX11_fallingOnes [vr 11 0] M (fun x1 M2 => jw_J 5 mX11_elect 7 [(0, vr 11 0), (1, vi x1), (2, vi 0)] [] M2 Q))) : jw_M 5 mX11_elect [vr 11 0] M Q := by
  refine jw_M.of (by decide) (Nat.le_of_ble_eq_true rfl) ?_
  show jw_J 5 mX11_elect 0 [(0, vr 11 0)] [] M Q
  refine jr_aload_n (pc := 0) dX11_elect_0 rfl 0 rfl ?_
  refine jr_callV (pc := 1) (d' := 4) (mt' := mX11_fallingOnes) (k := 11) (n := 0) (As := []) (st := []) fc_X11_229 (by decide) (by decide) (Nat.le_of_ble_eq_true rfl) rfl dX11_elect_1 (jw_M.mono h (fun x1 M2 h => ?_))
  show jw_J 5 mX11_elect 4 [(0, vr 11 0)] [vi x1] M2 Q
  refine jr_istore_n (pc := 4) (lv' := [(1, vi x1), (0, vr 11 0)]) dX11_elect_4 rfl (by decide) rfl ?_
  refine jr_iconst (pc := 5) (v := 0) dX11_elect_5 (by decide) ?_
  refine jr_istore_n (pc := 6) (lv' := [(2, vi 0), (1, vi x1), (0, vr 11 0)]) dX11_elect_6 rfl (by decide) rfl ?_
  exact jr_sub [2, 1, 0] rfl h
set_option maxHeartbeats 4000000 in
set_option maxRecDepth 20000 in
theorem bk_X11_elect_7 {v1 : Int32} {v2 : Int32} {M : jw_Mem} {Q : Int32 → jw_Mem → Prop}  (h : (((M 11 0 3) ≤ v2 → Q 0 M) ∧ (¬ (M 11 0 3) ≤ v2 → (vp_in (12 + v2) 33 ∧ (jw_M 0 mX11_stands [vr 11 0, vi v2] M (fun x3 M4 => ((x3 = 0 → (vp_in (12 + v2) 33 ∧ (∀ M5 : jw_Mem, M5 = jw_up M4 43 0 ((12 + v2) : Int32).toNatClampNeg ((M 43 0 ((12 + v2) : Int32).toNatClampNeg) + 0) → (jw_M 0 mX11_has [vi v1, vi v2] M5 (fun x6 M7 => ((x6 = 0 → (vp_in v2 33 ∧ (vp_in v2 33 ∧ (∀ M8 : jw_Mem, M8 = jw_up M7 43 0 v2.toNatClampNeg (M7 43 0 v2.toNatClampNeg) → jw_J 5 mX11_elect 7 [(0, vr 11 0), (1, vi v1), (2, vi (v2 + 1))] [] M8 Q)))) ∧ (¬ x6 = 0 → (vp_in v2 33 ∧ (∀ M9 : jw_Mem, M9 = jw_up M7 43 0 v2.toNatClampNeg (-1) → jw_J 5 mX11_elect 7 [(0, vr 11 0), (1, vi v1), (2, vi (v2 + 1))] [] M9 Q))))))))) ∧ (¬ x3 = 0 → (jw_M 0 mX11_has [vi v1, vi v2] M4 (fun x10 M11 => ((¬ x10 = 0 → (vp_in (12 + v2) 33 ∧ (∀ M12 : jw_Mem, M12 = jw_up M11 43 0 ((12 + v2) : Int32).toNatClampNeg ((M 43 0 ((12 + v2) : Int32).toNatClampNeg) + 0) → (jw_M 0 mX11_has [vi v1, vi v2] M12 (fun x13 M14 => ((x13 = 0 → (vp_in v2 33 ∧ (vp_in v2 33 ∧ (∀ M15 : jw_Mem, M15 = jw_up M14 43 0 v2.toNatClampNeg (M14 43 0 v2.toNatClampNeg) → jw_J 5 mX11_elect 7 [(0, vr 11 0), (1, vi v1), (2, vi (v2 + 1))] [] M15 Q)))) ∧ (¬ x13 = 0 → (vp_in v2 33 ∧ (∀ M16 : jw_Mem, M16 = jw_up M14 43 0 v2.toNatClampNeg (-1) → jw_J 5 mX11_elect 7 [(0, vr 11 0), (1, vi v1), (2, vi (v2 + 1))] [] M16 Q))))))))) ∧ (x10 = 0 → (vp_in (12 + v2) 33 ∧ (∀ M17 : jw_Mem, M17 = jw_up M11 43 0 ((12 + v2) : Int32).toNatClampNeg ((M 43 0 ((12 + v2) : Int32).toNatClampNeg) + 1) → (jw_M 0 mX11_has [vi v1, vi v2] M17 (fun x18 M19 => ((x18 = 0 → (vp_in v2 33 ∧ (vp_in v2 33 ∧ (∀ M20 : jw_Mem, M20 = jw_up M19 43 0 v2.toNatClampNeg (M19 43 0 v2.toNatClampNeg) → jw_J 5 mX11_elect 7 [(0, vr 11 0), (1, vi v1), (2, vi (v2 + 1))] [] M20 Q)))) ∧ (¬ x18 = 0 → (vp_in v2 33 ∧ (∀ M21 : jw_Mem, M21 = jw_up M19 43 0 v2.toNatClampNeg (-1) → jw_J 5 mX11_elect 7 [(0, vr 11 0), (1, vi v1), (2, vi (v2 + 1))] [] M21 Q)))))))))))))))))))) : jw_J 5 mX11_elect 7 [(0, vr 11 0), (1, vi v1), (2, vi v2)] [] M Q := by
  refine jr_iload_n (pc := 7) dX11_elect_7 rfl 2 rfl ?_
  refine jr_aload_n (pc := 8) dX11_elect_8 rfl 0 rfl ?_
  refine jr_get (pc := 9) (v := vi (M 11 0 3)) fg_X11_103 (by decide) rfl dX11_elect_9 ?_
  refine jr_icmp_ge (pc := 12) (tgt := 78) dX11_elect_12 (by decide) (fun c => ?_) (fun c => ?_)
  · replace h := h.1 c
    exact jr_vret (pc := 78) rfl dX11_elect_78 h
  · replace h := h.2 c
    refine jr_aload_n (pc := 15) dX11_elect_15 rfl 0 rfl ?_
    refine jr_get (pc := 16) (v := vr 43 0) fg_X11_31 (by decide) rfl dX11_elect_16 ?_
    refine jr_bipush (pc := 19) (v := 12) dX11_elect_19 (by decide) ?_
    refine jr_iload_n (pc := 21) dX11_elect_21 rfl 2 rfl ?_
    refine jr_iadd (pc := 22) dX11_elect_22 ?_
    refine jr_dup2 (pc := 23) dX11_elect_23 ?_
    refine jr_iald (pc := 24) ⟨rfl, (by decide)⟩ h.1 dX11_elect_24 ?_
    replace h := h.2
    refine jr_aload_n (pc := 25) dX11_elect_25 rfl 0 rfl ?_
    refine jr_iload_n (pc := 26) dX11_elect_26 rfl 2 rfl ?_
    refine jr_callV (pc := 27) (d' := 0) (mt' := mX11_stands) (k := 11) (n := 0) (As := [vi v2]) (st := [vi (M 43 0 ((12 + v2) : Int32).toNatClampNeg), vi (12 + v2), vr 43 0]) fc_X11_211 (by decide) (by decide) (Nat.le_of_ble_eq_true rfl) rfl dX11_elect_27 (jw_M.mono h (fun x3 M4 h => ?_))
    show jw_J 5 mX11_elect 30 [(0, vr 11 0), (1, vi v1), (2, vi v2)] [vi x3, vi (M 43 0 ((12 + v2) : Int32).toNatClampNeg), vi (12 + v2), vr 43 0] M4 Q
    refine jr_if_eq (pc := 30) (tgt := 45) dX11_elect_30 (by decide) (fun c => ?_) (fun c => ?_)
    · replace h := h.1 c
      refine jr_iconst (pc := 45) (v := 0) dX11_elect_45 (by decide) ?_
      refine jr_iadd (pc := 46) dX11_elect_46 ?_
      refine jr_iast (pc := 47) ⟨rfl, (by decide)⟩ h.1 dX11_elect_47 ?_
      replace h := h.2
      replace h := h _ rfl
      generalize jw_up M4 43 0 ((12 + v2) : Int32).toNatClampNeg ((M 43 0 ((12 + v2) : Int32).toNatClampNeg) + 0) = M5 at h ⊢
      refine jr_aload_n (pc := 48) dX11_elect_48 rfl 0 rfl ?_
      refine jr_get (pc := 49) (v := vr 43 0) fg_X11_31 (by decide) rfl dX11_elect_49 ?_
      refine jr_iload_n (pc := 52) dX11_elect_52 rfl 2 rfl ?_
      refine jr_iload_n (pc := 53) dX11_elect_53 rfl 1 rfl ?_
      refine jr_iload_n (pc := 54) dX11_elect_54 rfl 2 rfl ?_
      refine jr_callS (pc := 55) (d' := 0) (mt' := mX11_has) (As := [vi v1, vi v2]) (st := [vi v2, vr 43 0]) fc_X11_195 (by decide) (Nat.le_of_ble_eq_true rfl) rfl dX11_elect_55 (jw_M.mono h (fun x6 M7 h => ?_))
      show jw_J 5 mX11_elect 58 [(0, vr 11 0), (1, vi v1), (2, vi v2)] [vi x6, vi v2, vr 43 0] M7 Q
      refine jr_if_eq (pc := 58) (tgt := 65) dX11_elect_58 (by decide) (fun c => ?_) (fun c => ?_)
      · replace h := h.1 c
        refine jr_aload_n (pc := 65) dX11_elect_65 rfl 0 rfl ?_
        refine jr_get (pc := 66) (v := vr 43 0) fg_X11_31 (by decide) rfl dX11_elect_66 ?_
        refine jr_iload_n (pc := 69) dX11_elect_69 rfl 2 rfl ?_
        refine jr_iald (pc := 70) ⟨rfl, (by decide)⟩ h.1 dX11_elect_70 ?_
        replace h := h.2
        refine jr_iast (pc := 71) ⟨rfl, (by decide)⟩ h.1 dX11_elect_71 ?_
        replace h := h.2
        replace h := h _ rfl
        generalize jw_up M7 43 0 v2.toNatClampNeg (M7 43 0 v2.toNatClampNeg) = M8 at h ⊢
        refine jr_iinc (pc := 72) (lv' := [(2, vi (v2 + 1)), (0, vr 11 0), (1, vi v1)]) (q := 2) dX11_elect_72 rfl (by rfl) (by decide) rfl ?_
        refine jr_goto (pc := 75) (tgt := 7) dX11_elect_75 (by decide) ?_
        exact jr_sub [1, 2, 0] rfl h
      · replace h := h.2 c
        refine jr_iconst (pc := 61) (v := (-1)) dX11_elect_61 (by decide) ?_
        refine jr_goto (pc := 62) (tgt := 71) dX11_elect_62 (by decide) ?_
        refine jr_iast (pc := 71) ⟨rfl, (by decide)⟩ h.1 dX11_elect_71 ?_
        replace h := h.2
        replace h := h _ rfl
        generalize jw_up M7 43 0 v2.toNatClampNeg (-1) = M9 at h ⊢
        refine jr_iinc (pc := 72) (lv' := [(2, vi (v2 + 1)), (0, vr 11 0), (1, vi v1)]) (q := 2) dX11_elect_72 rfl (by rfl) (by decide) rfl ?_
        refine jr_goto (pc := 75) (tgt := 7) dX11_elect_75 (by decide) ?_
        exact jr_sub [1, 2, 0] rfl h
    · replace h := h.2 c
      refine jr_iload_n (pc := 33) dX11_elect_33 rfl 1 rfl ?_
      refine jr_iload_n (pc := 34) dX11_elect_34 rfl 2 rfl ?_
      refine jr_callS (pc := 35) (d' := 0) (mt' := mX11_has) (As := [vi v1, vi v2]) (st := [vi (M 43 0 ((12 + v2) : Int32).toNatClampNeg), vi (12 + v2), vr 43 0]) fc_X11_195 (by decide) (Nat.le_of_ble_eq_true rfl) rfl dX11_elect_35 (jw_M.mono h (fun x10 M11 h => ?_))
      show jw_J 5 mX11_elect 38 [(0, vr 11 0), (1, vi v1), (2, vi v2)] [vi x10, vi (M 43 0 ((12 + v2) : Int32).toNatClampNeg), vi (12 + v2), vr 43 0] M11 Q
      refine jr_if_ne (pc := 38) (tgt := 45) dX11_elect_38 (by decide) (fun c => ?_) (fun c => ?_)
      · replace h := h.1 c
        refine jr_iconst (pc := 45) (v := 0) dX11_elect_45 (by decide) ?_
        refine jr_iadd (pc := 46) dX11_elect_46 ?_
        refine jr_iast (pc := 47) ⟨rfl, (by decide)⟩ h.1 dX11_elect_47 ?_
        replace h := h.2
        replace h := h _ rfl
        generalize jw_up M11 43 0 ((12 + v2) : Int32).toNatClampNeg ((M 43 0 ((12 + v2) : Int32).toNatClampNeg) + 0) = M12 at h ⊢
        refine jr_aload_n (pc := 48) dX11_elect_48 rfl 0 rfl ?_
        refine jr_get (pc := 49) (v := vr 43 0) fg_X11_31 (by decide) rfl dX11_elect_49 ?_
        refine jr_iload_n (pc := 52) dX11_elect_52 rfl 2 rfl ?_
        refine jr_iload_n (pc := 53) dX11_elect_53 rfl 1 rfl ?_
        refine jr_iload_n (pc := 54) dX11_elect_54 rfl 2 rfl ?_
        refine jr_callS (pc := 55) (d' := 0) (mt' := mX11_has) (As := [vi v1, vi v2]) (st := [vi v2, vr 43 0]) fc_X11_195 (by decide) (Nat.le_of_ble_eq_true rfl) rfl dX11_elect_55 (jw_M.mono h (fun x13 M14 h => ?_))
        show jw_J 5 mX11_elect 58 [(0, vr 11 0), (1, vi v1), (2, vi v2)] [vi x13, vi v2, vr 43 0] M14 Q
        refine jr_if_eq (pc := 58) (tgt := 65) dX11_elect_58 (by decide) (fun c => ?_) (fun c => ?_)
        · replace h := h.1 c
          refine jr_aload_n (pc := 65) dX11_elect_65 rfl 0 rfl ?_
          refine jr_get (pc := 66) (v := vr 43 0) fg_X11_31 (by decide) rfl dX11_elect_66 ?_
          refine jr_iload_n (pc := 69) dX11_elect_69 rfl 2 rfl ?_
          refine jr_iald (pc := 70) ⟨rfl, (by decide)⟩ h.1 dX11_elect_70 ?_
          replace h := h.2
          refine jr_iast (pc := 71) ⟨rfl, (by decide)⟩ h.1 dX11_elect_71 ?_
          replace h := h.2
          replace h := h _ rfl
          generalize jw_up M14 43 0 v2.toNatClampNeg (M14 43 0 v2.toNatClampNeg) = M15 at h ⊢
          refine jr_iinc (pc := 72) (lv' := [(2, vi (v2 + 1)), (0, vr 11 0), (1, vi v1)]) (q := 2) dX11_elect_72 rfl (by rfl) (by decide) rfl ?_
          refine jr_goto (pc := 75) (tgt := 7) dX11_elect_75 (by decide) ?_
          exact jr_sub [1, 2, 0] rfl h
        · replace h := h.2 c
          refine jr_iconst (pc := 61) (v := (-1)) dX11_elect_61 (by decide) ?_
          refine jr_goto (pc := 62) (tgt := 71) dX11_elect_62 (by decide) ?_
          refine jr_iast (pc := 71) ⟨rfl, (by decide)⟩ h.1 dX11_elect_71 ?_
          replace h := h.2
          replace h := h _ rfl
          generalize jw_up M14 43 0 v2.toNatClampNeg (-1) = M16 at h ⊢
          refine jr_iinc (pc := 72) (lv' := [(2, vi (v2 + 1)), (0, vr 11 0), (1, vi v1)]) (q := 2) dX11_elect_72 rfl (by rfl) (by decide) rfl ?_
          refine jr_goto (pc := 75) (tgt := 7) dX11_elect_75 (by decide) ?_
          exact jr_sub [1, 2, 0] rfl h
      · replace h := h.2 c
        refine jr_iconst (pc := 41) (v := 1) dX11_elect_41 (by decide) ?_
        refine jr_goto (pc := 42) (tgt := 46) dX11_elect_42 (by decide) ?_
        refine jr_iadd (pc := 46) dX11_elect_46 ?_
        refine jr_iast (pc := 47) ⟨rfl, (by decide)⟩ h.1 dX11_elect_47 ?_
        replace h := h.2
        replace h := h _ rfl
        generalize jw_up M11 43 0 ((12 + v2) : Int32).toNatClampNeg ((M 43 0 ((12 + v2) : Int32).toNatClampNeg) + 1) = M17 at h ⊢
        refine jr_aload_n (pc := 48) dX11_elect_48 rfl 0 rfl ?_
        refine jr_get (pc := 49) (v := vr 43 0) fg_X11_31 (by decide) rfl dX11_elect_49 ?_
        refine jr_iload_n (pc := 52) dX11_elect_52 rfl 2 rfl ?_
        refine jr_iload_n (pc := 53) dX11_elect_53 rfl 1 rfl ?_
        refine jr_iload_n (pc := 54) dX11_elect_54 rfl 2 rfl ?_
        refine jr_callS (pc := 55) (d' := 0) (mt' := mX11_has) (As := [vi v1, vi v2]) (st := [vi v2, vr 43 0]) fc_X11_195 (by decide) (Nat.le_of_ble_eq_true rfl) rfl dX11_elect_55 (jw_M.mono h (fun x18 M19 h => ?_))
        show jw_J 5 mX11_elect 58 [(0, vr 11 0), (1, vi v1), (2, vi v2)] [vi x18, vi v2, vr 43 0] M19 Q
        refine jr_if_eq (pc := 58) (tgt := 65) dX11_elect_58 (by decide) (fun c => ?_) (fun c => ?_)
        · replace h := h.1 c
          refine jr_aload_n (pc := 65) dX11_elect_65 rfl 0 rfl ?_
          refine jr_get (pc := 66) (v := vr 43 0) fg_X11_31 (by decide) rfl dX11_elect_66 ?_
          refine jr_iload_n (pc := 69) dX11_elect_69 rfl 2 rfl ?_
          refine jr_iald (pc := 70) ⟨rfl, (by decide)⟩ h.1 dX11_elect_70 ?_
          replace h := h.2
          refine jr_iast (pc := 71) ⟨rfl, (by decide)⟩ h.1 dX11_elect_71 ?_
          replace h := h.2
          replace h := h _ rfl
          generalize jw_up M19 43 0 v2.toNatClampNeg (M19 43 0 v2.toNatClampNeg) = M20 at h ⊢
          refine jr_iinc (pc := 72) (lv' := [(2, vi (v2 + 1)), (0, vr 11 0), (1, vi v1)]) (q := 2) dX11_elect_72 rfl (by rfl) (by decide) rfl ?_
          refine jr_goto (pc := 75) (tgt := 7) dX11_elect_75 (by decide) ?_
          exact jr_sub [1, 2, 0] rfl h
        · replace h := h.2 c
          refine jr_iconst (pc := 61) (v := (-1)) dX11_elect_61 (by decide) ?_
          refine jr_goto (pc := 62) (tgt := 71) dX11_elect_62 (by decide) ?_
          refine jr_iast (pc := 71) ⟨rfl, (by decide)⟩ h.1 dX11_elect_71 ?_
          replace h := h.2
          replace h := h _ rfl
          generalize jw_up M19 43 0 v2.toNatClampNeg (-1) = M21 at h ⊢
          refine jr_iinc (pc := 72) (lv' := [(2, vi (v2 + 1)), (0, vr 11 0), (1, vi v1)]) (q := 2) dX11_elect_72 rfl (by rfl) (by decide) rfl ?_
          refine jr_goto (pc := 75) (tgt := 7) dX11_elect_75 (by decide) ?_
          exact jr_sub [1, 2, 0] rfl h
theorem dX11_pass_0 : decode cX11_pass 0 = .ok (.iconst 0, 1) := by decide +kernel
theorem dX11_pass_1 : decode cX11_pass 1 = .ok (.istore_n 1, 1) := by decide +kernel
theorem dX11_pass_2 : decode cX11_pass 2 = .ok (.iload_n 1, 1) := by decide +kernel
theorem dX11_pass_3 : decode cX11_pass 3 = .ok (.aload_n 0, 1) := by decide +kernel
theorem dX11_pass_4 : decode cX11_pass 4 = .ok (.getfield 103, 3) := by decide +kernel
theorem dX11_pass_7 : decode cX11_pass 7 = .ok (.if_icmp .ge 54, 3) := by decide +kernel
theorem dX11_pass_10 : decode cX11_pass 10 = .ok (.aload_n 0, 1) := by decide +kernel
theorem dX11_pass_11 : decode cX11_pass 11 = .ok (.getfield 31, 3) := by decide +kernel
theorem dX11_pass_14 : decode cX11_pass 14 = .ok (.bipush 6, 2) := by decide +kernel
theorem dX11_pass_16 : decode cX11_pass 16 = .ok (.iload_n 1, 1) := by decide +kernel
theorem dX11_pass_17 : decode cX11_pass 17 = .ok (.iadd, 1) := by decide +kernel
theorem dX11_pass_18 : decode cX11_pass 18 = .ok (.iaload, 1) := by decide +kernel
theorem dX11_pass_19 : decode cX11_pass 19 = .ok (.aload_n 0, 1) := by decide +kernel
theorem dX11_pass_20 : decode cX11_pass 20 = .ok (.iload_n 1, 1) := by decide +kernel
theorem dX11_pass_21 : decode cX11_pass 21 = .ok (.invokevirtual 248, 3) := by decide +kernel
theorem dX11_pass_24 : decode cX11_pass 24 = .ok (.iadd, 1) := by decide +kernel
theorem dX11_pass_25 : decode cX11_pass 25 = .ok (.istore_n 2, 1) := by decide +kernel
theorem dX11_pass_26 : decode cX11_pass 26 = .ok (.aload_n 0, 1) := by decide +kernel
theorem dX11_pass_27 : decode cX11_pass 27 = .ok (.getfield 31, 3) := by decide +kernel
theorem dX11_pass_30 : decode cX11_pass 30 = .ok (.bipush 6, 2) := by decide +kernel
theorem dX11_pass_32 : decode cX11_pass 32 = .ok (.iload_n 1, 1) := by decide +kernel
theorem dX11_pass_33 : decode cX11_pass 33 = .ok (.iadd, 1) := by decide +kernel
theorem dX11_pass_34 : decode cX11_pass 34 = .ok (.iload_n 2, 1) := by decide +kernel
theorem dX11_pass_35 : decode cX11_pass 35 = .ok (.ifCond .ge 7, 3) := by decide +kernel
theorem dX11_pass_38 : decode cX11_pass 38 = .ok (.iconst 0, 1) := by decide +kernel
theorem dX11_pass_39 : decode cX11_pass 39 = .ok (.goto 15, 3) := by decide +kernel
theorem dX11_pass_42 : decode cX11_pass 42 = .ok (.iload_n 2, 1) := by decide +kernel
theorem dX11_pass_43 : decode cX11_pass 43 = .ok (.bipush 99, 2) := by decide +kernel
theorem dX11_pass_45 : decode cX11_pass 45 = .ok (.if_icmp .le 8, 3) := by decide +kernel
theorem dX11_pass_48 : decode cX11_pass 48 = .ok (.bipush 99, 2) := by decide +kernel
theorem dX11_pass_50 : decode cX11_pass 50 = .ok (.goto 4, 3) := by decide +kernel
theorem dX11_pass_53 : decode cX11_pass 53 = .ok (.iload_n 2, 1) := by decide +kernel
theorem dX11_pass_54 : decode cX11_pass 54 = .ok (.iastore, 1) := by decide +kernel
theorem dX11_pass_55 : decode cX11_pass 55 = .ok (.iinc 1 1, 3) := by decide +kernel
theorem dX11_pass_58 : decode cX11_pass 58 = .ok (.goto (-56), 3) := by decide +kernel
theorem dX11_pass_61 : decode cX11_pass 61 = .ok (.iconst 0, 1) := by decide +kernel
theorem dX11_pass_62 : decode cX11_pass 62 = .ok (.istore_n 1, 1) := by decide +kernel
theorem dX11_pass_63 : decode cX11_pass 63 = .ok (.iload_n 1, 1) := by decide +kernel
theorem dX11_pass_64 : decode cX11_pass 64 = .ok (.aload_n 0, 1) := by decide +kernel
theorem dX11_pass_65 : decode cX11_pass 65 = .ok (.getfield 103, 3) := by decide +kernel
theorem dX11_pass_68 : decode cX11_pass 68 = .ok (.if_icmp .ge 39, 3) := by decide +kernel
theorem dX11_pass_71 : decode cX11_pass 71 = .ok (.aload_n 0, 1) := by decide +kernel
theorem dX11_pass_72 : decode cX11_pass 72 = .ok (.getfield 31, 3) := by decide +kernel
theorem dX11_pass_75 : decode cX11_pass 75 = .ok (.iload_n 1, 1) := by decide +kernel
theorem dX11_pass_76 : decode cX11_pass 76 = .ok (.aload_n 0, 1) := by decide +kernel
theorem dX11_pass_77 : decode cX11_pass 77 = .ok (.getfield 31, 3) := by decide +kernel
theorem dX11_pass_80 : decode cX11_pass 80 = .ok (.bipush 6, 2) := by decide +kernel
theorem dX11_pass_82 : decode cX11_pass 82 = .ok (.iload_n 1, 1) := by decide +kernel
theorem dX11_pass_83 : decode cX11_pass 83 = .ok (.iadd, 1) := by decide +kernel
theorem dX11_pass_84 : decode cX11_pass 84 = .ok (.iaload, 1) := by decide +kernel
theorem dX11_pass_85 : decode cX11_pass 85 = .ok (.bipush 30, 2) := by decide +kernel
theorem dX11_pass_87 : decode cX11_pass 87 = .ok (.if_icmp .lt 7, 3) := by decide +kernel
theorem dX11_pass_90 : decode cX11_pass 90 = .ok (.iconst (-1), 1) := by decide +kernel
theorem dX11_pass_91 : decode cX11_pass 91 = .ok (.goto 9, 3) := by decide +kernel
theorem dX11_pass_94 : decode cX11_pass 94 = .ok (.aload_n 0, 1) := by decide +kernel
theorem dX11_pass_95 : decode cX11_pass 95 = .ok (.getfield 31, 3) := by decide +kernel
theorem dX11_pass_98 : decode cX11_pass 98 = .ok (.iload_n 1, 1) := by decide +kernel
theorem dX11_pass_99 : decode cX11_pass 99 = .ok (.iaload, 1) := by decide +kernel
theorem dX11_pass_100 : decode cX11_pass 100 = .ok (.iastore, 1) := by decide +kernel
theorem dX11_pass_101 : decode cX11_pass 101 = .ok (.iinc 1 1, 3) := by decide +kernel
theorem dX11_pass_104 : decode cX11_pass 104 = .ok (.goto (-41), 3) := by decide +kernel
theorem dX11_pass_107 : decode cX11_pass 107 = .ok (.aload_n 0, 1) := by decide +kernel
theorem dX11_pass_108 : decode cX11_pass 108 = .ok (.getfield 31, 3) := by decide +kernel
theorem dX11_pass_111 : decode cX11_pass 111 = .ok (.bipush 32, 2) := by decide +kernel
theorem dX11_pass_113 : decode cX11_pass 113 = .ok (.dup2, 1) := by decide +kernel
theorem dX11_pass_114 : decode cX11_pass 114 = .ok (.iaload, 1) := by decide +kernel
theorem dX11_pass_115 : decode cX11_pass 115 = .ok (.iconst 1, 1) := by decide +kernel
theorem dX11_pass_116 : decode cX11_pass 116 = .ok (.iadd, 1) := by decide +kernel
theorem dX11_pass_117 : decode cX11_pass 117 = .ok (.iastore, 1) := by decide +kernel
theorem dX11_pass_118 : decode cX11_pass 118 = .ok (.aload_n 0, 1) := by decide +kernel
theorem dX11_pass_119 : decode cX11_pass 119 = .ok (.getfield 31, 3) := by decide +kernel
theorem dX11_pass_122 : decode cX11_pass 122 = .ok (.bipush 32, 2) := by decide +kernel
theorem dX11_pass_124 : decode cX11_pass 124 = .ok (.iaload, 1) := by decide +kernel
theorem dX11_pass_125 : decode cX11_pass 125 = .ok (.aload_n 0, 1) := by decide +kernel
theorem dX11_pass_126 : decode cX11_pass 126 = .ok (.getfield 93, 3) := by decide +kernel
theorem dX11_pass_129 : decode cX11_pass 129 = .ok (.irem, 1) := by decide +kernel
theorem dX11_pass_130 : decode cX11_pass 130 = .ok (.ifCond .ne 7, 3) := by decide +kernel
theorem dX11_pass_133 : decode cX11_pass 133 = .ok (.aload_n 0, 1) := by decide +kernel
theorem dX11_pass_134 : decode cX11_pass 134 = .ok (.invokevirtual 251, 3) := by decide +kernel
theorem dX11_pass_137 : decode cX11_pass 137 = .ok (.return_, 1) := by decide +kernel
set_option maxHeartbeats 4000000 in
set_option maxRecDepth 20000 in
theorem en_X11_pass {M : jw_Mem} {Q : Int32 → jw_Mem → Prop}  (h : jw_J 6 mX11_pass 2 [(0, vr 11 0), (1, vi 0)] [] M Q) : jw_M 6 mX11_pass [vr 11 0] M Q := by
  refine jw_M.of (by decide) (Nat.le_of_ble_eq_true rfl) ?_
  show jw_J 6 mX11_pass 0 [(0, vr 11 0)] [] M Q
  refine jr_iconst (pc := 0) (v := 0) dX11_pass_0 (by decide) ?_
  refine jr_istore_n (pc := 1) (lv' := [(1, vi 0), (0, vr 11 0)]) dX11_pass_1 rfl (by decide) rfl ?_
  exact jr_sub [1, 0] rfl h
set_option maxHeartbeats 4000000 in
set_option maxRecDepth 20000 in
theorem bk_X11_pass_2 {v1 : Int32} {M : jw_Mem} {Q : Int32 → jw_Mem → Prop}  (h : (((M 11 0 3) ≤ v1 → jw_J 6 mX11_pass 63 [(0, vr 11 0), (1, vi 0)] [] M Q) ∧ (¬ (M 11 0 3) ≤ v1 → (vp_in (6 + v1) 33 ∧ (jw_M 1 mX11_moreTired [vr 11 0, vi v1] M (fun x1 M2 => ((0 ≤ ((M 43 0 ((6 + v1) : Int32).toNatClampNeg) + x1) → ((((M 43 0 ((6 + v1) : Int32).toNatClampNeg) + x1) ≤ 99 → (vp_in (6 + v1) 33 ∧ (∀ M3 : jw_Mem, M3 = jw_up M2 43 0 ((6 + v1) : Int32).toNatClampNeg ((M 43 0 ((6 + v1) : Int32).toNatClampNeg) + x1) → jw_J 6 mX11_pass 2 [(0, vr 11 0), (1, vi (v1 + 1))] [] M3 Q))) ∧ (¬ ((M 43 0 ((6 + v1) : Int32).toNatClampNeg) + x1) ≤ 99 → (vp_in (6 + v1) 33 ∧ (∀ M4 : jw_Mem, M4 = jw_up M2 43 0 ((6 + v1) : Int32).toNatClampNeg 99 → jw_J 6 mX11_pass 2 [(0, vr 11 0), (1, vi (v1 + 1))] [] M4 Q))))) ∧ (¬ 0 ≤ ((M 43 0 ((6 + v1) : Int32).toNatClampNeg) + x1) → (vp_in (6 + v1) 33 ∧ (∀ M5 : jw_Mem, M5 = jw_up M2 43 0 ((6 + v1) : Int32).toNatClampNeg 0 → jw_J 6 mX11_pass 2 [(0, vr 11 0), (1, vi (v1 + 1))] [] M5 Q)))))))))) : jw_J 6 mX11_pass 2 [(0, vr 11 0), (1, vi v1)] [] M Q := by
  refine jr_iload_n (pc := 2) dX11_pass_2 rfl 1 rfl ?_
  refine jr_aload_n (pc := 3) dX11_pass_3 rfl 0 rfl ?_
  refine jr_get (pc := 4) (v := vi (M 11 0 3)) fg_X11_103 (by decide) rfl dX11_pass_4 ?_
  refine jr_icmp_ge (pc := 7) (tgt := 61) dX11_pass_7 (by decide) (fun c => ?_) (fun c => ?_)
  · replace h := h.1 c
    refine jr_iconst (pc := 61) (v := 0) dX11_pass_61 (by decide) ?_
    refine jr_istore_n (pc := 62) (lv' := [(1, vi 0), (0, vr 11 0)]) dX11_pass_62 rfl (by decide) rfl ?_
    exact jr_sub [1, 0] rfl h
  · replace h := h.2 c
    refine jr_aload_n (pc := 10) dX11_pass_10 rfl 0 rfl ?_
    refine jr_get (pc := 11) (v := vr 43 0) fg_X11_31 (by decide) rfl dX11_pass_11 ?_
    refine jr_bipush (pc := 14) (v := 6) dX11_pass_14 (by decide) ?_
    refine jr_iload_n (pc := 16) dX11_pass_16 rfl 1 rfl ?_
    refine jr_iadd (pc := 17) dX11_pass_17 ?_
    refine jr_iald (pc := 18) ⟨rfl, (by decide)⟩ h.1 dX11_pass_18 ?_
    replace h := h.2
    refine jr_aload_n (pc := 19) dX11_pass_19 rfl 0 rfl ?_
    refine jr_iload_n (pc := 20) dX11_pass_20 rfl 1 rfl ?_
    refine jr_callV (pc := 21) (d' := 1) (mt' := mX11_moreTired) (k := 11) (n := 0) (As := [vi v1]) (st := [vi (M 43 0 ((6 + v1) : Int32).toNatClampNeg)]) fc_X11_248 (by decide) (by decide) (Nat.le_of_ble_eq_true rfl) rfl dX11_pass_21 (jw_M.mono h (fun x1 M2 h => ?_))
    show jw_J 6 mX11_pass 24 [(0, vr 11 0), (1, vi v1)] [vi x1, vi (M 43 0 ((6 + v1) : Int32).toNatClampNeg)] M2 Q
    refine jr_iadd (pc := 24) dX11_pass_24 ?_
    refine jr_istore_n (pc := 25) (lv' := [(2, vi ((M 43 0 ((6 + v1) : Int32).toNatClampNeg) + x1)), (0, vr 11 0), (1, vi v1)]) dX11_pass_25 rfl (by decide) rfl ?_
    refine jr_aload_n (pc := 26) dX11_pass_26 rfl 1 rfl ?_
    refine jr_get (pc := 27) (v := vr 43 0) fg_X11_31 (by decide) rfl dX11_pass_27 ?_
    refine jr_bipush (pc := 30) (v := 6) dX11_pass_30 (by decide) ?_
    refine jr_iload_n (pc := 32) dX11_pass_32 rfl 2 rfl ?_
    refine jr_iadd (pc := 33) dX11_pass_33 ?_
    refine jr_iload_n (pc := 34) dX11_pass_34 rfl 0 rfl ?_
    refine jr_if_ge (pc := 35) (tgt := 42) dX11_pass_35 (by decide) (fun c => ?_) (fun c => ?_)
    · replace h := h.1 c
      refine jr_iload_n (pc := 42) dX11_pass_42 rfl 0 rfl ?_
      refine jr_bipush (pc := 43) (v := 99) dX11_pass_43 (by decide) ?_
      refine jr_icmp_le (pc := 45) (tgt := 53) dX11_pass_45 (by decide) (fun c => ?_) (fun c => ?_)
      · replace h := h.1 c
        refine jr_iload_n (pc := 53) dX11_pass_53 rfl 0 rfl ?_
        refine jr_iast (pc := 54) ⟨rfl, (by decide)⟩ h.1 dX11_pass_54 ?_
        replace h := h.2
        replace h := h _ rfl
        generalize jw_up M2 43 0 ((6 + v1) : Int32).toNatClampNeg ((M 43 0 ((6 + v1) : Int32).toNatClampNeg) + x1) = M3 at h ⊢
        refine jr_iinc (pc := 55) (lv' := [(1, vi (v1 + 1)), (2, vi ((M 43 0 ((6 + v1) : Int32).toNatClampNeg) + x1)), (0, vr 11 0)]) (q := 2) dX11_pass_55 rfl (by rfl) (by decide) rfl ?_
        refine jr_goto (pc := 58) (tgt := 2) dX11_pass_58 (by decide) ?_
        exact jr_sub [2, 0] rfl h
      · replace h := h.2 c
        refine jr_bipush (pc := 48) (v := 99) dX11_pass_48 (by decide) ?_
        refine jr_goto (pc := 50) (tgt := 54) dX11_pass_50 (by decide) ?_
        refine jr_iast (pc := 54) ⟨rfl, (by decide)⟩ h.1 dX11_pass_54 ?_
        replace h := h.2
        replace h := h _ rfl
        generalize jw_up M2 43 0 ((6 + v1) : Int32).toNatClampNeg 99 = M4 at h ⊢
        refine jr_iinc (pc := 55) (lv' := [(1, vi (v1 + 1)), (2, vi ((M 43 0 ((6 + v1) : Int32).toNatClampNeg) + x1)), (0, vr 11 0)]) (q := 2) dX11_pass_55 rfl (by rfl) (by decide) rfl ?_
        refine jr_goto (pc := 58) (tgt := 2) dX11_pass_58 (by decide) ?_
        exact jr_sub [2, 0] rfl h
    · replace h := h.2 c
      refine jr_iconst (pc := 38) (v := 0) dX11_pass_38 (by decide) ?_
      refine jr_goto (pc := 39) (tgt := 54) dX11_pass_39 (by decide) ?_
      refine jr_iast (pc := 54) ⟨rfl, (by decide)⟩ h.1 dX11_pass_54 ?_
      replace h := h.2
      replace h := h _ rfl
      generalize jw_up M2 43 0 ((6 + v1) : Int32).toNatClampNeg 0 = M5 at h ⊢
      refine jr_iinc (pc := 55) (lv' := [(1, vi (v1 + 1)), (2, vi ((M 43 0 ((6 + v1) : Int32).toNatClampNeg) + x1)), (0, vr 11 0)]) (q := 2) dX11_pass_55 rfl (by rfl) (by decide) rfl ?_
      refine jr_goto (pc := 58) (tgt := 2) dX11_pass_58 (by decide) ?_
      exact jr_sub [2, 0] rfl h
set_option maxHeartbeats 4000000 in
set_option maxRecDepth 20000 in
theorem bk_X11_pass_63 {v1 : Int32} {M : jw_Mem} {Q : Int32 → jw_Mem → Prop}  (h : (((M 11 0 3) ≤ v1 → (vp_in 32 33 ∧ (vp_in 32 33 ∧ (∀ M6 : jw_Mem, M6 = jw_up M 43 0 (32 : Int32).toNatClampNeg ((M 43 0 (32 : Int32).toNatClampNeg) + 1) → (vp_in 32 33 ∧ (¬ (M6 11 0 0) = 0 ∧ ((¬ ((M6 43 0 (32 : Int32).toNatClampNeg) - (M6 43 0 (32 : Int32).toNatClampNeg) / (M6 11 0 0) * (M6 11 0 0)) = 0 → Q 0 M6) ∧ (((M6 43 0 (32 : Int32).toNatClampNeg) - (M6 43 0 (32 : Int32).toNatClampNeg) / (M6 11 0 0) * (M6 11 0 0)) = 0 → (jw_M 5 mX11_elect [vr 11 0] M6 (fun x7 M8 => Q 0 M8)))))))))) ∧ (¬ (M 11 0 3) ≤ v1 → (vp_in (6 + v1) 33 ∧ (((M 43 0 ((6 + v1) : Int32).toNatClampNeg) < 30 → (vp_in v1 33 ∧ (vp_in v1 33 ∧ (∀ M9 : jw_Mem, M9 = jw_up M 43 0 v1.toNatClampNeg (M 43 0 v1.toNatClampNeg) → jw_J 6 mX11_pass 63 [(0, vr 11 0), (1, vi (v1 + 1))] [] M9 Q)))) ∧ (¬ (M 43 0 ((6 + v1) : Int32).toNatClampNeg) < 30 → (vp_in v1 33 ∧ (∀ M10 : jw_Mem, M10 = jw_up M 43 0 v1.toNatClampNeg (-1) → jw_J 6 mX11_pass 63 [(0, vr 11 0), (1, vi (v1 + 1))] [] M10 Q)))))))) : jw_J 6 mX11_pass 63 [(0, vr 11 0), (1, vi v1)] [] M Q := by
  refine jr_iload_n (pc := 63) dX11_pass_63 rfl 1 rfl ?_
  refine jr_aload_n (pc := 64) dX11_pass_64 rfl 0 rfl ?_
  refine jr_get (pc := 65) (v := vi (M 11 0 3)) fg_X11_103 (by decide) rfl dX11_pass_65 ?_
  refine jr_icmp_ge (pc := 68) (tgt := 107) dX11_pass_68 (by decide) (fun c => ?_) (fun c => ?_)
  · replace h := h.1 c
    refine jr_aload_n (pc := 107) dX11_pass_107 rfl 0 rfl ?_
    refine jr_get (pc := 108) (v := vr 43 0) fg_X11_31 (by decide) rfl dX11_pass_108 ?_
    refine jr_bipush (pc := 111) (v := 32) dX11_pass_111 (by decide) ?_
    refine jr_dup2 (pc := 113) dX11_pass_113 ?_
    refine jr_iald (pc := 114) ⟨rfl, (by decide)⟩ h.1 dX11_pass_114 ?_
    replace h := h.2
    refine jr_iconst (pc := 115) (v := 1) dX11_pass_115 (by decide) ?_
    refine jr_iadd (pc := 116) dX11_pass_116 ?_
    refine jr_iast (pc := 117) ⟨rfl, (by decide)⟩ h.1 dX11_pass_117 ?_
    replace h := h.2
    replace h := h _ rfl
    generalize jw_up M 43 0 (32 : Int32).toNatClampNeg ((M 43 0 (32 : Int32).toNatClampNeg) + 1) = M6 at h ⊢
    refine jr_aload_n (pc := 118) dX11_pass_118 rfl 0 rfl ?_
    refine jr_get (pc := 119) (v := vr 43 0) fg_X11_31 (by decide) rfl dX11_pass_119 ?_
    refine jr_bipush (pc := 122) (v := 32) dX11_pass_122 (by decide) ?_
    refine jr_iald (pc := 124) ⟨rfl, (by decide)⟩ h.1 dX11_pass_124 ?_
    replace h := h.2
    refine jr_aload_n (pc := 125) dX11_pass_125 rfl 0 rfl ?_
    refine jr_get (pc := 126) (v := vi (M6 11 0 0)) fg_X11_93 (by decide) rfl dX11_pass_126 ?_
    refine jr_irem (pc := 129) dX11_pass_129 h.1 ?_
    replace h := h.2
    refine jr_if_ne (pc := 130) (tgt := 137) dX11_pass_130 (by decide) (fun c => ?_) (fun c => ?_)
    · replace h := h.1 c
      exact jr_vret (pc := 137) rfl dX11_pass_137 h
    · replace h := h.2 c
      refine jr_aload_n (pc := 133) dX11_pass_133 rfl 0 rfl ?_
      refine jr_callV (pc := 134) (d' := 5) (mt' := mX11_elect) (k := 11) (n := 0) (As := []) (st := []) fc_X11_251 (by decide) (by decide) (Nat.le_of_ble_eq_true rfl) rfl dX11_pass_134 (jw_M.mono h (fun x7 M8 h => ?_))
      show jw_J 6 mX11_pass 137 [(0, vr 11 0), (1, vi v1)] [] M8 Q
      exact jr_vret (pc := 137) rfl dX11_pass_137 h
  · replace h := h.2 c
    refine jr_aload_n (pc := 71) dX11_pass_71 rfl 0 rfl ?_
    refine jr_get (pc := 72) (v := vr 43 0) fg_X11_31 (by decide) rfl dX11_pass_72 ?_
    refine jr_iload_n (pc := 75) dX11_pass_75 rfl 1 rfl ?_
    refine jr_aload_n (pc := 76) dX11_pass_76 rfl 0 rfl ?_
    refine jr_get (pc := 77) (v := vr 43 0) fg_X11_31 (by decide) rfl dX11_pass_77 ?_
    refine jr_bipush (pc := 80) (v := 6) dX11_pass_80 (by decide) ?_
    refine jr_iload_n (pc := 82) dX11_pass_82 rfl 1 rfl ?_
    refine jr_iadd (pc := 83) dX11_pass_83 ?_
    refine jr_iald (pc := 84) ⟨rfl, (by decide)⟩ h.1 dX11_pass_84 ?_
    replace h := h.2
    refine jr_bipush (pc := 85) (v := 30) dX11_pass_85 (by decide) ?_
    refine jr_icmp_lt (pc := 87) (tgt := 94) dX11_pass_87 (by decide) (fun c => ?_) (fun c => ?_)
    · replace h := h.1 c
      refine jr_aload_n (pc := 94) dX11_pass_94 rfl 0 rfl ?_
      refine jr_get (pc := 95) (v := vr 43 0) fg_X11_31 (by decide) rfl dX11_pass_95 ?_
      refine jr_iload_n (pc := 98) dX11_pass_98 rfl 1 rfl ?_
      refine jr_iald (pc := 99) ⟨rfl, (by decide)⟩ h.1 dX11_pass_99 ?_
      replace h := h.2
      refine jr_iast (pc := 100) ⟨rfl, (by decide)⟩ h.1 dX11_pass_100 ?_
      replace h := h.2
      replace h := h _ rfl
      generalize jw_up M 43 0 v1.toNatClampNeg (M 43 0 v1.toNatClampNeg) = M9 at h ⊢
      refine jr_iinc (pc := 101) (lv' := [(1, vi (v1 + 1)), (0, vr 11 0)]) (q := 1) dX11_pass_101 rfl (by rfl) (by decide) rfl ?_
      refine jr_goto (pc := 104) (tgt := 63) dX11_pass_104 (by decide) ?_
      exact jr_sub [1, 0] rfl h
    · replace h := h.2 c
      refine jr_iconst (pc := 90) (v := (-1)) dX11_pass_90 (by decide) ?_
      refine jr_goto (pc := 91) (tgt := 100) dX11_pass_91 (by decide) ?_
      refine jr_iast (pc := 100) ⟨rfl, (by decide)⟩ h.1 dX11_pass_100 ?_
      replace h := h.2
      replace h := h _ rfl
      generalize jw_up M 43 0 v1.toNatClampNeg (-1) = M10 at h ⊢
      refine jr_iinc (pc := 101) (lv' := [(1, vi (v1 + 1)), (0, vr 11 0)]) (q := 1) dX11_pass_101 rfl (by rfl) (by decide) rfl ?_
      refine jr_goto (pc := 104) (tgt := 63) dX11_pass_104 (by decide) ?_
      exact jr_sub [1, 0] rfl h
theorem dX11_remember_0 : decode cX11_remember 0 = .ok (.aload_n 0, 1) := by decide +kernel
theorem dX11_remember_1 : decode cX11_remember 1 = .ok (.getfield 192, 3) := by decide +kernel
theorem dX11_remember_4 : decode cX11_remember 4 = .ok (.bipush 16, 2) := by decide +kernel
theorem dX11_remember_6 : decode cX11_remember 6 = .ok (.if_icmp .ne 44, 3) := by decide +kernel
theorem dX11_remember_9 : decode cX11_remember 9 = .ok (.bipush 33, 2) := by decide +kernel
theorem dX11_remember_11 : decode cX11_remember 11 = .ok (.istore_n 1, 1) := by decide +kernel
theorem dX11_remember_12 : decode cX11_remember 12 = .ok (.iload_n 1, 1) := by decide +kernel
theorem dX11_remember_13 : decode cX11_remember 13 = .ok (.sipush 528, 3) := by decide +kernel
theorem dX11_remember_16 : decode cX11_remember 16 = .ok (.if_icmp .ge 24, 3) := by decide +kernel
theorem dX11_remember_19 : decode cX11_remember 19 = .ok (.aload_n 0, 1) := by decide +kernel
theorem dX11_remember_20 : decode cX11_remember 20 = .ok (.getfield 62, 3) := by decide +kernel
theorem dX11_remember_23 : decode cX11_remember 23 = .ok (.iload_n 1, 1) := by decide +kernel
theorem dX11_remember_24 : decode cX11_remember 24 = .ok (.bipush 33, 2) := by decide +kernel
theorem dX11_remember_26 : decode cX11_remember 26 = .ok (.isub, 1) := by decide +kernel
theorem dX11_remember_27 : decode cX11_remember 27 = .ok (.aload_n 0, 1) := by decide +kernel
theorem dX11_remember_28 : decode cX11_remember 28 = .ok (.getfield 62, 3) := by decide +kernel
theorem dX11_remember_31 : decode cX11_remember 31 = .ok (.iload_n 1, 1) := by decide +kernel
theorem dX11_remember_32 : decode cX11_remember 32 = .ok (.iaload, 1) := by decide +kernel
theorem dX11_remember_33 : decode cX11_remember 33 = .ok (.iastore, 1) := by decide +kernel
theorem dX11_remember_34 : decode cX11_remember 34 = .ok (.iinc 1 1, 3) := by decide +kernel
theorem dX11_remember_37 : decode cX11_remember 37 = .ok (.goto (-25), 3) := by decide +kernel
theorem dX11_remember_40 : decode cX11_remember 40 = .ok (.aload_n 0, 1) := by decide +kernel
theorem dX11_remember_41 : decode cX11_remember 41 = .ok (.dup, 1) := by decide +kernel
theorem dX11_remember_42 : decode cX11_remember 42 = .ok (.getfield 192, 3) := by decide +kernel
theorem dX11_remember_45 : decode cX11_remember 45 = .ok (.iconst 1, 1) := by decide +kernel
theorem dX11_remember_46 : decode cX11_remember 46 = .ok (.isub, 1) := by decide +kernel
theorem dX11_remember_47 : decode cX11_remember 47 = .ok (.putfield 192, 3) := by decide +kernel
theorem dX11_remember_50 : decode cX11_remember 50 = .ok (.iconst 0, 1) := by decide +kernel
theorem dX11_remember_51 : decode cX11_remember 51 = .ok (.istore_n 1, 1) := by decide +kernel
theorem dX11_remember_52 : decode cX11_remember 52 = .ok (.iload_n 1, 1) := by decide +kernel
theorem dX11_remember_53 : decode cX11_remember 53 = .ok (.bipush 33, 2) := by decide +kernel
theorem dX11_remember_55 : decode cX11_remember 55 = .ok (.if_icmp .ge 29, 3) := by decide +kernel
theorem dX11_remember_58 : decode cX11_remember 58 = .ok (.aload_n 0, 1) := by decide +kernel
theorem dX11_remember_59 : decode cX11_remember 59 = .ok (.getfield 62, 3) := by decide +kernel
theorem dX11_remember_62 : decode cX11_remember 62 = .ok (.bipush 33, 2) := by decide +kernel
theorem dX11_remember_64 : decode cX11_remember 64 = .ok (.aload_n 0, 1) := by decide +kernel
theorem dX11_remember_65 : decode cX11_remember 65 = .ok (.getfield 192, 3) := by decide +kernel
theorem dX11_remember_68 : decode cX11_remember 68 = .ok (.imul, 1) := by decide +kernel
theorem dX11_remember_69 : decode cX11_remember 69 = .ok (.iload_n 1, 1) := by decide +kernel
theorem dX11_remember_70 : decode cX11_remember 70 = .ok (.iadd, 1) := by decide +kernel
theorem dX11_remember_71 : decode cX11_remember 71 = .ok (.aload_n 0, 1) := by decide +kernel
theorem dX11_remember_72 : decode cX11_remember 72 = .ok (.getfield 31, 3) := by decide +kernel
theorem dX11_remember_75 : decode cX11_remember 75 = .ok (.iload_n 1, 1) := by decide +kernel
theorem dX11_remember_76 : decode cX11_remember 76 = .ok (.iaload, 1) := by decide +kernel
theorem dX11_remember_77 : decode cX11_remember 77 = .ok (.iastore, 1) := by decide +kernel
theorem dX11_remember_78 : decode cX11_remember 78 = .ok (.iinc 1 1, 3) := by decide +kernel
theorem dX11_remember_81 : decode cX11_remember 81 = .ok (.goto (-29), 3) := by decide +kernel
theorem dX11_remember_84 : decode cX11_remember 84 = .ok (.aload_n 0, 1) := by decide +kernel
theorem dX11_remember_85 : decode cX11_remember 85 = .ok (.dup, 1) := by decide +kernel
theorem dX11_remember_86 : decode cX11_remember 86 = .ok (.getfield 192, 3) := by decide +kernel
theorem dX11_remember_89 : decode cX11_remember 89 = .ok (.iconst 1, 1) := by decide +kernel
theorem dX11_remember_90 : decode cX11_remember 90 = .ok (.iadd, 1) := by decide +kernel
theorem dX11_remember_91 : decode cX11_remember 91 = .ok (.putfield 192, 3) := by decide +kernel
theorem dX11_remember_94 : decode cX11_remember 94 = .ok (.return_, 1) := by decide +kernel
set_option maxHeartbeats 4000000 in
set_option maxRecDepth 20000 in
theorem en_X11_remember {M : jw_Mem} {Q : Int32 → jw_Mem → Prop}  (h : ((¬ (M 11 0 30) = 16 → jw_J 0 mX11_remember 52 [(0, vr 11 0), (1, vi 0)] [] M Q) ∧ ((M 11 0 30) = 16 → jw_J 0 mX11_remember 12 [(0, vr 11 0), (1, vi 33)] [] M Q))) : jw_M 0 mX11_remember [vr 11 0] M Q := by
  refine jw_M.of (by decide) (Nat.le_of_ble_eq_true rfl) ?_
  show jw_J 0 mX11_remember 0 [(0, vr 11 0)] [] M Q
  refine jr_aload_n (pc := 0) dX11_remember_0 rfl 0 rfl ?_
  refine jr_get (pc := 1) (v := vi (M 11 0 30)) fg_X11_192 (by decide) rfl dX11_remember_1 ?_
  refine jr_bipush (pc := 4) (v := 16) dX11_remember_4 (by decide) ?_
  refine jr_icmp_ne (pc := 6) (tgt := 50) dX11_remember_6 (by decide) (fun c => ?_) (fun c => ?_)
  · replace h := h.1 c
    refine jr_iconst (pc := 50) (v := 0) dX11_remember_50 (by decide) ?_
    refine jr_istore_n (pc := 51) (lv' := [(1, vi 0), (0, vr 11 0)]) dX11_remember_51 rfl (by decide) rfl ?_
    exact jr_sub [1, 0] rfl h
  · replace h := h.2 c
    refine jr_bipush (pc := 9) (v := 33) dX11_remember_9 (by decide) ?_
    refine jr_istore_n (pc := 11) (lv' := [(1, vi 33), (0, vr 11 0)]) dX11_remember_11 rfl (by decide) rfl ?_
    exact jr_sub [1, 0] rfl h
set_option maxHeartbeats 4000000 in
set_option maxRecDepth 20000 in
theorem bk_X11_remember_52 {v1 : Int32} {M : jw_Mem} {Q : Int32 → jw_Mem → Prop}  (h : ((33 ≤ v1 → (∀ M1 : jw_Mem, M1 = jw_up M 11 0 30 ((M 11 0 30) + 1) → Q 0 M1)) ∧ (¬ 33 ≤ v1 → (vp_in v1 33 ∧ (vp_in ((33 * (M 11 0 30)) + v1) 528 ∧ (∀ M2 : jw_Mem, M2 = jw_up M 52 0 (((33 * (M 11 0 30)) + v1) : Int32).toNatClampNeg (M 43 0 v1.toNatClampNeg) → jw_J 0 mX11_remember 52 [(0, vr 11 0), (1, vi (v1 + 1))] [] M2 Q)))))) : jw_J 0 mX11_remember 52 [(0, vr 11 0), (1, vi v1)] [] M Q := by
  refine jr_iload_n (pc := 52) dX11_remember_52 rfl 1 rfl ?_
  refine jr_bipush (pc := 53) (v := 33) dX11_remember_53 (by decide) ?_
  refine jr_icmp_ge (pc := 55) (tgt := 84) dX11_remember_55 (by decide) (fun c => ?_) (fun c => ?_)
  · replace h := h.1 c
    refine jr_aload_n (pc := 84) dX11_remember_84 rfl 0 rfl ?_
    refine jr_dup_r (pc := 85) dX11_remember_85 ?_
    refine jr_get (pc := 86) (v := vi (M 11 0 30)) fg_X11_192 (by decide) rfl dX11_remember_86 ?_
    refine jr_iconst (pc := 89) (v := 1) dX11_remember_89 (by decide) ?_
    refine jr_iadd (pc := 90) dX11_remember_90 ?_
    refine jr_put (pc := 91) fp_X11_192 (by decide) (Or.inl ⟨_, _, _, rfl, by decide +kernel⟩) dX11_remember_91 ?_
    replace h := h _ rfl
    generalize jw_up M 11 0 30 ((M 11 0 30) + 1) = M1 at h ⊢
    exact jr_vret (pc := 94) rfl dX11_remember_94 h
  · replace h := h.2 c
    refine jr_aload_n (pc := 58) dX11_remember_58 rfl 0 rfl ?_
    refine jr_get (pc := 59) (v := vr 52 0) fg_X11_62 (by decide) rfl dX11_remember_59 ?_
    refine jr_bipush (pc := 62) (v := 33) dX11_remember_62 (by decide) ?_
    refine jr_aload_n (pc := 64) dX11_remember_64 rfl 0 rfl ?_
    refine jr_get (pc := 65) (v := vi (M 11 0 30)) fg_X11_192 (by decide) rfl dX11_remember_65 ?_
    refine jr_imul (pc := 68) dX11_remember_68 ?_
    refine jr_iload_n (pc := 69) dX11_remember_69 rfl 1 rfl ?_
    refine jr_iadd (pc := 70) dX11_remember_70 ?_
    refine jr_aload_n (pc := 71) dX11_remember_71 rfl 0 rfl ?_
    refine jr_get (pc := 72) (v := vr 43 0) fg_X11_31 (by decide) rfl dX11_remember_72 ?_
    refine jr_iload_n (pc := 75) dX11_remember_75 rfl 1 rfl ?_
    refine jr_iald (pc := 76) ⟨rfl, (by decide)⟩ h.1 dX11_remember_76 ?_
    replace h := h.2
    refine jr_iast (pc := 77) ⟨rfl, (by decide)⟩ h.1 dX11_remember_77 ?_
    replace h := h.2
    replace h := h _ rfl
    generalize jw_up M 52 0 (((33 * (M 11 0 30)) + v1) : Int32).toNatClampNeg (M 43 0 v1.toNatClampNeg) = M2 at h ⊢
    refine jr_iinc (pc := 78) (lv' := [(1, vi (v1 + 1)), (0, vr 11 0)]) (q := 1) dX11_remember_78 rfl (by rfl) (by decide) rfl ?_
    refine jr_goto (pc := 81) (tgt := 52) dX11_remember_81 (by decide) ?_
    exact jr_sub [1, 0] rfl h
set_option maxHeartbeats 4000000 in
set_option maxRecDepth 20000 in
theorem bk_X11_remember_12 {v1 : Int32} {M : jw_Mem} {Q : Int32 → jw_Mem → Prop}  (h : ((528 ≤ v1 → (∀ M3 : jw_Mem, M3 = jw_up M 11 0 30 ((M 11 0 30) - 1) → jw_J 0 mX11_remember 52 [(0, vr 11 0), (1, vi 0)] [] M3 Q)) ∧ (¬ 528 ≤ v1 → (vp_in v1 528 ∧ (vp_in (v1 - 33) 528 ∧ (∀ M4 : jw_Mem, M4 = jw_up M 52 0 ((v1 - 33) : Int32).toNatClampNeg (M 52 0 v1.toNatClampNeg) → jw_J 0 mX11_remember 12 [(0, vr 11 0), (1, vi (v1 + 1))] [] M4 Q)))))) : jw_J 0 mX11_remember 12 [(0, vr 11 0), (1, vi v1)] [] M Q := by
  refine jr_iload_n (pc := 12) dX11_remember_12 rfl 1 rfl ?_
  refine jr_sipush (pc := 13) (v := 528) dX11_remember_13 (by decide) ?_
  refine jr_icmp_ge (pc := 16) (tgt := 40) dX11_remember_16 (by decide) (fun c => ?_) (fun c => ?_)
  · replace h := h.1 c
    refine jr_aload_n (pc := 40) dX11_remember_40 rfl 0 rfl ?_
    refine jr_dup_r (pc := 41) dX11_remember_41 ?_
    refine jr_get (pc := 42) (v := vi (M 11 0 30)) fg_X11_192 (by decide) rfl dX11_remember_42 ?_
    refine jr_iconst (pc := 45) (v := 1) dX11_remember_45 (by decide) ?_
    refine jr_isub (pc := 46) dX11_remember_46 ?_
    refine jr_put (pc := 47) fp_X11_192 (by decide) (Or.inl ⟨_, _, _, rfl, by decide +kernel⟩) dX11_remember_47 ?_
    replace h := h _ rfl
    generalize jw_up M 11 0 30 ((M 11 0 30) - 1) = M3 at h ⊢
    refine jr_iconst (pc := 50) (v := 0) dX11_remember_50 (by decide) ?_
    refine jr_istore_n (pc := 51) (lv' := [(1, vi 0), (0, vr 11 0)]) dX11_remember_51 rfl (by decide) rfl ?_
    exact jr_sub [1, 0] rfl h
  · replace h := h.2 c
    refine jr_aload_n (pc := 19) dX11_remember_19 rfl 0 rfl ?_
    refine jr_get (pc := 20) (v := vr 52 0) fg_X11_62 (by decide) rfl dX11_remember_20 ?_
    refine jr_iload_n (pc := 23) dX11_remember_23 rfl 1 rfl ?_
    refine jr_bipush (pc := 24) (v := 33) dX11_remember_24 (by decide) ?_
    refine jr_isub (pc := 26) dX11_remember_26 ?_
    refine jr_aload_n (pc := 27) dX11_remember_27 rfl 0 rfl ?_
    refine jr_get (pc := 28) (v := vr 52 0) fg_X11_62 (by decide) rfl dX11_remember_28 ?_
    refine jr_iload_n (pc := 31) dX11_remember_31 rfl 1 rfl ?_
    refine jr_iald (pc := 32) ⟨rfl, (by decide)⟩ h.1 dX11_remember_32 ?_
    replace h := h.2
    refine jr_iast (pc := 33) ⟨rfl, (by decide)⟩ h.1 dX11_remember_33 ?_
    replace h := h.2
    replace h := h _ rfl
    generalize jw_up M 52 0 ((v1 - 33) : Int32).toNatClampNeg (M 52 0 v1.toNatClampNeg) = M4 at h ⊢
    refine jr_iinc (pc := 34) (lv' := [(1, vi (v1 + 1)), (0, vr 11 0)]) (q := 1) dX11_remember_34 rfl (by rfl) (by decide) rfl ?_
    refine jr_goto (pc := 37) (tgt := 12) dX11_remember_37 (by decide) ?_
    exact jr_sub [1, 0] rfl h
theorem dX11_yearsRefused_0 : decode cX11_yearsRefused 0 = .ok (.iload_n 1, 1) := by decide +kernel
theorem dX11_yearsRefused_1 : decode cX11_yearsRefused 1 = .ok (.i2l, 1) := by decide +kernel
theorem dX11_yearsRefused_2 : decode cX11_yearsRefused 2 = .ok (.lconst 1, 1) := by decide +kernel
theorem dX11_yearsRefused_3 : decode cX11_yearsRefused 3 = .ok (.ldc2_w 254, 3) := by decide +kernel
theorem dX11_yearsRefused_6 : decode cX11_yearsRefused 6 = .ok (.invokestatic 99, 3) := by decide +kernel
theorem dX11_yearsRefused_9 : decode cX11_yearsRefused 9 = .ok (.ifCond .ne 6, 3) := by decide +kernel
theorem dX11_yearsRefused_12 : decode cX11_yearsRefused 12 = .ok (.ldc 111, 2) := by decide +kernel
theorem dX11_yearsRefused_14 : decode cX11_yearsRefused 14 = .ok (.ireturn, 1) := by decide +kernel
theorem dX11_yearsRefused_15 : decode cX11_yearsRefused 15 = .ok (.aload_n 0, 1) := by decide +kernel
theorem dX11_yearsRefused_16 : decode cX11_yearsRefused 16 = .ok (.getfield 93, 3) := by decide +kernel
theorem dX11_yearsRefused_19 : decode cX11_yearsRefused 19 = .ok (.ifCond .ne 9, 3) := by decide +kernel
theorem dX11_yearsRefused_22 : decode cX11_yearsRefused 22 = .ok (.ldc_w 256, 3) := by decide +kernel
theorem dX11_yearsRefused_25 : decode cX11_yearsRefused 25 = .ok (.goto 22, 3) := by decide +kernel
theorem dX11_yearsRefused_28 : decode cX11_yearsRefused 28 = .ok (.aload_n 0, 1) := by decide +kernel
theorem dX11_yearsRefused_29 : decode cX11_yearsRefused 29 = .ok (.getfield 31, 3) := by decide +kernel
theorem dX11_yearsRefused_32 : decode cX11_yearsRefused 32 = .ok (.bipush 32, 2) := by decide +kernel
theorem dX11_yearsRefused_34 : decode cX11_yearsRefused 34 = .ok (.iaload, 1) := by decide +kernel
theorem dX11_yearsRefused_35 : decode cX11_yearsRefused 35 = .ok (.sipush 9000, 3) := by decide +kernel
theorem dX11_yearsRefused_38 : decode cX11_yearsRefused 38 = .ok (.if_icmp .le 8, 3) := by decide +kernel
theorem dX11_yearsRefused_41 : decode cX11_yearsRefused 41 = .ok (.ldc 115, 2) := by decide +kernel
theorem dX11_yearsRefused_43 : decode cX11_yearsRefused 43 = .ok (.goto 4, 3) := by decide +kernel
theorem dX11_yearsRefused_46 : decode cX11_yearsRefused 46 = .ok (.iconst 0, 1) := by decide +kernel
theorem dX11_yearsRefused_47 : decode cX11_yearsRefused 47 = .ok (.ireturn, 1) := by decide +kernel
set_option maxHeartbeats 4000000 in
set_option maxRecDepth 20000 in
theorem en_X11_yearsRefused {a1 : Int32} {M : jw_Mem} {Q : Int32 → jw_Mem → Prop}  (h : (jw_M 0 mX11_in [vl (a1.toInt64), vl 1, vl 60] M (fun x1 M2 => ((¬ x1 = 0 → ((¬ (M2 11 0 0) = 0 → (vp_in 32 33 ∧ (((M2 43 0 (32 : Int32).toNatClampNeg) ≤ 9000 → Q 0 M2) ∧ (¬ (M2 43 0 (32 : Int32).toNatClampNeg) ≤ 9000 → Q (-1000000004) M2)))) ∧ ((M2 11 0 0) = 0 → Q (-1000000003) M2))) ∧ (x1 = 0 → Q (-1000000002) M2))))) : jw_M 1 mX11_yearsRefused [vr 11 0, vi a1] M Q := by
  refine jw_M.of (by decide) (Nat.le_of_ble_eq_true rfl) ?_
  show jw_J 1 mX11_yearsRefused 0 [(0, vr 11 0), (1, vi a1)] [] M Q
  refine jr_iload_n (pc := 0) dX11_yearsRefused_0 rfl 1 rfl ?_
  refine jr_i2l (pc := 1) dX11_yearsRefused_1 ?_
  refine jr_lconst (pc := 2) (v := 1) dX11_yearsRefused_2 (by decide) ?_
  refine jr_ldc2 (pc := 3) fk_X11_254 dX11_yearsRefused_3 ?_
  refine jr_callS (pc := 6) (d' := 0) (mt' := mX11_in) (As := [vl (a1.toInt64), vl 1, vl 60]) (st := []) fc_X11_99 (by decide) (Nat.le_of_ble_eq_true rfl) rfl dX11_yearsRefused_6 (jw_M.mono h (fun x1 M2 h => ?_))
  show jw_J 1 mX11_yearsRefused 9 [(0, vr 11 0), (1, vi a1)] [vi x1] M2 Q
  refine jr_if_ne (pc := 9) (tgt := 15) dX11_yearsRefused_9 (by decide) (fun c => ?_) (fun c => ?_)
  · replace h := h.1 c
    refine jr_aload_n (pc := 15) dX11_yearsRefused_15 rfl 0 rfl ?_
    refine jr_get (pc := 16) (v := vi (M2 11 0 0)) fg_X11_93 (by decide) rfl dX11_yearsRefused_16 ?_
    refine jr_if_ne (pc := 19) (tgt := 28) dX11_yearsRefused_19 (by decide) (fun c => ?_) (fun c => ?_)
    · replace h := h.1 c
      refine jr_aload_n (pc := 28) dX11_yearsRefused_28 rfl 0 rfl ?_
      refine jr_get (pc := 29) (v := vr 43 0) fg_X11_31 (by decide) rfl dX11_yearsRefused_29 ?_
      refine jr_bipush (pc := 32) (v := 32) dX11_yearsRefused_32 (by decide) ?_
      refine jr_iald (pc := 34) ⟨rfl, (by decide)⟩ h.1 dX11_yearsRefused_34 ?_
      replace h := h.2
      refine jr_sipush (pc := 35) (v := 9000) dX11_yearsRefused_35 (by decide) ?_
      refine jr_icmp_le (pc := 38) (tgt := 46) dX11_yearsRefused_38 (by decide) (fun c => ?_) (fun c => ?_)
      · replace h := h.1 c
        refine jr_iconst (pc := 46) (v := 0) dX11_yearsRefused_46 (by decide) ?_
        exact jr_iret (pc := 47) rfl dX11_yearsRefused_47 h
      · replace h := h.2 c
        refine jr_ldc (pc := 41) fk_X11_115 dX11_yearsRefused_41 ?_
        refine jr_goto (pc := 43) (tgt := 47) dX11_yearsRefused_43 (by decide) ?_
        exact jr_iret (pc := 47) rfl dX11_yearsRefused_47 h
    · replace h := h.2 c
      refine jr_ldcw (pc := 22) fk_X11_256 dX11_yearsRefused_22 ?_
      refine jr_goto (pc := 25) (tgt := 47) dX11_yearsRefused_25 (by decide) ?_
      exact jr_iret (pc := 47) rfl dX11_yearsRefused_47 h
  · replace h := h.2 c
    refine jr_ldc (pc := 12) fk_X11_111 dX11_yearsRefused_12 ?_
    exact jr_iret (pc := 14) rfl dX11_yearsRefused_14 h
theorem dX11_year_0 : decode cX11_year 0 = .ok (.aload_n 0, 1) := by decide +kernel
theorem dX11_year_1 : decode cX11_year 1 = .ok (.iload_n 1, 1) := by decide +kernel
theorem dX11_year_2 : decode cX11_year 2 = .ok (.invokevirtual 257, 3) := by decide +kernel
theorem dX11_year_5 : decode cX11_year 5 = .ok (.istore_n 2, 1) := by decide +kernel
theorem dX11_year_6 : decode cX11_year 6 = .ok (.iload_n 2, 1) := by decide +kernel
theorem dX11_year_7 : decode cX11_year 7 = .ok (.ifCond .eq 5, 3) := by decide +kernel
theorem dX11_year_10 : decode cX11_year 10 = .ok (.iload_n 2, 1) := by decide +kernel
theorem dX11_year_11 : decode cX11_year 11 = .ok (.ireturn, 1) := by decide +kernel
theorem dX11_year_12 : decode cX11_year 12 = .ok (.aload_n 0, 1) := by decide +kernel
theorem dX11_year_13 : decode cX11_year 13 = .ok (.invokevirtual 260, 3) := by decide +kernel
theorem dX11_year_16 : decode cX11_year 16 = .ok (.iconst 0, 1) := by decide +kernel
theorem dX11_year_17 : decode cX11_year 17 = .ok (.istore_n 3, 1) := by decide +kernel
theorem dX11_year_18 : decode cX11_year 18 = .ok (.iload_n 3, 1) := by decide +kernel
theorem dX11_year_19 : decode cX11_year 19 = .ok (.iload_n 1, 1) := by decide +kernel
theorem dX11_year_20 : decode cX11_year 20 = .ok (.if_icmp .ge 13, 3) := by decide +kernel
theorem dX11_year_23 : decode cX11_year 23 = .ok (.aload_n 0, 1) := by decide +kernel
theorem dX11_year_24 : decode cX11_year 24 = .ok (.invokevirtual 263, 3) := by decide +kernel
theorem dX11_year_27 : decode cX11_year 27 = .ok (.iinc 3 1, 3) := by decide +kernel
theorem dX11_year_30 : decode cX11_year 30 = .ok (.goto (-12), 3) := by decide +kernel
theorem dX11_year_33 : decode cX11_year 33 = .ok (.aload_n 0, 1) := by decide +kernel
theorem dX11_year_34 : decode cX11_year 34 = .ok (.invokevirtual 223, 3) := by decide +kernel
theorem dX11_year_37 : decode cX11_year 37 = .ok (.ireturn, 1) := by decide +kernel
set_option maxHeartbeats 4000000 in
set_option maxRecDepth 20000 in
theorem en_X11_year {a1 : Int32} {M : jw_Mem} {Q : Int32 → jw_Mem → Prop}  (h : (jw_M 1 mX11_yearsRefused [vr 11 0, vi a1] M (fun x1 M2 => ((x1 = 0 → (jw_M 0 mX11_remember [vr 11 0] M2 (fun x3 M4 => jw_J 7 mX11_year 18 [(0, vr 11 0), (1, vi a1), (3, vi 0)] [] M4 Q))) ∧ (¬ x1 = 0 → Q x1 M2))))) : jw_M 7 mX11_year [vr 11 0, vi a1] M Q := by
  refine jw_M.of (by decide) (Nat.le_of_ble_eq_true rfl) ?_
  show jw_J 7 mX11_year 0 [(0, vr 11 0), (1, vi a1)] [] M Q
  refine jr_aload_n (pc := 0) dX11_year_0 rfl 0 rfl ?_
  refine jr_iload_n (pc := 1) dX11_year_1 rfl 1 rfl ?_
  refine jr_callV (pc := 2) (d' := 1) (mt' := mX11_yearsRefused) (k := 11) (n := 0) (As := [vi a1]) (st := []) fc_X11_257 (by decide) (by decide) (Nat.le_of_ble_eq_true rfl) rfl dX11_year_2 (jw_M.mono h (fun x1 M2 h => ?_))
  show jw_J 7 mX11_year 5 [(0, vr 11 0), (1, vi a1)] [vi x1] M2 Q
  refine jr_istore_n (pc := 5) (lv' := [(2, vi x1), (0, vr 11 0), (1, vi a1)]) dX11_year_5 rfl (by decide) rfl ?_
  refine jr_iload_n (pc := 6) dX11_year_6 rfl 0 rfl ?_
  refine jr_if_eq (pc := 7) (tgt := 12) dX11_year_7 (by decide) (fun c => ?_) (fun c => ?_)
  · replace h := h.1 c
    refine jr_aload_n (pc := 12) dX11_year_12 rfl 1 rfl ?_
    refine jr_callV (pc := 13) (d' := 0) (mt' := mX11_remember) (k := 11) (n := 0) (As := []) (st := []) fc_X11_260 (by decide) (by decide) (Nat.le_of_ble_eq_true rfl) rfl dX11_year_13 (jw_M.mono h (fun x3 M4 h => ?_))
    show jw_J 7 mX11_year 16 [(2, vi x1), (0, vr 11 0), (1, vi a1)] [] M4 Q
    refine jr_iconst (pc := 16) (v := 0) dX11_year_16 (by decide) ?_
    refine jr_istore_n (pc := 17) (lv' := [(3, vi 0), (2, vi x1), (0, vr 11 0), (1, vi a1)]) dX11_year_17 rfl (by decide) rfl ?_
    exact jr_sub [2, 3, 0] rfl h
  · replace h := h.2 c
    refine jr_iload_n (pc := 10) dX11_year_10 rfl 0 rfl ?_
    exact jr_iret (pc := 11) rfl dX11_year_11 h
set_option maxHeartbeats 4000000 in
set_option maxRecDepth 20000 in
theorem bk_X11_year_18 {v1 : Int32} {v3 : Int32} {M : jw_Mem} {Q : Int32 → jw_Mem → Prop}  (h : ((v1 ≤ v3 → (jw_M 1 mX11_standingOnes [vr 11 0] M (fun x5 M6 => Q x5 M6))) ∧ (¬ v1 ≤ v3 → (jw_M 6 mX11_pass [vr 11 0] M (fun x7 M8 => jw_J 7 mX11_year 18 [(0, vr 11 0), (1, vi v1), (3, vi (v3 + 1))] [] M8 Q))))) : jw_J 7 mX11_year 18 [(0, vr 11 0), (1, vi v1), (3, vi v3)] [] M Q := by
  refine jr_iload_n (pc := 18) dX11_year_18 rfl 2 rfl ?_
  refine jr_iload_n (pc := 19) dX11_year_19 rfl 1 rfl ?_
  refine jr_icmp_ge (pc := 20) (tgt := 33) dX11_year_20 (by decide) (fun c => ?_) (fun c => ?_)
  · replace h := h.1 c
    refine jr_aload_n (pc := 33) dX11_year_33 rfl 0 rfl ?_
    refine jr_callV (pc := 34) (d' := 1) (mt' := mX11_standingOnes) (k := 11) (n := 0) (As := []) (st := []) fc_X11_223 (by decide) (by decide) (Nat.le_of_ble_eq_true rfl) rfl dX11_year_34 (jw_M.mono h (fun x5 M6 h => ?_))
    show jw_J 7 mX11_year 37 [(0, vr 11 0), (1, vi v1), (3, vi v3)] [vi x5] M6 Q
    exact jr_iret (pc := 37) rfl dX11_year_37 h
  · replace h := h.2 c
    refine jr_aload_n (pc := 23) dX11_year_23 rfl 0 rfl ?_
    refine jr_callV (pc := 24) (d' := 6) (mt' := mX11_pass) (k := 11) (n := 0) (As := []) (st := []) fc_X11_263 (by decide) (by decide) (Nat.le_of_ble_eq_true rfl) rfl dX11_year_24 (jw_M.mono h (fun x7 M8 h => ?_))
    show jw_J 7 mX11_year 27 [(0, vr 11 0), (1, vi v1), (3, vi v3)] [] M8 Q
    refine jr_iinc (pc := 27) (lv' := [(3, vi (v3 + 1)), (0, vr 11 0), (1, vi v1)]) (q := 2) dX11_year_27 rfl (by rfl) (by decide) rfl ?_
    refine jr_goto (pc := 30) (tgt := 18) dX11_year_30 (by decide) ?_
    exact jr_sub [1, 2, 0] rfl h
theorem dX11_canStand_0 : decode cX11_canStand 0 = .ok (.aload_n 0, 1) := by decide +kernel
theorem dX11_canStand_1 : decode cX11_canStand 1 = .ok (.iload_n 1, 1) := by decide +kernel
theorem dX11_canStand_2 : decode cX11_canStand 2 = .ok (.invokevirtual 211, 3) := by decide +kernel
theorem dX11_canStand_5 : decode cX11_canStand 5 = .ok (.ifCond .ne 15, 3) := by decide +kernel
theorem dX11_canStand_8 : decode cX11_canStand 8 = .ok (.aload_n 0, 1) := by decide +kernel
theorem dX11_canStand_9 : decode cX11_canStand 9 = .ok (.iload_n 2, 1) := by decide +kernel
theorem dX11_canStand_10 : decode cX11_canStand 10 = .ok (.invokevirtual 217, 3) := by decide +kernel
theorem dX11_canStand_13 : decode cX11_canStand 13 = .ok (.ifCond .ge 7, 3) := by decide +kernel
theorem dX11_canStand_16 : decode cX11_canStand 16 = .ok (.iconst 1, 1) := by decide +kernel
theorem dX11_canStand_17 : decode cX11_canStand 17 = .ok (.goto 4, 3) := by decide +kernel
theorem dX11_canStand_20 : decode cX11_canStand 20 = .ok (.iconst 0, 1) := by decide +kernel
theorem dX11_canStand_21 : decode cX11_canStand 21 = .ok (.ireturn, 1) := by decide +kernel
set_option maxHeartbeats 4000000 in
set_option maxRecDepth 20000 in
theorem en_X11_canStand {a1 : Int32} {a2 : Int32} {M : jw_Mem} {Q : Int32 → jw_Mem → Prop}  (h : (jw_M 0 mX11_stands [vr 11 0, vi a1] M (fun x1 M2 => ((¬ x1 = 0 → Q 0 M2) ∧ (x1 = 0 → (jw_M 0 mX11_whoIsOn [vr 11 0, vi a2] M2 (fun x3 M4 => ((0 ≤ x3 → Q 0 M4) ∧ (¬ 0 ≤ x3 → Q 1 M4))))))))) : jw_M 1 mX11_canStand [vr 11 0, vi a1, vi a2] M Q := by
  refine jw_M.of (by decide) (Nat.le_of_ble_eq_true rfl) ?_
  show jw_J 1 mX11_canStand 0 [(0, vr 11 0), (1, vi a1), (2, vi a2)] [] M Q
  refine jr_aload_n (pc := 0) dX11_canStand_0 rfl 0 rfl ?_
  refine jr_iload_n (pc := 1) dX11_canStand_1 rfl 1 rfl ?_
  refine jr_callV (pc := 2) (d' := 0) (mt' := mX11_stands) (k := 11) (n := 0) (As := [vi a1]) (st := []) fc_X11_211 (by decide) (by decide) (Nat.le_of_ble_eq_true rfl) rfl dX11_canStand_2 (jw_M.mono h (fun x1 M2 h => ?_))
  show jw_J 1 mX11_canStand 5 [(0, vr 11 0), (1, vi a1), (2, vi a2)] [vi x1] M2 Q
  refine jr_if_ne (pc := 5) (tgt := 20) dX11_canStand_5 (by decide) (fun c => ?_) (fun c => ?_)
  · replace h := h.1 c
    refine jr_iconst (pc := 20) (v := 0) dX11_canStand_20 (by decide) ?_
    exact jr_zret (pc := 21) rfl dX11_canStand_21 (Or.inl rfl) h
  · replace h := h.2 c
    refine jr_aload_n (pc := 8) dX11_canStand_8 rfl 0 rfl ?_
    refine jr_iload_n (pc := 9) dX11_canStand_9 rfl 2 rfl ?_
    refine jr_callV (pc := 10) (d' := 0) (mt' := mX11_whoIsOn) (k := 11) (n := 0) (As := [vi a2]) (st := []) fc_X11_217 (by decide) (by decide) (Nat.le_of_ble_eq_true rfl) rfl dX11_canStand_10 (jw_M.mono h (fun x3 M4 h => ?_))
    show jw_J 1 mX11_canStand 13 [(0, vr 11 0), (1, vi a1), (2, vi a2)] [vi x3] M4 Q
    refine jr_if_ge (pc := 13) (tgt := 20) dX11_canStand_13 (by decide) (fun c => ?_) (fun c => ?_)
    · replace h := h.1 c
      refine jr_iconst (pc := 20) (v := 0) dX11_canStand_20 (by decide) ?_
      exact jr_zret (pc := 21) rfl dX11_canStand_21 (Or.inl rfl) h
    · replace h := h.2 c
      refine jr_iconst (pc := 16) (v := 1) dX11_canStand_16 (by decide) ?_
      refine jr_goto (pc := 17) (tgt := 21) dX11_canStand_17 (by decide) ?_
      exact jr_zret (pc := 21) rfl dX11_canStand_21 (Or.inr rfl) h
theorem dX11_stand_0 : decode cX11_stand 0 = .ok (.aload_n 0, 1) := by decide +kernel
theorem dX11_stand_1 : decode cX11_stand 1 = .ok (.iload_n 1, 1) := by decide +kernel
theorem dX11_stand_2 : decode cX11_stand 2 = .ok (.invokevirtual 242, 3) := by decide +kernel
theorem dX11_stand_5 : decode cX11_stand 5 = .ok (.ifCond .eq 11, 3) := by decide +kernel
theorem dX11_stand_8 : decode cX11_stand 8 = .ok (.aload_n 0, 1) := by decide +kernel
theorem dX11_stand_9 : decode cX11_stand 9 = .ok (.iload_n 2, 1) := by decide +kernel
theorem dX11_stand_10 : decode cX11_stand 10 = .ok (.invokevirtual 238, 3) := by decide +kernel
theorem dX11_stand_13 : decode cX11_stand 13 = .ok (.ifCond .ne 6, 3) := by decide +kernel
theorem dX11_stand_16 : decode cX11_stand 16 = .ok (.ldc 241, 2) := by decide +kernel
theorem dX11_stand_18 : decode cX11_stand 18 = .ok (.ireturn, 1) := by decide +kernel
theorem dX11_stand_19 : decode cX11_stand 19 = .ok (.aload_n 0, 1) := by decide +kernel
theorem dX11_stand_20 : decode cX11_stand 20 = .ok (.iload_n 1, 1) := by decide +kernel
theorem dX11_stand_21 : decode cX11_stand 21 = .ok (.iload_n 2, 1) := by decide +kernel
theorem dX11_stand_22 : decode cX11_stand 22 = .ok (.invokevirtual 266, 3) := by decide +kernel
theorem dX11_stand_25 : decode cX11_stand 25 = .ok (.ifCond .ne 7, 3) := by decide +kernel
theorem dX11_stand_28 : decode cX11_stand 28 = .ok (.ldc_w 256, 3) := by decide +kernel
theorem dX11_stand_31 : decode cX11_stand 31 = .ok (.ireturn, 1) := by decide +kernel
theorem dX11_stand_32 : decode cX11_stand 32 = .ok (.aload_n 0, 1) := by decide +kernel
theorem dX11_stand_33 : decode cX11_stand 33 = .ok (.invokevirtual 260, 3) := by decide +kernel
theorem dX11_stand_36 : decode cX11_stand 36 = .ok (.aload_n 0, 1) := by decide +kernel
theorem dX11_stand_37 : decode cX11_stand 37 = .ok (.getfield 31, 3) := by decide +kernel
theorem dX11_stand_40 : decode cX11_stand 40 = .ok (.iload_n 1, 1) := by decide +kernel
theorem dX11_stand_41 : decode cX11_stand 41 = .ok (.iload_n 2, 1) := by decide +kernel
theorem dX11_stand_42 : decode cX11_stand 42 = .ok (.iastore, 1) := by decide +kernel
theorem dX11_stand_43 : decode cX11_stand 43 = .ok (.aload_n 0, 1) := by decide +kernel
theorem dX11_stand_44 : decode cX11_stand 44 = .ok (.iload_n 1, 1) := by decide +kernel
theorem dX11_stand_45 : decode cX11_stand 45 = .ok (.invokevirtual 214, 3) := by decide +kernel
theorem dX11_stand_48 : decode cX11_stand 48 = .ok (.sipush 1000, 3) := by decide +kernel
theorem dX11_stand_51 : decode cX11_stand 51 = .ok (.iadd, 1) := by decide +kernel
theorem dX11_stand_52 : decode cX11_stand 52 = .ok (.ireturn, 1) := by decide +kernel
set_option maxHeartbeats 4000000 in
set_option maxRecDepth 20000 in
theorem en_X11_stand {a1 : Int32} {a2 : Int32} {M : jw_Mem} {Q : Int32 → jw_Mem → Prop}  (h : (jw_M 1 mX11_isStatue [vr 11 0, vi a1] M (fun x1 M2 => ((x1 = 0 → Q (-1000000001) M2) ∧ (¬ x1 = 0 → (jw_M 1 mX11_isPlinth [vr 11 0, vi a2] M2 (fun x3 M4 => ((¬ x3 = 0 → (jw_M 1 mX11_canStand [vr 11 0, vi a1, vi a2] M4 (fun x5 M6 => ((¬ x5 = 0 → (jw_M 0 mX11_remember [vr 11 0] M6 (fun x7 M8 => (vp_in a1 33 ∧ (∀ M9 : jw_Mem, M9 = jw_up M8 43 0 a1.toNatClampNeg a2 → (jw_M 3 mX11_marginOf [vr 11 0, vi a1] M9 (fun x10 M11 => Q (x10 + 1000) M11))))))) ∧ (x5 = 0 → Q (-1000000003) M6))))) ∧ (x3 = 0 → Q (-1000000001) M4))))))))) : jw_M 4 mX11_stand [vr 11 0, vi a1, vi a2] M Q := by
  refine jw_M.of (by decide) (Nat.le_of_ble_eq_true rfl) ?_
  show jw_J 4 mX11_stand 0 [(0, vr 11 0), (1, vi a1), (2, vi a2)] [] M Q
  refine jr_aload_n (pc := 0) dX11_stand_0 rfl 0 rfl ?_
  refine jr_iload_n (pc := 1) dX11_stand_1 rfl 1 rfl ?_
  refine jr_callV (pc := 2) (d' := 1) (mt' := mX11_isStatue) (k := 11) (n := 0) (As := [vi a1]) (st := []) fc_X11_242 (by decide) (by decide) (Nat.le_of_ble_eq_true rfl) rfl dX11_stand_2 (jw_M.mono h (fun x1 M2 h => ?_))
  show jw_J 4 mX11_stand 5 [(0, vr 11 0), (1, vi a1), (2, vi a2)] [vi x1] M2 Q
  refine jr_if_eq (pc := 5) (tgt := 16) dX11_stand_5 (by decide) (fun c => ?_) (fun c => ?_)
  · replace h := h.1 c
    refine jr_ldc (pc := 16) fk_X11_241 dX11_stand_16 ?_
    exact jr_iret (pc := 18) rfl dX11_stand_18 h
  · replace h := h.2 c
    refine jr_aload_n (pc := 8) dX11_stand_8 rfl 0 rfl ?_
    refine jr_iload_n (pc := 9) dX11_stand_9 rfl 2 rfl ?_
    refine jr_callV (pc := 10) (d' := 1) (mt' := mX11_isPlinth) (k := 11) (n := 0) (As := [vi a2]) (st := []) fc_X11_238 (by decide) (by decide) (Nat.le_of_ble_eq_true rfl) rfl dX11_stand_10 (jw_M.mono h (fun x3 M4 h => ?_))
    show jw_J 4 mX11_stand 13 [(0, vr 11 0), (1, vi a1), (2, vi a2)] [vi x3] M4 Q
    refine jr_if_ne (pc := 13) (tgt := 19) dX11_stand_13 (by decide) (fun c => ?_) (fun c => ?_)
    · replace h := h.1 c
      refine jr_aload_n (pc := 19) dX11_stand_19 rfl 0 rfl ?_
      refine jr_iload_n (pc := 20) dX11_stand_20 rfl 1 rfl ?_
      refine jr_iload_n (pc := 21) dX11_stand_21 rfl 2 rfl ?_
      refine jr_callV (pc := 22) (d' := 1) (mt' := mX11_canStand) (k := 11) (n := 0) (As := [vi a1, vi a2]) (st := []) fc_X11_266 (by decide) (by decide) (Nat.le_of_ble_eq_true rfl) rfl dX11_stand_22 (jw_M.mono h (fun x5 M6 h => ?_))
      show jw_J 4 mX11_stand 25 [(0, vr 11 0), (1, vi a1), (2, vi a2)] [vi x5] M6 Q
      refine jr_if_ne (pc := 25) (tgt := 32) dX11_stand_25 (by decide) (fun c => ?_) (fun c => ?_)
      · replace h := h.1 c
        refine jr_aload_n (pc := 32) dX11_stand_32 rfl 0 rfl ?_
        refine jr_callV (pc := 33) (d' := 0) (mt' := mX11_remember) (k := 11) (n := 0) (As := []) (st := []) fc_X11_260 (by decide) (by decide) (Nat.le_of_ble_eq_true rfl) rfl dX11_stand_33 (jw_M.mono h (fun x7 M8 h => ?_))
        show jw_J 4 mX11_stand 36 [(0, vr 11 0), (1, vi a1), (2, vi a2)] [] M8 Q
        refine jr_aload_n (pc := 36) dX11_stand_36 rfl 0 rfl ?_
        refine jr_get (pc := 37) (v := vr 43 0) fg_X11_31 (by decide) rfl dX11_stand_37 ?_
        refine jr_iload_n (pc := 40) dX11_stand_40 rfl 1 rfl ?_
        refine jr_iload_n (pc := 41) dX11_stand_41 rfl 2 rfl ?_
        refine jr_iast (pc := 42) ⟨rfl, (by decide)⟩ h.1 dX11_stand_42 ?_
        replace h := h.2
        replace h := h _ rfl
        generalize jw_up M8 43 0 a1.toNatClampNeg a2 = M9 at h ⊢
        refine jr_aload_n (pc := 43) dX11_stand_43 rfl 0 rfl ?_
        refine jr_iload_n (pc := 44) dX11_stand_44 rfl 1 rfl ?_
        refine jr_callV (pc := 45) (d' := 3) (mt' := mX11_marginOf) (k := 11) (n := 0) (As := [vi a1]) (st := []) fc_X11_214 (by decide) (by decide) (Nat.le_of_ble_eq_true rfl) rfl dX11_stand_45 (jw_M.mono h (fun x10 M11 h => ?_))
        show jw_J 4 mX11_stand 48 [(0, vr 11 0), (1, vi a1), (2, vi a2)] [vi x10] M11 Q
        refine jr_sipush (pc := 48) (v := 1000) dX11_stand_48 (by decide) ?_
        refine jr_iadd (pc := 51) dX11_stand_51 ?_
        exact jr_iret (pc := 52) rfl dX11_stand_52 h
      · replace h := h.2 c
        refine jr_ldcw (pc := 28) fk_X11_256 dX11_stand_28 ?_
        exact jr_iret (pc := 31) rfl dX11_stand_31 h
    · replace h := h.2 c
      refine jr_ldc (pc := 16) fk_X11_241 dX11_stand_16 ?_
      exact jr_iret (pc := 18) rfl dX11_stand_18 h
theorem dX11_down_0 : decode cX11_down 0 = .ok (.aload_n 0, 1) := by decide +kernel
theorem dX11_down_1 : decode cX11_down 1 = .ok (.iload_n 1, 1) := by decide +kernel
theorem dX11_down_2 : decode cX11_down 2 = .ok (.invokevirtual 242, 3) := by decide +kernel
theorem dX11_down_5 : decode cX11_down 5 = .ok (.ifCond .ne 6, 3) := by decide +kernel
theorem dX11_down_8 : decode cX11_down 8 = .ok (.ldc 241, 2) := by decide +kernel
theorem dX11_down_10 : decode cX11_down 10 = .ok (.ireturn, 1) := by decide +kernel
theorem dX11_down_11 : decode cX11_down 11 = .ok (.aload_n 0, 1) := by decide +kernel
theorem dX11_down_12 : decode cX11_down 12 = .ok (.iload_n 1, 1) := by decide +kernel
theorem dX11_down_13 : decode cX11_down 13 = .ok (.invokevirtual 211, 3) := by decide +kernel
theorem dX11_down_16 : decode cX11_down 16 = .ok (.ifCond .ne 7, 3) := by decide +kernel
theorem dX11_down_19 : decode cX11_down 19 = .ok (.ldc_w 256, 3) := by decide +kernel
theorem dX11_down_22 : decode cX11_down 22 = .ok (.ireturn, 1) := by decide +kernel
theorem dX11_down_23 : decode cX11_down 23 = .ok (.aload_n 0, 1) := by decide +kernel
theorem dX11_down_24 : decode cX11_down 24 = .ok (.invokevirtual 260, 3) := by decide +kernel
theorem dX11_down_27 : decode cX11_down 27 = .ok (.aload_n 0, 1) := by decide +kernel
theorem dX11_down_28 : decode cX11_down 28 = .ok (.getfield 31, 3) := by decide +kernel
theorem dX11_down_31 : decode cX11_down 31 = .ok (.iload_n 1, 1) := by decide +kernel
theorem dX11_down_32 : decode cX11_down 32 = .ok (.iaload, 1) := by decide +kernel
theorem dX11_down_33 : decode cX11_down 33 = .ok (.istore_n 2, 1) := by decide +kernel
theorem dX11_down_34 : decode cX11_down 34 = .ok (.aload_n 0, 1) := by decide +kernel
theorem dX11_down_35 : decode cX11_down 35 = .ok (.getfield 31, 3) := by decide +kernel
theorem dX11_down_38 : decode cX11_down 38 = .ok (.iload_n 1, 1) := by decide +kernel
theorem dX11_down_39 : decode cX11_down 39 = .ok (.iconst (-1), 1) := by decide +kernel
theorem dX11_down_40 : decode cX11_down 40 = .ok (.iastore, 1) := by decide +kernel
theorem dX11_down_41 : decode cX11_down 41 = .ok (.iload_n 2, 1) := by decide +kernel
theorem dX11_down_42 : decode cX11_down 42 = .ok (.ireturn, 1) := by decide +kernel
set_option maxHeartbeats 4000000 in
set_option maxRecDepth 20000 in
theorem en_X11_down {a1 : Int32} {M : jw_Mem} {Q : Int32 → jw_Mem → Prop}  (h : (jw_M 1 mX11_isStatue [vr 11 0, vi a1] M (fun x1 M2 => ((¬ x1 = 0 → (jw_M 0 mX11_stands [vr 11 0, vi a1] M2 (fun x3 M4 => ((¬ x3 = 0 → (jw_M 0 mX11_remember [vr 11 0] M4 (fun x5 M6 => (vp_in a1 33 ∧ (vp_in a1 33 ∧ (∀ M7 : jw_Mem, M7 = jw_up M6 43 0 a1.toNatClampNeg (-1) → Q (M6 43 0 a1.toNatClampNeg) M7)))))) ∧ (x3 = 0 → Q (-1000000003) M4))))) ∧ (x1 = 0 → Q (-1000000001) M2))))) : jw_M 2 mX11_down [vr 11 0, vi a1] M Q := by
  refine jw_M.of (by decide) (Nat.le_of_ble_eq_true rfl) ?_
  show jw_J 2 mX11_down 0 [(0, vr 11 0), (1, vi a1)] [] M Q
  refine jr_aload_n (pc := 0) dX11_down_0 rfl 0 rfl ?_
  refine jr_iload_n (pc := 1) dX11_down_1 rfl 1 rfl ?_
  refine jr_callV (pc := 2) (d' := 1) (mt' := mX11_isStatue) (k := 11) (n := 0) (As := [vi a1]) (st := []) fc_X11_242 (by decide) (by decide) (Nat.le_of_ble_eq_true rfl) rfl dX11_down_2 (jw_M.mono h (fun x1 M2 h => ?_))
  show jw_J 2 mX11_down 5 [(0, vr 11 0), (1, vi a1)] [vi x1] M2 Q
  refine jr_if_ne (pc := 5) (tgt := 11) dX11_down_5 (by decide) (fun c => ?_) (fun c => ?_)
  · replace h := h.1 c
    refine jr_aload_n (pc := 11) dX11_down_11 rfl 0 rfl ?_
    refine jr_iload_n (pc := 12) dX11_down_12 rfl 1 rfl ?_
    refine jr_callV (pc := 13) (d' := 0) (mt' := mX11_stands) (k := 11) (n := 0) (As := [vi a1]) (st := []) fc_X11_211 (by decide) (by decide) (Nat.le_of_ble_eq_true rfl) rfl dX11_down_13 (jw_M.mono h (fun x3 M4 h => ?_))
    show jw_J 2 mX11_down 16 [(0, vr 11 0), (1, vi a1)] [vi x3] M4 Q
    refine jr_if_ne (pc := 16) (tgt := 23) dX11_down_16 (by decide) (fun c => ?_) (fun c => ?_)
    · replace h := h.1 c
      refine jr_aload_n (pc := 23) dX11_down_23 rfl 0 rfl ?_
      refine jr_callV (pc := 24) (d' := 0) (mt' := mX11_remember) (k := 11) (n := 0) (As := []) (st := []) fc_X11_260 (by decide) (by decide) (Nat.le_of_ble_eq_true rfl) rfl dX11_down_24 (jw_M.mono h (fun x5 M6 h => ?_))
      show jw_J 2 mX11_down 27 [(0, vr 11 0), (1, vi a1)] [] M6 Q
      refine jr_aload_n (pc := 27) dX11_down_27 rfl 0 rfl ?_
      refine jr_get (pc := 28) (v := vr 43 0) fg_X11_31 (by decide) rfl dX11_down_28 ?_
      refine jr_iload_n (pc := 31) dX11_down_31 rfl 1 rfl ?_
      refine jr_iald (pc := 32) ⟨rfl, (by decide)⟩ h.1 dX11_down_32 ?_
      replace h := h.2
      refine jr_istore_n (pc := 33) (lv' := [(2, vi (M6 43 0 a1.toNatClampNeg)), (0, vr 11 0), (1, vi a1)]) dX11_down_33 rfl (by decide) rfl ?_
      refine jr_aload_n (pc := 34) dX11_down_34 rfl 1 rfl ?_
      refine jr_get (pc := 35) (v := vr 43 0) fg_X11_31 (by decide) rfl dX11_down_35 ?_
      refine jr_iload_n (pc := 38) dX11_down_38 rfl 2 rfl ?_
      refine jr_iconst (pc := 39) (v := (-1)) dX11_down_39 (by decide) ?_
      refine jr_iast (pc := 40) ⟨rfl, (by decide)⟩ h.1 dX11_down_40 ?_
      replace h := h.2
      replace h := h _ rfl
      generalize jw_up M6 43 0 a1.toNatClampNeg (-1) = M7 at h ⊢
      refine jr_iload_n (pc := 41) dX11_down_41 rfl 0 rfl ?_
      exact jr_iret (pc := 42) rfl dX11_down_42 h
    · replace h := h.2 c
      refine jr_ldcw (pc := 19) fk_X11_256 dX11_down_19 ?_
      exact jr_iret (pc := 22) rfl dX11_down_22 h
  · replace h := h.2 c
    refine jr_ldc (pc := 8) fk_X11_241 dX11_down_8 ?_
    exact jr_iret (pc := 10) rfl dX11_down_10 h
theorem dX11_scrub_0 : decode cX11_scrub 0 = .ok (.aload_n 0, 1) := by decide +kernel
theorem dX11_scrub_1 : decode cX11_scrub 1 = .ok (.iload_n 1, 1) := by decide +kernel
theorem dX11_scrub_2 : decode cX11_scrub 2 = .ok (.invokevirtual 242, 3) := by decide +kernel
theorem dX11_scrub_5 : decode cX11_scrub 5 = .ok (.ifCond .ne 6, 3) := by decide +kernel
theorem dX11_scrub_8 : decode cX11_scrub 8 = .ok (.ldc 241, 2) := by decide +kernel
theorem dX11_scrub_10 : decode cX11_scrub 10 = .ok (.ireturn, 1) := by decide +kernel
theorem dX11_scrub_11 : decode cX11_scrub 11 = .ok (.aload_n 0, 1) := by decide +kernel
theorem dX11_scrub_12 : decode cX11_scrub 12 = .ok (.invokevirtual 260, 3) := by decide +kernel
theorem dX11_scrub_15 : decode cX11_scrub 15 = .ok (.aload_n 0, 1) := by decide +kernel
theorem dX11_scrub_16 : decode cX11_scrub 16 = .ok (.getfield 31, 3) := by decide +kernel
theorem dX11_scrub_19 : decode cX11_scrub 19 = .ok (.bipush 6, 2) := by decide +kernel
theorem dX11_scrub_21 : decode cX11_scrub 21 = .ok (.iload_n 1, 1) := by decide +kernel
theorem dX11_scrub_22 : decode cX11_scrub 22 = .ok (.iadd, 1) := by decide +kernel
theorem dX11_scrub_23 : decode cX11_scrub 23 = .ok (.iaload, 1) := by decide +kernel
theorem dX11_scrub_24 : decode cX11_scrub 24 = .ok (.istore_n 2, 1) := by decide +kernel
theorem dX11_scrub_25 : decode cX11_scrub 25 = .ok (.aload_n 0, 1) := by decide +kernel
theorem dX11_scrub_26 : decode cX11_scrub 26 = .ok (.getfield 31, 3) := by decide +kernel
theorem dX11_scrub_29 : decode cX11_scrub 29 = .ok (.bipush 6, 2) := by decide +kernel
theorem dX11_scrub_31 : decode cX11_scrub 31 = .ok (.iload_n 1, 1) := by decide +kernel
theorem dX11_scrub_32 : decode cX11_scrub 32 = .ok (.iadd, 1) := by decide +kernel
theorem dX11_scrub_33 : decode cX11_scrub 33 = .ok (.iconst 0, 1) := by decide +kernel
theorem dX11_scrub_34 : decode cX11_scrub 34 = .ok (.iastore, 1) := by decide +kernel
theorem dX11_scrub_35 : decode cX11_scrub 35 = .ok (.iload_n 2, 1) := by decide +kernel
theorem dX11_scrub_36 : decode cX11_scrub 36 = .ok (.ireturn, 1) := by decide +kernel
set_option maxHeartbeats 4000000 in
set_option maxRecDepth 20000 in
theorem en_X11_scrub {a1 : Int32} {M : jw_Mem} {Q : Int32 → jw_Mem → Prop}  (h : (jw_M 1 mX11_isStatue [vr 11 0, vi a1] M (fun x1 M2 => ((¬ x1 = 0 → (jw_M 0 mX11_remember [vr 11 0] M2 (fun x3 M4 => (vp_in (6 + a1) 33 ∧ (vp_in (6 + a1) 33 ∧ (∀ M5 : jw_Mem, M5 = jw_up M4 43 0 ((6 + a1) : Int32).toNatClampNeg 0 → Q (M4 43 0 ((6 + a1) : Int32).toNatClampNeg) M5)))))) ∧ (x1 = 0 → Q (-1000000001) M2))))) : jw_M 2 mX11_scrub [vr 11 0, vi a1] M Q := by
  refine jw_M.of (by decide) (Nat.le_of_ble_eq_true rfl) ?_
  show jw_J 2 mX11_scrub 0 [(0, vr 11 0), (1, vi a1)] [] M Q
  refine jr_aload_n (pc := 0) dX11_scrub_0 rfl 0 rfl ?_
  refine jr_iload_n (pc := 1) dX11_scrub_1 rfl 1 rfl ?_
  refine jr_callV (pc := 2) (d' := 1) (mt' := mX11_isStatue) (k := 11) (n := 0) (As := [vi a1]) (st := []) fc_X11_242 (by decide) (by decide) (Nat.le_of_ble_eq_true rfl) rfl dX11_scrub_2 (jw_M.mono h (fun x1 M2 h => ?_))
  show jw_J 2 mX11_scrub 5 [(0, vr 11 0), (1, vi a1)] [vi x1] M2 Q
  refine jr_if_ne (pc := 5) (tgt := 11) dX11_scrub_5 (by decide) (fun c => ?_) (fun c => ?_)
  · replace h := h.1 c
    refine jr_aload_n (pc := 11) dX11_scrub_11 rfl 0 rfl ?_
    refine jr_callV (pc := 12) (d' := 0) (mt' := mX11_remember) (k := 11) (n := 0) (As := []) (st := []) fc_X11_260 (by decide) (by decide) (Nat.le_of_ble_eq_true rfl) rfl dX11_scrub_12 (jw_M.mono h (fun x3 M4 h => ?_))
    show jw_J 2 mX11_scrub 15 [(0, vr 11 0), (1, vi a1)] [] M4 Q
    refine jr_aload_n (pc := 15) dX11_scrub_15 rfl 0 rfl ?_
    refine jr_get (pc := 16) (v := vr 43 0) fg_X11_31 (by decide) rfl dX11_scrub_16 ?_
    refine jr_bipush (pc := 19) (v := 6) dX11_scrub_19 (by decide) ?_
    refine jr_iload_n (pc := 21) dX11_scrub_21 rfl 1 rfl ?_
    refine jr_iadd (pc := 22) dX11_scrub_22 ?_
    refine jr_iald (pc := 23) ⟨rfl, (by decide)⟩ h.1 dX11_scrub_23 ?_
    replace h := h.2
    refine jr_istore_n (pc := 24) (lv' := [(2, vi (M4 43 0 ((6 + a1) : Int32).toNatClampNeg)), (0, vr 11 0), (1, vi a1)]) dX11_scrub_24 rfl (by decide) rfl ?_
    refine jr_aload_n (pc := 25) dX11_scrub_25 rfl 1 rfl ?_
    refine jr_get (pc := 26) (v := vr 43 0) fg_X11_31 (by decide) rfl dX11_scrub_26 ?_
    refine jr_bipush (pc := 29) (v := 6) dX11_scrub_29 (by decide) ?_
    refine jr_iload_n (pc := 31) dX11_scrub_31 rfl 2 rfl ?_
    refine jr_iadd (pc := 32) dX11_scrub_32 ?_
    refine jr_iconst (pc := 33) (v := 0) dX11_scrub_33 (by decide) ?_
    refine jr_iast (pc := 34) ⟨rfl, (by decide)⟩ h.1 dX11_scrub_34 ?_
    replace h := h.2
    replace h := h _ rfl
    generalize jw_up M4 43 0 ((6 + a1) : Int32).toNatClampNeg 0 = M5 at h ⊢
    refine jr_iload_n (pc := 35) dX11_scrub_35 rfl 0 rfl ?_
    exact jr_iret (pc := 36) rfl dX11_scrub_36 h
  · replace h := h.2 c
    refine jr_ldc (pc := 8) fk_X11_241 dX11_scrub_8 ?_
    exact jr_iret (pc := 10) rfl dX11_scrub_10 h
theorem dX11_walk_0 : decode cX11_walk 0 = .ok (.aload_n 0, 1) := by decide +kernel
theorem dX11_walk_1 : decode cX11_walk 1 = .ok (.iload_n 1, 1) := by decide +kernel
theorem dX11_walk_2 : decode cX11_walk 2 = .ok (.invokevirtual 245, 3) := by decide +kernel
theorem dX11_walk_5 : decode cX11_walk 5 = .ok (.ifCond .eq 21, 3) := by decide +kernel
theorem dX11_walk_8 : decode cX11_walk 8 = .ok (.iload_n 2, 1) := by decide +kernel
theorem dX11_walk_9 : decode cX11_walk 9 = .ok (.i2l, 1) := by decide +kernel
theorem dX11_walk_10 : decode cX11_walk 10 = .ok (.lconst 0, 1) := by decide +kernel
theorem dX11_walk_11 : decode cX11_walk 11 = .ok (.iconst 1, 1) := by decide +kernel
theorem dX11_walk_12 : decode cX11_walk 12 = .ok (.aload_n 0, 1) := by decide +kernel
theorem dX11_walk_13 : decode cX11_walk 13 = .ok (.getfield 96, 3) := by decide +kernel
theorem dX11_walk_16 : decode cX11_walk 16 = .ok (.ishl, 1) := by decide +kernel
theorem dX11_walk_17 : decode cX11_walk 17 = .ok (.iconst 1, 1) := by decide +kernel
theorem dX11_walk_18 : decode cX11_walk 18 = .ok (.isub, 1) := by decide +kernel
theorem dX11_walk_19 : decode cX11_walk 19 = .ok (.i2l, 1) := by decide +kernel
theorem dX11_walk_20 : decode cX11_walk 20 = .ok (.invokestatic 99, 3) := by decide +kernel
theorem dX11_walk_23 : decode cX11_walk 23 = .ok (.ifCond .ne 6, 3) := by decide +kernel
theorem dX11_walk_26 : decode cX11_walk 26 = .ok (.ldc 241, 2) := by decide +kernel
theorem dX11_walk_28 : decode cX11_walk 28 = .ok (.ireturn, 1) := by decide +kernel
theorem dX11_walk_29 : decode cX11_walk 29 = .ok (.aload_n 0, 1) := by decide +kernel
theorem dX11_walk_30 : decode cX11_walk 30 = .ok (.invokevirtual 260, 3) := by decide +kernel
theorem dX11_walk_33 : decode cX11_walk 33 = .ok (.aload_n 0, 1) := by decide +kernel
theorem dX11_walk_34 : decode cX11_walk 34 = .ok (.getfield 31, 3) := by decide +kernel
theorem dX11_walk_37 : decode cX11_walk 37 = .ok (.bipush 18, 2) := by decide +kernel
theorem dX11_walk_39 : decode cX11_walk 39 = .ok (.iload_n 1, 1) := by decide +kernel
theorem dX11_walk_40 : decode cX11_walk 40 = .ok (.iadd, 1) := by decide +kernel
theorem dX11_walk_41 : decode cX11_walk 41 = .ok (.iaload, 1) := by decide +kernel
theorem dX11_walk_42 : decode cX11_walk 42 = .ok (.istore_n 3, 1) := by decide +kernel
theorem dX11_walk_43 : decode cX11_walk 43 = .ok (.aload_n 0, 1) := by decide +kernel
theorem dX11_walk_44 : decode cX11_walk 44 = .ok (.getfield 31, 3) := by decide +kernel
theorem dX11_walk_47 : decode cX11_walk 47 = .ok (.bipush 18, 2) := by decide +kernel
theorem dX11_walk_49 : decode cX11_walk 49 = .ok (.iload_n 1, 1) := by decide +kernel
theorem dX11_walk_50 : decode cX11_walk 50 = .ok (.iadd, 1) := by decide +kernel
theorem dX11_walk_51 : decode cX11_walk 51 = .ok (.iload_n 2, 1) := by decide +kernel
theorem dX11_walk_52 : decode cX11_walk 52 = .ok (.iastore, 1) := by decide +kernel
theorem dX11_walk_53 : decode cX11_walk 53 = .ok (.iload_n 3, 1) := by decide +kernel
theorem dX11_walk_54 : decode cX11_walk 54 = .ok (.ireturn, 1) := by decide +kernel
set_option maxHeartbeats 4000000 in
set_option maxRecDepth 20000 in
theorem en_X11_walk {a1 : Int32} {a2 : Int32} {M : jw_Mem} {Q : Int32 → jw_Mem → Prop}  (h : (jw_M 1 mX11_isWalker [vr 11 0, vi a1] M (fun x1 M2 => ((x1 = 0 → Q (-1000000001) M2) ∧ (¬ x1 = 0 → (jw_M 0 mX11_in [vl (a2.toInt64), vl 0, vl ((((1 : Int32) <<< ((M2 11 0 1) &&& 31)) - 1).toInt64)] M2 (fun x3 M4 => ((¬ x3 = 0 → (jw_M 0 mX11_remember [vr 11 0] M4 (fun x5 M6 => (vp_in (18 + a1) 33 ∧ (vp_in (18 + a1) 33 ∧ (∀ M7 : jw_Mem, M7 = jw_up M6 43 0 ((18 + a1) : Int32).toNatClampNeg a2 → Q (M6 43 0 ((18 + a1) : Int32).toNatClampNeg) M7)))))) ∧ (x3 = 0 → Q (-1000000001) M4))))))))) : jw_M 2 mX11_walk [vr 11 0, vi a1, vi a2] M Q := by
  refine jw_M.of (by decide) (Nat.le_of_ble_eq_true rfl) ?_
  show jw_J 2 mX11_walk 0 [(0, vr 11 0), (1, vi a1), (2, vi a2)] [] M Q
  refine jr_aload_n (pc := 0) dX11_walk_0 rfl 0 rfl ?_
  refine jr_iload_n (pc := 1) dX11_walk_1 rfl 1 rfl ?_
  refine jr_callV (pc := 2) (d' := 1) (mt' := mX11_isWalker) (k := 11) (n := 0) (As := [vi a1]) (st := []) fc_X11_245 (by decide) (by decide) (Nat.le_of_ble_eq_true rfl) rfl dX11_walk_2 (jw_M.mono h (fun x1 M2 h => ?_))
  show jw_J 2 mX11_walk 5 [(0, vr 11 0), (1, vi a1), (2, vi a2)] [vi x1] M2 Q
  refine jr_if_eq (pc := 5) (tgt := 26) dX11_walk_5 (by decide) (fun c => ?_) (fun c => ?_)
  · replace h := h.1 c
    refine jr_ldc (pc := 26) fk_X11_241 dX11_walk_26 ?_
    exact jr_iret (pc := 28) rfl dX11_walk_28 h
  · replace h := h.2 c
    refine jr_iload_n (pc := 8) dX11_walk_8 rfl 2 rfl ?_
    refine jr_i2l (pc := 9) dX11_walk_9 ?_
    refine jr_lconst (pc := 10) (v := 0) dX11_walk_10 (by decide) ?_
    refine jr_iconst (pc := 11) (v := 1) dX11_walk_11 (by decide) ?_
    refine jr_aload_n (pc := 12) dX11_walk_12 rfl 0 rfl ?_
    refine jr_get (pc := 13) (v := vi (M2 11 0 1)) fg_X11_96 (by decide) rfl dX11_walk_13 ?_
    refine jr_ishl (pc := 16) dX11_walk_16 ?_
    refine jr_iconst (pc := 17) (v := 1) dX11_walk_17 (by decide) ?_
    refine jr_isub (pc := 18) dX11_walk_18 ?_
    refine jr_i2l (pc := 19) dX11_walk_19 ?_
    refine jr_callS (pc := 20) (d' := 0) (mt' := mX11_in) (As := [vl (a2.toInt64), vl 0, vl ((((1 : Int32) <<< ((M2 11 0 1) &&& 31)) - 1).toInt64)]) (st := []) fc_X11_99 (by decide) (Nat.le_of_ble_eq_true rfl) rfl dX11_walk_20 (jw_M.mono h (fun x3 M4 h => ?_))
    show jw_J 2 mX11_walk 23 [(0, vr 11 0), (1, vi a1), (2, vi a2)] [vi x3] M4 Q
    refine jr_if_ne (pc := 23) (tgt := 29) dX11_walk_23 (by decide) (fun c => ?_) (fun c => ?_)
    · replace h := h.1 c
      refine jr_aload_n (pc := 29) dX11_walk_29 rfl 0 rfl ?_
      refine jr_callV (pc := 30) (d' := 0) (mt' := mX11_remember) (k := 11) (n := 0) (As := []) (st := []) fc_X11_260 (by decide) (by decide) (Nat.le_of_ble_eq_true rfl) rfl dX11_walk_30 (jw_M.mono h (fun x5 M6 h => ?_))
      show jw_J 2 mX11_walk 33 [(0, vr 11 0), (1, vi a1), (2, vi a2)] [] M6 Q
      refine jr_aload_n (pc := 33) dX11_walk_33 rfl 0 rfl ?_
      refine jr_get (pc := 34) (v := vr 43 0) fg_X11_31 (by decide) rfl dX11_walk_34 ?_
      refine jr_bipush (pc := 37) (v := 18) dX11_walk_37 (by decide) ?_
      refine jr_iload_n (pc := 39) dX11_walk_39 rfl 1 rfl ?_
      refine jr_iadd (pc := 40) dX11_walk_40 ?_
      refine jr_iald (pc := 41) ⟨rfl, (by decide)⟩ h.1 dX11_walk_41 ?_
      replace h := h.2
      refine jr_istore_n (pc := 42) (lv' := [(3, vi (M6 43 0 ((18 + a1) : Int32).toNatClampNeg)), (0, vr 11 0), (1, vi a1), (2, vi a2)]) dX11_walk_42 rfl (by decide) rfl ?_
      refine jr_aload_n (pc := 43) dX11_walk_43 rfl 1 rfl ?_
      refine jr_get (pc := 44) (v := vr 43 0) fg_X11_31 (by decide) rfl dX11_walk_44 ?_
      refine jr_bipush (pc := 47) (v := 18) dX11_walk_47 (by decide) ?_
      refine jr_iload_n (pc := 49) dX11_walk_49 rfl 2 rfl ?_
      refine jr_iadd (pc := 50) dX11_walk_50 ?_
      refine jr_iload_n (pc := 51) dX11_walk_51 rfl 3 rfl ?_
      refine jr_iast (pc := 52) ⟨rfl, (by decide)⟩ h.1 dX11_walk_52 ?_
      replace h := h.2
      replace h := h _ rfl
      generalize jw_up M6 43 0 ((18 + a1) : Int32).toNatClampNeg a2 = M7 at h ⊢
      refine jr_iload_n (pc := 53) dX11_walk_53 rfl 0 rfl ?_
      exact jr_iret (pc := 54) rfl dX11_walk_54 h
    · replace h := h.2 c
      refine jr_ldc (pc := 26) fk_X11_241 dX11_walk_26 ?_
      exact jr_iret (pc := 28) rfl dX11_walk_28 h
theorem dX11_like_0 : decode cX11_like 0 = .ok (.aload_n 0, 1) := by decide +kernel
theorem dX11_like_1 : decode cX11_like 1 = .ok (.iload_n 1, 1) := by decide +kernel
theorem dX11_like_2 : decode cX11_like 2 = .ok (.invokevirtual 245, 3) := by decide +kernel
theorem dX11_like_5 : decode cX11_like 5 = .ok (.ifCond .eq 21, 3) := by decide +kernel
theorem dX11_like_8 : decode cX11_like 8 = .ok (.iload_n 2, 1) := by decide +kernel
theorem dX11_like_9 : decode cX11_like 9 = .ok (.i2l, 1) := by decide +kernel
theorem dX11_like_10 : decode cX11_like 10 = .ok (.lconst 0, 1) := by decide +kernel
theorem dX11_like_11 : decode cX11_like 11 = .ok (.iconst 1, 1) := by decide +kernel
theorem dX11_like_12 : decode cX11_like 12 = .ok (.aload_n 0, 1) := by decide +kernel
theorem dX11_like_13 : decode cX11_like 13 = .ok (.getfield 103, 3) := by decide +kernel
theorem dX11_like_16 : decode cX11_like 16 = .ok (.ishl, 1) := by decide +kernel
theorem dX11_like_17 : decode cX11_like 17 = .ok (.iconst 1, 1) := by decide +kernel
theorem dX11_like_18 : decode cX11_like 18 = .ok (.isub, 1) := by decide +kernel
theorem dX11_like_19 : decode cX11_like 19 = .ok (.i2l, 1) := by decide +kernel
theorem dX11_like_20 : decode cX11_like 20 = .ok (.invokestatic 99, 3) := by decide +kernel
theorem dX11_like_23 : decode cX11_like 23 = .ok (.ifCond .ne 6, 3) := by decide +kernel
theorem dX11_like_26 : decode cX11_like 26 = .ok (.ldc 241, 2) := by decide +kernel
theorem dX11_like_28 : decode cX11_like 28 = .ok (.ireturn, 1) := by decide +kernel
theorem dX11_like_29 : decode cX11_like 29 = .ok (.aload_n 0, 1) := by decide +kernel
theorem dX11_like_30 : decode cX11_like 30 = .ok (.invokevirtual 260, 3) := by decide +kernel
theorem dX11_like_33 : decode cX11_like 33 = .ok (.aload_n 0, 1) := by decide +kernel
theorem dX11_like_34 : decode cX11_like 34 = .ok (.getfield 31, 3) := by decide +kernel
theorem dX11_like_37 : decode cX11_like 37 = .ok (.bipush 25, 2) := by decide +kernel
theorem dX11_like_39 : decode cX11_like 39 = .ok (.iload_n 1, 1) := by decide +kernel
theorem dX11_like_40 : decode cX11_like 40 = .ok (.iadd, 1) := by decide +kernel
theorem dX11_like_41 : decode cX11_like 41 = .ok (.iaload, 1) := by decide +kernel
theorem dX11_like_42 : decode cX11_like 42 = .ok (.istore_n 3, 1) := by decide +kernel
theorem dX11_like_43 : decode cX11_like 43 = .ok (.aload_n 0, 1) := by decide +kernel
theorem dX11_like_44 : decode cX11_like 44 = .ok (.getfield 31, 3) := by decide +kernel
theorem dX11_like_47 : decode cX11_like 47 = .ok (.bipush 25, 2) := by decide +kernel
theorem dX11_like_49 : decode cX11_like 49 = .ok (.iload_n 1, 1) := by decide +kernel
theorem dX11_like_50 : decode cX11_like 50 = .ok (.iadd, 1) := by decide +kernel
theorem dX11_like_51 : decode cX11_like 51 = .ok (.iload_n 2, 1) := by decide +kernel
theorem dX11_like_52 : decode cX11_like 52 = .ok (.iastore, 1) := by decide +kernel
theorem dX11_like_53 : decode cX11_like 53 = .ok (.iload_n 3, 1) := by decide +kernel
theorem dX11_like_54 : decode cX11_like 54 = .ok (.ireturn, 1) := by decide +kernel
set_option maxHeartbeats 4000000 in
set_option maxRecDepth 20000 in
theorem en_X11_like {a1 : Int32} {a2 : Int32} {M : jw_Mem} {Q : Int32 → jw_Mem → Prop}  (h : (jw_M 1 mX11_isWalker [vr 11 0, vi a1] M (fun x1 M2 => ((x1 = 0 → Q (-1000000001) M2) ∧ (¬ x1 = 0 → (jw_M 0 mX11_in [vl (a2.toInt64), vl 0, vl ((((1 : Int32) <<< ((M2 11 0 3) &&& 31)) - 1).toInt64)] M2 (fun x3 M4 => ((¬ x3 = 0 → (jw_M 0 mX11_remember [vr 11 0] M4 (fun x5 M6 => (vp_in (25 + a1) 33 ∧ (vp_in (25 + a1) 33 ∧ (∀ M7 : jw_Mem, M7 = jw_up M6 43 0 ((25 + a1) : Int32).toNatClampNeg a2 → Q (M6 43 0 ((25 + a1) : Int32).toNatClampNeg) M7)))))) ∧ (x3 = 0 → Q (-1000000001) M4))))))))) : jw_M 2 mX11_like [vr 11 0, vi a1, vi a2] M Q := by
  refine jw_M.of (by decide) (Nat.le_of_ble_eq_true rfl) ?_
  show jw_J 2 mX11_like 0 [(0, vr 11 0), (1, vi a1), (2, vi a2)] [] M Q
  refine jr_aload_n (pc := 0) dX11_like_0 rfl 0 rfl ?_
  refine jr_iload_n (pc := 1) dX11_like_1 rfl 1 rfl ?_
  refine jr_callV (pc := 2) (d' := 1) (mt' := mX11_isWalker) (k := 11) (n := 0) (As := [vi a1]) (st := []) fc_X11_245 (by decide) (by decide) (Nat.le_of_ble_eq_true rfl) rfl dX11_like_2 (jw_M.mono h (fun x1 M2 h => ?_))
  show jw_J 2 mX11_like 5 [(0, vr 11 0), (1, vi a1), (2, vi a2)] [vi x1] M2 Q
  refine jr_if_eq (pc := 5) (tgt := 26) dX11_like_5 (by decide) (fun c => ?_) (fun c => ?_)
  · replace h := h.1 c
    refine jr_ldc (pc := 26) fk_X11_241 dX11_like_26 ?_
    exact jr_iret (pc := 28) rfl dX11_like_28 h
  · replace h := h.2 c
    refine jr_iload_n (pc := 8) dX11_like_8 rfl 2 rfl ?_
    refine jr_i2l (pc := 9) dX11_like_9 ?_
    refine jr_lconst (pc := 10) (v := 0) dX11_like_10 (by decide) ?_
    refine jr_iconst (pc := 11) (v := 1) dX11_like_11 (by decide) ?_
    refine jr_aload_n (pc := 12) dX11_like_12 rfl 0 rfl ?_
    refine jr_get (pc := 13) (v := vi (M2 11 0 3)) fg_X11_103 (by decide) rfl dX11_like_13 ?_
    refine jr_ishl (pc := 16) dX11_like_16 ?_
    refine jr_iconst (pc := 17) (v := 1) dX11_like_17 (by decide) ?_
    refine jr_isub (pc := 18) dX11_like_18 ?_
    refine jr_i2l (pc := 19) dX11_like_19 ?_
    refine jr_callS (pc := 20) (d' := 0) (mt' := mX11_in) (As := [vl (a2.toInt64), vl 0, vl ((((1 : Int32) <<< ((M2 11 0 3) &&& 31)) - 1).toInt64)]) (st := []) fc_X11_99 (by decide) (Nat.le_of_ble_eq_true rfl) rfl dX11_like_20 (jw_M.mono h (fun x3 M4 h => ?_))
    show jw_J 2 mX11_like 23 [(0, vr 11 0), (1, vi a1), (2, vi a2)] [vi x3] M4 Q
    refine jr_if_ne (pc := 23) (tgt := 29) dX11_like_23 (by decide) (fun c => ?_) (fun c => ?_)
    · replace h := h.1 c
      refine jr_aload_n (pc := 29) dX11_like_29 rfl 0 rfl ?_
      refine jr_callV (pc := 30) (d' := 0) (mt' := mX11_remember) (k := 11) (n := 0) (As := []) (st := []) fc_X11_260 (by decide) (by decide) (Nat.le_of_ble_eq_true rfl) rfl dX11_like_30 (jw_M.mono h (fun x5 M6 h => ?_))
      show jw_J 2 mX11_like 33 [(0, vr 11 0), (1, vi a1), (2, vi a2)] [] M6 Q
      refine jr_aload_n (pc := 33) dX11_like_33 rfl 0 rfl ?_
      refine jr_get (pc := 34) (v := vr 43 0) fg_X11_31 (by decide) rfl dX11_like_34 ?_
      refine jr_bipush (pc := 37) (v := 25) dX11_like_37 (by decide) ?_
      refine jr_iload_n (pc := 39) dX11_like_39 rfl 1 rfl ?_
      refine jr_iadd (pc := 40) dX11_like_40 ?_
      refine jr_iald (pc := 41) ⟨rfl, (by decide)⟩ h.1 dX11_like_41 ?_
      replace h := h.2
      refine jr_istore_n (pc := 42) (lv' := [(3, vi (M6 43 0 ((25 + a1) : Int32).toNatClampNeg)), (0, vr 11 0), (1, vi a1), (2, vi a2)]) dX11_like_42 rfl (by decide) rfl ?_
      refine jr_aload_n (pc := 43) dX11_like_43 rfl 1 rfl ?_
      refine jr_get (pc := 44) (v := vr 43 0) fg_X11_31 (by decide) rfl dX11_like_44 ?_
      refine jr_bipush (pc := 47) (v := 25) dX11_like_47 (by decide) ?_
      refine jr_iload_n (pc := 49) dX11_like_49 rfl 2 rfl ?_
      refine jr_iadd (pc := 50) dX11_like_50 ?_
      refine jr_iload_n (pc := 51) dX11_like_51 rfl 3 rfl ?_
      refine jr_iast (pc := 52) ⟨rfl, (by decide)⟩ h.1 dX11_like_52 ?_
      replace h := h.2
      replace h := h _ rfl
      generalize jw_up M6 43 0 ((25 + a1) : Int32).toNatClampNeg a2 = M7 at h ⊢
      refine jr_iload_n (pc := 53) dX11_like_53 rfl 0 rfl ?_
      exact jr_iret (pc := 54) rfl dX11_like_54 h
    · replace h := h.2 c
      refine jr_ldc (pc := 26) fk_X11_241 dX11_like_26 ?_
      exact jr_iret (pc := 28) rfl dX11_like_28 h
theorem dX11_draw_0 : decode cX11_draw 0 = .ok (.aload_n 0, 1) := by decide +kernel
theorem dX11_draw_1 : decode cX11_draw 1 = .ok (.aload_n 0, 1) := by decide +kernel
theorem dX11_draw_2 : decode cX11_draw 2 = .ok (.getfield 269, 3) := by decide +kernel
theorem dX11_draw_5 : decode cX11_draw 5 = .ok (.i2l, 1) := by decide +kernel
theorem dX11_draw_6 : decode cX11_draw 6 = .ok (.ldc2_w 272, 3) := by decide +kernel
theorem dX11_draw_9 : decode cX11_draw 9 = .ok (.lmul, 1) := by decide +kernel
theorem dX11_draw_10 : decode cX11_draw 10 = .ok (.ldc2_w 274, 3) := by decide +kernel
theorem dX11_draw_13 : decode cX11_draw 13 = .ok (.ladd, 1) := by decide +kernel
theorem dX11_draw_14 : decode cX11_draw 14 = .ok (.ldc2_w 276, 3) := by decide +kernel
theorem dX11_draw_17 : decode cX11_draw 17 = .ok (.lrem, 1) := by decide +kernel
theorem dX11_draw_18 : decode cX11_draw 18 = .ok (.l2i, 1) := by decide +kernel
theorem dX11_draw_19 : decode cX11_draw 19 = .ok (.putfield 269, 3) := by decide +kernel
theorem dX11_draw_22 : decode cX11_draw 22 = .ok (.aload_n 0, 1) := by decide +kernel
theorem dX11_draw_23 : decode cX11_draw 23 = .ok (.getfield 269, 3) := by decide +kernel
theorem dX11_draw_26 : decode cX11_draw 26 = .ok (.ldc_w 278, 3) := by decide +kernel
theorem dX11_draw_29 : decode cX11_draw 29 = .ok (.idiv, 1) := by decide +kernel
theorem dX11_draw_30 : decode cX11_draw 30 = .ok (.iload_n 1, 1) := by decide +kernel
theorem dX11_draw_31 : decode cX11_draw 31 = .ok (.irem, 1) := by decide +kernel
theorem dX11_draw_32 : decode cX11_draw 32 = .ok (.ireturn, 1) := by decide +kernel
set_option maxHeartbeats 4000000 in
set_option maxRecDepth 20000 in
theorem en_X11_draw {a1 : Int32} {M : jw_Mem} {Q : Int32 → jw_Mem → Prop}  (h : (∀ M1 : jw_Mem, M1 = jw_up M 11 0 12 ((((((M 11 0 12).toInt64) * 1103515245) + 12345) - ((((M 11 0 12).toInt64) * 1103515245) + 12345) / 2147483648 * 2147483648).toInt32) → (¬ a1 = 0 ∧ Q (((M1 11 0 12) / 65536) - ((M1 11 0 12) / 65536) / a1 * a1) M1))) : jw_M 0 mX11_draw [vr 11 0, vi a1] M Q := by
  refine jw_M.of (by decide) (Nat.le_of_ble_eq_true rfl) ?_
  show jw_J 0 mX11_draw 0 [(0, vr 11 0), (1, vi a1)] [] M Q
  refine jr_aload_n (pc := 0) dX11_draw_0 rfl 0 rfl ?_
  refine jr_aload_n (pc := 1) dX11_draw_1 rfl 0 rfl ?_
  refine jr_get (pc := 2) (v := vi (M 11 0 12)) fg_X11_269 (by decide) rfl dX11_draw_2 ?_
  refine jr_i2l (pc := 5) dX11_draw_5 ?_
  refine jr_ldc2 (pc := 6) fk_X11_272 dX11_draw_6 ?_
  refine jr_lmul (pc := 9) dX11_draw_9 ?_
  refine jr_ldc2 (pc := 10) fk_X11_274 dX11_draw_10 ?_
  refine jr_ladd (pc := 13) dX11_draw_13 ?_
  refine jr_ldc2 (pc := 14) fk_X11_276 dX11_draw_14 ?_
  refine jr_lrem (pc := 17) dX11_draw_17 (by decide) ?_
  refine jr_l2i (pc := 18) dX11_draw_18 ?_
  refine jr_put (pc := 19) fp_X11_269 (by decide) (Or.inl ⟨_, _, _, rfl, by decide +kernel⟩) dX11_draw_19 ?_
  replace h := h _ rfl
  generalize jw_up M 11 0 12 ((((((M 11 0 12).toInt64) * 1103515245) + 12345) - ((((M 11 0 12).toInt64) * 1103515245) + 12345) / 2147483648 * 2147483648).toInt32) = M1 at h ⊢
  refine jr_aload_n (pc := 22) dX11_draw_22 rfl 0 rfl ?_
  refine jr_get (pc := 23) (v := vi (M1 11 0 12)) fg_X11_269 (by decide) rfl dX11_draw_23 ?_
  refine jr_ldcw (pc := 26) fk_X11_278 dX11_draw_26 ?_
  refine jr_idiv (pc := 29) dX11_draw_29 (by decide) ?_
  refine jr_iload_n (pc := 30) dX11_draw_30 rfl 1 rfl ?_
  refine jr_irem (pc := 31) dX11_draw_31 h.1 ?_
  replace h := h.2
  exact jr_iret (pc := 32) rfl dX11_draw_32 h
theorem dX11_chance_0 : decode cX11_chance 0 = .ok (.aload_n 0, 1) := by decide +kernel
theorem dX11_chance_1 : decode cX11_chance 1 = .ok (.iconst 4, 1) := by decide +kernel
theorem dX11_chance_2 : decode cX11_chance 2 = .ok (.invokevirtual 279, 3) := by decide +kernel
theorem dX11_chance_5 : decode cX11_chance 5 = .ok (.istore_n 1, 1) := by decide +kernel
theorem dX11_chance_6 : decode cX11_chance 6 = .ok (.iload_n 1, 1) := by decide +kernel
theorem dX11_chance_7 : decode cX11_chance 7 = .ok (.ifCond .ne 51, 3) := by decide +kernel
theorem dX11_chance_10 : decode cX11_chance 10 = .ok (.aload_n 0, 1) := by decide +kernel
theorem dX11_chance_11 : decode cX11_chance 11 = .ok (.getfield 106, 3) := by decide +kernel
theorem dX11_chance_14 : decode cX11_chance 14 = .ok (.ifCond .le 44, 3) := by decide +kernel
theorem dX11_chance_17 : decode cX11_chance 17 = .ok (.aload_n 0, 1) := by decide +kernel
theorem dX11_chance_18 : decode cX11_chance 18 = .ok (.getfield 96, 3) := by decide +kernel
theorem dX11_chance_21 : decode cX11_chance 21 = .ok (.ifCond .le 37, 3) := by decide +kernel
theorem dX11_chance_24 : decode cX11_chance 24 = .ok (.aload_n 0, 1) := by decide +kernel
theorem dX11_chance_25 : decode cX11_chance 25 = .ok (.aload_n 0, 1) := by decide +kernel
theorem dX11_chance_26 : decode cX11_chance 26 = .ok (.getfield 106, 3) := by decide +kernel
theorem dX11_chance_29 : decode cX11_chance 29 = .ok (.invokevirtual 279, 3) := by decide +kernel
theorem dX11_chance_32 : decode cX11_chance 32 = .ok (.istore_n 2, 1) := by decide +kernel
theorem dX11_chance_33 : decode cX11_chance 33 = .ok (.aload_n 0, 1) := by decide +kernel
theorem dX11_chance_34 : decode cX11_chance 34 = .ok (.getfield 31, 3) := by decide +kernel
theorem dX11_chance_37 : decode cX11_chance 37 = .ok (.bipush 18, 2) := by decide +kernel
theorem dX11_chance_39 : decode cX11_chance 39 = .ok (.iload_n 2, 1) := by decide +kernel
theorem dX11_chance_40 : decode cX11_chance 40 = .ok (.iadd, 1) := by decide +kernel
theorem dX11_chance_41 : decode cX11_chance 41 = .ok (.dup2, 1) := by decide +kernel
theorem dX11_chance_42 : decode cX11_chance 42 = .ok (.iaload, 1) := by decide +kernel
theorem dX11_chance_43 : decode cX11_chance 43 = .ok (.iconst 1, 1) := by decide +kernel
theorem dX11_chance_44 : decode cX11_chance 44 = .ok (.aload_n 0, 1) := by decide +kernel
theorem dX11_chance_45 : decode cX11_chance 45 = .ok (.aload_n 0, 1) := by decide +kernel
theorem dX11_chance_46 : decode cX11_chance 46 = .ok (.getfield 96, 3) := by decide +kernel
theorem dX11_chance_49 : decode cX11_chance 49 = .ok (.invokevirtual 279, 3) := by decide +kernel
theorem dX11_chance_52 : decode cX11_chance 52 = .ok (.ishl, 1) := by decide +kernel
theorem dX11_chance_53 : decode cX11_chance 53 = .ok (.ixor, 1) := by decide +kernel
theorem dX11_chance_54 : decode cX11_chance 54 = .ok (.iastore, 1) := by decide +kernel
theorem dX11_chance_55 : decode cX11_chance 55 = .ok (.goto 97, 3) := by decide +kernel
theorem dX11_chance_58 : decode cX11_chance 58 = .ok (.iload_n 1, 1) := by decide +kernel
theorem dX11_chance_59 : decode cX11_chance 59 = .ok (.iconst 1, 1) := by decide +kernel
theorem dX11_chance_60 : decode cX11_chance 60 = .ok (.if_icmp .ne 63, 3) := by decide +kernel
theorem dX11_chance_63 : decode cX11_chance 63 = .ok (.aload_n 0, 1) := by decide +kernel
theorem dX11_chance_64 : decode cX11_chance 64 = .ok (.getfield 103, 3) := by decide +kernel
theorem dX11_chance_67 : decode cX11_chance 67 = .ok (.ifCond .le 56, 3) := by decide +kernel
theorem dX11_chance_70 : decode cX11_chance 70 = .ok (.aload_n 0, 1) := by decide +kernel
theorem dX11_chance_71 : decode cX11_chance 71 = .ok (.getfield 96, 3) := by decide +kernel
theorem dX11_chance_74 : decode cX11_chance 74 = .ok (.ifCond .le 49, 3) := by decide +kernel
theorem dX11_chance_77 : decode cX11_chance 77 = .ok (.aload_n 0, 1) := by decide +kernel
theorem dX11_chance_78 : decode cX11_chance 78 = .ok (.aload_n 0, 1) := by decide +kernel
theorem dX11_chance_79 : decode cX11_chance 79 = .ok (.getfield 103, 3) := by decide +kernel
theorem dX11_chance_82 : decode cX11_chance 82 = .ok (.invokevirtual 279, 3) := by decide +kernel
theorem dX11_chance_85 : decode cX11_chance 85 = .ok (.istore_n 2, 1) := by decide +kernel
theorem dX11_chance_86 : decode cX11_chance 86 = .ok (.aload_n 0, 1) := by decide +kernel
theorem dX11_chance_87 : decode cX11_chance 87 = .ok (.aload_n 0, 1) := by decide +kernel
theorem dX11_chance_88 : decode cX11_chance 88 = .ok (.getfield 96, 3) := by decide +kernel
theorem dX11_chance_91 : decode cX11_chance 91 = .ok (.invokevirtual 279, 3) := by decide +kernel
theorem dX11_chance_94 : decode cX11_chance 94 = .ok (.istore_n 3, 1) := by decide +kernel
theorem dX11_chance_95 : decode cX11_chance 95 = .ok (.aload_n 0, 1) := by decide +kernel
theorem dX11_chance_96 : decode cX11_chance 96 = .ok (.getfield 31, 3) := by decide +kernel
theorem dX11_chance_99 : decode cX11_chance 99 = .ok (.iload_n 2, 1) := by decide +kernel
theorem dX11_chance_100 : decode cX11_chance 100 = .ok (.aload_n 0, 1) := by decide +kernel
theorem dX11_chance_101 : decode cX11_chance 101 = .ok (.iload_n 2, 1) := by decide +kernel
theorem dX11_chance_102 : decode cX11_chance 102 = .ok (.iload_n 3, 1) := by decide +kernel
theorem dX11_chance_103 : decode cX11_chance 103 = .ok (.invokevirtual 266, 3) := by decide +kernel
theorem dX11_chance_106 : decode cX11_chance 106 = .ok (.ifCond .eq 7, 3) := by decide +kernel
theorem dX11_chance_109 : decode cX11_chance 109 = .ok (.iload_n 3, 1) := by decide +kernel
theorem dX11_chance_110 : decode cX11_chance 110 = .ok (.goto 9, 3) := by decide +kernel
theorem dX11_chance_113 : decode cX11_chance 113 = .ok (.aload_n 0, 1) := by decide +kernel
theorem dX11_chance_114 : decode cX11_chance 114 = .ok (.getfield 31, 3) := by decide +kernel
theorem dX11_chance_117 : decode cX11_chance 117 = .ok (.iload_n 2, 1) := by decide +kernel
theorem dX11_chance_118 : decode cX11_chance 118 = .ok (.iaload, 1) := by decide +kernel
theorem dX11_chance_119 : decode cX11_chance 119 = .ok (.iastore, 1) := by decide +kernel
theorem dX11_chance_120 : decode cX11_chance 120 = .ok (.goto 32, 3) := by decide +kernel
theorem dX11_chance_123 : decode cX11_chance 123 = .ok (.iload_n 1, 1) := by decide +kernel
theorem dX11_chance_124 : decode cX11_chance 124 = .ok (.iconst 2, 1) := by decide +kernel
theorem dX11_chance_125 : decode cX11_chance 125 = .ok (.if_icmp .ne 27, 3) := by decide +kernel
theorem dX11_chance_128 : decode cX11_chance 128 = .ok (.aload_n 0, 1) := by decide +kernel
theorem dX11_chance_129 : decode cX11_chance 129 = .ok (.getfield 103, 3) := by decide +kernel
theorem dX11_chance_132 : decode cX11_chance 132 = .ok (.ifCond .le 20, 3) := by decide +kernel
theorem dX11_chance_135 : decode cX11_chance 135 = .ok (.aload_n 0, 1) := by decide +kernel
theorem dX11_chance_136 : decode cX11_chance 136 = .ok (.getfield 31, 3) := by decide +kernel
theorem dX11_chance_139 : decode cX11_chance 139 = .ok (.bipush 6, 2) := by decide +kernel
theorem dX11_chance_141 : decode cX11_chance 141 = .ok (.aload_n 0, 1) := by decide +kernel
theorem dX11_chance_142 : decode cX11_chance 142 = .ok (.aload_n 0, 1) := by decide +kernel
theorem dX11_chance_143 : decode cX11_chance 143 = .ok (.getfield 103, 3) := by decide +kernel
theorem dX11_chance_146 : decode cX11_chance 146 = .ok (.invokevirtual 279, 3) := by decide +kernel
theorem dX11_chance_149 : decode cX11_chance 149 = .ok (.iadd, 1) := by decide +kernel
theorem dX11_chance_150 : decode cX11_chance 150 = .ok (.iconst 0, 1) := by decide +kernel
theorem dX11_chance_151 : decode cX11_chance 151 = .ok (.iastore, 1) := by decide +kernel
theorem dX11_chance_152 : decode cX11_chance 152 = .ok (.return_, 1) := by decide +kernel
set_option maxHeartbeats 4000000 in
set_option maxRecDepth 20000 in
theorem en_X11_chance {M : jw_Mem} {Q : Int32 → jw_Mem → Prop}  (h : (jw_M 0 mX11_draw [vr 11 0, vi 4] M (fun x1 M2 => ((¬ x1 = 0 → ((¬ x1 = 1 → ((¬ x1 = 2 → Q 0 M2) ∧ (x1 = 2 → (((M2 11 0 3) ≤ 0 → Q 0 M2) ∧ (¬ (M2 11 0 3) ≤ 0 → (jw_M 0 mX11_draw [vr 11 0, vi (M2 11 0 3)] M2 (fun x3 M4 => (vp_in (6 + x3) 33 ∧ (∀ M5 : jw_Mem, M5 = jw_up M4 43 0 ((6 + x3) : Int32).toNatClampNeg 0 → Q 0 M5))))))))) ∧ (x1 = 1 → (((M2 11 0 3) ≤ 0 → ((¬ x1 = 2 → Q 0 M2) ∧ (x1 = 2 → (((M2 11 0 3) ≤ 0 → Q 0 M2) ∧ (¬ (M2 11 0 3) ≤ 0 → (jw_M 0 mX11_draw [vr 11 0, vi (M2 11 0 3)] M2 (fun x6 M7 => (vp_in (6 + x6) 33 ∧ (∀ M8 : jw_Mem, M8 = jw_up M7 43 0 ((6 + x6) : Int32).toNatClampNeg 0 → Q 0 M8))))))))) ∧ (¬ (M2 11 0 3) ≤ 0 → (((M2 11 0 1) ≤ 0 → ((¬ x1 = 2 → Q 0 M2) ∧ (x1 = 2 → (((M2 11 0 3) ≤ 0 → Q 0 M2) ∧ (¬ (M2 11 0 3) ≤ 0 → (jw_M 0 mX11_draw [vr 11 0, vi (M2 11 0 3)] M2 (fun x9 M10 => (vp_in (6 + x9) 33 ∧ (∀ M11 : jw_Mem, M11 = jw_up M10 43 0 ((6 + x9) : Int32).toNatClampNeg 0 → Q 0 M11))))))))) ∧ (¬ (M2 11 0 1) ≤ 0 → (jw_M 0 mX11_draw [vr 11 0, vi (M2 11 0 3)] M2 (fun x12 M13 => (jw_M 0 mX11_draw [vr 11 0, vi (M13 11 0 1)] M13 (fun x14 M15 => (jw_M 1 mX11_canStand [vr 11 0, vi x12, vi x14] M15 (fun x16 M17 => ((x16 = 0 → (vp_in x12 33 ∧ (vp_in x12 33 ∧ (∀ M18 : jw_Mem, M18 = jw_up M17 43 0 x12.toNatClampNeg (M17 43 0 x12.toNatClampNeg) → Q 0 M18)))) ∧ (¬ x16 = 0 → (vp_in x12 33 ∧ (∀ M19 : jw_Mem, M19 = jw_up M17 43 0 x12.toNatClampNeg x14 → Q 0 M19))))))))))))))))) ∧ (x1 = 0 → (((M2 11 0 7) ≤ 0 → ((¬ x1 = 1 → ((¬ x1 = 2 → Q 0 M2) ∧ (x1 = 2 → (((M2 11 0 3) ≤ 0 → Q 0 M2) ∧ (¬ (M2 11 0 3) ≤ 0 → (jw_M 0 mX11_draw [vr 11 0, vi (M2 11 0 3)] M2 (fun x20 M21 => (vp_in (6 + x20) 33 ∧ (∀ M22 : jw_Mem, M22 = jw_up M21 43 0 ((6 + x20) : Int32).toNatClampNeg 0 → Q 0 M22))))))))) ∧ (x1 = 1 → (((M2 11 0 3) ≤ 0 → ((¬ x1 = 2 → Q 0 M2) ∧ (x1 = 2 → (((M2 11 0 3) ≤ 0 → Q 0 M2) ∧ (¬ (M2 11 0 3) ≤ 0 → (jw_M 0 mX11_draw [vr 11 0, vi (M2 11 0 3)] M2 (fun x23 M24 => (vp_in (6 + x23) 33 ∧ (∀ M25 : jw_Mem, M25 = jw_up M24 43 0 ((6 + x23) : Int32).toNatClampNeg 0 → Q 0 M25))))))))) ∧ (¬ (M2 11 0 3) ≤ 0 → (((M2 11 0 1) ≤ 0 → ((¬ x1 = 2 → Q 0 M2) ∧ (x1 = 2 → (((M2 11 0 3) ≤ 0 → Q 0 M2) ∧ (¬ (M2 11 0 3) ≤ 0 → (jw_M 0 mX11_draw [vr 11 0, vi (M2 11 0 3)] M2 (fun x26 M27 => (vp_in (6 + x26) 33 ∧ (∀ M28 : jw_Mem, M28 = jw_up M27 43 0 ((6 + x26) : Int32).toNatClampNeg 0 → Q 0 M28))))))))) ∧ (¬ (M2 11 0 1) ≤ 0 → (jw_M 0 mX11_draw [vr 11 0, vi (M2 11 0 3)] M2 (fun x29 M30 => (jw_M 0 mX11_draw [vr 11 0, vi (M30 11 0 1)] M30 (fun x31 M32 => (jw_M 1 mX11_canStand [vr 11 0, vi x29, vi x31] M32 (fun x33 M34 => ((x33 = 0 → (vp_in x29 33 ∧ (vp_in x29 33 ∧ (∀ M35 : jw_Mem, M35 = jw_up M34 43 0 x29.toNatClampNeg (M34 43 0 x29.toNatClampNeg) → Q 0 M35)))) ∧ (¬ x33 = 0 → (vp_in x29 33 ∧ (∀ M36 : jw_Mem, M36 = jw_up M34 43 0 x29.toNatClampNeg x31 → Q 0 M36))))))))))))))))) ∧ (¬ (M2 11 0 7) ≤ 0 → (((M2 11 0 1) ≤ 0 → ((¬ x1 = 1 → ((¬ x1 = 2 → Q 0 M2) ∧ (x1 = 2 → (((M2 11 0 3) ≤ 0 → Q 0 M2) ∧ (¬ (M2 11 0 3) ≤ 0 → (jw_M 0 mX11_draw [vr 11 0, vi (M2 11 0 3)] M2 (fun x37 M38 => (vp_in (6 + x37) 33 ∧ (∀ M39 : jw_Mem, M39 = jw_up M38 43 0 ((6 + x37) : Int32).toNatClampNeg 0 → Q 0 M39))))))))) ∧ (x1 = 1 → (((M2 11 0 3) ≤ 0 → ((¬ x1 = 2 → Q 0 M2) ∧ (x1 = 2 → (((M2 11 0 3) ≤ 0 → Q 0 M2) ∧ (¬ (M2 11 0 3) ≤ 0 → (jw_M 0 mX11_draw [vr 11 0, vi (M2 11 0 3)] M2 (fun x40 M41 => (vp_in (6 + x40) 33 ∧ (∀ M42 : jw_Mem, M42 = jw_up M41 43 0 ((6 + x40) : Int32).toNatClampNeg 0 → Q 0 M42))))))))) ∧ (¬ (M2 11 0 3) ≤ 0 → (((M2 11 0 1) ≤ 0 → ((¬ x1 = 2 → Q 0 M2) ∧ (x1 = 2 → (((M2 11 0 3) ≤ 0 → Q 0 M2) ∧ (¬ (M2 11 0 3) ≤ 0 → (jw_M 0 mX11_draw [vr 11 0, vi (M2 11 0 3)] M2 (fun x43 M44 => (vp_in (6 + x43) 33 ∧ (∀ M45 : jw_Mem, M45 = jw_up M44 43 0 ((6 + x43) : Int32).toNatClampNeg 0 → Q 0 M45))))))))) ∧ (¬ (M2 11 0 1) ≤ 0 → (jw_M 0 mX11_draw [vr 11 0, vi (M2 11 0 3)] M2 (fun x46 M47 => (jw_M 0 mX11_draw [vr 11 0, vi (M47 11 0 1)] M47 (fun x48 M49 => (jw_M 1 mX11_canStand [vr 11 0, vi x46, vi x48] M49 (fun x50 M51 => ((x50 = 0 → (vp_in x46 33 ∧ (vp_in x46 33 ∧ (∀ M52 : jw_Mem, M52 = jw_up M51 43 0 x46.toNatClampNeg (M51 43 0 x46.toNatClampNeg) → Q 0 M52)))) ∧ (¬ x50 = 0 → (vp_in x46 33 ∧ (∀ M53 : jw_Mem, M53 = jw_up M51 43 0 x46.toNatClampNeg x48 → Q 0 M53))))))))))))))))) ∧ (¬ (M2 11 0 1) ≤ 0 → (jw_M 0 mX11_draw [vr 11 0, vi (M2 11 0 7)] M2 (fun x54 M55 => (vp_in (18 + x54) 33 ∧ (jw_M 0 mX11_draw [vr 11 0, vi (M55 11 0 1)] M55 (fun x56 M57 => (vp_in (18 + x54) 33 ∧ (∀ M58 : jw_Mem, M58 = jw_up M57 43 0 ((18 + x54) : Int32).toNatClampNeg ((M55 43 0 ((18 + x54) : Int32).toNatClampNeg) ^^^ ((1 : Int32) <<< (x56 &&& 31))) → Q 0 M58)))))))))))))))) : jw_M 2 mX11_chance [vr 11 0] M Q := by
  refine jw_M.of (by decide) (Nat.le_of_ble_eq_true rfl) ?_
  show jw_J 2 mX11_chance 0 [(0, vr 11 0)] [] M Q
  refine jr_aload_n (pc := 0) dX11_chance_0 rfl 0 rfl ?_
  refine jr_iconst (pc := 1) (v := 4) dX11_chance_1 (by decide) ?_
  refine jr_callV (pc := 2) (d' := 0) (mt' := mX11_draw) (k := 11) (n := 0) (As := [vi 4]) (st := []) fc_X11_279 (by decide) (by decide) (Nat.le_of_ble_eq_true rfl) rfl dX11_chance_2 (jw_M.mono h (fun x1 M2 h => ?_))
  show jw_J 2 mX11_chance 5 [(0, vr 11 0)] [vi x1] M2 Q
  refine jr_istore_n (pc := 5) (lv' := [(1, vi x1), (0, vr 11 0)]) dX11_chance_5 rfl (by decide) rfl ?_
  refine jr_iload_n (pc := 6) dX11_chance_6 rfl 0 rfl ?_
  refine jr_if_ne (pc := 7) (tgt := 58) dX11_chance_7 (by decide) (fun c => ?_) (fun c => ?_)
  · replace h := h.1 c
    refine jr_iload_n (pc := 58) dX11_chance_58 rfl 0 rfl ?_
    refine jr_iconst (pc := 59) (v := 1) dX11_chance_59 (by decide) ?_
    refine jr_icmp_ne (pc := 60) (tgt := 123) dX11_chance_60 (by decide) (fun c => ?_) (fun c => ?_)
    · replace h := h.1 c
      refine jr_iload_n (pc := 123) dX11_chance_123 rfl 0 rfl ?_
      refine jr_iconst (pc := 124) (v := 2) dX11_chance_124 (by decide) ?_
      refine jr_icmp_ne (pc := 125) (tgt := 152) dX11_chance_125 (by decide) (fun c => ?_) (fun c => ?_)
      · replace h := h.1 c
        exact jr_vret (pc := 152) rfl dX11_chance_152 h
      · replace h := h.2 c
        refine jr_aload_n (pc := 128) dX11_chance_128 rfl 1 rfl ?_
        refine jr_get (pc := 129) (v := vi (M2 11 0 3)) fg_X11_103 (by decide) rfl dX11_chance_129 ?_
        refine jr_if_le (pc := 132) (tgt := 152) dX11_chance_132 (by decide) (fun c => ?_) (fun c => ?_)
        · replace h := h.1 c
          exact jr_vret (pc := 152) rfl dX11_chance_152 h
        · replace h := h.2 c
          refine jr_aload_n (pc := 135) dX11_chance_135 rfl 1 rfl ?_
          refine jr_get (pc := 136) (v := vr 43 0) fg_X11_31 (by decide) rfl dX11_chance_136 ?_
          refine jr_bipush (pc := 139) (v := 6) dX11_chance_139 (by decide) ?_
          refine jr_aload_n (pc := 141) dX11_chance_141 rfl 1 rfl ?_
          refine jr_aload_n (pc := 142) dX11_chance_142 rfl 1 rfl ?_
          refine jr_get (pc := 143) (v := vi (M2 11 0 3)) fg_X11_103 (by decide) rfl dX11_chance_143 ?_
          refine jr_callV (pc := 146) (d' := 0) (mt' := mX11_draw) (k := 11) (n := 0) (As := [vi (M2 11 0 3)]) (st := [vi 6, vr 43 0]) fc_X11_279 (by decide) (by decide) (Nat.le_of_ble_eq_true rfl) rfl dX11_chance_146 (jw_M.mono h (fun x3 M4 h => ?_))
          show jw_J 2 mX11_chance 149 [(1, vi x1), (0, vr 11 0)] [vi x3, vi 6, vr 43 0] M4 Q
          refine jr_iadd (pc := 149) dX11_chance_149 ?_
          refine jr_iconst (pc := 150) (v := 0) dX11_chance_150 (by decide) ?_
          refine jr_iast (pc := 151) ⟨rfl, (by decide)⟩ h.1 dX11_chance_151 ?_
          replace h := h.2
          replace h := h _ rfl
          generalize jw_up M4 43 0 ((6 + x3) : Int32).toNatClampNeg 0 = M5 at h ⊢
          exact jr_vret (pc := 152) rfl dX11_chance_152 h
    · replace h := h.2 c
      refine jr_aload_n (pc := 63) dX11_chance_63 rfl 1 rfl ?_
      refine jr_get (pc := 64) (v := vi (M2 11 0 3)) fg_X11_103 (by decide) rfl dX11_chance_64 ?_
      refine jr_if_le (pc := 67) (tgt := 123) dX11_chance_67 (by decide) (fun c => ?_) (fun c => ?_)
      · replace h := h.1 c
        refine jr_iload_n (pc := 123) dX11_chance_123 rfl 0 rfl ?_
        refine jr_iconst (pc := 124) (v := 2) dX11_chance_124 (by decide) ?_
        refine jr_icmp_ne (pc := 125) (tgt := 152) dX11_chance_125 (by decide) (fun c => ?_) (fun c => ?_)
        · replace h := h.1 c
          exact jr_vret (pc := 152) rfl dX11_chance_152 h
        · replace h := h.2 c
          refine jr_aload_n (pc := 128) dX11_chance_128 rfl 1 rfl ?_
          refine jr_get (pc := 129) (v := vi (M2 11 0 3)) fg_X11_103 (by decide) rfl dX11_chance_129 ?_
          refine jr_if_le (pc := 132) (tgt := 152) dX11_chance_132 (by decide) (fun c => ?_) (fun c => ?_)
          · replace h := h.1 c
            exact jr_vret (pc := 152) rfl dX11_chance_152 h
          · replace h := h.2 c
            refine jr_aload_n (pc := 135) dX11_chance_135 rfl 1 rfl ?_
            refine jr_get (pc := 136) (v := vr 43 0) fg_X11_31 (by decide) rfl dX11_chance_136 ?_
            refine jr_bipush (pc := 139) (v := 6) dX11_chance_139 (by decide) ?_
            refine jr_aload_n (pc := 141) dX11_chance_141 rfl 1 rfl ?_
            refine jr_aload_n (pc := 142) dX11_chance_142 rfl 1 rfl ?_
            refine jr_get (pc := 143) (v := vi (M2 11 0 3)) fg_X11_103 (by decide) rfl dX11_chance_143 ?_
            refine jr_callV (pc := 146) (d' := 0) (mt' := mX11_draw) (k := 11) (n := 0) (As := [vi (M2 11 0 3)]) (st := [vi 6, vr 43 0]) fc_X11_279 (by decide) (by decide) (Nat.le_of_ble_eq_true rfl) rfl dX11_chance_146 (jw_M.mono h (fun x6 M7 h => ?_))
            show jw_J 2 mX11_chance 149 [(1, vi x1), (0, vr 11 0)] [vi x6, vi 6, vr 43 0] M7 Q
            refine jr_iadd (pc := 149) dX11_chance_149 ?_
            refine jr_iconst (pc := 150) (v := 0) dX11_chance_150 (by decide) ?_
            refine jr_iast (pc := 151) ⟨rfl, (by decide)⟩ h.1 dX11_chance_151 ?_
            replace h := h.2
            replace h := h _ rfl
            generalize jw_up M7 43 0 ((6 + x6) : Int32).toNatClampNeg 0 = M8 at h ⊢
            exact jr_vret (pc := 152) rfl dX11_chance_152 h
      · replace h := h.2 c
        refine jr_aload_n (pc := 70) dX11_chance_70 rfl 1 rfl ?_
        refine jr_get (pc := 71) (v := vi (M2 11 0 1)) fg_X11_96 (by decide) rfl dX11_chance_71 ?_
        refine jr_if_le (pc := 74) (tgt := 123) dX11_chance_74 (by decide) (fun c => ?_) (fun c => ?_)
        · replace h := h.1 c
          refine jr_iload_n (pc := 123) dX11_chance_123 rfl 0 rfl ?_
          refine jr_iconst (pc := 124) (v := 2) dX11_chance_124 (by decide) ?_
          refine jr_icmp_ne (pc := 125) (tgt := 152) dX11_chance_125 (by decide) (fun c => ?_) (fun c => ?_)
          · replace h := h.1 c
            exact jr_vret (pc := 152) rfl dX11_chance_152 h
          · replace h := h.2 c
            refine jr_aload_n (pc := 128) dX11_chance_128 rfl 1 rfl ?_
            refine jr_get (pc := 129) (v := vi (M2 11 0 3)) fg_X11_103 (by decide) rfl dX11_chance_129 ?_
            refine jr_if_le (pc := 132) (tgt := 152) dX11_chance_132 (by decide) (fun c => ?_) (fun c => ?_)
            · replace h := h.1 c
              exact jr_vret (pc := 152) rfl dX11_chance_152 h
            · replace h := h.2 c
              refine jr_aload_n (pc := 135) dX11_chance_135 rfl 1 rfl ?_
              refine jr_get (pc := 136) (v := vr 43 0) fg_X11_31 (by decide) rfl dX11_chance_136 ?_
              refine jr_bipush (pc := 139) (v := 6) dX11_chance_139 (by decide) ?_
              refine jr_aload_n (pc := 141) dX11_chance_141 rfl 1 rfl ?_
              refine jr_aload_n (pc := 142) dX11_chance_142 rfl 1 rfl ?_
              refine jr_get (pc := 143) (v := vi (M2 11 0 3)) fg_X11_103 (by decide) rfl dX11_chance_143 ?_
              refine jr_callV (pc := 146) (d' := 0) (mt' := mX11_draw) (k := 11) (n := 0) (As := [vi (M2 11 0 3)]) (st := [vi 6, vr 43 0]) fc_X11_279 (by decide) (by decide) (Nat.le_of_ble_eq_true rfl) rfl dX11_chance_146 (jw_M.mono h (fun x9 M10 h => ?_))
              show jw_J 2 mX11_chance 149 [(1, vi x1), (0, vr 11 0)] [vi x9, vi 6, vr 43 0] M10 Q
              refine jr_iadd (pc := 149) dX11_chance_149 ?_
              refine jr_iconst (pc := 150) (v := 0) dX11_chance_150 (by decide) ?_
              refine jr_iast (pc := 151) ⟨rfl, (by decide)⟩ h.1 dX11_chance_151 ?_
              replace h := h.2
              replace h := h _ rfl
              generalize jw_up M10 43 0 ((6 + x9) : Int32).toNatClampNeg 0 = M11 at h ⊢
              exact jr_vret (pc := 152) rfl dX11_chance_152 h
        · replace h := h.2 c
          refine jr_aload_n (pc := 77) dX11_chance_77 rfl 1 rfl ?_
          refine jr_aload_n (pc := 78) dX11_chance_78 rfl 1 rfl ?_
          refine jr_get (pc := 79) (v := vi (M2 11 0 3)) fg_X11_103 (by decide) rfl dX11_chance_79 ?_
          refine jr_callV (pc := 82) (d' := 0) (mt' := mX11_draw) (k := 11) (n := 0) (As := [vi (M2 11 0 3)]) (st := []) fc_X11_279 (by decide) (by decide) (Nat.le_of_ble_eq_true rfl) rfl dX11_chance_82 (jw_M.mono h (fun x12 M13 h => ?_))
          show jw_J 2 mX11_chance 85 [(1, vi x1), (0, vr 11 0)] [vi x12] M13 Q
          refine jr_istore_n (pc := 85) (lv' := [(2, vi x12), (1, vi x1), (0, vr 11 0)]) dX11_chance_85 rfl (by decide) rfl ?_
          refine jr_aload_n (pc := 86) dX11_chance_86 rfl 2 rfl ?_
          refine jr_aload_n (pc := 87) dX11_chance_87 rfl 2 rfl ?_
          refine jr_get (pc := 88) (v := vi (M13 11 0 1)) fg_X11_96 (by decide) rfl dX11_chance_88 ?_
          refine jr_callV (pc := 91) (d' := 0) (mt' := mX11_draw) (k := 11) (n := 0) (As := [vi (M13 11 0 1)]) (st := []) fc_X11_279 (by decide) (by decide) (Nat.le_of_ble_eq_true rfl) rfl dX11_chance_91 (jw_M.mono h (fun x14 M15 h => ?_))
          show jw_J 2 mX11_chance 94 [(2, vi x12), (1, vi x1), (0, vr 11 0)] [vi x14] M15 Q
          refine jr_istore_n (pc := 94) (lv' := [(3, vi x14), (2, vi x12), (1, vi x1), (0, vr 11 0)]) dX11_chance_94 rfl (by decide) rfl ?_
          refine jr_aload_n (pc := 95) dX11_chance_95 rfl 3 rfl ?_
          refine jr_get (pc := 96) (v := vr 43 0) fg_X11_31 (by decide) rfl dX11_chance_96 ?_
          refine jr_iload_n (pc := 99) dX11_chance_99 rfl 1 rfl ?_
          refine jr_aload_n (pc := 100) dX11_chance_100 rfl 3 rfl ?_
          refine jr_iload_n (pc := 101) dX11_chance_101 rfl 1 rfl ?_
          refine jr_iload_n (pc := 102) dX11_chance_102 rfl 0 rfl ?_
          refine jr_callV (pc := 103) (d' := 1) (mt' := mX11_canStand) (k := 11) (n := 0) (As := [vi x12, vi x14]) (st := [vi x12, vr 43 0]) fc_X11_266 (by decide) (by decide) (Nat.le_of_ble_eq_true rfl) rfl dX11_chance_103 (jw_M.mono h (fun x16 M17 h => ?_))
          show jw_J 2 mX11_chance 106 [(3, vi x14), (2, vi x12), (1, vi x1), (0, vr 11 0)] [vi x16, vi x12, vr 43 0] M17 Q
          refine jr_if_eq (pc := 106) (tgt := 113) dX11_chance_106 (by decide) (fun c => ?_) (fun c => ?_)
          · replace h := h.1 c
            refine jr_aload_n (pc := 113) dX11_chance_113 rfl 3 rfl ?_
            refine jr_get (pc := 114) (v := vr 43 0) fg_X11_31 (by decide) rfl dX11_chance_114 ?_
            refine jr_iload_n (pc := 117) dX11_chance_117 rfl 1 rfl ?_
            refine jr_iald (pc := 118) ⟨rfl, (by decide)⟩ h.1 dX11_chance_118 ?_
            replace h := h.2
            refine jr_iast (pc := 119) ⟨rfl, (by decide)⟩ h.1 dX11_chance_119 ?_
            replace h := h.2
            replace h := h _ rfl
            generalize jw_up M17 43 0 x12.toNatClampNeg (M17 43 0 x12.toNatClampNeg) = M18 at h ⊢
            refine jr_goto (pc := 120) (tgt := 152) dX11_chance_120 (by decide) ?_
            exact jr_vret (pc := 152) rfl dX11_chance_152 h
          · replace h := h.2 c
            refine jr_iload_n (pc := 109) dX11_chance_109 rfl 0 rfl ?_
            refine jr_goto (pc := 110) (tgt := 119) dX11_chance_110 (by decide) ?_
            refine jr_iast (pc := 119) ⟨rfl, (by decide)⟩ h.1 dX11_chance_119 ?_
            replace h := h.2
            replace h := h _ rfl
            generalize jw_up M17 43 0 x12.toNatClampNeg x14 = M19 at h ⊢
            refine jr_goto (pc := 120) (tgt := 152) dX11_chance_120 (by decide) ?_
            exact jr_vret (pc := 152) rfl dX11_chance_152 h
  · replace h := h.2 c
    refine jr_aload_n (pc := 10) dX11_chance_10 rfl 1 rfl ?_
    refine jr_get (pc := 11) (v := vi (M2 11 0 7)) fg_X11_106 (by decide) rfl dX11_chance_11 ?_
    refine jr_if_le (pc := 14) (tgt := 58) dX11_chance_14 (by decide) (fun c => ?_) (fun c => ?_)
    · replace h := h.1 c
      refine jr_iload_n (pc := 58) dX11_chance_58 rfl 0 rfl ?_
      refine jr_iconst (pc := 59) (v := 1) dX11_chance_59 (by decide) ?_
      refine jr_icmp_ne (pc := 60) (tgt := 123) dX11_chance_60 (by decide) (fun c => ?_) (fun c => ?_)
      · replace h := h.1 c
        refine jr_iload_n (pc := 123) dX11_chance_123 rfl 0 rfl ?_
        refine jr_iconst (pc := 124) (v := 2) dX11_chance_124 (by decide) ?_
        refine jr_icmp_ne (pc := 125) (tgt := 152) dX11_chance_125 (by decide) (fun c => ?_) (fun c => ?_)
        · replace h := h.1 c
          exact jr_vret (pc := 152) rfl dX11_chance_152 h
        · replace h := h.2 c
          refine jr_aload_n (pc := 128) dX11_chance_128 rfl 1 rfl ?_
          refine jr_get (pc := 129) (v := vi (M2 11 0 3)) fg_X11_103 (by decide) rfl dX11_chance_129 ?_
          refine jr_if_le (pc := 132) (tgt := 152) dX11_chance_132 (by decide) (fun c => ?_) (fun c => ?_)
          · replace h := h.1 c
            exact jr_vret (pc := 152) rfl dX11_chance_152 h
          · replace h := h.2 c
            refine jr_aload_n (pc := 135) dX11_chance_135 rfl 1 rfl ?_
            refine jr_get (pc := 136) (v := vr 43 0) fg_X11_31 (by decide) rfl dX11_chance_136 ?_
            refine jr_bipush (pc := 139) (v := 6) dX11_chance_139 (by decide) ?_
            refine jr_aload_n (pc := 141) dX11_chance_141 rfl 1 rfl ?_
            refine jr_aload_n (pc := 142) dX11_chance_142 rfl 1 rfl ?_
            refine jr_get (pc := 143) (v := vi (M2 11 0 3)) fg_X11_103 (by decide) rfl dX11_chance_143 ?_
            refine jr_callV (pc := 146) (d' := 0) (mt' := mX11_draw) (k := 11) (n := 0) (As := [vi (M2 11 0 3)]) (st := [vi 6, vr 43 0]) fc_X11_279 (by decide) (by decide) (Nat.le_of_ble_eq_true rfl) rfl dX11_chance_146 (jw_M.mono h (fun x20 M21 h => ?_))
            show jw_J 2 mX11_chance 149 [(1, vi x1), (0, vr 11 0)] [vi x20, vi 6, vr 43 0] M21 Q
            refine jr_iadd (pc := 149) dX11_chance_149 ?_
            refine jr_iconst (pc := 150) (v := 0) dX11_chance_150 (by decide) ?_
            refine jr_iast (pc := 151) ⟨rfl, (by decide)⟩ h.1 dX11_chance_151 ?_
            replace h := h.2
            replace h := h _ rfl
            generalize jw_up M21 43 0 ((6 + x20) : Int32).toNatClampNeg 0 = M22 at h ⊢
            exact jr_vret (pc := 152) rfl dX11_chance_152 h
      · replace h := h.2 c
        refine jr_aload_n (pc := 63) dX11_chance_63 rfl 1 rfl ?_
        refine jr_get (pc := 64) (v := vi (M2 11 0 3)) fg_X11_103 (by decide) rfl dX11_chance_64 ?_
        refine jr_if_le (pc := 67) (tgt := 123) dX11_chance_67 (by decide) (fun c => ?_) (fun c => ?_)
        · replace h := h.1 c
          refine jr_iload_n (pc := 123) dX11_chance_123 rfl 0 rfl ?_
          refine jr_iconst (pc := 124) (v := 2) dX11_chance_124 (by decide) ?_
          refine jr_icmp_ne (pc := 125) (tgt := 152) dX11_chance_125 (by decide) (fun c => ?_) (fun c => ?_)
          · replace h := h.1 c
            exact jr_vret (pc := 152) rfl dX11_chance_152 h
          · replace h := h.2 c
            refine jr_aload_n (pc := 128) dX11_chance_128 rfl 1 rfl ?_
            refine jr_get (pc := 129) (v := vi (M2 11 0 3)) fg_X11_103 (by decide) rfl dX11_chance_129 ?_
            refine jr_if_le (pc := 132) (tgt := 152) dX11_chance_132 (by decide) (fun c => ?_) (fun c => ?_)
            · replace h := h.1 c
              exact jr_vret (pc := 152) rfl dX11_chance_152 h
            · replace h := h.2 c
              refine jr_aload_n (pc := 135) dX11_chance_135 rfl 1 rfl ?_
              refine jr_get (pc := 136) (v := vr 43 0) fg_X11_31 (by decide) rfl dX11_chance_136 ?_
              refine jr_bipush (pc := 139) (v := 6) dX11_chance_139 (by decide) ?_
              refine jr_aload_n (pc := 141) dX11_chance_141 rfl 1 rfl ?_
              refine jr_aload_n (pc := 142) dX11_chance_142 rfl 1 rfl ?_
              refine jr_get (pc := 143) (v := vi (M2 11 0 3)) fg_X11_103 (by decide) rfl dX11_chance_143 ?_
              refine jr_callV (pc := 146) (d' := 0) (mt' := mX11_draw) (k := 11) (n := 0) (As := [vi (M2 11 0 3)]) (st := [vi 6, vr 43 0]) fc_X11_279 (by decide) (by decide) (Nat.le_of_ble_eq_true rfl) rfl dX11_chance_146 (jw_M.mono h (fun x23 M24 h => ?_))
              show jw_J 2 mX11_chance 149 [(1, vi x1), (0, vr 11 0)] [vi x23, vi 6, vr 43 0] M24 Q
              refine jr_iadd (pc := 149) dX11_chance_149 ?_
              refine jr_iconst (pc := 150) (v := 0) dX11_chance_150 (by decide) ?_
              refine jr_iast (pc := 151) ⟨rfl, (by decide)⟩ h.1 dX11_chance_151 ?_
              replace h := h.2
              replace h := h _ rfl
              generalize jw_up M24 43 0 ((6 + x23) : Int32).toNatClampNeg 0 = M25 at h ⊢
              exact jr_vret (pc := 152) rfl dX11_chance_152 h
        · replace h := h.2 c
          refine jr_aload_n (pc := 70) dX11_chance_70 rfl 1 rfl ?_
          refine jr_get (pc := 71) (v := vi (M2 11 0 1)) fg_X11_96 (by decide) rfl dX11_chance_71 ?_
          refine jr_if_le (pc := 74) (tgt := 123) dX11_chance_74 (by decide) (fun c => ?_) (fun c => ?_)
          · replace h := h.1 c
            refine jr_iload_n (pc := 123) dX11_chance_123 rfl 0 rfl ?_
            refine jr_iconst (pc := 124) (v := 2) dX11_chance_124 (by decide) ?_
            refine jr_icmp_ne (pc := 125) (tgt := 152) dX11_chance_125 (by decide) (fun c => ?_) (fun c => ?_)
            · replace h := h.1 c
              exact jr_vret (pc := 152) rfl dX11_chance_152 h
            · replace h := h.2 c
              refine jr_aload_n (pc := 128) dX11_chance_128 rfl 1 rfl ?_
              refine jr_get (pc := 129) (v := vi (M2 11 0 3)) fg_X11_103 (by decide) rfl dX11_chance_129 ?_
              refine jr_if_le (pc := 132) (tgt := 152) dX11_chance_132 (by decide) (fun c => ?_) (fun c => ?_)
              · replace h := h.1 c
                exact jr_vret (pc := 152) rfl dX11_chance_152 h
              · replace h := h.2 c
                refine jr_aload_n (pc := 135) dX11_chance_135 rfl 1 rfl ?_
                refine jr_get (pc := 136) (v := vr 43 0) fg_X11_31 (by decide) rfl dX11_chance_136 ?_
                refine jr_bipush (pc := 139) (v := 6) dX11_chance_139 (by decide) ?_
                refine jr_aload_n (pc := 141) dX11_chance_141 rfl 1 rfl ?_
                refine jr_aload_n (pc := 142) dX11_chance_142 rfl 1 rfl ?_
                refine jr_get (pc := 143) (v := vi (M2 11 0 3)) fg_X11_103 (by decide) rfl dX11_chance_143 ?_
                refine jr_callV (pc := 146) (d' := 0) (mt' := mX11_draw) (k := 11) (n := 0) (As := [vi (M2 11 0 3)]) (st := [vi 6, vr 43 0]) fc_X11_279 (by decide) (by decide) (Nat.le_of_ble_eq_true rfl) rfl dX11_chance_146 (jw_M.mono h (fun x26 M27 h => ?_))
                show jw_J 2 mX11_chance 149 [(1, vi x1), (0, vr 11 0)] [vi x26, vi 6, vr 43 0] M27 Q
                refine jr_iadd (pc := 149) dX11_chance_149 ?_
                refine jr_iconst (pc := 150) (v := 0) dX11_chance_150 (by decide) ?_
                refine jr_iast (pc := 151) ⟨rfl, (by decide)⟩ h.1 dX11_chance_151 ?_
                replace h := h.2
                replace h := h _ rfl
                generalize jw_up M27 43 0 ((6 + x26) : Int32).toNatClampNeg 0 = M28 at h ⊢
                exact jr_vret (pc := 152) rfl dX11_chance_152 h
          · replace h := h.2 c
            refine jr_aload_n (pc := 77) dX11_chance_77 rfl 1 rfl ?_
            refine jr_aload_n (pc := 78) dX11_chance_78 rfl 1 rfl ?_
            refine jr_get (pc := 79) (v := vi (M2 11 0 3)) fg_X11_103 (by decide) rfl dX11_chance_79 ?_
            refine jr_callV (pc := 82) (d' := 0) (mt' := mX11_draw) (k := 11) (n := 0) (As := [vi (M2 11 0 3)]) (st := []) fc_X11_279 (by decide) (by decide) (Nat.le_of_ble_eq_true rfl) rfl dX11_chance_82 (jw_M.mono h (fun x29 M30 h => ?_))
            show jw_J 2 mX11_chance 85 [(1, vi x1), (0, vr 11 0)] [vi x29] M30 Q
            refine jr_istore_n (pc := 85) (lv' := [(2, vi x29), (1, vi x1), (0, vr 11 0)]) dX11_chance_85 rfl (by decide) rfl ?_
            refine jr_aload_n (pc := 86) dX11_chance_86 rfl 2 rfl ?_
            refine jr_aload_n (pc := 87) dX11_chance_87 rfl 2 rfl ?_
            refine jr_get (pc := 88) (v := vi (M30 11 0 1)) fg_X11_96 (by decide) rfl dX11_chance_88 ?_
            refine jr_callV (pc := 91) (d' := 0) (mt' := mX11_draw) (k := 11) (n := 0) (As := [vi (M30 11 0 1)]) (st := []) fc_X11_279 (by decide) (by decide) (Nat.le_of_ble_eq_true rfl) rfl dX11_chance_91 (jw_M.mono h (fun x31 M32 h => ?_))
            show jw_J 2 mX11_chance 94 [(2, vi x29), (1, vi x1), (0, vr 11 0)] [vi x31] M32 Q
            refine jr_istore_n (pc := 94) (lv' := [(3, vi x31), (2, vi x29), (1, vi x1), (0, vr 11 0)]) dX11_chance_94 rfl (by decide) rfl ?_
            refine jr_aload_n (pc := 95) dX11_chance_95 rfl 3 rfl ?_
            refine jr_get (pc := 96) (v := vr 43 0) fg_X11_31 (by decide) rfl dX11_chance_96 ?_
            refine jr_iload_n (pc := 99) dX11_chance_99 rfl 1 rfl ?_
            refine jr_aload_n (pc := 100) dX11_chance_100 rfl 3 rfl ?_
            refine jr_iload_n (pc := 101) dX11_chance_101 rfl 1 rfl ?_
            refine jr_iload_n (pc := 102) dX11_chance_102 rfl 0 rfl ?_
            refine jr_callV (pc := 103) (d' := 1) (mt' := mX11_canStand) (k := 11) (n := 0) (As := [vi x29, vi x31]) (st := [vi x29, vr 43 0]) fc_X11_266 (by decide) (by decide) (Nat.le_of_ble_eq_true rfl) rfl dX11_chance_103 (jw_M.mono h (fun x33 M34 h => ?_))
            show jw_J 2 mX11_chance 106 [(3, vi x31), (2, vi x29), (1, vi x1), (0, vr 11 0)] [vi x33, vi x29, vr 43 0] M34 Q
            refine jr_if_eq (pc := 106) (tgt := 113) dX11_chance_106 (by decide) (fun c => ?_) (fun c => ?_)
            · replace h := h.1 c
              refine jr_aload_n (pc := 113) dX11_chance_113 rfl 3 rfl ?_
              refine jr_get (pc := 114) (v := vr 43 0) fg_X11_31 (by decide) rfl dX11_chance_114 ?_
              refine jr_iload_n (pc := 117) dX11_chance_117 rfl 1 rfl ?_
              refine jr_iald (pc := 118) ⟨rfl, (by decide)⟩ h.1 dX11_chance_118 ?_
              replace h := h.2
              refine jr_iast (pc := 119) ⟨rfl, (by decide)⟩ h.1 dX11_chance_119 ?_
              replace h := h.2
              replace h := h _ rfl
              generalize jw_up M34 43 0 x29.toNatClampNeg (M34 43 0 x29.toNatClampNeg) = M35 at h ⊢
              refine jr_goto (pc := 120) (tgt := 152) dX11_chance_120 (by decide) ?_
              exact jr_vret (pc := 152) rfl dX11_chance_152 h
            · replace h := h.2 c
              refine jr_iload_n (pc := 109) dX11_chance_109 rfl 0 rfl ?_
              refine jr_goto (pc := 110) (tgt := 119) dX11_chance_110 (by decide) ?_
              refine jr_iast (pc := 119) ⟨rfl, (by decide)⟩ h.1 dX11_chance_119 ?_
              replace h := h.2
              replace h := h _ rfl
              generalize jw_up M34 43 0 x29.toNatClampNeg x31 = M36 at h ⊢
              refine jr_goto (pc := 120) (tgt := 152) dX11_chance_120 (by decide) ?_
              exact jr_vret (pc := 152) rfl dX11_chance_152 h
    · replace h := h.2 c
      refine jr_aload_n (pc := 17) dX11_chance_17 rfl 1 rfl ?_
      refine jr_get (pc := 18) (v := vi (M2 11 0 1)) fg_X11_96 (by decide) rfl dX11_chance_18 ?_
      refine jr_if_le (pc := 21) (tgt := 58) dX11_chance_21 (by decide) (fun c => ?_) (fun c => ?_)
      · replace h := h.1 c
        refine jr_iload_n (pc := 58) dX11_chance_58 rfl 0 rfl ?_
        refine jr_iconst (pc := 59) (v := 1) dX11_chance_59 (by decide) ?_
        refine jr_icmp_ne (pc := 60) (tgt := 123) dX11_chance_60 (by decide) (fun c => ?_) (fun c => ?_)
        · replace h := h.1 c
          refine jr_iload_n (pc := 123) dX11_chance_123 rfl 0 rfl ?_
          refine jr_iconst (pc := 124) (v := 2) dX11_chance_124 (by decide) ?_
          refine jr_icmp_ne (pc := 125) (tgt := 152) dX11_chance_125 (by decide) (fun c => ?_) (fun c => ?_)
          · replace h := h.1 c
            exact jr_vret (pc := 152) rfl dX11_chance_152 h
          · replace h := h.2 c
            refine jr_aload_n (pc := 128) dX11_chance_128 rfl 1 rfl ?_
            refine jr_get (pc := 129) (v := vi (M2 11 0 3)) fg_X11_103 (by decide) rfl dX11_chance_129 ?_
            refine jr_if_le (pc := 132) (tgt := 152) dX11_chance_132 (by decide) (fun c => ?_) (fun c => ?_)
            · replace h := h.1 c
              exact jr_vret (pc := 152) rfl dX11_chance_152 h
            · replace h := h.2 c
              refine jr_aload_n (pc := 135) dX11_chance_135 rfl 1 rfl ?_
              refine jr_get (pc := 136) (v := vr 43 0) fg_X11_31 (by decide) rfl dX11_chance_136 ?_
              refine jr_bipush (pc := 139) (v := 6) dX11_chance_139 (by decide) ?_
              refine jr_aload_n (pc := 141) dX11_chance_141 rfl 1 rfl ?_
              refine jr_aload_n (pc := 142) dX11_chance_142 rfl 1 rfl ?_
              refine jr_get (pc := 143) (v := vi (M2 11 0 3)) fg_X11_103 (by decide) rfl dX11_chance_143 ?_
              refine jr_callV (pc := 146) (d' := 0) (mt' := mX11_draw) (k := 11) (n := 0) (As := [vi (M2 11 0 3)]) (st := [vi 6, vr 43 0]) fc_X11_279 (by decide) (by decide) (Nat.le_of_ble_eq_true rfl) rfl dX11_chance_146 (jw_M.mono h (fun x37 M38 h => ?_))
              show jw_J 2 mX11_chance 149 [(1, vi x1), (0, vr 11 0)] [vi x37, vi 6, vr 43 0] M38 Q
              refine jr_iadd (pc := 149) dX11_chance_149 ?_
              refine jr_iconst (pc := 150) (v := 0) dX11_chance_150 (by decide) ?_
              refine jr_iast (pc := 151) ⟨rfl, (by decide)⟩ h.1 dX11_chance_151 ?_
              replace h := h.2
              replace h := h _ rfl
              generalize jw_up M38 43 0 ((6 + x37) : Int32).toNatClampNeg 0 = M39 at h ⊢
              exact jr_vret (pc := 152) rfl dX11_chance_152 h
        · replace h := h.2 c
          refine jr_aload_n (pc := 63) dX11_chance_63 rfl 1 rfl ?_
          refine jr_get (pc := 64) (v := vi (M2 11 0 3)) fg_X11_103 (by decide) rfl dX11_chance_64 ?_
          refine jr_if_le (pc := 67) (tgt := 123) dX11_chance_67 (by decide) (fun c => ?_) (fun c => ?_)
          · replace h := h.1 c
            refine jr_iload_n (pc := 123) dX11_chance_123 rfl 0 rfl ?_
            refine jr_iconst (pc := 124) (v := 2) dX11_chance_124 (by decide) ?_
            refine jr_icmp_ne (pc := 125) (tgt := 152) dX11_chance_125 (by decide) (fun c => ?_) (fun c => ?_)
            · replace h := h.1 c
              exact jr_vret (pc := 152) rfl dX11_chance_152 h
            · replace h := h.2 c
              refine jr_aload_n (pc := 128) dX11_chance_128 rfl 1 rfl ?_
              refine jr_get (pc := 129) (v := vi (M2 11 0 3)) fg_X11_103 (by decide) rfl dX11_chance_129 ?_
              refine jr_if_le (pc := 132) (tgt := 152) dX11_chance_132 (by decide) (fun c => ?_) (fun c => ?_)
              · replace h := h.1 c
                exact jr_vret (pc := 152) rfl dX11_chance_152 h
              · replace h := h.2 c
                refine jr_aload_n (pc := 135) dX11_chance_135 rfl 1 rfl ?_
                refine jr_get (pc := 136) (v := vr 43 0) fg_X11_31 (by decide) rfl dX11_chance_136 ?_
                refine jr_bipush (pc := 139) (v := 6) dX11_chance_139 (by decide) ?_
                refine jr_aload_n (pc := 141) dX11_chance_141 rfl 1 rfl ?_
                refine jr_aload_n (pc := 142) dX11_chance_142 rfl 1 rfl ?_
                refine jr_get (pc := 143) (v := vi (M2 11 0 3)) fg_X11_103 (by decide) rfl dX11_chance_143 ?_
                refine jr_callV (pc := 146) (d' := 0) (mt' := mX11_draw) (k := 11) (n := 0) (As := [vi (M2 11 0 3)]) (st := [vi 6, vr 43 0]) fc_X11_279 (by decide) (by decide) (Nat.le_of_ble_eq_true rfl) rfl dX11_chance_146 (jw_M.mono h (fun x40 M41 h => ?_))
                show jw_J 2 mX11_chance 149 [(1, vi x1), (0, vr 11 0)] [vi x40, vi 6, vr 43 0] M41 Q
                refine jr_iadd (pc := 149) dX11_chance_149 ?_
                refine jr_iconst (pc := 150) (v := 0) dX11_chance_150 (by decide) ?_
                refine jr_iast (pc := 151) ⟨rfl, (by decide)⟩ h.1 dX11_chance_151 ?_
                replace h := h.2
                replace h := h _ rfl
                generalize jw_up M41 43 0 ((6 + x40) : Int32).toNatClampNeg 0 = M42 at h ⊢
                exact jr_vret (pc := 152) rfl dX11_chance_152 h
          · replace h := h.2 c
            refine jr_aload_n (pc := 70) dX11_chance_70 rfl 1 rfl ?_
            refine jr_get (pc := 71) (v := vi (M2 11 0 1)) fg_X11_96 (by decide) rfl dX11_chance_71 ?_
            refine jr_if_le (pc := 74) (tgt := 123) dX11_chance_74 (by decide) (fun c => ?_) (fun c => ?_)
            · replace h := h.1 c
              refine jr_iload_n (pc := 123) dX11_chance_123 rfl 0 rfl ?_
              refine jr_iconst (pc := 124) (v := 2) dX11_chance_124 (by decide) ?_
              refine jr_icmp_ne (pc := 125) (tgt := 152) dX11_chance_125 (by decide) (fun c => ?_) (fun c => ?_)
              · replace h := h.1 c
                exact jr_vret (pc := 152) rfl dX11_chance_152 h
              · replace h := h.2 c
                refine jr_aload_n (pc := 128) dX11_chance_128 rfl 1 rfl ?_
                refine jr_get (pc := 129) (v := vi (M2 11 0 3)) fg_X11_103 (by decide) rfl dX11_chance_129 ?_
                refine jr_if_le (pc := 132) (tgt := 152) dX11_chance_132 (by decide) (fun c => ?_) (fun c => ?_)
                · replace h := h.1 c
                  exact jr_vret (pc := 152) rfl dX11_chance_152 h
                · replace h := h.2 c
                  refine jr_aload_n (pc := 135) dX11_chance_135 rfl 1 rfl ?_
                  refine jr_get (pc := 136) (v := vr 43 0) fg_X11_31 (by decide) rfl dX11_chance_136 ?_
                  refine jr_bipush (pc := 139) (v := 6) dX11_chance_139 (by decide) ?_
                  refine jr_aload_n (pc := 141) dX11_chance_141 rfl 1 rfl ?_
                  refine jr_aload_n (pc := 142) dX11_chance_142 rfl 1 rfl ?_
                  refine jr_get (pc := 143) (v := vi (M2 11 0 3)) fg_X11_103 (by decide) rfl dX11_chance_143 ?_
                  refine jr_callV (pc := 146) (d' := 0) (mt' := mX11_draw) (k := 11) (n := 0) (As := [vi (M2 11 0 3)]) (st := [vi 6, vr 43 0]) fc_X11_279 (by decide) (by decide) (Nat.le_of_ble_eq_true rfl) rfl dX11_chance_146 (jw_M.mono h (fun x43 M44 h => ?_))
                  show jw_J 2 mX11_chance 149 [(1, vi x1), (0, vr 11 0)] [vi x43, vi 6, vr 43 0] M44 Q
                  refine jr_iadd (pc := 149) dX11_chance_149 ?_
                  refine jr_iconst (pc := 150) (v := 0) dX11_chance_150 (by decide) ?_
                  refine jr_iast (pc := 151) ⟨rfl, (by decide)⟩ h.1 dX11_chance_151 ?_
                  replace h := h.2
                  replace h := h _ rfl
                  generalize jw_up M44 43 0 ((6 + x43) : Int32).toNatClampNeg 0 = M45 at h ⊢
                  exact jr_vret (pc := 152) rfl dX11_chance_152 h
            · replace h := h.2 c
              refine jr_aload_n (pc := 77) dX11_chance_77 rfl 1 rfl ?_
              refine jr_aload_n (pc := 78) dX11_chance_78 rfl 1 rfl ?_
              refine jr_get (pc := 79) (v := vi (M2 11 0 3)) fg_X11_103 (by decide) rfl dX11_chance_79 ?_
              refine jr_callV (pc := 82) (d' := 0) (mt' := mX11_draw) (k := 11) (n := 0) (As := [vi (M2 11 0 3)]) (st := []) fc_X11_279 (by decide) (by decide) (Nat.le_of_ble_eq_true rfl) rfl dX11_chance_82 (jw_M.mono h (fun x46 M47 h => ?_))
              show jw_J 2 mX11_chance 85 [(1, vi x1), (0, vr 11 0)] [vi x46] M47 Q
              refine jr_istore_n (pc := 85) (lv' := [(2, vi x46), (1, vi x1), (0, vr 11 0)]) dX11_chance_85 rfl (by decide) rfl ?_
              refine jr_aload_n (pc := 86) dX11_chance_86 rfl 2 rfl ?_
              refine jr_aload_n (pc := 87) dX11_chance_87 rfl 2 rfl ?_
              refine jr_get (pc := 88) (v := vi (M47 11 0 1)) fg_X11_96 (by decide) rfl dX11_chance_88 ?_
              refine jr_callV (pc := 91) (d' := 0) (mt' := mX11_draw) (k := 11) (n := 0) (As := [vi (M47 11 0 1)]) (st := []) fc_X11_279 (by decide) (by decide) (Nat.le_of_ble_eq_true rfl) rfl dX11_chance_91 (jw_M.mono h (fun x48 M49 h => ?_))
              show jw_J 2 mX11_chance 94 [(2, vi x46), (1, vi x1), (0, vr 11 0)] [vi x48] M49 Q
              refine jr_istore_n (pc := 94) (lv' := [(3, vi x48), (2, vi x46), (1, vi x1), (0, vr 11 0)]) dX11_chance_94 rfl (by decide) rfl ?_
              refine jr_aload_n (pc := 95) dX11_chance_95 rfl 3 rfl ?_
              refine jr_get (pc := 96) (v := vr 43 0) fg_X11_31 (by decide) rfl dX11_chance_96 ?_
              refine jr_iload_n (pc := 99) dX11_chance_99 rfl 1 rfl ?_
              refine jr_aload_n (pc := 100) dX11_chance_100 rfl 3 rfl ?_
              refine jr_iload_n (pc := 101) dX11_chance_101 rfl 1 rfl ?_
              refine jr_iload_n (pc := 102) dX11_chance_102 rfl 0 rfl ?_
              refine jr_callV (pc := 103) (d' := 1) (mt' := mX11_canStand) (k := 11) (n := 0) (As := [vi x46, vi x48]) (st := [vi x46, vr 43 0]) fc_X11_266 (by decide) (by decide) (Nat.le_of_ble_eq_true rfl) rfl dX11_chance_103 (jw_M.mono h (fun x50 M51 h => ?_))
              show jw_J 2 mX11_chance 106 [(3, vi x48), (2, vi x46), (1, vi x1), (0, vr 11 0)] [vi x50, vi x46, vr 43 0] M51 Q
              refine jr_if_eq (pc := 106) (tgt := 113) dX11_chance_106 (by decide) (fun c => ?_) (fun c => ?_)
              · replace h := h.1 c
                refine jr_aload_n (pc := 113) dX11_chance_113 rfl 3 rfl ?_
                refine jr_get (pc := 114) (v := vr 43 0) fg_X11_31 (by decide) rfl dX11_chance_114 ?_
                refine jr_iload_n (pc := 117) dX11_chance_117 rfl 1 rfl ?_
                refine jr_iald (pc := 118) ⟨rfl, (by decide)⟩ h.1 dX11_chance_118 ?_
                replace h := h.2
                refine jr_iast (pc := 119) ⟨rfl, (by decide)⟩ h.1 dX11_chance_119 ?_
                replace h := h.2
                replace h := h _ rfl
                generalize jw_up M51 43 0 x46.toNatClampNeg (M51 43 0 x46.toNatClampNeg) = M52 at h ⊢
                refine jr_goto (pc := 120) (tgt := 152) dX11_chance_120 (by decide) ?_
                exact jr_vret (pc := 152) rfl dX11_chance_152 h
              · replace h := h.2 c
                refine jr_iload_n (pc := 109) dX11_chance_109 rfl 0 rfl ?_
                refine jr_goto (pc := 110) (tgt := 119) dX11_chance_110 (by decide) ?_
                refine jr_iast (pc := 119) ⟨rfl, (by decide)⟩ h.1 dX11_chance_119 ?_
                replace h := h.2
                replace h := h _ rfl
                generalize jw_up M51 43 0 x46.toNatClampNeg x48 = M53 at h ⊢
                refine jr_goto (pc := 120) (tgt := 152) dX11_chance_120 (by decide) ?_
                exact jr_vret (pc := 152) rfl dX11_chance_152 h
      · replace h := h.2 c
        refine jr_aload_n (pc := 24) dX11_chance_24 rfl 1 rfl ?_
        refine jr_aload_n (pc := 25) dX11_chance_25 rfl 1 rfl ?_
        refine jr_get (pc := 26) (v := vi (M2 11 0 7)) fg_X11_106 (by decide) rfl dX11_chance_26 ?_
        refine jr_callV (pc := 29) (d' := 0) (mt' := mX11_draw) (k := 11) (n := 0) (As := [vi (M2 11 0 7)]) (st := []) fc_X11_279 (by decide) (by decide) (Nat.le_of_ble_eq_true rfl) rfl dX11_chance_29 (jw_M.mono h (fun x54 M55 h => ?_))
        show jw_J 2 mX11_chance 32 [(1, vi x1), (0, vr 11 0)] [vi x54] M55 Q
        refine jr_istore_n (pc := 32) (lv' := [(2, vi x54), (1, vi x1), (0, vr 11 0)]) dX11_chance_32 rfl (by decide) rfl ?_
        refine jr_aload_n (pc := 33) dX11_chance_33 rfl 2 rfl ?_
        refine jr_get (pc := 34) (v := vr 43 0) fg_X11_31 (by decide) rfl dX11_chance_34 ?_
        refine jr_bipush (pc := 37) (v := 18) dX11_chance_37 (by decide) ?_
        refine jr_iload_n (pc := 39) dX11_chance_39 rfl 0 rfl ?_
        refine jr_iadd (pc := 40) dX11_chance_40 ?_
        refine jr_dup2 (pc := 41) dX11_chance_41 ?_
        refine jr_iald (pc := 42) ⟨rfl, (by decide)⟩ h.1 dX11_chance_42 ?_
        replace h := h.2
        refine jr_iconst (pc := 43) (v := 1) dX11_chance_43 (by decide) ?_
        refine jr_aload_n (pc := 44) dX11_chance_44 rfl 2 rfl ?_
        refine jr_aload_n (pc := 45) dX11_chance_45 rfl 2 rfl ?_
        refine jr_get (pc := 46) (v := vi (M55 11 0 1)) fg_X11_96 (by decide) rfl dX11_chance_46 ?_
        refine jr_callV (pc := 49) (d' := 0) (mt' := mX11_draw) (k := 11) (n := 0) (As := [vi (M55 11 0 1)]) (st := [vi 1, vi (M55 43 0 ((18 + x54) : Int32).toNatClampNeg), vi (18 + x54), vr 43 0]) fc_X11_279 (by decide) (by decide) (Nat.le_of_ble_eq_true rfl) rfl dX11_chance_49 (jw_M.mono h (fun x56 M57 h => ?_))
        show jw_J 2 mX11_chance 52 [(2, vi x54), (1, vi x1), (0, vr 11 0)] [vi x56, vi 1, vi (M55 43 0 ((18 + x54) : Int32).toNatClampNeg), vi (18 + x54), vr 43 0] M57 Q
        refine jr_ishl (pc := 52) dX11_chance_52 ?_
        refine jr_ixor (pc := 53) dX11_chance_53 ?_
        refine jr_iast (pc := 54) ⟨rfl, (by decide)⟩ h.1 dX11_chance_54 ?_
        replace h := h.2
        replace h := h _ rfl
        generalize jw_up M57 43 0 ((18 + x54) : Int32).toNatClampNeg ((M55 43 0 ((18 + x54) : Int32).toNatClampNeg) ^^^ ((1 : Int32) <<< (x56 &&& 31))) = M58 at h ⊢
        refine jr_goto (pc := 55) (tgt := 152) dX11_chance_55 (by decide) ?_
        exact jr_vret (pc := 152) rfl dX11_chance_152 h
theorem dX11_drift_0 : decode cX11_drift 0 = .ok (.aload_n 0, 1) := by decide +kernel
theorem dX11_drift_1 : decode cX11_drift 1 = .ok (.iload_n 1, 1) := by decide +kernel
theorem dX11_drift_2 : decode cX11_drift 2 = .ok (.invokevirtual 257, 3) := by decide +kernel
theorem dX11_drift_5 : decode cX11_drift 5 = .ok (.istore_n 2, 1) := by decide +kernel
theorem dX11_drift_6 : decode cX11_drift 6 = .ok (.iload_n 2, 1) := by decide +kernel
theorem dX11_drift_7 : decode cX11_drift 7 = .ok (.ifCond .eq 5, 3) := by decide +kernel
theorem dX11_drift_10 : decode cX11_drift 10 = .ok (.iload_n 2, 1) := by decide +kernel
theorem dX11_drift_11 : decode cX11_drift 11 = .ok (.ireturn, 1) := by decide +kernel
theorem dX11_drift_12 : decode cX11_drift 12 = .ok (.aload_n 0, 1) := by decide +kernel
theorem dX11_drift_13 : decode cX11_drift 13 = .ok (.invokevirtual 260, 3) := by decide +kernel
theorem dX11_drift_16 : decode cX11_drift 16 = .ok (.iconst 0, 1) := by decide +kernel
theorem dX11_drift_17 : decode cX11_drift 17 = .ok (.istore_n 3, 1) := by decide +kernel
theorem dX11_drift_18 : decode cX11_drift 18 = .ok (.iload_n 3, 1) := by decide +kernel
theorem dX11_drift_19 : decode cX11_drift 19 = .ok (.iload_n 1, 1) := by decide +kernel
theorem dX11_drift_20 : decode cX11_drift 20 = .ok (.if_icmp .ge 17, 3) := by decide +kernel
theorem dX11_drift_23 : decode cX11_drift 23 = .ok (.aload_n 0, 1) := by decide +kernel
theorem dX11_drift_24 : decode cX11_drift 24 = .ok (.invokevirtual 282, 3) := by decide +kernel
theorem dX11_drift_27 : decode cX11_drift 27 = .ok (.aload_n 0, 1) := by decide +kernel
theorem dX11_drift_28 : decode cX11_drift 28 = .ok (.invokevirtual 263, 3) := by decide +kernel
theorem dX11_drift_31 : decode cX11_drift 31 = .ok (.iinc 3 1, 3) := by decide +kernel
theorem dX11_drift_34 : decode cX11_drift 34 = .ok (.goto (-16), 3) := by decide +kernel
theorem dX11_drift_37 : decode cX11_drift 37 = .ok (.aload_n 0, 1) := by decide +kernel
theorem dX11_drift_38 : decode cX11_drift 38 = .ok (.invokevirtual 223, 3) := by decide +kernel
theorem dX11_drift_41 : decode cX11_drift 41 = .ok (.ireturn, 1) := by decide +kernel
set_option maxHeartbeats 4000000 in
set_option maxRecDepth 20000 in
theorem en_X11_drift {a1 : Int32} {M : jw_Mem} {Q : Int32 → jw_Mem → Prop}  (h : (jw_M 1 mX11_yearsRefused [vr 11 0, vi a1] M (fun x1 M2 => ((x1 = 0 → (jw_M 0 mX11_remember [vr 11 0] M2 (fun x3 M4 => jw_J 7 mX11_drift 18 [(0, vr 11 0), (1, vi a1), (3, vi 0)] [] M4 Q))) ∧ (¬ x1 = 0 → Q x1 M2))))) : jw_M 7 mX11_drift [vr 11 0, vi a1] M Q := by
  refine jw_M.of (by decide) (Nat.le_of_ble_eq_true rfl) ?_
  show jw_J 7 mX11_drift 0 [(0, vr 11 0), (1, vi a1)] [] M Q
  refine jr_aload_n (pc := 0) dX11_drift_0 rfl 0 rfl ?_
  refine jr_iload_n (pc := 1) dX11_drift_1 rfl 1 rfl ?_
  refine jr_callV (pc := 2) (d' := 1) (mt' := mX11_yearsRefused) (k := 11) (n := 0) (As := [vi a1]) (st := []) fc_X11_257 (by decide) (by decide) (Nat.le_of_ble_eq_true rfl) rfl dX11_drift_2 (jw_M.mono h (fun x1 M2 h => ?_))
  show jw_J 7 mX11_drift 5 [(0, vr 11 0), (1, vi a1)] [vi x1] M2 Q
  refine jr_istore_n (pc := 5) (lv' := [(2, vi x1), (0, vr 11 0), (1, vi a1)]) dX11_drift_5 rfl (by decide) rfl ?_
  refine jr_iload_n (pc := 6) dX11_drift_6 rfl 0 rfl ?_
  refine jr_if_eq (pc := 7) (tgt := 12) dX11_drift_7 (by decide) (fun c => ?_) (fun c => ?_)
  · replace h := h.1 c
    refine jr_aload_n (pc := 12) dX11_drift_12 rfl 1 rfl ?_
    refine jr_callV (pc := 13) (d' := 0) (mt' := mX11_remember) (k := 11) (n := 0) (As := []) (st := []) fc_X11_260 (by decide) (by decide) (Nat.le_of_ble_eq_true rfl) rfl dX11_drift_13 (jw_M.mono h (fun x3 M4 h => ?_))
    show jw_J 7 mX11_drift 16 [(2, vi x1), (0, vr 11 0), (1, vi a1)] [] M4 Q
    refine jr_iconst (pc := 16) (v := 0) dX11_drift_16 (by decide) ?_
    refine jr_istore_n (pc := 17) (lv' := [(3, vi 0), (2, vi x1), (0, vr 11 0), (1, vi a1)]) dX11_drift_17 rfl (by decide) rfl ?_
    exact jr_sub [2, 3, 0] rfl h
  · replace h := h.2 c
    refine jr_iload_n (pc := 10) dX11_drift_10 rfl 0 rfl ?_
    exact jr_iret (pc := 11) rfl dX11_drift_11 h
set_option maxHeartbeats 4000000 in
set_option maxRecDepth 20000 in
theorem bk_X11_drift_18 {v1 : Int32} {v3 : Int32} {M : jw_Mem} {Q : Int32 → jw_Mem → Prop}  (h : ((v1 ≤ v3 → (jw_M 1 mX11_standingOnes [vr 11 0] M (fun x5 M6 => Q x5 M6))) ∧ (¬ v1 ≤ v3 → (jw_M 2 mX11_chance [vr 11 0] M (fun x7 M8 => (jw_M 6 mX11_pass [vr 11 0] M8 (fun x9 M10 => jw_J 7 mX11_drift 18 [(0, vr 11 0), (1, vi v1), (3, vi (v3 + 1))] [] M10 Q))))))) : jw_J 7 mX11_drift 18 [(0, vr 11 0), (1, vi v1), (3, vi v3)] [] M Q := by
  refine jr_iload_n (pc := 18) dX11_drift_18 rfl 2 rfl ?_
  refine jr_iload_n (pc := 19) dX11_drift_19 rfl 1 rfl ?_
  refine jr_icmp_ge (pc := 20) (tgt := 37) dX11_drift_20 (by decide) (fun c => ?_) (fun c => ?_)
  · replace h := h.1 c
    refine jr_aload_n (pc := 37) dX11_drift_37 rfl 0 rfl ?_
    refine jr_callV (pc := 38) (d' := 1) (mt' := mX11_standingOnes) (k := 11) (n := 0) (As := []) (st := []) fc_X11_223 (by decide) (by decide) (Nat.le_of_ble_eq_true rfl) rfl dX11_drift_38 (jw_M.mono h (fun x5 M6 h => ?_))
    show jw_J 7 mX11_drift 41 [(0, vr 11 0), (1, vi v1), (3, vi v3)] [vi x5] M6 Q
    exact jr_iret (pc := 41) rfl dX11_drift_41 h
  · replace h := h.2 c
    refine jr_aload_n (pc := 23) dX11_drift_23 rfl 0 rfl ?_
    refine jr_callV (pc := 24) (d' := 2) (mt' := mX11_chance) (k := 11) (n := 0) (As := []) (st := []) fc_X11_282 (by decide) (by decide) (Nat.le_of_ble_eq_true rfl) rfl dX11_drift_24 (jw_M.mono h (fun x7 M8 h => ?_))
    show jw_J 7 mX11_drift 27 [(0, vr 11 0), (1, vi v1), (3, vi v3)] [] M8 Q
    refine jr_aload_n (pc := 27) dX11_drift_27 rfl 0 rfl ?_
    refine jr_callV (pc := 28) (d' := 6) (mt' := mX11_pass) (k := 11) (n := 0) (As := []) (st := []) fc_X11_263 (by decide) (by decide) (Nat.le_of_ble_eq_true rfl) rfl dX11_drift_28 (jw_M.mono h (fun x9 M10 h => ?_))
    show jw_J 7 mX11_drift 31 [(0, vr 11 0), (1, vi v1), (3, vi v3)] [] M10 Q
    refine jr_iinc (pc := 31) (lv' := [(3, vi (v3 + 1)), (0, vr 11 0), (1, vi v1)]) (q := 2) dX11_drift_31 rfl (by rfl) (by decide) rfl ?_
    refine jr_goto (pc := 34) (tgt := 18) dX11_drift_34 (by decide) ?_
    exact jr_sub [1, 2, 0] rfl h
theorem dX11_undo_0 : decode cX11_undo 0 = .ok (.aload_n 0, 1) := by decide +kernel
theorem dX11_undo_1 : decode cX11_undo 1 = .ok (.getfield 192, 3) := by decide +kernel
theorem dX11_undo_4 : decode cX11_undo 4 = .ok (.ifCond .ne 7, 3) := by decide +kernel
theorem dX11_undo_7 : decode cX11_undo 7 = .ok (.ldc_w 256, 3) := by decide +kernel
theorem dX11_undo_10 : decode cX11_undo 10 = .ok (.ireturn, 1) := by decide +kernel
theorem dX11_undo_11 : decode cX11_undo 11 = .ok (.aload_n 0, 1) := by decide +kernel
theorem dX11_undo_12 : decode cX11_undo 12 = .ok (.dup, 1) := by decide +kernel
theorem dX11_undo_13 : decode cX11_undo 13 = .ok (.getfield 192, 3) := by decide +kernel
theorem dX11_undo_16 : decode cX11_undo 16 = .ok (.iconst 1, 1) := by decide +kernel
theorem dX11_undo_17 : decode cX11_undo 17 = .ok (.isub, 1) := by decide +kernel
theorem dX11_undo_18 : decode cX11_undo 18 = .ok (.putfield 192, 3) := by decide +kernel
theorem dX11_undo_21 : decode cX11_undo 21 = .ok (.iconst 0, 1) := by decide +kernel
theorem dX11_undo_22 : decode cX11_undo 22 = .ok (.istore_n 1, 1) := by decide +kernel
theorem dX11_undo_23 : decode cX11_undo 23 = .ok (.iload_n 1, 1) := by decide +kernel
theorem dX11_undo_24 : decode cX11_undo 24 = .ok (.bipush 33, 2) := by decide +kernel
theorem dX11_undo_26 : decode cX11_undo 26 = .ok (.if_icmp .ge 29, 3) := by decide +kernel
theorem dX11_undo_29 : decode cX11_undo 29 = .ok (.aload_n 0, 1) := by decide +kernel
theorem dX11_undo_30 : decode cX11_undo 30 = .ok (.getfield 31, 3) := by decide +kernel
theorem dX11_undo_33 : decode cX11_undo 33 = .ok (.iload_n 1, 1) := by decide +kernel
theorem dX11_undo_34 : decode cX11_undo 34 = .ok (.aload_n 0, 1) := by decide +kernel
theorem dX11_undo_35 : decode cX11_undo 35 = .ok (.getfield 62, 3) := by decide +kernel
theorem dX11_undo_38 : decode cX11_undo 38 = .ok (.bipush 33, 2) := by decide +kernel
theorem dX11_undo_40 : decode cX11_undo 40 = .ok (.aload_n 0, 1) := by decide +kernel
theorem dX11_undo_41 : decode cX11_undo 41 = .ok (.getfield 192, 3) := by decide +kernel
theorem dX11_undo_44 : decode cX11_undo 44 = .ok (.imul, 1) := by decide +kernel
theorem dX11_undo_45 : decode cX11_undo 45 = .ok (.iload_n 1, 1) := by decide +kernel
theorem dX11_undo_46 : decode cX11_undo 46 = .ok (.iadd, 1) := by decide +kernel
theorem dX11_undo_47 : decode cX11_undo 47 = .ok (.iaload, 1) := by decide +kernel
theorem dX11_undo_48 : decode cX11_undo 48 = .ok (.iastore, 1) := by decide +kernel
theorem dX11_undo_49 : decode cX11_undo 49 = .ok (.iinc 1 1, 3) := by decide +kernel
theorem dX11_undo_52 : decode cX11_undo 52 = .ok (.goto (-29), 3) := by decide +kernel
theorem dX11_undo_55 : decode cX11_undo 55 = .ok (.aload_n 0, 1) := by decide +kernel
theorem dX11_undo_56 : decode cX11_undo 56 = .ok (.getfield 192, 3) := by decide +kernel
theorem dX11_undo_59 : decode cX11_undo 59 = .ok (.ireturn, 1) := by decide +kernel
set_option maxHeartbeats 4000000 in
set_option maxRecDepth 20000 in
theorem en_X11_undo {M : jw_Mem} {Q : Int32 → jw_Mem → Prop}  (h : ((¬ (M 11 0 30) = 0 → (∀ M1 : jw_Mem, M1 = jw_up M 11 0 30 ((M 11 0 30) - 1) → jw_J 0 mX11_undo 23 [(0, vr 11 0), (1, vi 0)] [] M1 Q)) ∧ ((M 11 0 30) = 0 → Q (-1000000003) M))) : jw_M 0 mX11_undo [vr 11 0] M Q := by
  refine jw_M.of (by decide) (Nat.le_of_ble_eq_true rfl) ?_
  show jw_J 0 mX11_undo 0 [(0, vr 11 0)] [] M Q
  refine jr_aload_n (pc := 0) dX11_undo_0 rfl 0 rfl ?_
  refine jr_get (pc := 1) (v := vi (M 11 0 30)) fg_X11_192 (by decide) rfl dX11_undo_1 ?_
  refine jr_if_ne (pc := 4) (tgt := 11) dX11_undo_4 (by decide) (fun c => ?_) (fun c => ?_)
  · replace h := h.1 c
    refine jr_aload_n (pc := 11) dX11_undo_11 rfl 0 rfl ?_
    refine jr_dup_r (pc := 12) dX11_undo_12 ?_
    refine jr_get (pc := 13) (v := vi (M 11 0 30)) fg_X11_192 (by decide) rfl dX11_undo_13 ?_
    refine jr_iconst (pc := 16) (v := 1) dX11_undo_16 (by decide) ?_
    refine jr_isub (pc := 17) dX11_undo_17 ?_
    refine jr_put (pc := 18) fp_X11_192 (by decide) (Or.inl ⟨_, _, _, rfl, by decide +kernel⟩) dX11_undo_18 ?_
    replace h := h _ rfl
    generalize jw_up M 11 0 30 ((M 11 0 30) - 1) = M1 at h ⊢
    refine jr_iconst (pc := 21) (v := 0) dX11_undo_21 (by decide) ?_
    refine jr_istore_n (pc := 22) (lv' := [(1, vi 0), (0, vr 11 0)]) dX11_undo_22 rfl (by decide) rfl ?_
    exact jr_sub [1, 0] rfl h
  · replace h := h.2 c
    refine jr_ldcw (pc := 7) fk_X11_256 dX11_undo_7 ?_
    exact jr_iret (pc := 10) rfl dX11_undo_10 h
set_option maxHeartbeats 4000000 in
set_option maxRecDepth 20000 in
theorem bk_X11_undo_23 {v1 : Int32} {M : jw_Mem} {Q : Int32 → jw_Mem → Prop}  (h : ((33 ≤ v1 → Q (M 11 0 30) M) ∧ (¬ 33 ≤ v1 → (vp_in ((33 * (M 11 0 30)) + v1) 528 ∧ (vp_in v1 33 ∧ (∀ M2 : jw_Mem, M2 = jw_up M 43 0 v1.toNatClampNeg (M 52 0 (((33 * (M 11 0 30)) + v1) : Int32).toNatClampNeg) → jw_J 0 mX11_undo 23 [(0, vr 11 0), (1, vi (v1 + 1))] [] M2 Q)))))) : jw_J 0 mX11_undo 23 [(0, vr 11 0), (1, vi v1)] [] M Q := by
  refine jr_iload_n (pc := 23) dX11_undo_23 rfl 1 rfl ?_
  refine jr_bipush (pc := 24) (v := 33) dX11_undo_24 (by decide) ?_
  refine jr_icmp_ge (pc := 26) (tgt := 55) dX11_undo_26 (by decide) (fun c => ?_) (fun c => ?_)
  · replace h := h.1 c
    refine jr_aload_n (pc := 55) dX11_undo_55 rfl 0 rfl ?_
    refine jr_get (pc := 56) (v := vi (M 11 0 30)) fg_X11_192 (by decide) rfl dX11_undo_56 ?_
    exact jr_iret (pc := 59) rfl dX11_undo_59 h
  · replace h := h.2 c
    refine jr_aload_n (pc := 29) dX11_undo_29 rfl 0 rfl ?_
    refine jr_get (pc := 30) (v := vr 43 0) fg_X11_31 (by decide) rfl dX11_undo_30 ?_
    refine jr_iload_n (pc := 33) dX11_undo_33 rfl 1 rfl ?_
    refine jr_aload_n (pc := 34) dX11_undo_34 rfl 0 rfl ?_
    refine jr_get (pc := 35) (v := vr 52 0) fg_X11_62 (by decide) rfl dX11_undo_35 ?_
    refine jr_bipush (pc := 38) (v := 33) dX11_undo_38 (by decide) ?_
    refine jr_aload_n (pc := 40) dX11_undo_40 rfl 0 rfl ?_
    refine jr_get (pc := 41) (v := vi (M 11 0 30)) fg_X11_192 (by decide) rfl dX11_undo_41 ?_
    refine jr_imul (pc := 44) dX11_undo_44 ?_
    refine jr_iload_n (pc := 45) dX11_undo_45 rfl 1 rfl ?_
    refine jr_iadd (pc := 46) dX11_undo_46 ?_
    refine jr_iald (pc := 47) ⟨rfl, (by decide)⟩ h.1 dX11_undo_47 ?_
    replace h := h.2
    refine jr_iast (pc := 48) ⟨rfl, (by decide)⟩ h.1 dX11_undo_48 ?_
    replace h := h.2
    replace h := h _ rfl
    generalize jw_up M 43 0 v1.toNatClampNeg (M 52 0 (((33 * (M 11 0 30)) + v1) : Int32).toNatClampNeg) = M2 at h ⊢
    refine jr_iinc (pc := 49) (lv' := [(1, vi (v1 + 1)), (0, vr 11 0)]) (q := 1) dX11_undo_49 rfl (by rfl) (by decide) rfl ?_
    refine jr_goto (pc := 52) (tgt := 23) dX11_undo_52 (by decide) ?_
    exact jr_sub [1, 0] rfl h
theorem dX11_standing_0 : decode cX11_standing 0 = .ok (.aload_n 0, 1) := by decide +kernel
theorem dX11_standing_1 : decode cX11_standing 1 = .ok (.iload_n 1, 1) := by decide +kernel
theorem dX11_standing_2 : decode cX11_standing 2 = .ok (.invokevirtual 242, 3) := by decide +kernel
theorem dX11_standing_5 : decode cX11_standing 5 = .ok (.ifCond .ne 6, 3) := by decide +kernel
theorem dX11_standing_8 : decode cX11_standing 8 = .ok (.ldc 241, 2) := by decide +kernel
theorem dX11_standing_10 : decode cX11_standing 10 = .ok (.ireturn, 1) := by decide +kernel
theorem dX11_standing_11 : decode cX11_standing 11 = .ok (.iload_n 2, 1) := by decide +kernel
theorem dX11_standing_12 : decode cX11_standing 12 = .ok (.i2l, 1) := by decide +kernel
theorem dX11_standing_13 : decode cX11_standing 13 = .ok (.lconst 0, 1) := by decide +kernel
theorem dX11_standing_14 : decode cX11_standing 14 = .ok (.ldc2_w 254, 3) := by decide +kernel
theorem dX11_standing_17 : decode cX11_standing 17 = .ok (.invokestatic 99, 3) := by decide +kernel
theorem dX11_standing_20 : decode cX11_standing 20 = .ok (.ifCond .ne 6, 3) := by decide +kernel
theorem dX11_standing_23 : decode cX11_standing 23 = .ok (.ldc 111, 2) := by decide +kernel
theorem dX11_standing_25 : decode cX11_standing 25 = .ok (.ireturn, 1) := by decide +kernel
theorem dX11_standing_26 : decode cX11_standing 26 = .ok (.aload_n 0, 1) := by decide +kernel
theorem dX11_standing_27 : decode cX11_standing 27 = .ok (.getfield 31, 3) := by decide +kernel
theorem dX11_standing_30 : decode cX11_standing 30 = .ok (.aload_n 0, 1) := by decide +kernel
theorem dX11_standing_31 : decode cX11_standing 31 = .ok (.getfield 65, 3) := by decide +kernel
theorem dX11_standing_34 : decode cX11_standing 34 = .ok (.bipush 33, 2) := by decide +kernel
theorem dX11_standing_36 : decode cX11_standing 36 = .ok (.invokestatic 176, 3) := by decide +kernel
theorem dX11_standing_39 : decode cX11_standing 39 = .ok (.iconst 0, 1) := by decide +kernel
theorem dX11_standing_40 : decode cX11_standing 40 = .ok (.istore_n 3, 1) := by decide +kernel
theorem dX11_standing_41 : decode cX11_standing 41 = .ok (.iload_n 3, 1) := by decide +kernel
theorem dX11_standing_42 : decode cX11_standing 42 = .ok (.iload_n 2, 1) := by decide +kernel
theorem dX11_standing_43 : decode cX11_standing 43 = .ok (.if_icmp .ge 13, 3) := by decide +kernel
theorem dX11_standing_46 : decode cX11_standing 46 = .ok (.aload_n 0, 1) := by decide +kernel
theorem dX11_standing_47 : decode cX11_standing 47 = .ok (.invokevirtual 263, 3) := by decide +kernel
theorem dX11_standing_50 : decode cX11_standing 50 = .ok (.iinc 3 1, 3) := by decide +kernel
theorem dX11_standing_53 : decode cX11_standing 53 = .ok (.goto (-12), 3) := by decide +kernel
theorem dX11_standing_56 : decode cX11_standing 56 = .ok (.aload_n 0, 1) := by decide +kernel
theorem dX11_standing_57 : decode cX11_standing 57 = .ok (.getfield 31, 3) := by decide +kernel
theorem dX11_standing_60 : decode cX11_standing 60 = .ok (.iload_n 1, 1) := by decide +kernel
theorem dX11_standing_61 : decode cX11_standing 61 = .ok (.iaload, 1) := by decide +kernel
theorem dX11_standing_62 : decode cX11_standing 62 = .ok (.istore_n 3, 1) := by decide +kernel
theorem dX11_standing_63 : decode cX11_standing 63 = .ok (.aload_n 0, 1) := by decide +kernel
theorem dX11_standing_64 : decode cX11_standing 64 = .ok (.getfield 65, 3) := by decide +kernel
theorem dX11_standing_67 : decode cX11_standing 67 = .ok (.aload_n 0, 1) := by decide +kernel
theorem dX11_standing_68 : decode cX11_standing 68 = .ok (.getfield 31, 3) := by decide +kernel
theorem dX11_standing_71 : decode cX11_standing 71 = .ok (.bipush 33, 2) := by decide +kernel
theorem dX11_standing_73 : decode cX11_standing 73 = .ok (.invokestatic 176, 3) := by decide +kernel
theorem dX11_standing_76 : decode cX11_standing 76 = .ok (.iload_n 3, 1) := by decide +kernel
theorem dX11_standing_77 : decode cX11_standing 77 = .ok (.ireturn, 1) := by decide +kernel
set_option maxHeartbeats 4000000 in
set_option maxRecDepth 20000 in
theorem en_X11_standing {a1 : Int32} {a2 : Int32} {M : jw_Mem} {Q : Int32 → jw_Mem → Prop}  (h : (jw_M 1 mX11_isStatue [vr 11 0, vi a1] M (fun x1 M2 => ((¬ x1 = 0 → (jw_M 0 mX11_in [vl (a2.toInt64), vl 0, vl 60] M2 (fun x3 M4 => ((¬ x3 = 0 → (jw_M 0 mX11_copyRow [vr 43 0, vr 53 0, vi 33] M4 (fun x5 M6 => jw_J 7 mX11_standing 41 [(0, vr 11 0), (1, vi a1), (2, vi a2), (3, vi 0)] [] M6 Q))) ∧ (x3 = 0 → Q (-1000000002) M4))))) ∧ (x1 = 0 → Q (-1000000001) M2))))) : jw_M 7 mX11_standing [vr 11 0, vi a1, vi a2] M Q := by
  refine jw_M.of (by decide) (Nat.le_of_ble_eq_true rfl) ?_
  show jw_J 7 mX11_standing 0 [(0, vr 11 0), (1, vi a1), (2, vi a2)] [] M Q
  refine jr_aload_n (pc := 0) dX11_standing_0 rfl 0 rfl ?_
  refine jr_iload_n (pc := 1) dX11_standing_1 rfl 1 rfl ?_
  refine jr_callV (pc := 2) (d' := 1) (mt' := mX11_isStatue) (k := 11) (n := 0) (As := [vi a1]) (st := []) fc_X11_242 (by decide) (by decide) (Nat.le_of_ble_eq_true rfl) rfl dX11_standing_2 (jw_M.mono h (fun x1 M2 h => ?_))
  show jw_J 7 mX11_standing 5 [(0, vr 11 0), (1, vi a1), (2, vi a2)] [vi x1] M2 Q
  refine jr_if_ne (pc := 5) (tgt := 11) dX11_standing_5 (by decide) (fun c => ?_) (fun c => ?_)
  · replace h := h.1 c
    refine jr_iload_n (pc := 11) dX11_standing_11 rfl 2 rfl ?_
    refine jr_i2l (pc := 12) dX11_standing_12 ?_
    refine jr_lconst (pc := 13) (v := 0) dX11_standing_13 (by decide) ?_
    refine jr_ldc2 (pc := 14) fk_X11_254 dX11_standing_14 ?_
    refine jr_callS (pc := 17) (d' := 0) (mt' := mX11_in) (As := [vl (a2.toInt64), vl 0, vl 60]) (st := []) fc_X11_99 (by decide) (Nat.le_of_ble_eq_true rfl) rfl dX11_standing_17 (jw_M.mono h (fun x3 M4 h => ?_))
    show jw_J 7 mX11_standing 20 [(0, vr 11 0), (1, vi a1), (2, vi a2)] [vi x3] M4 Q
    refine jr_if_ne (pc := 20) (tgt := 26) dX11_standing_20 (by decide) (fun c => ?_) (fun c => ?_)
    · replace h := h.1 c
      refine jr_aload_n (pc := 26) dX11_standing_26 rfl 0 rfl ?_
      refine jr_get (pc := 27) (v := vr 43 0) fg_X11_31 (by decide) rfl dX11_standing_27 ?_
      refine jr_aload_n (pc := 30) dX11_standing_30 rfl 0 rfl ?_
      refine jr_get (pc := 31) (v := vr 53 0) fg_X11_65 (by decide) rfl dX11_standing_31 ?_
      refine jr_bipush (pc := 34) (v := 33) dX11_standing_34 (by decide) ?_
      refine jr_callS (pc := 36) (d' := 0) (mt' := mX11_copyRow) (As := [vr 43 0, vr 53 0, vi 33]) (st := []) fc_X11_176 (by decide) (Nat.le_of_ble_eq_true rfl) rfl dX11_standing_36 (jw_M.mono h (fun x5 M6 h => ?_))
      show jw_J 7 mX11_standing 39 [(0, vr 11 0), (1, vi a1), (2, vi a2)] [] M6 Q
      refine jr_iconst (pc := 39) (v := 0) dX11_standing_39 (by decide) ?_
      refine jr_istore_n (pc := 40) (lv' := [(3, vi 0), (0, vr 11 0), (1, vi a1), (2, vi a2)]) dX11_standing_40 rfl (by decide) rfl ?_
      exact jr_sub [1, 2, 3, 0] rfl h
    · replace h := h.2 c
      refine jr_ldc (pc := 23) fk_X11_111 dX11_standing_23 ?_
      exact jr_iret (pc := 25) rfl dX11_standing_25 h
  · replace h := h.2 c
    refine jr_ldc (pc := 8) fk_X11_241 dX11_standing_8 ?_
    exact jr_iret (pc := 10) rfl dX11_standing_10 h
set_option maxHeartbeats 4000000 in
set_option maxRecDepth 20000 in
theorem bk_X11_standing_41 {v1 : Int32} {v2 : Int32} {v3 : Int32} {M : jw_Mem} {Q : Int32 → jw_Mem → Prop}  (h : ((v2 ≤ v3 → (vp_in v1 33 ∧ (jw_M 0 mX11_copyRow [vr 53 0, vr 43 0, vi 33] M (fun x7 M8 => Q (M 43 0 v1.toNatClampNeg) M8)))) ∧ (¬ v2 ≤ v3 → (jw_M 6 mX11_pass [vr 11 0] M (fun x9 M10 => jw_J 7 mX11_standing 41 [(0, vr 11 0), (1, vi v1), (2, vi v2), (3, vi (v3 + 1))] [] M10 Q))))) : jw_J 7 mX11_standing 41 [(0, vr 11 0), (1, vi v1), (2, vi v2), (3, vi v3)] [] M Q := by
  refine jr_iload_n (pc := 41) dX11_standing_41 rfl 3 rfl ?_
  refine jr_iload_n (pc := 42) dX11_standing_42 rfl 2 rfl ?_
  refine jr_icmp_ge (pc := 43) (tgt := 56) dX11_standing_43 (by decide) (fun c => ?_) (fun c => ?_)
  · replace h := h.1 c
    refine jr_aload_n (pc := 56) dX11_standing_56 rfl 0 rfl ?_
    refine jr_get (pc := 57) (v := vr 43 0) fg_X11_31 (by decide) rfl dX11_standing_57 ?_
    refine jr_iload_n (pc := 60) dX11_standing_60 rfl 1 rfl ?_
    refine jr_iald (pc := 61) ⟨rfl, (by decide)⟩ h.1 dX11_standing_61 ?_
    replace h := h.2
    refine jr_istore_n (pc := 62) (lv' := [(3, vi (M 43 0 v1.toNatClampNeg)), (0, vr 11 0), (1, vi v1), (2, vi v2)]) dX11_standing_62 rfl (by decide) rfl ?_
    refine jr_aload_n (pc := 63) dX11_standing_63 rfl 1 rfl ?_
    refine jr_get (pc := 64) (v := vr 53 0) fg_X11_65 (by decide) rfl dX11_standing_64 ?_
    refine jr_aload_n (pc := 67) dX11_standing_67 rfl 1 rfl ?_
    refine jr_get (pc := 68) (v := vr 43 0) fg_X11_31 (by decide) rfl dX11_standing_68 ?_
    refine jr_bipush (pc := 71) (v := 33) dX11_standing_71 (by decide) ?_
    refine jr_callS (pc := 73) (d' := 0) (mt' := mX11_copyRow) (As := [vr 53 0, vr 43 0, vi 33]) (st := []) fc_X11_176 (by decide) (Nat.le_of_ble_eq_true rfl) rfl dX11_standing_73 (jw_M.mono h (fun x7 M8 h => ?_))
    show jw_J 7 mX11_standing 76 [(3, vi (M 43 0 v1.toNatClampNeg)), (0, vr 11 0), (1, vi v1), (2, vi v2)] [] M8 Q
    refine jr_iload_n (pc := 76) dX11_standing_76 rfl 0 rfl ?_
    exact jr_iret (pc := 77) rfl dX11_standing_77 h
  · replace h := h.2 c
    refine jr_aload_n (pc := 46) dX11_standing_46 rfl 0 rfl ?_
    refine jr_callV (pc := 47) (d' := 6) (mt' := mX11_pass) (k := 11) (n := 0) (As := []) (st := []) fc_X11_263 (by decide) (by decide) (Nat.le_of_ble_eq_true rfl) rfl dX11_standing_47 (jw_M.mono h (fun x9 M10 h => ?_))
    show jw_J 7 mX11_standing 50 [(0, vr 11 0), (1, vi v1), (2, vi v2), (3, vi v3)] [] M10 Q
    refine jr_iinc (pc := 50) (lv' := [(3, vi (v3 + 1)), (0, vr 11 0), (1, vi v1), (2, vi v2)]) (q := 3) dX11_standing_50 rfl (by rfl) (by decide) rfl ?_
    refine jr_goto (pc := 53) (tgt := 41) dX11_standing_53 (by decide) ?_
    exact jr_sub [1, 2, 3, 0] rfl h
theorem dX11_goesDown_0 : decode cX11_goesDown 0 = .ok (.aload_n 0, 1) := by decide +kernel
theorem dX11_goesDown_1 : decode cX11_goesDown 1 = .ok (.iload_n 1, 1) := by decide +kernel
theorem dX11_goesDown_2 : decode cX11_goesDown 2 = .ok (.invokevirtual 242, 3) := by decide +kernel
theorem dX11_goesDown_5 : decode cX11_goesDown 5 = .ok (.ifCond .ne 6, 3) := by decide +kernel
theorem dX11_goesDown_8 : decode cX11_goesDown 8 = .ok (.ldc 241, 2) := by decide +kernel
theorem dX11_goesDown_10 : decode cX11_goesDown 10 = .ok (.ireturn, 1) := by decide +kernel
theorem dX11_goesDown_11 : decode cX11_goesDown 11 = .ok (.aload_n 0, 1) := by decide +kernel
theorem dX11_goesDown_12 : decode cX11_goesDown 12 = .ok (.getfield 31, 3) := by decide +kernel
theorem dX11_goesDown_15 : decode cX11_goesDown 15 = .ok (.aload_n 0, 1) := by decide +kernel
theorem dX11_goesDown_16 : decode cX11_goesDown 16 = .ok (.getfield 65, 3) := by decide +kernel
theorem dX11_goesDown_19 : decode cX11_goesDown 19 = .ok (.bipush 33, 2) := by decide +kernel
theorem dX11_goesDown_21 : decode cX11_goesDown 21 = .ok (.invokestatic 176, 3) := by decide +kernel
theorem dX11_goesDown_24 : decode cX11_goesDown 24 = .ok (.iconst 0, 1) := by decide +kernel
theorem dX11_goesDown_25 : decode cX11_goesDown 25 = .ok (.istore_n 2, 1) := by decide +kernel
theorem dX11_goesDown_26 : decode cX11_goesDown 26 = .ok (.iload_n 2, 1) := by decide +kernel
theorem dX11_goesDown_27 : decode cX11_goesDown 27 = .ok (.bipush 100, 2) := by decide +kernel
theorem dX11_goesDown_29 : decode cX11_goesDown 29 = .ok (.if_icmp .ge 21, 3) := by decide +kernel
theorem dX11_goesDown_32 : decode cX11_goesDown 32 = .ok (.aload_n 0, 1) := by decide +kernel
theorem dX11_goesDown_33 : decode cX11_goesDown 33 = .ok (.iload_n 1, 1) := by decide +kernel
theorem dX11_goesDown_34 : decode cX11_goesDown 34 = .ok (.invokevirtual 211, 3) := by decide +kernel
theorem dX11_goesDown_37 : decode cX11_goesDown 37 = .ok (.ifCond .eq 13, 3) := by decide +kernel
theorem dX11_goesDown_40 : decode cX11_goesDown 40 = .ok (.aload_n 0, 1) := by decide +kernel
theorem dX11_goesDown_41 : decode cX11_goesDown 41 = .ok (.invokevirtual 263, 3) := by decide +kernel
theorem dX11_goesDown_44 : decode cX11_goesDown 44 = .ok (.iinc 2 1, 3) := by decide +kernel
theorem dX11_goesDown_47 : decode cX11_goesDown 47 = .ok (.goto (-21), 3) := by decide +kernel
theorem dX11_goesDown_50 : decode cX11_goesDown 50 = .ok (.aload_n 0, 1) := by decide +kernel
theorem dX11_goesDown_51 : decode cX11_goesDown 51 = .ok (.iload_n 1, 1) := by decide +kernel
theorem dX11_goesDown_52 : decode cX11_goesDown 52 = .ok (.invokevirtual 211, 3) := by decide +kernel
theorem dX11_goesDown_55 : decode cX11_goesDown 55 = .ok (.ifCond .eq 7, 3) := by decide +kernel
theorem dX11_goesDown_58 : decode cX11_goesDown 58 = .ok (.iconst (-1), 1) := by decide +kernel
theorem dX11_goesDown_59 : decode cX11_goesDown 59 = .ok (.goto 4, 3) := by decide +kernel
theorem dX11_goesDown_62 : decode cX11_goesDown 62 = .ok (.iload_n 2, 1) := by decide +kernel
theorem dX11_goesDown_63 : decode cX11_goesDown 63 = .ok (.istore_n 3, 1) := by decide +kernel
theorem dX11_goesDown_64 : decode cX11_goesDown 64 = .ok (.aload_n 0, 1) := by decide +kernel
theorem dX11_goesDown_65 : decode cX11_goesDown 65 = .ok (.getfield 65, 3) := by decide +kernel
theorem dX11_goesDown_68 : decode cX11_goesDown 68 = .ok (.aload_n 0, 1) := by decide +kernel
theorem dX11_goesDown_69 : decode cX11_goesDown 69 = .ok (.getfield 31, 3) := by decide +kernel
theorem dX11_goesDown_72 : decode cX11_goesDown 72 = .ok (.bipush 33, 2) := by decide +kernel
theorem dX11_goesDown_74 : decode cX11_goesDown 74 = .ok (.invokestatic 176, 3) := by decide +kernel
theorem dX11_goesDown_77 : decode cX11_goesDown 77 = .ok (.iload_n 3, 1) := by decide +kernel
theorem dX11_goesDown_78 : decode cX11_goesDown 78 = .ok (.ireturn, 1) := by decide +kernel
set_option maxHeartbeats 4000000 in
set_option maxRecDepth 20000 in
theorem en_X11_goesDown {a1 : Int32} {M : jw_Mem} {Q : Int32 → jw_Mem → Prop}  (h : (jw_M 1 mX11_isStatue [vr 11 0, vi a1] M (fun x1 M2 => ((¬ x1 = 0 → (jw_M 0 mX11_copyRow [vr 43 0, vr 53 0, vi 33] M2 (fun x3 M4 => jw_J 7 mX11_goesDown 26 [(0, vr 11 0), (1, vi a1), (2, vi 0)] [] M4 Q))) ∧ (x1 = 0 → Q (-1000000001) M2))))) : jw_M 7 mX11_goesDown [vr 11 0, vi a1] M Q := by
  refine jw_M.of (by decide) (Nat.le_of_ble_eq_true rfl) ?_
  show jw_J 7 mX11_goesDown 0 [(0, vr 11 0), (1, vi a1)] [] M Q
  refine jr_aload_n (pc := 0) dX11_goesDown_0 rfl 0 rfl ?_
  refine jr_iload_n (pc := 1) dX11_goesDown_1 rfl 1 rfl ?_
  refine jr_callV (pc := 2) (d' := 1) (mt' := mX11_isStatue) (k := 11) (n := 0) (As := [vi a1]) (st := []) fc_X11_242 (by decide) (by decide) (Nat.le_of_ble_eq_true rfl) rfl dX11_goesDown_2 (jw_M.mono h (fun x1 M2 h => ?_))
  show jw_J 7 mX11_goesDown 5 [(0, vr 11 0), (1, vi a1)] [vi x1] M2 Q
  refine jr_if_ne (pc := 5) (tgt := 11) dX11_goesDown_5 (by decide) (fun c => ?_) (fun c => ?_)
  · replace h := h.1 c
    refine jr_aload_n (pc := 11) dX11_goesDown_11 rfl 0 rfl ?_
    refine jr_get (pc := 12) (v := vr 43 0) fg_X11_31 (by decide) rfl dX11_goesDown_12 ?_
    refine jr_aload_n (pc := 15) dX11_goesDown_15 rfl 0 rfl ?_
    refine jr_get (pc := 16) (v := vr 53 0) fg_X11_65 (by decide) rfl dX11_goesDown_16 ?_
    refine jr_bipush (pc := 19) (v := 33) dX11_goesDown_19 (by decide) ?_
    refine jr_callS (pc := 21) (d' := 0) (mt' := mX11_copyRow) (As := [vr 43 0, vr 53 0, vi 33]) (st := []) fc_X11_176 (by decide) (Nat.le_of_ble_eq_true rfl) rfl dX11_goesDown_21 (jw_M.mono h (fun x3 M4 h => ?_))
    show jw_J 7 mX11_goesDown 24 [(0, vr 11 0), (1, vi a1)] [] M4 Q
    refine jr_iconst (pc := 24) (v := 0) dX11_goesDown_24 (by decide) ?_
    refine jr_istore_n (pc := 25) (lv' := [(2, vi 0), (0, vr 11 0), (1, vi a1)]) dX11_goesDown_25 rfl (by decide) rfl ?_
    exact jr_sub [1, 2, 0] rfl h
  · replace h := h.2 c
    refine jr_ldc (pc := 8) fk_X11_241 dX11_goesDown_8 ?_
    exact jr_iret (pc := 10) rfl dX11_goesDown_10 h
set_option maxHeartbeats 4000000 in
set_option maxRecDepth 20000 in
theorem bk_X11_goesDown_26 {v1 : Int32} {v2 : Int32} {M : jw_Mem} {Q : Int32 → jw_Mem → Prop}  (h : ((100 ≤ v2 → (jw_M 0 mX11_stands [vr 11 0, vi v1] M (fun x5 M6 => ((x5 = 0 → (jw_M 0 mX11_copyRow [vr 53 0, vr 43 0, vi 33] M6 (fun x7 M8 => Q v2 M8))) ∧ (¬ x5 = 0 → (jw_M 0 mX11_copyRow [vr 53 0, vr 43 0, vi 33] M6 (fun x9 M10 => Q (-1) M10))))))) ∧ (¬ 100 ≤ v2 → (jw_M 0 mX11_stands [vr 11 0, vi v1] M (fun x11 M12 => ((x11 = 0 → (jw_M 0 mX11_stands [vr 11 0, vi v1] M12 (fun x13 M14 => ((x13 = 0 → (jw_M 0 mX11_copyRow [vr 53 0, vr 43 0, vi 33] M14 (fun x15 M16 => Q v2 M16))) ∧ (¬ x13 = 0 → (jw_M 0 mX11_copyRow [vr 53 0, vr 43 0, vi 33] M14 (fun x17 M18 => Q (-1) M18))))))) ∧ (¬ x11 = 0 → (jw_M 6 mX11_pass [vr 11 0] M12 (fun x19 M20 => jw_J 7 mX11_goesDown 26 [(0, vr 11 0), (1, vi v1), (2, vi (v2 + 1))] [] M20 Q))))))))) : jw_J 7 mX11_goesDown 26 [(0, vr 11 0), (1, vi v1), (2, vi v2)] [] M Q := by
  refine jr_iload_n (pc := 26) dX11_goesDown_26 rfl 2 rfl ?_
  refine jr_bipush (pc := 27) (v := 100) dX11_goesDown_27 (by decide) ?_
  refine jr_icmp_ge (pc := 29) (tgt := 50) dX11_goesDown_29 (by decide) (fun c => ?_) (fun c => ?_)
  · replace h := h.1 c
    refine jr_aload_n (pc := 50) dX11_goesDown_50 rfl 0 rfl ?_
    refine jr_iload_n (pc := 51) dX11_goesDown_51 rfl 1 rfl ?_
    refine jr_callV (pc := 52) (d' := 0) (mt' := mX11_stands) (k := 11) (n := 0) (As := [vi v1]) (st := []) fc_X11_211 (by decide) (by decide) (Nat.le_of_ble_eq_true rfl) rfl dX11_goesDown_52 (jw_M.mono h (fun x5 M6 h => ?_))
    show jw_J 7 mX11_goesDown 55 [(0, vr 11 0), (1, vi v1), (2, vi v2)] [vi x5] M6 Q
    refine jr_if_eq (pc := 55) (tgt := 62) dX11_goesDown_55 (by decide) (fun c => ?_) (fun c => ?_)
    · replace h := h.1 c
      refine jr_iload_n (pc := 62) dX11_goesDown_62 rfl 2 rfl ?_
      refine jr_istore_n (pc := 63) (lv' := [(3, vi v2), (0, vr 11 0), (1, vi v1), (2, vi v2)]) dX11_goesDown_63 rfl (by decide) rfl ?_
      refine jr_aload_n (pc := 64) dX11_goesDown_64 rfl 1 rfl ?_
      refine jr_get (pc := 65) (v := vr 53 0) fg_X11_65 (by decide) rfl dX11_goesDown_65 ?_
      refine jr_aload_n (pc := 68) dX11_goesDown_68 rfl 1 rfl ?_
      refine jr_get (pc := 69) (v := vr 43 0) fg_X11_31 (by decide) rfl dX11_goesDown_69 ?_
      refine jr_bipush (pc := 72) (v := 33) dX11_goesDown_72 (by decide) ?_
      refine jr_callS (pc := 74) (d' := 0) (mt' := mX11_copyRow) (As := [vr 53 0, vr 43 0, vi 33]) (st := []) fc_X11_176 (by decide) (Nat.le_of_ble_eq_true rfl) rfl dX11_goesDown_74 (jw_M.mono h (fun x7 M8 h => ?_))
      show jw_J 7 mX11_goesDown 77 [(3, vi v2), (0, vr 11 0), (1, vi v1), (2, vi v2)] [] M8 Q
      refine jr_iload_n (pc := 77) dX11_goesDown_77 rfl 0 rfl ?_
      exact jr_iret (pc := 78) rfl dX11_goesDown_78 h
    · replace h := h.2 c
      refine jr_iconst (pc := 58) (v := (-1)) dX11_goesDown_58 (by decide) ?_
      refine jr_goto (pc := 59) (tgt := 63) dX11_goesDown_59 (by decide) ?_
      refine jr_istore_n (pc := 63) (lv' := [(3, vi (-1)), (0, vr 11 0), (1, vi v1), (2, vi v2)]) dX11_goesDown_63 rfl (by decide) rfl ?_
      refine jr_aload_n (pc := 64) dX11_goesDown_64 rfl 1 rfl ?_
      refine jr_get (pc := 65) (v := vr 53 0) fg_X11_65 (by decide) rfl dX11_goesDown_65 ?_
      refine jr_aload_n (pc := 68) dX11_goesDown_68 rfl 1 rfl ?_
      refine jr_get (pc := 69) (v := vr 43 0) fg_X11_31 (by decide) rfl dX11_goesDown_69 ?_
      refine jr_bipush (pc := 72) (v := 33) dX11_goesDown_72 (by decide) ?_
      refine jr_callS (pc := 74) (d' := 0) (mt' := mX11_copyRow) (As := [vr 53 0, vr 43 0, vi 33]) (st := []) fc_X11_176 (by decide) (Nat.le_of_ble_eq_true rfl) rfl dX11_goesDown_74 (jw_M.mono h (fun x9 M10 h => ?_))
      show jw_J 7 mX11_goesDown 77 [(3, vi (-1)), (0, vr 11 0), (1, vi v1), (2, vi v2)] [] M10 Q
      refine jr_iload_n (pc := 77) dX11_goesDown_77 rfl 0 rfl ?_
      exact jr_iret (pc := 78) rfl dX11_goesDown_78 h
  · replace h := h.2 c
    refine jr_aload_n (pc := 32) dX11_goesDown_32 rfl 0 rfl ?_
    refine jr_iload_n (pc := 33) dX11_goesDown_33 rfl 1 rfl ?_
    refine jr_callV (pc := 34) (d' := 0) (mt' := mX11_stands) (k := 11) (n := 0) (As := [vi v1]) (st := []) fc_X11_211 (by decide) (by decide) (Nat.le_of_ble_eq_true rfl) rfl dX11_goesDown_34 (jw_M.mono h (fun x11 M12 h => ?_))
    show jw_J 7 mX11_goesDown 37 [(0, vr 11 0), (1, vi v1), (2, vi v2)] [vi x11] M12 Q
    refine jr_if_eq (pc := 37) (tgt := 50) dX11_goesDown_37 (by decide) (fun c => ?_) (fun c => ?_)
    · replace h := h.1 c
      refine jr_aload_n (pc := 50) dX11_goesDown_50 rfl 0 rfl ?_
      refine jr_iload_n (pc := 51) dX11_goesDown_51 rfl 1 rfl ?_
      refine jr_callV (pc := 52) (d' := 0) (mt' := mX11_stands) (k := 11) (n := 0) (As := [vi v1]) (st := []) fc_X11_211 (by decide) (by decide) (Nat.le_of_ble_eq_true rfl) rfl dX11_goesDown_52 (jw_M.mono h (fun x13 M14 h => ?_))
      show jw_J 7 mX11_goesDown 55 [(0, vr 11 0), (1, vi v1), (2, vi v2)] [vi x13] M14 Q
      refine jr_if_eq (pc := 55) (tgt := 62) dX11_goesDown_55 (by decide) (fun c => ?_) (fun c => ?_)
      · replace h := h.1 c
        refine jr_iload_n (pc := 62) dX11_goesDown_62 rfl 2 rfl ?_
        refine jr_istore_n (pc := 63) (lv' := [(3, vi v2), (0, vr 11 0), (1, vi v1), (2, vi v2)]) dX11_goesDown_63 rfl (by decide) rfl ?_
        refine jr_aload_n (pc := 64) dX11_goesDown_64 rfl 1 rfl ?_
        refine jr_get (pc := 65) (v := vr 53 0) fg_X11_65 (by decide) rfl dX11_goesDown_65 ?_
        refine jr_aload_n (pc := 68) dX11_goesDown_68 rfl 1 rfl ?_
        refine jr_get (pc := 69) (v := vr 43 0) fg_X11_31 (by decide) rfl dX11_goesDown_69 ?_
        refine jr_bipush (pc := 72) (v := 33) dX11_goesDown_72 (by decide) ?_
        refine jr_callS (pc := 74) (d' := 0) (mt' := mX11_copyRow) (As := [vr 53 0, vr 43 0, vi 33]) (st := []) fc_X11_176 (by decide) (Nat.le_of_ble_eq_true rfl) rfl dX11_goesDown_74 (jw_M.mono h (fun x15 M16 h => ?_))
        show jw_J 7 mX11_goesDown 77 [(3, vi v2), (0, vr 11 0), (1, vi v1), (2, vi v2)] [] M16 Q
        refine jr_iload_n (pc := 77) dX11_goesDown_77 rfl 0 rfl ?_
        exact jr_iret (pc := 78) rfl dX11_goesDown_78 h
      · replace h := h.2 c
        refine jr_iconst (pc := 58) (v := (-1)) dX11_goesDown_58 (by decide) ?_
        refine jr_goto (pc := 59) (tgt := 63) dX11_goesDown_59 (by decide) ?_
        refine jr_istore_n (pc := 63) (lv' := [(3, vi (-1)), (0, vr 11 0), (1, vi v1), (2, vi v2)]) dX11_goesDown_63 rfl (by decide) rfl ?_
        refine jr_aload_n (pc := 64) dX11_goesDown_64 rfl 1 rfl ?_
        refine jr_get (pc := 65) (v := vr 53 0) fg_X11_65 (by decide) rfl dX11_goesDown_65 ?_
        refine jr_aload_n (pc := 68) dX11_goesDown_68 rfl 1 rfl ?_
        refine jr_get (pc := 69) (v := vr 43 0) fg_X11_31 (by decide) rfl dX11_goesDown_69 ?_
        refine jr_bipush (pc := 72) (v := 33) dX11_goesDown_72 (by decide) ?_
        refine jr_callS (pc := 74) (d' := 0) (mt' := mX11_copyRow) (As := [vr 53 0, vr 43 0, vi 33]) (st := []) fc_X11_176 (by decide) (Nat.le_of_ble_eq_true rfl) rfl dX11_goesDown_74 (jw_M.mono h (fun x17 M18 h => ?_))
        show jw_J 7 mX11_goesDown 77 [(3, vi (-1)), (0, vr 11 0), (1, vi v1), (2, vi v2)] [] M18 Q
        refine jr_iload_n (pc := 77) dX11_goesDown_77 rfl 0 rfl ?_
        exact jr_iret (pc := 78) rfl dX11_goesDown_78 h
    · replace h := h.2 c
      refine jr_aload_n (pc := 40) dX11_goesDown_40 rfl 0 rfl ?_
      refine jr_callV (pc := 41) (d' := 6) (mt' := mX11_pass) (k := 11) (n := 0) (As := []) (st := []) fc_X11_263 (by decide) (by decide) (Nat.le_of_ble_eq_true rfl) rfl dX11_goesDown_41 (jw_M.mono h (fun x19 M20 h => ?_))
      show jw_J 7 mX11_goesDown 44 [(0, vr 11 0), (1, vi v1), (2, vi v2)] [] M20 Q
      refine jr_iinc (pc := 44) (lv' := [(2, vi (v2 + 1)), (0, vr 11 0), (1, vi v1)]) (q := 2) dX11_goesDown_44 rfl (by rfl) (by decide) rfl ?_
      refine jr_goto (pc := 47) (tgt := 26) dX11_goesDown_47 (by decide) ?_
      exact jr_sub [1, 2, 0] rfl h
theorem dX11_change_0 : decode cX11_change 0 = .ok (.aload_n 0, 1) := by decide +kernel
theorem dX11_change_1 : decode cX11_change 1 = .ok (.iload_n 1, 1) := by decide +kernel
theorem dX11_change_2 : decode cX11_change 2 = .ok (.invokevirtual 242, 3) := by decide +kernel
theorem dX11_change_5 : decode cX11_change 5 = .ok (.ifCond .ne 6, 3) := by decide +kernel
theorem dX11_change_8 : decode cX11_change 8 = .ok (.ldc 241, 2) := by decide +kernel
theorem dX11_change_10 : decode cX11_change 10 = .ok (.ireturn, 1) := by decide +kernel
theorem dX11_change_11 : decode cX11_change 11 = .ok (.iload_n 2, 1) := by decide +kernel
theorem dX11_change_12 : decode cX11_change 12 = .ok (.i2l, 1) := by decide +kernel
theorem dX11_change_13 : decode cX11_change 13 = .ok (.lconst 0, 1) := by decide +kernel
theorem dX11_change_14 : decode cX11_change 14 = .ok (.lconst 1, 1) := by decide +kernel
theorem dX11_change_15 : decode cX11_change 15 = .ok (.invokestatic 99, 3) := by decide +kernel
theorem dX11_change_18 : decode cX11_change 18 = .ok (.ifCond .ne 6, 3) := by decide +kernel
theorem dX11_change_21 : decode cX11_change 21 = .ok (.ldc 111, 2) := by decide +kernel
theorem dX11_change_23 : decode cX11_change 23 = .ok (.ireturn, 1) := by decide +kernel
theorem dX11_change_24 : decode cX11_change 24 = .ok (.aload_n 0, 1) := by decide +kernel
theorem dX11_change_25 : decode cX11_change 25 = .ok (.iload_n 1, 1) := by decide +kernel
theorem dX11_change_26 : decode cX11_change 26 = .ok (.invokevirtual 211, 3) := by decide +kernel
theorem dX11_change_29 : decode cX11_change 29 = .ok (.ifCond .ne 7, 3) := by decide +kernel
theorem dX11_change_32 : decode cX11_change 32 = .ok (.ldc_w 256, 3) := by decide +kernel
theorem dX11_change_35 : decode cX11_change 35 = .ok (.ireturn, 1) := by decide +kernel
theorem dX11_change_36 : decode cX11_change 36 = .ok (.aload_n 0, 1) := by decide +kernel
theorem dX11_change_37 : decode cX11_change 37 = .ok (.aload_n 0, 1) := by decide +kernel
theorem dX11_change_38 : decode cX11_change 38 = .ok (.getfield 31, 3) := by decide +kernel
theorem dX11_change_41 : decode cX11_change 41 = .ok (.iload_n 1, 1) := by decide +kernel
theorem dX11_change_42 : decode cX11_change 42 = .ok (.iaload, 1) := by decide +kernel
theorem dX11_change_43 : decode cX11_change 43 = .ok (.invokevirtual 205, 3) := by decide +kernel
theorem dX11_change_46 : decode cX11_change 46 = .ok (.istore_n 3, 1) := by decide +kernel
theorem dX11_change_47 : decode cX11_change 47 = .ok (.iconst (-1), 1) := by decide +kernel
theorem dX11_change_48 : decode cX11_change 48 = .ok (.istore 4, 2) := by decide +kernel
theorem dX11_change_50 : decode cX11_change 50 = .ok (.iconst 0, 1) := by decide +kernel
theorem dX11_change_51 : decode cX11_change 51 = .ok (.istore 5, 2) := by decide +kernel
theorem dX11_change_53 : decode cX11_change 53 = .ok (.iload 5, 2) := by decide +kernel
theorem dX11_change_55 : decode cX11_change 55 = .ok (.iconst 1, 1) := by decide +kernel
theorem dX11_change_56 : decode cX11_change 56 = .ok (.aload_n 0, 1) := by decide +kernel
theorem dX11_change_57 : decode cX11_change 57 = .ok (.getfield 106, 3) := by decide +kernel
theorem dX11_change_60 : decode cX11_change 60 = .ok (.ishl, 1) := by decide +kernel
theorem dX11_change_61 : decode cX11_change 61 = .ok (.if_icmp .ge 81, 3) := by decide +kernel
theorem dX11_change_64 : decode cX11_change 64 = .ok (.iload 4, 2) := by decide +kernel
theorem dX11_change_66 : decode cX11_change 66 = .ok (.ifCond .lt 16, 3) := by decide +kernel
theorem dX11_change_69 : decode cX11_change 69 = .ok (.iload 5, 2) := by decide +kernel
theorem dX11_change_71 : decode cX11_change 71 = .ok (.invokestatic 285, 3) := by decide +kernel
theorem dX11_change_74 : decode cX11_change 74 = .ok (.iload 4, 2) := by decide +kernel
theorem dX11_change_76 : decode cX11_change 76 = .ok (.invokestatic 285, 3) := by decide +kernel
theorem dX11_change_79 : decode cX11_change 79 = .ok (.if_icmp .ge 7, 3) := by decide +kernel
theorem dX11_change_82 : decode cX11_change 82 = .ok (.iconst 1, 1) := by decide +kernel
theorem dX11_change_83 : decode cX11_change 83 = .ok (.goto 4, 3) := by decide +kernel
theorem dX11_change_86 : decode cX11_change 86 = .ok (.iconst 0, 1) := by decide +kernel
theorem dX11_change_87 : decode cX11_change 87 = .ok (.istore 6, 2) := by decide +kernel
theorem dX11_change_89 : decode cX11_change 89 = .ok (.aload_n 0, 1) := by decide +kernel
theorem dX11_change_90 : decode cX11_change 90 = .ok (.iload_n 1, 1) := by decide +kernel
theorem dX11_change_91 : decode cX11_change 91 = .ok (.iload_n 3, 1) := by decide +kernel
theorem dX11_change_92 : decode cX11_change 92 = .ok (.iload 5, 2) := by decide +kernel
theorem dX11_change_94 : decode cX11_change 94 = .ok (.ixor, 1) := by decide +kernel
theorem dX11_change_95 : decode cX11_change 95 = .ok (.invokevirtual 208, 3) := by decide +kernel
theorem dX11_change_98 : decode cX11_change 98 = .ok (.ifCond .lt 7, 3) := by decide +kernel
theorem dX11_change_101 : decode cX11_change 101 = .ok (.iconst 1, 1) := by decide +kernel
theorem dX11_change_102 : decode cX11_change 102 = .ok (.goto 4, 3) := by decide +kernel
theorem dX11_change_105 : decode cX11_change 105 = .ok (.iconst 0, 1) := by decide +kernel
theorem dX11_change_106 : decode cX11_change 106 = .ok (.istore 7, 2) := by decide +kernel
theorem dX11_change_108 : decode cX11_change 108 = .ok (.iload 6, 2) := by decide +kernel
theorem dX11_change_110 : decode cX11_change 110 = .ok (.ifCond .eq 22, 3) := by decide +kernel
theorem dX11_change_113 : decode cX11_change 113 = .ok (.iload 7, 2) := by decide +kernel
theorem dX11_change_115 : decode cX11_change 115 = .ok (.iload_n 2, 1) := by decide +kernel
theorem dX11_change_116 : decode cX11_change 116 = .ok (.ifCond .ne 7, 3) := by decide +kernel
theorem dX11_change_119 : decode cX11_change 119 = .ok (.iconst 1, 1) := by decide +kernel
theorem dX11_change_120 : decode cX11_change 120 = .ok (.goto 4, 3) := by decide +kernel
theorem dX11_change_123 : decode cX11_change 123 = .ok (.iconst 0, 1) := by decide +kernel
theorem dX11_change_124 : decode cX11_change 124 = .ok (.if_icmp .ne 8, 3) := by decide +kernel
theorem dX11_change_127 : decode cX11_change 127 = .ok (.iload 5, 2) := by decide +kernel
theorem dX11_change_129 : decode cX11_change 129 = .ok (.goto 5, 3) := by decide +kernel
theorem dX11_change_132 : decode cX11_change 132 = .ok (.iload 4, 2) := by decide +kernel
theorem dX11_change_134 : decode cX11_change 134 = .ok (.istore 4, 2) := by decide +kernel
theorem dX11_change_136 : decode cX11_change 136 = .ok (.iinc 5 1, 3) := by decide +kernel
theorem dX11_change_139 : decode cX11_change 139 = .ok (.goto (-86), 3) := by decide +kernel
theorem dX11_change_142 : decode cX11_change 142 = .ok (.iload 4, 2) := by decide +kernel
theorem dX11_change_144 : decode cX11_change 144 = .ok (.ireturn, 1) := by decide +kernel
set_option maxHeartbeats 4000000 in
set_option maxRecDepth 20000 in
theorem en_X11_change {a1 : Int32} {a2 : Int32} {M : jw_Mem} {Q : Int32 → jw_Mem → Prop}  (h : (jw_M 1 mX11_isStatue [vr 11 0, vi a1] M (fun x1 M2 => ((¬ x1 = 0 → (jw_M 0 mX11_in [vl (a2.toInt64), vl 0, vl 1] M2 (fun x3 M4 => ((¬ x3 = 0 → (jw_M 0 mX11_stands [vr 11 0, vi a1] M4 (fun x5 M6 => ((¬ x5 = 0 → (vp_in a1 33 ∧ (jw_M 1 mX11_walkersUnder [vr 11 0, vi (M6 43 0 a1.toNatClampNeg)] M6 (fun x7 M8 => jw_J 3 mX11_change 53 [(0, vr 11 0), (1, vi a1), (2, vi a2), (3, vi x7), (4, vi (-1)), (5, vi 0)] [] M8 Q)))) ∧ (x5 = 0 → Q (-1000000003) M6))))) ∧ (x3 = 0 → Q (-1000000002) M4))))) ∧ (x1 = 0 → Q (-1000000001) M2))))) : jw_M 3 mX11_change [vr 11 0, vi a1, vi a2] M Q := by
  refine jw_M.of (by decide) (Nat.le_of_ble_eq_true rfl) ?_
  show jw_J 3 mX11_change 0 [(0, vr 11 0), (1, vi a1), (2, vi a2)] [] M Q
  refine jr_aload_n (pc := 0) dX11_change_0 rfl 0 rfl ?_
  refine jr_iload_n (pc := 1) dX11_change_1 rfl 1 rfl ?_
  refine jr_callV (pc := 2) (d' := 1) (mt' := mX11_isStatue) (k := 11) (n := 0) (As := [vi a1]) (st := []) fc_X11_242 (by decide) (by decide) (Nat.le_of_ble_eq_true rfl) rfl dX11_change_2 (jw_M.mono h (fun x1 M2 h => ?_))
  show jw_J 3 mX11_change 5 [(0, vr 11 0), (1, vi a1), (2, vi a2)] [vi x1] M2 Q
  refine jr_if_ne (pc := 5) (tgt := 11) dX11_change_5 (by decide) (fun c => ?_) (fun c => ?_)
  · replace h := h.1 c
    refine jr_iload_n (pc := 11) dX11_change_11 rfl 2 rfl ?_
    refine jr_i2l (pc := 12) dX11_change_12 ?_
    refine jr_lconst (pc := 13) (v := 0) dX11_change_13 (by decide) ?_
    refine jr_lconst (pc := 14) (v := 1) dX11_change_14 (by decide) ?_
    refine jr_callS (pc := 15) (d' := 0) (mt' := mX11_in) (As := [vl (a2.toInt64), vl 0, vl 1]) (st := []) fc_X11_99 (by decide) (Nat.le_of_ble_eq_true rfl) rfl dX11_change_15 (jw_M.mono h (fun x3 M4 h => ?_))
    show jw_J 3 mX11_change 18 [(0, vr 11 0), (1, vi a1), (2, vi a2)] [vi x3] M4 Q
    refine jr_if_ne (pc := 18) (tgt := 24) dX11_change_18 (by decide) (fun c => ?_) (fun c => ?_)
    · replace h := h.1 c
      refine jr_aload_n (pc := 24) dX11_change_24 rfl 0 rfl ?_
      refine jr_iload_n (pc := 25) dX11_change_25 rfl 1 rfl ?_
      refine jr_callV (pc := 26) (d' := 0) (mt' := mX11_stands) (k := 11) (n := 0) (As := [vi a1]) (st := []) fc_X11_211 (by decide) (by decide) (Nat.le_of_ble_eq_true rfl) rfl dX11_change_26 (jw_M.mono h (fun x5 M6 h => ?_))
      show jw_J 3 mX11_change 29 [(0, vr 11 0), (1, vi a1), (2, vi a2)] [vi x5] M6 Q
      refine jr_if_ne (pc := 29) (tgt := 36) dX11_change_29 (by decide) (fun c => ?_) (fun c => ?_)
      · replace h := h.1 c
        refine jr_aload_n (pc := 36) dX11_change_36 rfl 0 rfl ?_
        refine jr_aload_n (pc := 37) dX11_change_37 rfl 0 rfl ?_
        refine jr_get (pc := 38) (v := vr 43 0) fg_X11_31 (by decide) rfl dX11_change_38 ?_
        refine jr_iload_n (pc := 41) dX11_change_41 rfl 1 rfl ?_
        refine jr_iald (pc := 42) ⟨rfl, (by decide)⟩ h.1 dX11_change_42 ?_
        replace h := h.2
        refine jr_callV (pc := 43) (d' := 1) (mt' := mX11_walkersUnder) (k := 11) (n := 0) (As := [vi (M6 43 0 a1.toNatClampNeg)]) (st := []) fc_X11_205 (by decide) (by decide) (Nat.le_of_ble_eq_true rfl) rfl dX11_change_43 (jw_M.mono h (fun x7 M8 h => ?_))
        show jw_J 3 mX11_change 46 [(0, vr 11 0), (1, vi a1), (2, vi a2)] [vi x7] M8 Q
        refine jr_istore_n (pc := 46) (lv' := [(3, vi x7), (0, vr 11 0), (1, vi a1), (2, vi a2)]) dX11_change_46 rfl (by decide) rfl ?_
        refine jr_iconst (pc := 47) (v := (-1)) dX11_change_47 (by decide) ?_
        refine jr_istore (pc := 48) (lv' := [(4, vi (-1)), (3, vi x7), (0, vr 11 0), (1, vi a1), (2, vi a2)]) dX11_change_48 (by decide) rfl ?_
        refine jr_iconst (pc := 50) (v := 0) dX11_change_50 (by decide) ?_
        refine jr_istore (pc := 51) (lv' := [(5, vi 0), (4, vi (-1)), (3, vi x7), (0, vr 11 0), (1, vi a1), (2, vi a2)]) dX11_change_51 (by decide) rfl ?_
        exact jr_sub [3, 4, 5, 2, 1, 0] rfl h
      · replace h := h.2 c
        refine jr_ldcw (pc := 32) fk_X11_256 dX11_change_32 ?_
        exact jr_iret (pc := 35) rfl dX11_change_35 h
    · replace h := h.2 c
      refine jr_ldc (pc := 21) fk_X11_111 dX11_change_21 ?_
      exact jr_iret (pc := 23) rfl dX11_change_23 h
  · replace h := h.2 c
    refine jr_ldc (pc := 8) fk_X11_241 dX11_change_8 ?_
    exact jr_iret (pc := 10) rfl dX11_change_10 h
set_option maxHeartbeats 4000000 in
set_option maxRecDepth 20000 in
theorem bk_X11_change_53 {v1 : Int32} {v2 : Int32} {v3 : Int32} {v4 : Int32} {v5 : Int32} {M : jw_Mem} {Q : Int32 → jw_Mem → Prop}  (h : ((((1 : Int32) <<< ((M 11 0 7) &&& 31)) ≤ v5 → Q v4 M) ∧ (¬ ((1 : Int32) <<< ((M 11 0 7) &&& 31)) ≤ v5 → ((v4 < 0 → (jw_M 2 mX11_marginBy [vr 11 0, vi v1, vi (v3 ^^^ v5)] M (fun x9 M10 => ((x9 < 0 → ((¬ v2 = 0 → jw_J 3 mX11_change 53 [(0, vr 11 0), (1, vi v1), (2, vi v2), (3, vi v3), (4, vi v5), (5, vi (v5 + 1))] [] M10 Q) ∧ (v2 = 0 → jw_J 3 mX11_change 53 [(0, vr 11 0), (1, vi v1), (2, vi v2), (3, vi v3), (4, vi v4), (5, vi (v5 + 1))] [] M10 Q))) ∧ (¬ x9 < 0 → ((¬ v2 = 0 → jw_J 3 mX11_change 53 [(0, vr 11 0), (1, vi v1), (2, vi v2), (3, vi v3), (4, vi v4), (5, vi (v5 + 1))] [] M10 Q) ∧ (v2 = 0 → jw_J 3 mX11_change 53 [(0, vr 11 0), (1, vi v1), (2, vi v2), (3, vi v3), (4, vi v5), (5, vi (v5 + 1))] [] M10 Q))))))) ∧ (¬ v4 < 0 → (jw_M 0 mX11_bits [vi v5] M (fun x11 M12 => (jw_M 0 mX11_bits [vi v4] M12 (fun x13 M14 => ((x13 ≤ x11 → (jw_M 2 mX11_marginBy [vr 11 0, vi v1, vi (v3 ^^^ v5)] M14 (fun x15 M16 => ((x15 < 0 → jw_J 3 mX11_change 53 [(0, vr 11 0), (1, vi v1), (2, vi v2), (3, vi v3), (4, vi v4), (5, vi (v5 + 1))] [] M16 Q) ∧ (¬ x15 < 0 → jw_J 3 mX11_change 53 [(0, vr 11 0), (1, vi v1), (2, vi v2), (3, vi v3), (4, vi v4), (5, vi (v5 + 1))] [] M16 Q))))) ∧ (¬ x13 ≤ x11 → (jw_M 2 mX11_marginBy [vr 11 0, vi v1, vi (v3 ^^^ v5)] M14 (fun x17 M18 => ((x17 < 0 → ((¬ v2 = 0 → jw_J 3 mX11_change 53 [(0, vr 11 0), (1, vi v1), (2, vi v2), (3, vi v3), (4, vi v5), (5, vi (v5 + 1))] [] M18 Q) ∧ (v2 = 0 → jw_J 3 mX11_change 53 [(0, vr 11 0), (1, vi v1), (2, vi v2), (3, vi v3), (4, vi v4), (5, vi (v5 + 1))] [] M18 Q))) ∧ (¬ x17 < 0 → ((¬ v2 = 0 → jw_J 3 mX11_change 53 [(0, vr 11 0), (1, vi v1), (2, vi v2), (3, vi v3), (4, vi v4), (5, vi (v5 + 1))] [] M18 Q) ∧ (v2 = 0 → jw_J 3 mX11_change 53 [(0, vr 11 0), (1, vi v1), (2, vi v2), (3, vi v3), (4, vi v5), (5, vi (v5 + 1))] [] M18 Q))))))))))))))))) : jw_J 3 mX11_change 53 [(0, vr 11 0), (1, vi v1), (2, vi v2), (3, vi v3), (4, vi v4), (5, vi v5)] [] M Q := by
  refine jr_iload (pc := 53) dX11_change_53 5 rfl ?_
  refine jr_iconst (pc := 55) (v := 1) dX11_change_55 (by decide) ?_
  refine jr_aload_n (pc := 56) dX11_change_56 rfl 0 rfl ?_
  refine jr_get (pc := 57) (v := vi (M 11 0 7)) fg_X11_106 (by decide) rfl dX11_change_57 ?_
  refine jr_ishl (pc := 60) dX11_change_60 ?_
  refine jr_icmp_ge (pc := 61) (tgt := 142) dX11_change_61 (by decide) (fun c => ?_) (fun c => ?_)
  · replace h := h.1 c
    refine jr_iload (pc := 142) dX11_change_142 4 rfl ?_
    exact jr_iret (pc := 144) rfl dX11_change_144 h
  · replace h := h.2 c
    refine jr_iload (pc := 64) dX11_change_64 4 rfl ?_
    refine jr_if_lt (pc := 66) (tgt := 82) dX11_change_66 (by decide) (fun c => ?_) (fun c => ?_)
    · replace h := h.1 c
      refine jr_iconst (pc := 82) (v := 1) dX11_change_82 (by decide) ?_
      refine jr_goto (pc := 83) (tgt := 87) dX11_change_83 (by decide) ?_
      refine jr_istore (pc := 87) (lv' := [(6, vi 1), (0, vr 11 0), (1, vi v1), (2, vi v2), (3, vi v3), (4, vi v4), (5, vi v5)]) dX11_change_87 (by decide) rfl ?_
      refine jr_aload_n (pc := 89) dX11_change_89 rfl 1 rfl ?_
      refine jr_iload_n (pc := 90) dX11_change_90 rfl 2 rfl ?_
      refine jr_iload_n (pc := 91) dX11_change_91 rfl 4 rfl ?_
      refine jr_iload (pc := 92) dX11_change_92 6 rfl ?_
      refine jr_ixor (pc := 94) dX11_change_94 ?_
      refine jr_callV (pc := 95) (d' := 2) (mt' := mX11_marginBy) (k := 11) (n := 0) (As := [vi v1, vi (v3 ^^^ v5)]) (st := []) fc_X11_208 (by decide) (by decide) (Nat.le_of_ble_eq_true rfl) rfl dX11_change_95 (jw_M.mono h (fun x9 M10 h => ?_))
      show jw_J 3 mX11_change 98 [(6, vi 1), (0, vr 11 0), (1, vi v1), (2, vi v2), (3, vi v3), (4, vi v4), (5, vi v5)] [vi x9] M10 Q
      refine jr_if_lt (pc := 98) (tgt := 105) dX11_change_98 (by decide) (fun c => ?_) (fun c => ?_)
      · replace h := h.1 c
        refine jr_iconst (pc := 105) (v := 0) dX11_change_105 (by decide) ?_
        refine jr_istore (pc := 106) (lv' := [(7, vi 0), (6, vi 1), (0, vr 11 0), (1, vi v1), (2, vi v2), (3, vi v3), (4, vi v4), (5, vi v5)]) dX11_change_106 (by decide) rfl ?_
        refine jr_iload (pc := 108) dX11_change_108 1 rfl ?_
        refine jr_if_eq (pc := 110) (tgt := 132) dX11_change_110 (by decide) (fun c => absurd c (by decide)) (fun _ => ?_)
        refine jr_iload (pc := 113) dX11_change_113 0 rfl ?_
        refine jr_iload_n (pc := 115) dX11_change_115 rfl 4 rfl ?_
        refine jr_if_ne (pc := 116) (tgt := 123) dX11_change_116 (by decide) (fun c => ?_) (fun c => ?_)
        · replace h := h.1 c
          refine jr_iconst (pc := 123) (v := 0) dX11_change_123 (by decide) ?_
          refine jr_icmp_ne (pc := 124) (tgt := 132) dX11_change_124 (by decide) (fun c => absurd c (by decide)) (fun _ => ?_)
          refine jr_iload (pc := 127) dX11_change_127 7 rfl ?_
          refine jr_goto (pc := 129) (tgt := 134) dX11_change_129 (by decide) ?_
          refine jr_istore (pc := 134) (lv' := [(4, vi v5), (7, vi 0), (6, vi 1), (0, vr 11 0), (1, vi v1), (2, vi v2), (3, vi v3), (5, vi v5)]) dX11_change_134 (by decide) rfl ?_
          refine jr_iinc (pc := 136) (lv' := [(5, vi (v5 + 1)), (4, vi v5), (7, vi 0), (6, vi 1), (0, vr 11 0), (1, vi v1), (2, vi v2), (3, vi v3)]) (q := 7) dX11_change_136 rfl (by rfl) (by decide) rfl ?_
          refine jr_goto (pc := 139) (tgt := 53) dX11_change_139 (by decide) ?_
          exact jr_sub [4, 5, 6, 7, 1, 0] rfl h
        · replace h := h.2 c
          refine jr_iconst (pc := 119) (v := 1) dX11_change_119 (by decide) ?_
          refine jr_goto (pc := 120) (tgt := 124) dX11_change_120 (by decide) ?_
          refine jr_icmp_ne (pc := 124) (tgt := 132) dX11_change_124 (by decide) (fun _ => ?_) (fun c => absurd c (by decide))
          refine jr_iload (pc := 132) dX11_change_132 6 rfl ?_
          refine jr_istore (pc := 134) (lv' := [(4, vi v4), (7, vi 0), (6, vi 1), (0, vr 11 0), (1, vi v1), (2, vi v2), (3, vi v3), (5, vi v5)]) dX11_change_134 (by decide) rfl ?_
          refine jr_iinc (pc := 136) (lv' := [(5, vi (v5 + 1)), (4, vi v4), (7, vi 0), (6, vi 1), (0, vr 11 0), (1, vi v1), (2, vi v2), (3, vi v3)]) (q := 7) dX11_change_136 rfl (by rfl) (by decide) rfl ?_
          refine jr_goto (pc := 139) (tgt := 53) dX11_change_139 (by decide) ?_
          exact jr_sub [4, 5, 6, 7, 1, 0] rfl h
      · replace h := h.2 c
        refine jr_iconst (pc := 101) (v := 1) dX11_change_101 (by decide) ?_
        refine jr_goto (pc := 102) (tgt := 106) dX11_change_102 (by decide) ?_
        refine jr_istore (pc := 106) (lv' := [(7, vi 1), (6, vi 1), (0, vr 11 0), (1, vi v1), (2, vi v2), (3, vi v3), (4, vi v4), (5, vi v5)]) dX11_change_106 (by decide) rfl ?_
        refine jr_iload (pc := 108) dX11_change_108 1 rfl ?_
        refine jr_if_eq (pc := 110) (tgt := 132) dX11_change_110 (by decide) (fun c => absurd c (by decide)) (fun _ => ?_)
        refine jr_iload (pc := 113) dX11_change_113 0 rfl ?_
        refine jr_iload_n (pc := 115) dX11_change_115 rfl 4 rfl ?_
        refine jr_if_ne (pc := 116) (tgt := 123) dX11_change_116 (by decide) (fun c => ?_) (fun c => ?_)
        · replace h := h.1 c
          refine jr_iconst (pc := 123) (v := 0) dX11_change_123 (by decide) ?_
          refine jr_icmp_ne (pc := 124) (tgt := 132) dX11_change_124 (by decide) (fun _ => ?_) (fun c => absurd c (by decide))
          refine jr_iload (pc := 132) dX11_change_132 6 rfl ?_
          refine jr_istore (pc := 134) (lv' := [(4, vi v4), (7, vi 1), (6, vi 1), (0, vr 11 0), (1, vi v1), (2, vi v2), (3, vi v3), (5, vi v5)]) dX11_change_134 (by decide) rfl ?_
          refine jr_iinc (pc := 136) (lv' := [(5, vi (v5 + 1)), (4, vi v4), (7, vi 1), (6, vi 1), (0, vr 11 0), (1, vi v1), (2, vi v2), (3, vi v3)]) (q := 7) dX11_change_136 rfl (by rfl) (by decide) rfl ?_
          refine jr_goto (pc := 139) (tgt := 53) dX11_change_139 (by decide) ?_
          exact jr_sub [4, 5, 6, 7, 1, 0] rfl h
        · replace h := h.2 c
          refine jr_iconst (pc := 119) (v := 1) dX11_change_119 (by decide) ?_
          refine jr_goto (pc := 120) (tgt := 124) dX11_change_120 (by decide) ?_
          refine jr_icmp_ne (pc := 124) (tgt := 132) dX11_change_124 (by decide) (fun c => absurd c (by decide)) (fun _ => ?_)
          refine jr_iload (pc := 127) dX11_change_127 7 rfl ?_
          refine jr_goto (pc := 129) (tgt := 134) dX11_change_129 (by decide) ?_
          refine jr_istore (pc := 134) (lv' := [(4, vi v5), (7, vi 1), (6, vi 1), (0, vr 11 0), (1, vi v1), (2, vi v2), (3, vi v3), (5, vi v5)]) dX11_change_134 (by decide) rfl ?_
          refine jr_iinc (pc := 136) (lv' := [(5, vi (v5 + 1)), (4, vi v5), (7, vi 1), (6, vi 1), (0, vr 11 0), (1, vi v1), (2, vi v2), (3, vi v3)]) (q := 7) dX11_change_136 rfl (by rfl) (by decide) rfl ?_
          refine jr_goto (pc := 139) (tgt := 53) dX11_change_139 (by decide) ?_
          exact jr_sub [4, 5, 6, 7, 1, 0] rfl h
    · replace h := h.2 c
      refine jr_iload (pc := 69) dX11_change_69 5 rfl ?_
      refine jr_callS (pc := 71) (d' := 0) (mt' := mX11_bits) (As := [vi v5]) (st := []) fc_X11_285 (by decide) (Nat.le_of_ble_eq_true rfl) rfl dX11_change_71 (jw_M.mono h (fun x11 M12 h => ?_))
      show jw_J 3 mX11_change 74 [(0, vr 11 0), (1, vi v1), (2, vi v2), (3, vi v3), (4, vi v4), (5, vi v5)] [vi x11] M12 Q
      refine jr_iload (pc := 74) dX11_change_74 4 rfl ?_
      refine jr_callS (pc := 76) (d' := 0) (mt' := mX11_bits) (As := [vi v4]) (st := [vi x11]) fc_X11_285 (by decide) (Nat.le_of_ble_eq_true rfl) rfl dX11_change_76 (jw_M.mono h (fun x13 M14 h => ?_))
      show jw_J 3 mX11_change 79 [(0, vr 11 0), (1, vi v1), (2, vi v2), (3, vi v3), (4, vi v4), (5, vi v5)] [vi x13, vi x11] M14 Q
      refine jr_icmp_ge (pc := 79) (tgt := 86) dX11_change_79 (by decide) (fun c => ?_) (fun c => ?_)
      · replace h := h.1 c
        refine jr_iconst (pc := 86) (v := 0) dX11_change_86 (by decide) ?_
        refine jr_istore (pc := 87) (lv' := [(6, vi 0), (0, vr 11 0), (1, vi v1), (2, vi v2), (3, vi v3), (4, vi v4), (5, vi v5)]) dX11_change_87 (by decide) rfl ?_
        refine jr_aload_n (pc := 89) dX11_change_89 rfl 1 rfl ?_
        refine jr_iload_n (pc := 90) dX11_change_90 rfl 2 rfl ?_
        refine jr_iload_n (pc := 91) dX11_change_91 rfl 4 rfl ?_
        refine jr_iload (pc := 92) dX11_change_92 6 rfl ?_
        refine jr_ixor (pc := 94) dX11_change_94 ?_
        refine jr_callV (pc := 95) (d' := 2) (mt' := mX11_marginBy) (k := 11) (n := 0) (As := [vi v1, vi (v3 ^^^ v5)]) (st := []) fc_X11_208 (by decide) (by decide) (Nat.le_of_ble_eq_true rfl) rfl dX11_change_95 (jw_M.mono h (fun x15 M16 h => ?_))
        show jw_J 3 mX11_change 98 [(6, vi 0), (0, vr 11 0), (1, vi v1), (2, vi v2), (3, vi v3), (4, vi v4), (5, vi v5)] [vi x15] M16 Q
        refine jr_if_lt (pc := 98) (tgt := 105) dX11_change_98 (by decide) (fun c => ?_) (fun c => ?_)
        · replace h := h.1 c
          refine jr_iconst (pc := 105) (v := 0) dX11_change_105 (by decide) ?_
          refine jr_istore (pc := 106) (lv' := [(7, vi 0), (6, vi 0), (0, vr 11 0), (1, vi v1), (2, vi v2), (3, vi v3), (4, vi v4), (5, vi v5)]) dX11_change_106 (by decide) rfl ?_
          refine jr_iload (pc := 108) dX11_change_108 1 rfl ?_
          refine jr_if_eq (pc := 110) (tgt := 132) dX11_change_110 (by decide) (fun _ => ?_) (fun c => absurd c (by decide))
          refine jr_iload (pc := 132) dX11_change_132 6 rfl ?_
          refine jr_istore (pc := 134) (lv' := [(4, vi v4), (7, vi 0), (6, vi 0), (0, vr 11 0), (1, vi v1), (2, vi v2), (3, vi v3), (5, vi v5)]) dX11_change_134 (by decide) rfl ?_
          refine jr_iinc (pc := 136) (lv' := [(5, vi (v5 + 1)), (4, vi v4), (7, vi 0), (6, vi 0), (0, vr 11 0), (1, vi v1), (2, vi v2), (3, vi v3)]) (q := 7) dX11_change_136 rfl (by rfl) (by decide) rfl ?_
          refine jr_goto (pc := 139) (tgt := 53) dX11_change_139 (by decide) ?_
          exact jr_sub [4, 5, 6, 7, 1, 0] rfl h
        · replace h := h.2 c
          refine jr_iconst (pc := 101) (v := 1) dX11_change_101 (by decide) ?_
          refine jr_goto (pc := 102) (tgt := 106) dX11_change_102 (by decide) ?_
          refine jr_istore (pc := 106) (lv' := [(7, vi 1), (6, vi 0), (0, vr 11 0), (1, vi v1), (2, vi v2), (3, vi v3), (4, vi v4), (5, vi v5)]) dX11_change_106 (by decide) rfl ?_
          refine jr_iload (pc := 108) dX11_change_108 1 rfl ?_
          refine jr_if_eq (pc := 110) (tgt := 132) dX11_change_110 (by decide) (fun _ => ?_) (fun c => absurd c (by decide))
          refine jr_iload (pc := 132) dX11_change_132 6 rfl ?_
          refine jr_istore (pc := 134) (lv' := [(4, vi v4), (7, vi 1), (6, vi 0), (0, vr 11 0), (1, vi v1), (2, vi v2), (3, vi v3), (5, vi v5)]) dX11_change_134 (by decide) rfl ?_
          refine jr_iinc (pc := 136) (lv' := [(5, vi (v5 + 1)), (4, vi v4), (7, vi 1), (6, vi 0), (0, vr 11 0), (1, vi v1), (2, vi v2), (3, vi v3)]) (q := 7) dX11_change_136 rfl (by rfl) (by decide) rfl ?_
          refine jr_goto (pc := 139) (tgt := 53) dX11_change_139 (by decide) ?_
          exact jr_sub [4, 5, 6, 7, 1, 0] rfl h
      · replace h := h.2 c
        refine jr_iconst (pc := 82) (v := 1) dX11_change_82 (by decide) ?_
        refine jr_goto (pc := 83) (tgt := 87) dX11_change_83 (by decide) ?_
        refine jr_istore (pc := 87) (lv' := [(6, vi 1), (0, vr 11 0), (1, vi v1), (2, vi v2), (3, vi v3), (4, vi v4), (5, vi v5)]) dX11_change_87 (by decide) rfl ?_
        refine jr_aload_n (pc := 89) dX11_change_89 rfl 1 rfl ?_
        refine jr_iload_n (pc := 90) dX11_change_90 rfl 2 rfl ?_
        refine jr_iload_n (pc := 91) dX11_change_91 rfl 4 rfl ?_
        refine jr_iload (pc := 92) dX11_change_92 6 rfl ?_
        refine jr_ixor (pc := 94) dX11_change_94 ?_
        refine jr_callV (pc := 95) (d' := 2) (mt' := mX11_marginBy) (k := 11) (n := 0) (As := [vi v1, vi (v3 ^^^ v5)]) (st := []) fc_X11_208 (by decide) (by decide) (Nat.le_of_ble_eq_true rfl) rfl dX11_change_95 (jw_M.mono h (fun x17 M18 h => ?_))
        show jw_J 3 mX11_change 98 [(6, vi 1), (0, vr 11 0), (1, vi v1), (2, vi v2), (3, vi v3), (4, vi v4), (5, vi v5)] [vi x17] M18 Q
        refine jr_if_lt (pc := 98) (tgt := 105) dX11_change_98 (by decide) (fun c => ?_) (fun c => ?_)
        · replace h := h.1 c
          refine jr_iconst (pc := 105) (v := 0) dX11_change_105 (by decide) ?_
          refine jr_istore (pc := 106) (lv' := [(7, vi 0), (6, vi 1), (0, vr 11 0), (1, vi v1), (2, vi v2), (3, vi v3), (4, vi v4), (5, vi v5)]) dX11_change_106 (by decide) rfl ?_
          refine jr_iload (pc := 108) dX11_change_108 1 rfl ?_
          refine jr_if_eq (pc := 110) (tgt := 132) dX11_change_110 (by decide) (fun c => absurd c (by decide)) (fun _ => ?_)
          refine jr_iload (pc := 113) dX11_change_113 0 rfl ?_
          refine jr_iload_n (pc := 115) dX11_change_115 rfl 4 rfl ?_
          refine jr_if_ne (pc := 116) (tgt := 123) dX11_change_116 (by decide) (fun c => ?_) (fun c => ?_)
          · replace h := h.1 c
            refine jr_iconst (pc := 123) (v := 0) dX11_change_123 (by decide) ?_
            refine jr_icmp_ne (pc := 124) (tgt := 132) dX11_change_124 (by decide) (fun c => absurd c (by decide)) (fun _ => ?_)
            refine jr_iload (pc := 127) dX11_change_127 7 rfl ?_
            refine jr_goto (pc := 129) (tgt := 134) dX11_change_129 (by decide) ?_
            refine jr_istore (pc := 134) (lv' := [(4, vi v5), (7, vi 0), (6, vi 1), (0, vr 11 0), (1, vi v1), (2, vi v2), (3, vi v3), (5, vi v5)]) dX11_change_134 (by decide) rfl ?_
            refine jr_iinc (pc := 136) (lv' := [(5, vi (v5 + 1)), (4, vi v5), (7, vi 0), (6, vi 1), (0, vr 11 0), (1, vi v1), (2, vi v2), (3, vi v3)]) (q := 7) dX11_change_136 rfl (by rfl) (by decide) rfl ?_
            refine jr_goto (pc := 139) (tgt := 53) dX11_change_139 (by decide) ?_
            exact jr_sub [4, 5, 6, 7, 1, 0] rfl h
          · replace h := h.2 c
            refine jr_iconst (pc := 119) (v := 1) dX11_change_119 (by decide) ?_
            refine jr_goto (pc := 120) (tgt := 124) dX11_change_120 (by decide) ?_
            refine jr_icmp_ne (pc := 124) (tgt := 132) dX11_change_124 (by decide) (fun _ => ?_) (fun c => absurd c (by decide))
            refine jr_iload (pc := 132) dX11_change_132 6 rfl ?_
            refine jr_istore (pc := 134) (lv' := [(4, vi v4), (7, vi 0), (6, vi 1), (0, vr 11 0), (1, vi v1), (2, vi v2), (3, vi v3), (5, vi v5)]) dX11_change_134 (by decide) rfl ?_
            refine jr_iinc (pc := 136) (lv' := [(5, vi (v5 + 1)), (4, vi v4), (7, vi 0), (6, vi 1), (0, vr 11 0), (1, vi v1), (2, vi v2), (3, vi v3)]) (q := 7) dX11_change_136 rfl (by rfl) (by decide) rfl ?_
            refine jr_goto (pc := 139) (tgt := 53) dX11_change_139 (by decide) ?_
            exact jr_sub [4, 5, 6, 7, 1, 0] rfl h
        · replace h := h.2 c
          refine jr_iconst (pc := 101) (v := 1) dX11_change_101 (by decide) ?_
          refine jr_goto (pc := 102) (tgt := 106) dX11_change_102 (by decide) ?_
          refine jr_istore (pc := 106) (lv' := [(7, vi 1), (6, vi 1), (0, vr 11 0), (1, vi v1), (2, vi v2), (3, vi v3), (4, vi v4), (5, vi v5)]) dX11_change_106 (by decide) rfl ?_
          refine jr_iload (pc := 108) dX11_change_108 1 rfl ?_
          refine jr_if_eq (pc := 110) (tgt := 132) dX11_change_110 (by decide) (fun c => absurd c (by decide)) (fun _ => ?_)
          refine jr_iload (pc := 113) dX11_change_113 0 rfl ?_
          refine jr_iload_n (pc := 115) dX11_change_115 rfl 4 rfl ?_
          refine jr_if_ne (pc := 116) (tgt := 123) dX11_change_116 (by decide) (fun c => ?_) (fun c => ?_)
          · replace h := h.1 c
            refine jr_iconst (pc := 123) (v := 0) dX11_change_123 (by decide) ?_
            refine jr_icmp_ne (pc := 124) (tgt := 132) dX11_change_124 (by decide) (fun _ => ?_) (fun c => absurd c (by decide))
            refine jr_iload (pc := 132) dX11_change_132 6 rfl ?_
            refine jr_istore (pc := 134) (lv' := [(4, vi v4), (7, vi 1), (6, vi 1), (0, vr 11 0), (1, vi v1), (2, vi v2), (3, vi v3), (5, vi v5)]) dX11_change_134 (by decide) rfl ?_
            refine jr_iinc (pc := 136) (lv' := [(5, vi (v5 + 1)), (4, vi v4), (7, vi 1), (6, vi 1), (0, vr 11 0), (1, vi v1), (2, vi v2), (3, vi v3)]) (q := 7) dX11_change_136 rfl (by rfl) (by decide) rfl ?_
            refine jr_goto (pc := 139) (tgt := 53) dX11_change_139 (by decide) ?_
            exact jr_sub [4, 5, 6, 7, 1, 0] rfl h
          · replace h := h.2 c
            refine jr_iconst (pc := 119) (v := 1) dX11_change_119 (by decide) ?_
            refine jr_goto (pc := 120) (tgt := 124) dX11_change_120 (by decide) ?_
            refine jr_icmp_ne (pc := 124) (tgt := 132) dX11_change_124 (by decide) (fun c => absurd c (by decide)) (fun _ => ?_)
            refine jr_iload (pc := 127) dX11_change_127 7 rfl ?_
            refine jr_goto (pc := 129) (tgt := 134) dX11_change_129 (by decide) ?_
            refine jr_istore (pc := 134) (lv' := [(4, vi v5), (7, vi 1), (6, vi 1), (0, vr 11 0), (1, vi v1), (2, vi v2), (3, vi v3), (5, vi v5)]) dX11_change_134 (by decide) rfl ?_
            refine jr_iinc (pc := 136) (lv' := [(5, vi (v5 + 1)), (4, vi v5), (7, vi 1), (6, vi 1), (0, vr 11 0), (1, vi v1), (2, vi v2), (3, vi v3)]) (q := 7) dX11_change_136 rfl (by rfl) (by decide) rfl ?_
            refine jr_goto (pc := 139) (tgt := 53) dX11_change_139 (by decide) ?_
            exact jr_sub [4, 5, 6, 7, 1, 0] rfl h
theorem dX11_factorial_0 : decode cX11_factorial 0 = .ok (.iconst 1, 1) := by decide +kernel
theorem dX11_factorial_1 : decode cX11_factorial 1 = .ok (.istore_n 1, 1) := by decide +kernel
theorem dX11_factorial_2 : decode cX11_factorial 2 = .ok (.iconst 2, 1) := by decide +kernel
theorem dX11_factorial_3 : decode cX11_factorial 3 = .ok (.istore_n 2, 1) := by decide +kernel
theorem dX11_factorial_4 : decode cX11_factorial 4 = .ok (.iload_n 2, 1) := by decide +kernel
theorem dX11_factorial_5 : decode cX11_factorial 5 = .ok (.iload_n 0, 1) := by decide +kernel
theorem dX11_factorial_6 : decode cX11_factorial 6 = .ok (.if_icmp .gt 13, 3) := by decide +kernel
theorem dX11_factorial_9 : decode cX11_factorial 9 = .ok (.iload_n 1, 1) := by decide +kernel
theorem dX11_factorial_10 : decode cX11_factorial 10 = .ok (.iload_n 2, 1) := by decide +kernel
theorem dX11_factorial_11 : decode cX11_factorial 11 = .ok (.imul, 1) := by decide +kernel
theorem dX11_factorial_12 : decode cX11_factorial 12 = .ok (.istore_n 1, 1) := by decide +kernel
theorem dX11_factorial_13 : decode cX11_factorial 13 = .ok (.iinc 2 1, 3) := by decide +kernel
theorem dX11_factorial_16 : decode cX11_factorial 16 = .ok (.goto (-12), 3) := by decide +kernel
theorem dX11_factorial_19 : decode cX11_factorial 19 = .ok (.iload_n 1, 1) := by decide +kernel
theorem dX11_factorial_20 : decode cX11_factorial 20 = .ok (.ireturn, 1) := by decide +kernel
set_option maxHeartbeats 4000000 in
set_option maxRecDepth 20000 in
theorem en_X11_factorial {a1 : Int32} {M : jw_Mem} {Q : Int32 → jw_Mem → Prop}  (h : jw_J 0 mX11_factorial 4 [(0, vi a1), (1, vi 1), (2, vi 2)] [] M Q) : jw_M 0 mX11_factorial [vi a1] M Q := by
  refine jw_M.of (by decide) (Nat.le_of_ble_eq_true rfl) ?_
  show jw_J 0 mX11_factorial 0 [(0, vi a1)] [] M Q
  refine jr_iconst (pc := 0) (v := 1) dX11_factorial_0 (by decide) ?_
  refine jr_istore_n (pc := 1) (lv' := [(1, vi 1), (0, vi a1)]) dX11_factorial_1 rfl (by decide) rfl ?_
  refine jr_iconst (pc := 2) (v := 2) dX11_factorial_2 (by decide) ?_
  refine jr_istore_n (pc := 3) (lv' := [(2, vi 2), (1, vi 1), (0, vi a1)]) dX11_factorial_3 rfl (by decide) rfl ?_
  exact jr_sub [2, 1, 0] rfl h
set_option maxHeartbeats 4000000 in
set_option maxRecDepth 20000 in
theorem bk_X11_factorial_4 {v0 : Int32} {v1 : Int32} {v2 : Int32} {M : jw_Mem} {Q : Int32 → jw_Mem → Prop}  (h : ((v0 < v2 → Q v1 M) ∧ (¬ v0 < v2 → jw_J 0 mX11_factorial 4 [(0, vi v0), (1, vi (v1 * v2)), (2, vi (v2 + 1))] [] M Q))) : jw_J 0 mX11_factorial 4 [(0, vi v0), (1, vi v1), (2, vi v2)] [] M Q := by
  refine jr_iload_n (pc := 4) dX11_factorial_4 rfl 2 rfl ?_
  refine jr_iload_n (pc := 5) dX11_factorial_5 rfl 0 rfl ?_
  refine jr_icmp_gt (pc := 6) (tgt := 19) dX11_factorial_6 (by decide) (fun c => ?_) (fun c => ?_)
  · replace h := h.1 c
    refine jr_iload_n (pc := 19) dX11_factorial_19 rfl 1 rfl ?_
    exact jr_iret (pc := 20) rfl dX11_factorial_20 h
  · replace h := h.2 c
    refine jr_iload_n (pc := 9) dX11_factorial_9 rfl 1 rfl ?_
    refine jr_iload_n (pc := 10) dX11_factorial_10 rfl 2 rfl ?_
    refine jr_imul (pc := 11) dX11_factorial_11 ?_
    refine jr_istore_n (pc := 12) (lv' := [(1, vi (v1 * v2)), (0, vi v0), (2, vi v2)]) dX11_factorial_12 rfl (by decide) rfl ?_
    refine jr_iinc (pc := 13) (lv' := [(2, vi (v2 + 1)), (1, vi (v1 * v2)), (0, vi v0)]) (q := 2) dX11_factorial_13 rfl (by rfl) (by decide) rfl ?_
    refine jr_goto (pc := 16) (tgt := 4) dX11_factorial_16 (by decide) ?_
    exact jr_sub [2, 1, 0] rfl h
theorem dX11_power_0 : decode cX11_power 0 = .ok (.aload_n 0, 1) := by decide +kernel
theorem dX11_power_1 : decode cX11_power 1 = .ok (.iload_n 1, 1) := by decide +kernel
theorem dX11_power_2 : decode cX11_power 2 = .ok (.invokevirtual 245, 3) := by decide +kernel
theorem dX11_power_5 : decode cX11_power 5 = .ok (.ifCond .eq 11, 3) := by decide +kernel
theorem dX11_power_8 : decode cX11_power 8 = .ok (.aload_n 0, 1) := by decide +kernel
theorem dX11_power_9 : decode cX11_power 9 = .ok (.iload_n 2, 1) := by decide +kernel
theorem dX11_power_10 : decode cX11_power 10 = .ok (.invokevirtual 238, 3) := by decide +kernel
theorem dX11_power_13 : decode cX11_power 13 = .ok (.ifCond .ne 6, 3) := by decide +kernel
theorem dX11_power_16 : decode cX11_power 16 = .ok (.ldc 241, 2) := by decide +kernel
theorem dX11_power_18 : decode cX11_power 18 = .ok (.ireturn, 1) := by decide +kernel
theorem dX11_power_19 : decode cX11_power 19 = .ok (.iload_n 3, 1) := by decide +kernel
theorem dX11_power_20 : decode cX11_power 20 = .ok (.i2l, 1) := by decide +kernel
theorem dX11_power_21 : decode cX11_power 21 = .ok (.lconst 0, 1) := by decide +kernel
theorem dX11_power_22 : decode cX11_power 22 = .ok (.lconst 1, 1) := by decide +kernel
theorem dX11_power_23 : decode cX11_power 23 = .ok (.invokestatic 99, 3) := by decide +kernel
theorem dX11_power_26 : decode cX11_power 26 = .ok (.ifCond .ne 6, 3) := by decide +kernel
theorem dX11_power_29 : decode cX11_power 29 = .ok (.ldc 111, 2) := by decide +kernel
theorem dX11_power_31 : decode cX11_power 31 = .ok (.ireturn, 1) := by decide +kernel
theorem dX11_power_32 : decode cX11_power 32 = .ok (.aload_n 0, 1) := by decide +kernel
theorem dX11_power_33 : decode cX11_power 33 = .ok (.iload_n 2, 1) := by decide +kernel
theorem dX11_power_34 : decode cX11_power 34 = .ok (.invokevirtual 205, 3) := by decide +kernel
theorem dX11_power_37 : decode cX11_power 37 = .ok (.istore 4, 2) := by decide +kernel
theorem dX11_power_39 : decode cX11_power 39 = .ok (.iload 4, 2) := by decide +kernel
theorem dX11_power_41 : decode cX11_power 41 = .ok (.iload_n 1, 1) := by decide +kernel
theorem dX11_power_42 : decode cX11_power 42 = .ok (.invokestatic 195, 3) := by decide +kernel
theorem dX11_power_45 : decode cX11_power 45 = .ok (.ifCond .ne 5, 3) := by decide +kernel
theorem dX11_power_48 : decode cX11_power 48 = .ok (.iconst 0, 1) := by decide +kernel
theorem dX11_power_49 : decode cX11_power 49 = .ok (.ireturn, 1) := by decide +kernel
theorem dX11_power_50 : decode cX11_power 50 = .ok (.aload_n 0, 1) := by decide +kernel
theorem dX11_power_51 : decode cX11_power 51 = .ok (.iload 4, 2) := by decide +kernel
theorem dX11_power_53 : decode cX11_power 53 = .ok (.invokevirtual 202, 3) := by decide +kernel
theorem dX11_power_56 : decode cX11_power 56 = .ok (.iconst 1, 1) := by decide +kernel
theorem dX11_power_57 : decode cX11_power 57 = .ok (.iadd, 1) := by decide +kernel
theorem dX11_power_58 : decode cX11_power 58 = .ok (.iconst 2, 1) := by decide +kernel
theorem dX11_power_59 : decode cX11_power 59 = .ok (.idiv, 1) := by decide +kernel
theorem dX11_power_60 : decode cX11_power 60 = .ok (.istore 5, 2) := by decide +kernel
theorem dX11_power_62 : decode cX11_power 62 = .ok (.iconst 0, 1) := by decide +kernel
theorem dX11_power_63 : decode cX11_power 63 = .ok (.istore 6, 2) := by decide +kernel
theorem dX11_power_65 : decode cX11_power 65 = .ok (.iconst 0, 1) := by decide +kernel
theorem dX11_power_66 : decode cX11_power 66 = .ok (.istore 7, 2) := by decide +kernel
theorem dX11_power_68 : decode cX11_power 68 = .ok (.iload 7, 2) := by decide +kernel
theorem dX11_power_70 : decode cX11_power 70 = .ok (.iconst 1, 1) := by decide +kernel
theorem dX11_power_71 : decode cX11_power 71 = .ok (.aload_n 0, 1) := by decide +kernel
theorem dX11_power_72 : decode cX11_power 72 = .ok (.getfield 106, 3) := by decide +kernel
theorem dX11_power_75 : decode cX11_power 75 = .ok (.ishl, 1) := by decide +kernel
theorem dX11_power_76 : decode cX11_power 76 = .ok (.if_icmp .ge 136, 3) := by decide +kernel
theorem dX11_power_79 : decode cX11_power 79 = .ok (.aload_n 0, 1) := by decide +kernel
theorem dX11_power_80 : decode cX11_power 80 = .ok (.iload 7, 2) := by decide +kernel
theorem dX11_power_82 : decode cX11_power 82 = .ok (.invokevirtual 202, 3) := by decide +kernel
theorem dX11_power_85 : decode cX11_power 85 = .ok (.istore 8, 2) := by decide +kernel
theorem dX11_power_87 : decode cX11_power 87 = .ok (.iload 7, 2) := by decide +kernel
theorem dX11_power_89 : decode cX11_power 89 = .ok (.iload 4, 2) := by decide +kernel
theorem dX11_power_91 : decode cX11_power 91 = .ok (.iconst (-1), 1) := by decide +kernel
theorem dX11_power_92 : decode cX11_power 92 = .ok (.ixor, 1) := by decide +kernel
theorem dX11_power_93 : decode cX11_power 93 = .ok (.iand, 1) := by decide +kernel
theorem dX11_power_94 : decode cX11_power 94 = .ok (.ifCond .ne 37, 3) := by decide +kernel
theorem dX11_power_97 : decode cX11_power 97 = .ok (.iload 7, 2) := by decide +kernel
theorem dX11_power_99 : decode cX11_power 99 = .ok (.iload_n 1, 1) := by decide +kernel
theorem dX11_power_100 : decode cX11_power 100 = .ok (.invokestatic 195, 3) := by decide +kernel
theorem dX11_power_103 : decode cX11_power 103 = .ok (.ifCond .ne 28, 3) := by decide +kernel
theorem dX11_power_106 : decode cX11_power 106 = .ok (.iload 8, 2) := by decide +kernel
theorem dX11_power_108 : decode cX11_power 108 = .ok (.iload 5, 2) := by decide +kernel
theorem dX11_power_110 : decode cX11_power 110 = .ok (.if_icmp .ge 21, 3) := by decide +kernel
theorem dX11_power_113 : decode cX11_power 113 = .ok (.iload 8, 2) := by decide +kernel
theorem dX11_power_115 : decode cX11_power 115 = .ok (.aload_n 0, 1) := by decide +kernel
theorem dX11_power_116 : decode cX11_power 116 = .ok (.getfield 25, 3) := by decide +kernel
theorem dX11_power_119 : decode cX11_power 119 = .ok (.iload_n 1, 1) := by decide +kernel
theorem dX11_power_120 : decode cX11_power 120 = .ok (.iaload, 1) := by decide +kernel
theorem dX11_power_121 : decode cX11_power 121 = .ok (.iadd, 1) := by decide +kernel
theorem dX11_power_122 : decode cX11_power 122 = .ok (.iload 5, 2) := by decide +kernel
theorem dX11_power_124 : decode cX11_power 124 = .ok (.if_icmp .lt 7, 3) := by decide +kernel
theorem dX11_power_127 : decode cX11_power 127 = .ok (.iconst 1, 1) := by decide +kernel
theorem dX11_power_128 : decode cX11_power 128 = .ok (.goto 4, 3) := by decide +kernel
theorem dX11_power_131 : decode cX11_power 131 = .ok (.iconst 0, 1) := by decide +kernel
theorem dX11_power_132 : decode cX11_power 132 = .ok (.istore 9, 2) := by decide +kernel
theorem dX11_power_134 : decode cX11_power 134 = .ok (.iload_n 3, 1) := by decide +kernel
theorem dX11_power_135 : decode cX11_power 135 = .ok (.iconst 1, 1) := by decide +kernel
theorem dX11_power_136 : decode cX11_power 136 = .ok (.if_icmp .ne 7, 3) := by decide +kernel
theorem dX11_power_139 : decode cX11_power 139 = .ok (.iconst 1, 1) := by decide +kernel
theorem dX11_power_140 : decode cX11_power 140 = .ok (.goto 48, 3) := by decide +kernel
theorem dX11_power_143 : decode cX11_power 143 = .ok (.iload 7, 2) := by decide +kernel
theorem dX11_power_145 : decode cX11_power 145 = .ok (.invokestatic 285, 3) := by decide +kernel
theorem dX11_power_148 : decode cX11_power 148 = .ok (.invokestatic 288, 3) := by decide +kernel
theorem dX11_power_151 : decode cX11_power 151 = .ok (.iload 4, 2) := by decide +kernel
theorem dX11_power_153 : decode cX11_power 153 = .ok (.invokestatic 285, 3) := by decide +kernel
theorem dX11_power_156 : decode cX11_power 156 = .ok (.iload 7, 2) := by decide +kernel
theorem dX11_power_158 : decode cX11_power 158 = .ok (.invokestatic 285, 3) := by decide +kernel
theorem dX11_power_161 : decode cX11_power 161 = .ok (.isub, 1) := by decide +kernel
theorem dX11_power_162 : decode cX11_power 162 = .ok (.iconst 1, 1) := by decide +kernel
theorem dX11_power_163 : decode cX11_power 163 = .ok (.isub, 1) := by decide +kernel
theorem dX11_power_164 : decode cX11_power 164 = .ok (.ifCond .le 19, 3) := by decide +kernel
theorem dX11_power_167 : decode cX11_power 167 = .ok (.iload 4, 2) := by decide +kernel
theorem dX11_power_169 : decode cX11_power 169 = .ok (.invokestatic 285, 3) := by decide +kernel
theorem dX11_power_172 : decode cX11_power 172 = .ok (.iload 7, 2) := by decide +kernel
theorem dX11_power_174 : decode cX11_power 174 = .ok (.invokestatic 285, 3) := by decide +kernel
theorem dX11_power_177 : decode cX11_power 177 = .ok (.isub, 1) := by decide +kernel
theorem dX11_power_178 : decode cX11_power 178 = .ok (.iconst 1, 1) := by decide +kernel
theorem dX11_power_179 : decode cX11_power 179 = .ok (.isub, 1) := by decide +kernel
theorem dX11_power_180 : decode cX11_power 180 = .ok (.goto 4, 3) := by decide +kernel
theorem dX11_power_183 : decode cX11_power 183 = .ok (.iconst 0, 1) := by decide +kernel
theorem dX11_power_184 : decode cX11_power 184 = .ok (.invokestatic 288, 3) := by decide +kernel
theorem dX11_power_187 : decode cX11_power 187 = .ok (.imul, 1) := by decide +kernel
theorem dX11_power_188 : decode cX11_power 188 = .ok (.istore 10, 2) := by decide +kernel
theorem dX11_power_190 : decode cX11_power 190 = .ok (.iload 6, 2) := by decide +kernel
theorem dX11_power_192 : decode cX11_power 192 = .ok (.iload 9, 2) := by decide +kernel
theorem dX11_power_194 : decode cX11_power 194 = .ok (.ifCond .eq 8, 3) := by decide +kernel
theorem dX11_power_197 : decode cX11_power 197 = .ok (.iload 10, 2) := by decide +kernel
theorem dX11_power_199 : decode cX11_power 199 = .ok (.goto 4, 3) := by decide +kernel
theorem dX11_power_202 : decode cX11_power 202 = .ok (.iconst 0, 1) := by decide +kernel
theorem dX11_power_203 : decode cX11_power 203 = .ok (.iadd, 1) := by decide +kernel
theorem dX11_power_204 : decode cX11_power 204 = .ok (.istore 6, 2) := by decide +kernel
theorem dX11_power_206 : decode cX11_power 206 = .ok (.iinc 7 1, 3) := by decide +kernel
theorem dX11_power_209 : decode cX11_power 209 = .ok (.goto (-141), 3) := by decide +kernel
theorem dX11_power_212 : decode cX11_power 212 = .ok (.iload 6, 2) := by decide +kernel
theorem dX11_power_214 : decode cX11_power 214 = .ok (.ireturn, 1) := by decide +kernel
set_option maxHeartbeats 4000000 in
set_option maxRecDepth 20000 in
theorem en_X11_power {a1 : Int32} {a2 : Int32} {a3 : Int32} {M : jw_Mem} {Q : Int32 → jw_Mem → Prop}  (h : (jw_M 1 mX11_isWalker [vr 11 0, vi a1] M (fun x1 M2 => ((x1 = 0 → Q (-1000000001) M2) ∧ (¬ x1 = 0 → (jw_M 1 mX11_isPlinth [vr 11 0, vi a2] M2 (fun x3 M4 => ((¬ x3 = 0 → (jw_M 0 mX11_in [vl (a3.toInt64), vl 0, vl 1] M4 (fun x5 M6 => ((¬ x5 = 0 → (jw_M 1 mX11_walkersUnder [vr 11 0, vi a2] M6 (fun x7 M8 => (jw_M 0 mX11_has [vi x7, vi a1] M8 (fun x9 M10 => ((¬ x9 = 0 → (jw_M 1 mX11_votesOf [vr 11 0, vi x7] M10 (fun x11 M12 => jw_J 2 mX11_power 68 [(0, vr 11 0), (1, vi a1), (3, vi a3), (4, vi x7), (5, vi ((x11 + 1) / 2)), (6, vi 0), (7, vi 0)] [] M12 Q))) ∧ (x9 = 0 → Q 0 M10))))))) ∧ (x5 = 0 → Q (-1000000002) M6))))) ∧ (x3 = 0 → Q (-1000000001) M4))))))))) : jw_M 2 mX11_power [vr 11 0, vi a1, vi a2, vi a3] M Q := by
  refine jw_M.of (by decide) (Nat.le_of_ble_eq_true rfl) ?_
  show jw_J 2 mX11_power 0 [(0, vr 11 0), (1, vi a1), (2, vi a2), (3, vi a3)] [] M Q
  refine jr_aload_n (pc := 0) dX11_power_0 rfl 0 rfl ?_
  refine jr_iload_n (pc := 1) dX11_power_1 rfl 1 rfl ?_
  refine jr_callV (pc := 2) (d' := 1) (mt' := mX11_isWalker) (k := 11) (n := 0) (As := [vi a1]) (st := []) fc_X11_245 (by decide) (by decide) (Nat.le_of_ble_eq_true rfl) rfl dX11_power_2 (jw_M.mono h (fun x1 M2 h => ?_))
  show jw_J 2 mX11_power 5 [(0, vr 11 0), (1, vi a1), (2, vi a2), (3, vi a3)] [vi x1] M2 Q
  refine jr_if_eq (pc := 5) (tgt := 16) dX11_power_5 (by decide) (fun c => ?_) (fun c => ?_)
  · replace h := h.1 c
    refine jr_ldc (pc := 16) fk_X11_241 dX11_power_16 ?_
    exact jr_iret (pc := 18) rfl dX11_power_18 h
  · replace h := h.2 c
    refine jr_aload_n (pc := 8) dX11_power_8 rfl 0 rfl ?_
    refine jr_iload_n (pc := 9) dX11_power_9 rfl 2 rfl ?_
    refine jr_callV (pc := 10) (d' := 1) (mt' := mX11_isPlinth) (k := 11) (n := 0) (As := [vi a2]) (st := []) fc_X11_238 (by decide) (by decide) (Nat.le_of_ble_eq_true rfl) rfl dX11_power_10 (jw_M.mono h (fun x3 M4 h => ?_))
    show jw_J 2 mX11_power 13 [(0, vr 11 0), (1, vi a1), (2, vi a2), (3, vi a3)] [vi x3] M4 Q
    refine jr_if_ne (pc := 13) (tgt := 19) dX11_power_13 (by decide) (fun c => ?_) (fun c => ?_)
    · replace h := h.1 c
      refine jr_iload_n (pc := 19) dX11_power_19 rfl 3 rfl ?_
      refine jr_i2l (pc := 20) dX11_power_20 ?_
      refine jr_lconst (pc := 21) (v := 0) dX11_power_21 (by decide) ?_
      refine jr_lconst (pc := 22) (v := 1) dX11_power_22 (by decide) ?_
      refine jr_callS (pc := 23) (d' := 0) (mt' := mX11_in) (As := [vl (a3.toInt64), vl 0, vl 1]) (st := []) fc_X11_99 (by decide) (Nat.le_of_ble_eq_true rfl) rfl dX11_power_23 (jw_M.mono h (fun x5 M6 h => ?_))
      show jw_J 2 mX11_power 26 [(0, vr 11 0), (1, vi a1), (2, vi a2), (3, vi a3)] [vi x5] M6 Q
      refine jr_if_ne (pc := 26) (tgt := 32) dX11_power_26 (by decide) (fun c => ?_) (fun c => ?_)
      · replace h := h.1 c
        refine jr_aload_n (pc := 32) dX11_power_32 rfl 0 rfl ?_
        refine jr_iload_n (pc := 33) dX11_power_33 rfl 2 rfl ?_
        refine jr_callV (pc := 34) (d' := 1) (mt' := mX11_walkersUnder) (k := 11) (n := 0) (As := [vi a2]) (st := []) fc_X11_205 (by decide) (by decide) (Nat.le_of_ble_eq_true rfl) rfl dX11_power_34 (jw_M.mono h (fun x7 M8 h => ?_))
        show jw_J 2 mX11_power 37 [(0, vr 11 0), (1, vi a1), (2, vi a2), (3, vi a3)] [vi x7] M8 Q
        refine jr_istore (pc := 37) (lv' := [(4, vi x7), (0, vr 11 0), (1, vi a1), (2, vi a2), (3, vi a3)]) dX11_power_37 (by decide) rfl ?_
        refine jr_iload (pc := 39) dX11_power_39 0 rfl ?_
        refine jr_iload_n (pc := 41) dX11_power_41 rfl 2 rfl ?_
        refine jr_callS (pc := 42) (d' := 0) (mt' := mX11_has) (As := [vi x7, vi a1]) (st := []) fc_X11_195 (by decide) (Nat.le_of_ble_eq_true rfl) rfl dX11_power_42 (jw_M.mono h (fun x9 M10 h => ?_))
        show jw_J 2 mX11_power 45 [(4, vi x7), (0, vr 11 0), (1, vi a1), (2, vi a2), (3, vi a3)] [vi x9] M10 Q
        refine jr_if_ne (pc := 45) (tgt := 50) dX11_power_45 (by decide) (fun c => ?_) (fun c => ?_)
        · replace h := h.1 c
          refine jr_aload_n (pc := 50) dX11_power_50 rfl 1 rfl ?_
          refine jr_iload (pc := 51) dX11_power_51 0 rfl ?_
          refine jr_callV (pc := 53) (d' := 1) (mt' := mX11_votesOf) (k := 11) (n := 0) (As := [vi x7]) (st := []) fc_X11_202 (by decide) (by decide) (Nat.le_of_ble_eq_true rfl) rfl dX11_power_53 (jw_M.mono h (fun x11 M12 h => ?_))
          show jw_J 2 mX11_power 56 [(4, vi x7), (0, vr 11 0), (1, vi a1), (2, vi a2), (3, vi a3)] [vi x11] M12 Q
          refine jr_iconst (pc := 56) (v := 1) dX11_power_56 (by decide) ?_
          refine jr_iadd (pc := 57) dX11_power_57 ?_
          refine jr_iconst (pc := 58) (v := 2) dX11_power_58 (by decide) ?_
          refine jr_idiv (pc := 59) dX11_power_59 (by decide) ?_
          refine jr_istore (pc := 60) (lv' := [(5, vi ((x11 + 1) / 2)), (4, vi x7), (0, vr 11 0), (1, vi a1), (2, vi a2), (3, vi a3)]) dX11_power_60 (by decide) rfl ?_
          refine jr_iconst (pc := 62) (v := 0) dX11_power_62 (by decide) ?_
          refine jr_istore (pc := 63) (lv' := [(6, vi 0), (5, vi ((x11 + 1) / 2)), (4, vi x7), (0, vr 11 0), (1, vi a1), (2, vi a2), (3, vi a3)]) dX11_power_63 (by decide) rfl ?_
          refine jr_iconst (pc := 65) (v := 0) dX11_power_65 (by decide) ?_
          refine jr_istore (pc := 66) (lv' := [(7, vi 0), (6, vi 0), (5, vi ((x11 + 1) / 2)), (4, vi x7), (0, vr 11 0), (1, vi a1), (2, vi a2), (3, vi a3)]) dX11_power_66 (by decide) rfl ?_
          exact jr_sub [4, 5, 7, 3, 2, 1, 0] rfl h
        · replace h := h.2 c
          refine jr_iconst (pc := 48) (v := 0) dX11_power_48 (by decide) ?_
          exact jr_iret (pc := 49) rfl dX11_power_49 h
      · replace h := h.2 c
        refine jr_ldc (pc := 29) fk_X11_111 dX11_power_29 ?_
        exact jr_iret (pc := 31) rfl dX11_power_31 h
    · replace h := h.2 c
      refine jr_ldc (pc := 16) fk_X11_241 dX11_power_16 ?_
      exact jr_iret (pc := 18) rfl dX11_power_18 h
set_option maxHeartbeats 4000000 in
set_option maxRecDepth 20000 in
theorem bk_X11_power_68 {v1 : Int32} {v3 : Int32} {v4 : Int32} {v5 : Int32} {v6 : Int32} {v7 : Int32} {M : jw_Mem} {Q : Int32 → jw_Mem → Prop}  (h : ((((1 : Int32) <<< ((M 11 0 7) &&& 31)) ≤ v7 → Q v6 M) ∧ (¬ ((1 : Int32) <<< ((M 11 0 7) &&& 31)) ≤ v7 → (jw_M 1 mX11_votesOf [vr 11 0, vi v7] M (fun x13 M14 => ((¬ (v7 &&& (v4 ^^^ (-1))) = 0 → ((¬ v3 = 1 → (jw_M 0 mX11_bits [vi v7] M14 (fun x15 M16 => (jw_M 0 mX11_factorial [vi x15] M16 (fun x17 M18 => (jw_M 0 mX11_bits [vi v4] M18 (fun x19 M20 => (jw_M 0 mX11_bits [vi v7] M20 (fun x21 M22 => ((((x19 - x21) - 1) ≤ 0 → (jw_M 0 mX11_factorial [vi 0] M22 (fun x23 M24 => jw_J 2 mX11_power 68 [(0, vr 11 0), (1, vi v1), (3, vi v3), (4, vi v4), (5, vi v5), (6, vi (v6 + 0)), (7, vi (v7 + 1))] [] M24 Q))) ∧ (¬ ((x19 - x21) - 1) ≤ 0 → (jw_M 0 mX11_bits [vi v4] M22 (fun x25 M26 => (jw_M 0 mX11_bits [vi v7] M26 (fun x27 M28 => (jw_M 0 mX11_factorial [vi ((x25 - x27) - 1)] M28 (fun x29 M30 => jw_J 2 mX11_power 68 [(0, vr 11 0), (1, vi v1), (3, vi v3), (4, vi v4), (5, vi v5), (6, vi (v6 + 0)), (7, vi (v7 + 1))] [] M30 Q))))))))))))))))) ∧ (v3 = 1 → jw_J 2 mX11_power 68 [(0, vr 11 0), (1, vi v1), (3, vi v3), (4, vi v4), (5, vi v5), (6, vi (v6 + 0)), (7, vi (v7 + 1))] [] M14 Q))) ∧ ((v7 &&& (v4 ^^^ (-1))) = 0 → (jw_M 0 mX11_has [vi v7, vi v1] M14 (fun x31 M32 => ((¬ x31 = 0 → ((¬ v3 = 1 → (jw_M 0 mX11_bits [vi v7] M32 (fun x33 M34 => (jw_M 0 mX11_factorial [vi x33] M34 (fun x35 M36 => (jw_M 0 mX11_bits [vi v4] M36 (fun x37 M38 => (jw_M 0 mX11_bits [vi v7] M38 (fun x39 M40 => ((((x37 - x39) - 1) ≤ 0 → (jw_M 0 mX11_factorial [vi 0] M40 (fun x41 M42 => jw_J 2 mX11_power 68 [(0, vr 11 0), (1, vi v1), (3, vi v3), (4, vi v4), (5, vi v5), (6, vi (v6 + 0)), (7, vi (v7 + 1))] [] M42 Q))) ∧ (¬ ((x37 - x39) - 1) ≤ 0 → (jw_M 0 mX11_bits [vi v4] M40 (fun x43 M44 => (jw_M 0 mX11_bits [vi v7] M44 (fun x45 M46 => (jw_M 0 mX11_factorial [vi ((x43 - x45) - 1)] M46 (fun x47 M48 => jw_J 2 mX11_power 68 [(0, vr 11 0), (1, vi v1), (3, vi v3), (4, vi v4), (5, vi v5), (6, vi (v6 + 0)), (7, vi (v7 + 1))] [] M48 Q))))))))))))))))) ∧ (v3 = 1 → jw_J 2 mX11_power 68 [(0, vr 11 0), (1, vi v1), (3, vi v3), (4, vi v4), (5, vi v5), (6, vi (v6 + 0)), (7, vi (v7 + 1))] [] M32 Q))) ∧ (x31 = 0 → ((v5 ≤ x13 → ((¬ v3 = 1 → (jw_M 0 mX11_bits [vi v7] M32 (fun x49 M50 => (jw_M 0 mX11_factorial [vi x49] M50 (fun x51 M52 => (jw_M 0 mX11_bits [vi v4] M52 (fun x53 M54 => (jw_M 0 mX11_bits [vi v7] M54 (fun x55 M56 => ((((x53 - x55) - 1) ≤ 0 → (jw_M 0 mX11_factorial [vi 0] M56 (fun x57 M58 => jw_J 2 mX11_power 68 [(0, vr 11 0), (1, vi v1), (3, vi v3), (4, vi v4), (5, vi v5), (6, vi (v6 + 0)), (7, vi (v7 + 1))] [] M58 Q))) ∧ (¬ ((x53 - x55) - 1) ≤ 0 → (jw_M 0 mX11_bits [vi v4] M56 (fun x59 M60 => (jw_M 0 mX11_bits [vi v7] M60 (fun x61 M62 => (jw_M 0 mX11_factorial [vi ((x59 - x61) - 1)] M62 (fun x63 M64 => jw_J 2 mX11_power 68 [(0, vr 11 0), (1, vi v1), (3, vi v3), (4, vi v4), (5, vi v5), (6, vi (v6 + 0)), (7, vi (v7 + 1))] [] M64 Q))))))))))))))))) ∧ (v3 = 1 → jw_J 2 mX11_power 68 [(0, vr 11 0), (1, vi v1), (3, vi v3), (4, vi v4), (5, vi v5), (6, vi (v6 + 0)), (7, vi (v7 + 1))] [] M32 Q))) ∧ (¬ v5 ≤ x13 → (vp_in v1 7 ∧ (((x13 + (M32 41 0 v1.toNatClampNeg)) < v5 → ((¬ v3 = 1 → (jw_M 0 mX11_bits [vi v7] M32 (fun x65 M66 => (jw_M 0 mX11_factorial [vi x65] M66 (fun x67 M68 => (jw_M 0 mX11_bits [vi v4] M68 (fun x69 M70 => (jw_M 0 mX11_bits [vi v7] M70 (fun x71 M72 => ((((x69 - x71) - 1) ≤ 0 → (jw_M 0 mX11_factorial [vi 0] M72 (fun x73 M74 => jw_J 2 mX11_power 68 [(0, vr 11 0), (1, vi v1), (3, vi v3), (4, vi v4), (5, vi v5), (6, vi (v6 + 0)), (7, vi (v7 + 1))] [] M74 Q))) ∧ (¬ ((x69 - x71) - 1) ≤ 0 → (jw_M 0 mX11_bits [vi v4] M72 (fun x75 M76 => (jw_M 0 mX11_bits [vi v7] M76 (fun x77 M78 => (jw_M 0 mX11_factorial [vi ((x75 - x77) - 1)] M78 (fun x79 M80 => jw_J 2 mX11_power 68 [(0, vr 11 0), (1, vi v1), (3, vi v3), (4, vi v4), (5, vi v5), (6, vi (v6 + 0)), (7, vi (v7 + 1))] [] M80 Q))))))))))))))))) ∧ (v3 = 1 → jw_J 2 mX11_power 68 [(0, vr 11 0), (1, vi v1), (3, vi v3), (4, vi v4), (5, vi v5), (6, vi (v6 + 0)), (7, vi (v7 + 1))] [] M32 Q))) ∧ (¬ (x13 + (M32 41 0 v1.toNatClampNeg)) < v5 → ((¬ v3 = 1 → (jw_M 0 mX11_bits [vi v7] M32 (fun x81 M82 => (jw_M 0 mX11_factorial [vi x81] M82 (fun x83 M84 => (jw_M 0 mX11_bits [vi v4] M84 (fun x85 M86 => (jw_M 0 mX11_bits [vi v7] M86 (fun x87 M88 => ((((x85 - x87) - 1) ≤ 0 → (jw_M 0 mX11_factorial [vi 0] M88 (fun x89 M90 => jw_J 2 mX11_power 68 [(0, vr 11 0), (1, vi v1), (3, vi v3), (4, vi v4), (5, vi v5), (6, vi (v6 + (x83 * x89))), (7, vi (v7 + 1))] [] M90 Q))) ∧ (¬ ((x85 - x87) - 1) ≤ 0 → (jw_M 0 mX11_bits [vi v4] M88 (fun x91 M92 => (jw_M 0 mX11_bits [vi v7] M92 (fun x93 M94 => (jw_M 0 mX11_factorial [vi ((x91 - x93) - 1)] M94 (fun x95 M96 => jw_J 2 mX11_power 68 [(0, vr 11 0), (1, vi v1), (3, vi v3), (4, vi v4), (5, vi v5), (6, vi (v6 + (x83 * x95))), (7, vi (v7 + 1))] [] M96 Q))))))))))))))))) ∧ (v3 = 1 → jw_J 2 mX11_power 68 [(0, vr 11 0), (1, vi v1), (3, vi v3), (4, vi v4), (5, vi v5), (6, vi (v6 + 1)), (7, vi (v7 + 1))] [] M32 Q)))))))))))))))))) : jw_J 2 mX11_power 68 [(0, vr 11 0), (1, vi v1), (3, vi v3), (4, vi v4), (5, vi v5), (6, vi v6), (7, vi v7)] [] M Q := by
  refine jr_iload (pc := 68) dX11_power_68 6 rfl ?_
  refine jr_iconst (pc := 70) (v := 1) dX11_power_70 (by decide) ?_
  refine jr_aload_n (pc := 71) dX11_power_71 rfl 0 rfl ?_
  refine jr_get (pc := 72) (v := vi (M 11 0 7)) fg_X11_106 (by decide) rfl dX11_power_72 ?_
  refine jr_ishl (pc := 75) dX11_power_75 ?_
  refine jr_icmp_ge (pc := 76) (tgt := 212) dX11_power_76 (by decide) (fun c => ?_) (fun c => ?_)
  · replace h := h.1 c
    refine jr_iload (pc := 212) dX11_power_212 5 rfl ?_
    exact jr_iret (pc := 214) rfl dX11_power_214 h
  · replace h := h.2 c
    refine jr_aload_n (pc := 79) dX11_power_79 rfl 0 rfl ?_
    refine jr_iload (pc := 80) dX11_power_80 6 rfl ?_
    refine jr_callV (pc := 82) (d' := 1) (mt' := mX11_votesOf) (k := 11) (n := 0) (As := [vi v7]) (st := []) fc_X11_202 (by decide) (by decide) (Nat.le_of_ble_eq_true rfl) rfl dX11_power_82 (jw_M.mono h (fun x13 M14 h => ?_))
    show jw_J 2 mX11_power 85 [(0, vr 11 0), (1, vi v1), (3, vi v3), (4, vi v4), (5, vi v5), (6, vi v6), (7, vi v7)] [vi x13] M14 Q
    refine jr_istore (pc := 85) (lv' := [(8, vi x13), (0, vr 11 0), (1, vi v1), (3, vi v3), (4, vi v4), (5, vi v5), (6, vi v6), (7, vi v7)]) dX11_power_85 (by decide) rfl ?_
    refine jr_iload (pc := 87) dX11_power_87 7 rfl ?_
    refine jr_iload (pc := 89) dX11_power_89 4 rfl ?_
    refine jr_iconst (pc := 91) (v := (-1)) dX11_power_91 (by decide) ?_
    refine jr_ixor (pc := 92) dX11_power_92 ?_
    refine jr_iand (pc := 93) dX11_power_93 ?_
    refine jr_if_ne (pc := 94) (tgt := 131) dX11_power_94 (by decide) (fun c => ?_) (fun c => ?_)
    · replace h := h.1 c
      refine jr_iconst (pc := 131) (v := 0) dX11_power_131 (by decide) ?_
      refine jr_istore (pc := 132) (lv' := [(9, vi 0), (8, vi x13), (0, vr 11 0), (1, vi v1), (3, vi v3), (4, vi v4), (5, vi v5), (6, vi v6), (7, vi v7)]) dX11_power_132 (by decide) rfl ?_
      refine jr_iload_n (pc := 134) dX11_power_134 rfl 4 rfl ?_
      refine jr_iconst (pc := 135) (v := 1) dX11_power_135 (by decide) ?_
      refine jr_icmp_ne (pc := 136) (tgt := 143) dX11_power_136 (by decide) (fun c => ?_) (fun c => ?_)
      · replace h := h.1 c
        refine jr_iload (pc := 143) dX11_power_143 8 rfl ?_
        refine jr_callS (pc := 145) (d' := 0) (mt' := mX11_bits) (As := [vi v7]) (st := []) fc_X11_285 (by decide) (Nat.le_of_ble_eq_true rfl) rfl dX11_power_145 (jw_M.mono h (fun x15 M16 h => ?_))
        show jw_J 2 mX11_power 148 [(9, vi 0), (8, vi x13), (0, vr 11 0), (1, vi v1), (3, vi v3), (4, vi v4), (5, vi v5), (6, vi v6), (7, vi v7)] [vi x15] M16 Q
        refine jr_callS (pc := 148) (d' := 0) (mt' := mX11_factorial) (As := [vi x15]) (st := []) fc_X11_288 (by decide) (Nat.le_of_ble_eq_true rfl) rfl dX11_power_148 (jw_M.mono h (fun x17 M18 h => ?_))
        show jw_J 2 mX11_power 151 [(9, vi 0), (8, vi x13), (0, vr 11 0), (1, vi v1), (3, vi v3), (4, vi v4), (5, vi v5), (6, vi v6), (7, vi v7)] [vi x17] M18 Q
        refine jr_iload (pc := 151) dX11_power_151 5 rfl ?_
        refine jr_callS (pc := 153) (d' := 0) (mt' := mX11_bits) (As := [vi v4]) (st := [vi x17]) fc_X11_285 (by decide) (Nat.le_of_ble_eq_true rfl) rfl dX11_power_153 (jw_M.mono h (fun x19 M20 h => ?_))
        show jw_J 2 mX11_power 156 [(9, vi 0), (8, vi x13), (0, vr 11 0), (1, vi v1), (3, vi v3), (4, vi v4), (5, vi v5), (6, vi v6), (7, vi v7)] [vi x19, vi x17] M20 Q
        refine jr_iload (pc := 156) dX11_power_156 8 rfl ?_
        refine jr_callS (pc := 158) (d' := 0) (mt' := mX11_bits) (As := [vi v7]) (st := [vi x19, vi x17]) fc_X11_285 (by decide) (Nat.le_of_ble_eq_true rfl) rfl dX11_power_158 (jw_M.mono h (fun x21 M22 h => ?_))
        show jw_J 2 mX11_power 161 [(9, vi 0), (8, vi x13), (0, vr 11 0), (1, vi v1), (3, vi v3), (4, vi v4), (5, vi v5), (6, vi v6), (7, vi v7)] [vi x21, vi x19, vi x17] M22 Q
        refine jr_isub (pc := 161) dX11_power_161 ?_
        refine jr_iconst (pc := 162) (v := 1) dX11_power_162 (by decide) ?_
        refine jr_isub (pc := 163) dX11_power_163 ?_
        refine jr_if_le (pc := 164) (tgt := 183) dX11_power_164 (by decide) (fun c => ?_) (fun c => ?_)
        · replace h := h.1 c
          refine jr_iconst (pc := 183) (v := 0) dX11_power_183 (by decide) ?_
          refine jr_callS (pc := 184) (d' := 0) (mt' := mX11_factorial) (As := [vi 0]) (st := [vi x17]) fc_X11_288 (by decide) (Nat.le_of_ble_eq_true rfl) rfl dX11_power_184 (jw_M.mono h (fun x23 M24 h => ?_))
          show jw_J 2 mX11_power 187 [(9, vi 0), (8, vi x13), (0, vr 11 0), (1, vi v1), (3, vi v3), (4, vi v4), (5, vi v5), (6, vi v6), (7, vi v7)] [vi x23, vi x17] M24 Q
          refine jr_imul (pc := 187) dX11_power_187 ?_
          refine jr_istore (pc := 188) (lv' := [(10, vi (x17 * x23)), (9, vi 0), (8, vi x13), (0, vr 11 0), (1, vi v1), (3, vi v3), (4, vi v4), (5, vi v5), (6, vi v6), (7, vi v7)]) dX11_power_188 (by decide) rfl ?_
          refine jr_iload (pc := 190) dX11_power_190 8 rfl ?_
          refine jr_iload (pc := 192) dX11_power_192 1 rfl ?_
          refine jr_if_eq (pc := 194) (tgt := 202) dX11_power_194 (by decide) (fun _ => ?_) (fun c => absurd c (by decide))
          refine jr_iconst (pc := 202) (v := 0) dX11_power_202 (by decide) ?_
          refine jr_iadd (pc := 203) dX11_power_203 ?_
          refine jr_istore (pc := 204) (lv' := [(6, vi (v6 + 0)), (10, vi (x17 * x23)), (9, vi 0), (8, vi x13), (0, vr 11 0), (1, vi v1), (3, vi v3), (4, vi v4), (5, vi v5), (7, vi v7)]) dX11_power_204 (by decide) rfl ?_
          refine jr_iinc (pc := 206) (lv' := [(7, vi (v7 + 1)), (6, vi (v6 + 0)), (10, vi (x17 * x23)), (9, vi 0), (8, vi x13), (0, vr 11 0), (1, vi v1), (3, vi v3), (4, vi v4), (5, vi v5)]) (q := 9) dX11_power_206 rfl (by rfl) (by decide) rfl ?_
          refine jr_goto (pc := 209) (tgt := 68) dX11_power_209 (by decide) ?_
          exact jr_sub [5, 6, 7, 8, 9, 1, 0] rfl h
        · replace h := h.2 c
          refine jr_iload (pc := 167) dX11_power_167 5 rfl ?_
          refine jr_callS (pc := 169) (d' := 0) (mt' := mX11_bits) (As := [vi v4]) (st := [vi x17]) fc_X11_285 (by decide) (Nat.le_of_ble_eq_true rfl) rfl dX11_power_169 (jw_M.mono h (fun x25 M26 h => ?_))
          show jw_J 2 mX11_power 172 [(9, vi 0), (8, vi x13), (0, vr 11 0), (1, vi v1), (3, vi v3), (4, vi v4), (5, vi v5), (6, vi v6), (7, vi v7)] [vi x25, vi x17] M26 Q
          refine jr_iload (pc := 172) dX11_power_172 8 rfl ?_
          refine jr_callS (pc := 174) (d' := 0) (mt' := mX11_bits) (As := [vi v7]) (st := [vi x25, vi x17]) fc_X11_285 (by decide) (Nat.le_of_ble_eq_true rfl) rfl dX11_power_174 (jw_M.mono h (fun x27 M28 h => ?_))
          show jw_J 2 mX11_power 177 [(9, vi 0), (8, vi x13), (0, vr 11 0), (1, vi v1), (3, vi v3), (4, vi v4), (5, vi v5), (6, vi v6), (7, vi v7)] [vi x27, vi x25, vi x17] M28 Q
          refine jr_isub (pc := 177) dX11_power_177 ?_
          refine jr_iconst (pc := 178) (v := 1) dX11_power_178 (by decide) ?_
          refine jr_isub (pc := 179) dX11_power_179 ?_
          refine jr_goto (pc := 180) (tgt := 184) dX11_power_180 (by decide) ?_
          refine jr_callS (pc := 184) (d' := 0) (mt' := mX11_factorial) (As := [vi ((x25 - x27) - 1)]) (st := [vi x17]) fc_X11_288 (by decide) (Nat.le_of_ble_eq_true rfl) rfl dX11_power_184 (jw_M.mono h (fun x29 M30 h => ?_))
          show jw_J 2 mX11_power 187 [(9, vi 0), (8, vi x13), (0, vr 11 0), (1, vi v1), (3, vi v3), (4, vi v4), (5, vi v5), (6, vi v6), (7, vi v7)] [vi x29, vi x17] M30 Q
          refine jr_imul (pc := 187) dX11_power_187 ?_
          refine jr_istore (pc := 188) (lv' := [(10, vi (x17 * x29)), (9, vi 0), (8, vi x13), (0, vr 11 0), (1, vi v1), (3, vi v3), (4, vi v4), (5, vi v5), (6, vi v6), (7, vi v7)]) dX11_power_188 (by decide) rfl ?_
          refine jr_iload (pc := 190) dX11_power_190 8 rfl ?_
          refine jr_iload (pc := 192) dX11_power_192 1 rfl ?_
          refine jr_if_eq (pc := 194) (tgt := 202) dX11_power_194 (by decide) (fun _ => ?_) (fun c => absurd c (by decide))
          refine jr_iconst (pc := 202) (v := 0) dX11_power_202 (by decide) ?_
          refine jr_iadd (pc := 203) dX11_power_203 ?_
          refine jr_istore (pc := 204) (lv' := [(6, vi (v6 + 0)), (10, vi (x17 * x29)), (9, vi 0), (8, vi x13), (0, vr 11 0), (1, vi v1), (3, vi v3), (4, vi v4), (5, vi v5), (7, vi v7)]) dX11_power_204 (by decide) rfl ?_
          refine jr_iinc (pc := 206) (lv' := [(7, vi (v7 + 1)), (6, vi (v6 + 0)), (10, vi (x17 * x29)), (9, vi 0), (8, vi x13), (0, vr 11 0), (1, vi v1), (3, vi v3), (4, vi v4), (5, vi v5)]) (q := 9) dX11_power_206 rfl (by rfl) (by decide) rfl ?_
          refine jr_goto (pc := 209) (tgt := 68) dX11_power_209 (by decide) ?_
          exact jr_sub [5, 6, 7, 8, 9, 1, 0] rfl h
      · replace h := h.2 c
        refine jr_iconst (pc := 139) (v := 1) dX11_power_139 (by decide) ?_
        refine jr_goto (pc := 140) (tgt := 188) dX11_power_140 (by decide) ?_
        refine jr_istore (pc := 188) (lv' := [(10, vi 1), (9, vi 0), (8, vi x13), (0, vr 11 0), (1, vi v1), (3, vi v3), (4, vi v4), (5, vi v5), (6, vi v6), (7, vi v7)]) dX11_power_188 (by decide) rfl ?_
        refine jr_iload (pc := 190) dX11_power_190 8 rfl ?_
        refine jr_iload (pc := 192) dX11_power_192 1 rfl ?_
        refine jr_if_eq (pc := 194) (tgt := 202) dX11_power_194 (by decide) (fun _ => ?_) (fun c => absurd c (by decide))
        refine jr_iconst (pc := 202) (v := 0) dX11_power_202 (by decide) ?_
        refine jr_iadd (pc := 203) dX11_power_203 ?_
        refine jr_istore (pc := 204) (lv' := [(6, vi (v6 + 0)), (10, vi 1), (9, vi 0), (8, vi x13), (0, vr 11 0), (1, vi v1), (3, vi v3), (4, vi v4), (5, vi v5), (7, vi v7)]) dX11_power_204 (by decide) rfl ?_
        refine jr_iinc (pc := 206) (lv' := [(7, vi (v7 + 1)), (6, vi (v6 + 0)), (10, vi 1), (9, vi 0), (8, vi x13), (0, vr 11 0), (1, vi v1), (3, vi v3), (4, vi v4), (5, vi v5)]) (q := 9) dX11_power_206 rfl (by rfl) (by decide) rfl ?_
        refine jr_goto (pc := 209) (tgt := 68) dX11_power_209 (by decide) ?_
        exact jr_sub [5, 6, 7, 8, 9, 1, 0] rfl h
    · replace h := h.2 c
      refine jr_iload (pc := 97) dX11_power_97 7 rfl ?_
      refine jr_iload_n (pc := 99) dX11_power_99 rfl 2 rfl ?_
      refine jr_callS (pc := 100) (d' := 0) (mt' := mX11_has) (As := [vi v7, vi v1]) (st := []) fc_X11_195 (by decide) (Nat.le_of_ble_eq_true rfl) rfl dX11_power_100 (jw_M.mono h (fun x31 M32 h => ?_))
      show jw_J 2 mX11_power 103 [(8, vi x13), (0, vr 11 0), (1, vi v1), (3, vi v3), (4, vi v4), (5, vi v5), (6, vi v6), (7, vi v7)] [vi x31] M32 Q
      refine jr_if_ne (pc := 103) (tgt := 131) dX11_power_103 (by decide) (fun c => ?_) (fun c => ?_)
      · replace h := h.1 c
        refine jr_iconst (pc := 131) (v := 0) dX11_power_131 (by decide) ?_
        refine jr_istore (pc := 132) (lv' := [(9, vi 0), (8, vi x13), (0, vr 11 0), (1, vi v1), (3, vi v3), (4, vi v4), (5, vi v5), (6, vi v6), (7, vi v7)]) dX11_power_132 (by decide) rfl ?_
        refine jr_iload_n (pc := 134) dX11_power_134 rfl 4 rfl ?_
        refine jr_iconst (pc := 135) (v := 1) dX11_power_135 (by decide) ?_
        refine jr_icmp_ne (pc := 136) (tgt := 143) dX11_power_136 (by decide) (fun c => ?_) (fun c => ?_)
        · replace h := h.1 c
          refine jr_iload (pc := 143) dX11_power_143 8 rfl ?_
          refine jr_callS (pc := 145) (d' := 0) (mt' := mX11_bits) (As := [vi v7]) (st := []) fc_X11_285 (by decide) (Nat.le_of_ble_eq_true rfl) rfl dX11_power_145 (jw_M.mono h (fun x33 M34 h => ?_))
          show jw_J 2 mX11_power 148 [(9, vi 0), (8, vi x13), (0, vr 11 0), (1, vi v1), (3, vi v3), (4, vi v4), (5, vi v5), (6, vi v6), (7, vi v7)] [vi x33] M34 Q
          refine jr_callS (pc := 148) (d' := 0) (mt' := mX11_factorial) (As := [vi x33]) (st := []) fc_X11_288 (by decide) (Nat.le_of_ble_eq_true rfl) rfl dX11_power_148 (jw_M.mono h (fun x35 M36 h => ?_))
          show jw_J 2 mX11_power 151 [(9, vi 0), (8, vi x13), (0, vr 11 0), (1, vi v1), (3, vi v3), (4, vi v4), (5, vi v5), (6, vi v6), (7, vi v7)] [vi x35] M36 Q
          refine jr_iload (pc := 151) dX11_power_151 5 rfl ?_
          refine jr_callS (pc := 153) (d' := 0) (mt' := mX11_bits) (As := [vi v4]) (st := [vi x35]) fc_X11_285 (by decide) (Nat.le_of_ble_eq_true rfl) rfl dX11_power_153 (jw_M.mono h (fun x37 M38 h => ?_))
          show jw_J 2 mX11_power 156 [(9, vi 0), (8, vi x13), (0, vr 11 0), (1, vi v1), (3, vi v3), (4, vi v4), (5, vi v5), (6, vi v6), (7, vi v7)] [vi x37, vi x35] M38 Q
          refine jr_iload (pc := 156) dX11_power_156 8 rfl ?_
          refine jr_callS (pc := 158) (d' := 0) (mt' := mX11_bits) (As := [vi v7]) (st := [vi x37, vi x35]) fc_X11_285 (by decide) (Nat.le_of_ble_eq_true rfl) rfl dX11_power_158 (jw_M.mono h (fun x39 M40 h => ?_))
          show jw_J 2 mX11_power 161 [(9, vi 0), (8, vi x13), (0, vr 11 0), (1, vi v1), (3, vi v3), (4, vi v4), (5, vi v5), (6, vi v6), (7, vi v7)] [vi x39, vi x37, vi x35] M40 Q
          refine jr_isub (pc := 161) dX11_power_161 ?_
          refine jr_iconst (pc := 162) (v := 1) dX11_power_162 (by decide) ?_
          refine jr_isub (pc := 163) dX11_power_163 ?_
          refine jr_if_le (pc := 164) (tgt := 183) dX11_power_164 (by decide) (fun c => ?_) (fun c => ?_)
          · replace h := h.1 c
            refine jr_iconst (pc := 183) (v := 0) dX11_power_183 (by decide) ?_
            refine jr_callS (pc := 184) (d' := 0) (mt' := mX11_factorial) (As := [vi 0]) (st := [vi x35]) fc_X11_288 (by decide) (Nat.le_of_ble_eq_true rfl) rfl dX11_power_184 (jw_M.mono h (fun x41 M42 h => ?_))
            show jw_J 2 mX11_power 187 [(9, vi 0), (8, vi x13), (0, vr 11 0), (1, vi v1), (3, vi v3), (4, vi v4), (5, vi v5), (6, vi v6), (7, vi v7)] [vi x41, vi x35] M42 Q
            refine jr_imul (pc := 187) dX11_power_187 ?_
            refine jr_istore (pc := 188) (lv' := [(10, vi (x35 * x41)), (9, vi 0), (8, vi x13), (0, vr 11 0), (1, vi v1), (3, vi v3), (4, vi v4), (5, vi v5), (6, vi v6), (7, vi v7)]) dX11_power_188 (by decide) rfl ?_
            refine jr_iload (pc := 190) dX11_power_190 8 rfl ?_
            refine jr_iload (pc := 192) dX11_power_192 1 rfl ?_
            refine jr_if_eq (pc := 194) (tgt := 202) dX11_power_194 (by decide) (fun _ => ?_) (fun c => absurd c (by decide))
            refine jr_iconst (pc := 202) (v := 0) dX11_power_202 (by decide) ?_
            refine jr_iadd (pc := 203) dX11_power_203 ?_
            refine jr_istore (pc := 204) (lv' := [(6, vi (v6 + 0)), (10, vi (x35 * x41)), (9, vi 0), (8, vi x13), (0, vr 11 0), (1, vi v1), (3, vi v3), (4, vi v4), (5, vi v5), (7, vi v7)]) dX11_power_204 (by decide) rfl ?_
            refine jr_iinc (pc := 206) (lv' := [(7, vi (v7 + 1)), (6, vi (v6 + 0)), (10, vi (x35 * x41)), (9, vi 0), (8, vi x13), (0, vr 11 0), (1, vi v1), (3, vi v3), (4, vi v4), (5, vi v5)]) (q := 9) dX11_power_206 rfl (by rfl) (by decide) rfl ?_
            refine jr_goto (pc := 209) (tgt := 68) dX11_power_209 (by decide) ?_
            exact jr_sub [5, 6, 7, 8, 9, 1, 0] rfl h
          · replace h := h.2 c
            refine jr_iload (pc := 167) dX11_power_167 5 rfl ?_
            refine jr_callS (pc := 169) (d' := 0) (mt' := mX11_bits) (As := [vi v4]) (st := [vi x35]) fc_X11_285 (by decide) (Nat.le_of_ble_eq_true rfl) rfl dX11_power_169 (jw_M.mono h (fun x43 M44 h => ?_))
            show jw_J 2 mX11_power 172 [(9, vi 0), (8, vi x13), (0, vr 11 0), (1, vi v1), (3, vi v3), (4, vi v4), (5, vi v5), (6, vi v6), (7, vi v7)] [vi x43, vi x35] M44 Q
            refine jr_iload (pc := 172) dX11_power_172 8 rfl ?_
            refine jr_callS (pc := 174) (d' := 0) (mt' := mX11_bits) (As := [vi v7]) (st := [vi x43, vi x35]) fc_X11_285 (by decide) (Nat.le_of_ble_eq_true rfl) rfl dX11_power_174 (jw_M.mono h (fun x45 M46 h => ?_))
            show jw_J 2 mX11_power 177 [(9, vi 0), (8, vi x13), (0, vr 11 0), (1, vi v1), (3, vi v3), (4, vi v4), (5, vi v5), (6, vi v6), (7, vi v7)] [vi x45, vi x43, vi x35] M46 Q
            refine jr_isub (pc := 177) dX11_power_177 ?_
            refine jr_iconst (pc := 178) (v := 1) dX11_power_178 (by decide) ?_
            refine jr_isub (pc := 179) dX11_power_179 ?_
            refine jr_goto (pc := 180) (tgt := 184) dX11_power_180 (by decide) ?_
            refine jr_callS (pc := 184) (d' := 0) (mt' := mX11_factorial) (As := [vi ((x43 - x45) - 1)]) (st := [vi x35]) fc_X11_288 (by decide) (Nat.le_of_ble_eq_true rfl) rfl dX11_power_184 (jw_M.mono h (fun x47 M48 h => ?_))
            show jw_J 2 mX11_power 187 [(9, vi 0), (8, vi x13), (0, vr 11 0), (1, vi v1), (3, vi v3), (4, vi v4), (5, vi v5), (6, vi v6), (7, vi v7)] [vi x47, vi x35] M48 Q
            refine jr_imul (pc := 187) dX11_power_187 ?_
            refine jr_istore (pc := 188) (lv' := [(10, vi (x35 * x47)), (9, vi 0), (8, vi x13), (0, vr 11 0), (1, vi v1), (3, vi v3), (4, vi v4), (5, vi v5), (6, vi v6), (7, vi v7)]) dX11_power_188 (by decide) rfl ?_
            refine jr_iload (pc := 190) dX11_power_190 8 rfl ?_
            refine jr_iload (pc := 192) dX11_power_192 1 rfl ?_
            refine jr_if_eq (pc := 194) (tgt := 202) dX11_power_194 (by decide) (fun _ => ?_) (fun c => absurd c (by decide))
            refine jr_iconst (pc := 202) (v := 0) dX11_power_202 (by decide) ?_
            refine jr_iadd (pc := 203) dX11_power_203 ?_
            refine jr_istore (pc := 204) (lv' := [(6, vi (v6 + 0)), (10, vi (x35 * x47)), (9, vi 0), (8, vi x13), (0, vr 11 0), (1, vi v1), (3, vi v3), (4, vi v4), (5, vi v5), (7, vi v7)]) dX11_power_204 (by decide) rfl ?_
            refine jr_iinc (pc := 206) (lv' := [(7, vi (v7 + 1)), (6, vi (v6 + 0)), (10, vi (x35 * x47)), (9, vi 0), (8, vi x13), (0, vr 11 0), (1, vi v1), (3, vi v3), (4, vi v4), (5, vi v5)]) (q := 9) dX11_power_206 rfl (by rfl) (by decide) rfl ?_
            refine jr_goto (pc := 209) (tgt := 68) dX11_power_209 (by decide) ?_
            exact jr_sub [5, 6, 7, 8, 9, 1, 0] rfl h
        · replace h := h.2 c
          refine jr_iconst (pc := 139) (v := 1) dX11_power_139 (by decide) ?_
          refine jr_goto (pc := 140) (tgt := 188) dX11_power_140 (by decide) ?_
          refine jr_istore (pc := 188) (lv' := [(10, vi 1), (9, vi 0), (8, vi x13), (0, vr 11 0), (1, vi v1), (3, vi v3), (4, vi v4), (5, vi v5), (6, vi v6), (7, vi v7)]) dX11_power_188 (by decide) rfl ?_
          refine jr_iload (pc := 190) dX11_power_190 8 rfl ?_
          refine jr_iload (pc := 192) dX11_power_192 1 rfl ?_
          refine jr_if_eq (pc := 194) (tgt := 202) dX11_power_194 (by decide) (fun _ => ?_) (fun c => absurd c (by decide))
          refine jr_iconst (pc := 202) (v := 0) dX11_power_202 (by decide) ?_
          refine jr_iadd (pc := 203) dX11_power_203 ?_
          refine jr_istore (pc := 204) (lv' := [(6, vi (v6 + 0)), (10, vi 1), (9, vi 0), (8, vi x13), (0, vr 11 0), (1, vi v1), (3, vi v3), (4, vi v4), (5, vi v5), (7, vi v7)]) dX11_power_204 (by decide) rfl ?_
          refine jr_iinc (pc := 206) (lv' := [(7, vi (v7 + 1)), (6, vi (v6 + 0)), (10, vi 1), (9, vi 0), (8, vi x13), (0, vr 11 0), (1, vi v1), (3, vi v3), (4, vi v4), (5, vi v5)]) (q := 9) dX11_power_206 rfl (by rfl) (by decide) rfl ?_
          refine jr_goto (pc := 209) (tgt := 68) dX11_power_209 (by decide) ?_
          exact jr_sub [5, 6, 7, 8, 9, 1, 0] rfl h
      · replace h := h.2 c
        refine jr_iload (pc := 106) dX11_power_106 0 rfl ?_
        refine jr_iload (pc := 108) dX11_power_108 5 rfl ?_
        refine jr_icmp_ge (pc := 110) (tgt := 131) dX11_power_110 (by decide) (fun c => ?_) (fun c => ?_)
        · replace h := h.1 c
          refine jr_iconst (pc := 131) (v := 0) dX11_power_131 (by decide) ?_
          refine jr_istore (pc := 132) (lv' := [(9, vi 0), (8, vi x13), (0, vr 11 0), (1, vi v1), (3, vi v3), (4, vi v4), (5, vi v5), (6, vi v6), (7, vi v7)]) dX11_power_132 (by decide) rfl ?_
          refine jr_iload_n (pc := 134) dX11_power_134 rfl 4 rfl ?_
          refine jr_iconst (pc := 135) (v := 1) dX11_power_135 (by decide) ?_
          refine jr_icmp_ne (pc := 136) (tgt := 143) dX11_power_136 (by decide) (fun c => ?_) (fun c => ?_)
          · replace h := h.1 c
            refine jr_iload (pc := 143) dX11_power_143 8 rfl ?_
            refine jr_callS (pc := 145) (d' := 0) (mt' := mX11_bits) (As := [vi v7]) (st := []) fc_X11_285 (by decide) (Nat.le_of_ble_eq_true rfl) rfl dX11_power_145 (jw_M.mono h (fun x49 M50 h => ?_))
            show jw_J 2 mX11_power 148 [(9, vi 0), (8, vi x13), (0, vr 11 0), (1, vi v1), (3, vi v3), (4, vi v4), (5, vi v5), (6, vi v6), (7, vi v7)] [vi x49] M50 Q
            refine jr_callS (pc := 148) (d' := 0) (mt' := mX11_factorial) (As := [vi x49]) (st := []) fc_X11_288 (by decide) (Nat.le_of_ble_eq_true rfl) rfl dX11_power_148 (jw_M.mono h (fun x51 M52 h => ?_))
            show jw_J 2 mX11_power 151 [(9, vi 0), (8, vi x13), (0, vr 11 0), (1, vi v1), (3, vi v3), (4, vi v4), (5, vi v5), (6, vi v6), (7, vi v7)] [vi x51] M52 Q
            refine jr_iload (pc := 151) dX11_power_151 5 rfl ?_
            refine jr_callS (pc := 153) (d' := 0) (mt' := mX11_bits) (As := [vi v4]) (st := [vi x51]) fc_X11_285 (by decide) (Nat.le_of_ble_eq_true rfl) rfl dX11_power_153 (jw_M.mono h (fun x53 M54 h => ?_))
            show jw_J 2 mX11_power 156 [(9, vi 0), (8, vi x13), (0, vr 11 0), (1, vi v1), (3, vi v3), (4, vi v4), (5, vi v5), (6, vi v6), (7, vi v7)] [vi x53, vi x51] M54 Q
            refine jr_iload (pc := 156) dX11_power_156 8 rfl ?_
            refine jr_callS (pc := 158) (d' := 0) (mt' := mX11_bits) (As := [vi v7]) (st := [vi x53, vi x51]) fc_X11_285 (by decide) (Nat.le_of_ble_eq_true rfl) rfl dX11_power_158 (jw_M.mono h (fun x55 M56 h => ?_))
            show jw_J 2 mX11_power 161 [(9, vi 0), (8, vi x13), (0, vr 11 0), (1, vi v1), (3, vi v3), (4, vi v4), (5, vi v5), (6, vi v6), (7, vi v7)] [vi x55, vi x53, vi x51] M56 Q
            refine jr_isub (pc := 161) dX11_power_161 ?_
            refine jr_iconst (pc := 162) (v := 1) dX11_power_162 (by decide) ?_
            refine jr_isub (pc := 163) dX11_power_163 ?_
            refine jr_if_le (pc := 164) (tgt := 183) dX11_power_164 (by decide) (fun c => ?_) (fun c => ?_)
            · replace h := h.1 c
              refine jr_iconst (pc := 183) (v := 0) dX11_power_183 (by decide) ?_
              refine jr_callS (pc := 184) (d' := 0) (mt' := mX11_factorial) (As := [vi 0]) (st := [vi x51]) fc_X11_288 (by decide) (Nat.le_of_ble_eq_true rfl) rfl dX11_power_184 (jw_M.mono h (fun x57 M58 h => ?_))
              show jw_J 2 mX11_power 187 [(9, vi 0), (8, vi x13), (0, vr 11 0), (1, vi v1), (3, vi v3), (4, vi v4), (5, vi v5), (6, vi v6), (7, vi v7)] [vi x57, vi x51] M58 Q
              refine jr_imul (pc := 187) dX11_power_187 ?_
              refine jr_istore (pc := 188) (lv' := [(10, vi (x51 * x57)), (9, vi 0), (8, vi x13), (0, vr 11 0), (1, vi v1), (3, vi v3), (4, vi v4), (5, vi v5), (6, vi v6), (7, vi v7)]) dX11_power_188 (by decide) rfl ?_
              refine jr_iload (pc := 190) dX11_power_190 8 rfl ?_
              refine jr_iload (pc := 192) dX11_power_192 1 rfl ?_
              refine jr_if_eq (pc := 194) (tgt := 202) dX11_power_194 (by decide) (fun _ => ?_) (fun c => absurd c (by decide))
              refine jr_iconst (pc := 202) (v := 0) dX11_power_202 (by decide) ?_
              refine jr_iadd (pc := 203) dX11_power_203 ?_
              refine jr_istore (pc := 204) (lv' := [(6, vi (v6 + 0)), (10, vi (x51 * x57)), (9, vi 0), (8, vi x13), (0, vr 11 0), (1, vi v1), (3, vi v3), (4, vi v4), (5, vi v5), (7, vi v7)]) dX11_power_204 (by decide) rfl ?_
              refine jr_iinc (pc := 206) (lv' := [(7, vi (v7 + 1)), (6, vi (v6 + 0)), (10, vi (x51 * x57)), (9, vi 0), (8, vi x13), (0, vr 11 0), (1, vi v1), (3, vi v3), (4, vi v4), (5, vi v5)]) (q := 9) dX11_power_206 rfl (by rfl) (by decide) rfl ?_
              refine jr_goto (pc := 209) (tgt := 68) dX11_power_209 (by decide) ?_
              exact jr_sub [5, 6, 7, 8, 9, 1, 0] rfl h
            · replace h := h.2 c
              refine jr_iload (pc := 167) dX11_power_167 5 rfl ?_
              refine jr_callS (pc := 169) (d' := 0) (mt' := mX11_bits) (As := [vi v4]) (st := [vi x51]) fc_X11_285 (by decide) (Nat.le_of_ble_eq_true rfl) rfl dX11_power_169 (jw_M.mono h (fun x59 M60 h => ?_))
              show jw_J 2 mX11_power 172 [(9, vi 0), (8, vi x13), (0, vr 11 0), (1, vi v1), (3, vi v3), (4, vi v4), (5, vi v5), (6, vi v6), (7, vi v7)] [vi x59, vi x51] M60 Q
              refine jr_iload (pc := 172) dX11_power_172 8 rfl ?_
              refine jr_callS (pc := 174) (d' := 0) (mt' := mX11_bits) (As := [vi v7]) (st := [vi x59, vi x51]) fc_X11_285 (by decide) (Nat.le_of_ble_eq_true rfl) rfl dX11_power_174 (jw_M.mono h (fun x61 M62 h => ?_))
              show jw_J 2 mX11_power 177 [(9, vi 0), (8, vi x13), (0, vr 11 0), (1, vi v1), (3, vi v3), (4, vi v4), (5, vi v5), (6, vi v6), (7, vi v7)] [vi x61, vi x59, vi x51] M62 Q
              refine jr_isub (pc := 177) dX11_power_177 ?_
              refine jr_iconst (pc := 178) (v := 1) dX11_power_178 (by decide) ?_
              refine jr_isub (pc := 179) dX11_power_179 ?_
              refine jr_goto (pc := 180) (tgt := 184) dX11_power_180 (by decide) ?_
              refine jr_callS (pc := 184) (d' := 0) (mt' := mX11_factorial) (As := [vi ((x59 - x61) - 1)]) (st := [vi x51]) fc_X11_288 (by decide) (Nat.le_of_ble_eq_true rfl) rfl dX11_power_184 (jw_M.mono h (fun x63 M64 h => ?_))
              show jw_J 2 mX11_power 187 [(9, vi 0), (8, vi x13), (0, vr 11 0), (1, vi v1), (3, vi v3), (4, vi v4), (5, vi v5), (6, vi v6), (7, vi v7)] [vi x63, vi x51] M64 Q
              refine jr_imul (pc := 187) dX11_power_187 ?_
              refine jr_istore (pc := 188) (lv' := [(10, vi (x51 * x63)), (9, vi 0), (8, vi x13), (0, vr 11 0), (1, vi v1), (3, vi v3), (4, vi v4), (5, vi v5), (6, vi v6), (7, vi v7)]) dX11_power_188 (by decide) rfl ?_
              refine jr_iload (pc := 190) dX11_power_190 8 rfl ?_
              refine jr_iload (pc := 192) dX11_power_192 1 rfl ?_
              refine jr_if_eq (pc := 194) (tgt := 202) dX11_power_194 (by decide) (fun _ => ?_) (fun c => absurd c (by decide))
              refine jr_iconst (pc := 202) (v := 0) dX11_power_202 (by decide) ?_
              refine jr_iadd (pc := 203) dX11_power_203 ?_
              refine jr_istore (pc := 204) (lv' := [(6, vi (v6 + 0)), (10, vi (x51 * x63)), (9, vi 0), (8, vi x13), (0, vr 11 0), (1, vi v1), (3, vi v3), (4, vi v4), (5, vi v5), (7, vi v7)]) dX11_power_204 (by decide) rfl ?_
              refine jr_iinc (pc := 206) (lv' := [(7, vi (v7 + 1)), (6, vi (v6 + 0)), (10, vi (x51 * x63)), (9, vi 0), (8, vi x13), (0, vr 11 0), (1, vi v1), (3, vi v3), (4, vi v4), (5, vi v5)]) (q := 9) dX11_power_206 rfl (by rfl) (by decide) rfl ?_
              refine jr_goto (pc := 209) (tgt := 68) dX11_power_209 (by decide) ?_
              exact jr_sub [5, 6, 7, 8, 9, 1, 0] rfl h
          · replace h := h.2 c
            refine jr_iconst (pc := 139) (v := 1) dX11_power_139 (by decide) ?_
            refine jr_goto (pc := 140) (tgt := 188) dX11_power_140 (by decide) ?_
            refine jr_istore (pc := 188) (lv' := [(10, vi 1), (9, vi 0), (8, vi x13), (0, vr 11 0), (1, vi v1), (3, vi v3), (4, vi v4), (5, vi v5), (6, vi v6), (7, vi v7)]) dX11_power_188 (by decide) rfl ?_
            refine jr_iload (pc := 190) dX11_power_190 8 rfl ?_
            refine jr_iload (pc := 192) dX11_power_192 1 rfl ?_
            refine jr_if_eq (pc := 194) (tgt := 202) dX11_power_194 (by decide) (fun _ => ?_) (fun c => absurd c (by decide))
            refine jr_iconst (pc := 202) (v := 0) dX11_power_202 (by decide) ?_
            refine jr_iadd (pc := 203) dX11_power_203 ?_
            refine jr_istore (pc := 204) (lv' := [(6, vi (v6 + 0)), (10, vi 1), (9, vi 0), (8, vi x13), (0, vr 11 0), (1, vi v1), (3, vi v3), (4, vi v4), (5, vi v5), (7, vi v7)]) dX11_power_204 (by decide) rfl ?_
            refine jr_iinc (pc := 206) (lv' := [(7, vi (v7 + 1)), (6, vi (v6 + 0)), (10, vi 1), (9, vi 0), (8, vi x13), (0, vr 11 0), (1, vi v1), (3, vi v3), (4, vi v4), (5, vi v5)]) (q := 9) dX11_power_206 rfl (by rfl) (by decide) rfl ?_
            refine jr_goto (pc := 209) (tgt := 68) dX11_power_209 (by decide) ?_
            exact jr_sub [5, 6, 7, 8, 9, 1, 0] rfl h
        · replace h := h.2 c
          refine jr_iload (pc := 113) dX11_power_113 0 rfl ?_
          refine jr_aload_n (pc := 115) dX11_power_115 rfl 1 rfl ?_
          refine jr_get (pc := 116) (v := vr 41 0) fg_X11_25 (by decide) rfl dX11_power_116 ?_
          refine jr_iload_n (pc := 119) dX11_power_119 rfl 2 rfl ?_
          refine jr_iald (pc := 120) ⟨rfl, (by decide)⟩ h.1 dX11_power_120 ?_
          replace h := h.2
          refine jr_iadd (pc := 121) dX11_power_121 ?_
          refine jr_iload (pc := 122) dX11_power_122 5 rfl ?_
          refine jr_icmp_lt (pc := 124) (tgt := 131) dX11_power_124 (by decide) (fun c => ?_) (fun c => ?_)
          · replace h := h.1 c
            refine jr_iconst (pc := 131) (v := 0) dX11_power_131 (by decide) ?_
            refine jr_istore (pc := 132) (lv' := [(9, vi 0), (8, vi x13), (0, vr 11 0), (1, vi v1), (3, vi v3), (4, vi v4), (5, vi v5), (6, vi v6), (7, vi v7)]) dX11_power_132 (by decide) rfl ?_
            refine jr_iload_n (pc := 134) dX11_power_134 rfl 4 rfl ?_
            refine jr_iconst (pc := 135) (v := 1) dX11_power_135 (by decide) ?_
            refine jr_icmp_ne (pc := 136) (tgt := 143) dX11_power_136 (by decide) (fun c => ?_) (fun c => ?_)
            · replace h := h.1 c
              refine jr_iload (pc := 143) dX11_power_143 8 rfl ?_
              refine jr_callS (pc := 145) (d' := 0) (mt' := mX11_bits) (As := [vi v7]) (st := []) fc_X11_285 (by decide) (Nat.le_of_ble_eq_true rfl) rfl dX11_power_145 (jw_M.mono h (fun x65 M66 h => ?_))
              show jw_J 2 mX11_power 148 [(9, vi 0), (8, vi x13), (0, vr 11 0), (1, vi v1), (3, vi v3), (4, vi v4), (5, vi v5), (6, vi v6), (7, vi v7)] [vi x65] M66 Q
              refine jr_callS (pc := 148) (d' := 0) (mt' := mX11_factorial) (As := [vi x65]) (st := []) fc_X11_288 (by decide) (Nat.le_of_ble_eq_true rfl) rfl dX11_power_148 (jw_M.mono h (fun x67 M68 h => ?_))
              show jw_J 2 mX11_power 151 [(9, vi 0), (8, vi x13), (0, vr 11 0), (1, vi v1), (3, vi v3), (4, vi v4), (5, vi v5), (6, vi v6), (7, vi v7)] [vi x67] M68 Q
              refine jr_iload (pc := 151) dX11_power_151 5 rfl ?_
              refine jr_callS (pc := 153) (d' := 0) (mt' := mX11_bits) (As := [vi v4]) (st := [vi x67]) fc_X11_285 (by decide) (Nat.le_of_ble_eq_true rfl) rfl dX11_power_153 (jw_M.mono h (fun x69 M70 h => ?_))
              show jw_J 2 mX11_power 156 [(9, vi 0), (8, vi x13), (0, vr 11 0), (1, vi v1), (3, vi v3), (4, vi v4), (5, vi v5), (6, vi v6), (7, vi v7)] [vi x69, vi x67] M70 Q
              refine jr_iload (pc := 156) dX11_power_156 8 rfl ?_
              refine jr_callS (pc := 158) (d' := 0) (mt' := mX11_bits) (As := [vi v7]) (st := [vi x69, vi x67]) fc_X11_285 (by decide) (Nat.le_of_ble_eq_true rfl) rfl dX11_power_158 (jw_M.mono h (fun x71 M72 h => ?_))
              show jw_J 2 mX11_power 161 [(9, vi 0), (8, vi x13), (0, vr 11 0), (1, vi v1), (3, vi v3), (4, vi v4), (5, vi v5), (6, vi v6), (7, vi v7)] [vi x71, vi x69, vi x67] M72 Q
              refine jr_isub (pc := 161) dX11_power_161 ?_
              refine jr_iconst (pc := 162) (v := 1) dX11_power_162 (by decide) ?_
              refine jr_isub (pc := 163) dX11_power_163 ?_
              refine jr_if_le (pc := 164) (tgt := 183) dX11_power_164 (by decide) (fun c => ?_) (fun c => ?_)
              · replace h := h.1 c
                refine jr_iconst (pc := 183) (v := 0) dX11_power_183 (by decide) ?_
                refine jr_callS (pc := 184) (d' := 0) (mt' := mX11_factorial) (As := [vi 0]) (st := [vi x67]) fc_X11_288 (by decide) (Nat.le_of_ble_eq_true rfl) rfl dX11_power_184 (jw_M.mono h (fun x73 M74 h => ?_))
                show jw_J 2 mX11_power 187 [(9, vi 0), (8, vi x13), (0, vr 11 0), (1, vi v1), (3, vi v3), (4, vi v4), (5, vi v5), (6, vi v6), (7, vi v7)] [vi x73, vi x67] M74 Q
                refine jr_imul (pc := 187) dX11_power_187 ?_
                refine jr_istore (pc := 188) (lv' := [(10, vi (x67 * x73)), (9, vi 0), (8, vi x13), (0, vr 11 0), (1, vi v1), (3, vi v3), (4, vi v4), (5, vi v5), (6, vi v6), (7, vi v7)]) dX11_power_188 (by decide) rfl ?_
                refine jr_iload (pc := 190) dX11_power_190 8 rfl ?_
                refine jr_iload (pc := 192) dX11_power_192 1 rfl ?_
                refine jr_if_eq (pc := 194) (tgt := 202) dX11_power_194 (by decide) (fun _ => ?_) (fun c => absurd c (by decide))
                refine jr_iconst (pc := 202) (v := 0) dX11_power_202 (by decide) ?_
                refine jr_iadd (pc := 203) dX11_power_203 ?_
                refine jr_istore (pc := 204) (lv' := [(6, vi (v6 + 0)), (10, vi (x67 * x73)), (9, vi 0), (8, vi x13), (0, vr 11 0), (1, vi v1), (3, vi v3), (4, vi v4), (5, vi v5), (7, vi v7)]) dX11_power_204 (by decide) rfl ?_
                refine jr_iinc (pc := 206) (lv' := [(7, vi (v7 + 1)), (6, vi (v6 + 0)), (10, vi (x67 * x73)), (9, vi 0), (8, vi x13), (0, vr 11 0), (1, vi v1), (3, vi v3), (4, vi v4), (5, vi v5)]) (q := 9) dX11_power_206 rfl (by rfl) (by decide) rfl ?_
                refine jr_goto (pc := 209) (tgt := 68) dX11_power_209 (by decide) ?_
                exact jr_sub [5, 6, 7, 8, 9, 1, 0] rfl h
              · replace h := h.2 c
                refine jr_iload (pc := 167) dX11_power_167 5 rfl ?_
                refine jr_callS (pc := 169) (d' := 0) (mt' := mX11_bits) (As := [vi v4]) (st := [vi x67]) fc_X11_285 (by decide) (Nat.le_of_ble_eq_true rfl) rfl dX11_power_169 (jw_M.mono h (fun x75 M76 h => ?_))
                show jw_J 2 mX11_power 172 [(9, vi 0), (8, vi x13), (0, vr 11 0), (1, vi v1), (3, vi v3), (4, vi v4), (5, vi v5), (6, vi v6), (7, vi v7)] [vi x75, vi x67] M76 Q
                refine jr_iload (pc := 172) dX11_power_172 8 rfl ?_
                refine jr_callS (pc := 174) (d' := 0) (mt' := mX11_bits) (As := [vi v7]) (st := [vi x75, vi x67]) fc_X11_285 (by decide) (Nat.le_of_ble_eq_true rfl) rfl dX11_power_174 (jw_M.mono h (fun x77 M78 h => ?_))
                show jw_J 2 mX11_power 177 [(9, vi 0), (8, vi x13), (0, vr 11 0), (1, vi v1), (3, vi v3), (4, vi v4), (5, vi v5), (6, vi v6), (7, vi v7)] [vi x77, vi x75, vi x67] M78 Q
                refine jr_isub (pc := 177) dX11_power_177 ?_
                refine jr_iconst (pc := 178) (v := 1) dX11_power_178 (by decide) ?_
                refine jr_isub (pc := 179) dX11_power_179 ?_
                refine jr_goto (pc := 180) (tgt := 184) dX11_power_180 (by decide) ?_
                refine jr_callS (pc := 184) (d' := 0) (mt' := mX11_factorial) (As := [vi ((x75 - x77) - 1)]) (st := [vi x67]) fc_X11_288 (by decide) (Nat.le_of_ble_eq_true rfl) rfl dX11_power_184 (jw_M.mono h (fun x79 M80 h => ?_))
                show jw_J 2 mX11_power 187 [(9, vi 0), (8, vi x13), (0, vr 11 0), (1, vi v1), (3, vi v3), (4, vi v4), (5, vi v5), (6, vi v6), (7, vi v7)] [vi x79, vi x67] M80 Q
                refine jr_imul (pc := 187) dX11_power_187 ?_
                refine jr_istore (pc := 188) (lv' := [(10, vi (x67 * x79)), (9, vi 0), (8, vi x13), (0, vr 11 0), (1, vi v1), (3, vi v3), (4, vi v4), (5, vi v5), (6, vi v6), (7, vi v7)]) dX11_power_188 (by decide) rfl ?_
                refine jr_iload (pc := 190) dX11_power_190 8 rfl ?_
                refine jr_iload (pc := 192) dX11_power_192 1 rfl ?_
                refine jr_if_eq (pc := 194) (tgt := 202) dX11_power_194 (by decide) (fun _ => ?_) (fun c => absurd c (by decide))
                refine jr_iconst (pc := 202) (v := 0) dX11_power_202 (by decide) ?_
                refine jr_iadd (pc := 203) dX11_power_203 ?_
                refine jr_istore (pc := 204) (lv' := [(6, vi (v6 + 0)), (10, vi (x67 * x79)), (9, vi 0), (8, vi x13), (0, vr 11 0), (1, vi v1), (3, vi v3), (4, vi v4), (5, vi v5), (7, vi v7)]) dX11_power_204 (by decide) rfl ?_
                refine jr_iinc (pc := 206) (lv' := [(7, vi (v7 + 1)), (6, vi (v6 + 0)), (10, vi (x67 * x79)), (9, vi 0), (8, vi x13), (0, vr 11 0), (1, vi v1), (3, vi v3), (4, vi v4), (5, vi v5)]) (q := 9) dX11_power_206 rfl (by rfl) (by decide) rfl ?_
                refine jr_goto (pc := 209) (tgt := 68) dX11_power_209 (by decide) ?_
                exact jr_sub [5, 6, 7, 8, 9, 1, 0] rfl h
            · replace h := h.2 c
              refine jr_iconst (pc := 139) (v := 1) dX11_power_139 (by decide) ?_
              refine jr_goto (pc := 140) (tgt := 188) dX11_power_140 (by decide) ?_
              refine jr_istore (pc := 188) (lv' := [(10, vi 1), (9, vi 0), (8, vi x13), (0, vr 11 0), (1, vi v1), (3, vi v3), (4, vi v4), (5, vi v5), (6, vi v6), (7, vi v7)]) dX11_power_188 (by decide) rfl ?_
              refine jr_iload (pc := 190) dX11_power_190 8 rfl ?_
              refine jr_iload (pc := 192) dX11_power_192 1 rfl ?_
              refine jr_if_eq (pc := 194) (tgt := 202) dX11_power_194 (by decide) (fun _ => ?_) (fun c => absurd c (by decide))
              refine jr_iconst (pc := 202) (v := 0) dX11_power_202 (by decide) ?_
              refine jr_iadd (pc := 203) dX11_power_203 ?_
              refine jr_istore (pc := 204) (lv' := [(6, vi (v6 + 0)), (10, vi 1), (9, vi 0), (8, vi x13), (0, vr 11 0), (1, vi v1), (3, vi v3), (4, vi v4), (5, vi v5), (7, vi v7)]) dX11_power_204 (by decide) rfl ?_
              refine jr_iinc (pc := 206) (lv' := [(7, vi (v7 + 1)), (6, vi (v6 + 0)), (10, vi 1), (9, vi 0), (8, vi x13), (0, vr 11 0), (1, vi v1), (3, vi v3), (4, vi v4), (5, vi v5)]) (q := 9) dX11_power_206 rfl (by rfl) (by decide) rfl ?_
              refine jr_goto (pc := 209) (tgt := 68) dX11_power_209 (by decide) ?_
              exact jr_sub [5, 6, 7, 8, 9, 1, 0] rfl h
          · replace h := h.2 c
            refine jr_iconst (pc := 127) (v := 1) dX11_power_127 (by decide) ?_
            refine jr_goto (pc := 128) (tgt := 132) dX11_power_128 (by decide) ?_
            refine jr_istore (pc := 132) (lv' := [(9, vi 1), (8, vi x13), (0, vr 11 0), (1, vi v1), (3, vi v3), (4, vi v4), (5, vi v5), (6, vi v6), (7, vi v7)]) dX11_power_132 (by decide) rfl ?_
            refine jr_iload_n (pc := 134) dX11_power_134 rfl 4 rfl ?_
            refine jr_iconst (pc := 135) (v := 1) dX11_power_135 (by decide) ?_
            refine jr_icmp_ne (pc := 136) (tgt := 143) dX11_power_136 (by decide) (fun c => ?_) (fun c => ?_)
            · replace h := h.1 c
              refine jr_iload (pc := 143) dX11_power_143 8 rfl ?_
              refine jr_callS (pc := 145) (d' := 0) (mt' := mX11_bits) (As := [vi v7]) (st := []) fc_X11_285 (by decide) (Nat.le_of_ble_eq_true rfl) rfl dX11_power_145 (jw_M.mono h (fun x81 M82 h => ?_))
              show jw_J 2 mX11_power 148 [(9, vi 1), (8, vi x13), (0, vr 11 0), (1, vi v1), (3, vi v3), (4, vi v4), (5, vi v5), (6, vi v6), (7, vi v7)] [vi x81] M82 Q
              refine jr_callS (pc := 148) (d' := 0) (mt' := mX11_factorial) (As := [vi x81]) (st := []) fc_X11_288 (by decide) (Nat.le_of_ble_eq_true rfl) rfl dX11_power_148 (jw_M.mono h (fun x83 M84 h => ?_))
              show jw_J 2 mX11_power 151 [(9, vi 1), (8, vi x13), (0, vr 11 0), (1, vi v1), (3, vi v3), (4, vi v4), (5, vi v5), (6, vi v6), (7, vi v7)] [vi x83] M84 Q
              refine jr_iload (pc := 151) dX11_power_151 5 rfl ?_
              refine jr_callS (pc := 153) (d' := 0) (mt' := mX11_bits) (As := [vi v4]) (st := [vi x83]) fc_X11_285 (by decide) (Nat.le_of_ble_eq_true rfl) rfl dX11_power_153 (jw_M.mono h (fun x85 M86 h => ?_))
              show jw_J 2 mX11_power 156 [(9, vi 1), (8, vi x13), (0, vr 11 0), (1, vi v1), (3, vi v3), (4, vi v4), (5, vi v5), (6, vi v6), (7, vi v7)] [vi x85, vi x83] M86 Q
              refine jr_iload (pc := 156) dX11_power_156 8 rfl ?_
              refine jr_callS (pc := 158) (d' := 0) (mt' := mX11_bits) (As := [vi v7]) (st := [vi x85, vi x83]) fc_X11_285 (by decide) (Nat.le_of_ble_eq_true rfl) rfl dX11_power_158 (jw_M.mono h (fun x87 M88 h => ?_))
              show jw_J 2 mX11_power 161 [(9, vi 1), (8, vi x13), (0, vr 11 0), (1, vi v1), (3, vi v3), (4, vi v4), (5, vi v5), (6, vi v6), (7, vi v7)] [vi x87, vi x85, vi x83] M88 Q
              refine jr_isub (pc := 161) dX11_power_161 ?_
              refine jr_iconst (pc := 162) (v := 1) dX11_power_162 (by decide) ?_
              refine jr_isub (pc := 163) dX11_power_163 ?_
              refine jr_if_le (pc := 164) (tgt := 183) dX11_power_164 (by decide) (fun c => ?_) (fun c => ?_)
              · replace h := h.1 c
                refine jr_iconst (pc := 183) (v := 0) dX11_power_183 (by decide) ?_
                refine jr_callS (pc := 184) (d' := 0) (mt' := mX11_factorial) (As := [vi 0]) (st := [vi x83]) fc_X11_288 (by decide) (Nat.le_of_ble_eq_true rfl) rfl dX11_power_184 (jw_M.mono h (fun x89 M90 h => ?_))
                show jw_J 2 mX11_power 187 [(9, vi 1), (8, vi x13), (0, vr 11 0), (1, vi v1), (3, vi v3), (4, vi v4), (5, vi v5), (6, vi v6), (7, vi v7)] [vi x89, vi x83] M90 Q
                refine jr_imul (pc := 187) dX11_power_187 ?_
                refine jr_istore (pc := 188) (lv' := [(10, vi (x83 * x89)), (9, vi 1), (8, vi x13), (0, vr 11 0), (1, vi v1), (3, vi v3), (4, vi v4), (5, vi v5), (6, vi v6), (7, vi v7)]) dX11_power_188 (by decide) rfl ?_
                refine jr_iload (pc := 190) dX11_power_190 8 rfl ?_
                refine jr_iload (pc := 192) dX11_power_192 1 rfl ?_
                refine jr_if_eq (pc := 194) (tgt := 202) dX11_power_194 (by decide) (fun c => absurd c (by decide)) (fun _ => ?_)
                refine jr_iload (pc := 197) dX11_power_197 0 rfl ?_
                refine jr_goto (pc := 199) (tgt := 203) dX11_power_199 (by decide) ?_
                refine jr_iadd (pc := 203) dX11_power_203 ?_
                refine jr_istore (pc := 204) (lv' := [(6, vi (v6 + (x83 * x89))), (10, vi (x83 * x89)), (9, vi 1), (8, vi x13), (0, vr 11 0), (1, vi v1), (3, vi v3), (4, vi v4), (5, vi v5), (7, vi v7)]) dX11_power_204 (by decide) rfl ?_
                refine jr_iinc (pc := 206) (lv' := [(7, vi (v7 + 1)), (6, vi (v6 + (x83 * x89))), (10, vi (x83 * x89)), (9, vi 1), (8, vi x13), (0, vr 11 0), (1, vi v1), (3, vi v3), (4, vi v4), (5, vi v5)]) (q := 9) dX11_power_206 rfl (by rfl) (by decide) rfl ?_
                refine jr_goto (pc := 209) (tgt := 68) dX11_power_209 (by decide) ?_
                exact jr_sub [5, 6, 7, 8, 9, 1, 0] rfl h
              · replace h := h.2 c
                refine jr_iload (pc := 167) dX11_power_167 5 rfl ?_
                refine jr_callS (pc := 169) (d' := 0) (mt' := mX11_bits) (As := [vi v4]) (st := [vi x83]) fc_X11_285 (by decide) (Nat.le_of_ble_eq_true rfl) rfl dX11_power_169 (jw_M.mono h (fun x91 M92 h => ?_))
                show jw_J 2 mX11_power 172 [(9, vi 1), (8, vi x13), (0, vr 11 0), (1, vi v1), (3, vi v3), (4, vi v4), (5, vi v5), (6, vi v6), (7, vi v7)] [vi x91, vi x83] M92 Q
                refine jr_iload (pc := 172) dX11_power_172 8 rfl ?_
                refine jr_callS (pc := 174) (d' := 0) (mt' := mX11_bits) (As := [vi v7]) (st := [vi x91, vi x83]) fc_X11_285 (by decide) (Nat.le_of_ble_eq_true rfl) rfl dX11_power_174 (jw_M.mono h (fun x93 M94 h => ?_))
                show jw_J 2 mX11_power 177 [(9, vi 1), (8, vi x13), (0, vr 11 0), (1, vi v1), (3, vi v3), (4, vi v4), (5, vi v5), (6, vi v6), (7, vi v7)] [vi x93, vi x91, vi x83] M94 Q
                refine jr_isub (pc := 177) dX11_power_177 ?_
                refine jr_iconst (pc := 178) (v := 1) dX11_power_178 (by decide) ?_
                refine jr_isub (pc := 179) dX11_power_179 ?_
                refine jr_goto (pc := 180) (tgt := 184) dX11_power_180 (by decide) ?_
                refine jr_callS (pc := 184) (d' := 0) (mt' := mX11_factorial) (As := [vi ((x91 - x93) - 1)]) (st := [vi x83]) fc_X11_288 (by decide) (Nat.le_of_ble_eq_true rfl) rfl dX11_power_184 (jw_M.mono h (fun x95 M96 h => ?_))
                show jw_J 2 mX11_power 187 [(9, vi 1), (8, vi x13), (0, vr 11 0), (1, vi v1), (3, vi v3), (4, vi v4), (5, vi v5), (6, vi v6), (7, vi v7)] [vi x95, vi x83] M96 Q
                refine jr_imul (pc := 187) dX11_power_187 ?_
                refine jr_istore (pc := 188) (lv' := [(10, vi (x83 * x95)), (9, vi 1), (8, vi x13), (0, vr 11 0), (1, vi v1), (3, vi v3), (4, vi v4), (5, vi v5), (6, vi v6), (7, vi v7)]) dX11_power_188 (by decide) rfl ?_
                refine jr_iload (pc := 190) dX11_power_190 8 rfl ?_
                refine jr_iload (pc := 192) dX11_power_192 1 rfl ?_
                refine jr_if_eq (pc := 194) (tgt := 202) dX11_power_194 (by decide) (fun c => absurd c (by decide)) (fun _ => ?_)
                refine jr_iload (pc := 197) dX11_power_197 0 rfl ?_
                refine jr_goto (pc := 199) (tgt := 203) dX11_power_199 (by decide) ?_
                refine jr_iadd (pc := 203) dX11_power_203 ?_
                refine jr_istore (pc := 204) (lv' := [(6, vi (v6 + (x83 * x95))), (10, vi (x83 * x95)), (9, vi 1), (8, vi x13), (0, vr 11 0), (1, vi v1), (3, vi v3), (4, vi v4), (5, vi v5), (7, vi v7)]) dX11_power_204 (by decide) rfl ?_
                refine jr_iinc (pc := 206) (lv' := [(7, vi (v7 + 1)), (6, vi (v6 + (x83 * x95))), (10, vi (x83 * x95)), (9, vi 1), (8, vi x13), (0, vr 11 0), (1, vi v1), (3, vi v3), (4, vi v4), (5, vi v5)]) (q := 9) dX11_power_206 rfl (by rfl) (by decide) rfl ?_
                refine jr_goto (pc := 209) (tgt := 68) dX11_power_209 (by decide) ?_
                exact jr_sub [5, 6, 7, 8, 9, 1, 0] rfl h
            · replace h := h.2 c
              refine jr_iconst (pc := 139) (v := 1) dX11_power_139 (by decide) ?_
              refine jr_goto (pc := 140) (tgt := 188) dX11_power_140 (by decide) ?_
              refine jr_istore (pc := 188) (lv' := [(10, vi 1), (9, vi 1), (8, vi x13), (0, vr 11 0), (1, vi v1), (3, vi v3), (4, vi v4), (5, vi v5), (6, vi v6), (7, vi v7)]) dX11_power_188 (by decide) rfl ?_
              refine jr_iload (pc := 190) dX11_power_190 8 rfl ?_
              refine jr_iload (pc := 192) dX11_power_192 1 rfl ?_
              refine jr_if_eq (pc := 194) (tgt := 202) dX11_power_194 (by decide) (fun c => absurd c (by decide)) (fun _ => ?_)
              refine jr_iload (pc := 197) dX11_power_197 0 rfl ?_
              refine jr_goto (pc := 199) (tgt := 203) dX11_power_199 (by decide) ?_
              refine jr_iadd (pc := 203) dX11_power_203 ?_
              refine jr_istore (pc := 204) (lv' := [(6, vi (v6 + 1)), (10, vi 1), (9, vi 1), (8, vi x13), (0, vr 11 0), (1, vi v1), (3, vi v3), (4, vi v4), (5, vi v5), (7, vi v7)]) dX11_power_204 (by decide) rfl ?_
              refine jr_iinc (pc := 206) (lv' := [(7, vi (v7 + 1)), (6, vi (v6 + 1)), (10, vi 1), (9, vi 1), (8, vi x13), (0, vr 11 0), (1, vi v1), (3, vi v3), (4, vi v4), (5, vi v5)]) (q := 9) dX11_power_206 rfl (by rfl) (by decide) rfl ?_
              refine jr_goto (pc := 209) (tgt := 68) dX11_power_209 (by decide) ?_
              exact jr_sub [5, 6, 7, 8, 9, 1, 0] rfl h
