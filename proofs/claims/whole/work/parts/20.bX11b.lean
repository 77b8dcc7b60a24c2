theorem dX11_capital_0 : decode cX11_capital 0 = .ok (.aload_n 0, 1) := by decide +kernel
theorem dX11_capital_1 : decode cX11_capital 1 = .ok (.iconst (-1), 1) := by decide +kernel
theorem dX11_capital_2 : decode cX11_capital 2 = .ok (.putfield 37, 3) := by decide +kernel
theorem dX11_capital_5 : decode cX11_capital 5 = .ok (.aload_n 0, 1) := by decide +kernel
theorem dX11_capital_6 : decode cX11_capital 6 = .ok (.iconst 0, 1) := by decide +kernel
theorem dX11_capital_7 : decode cX11_capital 7 = .ok (.putfield 116, 3) := by decide +kernel
theorem dX11_capital_10 : decode cX11_capital 10 = .ok (.aload_n 0, 1) := by decide +kernel
theorem dX11_capital_11 : decode cX11_capital 11 = .ok (.iconst 0, 1) := by decide +kernel
theorem dX11_capital_12 : decode cX11_capital 12 = .ok (.putfield 140, 3) := by decide +kernel
theorem dX11_capital_15 : decode cX11_capital 15 = .ok (.aload_n 0, 1) := by decide +kernel
theorem dX11_capital_16 : decode cX11_capital 16 = .ok (.iconst 0, 1) := by decide +kernel
theorem dX11_capital_17 : decode cX11_capital 17 = .ok (.putfield 143, 3) := by decide +kernel
theorem dX11_capital_20 : decode cX11_capital 20 = .ok (.aload_n 0, 1) := by decide +kernel
theorem dX11_capital_21 : decode cX11_capital 21 = .ok (.iconst 0, 1) := by decide +kernel
theorem dX11_capital_22 : decode cX11_capital 22 = .ok (.putfield 150, 3) := by decide +kernel
theorem dX11_capital_25 : decode cX11_capital 25 = .ok (.aload_n 0, 1) := by decide +kernel
theorem dX11_capital_26 : decode cX11_capital 26 = .ok (.iconst 0, 1) := by decide +kernel
theorem dX11_capital_27 : decode cX11_capital 27 = .ok (.putfield 157, 3) := by decide +kernel
theorem dX11_capital_30 : decode cX11_capital 30 = .ok (.iconst 0, 1) := by decide +kernel
theorem dX11_capital_31 : decode cX11_capital 31 = .ok (.istore_n 1, 1) := by decide +kernel
theorem dX11_capital_32 : decode cX11_capital 32 = .ok (.iload_n 1, 1) := by decide +kernel
theorem dX11_capital_33 : decode cX11_capital 33 = .ok (.ifCond .ne 18, 3) := by decide +kernel
theorem dX11_capital_36 : decode cX11_capital 36 = .ok (.aload_n 0, 1) := by decide +kernel
theorem dX11_capital_37 : decode cX11_capital 37 = .ok (.invokevirtual 119, 3) := by decide +kernel
theorem dX11_capital_40 : decode cX11_capital 40 = .ok (.ifCond .lt 11, 3) := by decide +kernel
theorem dX11_capital_43 : decode cX11_capital 43 = .ok (.aload_n 0, 1) := by decide +kernel
theorem dX11_capital_44 : decode cX11_capital 44 = .ok (.invokevirtual 180, 3) := by decide +kernel
theorem dX11_capital_47 : decode cX11_capital 47 = .ok (.istore_n 1, 1) := by decide +kernel
theorem dX11_capital_48 : decode cX11_capital 48 = .ok (.goto (-16), 3) := by decide +kernel
theorem dX11_capital_51 : decode cX11_capital 51 = .ok (.aload_n 0, 1) := by decide +kernel
theorem dX11_capital_52 : decode cX11_capital 52 = .ok (.iconst 0, 1) := by decide +kernel
theorem dX11_capital_53 : decode cX11_capital 53 = .ok (.putfield 112, 3) := by decide +kernel
theorem dX11_capital_56 : decode cX11_capital 56 = .ok (.iload_n 1, 1) := by decide +kernel
theorem dX11_capital_57 : decode cX11_capital 57 = .ok (.ifCond .le 8, 3) := by decide +kernel
theorem dX11_capital_60 : decode cX11_capital 60 = .ok (.bipush (-10), 2) := by decide +kernel
theorem dX11_capital_62 : decode cX11_capital 62 = .ok (.iload_n 1, 1) := by decide +kernel
theorem dX11_capital_63 : decode cX11_capital 63 = .ok (.isub, 1) := by decide +kernel
theorem dX11_capital_64 : decode cX11_capital 64 = .ok (.ireturn, 1) := by decide +kernel
theorem dX11_capital_65 : decode cX11_capital 65 = .ok (.aload_n 0, 1) := by decide +kernel
theorem dX11_capital_66 : decode cX11_capital 66 = .ok (.invokevirtual 183, 3) := by decide +kernel
theorem dX11_capital_69 : decode cX11_capital 69 = .ok (.aload_n 0, 1) := by decide +kernel
theorem dX11_capital_70 : decode cX11_capital 70 = .ok (.iconst 0, 1) := by decide +kernel
theorem dX11_capital_71 : decode cX11_capital 71 = .ok (.putfield 186, 3) := by decide +kernel
theorem dX11_capital_74 : decode cX11_capital 74 = .ok (.aload_n 0, 1) := by decide +kernel
theorem dX11_capital_75 : decode cX11_capital 75 = .ok (.iconst 0, 1) := by decide +kernel
theorem dX11_capital_76 : decode cX11_capital 76 = .ok (.putfield 189, 3) := by decide +kernel
theorem dX11_capital_79 : decode cX11_capital 79 = .ok (.aload_n 0, 1) := by decide +kernel
theorem dX11_capital_80 : decode cX11_capital 80 = .ok (.iconst 0, 1) := by decide +kernel
theorem dX11_capital_81 : decode cX11_capital 81 = .ok (.putfield 192, 3) := by decide +kernel
theorem dX11_capital_84 : decode cX11_capital 84 = .ok (.aload_n 0, 1) := by decide +kernel
theorem dX11_capital_85 : decode cX11_capital 85 = .ok (.getfield 89, 3) := by decide +kernel
theorem dX11_capital_88 : decode cX11_capital 88 = .ok (.iconst 0, 1) := by decide +kernel
theorem dX11_capital_89 : decode cX11_capital 89 = .ok (.iconst 0, 1) := by decide +kernel
theorem dX11_capital_90 : decode cX11_capital 90 = .ok (.bastore, 1) := by decide +kernel
theorem dX11_capital_91 : decode cX11_capital 91 = .ok (.aload_n 0, 1) := by decide +kernel
theorem dX11_capital_92 : decode cX11_capital 92 = .ok (.getfield 89, 3) := by decide +kernel
theorem dX11_capital_95 : decode cX11_capital 95 = .ok (.iconst 1, 1) := by decide +kernel
theorem dX11_capital_96 : decode cX11_capital 96 = .ok (.iconst 0, 1) := by decide +kernel
theorem dX11_capital_97 : decode cX11_capital 97 = .ok (.bastore, 1) := by decide +kernel
theorem dX11_capital_98 : decode cX11_capital 98 = .ok (.aload_n 0, 1) := by decide +kernel
theorem dX11_capital_99 : decode cX11_capital 99 = .ok (.getfield 96, 3) := by decide +kernel
theorem dX11_capital_102 : decode cX11_capital 102 = .ok (.ireturn, 1) := by decide +kernel
set_option maxHeartbeats 4000000 in
set_option maxRecDepth 20000 in
theorem en_X11_capital {M : jw_Mem} {Q : Int32 → jw_Mem → Prop}  (h : (∀ M1 : jw_Mem, M1 = jw_up M 11 0 15 (-1) → (∀ M2 : jw_Mem, M2 = jw_up M1 11 0 16 0 → (∀ M3 : jw_Mem, M3 = jw_up M2 11 0 19 0 → (∀ M4 : jw_Mem, M4 = jw_up M3 11 0 20 0 → (∀ M5 : jw_Mem, M5 = jw_up M4 11 0 22 0 → (∀ M6 : jw_Mem, M6 = jw_up M5 11 0 26 0 → jw_J 5 mX11_capital 32 [(0, vr 11 0), (1, vi 0)] [] M6 Q))))))) : jw_M 5 mX11_capital [vr 11 0] M Q := by
  refine jw_M.of (by decide) (Nat.le_of_ble_eq_true rfl) ?_
  show jw_J 5 mX11_capital 0 [(0, vr 11 0)] [] M Q
  refine jr_aload_n (pc := 0) dX11_capital_0 rfl 0 rfl ?_
  refine jr_iconst (pc := 1) (v := (-1)) dX11_capital_1 (by decide) ?_
  refine jr_put (pc := 2) fp_X11_37 (by decide) (Or.inl ⟨_, _, _, rfl, by decide +kernel⟩) dX11_capital_2 ?_
  replace h := h _ rfl
  generalize jw_up M 11 0 15 (-1) = M1 at h ⊢
  refine jr_aload_n (pc := 5) dX11_capital_5 rfl 0 rfl ?_
  refine jr_iconst (pc := 6) (v := 0) dX11_capital_6 (by decide) ?_
  refine jr_put (pc := 7) fp_X11_116 (by decide) (Or.inl ⟨_, _, _, rfl, by decide +kernel⟩) dX11_capital_7 ?_
  replace h := h _ rfl
  generalize jw_up M1 11 0 16 0 = M2 at h ⊢
  refine jr_aload_n (pc := 10) dX11_capital_10 rfl 0 rfl ?_
  refine jr_iconst (pc := 11) (v := 0) dX11_capital_11 (by decide) ?_
  refine jr_put (pc := 12) fp_X11_140 (by decide) (Or.inl ⟨_, _, _, rfl, by decide +kernel⟩) dX11_capital_12 ?_
  replace h := h _ rfl
  generalize jw_up M2 11 0 19 0 = M3 at h ⊢
  refine jr_aload_n (pc := 15) dX11_capital_15 rfl 0 rfl ?_
  refine jr_iconst (pc := 16) (v := 0) dX11_capital_16 (by decide) ?_
  refine jr_put (pc := 17) fp_X11_143 (by decide) (Or.inl ⟨_, _, _, rfl, by decide +kernel⟩) dX11_capital_17 ?_
  replace h := h _ rfl
  generalize jw_up M3 11 0 20 0 = M4 at h ⊢
  refine jr_aload_n (pc := 20) dX11_capital_20 rfl 0 rfl ?_
  refine jr_iconst (pc := 21) (v := 0) dX11_capital_21 (by decide) ?_
  refine jr_put (pc := 22) fp_X11_150 (by decide) (Or.inl ⟨_, _, _, rfl, by decide +kernel⟩) dX11_capital_22 ?_
  replace h := h _ rfl
  generalize jw_up M4 11 0 22 0 = M5 at h ⊢
  refine jr_aload_n (pc := 25) dX11_capital_25 rfl 0 rfl ?_
  refine jr_iconst (pc := 26) (v := 0) dX11_capital_26 (by decide) ?_
  refine jr_put (pc := 27) fp_X11_157 (by decide) (Or.inl ⟨_, _, _, rfl, by decide +kernel⟩) dX11_capital_27 ?_
  replace h := h _ rfl
  generalize jw_up M5 11 0 26 0 = M6 at h ⊢
  refine jr_iconst (pc := 30) (v := 0) dX11_capital_30 (by decide) ?_
  refine jr_istore_n (pc := 31) (lv' := [(1, vi 0), (0, vr 11 0)]) dX11_capital_31 rfl (by decide) rfl ?_
  exact jr_sub [1, 0] rfl h
set_option maxHeartbeats 4000000 in
set_option maxRecDepth 20000 in
theorem bk_X11_capital_32 {v1 : Int32} {M : jw_Mem} {Q : Int32 → jw_Mem → Prop}  (h : ((¬ v1 = 0 → (∀ M7 : jw_Mem, M7 = jw_up M 11 0 14 0 → ((v1 ≤ 0 → (jw_M 1 mX11_takeRead [vr 11 0] M7 (fun x8 M9 => (∀ M10 : jw_Mem, M10 = jw_up M9 11 0 34 0 → (∀ M11 : jw_Mem, M11 = jw_up M10 11 0 38 0 → (∀ M12 : jw_Mem, M12 = jw_up M11 11 0 30 0 → (vp_in 0 2 ∧ (∀ M13 : jw_Mem, M13 = jw_up M12 61 0 (0 : Int32).toNatClampNeg (vp_nar .boolean 0) → (vp_in 1 2 ∧ (∀ M14 : jw_Mem, M14 = jw_up M13 61 0 (1 : Int32).toNatClampNeg (vp_nar .boolean 0) → Q (M14 11 0 1) M14)))))))))) ∧ (¬ v1 ≤ 0 → Q ((-10) - v1) M7)))) ∧ (v1 = 0 → (jw_M 0 mX11_here [vr 11 0] M (fun x15 M16 => ((x15 < 0 → (∀ M17 : jw_Mem, M17 = jw_up M16 11 0 14 0 → ((v1 ≤ 0 → (jw_M 1 mX11_takeRead [vr 11 0] M17 (fun x18 M19 => (∀ M20 : jw_Mem, M20 = jw_up M19 11 0 34 0 → (∀ M21 : jw_Mem, M21 = jw_up M20 11 0 38 0 → (∀ M22 : jw_Mem, M22 = jw_up M21 11 0 30 0 → (vp_in 0 2 ∧ (∀ M23 : jw_Mem, M23 = jw_up M22 61 0 (0 : Int32).toNatClampNeg (vp_nar .boolean 0) → (vp_in 1 2 ∧ (∀ M24 : jw_Mem, M24 = jw_up M23 61 0 (1 : Int32).toNatClampNeg (vp_nar .boolean 0) → Q (M24 11 0 1) M24)))))))))) ∧ (¬ v1 ≤ 0 → Q ((-10) - v1) M17)))) ∧ (¬ x15 < 0 → (jw_M 4 mX11_takeClause [vr 11 0] M16 (fun x25 M26 => jw_J 5 mX11_capital 32 [(0, vr 11 0), (1, vi x25)] [] M26 Q))))))))) : jw_J 5 mX11_capital 32 [(0, vr 11 0), (1, vi v1)] [] M Q := by
  refine jr_iload_n (pc := 32) dX11_capital_32 rfl 1 rfl ?_
  refine jr_if_ne (pc := 33) (tgt := 51) dX11_capital_33 (by decide) (fun c => ?_) (fun c => ?_)
  · replace h := h.1 c
    refine jr_aload_n (pc := 51) dX11_capital_51 rfl 0 rfl ?_
    refine jr_iconst (pc := 52) (v := 0) dX11_capital_52 (by decide) ?_
    refine jr_put (pc := 53) fp_X11_112 (by decide) (Or.inl ⟨_, _, _, rfl, by decide +kernel⟩) dX11_capital_53 ?_
    replace h := h _ rfl
    generalize jw_up M 11 0 14 0 = M7 at h ⊢
    refine jr_iload_n (pc := 56) dX11_capital_56 rfl 1 rfl ?_
    refine jr_if_le (pc := 57) (tgt := 65) dX11_capital_57 (by decide) (fun c => ?_) (fun c => ?_)
    · replace h := h.1 c
      refine jr_aload_n (pc := 65) dX11_capital_65 rfl 0 rfl ?_
      refine jr_callV (pc := 66) (d' := 1) (mt' := mX11_takeRead) (k := 11) (n := 0) (As := []) (st := []) fc_X11_183 (by decide) (by decide) (Nat.le_of_ble_eq_true rfl) rfl dX11_capital_66 (jw_M.mono h (fun x8 M9 h => ?_))
      show jw_J 5 mX11_capital 69 [(0, vr 11 0), (1, vi v1)] [] M9 Q
      refine jr_aload_n (pc := 69) dX11_capital_69 rfl 0 rfl ?_
      refine jr_iconst (pc := 70) (v := 0) dX11_capital_70 (by decide) ?_
      refine jr_put (pc := 71) fp_X11_186 (by decide) (Or.inl ⟨_, _, _, rfl, by decide +kernel⟩) dX11_capital_71 ?_
      replace h := h _ rfl
      generalize jw_up M9 11 0 34 0 = M10 at h ⊢
      refine jr_aload_n (pc := 74) dX11_capital_74 rfl 0 rfl ?_
      refine jr_iconst (pc := 75) (v := 0) dX11_capital_75 (by decide) ?_
      refine jr_put (pc := 76) fp_X11_189 (by decide) (Or.inl ⟨_, _, _, rfl, by decide +kernel⟩) dX11_capital_76 ?_
      replace h := h _ rfl
      generalize jw_up M10 11 0 38 0 = M11 at h ⊢
      refine jr_aload_n (pc := 79) dX11_capital_79 rfl 0 rfl ?_
      refine jr_iconst (pc := 80) (v := 0) dX11_capital_80 (by decide) ?_
      refine jr_put (pc := 81) fp_X11_192 (by decide) (Or.inl ⟨_, _, _, rfl, by decide +kernel⟩) dX11_capital_81 ?_
      replace h := h _ rfl
      generalize jw_up M11 11 0 30 0 = M12 at h ⊢
      refine jr_aload_n (pc := 84) dX11_capital_84 rfl 0 rfl ?_
      refine jr_get (pc := 85) (v := vr 61 0) fg_X11_89 (by decide) rfl dX11_capital_85 ?_
      refine jr_iconst (pc := 88) (v := 0) dX11_capital_88 (by decide) ?_
      refine jr_iconst (pc := 89) (v := 0) dX11_capital_89 (by decide) ?_
      refine jr_zast (pc := 90) ⟨rfl, (by decide)⟩ h.1 dX11_capital_90 ?_
      replace h := h.2
      replace h := h _ rfl
      generalize jw_up M12 61 0 (0 : Int32).toNatClampNeg (vp_nar .boolean 0) = M13 at h ⊢
      refine jr_aload_n (pc := 91) dX11_capital_91 rfl 0 rfl ?_
      refine jr_get (pc := 92) (v := vr 61 0) fg_X11_89 (by decide) rfl dX11_capital_92 ?_
      refine jr_iconst (pc := 95) (v := 1) dX11_capital_95 (by decide) ?_
      refine jr_iconst (pc := 96) (v := 0) dX11_capital_96 (by decide) ?_
      refine jr_zast (pc := 97) ⟨rfl, (by decide)⟩ h.1 dX11_capital_97 ?_
      replace h := h.2
      replace h := h _ rfl
      generalize jw_up M13 61 0 (1 : Int32).toNatClampNeg (vp_nar .boolean 0) = M14 at h ⊢
      refine jr_aload_n (pc := 98) dX11_capital_98 rfl 0 rfl ?_
      refine jr_get (pc := 99) (v := vi (M14 11 0 1)) fg_X11_96 (by decide) rfl dX11_capital_99 ?_
      exact jr_iret (pc := 102) rfl dX11_capital_102 h
    · replace h := h.2 c
      refine jr_bipush (pc := 60) (v := (-10)) dX11_capital_60 (by decide) ?_
      refine jr_iload_n (pc := 62) dX11_capital_62 rfl 1 rfl ?_
      refine jr_isub (pc := 63) dX11_capital_63 ?_
      exact jr_iret (pc := 64) rfl dX11_capital_64 h
  · replace h := h.2 c
    refine jr_aload_n (pc := 36) dX11_capital_36 rfl 0 rfl ?_
    refine jr_callV (pc := 37) (d' := 0) (mt' := mX11_here) (k := 11) (n := 0) (As := []) (st := []) fc_X11_119 (by decide) (by decide) (Nat.le_of_ble_eq_true rfl) rfl dX11_capital_37 (jw_M.mono h (fun x15 M16 h => ?_))
    show jw_J 5 mX11_capital 40 [(0, vr 11 0), (1, vi v1)] [vi x15] M16 Q
    refine jr_if_lt (pc := 40) (tgt := 51) dX11_capital_40 (by decide) (fun c => ?_) (fun c => ?_)
    · replace h := h.1 c
      refine jr_aload_n (pc := 51) dX11_capital_51 rfl 0 rfl ?_
      refine jr_iconst (pc := 52) (v := 0) dX11_capital_52 (by decide) ?_
      refine jr_put (pc := 53) fp_X11_112 (by decide) (Or.inl ⟨_, _, _, rfl, by decide +kernel⟩) dX11_capital_53 ?_
      replace h := h _ rfl
      generalize jw_up M16 11 0 14 0 = M17 at h ⊢
      refine jr_iload_n (pc := 56) dX11_capital_56 rfl 1 rfl ?_
      refine jr_if_le (pc := 57) (tgt := 65) dX11_capital_57 (by decide) (fun c => ?_) (fun c => ?_)
      · replace h := h.1 c
        refine jr_aload_n (pc := 65) dX11_capital_65 rfl 0 rfl ?_
        refine jr_callV (pc := 66) (d' := 1) (mt' := mX11_takeRead) (k := 11) (n := 0) (As := []) (st := []) fc_X11_183 (by decide) (by decide) (Nat.le_of_ble_eq_true rfl) rfl dX11_capital_66 (jw_M.mono h (fun x18 M19 h => ?_))
        show jw_J 5 mX11_capital 69 [(0, vr 11 0), (1, vi v1)] [] M19 Q
        refine jr_aload_n (pc := 69) dX11_capital_69 rfl 0 rfl ?_
        refine jr_iconst (pc := 70) (v := 0) dX11_capital_70 (by decide) ?_
        refine jr_put (pc := 71) fp_X11_186 (by decide) (Or.inl ⟨_, _, _, rfl, by decide +kernel⟩) dX11_capital_71 ?_
        replace h := h _ rfl
        generalize jw_up M19 11 0 34 0 = M20 at h ⊢
        refine jr_aload_n (pc := 74) dX11_capital_74 rfl 0 rfl ?_
        refine jr_iconst (pc := 75) (v := 0) dX11_capital_75 (by decide) ?_
        refine jr_put (pc := 76) fp_X11_189 (by decide) (Or.inl ⟨_, _, _, rfl, by decide +kernel⟩) dX11_capital_76 ?_
        replace h := h _ rfl
        generalize jw_up M20 11 0 38 0 = M21 at h ⊢
        refine jr_aload_n (pc := 79) dX11_capital_79 rfl 0 rfl ?_
        refine jr_iconst (pc := 80) (v := 0) dX11_capital_80 (by decide) ?_
        refine jr_put (pc := 81) fp_X11_192 (by decide) (Or.inl ⟨_, _, _, rfl, by decide +kernel⟩) dX11_capital_81 ?_
        replace h := h _ rfl
        generalize jw_up M21 11 0 30 0 = M22 at h ⊢
        refine jr_aload_n (pc := 84) dX11_capital_84 rfl 0 rfl ?_
        refine jr_get (pc := 85) (v := vr 61 0) fg_X11_89 (by decide) rfl dX11_capital_85 ?_
        refine jr_iconst (pc := 88) (v := 0) dX11_capital_88 (by decide) ?_
        refine jr_iconst (pc := 89) (v := 0) dX11_capital_89 (by decide) ?_
        refine jr_zast (pc := 90) ⟨rfl, (by decide)⟩ h.1 dX11_capital_90 ?_
        replace h := h.2
        replace h := h _ rfl
        generalize jw_up M22 61 0 (0 : Int32).toNatClampNeg (vp_nar .boolean 0) = M23 at h ⊢
        refine jr_aload_n (pc := 91) dX11_capital_91 rfl 0 rfl ?_
        refine jr_get (pc := 92) (v := vr 61 0) fg_X11_89 (by decide) rfl dX11_capital_92 ?_
        refine jr_iconst (pc := 95) (v := 1) dX11_capital_95 (by decide) ?_
        refine jr_iconst (pc := 96) (v := 0) dX11_capital_96 (by decide) ?_
        refine jr_zast (pc := 97) ⟨rfl, (by decide)⟩ h.1 dX11_capital_97 ?_
        replace h := h.2
        replace h := h _ rfl
        generalize jw_up M23 61 0 (1 : Int32).toNatClampNeg (vp_nar .boolean 0) = M24 at h ⊢
        refine jr_aload_n (pc := 98) dX11_capital_98 rfl 0 rfl ?_
        refine jr_get (pc := 99) (v := vi (M24 11 0 1)) fg_X11_96 (by decide) rfl dX11_capital_99 ?_
        exact jr_iret (pc := 102) rfl dX11_capital_102 h
      · replace h := h.2 c
        refine jr_bipush (pc := 60) (v := (-10)) dX11_capital_60 (by decide) ?_
        refine jr_iload_n (pc := 62) dX11_capital_62 rfl 1 rfl ?_
        refine jr_isub (pc := 63) dX11_capital_63 ?_
        exact jr_iret (pc := 64) rfl dX11_capital_64 h
    · replace h := h.2 c
      refine jr_aload_n (pc := 43) dX11_capital_43 rfl 0 rfl ?_
      refine jr_callV (pc := 44) (d' := 4) (mt' := mX11_takeClause) (k := 11) (n := 0) (As := []) (st := []) fc_X11_180 (by decide) (by decide) (Nat.le_of_ble_eq_true rfl) rfl dX11_capital_44 (jw_M.mono h (fun x25 M26 h => ?_))
      show jw_J 5 mX11_capital 47 [(0, vr 11 0), (1, vi v1)] [vi x25] M26 Q
      refine jr_istore_n (pc := 47) (lv' := [(1, vi x25), (0, vr 11 0)]) dX11_capital_47 rfl (by decide) rfl ?_
      refine jr_goto (pc := 48) (tgt := 32) dX11_capital_48 (by decide) ?_
      exact jr_sub [1, 0] rfl h
theorem dX11_fault_0 : decode cX11_fault 0 = .ok (.aload_n 0, 1) := by decide +kernel
theorem dX11_fault_1 : decode cX11_fault 1 = .ok (.getfield 37, 3) := by decide +kernel
theorem dX11_fault_4 : decode cX11_fault 4 = .ok (.ireturn, 1) := by decide +kernel
set_option maxHeartbeats 4000000 in
set_option maxRecDepth 20000 in
theorem en_X11_fault {M : jw_Mem} {Q : Int32 → jw_Mem → Prop}  (h : Q (M 11 0 15) M) : jw_M 0 mX11_fault [vr 11 0] M Q := by
  refine jw_M.of (by decide) (Nat.le_of_ble_eq_true rfl) ?_
  show jw_J 0 mX11_fault 0 [(0, vr 11 0)] [] M Q
  refine jr_aload_n (pc := 0) dX11_fault_0 rfl 0 rfl ?_
  refine jr_get (pc := 1) (v := vi (M 11 0 15)) fg_X11_37 (by decide) rfl dX11_fault_1 ?_
  exact jr_iret (pc := 4) rfl dX11_fault_4 h
theorem dX11_stands_0 : decode cX11_stands 0 = .ok (.aload_n 0, 1) := by decide +kernel
theorem dX11_stands_1 : decode cX11_stands 1 = .ok (.getfield 31, 3) := by decide +kernel
theorem dX11_stands_4 : decode cX11_stands 4 = .ok (.iload_n 1, 1) := by decide +kernel
theorem dX11_stands_5 : decode cX11_stands 5 = .ok (.iaload, 1) := by decide +kernel
theorem dX11_stands_6 : decode cX11_stands 6 = .ok (.iconst (-1), 1) := by decide +kernel
theorem dX11_stands_7 : decode cX11_stands 7 = .ok (.if_icmp .eq 7, 3) := by decide +kernel
theorem dX11_stands_10 : decode cX11_stands 10 = .ok (.iconst 1, 1) := by decide +kernel
theorem dX11_stands_11 : decode cX11_stands 11 = .ok (.goto 4, 3) := by decide +kernel
theorem dX11_stands_14 : decode cX11_stands 14 = .ok (.iconst 0, 1) := by decide +kernel
theorem dX11_stands_15 : decode cX11_stands 15 = .ok (.ireturn, 1) := by decide +kernel
set_option maxHeartbeats 4000000 in
set_option maxRecDepth 20000 in
theorem en_X11_stands {a1 : Int32} {M : jw_Mem} {Q : Int32 → jw_Mem → Prop}  (h : (vp_in a1 33 ∧ (((M 43 0 a1.toNatClampNeg) = (-1) → Q 0 M) ∧ (¬ (M 43 0 a1.toNatClampNeg) = (-1) → Q 1 M)))) : jw_M 0 mX11_stands [vr 11 0, vi a1] M Q := by
  refine jw_M.of (by decide) (Nat.le_of_ble_eq_true rfl) ?_
  show jw_J 0 mX11_stands 0 [(0, vr 11 0), (1, vi a1)] [] M Q
  refine jr_aload_n (pc := 0) dX11_stands_0 rfl 0 rfl ?_
  refine jr_get (pc := 1) (v := vr 43 0) fg_X11_31 (by decide) rfl dX11_stands_1 ?_
  refine jr_iload_n (pc := 4) dX11_stands_4 rfl 1 rfl ?_
  refine jr_iald (pc := 5) ⟨rfl, (by decide)⟩ h.1 dX11_stands_5 ?_
  replace h := h.2
  refine jr_iconst (pc := 6) (v := (-1)) dX11_stands_6 (by decide) ?_
  refine jr_icmp_eq (pc := 7) (tgt := 14) dX11_stands_7 (by decide) (fun c => ?_) (fun c => ?_)
  · replace h := h.1 c
    refine jr_iconst (pc := 14) (v := 0) dX11_stands_14 (by decide) ?_
    exact jr_zret (pc := 15) rfl dX11_stands_15 (Or.inl rfl) h
  · replace h := h.2 c
    refine jr_iconst (pc := 10) (v := 1) dX11_stands_10 (by decide) ?_
    refine jr_goto (pc := 11) (tgt := 15) dX11_stands_11 (by decide) ?_
    exact jr_zret (pc := 15) rfl dX11_stands_15 (Or.inr rfl) h
theorem dX11_whoIsOn_0 : decode cX11_whoIsOn 0 = .ok (.iconst 0, 1) := by decide +kernel
theorem dX11_whoIsOn_1 : decode cX11_whoIsOn 1 = .ok (.istore_n 2, 1) := by decide +kernel
theorem dX11_whoIsOn_2 : decode cX11_whoIsOn 2 = .ok (.iload_n 2, 1) := by decide +kernel
theorem dX11_whoIsOn_3 : decode cX11_whoIsOn 3 = .ok (.aload_n 0, 1) := by decide +kernel
theorem dX11_whoIsOn_4 : decode cX11_whoIsOn 4 = .ok (.getfield 103, 3) := by decide +kernel
theorem dX11_whoIsOn_7 : decode cX11_whoIsOn 7 = .ok (.if_icmp .ge 21, 3) := by decide +kernel
theorem dX11_whoIsOn_10 : decode cX11_whoIsOn 10 = .ok (.aload_n 0, 1) := by decide +kernel
theorem dX11_whoIsOn_11 : decode cX11_whoIsOn 11 = .ok (.getfield 31, 3) := by decide +kernel
theorem dX11_whoIsOn_14 : decode cX11_whoIsOn 14 = .ok (.iload_n 2, 1) := by decide +kernel
theorem dX11_whoIsOn_15 : decode cX11_whoIsOn 15 = .ok (.iaload, 1) := by decide +kernel
theorem dX11_whoIsOn_16 : decode cX11_whoIsOn 16 = .ok (.iload_n 1, 1) := by decide +kernel
theorem dX11_whoIsOn_17 : decode cX11_whoIsOn 17 = .ok (.if_icmp .ne 5, 3) := by decide +kernel
theorem dX11_whoIsOn_20 : decode cX11_whoIsOn 20 = .ok (.iload_n 2, 1) := by decide +kernel
theorem dX11_whoIsOn_21 : decode cX11_whoIsOn 21 = .ok (.ireturn, 1) := by decide +kernel
theorem dX11_whoIsOn_22 : decode cX11_whoIsOn 22 = .ok (.iinc 2 1, 3) := by decide +kernel
theorem dX11_whoIsOn_25 : decode cX11_whoIsOn 25 = .ok (.goto (-23), 3) := by decide +kernel
theorem dX11_whoIsOn_28 : decode cX11_whoIsOn 28 = .ok (.iconst (-1), 1) := by decide +kernel
theorem dX11_whoIsOn_29 : decode cX11_whoIsOn 29 = .ok (.ireturn, 1) := by decide +kernel
set_option maxHeartbeats 4000000 in
set_option maxRecDepth 20000 in
theorem en_X11_whoIsOn {a1 : Int32} {M : jw_Mem} {Q : Int32 → jw_Mem → Prop}  (h : jw_J 0 mX11_whoIsOn 2 [(0, vr 11 0), (1, vi a1), (2, vi 0)] [] M Q) : jw_M 0 mX11_whoIsOn [vr 11 0, vi a1] M Q := by
  refine jw_M.of (by decide) (Nat.le_of_ble_eq_true rfl) ?_
  show jw_J 0 mX11_whoIsOn 0 [(0, vr 11 0), (1, vi a1)] [] M Q
  refine jr_iconst (pc := 0) (v := 0) dX11_whoIsOn_0 (by decide) ?_
  refine jr_istore_n (pc := 1) (lv' := [(2, vi 0), (0, vr 11 0), (1, vi a1)]) dX11_whoIsOn_1 rfl (by decide) rfl ?_
  exact jr_sub [1, 2, 0] rfl h
set_option maxHeartbeats 4000000 in
set_option maxRecDepth 20000 in
theorem bk_X11_whoIsOn_2 {v1 : Int32} {v2 : Int32} {M : jw_Mem} {Q : Int32 → jw_Mem → Prop}  (h : (((M 11 0 3) ≤ v2 → Q (-1) M) ∧ (¬ (M 11 0 3) ≤ v2 → (vp_in v2 33 ∧ ((¬ (M 43 0 v2.toNatClampNeg) = v1 → jw_J 0 mX11_whoIsOn 2 [(0, vr 11 0), (1, vi v1), (2, vi (v2 + 1))] [] M Q) ∧ ((M 43 0 v2.toNatClampNeg) = v1 → Q v2 M)))))) : jw_J 0 mX11_whoIsOn 2 [(0, vr 11 0), (1, vi v1), (2, vi v2)] [] M Q := by
  refine jr_iload_n (pc := 2) dX11_whoIsOn_2 rfl 2 rfl ?_
  refine jr_aload_n (pc := 3) dX11_whoIsOn_3 rfl 0 rfl ?_
  refine jr_get (pc := 4) (v := vi (M 11 0 3)) fg_X11_103 (by decide) rfl dX11_whoIsOn_4 ?_
  refine jr_icmp_ge (pc := 7) (tgt := 28) dX11_whoIsOn_7 (by decide) (fun c => ?_) (fun c => ?_)
  · replace h := h.1 c
    refine jr_iconst (pc := 28) (v := (-1)) dX11_whoIsOn_28 (by decide) ?_
    exact jr_iret (pc := 29) rfl dX11_whoIsOn_29 h
  · replace h := h.2 c
    refine jr_aload_n (pc := 10) dX11_whoIsOn_10 rfl 0 rfl ?_
    refine jr_get (pc := 11) (v := vr 43 0) fg_X11_31 (by decide) rfl dX11_whoIsOn_11 ?_
    refine jr_iload_n (pc := 14) dX11_whoIsOn_14 rfl 2 rfl ?_
    refine jr_iald (pc := 15) ⟨rfl, (by decide)⟩ h.1 dX11_whoIsOn_15 ?_
    replace h := h.2
    refine jr_iload_n (pc := 16) dX11_whoIsOn_16 rfl 1 rfl ?_
    refine jr_icmp_ne (pc := 17) (tgt := 22) dX11_whoIsOn_17 (by decide) (fun c => ?_) (fun c => ?_)
    · replace h := h.1 c
      refine jr_iinc (pc := 22) (lv' := [(2, vi (v2 + 1)), (0, vr 11 0), (1, vi v1)]) (q := 2) dX11_whoIsOn_22 rfl (by rfl) (by decide) rfl ?_
      refine jr_goto (pc := 25) (tgt := 2) dX11_whoIsOn_25 (by decide) ?_
      exact jr_sub [1, 2, 0] rfl h
    · replace h := h.2 c
      refine jr_iload_n (pc := 20) dX11_whoIsOn_20 rfl 2 rfl ?_
      exact jr_iret (pc := 21) rfl dX11_whoIsOn_21 h
theorem dX11_walkersUnder_0 : decode cX11_walkersUnder 0 = .ok (.iconst 0, 1) := by decide +kernel
theorem dX11_walkersUnder_1 : decode cX11_walkersUnder 1 = .ok (.istore_n 2, 1) := by decide +kernel
theorem dX11_walkersUnder_2 : decode cX11_walkersUnder 2 = .ok (.iconst 0, 1) := by decide +kernel
theorem dX11_walkersUnder_3 : decode cX11_walkersUnder 3 = .ok (.istore_n 3, 1) := by decide +kernel
theorem dX11_walkersUnder_4 : decode cX11_walkersUnder 4 = .ok (.iload_n 3, 1) := by decide +kernel
theorem dX11_walkersUnder_5 : decode cX11_walkersUnder 5 = .ok (.aload_n 0, 1) := by decide +kernel
theorem dX11_walkersUnder_6 : decode cX11_walkersUnder 6 = .ok (.getfield 106, 3) := by decide +kernel
theorem dX11_walkersUnder_9 : decode cX11_walkersUnder 9 = .ok (.if_icmp .ge 35, 3) := by decide +kernel
theorem dX11_walkersUnder_12 : decode cX11_walkersUnder 12 = .ok (.iload_n 2, 1) := by decide +kernel
theorem dX11_walkersUnder_13 : decode cX11_walkersUnder 13 = .ok (.aload_n 0, 1) := by decide +kernel
theorem dX11_walkersUnder_14 : decode cX11_walkersUnder 14 = .ok (.getfield 31, 3) := by decide +kernel
theorem dX11_walkersUnder_17 : decode cX11_walkersUnder 17 = .ok (.bipush 18, 2) := by decide +kernel
theorem dX11_walkersUnder_19 : decode cX11_walkersUnder 19 = .ok (.iload_n 3, 1) := by decide +kernel
theorem dX11_walkersUnder_20 : decode cX11_walkersUnder 20 = .ok (.iadd, 1) := by decide +kernel
theorem dX11_walkersUnder_21 : decode cX11_walkersUnder 21 = .ok (.iaload, 1) := by decide +kernel
theorem dX11_walkersUnder_22 : decode cX11_walkersUnder 22 = .ok (.iload_n 1, 1) := by decide +kernel
theorem dX11_walkersUnder_23 : decode cX11_walkersUnder 23 = .ok (.invokestatic 195, 3) := by decide +kernel
theorem dX11_walkersUnder_26 : decode cX11_walkersUnder 26 = .ok (.ifCond .eq 9, 3) := by decide +kernel
theorem dX11_walkersUnder_29 : decode cX11_walkersUnder 29 = .ok (.iconst 1, 1) := by decide +kernel
theorem dX11_walkersUnder_30 : decode cX11_walkersUnder 30 = .ok (.iload_n 3, 1) := by decide +kernel
theorem dX11_walkersUnder_31 : decode cX11_walkersUnder 31 = .ok (.ishl, 1) := by decide +kernel
theorem dX11_walkersUnder_32 : decode cX11_walkersUnder 32 = .ok (.goto 4, 3) := by decide +kernel
theorem dX11_walkersUnder_35 : decode cX11_walkersUnder 35 = .ok (.iconst 0, 1) := by decide +kernel
theorem dX11_walkersUnder_36 : decode cX11_walkersUnder 36 = .ok (.ior, 1) := by decide +kernel
theorem dX11_walkersUnder_37 : decode cX11_walkersUnder 37 = .ok (.istore_n 2, 1) := by decide +kernel
theorem dX11_walkersUnder_38 : decode cX11_walkersUnder 38 = .ok (.iinc 3 1, 3) := by decide +kernel
theorem dX11_walkersUnder_41 : decode cX11_walkersUnder 41 = .ok (.goto (-37), 3) := by decide +kernel
theorem dX11_walkersUnder_44 : decode cX11_walkersUnder 44 = .ok (.iload_n 2, 1) := by decide +kernel
theorem dX11_walkersUnder_45 : decode cX11_walkersUnder 45 = .ok (.ireturn, 1) := by decide +kernel
set_option maxHeartbeats 4000000 in
set_option maxRecDepth 20000 in
theorem en_X11_walkersUnder {a1 : Int32} {M : jw_Mem} {Q : Int32 → jw_Mem → Prop}  (h : jw_J 1 mX11_walkersUnder 4 [(0, vr 11 0), (1, vi a1), (2, vi 0), (3, vi 0)] [] M Q) : jw_M 1 mX11_walkersUnder [vr 11 0, vi a1] M Q := by
  refine jw_M.of (by decide) (Nat.le_of_ble_eq_true rfl) ?_
  show jw_J 1 mX11_walkersUnder 0 [(0, vr 11 0), (1, vi a1)] [] M Q
  refine jr_iconst (pc := 0) (v := 0) dX11_walkersUnder_0 (by decide) ?_
  refine jr_istore_n (pc := 1) (lv' := [(2, vi 0), (0, vr 11 0), (1, vi a1)]) dX11_walkersUnder_1 rfl (by decide) rfl ?_
  refine jr_iconst (pc := 2) (v := 0) dX11_walkersUnder_2 (by decide) ?_
  refine jr_istore_n (pc := 3) (lv' := [(3, vi 0), (2, vi 0), (0, vr 11 0), (1, vi a1)]) dX11_walkersUnder_3 rfl (by decide) rfl ?_
  exact jr_sub [2, 3, 1, 0] rfl h
set_option maxHeartbeats 4000000 in
set_option maxRecDepth 20000 in
theorem bk_X11_walkersUnder_4 {v1 : Int32} {v2 : Int32} {v3 : Int32} {M : jw_Mem} {Q : Int32 → jw_Mem → Prop}  (h : (((M 11 0 7) ≤ v3 → Q v2 M) ∧ (¬ (M 11 0 7) ≤ v3 → (vp_in (18 + v3) 33 ∧ (jw_M 0 mX11_has [vi (M 43 0 ((18 + v3) : Int32).toNatClampNeg), vi v1] M (fun x1 M2 => ((x1 = 0 → jw_J 1 mX11_walkersUnder 4 [(0, vr 11 0), (1, vi v1), (2, vi (v2 ||| 0)), (3, vi (v3 + 1))] [] M2 Q) ∧ (¬ x1 = 0 → jw_J 1 mX11_walkersUnder 4 [(0, vr 11 0), (1, vi v1), (2, vi (v2 ||| ((1 : Int32) <<< (v3 &&& 31)))), (3, vi (v3 + 1))] [] M2 Q)))))))) : jw_J 1 mX11_walkersUnder 4 [(0, vr 11 0), (1, vi v1), (2, vi v2), (3, vi v3)] [] M Q := by
  refine jr_iload_n (pc := 4) dX11_walkersUnder_4 rfl 3 rfl ?_
  refine jr_aload_n (pc := 5) dX11_walkersUnder_5 rfl 0 rfl ?_
  refine jr_get (pc := 6) (v := vi (M 11 0 7)) fg_X11_106 (by decide) rfl dX11_walkersUnder_6 ?_
  refine jr_icmp_ge (pc := 9) (tgt := 44) dX11_walkersUnder_9 (by decide) (fun c => ?_) (fun c => ?_)
  · replace h := h.1 c
    refine jr_iload_n (pc := 44) dX11_walkersUnder_44 rfl 2 rfl ?_
    exact jr_iret (pc := 45) rfl dX11_walkersUnder_45 h
  · replace h := h.2 c
    refine jr_iload_n (pc := 12) dX11_walkersUnder_12 rfl 2 rfl ?_
    refine jr_aload_n (pc := 13) dX11_walkersUnder_13 rfl 0 rfl ?_
    refine jr_get (pc := 14) (v := vr 43 0) fg_X11_31 (by decide) rfl dX11_walkersUnder_14 ?_
    refine jr_bipush (pc := 17) (v := 18) dX11_walkersUnder_17 (by decide) ?_
    refine jr_iload_n (pc := 19) dX11_walkersUnder_19 rfl 3 rfl ?_
    refine jr_iadd (pc := 20) dX11_walkersUnder_20 ?_
    refine jr_iald (pc := 21) ⟨rfl, (by decide)⟩ h.1 dX11_walkersUnder_21 ?_
    replace h := h.2
    refine jr_iload_n (pc := 22) dX11_walkersUnder_22 rfl 1 rfl ?_
    refine jr_callS (pc := 23) (d' := 0) (mt' := mX11_has) (As := [vi (M 43 0 ((18 + v3) : Int32).toNatClampNeg), vi v1]) (st := [vi v2]) fc_X11_195 (by decide) (Nat.le_of_ble_eq_true rfl) rfl dX11_walkersUnder_23 (jw_M.mono h (fun x1 M2 h => ?_))
    show jw_J 1 mX11_walkersUnder 26 [(0, vr 11 0), (1, vi v1), (2, vi v2), (3, vi v3)] [vi x1, vi v2] M2 Q
    refine jr_if_eq (pc := 26) (tgt := 35) dX11_walkersUnder_26 (by decide) (fun c => ?_) (fun c => ?_)
    · replace h := h.1 c
      refine jr_iconst (pc := 35) (v := 0) dX11_walkersUnder_35 (by decide) ?_
      refine jr_ior (pc := 36) dX11_walkersUnder_36 ?_
      refine jr_istore_n (pc := 37) (lv' := [(2, vi (v2 ||| 0)), (0, vr 11 0), (1, vi v1), (3, vi v3)]) dX11_walkersUnder_37 rfl (by decide) rfl ?_
      refine jr_iinc (pc := 38) (lv' := [(3, vi (v3 + 1)), (2, vi (v2 ||| 0)), (0, vr 11 0), (1, vi v1)]) (q := 3) dX11_walkersUnder_38 rfl (by rfl) (by decide) rfl ?_
      refine jr_goto (pc := 41) (tgt := 4) dX11_walkersUnder_41 (by decide) ?_
      exact jr_sub [2, 3, 1, 0] rfl h
    · replace h := h.2 c
      refine jr_iconst (pc := 29) (v := 1) dX11_walkersUnder_29 (by decide) ?_
      refine jr_iload_n (pc := 30) dX11_walkersUnder_30 rfl 3 rfl ?_
      refine jr_ishl (pc := 31) dX11_walkersUnder_31 ?_
      refine jr_goto (pc := 32) (tgt := 36) dX11_walkersUnder_32 (by decide) ?_
      refine jr_ior (pc := 36) dX11_walkersUnder_36 ?_
      refine jr_istore_n (pc := 37) (lv' := [(2, vi (v2 ||| ((1 : Int32) <<< (v3 &&& 31)))), (0, vr 11 0), (1, vi v1), (3, vi v3)]) dX11_walkersUnder_37 rfl (by decide) rfl ?_
      refine jr_iinc (pc := 38) (lv' := [(3, vi (v3 + 1)), (2, vi (v2 ||| ((1 : Int32) <<< (v3 &&& 31)))), (0, vr 11 0), (1, vi v1)]) (q := 3) dX11_walkersUnder_38 rfl (by rfl) (by decide) rfl ?_
      refine jr_goto (pc := 41) (tgt := 4) dX11_walkersUnder_41 (by decide) ?_
      exact jr_sub [2, 3, 1, 0] rfl h
theorem dX11_votesOf_0 : decode cX11_votesOf 0 = .ok (.iconst 0, 1) := by decide +kernel
theorem dX11_votesOf_1 : decode cX11_votesOf 1 = .ok (.istore_n 2, 1) := by decide +kernel
theorem dX11_votesOf_2 : decode cX11_votesOf 2 = .ok (.iconst 0, 1) := by decide +kernel
theorem dX11_votesOf_3 : decode cX11_votesOf 3 = .ok (.istore_n 3, 1) := by decide +kernel
theorem dX11_votesOf_4 : decode cX11_votesOf 4 = .ok (.iload_n 3, 1) := by decide +kernel
theorem dX11_votesOf_5 : decode cX11_votesOf 5 = .ok (.aload_n 0, 1) := by decide +kernel
theorem dX11_votesOf_6 : decode cX11_votesOf 6 = .ok (.getfield 106, 3) := by decide +kernel
theorem dX11_votesOf_9 : decode cX11_votesOf 9 = .ok (.if_icmp .ge 30, 3) := by decide +kernel
theorem dX11_votesOf_12 : decode cX11_votesOf 12 = .ok (.iload_n 2, 1) := by decide +kernel
theorem dX11_votesOf_13 : decode cX11_votesOf 13 = .ok (.iload_n 1, 1) := by decide +kernel
theorem dX11_votesOf_14 : decode cX11_votesOf 14 = .ok (.iload_n 3, 1) := by decide +kernel
theorem dX11_votesOf_15 : decode cX11_votesOf 15 = .ok (.invokestatic 195, 3) := by decide +kernel
theorem dX11_votesOf_18 : decode cX11_votesOf 18 = .ok (.ifCond .eq 12, 3) := by decide +kernel
theorem dX11_votesOf_21 : decode cX11_votesOf 21 = .ok (.aload_n 0, 1) := by decide +kernel
theorem dX11_votesOf_22 : decode cX11_votesOf 22 = .ok (.getfield 25, 3) := by decide +kernel
theorem dX11_votesOf_25 : decode cX11_votesOf 25 = .ok (.iload_n 3, 1) := by decide +kernel
theorem dX11_votesOf_26 : decode cX11_votesOf 26 = .ok (.iaload, 1) := by decide +kernel
theorem dX11_votesOf_27 : decode cX11_votesOf 27 = .ok (.goto 4, 3) := by decide +kernel
theorem dX11_votesOf_30 : decode cX11_votesOf 30 = .ok (.iconst 0, 1) := by decide +kernel
theorem dX11_votesOf_31 : decode cX11_votesOf 31 = .ok (.iadd, 1) := by decide +kernel
theorem dX11_votesOf_32 : decode cX11_votesOf 32 = .ok (.istore_n 2, 1) := by decide +kernel
theorem dX11_votesOf_33 : decode cX11_votesOf 33 = .ok (.iinc 3 1, 3) := by decide +kernel
theorem dX11_votesOf_36 : decode cX11_votesOf 36 = .ok (.goto (-32), 3) := by decide +kernel
theorem dX11_votesOf_39 : decode cX11_votesOf 39 = .ok (.iload_n 2, 1) := by decide +kernel
theorem dX11_votesOf_40 : decode cX11_votesOf 40 = .ok (.ireturn, 1) := by decide +kernel
set_option maxHeartbeats 4000000 in
set_option maxRecDepth 20000 in
theorem en_X11_votesOf {a1 : Int32} {M : jw_Mem} {Q : Int32 → jw_Mem → Prop}  (h : jw_J 1 mX11_votesOf 4 [(0, vr 11 0), (1, vi a1), (2, vi 0), (3, vi 0)] [] M Q) : jw_M 1 mX11_votesOf [vr 11 0, vi a1] M Q := by
  refine jw_M.of (by decide) (Nat.le_of_ble_eq_true rfl) ?_
  show jw_J 1 mX11_votesOf 0 [(0, vr 11 0), (1, vi a1)] [] M Q
  refine jr_iconst (pc := 0) (v := 0) dX11_votesOf_0 (by decide) ?_
  refine jr_istore_n (pc := 1) (lv' := [(2, vi 0), (0, vr 11 0), (1, vi a1)]) dX11_votesOf_1 rfl (by decide) rfl ?_
  refine jr_iconst (pc := 2) (v := 0) dX11_votesOf_2 (by decide) ?_
  refine jr_istore_n (pc := 3) (lv' := [(3, vi 0), (2, vi 0), (0, vr 11 0), (1, vi a1)]) dX11_votesOf_3 rfl (by decide) rfl ?_
  exact jr_sub [2, 3, 1, 0] rfl h
set_option maxHeartbeats 4000000 in
set_option maxRecDepth 20000 in
theorem bk_X11_votesOf_4 {v1 : Int32} {v2 : Int32} {v3 : Int32} {M : jw_Mem} {Q : Int32 → jw_Mem → Prop}  (h : (((M 11 0 7) ≤ v3 → Q v2 M) ∧ (¬ (M 11 0 7) ≤ v3 → (jw_M 0 mX11_has [vi v1, vi v3] M (fun x1 M2 => ((x1 = 0 → jw_J 1 mX11_votesOf 4 [(0, vr 11 0), (1, vi v1), (2, vi (v2 + 0)), (3, vi (v3 + 1))] [] M2 Q) ∧ (¬ x1 = 0 → (vp_in v3 7 ∧ jw_J 1 mX11_votesOf 4 [(0, vr 11 0), (1, vi v1), (2, vi (v2 + (M2 41 0 v3.toNatClampNeg))), (3, vi (v3 + 1))] [] M2 Q)))))))) : jw_J 1 mX11_votesOf 4 [(0, vr 11 0), (1, vi v1), (2, vi v2), (3, vi v3)] [] M Q := by
  refine jr_iload_n (pc := 4) dX11_votesOf_4 rfl 3 rfl ?_
  refine jr_aload_n (pc := 5) dX11_votesOf_5 rfl 0 rfl ?_
  refine jr_get (pc := 6) (v := vi (M 11 0 7)) fg_X11_106 (by decide) rfl dX11_votesOf_6 ?_
  refine jr_icmp_ge (pc := 9) (tgt := 39) dX11_votesOf_9 (by decide) (fun c => ?_) (fun c => ?_)
  · replace h := h.1 c
    refine jr_iload_n (pc := 39) dX11_votesOf_39 rfl 2 rfl ?_
    exact jr_iret (pc := 40) rfl dX11_votesOf_40 h
  · replace h := h.2 c
    refine jr_iload_n (pc := 12) dX11_votesOf_12 rfl 2 rfl ?_
    refine jr_iload_n (pc := 13) dX11_votesOf_13 rfl 1 rfl ?_
    refine jr_iload_n (pc := 14) dX11_votesOf_14 rfl 3 rfl ?_
    refine jr_callS (pc := 15) (d' := 0) (mt' := mX11_has) (As := [vi v1, vi v3]) (st := [vi v2]) fc_X11_195 (by decide) (Nat.le_of_ble_eq_true rfl) rfl dX11_votesOf_15 (jw_M.mono h (fun x1 M2 h => ?_))
    show jw_J 1 mX11_votesOf 18 [(0, vr 11 0), (1, vi v1), (2, vi v2), (3, vi v3)] [vi x1, vi v2] M2 Q
    refine jr_if_eq (pc := 18) (tgt := 30) dX11_votesOf_18 (by decide) (fun c => ?_) (fun c => ?_)
    · replace h := h.1 c
      refine jr_iconst (pc := 30) (v := 0) dX11_votesOf_30 (by decide) ?_
      refine jr_iadd (pc := 31) dX11_votesOf_31 ?_
      refine jr_istore_n (pc := 32) (lv' := [(2, vi (v2 + 0)), (0, vr 11 0), (1, vi v1), (3, vi v3)]) dX11_votesOf_32 rfl (by decide) rfl ?_
      refine jr_iinc (pc := 33) (lv' := [(3, vi (v3 + 1)), (2, vi (v2 + 0)), (0, vr 11 0), (1, vi v1)]) (q := 3) dX11_votesOf_33 rfl (by rfl) (by decide) rfl ?_
      refine jr_goto (pc := 36) (tgt := 4) dX11_votesOf_36 (by decide) ?_
      exact jr_sub [2, 3, 1, 0] rfl h
    · replace h := h.2 c
      refine jr_aload_n (pc := 21) dX11_votesOf_21 rfl 0 rfl ?_
      refine jr_get (pc := 22) (v := vr 41 0) fg_X11_25 (by decide) rfl dX11_votesOf_22 ?_
      refine jr_iload_n (pc := 25) dX11_votesOf_25 rfl 3 rfl ?_
      refine jr_iald (pc := 26) ⟨rfl, (by decide)⟩ h.1 dX11_votesOf_26 ?_
      replace h := h.2
      refine jr_goto (pc := 27) (tgt := 31) dX11_votesOf_27 (by decide) ?_
      refine jr_iadd (pc := 31) dX11_votesOf_31 ?_
      refine jr_istore_n (pc := 32) (lv' := [(2, vi (v2 + (M2 41 0 v3.toNatClampNeg))), (0, vr 11 0), (1, vi v1), (3, vi v3)]) dX11_votesOf_32 rfl (by decide) rfl ?_
      refine jr_iinc (pc := 33) (lv' := [(3, vi (v3 + 1)), (2, vi (v2 + (M2 41 0 v3.toNatClampNeg))), (0, vr 11 0), (1, vi v1)]) (q := 3) dX11_votesOf_33 rfl (by rfl) (by decide) rfl ?_
      refine jr_goto (pc := 36) (tgt := 4) dX11_votesOf_36 (by decide) ?_
      exact jr_sub [2, 3, 1, 0] rfl h
theorem dX11_whoLikes_0 : decode cX11_whoLikes 0 = .ok (.iconst 0, 1) := by decide +kernel
theorem dX11_whoLikes_1 : decode cX11_whoLikes 1 = .ok (.istore_n 2, 1) := by decide +kernel
theorem dX11_whoLikes_2 : decode cX11_whoLikes 2 = .ok (.iconst 0, 1) := by decide +kernel
theorem dX11_whoLikes_3 : decode cX11_whoLikes 3 = .ok (.istore_n 3, 1) := by decide +kernel
theorem dX11_whoLikes_4 : decode cX11_whoLikes 4 = .ok (.iload_n 3, 1) := by decide +kernel
theorem dX11_whoLikes_5 : decode cX11_whoLikes 5 = .ok (.aload_n 0, 1) := by decide +kernel
theorem dX11_whoLikes_6 : decode cX11_whoLikes 6 = .ok (.getfield 106, 3) := by decide +kernel
theorem dX11_whoLikes_9 : decode cX11_whoLikes 9 = .ok (.if_icmp .ge 35, 3) := by decide +kernel
theorem dX11_whoLikes_12 : decode cX11_whoLikes 12 = .ok (.iload_n 2, 1) := by decide +kernel
theorem dX11_whoLikes_13 : decode cX11_whoLikes 13 = .ok (.aload_n 0, 1) := by decide +kernel
theorem dX11_whoLikes_14 : decode cX11_whoLikes 14 = .ok (.getfield 31, 3) := by decide +kernel
theorem dX11_whoLikes_17 : decode cX11_whoLikes 17 = .ok (.bipush 25, 2) := by decide +kernel
theorem dX11_whoLikes_19 : decode cX11_whoLikes 19 = .ok (.iload_n 3, 1) := by decide +kernel
theorem dX11_whoLikes_20 : decode cX11_whoLikes 20 = .ok (.iadd, 1) := by decide +kernel
theorem dX11_whoLikes_21 : decode cX11_whoLikes 21 = .ok (.iaload, 1) := by decide +kernel
theorem dX11_whoLikes_22 : decode cX11_whoLikes 22 = .ok (.iload_n 1, 1) := by decide +kernel
theorem dX11_whoLikes_23 : decode cX11_whoLikes 23 = .ok (.invokestatic 195, 3) := by decide +kernel
theorem dX11_whoLikes_26 : decode cX11_whoLikes 26 = .ok (.ifCond .eq 9, 3) := by decide +kernel
theorem dX11_whoLikes_29 : decode cX11_whoLikes 29 = .ok (.iconst 1, 1) := by decide +kernel
theorem dX11_whoLikes_30 : decode cX11_whoLikes 30 = .ok (.iload_n 3, 1) := by decide +kernel
theorem dX11_whoLikes_31 : decode cX11_whoLikes 31 = .ok (.ishl, 1) := by decide +kernel
theorem dX11_whoLikes_32 : decode cX11_whoLikes 32 = .ok (.goto 4, 3) := by decide +kernel
theorem dX11_whoLikes_35 : decode cX11_whoLikes 35 = .ok (.iconst 0, 1) := by decide +kernel
theorem dX11_whoLikes_36 : decode cX11_whoLikes 36 = .ok (.ior, 1) := by decide +kernel
theorem dX11_whoLikes_37 : decode cX11_whoLikes 37 = .ok (.istore_n 2, 1) := by decide +kernel
theorem dX11_whoLikes_38 : decode cX11_whoLikes 38 = .ok (.iinc 3 1, 3) := by decide +kernel
theorem dX11_whoLikes_41 : decode cX11_whoLikes 41 = .ok (.goto (-37), 3) := by decide +kernel
theorem dX11_whoLikes_44 : decode cX11_whoLikes 44 = .ok (.iload_n 2, 1) := by decide +kernel
theorem dX11_whoLikes_45 : decode cX11_whoLikes 45 = .ok (.ireturn, 1) := by decide +kernel
set_option maxHeartbeats 4000000 in
set_option maxRecDepth 20000 in
theorem en_X11_whoLikes {a1 : Int32} {M : jw_Mem} {Q : Int32 → jw_Mem → Prop}  (h : jw_J 1 mX11_whoLikes 4 [(0, vr 11 0), (1, vi a1), (2, vi 0), (3, vi 0)] [] M Q) : jw_M 1 mX11_whoLikes [vr 11 0, vi a1] M Q := by
  refine jw_M.of (by decide) (Nat.le_of_ble_eq_true rfl) ?_
  show jw_J 1 mX11_whoLikes 0 [(0, vr 11 0), (1, vi a1)] [] M Q
  refine jr_iconst (pc := 0) (v := 0) dX11_whoLikes_0 (by decide) ?_
  refine jr_istore_n (pc := 1) (lv' := [(2, vi 0), (0, vr 11 0), (1, vi a1)]) dX11_whoLikes_1 rfl (by decide) rfl ?_
  refine jr_iconst (pc := 2) (v := 0) dX11_whoLikes_2 (by decide) ?_
  refine jr_istore_n (pc := 3) (lv' := [(3, vi 0), (2, vi 0), (0, vr 11 0), (1, vi a1)]) dX11_whoLikes_3 rfl (by decide) rfl ?_
  exact jr_sub [2, 3, 1, 0] rfl h
set_option maxHeartbeats 4000000 in
set_option maxRecDepth 20000 in
theorem bk_X11_whoLikes_4 {v1 : Int32} {v2 : Int32} {v3 : Int32} {M : jw_Mem} {Q : Int32 → jw_Mem → Prop}  (h : (((M 11 0 7) ≤ v3 → Q v2 M) ∧ (¬ (M 11 0 7) ≤ v3 → (vp_in (25 + v3) 33 ∧ (jw_M 0 mX11_has [vi (M 43 0 ((25 + v3) : Int32).toNatClampNeg), vi v1] M (fun x1 M2 => ((x1 = 0 → jw_J 1 mX11_whoLikes 4 [(0, vr 11 0), (1, vi v1), (2, vi (v2 ||| 0)), (3, vi (v3 + 1))] [] M2 Q) ∧ (¬ x1 = 0 → jw_J 1 mX11_whoLikes 4 [(0, vr 11 0), (1, vi v1), (2, vi (v2 ||| ((1 : Int32) <<< (v3 &&& 31)))), (3, vi (v3 + 1))] [] M2 Q)))))))) : jw_J 1 mX11_whoLikes 4 [(0, vr 11 0), (1, vi v1), (2, vi v2), (3, vi v3)] [] M Q := by
  refine jr_iload_n (pc := 4) dX11_whoLikes_4 rfl 3 rfl ?_
  refine jr_aload_n (pc := 5) dX11_whoLikes_5 rfl 0 rfl ?_
  refine jr_get (pc := 6) (v := vi (M 11 0 7)) fg_X11_106 (by decide) rfl dX11_whoLikes_6 ?_
  refine jr_icmp_ge (pc := 9) (tgt := 44) dX11_whoLikes_9 (by decide) (fun c => ?_) (fun c => ?_)
  · replace h := h.1 c
    refine jr_iload_n (pc := 44) dX11_whoLikes_44 rfl 2 rfl ?_
    exact jr_iret (pc := 45) rfl dX11_whoLikes_45 h
  · replace h := h.2 c
    refine jr_iload_n (pc := 12) dX11_whoLikes_12 rfl 2 rfl ?_
    refine jr_aload_n (pc := 13) dX11_whoLikes_13 rfl 0 rfl ?_
    refine jr_get (pc := 14) (v := vr 43 0) fg_X11_31 (by decide) rfl dX11_whoLikes_14 ?_
    refine jr_bipush (pc := 17) (v := 25) dX11_whoLikes_17 (by decide) ?_
    refine jr_iload_n (pc := 19) dX11_whoLikes_19 rfl 3 rfl ?_
    refine jr_iadd (pc := 20) dX11_whoLikes_20 ?_
    refine jr_iald (pc := 21) ⟨rfl, (by decide)⟩ h.1 dX11_whoLikes_21 ?_
    replace h := h.2
    refine jr_iload_n (pc := 22) dX11_whoLikes_22 rfl 1 rfl ?_
    refine jr_callS (pc := 23) (d' := 0) (mt' := mX11_has) (As := [vi (M 43 0 ((25 + v3) : Int32).toNatClampNeg), vi v1]) (st := [vi v2]) fc_X11_195 (by decide) (Nat.le_of_ble_eq_true rfl) rfl dX11_whoLikes_23 (jw_M.mono h (fun x1 M2 h => ?_))
    show jw_J 1 mX11_whoLikes 26 [(0, vr 11 0), (1, vi v1), (2, vi v2), (3, vi v3)] [vi x1, vi v2] M2 Q
    refine jr_if_eq (pc := 26) (tgt := 35) dX11_whoLikes_26 (by decide) (fun c => ?_) (fun c => ?_)
    · replace h := h.1 c
      refine jr_iconst (pc := 35) (v := 0) dX11_whoLikes_35 (by decide) ?_
      refine jr_ior (pc := 36) dX11_whoLikes_36 ?_
      refine jr_istore_n (pc := 37) (lv' := [(2, vi (v2 ||| 0)), (0, vr 11 0), (1, vi v1), (3, vi v3)]) dX11_whoLikes_37 rfl (by decide) rfl ?_
      refine jr_iinc (pc := 38) (lv' := [(3, vi (v3 + 1)), (2, vi (v2 ||| 0)), (0, vr 11 0), (1, vi v1)]) (q := 3) dX11_whoLikes_38 rfl (by rfl) (by decide) rfl ?_
      refine jr_goto (pc := 41) (tgt := 4) dX11_whoLikes_41 (by decide) ?_
      exact jr_sub [2, 3, 1, 0] rfl h
    · replace h := h.2 c
      refine jr_iconst (pc := 29) (v := 1) dX11_whoLikes_29 (by decide) ?_
      refine jr_iload_n (pc := 30) dX11_whoLikes_30 rfl 3 rfl ?_
      refine jr_ishl (pc := 31) dX11_whoLikes_31 ?_
      refine jr_goto (pc := 32) (tgt := 36) dX11_whoLikes_32 (by decide) ?_
      refine jr_ior (pc := 36) dX11_whoLikes_36 ?_
      refine jr_istore_n (pc := 37) (lv' := [(2, vi (v2 ||| ((1 : Int32) <<< (v3 &&& 31)))), (0, vr 11 0), (1, vi v1), (3, vi v3)]) dX11_whoLikes_37 rfl (by decide) rfl ?_
      refine jr_iinc (pc := 38) (lv' := [(3, vi (v3 + 1)), (2, vi (v2 ||| ((1 : Int32) <<< (v3 &&& 31)))), (0, vr 11 0), (1, vi v1)]) (q := 3) dX11_whoLikes_38 rfl (by rfl) (by decide) rfl ?_
      refine jr_goto (pc := 41) (tgt := 4) dX11_whoLikes_41 (by decide) ?_
      exact jr_sub [2, 3, 1, 0] rfl h
theorem dX11_marginBy_0 : decode cX11_marginBy 0 = .ok (.aload_n 0, 1) := by decide +kernel
theorem dX11_marginBy_1 : decode cX11_marginBy 1 = .ok (.iload_n 1, 1) := by decide +kernel
theorem dX11_marginBy_2 : decode cX11_marginBy 2 = .ok (.invokevirtual 199, 3) := by decide +kernel
theorem dX11_marginBy_5 : decode cX11_marginBy 5 = .ok (.istore_n 3, 1) := by decide +kernel
theorem dX11_marginBy_6 : decode cX11_marginBy 6 = .ok (.aload_n 0, 1) := by decide +kernel
theorem dX11_marginBy_7 : decode cX11_marginBy 7 = .ok (.iload_n 2, 1) := by decide +kernel
theorem dX11_marginBy_8 : decode cX11_marginBy 8 = .ok (.iload_n 3, 1) := by decide +kernel
theorem dX11_marginBy_9 : decode cX11_marginBy 9 = .ok (.iand, 1) := by decide +kernel
theorem dX11_marginBy_10 : decode cX11_marginBy 10 = .ok (.invokevirtual 202, 3) := by decide +kernel
theorem dX11_marginBy_13 : decode cX11_marginBy 13 = .ok (.aload_n 0, 1) := by decide +kernel
theorem dX11_marginBy_14 : decode cX11_marginBy 14 = .ok (.iload_n 2, 1) := by decide +kernel
theorem dX11_marginBy_15 : decode cX11_marginBy 15 = .ok (.iload_n 3, 1) := by decide +kernel
theorem dX11_marginBy_16 : decode cX11_marginBy 16 = .ok (.iconst (-1), 1) := by decide +kernel
theorem dX11_marginBy_17 : decode cX11_marginBy 17 = .ok (.ixor, 1) := by decide +kernel
theorem dX11_marginBy_18 : decode cX11_marginBy 18 = .ok (.iand, 1) := by decide +kernel
theorem dX11_marginBy_19 : decode cX11_marginBy 19 = .ok (.invokevirtual 202, 3) := by decide +kernel
theorem dX11_marginBy_22 : decode cX11_marginBy 22 = .ok (.isub, 1) := by decide +kernel
theorem dX11_marginBy_23 : decode cX11_marginBy 23 = .ok (.ireturn, 1) := by decide +kernel
set_option maxHeartbeats 4000000 in
set_option maxRecDepth 20000 in
theorem en_X11_marginBy {a1 : Int32} {a2 : Int32} {M : jw_Mem} {Q : Int32 → jw_Mem → Prop}  (h : (jw_M 1 mX11_whoLikes [vr 11 0, vi a1] M (fun x1 M2 => (jw_M 1 mX11_votesOf [vr 11 0, vi (a2 &&& x1)] M2 (fun x3 M4 => (jw_M 1 mX11_votesOf [vr 11 0, vi (a2 &&& (x1 ^^^ (-1)))] M4 (fun x5 M6 => Q (x3 - x5) M6))))))) : jw_M 2 mX11_marginBy [vr 11 0, vi a1, vi a2] M Q := by
  refine jw_M.of (by decide) (Nat.le_of_ble_eq_true rfl) ?_
  show jw_J 2 mX11_marginBy 0 [(0, vr 11 0), (1, vi a1), (2, vi a2)] [] M Q
  refine jr_aload_n (pc := 0) dX11_marginBy_0 rfl 0 rfl ?_
  refine jr_iload_n (pc := 1) dX11_marginBy_1 rfl 1 rfl ?_
  refine jr_callV (pc := 2) (d' := 1) (mt' := mX11_whoLikes) (k := 11) (n := 0) (As := [vi a1]) (st := []) fc_X11_199 (by decide) (by decide) (Nat.le_of_ble_eq_true rfl) rfl dX11_marginBy_2 (jw_M.mono h (fun x1 M2 h => ?_))
  show jw_J 2 mX11_marginBy 5 [(0, vr 11 0), (1, vi a1), (2, vi a2)] [vi x1] M2 Q
  refine jr_istore_n (pc := 5) (lv' := [(3, vi x1), (0, vr 11 0), (1, vi a1), (2, vi a2)]) dX11_marginBy_5 rfl (by decide) rfl ?_
  refine jr_aload_n (pc := 6) dX11_marginBy_6 rfl 1 rfl ?_
  refine jr_iload_n (pc := 7) dX11_marginBy_7 rfl 3 rfl ?_
  refine jr_iload_n (pc := 8) dX11_marginBy_8 rfl 0 rfl ?_
  refine jr_iand (pc := 9) dX11_marginBy_9 ?_
  refine jr_callV (pc := 10) (d' := 1) (mt' := mX11_votesOf) (k := 11) (n := 0) (As := [vi (a2 &&& x1)]) (st := []) fc_X11_202 (by decide) (by decide) (Nat.le_of_ble_eq_true rfl) rfl dX11_marginBy_10 (jw_M.mono h (fun x3 M4 h => ?_))
  show jw_J 2 mX11_marginBy 13 [(3, vi x1), (0, vr 11 0), (1, vi a1), (2, vi a2)] [vi x3] M4 Q
  refine jr_aload_n (pc := 13) dX11_marginBy_13 rfl 1 rfl ?_
  refine jr_iload_n (pc := 14) dX11_marginBy_14 rfl 3 rfl ?_
  refine jr_iload_n (pc := 15) dX11_marginBy_15 rfl 0 rfl ?_
  refine jr_iconst (pc := 16) (v := (-1)) dX11_marginBy_16 (by decide) ?_
  refine jr_ixor (pc := 17) dX11_marginBy_17 ?_
  refine jr_iand (pc := 18) dX11_marginBy_18 ?_
  refine jr_callV (pc := 19) (d' := 1) (mt' := mX11_votesOf) (k := 11) (n := 0) (As := [vi (a2 &&& (x1 ^^^ (-1)))]) (st := [vi x3]) fc_X11_202 (by decide) (by decide) (Nat.le_of_ble_eq_true rfl) rfl dX11_marginBy_19 (jw_M.mono h (fun x5 M6 h => ?_))
  show jw_J 2 mX11_marginBy 22 [(3, vi x1), (0, vr 11 0), (1, vi a1), (2, vi a2)] [vi x5, vi x3] M6 Q
  refine jr_isub (pc := 22) dX11_marginBy_22 ?_
  exact jr_iret (pc := 23) rfl dX11_marginBy_23 h
theorem dX11_marginOf_0 : decode cX11_marginOf 0 = .ok (.aload_n 0, 1) := by decide +kernel
theorem dX11_marginOf_1 : decode cX11_marginOf 1 = .ok (.iload_n 1, 1) := by decide +kernel
theorem dX11_marginOf_2 : decode cX11_marginOf 2 = .ok (.aload_n 0, 1) := by decide +kernel
theorem dX11_marginOf_3 : decode cX11_marginOf 3 = .ok (.aload_n 0, 1) := by decide +kernel
theorem dX11_marginOf_4 : decode cX11_marginOf 4 = .ok (.getfield 31, 3) := by decide +kernel
theorem dX11_marginOf_7 : decode cX11_marginOf 7 = .ok (.iload_n 1, 1) := by decide +kernel
theorem dX11_marginOf_8 : decode cX11_marginOf 8 = .ok (.iaload, 1) := by decide +kernel
theorem dX11_marginOf_9 : decode cX11_marginOf 9 = .ok (.invokevirtual 205, 3) := by decide +kernel
theorem dX11_marginOf_12 : decode cX11_marginOf 12 = .ok (.invokevirtual 208, 3) := by decide +kernel
theorem dX11_marginOf_15 : decode cX11_marginOf 15 = .ok (.ireturn, 1) := by decide +kernel
set_option maxHeartbeats 4000000 in
set_option maxRecDepth 20000 in
theorem en_X11_marginOf {a1 : Int32} {M : jw_Mem} {Q : Int32 → jw_Mem → Prop}  (h : (vp_in a1 33 ∧ (jw_M 1 mX11_walkersUnder [vr 11 0, vi (M 43 0 a1.toNatClampNeg)] M (fun x1 M2 => (jw_M 2 mX11_marginBy [vr 11 0, vi a1, vi x1] M2 (fun x3 M4 => Q x3 M4)))))) : jw_M 3 mX11_marginOf [vr 11 0, vi a1] M Q := by
  refine jw_M.of (by decide) (Nat.le_of_ble_eq_true rfl) ?_
  show jw_J 3 mX11_marginOf 0 [(0, vr 11 0), (1, vi a1)] [] M Q
  refine jr_aload_n (pc := 0) dX11_marginOf_0 rfl 0 rfl ?_
  refine jr_iload_n (pc := 1) dX11_marginOf_1 rfl 1 rfl ?_
  refine jr_aload_n (pc := 2) dX11_marginOf_2 rfl 0 rfl ?_
  refine jr_aload_n (pc := 3) dX11_marginOf_3 rfl 0 rfl ?_
  refine jr_get (pc := 4) (v := vr 43 0) fg_X11_31 (by decide) rfl dX11_marginOf_4 ?_
  refine jr_iload_n (pc := 7) dX11_marginOf_7 rfl 1 rfl ?_
  refine jr_iald (pc := 8) ⟨rfl, (by decide)⟩ h.1 dX11_marginOf_8 ?_
  replace h := h.2
  refine jr_callV (pc := 9) (d' := 1) (mt' := mX11_walkersUnder) (k := 11) (n := 0) (As := [vi (M 43 0 a1.toNatClampNeg)]) (st := [vi a1, vr 11 0]) fc_X11_205 (by decide) (by decide) (Nat.le_of_ble_eq_true rfl) rfl dX11_marginOf_9 (jw_M.mono h (fun x1 M2 h => ?_))
  show jw_J 3 mX11_marginOf 12 [(0, vr 11 0), (1, vi a1)] [vi x1, vi a1, vr 11 0] M2 Q
  refine jr_callV (pc := 12) (d' := 2) (mt' := mX11_marginBy) (k := 11) (n := 0) (As := [vi a1, vi x1]) (st := []) fc_X11_208 (by decide) (by decide) (Nat.le_of_ble_eq_true rfl) rfl dX11_marginOf_12 (jw_M.mono h (fun x3 M4 h => ?_))
  show jw_J 3 mX11_marginOf 15 [(0, vr 11 0), (1, vi a1)] [vi x3] M4 Q
  exact jr_iret (pc := 15) rfl dX11_marginOf_15 h
theorem dX11_standingOnes_0 : decode cX11_standingOnes 0 = .ok (.iconst 0, 1) := by decide +kernel
theorem dX11_standingOnes_1 : decode cX11_standingOnes 1 = .ok (.istore_n 1, 1) := by decide +kernel
theorem dX11_standingOnes_2 : decode cX11_standingOnes 2 = .ok (.iconst 0, 1) := by decide +kernel
theorem dX11_standingOnes_3 : decode cX11_standingOnes 3 = .ok (.istore_n 2, 1) := by decide +kernel
theorem dX11_standingOnes_4 : decode cX11_standingOnes 4 = .ok (.iload_n 2, 1) := by decide +kernel
theorem dX11_standingOnes_5 : decode cX11_standingOnes 5 = .ok (.aload_n 0, 1) := by decide +kernel
theorem dX11_standingOnes_6 : decode cX11_standingOnes 6 = .ok (.getfield 103, 3) := by decide +kernel
theorem dX11_standingOnes_9 : decode cX11_standingOnes 9 = .ok (.if_icmp .ge 27, 3) := by decide +kernel
theorem dX11_standingOnes_12 : decode cX11_standingOnes 12 = .ok (.iload_n 1, 1) := by decide +kernel
theorem dX11_standingOnes_13 : decode cX11_standingOnes 13 = .ok (.aload_n 0, 1) := by decide +kernel
theorem dX11_standingOnes_14 : decode cX11_standingOnes 14 = .ok (.iload_n 2, 1) := by decide +kernel
theorem dX11_standingOnes_15 : decode cX11_standingOnes 15 = .ok (.invokevirtual 211, 3) := by decide +kernel
theorem dX11_standingOnes_18 : decode cX11_standingOnes 18 = .ok (.ifCond .eq 9, 3) := by decide +kernel
theorem dX11_standingOnes_21 : decode cX11_standingOnes 21 = .ok (.iconst 1, 1) := by decide +kernel
theorem dX11_standingOnes_22 : decode cX11_standingOnes 22 = .ok (.iload_n 2, 1) := by decide +kernel
theorem dX11_standingOnes_23 : decode cX11_standingOnes 23 = .ok (.ishl, 1) := by decide +kernel
theorem dX11_standingOnes_24 : decode cX11_standingOnes 24 = .ok (.goto 4, 3) := by decide +kernel
theorem dX11_standingOnes_27 : decode cX11_standingOnes 27 = .ok (.iconst 0, 1) := by decide +kernel
theorem dX11_standingOnes_28 : decode cX11_standingOnes 28 = .ok (.ior, 1) := by decide +kernel
theorem dX11_standingOnes_29 : decode cX11_standingOnes 29 = .ok (.istore_n 1, 1) := by decide +kernel
theorem dX11_standingOnes_30 : decode cX11_standingOnes 30 = .ok (.iinc 2 1, 3) := by decide +kernel
theorem dX11_standingOnes_33 : decode cX11_standingOnes 33 = .ok (.goto (-29), 3) := by decide +kernel
theorem dX11_standingOnes_36 : decode cX11_standingOnes 36 = .ok (.iload_n 1, 1) := by decide +kernel
theorem dX11_standingOnes_37 : decode cX11_standingOnes 37 = .ok (.ireturn, 1) := by decide +kernel
set_option maxHeartbeats 4000000 in
set_option maxRecDepth 20000 in
theorem en_X11_standingOnes {M : jw_Mem} {Q : Int32 → jw_Mem → Prop}  (h : jw_J 1 mX11_standingOnes 4 [(0, vr 11 0), (1, vi 0), (2, vi 0)] [] M Q) : jw_M 1 mX11_standingOnes [vr 11 0] M Q := by
  refine jw_M.of (by decide) (Nat.le_of_ble_eq_true rfl) ?_
  show jw_J 1 mX11_standingOnes 0 [(0, vr 11 0)] [] M Q
  refine jr_iconst (pc := 0) (v := 0) dX11_standingOnes_0 (by decide) ?_
  refine jr_istore_n (pc := 1) (lv' := [(1, vi 0), (0, vr 11 0)]) dX11_standingOnes_1 rfl (by decide) rfl ?_
  refine jr_iconst (pc := 2) (v := 0) dX11_standingOnes_2 (by decide) ?_
  refine jr_istore_n (pc := 3) (lv' := [(2, vi 0), (1, vi 0), (0, vr 11 0)]) dX11_standingOnes_3 rfl (by decide) rfl ?_
  exact jr_sub [2, 1, 0] rfl h
set_option maxHeartbeats 4000000 in
set_option maxRecDepth 20000 in
theorem bk_X11_standingOnes_4 {v1 : Int32} {v2 : Int32} {M : jw_Mem} {Q : Int32 → jw_Mem → Prop}  (h : (((M 11 0 3) ≤ v2 → Q v1 M) ∧ (¬ (M 11 0 3) ≤ v2 → (jw_M 0 mX11_stands [vr 11 0, vi v2] M (fun x1 M2 => ((x1 = 0 → jw_J 1 mX11_standingOnes 4 [(0, vr 11 0), (1, vi (v1 ||| 0)), (2, vi (v2 + 1))] [] M2 Q) ∧ (¬ x1 = 0 → jw_J 1 mX11_standingOnes 4 [(0, vr 11 0), (1, vi (v1 ||| ((1 : Int32) <<< (v2 &&& 31)))), (2, vi (v2 + 1))] [] M2 Q))))))) : jw_J 1 mX11_standingOnes 4 [(0, vr 11 0), (1, vi v1), (2, vi v2)] [] M Q := by
  refine jr_iload_n (pc := 4) dX11_standingOnes_4 rfl 2 rfl ?_
  refine jr_aload_n (pc := 5) dX11_standingOnes_5 rfl 0 rfl ?_
  refine jr_get (pc := 6) (v := vi (M 11 0 3)) fg_X11_103 (by decide) rfl dX11_standingOnes_6 ?_
  refine jr_icmp_ge (pc := 9) (tgt := 36) dX11_standingOnes_9 (by decide) (fun c => ?_) (fun c => ?_)
  · replace h := h.1 c
    refine jr_iload_n (pc := 36) dX11_standingOnes_36 rfl 1 rfl ?_
    exact jr_iret (pc := 37) rfl dX11_standingOnes_37 h
  · replace h := h.2 c
    refine jr_iload_n (pc := 12) dX11_standingOnes_12 rfl 1 rfl ?_
    refine jr_aload_n (pc := 13) dX11_standingOnes_13 rfl 0 rfl ?_
    refine jr_iload_n (pc := 14) dX11_standingOnes_14 rfl 2 rfl ?_
    refine jr_callV (pc := 15) (d' := 0) (mt' := mX11_stands) (k := 11) (n := 0) (As := [vi v2]) (st := [vi v1]) fc_X11_211 (by decide) (by decide) (Nat.le_of_ble_eq_true rfl) rfl dX11_standingOnes_15 (jw_M.mono h (fun x1 M2 h => ?_))
    show jw_J 1 mX11_standingOnes 18 [(0, vr 11 0), (1, vi v1), (2, vi v2)] [vi x1, vi v1] M2 Q
    refine jr_if_eq (pc := 18) (tgt := 27) dX11_standingOnes_18 (by decide) (fun c => ?_) (fun c => ?_)
    · replace h := h.1 c
      refine jr_iconst (pc := 27) (v := 0) dX11_standingOnes_27 (by decide) ?_
      refine jr_ior (pc := 28) dX11_standingOnes_28 ?_
      refine jr_istore_n (pc := 29) (lv' := [(1, vi (v1 ||| 0)), (0, vr 11 0), (2, vi v2)]) dX11_standingOnes_29 rfl (by decide) rfl ?_
      refine jr_iinc (pc := 30) (lv' := [(2, vi (v2 + 1)), (1, vi (v1 ||| 0)), (0, vr 11 0)]) (q := 2) dX11_standingOnes_30 rfl (by rfl) (by decide) rfl ?_
      refine jr_goto (pc := 33) (tgt := 4) dX11_standingOnes_33 (by decide) ?_
      exact jr_sub [2, 1, 0] rfl h
    · replace h := h.2 c
      refine jr_iconst (pc := 21) (v := 1) dX11_standingOnes_21 (by decide) ?_
      refine jr_iload_n (pc := 22) dX11_standingOnes_22 rfl 2 rfl ?_
      refine jr_ishl (pc := 23) dX11_standingOnes_23 ?_
      refine jr_goto (pc := 24) (tgt := 28) dX11_standingOnes_24 (by decide) ?_
      refine jr_ior (pc := 28) dX11_standingOnes_28 ?_
      refine jr_istore_n (pc := 29) (lv' := [(1, vi (v1 ||| ((1 : Int32) <<< (v2 &&& 31)))), (0, vr 11 0), (2, vi v2)]) dX11_standingOnes_29 rfl (by decide) rfl ?_
      refine jr_iinc (pc := 30) (lv' := [(2, vi (v2 + 1)), (1, vi (v1 ||| ((1 : Int32) <<< (v2 &&& 31)))), (0, vr 11 0)]) (q := 2) dX11_standingOnes_30 rfl (by rfl) (by decide) rfl ?_
      refine jr_goto (pc := 33) (tgt := 4) dX11_standingOnes_33 (by decide) ?_
      exact jr_sub [2, 1, 0] rfl h
theorem dX11_fallingOnes_0 : decode cX11_fallingOnes 0 = .ok (.iconst 0, 1) := by decide +kernel
theorem dX11_fallingOnes_1 : decode cX11_fallingOnes 1 = .ok (.istore_n 1, 1) := by decide +kernel
theorem dX11_fallingOnes_2 : decode cX11_fallingOnes 2 = .ok (.iconst 0, 1) := by decide +kernel
theorem dX11_fallingOnes_3 : decode cX11_fallingOnes 3 = .ok (.istore_n 2, 1) := by decide +kernel
theorem dX11_fallingOnes_4 : decode cX11_fallingOnes 4 = .ok (.iload_n 2, 1) := by decide +kernel
theorem dX11_fallingOnes_5 : decode cX11_fallingOnes 5 = .ok (.aload_n 0, 1) := by decide +kernel
theorem dX11_fallingOnes_6 : decode cX11_fallingOnes 6 = .ok (.getfield 103, 3) := by decide +kernel
theorem dX11_fallingOnes_9 : decode cX11_fallingOnes 9 = .ok (.if_icmp .ge 35, 3) := by decide +kernel
theorem dX11_fallingOnes_12 : decode cX11_fallingOnes 12 = .ok (.iload_n 1, 1) := by decide +kernel
theorem dX11_fallingOnes_13 : decode cX11_fallingOnes 13 = .ok (.aload_n 0, 1) := by decide +kernel
theorem dX11_fallingOnes_14 : decode cX11_fallingOnes 14 = .ok (.iload_n 2, 1) := by decide +kernel
theorem dX11_fallingOnes_15 : decode cX11_fallingOnes 15 = .ok (.invokevirtual 211, 3) := by decide +kernel
theorem dX11_fallingOnes_18 : decode cX11_fallingOnes 18 = .ok (.ifCond .eq 17, 3) := by decide +kernel
theorem dX11_fallingOnes_21 : decode cX11_fallingOnes 21 = .ok (.aload_n 0, 1) := by decide +kernel
theorem dX11_fallingOnes_22 : decode cX11_fallingOnes 22 = .ok (.iload_n 2, 1) := by decide +kernel
theorem dX11_fallingOnes_23 : decode cX11_fallingOnes 23 = .ok (.invokevirtual 214, 3) := by decide +kernel
theorem dX11_fallingOnes_26 : decode cX11_fallingOnes 26 = .ok (.ifCond .ge 9, 3) := by decide +kernel
theorem dX11_fallingOnes_29 : decode cX11_fallingOnes 29 = .ok (.iconst 1, 1) := by decide +kernel
theorem dX11_fallingOnes_30 : decode cX11_fallingOnes 30 = .ok (.iload_n 2, 1) := by decide +kernel
theorem dX11_fallingOnes_31 : decode cX11_fallingOnes 31 = .ok (.ishl, 1) := by decide +kernel
theorem dX11_fallingOnes_32 : decode cX11_fallingOnes 32 = .ok (.goto 4, 3) := by decide +kernel
theorem dX11_fallingOnes_35 : decode cX11_fallingOnes 35 = .ok (.iconst 0, 1) := by decide +kernel
theorem dX11_fallingOnes_36 : decode cX11_fallingOnes 36 = .ok (.ior, 1) := by decide +kernel
theorem dX11_fallingOnes_37 : decode cX11_fallingOnes 37 = .ok (.istore_n 1, 1) := by decide +kernel
theorem dX11_fallingOnes_38 : decode cX11_fallingOnes 38 = .ok (.iinc 2 1, 3) := by decide +kernel
theorem dX11_fallingOnes_41 : decode cX11_fallingOnes 41 = .ok (.goto (-37), 3) := by decide +kernel
theorem dX11_fallingOnes_44 : decode cX11_fallingOnes 44 = .ok (.iload_n 1, 1) := by decide +kernel
theorem dX11_fallingOnes_45 : decode cX11_fallingOnes 45 = .ok (.ireturn, 1) := by decide +kernel
set_option maxHeartbeats 4000000 in
set_option maxRecDepth 20000 in
theorem en_X11_fallingOnes {M : jw_Mem} {Q : Int32 → jw_Mem → Prop}  (h : jw_J 4 mX11_fallingOnes 4 [(0, vr 11 0), (1, vi 0), (2, vi 0)] [] M Q) : jw_M 4 mX11_fallingOnes [vr 11 0] M Q := by
  refine jw_M.of (by decide) (Nat.le_of_ble_eq_true rfl) ?_
  show jw_J 4 mX11_fallingOnes 0 [(0, vr 11 0)] [] M Q
  refine jr_iconst (pc := 0) (v := 0) dX11_fallingOnes_0 (by decide) ?_
  refine jr_istore_n (pc := 1) (lv' := [(1, vi 0), (0, vr 11 0)]) dX11_fallingOnes_1 rfl (by decide) rfl ?_
  refine jr_iconst (pc := 2) (v := 0) dX11_fallingOnes_2 (by decide) ?_
  refine jr_istore_n (pc := 3) (lv' := [(2, vi 0), (1, vi 0), (0, vr 11 0)]) dX11_fallingOnes_3 rfl (by decide) rfl ?_
  exact jr_sub [2, 1, 0] rfl h
set_option maxHeartbeats 4000000 in
set_option maxRecDepth 20000 in
theorem bk_X11_fallingOnes_4 {v1 : Int32} {v2 : Int32} {M : jw_Mem} {Q : Int32 → jw_Mem → Prop}  (h : (((M 11 0 3) ≤ v2 → Q v1 M) ∧ (¬ (M 11 0 3) ≤ v2 → (jw_M 0 mX11_stands [vr 11 0, vi v2] M (fun x1 M2 => ((x1 = 0 → jw_J 4 mX11_fallingOnes 4 [(0, vr 11 0), (1, vi (v1 ||| 0)), (2, vi (v2 + 1))] [] M2 Q) ∧ (¬ x1 = 0 → (jw_M 3 mX11_marginOf [vr 11 0, vi v2] M2 (fun x3 M4 => ((0 ≤ x3 → jw_J 4 mX11_fallingOnes 4 [(0, vr 11 0), (1, vi (v1 ||| 0)), (2, vi (v2 + 1))] [] M4 Q) ∧ (¬ 0 ≤ x3 → jw_J 4 mX11_fallingOnes 4 [(0, vr 11 0), (1, vi (v1 ||| ((1 : Int32) <<< (v2 &&& 31)))), (2, vi (v2 + 1))] [] M4 Q))))))))))) : jw_J 4 mX11_fallingOnes 4 [(0, vr 11 0), (1, vi v1), (2, vi v2)] [] M Q := by
  refine jr_iload_n (pc := 4) dX11_fallingOnes_4 rfl 2 rfl ?_
  refine jr_aload_n (pc := 5) dX11_fallingOnes_5 rfl 0 rfl ?_
  refine jr_get (pc := 6) (v := vi (M 11 0 3)) fg_X11_103 (by decide) rfl dX11_fallingOnes_6 ?_
  refine jr_icmp_ge (pc := 9) (tgt := 44) dX11_fallingOnes_9 (by decide) (fun c => ?_) (fun c => ?_)
  · replace h := h.1 c
    refine jr_iload_n (pc := 44) dX11_fallingOnes_44 rfl 1 rfl ?_
    exact jr_iret (pc := 45) rfl dX11_fallingOnes_45 h
  · replace h := h.2 c
    refine jr_iload_n (pc := 12) dX11_fallingOnes_12 rfl 1 rfl ?_
    refine jr_aload_n (pc := 13) dX11_fallingOnes_13 rfl 0 rfl ?_
    refine jr_iload_n (pc := 14) dX11_fallingOnes_14 rfl 2 rfl ?_
    refine jr_callV (pc := 15) (d' := 0) (mt' := mX11_stands) (k := 11) (n := 0) (As := [vi v2]) (st := [vi v1]) fc_X11_211 (by decide) (by decide) (Nat.le_of_ble_eq_true rfl) rfl dX11_fallingOnes_15 (jw_M.mono h (fun x1 M2 h => ?_))
    show jw_J 4 mX11_fallingOnes 18 [(0, vr 11 0), (1, vi v1), (2, vi v2)] [vi x1, vi v1] M2 Q
    refine jr_if_eq (pc := 18) (tgt := 35) dX11_fallingOnes_18 (by decide) (fun c => ?_) (fun c => ?_)
    · replace h := h.1 c
      refine jr_iconst (pc := 35) (v := 0) dX11_fallingOnes_35 (by decide) ?_
      refine jr_ior (pc := 36) dX11_fallingOnes_36 ?_
      refine jr_istore_n (pc := 37) (lv' := [(1, vi (v1 ||| 0)), (0, vr 11 0), (2, vi v2)]) dX11_fallingOnes_37 rfl (by decide) rfl ?_
      refine jr_iinc (pc := 38) (lv' := [(2, vi (v2 + 1)), (1, vi (v1 ||| 0)), (0, vr 11 0)]) (q := 2) dX11_fallingOnes_38 rfl (by rfl) (by decide) rfl ?_
      refine jr_goto (pc := 41) (tgt := 4) dX11_fallingOnes_41 (by decide) ?_
      exact jr_sub [2, 1, 0] rfl h
    · replace h := h.2 c
      refine jr_aload_n (pc := 21) dX11_fallingOnes_21 rfl 0 rfl ?_
      refine jr_iload_n (pc := 22) dX11_fallingOnes_22 rfl 2 rfl ?_
      refine jr_callV (pc := 23) (d' := 3) (mt' := mX11_marginOf) (k := 11) (n := 0) (As := [vi v2]) (st := [vi v1]) fc_X11_214 (by decide) (by decide) (Nat.le_of_ble_eq_true rfl) rfl dX11_fallingOnes_23 (jw_M.mono h (fun x3 M4 h => ?_))
      show jw_J 4 mX11_fallingOnes 26 [(0, vr 11 0), (1, vi v1), (2, vi v2)] [vi x3, vi v1] M4 Q
      refine jr_if_ge (pc := 26) (tgt := 35) dX11_fallingOnes_26 (by decide) (fun c => ?_) (fun c => ?_)
      · replace h := h.1 c
        refine jr_iconst (pc := 35) (v := 0) dX11_fallingOnes_35 (by decide) ?_
        refine jr_ior (pc := 36) dX11_fallingOnes_36 ?_
        refine jr_istore_n (pc := 37) (lv' := [(1, vi (v1 ||| 0)), (0, vr 11 0), (2, vi v2)]) dX11_fallingOnes_37 rfl (by decide) rfl ?_
        refine jr_iinc (pc := 38) (lv' := [(2, vi (v2 + 1)), (1, vi (v1 ||| 0)), (0, vr 11 0)]) (q := 2) dX11_fallingOnes_38 rfl (by rfl) (by decide) rfl ?_
        refine jr_goto (pc := 41) (tgt := 4) dX11_fallingOnes_41 (by decide) ?_
        exact jr_sub [2, 1, 0] rfl h
      · replace h := h.2 c
        refine jr_iconst (pc := 29) (v := 1) dX11_fallingOnes_29 (by decide) ?_
        refine jr_iload_n (pc := 30) dX11_fallingOnes_30 rfl 2 rfl ?_
        refine jr_ishl (pc := 31) dX11_fallingOnes_31 ?_
        refine jr_goto (pc := 32) (tgt := 36) dX11_fallingOnes_32 (by decide) ?_
        refine jr_ior (pc := 36) dX11_fallingOnes_36 ?_
        refine jr_istore_n (pc := 37) (lv' := [(1, vi (v1 ||| ((1 : Int32) <<< (v2 &&& 31)))), (0, vr 11 0), (2, vi v2)]) dX11_fallingOnes_37 rfl (by decide) rfl ?_
        refine jr_iinc (pc := 38) (lv' := [(2, vi (v2 + 1)), (1, vi (v1 ||| ((1 : Int32) <<< (v2 &&& 31)))), (0, vr 11 0)]) (q := 2) dX11_fallingOnes_38 rfl (by rfl) (by decide) rfl ?_
        refine jr_goto (pc := 41) (tgt := 4) dX11_fallingOnes_41 (by decide) ?_
        exact jr_sub [2, 1, 0] rfl h
theorem dX11_waitingOnes_0 : decode cX11_waitingOnes 0 = .ok (.iconst 0, 1) := by decide +kernel
theorem dX11_waitingOnes_1 : decode cX11_waitingOnes 1 = .ok (.istore_n 1, 1) := by decide +kernel
theorem dX11_waitingOnes_2 : decode cX11_waitingOnes 2 = .ok (.iconst 0, 1) := by decide +kernel
theorem dX11_waitingOnes_3 : decode cX11_waitingOnes 3 = .ok (.istore_n 2, 1) := by decide +kernel
theorem dX11_waitingOnes_4 : decode cX11_waitingOnes 4 = .ok (.iload_n 2, 1) := by decide +kernel
theorem dX11_waitingOnes_5 : decode cX11_waitingOnes 5 = .ok (.aload_n 0, 1) := by decide +kernel
theorem dX11_waitingOnes_6 : decode cX11_waitingOnes 6 = .ok (.getfield 96, 3) := by decide +kernel
theorem dX11_waitingOnes_9 : decode cX11_waitingOnes 9 = .ok (.if_icmp .ge 27, 3) := by decide +kernel
theorem dX11_waitingOnes_12 : decode cX11_waitingOnes 12 = .ok (.iload_n 1, 1) := by decide +kernel
theorem dX11_waitingOnes_13 : decode cX11_waitingOnes 13 = .ok (.aload_n 0, 1) := by decide +kernel
theorem dX11_waitingOnes_14 : decode cX11_waitingOnes 14 = .ok (.iload_n 2, 1) := by decide +kernel
theorem dX11_waitingOnes_15 : decode cX11_waitingOnes 15 = .ok (.invokevirtual 217, 3) := by decide +kernel
theorem dX11_waitingOnes_18 : decode cX11_waitingOnes 18 = .ok (.ifCond .ge 9, 3) := by decide +kernel
theorem dX11_waitingOnes_21 : decode cX11_waitingOnes 21 = .ok (.iconst 1, 1) := by decide +kernel
theorem dX11_waitingOnes_22 : decode cX11_waitingOnes 22 = .ok (.iload_n 2, 1) := by decide +kernel
theorem dX11_waitingOnes_23 : decode cX11_waitingOnes 23 = .ok (.ishl, 1) := by decide +kernel
theorem dX11_waitingOnes_24 : decode cX11_waitingOnes 24 = .ok (.goto 4, 3) := by decide +kernel
theorem dX11_waitingOnes_27 : decode cX11_waitingOnes 27 = .ok (.iconst 0, 1) := by decide +kernel
theorem dX11_waitingOnes_28 : decode cX11_waitingOnes 28 = .ok (.ior, 1) := by decide +kernel
theorem dX11_waitingOnes_29 : decode cX11_waitingOnes 29 = .ok (.istore_n 1, 1) := by decide +kernel
theorem dX11_waitingOnes_30 : decode cX11_waitingOnes 30 = .ok (.iinc 2 1, 3) := by decide +kernel
theorem dX11_waitingOnes_33 : decode cX11_waitingOnes 33 = .ok (.goto (-29), 3) := by decide +kernel
theorem dX11_waitingOnes_36 : decode cX11_waitingOnes 36 = .ok (.iload_n 1, 1) := by decide +kernel
theorem dX11_waitingOnes_37 : decode cX11_waitingOnes 37 = .ok (.ireturn, 1) := by decide +kernel
set_option maxHeartbeats 4000000 in
set_option maxRecDepth 20000 in
theorem en_X11_waitingOnes {M : jw_Mem} {Q : Int32 → jw_Mem → Prop}  (h : jw_J 1 mX11_waitingOnes 4 [(0, vr 11 0), (1, vi 0), (2, vi 0)] [] M Q) : jw_M 1 mX11_waitingOnes [vr 11 0] M Q := by
  refine jw_M.of (by decide) (Nat.le_of_ble_eq_true rfl) ?_
  show jw_J 1 mX11_waitingOnes 0 [(0, vr 11 0)] [] M Q
  refine jr_iconst (pc := 0) (v := 0) dX11_waitingOnes_0 (by decide) ?_
  refine jr_istore_n (pc := 1) (lv' := [(1, vi 0), (0, vr 11 0)]) dX11_waitingOnes_1 rfl (by decide) rfl ?_
  refine jr_iconst (pc := 2) (v := 0) dX11_waitingOnes_2 (by decide) ?_
  refine jr_istore_n (pc := 3) (lv' := [(2, vi 0), (1, vi 0), (0, vr 11 0)]) dX11_waitingOnes_3 rfl (by decide) rfl ?_
  exact jr_sub [2, 1, 0] rfl h
set_option maxHeartbeats 4000000 in
set_option maxRecDepth 20000 in
theorem bk_X11_waitingOnes_4 {v1 : Int32} {v2 : Int32} {M : jw_Mem} {Q : Int32 → jw_Mem → Prop}  (h : (((M 11 0 1) ≤ v2 → Q v1 M) ∧ (¬ (M 11 0 1) ≤ v2 → (jw_M 0 mX11_whoIsOn [vr 11 0, vi v2] M (fun x1 M2 => ((0 ≤ x1 → jw_J 1 mX11_waitingOnes 4 [(0, vr 11 0), (1, vi (v1 ||| 0)), (2, vi (v2 + 1))] [] M2 Q) ∧ (¬ 0 ≤ x1 → jw_J 1 mX11_waitingOnes 4 [(0, vr 11 0), (1, vi (v1 ||| ((1 : Int32) <<< (v2 &&& 31)))), (2, vi (v2 + 1))] [] M2 Q))))))) : jw_J 1 mX11_waitingOnes 4 [(0, vr 11 0), (1, vi v1), (2, vi v2)] [] M Q := by
  refine jr_iload_n (pc := 4) dX11_waitingOnes_4 rfl 2 rfl ?_
  refine jr_aload_n (pc := 5) dX11_waitingOnes_5 rfl 0 rfl ?_
  refine jr_get (pc := 6) (v := vi (M 11 0 1)) fg_X11_96 (by decide) rfl dX11_waitingOnes_6 ?_
  refine jr_icmp_ge (pc := 9) (tgt := 36) dX11_waitingOnes_9 (by decide) (fun c => ?_) (fun c => ?_)
  · replace h := h.1 c
    refine jr_iload_n (pc := 36) dX11_waitingOnes_36 rfl 1 rfl ?_
    exact jr_iret (pc := 37) rfl dX11_waitingOnes_37 h
  · replace h := h.2 c
    refine jr_iload_n (pc := 12) dX11_waitingOnes_12 rfl 1 rfl ?_
    refine jr_aload_n (pc := 13) dX11_waitingOnes_13 rfl 0 rfl ?_
    refine jr_iload_n (pc := 14) dX11_waitingOnes_14 rfl 2 rfl ?_
    refine jr_callV (pc := 15) (d' := 0) (mt' := mX11_whoIsOn) (k := 11) (n := 0) (As := [vi v2]) (st := [vi v1]) fc_X11_217 (by decide) (by decide) (Nat.le_of_ble_eq_true rfl) rfl dX11_waitingOnes_15 (jw_M.mono h (fun x1 M2 h => ?_))
    show jw_J 1 mX11_waitingOnes 18 [(0, vr 11 0), (1, vi v1), (2, vi v2)] [vi x1, vi v1] M2 Q
    refine jr_if_ge (pc := 18) (tgt := 27) dX11_waitingOnes_18 (by decide) (fun c => ?_) (fun c => ?_)
    · replace h := h.1 c
      refine jr_iconst (pc := 27) (v := 0) dX11_waitingOnes_27 (by decide) ?_
      refine jr_ior (pc := 28) dX11_waitingOnes_28 ?_
      refine jr_istore_n (pc := 29) (lv' := [(1, vi (v1 ||| 0)), (0, vr 11 0), (2, vi v2)]) dX11_waitingOnes_29 rfl (by decide) rfl ?_
      refine jr_iinc (pc := 30) (lv' := [(2, vi (v2 + 1)), (1, vi (v1 ||| 0)), (0, vr 11 0)]) (q := 2) dX11_waitingOnes_30 rfl (by rfl) (by decide) rfl ?_
      refine jr_goto (pc := 33) (tgt := 4) dX11_waitingOnes_33 (by decide) ?_
      exact jr_sub [2, 1, 0] rfl h
    · replace h := h.2 c
      refine jr_iconst (pc := 21) (v := 1) dX11_waitingOnes_21 (by decide) ?_
      refine jr_iload_n (pc := 22) dX11_waitingOnes_22 rfl 2 rfl ?_
      refine jr_ishl (pc := 23) dX11_waitingOnes_23 ?_
      refine jr_goto (pc := 24) (tgt := 28) dX11_waitingOnes_24 (by decide) ?_
      refine jr_ior (pc := 28) dX11_waitingOnes_28 ?_
      refine jr_istore_n (pc := 29) (lv' := [(1, vi (v1 ||| ((1 : Int32) <<< (v2 &&& 31)))), (0, vr 11 0), (2, vi v2)]) dX11_waitingOnes_29 rfl (by decide) rfl ?_
      refine jr_iinc (pc := 30) (lv' := [(2, vi (v2 + 1)), (1, vi (v1 ||| ((1 : Int32) <<< (v2 &&& 31)))), (0, vr 11 0)]) (q := 2) dX11_waitingOnes_30 rfl (by rfl) (by decide) rfl ?_
      refine jr_goto (pc := 33) (tgt := 4) dX11_waitingOnes_33 (by decide) ?_
      exact jr_sub [2, 1, 0] rfl h
theorem dX11_isHad_0 : decode cX11_isHad 0 = .ok (.aload_n 0, 1) := by decide +kernel
theorem dX11_isHad_1 : decode cX11_isHad 1 = .ok (.iload_n 1, 1) := by decide +kernel
theorem dX11_isHad_2 : decode cX11_isHad 2 = .ok (.invokevirtual 199, 3) := by decide +kernel
theorem dX11_isHad_5 : decode cX11_isHad 5 = .ok (.istore_n 3, 1) := by decide +kernel
theorem dX11_isHad_6 : decode cX11_isHad 6 = .ok (.aload_n 0, 1) := by decide +kernel
theorem dX11_isHad_7 : decode cX11_isHad 7 = .ok (.iload_n 2, 1) := by decide +kernel
theorem dX11_isHad_8 : decode cX11_isHad 8 = .ok (.invokevirtual 199, 3) := by decide +kernel
theorem dX11_isHad_11 : decode cX11_isHad 11 = .ok (.istore 4, 2) := by decide +kernel
theorem dX11_isHad_13 : decode cX11_isHad 13 = .ok (.aload_n 0, 1) := by decide +kernel
theorem dX11_isHad_14 : decode cX11_isHad 14 = .ok (.iload_n 3, 1) := by decide +kernel
theorem dX11_isHad_15 : decode cX11_isHad 15 = .ok (.iload 4, 2) := by decide +kernel
theorem dX11_isHad_17 : decode cX11_isHad 17 = .ok (.iconst (-1), 1) := by decide +kernel
theorem dX11_isHad_18 : decode cX11_isHad 18 = .ok (.ixor, 1) := by decide +kernel
theorem dX11_isHad_19 : decode cX11_isHad 19 = .ok (.iand, 1) := by decide +kernel
theorem dX11_isHad_20 : decode cX11_isHad 20 = .ok (.invokevirtual 202, 3) := by decide +kernel
theorem dX11_isHad_23 : decode cX11_isHad 23 = .ok (.aload_n 0, 1) := by decide +kernel
theorem dX11_isHad_24 : decode cX11_isHad 24 = .ok (.iload 4, 2) := by decide +kernel
theorem dX11_isHad_26 : decode cX11_isHad 26 = .ok (.iload_n 3, 1) := by decide +kernel
theorem dX11_isHad_27 : decode cX11_isHad 27 = .ok (.iconst (-1), 1) := by decide +kernel
theorem dX11_isHad_28 : decode cX11_isHad 28 = .ok (.ixor, 1) := by decide +kernel
theorem dX11_isHad_29 : decode cX11_isHad 29 = .ok (.iand, 1) := by decide +kernel
theorem dX11_isHad_30 : decode cX11_isHad 30 = .ok (.invokevirtual 202, 3) := by decide +kernel
theorem dX11_isHad_33 : decode cX11_isHad 33 = .ok (.if_icmp .le 7, 3) := by decide +kernel
theorem dX11_isHad_36 : decode cX11_isHad 36 = .ok (.iconst 1, 1) := by decide +kernel
theorem dX11_isHad_37 : decode cX11_isHad 37 = .ok (.goto 4, 3) := by decide +kernel
theorem dX11_isHad_40 : decode cX11_isHad 40 = .ok (.iconst 0, 1) := by decide +kernel
theorem dX11_isHad_41 : decode cX11_isHad 41 = .ok (.ireturn, 1) := by decide +kernel
set_option maxHeartbeats 4000000 in
set_option maxRecDepth 20000 in
theorem en_X11_isHad {a1 : Int32} {a2 : Int32} {M : jw_Mem} {Q : Int32 → jw_Mem → Prop}  (h : (jw_M 1 mX11_whoLikes [vr 11 0, vi a1] M (fun x1 M2 => (jw_M 1 mX11_whoLikes [vr 11 0, vi a2] M2 (fun x3 M4 => (jw_M 1 mX11_votesOf [vr 11 0, vi (x1 &&& (x3 ^^^ (-1)))] M4 (fun x5 M6 => (jw_M 1 mX11_votesOf [vr 11 0, vi (x3 &&& (x1 ^^^ (-1)))] M6 (fun x7 M8 => ((x5 ≤ x7 → Q 0 M8) ∧ (¬ x5 ≤ x7 → Q 1 M8))))))))))) : jw_M 2 mX11_isHad [vr 11 0, vi a1, vi a2] M Q := by
  refine jw_M.of (by decide) (Nat.le_of_ble_eq_true rfl) ?_
  show jw_J 2 mX11_isHad 0 [(0, vr 11 0), (1, vi a1), (2, vi a2)] [] M Q
  refine jr_aload_n (pc := 0) dX11_isHad_0 rfl 0 rfl ?_
  refine jr_iload_n (pc := 1) dX11_isHad_1 rfl 1 rfl ?_
  refine jr_callV (pc := 2) (d' := 1) (mt' := mX11_whoLikes) (k := 11) (n := 0) (As := [vi a1]) (st := []) fc_X11_199 (by decide) (by decide) (Nat.le_of_ble_eq_true rfl) rfl dX11_isHad_2 (jw_M.mono h (fun x1 M2 h => ?_))
  show jw_J 2 mX11_isHad 5 [(0, vr 11 0), (1, vi a1), (2, vi a2)] [vi x1] M2 Q
  refine jr_istore_n (pc := 5) (lv' := [(3, vi x1), (0, vr 11 0), (1, vi a1), (2, vi a2)]) dX11_isHad_5 rfl (by decide) rfl ?_
  refine jr_aload_n (pc := 6) dX11_isHad_6 rfl 1 rfl ?_
  refine jr_iload_n (pc := 7) dX11_isHad_7 rfl 3 rfl ?_
  refine jr_callV (pc := 8) (d' := 1) (mt' := mX11_whoLikes) (k := 11) (n := 0) (As := [vi a2]) (st := []) fc_X11_199 (by decide) (by decide) (Nat.le_of_ble_eq_true rfl) rfl dX11_isHad_8 (jw_M.mono h (fun x3 M4 h => ?_))
  show jw_J 2 mX11_isHad 11 [(3, vi x1), (0, vr 11 0), (1, vi a1), (2, vi a2)] [vi x3] M4 Q
  refine jr_istore (pc := 11) (lv' := [(4, vi x3), (3, vi x1), (0, vr 11 0), (1, vi a1), (2, vi a2)]) dX11_isHad_11 (by decide) rfl ?_
  refine jr_aload_n (pc := 13) dX11_isHad_13 rfl 2 rfl ?_
  refine jr_iload_n (pc := 14) dX11_isHad_14 rfl 1 rfl ?_
  refine jr_iload (pc := 15) dX11_isHad_15 0 rfl ?_
  refine jr_iconst (pc := 17) (v := (-1)) dX11_isHad_17 (by decide) ?_
  refine jr_ixor (pc := 18) dX11_isHad_18 ?_
  refine jr_iand (pc := 19) dX11_isHad_19 ?_
  refine jr_callV (pc := 20) (d' := 1) (mt' := mX11_votesOf) (k := 11) (n := 0) (As := [vi (x1 &&& (x3 ^^^ (-1)))]) (st := []) fc_X11_202 (by decide) (by decide) (Nat.le_of_ble_eq_true rfl) rfl dX11_isHad_20 (jw_M.mono h (fun x5 M6 h => ?_))
  show jw_J 2 mX11_isHad 23 [(4, vi x3), (3, vi x1), (0, vr 11 0), (1, vi a1), (2, vi a2)] [vi x5] M6 Q
  refine jr_aload_n (pc := 23) dX11_isHad_23 rfl 2 rfl ?_
  refine jr_iload (pc := 24) dX11_isHad_24 0 rfl ?_
  refine jr_iload_n (pc := 26) dX11_isHad_26 rfl 1 rfl ?_
  refine jr_iconst (pc := 27) (v := (-1)) dX11_isHad_27 (by decide) ?_
  refine jr_ixor (pc := 28) dX11_isHad_28 ?_
  refine jr_iand (pc := 29) dX11_isHad_29 ?_
  refine jr_callV (pc := 30) (d' := 1) (mt' := mX11_votesOf) (k := 11) (n := 0) (As := [vi (x3 &&& (x1 ^^^ (-1)))]) (st := [vi x5]) fc_X11_202 (by decide) (by decide) (Nat.le_of_ble_eq_true rfl) rfl dX11_isHad_30 (jw_M.mono h (fun x7 M8 h => ?_))
  show jw_J 2 mX11_isHad 33 [(4, vi x3), (3, vi x1), (0, vr 11 0), (1, vi a1), (2, vi a2)] [vi x7, vi x5] M8 Q
  refine jr_icmp_le (pc := 33) (tgt := 40) dX11_isHad_33 (by decide) (fun c => ?_) (fun c => ?_)
  · replace h := h.1 c
    refine jr_iconst (pc := 40) (v := 0) dX11_isHad_40 (by decide) ?_
    exact jr_zret (pc := 41) rfl dX11_isHad_41 (Or.inl rfl) h
  · replace h := h.2 c
    refine jr_iconst (pc := 36) (v := 1) dX11_isHad_36 (by decide) ?_
    refine jr_goto (pc := 37) (tgt := 41) dX11_isHad_37 (by decide) ?_
    exact jr_zret (pc := 41) rfl dX11_isHad_41 (Or.inr rfl) h
theorem dX11_beloved_0 : decode cX11_beloved 0 = .ok (.iconst 0, 1) := by decide +kernel
theorem dX11_beloved_1 : decode cX11_beloved 1 = .ok (.istore_n 1, 1) := by decide +kernel
theorem dX11_beloved_2 : decode cX11_beloved 2 = .ok (.iload_n 1, 1) := by decide +kernel
theorem dX11_beloved_3 : decode cX11_beloved 3 = .ok (.aload_n 0, 1) := by decide +kernel
theorem dX11_beloved_4 : decode cX11_beloved 4 = .ok (.getfield 103, 3) := by decide +kernel
theorem dX11_beloved_7 : decode cX11_beloved 7 = .ok (.if_icmp .ge 57, 3) := by decide +kernel
theorem dX11_beloved_10 : decode cX11_beloved 10 = .ok (.iconst 1, 1) := by decide +kernel
theorem dX11_beloved_11 : decode cX11_beloved 11 = .ok (.istore_n 2, 1) := by decide +kernel
theorem dX11_beloved_12 : decode cX11_beloved 12 = .ok (.iconst 0, 1) := by decide +kernel
theorem dX11_beloved_13 : decode cX11_beloved 13 = .ok (.istore_n 3, 1) := by decide +kernel
theorem dX11_beloved_14 : decode cX11_beloved 14 = .ok (.iload_n 3, 1) := by decide +kernel
theorem dX11_beloved_15 : decode cX11_beloved 15 = .ok (.aload_n 0, 1) := by decide +kernel
theorem dX11_beloved_16 : decode cX11_beloved 16 = .ok (.getfield 103, 3) := by decide +kernel
theorem dX11_beloved_19 : decode cX11_beloved 19 = .ok (.if_icmp .ge 33, 3) := by decide +kernel
theorem dX11_beloved_22 : decode cX11_beloved 22 = .ok (.iload_n 2, 1) := by decide +kernel
theorem dX11_beloved_23 : decode cX11_beloved 23 = .ok (.ifCond .eq 21, 3) := by decide +kernel
theorem dX11_beloved_26 : decode cX11_beloved 26 = .ok (.iload_n 3, 1) := by decide +kernel
theorem dX11_beloved_27 : decode cX11_beloved 27 = .ok (.iload_n 1, 1) := by decide +kernel
theorem dX11_beloved_28 : decode cX11_beloved 28 = .ok (.if_icmp .eq 12, 3) := by decide +kernel
theorem dX11_beloved_31 : decode cX11_beloved 31 = .ok (.aload_n 0, 1) := by decide +kernel
theorem dX11_beloved_32 : decode cX11_beloved 32 = .ok (.iload_n 1, 1) := by decide +kernel
theorem dX11_beloved_33 : decode cX11_beloved 33 = .ok (.iload_n 3, 1) := by decide +kernel
theorem dX11_beloved_34 : decode cX11_beloved 34 = .ok (.invokevirtual 220, 3) := by decide +kernel
theorem dX11_beloved_37 : decode cX11_beloved 37 = .ok (.ifCond .eq 7, 3) := by decide +kernel
theorem dX11_beloved_40 : decode cX11_beloved 40 = .ok (.iconst 1, 1) := by decide +kernel
theorem dX11_beloved_41 : decode cX11_beloved 41 = .ok (.goto 4, 3) := by decide +kernel
theorem dX11_beloved_44 : decode cX11_beloved 44 = .ok (.iconst 0, 1) := by decide +kernel
theorem dX11_beloved_45 : decode cX11_beloved 45 = .ok (.istore_n 2, 1) := by decide +kernel
theorem dX11_beloved_46 : decode cX11_beloved 46 = .ok (.iinc 3 1, 3) := by decide +kernel
theorem dX11_beloved_49 : decode cX11_beloved 49 = .ok (.goto (-35), 3) := by decide +kernel
theorem dX11_beloved_52 : decode cX11_beloved 52 = .ok (.iload_n 2, 1) := by decide +kernel
theorem dX11_beloved_53 : decode cX11_beloved 53 = .ok (.ifCond .eq 5, 3) := by decide +kernel
theorem dX11_beloved_56 : decode cX11_beloved 56 = .ok (.iload_n 1, 1) := by decide +kernel
theorem dX11_beloved_57 : decode cX11_beloved 57 = .ok (.ireturn, 1) := by decide +kernel
theorem dX11_beloved_58 : decode cX11_beloved 58 = .ok (.iinc 1 1, 3) := by decide +kernel
theorem dX11_beloved_61 : decode cX11_beloved 61 = .ok (.goto (-59), 3) := by decide +kernel
theorem dX11_beloved_64 : decode cX11_beloved 64 = .ok (.iconst (-1), 1) := by decide +kernel
theorem dX11_beloved_65 : decode cX11_beloved 65 = .ok (.ireturn, 1) := by decide +kernel
set_option maxHeartbeats 4000000 in
set_option maxRecDepth 20000 in
theorem en_X11_beloved {M : jw_Mem} {Q : Int32 → jw_Mem → Prop}  (h : jw_J 3 mX11_beloved 2 [(0, vr 11 0), (1, vi 0)] [] M Q) : jw_M 3 mX11_beloved [vr 11 0] M Q := by
  refine jw_M.of (by decide) (Nat.le_of_ble_eq_true rfl) ?_
  show jw_J 3 mX11_beloved 0 [(0, vr 11 0)] [] M Q
  refine jr_iconst (pc := 0) (v := 0) dX11_beloved_0 (by decide) ?_
  refine jr_istore_n (pc := 1) (lv' := [(1, vi 0), (0, vr 11 0)]) dX11_beloved_1 rfl (by decide) rfl ?_
  exact jr_sub [1, 0] rfl h
set_option maxHeartbeats 4000000 in
set_option maxRecDepth 20000 in
theorem bk_X11_beloved_2 {v1 : Int32} {M : jw_Mem} {Q : Int32 → jw_Mem → Prop}  (h : (((M 11 0 3) ≤ v1 → Q (-1) M) ∧ (¬ (M 11 0 3) ≤ v1 → jw_J 3 mX11_beloved 14 [(0, vr 11 0), (1, vi v1), (2, vi 1), (3, vi 0)] [] M Q))) : jw_J 3 mX11_beloved 2 [(0, vr 11 0), (1, vi v1)] [] M Q := by
  refine jr_iload_n (pc := 2) dX11_beloved_2 rfl 1 rfl ?_
  refine jr_aload_n (pc := 3) dX11_beloved_3 rfl 0 rfl ?_
  refine jr_get (pc := 4) (v := vi (M 11 0 3)) fg_X11_103 (by decide) rfl dX11_beloved_4 ?_
  refine jr_icmp_ge (pc := 7) (tgt := 64) dX11_beloved_7 (by decide) (fun c => ?_) (fun c => ?_)
  · replace h := h.1 c
    refine jr_iconst (pc := 64) (v := (-1)) dX11_beloved_64 (by decide) ?_
    exact jr_iret (pc := 65) rfl dX11_beloved_65 h
  · replace h := h.2 c
    refine jr_iconst (pc := 10) (v := 1) dX11_beloved_10 (by decide) ?_
    refine jr_istore_n (pc := 11) (lv' := [(2, vi 1), (0, vr 11 0), (1, vi v1)]) dX11_beloved_11 rfl (by decide) rfl ?_
    refine jr_iconst (pc := 12) (v := 0) dX11_beloved_12 (by decide) ?_
    refine jr_istore_n (pc := 13) (lv' := [(3, vi 0), (2, vi 1), (0, vr 11 0), (1, vi v1)]) dX11_beloved_13 rfl (by decide) rfl ?_
    exact jr_sub [2, 3, 1, 0] rfl h
set_option maxHeartbeats 4000000 in
set_option maxRecDepth 20000 in
theorem bk_X11_beloved_14 {v1 : Int32} {v2 : Int32} {v3 : Int32} {M : jw_Mem} {Q : Int32 → jw_Mem → Prop}  (h : (((M 11 0 3) ≤ v3 → ((v2 = 0 → jw_J 3 mX11_beloved 2 [(0, vr 11 0), (1, vi (v1 + 1))] [] M Q) ∧ (¬ v2 = 0 → Q v1 M))) ∧ (¬ (M 11 0 3) ≤ v3 → ((v2 = 0 → jw_J 3 mX11_beloved 14 [(0, vr 11 0), (1, vi v1), (2, vi 0), (3, vi (v3 + 1))] [] M Q) ∧ (¬ v2 = 0 → ((v3 = v1 → jw_J 3 mX11_beloved 14 [(0, vr 11 0), (1, vi v1), (2, vi 1), (3, vi (v3 + 1))] [] M Q) ∧ (¬ v3 = v1 → (jw_M 2 mX11_isHad [vr 11 0, vi v1, vi v3] M (fun x1 M2 => ((x1 = 0 → jw_J 3 mX11_beloved 14 [(0, vr 11 0), (1, vi v1), (2, vi 0), (3, vi (v3 + 1))] [] M2 Q) ∧ (¬ x1 = 0 → jw_J 3 mX11_beloved 14 [(0, vr 11 0), (1, vi v1), (2, vi 1), (3, vi (v3 + 1))] [] M2 Q))))))))))) : jw_J 3 mX11_beloved 14 [(0, vr 11 0), (1, vi v1), (2, vi v2), (3, vi v3)] [] M Q := by
  refine jr_iload_n (pc := 14) dX11_beloved_14 rfl 3 rfl ?_
  refine jr_aload_n (pc := 15) dX11_beloved_15 rfl 0 rfl ?_
  refine jr_get (pc := 16) (v := vi (M 11 0 3)) fg_X11_103 (by decide) rfl dX11_beloved_16 ?_
  refine jr_icmp_ge (pc := 19) (tgt := 52) dX11_beloved_19 (by decide) (fun c => ?_) (fun c => ?_)
  · replace h := h.1 c
    refine jr_iload_n (pc := 52) dX11_beloved_52 rfl 2 rfl ?_
    refine jr_if_eq (pc := 53) (tgt := 58) dX11_beloved_53 (by decide) (fun c => ?_) (fun c => ?_)
    · replace h := h.1 c
      refine jr_iinc (pc := 58) (lv' := [(1, vi (v1 + 1)), (0, vr 11 0), (2, vi v2), (3, vi v3)]) (q := 1) dX11_beloved_58 rfl (by rfl) (by decide) rfl ?_
      refine jr_goto (pc := 61) (tgt := 2) dX11_beloved_61 (by decide) ?_
      exact jr_sub [1, 0] rfl h
    · replace h := h.2 c
      refine jr_iload_n (pc := 56) dX11_beloved_56 rfl 1 rfl ?_
      exact jr_iret (pc := 57) rfl dX11_beloved_57 h
  · replace h := h.2 c
    refine jr_iload_n (pc := 22) dX11_beloved_22 rfl 2 rfl ?_
    refine jr_if_eq (pc := 23) (tgt := 44) dX11_beloved_23 (by decide) (fun c => ?_) (fun c => ?_)
    · replace h := h.1 c
      refine jr_iconst (pc := 44) (v := 0) dX11_beloved_44 (by decide) ?_
      refine jr_istore_n (pc := 45) (lv' := [(2, vi 0), (0, vr 11 0), (1, vi v1), (3, vi v3)]) dX11_beloved_45 rfl (by decide) rfl ?_
      refine jr_iinc (pc := 46) (lv' := [(3, vi (v3 + 1)), (2, vi 0), (0, vr 11 0), (1, vi v1)]) (q := 3) dX11_beloved_46 rfl (by rfl) (by decide) rfl ?_
      refine jr_goto (pc := 49) (tgt := 14) dX11_beloved_49 (by decide) ?_
      exact jr_sub [2, 3, 1, 0] rfl h
    · replace h := h.2 c
      refine jr_iload_n (pc := 26) dX11_beloved_26 rfl 3 rfl ?_
      refine jr_iload_n (pc := 27) dX11_beloved_27 rfl 1 rfl ?_
      refine jr_icmp_eq (pc := 28) (tgt := 40) dX11_beloved_28 (by decide) (fun c => ?_) (fun c => ?_)
      · replace h := h.1 c
        refine jr_iconst (pc := 40) (v := 1) dX11_beloved_40 (by decide) ?_
        refine jr_goto (pc := 41) (tgt := 45) dX11_beloved_41 (by decide) ?_
        refine jr_istore_n (pc := 45) (lv' := [(2, vi 1), (0, vr 11 0), (1, vi v1), (3, vi v3)]) dX11_beloved_45 rfl (by decide) rfl ?_
        refine jr_iinc (pc := 46) (lv' := [(3, vi (v3 + 1)), (2, vi 1), (0, vr 11 0), (1, vi v1)]) (q := 3) dX11_beloved_46 rfl (by rfl) (by decide) rfl ?_
        refine jr_goto (pc := 49) (tgt := 14) dX11_beloved_49 (by decide) ?_
        exact jr_sub [2, 3, 1, 0] rfl h
      · replace h := h.2 c
        refine jr_aload_n (pc := 31) dX11_beloved_31 rfl 0 rfl ?_
        refine jr_iload_n (pc := 32) dX11_beloved_32 rfl 1 rfl ?_
        refine jr_iload_n (pc := 33) dX11_beloved_33 rfl 3 rfl ?_
        refine jr_callV (pc := 34) (d' := 2) (mt' := mX11_isHad) (k := 11) (n := 0) (As := [vi v1, vi v3]) (st := []) fc_X11_220 (by decide) (by decide) (Nat.le_of_ble_eq_true rfl) rfl dX11_beloved_34 (jw_M.mono h (fun x1 M2 h => ?_))
        show jw_J 3 mX11_beloved 37 [(0, vr 11 0), (1, vi v1), (2, vi v2), (3, vi v3)] [vi x1] M2 Q
        refine jr_if_eq (pc := 37) (tgt := 44) dX11_beloved_37 (by decide) (fun c => ?_) (fun c => ?_)
        · replace h := h.1 c
          refine jr_iconst (pc := 44) (v := 0) dX11_beloved_44 (by decide) ?_
          refine jr_istore_n (pc := 45) (lv' := [(2, vi 0), (0, vr 11 0), (1, vi v1), (3, vi v3)]) dX11_beloved_45 rfl (by decide) rfl ?_
          refine jr_iinc (pc := 46) (lv' := [(3, vi (v3 + 1)), (2, vi 0), (0, vr 11 0), (1, vi v1)]) (q := 3) dX11_beloved_46 rfl (by rfl) (by decide) rfl ?_
          refine jr_goto (pc := 49) (tgt := 14) dX11_beloved_49 (by decide) ?_
          exact jr_sub [2, 3, 1, 0] rfl h
        · replace h := h.2 c
          refine jr_iconst (pc := 40) (v := 1) dX11_beloved_40 (by decide) ?_
          refine jr_goto (pc := 41) (tgt := 45) dX11_beloved_41 (by decide) ?_
          refine jr_istore_n (pc := 45) (lv' := [(2, vi 1), (0, vr 11 0), (1, vi v1), (3, vi v3)]) dX11_beloved_45 rfl (by decide) rfl ?_
          refine jr_iinc (pc := 46) (lv' := [(3, vi (v3 + 1)), (2, vi 1), (0, vr 11 0), (1, vi v1)]) (q := 3) dX11_beloved_46 rfl (by rfl) (by decide) rfl ?_
          refine jr_goto (pc := 49) (tgt := 14) dX11_beloved_49 (by decide) ?_
          exact jr_sub [2, 3, 1, 0] rfl h
theorem dX11_rings_0 : decode cX11_rings 0 = .ok (.iconst 0, 1) := by decide +kernel
theorem dX11_rings_1 : decode cX11_rings 1 = .ok (.istore_n 1, 1) := by decide +kernel
theorem dX11_rings_2 : decode cX11_rings 2 = .ok (.iconst 0, 1) := by decide +kernel
theorem dX11_rings_3 : decode cX11_rings 3 = .ok (.istore_n 2, 1) := by decide +kernel
theorem dX11_rings_4 : decode cX11_rings 4 = .ok (.iload_n 2, 1) := by decide +kernel
theorem dX11_rings_5 : decode cX11_rings 5 = .ok (.aload_n 0, 1) := by decide +kernel
theorem dX11_rings_6 : decode cX11_rings 6 = .ok (.getfield 103, 3) := by decide +kernel
theorem dX11_rings_9 : decode cX11_rings 9 = .ok (.if_icmp .ge 137, 3) := by decide +kernel
theorem dX11_rings_12 : decode cX11_rings 12 = .ok (.iload_n 2, 1) := by decide +kernel
theorem dX11_rings_13 : decode cX11_rings 13 = .ok (.iconst 1, 1) := by decide +kernel
theorem dX11_rings_14 : decode cX11_rings 14 = .ok (.iadd, 1) := by decide +kernel
theorem dX11_rings_15 : decode cX11_rings 15 = .ok (.istore_n 3, 1) := by decide +kernel
theorem dX11_rings_16 : decode cX11_rings 16 = .ok (.iload_n 3, 1) := by decide +kernel
theorem dX11_rings_17 : decode cX11_rings 17 = .ok (.aload_n 0, 1) := by decide +kernel
theorem dX11_rings_18 : decode cX11_rings 18 = .ok (.getfield 103, 3) := by decide +kernel
theorem dX11_rings_21 : decode cX11_rings 21 = .ok (.if_icmp .ge 119, 3) := by decide +kernel
theorem dX11_rings_24 : decode cX11_rings 24 = .ok (.iload_n 3, 1) := by decide +kernel
theorem dX11_rings_25 : decode cX11_rings 25 = .ok (.iconst 1, 1) := by decide +kernel
theorem dX11_rings_26 : decode cX11_rings 26 = .ok (.iadd, 1) := by decide +kernel
theorem dX11_rings_27 : decode cX11_rings 27 = .ok (.istore 4, 2) := by decide +kernel
theorem dX11_rings_29 : decode cX11_rings 29 = .ok (.iload 4, 2) := by decide +kernel
theorem dX11_rings_31 : decode cX11_rings 31 = .ok (.aload_n 0, 1) := by decide +kernel
theorem dX11_rings_32 : decode cX11_rings 32 = .ok (.getfield 103, 3) := by decide +kernel
theorem dX11_rings_35 : decode cX11_rings 35 = .ok (.if_icmp .ge 99, 3) := by decide +kernel
theorem dX11_rings_38 : decode cX11_rings 38 = .ok (.aload_n 0, 1) := by decide +kernel
theorem dX11_rings_39 : decode cX11_rings 39 = .ok (.iload_n 2, 1) := by decide +kernel
theorem dX11_rings_40 : decode cX11_rings 40 = .ok (.iload_n 3, 1) := by decide +kernel
theorem dX11_rings_41 : decode cX11_rings 41 = .ok (.invokevirtual 220, 3) := by decide +kernel
theorem dX11_rings_44 : decode cX11_rings 44 = .ok (.ifCond .eq 27, 3) := by decide +kernel
theorem dX11_rings_47 : decode cX11_rings 47 = .ok (.aload_n 0, 1) := by decide +kernel
theorem dX11_rings_48 : decode cX11_rings 48 = .ok (.iload_n 3, 1) := by decide +kernel
theorem dX11_rings_49 : decode cX11_rings 49 = .ok (.iload 4, 2) := by decide +kernel
theorem dX11_rings_51 : decode cX11_rings 51 = .ok (.invokevirtual 220, 3) := by decide +kernel
theorem dX11_rings_54 : decode cX11_rings 54 = .ok (.ifCond .eq 17, 3) := by decide +kernel
theorem dX11_rings_57 : decode cX11_rings 57 = .ok (.aload_n 0, 1) := by decide +kernel
theorem dX11_rings_58 : decode cX11_rings 58 = .ok (.iload 4, 2) := by decide +kernel
theorem dX11_rings_60 : decode cX11_rings 60 = .ok (.iload_n 2, 1) := by decide +kernel
theorem dX11_rings_61 : decode cX11_rings 61 = .ok (.invokevirtual 220, 3) := by decide +kernel
theorem dX11_rings_64 : decode cX11_rings 64 = .ok (.ifCond .eq 7, 3) := by decide +kernel
theorem dX11_rings_67 : decode cX11_rings 67 = .ok (.iconst 1, 1) := by decide +kernel
theorem dX11_rings_68 : decode cX11_rings 68 = .ok (.goto 4, 3) := by decide +kernel
theorem dX11_rings_71 : decode cX11_rings 71 = .ok (.iconst 0, 1) := by decide +kernel
theorem dX11_rings_72 : decode cX11_rings 72 = .ok (.istore 5, 2) := by decide +kernel
theorem dX11_rings_74 : decode cX11_rings 74 = .ok (.aload_n 0, 1) := by decide +kernel
theorem dX11_rings_75 : decode cX11_rings 75 = .ok (.iload_n 2, 1) := by decide +kernel
theorem dX11_rings_76 : decode cX11_rings 76 = .ok (.iload 4, 2) := by decide +kernel
theorem dX11_rings_78 : decode cX11_rings 78 = .ok (.invokevirtual 220, 3) := by decide +kernel
theorem dX11_rings_81 : decode cX11_rings 81 = .ok (.ifCond .eq 26, 3) := by decide +kernel
theorem dX11_rings_84 : decode cX11_rings 84 = .ok (.aload_n 0, 1) := by decide +kernel
theorem dX11_rings_85 : decode cX11_rings 85 = .ok (.iload 4, 2) := by decide +kernel
theorem dX11_rings_87 : decode cX11_rings 87 = .ok (.iload_n 3, 1) := by decide +kernel
theorem dX11_rings_88 : decode cX11_rings 88 = .ok (.invokevirtual 220, 3) := by decide +kernel
theorem dX11_rings_91 : decode cX11_rings 91 = .ok (.ifCond .eq 16, 3) := by decide +kernel
theorem dX11_rings_94 : decode cX11_rings 94 = .ok (.aload_n 0, 1) := by decide +kernel
theorem dX11_rings_95 : decode cX11_rings 95 = .ok (.iload_n 3, 1) := by decide +kernel
theorem dX11_rings_96 : decode cX11_rings 96 = .ok (.iload_n 2, 1) := by decide +kernel
theorem dX11_rings_97 : decode cX11_rings 97 = .ok (.invokevirtual 220, 3) := by decide +kernel
theorem dX11_rings_100 : decode cX11_rings 100 = .ok (.ifCond .eq 7, 3) := by decide +kernel
theorem dX11_rings_103 : decode cX11_rings 103 = .ok (.iconst 1, 1) := by decide +kernel
theorem dX11_rings_104 : decode cX11_rings 104 = .ok (.goto 4, 3) := by decide +kernel
theorem dX11_rings_107 : decode cX11_rings 107 = .ok (.iconst 0, 1) := by decide +kernel
theorem dX11_rings_108 : decode cX11_rings 108 = .ok (.istore 6, 2) := by decide +kernel
theorem dX11_rings_110 : decode cX11_rings 110 = .ok (.iload_n 1, 1) := by decide +kernel
theorem dX11_rings_111 : decode cX11_rings 111 = .ok (.iload 5, 2) := by decide +kernel
theorem dX11_rings_113 : decode cX11_rings 113 = .ok (.ifCond .ne 8, 3) := by decide +kernel
theorem dX11_rings_116 : decode cX11_rings 116 = .ok (.iload 6, 2) := by decide +kernel
theorem dX11_rings_118 : decode cX11_rings 118 = .ok (.ifCond .eq 7, 3) := by decide +kernel
theorem dX11_rings_121 : decode cX11_rings 121 = .ok (.iconst 1, 1) := by decide +kernel
theorem dX11_rings_122 : decode cX11_rings 122 = .ok (.goto 4, 3) := by decide +kernel
theorem dX11_rings_125 : decode cX11_rings 125 = .ok (.iconst 0, 1) := by decide +kernel
theorem dX11_rings_126 : decode cX11_rings 126 = .ok (.iadd, 1) := by decide +kernel
theorem dX11_rings_127 : decode cX11_rings 127 = .ok (.istore_n 1, 1) := by decide +kernel
theorem dX11_rings_128 : decode cX11_rings 128 = .ok (.iinc 4 1, 3) := by decide +kernel
theorem dX11_rings_131 : decode cX11_rings 131 = .ok (.goto (-102), 3) := by decide +kernel
theorem dX11_rings_134 : decode cX11_rings 134 = .ok (.iinc 3 1, 3) := by decide +kernel
theorem dX11_rings_137 : decode cX11_rings 137 = .ok (.goto (-121), 3) := by decide +kernel
theorem dX11_rings_140 : decode cX11_rings 140 = .ok (.iinc 2 1, 3) := by decide +kernel
theorem dX11_rings_143 : decode cX11_rings 143 = .ok (.goto (-139), 3) := by decide +kernel
theorem dX11_rings_146 : decode cX11_rings 146 = .ok (.iload_n 1, 1) := by decide +kernel
theorem dX11_rings_147 : decode cX11_rings 147 = .ok (.ireturn, 1) := by decide +kernel
set_option maxHeartbeats 4000000 in
set_option maxRecDepth 20000 in
theorem en_X11_rings {M : jw_Mem} {Q : Int32 → jw_Mem → Prop}  (h : jw_J 3 mX11_rings 4 [(0, vr 11 0), (1, vi 0), (2, vi 0)] [] M Q) : jw_M 3 mX11_rings [vr 11 0] M Q := by
  refine jw_M.of (by decide) (Nat.le_of_ble_eq_true rfl) ?_
  show jw_J 3 mX11_rings 0 [(0, vr 11 0)] [] M Q
  refine jr_iconst (pc := 0) (v := 0) dX11_rings_0 (by decide) ?_
  refine jr_istore_n (pc := 1) (lv' := [(1, vi 0), (0, vr 11 0)]) dX11_rings_1 rfl (by decide) rfl ?_
  refine jr_iconst (pc := 2) (v := 0) dX11_rings_2 (by decide) ?_
  refine jr_istore_n (pc := 3) (lv' := [(2, vi 0), (1, vi 0), (0, vr 11 0)]) dX11_rings_3 rfl (by decide) rfl ?_
  exact jr_sub [2, 1, 0] rfl h
set_option maxHeartbeats 4000000 in
set_option maxRecDepth 20000 in
theorem bk_X11_rings_4 {v1 : Int32} {v2 : Int32} {M : jw_Mem} {Q : Int32 → jw_Mem → Prop}  (h : (((M 11 0 3) ≤ v2 → Q v1 M) ∧ (¬ (M 11 0 3) ≤ v2 → jw_J 3 mX11_rings 16 [(0, vr 11 0), (1, vi v1), (2, vi v2), (3, vi (v2 + 1))] [] M Q))) : jw_J 3 mX11_rings 4 [(0, vr 11 0), (1, vi v1), (2, vi v2)] [] M Q := by
  refine jr_iload_n (pc := 4) dX11_rings_4 rfl 2 rfl ?_
  refine jr_aload_n (pc := 5) dX11_rings_5 rfl 0 rfl ?_
  refine jr_get (pc := 6) (v := vi (M 11 0 3)) fg_X11_103 (by decide) rfl dX11_rings_6 ?_
  refine jr_icmp_ge (pc := 9) (tgt := 146) dX11_rings_9 (by decide) (fun c => ?_) (fun c => ?_)
  · replace h := h.1 c
    refine jr_iload_n (pc := 146) dX11_rings_146 rfl 1 rfl ?_
    exact jr_iret (pc := 147) rfl dX11_rings_147 h
  · replace h := h.2 c
    refine jr_iload_n (pc := 12) dX11_rings_12 rfl 2 rfl ?_
    refine jr_iconst (pc := 13) (v := 1) dX11_rings_13 (by decide) ?_
    refine jr_iadd (pc := 14) dX11_rings_14 ?_
    refine jr_istore_n (pc := 15) (lv' := [(3, vi (v2 + 1)), (0, vr 11 0), (1, vi v1), (2, vi v2)]) dX11_rings_15 rfl (by decide) rfl ?_
    exact jr_sub [1, 2, 3, 0] rfl h
set_option maxHeartbeats 4000000 in
set_option maxRecDepth 20000 in
theorem bk_X11_rings_16 {v1 : Int32} {v2 : Int32} {v3 : Int32} {M : jw_Mem} {Q : Int32 → jw_Mem → Prop}  (h : (((M 11 0 3) ≤ v3 → jw_J 3 mX11_rings 4 [(0, vr 11 0), (1, vi v1), (2, vi (v2 + 1))] [] M Q) ∧ (¬ (M 11 0 3) ≤ v3 → jw_J 3 mX11_rings 29 [(0, vr 11 0), (1, vi v1), (2, vi v2), (3, vi v3), (4, vi (v3 + 1))] [] M Q))) : jw_J 3 mX11_rings 16 [(0, vr 11 0), (1, vi v1), (2, vi v2), (3, vi v3)] [] M Q := by
  refine jr_iload_n (pc := 16) dX11_rings_16 rfl 3 rfl ?_
  refine jr_aload_n (pc := 17) dX11_rings_17 rfl 0 rfl ?_
  refine jr_get (pc := 18) (v := vi (M 11 0 3)) fg_X11_103 (by decide) rfl dX11_rings_18 ?_
  refine jr_icmp_ge (pc := 21) (tgt := 140) dX11_rings_21 (by decide) (fun c => ?_) (fun c => ?_)
  · replace h := h.1 c
    refine jr_iinc (pc := 140) (lv' := [(2, vi (v2 + 1)), (0, vr 11 0), (1, vi v1), (3, vi v3)]) (q := 2) dX11_rings_140 rfl (by rfl) (by decide) rfl ?_
    refine jr_goto (pc := 143) (tgt := 4) dX11_rings_143 (by decide) ?_
    exact jr_sub [1, 2, 0] rfl h
  · replace h := h.2 c
    refine jr_iload_n (pc := 24) dX11_rings_24 rfl 3 rfl ?_
    refine jr_iconst (pc := 25) (v := 1) dX11_rings_25 (by decide) ?_
    refine jr_iadd (pc := 26) dX11_rings_26 ?_
    refine jr_istore (pc := 27) (lv' := [(4, vi (v3 + 1)), (0, vr 11 0), (1, vi v1), (2, vi v2), (3, vi v3)]) dX11_rings_27 (by decide) rfl ?_
    exact jr_sub [1, 2, 3, 4, 0] rfl h
set_option maxHeartbeats 4000000 in
set_option maxRecDepth 20000 in
theorem bk_X11_rings_29 {v1 : Int32} {v2 : Int32} {v3 : Int32} {v4 : Int32} {M : jw_Mem} {Q : Int32 → jw_Mem → Prop}  (h : (((M 11 0 3) ≤ v4 → jw_J 3 mX11_rings 16 [(0, vr 11 0), (1, vi v1), (2, vi v2), (3, vi (v3 + 1))] [] M Q) ∧ (¬ (M 11 0 3) ≤ v4 → (jw_M 2 mX11_isHad [vr 11 0, vi v2, vi v3] M (fun x1 M2 => ((x1 = 0 → (jw_M 2 mX11_isHad [vr 11 0, vi v2, vi v4] M2 (fun x3 M4 => ((x3 = 0 → jw_J 3 mX11_rings 29 [(0, vr 11 0), (1, vi (v1 + 0)), (2, vi v2), (3, vi v3), (4, vi (v4 + 1))] [] M4 Q) ∧ (¬ x3 = 0 → (jw_M 2 mX11_isHad [vr 11 0, vi v4, vi v3] M4 (fun x5 M6 => ((x5 = 0 → jw_J 3 mX11_rings 29 [(0, vr 11 0), (1, vi (v1 + 0)), (2, vi v2), (3, vi v3), (4, vi (v4 + 1))] [] M6 Q) ∧ (¬ x5 = 0 → (jw_M 2 mX11_isHad [vr 11 0, vi v3, vi v2] M6 (fun x7 M8 => ((x7 = 0 → jw_J 3 mX11_rings 29 [(0, vr 11 0), (1, vi (v1 + 0)), (2, vi v2), (3, vi v3), (4, vi (v4 + 1))] [] M8 Q) ∧ (¬ x7 = 0 → jw_J 3 mX11_rings 29 [(0, vr 11 0), (1, vi (v1 + 1)), (2, vi v2), (3, vi v3), (4, vi (v4 + 1))] [] M8 Q))))))))))))) ∧ (¬ x1 = 0 → (jw_M 2 mX11_isHad [vr 11 0, vi v3, vi v4] M2 (fun x9 M10 => ((x9 = 0 → (jw_M 2 mX11_isHad [vr 11 0, vi v2, vi v4] M10 (fun x11 M12 => ((x11 = 0 → jw_J 3 mX11_rings 29 [(0, vr 11 0), (1, vi (v1 + 0)), (2, vi v2), (3, vi v3), (4, vi (v4 + 1))] [] M12 Q) ∧ (¬ x11 = 0 → (jw_M 2 mX11_isHad [vr 11 0, vi v4, vi v3] M12 (fun x13 M14 => ((x13 = 0 → jw_J 3 mX11_rings 29 [(0, vr 11 0), (1, vi (v1 + 0)), (2, vi v2), (3, vi v3), (4, vi (v4 + 1))] [] M14 Q) ∧ (¬ x13 = 0 → (jw_M 2 mX11_isHad [vr 11 0, vi v3, vi v2] M14 (fun x15 M16 => ((x15 = 0 → jw_J 3 mX11_rings 29 [(0, vr 11 0), (1, vi (v1 + 0)), (2, vi v2), (3, vi v3), (4, vi (v4 + 1))] [] M16 Q) ∧ (¬ x15 = 0 → jw_J 3 mX11_rings 29 [(0, vr 11 0), (1, vi (v1 + 1)), (2, vi v2), (3, vi v3), (4, vi (v4 + 1))] [] M16 Q))))))))))))) ∧ (¬ x9 = 0 → (jw_M 2 mX11_isHad [vr 11 0, vi v4, vi v2] M10 (fun x17 M18 => ((x17 = 0 → (jw_M 2 mX11_isHad [vr 11 0, vi v2, vi v4] M18 (fun x19 M20 => ((x19 = 0 → jw_J 3 mX11_rings 29 [(0, vr 11 0), (1, vi (v1 + 0)), (2, vi v2), (3, vi v3), (4, vi (v4 + 1))] [] M20 Q) ∧ (¬ x19 = 0 → (jw_M 2 mX11_isHad [vr 11 0, vi v4, vi v3] M20 (fun x21 M22 => ((x21 = 0 → jw_J 3 mX11_rings 29 [(0, vr 11 0), (1, vi (v1 + 0)), (2, vi v2), (3, vi v3), (4, vi (v4 + 1))] [] M22 Q) ∧ (¬ x21 = 0 → (jw_M 2 mX11_isHad [vr 11 0, vi v3, vi v2] M22 (fun x23 M24 => ((x23 = 0 → jw_J 3 mX11_rings 29 [(0, vr 11 0), (1, vi (v1 + 0)), (2, vi v2), (3, vi v3), (4, vi (v4 + 1))] [] M24 Q) ∧ (¬ x23 = 0 → jw_J 3 mX11_rings 29 [(0, vr 11 0), (1, vi (v1 + 1)), (2, vi v2), (3, vi v3), (4, vi (v4 + 1))] [] M24 Q))))))))))))) ∧ (¬ x17 = 0 → (jw_M 2 mX11_isHad [vr 11 0, vi v2, vi v4] M18 (fun x25 M26 => ((x25 = 0 → jw_J 3 mX11_rings 29 [(0, vr 11 0), (1, vi (v1 + 1)), (2, vi v2), (3, vi v3), (4, vi (v4 + 1))] [] M26 Q) ∧ (¬ x25 = 0 → (jw_M 2 mX11_isHad [vr 11 0, vi v4, vi v3] M26 (fun x27 M28 => ((x27 = 0 → jw_J 3 mX11_rings 29 [(0, vr 11 0), (1, vi (v1 + 1)), (2, vi v2), (3, vi v3), (4, vi (v4 + 1))] [] M28 Q) ∧ (¬ x27 = 0 → (jw_M 2 mX11_isHad [vr 11 0, vi v3, vi v2] M28 (fun x29 M30 => ((x29 = 0 → jw_J 3 mX11_rings 29 [(0, vr 11 0), (1, vi (v1 + 1)), (2, vi v2), (3, vi v3), (4, vi (v4 + 1))] [] M30 Q) ∧ (¬ x29 = 0 → jw_J 3 mX11_rings 29 [(0, vr 11 0), (1, vi (v1 + 1)), (2, vi v2), (3, vi v3), (4, vi (v4 + 1))] [] M30 Q))))))))))))))))))))))))))) : jw_J 3 mX11_rings 29 [(0, vr 11 0), (1, vi v1), (2, vi v2), (3, vi v3), (4, vi v4)] [] M Q := by
  refine jr_iload (pc := 29) dX11_rings_29 4 rfl ?_
  refine jr_aload_n (pc := 31) dX11_rings_31 rfl 0 rfl ?_
  refine jr_get (pc := 32) (v := vi (M 11 0 3)) fg_X11_103 (by decide) rfl dX11_rings_32 ?_
  refine jr_icmp_ge (pc := 35) (tgt := 134) dX11_rings_35 (by decide) (fun c => ?_) (fun c => ?_)
  · replace h := h.1 c
    refine jr_iinc (pc := 134) (lv' := [(3, vi (v3 + 1)), (0, vr 11 0), (1, vi v1), (2, vi v2), (4, vi v4)]) (q := 3) dX11_rings_134 rfl (by rfl) (by decide) rfl ?_
    refine jr_goto (pc := 137) (tgt := 16) dX11_rings_137 (by decide) ?_
    exact jr_sub [1, 2, 3, 0] rfl h
  · replace h := h.2 c
    refine jr_aload_n (pc := 38) dX11_rings_38 rfl 0 rfl ?_
    refine jr_iload_n (pc := 39) dX11_rings_39 rfl 2 rfl ?_
    refine jr_iload_n (pc := 40) dX11_rings_40 rfl 3 rfl ?_
    refine jr_callV (pc := 41) (d' := 2) (mt' := mX11_isHad) (k := 11) (n := 0) (As := [vi v2, vi v3]) (st := []) fc_X11_220 (by decide) (by decide) (Nat.le_of_ble_eq_true rfl) rfl dX11_rings_41 (jw_M.mono h (fun x1 M2 h => ?_))
    show jw_J 3 mX11_rings 44 [(0, vr 11 0), (1, vi v1), (2, vi v2), (3, vi v3), (4, vi v4)] [vi x1] M2 Q
    refine jr_if_eq (pc := 44) (tgt := 71) dX11_rings_44 (by decide) (fun c => ?_) (fun c => ?_)
    · replace h := h.1 c
      refine jr_iconst (pc := 71) (v := 0) dX11_rings_71 (by decide) ?_
      refine jr_istore (pc := 72) (lv' := [(5, vi 0), (0, vr 11 0), (1, vi v1), (2, vi v2), (3, vi v3), (4, vi v4)]) dX11_rings_72 (by decide) rfl ?_
      refine jr_aload_n (pc := 74) dX11_rings_74 rfl 1 rfl ?_
      refine jr_iload_n (pc := 75) dX11_rings_75 rfl 3 rfl ?_
      refine jr_iload (pc := 76) dX11_rings_76 5 rfl ?_
      refine jr_callV (pc := 78) (d' := 2) (mt' := mX11_isHad) (k := 11) (n := 0) (As := [vi v2, vi v4]) (st := []) fc_X11_220 (by decide) (by decide) (Nat.le_of_ble_eq_true rfl) rfl dX11_rings_78 (jw_M.mono h (fun x3 M4 h => ?_))
      show jw_J 3 mX11_rings 81 [(5, vi 0), (0, vr 11 0), (1, vi v1), (2, vi v2), (3, vi v3), (4, vi v4)] [vi x3] M4 Q
      refine jr_if_eq (pc := 81) (tgt := 107) dX11_rings_81 (by decide) (fun c => ?_) (fun c => ?_)
      · replace h := h.1 c
        refine jr_iconst (pc := 107) (v := 0) dX11_rings_107 (by decide) ?_
        refine jr_istore (pc := 108) (lv' := [(6, vi 0), (5, vi 0), (0, vr 11 0), (1, vi v1), (2, vi v2), (3, vi v3), (4, vi v4)]) dX11_rings_108 (by decide) rfl ?_
        refine jr_iload_n (pc := 110) dX11_rings_110 rfl 3 rfl ?_
        refine jr_iload (pc := 111) dX11_rings_111 1 rfl ?_
        refine jr_if_ne (pc := 113) (tgt := 121) dX11_rings_113 (by decide) (fun c => absurd c (by decide)) (fun _ => ?_)
        refine jr_iload (pc := 116) dX11_rings_116 0 rfl ?_
        refine jr_if_eq (pc := 118) (tgt := 125) dX11_rings_118 (by decide) (fun _ => ?_) (fun c => absurd c (by decide))
        refine jr_iconst (pc := 125) (v := 0) dX11_rings_125 (by decide) ?_
        refine jr_iadd (pc := 126) dX11_rings_126 ?_
        refine jr_istore_n (pc := 127) (lv' := [(1, vi (v1 + 0)), (6, vi 0), (5, vi 0), (0, vr 11 0), (2, vi v2), (3, vi v3), (4, vi v4)]) dX11_rings_127 rfl (by decide) rfl ?_
        refine jr_iinc (pc := 128) (lv' := [(4, vi (v4 + 1)), (1, vi (v1 + 0)), (6, vi 0), (5, vi 0), (0, vr 11 0), (2, vi v2), (3, vi v3)]) (q := 6) dX11_rings_128 rfl (by rfl) (by decide) rfl ?_
        refine jr_goto (pc := 131) (tgt := 29) dX11_rings_131 (by decide) ?_
        exact jr_sub [4, 1, 5, 6, 0] rfl h
      · replace h := h.2 c
        refine jr_aload_n (pc := 84) dX11_rings_84 rfl 1 rfl ?_
        refine jr_iload (pc := 85) dX11_rings_85 5 rfl ?_
        refine jr_iload_n (pc := 87) dX11_rings_87 rfl 4 rfl ?_
        refine jr_callV (pc := 88) (d' := 2) (mt' := mX11_isHad) (k := 11) (n := 0) (As := [vi v4, vi v3]) (st := []) fc_X11_220 (by decide) (by decide) (Nat.le_of_ble_eq_true rfl) rfl dX11_rings_88 (jw_M.mono h (fun x5 M6 h => ?_))
        show jw_J 3 mX11_rings 91 [(5, vi 0), (0, vr 11 0), (1, vi v1), (2, vi v2), (3, vi v3), (4, vi v4)] [vi x5] M6 Q
        refine jr_if_eq (pc := 91) (tgt := 107) dX11_rings_91 (by decide) (fun c => ?_) (fun c => ?_)
        · replace h := h.1 c
          refine jr_iconst (pc := 107) (v := 0) dX11_rings_107 (by decide) ?_
          refine jr_istore (pc := 108) (lv' := [(6, vi 0), (5, vi 0), (0, vr 11 0), (1, vi v1), (2, vi v2), (3, vi v3), (4, vi v4)]) dX11_rings_108 (by decide) rfl ?_
          refine jr_iload_n (pc := 110) dX11_rings_110 rfl 3 rfl ?_
          refine jr_iload (pc := 111) dX11_rings_111 1 rfl ?_
          refine jr_if_ne (pc := 113) (tgt := 121) dX11_rings_113 (by decide) (fun c => absurd c (by decide)) (fun _ => ?_)
          refine jr_iload (pc := 116) dX11_rings_116 0 rfl ?_
          refine jr_if_eq (pc := 118) (tgt := 125) dX11_rings_118 (by decide) (fun _ => ?_) (fun c => absurd c (by decide))
          refine jr_iconst (pc := 125) (v := 0) dX11_rings_125 (by decide) ?_
          refine jr_iadd (pc := 126) dX11_rings_126 ?_
          refine jr_istore_n (pc := 127) (lv' := [(1, vi (v1 + 0)), (6, vi 0), (5, vi 0), (0, vr 11 0), (2, vi v2), (3, vi v3), (4, vi v4)]) dX11_rings_127 rfl (by decide) rfl ?_
          refine jr_iinc (pc := 128) (lv' := [(4, vi (v4 + 1)), (1, vi (v1 + 0)), (6, vi 0), (5, vi 0), (0, vr 11 0), (2, vi v2), (3, vi v3)]) (q := 6) dX11_rings_128 rfl (by rfl) (by decide) rfl ?_
          refine jr_goto (pc := 131) (tgt := 29) dX11_rings_131 (by decide) ?_
          exact jr_sub [4, 1, 5, 6, 0] rfl h
        · replace h := h.2 c
          refine jr_aload_n (pc := 94) dX11_rings_94 rfl 1 rfl ?_
          refine jr_iload_n (pc := 95) dX11_rings_95 rfl 4 rfl ?_
          refine jr_iload_n (pc := 96) dX11_rings_96 rfl 3 rfl ?_
          refine jr_callV (pc := 97) (d' := 2) (mt' := mX11_isHad) (k := 11) (n := 0) (As := [vi v3, vi v2]) (st := []) fc_X11_220 (by decide) (by decide) (Nat.le_of_ble_eq_true rfl) rfl dX11_rings_97 (jw_M.mono h (fun x7 M8 h => ?_))
          show jw_J 3 mX11_rings 100 [(5, vi 0), (0, vr 11 0), (1, vi v1), (2, vi v2), (3, vi v3), (4, vi v4)] [vi x7] M8 Q
          refine jr_if_eq (pc := 100) (tgt := 107) dX11_rings_100 (by decide) (fun c => ?_) (fun c => ?_)
          · replace h := h.1 c
            refine jr_iconst (pc := 107) (v := 0) dX11_rings_107 (by decide) ?_
            refine jr_istore (pc := 108) (lv' := [(6, vi 0), (5, vi 0), (0, vr 11 0), (1, vi v1), (2, vi v2), (3, vi v3), (4, vi v4)]) dX11_rings_108 (by decide) rfl ?_
            refine jr_iload_n (pc := 110) dX11_rings_110 rfl 3 rfl ?_
            refine jr_iload (pc := 111) dX11_rings_111 1 rfl ?_
            refine jr_if_ne (pc := 113) (tgt := 121) dX11_rings_113 (by decide) (fun c => absurd c (by decide)) (fun _ => ?_)
            refine jr_iload (pc := 116) dX11_rings_116 0 rfl ?_
            refine jr_if_eq (pc := 118) (tgt := 125) dX11_rings_118 (by decide) (fun _ => ?_) (fun c => absurd c (by decide))
            refine jr_iconst (pc := 125) (v := 0) dX11_rings_125 (by decide) ?_
            refine jr_iadd (pc := 126) dX11_rings_126 ?_
            refine jr_istore_n (pc := 127) (lv' := [(1, vi (v1 + 0)), (6, vi 0), (5, vi 0), (0, vr 11 0), (2, vi v2), (3, vi v3), (4, vi v4)]) dX11_rings_127 rfl (by decide) rfl ?_
            refine jr_iinc (pc := 128) (lv' := [(4, vi (v4 + 1)), (1, vi (v1 + 0)), (6, vi 0), (5, vi 0), (0, vr 11 0), (2, vi v2), (3, vi v3)]) (q := 6) dX11_rings_128 rfl (by rfl) (by decide) rfl ?_
            refine jr_goto (pc := 131) (tgt := 29) dX11_rings_131 (by decide) ?_
            exact jr_sub [4, 1, 5, 6, 0] rfl h
          · replace h := h.2 c
            refine jr_iconst (pc := 103) (v := 1) dX11_rings_103 (by decide) ?_
            refine jr_goto (pc := 104) (tgt := 108) dX11_rings_104 (by decide) ?_
            refine jr_istore (pc := 108) (lv' := [(6, vi 1), (5, vi 0), (0, vr 11 0), (1, vi v1), (2, vi v2), (3, vi v3), (4, vi v4)]) dX11_rings_108 (by decide) rfl ?_
            refine jr_iload_n (pc := 110) dX11_rings_110 rfl 3 rfl ?_
            refine jr_iload (pc := 111) dX11_rings_111 1 rfl ?_
            refine jr_if_ne (pc := 113) (tgt := 121) dX11_rings_113 (by decide) (fun c => absurd c (by decide)) (fun _ => ?_)
            refine jr_iload (pc := 116) dX11_rings_116 0 rfl ?_
            refine jr_if_eq (pc := 118) (tgt := 125) dX11_rings_118 (by decide) (fun c => absurd c (by decide)) (fun _ => ?_)
            refine jr_iconst (pc := 121) (v := 1) dX11_rings_121 (by decide) ?_
            refine jr_goto (pc := 122) (tgt := 126) dX11_rings_122 (by decide) ?_
            refine jr_iadd (pc := 126) dX11_rings_126 ?_
            refine jr_istore_n (pc := 127) (lv' := [(1, vi (v1 + 1)), (6, vi 1), (5, vi 0), (0, vr 11 0), (2, vi v2), (3, vi v3), (4, vi v4)]) dX11_rings_127 rfl (by decide) rfl ?_
            refine jr_iinc (pc := 128) (lv' := [(4, vi (v4 + 1)), (1, vi (v1 + 1)), (6, vi 1), (5, vi 0), (0, vr 11 0), (2, vi v2), (3, vi v3)]) (q := 6) dX11_rings_128 rfl (by rfl) (by decide) rfl ?_
            refine jr_goto (pc := 131) (tgt := 29) dX11_rings_131 (by decide) ?_
            exact jr_sub [4, 1, 5, 6, 0] rfl h
    · replace h := h.2 c
      refine jr_aload_n (pc := 47) dX11_rings_47 rfl 0 rfl ?_
      refine jr_iload_n (pc := 48) dX11_rings_48 rfl 3 rfl ?_
      refine jr_iload (pc := 49) dX11_rings_49 4 rfl ?_
      refine jr_callV (pc := 51) (d' := 2) (mt' := mX11_isHad) (k := 11) (n := 0) (As := [vi v3, vi v4]) (st := []) fc_X11_220 (by decide) (by decide) (Nat.le_of_ble_eq_true rfl) rfl dX11_rings_51 (jw_M.mono h (fun x9 M10 h => ?_))
      show jw_J 3 mX11_rings 54 [(0, vr 11 0), (1, vi v1), (2, vi v2), (3, vi v3), (4, vi v4)] [vi x9] M10 Q
      refine jr_if_eq (pc := 54) (tgt := 71) dX11_rings_54 (by decide) (fun c => ?_) (fun c => ?_)
      · replace h := h.1 c
        refine jr_iconst (pc := 71) (v := 0) dX11_rings_71 (by decide) ?_
        refine jr_istore (pc := 72) (lv' := [(5, vi 0), (0, vr 11 0), (1, vi v1), (2, vi v2), (3, vi v3), (4, vi v4)]) dX11_rings_72 (by decide) rfl ?_
        refine jr_aload_n (pc := 74) dX11_rings_74 rfl 1 rfl ?_
        refine jr_iload_n (pc := 75) dX11_rings_75 rfl 3 rfl ?_
        refine jr_iload (pc := 76) dX11_rings_76 5 rfl ?_
        refine jr_callV (pc := 78) (d' := 2) (mt' := mX11_isHad) (k := 11) (n := 0) (As := [vi v2, vi v4]) (st := []) fc_X11_220 (by decide) (by decide) (Nat.le_of_ble_eq_true rfl) rfl dX11_rings_78 (jw_M.mono h (fun x11 M12 h => ?_))
        show jw_J 3 mX11_rings 81 [(5, vi 0), (0, vr 11 0), (1, vi v1), (2, vi v2), (3, vi v3), (4, vi v4)] [vi x11] M12 Q
        refine jr_if_eq (pc := 81) (tgt := 107) dX11_rings_81 (by decide) (fun c => ?_) (fun c => ?_)
        · replace h := h.1 c
          refine jr_iconst (pc := 107) (v := 0) dX11_rings_107 (by decide) ?_
          refine jr_istore (pc := 108) (lv' := [(6, vi 0), (5, vi 0), (0, vr 11 0), (1, vi v1), (2, vi v2), (3, vi v3), (4, vi v4)]) dX11_rings_108 (by decide) rfl ?_
          refine jr_iload_n (pc := 110) dX11_rings_110 rfl 3 rfl ?_
          refine jr_iload (pc := 111) dX11_rings_111 1 rfl ?_
          refine jr_if_ne (pc := 113) (tgt := 121) dX11_rings_113 (by decide) (fun c => absurd c (by decide)) (fun _ => ?_)
          refine jr_iload (pc := 116) dX11_rings_116 0 rfl ?_
          refine jr_if_eq (pc := 118) (tgt := 125) dX11_rings_118 (by decide) (fun _ => ?_) (fun c => absurd c (by decide))
          refine jr_iconst (pc := 125) (v := 0) dX11_rings_125 (by decide) ?_
          refine jr_iadd (pc := 126) dX11_rings_126 ?_
          refine jr_istore_n (pc := 127) (lv' := [(1, vi (v1 + 0)), (6, vi 0), (5, vi 0), (0, vr 11 0), (2, vi v2), (3, vi v3), (4, vi v4)]) dX11_rings_127 rfl (by decide) rfl ?_
          refine jr_iinc (pc := 128) (lv' := [(4, vi (v4 + 1)), (1, vi (v1 + 0)), (6, vi 0), (5, vi 0), (0, vr 11 0), (2, vi v2), (3, vi v3)]) (q := 6) dX11_rings_128 rfl (by rfl) (by decide) rfl ?_
          refine jr_goto (pc := 131) (tgt := 29) dX11_rings_131 (by decide) ?_
          exact jr_sub [4, 1, 5, 6, 0] rfl h
        · replace h := h.2 c
          refine jr_aload_n (pc := 84) dX11_rings_84 rfl 1 rfl ?_
          refine jr_iload (pc := 85) dX11_rings_85 5 rfl ?_
          refine jr_iload_n (pc := 87) dX11_rings_87 rfl 4 rfl ?_
          refine jr_callV (pc := 88) (d' := 2) (mt' := mX11_isHad) (k := 11) (n := 0) (As := [vi v4, vi v3]) (st := []) fc_X11_220 (by decide) (by decide) (Nat.le_of_ble_eq_true rfl) rfl dX11_rings_88 (jw_M.mono h (fun x13 M14 h => ?_))
          show jw_J 3 mX11_rings 91 [(5, vi 0), (0, vr 11 0), (1, vi v1), (2, vi v2), (3, vi v3), (4, vi v4)] [vi x13] M14 Q
          refine jr_if_eq (pc := 91) (tgt := 107) dX11_rings_91 (by decide) (fun c => ?_) (fun c => ?_)
          · replace h := h.1 c
            refine jr_iconst (pc := 107) (v := 0) dX11_rings_107 (by decide) ?_
            refine jr_istore (pc := 108) (lv' := [(6, vi 0), (5, vi 0), (0, vr 11 0), (1, vi v1), (2, vi v2), (3, vi v3), (4, vi v4)]) dX11_rings_108 (by decide) rfl ?_
            refine jr_iload_n (pc := 110) dX11_rings_110 rfl 3 rfl ?_
            refine jr_iload (pc := 111) dX11_rings_111 1 rfl ?_
            refine jr_if_ne (pc := 113) (tgt := 121) dX11_rings_113 (by decide) (fun c => absurd c (by decide)) (fun _ => ?_)
            refine jr_iload (pc := 116) dX11_rings_116 0 rfl ?_
            refine jr_if_eq (pc := 118) (tgt := 125) dX11_rings_118 (by decide) (fun _ => ?_) (fun c => absurd c (by decide))
            refine jr_iconst (pc := 125) (v := 0) dX11_rings_125 (by decide) ?_
            refine jr_iadd (pc := 126) dX11_rings_126 ?_
            refine jr_istore_n (pc := 127) (lv' := [(1, vi (v1 + 0)), (6, vi 0), (5, vi 0), (0, vr 11 0), (2, vi v2), (3, vi v3), (4, vi v4)]) dX11_rings_127 rfl (by decide) rfl ?_
            refine jr_iinc (pc := 128) (lv' := [(4, vi (v4 + 1)), (1, vi (v1 + 0)), (6, vi 0), (5, vi 0), (0, vr 11 0), (2, vi v2), (3, vi v3)]) (q := 6) dX11_rings_128 rfl (by rfl) (by decide) rfl ?_
            refine jr_goto (pc := 131) (tgt := 29) dX11_rings_131 (by decide) ?_
            exact jr_sub [4, 1, 5, 6, 0] rfl h
          · replace h := h.2 c
            refine jr_aload_n (pc := 94) dX11_rings_94 rfl 1 rfl ?_
            refine jr_iload_n (pc := 95) dX11_rings_95 rfl 4 rfl ?_
            refine jr_iload_n (pc := 96) dX11_rings_96 rfl 3 rfl ?_
            refine jr_callV (pc := 97) (d' := 2) (mt' := mX11_isHad) (k := 11) (n := 0) (As := [vi v3, vi v2]) (st := []) fc_X11_220 (by decide) (by decide) (Nat.le_of_ble_eq_true rfl) rfl dX11_rings_97 (jw_M.mono h (fun x15 M16 h => ?_))
            show jw_J 3 mX11_rings 100 [(5, vi 0), (0, vr 11 0), (1, vi v1), (2, vi v2), (3, vi v3), (4, vi v4)] [vi x15] M16 Q
            refine jr_if_eq (pc := 100) (tgt := 107) dX11_rings_100 (by decide) (fun c => ?_) (fun c => ?_)
            · replace h := h.1 c
              refine jr_iconst (pc := 107) (v := 0) dX11_rings_107 (by decide) ?_
              refine jr_istore (pc := 108) (lv' := [(6, vi 0), (5, vi 0), (0, vr 11 0), (1, vi v1), (2, vi v2), (3, vi v3), (4, vi v4)]) dX11_rings_108 (by decide) rfl ?_
              refine jr_iload_n (pc := 110) dX11_rings_110 rfl 3 rfl ?_
              refine jr_iload (pc := 111) dX11_rings_111 1 rfl ?_
              refine jr_if_ne (pc := 113) (tgt := 121) dX11_rings_113 (by decide) (fun c => absurd c (by decide)) (fun _ => ?_)
              refine jr_iload (pc := 116) dX11_rings_116 0 rfl ?_
              refine jr_if_eq (pc := 118) (tgt := 125) dX11_rings_118 (by decide) (fun _ => ?_) (fun c => absurd c (by decide))
              refine jr_iconst (pc := 125) (v := 0) dX11_rings_125 (by decide) ?_
              refine jr_iadd (pc := 126) dX11_rings_126 ?_
              refine jr_istore_n (pc := 127) (lv' := [(1, vi (v1 + 0)), (6, vi 0), (5, vi 0), (0, vr 11 0), (2, vi v2), (3, vi v3), (4, vi v4)]) dX11_rings_127 rfl (by decide) rfl ?_
              refine jr_iinc (pc := 128) (lv' := [(4, vi (v4 + 1)), (1, vi (v1 + 0)), (6, vi 0), (5, vi 0), (0, vr 11 0), (2, vi v2), (3, vi v3)]) (q := 6) dX11_rings_128 rfl (by rfl) (by decide) rfl ?_
              refine jr_goto (pc := 131) (tgt := 29) dX11_rings_131 (by decide) ?_
              exact jr_sub [4, 1, 5, 6, 0] rfl h
            · replace h := h.2 c
              refine jr_iconst (pc := 103) (v := 1) dX11_rings_103 (by decide) ?_
              refine jr_goto (pc := 104) (tgt := 108) dX11_rings_104 (by decide) ?_
              refine jr_istore (pc := 108) (lv' := [(6, vi 1), (5, vi 0), (0, vr 11 0), (1, vi v1), (2, vi v2), (3, vi v3), (4, vi v4)]) dX11_rings_108 (by decide) rfl ?_
              refine jr_iload_n (pc := 110) dX11_rings_110 rfl 3 rfl ?_
              refine jr_iload (pc := 111) dX11_rings_111 1 rfl ?_
              refine jr_if_ne (pc := 113) (tgt := 121) dX11_rings_113 (by decide) (fun c => absurd c (by decide)) (fun _ => ?_)
              refine jr_iload (pc := 116) dX11_rings_116 0 rfl ?_
              refine jr_if_eq (pc := 118) (tgt := 125) dX11_rings_118 (by decide) (fun c => absurd c (by decide)) (fun _ => ?_)
              refine jr_iconst (pc := 121) (v := 1) dX11_rings_121 (by decide) ?_
              refine jr_goto (pc := 122) (tgt := 126) dX11_rings_122 (by decide) ?_
              refine jr_iadd (pc := 126) dX11_rings_126 ?_
              refine jr_istore_n (pc := 127) (lv' := [(1, vi (v1 + 1)), (6, vi 1), (5, vi 0), (0, vr 11 0), (2, vi v2), (3, vi v3), (4, vi v4)]) dX11_rings_127 rfl (by decide) rfl ?_
              refine jr_iinc (pc := 128) (lv' := [(4, vi (v4 + 1)), (1, vi (v1 + 1)), (6, vi 1), (5, vi 0), (0, vr 11 0), (2, vi v2), (3, vi v3)]) (q := 6) dX11_rings_128 rfl (by rfl) (by decide) rfl ?_
              refine jr_goto (pc := 131) (tgt := 29) dX11_rings_131 (by decide) ?_
              exact jr_sub [4, 1, 5, 6, 0] rfl h
      · replace h := h.2 c
        refine jr_aload_n (pc := 57) dX11_rings_57 rfl 0 rfl ?_
        refine jr_iload (pc := 58) dX11_rings_58 4 rfl ?_
        refine jr_iload_n (pc := 60) dX11_rings_60 rfl 2 rfl ?_
        refine jr_callV (pc := 61) (d' := 2) (mt' := mX11_isHad) (k := 11) (n := 0) (As := [vi v4, vi v2]) (st := []) fc_X11_220 (by decide) (by decide) (Nat.le_of_ble_eq_true rfl) rfl dX11_rings_61 (jw_M.mono h (fun x17 M18 h => ?_))
        show jw_J 3 mX11_rings 64 [(0, vr 11 0), (1, vi v1), (2, vi v2), (3, vi v3), (4, vi v4)] [vi x17] M18 Q
        refine jr_if_eq (pc := 64) (tgt := 71) dX11_rings_64 (by decide) (fun c => ?_) (fun c => ?_)
        · replace h := h.1 c
          refine jr_iconst (pc := 71) (v := 0) dX11_rings_71 (by decide) ?_
          refine jr_istore (pc := 72) (lv' := [(5, vi 0), (0, vr 11 0), (1, vi v1), (2, vi v2), (3, vi v3), (4, vi v4)]) dX11_rings_72 (by decide) rfl ?_
          refine jr_aload_n (pc := 74) dX11_rings_74 rfl 1 rfl ?_
          refine jr_iload_n (pc := 75) dX11_rings_75 rfl 3 rfl ?_
          refine jr_iload (pc := 76) dX11_rings_76 5 rfl ?_
          refine jr_callV (pc := 78) (d' := 2) (mt' := mX11_isHad) (k := 11) (n := 0) (As := [vi v2, vi v4]) (st := []) fc_X11_220 (by decide) (by decide) (Nat.le_of_ble_eq_true rfl) rfl dX11_rings_78 (jw_M.mono h (fun x19 M20 h => ?_))
          show jw_J 3 mX11_rings 81 [(5, vi 0), (0, vr 11 0), (1, vi v1), (2, vi v2), (3, vi v3), (4, vi v4)] [vi x19] M20 Q
          refine jr_if_eq (pc := 81) (tgt := 107) dX11_rings_81 (by decide) (fun c => ?_) (fun c => ?_)
          · replace h := h.1 c
            refine jr_iconst (pc := 107) (v := 0) dX11_rings_107 (by decide) ?_
            refine jr_istore (pc := 108) (lv' := [(6, vi 0), (5, vi 0), (0, vr 11 0), (1, vi v1), (2, vi v2), (3, vi v3), (4, vi v4)]) dX11_rings_108 (by decide) rfl ?_
            refine jr_iload_n (pc := 110) dX11_rings_110 rfl 3 rfl ?_
            refine jr_iload (pc := 111) dX11_rings_111 1 rfl ?_
            refine jr_if_ne (pc := 113) (tgt := 121) dX11_rings_113 (by decide) (fun c => absurd c (by decide)) (fun _ => ?_)
            refine jr_iload (pc := 116) dX11_rings_116 0 rfl ?_
            refine jr_if_eq (pc := 118) (tgt := 125) dX11_rings_118 (by decide) (fun _ => ?_) (fun c => absurd c (by decide))
            refine jr_iconst (pc := 125) (v := 0) dX11_rings_125 (by decide) ?_
            refine jr_iadd (pc := 126) dX11_rings_126 ?_
            refine jr_istore_n (pc := 127) (lv' := [(1, vi (v1 + 0)), (6, vi 0), (5, vi 0), (0, vr 11 0), (2, vi v2), (3, vi v3), (4, vi v4)]) dX11_rings_127 rfl (by decide) rfl ?_
            refine jr_iinc (pc := 128) (lv' := [(4, vi (v4 + 1)), (1, vi (v1 + 0)), (6, vi 0), (5, vi 0), (0, vr 11 0), (2, vi v2), (3, vi v3)]) (q := 6) dX11_rings_128 rfl (by rfl) (by decide) rfl ?_
            refine jr_goto (pc := 131) (tgt := 29) dX11_rings_131 (by decide) ?_
            exact jr_sub [4, 1, 5, 6, 0] rfl h
          · replace h := h.2 c
            refine jr_aload_n (pc := 84) dX11_rings_84 rfl 1 rfl ?_
            refine jr_iload (pc := 85) dX11_rings_85 5 rfl ?_
            refine jr_iload_n (pc := 87) dX11_rings_87 rfl 4 rfl ?_
            refine jr_callV (pc := 88) (d' := 2) (mt' := mX11_isHad) (k := 11) (n := 0) (As := [vi v4, vi v3]) (st := []) fc_X11_220 (by decide) (by decide) (Nat.le_of_ble_eq_true rfl) rfl dX11_rings_88 (jw_M.mono h (fun x21 M22 h => ?_))
            show jw_J 3 mX11_rings 91 [(5, vi 0), (0, vr 11 0), (1, vi v1), (2, vi v2), (3, vi v3), (4, vi v4)] [vi x21] M22 Q
            refine jr_if_eq (pc := 91) (tgt := 107) dX11_rings_91 (by decide) (fun c => ?_) (fun c => ?_)
            · replace h := h.1 c
              refine jr_iconst (pc := 107) (v := 0) dX11_rings_107 (by decide) ?_
              refine jr_istore (pc := 108) (lv' := [(6, vi 0), (5, vi 0), (0, vr 11 0), (1, vi v1), (2, vi v2), (3, vi v3), (4, vi v4)]) dX11_rings_108 (by decide) rfl ?_
              refine jr_iload_n (pc := 110) dX11_rings_110 rfl 3 rfl ?_
              refine jr_iload (pc := 111) dX11_rings_111 1 rfl ?_
              refine jr_if_ne (pc := 113) (tgt := 121) dX11_rings_113 (by decide) (fun c => absurd c (by decide)) (fun _ => ?_)
              refine jr_iload (pc := 116) dX11_rings_116 0 rfl ?_
              refine jr_if_eq (pc := 118) (tgt := 125) dX11_rings_118 (by decide) (fun _ => ?_) (fun c => absurd c (by decide))
              refine jr_iconst (pc := 125) (v := 0) dX11_rings_125 (by decide) ?_
              refine jr_iadd (pc := 126) dX11_rings_126 ?_
              refine jr_istore_n (pc := 127) (lv' := [(1, vi (v1 + 0)), (6, vi 0), (5, vi 0), (0, vr 11 0), (2, vi v2), (3, vi v3), (4, vi v4)]) dX11_rings_127 rfl (by decide) rfl ?_
              refine jr_iinc (pc := 128) (lv' := [(4, vi (v4 + 1)), (1, vi (v1 + 0)), (6, vi 0), (5, vi 0), (0, vr 11 0), (2, vi v2), (3, vi v3)]) (q := 6) dX11_rings_128 rfl (by rfl) (by decide) rfl ?_
              refine jr_goto (pc := 131) (tgt := 29) dX11_rings_131 (by decide) ?_
              exact jr_sub [4, 1, 5, 6, 0] rfl h
            · replace h := h.2 c
              refine jr_aload_n (pc := 94) dX11_rings_94 rfl 1 rfl ?_
              refine jr_iload_n (pc := 95) dX11_rings_95 rfl 4 rfl ?_
              refine jr_iload_n (pc := 96) dX11_rings_96 rfl 3 rfl ?_
              refine jr_callV (pc := 97) (d' := 2) (mt' := mX11_isHad) (k := 11) (n := 0) (As := [vi v3, vi v2]) (st := []) fc_X11_220 (by decide) (by decide) (Nat.le_of_ble_eq_true rfl) rfl dX11_rings_97 (jw_M.mono h (fun x23 M24 h => ?_))
              show jw_J 3 mX11_rings 100 [(5, vi 0), (0, vr 11 0), (1, vi v1), (2, vi v2), (3, vi v3), (4, vi v4)] [vi x23] M24 Q
              refine jr_if_eq (pc := 100) (tgt := 107) dX11_rings_100 (by decide) (fun c => ?_) (fun c => ?_)
              · replace h := h.1 c
                refine jr_iconst (pc := 107) (v := 0) dX11_rings_107 (by decide) ?_
                refine jr_istore (pc := 108) (lv' := [(6, vi 0), (5, vi 0), (0, vr 11 0), (1, vi v1), (2, vi v2), (3, vi v3), (4, vi v4)]) dX11_rings_108 (by decide) rfl ?_
                refine jr_iload_n (pc := 110) dX11_rings_110 rfl 3 rfl ?_
                refine jr_iload (pc := 111) dX11_rings_111 1 rfl ?_
                refine jr_if_ne (pc := 113) (tgt := 121) dX11_rings_113 (by decide) (fun c => absurd c (by decide)) (fun _ => ?_)
                refine jr_iload (pc := 116) dX11_rings_116 0 rfl ?_
                refine jr_if_eq (pc := 118) (tgt := 125) dX11_rings_118 (by decide) (fun _ => ?_) (fun c => absurd c (by decide))
                refine jr_iconst (pc := 125) (v := 0) dX11_rings_125 (by decide) ?_
                refine jr_iadd (pc := 126) dX11_rings_126 ?_
                refine jr_istore_n (pc := 127) (lv' := [(1, vi (v1 + 0)), (6, vi 0), (5, vi 0), (0, vr 11 0), (2, vi v2), (3, vi v3), (4, vi v4)]) dX11_rings_127 rfl (by decide) rfl ?_
                refine jr_iinc (pc := 128) (lv' := [(4, vi (v4 + 1)), (1, vi (v1 + 0)), (6, vi 0), (5, vi 0), (0, vr 11 0), (2, vi v2), (3, vi v3)]) (q := 6) dX11_rings_128 rfl (by rfl) (by decide) rfl ?_
                refine jr_goto (pc := 131) (tgt := 29) dX11_rings_131 (by decide) ?_
                exact jr_sub [4, 1, 5, 6, 0] rfl h
              · replace h := h.2 c
                refine jr_iconst (pc := 103) (v := 1) dX11_rings_103 (by decide) ?_
                refine jr_goto (pc := 104) (tgt := 108) dX11_rings_104 (by decide) ?_
                refine jr_istore (pc := 108) (lv' := [(6, vi 1), (5, vi 0), (0, vr 11 0), (1, vi v1), (2, vi v2), (3, vi v3), (4, vi v4)]) dX11_rings_108 (by decide) rfl ?_
                refine jr_iload_n (pc := 110) dX11_rings_110 rfl 3 rfl ?_
                refine jr_iload (pc := 111) dX11_rings_111 1 rfl ?_
                refine jr_if_ne (pc := 113) (tgt := 121) dX11_rings_113 (by decide) (fun c => absurd c (by decide)) (fun _ => ?_)
                refine jr_iload (pc := 116) dX11_rings_116 0 rfl ?_
                refine jr_if_eq (pc := 118) (tgt := 125) dX11_rings_118 (by decide) (fun c => absurd c (by decide)) (fun _ => ?_)
                refine jr_iconst (pc := 121) (v := 1) dX11_rings_121 (by decide) ?_
                refine jr_goto (pc := 122) (tgt := 126) dX11_rings_122 (by decide) ?_
                refine jr_iadd (pc := 126) dX11_rings_126 ?_
                refine jr_istore_n (pc := 127) (lv' := [(1, vi (v1 + 1)), (6, vi 1), (5, vi 0), (0, vr 11 0), (2, vi v2), (3, vi v3), (4, vi v4)]) dX11_rings_127 rfl (by decide) rfl ?_
                refine jr_iinc (pc := 128) (lv' := [(4, vi (v4 + 1)), (1, vi (v1 + 1)), (6, vi 1), (5, vi 0), (0, vr 11 0), (2, vi v2), (3, vi v3)]) (q := 6) dX11_rings_128 rfl (by rfl) (by decide) rfl ?_
                refine jr_goto (pc := 131) (tgt := 29) dX11_rings_131 (by decide) ?_
                exact jr_sub [4, 1, 5, 6, 0] rfl h
        · replace h := h.2 c
          refine jr_iconst (pc := 67) (v := 1) dX11_rings_67 (by decide) ?_
          refine jr_goto (pc := 68) (tgt := 72) dX11_rings_68 (by decide) ?_
          refine jr_istore (pc := 72) (lv' := [(5, vi 1), (0, vr 11 0), (1, vi v1), (2, vi v2), (3, vi v3), (4, vi v4)]) dX11_rings_72 (by decide) rfl ?_
          refine jr_aload_n (pc := 74) dX11_rings_74 rfl 1 rfl ?_
          refine jr_iload_n (pc := 75) dX11_rings_75 rfl 3 rfl ?_
          refine jr_iload (pc := 76) dX11_rings_76 5 rfl ?_
          refine jr_callV (pc := 78) (d' := 2) (mt' := mX11_isHad) (k := 11) (n := 0) (As := [vi v2, vi v4]) (st := []) fc_X11_220 (by decide) (by decide) (Nat.le_of_ble_eq_true rfl) rfl dX11_rings_78 (jw_M.mono h (fun x25 M26 h => ?_))
          show jw_J 3 mX11_rings 81 [(5, vi 1), (0, vr 11 0), (1, vi v1), (2, vi v2), (3, vi v3), (4, vi v4)] [vi x25] M26 Q
          refine jr_if_eq (pc := 81) (tgt := 107) dX11_rings_81 (by decide) (fun c => ?_) (fun c => ?_)
          · replace h := h.1 c
            refine jr_iconst (pc := 107) (v := 0) dX11_rings_107 (by decide) ?_
            refine jr_istore (pc := 108) (lv' := [(6, vi 0), (5, vi 1), (0, vr 11 0), (1, vi v1), (2, vi v2), (3, vi v3), (4, vi v4)]) dX11_rings_108 (by decide) rfl ?_
            refine jr_iload_n (pc := 110) dX11_rings_110 rfl 3 rfl ?_
            refine jr_iload (pc := 111) dX11_rings_111 1 rfl ?_
            refine jr_if_ne (pc := 113) (tgt := 121) dX11_rings_113 (by decide) (fun _ => ?_) (fun c => absurd c (by decide))
            refine jr_iconst (pc := 121) (v := 1) dX11_rings_121 (by decide) ?_
            refine jr_goto (pc := 122) (tgt := 126) dX11_rings_122 (by decide) ?_
            refine jr_iadd (pc := 126) dX11_rings_126 ?_
            refine jr_istore_n (pc := 127) (lv' := [(1, vi (v1 + 1)), (6, vi 0), (5, vi 1), (0, vr 11 0), (2, vi v2), (3, vi v3), (4, vi v4)]) dX11_rings_127 rfl (by decide) rfl ?_
            refine jr_iinc (pc := 128) (lv' := [(4, vi (v4 + 1)), (1, vi (v1 + 1)), (6, vi 0), (5, vi 1), (0, vr 11 0), (2, vi v2), (3, vi v3)]) (q := 6) dX11_rings_128 rfl (by rfl) (by decide) rfl ?_
            refine jr_goto (pc := 131) (tgt := 29) dX11_rings_131 (by decide) ?_
            exact jr_sub [4, 1, 5, 6, 0] rfl h
          · replace h := h.2 c
            refine jr_aload_n (pc := 84) dX11_rings_84 rfl 1 rfl ?_
            refine jr_iload (pc := 85) dX11_rings_85 5 rfl ?_
            refine jr_iload_n (pc := 87) dX11_rings_87 rfl 4 rfl ?_
            refine jr_callV (pc := 88) (d' := 2) (mt' := mX11_isHad) (k := 11) (n := 0) (As := [vi v4, vi v3]) (st := []) fc_X11_220 (by decide) (by decide) (Nat.le_of_ble_eq_true rfl) rfl dX11_rings_88 (jw_M.mono h (fun x27 M28 h => ?_))
            show jw_J 3 mX11_rings 91 [(5, vi 1), (0, vr 11 0), (1, vi v1), (2, vi v2), (3, vi v3), (4, vi v4)] [vi x27] M28 Q
            refine jr_if_eq (pc := 91) (tgt := 107) dX11_rings_91 (by decide) (fun c => ?_) (fun c => ?_)
            · replace h := h.1 c
              refine jr_iconst (pc := 107) (v := 0) dX11_rings_107 (by decide) ?_
              refine jr_istore (pc := 108) (lv' := [(6, vi 0), (5, vi 1), (0, vr 11 0), (1, vi v1), (2, vi v2), (3, vi v3), (4, vi v4)]) dX11_rings_108 (by decide) rfl ?_
              refine jr_iload_n (pc := 110) dX11_rings_110 rfl 3 rfl ?_
              refine jr_iload (pc := 111) dX11_rings_111 1 rfl ?_
              refine jr_if_ne (pc := 113) (tgt := 121) dX11_rings_113 (by decide) (fun _ => ?_) (fun c => absurd c (by decide))
              refine jr_iconst (pc := 121) (v := 1) dX11_rings_121 (by decide) ?_
              refine jr_goto (pc := 122) (tgt := 126) dX11_rings_122 (by decide) ?_
              refine jr_iadd (pc := 126) dX11_rings_126 ?_
              refine jr_istore_n (pc := 127) (lv' := [(1, vi (v1 + 1)), (6, vi 0), (5, vi 1), (0, vr 11 0), (2, vi v2), (3, vi v3), (4, vi v4)]) dX11_rings_127 rfl (by decide) rfl ?_
              refine jr_iinc (pc := 128) (lv' := [(4, vi (v4 + 1)), (1, vi (v1 + 1)), (6, vi 0), (5, vi 1), (0, vr 11 0), (2, vi v2), (3, vi v3)]) (q := 6) dX11_rings_128 rfl (by rfl) (by decide) rfl ?_
              refine jr_goto (pc := 131) (tgt := 29) dX11_rings_131 (by decide) ?_
              exact jr_sub [4, 1, 5, 6, 0] rfl h
            · replace h := h.2 c
              refine jr_aload_n (pc := 94) dX11_rings_94 rfl 1 rfl ?_
              refine jr_iload_n (pc := 95) dX11_rings_95 rfl 4 rfl ?_
              refine jr_iload_n (pc := 96) dX11_rings_96 rfl 3 rfl ?_
              refine jr_callV (pc := 97) (d' := 2) (mt' := mX11_isHad) (k := 11) (n := 0) (As := [vi v3, vi v2]) (st := []) fc_X11_220 (by decide) (by decide) (Nat.le_of_ble_eq_true rfl) rfl dX11_rings_97 (jw_M.mono h (fun x29 M30 h => ?_))
              show jw_J 3 mX11_rings 100 [(5, vi 1), (0, vr 11 0), (1, vi v1), (2, vi v2), (3, vi v3), (4, vi v4)] [vi x29] M30 Q
              refine jr_if_eq (pc := 100) (tgt := 107) dX11_rings_100 (by decide) (fun c => ?_) (fun c => ?_)
              · replace h := h.1 c
                refine jr_iconst (pc := 107) (v := 0) dX11_rings_107 (by decide) ?_
                refine jr_istore (pc := 108) (lv' := [(6, vi 0), (5, vi 1), (0, vr 11 0), (1, vi v1), (2, vi v2), (3, vi v3), (4, vi v4)]) dX11_rings_108 (by decide) rfl ?_
                refine jr_iload_n (pc := 110) dX11_rings_110 rfl 3 rfl ?_
                refine jr_iload (pc := 111) dX11_rings_111 1 rfl ?_
                refine jr_if_ne (pc := 113) (tgt := 121) dX11_rings_113 (by decide) (fun _ => ?_) (fun c => absurd c (by decide))
                refine jr_iconst (pc := 121) (v := 1) dX11_rings_121 (by decide) ?_
                refine jr_goto (pc := 122) (tgt := 126) dX11_rings_122 (by decide) ?_
                refine jr_iadd (pc := 126) dX11_rings_126 ?_
                refine jr_istore_n (pc := 127) (lv' := [(1, vi (v1 + 1)), (6, vi 0), (5, vi 1), (0, vr 11 0), (2, vi v2), (3, vi v3), (4, vi v4)]) dX11_rings_127 rfl (by decide) rfl ?_
                refine jr_iinc (pc := 128) (lv' := [(4, vi (v4 + 1)), (1, vi (v1 + 1)), (6, vi 0), (5, vi 1), (0, vr 11 0), (2, vi v2), (3, vi v3)]) (q := 6) dX11_rings_128 rfl (by rfl) (by decide) rfl ?_
                refine jr_goto (pc := 131) (tgt := 29) dX11_rings_131 (by decide) ?_
                exact jr_sub [4, 1, 5, 6, 0] rfl h
              · replace h := h.2 c
                refine jr_iconst (pc := 103) (v := 1) dX11_rings_103 (by decide) ?_
                refine jr_goto (pc := 104) (tgt := 108) dX11_rings_104 (by decide) ?_
                refine jr_istore (pc := 108) (lv' := [(6, vi 1), (5, vi 1), (0, vr 11 0), (1, vi v1), (2, vi v2), (3, vi v3), (4, vi v4)]) dX11_rings_108 (by decide) rfl ?_
                refine jr_iload_n (pc := 110) dX11_rings_110 rfl 3 rfl ?_
                refine jr_iload (pc := 111) dX11_rings_111 1 rfl ?_
                refine jr_if_ne (pc := 113) (tgt := 121) dX11_rings_113 (by decide) (fun _ => ?_) (fun c => absurd c (by decide))
                refine jr_iconst (pc := 121) (v := 1) dX11_rings_121 (by decide) ?_
                refine jr_goto (pc := 122) (tgt := 126) dX11_rings_122 (by decide) ?_
                refine jr_iadd (pc := 126) dX11_rings_126 ?_
                refine jr_istore_n (pc := 127) (lv' := [(1, vi (v1 + 1)), (6, vi 1), (5, vi 1), (0, vr 11 0), (2, vi v2), (3, vi v3), (4, vi v4)]) dX11_rings_127 rfl (by decide) rfl ?_
                refine jr_iinc (pc := 128) (lv' := [(4, vi (v4 + 1)), (1, vi (v1 + 1)), (6, vi 1), (5, vi 1), (0, vr 11 0), (2, vi v2), (3, vi v3)]) (q := 6) dX11_rings_128 rfl (by rfl) (by decide) rfl ?_
                refine jr_goto (pc := 131) (tgt := 29) dX11_rings_131 (by decide) ?_
                exact jr_sub [4, 1, 5, 6, 0] rfl h
theorem dX11_told_0 : decode cX11_told 0 = .ok (.iload_n 1, 1) := by decide +kernel
theorem dX11_told_1 : decode cX11_told 1 = .ok (.tableswitch 144 0 13 #[71, 76, 81, 86, 91, 96, 104, 109, 114, 119, 124, 129, 134, 139], 71) := by decide +kernel
theorem dX11_told_72 : decode cX11_told 72 = .ok (.aload_n 0, 1) := by decide +kernel
theorem dX11_told_73 : decode cX11_told 73 = .ok (.getfield 93, 3) := by decide +kernel
theorem dX11_told_76 : decode cX11_told 76 = .ok (.ireturn, 1) := by decide +kernel
theorem dX11_told_77 : decode cX11_told 77 = .ok (.aload_n 0, 1) := by decide +kernel
theorem dX11_told_78 : decode cX11_told 78 = .ok (.getfield 96, 3) := by decide +kernel
theorem dX11_told_81 : decode cX11_told 81 = .ok (.ireturn, 1) := by decide +kernel
theorem dX11_told_82 : decode cX11_told 82 = .ok (.aload_n 0, 1) := by decide +kernel
theorem dX11_told_83 : decode cX11_told 83 = .ok (.getfield 103, 3) := by decide +kernel
theorem dX11_told_86 : decode cX11_told 86 = .ok (.ireturn, 1) := by decide +kernel
theorem dX11_told_87 : decode cX11_told 87 = .ok (.aload_n 0, 1) := by decide +kernel
theorem dX11_told_88 : decode cX11_told 88 = .ok (.getfield 106, 3) := by decide +kernel
theorem dX11_told_91 : decode cX11_told 91 = .ok (.ireturn, 1) := by decide +kernel
theorem dX11_told_92 : decode cX11_told 92 = .ok (.aload_n 0, 1) := by decide +kernel
theorem dX11_told_93 : decode cX11_told 93 = .ok (.getfield 112, 3) := by decide +kernel
theorem dX11_told_96 : decode cX11_told 96 = .ok (.ireturn, 1) := by decide +kernel
theorem dX11_told_97 : decode cX11_told 97 = .ok (.aload_n 0, 1) := by decide +kernel
theorem dX11_told_98 : decode cX11_told 98 = .ok (.getfield 31, 3) := by decide +kernel
theorem dX11_told_101 : decode cX11_told 101 = .ok (.bipush 32, 2) := by decide +kernel
theorem dX11_told_103 : decode cX11_told 103 = .ok (.iaload, 1) := by decide +kernel
theorem dX11_told_104 : decode cX11_told 104 = .ok (.ireturn, 1) := by decide +kernel
theorem dX11_told_105 : decode cX11_told 105 = .ok (.aload_n 0, 1) := by decide +kernel
theorem dX11_told_106 : decode cX11_told 106 = .ok (.invokevirtual 223, 3) := by decide +kernel
theorem dX11_told_109 : decode cX11_told 109 = .ok (.ireturn, 1) := by decide +kernel
theorem dX11_told_110 : decode cX11_told 110 = .ok (.aload_n 0, 1) := by decide +kernel
theorem dX11_told_111 : decode cX11_told 111 = .ok (.invokevirtual 226, 3) := by decide +kernel
theorem dX11_told_114 : decode cX11_told 114 = .ok (.ireturn, 1) := by decide +kernel
theorem dX11_told_115 : decode cX11_told 115 = .ok (.aload_n 0, 1) := by decide +kernel
theorem dX11_told_116 : decode cX11_told 116 = .ok (.invokevirtual 229, 3) := by decide +kernel
theorem dX11_told_119 : decode cX11_told 119 = .ok (.ireturn, 1) := by decide +kernel
theorem dX11_told_120 : decode cX11_told 120 = .ok (.aload_n 0, 1) := by decide +kernel
theorem dX11_told_121 : decode cX11_told 121 = .ok (.invokevirtual 232, 3) := by decide +kernel
theorem dX11_told_124 : decode cX11_told 124 = .ok (.ireturn, 1) := by decide +kernel
theorem dX11_told_125 : decode cX11_told 125 = .ok (.aload_n 0, 1) := by decide +kernel
theorem dX11_told_126 : decode cX11_told 126 = .ok (.invokevirtual 235, 3) := by decide +kernel
theorem dX11_told_129 : decode cX11_told 129 = .ok (.ireturn, 1) := by decide +kernel
theorem dX11_told_130 : decode cX11_told 130 = .ok (.aload_n 0, 1) := by decide +kernel
theorem dX11_told_131 : decode cX11_told 131 = .ok (.getfield 186, 3) := by decide +kernel
theorem dX11_told_134 : decode cX11_told 134 = .ok (.ireturn, 1) := by decide +kernel
theorem dX11_told_135 : decode cX11_told 135 = .ok (.aload_n 0, 1) := by decide +kernel
theorem dX11_told_136 : decode cX11_told 136 = .ok (.getfield 189, 3) := by decide +kernel
theorem dX11_told_139 : decode cX11_told 139 = .ok (.ireturn, 1) := by decide +kernel
theorem dX11_told_140 : decode cX11_told 140 = .ok (.aload_n 0, 1) := by decide +kernel
theorem dX11_told_141 : decode cX11_told 141 = .ok (.getfield 192, 3) := by decide +kernel
theorem dX11_told_144 : decode cX11_told 144 = .ok (.ireturn, 1) := by decide +kernel
theorem dX11_told_145 : decode cX11_told 145 = .ok (.ldc 111, 2) := by decide +kernel
theorem dX11_told_147 : decode cX11_told 147 = .ok (.ireturn, 1) := by decide +kernel
set_option maxHeartbeats 4000000 in
set_option maxRecDepth 20000 in
theorem en_X11_told {a1 : Int32} {M : jw_Mem} {Q : Int32 → jw_Mem → Prop}  (h : ((a1.toInt < 0 ∨ 13 < a1.toInt → Q (-1000000002) M) ∧ (a1.toInt = 0 → Q (M 11 0 0) M) ∧ (a1.toInt = 1 → Q (M 11 0 1) M) ∧ (a1.toInt = 2 → Q (M 11 0 3) M) ∧ (a1.toInt = 3 → Q (M 11 0 7) M) ∧ (a1.toInt = 4 → Q (M 11 0 14) M) ∧ (a1.toInt = 5 → (vp_in 32 33 ∧ Q (M 43 0 (32 : Int32).toNatClampNeg) M)) ∧ (a1.toInt = 6 → (jw_M 1 mX11_standingOnes [vr 11 0] M (fun x1 M2 => Q x1 M2))) ∧ (a1.toInt = 7 → (jw_M 1 mX11_waitingOnes [vr 11 0] M (fun x3 M4 => Q x3 M4))) ∧ (a1.toInt = 8 → (jw_M 4 mX11_fallingOnes [vr 11 0] M (fun x5 M6 => Q x5 M6))) ∧ (a1.toInt = 9 → (jw_M 3 mX11_beloved [vr 11 0] M (fun x7 M8 => Q x7 M8))) ∧ (a1.toInt = 10 → (jw_M 3 mX11_rings [vr 11 0] M (fun x9 M10 => Q x9 M10))) ∧ (a1.toInt = 11 → Q (M 11 0 34) M) ∧ (a1.toInt = 12 → Q (M 11 0 38) M) ∧ (a1.toInt = 13 → Q (M 11 0 30) M))) : jw_M 5 mX11_told [vr 11 0, vi a1] M Q := by
  refine jw_M.of (by decide) (Nat.le_of_ble_eq_true rfl) ?_
  show jw_J 5 mX11_told 0 [(0, vr 11 0), (1, vi a1)] [] M Q
  refine jr_iload_n (pc := 0) dX11_told_0 rfl 1 rfl ?_
  refine jr_tsw (pc := 1) dX11_told_1 (tgt := 145) (by decide) (by decide) (fun c => ?_) (fun j c c2 => ?_)
  · replace h := h.1 c
    refine jr_ldc (pc := 145) fk_X11_111 dX11_told_145 ?_
    exact jr_iret (pc := 147) rfl dX11_told_147 h
  · have hj : j = 0 ∨ j = 1 ∨ j = 2 ∨ j = 3 ∨ j = 4 ∨ j = 5 ∨ j = 6 ∨ j = 7 ∨ j = 8 ∨ j = 9 ∨ j = 10 ∨ j = 11 ∨ j = 12 ∨ j = 13 := by omega
    rcases hj with rfl | rfl | rfl | rfl | rfl | rfl | rfl | rfl | rfl | rfl | rfl | rfl | rfl | rfl
    · replace h := h.2.1 (c.trans (by decide))
      refine ⟨71, 72, rfl, by decide, ?_⟩
      refine jr_aload_n (pc := 72) dX11_told_72 rfl 0 rfl ?_
      refine jr_get (pc := 73) (v := vi (M 11 0 0)) fg_X11_93 (by decide) rfl dX11_told_73 ?_
      exact jr_iret (pc := 76) rfl dX11_told_76 h
    · replace h := h.2.2.1 (c.trans (by decide))
      refine ⟨76, 77, rfl, by decide, ?_⟩
      refine jr_aload_n (pc := 77) dX11_told_77 rfl 0 rfl ?_
      refine jr_get (pc := 78) (v := vi (M 11 0 1)) fg_X11_96 (by decide) rfl dX11_told_78 ?_
      exact jr_iret (pc := 81) rfl dX11_told_81 h
    · replace h := h.2.2.2.1 (c.trans (by decide))
      refine ⟨81, 82, rfl, by decide, ?_⟩
      refine jr_aload_n (pc := 82) dX11_told_82 rfl 0 rfl ?_
      refine jr_get (pc := 83) (v := vi (M 11 0 3)) fg_X11_103 (by decide) rfl dX11_told_83 ?_
      exact jr_iret (pc := 86) rfl dX11_told_86 h
    · replace h := h.2.2.2.2.1 (c.trans (by decide))
      refine ⟨86, 87, rfl, by decide, ?_⟩
      refine jr_aload_n (pc := 87) dX11_told_87 rfl 0 rfl ?_
      refine jr_get (pc := 88) (v := vi (M 11 0 7)) fg_X11_106 (by decide) rfl dX11_told_88 ?_
      exact jr_iret (pc := 91) rfl dX11_told_91 h
    · replace h := h.2.2.2.2.2.1 (c.trans (by decide))
      refine ⟨91, 92, rfl, by decide, ?_⟩
      refine jr_aload_n (pc := 92) dX11_told_92 rfl 0 rfl ?_
      refine jr_get (pc := 93) (v := vi (M 11 0 14)) fg_X11_112 (by decide) rfl dX11_told_93 ?_
      exact jr_iret (pc := 96) rfl dX11_told_96 h
    · replace h := h.2.2.2.2.2.2.1 (c.trans (by decide))
      refine ⟨96, 97, rfl, by decide, ?_⟩
      refine jr_aload_n (pc := 97) dX11_told_97 rfl 0 rfl ?_
      refine jr_get (pc := 98) (v := vr 43 0) fg_X11_31 (by decide) rfl dX11_told_98 ?_
      refine jr_bipush (pc := 101) (v := 32) dX11_told_101 (by decide) ?_
      refine jr_iald (pc := 103) ⟨rfl, (by decide)⟩ h.1 dX11_told_103 ?_
      replace h := h.2
      exact jr_iret (pc := 104) rfl dX11_told_104 h
    · replace h := h.2.2.2.2.2.2.2.1 (c.trans (by decide))
      refine ⟨104, 105, rfl, by decide, ?_⟩
      refine jr_aload_n (pc := 105) dX11_told_105 rfl 0 rfl ?_
      refine jr_callV (pc := 106) (d' := 1) (mt' := mX11_standingOnes) (k := 11) (n := 0) (As := []) (st := []) fc_X11_223 (by decide) (by decide) (Nat.le_of_ble_eq_true rfl) rfl dX11_told_106 (jw_M.mono h (fun x1 M2 h => ?_))
      show jw_J 5 mX11_told 109 [(0, vr 11 0), (1, vi a1)] [vi x1] M2 Q
      exact jr_iret (pc := 109) rfl dX11_told_109 h
    · replace h := h.2.2.2.2.2.2.2.2.1 (c.trans (by decide))
      refine ⟨109, 110, rfl, by decide, ?_⟩
      refine jr_aload_n (pc := 110) dX11_told_110 rfl 0 rfl ?_
      refine jr_callV (pc := 111) (d' := 1) (mt' := mX11_waitingOnes) (k := 11) (n := 0) (As := []) (st := []) fc_X11_226 (by decide) (by decide) (Nat.le_of_ble_eq_true rfl) rfl dX11_told_111 (jw_M.mono h (fun x3 M4 h => ?_))
      show jw_J 5 mX11_told 114 [(0, vr 11 0), (1, vi a1)] [vi x3] M4 Q
      exact jr_iret (pc := 114) rfl dX11_told_114 h
    · replace h := h.2.2.2.2.2.2.2.2.2.1 (c.trans (by decide))
      refine ⟨114, 115, rfl, by decide, ?_⟩
      refine jr_aload_n (pc := 115) dX11_told_115 rfl 0 rfl ?_
      refine jr_callV (pc := 116) (d' := 4) (mt' := mX11_fallingOnes) (k := 11) (n := 0) (As := []) (st := []) fc_X11_229 (by decide) (by decide) (Nat.le_of_ble_eq_true rfl) rfl dX11_told_116 (jw_M.mono h (fun x5 M6 h => ?_))
      show jw_J 5 mX11_told 119 [(0, vr 11 0), (1, vi a1)] [vi x5] M6 Q
      exact jr_iret (pc := 119) rfl dX11_told_119 h
    · replace h := h.2.2.2.2.2.2.2.2.2.2.1 (c.trans (by decide))
      refine ⟨119, 120, rfl, by decide, ?_⟩
      refine jr_aload_n (pc := 120) dX11_told_120 rfl 0 rfl ?_
      refine jr_callV (pc := 121) (d' := 3) (mt' := mX11_beloved) (k := 11) (n := 0) (As := []) (st := []) fc_X11_232 (by decide) (by decide) (Nat.le_of_ble_eq_true rfl) rfl dX11_told_121 (jw_M.mono h (fun x7 M8 h => ?_))
      show jw_J 5 mX11_told 124 [(0, vr 11 0), (1, vi a1)] [vi x7] M8 Q
      exact jr_iret (pc := 124) rfl dX11_told_124 h
    · replace h := h.2.2.2.2.2.2.2.2.2.2.2.1 (c.trans (by decide))
      refine ⟨124, 125, rfl, by decide, ?_⟩
      refine jr_aload_n (pc := 125) dX11_told_125 rfl 0 rfl ?_
      refine jr_callV (pc := 126) (d' := 3) (mt' := mX11_rings) (k := 11) (n := 0) (As := []) (st := []) fc_X11_235 (by decide) (by decide) (Nat.le_of_ble_eq_true rfl) rfl dX11_told_126 (jw_M.mono h (fun x9 M10 h => ?_))
      show jw_J 5 mX11_told 129 [(0, vr 11 0), (1, vi a1)] [vi x9] M10 Q
      exact jr_iret (pc := 129) rfl dX11_told_129 h
    · replace h := h.2.2.2.2.2.2.2.2.2.2.2.2.1 (c.trans (by decide))
      refine ⟨129, 130, rfl, by decide, ?_⟩
      refine jr_aload_n (pc := 130) dX11_told_130 rfl 0 rfl ?_
      refine jr_get (pc := 131) (v := vi (M 11 0 34)) fg_X11_186 (by decide) rfl dX11_told_131 ?_
      exact jr_iret (pc := 134) rfl dX11_told_134 h
    · replace h := h.2.2.2.2.2.2.2.2.2.2.2.2.2.1 (c.trans (by decide))
      refine ⟨134, 135, rfl, by decide, ?_⟩
      refine jr_aload_n (pc := 135) dX11_told_135 rfl 0 rfl ?_
      refine jr_get (pc := 136) (v := vi (M 11 0 38)) fg_X11_189 (by decide) rfl dX11_told_136 ?_
      exact jr_iret (pc := 139) rfl dX11_told_139 h
    · replace h := h.2.2.2.2.2.2.2.2.2.2.2.2.2.2 (c.trans (by decide))
      refine ⟨139, 140, rfl, by decide, ?_⟩
      refine jr_aload_n (pc := 140) dX11_told_140 rfl 0 rfl ?_
      refine jr_get (pc := 141) (v := vi (M 11 0 30)) fg_X11_192 (by decide) rfl dX11_told_141 ?_
      exact jr_iret (pc := 144) rfl dX11_told_144 h
theorem dX11_plinth_0 : decode cX11_plinth 0 = .ok (.aload_n 0, 1) := by decide +kernel
theorem dX11_plinth_1 : decode cX11_plinth 1 = .ok (.iload_n 1, 1) := by decide +kernel
theorem dX11_plinth_2 : decode cX11_plinth 2 = .ok (.invokevirtual 238, 3) := by decide +kernel
theorem dX11_plinth_5 : decode cX11_plinth 5 = .ok (.ifCond .ne 6, 3) := by decide +kernel
theorem dX11_plinth_8 : decode cX11_plinth 8 = .ok (.ldc 241, 2) := by decide +kernel
theorem dX11_plinth_10 : decode cX11_plinth 10 = .ok (.ireturn, 1) := by decide +kernel
theorem dX11_plinth_11 : decode cX11_plinth 11 = .ok (.iload_n 2, 1) := by decide +kernel
theorem dX11_plinth_12 : decode cX11_plinth 12 = .ok (.tableswitch 61 0 3 #[32, 39, 45, 51], 32) := by decide +kernel
theorem dX11_plinth_44 : decode cX11_plinth 44 = .ok (.aload_n 0, 1) := by decide +kernel
theorem dX11_plinth_45 : decode cX11_plinth 45 = .ok (.getfield 7, 3) := by decide +kernel
theorem dX11_plinth_48 : decode cX11_plinth 48 = .ok (.iload_n 1, 1) := by decide +kernel
theorem dX11_plinth_49 : decode cX11_plinth 49 = .ok (.iaload, 1) := by decide +kernel
theorem dX11_plinth_50 : decode cX11_plinth 50 = .ok (.ireturn, 1) := by decide +kernel
theorem dX11_plinth_51 : decode cX11_plinth 51 = .ok (.aload_n 0, 1) := by decide +kernel
theorem dX11_plinth_52 : decode cX11_plinth 52 = .ok (.iload_n 1, 1) := by decide +kernel
theorem dX11_plinth_53 : decode cX11_plinth 53 = .ok (.invokevirtual 217, 3) := by decide +kernel
theorem dX11_plinth_56 : decode cX11_plinth 56 = .ok (.ireturn, 1) := by decide +kernel
theorem dX11_plinth_57 : decode cX11_plinth 57 = .ok (.aload_n 0, 1) := by decide +kernel
theorem dX11_plinth_58 : decode cX11_plinth 58 = .ok (.iload_n 1, 1) := by decide +kernel
theorem dX11_plinth_59 : decode cX11_plinth 59 = .ok (.invokevirtual 205, 3) := by decide +kernel
theorem dX11_plinth_62 : decode cX11_plinth 62 = .ok (.ireturn, 1) := by decide +kernel
theorem dX11_plinth_63 : decode cX11_plinth 63 = .ok (.aload_n 0, 1) := by decide +kernel
theorem dX11_plinth_64 : decode cX11_plinth 64 = .ok (.aload_n 0, 1) := by decide +kernel
theorem dX11_plinth_65 : decode cX11_plinth 65 = .ok (.iload_n 1, 1) := by decide +kernel
theorem dX11_plinth_66 : decode cX11_plinth 66 = .ok (.invokevirtual 205, 3) := by decide +kernel
theorem dX11_plinth_69 : decode cX11_plinth 69 = .ok (.invokevirtual 202, 3) := by decide +kernel
theorem dX11_plinth_72 : decode cX11_plinth 72 = .ok (.ireturn, 1) := by decide +kernel
theorem dX11_plinth_73 : decode cX11_plinth 73 = .ok (.ldc 111, 2) := by decide +kernel
theorem dX11_plinth_75 : decode cX11_plinth 75 = .ok (.ireturn, 1) := by decide +kernel
set_option maxHeartbeats 4000000 in
set_option maxRecDepth 20000 in
theorem en_X11_plinth {a1 : Int32} {a2 : Int32} {M : jw_Mem} {Q : Int32 → jw_Mem → Prop}  (h : (jw_M 1 mX11_isPlinth [vr 11 0, vi a1] M (fun x1 M2 => ((¬ x1 = 0 → ((a2.toInt < 0 ∨ 3 < a2.toInt → Q (-1000000002) M2) ∧ (a2.toInt = 0 → (vp_in a1 5 ∧ Q (M2 36 0 a1.toNatClampNeg) M2)) ∧ (a2.toInt = 1 → (jw_M 0 mX11_whoIsOn [vr 11 0, vi a1] M2 (fun x3 M4 => Q x3 M4))) ∧ (a2.toInt = 2 → (jw_M 1 mX11_walkersUnder [vr 11 0, vi a1] M2 (fun x5 M6 => Q x5 M6))) ∧ (a2.toInt = 3 → (jw_M 1 mX11_walkersUnder [vr 11 0, vi a1] M2 (fun x7 M8 => (jw_M 1 mX11_votesOf [vr 11 0, vi x7] M8 (fun x9 M10 => Q x9 M10))))))) ∧ (x1 = 0 → Q (-1000000001) M2))))) : jw_M 2 mX11_plinth [vr 11 0, vi a1, vi a2] M Q := by
  refine jw_M.of (by decide) (Nat.le_of_ble_eq_true rfl) ?_
  show jw_J 2 mX11_plinth 0 [(0, vr 11 0), (1, vi a1), (2, vi a2)] [] M Q
  refine jr_aload_n (pc := 0) dX11_plinth_0 rfl 0 rfl ?_
  refine jr_iload_n (pc := 1) dX11_plinth_1 rfl 1 rfl ?_
  refine jr_callV (pc := 2) (d' := 1) (mt' := mX11_isPlinth) (k := 11) (n := 0) (As := [vi a1]) (st := []) fc_X11_238 (by decide) (by decide) (Nat.le_of_ble_eq_true rfl) rfl dX11_plinth_2 (jw_M.mono h (fun x1 M2 h => ?_))
  show jw_J 2 mX11_plinth 5 [(0, vr 11 0), (1, vi a1), (2, vi a2)] [vi x1] M2 Q
  refine jr_if_ne (pc := 5) (tgt := 11) dX11_plinth_5 (by decide) (fun c => ?_) (fun c => ?_)
  · replace h := h.1 c
    refine jr_iload_n (pc := 11) dX11_plinth_11 rfl 2 rfl ?_
    refine jr_tsw (pc := 12) dX11_plinth_12 (tgt := 73) (by decide) (by decide) (fun c => ?_) (fun j c c2 => ?_)
    · replace h := h.1 c
      refine jr_ldc (pc := 73) fk_X11_111 dX11_plinth_73 ?_
      exact jr_iret (pc := 75) rfl dX11_plinth_75 h
    · have hj : j = 0 ∨ j = 1 ∨ j = 2 ∨ j = 3 := by omega
      rcases hj with rfl | rfl | rfl | rfl
      · replace h := h.2.1 (c.trans (by decide))
        refine ⟨32, 44, rfl, by decide, ?_⟩
        refine jr_aload_n (pc := 44) dX11_plinth_44 rfl 0 rfl ?_
        refine jr_get (pc := 45) (v := vr 36 0) fg_X11_7 (by decide) rfl dX11_plinth_45 ?_
        refine jr_iload_n (pc := 48) dX11_plinth_48 rfl 1 rfl ?_
        refine jr_iald (pc := 49) ⟨rfl, (by decide)⟩ h.1 dX11_plinth_49 ?_
        replace h := h.2
        exact jr_iret (pc := 50) rfl dX11_plinth_50 h
      · replace h := h.2.2.1 (c.trans (by decide))
        refine ⟨39, 51, rfl, by decide, ?_⟩
        refine jr_aload_n (pc := 51) dX11_plinth_51 rfl 0 rfl ?_
        refine jr_iload_n (pc := 52) dX11_plinth_52 rfl 1 rfl ?_
        refine jr_callV (pc := 53) (d' := 0) (mt' := mX11_whoIsOn) (k := 11) (n := 0) (As := [vi a1]) (st := []) fc_X11_217 (by decide) (by decide) (Nat.le_of_ble_eq_true rfl) rfl dX11_plinth_53 (jw_M.mono h (fun x3 M4 h => ?_))
        show jw_J 2 mX11_plinth 56 [(0, vr 11 0), (1, vi a1), (2, vi a2)] [vi x3] M4 Q
        exact jr_iret (pc := 56) rfl dX11_plinth_56 h
      · replace h := h.2.2.2.1 (c.trans (by decide))
        refine ⟨45, 57, rfl, by decide, ?_⟩
        refine jr_aload_n (pc := 57) dX11_plinth_57 rfl 0 rfl ?_
        refine jr_iload_n (pc := 58) dX11_plinth_58 rfl 1 rfl ?_
        refine jr_callV (pc := 59) (d' := 1) (mt' := mX11_walkersUnder) (k := 11) (n := 0) (As := [vi a1]) (st := []) fc_X11_205 (by decide) (by decide) (Nat.le_of_ble_eq_true rfl) rfl dX11_plinth_59 (jw_M.mono h (fun x5 M6 h => ?_))
        show jw_J 2 mX11_plinth 62 [(0, vr 11 0), (1, vi a1), (2, vi a2)] [vi x5] M6 Q
        exact jr_iret (pc := 62) rfl dX11_plinth_62 h
      · replace h := h.2.2.2.2 (c.trans (by decide))
        refine ⟨51, 63, rfl, by decide, ?_⟩
        refine jr_aload_n (pc := 63) dX11_plinth_63 rfl 0 rfl ?_
        refine jr_aload_n (pc := 64) dX11_plinth_64 rfl 0 rfl ?_
        refine jr_iload_n (pc := 65) dX11_plinth_65 rfl 1 rfl ?_
        refine jr_callV (pc := 66) (d' := 1) (mt' := mX11_walkersUnder) (k := 11) (n := 0) (As := [vi a1]) (st := [vr 11 0]) fc_X11_205 (by decide) (by decide) (Nat.le_of_ble_eq_true rfl) rfl dX11_plinth_66 (jw_M.mono h (fun x7 M8 h => ?_))
        show jw_J 2 mX11_plinth 69 [(0, vr 11 0), (1, vi a1), (2, vi a2)] [vi x7, vr 11 0] M8 Q
        refine jr_callV (pc := 69) (d' := 1) (mt' := mX11_votesOf) (k := 11) (n := 0) (As := [vi x7]) (st := []) fc_X11_202 (by decide) (by decide) (Nat.le_of_ble_eq_true rfl) rfl dX11_plinth_69 (jw_M.mono h (fun x9 M10 h => ?_))
        show jw_J 2 mX11_plinth 72 [(0, vr 11 0), (1, vi a1), (2, vi a2)] [vi x9] M10 Q
        exact jr_iret (pc := 72) rfl dX11_plinth_72 h
  · replace h := h.2 c
    refine jr_ldc (pc := 8) fk_X11_241 dX11_plinth_8 ?_
    exact jr_iret (pc := 10) rfl dX11_plinth_10 h
theorem dX11_statue_0 : decode cX11_statue 0 = .ok (.aload_n 0, 1) := by decide +kernel
theorem dX11_statue_1 : decode cX11_statue 1 = .ok (.iload_n 1, 1) := by decide +kernel
theorem dX11_statue_2 : decode cX11_statue 2 = .ok (.invokevirtual 242, 3) := by decide +kernel
theorem dX11_statue_5 : decode cX11_statue 5 = .ok (.ifCond .ne 6, 3) := by decide +kernel
theorem dX11_statue_8 : decode cX11_statue 8 = .ok (.ldc 241, 2) := by decide +kernel
theorem dX11_statue_10 : decode cX11_statue 10 = .ok (.ireturn, 1) := by decide +kernel
theorem dX11_statue_11 : decode cX11_statue 11 = .ok (.iload_n 2, 1) := by decide +kernel
theorem dX11_statue_12 : decode cX11_statue 12 = .ok (.tableswitch 113 0 6 #[44, 51, 58, 65, 75, 85, 107], 44) := by decide +kernel
theorem dX11_statue_56 : decode cX11_statue 56 = .ok (.aload_n 0, 1) := by decide +kernel
theorem dX11_statue_57 : decode cX11_statue 57 = .ok (.getfield 13, 3) := by decide +kernel
theorem dX11_statue_60 : decode cX11_statue 60 = .ok (.iload_n 1, 1) := by decide +kernel
theorem dX11_statue_61 : decode cX11_statue 61 = .ok (.iaload, 1) := by decide +kernel
theorem dX11_statue_62 : decode cX11_statue 62 = .ok (.ireturn, 1) := by decide +kernel
theorem dX11_statue_63 : decode cX11_statue 63 = .ok (.aload_n 0, 1) := by decide +kernel
theorem dX11_statue_64 : decode cX11_statue 64 = .ok (.getfield 19, 3) := by decide +kernel
theorem dX11_statue_67 : decode cX11_statue 67 = .ok (.iload_n 1, 1) := by decide +kernel
theorem dX11_statue_68 : decode cX11_statue 68 = .ok (.iaload, 1) := by decide +kernel
theorem dX11_statue_69 : decode cX11_statue 69 = .ok (.ireturn, 1) := by decide +kernel
theorem dX11_statue_70 : decode cX11_statue 70 = .ok (.aload_n 0, 1) := by decide +kernel
theorem dX11_statue_71 : decode cX11_statue 71 = .ok (.getfield 31, 3) := by decide +kernel
theorem dX11_statue_74 : decode cX11_statue 74 = .ok (.iload_n 1, 1) := by decide +kernel
theorem dX11_statue_75 : decode cX11_statue 75 = .ok (.iaload, 1) := by decide +kernel
theorem dX11_statue_76 : decode cX11_statue 76 = .ok (.ireturn, 1) := by decide +kernel
theorem dX11_statue_77 : decode cX11_statue 77 = .ok (.aload_n 0, 1) := by decide +kernel
theorem dX11_statue_78 : decode cX11_statue 78 = .ok (.getfield 31, 3) := by decide +kernel
theorem dX11_statue_81 : decode cX11_statue 81 = .ok (.bipush 6, 2) := by decide +kernel
theorem dX11_statue_83 : decode cX11_statue 83 = .ok (.iload_n 1, 1) := by decide +kernel
theorem dX11_statue_84 : decode cX11_statue 84 = .ok (.iadd, 1) := by decide +kernel
theorem dX11_statue_85 : decode cX11_statue 85 = .ok (.iaload, 1) := by decide +kernel
theorem dX11_statue_86 : decode cX11_statue 86 = .ok (.ireturn, 1) := by decide +kernel
theorem dX11_statue_87 : decode cX11_statue 87 = .ok (.aload_n 0, 1) := by decide +kernel
theorem dX11_statue_88 : decode cX11_statue 88 = .ok (.getfield 31, 3) := by decide +kernel
theorem dX11_statue_91 : decode cX11_statue 91 = .ok (.bipush 12, 2) := by decide +kernel
theorem dX11_statue_93 : decode cX11_statue 93 = .ok (.iload_n 1, 1) := by decide +kernel
theorem dX11_statue_94 : decode cX11_statue 94 = .ok (.iadd, 1) := by decide +kernel
theorem dX11_statue_95 : decode cX11_statue 95 = .ok (.iaload, 1) := by decide +kernel
theorem dX11_statue_96 : decode cX11_statue 96 = .ok (.ireturn, 1) := by decide +kernel
theorem dX11_statue_97 : decode cX11_statue 97 = .ok (.aload_n 0, 1) := by decide +kernel
theorem dX11_statue_98 : decode cX11_statue 98 = .ok (.iload_n 1, 1) := by decide +kernel
theorem dX11_statue_99 : decode cX11_statue 99 = .ok (.invokevirtual 211, 3) := by decide +kernel
theorem dX11_statue_102 : decode cX11_statue 102 = .ok (.ifCond .eq 15, 3) := by decide +kernel
theorem dX11_statue_105 : decode cX11_statue 105 = .ok (.aload_n 0, 1) := by decide +kernel
theorem dX11_statue_106 : decode cX11_statue 106 = .ok (.iload_n 1, 1) := by decide +kernel
theorem dX11_statue_107 : decode cX11_statue 107 = .ok (.invokevirtual 214, 3) := by decide +kernel
theorem dX11_statue_110 : decode cX11_statue 110 = .ok (.sipush 1000, 3) := by decide +kernel
theorem dX11_statue_113 : decode cX11_statue 113 = .ok (.iadd, 1) := by decide +kernel
theorem dX11_statue_114 : decode cX11_statue 114 = .ok (.goto 4, 3) := by decide +kernel
theorem dX11_statue_117 : decode cX11_statue 117 = .ok (.iconst (-1), 1) := by decide +kernel
theorem dX11_statue_118 : decode cX11_statue 118 = .ok (.ireturn, 1) := by decide +kernel
theorem dX11_statue_119 : decode cX11_statue 119 = .ok (.aload_n 0, 1) := by decide +kernel
theorem dX11_statue_120 : decode cX11_statue 120 = .ok (.iload_n 1, 1) := by decide +kernel
theorem dX11_statue_121 : decode cX11_statue 121 = .ok (.invokevirtual 199, 3) := by decide +kernel
theorem dX11_statue_124 : decode cX11_statue 124 = .ok (.ireturn, 1) := by decide +kernel
theorem dX11_statue_125 : decode cX11_statue 125 = .ok (.ldc 111, 2) := by decide +kernel
theorem dX11_statue_127 : decode cX11_statue 127 = .ok (.ireturn, 1) := by decide +kernel
set_option maxHeartbeats 4000000 in
set_option maxRecDepth 20000 in
theorem en_X11_statue {a1 : Int32} {a2 : Int32} {M : jw_Mem} {Q : Int32 → jw_Mem → Prop}  (h : (jw_M 1 mX11_isStatue [vr 11 0, vi a1] M (fun x1 M2 => ((¬ x1 = 0 → ((a2.toInt < 0 ∨ 6 < a2.toInt → Q (-1000000002) M2) ∧ (a2.toInt = 0 → (vp_in a1 6 ∧ Q (M2 37 0 a1.toNatClampNeg) M2)) ∧ (a2.toInt = 1 → (vp_in a1 6 ∧ Q (M2 39 0 a1.toNatClampNeg) M2)) ∧ (a2.toInt = 2 → (vp_in a1 33 ∧ Q (M2 43 0 a1.toNatClampNeg) M2)) ∧ (a2.toInt = 3 → (vp_in (6 + a1) 33 ∧ Q (M2 43 0 ((6 + a1) : Int32).toNatClampNeg) M2)) ∧ (a2.toInt = 4 → (vp_in (12 + a1) 33 ∧ Q (M2 43 0 ((12 + a1) : Int32).toNatClampNeg) M2)) ∧ (a2.toInt = 5 → (jw_M 0 mX11_stands [vr 11 0, vi a1] M2 (fun x3 M4 => ((x3 = 0 → Q (-1) M4) ∧ (¬ x3 = 0 → (jw_M 3 mX11_marginOf [vr 11 0, vi a1] M4 (fun x5 M6 => Q (x5 + 1000) M6))))))) ∧ (a2.toInt = 6 → (jw_M 1 mX11_whoLikes [vr 11 0, vi a1] M2 (fun x7 M8 => Q x7 M8))))) ∧ (x1 = 0 → Q (-1000000001) M2))))) : jw_M 4 mX11_statue [vr 11 0, vi a1, vi a2] M Q := by
  refine jw_M.of (by decide) (Nat.le_of_ble_eq_true rfl) ?_
  show jw_J 4 mX11_statue 0 [(0, vr 11 0), (1, vi a1), (2, vi a2)] [] M Q
  refine jr_aload_n (pc := 0) dX11_statue_0 rfl 0 rfl ?_
  refine jr_iload_n (pc := 1) dX11_statue_1 rfl 1 rfl ?_
  refine jr_callV (pc := 2) (d' := 1) (mt' := mX11_isStatue) (k := 11) (n := 0) (As := [vi a1]) (st := []) fc_X11_242 (by decide) (by decide) (Nat.le_of_ble_eq_true rfl) rfl dX11_statue_2 (jw_M.mono h (fun x1 M2 h => ?_))
  show jw_J 4 mX11_statue 5 [(0, vr 11 0), (1, vi a1), (2, vi a2)] [vi x1] M2 Q
  refine jr_if_ne (pc := 5) (tgt := 11) dX11_statue_5 (by decide) (fun c => ?_) (fun c => ?_)
  · replace h := h.1 c
    refine jr_iload_n (pc := 11) dX11_statue_11 rfl 2 rfl ?_
    refine jr_tsw (pc := 12) dX11_statue_12 (tgt := 125) (by decide) (by decide) (fun c => ?_) (fun j c c2 => ?_)
    · replace h := h.1 c
      refine jr_ldc (pc := 125) fk_X11_111 dX11_statue_125 ?_
      exact jr_iret (pc := 127) rfl dX11_statue_127 h
    · have hj : j = 0 ∨ j = 1 ∨ j = 2 ∨ j = 3 ∨ j = 4 ∨ j = 5 ∨ j = 6 := by omega
      rcases hj with rfl | rfl | rfl | rfl | rfl | rfl | rfl
      · replace h := h.2.1 (c.trans (by decide))
        refine ⟨44, 56, rfl, by decide, ?_⟩
        refine jr_aload_n (pc := 56) dX11_statue_56 rfl 0 rfl ?_
        refine jr_get (pc := 57) (v := vr 37 0) fg_X11_13 (by decide) rfl dX11_statue_57 ?_
        refine jr_iload_n (pc := 60) dX11_statue_60 rfl 1 rfl ?_
        refine jr_iald (pc := 61) ⟨rfl, (by decide)⟩ h.1 dX11_statue_61 ?_
        replace h := h.2
        exact jr_iret (pc := 62) rfl dX11_statue_62 h
      · replace h := h.2.2.1 (c.trans (by decide))
        refine ⟨51, 63, rfl, by decide, ?_⟩
        refine jr_aload_n (pc := 63) dX11_statue_63 rfl 0 rfl ?_
        refine jr_get (pc := 64) (v := vr 39 0) fg_X11_19 (by decide) rfl dX11_statue_64 ?_
        refine jr_iload_n (pc := 67) dX11_statue_67 rfl 1 rfl ?_
        refine jr_iald (pc := 68) ⟨rfl, (by decide)⟩ h.1 dX11_statue_68 ?_
        replace h := h.2
        exact jr_iret (pc := 69) rfl dX11_statue_69 h
      · replace h := h.2.2.2.1 (c.trans (by decide))
        refine ⟨58, 70, rfl, by decide, ?_⟩
        refine jr_aload_n (pc := 70) dX11_statue_70 rfl 0 rfl ?_
        refine jr_get (pc := 71) (v := vr 43 0) fg_X11_31 (by decide) rfl dX11_statue_71 ?_
        refine jr_iload_n (pc := 74) dX11_statue_74 rfl 1 rfl ?_
        refine jr_iald (pc := 75) ⟨rfl, (by decide)⟩ h.1 dX11_statue_75 ?_
        replace h := h.2
        exact jr_iret (pc := 76) rfl dX11_statue_76 h
      · replace h := h.2.2.2.2.1 (c.trans (by decide))
        refine ⟨65, 77, rfl, by decide, ?_⟩
        refine jr_aload_n (pc := 77) dX11_statue_77 rfl 0 rfl ?_
        refine jr_get (pc := 78) (v := vr 43 0) fg_X11_31 (by decide) rfl dX11_statue_78 ?_
        refine jr_bipush (pc := 81) (v := 6) dX11_statue_81 (by decide) ?_
        refine jr_iload_n (pc := 83) dX11_statue_83 rfl 1 rfl ?_
        refine jr_iadd (pc := 84) dX11_statue_84 ?_
        refine jr_iald (pc := 85) ⟨rfl, (by decide)⟩ h.1 dX11_statue_85 ?_
        replace h := h.2
        exact jr_iret (pc := 86) rfl dX11_statue_86 h
      · replace h := h.2.2.2.2.2.1 (c.trans (by decide))
        refine ⟨75, 87, rfl, by decide, ?_⟩
        refine jr_aload_n (pc := 87) dX11_statue_87 rfl 0 rfl ?_
        refine jr_get (pc := 88) (v := vr 43 0) fg_X11_31 (by decide) rfl dX11_statue_88 ?_
        refine jr_bipush (pc := 91) (v := 12) dX11_statue_91 (by decide) ?_
        refine jr_iload_n (pc := 93) dX11_statue_93 rfl 1 rfl ?_
        refine jr_iadd (pc := 94) dX11_statue_94 ?_
        refine jr_iald (pc := 95) ⟨rfl, (by decide)⟩ h.1 dX11_statue_95 ?_
        replace h := h.2
        exact jr_iret (pc := 96) rfl dX11_statue_96 h
      · replace h := h.2.2.2.2.2.2.1 (c.trans (by decide))
        refine ⟨85, 97, rfl, by decide, ?_⟩
        refine jr_aload_n (pc := 97) dX11_statue_97 rfl 0 rfl ?_
        refine jr_iload_n (pc := 98) dX11_statue_98 rfl 1 rfl ?_
        refine jr_callV (pc := 99) (d' := 0) (mt' := mX11_stands) (k := 11) (n := 0) (As := [vi a1]) (st := []) fc_X11_211 (by decide) (by decide) (Nat.le_of_ble_eq_true rfl) rfl dX11_statue_99 (jw_M.mono h (fun x3 M4 h => ?_))
        show jw_J 4 mX11_statue 102 [(0, vr 11 0), (1, vi a1), (2, vi a2)] [vi x3] M4 Q
        refine jr_if_eq (pc := 102) (tgt := 117) dX11_statue_102 (by decide) (fun c => ?_) (fun c => ?_)
        · replace h := h.1 c
          refine jr_iconst (pc := 117) (v := (-1)) dX11_statue_117 (by decide) ?_
          exact jr_iret (pc := 118) rfl dX11_statue_118 h
        · replace h := h.2 c
          refine jr_aload_n (pc := 105) dX11_statue_105 rfl 0 rfl ?_
          refine jr_iload_n (pc := 106) dX11_statue_106 rfl 1 rfl ?_
          refine jr_callV (pc := 107) (d' := 3) (mt' := mX11_marginOf) (k := 11) (n := 0) (As := [vi a1]) (st := []) fc_X11_214 (by decide) (by decide) (Nat.le_of_ble_eq_true rfl) rfl dX11_statue_107 (jw_M.mono h (fun x5 M6 h => ?_))
          show jw_J 4 mX11_statue 110 [(0, vr 11 0), (1, vi a1), (2, vi a2)] [vi x5] M6 Q
          refine jr_sipush (pc := 110) (v := 1000) dX11_statue_110 (by decide) ?_
          refine jr_iadd (pc := 113) dX11_statue_113 ?_
          refine jr_goto (pc := 114) (tgt := 118) dX11_statue_114 (by decide) ?_
          exact jr_iret (pc := 118) rfl dX11_statue_118 h
      · replace h := h.2.2.2.2.2.2.2 (c.trans (by decide))
        refine ⟨107, 119, rfl, by decide, ?_⟩
        refine jr_aload_n (pc := 119) dX11_statue_119 rfl 0 rfl ?_
        refine jr_iload_n (pc := 120) dX11_statue_120 rfl 1 rfl ?_
        refine jr_callV (pc := 121) (d' := 1) (mt' := mX11_whoLikes) (k := 11) (n := 0) (As := [vi a1]) (st := []) fc_X11_199 (by decide) (by decide) (Nat.le_of_ble_eq_true rfl) rfl dX11_statue_121 (jw_M.mono h (fun x7 M8 h => ?_))
        show jw_J 4 mX11_statue 124 [(0, vr 11 0), (1, vi a1), (2, vi a2)] [vi x7] M8 Q
        exact jr_iret (pc := 124) rfl dX11_statue_124 h
  · replace h := h.2 c
    refine jr_ldc (pc := 8) fk_X11_241 dX11_statue_8 ?_
    exact jr_iret (pc := 10) rfl dX11_statue_10 h
theorem dX11_walker_0 : decode cX11_walker 0 = .ok (.aload_n 0, 1) := by decide +kernel
theorem dX11_walker_1 : decode cX11_walker 1 = .ok (.iload_n 1, 1) := by decide +kernel
theorem dX11_walker_2 : decode cX11_walker 2 = .ok (.invokevirtual 245, 3) := by decide +kernel
theorem dX11_walker_5 : decode cX11_walker 5 = .ok (.ifCond .ne 6, 3) := by decide +kernel
theorem dX11_walker_8 : decode cX11_walker 8 = .ok (.ldc 241, 2) := by decide +kernel
theorem dX11_walker_10 : decode cX11_walker 10 = .ok (.ireturn, 1) := by decide +kernel
theorem dX11_walker_11 : decode cX11_walker 11 = .ok (.iload_n 2, 1) := by decide +kernel
theorem dX11_walker_12 : decode cX11_walker 12 = .ok (.tableswitch 55 0 2 #[28, 38, 45], 28) := by decide +kernel
theorem dX11_walker_40 : decode cX11_walker 40 = .ok (.aload_n 0, 1) := by decide +kernel
theorem dX11_walker_41 : decode cX11_walker 41 = .ok (.getfield 31, 3) := by decide +kernel
theorem dX11_walker_44 : decode cX11_walker 44 = .ok (.bipush 18, 2) := by decide +kernel
theorem dX11_walker_46 : decode cX11_walker 46 = .ok (.iload_n 1, 1) := by decide +kernel
theorem dX11_walker_47 : decode cX11_walker 47 = .ok (.iadd, 1) := by decide +kernel
theorem dX11_walker_48 : decode cX11_walker 48 = .ok (.iaload, 1) := by decide +kernel
theorem dX11_walker_49 : decode cX11_walker 49 = .ok (.ireturn, 1) := by decide +kernel
theorem dX11_walker_50 : decode cX11_walker 50 = .ok (.aload_n 0, 1) := by decide +kernel
theorem dX11_walker_51 : decode cX11_walker 51 = .ok (.getfield 25, 3) := by decide +kernel
theorem dX11_walker_54 : decode cX11_walker 54 = .ok (.iload_n 1, 1) := by decide +kernel
theorem dX11_walker_55 : decode cX11_walker 55 = .ok (.iaload, 1) := by decide +kernel
theorem dX11_walker_56 : decode cX11_walker 56 = .ok (.ireturn, 1) := by decide +kernel
theorem dX11_walker_57 : decode cX11_walker 57 = .ok (.aload_n 0, 1) := by decide +kernel
theorem dX11_walker_58 : decode cX11_walker 58 = .ok (.getfield 31, 3) := by decide +kernel
theorem dX11_walker_61 : decode cX11_walker 61 = .ok (.bipush 25, 2) := by decide +kernel
theorem dX11_walker_63 : decode cX11_walker 63 = .ok (.iload_n 1, 1) := by decide +kernel
theorem dX11_walker_64 : decode cX11_walker 64 = .ok (.iadd, 1) := by decide +kernel
theorem dX11_walker_65 : decode cX11_walker 65 = .ok (.iaload, 1) := by decide +kernel
theorem dX11_walker_66 : decode cX11_walker 66 = .ok (.ireturn, 1) := by decide +kernel
theorem dX11_walker_67 : decode cX11_walker 67 = .ok (.ldc 111, 2) := by decide +kernel
theorem dX11_walker_69 : decode cX11_walker 69 = .ok (.ireturn, 1) := by decide +kernel
set_option maxHeartbeats 4000000 in
set_option maxRecDepth 20000 in
theorem en_X11_walker {a1 : Int32} {a2 : Int32} {M : jw_Mem} {Q : Int32 → jw_Mem → Prop}  (h : (jw_M 1 mX11_isWalker [vr 11 0, vi a1] M (fun x1 M2 => ((¬ x1 = 0 → ((a2.toInt < 0 ∨ 2 < a2.toInt → Q (-1000000002) M2) ∧ (a2.toInt = 0 → (vp_in (18 + a1) 33 ∧ Q (M2 43 0 ((18 + a1) : Int32).toNatClampNeg) M2)) ∧ (a2.toInt = 1 → (vp_in a1 7 ∧ Q (M2 41 0 a1.toNatClampNeg) M2)) ∧ (a2.toInt = 2 → (vp_in (25 + a1) 33 ∧ Q (M2 43 0 ((25 + a1) : Int32).toNatClampNeg) M2)))) ∧ (x1 = 0 → Q (-1000000001) M2))))) : jw_M 2 mX11_walker [vr 11 0, vi a1, vi a2] M Q := by
  refine jw_M.of (by decide) (Nat.le_of_ble_eq_true rfl) ?_
  show jw_J 2 mX11_walker 0 [(0, vr 11 0), (1, vi a1), (2, vi a2)] [] M Q
  refine jr_aload_n (pc := 0) dX11_walker_0 rfl 0 rfl ?_
  refine jr_iload_n (pc := 1) dX11_walker_1 rfl 1 rfl ?_
  refine jr_callV (pc := 2) (d' := 1) (mt' := mX11_isWalker) (k := 11) (n := 0) (As := [vi a1]) (st := []) fc_X11_245 (by decide) (by decide) (Nat.le_of_ble_eq_true rfl) rfl dX11_walker_2 (jw_M.mono h (fun x1 M2 h => ?_))
  show jw_J 2 mX11_walker 5 [(0, vr 11 0), (1, vi a1), (2, vi a2)] [vi x1] M2 Q
  refine jr_if_ne (pc := 5) (tgt := 11) dX11_walker_5 (by decide) (fun c => ?_) (fun c => ?_)
  · replace h := h.1 c
    refine jr_iload_n (pc := 11) dX11_walker_11 rfl 2 rfl ?_
    refine jr_tsw (pc := 12) dX11_walker_12 (tgt := 67) (by decide) (by decide) (fun c => ?_) (fun j c c2 => ?_)
    · replace h := h.1 c
      refine jr_ldc (pc := 67) fk_X11_111 dX11_walker_67 ?_
      exact jr_iret (pc := 69) rfl dX11_walker_69 h
    · have hj : j = 0 ∨ j = 1 ∨ j = 2 := by omega
      rcases hj with rfl | rfl | rfl
      · replace h := h.2.1 (c.trans (by decide))
        refine ⟨28, 40, rfl, by decide, ?_⟩
        refine jr_aload_n (pc := 40) dX11_walker_40 rfl 0 rfl ?_
        refine jr_get (pc := 41) (v := vr 43 0) fg_X11_31 (by decide) rfl dX11_walker_41 ?_
        refine jr_bipush (pc := 44) (v := 18) dX11_walker_44 (by decide) ?_
        refine jr_iload_n (pc := 46) dX11_walker_46 rfl 1 rfl ?_
        refine jr_iadd (pc := 47) dX11_walker_47 ?_
        refine jr_iald (pc := 48) ⟨rfl, (by decide)⟩ h.1 dX11_walker_48 ?_
        replace h := h.2
        exact jr_iret (pc := 49) rfl dX11_walker_49 h
      · replace h := h.2.2.1 (c.trans (by decide))
        refine ⟨38, 50, rfl, by decide, ?_⟩
        refine jr_aload_n (pc := 50) dX11_walker_50 rfl 0 rfl ?_
        refine jr_get (pc := 51) (v := vr 41 0) fg_X11_25 (by decide) rfl dX11_walker_51 ?_
        refine jr_iload_n (pc := 54) dX11_walker_54 rfl 1 rfl ?_
        refine jr_iald (pc := 55) ⟨rfl, (by decide)⟩ h.1 dX11_walker_55 ?_
        replace h := h.2
        exact jr_iret (pc := 56) rfl dX11_walker_56 h
      · replace h := h.2.2.2 (c.trans (by decide))
        refine ⟨45, 57, rfl, by decide, ?_⟩
        refine jr_aload_n (pc := 57) dX11_walker_57 rfl 0 rfl ?_
        refine jr_get (pc := 58) (v := vr 43 0) fg_X11_31 (by decide) rfl dX11_walker_58 ?_
        refine jr_bipush (pc := 61) (v := 25) dX11_walker_61 (by decide) ?_
        refine jr_iload_n (pc := 63) dX11_walker_63 rfl 1 rfl ?_
        refine jr_iadd (pc := 64) dX11_walker_64 ?_
        refine jr_iald (pc := 65) ⟨rfl, (by decide)⟩ h.1 dX11_walker_65 ?_
        replace h := h.2
        exact jr_iret (pc := 66) rfl dX11_walker_66 h
  · replace h := h.2 c
    refine jr_ldc (pc := 8) fk_X11_241 dX11_walker_8 ?_
    exact jr_iret (pc := 10) rfl dX11_walker_10 h
theorem dX11_moreTired_0 : decode cX11_moreTired 0 = .ok (.aload_n 0, 1) := by decide +kernel
theorem dX11_moreTired_1 : decode cX11_moreTired 1 = .ok (.iload_n 1, 1) := by decide +kernel
theorem dX11_moreTired_2 : decode cX11_moreTired 2 = .ok (.invokevirtual 211, 3) := by decide +kernel
theorem dX11_moreTired_5 : decode cX11_moreTired 5 = .ok (.ifCond .ne 6, 3) := by decide +kernel
theorem dX11_moreTired_8 : decode cX11_moreTired 8 = .ok (.bipush (-5), 2) := by decide +kernel
theorem dX11_moreTired_10 : decode cX11_moreTired 10 = .ok (.ireturn, 1) := by decide +kernel
theorem dX11_moreTired_11 : decode cX11_moreTired 11 = .ok (.aload_n 0, 1) := by decide +kernel
theorem dX11_moreTired_12 : decode cX11_moreTired 12 = .ok (.getfield 13, 3) := by decide +kernel
theorem dX11_moreTired_15 : decode cX11_moreTired 15 = .ok (.iload_n 1, 1) := by decide +kernel
theorem dX11_moreTired_16 : decode cX11_moreTired 16 = .ok (.iaload, 1) := by decide +kernel
theorem dX11_moreTired_17 : decode cX11_moreTired 17 = .ok (.tableswitch 57 0 2 #[27, 29, 31], 27) := by decide +kernel
theorem dX11_moreTired_44 : decode cX11_moreTired 44 = .ok (.iconst 3, 1) := by decide +kernel
theorem dX11_moreTired_45 : decode cX11_moreTired 45 = .ok (.ireturn, 1) := by decide +kernel
theorem dX11_moreTired_46 : decode cX11_moreTired 46 = .ok (.iconst 1, 1) := by decide +kernel
theorem dX11_moreTired_47 : decode cX11_moreTired 47 = .ok (.ireturn, 1) := by decide +kernel
theorem dX11_moreTired_48 : decode cX11_moreTired 48 = .ok (.aload_n 0, 1) := by decide +kernel
theorem dX11_moreTired_49 : decode cX11_moreTired 49 = .ok (.getfield 7, 3) := by decide +kernel
theorem dX11_moreTired_52 : decode cX11_moreTired 52 = .ok (.aload_n 0, 1) := by decide +kernel
theorem dX11_moreTired_53 : decode cX11_moreTired 53 = .ok (.getfield 31, 3) := by decide +kernel
theorem dX11_moreTired_56 : decode cX11_moreTired 56 = .ok (.iload_n 1, 1) := by decide +kernel
theorem dX11_moreTired_57 : decode cX11_moreTired 57 = .ok (.iaload, 1) := by decide +kernel
theorem dX11_moreTired_58 : decode cX11_moreTired 58 = .ok (.iaload, 1) := by decide +kernel
theorem dX11_moreTired_59 : decode cX11_moreTired 59 = .ok (.aload_n 0, 1) := by decide +kernel
theorem dX11_moreTired_60 : decode cX11_moreTired 60 = .ok (.getfield 19, 3) := by decide +kernel
theorem dX11_moreTired_63 : decode cX11_moreTired 63 = .ok (.iload_n 1, 1) := by decide +kernel
theorem dX11_moreTired_64 : decode cX11_moreTired 64 = .ok (.iaload, 1) := by decide +kernel
theorem dX11_moreTired_65 : decode cX11_moreTired 65 = .ok (.if_icmp .ge 7, 3) := by decide +kernel
theorem dX11_moreTired_68 : decode cX11_moreTired 68 = .ok (.iconst 4, 1) := by decide +kernel
theorem dX11_moreTired_69 : decode cX11_moreTired 69 = .ok (.goto 4, 3) := by decide +kernel
theorem dX11_moreTired_72 : decode cX11_moreTired 72 = .ok (.iconst 2, 1) := by decide +kernel
theorem dX11_moreTired_73 : decode cX11_moreTired 73 = .ok (.ireturn, 1) := by decide +kernel
theorem dX11_moreTired_74 : decode cX11_moreTired 74 = .ok (.iconst 0, 1) := by decide +kernel
theorem dX11_moreTired_75 : decode cX11_moreTired 75 = .ok (.ireturn, 1) := by decide +kernel
set_option maxHeartbeats 4000000 in
set_option maxRecDepth 20000 in
theorem en_X11_moreTired {a1 : Int32} {M : jw_Mem} {Q : Int32 → jw_Mem → Prop}  (h : (jw_M 0 mX11_stands [vr 11 0, vi a1] M (fun x1 M2 => ((¬ x1 = 0 → (vp_in a1 6 ∧ (((M2 37 0 a1.toNatClampNeg).toInt < 0 ∨ 2 < (M2 37 0 a1.toNatClampNeg).toInt → Q 0 M2) ∧ ((M2 37 0 a1.toNatClampNeg).toInt = 0 → Q 3 M2) ∧ ((M2 37 0 a1.toNatClampNeg).toInt = 1 → Q 1 M2) ∧ ((M2 37 0 a1.toNatClampNeg).toInt = 2 → (vp_in a1 33 ∧ (vp_in (M2 43 0 a1.toNatClampNeg) 5 ∧ (vp_in a1 6 ∧ (((M2 39 0 a1.toNatClampNeg) ≤ (M2 36 0 ((M2 43 0 a1.toNatClampNeg) : Int32).toNatClampNeg) → Q 2 M2) ∧ (¬ (M2 39 0 a1.toNatClampNeg) ≤ (M2 36 0 ((M2 43 0 a1.toNatClampNeg) : Int32).toNatClampNeg) → Q 4 M2))))))))) ∧ (x1 = 0 → Q (-5) M2))))) : jw_M 1 mX11_moreTired [vr 11 0, vi a1] M Q := by
  refine jw_M.of (by decide) (Nat.le_of_ble_eq_true rfl) ?_
  show jw_J 1 mX11_moreTired 0 [(0, vr 11 0), (1, vi a1)] [] M Q
  refine jr_aload_n (pc := 0) dX11_moreTired_0 rfl 0 rfl ?_
  refine jr_iload_n (pc := 1) dX11_moreTired_1 rfl 1 rfl ?_
  refine jr_callV (pc := 2) (d' := 0) (mt' := mX11_stands) (k := 11) (n := 0) (As := [vi a1]) (st := []) fc_X11_211 (by decide) (by decide) (Nat.le_of_ble_eq_true rfl) rfl dX11_moreTired_2 (jw_M.mono h (fun x1 M2 h => ?_))
  show jw_J 1 mX11_moreTired 5 [(0, vr 11 0), (1, vi a1)] [vi x1] M2 Q
  refine jr_if_ne (pc := 5) (tgt := 11) dX11_moreTired_5 (by decide) (fun c => ?_) (fun c => ?_)
  · replace h := h.1 c
    refine jr_aload_n (pc := 11) dX11_moreTired_11 rfl 0 rfl ?_
    refine jr_get (pc := 12) (v := vr 37 0) fg_X11_13 (by decide) rfl dX11_moreTired_12 ?_
    refine jr_iload_n (pc := 15) dX11_moreTired_15 rfl 1 rfl ?_
    refine jr_iald (pc := 16) ⟨rfl, (by decide)⟩ h.1 dX11_moreTired_16 ?_
    replace h := h.2
    refine jr_tsw (pc := 17) dX11_moreTired_17 (tgt := 74) (by decide) (by decide) (fun c => ?_) (fun j c c2 => ?_)
    · replace h := h.1 c
      refine jr_iconst (pc := 74) (v := 0) dX11_moreTired_74 (by decide) ?_
      exact jr_iret (pc := 75) rfl dX11_moreTired_75 h
    · have hj : j = 0 ∨ j = 1 ∨ j = 2 := by omega
      rcases hj with rfl | rfl | rfl
      · replace h := h.2.1 (c.trans (by decide))
        refine ⟨27, 44, rfl, by decide, ?_⟩
        refine jr_iconst (pc := 44) (v := 3) dX11_moreTired_44 (by decide) ?_
        exact jr_iret (pc := 45) rfl dX11_moreTired_45 h
      · replace h := h.2.2.1 (c.trans (by decide))
        refine ⟨29, 46, rfl, by decide, ?_⟩
        refine jr_iconst (pc := 46) (v := 1) dX11_moreTired_46 (by decide) ?_
        exact jr_iret (pc := 47) rfl dX11_moreTired_47 h
      · replace h := h.2.2.2 (c.trans (by decide))
        refine ⟨31, 48, rfl, by decide, ?_⟩
        refine jr_aload_n (pc := 48) dX11_moreTired_48 rfl 0 rfl ?_
        refine jr_get (pc := 49) (v := vr 36 0) fg_X11_7 (by decide) rfl dX11_moreTired_49 ?_
        refine jr_aload_n (pc := 52) dX11_moreTired_52 rfl 0 rfl ?_
        refine jr_get (pc := 53) (v := vr 43 0) fg_X11_31 (by decide) rfl dX11_moreTired_53 ?_
        refine jr_iload_n (pc := 56) dX11_moreTired_56 rfl 1 rfl ?_
        refine jr_iald (pc := 57) ⟨rfl, (by decide)⟩ h.1 dX11_moreTired_57 ?_
        replace h := h.2
        refine jr_iald (pc := 58) ⟨rfl, (by decide)⟩ h.1 dX11_moreTired_58 ?_
        replace h := h.2
        refine jr_aload_n (pc := 59) dX11_moreTired_59 rfl 0 rfl ?_
        refine jr_get (pc := 60) (v := vr 39 0) fg_X11_19 (by decide) rfl dX11_moreTired_60 ?_
        refine jr_iload_n (pc := 63) dX11_moreTired_63 rfl 1 rfl ?_
        refine jr_iald (pc := 64) ⟨rfl, (by decide)⟩ h.1 dX11_moreTired_64 ?_
        replace h := h.2
        refine jr_icmp_ge (pc := 65) (tgt := 72) dX11_moreTired_65 (by decide) (fun c => ?_) (fun c => ?_)
        · replace h := h.1 c
          refine jr_iconst (pc := 72) (v := 2) dX11_moreTired_72 (by decide) ?_
          exact jr_iret (pc := 73) rfl dX11_moreTired_73 h
        · replace h := h.2 c
          refine jr_iconst (pc := 68) (v := 4) dX11_moreTired_68 (by decide) ?_
          refine jr_goto (pc := 69) (tgt := 73) dX11_moreTired_69 (by decide) ?_
          exact jr_iret (pc := 73) rfl dX11_moreTired_73 h
  · replace h := h.2 c
    refine jr_bipush (pc := 8) (v := (-5)) dX11_moreTired_8 (by decide) ?_
    exact jr_iret (pc := 10) rfl dX11_moreTired_10 h
