/-! ===== the history's constructor: a loop; the pictures' row ===== -/
theorem stL_len (a ct : Nat) (tc : Nat → ClassId) : ∀ i : Nat, (stL a ct tc i).length = 6 * i
  | 0 => rfl
  | i + 1 => by
    show (stL a ct tc i ++ stateW (a + 2 + 6 * i) ct tc).length = 6 * (i + 1)
    rw [List.length_append, stL_len a ct tc i]
    show 6 * i + 6 = 6 * (i + 1)
    omega
theorem lx_get {α : Type} {pre ys : List α} {x : α} {n : Nat} (h : pre.length = n) : ((pre ++ [x]) ++ ys)[n]? = some x := by
  subst h; simp
theorem lx_nxt {α : Type} {pre ys : List α} {y : α} {n : Nat} (h : pre.length = n) : (pre ++ (y :: ys))[n]? = some y := by
  subst h; simp
theorem lx_set {α : Type} {pre ys : List α} {x y : α} {n : Nat} (h : pre.length = n) : ((pre ++ [x]) ++ ys).set n y = (pre ++ [y]) ++ ys := by
  subst h; simp
theorem ring_up (a i : Nat) (h : i < 16) : va_up (ringF a i) (nI i).toNatClampNeg (some (a + 2 + 6 * i)) = ringF a (i + 1) := by
  rw [nI_clamp (by omega)]
  funext j
  unfold va_up ringF
  by_cases e : j = i
  · subst e; simp
  · by_cases h2 : j < i
    · simp [e, h2, Nat.lt_succ_of_lt h2]
    · simp [e, h2, show ¬ j < i + 1 by omega]
theorem ring_0 (a : Nat) : ringF a 0 = fun _ => none := by
  funext j; simp [ringF]
theorem img_0 (a : Nat) : imgF a 0 = fun _ => none := by
  funext j; simp [imgF]
theorem img_1 (a : Nat) : va_up (imgF a 0) (0 : Int32).toNatClampNeg (some (a + 150)) = imgF a 1 := by
  rw [show (0 : Int32).toNatClampNeg = 0 by decide]
  funext j
  unfold va_up imgF
  by_cases e : j = 0
  · subst e; simp
  · simp [e, show ¬ j < 1 by omega]
theorem img_2 (a : Nat) : va_up (imgF a 1) (1 : Int32).toNatClampNeg (some (a + 157)) = imgF a 2 := by
  rw [show (1 : Int32).toNatClampNeg = 1 by decide]
  funext j
  unfold va_up imgF
  by_cases e : j = 1
  · subst e; simp
  · by_cases h2 : j < 1
    · simp [h2, show j = 0 by omega]
    · simp [e, h2, show ¬ j < 2 by omega]
def histR (a ct i : Nat) (tc : Nat → ClassId) : va_W := [(a + 1, .inl (tc 3, 16, .inr (.inr (.inr (.inr (ringF a i))))))] ++ stL a ct tc i
set_option maxRecDepth 100000 in
theorem hist_loop (a ct : Nat) : ∀ (f i : Nat), i + f = 16 → jc_J rm_X3 iX3 a 3 z_X3 97 640 (histW a ct) 15 [(2, .int (nI i)), (0, .ref a), (1, .ref ct)] [] (a + 2 + 6 * i) [.ref (a + 1), .int 0, .int 0] (histR a ct i) (1 + 6 * i) (16 + 39 * i)
  | 0, i, hi => by
    have e : i = 16 := by omega
    subst e
    refine jc_iload_n dX3_init_15 rfl 0 rfl ?_
    refine jc_bipush (v := 16) dX3_init_16 (by decide) ?_
    refine jc_icmp_ge (tgt := 41) dX3_init_18 (by decide) (fun _ => ?_) (fun h => absurd (by decide) h)
    exact jc_ret dX3_init_41 (by omega) rfl rfl (fun _ => rfl)
  | f + 1, i, hi => by
    refine jc_iload_n dX3_init_15 rfl 0 rfl ?_
    refine jc_bipush (v := 16) dX3_init_16 (by decide) ?_
    refine jc_icmp_ge (tgt := 41) dX3_init_18 (by decide) (fun h => absurd h (nI_ge (b := 16) (by omega) (by decide))) (fun _ => ?_)
    refine jc_aload_n dX3_init_21 rfl 1 rfl ?_
    refine jc_get (j := 0) fg_X3_11 rfl dX3_init_22 ?_
    refine jc_iload_n dX3_init_25 rfl 0 rfl ?_
    refine jc_new (ci := 8) fw_X8 tyX8 tyX8_ok (List.mem_append_right _ (List.mem_of_getElem? (i := 275) (by decide +kernel))) (List.mem_append_right _ (List.mem_of_getElem? (i := 94) (by decide +kernel))) (List.mem_append_right _ (List.mem_of_getElem? (i := 3) (by decide +kernel))) rfl z_X8_ok (by show 1 + 6 * i + 1 ≤ 97; omega) (by show 16 + 39 * i + 7 ≤ 640; omega) dX3_init_26 ?_
    refine jc_dup dX3_init_29 ?_
    refine jc_aload_n dX3_init_30 rfl 2 rfl ?_
    refine jc_init (rest0 := histR a ct i) (ci_X8 (a + 2 + 6 * i) ct) fi_X8 (List.mem_append_right _ (List.mem_of_getElem? (i := 277) (by decide +kernel))) ⟨rfl, rfl, Nat.le_of_ble_eq_true rfl, Nat.le_of_ble_eq_true rfl⟩ rfl (Nat.le_of_ble_eq_true rfl) dX3_init_31 ⟨by show 1 + 6 * i + 1 + 5 ≤ 97; omega, by show 16 + 39 * i + 7 + 32 ≤ 640; omega⟩ rfl ?_
    refine jc_astq (t0 := 3) (ci := 8) (f := ringF a i) (N' := 16) (vs := [.ref ct, .int 0, .ref (a + 2 + 6 * i + 1), .ref (a + 2 + 6 * i + 2), .ref (a + 2 + 6 * i + 3), .ref (a + 2 + 6 * i + 4), .ref (a + 2 + 6 * i + 5)]) (rest' := histR a ct (i + 1)) 0 (1 + 6 * i) (fun _ => rfl) (fun _ => rfl) (fun tc => ?_) rfl (nI_in (by omega) (by decide)) (fun tc => ?_) dX3_init_34 ?_
    · show (histR a ct i tc ++ stateW (a + 2 + 6 * i) ct tc)[1 + 6 * i]? = _
      exact lx_nxt (by unfold histR; rw [List.length_append, stL_len]; rfl)
    · show (_ :: (stL a ct tc i ++ stateW (a + 2 + 6 * i) ct tc)) = _
      rw [ring_up a i (by omega)]
      rfl
    refine jc_iinc (q := 0) (v := nI (i + 1)) dX3_init_35 rfl (nI_1 i) (by decide) rfl ?_
    refine jc_goto (tgt := 15) dX3_init_38 (by decide) ?_
    refine jc_n (n' := a + 2 + 6 * (i + 1)) (c2 := 1 + 6 * (i + 1)) (s2 := 16 + 39 * (i + 1)) (by omega) (by omega) (by omega) ?_
    exact hist_loop a ct f (i + 1) (by omega)
set_option maxRecDepth 100000 in
theorem ci_X3 (a ct : Nat) : jc_M rm_X3 iX3 a 3 z_X3 [.ref ct] 97 640 (histW a ct) := by
  refine jc_M.of (lv := [(0, .ref a), (1, .ref ct)]) rfl rfl (by decide +kernel) (Nat.le_of_ble_eq_true rfl) rfl ?_
  refine jc_aload_n dX3_init_0 rfl 0 rfl ?_
  refine jc_obj (List.mem_append_right _ (List.mem_of_getElem? (i := 274) (by decide +kernel))) fi_o1 fi_o2 dX3_init_1 (Nat.le_of_ble_eq_true rfl) (Nat.le_of_ble_eq_true rfl) ?_
  refine jc_aload_n dX3_init_4 rfl 0 rfl ?_
  refine jc_bipush (v := 16) dX3_init_5 (by decide) ?_
  refine jc_newq (t0 := 3) (N' := 16) (List.mem_append_right _ (List.mem_of_getElem? (i := 275) (by decide +kernel))) (Or.inl rfl) (fun _ => rfl) (by decide) (by decide) (Nat.le_of_ble_eq_true rfl) (Nat.le_of_ble_eq_true rfl) (Nat.le_of_ble_eq_true rfl) dX3_init_7 ?_
  refine jc_put (j := 0) (fin := true) ⟨RX3, TX3, 3, tyX3, .array (.object "StatueVotes$State"), rfl, Nat.le_of_ble_eq_true rfl, fw_X3, (List.mem_append_right _ (List.mem_of_getElem? (i := 278) (by decide +kernel))), tyX3_ok, nmX3, rfl, rfl, by decide +kernel, rfl, rfl⟩ (Nat.le_of_ble_eq_true rfl) dX3_init_10 ?_
  refine jc_iconst (v := 0) dX3_init_13 (by decide) ?_
  refine jc_istore_n (lv' := [(2, .int (nI 0)), (0, .ref a), (1, .ref ct)]) dX3_init_14 rfl (by decide) rfl ?_
  refine jc_eqv (n' := a + 2 + 6 * 0) (fs' := [.ref (a + 1), .int 0, .int 0]) (rest' := histR a ct 0) rfl rfl (fun tc => ?_) ?_
  · unfold histR; rw [ring_0]; rfl
  exact hist_loop a ct 16 0 rfl
