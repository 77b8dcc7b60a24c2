/-! ===== constructors: rows over a world that grows ===== -/
def jc_tys (tc : Nat → ClassId) : List (ClassId × FieldType) := [(tc 0, .int), (tc 1, .boolean), (tc 2, .array .int), (tc 3, .object "StatueVotes$State"), (tc 4, .object "StatueVotes$Image")]
def jc_nest : List Cond := [.methodLinkNest RX10 9 yX1_init RX10, .methodLinkNest RX10 17 yX7_init RX10, .methodLinkNest RX7 21 yX1_init RX10]
def jc_K (g1 : va_G) (tc : Nat → ClassId) (U : State) : Prop := va_K g1 vwCl (jc_tys tc) U ∧ (∀ w ∈ jc_nest, va_Nw w U) ∧ va_AO RX8 U ∧ va_AO RX4 U ∧ (Cond.arrayOver (.array .int)).before #[] U = true
theorem jc_K.go {g1 : va_G} {tc : Nat → ClassId} {s U : State} (h : jc_K g1 tc s) (hW : s.WarmedH U.vm) : jc_K g1 tc U := by
  obtain ⟨h1, h2, h3, h4, h5⟩ := h
  refine ⟨va_K.moved hW.alike h1, fun w hw => ?_, va_AO.moved hW.alike h3, va_AO.moved hW.alike h4, arrayOver_alikeB hW.alike h5⟩
  have hw2 := h2 w hw
  unfold jc_nest at hw
  simp only [List.mem_cons, List.not_mem_nil, or_false] at hw
  rcases hw with rfl | rfl | rfl <;> exact va_Nw.warmM hW hw2
theorem jc_K.blind {g1 : va_G} {tc : Nat → ClassId} {U : State} (h : jc_K g1 tc U) (G : JFrame) (mk : MethodId) (a : Array Value) : jc_K g1 tc (U.calling G mk a) := by
  obtain ⟨h1, h2, h3, h4, h5⟩ := h
  refine ⟨va_K.moved (u := U) (U := U.calling G mk a) (Vm.Alike.refl U.vm) h1, fun w hw => ?_, va_AO.moved (u := U) (U := U.calling G mk a) (Vm.Alike.refl U.vm) h3, va_AO.moved (u := U) (U := U.calling G mk a) (Vm.Alike.refl U.vm) h4, arrayOver_alikeB (U := U.calling G mk a) (Vm.Alike.refl U.vm) h5⟩
  have hw2 := h2 w hw
  unfold jc_nest at hw
  simp only [List.mem_cons, List.not_mem_nil, or_false] at hw
  rcases hw with rfl | rfl | rfl <;> exact va_Nw.same rfl rfl hw2
theorem ra_same {U : State} {c1 c2 : ClassId} {ty : FieldType} (h1 : va_RA U c1 ty) (h2 : va_RA U c2 ty) : c1 = c2 := by
  cases ty with
  | object C =>
    obtain ⟨_, _, _, _, _, e1⟩ := h1
    obtain ⟨_, _, _, _, _, e2⟩ := h2
    exact Option.some.inj (e1.symm.trans e2)
  | _ => exact Option.some.inj (Eq.trans (Eq.symm h1) h2)
theorem va_P.lt2 {D : va_G} {cl : List vw_C} {ws : va_W} {H : Heap} (h : va_P D cl ws H) {k : Nat} {q : Nat × va_E} (hk : ws[k]? = some q) : q.1 < H.size := (h k q hk).lt
section CW
variable {p : Program} {l : Launch} {e : Env} {R : Room} {s : State} {m : MethodId} {args : Array Value} {below : List Frame} {meth : Method} {c : Code} {H : Heap} {locs : List Loc} {cells slots : Nat} {Q : State → Prop} {cc : ByteArray} {pc : Nat} {ls : Array Slot} {rest : List Value} {D : va_G} {cl : List vw_C} {A : Nat → Prop} {tys : List (ClassId × FieldType)} {ws : va_W} {H0 : Heap}
theorem jn_one {x : Nat × va_E} {H1 : Heap} (h : va_at D cl x H1) : va_P D cl [x] H1 := fun k y hy => by
  have hz : k < 1 := (List.getElem?_eq_some_iff.mp hy).1
  rw [show k = 0 by omega] at hy
  cases hy
  exact h
theorem jn_new {own C : String} {T : u_T} {N ci index q : Nat} {Ts : List Cond} (hexec : p.tables.exec = Jvm.exec) (hb : c.code = cc) (hts : ∀ w ∈ Ts, w.before args s = true) (hin : ∀ w ∈ u_ws C T N, w ∈ Ts) (ty : Nat → FieldType) (hty : ∀ k, k < N → parseFieldDescriptor (T k).2.2.1 = some (ty k)) (hown : s.vm.findClass own = some m.cls) (hcl : (Cond.classLink own index C).before args s = true) (hinst : (Cond.instantiable C N).before args s = true) (hini : (Cond.initialized C).before args s = true)
    (hK : va_K D cl tys s) (hP : va_P D cl ws H) (hD : va_D A ws) (hS : va_S A H0 H locs) (hA : ∀ q, H0.size ≤ q → A q) (hc : cl[ci]? = some (C, T, N)) {fs : List Value} (hfs : ∀ j, j < N → defaultValue (ty j) = vp_V fs j) (hcells : cells + 1 ≤ R.cells) (hslots : slots + N ≤ R.slots) (hdg : decode cc pc = .ok (.new index, 3)) (hq : H.size = q)
    (kk : ∀ H1 : Heap, H1.size = q + 1 → va_P D cl (ws ++ [(q, .inr (ci, fs))]) H1 → va_D A (ws ++ [(q, .inr (ci, fs))]) → va_S A H0 H1 locs →
      W p l e R s m args below meth c H1 locs (cells + 1) (slots + N) Q (F0 m (pc + 3) ls (.ref q :: rest))) : W p l e R s m args below meth c H locs cells slots Q (F0 m pc ls rest) := by
  subst hq
  have hKn := hK.1 ci _ hc
  refine W.newcK hexec hb hown hcl hinst hini rfl hdg hcells hslots hKn.2.1 rfl fun H1 kC hkC e1 z1 o1 => ?_
  have hk : ∀ (k : Nat) (x : Nat × va_E), ws[k]? = some x → H1[x.1]? = H[x.1]? := fun k x hx => o1 x.1 ((hP k x hx).lt)
  exact kk H1 z1 ((hP.kept hk).app (jn_one ⟨_, hc, (u_born ty hts hin hKn hkC e1 hty).to hfs⟩)) (hD.push hP rfl (hA _ hS.1)) ⟨Nat.le_trans hS.1 (by omega), fun x h1 h2 => (o1 x (Nat.lt_of_lt_of_le h1 hS.1)).trans (hS.2.1 x h1 h2), hS.2.2⟩
theorem jn_newa {atype : ArrayType} {q t0 : Nat} {cI : ClassId} (hexec : p.tables.exec = Jvm.exec) (hb : c.code = cc) (harr : (Cond.arrayClass (newarray.typeOf atype)).before args s = true) (hK : va_K D cl tys s) (ht : tys[t0]? = some (cI, newarray.typeOf atype)) (hP : va_P D cl ws H) (hD : va_D A ws) (hS : va_S A H0 H locs) (hA : ∀ q, H0.size ≤ q → A q)
    {n : Int32} {N' : Nat} {a0 : vp_A} (ha : ∀ cA : ClassId, vp_cell cA a0 = arrV cA N' (fun _ => defaultValue (newarray.typeOf atype))) (hn : ¬ n < 0) (hN : n.toNatClampNeg = N') (hbytes : N' * componentBytes (newarray.typeOf atype) ≤ 536870912) (hcells : cells + 1 ≤ R.cells) (hslots : slots + N' ≤ R.slots) (hdg : decode cc pc = .ok (.newarray atype, 2)) (hq : H.size = q)
    (kk : ∀ H1 : Heap, H1.size = q + 1 → va_P D cl (ws ++ [(q, .inl (cI, a0))]) H1 → va_D A (ws ++ [(q, .inl (cI, a0))]) → va_S A H0 H1 locs →
      W p l e R s m args below meth c H1 locs (cells + 1) (slots + N') Q (F0 m (pc + 2) ls (.ref q :: rest))) : W p l e R s m args below meth c H locs cells slots Q (F0 m pc ls (.int n :: rest)) := by
  subst hq
  refine va_newaK hexec hb harr rfl hdg rfl hn hN hbytes hcells hslots rfl fun H1 cA e1 z1 o1 hAr hNm => ?_
  have hcA : cA = cI := ra_same (U := s) (ty := newarray.typeOf atype) (by cases atype <;> exact hNm) (hK.2 t0 _ ht).2
  subst hcA
  have hk : ∀ (k : Nat) (x : Nat × va_E), ws[k]? = some x → H1[x.1]? = H[x.1]? := fun k x hx => o1 x.1 ((hP k x hx).lt)
  refine kk H1 z1 ((hP.kept hk).app (jn_one ?_)) (hD.push hP rfl (hA _ hS.1)) ⟨Nat.le_trans hS.1 (by omega), fun x h1 h2 => (o1 x (Nat.lt_of_lt_of_le h1 hS.1)).trans (hS.2.1 x h1 h2), hS.2.2⟩
  show H1[H.size]? = some (vp_cell _ _)
  rw [ha]
  exact e1
theorem jn_newq {own C : String} {index q t0 : Nat} {cI : ClassId} (hexec : p.tables.exec = Jvm.exec) (hb : c.code = cc) (hown : s.vm.findClass own = some m.cls) (hclink : (Cond.classLink own index C).before args s = true) (hover : va_AO C s) (hK : va_K D cl tys s) (ht : tys[t0]? = some (cI, .object C)) (hP : va_P D cl ws H) (hD : va_D A ws) (hS : va_S A H0 H locs) (hA : ∀ q, H0.size ≤ q → A q)
    {n : Int32} {N' : Nat} (hn : ¬ n < 0) (hN : n.toNatClampNeg = N') (hbytes : N' * 4 ≤ 536870912) (hcells : cells + 1 ≤ R.cells) (hslots : slots + N' ≤ R.slots) (hdg : decode cc pc = .ok (.anewarray index, 3)) (hq : H.size = q)
    (kk : ∀ H1 : Heap, H1.size = q + 1 → va_P D cl (ws ++ [(q, .inl (cI, N', .inr (.inr (.inr (.inr (fun _ => none))))))]) H1 → va_D A (ws ++ [(q, .inl (cI, N', .inr (.inr (.inr (.inr (fun _ => none))))))]) → va_S A H0 H1 locs →
      W p l e R s m args below meth c H1 locs (cells + 1) (slots + N') Q (F0 m (pc + 3) ls (.ref q :: rest))) : W p l e R s m args below meth c H locs cells slots Q (F0 m pc ls (.int n :: rest)) := by
  subst hq
  subst hN
  refine W.anew hexec hb hown hclink (va_AO.use hover) rfl hdg rfl hn hbytes hcells hslots fun cA kA comp f1 f2 f3 f4 => ?_
  have hcA : cA = cI := ra_same (U := s) (ty := .object C) ⟨kA, comp, f2, f3, f4, f1⟩ (hK.2 t0 _ ht).2
  subst hcA
  generalize hH1 : H.push ({ cls := cA, slots := Array.replicate n.toNatClampNeg .null, vm := .none } : Cell) = H1
  have z1 : H1.size = H.size + 1 := by rw [← hH1, Array.size_push]
  have e1 : H1[H.size]? = some (arrV cA n.toNatClampNeg (fun _ => .null)) := by rw [← hH1, Array.getElem?_push_size, ← arrV_new]
  have o1 : ∀ q : Nat, q < H.size → H1[q]? = H[q]? := fun q hq => by rw [← hH1, Array.getElem?_push, if_neg (Nat.ne_of_lt hq)]
  have hk : ∀ (k : Nat) (x : Nat × va_E), ws[k]? = some x → H1[x.1]? = H[x.1]? := fun k x hx => o1 x.1 ((hP k x hx).lt)
  refine kk H1 z1 ((hP.kept hk).app (jn_one ?_)) (hD.push hP rfl (hA _ hS.1)) ⟨Nat.le_trans hS.1 (by omega), fun x h1 h2 => (o1 x (Nat.lt_of_lt_of_le h1 hS.1)).trans (hS.2.1 x h1 h2), hS.2.2⟩
  show H1[H.size]? = some (vp_cell _ _)
  rw [vp_cell_q]
  exact e1
theorem jn_out (c : ClassId) (N h0 : Nat) : ∀ i : Nat, Jvm.Free.Multi.outerC c N h0 i = arrV c N (fun j => va_rf (if j < i then some (h0 + 1 + j) else none))
  | 0 => by
    show ({ cls := c, slots := Array.replicate N .null, vm := .none } : Cell) = _
    rw [arrV_new]
    refine congrArg (arrV c N) (funext fun j => ?_)
    simp [va_rf]
  | i + 1 => by
    show (Jvm.Free.Multi.outerC c N h0 i).setSlot i (.ref (h0 + 1 + i)) = _
    rw [jn_out c N h0 i, arrV_store]
    refine congrArg (arrV c N) (funext fun j => ?_)
    by_cases e : j = i
    · subst e
      simp [updV, va_rf]
    · by_cases h : j < i
      · simp [updV, e, h, Nat.lt_succ_of_lt h]
      · simp [updV, e, h, show ¬ j < i + 1 by omega]
/-- cells made in one go, at the heap's end -/
theorem jn_grow {H1 : Heap} {news : va_W} (hP : va_P D cl ws H) (hD : va_D A ws) (hS : va_S A H0 H locs) (hA : ∀ q, H0.size ≤ q → A q) (o1 : ∀ q : Nat, q < H.size → H1[q]? = H[q]?) (z : H.size ≤ H1.size) (hn : ∀ (k : Nat) (x : Nat × va_E), news[k]? = some x → x.1 = H.size + k ∧ va_at D cl x H1) : va_P D cl (ws ++ news) H1 ∧ va_D A (ws ++ news) ∧ va_S A H0 H1 locs := by
  have hk : ∀ (k : Nat) (x : Nat × va_E), ws[k]? = some x → H1[x.1]? = H[x.1]? := fun k x hx => o1 x.1 ((hP k x hx).lt)
  refine ⟨(hP.kept hk).app (fun k x hx => (hn k x hx).2), hD.app ⟨fun i j x y hi hj hxy => ?_, fun k x hx => ?_⟩ (fun i j x y hi hj hxy => ?_), Nat.le_trans hS.1 z, fun x h1 h2 => (o1 x (Nat.lt_of_lt_of_le h1 hS.1)).trans (hS.2.1 x h1 h2), hS.2.2⟩
  · have := (hn i x hi).1
    have := (hn j y hj).1
    omega
  · exact hA _ (by have := (hn k x hx).1; have := hS.1; omega)
  · have := (hP i x hi).lt
    have := (hn j y hj).1
    omega
theorem jn_mna {own : String} {index q t0 t1 : Nat} {cI cA : ClassId} (hexec : p.tables.exec = Jvm.exec) (hb : c.code = cc) (hown : s.vm.findClass own = some m.cls) (hclink : (Cond.classLink own index ("[" ++ (FieldType.array .int).toString)).before args s = true) (hover : (Cond.arrayOver (.array .int)).before args s = true) (harr : (Cond.arrayClass .int).before args s = true) (hK : va_K D cl tys s) (ht0 : tys[t0]? = some (cI, .int)) (ht1 : tys[t1]? = some (cA, .array .int)) (hP : va_P D cl ws H) (hD : va_D A ws) (hS : va_S A H0 H locs) (hA : ∀ q, H0.size ≤ q → A q)
    (hcells : cells + (1 + 7) ≤ R.cells) (hslots : slots + (7 + 7 * 32) ≤ R.slots) (hdg : decode cc pc = .ok (.multianewarray index 2, 4)) (hq : H.size = q)
    (kk : ∀ H1 : Heap, H1.size = q + 8 → va_P D cl (ws ++ ((q, .inl (cA, 7, .inr (.inr (.inr (.inr (fun i => if i < 7 then some (q + 1 + i) else none)))))) :: (List.range 7).map (fun i => (q + 1 + i, .inl (cI, 32, .inl (fun _ => 0)))))) H1 → va_D A (ws ++ ((q, .inl (cA, 7, .inr (.inr (.inr (.inr (fun i => if i < 7 then some (q + 1 + i) else none)))))) :: (List.range 7).map (fun i => (q + 1 + i, .inl (cI, 32, .inl (fun _ => 0)))))) → va_S A H0 H1 locs →
      W p l e R s m args below meth c H1 locs (cells + 1 + 7) (slots + 7 + 7 * 32) Q (F0 m (pc + 4) ls (.ref q :: rest))) : W p l e R s m args below meth c H locs cells slots Q (F0 m pc ls (.int 32 :: .int 7 :: rest)) := by
  subst hq
  intro T hT Xs
  have n7 : (7 : Int32).toNatClampNeg = 7 := by decide
  have n32 : (32 : Int32).toNatClampNeg = 32 := by decide
  obtain ⟨vm₁, cA', comp, -, fA, fC, hO, -, X', step⟩ := Xs.multianewarray2F hexec hown hclink hover harr (g := F0 m pc ls (.int 32 :: .int 7 :: rest)) rfl (by rw [hb]; exact hdg) rfl (by decide) (by decide) (by rw [n7]; decide) (by rw [n32]; decide) (by rw [n32]; decide) rfl rfl (by rw [n7]; exact hcells) (by rw [n7, n32]; exact hslots)
  rw [n7, n32] at X' step
  have ecA : cA' = cA := ra_same (U := s) (ty := .array .int) fA (hK.2 t1 _ ht1).2
  have ecI : comp = cI := ra_same (U := s) (ty := .int) fC (hK.2 t0 _ ht0).2
  subst ecA
  subst ecI
  generalize hF : Jvm.Free.Multi.fill (T.setVm vm₁) cA' comp 7 32 (defaultValue .int) 7 = F at X' step
  have hTh : (T.setVm vm₁).heap = H := hT
  obtain ⟨f1, f2, -, -⟩ := Jvm.Free.Multi.fill_facts (T.setVm vm₁) cA' comp 7 32 (defaultValue .int) 7
  rw [hF, hTh] at f1 f2
  have hold : ∀ x : Nat, x < H.size → F.heap[x]? = H[x]? := fun x hx => by
    have := Jvm.Free.Multi.fill_old (T.setVm vm₁) cA' comp 7 32 (defaultValue .int) (a := x) (by rw [hTh]; exact hx) 7
    rw [hF, hTh] at this
    exact this
  have hrow : ∀ j : Nat, j < 7 → F.heap[H.size + 1 + j]? = some (vp_cell comp (32, .inl (fun _ => 0))) := fun j hj => by
    have := Jvm.Free.Multi.fill_inner (T.setVm vm₁) cA' comp 7 32 (defaultValue .int) 7 j hj
    rw [hF, hTh] at this
    rw [this]
    refine congrArg some ?_
    show ({ cls := comp, slots := Array.replicate 32 (defaultValue .int), vm := .none } : Cell) = _
    rw [arrV_new]
    rfl
  rw [jn_out] at f2
  obtain ⟨g1, g2, g3⟩ := jn_grow (H1 := F.heap) (news := (H.size, .inl (cA', 7, .inr (.inr (.inr (.inr (fun i => if i < 7 then some (H.size + 1 + i) else none)))))) :: (List.range 7).map (fun i => (H.size + 1 + i, .inl (comp, 32, .inl (fun _ => 0))))) hP hD hS hA hold (by rw [f1]; omega) (fun k x hx => by
    cases k with
    | zero =>
      cases hx
      refine ⟨rfl, ?_⟩
      show F.heap[H.size]? = some (vp_cell _ _)
      rw [vp_cell_q]
      exact f2
    | succ k =>
      rw [List.getElem?_cons_succ, List.getElem?_map] at hx
      by_cases hk : k < 7
      · rw [List.getElem?_range hk] at hx
        cases hx
        exact ⟨by show H.size + 1 + k = H.size + (k + 1); omega, hrow k hk⟩
      · rw [List.getElem?_eq_none (by rw [List.length_range]; omega)] at hx
        cases hx)
  obtain ⟨t, a1, b1⟩ := kk F.heap (by rw [f1]) g1 g2 g3 F rfl X'
  refine ⟨t, step t ?_, b1⟩
  have e : T.heap.size = H.size := by rw [hT]
  rw [e]
  exact a1
theorem jn_join {A0 : Nat → Prop} {x : Nat × va_E} {w1 : va_W} {H1 : Heap} (hP : va_P D cl (ws ++ [x]) H) (hD : va_D A0 (ws ++ [x])) (hk : ∀ q : Nat, q < H.size → ¬ va_A [x] H.size q → H1[q]? = H[q]?) (hF : ∀ q, va_A [x] H.size q → A0 q) (hP1 : va_P D cl w1 H1) (hD1 : va_D (va_A [x] H.size) w1) : va_P D cl (ws ++ w1) H1 ∧ va_D A0 (ws ++ w1) := by
  have hl : ∀ (k : Nat) (y : Nat × va_E), ws[k]? = some y → (ws ++ [x])[k]? = some y := fun k y hy => by
    rw [List.getElem?_append_left (List.getElem?_eq_some_iff.mp hy).1]; exact hy
  have ap : ∀ (k : Nat) (y : Nat × va_E), ws[k]? = some y → y.1 < H.size ∧ ¬ va_A [x] H.size y.1 := fun k y hy => by
    have hlt := (hP k y (hl k y hy)).lt
    refine ⟨hlt, fun h => ?_⟩
    rcases h with ⟨j, e, hj⟩ | h
    · have hz : j < 1 := (List.getElem?_eq_some_iff.mp hj).1
      rw [show j = 0 by omega] at hj
      have hxe : x = (y.1, e) := Option.some.inj hj
      have hkl := (List.getElem?_eq_some_iff.mp hy).1
      have := hD.1 k ws.length y x (hl k y hy) (by simp) (by rw [hxe])
      omega
    · omega
  have hPw : va_P D cl ws H := fun k y hy => hP k y (hl k y hy)
  refine ⟨(hPw.kept (fun k y hy => hk y.1 (ap k y hy).1 (ap k y hy).2)).app hP1, va_D.app ⟨fun i j y z hi hj hyz => hD.1 i j y z (hl i y hi) (hl j z hj) hyz, fun k y hy => hD.2 k y (hl k y hy)⟩ (hD1.weaken (fun k y _ hA => hF _ hA)) (fun i j y z hi hj hyz => ?_)⟩
  have := hD1.2 j z hj
  rw [← hyz] at this
  exact (ap i y hi).2 this
theorem jn_putF {a : Nat} {own C : String} {T : u_T} {N ci index : Nat} {Ts : List Cond} (hexec : p.tables.exec = Jvm.exec) (hb : c.code = cc) (hts : ∀ w ∈ Ts, w.before args s = true) (hin : ∀ w ∈ u_ws C T N, w ∈ Ts) (ty0 : Nat → FieldType) (hty : ∀ k, k < N → parseFieldDescriptor (T k).2.2.1 = some (ty0 k)) (hnm : ∀ a, a < N → ∀ b, b < N → a ≠ b → (T a).2.1 ≠ (T b).2.1) (hown : s.vm.findClass own = some m.cls) (hK : va_K D cl tys s) (hP : va_P D cl ws H) (hD : va_D A ws) (hS0 : va_S A H0 H locs) (q0 : Nat) {fs : List Value} (he : ws[q0]? = some (a, .inr (ci, fs))) (hc : cl[ci]? = some (C, T, N)) (k : Nat) (hk : k < N) (hlink : (Cond.fieldLink own index (T k).1 (T k).2.1 (T k).2.2.1).before args s = true) (hin2 : (T k).2.2.2 = true → meth.name = "<init>" ∧ (T k).1 = own) {ty : FieldType} {v : Value} (hd : parseFieldDescriptor (T k).2.2.1 = some ty) (hn : narrow ty v = v) (hfit : fits ty v = true) (hl : k < fs.length)
    (hdg : decode cc pc = .ok (.putfield index, 3)) (kk : ∀ (H1 : Heap) (locs1 : List Loc), H1.size = H.size → va_P D cl (ws.set q0 (a, .inr (ci, fs.set k v))) H1 → va_D A (ws.set q0 (a, .inr (ci, fs.set k v))) → va_S A H0 H1 locs1 → W p l e R s m args below meth c H1 locs1 cells slots Q (F0 m (pc + 3) ls rest)) : W p l e R s m args below meth c H locs cells slots Q (F0 m pc ls (v :: .ref a :: rest)) := by
  have hap := va_apart (own := own) hts hin ty0 hty hnm hK hc
  obtain ⟨r, h1, cell, q1, q2, q3, q4⟩ := hP q0 _ he
  have hr : r = (C, T, N) := Option.some.inj (h1.symm.trans hc)
  subst hr
  obtain ⟨hS, hfc, kC, hkC, hkind⟩ := hK.1 ci _ hc
  obtain ⟨cf, kf, fi, f, hi, hsl⟩ := hS k hk
  have hlay := hts _ (hin _ (u_in_lay hk))
  unfold u_lay at hlay
  have hst := (u_facts hfc hkC (u_lays hts hin hk) hi).1
  cases hfin : (T k).2.2.2 with
  | true =>
    rw [if_pos hfin] at hlay
    have hcf : m.cls = cf := by
      obtain ⟨_, _, c', _, _, _, -, -, hf', -, -, -, hown2, -⟩ := Cond.laysFinal_spec hlay
      have e1 : c' = cf := by have := hi.symm.trans hf'; simp at this; exact this.1.symm
      rw [(hin2 hfin).2] at hown2
      rw [← e1]; exact Option.some.inj (hown.symm.trans hown2)
    have h6 := u_fits hfc hkC hkind (Or.inr hlay) hi hd hn hfit
    refine W.putFinK hexec hb hown hlink hi hst hcf (hin2 hfin).1 (by rw [q2]; exact h6) q1 q3 (by rw [hsl]; exact k2_hasslot (q4 k hk)) rfl rfl hdg fun H' e1 e2 e3 => ?_
    rw [hsl] at e1 ⊢
    exact kk H' _ e2 (hP.set hD he ⟨_, hc, t_OB.to (V := updV (vp_V fs) k v) ⟨_, e1, q2, q3, t_set q4 hap hk v⟩ (fun j _ => vp_updV_set hl v j)⟩ e3) (hD.set he) (hS0.put e2 e3 (hD.2 q0 _ he))
  | false =>
    rw [if_neg (by rw [hfin]; decide)] at hlay
    have h6 := u_store hfc hkC hkind hlay hi hd hn hfit
    refine W.putK hexec hb (f := f) ⟨hown, hlink, ⟨_, _, _, hi⟩, hst⟩ (by rw [q2]; exact h6) q1 q3 (by rw [hsl]; exact k2_hasslot (q4 k hk)) rfl rfl hdg fun H' e1 e2 e3 => ?_
    rw [hsl] at e1 ⊢
    exact kk H' _ e2 (hP.set hD he ⟨_, hc, t_OB.to (V := updV (vp_V fs) k v) ⟨_, e1, q2, q3, t_set q4 hap hk v⟩ (fun j _ => vp_updV_set hl v j)⟩ e3) (hD.set he) (hS0.put e2 e3 (hD.2 q0 _ he))
theorem jn_astq {a : Nat} (hexec : p.tables.exec = Jvm.exec) (hb : c.code = cc) (hK : va_K D cl tys s) (hP : va_P D cl ws H) (hD : va_D A ws) (hS : va_S A H0 H locs) (q0 t0 qk ci : Nat) {cA : ClassId} {r : vw_C} {n v : Nat} {vs : List Value} {f : Nat → Option Nat} (ha : ws[q0]? = some (a, .inl (cA, n, .inr (.inr (.inr (.inr f)))))) (ht : tys[t0]? = some (cA, .object r.1)) (hv : ws[qk]? = some (v, .inr (ci, vs))) (hc : cl[ci]? = some r) {i : Int32} (hin : vp_in i n) (hdg : decode cc pc = .ok (.aastore, 1))
    (kk : ∀ (H1 : Heap) (locs1 : List Loc), H1.size = H.size → va_P D cl (ws.set q0 (a, .inl (cA, n, .inr (.inr (.inr (.inr (va_up f i.toNatClampNeg (some v)))))))) H1 → va_D A (ws.set q0 (a, .inl (cA, n, .inr (.inr (.inr (.inr (va_up f i.toNatClampNeg (some v)))))))) → va_S A H0 H1 locs1 → W p l e R s m args below meth c H1 locs1 cells slots Q (F0 m (pc + 1) ls rest)) : W p l e R s m args below meth c H locs cells slots Q (F0 m pc ls (.ref v :: .int i :: .ref a :: rest)) := by
  have hlt : i.toNatClampNeg < n := Nat.not_le.mp fun q => hin (Or.inr q)
  have h0 : ¬ i < 0 := fun q => hin (Or.inl q)
  obtain ⟨r', hr', cellV, g1, g2, g3, -⟩ := hP qk _ hv
  have hcls := (hK.1 ci r hc).2
  obtain ⟨kA, comp, k1, k2, k3, -⟩ := (hK.2 t0 _ ht).2
  have hcomp : comp = D.1 ci := Option.some.inj (k3.symm.trans hcls.1)
  subst hcomp
  obtain ⟨kC, hkC, -⟩ := hcls.2
  refine W.aast hexec hb (hP q0 _ ha) (fun q h => by cases h) (fun h => by cases h) k1 k2 rfl hkC ⟨h0, by show _ < (arrV _ _ _).slots.size; rw [arrV_size]; exact hlt⟩ g1 (fun q h => by rw [g3] at h; cases h) (by rw [g2]; exact hkC) (by rw [g2]; exact va_assign hcls) rfl rfl hdg fun H1 e z oq => ?_
  refine kk H1 _ z (hP.set hD ha ?_ oq) (hD.set ha) (hS.put z oq (hD.2 q0 _ ha))
  show H1[a]? = some (vp_cell _ _)
  rw [e]
  rw [vp_cell_q, vp_cell_q, arrV_store]
  congr 2
  funext q
  by_cases hq : q = i.toNatClampNeg
  · subst hq
    simp [updV, va_up, va_rf]
  · simp [updV, va_up, hq]
end CW
/-! the contract of a constructor: its object at a, just made -/
def jc_A (a k : Nat) (fs0 : List Value) : Nat → Prop := va_A [(a, .inr (k, fs0))] (a + 1)
def jc_Q (a k : Nat) (fs0 : List Value) (mc : Nat) (g1 : va_G) (wd : va_W) : Array Value → State → Outcome → State → Prop := va_Qv (fun _ : Unit => True) (fun _ t => t.heap.size = a + 1 + mc ∧ va_P g1 vwCl wd t.heap ∧ va_D (jc_A a k fs0) wd) (jc_A a k fs0)
def jc_M (rm : Room) (mt : jw_Mt) (a k : Nat) (fs0 as : List Value) (mc ms : Nat) (Wd : (Nat → ClassId) → va_W) : Prop := ∀ (l : Launch) (g1 : va_G) (tc : Nat → ClassId), Met l mt.1 (.code mt.1 mt.2.1 mt.2.2.1 mt.2.2.2 :: jw_words) rm (va_Pc (.ref a :: as) (fun U => U.heap.size = a + 1 ∧ va_P g1 vwCl [(a, .inr (k, fs0))] U.heap ∧ jc_K g1 tc U)) (jc_Q a k fs0 mc g1 (Wd tc)) mc ms (jc_A a k fs0)
section CI
variable {p : Program} {l : Launch} {e : Env} {R : Room} {s : State} {m : MethodId} {args : Array Value} {below : List Frame} {meth : Method} {c : Code} {H : Heap} {locs : List Loc} {cells slots : Nat} {Q : State → Prop} {cc : ByteArray} {pc nL : Nat} {ls : Array Slot} {rest : List Value} {g1 : va_G} {A : Nat → Prop} {tc : Nat → ClassId} {ws : va_W} {H0 : Heap} {own : String} {Ts : List Cond}
variable {rm : Room} {mt : jw_Mt} {a k mc ms : Nat} {fs0 as : List Value} {Wd : (Nat → ClassId) → va_W}
theorem jn_behind {a0 : Array Value} {st0 : List Value} (hr : va_Run p l e R s m args below meth c H locs cells slots mc ms (F0 m pc ls st0) rest (jc_Q a k fs0 mc g1 (Wd tc) a0) (jc_A a k fs0)) (hz : H.size = a + 1) (hP : va_P g1 vwCl (ws ++ [(a, .inr (k, fs0))]) H) (hD : va_D A (ws ++ [(a, .inr (k, fs0))])) (hS : va_S A H0 H locs) (hA : ∀ q, H0.size ≤ q → A q)
    (kk : ∀ (H1 : Heap) (locs1 : List Loc), H1.size = a + 1 + mc → va_P g1 vwCl (ws ++ Wd tc) H1 → va_D A (ws ++ Wd tc) → va_S A H0 H1 locs1 → W p l e R s m args below meth c H1 locs1 (cells + mc) (slots + ms) Q (F0 m (pc + 3) ls rest)) : W p l e R s m args below meth c H locs cells slots Q (F0 m pc ls st0) := by
  have hF : ∀ q, jc_A a k fs0 q → A q := fun q h => by
    rcases h with ⟨j, e, hj⟩ | h
    · have hz : j < 1 := (List.getElem?_eq_some_iff.mp hj).1
      rw [show j = 0 by omega] at hj
      cases hj
      exact hD.2 ws.length (a, .inr (k, fs0)) (by simp)
    · exact hA q (by have := hS.1; omega)
  refine va_callv hr hS (fun q _ h => hF q h) hF (fun u t H1 locs1 ht hvm hw hB hz1 hk1 hS1 => ?_)
  obtain ⟨b1, b2, b3⟩ := hB
  rw [ht] at b1 b2
  have hk2 : ∀ q : Nat, q < H.size → ¬ va_A [(a, .inr (k, fs0))] H.size q → H1[q]? = H[q]? := fun q h1 h2 => hk1 q h1 (by rw [hz] at h2; exact h2)
  obtain ⟨j1, j2⟩ := jn_join hP hD hk2 (fun q h => hF q (by rw [hz] at h; exact h)) b2 (by rw [hz]; exact b3)
  exact kk H1 locs1 b1 j1 j2 hS1
theorem jn_pre (hz : H.size = a + 1) (hP : va_P g1 vwCl (ws ++ [(a, .inr (k, fs0))]) H) (hK : jc_K g1 tc s) : PreS s H (va_Pc (.ref a :: as) (fun U => U.heap.size = a + 1 ∧ va_P g1 vwCl [(a, .inr (k, fs0))] U.heap ∧ jc_K g1 tc U)) (.ref a :: as) :=
  ⟨fun a U G mk hu => ⟨hu.1, hu.2.1, hu.2.2.1, hu.2.2.2.blind G mk a⟩, fun U hU hW => ⟨rfl, by rw [hU]; exact hz, by rw [hU]; exact jn_one (hP ws.length _ (by simp)), hK.go hW⟩⟩
theorem jn_init {index n : Nat} (hM : jc_M rm mt a k fs0 as mc ms Wd) (hx : p.tables.exec = Jvm.exec) (hb : c.code = cc) (hml : c.maxLocals = nL) (hown : s.vm.findClass own = some m.cls) (hts : ∀ w ∈ Ts, w.before args s = true) (hG : GoodIn Ts (.code mt.1 mt.2.1 mt.2.2.1 mt.2.2.2 :: jw_words)) (hini : (Cond.initialized mt.1.cls).before args s = true) (hl : (Cond.methodLink own index mt.1).before args s = true) (hin : (Cond.instanceMethod mt.1).before args s = true) (hn0 : mt.1.name = "<init>") (hr0 : mt.2.2.2 = none)
    (hd : mt.1.cls ≠ "java/lang/invoke/MethodHandle" ∧ mt.1.cls ≠ "java/lang/invoke/VarHandle" ∧ (parseMethodDescriptor mt.1.desc).map (fun d => d.parameters.length) = some n) (hrm : rm.cells = mc ∧ rm.slots = ms ∧ rm.frames + 1 ≤ R.frames ∧ 8 + (mt.2.2.1 + 11) + rm.locals ≤ R.locals) (hsize : ls.size = nL) (hn : as.length = n) {st0 : List Value} (hst : st0 = as.reverse ++ .ref a :: rest) (hcat : (rest.map fun v => v.category).sum ≤ 8) (hdg : decode cc pc = .ok (.invokespecial index, 3)) (hf : cells + mc ≤ R.cells ∧ slots + ms ≤ R.slots)
    (hz : H.size = a + 1) (hP : va_P g1 vwCl (ws ++ [(a, .inr (k, fs0))]) H) (hD : va_D A (ws ++ [(a, .inr (k, fs0))])) (hS : va_S A H0 H locs) (hA : ∀ q, H0.size ≤ q → A q) (hK : jc_K g1 tc s)
    (kk : ∀ (H1 : Heap) (locs1 : List Loc), H1.size = a + 1 + mc → va_P g1 vwCl (ws ++ Wd tc) H1 → va_D A (ws ++ Wd tc) → va_S A H0 H1 locs1 → W p l e R s m args below meth c H1 locs1 (cells + mc) (slots + ms) Q (F0 m (pc + 3) ls rest)) : W p l e R s m args below meth c H locs cells slots Q (F0 m pc ls st0) := by
  subst hst
  have hM1 := hM l g1 tc
  rw [hr0] at hM1 hG
  exact jn_behind (va_runI (As := as) (rest := rest) ⟨hx, hb, hml, hown, hts⟩ hM1 ⟨callB_of n hts hG rfl hrm.1 hrm.2.1 hini hl hd ⟨hrm.2.2.1, hrm.2.2.2⟩, hn0, hin⟩ (jn_pre hz hP hK) rfl hn hsize rfl (lv_room hcat) hdg hf) hz hP hD hS hA kk
theorem jn_initN {index n : Nat} {host : String} (hM : jc_M rm mt a k fs0 as mc ms Wd) (hx : p.tables.exec = Jvm.exec) (hb : c.code = cc) (hml : c.maxLocals = nL) (hown : s.vm.findClass own = some m.cls) (hts : ∀ w ∈ Ts, w.before args s = true) (hG : GoodIn Ts (.code mt.1 mt.2.1 mt.2.2.1 mt.2.2.2 :: jw_words)) (hini : (Cond.initialized mt.1.cls).before args s = true) (hl : va_Nw (.methodLinkNest own index mt.1 host) s) (hin : (Cond.instanceMethod mt.1).before args s = true) (hn0 : mt.1.name = "<init>") (hr0 : mt.2.2.2 = none)
    (hd : mt.1.cls ≠ "java/lang/invoke/MethodHandle" ∧ mt.1.cls ≠ "java/lang/invoke/VarHandle" ∧ (parseMethodDescriptor mt.1.desc).map (fun d => d.parameters.length) = some n) (hrm : rm.cells = mc ∧ rm.slots = ms ∧ rm.frames + 1 ≤ R.frames ∧ 8 + (mt.2.2.1 + 11) + rm.locals ≤ R.locals) (hsize : ls.size = nL) (hn : as.length = n) {st0 : List Value} (hst : st0 = as.reverse ++ .ref a :: rest) (hcat : (rest.map fun v => v.category).sum ≤ 8) (hdg : decode cc pc = .ok (.invokespecial index, 3)) (hf : cells + mc ≤ R.cells ∧ slots + ms ≤ R.slots)
    (hz : H.size = a + 1) (hP : va_P g1 vwCl (ws ++ [(a, .inr (k, fs0))]) H) (hD : va_D A (ws ++ [(a, .inr (k, fs0))])) (hS : va_S A H0 H locs) (hA : ∀ q, H0.size ≤ q → A q) (hK : jc_K g1 tc s)
    (kk : ∀ (H1 : Heap) (locs1 : List Loc), H1.size = a + 1 + mc → va_P g1 vwCl (ws ++ Wd tc) H1 → va_D A (ws ++ Wd tc) → va_S A H0 H1 locs1 → W p l e R s m args below meth c H1 locs1 (cells + mc) (slots + ms) Q (F0 m (pc + 3) ls rest)) : W p l e R s m args below meth c H locs cells slots Q (F0 m pc ls st0) := by
  subst hst
  have hM1 := hM l g1 tc
  rw [hr0] at hM1 hG
  exact jn_behind (va_runIN (As := as) (rest := rest) ⟨hx, hb, hml, hown, hts⟩ hM1 ⟨va_cnB n hts hG rfl hrm.1 hrm.2.1 hl hini hd ⟨hrm.2.2.1, hrm.2.2.2⟩, hn0, hin⟩ (jn_pre hz hP hK) rfl hn hsize rfl (lv_room hcat) hdg hf) hz hP hD hS hA kk
end CI
/-! ===== a constructor's own walk ===== -/
def jc_C (g1 : va_G) (tc : Nat → ClassId) (mt : jw_Mt) (p : Program) (s : State) (m : MethodId) (args : Array Value) (meth : Method) (c : Code) : Prop :=
  p.tables.exec = Jvm.exec ∧ c.code = mt.2.1 ∧ c.maxLocals = mt.2.2.1 ∧ meth.sig.returnType = none ∧ meth.locks = false ∧ s.vm.findClass mt.1.cls = some m.cls ∧ meth.name = "<init>" ∧ (∀ w ∈ (.code mt.1 mt.2.1 mt.2.2.1 mt.2.2.2 :: jw_words), w.before args s = true) ∧ jc_K g1 tc s
def jc_J (rm : Room) (mt : jw_Mt) (a k : Nat) (fs0 : List Value) (mc ms : Nat) (Wd : (Nat → ClassId) → va_W) (pc : Nat) (lv : List (Nat × Value)) (st : List Value) (n : Nat) (fs : List Value) (rest : (Nat → ClassId) → va_W) (cells slots : Nat) : Prop :=
  ∀ (l : Launch) (g1 : va_G) (tc : Nat → ClassId) (p : Program) (e : Env) (s : State) (m : MethodId) (args : Array Value) (below : List Frame) (meth : Method) (c : Code), jc_C g1 tc mt p s m args meth c → s.heap.size = a + 1 → ∀ (H : Heap) (locs : List Loc) (ls : Array Slot), H.size = n → va_P g1 vwCl ((a, .inr (k, fs)) :: rest tc) H → va_D (jc_A a k fs0) ((a, .inr (k, fs)) :: rest tc) → va_S (jc_A a k fs0) s.heap H locs → lv_has ls mt.2.2.1 lv →
    W p l e rm s m args below meth c H locs cells slots (MQ below (jc_Q a k fs0 mc g1 (Wd tc)) args s mc ms (jc_A a k fs0)) (F0 m pc ls st)
theorem jc_hA {a k : Nat} {fs0 : List Value} {s : State} (h : s.heap.size = a + 1) : ∀ q, s.heap.size ≤ q → jc_A a k fs0 q := fun q hq => Or.inr (by rw [← h]; exact hq)
section CJ
variable {rm : Room} {mt : jw_Mt} {a k mc ms : Nat} {fs0 : List Value} {Wd : (Nat → ClassId) → va_W} {pc : Nat} {lv : List (Nat × Value)} {st : List Value} {n : Nat} {fs : List Value} {rest : (Nat → ClassId) → va_W} {cells slots : Nat}
theorem jc_M.of {as : List Value} (hr0 : mt.2.2.2 = none) (hn0 : mt.1.name = "<init>") (hy : plainName mt.1.cls = true) (hnl : (lg_sl (.ref a :: as)).length ≤ mt.2.2.1) (hlv : lv_args 0 (.ref a :: as) = lv) (h : jc_J rm mt a k fs0 mc ms Wd 0 lv [] (a + 1) fs0 (fun _ => []) 0 0) : jc_M rm mt a k fs0 as mc ms Wd := by
  intro l g1 tc
  refine Met.ofW (cc := mt.2.1) (maxL := mt.2.2.1) (ret := mt.2.2.2) hy rfl ?_
  intro p e s m args below meth c s₁ B hml hv
  obtain ⟨rfl, hsz, hP, hK⟩ := hv
  rw [lg_entry_eq]
  refine h l g1 tc p e s m _ below meth c ⟨B.exec, B.bytes, hml, by rw [B.returns, hr0], B.notSynchronized, findClass_of_methodNamed B.named, by rw [(name_of_methodNamed B.named B.method).1]; exact hn0, atoms_spec B.pre, hK⟩ hsz s.heap [] _ hsz hP ⟨fun i j x y hi hj _ => ?_, fun i x hi => ?_⟩ va_S.rf ?_
  · have h1 : i < 1 := (List.getElem?_eq_some_iff.mp hi).1
    have h2 : j < 1 := (List.getElem?_eq_some_iff.mp hj).1
    omega
  · have h1 : i < 1 := (List.getElem?_eq_some_iff.mp hi).1
    rw [show i = 0 by omega] at hi
    cases hi
    exact Or.inl ⟨0, _, rfl⟩
  · rw [← hlv]
    exact lv_entry _ hnl
theorem jc_aload_n {k1 : Fin 4} {i : Nat} {v : Nat} (hd : decode mt.2.1 pc = .ok (.aload_n k1, 1)) (hi : (k1 : Nat) = i) (q : Nat) (hq : lv[q]? = some (i, .ref v)) (h : jc_J rm mt a k fs0 mc ms Wd (pc + 1) lv (.ref v :: st) n fs rest cells slots) : jc_J rm mt a k fs0 mc ms Wd pc lv st n fs rest cells slots := by
  intro l g1 tc p e s m args below meth c C hs H locs ls hz hP hD hS hlv
  obtain ⟨hx, hb, hml, hr, hlocks, hown, hin, hts, hK⟩ := id C
  exact lv_aload_n hx hb hd hi (lv_at hlv q hq) (h l g1 tc p e s m args below meth c C hs H locs ls hz hP hD hS hlv)
theorem jc_astore_n {k1 : Fin 4} {i v : Nat} {lv' : List (Nat × Value)} (hd : decode mt.2.1 pc = .ok (.astore_n k1, 1)) (hi : (k1 : Nat) = i) (hn : i < mt.2.2.1) (hl : (i, Value.ref v) :: lv.filter (fun q => !(q.1 == i) && !(q.1 + 1 == i && q.2.category == 2)) = lv') (h : jc_J rm mt a k fs0 mc ms Wd (pc + 1) lv' st n fs rest cells slots) : jc_J rm mt a k fs0 mc ms Wd pc lv (.ref v :: st) n fs rest cells slots := by
  intro l g1 tc p e s m args below meth c C hs H locs ls hz hP hD hS hlv
  obtain ⟨hx, hb, hml, hr, hlocks, hown, hin, hts, hK⟩ := id C
  exact lv_astore_n hx hb hd hi hlv hn hl (fun ls' hl' => h l g1 tc p e s m args below meth c C hs H locs ls' hz hP hD hS hl')
theorem jc_istore_n {k1 : Fin 4} {i : Nat} {v : Int32} {lv' : List (Nat × Value)} (hd : decode mt.2.1 pc = .ok (.istore_n k1, 1)) (hi : (k1 : Nat) = i) (hn : i < mt.2.2.1) (hl : (i, Value.int v) :: lv.filter (fun q => !(q.1 == i) && !(q.1 + 1 == i && q.2.category == 2)) = lv') (h : jc_J rm mt a k fs0 mc ms Wd (pc + 1) lv' st n fs rest cells slots) : jc_J rm mt a k fs0 mc ms Wd pc lv (.int v :: st) n fs rest cells slots := by
  intro l g1 tc p e s m args below meth c C hs H locs ls hz hP hD hS hlv
  obtain ⟨hx, hb, hml, hr, hlocks, hown, hin, hts, hK⟩ := id C
  exact lv_istore_n hx hb hd hi hlv hn hl (fun ls' hl' => h l g1 tc p e s m args below meth c C hs H locs ls' hz hP hD hS hl')
theorem jc_iload_n {k1 : Fin 4} {i : Nat} {v : Int32} (hd : decode mt.2.1 pc = .ok (.iload_n k1, 1)) (hi : (k1 : Nat) = i) (q : Nat) (hq : lv[q]? = some (i, .int v)) (h : jc_J rm mt a k fs0 mc ms Wd (pc + 1) lv (.int v :: st) n fs rest cells slots) : jc_J rm mt a k fs0 mc ms Wd pc lv st n fs rest cells slots := by
  intro l g1 tc p e s m args below meth c C hs H locs ls hz hP hD hS hlv
  obtain ⟨hx, hb, hml, hr, hlocks, hown, hin, hts, hK⟩ := id C
  exact lv_iload_n hx hb hd hi (lv_at hlv q hq) (h l g1 tc p e s m args below meth c C hs H locs ls hz hP hD hS hlv)
theorem jc_iinc {i q : Nat} {n1 : Int} {x v : Int32} {lv' : List (Nat × Value)} (hd : decode mt.2.1 pc = .ok (.iinc i n1, 3)) (hq : lv[q]? = some (i, .int x)) (hv : x + Int32.ofInt n1 = v) (hn : i < mt.2.2.1) (hl : (i, Value.int v) :: lv.filter (fun q => !(q.1 == i) && !(q.1 + 1 == i && q.2.category == 2)) = lv') (h : jc_J rm mt a k fs0 mc ms Wd (pc + 3) lv' st n fs rest cells slots) : jc_J rm mt a k fs0 mc ms Wd pc lv st n fs rest cells slots := by
  intro l g1 tc p e s m args below meth c C hs H locs ls hz hP hD hS hlv
  obtain ⟨hx, hb, hml, hr, hlocks, hown, hin, hts, hK⟩ := id C
  exact lv_iinc hx hb hd hlv (k := q) hq hv hn hl (fun ls' hl' => h l g1 tc p e s m args below meth c C hs H locs ls' hz hP hD hS hl')
theorem jc_icmp_ge {x y : Int32} {off : Int} {tgt : Nat} (hd : decode mt.2.1 pc = .ok (.if_icmp .ge off, 3)) (ht : (pc : Int) + off = (tgt : Int)) (kt : y ≤ x → jc_J rm mt a k fs0 mc ms Wd tgt lv st n fs rest cells slots) (kf : ¬ y ≤ x → jc_J rm mt a k fs0 mc ms Wd (pc + 3) lv st n fs rest cells slots) : jc_J rm mt a k fs0 mc ms Wd pc lv (.int y :: .int x :: st) n fs rest cells slots := by
  intro l g1 tc p e s m args below meth c C hs H locs ls hz hP hD hS hlv
  obtain ⟨hx, hb, hml, hr, hlocks, hown, hin, hts, hK⟩ := id C
  exact lv_icmp_ge hx hb hd ht (fun q => kt q l g1 tc p e s m args below meth c C hs H locs ls hz hP hD hS hlv) (fun q => kf q l g1 tc p e s m args below meth c C hs H locs ls hz hP hD hS hlv)
theorem jc_goto {off : Int} {tgt : Nat} (hd : decode mt.2.1 pc = .ok (.goto off, 3)) (ht : (pc : Int) + off = (tgt : Int)) (h : jc_J rm mt a k fs0 mc ms Wd tgt lv st n fs rest cells slots) : jc_J rm mt a k fs0 mc ms Wd pc lv st n fs rest cells slots := by
  intro l g1 tc p e s m args below meth c C hs H locs ls hz hP hD hS hlv
  obtain ⟨hx, hb, hml, hr, hlocks, hown, hin, hts, hK⟩ := id C
  exact lv_goto hx hb hd ht (h l g1 tc p e s m args below meth c C hs H locs ls hz hP hD hS hlv)
theorem jc_iconst {n1 : Int} {v : Int32} (hd : decode mt.2.1 pc = .ok (.iconst n1, 1)) (hv : Int32.ofInt n1 = v) (h : jc_J rm mt a k fs0 mc ms Wd (pc + 1) lv (.int v :: st) n fs rest cells slots) : jc_J rm mt a k fs0 mc ms Wd pc lv st n fs rest cells slots := by
  intro l g1 tc p e s m args below meth c C hs H locs ls hz hP hD hS hlv
  obtain ⟨hx, hb, hml, hr, hlocks, hown, hin, hts, hK⟩ := id C
  exact lv_iconst hx hb hd hv (h l g1 tc p e s m args below meth c C hs H locs ls hz hP hD hS hlv)
theorem jc_bipush {n1 : Int} {v : Int32} (hd : decode mt.2.1 pc = .ok (.bipush n1, 2)) (hv : (Int8.ofInt n1).toInt32 = v) (h : jc_J rm mt a k fs0 mc ms Wd (pc + 2) lv (.int v :: st) n fs rest cells slots) : jc_J rm mt a k fs0 mc ms Wd pc lv st n fs rest cells slots := by
  intro l g1 tc p e s m args below meth c C hs H locs ls hz hP hD hS hlv
  obtain ⟨hx, hb, hml, hr, hlocks, hown, hin, hts, hK⟩ := id C
  exact lv_bipush hx hb hd hv (h l g1 tc p e s m args below meth c C hs H locs ls hz hP hD hS hlv)
theorem jc_sipush {n1 : Int} {v : Int32} (hd : decode mt.2.1 pc = .ok (.sipush n1, 3)) (hv : (Int16.ofInt n1).toInt32 = v) (h : jc_J rm mt a k fs0 mc ms Wd (pc + 3) lv (.int v :: st) n fs rest cells slots) : jc_J rm mt a k fs0 mc ms Wd pc lv st n fs rest cells slots := by
  intro l g1 tc p e s m args below meth c C hs H locs ls hz hP hD hS hlv
  obtain ⟨hx, hb, hml, hr, hlocks, hown, hin, hts, hK⟩ := id C
  exact lv_sipush hx hb hd hv (h l g1 tc p e s m args below meth c C hs H locs ls hz hP hD hS hlv)
theorem jc_dup {v : Nat} (hd : decode mt.2.1 pc = .ok (.dup, 1)) (h : jc_J rm mt a k fs0 mc ms Wd (pc + 1) lv (.ref v :: .ref v :: st) n fs rest cells slots) : jc_J rm mt a k fs0 mc ms Wd pc lv (.ref v :: st) n fs rest cells slots := by
  intro l g1 tc p e s m args below meth c C hs H locs ls hz hP hD hS hlv
  obtain ⟨hx, hb, hml, hr, hlocks, hown, hin, hts, hK⟩ := id C
  exact lv_dup hx hb hd rfl (h l g1 tc p e s m args below meth c C hs H locs ls hz hP hD hS hlv)
theorem jc_obj {idx v : Nat} (hw : Cond.methodLink mt.1.cls idx Lib.objectInit ∈ lw_tbl) (hw2 : Cond.instanceMethod Lib.objectInit ∈ lw_tbl) (hw3 : Cond.code Lib.objectInit ⟨#[0xb1]⟩ 1 none ∈ lw_tbl) (hd : decode mt.2.1 pc = .ok (.invokespecial idx, 3)) (hf : 1 ≤ rm.frames) (hl : (st.map fun v => v.category).sum + 12 ≤ rm.locals) (h : jc_J rm mt a k fs0 mc ms Wd (pc + 3) lv st n fs rest cells slots) : jc_J rm mt a k fs0 mc ms Wd pc lv (.ref v :: st) n fs rest cells slots := by
  intro l g1 tc p e s m args below meth c C hs H locs ls hz hP hD hS hlv
  obtain ⟨hx, hb, hml, hr, hlocks, hown, hin, hts, hK⟩ := id C
  refine W.objInit hx hb hown (jw_in hts hw rfl) (jw_in hts hw2 rfl) (jw_in hts hw3 rfl) rfl (by rw [hml]; exact hlv.1) rfl hd hf (by show 2 * 0 + _ + 12 ≤ _; rw [Nat.mul_zero, Nat.zero_add]; exact hl) ?_
  exact h l g1 tc p e s m args below meth c C hs H locs ls hz hP hD hS hlv
theorem jc_newa {atype : ArrayType} {t0 N' : Nat} {x : Int32} (harr : Cond.arrayClass (newarray.typeOf atype) ∈ lw_tbl) (hg : goodWord (.arrayClass (newarray.typeOf atype)) = true) (ht : ∀ tc : Nat → ClassId, (jc_tys tc)[t0]? = some (tc t0, newarray.typeOf atype)) (ha : ∀ cA : ClassId, vp_cell cA (N', .inl (fun _ => 0)) = arrV cA N' (fun _ => defaultValue (newarray.typeOf atype))) (hn : ¬ x < 0) (hN : x.toNatClampNeg = N') (hbytes : N' * componentBytes (newarray.typeOf atype) ≤ 536870912) (hcells : cells + 1 ≤ rm.cells) (hslots : slots + N' ≤ rm.slots) (hdg : decode mt.2.1 pc = .ok (.newarray atype, 2))
    (h : jc_J rm mt a k fs0 mc ms Wd (pc + 2) lv (.ref n :: st) (n + 1) fs (fun tc => rest tc ++ [(n, .inl (tc t0, N', .inl (fun _ => 0)))]) (cells + 1) (slots + N')) : jc_J rm mt a k fs0 mc ms Wd pc lv (.int x :: st) n fs rest cells slots := by
  intro l g1 tc p e s m args below meth c C hs H locs ls hz hP hD hS hlv
  obtain ⟨hx, hb, hml, hr, hlocks, hown, hin, hts, hK⟩ := id C
  refine jn_newa (q := n) (t0 := t0) hx hb (jw_in hts harr hg) hK.1 (ht tc) hP hD hS (jc_hA hs) ha hn hN hbytes hcells hslots hdg hz (fun H1 z1 hP1 hD1 hS1 => ?_)
  exact h l g1 tc p e s m args below meth c C hs H1 locs ls z1 hP1 hD1 hS1 hlv
theorem jc_new {C : String} {T : u_T} {N ci index : Nat} {fs1 : List Value} (hin : ∀ w ∈ u_ws C T N, w ∈ jw_words) (ty : Nat → FieldType) (hty : ∀ k, k < N → parseFieldDescriptor (T k).2.2.1 = some (ty k)) (hcl : Cond.classLink mt.1.cls index C ∈ lw_tbl) (hinst : Cond.instantiable C N ∈ lw_tbl) (hini : Cond.initialized C ∈ lw_tbl) (hc : vwCl[ci]? = some (C, T, N)) (hfs : ∀ j, j < N → defaultValue (ty j) = vp_V fs1 j) (hcells : cells + 1 ≤ rm.cells) (hslots : slots + N ≤ rm.slots) (hdg : decode mt.2.1 pc = .ok (.new index, 3))
    (h : jc_J rm mt a k fs0 mc ms Wd (pc + 3) lv (.ref n :: st) (n + 1) fs (fun tc => rest tc ++ [(n, .inr (ci, fs1))]) (cells + 1) (slots + N)) : jc_J rm mt a k fs0 mc ms Wd pc lv st n fs rest cells slots := by
  intro l g1 tc p e s m args below meth c C hs H locs ls hz hP hD hS hlv
  obtain ⟨hx, hb, hml, hr, hlocks, hown, hin2, hts, hK⟩ := id C
  refine jn_new (q := n) hx hb hts (fun w hw => List.mem_cons_of_mem _ (hin w hw)) ty hty hown (jw_in hts hcl rfl) (jw_in hts hinst rfl) (jw_in hts hini rfl) hK.1 hP hD hS (jc_hA hs) hc hfs hcells hslots hdg hz (fun H1 z1 hP1 hD1 hS1 => ?_)
  exact h l g1 tc p e s m args below meth c C hs H1 locs ls z1 hP1 hD1 hS1 hlv
theorem jc_newq {C : String} {index t0 N' : Nat} {x : Int32} (hcl : Cond.classLink mt.1.cls index C ∈ lw_tbl) (hov : C = RX8 ∨ C = RX4) (ht : ∀ tc : Nat → ClassId, (jc_tys tc)[t0]? = some (tc t0, .object C)) (hn : ¬ x < 0) (hN : x.toNatClampNeg = N') (hbytes : N' * 4 ≤ 536870912) (hcells : cells + 1 ≤ rm.cells) (hslots : slots + N' ≤ rm.slots) (hdg : decode mt.2.1 pc = .ok (.anewarray index, 3))
    (h : jc_J rm mt a k fs0 mc ms Wd (pc + 3) lv (.ref n :: st) (n + 1) fs (fun tc => rest tc ++ [(n, .inl (tc t0, N', .inr (.inr (.inr (.inr (fun _ => none))))))]) (cells + 1) (slots + N')) : jc_J rm mt a k fs0 mc ms Wd pc lv (.int x :: st) n fs rest cells slots := by
  intro l g1 tc p e s m args below meth c C hs H locs ls hz hP hD hS hlv
  obtain ⟨hx, hb, hml, hr, hlocks, hown, hin2, hts, hK⟩ := id C
  refine jn_newq (q := n) (t0 := t0) hx hb hown (jw_in hts hcl rfl) (by rcases hov with rfl | rfl; exact hK.2.2.1; exact hK.2.2.2.1) hK.1 (ht tc) hP hD hS (jc_hA hs) hn hN hbytes hcells hslots hdg hz (fun H1 z1 hP1 hD1 hS1 => ?_)
  exact h l g1 tc p e s m args below meth c C hs H1 locs ls z1 hP1 hD1 hS1 hlv
theorem jc_mna {index : Nat} (hcl : Cond.classLink mt.1.cls index ("[" ++ (FieldType.array .int).toString) ∈ lw_tbl) (harr : Cond.arrayClass .int ∈ lw_tbl) (hcells : cells + (1 + 7) ≤ rm.cells) (hslots : slots + (7 + 7 * 32) ≤ rm.slots) (hdg : decode mt.2.1 pc = .ok (.multianewarray index 2, 4))
    (h : jc_J rm mt a k fs0 mc ms Wd (pc + 4) lv (.ref n :: st) (n + 8) fs (fun tc => rest tc ++ ((n, .inl (tc 2, 7, .inr (.inr (.inr (.inr (fun i => if i < 7 then some (n + 1 + i) else none)))))) :: (List.range 7).map (fun i => (n + 1 + i, .inl (tc 0, 32, .inl (fun _ => 0)))))) (cells + 1 + 7) (slots + 7 + 7 * 32)) : jc_J rm mt a k fs0 mc ms Wd pc lv (.int 32 :: .int 7 :: st) n fs rest cells slots := by
  intro l g1 tc p e s m args below meth c C hs H locs ls hz hP hD hS hlv
  obtain ⟨hx, hb, hml, hr, hlocks, hown, hin2, hts, hK⟩ := id C
  refine jn_mna (q := n) (t0 := 0) (t1 := 2) (cI := tc 0) (cA := tc 2) hx hb hown (jw_in hts hcl rfl) (arrayOver_alikeB (Vm.Alike.refl s.vm) hK.2.2.2.2) (jw_in hts harr rfl) hK.1 rfl rfl hP hD hS (jc_hA hs) hcells hslots hdg hz (fun H1 z1 hP1 hD1 hS1 => ?_)
  exact h l g1 tc p e s m args below meth c C hs H1 locs ls z1 hP1 hD1 hS1 hlv
/-- the table's words on a field that a constructor sets -/
def jc_F (own : String) (idx k j : Nat) (fin : Bool) (v : Value) : Prop := ∃ (C : String) (T : u_T) (N : Nat) (ty0 : Nat → FieldType) (ty : FieldType), vwCl[k]? = some (C, T, N) ∧ j < N ∧ (∀ w ∈ u_ws C T N, w ∈ jw_words) ∧ Cond.fieldLink own idx (T j).1 (T j).2.1 (T j).2.2.1 ∈ lw_tbl ∧ (∀ k, k < N → parseFieldDescriptor (T k).2.2.1 = some (ty0 k)) ∧ (∀ a, a < N → ∀ b, b < N → a ≠ b → (T a).2.1 ≠ (T b).2.1) ∧ (T j).2.2.2 = fin ∧ (T j).1 = own ∧ parseFieldDescriptor (T j).2.2.1 = some ty ∧ narrow ty v = v ∧ fits ty v = true
theorem jc_put {idx j : Nat} {fin : Bool} {v : Value} (hF : jc_F mt.1.cls idx k j fin v) (hl : j < fs.length) (hd : decode mt.2.1 pc = .ok (.putfield idx, 3)) (h : jc_J rm mt a k fs0 mc ms Wd (pc + 3) lv st n (fs.set j v) rest cells slots) : jc_J rm mt a k fs0 mc ms Wd pc lv (v :: .ref a :: st) n fs rest cells slots := by
  intro l g1 tc p e s m args below meth c C hs H locs ls hz hP hD hS hlv
  obtain ⟨hx, hb, hml, hr, hlocks, hown, hin2, hts, hK⟩ := id C
  obtain ⟨C0, T, N, ty0, ty, f1, f2, f3, f4, f5, f6, f7, f8, f9, f10, f11⟩ := hF
  refine jn_putF hx hb hts (fun w hw => List.mem_cons_of_mem _ (f3 w hw)) ty0 f5 f6 hown hK.1 hP hD hS 0 rfl f1 j f2 (jw_in hts f4 rfl) (fun _ => ⟨hin2, f8⟩) f9 f10 f11 hl hd (fun H1 locs1 z1 hP1 hD1 hS1 => ?_)
  exact h l g1 tc p e s m args below meth c C hs H1 locs1 ls (z1.trans hz) hP1 hD1 hS1 hlv
theorem jc_get {idx j : Nat} {v : Value} (hF : jw_F mt.1.cls idx k j) (hv : fs[j]? = some v) (hd : decode mt.2.1 pc = .ok (.getfield idx, 3)) (h : jc_J rm mt a k fs0 mc ms Wd (pc + 3) lv (v :: st) n fs rest cells slots) : jc_J rm mt a k fs0 mc ms Wd pc lv (.ref a :: st) n fs rest cells slots := by
  intro l g1 tc p e s m args below meth c C hs H locs ls hz hP hD hS hlv
  obtain ⟨hx, hb, hml, hr, hlocks, hown, hin2, hts, hK⟩ := id C
  obtain ⟨C0, T, N, h1, h2, h3, h4, h5, h6⟩ := hF
  exact va_get hx hb hts (fun w hw => List.mem_cons_of_mem _ (h5 w hw)) hown hK.1 hP 0 rfl h1 j h4 (jw_in hts h6 rfl) (fun _ h9 => h9) hv hd (h l g1 tc p e s m args below meth c C hs H locs ls hz hP hD hS hlv)
/-- the table's words on a call of a constructor -/
def jc_CB (mt' : jw_Mt) (np : Nat) : Prop := Cond.code mt'.1 mt'.2.1 mt'.2.2.1 mt'.2.2.2 ∈ jw_words ∧ Cond.initialized mt'.1.cls ∈ lw_tbl ∧ Cond.instanceMethod mt'.1 ∈ lw_tbl ∧ mt'.1.name = "<init>" ∧ mt'.2.2.2 = none ∧ (mt'.1.cls ≠ "java/lang/invoke/MethodHandle" ∧ mt'.1.cls ≠ "java/lang/invoke/VarHandle" ∧ (parseMethodDescriptor mt'.1.desc).map (fun d => d.parameters.length) = some np)
theorem jc_init {rm' : Room} {mt' : jw_Mt} {q k' mc' ms' idx : Nat} {fs1 as st0 : List Value} {Wd' : (Nat → ClassId) → va_W} {rest0 : (Nat → ClassId) → va_W} (hM : jc_M rm' mt' q k' fs1 as mc' ms' Wd') (hc : jc_CB mt' as.length) (hlk : Cond.methodLink mt.1.cls idx mt'.1 ∈ lw_tbl) (hrm : rm'.cells = mc' ∧ rm'.slots = ms' ∧ rm'.frames + 1 ≤ rm.frames ∧ 8 + (mt'.2.2.1 + 11) + rm'.locals ≤ rm.locals) (hst : st0 = as.reverse ++ .ref q :: st) (hcat : (st.map fun v => v.category).sum ≤ 8) (hd : decode mt.2.1 pc = .ok (.invokespecial idx, 3)) (hf : cells + mc' ≤ rm.cells ∧ slots + ms' ≤ rm.slots) (hn : n = q + 1)
    (h : jc_J rm mt a k fs0 mc ms Wd (pc + 3) lv st (q + 1 + mc') fs (fun tc => rest0 tc ++ Wd' tc) (cells + mc') (slots + ms')) : jc_J rm mt a k fs0 mc ms Wd pc lv st0 n fs (fun tc => rest0 tc ++ [(q, .inr (k', fs1))]) cells slots := by
  intro l g1 tc p e s m args below meth c C hs H locs ls hz hP hD hS hlv
  obtain ⟨hx, hb, hml, hr, hlocks, hown, hin2, hts, hK⟩ := id C
  obtain ⟨c1, c2, c3, c4, c5, c6⟩ := hc
  refine jn_init (ws := (a, .inr (k, fs)) :: rest0 tc) hM hx hb hml hown hts (jw_goodIn c1) (jw_in hts c2 rfl) (jw_in hts hlk rfl) (jw_in hts c3 rfl) c4 c5 c6 hrm hlv.1 rfl hst hcat hd hf (hz.trans hn) hP hD hS (jc_hA hs) hK (fun H1 locs1 z1 hP1 hD1 hS1 => ?_)
  exact h l g1 tc p e s m args below meth c C hs H1 locs1 ls z1 hP1 hD1 hS1 hlv
theorem jc_initN {rm' : Room} {mt' : jw_Mt} {q k' mc' ms' idx : Nat} {fs1 as st0 : List Value} {Wd' : (Nat → ClassId) → va_W} {rest0 : (Nat → ClassId) → va_W} (hM : jc_M rm' mt' q k' fs1 as mc' ms' Wd') (hc : jc_CB mt' as.length) (hlk : Cond.methodLinkNest mt.1.cls idx mt'.1 RX10 ∈ jc_nest) (hrm : rm'.cells = mc' ∧ rm'.slots = ms' ∧ rm'.frames + 1 ≤ rm.frames ∧ 8 + (mt'.2.2.1 + 11) + rm'.locals ≤ rm.locals) (hst : st0 = as.reverse ++ .ref q :: st) (hcat : (st.map fun v => v.category).sum ≤ 8) (hd : decode mt.2.1 pc = .ok (.invokespecial idx, 3)) (hf : cells + mc' ≤ rm.cells ∧ slots + ms' ≤ rm.slots) (hn : n = q + 1)
    (h : jc_J rm mt a k fs0 mc ms Wd (pc + 3) lv st (q + 1 + mc') fs (fun tc => rest0 tc ++ Wd' tc) (cells + mc') (slots + ms')) : jc_J rm mt a k fs0 mc ms Wd pc lv st0 n fs (fun tc => rest0 tc ++ [(q, .inr (k', fs1))]) cells slots := by
  intro l g1 tc p e s m args below meth c C hs H locs ls hz hP hD hS hlv
  obtain ⟨hx, hb, hml, hr, hlocks, hown, hin2, hts, hK⟩ := id C
  obtain ⟨c1, c2, c3, c4, c5, c6⟩ := hc
  refine jn_initN (ws := (a, .inr (k, fs)) :: rest0 tc) hM hx hb hml hown hts (jw_goodIn c1) (jw_in hts c2 rfl) (hK.2.1 _ hlk) (jw_in hts c3 rfl) c4 c5 c6 hrm hlv.1 rfl hst hcat hd hf (hz.trans hn) hP hD hS (jc_hA hs) hK (fun H1 locs1 z1 hP1 hD1 hS1 => ?_)
  exact h l g1 tc p e s m args below meth c C hs H1 locs1 ls z1 hP1 hD1 hS1 hlv
/-- a reference into an array of references: the array at place q0 of the rest, the object at place qk -/
theorem jc_astq {q v t0 ci N' : Nat} {r : vw_C} {vs : List Value} {f : Nat → Option Nat} {i : Int32} {rest' : (Nat → ClassId) → va_W} (q0 qk : Nat) (ha : ∀ tc, (rest tc)[q0]? = some (q, .inl (tc t0, N', .inr (.inr (.inr (.inr f)))))) (ht : ∀ tc : Nat → ClassId, (jc_tys tc)[t0]? = some (tc t0, .object r.1)) (hv : ∀ tc, (rest tc)[qk]? = some (v, .inr (ci, vs))) (hc : vwCl[ci]? = some r) (hin : vp_in i N') (hr : ∀ tc, (rest tc).set q0 (q, .inl (tc t0, N', .inr (.inr (.inr (.inr (va_up f i.toNatClampNeg (some v))))))) = rest' tc) (hd : decode mt.2.1 pc = .ok (.aastore, 1))
    (h : jc_J rm mt a k fs0 mc ms Wd (pc + 1) lv st n fs rest' cells slots) : jc_J rm mt a k fs0 mc ms Wd pc lv (.ref v :: .int i :: .ref q :: st) n fs rest cells slots := by
  intro l g1 tc p e s m args below meth c C hs H locs ls hz hP hD hS hlv
  obtain ⟨hx, hb, hml, hr0, hlocks, hown, hin2, hts, hK⟩ := id C
  refine jn_astq hx hb hK.1 hP hD hS (q0 + 1) t0 (qk + 1) ci (ha tc) (ht tc) (hv tc) hc hin hd (fun H1 locs1 z1 hP1 hD1 hS1 => ?_)
  have e2 : ((a, .inr (k, fs)) :: rest tc).set (q0 + 1) (q, .inl (tc t0, N', .inr (.inr (.inr (.inr (va_up f i.toNatClampNeg (some v))))))) = (a, .inr (k, fs)) :: rest' tc := by rw [← hr tc]; rfl
  rw [e2] at hP1 hD1
  exact h l g1 tc p e s m args below meth c C hs H1 locs1 ls (z1.trans hz) hP1 hD1 hS1 hlv
theorem jc_ret (hd : decode mt.2.1 pc = .ok (.return_, 1)) (hn : n = a + 1 + mc) (hc : cells = mc) (hs0 : slots = ms) (hw : ∀ tc, (a, .inr (k, fs)) :: rest tc = Wd tc) : jc_J rm mt a k fs0 mc ms Wd pc lv [] n fs rest cells slots := by
  intro l g1 tc p e s m args below meth c C hs H locs ls hz hP hD hS hlv
  obtain ⟨hx, hb, hml, hr0, hlocks, hown, hin2, hts, hK⟩ := id C
  subst hc
  subst hs0
  rw [hw tc] at hP hD
  exact W.vret hx hb hr0 (fun t ht hW => ⟨⟨(), rfl, trivial, by rw [ht, hz, hn], by rw [ht]; exact hP, hD⟩, hS.F ht⟩) hS.2.2 hd hlocks
theorem jc_eqv {n' : Nat} {fs' : List Value} {rest' : (Nat → ClassId) → va_W} (hn : n = n') (hf : fs = fs') (hr : ∀ tc, rest tc = rest' tc) (h : jc_J rm mt a k fs0 mc ms Wd pc lv st n' fs' rest' cells slots) : jc_J rm mt a k fs0 mc ms Wd pc lv st n fs rest cells slots := by
  subst hn
  subst hf
  have : rest = rest' := funext hr
  subst this
  exact h
end CJ
