/-! THE CLAIM OUT OF ONE WALK OF THE LAW'S BODY. Your part is whole_start (and what it stands on); all else here is the same for every law, but numbers. -/
def R_law : String := "StatueVotesLaw"
def lw_P (b : Addr) (xs : List Int32) (args : Array Value) (s : State) : Prop := args = #[.ref b] ∧ s.IntsAt b xs ∧ xs.length ≤ 256 ∧ (Jvm.Cond.and given_1 narrow_1).before args s = true
def lw_Q (_ : Array Value) (s : State) (o : Outcome) (t : State) : Prop := o = .returned (some (.int 1)) ∧ Framed s o t [] 600000 7302250
def lw_Z (below : List Frame) (a : Array Value) (s : State) : State → Prop := fun t => ∃ o, t.status = .running ∧ Ended t below o ∧ lw_Q a s o t
/-- the law's own end, with 1 on the stack, nothing written that was there before, its room as the claim has it -/
theorem lw_ret {p : Program} {l : Launch} {e : Env} {s : State} {m : MethodId} {below : List Frame} {meth : Method} {c : Code} {b : Nat} (hx : p.tables.exec = Jvm.exec) (hb : c.code = code) (hr : meth.sig.returnType = ret) (hlocks : meth.locks = false) {pc : Nat} {H : Heap} {ls : Array Slot} (hdg : decode code pc = .ok (.ireturn, 1)) : W p l e room_1 s m #[Value.ref b] below meth c H [] 600000 7302250 (lw_Z below #[Value.ref b] s) (F0 m pc ls [.int 1]) := by
  intro T hT X
  obtain ⟨fs, hret, hrun, hended, hW, hframe⟩ := X.leave (v := some (.int 1)) (hlocks := hlocks) (fun h => by rw [hr] at h; cases h)
  have hmeth' : T.vm.method? m = some meth := X.method'
  refine ⟨T.setFrames fs, ?_, .returned (some (.int 1)), hrun, hended, rfl, ⟨_, rfl⟩, hW, hframe⟩
  jvm_step X.here [X.here.top, hx, hb, hdg, hmeth', hr, ret, narrow_b1]
  (try refine ⟨rfl, ?_⟩); (try refine ⟨rfl, ?_⟩)
  first | (intro acts; rw [hret _ acts rfl rfl rfl]) | rw [hret _ _ rfl rfl rfl]
  exact Steps.refl _
/-- what holds at the law's entry: the machine, the code, the tables' words (any of lw_tbl by 'hts w (by decide +kernel)'), the script of L ints xs at the cell b, what the Statement gives of the start (any of its parts by flat_of_before) -/
def lw_At (p : Program) (s : State) (m : MethodId) (meth : Method) (c : Code) (b L : Nat) (xs : Nat → Int32) : Prop :=
  p.tables.exec = Jvm.exec ∧ c.code = code ∧ meth.sig.returnType = ret ∧ c.maxLocals = 4 ∧ s.vm.findClass R_law = some m.cls ∧ (∀ w ∈ lw_tbl, w.before #[Value.ref b] s = true) ∧ va_X b L xs s s.heap ∧ b < s.heap.size ∧ meth.locks = false ∧ (Jvm.Cond.and given_1 narrow_1).before #[Value.ref b] s = true
/-! ===== what the tables say at the law's entry ===== -/
theorem cl_ok : ∀ q ∈ vwCl, (∀ w ∈ u_ws q.1 q.2.1 q.2.2, w ∈ jw_words) ∧ ∃ n : Nat, Cond.instantiable q.1 n ∈ lw_tbl := List.forall_mem_cons.mpr ⟨⟨fw_X0, 4, (List.mem_append_right _ (List.mem_of_getElem? (i := 233) (by decide +kernel)))⟩, List.forall_mem_cons.mpr ⟨⟨fw_X1, 11, (List.mem_append_right _ (List.mem_of_getElem? (i := 25) (by decide +kernel)))⟩, List.forall_mem_cons.mpr ⟨⟨fw_X2, 3, (List.mem_append_right _ (List.mem_of_getElem? (i := 253) (by decide +kernel)))⟩, List.forall_mem_cons.mpr ⟨⟨fw_X3, 3, (List.mem_append_right _ (List.mem_of_getElem? (i := 270) (by decide +kernel)))⟩, List.forall_mem_cons.mpr ⟨⟨fw_X4, 3, (List.mem_append_right _ (List.mem_of_getElem? (i := 291) (by decide +kernel)))⟩, List.forall_mem_cons.mpr ⟨⟨fw_X5, 4, (List.mem_append_right _ (List.mem_of_getElem? (i := 177) (by decide +kernel)))⟩, List.forall_mem_cons.mpr ⟨⟨fw_X6, 2, (List.mem_append_right _ (List.mem_of_getElem? (i := 164) (by decide +kernel)))⟩, List.forall_mem_cons.mpr ⟨⟨fw_X7, 6, (List.mem_append_right _ (List.mem_of_getElem? (i := 133) (by decide +kernel)))⟩, List.forall_mem_cons.mpr ⟨⟨fw_X8, 7, (List.mem_append_right _ (List.mem_of_getElem? (i := 94) (by decide +kernel)))⟩, List.forall_mem_cons.mpr ⟨⟨fw_X9, 8, (List.mem_append_right _ (List.mem_of_getElem? (i := 199) (by decide +kernel)))⟩, List.forall_mem_cons.mpr ⟨⟨fw_X10, 11, (List.mem_append_right _ (List.mem_of_getElem? (i := 17) (by decide +kernel)))⟩, List.forall_mem_cons.mpr ⟨⟨fw_X11, 43, (List.mem_append_right _ (List.mem_of_getElem? (i := 865) (by decide +kernel)))⟩, fun _ h => absurd h List.not_mem_nil⟩⟩⟩⟩⟩⟩⟩⟩⟩⟩⟩⟩
theorem law_cl {s : State} {args : Array Value} (hts : ∀ w ∈ lw_tbl, w.before args s = true) : ∃ g1 : va_G, ∀ (k : Nat) (q : vw_C), vwCl[k]? = some q → u_Kn s q.1 q.2.1 q.2.2 (g1.1 k) (g1.2 k) := by
  have h : ∀ k : Nat, ∃ x : ClassId × (Nat → Nat), ∀ q : vw_C, vwCl[k]? = some q → u_Kn s q.1 q.2.1 q.2.2 x.1 x.2 := by
    intro k
    cases hq : vwCl[k]? with
    | none => exact ⟨(0, fun _ => 0), fun q h => by cases h⟩
    | some q =>
      obtain ⟨h1, n, h2⟩ := cl_ok q (List.mem_of_getElem? hq)
      obtain ⟨cC, iS, hk⟩ := u_known (C := q.1) (T := q.2.1) (N := q.2.2) (n := n) hts (fun w hw => (List.mem_filter.mp (h1 w hw)).1) (hts _ h2)
      exact ⟨(cC, iS), fun q2 h => by cases h; exact hk⟩
  exact ⟨(fun k => (h k).choose.1, fun k => (h k).choose.2), fun k q hq => (h k).choose_spec q hq⟩
theorem arr_ofT {s : State} {cA comp : ClassId} {k : Class} {ty : FieldType} (h2 : s.vm.classes[cA]? = some k) (h3 : k.kind = .array comp ty) : ArrOfT s cA ty := fun n z => ⟨fun q h => (by cases h), k, h2, comp, h3⟩
theorem law_tys {s : State} {args : Array Value} (hts : ∀ w ∈ lw_tbl, w.before args s = true) : ∃ tc : Nat → ClassId, ∀ (k : Nat) (q : ClassId × FieldType), (jc_tys tc)[k]? = some q → ArrOfT s q.1 q.2 ∧ va_RA s q.1 q.2 := by
  obtain ⟨c0, k0, p0, e0, f0, g0⟩ := Cond.arrayClass_spec (hts _ fi_aI)
  obtain ⟨c1, k1, p1, e1, f1, g1⟩ := Cond.arrayClass_spec (hts _ fi_aZ)
  obtain ⟨p2, c2, k2, d2, -, e2, f2, g2⟩ := Stand.arrayOver_specB (t := .int) (hts _ (show Cond.arrayOver (.array .int) ∈ lw_tbl from (List.mem_append_right _ (List.mem_of_getElem? (i := 183) (by decide +kernel)))))
  obtain ⟨p3, c3, k3, d3, -, e3, f3, g3⟩ := Cond.arrayOver_spec (hts _ (show Cond.arrayOver (.object "StatueVotes$State") ∈ lw_tbl from (List.mem_append_right _ (List.mem_of_getElem? (i := 276) (by decide +kernel)))))
  obtain ⟨p4, c4, k4, d4, -, e4, f4, g4⟩ := Cond.arrayOver_spec (hts _ (show Cond.arrayOver (.object "StatueVotes$Image") ∈ lw_tbl from (List.mem_append_right _ (List.mem_of_getElem? (i := 290) (by decide +kernel)))))
  refine ⟨fun k => match k with | 0 => c0 | 1 => c1 | 2 => c2 | 3 => c3 | _ => c4, fun k q hq => ?_⟩
  match k, hq with
  | 0, hq => cases hq; exact ⟨arr_ofT f0 g0, e0⟩
  | 1, hq => cases hq; exact ⟨arr_ofT f1 g1, e1⟩
  | 2, hq => cases hq; exact ⟨arr_ofT e2 f2, g2⟩
  | 3, hq => cases hq; exact ⟨arr_ofT e3 f3, k3, p3, e3, f3, d3, g3⟩
  | 4, hq => cases hq; exact ⟨arr_ofT e4 f4, k4, p4, e4, f4, d4, g4⟩
  | k + 5, hq => cases hq
theorem law_nest : ∀ w ∈ jw_nest, w ∈ lw_tbl := List.forall_mem_cons.mpr ⟨(List.mem_append_right _ (List.mem_of_getElem? (i := 511) (by decide +kernel))), List.forall_mem_cons.mpr ⟨(List.mem_append_right _ (List.mem_of_getElem? (i := 743) (by decide +kernel))), List.forall_mem_cons.mpr ⟨(List.mem_append_right _ (List.mem_of_getElem? (i := 715) (by decide +kernel))), List.forall_mem_cons.mpr ⟨(List.mem_append_right _ (List.mem_of_getElem? (i := 496) (by decide +kernel))), fun _ h => absurd h List.not_mem_nil⟩⟩⟩⟩
theorem law_nestC : ∀ w ∈ jc_nest, w ∈ lw_tbl := List.forall_mem_cons.mpr ⟨(List.mem_append_right _ (List.mem_of_getElem? (i := 26) (by decide +kernel))), List.forall_mem_cons.mpr ⟨(List.mem_append_right _ (List.mem_of_getElem? (i := 134) (by decide +kernel))), List.forall_mem_cons.mpr ⟨(List.mem_append_right _ (List.mem_of_getElem? (i := 139) (by decide +kernel))), fun _ h => absurd h List.not_mem_nil⟩⟩⟩
theorem nest_tab : ∀ w ∈ jw_nest, w.onTables = true := by decide +kernel
theorem nest_tabC : ∀ w ∈ jc_nest, w.onTables = true := by decide +kernel
abbrev tORD : Term := .static "StatueVotes$Polls" "ORDERS" "[I"
theorem law_ords {s : State} {args : Array Value} (hg : (Jvm.Cond.and given_1 narrow_1).before args s = true) (hts : ∀ w ∈ lw_tbl, w.before args s = true) : ∃ od : Nat, va_Z "StatueVotes$Polls" "ORDERS" "[I" (.ref od) (fun q : Nat => s.heap.size ≤ q) s s.heap ∧ va_T .int od 8 (fun i => .int (jw_ord i)) (fun q : Nat => s.heap.size ≤ q) s s.heap := by
  have hs := flat_of_before _ hg
  have hA : ∀ a : Nat, a < s.heap.size → ¬ (fun q : Nat => s.heap.size ≤ q) a := fun a h => Nat.not_le.mpr h
  obtain ⟨od, h1, h2⟩ := va_Tof (tm := tORD) (ty := .int) (N := 8) (f := fun i => .int (jw_ord i)) (by decide) (hs (Cond.arrayOf tORD .int) (by decide +kernel)) (va_eqt (z := 8) (hs (Cond.eq (.length tORD) (.int 8)) (by decide +kernel))) (fun j hj => by
    match j, hj with
    | 0, _ => exact va_eqt (z := 1) (hs (Cond.eq (.elem tORD (.int 0)) (.int 1)) (by decide +kernel))
    | 1, _ => exact va_eqt (z := 1) (hs (Cond.eq (.elem tORD (.int 1)) (.int 1)) (by decide +kernel))
    | 2, _ => exact va_eqt (z := 2) (hs (Cond.eq (.elem tORD (.int 2)) (.int 2)) (by decide +kernel))
    | 3, _ => exact va_eqt (z := 6) (hs (Cond.eq (.elem tORD (.int 3)) (.int 6)) (by decide +kernel))
    | 4, _ => exact va_eqt (z := 24) (hs (Cond.eq (.elem tORD (.int 4)) (.int 24)) (by decide +kernel))
    | 5, _ => exact va_eqt (z := 120) (hs (Cond.eq (.elem tORD (.int 5)) (.int 120)) (by decide +kernel))
    | 6, _ => exact va_eqt (z := 720) (hs (Cond.eq (.elem tORD (.int 6)) (.int 720)) (by decide +kernel))
    | 7, _ => exact va_eqt (z := 5040) (hs (Cond.eq (.elem tORD (.int 7)) (.int 5040)) (by decide +kernel))
    | n + 8, h => exact absurd h (by omega)) hA
  exact ⟨od, va_Zof (hts _ (show Cond.laysStatic "StatueVotes$Polls" "ORDERS" "[I" ∈ lw_tbl from (List.mem_append_right _ (List.mem_of_getElem? (i := 721) (by decide +kernel))))) (hts _ (show Cond.initialized "StatueVotes$Polls" ∈ lw_tbl from (List.mem_append_right _ (List.mem_of_getElem? (i := 5) (by decide +kernel))))) h1 hA, h2⟩
theorem law_K {s : State} {args : Array Value} (hg : (Jvm.Cond.and given_1 narrow_1).before args s = true) (hts : ∀ w ∈ lw_tbl, w.before args s = true) : ∃ (g1 : va_G) (tc : Nat → ClassId) (od : Nat), jc_K g1 tc s ∧ jw_K (gW g1 s.heap.size tc od) s := by
  obtain ⟨g1, h1⟩ := law_cl hts
  obtain ⟨tc, h2⟩ := law_tys hts
  obtain ⟨od, h3, h4⟩ := law_ords hg hts
  refine ⟨g1, tc, od, ⟨⟨h1, h2⟩, fun w hw => va_Nw.of (nest_tabC w hw) (hts w (law_nestC w hw)), va_AO.of (hts _ (show Cond.arrayOver (.object "StatueVotes$State") ∈ lw_tbl from (List.mem_append_right _ (List.mem_of_getElem? (i := 276) (by decide +kernel))))), va_AO.of (hts _ (show Cond.arrayOver (.object "StatueVotes$Image") ∈ lw_tbl from (List.mem_append_right _ (List.mem_of_getElem? (i := 290) (by decide +kernel))))), Stand.arrayOver_alikeB (Vm.Alike.refl s.vm) (hts _ (show Cond.arrayOver (.array .int) ∈ lw_tbl from (List.mem_append_right _ (List.mem_of_getElem? (i := 183) (by decide +kernel)))))⟩, ⟨h1, h2⟩, fun w hw => va_Nw.of (nest_tab w hw) (hts w (law_nest w hw)), h3.narrow (fun q h => gW_A h), h4.narrow (fun q h => gW_A h)⟩
/-! ===== the start's memory ===== -/
theorem no0 {A : Prop} {j : Nat} (h : j < 0) : A := absurd h (Nat.not_lt_zero j)
theorem Inv_M0 : Inv M0 := by
  have z : (0 : Int32) = nI 0 := nI_0.symm
  refine ⟨0, 0, 0, fun _ _ => 0, fun _ _ => 0, 0, fun _ _ _ => 0, 0, fun _ => 0, 0, fun _ => 0, fun _ => 0, 0, fun _ => 0, fun _ => 0, fun _ => 0, fun _ _ _ => 0, fun _ => 0, ?_, ?_, ?_, ?_, ?_, ?_, ?_, ?_⟩
  · exact ⟨⟨⟨z, z, z, rfl⟩, ⟨by decide, by decide, by decide⟩, fun j h => no0 h, fun j h => no0 h, fun j h => no0 h⟩, ⟨⟨z, z, z, rfl⟩, ⟨by decide, by decide, by decide⟩, fun j h => no0 h, fun j h => no0 h, fun j h => no0 h⟩, fun j h => no0 h, by decide, fun _ => ⟨rfl, rfl, rfl⟩, fun j h => no0 h, fun j h => no0 h⟩
  · exact ⟨⟨fun j h => no0 h, fun j h => no0 h, rfl⟩, ⟨fun j h => no0 h, fun j h => no0 h, rfl⟩, fun j h => no0 h⟩
  · exact ⟨⟨z, 0, by decide, z, fun j h => no0 h⟩, ⟨z, fun j h => no0 h⟩, by decide, fun j h => no0 h⟩
  · exact ⟨⟨z, z, by decide⟩, fun j h => no0 h, rfl⟩
  · exact ⟨⟨z, z, by decide⟩, fun j h => no0 h⟩
  · exact ⟨⟨z, z, by decide⟩, fun j h => no0 h⟩
  · exact fun i _ => ⟨rfl, rfl, Or.inl rfl⟩
  · exact ⟨rfl, by decide⟩
/-! ===== a call of the law ===== -/
theorem law_goodIn {mt' : jw_Mt} (h : Cond.code mt'.1 mt'.2.1 mt'.2.2.1 mt'.2.2.2 ∈ jw_words) : GoodIn lw_tbl (.code mt'.1 mt'.2.1 mt'.2.2.1 mt'.2.2.2 :: jw_words) := by
  intro w hw
  have hw2 : w ∈ jw_words := by
    rcases List.mem_cons.mp hw with rfl | h2
    · exact h
    · exact h2
  exact ⟨(List.mem_filter.mp hw2).1, good_of_word (List.mem_filter.mp hw2).2⟩
theorem law_back {g : jw_G} {l : Launch} {p : Program} {e : Env} {s : State} {m : MethodId} {args : Array Value} {below : List Frame} {meth : Method} {c : Code} {H : Heap} {locs : List Loc} {ls : Array Slot} {Qm : Int32 → jw_Mem → Prop} {a : Array Value} {st0 rest : List Value} {pc : Nat}
    (hA : ∀ q, jw_A g q → s.heap.size ≤ q)
    (hr : va_Run p l e room_1 s m args below meth c H locs 191 3031 0 0 (F0 m pc ls st0) rest (jw_Q g (some .int) Qm a) (jw_A g)) (hS : va_S (fun q : Nat => s.heap.size ≤ q) s.heap H locs) {Z : State → Prop}
    (kk : ∀ (x : Int32) (M : jw_Mem) (H1 : Heap) (locs1 : List Loc), Qm x M → va_P g.1 vwCl (jw_ws g M) H1 → va_S (fun q : Nat => s.heap.size ≤ q) s.heap H1 locs1 → W p l e room_1 s m args below meth c H1 locs1 191 3031 Z (F0 m (pc + 3) ls (.int x :: rest))) : W p l e room_1 s m args below meth c H locs 191 3031 Z (F0 m pc ls st0) := by
  intro T hT X
  obtain ⟨v, st₀, t, T', L, h0, X', hL, e1, e2, ⟨⟨x, M2, hv, hq, hP⟩, hz, hk⟩, stp⟩ := hr T hT X
  rw [h0] at hz hk
  have hv : v = some (Value.int x) := by cases hv; rfl
  subst hv
  obtain ⟨t2, a1, b1⟩ := kk x M2 T'.heap (locs ++ L) hq (by rw [e1]; exact hP)
    ⟨Nat.le_trans hS.1 (by rw [e1]; exact hz), fun q h1 h2 => by rw [e1, hk q (Nat.lt_of_lt_of_le h1 hS.1) (fun z => h2 (hA q z))]; exact hS.2.1 q h1 h2, fun q hq => by
      rcases List.mem_append.mp hq with h | h
      · exact hS.2.2 q h
      · exact hA _ (hL q h)⟩ T' rfl X'
  exact ⟨t2, stp t2 a1, b1⟩
section LAW
variable {p : Program} {l : Launch} {e : Env} {s : State} {m : MethodId} {below : List Frame} {meth : Method} {c : Code} {b L : Nat} {xs : Nat → Int32} {g : jw_G} {i : Nat} {M : jw_Mem} {H : Heap} {locs : List Loc} {ls : Array Slot} {pc : Nat}
theorem law_call {d idx k : Nat} {mt' : jw_Mt} {As st : List jw_V} {st0 : List Value} {Qm : Int32 → jw_Mem → Prop} {Z : State → Prop} (C0 : lw_At p s m meth c b L xs) (hI : jw_I g) (hK : jw_K g s) (hA : ∀ q, jw_A g q → s.heap.size ≤ q)
    (hM : jw_M d mt' (vr k 0 :: As) M Qm) (hc : lw_CV idx mt' k As.length) (hd : d ≤ 7) (hret : mt'.2.2.2 = some .int) (hst : st0 = (As.map (jw_rv g)).reverse ++ .ref (g.2.1 k 0) :: st.map (jw_rv g)) (hcat : (st.map fun v => (match v with | .inr (.inl _) => 2 | _ => 1)).sum ≤ 8) (hP : va_P g.1 vwCl (jw_ws g M) H) (hS : va_S (fun q : Nat => s.heap.size ≤ q) s.heap H locs) (hl : ls.size = 4) (hdg : decode code pc = .ok (.invokevirtual idx, 3))
    (kk : ∀ (x : Int32) (M2 : jw_Mem) (H1 : Heap) (locs1 : List Loc), Qm x M2 → va_P g.1 vwCl (jw_ws g M2) H1 → va_S (fun q : Nat => s.heap.size ≤ q) s.heap H1 locs1 → W p l e room_1 s m #[Value.ref b] below meth c H1 locs1 191 3031 Z (F0 m (pc + 3) ls (.int x :: st.map (jw_rv g)))) : W p l e room_1 s m #[Value.ref b] below meth c H locs 191 3031 Z (F0 m pc ls st0) := by
  obtain ⟨hx, hb, hr, hml, hown, hts, hX, hbl, hlocks, hgv⟩ := id C0
  obtain ⟨⟨hcode, hini, hdd, hle⟩, hlink, hinst, hsel, htag, T, N, hcl⟩ := hc
  have hk0 : 0 < jw_cnt k := by
    have : k < 12 := (List.getElem?_eq_some_iff.mp hcl).1
    exact (by decide : ∀ k, k < 12 → 0 < jw_cnt k) k this
  obtain ⟨q, -, hq⟩ := jw_at g M hk0
  rw [jw_cel0 htag] at hq
  have hS2 : va_S (jw_A g) s.heap H [] := ⟨hS.1, fun q h1 _ => hS.2.1 q h1 (Nat.not_le.mpr h1), fun _ h => absurd h List.not_mem_nil⟩
  have hM2 := hM l g hI
  subst hst
  have hG := law_goodIn hcode
  rw [hret] at hM2 hG
  exact law_back hA (va_runV (As := As.map (jw_rv g)) (rest := st.map (jw_rv g)) (C := mt'.1.cls) (own := RL) ⟨hx, hb, hml, hown, hts⟩ hM2 ⟨callB_of As.length hts hG rfl rfl rfl (hts _ hini) (hts _ hlink) hdd ⟨by show d + 1 ≤ 10; omega, by show 8 + (mt'.2.2.1 + 11) + 29 * d ≤ 354; omega⟩, hts _ hinst, hts _ hsel⟩ ⟨fun a U G mk hu => ⟨hu.1, hu.2.1, hu.2.2.blind G mk a⟩, va_recv hK.1 hP hcl hq, fun U hU hW => ⟨rfl, by rw [hU]; exact hP, hK.go hS2 hU hW⟩⟩ rfl (by rw [List.length_map]) hl rfl (lv_room (by rw [jw_stcat]; exact hcat)) hdg ⟨by decide, by decide⟩) hS kk
abbrev lawLv (g : jw_G) (b i : Nat) : List (Nat × Value) := [(3, .int (nI i)), (2, .ref (g.2.1 11 0)), (1, .ref (g.2.1 10 0)), (0, .ref b)]
theorem law_arg {k : Nat} {kI : Int} {Z : State → Prop} {rest : List Value} (C0 : lw_At p s m meth c b L xs) (hL : L ≤ 256) (hS : va_S (fun q : Nat => s.heap.size ≤ q) s.heap H locs) (hl : lv_has ls 4 (lawLv g b i)) (hik : i + k < L) (hk : Int32.ofInt kI = nI k) (dec : dArg pc kI) (kk : W p l e room_1 s m #[Value.ref b] below meth c H locs 191 3031 Z (F0 m (pc + 5) ls (.int (xs (i + k)) :: rest))) : W p l e room_1 s m #[Value.ref b] below meth c H locs 191 3031 Z (F0 m pc ls rest) := by
  obtain ⟨hx, hb, hr, hml, hown, hts, hX, hbl, hlocks, hgv⟩ := id C0
  obtain ⟨e1, e2, e3, e4, e5⟩ := dec
  refine lv_aload_n hx hb e1 rfl (lv_at hl 3 rfl) ?_
  refine lv_iload_n hx hb e2 rfl (lv_at hl 0 rfl) ?_
  refine lv_iconst (v := nI k) hx hb e3 hk ?_
  refine lv_iadd hx hb e4 ?_
  rw [nI_add]
  refine va_sld (A := fun q : Nat => s.heap.size ≤ q) hx hb hX hbl (Nat.not_le.mpr hbl) hS (vp_in_nI hik (by omega)) e5 ?_
  rw [nI_clamp (by omega)]
  exact kk
theorem law_len (hL : L ≤ 256) (hi : i ≤ L) (h : ¬ nI L - 4 < nI i) : i + 4 ≤ L := by
  rcases Nat.lt_or_ge L 4 with q | q
  · exact absurd ((by decide +kernel : ∀ L, L < 4 → ∀ i, i < 4 → nI L - 4 < nI i) L q i (by omega)) h
  · obtain ⟨k, rfl⟩ : ∃ k, L = k + 4 := ⟨L - 4, by omega⟩
    have e : nI (k + 4) - 4 = nI k := by
      rw [← nI_add]
      exact Int32.add_sub_cancel (nI k) 4
    rw [e] at h
    rcases Nat.lt_or_ge k i with z | z
    · exact absurd (nI_lt z (by omega)) h
    · omega
theorem law_blk0 {p : Program} {l : Launch} {e : Env} {s : State} {m : MethodId} {below : List Frame} {meth : Method} {c : Code} {b L : Nat} {xs : Nat → Int32} {g : jw_G} {i : Nat} {M : jw_Mem} {H : Heap} {locs : List Loc} {ls : Array Slot} (C0 : lw_At p s m meth c b L xs) (hL : L ≤ 256) (hI : jw_I g) (hK : jw_K g s) (hA : ∀ q, jw_A g q → s.heap.size ≤ q) (hi : i + 4 ≤ L) (hM : Inv M) (hP : va_P g.1 vwCl (jw_ws g M) H) (hS : va_S (fun q : Nat => s.heap.size ≤ q) s.heap H locs) (hl : lv_has ls 4 (lawLv g b i)) {d1 d2 : Nat} {m1 m2 : jw_Mt} {i1 i2 pc : Nat} {off : Int} (hB : Both d1 m1 d2 m2 []) (hc1 : lw_CV i1 m1 10 0) (hc2 : lw_CV i2 m2 11 0) (h1 : d1 ≤ 7) (h2 : d2 ≤ 7) (hr1 : m1.2.2.2 = some .int) (hr2 : m2.2.2.2 = some .int) (dec : dBlk0 pc i1 i2 off)
    (kk : ∀ (M2 : jw_Mem) (H1 : Heap) (locs1 : List Loc), Inv M2 → va_P g.1 vwCl (jw_ws g M2) H1 → va_S (fun q : Nat => s.heap.size ≤ q) s.heap H1 locs1 → W p l e room_1 s m #[Value.ref b] below meth c H1 locs1 191 3031 (lw_Z below #[Value.ref b] s) (F0 m 992 ls [])) : W p l e room_1 s m #[Value.ref b] below meth c H locs 191 3031 (lw_Z below #[Value.ref b] s) (F0 m pc ls []) := by
  obtain ⟨e0, e1, e2, e3, e4, e5⟩ := dec
  obtain ⟨hx, hb, hr, hml, hown, hts, hX, hbl, hlocks, hgv⟩ := id C0
  refine lv_aload_n hx hb e0 rfl (lv_at hl 2 rfl) ?_
  refine law_call (As := []) (st := []) C0 hI hK hA (hB M hM) hc1 h1 hr1 rfl (by decide) hP hS hl.1 e1 (fun x M1 H1 locs1 hq hP1 hS1 => ?_)
  refine lv_aload_n hx hb e2 rfl (lv_at hl 1 rfl) ?_
  refine law_call (As := []) (st := [vi x]) C0 hI hK hA hq hc2 h2 hr2 rfl (Nat.le_of_ble_eq_true rfl) hP1 hS1 hl.1 e3 (fun y M2 H2 locs2 hq2 hP2 hS2 => ?_)
  exact lv_icmp_eq (tgt := 992) hx hb e4 e5 (fun _ => kk M2 H2 locs2 hq2.2 hP2 hS2) (fun h => absurd hq2.1 h)
theorem law_blk1 {p : Program} {l : Launch} {e : Env} {s : State} {m : MethodId} {below : List Frame} {meth : Method} {c : Code} {b L : Nat} {xs : Nat → Int32} {g : jw_G} {i : Nat} {M : jw_Mem} {H : Heap} {locs : List Loc} {ls : Array Slot} (C0 : lw_At p s m meth c b L xs) (hL : L ≤ 256) (hI : jw_I g) (hK : jw_K g s) (hA : ∀ q, jw_A g q → s.heap.size ≤ q) (hi : i + 4 ≤ L) (hM : Inv M) (hP : va_P g.1 vwCl (jw_ws g M) H) (hS : va_S (fun q : Nat => s.heap.size ≤ q) s.heap H locs) (hl : lv_has ls 4 (lawLv g b i)) {d1 d2 : Nat} {m1 m2 : jw_Mt} {i1 i2 pc : Nat} {off : Int} (hB : Both d1 m1 d2 m2 [vi (xs (i + 1))]) (hc1 : lw_CV i1 m1 10 1) (hc2 : lw_CV i2 m2 11 1) (h1 : d1 ≤ 7) (h2 : d2 ≤ 7) (hr1 : m1.2.2.2 = some .int) (hr2 : m2.2.2.2 = some .int) (dec : dBlk1 pc i1 i2 off)
    (kk : ∀ (M2 : jw_Mem) (H1 : Heap) (locs1 : List Loc), Inv M2 → va_P g.1 vwCl (jw_ws g M2) H1 → va_S (fun q : Nat => s.heap.size ≤ q) s.heap H1 locs1 → W p l e room_1 s m #[Value.ref b] below meth c H1 locs1 191 3031 (lw_Z below #[Value.ref b] s) (F0 m 992 ls [])) : W p l e room_1 s m #[Value.ref b] below meth c H locs 191 3031 (lw_Z below #[Value.ref b] s) (F0 m pc ls []) := by
  obtain ⟨e0, a1, e1, e2, b1, e3, e4, e5⟩ := dec
  obtain ⟨hx, hb, hr, hml, hown, hts, hX, hbl, hlocks, hgv⟩ := id C0
  refine lv_aload_n hx hb e0 rfl (lv_at hl 2 rfl) ?_
  refine law_arg (k := 1) C0 hL hS hl (by omega) (by decide) a1 ?_
  refine law_call (As := [vi (xs (i + 1))]) (st := []) C0 hI hK hA (hB M hM) hc1 h1 hr1 rfl (by decide) hP hS hl.1 e1 (fun x M1 H1 locs1 hq hP1 hS1 => ?_)
  refine lv_aload_n hx hb e2 rfl (lv_at hl 1 rfl) ?_
  refine law_arg (k := 1) C0 hL hS1 hl (by omega) (by decide) b1 ?_
  refine law_call (As := [vi (xs (i + 1))]) (st := [vi x]) C0 hI hK hA hq hc2 h2 hr2 rfl (Nat.le_of_ble_eq_true rfl) hP1 hS1 hl.1 e3 (fun y M2 H2 locs2 hq2 hP2 hS2 => ?_)
  exact lv_icmp_eq (tgt := 992) hx hb e4 e5 (fun _ => kk M2 H2 locs2 hq2.2 hP2 hS2) (fun h => absurd hq2.1 h)
theorem law_blk2 {p : Program} {l : Launch} {e : Env} {s : State} {m : MethodId} {below : List Frame} {meth : Method} {c : Code} {b L : Nat} {xs : Nat → Int32} {g : jw_G} {i : Nat} {M : jw_Mem} {H : Heap} {locs : List Loc} {ls : Array Slot} (C0 : lw_At p s m meth c b L xs) (hL : L ≤ 256) (hI : jw_I g) (hK : jw_K g s) (hA : ∀ q, jw_A g q → s.heap.size ≤ q) (hi : i + 4 ≤ L) (hM : Inv M) (hP : va_P g.1 vwCl (jw_ws g M) H) (hS : va_S (fun q : Nat => s.heap.size ≤ q) s.heap H locs) (hl : lv_has ls 4 (lawLv g b i)) {d1 d2 : Nat} {m1 m2 : jw_Mt} {i1 i2 pc : Nat} {off : Int} (hB : Both d1 m1 d2 m2 [vi (xs (i + 1)), vi (xs (i + 2))]) (hc1 : lw_CV i1 m1 10 2) (hc2 : lw_CV i2 m2 11 2) (h1 : d1 ≤ 7) (h2 : d2 ≤ 7) (hr1 : m1.2.2.2 = some .int) (hr2 : m2.2.2.2 = some .int) (dec : dBlk2 pc i1 i2 off)
    (kk : ∀ (M2 : jw_Mem) (H1 : Heap) (locs1 : List Loc), Inv M2 → va_P g.1 vwCl (jw_ws g M2) H1 → va_S (fun q : Nat => s.heap.size ≤ q) s.heap H1 locs1 → W p l e room_1 s m #[Value.ref b] below meth c H1 locs1 191 3031 (lw_Z below #[Value.ref b] s) (F0 m 992 ls [])) : W p l e room_1 s m #[Value.ref b] below meth c H locs 191 3031 (lw_Z below #[Value.ref b] s) (F0 m pc ls []) := by
  obtain ⟨e0, a1, a2, e1, e2, b1, b2, e3, e4, e5⟩ := dec
  obtain ⟨hx, hb, hr, hml, hown, hts, hX, hbl, hlocks, hgv⟩ := id C0
  refine lv_aload_n hx hb e0 rfl (lv_at hl 2 rfl) ?_
  refine law_arg (k := 1) C0 hL hS hl (by omega) (by decide) a1 ?_
  refine law_arg (k := 2) C0 hL hS hl (by omega) (by decide) a2 ?_
  refine law_call (As := [vi (xs (i + 1)), vi (xs (i + 2))]) (st := []) C0 hI hK hA (hB M hM) hc1 h1 hr1 rfl (by decide) hP hS hl.1 e1 (fun x M1 H1 locs1 hq hP1 hS1 => ?_)
  refine lv_aload_n hx hb e2 rfl (lv_at hl 1 rfl) ?_
  refine law_arg (k := 1) C0 hL hS1 hl (by omega) (by decide) b1 ?_
  refine law_arg (k := 2) C0 hL hS1 hl (by omega) (by decide) b2 ?_
  refine law_call (As := [vi (xs (i + 1)), vi (xs (i + 2))]) (st := [vi x]) C0 hI hK hA hq hc2 h2 hr2 rfl (Nat.le_of_ble_eq_true rfl) hP1 hS1 hl.1 e3 (fun y M2 H2 locs2 hq2 hP2 hS2 => ?_)
  exact lv_icmp_eq (tgt := 992) hx hb e4 e5 (fun _ => kk M2 H2 locs2 hq2.2 hP2 hS2) (fun h => absurd hq2.1 h)
theorem law_blk3 {p : Program} {l : Launch} {e : Env} {s : State} {m : MethodId} {below : List Frame} {meth : Method} {c : Code} {b L : Nat} {xs : Nat → Int32} {g : jw_G} {i : Nat} {M : jw_Mem} {H : Heap} {locs : List Loc} {ls : Array Slot} (C0 : lw_At p s m meth c b L xs) (hL : L ≤ 256) (hI : jw_I g) (hK : jw_K g s) (hA : ∀ q, jw_A g q → s.heap.size ≤ q) (hi : i + 4 ≤ L) (hM : Inv M) (hP : va_P g.1 vwCl (jw_ws g M) H) (hS : va_S (fun q : Nat => s.heap.size ≤ q) s.heap H locs) (hl : lv_has ls 4 (lawLv g b i)) {d1 d2 : Nat} {m1 m2 : jw_Mt} {i1 i2 pc : Nat} {off : Int} (hB : Both d1 m1 d2 m2 [vi (xs (i + 1)), vi (xs (i + 2)), vi (xs (i + 3))]) (hc1 : lw_CV i1 m1 10 3) (hc2 : lw_CV i2 m2 11 3) (h1 : d1 ≤ 7) (h2 : d2 ≤ 7) (hr1 : m1.2.2.2 = some .int) (hr2 : m2.2.2.2 = some .int) (dec : dBlk3 pc i1 i2 off)
    (kk : ∀ (M2 : jw_Mem) (H1 : Heap) (locs1 : List Loc), Inv M2 → va_P g.1 vwCl (jw_ws g M2) H1 → va_S (fun q : Nat => s.heap.size ≤ q) s.heap H1 locs1 → W p l e room_1 s m #[Value.ref b] below meth c H1 locs1 191 3031 (lw_Z below #[Value.ref b] s) (F0 m 992 ls [])) : W p l e room_1 s m #[Value.ref b] below meth c H locs 191 3031 (lw_Z below #[Value.ref b] s) (F0 m pc ls []) := by
  obtain ⟨e0, a1, a2, a3, e1, e2, b1, b2, b3, e3, e4, e5⟩ := dec
  obtain ⟨hx, hb, hr, hml, hown, hts, hX, hbl, hlocks, hgv⟩ := id C0
  refine lv_aload_n hx hb e0 rfl (lv_at hl 2 rfl) ?_
  refine law_arg (k := 1) C0 hL hS hl (by omega) (by decide) a1 ?_
  refine law_arg (k := 2) C0 hL hS hl (by omega) (by decide) a2 ?_
  refine law_arg (k := 3) C0 hL hS hl (by omega) (by decide) a3 ?_
  refine law_call (As := [vi (xs (i + 1)), vi (xs (i + 2)), vi (xs (i + 3))]) (st := []) C0 hI hK hA (hB M hM) hc1 h1 hr1 rfl (by decide) hP hS hl.1 e1 (fun x M1 H1 locs1 hq hP1 hS1 => ?_)
  refine lv_aload_n hx hb e2 rfl (lv_at hl 1 rfl) ?_
  refine law_arg (k := 1) C0 hL hS1 hl (by omega) (by decide) b1 ?_
  refine law_arg (k := 2) C0 hL hS1 hl (by omega) (by decide) b2 ?_
  refine law_arg (k := 3) C0 hL hS1 hl (by omega) (by decide) b3 ?_
  refine law_call (As := [vi (xs (i + 1)), vi (xs (i + 2)), vi (xs (i + 3))]) (st := [vi x]) C0 hI hK hA hq hc2 h2 hr2 rfl (Nat.le_of_ble_eq_true rfl) hP1 hS1 hl.1 e3 (fun y M2 H2 locs2 hq2 hP2 hS2 => ?_)
  exact lv_icmp_eq (tgt := 992) hx hb e4 e5 (fun _ => kk M2 H2 locs2 hq2.2 hP2 hS2) (fun h => absurd hq2.1 h)
end LAW
