/-! ===== the flat memory: kinds of cells (0 .. 11 objects by class, 12 .. 61 arrays), instances, slots ===== -/
abbrev jw_V : Type := Int32 ⊕ (Int64 ⊕ (Nat × Nat))
abbrev vi (x : Int32) : jw_V := .inl x
abbrev vl (x : Int64) : jw_V := .inr (.inl x)
abbrev vr (k n : Nat) : jw_V := .inr (.inr (k, n))
abbrev jw_Mem : Type := Nat → Nat → Nat → Int32
/-- the launch-given numbers: class ids and slots, addresses by kind and instance, array classes, the address of ORDERS -/
abbrev jw_G : Type := va_G × (Nat → Nat → Nat) × (Nat → ClassId) × Nat
def jw_lens : List Nat := [0, 0, 0, 0, 0, 0, 0, 0, 0, 0, 0, 0, 15, 15, 5, 6, 6, 6, 7, 7, 7, 16, 7, 6, 32, 240, 6, 6, 6, 7, 7, 6, 6, 128, 64, 2, 5, 6, 6, 6, 7, 7, 7, 33, 240, 5, 6, 6, 6, 7, 7, 7, 528, 33, 224, 6, 6, 64, 15, 15, 68, 2]
def jw_tags : List Nat := [0, 0, 0, 0, 0, 0, 0, 0, 0, 0, 0, 0, 1, 1, 1, 1, 1, 1, 1, 1, 1, 4, 3, 1, 1, 1, 1, 1, 1, 1, 1, 1, 1, 2, 1, 5, 1, 1, 1, 1, 1, 1, 1, 1, 1, 1, 1, 1, 1, 1, 1, 1, 1, 1, 1, 1, 1, 1, 1, 1, 1, 2]
def jw_cnts : List Nat := [1, 2, 1, 1, 2, 1, 1, 1, 20, 1, 1, 1, 1, 1, 2, 2, 2, 2, 2, 2, 2, 1, 1, 1, 7, 1, 20, 20, 20, 20, 20, 1, 1, 1, 1, 1, 1, 1, 1, 1, 1, 1, 1, 1, 1, 1, 1, 1, 1, 1, 1, 1, 1, 1, 1, 1, 1, 1, 1, 1, 1, 1]
def jw_nfls : List Nat := [4, 11, 3, 3, 3, 4, 2, 6, 7, 8, 11, 43]
def jw_len (k : Nat) : Nat := jw_lens.getD k 0
def jw_tag (k : Nat) : Nat := jw_tags.getD k 9
def jw_cnt (k : Nat) : Nat := jw_cnts.getD k 0
def jw_nfl (k : Nat) : Nat := jw_nfls.getD k 0
def jw_sh (k n j : Nat) : Option (Nat × Nat) := match k with
  | 0 => (match j with | 0 => some (8, 0) | 1 => some (12, n) | 2 => some (13, n) | _ => none)
  | 1 => (match j with | 4 => some (14, n) | 5 => some (15, n) | 6 => some (16, n) | 7 => some (17, n) | 8 => some (18, n) | 9 => some (19, n) | 10 => some (20, n) | _ => none)
  | 2 => (match j with | 0 => some (1, 0) | 1 => some (8, 0) | _ => none)
  | 3 => (match j with | 0 => some (21, n) | _ => none)
  | 4 => (match j with | 0 => some (8, (18 + n)) | _ => none)
  | 5 => (match j with | 0 => some (1, 0) | 1 => some (8, 0) | 2 => some (22, n) | 3 => some (23, n) | _ => none)
  | 6 => (match j with | 0 => some (1, 0) | 1 => some (8, 0) | _ => none)
  | 7 => (match j with | 0 => some (25, n) | 5 => some (1, 1) | _ => none)
  | 8 => (match j with | 0 => some (1, 0) | 2 => some (26, n) | 3 => some (27, n) | 4 => some (28, n) | 5 => some (29, n) | 6 => some (30, n) | _ => none)
  | 9 => (match j with | 0 => some (1, 0) | 1 => some (8, 0) | 2 => some (31, n) | 3 => some (32, n) | 4 => some (33, n) | 5 => some (34, n) | _ => none)
  | 10 => (match j with | 0 => some (7, 0) | 1 => some (1, 0) | 2 => some (8, 0) | 3 => some (8, 1) | 4 => some (6, 0) | 5 => some (5, 0) | 6 => some (9, 0) | 7 => some (0, 0) | 8 => some (2, 0) | 9 => some (3, 0) | 10 => some (35, 0) | _ => none)
  | 11 => (match j with | 2 => some (36, n) | 4 => some (37, n) | 5 => some (38, n) | 6 => some (39, n) | 8 => some (40, n) | 9 => some (41, n) | 10 => some (42, n) | 11 => some (43, n) | 13 => some (44, n) | 21 => some (45, n) | 23 => some (46, n) | 24 => some (47, n) | 25 => some (48, n) | 27 => some (49, n) | 28 => some (50, n) | 29 => some (51, n) | 31 => some (52, n) | 32 => some (53, n) | 33 => some (54, n) | 35 => some (55, n) | 36 => some (56, n) | 37 => some (57, n) | 39 => some (58, n) | 40 => some (59, n) | 41 => some (60, n) | 42 => some (61, n) | _ => none)
  | _ => none
def jw_cells : List (Nat × Nat) := (List.range 62).flatMap (fun k => (List.range (jw_cnt k)).map (fun n => (k, n)))
def jw_rv (g : jw_G) : jw_V → Value
  | .inl x => .int x
  | .inr (.inl x) => .long x
  | .inr (.inr (k, n)) => .ref (g.2.1 k n)
def jw_fv (M : jw_Mem) (k n j : Nat) : jw_V := match jw_sh k n j with
  | none => vi (M k n j)
  | some q => vr q.1 q.2
def jw_cel (g : jw_G) (M : jw_Mem) (k n : Nat) : va_E := match jw_tag k with
  | 0 => .inr (k, (List.range (jw_nfl k)).map (fun j => jw_rv g (jw_fv M k n j)))
  | 1 => .inl (g.2.2.1 0, jw_len k, .inl (M k n))
  | 2 => .inl (g.2.2.1 1, jw_len k, .inl (M k n))
  | 3 => .inl (g.2.2.1 2, jw_len k, .inr (.inr (.inr (.inr (fun i => some (g.2.1 24 i))))))
  | 4 => .inl (g.2.2.1 3, jw_len k, .inr (.inr (.inr (.inr (fun i => some (g.2.1 8 (2 + i)))))))
  | _ => .inl (g.2.2.1 4, jw_len k, .inr (.inr (.inr (.inr (fun i => some (g.2.1 4 i))))))
def jw_ws (g : jw_G) (M : jw_Mem) : va_W := jw_cells.map (fun c => (g.2.1 c.1 c.2, jw_cel g M c.1 c.2))
def jw_A (g : jw_G) : Nat → Prop := fun q => ∃ c ∈ jw_cells, q = g.2.1 c.1 c.2
def jw_I (g : jw_G) : Prop := ∀ c ∈ jw_cells, ∀ c2 ∈ jw_cells, g.2.1 c.1 c.2 = g.2.1 c2.1 c2.2 → c = c2
def jw_tys (g : jw_G) : List (ClassId × FieldType) := [(g.2.2.1 0, .int), (g.2.2.1 1, .boolean), (g.2.2.1 2, .array .int), (g.2.2.1 3, .object "StatueVotes$State"), (g.2.2.1 4, .object "StatueVotes$Image")]
def jw_ord : Nat → Int32 := fun i => [1, 1, 2, 6, 24, 120, 720, 5040].getD i 0
def jw_nest : List Cond := [.methodLinkNest RX1 59 yX10_isIn RX10, .methodLinkNest RX5 64 yX10_isIn RX10, .methodLinkNest RX6 48 yX10_isIn RX10, .methodLinkNest RX8 75 yX10_isIn RX10]
def jw_words : List Cond := lw_tbl.filter goodWord
def jw_K (g : jw_G) (U : State) : Prop := va_K g.1 vwCl (jw_tys g) U ∧ (∀ w ∈ jw_nest, va_Nw w U) ∧ va_Z "StatueVotes$Polls" "ORDERS" "[I" (.ref g.2.2.2) (jw_A g) U U.heap ∧ va_T .int g.2.2.2 8 (fun i => .int (jw_ord i)) (jw_A g) U U.heap
/-- a method: its name, code, number of locals, return type -/
abbrev jw_Mt : Type := MethodName × ByteArray × Nat × Option FieldType
def jw_R (d : Nat) : Room := { frames := d, cells := 0, slots := 0, locals := 29 * d }
def jw_Q (g : jw_G) (ret : Option FieldType) (Q : Int32 → jw_Mem → Prop) : Array Value → State → Outcome → State → Prop := fun _ st oc t => (∃ (x : Int32) (M : jw_Mem), oc = .returned (ret.map (fun _ => Value.int x)) ∧ Q x M ∧ va_P g.1 vwCl (jw_ws g M) t.heap) ∧ va_F (jw_A g) st t
def jw_M (d : Nat) (mt : jw_Mt) (as : List jw_V) (M : jw_Mem) (Q : Int32 → jw_Mem → Prop) : Prop :=
  ∀ (l : Launch) (g : jw_G), jw_I g → Met l mt.1 (.code mt.1 mt.2.1 mt.2.2.1 mt.2.2.2 :: jw_words) (jw_R d) (va_Pc (as.map (jw_rv g)) (fun U => va_P g.1 vwCl (jw_ws g M) U.heap ∧ jw_K g U)) (jw_Q g mt.2.2.2 Q) 0 0 (jw_A g)
def jw_C (g : jw_G) (mt : jw_Mt) (p : Program) (s : State) (m : MethodId) (args : Array Value) (meth : Method) (c : Code) : Prop :=
  jw_I g ∧ p.tables.exec = Jvm.exec ∧ c.code = mt.2.1 ∧ c.maxLocals = mt.2.2.1 ∧ meth.sig.returnType = mt.2.2.2 ∧ meth.locks = false ∧ s.vm.findClass mt.1.cls = some m.cls ∧ (∀ w ∈ (.code mt.1 mt.2.1 mt.2.2.1 mt.2.2.2 :: jw_words), w.before args s = true) ∧ jw_K g s
def jw_lv (g : jw_G) (lv : List (Nat × jw_V)) : List (Nat × Value) := lv.map (fun q => (q.1, jw_rv g q.2))
def jw_J (d : Nat) (mt : jw_Mt) (pc : Nat) (lv : List (Nat × jw_V)) (st : List jw_V) (M : jw_Mem) (Q : Int32 → jw_Mem → Prop) : Prop :=
  ∀ (l : Launch) (g : jw_G) (p : Program) (e : Env) (s : State) (m : MethodId) (args : Array Value) (below : List Frame) (meth : Method) (c : Code), jw_C g mt p s m args meth c → ∀ (H : Heap) (locs : List Loc) (ls : Array Slot), va_P g.1 vwCl (jw_ws g M) H → va_S (jw_A g) s.heap H locs → lv_has ls mt.2.2.1 (jw_lv g lv) →
    W p l e (jw_R d) s m args below meth c H locs 0 0 (MQ below (jw_Q g mt.2.2.2 Q) args s 0 0 (jw_A g)) (F0 m pc ls (st.map (jw_rv g)))
/-! ===== the world's cells ===== -/
set_option maxRecDepth 20000 in
theorem jw_nodup : jw_cells.Nodup := by decide +kernel
theorem jw_inj {i j : Nat} {c : Nat × Nat} (h1 : jw_cells[i]? = some c) (h2 : jw_cells[j]? = some c) : i = j := by
  obtain ⟨hi, e1⟩ := List.getElem?_eq_some_iff.mp h1
  obtain ⟨hj, e2⟩ := List.getElem?_eq_some_iff.mp h2
  have h := List.pairwise_iff_getElem.mp jw_nodup
  rcases Nat.lt_trichotomy i j with q | q | q
  · exact absurd (e1.trans e2.symm) (h i j hi hj q)
  · exact q
  · exact absurd (e2.trans e1.symm) (h j i hj hi q)
theorem jw_mem {k n : Nat} (h : n < jw_cnt k) : (k, n) ∈ jw_cells := by
  have hk : k < 62 := by
    rcases Nat.lt_or_ge k 62 with q | q
    · exact q
    · have : jw_cnt k = 0 := by
        unfold jw_cnt
        rw [List.getD_eq_getElem?_getD, List.getElem?_eq_none (by exact q)]
        rfl
      omega
  exact List.mem_flatMap.mpr ⟨k, List.mem_range.mpr hk, List.mem_map.mpr ⟨n, List.mem_range.mpr h, rfl⟩⟩
theorem jw_at (g : jw_G) (M : jw_Mem) {k n : Nat} (h : n < jw_cnt k) : ∃ q : Nat, jw_cells[q]? = some (k, n) ∧ (jw_ws g M)[q]? = some (g.2.1 k n, jw_cel g M k n) := by
  obtain ⟨q, hq⟩ := List.getElem?_of_mem (jw_mem h)
  exact ⟨q, hq, by unfold jw_ws; rw [List.getElem?_map, hq]; rfl⟩
theorem jw_D {g : jw_G} (h : jw_I g) (M : jw_Mem) : va_D (jw_A g) (jw_ws g M) := by
  have key : ∀ (k : Nat) (q : Nat × va_E), (jw_ws g M)[k]? = some q → ∃ c, jw_cells[k]? = some c ∧ q = (g.2.1 c.1 c.2, jw_cel g M c.1 c.2) := by
    intro k q hq
    unfold jw_ws at hq
    rw [List.getElem?_map] at hq
    cases hc : jw_cells[k]? with
    | none => rw [hc] at hq; cases hq
    | some c => rw [hc] at hq; cases hq; exact ⟨c, rfl, rfl⟩
  refine ⟨fun i j x y hi hj hxy => ?_, fun k q hk => ?_⟩
  · obtain ⟨c, h1, rfl⟩ := key i x hi
    obtain ⟨c2, h2, rfl⟩ := key j y hj
    have e := h c (List.mem_of_getElem? h1) c2 (List.mem_of_getElem? h2) hxy
    subst e
    exact jw_inj h1 h2
  · obtain ⟨c, h1, rfl⟩ := key k q hk
    exact ⟨c, List.mem_of_getElem? h1, rfl⟩
/-- a cell replaced: the world of the new memory, if only that cell differs -/
theorem jw_set {g : jw_G} {M M2 : jw_Mem} {k n q : Nat} {e : va_E} (hq : jw_cells[q]? = some (k, n)) (he : jw_cel g M2 k n = e) (h : ∀ k2 n2, (k2, n2) ≠ (k, n) → jw_cel g M2 k2 n2 = jw_cel g M k2 n2) : (jw_ws g M).set q (g.2.1 k n, e) = jw_ws g M2 := by
  subst he
  apply List.ext_getElem?
  intro i
  unfold jw_ws
  rw [List.getElem?_set]
  by_cases hi : q = i
  · subst hi
    have hl : q < (jw_cells.map (fun c => (g.2.1 c.1 c.2, jw_cel g M c.1 c.2))).length := by
      rw [List.length_map]; exact (List.getElem?_eq_some_iff.mp hq).1
    rw [if_pos rfl, if_pos hl, List.getElem?_map, hq]
    rfl
  · rw [if_neg hi, List.getElem?_map, List.getElem?_map]
    cases hc : jw_cells[i]? with
    | none => rfl
    | some c =>
      have hne : (c.1, c.2) ≠ (k, n) := by
        intro e
        have : c = (k, n) := e
        subst this
        exact hi (jw_inj hq hc)
      show some (g.2.1 c.1 c.2, jw_cel g M c.1 c.2) = some (g.2.1 c.1 c.2, jw_cel g M2 c.1 c.2)
      rw [h c.1 c.2 hne]
def jw_up (M : jw_Mem) (k n j : Nat) (v : Int32) : jw_Mem := fun k2 n2 j2 => if k2 = k ∧ n2 = n ∧ j2 = j then v else M k2 n2 j2
/-- a whole row replaced -/
def jw_row (M : jw_Mem) (k n : Nat) (f : Nat → Int32) : jw_Mem := fun k2 n2 j2 => if k2 = k ∧ n2 = n then f j2 else M k2 n2 j2
theorem jw_cel_congr {g : jw_G} {M M2 : jw_Mem} {k n : Nat} (h : ∀ j, M2 k n j = M k n j) : jw_cel g M2 k n = jw_cel g M k n := by
  have e : M2 k n = M k n := funext h
  unfold jw_cel jw_fv
  rw [e]
theorem jw_up_other {g : jw_G} {M : jw_Mem} {k n j : Nat} {v : Int32} : ∀ k2 n2, (k2, n2) ≠ (k, n) → jw_cel g (jw_up M k n j v) k2 n2 = jw_cel g M k2 n2 := by
  intro k2 n2 h
  refine jw_cel_congr (fun j2 => ?_)
  unfold jw_up
  rw [if_neg]
  rintro ⟨rfl, rfl, -⟩
  exact h rfl
theorem jw_row_other {g : jw_G} {M : jw_Mem} {k n : Nat} {f : Nat → Int32} : ∀ k2 n2, (k2, n2) ≠ (k, n) → jw_cel g (jw_row M k n f) k2 n2 = jw_cel g M k2 n2 := by
  intro k2 n2 h
  refine jw_cel_congr (fun j2 => ?_)
  unfold jw_row
  rw [if_neg]
  rintro ⟨rfl, rfl⟩
  exact h rfl
theorem jw_K.go {g : jw_G} {s U : State} {H : Heap} {locs : List Loc} (h : jw_K g s) (hS : va_S (jw_A g) s.heap H locs) (hU : U.heap = H) (hW : s.WarmedH U.vm) : jw_K g U := by
  obtain ⟨h1, h2, h3, h4⟩ := h
  refine ⟨va_K.moved hW.alike h1, fun w hw => ?_, ?_, ?_⟩
  · have hw2 := h2 w hw
    unfold jw_nest at hw
    simp only [List.mem_cons, List.not_mem_nil, or_false] at hw
    rcases hw with rfl | rfl | rfl | rfl <;> exact va_Nw.warmM hW hw2
  · rw [hU]
    exact va_Z.kept (va_Z.moved hW.alike h3) (fun a ha hA => hS.2.1 a ha hA)
  · rw [hU]
    exact va_T.kept (va_T.moved hW.alike h4) (fun a ha hA => hS.2.1 a ha hA)
theorem jw_K.blind {g : jw_G} {U : State} (h : jw_K g U) (G : JFrame) (mk : MethodId) (a : Array Value) : jw_K g (U.calling G mk a) := by
  obtain ⟨h1, h2, h3, h4⟩ := h
  refine ⟨va_K.moved (u := U) (U := U.calling G mk a) (Vm.Alike.refl U.vm) h1, fun w hw => ?_, va_Z.moved (u := U) (U := U.calling G mk a) (Vm.Alike.refl U.vm) h3, va_T.moved (u := U) (U := U.calling G mk a) (Vm.Alike.refl U.vm) h4⟩
  have hw2 := h2 w hw
  unfold jw_nest at hw
  simp only [List.mem_cons, List.not_mem_nil, or_false] at hw
  rcases hw with rfl | rfl | rfl | rfl <;> exact va_Nw.same rfl rfl hw2

/-! ===== rows: one an instruction ===== -/
section JR
variable {d : Nat} {mt : jw_Mt} {pc : Nat} {lv : List (Nat × jw_V)} {st : List jw_V} {M : jw_Mem} {Q : Int32 → jw_Mem → Prop}
theorem jw_lvat {g : jw_G} {ls : Array Slot} {nL : Nat} (h : lv_has ls nL (jw_lv g lv)) (k : Nat) {i : Nat} {v : jw_V} (hk : lv[k]? = some (i, v)) : ls[i]? = some (.val (jw_rv g v)) := lv_at h k (by unfold jw_lv; rw [List.getElem?_map, hk]; rfl)
theorem jr_sub (ks : List Nat) {lv' : List (Nat × jw_V)} (hl : ks.filterMap (fun k => lv[k]?) = lv') (h : jw_J d mt pc lv' st M Q) : jw_J d mt pc lv st M Q := by
  intro l g p e s m args below meth c C H locs ls hP hS hlv
  refine h l g p e s m args below meth c C H locs ls hP hS ⟨hlv.1, hlv.2.1, fun q hq => ?_⟩
  subst hl
  unfold jw_lv at hq
  obtain ⟨q0, h0, rfl⟩ := List.mem_map.mp hq
  obtain ⟨k, -, hk⟩ := List.mem_filterMap.mp h0
  exact jw_lvat hlv k hk
theorem jr_iconst {n : Int} {v : Int32} (hd : decode mt.2.1 pc = .ok (.iconst n, 1)) (hv : Int32.ofInt n = v) (h : jw_J d mt (pc + 1) lv (vi v :: st) M Q) : jw_J d mt pc lv (st) M Q := by
  intro l g p e s m args below meth c C H locs ls hP hS hlv
  obtain ⟨hI, hx, hb, hml, hr, hlocks, hown, hts, hK⟩ := id C
  exact lv_iconst hx hb hd hv (h l g p e s m args below meth c C H locs ls hP hS hlv)
theorem jr_bipush {n : Int} {v : Int32} (hd : decode mt.2.1 pc = .ok (.bipush n, 2)) (hv : (Int8.ofInt n).toInt32 = v) (h : jw_J d mt (pc + 2) lv (vi v :: st) M Q) : jw_J d mt pc lv (st) M Q := by
  intro l g p e s m args below meth c C H locs ls hP hS hlv
  obtain ⟨hI, hx, hb, hml, hr, hlocks, hown, hts, hK⟩ := id C
  exact lv_bipush hx hb hd hv (h l g p e s m args below meth c C H locs ls hP hS hlv)
theorem jr_sipush {n : Int} {v : Int32} (hd : decode mt.2.1 pc = .ok (.sipush n, 3)) (hv : (Int16.ofInt n).toInt32 = v) (h : jw_J d mt (pc + 3) lv (vi v :: st) M Q) : jw_J d mt pc lv (st) M Q := by
  intro l g p e s m args below meth c C H locs ls hP hS hlv
  obtain ⟨hI, hx, hb, hml, hr, hlocks, hown, hts, hK⟩ := id C
  exact lv_sipush hx hb hd hv (h l g p e s m args below meth c C H locs ls hP hS hlv)
theorem jr_lconst {n : Fin 2} {v : Int64} (hd : decode mt.2.1 pc = .ok (.lconst n, 1)) (hv : Int64.ofNat (n : Nat) = v) (h : jw_J d mt (pc + 1) lv (vl v :: st) M Q) : jw_J d mt pc lv (st) M Q := by
  intro l g p e s m args below meth c C H locs ls hP hS hlv
  obtain ⟨hI, hx, hb, hml, hr, hlocks, hown, hts, hK⟩ := id C
  exact lv_lconst hx hb hd hv (h l g p e s m args below meth c C H locs ls hP hS hlv)
theorem jr_iload_n {k : Fin 4} {i : Nat} {x : Int32} (hd : decode mt.2.1 pc = .ok (.iload_n k, 1)) (hi : (k : Nat) = i) (q : Nat) (hq : lv[q]? = some (i, vi x)) (h : jw_J d mt (pc + 1) lv (vi x :: st) M Q) : jw_J d mt pc lv (st) M Q := by
  intro l g p e s m args below meth c C H locs ls hP hS hlv
  obtain ⟨hI, hx, hb, hml, hr, hlocks, hown, hts, hK⟩ := id C
  exact lv_iload_n hx hb hd hi (jw_lvat hlv q hq) (h l g p e s m args below meth c C H locs ls hP hS hlv)
theorem jr_iload {i : Nat} {x : Int32} (hd : decode mt.2.1 pc = .ok (.iload i, 2)) (q : Nat) (hq : lv[q]? = some (i, vi x)) (h : jw_J d mt (pc + 2) lv (vi x :: st) M Q) : jw_J d mt pc lv (st) M Q := by
  intro l g p e s m args below meth c C H locs ls hP hS hlv
  obtain ⟨hI, hx, hb, hml, hr, hlocks, hown, hts, hK⟩ := id C
  exact lv_iload hx hb hd (jw_lvat hlv q hq) (h l g p e s m args below meth c C H locs ls hP hS hlv)
theorem jr_lload_n {k : Fin 4} {i : Nat} {x : Int64} (hd : decode mt.2.1 pc = .ok (.lload_n k, 1)) (hi : (k : Nat) = i) (q : Nat) (hq : lv[q]? = some (i, vl x)) (h : jw_J d mt (pc + 1) lv (vl x :: st) M Q) : jw_J d mt pc lv (st) M Q := by
  intro l g p e s m args below meth c C H locs ls hP hS hlv
  obtain ⟨hI, hx, hb, hml, hr, hlocks, hown, hts, hK⟩ := id C
  exact lv_lload_n hx hb hd hi (jw_lvat hlv q hq) (h l g p e s m args below meth c C H locs ls hP hS hlv)
theorem jr_lload {i : Nat} {x : Int64} (hd : decode mt.2.1 pc = .ok (.lload i, 2)) (q : Nat) (hq : lv[q]? = some (i, vl x)) (h : jw_J d mt (pc + 2) lv (vl x :: st) M Q) : jw_J d mt pc lv (st) M Q := by
  intro l g p e s m args below meth c C H locs ls hP hS hlv
  obtain ⟨hI, hx, hb, hml, hr, hlocks, hown, hts, hK⟩ := id C
  exact lv_lload hx hb hd (jw_lvat hlv q hq) (h l g p e s m args below meth c C H locs ls hP hS hlv)
theorem jr_aload_n {k : Fin 4} {i : Nat} {k0 n0 : Nat} (hd : decode mt.2.1 pc = .ok (.aload_n k, 1)) (hi : (k : Nat) = i) (q : Nat) (hq : lv[q]? = some (i, vr k0 n0)) (h : jw_J d mt (pc + 1) lv (vr k0 n0 :: st) M Q) : jw_J d mt pc lv (st) M Q := by
  intro l g p e s m args below meth c C H locs ls hP hS hlv
  obtain ⟨hI, hx, hb, hml, hr, hlocks, hown, hts, hK⟩ := id C
  exact lv_aload_n hx hb hd hi (jw_lvat hlv q hq) (h l g p e s m args below meth c C H locs ls hP hS hlv)
theorem jr_aload {i : Nat} {k0 n0 : Nat} (hd : decode mt.2.1 pc = .ok (.aload i, 2)) (q : Nat) (hq : lv[q]? = some (i, vr k0 n0)) (h : jw_J d mt (pc + 2) lv (vr k0 n0 :: st) M Q) : jw_J d mt pc lv (st) M Q := by
  intro l g p e s m args below meth c C H locs ls hP hS hlv
  obtain ⟨hI, hx, hb, hml, hr, hlocks, hown, hts, hK⟩ := id C
  exact lv_aload hx hb hd (jw_lvat hlv q hq) (h l g p e s m args below meth c C H locs ls hP hS hlv)
theorem jr_iadd {x y : Int32} (hd : decode mt.2.1 pc = .ok (.iadd, 1)) (h : jw_J d mt (pc + 1) lv (vi (x + y) :: st) M Q) : jw_J d mt pc lv (vi y :: vi x :: st) M Q := by
  intro l g p e s m args below meth c C H locs ls hP hS hlv
  obtain ⟨hI, hx, hb, hml, hr, hlocks, hown, hts, hK⟩ := id C
  exact lv_iadd hx hb hd (h l g p e s m args below meth c C H locs ls hP hS hlv)
theorem jr_isub {x y : Int32} (hd : decode mt.2.1 pc = .ok (.isub, 1)) (h : jw_J d mt (pc + 1) lv (vi (x - y) :: st) M Q) : jw_J d mt pc lv (vi y :: vi x :: st) M Q := by
  intro l g p e s m args below meth c C H locs ls hP hS hlv
  obtain ⟨hI, hx, hb, hml, hr, hlocks, hown, hts, hK⟩ := id C
  exact lv_isub hx hb hd (h l g p e s m args below meth c C H locs ls hP hS hlv)
theorem jr_imul {x y : Int32} (hd : decode mt.2.1 pc = .ok (.imul, 1)) (h : jw_J d mt (pc + 1) lv (vi (x * y) :: st) M Q) : jw_J d mt pc lv (vi y :: vi x :: st) M Q := by
  intro l g p e s m args below meth c C H locs ls hP hS hlv
  obtain ⟨hI, hx, hb, hml, hr, hlocks, hown, hts, hK⟩ := id C
  exact lv_imul hx hb hd (h l g p e s m args below meth c C H locs ls hP hS hlv)
theorem jr_iand {x y : Int32} (hd : decode mt.2.1 pc = .ok (.iand, 1)) (h : jw_J d mt (pc + 1) lv (vi (x &&& y) :: st) M Q) : jw_J d mt pc lv (vi y :: vi x :: st) M Q := by
  intro l g p e s m args below meth c C H locs ls hP hS hlv
  obtain ⟨hI, hx, hb, hml, hr, hlocks, hown, hts, hK⟩ := id C
  exact lv_iand hx hb hd (h l g p e s m args below meth c C H locs ls hP hS hlv)
theorem jr_ior {x y : Int32} (hd : decode mt.2.1 pc = .ok (.ior, 1)) (h : jw_J d mt (pc + 1) lv (vi (x ||| y) :: st) M Q) : jw_J d mt pc lv (vi y :: vi x :: st) M Q := by
  intro l g p e s m args below meth c C H locs ls hP hS hlv
  obtain ⟨hI, hx, hb, hml, hr, hlocks, hown, hts, hK⟩ := id C
  exact lv_ior hx hb hd (h l g p e s m args below meth c C H locs ls hP hS hlv)
theorem jr_ixor {x y : Int32} (hd : decode mt.2.1 pc = .ok (.ixor, 1)) (h : jw_J d mt (pc + 1) lv (vi (x ^^^ y) :: st) M Q) : jw_J d mt pc lv (vi y :: vi x :: st) M Q := by
  intro l g p e s m args below meth c C H locs ls hP hS hlv
  obtain ⟨hI, hx, hb, hml, hr, hlocks, hown, hts, hK⟩ := id C
  exact lv_ixor hx hb hd (h l g p e s m args below meth c C H locs ls hP hS hlv)
theorem jr_ishl {x y : Int32} (hd : decode mt.2.1 pc = .ok (.ishl, 1)) (h : jw_J d mt (pc + 1) lv (vi (x <<< (y &&& 31)) :: st) M Q) : jw_J d mt pc lv (vi y :: vi x :: st) M Q := by
  intro l g p e s m args below meth c C H locs ls hP hS hlv
  obtain ⟨hI, hx, hb, hml, hr, hlocks, hown, hts, hK⟩ := id C
  exact lv_ishl hx hb hd (h l g p e s m args below meth c C H locs ls hP hS hlv)
theorem jr_ishr {x y : Int32} (hd : decode mt.2.1 pc = .ok (.ishr, 1)) (h : jw_J d mt (pc + 1) lv (vi (x >>> (y &&& 31)) :: st) M Q) : jw_J d mt pc lv (vi y :: vi x :: st) M Q := by
  intro l g p e s m args below meth c C H locs ls hP hS hlv
  obtain ⟨hI, hx, hb, hml, hr, hlocks, hown, hts, hK⟩ := id C
  exact lv_ishr hx hb hd (h l g p e s m args below meth c C H locs ls hP hS hlv)
theorem jr_iushr {x y : Int32} (hd : decode mt.2.1 pc = .ok (.iushr, 1)) (h : jw_J d mt (pc + 1) lv (vi (x.toUInt32 >>> (y.toUInt32 &&& Int32.toUInt32 31)).toInt32 :: st) M Q) : jw_J d mt pc lv (vi y :: vi x :: st) M Q := by
  intro l g p e s m args below meth c C H locs ls hP hS hlv
  obtain ⟨hI, hx, hb, hml, hr, hlocks, hown, hts, hK⟩ := id C
  exact lv_iushr hx hb hd rfl (h l g p e s m args below meth c C H locs ls hP hS hlv)
theorem jr_idiv {x y : Int32} (hd : decode mt.2.1 pc = .ok (.idiv, 1)) (hne : ¬ y = 0) (h : jw_J d mt (pc + 1) lv (vi (x / y) :: st) M Q) : jw_J d mt pc lv (vi y :: vi x :: st) M Q := by
  intro l g p e s m args below meth c C H locs ls hP hS hlv
  obtain ⟨hI, hx, hb, hml, hr, hlocks, hown, hts, hK⟩ := id C
  exact lv_idiv hx hb hd hne (h l g p e s m args below meth c C H locs ls hP hS hlv)
theorem jr_irem {x y : Int32} (hd : decode mt.2.1 pc = .ok (.irem, 1)) (hne : ¬ y = 0) (h : jw_J d mt (pc + 1) lv (vi (x - x / y * y) :: st) M Q) : jw_J d mt pc lv (vi y :: vi x :: st) M Q := by
  intro l g p e s m args below meth c C H locs ls hP hS hlv
  obtain ⟨hI, hx, hb, hml, hr, hlocks, hown, hts, hK⟩ := id C
  exact lv_irem hx hb hd hne (h l g p e s m args below meth c C H locs ls hP hS hlv)
theorem jr_ladd {x y : Int64} (hd : decode mt.2.1 pc = .ok (.ladd, 1)) (h : jw_J d mt (pc + 1) lv (vl (x + y) :: st) M Q) : jw_J d mt pc lv (vl y :: vl x :: st) M Q := by
  intro l g p e s m args below meth c C H locs ls hP hS hlv
  obtain ⟨hI, hx, hb, hml, hr, hlocks, hown, hts, hK⟩ := id C
  exact lv_ladd hx hb hd (h l g p e s m args below meth c C H locs ls hP hS hlv)
theorem jr_lmul {x y : Int64} (hd : decode mt.2.1 pc = .ok (.lmul, 1)) (h : jw_J d mt (pc + 1) lv (vl (x * y) :: st) M Q) : jw_J d mt pc lv (vl y :: vl x :: st) M Q := by
  intro l g p e s m args below meth c C H locs ls hP hS hlv
  obtain ⟨hI, hx, hb, hml, hr, hlocks, hown, hts, hK⟩ := id C
  exact lv_lmul hx hb hd (h l g p e s m args below meth c C H locs ls hP hS hlv)
theorem jr_land {x y : Int64} (hd : decode mt.2.1 pc = .ok (.land, 1)) (h : jw_J d mt (pc + 1) lv (vl (x &&& y) :: st) M Q) : jw_J d mt pc lv (vl y :: vl x :: st) M Q := by
  intro l g p e s m args below meth c C H locs ls hP hS hlv
  obtain ⟨hI, hx, hb, hml, hr, hlocks, hown, hts, hK⟩ := id C
  exact lv_land hx hb hd (h l g p e s m args below meth c C H locs ls hP hS hlv)
theorem jr_ldiv {x y : Int64} (hd : decode mt.2.1 pc = .ok (.ldiv, 1)) (hne : ¬ y = 0) (h : jw_J d mt (pc + 1) lv (vl (x / y) :: st) M Q) : jw_J d mt pc lv (vl y :: vl x :: st) M Q := by
  intro l g p e s m args below meth c C H locs ls hP hS hlv
  obtain ⟨hI, hx, hb, hml, hr, hlocks, hown, hts, hK⟩ := id C
  exact lv_ldiv hx hb hd hne (h l g p e s m args below meth c C H locs ls hP hS hlv)
theorem jr_lrem {x y : Int64} (hd : decode mt.2.1 pc = .ok (.lrem, 1)) (hne : ¬ y = 0) (h : jw_J d mt (pc + 1) lv (vl (x - x / y * y) :: st) M Q) : jw_J d mt pc lv (vl y :: vl x :: st) M Q := by
  intro l g p e s m args below meth c C H locs ls hP hS hlv
  obtain ⟨hI, hx, hb, hml, hr, hlocks, hown, hts, hK⟩ := id C
  exact lv_lrem hx hb hd hne (h l g p e s m args below meth c C H locs ls hP hS hlv)
theorem jr_lcmp {x y : Int64} (hd : decode mt.2.1 pc = .ok (.lcmp, 1)) (h : jw_J d mt (pc + 1) lv (vi (lg_cmp x y) :: st) M Q) : jw_J d mt pc lv (vl y :: vl x :: st) M Q := by
  intro l g p e s m args below meth c C H locs ls hP hS hlv
  obtain ⟨hI, hx, hb, hml, hr, hlocks, hown, hts, hK⟩ := id C
  exact W.lcmp hx hb hd (h l g p e s m args below meth c C H locs ls hP hS hlv)
theorem jr_i2l {x : Int32} (hd : decode mt.2.1 pc = .ok (.i2l, 1)) (h : jw_J d mt (pc + 1) lv (vl x.toInt64 :: st) M Q) : jw_J d mt pc lv (vi x :: st) M Q := by
  intro l g p e s m args below meth c C H locs ls hP hS hlv
  obtain ⟨hI, hx, hb, hml, hr, hlocks, hown, hts, hK⟩ := id C
  exact lv_i2l hx hb hd rfl (h l g p e s m args below meth c C H locs ls hP hS hlv)
theorem jr_l2i {x : Int64} (hd : decode mt.2.1 pc = .ok (.l2i, 1)) (h : jw_J d mt (pc + 1) lv (vi x.toInt32 :: st) M Q) : jw_J d mt pc lv (vl x :: st) M Q := by
  intro l g p e s m args below meth c C H locs ls hP hS hlv
  obtain ⟨hI, hx, hb, hml, hr, hlocks, hown, hts, hK⟩ := id C
  exact lv_l2i hx hb hd rfl (h l g p e s m args below meth c C H locs ls hP hS hlv)
theorem jr_dup_i {x : Int32} (hd : decode mt.2.1 pc = .ok (.dup, 1)) (h : jw_J d mt (pc + 1) lv (vi x :: vi x :: st) M Q) : jw_J d mt pc lv (vi x :: st) M Q := by
  intro l g p e s m args below meth c C H locs ls hP hS hlv
  obtain ⟨hI, hx, hb, hml, hr, hlocks, hown, hts, hK⟩ := id C
  exact lv_dup hx hb hd rfl (h l g p e s m args below meth c C H locs ls hP hS hlv)
theorem jr_dup_r {k0 n0 : Nat} (hd : decode mt.2.1 pc = .ok (.dup, 1)) (h : jw_J d mt (pc + 1) lv (vr k0 n0 :: vr k0 n0 :: st) M Q) : jw_J d mt pc lv (vr k0 n0 :: st) M Q := by
  intro l g p e s m args below meth c C H locs ls hP hS hlv
  obtain ⟨hI, hx, hb, hml, hr, hlocks, hown, hts, hK⟩ := id C
  exact lv_dup hx hb hd rfl (h l g p e s m args below meth c C H locs ls hP hS hlv)
theorem jr_dup2 {x : Int32} {k0 n0 : Nat} (hd : decode mt.2.1 pc = .ok (.dup2, 1)) (h : jw_J d mt (pc + 1) lv (vi x :: vr k0 n0 :: vi x :: vr k0 n0 :: st) M Q) : jw_J d mt pc lv (vi x :: vr k0 n0 :: st) M Q := by
  intro l g p e s m args below meth c C H locs ls hP hS hlv
  obtain ⟨hI, hx, hb, hml, hr, hlocks, hown, hts, hK⟩ := id C
  exact lv_dup2_11 hx hb hd rfl rfl (h l g p e s m args below meth c C H locs ls hP hS hlv)
theorem jr_pop {x : Int32} (hd : decode mt.2.1 pc = .ok (.pop, 1)) (h : jw_J d mt (pc + 1) lv (st) M Q) : jw_J d mt pc lv (vi x :: st) M Q := by
  intro l g p e s m args below meth c C H locs ls hP hS hlv
  obtain ⟨hI, hx, hb, hml, hr, hlocks, hown, hts, hK⟩ := id C
  exact lv_pop hx hb hd rfl (h l g p e s m args below meth c C H locs ls hP hS hlv)
theorem jr_goto {off : Int} {tgt : Nat} (hd : decode mt.2.1 pc = .ok (.goto off, 3)) (ht : (pc : Int) + off = (tgt : Int)) (h : jw_J d mt tgt lv st M Q) : jw_J d mt pc lv st M Q := by
  intro l g p e s m args below meth c C H locs ls hP hS hlv
  obtain ⟨hI, hx, hb, hml, hr, hlocks, hown, hts, hK⟩ := id C
  exact lv_goto hx hb hd ht (h l g p e s m args below meth c C H locs ls hP hS hlv)
theorem jr_if_eq {x : Int32} {off : Int} {tgt : Nat} (hd : decode mt.2.1 pc = .ok (.ifCond .eq off, 3)) (ht : (pc : Int) + off = (tgt : Int)) (kt : x = 0 → jw_J d mt tgt lv st M Q) (kf : ¬ x = 0 → jw_J d mt (pc + 3) lv st M Q) : jw_J d mt pc lv (vi x :: st) M Q := by
  intro l g p e s m args below meth c C H locs ls hP hS hlv
  obtain ⟨hI, hx, hb, hml, hr, hlocks, hown, hts, hK⟩ := id C
  exact lv_if_eq hx hb hd ht (fun q => kt q l g p e s m args below meth c C H locs ls hP hS hlv) (fun q => kf q l g p e s m args below meth c C H locs ls hP hS hlv)
theorem jr_icmp_eq {x y : Int32} {off : Int} {tgt : Nat} (hd : decode mt.2.1 pc = .ok (.if_icmp .eq off, 3)) (ht : (pc : Int) + off = (tgt : Int)) (kt : x = y → jw_J d mt tgt lv st M Q) (kf : ¬ x = y → jw_J d mt (pc + 3) lv st M Q) : jw_J d mt pc lv (vi y :: vi x :: st) M Q := by
  intro l g p e s m args below meth c C H locs ls hP hS hlv
  obtain ⟨hI, hx, hb, hml, hr, hlocks, hown, hts, hK⟩ := id C
  exact lv_icmp_eq hx hb hd ht (fun q => kt q l g p e s m args below meth c C H locs ls hP hS hlv) (fun q => kf q l g p e s m args below meth c C H locs ls hP hS hlv)
theorem jr_if_ne {x : Int32} {off : Int} {tgt : Nat} (hd : decode mt.2.1 pc = .ok (.ifCond .ne off, 3)) (ht : (pc : Int) + off = (tgt : Int)) (kt : ¬ x = 0 → jw_J d mt tgt lv st M Q) (kf : x = 0 → jw_J d mt (pc + 3) lv st M Q) : jw_J d mt pc lv (vi x :: st) M Q := by
  intro l g p e s m args below meth c C H locs ls hP hS hlv
  obtain ⟨hI, hx, hb, hml, hr, hlocks, hown, hts, hK⟩ := id C
  exact lv_if_ne hx hb hd ht (fun q => kt q l g p e s m args below meth c C H locs ls hP hS hlv) (fun q => kf q l g p e s m args below meth c C H locs ls hP hS hlv)
theorem jr_icmp_ne {x y : Int32} {off : Int} {tgt : Nat} (hd : decode mt.2.1 pc = .ok (.if_icmp .ne off, 3)) (ht : (pc : Int) + off = (tgt : Int)) (kt : ¬ x = y → jw_J d mt tgt lv st M Q) (kf : x = y → jw_J d mt (pc + 3) lv st M Q) : jw_J d mt pc lv (vi y :: vi x :: st) M Q := by
  intro l g p e s m args below meth c C H locs ls hP hS hlv
  obtain ⟨hI, hx, hb, hml, hr, hlocks, hown, hts, hK⟩ := id C
  exact lv_icmp_ne hx hb hd ht (fun q => kt q l g p e s m args below meth c C H locs ls hP hS hlv) (fun q => kf q l g p e s m args below meth c C H locs ls hP hS hlv)
theorem jr_if_lt {x : Int32} {off : Int} {tgt : Nat} (hd : decode mt.2.1 pc = .ok (.ifCond .lt off, 3)) (ht : (pc : Int) + off = (tgt : Int)) (kt : x < 0 → jw_J d mt tgt lv st M Q) (kf : ¬ x < 0 → jw_J d mt (pc + 3) lv st M Q) : jw_J d mt pc lv (vi x :: st) M Q := by
  intro l g p e s m args below meth c C H locs ls hP hS hlv
  obtain ⟨hI, hx, hb, hml, hr, hlocks, hown, hts, hK⟩ := id C
  exact lv_if_lt hx hb hd ht (fun q => kt q l g p e s m args below meth c C H locs ls hP hS hlv) (fun q => kf q l g p e s m args below meth c C H locs ls hP hS hlv)
theorem jr_icmp_lt {x y : Int32} {off : Int} {tgt : Nat} (hd : decode mt.2.1 pc = .ok (.if_icmp .lt off, 3)) (ht : (pc : Int) + off = (tgt : Int)) (kt : x < y → jw_J d mt tgt lv st M Q) (kf : ¬ x < y → jw_J d mt (pc + 3) lv st M Q) : jw_J d mt pc lv (vi y :: vi x :: st) M Q := by
  intro l g p e s m args below meth c C H locs ls hP hS hlv
  obtain ⟨hI, hx, hb, hml, hr, hlocks, hown, hts, hK⟩ := id C
  exact lv_icmp_lt hx hb hd ht (fun q => kt q l g p e s m args below meth c C H locs ls hP hS hlv) (fun q => kf q l g p e s m args below meth c C H locs ls hP hS hlv)
theorem jr_if_ge {x : Int32} {off : Int} {tgt : Nat} (hd : decode mt.2.1 pc = .ok (.ifCond .ge off, 3)) (ht : (pc : Int) + off = (tgt : Int)) (kt : 0 ≤ x → jw_J d mt tgt lv st M Q) (kf : ¬ 0 ≤ x → jw_J d mt (pc + 3) lv st M Q) : jw_J d mt pc lv (vi x :: st) M Q := by
  intro l g p e s m args below meth c C H locs ls hP hS hlv
  obtain ⟨hI, hx, hb, hml, hr, hlocks, hown, hts, hK⟩ := id C
  exact lv_if_ge hx hb hd ht (fun q => kt q l g p e s m args below meth c C H locs ls hP hS hlv) (fun q => kf q l g p e s m args below meth c C H locs ls hP hS hlv)
theorem jr_icmp_ge {x y : Int32} {off : Int} {tgt : Nat} (hd : decode mt.2.1 pc = .ok (.if_icmp .ge off, 3)) (ht : (pc : Int) + off = (tgt : Int)) (kt : y ≤ x → jw_J d mt tgt lv st M Q) (kf : ¬ y ≤ x → jw_J d mt (pc + 3) lv st M Q) : jw_J d mt pc lv (vi y :: vi x :: st) M Q := by
  intro l g p e s m args below meth c C H locs ls hP hS hlv
  obtain ⟨hI, hx, hb, hml, hr, hlocks, hown, hts, hK⟩ := id C
  exact lv_icmp_ge hx hb hd ht (fun q => kt q l g p e s m args below meth c C H locs ls hP hS hlv) (fun q => kf q l g p e s m args below meth c C H locs ls hP hS hlv)
theorem jr_if_gt {x : Int32} {off : Int} {tgt : Nat} (hd : decode mt.2.1 pc = .ok (.ifCond .gt off, 3)) (ht : (pc : Int) + off = (tgt : Int)) (kt : 0 < x → jw_J d mt tgt lv st M Q) (kf : ¬ 0 < x → jw_J d mt (pc + 3) lv st M Q) : jw_J d mt pc lv (vi x :: st) M Q := by
  intro l g p e s m args below meth c C H locs ls hP hS hlv
  obtain ⟨hI, hx, hb, hml, hr, hlocks, hown, hts, hK⟩ := id C
  exact lv_if_gt hx hb hd ht (fun q => kt q l g p e s m args below meth c C H locs ls hP hS hlv) (fun q => kf q l g p e s m args below meth c C H locs ls hP hS hlv)
theorem jr_icmp_gt {x y : Int32} {off : Int} {tgt : Nat} (hd : decode mt.2.1 pc = .ok (.if_icmp .gt off, 3)) (ht : (pc : Int) + off = (tgt : Int)) (kt : y < x → jw_J d mt tgt lv st M Q) (kf : ¬ y < x → jw_J d mt (pc + 3) lv st M Q) : jw_J d mt pc lv (vi y :: vi x :: st) M Q := by
  intro l g p e s m args below meth c C H locs ls hP hS hlv
  obtain ⟨hI, hx, hb, hml, hr, hlocks, hown, hts, hK⟩ := id C
  exact lv_icmp_gt hx hb hd ht (fun q => kt q l g p e s m args below meth c C H locs ls hP hS hlv) (fun q => kf q l g p e s m args below meth c C H locs ls hP hS hlv)
theorem jr_if_le {x : Int32} {off : Int} {tgt : Nat} (hd : decode mt.2.1 pc = .ok (.ifCond .le off, 3)) (ht : (pc : Int) + off = (tgt : Int)) (kt : x ≤ 0 → jw_J d mt tgt lv st M Q) (kf : ¬ x ≤ 0 → jw_J d mt (pc + 3) lv st M Q) : jw_J d mt pc lv (vi x :: st) M Q := by
  intro l g p e s m args below meth c C H locs ls hP hS hlv
  obtain ⟨hI, hx, hb, hml, hr, hlocks, hown, hts, hK⟩ := id C
  exact lv_if_le hx hb hd ht (fun q => kt q l g p e s m args below meth c C H locs ls hP hS hlv) (fun q => kf q l g p e s m args below meth c C H locs ls hP hS hlv)
theorem jr_icmp_le {x y : Int32} {off : Int} {tgt : Nat} (hd : decode mt.2.1 pc = .ok (.if_icmp .le off, 3)) (ht : (pc : Int) + off = (tgt : Int)) (kt : x ≤ y → jw_J d mt tgt lv st M Q) (kf : ¬ x ≤ y → jw_J d mt (pc + 3) lv st M Q) : jw_J d mt pc lv (vi y :: vi x :: st) M Q := by
  intro l g p e s m args below meth c C H locs ls hP hS hlv
  obtain ⟨hI, hx, hb, hml, hr, hlocks, hown, hts, hK⟩ := id C
  exact lv_icmp_le hx hb hd ht (fun q => kt q l g p e s m args below meth c C H locs ls hP hS hlv) (fun q => kf q l g p e s m args below meth c C H locs ls hP hS hlv)
def jw_st1 (lv : List (Nat × jw_V)) (i : Nat) (v : jw_V) : List (Nat × jw_V) := (i, v) :: lv.filter (fun q => !(q.1 == i) && !(q.1 + 1 == i && (match q.2 with | .inr (.inl _) => true | _ => false)))
def jw_st2 (lv : List (Nat × jw_V)) (i : Nat) (v : jw_V) : List (Nat × jw_V) := (i, v) :: lv.filter (fun q => !(q.1 == i) && (!(q.1 == i + 1) && !(q.1 + 1 == i && (match q.2 with | .inr (.inl _) => true | _ => false))))
theorem jw_cat (g : jw_G) (v : jw_V) : ((jw_rv g v).category == 2) = (match v with | .inr (.inl _) => true | _ => false) := by
  rcases v with x | x | ⟨k, n⟩ <;> rfl
theorem jw_lv1 (g : jw_G) (i : Nat) (v : jw_V) : (i, jw_rv g v) :: (jw_lv g lv).filter (fun q => !(q.1 == i) && !(q.1 + 1 == i && q.2.category == 2)) = jw_lv g (jw_st1 lv i v) := by
  unfold jw_st1 jw_lv
  rw [List.map_cons, List.filter_map]
  refine congrArg _ (congrArg _ (List.filter_congr fun q _ => ?_))
  show (!(q.1 == i) && !(q.1 + 1 == i && (jw_rv g q.2).category == 2)) = _
  rw [jw_cat]
theorem jw_lv2 (g : jw_G) (i : Nat) (v : jw_V) : (i, jw_rv g v) :: (jw_lv g lv).filter (fun q => !(q.1 == i) && (!(q.1 == i + 1) && !(q.1 + 1 == i && q.2.category == 2))) = jw_lv g (jw_st2 lv i v) := by
  unfold jw_st2 jw_lv
  rw [List.map_cons, List.filter_map]
  refine congrArg _ (congrArg _ (List.filter_congr fun q _ => ?_))
  show (!(q.1 == i) && (!(q.1 == i + 1) && !(q.1 + 1 == i && (jw_rv g q.2).category == 2))) = _
  rw [jw_cat]
theorem jr_istore_n {k : Fin 4} {i : Nat} {x : Int32} {lv' : List (Nat × jw_V)} (hd : decode mt.2.1 pc = .ok (.istore_n k, 1)) (hi : (k : Nat) = i) (hn : i < mt.2.2.1) (hl : jw_st1 lv i (vi x) = lv') (h : jw_J d mt (pc + 1) lv' st M Q) : jw_J d mt pc lv (vi x :: st) M Q := by
  intro l g p e s m args below meth c C H locs ls hP hS hlv
  obtain ⟨hI, hx, hb, hml, hr, hlocks, hown, hts, hK⟩ := id C
  subst hl
  exact lv_istore_n hx hb hd hi hlv hn (jw_lv1 g i (vi x)) (fun ls' hl' => h l g p e s m args below meth c C H locs ls' hP hS hl')
theorem jr_istore {i : Nat} {x : Int32} {lv' : List (Nat × jw_V)} (hd : decode mt.2.1 pc = .ok (.istore i, 2)) (hn : i < mt.2.2.1) (hl : jw_st1 lv i (vi x) = lv') (h : jw_J d mt (pc + 2) lv' st M Q) : jw_J d mt pc lv (vi x :: st) M Q := by
  intro l g p e s m args below meth c C H locs ls hP hS hlv
  obtain ⟨hI, hx, hb, hml, hr, hlocks, hown, hts, hK⟩ := id C
  subst hl
  exact lv_istore hx hb hd hlv hn (jw_lv1 g i (vi x)) (fun ls' hl' => h l g p e s m args below meth c C H locs ls' hP hS hl')
theorem jr_lstore_n {k : Fin 4} {i : Nat} {x : Int64} {lv' : List (Nat × jw_V)} (hd : decode mt.2.1 pc = .ok (.lstore_n k, 1)) (hi : (k : Nat) = i) (hn : i + 1 < mt.2.2.1) (hl : jw_st2 lv i (vl x) = lv') (h : jw_J d mt (pc + 1) lv' st M Q) : jw_J d mt pc lv (vl x :: st) M Q := by
  intro l g p e s m args below meth c C H locs ls hP hS hlv
  obtain ⟨hI, hx, hb, hml, hr, hlocks, hown, hts, hK⟩ := id C
  subst hl
  exact lv_lstore_n hx hb hd hi hlv hn (jw_lv2 g i (vl x)) (fun ls' hl' => h l g p e s m args below meth c C H locs ls' hP hS hl')
theorem jr_lstore {i : Nat} {x : Int64} {lv' : List (Nat × jw_V)} (hd : decode mt.2.1 pc = .ok (.lstore i, 2)) (hn : i + 1 < mt.2.2.1) (hl : jw_st2 lv i (vl x) = lv') (h : jw_J d mt (pc + 2) lv' st M Q) : jw_J d mt pc lv (vl x :: st) M Q := by
  intro l g p e s m args below meth c C H locs ls hP hS hlv
  obtain ⟨hI, hx, hb, hml, hr, hlocks, hown, hts, hK⟩ := id C
  subst hl
  exact lv_lstore hx hb hd hlv hn (jw_lv2 g i (vl x)) (fun ls' hl' => h l g p e s m args below meth c C H locs ls' hP hS hl')
theorem jr_astore_n {k : Fin 4} {i : Nat} {k0 n0 : Nat} {lv' : List (Nat × jw_V)} (hd : decode mt.2.1 pc = .ok (.astore_n k, 1)) (hi : (k : Nat) = i) (hn : i < mt.2.2.1) (hl : jw_st1 lv i (vr k0 n0) = lv') (h : jw_J d mt (pc + 1) lv' st M Q) : jw_J d mt pc lv (vr k0 n0 :: st) M Q := by
  intro l g p e s m args below meth c C H locs ls hP hS hlv
  obtain ⟨hI, hx, hb, hml, hr, hlocks, hown, hts, hK⟩ := id C
  subst hl
  exact lv_astore_n hx hb hd hi hlv hn (jw_lv1 g i (vr k0 n0)) (fun ls' hl' => h l g p e s m args below meth c C H locs ls' hP hS hl')
theorem jr_astore {i : Nat} {k0 n0 : Nat} {lv' : List (Nat × jw_V)} (hd : decode mt.2.1 pc = .ok (.astore i, 2)) (hn : i < mt.2.2.1) (hl : jw_st1 lv i (vr k0 n0) = lv') (h : jw_J d mt (pc + 2) lv' st M Q) : jw_J d mt pc lv (vr k0 n0 :: st) M Q := by
  intro l g p e s m args below meth c C H locs ls hP hS hlv
  obtain ⟨hI, hx, hb, hml, hr, hlocks, hown, hts, hK⟩ := id C
  subst hl
  exact lv_astore hx hb hd hlv hn (jw_lv1 g i (vr k0 n0)) (fun ls' hl' => h l g p e s m args below meth c C H locs ls' hP hS hl')
theorem jr_iinc {i q : Nat} {n : Int} {x v : Int32} {lv' : List (Nat × jw_V)} (hd : decode mt.2.1 pc = .ok (.iinc i n, 3)) (hq : lv[q]? = some (i, vi x)) (hv : x + Int32.ofInt n = v) (hn : i < mt.2.2.1) (hl : jw_st1 lv i (vi v) = lv') (h : jw_J d mt (pc + 3) lv' st M Q) : jw_J d mt pc lv st M Q := by
  intro l g p e s m args below meth c C H locs ls hP hS hlv
  obtain ⟨hI, hx, hb, hml, hr, hlocks, hown, hts, hK⟩ := id C
  subst hl
  exact lv_iinc hx hb hd hlv (k := q) (by unfold jw_lv; rw [List.getElem?_map, hq]; rfl) hv hn (jw_lv1 g i (vi v)) (fun ls' hl' => h l g p e s m args below meth c C H locs ls' hP hS hl')
theorem jw_in {w : Cond} {args : Array Value} {s : State} {c0 : Cond} (hts : ∀ w ∈ (c0 :: jw_words), w.before args s = true) (h : w ∈ lw_tbl) (hg : goodWord w = true) : w.before args s = true := hts w (List.mem_cons_of_mem _ (List.mem_filter.mpr ⟨h, hg⟩))
theorem jr_ldc {index : Nat} {v : Int32} (hw : Cond.constant mt.1.cls index v ∈ lw_tbl) (hd : decode mt.2.1 pc = .ok (.ldc index, 2)) (h : jw_J d mt (pc + 2) lv (vi v :: st) M Q) : jw_J d mt pc lv st M Q := by
  intro l g p e s m args below meth c C H locs ls hP hS hlv
  obtain ⟨hI, hx, hb, hml, hr, hlocks, hown, hts, hK⟩ := id C
  exact lv_ldc hx hb hown (jw_in hts hw rfl) hd (h l g p e s m args below meth c C H locs ls hP hS hlv)
theorem jr_ldcw {index : Nat} {v : Int32} (hw : Cond.constant mt.1.cls index v ∈ lw_tbl) (hd : decode mt.2.1 pc = .ok (.ldc_w index, 3)) (h : jw_J d mt (pc + 3) lv (vi v :: st) M Q) : jw_J d mt pc lv st M Q := by
  intro l g p e s m args below meth c C H locs ls hP hS hlv
  obtain ⟨hI, hx, hb, hml, hr, hlocks, hown, hts, hK⟩ := id C
  exact lv_ldcw hx hb hown (jw_in hts hw rfl) hd (h l g p e s m args below meth c C H locs ls hP hS hlv)
theorem jr_ldc2 {index : Nat} {v : Int64} (hw : Cond.constantLong mt.1.cls index v ∈ lw_tbl) (hd : decode mt.2.1 pc = .ok (.ldc2_w index, 3)) (h : jw_J d mt (pc + 3) lv (vl v :: st) M Q) : jw_J d mt pc lv st M Q := by
  intro l g p e s m args below meth c C H locs ls hP hS hlv
  obtain ⟨hI, hx, hb, hml, hr, hlocks, hown, hts, hK⟩ := id C
  exact lv_ldc2 hx hb hown (jw_in hts hw rfl) hd (h l g p e s m args below meth c C H locs ls hP hS hlv)
theorem jr_tsw {dflt lo hi : Int} {offs : Array Int} {len : Nat} {x : Int32} (hd : decode mt.2.1 pc = .ok (.tableswitch dflt lo hi offs, len)) {tgt : Nat} (ht : (pc : Int) + dflt = (tgt : Int)) (hlo : lo ≤ hi + 1) (hout : x.toInt < lo ∨ hi < x.toInt → jw_J d mt tgt lv st M Q) (hin : ∀ j : Nat, x.toInt = lo + j → lo + j ≤ hi → ∃ (off : Int) (t : Nat), offs[j]? = some off ∧ (pc : Int) + off = (t : Int) ∧ jw_J d mt t lv st M Q) : jw_J d mt pc lv (vi x :: st) M Q := by
  intro l g p e s m args below meth c C H locs ls hP hS hlv
  obtain ⟨hI, hx, hb, hml, hr, hlocks, hown, hts, hK⟩ := id C
  by_cases h1 : x.toInt < lo
  · exact lv_tableOut hx hb hd (Or.inl h1) ht (hout (Or.inl h1) l g p e s m args below meth c C H locs ls hP hS hlv)
  · by_cases h2 : hi < x.toInt
    · exact lv_tableOut hx hb hd (Or.inr h2) ht (hout (Or.inr h2) l g p e s m args below meth c C H locs ls hP hS hlv)
    · obtain ⟨off, t, ho, ht2, hJ⟩ := hin (x.toInt - lo).toNat (by omega) (by omega)
      exact lv_tableIn hx hb hd h1 h2 ho ht2 (hJ l g p e s m args below meth c C H locs ls hP hS hlv)
/-! fields -/
/-- the table's words on a field: class k, field j -/
def jw_F (own : String) (idx k j : Nat) : Prop := ∃ (C : String) (T : u_T) (N : Nat), vwCl[k]? = some (C, T, N) ∧ jw_tag k = 0 ∧ jw_nfl k = N ∧ j < N ∧ (∀ w ∈ u_ws C T N, w ∈ jw_words) ∧ Cond.fieldLink own idx (T j).1 (T j).2.1 (T j).2.2.1 ∈ lw_tbl
theorem jw_cel0 {g : jw_G} {k : Nat} (ht : jw_tag k = 0) (M : jw_Mem) (n : Nat) : jw_cel g M k n = .inr (k, (List.range (jw_nfl k)).map (fun j => jw_rv g (jw_fv M k n j))) := by unfold jw_cel; rw [ht]; rfl
theorem jr_get {k n j idx : Nat} {v : jw_V} (hF : jw_F mt.1.cls idx k j) (hn : n < jw_cnt k) (hv : jw_fv M k n j = v) (hd : decode mt.2.1 pc = .ok (.getfield idx, 3)) (h : jw_J d mt (pc + 3) lv (v :: st) M Q) : jw_J d mt pc lv (vr k n :: st) M Q := by
  intro l g p e s m args below meth c C H locs ls hP hS hlv
  obtain ⟨hI, hx, hb, hml, hr, hlocks, hown, hts, hK⟩ := id C
  obtain ⟨C0, T, N, h1, h2, h3, h4, h5, h6⟩ := hF
  obtain ⟨q, -, hq⟩ := jw_at g M hn
  rw [jw_cel0 h2] at hq
  subst hv
  exact va_get hx hb hts (fun w hw => List.mem_cons_of_mem _ (h5 w hw)) hown hK.1 hP q hq h1 j h4 (jw_in hts h6 rfl) (fun _ h9 => h9) (by rw [List.getElem?_map, List.getElem?_range (by rw [h3]; exact h4)]; rfl) hd (h l g p e s m args below meth c C H locs ls hP hS hlv)
def jw_FP (own : String) (idx k j : Nat) : Prop := jw_F own idx k j ∧ ∃ (C : String) (T : u_T) (N : Nat) (ty0 : Nat → FieldType) (ty : FieldType), vwCl[k]? = some (C, T, N) ∧ (∀ k, k < N → parseFieldDescriptor (T k).2.2.1 = some (ty0 k)) ∧ (∀ a, a < N → ∀ b, b < N → a ≠ b → (T a).2.1 ≠ (T b).2.1) ∧ (T j).2.2.2 = false ∧ parseFieldDescriptor (T j).2.2.1 = some ty ∧ (ty = .int ∨ ty = .boolean) ∧ ∀ n, jw_sh k n j = none
def jw_FI (k j : Nat) : Prop := ∃ (C : String) (T : u_T) (N : Nat), vwCl[k]? = some (C, T, N) ∧ parseFieldDescriptor (T j).2.2.1 = some .int
theorem jw_cel_upf {g : jw_G} {k n j : Nat} {v : Int32} (ht : jw_tag k = 0) (hs : jw_sh k n j = none) (hj : j < jw_nfl k) : jw_cel g (jw_up M k n j v) k n = .inr (k, ((List.range (jw_nfl k)).map (fun j => jw_rv g (jw_fv M k n j))).set j (.int v)) := by
  rw [jw_cel0 ht]
  refine congrArg (fun z => Sum.inr (k, z)) (List.ext_getElem? fun i => ?_)
  rw [List.getElem?_set, List.getElem?_map, List.getElem?_map]
  by_cases hi : j = i
  · subst hi
    rw [if_pos rfl, if_pos (by rw [List.length_map, List.length_range]; exact hj), List.getElem?_range hj]
    show some (jw_rv g (jw_fv (jw_up M k n j v) k n j)) = _
    unfold jw_fv
    rw [hs]
    show some (Value.int (jw_up M k n j v k n j)) = _
    unfold jw_up
    rw [if_pos ⟨rfl, rfl, rfl⟩]
  · rw [if_neg hi]
    cases hc : (List.range (jw_nfl k))[i]? with
    | none => rfl
    | some i' =>
      have : i' = i := by
        obtain ⟨h1, h2⟩ := List.getElem?_eq_some_iff.mp hc
        rw [List.getElem_range] at h2
        exact h2.symm
      subst this
      show some (jw_rv g (jw_fv (jw_up M k n j v) k n i')) = some (jw_rv g (jw_fv M k n i'))
      unfold jw_fv
      cases jw_sh k n i' with
      | none =>
        show some (Value.int (jw_up M k n j v k n i')) = some (Value.int (M k n i'))
        unfold jw_up
        rw [if_neg]
        rintro ⟨-, -, e⟩
        exact hi e.symm
      | some q => rfl
theorem jr_put {k n j idx : Nat} {v : Int32} (hF : jw_FP mt.1.cls idx k j) (hn : n < jw_cnt k) (hv : jw_FI k j ∨ v = 0 ∨ v = 1) (hd : decode mt.2.1 pc = .ok (.putfield idx, 3)) (h : jw_J d mt (pc + 3) lv st (jw_up M k n j v) Q) : jw_J d mt pc lv (vi v :: vr k n :: st) M Q := by
  intro l g p e s m args below meth c C H locs ls hP hS hlv
  obtain ⟨hI, hx, hb, hml, hr, hlocks, hown, hts, hK⟩ := id C
  obtain ⟨⟨C0, T, N, h1, h2, h3, h4, h5, h6⟩, C1, T1, N1, ty0, ty, g1, g2, g3, g4, g5, g6, g7⟩ := hF
  cases (Option.some.inj (h1.symm.trans g1))
  obtain ⟨q, hq0, hq⟩ := jw_at g M hn
  rw [jw_cel0 h2] at hq
  have hnar : narrow ty (.int v) = .int v ∧ fits ty (.int v) = true := by
    rcases g6 with rfl | rfl
    · exact ⟨rfl, rfl⟩
    · rcases hv with ⟨C2, T2, N2, e1, e2⟩ | rfl | rfl
      · cases (Option.some.inj (h1.symm.trans e1))
        rw [g5] at e2
        cases e2
      · exact ⟨by decide +kernel, by decide +kernel⟩
      · exact ⟨by decide +kernel, by decide +kernel⟩
  refine va_put (v := .int v) hx hb hts (fun w hw => List.mem_cons_of_mem _ (h5 w hw)) ty0 g2 g3 hown hK.1 hP (jw_D hI M) hS q hq h1 j h4 (jw_in hts h6 rfl) (fun _ h9 => h9) g4 g5 hnar.1 hnar.2 (by rw [List.length_map, List.length_range, h3]; exact h4) hd (fun H1 locs1 hP1 _ hS1 => ?_)
  rw [jw_set hq0 (jw_cel_upf (v := v) h2 (g7 n) (by rw [h3]; exact h4)) jw_up_other] at hP1
  exact h l g p e s m args below meth c C H1 locs1 ls hP1 hS1 hlv
/-! arrays -/
theorem jw_cel1 {g : jw_G} {k : Nat} (ht : jw_tag k = 1) (M : jw_Mem) (n : Nat) : jw_cel g M k n = .inl (g.2.2.1 0, jw_len k, .inl (M k n)) := by unfold jw_cel; rw [ht]; rfl
theorem jw_cel2 {g : jw_G} {k : Nat} (ht : jw_tag k = 2) (M : jw_Mem) (n : Nat) : jw_cel g M k n = .inl (g.2.2.1 1, jw_len k, .inl (M k n)) := by unfold jw_cel; rw [ht]; rfl
theorem jw_up_row (M : jw_Mem) (k n j : Nat) (v : Int32) : jw_up M k n j v k n = upd (M k n) j v := by
  funext i
  unfold jw_up upd
  by_cases h : i = j
  · simp [h]
  · simp [h]
/-- a valid int array -/
def jw_a (k n : Nat) : Prop := jw_tag k = 1 ∧ n < jw_cnt k
def jw_b (k n : Nat) : Prop := jw_tag k = 2 ∧ n < jw_cnt k
theorem jr_iald {k n : Nat} {i : Int32} (ha : jw_a k n) (hin : vp_in i (jw_len k)) (hd : decode mt.2.1 pc = .ok (.iaload, 1)) (h : jw_J d mt (pc + 1) lv (vi (M k n i.toNatClampNeg) :: st) M Q) : jw_J d mt pc lv (vi i :: vr k n :: st) M Q := by
  intro l g p e s m args below meth c C H locs ls hP hS hlv
  obtain ⟨hI, hx, hb, hml, hr, hlocks, hown, hts, hK⟩ := id C
  obtain ⟨q, -, hq⟩ := jw_at g M ha.2
  rw [jw_cel1 ha.1] at hq
  exact va_iald hx hb hK.1 hP q 0 hq rfl hin hd (h l g p e s m args below meth c C H locs ls hP hS hlv)
theorem jr_iast {k n : Nat} {i x : Int32} (ha : jw_a k n) (hin : vp_in i (jw_len k)) (hd : decode mt.2.1 pc = .ok (.iastore, 1)) (h : jw_J d mt (pc + 1) lv st (jw_up M k n i.toNatClampNeg x) Q) : jw_J d mt pc lv (vi x :: vi i :: vr k n :: st) M Q := by
  intro l g p e s m args below meth c C H locs ls hP hS hlv
  obtain ⟨hI, hx, hb, hml, hr, hlocks, hown, hts, hK⟩ := id C
  obtain ⟨q, hq0, hq⟩ := jw_at g M ha.2
  rw [jw_cel1 ha.1] at hq
  refine va_iast hx hb hK.1 hP (jw_D hI M) hS q 0 hq rfl hin hd (fun H1 locs1 hP1 _ hS1 => ?_)
  rw [jw_set (M2 := jw_up M k n i.toNatClampNeg x) hq0 (by rw [jw_cel1 ha.1, jw_up_row]) jw_up_other] at hP1
  exact h l g p e s m args below meth c C H1 locs1 ls hP1 hS1 hlv
theorem jr_zald {k n : Nat} {i : Int32} (ha : jw_b k n) (hin : vp_in i (jw_len k)) (hd : decode mt.2.1 pc = .ok (.baload, 1)) (h : jw_J d mt (pc + 1) lv (vi (M k n i.toNatClampNeg) :: st) M Q) : jw_J d mt pc lv (vi i :: vr k n :: st) M Q := by
  intro l g p e s m args below meth c C H locs ls hP hS hlv
  obtain ⟨hI, hx, hb, hml, hr, hlocks, hown, hts, hK⟩ := id C
  obtain ⟨q, -, hq⟩ := jw_at g M ha.2
  rw [jw_cel2 ha.1] at hq
  exact va_zald hx hb hK.1 hP q 1 hq rfl hin hd (h l g p e s m args below meth c C H locs ls hP hS hlv)
theorem jr_zast {k n : Nat} {i x : Int32} (ha : jw_b k n) (hin : vp_in i (jw_len k)) (hd : decode mt.2.1 pc = .ok (.bastore, 1)) (h : jw_J d mt (pc + 1) lv st (jw_up M k n i.toNatClampNeg (vp_nar .boolean x)) Q) : jw_J d mt pc lv (vi x :: vi i :: vr k n :: st) M Q := by
  intro l g p e s m args below meth c C H locs ls hP hS hlv
  obtain ⟨hI, hx, hb, hml, hr, hlocks, hown, hts, hK⟩ := id C
  obtain ⟨q, hq0, hq⟩ := jw_at g M ha.2
  rw [jw_cel2 ha.1] at hq
  refine va_zast hx hb hK.1 hP (jw_D hI M) hS q 1 hq rfl hin hd (fun H1 locs1 hP1 _ hS1 => ?_)
  rw [jw_set (M2 := jw_up M k n i.toNatClampNeg (vp_nar .boolean x)) hq0 (by rw [jw_cel2 ha.1, jw_up_row]) jw_up_other] at hP1
  exact h l g p e s m args below meth c C H1 locs1 ls hP1 hS1 hlv
theorem jr_ring {n : Nat} {i : Int32} (hn : n < jw_cnt 21) (hin : vp_in i 16) (hd : decode mt.2.1 pc = .ok (.aaload, 1)) (h : jw_J d mt (pc + 1) lv (vr 8 (2 + i.toNatClampNeg) :: st) M Q) : jw_J d mt pc lv (vi i :: vr 21 n :: st) M Q := by
  intro l g p e s m args below meth c C H locs ls hP hS hlv
  obtain ⟨hI, hx, hb, hml, hr, hlocks, hown, hts, hK⟩ := id C
  obtain ⟨q, -, hq⟩ := jw_at g M hn
  exact va_aldq hx hb hK.1 hP q 3 hq rfl hin hd (h l g p e s m args below meth c C H locs ls hP hS hlv)
theorem jr_imgs {n : Nat} {i : Int32} (hn : n < jw_cnt 35) (hin : vp_in i 2) (hd : decode mt.2.1 pc = .ok (.aaload, 1)) (h : jw_J d mt (pc + 1) lv (vr 4 i.toNatClampNeg :: st) M Q) : jw_J d mt pc lv (vi i :: vr 35 n :: st) M Q := by
  intro l g p e s m args below meth c C H locs ls hP hS hlv
  obtain ⟨hI, hx, hb, hml, hr, hlocks, hown, hts, hK⟩ := id C
  obtain ⟨q, -, hq⟩ := jw_at g M hn
  exact va_aldq hx hb hK.1 hP q 4 hq rfl hin hd (h l g p e s m args below meth c C H locs ls hP hS hlv)
theorem jr_wrth {n : Nat} {i : Int32} (hn : n < jw_cnt 22) (hin : vp_in i 7) (hd : decode mt.2.1 pc = .ok (.aaload, 1)) (h : jw_J d mt (pc + 1) lv (vr 24 i.toNatClampNeg :: st) M Q) : jw_J d mt pc lv (vi i :: vr 22 n :: st) M Q := by
  intro l g p e s m args below meth c C H locs ls hP hS hlv
  obtain ⟨hI, hx, hb, hml, hr, hlocks, hown, hts, hK⟩ := id C
  obtain ⟨q, -, hq⟩ := jw_at g M hn
  have ha : (jw_ws g M)[q]? = some (g.2.1 22 n, .inl (g.2.2.1 2, 7, .inr (.inr (.inr (.inr (fun i => some (g.2.1 24 i))))))) := hq
  have hlt : i.toNatClampNeg < 7 := Nat.not_le.mp fun q => hin (Or.inr q)
  exact W.aald (v := va_rf (some (g.2.1 24 i.toNatClampNeg))) (ty := .array .int) hx hb (hP q _ ha) ((hK.1.2 2 _ rfl).1 7 (fun j => va_rf (some (g.2.1 24 j)))) rfl (fun q => by cases q) (by show ¬ (i < 0 ∨ (arrV _ _ _).slots.size ≤ _); rw [arrV_size]; exact hin) (by show (arrV _ _ _).slots[_]? = _; rw [arrV_read _ _ hlt]) rfl rfl hd (h l g p e s m args below meth c C H locs ls hP hS hlv)
theorem jr_alen {k n : Nat} (ht : 1 ≤ jw_tag k ∧ jw_tag k ≤ 5) (hn : n < jw_cnt k) (hd : decode mt.2.1 pc = .ok (.arraylength, 1)) (h : jw_J d mt (pc + 1) lv (vi (nI (jw_len k)) :: st) M Q) : jw_J d mt pc lv (vr k n :: st) M Q := by
  intro l g p e s m args below meth c C H locs ls hP hS hlv
  obtain ⟨hI, hx, hb, hml, hr, hlocks, hown, hts, hK⟩ := id C
  obtain ⟨q, -, hq⟩ := jw_at g M hn
  have hc : ∃ (t : Nat) (x : vp_A) (ty : FieldType), jw_cel g M k n = .inl (g.2.2.1 t, x) ∧ x.1 = jw_len k ∧ (jw_tys g)[t]? = some (g.2.2.1 t, ty) := by
    have h5 : jw_tag k = 1 ∨ jw_tag k = 2 ∨ jw_tag k = 3 ∨ jw_tag k = 4 ∨ jw_tag k = 5 := by omega
    unfold jw_cel
    rcases h5 with e | e | e | e | e <;> rw [e]
    · exact ⟨0, _, .int, rfl, rfl, rfl⟩
    · exact ⟨1, _, .boolean, rfl, rfl, rfl⟩
    · exact ⟨2, _, .array .int, rfl, rfl, rfl⟩
    · exact ⟨3, _, .object "StatueVotes$State", rfl, rfl, rfl⟩
    · exact ⟨4, _, .object "StatueVotes$Image", rfl, rfl, rfl⟩
  obtain ⟨t, x, ty, e1, e2, e3⟩ := hc
  rw [e1] at hq
  exact va_alen hx hb hK.1 hP q t hq e3 (by rw [e2]; rfl) hd (h l g p e s m args below meth c C H locs ls hP hS hlv)
/-! the static ORDERS: the reference vr 62 0 -/
theorem jr_ords {idx : Nat} (hown0 : mt.1.cls = RX6) (hw : Cond.fieldLink RX6 idx "StatueVotes$Polls" "ORDERS" "[I" ∈ lw_tbl) (hd : decode mt.2.1 pc = .ok (.getstatic idx, 3)) (hd2 : decode mt.2.1 (pc + 3) = .ok (.arraylength, 1)) (h : jw_J d mt (pc + 4) lv (vi 8 :: st) M Q) : jw_J d mt pc lv st M Q := by
  intro l g p e s m args below meth c C H locs ls hP hS hlv
  obtain ⟨hI, hx, hb, hml, hr, hlocks, hown, hts, hK⟩ := id C
  rw [hown0] at hown
  refine va_gets hx hb hK.2.2.1 hS hown (jw_in hts hw rfl) (fun _ h9 => h9) hd ?_
  obtain ⟨cell, t1, t2, t3, t4, t5, t6, t7⟩ := hK.2.2.2
  exact W.alen (n := 8) hx hb (by rw [hS.2.1 _ (Array.getElem?_eq_some_iff.mp t1).1 t7]; exact t1) t2 t5 rfl rfl hd2 (h l g p e s m args below meth c C H locs ls hP hS hlv)
/-- ORDERS[i], i a local -/
theorem jr_ordi {idx i0 q : Nat} {k : Fin 4} {i : Int32} (hown0 : mt.1.cls = RX6) (hw : Cond.fieldLink RX6 idx "StatueVotes$Polls" "ORDERS" "[I" ∈ lw_tbl) (hd : decode mt.2.1 pc = .ok (.getstatic idx, 3)) (hd1 : decode mt.2.1 (pc + 3) = .ok (.iload_n k, 1)) (hi : (k : Nat) = i0) (hq : lv[q]? = some (i0, vi i)) (hin : vp_in i 8) (hd2 : decode mt.2.1 (pc + 4) = .ok (.iaload, 1)) (h : jw_J d mt (pc + 5) lv (vi (jw_ord i.toNatClampNeg) :: st) M Q) : jw_J d mt pc lv st M Q := by
  intro l g p e s m args below meth c C H locs ls hP hS hlv
  obtain ⟨hI, hx, hb, hml, hr, hlocks, hown, hts, hK⟩ := id C
  rw [hown0] at hown
  refine va_gets hx hb hK.2.2.1 hS hown (jw_in hts hw rfl) (fun _ h9 => h9) hd ?_
  refine lv_iload_n hx hb hd1 hi (jw_lvat hlv q hq) ?_
  exact va_ti hx hb hK.2.2.2 hS hin rfl hd2 (h l g p e s m args below meth c C H locs ls hP hS hlv)
/-! the JDK's own -/
theorem jr_mmax {idx : Nat} {x y : Int32} (hw : Cond.methodLink mt.1.cls idx Lib.Math.max.name ∈ lw_tbl) (hcat : (st.map fun v => (match v with | .inr (.inl _) => 2 | _ => 1)).sum ≤ 8) (h1d : 1 ≤ d) (hd : decode mt.2.1 pc = .ok (.invokestatic idx, 3)) (h : jw_J d mt (pc + 3) lv (vi (if x < y then y else x) :: st) M Q) : jw_J d mt pc lv (vi y :: vi x :: st) M Q := by
  intro l g p e s m args below meth c C H locs ls hP hS hlv
  obtain ⟨hI, hx, hb, hml, hr, hlocks, hown, hts, hK⟩ := id C
  have ec : ((st.map (jw_rv g)).map fun v => v.category) = (st.map fun v => (match v with | .inr (.inl _) => 2 | _ => 1)) := by
    rw [List.map_map]
    refine List.map_congr_left fun v _ => ?_
    rcases v with x | x | ⟨k, n⟩ <;> rfl
  exact va_mmax hx hb (by rw [hml, hlv.1]) hown (jw_in hts hw rfl) (jw_in hts (by decide +kernel) rfl) (jw_in hts (by decide +kernel) rfl) (jw_in hts (by decide +kernel) rfl) (by show 1 ≤ d; exact h1d) (by rw [ec]; show _ + 13 ≤ 29 * d; omega) (Nat.le_refl _) (Nat.le_refl _) hd (h l g p e s m args below meth c C H locs ls hP hS hlv)
theorem jr_mmin {idx : Nat} {x y : Int32} (hw : Cond.methodLink mt.1.cls idx Lib.Math.min.name ∈ lw_tbl) (hcat : (st.map fun v => (match v with | .inr (.inl _) => 2 | _ => 1)).sum ≤ 8) (h1d : 1 ≤ d) (hd : decode mt.2.1 pc = .ok (.invokestatic idx, 3)) (h : jw_J d mt (pc + 3) lv (vi (if y < x then y else x) :: st) M Q) : jw_J d mt pc lv (vi y :: vi x :: st) M Q := by
  intro l g p e s m args below meth c C H locs ls hP hS hlv
  obtain ⟨hI, hx, hb, hml, hr, hlocks, hown, hts, hK⟩ := id C
  have ec : ((st.map (jw_rv g)).map fun v => v.category) = (st.map fun v => (match v with | .inr (.inl _) => 2 | _ => 1)) := by
    rw [List.map_map]
    refine List.map_congr_left fun v _ => ?_
    rcases v with x | x | ⟨k, n⟩ <;> rfl
  exact va_mmin hx hb (by rw [hml, hlv.1]) hown (jw_in hts hw rfl) (jw_in hts (by decide +kernel) rfl) (jw_in hts (by decide +kernel) rfl) (jw_in hts (by decide +kernel) rfl) (by show 1 ≤ d; exact h1d) (by rw [ec]; show _ + 13 ≤ 29 * d; omega) (Nat.le_refl _) (Nat.le_refl _) hd (h l g p e s m args below meth c C H locs ls hP hS hlv)
theorem jr_copy {idx k0 n0 k1 n1 : Nat} {n : Int32} (ha0 : jw_a k0 n0) (ha1 : jw_a k1 n1) (hw : Cond.methodLink mt.1.cls idx arraycopyName ∈ lw_tbl) (hn : ¬ n < 0) (h4 : n.toNatClampNeg ≤ jw_len k0) (h5 : n.toNatClampNeg ≤ jw_len k1) (h1d : 1 ≤ d) (hd : decode mt.2.1 pc = .ok (.invokestatic idx, 3)) (h : jw_J d mt (pc + 3) lv [] (jw_row M k1 n1 (va_cpy (M k0 n0) (M k1 n1) 0 0 n.toNatClampNeg)) Q) : jw_J d mt pc lv [vi n, vi 0, vr k1 n1, vi 0, vr k0 n0] M Q := by
  intro l g p e s m args below meth c C H locs ls hP hS hlv
  obtain ⟨hI, hx, hb, hml, hr, hlocks, hown, hts, hK⟩ := id C
  obtain ⟨q0, hq00, hq0⟩ := jw_at g M ha0.2
  rw [jw_cel1 ha0.1] at hq0
  obtain ⟨q1, hq10, hq1⟩ := jw_at g M ha1.2
  rw [jw_cel1 ha1.1] at hq1
  have z : (0 : Int32).toNatClampNeg = 0 := by decide
  have hnw : nativeFrameWords "java/lang/System" "arraycopy" 5 ≤ 18 := by decide +kernel
  have hfr : 1 ≤ (jw_R d).frames := h1d
  have hlo : (([] : List Value).map fun v => v.category).sum + (nativeFrameWords "java/lang/System" "arraycopy" 5 + 11) ≤ (jw_R d).locals := by
    show 0 + (nativeFrameWords "java/lang/System" "arraycopy" 5 + 11) ≤ 29 * d
    omega
  have n0' : ¬ (0 : Int32) < 0 := by decide
  refine va_copyi (R := jw_R d) (rest := []) (ty := .int) (sp := 0) (dp := 0) (n := n) hx hb (by rw [hml, hlv.1]) hown (jw_in hts hw rfl) (jw_in hts (by decide +kernel) rfl) (jw_in hts (by decide +kernel) rfl) (jw_in hts (by decide +kernel) rfl) hK.1 hP (jw_D hI M) hS q0 q1 0 0 hq0 hq1 rfl rfl rfl n0' n0' hn (by rw [z]; omega) (by rw [z]; omega) (fun _ _ => rfl) hfr hlo hd (fun H1 locs1 hP1 _ hS1 => ?_)
  rw [z] at hP1
  rw [jw_set (M2 := jw_row M k1 n1 (va_cpy (M k0 n0) (M k1 n1) 0 0 n.toNatClampNeg)) hq10 (by rw [jw_cel1 ha1.1]; unfold jw_row; simp) jw_row_other] at hP1
  exact h l g p e s m args below meth c C H1 locs1 ls hP1 hS1 hlv
/-! returns -/
theorem jr_iret {x : Int32} (hr0 : mt.2.2.2 = some .int) (hd : decode mt.2.1 pc = .ok (.ireturn, 1)) (h : Q x M) : jw_J d mt pc lv [vi x] M Q := by
  intro l g p e s m args below meth c C H locs ls hP hS hlv
  obtain ⟨hI, hx, hb, hml, hr, hlocks, hown, hts, hK⟩ := id C
  rw [hr0] at hr
  exact W.iret (v := x) hx hb hr (fun t ht hW => ⟨⟨x, M, by rw [hr0]; rfl, h, by rw [ht]; exact hP⟩, hS.F ht⟩) hS.2.2 hd hlocks
theorem jr_zret {x : Int32} (hr0 : mt.2.2.2 = some .boolean) (hd : decode mt.2.1 pc = .ok (.ireturn, 1)) (hz : x = 0 ∨ x = 1) (h : Q x M) : jw_J d mt pc lv [vi x] M Q := by
  intro l g p e s m args below meth c C H locs ls hP hS hlv
  obtain ⟨hI, hx, hb, hml, hr, hlocks, hown, hts, hK⟩ := id C
  rw [hr0] at hr
  exact W.zret (v := x) (ty := .boolean) hx hb hr (by rcases hz with rfl | rfl <;> decide +kernel) (fun t ht hW => ⟨⟨x, M, by rw [hr0]; rfl, h, by rw [ht]; exact hP⟩, hS.F ht⟩) hS.2.2 hd hlocks
theorem jr_vret (hr0 : mt.2.2.2 = none) (hd : decode mt.2.1 pc = .ok (.return_, 1)) (h : Q 0 M) : jw_J d mt pc lv [] M Q := by
  intro l g p e s m args below meth c C H locs ls hP hS hlv
  obtain ⟨hI, hx, hb, hml, hr, hlocks, hown, hts, hK⟩ := id C
  rw [hr0] at hr
  exact W.vret hx hb hr (fun t ht hW => ⟨⟨0, M, by rw [hr0]; rfl, h, by rw [ht]; exact hP⟩, hS.F ht⟩) hS.2.2 hd hlocks
/-! entry and calls -/
def jw_args : Nat → List jw_V → List (Nat × jw_V)
  | _, [] => []
  | i, v :: vs => (i, v) :: jw_args (match v with | .inr (.inl _) => i + 2 | _ => i + 1) vs
def jw_words1 (vs : List jw_V) : Nat := (vs.map fun v => (match v with | .inr (.inl _) => 2 | _ => 1)).sum
theorem jw_args_rv (g : jw_G) : ∀ (vs : List jw_V) (i : Nat), lv_args i (vs.map (jw_rv g)) = jw_lv g (jw_args i vs)
  | [], _ => rfl
  | v :: vs, i => by
    rcases v with x | x | ⟨k, n⟩
    · exact congrArg (List.cons (i, Value.int x)) (jw_args_rv g vs (i + 1))
    · exact congrArg (List.cons (i, Value.long x)) (jw_args_rv g vs (i + 2))
    · exact congrArg (List.cons (i, Value.ref (g.2.1 k n))) (jw_args_rv g vs (i + 1))
theorem jw_sl_len (g : jw_G) : ∀ (vs : List jw_V), (lg_sl (vs.map (jw_rv g))).length = jw_words1 vs
  | [] => rfl
  | v :: vs => by
    have ih := jw_sl_len g vs
    unfold lg_sl jw_words1 at ih ⊢
    rw [List.map_cons, List.flatMap_cons, List.length_append, ih, List.map_cons, List.sum_cons]
    congr 1
    rcases v with x | x | ⟨k, n⟩ <;> rfl
theorem jw_M.of {as : List jw_V} (hy : plainName mt.1.cls = true) (hn : jw_words1 as ≤ mt.2.2.1) (h : jw_J d mt 0 (jw_args 0 as) [] M Q) : jw_M d mt as M Q := by
  intro l g hI
  refine Met.ofW (cc := mt.2.1) (maxL := mt.2.2.1) (ret := mt.2.2.2) hy rfl ?_
  intro p e s m args below meth c s₁ B hml hv
  obtain ⟨rfl, hP, hK⟩ := hv
  rw [lg_entry_eq]
  refine h l g p e s m _ below meth c ⟨hI, B.exec, B.bytes, hml, B.returns, B.notSynchronized, findClass_of_methodNamed B.named, atoms_spec B.pre, hK⟩ s.heap [] _ hP va_S.rf ?_
  rw [← jw_args_rv]
  exact lv_entry _ (by rw [jw_sl_len]; exact hn)
theorem jw_M.mono {as : List jw_V} {Q2 : Int32 → jw_Mem → Prop} (h : jw_M d mt as M Q) (hq : ∀ x M, Q x M → Q2 x M) : jw_M d mt as M Q2 := by
  intro l g hI p e ha hc hk s m args below hf happ hP hK
  obtain ⟨k, o, h1, h2, h3, ⟨⟨⟨x, M2, e1, e2, e3⟩, e4⟩, e5⟩⟩ := h l g hI p e ha hc hk s m args below hf happ hP hK
  exact ⟨k, o, h1, h2, h3, ⟨⟨⟨x, M2, e1, hq _ _ e2, e3⟩, e4⟩, e5⟩⟩
def jw_push (ret : Option FieldType) (x : Int32) (st : List jw_V) : List jw_V := match ret with
  | none => st
  | some _ => vi x :: st
/-- behind a call: any contract of ours -/
theorem jw_back {g : jw_G} {l : Launch} {p : Program} {e : Env} {s : State} {m : MethodId} {args : Array Value} {below : List Frame} {meth : Method} {c : Code} {H : Heap} {locs : List Loc} {ls : Array Slot} {ret : Option FieldType} {Qm : Int32 → jw_Mem → Prop} {a : Array Value} {st0 : List Value}
    (hr : va_Run p l e (jw_R d) s m args below meth c H locs 0 0 0 0 (F0 m pc ls st0) (st.map (jw_rv g)) (jw_Q g ret Qm a) (jw_A g)) (hS : va_S (jw_A g) s.heap H locs) {Z : State → Prop}
    (kk : ∀ (x : Int32) (M : jw_Mem) (H1 : Heap) (locs1 : List Loc), Qm x M → va_P g.1 vwCl (jw_ws g M) H1 → va_S (jw_A g) s.heap H1 locs1 → W p l e (jw_R d) s m args below meth c H1 locs1 0 0 Z (F0 m (pc + 3) ls ((jw_push ret x st).map (jw_rv g)))) : W p l e (jw_R d) s m args below meth c H locs 0 0 Z (F0 m pc ls st0) := by
  intro T hT X
  obtain ⟨v, st₀, t, T', L, h0, X', hL, e1, e2, ⟨⟨x, M2, hv, hq, hP⟩, hz, hk⟩, stp⟩ := hr T hT X
  rw [h0] at hz hk
  have hv : v = ret.map (fun _ => Value.int x) := by cases hv; rfl
  subst hv
  obtain ⟨t2, a1, b1⟩ := kk x M2 T'.heap (locs ++ L) hq (by rw [e1]; exact hP)
    ⟨Nat.le_trans hS.1 (by rw [e1]; exact hz), fun q h1 h2 => by rw [e1, hk q (Nat.lt_of_lt_of_le h1 hS.1) h2]; exact hS.2.1 q h1 h2, fun q hq => by
      rcases List.mem_append.mp hq with h | h
      · exact hS.2.2 q h
      · exact hL q h⟩ T' rfl X'
  refine ⟨t2, stp t2 ?_, b1⟩
  cases ret with
  | none => exact a1
  | some ty => exact a1
/-- the table's words on a call -/
def jw_CB (mt' : jw_Mt) (n : Nat) : Prop := Cond.code mt'.1 mt'.2.1 mt'.2.2.1 mt'.2.2.2 ∈ jw_words ∧ Cond.initialized mt'.1.cls ∈ lw_tbl ∧ (mt'.1.cls ≠ "java/lang/invoke/MethodHandle" ∧ mt'.1.cls ≠ "java/lang/invoke/VarHandle" ∧ (parseMethodDescriptor mt'.1.desc).map (fun d => d.parameters.length) = some n) ∧ mt'.2.2.1 ≤ 10
def jw_CV (own : String) (idx : Nat) (mt' : jw_Mt) (k n : Nat) : Prop := jw_CB mt' n ∧ Cond.methodLink own idx mt'.1 ∈ lw_tbl ∧ Cond.instanceMethod mt'.1 ∈ lw_tbl ∧ Cond.selects mt'.1.cls mt'.1 mt'.1 ∈ lw_tbl ∧ jw_tag k = 0 ∧ ∃ (T : u_T) (N : Nat), vwCl[k]? = some (mt'.1.cls, T, N)
def jw_CS (own : String) (idx : Nat) (mt' : jw_Mt) (n : Nat) : Prop := jw_CB mt' n ∧ Cond.methodLink own idx mt'.1 ∈ lw_tbl ∧ Cond.static mt'.1 ∈ lw_tbl
def jw_CN (own : String) (idx : Nat) (mt' : jw_Mt) (n : Nat) : Prop := jw_CB mt' n ∧ Cond.methodLinkNest own idx mt'.1 RX10 ∈ jw_nest ∧ Cond.static mt'.1 ∈ lw_tbl
theorem jw_goodIn {mt' : jw_Mt} {c0 : Cond} (h : Cond.code mt'.1 mt'.2.1 mt'.2.2.1 mt'.2.2.2 ∈ jw_words) : GoodIn (c0 :: jw_words) (.code mt'.1 mt'.2.1 mt'.2.2.1 mt'.2.2.2 :: jw_words) := by
  intro w hw
  have hw2 : w ∈ jw_words := by
    rcases List.mem_cons.mp hw with rfl | h2
    · exact h
    · exact h2
  exact ⟨List.mem_cons_of_mem _ hw2, good_of_word (List.mem_filter.mp hw2).2⟩
theorem jw_stcat (g : jw_G) (st : List jw_V) : ((st.map (jw_rv g)).map fun v => v.category) = (st.map fun v => (match v with | .inr (.inl _) => 2 | _ => 1)) := by
  rw [List.map_map]
  refine List.map_congr_left fun v _ => ?_
  rcases v with x | x | ⟨k, n⟩ <;> rfl
theorem jr_callV {d' idx k n : Nat} {mt' : jw_Mt} {As st0 : List jw_V} (hc : jw_CV mt.1.cls idx mt' k As.length) (hd' : d' + 1 ≤ d) (hn : n < jw_cnt k) (hcat : (st.map fun v => (match v with | .inr (.inl _) => 2 | _ => 1)).sum ≤ 8) (hst : st0 = As.reverse ++ vr k n :: st) (hd : decode mt.2.1 pc = .ok (.invokevirtual idx, 3))
    (h : jw_M d' mt' (vr k n :: As) M (fun x M2 => jw_J d mt (pc + 3) lv (jw_push mt'.2.2.2 x st) M2 Q)) : jw_J d mt pc lv st0 M Q := by
  intro l g p e s m args below meth c C H locs ls hP hS hlv
  obtain ⟨hI, hx, hb, hml, hr, hlocks, hown, hts, hK⟩ := id C
  obtain ⟨⟨hcode, hini, hdd, hle⟩, hlink, hinst, hsel, htag, T, N, hcl⟩ := hc
  obtain ⟨q, -, hq⟩ := jw_at g M hn
  rw [jw_cel0 htag] at hq
  have hM := h l g hI
  subst hst
  refine jw_back (va_runV (As := As.map (jw_rv g)) (rest := st.map (jw_rv g)) (C := mt'.1.cls) ⟨hx, hb, hml, hown, hts⟩ hM ⟨callB_of As.length hts (jw_goodIn hcode) rfl rfl rfl (jw_in hts hini rfl) (jw_in hts hlink rfl) hdd ⟨hd', by show 8 + (mt'.2.2.1 + 11) + 29 * d' ≤ 29 * d; omega⟩, jw_in hts hinst rfl, jw_in hts hsel rfl⟩ ⟨fun a U G mk hu => ⟨hu.1, hu.2.1, hu.2.2.blind G mk a⟩, va_recv hK.1 hP hcl hq, fun U hU hW => ⟨rfl, by rw [hU]; exact hP, hK.go hS hU hW⟩⟩ rfl (by rw [List.length_map]) hlv.1 (by show (List.map (jw_rv g) _) = _; rw [List.map_append, List.map_reverse]; rfl) (lv_room (by rw [jw_stcat]; exact hcat)) hd ⟨Nat.le_refl _, Nat.le_refl _⟩) hS (fun x M2 H1 locs1 hq2 hP1 hS1 => hq2 l g p e s m args below meth c C H1 locs1 ls hP1 hS1 hlv)
theorem jr_callS {d' idx : Nat} {mt' : jw_Mt} {As st0 : List jw_V} (hc : jw_CS mt.1.cls idx mt' As.length) (hd' : d' + 1 ≤ d) (hcat : (st.map fun v => (match v with | .inr (.inl _) => 2 | _ => 1)).sum ≤ 8) (hst : st0 = As.reverse ++ st) (hd : decode mt.2.1 pc = .ok (.invokestatic idx, 3))
    (h : jw_M d' mt' As M (fun x M2 => jw_J d mt (pc + 3) lv (jw_push mt'.2.2.2 x st) M2 Q)) : jw_J d mt pc lv st0 M Q := by
  intro l g p e s m args below meth c C H locs ls hP hS hlv
  obtain ⟨hI, hx, hb, hml, hr, hlocks, hown, hts, hK⟩ := id C
  obtain ⟨⟨hcode, hini, hdd, hle⟩, hlink, hstat⟩ := hc
  have hM := h l g hI
  subst hst
  refine jw_back (va_runS (As := As.map (jw_rv g)) (rest := st.map (jw_rv g)) ⟨hx, hb, hml, hown, hts⟩ hM ⟨callB_of As.length hts (jw_goodIn hcode) rfl rfl rfl (jw_in hts hini rfl) (jw_in hts hlink rfl) hdd ⟨hd', by show 8 + (mt'.2.2.1 + 11) + 29 * d' ≤ 29 * d; omega⟩, jw_in hts hstat rfl⟩ ⟨fun a U G mk hu => ⟨hu.1, hu.2.1, hu.2.2.blind G mk a⟩, fun U hU hW => ⟨rfl, by rw [hU]; exact hP, hK.go hS hU hW⟩⟩ rfl (by rw [List.length_map]) hlv.1 (by show (List.map (jw_rv g) _) = _; rw [List.map_append, List.map_reverse]) (lv_room (by rw [jw_stcat]; exact hcat)) hd ⟨Nat.le_refl _, Nat.le_refl _⟩) hS (fun x M2 H1 locs1 hq2 hP1 hS1 => hq2 l g p e s m args below meth c C H1 locs1 ls hP1 hS1 hlv)
theorem jr_callN {d' idx : Nat} {mt' : jw_Mt} {As st0 : List jw_V} (hc : jw_CN mt.1.cls idx mt' As.length) (hd' : d' + 1 ≤ d) (hcat : (st.map fun v => (match v with | .inr (.inl _) => 2 | _ => 1)).sum ≤ 8) (hst : st0 = As.reverse ++ st) (hd : decode mt.2.1 pc = .ok (.invokestatic idx, 3))
    (h : jw_M d' mt' As M (fun x M2 => jw_J d mt (pc + 3) lv (jw_push mt'.2.2.2 x st) M2 Q)) : jw_J d mt pc lv st0 M Q := by
  intro l g p e s m args below meth c C H locs ls hP hS hlv
  obtain ⟨hI, hx, hb, hml, hr, hlocks, hown, hts, hK⟩ := id C
  obtain ⟨⟨hcode, hini, hdd, hle⟩, hlink, hstat⟩ := hc
  have hM := h l g hI
  subst hst
  refine jw_back (va_runSN (As := As.map (jw_rv g)) (rest := st.map (jw_rv g)) ⟨hx, hb, hml, hown, hts⟩ hM ⟨va_cnB As.length hts (jw_goodIn hcode) rfl rfl rfl (hK.2.1 _ hlink) (jw_in hts hini rfl) hdd ⟨hd', by show 8 + (mt'.2.2.1 + 11) + 29 * d' ≤ 29 * d; omega⟩, jw_in hts hstat rfl, trivial⟩ ⟨fun a U G mk hu => ⟨hu.1, hu.2.1, hu.2.2.blind G mk a⟩, fun U hU hW => ⟨rfl, by rw [hU]; exact hP, hK.go hS hU hW⟩⟩ rfl (by rw [List.length_map]) hlv.1 (by show (List.map (jw_rv g) _) = _; rw [List.map_append, List.map_reverse]) (lv_room (by rw [jw_stcat]; exact hcat)) hd ⟨Nat.le_refl _, Nat.le_refl _⟩) hS (fun x M2 H1 locs1 hq2 hP1 hS1 => hq2 l g p e s m args below meth c C H1 locs1 ls hP1 hS1 hlv)
end JR
