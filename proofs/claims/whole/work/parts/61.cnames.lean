/-! ===== printed by gen/ctors.py: constructors ===== -/
theorem jc_n {rm : Room} {mt : jw_Mt} {a k mc ms : Nat} {fs0 : List Value} {Wd : (Nat → ClassId) → va_W} {pc : Nat} {lv : List (Nat × Value)} {st : List Value} {n n' : Nat} {fs : List Value} {rest : (Nat → ClassId) → va_W} {cells slots c2 s2 : Nat} (hn : n = n') (hc : cells = c2) (hs : slots = s2) (h : jc_J rm mt a k fs0 mc ms Wd pc lv st n' fs rest c2 s2) : jc_J rm mt a k fs0 mc ms Wd pc lv st n fs rest cells slots := by
  subst hn hc hs; exact h
theorem jc_fs {rm : Room} {mt : jw_Mt} {a k mc ms : Nat} {fs0 : List Value} {Wd : (Nat → ClassId) → va_W} {pc : Nat} {lv : List (Nat × Value)} {st : List Value} {n : Nat} {fs fs' : List Value} {rest : (Nat → ClassId) → va_W} {cells slots : Nat} (hf : fs = fs') (h : jc_J rm mt a k fs0 mc ms Wd pc lv st n fs' rest cells slots) : jc_J rm mt a k fs0 mc ms Wd pc lv st n fs rest cells slots := by
  subst hf; exact h
abbrev iX0 : jw_Mt := (yX0_init, cX0_init, 2, none)
theorem fi_X0 : jc_CB iX0 1 := ⟨List.mem_filter.mpr ⟨(List.mem_append_right _ (List.mem_of_getElem? (i := 236) (by decide +kernel))), rfl⟩, (List.mem_append_right _ (List.mem_of_getElem? (i := 8) (by decide +kernel))), (List.mem_append_right _ (List.mem_of_getElem? (i := 235) (by decide +kernel))), rfl, rfl, by decide +kernel⟩
abbrev iX1 : jw_Mt := (yX1_init, cX1_init, 1, none)
theorem fi_X1 : jc_CB iX1 0 := ⟨List.mem_filter.mpr ⟨(List.mem_append_right _ (List.mem_of_getElem? (i := 28) (by decide +kernel))), rfl⟩, (List.mem_append_right _ (List.mem_of_getElem? (i := 2) (by decide +kernel))), (List.mem_append_right _ (List.mem_of_getElem? (i := 27) (by decide +kernel))), rfl, rfl, by decide +kernel⟩
abbrev iX2 : jw_Mt := (yX2_init, cX2_init, 3, none)
theorem fi_X2 : jc_CB iX2 2 := ⟨List.mem_filter.mpr ⟨(List.mem_append_right _ (List.mem_of_getElem? (i := 256) (by decide +kernel))), rfl⟩, (List.mem_append_right _ (List.mem_of_getElem? (i := 9) (by decide +kernel))), (List.mem_append_right _ (List.mem_of_getElem? (i := 255) (by decide +kernel))), rfl, rfl, by decide +kernel⟩
abbrev iX3 : jw_Mt := (yX3_init, cX3_init, 3, none)
theorem fi_X3 : jc_CB iX3 1 := ⟨List.mem_filter.mpr ⟨(List.mem_append_right _ (List.mem_of_getElem? (i := 273) (by decide +kernel))), rfl⟩, (List.mem_append_right _ (List.mem_of_getElem? (i := 10) (by decide +kernel))), (List.mem_append_right _ (List.mem_of_getElem? (i := 272) (by decide +kernel))), rfl, rfl, by decide +kernel⟩
abbrev iX4 : jw_Mt := (yX4_init, cX4_init, 2, none)
theorem fi_X4 : jc_CB iX4 1 := ⟨List.mem_filter.mpr ⟨(List.mem_append_right _ (List.mem_of_getElem? (i := 294) (by decide +kernel))), rfl⟩, (List.mem_append_right _ (List.mem_of_getElem? (i := 11) (by decide +kernel))), (List.mem_append_right _ (List.mem_of_getElem? (i := 293) (by decide +kernel))), rfl, rfl, by decide +kernel⟩
abbrev iX5 : jw_Mt := (yX5_init, cX5_init, 3, none)
theorem fi_X5 : jc_CB iX5 2 := ⟨List.mem_filter.mpr ⟨(List.mem_append_right _ (List.mem_of_getElem? (i := 180) (by decide +kernel))), rfl⟩, (List.mem_append_right _ (List.mem_of_getElem? (i := 6) (by decide +kernel))), (List.mem_append_right _ (List.mem_of_getElem? (i := 179) (by decide +kernel))), rfl, rfl, by decide +kernel⟩
abbrev iX6 : jw_Mt := (yX6_init, cX6_init, 3, none)
theorem fi_X6 : jc_CB iX6 2 := ⟨List.mem_filter.mpr ⟨(List.mem_append_right _ (List.mem_of_getElem? (i := 167) (by decide +kernel))), rfl⟩, (List.mem_append_right _ (List.mem_of_getElem? (i := 5) (by decide +kernel))), (List.mem_append_right _ (List.mem_of_getElem? (i := 166) (by decide +kernel))), rfl, rfl, by decide +kernel⟩
abbrev iX7 : jw_Mt := (yX7_init, cX7_init, 1, none)
theorem fi_X7 : jc_CB iX7 0 := ⟨List.mem_filter.mpr ⟨(List.mem_append_right _ (List.mem_of_getElem? (i := 136) (by decide +kernel))), rfl⟩, (List.mem_append_right _ (List.mem_of_getElem? (i := 4) (by decide +kernel))), (List.mem_append_right _ (List.mem_of_getElem? (i := 135) (by decide +kernel))), rfl, rfl, by decide +kernel⟩
abbrev iX8 : jw_Mt := (yX8_init, cX8_init, 2, none)
theorem fi_X8 : jc_CB iX8 1 := ⟨List.mem_filter.mpr ⟨(List.mem_append_right _ (List.mem_of_getElem? (i := 97) (by decide +kernel))), rfl⟩, (List.mem_append_right _ (List.mem_of_getElem? (i := 3) (by decide +kernel))), (List.mem_append_right _ (List.mem_of_getElem? (i := 96) (by decide +kernel))), rfl, rfl, by decide +kernel⟩
abbrev iX9 : jw_Mt := (yX9_init, cX9_init, 3, none)
theorem fi_X9 : jc_CB iX9 2 := ⟨List.mem_filter.mpr ⟨(List.mem_append_right _ (List.mem_of_getElem? (i := 202) (by decide +kernel))), rfl⟩, (List.mem_append_right _ (List.mem_of_getElem? (i := 7) (by decide +kernel))), (List.mem_append_right _ (List.mem_of_getElem? (i := 201) (by decide +kernel))), rfl, rfl, by decide +kernel⟩
abbrev iX10 : jw_Mt := (yX10_init, cX10_init, 3, none)
theorem fi_X10 : jc_CB iX10 0 := ⟨List.mem_filter.mpr ⟨(List.mem_append_right _ (List.mem_of_getElem? (i := 20) (by decide +kernel))), rfl⟩, (List.mem_append_right _ (List.mem_of_getElem? (i := 1) (by decide +kernel))), (List.mem_append_right _ (List.mem_of_getElem? (i := 19) (by decide +kernel))), rfl, rfl, by decide +kernel⟩
abbrev iX11 : jw_Mt := (yX11_init, cX11_init, 1, none)
theorem fi_X11 : jc_CB iX11 0 := ⟨List.mem_filter.mpr ⟨(List.mem_append_right _ (List.mem_of_getElem? (i := 868) (by decide +kernel))), rfl⟩, (List.mem_append_right _ (List.mem_of_getElem? (i := 12) (by decide +kernel))), (List.mem_append_right _ (List.mem_of_getElem? (i := 867) (by decide +kernel))), rfl, rfl, by decide +kernel⟩
theorem fi_o1 : Cond.instanceMethod Lib.objectInit ∈ lw_tbl := (List.mem_append_right _ (List.mem_of_getElem? (i := 22) (by decide +kernel)))
theorem fi_o2 : Cond.code Lib.objectInit ⟨#[0xb1]⟩ 1 none ∈ lw_tbl := (List.mem_append_right _ (List.mem_of_getElem? (i := 23) (by decide +kernel)))
theorem fi_aI : Cond.arrayClass .int ∈ lw_tbl := (List.mem_append_right _ (List.mem_of_getElem? (i := 92) (by decide +kernel)))
theorem fi_aZ : Cond.arrayClass .boolean ∈ lw_tbl := (List.mem_append_right _ (List.mem_of_getElem? (i := 231) (by decide +kernel)))
abbrev z_X0 : List Value := [.null, .null, .null, .int 0]
theorem z_X0_ok : ∀ j, j < 4 → defaultValue (tyX0 j) = vp_V z_X0 j := by decide +kernel
abbrev z_X1 : List Value := [.int 0, .int 0, .int 0, .int 0, .null, .null, .null, .null, .null, .null, .null]
theorem z_X1_ok : ∀ j, j < 11 → defaultValue (tyX1 j) = vp_V z_X1 j := by decide +kernel
abbrev z_X2 : List Value := [.null, .null, .int 0]
theorem z_X2_ok : ∀ j, j < 3 → defaultValue (tyX2 j) = vp_V z_X2 j := by decide +kernel
abbrev z_X3 : List Value := [.null, .int 0, .int 0]
theorem z_X3_ok : ∀ j, j < 3 → defaultValue (tyX3 j) = vp_V z_X3 j := by decide +kernel
abbrev z_X4 : List Value := [.null, .int 0, .int 0]
theorem z_X4_ok : ∀ j, j < 3 → defaultValue (tyX4 j) = vp_V z_X4 j := by decide +kernel
abbrev z_X5 : List Value := [.null, .null, .null, .null]
theorem z_X5_ok : ∀ j, j < 4 → defaultValue (tyX5 j) = vp_V z_X5 j := by decide +kernel
abbrev z_X6 : List Value := [.null, .null]
theorem z_X6_ok : ∀ j, j < 2 → defaultValue (tyX6 j) = vp_V z_X6 j := by decide +kernel
abbrev z_X7 : List Value := [.null, .int 0, .int 0, .int 0, .int 0, .null]
theorem z_X7_ok : ∀ j, j < 6 → defaultValue (tyX7 j) = vp_V z_X7 j := by decide +kernel
abbrev z_X8 : List Value := [.null, .int 0, .null, .null, .null, .null, .null]
theorem z_X8_ok : ∀ j, j < 7 → defaultValue (tyX8 j) = vp_V z_X8 j := by decide +kernel
abbrev z_X9 : List Value := [.null, .null, .null, .null, .null, .null, .int 0, .int 0]
theorem z_X9_ok : ∀ j, j < 8 → defaultValue (tyX9 j) = vp_V z_X9 j := by decide +kernel
abbrev z_X10 : List Value := [.null, .null, .null, .null, .null, .null, .null, .null, .null, .null, .null]
theorem z_X10_ok : ∀ j, j < 11 → defaultValue (tyX10 j) = vp_V z_X10 j := by decide +kernel
abbrev z_X11 : List Value := [.int 0, .int 0, .null, .int 0, .null, .null, .null, .int 0, .null, .null, .null, .null, .int 0, .null, .int 0, .int 0, .int 0, .int 0, .int 0, .int 0, .int 0, .null, .int 0, .null, .null, .null, .int 0, .null, .null, .null, .int 0, .null, .null, .null, .int 0, .null, .null, .null, .int 0, .null, .null, .null, .null]
theorem z_X11_ok : ∀ j, j < 43 → defaultValue (tyX11 j) = vp_V z_X11 j := by decide +kernel
def cityW (a : Nat) (tc : Nat → ClassId) : va_W := [(a, .inr (1, [.int 0, .int 0, .int 0, .int 0, .ref (a + 1), .ref (a + 2), .ref (a + 3), .ref (a + 4), .ref (a + 5), .ref (a + 6), .ref (a + 7)])), (a + 1, .inl (tc 0, 5, .inl (fun _ => 0))), (a + 2, .inl (tc 0, 6, .inl (fun _ => 0))), (a + 3, .inl (tc 0, 6, .inl (fun _ => 0))), (a + 4, .inl (tc 0, 6, .inl (fun _ => 0))), (a + 5, .inl (tc 0, 7, .inl (fun _ => 0))), (a + 6, .inl (tc 0, 7, .inl (fun _ => 0))), (a + 7, .inl (tc 0, 7, .inl (fun _ => 0)))]
def stateW (a ct : Nat) (tc : Nat → ClassId) : va_W := [(a, .inr (8, [.ref ct, .int 0, .ref (a + 1), .ref (a + 2), .ref (a + 3), .ref (a + 4), .ref (a + 5)])), (a + 1, .inl (tc 0, 6, .inl (fun _ => 0))), (a + 2, .inl (tc 0, 6, .inl (fun _ => 0))), (a + 3, .inl (tc 0, 6, .inl (fun _ => 0))), (a + 4, .inl (tc 0, 7, .inl (fun _ => 0))), (a + 5, .inl (tc 0, 7, .inl (fun _ => 0)))]
def readerW (a : Nat) (tc : Nat → ClassId) : va_W := [(a, .inr (7, [.ref (a + 1), .int 0, .int 0, .int 0, .int (-1), .ref (a + 2)])), (a + 1, .inl (tc 0, 240, .inl (fun _ => 0)))] ++ cityW (a + 2) tc
def pollsW (a ct nw : Nat) (tc : Nat → ClassId) : va_W := [(a, .inr (6, [.ref ct, .ref nw]))]
def placerW (a ct nw : Nat) (tc : Nat → ClassId) : va_W := [(a, .inr (5, [.ref ct, .ref nw, .ref (a + 1), .ref (a + 9)])), (a + 1, .inl (tc 2, 7, .inr (.inr (.inr (.inr (fun i => if i < 7 then some (a + 1 + 1 + i) else none))))))] ++ (List.range 7).map (fun i => (a + 1 + 1 + i, .inl (tc 0, 32, .inl (fun _ => 0)))) ++ [(a + 9, .inl (tc 0, 6, .inl (fun _ => 0)))]
def tallyW (a ct nw : Nat) (tc : Nat → ClassId) : va_W := [(a, .inr (9, [.ref ct, .ref nw, .ref (a + 1), .ref (a + 2), .ref (a + 3), .ref (a + 4), .int 0, .int 0])), (a + 1, .inl (tc 0, 6, .inl (fun _ => 0))), (a + 2, .inl (tc 0, 6, .inl (fun _ => 0))), (a + 3, .inl (tc 1, 128, .inl (fun _ => 0))), (a + 4, .inl (tc 0, 64, .inl (fun _ => 0)))]
def bookW (a nw : Nat) (tc : Nat → ClassId) : va_W := [(a, .inr (0, [.ref nw, .ref (a + 1), .ref (a + 2), .int 0])), (a + 1, .inl (tc 0, 15, .inl (fun _ => 0))), (a + 2, .inl (tc 0, 15, .inl (fun _ => 0)))]
def drawsW (a ct nw : Nat) (tc : Nat → ClassId) : va_W := [(a, .inr (2, [.ref ct, .ref nw, .int 0]))]
def imageW (a ct : Nat) (tc : Nat → ClassId) : va_W := [(a, .inr (4, [.ref (a + 1), .int 0, .int 0]))] ++ stateW (a + 1) ct tc
def stL (a ct : Nat) (tc : Nat → ClassId) : Nat → va_W
  | 0 => []
  | i + 1 => stL a ct tc i ++ stateW (a + 2 + 6 * i) ct tc
def ringF (a i : Nat) : Nat → Option Nat := fun j => if j < i then some (a + 2 + 6 * j) else none
def histW (a ct : Nat) (tc : Nat → ClassId) : va_W := [(a, .inr (3, [.ref (a + 1), .int 0, .int 0])), (a + 1, .inl (tc 3, 16, .inr (.inr (.inr (.inr (ringF a 16))))))] ++ stL a ct tc 16
def modelW (a : Nat) (tc : Nat → ClassId) : va_W := [(a, .inr (11, [.int 0, .int 0, .ref (a + 1), .int 0, .ref (a + 2), .ref (a + 3), .ref (a + 4), .int 0, .ref (a + 5), .ref (a + 6), .ref (a + 7), .ref (a + 8), .int 0, .ref (a + 9), .int 0, .int (-1), .int 0, .int 0, .int 0, .int 0, .int 0, .ref (a + 10), .int 0, .ref (a + 11), .ref (a + 12), .ref (a + 13), .int 0, .ref (a + 14), .ref (a + 15), .ref (a + 16), .int 0, .ref (a + 17), .ref (a + 18), .ref (a + 19), .int 0, .ref (a + 20), .ref (a + 21), .ref (a + 22), .int 0, .ref (a + 23), .ref (a + 24), .ref (a + 25), .ref (a + 26)])), (a + 1, .inl (tc 0, 5, .inl (fun _ => 0))), (a + 2, .inl (tc 0, 6, .inl (fun _ => 0))), (a + 3, .inl (tc 0, 6, .inl (fun _ => 0))), (a + 4, .inl (tc 0, 6, .inl (fun _ => 0))), (a + 5, .inl (tc 0, 7, .inl (fun _ => 0))), (a + 6, .inl (tc 0, 7, .inl (fun _ => 0))), (a + 7, .inl (tc 0, 7, .inl (fun _ => 0))), (a + 8, .inl (tc 0, 33, .inl (fun _ => 0))), (a + 9, .inl (tc 0, 240, .inl (fun _ => 0))), (a + 10, .inl (tc 0, 5, .inl (fun _ => 0))), (a + 11, .inl (tc 0, 6, .inl (fun _ => 0))), (a + 12, .inl (tc 0, 6, .inl (fun _ => 0))), (a + 13, .inl (tc 0, 6, .inl (fun _ => 0))), (a + 14, .inl (tc 0, 7, .inl (fun _ => 0))), (a + 15, .inl (tc 0, 7, .inl (fun _ => 0))), (a + 16, .inl (tc 0, 7, .inl (fun _ => 0))), (a + 17, .inl (tc 0, 528, .inl (fun _ => 0))), (a + 18, .inl (tc 0, 33, .inl (fun _ => 0))), (a + 19, .inl (tc 0, 224, .inl (fun _ => 0))), (a + 20, .inl (tc 0, 6, .inl (fun _ => 0))), (a + 21, .inl (tc 0, 6, .inl (fun _ => 0))), (a + 22, .inl (tc 0, 64, .inl (fun _ => 0))), (a + 23, .inl (tc 0, 15, .inl (fun _ => 0))), (a + 24, .inl (tc 0, 15, .inl (fun _ => 0))), (a + 25, .inl (tc 0, 68, .inl (fun _ => 0))), (a + 26, .inl (tc 1, 2, .inl (fun _ => 0)))]
def imgF (b i : Nat) : Nat → Option Nat := fun j => if j < i then some (b + 150 + 7 * j) else none
def votesW (b : Nat) (tc : Nat → ClassId) : va_W := (b, .inr (10, [.ref (b + 15), .ref (b + 1), .ref (b + 9), .ref (b + 25), .ref (b + 31), .ref (b + 32), .ref (b + 42), .ref (b + 47), .ref (b + 50), .ref (b + 51), .ref (b + 149)])) :: ([] ++ cityW (b + 1) tc ++ stateW (b + 9) (b + 1) tc ++ readerW (b + 15) tc ++ stateW (b + 25) (b + 1) tc ++ pollsW (b + 31) (b + 1) (b + 9) tc ++ placerW (b + 32) (b + 1) (b + 9) tc ++ tallyW (b + 42) (b + 1) (b + 9) tc ++ bookW (b + 47) (b + 9) tc ++ drawsW (b + 50) (b + 1) (b + 9) tc ++ histW (b + 51) (b + 1) tc ++ [(b + 149, .inl (tc 4, 2, .inr (.inr (.inr (.inr (imgF b 2))))))] ++ imageW (b + 150) (b + 1) tc ++ imageW (b + 157) (b + 1) tc)
abbrev rm_X0 : Room := { frames := 1, cells := 2, slots := 30, locals := 12 }
abbrev rm_X1 : Room := { frames := 1, cells := 7, slots := 44, locals := 12 }
abbrev rm_X2 : Room := { frames := 1, cells := 0, slots := 0, locals := 12 }
abbrev rm_X3 : Room := { frames := 2, cells := 97, slots := 640, locals := 33 }
abbrev rm_X4 : Room := { frames := 2, cells := 6, slots := 39, locals := 33 }
abbrev rm_X5 : Room := { frames := 1, cells := 9, slots := 237, locals := 12 }
abbrev rm_X6 : Room := { frames := 1, cells := 0, slots := 0, locals := 12 }
abbrev rm_X7 : Room := { frames := 2, cells := 9, slots := 295, locals := 32 }
abbrev rm_X8 : Room := { frames := 1, cells := 5, slots := 32, locals := 12 }
abbrev rm_X9 : Room := { frames := 1, cells := 4, slots := 204, locals := 12 }
abbrev rm_X10 : Room := { frames := 3, cells := 163, slots := 1655, locals := 60 }
abbrev rm_X11 : Room := { frames := 1, cells := 26, slots := 1322, locals := 12 }
theorem dX0_init_0 : decode cX0_init 0 = .ok (.aload_n 0, 1) := by decide +kernel
theorem dX0_init_1 : decode cX0_init 1 = .ok (.invokespecial 3, 3) := by decide +kernel
theorem dX0_init_4 : decode cX0_init 4 = .ok (.aload_n 0, 1) := by decide +kernel
theorem dX0_init_5 : decode cX0_init 5 = .ok (.bipush 15, 2) := by decide +kernel
theorem dX0_init_7 : decode cX0_init 7 = .ok (.newarray .int, 2) := by decide +kernel
theorem dX0_init_9 : decode cX0_init 9 = .ok (.putfield 11, 3) := by decide +kernel
theorem dX0_init_12 : decode cX0_init 12 = .ok (.aload_n 0, 1) := by decide +kernel
theorem dX0_init_13 : decode cX0_init 13 = .ok (.bipush 15, 2) := by decide +kernel
theorem dX0_init_15 : decode cX0_init 15 = .ok (.newarray .int, 2) := by decide +kernel
theorem dX0_init_17 : decode cX0_init 17 = .ok (.putfield 15, 3) := by decide +kernel
theorem dX0_init_20 : decode cX0_init 20 = .ok (.aload_n 0, 1) := by decide +kernel
theorem dX0_init_21 : decode cX0_init 21 = .ok (.aload_n 1, 1) := by decide +kernel
theorem dX0_init_22 : decode cX0_init 22 = .ok (.putfield 18, 3) := by decide +kernel
theorem dX0_init_25 : decode cX0_init 25 = .ok (.return_, 1) := by decide +kernel
theorem dX1_init_0 : decode cX1_init 0 = .ok (.aload_n 0, 1) := by decide +kernel
theorem dX1_init_1 : decode cX1_init 1 = .ok (.invokespecial 3, 3) := by decide +kernel
theorem dX1_init_4 : decode cX1_init 4 = .ok (.aload_n 0, 1) := by decide +kernel
theorem dX1_init_5 : decode cX1_init 5 = .ok (.iconst 5, 1) := by decide +kernel
theorem dX1_init_6 : decode cX1_init 6 = .ok (.newarray .int, 2) := by decide +kernel
theorem dX1_init_8 : decode cX1_init 8 = .ok (.putfield 9, 3) := by decide +kernel
theorem dX1_init_11 : decode cX1_init 11 = .ok (.aload_n 0, 1) := by decide +kernel
theorem dX1_init_12 : decode cX1_init 12 = .ok (.bipush 6, 2) := by decide +kernel
theorem dX1_init_14 : decode cX1_init 14 = .ok (.newarray .int, 2) := by decide +kernel
theorem dX1_init_16 : decode cX1_init 16 = .ok (.putfield 15, 3) := by decide +kernel
theorem dX1_init_19 : decode cX1_init 19 = .ok (.aload_n 0, 1) := by decide +kernel
theorem dX1_init_20 : decode cX1_init 20 = .ok (.bipush 6, 2) := by decide +kernel
theorem dX1_init_22 : decode cX1_init 22 = .ok (.newarray .int, 2) := by decide +kernel
theorem dX1_init_24 : decode cX1_init 24 = .ok (.putfield 18, 3) := by decide +kernel
theorem dX1_init_27 : decode cX1_init 27 = .ok (.aload_n 0, 1) := by decide +kernel
theorem dX1_init_28 : decode cX1_init 28 = .ok (.bipush 6, 2) := by decide +kernel
theorem dX1_init_30 : decode cX1_init 30 = .ok (.newarray .int, 2) := by decide +kernel
theorem dX1_init_32 : decode cX1_init 32 = .ok (.putfield 21, 3) := by decide +kernel
theorem dX1_init_35 : decode cX1_init 35 = .ok (.aload_n 0, 1) := by decide +kernel
theorem dX1_init_36 : decode cX1_init 36 = .ok (.bipush 7, 2) := by decide +kernel
theorem dX1_init_38 : decode cX1_init 38 = .ok (.newarray .int, 2) := by decide +kernel
theorem dX1_init_40 : decode cX1_init 40 = .ok (.putfield 24, 3) := by decide +kernel
theorem dX1_init_43 : decode cX1_init 43 = .ok (.aload_n 0, 1) := by decide +kernel
theorem dX1_init_44 : decode cX1_init 44 = .ok (.bipush 7, 2) := by decide +kernel
theorem dX1_init_46 : decode cX1_init 46 = .ok (.newarray .int, 2) := by decide +kernel
theorem dX1_init_48 : decode cX1_init 48 = .ok (.putfield 27, 3) := by decide +kernel
theorem dX1_init_51 : decode cX1_init 51 = .ok (.aload_n 0, 1) := by decide +kernel
theorem dX1_init_52 : decode cX1_init 52 = .ok (.bipush 7, 2) := by decide +kernel
theorem dX1_init_54 : decode cX1_init 54 = .ok (.newarray .int, 2) := by decide +kernel
theorem dX1_init_56 : decode cX1_init 56 = .ok (.putfield 30, 3) := by decide +kernel
theorem dX1_init_59 : decode cX1_init 59 = .ok (.return_, 1) := by decide +kernel
theorem dX2_init_0 : decode cX2_init 0 = .ok (.aload_n 0, 1) := by decide +kernel
theorem dX2_init_1 : decode cX2_init 1 = .ok (.invokespecial 1, 3) := by decide +kernel
theorem dX2_init_4 : decode cX2_init 4 = .ok (.aload_n 0, 1) := by decide +kernel
theorem dX2_init_5 : decode cX2_init 5 = .ok (.aload_n 1, 1) := by decide +kernel
theorem dX2_init_6 : decode cX2_init 6 = .ok (.putfield 7, 3) := by decide +kernel
theorem dX2_init_9 : decode cX2_init 9 = .ok (.aload_n 0, 1) := by decide +kernel
theorem dX2_init_10 : decode cX2_init 10 = .ok (.aload_n 2, 1) := by decide +kernel
theorem dX2_init_11 : decode cX2_init 11 = .ok (.putfield 13, 3) := by decide +kernel
theorem dX2_init_14 : decode cX2_init 14 = .ok (.return_, 1) := by decide +kernel
theorem dX3_init_0 : decode cX3_init 0 = .ok (.aload_n 0, 1) := by decide +kernel
theorem dX3_init_1 : decode cX3_init 1 = .ok (.invokespecial 1, 3) := by decide +kernel
theorem dX3_init_4 : decode cX3_init 4 = .ok (.aload_n 0, 1) := by decide +kernel
theorem dX3_init_5 : decode cX3_init 5 = .ok (.bipush 16, 2) := by decide +kernel
theorem dX3_init_7 : decode cX3_init 7 = .ok (.anewarray 9, 3) := by decide +kernel
theorem dX3_init_10 : decode cX3_init 10 = .ok (.putfield 11, 3) := by decide +kernel
theorem dX3_init_13 : decode cX3_init 13 = .ok (.iconst 0, 1) := by decide +kernel
theorem dX3_init_14 : decode cX3_init 14 = .ok (.istore_n 2, 1) := by decide +kernel
theorem dX3_init_15 : decode cX3_init 15 = .ok (.iload_n 2, 1) := by decide +kernel
theorem dX3_init_16 : decode cX3_init 16 = .ok (.bipush 16, 2) := by decide +kernel
theorem dX3_init_18 : decode cX3_init 18 = .ok (.if_icmp .ge 23, 3) := by decide +kernel
theorem dX3_init_21 : decode cX3_init 21 = .ok (.aload_n 0, 1) := by decide +kernel
theorem dX3_init_22 : decode cX3_init 22 = .ok (.getfield 11, 3) := by decide +kernel
theorem dX3_init_25 : decode cX3_init 25 = .ok (.iload_n 2, 1) := by decide +kernel
theorem dX3_init_26 : decode cX3_init 26 = .ok (.new 9, 3) := by decide +kernel
theorem dX3_init_29 : decode cX3_init 29 = .ok (.dup, 1) := by decide +kernel
theorem dX3_init_30 : decode cX3_init 30 = .ok (.aload_n 1, 1) := by decide +kernel
theorem dX3_init_31 : decode cX3_init 31 = .ok (.invokespecial 15, 3) := by decide +kernel
theorem dX3_init_34 : decode cX3_init 34 = .ok (.aastore, 1) := by decide +kernel
theorem dX3_init_35 : decode cX3_init 35 = .ok (.iinc 2 1, 3) := by decide +kernel
theorem dX3_init_38 : decode cX3_init 38 = .ok (.goto (-23), 3) := by decide +kernel
theorem dX3_init_41 : decode cX3_init 41 = .ok (.return_, 1) := by decide +kernel
theorem dX4_init_0 : decode cX4_init 0 = .ok (.aload_n 0, 1) := by decide +kernel
theorem dX4_init_1 : decode cX4_init 1 = .ok (.invokespecial 1, 3) := by decide +kernel
theorem dX4_init_4 : decode cX4_init 4 = .ok (.aload_n 0, 1) := by decide +kernel
theorem dX4_init_5 : decode cX4_init 5 = .ok (.new 7, 3) := by decide +kernel
theorem dX4_init_8 : decode cX4_init 8 = .ok (.dup, 1) := by decide +kernel
theorem dX4_init_9 : decode cX4_init 9 = .ok (.aload_n 1, 1) := by decide +kernel
theorem dX4_init_10 : decode cX4_init 10 = .ok (.invokespecial 9, 3) := by decide +kernel
theorem dX4_init_13 : decode cX4_init 13 = .ok (.putfield 12, 3) := by decide +kernel
theorem dX4_init_16 : decode cX4_init 16 = .ok (.return_, 1) := by decide +kernel
theorem dX5_init_0 : decode cX5_init 0 = .ok (.aload_n 0, 1) := by decide +kernel
theorem dX5_init_1 : decode cX5_init 1 = .ok (.invokespecial 3, 3) := by decide +kernel
theorem dX5_init_4 : decode cX5_init 4 = .ok (.aload_n 0, 1) := by decide +kernel
theorem dX5_init_5 : decode cX5_init 5 = .ok (.bipush 7, 2) := by decide +kernel
theorem dX5_init_7 : decode cX5_init 7 = .ok (.bipush 32, 2) := by decide +kernel
theorem dX5_init_9 : decode cX5_init 9 = .ok (.multianewarray 11 2, 4) := by decide +kernel
theorem dX5_init_13 : decode cX5_init 13 = .ok (.putfield 13, 3) := by decide +kernel
theorem dX5_init_16 : decode cX5_init 16 = .ok (.aload_n 0, 1) := by decide +kernel
theorem dX5_init_17 : decode cX5_init 17 = .ok (.bipush 6, 2) := by decide +kernel
theorem dX5_init_19 : decode cX5_init 19 = .ok (.newarray .int, 2) := by decide +kernel
theorem dX5_init_21 : decode cX5_init 21 = .ok (.putfield 16, 3) := by decide +kernel
theorem dX5_init_24 : decode cX5_init 24 = .ok (.aload_n 0, 1) := by decide +kernel
theorem dX5_init_25 : decode cX5_init 25 = .ok (.aload_n 1, 1) := by decide +kernel
theorem dX5_init_26 : decode cX5_init 26 = .ok (.putfield 20, 3) := by decide +kernel
theorem dX5_init_29 : decode cX5_init 29 = .ok (.aload_n 0, 1) := by decide +kernel
theorem dX5_init_30 : decode cX5_init 30 = .ok (.aload_n 2, 1) := by decide +kernel
theorem dX5_init_31 : decode cX5_init 31 = .ok (.putfield 24, 3) := by decide +kernel
theorem dX5_init_34 : decode cX5_init 34 = .ok (.return_, 1) := by decide +kernel
theorem dX6_init_0 : decode cX6_init 0 = .ok (.aload_n 0, 1) := by decide +kernel
theorem dX6_init_1 : decode cX6_init 1 = .ok (.invokespecial 3, 3) := by decide +kernel
theorem dX6_init_4 : decode cX6_init 4 = .ok (.aload_n 0, 1) := by decide +kernel
theorem dX6_init_5 : decode cX6_init 5 = .ok (.aload_n 1, 1) := by decide +kernel
theorem dX6_init_6 : decode cX6_init 6 = .ok (.putfield 9, 3) := by decide +kernel
theorem dX6_init_9 : decode cX6_init 9 = .ok (.aload_n 0, 1) := by decide +kernel
theorem dX6_init_10 : decode cX6_init 10 = .ok (.aload_n 2, 1) := by decide +kernel
theorem dX6_init_11 : decode cX6_init 11 = .ok (.putfield 15, 3) := by decide +kernel
theorem dX6_init_14 : decode cX6_init 14 = .ok (.return_, 1) := by decide +kernel
theorem dX7_init_0 : decode cX7_init 0 = .ok (.aload_n 0, 1) := by decide +kernel
theorem dX7_init_1 : decode cX7_init 1 = .ok (.invokespecial 3, 3) := by decide +kernel
theorem dX7_init_4 : decode cX7_init 4 = .ok (.aload_n 0, 1) := by decide +kernel
theorem dX7_init_5 : decode cX7_init 5 = .ok (.sipush 240, 3) := by decide +kernel
theorem dX7_init_8 : decode cX7_init 8 = .ok (.newarray .int, 2) := by decide +kernel
theorem dX7_init_10 : decode cX7_init 10 = .ok (.putfield 9, 3) := by decide +kernel
theorem dX7_init_13 : decode cX7_init 13 = .ok (.aload_n 0, 1) := by decide +kernel
theorem dX7_init_14 : decode cX7_init 14 = .ok (.iconst (-1), 1) := by decide +kernel
theorem dX7_init_15 : decode cX7_init 15 = .ok (.putfield 15, 3) := by decide +kernel
theorem dX7_init_18 : decode cX7_init 18 = .ok (.aload_n 0, 1) := by decide +kernel
theorem dX7_init_19 : decode cX7_init 19 = .ok (.new 19, 3) := by decide +kernel
theorem dX7_init_22 : decode cX7_init 22 = .ok (.dup, 1) := by decide +kernel
theorem dX7_init_23 : decode cX7_init 23 = .ok (.invokespecial 21, 3) := by decide +kernel
theorem dX7_init_26 : decode cX7_init 26 = .ok (.putfield 22, 3) := by decide +kernel
theorem dX7_init_29 : decode cX7_init 29 = .ok (.return_, 1) := by decide +kernel
theorem dX8_init_0 : decode cX8_init 0 = .ok (.aload_n 0, 1) := by decide +kernel
theorem dX8_init_1 : decode cX8_init 1 = .ok (.invokespecial 3, 3) := by decide +kernel
theorem dX8_init_4 : decode cX8_init 4 = .ok (.aload_n 0, 1) := by decide +kernel
theorem dX8_init_5 : decode cX8_init 5 = .ok (.bipush 6, 2) := by decide +kernel
theorem dX8_init_7 : decode cX8_init 7 = .ok (.newarray .int, 2) := by decide +kernel
theorem dX8_init_9 : decode cX8_init 9 = .ok (.putfield 9, 3) := by decide +kernel
theorem dX8_init_12 : decode cX8_init 12 = .ok (.aload_n 0, 1) := by decide +kernel
theorem dX8_init_13 : decode cX8_init 13 = .ok (.bipush 6, 2) := by decide +kernel
theorem dX8_init_15 : decode cX8_init 15 = .ok (.newarray .int, 2) := by decide +kernel
theorem dX8_init_17 : decode cX8_init 17 = .ok (.putfield 15, 3) := by decide +kernel
theorem dX8_init_20 : decode cX8_init 20 = .ok (.aload_n 0, 1) := by decide +kernel
theorem dX8_init_21 : decode cX8_init 21 = .ok (.bipush 6, 2) := by decide +kernel
theorem dX8_init_23 : decode cX8_init 23 = .ok (.newarray .int, 2) := by decide +kernel
theorem dX8_init_25 : decode cX8_init 25 = .ok (.putfield 18, 3) := by decide +kernel
theorem dX8_init_28 : decode cX8_init 28 = .ok (.aload_n 0, 1) := by decide +kernel
theorem dX8_init_29 : decode cX8_init 29 = .ok (.bipush 7, 2) := by decide +kernel
theorem dX8_init_31 : decode cX8_init 31 = .ok (.newarray .int, 2) := by decide +kernel
theorem dX8_init_33 : decode cX8_init 33 = .ok (.putfield 21, 3) := by decide +kernel
theorem dX8_init_36 : decode cX8_init 36 = .ok (.aload_n 0, 1) := by decide +kernel
theorem dX8_init_37 : decode cX8_init 37 = .ok (.bipush 7, 2) := by decide +kernel
theorem dX8_init_39 : decode cX8_init 39 = .ok (.newarray .int, 2) := by decide +kernel
theorem dX8_init_41 : decode cX8_init 41 = .ok (.putfield 24, 3) := by decide +kernel
theorem dX8_init_44 : decode cX8_init 44 = .ok (.aload_n 0, 1) := by decide +kernel
theorem dX8_init_45 : decode cX8_init 45 = .ok (.aload_n 1, 1) := by decide +kernel
theorem dX8_init_46 : decode cX8_init 46 = .ok (.putfield 27, 3) := by decide +kernel
theorem dX8_init_49 : decode cX8_init 49 = .ok (.return_, 1) := by decide +kernel
theorem dX9_init_0 : decode cX9_init 0 = .ok (.aload_n 0, 1) := by decide +kernel
theorem dX9_init_1 : decode cX9_init 1 = .ok (.invokespecial 3, 3) := by decide +kernel
theorem dX9_init_4 : decode cX9_init 4 = .ok (.aload_n 0, 1) := by decide +kernel
theorem dX9_init_5 : decode cX9_init 5 = .ok (.bipush 6, 2) := by decide +kernel
theorem dX9_init_7 : decode cX9_init 7 = .ok (.newarray .int, 2) := by decide +kernel
theorem dX9_init_9 : decode cX9_init 9 = .ok (.putfield 11, 3) := by decide +kernel
theorem dX9_init_12 : decode cX9_init 12 = .ok (.aload_n 0, 1) := by decide +kernel
theorem dX9_init_13 : decode cX9_init 13 = .ok (.bipush 6, 2) := by decide +kernel
theorem dX9_init_15 : decode cX9_init 15 = .ok (.newarray .int, 2) := by decide +kernel
theorem dX9_init_17 : decode cX9_init 17 = .ok (.putfield 15, 3) := by decide +kernel
theorem dX9_init_20 : decode cX9_init 20 = .ok (.aload_n 0, 1) := by decide +kernel
theorem dX9_init_21 : decode cX9_init 21 = .ok (.sipush 128, 3) := by decide +kernel
theorem dX9_init_24 : decode cX9_init 24 = .ok (.newarray .boolean, 2) := by decide +kernel
theorem dX9_init_26 : decode cX9_init 26 = .ok (.putfield 18, 3) := by decide +kernel
theorem dX9_init_29 : decode cX9_init 29 = .ok (.aload_n 0, 1) := by decide +kernel
theorem dX9_init_30 : decode cX9_init 30 = .ok (.bipush 64, 2) := by decide +kernel
theorem dX9_init_32 : decode cX9_init 32 = .ok (.newarray .int, 2) := by decide +kernel
theorem dX9_init_34 : decode cX9_init 34 = .ok (.putfield 22, 3) := by decide +kernel
theorem dX9_init_37 : decode cX9_init 37 = .ok (.aload_n 0, 1) := by decide +kernel
theorem dX9_init_38 : decode cX9_init 38 = .ok (.aload_n 1, 1) := by decide +kernel
theorem dX9_init_39 : decode cX9_init 39 = .ok (.putfield 25, 3) := by decide +kernel
theorem dX9_init_42 : decode cX9_init 42 = .ok (.aload_n 0, 1) := by decide +kernel
theorem dX9_init_43 : decode cX9_init 43 = .ok (.aload_n 2, 1) := by decide +kernel
theorem dX9_init_44 : decode cX9_init 44 = .ok (.putfield 29, 3) := by decide +kernel
theorem dX9_init_47 : decode cX9_init 47 = .ok (.return_, 1) := by decide +kernel
theorem dX10_init_0 : decode cX10_init 0 = .ok (.aload_n 0, 1) := by decide +kernel
theorem dX10_init_1 : decode cX10_init 1 = .ok (.invokespecial 1, 3) := by decide +kernel
theorem dX10_init_4 : decode cX10_init 4 = .ok (.new 7, 3) := by decide +kernel
theorem dX10_init_7 : decode cX10_init 7 = .ok (.dup, 1) := by decide +kernel
theorem dX10_init_8 : decode cX10_init 8 = .ok (.invokespecial 9, 3) := by decide +kernel
theorem dX10_init_11 : decode cX10_init 11 = .ok (.astore_n 1, 1) := by decide +kernel
theorem dX10_init_12 : decode cX10_init 12 = .ok (.new 10, 3) := by decide +kernel
theorem dX10_init_15 : decode cX10_init 15 = .ok (.dup, 1) := by decide +kernel
theorem dX10_init_16 : decode cX10_init 16 = .ok (.aload_n 1, 1) := by decide +kernel
theorem dX10_init_17 : decode cX10_init 17 = .ok (.invokespecial 12, 3) := by decide +kernel
theorem dX10_init_20 : decode cX10_init 20 = .ok (.astore_n 2, 1) := by decide +kernel
theorem dX10_init_21 : decode cX10_init 21 = .ok (.aload_n 0, 1) := by decide +kernel
theorem dX10_init_22 : decode cX10_init 22 = .ok (.new 15, 3) := by decide +kernel
theorem dX10_init_25 : decode cX10_init 25 = .ok (.dup, 1) := by decide +kernel
theorem dX10_init_26 : decode cX10_init 26 = .ok (.invokespecial 17, 3) := by decide +kernel
theorem dX10_init_29 : decode cX10_init 29 = .ok (.putfield 18, 3) := by decide +kernel
theorem dX10_init_32 : decode cX10_init 32 = .ok (.aload_n 0, 1) := by decide +kernel
theorem dX10_init_33 : decode cX10_init 33 = .ok (.aload_n 1, 1) := by decide +kernel
theorem dX10_init_34 : decode cX10_init 34 = .ok (.putfield 24, 3) := by decide +kernel
theorem dX10_init_37 : decode cX10_init 37 = .ok (.aload_n 0, 1) := by decide +kernel
theorem dX10_init_38 : decode cX10_init 38 = .ok (.aload_n 2, 1) := by decide +kernel
theorem dX10_init_39 : decode cX10_init 39 = .ok (.putfield 28, 3) := by decide +kernel
theorem dX10_init_42 : decode cX10_init 42 = .ok (.aload_n 0, 1) := by decide +kernel
theorem dX10_init_43 : decode cX10_init 43 = .ok (.new 10, 3) := by decide +kernel
theorem dX10_init_46 : decode cX10_init 46 = .ok (.dup, 1) := by decide +kernel
theorem dX10_init_47 : decode cX10_init 47 = .ok (.aload_n 1, 1) := by decide +kernel
theorem dX10_init_48 : decode cX10_init 48 = .ok (.invokespecial 12, 3) := by decide +kernel
theorem dX10_init_51 : decode cX10_init 51 = .ok (.putfield 32, 3) := by decide +kernel
theorem dX10_init_54 : decode cX10_init 54 = .ok (.aload_n 0, 1) := by decide +kernel
theorem dX10_init_55 : decode cX10_init 55 = .ok (.new 35, 3) := by decide +kernel
theorem dX10_init_58 : decode cX10_init 58 = .ok (.dup, 1) := by decide +kernel
theorem dX10_init_59 : decode cX10_init 59 = .ok (.aload_n 1, 1) := by decide +kernel
theorem dX10_init_60 : decode cX10_init 60 = .ok (.aload_n 2, 1) := by decide +kernel
theorem dX10_init_61 : decode cX10_init 61 = .ok (.invokespecial 37, 3) := by decide +kernel
theorem dX10_init_64 : decode cX10_init 64 = .ok (.putfield 40, 3) := by decide +kernel
theorem dX10_init_67 : decode cX10_init 67 = .ok (.aload_n 0, 1) := by decide +kernel
theorem dX10_init_68 : decode cX10_init 68 = .ok (.new 44, 3) := by decide +kernel
theorem dX10_init_71 : decode cX10_init 71 = .ok (.dup, 1) := by decide +kernel
theorem dX10_init_72 : decode cX10_init 72 = .ok (.aload_n 1, 1) := by decide +kernel
theorem dX10_init_73 : decode cX10_init 73 = .ok (.aload_n 2, 1) := by decide +kernel
theorem dX10_init_74 : decode cX10_init 74 = .ok (.invokespecial 46, 3) := by decide +kernel
theorem dX10_init_77 : decode cX10_init 77 = .ok (.putfield 47, 3) := by decide +kernel
theorem dX10_init_80 : decode cX10_init 80 = .ok (.aload_n 0, 1) := by decide +kernel
theorem dX10_init_81 : decode cX10_init 81 = .ok (.new 51, 3) := by decide +kernel
theorem dX10_init_84 : decode cX10_init 84 = .ok (.dup, 1) := by decide +kernel
theorem dX10_init_85 : decode cX10_init 85 = .ok (.aload_n 1, 1) := by decide +kernel
theorem dX10_init_86 : decode cX10_init 86 = .ok (.aload_n 2, 1) := by decide +kernel
theorem dX10_init_87 : decode cX10_init 87 = .ok (.invokespecial 53, 3) := by decide +kernel
theorem dX10_init_90 : decode cX10_init 90 = .ok (.putfield 54, 3) := by decide +kernel
theorem dX10_init_93 : decode cX10_init 93 = .ok (.aload_n 0, 1) := by decide +kernel
theorem dX10_init_94 : decode cX10_init 94 = .ok (.new 58, 3) := by decide +kernel
theorem dX10_init_97 : decode cX10_init 97 = .ok (.dup, 1) := by decide +kernel
theorem dX10_init_98 : decode cX10_init 98 = .ok (.aload_n 2, 1) := by decide +kernel
theorem dX10_init_99 : decode cX10_init 99 = .ok (.invokespecial 60, 3) := by decide +kernel
theorem dX10_init_102 : decode cX10_init 102 = .ok (.putfield 63, 3) := by decide +kernel
theorem dX10_init_105 : decode cX10_init 105 = .ok (.aload_n 0, 1) := by decide +kernel
theorem dX10_init_106 : decode cX10_init 106 = .ok (.new 67, 3) := by decide +kernel
theorem dX10_init_109 : decode cX10_init 109 = .ok (.dup, 1) := by decide +kernel
theorem dX10_init_110 : decode cX10_init 110 = .ok (.aload_n 1, 1) := by decide +kernel
theorem dX10_init_111 : decode cX10_init 111 = .ok (.aload_n 2, 1) := by decide +kernel
theorem dX10_init_112 : decode cX10_init 112 = .ok (.invokespecial 69, 3) := by decide +kernel
theorem dX10_init_115 : decode cX10_init 115 = .ok (.putfield 70, 3) := by decide +kernel
theorem dX10_init_118 : decode cX10_init 118 = .ok (.aload_n 0, 1) := by decide +kernel
theorem dX10_init_119 : decode cX10_init 119 = .ok (.new 74, 3) := by decide +kernel
theorem dX10_init_122 : decode cX10_init 122 = .ok (.dup, 1) := by decide +kernel
theorem dX10_init_123 : decode cX10_init 123 = .ok (.aload_n 1, 1) := by decide +kernel
theorem dX10_init_124 : decode cX10_init 124 = .ok (.invokespecial 76, 3) := by decide +kernel
theorem dX10_init_127 : decode cX10_init 127 = .ok (.putfield 77, 3) := by decide +kernel
theorem dX10_init_130 : decode cX10_init 130 = .ok (.aload_n 0, 1) := by decide +kernel
theorem dX10_init_131 : decode cX10_init 131 = .ok (.iconst 2, 1) := by decide +kernel
theorem dX10_init_132 : decode cX10_init 132 = .ok (.anewarray 81, 3) := by decide +kernel
theorem dX10_init_135 : decode cX10_init 135 = .ok (.dup, 1) := by decide +kernel
theorem dX10_init_136 : decode cX10_init 136 = .ok (.iconst 0, 1) := by decide +kernel
theorem dX10_init_137 : decode cX10_init 137 = .ok (.new 81, 3) := by decide +kernel
theorem dX10_init_140 : decode cX10_init 140 = .ok (.dup, 1) := by decide +kernel
theorem dX10_init_141 : decode cX10_init 141 = .ok (.aload_n 1, 1) := by decide +kernel
theorem dX10_init_142 : decode cX10_init 142 = .ok (.invokespecial 83, 3) := by decide +kernel
theorem dX10_init_145 : decode cX10_init 145 = .ok (.aastore, 1) := by decide +kernel
theorem dX10_init_146 : decode cX10_init 146 = .ok (.dup, 1) := by decide +kernel
theorem dX10_init_147 : decode cX10_init 147 = .ok (.iconst 1, 1) := by decide +kernel
theorem dX10_init_148 : decode cX10_init 148 = .ok (.new 81, 3) := by decide +kernel
theorem dX10_init_151 : decode cX10_init 151 = .ok (.dup, 1) := by decide +kernel
theorem dX10_init_152 : decode cX10_init 152 = .ok (.aload_n 1, 1) := by decide +kernel
theorem dX10_init_153 : decode cX10_init 153 = .ok (.invokespecial 83, 3) := by decide +kernel
theorem dX10_init_156 : decode cX10_init 156 = .ok (.aastore, 1) := by decide +kernel
theorem dX10_init_157 : decode cX10_init 157 = .ok (.putfield 84, 3) := by decide +kernel
theorem dX10_init_160 : decode cX10_init 160 = .ok (.return_, 1) := by decide +kernel
theorem dX11_init_0 : decode cX11_init 0 = .ok (.aload_n 0, 1) := by decide +kernel
theorem dX11_init_1 : decode cX11_init 1 = .ok (.invokespecial 1, 3) := by decide +kernel
theorem dX11_init_4 : decode cX11_init 4 = .ok (.aload_n 0, 1) := by decide +kernel
theorem dX11_init_5 : decode cX11_init 5 = .ok (.iconst 5, 1) := by decide +kernel
theorem dX11_init_6 : decode cX11_init 6 = .ok (.newarray .int, 2) := by decide +kernel
theorem dX11_init_8 : decode cX11_init 8 = .ok (.putfield 7, 3) := by decide +kernel
theorem dX11_init_11 : decode cX11_init 11 = .ok (.aload_n 0, 1) := by decide +kernel
theorem dX11_init_12 : decode cX11_init 12 = .ok (.bipush 6, 2) := by decide +kernel
theorem dX11_init_14 : decode cX11_init 14 = .ok (.newarray .int, 2) := by decide +kernel
theorem dX11_init_16 : decode cX11_init 16 = .ok (.putfield 13, 3) := by decide +kernel
theorem dX11_init_19 : decode cX11_init 19 = .ok (.aload_n 0, 1) := by decide +kernel
theorem dX11_init_20 : decode cX11_init 20 = .ok (.bipush 6, 2) := by decide +kernel
theorem dX11_init_22 : decode cX11_init 22 = .ok (.newarray .int, 2) := by decide +kernel
theorem dX11_init_24 : decode cX11_init 24 = .ok (.putfield 16, 3) := by decide +kernel
theorem dX11_init_27 : decode cX11_init 27 = .ok (.aload_n 0, 1) := by decide +kernel
theorem dX11_init_28 : decode cX11_init 28 = .ok (.bipush 6, 2) := by decide +kernel
theorem dX11_init_30 : decode cX11_init 30 = .ok (.newarray .int, 2) := by decide +kernel
theorem dX11_init_32 : decode cX11_init 32 = .ok (.putfield 19, 3) := by decide +kernel
theorem dX11_init_35 : decode cX11_init 35 = .ok (.aload_n 0, 1) := by decide +kernel
theorem dX11_init_36 : decode cX11_init 36 = .ok (.bipush 7, 2) := by decide +kernel
theorem dX11_init_38 : decode cX11_init 38 = .ok (.newarray .int, 2) := by decide +kernel
theorem dX11_init_40 : decode cX11_init 40 = .ok (.putfield 22, 3) := by decide +kernel
theorem dX11_init_43 : decode cX11_init 43 = .ok (.aload_n 0, 1) := by decide +kernel
theorem dX11_init_44 : decode cX11_init 44 = .ok (.bipush 7, 2) := by decide +kernel
theorem dX11_init_46 : decode cX11_init 46 = .ok (.newarray .int, 2) := by decide +kernel
theorem dX11_init_48 : decode cX11_init 48 = .ok (.putfield 25, 3) := by decide +kernel
theorem dX11_init_51 : decode cX11_init 51 = .ok (.aload_n 0, 1) := by decide +kernel
theorem dX11_init_52 : decode cX11_init 52 = .ok (.bipush 7, 2) := by decide +kernel
theorem dX11_init_54 : decode cX11_init 54 = .ok (.newarray .int, 2) := by decide +kernel
theorem dX11_init_56 : decode cX11_init 56 = .ok (.putfield 28, 3) := by decide +kernel
theorem dX11_init_59 : decode cX11_init 59 = .ok (.aload_n 0, 1) := by decide +kernel
theorem dX11_init_60 : decode cX11_init 60 = .ok (.bipush 33, 2) := by decide +kernel
theorem dX11_init_62 : decode cX11_init 62 = .ok (.newarray .int, 2) := by decide +kernel
theorem dX11_init_64 : decode cX11_init 64 = .ok (.putfield 31, 3) := by decide +kernel
theorem dX11_init_67 : decode cX11_init 67 = .ok (.aload_n 0, 1) := by decide +kernel
theorem dX11_init_68 : decode cX11_init 68 = .ok (.sipush 240, 3) := by decide +kernel
theorem dX11_init_71 : decode cX11_init 71 = .ok (.newarray .int, 2) := by decide +kernel
theorem dX11_init_73 : decode cX11_init 73 = .ok (.putfield 34, 3) := by decide +kernel
theorem dX11_init_76 : decode cX11_init 76 = .ok (.aload_n 0, 1) := by decide +kernel
theorem dX11_init_77 : decode cX11_init 77 = .ok (.iconst (-1), 1) := by decide +kernel
theorem dX11_init_78 : decode cX11_init 78 = .ok (.putfield 37, 3) := by decide +kernel
theorem dX11_init_81 : decode cX11_init 81 = .ok (.aload_n 0, 1) := by decide +kernel
theorem dX11_init_82 : decode cX11_init 82 = .ok (.iconst 5, 1) := by decide +kernel
theorem dX11_init_83 : decode cX11_init 83 = .ok (.newarray .int, 2) := by decide +kernel
theorem dX11_init_85 : decode cX11_init 85 = .ok (.putfield 41, 3) := by decide +kernel
theorem dX11_init_88 : decode cX11_init 88 = .ok (.aload_n 0, 1) := by decide +kernel
theorem dX11_init_89 : decode cX11_init 89 = .ok (.bipush 6, 2) := by decide +kernel
theorem dX11_init_91 : decode cX11_init 91 = .ok (.newarray .int, 2) := by decide +kernel
theorem dX11_init_93 : decode cX11_init 93 = .ok (.putfield 44, 3) := by decide +kernel
theorem dX11_init_96 : decode cX11_init 96 = .ok (.aload_n 0, 1) := by decide +kernel
theorem dX11_init_97 : decode cX11_init 97 = .ok (.bipush 6, 2) := by decide +kernel
theorem dX11_init_99 : decode cX11_init 99 = .ok (.newarray .int, 2) := by decide +kernel
theorem dX11_init_101 : decode cX11_init 101 = .ok (.putfield 47, 3) := by decide +kernel
theorem dX11_init_104 : decode cX11_init 104 = .ok (.aload_n 0, 1) := by decide +kernel
theorem dX11_init_105 : decode cX11_init 105 = .ok (.bipush 6, 2) := by decide +kernel
theorem dX11_init_107 : decode cX11_init 107 = .ok (.newarray .int, 2) := by decide +kernel
theorem dX11_init_109 : decode cX11_init 109 = .ok (.putfield 50, 3) := by decide +kernel
theorem dX11_init_112 : decode cX11_init 112 = .ok (.aload_n 0, 1) := by decide +kernel
theorem dX11_init_113 : decode cX11_init 113 = .ok (.bipush 7, 2) := by decide +kernel
theorem dX11_init_115 : decode cX11_init 115 = .ok (.newarray .int, 2) := by decide +kernel
theorem dX11_init_117 : decode cX11_init 117 = .ok (.putfield 53, 3) := by decide +kernel
theorem dX11_init_120 : decode cX11_init 120 = .ok (.aload_n 0, 1) := by decide +kernel
theorem dX11_init_121 : decode cX11_init 121 = .ok (.bipush 7, 2) := by decide +kernel
theorem dX11_init_123 : decode cX11_init 123 = .ok (.newarray .int, 2) := by decide +kernel
theorem dX11_init_125 : decode cX11_init 125 = .ok (.putfield 56, 3) := by decide +kernel
theorem dX11_init_128 : decode cX11_init 128 = .ok (.aload_n 0, 1) := by decide +kernel
theorem dX11_init_129 : decode cX11_init 129 = .ok (.bipush 7, 2) := by decide +kernel
theorem dX11_init_131 : decode cX11_init 131 = .ok (.newarray .int, 2) := by decide +kernel
theorem dX11_init_133 : decode cX11_init 133 = .ok (.putfield 59, 3) := by decide +kernel
theorem dX11_init_136 : decode cX11_init 136 = .ok (.aload_n 0, 1) := by decide +kernel
theorem dX11_init_137 : decode cX11_init 137 = .ok (.sipush 528, 3) := by decide +kernel
theorem dX11_init_140 : decode cX11_init 140 = .ok (.newarray .int, 2) := by decide +kernel
theorem dX11_init_142 : decode cX11_init 142 = .ok (.putfield 62, 3) := by decide +kernel
theorem dX11_init_145 : decode cX11_init 145 = .ok (.aload_n 0, 1) := by decide +kernel
theorem dX11_init_146 : decode cX11_init 146 = .ok (.bipush 33, 2) := by decide +kernel
theorem dX11_init_148 : decode cX11_init 148 = .ok (.newarray .int, 2) := by decide +kernel
theorem dX11_init_150 : decode cX11_init 150 = .ok (.putfield 65, 3) := by decide +kernel
theorem dX11_init_153 : decode cX11_init 153 = .ok (.aload_n 0, 1) := by decide +kernel
theorem dX11_init_154 : decode cX11_init 154 = .ok (.sipush 224, 3) := by decide +kernel
theorem dX11_init_157 : decode cX11_init 157 = .ok (.newarray .int, 2) := by decide +kernel
theorem dX11_init_159 : decode cX11_init 159 = .ok (.putfield 68, 3) := by decide +kernel
theorem dX11_init_162 : decode cX11_init 162 = .ok (.aload_n 0, 1) := by decide +kernel
theorem dX11_init_163 : decode cX11_init 163 = .ok (.bipush 6, 2) := by decide +kernel
theorem dX11_init_165 : decode cX11_init 165 = .ok (.newarray .int, 2) := by decide +kernel
theorem dX11_init_167 : decode cX11_init 167 = .ok (.putfield 71, 3) := by decide +kernel
theorem dX11_init_170 : decode cX11_init 170 = .ok (.aload_n 0, 1) := by decide +kernel
theorem dX11_init_171 : decode cX11_init 171 = .ok (.bipush 6, 2) := by decide +kernel
theorem dX11_init_173 : decode cX11_init 173 = .ok (.newarray .int, 2) := by decide +kernel
theorem dX11_init_175 : decode cX11_init 175 = .ok (.putfield 74, 3) := by decide +kernel
theorem dX11_init_178 : decode cX11_init 178 = .ok (.aload_n 0, 1) := by decide +kernel
theorem dX11_init_179 : decode cX11_init 179 = .ok (.bipush 64, 2) := by decide +kernel
theorem dX11_init_181 : decode cX11_init 181 = .ok (.newarray .int, 2) := by decide +kernel
theorem dX11_init_183 : decode cX11_init 183 = .ok (.putfield 77, 3) := by decide +kernel
theorem dX11_init_186 : decode cX11_init 186 = .ok (.aload_n 0, 1) := by decide +kernel
theorem dX11_init_187 : decode cX11_init 187 = .ok (.bipush 15, 2) := by decide +kernel
theorem dX11_init_189 : decode cX11_init 189 = .ok (.newarray .int, 2) := by decide +kernel
theorem dX11_init_191 : decode cX11_init 191 = .ok (.putfield 80, 3) := by decide +kernel
theorem dX11_init_194 : decode cX11_init 194 = .ok (.aload_n 0, 1) := by decide +kernel
theorem dX11_init_195 : decode cX11_init 195 = .ok (.bipush 15, 2) := by decide +kernel
theorem dX11_init_197 : decode cX11_init 197 = .ok (.newarray .int, 2) := by decide +kernel
theorem dX11_init_199 : decode cX11_init 199 = .ok (.putfield 83, 3) := by decide +kernel
theorem dX11_init_202 : decode cX11_init 202 = .ok (.aload_n 0, 1) := by decide +kernel
theorem dX11_init_203 : decode cX11_init 203 = .ok (.bipush 68, 2) := by decide +kernel
theorem dX11_init_205 : decode cX11_init 205 = .ok (.newarray .int, 2) := by decide +kernel
theorem dX11_init_207 : decode cX11_init 207 = .ok (.putfield 86, 3) := by decide +kernel
theorem dX11_init_210 : decode cX11_init 210 = .ok (.aload_n 0, 1) := by decide +kernel
theorem dX11_init_211 : decode cX11_init 211 = .ok (.iconst 2, 1) := by decide +kernel
theorem dX11_init_212 : decode cX11_init 212 = .ok (.newarray .boolean, 2) := by decide +kernel
theorem dX11_init_214 : decode cX11_init 214 = .ok (.putfield 89, 3) := by decide +kernel
theorem dX11_init_217 : decode cX11_init 217 = .ok (.aload_n 0, 1) := by decide +kernel
theorem dX11_init_218 : decode cX11_init 218 = .ok (.iconst 0, 1) := by decide +kernel
theorem dX11_init_219 : decode cX11_init 219 = .ok (.putfield 93, 3) := by decide +kernel
theorem dX11_init_222 : decode cX11_init 222 = .ok (.return_, 1) := by decide +kernel
