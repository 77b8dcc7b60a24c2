/-! ===== reading a text: the class's clauses ===== -/
theorem FS.ne {M : jw_Mem} {e : Er} (h : FS M (some e)) : ¬ M 7 0 3 = 0 := by
  rw [h.1]; exact nI_ne0 h.2.1 (by have := h.2.2.1; omega)
theorem FS.a7 {M M2 : jw_Mem} {o : Option Er} (h : FS M o) (f : ∀ j, M2 7 0 j = M 7 0 j) : FS M2 o := by
  cases o with
  | none => exact ⟨(f 3).trans h.1, (f 4).trans h.2⟩
  | some e => exact ⟨(f 3).trans h.1, h.2.1, h.2.2.1, (f 4).trans h.2.2.2⟩
abbrev PK (M : jw_Mem) (Q : Int32 → jw_Mem → Prop) (L : Nat) (r : Except Er (Nat × DS)) : Prop := (∀ c w, r = .error (c, w) → ∀ M2 i2, agr Gd M M2 → AT M2 L i2 → FS M2 (some (c, w)) → Q 0 M2) ∧ (∀ j D', r = .ok (j, D') → ∀ M2, agr Gd M M2 → AT M2 L j → FS M2 none → dK M2 D' → Q 0 M2)
section RC
variable {x : Nat → Int32} {L i : Nat} {D : DS} {M : jw_Mem} {Q : Int32 → jw_Mem → Prop}
theorem k_term (ht : tK M x L) (ha : AT M L i) (hF : FS M none) (hd : dK M D) (h : PK M Q L (cls x L (flT x L i D))) : jw_M 2 mX7_readTerm [vr 7 0] M Q := by
  refine en_X7_readTerm (k_num (lo := 1) (hi := 9) (by decide) (by decide) ht ha hF (fun c w E M2 i2 v f2 a2 F2 => ?_) (fun n e E M2 f2 a2 F2 => ?_))
  · exact k_semiF (ht.ag f2.kd) a2 F2 (fun M4 i4 f4 a4 F4 => ⟨fun _ => h.1 c w (by simp only [cls, flT, E]) M4 i4 (f2.tr f4).kd a4 F4, fun z => absurd z F4.ne⟩)
  · refine k_semi (ht.ag f2.kd) a2 F2 (fun c w E2 M4 i4 f4 a4 F4 => ⟨fun _ => h.1 c w (by simp only [cls, flT, E, E2]) M4 i4 (f2.tr f4).kd a4 F4, fun z => absurd z (FS.ne F4)⟩) (fun j E2 M4 f4 a4 F4 => ⟨fun z => absurd F4.1 z, fun _ => ?_⟩)
    rintro _ rfl
    have d4 := hd.ag (f2.tr f4)
    refine h.2 j _ (by simp only [cls, flT, E, E2]; rfl) _ (up_agr (f2.tr f4).kd (by show ¬ (_ ∧ _); omega)) ⟨(up_ne (by omega)).trans a4.1, a4.2⟩ (F4.a7 (fun j => up_ne (by omega))) ?_
    obtain ⟨⟨h1, h2, h3, h4⟩, h5, h6, h7⟩ := d4
    exact ⟨⟨up_eq, (up_ne (by omega)).trans h2, (up_ne (by omega)).trans h3, (up_ne (by omega)).trans h4⟩, fun j hj => (up_ne (by omega)).trans (h5 j hj), fun j hj => ⟨(up_ne (by omega)).trans (h6 j hj).1, (up_ne (by omega)).trans (h6 j hj).2.1, (up_ne (by omega)).trans (h6 j hj).2.2⟩, fun j hj => ⟨(up_ne (by omega)).trans (h7 j hj).1, (up_ne (by omega)).trans (h7 j hj).2.1, (up_ne (by omega)).trans (h7 j hj).2.2⟩⟩
theorem k_plin (ht : tK M x L) (ha : AT M L i) (hF : FS M none) (hd : dK M D) (hP : D.P < 5) (h : PK M Q L (cls x L (flP x L i D))) : jw_M 2 mX7_readPlinth [vr 7 0] M Q := by
  refine en_X7_readPlinth (k_num (lo := 0) (hi := 99) (by decide) (by decide) ht ha hF (fun c w E M2 i2 v f2 a2 F2 => ?_) (fun n e E M2 f2 a2 F2 => ?_))
  · exact k_semiF (ht.ag f2.kd) a2 F2 (fun M4 i4 f4 a4 F4 => ⟨fun _ => h.1 c w (by simp only [cls, flP, E]) M4 i4 (f2.tr f4).kd a4 F4, fun z => absurd z F4.ne⟩)
  · refine k_semi (ht.ag f2.kd) a2 F2 (fun c w E2 M4 i4 f4 a4 F4 => ⟨fun _ => h.1 c w (by simp only [cls, flP, E, E2]) M4 i4 (f2.tr f4).kd a4 F4, fun z => absurd z (FS.ne F4)⟩) (fun j E2 M4 f4 a4 F4 => ⟨fun z => absurd F4.1 z, fun _ => en_X1_addPlinth (by decide) ?_⟩)
    have d4 := hd.ag (f2.tr f4)
    rw [d4.1.2.1]
    refine ⟨fun z => absurd z (nI_ge (b := 5) hP (by decide)), fun _ => ⟨vp_in_nI hP (by decide), ?_⟩⟩
    rw [cl_i (by omega)]
    rintro M5 rfl M6 rfl
    have e5 : jw_up M4 14 1 D.P (nI n) 1 1 1 = nI D.P := (up_ne (by omega)).trans d4.1.2.1
    rw [e5, nI_1]
    refine h.2 j _ (by simp only [cls, flP, E, E2]; rfl) _ (up_agr (up_agr (f2.tr f4).kd (by show ¬ (_ ∧ _); omega)) (by show ¬ (_ ∧ _); omega)) ⟨(up_ne (by omega)).trans ((up_ne (by omega)).trans a4.1), a4.2⟩ (F4.a7 (fun j => (up_ne (by omega)).trans (up_ne (by omega)))) ?_
    obtain ⟨⟨h1, h2, h3, h4⟩, h5, h6, h7⟩ := d4
    have g : ∀ k j, ¬ (k = 14 ∧ j = D.P) → ¬ (k = 1 ∧ j = 1) → jw_up (jw_up M4 14 1 D.P (nI n)) 1 1 1 (nI (D.P + 1)) k 1 j = M4 k 1 j := fun k j q1 q2 => (up_ne (by omega)).trans (up_ne (by omega))
    refine ⟨⟨(g _ _ (by omega) (by omega)).trans h1, up_eq, (g _ _ (by omega) (by omega)).trans h3, (g _ _ (by omega) (by omega)).trans h4⟩, fun j hj => ?_, fun j hj => ⟨(g _ _ (by omega) (by omega)).trans (h6 j hj).1, (g _ _ (by omega) (by omega)).trans (h6 j hj).2.1, (g _ _ (by omega) (by omega)).trans (h6 j hj).2.2⟩, fun j hj => ⟨(g _ _ (by omega) (by omega)).trans (h7 j hj).1, (g _ _ (by omega) (by omega)).trans (h7 j hj).2.1, (g _ _ (by omega) (by omega)).trans (h7 j hj).2.2⟩⟩
    show _ = setA D.A 0 D.P (nI n) 0 j
    have hj : j < D.P + 1 := hj
    by_cases z : j = D.P
    · subst z; rw [setA_eq', up_ne (by omega), up_eq]
    · rw [setA_ne' (fun y => z y.2)]
      exact (g _ _ (by omega) (by omega)).trans (h5 j (by omega))
theorem k_stat (ht : tK M x L) (ha : AT M L i) (hF : FS M none) (hd : dK M D) (hB : dB D) (hS : D.S < 6) (h : PK M Q L (cls x L (flS x L i D))) : jw_M 3 mX7_readStatue [vr 7 0] M Q := by
  refine en_X7_readStatue (k_num (lo := 0) (hi := 3) (by decide) (by decide) ht ha hF (fun c w E M2 i2 v f2 a2 F2 => ?_) (fun k e E M2 f2 a2 F2 => ?_))
  · refine k_placeF (ht.ag f2.kd) a2 F2 (hd.ag f2) hB (fun M4 i4 v4 f4 a4 F4 => k_numF (lo := 0) (hi := 99) (by decide) (by decide) (ht.ag (f2.tr f4).kd) a4 F4 (fun M6 i6 v6 f6 a6 F6 => k_semiF (ht.ag ((f2.tr f4).tr f6).kd) a6 F6 (fun M8 i8 f8 a8 F8 => ⟨fun _ => h.1 c w (by simp only [cls, flS, E]) M8 i8 (((f2.tr f4).tr f6).tr f8).kd a8 F8, fun z => absurd z F8.ne⟩)))
  · refine k_place (ht.ag f2.kd) a2 F2 (hd.ag f2) hB (fun c w E2 M4 i4 v4 f4 a4 F4 => k_numF (lo := 0) (hi := 99) (by decide) (by decide) (ht.ag (f2.tr f4).kd) a4 F4 (fun M6 i6 v6 f6 a6 F6 => k_semiF (ht.ag ((f2.tr f4).tr f6).kd) a6 F6 (fun M8 i8 f8 a8 F8 => ⟨fun _ => h.1 c w (by simp only [cls, flS, E, E2]) M8 i8 (((f2.tr f4).tr f6).tr f8).kd a8 F8, fun z => absurd z F8.ne⟩))) (fun p e2 E2 M4 f4 a4 F4 => ?_)
    refine k_num (lo := 0) (hi := 99) (by decide) (by decide) (ht.ag (f2.tr f4).kd) a4 F4 (fun c w E3 M6 i6 v6 f6 a6 F6 => k_semiF (ht.ag ((f2.tr f4).tr f6).kd) a6 F6 (fun M8 i8 f8 a8 F8 => ⟨fun _ => h.1 c w (by simp only [cls, flS, E, E2, E3]) M8 i8 (((f2.tr f4).tr f6).tr f8).kd a8 F8, fun z => absurd z F8.ne⟩)) (fun w e3 E3 M6 f6 a6 F6 => ?_)
    refine k_semi (ht.ag ((f2.tr f4).tr f6).kd) a6 F6 (fun c w E4 M8 i8 f8 a8 F8 => ⟨fun _ => h.1 c w (by simp only [cls, flS, E, E2, E3, E4]) M8 i8 (((f2.tr f4).tr f6).tr f8).kd a8 F8, fun z => absurd z (FS.ne F8)⟩) (fun j E4 M8 f8 a8 F8 => ⟨fun z => absurd F8.1 z, fun _ => en_X1_addStatue (by decide) ?_⟩)
    have fa := ((f2.tr f4).tr f6).tr f8
    have d4 := hd.ag fa
    rw [d4.1.2.2.1, cl_i (by omega)]
    refine ⟨fun z => absurd z (nI_ge (b := 6) hS (by decide)), fun _ => ⟨vp_in_nI hS (by decide), ?_⟩⟩
    rintro M9 rfl
    have e9 : jw_up M8 15 1 D.S (nI k) 1 1 2 = nI D.S := (up_ne (by omega)).trans d4.1.2.2.1
    rw [e9, cl_i (by omega)]
    refine ⟨vp_in_nI hS (by decide), ?_⟩
    rintro M10 rfl
    have e10 : jw_up (jw_up M8 15 1 D.S (nI k)) 17 1 D.S p 1 1 2 = nI D.S := (up_ne (by omega)).trans e9
    rw [e10, cl_i (by omega)]
    refine ⟨vp_in_nI hS (by decide), ?_⟩
    rintro M11 rfl M12 rfl
    have e11 : jw_up (jw_up (jw_up M8 15 1 D.S (nI k)) 17 1 D.S p) 16 1 D.S (nI w) 1 1 2 = nI D.S := (up_ne (by omega)).trans e10
    rw [e11, nI_1]
    have g : ∀ k' i' j', ¬ (i' = 1 ∧ (k' = 15 ∨ k' = 16 ∨ k' = 17) ∧ j' = D.S) → ¬ (i' = 1 ∧ k' = 1 ∧ j' = 2) → jw_up (jw_up (jw_up (jw_up M8 15 1 D.S (nI k)) 17 1 D.S p) 16 1 D.S (nI w)) 1 1 2 (nI (D.S + 1)) k' i' j' = M8 k' i' j' := fun k' i' j' q1 q2 => (up_ne (by omega)).trans ((up_ne (by omega)).trans ((up_ne (by omega)).trans (up_ne (by omega))))
    refine h.2 j _ (by simp only [cls, flS, E, E2, E3, E4]; rfl) _ (fa.kd.tr (fun k' i' j' z => g k' i' j' (by omega) (by omega))) ⟨(g _ _ _ (by omega) (by omega)).trans a8.1, a8.2⟩ (F8.a7 (fun j => g _ _ _ (by omega) (by omega))) ?_
    obtain ⟨⟨h1, h2, h3, h4⟩, h5, h6, h7⟩ := d4
    refine ⟨⟨(g _ _ _ (by omega) (by omega)).trans h1, (g _ _ _ (by omega) (by omega)).trans h2, up_eq, (g _ _ _ (by omega) (by omega)).trans h4⟩, fun j hj => (g _ _ _ (by omega) (by omega)).trans (h5 j hj), fun j hj => ?_, fun j hj => ⟨(g _ _ _ (by omega) (by omega)).trans (h7 j hj).1, (g _ _ _ (by omega) (by omega)).trans (h7 j hj).2.1, (g _ _ _ (by omega) (by omega)).trans (h7 j hj).2.2⟩⟩
    show _ = setA (setA (setA D.A 1 D.S (nI k)) 5 D.S p) 2 D.S (nI w) 1 j ∧ _ = setA (setA (setA D.A 1 D.S (nI k)) 5 D.S p) 2 D.S (nI w) 2 j ∧ _ = setA (setA (setA D.A 1 D.S (nI k)) 5 D.S p) 2 D.S (nI w) 5 j
    have hj : j < D.S + 1 := hj
    by_cases z : j = D.S
    · subst z
      simp [setA, up_val]
    · obtain ⟨q1, q2, q3⟩ := h6 j (by omega)
      simp [setA, z]
      exact ⟨(g _ _ _ (by omega) (by omega)).trans q1, (g _ _ _ (by omega) (by omega)).trans q2, (g _ _ _ (by omega) (by omega)).trans q3⟩
theorem k_walk2 (ht : tK M x L) (ha : AT M L i) (hF : FS M none) (hd : dK M D) (hB : dB D) (hS : D.W < 7) (h : PK M Q L (cls x L (flW x L i D))) : jw_M 2 mX7_readWalker [vr 7 0] M Q := by
  have hP5 := hB.1.2.1
  have hS6 := hB.1.2.2.1
  have hp : 2 ^ D.P ≤ 128 := pow_le (Nat.le_refl _) (by omega)
  have hs : 2 ^ D.S ≤ 128 := pow_le (Nat.le_refl _) (by omega)
  refine en_X7_readWalker ?_
  rw [hd.1.2.1, sh1 _ (by omega), pow_pred _ (by omega)]
  refine k_num (lo := 0) (by decide) (by omega) ht ha hF (fun c w E M2 i2 v f2 a2 F2 => ?_) (fun k e E M2 f2 a2 F2 => ?_)
  · refine k_numF (lo := 1) (hi := 9) (by decide) (by decide) (ht.ag f2.kd) a2 F2 (fun M4 i4 v4 f4 a4 F4 => ?_)
    rw [(hd.ag (f2.tr f4)).1.2.2.1, sh1 _ (by omega), pow_pred _ (by omega)]
    exact k_numF (lo := 0) (by decide) (by omega) (ht.ag (f2.tr f4).kd) a4 F4 (fun M6 i6 v6 f6 a6 F6 => k_semiF (ht.ag ((f2.tr f4).tr f6).kd) a6 F6 (fun M8 i8 f8 a8 F8 => ⟨fun _ => h.1 c w (by simp only [cls, flW, E]) M8 i8 (((f2.tr f4).tr f6).tr f8).kd a8 F8, fun z => absurd z F8.ne⟩))
  · refine k_num (lo := 1) (hi := 9) (by decide) (by decide) (ht.ag f2.kd) a2 F2 (fun c w E2 M4 i4 v4 f4 a4 F4 => ?_) (fun v e2 E2 M4 f4 a4 F4 => ?_)
    · rw [(hd.ag (f2.tr f4)).1.2.2.1, sh1 _ (by omega), pow_pred _ (by omega)]
      exact k_numF (lo := 0) (by decide) (by omega) (ht.ag (f2.tr f4).kd) a4 F4 (fun M6 i6 v6 f6 a6 F6 => k_semiF (ht.ag ((f2.tr f4).tr f6).kd) a6 F6 (fun M8 i8 f8 a8 F8 => ⟨fun _ => h.1 c w (by simp only [cls, flW, E, E2]) M8 i8 (((f2.tr f4).tr f6).tr f8).kd a8 F8, fun z => absurd z F8.ne⟩))
    · rw [(hd.ag (f2.tr f4)).1.2.2.1, sh1 _ (by omega), pow_pred _ (by omega)]
      refine k_num (lo := 0) (by decide) (by omega) (ht.ag (f2.tr f4).kd) a4 F4 (fun c w E3 M6 i6 v6 f6 a6 F6 => k_semiF (ht.ag ((f2.tr f4).tr f6).kd) a6 F6 (fun M8 i8 f8 a8 F8 => ⟨fun _ => h.1 c w (by simp only [cls, flW, E, E2, E3]) M8 i8 (((f2.tr f4).tr f6).tr f8).kd a8 F8, fun z => absurd z F8.ne⟩)) (fun l e3 E3 M6 f6 a6 F6 => ?_)
      refine k_semi (ht.ag ((f2.tr f4).tr f6).kd) a6 F6 (fun c w E4 M8 i8 f8 a8 F8 => ⟨fun _ => h.1 c w (by simp only [cls, flW, E, E2, E3, E4]) M8 i8 (((f2.tr f4).tr f6).tr f8).kd a8 F8, fun z => absurd z (FS.ne F8)⟩) (fun j E4 M8 f8 a8 F8 => ⟨fun z => absurd F8.1 z, fun _ => en_X1_addWalker (by decide) ?_⟩)
      have fa := ((f2.tr f4).tr f6).tr f8
      have d4 := hd.ag fa
      rw [d4.1.2.2.2, cl_i (by omega)]
      refine ⟨fun z => absurd z (nI_ge (b := 7) hS (by decide)), fun _ => ⟨vp_in_nI hS (by decide), ?_⟩⟩
      rintro M9 rfl
      have e9 : jw_up M8 19 1 D.W (nI k) 1 1 3 = nI D.W := (up_ne (by omega)).trans d4.1.2.2.2
      rw [e9, cl_i (by omega)]
      refine ⟨vp_in_nI hS (by decide), ?_⟩
      rintro M10 rfl
      have e10 : jw_up (jw_up M8 19 1 D.W (nI k)) 18 1 D.W (nI v) 1 1 3 = nI D.W := (up_ne (by omega)).trans e9
      rw [e10, cl_i (by omega)]
      refine ⟨vp_in_nI hS (by decide), ?_⟩
      rintro M11 rfl M12 rfl
      have e11 : jw_up (jw_up (jw_up M8 19 1 D.W (nI k)) 18 1 D.W (nI v)) 20 1 D.W (nI l) 1 1 3 = nI D.W := (up_ne (by omega)).trans e10
      rw [e11, nI_1]
      have g : ∀ k' i' j', ¬ (i' = 1 ∧ (k' = 18 ∨ k' = 19 ∨ k' = 20) ∧ j' = D.W) → ¬ (i' = 1 ∧ k' = 1 ∧ j' = 3) → jw_up (jw_up (jw_up (jw_up M8 19 1 D.W (nI k)) 18 1 D.W (nI v)) 20 1 D.W (nI l)) 1 1 3 (nI (D.W + 1)) k' i' j' = M8 k' i' j' := fun k' i' j' q1 q2 => (up_ne (by omega)).trans ((up_ne (by omega)).trans ((up_ne (by omega)).trans (up_ne (by omega))))
      refine h.2 j _ (by simp only [cls, flW, E, E2, E3, E4]; rfl) _ (fa.kd.tr (fun k' i' j' z => g k' i' j' (by omega) (by omega))) ⟨(g _ _ _ (by omega) (by omega)).trans a8.1, a8.2⟩ (F8.a7 (fun j => g _ _ _ (by omega) (by omega))) ?_
      obtain ⟨⟨h1, h2, h3, h4⟩, h5, h6, h7⟩ := d4
      refine ⟨⟨(g _ _ _ (by omega) (by omega)).trans h1, (g _ _ _ (by omega) (by omega)).trans h2, (g _ _ _ (by omega) (by omega)).trans h3, up_eq⟩, fun j hj => (g _ _ _ (by omega) (by omega)).trans (h5 j hj), fun j hj => ⟨(g _ _ _ (by omega) (by omega)).trans (h6 j hj).1, (g _ _ _ (by omega) (by omega)).trans (h6 j hj).2.1, (g _ _ _ (by omega) (by omega)).trans (h6 j hj).2.2⟩, fun j hj => ?_⟩
      show _ = setA (setA (setA D.A 6 D.W (nI k)) 3 D.W (nI v)) 7 D.W (nI l) 3 j ∧ _ = setA (setA (setA D.A 6 D.W (nI k)) 3 D.W (nI v)) 7 D.W (nI l) 6 j ∧ _ = setA (setA (setA D.A 6 D.W (nI k)) 3 D.W (nI v)) 7 D.W (nI l) 7 j
      have hj : j < D.W + 1 := hj
      by_cases z : j = D.W
      · subst z
        simp [setA, up_val]
      · obtain ⟨q1, q2, q3⟩ := h7 j (by omega)
        simp [setA, z]
        exact ⟨(g _ _ _ (by omega) (by omega)).trans q1, (g _ _ _ (by omega) (by omega)).trans q2, (g _ _ _ (by omega) (by omega)).trans q3⟩
theorem ti {c : Int32} {k : Int} (d : Int32) (h : c.toInt = k) (hd : d.toInt = k) : c = d := Int32.toInt_inj.mp (h.trans hd.symm)
theorem fw_no {c : Int32} {D : DS} (h1 : ¬ c = 116) (h2 : ¬ c = 112) (h3 : ¬ c = 115) (h4 : ¬ c = 119) : fw c D = 1 := by
  unfold fw
  rw [if_neg h1, if_neg h2, if_neg h3, if_neg h4]
theorem fw_116 {D : DS} : fw 116 D = (if D.T = 0 then 0 else 3) := if_pos rfl
theorem fw_112 {D : DS} : fw 112 D = (if D.T = 0 ∨ 0 < D.W then 1 else if D.P < 5 then 0 else 3) := (if_neg (by decide)).trans (if_pos rfl)
theorem fw_115 {D : DS} : fw 115 D = (if D.T = 0 ∨ 0 < D.W then 1 else if D.S < 6 then 0 else 3) := (if_neg (by decide)).trans ((if_neg (by decide)).trans (if_pos rfl))
theorem fw_119 {D : DS} : fw 119 D = (if D.T = 0 then 1 else if D.W < 7 then 0 else 3) := (if_neg (by decide)).trans ((if_neg (by decide)).trans ((if_neg (by decide)).trans (if_pos rfl)))
theorem k_word (hd : dK M D) (hB : dB D) {c : Int32} (h : Q (nI (fw c D)) M) : jw_M 0 mX7_faultOfWord [vr 7 0, vi c] M Q := by
  obtain ⟨⟨b1, b2, b3, b4⟩, _⟩ := hB
  obtain ⟨⟨h1, h2, h3, h4⟩, _⟩ := hd
  have out : c.toInt < 112 ∨ 119 < c.toInt → Q 1 M := fun z => by
    have e : fw c D = 1 := fw_no (fun y => by rw [y] at z; exact absurd z (by decide)) (fun y => by rw [y] at z; exact absurd z (by decide)) (fun y => by rw [y] at z; exact absurd z (by decide)) (fun y => by rw [y] at z; exact absurd z (by decide))
    rw [e] at h; exact h
  have o113 : c.toInt = 113 → Q 1 M := fun z => by obtain rfl := ti 113 z (by decide); rw [fw_no (by decide) (by decide) (by decide) (by decide)] at h; exact h
  have o114 : c.toInt = 114 → Q 1 M := fun z => by obtain rfl := ti 114 z (by decide); rw [fw_no (by decide) (by decide) (by decide) (by decide)] at h; exact h
  have o117 : c.toInt = 117 → Q 1 M := fun z => by obtain rfl := ti 117 z (by decide); rw [fw_no (by decide) (by decide) (by decide) (by decide)] at h; exact h
  have o118 : c.toInt = 118 → Q 1 M := fun z => by obtain rfl := ti 118 z (by decide); rw [fw_no (by decide) (by decide) (by decide) (by decide)] at h; exact h
  have hT : ∀ {p : Prop}, (D.T = 0 → p) → (nI D.T = 0 → p) := fun f y => f ((nI_eq (b := 0) (by omega) (by decide)).mp y)
  have hT' : ¬ nI D.T = 0 → ¬ D.T = 0 := fun y z => y (by rw [z]; rfl)
  have hT2 : nI D.T = 0 → D.T = 0 := fun y => (nI_eq (b := 0) (by omega) (by decide)).mp y
  have hW0 : nI D.W ≤ 0 → ¬ 0 < D.W := fun y => by have := (nI_le0 (by omega)).mp y; omega
  have hW1 : ¬ nI D.W ≤ 0 → 0 < D.W := fun y => Nat.pos_of_ne_zero (fun z => y ((nI_le0 (by omega)).mpr z))
  refine en_X7_faultOfWord ?_
  rw [h1, h2, h3, h4]
  refine ⟨fun t => ⟨fun w => ⟨out, fun z => ?_, o113, o114, fun z => ?_, fun z => ?_, o117, o118, fun z => ?_⟩, fun w => ⟨out, fun z => ?_, o113, o114, fun z => ?_, fun z => ?_, o117, o118, fun z => ?_⟩⟩, fun t => ⟨fun w => ⟨out, fun z => ?_, o113, o114, fun z => ?_, fun z => ?_, o117, o118, fun z => ?_⟩, fun w => ⟨out, fun z => ?_, o113, o114, fun z => ?_, fun z => ?_, o117, o118, fun z => ?_⟩⟩⟩
  · obtain rfl := ti 112 z (by decide)
    rw [fw_112, if_neg (fun y => y.elim (hT' t) (hW0 w))] at h
    refine ⟨fun y => ?_, fun y => ?_⟩
    · rw [if_neg (by have := (nI_leI (a := 5) (by decide) (by omega)).mp y; omega)] at h; exact h
    · rw [if_pos (Decidable.byContradiction (fun q => y (nI_le (a := 5) (by omega) (by omega))))] at h; exact h
  · obtain rfl := ti 115 z (by decide)
    rw [fw_115, if_neg (fun y => y.elim (hT' t) (hW0 w))] at h
    refine ⟨fun y => ?_, fun y => ?_⟩
    · rw [if_neg (by have := (nI_leI (a := 6) (by decide) (by omega)).mp y; omega)] at h; exact h
    · rw [if_pos (Decidable.byContradiction (fun q => y (nI_le (a := 6) (by omega) (by omega))))] at h; exact h
  · obtain rfl := ti 116 z (by decide)
    rw [fw_116, if_neg (hT' t)] at h; exact h
  · obtain rfl := ti 119 z (by decide)
    rw [fw_119, if_neg (hT' t)] at h
    refine ⟨fun y => ?_, fun y => ?_⟩
    · rw [if_neg (by have := (nI_leI (a := 7) (by decide) (by omega)).mp y; omega)] at h; exact h
    · rw [if_pos (Decidable.byContradiction (fun q => y (nI_le (a := 7) (by omega) (by omega))))] at h; exact h
  · obtain rfl := ti 112 z (by decide)
    rw [fw_112, if_pos (Or.inr (hW1 w))] at h; exact h
  · obtain rfl := ti 115 z (by decide)
    rw [fw_115, if_pos (Or.inr (hW1 w))] at h; exact h
  · obtain rfl := ti 116 z (by decide)
    rw [fw_116, if_neg (hT' t)] at h; exact h
  · obtain rfl := ti 119 z (by decide)
    rw [fw_119, if_neg (hT' t)] at h
    refine ⟨fun y => ?_, fun y => ?_⟩
    · rw [if_neg (by have := (nI_leI (a := 7) (by decide) (by omega)).mp y; omega)] at h; exact h
    · rw [if_pos (Decidable.byContradiction (fun q => y (nI_le (a := 7) (by omega) (by omega))))] at h; exact h
  · obtain rfl := ti 112 z (by decide)
    rw [fw_112, if_pos (Or.inl (hT2 t))] at h; exact h
  · obtain rfl := ti 115 z (by decide)
    rw [fw_115, if_pos (Or.inl (hT2 t))] at h; exact h
  · obtain rfl := ti 116 z (by decide)
    rw [fw_116, if_pos (hT2 t)] at h; exact h
  · obtain rfl := ti 119 z (by decide)
    rw [fw_119, if_pos (hT2 t)] at h; exact h
  · obtain rfl := ti 112 z (by decide)
    rw [fw_112, if_pos (Or.inl (hT2 t))] at h; exact h
  · obtain rfl := ti 115 z (by decide)
    rw [fw_115, if_pos (Or.inl (hT2 t))] at h; exact h
  · obtain rfl := ti 116 z (by decide)
    rw [fw_116, if_pos (hT2 t)] at h; exact h
  · obtain rfl := ti 119 z (by decide)
    rw [fw_119, if_pos (hT2 t)] at h; exact h
theorem fw_range {c : Int32} {D : DS} (h : ¬ fw c D = 0) : 1 ≤ fw c D ∧ fw c D ≤ 4 := by
  have : fw c D = 0 ∨ fw c D = 1 ∨ fw c D = 3 := by
    unfold fw
    repeat' split
    all_goals simp
  omega
theorem k_clause (ht : tK M x L) (ha : AT M L i) (hi : i < L) (hF : FS M none) (hd : dK M D) (hB : dB D) (h : PK M Q L (clause x L i D)) : jw_M 4 mX7_readClause [vr 7 0] M Q := by
  have hL := ht.2.1
  refine en_X7_readClause (k_letter ht ha ?_)
  have eh : hr x L i = x i := if_pos hi
  rw [eh]
  refine k_word hd hB ⟨fun z => ?_, fun z => ?_⟩
  · have fr3 : fw (x i) D ≤ 4 := by
      by_cases q : fw (x i) D = 0
      · omega
      · exact (fw_range q).2
    have f0 : fw (x i) D = 0 := (nI_eq (b := 0) (by omega) (by decide)).mp z
    rintro M5 hM5
    have f5 : agr G1 M M5 := by rw [hM5]; exact up_agr agr.rf (by show ¬ ¬ _; omega)
    have a5 : AT M5 L (i + 1) := ⟨by rw [hM5, up_eq, ha.1, nI_1], hi⟩
    have F5 : FS M5 none := hF.ag f5
    have t5 : tK M5 x L := ht.ag f5.k1.kd
    have d5 : dK M5 D := hd.ag f5.k1
    have h5 : ∀ r, clause x L i D = r → PK M5 Q L r := fun r e => by
      subst e
      exact ⟨fun c w E M2 i2 f2 a2 F2 => h.1 c w E M2 i2 (f5.k1.kd.tr f2) a2 F2, fun j D' E M2 f2 a2 F2 d2 => h.2 j D' E M2 (f5.k1.kd.tr f2) a2 F2 d2⟩
    unfold clause at h5
    rw [if_pos f0] at h5
    unfold flC at h5
    by_cases q1 : x i = 116
    · rw [if_pos q1] at h5
      have tt : (x i).toInt = 116 := by rw [q1]; decide
      exact ⟨fun y => by omega, fun y => by omega, fun y => by omega, fun y => by omega, fun y => by omega, fun _ => k_term t5 a5 F5 d5 (h5 _ rfl)⟩
    · rw [if_neg q1] at h5
      by_cases q2 : x i = 112
      · rw [if_pos q2] at h5
        have tt : (x i).toInt = 112 := by rw [q2]; decide
        have hP : D.P < 5 := by
          rw [q2, fw_112] at f0
          split at f0
          · exact absurd f0 (by decide)
          · split at f0
            · assumption
            · exact absurd f0 (by decide)
        exact ⟨fun y => by omega, fun _ => k_plin t5 a5 F5 d5 hP (h5 _ rfl), fun y => by omega, fun y => by omega, fun y => by omega, fun y => by omega⟩
      · rw [if_neg q2] at h5
        by_cases q3 : x i = 115
        · rw [if_pos q3] at h5
          have tt : (x i).toInt = 115 := by rw [q3]; decide
          have hS : D.S < 6 := by
            rw [q3, fw_115] at f0
            split at f0
            · exact absurd f0 (by decide)
            · split at f0
              · assumption
              · exact absurd f0 (by decide)
          exact ⟨fun y => by omega, fun y => by omega, fun y => by omega, fun y => by omega, fun _ => k_stat t5 a5 F5 d5 hB hS (h5 _ rfl), fun y => by omega⟩
        · rw [if_neg q3] at h5
          have q4 : x i = 119 := Decidable.byContradiction (fun q4 => by rw [fw_no q1 q2 q3 q4] at f0; exact absurd f0 (by decide))
          have tt : (x i).toInt = 119 := by rw [q4]; decide
          have hW : D.W < 7 := by
            rw [q4, fw_119] at f0
            split at f0
            · exact absurd f0 (by decide)
            · split at f0
              · assumption
              · exact absurd f0 (by decide)
          exact ⟨fun _ => k_walk2 t5 a5 F5 d5 hB hW (h5 _ rfl), fun y => by omega, fun y => by omega, fun y => by omega, fun y => by omega, fun y => by omega⟩
  · have f0 : ¬ fw (x i) D = 0 := fun y => z (by rw [y]; rfl)
    rw [ha.1]
    refine k_blame (fw_range f0) hF (fun M4 f4 F4 => h.1 _ _ (by unfold clause; rw [if_neg f0]) M4 i (agr.kd (f4.sub (fun k i j (z : ¬ _) => by omega))) ⟨(f4 7 0 1 (by omega)).trans ha.1, ha.2⟩ F4)
abbrev Ga : Nat → Nat → Nat → Prop := fun k i _ => k ≠ 7 ∧ ¬ (i = 1 ∧ (k = 1 ∨ (14 ≤ k ∧ k ≤ 20)))
theorem agr.ka {M M2 : jw_Mem} (f : agr Gd M M2) : agr Ga M M2 := f.sub (fun k i j z => by have z : _ ∧ _ := z; show _ ∧ _; omega)
abbrev PA (M : jw_Mem) (Q : Int32 → jw_Mem → Prop) (r : Except Er DS) : Prop := (∀ c w, r = .error (c, w) → ∀ M2, agr Ga M M2 → M2 7 0 2 = 0 → FS M2 (some (c, w)) → Q 0 M2) ∧ (∀ D', r = .ok D' → ∀ M2, agr Ga M M2 → M2 7 0 2 = 0 → FS M2 none → dK M2 D' → dB D' → Q 0 M2)
theorem fin_k {M : jw_Mem} {o : Option Er} (hF : FS M o) : agr Ga M (jw_up M 7 0 2 0) ∧ jw_up M 7 0 2 0 7 0 2 = 0 ∧ FS (jw_up M 7 0 2 0) o ∧ ∀ D, dK M D → dK (jw_up M 7 0 2 0) D := by
  have g : ∀ k i j, ¬ (k = 7 ∧ j = 2) → jw_up M 7 0 2 0 k i j = M k i j := fun k i j z => up_ne (by omega)
  refine ⟨up_agr agr.rf (by show ¬ (_ ∧ _); omega), up_eq, ?_, fun D hd => ?_⟩
  · cases o with
    | none => exact ⟨(g _ _ _ (by omega)).trans hF.1, (g _ _ _ (by omega)).trans hF.2⟩
    | some e => exact ⟨(g _ _ _ (by omega)).trans hF.1, hF.2.1, hF.2.2.1, (g _ _ _ (by omega)).trans hF.2.2.2⟩
  · obtain ⟨⟨h1, h2, h3, h4⟩, h5, h6, h7⟩ := hd
    exact ⟨⟨(g _ _ _ (by omega)).trans h1, (g _ _ _ (by omega)).trans h2, (g _ _ _ (by omega)).trans h3, (g _ _ _ (by omega)).trans h4⟩, fun j hj => (g _ _ _ (by omega)).trans (h5 j hj), fun j hj => ⟨(g _ _ _ (by omega)).trans (h6 j hj).1, (g _ _ _ (by omega)).trans (h6 j hj).2.1, (g _ _ _ (by omega)).trans (h6 j hj).2.2⟩, fun j hj => ⟨(g _ _ _ (by omega)).trans (h7 j hj).1, (g _ _ _ (by omega)).trans (h7 j hj).2.1, (g _ _ _ (by omega)).trans (h7 j hj).2.2⟩⟩
theorem k_loop : ∀ (r q i : Nat) (D : DS) (M : jw_Mem), q + r = 240 → q ≤ i → tK M x L → AT M L i → FS M none → dK M D → dB D → PA M Q (parse x L r i D) → jw_J 5 mX7_readAll 28 [(0, vr 7 0), (1, vi (nI q))] [] M Q
  | 0, q, i, D, M, hq, hqi, ht, ha, hF, hd, hB, h => by
    obtain rfl : q = 240 := by omega
    refine bk_X7_readAll_28 ⟨fun _ => ?_, fun z => absurd (Int32.le_refl _) z⟩
    rintro _ rfl
    obtain ⟨g1, g2, g3, g4⟩ := fin_k hF
    exact h.2 D rfl _ g1 g2 g3 (g4 D hd) hB
  | r + 1, q, i, D, M, hq, hqi, ht, ha, hF, hd, hB, h => by
    have hL := ht.2.1
    have hiL := ha.2
    refine bk_X7_readAll_28 ⟨fun z => absurd z (nI_ge (b := 240) (by omega) (by decide)), fun _ => ⟨fun z => absurd hF.1 z, fun _ => ?_⟩⟩
    rw [ha.1, ht.1]
    rw [parse] at h
    refine ⟨fun z => ?_, fun z => ?_⟩
    · rintro _ rfl
      rw [if_neg (by have := (nI_leI (by omega) (by omega)).mp z; omega)] at h
      obtain ⟨g1, g2, g3, g4⟩ := fin_k hF
      exact h.2 D rfl _ g1 g2 g3 (g4 D hd) hB
    · have hlt : i < L := Decidable.byContradiction (fun y => z (nI_le (by omega) (by omega)))
      rw [if_pos hlt] at h
      refine k_clause ht ha hlt hF hd hB ⟨fun c w E M2 i2 f2 a2 F2 => ?_, fun j D' E M2 f2 a2 F2 d2 => ?_⟩
      · refine k_skip (ht.ag f2) a2 (fun M4 f4 a4 => ?_)
        have F4 := F2.ag f4
        have ex : ∀ M8, M8 = jw_up M4 7 0 2 0 → Q 0 M8 := by
          rintro _ rfl
          obtain ⟨g1, g2, g3, g4⟩ := fin_k F4
          exact h.1 c w (by simp only [E]) _ ((f2.ka.tr f4.k1.kd.ka).tr g1) g2 g3
        exact bk_X7_readAll_28 ⟨fun _ => ex, fun _ => ⟨fun _ => ex, fun z => absurd z F4.ne⟩⟩
      · obtain ⟨hB', hij, hjL⟩ := clause_ok hlt hB E
        refine k_skip (ht.ag f2) a2 (fun M4 f4 a4 => ?_)
        rw [nI_1]
        have := (skp_le (x := x) hjL).1
        have fa : agr Ga M M4 := f2.ka.tr f4.k1.kd.ka
        refine k_loop r (q + 1) (skp x L j) D' M4 (by omega) (by omega) (ht.ag (f2.tr f4.k1.kd)) a4 (F2.ag f4) (d2.ag f4.k1) hB' ?_
        simp only [E] at h
        exact ⟨fun c w E2 M5 f5 e5 F5 => h.1 c w E2 M5 (fa.tr f5) e5 F5, fun D2 E2 M5 f5 e5 F5 d5 b5 => h.2 D2 E2 M5 (fa.tr f5) e5 F5 d5 b5⟩
def D0 : DS := (0, 0, 0, 0, fun _ _ => 0)
theorem D0B : dB D0 := ⟨⟨by decide, by decide, by decide, by decide⟩, fun _ => ⟨rfl, rfl, rfl⟩, fun j h => absurd h (Nat.not_lt_zero j), fun j h => absurd h (Nat.not_lt_zero j), fun j h => absurd h (Nat.not_lt_zero j), fun j h => absurd h (Nat.not_lt_zero j)⟩
theorem k_readAll (ht : tK M x L) (h : PA M Q (parse x L 240 (skp x L 0) D0)) : jw_M 5 mX7_readAll [vr 7 0] M Q := by
  refine en_X7_readAll (en_X1_clear (by decide) ?_)
  rintro M1 rfl M2 rfl M3 rfl M4 rfl M5 rfl M6 rfl M7 rfl
  generalize hM : jw_up (jw_up (jw_up (jw_up (jw_up (jw_up (jw_up M 1 1 0 0) 1 1 1 0) 1 1 2 0) 1 1 3 0) 7 0 1 0) 7 0 3 0) 7 0 4 (-1) = M8
  have f8 : agr Gd M M8 := by
    rw [← hM]
    refine up_agr (up_agr (up_agr (up_agr (up_agr (up_agr (up_agr agr.rf ?_) ?_) ?_) ?_) ?_) ?_) ?_ <;> (show ¬ (_ ∧ _); omega)
  have d8 : dK M8 D0 := by
    subst hM
    refine ⟨⟨?_, ?_, ?_, ?_⟩, fun j h => absurd h (Nat.not_lt_zero j), fun j h => absurd h (Nat.not_lt_zero j), fun j h => absurd h (Nat.not_lt_zero j)⟩ <;> simp [up_val] <;> rfl
  have F8 : FS M8 none := by subst hM; exact ⟨by simp [up_val], up_eq⟩
  have t8 : tK M8 x L := ht.ag f8
  have a8 : AT M8 L 0 := ⟨by subst hM; simp [up_val]; rfl, Nat.zero_le L⟩
  refine k_skip t8 a8 (fun M9 f9 a9 => ?_)
  have fa : agr Ga M M9 := f8.ka.tr f9.k1.kd.ka
  refine k_loop 240 0 _ D0 M9 rfl (Nat.zero_le _) (t8.ag f9.k1.kd) a9 (F8.ag f9) (d8.ag f9.k1) D0B ?_
  exact ⟨fun c w E2 M5 f5 e5 F5 => h.1 c w E2 M5 (fa.tr f5) e5 F5, fun D2 E2 M5 f5 e5 F5 d5 b5 => h.2 D2 E2 M5 (fa.tr f5) e5 F5 d5 b5⟩
end RC
