/-! ===== reading a text: the model's clauses ===== -/
abbrev Hk (k1 p : Nat) : Nat → Nat → Nat → Prop := fun k _ j => ¬ (k = 11 ∧ 15 ≤ j ∧ j ≤ 18) ∧ ¬ (k = k1 ∧ j = p)
theorem agr.hk {M M2 : jw_Mem} {k1 p : Nat} (f : agr (Hk k1 p) M M2) (h1 : 45 ≤ k1) (h2 : k1 ≤ 51) : agr Hm M M2 := f.sub (fun k i j (z : ¬ _) => by show _ ∧ _; omega)
section RN
variable {x : Nat → Int32} {L i : Nat} {D : DS} {M : jw_Mem} {Q : Int32 → jw_Mem → Prop}
theorem m_into {k1 p lo hi : Nat} (h1 : 45 ≤ k1) (h2 : k1 ≤ 51) (ha1 : jw_a k1 0) (hp : p < jw_len k1) (hlen : jw_len k1 < 2 ^ 31) (hl : lo ≤ 127) (hh : hi ≤ 127) (ht : tR M x L) (ha : M 11 0 16 = nI i) (hi' : i ≤ L) (he : ∀ c w, num x L lo hi i = .error (c, w) → ∀ M2, agr Hm M M2 → M2 11 0 15 = nI w → 1 ≤ c → c ≤ 4 → Q (nI c) M2) (hk : ∀ n e, num x L lo hi i = .ok (n, e) → ∀ M2, agr (Hk k1 p) M M2 → M2 11 0 16 = nI e → M2 k1 0 p = nI n → M2 11 0 15 = M 11 0 15 → Q 0 M2) : jw_M 2 mX11_into [vr 11 0, vr k1 0, vi (nI p), vi (nI lo), vi (nI hi)] M Q := by
  refine en_X11_into ha1 (m_num hl hh ht ha hi' (fun c w E M2 f2 e15 c1 c4 => ⟨vp_in_nI hp hlen, ?_⟩) (fun n e E M2 f2 e16 e17 e18 e15 => ⟨vp_in_nI hp hlen, ?_⟩))
  · rintro _ rfl
    rw [cl_i (by omega)]
    exact he c w E _ (up_agr f2.hn (by show ¬ ¬ _; omega)) ((up_ne (by omega)).trans e15) c1 c4
  · rintro _ rfl
    rw [cl_i (by omega)]
    exact hk n e E _ (up_agr (f2.sub (fun k i j z => z.1)) (by show ¬ (_ ∧ _); omega)) ((up_ne (by omega)).trans e16) (up_eq.trans e17) ((up_ne (by omega)).trans e15)
theorem m_term (ht : tR M x L) (ha : M 11 0 16 = nI i) (hi : i ≤ L) (hd : dR M D) (h : PM M Q (flT x L i D)) : jw_M 2 mX11_takeTerm [vr 11 0] M Q := by
  refine en_X11_takeTerm (m_num (lo := 1) (hi := 9) (by decide) (by decide) ht ha hi (fun c w E M2 f2 e15 c1 c4 => ?_) (fun n e E M2 f2 e16 e17 e18 e15 => ?_))
  · rintro _ rfl
    exact h.1 c w (by simp only [flT, E]) _ (up_agr f2.hn (by show ¬ ¬ _; omega)) ((up_ne (by omega)).trans e15) c1 c4
  · rintro _ rfl
    refine h.2 e _ (by simp only [flT, E]; rfl) _ (up_agr f2.hn (by show ¬ ¬ _; omega)) ((up_ne (by omega)).trans e16) ((up_ne (by omega)).trans e15) ?_
    obtain ⟨⟨h1, h2, h3, h4⟩, h5, h6, h7⟩ := hd.ag f2
    have g : ∀ k j, ¬ (k = 11 ∧ j = 19) → jw_up M2 11 0 19 (M2 11 0 17) k 0 j = M2 k 0 j := fun k j q => up_ne (by omega)
    exact ⟨⟨up_eq.trans e17, (g _ _ (by omega)).trans h2, (g _ _ (by omega)).trans h3, (g _ _ (by omega)).trans h4⟩, fun j hj => (g _ _ (by omega)).trans (h5 j hj), fun j hj => ⟨(g _ _ (by omega)).trans (h6 j hj).1, (g _ _ (by omega)).trans (h6 j hj).2.1, (g _ _ (by omega)).trans (h6 j hj).2.2⟩, fun j hj => ⟨(g _ _ (by omega)).trans (h7 j hj).1, (g _ _ (by omega)).trans (h7 j hj).2.1, (g _ _ (by omega)).trans (h7 j hj).2.2⟩⟩
theorem m_plin (ht : tR M x L) (ha : M 11 0 16 = nI i) (hi : i ≤ L) (hd : dR M D) (hP : D.P < 5) (h : PM M Q (flP x L i D)) : jw_M 3 mX11_takePlinth [vr 11 0] M Q := by
  refine en_X11_takePlinth ?_
  rintro M1 hM1
  have e20 : M1 11 0 20 = nI (D.P + 1) := by rw [hM1, up_eq, hd.1.2.1, nI_1]
  have f1 : agr (fun k _ j => ¬ (k = 11 ∧ j = 20)) M M1 := by rw [hM1]; exact up_agr agr.rf (by omega)
  have f1m : agr Hm M M1 := f1.sub (fun k i j (z : ¬ _) => by omega)
  rw [e20, nI_pred]
  refine m_into (k1 := 45) (lo := 0) (hi := 99) (by decide) (by decide) ⟨rfl, by decide⟩ hP (by decide) (by decide) (by decide) (ht.ag f1m) ((f1 _ _ _ (by omega)).trans ha) hi (fun c w E M2 f2 e15 c1 c4 => h.1 c w (by simp only [flP, E]) M2 (f1m.tr f2) e15 c1 c4) (fun n e E M2 f2 e16 ep e15 => ?_)
  refine h.2 e _ (by simp only [flP, E]; rfl) M2 (f1m.tr (f2.hk (by decide) (by decide))) e16 (e15.trans (f1 _ _ _ (by omega))) ?_
  obtain ⟨⟨h1, h2, h3, h4⟩, h5, h6, h7⟩ := hd
  have g : ∀ k j, ¬ (k = 11 ∧ 15 ≤ j ∧ j ≤ 18) → ¬ (k = 45 ∧ j = D.P) → ¬ (k = 11 ∧ j = 20) → M2 k 0 j = M k 0 j := fun k j q1 q2 q3 => (f2 _ _ _ (by show _ ∧ _; omega)).trans (f1 _ _ _ (by omega))
  refine ⟨⟨(g _ _ (by omega) (by omega) (by omega)).trans h1, (f2 _ _ _ (by show _ ∧ _; omega)).trans e20, (g _ _ (by omega) (by omega) (by omega)).trans h3, (g _ _ (by omega) (by omega) (by omega)).trans h4⟩, fun j hj => ?_, fun j hj => ⟨(g _ _ (by omega) (by omega) (by omega)).trans (h6 j hj).1, (g _ _ (by omega) (by omega) (by omega)).trans (h6 j hj).2.1, (g _ _ (by omega) (by omega) (by omega)).trans (h6 j hj).2.2⟩, fun j hj => ⟨(g _ _ (by omega) (by omega) (by omega)).trans (h7 j hj).1, (g _ _ (by omega) (by omega) (by omega)).trans (h7 j hj).2.1, (g _ _ (by omega) (by omega) (by omega)).trans (h7 j hj).2.2⟩⟩
  show _ = setA D.A 0 D.P (nI n) 0 j
  have hj : j < D.P + 1 := hj
  by_cases z : j = D.P
  · subst z; rw [setA_eq']; exact ep
  · rw [setA_ne' (fun y => z y.2)]
    exact (g _ _ (by omega) (by omega) (by omega)).trans (h5 j (by omega))
theorem m_place (ht : tR M x L) (ha : M 11 0 16 = nI i) (hi : i ≤ L) (hB : dB D) (hS : D.S < 6) (h20 : M 11 0 20 = nI D.P) (h47 : ∀ j, j < D.S → M 47 0 j = D.A 5 j) (he : ∀ c w, plc x L i D = .error (c, w) → ∀ M2, agr Hm M M2 → M2 11 0 15 = nI w → 1 ≤ c → c ≤ 4 → Q (nI c) M2) (hk : ∀ p e, plc x L i D = .ok (p, e) → ∀ M2, agr (Hk 47 D.S) M M2 → M2 11 0 16 = nI e → M2 47 0 D.S = p → M2 11 0 15 = M 11 0 15 → Q 0 M2) : jw_M 2 mX11_takePlace [vr 11 0, vi (nI D.S)] M Q := by
  have hP5 := hB.1.2.1
  refine en_X11_takePlace (m_num (lo := 0) (hi := 9) (by decide) (by decide) ht ha hi (fun c w E M2 f2 e15 c1 c4 => ⟨fun z => absurd z (nI_nle (by omega) (by omega)), fun _ => he c w (by simp only [plc, E]) M2 f2.hn e15 c1 c4⟩) (fun n e E M2 f2 e16 e17 e18 e15 => ⟨fun _ => ?_, fun z => absurd (Int32.le_refl _) z⟩))
  have hn := num_ok E
  have e20 : M2 11 0 20 = nI D.P := (f2 _ _ _ (by show ¬ _; omega)).trans h20
  have store : ∀ p, plc x L i D = .ok (p, e) → ∀ M5, M5 = jw_up M2 47 0 (nI D.S : Int32).toNatClampNeg p → Q 0 M5 := by
    rintro p hp _ rfl
    rw [cl_i (by omega)]
    exact hk p e hp _ (up_agr (f2.sub (fun k i j z => z.1)) (by show ¬ (_ ∧ _); omega)) ((up_ne (by omega)).trans e16) up_eq ((up_ne (by omega)).trans e15)
  have nine : n = 9 → jw_J 2 mX11_takePlace 65 [(0, vr 11 0), (1, vi (nI D.S)), (3, vi (-1)), (4, vi 0)] [] M2 Q := fun z => by
    have hp : plc x L i D = .ok (-1, e) := by simp only [plc, E]; rw [if_pos z]
    exact bk_X11_takePlace_65 ⟨fun _ => ⟨vp_in_nI hS (by decide), store _ hp⟩, fun _ => ⟨fun _ => ⟨vp_in_nI hS (by decide), store _ hp⟩, fun y => absurd (by decide) y⟩⟩
  rw [e17, e20]
  refine ⟨fun z => ?_, fun z => ?_⟩
  · have n9 : n = 9 := by have := (nI_leI (a := 9) (by decide) (by omega)).mp z; omega
    exact ⟨fun y => absurd (by rw [n9]; rfl) y, fun _ => nine n9⟩
  · have n9 : ¬ n = 9 := fun y => z (by rw [y]; exact Int32.le_refl _)
    refine ⟨fun z2 => ⟨fun _ => ?_, fun y => absurd ((nI_eq (b := 9) (by omega) (by decide)).mp y) n9⟩, fun z2 => ?_⟩
    · have nP : ¬ D.P ≤ n := by have := (nI_ltI (by omega) (by omega)).mp z2; omega
      have key : ∀ r q, q + r = D.S → tkB D.A (nI n) q = false → jw_J 2 mX11_takePlace 65 [(0, vr 11 0), (1, vi (nI D.S)), (3, vi (nI n)), (4, vi (nI q))] [] M2 Q := by
        intro r
        induction r with
        | zero =>
          intro q hq hb
          obtain rfl : q = D.S := by omega
          have hp : plc x L i D = .ok (nI n, e) := by simp only [plc, E]; rw [if_neg n9, if_neg nP, if_neg (by rw [hb]; decide)]
          exact bk_X11_takePlace_65 ⟨fun _ => ⟨vp_in_nI hS (by decide), store _ hp⟩, fun y => absurd (Int32.le_refl _) y⟩
        | succ r ih =>
          intro q hq hb
          refine bk_X11_takePlace_65 (ge_no rfl (by omega) (by omega) ⟨fun y => absurd y (nI_pos (by omega)), fun _ => ⟨vp_in_nI (by omega) (by decide), ?_⟩⟩)
          rw [cl_i (by omega), f2 47 0 q (by show ¬ _; omega), h47 q (by omega), nI_1]
          refine ⟨fun y => ih (q + 1) (by omega) (by rw [tkB, hb, decide_eq_false y]; rfl), fun y => ?_⟩
          have hT := tkB_true (A := D.A) (v := nI n) (j := q + 1) (by rw [tkB, decide_eq_true y, Bool.or_true]) r
          rw [show q + 1 + r = D.S by omega] at hT
          rw [e18]
          exact m_fails (fun M4 f4 e4 => he 4 (skp x L i) (by simp only [plc, E]; rw [if_neg n9, if_neg nP, if_pos hT]) M4 (f2.hn.tr (f4.sub (fun k i j (z : ¬ _) => by omega))) e4 (by decide) (by decide))
      exact key D.S 0 (by omega) rfl
    · have nP : D.P ≤ n := Decidable.byContradiction (fun y => z2 ((nI_ltI (by omega) (by omega)).mpr (by omega)))
      rw [e18]
      exact m_fails (fun M4 f4 e4 => he 2 (skp x L i) (by simp only [plc, E]; rw [if_neg n9, if_pos nP]) M4 (f2.hn.tr (f4.sub (fun k i j (z : ¬ _) => by omega))) e4 (by decide) (by decide))
theorem m_stat (ht : tR M x L) (ha : M 11 0 16 = nI i) (hi : i ≤ L) (hd : dR M D) (hB : dB D) (hS : D.S < 6) (h : PM M Q (flS x L i D)) : jw_M 3 mX11_takeStatue [vr 11 0] M Q := by
  refine en_X11_takeStatue ?_
  rintro M1 hM1
  rw [hd.1.2.2.1]
  have e22 : M1 11 0 22 = nI (D.S + 1) := by rw [hM1, up_eq, hd.1.2.2.1, nI_1]
  have f1 : agr (fun k _ j => ¬ (k = 11 ∧ j = 22)) M M1 := by rw [hM1]; exact up_agr agr.rf (by omega)
  have f1m : agr Hm M M1 := f1.sub (fun k i j (z : ¬ _) => by omega)
  refine m_into (k1 := 46) (lo := 0) (hi := 3) (by decide) (by decide) ⟨rfl, by decide⟩ hS (by decide) (by decide) (by decide) (ht.ag f1m) ((f1 _ _ _ (by omega)).trans ha) hi (fun c w E M2 f2 e15 c1 c4 => ⟨fun z => absurd z (nI_nle (by omega) (by omega)), fun _ => ⟨fun z => absurd z (nI_nle (by omega) (by omega)), fun _ => h.1 c w (by simp only [flS, E]) M2 (f1m.tr f2) e15 c1 c4⟩⟩) (fun k e E M3 f3 e16 ek e15 => ⟨fun _ => ?_, fun z => absurd (Int32.le_refl _) z⟩)
  have f3m := f3.hk (by decide) (by decide)
  have l3 := num_le hi E
  refine m_place (ht.ag (f1m.tr f3m)) e16 l3.2 hB hS ((f3 _ _ _ (by show _ ∧ _; omega)).trans ((f1 _ _ _ (by omega)).trans hd.1.2.1)) (fun j hj => (f3 _ _ _ (by show _ ∧ _; omega)).trans ((f1 _ _ _ (by omega)).trans (hd.2.2.1 j hj).2.2)) (fun c w E2 M5 f5 e15' c1 c4 => ⟨fun z => absurd z (nI_nle (by omega) (by omega)), fun _ => h.1 c w (by simp only [flS, E, E2]) M5 ((f1m.tr f3m).tr f5) e15' c1 c4⟩) (fun p e2 E2 M5 f5 e16' ep e15' => ⟨fun _ => ?_, fun z => absurd (Int32.le_refl _) z⟩)
  have f5m := f5.hk (by decide) (by decide)
  have l5 := plc_ok l3.2 E2
  refine m_into (k1 := 48) (lo := 0) (hi := 99) (by decide) (by decide) ⟨rfl, by decide⟩ hS (by decide) (by decide) (by decide) (ht.ag ((f1m.tr f3m).tr f5m)) e16' l5.2.2 (fun c w E3 M7 f7 e15'' c1 c4 => h.1 c w (by simp only [flS, E, E2, E3]) M7 (((f1m.tr f3m).tr f5m).tr f7) e15'' c1 c4) (fun w e3 E3 M7 f7 e16'' ew e15'' => ?_)
  refine h.2 e3 _ (by simp only [flS, E, E2, E3]; rfl) M7 (((f1m.tr f3m).tr f5m).tr (f7.hk (by decide) (by decide))) e16'' (e15''.trans (e15'.trans (e15.trans (f1 _ _ _ (by omega))))) ?_
  obtain ⟨⟨h1, h2, h3, h4⟩, h5, h6, h7⟩ := hd
  have g : ∀ k j, ¬ (k = 11 ∧ 15 ≤ j ∧ j ≤ 18) → ¬ ((k = 46 ∨ k = 47 ∨ k = 48) ∧ j = D.S) → ¬ (k = 11 ∧ j = 22) → M7 k 0 j = M k 0 j := fun k j q1 q2 q3 => (f7 _ _ _ (by show _ ∧ _; omega)).trans ((f5 _ _ _ (by show _ ∧ _; omega)).trans ((f3 _ _ _ (by show _ ∧ _; omega)).trans (f1 _ _ _ (by omega))))
  refine ⟨⟨(g _ _ (by omega) (by omega) (by omega)).trans h1, (g _ _ (by omega) (by omega) (by omega)).trans h2, (f7 _ _ _ (by show _ ∧ _; omega)).trans ((f5 _ _ _ (by show _ ∧ _; omega)).trans ((f3 _ _ _ (by show _ ∧ _; omega)).trans e22)), (g _ _ (by omega) (by omega) (by omega)).trans h4⟩, fun j hj => (g _ _ (by omega) (by omega) (by omega)).trans (h5 j hj), fun j hj => ?_, fun j hj => ⟨(g _ _ (by omega) (by omega) (by omega)).trans (h7 j hj).1, (g _ _ (by omega) (by omega) (by omega)).trans (h7 j hj).2.1, (g _ _ (by omega) (by omega) (by omega)).trans (h7 j hj).2.2⟩⟩
  show _ = setA (setA (setA D.A 1 D.S (nI k)) 5 D.S p) 2 D.S (nI w) 1 j ∧ _ = setA (setA (setA D.A 1 D.S (nI k)) 5 D.S p) 2 D.S (nI w) 2 j ∧ _ = setA (setA (setA D.A 1 D.S (nI k)) 5 D.S p) 2 D.S (nI w) 5 j
  have hj : j < D.S + 1 := hj
  by_cases z : j = D.S
  · subst z
    simp [setA]
    exact ⟨(f7 _ _ _ (by show _ ∧ _; omega)).trans ((f5 _ _ _ (by show _ ∧ _; omega)).trans ek), ew, (f7 _ _ _ (by show _ ∧ _; omega)).trans ep⟩
  · obtain ⟨q1, q2, q3⟩ := h6 j (by omega)
    simp [setA, z]
    exact ⟨(g _ _ (by omega) (by omega) (by omega)).trans q1, (g _ _ (by omega) (by omega) (by omega)).trans q2, (g _ _ (by omega) (by omega) (by omega)).trans q3⟩
theorem m_walk2 (ht : tR M x L) (ha : M 11 0 16 = nI i) (hi : i ≤ L) (hd : dR M D) (hB : dB D) (hS : D.W < 7) (h : PM M Q (flW x L i D)) : jw_M 3 mX11_takeWalker [vr 11 0] M Q := by
  have hP5 := hB.1.2.1
  have hS6 := hB.1.2.2.1
  have hp : 2 ^ D.P ≤ 128 := pow_le (Nat.le_refl _) (by omega)
  have hs : 2 ^ D.S ≤ 128 := pow_le (Nat.le_refl _) (by omega)
  refine en_X11_takeWalker ?_
  rintro M1 hM1
  rw [hd.1.2.2.2]
  have e22 : M1 11 0 26 = nI (D.W + 1) := by rw [hM1, up_eq, hd.1.2.2.2, nI_1]
  have f1 : agr (fun k _ j => ¬ (k = 11 ∧ j = 26)) M M1 := by rw [hM1]; exact up_agr agr.rf (by omega)
  have f1m : agr Hm M M1 := f1.sub (fun k i j (z : ¬ _) => by omega)
  have e20 : M1 11 0 20 = nI D.P := (f1 _ _ _ (by omega)).trans hd.1.2.1
  rw [e20, sh1 _ (by omega), pow_pred _ (by omega)]
  refine m_into (k1 := 49) (lo := 0) (by decide) (by decide) ⟨rfl, by decide⟩ hS (by decide) (by decide) (by omega) (ht.ag f1m) ((f1 _ _ _ (by omega)).trans ha) hi (fun c w E M2 f2 e15 c1 c4 => ⟨fun z => absurd z (nI_nle (by omega) (by omega)), fun _ => ⟨fun z => absurd z (nI_nle (by omega) (by omega)), fun _ => h.1 c w (by simp only [flW, E]) M2 (f1m.tr f2) e15 c1 c4⟩⟩) (fun k e E M3 f3 e16 ek e15 => ⟨fun _ => ?_, fun z => absurd (Int32.le_refl _) z⟩)
  have f3m := f3.hk (by decide) (by decide)
  have l3 := num_le hi E
  refine m_into (k1 := 50) (lo := 1) (hi := 9) (by decide) (by decide) ⟨rfl, by decide⟩ hS (by decide) (by decide) (by decide) (ht.ag (f1m.tr f3m)) e16 l3.2 (fun c w E2 M5 f5 e15' c1 c4 => ⟨fun z => absurd z (nI_nle (by omega) (by omega)), fun _ => h.1 c w (by simp only [flW, E, E2]) M5 ((f1m.tr f3m).tr f5) e15' c1 c4⟩) (fun v e2 E2 M5 f5 e16' ev e15' => ⟨fun _ => ?_, fun z => absurd (Int32.le_refl _) z⟩)
  have f5m := f5.hk (by decide) (by decide)
  have l5 := num_le l3.2 E2
  have e5 : M5 11 0 22 = nI D.S := (f5 _ _ _ (by show _ ∧ _; omega)).trans ((f3 _ _ _ (by show _ ∧ _; omega)).trans ((f1 _ _ _ (by omega)).trans hd.1.2.2.1))
  rw [e5, sh1 _ (by omega), pow_pred _ (by omega)]
  refine m_into (k1 := 51) (lo := 0) (by decide) (by decide) ⟨rfl, by decide⟩ hS (by decide) (by decide) (by omega) (ht.ag ((f1m.tr f3m).tr f5m)) e16' l5.2 (fun c w E3 M7 f7 e15'' c1 c4 => h.1 c w (by simp only [flW, E, E2, E3]) M7 (((f1m.tr f3m).tr f5m).tr f7) e15'' c1 c4) (fun l e3 E3 M7 f7 e16'' el e15'' => ?_)
  refine h.2 e3 _ (by simp only [flW, E, E2, E3]; rfl) M7 (((f1m.tr f3m).tr f5m).tr (f7.hk (by decide) (by decide))) e16'' (e15''.trans (e15'.trans (e15.trans (f1 _ _ _ (by omega))))) ?_
  obtain ⟨⟨h1, h2, h3, h4⟩, h5, h6, h7⟩ := hd
  have g : ∀ k j, ¬ (k = 11 ∧ 15 ≤ j ∧ j ≤ 18) → ¬ ((k = 49 ∨ k = 50 ∨ k = 51) ∧ j = D.W) → ¬ (k = 11 ∧ j = 26) → M7 k 0 j = M k 0 j := fun k j q1 q2 q3 => (f7 _ _ _ (by show _ ∧ _; omega)).trans ((f5 _ _ _ (by show _ ∧ _; omega)).trans ((f3 _ _ _ (by show _ ∧ _; omega)).trans (f1 _ _ _ (by omega))))
  refine ⟨⟨(g _ _ (by omega) (by omega) (by omega)).trans h1, (g _ _ (by omega) (by omega) (by omega)).trans h2, (g _ _ (by omega) (by omega) (by omega)).trans h3, (f7 _ _ _ (by show _ ∧ _; omega)).trans ((f5 _ _ _ (by show _ ∧ _; omega)).trans ((f3 _ _ _ (by show _ ∧ _; omega)).trans e22))⟩, fun j hj => (g _ _ (by omega) (by omega) (by omega)).trans (h5 j hj), fun j hj => ⟨(g _ _ (by omega) (by omega) (by omega)).trans (h6 j hj).1, (g _ _ (by omega) (by omega) (by omega)).trans (h6 j hj).2.1, (g _ _ (by omega) (by omega) (by omega)).trans (h6 j hj).2.2⟩, fun j hj => ?_⟩
  show _ = setA (setA (setA D.A 6 D.W (nI k)) 3 D.W (nI v)) 7 D.W (nI l) 3 j ∧ _ = setA (setA (setA D.A 6 D.W (nI k)) 3 D.W (nI v)) 7 D.W (nI l) 6 j ∧ _ = setA (setA (setA D.A 6 D.W (nI k)) 3 D.W (nI v)) 7 D.W (nI l) 7 j
  have hj : j < D.W + 1 := hj
  by_cases z : j = D.W
  · subst z
    simp [setA]
    exact ⟨(f7 _ _ _ (by show _ ∧ _; omega)).trans ev, (f7 _ _ _ (by show _ ∧ _; omega)).trans ((f5 _ _ _ (by show _ ∧ _; omega)).trans ek), el⟩
  · obtain ⟨q1, q2, q3⟩ := h7 j (by omega)
    simp [setA, z]
    exact ⟨(g _ _ (by omega) (by omega) (by omega)).trans q1, (g _ _ (by omega) (by omega) (by omega)).trans q2, (g _ _ (by omega) (by omega) (by omega)).trans q3⟩
abbrev tlB (Q : Int32 → jw_Mem → Prop) : Int32 → jw_Mem → Prop := fun x10 M11 => ((¬ x10 = 0 → (∀ M12, M12 = jw_up M11 11 0 16 ((M11 11 0 16) + 1) → Q x10 M12)) ∧ (x10 = 0 → (jw_M 0 mX11_here [vr 11 0] M11 (fun x13 M14 => ((x13 = 59 → (∀ M15, M15 = jw_up M14 11 0 16 ((M14 11 0 16) + 1) → Q x10 M15)) ∧ (¬ x13 = 59 → (jw_M 0 mX11_fails [vr 11 0, vi 1, vi (M14 11 0 16)] M14 (fun x16 M17 => Q x16 M17))))))))
theorem m_tail {r : Except Er (Nat × DS)} (ht : tR M x L) (hle : ∀ e D', r = .ok (e, D') → e ≤ L) (h : PM M Q (cls x L r)) : PM M (tlB Q) r := by
  refine ⟨fun c w E M2 f2 e15 c1 c4 => ⟨fun _ => ?_, fun z => absurd z (nI_ne0 (by omega) (by omega))⟩, fun e D' E M2 f2 e16 e15 d2 => ⟨fun z => absurd rfl z, fun _ => ?_⟩⟩
  · rintro _ rfl
    exact h.1 c w (by simp only [cls, E]) _ (up_agr f2 (by show ¬ ¬ _; omega)) ((up_ne (by omega)).trans e15) c1 c4
  · refine m_here (ht.ag f2) e16 (hle e D' E) (fun M4 f4 e4 => ⟨fun z => ?_, fun z => ?_⟩)
    · rintro _ rfl
      have f5 : agr Hn M2 (jw_up M4 11 0 16 (M4 11 0 16 + 1)) := up_agr f4.h1 (by show ¬ ¬ _; omega)
      refine h.2 (skp x L e + 1) D' (by simp only [cls, E, semi]; rw [if_pos z]) _ (f2.tr f5.hn) (by rw [up_eq, e4, nI_1]) ((up_ne (by omega)).trans ((f4 _ _ _ (by show ¬ _; omega)).trans e15)) (d2.ag f5)
    · rw [e4]
      exact m_fails (fun M5 f5 e5 => h.1 1 (skp x L e) (by simp only [cls, E, semi]; rw [if_neg z]) M5 ((f2.tr f4.h1.hn).tr (f5.sub (fun k i j (z : ¬ _) => by omega))) e5 (by decide) (by decide))
theorem m_clause (ht : tR M x L) (ha : M 11 0 16 = nI i) (hi : i < L) (hsk : skp x L i = i) (hd : dR M D) (hB : dB D) (h : PM M Q (clause x L i D)) : jw_M 4 mX11_takeClause [vr 11 0] M Q := by
  obtain ⟨⟨b1, b2, b3, b4⟩, b5, _⟩ := id hB
  refine en_X11_takeClause (m_here ht ha (by omega) (fun M2 f2 a2 => ?_))
  rw [hsk] at a2 ⊢
  have eh : hr x L i = x i := if_pos hi
  rw [eh]
  have d2 := hd.ag f2.h1
  have h15 : M2 11 0 15 = M 11 0 15 := f2 _ _ _ (by show ¬ _; omega)
  rw [d2.1.1, d2.1.2.2.2]
  have fl : ∀ c, fw (x i) D = c → 1 ≤ c → c ≤ 4 → jw_M 0 mX11_fails [vr 11 0, vi (nI c), vi (M2 11 0 16)] M2 (fun x3 M4 => Q x3 M4) := fun c hc c1 c4 => by
    rw [a2]
    exact m_fails (fun M5 f5 e5 => h.1 c i (by unfold clause; rw [if_neg (by omega), hc]) M5 (f2.h1.hn.tr (f5.sub (fun k i j (z : ¬ _) => by omega))) e5 c1 c4)
  -- behind the word
  have go : fw (x i) D = 0 → ∀ M9, M9 = jw_up M2 11 0 16 (M2 11 0 16 + 1) → tR M9 x L ∧ M9 11 0 16 = nI (i + 1) ∧ dR M9 D ∧ PM M9 (tlB Q) (flC x L i D) := by
    rintro f0 _ rfl
    have f9 : agr Hn M (jw_up M2 11 0 16 (M2 11 0 16 + 1)) := up_agr f2.h1 (by show ¬ ¬ _; omega)
    have t9 := ht.ag f9.hn
    have e9 : jw_up M2 11 0 16 (M2 11 0 16 + 1) 11 0 15 = M 11 0 15 := (up_ne (by omega)).trans h15
    refine ⟨t9, by rw [up_eq, a2, nI_1], hd.ag f9, m_tail t9 (fun e D' E => (flC_ok hi hB f0 E).2.2) ?_⟩
    unfold clause at h
    rw [if_pos f0] at h
    exact ⟨fun c w E M3 f3 e15 c1 c4 => h.1 c w E M3 (f9.hn.tr f3) e15 c1 c4, fun j D' E M3 f3 e16 e15 d3 => h.2 j D' E M3 (f9.hn.tr f3) e16 (e15.trans e9) d3⟩
  have hT0 : nI D.T = 0 → D.T = 0 := fun y => (nI_eq (b := 0) (by omega) (by decide)).mp y
  have hT1 : ¬ nI D.T = 0 → ¬ D.T = 0 := fun y z => y (by rw [z]; rfl)
  have hW0 : nI D.W ≤ 0 → ¬ 0 < D.W := fun y => by have := (nI_le0 (by omega)).mp y; omega
  have hW1 : ¬ nI D.W ≤ 0 → 0 < D.W := fun y => Nat.pos_of_ne_zero (fun z => y ((nI_le0 (by omega)).mpr z))
  refine ⟨fun q1 => ⟨fun q2 => ⟨fun q3 => ⟨fun q4 => fl 1 (fw_no q1 q2 q3 q4) (by decide) (by decide), fun q4 => ⟨fun z => ?_, fun z => ?_⟩⟩, fun q3 => ⟨fun w => ⟨fun z => ?_, fun z => ?_⟩, fun w => ⟨fun z => ?_, fun z => ?_⟩⟩⟩, fun q2 => ⟨fun w => ⟨fun z => ?_, fun z => ?_⟩, fun w => ⟨fun z => ?_, fun z => ?_⟩⟩⟩, fun q1 => ?_⟩
  · exact fl 1 (by rw [q4, fw_119, if_pos (hT0 z)]) (by decide) (by decide)
  · refine en_X11_isFull ?_
    have t3 : (3 : Int32).toInt = 3 := by decide
    rw [t3]
    refine ⟨fun _ => ?_, fun y => absurd y (by decide), fun y => absurd y (by decide), fun y => absurd y (by decide)⟩
    rw [d2.1.2.2.2]
    refine ⟨fun y => ⟨fun _ => ?_, fun y => absurd rfl y⟩, fun y => ⟨fun y => absurd y (by decide), fun _ => fl 3 ?_ (by decide) (by decide)⟩⟩
    · have hW : D.W < 7 := by
        have : ¬ D.W = 7 := fun q => y (by rw [q]; rfl)
        omega
      intro M9 hM9
      obtain ⟨t9, e9, d9, p9⟩ := go (by rw [q4, fw_119, if_neg (hT1 z), if_pos hW]) M9 hM9
      unfold flC at p9
      rw [if_neg q1, if_neg q2, if_neg q3] at p9
      exact m_walk2 t9 e9 hi d9 hB hW p9
    · rw [q4, fw_119, if_neg (hT1 z), if_neg (by have := (nI_eq (b := 7) (by omega) (by decide)).mp y; omega)]
  · exact fl 1 (by rw [q3, fw_115, if_pos (Or.inl (hT0 z))]) (by decide) (by decide)
  · refine en_X11_isFull ?_
    have t3 : (2 : Int32).toInt = 2 := by decide
    rw [t3]
    refine ⟨fun y => absurd y (by decide), fun y => absurd y (by decide), fun y => absurd y (by decide), fun _ => ?_⟩
    rw [d2.1.2.2.1]
    refine ⟨fun y => ⟨fun _ => ?_, fun y => absurd rfl y⟩, fun y => ⟨fun y => absurd y (by decide), fun _ => fl 3 ?_ (by decide) (by decide)⟩⟩
    · have hS : D.S < 6 := by
        have : ¬ D.S = 6 := fun q => y (by rw [q]; rfl)
        omega
      intro M9 hM9
      obtain ⟨t9, e9, d9, p9⟩ := go (by rw [q3, fw_115, if_neg (fun q => q.elim (hT1 z) (hW0 w)), if_pos hS]) M9 hM9
      unfold flC at p9
      rw [if_neg q1, if_neg q2, if_pos q3] at p9
      exact m_stat t9 e9 hi d9 hB hS p9
    · rw [q3, fw_115, if_neg (fun q => q.elim (hT1 z) (hW0 w)), if_neg (by have := (nI_eq (b := 6) (by omega) (by decide)).mp y; omega)]
  · exact fl 1 (by rw [q3, fw_115, if_pos (Or.inl (hT0 z))]) (by decide) (by decide)
  · exact fl 1 (by rw [q3, fw_115, if_pos (Or.inr (hW1 w))]) (by decide) (by decide)
  · exact fl 1 (by rw [q2, fw_112, if_pos (Or.inl (hT0 z))]) (by decide) (by decide)
  · refine en_X11_isFull ?_
    have t3 : (1 : Int32).toInt = 1 := by decide
    rw [t3]
    refine ⟨fun y => absurd y (by decide), fun y => absurd y (by decide), fun _ => ?_, fun y => absurd y (by decide)⟩
    rw [d2.1.2.1]
    refine ⟨fun y => ⟨fun _ => ?_, fun y => absurd rfl y⟩, fun y => ⟨fun y => absurd y (by decide), fun _ => fl 3 ?_ (by decide) (by decide)⟩⟩
    · have hS : D.P < 5 := by
        have : ¬ D.P = 5 := fun q => y (by rw [q]; rfl)
        omega
      intro M9 hM9
      obtain ⟨t9, e9, d9, p9⟩ := go (by rw [q2, fw_112, if_neg (fun q => q.elim (hT1 z) (hW0 w)), if_pos hS]) M9 hM9
      unfold flC at p9
      rw [if_neg q1, if_pos q2] at p9
      exact m_plin t9 e9 hi d9 hS p9
    · rw [q2, fw_112, if_neg (fun q => q.elim (hT1 z) (hW0 w)), if_neg (by have := (nI_eq (b := 5) (by omega) (by decide)).mp y; omega)]
  · exact fl 1 (by rw [q2, fw_112, if_pos (Or.inl (hT0 z))]) (by decide) (by decide)
  · exact fl 1 (by rw [q2, fw_112, if_pos (Or.inr (hW1 w))]) (by decide) (by decide)
  · refine en_X11_isFull ?_
    have t3 : (0 : Int32).toInt = 0 := by decide
    rw [t3]
    refine ⟨fun y => absurd y (by decide), fun _ => ?_, fun y => absurd y (by decide), fun y => absurd y (by decide)⟩
    rw [d2.1.1]
    refine ⟨fun y => ⟨fun _ => ?_, fun y => absurd rfl y⟩, fun y => ⟨fun y => absurd y (by decide), fun _ => fl 3 ?_ (by decide) (by decide)⟩⟩
    · have hT : D.T = 0 := (nI_le0 (by omega)).mp y
      intro M9 hM9
      obtain ⟨t9, e9, d9, p9⟩ := go (by rw [q1, fw_116, if_pos hT]) M9 hM9
      unfold flC at p9
      rw [if_pos q1] at p9
      exact m_term t9 e9 hi d9 p9
    · rw [q1, fw_116, if_neg (fun q => y ((nI_le0 (by omega)).mpr q))]
end RN
