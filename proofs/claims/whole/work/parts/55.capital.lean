/-! ===== capital ===== -/
def Cd (D : DS) : Ab := fun k j => if k = 4 then nI D.T else D.A k j
def ad (D : DS) : Ab := fun k j => if k = 0 then D.A 5 j else if k = 3 then D.A 6 j else if k = 4 then D.A 7 j else 0
theorem dB.cW {D : DS} (h : dB D) : cW D.P D.S D.W (Cd D) := by
  obtain ⟨⟨b1, b2, b3, b4⟩, b5, b6, b7, b8, b9⟩ := h
  exact ⟨b9, nI_pos' (by omega), fun z => b5 ((nI_eq (b := 0) (by omega) (by decide)).mp z), b6, b7⟩
theorem dB.pl {D : DS} (h : dB D) : plOK D.P D.S (ad D) := h.2.2.2.2.1
abbrev Ht : Nat → Nat → Nat → Prop := fun k _ j => ¬ ((k = 11 ∧ (j = 0 ∨ j = 1 ∨ j = 3 ∨ j = 7)) ∨ (36 ≤ k ∧ k ≤ 43))
section CA
variable {x : Nat → Int32} {L : Nat} {D : DS} {M : jw_Mem} {Q : Int32 → jw_Mem → Prop}
theorem m_read (hd : dR M D) (hB : dB D) (h : ∀ M2, agr Ht M M2 → cR M2 D.P D.S D.W (Cd D) → sR M2 D.S D.W (ad D) → Q 0 M2) : jw_M 1 mX11_takeRead [vr 11 0] M Q := by
  obtain ⟨⟨b1, b2, b3, b4⟩, -⟩ := id hB
  obtain ⟨⟨h1, h2, h3, h4⟩, h5, h6, h7⟩ := hd
  refine en_X11_takeRead ?_
  rintro M1 hM1 M2 hM2 M3 hM3 M4 hM4
  have f4 : agr (fun k _ j => ¬ (k = 11 ∧ (j = 0 ∨ j = 1 ∨ j = 3 ∨ j = 7))) M M4 := by
    rw [hM4, hM3, hM2, hM1]
    exact up_agr (up_agr (up_agr (up_agr agr.rf (by omega)) (by omega)) (by omega)) (by omega)
  have c0 : M4 11 0 0 = nI D.T := by rw [hM4, up_ne (by omega), hM3, up_ne (by omega), hM2, up_ne (by omega), hM1, up_eq, h1]
  have c1 : M4 11 0 1 = nI D.P := by rw [hM4, up_ne (by omega), hM3, up_ne (by omega), hM2, up_eq, hM1, up_ne (by omega), h2]
  have c3 : M4 11 0 3 = nI D.S := by rw [hM4, up_ne (by omega), hM3, up_eq, hM2, up_ne (by omega), hM1, up_ne (by omega), h3]
  have c7 : M4 11 0 7 = nI D.W := by rw [hM4, up_eq, hM3, up_ne (by omega), hM2, up_ne (by omega), hM1, up_ne (by omega), h4]
  have r45 : ∀ j, j < D.P → M4 45 0 j = D.A 0 j := fun j hj => (f4 _ _ _ (by omega)).trans (h5 j hj)
  have r46 : ∀ j, j < D.S → M4 46 0 j = D.A 1 j ∧ M4 48 0 j = D.A 2 j ∧ M4 47 0 j = D.A 5 j := fun j hj => ⟨(f4 _ _ _ (by omega)).trans (h6 j hj).1, (f4 _ _ _ (by omega)).trans (h6 j hj).2.1, (f4 _ _ _ (by omega)).trans (h6 j hj).2.2⟩
  have r49 : ∀ j, j < D.W → M4 50 0 j = D.A 3 j ∧ M4 49 0 j = D.A 6 j ∧ M4 51 0 j = D.A 7 j := fun j hj => ⟨(f4 _ _ _ (by omega)).trans (h7 j hj).1, (f4 _ _ _ (by omega)).trans (h7 j hj).2.1, (f4 _ _ _ (by omega)).trans (h7 j hj).2.2⟩
  have f4t : agr Ht M M4 := f4.sub (fun k i j (z : ¬ _) => by omega)
  clear hM1 hM2 hM3 hM4 f4 h1 h2 h3 h4 h5 h6 h7
  have ja : ∀ k, 36 ≤ k → k ≤ 51 → jw_a k 0 := fun k k1 k2 => (by decide : ∀ k, k < 52 → 36 ≤ k → (jw_tag k = 1 ∧ 0 < jw_cnt k)) k (by omega) k1
  have step : ∀ (kd ks n : Nat) (N : jw_Mem) (Q' : Int32 → jw_Mem → Prop) (v : Int32), v = nI n → 36 ≤ kd → kd ≤ 43 → 36 ≤ ks → ks ≤ 51 → ks ≠ kd → n ≤ jw_len ks → n ≤ jw_len kd → jw_len ks < 2 ^ 31 → jw_len kd < 2 ^ 31 → (∀ N2, agr (fun k _ _ => k ≠ kd) N N2 → (∀ j, j < n → N2 kd 0 j = N ks 0 j) → (∀ j, n ≤ j → N2 kd 0 j = N kd 0 j) → Q' 0 N2) → jw_M 0 mX11_copyRow [vr ks 0, vr kd 0, vi v] N Q' := by
    intro kd ks n N Q' v hv k1 k2 k3 k4 hne l1 l2 l3 l4 hq
    subst hv
    exact m_row hne (ja ks k3 k4) (ja kd k1 (by omega)) l1 l2 l3 l4 (hq _ (fun k i j z => cpM_out (fun y => z y.1)) (fun j hj => cp_at hj) (fun j hj => cpM_out (by omega)))
  refine step 36 45 D.P M4 _ _ c1 (by decide) (by decide) (by decide) (by decide) (by decide) b2 b2 (by decide) (by decide) (fun M6 f6 p6 _ => ?_)
  refine step 37 46 D.S M6 _ _ ((f6 _ _ _ (by decide)).trans c3) (by decide) (by decide) (by decide) (by decide) (by decide) b3 b3 (by decide) (by decide) (fun M8 f8 p8 _ => ?_)
  refine step 38 47 D.S M8 _ _ ((f8 _ _ _ (by decide)).trans ((f6 _ _ _ (by decide)).trans c3)) (by decide) (by decide) (by decide) (by decide) (by decide) b3 b3 (by decide) (by decide) (fun M10 f10 p10 _ => ?_)
  refine step 39 48 D.S M10 _ _ ((f10 _ _ _ (by decide)).trans ((f8 _ _ _ (by decide)).trans ((f6 _ _ _ (by decide)).trans c3))) (by decide) (by decide) (by decide) (by decide) (by decide) b3 b3 (by decide) (by decide) (fun M12 f12 p12 _ => ?_)
  refine step 40 49 D.W M12 _ _ ((f12 _ _ _ (by decide)).trans ((f10 _ _ _ (by decide)).trans ((f8 _ _ _ (by decide)).trans ((f6 _ _ _ (by decide)).trans c7)))) (by decide) (by decide) (by decide) (by decide) (by decide) b4 b4 (by decide) (by decide) (fun M14 f14 p14 _ => ?_)
  refine step 41 50 D.W M14 _ _ ((f14 _ _ _ (by decide)).trans ((f12 _ _ _ (by decide)).trans ((f10 _ _ _ (by decide)).trans ((f8 _ _ _ (by decide)).trans ((f6 _ _ _ (by decide)).trans c7))))) (by decide) (by decide) (by decide) (by decide) (by decide) b4 b4 (by decide) (by decide) (fun M16 f16 p16 _ => ?_)
  refine step 42 51 D.W M16 _ _ ((f16 _ _ _ (by decide)).trans ((f14 _ _ _ (by decide)).trans ((f12 _ _ _ (by decide)).trans ((f10 _ _ _ (by decide)).trans ((f8 _ _ _ (by decide)).trans ((f6 _ _ _ (by decide)).trans c7)))))) (by decide) (by decide) (by decide) (by decide) (by decide) b4 b4 (by decide) (by decide) (fun M18 f18 p18 _ => ?_)
  have g : ∀ k i j, ¬ (36 ≤ k ∧ k ≤ 42) → M18 k i j = M4 k i j := fun k i j z => (f18 _ _ _ (by omega)).trans ((f16 _ _ _ (by omega)).trans ((f14 _ _ _ (by omega)).trans ((f12 _ _ _ (by omega)).trans ((f10 _ _ _ (by omega)).trans ((f8 _ _ _ (by omega)).trans (f6 _ _ _ (by omega)))))))
  have v36 : ∀ j, j < D.P → M18 36 0 j = D.A 0 j := fun j hj => (f18 _ _ _ (by omega)).trans ((f16 _ _ _ (by omega)).trans ((f14 _ _ _ (by omega)).trans ((f12 _ _ _ (by omega)).trans ((f10 _ _ _ (by omega)).trans ((f8 _ _ _ (by omega)).trans ((p6 j hj).trans (r45 j hj)))))))
  have v37 : ∀ j, j < D.S → M18 37 0 j = D.A 1 j := fun j hj => (f18 _ _ _ (by omega)).trans ((f16 _ _ _ (by omega)).trans ((f14 _ _ _ (by omega)).trans ((f12 _ _ _ (by omega)).trans ((f10 _ _ _ (by omega)).trans ((p8 j hj).trans ((f6 _ _ _ (by omega)).trans (r46 j hj).1))))))
  have v38 : ∀ j, j < D.S → M18 38 0 j = D.A 5 j := fun j hj => (f18 _ _ _ (by omega)).trans ((f16 _ _ _ (by omega)).trans ((f14 _ _ _ (by omega)).trans ((f12 _ _ _ (by omega)).trans ((p10 j hj).trans ((f8 _ _ _ (by omega)).trans ((f6 _ _ _ (by omega)).trans (r46 j hj).2.2))))))
  have v39 : ∀ j, j < D.S → M18 39 0 j = D.A 2 j := fun j hj => (f18 _ _ _ (by omega)).trans ((f16 _ _ _ (by omega)).trans ((f14 _ _ _ (by omega)).trans ((p12 j hj).trans ((f10 _ _ _ (by omega)).trans ((f8 _ _ _ (by omega)).trans ((f6 _ _ _ (by omega)).trans (r46 j hj).2.1))))))
  have v40 : ∀ j, j < D.W → M18 40 0 j = D.A 6 j := fun j hj => (f18 _ _ _ (by omega)).trans ((f16 _ _ _ (by omega)).trans ((p14 j hj).trans ((f12 _ _ _ (by omega)).trans ((f10 _ _ _ (by omega)).trans ((f8 _ _ _ (by omega)).trans ((f6 _ _ _ (by omega)).trans (r49 j hj).2.1))))))
  have v41 : ∀ j, j < D.W → M18 41 0 j = D.A 3 j := fun j hj => (f18 _ _ _ (by omega)).trans ((p16 j hj).trans ((f14 _ _ _ (by omega)).trans ((f12 _ _ _ (by omega)).trans ((f10 _ _ _ (by omega)).trans ((f8 _ _ _ (by omega)).trans ((f6 _ _ _ (by omega)).trans (r49 j hj).1))))))
  have v42 : ∀ j, j < D.W → M18 42 0 j = D.A 7 j := fun j hj => (p18 j hj).trans ((f16 _ _ _ (by omega)).trans ((f14 _ _ _ (by omega)).trans ((f12 _ _ _ (by omega)).trans ((f10 _ _ _ (by omega)).trans ((f8 _ _ _ (by omega)).trans ((f6 _ _ _ (by omega)).trans (r49 j hj).2.2))))))
  have f18t : agr Ht M M18 := f4t.tr (fun k i j (z : ¬ _) => g k i j (by omega))
  have d0 : M18 11 0 0 = nI D.T := (g _ _ _ (by omega)).trans c0
  have d1 : M18 11 0 1 = nI D.P := (g _ _ _ (by omega)).trans c1
  have d3 : M18 11 0 3 = nI D.S := (g _ _ _ (by omega)).trans c3
  have d7 : M18 11 0 7 = nI D.W := (g _ _ _ (by omega)).trans c7
  clear step g p6 p8 p10 p12 p14 p16 p18 f6 f8 f10 f12 f14 f16 f18 r45 r46 r49 f4t
  refine lp_m (S := 33) (I := fun s N => agr (fun k _ _ => k ≠ 43) M18 N ∧ ∀ t, t < s → N 43 0 t = if t < 6 then -1 else 0) (J := fun s N => jw_J 1 mX11_takeRead 139 [(0, vr 11 0), (1, vi (nI s))] [] N Q) (fun s N hs hI ih => ?_) (fun N hI => ?_) M18 ⟨agr.rf, fun t ht => absurd ht (Nat.not_lt_zero t)⟩
  · have upd : ∀ v : Int32, v = (if s < 6 then -1 else 0) → jw_J 1 mX11_takeRead 139 [(0, vr 11 0), (1, vi (nI (s + 1)))] [] (jw_up N 43 0 s v) Q := fun v hv => ih _ ⟨up_agr hI.1 (by omega), fun t ht => by
      by_cases q : t = s
      · subst q; rw [up_eq]; exact hv
      · rw [up_ne (fun z => q z.2.2)]; exact hI.2 t (by omega)⟩
    refine bk_X11_takeRead_139 (ge_no (W := 33) rfl hs (by decide) ⟨fun z => ⟨vp_in_nI hs (by decide), ?_⟩, fun z => ⟨vp_in_nI hs (by decide), ?_⟩⟩)
    · rintro _ rfl
      rw [cl_i (by omega), nI_1]
      have := (nI_leI (a := 6) (by decide) (by omega)).mp z
      exact upd 0 (by rw [if_neg (by omega)])
    · rintro _ rfl
      rw [cl_i (by omega), nI_1]
      have : ¬ 6 ≤ s := fun y => z (nI_le (a := 6) y (by omega))
      exact upd (-1) (by rw [if_pos (by omega)])
  · obtain ⟨fN, vN⟩ := hI
    refine bk_X11_takeRead_139 (ge_yes (W := 33) rfl ?_)
    rw [fN 11 0 3 (by decide), d3]
    refine m_row (by decide) (ja 38 (by decide) (by decide)) (ja 43 (by decide) (by decide)) b3 (Nat.le_trans b3 (by decide)) (by decide) (by decide) ?_
    have fN2 : agr (fun k _ _ => k ≠ 43) M18 (cpM N 43 0 38 0 D.S) := fN.tr (fun k i j z => cpM_out (fun y => z y.1))
    have pl : ∀ j, j < D.S → cpM N 43 0 38 0 D.S 43 0 j = D.A 5 j := fun j hj => (cp_at hj).trans ((fN _ _ _ (by omega)).trans (v38 j hj))
    have zr : ∀ j, 6 ≤ j → j < 33 → cpM N 43 0 38 0 D.S 43 0 j = 0 := fun j q1 q2 => (cpM_out (by omega)).trans ((vN j q2).trans (if_neg (by omega)))
    refine lp_m (S := D.W) (I := fun s N2 => agr (fun k _ _ => k ≠ 43) M18 N2 ∧ (∀ j, j < D.S → N2 43 0 j = D.A 5 j ∧ N2 43 0 (6 + j) = 0 ∧ N2 43 0 (12 + j) = 0) ∧ (∀ j, j < s → N2 43 0 (18 + j) = D.A 6 j ∧ N2 43 0 (25 + j) = D.A 7 j) ∧ N2 43 0 32 = 0) (J := fun s N2 => jw_J 1 mX11_takeRead 185 [(0, vr 11 0), (1, vi (nI s))] [] N2 Q) (fun s N2 hs hI ih => ?_) (fun N2 hI => ?_) _ ⟨fN2, fun j hj => ⟨pl j hj, zr _ (by omega) (by omega), zr _ (by omega) (by omega)⟩, fun j hj => absurd hj (Nat.not_lt_zero j), zr _ (by omega) (by omega)⟩
    · obtain ⟨g1, g2, g3, g4⟩ := hI
      have e18 : (18 : Int32) + nI s = nI (18 + s) := nI_add 18 s
      have e25 : (25 : Int32) + nI s = nI (25 + s) := nI_add 25 s
      refine bk_X11_takeRead_185 (ge_no ((g1 _ _ _ (by decide)).trans d7) hs (by omega) ?_)
      rw [e18, e25]
      refine ⟨vp_in_nI (by omega) (by decide), vp_in_nI (by omega) (by decide), ?_⟩
      rintro N3 hN3
      refine ⟨vp_in_nI (by omega) (by decide), vp_in_nI (by omega) (by decide), ?_⟩
      rintro N4 hN4
      rw [nI_1]
      rw [cl_i (by omega), cl_i (by omega)] at hN3 hN4
      have w40 : N2 40 0 s = D.A 6 s := (g1 _ _ _ (by omega)).trans (v40 s hs)
      have w42 : N3 42 0 s = D.A 7 s := by rw [hN3, up_ne (by omega)]; exact (g1 _ _ _ (by omega)).trans (v42 s hs)
      rw [w40] at hN3
      rw [w42] at hN4
      have g : ∀ k i j, ¬ (k = 43 ∧ (j = 18 + s ∨ j = 25 + s)) → N4 k i j = N2 k i j := fun k i j z => by rw [hN4, up_ne (by omega), hN3, up_ne (by omega)]
      refine ih N4 ⟨g1.tr (fun k i j z => g k i j (by omega)), fun j hj => ⟨(g _ _ _ (by omega)).trans (g2 j hj).1, (g _ _ _ (by omega)).trans (g2 j hj).2.1, (g _ _ _ (by omega)).trans (g2 j hj).2.2⟩, fun j hj => ?_, (g _ _ _ (by omega)).trans g4⟩
      by_cases q : j = s
      · subst q
        exact ⟨by rw [hN4, up_ne (by omega), hN3, up_eq], by rw [hN4, up_eq]⟩
      · exact ⟨(g _ _ _ (by omega)).trans (g3 j (by omega)).1, (g _ _ _ (by omega)).trans (g3 j (by omega)).2⟩
    · obtain ⟨g1, g2, g3, g4⟩ := hI
      refine bk_X11_takeRead_185 (ge_yes ((g1 _ _ _ (by decide)).trans d7) (h N2 (f18t.tr (g1.sub (fun k i j (z : ¬ _) => by omega))) ?_ ?_))
      · exact ⟨⟨(g1 _ _ _ (by decide)).trans d1, (g1 _ _ _ (by decide)).trans d3, (g1 _ _ _ (by decide)).trans d7, (g1 _ _ _ (by decide)).trans d0⟩, ⟨b2, b3, b4⟩, fun j hj => (g1 _ _ _ (by omega)).trans (v36 j hj), fun j hj => ⟨(g1 _ _ _ (by omega)).trans (v37 j hj), (g1 _ _ _ (by omega)).trans (v39 j hj)⟩, fun j hj => (g1 _ _ _ (by omega)).trans (v41 j hj)⟩
      · exact ⟨g2, g3, g4⟩
abbrev capT (Q : Int32 → jw_Mem → Prop) : Int32 → jw_Mem → Prop := fun _ M19 => (∀ M20, M20 = jw_up M19 11 0 34 0 → (∀ M21, M21 = jw_up M20 11 0 38 0 → (∀ M22, M22 = jw_up M21 11 0 30 0 → (vp_in 0 2 ∧ (∀ M23, M23 = jw_up M22 61 0 (0 : Int32).toNatClampNeg (vp_nar .boolean 0) → (vp_in 1 2 ∧ (∀ M24, M24 = jw_up M23 61 0 (1 : Int32).toNatClampNeg (vp_nar .boolean 0) → Q (M24 11 0 1) M24)))))))
abbrev PR (M : jw_Mem) (Q : Int32 → jw_Mem → Prop) (r : Except Er DS) : Prop := (∀ c w, r = .error (c, w) → ∀ M2, agr Hm M M2 → M2 11 0 15 = nI w → 1 ≤ c → c ≤ 4 → Q ((-10) - nI c) (jw_up M2 11 0 14 0)) ∧ (∀ D', r = .ok D' → ∀ M2, agr Hm M M2 → M2 11 0 15 = -1 → dR M2 D' → dB D' → jw_M 1 mX11_takeRead [vr 11 0] (jw_up M2 11 0 14 0) (capT Q))
theorem m_caploop : ∀ (r j : Nat) (D : DS) (M : jw_Mem), L ≤ r + skp x L j → j ≤ L → tR M x L → M 11 0 16 = nI j → M 11 0 15 = -1 → dR M D → dB D → PR M Q (parse x L r (skp x L j) D) → jw_J 5 mX11_capital 32 [(0, vr 11 0), (1, vi 0)] [] M Q := by
  have fin : ∀ (j : Nat) (D : DS) (M : jw_Mem), ¬ skp x L j < L → j ≤ L → tR M x L → M 11 0 16 = nI j → M 11 0 15 = -1 → dR M D → dB D → PR M Q (.ok D) → jw_J 5 mX11_capital 32 [(0, vr 11 0), (1, vi 0)] [] M Q := by
    intro j D M hs hj ht e16 e15 hd hB h
    refine bk_X11_capital_32 ⟨fun z => absurd rfl z, fun _ => m_here ht e16 hj (fun M2 f2 e2 => ⟨fun _ => ?_, fun z => absurd ?_ z⟩)⟩
    · rintro _ rfl
      refine ⟨fun _ => h.2 D rfl M2 f2.h1.hn ((f2 _ _ _ (by show ¬ _; omega)).trans e15) (hd.ag f2.h1) hB, fun z => absurd (Int32.le_refl _) z⟩
    · unfold hr
      rw [if_neg hs]
      decide
  intro r
  induction r with
  | zero =>
    intro j D M hr0 hj ht e16 e15 hd hB h
    exact fin j D M (by omega) hj ht e16 e15 hd hB h
  | succ r ih =>
    intro j D M hr0 hj ht e16 e15 hd hB h
    rw [parse] at h
    by_cases hs : skp x L j < L
    · rw [if_pos hs] at h
      refine bk_X11_capital_32 ⟨fun z => absurd rfl z, fun _ => m_here ht e16 hj (fun M2 f2 e2 => ⟨fun z => absurd z ?_, fun _ => ?_⟩)⟩
      · unfold hr
        rw [if_pos hs]
        exact Int32.not_lt.mpr (ht.2.2 _ hs).2
      · have f2m := f2.h1.hn
        refine m_clause (ht.ag f2m) e2 hs (skp_idem hj) (hd.ag f2.h1) hB ⟨fun c w E M3 f3 e3 c1 c4 => ?_, fun j2 D' E M3 f3 e3 e3' d3 => ?_⟩
        · refine bk_X11_capital_32 ⟨fun _ => ?_, fun z => absurd z (nI_ne0 (by omega) (by omega))⟩
          rintro _ rfl
          exact ⟨fun z => absurd z (nI_nle (by omega) (by omega)), fun _ => h.1 c w (by simp only [E]) M3 (f2m.tr f3) e3 c1 c4⟩
        · obtain ⟨hB', hij, hjL⟩ := clause_ok hs hB E
          have := (skp_le (x := x) hjL).1
          simp only [E] at h
          refine ih j2 D' M3 (by omega) hjL (ht.ag (f2m.tr f3)) e3 (e3'.trans ((f2 _ _ _ (by show ¬ _; omega)).trans e15)) d3 hB' ?_
          exact ⟨fun c w E2 M5 f5 e5 c1 c4 => h.1 c w E2 M5 ((f2m.tr f3).tr f5) e5 c1 c4, fun D2 E2 M5 f5 e5 d5 b5 => h.2 D2 E2 M5 ((f2m.tr f3).tr f5) e5 d5 b5⟩
    · rw [if_neg hs] at h
      exact fin j D M hs hj ht e16 e15 hd hB h
theorem m_capital (ht : tR M x L) (h : ∀ M2, agr Hm M M2 → M2 11 0 15 = -1 → PR M2 Q (parse x L 240 (skp x L 0) D0)) : jw_M 5 mX11_capital [vr 11 0] M Q := by
  refine en_X11_capital ?_
  rintro M1 rfl M2 rfl M3 rfl M4 rfl M5 rfl M6 hM6
  have f6 : agr Hm M M6 := by
    rw [hM6]
    refine up_agr (up_agr (up_agr (up_agr (up_agr (up_agr agr.rf ?_) ?_) ?_) ?_) ?_) ?_ <;> (show ¬ ¬ _; omega)
  have d6 : dR M6 D0 := by
    subst hM6
    refine ⟨⟨?_, ?_, ?_, ?_⟩, fun j h => absurd h (Nat.not_lt_zero j), fun j h => absurd h (Nat.not_lt_zero j), fun j h => absurd h (Nat.not_lt_zero j)⟩ <;> simp [up_val] <;> rfl
  have e15 : M6 11 0 15 = -1 := by subst hM6; simp [up_val]
  have e16 : M6 11 0 16 = nI 0 := by subst hM6; simp [up_val]; rfl
  exact m_caploop 240 0 D0 M6 (by have := ht.2.1; omega) (Nat.zero_le L) (ht.ag f6) e16 e15 d6 D0B (h M6 f6 e15)
theorem k_copyC (hd : dK M D) (hB : dB D) (h : ∀ M2, agr (fun k i _ => ¬ (i = 0 ∧ (k = 1 ∨ (14 ≤ k ∧ k ≤ 20)))) M M2 → cK M2 D.P D.S D.W (Cd D) → (∀ j, j < D.S → M2 17 0 j = D.A 5 j) → (∀ j, j < D.W → M2 19 0 j = D.A 6 j ∧ M2 20 0 j = D.A 7 j) → Q 0 M2) : jw_M 1 mX1_copyFrom [vr 1 0, vr 1 1] M Q := by
  obtain ⟨⟨b1, b2, b3, b4⟩, -⟩ := id hB
  obtain ⟨⟨h1, h2, h3, h4⟩, h5, h6, h7⟩ := hd
  refine en_X1_copyFrom (by decide) (by decide) ?_
  rintro M1 rfl M2 rfl M3 rfl M4 rfl M5 rfl M6 rfl M7 rfl M8 rfl M9 rfl M10 rfl M11 rfl
  have c5 : (5 : Int32).toNatClampNeg = 5 := cl_i (j := 5) (by decide)
  have c6 : (6 : Int32).toNatClampNeg = 6 := cl_i (j := 6) (by decide)
  have c7 : (7 : Int32).toNatClampNeg = 7 := cl_i (j := 7) (by decide)
  rw [c5, c6, c7]
  refine h _ (fun k i j hk => ?_) ⟨⟨?_, ?_, ?_, ?_⟩, ⟨b2, b3, b4⟩, fun j hj => ?_, fun j hj => ?_, fun j hj => ?_⟩ (fun j hj => ?_) (fun j hj => ?_)
  · simp only [row_val, up_val]
    rw [if_neg (by omega), if_neg (by omega), if_neg (by omega), if_neg (by omega), if_neg (by omega), if_neg (by omega), if_neg (by omega), if_neg (by omega), if_neg (by omega), if_neg (by omega), if_neg (by omega)]
  · simp [row_val, up_val, h2]
  · simp [row_val, up_val, h3]
  · simp [row_val, up_val, h4]
  · simp [row_val, up_val, h1, Cd]
  · have hj5 : j < 5 := by omega
    simp [row_val, up_val, va_cpy, hj5, h5 j hj, Cd]
  · have hj6 : j < 6 := by omega
    obtain ⟨q1, q2, q3⟩ := h6 j hj
    simp [row_val, up_val, va_cpy, hj6, q1, q2, Cd]
  · have hj7 : j < 7 := by omega
    obtain ⟨q1, q2, q3⟩ := h7 j hj
    simp [row_val, up_val, va_cpy, hj7, q1, Cd]
  · have hj6 : j < 6 := by omega
    obtain ⟨q1, q2, q3⟩ := h6 j hj
    simp [row_val, up_val, va_cpy, hj6, q3]
  · have hj7 : j < 7 := by omega
    obtain ⟨q1, q2, q3⟩ := h7 j hj
    simp [row_val, up_val, va_cpy, hj7, q2, q3]
theorem k_begin (hB : dB D) (h17 : ∀ j, j < D.S → M 17 0 j = D.A 5 j) (h19 : ∀ j, j < D.W → M 19 0 j = D.A 6 j ∧ M 20 0 j = D.A 7 j) (h : ∀ M2, agr (fun k i _ => ¬ (i = 0 ∧ (k = 8 ∨ (26 ≤ k ∧ k ≤ 30)))) M M2 → sK M2 0 D.S D.W (ad D) → Q 0 M2) : jw_M 0 mX8_begin [vr 8 0] M Q := by
  obtain ⟨⟨b1, b2, b3, b4⟩, -⟩ := id hB
  refine en_X8_begin (by decide) ?_
  rintro M1 rfl
  refine lp_m (S := 6) (I := fun s N => agr (fun k i _ => ¬ (i = 0 ∧ (k = 8 ∨ (26 ≤ k ∧ k ≤ 30)))) M N ∧ (∀ t, t < s → N 26 0 t = M 17 0 t ∧ N 27 0 t = 0 ∧ N 28 0 t = 0) ∧ N 8 0 1 = 0) (J := fun s N => jw_J 0 mX8_begin 7 [(0, vr 8 0), (1, vi (nI s))] [] N Q) (fun s N hs hI ih => ?_) (fun N hI => ?_) _ ⟨up_agr agr.rf (by omega), fun t ht => absurd ht (Nat.not_lt_zero t), up_eq⟩
  · obtain ⟨f, g1, g2⟩ := hI
    have hin : vp_in (nI s) 6 := vp_in_nI hs (by decide)
    refine bk_X8_begin_7 (by decide) (ge_no (W := 6) rfl hs (by decide) ⟨hin, hin, ?_⟩)
    rw [cl_i (by omega), nI_1, f 17 0 s (by omega)]
    rintro N2 rfl
    refine ⟨hin, ?_⟩
    rintro N3 rfl
    refine ⟨hin, ?_⟩
    rintro N4 rfl
    refine ih _ ⟨up_agr (up_agr (up_agr f (by omega)) (by omega)) (by omega), fun t ht => ?_, by rw [up_ne (by omega), up_ne (by omega), up_ne (by omega)]; exact g2⟩
    by_cases q : t = s
    · subst q
      simp [up_val]
    · obtain ⟨q1, q2, q3⟩ := g1 t (by omega)
      simp [up_val, q, q1, q2, q3]
  · obtain ⟨f, g1, g2⟩ := hI
    refine bk_X8_begin_7 (by decide) (ge_yes (W := 6) rfl ?_)
    refine lp_m (S := 7) (I := fun s N2 => agr (fun k i _ => ¬ (i = 0 ∧ (k = 8 ∨ (26 ≤ k ∧ k ≤ 30)))) M N2 ∧ (∀ t, t < 6 → N2 26 0 t = M 17 0 t ∧ N2 27 0 t = 0 ∧ N2 28 0 t = 0) ∧ N2 8 0 1 = 0 ∧ (∀ t, t < s → N2 29 0 t = M 19 0 t ∧ N2 30 0 t = M 20 0 t)) (J := fun s N2 => jw_J 0 mX8_begin 50 [(0, vr 8 0), (1, vi (nI s))] [] N2 Q) (fun s N2 hs hI ih => ?_) (fun N2 hI => ?_) N ⟨f, g1, g2, fun t ht => absurd ht (Nat.not_lt_zero t)⟩
    · obtain ⟨f, g1, g2, g3⟩ := hI
      have hin : vp_in (nI s) 7 := vp_in_nI hs (by decide)
      refine bk_X8_begin_50 (by decide) (ge_no (W := 7) rfl hs (by decide) ⟨hin, hin, ?_⟩)
      rw [cl_i (by omega), nI_1, f 19 0 s (by omega)]
      rintro N3 rfl
      refine ⟨hin, hin, ?_⟩
      rw [up_ne (by omega), f 20 0 s (by omega)]
      rintro N4 rfl
      refine ih _ ⟨up_agr (up_agr f (by omega)) (by omega), fun t ht => ?_, by rw [up_ne (by omega), up_ne (by omega)]; exact g2, fun t ht => ?_⟩
      · obtain ⟨q1, q2, q3⟩ := g1 t ht
        simp [up_val, q1, q2, q3]
      · by_cases q : t = s
        · subst q
          simp [up_val]
        · obtain ⟨q1, q2⟩ := g3 t (by omega)
          simp [up_val, q, q1, q2]
    · obtain ⟨f, g1, g2, g3⟩ := hI
      refine bk_X8_begin_50 (by decide) (ge_yes (W := 7) rfl (h N2 f ⟨fun j hj => ?_, fun j hj => ?_, g2⟩))
      · obtain ⟨q1, q2, q3⟩ := g1 j (by omega)
        exact ⟨q1.trans (h17 j hj), q2, q3⟩
      · obtain ⟨q1, q2⟩ := g3 j (by omega)
        exact ⟨q1.trans (h19 j hj).1, q2.trans (h19 j hj).2⟩
end CA
theorem dR.ag' {M M2 : jw_Mem} {D : DS} (h : dR M D) (f : agr (fun k _ j => ¬ (k = 11 ∧ j = 14)) M M2) : dR M2 D := by
  obtain ⟨⟨h1, h2, h3, h4⟩, h5, h6, h7⟩ := h
  have g : ∀ k j, ¬ (k = 11 ∧ j = 14) → M2 k 0 j = M k 0 j := fun k j hk => f k 0 j hk
  exact ⟨⟨(g _ _ (by omega)).trans h1, (g _ _ (by omega)).trans h2, (g _ _ (by omega)).trans h3, (g _ _ (by omega)).trans h4⟩, fun j hj => (g _ _ (by omega)).trans (h5 j hj), fun j hj => ⟨(g _ _ (by omega)).trans (h6 j hj).1, (g _ _ (by omega)).trans (h6 j hj).2.1, (g _ _ (by omega)).trans (h6 j hj).2.2⟩, fun j hj => ⟨(g _ _ (by omega)).trans (h7 j hj).1, (g _ _ (by omega)).trans (h7 j hj).2.1, (g _ _ (by omega)).trans (h7 j hj).2.2⟩⟩
abbrev Fe : Nat → Nat → Nat → Prop := fun k i j => k ≠ 7 ∧ ¬ (i = 1 ∧ (k = 1 ∨ (14 ≤ k ∧ k ≤ 20))) ∧ ¬ ((k = 11 ∧ 14 ≤ j ∧ j ≤ 26) ∨ (45 ≤ k ∧ k ≤ 51))
theorem t_capital : Both 6 mX10_capital 5 mX11_capital [] := by
  intro M I
  obtain ⟨P, S, W, C, a, U, h0, L, x, c, u, v, b, p, q, kp, im, dr, hc, hs, hh, ht, hy, hb, hi, hd⟩ := id I
  obtain ⟨⟨t1, t2, t3⟩, t4, t5⟩ := id ht
  have hS6 := hc.1.2.1.2.1
  have hW7 := hc.1.2.1.2.2
  have tk : tK M x L := ⟨t1, t3, fun i hi => ⟨(t4 i hi).1, (t4 i hi).2.2⟩⟩
  have tr : tR M x L := ⟨t2, t3, fun i hi => ⟨(t4 i hi).2.1, (t4 i hi).2.2⟩⟩
  have tRa : ∀ {M M2 : jw_Mem}, tR M x L → agr (fun k _ j => k = 44 ∨ (k = 11 ∧ j = 14)) M M2 → tR M2 x L := fun h f => ⟨(f 11 0 14 (by omega)).trans h.1, h.2.1, fun i hi => ⟨(f 44 0 i (by omega)).trans (h.2.2 i hi).1, (h.2.2 i hi).2⟩⟩
  refine en_X10_capital (k_readAll tk ⟨fun c1 w1 E M2 f2 e2 F2 => ⟨fun z => absurd z F2.ne, fun _ => ?_⟩, fun D E M2 f2 e2 F2 d2 hB => ⟨fun _ => ?_, fun z => absurd F2.1 z⟩⟩)
  · refine m_capital (tRa tr (f2.sub (fun k i j z => by show _ ∧ _; omega))) (fun M3 f3 e3 => ?_)
    rw [E]
    refine ⟨fun c2 w2 E2 M4 f4 e4 c21 c24 => ?_, fun D' E2 => by cases E2⟩
    cases E2
    have fe : agr Fe M (jw_up M4 11 0 14 0) := fun k i j z => (up_ne (by have z : _ ∧ _ := z; omega)).trans ((f4 _ _ _ (by have z : _ ∧ _ := z; show ¬ _; omega)).trans ((f3 _ _ _ (by have z : _ ∧ _ := z; show ¬ _; omega)).trans (f2 _ _ _ (by have z : _ ∧ _ := z; show _ ∧ _; omega))))
    have s7 : ∀ j, jw_up M4 11 0 14 0 7 0 j = M2 7 0 j := fun j => (up_ne (by omega)).trans ((f4 _ _ _ (by show ¬ _; omega)).trans (f3 _ _ _ (by show ¬ _; omega)))
    refine ⟨by rw [F2.1], P, S, W, C, a, U, h0, 0, x, c, u, v, b, p, q, kp, im, dr, hc.fr (fe.sub (fun k i j z => by unfold Fc at z; show _ ∧ _; omega)), hs.fr (fe.sub (fun k i j z => by unfold Fs at z; show _ ∧ _; omega)), hh.fr hS6 hW7 (fe.sub (fun k i j z => by unfold Fh at z; show _ ∧ _; omega)), ⟨⟨(s7 2).trans e2, up_eq, by decide⟩, fun i hi => absurd hi (Nat.not_lt_zero i), ?_⟩, hy.fr (fe.sub (fun k i j z => by unfold Fy at z; show _ ∧ _; omega)), hb.fr (fe.sub (fun k i j z => by unfold Fb at z; show _ ∧ _; omega)), hi.fr hS6 hW7 (fe.sub (fun k i j z => by unfold Fi at z; show _ ∧ _; omega)), hd.fr (fe.sub (fun k i j z => by unfold Fz at z; show _ ∧ _; omega))⟩
    rw [s7 4, F2.2.2.2, up_ne (by omega), e4]
  · refine k_copyC d2 hB (fun M4 f4 c4 g17 g19 => k_begin hB g17 g19 (fun M6 f6 s6 => en_X9_clear ?_))
    rintro M8 hM8
    refine en_X0_clear ?_
    rintro M10 hM10
    refine en_X3_clear ?_
    rintro M12 hM12
    have f12 : agr (fun k i j => ¬ ((k = 9 ∧ j = 6) ∨ (k = 0 ∧ j = 3) ∨ (k = 3 ∧ j = 2))) M6 M12 := by
      rw [hM12, hM10, hM8]
      exact up_agr (up_agr (up_agr agr.rf (by omega)) (by omega)) (by omega)
    have e12a : M12 9 0 6 = 0 := by rw [hM12, up_ne (by omega), hM10, up_ne (by omega), hM8, up_eq]
    have e12b : M12 0 0 3 = 0 := by rw [hM12, up_ne (by omega), hM10, up_eq]
    have e12c : M12 3 0 2 = 0 := by rw [hM12, up_eq]
    clear hM8 hM10 hM12
    refine lp_m (S := 2) (I := fun s N => agr (fun k _ j => ¬ (k = 4 ∧ j = 2)) M12 N ∧ ∀ t, t < s → N 4 t 2 = 0) (J := fun s N => jw_J 6 mX10_capital 72 [(0, vr 10 0), (1, vi (nI s))] [] N _) (fun s N hs2 hI ih => ?_) (fun N hI => ?_) M12 ⟨agr.rf, fun t ht => absurd ht (Nat.not_lt_zero t)⟩
    · refine bk_X10_capital_72 (ge_no (W := 2) rfl hs2 (by decide) ⟨vp_in_nI hs2 (by decide), ?_⟩)
      intro q13 hq _
      rw [cl_i (by omega)] at hq
      subst hq
      rintro _ rfl
      rw [nI_1]
      refine ih _ ⟨up_agr hI.1 (by omega), fun t ht => ?_⟩
      by_cases z : t = q13
      · subst z; exact up_eq
      · rw [up_ne (fun y => z y.2.1)]; exact hI.2 t (by omega)
    · obtain ⟨fN, gN⟩ := hI
      refine bk_X10_capital_72 (ge_yes (W := 2) rfl ?_)
      -- all that the class has changed
      have fK : agr (fun k i j => k ≠ 7 ∧ ¬ (k = 1 ∨ (14 ≤ k ∧ k ≤ 20)) ∧ ¬ (i = 0 ∧ (k = 8 ∨ (26 ≤ k ∧ k ≤ 30))) ∧ ¬ ((k = 9 ∧ j = 6) ∨ (k = 0 ∧ j = 3) ∨ (k = 3 ∧ j = 2) ∨ (k = 4 ∧ j = 2))) M N := fun k i j z => (fN _ _ _ (by omega)).trans ((f12 _ _ _ (by omega)).trans ((f6 _ _ _ (by omega)).trans ((f4 _ _ _ (by omega)).trans (f2 _ _ _ (by show _ ∧ _; omega)))))
      have cN : cK N D.P D.S D.W (Cd D) := c4.ag (fun k i j z => (fN _ _ _ (by omega)).trans ((f12 _ _ _ (by omega)).trans (f6 _ _ _ (by omega))))
      have sN : sK N 0 D.S D.W (ad D) := s6.congr (fun k j z => (fN _ _ _ (by omega)).trans (f12 _ _ _ (by omega)))
      have n7 : ∀ j, N 7 0 j = M2 7 0 j := fun j => (fN _ _ _ (by omega)).trans ((f12 _ _ _ (by omega)).trans ((f6 _ _ _ (by omega)).trans (f4 _ _ _ (by omega))))
      have nA : N 9 0 6 = 0 := (fN _ _ _ (by omega)).trans e12a
      have nB : N 0 0 3 = 0 := (fN _ _ _ (by omega)).trans e12b
      have nC : N 3 0 2 = 0 := (fN _ _ _ (by omega)).trans e12c
      have n71 : N 7 0 2 = 0 := (n7 2).trans e2
      have n74 : N 7 0 4 = -1 := (n7 4).trans F2.2
      clear f4 f6 f12 fN s6 c4 g17 g19 e12a e12b e12c n7 d2
      refine m_capital (tRa tr (fK.sub (fun k i j z => by omega))) (fun M3 f3 e3 => ?_)
      rw [E]
      refine ⟨fun c2 w2 E2 => (by cases E2), fun D' E2 M5 f5 e5 d5 b5 => ?_⟩
      cases E2
      have d5' : dR (jw_up M5 11 0 14 0) D := d5.ag' (up_agr agr.rf (by omega))
      refine m_read d5' hB (fun M6 f6 c6 s6 => ?_)
      rintro M20 hM20 M21 hM21 M22 hM22
      refine ⟨vp_in_nI (n := 0) (by decide) (by decide), ?_⟩
      rintro M23 hM23
      refine ⟨vp_in_nI (n := 1) (by decide) (by decide), ?_⟩
      rintro M24 hM24
      have cl0 : (0 : Int32).toNatClampNeg = 0 := cl_i (j := 0) (by decide)
      have cl1 : (1 : Int32).toNatClampNeg = 1 := cl_i (j := 1) (by decide)
      rw [cl0, nar0] at hM23
      rw [cl1, nar0] at hM24
      have f24 : agr (fun k i j => ¬ ((k = 11 ∧ (j = 34 ∨ j = 38 ∨ j = 30)) ∨ k = 61)) M6 M24 := by
        rw [hM24, hM23, hM22, hM21, hM20]
        exact up_agr (up_agr (up_agr (up_agr (up_agr agr.rf (by omega)) (by omega)) (by omega)) (by omega)) (by omega)
      have k34 : M24 11 0 34 = 0 := by rw [hM24, up_ne (by omega), hM23, up_ne (by omega), hM22, up_ne (by omega), hM21, up_ne (by omega), hM20, up_eq]
      have k38 : M24 11 0 38 = 0 := by rw [hM24, up_ne (by omega), hM23, up_ne (by omega), hM22, up_ne (by omega), hM21, up_eq]
      have k30 : M24 11 0 30 = 0 := by rw [hM24, up_ne (by omega), hM23, up_ne (by omega), hM22, up_eq]
      have k61 : ∀ t, t < 2 → M24 61 0 t = 0 := fun t ht => by
        rw [hM24]
        by_cases z : t = 1
        · subst z; exact up_eq
        · rw [up_ne (by omega), hM23, show t = 0 by omega, up_eq]
      clear hM20 hM21 hM22 hM23 hM24
      -- all that the model has changed
      have fR : agr (fun k i j => ¬ ((k = 11 ∧ ((14 ≤ j ∧ j ≤ 26) ∨ j = 0 ∨ j = 1 ∨ j = 3 ∨ j = 7 ∨ j = 34 ∨ j = 38 ∨ j = 30)) ∨ k = 61 ∨ (45 ≤ k ∧ k ≤ 51) ∨ (36 ≤ k ∧ k ≤ 43))) N M24 := fun k i j z => (f24 _ _ _ (by omega)).trans ((f6 _ _ _ (by show ¬ _; omega)).trans ((up_ne (by omega)).trans ((f5 _ _ _ (by show ¬ _; omega)).trans (f3 _ _ _ (by show ¬ _; omega)))))
      have e14 : M24 11 0 14 = 0 := (f24 _ _ _ (by omega)).trans ((f6 _ _ _ (by show ¬ _; omega)).trans up_eq)
      have e15 : M24 11 0 15 = -1 := (f24 _ _ _ (by omega)).trans ((f6 _ _ _ (by show ¬ _; omega)).trans ((up_ne (by omega)).trans e5))
      have c24 : cR M24 D.P D.S D.W (Cd D) := c6.ag (f24.sub (fun k i j z => by omega))
      have s24 : sR M24 D.S D.W (ad D) := sG.congr (f := M6 43 0) s6 hB.1.2.2.1 hB.1.2.2.2 (fun j _ => f24 _ _ _ (by omega))
      have cN24 : cK M24 D.P D.S D.W (Cd D) := cN.ag (fR.sub (fun k i j z => by omega))
      have sN24 : sK M24 0 D.S D.W (ad D) := sN.congr (fun k j z => fR _ _ _ (by omega))
      refine ⟨by rw [cN.1.1, c24.1.1], D.P, D.S, D.W, Cd D, ad D, 0, h0, 0, x, 0, u, v, 0, p, q, fun _ => 0, im, dr, ⟨cN24, c24, hB.cW⟩, ⟨sN24, s24, hB.pl⟩, ⟨⟨(fR _ _ _ (by omega)).trans nC, ?_⟩, ⟨k30, fun i hi => absurd hi (Nat.not_lt_zero i)⟩, by decide, fun i hi => absurd hi (Nat.not_lt_zero i)⟩, ⟨⟨(fR _ _ _ (by omega)).trans n71, e14, by decide⟩, fun i hi => absurd hi (Nat.not_lt_zero i), ((fR _ _ _ (by omega)).trans n74).trans e15.symm⟩, ⟨⟨(fR _ _ _ (by omega)).trans nA, k34, by decide⟩, fun i hi => absurd hi (Nat.not_lt_zero i)⟩, ⟨⟨(fR _ _ _ (by omega)).trans nB, k38, by decide⟩, fun i hi => absurd hi (Nat.not_lt_zero i)⟩, fun i hi => ⟨(fR _ _ _ (by omega)).trans (gN i hi), k61 i hi, Or.inl rfl⟩, hd.fr (fun k i j z => (fR _ _ _ (by unfold Fz at z; omega)).trans (fK _ _ _ (by unfold Fz at z; omega)))⟩
      obtain ⟨nx, q1, q2, -⟩ := hh.1.2
      exact ⟨nx, q1, ((fR _ _ _ (by omega)).trans (fK _ _ _ (by omega))).trans q2, fun i hi => absurd hi (Nat.not_lt_zero i)⟩
