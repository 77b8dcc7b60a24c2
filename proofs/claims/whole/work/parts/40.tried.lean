/-! ===== tried; images ===== -/
theorem inv_keep {M M2 : jw_Mem} (I : Inv M) (f : agr (fun k i j => Fall k i j ∧ k ≠ 43) M M2) (g : ∀ j, j < 33 → M2 43 0 j = M 43 0 j) : Inv M2 := by
  obtain ⟨P, S, W, C, a, U, h0, L, x, c, u, v, b, p, q, kp, im, dr, hc, hs, hh, ht, hy, hb, hi, hd⟩ := I
  have hS := hc.1.2.1.2.1
  have hW := hc.1.2.1.2.2
  refine ⟨P, S, W, C, a, U, h0, L, x, c, u, v, b, p, q, kp, im, dr, hc.fr (f.sub fun k i j z => ⟨Or.inl z, by unfold Fc at z; omega⟩), ⟨hs.1.congr (fun k j hk => f _ _ _ ⟨Or.inr (Or.inl (by unfold Fs; omega)), by omega⟩), sG.congr (f := M 43 0) hs.2.1 hS hW g, hs.2.2⟩, hh.fr hS hW (f.sub fun k i j z => ⟨Or.inr (Or.inr (Or.inl z)), by unfold Fh at z; omega⟩), ht.fr (f.sub fun k i j z => ⟨Or.inr (Or.inr (Or.inr (Or.inl z))), by unfold Ft at z; omega⟩), hy.fr (f.sub fun k i j z => ⟨Or.inr (Or.inr (Or.inr (Or.inr (Or.inl z)))), by unfold Fy at z; omega⟩), hb.fr (f.sub fun k i j z => ⟨Or.inr (Or.inr (Or.inr (Or.inr (Or.inr (Or.inl z))))), by unfold Fb at z; omega⟩), hi.fr hS hW (f.sub fun k i j z => ⟨Or.inr (Or.inr (Or.inr (Or.inr (Or.inr (Or.inr (Or.inl z)))))), by unfold Fi at z; omega⟩), hd.fr (f.sub fun k i j z => ⟨Or.inr (Or.inr (Or.inr (Or.inr (Or.inr (Or.inr (Or.inr z)))))), by unfold Fz at z; omega⟩)⟩
theorem m_row {M : jw_Mem} {Q : Int32 → jw_Mem → Prop} {ks kd n : Nat} (hne : ks ≠ kd) (h1 : jw_a ks 0) (h2 : jw_a kd 0) (hl1 : n ≤ jw_len ks) (hl2 : n ≤ jw_len kd) (hb1 : jw_len ks < 2 ^ 31) (hb2 : jw_len kd < 2 ^ 31) (h : Q 0 (cpM M kd 0 ks 0 n)) : jw_M 0 mX11_copyRow [vr ks 0, vr kd 0, vi (nI n)] M Q := by
  refine en_X11_copyRow h1 h2 ?_
  have main : jw_J 0 mX11_copyRow 2 [(0, vr ks 0), (1, vr kd 0), (2, vi (nI n)), (3, vi (nI 0))] [] (cpM M kd 0 ks 0 0) Q := by
    refine lp_up (P := fun j => jw_J 0 mX11_copyRow 2 [(0, vr ks 0), (1, vr kd 0), (2, vi (nI n)), (3, vi (nI j))] [] (cpM M kd 0 ks 0 j) Q) n (bk_X11_copyRow_2 h1 h2 (ge_yes rfl h)) (fun j hj ih => ?_)
    refine bk_X11_copyRow_2 h1 h2 (ge_no rfl hj (by omega) ⟨vp_in_nI (by omega) hb1, vp_in_nI (by omega) hb2, ?_⟩)
    rintro M2 rfl
    have st := cpM_step (M := M) (kd := kd) (b := 0) (ks := ks) (bs := 0) (j := j) (v := M ks 0 j) (by rw [Nat.zero_add])
    rw [Nat.zero_add] at st
    rw [cl_i (by omega), cpM_out (by omega), st, nI_1]
    exact ih
  rw [cpM_0] at main
  exact main
theorem cp_at {M : jw_Mem} {ks kd n j : Nat} (h : j < n) : cpM M kd 0 ks 0 n kd 0 j = M ks 0 j := by
  have := cpM_in (M := M) (kd := kd) (b := 0) (ks := ks) (bs := 0) (j := n) (t := j) h
  rw [Nat.zero_add] at this
  exact this
def Gt : Nat → Nat → Nat → Prop := fun k i _ => ¬ ((k = 8 ∨ (26 ≤ k ∧ k ≤ 30)) ∧ i = 1)
theorem Gt_all {M M2 : jw_Mem} (f : agr Gt M M2) : agr Fall M M2 := f.sub (fun k i j z => by unfold Fall Fc Fs Fh Ft Fy Fb Fi Fz at z; unfold Gt; omega)
theorem S_pos {P S W : Nat} {C : Ab} (h : cW P S W C) {s : Nat} (hs : s < S) : ¬ C 4 0 ≤ 0 := T_pos h (fun z => by have := (h.2.2.1 z).2.1; omega)
theorem t_standing (a1 a2 : Int32) : Both 6 mX10_standing 7 mX11_standing [vi a1, vi a2] := by
  intro M I
  obtain ⟨P, S, W, C, a, U, h0, L, x, c, u, v, b, p, q, kp, im, dr, hc, hs, hh, ht, hy, hb, hi, hd⟩ := id I
  have hS := hc.1.2.1.2.1
  have hW := hc.1.2.1.2.2
  by_cases h1 : sp_has S a1
  · obtain ⟨s, hsS, rfl⟩ := h1.ex (by omega)
    have hTp := S_pos hc.2.2 hsS
    have hout : ¬ (0 ≤ a2 ∧ a2 ≤ 60) → jw_M 7 mX11_standing [vr 11 0, vi (nI s), vi a2] M (fun y M2 => -1000000002 = y ∧ Inv M2) := fun z => by
      refine en_X11_standing (m_isS hc.2.1 ?_)
      rw [if_pos h1]
      refine ⟨fun _ => r_in2 (lo' := 0) (hi' := 60) (by decide) (by decide) ?_, fun z => absurd z (by decide)⟩
      rw [if_neg z]
      exact ⟨fun z => absurd rfl z, fun _ => ⟨rfl, I⟩⟩
    refine en_X10_standing (k_hasS hc.1 ?_)
    rw [if_pos h1]
    refine ⟨fun _ => ⟨fun z => hout (fun y => absurd y.1 (Int32.not_le.mpr z)), fun z => ⟨fun z2 => ?_, fun z2 => hout (fun y => z2 y.2)⟩⟩, fun z => absurd z (by decide)⟩
    have hin : 0 ≤ a2 ∧ a2 ≤ 60 := ⟨Int32.not_lt.mp z, z2⟩
    obtain ⟨n, hn, rfl⟩ := nI_of2 (M := 60) (n := 60) (by decide) z z2
    refine k_copy (by decide) (by decide) hS hW hs.1 (fun M2 f2 s2 => ?_)
    have f2' : agr Gt M M2 := f2
    refine lp_up (P := fun j => ∀ M3, frS 1 M2 M3 → sK M3 1 S W (f_years C a S W j) → jw_J 6 mX10_standing 40 [(0, vr 10 0), (1, vi (nI s)), (2, vi (nI n)), (3, vi (nI j))] [] M3 _) n (fun M3 f3 s3 => bk_X10_standing_40 (ge_yes rfl ⟨vp_in_nI (by omega) (by decide), ?_⟩)) (fun j hj ih => ?_) M2 frS.rf s2
    · rw [cl_i (by omega), (s3.1 s hsS).1]
      have g3 : agr Gt M M3 := fun k i j z => (f3 k i j (by unfold Gt at z; omega)).trans (f2' k i j z)
      have I3 : Inv M3 := I.fr (Gt_all g3)
      have hcR : cR M3 P S W C := hc.2.1.ag (g3.sub (fun k i j z => by unfold Gt; omega))
      have hsR : sR M3 S W a := sG.congr (f := M 43 0) hs.2.1 hS hW (fun j _ => g3 _ _ _ (by unfold Gt; omega))
      refine en_X11_standing (m_isS hcR ?_)
      rw [if_pos h1]
      refine ⟨fun _ => r_in2 (lo' := 0) (hi' := 60) (by decide) (by decide) ?_, fun z => absurd z (by decide)⟩
      rw [if_pos hin]
      refine ⟨fun _ => m_row (n := 33) (by decide) ⟨rfl, by decide⟩ ⟨rfl, by decide⟩ (by decide) (by decide) (by decide) (by decide) ?_, fun z => absurd z (by decide)⟩
      have g4 : agr (fun k _ _ => k ≠ 53) M3 (cpM M3 53 0 43 0 33) := cpM_agr (fun i t => by omega)
      have b4 : ∀ j, j < 33 → cpM M3 53 0 43 0 33 53 0 j = M3 43 0 j := fun j hj => cp_at hj
      generalize cpM M3 53 0 43 0 33 = M4 at g4 b4 ⊢
      have hc4 : cR M4 P S W C := hcR.ag (g4.sub (fun k i j z => by omega))
      have hs4 : sR M4 S W a := sG.congr (f := M3 43 0) hsR hS hW (fun j _ => g4 _ _ _ (by omega))
      refine lp_up (P := fun j => ∀ M5, frR M4 M5 → sR M5 S W (f_years C a S W j) → jw_J 7 mX11_standing 41 [(0, vr 11 0), (1, vi (nI s)), (2, vi (nI n)), (3, vi (nI j))] [] M5 _) n (fun M5 f5 s5 => bk_X11_standing_41 (ge_yes rfl ⟨vp_in_nI (by omega) (by decide), ?_⟩)) (fun j hj ih => ?_) M4 frR.rf hs4
      · refine m_row (n := 33) (by decide) ⟨rfl, by decide⟩ ⟨rfl, by decide⟩ (by decide) (by decide) (by decide) (by decide) ⟨?_, ?_⟩
        · rw [cl_i (by omega), (s5.1 s hsS).1]
        · refine inv_keep I3 (fun k i j z => ?_) (fun j hj => ?_)
          · rw [cpM_out (by omega), f5 k i j z.2]
            exact g4 k i j (by have := z.1; unfold Fall Fc Fs Fh Ft Fy Fb Fi Fz at this; omega)
          · rw [cp_at hj, f5 _ _ _ (by omega), b4 j hj]
      · intro M5 f5 s5
        refine bk_X11_standing_41 (ge_no rfl hj (by omega) (m_year (hc4.fr f5) s5 (hs.2.2.years j) hTp (fun M6 f6 s6 => ?_)))
        rw [nI_1]
        exact ih M6 (f5.tr f6) s6
    · intro M3 f3 s3
      refine bk_X10_standing_40 (ge_no rfl hj (by omega) (k_year (by decide) ((hc.1.ag (f2'.sub (fun k i j z => by unfold Gt; omega))).fr f3) s3 (hs.2.2.years j) hTp (fun M4 f4 s4 => ?_)))
      rw [nI_1]
      exact ih M4 (f3.tr f4) s4
  · refine en_X10_standing (k_hasS hc.1 ?_)
    rw [if_neg h1]
    refine ⟨fun z => absurd rfl z, fun _ => en_X11_standing (m_isS hc.2.1 ?_)⟩
    rw [if_neg h1]
    exact ⟨fun z => absurd rfl z, fun _ => ⟨rfl, I⟩⟩
theorem t_goesDown (a1 : Int32) : Both 6 mX10_goesDown 7 mX11_goesDown [vi a1] := by
  intro M I
  obtain ⟨P, S, W, C, a, U, h0, L, x, c, u, v, b, p, q, kp, im, dr, hc, hs, hh, ht, hy, hb, hi, hd⟩ := id I
  have hS := hc.1.2.1.2.1
  have hW := hc.1.2.1.2.2
  by_cases h1 : sp_has S a1
  · obtain ⟨s, hsS, rfl⟩ := h1.ex (by omega)
    have hTp := S_pos hc.2.2 hsS
    obtain ⟨cc, ecc⟩ : ∃ cc : Nat → Bool, cc = fun j => decide (f_years C a S W j 0 s = -1) := ⟨_, rfl⟩
    -- the model, from any memory that is the old one but for the trial
    have mod : ∀ M3, agr Gt M M3 → jw_M 7 mX11_goesDown [vr 11 0, vi (nI s)] M3 (fun y M2 => sp_fst cc 0 101 = y ∧ Inv M2) := by
      intro M3 g3
      have I3 : Inv M3 := I.fr (Gt_all g3)
      have hcR : cR M3 P S W C := hc.2.1.ag (g3.sub (fun k i j z => by unfold Gt; omega))
      have hsR : sR M3 S W a := sG.congr (f := M 43 0) hs.2.1 hS hW (fun j _ => g3 _ _ _ (by unfold Gt; omega))
      refine en_X11_goesDown (m_isS hcR ?_)
      rw [if_pos h1]
      refine ⟨fun _ => m_row (n := 33) (by decide) ⟨rfl, by decide⟩ ⟨rfl, by decide⟩ (by decide) (by decide) (by decide) (by decide) ?_, fun z => absurd z (by decide)⟩
      have g4 : agr (fun k _ _ => k ≠ 53) M3 (cpM M3 53 0 43 0 33) := cpM_agr (fun i t => by omega)
      have b4 : ∀ j, j < 33 → cpM M3 53 0 43 0 33 53 0 j = M3 43 0 j := fun j hj => cp_at hj
      generalize cpM M3 53 0 43 0 33 = M4 at g4 b4 ⊢
      have hc4 : cR M4 P S W C := hcR.ag (g4.sub (fun k i j z => by omega))
      have hs4 : sR M4 S W a := sG.congr (f := M3 43 0) hsR hS hW (fun j _ => g4 _ _ _ (by omega))
      have fin : ∀ M5 y, frR M4 M5 → y = sp_fst cc 0 101 → jw_M 0 mX11_copyRow [vr 53 0, vr 43 0, vi (nI 33)] M5 (fun _ M2 => sp_fst cc 0 101 = y ∧ Inv M2) := fun M5 y f5 ey => by
        refine m_row (n := 33) (by decide) ⟨rfl, by decide⟩ ⟨rfl, by decide⟩ (by decide) (by decide) (by decide) (by decide) ⟨ey.symm, ?_⟩
        refine inv_keep I3 (fun k i j z => ?_) (fun j hj => ?_)
        · rw [cpM_out (by omega), f5 k i j z.2]
          exact g4 k i j (by have := z.1; unfold Fall Fc Fs Fh Ft Fy Fb Fi Fz at this; omega)
        · rw [cp_at hj, f5 _ _ _ (by omega), b4 j hj]
      have key : ∀ r j M5, j + r = 100 → frR M4 M5 → sR M5 S W (f_years C a S W j) → sp_fst cc j (r + 1) = sp_fst cc 0 101 → jw_J 7 mX11_goesDown 26 [(0, vr 11 0), (1, vi (nI s)), (2, vi (nI j))] [] M5 (fun y M2 => sp_fst cc 0 101 = y ∧ Inv M2) := by
        intro r
        induction r with
        | zero =>
          intro j M5 hj f5 s5 hq
          obtain rfl : j = 100 := by omega
          rw [sp_fst, sp_fst] at hq
          refine bk_X11_goesDown_26 (ge_yes (W := 100) rfl (m_stands (hc4.fr f5) s5 hsS (b01 (fun z => ?_) (fun z => ?_))))
          · rw [if_neg (by rw [ecc]; simpa using z)] at hq
            exact fin M5 _ f5 hq
          · rw [if_pos (by rw [ecc]; simpa using z)] at hq
            exact fin M5 _ f5 hq
        | succ r ih =>
          intro j M5 hj f5 s5 hq
          rw [sp_fst] at hq
          refine bk_X11_goesDown_26 (ge_no (W := 100) rfl (by omega) (by decide) (m_stands (hc4.fr f5) s5 hsS (b01 (fun z => ?_) (fun z => ?_))))
          · rw [if_neg (by rw [ecc]; simpa using z)] at hq
            refine m_year (hc4.fr f5) s5 (hs.2.2.years j) hTp (fun M6 f6 s6 => ?_)
            rw [nI_1]
            exact ih (j + 1) M6 (by omega) (f5.tr f6) s6 hq
          · rw [if_pos (by rw [ecc]; simpa using z)] at hq
            exact m_stands (hc4.fr f5) s5 hsS (b01 (fun z2 => absurd z2 z) (fun _ => fin M5 _ f5 hq))
      exact key 100 0 M4 (by omega) frR.rf hs4 rfl
    refine en_X10_goesDown (k_hasS hc.1 ?_)
    rw [if_pos h1]
    refine ⟨fun _ => k_copy (by decide) (by decide) hS hW hs.1 (fun M2 f2 s2 => ?_), fun z => absurd z (by decide)⟩
    have f2' : agr Gt M M2 := f2
    have hc2 : cK M2 P S W C := hc.1.ag (f2'.sub (fun k i j z => by unfold Gt; omega))
    have key : ∀ r j M3, j + r = 101 → frS 1 M2 M3 → sK M3 1 S W (f_years C a S W j) → sp_fst cc j r = sp_fst cc 0 101 → jw_J 6 mX10_goesDown 27 [(0, vr 10 0), (1, vi (nI s)), (2, vi (nI j))] [] M3 (fun x M1 => jw_M 7 mX11_goesDown [vr 11 0, vi (nI s)] M1 (fun y M2 => x = y ∧ Inv M2)) := by
      intro r
      induction r with
      | zero =>
        intro j M3 hj f3 s3 hq
        obtain rfl : j = 101 := by omega
        rw [sp_fst] at hq
        have g3 : agr Gt M M3 := fun k i j z => (f3 k i j (by unfold Gt at z; omega)).trans (f2' k i j z)
        refine bk_X10_goesDown_27 ⟨fun _ => ?_, fun z => absurd (by decide) z⟩
        rw [hq]
        exact mod M3 g3
      | succ r ih =>
        intro j M3 hj f3 s3 hq
        have g3 : agr Gt M M3 := fun k i j z => (f3 k i j (by unfold Gt at z; omega)).trans (f2' k i j z)
        rw [sp_fst] at hq
        refine bk_X10_goesDown_27 ⟨fun z => absurd z (Int32.not_lt.mpr ((nI_leI (b := 100) (by omega) (by decide)).mpr (by omega))), fun _ => k_stands (by decide) (hc2.fr f3) s3 (hs.2.2.years j) hsS (b10 (fun z => ?_) (fun z => ?_))⟩
        · rw [if_neg (by rw [ecc]; simpa using z)] at hq
          refine k_year (by decide) (hc2.fr f3) s3 (hs.2.2.years j) hTp (fun M6 f6 s6 => ?_)
          rw [nI_1]
          exact ih (j + 1) M6 (by omega) (f3.tr f6) s6 hq
        · rw [if_pos (by rw [ecc]; simpa using z)] at hq
          rw [hq]
          exact mod M3 g3
    exact key 101 0 M2 (by omega) frS.rf s2 rfl
  · refine en_X10_goesDown (k_hasS hc.1 ?_)
    rw [if_neg h1]
    refine ⟨fun z => absurd rfl z, fun _ => en_X11_goesDown (m_isS hc.2.1 ?_)⟩
    rw [if_neg h1]
    exact ⟨fun z => absurd rfl z, fun _ => ⟨rfl, I⟩⟩
theorem t_keep (a1 : Int32) : Both 2 mX10_keep 1 mX11_keep [vi a1] := by
  intro M I
  obtain ⟨P, S, W, C, a, U, h0, L, x, c, u, v, b, p, q, kp, im, dr, hc, hs, hh, ht, hy, hb, hi, hd⟩ := id I
  have hS := hc.1.2.1.2.1
  have hW := hc.1.2.1.2.2
  have hout : ¬ (0 ≤ a1 ∧ a1 ≤ 1) → jw_M 1 mX11_keep [vr 11 0, vi a1] M (fun y M2 => -1000000001 = y ∧ Inv M2) := fun z => by
    refine en_X11_keep (r_in2 (lo' := 0) (hi' := 1) (by decide) (by decide) ?_)
    rw [if_neg z]
    exact ⟨fun z => absurd rfl z, fun _ => ⟨rfl, I⟩⟩
  refine en_X10_keep ⟨fun z => hout (fun y => absurd y.1 (Int32.not_le.mpr z)), fun z => ⟨fun z2 => ?_, fun z2 => hout (fun y => z2 ?_)⟩⟩
  · obtain ⟨i, hi2, rfl⟩ := (show sp_has 2 a1 from ⟨Int32.not_lt.mp z, z2⟩).ex (by decide)
    have hin : 0 ≤ nI i ∧ nI i ≤ 1 := ⟨Int32.not_lt.mp z, (nI_leI (b := 1) (by omega) (by decide)).mpr (by omega)⟩
    have v2 : vp_in (nI i) 2 := vp_in_nI hi2 (by decide)
    refine ⟨v2, ?_⟩
    rw [cl_i (by omega)]
    intro q1 hq1 _
    subst q1
    refine k_copy (by omega) (by decide) hS hW hs.1 (fun M2 f2 s2 => ⟨v2, ?_⟩)
    rintro M3 rfl
    refine ⟨v2, ?_⟩
    rintro M4 rfl
    refine en_X3_clear ?_
    rintro M5 rfl
    have f5 : agr (fun k i2 _ => ¬ ((k = 8 ∨ (26 ≤ k ∧ k ≤ 30)) ∧ i2 = 18 + i) ∧ ¬ (k = 4 ∧ i2 = i) ∧ k ≠ 3) M (jw_up (jw_up (jw_up M2 4 i 1 (M2 2 0 2)) 4 i 2 1) 3 0 2 0) := up_agr (up_agr (up_agr (f2.sub (fun k i j z => z.1)) (by omega)) (by omega)) (by omega)
    have e1 : jw_up (jw_up (jw_up M2 4 i 1 (M2 2 0 2)) 4 i 2 1) 3 0 2 0 4 i 1 = M 11 0 12 := by
      rw [up_ne (by omega), up_ne (by omega), up_eq, f2 _ _ _ (by omega)]; exact hd.1
    have e2 : jw_up (jw_up (jw_up M2 4 i 1 (M2 2 0 2)) 4 i 2 1) 3 0 2 0 4 i 2 = 1 := by
      rw [up_ne (by omega), up_eq]
    have e3 : jw_up (jw_up (jw_up M2 4 i 1 (M2 2 0 2)) 4 i 2 1) 3 0 2 0 3 0 2 = 0 := up_eq
    have e4 : jw_up (jw_up (jw_up M2 4 i 1 (M2 2 0 2)) 4 i 2 1) 3 0 2 0 3 0 1 = M 3 0 1 := by
      rw [up_ne (by omega), up_ne (by omega), up_ne (by omega), f2 _ _ _ (by omega)]
    have s5 : sK (jw_up (jw_up (jw_up M2 4 i 1 (M2 2 0 2)) 4 i 2 1) 3 0 2 0) (18 + i) S W a := s2.congr (fun k j hk => by rw [up_ne (by omega), up_ne (by omega), up_ne (by omega)])
    generalize jw_up (jw_up (jw_up M2 4 i 1 (M2 2 0 2)) 4 i 2 1) 3 0 2 0 = M5 at f5 e1 e2 e3 e4 s5 ⊢
    have hsR : sR M5 S W a := sG.congr (f := M 43 0) hs.2.1 hS hW (fun j _ => f5 _ _ _ (by omega))
    refine en_X11_keep (r_in2 (lo' := 0) (hi' := 1) (by decide) (by decide) ?_)
    rw [if_pos hin]
    refine ⟨fun _ => ?_, fun z => absurd z (by decide)⟩
    have main : jw_J 1 mX11_keep 15 [(0, vr 11 0), (1, vi (nI i)), (2, vi (nI 0))] [] (cpM M5 60 (34 * i) 43 0 0) (fun y M2 => 1 = y ∧ Inv M2) := by
      refine lp_up (P := fun j => jw_J 1 mX11_keep 15 [(0, vr 11 0), (1, vi (nI i)), (2, vi (nI j))] [] (cpM M5 60 (34 * i) 43 0 j) (fun y M2 => 1 = y ∧ Inv M2)) 33 (bk_X11_keep_15 (ge_yes (W := 33) rfl ?_)) (fun j hj ih => ?_)
      · have e34 : (34 : Int32) * nI i + 33 = nI (34 * i + 33) := by
          rw [show (34 : Int32) = nI 34 from rfl, pk_mul, show (33 : Int32) = nI 33 from rfl, nI_add]
        rw [e34, cl_i (by omega), cl_i (by omega)]
        refine ⟨vp_in_nI (by omega) (by decide), ?_⟩
        rintro M6 rfl
        refine ⟨v2, ?_⟩
        rintro M7 rfl M8 rfl
        rw [cpM_out (by omega)]
        have n1 : vp_nar .boolean 1 = 1 := by decide +kernel
        rw [n1]
        refine ⟨rfl, ?_⟩
        have d5 : M5 11 0 12 = M 11 0 12 := f5 _ _ _ (by omega)
        rw [d5]
        have f8 : agr (fun k _ j => ¬ (k = 60 ∨ k = 61 ∨ (k = 11 ∧ j = 30))) M5 (jw_up (jw_up (jw_up (cpM M5 60 (34 * i) 43 0 33) 60 0 (34 * i + 33) (M 11 0 12)) 61 0 i 1) 11 0 30 0) := up_agr (up_agr (up_agr (cpM_agr (fun i t => by omega)) (by omega)) (by omega)) (by omega)
        have r1 : ∀ t, t < 33 → jw_up (jw_up (jw_up (cpM M5 60 (34 * i) 43 0 33) 60 0 (34 * i + 33) (M 11 0 12)) 61 0 i 1) 11 0 30 0 60 0 (34 * i + t) = M5 43 0 t := fun t ht => by
          rw [up_ne (by omega), up_ne (by omega), up_ne (by omega), cpM_in ht, Nat.zero_add]
        have r2 : jw_up (jw_up (jw_up (cpM M5 60 (34 * i) 43 0 33) 60 0 (34 * i + 33) (M 11 0 12)) 61 0 i 1) 11 0 30 0 60 0 (34 * i + 33) = M 11 0 12 := by
          rw [up_ne (by omega), up_ne (by omega), up_eq]
        have r3 : jw_up (jw_up (jw_up (cpM M5 60 (34 * i) 43 0 33) 60 0 (34 * i + 33) (M 11 0 12)) 61 0 i 1) 11 0 30 0 61 0 i = 1 := by
          rw [up_ne (by omega), up_eq]
        have r4 : jw_up (jw_up (jw_up (cpM M5 60 (34 * i) 43 0 33) 60 0 (34 * i + 33) (M 11 0 12)) 61 0 i 1) 11 0 30 0 11 0 30 = 0 := up_eq
        have r5 : ∀ t, ¬ (34 * i ≤ t ∧ t < 34 * i + 34) → jw_up (jw_up (jw_up (cpM M5 60 (34 * i) 43 0 33) 60 0 (34 * i + 33) (M 11 0 12)) 61 0 i 1) 11 0 30 0 60 0 t = M5 60 0 t := fun t ht => by
          rw [up_ne (by omega), up_ne (by omega), up_ne (by omega), cpM_out (by omega)]
        have r6 : ∀ t, t ≠ i → jw_up (jw_up (jw_up (cpM M5 60 (34 * i) 43 0 33) 60 0 (34 * i + 33) (M 11 0 12)) 61 0 i 1) 11 0 30 0 61 0 t = M5 61 0 t := fun t ht => by
          rw [up_ne (by omega), up_ne (by omega), up_ne (by omega), cpM_out (by omega)]
        generalize jw_up (jw_up (jw_up (cpM M5 60 (34 * i) 43 0 33) 60 0 (34 * i + 33) (M 11 0 12)) 61 0 i 1) 11 0 30 0 = M8 at f8 r1 r2 r3 r4 r5 r6 ⊢
        have fA : agr (fun k i2 j => ¬ (((k = 8 ∨ (26 ≤ k ∧ k ≤ 30)) ∧ i2 = 18 + i) ∨ (k = 4 ∧ i2 = i) ∨ k = 3 ∨ k = 60 ∨ k = 61 ∨ (k = 11 ∧ j = 30))) M M8 := fun k i2 j z => (f8 k i2 j (by omega)).trans (f5 k i2 j (by omega))
        obtain ⟨nx, hnx, en⟩ := hh.1.2
        refine inv_re (a := a) (U := 0) (h0 := h0) (kp := fun t => if t = i then 1 else kp t) (im := fun t => if t = i then a else im t) (dr := fun t => if t = i then M 11 0 12 else dr t) hc ht hy hb (fA.sub (fun k i2 j z => by omega)) (hs.fr (fA.sub (fun k i2 j z => by unfold Fs at z; omega))) ⟨⟨by rw [f8 _ _ _ (by omega), e3]; rfl, nx, hnx, by rw [f8 _ _ _ (by omega), e4]; exact en.1, fun t ht => absurd ht (by omega)⟩, ⟨by rw [r4]; rfl, fun t ht => absurd ht (by omega)⟩, by omega, fun t ht => absurd ht (by omega)⟩ (fun t ht2 => ?_) (hd.fr (fA.sub (fun k i2 j z => by unfold Fz at z; omega)))
        by_cases q : t = i
        · subst q
          simp only [if_pos]
          refine ⟨by rw [f8 _ _ _ (by omega), e2], r3, Or.inr ⟨trivial, s5.congr (fun k j hk => f8 _ _ _ (by omega)), sG.congr (f := M5 43 0) hsR hS hW (fun j hj => r1 j hj), hs.2.2, by rw [f8 _ _ _ (by omega), e1], r2, hd.2⟩⟩
        · simp only [if_neg q]
          obtain ⟨k1, k2, k3⟩ := hi t ht2
          refine ⟨(fA _ _ _ (by omega)).trans k1, by rw [r6 t q, f5 _ _ _ (by omega)]; exact k2, k3.imp id (fun w => ⟨w.1, w.2.1.congr (fun k j hk => fA _ _ _ (by omega)), w.2.2.1.congr hS hW (fun j hj => by rw [r5 _ (by omega), f5 _ _ _ (by omega)]), w.2.2.2.1, (fA _ _ _ (by omega)).trans w.2.2.2.2.1, by rw [r5 _ (by omega), f5 _ _ _ (by omega)]; exact w.2.2.2.2.2.1, w.2.2.2.2.2.2⟩)⟩
      · refine bk_X11_keep_15 (ge_no (W := 33) rfl hj (by decide) ⟨vp_in_nI hj (by decide), ?_⟩)
        have e34 : (34 : Int32) * nI i + nI j = nI (34 * i + j) := by
          rw [show (34 : Int32) = nI 34 from rfl, pk_mul, nI_add]
        rw [e34, cl_i (by omega), cl_i (by omega)]
        refine ⟨vp_in_nI (by omega) (by decide), ?_⟩
        rintro M6 rfl
        rw [cpM_out (by omega), cpM_step (by rw [Nat.zero_add]), nI_1]
        exact ih
    rw [cpM_0] at main
    exact main
  · exact Int32.lt_of_le_of_lt y.2 (by decide)
theorem t_goBack (a1 : Int32) : Both 2 mX10_goBack 1 mX11_goBack [vi a1] := by
  intro M I
  obtain ⟨P, S, W, C, a, U, h0, L, x, c, u, v, b, p, q, kp, im, dr, hc, hs, hh, ht, hy, hb, hi, hd⟩ := id I
  have hS := hc.1.2.1.2.1
  have hW := hc.1.2.1.2.2
  have hout : ¬ (0 ≤ a1 ∧ a1 ≤ 1) → jw_M 1 mX11_goBack [vr 11 0, vi a1] M (fun y M2 => -1000000001 = y ∧ Inv M2) := fun z => by
    refine en_X11_goBack (r_in2 (lo' := 0) (hi' := 1) (by decide) (by decide) ?_)
    rw [if_neg z]
    exact ⟨fun z => absurd rfl z, fun _ => ⟨rfl, I⟩⟩
  refine en_X10_goBack ⟨fun z => hout (fun y => absurd y.1 (Int32.not_le.mpr z)), fun z => ⟨fun z2 => ?_, fun z2 => hout (fun y => z2 ?_)⟩⟩
  · obtain ⟨i, hi2, rfl⟩ := (show sp_has 2 a1 from ⟨Int32.not_lt.mp z, z2⟩).ex (by decide)
    have hin : 0 ≤ nI i ∧ nI i ≤ 1 := ⟨Int32.not_lt.mp z, (nI_leI (b := 1) (by omega) (by decide)).mpr (by omega)⟩
    have v2 : vp_in (nI i) 2 := vp_in_nI hi2 (by decide)
    refine ⟨v2, ?_⟩
    rw [cl_i (by omega)]
    intro q1 hq1 _
    subst q1
    obtain ⟨k1, k2, k3⟩ := hi i hi2
    rw [k1]
    rcases k3 with k3 | ⟨k3, w1, w2, w3, w4, w5, w6⟩
    · refine ⟨fun z => absurd k3 z, fun _ => en_X11_goBack (r_in2 (lo' := 0) (hi' := 1) (by decide) (by decide) ?_)⟩
      rw [if_pos hin, cl_i (by omega), k2]
      exact ⟨fun _ => ⟨v2, fun z => absurd k3 z, fun _ => ⟨rfl, I⟩⟩, fun z => absurd z (by decide)⟩
    · refine ⟨fun _ => ⟨v2, k_copy (by decide) (by omega) hS hW w1 (fun M2 f2 s2 => ⟨v2, ?_⟩)⟩, fun z => absurd z (by rw [k3]; decide)⟩
      rintro M3 rfl
      refine en_X3_clear ?_
      rintro M4 rfl
      have f5 : agr (fun k i2 _ => ¬ ((k = 8 ∨ (26 ≤ k ∧ k ≤ 30)) ∧ i2 = 0) ∧ k ≠ 2 ∧ k ≠ 3) M (jw_up (jw_up M2 2 0 2 (M2 4 i 1)) 3 0 2 0) := up_agr (up_agr (f2.sub (fun k i j z => z.1)) (by omega)) (by omega)
      have e1 : jw_up (jw_up M2 2 0 2 (M2 4 i 1)) 3 0 2 0 2 0 2 = dr i := by
        rw [up_ne (by omega), up_eq, f2 _ _ _ (by omega)]; exact w4
      have e3 : jw_up (jw_up M2 2 0 2 (M2 4 i 1)) 3 0 2 0 3 0 2 = 0 := up_eq
      have e4 : jw_up (jw_up M2 2 0 2 (M2 4 i 1)) 3 0 2 0 3 0 1 = M 3 0 1 := by
        rw [up_ne (by omega), up_ne (by omega), f2 _ _ _ (by omega)]
      have s5 : sK (jw_up (jw_up M2 2 0 2 (M2 4 i 1)) 3 0 2 0) 0 S W (im i) := s2.congr (fun k j hk => by rw [up_ne (by omega), up_ne (by omega)])
      generalize jw_up (jw_up M2 2 0 2 (M2 4 i 1)) 3 0 2 0 = M5 at f5 e1 e3 e4 s5 ⊢
      refine en_X11_goBack (r_in2 (lo' := 0) (hi' := 1) (by decide) (by decide) ?_)
      rw [if_pos hin, cl_i (by omega), f5 61 0 i (by omega), k2, k3]
      refine ⟨fun _ => ⟨v2, fun _ => ?_, fun z => absurd z (by decide)⟩, fun z => absurd z (by decide)⟩
      have main : jw_J 1 mX11_goBack 28 [(0, vr 11 0), (1, vi (nI i)), (2, vi (nI 0))] [] (cpM M5 43 0 60 (34 * i) 0) (fun y M2 => 1 = y ∧ Inv M2) := by
        refine lp_up (P := fun j => jw_J 1 mX11_goBack 28 [(0, vr 11 0), (1, vi (nI i)), (2, vi (nI j))] [] (cpM M5 43 0 60 (34 * i) j) (fun y M2 => 1 = y ∧ Inv M2)) 33 (bk_X11_goBack_28 (ge_yes (W := 33) rfl ?_)) (fun j hj ih => ?_)
        · have e34 : (34 : Int32) * nI i + 33 = nI (34 * i + 33) := by
            rw [show (34 : Int32) = nI 34 from rfl, pk_mul, show (33 : Int32) = nI 33 from rfl, nI_add]
          rw [e34, cl_i (by omega)]
          refine ⟨vp_in_nI (by omega) (by decide), ?_⟩
          rintro M6 rfl M7 rfl
          have d6 : M5 60 0 (34 * i + 33) = dr i := (f5 _ _ _ (by omega)).trans w5
          rw [cpM_out (by omega), d6]
          refine ⟨rfl, ?_⟩
          have f8 : agr (fun k _ j => ¬ (k = 43 ∨ (k = 11 ∧ (j = 12 ∨ j = 30)))) M5 (jw_up (jw_up (cpM M5 43 0 60 (34 * i) 33) 11 0 12 (dr i)) 11 0 30 0) := up_agr (up_agr (cpM_agr (fun i t => by omega)) (by omega)) (by omega)
          have r1 : ∀ t, t < 33 → jw_up (jw_up (cpM M5 43 0 60 (34 * i) 33) 11 0 12 (dr i)) 11 0 30 0 43 0 t = M5 60 0 (34 * i + t) := fun t ht => by
            have := cpM_in (M := M5) (kd := 43) (b := 0) (ks := 60) (bs := 34 * i) (j := 33) (t := t) ht
            rw [Nat.zero_add] at this
            rw [up_ne (by omega), up_ne (by omega), this]
          have r4 : jw_up (jw_up (cpM M5 43 0 60 (34 * i) 33) 11 0 12 (dr i)) 11 0 30 0 11 0 30 = 0 := up_eq
          have r5 : jw_up (jw_up (cpM M5 43 0 60 (34 * i) 33) 11 0 12 (dr i)) 11 0 30 0 11 0 12 = dr i := by
            rw [up_ne (by omega), up_eq]
          generalize jw_up (jw_up (cpM M5 43 0 60 (34 * i) 33) 11 0 12 (dr i)) 11 0 30 0 = M8 at f8 r1 r4 r5 ⊢
          have fA : agr (fun k i2 j => ¬ (((k = 8 ∨ (26 ≤ k ∧ k ≤ 30)) ∧ i2 = 0) ∨ k = 2 ∨ k = 3 ∨ k = 43 ∨ (k = 11 ∧ (j = 12 ∨ j = 30)))) M M8 := fun k i2 j z => (f8 k i2 j (by omega)).trans (f5 k i2 j (by omega))
          obtain ⟨nx, hnx, en⟩ := hh.1.2
          refine inv_re (a := im i) (U := 0) (h0 := h0) (kp := kp) (im := im) (dr := dr) hc ht hy hb (fA.sub (fun k i2 j z => by omega)) ⟨s5.congr (fun k j hk => f8 _ _ _ (by omega)), ?_, w3⟩ ⟨⟨by rw [f8 _ _ _ (by omega), e3]; rfl, nx, hnx, by rw [f8 _ _ _ (by omega), e4]; exact en.1, fun t ht => absurd ht (by omega)⟩, ⟨by rw [r4]; rfl, fun t ht => absurd ht (by omega)⟩, by omega, fun t ht => absurd ht (by omega)⟩ (hi.fr hS hW (fA.sub (fun k i2 j z => by unfold Fi at z; omega))) ⟨by rw [f8 _ _ _ (by omega), e1, r5], by rw [r5]; exact w6⟩
          exact sG.congr w2 hS hW (fun j hj => by rw [r1 j hj, f5 _ _ _ (by omega)])
        · refine bk_X11_goBack_28 (ge_no (W := 33) rfl hj (by decide) ?_)
          have e34 : (34 : Int32) * nI i + nI j = nI (34 * i + j) := by
            rw [show (34 : Int32) = nI 34 from rfl, pk_mul, nI_add]
          rw [e34, cl_i (by omega), cl_i (by omega)]
          refine ⟨vp_in_nI (by omega) (by decide), vp_in_nI hj (by decide), ?_⟩
          rintro M6 rfl
          have st := cpM_step (M := M5) (kd := 43) (b := 0) (ks := 60) (bs := 34 * i) (j := j) (v := M5 60 0 (34 * i + j)) rfl
          rw [Nat.zero_add] at st
          rw [cpM_out (by omega), st, nI_1]
          exact ih
      rw [cpM_0] at main
      exact main
  · exact Int32.lt_of_le_of_lt y.2 (by decide)
