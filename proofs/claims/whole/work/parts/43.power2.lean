/-! ===== power, the model's ===== -/
section PM
variable {P S W : Nat} {C a : Ab} {M : jw_Mem} {Q : Int32 → jw_Mem → Prop}
theorem m_power (hc : cR M P S W C) {w : Nat} (hw : w < W) {u en v3 : Int32} (h : Q (lpF (f_pw C W w u en (¬ v3 = 1)) (2 ^ W) 0 0) M) : jw_J 2 mX11_power 68 [(0, vr 11 0), (1, vi (nI w)), (3, vi v3), (4, vi u), (5, vi en), (6, vi 0), (7, vi 0)] [] M Q := by
  have hW7 := hc.2.1.2.2
  have hpw := pow_le hW7 (Nat.le_refl _)
  refine lp_f (S := 2 ^ W) (f := f_pw C W w u en (¬ v3 = 1)) (J := fun j acc => jw_J 2 mX11_power 68 [(0, vr 11 0), (1, vi (nI w)), (3, vi v3), (4, vi u), (5, vi en), (6, vi acc), (7, vi (nI j))] [] M Q) (fun j acc hj ih => ?_) (2 ^ W) 0 0 (by omega) (bk_X11_power_68 ?_)
  · refine bk_X11_power_68 ?_
    rw [hc.1.2.2.1, sh1 W (by omega)]
    refine ge_no rfl hj (by omega) ?_
    rw [nI_1]
    rw [f_pw] at ih
    have skip : ¬ f_pwC C W w u en j → jw_J 2 mX11_power 68 [(0, vr 11 0), (1, vi (nI w)), (3, vi v3), (4, vi u), (5, vi en), (6, vi (acc + 0)), (7, vi (nI (j + 1)))] [] M Q := fun z => by
      rw [if_neg z] at ih; rw [i_add0]; exact ih
    refine m_votes hc ⟨fun z => ?_, fun z => r_has (b10 (fun z2 => ?_) (fun z2 => ⟨fun z3 => ?_, fun z3 => ⟨vp_in_nI (by omega) (by decide), ?_⟩⟩))⟩
    · have t := skip (fun y => z y.1)
      exact ⟨fun _ => m_ways (K := fun _ _ M9 => jw_J 2 mX11_power 68 [(0, vr 11 0), (1, vi (nI w)), (3, vi v3), (4, vi u), (5, vi en), (6, vi (acc + 0)), (7, vi (nI (j + 1)))] [] M9 Q) t, fun _ => t⟩
    · have t := skip (fun y => y.2.1 z2)
      exact ⟨fun _ => m_ways (K := fun _ _ M9 => jw_J 2 mX11_power 68 [(0, vr 11 0), (1, vi (nI w)), (3, vi v3), (4, vi u), (5, vi en), (6, vi (acc + 0)), (7, vi (nI (j + 1)))] [] M9 Q) t, fun _ => t⟩
    · have t := skip (fun y => y.2.2.1 z3)
      exact ⟨fun _ => m_ways (K := fun _ _ M9 => jw_J 2 mX11_power 68 [(0, vr 11 0), (1, vi (nI w)), (3, vi v3), (4, vi u), (5, vi en), (6, vi (acc + 0)), (7, vi (nI (j + 1)))] [] M9 Q) t, fun _ => t⟩
    · rw [cl_i (by omega), hc.2.2.2.2 w hw]
      refine ⟨fun z4 => ?_, fun z4 => ?_⟩
      · have t := skip (fun y => y.2.2.2 z4)
        exact ⟨fun _ => m_ways (K := fun _ _ M9 => jw_J 2 mX11_power 68 [(0, vr 11 0), (1, vi (nI w)), (3, vi v3), (4, vi u), (5, vi en), (6, vi (acc + 0)), (7, vi (nI (j + 1)))] [] M9 Q) t, fun _ => t⟩
      · rw [if_pos ⟨z, z2, z3, z4⟩] at ih
        refine ⟨fun z5 => ?_, fun z5 => ?_⟩
        · rw [if_pos z5] at ih
          exact m_ways (K := fun x17 x23 M9 => jw_J 2 mX11_power 68 [(0, vr 11 0), (1, vi (nI w)), (3, vi v3), (4, vi u), (5, vi en), (6, vi (acc + (x17 * x23))), (7, vi (nI (j + 1)))] [] M9 Q) ih
        · rw [if_neg (fun y => y z5)] at ih; exact ih
  · rw [hc.1.2.2.1, sh1 W (by omega)]
    exact ge_yes rfl h
end PM
theorem t_power (a1 a2 a3 : Int32) : Both 3 mX10_power 2 mX11_power [vi a1, vi a2, vi a3] := by
  intro M I
  obtain ⟨P, S, W, C, a, U, h0, L, x, c, u, v, b, p, q, kp, im, dr, hc, hs, hh, ht, hy, hb, hi, hd⟩ := id I
  have hW := hc.1.2.1.2.2
  by_cases h1 : sp_has W a1
  · by_cases h2 : sp_has P a2
    · obtain ⟨w, hw, rfl⟩ := h1.ex (by omega)
      have hout : ¬ (0 ≤ a3 ∧ a3 ≤ 1) → jw_M 2 mX11_power [vr 11 0, vi (nI w), vi a2, vi a3] M (fun y M2 => -1000000002 = y ∧ Inv M2) := fun z => by
        refine en_X11_power (m_isW hc.2.1 ?_)
        rw [if_pos h1]
        refine b_o (m_isP hc.2.1 ?_)
        rw [if_pos h2]
        refine ⟨fun _ => r_in2 (lo' := 0) (hi' := 1) (by decide) (by decide) ?_, fun z => absurd z (by decide)⟩
        rw [if_neg z]
        exact ⟨fun z => absurd rfl z, fun _ => ⟨rfl, I⟩⟩
      refine en_X10_power (k_hasW hc.1 ?_)
      rw [if_pos h1]
      refine b_o (k_hasP hc.1 ?_)
      rw [if_pos h2]
      refine ⟨fun _ => ⟨fun z => hout (fun y => absurd y.1 (Int32.not_le.mpr z)), fun z => ⟨fun z2 => ?_, fun z2 => hout (fun y => z2 y.2)⟩⟩, fun z => absurd z (by decide)⟩
      have hin : 0 ≤ a3 ∧ a3 ≤ 1 := ⟨Int32.not_lt.mp z, z2⟩
      have h01 : a3 = 0 ∨ a3 = 1 := by
        obtain ⟨n, hn, rfl⟩ := nI_of2 (M := 1) (n := 1) (by decide) z z2
        rcases (show n = 0 ∨ n = 1 by omega) with rfl | rfl
        · exact Or.inl rfl
        · exact Or.inr rfl
      have mod : jw_M 2 mX11_power [vr 11 0, vi (nI w), vi a2, vi a3] M (fun y M2 => f_pow C a W w a2 (¬ a3 = 1) = y ∧ Inv M2) := by
        refine en_X11_power (m_isW hc.2.1 ?_)
        rw [if_pos h1]
        refine b_o (m_isP hc.2.1 ?_)
        rw [if_pos h2]
        refine ⟨fun _ => r_in2 (lo' := 0) (hi' := 1) (by decide) (by decide) ?_, fun z => absurd z (by decide)⟩
        rw [if_pos hin]
        refine ⟨fun _ => m_under hc.2.1 hs.2.1 (r_has (b10 (fun hb => m_votes hc.2.1 ?_) (fun hb => ?_))), fun z => absurd z (by decide)⟩
        · refine m_power hc.2.1 hw ⟨?_, I⟩
          rw [f_pow, if_pos hb]
        · refine ⟨?_, I⟩
          rw [f_pow, if_neg hb]
      refine ⟨fun z3 => ?_, fun z3 => ?_⟩
      · have e1 : a3 = 1 := h01.resolve_left z3
        exact k_power hc.1 hs.1 hw (ord := ¬ a3 = 1) (Or.inr ⟨rfl, fun y => y e1⟩) mod
      · exact k_power hc.1 hs.1 hw (ord := ¬ a3 = 1) (Or.inl ⟨rfl, by rw [z3]; decide⟩) mod
    · refine en_X10_power (k_hasW hc.1 ?_)
      rw [if_pos h1]
      refine b_o (k_hasP hc.1 ?_)
      rw [if_neg h2]
      refine ⟨fun z => absurd rfl z, fun _ => en_X11_power (m_isW hc.2.1 ?_)⟩
      rw [if_pos h1]
      refine b_o (m_isP hc.2.1 ?_)
      rw [if_neg h2]
      exact ⟨fun z => absurd rfl z, fun _ => ⟨rfl, I⟩⟩
  · refine en_X10_power (k_hasW hc.1 ?_)
    rw [if_neg h1]
    refine b_z (en_X11_power (m_isW hc.2.1 ?_))
    rw [if_neg h1]
    exact b_z ⟨rfl, I⟩
