/-! ===== years, undone ===== -/
theorem cR.ag {M M2 : jw_Mem} {P S W : Nat} {C : Ab} (h : cR M P S W C) (e : agr (fun k _ j => (k = 11 ∧ (j = 0 ∨ j = 1 ∨ j = 3 ∨ j = 7)) ∨ k = 36 ∨ k = 37 ∨ k = 39 ∨ k = 41) M M2) : cR M2 P S W C := by
  obtain ⟨⟨g1, g2, g3, g4⟩, gb, g5, g6, g7⟩ := h
  exact ⟨⟨(e _ _ _ (by omega)).trans g1, (e _ _ _ (by omega)).trans g2, (e _ _ _ (by omega)).trans g3, (e _ _ _ (by omega)).trans g4⟩, gb, fun j hj => (e _ _ _ (by omega)).trans (g5 j hj), fun j hj => ⟨(e _ _ _ (by omega)).trans (g6 j hj).1, (e _ _ _ (by omega)).trans (g6 j hj).2⟩, fun j hj => (e _ _ _ (by omega)).trans (g7 j hj)⟩
theorem cK.ag {M M2 : jw_Mem} {P S W : Nat} {C : Ab} (h : cK M P S W C) (e : agr (fun k i _ => i = 0 ∧ (k = 1 ∨ k = 14 ∨ k = 15 ∨ k = 16 ∨ k = 18)) M M2) : cK M2 P S W C := by
  obtain ⟨⟨g1, g2, g3, g4⟩, gb, g5, g6, g7⟩ := h
  exact ⟨⟨(e _ _ _ (by omega)).trans g1, (e _ _ _ (by omega)).trans g2, (e _ _ _ (by omega)).trans g3, (e _ _ _ (by omega)).trans g4⟩, gb, fun j hj => (e _ _ _ (by omega)).trans (g5 j hj), fun j hj => ⟨(e _ _ _ (by omega)).trans (g6 j hj).1, (e _ _ _ (by omega)).trans (g6 j hj).2⟩, fun j hj => (e _ _ _ (by omega)).trans (g7 j hj)⟩
def v_ref (T y a1 : Int32) : Int32 := if 1 ≤ a1 ∧ a1 ≤ 60 then (if T = 0 then -1000000003 else if y ≤ 9000 then 0 else -1000000004) else -1000000002
theorem v_ref0 {T y a1 : Int32} (h : v_ref T y a1 = 0) : (1 ≤ a1 ∧ a1 ≤ 60) ∧ ¬ T = 0 := by
  unfold v_ref at h
  by_cases q : 1 ≤ a1 ∧ a1 ≤ 60
  · rw [if_pos q] at h
    refine ⟨q, fun z => ?_⟩
    rw [if_pos z] at h
    exact absurd h (by decide)
  · rw [if_neg q] at h
    exact absurd h (by decide)
def f_years (C a : Ab) (S W : Nat) : Nat → Ab
  | 0 => a
  | k + 1 => f_year C (f_years C a S W k) S W
theorem plOK.years {P S W : Nat} {C a : Ab} (h : plOK P S a) : ∀ k, plOK P S (f_years C a S W k)
  | 0 => h
  | k + 1 => (plOK.years h k).year
section YE
variable {P S W : Nat} {C a : Ab} {M : jw_Mem} {Q : Int32 → jw_Mem → Prop}
theorem k_ref (hc : cK M P S W C) (hs : sK M 0 S W a) {a1 : Int32} (h : Q (v_ref (C 4 0) (a 5 0) a1) M) : jw_M 0 mX10_refusalOfYears [vr 10 0, vi a1] M Q := by
  unfold v_ref at h
  refine en_X10_refusalOfYears ⟨fun z => ?_, fun z => ⟨fun z2 => ?_, fun z2 => ?_⟩⟩
  · rw [if_neg (fun y => absurd y.1 (Int32.not_le.mpr z))] at h; exact h
  · rw [if_pos ⟨Int32.not_lt.mp z, z2⟩] at h
    rw [hc.1.2.2.2, hs.2.2]
    refine ⟨fun z3 => ⟨fun z4 => ?_, fun z4 => ?_⟩, fun z3 => ?_⟩
    · rw [if_neg z3, if_pos z4] at h; exact h
    · rw [if_neg z3, if_neg z4] at h; exact h
    · rw [if_pos z3] at h; exact h
  · rw [if_neg (fun y => z2 y.2)] at h; exact h
theorem m_ref (hc : cR M P S W C) (hs : sR M S W a) {a1 : Int32} (h : Q (v_ref (C 4 0) (a 5 0) a1) M) : jw_M 1 mX11_yearsRefused [vr 11 0, vi a1] M Q := by
  unfold v_ref at h
  refine en_X11_yearsRefused (r_in2 (lo' := 1) (hi' := 60) (by decide) (by decide) (b10 (fun z => ?_) (fun z => ?_)))
  · rw [if_pos z] at h
    rw [hc.1.2.2.2, show (32 : Int32).toNatClampNeg = 32 from cl_i (j := 32) (by decide), hs.2.2]
    refine ⟨fun z3 => ⟨vp_in_nI (n := 32) (by decide) (by decide), fun z4 => ?_, fun z4 => ?_⟩, fun z3 => ?_⟩
    · rw [if_neg z3, if_pos z4] at h; exact h
    · rw [if_neg z3, if_neg z4] at h; exact h
    · rw [if_pos z3] at h; exact h
  · rw [if_neg z] at h; exact h
end YE
theorem T_pos {P S W : Nat} {C : Ab} (h : cW P S W C) (hT : ¬ C 4 0 = 0) : ¬ C 4 0 ≤ 0 := fun z => hT (Int32.le_antisymm z h.2.1)
theorem t_year (a1 : Int32) : Both 6 mX10_year 7 mX11_year [vi a1] := by
  intro M I
  obtain ⟨P, S, W, C, a, U, h0, L, x, c, u, v, b, p, q, kp, im, dr, hc, hs, hh, ht, hy, hb, hi, hd⟩ := id I
  have hS := hc.1.2.1.2.1
  have hW := hc.1.2.1.2.2
  by_cases h1 : v_ref (C 4 0) (a 5 0) a1 = 0
  · obtain ⟨⟨h2, h3⟩, hT⟩ := v_ref0 h1
    have hTp := T_pos hc.2.2 hT
    obtain ⟨n, hn, rfl⟩ := nI_of2 (M := 60) (n := 60) (by decide) (Int32.not_lt.mpr (Int32.le_trans (by decide) h2)) h3
    refine both_mut hc hs hh ht hy hb hi hd (pushU U) (pushH U h0 a) (f_years C a S W n) (f_stand (f_years C a S W n) S) (hs.2.2.years n) (push_ok hh.2.2.1 hs.2.2 hh.2.2.2) (fun Q h => ?_) (fun M1 hc1 hs1 hh1 Q h => ?_)
    · refine en_X10_year (k_ref hc.1 hs.1 ?_)
      rw [h1]
      refine b_z (k_push hS hW hh.2.2.1 hs.1 hh.1 (fun M2 f2 k2 => ?_))
      have hs2 : sK M2 0 S W a := hs.1.congr (fun k j hk => f2 _ _ _ (by omega))
      have hc2 : cK M2 P S W C := hc.1.ag (f2.sub (fun k i j z => by omega))
      refine lp_up (P := fun j => ∀ M3, frS 0 M2 M3 → sK M3 0 S W (f_years C a S W j) → jw_J 6 mX10_year 25 [(0, vr 10 0), (1, vi (nI n)), (3, vi (nI j))] [] M3 Q) n (fun M3 f3 s3 => bk_X10_year_25 (ge_yes rfl ?_)) (fun j hj ih => ?_) M2 frS.rf hs2
      · refine k_standers (by decide) (hc2.fr f3) s3 (hs.2.2.years n) (h M3 (fun k i j z => (f3 k i j (by unfold Gc at z; omega)).trans (f2 k i j (by unfold Gc at z; omega))) s3 (k2.fr (push_ok hh.2.2.1 hs.2.2 hh.2.2.2).1 (fun k i j z => f3 k i j (by omega))))
      · intro M3 f3 s3
        refine bk_X10_year_25 (ge_no rfl hj (by omega) (k_year (by decide) (hc2.fr f3) s3 (hs.2.2.years j) hTp (fun M4 f4 s4 => ?_)))
        rw [nI_1]
        exact ih M4 (f3.tr f4) s4
    · refine en_X11_year (m_ref hc1 hs1 ?_)
      rw [h1]
      refine b_z (m_push hS hW hh.2.2.1 hs1 hh1 (fun M2 f2 g2 k2 => ?_))
      have hs2 : sR M2 S W a := sG.congr (f := M1 43 0) hs1 hS hW (fun j _ => g2 j)
      have hc2 : cR M2 P S W C := hc1.ag (f2.sub (fun k i j z => by unfold Gr; omega))
      refine lp_up (P := fun j => ∀ M3, frR M2 M3 → sR M3 S W (f_years C a S W j) → jw_J 7 mX11_year 18 [(0, vr 11 0), (1, vi (nI n)), (3, vi (nI j))] [] M3 Q) n (fun M3 f3 s3 => bk_X11_year_18 (ge_yes rfl ?_)) (fun j hj ih => ?_) M2 frR.rf hs2
      · refine m_standers (hc2.fr f3) s3 (h M3 (fun k i j z => (f3 k i j (by unfold Gr at z; omega)).trans (f2 k i j z)) s3 (k2.fr hS hW (fun k i j z => f3 k i j (by omega))))
      · intro M3 f3 s3
        refine bk_X11_year_18 (ge_no rfl hj (by omega) (m_year (hc2.fr f3) s3 (hs.2.2.years j) hTp (fun M4 f4 s4 => ?_)))
        rw [nI_1]
        exact ih M4 (f3.tr f4) s4
  · exact en_X10_year (k_ref hc.1 hs.1 ⟨fun z => absurd z h1, fun _ => en_X11_year (m_ref hc.2.1 hs.2.1 ⟨fun z => absurd z h1, fun _ => ⟨rfl, I⟩⟩)⟩)
theorem t_undo : Both 3 mX10_undo 0 mX11_undo [] := by
  intro M I
  obtain ⟨P, S, W, C, a, U, h0, L, x, c, u, v, b, p, q, kp, im, dr, hc, hs, hh, ht, hy, hb, hi, hd⟩ := id I
  have hS := hc.1.2.1.2.1
  have hW := hc.1.2.1.2.2
  obtain ⟨⟨e1, nx, hnx, e2, hv⟩, ⟨g1, gv⟩, hU, hpp⟩ := id hh
  by_cases h1 : U = 0
  · subst h1
    exact en_X10_undo ⟨fun z => absurd e1 z, fun _ => en_X11_undo ⟨fun z => absurd g1 z, fun _ => ⟨rfl, I⟩⟩⟩
  · obtain ⟨U', rfl⟩ : ∃ U', U = U' + 1 := ⟨U - 1, by omega⟩
    have hu : nI (U' + 1) - 1 = nI U' := nI_pred U'
    refine both_mut hc hs hh ht hy hb hi hd U' h0 (h0 U') (nI U') (hpp U' (by omega)) ⟨by omega, fun i hi => hpp i (by omega)⟩ (fun Q h => ?_) (fun M1 hc1 hs1 hh1 Q h => ?_)
    · refine en_X10_undo ⟨fun _ => en_X3_popInto (by decide) ⟨fun z => absurd z (by rw [e1]; exact nI_nle (by omega) (by omega)), fun _ => ?_⟩, fun z => absurd z (by rw [e1]; exact nI_ne0 (by omega) (by omega))⟩
      rw [e2]
      have hm : ((nI nx + 16) - 1) - ((nI nx + 16) - 1) / 16 * 16 = nI ((nx + 15) % 16) := by
        rw [show (nI nx + 16) - 1 = nI (nx + 15) from by rw [show (16 : Int32) = nI 16 from rfl, nI_add, show nx + 16 = nx + 15 + 1 by omega, nI_pred]]
        exact pk_rem (d := 16) (by omega) (by decide) (by decide)
      rw [hm]
      rintro M2 rfl
      rw [up_eq, cl_i (by omega)]
      refine ⟨vp_in_nI (by omega) (by decide), ?_⟩
      intro q2 hq2 _
      subst q2
      have s1 : sK (jw_up M 3 0 1 (nI ((nx + 15) % 16))) (2 + (nx + 15) % 16) S W (h0 U') := by
        have := hv U' (by omega)
        rw [show (nx + 16 - (U' + 1) + U') % 16 = (nx + 15) % 16 by omega] at this
        exact this.congr (fun k j hk => up_ne (by omega))
      refine k_copy (by decide) (by omega) hS hW s1 (fun M3 f3 s3 => ?_)
      rintro M4 rfl
      have e3 : M3 3 0 2 = nI (U' + 1) := by rw [f3 _ _ _ (by omega), up_ne (by omega), e1]
      rw [e3, hu, up_eq]
      refine h _ (up_agr (fun k i j z => (f3 k i j (by unfold Gc at z; omega)).trans (up_ne (by unfold Gc at z; omega))) (by unfold Gc; omega)) (s3.congr (fun k j hk => up_ne (by omega))) ⟨by rw [up_eq], (nx + 15) % 16, by omega, by rw [up_ne (by omega), f3 _ _ _ (by omega), up_eq], fun i hi => ?_⟩
      have := hv i (by omega)
      rw [show 2 + (nx + 16 - (U' + 1) + i) % 16 = 2 + ((nx + 15) % 16 + 16 - U' + i) % 16 by omega] at this
      exact this.congr (fun k j hk => by rw [up_ne (by omega), f3 _ _ _ (by omega), up_ne (by omega)])
    · obtain ⟨g1, gv⟩ := hh1
      refine en_X11_undo ⟨fun _ => ?_, fun z => absurd z (by rw [g1]; exact nI_ne0 (by omega) (by omega))⟩
      rw [g1, hu]
      rintro M2 rfl
      have main : jw_J 0 mX11_undo 23 [(0, vr 11 0), (1, vi (nI 0))] [] (cpM (jw_up M1 11 0 30 (nI U')) 43 0 52 (33 * U') 0) Q := by
        refine lp_up (P := fun j => jw_J 0 mX11_undo 23 [(0, vr 11 0), (1, vi (nI j))] [] (cpM (jw_up M1 11 0 30 (nI U')) 43 0 52 (33 * U') j) Q) 33 (bk_X11_undo_23 (ge_yes (W := 33) rfl ?_)) (fun j hj ih => ?_)
        · rw [cpM_out (by omega), up_eq]
          refine h _ ((up_agr agr.rf (by unfold Gr; omega)).tr (cpM_agr (fun i t => by unfold Gr; omega))) ?_ ⟨by rw [cpM_out (by omega), up_eq], fun i hi => (gv i (by omega)).congr hS hW (fun j hj => by rw [cpM_out (by omega), up_ne (by omega)])⟩
          refine sG.congr (gv U' (by omega)) hS hW (fun j hj => ?_)
          have := cpM_in (M := jw_up M1 11 0 30 (nI U')) (kd := 43) (b := 0) (ks := 52) (bs := 33 * U') (j := 33) (t := j) hj
          rw [Nat.zero_add] at this
          rw [this, up_ne (by omega)]
        · refine bk_X11_undo_23 (ge_no (W := 33) rfl hj (by decide) ?_)
          have e33 : (33 : Int32) * nI U' + nI j = nI (33 * U' + j) := by
            rw [show (33 : Int32) = nI 33 from rfl, pk_mul, nI_add]
          rw [cpM_out (by omega), up_eq, e33, cl_i (by omega), cl_i (by omega)]
          refine ⟨vp_in_nI (by omega) (by decide), vp_in_nI hj (by decide), ?_⟩
          rintro M3 rfl
          have := cpM_step (M := jw_up M1 11 0 30 (nI U')) (kd := 43) (b := 0) (ks := 52) (bs := 33 * U') (j := j) (v := jw_up M1 11 0 30 (nI U') 52 0 (33 * U' + j)) rfl
          rw [Nat.zero_add] at this
          rw [cpM_out (by omega), this, nI_1]
          exact ih
      rw [cpM_0] at main
      exact main
