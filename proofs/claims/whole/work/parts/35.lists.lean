/-! ===== the text, the counts, the book, the seed, odds ===== -/
theorem up_val {M : jw_Mem} {k n j : Nat} {v : Int32} {k2 n2 j2 : Nat} : jw_up M k n j v k2 n2 j2 = if k2 = k ∧ n2 = n ∧ j2 = j then v else M k2 n2 j2 := rfl
theorem r_in2 {a lo' hi' : Int32} {lo hi : Int64} (h1 : lo = lo'.toInt64) (h2 : hi = hi'.toInt64) {M : jw_Mem} {Q : Int32 → jw_Mem → Prop} (h : Q (if lo' ≤ a ∧ a ≤ hi' then 1 else 0) M) : jw_M 0 mX11_in [vl a.toInt64, vl lo, vl hi] M Q := by
  refine r_in ?_
  subst h1
  subst h2
  rw [if_iff (and_congr l_le l_le)]
  exact h
theorem lt_nI {L n : Nat} {x : Int32} (hx : x = nI n) (hL : L < 2 ^ 31) (hn : n < 2 ^ 31) : nI L < x ↔ L < n := by
  rw [hx]; exact nI_ltI hL hn
theorem t_feed (a1 : Int32) : Both 1 mX10_feed 1 mX11_feed [vi a1] := by
  intro M I
  obtain ⟨P, S, W, C, a, U, h0, L, x, c, u, v, b, p, q, kp, im, dr, hc, hs, hh, ht, hy, hb, hi, hd⟩ := id I
  have hout : ¬ (0 ≤ a1 ∧ a1 ≤ 255) → jw_M 1 mX11_feed [vr 11 0, vi a1] M (fun y M2 => -1000000002 = y ∧ Inv M2) := fun z => by
    refine en_X11_feed (r_in2 (lo' := 0) (hi' := 255) (by decide) (by decide) ?_)
    rw [if_neg z]
    exact ⟨fun z => absurd rfl z, fun _ => ⟨rfl, I⟩⟩
  refine en_X10_feed ⟨fun z => hout (fun y => absurd y.1 (Int32.not_le.mpr z)), fun z => ⟨fun z2 => ?_, fun z2 => hout (fun y => z2 y.2)⟩⟩
  have hin : 0 ≤ a1 ∧ a1 ≤ 255 := ⟨Int32.not_lt.mp z, z2⟩
  have hL := ht.1.2.2
  have e1 := ht.1.1
  have e2 := ht.1.2.1
  by_cases hlt : L < 240
  · refine en_X7_append ⟨fun _ => ?_, fun z3 => absurd ((lt_nI (n := 240) rfl (by omega) (by decide)).mpr hlt) (by rw [e1] at z3; exact z3)⟩
    rw [e1, cl_i (by omega)]
    refine ⟨vp_in_nI hlt (by decide), ?_⟩
    rintro M1 rfl M2 rfl
    refine b_o (en_X11_feed (r_in2 (lo' := 0) (hi' := 255) (by decide) (by decide) ?_))
    rw [if_pos hin]
    refine ⟨fun _ => ?_, fun z => absurd z (by decide)⟩
    have e3 : jw_up (jw_up M 25 0 L a1) 7 0 2 (jw_up M 25 0 L a1 7 0 2 + 1) 11 0 14 = nI L := by simp [up_val, e2]
    rw [e3, cl_i (by omega)]
    refine ⟨fun _ => ⟨vp_in_nI hlt (by decide), ?_⟩, fun z => absurd z (nI_ne (b := 240) (by omega) (by omega) (by decide))⟩
    rintro M3 rfl M4 rfl
    refine ⟨by simp [up_val, e1, e2], P, S, W, C, a, U, h0, L + 1, (fun i => if i = L then a1 else x i), c, u, v, b, p, q, kp, im, dr, hc.fr ?_, hs.fr ?_, hh.fr hc.1.2.1.2.1 hc.1.2.1.2.2 ?_, ?_, hy.fr ?_, hb.fr ?_, hi.fr hc.1.2.1.2.1 hc.1.2.1.2.2 ?_, hd.fr ?_⟩
    · exact up_agr (up_agr (up_agr (up_agr agr.rf (by unfold Fc; omega)) (by unfold Fc; omega)) (by unfold Fc; omega)) (by unfold Fc; omega)
    · exact up_agr (up_agr (up_agr (up_agr agr.rf (by unfold Fs; omega)) (by unfold Fs; omega)) (by unfold Fs; omega)) (by unfold Fs; omega)
    · exact up_agr (up_agr (up_agr (up_agr agr.rf (by unfold Fh; omega)) (by unfold Fh; omega)) (by unfold Fh; omega)) (by unfold Fh; omega)
    · refine ⟨⟨by simp [up_val, e1, nI_1], by simp [up_val, e2, nI_1], by omega⟩, fun i hi => ?_, by simp [up_val, ht.2.2]⟩
      by_cases q : i = L
      · subst q
        simp [up_val, hin.1]
      · have hiL : i < L := by omega
        obtain ⟨t1, t2, t3⟩ := ht.2.1 i hiL
        simp [up_val, q, t1, t2, t3]
    · exact up_agr (up_agr (up_agr (up_agr agr.rf (by unfold Fy; omega)) (by unfold Fy; omega)) (by unfold Fy; omega)) (by unfold Fy; omega)
    · exact up_agr (up_agr (up_agr (up_agr agr.rf (by unfold Fb; omega)) (by unfold Fb; omega)) (by unfold Fb; omega)) (by unfold Fb; omega)
    · exact up_agr (up_agr (up_agr (up_agr agr.rf (by unfold Fi; omega)) (by unfold Fi; omega)) (by unfold Fi; omega)) (by unfold Fi; omega)
    · exact up_agr (up_agr (up_agr (up_agr agr.rf (by unfold Fz; omega)) (by unfold Fz; omega)) (by unfold Fz; omega)) (by unfold Fz; omega)
  · obtain rfl : L = 240 := by omega
    refine en_X7_append ⟨fun z3 => absurd z3 (by rw [e1]; decide), fun _ => b_z (en_X11_feed (r_in2 (lo' := 0) (hi' := 255) (by decide) (by decide) ?_))⟩
    rw [if_pos hin, e2]
    exact ⟨fun _ => ⟨fun z => absurd rfl z, fun _ => ⟨rfl, I⟩⟩, fun z => absurd z (by decide)⟩
theorem t_seed (a1 : Int32) : Both 0 mX10_seed 0 mX11_seed [vi a1] := by
  intro M I
  obtain ⟨P, S, W, C, a, U, h0, L, x, c, u, v, b, p, q, kp, im, dr, hc, hs, hh, ht, hy, hb, hi, hd⟩ := id I
  refine en_X10_seed ⟨fun z => ?_, fun z => en_X11_seed ⟨fun z2 => absurd z2 z, fun _ => ⟨rfl, I⟩⟩⟩
  rintro M1 rfl
  refine en_X11_seed ⟨fun _ => ?_, fun z2 => absurd z z2⟩
  rintro M2 rfl
  refine ⟨by simp [up_val, hd.1], P, S, W, C, a, U, h0, L, x, c, u, v, b, p, q, kp, im, dr, hc.fr ?_, hs.fr ?_, hh.fr hc.1.2.1.2.1 hc.1.2.1.2.2 ?_, ht.fr ?_, hy.fr ?_, hb.fr ?_, hi.fr hc.1.2.1.2.1 hc.1.2.1.2.2 ?_, ?_⟩
  · exact up_agr (up_agr agr.rf (by unfold Fc; omega)) (by unfold Fc; omega)
  · exact up_agr (up_agr agr.rf (by unfold Fs; omega)) (by unfold Fs; omega)
  · exact up_agr (up_agr agr.rf (by unfold Fh; omega)) (by unfold Fh; omega)
  · exact up_agr (up_agr agr.rf (by unfold Ft; omega)) (by unfold Ft; omega)
  · exact up_agr (up_agr agr.rf (by unfold Fy; omega)) (by unfold Fy; omega)
  · exact up_agr (up_agr agr.rf (by unfold Fb; omega)) (by unfold Fb; omega)
  · exact up_agr (up_agr agr.rf (by unfold Fi; omega)) (by unfold Fi; omega)
  · exact ⟨by simp [up_val], by simp [up_val, z]⟩
def f_odds (a2 : Int32) (n : Nat) : Int64 := lpF (fun _ v3 => (v3 * a2.toInt64) / 100) n 0 1000000000
theorem m_close {n : Nat} {a2 : Int32} (hn : n ≤ 60) (h2 : 0 ≤ a2 ∧ a2 ≤ 100) {M : jw_Mem} {Q : Int32 → jw_Mem → Prop} (h : Q (f_odds a2 n).toInt32 M) : jw_M 1 mX11_close [vr 11 0, vi (nI n), vi a2] M Q := by
  refine en_X11_close (r_in2 (lo' := 0) (hi' := 60) (by decide) (by decide) ?_)
  rw [if_pos ⟨nI_pos' (by omega), (nI_leI (b := 60) (by omega) (by decide)).mpr hn⟩]
  refine b_o (r_in2 (lo' := 0) (hi' := 100) (by decide) (by decide) ?_)
  rw [if_pos h2]
  refine ⟨fun _ => ?_, fun z => absurd z (by decide)⟩
  exact lp_f (S := n) (f := fun _ v3 => (v3 * a2.toInt64) / 100) (J := fun j v3 => jw_J 1 mX11_close 34 [(1, vi (nI n)), (2, vi a2), (3, vl v3), (5, vi (nI j))] [] M Q) (fun j v3 hj ih => bk_X11_close_34 (ge_no rfl hj (by omega) (by rw [nI_1]; exact ih))) n 0 1000000000 (by omega) (bk_X11_close_34 (ge_yes rfl h))
theorem t_close (a1 a2 : Int32) : Both 0 mX10_close 1 mX11_close [vi a1, vi a2] := by
  intro M I
  have h1 : ¬ (0 ≤ a1 ∧ a1 ≤ 60) → jw_M 1 mX11_close [vr 11 0, vi a1, vi a2] M (fun y M2 => -1000000002 = y ∧ Inv M2) := fun z => by
    refine en_X11_close (r_in2 (lo' := 0) (hi' := 60) (by decide) (by decide) ?_)
    rw [if_neg z]
    exact b_z ⟨rfl, I⟩
  have h2 : (0 ≤ a1 ∧ a1 ≤ 60) → ¬ (0 ≤ a2 ∧ a2 ≤ 100) → jw_M 1 mX11_close [vr 11 0, vi a1, vi a2] M (fun y M2 => -1000000002 = y ∧ Inv M2) := fun z z2 => by
    refine en_X11_close (r_in2 (lo' := 0) (hi' := 60) (by decide) (by decide) ?_)
    rw [if_pos z]
    refine b_o (r_in2 (lo' := 0) (hi' := 100) (by decide) (by decide) ?_)
    rw [if_neg z2]
    exact ⟨fun z => absurd rfl z, fun _ => ⟨rfl, I⟩⟩
  refine en_X10_close ⟨fun z => h1 (fun y => absurd y.1 (Int32.not_le.mpr z)), fun z => ⟨fun z2 => h1 (fun y => absurd y.2 (Int32.not_le.mpr z2)), fun z2 => ⟨fun z3 => h2 ⟨Int32.not_lt.mp z, Int32.not_lt.mp z2⟩ (fun y => absurd y.1 (Int32.not_le.mpr z3)), fun z3 => ⟨fun z4 => ?_, fun z4 => h2 ⟨Int32.not_lt.mp z, Int32.not_lt.mp z2⟩ (fun y => z4 y.2)⟩⟩⟩⟩
  obtain ⟨n, hn, rfl⟩ := nI_of2 (M := 60) (n := 60) (by decide) z (Int32.not_lt.mp z2)
  exact lp_f (S := n) (f := fun _ v3 => (v3 * a2.toInt64) / 100) (J := fun j v3 => jw_J 0 mX10_close 30 [(1, vi (nI n)), (2, vi a2), (3, vl v3), (5, vi (nI j))] [] M (fun x M1 => jw_M 1 mX11_close [vr 11 0, vi (nI n), vi a2] M1 (fun y M2 => x = y ∧ Inv M2))) (fun j v3 hj ih => bk_X10_close_30 (ge_no rfl hj (by omega) (by rw [nI_1]; exact ih))) n 0 1000000000 (by omega) (bk_X10_close_30 (ge_yes rfl (m_close hn ⟨Int32.not_lt.mp z3, z4⟩ ⟨rfl, I⟩)))
theorem t_count (a1 a2 : Int32) : Both 1 mX10_count 2 mX11_count [vi a1, vi a2] := by
  intro M I
  obtain ⟨P, S, W, C, a, U, h0, L, x, c, u, v, b, p, q, kp, im, dr, hc, hs, hh, ht, hy, hb, hi, hd⟩ := id I
  obtain ⟨⟨e1, e2, hc6⟩, hcv⟩ := id hy
  by_cases h1 : sp_has P a1
  · have hout : ¬ (0 ≤ a2 ∧ a2 ≤ 99) → jw_M 2 mX11_count [vr 11 0, vi a1, vi a2] M (fun y M2 => -1000000002 = y ∧ Inv M2) := fun z => by
      refine en_X11_count (m_isP hc.2.1 ?_)
      rw [if_pos h1]
      refine ⟨fun _ => r_in2 (lo' := 0) (hi' := 99) (by decide) (by decide) ?_, fun z => absurd z (by decide)⟩
      rw [if_neg z]
      exact ⟨fun z => absurd rfl z, fun _ => ⟨rfl, I⟩⟩
    refine en_X10_count (k_hasP hc.1 ?_)
    rw [if_pos h1]
    refine ⟨fun _ => ⟨fun z => hout (fun y => absurd y.1 (Int32.not_le.mpr z)), fun z => ⟨fun z2 => ?_, fun z2 => hout (fun y => z2 y.2)⟩⟩, fun z => absurd z (by decide)⟩
    have hin : 0 ≤ a2 ∧ a2 ≤ 99 := ⟨Int32.not_lt.mp z, z2⟩
    by_cases hlt : c < 6
    · refine en_X9_add ⟨fun _ => ?_, fun z3 => absurd ((lt_nI (n := 6) rfl (by omega) (by decide)).mpr hlt) (by rw [e1] at z3; exact z3)⟩
      rw [e1, cl_i (by omega)]
      refine ⟨vp_in_nI hlt (by decide), ?_⟩
      rintro M1 rfl
      have e3 : jw_up M 31 0 c a1 9 0 6 = nI c := by simp [up_val, e1]
      rw [e3, cl_i (by omega)]
      refine ⟨vp_in_nI hlt (by decide), ?_⟩
      rintro M2 rfl M3 rfl
      have f3 : agr (fun k i j => ¬ (k = 31 ∨ k = 32 ∨ (k = 9 ∧ j = 6))) M (jw_up (jw_up (jw_up M 31 0 c a1) 32 0 c a2) 9 0 6 (jw_up (jw_up M 31 0 c a1) 32 0 c a2 9 0 6 + 1)) := up_agr (up_agr (up_agr agr.rf (by omega)) (by omega)) (by omega)
      have g1 : jw_up (jw_up (jw_up M 31 0 c a1) 32 0 c a2) 9 0 6 (jw_up (jw_up M 31 0 c a1) 32 0 c a2 9 0 6 + 1) 9 0 6 = nI (c + 1) := by simp [up_val, e1, nI_1]
      have g2 : ∀ i, i < c + 1 → jw_up (jw_up (jw_up M 31 0 c a1) 32 0 c a2) 9 0 6 (jw_up (jw_up M 31 0 c a1) 32 0 c a2 9 0 6 + 1) 31 0 i = (if i = c then a1 else u i) ∧ jw_up (jw_up (jw_up M 31 0 c a1) 32 0 c a2) 9 0 6 (jw_up (jw_up M 31 0 c a1) 32 0 c a2 9 0 6 + 1) 32 0 i = (if i = c then a2 else v i) := fun i hi => by
        by_cases q : i = c
        · simp [up_val, q]
        · obtain ⟨t1, t2, t3, t4⟩ := hcv i (by omega)
          simp [up_val, q, t1, t3]
      generalize jw_up (jw_up (jw_up M 31 0 c a1) 32 0 c a2) 9 0 6 (jw_up (jw_up M 31 0 c a1) 32 0 c a2 9 0 6 + 1) = M3 at f3 g1 g2 ⊢
      have hc3 := hc.fr (f3.sub (fun k i j z => by unfold Fc at z; omega))
      have e4 : M3 11 0 34 = nI c := (f3 _ _ _ (by omega)).trans e2
      refine b_o (en_X11_count (m_isP hc3.2.1 ?_))
      rw [if_pos h1]
      refine ⟨fun _ => r_in2 (lo' := 0) (hi' := 99) (by decide) (by decide) ?_, fun z => absurd z (by decide)⟩
      rw [if_pos hin, e4, cl_i (by omega)]
      refine ⟨fun _ => ⟨fun _ => ⟨vp_in_nI hlt (by decide), ?_⟩, fun z => absurd z (nI_ne (b := 6) (by omega) (by omega) (by decide))⟩, fun z => absurd z (by decide)⟩
      rintro M4 rfl
      have e5 : jw_up M3 55 0 c a1 11 0 34 = nI c := by simp [up_val, e4]
      rw [e5, cl_i (by omega)]
      refine ⟨vp_in_nI hlt (by decide), ?_⟩
      rintro M5 rfl M6 rfl
      have f6 : agr (fun k i j => ¬ (k = 55 ∨ k = 56 ∨ (k = 11 ∧ j = 34))) M3 (jw_up (jw_up (jw_up M3 55 0 c a1) 56 0 c a2) 11 0 34 (jw_up (jw_up M3 55 0 c a1) 56 0 c a2 11 0 34 + 1)) := up_agr (up_agr (up_agr agr.rf (by omega)) (by omega)) (by omega)
      have f : agr (fun k i j => ¬ (k = 31 ∨ k = 32 ∨ (k = 9 ∧ j = 6) ∨ k = 55 ∨ k = 56 ∨ (k = 11 ∧ j = 34))) M (jw_up (jw_up (jw_up M3 55 0 c a1) 56 0 c a2) 11 0 34 (jw_up (jw_up M3 55 0 c a1) 56 0 c a2 11 0 34 + 1)) := (f3.sub (fun k i j z => by omega)).tr (f6.sub (fun k i j z => by omega))
      refine ⟨by rw [g1]; simp [up_val, e4, nI_1], P, S, W, C, a, U, h0, L, x, c + 1, (fun i => if i = c then a1 else u i), (fun i => if i = c then a2 else v i), b, p, q, kp, im, dr, hc.fr (f.sub (fun k i j z => by unfold Fc at z; omega)), hs.fr (f.sub (fun k i j z => by unfold Fs at z; omega)), hh.fr hc.1.2.1.2.1 hc.1.2.1.2.2 (f.sub (fun k i j z => by unfold Fh at z; omega)), ht.fr (f.sub (fun k i j z => by unfold Ft at z; omega)), ?_, hb.fr (f.sub (fun k i j z => by unfold Fb at z; omega)), hi.fr hc.1.2.1.2.1 hc.1.2.1.2.2 (f.sub (fun k i j z => by unfold Fi at z; omega)), hd.fr (f.sub (fun k i j z => by unfold Fz at z; omega))⟩
      refine ⟨⟨by simp [up_val, g1], by simp [up_val, e4, nI_1], by omega⟩, fun i hi => ?_⟩
      obtain ⟨s1, s2⟩ := g2 i hi
      refine ⟨by simp [up_val, s1], ?_, by simp [up_val, s2], ?_⟩
      · by_cases q : i = c
        · simp [up_val, q]
        · obtain ⟨t1, t2, t3, t4⟩ := hcv i (by omega)
          simp [up_val, q, (f3 55 0 i (by omega)).trans t2]
      · by_cases q : i = c
        · simp [up_val, q]
        · obtain ⟨t1, t2, t3, t4⟩ := hcv i (by omega)
          simp [up_val, q, (f3 56 0 i (by omega)).trans t4]
    · obtain rfl : c = 6 := by omega
      refine en_X9_add ⟨fun z3 => absurd z3 (by rw [e1]; decide), fun _ => b_z (en_X11_count (m_isP hc.2.1 ?_))⟩
      rw [if_pos h1]
      refine ⟨fun _ => r_in2 (lo' := 0) (hi' := 99) (by decide) (by decide) ?_, fun z => absurd z (by decide)⟩
      rw [if_pos hin, e2]
      exact ⟨fun _ => ⟨fun z => absurd rfl z, fun _ => ⟨rfl, I⟩⟩, fun z => absurd z (by decide)⟩
  · refine en_X10_count (k_hasP hc.1 ?_)
    rw [if_neg h1]
    refine ⟨fun z => absurd rfl z, fun _ => en_X11_count (m_isP hc.2.1 ?_)⟩
    rw [if_neg h1]
    exact ⟨fun z => absurd rfl z, fun _ => ⟨rfl, I⟩⟩
/-- the class's entry behind the book -/
theorem k_badd {M : jw_Mem} {b : Nat} {p q : Nat → Int32} {a1 a2 : Int32} {Q : Int32 → jw_Mem → Prop} (e1 : M 0 0 3 = nI b) (hb : b ≤ 15) (hv : ∀ i, i < b → M 12 0 i = p i ∧ M 13 0 i = q i) (hf : b = 15 → Q 0 M) (ht : b < 15 → ∀ M2, agr (fun k i j => ¬ (k = 12 ∨ k = 13 ∨ (k = 0 ∧ j = 3))) M M2 → M2 0 0 3 = nI (b + 1) → (∀ i, i < b + 1 → M2 12 0 i = (if i = b then a1 else p i) ∧ M2 13 0 i = (if i = b then a2 else q i)) → Q 1 M2) : jw_M 0 mX0_add [vr 0 0, vi a1, vi a2] M Q := by
  by_cases hlt : b < 15
  · refine en_X0_add ⟨fun _ => ?_, fun z3 => absurd ((lt_nI (n := 15) rfl (by omega) (by decide)).mpr hlt) (by rw [e1] at z3; exact z3)⟩
    rw [e1, cl_i (by omega)]
    refine ⟨vp_in_nI hlt (by decide), ?_⟩
    rintro M1 rfl
    have e3 : jw_up M 12 0 b a1 0 0 3 = nI b := by simp [up_val, e1]
    rw [e3, cl_i (by omega)]
    refine ⟨vp_in_nI hlt (by decide), ?_⟩
    rintro M2 rfl M3 rfl
    refine ht hlt _ (up_agr (up_agr (up_agr agr.rf (by omega)) (by omega)) (by omega)) (by simp [up_val, e1, nI_1]) (fun i hi => ?_)
    by_cases z : i = b
    · simp [up_val, z]
    · obtain ⟨t1, t2⟩ := hv i (by omega)
      simp [up_val, z, t1, t2]
  · obtain rfl : b = 15 := by omega
    exact en_X0_add ⟨fun z3 => absurd z3 (by rw [e1]; decide), fun _ => hf rfl⟩
theorem t_write (a1 a2 : Int32) : Both 1 mX10_write 2 mX11_write [vi a1, vi a2] := by
  intro M I
  obtain ⟨P, S, W, C, a, U, h0, L, x, c, u, v, b, p, q, kp, im, dr, hc, hs, hh, ht, hy, hb, hi, hd⟩ := id I
  obtain ⟨⟨e1, e2, hb15⟩, hbv⟩ := id hb
  by_cases h1 : sp_has S a1
  · -- what both do once the entry is allowed
    have core : ∀ (Q : Int32 → jw_Mem → Prop), (∀ y M2, (y = -1000000004 ∧ b = 15 ∧ M2 = M) ∨ (∃ M3, y = nI (b + 1) ∧ b < 15 ∧ agr (fun k i j => ¬ (k = 12 ∨ k = 13 ∨ (k = 0 ∧ j = 3))) M M3 ∧ M3 0 0 3 = nI (b + 1) ∧ (∀ i, i < b + 1 → M3 12 0 i = (if i = b then a1 else p i) ∧ M3 13 0 i = (if i = b then a2 else q i)) ∧ M2 = M3) → Q y M2) → jw_M 0 mX0_add [vr 0 0, vi a1, vi a2] M (fun x3 M4 => ((x3 = 0 → Q (-1000000004) M4) ∧ (¬ x3 = 0 → Q (M4 0 0 3) M4))) := fun Q hQ =>
      k_badd e1 hb15 (fun i hi => ⟨(hbv i hi).1, (hbv i hi).2.2.1⟩) (fun z => b_z (hQ _ _ (Or.inl ⟨rfl, z, rfl⟩))) (fun z M3 f g1 g2 => b_o (hQ _ _ (Or.inr ⟨M3, g1, z, f, g1, g2, rfl⟩)))
    -- the model, from either memory
    have mod : ∀ y M2, (y = -1000000004 ∧ b = 15 ∧ M2 = M) ∨ (∃ M3, y = nI (b + 1) ∧ b < 15 ∧ agr (fun k i j => ¬ (k = 12 ∨ k = 13 ∨ (k = 0 ∧ j = 3))) M M3 ∧ M3 0 0 3 = nI (b + 1) ∧ (∀ i, i < b + 1 → M3 12 0 i = (if i = b then a1 else p i) ∧ M3 13 0 i = (if i = b then a2 else q i)) ∧ M2 = M3) → ((¬ M2 11 0 38 = 15 → (vp_in (M2 11 0 38) 15 ∧ (∀ M3 : jw_Mem, M3 = jw_up M2 58 0 (M2 11 0 38).toNatClampNeg a1 → (vp_in (M3 11 0 38) 15 ∧ (∀ M4 : jw_Mem, M4 = jw_up M3 59 0 (M3 11 0 38).toNatClampNeg a2 → (∀ M5 : jw_Mem, M5 = jw_up M4 11 0 38 (M4 11 0 38 + 1) → (y = M5 11 0 38 ∧ Inv M5))))))) ∧ (M2 11 0 38 = 15 → (y = -1000000004 ∧ Inv M2))) := by
      rintro y M2 (⟨rfl, z, rfl⟩ | ⟨M3, rfl, hlt, f3, g1, g2, rfl⟩)
      · subst z
        exact ⟨fun z => absurd e2 z, fun _ => ⟨rfl, I⟩⟩
      · have e4 : M2 11 0 38 = nI b := (f3 _ _ _ (by omega)).trans e2
        rw [e4, cl_i (by omega)]
        refine ⟨fun _ => ⟨vp_in_nI hlt (by decide), ?_⟩, fun z => absurd z (nI_ne (b := 15) (by omega) (by omega) (by decide))⟩
        rintro M4 rfl
        have e5 : jw_up M2 58 0 b a1 11 0 38 = nI b := by simp [up_val, e4]
        rw [e5, cl_i (by omega)]
        refine ⟨vp_in_nI hlt (by decide), ?_⟩
        rintro M5 rfl M6 rfl
        have f6 : agr (fun k i j => ¬ (k = 58 ∨ k = 59 ∨ (k = 11 ∧ j = 38))) M2 (jw_up (jw_up (jw_up M2 58 0 b a1) 59 0 b a2) 11 0 38 (jw_up (jw_up M2 58 0 b a1) 59 0 b a2 11 0 38 + 1)) := up_agr (up_agr (up_agr agr.rf (by omega)) (by omega)) (by omega)
        have f : agr (fun k i j => ¬ (k = 12 ∨ k = 13 ∨ (k = 0 ∧ j = 3) ∨ k = 58 ∨ k = 59 ∨ (k = 11 ∧ j = 38))) M (jw_up (jw_up (jw_up M2 58 0 b a1) 59 0 b a2) 11 0 38 (jw_up (jw_up M2 58 0 b a1) 59 0 b a2 11 0 38 + 1)) := (f3.sub (fun k i j z => by omega)).tr (f6.sub (fun k i j z => by omega))
        refine ⟨by simp [up_val, e4, nI_1], P, S, W, C, a, U, h0, L, x, c, u, v, b + 1, (fun i => if i = b then a1 else p i), (fun i => if i = b then a2 else q i), kp, im, dr, hc.fr (f.sub (fun k i j z => by unfold Fc at z; omega)), hs.fr (f.sub (fun k i j z => by unfold Fs at z; omega)), hh.fr hc.1.2.1.2.1 hc.1.2.1.2.2 (f.sub (fun k i j z => by unfold Fh at z; omega)), ht.fr (f.sub (fun k i j z => by unfold Ft at z; omega)), hy.fr (f.sub (fun k i j z => by unfold Fy at z; omega)), ?_, hi.fr hc.1.2.1.2.1 hc.1.2.1.2.2 (f.sub (fun k i j z => by unfold Fi at z; omega)), hd.fr (f.sub (fun k i j z => by unfold Fz at z; omega))⟩
        refine ⟨⟨by simp [up_val, g1], by simp [up_val, e4, nI_1], by omega⟩, fun i hi => ?_⟩
        obtain ⟨s1, s2⟩ := g2 i hi
        by_cases z : i = b
        · refine ⟨by simp [up_val, s1], by simp [up_val, z], by simp [up_val, s2], by simp [up_val, z], by simp [z]; exact h1⟩
        · obtain ⟨t1, t2, t3, t4, t5⟩ := hbv i (by omega)
          refine ⟨by simp [up_val, s1], by simp [up_val, z, (f3 58 0 i (by omega)).trans t2], by simp [up_val, s2], by simp [up_val, z, (f3 59 0 i (by omega)).trans t4], by simp [z]; exact t5⟩
    have h1' := h1
    refine en_X10_write (k_hasS hc.1 ?_)
    rw [if_pos h1]
    refine b_o ⟨fun z => ?_, fun z => k_hasP hc.1 (b10 (fun h2 => ?_) (fun h2 => ?_))⟩
    · refine core (fun y M2 => jw_M 2 mX11_write [vr 11 0, vi a1, vi a2] M2 (fun y2 M3 => y = y2 ∧ Inv M3)) (fun y M2 hM => ?_)
      have hc2 : cR M2 P S W C := by
        rcases hM with ⟨-, -, rfl⟩ | ⟨M3, -, -, f, -, -, rfl⟩
        · exact hc.2.1
        · exact (hc.fr (f.sub (fun k i j z => by unfold Fc at z; omega))).2.1
      refine en_X11_write (m_isS hc2 ?_)
      rw [if_pos h1]
      exact b_o ⟨fun _ => mod y M2 hM, fun z2 => absurd z z2⟩
    · refine core (fun y M2 => jw_M 2 mX11_write [vr 11 0, vi a1, vi a2] M2 (fun y2 M3 => y = y2 ∧ Inv M3)) (fun y M2 hM => ?_)
      have hc2 : cR M2 P S W C := by
        rcases hM with ⟨-, -, rfl⟩ | ⟨M3, -, -, f, -, -, rfl⟩
        · exact hc.2.1
        · exact (hc.fr (f.sub (fun k i j z => by unfold Fc at z; omega))).2.1
      refine en_X11_write (m_isS hc2 ?_)
      rw [if_pos h1]
      refine b_o ⟨fun z2 => absurd z2 z, fun _ => m_isP hc2 ?_⟩
      rw [if_pos h2]
      exact ⟨fun _ => mod y M2 hM, fun z => absurd z (by decide)⟩
    · refine en_X11_write (m_isS hc.2.1 ?_)
      rw [if_pos h1]
      refine b_o ⟨fun z2 => absurd z2 z, fun _ => m_isP hc.2.1 ?_⟩
      rw [if_neg h2]
      exact ⟨fun z => absurd rfl z, fun _ => ⟨rfl, I⟩⟩
  · refine en_X10_write (k_hasS hc.1 ?_)
    rw [if_neg h1]
    refine b_z (en_X11_write (m_isS hc.2.1 ?_))
    rw [if_neg h1]
    exact b_z ⟨rfl, I⟩
theorem t_tear : Both 1 mX10_tear 0 mX11_tear [] := by
  intro M I
  obtain ⟨P, S, W, C, a, U, h0, L, x, c, u, v, b, p, q, kp, im, dr, hc, hs, hh, ht, hy, hb, hi, hd⟩ := id I
  refine en_X10_tear (en_X9_clear ?_)
  rintro M1 rfl
  refine en_X0_clear ?_
  rintro M2 rfl
  refine en_X11_tear ?_
  rintro M3 rfl M4 rfl
  have f : agr (fun k i j => ¬ ((k = 9 ∧ j = 6) ∨ (k = 0 ∧ j = 3) ∨ (k = 11 ∧ j = 34) ∨ (k = 11 ∧ j = 38))) M (jw_up (jw_up (jw_up (jw_up M 9 0 6 0) 0 0 3 0) 11 0 34 0) 11 0 38 0) := up_agr (up_agr (up_agr (up_agr agr.rf (by omega)) (by omega)) (by omega)) (by omega)
  refine ⟨by simp [up_val, hy.1.1, hy.1.2.1, hb.1.1, hb.1.2.1], P, S, W, C, a, U, h0, L, x, 0, u, v, 0, p, q, kp, im, dr, hc.fr (f.sub (fun k i j z => by unfold Fc at z; omega)), hs.fr (f.sub (fun k i j z => by unfold Fs at z; omega)), hh.fr hc.1.2.1.2.1 hc.1.2.1.2.2 (f.sub (fun k i j z => by unfold Fh at z; omega)), ht.fr (f.sub (fun k i j z => by unfold Ft at z; omega)), ⟨⟨by simp [up_val]; rfl, by simp [up_val]; rfl, by omega⟩, fun i hi => absurd hi (by omega)⟩, ⟨⟨by simp [up_val]; rfl, by simp [up_val]; rfl, by omega⟩, fun i hi => absurd hi (by omega)⟩, hi.fr hc.1.2.1.2.1 hc.1.2.1.2.2 (f.sub (fun k i j z => by unfold Fi at z; omega)), hd.fr (f.sub (fun k i j z => by unfold Fz at z; omega))⟩
def f_wrong (a : Ab) (p q : Nat → Int32) : Nat → Nat → Int32 := sp_fst (fun i => decide (¬ a 0 (p i).toNatClampNeg = q i))
theorem t_judge : Both 3 mX10_judge 0 mX11_judge [] := by
  intro M I
  obtain ⟨P, S, W, C, a, U, h0, L, x, c, u, v, b, p, q, kp, im, dr, hc, hs, hh, ht, hy, ⟨⟨e1, e2, hb15⟩, hbv⟩, hi, hd⟩ := id I
  have hS6 := hc.1.2.1.2.1
  have mod : ∀ (Q : Int32 → jw_Mem → Prop), Q (f_wrong a p q 0 b) M → jw_M 0 mX11_judge [vr 11 0] M Q := by
    intro Q h
    have key : ∀ r j, j + r = b → Q (f_wrong a p q j r) M → jw_J 0 mX11_judge 2 [(0, vr 11 0), (1, vi (nI j))] [] M Q := by
      intro r
      induction r with
      | zero =>
        intro j hj hq
        obtain rfl : j = b := by omega
        exact bk_X11_judge_2 (ge_yes e2 hq)
      | succ r ih =>
        intro j hj hq
        obtain ⟨t1, t2, t3, t4, t5⟩ := hbv j (by omega)
        obtain ⟨s, hsS, es⟩ := t5.ex (by omega)
        have h15 : vp_in (nI j) 15 := vp_in_nI (by omega) (by decide)
        refine bk_X11_judge_2 (ge_no e2 (by omega) (by omega) ?_)
        rw [cl_i (by omega), t2, t4, es, cl_i (by omega), (hs.2.1.1 s hsS).1, nI_1]
        rw [f_wrong, sp_fst, es, cl_i (by omega)] at hq
        refine ⟨h15, vp_in_nI (by omega) (by decide), h15, fun z => ?_, fun z => ?_⟩
        · rw [if_neg (by simpa using z)] at hq; exact ih (j + 1) (by omega) hq
        · rw [if_pos (decide_eq_true z)] at hq; exact hq
    exact en_X11_judge (key b 0 (by omega) h)
  have key : ∀ r j, j + r = b → jw_M 0 mX11_judge [vr 11 0] M (fun y M2 => f_wrong a p q j r = y ∧ Inv M2) → jw_J 2 mX0_firstWrong 2 [(0, vr 0 0), (1, vi (nI j))] [] M (fun x1 M2 => jw_M 0 mX11_judge [vr 11 0] M2 (fun y M3 => x1 = y ∧ Inv M3)) := by
    intro r
    induction r with
    | zero =>
      intro j hj hq
      obtain rfl : j = b := by omega
      exact bk_X0_firstWrong_2 (ge_yes e1 hq)
    | succ r ih =>
      intro j hj hq
      obtain ⟨t1, t2, t3, t4, t5⟩ := hbv j (by omega)
      obtain ⟨s, hsS, es⟩ := t5.ex (by omega)
      have h15 : vp_in (nI j) 15 := vp_in_nI (by omega) (by decide)
      refine bk_X0_firstWrong_2 (ge_no e1 (by omega) (by omega) ⟨h15, h15, ?_⟩)
      rw [cl_i (by omega), t1, t3, es, nI_1]
      rw [f_wrong, sp_fst, es, cl_i (by omega)] at hq
      refine en_X8_isOn (by decide) (k_hasS hc.1 ?_)
      rw [if_pos (sp_has.of hsS (by omega))]
      refine b_o ⟨vp_in_nI (by omega) (by decide), ?_⟩
      rw [cl_i (by omega), (hs.1.1 s hsS).1]
      refine ⟨fun z => ⟨fun z2 => absurd rfl z2, fun _ => ?_⟩, fun z => ⟨fun _ => ?_, fun z2 => absurd z2 (by decide)⟩⟩
      · rw [if_pos (decide_eq_true z)] at hq; exact hq
      · rw [if_neg (by simpa using z)] at hq; exact ih (j + 1) (by omega) hq
  exact en_X10_judge (en_X0_firstWrong (key b 0 (by omega) (mod _ ⟨rfl, I⟩)))
