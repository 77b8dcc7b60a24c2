/-! ===== what is done ===== -/
theorem sh1 : ∀ k, k < 8 → (1 : Int32) <<< (nI k &&& 31) = nI (2 ^ k) := by decide
theorem pow_le {k n : Nat} (h : k ≤ n) (hn : n ≤ 7) : 2 ^ k ≤ 128 := Nat.le_trans (Nat.pow_le_pow_right (by decide) (Nat.le_trans h hn)) (by decide)
section DO
variable {P S W : Nat} {C a : Ab} {M : jw_Mem} {Q : Int32 → jw_Mem → Prop}
theorem k_setP (hc : cK M P S W C) {x : Int32} (h : Q (if sp_has (2 ^ P) x then 1 else 0) M) : jw_M 0 mX1_isSetOfPlinths [vr 1 0, vi x] M Q := by
  have hP5 := hc.2.1.1
  have hpw := pow_le hP5 (by decide)
  exact en_X1_isSetOfPlinths (by decide) (c_hasG (by rw [hc.1.1]; exact sh1 P (by omega)) (by omega) (fun c => by rw [if_pos c] at h; exact h) (fun c => by rw [if_neg c] at h; exact h))
theorem k_setS (hc : cK M P S W C) {x : Int32} (h : Q (if sp_has (2 ^ S) x then 1 else 0) M) : jw_M 0 mX1_isSetOfStatues [vr 1 0, vi x] M Q := by
  have hS6 := hc.2.1.2.1
  have hpw := pow_le hS6 (by decide)
  exact en_X1_isSetOfStatues (by decide) (c_hasG (by rw [hc.1.2.1]; exact sh1 S (by omega)) (by omega) (fun c => by rw [if_pos c] at h; exact h) (fun c => by rw [if_neg c] at h; exact h))
theorem m_inSet {k : Nat} {x y : Int32} (hk : k ≤ 7) (hy : y = nI k) (h : Q (if sp_has (2 ^ k) x then 1 else 0) M) : jw_M 0 mX11_in [vl x.toInt64, vl 0, vl ((((1 : Int32) <<< (y &&& 31)) - 1).toInt64)] M Q := by
  have hpw := pow_le hk (Nat.le_refl _)
  refine r_in ?_
  rw [if_iff (l_in (by rw [hy]; exact sh1 k (by omega)) (by omega))]
  exact h
end DO
theorem t_scrub (a1 : Int32) : Both 3 mX10_scrub 2 mX11_scrub [vi a1] := by
  intro M I
  obtain ⟨P, S, W, C, a, U, h0, L, x, c, u, v, b, p, q, kp, im, dr, hc, hs, hh, ht, hy, hb, hi, hd⟩ := id I
  have hS := hc.1.2.1.2.1
  have hW := hc.1.2.1.2.2
  by_cases h1 : sp_has S a1
  · obtain ⟨s, hsS, rfl⟩ := h1.ex (by omega)
    refine both_mut hc hs hh ht hy hb hi hd (pushU U) (pushH U h0 a) (setA a 1 s 0) (a 1 s) (hs.2.2.set (Or.inl (by decide))) (push_ok hh.2.2.1 hs.2.2 hh.2.2.2) (fun Q h => ?_) (fun M1 hc1 hs1 hh1 Q h => ?_)
    · refine en_X10_scrub (k_hasS hc.1 ?_)
      rw [if_pos h1]
      refine ⟨fun _ => k_push hS hW hh.2.2.1 hs.1 hh.1 (fun M2 f2 k2 => ⟨vp_in_nI (by omega) (by decide), vp_in_nI (by omega) (by decide), ?_⟩), fun z => absurd z (by decide)⟩
      rintro M3 rfl
      have hs2 : sK M2 0 S W a := hs.1.congr (fun k j hk => f2 _ _ _ (by omega))
      rw [cl_i (by omega), (hs2.1 s hsS).2.1]
      exact h _ (up_agr (f2.sub (fun k i j z => by unfold Gc at z; omega)) (by unfold Gc; omega)) (hs2.up1 s 0) (k2.fr (push_ok hh.2.2.1 hs.2.2 hh.2.2.2).1 (up_agr agr.rf (by omega)))
    · refine en_X11_scrub (m_isS hc1 ?_)
      rw [if_pos h1]
      have e6 : (6 : Int32) + nI s = nI (6 + s) := nI_add 6 s
      refine ⟨fun _ => m_push hS hW hh.2.2.1 hs1 hh1 (fun M2 f2 g2 k2 => ?_), fun z => absurd z (by decide)⟩
      have hs2 : sR M2 S W a := sG.congr (f := M1 43 0) hs1 hS hW (fun j _ => g2 j)
      rw [e6, cl_i (by omega)]
      refine ⟨vp_in_nI (by omega) (by decide), vp_in_nI (by omega) (by decide), ?_⟩
      rintro M3 rfl
      rw [(hs2.1 s hsS).2.1]
      exact h _ (up_agr f2 (by unfold Gr; omega)) (hs2.up hS hW (k := 1) (by simp [rPos]) (by omega) 0) (k2.fr hS hW (up_agr agr.rf (by omega)))
  · refine en_X10_scrub (k_hasS hc.1 ?_)
    rw [if_neg h1]
    refine ⟨fun z => absurd rfl z, fun _ => en_X11_scrub (m_isS hc.2.1 ?_)⟩
    rw [if_neg h1]
    exact ⟨fun z => absurd rfl z, fun _ => ⟨rfl, I⟩⟩
theorem t_down (a1 : Int32) : Both 3 mX10_down 2 mX11_down [vi a1] := by
  intro M I
  obtain ⟨P, S, W, C, a, U, h0, L, x, c, u, v, b, p, q, kp, im, dr, hc, hs, hh, ht, hy, hb, hi, hd⟩ := id I
  have hS := hc.1.2.1.2.1
  have hW := hc.1.2.1.2.2
  by_cases h1 : sp_has S a1
  · obtain ⟨s, hsS, rfl⟩ := h1.ex (by omega)
    by_cases h2 : ¬ a 0 s = -1
    · refine both_mut hc hs hh ht hy hb hi hd (pushU U) (pushH U h0 a) (setA a 0 s (-1)) (a 0 s) (hs.2.2.set (Or.inr (Or.inl rfl))) (push_ok hh.2.2.1 hs.2.2 hh.2.2.2) (fun Q h => ?_) (fun M1 hc1 hs1 hh1 Q h => ?_)
      · refine en_X10_down (k_hasS hc.1 ?_)
        rw [if_pos h1]
        refine ⟨fun _ => k_stands (by decide) hc.1 hs.1 hs.2.2 hsS ?_, fun z => absurd z (by decide)⟩
        rw [if_pos h2]
        refine ⟨fun _ => k_push hS hW hh.2.2.1 hs.1 hh.1 (fun M2 f2 k2 => ⟨vp_in_nI (by omega) (by decide), vp_in_nI (by omega) (by decide), ?_⟩), fun z => absurd z (by decide)⟩
        rintro M3 rfl
        have hs2 : sK M2 0 S W a := hs.1.congr (fun k j hk => f2 _ _ _ (by omega))
        rw [cl_i (by omega), (hs2.1 s hsS).1]
        exact h _ (up_agr (f2.sub (fun k i j z => by unfold Gc at z; omega)) (by unfold Gc; omega)) (hs2.up0 s (-1)) (k2.fr (push_ok hh.2.2.1 hs.2.2 hh.2.2.2).1 (up_agr agr.rf (by omega)))
      · refine en_X11_down (m_isS hc1 ?_)
        rw [if_pos h1]
        refine ⟨fun _ => m_stands hc1 hs1 hsS ?_, fun z => absurd z (by decide)⟩
        rw [if_pos h2]
        refine ⟨fun _ => m_push hS hW hh.2.2.1 hs1 hh1 (fun M2 f2 g2 k2 => ?_), fun z => absurd z (by decide)⟩
        have hs2 : sR M2 S W a := sG.congr (f := M1 43 0) hs1 hS hW (fun j _ => g2 j)
        rw [cl_i (by omega)]
        refine ⟨vp_in_nI (by omega) (by decide), vp_in_nI (by omega) (by decide), ?_⟩
        rintro M3 rfl
        rw [(hs2.1 s hsS).1]
        exact h _ (up_agr f2 (by unfold Gr; omega)) (hs2.up hS hW (k := 0) (by simp [rPos]) (by omega) (-1)) (k2.fr hS hW (up_agr agr.rf (by omega)))
    · refine en_X10_down (k_hasS hc.1 ?_)
      rw [if_pos h1]
      refine ⟨fun _ => k_stands (by decide) hc.1 hs.1 hs.2.2 hsS ?_, fun z => absurd z (by decide)⟩
      rw [if_neg h2]
      refine ⟨fun z => absurd rfl z, fun _ => en_X11_down (m_isS hc.2.1 ?_)⟩
      rw [if_pos h1]
      refine ⟨fun _ => m_stands hc.2.1 hs.2.1 hsS ?_, fun z => absurd z (by decide)⟩
      rw [if_neg h2]
      exact ⟨fun z => absurd rfl z, fun _ => ⟨rfl, I⟩⟩
  · refine en_X10_down (k_hasS hc.1 ?_)
    rw [if_neg h1]
    refine ⟨fun z => absurd rfl z, fun _ => en_X11_down (m_isS hc.2.1 ?_)⟩
    rw [if_neg h1]
    exact ⟨fun z => absurd rfl z, fun _ => ⟨rfl, I⟩⟩
theorem t_walk (a1 a2 : Int32) : Both 3 mX10_walk 2 mX11_walk [vi a1, vi a2] := by
  intro M I
  obtain ⟨P, S, W, C, a, U, h0, L, x, c, u, v, b, p, q, kp, im, dr, hc, hs, hh, ht, hy, hb, hi, hd⟩ := id I
  have hP := hc.1.2.1.1
  have hS := hc.1.2.1.2.1
  have hW := hc.1.2.1.2.2
  by_cases h1 : sp_has W a1
  · by_cases h2 : sp_has (2 ^ P) a2
    · obtain ⟨s, hsS, rfl⟩ := h1.ex (by omega)
      refine both_mut hc hs hh ht hy hb hi hd (pushU U) (pushH U h0 a) (setA a 3 s a2) (a 3 s) (hs.2.2.set (Or.inl (by decide))) (push_ok hh.2.2.1 hs.2.2 hh.2.2.2) (fun Q h => ?_) (fun M1 hc1 hs1 hh1 Q h => ?_)
      · refine en_X10_walk (k_hasW hc.1 ?_)
        rw [if_pos h1]
        refine b_o (k_setP hc.1 ?_)
        rw [if_pos h2]
        refine ⟨fun _ => k_push hS hW hh.2.2.1 hs.1 hh.1 (fun M2 f2 k2 => ⟨vp_in_nI (by omega) (by decide), vp_in_nI (by omega) (by decide), ?_⟩), fun z => absurd z (by decide)⟩
        rintro M3 rfl
        have hs2 : sK M2 0 S W a := hs.1.congr (fun k j hk => f2 _ _ _ (by omega))
        rw [cl_i (by omega), (hs2.2.1 s hsS).1]
        exact h _ (up_agr (f2.sub (fun k i j z => by unfold Gc at z; omega)) (by unfold Gc; omega)) (hs2.up3 s a2) (k2.fr (push_ok hh.2.2.1 hs.2.2 hh.2.2.2).1 (up_agr agr.rf (by omega)))
      · refine en_X11_walk (m_isW hc1 ?_)
        rw [if_pos h1]
        refine b_o (m_inSet (by omega) hc1.1.1 ?_)
        rw [if_pos h2]
        have e6 : (18 : Int32) + nI s = nI (18 + s) := nI_add 18 s
        refine ⟨fun _ => m_push hS hW hh.2.2.1 hs1 hh1 (fun M2 f2 g2 k2 => ?_), fun z => absurd z (by decide)⟩
        have hs2 : sR M2 S W a := sG.congr (f := M1 43 0) hs1 hS hW (fun j _ => g2 j)
        rw [e6, cl_i (by omega)]
        refine ⟨vp_in_nI (by omega) (by decide), vp_in_nI (by omega) (by decide), ?_⟩
        rintro M3 rfl
        rw [(hs2.2.1 s hsS).1]
        exact h _ (up_agr f2 (by unfold Gr; omega)) (hs2.up hS hW (k := 3) (by simp [rPos]) (by omega) a2) (k2.fr hS hW (up_agr agr.rf (by omega)))
    · refine en_X10_walk (k_hasW hc.1 ?_)
      rw [if_pos h1]
      refine b_o (k_setP hc.1 ?_)
      rw [if_neg h2]
      refine ⟨fun z => absurd rfl z, fun _ => en_X11_walk (m_isW hc.2.1 ?_)⟩
      rw [if_pos h1]
      refine b_o (m_inSet (by omega) hc.2.1.1.1 ?_)
      rw [if_neg h2]
      exact ⟨fun z => absurd rfl z, fun _ => ⟨rfl, I⟩⟩
  · refine en_X10_walk (k_hasW hc.1 ?_)
    rw [if_neg h1]
    refine b_z (en_X11_walk (m_isW hc.2.1 ?_))
    rw [if_neg h1]
    exact b_z ⟨rfl, I⟩
theorem t_like (a1 a2 : Int32) : Both 3 mX10_like 2 mX11_like [vi a1, vi a2] := by
  intro M I
  obtain ⟨P, S, W, C, a, U, h0, L, x, c, u, v, b, p, q, kp, im, dr, hc, hs, hh, ht, hy, hb, hi, hd⟩ := id I
  have hP := hc.1.2.1.1
  have hS := hc.1.2.1.2.1
  have hW := hc.1.2.1.2.2
  by_cases h1 : sp_has W a1
  · by_cases h2 : sp_has (2 ^ S) a2
    · obtain ⟨s, hsS, rfl⟩ := h1.ex (by omega)
      refine both_mut hc hs hh ht hy hb hi hd (pushU U) (pushH U h0 a) (setA a 4 s a2) (a 4 s) (hs.2.2.set (Or.inl (by decide))) (push_ok hh.2.2.1 hs.2.2 hh.2.2.2) (fun Q h => ?_) (fun M1 hc1 hs1 hh1 Q h => ?_)
      · refine en_X10_like (k_hasW hc.1 ?_)
        rw [if_pos h1]
        refine b_o (k_setS hc.1 ?_)
        rw [if_pos h2]
        refine ⟨fun _ => k_push hS hW hh.2.2.1 hs.1 hh.1 (fun M2 f2 k2 => ⟨vp_in_nI (by omega) (by decide), vp_in_nI (by omega) (by decide), ?_⟩), fun z => absurd z (by decide)⟩
        rintro M3 rfl
        have hs2 : sK M2 0 S W a := hs.1.congr (fun k j hk => f2 _ _ _ (by omega))
        rw [cl_i (by omega), (hs2.2.1 s hsS).2]
        exact h _ (up_agr (f2.sub (fun k i j z => by unfold Gc at z; omega)) (by unfold Gc; omega)) (hs2.up4 s a2) (k2.fr (push_ok hh.2.2.1 hs.2.2 hh.2.2.2).1 (up_agr agr.rf (by omega)))
      · refine en_X11_like (m_isW hc1 ?_)
        rw [if_pos h1]
        refine b_o (m_inSet (by omega) hc1.1.2.1 ?_)
        rw [if_pos h2]
        have e6 : (25 : Int32) + nI s = nI (25 + s) := nI_add 25 s
        refine ⟨fun _ => m_push hS hW hh.2.2.1 hs1 hh1 (fun M2 f2 g2 k2 => ?_), fun z => absurd z (by decide)⟩
        have hs2 : sR M2 S W a := sG.congr (f := M1 43 0) hs1 hS hW (fun j _ => g2 j)
        rw [e6, cl_i (by omega)]
        refine ⟨vp_in_nI (by omega) (by decide), vp_in_nI (by omega) (by decide), ?_⟩
        rintro M3 rfl
        rw [(hs2.2.1 s hsS).2]
        exact h _ (up_agr f2 (by unfold Gr; omega)) (hs2.up hS hW (k := 4) (by simp [rPos]) (by omega) a2) (k2.fr hS hW (up_agr agr.rf (by omega)))
    · refine en_X10_like (k_hasW hc.1 ?_)
      rw [if_pos h1]
      refine b_o (k_setS hc.1 ?_)
      rw [if_neg h2]
      refine ⟨fun z => absurd rfl z, fun _ => en_X11_like (m_isW hc.2.1 ?_)⟩
      rw [if_pos h1]
      refine b_o (m_inSet (by omega) hc.2.1.1.2.1 ?_)
      rw [if_neg h2]
      exact ⟨fun z => absurd rfl z, fun _ => ⟨rfl, I⟩⟩
  · refine en_X10_like (k_hasW hc.1 ?_)
    rw [if_neg h1]
    refine b_z (en_X11_like (m_isW hc.2.1 ?_))
    rw [if_neg h1]
    exact b_z ⟨rfl, I⟩
abbrev f_can (a : Ab) (S s : Nat) (p : Int32) : Prop := a 0 s = -1 ∧ sp_who (a 0) p 0 S = -1
section CS
variable {n P S W : Nat} {C a : Ab} {M : jw_Mem} {Q : Int32 → jw_Mem → Prop}
theorem k_can (hn : n < 20) (hc : cK M P S W C) (hs : sK M n S W a) (hp : plOK P S a) {s : Nat} (hsS : s < S) {x : Int32} (hx : sp_has P x) (h : Q (if f_can a S s x then 1 else 0) M) : jw_M 2 mX8_canStand [vr 8 n, vi (nI s), vi x] M Q := by
  have hS6 := hc.2.1.2.1
  refine en_X8_canStand hn (k_hasS hc ?_)
  rw [if_pos (sp_has.of hsS (by omega))]
  refine b_o (k_hasP hc ?_)
  rw [if_pos hx]
  refine b_o (k_stands hn hc hs hp hsS (b10 (fun c => ?_) (fun c => k_who hn hc hs ⟨fun c2 => ?_, fun c2 => ?_⟩)))
  · rw [if_neg (fun z => c z.1)] at h; exact h
  · rw [if_neg (fun z => c2 z.2)] at h; exact h
  · rw [if_pos ⟨Decidable.not_not.mp c, c2⟩] at h; exact h
theorem m_can (hc : cR M P S W C) (hs : sR M S W a) {s : Nat} (hsS : s < S) {x : Int32} (h : Q (if f_can a S s x then 1 else 0) M) : jw_M 1 mX11_canStand [vr 11 0, vi (nI s), vi x] M Q := by
  have hS6 := hc.2.1.2.1
  refine en_X11_canStand (m_stands hc hs hsS (b10 (fun c => ?_) (fun c => m_who hc hs ⟨fun c2 => ?_, fun c2 => ?_⟩)))
  · rw [if_neg (fun z => c z.1)] at h; exact h
  · rw [if_neg (fun z => ((who_neg S 0 (by omega)).mpr z.2) c2)] at h; exact h
  · rw [if_pos ⟨Decidable.not_not.mp c, (who_neg S 0 (by omega)).mp c2⟩] at h; exact h
end CS
theorem margin_set {C a : Ab} {W s : Nat} {x : Int32} (hx : ¬ x = -1) : f_margin C (setA a 0 s x) W s = 1000 + f_leadAt C (setA a 0 s x) W s := by
  rw [f_margin, if_pos]
  rw [setA_eq]
  exact hx
theorem t_stand (a1 a2 : Int32) : Both 4 mX10_stand 4 mX11_stand [vi a1, vi a2] := by
  intro M I
  obtain ⟨P, S, W, C, a, U, h0, L, x, c, u, v, b, p, q, kp, im, dr, hc, hs, hh, ht, hy, hb, hi, hd⟩ := id I
  have hP := hc.1.2.1.1
  have hS := hc.1.2.1.2.1
  have hW := hc.1.2.1.2.2
  by_cases h1 : sp_has S a1
  · by_cases h2 : sp_has P a2
    · obtain ⟨s, hsS, rfl⟩ := h1.ex (by omega)
      by_cases h3 : f_can a S s a2
      · obtain ⟨pp, hpp, e2⟩ := h2.ex (by omega)
        have hne : ¬ a2 = -1 := fun z => by rw [z] at h2; exact absurd h2.1 (by decide)
        have hp2 : plOK P S (setA a 0 s a2) := hs.2.2.set (Or.inr (Or.inr ⟨pp, hpp, e2⟩))
        refine both_mut hc hs hh ht hy hb hi hd (pushU U) (pushH U h0 a) (setA a 0 s a2) (f_margin C (setA a 0 s a2) W s) hp2 (push_ok hh.2.2.1 hs.2.2 hh.2.2.2) (fun Q h => ?_) (fun M1 hc1 hs1 hh1 Q h => ?_)
        · refine en_X10_stand (k_hasS hc.1 ?_)
          rw [if_pos h1]
          refine b_o (k_hasP hc.1 ?_)
          rw [if_pos h2]
          refine ⟨fun _ => k_can (by decide) hc.1 hs.1 hs.2.2 hsS h2 ?_, fun z => absurd z (by decide)⟩
          rw [if_pos h3]
          refine ⟨fun _ => k_push hS hW hh.2.2.1 hs.1 hh.1 (fun M2 f2 k2 => ⟨vp_in_nI (by omega) (by decide), ?_⟩), fun z => absurd z (by decide)⟩
          rintro M3 rfl
          have hs2 : sK M2 0 S W a := hs.1.congr (fun k j hk => f2 _ _ _ (by omega))
          have f3 : agr Gc M (jw_up M2 26 0 s a2) := up_agr (f2.sub (fun k i j z => by unfold Gc at z; omega)) (by unfold Gc; omega)
          rw [cl_i (by omega)]
          exact k_margin (by decide) (hc.fr (f3.sub (fun k i j z => by unfold Fc at z; unfold Gc; omega))).1 (hs2.up0 s a2) hp2 hsS (h _ f3 (hs2.up0 s a2) (k2.fr (push_ok hh.2.2.1 hs.2.2 hh.2.2.2).1 (up_agr agr.rf (by omega))))
        · refine en_X11_stand (m_isS hc1 ?_)
          rw [if_pos h1]
          refine b_o (m_isP hc1 ?_)
          rw [if_pos h2]
          refine ⟨fun _ => m_can hc1 hs1 hsS ?_, fun z => absurd z (by decide)⟩
          rw [if_pos h3]
          refine ⟨fun _ => m_push hS hW hh.2.2.1 hs1 hh1 (fun M2 f2 g2 k2 => ⟨vp_in_nI (by omega) (by decide), ?_⟩), fun z => absurd z (by decide)⟩
          have hs2 : sR M2 S W a := sG.congr (f := M1 43 0) hs1 hS hW (fun j _ => g2 j)
          rw [cl_i (by omega)]
          rintro M3 rfl
          have f3 : agr Gr M1 (jw_up M2 43 0 s a2) := up_agr f2 (by unfold Gr; omega)
          have hc3 : cR (jw_up M2 43 0 s a2) P S W C := by
            obtain ⟨⟨g1, g2, g3, g4⟩, gb, g5, g6, g7⟩ := hc1
            exact ⟨⟨(f3 _ _ _ (by unfold Gr; omega)).trans g1, (f3 _ _ _ (by unfold Gr; omega)).trans g2, (f3 _ _ _ (by unfold Gr; omega)).trans g3, (f3 _ _ _ (by unfold Gr; omega)).trans g4⟩, gb, fun j hj => (f3 _ _ _ (by unfold Gr; omega)).trans (g5 j hj), fun j hj => ⟨(f3 _ _ _ (by unfold Gr; omega)).trans (g6 j hj).1, (f3 _ _ _ (by unfold Gr; omega)).trans (g6 j hj).2⟩, fun j hj => (f3 _ _ _ (by unfold Gr; omega)).trans (g7 j hj)⟩
          have hs3 := hs2.up hS hW (k := 0) (j := s) (p := s) (by simp [rPos]) (by omega) a2
          refine m_leadAt hc3 hs3 hsS ?_
          have := h _ f3 hs3 (k2.fr hS hW (up_agr agr.rf (by omega)))
          rw [margin_set hne, Int32.add_comm] at this
          exact this
      · refine en_X10_stand (k_hasS hc.1 ?_)
        rw [if_pos h1]
        refine b_o (k_hasP hc.1 ?_)
        rw [if_pos h2]
        refine ⟨fun _ => k_can (by decide) hc.1 hs.1 hs.2.2 hsS h2 ?_, fun z => absurd z (by decide)⟩
        rw [if_neg h3]
        refine ⟨fun z => absurd rfl z, fun _ => en_X11_stand (m_isS hc.2.1 ?_)⟩
        rw [if_pos h1]
        refine b_o (m_isP hc.2.1 ?_)
        rw [if_pos h2]
        refine ⟨fun _ => m_can hc.2.1 hs.2.1 hsS ?_, fun z => absurd z (by decide)⟩
        rw [if_neg h3]
        exact ⟨fun z => absurd rfl z, fun _ => ⟨rfl, I⟩⟩
    · refine en_X10_stand (k_hasS hc.1 ?_)
      rw [if_pos h1]
      refine b_o (k_hasP hc.1 ?_)
      rw [if_neg h2]
      refine ⟨fun z => absurd rfl z, fun _ => en_X11_stand (m_isS hc.2.1 ?_)⟩
      rw [if_pos h1]
      refine b_o (m_isP hc.2.1 ?_)
      rw [if_neg h2]
      exact ⟨fun z => absurd rfl z, fun _ => ⟨rfl, I⟩⟩
  · refine en_X10_stand (k_hasS hc.1 ?_)
    rw [if_neg h1]
    refine b_z (en_X11_stand (m_isS hc.2.1 ?_))
    rw [if_neg h1]
    exact b_z ⟨rfl, I⟩
