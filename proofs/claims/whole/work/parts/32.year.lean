/-! ===== a year ===== -/
def f_strain (C a : Ab) (s : Nat) : Int32 := if a 0 s = -1 then -5 else if (C 1 s).toInt = 0 then 3 else if (C 1 s).toInt = 1 then 1 else if (C 1 s).toInt = 2 then (if C 0 (a 0 s).toNatClampNeg < C 2 s then 4 else 2) else 0
def f_clamp (x : Int32) : Int32 := if 0 ≤ x then (if x ≤ 99 then x else 99) else 0
def f_ph1 (C a : Ab) : Nat → Ab
  | 0 => a
  | j + 1 => setA (f_ph1 C a j) 1 j (f_clamp (f_ph1 C a j 1 j + f_strain C (f_ph1 C a j) j))
def f_ph2 (a : Ab) : Nat → Ab
  | 0 => a
  | j + 1 => if f_ph2 a j 1 j < 30 then f_ph2 a j else setA (f_ph2 a j) 0 j (-1)
def f_el (fl : Int32) (a : Ab) : Nat → Ab
  | 0 => a
  | j + 1 => if sp_bit fl (nI j) then setA (f_el fl a j) 0 j (-1) else if ¬ f_el fl a j 0 j = -1 then setA (f_el fl a j) 2 j (f_el fl a j 2 j + 1) else f_el fl a j
def f_tick (C a : Ab) (S : Nat) : Ab := setA (f_ph2 (f_ph1 C a S) S) 5 0 (f_ph2 (f_ph1 C a S) S 5 0 + 1)
def f_year (C a : Ab) (S W : Nat) : Ab := if (f_tick C a S 5 0 - f_tick C a S 5 0 / C 4 0 * C 4 0) = 0 then f_el (f_out C (f_tick C a S) S W) (f_tick C a S) S else f_tick C a S
theorem clamp_eq (x : Int32) : (if 0 < (if x < 99 then x else 99) then (if x < 99 then x else 99) else 0) = f_clamp x := by
  unfold f_clamp
  by_cases h1 : x < 99
  · rw [if_pos h1]
    by_cases h2 : 0 < x
    · rw [if_pos h2, if_pos (Int32.le_of_lt h2), if_pos (Int32.le_of_lt h1)]
    · rw [if_neg h2]
      by_cases h3 : 0 ≤ x
      · rw [if_pos h3, if_pos (Int32.le_of_lt h1)]
        exact Int32.le_antisymm h3 (Int32.not_lt.mp h2)
      · rw [if_neg h3]
  · rw [if_neg h1, if_pos (by decide)]
    have h99 : (99 : Int32) ≤ x := Int32.not_lt.mp h1
    rw [if_pos (Int32.le_trans (by decide) h99)]
    by_cases h4 : x ≤ 99
    · rw [if_pos h4]; exact Int32.le_antisymm h99 h4
    · rw [if_neg h4]
theorem plOK.set {P S : Nat} {a : Ab} (h : plOK P S a) {k j : Nat} {v : Int32} (hk : k ≠ 0 ∨ v = -1 ∨ ∃ p : Nat, p < P ∧ v = nI p) : plOK P S (setA a k j v) := by
  intro s hs
  by_cases z : 0 = k ∧ s = j
  · obtain ⟨rfl, rfl⟩ := z
    rw [setA_eq]
    rcases hk with hk | hk
    · exact absurd rfl hk
    · exact hk
  · rw [setA_ne z]; exact h s hs
theorem plOK.ph1 {P S : Nat} {C a : Ab} (h : plOK P S a) : ∀ j, plOK P S (f_ph1 C a j)
  | 0 => h
  | j + 1 => by rw [f_ph1]; exact (plOK.ph1 h j).set (Or.inl (by decide))
theorem plOK.ph2 {P S : Nat} {a : Ab} (h : plOK P S a) : ∀ j, plOK P S (f_ph2 a j)
  | 0 => h
  | j + 1 => by
    rw [f_ph2]
    split
    · exact plOK.ph2 h j
    · exact (plOK.ph2 h j).set (Or.inr (Or.inl rfl))
theorem plOK.el {P S : Nat} {a : Ab} (h : plOK P S a) {fl : Int32} : ∀ j, plOK P S (f_el fl a j)
  | 0 => h
  | j + 1 => by
    rw [f_el]
    split
    · exact (plOK.el h j).set (Or.inr (Or.inl rfl))
    · split
      · exact (plOK.el h j).set (Or.inl (by decide))
      · exact plOK.el h j
theorem plOK.tick {P S : Nat} {C a : Ab} (h : plOK P S a) : plOK P S (f_tick C a S) := (h.ph1 S).ph2 S |>.set (Or.inl (by decide))
theorem plOK.year {P S W : Nat} {C a : Ab} (h : plOK P S a) : plOK P S (f_year C a S W) := by
  unfold f_year
  split
  · exact h.tick.el S
  · exact h.tick
theorem up_self {M : jw_Mem} {k n j : Nat} : jw_up M k n j (M k n j) = M := by
  funext k2 n2 j2
  unfold jw_up
  split
  · rename_i h; obtain ⟨rfl, rfl, rfl⟩ := h; rfl
  · rfl
section YR
variable {n P S W : Nat} {C a : Ab} {M : jw_Mem} {Q : Int32 → jw_Mem → Prop}
theorem k_pleases (hc : cK M P S W C) {p s : Nat} (hp : p < P) (hs : s < S) (h : Q (if ¬ C 0 p < C 2 s then 1 else 0) M) : jw_M 1 mX1_pleases [vr 1 0, vi (nI p), vi (nI s)] M Q := by
  have hP5 := hc.2.1.1
  have hS6 := hc.2.1.2.1
  refine en_X1_pleases (by decide) (k_hasP hc ?_)
  rw [if_pos (sp_has.of hp (by omega))]
  refine b_o (k_hasS hc ?_)
  rw [if_pos (sp_has.of hs (by omega))]
  refine b_o ⟨vp_in_nI (by omega) (by decide), vp_in_nI (by omega) (by decide), ?_⟩
  rw [cl_i (by omega), cl_i (by omega), hc.2.2.1 p hp, (hc.2.2.2.1 s hs).2]
  exact ⟨fun c => by rw [if_neg (fun z => z c)] at h; exact h, fun c => by rw [if_pos c] at h; exact h⟩
theorem pl_at (hp : plOK P S a) {s : Nat} (hs : s < S) (c : ¬ a 0 s = -1) : ∃ p : Nat, p < P ∧ a 0 s = nI p := (hp s hs).resolve_left c
theorem k_strain (hn : n < 20) (hc : cK M P S W C) (hs : sK M n S W a) (hp : plOK P S a) {s : Nat} (hsS : s < S) (h : Q (f_strain C a s) M) : jw_M 2 mX8_strain [vr 8 n, vi (nI s)] M Q := by
  have hS6 := hc.2.1.2.1
  have hP5 := hc.2.1.1
  refine en_X8_strain hn (k_stands hn hc hs hp hsS (b10 (fun c => ⟨vp_in_nI (by omega) (by decide), ?_⟩) (fun c => ?_)))
  · rw [cl_i (by omega), (hc.2.2.2.1 s hsS).1, (hs.1 s hsS).1]
    rw [f_strain, if_neg c] at h
    refine ⟨fun q => ?_, fun q => ?_, fun q => ?_, fun q => ⟨vp_in_nI (by omega) (by decide), ?_⟩⟩
    · rw [if_neg (by omega), if_neg (by omega), if_neg (by omega)] at h; exact h
    · rw [if_pos q] at h; exact h
    · rw [if_neg (by omega), if_pos q] at h; exact h
    · rw [if_neg (by omega), if_neg (by omega), if_pos q] at h
      obtain ⟨p, hpP, e⟩ := pl_at hp hsS c
      rw [e] at h ⊢
      rw [cl_i (by omega)] at h
      refine k_pleases hc hpP hsS (b01 (fun c2 => ?_) (fun c2 => ?_))
      · rw [if_neg c2] at h; exact h
      · rw [if_pos (Decidable.not_not.mp c2)] at h; exact h
  · rw [f_strain, if_pos (Decidable.not_not.mp c)] at h; exact h
theorem m_strain (hc : cR M P S W C) (hs : sR M S W a) (hp : plOK P S a) {s : Nat} (hsS : s < S) (h : Q (f_strain C a s) M) : jw_M 1 mX11_moreTired [vr 11 0, vi (nI s)] M Q := by
  have hS6 := hc.2.1.2.1
  have hP5 := hc.2.1.1
  refine en_X11_moreTired (m_stands hc hs hsS (b10 (fun c => ⟨vp_in_nI (by omega) (by decide), ?_⟩) (fun c => ?_)))
  · rw [cl_i (by omega), (hc.2.2.2.1 s hsS).1, (hs.1 s hsS).1]
    rw [f_strain, if_neg c] at h
    refine ⟨fun q => ?_, fun q => ?_, fun q => ?_, fun q => ⟨vp_in_nI (by omega) (by decide), ?_⟩⟩
    · rw [if_neg (by omega), if_neg (by omega), if_neg (by omega)] at h; exact h
    · rw [if_pos q] at h; exact h
    · rw [if_neg (by omega), if_pos q] at h; exact h
    · rw [if_neg (by omega), if_neg (by omega), if_pos q] at h
      obtain ⟨p, hpP, e⟩ := pl_at hp hsS c
      rw [e] at h ⊢
      rw [cl_i (by omega)] at h ⊢
      refine ⟨vp_in_nI (by omega) (by decide), vp_in_nI (by omega) (by decide), ?_⟩
      rw [(hc.2.2.2.1 s hsS).2, hc.2.2.1 p hpP]
      refine ⟨fun c2 => ?_, fun c2 => ?_⟩
      · rw [if_neg (Int32.not_lt.mpr c2)] at h; exact h
      · rw [if_pos (Int32.not_le.mp c2)] at h; exact h
  · rw [f_strain, if_pos (Decidable.not_not.mp c)] at h; exact h
theorem k_elect (hn : n < 20) (hc : cK M P S W C) (hs : sK M n S W a) (hp : plOK P S a) (h : ∀ M2, frS n M M2 → sK M2 n S W (f_el (f_out C a S W) a S) → Q 0 M2) : jw_M 4 mX8_holdElection [vr 8 n] M Q := by
  have hS6 := hc.2.1.2.1
  refine en_X8_holdElection hn (k_out hn hc hs hp ?_)
  generalize f_out C a S W = fl at h ⊢
  refine lp_up (P := fun j => ∀ M2, frS n M M2 → sK M2 n S W (f_el fl a j) → jw_J 4 mX8_holdElection 7 [(0, vr 8 n), (1, vi fl), (2, vi (nI j))] [] M2 Q) S (fun M2 hf hs2 => bk_X8_holdElection_7 hn (ge_yes (hc.fr hf).1.2.1 (h M2 hf hs2))) (fun j hj ih => ?_) M frS.rf hs
  intro M2 hf hs2
  have hc2 := hc.fr hf
  refine bk_X8_holdElection_7 hn (ge_no hc2.1.2.1 hj (by omega) ?_)
  rw [f_el] at ih
  refine c_isIn (b01 (fun c => ⟨vp_in_nI (by omega) (by decide), ?_⟩) (fun c => ?_))
  · rintro M3 rfl
    rw [cl_i (by omega), nI_1]
    rw [if_pos c] at ih
    exact ih _ (hf.up (by omega)) (hs2.up0 j (-1))
  · rw [if_neg c] at ih
    refine k_stands hn hc2 hs2 (hp.el j) hj (b01 (fun c2 => ⟨vp_in_nI (by omega) (by decide), vp_in_nI (by omega) (by decide), ?_⟩) (fun c2 => ?_))
    · rintro M3 rfl
      rw [cl_i (by omega), nI_1, (hs2.1 j hj).2.2]
      rw [if_pos c2] at ih
      exact ih _ (hf.up (by omega)) (hs2.up2 j _)
    · rw [nI_1]
      rw [if_neg c2] at ih
      exact ih _ hf hs2
theorem m_elect (hc : cR M P S W C) (hs : sR M S W a) (h : ∀ M2, frR M M2 → sR M2 S W (f_el (f_out C a S W) a S) → Q 0 M2) : jw_M 5 mX11_elect [vr 11 0] M Q := by
  have hS6 := hc.2.1.2.1
  have hW7 := hc.2.1.2.2
  refine en_X11_elect (m_out hc hs ?_)
  generalize f_out C a S W = fl at h ⊢
  refine lp_up (P := fun j => ∀ M2, frR M M2 → sR M2 S W (f_el fl a j) → jw_J 5 mX11_elect 7 [(0, vr 11 0), (1, vi fl), (2, vi (nI j))] [] M2 Q) S (fun M2 hf hs2 => bk_X11_elect_7 (ge_yes (hc.fr hf).1.2.1 (h M2 hf hs2))) (fun j hj ih => ?_) M frR.rf hs
  intro M2 hf hs2
  have hc2 := hc.fr hf
  have e12 : (12 : Int32) + nI j = nI (12 + j) := nI_add 12 j
  refine bk_X11_elect_7 (ge_no hc2.1.2.1 hj (by omega) ?_)
  rw [e12]
  have h12 : vp_in (nI (12 + j)) 33 := vp_in_nI (by omega) (by decide)
  have h0 : vp_in (nI j) 33 := vp_in_nI (by omega) (by decide)
  rw [f_el] at ih
  rw [cl_i (by omega), cl_i (by omega), nI_1]
  refine ⟨h12, m_stands hc2 hs2 hj (b01 (fun c2 => ?_) (fun c2 => ⟨h12, ?_⟩))⟩
  · refine r_has (b10 (fun c => ⟨h12, ?_⟩) (fun c => ⟨h12, ?_⟩))
    · rintro M3 rfl
      rw [i_add0, up_self]
      refine r_has (b01 (fun _ => ⟨h0, ?_⟩) (fun z => absurd c z))
      rintro M4 rfl
      rw [if_pos c] at ih
      exact ih _ hf.up (hs2.up hS6 hW7 (k := 0) (by simp [rPos]) (by omega) (-1))
    · rintro M3 rfl
      refine r_has (b01 (fun z => absurd z c) (fun _ => ⟨h0, h0, ?_⟩))
      rintro M4 rfl
      rw [up_self, (hs2.1 j hj).2.2]
      rw [if_neg c, if_pos c2] at ih
      exact ih _ hf.up (hs2.up hS6 hW7 (k := 2) (by simp [rPos]) (by omega) _)
  · rintro M3 rfl
    rw [i_add0, up_self]
    refine r_has (b01 (fun c => ⟨h0, ?_⟩) (fun c => ⟨h0, h0, ?_⟩))
    · rintro M4 rfl
      rw [if_pos c] at ih
      exact ih _ hf.up (hs2.up hS6 hW7 (k := 0) (by simp [rPos]) (by omega) (-1))
    · rintro M4 rfl
      rw [up_self]
      rw [if_neg c, if_neg c2] at ih
      exact ih _ hf hs2
theorem k_year (hn : n < 20) (hc : cK M P S W C) (hs : sK M n S W a) (hp : plOK P S a) (hT : ¬ C 4 0 ≤ 0) (h : ∀ M2, frS n M M2 → sK M2 n S W (f_year C a S W) → Q 0 M2) : jw_M 5 mX8_passYear [vr 8 n] M Q := by
  have hS6 := hc.2.1.2.1
  refine en_X8_passYear hn ?_
  refine lp_up (P := fun j => ∀ M2, frS n M M2 → sK M2 n S W (f_ph1 C a j) → jw_J 5 mX8_passYear 2 [(0, vr 8 n), (1, vi (nI j))] [] M2 Q) S (fun M2 hf hs2 => bk_X8_passYear_2 hn (ge_yes (hc.fr hf).1.2.1 ?_)) (fun j hj ih => ?_) M frS.rf hs
  · refine lp_up (P := fun j => ∀ M3, frS n M M3 → sK M3 n S W (f_ph2 (f_ph1 C a S) j) → jw_J 5 mX8_passYear 48 [(0, vr 8 n), (1, vi (nI j))] [] M3 Q) S (fun M3 hf3 hs3 => bk_X8_passYear_48 hn (ge_yes (hc.fr hf3).1.2.1 ?_)) (fun j hj ih => ?_) M2 hf hs2
    · rintro M4 rfl
      have hf4 : frS n M (jw_up M3 8 n 1 (M3 8 n 1 + 1)) := hf3.up (by omega)
      have hc4 := hc.fr hf4
      have hs4 : sK (jw_up M3 8 n 1 (M3 8 n 1 + 1)) n S W (f_tick C a S) := by
        have := hs3.up5 (M3 8 n 1 + 1)
        rw [hs3.2.2] at this
        rw [hs3.2.2]
        exact this
      rw [hc4.1.2.2.2, hs4.2.2]
      refine ⟨fun z => absurd z hT, fun _ => ⟨fun z => hT (by rw [z]; exact Int32.le_refl _), fun c => ?_, fun c => ?_⟩⟩
      · refine h _ hf4 ?_
        rw [f_year, if_neg c]; exact hs4
      · refine k_elect hn hc4 hs4 hp.tick (fun M5 hf5 hs5 => h _ (hf4.tr hf5) ?_)
        rw [f_year, if_pos c]; exact hs5
    · intro M3 hf3 hs3
      have hc3 := hc.fr hf3
      refine bk_X8_passYear_48 hn (ge_no hc3.1.2.1 hj (by omega) ⟨vp_in_nI (by omega) (by decide), ?_⟩)
      rw [cl_i (by omega), (hs3.1 j hj).2.1, nI_1]
      rw [f_ph2] at ih
      refine ⟨fun c => ?_, fun c => ⟨vp_in_nI (by omega) (by decide), ?_⟩⟩
      · rw [if_pos c] at ih; exact ih _ hf3 hs3
      · rintro M4 rfl
        rw [if_neg c] at ih; exact ih _ (hf3.up (by omega)) (hs3.up0 j (-1))
  · intro M2 hf hs2
    have hc2 := hc.fr hf
    refine bk_X8_passYear_2 hn (ge_no hc2.1.2.1 hj (by omega) ⟨vp_in_nI (by omega) (by decide), k_strain hn hc2 hs2 (hp.ph1 j) hj ⟨vp_in_nI (by omega) (by decide), ?_⟩⟩)
    rintro M3 rfl
    rw [cl_i (by omega), clamp_eq, (hs2.1 j hj).2.1, nI_1]
    rw [f_ph1] at ih
    exact ih _ (hf.up (by omega)) (hs2.up1 j _)
theorem m_year (hc : cR M P S W C) (hs : sR M S W a) (hp : plOK P S a) (hT : ¬ C 4 0 ≤ 0) (h : ∀ M2, frR M M2 → sR M2 S W (f_year C a S W) → Q 0 M2) : jw_M 6 mX11_pass [vr 11 0] M Q := by
  have hS6 := hc.2.1.2.1
  have hW7 := hc.2.1.2.2
  have h32 : vp_in 32 33 := vp_in_nI (n := 32) (by decide) (by decide)
  have c32 : (32 : Int32).toNatClampNeg = 32 := cl_i (j := 32) (by decide)
  refine en_X11_pass ?_
  refine lp_up (P := fun j => ∀ M2, frR M M2 → sR M2 S W (f_ph1 C a j) → jw_J 6 mX11_pass 2 [(0, vr 11 0), (1, vi (nI j))] [] M2 Q) S (fun M2 hf hs2 => bk_X11_pass_2 (ge_yes (hc.fr hf).1.2.1 ?_)) (fun j hj ih => ?_) M frR.rf hs
  · refine lp_up (P := fun j => ∀ M3, frR M M3 → sR M3 S W (f_ph2 (f_ph1 C a S) j) → jw_J 6 mX11_pass 63 [(0, vr 11 0), (1, vi (nI j))] [] M3 Q) S (fun M3 hf3 hs3 => bk_X11_pass_63 (ge_yes (hc.fr hf3).1.2.1 ⟨h32, h32, ?_⟩)) (fun j hj ih => ?_) M2 hf hs2
    · rw [c32]
      rintro M4 rfl
      have hf4 : frR M (jw_up M3 43 0 32 (M3 43 0 32 + 1)) := hf3.up
      have hc4 := hc.fr hf4
      have hs4 : sR (jw_up M3 43 0 32 (M3 43 0 32 + 1)) S W (f_tick C a S) := by
        have := hs3.up hS6 hW7 (k := 5) (j := 0) (p := 32) rfl (by omega) (M3 43 0 32 + 1)
        rw [hs3.2.2] at this
        rw [hs3.2.2]
        exact this
      rw [hc4.1.2.2.2, hs4.2.2]
      refine ⟨h32, fun z => hT (by rw [z]; exact Int32.le_refl _), fun c => ?_, fun c => ?_⟩
      · refine h _ hf4 ?_
        rw [f_year, if_neg c]; exact hs4
      · refine m_elect hc4 hs4 (fun M5 hf5 hs5 => h _ (hf4.tr hf5) ?_)
        rw [f_year, if_pos c]; exact hs5
    · intro M3 hf3 hs3
      have hc3 := hc.fr hf3
      have e6 : (6 : Int32) + nI j = nI (6 + j) := nI_add 6 j
      have h0 : vp_in (nI j) 33 := vp_in_nI (by omega) (by decide)
      refine bk_X11_pass_63 (ge_no hc3.1.2.1 hj (by omega) ?_)
      rw [e6, cl_i (by omega), cl_i (by omega), (hs3.1 j hj).2.1, nI_1]
      refine ⟨vp_in_nI (by omega) (by decide), ?_⟩
      rw [f_ph2] at ih
      refine ⟨fun c => ⟨h0, h0, ?_⟩, fun c => ⟨h0, ?_⟩⟩
      · rintro M4 rfl
        rw [up_self]
        rw [if_pos c] at ih; exact ih _ hf3 hs3
      · rintro M4 rfl
        rw [if_neg c] at ih; exact ih _ hf3.up (hs3.up hS6 hW7 (k := 0) (by simp [rPos]) (by omega) (-1))
  · intro M2 hf hs2
    have hc2 := hc.fr hf
    have e6 : (6 : Int32) + nI j = nI (6 + j) := nI_add 6 j
    have h6 : vp_in (nI (6 + j)) 33 := vp_in_nI (by omega) (by decide)
    refine bk_X11_pass_2 (ge_no hc2.1.2.1 hj (by omega) ?_)
    rw [e6, cl_i (by omega), (hs2.1 j hj).2.1, nI_1]
    refine ⟨h6, m_strain hc2 hs2 (hp.ph1 j) hj ?_⟩
    rw [f_ph1] at ih
    have go : ∀ v, v = f_clamp (f_ph1 C a j 1 j + f_strain C (f_ph1 C a j) j) → (vp_in (nI (6 + j)) 33 ∧ ∀ M3, M3 = jw_up M2 43 0 (6 + j) v → jw_J 6 mX11_pass 2 [(0, vr 11 0), (1, vi (nI (j + 1)))] [] M3 Q) := by
      rintro v rfl
      refine ⟨h6, ?_⟩
      rintro M3 rfl
      exact ih _ hf.up (hs2.up hS6 hW7 (k := 1) (by simp [rPos]) (by omega) _)
    refine ⟨fun c => ⟨fun c2 => go _ ?_, fun c2 => go _ ?_⟩, fun c => go _ ?_⟩
    · rw [f_clamp, if_pos c, if_pos c2]
    · rw [f_clamp, if_pos c, if_neg c2]
    · rw [f_clamp, if_neg c]
end YR
