/-! ===== what can be undone ===== -/
theorem row_val {M : jw_Mem} {k n : Nat} {f : Nat → Int32} {k2 n2 j2 : Nat} : jw_row M k n f k2 n2 j2 = if k2 = k ∧ n2 = n then f j2 else M k2 n2 j2 := rfl
/-- a stretch of a row copied -/
def cpM (M : jw_Mem) (kd b ks bs j : Nat) : jw_Mem := fun k i t => if k = kd ∧ i = 0 ∧ b ≤ t ∧ t < b + j then M ks 0 (bs + (t - b)) else M k i t
theorem cpM_0 {M : jw_Mem} {kd b ks bs : Nat} : cpM M kd b ks bs 0 = M := by
  funext k i t
  unfold cpM
  rw [if_neg (by omega)]
theorem cpM_step {M : jw_Mem} {kd b ks bs j : Nat} {v : Int32} (hv : v = M ks 0 (bs + j)) : jw_up (cpM M kd b ks bs j) kd 0 (b + j) v = cpM M kd b ks bs (j + 1) := by
  subst hv
  funext k i t
  rw [up_val]
  unfold cpM
  by_cases h : k = kd ∧ i = 0 ∧ t = b + j
  · rw [if_pos h, if_pos (by omega)]
    obtain ⟨-, -, rfl⟩ := h
    congr 1
    omega
  · rw [if_neg h]
    by_cases h2 : k = kd ∧ i = 0 ∧ b ≤ t ∧ t < b + j
    · rw [if_pos h2, if_pos (by omega)]
    · rw [if_neg h2, if_neg (by omega)]
theorem cpM_out {M : jw_Mem} {kd b ks bs j k i t : Nat} (h : ¬ (k = kd ∧ i = 0 ∧ b ≤ t ∧ t < b + j)) : cpM M kd b ks bs j k i t = M k i t := if_neg h
theorem cpM_in {M : jw_Mem} {kd b ks bs j t : Nat} (h : t < j) : cpM M kd b ks bs j kd 0 (b + t) = M ks 0 (bs + t) := by
  unfold cpM
  rw [if_pos (by omega)]
  congr 1
  omega
theorem cpM_agr {M : jw_Mem} {kd b ks bs j : Nat} {F : Nat → Nat → Nat → Prop} (h : ∀ i t, ¬ F kd i t) : agr F M (cpM M kd b ks bs j) := fun k i t hf => cpM_out (fun z => h i t (by rw [← z.1]; exact hf))
def pushU (U : Nat) : Nat := if U = 16 then 16 else U + 1
def pushH (U : Nat) (h : Nat → Ab) (a : Ab) : Nat → Ab := if U = 16 then (fun i => if i = 15 then a else h (i + 1)) else (fun i => if i = U then a else h i)
def Gc : Nat → Nat → Nat → Prop := fun k i _ => ¬ (((k = 8 ∨ (26 ≤ k ∧ k ≤ 30)) ∧ i < 18) ∨ k = 3)
def Gr : Nat → Nat → Nat → Prop := fun k _ j => ¬ ((k = 11 ∧ j = 30) ∨ k = 52 ∨ k = 43)
section HI
variable {n n1 P S W U : Nat} {C a : Ab} {h0 : Nat → Ab} {M : jw_Mem} {Q : Int32 → jw_Mem → Prop}
theorem k_copy (hn : n < 20) (hn1 : n1 < 20) (hS : S ≤ 6) (hW : W ≤ 7) (hs : sK M n1 S W a) (h : ∀ M2, agr (fun k i _ => ¬ ((k = 8 ∨ (26 ≤ k ∧ k ≤ 30)) ∧ i = n)) M M2 → sK M2 n S W a → Q 0 M2) : jw_M 1 mX8_copyFrom [vr 8 n, vr 8 n1] M Q := by
  refine en_X8_copyFrom hn hn1 ?_
  rintro M1 rfl M2 rfl M3 rfl M4 rfl M5 rfl M6 rfl
  have c6 : (6 : Int32).toNatClampNeg = 6 := cl_i (j := 6) (by decide)
  have c7 : (7 : Int32).toNatClampNeg = 7 := cl_i (j := 7) (by decide)
  rw [c6, c7]
  refine h _ (fun k i j hk => ?_) ⟨fun j hj => ?_, fun j hj => ?_, ?_⟩
  · simp only [row_val, up_val]
    rw [if_neg (by omega), if_neg (by omega), if_neg (by omega), if_neg (by omega), if_neg (by omega), if_neg (by omega)]
  · obtain ⟨e1, e2, e3⟩ := hs.1 j hj
    have h6 : j < 6 := by omega
    simp [row_val, up_val, va_cpy, h6, e1, e2, e3]
  · obtain ⟨e1, e2⟩ := hs.2.1 j hj
    have h7 : j < 7 := by omega
    simp [row_val, up_val, va_cpy, h7, e1, e2]
  · simp [row_val, up_val, hs.2.2]
theorem k_push (hS : S ≤ 6) (hW : W ≤ 7) (hU : U ≤ 16) (hs : sK M 0 S W a) (hh : hK M S W U h0) (h : ∀ M2, agr (fun k i _ => ¬ (((k = 8 ∨ (26 ≤ k ∧ k ≤ 30)) ∧ 2 ≤ i ∧ i < 18) ∨ k = 3)) M M2 → hK M2 S W (pushU U) (pushH U h0 a) → Q 0 M2) : jw_M 2 mX3_push [vr 3 0, vr 8 0] M Q := by
  obtain ⟨e1, nx, hnx, e2, hv⟩ := hh
  refine en_X3_push (by decide) ?_
  rw [e2, cl_i (by omega)]
  refine ⟨vp_in_nI hnx (by decide), ?_⟩
  intro q1 hq1 _
  subst q1
  refine k_copy (by omega) (by decide) hS hW hs (fun M2 f2 hs2 => ?_)
  rintro M4 rfl M5 rfl
  have g1 : M2 3 0 1 = nI nx := (f2 _ _ _ (by omega)).trans e2
  have g2 : M2 3 0 2 = nI U := (f2 _ _ _ (by omega)).trans e1
  have hm : (nI nx + 1) - (nI nx + 1) / 16 * 16 = nI ((nx + 1) % 16) := by
    rw [nI_1]
    exact pk_rem (d := 16) (by omega) (by decide) (by decide)
  have hu : (if 16 < nI U + 1 then (16 : Int32) else nI U + 1) = nI (pushU U) := by
    rw [nI_1]
    unfold pushU
    by_cases q : U = 16
    · subst q; rw [if_pos (by decide), if_pos rfl]; rfl
    · rw [if_neg, if_neg q]
      intro z
      have := (nI_ltI (a := 16) (b := U + 1) (by decide) (by omega)).mp z
      omega
  rw [g1, hm, up_ne (by omega), g2, hu]
  refine h _ (up_agr (up_agr (f2.sub (fun k i j z => by omega)) (by omega)) (by omega)) ⟨by simp [up_val], (nx + 1) % 16, by omega, by simp [up_val], fun i hi => ?_⟩
  have key : ∀ n2 b, 2 ≤ n2 → n2 < 18 → sK M2 n2 S W b → sK (jw_up (jw_up M2 3 0 1 (nI ((nx + 1) % 16))) 3 0 2 (nI (pushU U))) n2 S W b := fun n2 b _ _ hb => hb.congr (fun k j hk => by rw [up_ne (by omega), up_ne (by omega)])
  unfold pushU at hi
  unfold pushU pushH
  by_cases q : U = 16
  · subst q
    rw [if_pos rfl] at hi
    rw [if_pos rfl, if_pos rfl]
    by_cases q2 : i = 15
    · subst q2
      rw [if_pos rfl]
      have : 2 + ((nx + 1) % 16 + 16 - 16 + 15) % 16 = 2 + nx := by omega
      rw [this]
      exact key _ _ (by omega) (by omega) hs2
    · rw [if_neg q2]
      have : 2 + ((nx + 1) % 16 + 16 - 16 + i) % 16 = 2 + (nx + 16 - 16 + (i + 1)) % 16 := by omega
      rw [this]
      exact key _ _ (by omega) (by omega) ((hv (i + 1) (by omega)).congr (fun k j hk => f2 _ _ _ (by omega)))
  · rw [if_neg q] at hi
    rw [if_neg q, if_neg q]
    by_cases q2 : i = U
    · subst q2
      rw [if_pos rfl]
      have : 2 + ((nx + 1) % 16 + 16 - (i + 1) + i) % 16 = 2 + nx := by omega
      rw [this]
      exact key _ _ (by omega) (by omega) hs2
    · rw [if_neg q2]
      have : 2 + ((nx + 1) % 16 + 16 - (U + 1) + i) % 16 = 2 + (nx + 16 - U + i) % 16 := by omega
      rw [this]
      exact key _ _ (by omega) (by omega) ((hv i (by omega)).congr (fun k j hk => f2 _ _ _ (by omega)))
/-- the copy of now into a free stretch of past -/
theorem m_rem2 (hS : S ≤ 6) (hW : W ≤ 7) (hU : U < 16) (e1 : M 11 0 30 = nI U) (h : ∀ M2, agr Gr M M2 → M2 11 0 30 = nI (U + 1) → (∀ t, t < 33 → M2 52 0 (33 * U + t) = M 43 0 t) → (∀ t, ¬ (33 * U ≤ t ∧ t < 33 * U + 33) → M2 52 0 t = M 52 0 t) → (∀ t, M2 43 0 t = M 43 0 t) → Q 0 M2) : jw_J 0 mX11_remember 52 [(0, vr 11 0), (1, vi 0)] [] M Q := by
  have main : jw_J 0 mX11_remember 52 [(0, vr 11 0), (1, vi (nI 0))] [] (cpM M 52 (33 * U) 43 0 0) Q := by
    refine lp_up (P := fun j => jw_J 0 mX11_remember 52 [(0, vr 11 0), (1, vi (nI j))] [] (cpM M 52 (33 * U) 43 0 j) Q) 33 (bk_X11_remember_52 (ge_yes (W := 33) rfl ?_)) (fun j hj ih => ?_)
    · rintro M2 rfl
      rw [cpM_out (by omega), e1, nI_1]
      refine h _ (up_agr (cpM_agr (fun i t => by unfold Gr; omega)) (by unfold Gr; omega)) (by simp [up_val]) (fun t ht => ?_) (fun t ht => ?_) (fun t => ?_)
      · rw [up_ne (by omega), cpM_in ht, Nat.zero_add]
      · rw [up_ne (by omega), cpM_out (by omega)]
      · rw [up_ne (by omega), cpM_out (by omega)]
    · refine bk_X11_remember_52 (ge_no (W := 33) rfl hj (by decide) ⟨vp_in_nI hj (by decide), ?_⟩)
      have e33 : (33 : Int32) * nI U + nI j = nI (33 * U + j) := by
        rw [show (33 : Int32) = nI 33 from rfl, pk_mul, nI_add]
      rw [cpM_out (by omega), e1, e33, cl_i (by omega), cl_i (by omega)]
      refine ⟨vp_in_nI (by omega) (by decide), ?_⟩
      rintro M2 rfl
      rw [cpM_out (by omega), cpM_step (by rw [Nat.zero_add]), nI_1]
      exact ih
  rw [cpM_0] at main
  exact main
theorem m_push (hS : S ≤ 6) (hW : W ≤ 7) (hU : U ≤ 16) (hs : sR M S W a) (hh : hR M S W U h0) (h : ∀ M2, agr Gr M M2 → (∀ t, M2 43 0 t = M 43 0 t) → hR M2 S W (pushU U) (pushH U h0 a) → Q 0 M2) : jw_M 0 mX11_remember [vr 11 0] M Q := by
  obtain ⟨e1, hv⟩ := hh
  by_cases q : U = 16
  · subst q
    refine en_X11_remember ⟨fun z => absurd e1 z, fun _ => ?_⟩
    have main : jw_J 0 mX11_remember 12 [(0, vr 11 0), (1, vi (nI (33 + 0)))] [] (cpM M 52 0 52 33 0) Q := by
      refine lp_up (P := fun j => jw_J 0 mX11_remember 12 [(0, vr 11 0), (1, vi (nI (33 + j)))] [] (cpM M 52 0 52 33 j) Q) 495 (bk_X11_remember_12 (ge_yes (W := 528) rfl ?_)) (fun j hj ih => ?_)
      · rintro M2 rfl
        rw [cpM_out (by omega), e1]
        refine m_rem2 hS hW (U := 15) (by decide) (by simp [up_val]; decide) (fun M3 f3 g1 g2 g3 g4 => ?_)
        have f4 : agr Gr M M3 := (up_agr (cpM_agr (fun i t => by unfold Gr; omega)) (by unfold Gr; omega) : agr Gr M (jw_up (cpM M 52 0 52 33 495) 11 0 30 (nI 16 - 1))).tr f3
        refine h M3 f4 (fun t => by rw [g4, up_ne (by omega), cpM_out (by omega)]) ⟨g1, fun i hi => ?_⟩
        unfold pushU at hi
        rw [if_pos rfl] at hi
        unfold pushH
        rw [if_pos rfl]
        by_cases q2 : i = 15
        · subst q2
          rw [if_pos rfl]
          exact sG.congr (f := M 43 0) hs hS hW (fun j hj => by rw [g2 j hj, up_ne (by omega), cpM_out (by omega)])
        · rw [if_neg q2]
          refine (hv (i + 1) (by omega)).congr hS hW (fun j hj => ?_)
          show M3 52 0 (33 * i + j) = M 52 0 (33 * (i + 1) + j)
          rw [g3 _ (by omega), up_ne (by omega)]
          have := cpM_in (M := M) (kd := 52) (b := 0) (ks := 52) (bs := 33) (j := 495) (t := 33 * i + j) (by omega)
          rw [Nat.zero_add] at this
          rw [this]
          congr 1
          omega
      · refine bk_X11_remember_12 (ge_no (W := 528) rfl (by omega) (by decide) ⟨vp_in_nI (by omega) (by decide), ?_⟩)
        have e33 : nI (33 + j) - 33 = nI j := by
          rw [show (33 : Int32) = nI 33 from rfl, pk_sub (by omega), show 33 + j - 33 = j by omega]
        rw [e33, cl_i (by omega), cl_i (by omega)]
        refine ⟨vp_in_nI (by omega) (by decide), ?_⟩
        rintro M2 rfl
        have := cpM_step (M := M) (kd := 52) (b := 0) (ks := 52) (bs := 33) (j := j) (v := M 52 0 (33 + j)) rfl
        rw [Nat.zero_add] at this
        rw [cpM_out (by omega), this, nI_1]
        exact ih
    rw [cpM_0] at main
    exact main
  · refine en_X11_remember ⟨fun _ => m_rem2 hS hW (by omega) e1 (fun M3 f3 g1 g2 g3 g4 => h M3 f3 g4 ?_), fun z => absurd z (by rw [e1]; exact nI_ne (b := 16) q (by omega) (by decide))⟩
    unfold pushU pushH
    rw [if_neg q, if_neg q]
    refine ⟨g1, fun i hi => ?_⟩
    by_cases q2 : i = U
    · subst q2
      show sG _ S W (if i = i then a else h0 i)
      rw [if_pos rfl]
      exact sG.congr (f := M 43 0) hs hS hW (fun j hj => g2 j hj)
    · show sG _ S W (if i = U then a else h0 i)
      rw [if_neg q2]
      exact (hv i (by omega)).congr hS hW (fun j hj => g3 _ (by omega))
theorem hK.fr {M2 : jw_Mem} (H : hK M S W U h0) (hU : U ≤ 16) (e : agr (fun k i _ => ((k = 8 ∨ (26 ≤ k ∧ k ≤ 30)) ∧ 2 ≤ i ∧ i < 18) ∨ k = 3) M M2) : hK M2 S W U h0 := by
  obtain ⟨h1, nx, h2, h3, h4⟩ := H
  exact ⟨(e _ _ _ (by omega)).trans h1, nx, h2, (e _ _ _ (by omega)).trans h3, fun i hi => (h4 i hi).congr (fun k j hk => e _ _ _ (by omega))⟩
theorem hR.fr {M2 : jw_Mem} (H : hR M S W U h0) (hS : S ≤ 6) (hW : W ≤ 7) (e : agr (fun k _ j => (k = 11 ∧ j = 30) ∨ k = 52) M M2) : hR M2 S W U h0 :=
  ⟨(e _ _ _ (by omega)).trans H.1, fun i hi => (H.2 i hi).congr hS hW (fun j hj => e _ _ _ (by omega))⟩
theorem push_ok (hU : U ≤ 16) (hp : plOK P S a) (hh : ∀ i, i < U → plOK P S (h0 i)) : pushU U ≤ 16 ∧ ∀ i, i < pushU U → plOK P S (pushH U h0 a i) := by
  unfold pushU pushH
  by_cases q : U = 16
  · subst q
    rw [if_pos rfl, if_pos rfl]
    refine ⟨Nat.le_refl _, fun i hi => ?_⟩
    show plOK P S (if i = 15 then a else h0 (i + 1))
    split
    · exact hp
    · exact hh _ (by omega)
  · rw [if_neg q, if_neg q]
    refine ⟨by omega, fun i hi => ?_⟩
    show plOK P S (if i = U then a else h0 i)
    split
    · exact hp
    · exact hh _ (by omega)
end HI
/-- a call that is remembered, then changes the state: class and model -/
theorem both_mut {M : jw_Mem} {d1 d2 : Nat} {m1 m2 : jw_Mt} {as : List jw_V} {P S W : Nat} {C a : Ab} {U : Nat} {h0 : Nat → Ab} {L : Nat} {x : Nat → Int32} {c : Nat} {u v : Nat → Int32} {b : Nat} {p q kp : Nat → Int32} {im : Nat → Ab} {dr : Nat → Int32}
    (hc : cI M P S W C) (hs : sI M P S W a) (hh : hI M P S W U h0) (ht : tI M L x) (hy : yI M P c u v) (hb : bI M S b p q) (hi : iI M P S W kp im dr) (hd : dI M)
    (U2 : Nat) (h2 : Nat → Ab) (a2 : Ab) (x2 : Int32) (hp2 : plOK P S a2) (hU2 : U2 ≤ 16 ∧ (∀ i, i < U2 → plOK P S (h2 i)))
    (K : ∀ Q : Int32 → jw_Mem → Prop, (∀ M2, agr Gc M M2 → sK M2 0 S W a2 → hK M2 S W U2 h2 → Q x2 M2) → jw_M d1 m1 (vr 10 0 :: as) M Q)
    (R : ∀ M1, cR M1 P S W C → sR M1 S W a → hR M1 S W U h0 → ∀ Q : Int32 → jw_Mem → Prop, (∀ M2, agr Gr M1 M2 → sR M2 S W a2 → hR M2 S W U2 h2 → Q x2 M2) → jw_M d2 m2 (vr 11 0 :: as) M1 Q) :
    jw_M d1 m1 (vr 10 0 :: as) M (fun x M1 => jw_M d2 m2 (vr 11 0 :: as) M1 (fun y M2 => x = y ∧ Inv M2)) := by
  have hS := hc.1.2.1.2.1
  have hW := hc.1.2.1.2.2
  refine K _ (fun M1 f1 s1 k1 => ?_)
  have hc1 := hc.fr (f1.sub (fun k i j z => by unfold Fc at z; unfold Gc; omega))
  refine R M1 hc1.2.1 (sG.congr (f := M 43 0) hs.2.1 hS hW (fun j _ => f1 _ _ _ (by unfold Gc; omega))) (hh.2.1.fr hS hW (f1.sub (fun k i j z => by unfold Gc; omega))) _ (fun M2 f2 s2 k2 => ⟨rfl, ?_⟩)
  have f : agr (fun k i j => Gc k i j ∧ Gr k i j) M M2 := (f1.sub (fun k i j z => z.1)).tr (f2.sub (fun k i j z => z.2))
  refine ⟨P, S, W, C, a2, U2, h2, L, x, c, u, v, b, p, q, kp, im, dr, hc.fr (f.sub (fun k i j z => by unfold Fc at z; unfold Gc Gr; omega)), ⟨s1.congr (fun k j hk => f2 _ _ _ (by unfold Gr; omega)), s2, hp2⟩, ⟨k1.fr hU2.1 (f2.sub (fun k i j z => by unfold Gr; omega)), k2, hU2⟩, ht.fr (f.sub (fun k i j z => by unfold Ft at z; unfold Gc Gr; omega)), hy.fr (f.sub (fun k i j z => by unfold Fy at z; unfold Gc Gr; omega)), hb.fr (f.sub (fun k i j z => by unfold Fb at z; unfold Gc Gr; omega)), hi.fr hS hW (f.sub (fun k i j z => by unfold Fi at z; unfold Gc Gr; omega)), hd.fr (f.sub (fun k i j z => by unfold Fz at z; unfold Gc Gr; omega))⟩
