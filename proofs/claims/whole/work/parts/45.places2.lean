/-! ===== places, the model's ===== -/
def nbt (t : Nat) : Nat → Bool := fun i => !bt (nI t) i
section PM2
variable {P S W : Nat} {C a : Ab} {M : jw_Mem} {Q : Int32 → jw_Mem → Prop}
abbrev rowM (C : Ab) (P : Nat) (M : jw_Mem) (s r : Nat) : Prop := ∀ t, t < 32 → M 54 0 (32 * s + t) = nI (wN C P r s (nbt t))
theorem m_with (hc : cR M P S W C) (hw : cW P S W C) {s p t r : Nat} (hs : s < S) (hp : p < P) (ht : t < 32) (hr : rowM C P M (s + 1) r) (h : Q (if nbt t p = true ∧ pcan C s p then nI (1000 + vN C p + wN C P r (s + 1) (mns (nbt t) p)) else -1000000) M) : jw_M 1 mX11_withPlace [vr 11 0, vi (nI s), vi (nI t), vi (nI p)] M Q := by
  have hP5 := hc.2.1.1
  have hS6 := hc.2.1.2.1
  obtain ⟨v, hv, ev⟩ := hw.2.2.2.1 p hp
  have en : vN C p = v := by unfold vN; rw [ev, cl_i (by omega)]
  have hb : nbt t p = true ↔ ¬ sp_bit (nI t) (nI p) := by
    rw [bit_bt (by omega)]
    unfold nbt
    cases bt (nI t) p <;> simp
  refine en_X11_withPlace (r_has (b10 (fun z => ?_) (fun z => ⟨vp_in_nI (by omega) (by decide), vp_in_nI (by omega) (by decide), ?_⟩)))
  · rw [if_neg (fun y => hb.mp y.1 z)] at h; exact h
  · rw [cl_i (by omega), cl_i (by omega), hc.2.2.1 p hp, (hc.2.2.2.1 s hs).2]
    refine ⟨fun z2 => ?_, fun z2 => ⟨vp_in_nI (by omega) (by decide), ?_⟩⟩
    · rw [if_neg (fun y => y.2 z2)] at h; exact h
    · obtain ⟨w1, w2⟩ := wi_eq t ht p (by omega)
      have e : ((32 * nI s) + 32) + (nI t ||| ((1 : Int32) <<< (nI p &&& 31))) = nI (32 * (s + 1) + wi t p) := by
        rw [w1, show (32 : Int32) = nI 32 from rfl, pk_mul, nI_add, nI_add]
        rfl
      rw [e, cl_i (by omega), hr _ w2]
      refine ⟨vp_in_nI (by omega) (by decide), ?_⟩
      rw [if_pos ⟨hb.mpr z, z2⟩, en] at h
      have ew : wN C P r (s + 1) (nbt (wi t p)) = wN C P r (s + 1) (mns (nbt t) p) := wN_congr r (s + 1) _ _ (fun i hi => wi_bt ht (by omega) (by omega))
      rw [ev, ew, show (1000 : Int32) = nI 1000 from rfl, nI_add, nI_add]
      exact h
theorem neg_le {n : Nat} (h : n < 2 ^ 31) : (-1000000 : Int32) ≤ nI n := Int32.le_trans (by decide) (nI_pos' h)
theorem neg_ne {n : Nat} (h : n < 2 ^ 31) : ¬ (-1000000 : Int32) = nI n := fun z => by
  have := nI_pos' h
  rw [← z] at this
  exact absurd this (by decide)
theorem m_find (hc : cR M P S W C) (hw : cW P S W C) (h : ∀ M2, agr (fun k _ _ => k ≠ 54) M M2 → (∀ s, s ≤ S → rowM C P M2 s (S - s)) → Q 0 M2) : jw_M 2 mX11_findPlaces [vr 11 0] M Q := by
  have hP5 := hc.2.1.1
  have hS6 := hc.2.1.2.1
  have hle := wN_le (C := C) (P := P) (vN_le hw)
  refine en_X11_findPlaces ?_
  refine lp_up (P := fun j => ∀ M2, agr (fun k _ _ => k ≠ 54) M M2 → (∀ f, f < j → M2 54 0 (32 * S + f) = 0) → jw_J 2 mX11_findPlaces 2 [(0, vr 11 0), (1, vi (nI j))] [] M2 Q) 32 (fun M2 f2 z2 => bk_X11_findPlaces_2 (ge_yes (W := 32) rfl ?_)) (fun j hj ih => ?_) M agr.rf (fun f hf => absurd hf (by omega))
  · have hc2 := hc.ag (f2.sub (fun k i j z => by omega))
    rw [hc2.1.2.1]
    have key : ∀ s, s ≤ S → ∀ M3, agr (fun k _ _ => k ≠ 54) M M3 → (∀ t, s ≤ t → t ≤ S → rowM C P M3 t (S - t)) → jw_J 2 mX11_findPlaces 36 [(0, vr 11 0), (1, vi (nI s - 1))] [] M3 Q := by
      intro s
      induction s with
      | zero =>
        intro _ M3 f3 r3
        exact bk_X11_findPlaces_36 ⟨fun _ => h M3 f3 (fun s hs => r3 s (Nat.zero_le _) hs), fun z => absurd (by decide) z⟩
      | succ s ih =>
        intro hsS M3 f3 r3
        rw [nI_pred]
        refine bk_X11_findPlaces_36 ⟨fun z => absurd z (nI_pos (by omega)), fun _ => ?_⟩
        refine lp_up (P := fun j => ∀ M4, agr (fun k _ t => k ≠ 54 ∨ ¬ (32 * s ≤ t ∧ t < 32 * s + 32)) M3 M4 → (∀ f, f < j → M4 54 0 (32 * s + f) = nI (wN C P (S - s) s (nbt f))) → jw_J 2 mX11_findPlaces 42 [(0, vr 11 0), (1, vi (nI s)), (2, vi (nI j))] [] M4 Q) 32 (fun M4 f4 w4 => bk_X11_findPlaces_42 (ge_yes (W := 32) rfl ?_)) (fun j hj ih2 => ?_) M3 agr.rf (fun f hf => absurd hf (by omega))
        · have e : nI s + (-1) = nI s - 1 := by rw [Int32.sub_eq_add_neg]
          rw [e]
          refine ih (by omega) M4 (f3.tr (f4.sub (fun k i j z => Or.inl z))) (fun t h1 h2 f hf => ?_)
          by_cases q : t = s
          · subst q; exact w4 f hf
          · rw [f4 _ _ _ (Or.inr (by omega))]; exact r3 t (by omega) h2 f hf
        · intro M4 f4 w4
          have hc4 := hc.ag (((f3.tr (f4.sub (fun k i j z => Or.inl z))) : agr (fun k _ _ => k ≠ 54) M M4).sub (fun k i j z => by omega))
          have r4 : rowM C P M4 (s + 1) (S - (s + 1)) := fun f hf => by rw [f4 _ _ _ (Or.inr (by omega))]; exact r3 (s + 1) (Nat.le_refl _) (by omega) f hf
          refine bk_X11_findPlaces_42 (ge_no (W := 32) rfl hj (by decide) ?_)
          have e : ((32 * nI s) + 32) + nI j = nI (32 * (s + 1) + j) := by
            rw [show (32 : Int32) = nI 32 from rfl, pk_mul, nI_add, nI_add]
            rfl
          rw [e, cl_i (by omega), r4 j hj]
          refine ⟨vp_in_nI (by omega) (by decide), ?_⟩
          have e2 : (32 * nI s) + nI j = nI (32 * s + j) := by
            rw [show (32 : Int32) = nI 32 from rfl, pk_mul, nI_add]
          refine lp_f (S := P) (f := fun p best => if nbt j p = true ∧ pcan C s p then max best (1000 + vN C p + wN C P (S - (s + 1)) (s + 1) (mns (nbt j) p)) else best) (J := fun p acc => acc ≤ 1099 * 7 → jw_J 2 mX11_findPlaces 66 [(0, vr 11 0), (1, vi (nI s)), (2, vi (nI j)), (3, vi (nI acc)), (4, vi (nI p))] [] M4 Q) (fun p acc hp ih3 hb => ?_) P 0 (wN C P (S - (s + 1)) (s + 1) (nbt j)) (by omega) (fun _ => bk_X11_findPlaces_66 (ge_yes hc4.1.1 ?_)) (Nat.le_trans (hle _ _ _) (by omega))
          · refine bk_X11_findPlaces_66 (ge_no hc4.1.1 hp (by omega) (m_with hc4 hw (by omega) hp hj r4 ?_))
            have h1 := hle (S - (s + 1)) (s + 1) (mns (nbt j) p)
            have h2 := vN_le hw p hp
            rw [nI_1]
            by_cases q : nbt j p = true ∧ pcan C s p
            · rw [if_pos q]
              have e3 : (if nbt j p = true ∧ pcan C s p then max acc (1000 + vN C p + wN C P (S - (s + 1)) (s + 1) (mns (nbt j) p)) else acc) = max acc (1000 + vN C p + wN C P (S - (s + 1)) (s + 1) (mns (nbt j) p)) := if_pos q
              rw [e3] at ih3
              have ih3 := ih3 (Nat.max_le.mpr ⟨hb, by omega⟩)
              refine ⟨fun z => ?_, fun z => ?_⟩
              · have z2 := (nI_leI (by omega) (by omega)).mp z
                rw [Nat.max_eq_left z2] at ih3; exact ih3
              · have z2 : ¬ _ ≤ acc := fun y => z ((nI_leI (by omega) (by omega)).mpr y)
                rw [Nat.max_eq_right (by omega)] at ih3; exact ih3
            · rw [if_neg q]
              have e3 : (if nbt j p = true ∧ pcan C s p then max acc (1000 + vN C p + wN C P (S - (s + 1)) (s + 1) (mns (nbt j) p)) else acc) = acc := if_neg q
              rw [e3] at ih3
              exact ⟨fun _ => ih3 hb, fun z => absurd (neg_le (by omega)) z⟩
          · rw [e2, cl_i (by omega)]
            refine ⟨vp_in_nI (by omega) (by decide), ?_⟩
            rintro M5 rfl
            rw [nI_1]
            refine ih2 _ (up_agr f4 (by omega)) (fun f hf => ?_)
            by_cases q : f = j
            · subst q
              rw [up_eq, show S - s = S - (s + 1) + 1 by omega, wN]
            · rw [up_ne (by omega)]; exact w4 f (by omega)
    refine key S (Nat.le_refl _) M2 f2 (fun t h1 h2 f hf => ?_)
    obtain rfl : t = S := by omega
    rw [z2 f hf, Nat.sub_self, wN]
    rfl
  · intro M2 f2 z2
    have hc2 := hc.ag (f2.sub (fun k i j z => by omega))
    refine bk_X11_findPlaces_2 (ge_no (W := 32) rfl hj (by decide) ?_)
    have e : (32 * nI S) + nI j = nI (32 * S + j) := by
      rw [show (32 : Int32) = nI 32 from rfl, pk_mul, nI_add]
    rw [hc2.1.2.1, e, cl_i (by omega)]
    refine ⟨vp_in_nI (by omega) (by decide), ?_⟩
    rintro M3 rfl
    rw [nI_1]
    refine ih _ (up_agr f2 (by omega)) (fun f hf => ?_)
    by_cases q : f = j
    · subst q; rw [up_eq]
    · rw [up_ne (by omega)]; exact z2 f (by omega)
theorem m_placeOf (hc : cR M P S W C) (hw : cW P S W C) (hr : ∀ s, s ≤ S → rowM C P M s (S - s)) {s0 : Nat} (hs0 : s0 < S) (h : Q (chF C P (S - (s0 + 1)) s0 (frA C P S s0)) M) : jw_M 2 mX11_placeOf [vr 11 0, vi (nI s0)] M Q := by
  have hP5 := hc.2.1.1
  have hS6 := hc.2.1.2.1
  have hle := wN_le (C := C) (P := P) (vN_le hw)
  refine en_X11_placeOf ?_
  have key : ∀ (n q t : Nat) (x3 : Int32), q + n = s0 + 1 → t < 32 → (∀ i, i < P → nbt t i = frA C P S q i) → (n = 0 → Q x3 M) → jw_J 2 mX11_placeOf 7 [(0, vr 11 0), (1, vi (nI s0)), (2, vi (nI t)), (3, vi x3), (4, vi (nI q))] [] M Q := by
    intro n
    induction n with
    | zero =>
      intro q t x3 hq _ _ hx
      exact bk_X11_placeOf_7 ⟨fun _ => hx rfl, fun z => absurd ((nI_ltI (by omega) (by omega)).mpr (by omega)) z⟩
    | succ n ih =>
      intro q t x3 hq ht hb _
      refine bk_X11_placeOf_7 ⟨fun z => absurd z (fun y => by have := (nI_ltI (by omega) (by omega)).mp y; omega), fun _ => ?_⟩
      rw [hc.1.1]
      obtain ⟨r, er⟩ : ∃ r, r = S - (q + 1) := ⟨_, rfl⟩
      have r1 : rowM C P M (q + 1) r := er ▸ hr (q + 1) (by omega)
      have r0 := hr q (by omega)
      rw [show S - q = r + 1 by omega] at r0
      have e2 : (32 * nI q) + nI t = nI (32 * q + t) := by
        rw [show (32 : Int32) = nI 32 from rfl, pk_mul, nI_add]
      have inner : ∀ j, j ≤ P → jw_J 2 mX11_placeOf 23 [(0, vr 11 0), (1, vi (nI s0)), (2, vi (nI t)), (3, vi (sp_fst (f_fit C P r q (frA C P S q)) j (P - j))), (4, vi (nI q)), (5, vi (nI j - 1))] [] M Q := by
        intro j
        induction j with
        | zero =>
          intro _
          refine bk_X11_placeOf_23 ⟨fun _ => ?_, fun z => absurd (by decide) z⟩
          have ech : sp_fst (f_fit C P r q (frA C P S q)) 0 (P - 0) = chF C P (S - (q + 1)) q (frA C P S q) := by rw [er]; rfl
          rw [ech, nI_1]
          have hx : n = 0 → Q (chF C P (S - (q + 1)) q (frA C P S q)) M := fun e => by
            obtain rfl : q = s0 := by omega
            exact h
          rcases ch_cases C P (S - (q + 1)) q (frA C P S q) hP5 with e | ⟨i, hi, e⟩
          · rw [e] at hx ⊢
            refine ⟨fun z => absurd z (by decide), fun _ => ?_⟩
            rw [i_or0]
            refine ih (q + 1) t _ (by omega) ht (fun i hi => ?_) hx
            rw [frA, e, hb i hi]
            unfold mnI
            have : ¬ nI i = -1 := fun z => absurd (by rw [z]; decide) (nI_pos (n := i) (by omega))
            simp [this]
          · rw [e] at hx ⊢
            refine ⟨fun _ => ?_, fun z => absurd (nI_pos' (by omega)) z⟩
            obtain ⟨w1, w2⟩ := wi_eq t ht i (by omega)
            rw [w1]
            refine ih (q + 1) (wi t i) _ (by omega) w2 (fun i2 hi2 => ?_) hx
            have := wi_bt (i := i2) ht (p := i) (by omega) (by omega)
            show (!bt (nI (wi t i)) i2) = _
            rw [this, frA, e]
            unfold mns mnI
            have hb2 : (!bt (nI t) i2) = frA C P S q i2 := hb i2 hi2
            show ((!bt (nI t) i2) && decide (i2 ≠ i)) = _
            rw [hb2]
            by_cases z : i2 = i
            · simp [z]
            · have : ¬ nI i2 = nI i := nI_ne z (by omega) (by omega)
              simp [z, this]
        | succ j ihj =>
          intro hj
          rw [nI_pred]
          have em : nI j + (-1) = nI j - 1 := by rw [Int32.sub_eq_add_neg]
          have e1 : wN C P r (q + 1) (mns (nbt t) j) = wN C P r (q + 1) (mns (frA C P S q) j) := wN_congr r (q + 1) _ _ (fun i hi => by unfold mns; rw [hb i hi])
          have e3 : wN C P (r + 1) q (nbt t) = wN C P (r + 1) q (frA C P S q) := wN_congr (r + 1) q _ _ hb
          have h1 := hle r (q + 1) (mns (frA C P S q) j)
          have h2 := vN_le hw j (by omega)
          have h3 := hle (r + 1) q (frA C P S q)
          have ihj := ihj (by omega)
          rw [show P - j = (P - (j + 1)) + 1 by omega, sp_fst] at ihj
          refine bk_X11_placeOf_23 ⟨fun z => absurd z (nI_pos (by omega)), fun _ => m_with hc hw (by omega) (by omega) ht r1 ?_⟩
          rw [e2, cl_i (by omega), r0 t ht, e1, e3, em]
          refine ⟨vp_in_nI (by omega) (by decide), fun z => ?_, fun z => ?_⟩
          · rw [if_neg] at ihj
            · exact ihj
            · intro y
              rw [Bool.and_eq_true_iff, Bool.and_eq_true_iff, decide_eq_true_iff, decide_eq_true_iff] at y
              exact z (by rw [if_pos ⟨by rw [hb j (by omega)]; exact y.1, y.2.1⟩, y.2.2])
          · rw [if_pos] at ihj
            · exact ihj
            · by_cases y : nbt t j = true ∧ pcan C q j
              · rw [if_pos y] at z
                rw [Bool.and_eq_true_iff, Bool.and_eq_true_iff, decide_eq_true_iff, decide_eq_true_iff]
                exact ⟨by rw [← hb j (by omega)]; exact y.1, y.2, (nI_eq (by omega) (by omega)).mp z⟩
              · rw [if_neg y] at z
                exact absurd z (neg_ne (by omega))
      have fin := inner P (Nat.le_refl _)
      rw [Nat.sub_self, sp_fst] at fin
      exact fin
  have := key (s0 + 1) 0 0 (-1) (by omega) (by omega) (fun i hi => by
    show (!bt (nI 0) i) = decide (i < P)
    rw [show nI 0 = 0 from rfl, b_0, decide_eq_true hi]
    rfl) (fun z => absurd z (by omega))
  exact this
end PM2
theorem nbt0 {P : Nat} (hP : P ≤ 5) : ∀ i, i < P → nbt 0 i = bt (nI (2 ^ P - 1)) i := fun i hi => by
  rw [(mask_bt P (by omega)).2.2 i (by omega), decide_eq_true hi]
  show (!bt (nI 0) i) = true
  rw [show nI 0 = 0 from rfl, b_0]
  rfl
theorem t_places (a1 : Int32) : Both 5 mX10_places 3 mX11_places [vi a1] := by
  intro M I
  obtain ⟨P, S, W, C, a, U, h0, L, x, c, u, v, b, p, q, kp, im, dr, hc, hs, hh, ht, hy, hb, hi, hd⟩ := id I
  have hP := hc.1.2.1.1
  have hS := hc.1.2.1.2.1
  have m12 : ¬ (-1 : Int32) = -2 := by decide
  -- the model, behind the class's own rows
  have mod : ∀ M2, agr (fun k _ _ => k ≠ 23 ∧ k ≠ 24) M M2 → ∀ y, ((a1 = -1 ∧ y = nI (wN C P S 0 (nbt 0)) / 1000) ∨ (a1 = -2 ∧ y = nI (wN C P S 0 (nbt 0)) - nI (wN C P S 0 (nbt 0)) / 1000 * 1000) ∨ ∃ s, s < S ∧ a1 = nI s ∧ y = chF C P (S - (s + 1)) s (frA C P S s)) → jw_M 3 mX11_places [vr 11 0, vi a1] M2 (fun y2 M3 => y = y2 ∧ Inv M3) := by
    intro M2 f2 y hy2
    have I2 : Inv M2 := I.fr (f2.sub (fun k i j z => by unfold Fall Fc Fs Fh Ft Fy Fb Fi Fz at z; omega))
    have hc2 := hc.2.1.ag (f2.sub (fun k i j z => by omega))
    have hin : ((-2 : Int64) ≤ a1.toInt64 ∧ a1.toInt64 ≤ (M2 11 0 3 - 1).toInt64) := by
      rw [show (-2 : Int64) = (-2 : Int32).toInt64 from by decide, l_le, l_le, hc2.1.2.1, fa_le, fa_le]
      have e1 : (nI S - 1).toInt = (S : Int) - 1 := pk_sub_toInt (a := S) (b := 1) (by omega) (by decide)
      rw [e1]
      have e2 : (-2 : Int32).toInt = -2 := by decide
      rw [e2]
      rcases hy2 with ⟨rfl, -⟩ | ⟨rfl, -⟩ | ⟨s, hs, rfl, -⟩
      · have : (-1 : Int32).toInt = -1 := by decide
        rw [this]; omega
      · rw [e2]; omega
      · rw [nI_toInt (by omega)]; omega
    refine en_X11_places (r_in ?_)
    rw [if_pos hin]
    refine ⟨fun _ => m_find hc2 hc.2.2 (fun M3 f3 r3 => ?_), fun z => absurd z (by decide)⟩
    have I3 : Inv M3 := I2.fr (f3.sub (fun k i j z => by unfold Fall Fc Fs Fh Ft Fy Fb Fi Fz at z; omega))
    have c0 : (0 : Int32).toNatClampNeg = 0 := by decide
    have v0 : vp_in 0 224 := vp_in_nI (n := 0) (by decide) (by decide)
    have r0 := r3 0 (Nat.zero_le _) 0 (by decide)
    rw [show 32 * 0 + 0 = 0 from rfl, Nat.sub_zero] at r0
    rw [c0, r0]
    rcases hy2 with ⟨rfl, rfl⟩ | ⟨rfl, rfl⟩ | ⟨s, hs, rfl, rfl⟩
    · exact ⟨fun z => absurd rfl z, fun _ => ⟨v0, rfl, I3⟩⟩
    · exact ⟨fun _ => ⟨fun z => absurd rfl z, fun _ => ⟨v0, rfl, I3⟩⟩, fun z => absurd z (by decide)⟩
    · have n1 : ¬ nI s = -1 := fun z => absurd (by rw [z]; decide) (nI_pos (n := s) (by omega))
      have n2 : ¬ nI s = -2 := fun z => absurd (by rw [z]; decide) (nI_pos (n := s) (by omega))
      exact ⟨fun _ => ⟨fun _ => m_placeOf (hc2.ag (f3.sub (fun k i j z => by omega))) hc.2.2 r3 hs ⟨rfl, I3⟩, fun z => absurd z n2⟩, fun z => absurd z n1⟩
  have best : ∀ M2, agr (fun k _ _ => k ≠ 23 ∧ k ≠ 24) M M2 → rowK C P M2 0 S → ∀ Q : Int32 → jw_Mem → Prop, Q (nI (wN C P S 0 (nbt 0))) M2 → jw_M 0 mX5_bestOfAll [vr 5 0] M2 Q := by
    intro M2 f2 r2 Q h
    obtain ⟨m1, m2, m3⟩ := mask_bt P (by omega)
    have hc2 := hc.1.ag (f2.sub (fun k i j z => by omega))
    refine en_X5_bestOfAll ⟨vp_in_nI (n := 0) (by decide) (by decide), ?_⟩
    intro q1 hq1 _
    have : q1 = 0 := hq1.trans (by decide)
    subst this
    rw [hc2.1.1, m1, cl_i (by omega), r2 _ m2]
    refine ⟨vp_in_nI m2 (by decide), ?_⟩
    rw [wN_congr S 0 (bt (nI (2 ^ P - 1))) (nbt 0) (fun i hi => (nbt0 hP i hi).symm)]
    exact h
  refine en_X10_places ⟨fun z => ?_, fun z => ⟨fun z2 => ?_, fun z2 => ?_⟩⟩
  · refine k_places hc.1 hc.2.2 (fun M2 f2 r2 c2 => ⟨fun y => absurd z y, fun _ => en_X5_placed (best M2 f2 r2 _ (mod M2 f2 _ (Or.inl ⟨z, rfl⟩)))⟩)
  · refine k_places hc.1 hc.2.2 (fun M2 f2 r2 c2 => ⟨fun _ => ⟨fun y => absurd z2 y, fun _ => en_X5_viewTogether (best M2 f2 r2 _ (mod M2 f2 _ (Or.inr (Or.inl ⟨z2, rfl⟩))))⟩, fun y => absurd y z⟩)
  · refine k_hasS hc.1 (b10 (fun h1 => ?_) (fun h1 => ?_))
    · obtain ⟨s, hsS, rfl⟩ := h1.ex (by omega)
      refine k_places hc.1 hc.2.2 (fun M2 f2 r2 c2 => ⟨fun _ => ⟨fun _ => ⟨vp_in_nI (by omega) (by decide), ?_⟩, fun y => absurd y z2⟩, fun y => absurd y z⟩)
      rw [cl_i (by omega), c2 s hsS]
      exact mod M2 f2 _ (Or.inr (Or.inr ⟨s, hsS, rfl, rfl⟩))
    · refine en_X11_places (r_in ?_)
      rw [if_neg]
      · exact ⟨fun y => absurd rfl y, fun _ => ⟨rfl, I⟩⟩
      · rintro ⟨y1, y2⟩
        rw [show (-2 : Int64) = (-2 : Int32).toInt64 from by decide, l_le, fa_le] at y1
        rw [l_le, hc.2.1.1.2.1, fa_le] at y2
        have e1 : (nI S - 1).toInt = (S : Int) - 1 := pk_sub_toInt (a := S) (b := 1) (by omega) (by decide)
        rw [e1] at y2
        have e2 : (-2 : Int32).toInt = -2 := by decide
        rw [e2] at y1
        have e3 : (-1 : Int32).toInt = -1 := by decide
        have n1 : a1.toInt ≠ -1 := fun t => z (Int32.toInt_inj.mp (by rw [t, e3]))
        have n2 : a1.toInt ≠ -2 := fun t => z2 (Int32.toInt_inj.mp (by rw [t, e2]))
        refine h1 ⟨?_, ?_⟩
        · rw [fa_le]
          have : (0 : Int32).toInt = 0 := by decide
          omega
        · rw [fa_lt, nI_toInt (by omega)]; omega
