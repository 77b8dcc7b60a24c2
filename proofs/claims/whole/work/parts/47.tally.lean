/-! ===== who votes how, by counts ===== -/
theorem lp_m {S : Nat} {I J : Nat → jw_Mem → Prop} (hs : ∀ j M, j < S → I j M → (∀ M', I (j + 1) M' → J (j + 1) M') → J j M) (hx : ∀ M, I S M → J S M) (M : jw_Mem) (h : I 0 M) : J 0 M := by
  have key : ∀ r j, j + r = S → ∀ M, I j M → J j M := by
    intro r
    induction r with
    | zero => intro j hj M hi; obtain rfl : j = S := by omega
              exact hx M hi
    | succ r ih => intro j hj M hi; exact hs j M (by omega) hi (ih (j + 1) (by omega))
  exact key S 0 (Nat.zero_add S) M h
def ftB (C a : Ab) (W : Nat) (u v : Nat → Int32) : Nat → Nat → Bool
  | 0, _ => true
  | i + 1, set => ftB C a W u v i set && decide (f_votes C W (nI set &&& f_under a W (u i)) = v i)
theorem ftB_false {C a : Ab} {W : Nat} {u v : Nat → Int32} {j s : Nat} (h : ftB C a W u v j s = false) : ∀ k, ftB C a W u v (j + k) s = false
  | 0 => h
  | k + 1 => by rw [← Nat.add_assoc, ftB, ftB_false h k]; rfl
def eachO (b : Nat → Bool) : Nat → Option Nat
  | 0 => none
  | n + 1 => if b n = true then (match eachO b n with | none => some n | some x => some (x &&& n)) else eachO b n
theorem eachO_lt {b : Nat → Bool} : ∀ n x, eachO b n = some x → x < n
  | 0, _, h => absurd h (by simp [eachO])
  | n + 1, x, h => by
    rw [eachO] at h
    split at h
    · split at h
      · cases h; omega
      · cases h; exact Nat.lt_succ_of_le Nat.and_le_right
    · exact Nat.lt_succ_of_lt (eachO_lt n x h)
theorem eachO_ct {b : Nat → Bool} : ∀ n, eachO b n = none ↔ fb_ct b n = 0
  | 0 => by simp [eachO, fb_ct]
  | n + 1 => by
    rw [eachO, fb_ct_succ]
    by_cases h : b n = true
    · rw [if_pos h, if_pos h]
      constructor
      · intro z
        split at z <;> cases z
      · intro z; omega
    · rw [if_neg h, if_neg h]
      exact eachO_ct n
theorem nand7 {x n : Nat} (hx : x < 128) (hn : n < 128) : nI x &&& nI n = nI (x &&& n) := (by decide +kernel : ∀ x, x < 128 → ∀ n, n < 128 → nI x &&& nI n = nI (x &&& n)) x hx n hn
theorem pow_pred : ∀ W, W < 8 → nI (2 ^ W) - 1 = nI (2 ^ W - 1) := by decide
theorem nar0 : vp_nar .boolean 0 = 0 := by decide +kernel
theorem nar1 : vp_nar .boolean 1 = 1 := by decide +kernel
abbrev Gy : Nat → Nat → Nat → Prop := fun k _ j => ¬ (k = 33 ∨ (k = 9 ∧ j = 7))
theorem Gy_all : ∀ k i j, Fall k i j → Gy k i j := by
  intro k i j h
  unfold Fall Fc Fs Fh Ft Fy Fb Fi Fz at h
  show ¬ _
  omega
section TA
variable {P S W c : Nat} {C a : Ab} {u v : Nat → Int32} {M : jw_Mem} {Q : Int32 → jw_Mem → Prop}
abbrev b2 (b : Bool) : Int32 := if b = true then 1 else 0
theorem k_fit (hc : cK M P S W C) (hs : sK M 0 S W a) (hy : yI M P c u v) (h : ∀ M2, agr Gy M M2 → (∀ t, t < 2 ^ W → M2 33 0 t = b2 (ftB C a W u v c t)) → M2 9 0 7 = nI (fb_ct (ftB C a W u v c) (2 ^ W)) → Q 0 M2) : jw_M 2 mX9_fitAll [vr 9 0] M Q := by
  have hW7 := hc.2.1.2.2
  have h128 : 2 ^ W ≤ 128 := pow_le (Nat.le_refl W) hW7
  have hc6 := hy.1.2.2
  refine en_X9_fitAll (en_X1_setsOfWalkers (by decide) ?_)
  rw [hc.1.2.2.1, sh1 W (by omega)]
  -- the loop of counts
  have cK2 : ∀ M2, agr Gy M M2 → cK M2 P S W C := fun M2 f => hc.ag (f.sub (fun k i j z => by show ¬ _; omega))
  have sK2 : ∀ M2, agr Gy M M2 → sK M2 0 S W a := fun M2 f => hs.congr (fun k j hk => f _ _ _ (by show ¬ _; omega))
  have key : ∀ M2, (agr Gy M M2 ∧ ∀ t, t < 2 ^ W → M2 33 0 t = b2 (ftB C a W u v 0 t)) → jw_J 2 mX9_fitAll 41 [(0, vr 9 0), (1, vi (nI (2 ^ W))), (2, vi (nI 0))] [] M2 Q := by
    refine lp_m (S := c) (I := fun i M2 => agr Gy M M2 ∧ ∀ t, t < 2 ^ W → M2 33 0 t = b2 (ftB C a W u v i t)) (J := fun i M2 => jw_J 2 mX9_fitAll 41 [(0, vr 9 0), (1, vi (nI (2 ^ W))), (2, vi (nI i))] [] M2 Q) (fun i M2 hi hI ih => ?_) (fun M2 hI => ?_)
    · obtain ⟨f2, ft2⟩ := hI
      refine bk_X9_fitAll_41 (ge_no ((f2 9 0 6 (by show ¬ _; omega)).trans hy.1.1) hi (by omega) ⟨vp_in_nI (by omega) (by decide), ?_⟩)
      rw [cl_i (by omega), f2 31 0 i (by show ¬ _; omega), (hy.2 i hi).1]
      refine k_under (by decide) (cK2 M2 f2) (sK2 M2 f2) ?_
      refine lp_m (S := 2 ^ W) (I := fun s M3 => agr Gy M M3 ∧ ∀ t, t < 2 ^ W → M3 33 0 t = b2 (ftB C a W u v (if t < s then i + 1 else i) t)) (J := fun s M3 => jw_J 2 mX9_fitAll 66 [(0, vr 9 0), (1, vi (nI (2 ^ W))), (2, vi (nI i)), (3, vi (f_under a W (u i))), (4, vi (nI s))] [] M3 Q) (fun s M3 hsW hI3 ih3 => ?_) (fun M3 hI3 => ?_) M2 ⟨f2, fun t ht => by rw [if_neg (by omega)]; exact ft2 t ht⟩
      · obtain ⟨f3, ft3⟩ := hI3
        have e3 := ft3 s hsW
        rw [if_neg (Nat.lt_irrefl s)] at e3
        refine bk_X9_fitAll_66 (ge_no rfl hsW (by omega) ⟨vp_in_nI (by omega) (by decide), ?_⟩)
        rw [cl_i (by omega), e3, nI_1]
        have hin : vp_in (nI s) 128 := vp_in_nI (by omega) (by decide)
        have nxt : ∀ x, x = b2 (ftB C a W u v (i + 1) s) → jw_J 2 mX9_fitAll 66 [(0, vr 9 0), (1, vi (nI (2 ^ W))), (2, vi (nI i)), (3, vi (f_under a W (u i))), (4, vi (nI (s + 1)))] [] (jw_up M3 33 0 s x) Q := fun x hx => ih3 _ ⟨up_agr f3 (by show ¬ ¬ _; omega), fun t ht => by
          by_cases q : t = s
          · subst q
            rw [up_eq, hx, if_pos (by omega)]
          · rw [up_ne (fun z => q z.2.2), ft3 t ht]
            by_cases q2 : t < s
            · rw [if_pos q2, if_pos (by omega)]
            · rw [if_neg q2, if_neg (by omega)]⟩
        refine b01 (fun z => ?_) (fun z => ?_)
        · refine k_votes (cK2 M3 f3) ⟨vp_in_nI (by omega) (by decide), ?_⟩
          rw [cl_i (by omega), f3 32 0 i (by show ¬ _; omega), (hy.2 i hi).2.2.1]
          refine ⟨fun z2 => ⟨hin, ?_⟩, fun z2 => ⟨hin, ?_⟩⟩
          · rintro _ rfl
            exact nxt _ (by rw [nar0, ftB, decide_eq_false z2, Bool.and_false]; rfl)
          · rintro _ rfl
            exact nxt _ (by rw [nar1, ftB, decide_eq_true z2, z]; rfl)
        · refine ⟨hin, ?_⟩
          rintro _ rfl
          exact nxt _ (by rw [nar0, ftB, Bool.eq_false_iff.mpr z, Bool.false_and]; rfl)
      · refine bk_X9_fitAll_66 (ge_yes rfl ?_)
        rw [nI_1]
        exact ih M3 ⟨hI3.1, fun t ht => by rw [hI3.2 t ht, if_pos ht]⟩
    · obtain ⟨f2, ft2⟩ := hI
      refine bk_X9_fitAll_41 (ge_yes ((f2 9 0 6 (by show ¬ _; omega)).trans hy.1.1) ?_)
      rintro M5 rfl
      refine lp_m (S := 2 ^ W) (I := fun s M3 => agr Gy M M3 ∧ (∀ t, t < 2 ^ W → M3 33 0 t = b2 (ftB C a W u v c t)) ∧ M3 9 0 7 = nI (fb_ct (ftB C a W u v c) s)) (J := fun s M3 => jw_J 2 mX9_fitAll 133 [(0, vr 9 0), (1, vi (nI (2 ^ W))), (2, vi (nI s))] [] M3 Q) (fun s M3 hsW hI3 ih3 => ?_) (fun M3 hI3 => bk_X9_fitAll_133 (ge_yes rfl (h M3 hI3.1 hI3.2.1 hI3.2.2))) _ ⟨up_agr f2 (by show ¬ ¬ _; omega), fun t ht => by rw [up_ne (by omega)]; exact ft2 t ht, up_eq⟩
      obtain ⟨f3, ft3, n3⟩ := hI3
      refine bk_X9_fitAll_133 (ge_no rfl hsW (by omega) ⟨vp_in_nI (by omega) (by decide), ?_⟩)
      rw [cl_i (by omega), ft3 s hsW, nI_1]
      refine b01 (fun z => ?_) (fun z => ih3 M3 ⟨f3, ft3, by rw [n3, fb_ct_succ, if_neg z]; rfl⟩)
      rintro _ rfl
      exact ih3 _ ⟨up_agr f3 (by show ¬ ¬ _; omega), fun t ht => by rw [up_ne (by omega)]; exact ft3 t ht, by rw [up_eq, n3, nI_1, fb_ct_succ, if_pos z]⟩
  refine lp_m (S := 128) (I := fun s M3 => agr Gy M M3 ∧ ∀ t, t < s → t < 2 ^ W → M3 33 0 t = 1) (J := fun s M3 => jw_J 2 mX9_fitAll 10 [(0, vr 9 0), (1, vi (nI (2 ^ W))), (2, vi (nI s))] [] M3 Q) (fun s M3 hs7 hI3 ih3 => ?_) (fun M3 hI3 => bk_X9_fitAll_10 (ge_yes rfl (key M3 ⟨hI3.1, fun t ht => hI3.2 t (by omega) ht⟩))) M ⟨agr.rf, fun t ht _ => absurd ht (Nat.not_lt_zero t)⟩
  refine bk_X9_fitAll_10 (ge_no (W := 128) rfl hs7 (by decide) ⟨fun z => ⟨vp_in_nI hs7 (by decide), ?_⟩, fun z => ⟨vp_in_nI hs7 (by decide), ?_⟩⟩)
  · rintro _ rfl
    rw [cl_i (by omega), nI_1]
    have zz := (nI_leI (by omega) (by omega)).mp z
    exact ih3 _ ⟨up_agr hI3.1 (by show ¬ ¬ _; omega), fun t ht htW => by rw [up_ne (by omega)]; exact hI3.2 t (by omega) htW⟩
  · rintro _ rfl
    rw [cl_i (by omega), nI_1, nar1]
    refine ih3 _ ⟨up_agr hI3.1 (by show ¬ ¬ _; omega), fun t ht htW => ?_⟩
    by_cases q : t = s
    · subst q; exact up_eq
    · rw [up_ne (fun z => q z.2.2)]; exact hI3.2 t (by omega) htW
theorem m_could (hc : cR M P S W C) (hs : sR M S W a) (hy : yI M P c u v) {s : Nat} (h : Q (b2 (ftB C a W u v c s)) M) : jw_M 3 mX11_couldBe [vr 11 0, vi (nI s)] M Q := by
  have hc6 := hy.1.2.2
  have key : ∀ r j, j + r = c → jw_J 3 mX11_couldBe 4 [(0, vr 11 0), (1, vi (nI s)), (2, vi (b2 (ftB C a W u v j s))), (3, vi (nI j))] [] M Q := by
    intro r
    induction r with
    | zero =>
      intro j hj
      obtain rfl : j = c := by omega
      exact bk_X11_couldBe_4 (ge_yes hy.1.2.1 ⟨b_bool, h⟩)
    | succ r ih =>
      intro j hj
      refine bk_X11_couldBe_4 (ge_no hy.1.2.1 (by omega) (by omega) ?_)
      refine b01 (fun z => ⟨vp_in_nI (by omega) (by decide), ?_⟩) (fun z => ⟨b_bool, ?_⟩)
      · rw [cl_i (by omega), (hy.2 j (by omega)).2.1, nI_1]
        refine en_X11_votesOn (m_under hc hs (m_votes hc ⟨vp_in_nI (by omega) (by decide), ?_⟩))
        rw [(hy.2 j (by omega)).2.2.2]
        have ih := ih (j + 1) (by omega)
        refine ⟨fun z2 => ?_, fun z2 => ?_⟩
        · rw [ftB, decide_eq_false z2, Bool.and_false] at ih; exact ih
        · rw [ftB, decide_eq_true z2, z] at ih; exact ih
      · have := ftB_false (Bool.eq_false_iff.mpr z) (r + 1)
        rw [show j + (r + 1) = c by omega] at this
        rw [this] at h
        rw [Bool.eq_false_iff.mpr z]
        exact h
  exact en_X11_couldBe (key c 0 (by omega))
theorem m_many2 (hc : cR M P S W C) (hs : sR M S W a) (hy : yI M P c u v) (h : Q (nI (fb_ct (ftB C a W u v c) (2 ^ W))) M) : jw_M 4 mX11_manyThat [vr 11 0] M Q := by
  have hW7 := hc.2.1.2.2
  have h128 : 2 ^ W ≤ 128 := pow_le (Nat.le_refl W) hW7
  have e : (1 : Int32) <<< ((M 11 0 7) &&& 31) = nI (2 ^ W) := by rw [hc.1.2.2.1, sh1 W (by omega)]
  refine en_X11_manyThat ?_
  refine lp_up (P := fun j => jw_J 4 mX11_manyThat 4 [(0, vr 11 0), (1, vi (nI (fb_ct (ftB C a W u v c) j))), (2, vi (nI j))] [] M Q) (2 ^ W) (bk_X11_manyThat_4 (ge_yes e h)) (fun j hj ih => ?_)
  refine bk_X11_manyThat_4 (ge_no e hj (by omega) (m_could hc hs hy ?_))
  rw [fb_ct_succ] at ih
  rw [nI_1]
  refine b01 (fun z => ?_) (fun z => ?_)
  · rw [if_pos z] at ih; rw [nI_1]; exact ih
  · rw [if_neg z] at ih; rw [i_add0]; exact ih
theorem k_each {b : Nat → Bool} (hc : cK M P S W C) (hf : ∀ t, t < 2 ^ W → M 33 0 t = b2 (b t)) (hn : M 9 0 7 = nI (fb_ct b (2 ^ W))) (h : Q (match eachO b (2 ^ W) with | none => -1 | some x => nI x) M) : jw_M 1 mX9_inEach [vr 9 0] M Q := by
  have hW7 := hc.2.1.2.2
  have h128 : 2 ^ W ≤ 128 := pow_le (Nat.le_refl W) hW7
  refine en_X9_inEach (en_X1_setsOfWalkers (by decide) ?_)
  rw [hc.1.2.2.1, sh1 W (by omega), pow_pred W (by omega)]
  refine lp_up (P := fun j => jw_J 1 mX9_inEach 14 [(0, vr 9 0), (1, vi (nI (2 ^ W))), (2, vi (match eachO b j with | none => nI (2 ^ W - 1) | some x => nI x)), (3, vi (nI j))] [] M Q) (2 ^ W) (bk_X9_inEach_14 (ge_yes rfl ?_)) (fun j hj ih => ?_)
  · have hl := fb_ct_le b (2 ^ W)
    rw [hn]
    refine ⟨fun z => ?_, fun z => ?_⟩
    · have : ¬ eachO b (2 ^ W) = none := fun y => z (by rw [(eachO_ct _).mp y]; rfl)
      generalize eachO b (2 ^ W) = o at this h ⊢
      cases o with
      | none => exact absurd rfl this
      | some x => exact h
    · have z0 : fb_ct b (2 ^ W) = 0 := (nI_eq (by omega) (by decide)).mp z
      rw [(eachO_ct _).mpr z0] at h
      exact h
  · refine bk_X9_inEach_14 (ge_no rfl hj (by omega) ⟨vp_in_nI (by omega) (by decide), ?_⟩)
    rw [cl_i (by omega), hf j hj, nI_1]
    have hl := eachO_lt (b := b) j
    rw [eachO] at ih
    refine b01 (fun z => ?_) (fun z => ?_)
    · rw [if_pos z] at ih
      generalize eachO b j = o at ih hl ⊢
      cases o with
      | none =>
        have e : nI (2 ^ W - 1) &&& nI j = nI j := by
          rw [nand7 (by omega) (by omega), Nat.and_comm, Nat.and_two_pow_sub_one_eq_mod, Nat.mod_eq_of_lt hj]
        show jw_J 1 mX9_inEach 14 [(0, vr 9 0), (1, vi (nI (2 ^ W))), (2, vi (nI (2 ^ W - 1) &&& nI j)), (3, vi (nI (j + 1)))] [] M Q
        rw [e]
        exact ih
      | some x =>
        have := hl x rfl
        show jw_J 1 mX9_inEach 14 [(0, vr 9 0), (1, vi (nI (2 ^ W))), (2, vi (nI x &&& nI j)), (3, vi (nI (j + 1)))] [] M Q
        rw [nand7 (by omega) (by omega)]
        exact ih
    · rw [if_neg z] at ih
      exact ih
theorem m_each (hc : cR M P S W C) (hs : sR M S W a) (hy : yI M P c u v) {a1 : Int32} (h1 : ¬ a1 = 0 → Q (match eachO (ftB C a W u v c) (2 ^ W) with | none => -1 | some x => nI x) M) (h2 : a1 = 0 → Q (nI (fb_ct (ftB C a W u v c) (2 ^ W))) M) : jw_J 5 mX11_likings 17 [(0, vr 11 0), (1, vi a1), (2, vi (-1)), (3, vi (nI 0))] [] M Q := by
  have hW7 := hc.2.1.2.2
  have h128 : 2 ^ W ≤ 128 := pow_le (Nat.le_refl W) hW7
  have e : (1 : Int32) <<< ((M 11 0 7) &&& 31) = nI (2 ^ W) := by rw [hc.1.2.2.1, sh1 W (by omega)]
  refine lp_up (P := fun j => jw_J 5 mX11_likings 17 [(0, vr 11 0), (1, vi a1), (2, vi (match eachO (ftB C a W u v c) j with | none => -1 | some x => nI x)), (3, vi (nI j))] [] M Q) (2 ^ W) (bk_X11_likings_17 (ge_yes e ⟨h1, fun z => m_many2 hc hs hy (h2 z)⟩)) (fun j hj ih => ?_)
  refine bk_X11_likings_17 (ge_no e hj (by omega) (m_could hc hs hy ?_))
  have hl := eachO_lt (b := ftB C a W u v c) j
  rw [eachO] at ih
  rw [nI_1]
  refine b01 (fun z => ?_) (fun z => ?_)
  · rw [if_pos z] at ih
    generalize eachO (ftB C a W u v c) j = o at ih hl ⊢
    cases o with
    | none => exact ⟨fun y => absurd y (by decide), fun _ => ih⟩
    | some x =>
      have := hl x rfl
      refine ⟨fun _ => ?_, fun y => absurd (nI_pos' (by omega)) y⟩
      show jw_J 5 mX11_likings 17 [(0, vr 11 0), (1, vi a1), (2, vi (nI x &&& nI j)), (3, vi (nI (j + 1)))] [] M Q
      rw [nand7 (by omega) (by omega)]
      exact ih
  · rw [if_neg z] at ih
    exact ih
end TA
theorem t_likings (a1 : Int32) : Both 3 mX10_likings 5 mX11_likings [vi a1] := by
  intro M I
  obtain ⟨P, S, W, C, a, U, h0, L, x, c, u, v, b, p, q, kp, im, dr, hc, hs, hh, ht, hy, hb, hi, hd⟩ := id I
  have hout : ¬ (0 ≤ a1 ∧ a1 ≤ 1) → jw_M 5 mX11_likings [vr 11 0, vi a1] M (fun y M2 => -1000000002 = y ∧ Inv M2) := fun z => by
    refine en_X11_likings (r_in2 (lo' := 0) (hi' := 1) (by decide) (by decide) ?_)
    rw [if_neg z]
    exact ⟨fun z => absurd rfl z, fun _ => ⟨rfl, I⟩⟩
  refine en_X10_likings ⟨fun z => hout (fun y => absurd y.1 (Int32.not_le.mpr z)), fun z => ⟨fun z2 => ?_, fun z2 => hout (fun y => z2 y.2)⟩⟩
  refine k_fit hc.1 hs.1 hy (fun M2 f2 g2 n2 => ?_)
  have fa : agr Fall M M2 := f2.sub Gy_all
  have I2 : Inv M2 := I.fr fa
  have hc2 : cI M2 P S W C := hc.fr (fa.sub (fun k i j z => Or.inl z))
  have hs2 : sI M2 P S W a := hs.fr (fa.sub (fun k i j z => Or.inr (Or.inl z)))
  have hy2 : yI M2 P c u v := hy.fr (fa.sub (fun k i j z => Or.inr (Or.inr (Or.inr (Or.inr (Or.inl z))))))
  have mod : ∀ (Q : Int32 → jw_Mem → Prop), (¬ a1 = 0 → Q (match eachO (ftB C a W u v c) (2 ^ W) with | none => -1 | some x => nI x) M2) → (a1 = 0 → Q (nI (fb_ct (ftB C a W u v c) (2 ^ W))) M2) → jw_M 5 mX11_likings [vr 11 0, vi a1] M2 Q := fun Q q1 q2 => by
    refine en_X11_likings (r_in2 (lo' := 0) (hi' := 1) (by decide) (by decide) ?_)
    rw [if_pos ⟨Int32.not_lt.mp z, z2⟩]
    exact ⟨fun _ => m_each hc2.2.1 hs2.2.1 hy2 q1 q2, fun z => absurd z (by decide)⟩
  refine ⟨fun z3 => k_each hc2.1 g2 n2 (mod _ (fun _ => ⟨rfl, I2⟩) (fun y => absurd y z3)), fun z3 => ?_⟩
  exact mod _ (fun y => absurd z3 y) (fun _ => ⟨n2, I2⟩)
