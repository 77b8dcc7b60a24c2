/-! ===== which plinth to count next ===== -/
def cnP (b : Nat → Bool) (sm : Nat → Nat) (s : Nat) : Nat → Nat := fb_ct (fun t => b t && decide (sm t = s))
def grP (b : Nat → Bool) (sm : Nat → Nat) : Nat → Nat
  | 0 => 0
  | n + 1 => if b n = true then Nat.max (grP b sm n) (cnP b sm (sm n) (n + 1)) else grP b sm n
theorem grP_le {b : Nat → Bool} {sm : Nat → Nat} : ∀ n, grP b sm n ≤ n
  | 0 => Nat.le_refl 0
  | n + 1 => by
    rw [grP]
    split
    · exact Nat.max_le.mpr ⟨Nat.le_succ_of_le (grP_le n), fb_ct_le _ _⟩
    · exact Nat.le_succ_of_le (grP_le n)
def f_sm (C a : Ab) (W : Nat) (p : Int32) (t : Nat) : Nat := (f_votes C W (nI t &&& f_under a W p)).toNatClampNeg
theorem votes_sm {P S W : Nat} {C : Ab} (hw : cW P S W C) (x : Int32) : ∀ k, k ≤ W → ∃ n : Nat, n ≤ 9 * k ∧ sp_votes (C 3) x k = nI n
  | 0, _ => ⟨0, Nat.le_refl 0, rfl⟩
  | k + 1, h => by
    obtain ⟨n, hn, e⟩ := votes_sm hw x k (by omega)
    obtain ⟨t, ht1, ht9, et⟩ := hw.1 k (by omega)
    rw [sp_votes]
    split
    · exact ⟨n + t, by omega, by rw [e, et, nI_add]⟩
    · exact ⟨n, by omega, e⟩
theorem sm_ok {P S W : Nat} {C a : Ab} (hw : cW P S W C) (hW : W ≤ 7) (p : Int32) (t : Nat) : f_votes C W (nI t &&& f_under a W p) = nI (f_sm C a W p t) ∧ f_sm C a W p t < 64 := by
  obtain ⟨n, hn, e⟩ := votes_sm hw (nI t &&& f_under a W p) W (Nat.le_refl W)
  have e2 : f_sm C a W p t = n := by
    unfold f_sm f_votes
    rw [e, cl_i (by omega)]
  exact ⟨by rw [e2]; exact e, by omega⟩
theorem max_i {g n : Nat} (hg : g < 2 ^ 31) (hn : n < 2 ^ 31) : (if nI g < nI n then nI n else nI g) = nI (Nat.max g n) := by
  by_cases h : g < n
  · rw [if_pos ((nI_ltI hg hn).mpr h)]
    show nI n = nI (max g n)
    rw [Nat.max_eq_right (by omega)]
  · rw [if_neg (fun z => h ((nI_ltI hg hn).mp z))]
    show nI g = nI (max g n)
    rw [Nat.max_eq_left (by omega)]
theorem cn_step {b : Nat → Bool} {sm : Nat → Nat} {j s : Nat} (h : ¬ (b j = true ∧ sm j = s)) : cnP b sm s (j + 1) = cnP b sm s j := by
  unfold cnP
  rw [fb_ct_succ, if_neg (fun z => h (by simpa using z))]
  rfl
theorem cn_step2 {b : Nat → Bool} {sm : Nat → Nat} {j : Nat} (h : b j = true) : cnP b sm (sm j) (j + 1) = cnP b sm (sm j) j + 1 := by
  unfold cnP
  rw [fb_ct_succ, if_pos (by simp [h])]
def bpP (g : Nat → Nat) (n : Nat) : Nat → Int32 × Nat
  | 0 => (-1, n)
  | p + 1 => if g p < (bpP g n p).2 then (nI p, g p) else bpP g n p
theorem bpP_le {g : Nat → Nat} {n : Nat} : ∀ p, (bpP g n p).2 ≤ n
  | 0 => Nat.le_refl n
  | p + 1 => by
    have := bpP_le (g := g) (n := n) p
    rw [bpP]
    split
    · show g p ≤ n
      omega
    · exact this
section LA
variable {P S W c : Nat} {C a : Ab} {u v : Nat → Int32} {M : jw_Mem} {Q : Int32 → jw_Mem → Prop}
theorem k_part {b : Nat → Bool} (hc : cK M P S W C) (hw : cW P S W C) (hs : sK M 0 S W a) (hf : ∀ t, t < 2 ^ W → M 33 0 t = b2 (b t)) {p : Int32} (h : ∀ M2, agr (fun k _ _ => k ≠ 34) M M2 → Q (nI (grP b (f_sm C a W p) (2 ^ W))) M2) : jw_M 2 mX9_greatestPart [vr 9 0, vi p] M Q := by
  have hW7 := hc.2.1.2.2
  have h128 : 2 ^ W ≤ 128 := pow_le (Nat.le_refl W) hW7
  have cK2 : ∀ M2, agr (fun k _ _ => k ≠ 34) M M2 → cK M2 P S W C := fun M2 f => hc.ag (f.sub (fun k i j z => by omega))
  have sK2 : ∀ M2, agr (fun k _ _ => k ≠ 34) M M2 → sK M2 0 S W a := fun M2 f => hs.congr (fun k j hk => f _ _ _ (by omega))
  refine en_X9_greatestPart ?_
  refine lp_m (S := 64) (I := fun s M3 => agr (fun k _ _ => k ≠ 34) M M3 ∧ ∀ t, t < s → M3 34 0 t = 0) (J := fun s M3 => jw_J 2 mX9_greatestPart 2 [(0, vr 9 0), (1, vi p), (2, vi (nI s))] [] M3 Q) (fun s M3 hs6 hI3 ih3 => ?_) (fun M3 hI3 => ?_) M ⟨agr.rf, fun t ht => absurd ht (Nat.not_lt_zero t)⟩
  · refine bk_X9_greatestPart_2 (ge_no (W := 64) rfl hs6 (by decide) ⟨vp_in_nI hs6 (by decide), ?_⟩)
    rintro _ rfl
    rw [cl_i (by omega), nI_1]
    refine ih3 _ ⟨up_agr hI3.1 (by omega), fun t ht => ?_⟩
    by_cases q : t = s
    · subst q; exact up_eq
    · rw [up_ne (fun z => q z.2.2)]; exact hI3.2 t (by omega)
  · refine bk_X9_greatestPart_2 (ge_yes (W := 64) rfl (k_under (by decide) (cK2 M3 hI3.1) (sK2 M3 hI3.1) ?_))
    refine lp_m (S := 2 ^ W) (I := fun s M4 => agr (fun k _ _ => k ≠ 34) M M4 ∧ ∀ t, t < 64 → M4 34 0 t = nI (cnP b (f_sm C a W p) t s)) (J := fun s M4 => jw_J 2 mX9_greatestPart 35 [(0, vr 9 0), (2, vi (f_under a W p)), (3, vi (nI (grP b (f_sm C a W p) s))), (4, vi (nI s))] [] M4 Q) (fun s M4 hsW hI4 ih4 => ?_) (fun M4 hI4 => ?_) M3 ⟨hI3.1, fun t ht => by rw [hI3.2 t ht]; rfl⟩
    · have hc4 := cK2 M4 hI4.1
      obtain ⟨ev, es⟩ := sm_ok (a := a) hw hW7 p s
      refine bk_X9_greatestPart_35 (en_X1_setsOfWalkers (by decide) ?_)
      rw [hc4.1.2.2.1, sh1 W (by omega)]
      refine ge_no rfl hsW (by omega) (k_votes hc4 ⟨vp_in_nI (by omega) (by decide), ?_⟩)
      rw [cl_i (by omega), hI4.1 33 0 s (by omega), hf s hsW, ev, nI_1]
      generalize hm : f_sm C a W p s = m at ev es ⊢
      refine b01 (fun z => ⟨fun y => absurd y (nI_pos (by omega)), fun _ => ⟨fun y => absurd y (nI_ge (b := 64) es (by decide)), fun _ => ⟨vp_in_nI es (by decide), vp_in_nI es (by decide), ?_⟩⟩⟩) (fun z => ?_)
      · rintro M5 hM5
        refine ⟨vp_in_nI es (by decide), ?_⟩
        rw [cl_i (by omega)] at hM5 ⊢
        have v5 : M5 34 0 m = nI (cnP b (f_sm C a W p) m (s + 1)) := by
          rw [hM5, up_eq, hI4.2 m es, nI_1, ← hm, cn_step2 z]
        have l1 := grP_le (b := b) (sm := f_sm C a W p) s
        have l2 : cnP b (f_sm C a W p) m (s + 1) ≤ s + 1 := fb_ct_le _ _
        rw [v5, max_i (by omega) (by omega)]
        have := ih4 M5 ⟨hM5 ▸ up_agr hI4.1 (by omega), fun t ht => by
          by_cases q : t = m
          · subst q; exact v5
          · rw [hM5, up_ne (fun y => q y.2.2), hI4.2 t ht, cn_step (fun y => q (by rw [← hm]; exact y.2.symm))]⟩
        rw [grP, if_pos z, hm] at this
        exact this
      · have := ih4 M4 ⟨hI4.1, fun t ht => by rw [hI4.2 t ht, cn_step (fun y => z y.1)]⟩
        rw [grP, if_neg z] at this
        exact this
    · have hc4 := cK2 M4 hI4.1
      refine bk_X9_greatestPart_35 (en_X1_setsOfWalkers (by decide) ?_)
      rw [hc4.1.2.2.1, sh1 W (by omega)]
      exact ge_yes rfl (h M4 hI4.1)
theorem m_part (hc : cR M P S W C) (hw : cW P S W C) (hs : sR M S W a) (hy : yI M P c u v) {p : Int32} (h : ∀ M2, agr (fun k _ _ => k ≠ 57) M M2 → Q (nI (grP (ftB C a W u v c) (f_sm C a W p) (2 ^ W))) M2) : jw_M 4 mX11_greatestPart [vr 11 0, vi p] M Q := by
  have hW7 := hc.2.1.2.2
  have hS6 := hc.2.1.2.1
  have h128 : 2 ^ W ≤ 128 := pow_le (Nat.le_refl W) hW7
  have cR2 : ∀ M2, agr (fun k _ _ => k ≠ 57) M M2 → cR M2 P S W C := fun M2 f => hc.ag (f.sub (fun k i j z => by omega))
  have sR2 : ∀ M2, agr (fun k _ _ => k ≠ 57) M M2 → sR M2 S W a := fun M2 f => sG.congr (f := M 43 0) hs hS6 hW7 (fun j _ => f _ _ _ (by omega))
  have yI2 : ∀ M2, agr (fun k _ _ => k ≠ 57) M M2 → yI M2 P c u v := fun M2 f => hy.fr (f.sub (fun k i j z => by unfold Fy at z; omega))
  have e : ∀ M2, agr (fun k _ _ => k ≠ 57) M M2 → (1 : Int32) <<< ((M2 11 0 7) &&& 31) = nI (2 ^ W) := fun M2 f => by rw [f 11 0 7 (by decide), hc.1.2.2.1, sh1 W (by omega)]
  refine en_X11_greatestPart ?_
  refine lp_m (S := 64) (I := fun s M3 => agr (fun k _ _ => k ≠ 57) M M3 ∧ ∀ t, t < s → M3 57 0 t = 0) (J := fun s M3 => jw_J 4 mX11_greatestPart 4 [(0, vr 11 0), (1, vi p), (2, vi 0), (3, vi (nI s))] [] M3 Q) (fun s M3 hs6 hI3 ih3 => ?_) (fun M3 hI3 => ?_) M ⟨agr.rf, fun t ht => absurd ht (Nat.not_lt_zero t)⟩
  · refine bk_X11_greatestPart_4 (ge_no (W := 64) rfl hs6 (by decide) ⟨vp_in_nI hs6 (by decide), ?_⟩)
    rintro _ rfl
    rw [cl_i (by omega), nI_1]
    refine ih3 _ ⟨up_agr hI3.1 (by omega), fun t ht => ?_⟩
    by_cases q : t = s
    · subst q; exact up_eq
    · rw [up_ne (fun z => q z.2.2)]; exact hI3.2 t (by omega)
  · refine bk_X11_greatestPart_4 (ge_yes (W := 64) rfl ?_)
    refine lp_m (S := 2 ^ W) (I := fun s M4 => agr (fun k _ _ => k ≠ 57) M M4 ∧ ∀ t, t < 64 → M4 57 0 t = nI (cnP (ftB C a W u v c) (f_sm C a W p) t s)) (J := fun s M4 => jw_J 4 mX11_greatestPart 25 [(0, vr 11 0), (1, vi p), (2, vi (nI (grP (ftB C a W u v c) (f_sm C a W p) s))), (3, vi (nI s))] [] M4 Q) (fun s M4 hsW hI4 ih4 => ?_) (fun M4 hI4 => bk_X11_greatestPart_25 (ge_yes (e M4 hI4.1) (h M4 hI4.1))) M3 ⟨hI3.1, fun t ht => by rw [hI3.2 t ht]; rfl⟩
    have hc4 := cR2 M4 hI4.1
    obtain ⟨ev, es⟩ := sm_ok (a := a) hw hW7 p s
    refine bk_X11_greatestPart_25 (ge_no (e M4 hI4.1) hsW (by omega) (m_could hc4 (sR2 M4 hI4.1) (yI2 M4 hI4.1) ?_))
    rw [nI_1]
    refine b01 (fun z => en_X11_votesOn (m_under hc4 (sR2 M4 hI4.1) (m_votes hc4 ?_))) (fun z => ?_)
    · rw [ev]
      generalize hm : f_sm C a W p s = m at ev es ⊢
      refine ⟨vp_in_nI es (by decide), vp_in_nI es (by decide), ?_⟩
      rintro M5 hM5
      refine ⟨vp_in_nI es (by decide), ?_⟩
      rw [cl_i (by omega)] at hM5 ⊢
      have v5 : M5 57 0 m = nI (cnP (ftB C a W u v c) (f_sm C a W p) m (s + 1)) := by
        rw [hM5, up_eq, hI4.2 m es, nI_1, ← hm, cn_step2 z]
      have l1 := grP_le (b := ftB C a W u v c) (sm := f_sm C a W p) s
      have l2 : cnP (ftB C a W u v c) (f_sm C a W p) m (s + 1) ≤ s + 1 := fb_ct_le _ _
      have := ih4 M5 ⟨hM5 ▸ up_agr hI4.1 (by omega), fun t ht => by
        by_cases q : t = m
        · subst q; exact v5
        · rw [hM5, up_ne (fun y => q y.2.2), hI4.2 t ht, cn_step (fun y => q (by rw [← hm]; exact y.2.symm))]⟩
      rw [grP, if_pos z, hm, ← max_i (by omega) (by omega)] at this
      rw [v5]
      refine ⟨fun y => ?_, fun y => ⟨vp_in_nI es (by decide), ?_⟩⟩
      · rw [if_neg (Int32.not_lt.mpr y)] at this; exact this
      · rw [if_pos (Int32.not_le.mp y)] at this; exact this
    · have := ih4 M4 ⟨hI4.1, fun t ht => by rw [hI4.2 t ht, cn_step (fun y => z y.1)]⟩
      rw [grP, if_neg z] at this
      exact this
theorem k_best {b : Nat → Bool} (hc : cK M P S W C) (hw : cW P S W C) (hs : sK M 0 S W a) (hf : ∀ t, t < 2 ^ W → M 33 0 t = b2 (b t)) (hn : M 9 0 7 = nI (fb_ct b (2 ^ W))) (h : ∀ M2, agr (fun k _ _ => k ≠ 34) M M2 → Q (bpP (fun p => grP b (f_sm C a W (nI p)) (2 ^ W)) (fb_ct b (2 ^ W)) P).1 M2) : jw_M 3 mX9_bestPlinth [vr 9 0] M Q := by
  have hW7 := hc.2.1.2.2
  have hP5 := hc.2.1.1
  have h128 : 2 ^ W ≤ 128 := pow_le (Nat.le_refl W) hW7
  have cK2 : ∀ M2, agr (fun k _ _ => k ≠ 34) M M2 → cK M2 P S W C := fun M2 f => hc.ag (f.sub (fun k i j z => by omega))
  have sK2 : ∀ M2, agr (fun k _ _ => k ≠ 34) M M2 → sK M2 0 S W a := fun M2 f => hs.congr (fun k j hk => f _ _ _ (by omega))
  refine en_X9_bestPlinth ?_
  rw [hn]
  refine lp_m (S := P) (I := fun _ M3 => agr (fun k _ _ => k ≠ 34) M M3) (J := fun p M3 => jw_J 3 mX9_bestPlinth 9 [(0, vr 9 0), (1, vi (bpP (fun p => grP b (f_sm C a W (nI p)) (2 ^ W)) (fb_ct b (2 ^ W)) p).1), (2, vi (nI (bpP (fun p => grP b (f_sm C a W (nI p)) (2 ^ W)) (fb_ct b (2 ^ W)) p).2)), (3, vi (nI p))] [] M3 Q) (fun p M3 hp f3 ih => ?_) (fun M3 f3 => bk_X9_bestPlinth_9 (ge_yes (cK2 M3 f3).1.1 (h M3 f3))) M agr.rf
  refine bk_X9_bestPlinth_9 (ge_no (cK2 M3 f3).1.1 hp (by omega) (k_part (cK2 M3 f3) hw (sK2 M3 f3) (fun t ht => (f3 _ _ _ (by omega)).trans (hf t ht)) (fun M4 f4 => ?_)))
  have ih := ih M4 (f3.tr f4)
  rw [nI_1]
  have l1 := grP_le (b := b) (sm := f_sm C a W (nI p)) (2 ^ W)
  have l2 := bpP_le (g := fun p => grP b (f_sm C a W (nI p)) (2 ^ W)) (n := fb_ct b (2 ^ W)) p
  have l3 := fb_ct_le b (2 ^ W)
  rw [bpP] at ih
  refine ⟨fun z => ?_, fun z => ?_⟩
  · rw [if_neg (by have := (nI_leI (by omega) (by omega)).mp z; omega)] at ih; exact ih
  · rw [if_pos (Decidable.byContradiction (fun y => z (nI_le (by omega) (by omega))))] at ih; exact ih
theorem m_best (hc : cR M P S W C) (hw : cW P S W C) (hs : sR M S W a) (hy : yI M P c u v) (h : ∀ M2, agr (fun k _ _ => k ≠ 57) M M2 → Q (bpP (fun p => grP (ftB C a W u v c) (f_sm C a W (nI p)) (2 ^ W)) (fb_ct (ftB C a W u v c) (2 ^ W)) P).1 M2) : jw_M 5 mX11_ladder [vr 11 0] M Q := by
  have hW7 := hc.2.1.2.2
  have hS6 := hc.2.1.2.1
  have hP5 := hc.2.1.1
  have h128 : 2 ^ W ≤ 128 := pow_le (Nat.le_refl W) hW7
  have cR2 : ∀ M2, agr (fun k _ _ => k ≠ 57) M M2 → cR M2 P S W C := fun M2 f => hc.ag (f.sub (fun k i j z => by omega))
  have sR2 : ∀ M2, agr (fun k _ _ => k ≠ 57) M M2 → sR M2 S W a := fun M2 f => sG.congr (f := M 43 0) hs hS6 hW7 (fun j _ => f _ _ _ (by omega))
  have yI2 : ∀ M2, agr (fun k _ _ => k ≠ 57) M M2 → yI M2 P c u v := fun M2 f => hy.fr (f.sub (fun k i j z => by unfold Fy at z; omega))
  generalize hb : ftB C a W u v c = b at h
  refine en_X11_ladder (m_many2 hc hs hy ?_)
  rw [hb]
  refine lp_m (S := P) (I := fun _ M3 => agr (fun k _ _ => k ≠ 57) M M3) (J := fun p M3 => jw_J 5 mX11_ladder 9 [(0, vr 11 0), (1, vi (bpP (fun p => grP b (f_sm C a W (nI p)) (2 ^ W)) (fb_ct b (2 ^ W)) p).1), (2, vi (nI (bpP (fun p => grP b (f_sm C a W (nI p)) (2 ^ W)) (fb_ct b (2 ^ W)) p).2)), (3, vi (nI p))] [] M3 Q) (fun p M3 hp f3 ih => ?_) (fun M3 f3 => bk_X11_ladder_9 (ge_yes (cR2 M3 f3).1.1 (h M3 f3))) M agr.rf
  refine bk_X11_ladder_9 (ge_no (cR2 M3 f3).1.1 hp (by omega) (m_part (cR2 M3 f3) hw (sR2 M3 f3) (yI2 M3 f3) (fun M4 f4 => ?_)))
  rw [hb]
  have ih := ih M4 (f3.tr f4)
  rw [nI_1]
  have l1 := grP_le (b := b) (sm := f_sm C a W (nI p)) (2 ^ W)
  have l2 := bpP_le (g := fun p => grP b (f_sm C a W (nI p)) (2 ^ W)) (n := fb_ct b (2 ^ W)) p
  have l3 := fb_ct_le b (2 ^ W)
  rw [bpP] at ih
  refine ⟨fun z => ⟨fun _ => ?_, fun y => absurd z y⟩, fun z => ⟨fun y => absurd y z, fun _ => ?_⟩⟩
  · rw [if_neg (by have := (nI_leI (by omega) (by omega)).mp z; omega)] at ih; exact ih
  · rw [if_pos (Decidable.byContradiction (fun y => z (nI_le (by omega) (by omega))))] at ih; exact ih
end LA
theorem t_ladder : Both 4 mX10_ladder 5 mX11_ladder [] := by
  intro M I
  obtain ⟨P, S, W, C, a, U, h0, L, x, c, u, v, b, p, q, kp, im, dr, hc, hs, hh, ht, hy, hb, hi, hd⟩ := id I
  refine en_X10_ladder (k_fit hc.1 hs.1 hy (fun M2 f2 g2 n2 => ?_))
  have fa : agr Fall M M2 := f2.sub Gy_all
  have hc2 : cI M2 P S W C := hc.fr (fa.sub (fun k i j z => Or.inl z))
  have hs2 : sI M2 P S W a := hs.fr (fa.sub (fun k i j z => Or.inr (Or.inl z)))
  refine k_best hc2.1 hc.2.2 hs2.1 g2 n2 (fun M3 f3 => ?_)
  have fb : agr Fall M M3 := fa.tr (f3.sub (fun k i j h => by
    unfold Fall Fc Fs Fh Ft Fy Fb Fi Fz at h
    omega))
  have hc3 : cI M3 P S W C := hc.fr (fb.sub (fun k i j z => Or.inl z))
  have hs3 : sI M3 P S W a := hs.fr (fb.sub (fun k i j z => Or.inr (Or.inl z)))
  have hy3 : yI M3 P c u v := hy.fr (fb.sub (fun k i j z => Or.inr (Or.inr (Or.inr (Or.inr (Or.inl z))))))
  refine m_best hc3.2.1 hc.2.2 hs3.2.1 hy3 (fun M4 f4 => ⟨rfl, I.fr (fb.tr (f4.sub (fun k i j h => ?_)))⟩)
  unfold Fall Fc Fs Fh Ft Fy Fb Fi Fz at h
  omega
