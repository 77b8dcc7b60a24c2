/-! ===== reading a text: the model ===== -/
def tR (M : jw_Mem) (x : Nat → Int32) (L : Nat) : Prop := M 11 0 14 = nI L ∧ L ≤ 240 ∧ ∀ i, i < L → M 44 0 i = x i ∧ 0 ≤ x i
def dR (M : jw_Mem) (D : DS) : Prop := (M 11 0 19 = nI D.T ∧ M 11 0 20 = nI D.P ∧ M 11 0 22 = nI D.S ∧ M 11 0 26 = nI D.W) ∧ (∀ j, j < D.P → M 45 0 j = D.A 0 j) ∧ (∀ j, j < D.S → M 46 0 j = D.A 1 j ∧ M 48 0 j = D.A 2 j ∧ M 47 0 j = D.A 5 j) ∧ (∀ j, j < D.W → M 50 0 j = D.A 3 j ∧ M 49 0 j = D.A 6 j ∧ M 51 0 j = D.A 7 j)
abbrev H1 : Nat → Nat → Nat → Prop := fun k _ j => ¬ (k = 11 ∧ j = 16)
abbrev Hn : Nat → Nat → Nat → Prop := fun k _ j => ¬ (k = 11 ∧ 15 ≤ j ∧ j ≤ 18)
abbrev Hm : Nat → Nat → Nat → Prop := fun k _ j => ¬ ((k = 11 ∧ 15 ≤ j ∧ j ≤ 26) ∨ (45 ≤ k ∧ k ≤ 51))
theorem agr.h1 {M M2 : jw_Mem} (f : agr H1 M M2) : agr Hn M M2 := f.sub (fun k i j (z : ¬ _) => by show ¬ _; omega)
theorem agr.hn {M M2 : jw_Mem} (f : agr Hn M M2) : agr Hm M M2 := f.sub (fun k i j (z : ¬ _) => by show ¬ _; omega)
theorem tR.ag {M M2 : jw_Mem} {x : Nat → Int32} {L : Nat} (h : tR M x L) (f : agr Hm M M2) : tR M2 x L := ⟨(f 11 0 14 (by show ¬ _; omega)).trans h.1, h.2.1, fun i hi => ⟨(f 44 0 i (by show ¬ _; omega)).trans (h.2.2 i hi).1, (h.2.2 i hi).2⟩⟩
theorem dR.ag {M M2 : jw_Mem} {D : DS} (h : dR M D) (f : agr Hn M M2) : dR M2 D := by
  obtain ⟨⟨h1, h2, h3, h4⟩, h5, h6, h7⟩ := h
  have g : ∀ k j, ¬ (k = 11 ∧ 15 ≤ j ∧ j ≤ 18) → M2 k 0 j = M k 0 j := fun k j hk => f k 0 j hk
  exact ⟨⟨(g _ _ (by omega)).trans h1, (g _ _ (by omega)).trans h2, (g _ _ (by omega)).trans h3, (g _ _ (by omega)).trans h4⟩, fun j hj => (g _ _ (by omega)).trans (h5 j hj), fun j hj => ⟨(g _ _ (by omega)).trans (h6 j hj).1, (g _ _ (by omega)).trans (h6 j hj).2.1, (g _ _ (by omega)).trans (h6 j hj).2.2⟩, fun j hj => ⟨(g _ _ (by omega)).trans (h7 j hj).1, (g _ _ (by omega)).trans (h7 j hj).2.1, (g _ _ (by omega)).trans (h7 j hj).2.2⟩⟩
abbrev PM (M : jw_Mem) (Q : Int32 → jw_Mem → Prop) (r : Except Er (Nat × DS)) : Prop := (∀ c w, r = .error (c, w) → ∀ M2, agr Hm M M2 → M2 11 0 15 = nI w → 1 ≤ c → c ≤ 4 → Q (nI c) M2) ∧ (∀ j D', r = .ok (j, D') → ∀ M2, agr Hm M M2 → M2 11 0 16 = nI j → M2 11 0 15 = M 11 0 15 → dR M2 D' → Q 0 M2)
section RM
variable {x : Nat → Int32} {L i : Nat} {D : DS} {M : jw_Mem} {Q : Int32 → jw_Mem → Prop}
theorem m_here (ht : tR M x L) (ha : M 11 0 16 = nI i) (hi : i ≤ L) (h : ∀ M2, agr H1 M M2 → M2 11 0 16 = nI (skp x L i) → Q (hr x L (skp x L i)) M2) : jw_M 0 mX11_here [vr 11 0] M Q := by
  have hL := ht.2.1
  have key : ∀ r j M2, j + r = L → agr H1 M M2 → M2 11 0 16 = nI j → (∀ M3, agr H1 M M3 → M3 11 0 16 = nI (skR x r j) → Q (hr x L (skR x r j)) M3) → jw_J 0 mX11_here 0 [(0, vr 11 0)] [] M2 Q := by
    intro r
    induction r with
    | zero =>
      intro j M2 hj f e hq
      obtain rfl : j = L := by omega
      have t2 := ht.ag f.h1.hn
      have hq2 := hq M2 f e
      rw [skR] at hq2
      unfold hr at hq2
      rw [if_neg (Nat.lt_irrefl _)] at hq2
      refine bk_X11_here_0 ?_
      rw [e, t2.1]
      exact ⟨fun _ => ⟨fun _ => hq2, fun z => absurd (Int32.le_refl _) z⟩, fun z => absurd (Int32.le_refl _) z⟩
    | succ r ih =>
      intro j M2 hj f e hq
      have t2 := ht.ag f.h1.hn
      refine bk_X11_here_0 ?_
      rw [e, t2.1, cl_i (by omega), (t2.2.2 j (by omega)).1]
      rw [skR] at hq
      refine ⟨fun z => absurd z (nI_ge (by omega) (by omega)), fun _ => ⟨vp_in_nI (by omega) (by decide), fun z => ⟨fun z2 => absurd z2 (nI_ge (by omega) (by omega)), fun _ => ⟨vp_in_nI (by omega) (by decide), ?_⟩⟩, fun z => ?_⟩⟩
      · rw [if_neg z] at hq
        have := hq M2 f e
        unfold hr at this
        rw [if_pos (by omega)] at this
        exact this
      · rw [if_pos z] at hq
        rintro _ rfl
        rw [nI_1]
        exact ih (j + 1) _ (by omega) (up_agr f (by show ¬ ¬ _; omega)) up_eq hq
  exact en_X11_here (key (L - i) i M (by omega) agr.rf ha h)
theorem m_fails {c w : Int32} (h : ∀ M2, agr (fun k _ j => ¬ (k = 11 ∧ j = 15)) M M2 → M2 11 0 15 = w → Q c M2) : jw_M 0 mX11_fails [vr 11 0, vi c, vi w] M Q := by
  refine en_X11_fails ?_
  rintro _ rfl
  exact h _ (up_agr agr.rf (by omega)) up_eq
abbrev numC (lo hi : Nat) (M : jw_Mem) (Q : Int32 → jw_Mem → Prop) : Prop := ((3 < ((M 11 0 16) - (M 11 0 18)) → (jw_M 0 mX11_fails [vr 11 0, vi 2, vi (M 11 0 18)] M (fun x9 M10 => Q x9 M10))) ∧ (¬ 3 < ((M 11 0 16) - (M 11 0 18)) → (jw_M 0 mX11_in [vl ((M 11 0 17).toInt64), vl ((nI lo).toInt64), vl ((nI hi).toInt64)] M (fun x11 M12 => ((¬ x11 = 0 → Q 0 M12) ∧ (x11 = 0 → (jw_M 0 mX11_fails [vr 11 0, vi 2, vi (M12 11 0 18)] M12 (fun x13 M14 => Q x13 M14))))))))
theorem m_dg {lo hi s : Nat} (hs : s ≤ L) : ∀ (r j k n : Nat) (M : jw_Mem), j + r = L → j = s + k → nb k n → tR M x L → M 11 0 16 = nI j → M 11 0 18 = nI s → (k ≤ 3 → M 11 0 17 = nI n) → (∀ M2 e k2 n2, dgR x r j k n = (e, k2, n2) → e = s + k2 → e ≤ L → nb k2 n2 → agr (fun k _ j => ¬ (k = 11 ∧ (j = 16 ∨ j = 17))) M M2 → M2 11 0 16 = nI e → (k2 ≤ 3 → M2 11 0 17 = nI n2) → numC lo hi M2 Q) → jw_J 1 mX11_takeNumber 42 [(0, vr 11 0), (1, vi (nI lo)), (2, vi (nI hi))] [] M Q
  | 0, j, k, n, M, hj, hk, hn, ht, e, e18, e17, h => by
    obtain rfl : j = L := by omega
    have := h M j k n rfl hk (Nat.le_refl j) hn agr.rf e e17
    refine bk_X11_takeNumber_42 ⟨fun _ => this, fun z => absurd ?_ z⟩
    rw [e, ht.1]
    exact Int32.le_refl _
  | r + 1, j, k, n, M, hj, hk, hn, ht, e, e18, e17, h => by
    have hL := ht.2.1
    have hlt : j < L := by omega
    refine bk_X11_takeNumber_42 ⟨fun z => absurd z (by rw [e, ht.1]; exact nI_ge (by omega) (by omega)), fun _ => ⟨by rw [e]; exact vp_in_nI (by omega) (by decide), ?_⟩⟩
    have ej : M 44 0 (M 11 0 16).toNatClampNeg = x j := by rw [e, cl_i (by omega), (ht.2.2 j hlt).1]
    rw [ej]
    refine r_in2 (lo' := 48) (hi' := 57) (by decide) (by decide) ?_
    rw [dgR] at h
    refine b01 (fun z => ?_) (fun z => ?_)
    · rw [if_pos z] at h
      obtain ⟨d, hd, ed⟩ := fig_n z
      have e48 : (x j).toNatClampNeg - 48 = d := by rw [ed, cl_i (by omega)]; omega
      rw [e48] at h
      have go : ∀ y : Int32, (k < 3 → y = nI (10 * n + d)) → jw_J 1 mX11_takeNumber 42 [(0, vr 11 0), (1, vi (nI lo)), (2, vi (nI hi))] [] (jw_up (jw_up M 11 0 17 y) 11 0 16 (nI (j + 1))) Q := fun y hy => by
        have fz : agr (fun k _ j => ¬ (k = 11 ∧ (j = 16 ∨ j = 17))) M (jw_up (jw_up M 11 0 17 y) 11 0 16 (nI (j + 1))) := up_agr (up_agr agr.rf (by omega)) (by omega)
        refine m_dg hs r (j + 1) (k + 1) (if k < 3 then 10 * n + d else n) _ (by omega) (by omega) ?_ (ht.ag (fz.sub (fun k i j (z : ¬ _) => by omega))) up_eq ((up_ne (by omega)).trans ((up_ne (by omega)).trans e18)) (fun q => ?_) (fun M2 e' k2 n2 q1 q2 q3 q4 q5 q6 q7 => h M2 e' k2 n2 q1 q2 q3 q4 (fz.tr q5) q6 q7)
        · by_cases q : k < 3
          · rw [if_pos q]; unfold nb at hn ⊢; omega
          · rw [if_neg q]; unfold nb at hn ⊢; omega
        · rw [if_pos (by omega), up_ne (by omega), up_eq]
          exact hy (by omega)
      refine ⟨fun z2 => ⟨by rw [e]; exact vp_in_nI (by omega) (by decide), ?_⟩, fun z2 => ?_⟩
      · rintro _ rfl _ rfl
        rw [up_ne (show ¬ (11 = 11 ∧ 0 = 0 ∧ 16 = 17) by omega), ej, e, nI_1]
        refine go _ (fun q => ?_)
        rw [e17 (by omega), ed, Int32.mul_comm, dg_val]
      · rintro _ rfl _ rfl
        rw [up_ne (show ¬ (11 = 11 ∧ 0 = 0 ∧ 16 = 17) by omega), e, nI_1]
        refine go _ (fun q => ?_)
        rw [e17 (by omega)] at z2
        refine absurd (nI_le (b := 10000) (?_) (by decide)) z2
        unfold nb at hn
        omega
    · rw [if_neg z] at h
      exact h M j k n rfl hk (by omega) hn agr.rf e e17
theorem m_num {lo hi : Nat} (hl : lo ≤ 127) (hh : hi ≤ 127) (ht : tR M x L) (ha : M 11 0 16 = nI i) (hi' : i ≤ L) (he : ∀ c w, num x L lo hi i = .error (c, w) → ∀ M2, agr Hn M M2 → M2 11 0 15 = nI w → 1 ≤ c → c ≤ 4 → Q (nI c) M2) (hk : ∀ n e, num x L lo hi i = .ok (n, e) → ∀ M2, agr Hn M M2 → M2 11 0 16 = nI e → M2 11 0 17 = nI n → M2 11 0 18 = nI (skp x L i) → M2 11 0 15 = M 11 0 15 → Q 0 M2) : jw_M 1 mX11_takeNumber [vr 11 0, vi (nI lo), vi (nI hi)] M Q := by
  have hL := ht.2.1
  refine en_X11_takeNumber (m_here ht ha hi' (fun M2 f2 a2 => ?_))
  have hs := (skp_le (x := x) hi').2
  unfold num at he hk
  generalize skp x L i = s at he hk a2 hs ⊢
  refine r_in2 (lo' := 48) (hi' := 57) (by decide) (by decide) ?_
  refine b10 (fun z => ?_) (fun z => ?_)
  · rintro _ rfl _ rfl
    have hlt : s < L := by
      unfold hr at z
      split at z
      · assumption
      · exact absurd z.1 (by decide)
    have zf : fig (x s) := by
      unfold hr at z
      rw [if_pos hlt] at z
      exact z
    have fz : agr Hn M (jw_up (jw_up M2 11 0 18 (M2 11 0 16)) 11 0 17 0) := up_agr (up_agr f2.h1 (by show ¬ ¬ _; omega)) (by show ¬ ¬ _; omega)
    have e15 : jw_up (jw_up M2 11 0 18 (M2 11 0 16)) 11 0 17 0 11 0 15 = M 11 0 15 := (up_ne (by omega)).trans ((up_ne (by omega)).trans (f2 _ _ _ (by show ¬ _; omega)))
    refine m_dg hs (L - s) s 0 0 _ (by omega) rfl (Or.inl ⟨rfl, rfl⟩) (ht.ag fz.hn) ((up_ne (by omega)).trans ((up_ne (by omega)).trans a2)) ((up_ne (by omega)).trans (up_eq.trans a2)) (fun _ => up_eq) (fun M3 e k n E hek heL hn f3 e3 e17 => ?_)
    have k1 : 1 ≤ k := by
      have := dgR_le (x := x) (L - s - 1) (s + 1) (0 + 1) (if 0 < 3 then 10 * 0 + ((x s).toNatClampNeg - 48) else 0)
      obtain ⟨r, hr2⟩ : ∃ r, L - s = r + 1 := ⟨L - s - 1, by omega⟩
      rw [hr2, dgR, if_pos zf] at E
      rw [hr2, Nat.add_sub_cancel, E] at this
      exact this.2.2
    rw [E] at he hk
    unfold numE at he hk
    have e18 : M3 11 0 18 = nI s := (f3 11 0 18 (by omega)).trans ((up_ne (by omega)).trans (up_eq.trans a2))
    have f13 : agr Hn M M3 := fz.tr (f3.sub (fun k i j (z : ¬ _) => by omega))
    have e15' : M3 11 0 15 = M 11 0 15 := (f3 11 0 15 (by omega)).trans e15
    have hn9 : n ≤ 999 := by unfold nb at hn; omega
    have hkL : k ≤ L := by omega
    rw [if_neg (by show ¬ k = 0; omega)] at he hk
    have e1 : M3 11 0 16 - M3 11 0 18 = nI k := by rw [e3, e18, hek, nI_subN (by omega)]; congr 1; omega
    show numC lo hi M3 Q
    unfold numC
    rw [e1]
    refine ⟨fun z2 => ?_, fun z2 => ?_⟩
    · have z2 := (nI_ltI (a := 3) (by decide) (by omega)).mp z2
      rw [e18]
      refine m_fails (fun M4 f4 e4 => he 2 s (by rw [if_pos (Or.inl z2)]) M4 (f13.tr (f4.sub (fun k i j (z : ¬ _) => by omega))) e4 (by decide) (by decide))
    · have z2 : ¬ 3 < k := fun y => z2 ((nI_ltI (a := 3) (by decide) (by omega)).mpr y)
      refine r_in2 rfl rfl ?_
      rw [e17 (by omega)]
      refine b10 (fun z3 => ?_) (fun z3 => ?_)
      · have z4 := (nI_leI (by omega) (by omega)).mp z3.1
        have z5 := (nI_leI (by omega) (by omega)).mp z3.2
        exact hk n e (by rw [if_neg (by show ¬ (3 < k ∨ n < lo ∨ hi < n); omega)]) M3 f13 e3 (e17 (by omega)) e18 e15'
      · rw [e18]
        have z4 : n < lo ∨ hi < n := by
          by_cases y : lo ≤ n
          · by_cases y2 : n ≤ hi
            · exact absurd ⟨nI_le y (by omega), nI_le y2 (by omega)⟩ z3
            · omega
          · omega
        refine m_fails (fun M4 f4 e4 => he 2 s (by rw [if_pos (Or.inr z4)]) M4 (f13.tr (f4.sub (fun k i j (z : ¬ _) => by omega))) e4 (by decide) (by decide))
  · rw [a2]
    have hk0 : dgR x (L - s) s 0 0 = (s, 0, 0) := by
      by_cases hlt : s < L
      · obtain ⟨r, hr2⟩ : ∃ r, L - s = r + 1 := ⟨L - s - 1, by omega⟩
        unfold hr at z
        rw [if_pos hlt] at z
        rw [hr2, dgR, if_neg z]
      · rw [show L - s = 0 by omega]; rfl
    rw [hk0] at he
    refine m_fails (fun M4 f4 e4 => he 1 s rfl M4 (f2.h1.tr (f4.sub (fun k i j (z : ¬ _) => by omega))) e4 (by decide) (by decide))
end RM
