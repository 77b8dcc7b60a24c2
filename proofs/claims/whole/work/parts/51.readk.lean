/-! ===== reading a text: the class ===== -/
def tK (M : jw_Mem) (x : Nat → Int32) (L : Nat) : Prop := M 7 0 2 = nI L ∧ L ≤ 240 ∧ ∀ i, i < L → M 25 0 i = x i ∧ 0 ≤ x i
def AT (M : jw_Mem) (L i : Nat) : Prop := M 7 0 1 = nI i ∧ i ≤ L
def FS (M : jw_Mem) : Option Er → Prop
  | none => M 7 0 3 = 0 ∧ M 7 0 4 = -1
  | some e => M 7 0 3 = nI e.1 ∧ 1 ≤ e.1 ∧ e.1 ≤ 4 ∧ M 7 0 4 = nI e.2
def dK (M : jw_Mem) (D : DS) : Prop := (M 1 1 0 = nI D.T ∧ M 1 1 1 = nI D.P ∧ M 1 1 2 = nI D.S ∧ M 1 1 3 = nI D.W) ∧ (∀ j, j < D.P → M 14 1 j = D.A 0 j) ∧ (∀ j, j < D.S → M 15 1 j = D.A 1 j ∧ M 16 1 j = D.A 2 j ∧ M 17 1 j = D.A 5 j) ∧ (∀ j, j < D.W → M 18 1 j = D.A 3 j ∧ M 19 1 j = D.A 6 j ∧ M 20 1 j = D.A 7 j)
abbrev G1 : Nat → Nat → Nat → Prop := fun k _ j => ¬ (k = 7 ∧ j = 1)
abbrev Gk : Nat → Nat → Nat → Prop := fun k _ j => ¬ (k = 7 ∧ (j = 1 ∨ j = 3 ∨ j = 4))
abbrev Gd : Nat → Nat → Nat → Prop := fun k i j => ¬ (k = 7 ∧ (j = 1 ∨ j = 3 ∨ j = 4)) ∧ ¬ (i = 1 ∧ (k = 1 ∨ (14 ≤ k ∧ k ≤ 20)))
theorem tK.ag {M M2 : jw_Mem} {x : Nat → Int32} {L : Nat} (h : tK M x L) (f : agr Gd M M2) : tK M2 x L := ⟨(f 7 0 2 (by show _ ∧ _; omega)).trans h.1, h.2.1, fun i hi => ⟨(f 25 0 i (by show _ ∧ _; omega)).trans (h.2.2 i hi).1, (h.2.2 i hi).2⟩⟩
theorem agr.k1 {M M2 : jw_Mem} (f : agr G1 M M2) : agr Gk M M2 := f.sub (fun k i j (z : ¬ _) => by show ¬ _; omega)
theorem agr.kd {M M2 : jw_Mem} (f : agr Gk M M2) : agr Gd M M2 := f.sub (fun k i j z => z.1)
theorem dK.ag {M M2 : jw_Mem} {D : DS} (h : dK M D) (f : agr Gk M M2) : dK M2 D := by
  obtain ⟨⟨h1, h2, h3, h4⟩, h5, h6, h7⟩ := h
  have g : ∀ k j, ¬ k = 7 → M2 k 1 j = M k 1 j := fun k j hk => f k 1 j (fun z => hk z.1)
  exact ⟨⟨(g _ _ (by decide)).trans h1, (g _ _ (by decide)).trans h2, (g _ _ (by decide)).trans h3, (g _ _ (by decide)).trans h4⟩, fun j hj => (g _ _ (by decide)).trans (h5 j hj), fun j hj => ⟨(g _ _ (by decide)).trans (h6 j hj).1, (g _ _ (by decide)).trans (h6 j hj).2.1, (g _ _ (by decide)).trans (h6 j hj).2.2⟩, fun j hj => ⟨(g _ _ (by decide)).trans (h7 j hj).1, (g _ _ (by decide)).trans (h7 j hj).2.1, (g _ _ (by decide)).trans (h7 j hj).2.2⟩⟩
theorem FS.ag {M M2 : jw_Mem} {o : Option Er} (h : FS M o) (f : agr G1 M M2) : FS M2 o := by
  have e3 : M2 7 0 3 = M 7 0 3 := f 7 0 3 (by show ¬ _; omega)
  have e4 : M2 7 0 4 = M 7 0 4 := f 7 0 4 (by show ¬ _; omega)
  cases o with
  | none => exact ⟨e3.trans h.1, e4.trans h.2⟩
  | some e => exact ⟨e3.trans h.1, h.2.1, h.2.2.1, e4.trans h.2.2.2⟩
section RK
variable {x : Nat → Int32} {L i : Nat} {D : DS} {o : Option Er} {M : jw_Mem} {Q : Int32 → jw_Mem → Prop}
theorem k_skip (ht : tK M x L) (ha : AT M L i) (h : ∀ M2, agr G1 M M2 → AT M2 L (skp x L i) → Q 0 M2) : jw_M 0 mX7_skipBlanks [vr 7 0] M Q := by
  have key : ∀ r j M2, j + r = L → agr G1 M M2 → M2 7 0 1 = nI j → (∀ M3, agr G1 M M3 → M3 7 0 1 = nI (skR x r j) → Q 0 M3) → jw_J 0 mX7_skipBlanks 0 [(0, vr 7 0)] [] M2 Q := by
    intro r
    induction r with
    | zero =>
      intro j M2 hj f e hq
      obtain rfl : j = L := by omega
      have t2 := ht.ag f.k1.kd
      refine bk_X7_skipBlanks_0 ?_
      rw [e, t2.1]
      exact ⟨fun _ => hq M2 f e, fun z => absurd (Int32.le_refl _) z⟩
    | succ r ih =>
      intro j M2 hj f e hq
      have t2 := ht.ag f.k1.kd
      have hL := ht.2.1
      refine bk_X7_skipBlanks_0 ?_
      rw [e, t2.1, cl_i (by omega), (t2.2.2 j (by omega)).1]
      rw [skR] at hq
      refine ⟨fun z => absurd z (nI_ge (by omega) (by omega)), fun _ => ⟨vp_in_nI (by omega) (by decide), fun z => ?_, fun z => ?_⟩⟩
      · rw [if_neg z] at hq; exact hq M2 f e
      · rw [if_pos z] at hq
        rintro _ rfl
        rw [nI_1]
        exact ih (j + 1) _ (by omega) (up_agr f (by show ¬ ¬ _; omega)) up_eq hq
  have hs := skp_le (x := x) ha.2
  exact en_X7_skipBlanks (key (L - i) i M (by have := ha.2; omega) agr.rf ha.1 (fun M3 f e => h M3 f ⟨e, hs.2⟩))
theorem k_letter (ht : tK M x L) (ha : AT M L i) (h : Q (hr x L i) M) : jw_M 0 mX7_letter [vr 7 0] M Q := by
  have hL := ht.2.1
  have hi := ha.2
  refine en_X7_letter ?_
  rw [ha.1, ht.1]
  unfold hr at h
  by_cases q : i < L
  · rw [if_pos q] at h
    refine ⟨fun z => absurd z (nI_pos (by omega)), fun _ => ⟨fun z => absurd z (nI_ge q (by omega)), fun _ => ⟨fun z => absurd z (nI_ge (b := 240) (by omega) (by decide)), fun _ => ⟨vp_in_nI (by omega) (by decide), ?_⟩⟩⟩⟩
    rw [cl_i (by omega), (ht.2.2 i q).1]
    exact h
  · rw [if_neg q] at h
    exact ⟨fun _ => h, fun _ => ⟨fun _ => h, fun y => absurd (nI_le (a := L) (b := i) (by omega) (by omega)) y⟩⟩
theorem k_fig {c : Int32} (h : Q (if fig c then 1 else 0) M) : jw_M 0 mX7_isFigure [vi c] M Q := by
  refine en_X7_isFigure ⟨fun z => ?_, fun z => ⟨fun z2 => ?_, fun z2 => ?_⟩⟩
  · rw [if_neg (fun y => absurd y.1 (Int32.not_le.mpr z))] at h; exact h
  · rw [if_neg (fun y => absurd y.2 (Int32.not_le.mpr z2))] at h; exact h
  · rw [if_pos ⟨Int32.not_lt.mp z, Int32.not_lt.mp z2⟩] at h; exact h
theorem k_blame {c w : Nat} (hc : 1 ≤ c ∧ c ≤ 4) (hF : FS M o) (h : ∀ M2, agr (fun k _ j => ¬ (k = 7 ∧ (j = 3 ∨ j = 4))) M M2 → FS M2 (o.or (some (c, w))) → Q 0 M2) : jw_M 0 mX7_blame [vr 7 0, vi (nI c), vi (nI w)] M Q := by
  refine en_X7_blame ⟨fun z => ?_, fun z => ?_⟩
  · cases o with
    | none => exact absurd hF.1 z
    | some e => exact h M agr.rf hF
  · rintro _ rfl _ rfl
    cases o with
    | none => exact h _ (up_agr (up_agr agr.rf (by omega)) (by omega)) ⟨by rw [up_ne (by omega), up_eq], hc.1, hc.2, up_eq⟩
    | some e =>
      rw [hF.1] at z
      exact absurd z (nI_ne0 hF.2.1 (by have := hF.2.2.1; omega))
abbrev numB (lo hi s n : Nat) (M : jw_Mem) (Q : Int32 → jw_Mem → Prop) : Prop := ((¬ (M 7 0 1) = nI s → ((3 < ((M 7 0 1) - nI s) → (jw_M 0 mX7_blame [vr 7 0, vi 2, vi (nI s)] M (fun x3 M4 => Q (nI n) M4))) ∧ (¬ 3 < ((M 7 0 1) - nI s) → ((nI n < nI lo → (jw_M 0 mX7_blame [vr 7 0, vi 2, vi (nI s)] M (fun x5 M6 => Q (nI n) M6))) ∧ (¬ nI n < nI lo → ((nI n ≤ nI hi → Q (nI n) M) ∧ (¬ nI n ≤ nI hi → (jw_M 0 mX7_blame [vr 7 0, vi 2, vi (nI s)] M (fun x7 M8 => Q (nI n) M8))))))))) ∧ ((M 7 0 1) = nI s → (jw_M 0 mX7_blame [vr 7 0, vi 1, vi (nI s)] M (fun x9 M10 => Q (nI n) M10))))
theorem k_dg {lo hi s : Nat} (hs : s ≤ L) : ∀ (r j k n : Nat) (M : jw_Mem), j + r = L → j = s + k → nb k n → tK M x L → M 7 0 1 = nI j → (∀ M2 e k2 n2, dgR x r j k n = (e, k2, n2) → e = s + k2 → e ≤ L → nb k2 n2 → agr G1 M M2 → M2 7 0 1 = nI e → numB lo hi s n2 M2 Q) → jw_J 1 mX7_readNumber 12 [(0, vr 7 0), (1, vi (nI lo)), (2, vi (nI hi)), (3, vi (nI s)), (4, vi (nI n))] [] M Q
  | 0, j, k, n, M, hj, hk, hn, ht, e, h => by
    obtain rfl : j = L := by omega
    have hL := ht.2.1
    have := h M j k n rfl hk (Nat.le_refl j) hn agr.rf e
    refine bk_X7_readNumber_12 ⟨fun _ => this, fun z => absurd ?_ z⟩
    rw [e, ht.1]
    exact Int32.le_refl _
  | r + 1, j, k, n, M, hj, hk, hn, ht, e, h => by
    have hL := ht.2.1
    have hlt : j < L := by omega
    refine bk_X7_readNumber_12 ⟨fun z => absurd z (by rw [e, ht.1]; exact nI_ge (by omega) (by omega)), fun _ => k_letter ht ⟨e, by omega⟩ (k_fig ?_)⟩
    have ehr : hr x L j = x j := if_pos hlt
    rw [ehr]
    rw [dgR] at h
    refine b01 (fun z => ?_) (fun z => ?_)
    · rw [if_pos z] at h
      obtain ⟨d, hd, ed⟩ := fig_n z
      have e1 : M 7 0 1 - nI s = nI k := by rw [e, hk, nI_subN (by omega)]; congr 1; omega
      rw [e1]
      have e48 : (x j).toNatClampNeg - 48 = d := by rw [ed, cl_i (by omega)]; omega
      rw [e48] at h
      refine ⟨fun z2 => ?_, fun z2 => k_letter ht ⟨e, by omega⟩ ?_⟩
      · rintro _ rfl
        have h3 : 3 ≤ k := (nI_leI (a := 3) (by decide) (by omega)).mp z2
        rw [if_neg (by omega)] at h
        rw [e, nI_1]
        exact k_dg hs r (j + 1) (k + 1) n _ (by omega) (by omega) (by unfold nb at hn ⊢; omega) (ht.ag (up_agr agr.rf (by show ¬ (_ ∧ _); omega))) up_eq (fun M2 e' k2 n2 q1 q2 q3 q4 q5 q6 => h M2 e' k2 n2 q1 q2 q3 q4 ((up_agr agr.rf (by show ¬ ¬ _; omega)).tr q5) q6)
      · rintro _ rfl
        have h3 : ¬ 3 ≤ k := fun y => z2 ((nI_leI (a := 3) (by decide) (by omega)).mpr y)
        rw [if_pos (by omega)] at h
        rw [ehr, ed, dg_val, e, nI_1]
        exact k_dg hs r (j + 1) (k + 1) (10 * n + d) _ (by omega) (by omega) (by unfold nb at hn ⊢; omega) (ht.ag (up_agr agr.rf (by show ¬ (_ ∧ _); omega))) up_eq (fun M2 e' k2 n2 q1 q2 q3 q4 q5 q6 => h M2 e' k2 n2 q1 q2 q3 q4 ((up_agr agr.rf (by show ¬ ¬ _; omega)).tr q5) q6)
    · rw [if_neg z] at h
      exact h M j k n rfl hk (by omega) hn agr.rf e
theorem k_num {lo hi : Nat} (hl : lo ≤ 127) (hh : hi ≤ 127) (ht : tK M x L) (ha : AT M L i) (hF : FS M o) (he : ∀ c w, num x L lo hi i = .error (c, w) → ∀ M2 i2 v, agr Gk M M2 → AT M2 L i2 → FS M2 (o.or (some (c, w))) → Q v M2) (hk : ∀ n e, num x L lo hi i = .ok (n, e) → ∀ M2, agr Gk M M2 → AT M2 L e → FS M2 o → Q (nI n) M2) : jw_M 1 mX7_readNumber [vr 7 0, vi (nI lo), vi (nI hi)] M Q := by
  have hL := ht.2.1
  refine en_X7_readNumber (k_skip ht ha (fun M2 f2 a2 => ?_))
  rw [a2.1]
  have hs := a2.2
  unfold num at he hk
  generalize skp x L i = s at he hk a2 hs ⊢
  refine k_dg hs (L - s) s 0 0 M2 (by omega) rfl (Or.inl ⟨rfl, rfl⟩) (ht.ag f2.k1.kd) a2.1 (fun M3 e k n E hek heL hn f3 e3 => ?_)
  rw [E] at he hk
  unfold numE at he hk
  have F3 : FS M3 o := hF.ag (f2.tr f3)
  have f13 : agr Gk M M3 := (f2.tr f3).k1
  have hn9 : n ≤ 999 := by unfold nb at hn; omega
  have bl : ∀ c w, 1 ≤ c ∧ c ≤ 4 → (Except.error (c, w) : Except Er (Nat × Nat)) = numE lo hi s (e, k, n) → jw_M 0 mX7_blame [vr 7 0, vi (nI c), vi (nI w)] M3 (fun x3 M4 => Q (nI n) M4) := fun c w hc hE =>
    k_blame hc F3 (fun M4 f4 F4 => he c w hE.symm M4 e (nI n) (f13.tr (f4.sub (fun k i j (z : ¬ _) => by omega))) ⟨(f4 7 0 1 (by omega)).trans e3, heL⟩ F4)
  have e1 : M3 7 0 1 - nI s = nI k := by rw [e3, hek, nI_subN (by omega)]; congr 1; omega
  show numB lo hi s n M3 Q
  unfold numB
  rw [e1, e3]
  refine ⟨fun z => ⟨fun z2 => bl 2 s (by decide) ?_, fun z2 => ⟨fun z3 => bl 2 s (by decide) ?_, fun z3 => ⟨fun z4 => ?_, fun z4 => bl 2 s (by decide) ?_⟩⟩⟩, fun z => bl 1 s (by decide) ?_⟩
  all_goals ((try unfold numE); try (have z0 : ¬ k = 0 := fun y => z (by rw [hek, y, Nat.add_zero])))
  · have z2 := (nI_ltI (a := 3) (by decide) (by omega)).mp z2
    rw [if_neg z0, if_pos (Or.inl z2)]
  · have z3 := (nI_ltI (by omega) (by omega)).mp z3
    rw [if_neg z0, if_pos (Or.inr (Or.inl z3))]
  · have z2 : ¬ 3 < k := fun y => z2 ((nI_ltI (a := 3) (by decide) (by omega)).mpr y)
    have z3 : ¬ n < lo := fun y => z3 ((nI_ltI (by omega) (by omega)).mpr y)
    have z4 := (nI_leI (by omega) (by omega)).mp z4
    refine hk n e ?_ M3 f13 ⟨e3, heL⟩ F3
    rw [if_neg z0, if_neg (by show ¬ (3 < k ∨ n < lo ∨ hi < n); omega)]
  · have z4 : ¬ n ≤ hi := fun y => z4 ((nI_leI (by omega) (by omega)).mpr y)
    rw [if_neg z0, if_pos (Or.inr (Or.inr (by show hi < n; omega)))]
  · have z := (nI_eq (by omega) (by omega)).mp z
    rw [if_pos (show k = 0 by omega)]
theorem k_numF {lo hi : Nat} {f : Er} (hl : lo ≤ 127) (hh : hi ≤ 127) (ht : tK M x L) (ha : AT M L i) (hF : FS M (some f)) (h : ∀ M2 i2 v, agr Gk M M2 → AT M2 L i2 → FS M2 (some f) → Q v M2) : jw_M 1 mX7_readNumber [vr 7 0, vi (nI lo), vi (nI hi)] M Q :=
  k_num hl hh ht ha hF (fun c w _ M2 i2 v f2 a2 F2 => h M2 i2 v f2 a2 F2) (fun n e _ M2 f2 a2 F2 => h M2 e _ f2 a2 F2)
theorem k_semi (ht : tK M x L) (ha : AT M L i) (hF : FS M o) (he : ∀ c w, semi x L i = .error (c, w) → ∀ M2 i2, agr Gk M M2 → AT M2 L i2 → FS M2 (o.or (some (c, w))) → Q 0 M2) (hk : ∀ j, semi x L i = .ok j → ∀ M2, agr Gk M M2 → AT M2 L j → FS M2 o → Q 0 M2) : jw_M 1 mX7_readSemicolon [vr 7 0] M Q := by
  refine en_X7_readSemicolon (k_skip ht ha (fun M2 f2 a2 => k_letter (ht.ag f2.k1.kd) a2 ⟨fun z => ?_, fun z => ?_⟩))
  · rw [a2.1]
    refine k_blame (c := 1) (by decide) (hF.ag f2) (fun M4 f4 F4 => he 1 (skp x L i) (by unfold semi; rw [if_neg z]) M4 _ (f2.k1.tr (f4.sub (fun k i j (z : ¬ _) => by omega))) ⟨(f4 7 0 1 (by omega)).trans a2.1, a2.2⟩ F4)
  · rintro _ rfl
    have es : semi x L i = .ok (skp x L i + 1) := by unfold semi; rw [if_pos z]
    have := semi_le ha.2 es
    refine hk _ es _ (f2.k1.tr (up_agr agr.rf (by show ¬ ¬ _; omega))) ⟨by rw [up_eq, a2.1, nI_1], this.2⟩ ((hF.ag f2).ag (up_agr agr.rf (by show ¬ ¬ _; omega)))
theorem k_semiF {f : Er} (ht : tK M x L) (ha : AT M L i) (hF : FS M (some f)) (h : ∀ M2 i2, agr Gk M M2 → AT M2 L i2 → FS M2 (some f) → Q 0 M2) : jw_M 1 mX7_readSemicolon [vr 7 0] M Q :=
  k_semi ht ha hF (fun c w _ M2 i2 f2 a2 F2 => h M2 i2 f2 a2 F2) (fun j _ M2 f2 a2 F2 => h M2 j f2 a2 F2)
theorem tkB_true {A : Ab} {v : Int32} {j : Nat} (h : tkB A v j = true) : ∀ k, tkB A v (j + k) = true
  | 0 => h
  | k + 1 => by rw [← Nat.add_assoc, tkB, tkB_true h k]; rfl
theorem k_taken (hd : dK M D) (hS : D.S ≤ 6) {v : Int32} (h : Q (b2 (tkB D.A v D.S)) M) : jw_M 0 mX1_isTakenAtFirst [vr 1 1, vi v] M Q := by
  have key : ∀ r j, j + r = D.S → tkB D.A v j = false → jw_J 0 mX1_isTakenAtFirst 2 [(0, vr 1 1), (1, vi v), (2, vi (nI j))] [] M Q := by
    intro r
    induction r with
    | zero =>
      intro j hj hb
      obtain rfl : j = D.S := by omega
      rw [hb] at h
      exact bk_X1_isTakenAtFirst_2 (by decide) (ge_yes hd.1.2.2.1 h)
    | succ r ih =>
      intro j hj hb
      refine bk_X1_isTakenAtFirst_2 (by decide) (ge_no hd.1.2.2.1 (by omega) (by omega) ⟨vp_in_nI (by omega) (by decide), ?_⟩)
      rw [cl_i (by omega), (hd.2.2.1 j (by omega)).2.2, nI_1]
      refine ⟨fun z => ih (j + 1) (by omega) (by rw [tkB, hb, decide_eq_false z]; rfl), fun z => ?_⟩
      have := tkB_true (A := D.A) (v := v) (j := j + 1) (by rw [tkB, decide_eq_true z, Bool.or_true]) r
      rw [show j + 1 + r = D.S by omega] at this
      rw [this] at h
      exact h
  exact en_X1_isTakenAtFirst (by decide) (key D.S 0 (by omega) rfl)
theorem k_place (ht : tK M x L) (ha : AT M L i) (hF : FS M o) (hd : dK M D) (hB : dB D) (he : ∀ c w, plc x L i D = .error (c, w) → ∀ M2 i2 v, agr Gk M M2 → AT M2 L i2 → FS M2 (o.or (some (c, w))) → Q v M2) (hk : ∀ p e, plc x L i D = .ok (p, e) → ∀ M2, agr Gk M M2 → AT M2 L e → FS M2 o → Q p M2) : jw_M 2 mX7_readPlace [vr 7 0] M Q := by
  refine en_X7_readPlace (k_skip ht ha (fun M2 f2 a2 => ?_))
  have hsk := skp_idem (x := x) ha.2
  have enum : num x L 0 9 (skp x L i) = num x L 0 9 i := by unfold num; rw [hsk]
  rw [a2.1]
  have hS6 := hB.1.2.2.1
  have hP5 := hB.1.2.1
  refine k_num (lo := 0) (hi := 9) (by decide) (by decide) (ht.ag f2.k1.kd) a2 (hF.ag f2) (fun c w E M4 i2 v f4 a4 F4 => ?_) (fun n e E M4 f4 a4 F4 => ?_)
  · have ep : plc x L i D = .error (c, w) := by unfold plc; rw [← enum, E]
    have f14 : agr Gk M M4 := f2.k1.tr f4
    have d4 := hd.ag f14
    have bl : ∀ c2, 1 ≤ c2 ∧ c2 ≤ 4 → jw_M 0 mX7_blame [vr 7 0, vi (nI c2), vi (nI (skp x L i))] M4 (fun x9 M10 => Q v M10) := fun c2 hc2 => k_blame hc2 F4 (fun M5 f5 F5 => he c w ep M5 i2 v (f14.tr (f5.sub (fun k i j (z : ¬ _) => by omega))) ⟨(f5 7 0 1 (by omega)).trans a4.1, a4.2⟩ (by cases o <;> exact F5))
    refine ⟨fun _ => c_hasPlinth (by decide) d4.1.2.1 hP5 (b10 (fun _ => k_taken d4 hS6 (b01 (fun _ => bl 4 (by decide)) (fun _ => he c w ep M4 i2 v f14 a4 F4))) (fun _ => bl 2 (by decide))), fun _ => he c w ep M4 i2 (-1) f14 a4 F4⟩
  · rw [enum] at E
    have hn := num_ok E
    have f14 : agr Gk M M4 := f2.k1.tr f4
    have d4 := hd.ag f14
    refine ⟨fun z => c_hasPlinth (by decide) d4.1.2.1 hP5 (b10 (fun z2 => k_taken d4 hS6 (b01 (fun z3 => ?_) (fun z3 => ?_))) (fun z2 => ?_)), fun z => ?_⟩
    · have n9 : ¬ n = 9 := fun y => z (by rw [y]; rfl)
      have nP : ¬ D.P ≤ n := by have := (nI_ltI (by omega) (by omega)).mp z2.2; omega
      refine k_blame (c := 4) (by decide) F4 (fun M5 f5 F5 => he 4 (skp x L i) (by unfold plc; simp only [E]; rw [if_neg n9, if_neg nP, if_pos z3]) M5 e _ (f14.tr (f5.sub (fun k i j (z : ¬ _) => by omega))) ⟨(f5 7 0 1 (by omega)).trans a4.1, a4.2⟩ F5)
    · have n9 : ¬ n = 9 := fun y => z (by rw [y]; rfl)
      have nP : ¬ D.P ≤ n := by have := (nI_ltI (by omega) (by omega)).mp z2.2; omega
      exact hk (nI n) e (by unfold plc; simp only [E]; rw [if_neg n9, if_neg nP, if_neg z3]) M4 f14 a4 F4
    · have n9 : ¬ n = 9 := fun y => z (by rw [y]; rfl)
      have nP : D.P ≤ n := Decidable.byContradiction (fun y => z2 (sp_has.of (by omega) (by omega)))
      refine k_blame (c := 2) (by decide) F4 (fun M5 f5 F5 => he 2 (skp x L i) (by unfold plc; simp only [E]; rw [if_neg n9, if_pos nP]) M5 e _ (f14.tr (f5.sub (fun k i j (z : ¬ _) => by omega))) ⟨(f5 7 0 1 (by omega)).trans a4.1, a4.2⟩ F5)
    · have n9 : n = 9 := (nI_eq (b := 9) (by omega) (by decide)).mp z
      exact hk (-1) e (by unfold plc; simp only [E]; rw [if_pos n9]) M4 f14 a4 F4
theorem k_placeF {f : Er} (ht : tK M x L) (ha : AT M L i) (hF : FS M (some f)) (hd : dK M D) (hB : dB D) (h : ∀ M2 i2 v, agr Gk M M2 → AT M2 L i2 → FS M2 (some f) → Q v M2) : jw_M 2 mX7_readPlace [vr 7 0] M Q :=
  k_place ht ha hF hd hB (fun c w _ M2 i2 v f2 a2 F2 => h M2 i2 v f2 a2 F2) (fun p e _ M2 f2 a2 F2 => h M2 e p f2 a2 F2)
end RK
