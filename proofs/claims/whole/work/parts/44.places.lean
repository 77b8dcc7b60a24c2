/-! ===== places ===== -/
abbrev pcan (C : Ab) (s p : Nat) : Prop := ¬ C 0 p < C 2 s
def vN (C : Ab) (p : Nat) : Nat := (C 0 p).toNatClampNeg
def mns (fr : Nat → Bool) (p : Nat) : Nat → Bool := fun i => fr i && decide (i ≠ p)
def wN (C : Ab) (P : Nat) : Nat → Nat → (Nat → Bool) → Nat
  | 0, _, _ => 0
  | r + 1, s, fr => lpF (fun p best => if fr p = true ∧ pcan C s p then max best (1000 + vN C p + wN C P r (s + 1) (mns fr p)) else best) P 0 (wN C P r (s + 1) fr)
theorem lpF_congr {α : Type} {f g : Nat → α → α} {S : Nat} (h : ∀ j acc, j < S → f j acc = g j acc) : ∀ r j acc, j + r = S → lpF f r j acc = lpF g r j acc
  | 0, _, _, _ => rfl
  | r + 1, j, acc, hj => by rw [lpF, lpF, h j acc (by omega)]; exact lpF_congr h r (j + 1) _ (by omega)
theorem lpF_inv {α : Type} {f : Nat → α → α} {S : Nat} {I : α → Prop} (h : ∀ j acc, j < S → I acc → I (f j acc)) : ∀ r j acc, j + r = S → I acc → I (lpF f r j acc)
  | 0, _, _, _, hi => hi
  | r + 1, j, acc, hj, hi => lpF_inv h r (j + 1) _ (by omega) (h j acc (by omega) hi)
theorem wN_congr {C : Ab} {P : Nat} : ∀ r s (fr fr2 : Nat → Bool), (∀ i, i < P → fr i = fr2 i) → wN C P r s fr = wN C P r s fr2
  | 0, _, _, _, _ => rfl
  | r + 1, s, fr, fr2, h => by
    rw [wN, wN, wN_congr r (s + 1) fr fr2 h]
    refine lpF_congr (S := P) (fun p acc hp => ?_) P 0 _ (by omega)
    rw [h p hp, wN_congr r (s + 1) (mns fr p) (mns fr2 p) (fun i hi => by unfold mns; rw [h i hi])]
theorem wN_le {C : Ab} {P : Nat} (hv : ∀ p, p < P → vN C p ≤ 99) : ∀ r s fr, wN C P r s fr ≤ 1099 * r
  | 0, _, _ => Nat.zero_le _
  | r + 1, s, fr => by
    rw [wN]
    refine lpF_inv (S := P) (I := fun z => z ≤ 1099 * (r + 1)) (fun p acc hp ha => ?_) P 0 _ (by omega) (Nat.le_trans (wN_le hv r (s + 1) fr) (by omega))
    show (if _ then _ else _) ≤ _
    split
    · have h1 := wN_le hv r (s + 1) (mns fr p)
      have h2 := hv p hp
      exact Nat.max_le.mpr ⟨ha, by omega⟩
    · exact ha
abbrev f_fit (C : Ab) (P r s : Nat) (fr : Nat → Bool) (p : Nat) : Bool := fr p && (decide (pcan C s p) && decide (1000 + vN C p + wN C P r (s + 1) (mns fr p) = wN C P (r + 1) s fr))
def chF (C : Ab) (P r s : Nat) (fr : Nat → Bool) : Int32 := sp_fst (f_fit C P r s fr) 0 P
def mnI (fr : Nat → Bool) (x : Int32) : Nat → Bool := fun i => fr i && decide (¬ nI i = x)
def frA (C : Ab) (P S : Nat) : Nat → Nat → Bool
  | 0 => fun p => decide (p < P)
  | s + 1 => mnI (frA C P S s) (chF C P (S - (s + 1)) s (frA C P S s))
def wo (f p : Nat) : Nat := if f.testBit p then f - 2 ^ p else f
def wi (f p : Nat) : Nat := if f.testBit p then f else f + 2 ^ p
theorem wo_eq : ∀ f, f < 32 → ∀ p, p < 5 → (nI f &&& (((1 : Int32) <<< (nI p &&& 31)) ^^^ (-1))) = nI (wo f p) ∧ wo f p < 32 := by decide +kernel
theorem wi_eq : ∀ f, f < 32 → ∀ p, p < 5 → (nI f ||| ((1 : Int32) <<< (nI p &&& 31))) = nI (wi f p) ∧ wi f p < 32 := by decide +kernel
theorem wo_bt {f p i : Nat} (hf : f < 32) (hp : p < 5) (hi : i < 32) : bt (nI (wo f p)) i = mns (bt (nI f)) p i := by
  rw [← (wo_eq f hf p hp).1, b_and, b_xor, one_bt (by omega) hi, b_m1 i hi]
  unfold mns
  by_cases e : i = p <;> simp [e]
theorem wi_bt {f p i : Nat} (hf : f < 32) (hp : p < 5) (hi : i < 32) : (!bt (nI (wi f p)) i) = mns (fun i => !bt (nI f) i) p i := by
  rw [← (wi_eq f hf p hp).1, b_or, one_bt (by omega) hi]
  unfold mns
  by_cases e : i = p <;> simp [e]
theorem fst_lt {c : Nat → Bool} : ∀ r j, j + r ≤ 1000 → (sp_fst c j r = -1 ∧ ∀ i, j ≤ i → i < j + r → c i = false) ∨ ∃ i, j ≤ i ∧ i < j + r ∧ sp_fst c j r = nI i ∧ c i = true
  | 0, j, _ => Or.inl ⟨rfl, fun i h1 h2 => absurd h2 (by omega)⟩
  | r + 1, j, h => by
    rw [sp_fst]
    by_cases q : c j = true
    · rw [if_pos q]
      exact Or.inr ⟨j, Nat.le_refl _, by omega, rfl, q⟩
    · rw [if_neg q]
      rcases fst_lt r (j + 1) (by omega) with ⟨h1, h2⟩ | ⟨i, h1, h2, h3, h4⟩
      · refine Or.inl ⟨h1, fun i g1 g2 => ?_⟩
        by_cases e : i = j
        · subst e; simpa using q
        · exact h2 i (by omega) (by omega)
      · exact Or.inr ⟨i, by omega, by omega, h3, h4⟩
theorem max_nI {a b : Nat} (ha : a < 2 ^ 31) (hb : b < 2 ^ 31) : (if nI a < nI b then nI b else nI a) = nI (max a b) := by
  by_cases h : a < b
  · rw [if_pos ((nI_ltI ha hb).mpr h), show max a b = b by omega]
  · rw [if_neg (fun z => h ((nI_ltI ha hb).mp z)), show max a b = a by omega]
section PK
variable {P S W : Nat} {C a : Ab} {M : jw_Mem} {Q : Int32 → jw_Mem → Prop}
abbrev rowK (C : Ab) (P : Nat) (M : jw_Mem) (s r : Nat) : Prop := ∀ f, f < 32 → M 24 s f = nI (wN C P r s (bt (nI f)))
theorem k_canHave (hc : cK M P S W C) {s p f : Nat} (hs : s < S) (hp : p < P) (h : Q (if bt (nI f) p = true ∧ pcan C s p then 1 else 0) M) : jw_M 2 mX5_canHave [vr 5 0, vi (nI s), vi (nI p), vi (nI f)] M Q := by
  have hP5 := hc.2.1.1
  refine en_X5_canHave (c_isIn (b01 (fun z => k_pleases hc hp hs (b01 (fun z2 => ?_) (fun z2 => ?_))) (fun z => ?_)))
  · rw [if_pos ⟨(bit_bt (by omega)).mp z, z2⟩] at h; exact h
  · rw [if_neg (fun y => z2 y.2)] at h; exact h
  · rw [if_neg (fun y => z ((bit_bt (by omega)).mpr y.1))] at h; exact h
theorem k_without {f p : Nat} (hf : f < 32) (hp : p < 5) (h : Q (nI (wo f p)) M) : jw_M 0 mX5_without [vi (nI f), vi (nI p)] M Q := by
  refine en_X5_without ⟨fun _ => ?_, fun z => ?_⟩
  · rw [(wo_eq f hf p hp).1]; exact h
  · have := nI_pos (n := p) (by omega)
    rw [z] at this
    exact absurd (by decide) this
theorem k_worthOn (hc : cK M P S W C) (hw : cW P S W C) {s p f r : Nat} (hs : s < S) (hp : p < P) (hf : f < 32) (hr : rowK C P M (s + 1) r) (h : Q (nI (1000 + vN C p + wN C P r (s + 1) (mns (bt (nI f)) p))) M) : jw_M 1 mX5_worthOn [vr 5 0, vi (nI s), vi (nI p), vi (nI f)] M Q := by
  have hP5 := hc.2.1.1
  have hS6 := hc.2.1.2.1
  obtain ⟨t, ht, et⟩ := hw.2.2.2.1 p hp
  refine en_X5_worthOn ⟨vp_in_nI (by omega) (by decide), ?_⟩
  rw [nI_1, cl_i (by omega)]
  refine ⟨vp_in_nI (by omega) (by decide), ?_⟩
  rw [cl_i (by omega)]
  intro q1 hq1 _
  subst q1
  refine k_without hf (by omega) ?_
  have hwo := (wo_eq f hf p (by omega)).2
  refine ⟨vp_in_nI hwo (by decide), ?_⟩
  rw [cl_i (by omega), hr _ hwo, hc.2.2.1 p hp, et]
  have e : wN C P r (s + 1) (bt (nI (wo f p))) = wN C P r (s + 1) (mns (bt (nI f)) p) := wN_congr r (s + 1) _ _ (fun i hi => wo_bt hf (by omega) (by omega))
  have ev : vN C p = t := by unfold vN; rw [et, cl_i (by omega)]
  rw [e, show (1000 : Int32) = nI 1000 from rfl, nI_add, nI_add]
  rw [ev] at h
  exact h
theorem vN_le (hw : cW P S W C) : ∀ p, p < P → vN C p ≤ 99 := fun p hp => by
  obtain ⟨t, ht, et⟩ := hw.2.2.2.1 p hp
  unfold vN
  rw [et, cl_i (by omega)]
  exact ht
theorem k_bestWorth (hc : cK M P S W C) (hw : cW P S W C) {s f r : Nat} (hs : s < S) (hr6 : r ≤ 6) (hf : f < 32) (hr : rowK C P M (s + 1) r) (h : Q (nI (wN C P (r + 1) s (bt (nI f)))) M) : jw_M 3 mX5_bestWorth [vr 5 0, vi (nI s), vi (nI f)] M Q := by
  have hP5 := hc.2.1.1
  have hS6 := hc.2.1.2.1
  have hle := wN_le (C := C) (P := P) (vN_le hw)
  refine en_X5_bestWorth ?_
  rw [nI_1, cl_i (by omega)]
  refine ⟨vp_in_nI (by omega) (by decide), ?_⟩
  rw [cl_i (by omega)]
  intro q1 hq1 _
  subst q1
  refine ⟨vp_in_nI hf (by decide), ?_⟩
  rw [hr f hf]
  rw [wN] at h
  refine lp_f (S := P) (f := fun p best => if bt (nI f) p = true ∧ pcan C s p then max best (1000 + vN C p + wN C P r (s + 1) (mns (bt (nI f)) p)) else best) (J := fun j acc => acc ≤ 1099 * (r + 1) → jw_J 3 mX5_bestWorth 14 [(0, vr 5 0), (1, vi (nI s)), (2, vi (nI f)), (3, vi (nI acc)), (4, vi (nI j))] [] M Q) (fun j acc hj ih hb => ?_) P 0 (wN C P r (s + 1) (bt (nI f))) (by omega) (fun _ => bk_X5_bestWorth_14 (ge_yes hc.1.1 h)) (Nat.le_trans (hle r (s + 1) _) (by omega))
  refine bk_X5_bestWorth_14 (ge_no hc.1.1 hj (by omega) ?_)
  have h1 := hle r (s + 1) (mns (bt (nI f)) j)
  have h2 := vN_le hw j hj
  rw [nI_1]
  refine k_canHave hc hs hj (b01 (fun z => k_worthOn hc hw hs hj hf hr ?_) (fun z => ?_))
  · rw [max_nI (by omega) (by omega)]
    rw [if_pos z] at ih
    exact ih (by omega)
  · rw [if_neg z] at ih
    exact ih hb
theorem k_firstBest (hc : cK M P S W C) (hw : cW P S W C) {s f r : Nat} (hs : s < S) (hr6 : r ≤ 6) (hf : f < 32) {fr : Nat → Bool} (hfr : ∀ i, i < P → bt (nI f) i = fr i) (hr : rowK C P M (s + 1) r) (hr0 : rowK C P M s (r + 1)) (h : Q (chF C P r s fr) M) : jw_M 3 mX5_firstBest [vr 5 0, vi (nI s), vi (nI f)] M Q := by
  have hP5 := hc.2.1.1
  have hS6 := hc.2.1.2.1
  have hle := wN_le (C := C) (P := P) (vN_le hw)
  have key : ∀ n j, j + n = P → Q (sp_fst (f_fit C P r s fr) j n) M → jw_J 3 mX5_firstBest 2 [(0, vr 5 0), (1, vi (nI s)), (2, vi (nI f)), (3, vi (nI j))] [] M Q := by
    intro n
    induction n with
    | zero =>
      intro j hj hq
      obtain rfl : j = P := by omega
      exact bk_X5_firstBest_2 (ge_yes hc.1.1 hq)
    | succ n ih =>
      intro j hj hq
      refine bk_X5_firstBest_2 (ge_no hc.1.1 (by omega) (by omega) ?_)
      rw [nI_1]
      rw [sp_fst] at hq
      have e1 : wN C P r (s + 1) (mns (bt (nI f)) j) = wN C P r (s + 1) (mns fr j) := wN_congr r (s + 1) _ _ (fun i hi => by unfold mns; rw [hfr i hi])
      have e2 : wN C P (r + 1) s (bt (nI f)) = wN C P (r + 1) s fr := wN_congr (r + 1) s _ _ hfr
      have h1 := hle r (s + 1) (mns fr j)
      have h2 := vN_le hw j (by omega)
      have h3 := hle (r + 1) s fr
      refine k_canHave hc hs (by omega) (b01 (fun z => k_worthOn hc hw hs (by omega) hf hr ⟨vp_in_nI (by omega) (by decide), ?_⟩) (fun z => ?_))
      · rw [cl_i (by omega)]
        intro q5 hq5 _
        subst q5
        refine ⟨vp_in_nI hf (by decide), ?_⟩
        rw [cl_i (by omega), hr0 f hf, e1, e2]
        refine ⟨fun z2 => ?_, fun z2 => ?_⟩
        · rw [if_neg (by
            intro y
            rw [Bool.and_eq_true_iff, Bool.and_eq_true_iff, decide_eq_true_iff, decide_eq_true_iff] at y
            exact z2 (by rw [y.2.2]))] at hq
          exact ih (j + 1) (by omega) hq
        · rw [if_pos (by
            rw [Bool.and_eq_true_iff, Bool.and_eq_true_iff, decide_eq_true_iff, decide_eq_true_iff]
            exact ⟨by rw [← hfr j (by omega)]; exact z.1, z.2, (nI_eq (by omega) (by omega)).mp z2⟩)] at hq
          exact hq
      · rw [if_neg (by
          intro y
          rw [Bool.and_eq_true_iff, Bool.and_eq_true_iff, decide_eq_true_iff] at y
          exact z ⟨by rw [hfr j (by omega)]; exact y.1, y.2.1⟩)] at hq
        exact ih (j + 1) (by omega) hq
  exact en_X5_firstBest (key P 0 (by omega) h)
theorem ch_cases (C : Ab) (P r s : Nat) (fr : Nat → Bool) (hP : P ≤ 5) : chF C P r s fr = -1 ∨ ∃ i : Nat, i < P ∧ chF C P r s fr = nI i := by
  rcases fst_lt (c := f_fit C P r s fr) P 0 (by omega) with ⟨h, -⟩ | ⟨i, -, h2, h3, -⟩
  · exact Or.inl h
  · exact Or.inr ⟨i, by omega, h3⟩
theorem mask_bt : ∀ P, P < 6 → ((1 : Int32) <<< (nI P &&& 31)) - 1 = nI (2 ^ P - 1) ∧ 2 ^ P - 1 < 32 ∧ ∀ i, i < 32 → bt (nI (2 ^ P - 1)) i = decide (i < P) := by decide +kernel
theorem k_places (hc : cK M P S W C) (hw : cW P S W C) (h : ∀ M2, agr (fun k _ _ => k ≠ 23 ∧ k ≠ 24) M M2 → rowK C P M2 0 S → (∀ s, s < S → M2 23 0 s = chF C P (S - (s + 1)) s (frA C P S s)) → Q 0 M2) : jw_M 4 mX5_placeAll [vr 5 0] M Q := by
  have hP5 := hc.2.1.1
  have hS6 := hc.2.1.2.1
  refine en_X5_placeAll ?_
  refine lp_up (P := fun j => ∀ M2, agr (fun k _ _ => k ≠ 23 ∧ k ≠ 24) M M2 → (∀ f, f < j → M2 24 S f = 0) → jw_J 4 mX5_placeAll 2 [(0, vr 5 0), (1, vi (nI j))] [] M2 Q) 32 (fun M2 f2 z2 => bk_X5_placeAll_2 (ge_yes (W := 32) rfl ?_)) (fun j hj ih => ?_) M agr.rf (fun f hf => absurd hf (by omega))
  · have hc2 := hc.ag (f2.sub (fun k i j z => by omega))
    rw [hc2.1.2.1]
    -- the rows from the last statue down
    have key : ∀ s, s ≤ S → ∀ M3, agr (fun k _ _ => k ≠ 23 ∧ k ≠ 24) M M3 → (∀ t, s ≤ t → t ≤ S → rowK C P M3 t (S - t)) → jw_J 4 mX5_placeAll 39 [(0, vr 5 0), (1, vi (nI s - 1))] [] M3 Q := by
      intro s
      induction s with
      | zero =>
        intro _ M3 f3 r3
        refine bk_X5_placeAll_39 ⟨fun _ => ?_, fun z => absurd (by decide) z⟩
        have hc3 := hc.ag (f3.sub (fun k i j z => by omega))
        obtain ⟨m1, m2, m3⟩ := mask_bt P (by omega)
        rw [hc3.1.1, m1]
        have fin : ∀ (n s f : Nat) (M4 : jw_Mem), s + n = S → agr (fun k _ _ => k ≠ 23) M3 M4 → (∀ t, t < s → M4 23 0 t = chF C P (S - (t + 1)) t (frA C P S t)) → f < 32 → (∀ i, i < P → bt (nI f) i = frA C P S s i) → jw_J 4 mX5_placeAll 91 [(0, vr 5 0), (1, vi (nI f)), (2, vi (nI s))] [] M4 Q := by
          intro n
          induction n with
          | zero =>
            intro s f M4 hsn f4 c4 hf hb
            obtain rfl : s = S := by omega
            have hc4 := hc3.ag (f4.sub (fun k i j z => by omega))
            exact bk_X5_placeAll_91 (ge_yes hc4.1.2.1 (h M4 (f3.tr (f4.sub (fun k i j z => z.1))) (fun f hf => by rw [f4 _ _ _ (by omega)]; exact r3 0 (Nat.le_refl _) (by omega) f hf) c4))
          | succ n ihn =>
            intro s f M4 hsn f4 c4 hf hb
            have hc4 := hc3.ag (f4.sub (fun k i j z => by omega))
            have rr : ∀ t, t ≤ S → rowK C P M4 t (S - t) := fun t ht f hf => by rw [f4 _ _ _ (by omega)]; exact r3 t (Nat.zero_le _) ht f hf
            have rs := rr s (by omega)
            rw [show S - s = (S - (s + 1)) + 1 by omega] at rs
            refine bk_X5_placeAll_91 (ge_no hc4.1.2.1 (by omega) (by omega) (k_firstBest hc4 hw (by omega) (by omega) hf hb (rr (s + 1) (by omega)) rs ⟨vp_in_nI (by omega) (by decide), ?_⟩))
            rintro M5 rfl
            rw [cl_i (by omega), up_eq, nI_1]
            refine ⟨vp_in_nI (by omega) (by decide), ?_⟩
            have c5 : ∀ t, t < s + 1 → jw_up M4 23 0 s (chF C P (S - (s + 1)) s (frA C P S s)) 23 0 t = chF C P (S - (t + 1)) t (frA C P S t) := fun t ht => by
              by_cases e : t = s
              · subst e; rw [up_eq]
              · rw [up_ne (by omega)]; exact c4 t (by omega)
            rcases ch_cases C P (S - (s + 1)) s (frA C P S s) hP5 with e | ⟨i, hi, e⟩
            · rw [e] at c5 ⊢
              refine en_X5_without ⟨fun z => absurd rfl z, fun _ => ihn (s + 1) f _ (by omega) (up_agr f4 (by omega)) c5 hf (fun i hi => ?_)⟩
              rw [frA, e, hb i hi]
              unfold mnI
              have : ¬ nI i = -1 := fun z => absurd (by rw [z]; decide) (nI_pos (n := i) (by omega))
              simp [this]
            · rw [e] at c5 ⊢
              refine k_without hf (by omega) (ihn (s + 1) (wo f i) _ (by omega) (up_agr f4 (by omega)) c5 (wo_eq f hf i (by omega)).2 (fun i2 hi2 => ?_))
              rw [frA, e, wo_bt hf (by omega) (by omega)]
              unfold mns mnI
              rw [hb i2 hi2]
              by_cases q : i2 = i
              · simp [q]
              · have : ¬ nI i2 = nI i := nI_ne q (by omega) (by omega)
                simp [q, this]
        exact fin S 0 (2 ^ P - 1) M3 (by omega) agr.rf (fun t ht => absurd ht (by omega)) m2 (fun i hi => m3 i (by omega))
      | succ s ih =>
        intro hsS M3 f3 r3
        rw [nI_pred]
        refine bk_X5_placeAll_39 ⟨fun z => absurd z (nI_pos (by omega)), fun _ => ?_⟩
        refine lp_up (P := fun j => ∀ M4, agr (fun k i _ => k ≠ 24 ∨ i ≠ s) M3 M4 → (∀ f, f < j → M4 24 s f = nI (wN C P (S - s) s (bt (nI f)))) → jw_J 4 mX5_placeAll 45 [(0, vr 5 0), (1, vi (nI s)), (2, vi (nI j))] [] M4 Q) 32 (fun M4 f4 w4 => bk_X5_placeAll_45 (ge_yes (W := 32) rfl ?_)) (fun j hj ih2 => ?_) M3 agr.rf (fun f hf => absurd hf (by omega))
        · have e : nI s + (-1) = nI s - 1 := by rw [Int32.sub_eq_add_neg]
          rw [e]
          refine ih (by omega) M4 (f3.tr (f4.sub (fun k i j z => Or.inl z.2))) (fun t h1 h2 f hf => ?_)
          by_cases q : t = s
          · subst q; exact w4 f hf
          · rw [f4 _ _ _ (Or.inr q)]; exact r3 t (by omega) h2 f hf
        · intro M4 f4 w4
          have hc4 := hc.ag (((f3.tr (f4.sub (fun k i j z => Or.inl z.2))) : agr (fun k _ _ => k ≠ 23 ∧ k ≠ 24) M M4).sub (fun k i j z => by omega))
          have r4 : rowK C P M4 (s + 1) (S - (s + 1)) := fun f hf => by rw [f4 _ _ _ (Or.inr (by omega))]; exact r3 (s + 1) (Nat.le_refl _) (by omega) f hf
          refine bk_X5_placeAll_45 (ge_no (W := 32) rfl hj (by decide) ⟨vp_in_nI (by omega) (by decide), ?_⟩)
          rw [cl_i (by omega)]
          intro q8 hq8 _
          subst q8
          refine k_bestWorth hc4 hw (by omega) (by omega) hj r4 ⟨vp_in_nI hj (by decide), ?_⟩
          rintro M5 rfl
          rw [cl_i (by omega), nI_1]
          refine ih2 _ (up_agr f4 (by omega)) (fun f hf => ?_)
          by_cases q : f = j
          · subst q
            rw [up_eq, show S - s = S - (s + 1) + 1 by omega]
          · rw [up_ne (by omega)]; exact w4 f (by omega)
    refine key S (Nat.le_refl _) M2 f2 (fun t h1 h2 f hf => ?_)
    obtain rfl : t = S := by omega
    rw [z2 f hf, Nat.sub_self, wN]
    rfl
  · intro M2 f2 z2
    have hc2 := hc.ag (f2.sub (fun k i j z => by omega))
    refine bk_X5_placeAll_2 (ge_no (W := 32) rfl hj (by decide) ?_)
    rw [hc2.1.2.1, cl_i (by omega)]
    refine ⟨vp_in_nI (by omega) (by decide), ?_⟩
    intro q1 hq1 _
    subst q1
    refine ⟨vp_in_nI hj (by decide), ?_⟩
    rintro M3 rfl
    rw [cl_i (by omega), nI_1]
    refine ih _ (up_agr f2 (by omega)) (fun f hf => ?_)
    by_cases q : f = j
    · subst q; rw [up_eq]
    · rw [up_ne (by omega)]; exact z2 f (by omega)
end PK
