/-! ===== plain questions ===== -/
def sw (x : Int32) (l : List Int32) (d : Int32) : Int32 := if 0 ≤ x.toInt ∧ x.toInt < l.length then l.getD x.toInt.toNat d else d
theorem sw_at {x : Int32} {l : List Int32} {d : Int32} {k : Nat} (h : x.toInt = k) (hk : k < l.length) : sw x l d = l.getD k d := by
  unfold sw
  rw [if_pos (by omega), h]
  rfl
theorem sw_out {x : Int32} {l : List Int32} {d : Int32} {n : Int} (h : x.toInt < 0 ∨ n < x.toInt) (hn : n = l.length - 1) : sw x l d = d := by
  unfold sw
  rw [if_neg (by omega)]
def lpF {α : Type} (f : Nat → α → α) : Nat → Nat → α → α
  | 0, _, acc => acc
  | r + 1, j, acc => lpF f r (j + 1) (f j acc)
theorem lp_f {α : Type} {f : Nat → α → α} {S : Nat} {J : Nat → α → Prop} (hs : ∀ j acc, j < S → J (j + 1) (f j acc) → J j acc) : ∀ (r j : Nat) (acc : α), j + r = S → J S (lpF f r j acc) → J j acc
  | 0, j, acc, h, hj => by
    obtain rfl : j = S := by omega
    exact hj
  | r + 1, j, acc, h, hj => hs j acc (by omega) (lp_f hs r (j + 1) (f j acc) (by omega) hj)
theorem nI_ne {a b : Nat} (h : a ≠ b) (ha : a < 2 ^ 31) (hb : b < 2 ^ 31) : ¬ nI a = nI b := fun z => h ((nI_eq ha hb).mp z)
abbrev f_had (C a : Ab) (W : Nat) (s q : Int32) : Prop := ¬ f_votes C W (f_like a W s &&& (f_like a W q ^^^ (-1))) ≤ f_votes C W (f_like a W q &&& (f_like a W s ^^^ (-1)))
def f_allB (C a : Ab) (W s : Nat) : Nat → Bool
  | 0 => true
  | j + 1 => f_allB C a W s j && (decide (j = s) || decide (f_had C a W (nI s) (nI j)))
def sp_fst (c : Nat → Bool) : Nat → Nat → Int32
  | _, 0 => -1
  | j, r + 1 => if c j = true then nI j else sp_fst c (j + 1) r
def f_belov (C a : Ab) (S W : Nat) : Int32 := sp_fst (fun s => f_allB C a W s S) 0 S
abbrev f_rnd (C a : Ab) (W : Nat) (s q r : Int32) : Prop := f_had C a W s q ∧ f_had C a W q r ∧ f_had C a W r s
def f_r3 (C a : Ab) (W s q : Nat) (r : Nat) (acc : Int32) : Int32 := if f_rnd C a W (nI s) (nI q) (nI r) ∨ f_rnd C a W (nI s) (nI r) (nI q) then acc + 1 else acc
def f_r2 (C a : Ab) (S W s : Nat) (q : Nat) (acc : Int32) : Int32 := lpF (f_r3 C a W s q) (S - (q + 1)) (q + 1) acc
def f_r1 (C a : Ab) (S W : Nat) (s : Nat) (acc : Int32) : Int32 := lpF (f_r2 C a S W s) (S - (s + 1)) (s + 1) acc
def f_rings (C a : Ab) (S W : Nat) : Int32 := lpF (f_r1 C a S W) S 0 0
section QU
variable {P S W : Nat} {C a : Ab} {M : jw_Mem} {Q : Int32 → jw_Mem → Prop}
theorem k_had (hc : cK M P S W C) (hs : sK M 0 S W a) {x y : Int32} (h : Q (if f_had C a W x y then 1 else 0) M) : jw_M 2 mX6_isHadAgainst [vr 6 0, vi x, vi y] M Q := by
  refine en_X6_isHadAgainst (k_like (by decide) hc hs (k_like (by decide) hc hs (k_votes hc (k_votes hc ⟨fun c => ?_, fun c => ?_⟩))))
  · rw [if_neg (fun z => z c)] at h; exact h
  · rw [if_pos c] at h; exact h
theorem m_had (hc : cR M P S W C) (hs : sR M S W a) {x y : Int32} (h : Q (if f_had C a W x y then 1 else 0) M) : jw_M 2 mX11_isHad [vr 11 0, vi x, vi y] M Q := by
  refine en_X11_isHad (m_like hc hs (m_like hc hs (m_votes hc (m_votes hc ⟨fun c => ?_, fun c => ?_⟩))))
  · rw [if_neg (fun z => z c)] at h; exact h
  · rw [if_pos c] at h; exact h
theorem allB_false {C a : Ab} {W s j : Nat} (h : f_allB C a W s j = false) : ∀ k, f_allB C a W s (j + k) = false
  | 0 => h
  | k + 1 => by rw [← Nat.add_assoc, f_allB, allB_false h k]; rfl
theorem k_all (hc : cK M P S W C) (hs : sK M 0 S W a) {s : Nat} (hsS : s < S) (h : Q (if f_allB C a W s S = true then 1 else 0) M) : jw_M 3 mX6_isHadAgainstAll [vr 6 0, vi (nI s)] M Q := by
  have hS6 := hc.2.1.2.1
  refine en_X6_isHadAgainstAll ?_
  have key : ∀ r j, j + r = S → f_allB C a W s j = true → jw_J 3 mX6_isHadAgainstAll 2 [(0, vr 6 0), (1, vi (nI s)), (2, vi (nI j))] [] M Q := by
    intro r
    induction r with
    | zero =>
      intro j hj hb
      obtain rfl : j = S := by omega
      rw [if_pos hb] at h
      exact bk_X6_isHadAgainstAll_2 (ge_yes hc.1.2.1 h)
    | succ r ih =>
      intro j hj hb
      refine bk_X6_isHadAgainstAll_2 (ge_no hc.1.2.1 (by omega) (by omega) ?_)
      rw [nI_1]
      refine ⟨fun c => ?_, fun c => k_had hc hs (b10 (fun c2 => ?_) (fun c2 => ?_))⟩
      · have e := (nI_eq (by omega) (by omega)).mp c
        exact ih (j + 1) (by omega) (by rw [f_allB, hb, e]; simp)
      · exact ih (j + 1) (by omega) (by rw [f_allB, hb, decide_eq_true c2]; simp)
      · have hf : f_allB C a W s (j + 1) = false := by
          have hne : ¬ j = s := fun z => c (by rw [z])
          rw [f_allB, decide_eq_false hne, decide_eq_false c2]; simp
        have := allB_false hf r
        rw [show j + 1 + r = S by omega] at this
        rw [if_neg (by rw [this]; decide)] at h
        exact h
  exact key S 0 (by omega) rfl
theorem k_belov (hc : cK M P S W C) (hs : sK M 0 S W a) (h : Q (f_belov C a S W) M) : jw_M 4 mX6_beloved [vr 6 0] M Q := by
  have hS6 := hc.2.1.2.1
  have key : ∀ r j, j + r = S → Q (sp_fst (fun s => f_allB C a W s S) j r) M → jw_J 4 mX6_beloved 2 [(0, vr 6 0), (1, vi (nI j))] [] M Q := by
    intro r
    induction r with
    | zero =>
      intro j hj hq
      obtain rfl : j = S := by omega
      exact bk_X6_beloved_2 (ge_yes hc.1.2.1 hq)
    | succ r ih =>
      intro j hj hq
      refine bk_X6_beloved_2 (ge_no hc.1.2.1 (by omega) (by omega) (k_all hc hs (by omega) (b01 (fun c => ?_) (fun c => ?_))))
      · rw [sp_fst, if_pos c] at hq; exact hq
      · rw [sp_fst, if_neg c] at hq; rw [nI_1]; exact ih (j + 1) (by omega) hq
  exact en_X6_beloved (key S 0 (by omega) h)
theorem m_belov (hc : cR M P S W C) (hs : sR M S W a) (h : Q (f_belov C a S W) M) : jw_M 3 mX11_beloved [vr 11 0] M Q := by
  have hS6 := hc.2.1.2.1
  have key : ∀ r j, j + r = S → Q (sp_fst (fun s => f_allB C a W s S) j r) M → jw_J 3 mX11_beloved 2 [(0, vr 11 0), (1, vi (nI j))] [] M Q := by
    intro r
    induction r with
    | zero =>
      intro j hj hq
      obtain rfl : j = S := by omega
      exact bk_X11_beloved_2 (ge_yes hc.1.2.1 hq)
    | succ r ih =>
      intro j hj hq
      refine bk_X11_beloved_2 (ge_no hc.1.2.1 (by omega) (by omega) ?_)
      refine lp_up (P := fun i => jw_J 3 mX11_beloved 14 [(0, vr 11 0), (1, vi (nI j)), (2, vi (if f_allB C a W j i = true then 1 else 0)), (3, vi (nI i))] [] M Q) S (bk_X11_beloved_14 (ge_yes hc.1.2.1 (b01 (fun c => ?_) (fun c => ?_)))) (fun i hi ih2 => ?_)
      · rw [sp_fst, if_pos c] at hq; exact hq
      · rw [sp_fst, if_neg c] at hq; rw [nI_1]; exact ih (j + 1) (by omega) hq
      · refine bk_X11_beloved_14 (ge_no hc.1.2.1 hi (by omega) ?_)
        rw [nI_1]
        rw [f_allB] at ih2
        refine b01 (fun c => ⟨fun c2 => ?_, fun c2 => m_had hc hs (b01 (fun c3 => ?_) (fun c3 => ?_))⟩) (fun c => ?_)
        · have e := (nI_eq (by omega) (by omega)).mp c2
          rw [if_pos (by rw [c, e]; simp)] at ih2; exact ih2
        · rw [if_pos (by rw [c, decide_eq_true c3]; simp)] at ih2; exact ih2
        · have hne : ¬ i = j := fun z => c2 (by rw [z])
          rw [if_neg (by rw [decide_eq_false hne, decide_eq_false c3]; simp)] at ih2; exact ih2
        · rw [if_neg (fun z => c (Bool.and_eq_true_iff.mp z).1)] at ih2; exact ih2
  exact en_X11_beloved (key S 0 (by omega) h)
theorem k_rnd (hc : cK M P S W C) (hs : sK M 0 S W a) {x y z : Int32} (h : Q (if f_rnd C a W x y z then 1 else 0) M) : jw_M 3 mX6_goesRound [vr 6 0, vi x, vi y, vi z] M Q := by
  refine en_X6_goesRound (k_had hc hs (b01 (fun c => k_had hc hs (b01 (fun c2 => k_had hc hs (b01 (fun c3 => ?_) (fun c3 => ?_))) (fun c2 => ?_))) (fun c => ?_)))
  · rw [if_pos ⟨c, c2, c3⟩] at h; exact h
  · rw [if_neg (fun z => c3 z.2.2)] at h; exact h
  · rw [if_neg (fun z => c2 z.2.1)] at h; exact h
  · rw [if_neg (fun z => c z.1)] at h; exact h
theorem k_rings (hc : cK M P S W C) (hs : sK M 0 S W a) (h : Q (f_rings C a S W) M) : jw_M 4 mX6_rings [vr 6 0] M Q := by
  have hS6 := hc.2.1.2.1
  refine en_X6_rings ?_
  refine lp_f (S := S) (f := f_r1 C a S W) (J := fun j acc => jw_J 4 mX6_rings 4 [(0, vr 6 0), (1, vi acc), (2, vi (nI j))] [] M Q) (fun s acc hsS ih => ?_) S 0 0 (by omega) (bk_X6_rings_4 (ge_yes hc.1.2.1 h))
  refine bk_X6_rings_4 (ge_no hc.1.2.1 hsS (by omega) ?_)
  rw [nI_1]
  refine lp_f (S := S) (f := f_r2 C a S W s) (J := fun j acc => jw_J 4 mX6_rings 19 [(0, vr 6 0), (1, vi acc), (2, vi (nI s)), (3, vi (nI j))] [] M Q) (fun q acc2 hqS ih2 => ?_) (S - (s + 1)) (s + 1) acc (by omega) (bk_X6_rings_19 (ge_yes hc.1.2.1 (by rw [nI_1]; exact ih)))
  refine bk_X6_rings_19 (ge_no hc.1.2.1 hqS (by omega) ?_)
  rw [nI_1]
  refine lp_f (S := S) (f := f_r3 C a W s q) (J := fun j acc => jw_J 4 mX6_rings 35 [(0, vr 6 0), (1, vi acc), (2, vi (nI s)), (3, vi (nI q)), (4, vi (nI j))] [] M Q) (fun r acc3 hrS ih3 => ?_) (S - (q + 1)) (q + 1) acc2 (by omega) (bk_X6_rings_35 (ge_yes hc.1.2.1 (by rw [nI_1]; exact ih2)))
  refine bk_X6_rings_35 (ge_no hc.1.2.1 hrS (by omega) ?_)
  rw [nI_1]
  rw [f_r3] at ih3
  refine k_rnd hc hs (b10 (fun c => ?_) (fun c => k_rnd hc hs (b01 (fun c2 => ?_) (fun c2 => ?_))))
  · rw [if_pos (Or.inl c)] at ih3; exact ih3
  · rw [if_pos (Or.inr c2)] at ih3; exact ih3
  · rw [if_neg (fun z => z.elim c c2)] at ih3; exact ih3
theorem m_rings (hc : cR M P S W C) (hs : sR M S W a) (h : Q (f_rings C a S W) M) : jw_M 3 mX11_rings [vr 11 0] M Q := by
  have hS6 := hc.2.1.2.1
  refine en_X11_rings ?_
  refine lp_f (S := S) (f := f_r1 C a S W) (J := fun j acc => jw_J 3 mX11_rings 4 [(0, vr 11 0), (1, vi acc), (2, vi (nI j))] [] M Q) (fun s acc hsS ih => ?_) S 0 0 (by omega) (bk_X11_rings_4 (ge_yes hc.1.2.1 h))
  refine bk_X11_rings_4 (ge_no hc.1.2.1 hsS (by omega) ?_)
  rw [nI_1]
  refine lp_f (S := S) (f := f_r2 C a S W s) (J := fun j acc => jw_J 3 mX11_rings 16 [(0, vr 11 0), (1, vi acc), (2, vi (nI s)), (3, vi (nI j))] [] M Q) (fun q acc2 hqS ih2 => ?_) (S - (s + 1)) (s + 1) acc (by omega) (bk_X11_rings_16 (ge_yes hc.1.2.1 (by rw [nI_1]; exact ih)))
  refine bk_X11_rings_16 (ge_no hc.1.2.1 hqS (by omega) ?_)
  rw [nI_1]
  refine lp_f (S := S) (f := f_r3 C a W s q) (J := fun j acc => jw_J 3 mX11_rings 29 [(0, vr 11 0), (1, vi acc), (2, vi (nI s)), (3, vi (nI q)), (4, vi (nI j))] [] M Q) (fun r acc3 hrS ih3 => ?_) (S - (q + 1)) (q + 1) acc2 (by omega) (bk_X11_rings_29 (ge_yes hc.1.2.1 (by rw [nI_1]; exact ih2)))
  refine bk_X11_rings_29 (ge_no hc.1.2.1 hrS (by omega) ?_)
  rw [nI_1]
  have hpos : (f_rnd C a W (nI s) (nI q) (nI r) ∨ f_rnd C a W (nI s) (nI r) (nI q)) → jw_J 3 mX11_rings 29 [(0, vr 11 0), (1, vi (acc3 + 1)), (2, vi (nI s)), (3, vi (nI q)), (4, vi (nI (r + 1)))] [] M Q := fun z => by rw [f_r3, if_pos z] at ih3; exact ih3
  have hneg : ¬ (f_rnd C a W (nI s) (nI q) (nI r) ∨ f_rnd C a W (nI s) (nI r) (nI q)) → jw_J 3 mX11_rings 29 [(0, vr 11 0), (1, vi (acc3 + 0)), (2, vi (nI s)), (3, vi (nI q)), (4, vi (nI (r + 1)))] [] M Q := fun z => by rw [f_r3, if_neg z] at ih3; rw [i_add0]; exact ih3
  clear ih3
  refine m_had hc hs (b01 (fun c1 => ?_) (fun c1 => ?_))
  · refine m_had hc hs (b01 (fun c2 => ?_) (fun c2 => ?_))
    · refine m_had hc hs (b01 (fun c3 => ?_) (fun c3 => ?_))
      · have t := hpos (Or.inl ⟨c1, c2, c3⟩)
        exact m_had hc hs (b01 (fun _ => m_had hc hs (b01 (fun _ => m_had hc hs (b01 (fun _ => t) (fun _ => t))) (fun _ => t))) (fun _ => t))
      · have no : ¬ f_rnd C a W (nI s) (nI q) (nI r) := fun z => c3 z.2.2
        exact m_had hc hs (b01 (fun d1 => m_had hc hs (b01 (fun d2 => m_had hc hs (b01 (fun d3 => hpos (Or.inr ⟨d1, d2, d3⟩)) (fun d3 => hneg (fun z => z.elim no (fun y => d3 y.2.2))))) (fun d2 => hneg (fun z => z.elim no (fun y => d2 y.2.1))))) (fun d1 => hneg (fun z => z.elim no (fun y => d1 y.1))))
    · have no : ¬ f_rnd C a W (nI s) (nI q) (nI r) := fun z => c2 z.2.1
      exact m_had hc hs (b01 (fun d1 => m_had hc hs (b01 (fun d2 => m_had hc hs (b01 (fun d3 => hpos (Or.inr ⟨d1, d2, d3⟩)) (fun d3 => hneg (fun z => z.elim no (fun y => d3 y.2.2))))) (fun d2 => hneg (fun z => z.elim no (fun y => d2 y.2.1))))) (fun d1 => hneg (fun z => z.elim no (fun y => d1 y.1))))
  · have no : ¬ f_rnd C a W (nI s) (nI q) (nI r) := fun z => c1 z.1
    exact m_had hc hs (b01 (fun d1 => m_had hc hs (b01 (fun d2 => m_had hc hs (b01 (fun d3 => hpos (Or.inr ⟨d1, d2, d3⟩)) (fun d3 => hneg (fun z => z.elim no (fun y => d3 y.2.2))))) (fun d2 => hneg (fun z => z.elim no (fun y => d2 y.2.1))))) (fun d1 => hneg (fun z => z.elim no (fun y => d1 y.1))))
end QU
theorem t_fault : Both 0 mX10_fault 0 mX11_fault [] := by
  intro M I
  obtain ⟨P, S, W, C, a, U, hh, L, x, c, u, v, b, p, q, kp, im, dr, hc, hs, hh, ht, -⟩ := id I
  exact en_X10_fault (en_X11_fault ⟨ht.2.2, I⟩)
theorem t_told (a1 : Int32) : Both 5 mX10_told 5 mX11_told [vi a1] := by
  intro M I
  obtain ⟨P, S, W, C, a, U, h0, L, x, c, u, v, b, p, q, kp, im, dr, ⟨hc, hr, hw⟩, ⟨hs, hm, hp⟩, hh, ht, hy, hb, -⟩ := id I
  have key : jw_M 5 mX11_told [vr 11 0, vi a1] M (fun y M2 => sw a1 [C 4 0, nI P, nI S, nI W, nI L, a 5 0, f_stand a S, f_empty a P S, f_out C a S W, f_belov C a S W, f_rings C a S W, nI c, nI b, nI U] (-1000000002) = y ∧ Inv M2) := by
    refine en_X11_told ⟨fun z => ⟨sw_out z rfl, I⟩, fun z => ⟨?_, I⟩, fun z => ⟨?_, I⟩, fun z => ⟨?_, I⟩, fun z => ⟨?_, I⟩, fun z => ⟨?_, I⟩, fun z => ⟨vp_in_nI (n := 32) (by decide) (by decide), ?_, I⟩, fun z => m_standers hr hm ⟨?_, I⟩, fun z => m_empty hr hm ⟨?_, I⟩, fun z => m_out hr hm ⟨?_, I⟩, fun z => m_belov hr hm ⟨?_, I⟩, fun z => m_rings hr hm ⟨?_, I⟩, fun z => ⟨?_, I⟩, fun z => ⟨?_, I⟩, fun z => ⟨?_, I⟩⟩
    · rw [sw_at (k := 0) z (Nat.le_of_ble_eq_true rfl), hr.1.2.2.2]; rfl
    · rw [sw_at (k := 1) z (Nat.le_of_ble_eq_true rfl), hr.1.1]; rfl
    · rw [sw_at (k := 2) z (Nat.le_of_ble_eq_true rfl), hr.1.2.1]; rfl
    · rw [sw_at (k := 3) z (Nat.le_of_ble_eq_true rfl), hr.1.2.2.1]; rfl
    · rw [sw_at (k := 4) z (Nat.le_of_ble_eq_true rfl), ht.1.2.1]; rfl
    · rw [sw_at (k := 5) z (Nat.le_of_ble_eq_true rfl), show (32 : Int32).toNatClampNeg = 32 from cl_i (j := 32) (by decide), hm.2.2]; rfl
    · rw [sw_at (k := 6) z (Nat.le_of_ble_eq_true rfl)]; rfl
    · rw [sw_at (k := 7) z (Nat.le_of_ble_eq_true rfl)]; rfl
    · rw [sw_at (k := 8) z (Nat.le_of_ble_eq_true rfl)]; rfl
    · rw [sw_at (k := 9) z (Nat.le_of_ble_eq_true rfl)]; rfl
    · rw [sw_at (k := 10) z (Nat.le_of_ble_eq_true rfl)]; rfl
    · rw [sw_at (k := 11) z (Nat.le_of_ble_eq_true rfl), hy.1.2.1]; rfl
    · rw [sw_at (k := 12) z (Nat.le_of_ble_eq_true rfl), hb.1.2.1]; rfl
    · rw [sw_at (k := 13) z (Nat.le_of_ble_eq_true rfl), hh.2.1.1]; rfl
  refine en_X10_told ⟨fun z => ?_, fun z => ?_, fun z => ?_, fun z => ?_, fun z => ?_, fun z => ?_, fun z => ?_, fun z => k_standers (by decide) hc hs hp ?_, fun z => k_empty (by decide) hc hs ?_, fun z => k_out (by decide) hc hs hp ?_, fun z => k_belov hc hs ?_, fun z => k_rings hc hs ?_, fun z => ?_, fun z => ?_, fun z => ?_⟩
  · rw [sw_out z rfl] at key; exact key
  · rw [sw_at (k := 0) z (Nat.le_of_ble_eq_true rfl)] at key; rw [hc.1.2.2.2]; exact key
  · rw [sw_at (k := 1) z (Nat.le_of_ble_eq_true rfl)] at key; rw [hc.1.1]; exact key
  · rw [sw_at (k := 2) z (Nat.le_of_ble_eq_true rfl)] at key; rw [hc.1.2.1]; exact key
  · rw [sw_at (k := 3) z (Nat.le_of_ble_eq_true rfl)] at key; rw [hc.1.2.2.1]; exact key
  · rw [sw_at (k := 4) z (Nat.le_of_ble_eq_true rfl)] at key; rw [ht.1.1]; exact key
  · rw [sw_at (k := 5) z (Nat.le_of_ble_eq_true rfl)] at key; rw [hs.2.2]; exact key
  · rw [sw_at (k := 6) z (Nat.le_of_ble_eq_true rfl)] at key; exact key
  · rw [sw_at (k := 7) z (Nat.le_of_ble_eq_true rfl)] at key; exact key
  · rw [sw_at (k := 8) z (Nat.le_of_ble_eq_true rfl)] at key; exact key
  · rw [sw_at (k := 9) z (Nat.le_of_ble_eq_true rfl)] at key; exact key
  · rw [sw_at (k := 10) z (Nat.le_of_ble_eq_true rfl)] at key; exact key
  · rw [sw_at (k := 11) z (Nat.le_of_ble_eq_true rfl)] at key; rw [hy.1.1]; exact key
  · rw [sw_at (k := 12) z (Nat.le_of_ble_eq_true rfl)] at key; rw [hb.1.1]; exact key
  · rw [sw_at (k := 13) z (Nat.le_of_ble_eq_true rfl)] at key; rw [hh.1.1]; exact key
theorem t_plinth (a1 a2 : Int32) : Both 2 mX10_plinth 2 mX11_plinth [vi a1, vi a2] := by
  intro M I
  obtain ⟨P, S, W, C, a, U, h0, L, x, c, u, v, b, p, q, kp, im, dr, ⟨hc, hr, hw⟩, ⟨hs, hm, hp⟩, -⟩ := id I
  have hP5 := hc.2.1.1
  by_cases h1 : sp_has P a1
  · obtain ⟨i, hi, rfl⟩ := h1.ex (by omega)
    have h5 : vp_in (nI i) 5 := vp_in_nI (by omega) (by decide)
    have key : jw_M 2 mX11_plinth [vr 11 0, vi (nI i), vi a2] M (fun y M2 => sw a2 [C 0 i, sp_who (a 0) (nI i) 0 S, f_under a W (nI i), f_votes C W (f_under a W (nI i))] (-1000000002) = y ∧ Inv M2) := by
      refine en_X11_plinth (m_isP hr ?_)
      rw [if_pos h1]
      refine ⟨fun _ => ⟨fun z => ⟨sw_out z rfl, I⟩, fun z => ⟨h5, ?_, I⟩, fun z => m_who hr hm ⟨?_, I⟩, fun z => m_under hr hm ⟨?_, I⟩, fun z => m_under hr hm (m_votes hr ⟨?_, I⟩)⟩, fun z => absurd z (by decide)⟩
      · rw [sw_at (k := 0) z (Nat.le_of_ble_eq_true rfl), cl_i (by omega), hr.2.2.1 i hi]; rfl
      · rw [sw_at (k := 1) z (Nat.le_of_ble_eq_true rfl)]; rfl
      · rw [sw_at (k := 2) z (Nat.le_of_ble_eq_true rfl)]; rfl
      · rw [sw_at (k := 3) z (Nat.le_of_ble_eq_true rfl)]; rfl
    refine en_X10_plinth (k_hasP hc ?_)
    rw [if_pos h1]
    refine ⟨fun _ => ⟨fun z => ?_, fun z => ⟨h5, ?_⟩, fun z => k_who (by decide) hc hs ?_, fun z => k_under (by decide) hc hs ?_, fun z => k_under (by decide) hc hs (k_votes hc ?_)⟩, fun z => absurd z (by decide)⟩
    · rw [sw_out z rfl] at key; exact key
    · rw [sw_at (k := 0) z (Nat.le_of_ble_eq_true rfl)] at key; rw [cl_i (by omega), hc.2.2.1 i hi]; exact key
    · rw [sw_at (k := 1) z (Nat.le_of_ble_eq_true rfl)] at key; exact key
    · rw [sw_at (k := 2) z (Nat.le_of_ble_eq_true rfl)] at key; exact key
    · rw [sw_at (k := 3) z (Nat.le_of_ble_eq_true rfl)] at key; exact key
  · refine en_X10_plinth (k_hasP hc ?_)
    rw [if_neg h1]
    refine ⟨fun z => absurd rfl z, fun _ => en_X11_plinth (m_isP hr ?_)⟩
    rw [if_neg h1]
    exact ⟨fun z => absurd rfl z, fun _ => ⟨rfl, I⟩⟩
theorem t_walker (a1 a2 : Int32) : Both 1 mX10_walker 2 mX11_walker [vi a1, vi a2] := by
  intro M I
  obtain ⟨P, S, W, C, a, U, h0, L, x, c, u, v, b, p, q, kp, im, dr, ⟨hc, hr, hw⟩, ⟨hs, hm, hp⟩, -⟩ := id I
  have hW7 := hc.2.1.2.2
  by_cases h1 : sp_has W a1
  · obtain ⟨i, hi, rfl⟩ := h1.ex (by omega)
    have h7 : vp_in (nI i) 7 := vp_in_nI (by omega) (by decide)
    have e18 : (18 : Int32) + nI i = nI (18 + i) := nI_add 18 i
    have e25 : (25 : Int32) + nI i = nI (25 + i) := nI_add 25 i
    have key : jw_M 2 mX11_walker [vr 11 0, vi (nI i), vi a2] M (fun y M2 => sw a2 [a 3 i, C 3 i, a 4 i] (-1000000002) = y ∧ Inv M2) := by
      refine en_X11_walker (m_isW hr ?_)
      rw [if_pos h1, e18, e25]
      refine ⟨fun _ => ⟨fun z => ⟨sw_out z rfl, I⟩, fun z => ⟨vp_in_nI (by omega) (by decide), ?_, I⟩, fun z => ⟨h7, ?_, I⟩, fun z => ⟨vp_in_nI (by omega) (by decide), ?_, I⟩⟩, fun z => absurd z (by decide)⟩
      · rw [sw_at (k := 0) z (Nat.le_of_ble_eq_true rfl), cl_i (by omega), (hm.2.1 i hi).1]; rfl
      · rw [sw_at (k := 1) z (Nat.le_of_ble_eq_true rfl), cl_i (by omega), hr.2.2.2.2 i hi]; rfl
      · rw [sw_at (k := 2) z (Nat.le_of_ble_eq_true rfl), cl_i (by omega), (hm.2.1 i hi).2]; rfl
    refine en_X10_walker (k_hasW hc ?_)
    rw [if_pos h1, cl_i (by omega), (hs.2.1 i hi).1, (hs.2.1 i hi).2, hc.2.2.2.2 i hi]
    refine ⟨fun _ => ⟨fun z => ?_, fun z => ⟨h7, ?_⟩, fun z => ⟨h7, ?_⟩, fun z => ⟨h7, ?_⟩⟩, fun z => absurd z (by decide)⟩
    · rw [sw_out z rfl] at key; exact key
    · rw [sw_at (k := 0) z (Nat.le_of_ble_eq_true rfl)] at key; exact key
    · rw [sw_at (k := 1) z (Nat.le_of_ble_eq_true rfl)] at key; exact key
    · rw [sw_at (k := 2) z (Nat.le_of_ble_eq_true rfl)] at key; exact key
  · refine en_X10_walker (k_hasW hc ?_)
    rw [if_neg h1]
    refine ⟨fun z => absurd rfl z, fun _ => en_X11_walker (m_isW hr ?_)⟩
    rw [if_neg h1]
    exact ⟨fun z => absurd rfl z, fun _ => ⟨rfl, I⟩⟩
theorem t_statue (a1 a2 : Int32) : Both 4 mX10_statue 4 mX11_statue [vi a1, vi a2] := by
  intro M I
  obtain ⟨P, S, W, C, a, U, h0, L, x, c, u, v, b, p, q, kp, im, dr, ⟨hc, hr, hw⟩, ⟨hs, hm, hp⟩, -⟩ := id I
  have hS6 := hc.2.1.2.1
  by_cases h1 : sp_has S a1
  · obtain ⟨i, hi, rfl⟩ := h1.ex (by omega)
    have h6 : vp_in (nI i) 6 := vp_in_nI (by omega) (by decide)
    have e6 : (6 : Int32) + nI i = nI (6 + i) := nI_add 6 i
    have e12 : (12 : Int32) + nI i = nI (12 + i) := nI_add 12 i
    have key : jw_M 4 mX11_statue [vr 11 0, vi (nI i), vi a2] M (fun y M2 => sw a2 [C 1 i, C 2 i, a 0 i, a 1 i, a 2 i, f_margin C a W i, f_like a W (nI i)] (-1000000002) = y ∧ Inv M2) := by
      refine en_X11_statue (m_isS hr ?_)
      rw [if_pos h1, e6, e12]
      refine ⟨fun _ => ⟨fun z => ⟨sw_out z rfl, I⟩, fun z => ⟨h6, ?_, I⟩, fun z => ⟨h6, ?_, I⟩, fun z => ⟨vp_in_nI (by omega) (by decide), ?_, I⟩, fun z => ⟨vp_in_nI (by omega) (by decide), ?_, I⟩, fun z => ⟨vp_in_nI (by omega) (by decide), ?_, I⟩, fun z => m_stands hr hm hi (b01 (fun c => m_leadAt hr hm hi ⟨?_, I⟩) (fun c => ⟨?_, I⟩)), fun z => m_like hr hm ⟨?_, I⟩⟩, fun z => absurd z (by decide)⟩
      · rw [sw_at (k := 0) z (Nat.le_of_ble_eq_true rfl), cl_i (by omega), (hr.2.2.2.1 i hi).1]; rfl
      · rw [sw_at (k := 1) z (Nat.le_of_ble_eq_true rfl), cl_i (by omega), (hr.2.2.2.1 i hi).2]; rfl
      · rw [sw_at (k := 2) z (Nat.le_of_ble_eq_true rfl), cl_i (by omega), (hm.1 i hi).1]; rfl
      · rw [sw_at (k := 3) z (Nat.le_of_ble_eq_true rfl), cl_i (by omega), (hm.1 i hi).2.1]; rfl
      · rw [sw_at (k := 4) z (Nat.le_of_ble_eq_true rfl), cl_i (by omega), (hm.1 i hi).2.2]; rfl
      · rw [sw_at (k := 5) z (Nat.le_of_ble_eq_true rfl)]; show f_margin C a W i = _; rw [f_margin, if_pos c, Int32.add_comm]
      · rw [sw_at (k := 5) z (Nat.le_of_ble_eq_true rfl)]; show f_margin C a W i = _; rw [f_margin, if_neg c]
      · rw [sw_at (k := 6) z (Nat.le_of_ble_eq_true rfl)]; rfl
    refine en_X10_statue (k_hasS hc ?_)
    rw [if_pos h1, cl_i (by omega), (hs.1 i hi).1, (hs.1 i hi).2.1, (hs.1 i hi).2.2, (hc.2.2.2.1 i hi).1, (hc.2.2.2.1 i hi).2]
    refine ⟨fun _ => ⟨fun z => ?_, fun z => ⟨h6, ?_⟩, fun z => ⟨h6, ?_⟩, fun z => ⟨h6, ?_⟩, fun z => ⟨h6, ?_⟩, fun z => ⟨h6, ?_⟩, fun z => k_margin (by decide) hc hs hp hi ?_, fun z => k_like (by decide) hc hs ?_⟩, fun z => absurd z (by decide)⟩
    · rw [sw_out z rfl] at key; exact key
    · rw [sw_at (k := 0) z (Nat.le_of_ble_eq_true rfl)] at key; exact key
    · rw [sw_at (k := 1) z (Nat.le_of_ble_eq_true rfl)] at key; exact key
    · rw [sw_at (k := 2) z (Nat.le_of_ble_eq_true rfl)] at key; exact key
    · rw [sw_at (k := 3) z (Nat.le_of_ble_eq_true rfl)] at key; exact key
    · rw [sw_at (k := 4) z (Nat.le_of_ble_eq_true rfl)] at key; exact key
    · rw [sw_at (k := 5) z (Nat.le_of_ble_eq_true rfl)] at key; exact key
    · rw [sw_at (k := 6) z (Nat.le_of_ble_eq_true rfl)] at key; exact key
  · refine en_X10_statue (k_hasS hc ?_)
    rw [if_neg h1]
    refine ⟨fun z => absurd rfl z, fun _ => en_X11_statue (m_isS hr ?_)⟩
    rw [if_neg h1]
    exact ⟨fun z => absurd rfl z, fun _ => ⟨rfl, I⟩⟩
theorem t_mostHave (a1 a2 : Int32) : Both 3 mX10_mostHave 3 mX11_mostHave [vi a1, vi a2] := by
  intro M I
  obtain ⟨P, S, W, C, a, U, h0, L, x, c, u, v, b, p, q, kp, im, dr, ⟨hc, hr, hw⟩, ⟨hs, hm, hp⟩, -⟩ := id I
  refine en_X10_mostHave (k_hasS hc (b01 (fun h1 => k_hasS hc (b01 (fun h2 => ⟨fun h3 => k_had hc hs (b01 (fun h4 => ?_) (fun h4 => ?_)), fun h3 => ?_⟩) (fun h2 => ?_))) (fun h1 => ?_)))
  · refine en_X11_mostHave (m_isS hr (b01 (fun _ => m_isS hr (b01 (fun _ => ⟨fun _ => m_had hr hm (b01 (fun _ => ⟨rfl, I⟩) (fun z => absurd h4 z)), fun z => absurd z h3⟩) (fun z => absurd h2 z))) (fun z => absurd h1 z)))
  · refine en_X11_mostHave (m_isS hr (b01 (fun _ => m_isS hr (b01 (fun _ => ⟨fun _ => m_had hr hm (b01 (fun z => absurd z h4) (fun _ => ⟨rfl, I⟩)), fun z => absurd z h3⟩) (fun z => absurd h2 z))) (fun z => absurd h1 z)))
  · refine en_X11_mostHave (m_isS hr (b01 (fun _ => m_isS hr (b01 (fun _ => ⟨fun z => absurd h3 z, fun _ => ⟨rfl, I⟩⟩) (fun z => absurd h2 z))) (fun z => absurd h1 z)))
  · refine en_X11_mostHave (m_isS hr (b01 (fun _ => m_isS hr (b01 (fun z => absurd z h2) (fun _ => ⟨rfl, I⟩))) (fun z => absurd h1 z)))
  · refine en_X11_mostHave (m_isS hr (b01 (fun z => absurd z h1) (fun _ => ⟨rfl, I⟩)))
