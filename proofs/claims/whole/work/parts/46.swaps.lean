/-! ===== swaps ===== -/
abbrev f_vw (C a : Ab) (s : Nat) : Int32 := C 0 (a 0 s).toNatClampNeg
abbrev f_sw (C a : Ab) (s q : Nat) : Prop := (¬ a 0 s = -1 ∧ ¬ a 0 q = -1) ∧ ¬ f_vw C a q < C 2 s ∧ ¬ f_vw C a s < C 2 q ∧ (f_vw C a s < C 2 s ∨ f_vw C a q < C 2 q)
abbrev SwA : Type := Option Int32 × Nat
def g_2 (C a : Ab) (i : Int32) (s q : Nat) (acc : SwA) : SwA := match acc.1 with
  | some _ => acc
  | none => if f_sw C a s q then (if 0 ≤ i ∧ nI acc.2 = i then (some ((100 * nI s) + nI q), acc.2) else (none, acc.2 + 1)) else acc
def g_1 (C a : Ab) (S : Nat) (i : Int32) (s : Nat) (acc : SwA) : SwA := lpF (g_2 C a i s) (S - (s + 1)) (s + 1) acc
def f_swp (C a : Ab) (S : Nat) (i : Int32) : SwA := lpF (g_1 C a S i) S 0 (none, 0)
def v_sw (x : SwA) (i : Int32) : Int32 := match x.1 with
  | some v => v
  | none => if i = -1 then nI x.2 else -1
theorem g2_le {C a : Ab} {i : Int32} {s q : Nat} {acc : SwA} {n : Nat} (h : acc.2 ≤ n) : (g_2 C a i s q acc).2 ≤ n + 1 := by
  unfold g_2
  split
  · omega
  · split
    · split
      · exact Nat.le_succ_of_le h
      · exact Nat.succ_le_succ h
    · omega
theorem lpF_le {C a : Ab} {i : Int32} {s S : Nat} : ∀ (r q : Nat) (acc : SwA) (n : Nat), acc.2 ≤ n → (lpF (g_2 C a i s) r q acc).2 ≤ n + r
  | 0, _, _, _, h => h
  | r + 1, q, acc, n, h => by
    rw [lpF]
    have := lpF_le (C := C) (a := a) (i := i) (s := s) (S := S) r (q + 1) (g_2 C a i s q acc) (n + 1) (g2_le h)
    omega
/-- a negative place is never found -/
theorem swp_neg {C a : Ab} {S : Nat} {i : Int32} (h : ¬ 0 ≤ i) : (f_swp C a S i).1 = none := by
  show (lpF (g_1 C a S i) S 0 (none, 0)).1 = none
  refine lpF_inv (f := g_1 C a S i) (S := S) (I := fun z : SwA => z.1 = none) (fun s acc _ ha => ?_) S 0 (none, 0) (by omega) rfl
  show (lpF (g_2 C a i s) (S - (s + 1)) (s + 1) acc).1 = none
  refine lpF_inv (f := g_2 C a i s) (S := S - (s + 1) + (s + 1)) (I := fun z => z.1 = none) (fun q acc2 _ ha2 => ?_) (S - (s + 1)) (s + 1) acc (by omega) ha
  obtain ⟨o, n⟩ := acc2
  have ha2 : o = none := ha2
  subst ha2
  show (if f_sw C a s q then (if 0 ≤ i ∧ nI n = i then (some ((100 * nI s) + nI q), n) else (none, n + 1)) else (none, n) : SwA).1 = none
  split
  · rw [if_neg (fun z => h z.1)]
  · rfl
section SW
variable {P S W : Nat} {C a : Ab} {M : jw_Mem} {Q : Int32 → jw_Mem → Prop}
theorem k_would (hc : cK M P S W C) (hs : sK M 0 S W a) (hp : plOK P S a) {s q : Nat} (hsS : s < S) (hqS : q < S) (h : Q (if f_sw C a s q then 1 else 0) M) : jw_M 2 mX5_wouldSwap [vr 5 0, vi (nI s), vi (nI q)] M Q := by
  have hP5 := hc.2.1.1
  have hS6 := hc.2.1.2.1
  refine en_X5_wouldSwap (k_stands (by decide) hc hs hp hsS (b01 (fun c1 => k_stands (by decide) hc hs hp hqS (b10 (fun c2 => ⟨vp_in_nI (by omega) (by decide), vp_in_nI (by omega) (by decide), ?_⟩) (fun c2 => ?_))) (fun c1 => ?_)))
  · obtain ⟨p1, hp1, e1⟩ := pl_at hp hsS c1
    obtain ⟨p2, hp2, e2⟩ := pl_at hp hqS c2
    have v1 : f_vw C a s = C 0 p1 := by show C 0 (a 0 s).toNatClampNeg = _; rw [e1, cl_i (by omega)]
    have v2 : f_vw C a q = C 0 p2 := by show C 0 (a 0 q).toNatClampNeg = _; rw [e2, cl_i (by omega)]
    rw [cl_i (by omega), cl_i (by omega), (hs.1 s hsS).1, (hs.1 q hqS).1, e1, e2]
    refine k_pleases hc hp2 hsS (b01 (fun z1 => k_pleases hc hp1 hqS (b01 (fun z2 => k_pleases hc hp1 hsS (b01 (fun z3 => k_pleases hc hp2 hqS (b10 (fun z4 => ?_) (fun z4 => ?_))) (fun z3 => ?_))) (fun z2 => ?_))) (fun z1 => ?_))
    · rw [if_neg (fun y => y.2.2.2.elim (fun t => z3 (v1 ▸ t)) (fun t => z4 (v2 ▸ t)))] at h; exact h
    · rw [if_pos ⟨⟨c1, c2⟩, by rw [v2]; exact z1, by rw [v1]; exact z2, Or.inr (by rw [v2]; exact Decidable.not_not.mp z4)⟩] at h; exact h
    · rw [if_pos ⟨⟨c1, c2⟩, by rw [v2]; exact z1, by rw [v1]; exact z2, Or.inl (by rw [v1]; exact Decidable.not_not.mp z3)⟩] at h; exact h
    · rw [if_neg (fun y => z2 (v1 ▸ y.2.2.1))] at h; exact h
    · rw [if_neg (fun y => z1 (v2 ▸ y.2.1))] at h; exact h
  · rw [if_neg (fun y => c2 y.1.2)] at h; exact h
  · rw [if_neg (fun y => c1 y.1.1)] at h; exact h
theorem k_nth (hc : cK M P S W C) (hs : sK M 0 S W a) (hp : plOK P S a) {i : Int32} (hi : 0 ≤ i) (h : Q (v_sw (f_swp C a S i) i) M) : jw_M 3 mX5_nthSwap [vr 5 0, vi i] M Q := by
  have hS6 := hc.2.1.2.1
  have hn1 : ¬ i = -1 := fun z => by rw [z] at hi; exact absurd hi (by decide)
  refine en_X5_nthSwap ?_
  refine lp_f (S := S) (f := g_1 C a S i) (J := fun j acc => acc.2 ≤ 6 * j → (match acc.1 with | some v => Q v M | none => jw_J 3 mX5_nthSwap 4 [(0, vr 5 0), (1, vi i), (2, vi (nI acc.2)), (3, vi (nI j))] [] M Q)) (fun s acc hsS ih hb => ?_) S 0 (none, 0) (by omega) (fun _ => ?_) (Nat.le_refl _)
  · have key : acc.2 ≤ 6 * s + (s + 1) → (match acc.1 with | some v => Q v M | none => jw_J 3 mX5_nthSwap 20 [(0, vr 5 0), (1, vi i), (2, vi (nI acc.2)), (3, vi (nI s)), (4, vi (nI (s + 1)))] [] M Q) := by
      refine lp_f (S := S) (f := g_2 C a i s) (J := fun q acc => acc.2 ≤ 6 * s + q → (match acc.1 with | some v => Q v M | none => jw_J 3 mX5_nthSwap 20 [(0, vr 5 0), (1, vi i), (2, vi (nI acc.2)), (3, vi (nI s)), (4, vi (nI q))] [] M Q)) (fun q acc2 hqS ih2 hb2 => ?_) (S - (s + 1)) (s + 1) acc (by omega) (fun hb2 => ?_)
      · have ih2 := ih2 (g2_le hb2)
        obtain ⟨o, n⟩ := acc2
        cases o with
        | some v => exact ih2
        | none =>
          show jw_J 3 mX5_nthSwap 20 [(0, vr 5 0), (1, vi i), (2, vi (nI n)), (3, vi (nI s)), (4, vi (nI q))] [] M Q
          refine bk_X5_nthSwap_20 (ge_no hc.1.2.1 hqS (by omega) (k_would hc hs hp hsS hqS (b01 (fun z => ⟨fun z2 => ?_, fun z2 => ?_⟩) (fun z => ?_))))
          · have e : g_2 C a i s q (none, n) = (none, n + 1) := by
              unfold g_2
              rw [if_pos z, if_neg (fun y => z2 y.2)]
            rw [e] at ih2
            rw [nI_1, nI_1]; exact ih2
          · have e : g_2 C a i s q (none, n) = (some ((100 * nI s) + nI q), n) := by
              unfold g_2
              rw [if_pos z, if_pos ⟨hi, z2⟩]
            rw [e] at ih2
            exact ih2
          · have e : g_2 C a i s q (none, n) = (none, n) := by
              unfold g_2
              rw [if_neg z]
            rw [e] at ih2
            rw [nI_1]; exact ih2
      · have hb3 : (lpF (g_2 C a i s) (S - (s + 1)) (s + 1) acc).2 ≤ 6 * (s + 1) := Nat.le_trans (lpF_le (S := S) (S - (s + 1)) (s + 1) acc (6 * s) hb) (by omega)
        have ih := ih hb3
        rw [g_1] at ih
        generalize lpF (g_2 C a i s) (S - (s + 1)) (s + 1) acc = acc3 at ih ⊢
        obtain ⟨o, n⟩ := acc3
        cases o with
        | some v => exact ih
        | none => exact bk_X5_nthSwap_20 (ge_yes hc.1.2.1 (by rw [nI_1]; exact ih))
    have key := key (by omega)
    obtain ⟨o, n⟩ := acc
    cases o with
    | some v => exact key
    | none => exact bk_X5_nthSwap_4 (ge_no hc.1.2.1 hsS (by omega) (by rw [nI_1]; exact key))
  · have h2 := h
    rw [f_swp] at h2
    generalize lpF (g_1 C a S i) S 0 (none, 0) = acc at h2 ⊢
    obtain ⟨o, n⟩ := acc
    cases o with
    | some v => exact h2
    | none =>
      refine bk_X5_nthSwap_4 (ge_yes hc.1.2.1 ?_)
      unfold v_sw at h2
      rw [if_neg hn1] at h2
      exact h2
theorem k_many (hc : cK M P S W C) (hs : sK M 0 S W a) (hp : plOK P S a) (h : Q (v_sw (f_swp C a S (-1)) (-1)) M) : jw_M 3 mX5_howManySwaps [vr 5 0] M Q := by
  have hS6 := hc.2.1.2.1
  have hneg : ¬ (0 : Int32) ≤ -1 := by decide
  refine en_X5_howManySwaps ?_
  refine lp_f (S := S) (f := g_1 C a S (-1)) (J := fun j acc => (match acc.1 with | some v => True | none => jw_J 3 mX5_howManySwaps 4 [(0, vr 5 0), (1, vi (nI acc.2)), (2, vi (nI j))] [] M Q)) (fun s acc hsS ih => ?_) S 0 (none, 0) (by omega) ?_
  · have key : (match acc.1 with | some v => True | none => jw_J 3 mX5_howManySwaps 19 [(0, vr 5 0), (1, vi (nI acc.2)), (2, vi (nI s)), (3, vi (nI (s + 1)))] [] M Q) := by
      refine lp_f (S := S) (f := g_2 C a (-1) s) (J := fun q acc => (match acc.1 with | some v => True | none => jw_J 3 mX5_howManySwaps 19 [(0, vr 5 0), (1, vi (nI acc.2)), (2, vi (nI s)), (3, vi (nI q))] [] M Q)) (fun q acc2 hqS ih2 => ?_) (S - (s + 1)) (s + 1) acc (by omega) ?_
      · obtain ⟨o, n⟩ := acc2
        cases o with
        | some v => exact trivial
        | none =>
          show jw_J 3 mX5_howManySwaps 19 [(0, vr 5 0), (1, vi (nI n)), (2, vi (nI s)), (3, vi (nI q))] [] M Q
          refine bk_X5_howManySwaps_19 (ge_no hc.1.2.1 hqS (by omega) (k_would hc hs hp hsS hqS (b01 (fun z => ?_) (fun z => ?_))))
          · have e : g_2 C a (-1) s q (none, n) = (none, n + 1) := by
              unfold g_2
              rw [if_pos z, if_neg (fun y => hneg y.1)]
            rw [e] at ih2
            rw [nI_1, nI_1]; exact ih2
          · have e : g_2 C a (-1) s q (none, n) = (none, n) := by
              unfold g_2
              rw [if_neg z]
            rw [e] at ih2
            rw [nI_1]; exact ih2
      · rw [g_1] at ih
        generalize lpF (g_2 C a (-1) s) (S - (s + 1)) (s + 1) acc = acc3 at ih ⊢
        obtain ⟨o, n⟩ := acc3
        cases o with
        | some v => exact trivial
        | none => exact bk_X5_howManySwaps_19 (ge_yes hc.1.2.1 (by rw [nI_1]; exact ih))
    obtain ⟨o, n⟩ := acc
    cases o with
    | some v => exact trivial
    | none => exact bk_X5_howManySwaps_4 (ge_no hc.1.2.1 hsS (by omega) (by rw [nI_1]; exact key))
  · have h2 := h
    rw [f_swp] at h2
    generalize lpF (g_1 C a S (-1)) S 0 (none, 0) = acc at h2 ⊢
    obtain ⟨o, n⟩ := acc
    cases o with
    | some v => exact trivial
    | none =>
      refine bk_X5_howManySwaps_4 (ge_yes hc.1.2.1 ?_)
      unfold v_sw at h2
      rw [if_pos rfl] at h2
      exact h2
theorem m_swaps (hc : cR M P S W C) (hs : sR M S W a) (hp : plOK P S a) {i : Int32} (h : Q (v_sw (f_swp C a S i) i) M) : jw_M 1 mX11_swaps [vr 11 0, vi i] M Q := by
  have hP5 := hc.2.1.1
  have hS6 := hc.2.1.2.1
  refine en_X11_swaps ?_
  refine lp_f (S := S) (f := g_1 C a S i) (J := fun j acc => acc.2 ≤ 6 * j → (match acc.1 with | some v => Q v M | none => jw_J 1 mX11_swaps 4 [(0, vr 11 0), (1, vi i), (2, vi (nI acc.2)), (3, vi (nI j))] [] M Q)) (fun s acc hsS ih hb => ?_) S 0 (none, 0) (by omega) (fun _ => ?_) (Nat.le_refl _)
  · have key : acc.2 ≤ 6 * s + (s + 1) → (match acc.1 with | some v => Q v M | none => jw_J 1 mX11_swaps 17 [(0, vr 11 0), (1, vi i), (2, vi (nI acc.2)), (3, vi (nI s)), (4, vi (nI (s + 1)))] [] M Q) := by
      refine lp_f (S := S) (f := g_2 C a i s) (J := fun q acc => acc.2 ≤ 6 * s + q → (match acc.1 with | some v => Q v M | none => jw_J 1 mX11_swaps 17 [(0, vr 11 0), (1, vi i), (2, vi (nI acc.2)), (3, vi (nI s)), (4, vi (nI q))] [] M Q)) (fun q acc2 hqS ih2 hb2 => ?_) (S - (s + 1)) (s + 1) acc (by omega) (fun hb2 => ?_)
      · have ih2 := ih2 (g2_le hb2)
        obtain ⟨o, n⟩ := acc2
        cases o with
        | some v => exact ih2
        | none =>
          have hb2 : n ≤ 6 * s + q := hb2
          show jw_J 1 mX11_swaps 17 [(0, vr 11 0), (1, vi i), (2, vi (nI n)), (3, vi (nI s)), (4, vi (nI q))] [] M Q
          have no : ¬ f_sw C a s q → jw_J 1 mX11_swaps 17 [(0, vr 11 0), (1, vi i), (2, vi (nI n)), (3, vi (nI s)), (4, vi (nI (q + 1)))] [] M Q := fun z => by
            have e : g_2 C a i s q (none, n) = (none, n) := by
              unfold g_2
              rw [if_neg z]
            rw [e] at ih2
            exact ih2
          have yes : f_sw C a s q → ((¬ nI n = i → jw_J 1 mX11_swaps 17 [(0, vr 11 0), (1, vi i), (2, vi (nI (n + 1))), (3, vi (nI s)), (4, vi (nI (q + 1)))] [] M Q) ∧ (nI n = i → Q ((100 * nI s) + nI q) M)) := fun z => ⟨fun z2 => by
            have e : g_2 C a i s q (none, n) = (none, n + 1) := by
              unfold g_2
              rw [if_pos z, if_neg (fun y => z2 y.2)]
            rw [e] at ih2
            exact ih2, fun z2 => by
            have e : g_2 C a i s q (none, n) = (some ((100 * nI s) + nI q), n) := by
              unfold g_2
              rw [if_pos z, if_pos ⟨by rw [← z2]; exact nI_pos' (by omega), z2⟩]
            rw [e] at ih2
            exact ih2⟩
          refine bk_X11_swaps_17 (ge_no hc.1.2.1 hqS (by omega) ?_)
          rw [nI_1, nI_1]
          refine m_stands hc hs hsS (b01 (fun c1 => m_stands hc hs hqS (b01 (fun c2 => ⟨vp_in_nI (by omega) (by decide), ?_⟩) (fun c2 => no (fun y => c2 y.1.2)))) (fun c1 => no (fun y => c1 y.1.1)))
          obtain ⟨p1, hp1, e1⟩ := pl_at hp hsS c1
          obtain ⟨p2, hp2, e2⟩ := pl_at hp hqS c2
          have v1 : f_vw C a s = C 0 p1 := by show C 0 (a 0 s).toNatClampNeg = _; rw [e1, cl_i (by omega)]
          have v2 : f_vw C a q = C 0 p2 := by show C 0 (a 0 q).toNatClampNeg = _; rw [e2, cl_i (by omega)]
          have w33 : ∀ t, t < 6 → vp_in (nI t) 33 := fun t ht => vp_in_nI (by omega) (by decide)
          have w6 : ∀ t, t < 6 → vp_in (nI t) 6 := fun t ht => vp_in_nI ht (by decide)
          have w5 : ∀ t, t < P → vp_in (nI t) 5 := fun t ht => vp_in_nI (by omega) (by decide)
          rw [cl_i (show q < 2 ^ 31 by omega), cl_i (show s < 2 ^ 31 by omega), (hs.1 s hsS).1, (hs.1 q hqS).1, e1, e2, cl_i (show p1 < 2 ^ 31 by omega), cl_i (show p2 < 2 ^ 31 by omega), hc.2.2.1 p1 hp1, hc.2.2.1 p2 hp2, (hc.2.2.2.1 s hsS).2, (hc.2.2.2.1 q hqS).2]
          refine ⟨w5 _ hp2, w6 _ (by omega), fun z1 => no (fun y => y.2.1 (by rw [v2]; exact z1)), fun z1 => ⟨w33 _ (by omega), w5 _ hp1, w6 _ (by omega), fun z2 => no (fun y => y.2.2.1 (by rw [v1]; exact z2)), fun z2 => ⟨w33 _ (by omega), w5 _ hp1, w6 _ (by omega), fun z3 => yes ⟨⟨c1, c2⟩, by rw [v2]; exact z1, by rw [v1]; exact z2, Or.inl (by rw [v1]; exact z3)⟩, fun z3 => ⟨w33 _ (by omega), w5 _ hp2, w6 _ (by omega), fun z4 => no (fun y => y.2.2.2.elim (fun t => z3 (v1 ▸ t)) (fun t => absurd (v2 ▸ t) (Int32.not_lt.mpr z4))), fun z4 => yes ⟨⟨c1, c2⟩, by rw [v2]; exact z1, by rw [v1]; exact z2, Or.inr (by rw [v2]; exact Int32.not_le.mp z4)⟩⟩⟩⟩⟩
      · have hb3 : (lpF (g_2 C a i s) (S - (s + 1)) (s + 1) acc).2 ≤ 6 * (s + 1) := Nat.le_trans (lpF_le (S := S) (S - (s + 1)) (s + 1) acc (6 * s) hb) (by omega)
        have ih := ih hb3
        rw [g_1] at ih
        generalize lpF (g_2 C a i s) (S - (s + 1)) (s + 1) acc = acc3 at ih ⊢
        obtain ⟨o, n⟩ := acc3
        cases o with
        | some v => exact ih
        | none => exact bk_X11_swaps_17 (ge_yes hc.1.2.1 (by rw [nI_1]; exact ih))
    have key := key (by omega)
    obtain ⟨o, n⟩ := acc
    cases o with
    | some v => exact key
    | none => exact bk_X11_swaps_4 (ge_no hc.1.2.1 hsS (by omega) (by rw [nI_1]; exact key))
  · have h2 := h
    rw [f_swp] at h2
    generalize lpF (g_1 C a S i) S 0 (none, 0) = acc at h2 ⊢
    obtain ⟨o, n⟩ := acc
    cases o with
    | some v => exact h2
    | none =>
      unfold v_sw at h2
      refine bk_X11_swaps_4 (ge_yes hc.1.2.1 ⟨fun z => ?_, fun z => ?_⟩)
      · rw [if_neg z] at h2; exact h2
      · rw [if_pos z] at h2; exact h2
end SW
theorem t_swaps (a1 : Int32) : Both 4 mX10_swaps 1 mX11_swaps [vi a1] := by
  intro M I
  obtain ⟨P, S, W, C, a, U, h0, L, x, c, u, v, b, p, q, kp, im, dr, hc, hs, hh, ht, hy, hb, hi, hd⟩ := id I
  have mod : jw_M 1 mX11_swaps [vr 11 0, vi a1] M (fun y M2 => v_sw (f_swp C a S a1) a1 = y ∧ Inv M2) := m_swaps hc.2.1 hs.2.1 hs.2.2 ⟨rfl, I⟩
  refine en_X10_swaps ⟨fun z => ⟨fun z2 => k_nth hc.1 hs.1 hs.2.2 ?_ mod, fun z2 => ?_⟩, fun z => ?_⟩
  · rw [fa_le] at z ⊢
    have e1 : (-1 : Int32).toInt = -1 := by decide
    have e0 : (0 : Int32).toInt = 0 := by decide
    have : a1.toInt ≠ -1 := fun t => z2 (Int32.toInt_inj.mp (by rw [t, e1]))
    omega
  · subst z2; exact k_many hc.1 hs.1 hs.2.2 mod
  · have hn : ¬ 0 ≤ a1 := fun y => z (Int32.le_trans (by decide) y)
    have h1 : ¬ a1 = -1 := fun y => z (by rw [y]; exact Int32.le_refl _)
    have e := swp_neg (C := C) (a := a) (S := S) hn
    unfold v_sw at mod
    rw [e] at mod
    simp only [if_neg h1] at mod
    exact mod
