/-! ===== years by draws ===== -/
theorem fb_andL (a b : Nat) : lN a &&& lN b = lN (a &&& b) := by
  apply Int64.toBitVec_inj.1
  show BitVec.ofNat 64 a &&& BitVec.ofNat 64 b = BitVec.ofNat 64 (a &&& b)
  apply BitVec.eq_of_getLsbD_eq
  intro i hi
  simp [hi]
theorem fb_maskL (n k : Nat) : lN n &&& lN (2 ^ k - 1) = lN (n % 2 ^ k) := by rw [fb_andL, Nat.and_two_pow_sub_one_eq_mod]
def f_next (sd : Nat) : Nat := (sd * 1103515245 + 12345) % 2147483648
def f_draw (sd n : Nat) : Nat := f_next sd / 65536 % n
theorem next_lt (sd : Nat) : f_next sd < 2147483648 := Nat.mod_lt _ (by decide)
theorem next_L {sd : Nat} (h : sd < 2147483648) : ((nI sd).toInt64 * 1103515245) + 12345 = lN (sd * 1103515245 + 12345) := by
  rw [nI_l (by omega), show (1103515245 : Int64) = lN 1103515245 from rfl, lN_mul, show (12345 : Int64) = lN 12345 from rfl, lN_add]
theorem next_K {sd : Nat} (h : sd < 2147483648) : (((((nI sd).toInt64 * 1103515245) + 12345) &&& 2147483647).toInt32) = nI (f_next sd) := by
  rw [next_L h, show (2147483647 : Int64) = lN (2 ^ 31 - 1) from rfl, fb_maskL, lN_i]
  rfl
theorem next_R {sd : Nat} (h : sd < 2147483648) : ((((nI sd).toInt64 * 1103515245) + 12345) - (((nI sd).toInt64 * 1103515245) + 12345) / 2147483648 * 2147483648).toInt32 = nI (f_next sd) := by
  rw [next_L h, show (2147483648 : Int64) = lN 2147483648 from rfl, pk_lRem (by omega) (by decide) (by decide), lN_i]
  rfl
theorem draw_v {sd n : Nat} (h0 : 0 < n) (hn : n < 2 ^ 31) : (nI (f_next sd) / 65536) - (nI (f_next sd) / 65536) / nI n * nI n = nI (f_draw sd n) := by
  have := next_lt sd
  rw [show (65536 : Int32) = nI 65536 from rfl, pk_div (by omega) (by decide) (by decide), pk_rem (by omega) h0 hn]
  rfl
theorem nI_le0 {n : Nat} (h : n < 2 ^ 31) : nI n ≤ 0 ↔ n = 0 := by
  constructor
  · intro z
    have := (nI_leI (a := n) (b := 0) h (by decide)).mp z
    omega
  · rintro rfl; decide
def Gc2 : Nat → Nat → Nat → Prop := fun k i _ => ¬ (((k = 8 ∨ (26 ≤ k ∧ k ≤ 30)) ∧ i = 0) ∨ k = 2)
def Gr2 : Nat → Nat → Nat → Prop := fun k _ j => ¬ ((k = 11 ∧ j = 12) ∨ k = 43)
def f_chance (P S W sd : Nat) (a : Ab) : Nat × Ab :=
  if f_draw sd 4 = 0 then
    (if W = 0 ∨ P = 0 then (f_next sd, a) else (f_next (f_next (f_next sd)), setA a 3 (f_draw (f_next sd) W) (a 3 (f_draw (f_next sd) W) ^^^ ((1 : Int32) <<< (nI (f_draw (f_next (f_next sd)) P) &&& 31)))))
  else if f_draw sd 4 = 1 then
    (if S = 0 ∨ P = 0 then (f_next sd, a) else (f_next (f_next (f_next sd)), if f_can a S (f_draw (f_next sd) S) (nI (f_draw (f_next (f_next sd)) P)) then setA a 0 (f_draw (f_next sd) S) (nI (f_draw (f_next (f_next sd)) P)) else a))
  else if f_draw sd 4 = 2 then
    (if S = 0 then (f_next sd, a) else (f_next (f_next sd), setA a 1 (f_draw (f_next sd) S) 0))
  else (f_next sd, a)
theorem draw_lt {sd n : Nat} (h : 0 < n) : f_draw sd n < n := Nat.mod_lt _ h
theorem chance_ok {P S W sd : Nat} {a : Ab} (h : plOK P S a) : (f_chance P S W sd a).1 < 2147483648 ∧ plOK P S (f_chance P S W sd a).2 := by
  unfold f_chance
  split
  · split
    · exact ⟨next_lt _, h⟩
    · exact ⟨next_lt _, h.set (Or.inl (by decide))⟩
  · split
    · split
      · exact ⟨next_lt _, h⟩
      · rename_i hz
        refine ⟨next_lt _, ?_⟩
        show plOK P S (if _ then _ else _)
        split
        · exact h.set (Or.inr (Or.inr ⟨_, draw_lt (by omega), rfl⟩))
        · exact h
    · split
      · split
        · exact ⟨next_lt _, h⟩
        · exact ⟨next_lt _, h.set (Or.inl (by decide))⟩
      · exact ⟨next_lt _, h⟩
section DR
variable {P S W sd : Nat} {C a : Ab} {M : jw_Mem} {Q : Int32 → jw_Mem → Prop}
theorem k_draw (hsd : sd < 2147483648) (hd : M 2 0 2 = nI sd) {n : Nat} (h0 : 0 < n) (hn : n < 2 ^ 31) (h : Q (nI (f_draw sd n)) (jw_up M 2 0 2 (nI (f_next sd)))) : jw_M 0 mX2_draw [vr 2 0, vi (nI n)] M Q := by
  refine en_X2_draw ?_
  rw [hd, next_K hsd]
  rintro M1 rfl
  refine ⟨fun z => absurd z (nI_nle h0 hn), fun _ => ⟨nI_ne0 h0 hn, ?_⟩⟩
  rw [up_eq, draw_v h0 hn]
  exact h
theorem m_draw (hsd : sd < 2147483648) (hd : M 11 0 12 = nI sd) {n : Nat} (h0 : 0 < n) (hn : n < 2 ^ 31) (h : Q (nI (f_draw sd n)) (jw_up M 11 0 12 (nI (f_next sd)))) : jw_M 0 mX11_draw [vr 11 0, vi (nI n)] M Q := by
  refine en_X11_draw ?_
  rw [hd, next_R hsd]
  rintro M1 rfl
  refine ⟨nI_ne0 h0 hn, ?_⟩
  rw [up_eq, draw_v h0 hn]
  exact h
theorem k_draw2 (hc : cK M P S W C) (hs : sK M 0 S W a) (hsd : sd < 2147483648) (hd : M 2 0 2 = nI sd) {n : Nat} (h0 : 0 < n) (hn : n < 2 ^ 31) (h : ∀ M2, agr (fun k _ _ => k ≠ 2) M M2 → cK M2 P S W C → sK M2 0 S W a → M2 2 0 2 = nI (f_next sd) → Q (nI (f_draw sd n)) M2) : jw_M 0 mX2_draw [vr 2 0, vi (nI n)] M Q := by
  have f1 : agr (fun k _ _ => k ≠ 2) M (jw_up M 2 0 2 (nI (f_next sd))) := up_agr agr.rf (by omega)
  exact k_draw hsd hd h0 hn (h _ f1 (hc.ag (f1.sub (fun k i j z => by omega))) (hs.congr (fun k j hk => f1 _ _ _ (by omega))) up_eq)
theorem m_draw2 (hc : cR M P S W C) (hs : sR M S W a) (hsd : sd < 2147483648) (hd : M 11 0 12 = nI sd) {n : Nat} (h0 : 0 < n) (hn : n < 2 ^ 31) (h : ∀ M2, agr (fun k _ j => ¬ (k = 11 ∧ j = 12)) M M2 → cR M2 P S W C → sR M2 S W a → M2 11 0 12 = nI (f_next sd) → Q (nI (f_draw sd n)) M2) : jw_M 0 mX11_draw [vr 11 0, vi (nI n)] M Q := by
  have f1 : agr (fun k _ j => ¬ (k = 11 ∧ j = 12)) M (jw_up M 11 0 12 (nI (f_next sd))) := up_agr agr.rf (by omega)
  exact m_draw hsd hd h0 hn (h _ f1 (hc.ag (f1.sub (fun k i j z => by omega))) (sG.congr (f := M 43 0) hs hc.2.1.2.1 hc.2.1.2.2 (fun j _ => f1 _ _ _ (by omega))) up_eq)
theorem k_chance (hc : cK M P S W C) (hs : sK M 0 S W a) (hp : plOK P S a) (hsd : sd < 2147483648) (hd : M 2 0 2 = nI sd) (h : ∀ M2, agr Gc2 M M2 → M2 2 0 2 = nI (f_chance P S W sd a).1 → sK M2 0 S W (f_chance P S W sd a).2 → Q 0 M2) : jw_M 4 mX2_befall [vr 2 0] M Q := by
  have hP := hc.2.1.1
  have hS := hc.2.1.2.1
  have hW := hc.2.1.2.2
  unfold f_chance at h
  have n4 : (4 : Int32) = nI 4 := rfl
  refine en_X2_befall ?_
  rw [n4]
  refine k_draw2 hc hs hsd hd (by decide) (by decide) (fun M1 f1 hc1 hs1 d1 => ?_)
  have l4 : f_draw sd 4 < 4 := draw_lt (by decide)
  rw [nI_toInt (by omega)]
  have g1 : agr Gc2 M M1 := f1.sub (fun k i j z => by unfold Gc2 at z; omega)
  refine ⟨fun z => ?_, fun z => ?_, fun z => ?_, fun z => ?_⟩
  · rw [if_neg (by omega), if_neg (by omega), if_neg (by omega)] at h
    exact h _ g1 d1 hs1
  · rw [if_pos (by omega)] at h
    refine en_X2_turnWalker ?_
    rw [hc1.1.2.2.1, hc1.1.1]
    refine ⟨fun y => ?_, fun y => ⟨fun y2 => ?_, fun y2 => ?_⟩⟩
    · rw [if_pos (Or.inl ((nI_le0 (by omega)).mp y))] at h; exact h _ g1 d1 hs1
    · rw [if_pos (Or.inr ((nI_le0 (by omega)).mp y2))] at h; exact h _ g1 d1 hs1
    · have hW0 : ¬ W = 0 := fun e => y ((nI_le0 (by omega)).mpr e)
      have hP0 : ¬ P = 0 := fun e => y2 ((nI_le0 (by omega)).mpr e)
      rw [if_neg (fun e => e.elim hW0 hP0)] at h
      refine k_draw2 hc1 hs1 (next_lt _) d1 (by omega) (by omega) (fun M2 f2 hc2 hs2 d2 => ?_)
      rw [hc2.1.1]
      refine k_draw2 hc2 hs2 (next_lt _) d2 (by omega) (by omega) (fun M3 f3 hc3 hs3 d3 => ?_)
      have lw : f_draw (f_next sd) W < W := draw_lt (by omega)
      refine k_hasW hc3 ?_
      rw [if_pos (sp_has.of lw (by omega))]
      refine b_o ⟨vp_in_nI (by omega) (by decide), vp_in_nI (by omega) (by decide), ?_⟩
      rintro M4 rfl
      rw [cl_i (by omega), (hs3.2.1 _ lw).1]
      exact h _ (up_agr (((f1.tr f2).tr f3).sub (fun k i j z => by unfold Gc2 at z; omega)) (by unfold Gc2; omega)) (by rw [up_ne (by omega), d3]) (hs3.up3 _ _)
  · rw [if_neg (by omega), if_pos (by omega)] at h
    refine en_X2_raiseStatue ?_
    rw [hc1.1.2.1, hc1.1.1]
    refine ⟨fun y => ?_, fun y => ⟨fun y2 => ?_, fun y2 => ?_⟩⟩
    · rw [if_pos (Or.inl ((nI_le0 (by omega)).mp y))] at h; exact h _ g1 d1 hs1
    · rw [if_pos (Or.inr ((nI_le0 (by omega)).mp y2))] at h; exact h _ g1 d1 hs1
    · have hS0 : ¬ S = 0 := fun e => y ((nI_le0 (by omega)).mpr e)
      have hP0 : ¬ P = 0 := fun e => y2 ((nI_le0 (by omega)).mpr e)
      rw [if_neg (fun e => e.elim hS0 hP0)] at h
      refine k_draw2 hc1 hs1 (next_lt _) d1 (by omega) (by omega) (fun M2 f2 hc2 hs2 d2 => ?_)
      rw [hc2.1.1]
      refine k_draw2 hc2 hs2 (next_lt _) d2 (by omega) (by omega) (fun M3 f3 hc3 hs3 d3 => ?_)
      have ls : f_draw (f_next sd) S < S := draw_lt (by omega)
      have lp : f_draw (f_next (f_next sd)) P < P := draw_lt (by omega)
      refine k_can (by decide) hc3 hs3 hp ls (sp_has.of lp (by omega)) (b01 (fun cc => ⟨vp_in_nI (by omega) (by decide), ?_⟩) (fun cc => ?_))
      · rintro M4 rfl
        rw [cl_i (by omega)]
        rw [if_pos cc] at h
        exact h _ (up_agr (((f1.tr f2).tr f3).sub (fun k i j z => by unfold Gc2 at z; omega)) (by unfold Gc2; omega)) (by rw [up_ne (by omega), d3]) (hs3.up0 _ _)
      · rw [if_neg cc] at h
        exact h _ (((f1.tr f2).tr f3).sub (fun k i j z => by unfold Gc2 at z; omega)) d3 hs3
  · rw [if_neg (by omega), if_neg (by omega), if_pos (by omega)] at h
    refine en_X2_washStatue ?_
    rw [hc1.1.2.1]
    refine ⟨fun y => ?_, fun y => ?_⟩
    · rw [if_pos ((nI_le0 (by omega)).mp y)] at h; exact h _ g1 d1 hs1
    · have hS0 : ¬ S = 0 := fun e => y ((nI_le0 (by omega)).mpr e)
      rw [if_neg hS0] at h
      refine k_draw2 hc1 hs1 (next_lt _) d1 (by omega) (by omega) (fun M2 f2 hc2 hs2 d2 => ?_)
      have ls : f_draw (f_next sd) S < S := draw_lt (by omega)
      refine k_hasS hc2 ?_
      rw [if_pos (sp_has.of ls (by omega))]
      refine b_o ⟨vp_in_nI (by omega) (by decide), ?_⟩
      rintro M4 rfl
      rw [cl_i (by omega)]
      exact h _ (up_agr ((f1.tr f2).sub (fun k i j z => by unfold Gc2 at z; omega)) (by unfold Gc2; omega)) (by rw [up_ne (by omega), d2]) (hs2.up1 _ _)
theorem m_chance (hc : cR M P S W C) (hs : sR M S W a) (hsd : sd < 2147483648) (hd : M 11 0 12 = nI sd) (h : ∀ M2, agr Gr2 M M2 → M2 11 0 12 = nI (f_chance P S W sd a).1 → sR M2 S W (f_chance P S W sd a).2 → Q 0 M2) : jw_M 2 mX11_chance [vr 11 0] M Q := by
  have hP := hc.2.1.1
  have hS := hc.2.1.2.1
  have hW := hc.2.1.2.2
  unfold f_chance at h
  have n4 : (4 : Int32) = nI 4 := rfl
  refine en_X11_chance ?_
  rw [n4]
  refine m_draw2 hc hs hsd hd (by decide) (by decide) (fun M1 f1 hc1 hs1 d1 => ?_)
  have l4 : f_draw sd 4 < 4 := draw_lt (by decide)
  have g1 : agr Gr2 M M1 := f1.sub (fun k i j z => by unfold Gr2 at z; omega)
  rw [hc1.1.1, hc1.1.2.1, hc1.1.2.2.1]
  have h4 : f_draw sd 4 = 0 ∨ f_draw sd 4 = 1 ∨ f_draw sd 4 = 2 ∨ f_draw sd 4 = 3 := by omega
  rcases h4 with e | e | e | e
  · rw [e] at h ⊢
    rw [if_pos rfl] at h
    refine ⟨fun z => absurd rfl z, fun _ => ⟨fun y => ?_, fun y => ⟨fun y2 => ?_, fun y2 => ?_⟩⟩⟩
    · rw [if_pos (Or.inl ((nI_le0 (by omega)).mp y))] at h
      exact ⟨fun _ => ⟨fun _ => h _ g1 d1 hs1, fun z => absurd z (by decide)⟩, fun z => absurd z (by decide)⟩
    · rw [if_pos (Or.inr ((nI_le0 (by omega)).mp y2))] at h
      exact ⟨fun _ => ⟨fun _ => h _ g1 d1 hs1, fun z => absurd z (by decide)⟩, fun z => absurd z (by decide)⟩
    · have hW0 : ¬ W = 0 := fun e => y ((nI_le0 (by omega)).mpr e)
      have hP0 : ¬ P = 0 := fun e => y2 ((nI_le0 (by omega)).mpr e)
      rw [if_neg (fun e => e.elim hW0 hP0)] at h
      refine m_draw2 hc1 hs1 (next_lt _) d1 (by omega) (by omega) (fun M2 f2 hc2 hs2 d2 => ?_)
      have lw : f_draw (f_next sd) W < W := draw_lt (by omega)
      have e18 : (18 : Int32) + nI (f_draw (f_next sd) W) = nI (18 + f_draw (f_next sd) W) := nI_add 18 _
      rw [e18, hc2.1.1]
      refine ⟨vp_in_nI (by omega) (by decide), m_draw2 hc2 hs2 (next_lt _) d2 (by omega) (by omega) (fun M3 f3 hc3 hs3 d3 => ⟨vp_in_nI (by omega) (by decide), ?_⟩)⟩
      rintro M4 rfl
      rw [cl_i (by omega), (hs2.2.1 _ lw).1]
      exact h _ (up_agr (((f1.tr f2).tr f3).sub (fun k i j z => by unfold Gr2 at z; omega)) (by unfold Gr2; omega)) (by rw [up_ne (by omega), d3]) (hs3.up hS hW (k := 3) (by simp [rPos]) (by omega) _)
  · rw [e] at h ⊢
    rw [if_neg (by decide), if_pos rfl] at h
    refine ⟨fun _ => ⟨fun z => absurd rfl z, fun _ => ⟨fun y => ?_, fun y => ⟨fun y2 => ?_, fun y2 => ?_⟩⟩⟩, fun z => absurd z (by decide)⟩
    · rw [if_pos (Or.inl ((nI_le0 (by omega)).mp y))] at h
      exact ⟨fun _ => h _ g1 d1 hs1, fun z => absurd z (by decide)⟩
    · rw [if_pos (Or.inr ((nI_le0 (by omega)).mp y2))] at h
      exact ⟨fun _ => h _ g1 d1 hs1, fun z => absurd z (by decide)⟩
    · have hS0 : ¬ S = 0 := fun e => y ((nI_le0 (by omega)).mpr e)
      have hP0 : ¬ P = 0 := fun e => y2 ((nI_le0 (by omega)).mpr e)
      rw [if_neg (fun e => e.elim hS0 hP0)] at h
      refine m_draw2 hc1 hs1 (next_lt _) d1 (by omega) (by omega) (fun M2 f2 hc2 hs2 d2 => ?_)
      rw [hc2.1.1]
      refine m_draw2 hc2 hs2 (next_lt _) d2 (by omega) (by omega) (fun M3 f3 hc3 hs3 d3 => ?_)
      have ls : f_draw (f_next sd) S < S := draw_lt (by omega)
      have lp : f_draw (f_next (f_next sd)) P < P := draw_lt (by omega)
      have h33 : vp_in (nI (f_draw (f_next sd) S)) 33 := vp_in_nI (by omega) (by decide)
      refine m_can hc3 hs3 ls (b01 (fun cc => ⟨h33, ?_⟩) (fun cc => ⟨h33, h33, ?_⟩))
      · rintro M4 rfl
        rw [cl_i (by omega)]
        rw [if_pos cc] at h
        exact h _ (up_agr (((f1.tr f2).tr f3).sub (fun k i j z => by unfold Gr2 at z; omega)) (by unfold Gr2; omega)) (by rw [up_ne (by omega), d3]) (hs3.up hS hW (k := 0) (by simp [rPos]) (by omega) _)
      · rintro M4 rfl
        rw [cl_i (by omega), up_self]
        rw [if_neg cc] at h
        exact h _ (((f1.tr f2).tr f3).sub (fun k i j z => by unfold Gr2 at z; omega)) d3 hs3
  · rw [e] at h ⊢
    rw [if_neg (by decide), if_neg (by decide), if_pos rfl] at h
    refine ⟨fun _ => ⟨fun _ => ⟨fun z => absurd rfl z, fun _ => ⟨fun y => ?_, fun y => ?_⟩⟩, fun z => absurd z (by decide)⟩, fun z => absurd z (by decide)⟩
    · rw [if_pos ((nI_le0 (by omega)).mp y)] at h; exact h _ g1 d1 hs1
    · have hS0 : ¬ S = 0 := fun e => y ((nI_le0 (by omega)).mpr e)
      rw [if_neg hS0] at h
      refine m_draw2 hc1 hs1 (next_lt _) d1 (by omega) (by omega) (fun M2 f2 hc2 hs2 d2 => ?_)
      have ls : f_draw (f_next sd) S < S := draw_lt (by omega)
      have e6 : (6 : Int32) + nI (f_draw (f_next sd) S) = nI (6 + f_draw (f_next sd) S) := nI_add 6 _
      rw [e6, cl_i (by omega)]
      refine ⟨vp_in_nI (by omega) (by decide), ?_⟩
      rintro M4 rfl
      exact h _ (up_agr ((f1.tr f2).sub (fun k i j z => by unfold Gr2 at z; omega)) (by unfold Gr2; omega)) (by rw [up_ne (by omega), d2]) (hs2.up hS hW (k := 1) (by simp [rPos]) (by omega) _)
  · rw [e] at h ⊢
    rw [if_neg (by decide), if_neg (by decide), if_neg (by decide)] at h
    exact ⟨fun _ => ⟨fun _ => ⟨fun _ => h _ g1 d1 hs1, fun z => absurd z (by decide)⟩, fun z => absurd z (by decide)⟩, fun z => absurd z (by decide)⟩
end DR
def f_it {α : Type} (f : α → α) (x : α) : Nat → α
  | 0 => x
  | k + 1 => f (f_it f x k)
theorem iter_ex {α : Type} (f : α → α) (x : α) : ∃ s : Nat → α, s 0 = x ∧ ∀ k, s (k + 1) = f (s k) := ⟨f_it f x, rfl, fun _ => rfl⟩
theorem pair_ex {α β : Type} (f : α → β → α) (g : α → β → β) (x : α) (y : β) : ∃ (s : Nat → α) (t : Nat → β), s 0 = x ∧ t 0 = y ∧ (∀ k, s (k + 1) = f (s k) (t k)) ∧ ∀ k, t (k + 1) = g (s k) (t k) := by
  obtain ⟨s, h0, h1⟩ := iter_ex (fun p : α × β => (f p.1 p.2, g p.1 p.2)) (x, y)
  exact ⟨fun k => (s k).1, fun k => (s k).2, congrArg Prod.fst h0, congrArg Prod.snd h0, fun k => congrArg Prod.fst (h1 k), fun k => congrArg Prod.snd (h1 k)⟩
theorem drift_ex (C : Ab) (P S W sd : Nat) (a : Ab) : ∃ (sS : Nat → Nat) (sA : Nat → Ab), sS 0 = sd ∧ sA 0 = a ∧ (∀ k, sS (k + 1) = (f_chance P S W (sS k) (sA k)).1) ∧ ∀ k, sA (k + 1) = f_year C (f_chance P S W (sS k) (sA k)).2 S W :=
  pair_ex (fun s t => (f_chance P S W s t).1) (fun s t => f_year C (f_chance P S W s t).2 S W) sd a
/-- the invariant again, with state, history, images, seed anew -/
theorem inv_re {M M2 : jw_Mem} {P S W : Nat} {C : Ab} {L : Nat} {x : Nat → Int32} {c : Nat} {u v : Nat → Int32} {b : Nat} {p q : Nat → Int32} (hc : cI M P S W C) (ht : tI M L x) (hy : yI M P c u v) (hb : bI M S b p q)
    (f : agr (fun k _ j => ¬ ((k = 8 ∨ (26 ≤ k ∧ k ≤ 30)) ∨ k = 3 ∨ k = 2 ∨ k = 4 ∨ (k = 11 ∧ (j = 30 ∨ j = 12)) ∨ k = 52 ∨ k = 43 ∨ k = 60 ∨ k = 61)) M M2)
    {a : Ab} {U : Nat} {h0 : Nat → Ab} {kp : Nat → Int32} {im : Nat → Ab} {dr : Nat → Int32} (hs : sI M2 P S W a) (hh : hI M2 P S W U h0) (hi : iI M2 P S W kp im dr) (hd : dI M2) : Inv M2 :=
  ⟨P, S, W, C, a, U, h0, L, x, c, u, v, b, p, q, kp, im, dr, hc.fr (f.sub (fun k i j z => by unfold Fc at z; omega)), hs, hh, ht.fr (f.sub (fun k i j z => by unfold Ft at z; omega)), hy.fr (f.sub (fun k i j z => by unfold Fy at z; omega)), hb.fr (f.sub (fun k i j z => by unfold Fb at z; omega)), hi, hd⟩
theorem t_drift (a1 : Int32) : Both 6 mX10_drift 7 mX11_drift [vi a1] := by
  intro M I
  obtain ⟨P, S, W, C, a, U, h0, L, x, c, u, v, b, p, q, kp, im, dr, hc, hs, hh, ht, hy, hb, hi, hd⟩ := id I
  have hS := hc.1.2.1.2.1
  have hW := hc.1.2.1.2.2
  obtain ⟨sd, hsd, ed⟩ := nI_of (x := M 11 0 12) (Int32.not_lt.mpr hd.2)
  have hsd : sd < 2147483648 := hsd
  have ek : M 2 0 2 = nI sd := hd.1.trans ed
  by_cases h1 : v_ref (C 4 0) (a 5 0) a1 = 0
  · obtain ⟨⟨h2, h3⟩, hT⟩ := v_ref0 h1
    have hTp := T_pos hc.2.2 hT
    obtain ⟨n, hn, rfl⟩ := nI_of2 (M := 60) (n := 60) (by decide) (Int32.not_lt.mpr (Int32.le_trans (by decide) h2)) h3
    have pok := push_ok hh.2.2.1 hs.2.2 hh.2.2.2
    obtain ⟨sS, sA, z1, z2, eS, eA⟩ := drift_ex C P S W sd a
    have dok : ∀ k, sS k < 2147483648 ∧ plOK P S (sA k) := by
      intro k
      induction k with
      | zero => rw [z1, z2]; exact ⟨hsd, hs.2.2⟩
      | succ k ih =>
        have t := chance_ok (W := W) (sd := sS k) ih.2
        rw [eS, eA]
        exact ⟨t.1, t.2.year⟩
    refine en_X10_drift (k_ref hc.1 hs.1 ?_)
    rw [h1]
    refine b_z (k_push hS hW hh.2.2.1 hs.1 hh.1 (fun M2 f2 k2 => ?_))
    have hs2 : sK M2 0 S W a := hs.1.congr (fun k j hk => f2 _ _ _ (by omega))
    have hc2 : cK M2 P S W C := hc.1.ag (f2.sub (fun k i j z => by omega))
    have ek2 : M2 2 0 2 = nI sd := (f2 _ _ _ (by omega)).trans ek
    refine lp_up (P := fun j => ∀ M3, agr Gc2 M2 M3 → M3 2 0 2 = nI (sS j) → sK M3 0 S W (sA j) → jw_J 6 mX10_drift 25 [(0, vr 10 0), (1, vi (nI n)), (3, vi (nI j))] [] M3 _) n (fun M3 f3 d3 s3 => bk_X10_drift_25 (ge_yes rfl ?_)) (fun j hj ih => ?_) M2 agr.rf (by rw [z1]; exact ek2) (by rw [z2]; exact hs2)
    · have hc3 : cK M3 P S W C := hc2.ag (f3.sub (fun k i j z => by unfold Gc2; omega))
      refine k_standers (by decide) hc3 s3 (dok n).2 ?_
      have fK : agr (fun k i j => ¬ (((k = 8 ∨ (26 ≤ k ∧ k ≤ 30)) ∧ i < 18) ∨ k = 3 ∨ k = 2)) M M3 := fun k i j z => (f3 k i j (by unfold Gc2; omega)).trans (f2 k i j (by omega))
      have hh3 : hK M3 S W (pushU U) (pushH U h0 a) := k2.fr pok.1 (fun k i j z => f3 k i j (by unfold Gc2; omega))
      have hcR3 : cR M3 P S W C := hc.2.1.ag (fK.sub (fun k i j z => by omega))
      have hsR3 : sR M3 S W a := sG.congr (f := M 43 0) hs.2.1 hS hW (fun j _ => fK _ _ _ (by omega))
      have hhR3 : hR M3 S W U h0 := hh.2.1.fr hS hW (fK.sub (fun k i j z => by omega))
      have ed3 : M3 11 0 12 = nI sd := (fK _ _ _ (by omega)).trans ed
      refine en_X11_drift (m_ref hcR3 hsR3 ?_)
      rw [h1]
      refine b_z (m_push hS hW hh.2.2.1 hsR3 hhR3 (fun M4 f4 g4 k4 => ?_))
      have hs4 : sR M4 S W a := sG.congr (f := M3 43 0) hsR3 hS hW (fun j _ => g4 j)
      have hc4 : cR M4 P S W C := hcR3.ag (f4.sub (fun k i j z => by unfold Gr; omega))
      have ed4 : M4 11 0 12 = nI sd := (f4 _ _ _ (by unfold Gr; omega)).trans ed3
      refine lp_up (P := fun j => ∀ M5, agr Gr2 M4 M5 → M5 11 0 12 = nI (sS j) → sR M5 S W (sA j) → jw_J 7 mX11_drift 18 [(0, vr 11 0), (1, vi (nI n)), (3, vi (nI j))] [] M5 _) n (fun M5 f5 d5 s5 => bk_X11_drift_18 (ge_yes rfl ?_)) (fun j hj ih2 => ?_) M4 agr.rf (by rw [z1]; exact ed4) (by rw [z2]; exact hs4)
      · have hc5 : cR M5 P S W C := hc4.ag (f5.sub (fun k i j z => by unfold Gr2; omega))
        refine m_standers hc5 s5 ⟨rfl, ?_⟩
        have f35 : agr (fun k _ j => ¬ ((k = 11 ∧ (j = 30 ∨ j = 12)) ∨ k = 52 ∨ k = 43)) M3 M5 := fun k i j z => (f5 k i j (by unfold Gr2; omega)).trans (f4 k i j (by unfold Gr; omega))
        refine inv_re hc ht hy hb (fun k i j z => (f35 k i j (by omega)).trans (fK k i j (by omega))) ⟨s3.congr (fun k j hk => f35 _ _ _ (by omega)), s5, (dok n).2⟩ ⟨hh3.fr pok.1 (f35.sub (fun k i j z => by omega)), k4.fr hS hW (fun k i j z => f5 k i j (by unfold Gr2; omega)), pok⟩ (hi.fr hS hW (fun k i j z => (f35 k i j (by unfold Fi at z; omega)).trans (fK k i j (by unfold Fi at z; omega)))) ⟨?_, ?_⟩
        · rw [f35 2 0 2 (by omega), d3, d5]
        · rw [d5]; exact nI_pos' (dok n).1
      · intro M5 f5 d5 s5
        have hc5 : cR M5 P S W C := hc4.ag (f5.sub (fun k i j z => by unfold Gr2; omega))
        refine bk_X11_drift_18 (ge_no rfl hj (by omega) (m_chance hc5 s5 (dok j).1 d5 (fun M6 f6 d6 s6 => ?_)))
        have hc6 : cR M6 P S W C := hc5.ag (f6.sub (fun k i j z => by unfold Gr2; omega))
        refine m_year hc6 s6 (chance_ok (dok j).2).2 hTp (fun M7 f7 s7 => ?_)
        rw [nI_1]
        exact ih2 M7 (fun k i j z => (f7 k i j (by unfold Gr2 at z; omega)).trans ((f6 k i j z).trans (f5 k i j z))) (by rw [eS]; exact (f7 _ _ _ (by omega)).trans d6) (by rw [eA]; exact s7)
    · intro M3 f3 d3 s3
      have hc3 : cK M3 P S W C := hc2.ag (f3.sub (fun k i j z => by unfold Gc2; omega))
      refine bk_X10_drift_25 (ge_no rfl hj (by omega) (k_chance hc3 s3 (dok j).2 (dok j).1 d3 (fun M6 f6 d6 s6 => ?_)))
      have hc6 : cK M6 P S W C := hc3.ag (f6.sub (fun k i j z => by unfold Gc2; omega))
      refine k_year (by decide) hc6 s6 (chance_ok (dok j).2).2 hTp (fun M7 f7 s7 => ?_)
      rw [nI_1]
      exact ih M7 (fun k i j z => (f7 k i j (by unfold Gc2 at z; omega)).trans ((f6 k i j z).trans (f3 k i j z))) (by rw [eS]; exact (f7 _ _ _ (by omega)).trans d6) (by rw [eA]; exact s7)
  · exact en_X10_drift (k_ref hc.1 hs.1 ⟨fun z => absurd z h1, fun _ => en_X11_drift (m_ref hc.2.1 hs.2.1 ⟨fun z => absurd z h1, fun _ => ⟨rfl, I⟩⟩)⟩)
