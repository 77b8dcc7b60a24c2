/-! ===== what the memory tells: a city C (0 views, 1 kinds, 2 wants, 3 votes, 4 term), a state a (0 plinth, 1 tired, 2 elected, 3 ways, 4 likes, 5 years) ===== -/
abbrev Ab : Type := Nat → Nat → Int32
def setA (a : Ab) (k j : Nat) (v : Int32) : Ab := fun k2 j2 => if k2 = k ∧ j2 = j then v else a k2 j2
def cK (M : jw_Mem) (P S W : Nat) (C : Ab) : Prop := (M 1 0 1 = nI P ∧ M 1 0 2 = nI S ∧ M 1 0 3 = nI W ∧ M 1 0 0 = C 4 0) ∧ (P ≤ 5 ∧ S ≤ 6 ∧ W ≤ 7) ∧ (∀ j, j < P → M 14 0 j = C 0 j) ∧ (∀ j, j < S → M 15 0 j = C 1 j ∧ M 16 0 j = C 2 j) ∧ (∀ j, j < W → M 18 0 j = C 3 j)
def cR (M : jw_Mem) (P S W : Nat) (C : Ab) : Prop := (M 11 0 1 = nI P ∧ M 11 0 3 = nI S ∧ M 11 0 7 = nI W ∧ M 11 0 0 = C 4 0) ∧ (P ≤ 5 ∧ S ≤ 6 ∧ W ≤ 7) ∧ (∀ j, j < P → M 36 0 j = C 0 j) ∧ (∀ j, j < S → M 37 0 j = C 1 j ∧ M 39 0 j = C 2 j) ∧ (∀ j, j < W → M 41 0 j = C 3 j)
def sK (M : jw_Mem) (n S W : Nat) (a : Ab) : Prop := (∀ j, j < S → M 26 n j = a 0 j ∧ M 27 n j = a 1 j ∧ M 28 n j = a 2 j) ∧ (∀ j, j < W → M 29 n j = a 3 j ∧ M 30 n j = a 4 j) ∧ M 8 n 1 = a 5 0
def sR (M : jw_Mem) (S W : Nat) (a : Ab) : Prop := (∀ j, j < S → M 43 0 j = a 0 j ∧ M 43 0 (6 + j) = a 1 j ∧ M 43 0 (12 + j) = a 2 j) ∧ (∀ j, j < W → M 43 0 (18 + j) = a 3 j ∧ M 43 0 (25 + j) = a 4 j) ∧ M 43 0 32 = a 5 0
def plOK (P S : Nat) (a : Ab) : Prop := ∀ s, s < S → a 0 s = -1 ∨ ∃ p : Nat, p < P ∧ a 0 s = nI p
/-- what a state's writes leave alone -/
def frS (n : Nat) (M M2 : jw_Mem) : Prop := ∀ k i j, ¬ (i = n ∧ (k = 8 ∨ (26 ≤ k ∧ k ≤ 30))) → M2 k i j = M k i j
def frR (M M2 : jw_Mem) : Prop := ∀ k i j, k ≠ 43 → M2 k i j = M k i j
theorem frS.rf {n : Nat} {M : jw_Mem} : frS n M M := fun _ _ _ _ => rfl
theorem frR.rf {M : jw_Mem} : frR M M := fun _ _ _ _ => rfl
theorem frS.tr {n : Nat} {M M2 M3 : jw_Mem} (h : frS n M M2) (h2 : frS n M2 M3) : frS n M M3 := fun k i j hk => (h2 k i j hk).trans (h k i j hk)
theorem frR.tr {M M2 M3 : jw_Mem} (h : frR M M2) (h2 : frR M2 M3) : frR M M3 := fun k i j hk => (h2 k i j hk).trans (h k i j hk)
theorem up_ne {M : jw_Mem} {k n j : Nat} {v : Int32} {k2 n2 j2 : Nat} (h : ¬ (k2 = k ∧ n2 = n ∧ j2 = j)) : jw_up M k n j v k2 n2 j2 = M k2 n2 j2 := if_neg h
theorem up_eq {M : jw_Mem} {k n j : Nat} {v : Int32} : jw_up M k n j v k n j = v := if_pos ⟨rfl, rfl, rfl⟩
theorem frS.up {n : Nat} {M M2 : jw_Mem} (h : frS n M M2) {k : Nat} (hk : k = 8 ∨ (26 ≤ k ∧ k ≤ 30)) {j : Nat} {v : Int32} : frS n M (jw_up M2 k n j v) := fun k2 i2 j2 hk2 => by
  rw [up_ne (fun z => hk2 ⟨z.2.1, by rw [z.1]; exact hk⟩)]
  exact h k2 i2 j2 hk2
theorem frR.up {M M2 : jw_Mem} (h : frR M M2) {j : Nat} {v : Int32} : frR M (jw_up M2 43 0 j v) := fun k2 i2 j2 hk2 => by
  rw [up_ne (fun z => hk2 z.1)]
  exact h k2 i2 j2 hk2
theorem cK.fr {n : Nat} {M M2 : jw_Mem} {P S W : Nat} {C : Ab} (h : cK M P S W C) (hf : frS n M M2) : cK M2 P S W C := by
  obtain ⟨⟨h1, h2, h3, h4⟩, hb, h5, h6, h7⟩ := h
  have e : ∀ k i j, ¬ (k = 8 ∨ (26 ≤ k ∧ k ≤ 30)) → M2 k i j = M k i j := fun k i j hk => hf k i j (fun z => hk z.2)
  exact ⟨⟨(e _ _ _ (by omega)).trans h1, (e _ _ _ (by omega)).trans h2, (e _ _ _ (by omega)).trans h3, (e _ _ _ (by omega)).trans h4⟩, hb, fun j hj => (e _ _ _ (by omega)).trans (h5 j hj), fun j hj => ⟨(e _ _ _ (by omega)).trans (h6 j hj).1, (e _ _ _ (by omega)).trans (h6 j hj).2⟩, fun j hj => (e _ _ _ (by omega)).trans (h7 j hj)⟩
theorem cR.fr {M M2 : jw_Mem} {P S W : Nat} {C : Ab} (h : cR M P S W C) (hf : frR M M2) : cR M2 P S W C := by
  obtain ⟨⟨h1, h2, h3, h4⟩, hb, h5, h6, h7⟩ := h
  exact ⟨⟨(hf _ _ _ (by omega)).trans h1, (hf _ _ _ (by omega)).trans h2, (hf _ _ _ (by omega)).trans h3, (hf _ _ _ (by omega)).trans h4⟩, hb, fun j hj => (hf _ _ _ (by omega)).trans (h5 j hj), fun j hj => ⟨(hf _ _ _ (by omega)).trans (h6 j hj).1, (hf _ _ _ (by omega)).trans (h6 j hj).2⟩, fun j hj => (hf _ _ _ (by omega)).trans (h7 j hj)⟩
theorem setA_eq {a : Ab} {k j : Nat} {v : Int32} : setA a k j v k j = v := if_pos ⟨rfl, rfl⟩
theorem setA_ne {a : Ab} {k j : Nat} {v : Int32} {k2 j2 : Nat} (h : ¬ (k2 = k ∧ j2 = j)) : setA a k j v k2 j2 = a k2 j2 := if_neg h
theorem sK.up0 {M : jw_Mem} {n S W : Nat} {a : Ab} (h : sK M n S W a) (j : Nat) (v : Int32) : sK (jw_up M 26 n j v) n S W (setA a 0 j v) := by
  obtain ⟨h1, h2, h3⟩ := h
  refine ⟨fun i hi => ?_, fun i hi => ?_, ?_⟩
  · obtain ⟨e1, e2, e3⟩ := h1 i hi
    by_cases q : i = j <;> simp [jw_up, setA, q, e1, e2, e3] <;> (try (subst q; exact ⟨e2, e3⟩))
  · obtain ⟨e1, e2⟩ := h2 i hi
    simp [jw_up, setA, e1, e2]
  · simp [jw_up, setA, h3]
theorem sK.up1 {M : jw_Mem} {n S W : Nat} {a : Ab} (h : sK M n S W a) (j : Nat) (v : Int32) : sK (jw_up M 27 n j v) n S W (setA a 1 j v) := by
  obtain ⟨h1, h2, h3⟩ := h
  refine ⟨fun i hi => ?_, fun i hi => ?_, ?_⟩
  · obtain ⟨e1, e2, e3⟩ := h1 i hi
    by_cases q : i = j <;> simp [jw_up, setA, q, e1, e2, e3] <;> (try (subst q; exact ⟨e1, e3⟩))
  · obtain ⟨e1, e2⟩ := h2 i hi
    simp [jw_up, setA, e1, e2]
  · simp [jw_up, setA, h3]
theorem sK.up2 {M : jw_Mem} {n S W : Nat} {a : Ab} (h : sK M n S W a) (j : Nat) (v : Int32) : sK (jw_up M 28 n j v) n S W (setA a 2 j v) := by
  obtain ⟨h1, h2, h3⟩ := h
  refine ⟨fun i hi => ?_, fun i hi => ?_, ?_⟩
  · obtain ⟨e1, e2, e3⟩ := h1 i hi
    by_cases q : i = j <;> simp [jw_up, setA, q, e1, e2, e3] <;> (try (subst q; exact ⟨e1, e2⟩))
  · obtain ⟨e1, e2⟩ := h2 i hi
    simp [jw_up, setA, e1, e2]
  · simp [jw_up, setA, h3]
theorem sK.up3 {M : jw_Mem} {n S W : Nat} {a : Ab} (h : sK M n S W a) (j : Nat) (v : Int32) : sK (jw_up M 29 n j v) n S W (setA a 3 j v) := by
  obtain ⟨h1, h2, h3⟩ := h
  refine ⟨fun i hi => ?_, fun i hi => ?_, ?_⟩
  · obtain ⟨e1, e2, e3⟩ := h1 i hi
    simp [jw_up, setA, e1, e2, e3]
  · obtain ⟨e1, e2⟩ := h2 i hi
    by_cases q : i = j <;> simp [jw_up, setA, q, e1, e2] <;> (try (subst q; exact e2))
  · simp [jw_up, setA, h3]
theorem sK.up4 {M : jw_Mem} {n S W : Nat} {a : Ab} (h : sK M n S W a) (j : Nat) (v : Int32) : sK (jw_up M 30 n j v) n S W (setA a 4 j v) := by
  obtain ⟨h1, h2, h3⟩ := h
  refine ⟨fun i hi => ?_, fun i hi => ?_, ?_⟩
  · obtain ⟨e1, e2, e3⟩ := h1 i hi
    simp [jw_up, setA, e1, e2, e3]
  · obtain ⟨e1, e2⟩ := h2 i hi
    by_cases q : i = j <;> simp [jw_up, setA, q, e1, e2] <;> (try (subst q; exact e1))
  · simp [jw_up, setA, h3]
theorem sK.up5 {M : jw_Mem} {n S W : Nat} {a : Ab} (h : sK M n S W a) (v : Int32) : sK (jw_up M 8 n 1 v) n S W (setA a 5 0 v) := by
  obtain ⟨h1, h2, h3⟩ := h
  refine ⟨fun i hi => ?_, fun i hi => ?_, ?_⟩
  · obtain ⟨e1, e2, e3⟩ := h1 i hi
    simp [jw_up, setA, e1, e2, e3]
  · obtain ⟨e1, e2⟩ := h2 i hi
    simp [jw_up, setA, e1, e2]
  · simp [jw_up, setA]
/-- the model's row: where a word of the state lies -/
def rPos (k j : Nat) : Nat := if k < 3 then 6 * k + j else if k < 5 then 18 + 7 * (k - 3) + j else 32
theorem sR.up {M : jw_Mem} {S W : Nat} {a : Ab} (h : sR M S W a) (hS : S ≤ 6) (hW : W ≤ 7) {k j p : Nat} (hp : p = rPos k j) (hk : (k < 3 ∧ j < 6) ∨ (3 ≤ k ∧ k < 5 ∧ j < 7) ∨ (k = 5 ∧ j = 0)) (v : Int32) : sR (jw_up M 43 0 p v) S W (setA a k j v) := by
  have key : ∀ k2 j2 q, ((k2 < 3 ∧ j2 < 6) ∨ (3 ≤ k2 ∧ k2 < 5 ∧ j2 < 7) ∨ (k2 = 5 ∧ j2 = 0)) → q = rPos k2 j2 → M 43 0 q = a k2 j2 → jw_up M 43 0 p v 43 0 q = setA a k j v k2 j2 := by
    intro k2 j2 q hk2 hq e
    by_cases z : k2 = k ∧ j2 = j
    · obtain ⟨rfl, rfl⟩ := z
      rw [setA_eq, hq, ← hp, up_eq]
    · rw [setA_ne z, up_ne, e]
      rintro ⟨-, -, z2⟩
      rw [hq, hp] at z2
      unfold rPos at z2
      apply z
      split at z2 <;> split at z2 <;> (try split at z2) <;> (try split at z2) <;> omega
  obtain ⟨h1, h2, h3⟩ := h
  refine ⟨fun i hi => ⟨key 0 i _ (by omega) (by simp [rPos]) (h1 i hi).1, key 1 i _ (by omega) (by simp [rPos]) (h1 i hi).2.1, key 2 i _ (by omega) (by simp [rPos]) (h1 i hi).2.2⟩, fun i hi => ⟨key 3 i _ (by omega) (by simp [rPos]) (h2 i hi).1, key 4 i _ (by omega) (by simp [rPos]) (h2 i hi).2⟩, key 5 0 _ (by omega) (by simp [rPos]) h3⟩
/-! ===== who stands, votes ===== -/
def sp_who (pl : Nat → Int32) (p : Int32) : Nat → Nat → Int32
  | _, 0 => -1
  | j, r + 1 => if pl j = p then nI j else sp_who pl p (j + 1) r
def f_like (a : Ab) (W : Nat) (s : Int32) : Int32 := sp_under (a 4) s W
def f_under (a : Ab) (W : Nat) (p : Int32) : Int32 := sp_under (a 3) p W
def f_votes (C : Ab) (W : Nat) (set : Int32) : Int32 := sp_votes (C 3) set W
def f_lead (C a : Ab) (W : Nat) (s u : Int32) : Int32 := f_votes C W (u &&& f_like a W s) - f_votes C W (u &&& (f_like a W s ^^^ (-1)))
def f_leadAt (C a : Ab) (W s : Nat) : Int32 := f_lead C a W (nI s) (f_under a W (a 0 s))
def f_stand (a : Ab) (S : Nat) : Int32 := sp_set (fun s => decide (¬ a 0 s = -1)) S
def f_empty (a : Ab) (P S : Nat) : Int32 := sp_set (fun p => decide (sp_who (a 0) (nI p) 0 S = -1)) P
def f_out (C a : Ab) (S W : Nat) : Int32 := sp_set (fun s => decide (¬ a 0 s = -1 ∧ ¬ 0 ≤ f_leadAt C a W s)) S
section ST
variable {n P S W : Nat} {C a : Ab} {M : jw_Mem} {Q : Int32 → jw_Mem → Prop}
theorem k_votes (hc : cK M P S W C) {x : Int32} (h : Q (f_votes C W x) M) : jw_M 1 mX1_votesOf [vr 1 0, vi x] M Q :=
  c_votesOf (by decide) hc.1.2.2.1 hc.2.1.2.2 (by rw [sp_votes_congr hc.2.2.2.2]; exact h)
theorem m_votes (hc : cR M P S W C) {x : Int32} (h : Q (f_votes C W x) M) : jw_M 1 mX11_votesOf [vr 11 0, vi x] M Q :=
  r_votesOf hc.1.2.2.1 hc.2.1.2.2 (by rw [sp_votes_congr hc.2.2.2.2]; exact h)
theorem k_under (hn : n < 20) (hc : cK M P S W C) (hs : sK M n S W a) {x : Int32} (h : Q (f_under a W x) M) : jw_M 1 mX8_walkersUnder [vr 8 n, vi x] M Q :=
  c_walkersUnder hn hc.1.2.2.1 hc.2.1.2.2 (by rw [sp_under_congr (fun j hj => (hs.2.1 j hj).1)]; exact h)
theorem k_like (hn : n < 20) (hc : cK M P S W C) (hs : sK M n S W a) {x : Int32} (h : Q (f_like a W x) M) : jw_M 1 mX8_walkersLiking [vr 8 n, vi x] M Q :=
  c_walkersLiking hn hc.1.2.2.1 hc.2.1.2.2 (by rw [sp_under_congr (fun j hj => (hs.2.1 j hj).2)]; exact h)
theorem m_under (hc : cR M P S W C) (hs : sR M S W a) {x : Int32} (h : Q (f_under a W x) M) : jw_M 1 mX11_walkersUnder [vr 11 0, vi x] M Q :=
  r_walkersUnder hc.1.2.2.1 hc.2.1.2.2 (by rw [sp_under_congr (fun j hj => (hs.2.1 j hj).1)]; exact h)
theorem m_like (hc : cR M P S W C) (hs : sR M S W a) {x : Int32} (h : Q (f_like a W x) M) : jw_M 1 mX11_whoLikes [vr 11 0, vi x] M Q :=
  r_whoLikes hc.1.2.2.1 hc.2.1.2.2 (by rw [sp_under_congr (fun j hj => (hs.2.1 j hj).2)]; exact h)
theorem k_lead (hn : n < 20) (hc : cK M P S W C) (hs : sK M n S W a) {s u : Int32} (h : Q (f_lead C a W s u) M) : jw_M 2 mX8_lead [vr 8 n, vi s, vi u] M Q :=
  en_X8_lead hn (k_like hn hc hs (k_votes hc (k_votes hc h)))
theorem m_lead (hc : cR M P S W C) (hs : sR M S W a) {s u : Int32} (h : Q (f_lead C a W s u) M) : jw_M 2 mX11_marginBy [vr 11 0, vi s, vi u] M Q :=
  en_X11_marginBy (m_like hc hs (m_votes hc (m_votes hc h)))
theorem k_hasS (hc : cK M P S W C) {x : Int32} (h : Q (if sp_has S x then 1 else 0) M) : jw_M 0 mX1_hasStatue [vr 1 0, vi x] M Q := c_hasStatue (by decide) hc.1.2.1 hc.2.1.2.1 h
theorem k_hasP (hc : cK M P S W C) {x : Int32} (h : Q (if sp_has P x then 1 else 0) M) : jw_M 0 mX1_hasPlinth [vr 1 0, vi x] M Q := c_hasPlinth (by decide) hc.1.1 hc.2.1.1 h
theorem k_hasW (hc : cK M P S W C) {x : Int32} (h : Q (if sp_has W x then 1 else 0) M) : jw_M 0 mX1_hasWalker [vr 1 0, vi x] M Q := c_hasWalker (by decide) hc.1.2.2.1 hc.2.1.2.2 h
theorem m_isP (hc : cR M P S W C) {x : Int32} (h : Q (if sp_has P x then 1 else 0) M) : jw_M 1 mX11_isPlinth [vr 11 0, vi x] M Q := r_isPlinth hc.1.1 hc.2.1.1 h
theorem m_isS (hc : cR M P S W C) {x : Int32} (h : Q (if sp_has S x then 1 else 0) M) : jw_M 1 mX11_isStatue [vr 11 0, vi x] M Q := r_isStatue hc.1.2.1 hc.2.1.2.1 h
theorem m_isW (hc : cR M P S W C) {x : Int32} (h : Q (if sp_has W x then 1 else 0) M) : jw_M 1 mX11_isWalker [vr 11 0, vi x] M Q := r_isWalker hc.1.2.2.1 hc.2.1.2.2 h
theorem pl_has (hp : plOK P S a) (hP : P ≤ 5) {s : Nat} (hs : s < S) : sp_has P (a 0 s) ↔ ¬ a 0 s = -1 := by
  rcases hp s hs with e | ⟨p, hp, e⟩
  · rw [e]
    exact ⟨fun z => absurd z.1 (by decide), fun z => absurd rfl z⟩
  · rw [e]
    refine ⟨fun _ z => ?_, fun _ => sp_has.of hp (by omega)⟩
    have := congrArg Int32.toInt z
    rw [nI_toInt (by omega)] at this
    have h2 : (-1 : Int32).toInt = -1 := by decide
    omega
theorem k_stands (hn : n < 20) (hc : cK M P S W C) (hs : sK M n S W a) (hp : plOK P S a) {s : Nat} (hsS : s < S) (h : Q (if ¬ a 0 s = -1 then 1 else 0) M) : jw_M 1 mX8_stands [vr 8 n, vi (nI s)] M Q := by
  have hS6 := hc.2.1.2.1
  refine en_X8_stands hn (k_hasS hc ?_)
  rw [if_pos (sp_has.of hsS (by omega))]
  refine b_o ⟨vp_in_nI (by omega) (by decide), ?_⟩
  rw [cl_i (by omega), (hs.1 s hsS).1]
  refine k_hasP hc ?_
  rw [if_iff (pl_has hp hc.2.1.1 hsS)]
  refine b01 (fun c => ?_) (fun c => ?_)
  · rw [if_pos c] at h; exact h
  · rw [if_neg c] at h; exact h
theorem m_stands (hc : cR M P S W C) (hs : sR M S W a) {s : Nat} (hsS : s < S) (h : Q (if ¬ a 0 s = -1 then 1 else 0) M) : jw_M 0 mX11_stands [vr 11 0, vi (nI s)] M Q := by
  have hS6 := hc.2.1.2.1
  refine en_X11_stands ⟨vp_in_nI (by omega) (by decide), ?_⟩
  rw [cl_i (by omega), (hs.1 s hsS).1]
  exact ⟨fun c => by rw [if_neg (fun z => z c)] at h; exact h, fun c => by rw [if_pos c] at h; exact h⟩
theorem k_who (hn : n < 20) (hc : cK M P S W C) (hs : sK M n S W a) {p : Int32} (h : Q (sp_who (a 0) p 0 S) M) : jw_M 0 mX8_whoIsOn [vr 8 n, vi p] M Q := by
  have hS6 := hc.2.1.2.1
  have key : ∀ r j, j + r = S → Q (sp_who (a 0) p j r) M → jw_J 0 mX8_whoIsOn 2 [(0, vr 8 n), (1, vi p), (2, vi (nI j))] [] M Q := by
    intro r
    induction r with
    | zero =>
      intro j hj hq
      obtain rfl : j = S := by omega
      exact bk_X8_whoIsOn_2 hn (ge_yes hc.1.2.1 hq)
    | succ r ih =>
      intro j hj hq
      refine bk_X8_whoIsOn_2 hn (ge_no hc.1.2.1 (by omega) (by omega) ⟨vp_in_nI (by omega) (by decide), ?_⟩)
      rw [cl_i (by omega), (hs.1 j (by omega)).1, nI_1]
      rw [sp_who] at hq
      exact ⟨fun c => ih (j + 1) (by omega) (by rw [if_neg c] at hq; exact hq), fun c => by rw [if_pos c] at hq; exact hq⟩
  exact en_X8_whoIsOn hn (key S 0 (by omega) h)
theorem m_who (hc : cR M P S W C) (hs : sR M S W a) {p : Int32} (h : Q (sp_who (a 0) p 0 S) M) : jw_M 0 mX11_whoIsOn [vr 11 0, vi p] M Q := by
  have hS6 := hc.2.1.2.1
  have key : ∀ r j, j + r = S → Q (sp_who (a 0) p j r) M → jw_J 0 mX11_whoIsOn 2 [(0, vr 11 0), (1, vi p), (2, vi (nI j))] [] M Q := by
    intro r
    induction r with
    | zero =>
      intro j hj hq
      obtain rfl : j = S := by omega
      exact bk_X11_whoIsOn_2 (ge_yes hc.1.2.1 hq)
    | succ r ih =>
      intro j hj hq
      refine bk_X11_whoIsOn_2 (ge_no hc.1.2.1 (by omega) (by omega) ⟨vp_in_nI (by omega) (by decide), ?_⟩)
      rw [cl_i (by omega), (hs.1 j (by omega)).1, nI_1]
      rw [sp_who] at hq
      exact ⟨fun c => ih (j + 1) (by omega) (by rw [if_neg c] at hq; exact hq), fun c => by rw [if_pos c] at hq; exact hq⟩
  exact en_X11_whoIsOn (key S 0 (by omega) h)
theorem who_neg {pl : Nat → Int32} {p : Int32} : ∀ (r j : Nat), j + r ≤ 6 → (¬ 0 ≤ sp_who pl p j r ↔ sp_who pl p j r = -1)
  | 0, j, _ => by rw [sp_who]; exact ⟨fun _ => rfl, fun _ => by decide⟩
  | r + 1, j, h => by
    rw [sp_who]
    by_cases c : pl j = p
    · rw [if_pos c]
      refine ⟨fun z => absurd (nI_pos' (by omega)) z, fun z => ?_⟩
      rw [z]; decide
    · rw [if_neg c]; exact who_neg r (j + 1) (by omega)
theorem k_standers (hn : n < 20) (hc : cK M P S W C) (hs : sK M n S W a) (hp : plOK P S a) (h : Q (f_stand a S) M) : jw_M 2 mX8_standers [vr 8 n] M Q := by
  have hS6 := hc.2.1.2.1
  refine en_X8_standers hn ?_
  refine lp_up (P := fun j => jw_J 2 mX8_standers 4 [(0, vr 8 n), (1, vi (f_stand a j)), (2, vi (nI j))] [] M Q) S (bk_X8_standers_4 hn (ge_yes hc.1.2.1 h)) (fun j hj ih => ?_)
  refine bk_X8_standers_4 hn (ge_no hc.1.2.1 hj (by omega) ?_)
  rw [← nI_1] at ih
  refine k_stands hn hc hs hp hj (b01 (fun c => ?_) (fun c => ?_))
  · rw [f_stand, sp_set, if_pos (decide_eq_true c)] at ih; exact ih
  · rw [f_stand, sp_set, if_neg (by simpa using c)] at ih; exact ih
theorem m_standers (hc : cR M P S W C) (hs : sR M S W a) (h : Q (f_stand a S) M) : jw_M 1 mX11_standingOnes [vr 11 0] M Q := by
  have hS6 := hc.2.1.2.1
  refine en_X11_standingOnes ?_
  refine lp_up (P := fun j => jw_J 1 mX11_standingOnes 4 [(0, vr 11 0), (1, vi (f_stand a j)), (2, vi (nI j))] [] M Q) S (bk_X11_standingOnes_4 (ge_yes hc.1.2.1 h)) (fun j hj ih => ?_)
  refine bk_X11_standingOnes_4 (ge_no hc.1.2.1 hj (by omega) ?_)
  rw [← nI_1] at ih
  refine m_stands hc hs hj (b01 (fun c => ?_) (fun c => ?_))
  · rw [f_stand, sp_set, if_pos (decide_eq_true c)] at ih; exact ih
  · rw [i_or0]; rw [f_stand, sp_set, if_neg (by simpa using c)] at ih; exact ih
theorem k_empty (hn : n < 20) (hc : cK M P S W C) (hs : sK M n S W a) (h : Q (f_empty a P S) M) : jw_M 1 mX8_emptyPlinths [vr 8 n] M Q := by
  have hP5 := hc.2.1.1
  refine en_X8_emptyPlinths hn ?_
  refine lp_up (P := fun j => jw_J 1 mX8_emptyPlinths 4 [(0, vr 8 n), (1, vi (f_empty a j S)), (2, vi (nI j))] [] M Q) P (bk_X8_emptyPlinths_4 hn (ge_yes hc.1.1 h)) (fun j hj ih => ?_)
  refine bk_X8_emptyPlinths_4 hn (ge_no hc.1.1 hj (by omega) ?_)
  rw [← nI_1] at ih
  refine k_who hn hc hs ⟨fun c => ?_, fun c => ?_⟩
  · rw [f_empty, sp_set, if_neg (by simpa using c)] at ih; exact ih
  · rw [f_empty, sp_set, if_pos (decide_eq_true c)] at ih; exact ih
theorem m_empty (hc : cR M P S W C) (hs : sR M S W a) (h : Q (f_empty a P S) M) : jw_M 1 mX11_waitingOnes [vr 11 0] M Q := by
  have hP5 := hc.2.1.1
  have hS6 := hc.2.1.2.1
  refine en_X11_waitingOnes ?_
  refine lp_up (P := fun j => jw_J 1 mX11_waitingOnes 4 [(0, vr 11 0), (1, vi (f_empty a j S)), (2, vi (nI j))] [] M Q) P (bk_X11_waitingOnes_4 (ge_yes hc.1.1 h)) (fun j hj ih => ?_)
  refine bk_X11_waitingOnes_4 (ge_no hc.1.1 hj (by omega) ?_)
  rw [← nI_1] at ih
  refine m_who hc hs ⟨fun c => ?_, fun c => ?_⟩
  · rw [i_or0]; rw [f_empty, sp_set, if_neg (by simpa using fun z => ((who_neg S 0 (by omega)).mpr z) c)] at ih; exact ih
  · rw [f_empty, sp_set, if_pos (decide_eq_true ((who_neg S 0 (by omega)).mp c))] at ih; exact ih
theorem k_out (hn : n < 20) (hc : cK M P S W C) (hs : sK M n S W a) (hp : plOK P S a) (h : Q (f_out C a S W) M) : jw_M 3 mX8_outvoted [vr 8 n] M Q := by
  have hS6 := hc.2.1.2.1
  refine en_X8_outvoted hn ?_
  refine lp_up (P := fun j => jw_J 3 mX8_outvoted 4 [(0, vr 8 n), (1, vi (f_out C a j W)), (2, vi (nI j))] [] M Q) S (bk_X8_outvoted_4 hn (ge_yes hc.1.2.1 h)) (fun j hj ih => ?_)
  refine bk_X8_outvoted_4 hn (ge_no hc.1.2.1 hj (by omega) ?_)
  rw [← nI_1] at ih
  refine k_stands hn hc hs hp hj (b01 (fun c => ⟨vp_in_nI (by omega) (by decide), ?_⟩) (fun c => ?_))
  · rw [cl_i (by omega), (hs.1 j hj).1]
    refine k_under hn hc hs (k_lead hn hc hs ⟨fun c2 => ?_, fun c2 => ?_⟩)
    · rw [f_out, sp_set, if_neg (by simpa using fun _ => (show 0 ≤ f_leadAt C a W j from c2))] at ih; exact ih
    · rw [f_out, sp_set, if_pos (decide_eq_true ⟨c, c2⟩)] at ih; exact ih
  · rw [f_out, sp_set, if_neg (by simpa using fun z => absurd z c)] at ih; exact ih
theorem m_leadAt (hc : cR M P S W C) (hs : sR M S W a) {s : Nat} (hsS : s < S) (h : Q (f_leadAt C a W s) M) : jw_M 3 mX11_marginOf [vr 11 0, vi (nI s)] M Q := by
  have hS6 := hc.2.1.2.1
  refine en_X11_marginOf ⟨vp_in_nI (by omega) (by decide), ?_⟩
  rw [cl_i (by omega), (hs.1 s hsS).1]
  exact m_under hc hs (m_lead hc hs h)
theorem m_out (hc : cR M P S W C) (hs : sR M S W a) (h : Q (f_out C a S W) M) : jw_M 4 mX11_fallingOnes [vr 11 0] M Q := by
  have hS6 := hc.2.1.2.1
  refine en_X11_fallingOnes ?_
  refine lp_up (P := fun j => jw_J 4 mX11_fallingOnes 4 [(0, vr 11 0), (1, vi (f_out C a j W)), (2, vi (nI j))] [] M Q) S (bk_X11_fallingOnes_4 (ge_yes hc.1.2.1 h)) (fun j hj ih => ?_)
  refine bk_X11_fallingOnes_4 (ge_no hc.1.2.1 hj (by omega) ?_)
  rw [← nI_1] at ih
  refine m_stands hc hs hj (b01 (fun c => ?_) (fun c => ?_))
  · refine m_leadAt hc hs hj ⟨fun c2 => ?_, fun c2 => ?_⟩
    · rw [i_or0]; rw [f_out, sp_set, if_neg (by simpa using fun _ => c2)] at ih; exact ih
    · rw [f_out, sp_set, if_pos (decide_eq_true ⟨c, c2⟩)] at ih; exact ih
  · rw [i_or0]; rw [f_out, sp_set, if_neg (by simpa using fun z => absurd z c)] at ih; exact ih
def f_margin (C a : Ab) (W s : Nat) : Int32 := if ¬ a 0 s = -1 then 1000 + f_leadAt C a W s else -1
theorem k_margin (hn : n < 20) (hc : cK M P S W C) (hs : sK M n S W a) (hp : plOK P S a) {s : Nat} (hsS : s < S) (h : Q (f_margin C a W s) M) : jw_M 3 mX8_margin [vr 8 n, vi (nI s)] M Q := by
  have hS6 := hc.2.1.2.1
  refine en_X8_margin hn (k_stands hn hc hs hp hsS (b01 (fun c => ⟨vp_in_nI (by omega) (by decide), ?_⟩) (fun c => ?_)))
  · rw [cl_i (by omega), (hs.1 s hsS).1]
    refine k_under hn hc hs (k_lead hn hc hs ?_)
    rw [f_margin, if_pos c] at h; exact h
  · rw [f_margin, if_neg c] at h; exact h
end ST
