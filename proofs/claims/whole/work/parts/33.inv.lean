/-! ===== the invariant between class and model ===== -/
/-- agreement of two memories where F holds -/
def agr (F : Nat → Nat → Nat → Prop) (M M2 : jw_Mem) : Prop := ∀ k i j, F k i j → M2 k i j = M k i j
theorem agr.tr {F : Nat → Nat → Nat → Prop} {M M2 M3 : jw_Mem} (h : agr F M M2) (h2 : agr F M2 M3) : agr F M M3 := fun k i j hk => (h2 k i j hk).trans (h k i j hk)
theorem agr.rf {F : Nat → Nat → Nat → Prop} {M : jw_Mem} : agr F M M := fun _ _ _ _ => rfl
theorem agr.sub {F G : Nat → Nat → Nat → Prop} {M M2 : jw_Mem} (h : agr F M M2) (hg : ∀ k i j, G k i j → F k i j) : agr G M M2 := fun k i j hk => h k i j (hg k i j hk)
def Fc : Nat → Nat → Nat → Prop := fun k i j => (i = 0 ∧ (k = 1 ∨ k = 14 ∨ k = 15 ∨ k = 16 ∨ k = 18)) ∨ (k = 11 ∧ (j = 0 ∨ j = 1 ∨ j = 3 ∨ j = 7)) ∨ k = 36 ∨ k = 37 ∨ k = 39 ∨ k = 41
def Fs : Nat → Nat → Nat → Prop := fun k i _ => (i = 0 ∧ (k = 8 ∨ (26 ≤ k ∧ k ≤ 30))) ∨ k = 43
def Fh : Nat → Nat → Nat → Prop := fun k i j => (2 ≤ i ∧ i < 18 ∧ (k = 8 ∨ (26 ≤ k ∧ k ≤ 30))) ∨ k = 3 ∨ (k = 11 ∧ j = 30) ∨ k = 52
def Ft : Nat → Nat → Nat → Prop := fun k _ j => (k = 7 ∧ (j = 2 ∨ j = 4)) ∨ k = 25 ∨ (k = 11 ∧ (j = 14 ∨ j = 15)) ∨ k = 44
def Fy : Nat → Nat → Nat → Prop := fun k _ j => (k = 9 ∧ j = 6) ∨ k = 31 ∨ k = 32 ∨ (k = 11 ∧ j = 34) ∨ k = 55 ∨ k = 56
def Fb : Nat → Nat → Nat → Prop := fun k _ j => k = 0 ∨ k = 12 ∨ k = 13 ∨ (k = 11 ∧ j = 38) ∨ k = 58 ∨ k = 59
def Fi : Nat → Nat → Nat → Prop := fun k i _ => (18 ≤ i ∧ i < 20 ∧ (k = 8 ∨ (26 ≤ k ∧ k ≤ 30))) ∨ k = 4 ∨ k = 60 ∨ k = 61
def Fz : Nat → Nat → Nat → Prop := fun k _ j => k = 2 ∨ (k = 11 ∧ j = 12)
/-- a snapshot in a row of the model -/
def sG (f : Nat → Int32) (S W : Nat) (a : Ab) : Prop := (∀ j, j < S → f j = a 0 j ∧ f (6 + j) = a 1 j ∧ f (12 + j) = a 2 j) ∧ (∀ j, j < W → f (18 + j) = a 3 j ∧ f (25 + j) = a 4 j) ∧ f 32 = a 5 0
theorem sR_iff {M : jw_Mem} {S W : Nat} {a : Ab} : sR M S W a ↔ sG (M 43 0) S W a := Iff.rfl
theorem sG.congr {f g : Nat → Int32} {S W : Nat} {a : Ab} (h : sG f S W a) (hS : S ≤ 6) (hW : W ≤ 7) (e : ∀ j, j < 33 → g j = f j) : sG g S W a :=
  ⟨fun j hj => ⟨(e _ (by omega)).trans (h.1 j hj).1, (e _ (by omega)).trans (h.1 j hj).2.1, (e _ (by omega)).trans (h.1 j hj).2.2⟩, fun j hj => ⟨(e _ (by omega)).trans (h.2.1 j hj).1, (e _ (by omega)).trans (h.2.1 j hj).2⟩, (e _ (by omega)).trans h.2.2⟩
theorem sK.congr {M M2 : jw_Mem} {n n2 S W : Nat} {a : Ab} (h : sK M n S W a) (e : ∀ k j, (k = 8 ∨ (26 ≤ k ∧ k ≤ 30)) → M2 k n2 j = M k n j) : sK M2 n2 S W a :=
  ⟨fun j hj => ⟨(e _ _ (by omega)).trans (h.1 j hj).1, (e _ _ (by omega)).trans (h.1 j hj).2.1, (e _ _ (by omega)).trans (h.1 j hj).2.2⟩, fun j hj => ⟨(e _ _ (by omega)).trans (h.2.1 j hj).1, (e _ _ (by omega)).trans (h.2.1 j hj).2⟩, (e _ _ (by omega)).trans h.2.2⟩
/-- the city's own bounds -/
def cW (P S W : Nat) (C : Ab) : Prop := (∀ j, j < W → ∃ t : Nat, 1 ≤ t ∧ t ≤ 9 ∧ C 3 j = nI t) ∧ (0 ≤ C 4 0) ∧ (C 4 0 = 0 → P = 0 ∧ S = 0 ∧ W = 0) ∧ (∀ j, j < P → ∃ t : Nat, t ≤ 99 ∧ C 0 j = nI t) ∧ (∀ j, j < S → ∃ t : Nat, t ≤ 99 ∧ C 2 j = nI t)
def cI (M : jw_Mem) (P S W : Nat) (C : Ab) : Prop := cK M P S W C ∧ cR M P S W C ∧ cW P S W C
def sI (M : jw_Mem) (P S W : Nat) (a : Ab) : Prop := sK M 0 S W a ∧ sR M S W a ∧ plOK P S a
def hK (M : jw_Mem) (S W U : Nat) (h : Nat → Ab) : Prop := M 3 0 2 = nI U ∧ ∃ nx : Nat, nx < 16 ∧ M 3 0 1 = nI nx ∧ ∀ i, i < U → sK M (2 + (nx + 16 - U + i) % 16) S W (h i)
def hR (M : jw_Mem) (S W U : Nat) (h : Nat → Ab) : Prop := M 11 0 30 = nI U ∧ ∀ i, i < U → sG (fun j => M 52 0 (33 * i + j)) S W (h i)
def hI (M : jw_Mem) (P S W U : Nat) (h : Nat → Ab) : Prop := hK M S W U h ∧ hR M S W U h ∧ U ≤ 16 ∧ ∀ i, i < U → plOK P S (h i)
def tI (M : jw_Mem) (L : Nat) (x : Nat → Int32) : Prop := (M 7 0 2 = nI L ∧ M 11 0 14 = nI L ∧ L ≤ 240) ∧ (∀ i, i < L → M 25 0 i = x i ∧ M 44 0 i = x i ∧ 0 ≤ x i) ∧ M 7 0 4 = M 11 0 15
def yI (M : jw_Mem) (P c : Nat) (u v : Nat → Int32) : Prop := (M 9 0 6 = nI c ∧ M 11 0 34 = nI c ∧ c ≤ 6) ∧ ∀ i, i < c → M 31 0 i = u i ∧ M 55 0 i = u i ∧ M 32 0 i = v i ∧ M 56 0 i = v i
def bI (M : jw_Mem) (S b : Nat) (p q : Nat → Int32) : Prop := (M 0 0 3 = nI b ∧ M 11 0 38 = nI b ∧ b ≤ 15) ∧ ∀ i, i < b → M 12 0 i = p i ∧ M 58 0 i = p i ∧ M 13 0 i = q i ∧ M 59 0 i = q i ∧ sp_has S (p i)
def iI (M : jw_Mem) (P S W : Nat) (kp : Nat → Int32) (im : Nat → Ab) (dr : Nat → Int32) : Prop := ∀ i, i < 2 → M 4 i 2 = kp i ∧ M 61 0 i = kp i ∧ (kp i = 0 ∨ (kp i = 1 ∧ sK M (18 + i) S W (im i) ∧ sG (fun j => M 60 0 (34 * i + j)) S W (im i) ∧ plOK P S (im i) ∧ M 4 i 1 = dr i ∧ M 60 0 (34 * i + 33) = dr i ∧ 0 ≤ dr i))
def dI (M : jw_Mem) : Prop := M 2 0 2 = M 11 0 12 ∧ 0 ≤ M 11 0 12
theorem cI.fr {M M2 : jw_Mem} {P S W : Nat} {C : Ab} (h : cI M P S W C) (e : agr Fc M M2) : cI M2 P S W C := by
  obtain ⟨⟨⟨h1, h2, h3, h4⟩, hb, h5, h6, h7⟩, ⟨⟨g1, g2, g3, g4⟩, gb, g5, g6, g7⟩, hw⟩ := h
  refine ⟨⟨⟨(e _ _ _ ?_).trans h1, (e _ _ _ ?_).trans h2, (e _ _ _ ?_).trans h3, (e _ _ _ ?_).trans h4⟩, hb, fun j hj => (e _ _ _ ?_).trans (h5 j hj), fun j hj => ⟨(e _ _ _ ?_).trans (h6 j hj).1, (e _ _ _ ?_).trans (h6 j hj).2⟩, fun j hj => (e _ _ _ ?_).trans (h7 j hj)⟩, ⟨⟨(e _ _ _ ?_).trans g1, (e _ _ _ ?_).trans g2, (e _ _ _ ?_).trans g3, (e _ _ _ ?_).trans g4⟩, gb, fun j hj => (e _ _ _ ?_).trans (g5 j hj), fun j hj => ⟨(e _ _ _ ?_).trans (g6 j hj).1, (e _ _ _ ?_).trans (g6 j hj).2⟩, fun j hj => (e _ _ _ ?_).trans (g7 j hj)⟩, hw⟩ <;> (unfold Fc; omega)
theorem sI.fr {M M2 : jw_Mem} {P S W : Nat} {a : Ab} (h : sI M P S W a) (e : agr Fs M M2) : sI M2 P S W a := by
  obtain ⟨h1, ⟨g1, g2, g3⟩, hp⟩ := h
  refine ⟨h1.congr (fun k j hk => e _ _ _ (by unfold Fs; omega)), ⟨fun j hj => ⟨(e _ _ _ ?_).trans (g1 j hj).1, (e _ _ _ ?_).trans (g1 j hj).2.1, (e _ _ _ ?_).trans (g1 j hj).2.2⟩, fun j hj => ⟨(e _ _ _ ?_).trans (g2 j hj).1, (e _ _ _ ?_).trans (g2 j hj).2⟩, (e _ _ _ ?_).trans g3⟩, hp⟩ <;> (unfold Fs; omega)
theorem hI.fr {M M2 : jw_Mem} {P S W U : Nat} {h : Nat → Ab} (H : hI M P S W U h) (hS : S ≤ 6) (hW : W ≤ 7) (e : agr Fh M M2) : hI M2 P S W U h := by
  obtain ⟨⟨h1, nx, h2, h3, h4⟩, ⟨g1, g2⟩, hU, hp⟩ := H
  refine ⟨⟨(e _ _ _ ?_).trans h1, nx, h2, (e _ _ _ ?_).trans h3, fun i hi => (h4 i hi).congr (fun k j hk => e _ _ _ ?_)⟩, ⟨(e _ _ _ ?_).trans g1, fun i hi => (g2 i hi).congr hS hW (fun j hj => e _ _ _ ?_)⟩, hU, hp⟩ <;> (unfold Fh; omega)
theorem tI.fr {M M2 : jw_Mem} {L : Nat} {x : Nat → Int32} (h : tI M L x) (e : agr Ft M M2) : tI M2 L x := by
  obtain ⟨⟨h1, h2, h3⟩, h4, h5⟩ := h
  refine ⟨⟨(e _ _ _ ?_).trans h1, (e _ _ _ ?_).trans h2, h3⟩, fun i hi => ⟨(e _ _ _ ?_).trans (h4 i hi).1, (e _ _ _ ?_).trans (h4 i hi).2.1, (h4 i hi).2.2⟩, (e _ _ _ ?_).trans (h5.trans (e _ _ _ ?_).symm)⟩ <;> (unfold Ft; omega)
theorem yI.fr {M M2 : jw_Mem} {P c : Nat} {u v : Nat → Int32} (h : yI M P c u v) (e : agr Fy M M2) : yI M2 P c u v := by
  obtain ⟨⟨h1, h2, h3⟩, h4⟩ := h
  refine ⟨⟨(e _ _ _ ?_).trans h1, (e _ _ _ ?_).trans h2, h3⟩, fun i hi => ⟨(e _ _ _ ?_).trans (h4 i hi).1, (e _ _ _ ?_).trans (h4 i hi).2.1, (e _ _ _ ?_).trans (h4 i hi).2.2.1, (e _ _ _ ?_).trans (h4 i hi).2.2.2⟩⟩ <;> (unfold Fy; omega)
theorem bI.fr {M M2 : jw_Mem} {S b : Nat} {p q : Nat → Int32} (h : bI M S b p q) (e : agr Fb M M2) : bI M2 S b p q := by
  obtain ⟨⟨h1, h2, h3⟩, h4⟩ := h
  refine ⟨⟨(e _ _ _ ?_).trans h1, (e _ _ _ ?_).trans h2, h3⟩, fun i hi => ⟨(e _ _ _ ?_).trans (h4 i hi).1, (e _ _ _ ?_).trans (h4 i hi).2.1, (e _ _ _ ?_).trans (h4 i hi).2.2.1, (e _ _ _ ?_).trans (h4 i hi).2.2.2.1, (h4 i hi).2.2.2.2⟩⟩ <;> (unfold Fb; omega)
theorem iI.fr {M M2 : jw_Mem} {P S W : Nat} {kp : Nat → Int32} {im : Nat → Ab} {dr : Nat → Int32} (h : iI M P S W kp im dr) (hS : S ≤ 6) (hW : W ≤ 7) (e : agr Fi M M2) : iI M2 P S W kp im dr := by
  intro i hi
  obtain ⟨h1, h2, h3⟩ := h i hi
  refine ⟨(e _ _ _ ?_).trans h1, (e _ _ _ ?_).trans h2, h3.imp id (fun z => ⟨z.1, z.2.1.congr (fun k j hk => e _ _ _ ?_), z.2.2.1.congr hS hW (fun j hj => e _ _ _ ?_), z.2.2.2.1, (e _ _ _ ?_).trans z.2.2.2.2.1, (e _ _ _ ?_).trans z.2.2.2.2.2.1, z.2.2.2.2.2.2⟩)⟩ <;> (unfold Fi; omega)
theorem dI.fr {M M2 : jw_Mem} (h : dI M) (e : agr Fz M M2) : dI M2 := by
  have e1 := e 2 0 2 (by unfold Fz; omega)
  have e2 := e 11 0 12 (by unfold Fz; omega)
  exact ⟨by rw [e1, e2]; exact h.1, by rw [e2]; exact h.2⟩
def Inv (M : jw_Mem) : Prop := ∃ (P S W : Nat) (C a : Ab) (U : Nat) (h : Nat → Ab) (L : Nat) (x : Nat → Int32) (c : Nat) (u v : Nat → Int32) (b : Nat) (p q kp : Nat → Int32) (im : Nat → Ab) (dr : Nat → Int32), cI M P S W C ∧ sI M P S W a ∧ hI M P S W U h ∧ tI M L x ∧ yI M P c u v ∧ bI M S b p q ∧ iI M P S W kp im dr ∧ dI M
def Fall : Nat → Nat → Nat → Prop := fun k i j => Fc k i j ∨ Fs k i j ∨ Fh k i j ∨ Ft k i j ∨ Fy k i j ∨ Fb k i j ∨ Fi k i j ∨ Fz k i j
theorem Inv.fr {M M2 : jw_Mem} (h : Inv M) (e : agr Fall M M2) : Inv M2 := by
  obtain ⟨P, S, W, C, a, U, hh, L, x, c, u, v, b, p, q, kp, im, dr, h1, h2, h3, h4, h5, h6, h7, h8⟩ := h
  have hS := h1.1.2.1.2.1
  have hW := h1.1.2.1.2.2
  exact ⟨P, S, W, C, a, U, hh, L, x, c, u, v, b, p, q, kp, im, dr, h1.fr (e.sub fun k i j z => Or.inl z), h2.fr (e.sub fun k i j z => Or.inr (Or.inl z)), h3.fr hS hW (e.sub fun k i j z => Or.inr (Or.inr (Or.inl z))), h4.fr (e.sub fun k i j z => Or.inr (Or.inr (Or.inr (Or.inl z)))), h5.fr (e.sub fun k i j z => Or.inr (Or.inr (Or.inr (Or.inr (Or.inl z))))), h6.fr (e.sub fun k i j z => Or.inr (Or.inr (Or.inr (Or.inr (Or.inr (Or.inl z)))))), h7.fr hS hW (e.sub fun k i j z => Or.inr (Or.inr (Or.inr (Or.inr (Or.inr (Or.inr (Or.inl z))))))), h8.fr (e.sub fun k i j z => Or.inr (Or.inr (Or.inr (Or.inr (Or.inr (Or.inr (Or.inr z)))))))⟩
/-- class and model, one call after the other: same answer, the invariant again -/
def Both (d1 : Nat) (m1 : jw_Mt) (d2 : Nat) (m2 : jw_Mt) (as : List jw_V) : Prop := ∀ M, Inv M → jw_M d1 m1 (vr 10 0 :: as) M (fun x M1 => jw_M d2 m2 (vr 11 0 :: as) M1 (fun y M2 => x = y ∧ Inv M2))
theorem up_agr {F : Nat → Nat → Nat → Prop} {M M2 : jw_Mem} (h : agr F M M2) {k i j : Nat} {v : Int32} (hk : ¬ F k i j) : agr F M (jw_up M2 k i j v) := fun k2 i2 j2 h2 => by
  rw [up_ne (fun z => hk (by rw [← z.1, ← z.2.1, ← z.2.2]; exact h2))]
  exact h k2 i2 j2 h2
