/-! ===== reading a text, purely ===== -/
abbrev Er : Type := Nat × Nat
abbrev DS : Type := Nat × Nat × Nat × Nat × Ab
abbrev DS.T (D : DS) : Nat := D.1
abbrev DS.P (D : DS) : Nat := D.2.1
abbrev DS.S (D : DS) : Nat := D.2.2.1
abbrev DS.W (D : DS) : Nat := D.2.2.2.1
abbrev DS.A (D : DS) : Ab := D.2.2.2.2
def skR (x : Nat → Int32) : Nat → Nat → Nat
  | 0, i => i
  | r + 1, i => if x i = 32 then skR x r (i + 1) else i
def skp (x : Nat → Int32) (L i : Nat) : Nat := skR x (L - i) i
def hr (x : Nat → Int32) (L i : Nat) : Int32 := if i < L then x i else -1
abbrev fig (c : Int32) : Prop := 48 ≤ c ∧ c ≤ 57
def dgR (x : Nat → Int32) : Nat → Nat → Nat → Nat → Nat × Nat × Nat
  | 0, j, k, n => (j, k, n)
  | r + 1, j, k, n => if fig (x j) then dgR x r (j + 1) (k + 1) (if k < 3 then 10 * n + ((x j).toNatClampNeg - 48) else n) else (j, k, n)
def numE (lo hi s : Nat) (z : Nat × Nat × Nat) : Except Er (Nat × Nat) := if z.2.1 = 0 then .error (1, s) else if 3 < z.2.1 ∨ z.2.2 < lo ∨ hi < z.2.2 then .error (2, s) else .ok (z.2.2, z.1)
def num (x : Nat → Int32) (L lo hi i : Nat) : Except Er (Nat × Nat) := numE lo hi (skp x L i) (dgR x (L - skp x L i) (skp x L i) 0 0)
def semi (x : Nat → Int32) (L i : Nat) : Except Er Nat := if hr x L (skp x L i) = 59 then .ok (skp x L i + 1) else .error (1, skp x L i)
def tkB (A : Ab) (v : Int32) : Nat → Bool
  | 0 => false
  | n + 1 => tkB A v n || decide (A 5 n = v)
def plc (x : Nat → Int32) (L i : Nat) (D : DS) : Except Er (Int32 × Nat) := match num x L 0 9 i with
  | .error e => .error e
  | .ok (n, e) => if n = 9 then .ok (-1, e) else if D.P ≤ n then .error (2, skp x L i) else if tkB D.A (nI n) D.S = true then .error (4, skp x L i) else .ok (nI n, e)
def flT (x : Nat → Int32) (L i : Nat) (D : DS) : Except Er (Nat × DS) := match num x L 1 9 i with
  | .error e => .error e
  | .ok (n, e) => .ok (e, ⟨n, D.P, D.S, D.W, D.A⟩)
def flP (x : Nat → Int32) (L i : Nat) (D : DS) : Except Er (Nat × DS) := match num x L 0 99 i with
  | .error e => .error e
  | .ok (n, e) => .ok (e, ⟨D.T, D.P + 1, D.S, D.W, setA D.A 0 D.P (nI n)⟩)
def addS (D : DS) (k : Nat) (p : Int32) (w : Nat) : DS := ⟨D.T, D.P, D.S + 1, D.W, setA (setA (setA D.A 1 D.S (nI k)) 5 D.S p) 2 D.S (nI w)⟩
def flS (x : Nat → Int32) (L i : Nat) (D : DS) : Except Er (Nat × DS) := match num x L 0 3 i with
  | .error e => .error e
  | .ok (k, e) => match plc x L e D with
    | .error e => .error e
    | .ok (p, e2) => match num x L 0 99 e2 with
      | .error e => .error e
      | .ok (w, e3) => .ok (e3, addS D k p w)
def addW (D : DS) (k v l : Nat) : DS := ⟨D.T, D.P, D.S, D.W + 1, setA (setA (setA D.A 6 D.W (nI k)) 3 D.W (nI v)) 7 D.W (nI l)⟩
def flW (x : Nat → Int32) (L i : Nat) (D : DS) : Except Er (Nat × DS) := match num x L 0 (2 ^ D.P - 1) i with
  | .error e => .error e
  | .ok (k, e) => match num x L 1 9 e with
    | .error e => .error e
    | .ok (v, e2) => match num x L 0 (2 ^ D.S - 1) e2 with
      | .error e => .error e
      | .ok (l, e3) => .ok (e3, addW D k v l)
def cls (x : Nat → Int32) (L : Nat) (r : Except Er (Nat × DS)) : Except Er (Nat × DS) := match r with
  | .error e => .error e
  | .ok (e, D) => match semi x L e with
    | .error e => .error e
    | .ok j => .ok (j, D)
/-- the fault of a word, 0 for none -/
def fw (c : Int32) (D : DS) : Nat :=
  if c = 116 then (if D.T = 0 then 0 else 3) else
  if c = 112 then (if D.T = 0 ∨ 0 < D.W then 1 else if D.P < 5 then 0 else 3) else
  if c = 115 then (if D.T = 0 ∨ 0 < D.W then 1 else if D.S < 6 then 0 else 3) else
  if c = 119 then (if D.T = 0 then 1 else if D.W < 7 then 0 else 3) else 1
def flC (x : Nat → Int32) (L i : Nat) (D : DS) : Except Er (Nat × DS) :=
  if x i = 116 then flT x L (i + 1) D else if x i = 112 then flP x L (i + 1) D else if x i = 115 then flS x L (i + 1) D else flW x L (i + 1) D
def clause (x : Nat → Int32) (L i : Nat) (D : DS) : Except Er (Nat × DS) := if fw (x i) D = 0 then cls x L (flC x L i D) else .error (fw (x i) D, i)
def parse (x : Nat → Int32) (L : Nat) : Nat → Nat → DS → Except Er DS
  | 0, _, D => .ok D
  | r + 1, i, D => if i < L then (match clause x L i D with
    | .error e => .error e
    | .ok (j, D') => parse x L r (skp x L j) D') else .ok D
def dB (D : DS) : Prop := (D.T ≤ 9 ∧ D.P ≤ 5 ∧ D.S ≤ 6 ∧ D.W ≤ 7) ∧ (D.T = 0 → D.P = 0 ∧ D.S = 0 ∧ D.W = 0) ∧ (∀ j, j < D.P → ∃ t : Nat, t ≤ 99 ∧ D.A 0 j = nI t) ∧ (∀ j, j < D.S → ∃ t : Nat, t ≤ 99 ∧ D.A 2 j = nI t) ∧ (∀ j, j < D.S → D.A 5 j = -1 ∨ ∃ p : Nat, p < D.P ∧ D.A 5 j = nI p) ∧ (∀ j, j < D.W → ∃ t : Nat, 1 ≤ t ∧ t ≤ 9 ∧ D.A 3 j = nI t)
/-! bounds -/
theorem skR_ge {x : Nat → Int32} : ∀ r i, i ≤ skR x r i ∧ skR x r i ≤ i + r
  | 0, i => ⟨Nat.le_refl i, Nat.le_refl i⟩
  | r + 1, i => by
    rw [skR]
    have := skR_ge (x := x) r (i + 1)
    split <;> omega
theorem skp_le {x : Nat → Int32} {L i : Nat} (h : i ≤ L) : i ≤ skp x L i ∧ skp x L i ≤ L := by
  have := skR_ge (x := x) (L - i) i
  unfold skp
  omega
theorem skR_stop {x : Nat → Int32} : ∀ r i, skR x r i < i + r → ¬ x (skR x r i) = 32
  | 0, i, h => absurd h (Nat.lt_irrefl _)
  | r + 1, i, h => by
    rw [skR] at h ⊢
    split at h
    · rename_i q
      rw [if_pos q]
      exact skR_stop r (i + 1) (by omega)
    · rename_i q
      rw [if_neg q]
      exact q
theorem skp_stop {x : Nat → Int32} {L i : Nat} (hi : i ≤ L) (h : skp x L i < L) : ¬ x (skp x L i) = 32 := skR_stop (L - i) i (by unfold skp at h; omega)
theorem skR_id {x : Nat → Int32} {r i : Nat} (h : ¬ x i = 32) : skR x r i = i := by
  cases r with
  | zero => rfl
  | succ r => rw [skR, if_neg h]
theorem skp_id {x : Nat → Int32} {L i : Nat} (h : ¬ i < L ∨ ¬ x i = 32) : skp x L i = i := by
  rcases h with h | h
  · unfold skp
    rw [show L - i = 0 by omega]
    rfl
  · exact skR_id h
theorem skp_idem {x : Nat → Int32} {L i : Nat} (hi : i ≤ L) : skp x L (skp x L i) = skp x L i := skp_id (by
  by_cases h : skp x L i < L
  · exact Or.inr (skp_stop hi h)
  · exact Or.inl h)
def nb (k n : Nat) : Prop := (k = 0 ∧ n = 0) ∨ (k = 1 ∧ n ≤ 9) ∨ (k = 2 ∧ n ≤ 99) ∨ (3 ≤ k ∧ n ≤ 999)
theorem fig_n {c : Int32} (h : fig c) : ∃ d : Nat, d ≤ 9 ∧ c = nI (48 + d) := by
  obtain ⟨m, hm, rfl⟩ := nI_of (x := c) (Int32.not_lt.mpr (Int32.le_trans (by decide) h.1))
  have h1 := (nI_leI (a := 48) (by decide) hm).mp h.1
  have h2 := (nI_leI (b := 57) hm (by decide)).mp h.2
  exact ⟨m - 48, by omega, by rw [show 48 + (m - 48) = m by omega]⟩
theorem nI_subN {a b : Nat} (h : b ≤ a) : nI a - nI b = nI (a - b) := by
  have e : nI a = nI (a - b) + nI b := by rw [nI_add, Nat.sub_add_cancel h]
  rw [e, Int32.add_sub_cancel]
theorem nI_mul10 (n : Nat) : nI n * 10 = nI (10 * n) := by
  have h : ∀ k, nI n * nI k = nI (n * k) := by
    intro k
    induction k with
    | zero => exact Int32.mul_zero
    | succ k ih => rw [← nI_1, Int32.mul_add, ih, Int32.mul_one, nI_add, Nat.mul_succ]
  rw [Nat.mul_comm]
  exact h 10
theorem nI_10mul (n : Nat) : 10 * nI n = nI (10 * n) := by rw [Int32.mul_comm, nI_mul10]
theorem dg_val {n d : Nat} : (nI n * 10 + nI (48 + d)) - 48 = nI (10 * n + d) := by
  rw [nI_mul10, nI_add]
  have e : (48 : Int32) = nI 48 := rfl
  rw [e, nI_subN (by omega)]
  congr 1
  omega
theorem num_ok {x : Nat → Int32} {L lo hi i n e : Nat} (h : num x L lo hi i = .ok (n, e)) : lo ≤ n ∧ n ≤ hi := by
  unfold num numE at h
  split at h
  · cases h
  · split at h
    · cases h
    · rename_i q
      cases h
      omega
theorem dgR_le {x : Nat → Int32} : ∀ r j k n, j ≤ (dgR x r j k n).1 ∧ (dgR x r j k n).1 ≤ j + r ∧ k ≤ (dgR x r j k n).2.1
  | 0, j, k, n => ⟨Nat.le_refl j, Nat.le_refl j, Nat.le_refl k⟩
  | r + 1, j, k, n => by
    rw [dgR]
    split
    · have := dgR_le (x := x) r (j + 1) (k + 1) (if k < 3 then 10 * n + ((x j).toNatClampNeg - 48) else n)
      omega
    · exact ⟨Nat.le_refl j, Nat.le_add_right j _, Nat.le_refl k⟩
theorem num_le {x : Nat → Int32} {L lo hi i n e : Nat} (hi' : i ≤ L) (h : num x L lo hi i = .ok (n, e)) : i ≤ e ∧ e ≤ L := by
  unfold num numE at h
  have h2 := skp_le (x := x) hi'
  have h3 := dgR_le (x := x) (L - skp x L i) (skp x L i) 0 0
  split at h
  · cases h
  · split at h
    · cases h
    · cases h
      omega
theorem plc_ok {x : Nat → Int32} {L i e : Nat} {p : Int32} {D : DS} (hi : i ≤ L) (h : plc x L i D = .ok (p, e)) : (p = -1 ∨ ∃ q : Nat, q < D.P ∧ p = nI q) ∧ i ≤ e ∧ e ≤ L := by
  unfold plc at h
  split at h
  · cases h
  · rename_i n e2 q
    have hl := num_le hi q
    split at h
    · cases h; exact ⟨Or.inl rfl, hl⟩
    · split at h
      · cases h
      · split at h
        · cases h
        · cases h
          exact ⟨Or.inr ⟨n, by omega, rfl⟩, hl⟩
theorem semi_le {x : Nat → Int32} {L i j : Nat} (hi : i ≤ L) (h : semi x L i = .ok j) : i < j ∧ j ≤ L := by
  have h2 := skp_le (x := x) hi
  unfold semi at h
  split at h
  · rename_i q
    cases h
    refine ⟨by omega, ?_⟩
    unfold hr at q
    split at q
    · omega
    · exact absurd q (by decide)
  · cases h
theorem setA_eq' {a : Ab} {k j : Nat} {v : Int32} : setA a k j v k j = v := if_pos ⟨rfl, rfl⟩
theorem setA_ne' {a : Ab} {k j : Nat} {v : Int32} {k2 j2 : Nat} (h : ¬ (k2 = k ∧ j2 = j)) : setA a k j v k2 j2 = a k2 j2 := if_neg h
theorem flC_ok {x : Nat → Int32} {L i e : Nat} {D D' : DS} (hi : i < L) (hB : dB D) (hf : fw (x i) D = 0) (h : flC x L i D = .ok (e, D')) : dB D' ∧ i < e ∧ e ≤ L := by
  obtain ⟨⟨b1, b2, b3, b4⟩, b5, b6, b7, b8, b9⟩ := hB
  unfold flC at h
  unfold fw at hf
  by_cases q : x i = 116
  · rw [if_pos q] at h hf
    unfold flT at h
    split at h
    · cases h
    · rename_i n e2 E
      have := num_ok E
      have := num_le (by omega) E
      cases h
      refine ⟨⟨⟨by show n ≤ 9; omega, b2, b3, b4⟩, fun z => ?_, b6, b7, b8, b9⟩, by omega⟩
      have z : n = 0 := z
      omega
  · rw [if_neg q] at h hf
    by_cases q : x i = 112
    · rw [if_pos q] at h hf
      split at hf
      · exact absurd hf (by decide)
      · rename_i z0
        have hT : ¬ D.T = 0 := fun z => z0 (Or.inl z)
        split at hf
        · rename_i z1
          unfold flP at h
          split at h
          · cases h
          · rename_i n e2 E
            have hn := num_ok E
            have := num_le (by omega) E
            cases h
            refine ⟨⟨⟨b1, by show D.P + 1 ≤ 5; omega, b3, b4⟩, fun z => absurd z hT, fun j hj => ?_, fun j hj => ?_, fun j hj => ?_, fun j hj => ?_⟩, by omega⟩
            · show ∃ t, t ≤ 99 ∧ setA D.A 0 D.P (nI n) 0 j = nI t
              by_cases z : j = D.P
              · subst z; exact ⟨n, hn.2, setA_eq'⟩
              · rw [setA_ne' (fun y => z y.2)]
                exact b6 j (by have hj : j < D.P + 1 := hj; omega)
            · exact b7 j hj
            · exact (b8 j hj).imp id (fun ⟨p, hp, e⟩ => ⟨p, Nat.lt_succ_of_lt hp, e⟩)
            · exact b9 j hj
        · exact absurd hf (by decide)
    · rw [if_neg q] at h hf
      by_cases q : x i = 115
      · rw [if_pos q] at h hf
        split at hf
        · exact absurd hf (by decide)
        · rename_i z0
          have hT : ¬ D.T = 0 := fun z => z0 (Or.inl z)
          split at hf
          · rename_i z1
            unfold flS at h
            split at h
            · cases h
            · rename_i k e2 E
              have := num_le (by omega) E
              split at h
              · cases h
              · rename_i p e3 E2
                have hp := plc_ok (by omega) E2
                split at h
                · cases h
                · rename_i w e4 E3
                  have hw := num_ok E3
                  have := num_le (by omega) E3
                  cases h
                  refine ⟨⟨⟨b1, b2, by show D.S + 1 ≤ 6; omega, b4⟩, fun z => absurd z hT, fun j hj => b6 j hj, fun j hj => ?_, fun j hj => ?_, fun j hj => b9 j hj⟩, by omega⟩
                  · show ∃ t, t ≤ 99 ∧ setA (setA (setA D.A 1 D.S (nI k)) 5 D.S p) 2 D.S (nI w) 2 j = nI t
                    by_cases z : j = D.S
                    · subst z; exact ⟨w, hw.2, setA_eq'⟩
                    · rw [setA_ne' (fun y => z y.2), setA_ne' (by omega), setA_ne' (by omega)]
                      exact b7 j (by have hj : j < D.S + 1 := hj; omega)
                  · show setA (setA (setA D.A 1 D.S (nI k)) 5 D.S p) 2 D.S (nI w) 5 j = -1 ∨ ∃ t, t < D.P ∧ setA (setA (setA D.A 1 D.S (nI k)) 5 D.S p) 2 D.S (nI w) 5 j = nI t
                    rw [setA_ne' (by omega)]
                    by_cases z : j = D.S
                    · subst z; rw [setA_eq']; exact hp.1
                    · rw [setA_ne' (fun y => z y.2), setA_ne' (by omega)]
                      exact b8 j (by have hj : j < D.S + 1 := hj; omega)
          · exact absurd hf (by decide)
      · rw [if_neg q] at h hf
        split at hf
        · split at hf
          · exact absurd hf (by decide)
          · rename_i hT
            split at hf
            · rename_i z1
              unfold flW at h
              split at h
              · cases h
              · rename_i k e2 E
                have := num_le (by omega) E
                split at h
                · cases h
                · rename_i v e3 E2
                  have hv := num_ok E2
                  have := num_le (by omega) E2
                  split at h
                  · cases h
                  · rename_i l e4 E3
                    have := num_le (by omega) E3
                    cases h
                    refine ⟨⟨⟨b1, b2, b3, by show D.W + 1 ≤ 7; omega⟩, fun z => absurd z hT, fun j hj => b6 j hj, fun j hj => b7 j hj, fun j hj => b8 j hj, fun j hj => ?_⟩, by omega⟩
                    show ∃ t, 1 ≤ t ∧ t ≤ 9 ∧ setA (setA (setA D.A 6 D.W (nI k)) 3 D.W (nI v)) 7 D.W (nI l) 3 j = nI t
                    rw [setA_ne' (by omega)]
                    by_cases z : j = D.W
                    · subst z; exact ⟨v, hv.1, hv.2, setA_eq'⟩
                    · rw [setA_ne' (fun y => z y.2), setA_ne' (by omega)]
                      exact b9 j (by have hj : j < D.W + 1 := hj; omega)
            · exact absurd hf (by decide)
        · exact absurd hf (by decide)
theorem clause_ok {x : Nat → Int32} {L i j : Nat} {D D' : DS} (hi : i < L) (hB : dB D) (h : clause x L i D = .ok (j, D')) : dB D' ∧ i < j ∧ j ≤ L := by
  unfold clause at h
  split at h
  · rename_i hf
    generalize E : flC x L i D = r at h
    unfold cls at h
    split at h
    · cases h
    · rename_i e D2
      split at h
      · cases h
      · rename_i j2 E2
        cases h
        obtain ⟨h1, h2, h3⟩ := flC_ok hi hB hf E
        have := semi_le h3 E2
        exact ⟨h1, by omega, by omega⟩
  · cases h
