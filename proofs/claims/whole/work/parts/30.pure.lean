/-! ===== pure words: loops, branches, numbers ===== -/
theorem lp_up {P : Nat → Prop} (k : Nat) (hx : P k) (hs : ∀ j, j < k → P (j + 1) → P j) : P 0 := by
  have : ∀ r j, j + r = k → P j := by
    intro r
    induction r with
    | zero => intro j h; rw [Nat.add_zero] at h; exact h ▸ hx
    | succ r ih => intro j h; exact hs j (by omega) (ih (j + 1) (by omega))
  exact this k 0 (Nat.zero_add k)
theorem b01 {A B c : Prop} [Decidable c] (t : c → B) (f : ¬ c → A) : (((if c then (1 : Int32) else 0) = 0 → A) ∧ (¬ (if c then (1 : Int32) else 0) = 0 → B)) := by
  by_cases h : c
  · rw [if_pos h]; exact ⟨fun z => absurd z (by decide), fun _ => t h⟩
  · rw [if_neg h]; exact ⟨fun _ => f h, fun z => absurd rfl z⟩
theorem b10 {A B c : Prop} [Decidable c] (t : c → B) (f : ¬ c → A) : ((¬ (if c then (1 : Int32) else 0) = 0 → B) ∧ ((if c then (1 : Int32) else 0) = 0 → A)) := ⟨(b01 t f).2, (b01 t f).1⟩
theorem b_z {A B : Prop} (a : A) : (((0 : Int32) = 0 → A) ∧ (¬ (0 : Int32) = 0 → B)) := ⟨fun _ => a, fun z => absurd rfl z⟩
theorem b_o {A B : Prop} (b : B) : (((1 : Int32) = 0 → A) ∧ (¬ (1 : Int32) = 0 → B)) := ⟨fun z => absurd z (by decide), fun _ => b⟩
theorem b_bool {c : Prop} [Decidable c] : (if c then (1 : Int32) else 0) = 0 ∨ (if c then (1 : Int32) else 0) = 1 := by
  by_cases h : c
  · rw [if_pos h]; exact Or.inr rfl
  · rw [if_neg h]; exact Or.inl rfl
theorem if_iff {α : Type} {c d : Prop} [Decidable c] [Decidable d] (h : c ↔ d) {a b : α} : (if c then a else b) = if d then a else b := by
  by_cases q : d
  · rw [if_pos q, if_pos (h.mpr q)]
  · rw [if_neg q, if_neg (fun z => q (h.mp z))]
theorem ge_no {A B : Prop} {x : Int32} {j W : Nat} (hx : x = nI W) (h : j < W) (hb : W < 2 ^ 31) (b : B) : (x ≤ nI j → A) ∧ (¬ x ≤ nI j → B) := ⟨fun c => absurd (hx ▸ c) (nI_ge h hb), fun _ => b⟩
theorem ge_yes {A B : Prop} {x : Int32} {W : Nat} (hx : x = nI W) (a : A) : (x ≤ nI W → A) ∧ (¬ x ≤ nI W → B) := ⟨fun _ => a, fun c => absurd (hx ▸ Int32.le_refl _) c⟩
theorem i_or0 (x : Int32) : x ||| 0 = x := by
  apply Int32.toBitVec_inj.mp
  simp
theorem i_add0 (x : Int32) : x + 0 = x := Int32.add_zero x
theorem cl_i {j : Nat} (h : j < 2 ^ 31) : (nI j).toNatClampNeg = j := nI_clamp h
/-- in a range -/
abbrev sp_has (P : Nat) (a : Int32) : Prop := 0 ≤ a ∧ a < nI P
theorem sp_has.ex {P : Nat} {a : Int32} (h : sp_has P a) (hP : P < 2 ^ 31) : ∃ p : Nat, p < P ∧ a = nI p := by
  obtain ⟨p, hp, rfl⟩ := nI_of (x := a) (Int32.not_lt.mpr h.1)
  exact ⟨p, (nI_ltI hp hP).mp h.2, rfl⟩
theorem sp_has.of {P p : Nat} (h : p < P) (hP : P < 2 ^ 31) : sp_has P (nI p) := ⟨nI_pos' (by omega), (nI_ltI (by omega) hP).mpr h⟩
abbrev sp_bit (a k : Int32) : Prop := ((a >>> (k &&& 31)) &&& 1) = 1
theorem c_isIn {a1 a2 : Int32} {M : jw_Mem} {Q : Int32 → jw_Mem → Prop} (h : Q (if sp_bit a1 a2 then 1 else 0) M) : jw_M 0 mX10_isIn [vi a1, vi a2] M Q :=
  en_X10_isIn ⟨fun c => by rw [if_neg c] at h; exact h, fun c => by rw [if_pos c] at h; exact h⟩
theorem r_has {a1 a2 : Int32} {M : jw_Mem} {Q : Int32 → jw_Mem → Prop} (h : Q (if sp_bit a1 a2 then 1 else 0) M) : jw_M 0 mX11_has [vi a1, vi a2] M Q :=
  en_X11_has ⟨fun c => by rw [if_neg c] at h; exact h, fun c => by rw [if_pos c] at h; exact h⟩
theorem c_hasG {P : Nat} {a1 x : Int32} {A B : Prop} (hx : x = nI P) (hP : P < 2 ^ 31) (t : sp_has P a1 → B) (f : ¬ sp_has P a1 → A) : (a1 < 0 → A) ∧ (¬ a1 < 0 → ((x ≤ a1 → A) ∧ (¬ x ≤ a1 → B))) := by
  subst hx
  refine ⟨fun c => f (fun z => ?_), fun c => ⟨fun c2 => f (fun z => ?_), fun c2 => t ⟨Int32.not_lt.mp c, Int32.not_le.mp c2⟩⟩⟩
  · exact absurd z.1 (Int32.not_le.mpr c)
  · exact absurd z.2 (Int32.not_lt.mpr c2)
theorem c_hasPlinth {n P : Nat} {a1 : Int32} {M : jw_Mem} {Q : Int32 → jw_Mem → Prop} (hn : n < 2) (hP : M 1 n 1 = nI P) (hP5 : P ≤ 5) (h : Q (if sp_has P a1 then 1 else 0) M) : jw_M 0 mX1_hasPlinth [vr 1 n, vi a1] M Q :=
  en_X1_hasPlinth hn (c_hasG hP (by omega) (fun c => by rw [if_pos c] at h; exact h) (fun c => by rw [if_neg c] at h; exact h))
theorem c_hasStatue {n S : Nat} {a1 : Int32} {M : jw_Mem} {Q : Int32 → jw_Mem → Prop} (hn : n < 2) (hS : M 1 n 2 = nI S) (hS6 : S ≤ 6) (h : Q (if sp_has S a1 then 1 else 0) M) : jw_M 0 mX1_hasStatue [vr 1 n, vi a1] M Q :=
  en_X1_hasStatue hn (c_hasG hS (by omega) (fun c => by rw [if_pos c] at h; exact h) (fun c => by rw [if_neg c] at h; exact h))
theorem c_hasWalker {n W : Nat} {a1 : Int32} {M : jw_Mem} {Q : Int32 → jw_Mem → Prop} (hn : n < 2) (hW : M 1 n 3 = nI W) (hW7 : W ≤ 7) (h : Q (if sp_has W a1 then 1 else 0) M) : jw_M 0 mX1_hasWalker [vr 1 n, vi a1] M Q :=
  en_X1_hasWalker hn (c_hasG hW (by omega) (fun c => by rw [if_pos c] at h; exact h) (fun c => by rw [if_neg c] at h; exact h))
/-! the model's in(v, least, most) -/
theorem lc_lt {x y : Int64} : lg_cmp x y < 0 ↔ x < y := by
  unfold lg_cmp
  by_cases h : x > y
  · rw [if_pos h]; exact ⟨fun z => absurd z (by decide), fun z => absurd (Int64.lt_asymm z) (fun f => f h)⟩
  · rw [if_neg h]
    by_cases e : x = y
    · rw [if_pos e]; exact ⟨fun z => absurd z (by decide), fun z => by rw [e] at z; exact absurd z (Int64.lt_irrefl)⟩
    · rw [if_neg e]; exact ⟨fun _ => Int64.lt_of_le_of_ne (Int64.not_lt.mp h) e, fun _ => by decide⟩
theorem lc_gt {x y : Int64} : 0 < lg_cmp x y ↔ y < x := by
  unfold lg_cmp
  by_cases h : x > y
  · rw [if_pos h]; exact ⟨fun _ => h, fun _ => by decide⟩
  · rw [if_neg h]
    by_cases e : x = y
    · rw [if_pos e]; exact ⟨fun z => absurd z (by decide), fun z => absurd z h⟩
    · rw [if_neg e]; exact ⟨fun z => absurd z (by decide), fun z => absurd z h⟩
theorem fa_lt64 (a b : Int64) : a < b ↔ a.toInt < b.toInt := Int64.lt_iff_toInt_lt
theorem fa_lt (a b : Int32) : a < b ↔ a.toInt < b.toInt := Int32.lt_iff_toInt_lt
theorem fa_le (a b : Int32) : a ≤ b ↔ a.toInt ≤ b.toInt := Int32.le_iff_toInt_le
theorem r_in {a b c : Int64} {M : jw_Mem} {Q : Int32 → jw_Mem → Prop} (h : Q (if b ≤ a ∧ a ≤ c then 1 else 0) M) : jw_M 0 mX11_in [vl a, vl b, vl c] M Q := by
  refine en_X11_in ⟨fun q => ?_, fun q => ⟨fun q2 => ?_, fun q2 => ?_⟩⟩
  · rw [if_neg (fun z => absurd z.1 (Int64.not_le.mpr (lc_lt.mp q)))] at h; exact h
  · rw [if_neg (fun z => absurd z.2 (Int64.not_le.mpr (lc_gt.mp q2)))] at h; exact h
  · rw [if_pos ⟨Int64.not_lt.mp (fun z => q (lc_lt.mpr z)), Int64.not_lt.mp (fun z => q2 (lc_gt.mpr z))⟩] at h; exact h
theorem l_le {x y : Int32} : x.toInt64 ≤ y.toInt64 ↔ x ≤ y := by
  rw [Int64.le_iff_toInt_le, Int32.le_iff_toInt_le, Int32.toInt_toInt64, Int32.toInt_toInt64]
theorem l_in {P : Nat} {a x : Int32} (hx : x = nI P) (hP : P ≤ 1000) : ((0 : Int64) ≤ a.toInt64 ∧ a.toInt64 ≤ (x - 1).toInt64) ↔ sp_has P a := by
  subst hx
  have e0 : (0 : Int64) = (0 : Int32).toInt64 := by decide
  rw [e0, l_le, l_le]
  refine and_congr Iff.rfl ?_
  have h1 : (nI P - 1).toInt = (P : Int) - 1 := pk_sub_toInt (a := P) (b := 1) (by omega) (by decide)
  rw [fa_le, fa_lt, h1, nI_toInt (by omega)]
  omega
theorem r_isPlinth {P : Nat} {a1 : Int32} {M : jw_Mem} {Q : Int32 → jw_Mem → Prop} (hP : M 11 0 1 = nI P) (hP5 : P ≤ 5) (h : Q (if sp_has P a1 then 1 else 0) M) : jw_M 1 mX11_isPlinth [vr 11 0, vi a1] M Q := by
  refine en_X11_isPlinth (r_in ⟨b_bool, ?_⟩)
  rw [if_iff (l_in hP (by omega))]; exact h
theorem r_isStatue {P : Nat} {a1 : Int32} {M : jw_Mem} {Q : Int32 → jw_Mem → Prop} (hP : M 11 0 3 = nI P) (hP5 : P ≤ 6) (h : Q (if sp_has P a1 then 1 else 0) M) : jw_M 1 mX11_isStatue [vr 11 0, vi a1] M Q := by
  refine en_X11_isStatue (r_in ⟨b_bool, ?_⟩)
  rw [if_iff (l_in hP (by omega))]; exact h
theorem r_isWalker {P : Nat} {a1 : Int32} {M : jw_Mem} {Q : Int32 → jw_Mem → Prop} (hP : M 11 0 7 = nI P) (hP5 : P ≤ 7) (h : Q (if sp_has P a1 then 1 else 0) M) : jw_M 1 mX11_isWalker [vr 11 0, vi a1] M Q := by
  refine en_X11_isWalker (r_in ⟨b_bool, ?_⟩)
  rw [if_iff (l_in hP (by omega))]; exact h
/-! ===== votes, sets of walkers ===== -/
def sp_votes (v : Nat → Int32) (set : Int32) : Nat → Int32
  | 0 => 0
  | w + 1 => if sp_bit set (nI w) then sp_votes v set w + v w else sp_votes v set w
def sp_set (c : Nat → Bool) : Nat → Int32
  | 0 => 0
  | w + 1 => if c w = true then sp_set c w ||| ((1 : Int32) <<< (nI w &&& 31)) else sp_set c w
theorem sp_votes_congr {v u : Nat → Int32} {set : Int32} : ∀ {k : Nat}, (∀ j, j < k → v j = u j) → sp_votes v set k = sp_votes u set k
  | 0, _ => rfl
  | k + 1, h => by rw [sp_votes, sp_votes, sp_votes_congr (fun j hj => h j (by omega)), h k (by omega)]
theorem sp_set_congr {c d : Nat → Bool} : ∀ {k : Nat}, (∀ j, j < k → c j = d j) → sp_set c k = sp_set d k
  | 0, _ => rfl
  | k + 1, h => by rw [sp_set, sp_set, sp_set_congr (fun j hj => h j (by omega)), h k (by omega)]
def sp_under (r : Nat → Int32) (p : Int32) (W : Nat) : Int32 := sp_set (fun w => decide (sp_bit (r w) p)) W
theorem sp_under_congr {r r2 : Nat → Int32} {p : Int32} {k : Nat} (h : ∀ j, j < k → r j = r2 j) : sp_under r p k = sp_under r2 p k := sp_set_congr (fun j hj => by rw [h j hj])
theorem c_votesOf {n W : Nat} {a1 : Int32} {M : jw_Mem} {Q : Int32 → jw_Mem → Prop} (hn : n < 2) (hW : M 1 n 3 = nI W) (h7 : W ≤ 7) (h : Q (sp_votes (M 18 n) a1 W) M) : jw_M 1 mX1_votesOf [vr 1 n, vi a1] M Q := by
  refine en_X1_votesOf hn ?_
  refine lp_up (P := fun j => jw_J 1 mX1_votesOf 4 [(0, vr 1 n), (1, vi a1), (2, vi (sp_votes (M 18 n) a1 j)), (3, vi (nI j))] [] M Q) W (bk_X1_votesOf_4 hn (ge_yes hW h)) (fun j hj ih => ?_)
  refine bk_X1_votesOf_4 hn (ge_no hW hj (by omega) ?_)
  rw [← nI_1] at ih
  refine c_isIn (b01 (fun c => ⟨vp_in_nI (by omega) (by decide), ?_⟩) (fun c => ?_))
  · rw [cl_i (by omega)]; rw [sp_votes, if_pos c] at ih; exact ih
  · rw [sp_votes, if_neg c] at ih; exact ih
theorem r_votesOf {W : Nat} {a1 : Int32} {M : jw_Mem} {Q : Int32 → jw_Mem → Prop} (hW : M 11 0 7 = nI W) (h7 : W ≤ 7) (h : Q (sp_votes (M 41 0) a1 W) M) : jw_M 1 mX11_votesOf [vr 11 0, vi a1] M Q := by
  refine en_X11_votesOf ?_
  refine lp_up (P := fun j => jw_J 1 mX11_votesOf 4 [(0, vr 11 0), (1, vi a1), (2, vi (sp_votes (M 41 0) a1 j)), (3, vi (nI j))] [] M Q) W (bk_X11_votesOf_4 (ge_yes hW h)) (fun j hj ih => ?_)
  refine bk_X11_votesOf_4 (ge_no hW hj (by omega) ?_)
  rw [← nI_1] at ih
  refine r_has (b01 (fun c => ⟨vp_in_nI (by omega) (by decide), ?_⟩) (fun c => ?_))
  · rw [cl_i (by omega)]; rw [sp_votes, if_pos c] at ih; exact ih
  · rw [i_add0]; rw [sp_votes, if_neg c] at ih; exact ih
theorem c_walkersUnder {n W : Nat} {a1 : Int32} {M : jw_Mem} {Q : Int32 → jw_Mem → Prop} (hn : n < 20) (hW : M 1 0 3 = nI W) (h7 : W ≤ 7) (h : Q (sp_under (M 29 n) a1 W) M) : jw_M 1 mX8_walkersUnder [vr 8 n, vi a1] M Q := by
  refine en_X8_walkersUnder hn ?_
  refine lp_up (P := fun j => jw_J 1 mX8_walkersUnder 4 [(0, vr 8 n), (1, vi a1), (2, vi (sp_under (M 29 n) a1 j)), (3, vi (nI j))] [] M Q) W (bk_X8_walkersUnder_4 hn (ge_yes hW h)) (fun j hj ih => ?_)
  refine bk_X8_walkersUnder_4 hn (ge_no hW hj (by omega) ⟨vp_in_nI (by omega) (by decide), ?_⟩)
  rw [← nI_1] at ih
  rw [cl_i (by omega)]
  refine c_isIn (b01 (fun c => ?_) (fun c => ?_))
  · rw [sp_under, sp_set, if_pos (decide_eq_true c)] at ih; exact ih
  · rw [sp_under, sp_set, if_neg (by simpa using c)] at ih; exact ih
theorem c_walkersLiking {n W : Nat} {a1 : Int32} {M : jw_Mem} {Q : Int32 → jw_Mem → Prop} (hn : n < 20) (hW : M 1 0 3 = nI W) (h7 : W ≤ 7) (h : Q (sp_under (M 30 n) a1 W) M) : jw_M 1 mX8_walkersLiking [vr 8 n, vi a1] M Q := by
  refine en_X8_walkersLiking hn ?_
  refine lp_up (P := fun j => jw_J 1 mX8_walkersLiking 4 [(0, vr 8 n), (1, vi a1), (2, vi (sp_under (M 30 n) a1 j)), (3, vi (nI j))] [] M Q) W (bk_X8_walkersLiking_4 hn (ge_yes hW h)) (fun j hj ih => ?_)
  refine bk_X8_walkersLiking_4 hn (ge_no hW hj (by omega) ⟨vp_in_nI (by omega) (by decide), ?_⟩)
  rw [← nI_1] at ih
  rw [cl_i (by omega)]
  refine c_isIn (b01 (fun c => ?_) (fun c => ?_))
  · rw [sp_under, sp_set, if_pos (decide_eq_true c)] at ih; exact ih
  · rw [sp_under, sp_set, if_neg (by simpa using c)] at ih; exact ih
theorem r_walkersUnder {W : Nat} {a1 : Int32} {M : jw_Mem} {Q : Int32 → jw_Mem → Prop} (hW : M 11 0 7 = nI W) (h7 : W ≤ 7) (h : Q (sp_under (fun w => M 43 0 (18 + w)) a1 W) M) : jw_M 1 mX11_walkersUnder [vr 11 0, vi a1] M Q := by
  refine en_X11_walkersUnder ?_
  refine lp_up (P := fun j => jw_J 1 mX11_walkersUnder 4 [(0, vr 11 0), (1, vi a1), (2, vi (sp_under (fun w => M 43 0 (18 + w)) a1 j)), (3, vi (nI j))] [] M Q) W (bk_X11_walkersUnder_4 (ge_yes hW h)) (fun j hj ih => ?_)
  have e : (18 : Int32) + nI j = nI (18 + j) := nI_add 18 j
  refine bk_X11_walkersUnder_4 (ge_no hW hj (by omega) ?_)
  rw [e]
  refine ⟨vp_in_nI (by omega) (by decide), ?_⟩
  rw [← nI_1] at ih
  rw [cl_i (by omega)]
  refine r_has (b01 (fun c => ?_) (fun c => ?_))
  · rw [sp_under, sp_set, if_pos (decide_eq_true c)] at ih; exact ih
  · rw [i_or0]; rw [sp_under, sp_set, if_neg (by simpa using c)] at ih; exact ih
theorem r_whoLikes {W : Nat} {a1 : Int32} {M : jw_Mem} {Q : Int32 → jw_Mem → Prop} (hW : M 11 0 7 = nI W) (h7 : W ≤ 7) (h : Q (sp_under (fun w => M 43 0 (25 + w)) a1 W) M) : jw_M 1 mX11_whoLikes [vr 11 0, vi a1] M Q := by
  refine en_X11_whoLikes ?_
  refine lp_up (P := fun j => jw_J 1 mX11_whoLikes 4 [(0, vr 11 0), (1, vi a1), (2, vi (sp_under (fun w => M 43 0 (25 + w)) a1 j)), (3, vi (nI j))] [] M Q) W (bk_X11_whoLikes_4 (ge_yes hW h)) (fun j hj ih => ?_)
  have e : (25 : Int32) + nI j = nI (25 + j) := nI_add 25 j
  refine bk_X11_whoLikes_4 (ge_no hW hj (by omega) ?_)
  rw [e]
  refine ⟨vp_in_nI (by omega) (by decide), ?_⟩
  rw [← nI_1] at ih
  rw [cl_i (by omega)]
  refine r_has (b01 (fun c => ?_) (fun c => ?_))
  · rw [sp_under, sp_set, if_pos (decide_eq_true c)] at ih; exact ih
  · rw [i_or0]; rw [sp_under, sp_set, if_neg (by simpa using c)] at ih; exact ih
