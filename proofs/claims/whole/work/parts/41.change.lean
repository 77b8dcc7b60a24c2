/-! ===== bits ===== -/
def bt (x : Int32) (i : Nat) : Bool := x.toBitVec.getLsbD i
theorem b_ext {x y : Int32} (h : ∀ i, i < 32 → bt x i = bt y i) : x = y := Int32.toBitVec_inj.mp (BitVec.eq_of_getLsbD_eq (fun i hi => h i hi))
theorem b_or (x y : Int32) (i : Nat) : bt (x ||| y) i = (bt x i || bt y i) := by unfold bt; rw [Int32.toBitVec_or, BitVec.getLsbD_or]
theorem b_and (x y : Int32) (i : Nat) : bt (x &&& y) i = (bt x i && bt y i) := by unfold bt; rw [Int32.toBitVec_and, BitVec.getLsbD_and]
theorem b_xor (x y : Int32) (i : Nat) : bt (x ^^^ y) i = (bt x i ^^ bt y i) := by unfold bt; rw [Int32.toBitVec_xor, BitVec.getLsbD_xor]
theorem b_big {x : Int32} {i : Nat} (h : 32 ≤ i) : bt x i = false := BitVec.getLsbD_of_ge _ _ h
theorem b_255 (i : Nat) : bt 255 i = decide (i < 8) := by
  rcases Nat.lt_or_ge i 32 with h | h
  · exact (by decide +kernel : ∀ i, i < 32 → bt 255 i = decide (i < 8)) i h
  · rw [b_big h, decide_eq_false (by omega)]
theorem b_65535 (i : Nat) : bt 65535 i = decide (i < 16) := by
  rcases Nat.lt_or_ge i 32 with h | h
  · exact (by decide +kernel : ∀ i, i < 32 → bt 65535 i = decide (i < 16)) i h
  · rw [b_big h, decide_eq_false (by omega)]
theorem b_m1 : ∀ i, i < 32 → bt (-1) i = true := by decide +kernel
theorem b_0 (i : Nat) : bt 0 i = false := BitVec.getLsbD_zero
theorem s_l : ∀ n, n < 32 → ((nI n &&& 31).toBitVec.smod 32).toNat = n := by decide +kernel
theorem s_u : ∀ n, n < 32 → (((nI n).toUInt32 &&& Int32.toUInt32 31).toBitVec % 32).toNat = n := by decide +kernel
theorem b_shl (n : Nat) (hn : n < 32) (x : Int32) {i : Nat} (hi : i < 32) : bt (x <<< (nI n &&& 31)) i = (decide (n ≤ i) && bt x (i - n)) := by
  unfold bt
  rw [Int32.toBitVec_shiftLeft]
  show (x.toBitVec <<< ((nI n &&& 31).toBitVec.smod 32).toNat).getLsbD i = _
  rw [s_l n hn, BitVec.getLsbD_shiftLeft]
  rcases Nat.lt_or_ge i n with h | h
  · simp [h, Nat.not_le.mpr h]
  · simp [hi, h, Nat.not_lt.mpr h]
theorem b_ushr (n : Nat) (hn : n < 32) (x : Int32) (i : Nat) : bt ((x.toUInt32 >>> ((nI n).toUInt32 &&& Int32.toUInt32 31)).toInt32) i = bt x (n + i) := by
  show (x.toUInt32 >>> ((nI n).toUInt32 &&& Int32.toUInt32 31)).toBitVec.getLsbD i = x.toUInt32.toBitVec.getLsbD (n + i)
  rw [UInt32.toBitVec_shiftRight]
  show (x.toUInt32.toBitVec >>> (((nI n).toUInt32 &&& Int32.toUInt32 31).toBitVec % 32).toNat).getLsbD i = _
  rw [s_u n hn, BitVec.getLsbD_ushiftRight]
theorem b_sshr (n : Nat) (hn : n < 32) (x : Int32) {i : Nat} (hi : i < 32) : bt (x >>> (nI n &&& 31)) i = if n + i < 32 then bt x (n + i) else bt x 31 := by
  unfold bt
  rw [Int32.toBitVec_shiftRight]
  show (x.toBitVec.sshiftRight ((nI n &&& 31).toBitVec.smod 32).toNat).getLsbD i = _
  rw [s_l n hn, BitVec.getLsbD_sshiftRight, BitVec.msb_eq_getLsbD_last]
  simp [hi]
def fb_ct (p : Nat → Bool) : Nat → Nat
  | 0 => 0
  | n + 1 => fb_ct p n + (if p n then 1 else 0)
theorem fb_ct_succ (p : Nat → Bool) (n : Nat) : fb_ct p (n + 1) = fb_ct p n + (if p n then 1 else 0) := rfl
theorem fb_ct_le (p : Nat → Bool) : ∀ n, fb_ct p n ≤ n
  | 0 => Nat.le_refl _
  | n + 1 => by
    have h := fb_ct_le p n
    rw [fb_ct_succ]
    split <;> omega
theorem fb_ct_step (p : Nat → Bool) (m : Nat) : ∀ n, fb_ct p m ≤ fb_ct p (m + n)
  | 0 => Nat.le_refl _
  | n + 1 => by
    have h := fb_ct_step p m n
    show fb_ct p m ≤ fb_ct p (m + n + 1)
    rw [fb_ct_succ]
    omega
theorem fb_ct_mono (p : Nat → Bool) {m n : Nat} (h : m ≤ n) : fb_ct p m ≤ fb_ct p n := by
  have := fb_ct_step p m (n - m)
  rwa [Nat.add_sub_cancel' h] at this
theorem fb_ct_cong {p q : Nat → Bool} : ∀ {n : Nat}, (∀ k, k < n → p k = q k) → fb_ct p n = fb_ct q n
  | 0, _ => rfl
  | n + 1, h => by
    rw [fb_ct_succ, fb_ct_succ, fb_ct_cong (fun k hk => h k (by omega)), h n (by omega)]
/-- one place changed -/
theorem fb_ct_out (p : Nat → Bool) (b : Bool) {i n : Nat} (h : n ≤ i) : fb_ct (fun k => if k = i then b else p k) n = fb_ct p n :=
  fb_ct_cong fun k hk => if_neg (by omega)
theorem fb_ct_upd (p : Nat → Bool) (b : Bool) {i : Nat} : ∀ {n : Nat}, i < n → fb_ct (fun k => if k = i then b else p k) n + (if p i then 1 else 0) = fb_ct p n + (if b then 1 else 0)
  | 0, h => absurd h (Nat.not_lt_zero i)
  | n + 1, h => by
    rw [fb_ct_succ, fb_ct_succ]
    rcases Nat.lt_or_ge i n with q | q
    · have := fb_ct_upd p b q
      have e : (if n = i then b else p n) = p n := if_neg (by omega)
      rw [e]
      omega
    · have e : i = n := by omega
      subst e
      rw [fb_ct_out p b (Nat.le_refl _)]
      simp only [if_true]
      omega
theorem fb_ct_sub {p q : Nat → Bool} : ∀ {n : Nat}, (∀ k, k < n → p k = true → q k = true) → fb_ct p n ≤ fb_ct q n
  | 0, _ => Nat.le_refl _
  | n + 1, h => by
    have h1 := fb_ct_sub (n := n) (p := p) (q := q) (fun k hk => h k (by omega))
    have h2 := h n (by omega)
    rw [fb_ct_succ, fb_ct_succ]
    cases hp : p n <;> cases hq : q n <;> simp_all <;> omega
theorem fb_ct_or {p q : Nat → Bool} : ∀ {n : Nat}, (∀ k, k < n → ¬ (p k = true ∧ q k = true)) → fb_ct (fun k => p k || q k) n = fb_ct p n + fb_ct q n
  | 0, _ => rfl
  | n + 1, h => by
    have h1 := fb_ct_or (n := n) (p := p) (q := q) (fun k hk => h k (by omega))
    have h2 := h n (by omega)
    rw [fb_ct_succ, fb_ct_succ, fb_ct_succ, h1]
    cases hp : p n <;> cases hq : q n <;> simp_all <;> omega
def f_bc (a1 : Int32) : Int32 := ((((((((a1 - ((((a1).toUInt32 >>> ((1 : Int32).toUInt32 &&& Int32.toUInt32 31)).toInt32) &&& 1431655765)) &&& 858993459) + (((((a1 - ((((a1).toUInt32 >>> ((1 : Int32).toUInt32 &&& Int32.toUInt32 31)).toInt32) &&& 1431655765))).toUInt32 >>> ((2 : Int32).toUInt32 &&& Int32.toUInt32 31)).toInt32) &&& 858993459)) + ((((((a1 - ((((a1).toUInt32 >>> ((1 : Int32).toUInt32 &&& Int32.toUInt32 31)).toInt32) &&& 1431655765)) &&& 858993459) + (((((a1 - ((((a1).toUInt32 >>> ((1 : Int32).toUInt32 &&& Int32.toUInt32 31)).toInt32) &&& 1431655765))).toUInt32 >>> ((2 : Int32).toUInt32 &&& Int32.toUInt32 31)).toInt32) &&& 858993459))).toUInt32 >>> ((4 : Int32).toUInt32 &&& Int32.toUInt32 31)).toInt32)) &&& 252645135) + ((((((((a1 - ((((a1).toUInt32 >>> ((1 : Int32).toUInt32 &&& Int32.toUInt32 31)).toInt32) &&& 1431655765)) &&& 858993459) + (((((a1 - ((((a1).toUInt32 >>> ((1 : Int32).toUInt32 &&& Int32.toUInt32 31)).toInt32) &&& 1431655765))).toUInt32 >>> ((2 : Int32).toUInt32 &&& Int32.toUInt32 31)).toInt32) &&& 858993459)) + ((((((a1 - ((((a1).toUInt32 >>> ((1 : Int32).toUInt32 &&& Int32.toUInt32 31)).toInt32) &&& 1431655765)) &&& 858993459) + (((((a1 - ((((a1).toUInt32 >>> ((1 : Int32).toUInt32 &&& Int32.toUInt32 31)).toInt32) &&& 1431655765))).toUInt32 >>> ((2 : Int32).toUInt32 &&& Int32.toUInt32 31)).toInt32) &&& 858993459))).toUInt32 >>> ((4 : Int32).toUInt32 &&& Int32.toUInt32 31)).toInt32)) &&& 252645135)).toUInt32 >>> ((8 : Int32).toUInt32 &&& Int32.toUInt32 31)).toInt32)) + (((((((((a1 - ((((a1).toUInt32 >>> ((1 : Int32).toUInt32 &&& Int32.toUInt32 31)).toInt32) &&& 1431655765)) &&& 858993459) + (((((a1 - ((((a1).toUInt32 >>> ((1 : Int32).toUInt32 &&& Int32.toUInt32 31)).toInt32) &&& 1431655765))).toUInt32 >>> ((2 : Int32).toUInt32 &&& Int32.toUInt32 31)).toInt32) &&& 858993459)) + ((((((a1 - ((((a1).toUInt32 >>> ((1 : Int32).toUInt32 &&& Int32.toUInt32 31)).toInt32) &&& 1431655765)) &&& 858993459) + (((((a1 - ((((a1).toUInt32 >>> ((1 : Int32).toUInt32 &&& Int32.toUInt32 31)).toInt32) &&& 1431655765))).toUInt32 >>> ((2 : Int32).toUInt32 &&& Int32.toUInt32 31)).toInt32) &&& 858993459))).toUInt32 >>> ((4 : Int32).toUInt32 &&& Int32.toUInt32 31)).toInt32)) &&& 252645135) + ((((((((a1 - ((((a1).toUInt32 >>> ((1 : Int32).toUInt32 &&& Int32.toUInt32 31)).toInt32) &&& 1431655765)) &&& 858993459) + (((((a1 - ((((a1).toUInt32 >>> ((1 : Int32).toUInt32 &&& Int32.toUInt32 31)).toInt32) &&& 1431655765))).toUInt32 >>> ((2 : Int32).toUInt32 &&& Int32.toUInt32 31)).toInt32) &&& 858993459)) + ((((((a1 - ((((a1).toUInt32 >>> ((1 : Int32).toUInt32 &&& Int32.toUInt32 31)).toInt32) &&& 1431655765)) &&& 858993459) + (((((a1 - ((((a1).toUInt32 >>> ((1 : Int32).toUInt32 &&& Int32.toUInt32 31)).toInt32) &&& 1431655765))).toUInt32 >>> ((2 : Int32).toUInt32 &&& Int32.toUInt32 31)).toInt32) &&& 858993459))).toUInt32 >>> ((4 : Int32).toUInt32 &&& Int32.toUInt32 31)).toInt32)) &&& 252645135)).toUInt32 >>> ((8 : Int32).toUInt32 &&& Int32.toUInt32 31)).toInt32))).toUInt32 >>> ((16 : Int32).toUInt32 &&& Int32.toUInt32 31)).toInt32)) &&& 63)
def f_bt (x : Int32) : Nat → Int32
  | 0 => 0
  | k + 1 => f_bt x k + ((x >>> (nI k &&& 31)) &&& 1)
set_option maxRecDepth 100000 in
theorem bc_bt : ∀ n, n < 128 → f_bc (nI n) = f_bt (nI n) 7 := by decide +kernel
theorem k_bc {n : Nat} (hn : n < 128) {M : jw_Mem} {Q : Int32 → jw_Mem → Prop} (h : Q (f_bt (nI n) 7) M) : jw_M 0 mJ6_bitCount_0f7a4 [vi (nI n)] M Q := by
  refine en_J6_bitCount_0f7a4 ?_
  show Q (f_bc (nI n)) M
  rw [bc_bt n hn]
  exact h
theorem m_bits {x : Int32} {M : jw_Mem} {Q : Int32 → jw_Mem → Prop} (h : Q (f_bt x 7) M) : jw_M 0 mX11_bits [vi x] M Q := by
  refine en_X11_bits ?_
  refine lp_up (P := fun j => jw_J 0 mX11_bits 4 [(0, vi x), (1, vi (f_bt x j)), (2, vi (nI j))] [] M Q) 7 (bk_X11_bits_4 (ge_yes (W := 7) rfl h)) (fun j hj ih => bk_X11_bits_4 (ge_no (W := 7) rfl hj (by decide) ?_))
  rw [nI_1]
  exact ih
theorem b_1 : ∀ i, i < 32 → bt 1 i = decide (i = 0) := by decide +kernel
theorem and1 (y : Int32) : y &&& 1 = if bt y 0 = true then 1 else 0 := by
  refine b_ext (fun i hi => ?_)
  rw [b_and, b_1 i hi]
  by_cases h0 : i = 0
  · subst h0
    cases hb : bt y 0 <;> simp [b_0, b_1 0 (by decide)]
  · cases hb : bt y 0 <;> simp [b_0, b_1 i hi, h0]
theorem shr_bt (a : Int32) {k : Nat} (hk : k < 32) : ((a >>> (nI k &&& 31)) &&& 1) = if bt a k = true then 1 else 0 := by
  have e : bt (a >>> (nI k &&& 31)) 0 = bt a k := by rw [b_sshr k hk a (by decide), if_pos (show k + 0 < 32 by omega), Nat.add_zero]
  rw [and1, e]
theorem bit_bt {a : Int32} {k : Nat} (hk : k < 32) : sp_bit a (nI k) ↔ bt a k = true := by
  show ((a >>> (nI k &&& 31)) &&& 1) = 1 ↔ _
  rw [shr_bt a hk]
  cases bt a k <;> simp
theorem bt_ct (x : Int32) : ∀ n, n ≤ 32 → f_bt x n = nI (fb_ct (bt x) n)
  | 0, _ => rfl
  | n + 1, h => by
    rw [f_bt, fb_ct_succ, bt_ct x n (by omega), shr_bt x (by omega), ← nI_add]
    congr 1
    cases bt x n <;> simp
    all_goals rfl
theorem one_bt {w i : Nat} (hw : w < 32) (hi : i < 32) : bt ((1 : Int32) <<< (nI w &&& 31)) i = decide (i = w) := by
  rw [b_shl w hw 1 hi]
  by_cases h : w ≤ i
  · rw [b_1 _ (by omega), decide_eq_true h, Bool.true_and]
    by_cases e : i = w
    · rw [decide_eq_true e, decide_eq_true (by omega)]
    · rw [decide_eq_false e, decide_eq_false (by omega)]
  · rw [decide_eq_false h, Bool.false_and, decide_eq_false (by omega)]
/-! ===== change ===== -/
abbrev f_chC (C a : Ab) (W s : Nat) (u : Int32) (stay : Prop) (set : Nat) (best : Int32) : Prop := (best = -1 ∨ ¬ f_bt best 7 ≤ f_bt (nI set) 7) ∧ (¬ f_lead C a W (nI s) (u ^^^ nI set) < 0 ↔ stay)
def f_chg (C a : Ab) (W s : Nat) (u : Int32) (stay : Prop) [Decidable stay] (set : Nat) (best : Int32) : Int32 := if f_chC C a W s u stay set best then nI set else best
def bOK (b : Int32) : Prop := b = -1 ∨ ∃ n : Nat, n < 128 ∧ b = nI n
theorem chg_ok {C a : Ab} {W s : Nat} {u : Int32} {stay : Prop} [Decidable stay] {set : Nat} {best : Int32} (h : bOK best) (hs : set < 128) : bOK (f_chg C a W s u stay set best) := by
  unfold f_chg
  split
  · exact Or.inr ⟨set, hs, rfl⟩
  · exact h
theorem bOK.lt {b : Int32} (h : bOK b) : b < 0 ↔ b = -1 := by
  rcases h with rfl | ⟨n, hn, rfl⟩
  · exact ⟨fun _ => rfl, fun _ => by decide⟩
  · refine ⟨fun z => absurd (nI_pos' (by omega)) (Int32.not_le.mpr z), fun z => ?_⟩
    rw [z]; decide
def f_change (C a : Ab) (W s : Nat) (stay : Prop) [Decidable stay] : Int32 := lpF (f_chg C a W s (f_under a W (a 0 s)) stay) (2 ^ W) 0 (-1)
section CH
variable {P S W : Nat} {C a : Ab} {M : jw_Mem} {Q : Int32 → jw_Mem → Prop}
theorem k_change (hc : cK M P S W C) (hs : sK M 0 S W a) (hp : plOK P S a) {s : Nat} (hsS : s < S) (hst : ¬ a 0 s = -1) {stay : Prop} [Decidable stay] {v2 : Int32} (hv : (v2 = 1 ∧ stay) ∨ (v2 = 0 ∧ ¬ stay)) (h : Q (f_change C a W s stay) M) : jw_M 3 mX6_fewestChanges [vr 6 0, vi (nI s), vi v2] M Q := by
  have hS6 := hc.2.1.2.1
  have hW7 := hc.2.1.2.2
  have hpw := pow_le hW7 (Nat.le_refl _)
  refine en_X6_fewestChanges (k_stands (by decide) hc hs hp hsS ?_)
  rw [if_pos hst]
  refine ⟨fun _ => ⟨vp_in_nI (by omega) (by decide), ?_⟩, fun z => absurd z (by decide)⟩
  rw [cl_i (by omega), (hs.1 s hsS).1]
  refine k_under (by decide) hc hs ?_
  refine lp_f (S := 2 ^ W) (f := f_chg C a W s (f_under a W (a 0 s)) stay) (J := fun j acc => bOK acc → jw_J 3 mX6_fewestChanges 36 [(0, vr 6 0), (1, vi (nI s)), (2, vi v2), (3, vi (f_under a W (a 0 s))), (4, vi acc), (5, vi (nI j))] [] M Q) (fun j acc hj ih hb => ?_) (2 ^ W) 0 (-1) (by omega) (fun _ => bk_X6_fewestChanges_36 (en_X1_setsOfWalkers (by decide) ?_)) (Or.inl rfl)
  · have ih := ih (chg_ok hb (by omega))
    refine bk_X6_fewestChanges_36 (en_X1_setsOfWalkers (by decide) ?_)
    rw [hc.1.2.2.1, sh1 W (by omega)]
    refine ge_no rfl hj (by omega) ?_
    rw [nI_1]
    have core : (acc = -1 ∨ ¬ f_bt acc 7 ≤ f_bt (nI j) 7) → jw_M 2 mX8_lead [vr 8 0, vi (nI s), vi (f_under a W (a 0 s) ^^^ nI j)] M (fun x7 M8 => ((x7 < 0 → ((¬ 0 = v2 → jw_J 3 mX6_fewestChanges 36 [(0, vr 6 0), (1, vi (nI s)), (2, vi v2), (3, vi (f_under a W (a 0 s))), (4, vi acc), (5, vi (nI (j + 1)))] [] M8 Q) ∧ (0 = v2 → jw_J 3 mX6_fewestChanges 36 [(0, vr 6 0), (1, vi (nI s)), (2, vi v2), (3, vi (f_under a W (a 0 s))), (4, vi (nI j)), (5, vi (nI (j + 1)))] [] M8 Q))) ∧ (¬ x7 < 0 → ((¬ 1 = v2 → jw_J 3 mX6_fewestChanges 36 [(0, vr 6 0), (1, vi (nI s)), (2, vi v2), (3, vi (f_under a W (a 0 s))), (4, vi acc), (5, vi (nI (j + 1)))] [] M8 Q) ∧ (1 = v2 → jw_J 3 mX6_fewestChanges 36 [(0, vr 6 0), (1, vi (nI s)), (2, vi v2), (3, vi (f_under a W (a 0 s))), (4, vi (nI j)), (5, vi (nI (j + 1)))] [] M8 Q))))) := by
      intro hf
      refine k_lead (by decide) hc hs ⟨fun z => ⟨fun z2 => ?_, fun z2 => ?_⟩, fun z => ⟨fun z2 => ?_, fun z2 => ?_⟩⟩
      · have hy : stay := by rcases hv with ⟨-, e⟩ | ⟨e, -⟩; exact e; exact absurd e.symm z2
        rw [f_chg, if_neg (fun y => absurd z (y.2.mpr hy))] at ih; exact ih
      · have hn : ¬ stay := by rcases hv with ⟨e, -⟩ | ⟨-, e⟩; rw [e] at z2; exact absurd z2 (by decide); exact e
        rw [f_chg, if_pos ⟨hf, ⟨fun y => absurd z y, fun y => absurd y hn⟩⟩] at ih; exact ih
      · have hn : ¬ stay := by rcases hv with ⟨e, -⟩ | ⟨-, e⟩; exact absurd e.symm z2; exact e
        rw [f_chg, if_neg (fun y => hn (y.2.mp z))] at ih; exact ih
      · have hy : stay := by rcases hv with ⟨-, e⟩ | ⟨e, -⟩; exact e; rw [e] at z2; exact absurd z2 (by decide)
        rw [f_chg, if_pos ⟨hf, ⟨fun _ => hy, fun _ => z⟩⟩] at ih; exact ih
    refine ⟨fun z => core (Or.inl z), fun z => ?_⟩
    rcases id hb with e | ⟨n, hn, e⟩
    · exact absurd e z
    · rw [e] at ih core ⊢
      refine k_bc (by omega) (k_bc hn ⟨fun z2 => ?_, fun z2 => core (Or.inr z2)⟩)
      rw [f_chg, if_neg (fun y => y.1.elim (fun y2 => z (e.trans y2)) (fun y2 => y2 z2))] at ih
      exact ih
  · rw [hc.1.2.2.1, sh1 W (by omega)]
    exact ge_yes rfl h
theorem m_change (hc : cR M P S W C) (hs : sR M S W a) {s : Nat} (hsS : s < S) {v2 : Int32} (h : Q (lpF (f_chg C a W s (f_under a W (a 0 s)) (v2 = 0)) (2 ^ W) 0 (-1)) M) : jw_J 3 mX11_change 53 [(0, vr 11 0), (1, vi (nI s)), (2, vi v2), (3, vi (f_under a W (a 0 s))), (4, vi (-1)), (5, vi 0)] [] M Q := by
  have hW7 := hc.2.1.2.2
  have hpw := pow_le hW7 (Nat.le_refl _)
  refine lp_f (S := 2 ^ W) (f := f_chg C a W s (f_under a W (a 0 s)) (v2 = 0)) (J := fun j acc => bOK acc → jw_J 3 mX11_change 53 [(0, vr 11 0), (1, vi (nI s)), (2, vi v2), (3, vi (f_under a W (a 0 s))), (4, vi acc), (5, vi (nI j))] [] M Q) (fun j acc hj ih hb => ?_) (2 ^ W) 0 (-1) (by omega) (fun _ => bk_X11_change_53 ?_) (Or.inl rfl)
  · have ih := ih (chg_ok hb (by omega))
    refine bk_X11_change_53 ?_
    rw [hc.1.2.2.1, sh1 W (by omega)]
    refine ge_no rfl hj (by omega) ?_
    rw [nI_1]
    have core : (acc = -1 ∨ ¬ f_bt acc 7 ≤ f_bt (nI j) 7) → jw_M 2 mX11_marginBy [vr 11 0, vi (nI s), vi (f_under a W (a 0 s) ^^^ nI j)] M (fun x9 M10 => ((x9 < 0 → ((¬ v2 = 0 → jw_J 3 mX11_change 53 [(0, vr 11 0), (1, vi (nI s)), (2, vi v2), (3, vi (f_under a W (a 0 s))), (4, vi (nI j)), (5, vi (nI (j + 1)))] [] M10 Q) ∧ (v2 = 0 → jw_J 3 mX11_change 53 [(0, vr 11 0), (1, vi (nI s)), (2, vi v2), (3, vi (f_under a W (a 0 s))), (4, vi acc), (5, vi (nI (j + 1)))] [] M10 Q))) ∧ (¬ x9 < 0 → ((¬ v2 = 0 → jw_J 3 mX11_change 53 [(0, vr 11 0), (1, vi (nI s)), (2, vi v2), (3, vi (f_under a W (a 0 s))), (4, vi acc), (5, vi (nI (j + 1)))] [] M10 Q) ∧ (v2 = 0 → jw_J 3 mX11_change 53 [(0, vr 11 0), (1, vi (nI s)), (2, vi v2), (3, vi (f_under a W (a 0 s))), (4, vi (nI j)), (5, vi (nI (j + 1)))] [] M10 Q))))) := by
      intro hf
      refine m_lead hc hs ⟨fun z => ⟨fun z2 => ?_, fun z2 => ?_⟩, fun z => ⟨fun z2 => ?_, fun z2 => ?_⟩⟩
      · rw [f_chg, if_pos ⟨hf, ⟨fun y => absurd z y, fun y => absurd y z2⟩⟩] at ih; exact ih
      · rw [f_chg, if_neg (fun y => absurd z (y.2.mpr z2))] at ih; exact ih
      · rw [f_chg, if_neg (fun y => z2 (y.2.mp z))] at ih; exact ih
      · rw [f_chg, if_pos ⟨hf, ⟨fun _ => z2, fun _ => z⟩⟩] at ih; exact ih
    refine ⟨fun z => core (Or.inl (hb.lt.mp z)), fun z => m_bits (m_bits ⟨fun z2 => ?_, fun z2 => core (Or.inr z2)⟩)⟩
    rw [f_chg, if_neg (fun y => y.1.elim (fun y2 => z (hb.lt.mpr y2)) (fun y2 => y2 z2))] at ih
    exact m_lead hc hs ⟨fun _ => ih, fun _ => ih⟩
  · rw [hc.1.2.2.1, sh1 W (by omega)]
    exact ge_yes rfl h
end CH
theorem t_change (a1 a2 : Int32) : Both 4 mX10_change 3 mX11_change [vi a1, vi a2] := by
  intro M I
  obtain ⟨P, S, W, C, a, U, h0, L, x, c, u, v, b, p, q, kp, im, dr, hc, hs, hh, ht, hy, hb, hi, hd⟩ := id I
  have hS := hc.1.2.1.2.1
  by_cases h1 : sp_has S a1
  · obtain ⟨s, hsS, rfl⟩ := h1.ex (by omega)
    have hout : ¬ (0 ≤ a2 ∧ a2 ≤ 1) → jw_M 3 mX11_change [vr 11 0, vi (nI s), vi a2] M (fun y M2 => -1000000002 = y ∧ Inv M2) := fun z => by
      refine en_X11_change (m_isS hc.2.1 ?_)
      rw [if_pos h1]
      refine ⟨fun _ => r_in2 (lo' := 0) (hi' := 1) (by decide) (by decide) ?_, fun z => absurd z (by decide)⟩
      rw [if_neg z]
      exact ⟨fun z => absurd rfl z, fun _ => ⟨rfl, I⟩⟩
    refine en_X10_change (k_hasS hc.1 ?_)
    rw [if_pos h1]
    refine ⟨fun _ => ⟨fun z => hout (fun y => absurd y.1 (Int32.not_le.mpr z)), fun z => ⟨fun z2 => ?_, fun z2 => hout (fun y => z2 y.2)⟩⟩, fun z => absurd z (by decide)⟩
    have hin : 0 ≤ a2 ∧ a2 ≤ 1 := ⟨Int32.not_lt.mp z, z2⟩
    by_cases hst : ¬ a 0 s = -1
    · have mod : jw_M 3 mX11_change [vr 11 0, vi (nI s), vi a2] M (fun y M2 => f_change C a W s (a2 = 0) = y ∧ Inv M2) := by
        refine en_X11_change (m_isS hc.2.1 ?_)
        rw [if_pos h1]
        refine ⟨fun _ => r_in2 (lo' := 0) (hi' := 1) (by decide) (by decide) ?_, fun z => absurd z (by decide)⟩
        rw [if_pos hin]
        refine ⟨fun _ => m_stands hc.2.1 hs.2.1 hsS ?_, fun z => absurd z (by decide)⟩
        rw [if_pos hst]
        refine ⟨fun _ => ⟨vp_in_nI (by omega) (by decide), ?_⟩, fun z => absurd z (by decide)⟩
        rw [cl_i (by omega), (hs.2.1.1 s hsS).1]
        exact m_under hc.2.1 hs.2.1 (m_change hc.2.1 hs.2.1 hsS ⟨rfl, I⟩)
      refine k_stands (by decide) hc.1 hs.1 hs.2.2 hsS ?_
      rw [if_pos hst]
      refine ⟨fun _ => ⟨fun z3 => k_change hc.1 hs.1 hs.2.2 hsS hst (stay := a2 = 0) (Or.inr ⟨rfl, z3⟩) mod, fun z3 => k_change hc.1 hs.1 hs.2.2 hsS hst (stay := a2 = 0) (Or.inl ⟨rfl, z3⟩) mod⟩, fun z => absurd z (by decide)⟩
    · refine k_stands (by decide) hc.1 hs.1 hs.2.2 hsS ?_
      rw [if_neg hst]
      refine ⟨fun z => absurd rfl z, fun _ => en_X11_change (m_isS hc.2.1 ?_)⟩
      rw [if_pos h1]
      refine ⟨fun _ => r_in2 (lo' := 0) (hi' := 1) (by decide) (by decide) ?_, fun z => absurd z (by decide)⟩
      rw [if_pos hin]
      refine ⟨fun _ => m_stands hc.2.1 hs.2.1 hsS ?_, fun z => absurd z (by decide)⟩
      rw [if_neg hst]
      exact ⟨fun z => absurd rfl z, fun _ => ⟨rfl, I⟩⟩
  · refine en_X10_change (k_hasS hc.1 ?_)
    rw [if_neg h1]
    refine ⟨fun z => absurd rfl z, fun _ => en_X11_change (m_isS hc.2.1 ?_)⟩
    rw [if_neg h1]
    exact ⟨fun z => absurd rfl z, fun _ => ⟨rfl, I⟩⟩
