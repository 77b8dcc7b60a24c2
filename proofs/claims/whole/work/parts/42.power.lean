/-! ===== power ===== -/
theorem set_bt (c : Nat → Bool) : ∀ k, k ≤ 31 → ∀ i, i < 32 → bt (sp_set c k) i = (decide (i < k) && c i)
  | 0, _, i, _ => by rw [sp_set, b_0]; simp
  | k + 1, hk, i, hi => by
    rw [sp_set]
    have ih := set_bt c k (by omega) i hi
    by_cases h : c k = true
    · rw [if_pos h, b_or, ih, one_bt (by omega) hi]
      by_cases e : i = k
      · subst e; simp [h]
      · by_cases l : i < k
        · simp [l, e, show i < k + 1 by omega]
        · simp [l, e, show ¬ i < k + 1 by omega]
    · rw [if_neg h, ih]
      by_cases e : i = k
      · subst e; simp [h]
      · by_cases l : i < k
        · simp [l, show i < k + 1 by omega]
        · simp [l, show ¬ i < k + 1 by omega]
theorem small_bt {x : Int32} (h : ∀ i, i < 32 → 7 ≤ i → bt x i = false) : ∃ m : Nat, m < 128 ∧ x = nI m := by
  have b127 : ∀ i, i < 32 → bt 127 i = decide (i < 7) := by decide +kernel
  have e : x &&& 127 = x := b_ext (fun i hi => by
    rw [b_and, b127 i hi]
    by_cases q : i < 7
    · simp [q]
    · rw [h i hi (by omega)]; simp)
  have e2 := pk_and x (m := 127) 7 (by decide)
  rw [e] at e2
  exact ⟨_, Nat.mod_lt _ (by decide), e2⟩
theorem nI_bt {n : Nat} (hn : n < 128) {i : Nat} (hi : i < 32) (h7 : 7 ≤ i) : bt (nI n) i = false := (by decide +kernel : ∀ n, n < 128 → ∀ i, i < 32 → 7 ≤ i → bt (nI n) i = false) n hn i hi h7
theorem sub_bt {x y : Int32} : (x &&& (y ^^^ (-1))) = 0 ↔ ∀ i, i < 32 → bt x i = true → bt y i = true := by
  constructor
  · intro h i hi hx
    have := congrArg (fun z => bt z i) h
    simp only [b_and, b_xor, b_m1 i hi, b_0] at this
    rw [hx] at this
    cases hy : bt y i
    · rw [hy] at this; simp at this
    · rfl
  · intro h
    refine b_ext (fun i hi => ?_)
    rw [b_and, b_xor, b_m1 i hi, b_0]
    cases hx : bt x i
    · rfl
    · rw [h i hi hx]; rfl
theorem votes_or {v : Nat → Int32} {set : Int32} {w : Nat} (hw : w < 32) (h : ¬ sp_bit set (nI w)) : ∀ k, k ≤ 32 → sp_votes v (set ||| ((1 : Int32) <<< (nI w &&& 31))) k = sp_votes v set k + (if w < k then v w else 0)
  | 0, _ => by rw [sp_votes, sp_votes, if_neg (by omega)]; decide
  | k + 1, hk => by
    have ih := votes_or (v := v) hw h k (by omega)
    have hb : sp_bit (set ||| ((1 : Int32) <<< (nI w &&& 31))) (nI k) ↔ (sp_bit set (nI k) ∨ k = w) := by
      rw [bit_bt (by omega), bit_bt (by omega), b_or, one_bt hw (by omega)]
      simp
    rw [sp_votes, sp_votes, ih]
    by_cases e : k = w
    · subst e
      rw [if_pos (hb.mpr (Or.inr rfl)), if_neg h, if_neg (by omega), if_pos (by omega), i_add0]
    · by_cases q : sp_bit set (nI k)
      · rw [if_pos (hb.mpr (Or.inl q)), if_pos q]
        by_cases l : w < k
        · rw [if_pos l, if_pos (by omega), Int32.add_assoc, Int32.add_assoc, Int32.add_comm (v w)]
        · rw [if_neg l, if_neg (by omega), i_add0, i_add0]
      · rw [if_neg (fun z => (hb.mp z).elim q e), if_neg q]
        by_cases l : w < k
        · rw [if_pos l, if_pos (by omega)]
        · rw [if_neg l, if_neg (by omega)]
abbrev f_cb (x : Int32) : Nat := fb_ct (bt x) 7
theorem cb_le (x : Int32) : f_cb x ≤ 7 := fb_ct_le (bt x) 7
theorem bt_cb (x : Int32) : f_bt x 7 = nI (f_cb x) := bt_ct x 7 (by decide)
/-- a set among the others: the counts -/
theorem cb_sub {u x : Int32} {w : Nat} (hw : w < 7) (hu : bt u w = true) (hs : ∀ i, i < 7 → bt x i = true → bt u i = true ∧ i ≠ w) : f_cb ((u &&& (((1 : Int32) <<< (nI w &&& 31)) ^^^ (-1))) &&& (x ^^^ (-1))) + f_cb x + 1 = f_cb u := by
  have e1 : f_cb ((u &&& (((1 : Int32) <<< (nI w &&& 31)) ^^^ (-1))) &&& (x ^^^ (-1))) + f_cb x = fb_ct (fun k => if k = w then false else bt u k) 7 := by
    unfold f_cb
    rw [← fb_ct_or (fun k hk => ?_)]
    · refine fb_ct_cong (fun k hk => ?_)
      show (bt ((u &&& (((1 : Int32) <<< (nI w &&& 31)) ^^^ (-1))) &&& (x ^^^ (-1))) k || bt x k) = if k = w then false else bt u k
      rw [b_and, b_and, b_xor, b_xor, b_m1 k (by omega), one_bt (by omega) (by omega)]
      by_cases e : k = w
      · subst e
        cases hx : bt x k
        · simp
        · exact absurd rfl (hs k hk hx).2
      · cases hx : bt x k
        · simp [e]
        · simp [e, (hs k hk hx).1]
    · rw [b_and, b_xor, b_m1 k (by omega)]
      cases bt x k <;> simp
  have e2 := fb_ct_upd (bt u) false hw
  rw [hu] at e2
  simp only [if_true] at e2
  rw [e1]
  simpa using e2
theorem fac_step : ∀ k, k < 6 → jw_ord (k + 1) * nI (k + 2) = jw_ord (k + 2) := by decide
theorem m_fact {n : Nat} (hn : n ≤ 7) {M : jw_Mem} {Q : Int32 → jw_Mem → Prop} (h : Q (jw_ord n) M) : jw_M 0 mX11_factorial [vi (nI n)] M Q := by
  refine en_X11_factorial ?_
  by_cases h1 : n ≤ 1
  · have e : jw_ord n = 1 := by
      rcases (show n = 0 ∨ n = 1 by omega) with rfl | rfl <;> rfl
    rw [e] at h
    exact bk_X11_factorial_4 ⟨fun _ => h, fun z => absurd ((nI_ltI (b := 2) (by omega) (by decide)).mpr (by omega)) z⟩
  · refine lp_up (P := fun j => jw_J 0 mX11_factorial 4 [(0, vi (nI n)), (1, vi (jw_ord (j + 1))), (2, vi (nI (j + 2)))] [] M Q) (n - 1) ?_ (fun j hj ih => ?_)
    · rw [show n - 1 + 1 = n by omega]
      exact bk_X11_factorial_4 ⟨fun _ => h, fun z => absurd ((nI_ltI (by omega) (by omega)).mpr (by omega)) z⟩
    · refine bk_X11_factorial_4 ⟨fun z => absurd z (fun y => by have := (nI_ltI (by omega) (by omega)).mp y; omega), fun _ => ?_⟩
      rw [fac_step j (by omega), nI_1]
      exact ih
theorem ways_le : ∀ a, a < 8 → ∀ b, b < 8 → ((nI a - nI b) - 1 ≤ 0 ↔ a ≤ b + 1) := by decide
theorem ways_eq : ∀ a, a < 8 → ∀ b, b < 8 → b + 1 < a → (nI a - nI b) - 1 = nI (a - (b + 1)) := by decide
theorem m_ways {K : Int32 → Int32 → jw_Mem → Prop} {u y : Int32} {M : jw_Mem} (h : K (jw_ord (f_cb y)) (jw_ord (f_cb u - (f_cb y + 1))) M) : jw_M 0 mX11_bits [vi y] M (fun x15 M16 => jw_M 0 mX11_factorial [vi x15] M16 (fun x17 M18 => jw_M 0 mX11_bits [vi u] M18 (fun x19 M20 => jw_M 0 mX11_bits [vi y] M20 (fun x21 M22 => ((((x19 - x21) - 1) ≤ 0 → jw_M 0 mX11_factorial [vi 0] M22 (fun x23 M24 => K x17 x23 M24)) ∧ (¬ ((x19 - x21) - 1) ≤ 0 → jw_M 0 mX11_bits [vi u] M22 (fun x25 M26 => jw_M 0 mX11_bits [vi y] M26 (fun x27 M28 => jw_M 0 mX11_factorial [vi ((x25 - x27) - 1)] M28 (fun x29 M30 => K x17 x29 M30))))))))) := by
  have l1 := cb_le y
  have l2 := cb_le u
  refine m_bits ?_
  rw [bt_cb]
  refine m_fact l1 (m_bits (m_bits ?_))
  rw [bt_cb, bt_cb]
  refine ⟨fun z => ?_, fun z => m_bits (m_bits ?_)⟩
  · have e : f_cb u - (f_cb y + 1) = 0 := by
      have := (ways_le _ (by omega) _ (by omega)).mp z
      omega
    rw [e] at h
    exact m_fact (n := 0) (by decide) h
  · have l3 : f_cb y + 1 < f_cb u := Nat.lt_of_not_le (fun q => z ((ways_le _ (by omega) _ (by omega)).mpr q))
    rw [bt_cb, bt_cb, ways_eq _ (by omega) _ (by omega) l3]
    exact m_fact (by omega) h
abbrev f_pwC (C : Ab) (W w : Nat) (u en : Int32) (set : Nat) : Prop := (nI set &&& (u ^^^ (-1))) = 0 ∧ ¬ sp_bit (nI set) (nI w) ∧ ¬ en ≤ f_votes C W (nI set) ∧ ¬ f_votes C W (nI set) + C 3 w < en
def f_pw (C : Ab) (W w : Nat) (u en : Int32) (ord : Prop) [Decidable ord] (set : Nat) (acc : Int32) : Int32 := if f_pwC C W w u en set then acc + (if ord then jw_ord (f_cb (nI set)) * jw_ord (f_cb u - (f_cb (nI set) + 1)) else 1) else acc
def f_pow (C a : Ab) (W w : Nat) (p : Int32) (ord : Prop) [Decidable ord] : Int32 := if sp_bit (f_under a W p) (nI w) then lpF (f_pw C W w (f_under a W p) ((f_votes C W (f_under a W p) + 1) / 2) ord) (2 ^ W) 0 0 else 0
section PW
variable {P S W : Nat} {C a : Ab} {M : jw_Mem} {Q : Int32 → jw_Mem → Prop}
theorem under_bt {a : Ab} {W : Nat} (hW : W ≤ 7) {p : Int32} : ∀ i, i < 32 → 7 ≤ i → bt (f_under a W p) i = false := by
  intro i hi h7
  rw [f_under, sp_under, set_bt _ W (by omega) i hi, decide_eq_false (by omega)]
  rfl
theorem k_power (hc : cK M P S W C) (hs : sK M 0 S W a) {w : Nat} (hw : w < W) {p : Int32} {ord : Prop} [Decidable ord] {v3 : Int32} (hv : (v3 = 1 ∧ ord) ∨ (v3 = 0 ∧ ¬ ord)) (h : Q (f_pow C a W w p ord) M) : jw_M 2 mX6_weight [vr 6 0, vi (nI w), vi p, vi v3] M Q := by
  have hW7 := hc.2.1.2.2
  have hpw := pow_le hW7 (Nat.le_refl _)
  refine en_X6_weight (k_under (by decide) hc hs (c_isIn (b10 (fun hb => k_votes hc ?_) (fun hb => ?_))))
  · rw [f_pow, if_pos hb] at h
    have hub := under_bt (a := a) hW7 (p := p)
    generalize f_under a W p = u at h hb hub ⊢
    generalize (f_votes C W u + 1) / 2 = en at h ⊢
    have hbw := (bit_bt (by omega)).mp hb
    refine lp_f (S := 2 ^ W) (f := f_pw C W w u en ord) (J := fun j acc => jw_J 2 mX6_weight 52 [(0, vr 6 0), (1, vi (nI w)), (3, vi v3), (5, vi (u &&& (((1 : Int32) <<< (nI w &&& 31)) ^^^ (-1)))), (6, vi en), (7, vi acc), (8, vi (nI j))] [] M Q) (fun j acc hj ih => ?_) (2 ^ W) 0 0 (by omega) (bk_X6_weight_52 (en_X1_setsOfWalkers (by decide) ?_))
    · refine bk_X6_weight_52 (en_X1_setsOfWalkers (by decide) ?_)
      rw [hc.1.2.2.1, sh1 W (by omega)]
      refine ge_no rfl hj (by omega) ?_
      rw [nI_1]
      rw [f_pw] at ih
      have hA : (nI j &&& ((u &&& (((1 : Int32) <<< (nI w &&& 31)) ^^^ (-1))) ^^^ (-1))) = 0 ↔ ((nI j &&& (u ^^^ (-1))) = 0 ∧ ¬ sp_bit (nI j) (nI w)) := by
        rw [sub_bt, sub_bt, bit_bt (by omega)]
        constructor
        · intro q
          refine ⟨fun i hi hx => ?_, fun hx => ?_⟩
          · have := q i hi hx
            rw [b_and] at this
            exact (Bool.and_eq_true_iff.mp this).1
          · have := q w (by omega) hx
            rw [b_and, b_xor, one_bt (by omega) (by omega), b_m1 w (by omega)] at this
            simp at this
        · rintro ⟨q1, q2⟩ i hi hx
          rw [b_and, b_xor, one_bt (by omega) hi, b_m1 i hi, q1 i hi hx]
          have : i ≠ w := fun e => q2 (e ▸ hx)
          simp [this]
      refine ⟨fun z => ?_, fun z => ?_⟩
      · rw [if_neg (fun y => z (hA.mpr ⟨y.1, y.2.1⟩))] at ih; exact ih
      · obtain ⟨z1, z2⟩ := hA.mp z
        refine k_votes hc ⟨fun y => ?_, fun y => k_votes hc ⟨fun y2 => ?_, fun y2 => ?_⟩⟩
        · rw [if_neg (fun t => t.2.2.1 y)] at ih; exact ih
        · rw [f_votes, votes_or (by omega) z2 W (by omega), if_pos hw] at y2
          rw [if_neg (fun t => t.2.2.2 y2)] at ih; exact ih
        · rw [f_votes, votes_or (by omega) z2 W (by omega), if_pos hw] at y2
          rw [if_pos ⟨z1, z2, y, y2⟩] at ih
          refine ⟨fun t => ?_, fun t => ?_⟩
          · have no : ¬ ord := by rcases hv with ⟨e, -⟩ | ⟨-, e⟩; rw [e] at t; exact absurd t (by decide); exact e
            rw [if_neg no] at ih; exact ih
          · have yo : ord := by rcases hv with ⟨-, e⟩ | ⟨e, -⟩; exact e; exact absurd e t
            rw [if_pos yo] at ih
            obtain ⟨m, hm, em⟩ := small_bt (x := (u &&& (((1 : Int32) <<< (nI w &&& 31)) ^^^ (-1))) &&& (nI j ^^^ (-1))) (fun i hi h7 => by rw [b_and, b_and, hub i hi h7]; rfl)
            have hcb := cb_sub (u := u) (x := nI j) (w := w) (by omega) hbw (fun i hi hx => ⟨sub_bt.mp z1 i (by omega) hx, fun e => z2 ((bit_bt (by omega)).mpr (e ▸ hx))⟩)
            rw [em] at hcb ⊢
            have l1 := cb_le (nI j)
            have l2 := cb_le u
            have l3 := cb_le (nI m)
            refine k_bc (by omega) (k_bc hm ?_)
            rw [bt_cb, bt_cb]
            have p1 : ∀ t, t ≤ 7 → ¬ nI t < 0 ∧ ¬ (8 : Int32) ≤ nI t ∧ vp_in (nI t) 8 := fun t ht => ⟨nI_pos (by omega), fun q => by have := (nI_leI (a := 8) (by decide) (by omega)).mp q; omega, vp_in_nI (by omega) (by decide)⟩
            obtain ⟨a1, a2, a3⟩ := p1 _ l1
            obtain ⟨b1, b2, b3⟩ := p1 _ l3
            refine en_X6_ordersAround ⟨fun q => absurd q a1, fun _ => ⟨fun q => absurd q a2, fun _ => ⟨fun q => absurd q b1, fun _ => ⟨fun q => absurd q b2, fun _ => ⟨a3, b3, ?_⟩⟩⟩⟩⟩
            rw [cl_i (by omega), cl_i (by omega), show f_cb (nI m) = f_cb u - (f_cb (nI j) + 1) by omega]
            exact ih
    · rw [hc.1.2.2.1, sh1 W (by omega)]
      exact ge_yes rfl h
  · rw [f_pow, if_neg hb] at h; exact h
end PW
