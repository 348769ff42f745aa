/-! the odometer over the labels with more than one index -/
def ct_kk (us : List Nat) (n d : Nat) : Nat := if d < us.length then us.getD d 0 else n
theorem ct_kk_in {us : List Nat} {n d : Nat} (h : d < us.length) : ct_kk us n d = us.getD d 0 := if_pos h
theorem ct_kk_out {us : List Nat} {n d : Nat} (h : us.length ≤ d) : ct_kk us n d = n := if_neg (by omega)
theorem ct_kk_app {us : List Nat} {n d : Nat} (h : d ≤ us.length) : ct_kk (us ++ [n]) (n + 1) d = ct_kk us n d := by
  have hl : (us ++ [n]).length = us.length + 1 := by rw [List.length_append]; rfl
  by_cases h1 : d < us.length
  · rw [ct_kk_in (by omega), ct_kk_in h1, ct_gd_l h1]
  · rw [ct_kk_in (by omega), ct_kk_out (by omega), show d = us.length by omega, ct_gd_r]
def ct_skip (sz : Nat → Nat) (U j : Nat) : Prop := U.testBit j = false ∨ sz j = 1
theorem ct_us_ok {sz : Nat → Nat} {U : Nat} (n : Nat) (hs : ∀ k, k < n → 0 < sz k) :
    (∀ d, d < (ct_us sz U n).length → (ct_us sz U n).getD d 0 < ct_kk (ct_us sz U n) n (d + 1) ∧ (ct_us sz U n).getD d 0 < n ∧ U.testBit ((ct_us sz U n).getD d 0) = true ∧ 1 < sz ((ct_us sz U n).getD d 0) ∧ ∀ j, (ct_us sz U n).getD d 0 < j → j < ct_kk (ct_us sz U n) n (d + 1) → ct_skip sz U j) ∧
    (∀ j, j < ct_kk (ct_us sz U n) n 0 → ct_skip sz U j) ∧ (∀ d, ct_kk (ct_us sz U n) n d ≤ n) ∧ (∀ d1 d2, d1 < (ct_us sz U n).length → d2 < (ct_us sz U n).length → (ct_us sz U n).getD d1 0 = (ct_us sz U n).getD d2 0 → d1 = d2) := by
  induction n with
  | zero =>
    refine ⟨fun d h => absurd h (Nat.not_lt_zero d), fun j h => ?_, fun d => ?_, fun d1 d2 h => absurd h (Nat.not_lt_zero d1)⟩
    · rw [ct_kk_out (Nat.zero_le _)] at h; omega
    · rw [ct_kk_out (Nat.zero_le _)]; exact Nat.le_refl 0
  | succ n ih =>
    obtain ⟨h1, h2, h3, h4⟩ := ih (fun k hk => hs k (by omega))
    by_cases hv : U.testBit n = true ∧ 1 < sz n
    · rw [ct_us_in hv]
      generalize ct_us sz U n = us at h1 h2 h3 h4 ⊢
      have hl : (us ++ [n]).length = us.length + 1 := by rw [List.length_append]; rfl
      refine ⟨fun d hd => ?_, fun j hj => ?_, fun d => ?_, fun d1 d2 e1 e2 e3 => ?_⟩
      · by_cases h9 : d < us.length
        · rw [ct_gd_l h9, ct_kk_app (by omega)]
          obtain ⟨a1, a2, a3, a4, a5⟩ := h1 d h9
          exact ⟨a1, by omega, a3, a4, a5⟩
        · rw [show d = us.length by omega, ct_gd_r, ct_kk_out (by omega)]
          exact ⟨by omega, by omega, hv.1, hv.2, fun j b1 b2 => by omega⟩
      · rw [ct_kk_app (Nat.zero_le _)] at hj
        exact h2 j hj
      · by_cases h9 : d ≤ us.length
        · rw [ct_kk_app h9]; have := h3 d; omega
        · rw [ct_kk_out (by omega)]; exact Nat.le_refl _
      · by_cases f1 : d1 < us.length
        · by_cases f2 : d2 < us.length
          · rw [ct_gd_l f1, ct_gd_l f2] at e3
            exact h4 d1 d2 f1 f2 e3
          · rw [ct_gd_l f1, show d2 = us.length by omega, ct_gd_r] at e3
            have := (h1 d1 f1).2.1
            omega
        · by_cases f2 : d2 < us.length
          · rw [ct_gd_l f2, show d1 = us.length by omega, ct_gd_r] at e3
            have := (h1 d2 f2).2.1
            omega
          · omega
    · rw [ct_us_out hv]
      have hsk : ct_skip sz U n := by
        cases hb : U.testBit n with
        | false => exact Or.inl hb
        | true =>
          have h0 := hs n (by omega)
          have : ¬ 1 < sz n := fun z => hv ⟨hb, z⟩
          exact Or.inr (by omega)
      generalize ct_us sz U n = us at h1 h2 h3 h4 ⊢
      have hk : ∀ d, ct_kk us (n + 1) d = if d < us.length then ct_kk us n d else n + 1 := by
        intro d
        by_cases h9 : d < us.length
        · rw [if_pos h9, ct_kk_in h9, ct_kk_in h9]
        · rw [if_neg h9, ct_kk_out (by omega)]
      refine ⟨fun d hd => ?_, fun j hj => ?_, fun d => ?_, h4⟩
      · obtain ⟨a1, a2, a3, a4, a5⟩ := h1 d hd
        rw [hk]
        by_cases h9 : d + 1 < us.length
        · rw [if_pos h9]; exact ⟨a1, by omega, a3, a4, a5⟩
        · rw [if_neg h9]
          rw [ct_kk_out (by omega)] at a5
          refine ⟨by omega, by omega, a3, a4, fun j b1 b2 => ?_⟩
          by_cases hj : j = n
          · rw [hj]; exact hsk
          · exact a5 j b1 (by omega)
      · rw [hk] at hj
        by_cases h9 : 0 < us.length
        · rw [if_pos h9] at hj; exact h2 j hj
        · rw [if_neg h9] at hj
          rw [ct_kk_out (by omega)] at h2
          by_cases hjn : j = n
          · rw [hjn]; exact hsk
          · exact h2 j (by omega)
      · rw [hk]
        by_cases h9 : d < us.length
        · rw [if_pos h9]; have := h3 d; omega
        · rw [if_neg h9]; exact Nat.le_refl _
theorem ct_ix_zero {sz : Nat → Nat} {M k : Nat} {t : Nat → Nat} (hk : k < 8) (h : t k + 1 = sz k) : ct_ix sz M.testBit 8 (ct_st t k 0) + (sz k - 1) * ct_sr sz M k = ct_ix sz M.testBit 8 t := by
  unfold ct_sr
  by_cases hb : M.testBit k = true
  · rw [if_pos hb, ← h, Nat.add_sub_cancel, ct_ix_st t 0 hb 8 hk]; omega
  · rw [if_neg hb, ct_ix_no t 0 (by simpa using hb)]; omega
theorem ct_ix_inc {sz : Nat → Nat} {M k : Nat} (t : Nat → Nat) (hk : k < 8) : ct_ix sz M.testBit 8 (ct_st t k (t k + 1)) = ct_ix sz M.testBit 8 t + ct_sr sz M k := by
  unfold ct_sr
  by_cases hb : M.testBit k = true
  · rw [if_pos hb]
    have h := ct_ix_st (sz := sz) t (t k + 1) hb 8 hk
    rw [Nat.add_mul, Nat.one_mul] at h
    omega
  · rw [if_neg hb, ct_ix_no t _ (by simpa using hb)]; omega
theorem ct_pos_wrap {a x A z u : Nat} (hz : 1 ≤ z) (h : A + (z - 1) * u = x) : nI (a + x) + (nI 1 - nI z) * nI u = nI (a + A) := by
  obtain ⟨y, rfl⟩ : ∃ y, z = y + 1 := ⟨z - 1, by omega⟩
  rw [← h, Nat.add_sub_cancel, ← Nat.add_assoc, ← nI_add (a + A), ← pk_mul, ← nI_1 y]
  have e : nI 1 - (nI y + 1) = -(nI y) := by
    show (1 : Int32) - (nI y + 1) = -(nI y)
    rw [Int32.add_comm, ← Int32.sub_sub, Int32.sub_self, Int32.zero_sub]
  rw [e, Int32.neg_mul, Int32.add_neg_eq_sub, Int32.add_sub_cancel]
theorem ct_pos_inc {a x u : Nat} : nI (a + x) + nI 1 * nI u = nI (a + (x + u)) := by
  rw [pk_mul, Nat.one_mul, nI_add, Nat.add_assoc]
theorem ct_by_ne {z : Nat} (h1 : 1 < z) (h2 : z < 4) : ¬ (nI 1 - nI z = nI 1) := by
  rcases (show z = 2 ∨ z = 3 by omega) with rfl | rfl <;> decide
theorem ct_car_lt {sz : Nat → Nat} {U : Nat → Bool} {n k : Nat} {t : Nat → Nat} (h : ct_car sz U n (k + 1) t) (hU : U k = true) (hz : 0 < sz k) : t k < sz k := by
  obtain ⟨q, -, h2⟩ := h
  rw [h2, ct_de_in hU, ct_st_at]
  exact Nat.mod_lt _ hz
/-- what a join leaves: elsewhere all stays; at each choice of the labels T the sum -/
def ct_joined (sz : Nat → Nat) (f : Nat → Int32) (a L b R t T : Nat) (f' : Nat → Int32) : Prop := (∀ i, (i < t ∨ t + ct_pr sz T.testBit 8 ≤ i) → f' i = f i) ∧ ∀ r : Nat → Nat, (∀ k, k < 8 → T.testBit k = true → r k < sz k) → f' (t + ct_ix sz T.testBit 8 r) = ct_sm sz (fun k => (L ||| R ||| T).testBit k && !T.testBit k) 8 (fun t => f (a + ct_ix sz L.testBit 8 t) * f (b + ct_ix sz R.testBit 8 t)) r
/-- the sum so far, at cell j of the third table -/
def ct_acc (sz : Nat → Nat) (f : Nat → Int32) (a L b R T : Nat) (n j : Nat) : Int32 := ct_sum (fun q => if ct_ix sz T.testBit 8 (ct_de sz (L ||| R ||| T).testBit 8 q) = j then f (a + ct_ix sz L.testBit 8 (ct_de sz (L ||| R ||| T).testBit 8 q)) * f (b + ct_ix sz R.testBit 8 (ct_de sz (L ||| R ||| T).testBit 8 q)) else 0) n
theorem ct_acc_at {sz : Nat → Nat} {f : Nat → Int32} {a L b R T n j : Nat} (h : ct_ix sz T.testBit 8 (ct_de sz (L ||| R ||| T).testBit 8 n) = j) : ct_acc sz f a L b R T (n + 1) j = ct_acc sz f a L b R T n j + f (a + ct_ix sz L.testBit 8 (ct_de sz (L ||| R ||| T).testBit 8 n)) * f (b + ct_ix sz R.testBit 8 (ct_de sz (L ||| R ||| T).testBit 8 n)) := by
  show ct_acc sz f a L b R T n j + (if _ then _ else _) = _
  rw [if_pos h]
theorem ct_acc_no {sz : Nat → Nat} {f : Nat → Int32} {a L b R T n j : Nat} (h : ct_ix sz T.testBit 8 (ct_de sz (L ||| R ||| T).testBit 8 n) ≠ j) : ct_acc sz f a L b R T (n + 1) j = ct_acc sz f a L b R T n j := by
  show ct_acc sz f a L b R T n j + (if _ then _ else _) = _
  rw [if_neg h, Int32.add_zero]
theorem ct_dep_ix (sz : Nat → Nat) (M : Nat) (f : Nat → Int32) (a : Nat) : ct_dep (fun t => f (a + ct_ix sz M.testBit 8 t)) (fun k => decide (k < 8) && M.testBit k) := by
  intro t u h
  show f (a + ct_ix sz M.testBit 8 t) = f (a + ct_ix sz M.testBit 8 u)
  rw [ct_ix_congr (t' := u) 8 (fun _ _ => rfl) (fun _ _ _ => rfl) (fun k hk hb => h k (by simp [hk, hb]))]
theorem ct_acc_end {sz : Nat → Nat} {f f' : Nat → Int32} {a L b R t T : Nat} (hs : ∀ j, j < 8 → 0 < sz j) (h1 : ∀ i, (i < t ∨ t + ct_pr sz T.testBit 8 ≤ i) → f' i = f i) (h2 : ∀ j, j < ct_pr sz T.testBit 8 → f' (t + j) = ct_acc sz f a L b R T (ct_pr sz (L ||| R ||| T).testBit 8) j) : ct_joined sz f a L b R t T f' := by
  refine ⟨h1, fun r hr => ?_⟩
  rw [h2 _ (ct_ix_lt 8 hr)]
  refine ct_join_sum (U := (L ||| R ||| T).testBit) (T := T.testBit) (f := fun t => f (a + ct_ix sz L.testBit 8 t) * f (b + ct_ix sz R.testBit 8 t)) hs (fun k _ hT => by simp [Nat.testBit_or, hT]) hr ?_
  refine ct_dep_mono (ct_dep_mul (ct_dep_ix sz L f a) (ct_dep_ix sz R f b)) (fun k hk => ?_)
  simp only [Bool.or_eq_true, Bool.and_eq_true, decide_eq_true_eq, Nat.testBit_or] at hk ⊢
  rcases hk with h | h
  · exact ⟨h.1, Or.inl (Or.inl h.2)⟩
  · exact ⟨h.1, Or.inl (Or.inr h.2)⟩
