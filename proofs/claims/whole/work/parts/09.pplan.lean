/-! sets of operands, as bits; what a set has and leaves; the plan -/
def ct_sev (a : Nat) : Bool := decide (a &&& (a - 1) ≠ 0)
def ct_low (a : Nat) : Nat := a ^^^ (a &&& (a - 1))
/-- a is a part of the set that has its lowest operand -/
def ct_pt (S a : Nat) : Bool := decide (a &&& S = a) && decide (a &&& ct_low S ≠ 0)
theorem ct_sev_I : ∀ a, a < 64 → 0 < a → ((nI a &&& (nI a - nI 1)) = 0 ↔ ct_sev a = false) := by decide +kernel
theorem ct_low_I : ∀ a, a < 64 → nI a &&& (-(nI a)) = nI (ct_low a) := by decide +kernel
theorem ct_low_lt : ∀ a, a < 64 → ct_low a ≤ a := by decide +kernel
theorem ct_low_pos : ∀ a, a < 64 → 0 < a → 0 < ct_low a := by decide +kernel
theorem ct_low_sev : ∀ a, a < 64 → ct_sev a = true → ct_low a < a := by decide +kernel
theorem ct_pt_low : ∀ S, S < 64 → ct_sev S = true → ct_pt S (ct_low S) = true := by decide +kernel
theorem ct_pt_lo : ∀ S, S < 64 → ∀ a, a < ct_low S → ct_pt S a = false := by decide +kernel
theorem ct_pt_pos {S a : Nat} (h : ct_pt S a = true) : 0 < a := by
  rcases Nat.eq_zero_or_pos a with rfl | h1
  · simp [ct_pt] at h
  · exact h1
theorem ct_pt_or : ∀ S, S < 64 → ∀ a, a < 64 → (a ||| S = S ↔ a &&& S = a) := by decide +kernel
theorem ct_pt_co : ∀ S, S < 64 → ∀ a, a < S → ct_pt S a = true → 0 < S ^^^ a ∧ S ^^^ a < S ∧ a + (S ^^^ a) = S := by decide +kernel
theorem ct_xor_lt : ∀ S, S < 64 → ∀ a, a < 64 → S ^^^ a < 64 := by decide +kernel
/-- the scan of the parts below n: the least cost, the part that has it first -/
def ct_sc (cost : Nat → Nat) (S : Nat) : Nat → Nat × Nat
  | 0 => (0, 0)
  | n + 1 => if ct_pt S n = true ∧ ((ct_sc cost S n).2 = 0 ∨ cost n < (ct_sc cost S n).1) then (cost n, n) else ct_sc cost S n
theorem ct_sc_no {cost : Nat → Nat} {S n : Nat} (h : ct_pt S n = false) : ct_sc cost S (n + 1) = ct_sc cost S n := if_neg (fun z => by rw [h] at z; exact Bool.false_ne_true z.1)
theorem ct_sc_yes {cost : Nat → Nat} {S n : Nat} (h : ct_pt S n = true) (h2 : (ct_sc cost S n).2 = 0 ∨ cost n < (ct_sc cost S n).1) : ct_sc cost S (n + 1) = (cost n, n) := if_pos ⟨h, h2⟩
theorem ct_sc_keep {cost : Nat → Nat} {S n : Nat} (h2 : ¬ ((ct_sc cost S n).2 = 0 ∨ cost n < (ct_sc cost S n).1)) : ct_sc cost S (n + 1) = ct_sc cost S n := if_neg (fun z => h2 z.2)
theorem ct_sc_zero {cost : Nat → Nat} {S : Nat} (n : Nat) (h : ∀ a, a < n → ct_pt S a = false) : ct_sc cost S n = (0, 0) := by
  induction n with
  | zero => rfl
  | succ n ih => rw [ct_sc_no (h n (by omega))]; exact ih (fun a ha => h a (by omega))
theorem ct_sc_congr {c1 c2 : Nat → Nat} {S : Nat} (n : Nat) (h : ∀ a, a < n → ct_pt S a = true → c1 a = c2 a) : ct_sc c1 S n = ct_sc c2 S n := by
  induction n with
  | zero => rfl
  | succ n ih =>
    have ih := ih (fun a ha => h a (by omega))
    show (if ct_pt S n = true ∧ ((ct_sc c1 S n).2 = 0 ∨ c1 n < (ct_sc c1 S n).1) then (c1 n, n) else ct_sc c1 S n) = (if ct_pt S n = true ∧ ((ct_sc c2 S n).2 = 0 ∨ c2 n < (ct_sc c2 S n).1) then (c2 n, n) else ct_sc c2 S n)
    rw [ih]
    cases hp : ct_pt S n with
    | false => rw [if_neg (fun z => Bool.false_ne_true z.1), if_neg (fun z => Bool.false_ne_true z.1)]
    | true => rw [h n (by omega) hp]
/-- what the scan found is a part, and its cost -/
theorem ct_sc_is {cost : Nat → Nat} {S : Nat} (n : Nat) : (ct_sc cost S n = (0, 0)) ∨ ((ct_sc cost S n).2 < n ∧ ct_pt S (ct_sc cost S n).2 = true ∧ (ct_sc cost S n).1 = cost (ct_sc cost S n).2) := by
  induction n with
  | zero => exact Or.inl rfl
  | succ n ih =>
    by_cases h : ct_pt S n = true ∧ ((ct_sc cost S n).2 = 0 ∨ cost n < (ct_sc cost S n).1)
    · right
      rw [ct_sc_yes h.1 h.2]
      exact ⟨by omega, h.1, rfl⟩
    · have e : ct_sc cost S (n + 1) = ct_sc cost S n := if_neg h
      rw [e]
      rcases ih with ih | ih
      · exact Or.inl ih
      · exact Or.inr ⟨by omega, ih.2.1, ih.2.2⟩
theorem ct_sc_some {cost : Nat → Nat} {S : Nat} (n a : Nat) (ha : a < n) (hp : ct_pt S a = true) : (ct_sc cost S n).2 ≠ 0 := by
  induction n with
  | zero => omega
  | succ n ih =>
    by_cases h : ct_pt S n = true ∧ ((ct_sc cost S n).2 = 0 ∨ cost n < (ct_sc cost S n).1)
    · rw [ct_sc_yes h.1 h.2]
      have := ct_pt_pos h.1
      show n ≠ 0
      omega
    · have e : ct_sc cost S (n + 1) = ct_sc cost S n := if_neg h
      rw [e]
      by_cases hn : a = n
      · subst hn
        exact fun z => h ⟨hp, Or.inl z⟩
      · exact ih (by omega)
/-- the plans of the sets below n: cost and part -/
def ct_bp (jc : Nat → Nat → Nat) : Nat → Nat → Nat × Nat
  | 0, _ => (0, 0)
  | n + 1, S => if S = n then (if ct_sev n = true then ct_sc (fun a => (ct_bp jc n a).1 + (ct_bp jc n (n ^^^ a)).1 + jc a (n ^^^ a)) n n else (0, 0)) else ct_bp jc n S
def ct_B (jc : Nat → Nat → Nat) (S : Nat) : Nat × Nat := ct_bp jc 64 S
theorem ct_bp_up {jc : Nat → Nat → Nat} {S : Nat} (n : Nat) (h : S < n) : ct_bp jc n S = ct_bp jc (S + 1) S := by
  induction n with
  | zero => omega
  | succ n ih =>
    by_cases hn : S = n
    · rw [hn]
    · have e : ct_bp jc (n + 1) S = ct_bp jc n S := if_neg hn
      rw [e, ih (by omega)]
theorem ct_B_eq {jc : Nat → Nat → Nat} {S n : Nat} (hS : S < 64) (h : S < n) : ct_bp jc n S = ct_B jc S := by
  rw [ct_bp_up n h, ct_B, ct_bp_up 64 hS]
theorem ct_B_one {jc : Nat → Nat → Nat} {S : Nat} (hS : S < 64) (h : ct_sev S = false) : ct_B jc S = (0, 0) := by
  rw [ct_B, ct_bp_up 64 hS]
  show (if S = S then (if ct_sev S = true then _ else (0, 0)) else _) = _
  rw [if_pos rfl, if_neg (by rw [h]; exact Bool.false_ne_true)]
theorem ct_B_sev {jc : Nat → Nat → Nat} {S : Nat} (hS : S < 64) (h : ct_sev S = true) : ct_B jc S = ct_sc (fun a => (ct_B jc a).1 + (ct_B jc (S ^^^ a)).1 + jc a (S ^^^ a)) S S := by
  rw [ct_B, ct_bp_up 64 hS]
  show (if S = S then (if ct_sev S = true then _ else (0, 0)) else _) = _
  rw [if_pos rfl, if_pos h]
  refine ct_sc_congr S (fun a ha hp => ?_)
  have hc := ct_pt_co S hS a ha hp
  show (ct_bp jc S a).1 + (ct_bp jc S (S ^^^ a)).1 + jc a (S ^^^ a) = _
  rw [ct_B_eq (by omega) ha, ct_B_eq (by omega) hc.2.1]
theorem ct_B_part {jc : Nat → Nat → Nat} {S : Nat} (hS : S < 64) (h : ct_sev S = true) : (ct_B jc S).2 < S ∧ ct_pt S (ct_B jc S).2 = true ∧ (ct_B jc S).1 = (ct_B jc (ct_B jc S).2).1 + (ct_B jc (S ^^^ (ct_B jc S).2)).1 + jc (ct_B jc S).2 (S ^^^ (ct_B jc S).2) := by
  rw [ct_B_sev hS h]
  rcases ct_sc_is (cost := fun a => (ct_B jc a).1 + (ct_B jc (S ^^^ a)).1 + jc a (S ^^^ a)) (S := S) S with h1 | h1
  · exact absurd (congrArg Prod.snd h1) (ct_sc_some S (ct_low S) (ct_low_sev S hS h) (ct_pt_low S hS h))
  · exact h1
theorem ct_B_le {jc : Nat → Nat → Nat} (hj : ∀ a b, jc a b ≤ 6561) : ∀ (n S : Nat), S < n → S < 64 → 0 < S → (ct_B jc S).1 + 6561 ≤ 6561 * S := by
  intro n
  induction n with
  | zero => intro S h; omega
  | succ n ih =>
    intro S h hS h0
    cases hs : ct_sev S with
    | false =>
      rw [ct_B_one hS hs]
      show 0 + 6561 ≤ _
      omega
    | true =>
      obtain ⟨h1, h2, h3⟩ := ct_B_part (jc := jc) hS hs
      have hc := ct_pt_co S hS _ h1 h2
      have hp := ct_pt_pos h2
      have i1 := ih (ct_B jc S).2 (by omega) (by omega) hp
      have i2 := ih (S ^^^ (ct_B jc S).2) (by omega) (by omega) hc.1
      have i3 := hj (ct_B jc S).2 (S ^^^ (ct_B jc S).2)
      rw [h3]
      omega
/-- the labels that a set has, over the first n operands -/
def ct_has (la : Nat → Nat) (S : Nat) : Nat → Nat
  | 0 => 0
  | n + 1 => if S.testBit n = true then ct_has la S n ||| la n else ct_has la S n
theorem ct_has_in {la : Nat → Nat} {S n : Nat} (h : S.testBit n = true) : ct_has la S (n + 1) = ct_has la S n ||| la n := if_pos h
theorem ct_has_out {la : Nat → Nat} {S n : Nat} (h : S.testBit n = false) : ct_has la S (n + 1) = ct_has la S n := if_neg (by rw [h]; exact Bool.false_ne_true)
theorem ct_has_congr {la la' : Nat → Nat} {S S' : Nat} (n : Nat) (h : ∀ k, k < n → S.testBit k = S'.testBit k) (hl : ∀ k, k < n → la k = la' k) : ct_has la S n = ct_has la' S' n := by
  induction n with
  | zero => rfl
  | succ n ih =>
    have ih := ih (fun k hk => h k (by omega)) (fun k hk => hl k (by omega))
    cases hp : S.testBit n with
    | true => rw [ct_has_in hp, ct_has_in (by rw [← h n (by omega)]; exact hp), ih, hl n (by omega)]
    | false => rw [ct_has_out hp, ct_has_out (by rw [← h n (by omega)]; exact hp), ih]
theorem ct_has_bit {la : Nat → Nat} {S : Nat} (n j : Nat) : (ct_has la S n).testBit j = true ↔ ∃ k, k < n ∧ S.testBit k = true ∧ (la k).testBit j = true := by
  induction n with
  | zero => simp [ct_has]
  | succ n ih =>
    cases hp : S.testBit n with
    | true =>
      rw [ct_has_in hp, Nat.testBit_or, Bool.or_eq_true, ih]
      constructor
      · rintro (⟨k, h1, h2, h3⟩ | h)
        · exact ⟨k, by omega, h2, h3⟩
        · exact ⟨n, by omega, hp, h⟩
      · rintro ⟨k, h1, h2, h3⟩
        by_cases hk : k = n
        · subst hk; exact Or.inr h3
        · exact Or.inl ⟨k, by omega, h2, h3⟩
    | false =>
      rw [ct_has_out hp, ih]
      constructor
      · rintro ⟨k, h1, h2, h3⟩
        exact ⟨k, by omega, h2, h3⟩
      · rintro ⟨k, h1, h2, h3⟩
        by_cases hk : k = n
        · subst hk; rw [hp] at h2; cases h2
        · exact ⟨k, by omega, h2, h3⟩
theorem ct_has_lt {la : Nat → Nat} {S : Nat} (n : Nat) (h : ∀ k, k < n → la k < 256) : ct_has la S n < 256 := by
  induction n with
  | zero => exact Nat.lt_of_lt_of_le Nat.zero_lt_one (by omega)
  | succ n ih =>
    have ih := ih (fun k hk => h k (by omega))
    cases hp : S.testBit n with
    | true => rw [ct_has_in hp]; exact Nat.or_lt_two_pow (n := 8) ih (h n (by omega))
    | false => rw [ct_has_out hp]; exact ih
def ct_co (K S : Nat) : Nat := (2 ^ K - 1) ^^^ S
def ct_lv (la : Nat → Nat) (K R S : Nat) : Nat := if ct_sev S = true then ct_has la S K &&& (R ||| ct_has la (ct_co K S) K) else ct_has la S K
theorem ct_lv_lt {la : Nat → Nat} {K R S : Nat} (h : ∀ k, k < K → la k < 256) : ct_lv la K R S < 256 := by
  unfold ct_lv
  by_cases hs : ct_sev S = true
  · rw [if_pos hs]; exact Nat.lt_of_le_of_lt Nat.and_le_left (ct_has_lt K h)
  · rw [if_neg hs]; exact ct_has_lt K h
def ct_jc (sz : Nat → Nat) (la : Nat → Nat) (K R a b : Nat) : Nat := ct_pr sz (ct_lv la K R a ||| ct_lv la K R b).testBit 8
theorem ct_pr_le {sz : Nat → Nat} {P : Nat → Bool} (n : Nat) (h : ∀ k, k < n → sz k ≤ 3) : ct_pr sz P n ≤ 3 ^ n := by
  induction n with
  | zero => exact Nat.le_refl 1
  | succ n ih =>
    have ih := ih (fun k hk => h k (by omega))
    rw [Nat.pow_succ]
    cases hp : P n with
    | true => rw [ct_pr_in hp]; exact Nat.mul_le_mul ih (h n (by omega))
    | false => rw [ct_pr_out hp]; omega
theorem ct_jc_le {sz la : Nat → Nat} {K R : Nat} (h : ∀ k, k < 8 → sz k ≤ 3) (a b : Nat) : ct_jc sz la K R a b ≤ 6561 := ct_pr_le 8 h
/-- the steps of a set's plan -/
def ct_ls (B : Nat → Nat × Nat) : Nat → Nat → List Nat
  | 0, _ => []
  | n + 1, S => if ct_sev S = true then ct_ls B n (B S).2 ++ ct_ls B n (S ^^^ (B S).2) ++ [S] else []
