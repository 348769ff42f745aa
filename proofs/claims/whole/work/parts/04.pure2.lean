/-! mixed radix: how many choices, the place of a choice, the choice at a place -/
def ct_pr (sz : Nat → Nat) (P : Nat → Bool) : Nat → Nat
  | 0 => 1
  | n + 1 => if P n = true then ct_pr sz P n * sz n else ct_pr sz P n
def ct_ix (sz : Nat → Nat) (P : Nat → Bool) : Nat → (Nat → Nat) → Nat
  | 0, _ => 0
  | n + 1, t => if P n = true then ct_ix sz P n t * sz n + t n else ct_ix sz P n t
/-- the labels from k on, below n -/
def ct_up (sz : Nat → Nat) (P : Nat → Bool) (k : Nat) : Nat → Nat
  | 0 => 1
  | n + 1 => if (decide (k ≤ n) && P n) = true then ct_up sz P k n * sz n else ct_up sz P k n
def ct_de (sz : Nat → Nat) (P : Nat → Bool) : Nat → Nat → (Nat → Nat)
  | 0, _ => fun _ => 0
  | n + 1, q => if P n = true then ct_st (ct_de sz P n (q / sz n)) n (q % sz n) else ct_de sz P n q
theorem ct_pr_in {sz : Nat → Nat} {P : Nat → Bool} {n : Nat} (h : P n = true) : ct_pr sz P (n + 1) = ct_pr sz P n * sz n := if_pos h
theorem ct_pr_out {sz : Nat → Nat} {P : Nat → Bool} {n : Nat} (h : P n = false) : ct_pr sz P (n + 1) = ct_pr sz P n := if_neg (by rw [h]; exact Bool.false_ne_true)
theorem ct_ix_in {sz : Nat → Nat} {P : Nat → Bool} {n : Nat} (h : P n = true) (t : Nat → Nat) : ct_ix sz P (n + 1) t = ct_ix sz P n t * sz n + t n := if_pos h
theorem ct_ix_out {sz : Nat → Nat} {P : Nat → Bool} {n : Nat} (h : P n = false) (t : Nat → Nat) : ct_ix sz P (n + 1) t = ct_ix sz P n t := if_neg (by rw [h]; exact Bool.false_ne_true)
theorem ct_up_in {sz : Nat → Nat} {P : Nat → Bool} {k n : Nat} (hk : k ≤ n) (h : P n = true) : ct_up sz P k (n + 1) = ct_up sz P k n * sz n := if_pos (by simp [hk, h])
theorem ct_up_out {sz : Nat → Nat} {P : Nat → Bool} {k n : Nat} (h : P n = false) : ct_up sz P k (n + 1) = ct_up sz P k n := if_neg (by simp [h])
theorem ct_up_lt {sz : Nat → Nat} {P : Nat → Bool} {k n : Nat} (h : n < k) : ct_up sz P k (n + 1) = ct_up sz P k n := if_neg (by simp [show ¬ k ≤ n by omega])
theorem ct_de_in {sz : Nat → Nat} {P : Nat → Bool} {n : Nat} (h : P n = true) (q : Nat) : ct_de sz P (n + 1) q = ct_st (ct_de sz P n (q / sz n)) n (q % sz n) := if_pos h
theorem ct_de_out {sz : Nat → Nat} {P : Nat → Bool} {n : Nat} (h : P n = false) (q : Nat) : ct_de sz P (n + 1) q = ct_de sz P n q := if_neg (by rw [h]; exact Bool.false_ne_true)
theorem ct_pr_congr {sz sz' : Nat → Nat} {P P' : Nat → Bool} (n : Nat) (h : ∀ k, k < n → P k = P' k) (hs : ∀ k, k < n → P k = true → sz k = sz' k) : ct_pr sz P n = ct_pr sz' P' n := by
  induction n with
  | zero => rfl
  | succ n ih =>
    have ih := ih (fun k hk => h k (by omega)) (fun k hk => hs k (by omega))
    cases hp : P n with
    | true => rw [ct_pr_in hp, ct_pr_in (by rw [← h n (by omega)]; exact hp), ih, hs n (by omega) hp]
    | false => rw [ct_pr_out hp, ct_pr_out (by rw [← h n (by omega)]; exact hp), ih]
theorem ct_ix_congr {sz sz' : Nat → Nat} {P P' : Nat → Bool} {t t' : Nat → Nat} (n : Nat) (h : ∀ k, k < n → P k = P' k) (hs : ∀ k, k < n → P k = true → sz k = sz' k) (ht : ∀ k, k < n → P k = true → t k = t' k) : ct_ix sz P n t = ct_ix sz' P' n t' := by
  induction n with
  | zero => rfl
  | succ n ih =>
    have ih := ih (fun k hk => h k (by omega)) (fun k hk => hs k (by omega)) (fun k hk => ht k (by omega))
    cases hp : P n with
    | true => rw [ct_ix_in hp, ct_ix_in (by rw [← h n (by omega)]; exact hp), ih, hs n (by omega) hp, ht n (by omega) hp]
    | false => rw [ct_ix_out hp, ct_ix_out (by rw [← h n (by omega)]; exact hp), ih]
theorem ct_up_congr {sz : Nat → Nat} {P P' : Nat → Bool} {k : Nat} (n : Nat) (h : ∀ j, j < n → k ≤ j → P j = P' j) : ct_up sz P k n = ct_up sz P' k n := by
  induction n with
  | zero => rfl
  | succ n ih =>
    have ih := ih (fun j hj => h j (by omega))
    by_cases hk : k ≤ n
    · cases hp : P n with
      | true => rw [ct_up_in hk hp, ct_up_in hk (by rw [← h n (by omega) hk]; exact hp), ih]
      | false => rw [ct_up_out hp, ct_up_out (by rw [← h n (by omega) hk]; exact hp), ih]
    · rw [ct_up_lt (by omega), ct_up_lt (by omega), ih]
theorem ct_pr_pos {sz : Nat → Nat} {P : Nat → Bool} (n : Nat) (hs : ∀ k, k < n → 0 < sz k) : 0 < ct_pr sz P n := by
  induction n with
  | zero => exact Nat.one_pos
  | succ n ih =>
    have ih := ih (fun k hk => hs k (by omega))
    cases hp : P n with
    | true => rw [ct_pr_in hp]; exact Nat.mul_pos ih (hs n (by omega))
    | false => rw [ct_pr_out hp]; exact ih
theorem ct_up_pos {sz : Nat → Nat} {P : Nat → Bool} {k : Nat} (n : Nat) (hs : ∀ j, j < n → 0 < sz j) : 0 < ct_up sz P k n := by
  induction n with
  | zero => exact Nat.one_pos
  | succ n ih =>
    have ih := ih (fun j hj => hs j (by omega))
    by_cases hk : k ≤ n
    · cases hp : P n with
      | true => rw [ct_up_in hk hp]; exact Nat.mul_pos ih (hs n (by omega))
      | false => rw [ct_up_out hp]; exact ih
    · rw [ct_up_lt (by omega)]; exact ih
theorem ct_up_self {sz : Nat → Nat} {P : Nat → Bool} {k : Nat} (n : Nat) (h : n ≤ k) : ct_up sz P k n = 1 := by
  induction n with
  | zero => rfl
  | succ n ih => rw [ct_up_lt (by omega)]; exact ih (by omega)
/-- one label more at the lower end -/
theorem ct_up_step {sz : Nat → Nat} {P : Nat → Bool} {k : Nat} (hp : P k = true) (n : Nat) (h : k < n) : ct_up sz P k n = sz k * ct_up sz P (k + 1) n := by
  induction n with
  | zero => omega
  | succ n ih =>
    by_cases hk : k = n
    · subst hk
      rw [ct_up_in (Nat.le_refl k) hp, ct_up_self k (Nat.le_refl k), ct_up_self (k + 1) (Nat.le_refl _), Nat.one_mul, Nat.mul_one]
    · have ih := ih (by omega)
      cases hn : P n with
      | true => rw [ct_up_in (by omega) hn, ct_up_in (by omega) hn, ih, Nat.mul_assoc]
      | false => rw [ct_up_out hn, ct_up_out hn, ih]
theorem ct_up_skip {sz : Nat → Nat} {P : Nat → Bool} {k : Nat} (hp : P k = false ∨ sz k = 1) (n : Nat) (h : k < n) : ct_up sz P k n = ct_up sz P (k + 1) n := by
  rcases hp with hp | hp
  · induction n with
    | zero => omega
    | succ n ih =>
      by_cases hk : k = n
      · subst hk
        rw [ct_up_out hp, ct_up_self k (Nat.le_refl k), ct_up_self (k + 1) (Nat.le_refl _)]
      · have ih := ih (by omega)
        cases hn : P n with
        | true => rw [ct_up_in (by omega) hn, ct_up_in (by omega) hn, ih]
        | false => rw [ct_up_out hn, ct_up_out hn, ih]
  · cases hq : P k with
    | true => rw [ct_up_step hq n h, hp, Nat.one_mul]
    | false =>
      induction n with
      | zero => omega
      | succ n ih =>
        by_cases hk : k = n
        · subst hk
          rw [ct_up_out hq, ct_up_self k (Nat.le_refl k), ct_up_self (k + 1) (Nat.le_refl _)]
        · have ih := ih (by omega)
          cases hn : P n with
          | true => rw [ct_up_in (by omega) hn, ct_up_in (by omega) hn, ih]
          | false => rw [ct_up_out hn, ct_up_out hn, ih]
theorem ct_up_0 {sz : Nat → Nat} {P : Nat → Bool} (n : Nat) : ct_up sz P 0 n = ct_pr sz P n := by
  induction n with
  | zero => rfl
  | succ n ih =>
    cases hn : P n with
    | true => rw [ct_up_in (by omega) hn, ct_pr_in hn, ih]
    | false => rw [ct_up_out hn, ct_pr_out hn, ih]
theorem ct_ix_lt {sz : Nat → Nat} {P : Nat → Bool} {t : Nat → Nat} (n : Nat) (h : ∀ k, k < n → P k = true → t k < sz k) : ct_ix sz P n t < ct_pr sz P n := by
  induction n with
  | zero => exact Nat.one_pos
  | succ n ih =>
    have ih := ih (fun k hk => h k (by omega))
    cases hp : P n with
    | true =>
      rw [ct_ix_in hp, ct_pr_in hp]
      have h1 := h n (by omega) hp
      have h2 : (ct_ix sz P n t + 1) * sz n ≤ ct_pr sz P n * sz n := Nat.mul_le_mul_right _ ih
      rw [Nat.succ_mul] at h2
      omega
    | false => rw [ct_ix_out hp, ct_pr_out hp]; exact ih
theorem ct_ix_inj {sz : Nat → Nat} {P : Nat → Bool} {t u : Nat → Nat} (n : Nat) (h : ∀ k, k < n → P k = true → t k < sz k) (hu : ∀ k, k < n → P k = true → u k < sz k) (he : ct_ix sz P n t = ct_ix sz P n u) : ∀ k, k < n → P k = true → t k = u k := by
  induction n with
  | zero => exact fun k hk => absurd hk (Nat.not_lt_zero k)
  | succ n ih =>
    have ih := ih (fun k hk => h k (by omega)) (fun k hk => hu k (by omega))
    intro k hk hP
    cases hp : P n with
    | true =>
      rw [ct_ix_in hp, ct_ix_in hp] at he
      have h1 := h n (by omega) hp
      have h2 := hu n (by omega) hp
      have h3 : t n = u n := by
        have e1 := congrArg (· % sz n) he
        simp only [Nat.mul_add_mod_of_lt h1, Nat.mul_add_mod_of_lt h2] at e1
        exact e1
      have h4 : ct_ix sz P n t = ct_ix sz P n u := by
        rw [h3] at he
        exact Nat.eq_of_mul_eq_mul_right (show 0 < sz n by omega) (Nat.add_right_cancel he)
      by_cases hn : k = n
      · rw [hn]; exact h3
      · exact ih h4 k (by omega) hP
    | false =>
      rw [ct_ix_out hp, ct_ix_out hp] at he
      by_cases hn : k = n
      · rw [hn, hp] at hP; cases hP
      · exact ih he k (by omega) hP
/-- how the place moves with one index -/
theorem ct_ix_st {sz : Nat → Nat} {P : Nat → Bool} {k : Nat} (t : Nat → Nat) (i : Nat) (hp : P k = true) (n : Nat) (h : k < n) : ct_ix sz P n (ct_st t k i) + t k * ct_up sz P (k + 1) n = ct_ix sz P n t + i * ct_up sz P (k + 1) n := by
  induction n with
  | zero => omega
  | succ n ih =>
    by_cases hk : k = n
    · subst hk
      rw [ct_ix_in hp, ct_ix_in hp, ct_up_self (k + 1) (Nat.le_refl _), ct_st_at, ct_ix_congr (t' := t) k (fun _ _ => rfl) (fun _ _ _ => rfl) (fun j hj _ => ct_st_ne t i (by omega))]
      omega
    · have ih := ih (by omega)
      cases hn : P n with
      | true =>
        rw [ct_ix_in hn, ct_ix_in hn, ct_up_in (by omega) hn, ct_st_ne t i (by omega), ← Nat.mul_assoc, ← Nat.mul_assoc]
        have e1 : (ct_ix sz P n (ct_st t k i) + t k * ct_up sz P (k + 1) n) * sz n = (ct_ix sz P n t + i * ct_up sz P (k + 1) n) * sz n := by rw [ih]
        rw [Nat.add_mul, Nat.add_mul] at e1
        omega
      | false => rw [ct_ix_out hn, ct_ix_out hn, ct_up_out hn]; exact ih
theorem ct_ix_no {sz : Nat → Nat} {P : Nat → Bool} {k : Nat} (t : Nat → Nat) (i : Nat) (hp : P k = false) (n : Nat) : ct_ix sz P n (ct_st t k i) = ct_ix sz P n t :=
  ct_ix_congr n (fun _ _ => rfl) (fun _ _ _ => rfl) (fun j _ hj => ct_st_ne t i (fun e => by rw [e, hp] at hj; cases hj))
theorem ct_de_hi {sz : Nat → Nat} {P : Nat → Bool} (n q k : Nat) (h : n ≤ k) : ct_de sz P n q k = 0 := by
  induction n generalizing q with
  | zero => rfl
  | succ n ih =>
    cases hp : P n with
    | true => rw [ct_de_in hp, ct_st_ne _ _ (by omega)]; exact ih _ (by omega)
    | false => rw [ct_de_out hp]; exact ih _ (by omega)
theorem ct_de_no {sz : Nat → Nat} {P : Nat → Bool} (n q k : Nat) (h : P k = false) : ct_de sz P n q k = 0 := by
  induction n generalizing q with
  | zero => rfl
  | succ n ih =>
    cases hp : P n with
    | true => rw [ct_de_in hp, ct_st_ne _ _ (fun e => by rw [e, hp] at h; cases h)]; exact ih _
    | false => rw [ct_de_out hp]; exact ih _
theorem ct_de_lt {sz : Nat → Nat} {P : Nat → Bool} (n q k : Nat) (hs : ∀ k, k < n → 0 < sz k) (hk : k < n) : ct_de sz P n q k < sz k := by
  induction n generalizing q with
  | zero => omega
  | succ n ih =>
    by_cases hn : k = n
    · subst hn
      cases hp : P k with
      | true => rw [ct_de_in hp, ct_st_at]; exact Nat.mod_lt _ (hs k (by omega))
      | false => rw [ct_de_out hp, ct_de_hi k q k (Nat.le_refl k)]; exact hs k (by omega)
    · cases hp : P n with
      | true => rw [ct_de_in hp, ct_st_ne _ _ hn]; exact ih _ (fun j hj => hs j (by omega)) (by omega)
      | false => rw [ct_de_out hp]; exact ih _ (fun j hj => hs j (by omega)) (by omega)
theorem ct_de_0 {sz : Nat → Nat} {P : Nat → Bool} (n : Nat) : ct_de sz P n 0 = fun _ => 0 := by
  induction n with
  | zero => rfl
  | succ n ih =>
    cases hp : P n with
    | true => rw [ct_de_in hp, Nat.zero_div, Nat.zero_mod, ih]; exact ct_st_id _ rfl
    | false => rw [ct_de_out hp]; exact ih
/-- a label that is away, or has one index alone, changes nothing -/
theorem ct_de_skip {sz : Nat → Nat} {P : Nat → Bool} {n : Nat} (h : P n = false ∨ sz n = 1) (q : Nat) : ct_de sz P (n + 1) q = ct_de sz P n q := by
  cases hp : P n with
  | true =>
    rcases h with h | h
    · rw [hp] at h; cases h
    · rw [ct_de_in hp, h, Nat.div_one, Nat.mod_one]
      exact ct_st_id _ (ct_de_hi n q n (Nat.le_refl n))
  | false => exact ct_de_out hp q
theorem ct_de_skips {sz : Nat → Nat} {P : Nat → Bool} {k : Nat} (n : Nat) (hk : k ≤ n) (h : ∀ j, k ≤ j → j < n → P j = false ∨ sz j = 1) (q : Nat) : ct_de sz P n q = ct_de sz P k q := by
  induction n with
  | zero => rw [show k = 0 by omega]
  | succ n ih =>
    by_cases hn : k = n + 1
    · rw [hn]
    · rw [ct_de_skip (h n (by omega) (by omega)), ih (by omega) (fun j h1 h2 => h j h1 (by omega))]
theorem ct_up_skips {sz : Nat → Nat} {P : Nat → Bool} {k N : Nat} (n : Nat) (hk : k ≤ n) (hN : n ≤ N) (h : ∀ j, k ≤ j → j < n → P j = false ∨ sz j = 1) : ct_up sz P k N = ct_up sz P n N := by
  induction n with
  | zero => rw [show k = 0 by omega]
  | succ n ih =>
    by_cases hn : k = n + 1
    · rw [hn]
    · rw [ih (by omega) (by omega) (fun j h1 h2 => h j h1 (by omega)), ct_up_skip (h n (by omega) (by omega)) N (by omega)]
/-- the digits behind are 0 at a multiple -/
theorem ct_de_mul {sz : Nat → Nat} {P : Nat → Bool} {k : Nat} (n : Nat) (hk : k ≤ n) (hs : ∀ j, j < n → 0 < sz j) (q : Nat) : ct_de sz P n (q * ct_up sz P k n) = ct_de sz P k q := by
  induction n with
  | zero => rw [show k = 0 by omega, ct_up_self 0 (Nat.le_refl 0), Nat.mul_one]
  | succ n ih =>
    by_cases hn : k = n + 1
    · rw [hn, ct_up_self _ (Nat.le_refl _), Nat.mul_one]
    · have ih := ih (by omega) (fun j hj => hs j (by omega))
      cases hp : P n with
      | true =>
        rw [ct_up_in (by omega) hp, ct_de_in hp, ← Nat.mul_assoc, Nat.mul_div_cancel _ (hs n (by omega)), Nat.mul_mod_left, ih]
        exact ct_st_id _ (ct_de_hi k q n (by omega))
      | false => rw [ct_up_out hp, ct_de_out hp]; exact ih
/-- the sum over all places is the sum over all choices -/
theorem ct_sum_de {sz : Nat → Nat} {P : Nat → Bool} (n : Nat) (hs : ∀ j, j < n → 0 < sz j) : ∀ g : (Nat → Nat) → Int32, ct_sum (fun q => g (ct_de sz P n q)) (ct_pr sz P n) = ct_sm sz P n g (fun _ => 0) := by
  induction n with
  | zero => exact fun g => Int32.zero_add _
  | succ n ih =>
    intro g
    have ih := ih (fun j hj => hs j (by omega))
    have h0 := hs n (by omega)
    cases hp : P n with
    | true =>
      rw [ct_pr_in hp, ct_sum_nest, ct_sm_in hp, ct_sm_push g n (sz n) n (Nat.le_refl n), ← ih]
      refine ct_sum_congr fun q _ => ct_sum_congr fun i hi => ?_
      rw [ct_de_in hp, Nat.mul_comm q, Nat.mul_add_div h0, Nat.div_eq_of_lt hi, Nat.add_zero, Nat.mul_add_mod, Nat.mod_eq_of_lt hi]
    | false =>
      rw [ct_pr_out hp, ct_sm_out hp, ← ih]
      exact ct_sum_congr fun q _ => by rw [ct_de_out hp]
