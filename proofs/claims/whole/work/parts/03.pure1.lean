/-! sums of ints over i < n, over assignments of indexes to labels; mixed radix -/
def ct_sum (f : Nat → Int32) : Nat → Int32
  | 0 => 0
  | n + 1 => ct_sum f n + f n
theorem ct_sum_congr {f g : Nat → Int32} {n : Nat} (h : ∀ i, i < n → f i = g i) : ct_sum f n = ct_sum g n := by
  induction n with
  | zero => rfl
  | succ n ih =>
    show ct_sum f n + f n = ct_sum g n + g n
    rw [ih (fun i hi => h i (by omega)), h n (by omega)]
theorem ct_sum_zero (n : Nat) : ct_sum (fun _ => 0) n = 0 := by
  induction n with
  | zero => rfl
  | succ n ih =>
    show ct_sum (fun _ => 0) n + 0 = 0
    rw [ih, Int32.add_zero]
theorem ct_sum_add (f g : Nat → Int32) (n : Nat) : ct_sum (fun i => f i + g i) n = ct_sum f n + ct_sum g n := by
  induction n with
  | zero => exact (Int32.add_zero 0).symm
  | succ n ih =>
    show ct_sum (fun i => f i + g i) n + (f n + g n) = ct_sum f n + f n + (ct_sum g n + g n)
    rw [ih]
    ac_rfl
theorem ct_sum_mul (f : Nat → Int32) (c : Int32) (n : Nat) : ct_sum (fun i => f i * c) n = ct_sum f n * c := by
  induction n with
  | zero => exact (Int32.zero_mul).symm
  | succ n ih =>
    show ct_sum (fun i => f i * c) n + f n * c = (ct_sum f n + f n) * c
    rw [ih, Int32.add_mul]
theorem ct_sum_swap (f : Nat → Nat → Int32) (a b : Nat) : ct_sum (fun i => ct_sum (fun j => f i j) b) a = ct_sum (fun j => ct_sum (fun i => f i j) a) b := by
  induction a with
  | zero => exact (ct_sum_zero b).symm
  | succ a ih =>
    show ct_sum (fun i => ct_sum (fun j => f i j) b) a + ct_sum (fun j => f a j) b = ct_sum (fun j => ct_sum (fun i => f i j) a + f a j) b
    rw [ih, ct_sum_add]
theorem ct_sum_off (f : Nat → Int32) {n k : Nat} (hk : n ≤ k) : ct_sum (fun i => if i = k then f i else 0) n = 0 := by
  rw [ct_sum_congr (g := fun _ => 0) (fun i hi => if_neg (by omega)), ct_sum_zero]
theorem ct_sum_delta (f : Nat → Int32) {n k : Nat} (hk : k < n) : ct_sum (fun i => if i = k then f i else 0) n = f k := by
  induction n with
  | zero => omega
  | succ n ih =>
    show ct_sum (fun i => if i = k then f i else 0) n + (if n = k then f n else 0) = f k
    by_cases h : n = k
    · rw [if_pos h, ct_sum_off f (by omega), Int32.zero_add, h]
    · rw [if_neg h, ih (by omega), Int32.add_zero]
theorem ct_sum_app (h : Nat → Int32) (n k : Nat) : ct_sum h (n + k) = ct_sum h n + ct_sum (fun i => h (n + i)) k := by
  induction k with
  | zero => exact (Int32.add_zero _).symm
  | succ k ih =>
    show ct_sum h (n + k) + h (n + k) = ct_sum h n + (ct_sum (fun i => h (n + i)) k + h (n + k))
    rw [ih, Int32.add_assoc]
theorem ct_sum_nest (h : Nat → Int32) (a b : Nat) : ct_sum h (a * b) = ct_sum (fun q => ct_sum (fun i => h (q * b + i)) b) a := by
  induction a with
  | zero => rw [Nat.zero_mul]; rfl
  | succ a ih =>
    show ct_sum h ((a + 1) * b) = ct_sum (fun q => ct_sum (fun i => h (q * b + i)) b) a + ct_sum (fun i => h (a * b + i)) b
    rw [Nat.succ_mul, ct_sum_app, ih]
/-- an assignment with one label's index set -/
def ct_st (t : Nat → Nat) (k i : Nat) : Nat → Nat := fun j => if j = k then i else t j
theorem ct_st_at (t : Nat → Nat) (k i : Nat) : ct_st t k i k = i := if_pos rfl
theorem ct_st_ne (t : Nat → Nat) {k j : Nat} (i : Nat) (h : j ≠ k) : ct_st t k i j = t j := if_neg h
theorem ct_st_st (t : Nat → Nat) (k i j : Nat) : ct_st (ct_st t k i) k j = ct_st t k j := by
  funext q
  by_cases h : q = k
  · rw [h, ct_st_at, ct_st_at]
  · rw [ct_st_ne _ _ h, ct_st_ne _ _ h, ct_st_ne _ _ h]
theorem ct_st_comm (t : Nat → Nat) {k l : Nat} (i j : Nat) (h : k ≠ l) : ct_st (ct_st t k i) l j = ct_st (ct_st t l j) k i := by
  funext q
  by_cases h1 : q = k
  · subst h1
    rw [ct_st_ne _ _ h, ct_st_at, ct_st_at]
  · rw [ct_st_ne _ i h1]
    by_cases h2 : q = l
    · subst h2
      rw [ct_st_at, ct_st_at]
    · rw [ct_st_ne _ _ h2, ct_st_ne _ _ h2, ct_st_ne _ _ h1]
theorem ct_st_id (t : Nat → Nat) {k i : Nat} (h : t k = i) : ct_st t k i = t := by
  funext q
  by_cases h1 : q = k
  · rw [h1, ct_st_at, h]
  · rw [ct_st_ne _ _ h1]
/-- the sum over all choices of indexes of the labels below n that P has -/
def ct_sm (sz : Nat → Nat) (P : Nat → Bool) : Nat → ((Nat → Nat) → Int32) → (Nat → Nat) → Int32
  | 0, F, t => F t
  | n + 1, F, t => if P n = true then ct_sum (fun i => ct_sm sz P n F (ct_st t n i)) (sz n) else ct_sm sz P n F t
theorem ct_sm_in {sz : Nat → Nat} {P : Nat → Bool} {n : Nat} (h : P n = true) (F : (Nat → Nat) → Int32) (t : Nat → Nat) : ct_sm sz P (n + 1) F t = ct_sum (fun i => ct_sm sz P n F (ct_st t n i)) (sz n) := if_pos h
theorem ct_sm_out {sz : Nat → Nat} {P : Nat → Bool} {n : Nat} (h : P n = false) (F : (Nat → Nat) → Int32) (t : Nat → Nat) : ct_sm sz P (n + 1) F t = ct_sm sz P n F t := if_neg (by rw [h]; exact Bool.false_ne_true)
theorem ct_sm_congr {sz : Nat → Nat} {P P' : Nat → Bool} {F F' : (Nat → Nat) → Int32} (n : Nat) (hP : ∀ k, k < n → P k = P' k) (hF : ∀ t, F t = F' t) (t : Nat → Nat) : ct_sm sz P n F t = ct_sm sz P' n F' t := by
  induction n generalizing t with
  | zero => exact hF t
  | succ n ih =>
    have ih := ih (fun k hk => hP k (by omega))
    cases h : P n with
    | true =>
      rw [ct_sm_in h, ct_sm_in (by rw [← hP n (by omega)]; exact h)]
      exact ct_sum_congr fun i _ => ih _
    | false =>
      rw [ct_sm_out h, ct_sm_out (by rw [← hP n (by omega)]; exact h)]
      exact ih _
/-- F looks at no other labels than those of S -/
def ct_dep (F : (Nat → Nat) → Int32) (S : Nat → Bool) : Prop := ∀ t u : Nat → Nat, (∀ k, S k = true → t k = u k) → F t = F u
theorem ct_sm_at {sz : Nat → Nat} {P S : Nat → Bool} {F : (Nat → Nat) → Int32} (hF : ct_dep F S) (n : Nat) : ∀ (t u : Nat → Nat), (∀ k, S k = true → (k < n → P k = false) → t k = u k) → ct_sm sz P n F t = ct_sm sz P n F u := by
  induction n with
  | zero => exact fun t u h => hF t u (fun k hk => h k hk (fun z => absurd z (Nat.not_lt_zero k)))
  | succ n ih =>
    intro t u h
    cases hp : P n with
    | true =>
      rw [ct_sm_in hp, ct_sm_in hp]
      refine ct_sum_congr fun i _ => ih _ _ (fun k hk h1 => ?_)
      by_cases hn : k = n
      · rw [hn, ct_st_at, ct_st_at]
      · rw [ct_st_ne _ _ hn, ct_st_ne _ _ hn]
        exact h k hk (fun z => h1 (by omega))
    | false =>
      rw [ct_sm_out hp, ct_sm_out hp]
      refine ih _ _ (fun k hk h1 => h k hk (fun z => ?_))
      by_cases hn : k = n
      · rw [hn]; exact hp
      · exact h1 (by omega)
theorem ct_sm_dep {sz : Nat → Nat} {P S : Nat → Bool} {F : (Nat → Nat) → Int32} (hF : ct_dep F S) (n : Nat) : ct_dep (ct_sm sz P n F) (fun k => S k && !(decide (k < n) && P k)) := by
  intro t u h
  refine ct_sm_at hF n t u (fun k hk h1 => h k ?_)
  by_cases hn : k < n
  · simp [hk, h1 hn]
  · simp [hk, hn]
theorem ct_dep_mono {F : (Nat → Nat) → Int32} {S S' : Nat → Bool} (hF : ct_dep F S) (h : ∀ k, S k = true → S' k = true) : ct_dep F S' := fun t u q => hF t u (fun k hk => q k (h k hk))
theorem ct_dep_mul {F G : (Nat → Nat) → Int32} {S S' : Nat → Bool} (hF : ct_dep F S) (hG : ct_dep G S') : ct_dep (fun t => F t * G t) (fun k => S k || S' k) := by
  intro t u h
  show F t * G t = F u * G u
  rw [hF t u (fun k hk => h k (by simp [hk])), hG t u (fun k hk => h k (by simp [hk]))]
/-- a sum at label k commutes with sums at the labels below -/
theorem ct_sm_push {sz : Nat → Nat} {P : Nat → Bool} (G : (Nat → Nat) → Int32) (k c n : Nat) (hn : n ≤ k) : ∀ t : Nat → Nat, ct_sum (fun i => ct_sm sz P n G (ct_st t k i)) c = ct_sm sz P n (fun u => ct_sum (fun i => G (ct_st u k i)) c) t := by
  induction n with
  | zero => exact fun t => rfl
  | succ n ih =>
    intro t
    have ih := ih (by omega)
    cases h : P n with
    | true =>
      rw [ct_sm_in h, ct_sum_congr (g := fun i => ct_sum (fun j => ct_sm sz P n G (ct_st (ct_st t n j) k i)) (sz n)) (fun i _ => by
        rw [ct_sm_in h]
        exact ct_sum_congr fun j _ => by rw [ct_st_comm t i j (by omega)]), ct_sum_swap]
      exact ct_sum_congr fun j _ => ih _
    | false =>
      rw [ct_sm_out h, ct_sum_congr (g := fun i => ct_sm sz P n G (ct_st t k i)) (fun i _ => ct_sm_out h _ _)]
      exact ih t
/-- a sum over two families of labels, apart: one after the other -/
theorem ct_sm_split {sz : Nat → Nat} {P Q : Nat → Bool} (F : (Nat → Nat) → Int32) (n : Nat) (hPQ : ∀ k, k < n → P k = true → Q k = false) : ∀ t : Nat → Nat, ct_sm sz (fun k => P k || Q k) n F t = ct_sm sz P n (ct_sm sz Q n F) t := by
  induction n with
  | zero => exact fun t => rfl
  | succ n ih =>
    intro t
    have ih := ih (fun k hk => hPQ k (by omega))
    cases h : P n with
    | true =>
      have hq := hPQ n (by omega) h
      rw [ct_sm_in (by simp [h]), ct_sm_in h]
      refine ct_sum_congr fun i _ => ?_
      rw [ih]
      exact ct_sm_congr n (fun _ _ => rfl) (fun u => (ct_sm_out hq F u).symm) _
    | false =>
      rw [ct_sm_out h]
      cases hq : Q n with
      | true =>
        rw [ct_sm_in (by simp [hq])]
        rw [ct_sum_congr (g := fun i => ct_sm sz P n (ct_sm sz Q n F) (ct_st t n i)) (fun i _ => ih _), ct_sm_push _ n (sz n) n (Nat.le_refl n)]
        exact ct_sm_congr n (fun _ _ => rfl) (fun u => (ct_sm_in hq F u).symm) _
      | false =>
        rw [ct_sm_out (by simp [h, hq]), ih]
        exact ct_sm_congr n (fun _ _ => rfl) (fun u => (ct_sm_out hq F u).symm) _
/-- what doesn't look at the summed labels comes out of the sum -/
theorem ct_sm_mul {sz : Nat → Nat} {P S : Nat → Bool} (F : (Nat → Nat) → Int32) {G : (Nat → Nat) → Int32} (hG : ct_dep G S) (n : Nat) (h : ∀ k, k < n → P k = true → S k = false) : ∀ t : Nat → Nat, ct_sm sz P n (fun u => F u * G u) t = ct_sm sz P n F t * G t := by
  induction n with
  | zero => exact fun t => rfl
  | succ n ih =>
    intro t
    have ih := ih (fun k hk => h k (by omega))
    cases hp : P n with
    | true =>
      rw [ct_sm_in hp, ct_sm_in hp, ← ct_sum_mul]
      refine ct_sum_congr fun i _ => ?_
      rw [ih, hG (ct_st t n i) t (fun k hk => ct_st_ne _ _ (fun e => by
        rw [e, h n (by omega) hp] at hk
        cases hk))]
    | false =>
      rw [ct_sm_out hp, ct_sm_out hp]
      exact ih t
theorem ct_sm_if {sz : Nat → Nat} {P : Nat → Bool} (F : (Nat → Nat) → Int32) (c : (Nat → Nat) → Bool) (n : Nat) (h : ∀ (t : Nat → Nat) (k i : Nat), k < n → c (ct_st t k i) = c t) : ∀ t : Nat → Nat, ct_sm sz P n (fun u => if c u = true then F u else 0) t = if c t = true then ct_sm sz P n F t else 0 := by
  induction n with
  | zero => exact fun t => rfl
  | succ n ih =>
    intro t
    have ih := ih (fun u k i hk => h u k i (by omega))
    cases hp : P n with
    | true =>
      rw [ct_sm_in hp, ct_sm_in hp]
      cases hc : c t with
      | true =>
        rw [if_pos rfl]
        refine ct_sum_congr fun i _ => ?_
        rw [ih, h t n i (by omega), if_pos hc]
      | false =>
        rw [if_neg Bool.false_ne_true, ct_sum_congr (g := fun _ => 0) (fun i _ => by rw [ih, h t n i (by omega), if_neg (by rw [hc]; exact Bool.false_ne_true)]), ct_sum_zero]
    | false =>
      rw [ct_sm_out hp, ct_sm_out hp]
      exact ih t
/-- the labels of T below n as r has them -/
def ct_mix (T : Nat → Bool) (r : Nat → Nat) (n : Nat) (t : Nat → Nat) : Nat → Nat := fun k => if (decide (k < n) && T k) = true then r k else t k
def ct_agr (T : Nat → Bool) (r : Nat → Nat) : Nat → (Nat → Nat) → Bool
  | 0, _ => true
  | n + 1, t => ct_agr T r n t && (!T n || decide (t n = r n))
theorem ct_agr_st {T : Nat → Bool} {r : Nat → Nat} {k i : Nat} (n : Nat) (h : n ≤ k) (t : Nat → Nat) : ct_agr T r n (ct_st t k i) = ct_agr T r n t := by
  induction n with
  | zero => rfl
  | succ n ih =>
    show (ct_agr T r n (ct_st t k i) && (!T n || decide (ct_st t k i n = r n))) = (ct_agr T r n t && (!T n || decide (t n = r n)))
    rw [ih (by omega), ct_st_ne _ _ (by omega)]
theorem ct_agr_iff {T : Nat → Bool} {r : Nat → Nat} (n : Nat) (t : Nat → Nat) : ct_agr T r n t = true ↔ ∀ k, k < n → T k = true → t k = r k := by
  induction n with
  | zero => exact ⟨fun _ k hk => absurd hk (Nat.not_lt_zero k), fun _ => rfl⟩
  | succ n ih =>
    show (ct_agr T r n t && (!T n || decide (t n = r n))) = true ↔ _
    rw [Bool.and_eq_true, ih]
    constructor
    · intro ⟨h1, h2⟩ k hk hT
      by_cases hn : k = n
      · subst hn
        simpa [hT] using h2
      · exact h1 k (by omega) hT
    · intro h
      refine ⟨fun k hk => h k (by omega), ?_⟩
      cases hT : T n with
      | true => simp [h n (by omega) hT]
      | false => rfl
theorem ct_sm_pick {sz : Nat → Nat} {U T : Nat → Bool} {r : Nat → Nat} (f : (Nat → Nat) → Int32) (n : Nat) (hTU : ∀ k, k < n → T k = true → U k = true) (hr : ∀ k, k < n → T k = true → r k < sz k) : ∀ t : Nat → Nat,
    ct_sm sz U n (fun u => if ct_agr T r n u = true then f u else 0) t = ct_sm sz (fun k => U k && !T k) n f (ct_mix T r n t) := by
  induction n with
  | zero => exact fun t => rfl
  | succ n ih =>
    intro t
    have ih := ih (fun k hk => hTU k (by omega)) (fun k hk => hr k (by omega))
    cases hT : T n with
    | true =>
      have hU := hTU n (by omega) hT
      rw [ct_sm_in hU, ct_sm_out (by simp [hT])]
      have e1 : ∀ i, ct_sm sz U n (fun u => if ct_agr T r (n + 1) u = true then f u else 0) (ct_st t n i) = if i = r n then ct_sm sz (fun k => U k && !T k) n f (ct_mix T r n (ct_st t n i)) else 0 := by
        intro i
        rw [ct_sm_congr (P' := U) (F' := fun u => if decide (u n = r n) = true then (if ct_agr T r n u = true then f u else 0) else 0) n (fun _ _ => rfl) (fun u => by
          show (if (ct_agr T r n u && (!T n || decide (u n = r n))) = true then f u else 0) = _
          rw [hT]
          cases h1 : ct_agr T r n u <;> cases h2 : decide (u n = r n) <;> simp),
          ct_sm_if _ (fun u => decide (u n = r n)) n (fun u k j hk => by
            show decide (ct_st u k j n = r n) = decide (u n = r n)
            rw [ct_st_ne _ _ (by omega)]), ct_st_at, ih]
        by_cases h : i = r n
        · rw [if_pos h, if_pos (by simpa using h)]
        · rw [if_neg h, if_neg (by simpa using h)]
      rw [ct_sum_congr (fun i _ => e1 i), ct_sum_delta (fun i => ct_sm sz (fun k => U k && !T k) n f (ct_mix T r n (ct_st t n i))) (hr n (by omega) hT)]
      congr 1
      funext k
      by_cases hk : k = n
      · subst hk
        simp [ct_mix, hT, ct_st_at]
      · by_cases hl : k < n
        · simp [ct_mix, hl, show k < n + 1 by omega, ct_st_ne _ _ hk]
        · simp [ct_mix, hl, show ¬ k < n + 1 by omega, ct_st_ne _ _ hk]
    | false =>
      have e1 : ∀ u, ct_sm sz U n (fun u => if ct_agr T r (n + 1) u = true then f u else 0) u = ct_sm sz (fun k => U k && !T k) n f (ct_mix T r n u) := by
        intro u
        rw [← ih u]
        refine ct_sm_congr n (fun _ _ => rfl) (fun u => ?_) u
        show (if (ct_agr T r n u && (!T n || decide (u n = r n))) = true then f u else 0) = _
        rw [hT]
        simp
      have e2 : ct_mix T r (n + 1) t = ct_mix T r n t := by
        funext k
        by_cases hk : k = n
        · subst hk
          simp [ct_mix, hT]
        · by_cases hl : k < n
          · simp [ct_mix, hl, show k < n + 1 by omega]
          · simp [ct_mix, hl, show ¬ k < n + 1 by omega]
      cases hU : U n with
      | true =>
        rw [ct_sm_in hU, ct_sm_in (by simp [hU, hT]), e2]
        refine ct_sum_congr fun i _ => ?_
        rw [e1]
        congr 1
        funext k
        by_cases hk : k = n
        · subst hk
          simp [ct_mix, ct_st_at]
        · simp only [ct_mix, ct_st_ne _ _ hk]
      | false =>
        rw [ct_sm_out hU, ct_sm_out (by simp [hU]), e2]
        exact e1 t
