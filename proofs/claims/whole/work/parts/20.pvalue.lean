/-! what comes of a set of operands, and of a join of two -/
/-- the product of the cells of the operands below n that are in S -/
def ct_pd (v : Nat → (Nat → Nat) → Int32) (S : Nat) : Nat → (Nat → Nat) → Int32
  | 0, _ => 1
  | n + 1, t => if S.testBit n = true then ct_pd v S n t * v n t else ct_pd v S n t
theorem ct_pd_in {v : Nat → (Nat → Nat) → Int32} {S n : Nat} (h : S.testBit n = true) (t : Nat → Nat) : ct_pd v S (n + 1) t = ct_pd v S n t * v n t := if_pos h
theorem ct_pd_out {v : Nat → (Nat → Nat) → Int32} {S n : Nat} (h : S.testBit n = false) (t : Nat → Nat) : ct_pd v S (n + 1) t = ct_pd v S n t := if_neg (by rw [h]; exact Bool.false_ne_true)
theorem ct_pd_dep {v : Nat → (Nat → Nat) → Int32} {la : Nat → Nat} {S : Nat} (n : Nat) (hv : ∀ o, o < n → ct_dep (v o) (fun k => decide (k < 8) && (la o).testBit k)) : ct_dep (ct_pd v S n) (fun k => decide (k < 8) && (ct_has la S n).testBit k) := by
  induction n with
  | zero => exact fun t u _ => rfl
  | succ n ih =>
    have ih := ih (fun o ho => hv o (by omega))
    cases hp : S.testBit n with
    | true =>
      intro t u h
      rw [ct_pd_in hp, ct_pd_in hp]
      rw [ct_has_in hp] at h
      rw [ih t u (fun k hk => h k (by simp only [Bool.and_eq_true, decide_eq_true_eq, Nat.testBit_or, Bool.or_eq_true] at hk ⊢; exact ⟨hk.1, Or.inl hk.2⟩)),
        hv n (by omega) t u (fun k hk => h k (by simp only [Bool.and_eq_true, decide_eq_true_eq, Nat.testBit_or, Bool.or_eq_true] at hk ⊢; exact ⟨hk.1, Or.inr hk.2⟩))]
    | false =>
      intro t u h
      rw [ct_pd_out hp, ct_pd_out hp]
      rw [ct_has_out hp] at h
      exact ih t u h
theorem ct_pd_mul {v : Nat → (Nat → Nat) → Int32} {S a b : Nat} (n : Nat) (h : ∀ k, k < n → S.testBit k = (a.testBit k || b.testBit k)) (hd : ∀ k, k < n → a.testBit k = true → b.testBit k = false) (t : Nat → Nat) : ct_pd v a n t * ct_pd v b n t = ct_pd v S n t := by
  induction n with
  | zero => exact Int32.mul_one 1
  | succ n ih =>
    have ih := ih (fun k hk => h k (by omega)) (fun k hk => hd k (by omega))
    have hS := h n (by omega)
    cases ha : a.testBit n with
    | true =>
      have hb := hd n (by omega) ha
      rw [ha, Bool.true_or] at hS
      rw [ct_pd_in ha, ct_pd_out hb, ct_pd_in hS, ← ih]
      ac_rfl
    | false =>
      cases hb : b.testBit n with
      | true =>
        rw [ha, hb, Bool.or_true] at hS
        rw [ct_pd_out ha, ct_pd_in hb, ct_pd_in hS, ← ih]
        ac_rfl
      | false =>
        rw [ha, hb, Bool.or_false] at hS
        rw [ct_pd_out ha, ct_pd_out hb, ct_pd_out hS, ih]
theorem ct_pd_none {v : Nat → (Nat → Nat) → Int32} {S : Nat} (n : Nat) (h : ∀ k, k < n → S.testBit k = false) (t : Nat → Nat) : ct_pd v S n t = 1 := by
  induction n with
  | zero => rfl
  | succ n ih => rw [ct_pd_out (h n (by omega))]; exact ih (fun k hk => h k (by omega))
theorem ct_pd_one {v : Nat → (Nat → Nat) → Int32} {S o : Nat} (n : Nat) (ho : o < n) (hS : S.testBit o = true) (h : ∀ k, k < n → k ≠ o → S.testBit k = false) (t : Nat → Nat) : ct_pd v S n t = v o t := by
  induction n with
  | zero => omega
  | succ n ih =>
    by_cases hn : o = n
    · subst hn
      rw [ct_pd_in hS, ct_pd_none o (fun k hk => h k (by omega) (by omega)), Int32.one_mul]
    · rw [ct_pd_out (h n (by omega) (fun z => hn z.symm))]
      exact ih (by omega) (fun k hk => h k (by omega))
/-- the labels that a set has and doesn't leave -/
def ct_inn (la : Nat → Nat) (K R S k : Nat) : Bool := (ct_has la S K).testBit k && !(ct_lv la K R S).testBit k
/-- what comes of a set -/
def ct_vs (sz la : Nat → Nat) (K R : Nat) (v : Nat → (Nat → Nat) → Int32) (S : Nat) (t : Nat → Nat) : Int32 := ct_sm sz (ct_inn la K R S) 8 (ct_pd v S K) t
theorem ct_sm_none {sz : Nat → Nat} {P : Nat → Bool} {F : (Nat → Nat) → Int32} (n : Nat) (h : ∀ k, k < n → P k = false) (t : Nat → Nat) : ct_sm sz P n F t = F t := by
  induction n with
  | zero => rfl
  | succ n ih => rw [ct_sm_out (h n (by omega))]; exact ih (fun k hk => h k (by omega))
theorem ct_lv_sub {la : Nat → Nat} {K R S k : Nat} (h : (ct_lv la K R S).testBit k = true) : (ct_has la S K).testBit k = true := by
  unfold ct_lv at h
  by_cases hs : ct_sev S = true
  · rw [if_pos hs, Nat.testBit_and, Bool.and_eq_true] at h; exact h.1
  · rw [if_neg hs] at h; exact h
theorem ct_inn_is {la : Nat → Nat} {K R S k : Nat} (h : ct_inn la K R S k = true) : (ct_has la S K).testBit k = true ∧ R.testBit k = false ∧ (ct_has la (ct_co K S) K).testBit k = false := by
  unfold ct_inn at h
  rw [Bool.and_eq_true] at h
  obtain ⟨h1, h2⟩ := h
  refine ⟨h1, ?_⟩
  unfold ct_lv at h2
  by_cases hs : ct_sev S = true
  · rw [if_pos hs, Nat.testBit_and, Nat.testBit_or, h1, Bool.true_and] at h2
    cases hr : R.testBit k with
    | true => rw [hr] at h2; simp at h2
    | false =>
      rw [hr] at h2
      exact ⟨rfl, by simpa using h2⟩
  · rw [if_neg hs, h1] at h2; simp at h2
theorem ct_vs_one {sz la : Nat → Nat} {K R : Nat} {v : Nat → (Nat → Nat) → Int32} {S : Nat} (hs : ct_sev S = false) (t : Nat → Nat) : ct_vs sz la K R v S t = ct_pd v S K t := by
  refine ct_sm_none 8 (fun k _ => ?_) t
  unfold ct_inn ct_lv
  rw [if_neg (by rw [hs]; exact Bool.false_ne_true)]
  simp
theorem ct_vs_dep {sz la : Nat → Nat} {K R S : Nat} {v : Nat → (Nat → Nat) → Int32} (hv : ∀ o, o < K → ct_dep (v o) (fun k => decide (k < 8) && (la o).testBit k)) : ct_dep (ct_vs sz la K R v S) (fun k => decide (k < 8) && (ct_lv la K R S).testBit k) := by
  refine ct_dep_mono (ct_sm_dep (ct_pd_dep K hv) 8) (fun k hk => ?_)
  simp only [Bool.and_eq_true, decide_eq_true_eq, Bool.not_eq_true', ct_inn, Bool.and_eq_false_iff] at hk ⊢
  obtain ⟨⟨h1, h2⟩, h3⟩ := hk
  refine ⟨h1, ?_⟩
  rcases h3 with h3 | h3
  · exact absurd h1 (by simpa using h3)
  · rcases h3 with h3 | h3
    · rw [h2] at h3; cases h3
    · simpa using h3
/-- a join of two parts into the labels T -/
theorem ct_vs_join {sz la : Nat → Nat} {K R S a b T : Nat} {v : Nat → (Nat → Nat) → Int32} (hv : ∀ o, o < K → ct_dep (v o) (fun k => decide (k < 8) && (la o).testBit k))
    (hS : ∀ k, k < K → S.testBit k = (a.testBit k || b.testBit k)) (hd : ∀ k, k < K → a.testBit k = true → b.testBit k = false)
    (hab : ∀ k, (ct_has la b K).testBit k = true → (ct_has la (ct_co K a) K).testBit k = true) (hba : ∀ k, (ct_has la a K).testBit k = true → (ct_has la (ct_co K b) K).testBit k = true)
    (hTa : ∀ k, ct_inn la K R a k = true → T.testBit k = false) (hTb : ∀ k, ct_inn la K R b k = true → T.testBit k = false) (t : Nat → Nat) :
    ct_sm sz (fun k => (ct_lv la K R a ||| ct_lv la K R b ||| T).testBit k && !T.testBit k) 8 (fun u => ct_vs sz la K R v a u * ct_vs sz la K R v b u) t = ct_sm sz (fun k => (ct_has la S K).testBit k && !T.testBit k) 8 (ct_pd v S K) t := by
  have hhas : ∀ k, (ct_has la S K).testBit k = ((ct_has la a K).testBit k || (ct_has la b K).testBit k) := by
    intro k
    apply Bool.eq_iff_iff.mpr
    rw [Bool.or_eq_true, ct_has_bit, ct_has_bit, ct_has_bit]
    constructor
    · rintro ⟨o, h1, h2, h3⟩
      rw [hS o h1, Bool.or_eq_true] at h2
      rcases h2 with h2 | h2
      · exact Or.inl ⟨o, h1, h2, h3⟩
      · exact Or.inr ⟨o, h1, h2, h3⟩
    · rintro (⟨o, h1, h2, h3⟩ | ⟨o, h1, h2, h3⟩)
      · exact ⟨o, h1, by rw [hS o h1, h2, Bool.true_or], h3⟩
      · exact ⟨o, h1, by rw [hS o h1, h2, Bool.or_true], h3⟩
  have eab : ∀ k, ct_inn la K R a k = true → (ct_has la b K).testBit k = false := by
    intro k hk
    cases hb : (ct_has la b K).testBit k with
    | false => rfl
    | true => have := (ct_inn_is hk).2.2; rw [hab k hb] at this; cases this
  have eba : ∀ k, ct_inn la K R b k = true → (ct_has la a K).testBit k = false := by
    intro k hk
    cases hb : (ct_has la a K).testBit k with
    | false => rfl
    | true => have := (ct_inn_is hk).2.2; rw [hba k hb] at this; cases this
  have e1 : ∀ u, ct_vs sz la K R v a u * ct_vs sz la K R v b u = ct_sm sz (ct_inn la K R a) 8 (ct_sm sz (ct_inn la K R b) 8 (ct_pd v S K)) u := by
    intro u
    have h1 : ct_sm sz (ct_inn la K R a) 8 (fun w => ct_pd v a K w * ct_vs sz la K R v b w) u = ct_vs sz la K R v a u * ct_vs sz la K R v b u :=
      ct_sm_mul (ct_pd v a K) (ct_vs_dep hv) 8 (fun k hk hp => by
        have h2 := eab k hp
        cases hl : (ct_lv la K R b).testBit k with
        | false => simp [hl]
        | true => rw [ct_lv_sub hl] at h2; cases h2) u
    rw [← h1]
    refine ct_sm_congr 8 (fun _ _ => rfl) (fun w => ?_) u
    have h3 : ct_sm sz (ct_inn la K R b) 8 (fun x => ct_pd v b K x * ct_pd v a K x) w = ct_vs sz la K R v b w * ct_pd v a K w :=
      ct_sm_mul (ct_pd v b K) (ct_pd_dep K hv) 8 (fun k hk hp => by rw [eba k hp]; simp) w
    rw [Int32.mul_comm, ← h3]
    exact ct_sm_congr 8 (fun _ _ => rfl) (fun x => by rw [Int32.mul_comm]; exact ct_pd_mul K hS hd x) w
  rw [ct_sm_congr 8 (fun _ _ => rfl) e1 t, ← ct_sm_split _ 8 (fun k _ h1 => ?_), ← ct_sm_split _ 8 (fun k _ h1 => ?_)]
  · refine ct_sm_congr 8 (fun k _ => ?_) (fun _ => rfl) t
    apply Bool.eq_iff_iff.mpr
    rw [hhas k]
    constructor
    · intro h
      simp only [Bool.or_eq_true, Bool.and_eq_true, Nat.testBit_or, Bool.not_eq_true'] at h ⊢
      rcases h with (⟨(h | h) | h, h0⟩ | h) | h
      · exact ⟨Or.inl (ct_lv_sub h), h0⟩
      · exact ⟨Or.inr (ct_lv_sub h), h0⟩
      · rw [h] at h0; cases h0
      · exact ⟨Or.inl (ct_inn_is h).1, hTa k h⟩
      · exact ⟨Or.inr (ct_inn_is h).1, hTb k h⟩
    · intro h
      simp only [Bool.or_eq_true, Bool.and_eq_true, Nat.testBit_or, Bool.not_eq_true'] at h ⊢
      obtain ⟨h1, h0⟩ := h
      rcases h1 with h1 | h1
      · cases hl : (ct_lv la K R a).testBit k with
        | true => exact Or.inl (Or.inl ⟨Or.inl (Or.inl rfl), h0⟩)
        | false => exact Or.inl (Or.inr (by simp [ct_inn, h1, hl]))
      · cases hl : (ct_lv la K R b).testBit k with
        | true => exact Or.inl (Or.inl ⟨Or.inl (Or.inr rfl), h0⟩)
        | false => exact Or.inr (by simp [ct_inn, h1, hl])
  · -- X ∪ A apart from B
    cases hb : ct_inn la K R b k with
    | false => rfl
    | true =>
      exfalso
      simp only [Bool.or_eq_true, Bool.and_eq_true, Nat.testBit_or, Bool.not_eq_true'] at h1
      have hb1 := ct_inn_is hb
      have hb2 : (ct_lv la K R b).testBit k = false := by
        have := hb
        unfold ct_inn at this
        rw [Bool.and_eq_true] at this
        simpa using this.2
      rcases h1 with ⟨(h | h) | h, h0⟩ | h
      · have := ct_lv_sub h; rw [eba k hb] at this; cases this
      · rw [hb2] at h; cases h
      · rw [h] at h0; cases h0
      · have := (ct_inn_is h).1; rw [eba k hb] at this; cases this
  · cases ha : ct_inn la K R a k with
    | false => rfl
    | true =>
      exfalso
      simp only [Bool.or_eq_true, Bool.and_eq_true, Nat.testBit_or, Bool.not_eq_true'] at h1
      have ha2 : (ct_lv la K R a).testBit k = false := by
        have := ha
        unfold ct_inn at this
        rw [Bool.and_eq_true] at this
        simpa using this.2
      obtain ⟨h | h, h0⟩ := h1
      · rcases h with h | h
        · rw [ha2] at h; cases h
        · have := ct_lv_sub h; rw [eab k ha] at this; cases this
      · rw [h] at h0; cases h0
