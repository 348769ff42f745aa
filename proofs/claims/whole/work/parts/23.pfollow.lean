/-! following the plan: where the sets' cells stand -/
theorem ct_single : ∀ S, S < 64 → 0 < S → ct_sev S = false → ∃ o, o < 6 ∧ S = 2 ^ o := by
  intro S hS h0 hs
  have h : ∀ S, S < 64 → 0 < S → ct_sev S = false → (S = 1 ∨ S = 2 ∨ S = 4 ∨ S = 8 ∨ S = 16 ∨ S = 32) := by decide +kernel
  rcases h S hS h0 hs with h | h | h | h | h | h
  · exact ⟨0, by omega, h⟩
  · exact ⟨1, by omega, h⟩
  · exact ⟨2, by omega, h⟩
  · exact ⟨3, by omega, h⟩
  · exact ⟨4, by omega, h⟩
  · exact ⟨5, by omega, h⟩
theorem ct_pow_bit : ∀ o, o < 6 → ∀ k, k < 6 → (2 ^ o).testBit k = decide (k = o) := by decide +kernel
theorem ct_pow_lt : ∀ o, o < 6 → ∀ K, K < 7 → (2 ^ o < 2 ^ K ↔ o < K) := by decide +kernel
theorem ct_pow_inj : ∀ o, o < 6 → ∀ k, k < 6 → (2 ^ o = 2 ^ k ↔ o = k) := by decide +kernel
theorem ct_sev_pow : ∀ o, o < 6 → ct_sev (2 ^ o) = false := by decide +kernel
theorem ct_has_none {la : Nat → Nat} {S : Nat} (n : Nat) (h : ∀ k, k < n → S.testBit k = false) : ct_has la S n = 0 := by
  induction n with
  | zero => rfl
  | succ n ih => rw [ct_has_out (h n (by omega))]; exact ih (fun k hk => h k (by omega))
theorem ct_has_one {la : Nat → Nat} {S o : Nat} (n : Nat) (ho : o < n) (hS : S.testBit o = true) (h : ∀ k, k < n → k ≠ o → S.testBit k = false) : ct_has la S n = la o := by
  induction n with
  | zero => omega
  | succ n ih =>
    by_cases hn : o = n
    · subst hn
      rw [ct_has_in hS, ct_has_none o (fun k hk => h k (by omega) (by omega)), Nat.zero_or]
    · rw [ct_has_out (h n (by omega) (fun z => hn z.symm))]
      exact ih (by omega) (fun k hk => h k (by omega))
theorem ct_lv_one {la : Nat → Nat} {K R o : Nat} (hK : K ≤ 6) (ho : o < K) : ct_lv la K R (2 ^ o) = la o := by
  rw [ct_lv, if_neg (by rw [ct_sev_pow o (by omega)]; exact Bool.false_ne_true)]
  exact ct_has_one K ho (by rw [ct_pow_bit o (by omega) o (by omega)]; simp) (fun k hk hn => by rw [ct_pow_bit o (by omega) k (by omega)]; simpa using hn)
theorem ct_vs_pow {sz la : Nat → Nat} {K R o : Nat} {v : Nat → (Nat → Nat) → Int32} (hK : K ≤ 6) (ho : o < K) (t : Nat → Nat) : ct_vs sz la K R v (2 ^ o) t = v o t := by
  rw [ct_vs_one (ct_sev_pow o (by omega))]
  exact ct_pd_one K ho (by rw [ct_pow_bit o (by omega) o (by omega)]; simp) (fun k hk hn => by rw [ct_pow_bit o (by omega) k (by omega)]; simpa using hn) t
def ct_pl (sz la : Nat → Nat) (K R S : Nat) : Nat := ct_pr sz (ct_lv la K R S).testBit 8
/-- each set that is made has its cells somewhere below fr -/
def ct_pi (sz la : Nat → Nat) (K R : Nat) (v : Nat → (Nat → Nat) → Int32) (hm g : Nat → Int32) (fr : Nat) (T : List Nat) (k : Nat) : Prop :=
  ∀ S, 0 < S → S < 2 ^ K → (ct_sev S = false ∨ ∃ j, j < k ∧ T.getD j 0 = S) → ∃ x : Nat, hm S = nI x ∧ (x + ct_pl sz la K R S ≤ 216 ∨ (244 ≤ x ∧ x + ct_pl sz la K R S ≤ fr)) ∧ ∀ t : Nat → Nat, (∀ j, j < 8 → (ct_lv la K R S).testBit j = true → t j < sz j) → g (x + ct_ix sz (ct_lv la K R S).testBit 8 t) = ct_vs sz la K R v S t
theorem ct_pi_cells {sz la : Nat → Nat} {K R : Nat} {v : Nat → (Nat → Nat) → Int32} {hm g g2 : Nat → Int32} {fr k : Nat} {T : List Nat} (h : ct_pi sz la K R v hm g fr T k) (hg : ∀ i, (i < 216 ∨ (244 ≤ i ∧ i < fr)) → g2 i = g i) : ct_pi sz la K R v hm g2 fr T k := by
  intro S h0 hS hd
  obtain ⟨x, h1, h2, h3⟩ := h S h0 hS hd
  refine ⟨x, h1, h2, fun t ht => ?_⟩
  have hi := ct_ix_lt (sz := sz) (P := (ct_lv la K R S).testBit) (t := t) 8 ht
  have e : ct_pl sz la K R S = ct_pr sz (ct_lv la K R S).testBit 8 := rfl
  rw [hg _ (by omega)]
  exact h3 t ht
/-- two sets with their cells, joined -/
theorem ct_join_vs {sz la : Nat → Nat} {K R : Nat} {v : Nat → (Nat → Nat) → Int32} {g g2 : Nat → Int32} {a b xa xb to T : Nat} (hj : ct_joined sz g xa (ct_lv la K R a) xb (ct_lv la K R b) to T g2)
    (h1 : ∀ t : Nat → Nat, (∀ j, j < 8 → (ct_lv la K R a).testBit j = true → t j < sz j) → g (xa + ct_ix sz (ct_lv la K R a).testBit 8 t) = ct_vs sz la K R v a t)
    (h2 : ∀ t : Nat → Nat, (∀ j, j < 8 → (ct_lv la K R b).testBit j = true → t j < sz j) → g (xb + ct_ix sz (ct_lv la K R b).testBit 8 t) = ct_vs sz la K R v b t)
    (r : Nat → Nat) (hr : ∀ k, k < 8 → T.testBit k = true → r k < sz k) : g2 (to + ct_ix sz T.testBit 8 r) = ct_sm sz (fun k => (ct_lv la K R a ||| ct_lv la K R b ||| T).testBit k && !T.testBit k) 8 (fun u => ct_vs sz la K R v a u * ct_vs sz la K R v b u) r := by
  rw [hj.2 r hr]
  refine ct_sm_congrV (V := (ct_lv la K R a ||| ct_lv la K R b ||| T).testBit) (fun t ht => ?_) 8 r (fun k hk hV => ?_)
  · rw [h1 t (fun j hj hb => ht j hj (by simp [Nat.testBit_or, hb])), h2 t (fun j hj hb => ht j hj (by simp [Nat.testBit_or, hb]))]
  · cases hT : T.testBit k with
    | true => exact Or.inr (hr k hk hT)
    | false => exact Or.inl ⟨hk, by simp [hV]⟩
theorem ct_pi_step {sz la : Nat → Nat} {K R : Nat} {v : Nat → (Nat → Nat) → Int32} {hm g g2 : Nat → Int32} {fr k : Nat} {T : List Nat} (hK : K ≤ 6) (hv : ∀ o, o < K → ct_dep (v o) (fun k => decide (k < 8) && (la o).testBit k)) (h : ct_pi sz la K R v hm g fr T k) (hfr : 244 ≤ fr)
    {S a xa xb : Nat} (hT : T.getD k 0 = S) (hs : ct_sev S = true) (ha : a &&& S = a)
    (hj : ct_joined sz g xa (ct_lv la K R a) xb (ct_lv la K R (S ^^^ a)) fr (ct_lv la K R S) g2)
    (h1 : ∀ t : Nat → Nat, (∀ j, j < 8 → (ct_lv la K R a).testBit j = true → t j < sz j) → g (xa + ct_ix sz (ct_lv la K R a).testBit 8 t) = ct_vs sz la K R v a t)
    (h2 : ∀ t : Nat → Nat, (∀ j, j < 8 → (ct_lv la K R (S ^^^ a)).testBit j = true → t j < sz j) → g (xb + ct_ix sz (ct_lv la K R (S ^^^ a)).testBit 8 t) = ct_vs sz la K R v (S ^^^ a) t) :
    ct_pi sz la K R v (upd hm S (nI fr)) g2 (fr + ct_pl sz la K R S) T (k + 1) := by
  intro S' h0 hS' hd
  by_cases he : S' = S
  · subst he
    refine ⟨fr, pk_us, Or.inr ⟨hfr, Nat.le_refl _⟩, fun t ht => ?_⟩
    rw [ct_join_vs hj h1 h2 t ht]
    exact ct_vs_step hK hv ha hs t
  · have hd : ct_sev S' = false ∨ ∃ j, j < k ∧ T.getD j 0 = S' := by
      rcases hd with hd | ⟨j, j1, j2⟩
      · exact Or.inl hd
      · right
        by_cases hjk : j = k
        · rw [hjk, hT] at j2; exact absurd j2.symm he
        · exact ⟨j, by omega, j2⟩
    obtain ⟨x, q1, q2, q3⟩ := h S' h0 hS' hd
    refine ⟨x, by rw [pk_un he]; exact q1, ?_, fun t ht => ?_⟩
    · rcases q2 with q2 | q2
      · exact Or.inl q2
      · exact Or.inr ⟨q2.1, by omega⟩
    · have hi := ct_ix_lt (sz := sz) (P := (ct_lv la K R S').testBit) (t := t) 8 ht
      have e : ct_pl sz la K R S' = ct_pr sz (ct_lv la K R S').testBit 8 := rfl
      rw [hj.1 _ (by omega)]
      exact q3 t ht
/-- how far the cells reach before step k -/
def ct_fr (pl : Nat → Nat) : Nat → Nat
  | 0 => 244
  | k + 1 => ct_fr pl k + pl k
/-- how long the row is before step k -/
def ct_Nk (N : Nat) (pl : Nat → Nat) : Nat → Nat
  | 0 => N
  | k + 1 => if ct_fr pl (k + 1) ≤ ct_Nk N pl k then ct_Nk N pl k else (if ct_fr pl (k + 1) < 2 * ct_Nk N pl k then 2 * ct_Nk N pl k else ct_fr pl (k + 1))
theorem ct_Nk_le {N : Nat} {pl : Nat → Nat} (k : Nat) : ct_Nk N pl k ≤ ct_Nk N pl (k + 1) ∧ ct_fr pl (k + 1) ≤ ct_Nk N pl (k + 1) := by
  show ct_Nk N pl k ≤ (if _ then _ else _) ∧ ct_fr pl (k + 1) ≤ (if _ then _ else _)
  by_cases h : ct_fr pl (k + 1) ≤ ct_Nk N pl k
  · rw [if_pos h]; exact ⟨Nat.le_refl _, h⟩
  · rw [if_neg h]
    by_cases h2 : ct_fr pl (k + 1) < 2 * ct_Nk N pl k
    · rw [if_pos h2]; exact ⟨by omega, by omega⟩
    · rw [if_neg h2]; exact ⟨by omega, Nat.le_refl _⟩
theorem ct_Nk_mono {N : Nat} {pl : Nat → Nat} {k : Nat} (j : Nat) (h : k ≤ j) : ct_Nk N pl k ≤ ct_Nk N pl j := by
  induction j with
  | zero => rw [show k = 0 by omega]; exact Nat.le_refl _
  | succ j ih =>
    by_cases hk : k = j + 1
    · rw [hk]; exact Nat.le_refl _
    · exact Nat.le_trans (ih (by omega)) (ct_Nk_le j).1
theorem ct_fr_ge {pl : Nat → Nat} (k : Nat) : 244 ≤ ct_fr pl k := by
  induction k with
  | zero => exact Nat.le_refl _
  | succ k ih => show 244 ≤ ct_fr pl k + pl k; omega
theorem ct_fr_le {pl : Nat → Nat} (k : Nat) (h : ∀ j, j < k → pl j ≤ 6561) : ct_fr pl k ≤ 244 + 6561 * k := by
  induction k with
  | zero => exact Nat.le_refl _
  | succ k ih =>
    have := ih (fun j hj => h j (by omega))
    have := h k (by omega)
    show ct_fr pl k + pl k ≤ _
    omega
theorem ct_Nk_max {N : Nat} {pl : Nat → Nat} (hN : N ≤ 60000) (k : Nat) (h : ∀ j, j < k → pl j ≤ 6561) (hk : k ≤ 4) : ct_Nk N pl k ≤ 60000 := by
  induction k with
  | zero => exact hN
  | succ k ih =>
    have ih := ih (fun j hj => h j (by omega)) (by omega)
    have hf := ct_fr_le (k + 1) h
    show (if _ then _ else _) ≤ 60000
    by_cases h1 : ct_fr pl (k + 1) ≤ ct_Nk N pl k
    · rw [if_pos h1]; exact ih
    · rw [if_neg h1]
      by_cases h2 : ct_fr pl (k + 1) < 2 * ct_Nk N pl k
      · rw [if_pos h2]
        have h3 : 244 + 6561 * (k + 1) ≤ 30000 := by omega
        exact Nat.le_trans (Nat.mul_le_mul_left 2 (show ct_Nk N pl k ≤ 30000 by omega)) (Nat.le_refl _)
      · rw [if_neg h2]
        exact Nat.le_trans hf (show 244 + 6561 * (k + 1) ≤ 60000 by omega)
