/-! parts of a set, the steps' order, sums over choices in range -/
theorem ct_bit_all : ∀ K, K < 7 → ∀ k, k < 8 → (2 ^ K - 1).testBit k = decide (k < K) := by decide +kernel
theorem ct_co_bit {K S k : Nat} (hK : K ≤ 6) (hk : k < K) : (ct_co K S).testBit k = !S.testBit k := by
  rw [ct_co, Nat.testBit_xor, ct_bit_all K (by omega) k (by omega)]
  simp [hk]
theorem ct_sub_bits {S a : Nat} (h : a &&& S = a) (k : Nat) : (S ^^^ a).testBit k = (S.testBit k && !a.testBit k) ∧ (a.testBit k = true → S.testBit k = true) := by
  have h1 : a.testBit k = (a.testBit k && S.testBit k) := by
    rw [← Nat.testBit_and, h]
  rw [Nat.testBit_xor]
  cases h2 : a.testBit k <;> cases h3 : S.testBit k <;> simp_all
theorem ct_has_mono {la : Nat → Nat} {S S' : Nat} (n : Nat) (h : ∀ k, k < n → S.testBit k = true → S'.testBit k = true) (j : Nat) (hj : (ct_has la S n).testBit j = true) : (ct_has la S' n).testBit j = true := by
  rw [ct_has_bit] at hj ⊢
  obtain ⟨k, h1, h2, h3⟩ := hj
  exact ⟨k, h1, h k h1 h2, h3⟩
section VSS
variable {sz la : Nat → Nat} {K R S a : Nat} {v : Nat → (Nat → Nat) → Int32}
theorem ct_vs_with (hK : K ≤ 6) (hv : ∀ o, o < K → ct_dep (v o) (fun k => decide (k < 8) && (la o).testBit k)) (ha : a &&& S = a) (T : Nat) (hTa : ∀ k, ct_inn la K R a k = true → T.testBit k = false) (hTb : ∀ k, ct_inn la K R (S ^^^ a) k = true → T.testBit k = false) (t : Nat → Nat) :
    ct_sm sz (fun k => (ct_lv la K R a ||| ct_lv la K R (S ^^^ a) ||| T).testBit k && !T.testBit k) 8 (fun u => ct_vs sz la K R v a u * ct_vs sz la K R v (S ^^^ a) u) t = ct_sm sz (fun k => (ct_has la S K).testBit k && !T.testBit k) 8 (ct_pd v S K) t := by
  refine ct_vs_join hv (fun k hk => ?_) (fun k hk h => ?_) (fun k hk => ?_) (fun k hk => ?_) hTa hTb t
  · have h := ct_sub_bits ha k
    rw [h.1]
    cases h2 : a.testBit k with
    | true => rw [h.2 h2]; rfl
    | false => simp
  · have h1 := (ct_sub_bits ha k).1
    rw [h1, h]; simp
  · refine ct_has_mono K (fun o ho h => ?_) k hk
    rw [ct_co_bit hK ho]
    have h1 := (ct_sub_bits ha o).1
    rw [h1] at h
    simp at h
    simp [h.2]
  · refine ct_has_mono K (fun o ho h => ?_) k hk
    rw [ct_co_bit hK ho, (ct_sub_bits ha o).1, h]
    simp
theorem ct_vs_step (hK : K ≤ 6) (hv : ∀ o, o < K → ct_dep (v o) (fun k => decide (k < 8) && (la o).testBit k)) (ha : a &&& S = a) (hs : ct_sev S = true) (t : Nat → Nat) :
    ct_sm sz (fun k => (ct_lv la K R a ||| ct_lv la K R (S ^^^ a) ||| ct_lv la K R S).testBit k && !(ct_lv la K R S).testBit k) 8 (fun u => ct_vs sz la K R v a u * ct_vs sz la K R v (S ^^^ a) u) t = ct_vs sz la K R v S t := by
  have key : ∀ x, (∀ o, o < K → (ct_co K S).testBit o = true → (ct_co K x).testBit o = true) → ∀ k, ct_inn la K R x k = true → (ct_lv la K R S).testBit k = false := by
    intro x hx k hk
    have h1 := ct_inn_is hk
    cases hl : (ct_lv la K R S).testBit k with
    | false => rfl
    | true =>
      exfalso
      unfold ct_lv at hl
      rw [if_pos hs, Nat.testBit_and, Nat.testBit_or, Bool.and_eq_true, Bool.or_eq_true] at hl
      rcases hl.2 with h | h
      · rw [h1.2.1] at h; cases h
      · have := ct_has_mono K hx k h
        rw [h1.2.2] at this; cases this
  refine ct_vs_with hK hv ha _ (key a (fun o ho h => ?_)) (key _ (fun o ho h => ?_)) t
  · rw [ct_co_bit hK ho] at h ⊢
    have h1 := (ct_sub_bits ha o).2
    cases h2 : a.testBit o with
    | false => rfl
    | true => rw [h1 h2] at h; cases h
  · rw [ct_co_bit hK ho] at h ⊢
    rw [(ct_sub_bits ha o).1]
    simp at h
    simp [h]
theorem ct_vs_last (hK : K ≤ 6) (hv : ∀ o, o < K → ct_dep (v o) (fun k => decide (k < 8) && (la o).testBit k)) (ha : a &&& S = a) (t : Nat → Nat) :
    ct_sm sz (fun k => (ct_lv la K R a ||| ct_lv la K R (S ^^^ a) ||| R).testBit k && !R.testBit k) 8 (fun u => ct_vs sz la K R v a u * ct_vs sz la K R v (S ^^^ a) u) t = ct_sm sz (fun k => (ct_has la S K).testBit k && !R.testBit k) 8 (ct_pd v S K) t :=
  ct_vs_with hK hv ha R (fun k h => (ct_inn_is h).2.1) (fun k h => (ct_inn_is h).2.1) t
end VSS
theorem ct_sm_congrV {sz : Nat → Nat} {P V : Nat → Bool} {F F' : (Nat → Nat) → Int32} (hF : ∀ t : Nat → Nat, (∀ k, k < 8 → V k = true → t k < sz k) → F t = F' t) (n : Nat) : ∀ t : Nat → Nat, (∀ k, k < 8 → V k = true → (k < n ∧ P k = true) ∨ t k < sz k) → ct_sm sz P n F t = ct_sm sz P n F' t := by
  induction n with
  | zero => exact fun t h => hF t (fun k hk hV => (h k hk hV).resolve_left (fun z => by omega))
  | succ n ih =>
    intro t h
    cases hp : P n with
    | true =>
      rw [ct_sm_in hp, ct_sm_in hp]
      refine ct_sum_congr fun i hi => ih _ (fun k hk hV => ?_)
      by_cases hn : k = n
      · right; rw [hn, ct_st_at]; exact hi
      · rw [ct_st_ne _ _ hn]
        rcases h k hk hV with h1 | h1
        · exact Or.inl ⟨by omega, h1.2⟩
        · exact Or.inr h1
    | false =>
      rw [ct_sm_out hp, ct_sm_out hp]
      refine ih _ (fun k hk hV => ?_)
      rcases h k hk hV with h1 | h1
      · left
        refine ⟨?_, h1.2⟩
        by_cases hn : k = n
        · rw [hn, hp] at h1; cases h1.2
        · omega
      · exact Or.inr h1
theorem ct_ls_end {B : Nat → Nat × Nat} (hB : ct_okB B) {S : Nat} (hS : S < 64) (hs : ct_sev S = true) : 0 < (ct_ls B 64 S).length ∧ (ct_ls B 64 S).getD ((ct_ls B 64 S).length - 1) 0 = S := by
  rw [ct_ls_sev hB hS hs]
  generalize ct_ls B 64 (B S).2 ++ ct_ls B 64 (S ^^^ (B S).2) = l
  have hl : (l ++ [S]).length = l.length + 1 := by rw [List.length_append]; rfl
  rw [hl]
  exact ⟨by omega, ct_gd_r⟩
theorem ct_gd_app1 {l r : List Nat} {d : Nat} (h : d < l.length) : (l ++ r).getD d 0 = l.getD d 0 := by
  simp [List.getD, List.getElem?_append_left h]
theorem ct_gd_app2 {l r : List Nat} {d : Nat} (h : l.length ≤ d) : (l ++ r).getD d 0 = r.getD (d - l.length) 0 := by
  simp [List.getD, List.getElem?_append_right h]
/-- a step's parts of several operands came before -/
def ct_prev (B : Nat → Nat × Nat) (T : List Nat) : Prop := ∀ k, k < T.length → ct_sev (T.getD k 0) = true ∧ T.getD k 0 < 64 ∧ (ct_sev (B (T.getD k 0)).2 = true → ∃ j, j < k ∧ T.getD j 0 = (B (T.getD k 0)).2) ∧ (ct_sev (T.getD k 0 ^^^ (B (T.getD k 0)).2) = true → ∃ j, j < k ∧ T.getD j 0 = T.getD k 0 ^^^ (B (T.getD k 0)).2)
theorem ct_ls_prev {B : Nat → Nat × Nat} (hB : ct_okB B) : ∀ (n S : Nat), S < n → S < 64 → ct_prev B (ct_ls B 64 S) := by
  intro n
  induction n with
  | zero => intro S h; omega
  | succ n ih =>
    intro S h hS
    cases hs : ct_sev S with
    | false => rw [ct_ls_one hs]; exact fun k hk => absurd hk (Nat.not_lt_zero k)
    | true =>
      have hp := hB S hS hs
      have hc := ct_pt_co S hS _ hp.1 hp.2
      have ia := ih (B S).2 (by omega) (by omega)
      have ib := ih (S ^^^ (B S).2) (by omega) (by omega)
      have ea := fun z => ct_ls_end hB (S := (B S).2) (by omega) z
      have eb := fun z => ct_ls_end hB (S := S ^^^ (B S).2) (by omega) z
      rw [ct_ls_sev hB hS hs]
      generalize hpa : (B S).2 = pa at *
      generalize hot : S ^^^ pa = ot at *
      generalize ct_ls B 64 pa = l1 at *
      generalize ct_ls B 64 ot = l2 at *
      intro k hk
      have hl : (l1 ++ l2 ++ [S]).length = l1.length + l2.length + 1 := by rw [List.length_append, List.length_append]; rfl
      have hl2 : (l1 ++ l2).length = l1.length + l2.length := List.length_append
      by_cases h1 : k < l1.length
      · have e : ∀ j, j ≤ k → (l1 ++ l2 ++ [S]).getD j 0 = l1.getD j 0 := fun j hj => by rw [ct_gd_app1 (by omega), ct_gd_app1 (by omega)]
        rw [e k (Nat.le_refl k)]
        obtain ⟨q1, q2, q3, q4⟩ := ia k h1
        exact ⟨q1, q2, fun z => by obtain ⟨j, j1, j2⟩ := q3 z; exact ⟨j, j1, by rw [e j (by omega)]; exact j2⟩, fun z => by obtain ⟨j, j1, j2⟩ := q4 z; exact ⟨j, j1, by rw [e j (by omega)]; exact j2⟩⟩
      · by_cases h2 : k < l1.length + l2.length
        · have e : ∀ j, j < l2.length → (l1 ++ l2 ++ [S]).getD (l1.length + j) 0 = l2.getD j 0 := fun j hj => by rw [ct_gd_app1 (by omega), ct_gd_app2 (by omega), Nat.add_sub_cancel_left]
          obtain ⟨i, rfl⟩ : ∃ i, k = l1.length + i := ⟨k - l1.length, by omega⟩
          rw [e i (by omega)]
          obtain ⟨q1, q2, q3, q4⟩ := ib i (by omega)
          exact ⟨q1, q2, fun z => by obtain ⟨j, j1, j2⟩ := q3 z; exact ⟨l1.length + j, by omega, by rw [e j (by omega)]; exact j2⟩, fun z => by obtain ⟨j, j1, j2⟩ := q4 z; exact ⟨l1.length + j, by omega, by rw [e j (by omega)]; exact j2⟩⟩
        · have hk2 : k = (l1 ++ l2).length := by omega
          rw [hk2, ct_gd_r, hpa, hot]
          refine ⟨hs, hS, fun z => ⟨l1.length - 1, by have := (ea z).1; omega, ?_⟩, fun z => ⟨l1.length + (l2.length - 1), by have := (eb z).1; omega, ?_⟩⟩
          · have := (ea z).1
            rw [ct_gd_app1 (by omega), ct_gd_app1 (by omega)]; exact (ea z).2
          · have := (eb z).1
            rw [ct_gd_app1 (by omega), ct_gd_app2 (by omega), Nat.add_sub_cancel_left]; exact (eb z).2
