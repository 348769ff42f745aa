/-! the odometer: from place n to place n + 1, label by label from the last one down -/
def ct_car (sz : Nat → Nat) (U : Nat → Bool) (n k : Nat) (t : Nat → Nat) : Prop := ∃ q, n + 1 = (q + 1) * ct_up sz U k 8 ∧ t = ct_de sz U k q
theorem ct_car_0 (sz : Nat → Nat) (U : Nat → Bool) (n : Nat) : ct_car sz U n 8 (ct_de sz U 8 n) := ⟨n, by rw [ct_up_self 8 (Nat.le_refl 8), Nat.mul_one], rfl⟩
theorem ct_car_down {sz : Nat → Nat} {U : Nat → Bool} {n k : Nat} {t : Nat → Nat} (h : ct_car sz U n k t) (j : Nat) (hj : j ≤ k) (hk : k ≤ 8) (hsk : ∀ i, j ≤ i → i < k → U i = false ∨ sz i = 1) : ct_car sz U n j t := by
  obtain ⟨q, h1, h2⟩ := h
  exact ⟨q, by rw [ct_up_skips k hj hk hsk]; exact h1, by rw [h2]; exact ct_de_skips k hj hsk q⟩
theorem ct_car_wrap {sz : Nat → Nat} {U : Nat → Bool} {n k : Nat} {t : Nat → Nat} (h : ct_car sz U n (k + 1) t) (hk : k < 8) (hU : U k = true) (hz : 0 < sz k) (hw : t k + 1 = sz k) : ct_car sz U n k (ct_st t k 0) := by
  obtain ⟨q, h1, h2⟩ := h
  have e1 : t k = q % sz k := by rw [h2, ct_de_in hU, ct_st_at]
  refine ⟨q / sz k, ?_, ?_⟩
  · rw [ct_up_step hU 8 hk, ← Nat.mul_assoc, h1]
    congr 1
    have e2 := Nat.div_add_mod q (sz k)
    rw [Nat.add_mul, Nat.one_mul, Nat.mul_comm]
    omega
  · rw [h2, ct_de_in hU, ct_st_st]
    exact ct_st_id _ (ct_de_hi k _ k (Nat.le_refl k))
theorem ct_car_stop {sz : Nat → Nat} {U : Nat → Bool} {n k : Nat} {t : Nat → Nat} (h : ct_car sz U n (k + 1) t) (hs : ∀ j, j < 8 → 0 < sz j) (hk : k < 8) (hU : U k = true) (hw : t k + 1 ≠ sz k) : ct_st t k (t k + 1) = ct_de sz U 8 (n + 1) := by
  obtain ⟨q, h1, h2⟩ := h
  have e1 : t k = q % sz k := by rw [h2, ct_de_in hU, ct_st_at]
  have hz := hs k hk
  have hm := Nat.mod_lt q hz
  rw [h1, ct_de_mul 8 (by omega) hs, ct_de_in hU]
  have e2 := Nat.div_add_mod q (sz k)
  have e3 : (q + 1) % sz k = q % sz k + 1 := by
    rw [show q + 1 = sz k * (q / sz k) + (q % sz k + 1) by omega, Nat.mul_add_mod, Nat.mod_eq_of_lt (by omega)]
  have e4 : (q + 1) / sz k = q / sz k := by
    have h9 : sz k * (q / sz k) + (q % sz k + 1) = q + 1 := by omega
    rw [← h9, Nat.mul_add_div hz, Nat.div_eq_of_lt (show q % sz k + 1 < sz k by omega), Nat.add_zero]
  rw [e3, e4, e1, h2, ct_de_in hU, ct_st_st]
theorem ct_car_end {sz : Nat → Nat} {U : Nat → Bool} {n k : Nat} {t : Nat → Nat} (h : ct_car sz U n k t) (hk : k ≤ 8) (hsk : ∀ i, i < k → U i = false ∨ sz i = 1) : ct_pr sz U 8 ≤ n + 1 := by
  obtain ⟨q, h1, -⟩ := ct_car_down h 0 (Nat.zero_le k) hk (fun i _ hi => hsk i hi)
  rw [h1, ct_up_0]
  exact Nat.le_mul_of_pos_left _ (by omega)
/-- what a join leaves in the cell of the choice r -/
theorem ct_join_sum {sz : Nat → Nat} {U T : Nat → Bool} {r : Nat → Nat} {f : (Nat → Nat) → Int32} (hs : ∀ j, j < 8 → 0 < sz j) (hTU : ∀ k, k < 8 → T k = true → U k = true) (hr : ∀ k, k < 8 → T k = true → r k < sz k) (hf : ct_dep f (fun k => decide (k < 8) && U k)) :
    ct_sum (fun q => if ct_ix sz T 8 (ct_de sz U 8 q) = ct_ix sz T 8 r then f (ct_de sz U 8 q) else 0) (ct_pr sz U 8) = ct_sm sz (fun k => U k && !T k) 8 f r := by
  have e1 : ∀ q, (if ct_ix sz T 8 (ct_de sz U 8 q) = ct_ix sz T 8 r then f (ct_de sz U 8 q) else 0) = (fun u => if ct_agr T r 8 u = true then f u else 0) (ct_de sz U 8 q) := by
    intro q
    show _ = if ct_agr T r 8 (ct_de sz U 8 q) = true then f (ct_de sz U 8 q) else 0
    by_cases h : ct_ix sz T 8 (ct_de sz U 8 q) = ct_ix sz T 8 r
    · rw [if_pos h, if_pos ((ct_agr_iff 8 _).mpr (ct_ix_inj 8 (fun k hk _ => ct_de_lt 8 q k hs hk) hr h))]
    · rw [if_neg h, if_neg (fun z => h (ct_ix_congr 8 (fun _ _ => rfl) (fun _ _ _ => rfl) ((ct_agr_iff 8 _).mp z)))]
  rw [ct_sum_congr (fun q _ => e1 q)]
  refine (ct_sum_de (P := U) 8 hs (fun u => if ct_agr T r 8 u = true then f u else 0)).trans ?_
  rw [ct_sm_pick f 8 hTU hr]
  refine ct_sm_at hf 8 _ _ (fun k hk h1 => ?_)
  simp only [Bool.and_eq_true, decide_eq_true_eq] at hk
  have h2 := h1 hk.1
  have hT : T k = true := by
    cases hT : T k with
    | true => rfl
    | false => simp [hk.2, hT] at h2
  simp [ct_mix, hk.1, hT]
