theorem ct_nm1 : ∀ k, k < 8 → ¬ (nI k = -1) := by decide +kernel
theorem ct_2lt : ∀ k, k < 8 → 2 ^ k < 256 := by decide +kernel
def ct_mf (x y : Int32) : Bool := decide (y = -1) || (!decide (x = -1) && !decide (y ≤ x) && !decide (nI 8 ≤ y))
def ct_al (a b d : Int32) : Bool := !decide (a < -1) && !decide (nI 8 ≤ a) && ct_mf a b && ct_mf b d
/-- a label as a bit, none as 0 -/
def ct_lb (x : Int32) : Nat := if x = -1 then 0 else 2 ^ x.toNatClampNeg
def ct_isl (x : Int32) : Prop := x = -1 ∨ ∃ k : Nat, k < 8 ∧ x = nI k
theorem ct_lb_lt {x : Int32} (h : ct_isl x) : ct_lb x < 256 := by
  rcases h with h | ⟨k, hk, h⟩
  · rw [ct_lb, if_pos h]; omega
  · rw [ct_lb, if_neg (by rw [h]; exact ct_nm1 k hk), h, nI_clamp (by omega)]
    exact ct_2lt k hk
theorem ct_isl_of {x : Int32} (h1 : ¬ x < -1) (h2 : ¬ nI 8 ≤ x) : ct_isl x := by
  by_cases h0 : x < 0
  · left
    have e1 := Int32.lt_iff_toInt_lt.mp h0
    have e2 : ¬ x.toInt < (-1 : Int32).toInt := fun z => h1 (Int32.lt_iff_toInt_lt.mpr z)
    apply Int32.toInt_inj.mp
    have e3 : (-1 : Int32).toInt = -1 := by decide
    have e4 : (0 : Int32).toInt = 0 := by decide
    omega
  · right
    obtain ⟨j, hj, rfl⟩ := nI_of h0
    refine ⟨j, ?_, rfl⟩
    rcases Nat.lt_or_ge j 8 with h | h
    · exact h
    · exact absurd (nI_le h (by omega)) h2
theorem ct_mf_isl {x y : Int32} (hx : ct_isl x) (h : ct_mf x y = true) : ct_isl y := by
  by_cases h1 : y = -1
  · exact Or.inl h1
  · have h : (¬ x = -1 ∧ ¬ y ≤ x) ∧ ¬ nI 8 ≤ y := by simpa [ct_mf, h1] using h
    refine ct_isl_of (fun z => ?_) h.2
    rcases hx with hx | ⟨k, hk, hx⟩
    · exact h.1.1 hx
    · refine h.1.2 ?_
      rw [hx]
      apply Int32.le_iff_toInt_le.mpr
      have e1 := Int32.lt_iff_toInt_lt.mp z
      have e3 : (-1 : Int32).toInt = -1 := by decide
      rw [nI_toInt (by omega)]
      omega
theorem ct_al_isl {a b d : Int32} (h : ct_al a b d = true) : ct_isl a ∧ ct_isl b ∧ ct_isl d := by
  have h : ((¬ a < -1 ∧ ¬ nI 8 ≤ a) ∧ ct_mf a b = true) ∧ ct_mf b d = true := by simpa [ct_al] using h
  have h1 := ct_isl_of h.1.1.1 h.1.1.2
  have h2 := ct_mf_isl h1 h.1.2
  exact ⟨h1, h2, ct_mf_isl h2 h.2⟩
def ct_lbs (a b d : Int32) : Nat := ct_lb a ||| ct_lb b ||| ct_lb d
theorem ct_lbs_lt {a b d : Int32} (h : ct_al a b d = true) : ct_lbs a b d < 256 := Nat.or_lt_two_pow (n := 8) (Nat.or_lt_two_pow (n := 8) (ct_lb_lt (ct_al_isl h).1) (ct_lb_lt (ct_al_isl h).2.1)) (ct_lb_lt (ct_al_isl h).2.2)
/-- x is the number of one of the first n -/
def ct_isn (n : Nat) (x : Int32) : Bool := !decide (x < 0) && !decide (nI n ≤ x)
theorem ct_isn_of {n : Nat} {x : Int32} (hn : n < 2 ^ 31) (h : ct_isn n x = true) : ∃ j : Nat, j < n ∧ x = nI j := by
  have h : ¬ x < 0 ∧ ¬ nI n ≤ x := by simpa [ct_isn] using h
  rcases pk_ix x hn with h1 | h1 | h1
  · exact absurd h1 h.1
  · exact absurd h1 h.2
  · exact h1
theorem ct_isn_nI {n j : Nat} (hn : n < 2 ^ 31) (h : j < n) : ct_isn n (nI j) = true := by
  have h1 := nI_pos (n := j) (by omega)
  have h2 := nI_ge h hn
  simp [ct_isn, h1, h2]
/-- one of the first n tables has label k -/
def ct_any (lab : Nat → Nat) (k : Nat) : Nat → Bool
  | 0 => false
  | n + 1 => ct_any lab k n || (lab n).testBit k
theorem d_H_mayFollow_0 : decode b_H_mayFollow 0 = .ok (.iload_n 1, 1) := by decide +kernel
theorem d_H_mayFollow_1 : decode b_H_mayFollow 1 = .ok (.iconst (-1), 1) := by decide +kernel
theorem d_H_mayFollow_2 : decode b_H_mayFollow 2 = .ok (.if_icmp .eq 19, 3) := by decide +kernel
theorem d_H_mayFollow_5 : decode b_H_mayFollow 5 = .ok (.iload_n 0, 1) := by decide +kernel
theorem d_H_mayFollow_6 : decode b_H_mayFollow 6 = .ok (.iconst (-1), 1) := by decide +kernel
theorem d_H_mayFollow_7 : decode b_H_mayFollow 7 = .ok (.if_icmp .eq 18, 3) := by decide +kernel
theorem d_H_mayFollow_10 : decode b_H_mayFollow 10 = .ok (.iload_n 1, 1) := by decide +kernel
theorem d_H_mayFollow_11 : decode b_H_mayFollow 11 = .ok (.iload_n 0, 1) := by decide +kernel
theorem d_H_mayFollow_12 : decode b_H_mayFollow 12 = .ok (.if_icmp .le 13, 3) := by decide +kernel
theorem d_H_mayFollow_15 : decode b_H_mayFollow 15 = .ok (.iload_n 1, 1) := by decide +kernel
theorem d_H_mayFollow_16 : decode b_H_mayFollow 16 = .ok (.bipush 8, 2) := by decide +kernel
theorem d_H_mayFollow_18 : decode b_H_mayFollow 18 = .ok (.if_icmp .ge 7, 3) := by decide +kernel
theorem d_H_mayFollow_21 : decode b_H_mayFollow 21 = .ok (.iconst 1, 1) := by decide +kernel
theorem d_H_mayFollow_22 : decode b_H_mayFollow 22 = .ok (.goto 4, 3) := by decide +kernel
theorem d_H_mayFollow_25 : decode b_H_mayFollow 25 = .ok (.iconst 0, 1) := by decide +kernel
theorem d_H_mayFollow_26 : decode b_H_mayFollow 26 = .ok (.ireturn, 1) := by decide +kernel
theorem d_H_areLabels_0 : decode b_H_areLabels 0 = .ok (.iload_n 0, 1) := by decide +kernel
theorem d_H_areLabels_1 : decode b_H_areLabels 1 = .ok (.iconst (-1), 1) := by decide +kernel
theorem d_H_areLabels_2 : decode b_H_areLabels 2 = .ok (.if_icmp .lt 29, 3) := by decide +kernel
theorem d_H_areLabels_5 : decode b_H_areLabels 5 = .ok (.iload_n 0, 1) := by decide +kernel
theorem d_H_areLabels_6 : decode b_H_areLabels 6 = .ok (.bipush 8, 2) := by decide +kernel
theorem d_H_areLabels_8 : decode b_H_areLabels 8 = .ok (.if_icmp .ge 23, 3) := by decide +kernel
theorem d_H_areLabels_11 : decode b_H_areLabels 11 = .ok (.iload_n 0, 1) := by decide +kernel
theorem d_H_areLabels_12 : decode b_H_areLabels 12 = .ok (.iload_n 1, 1) := by decide +kernel
theorem d_H_areLabels_13 : decode b_H_areLabels 13 = .ok (.invokestatic 160, 3) := by decide +kernel
theorem d_H_areLabels_16 : decode b_H_areLabels 16 = .ok (.ifCond .eq 15, 3) := by decide +kernel
theorem d_H_areLabels_19 : decode b_H_areLabels 19 = .ok (.iload_n 1, 1) := by decide +kernel
theorem d_H_areLabels_20 : decode b_H_areLabels 20 = .ok (.iload_n 2, 1) := by decide +kernel
theorem d_H_areLabels_21 : decode b_H_areLabels 21 = .ok (.invokestatic 160, 3) := by decide +kernel
theorem d_H_areLabels_24 : decode b_H_areLabels 24 = .ok (.ifCond .eq 7, 3) := by decide +kernel
theorem d_H_areLabels_27 : decode b_H_areLabels 27 = .ok (.iconst 1, 1) := by decide +kernel
theorem d_H_areLabels_28 : decode b_H_areLabels 28 = .ok (.goto 4, 3) := by decide +kernel
theorem d_H_areLabels_31 : decode b_H_areLabels 31 = .ok (.iconst 0, 1) := by decide +kernel
theorem d_H_areLabels_32 : decode b_H_areLabels 32 = .ok (.ireturn, 1) := by decide +kernel
theorem d_H_labelBit_0 : decode b_H_labelBit 0 = .ok (.iload_n 0, 1) := by decide +kernel
theorem d_H_labelBit_1 : decode b_H_labelBit 1 = .ok (.iconst (-1), 1) := by decide +kernel
theorem d_H_labelBit_2 : decode b_H_labelBit 2 = .ok (.if_icmp .ne 7, 3) := by decide +kernel
theorem d_H_labelBit_5 : decode b_H_labelBit 5 = .ok (.iconst 0, 1) := by decide +kernel
theorem d_H_labelBit_6 : decode b_H_labelBit 6 = .ok (.goto 6, 3) := by decide +kernel
theorem d_H_labelBit_9 : decode b_H_labelBit 9 = .ok (.iconst 1, 1) := by decide +kernel
theorem d_H_labelBit_10 : decode b_H_labelBit 10 = .ok (.iload_n 0, 1) := by decide +kernel
theorem d_H_labelBit_11 : decode b_H_labelBit 11 = .ok (.ishl, 1) := by decide +kernel
theorem d_H_labelBit_12 : decode b_H_labelBit 12 = .ok (.ireturn, 1) := by decide +kernel
theorem d_H_labelBits_0 : decode b_H_labelBits 0 = .ok (.iload_n 0, 1) := by decide +kernel
theorem d_H_labelBits_1 : decode b_H_labelBits 1 = .ok (.invokestatic 164, 3) := by decide +kernel
theorem d_H_labelBits_4 : decode b_H_labelBits 4 = .ok (.iload_n 1, 1) := by decide +kernel
theorem d_H_labelBits_5 : decode b_H_labelBits 5 = .ok (.invokestatic 164, 3) := by decide +kernel
theorem d_H_labelBits_8 : decode b_H_labelBits 8 = .ok (.ior, 1) := by decide +kernel
theorem d_H_labelBits_9 : decode b_H_labelBits 9 = .ok (.iload_n 2, 1) := by decide +kernel
theorem d_H_labelBits_10 : decode b_H_labelBits 10 = .ok (.invokestatic 164, 3) := by decide +kernel
theorem d_H_labelBits_13 : decode b_H_labelBits 13 = .ok (.ior, 1) := by decide +kernel
theorem d_H_labelBits_14 : decode b_H_labelBits 14 = .ok (.ireturn, 1) := by decide +kernel
theorem d_H_homeOfTable_0 : decode b_H_homeOfTable 0 = .ok (.iload_n 0, 1) := by decide +kernel
theorem d_H_homeOfTable_1 : decode b_H_homeOfTable 1 = .ok (.bipush 27, 2) := by decide +kernel
theorem d_H_homeOfTable_3 : decode b_H_homeOfTable 3 = .ok (.imul, 1) := by decide +kernel
theorem d_H_homeOfTable_4 : decode b_H_homeOfTable 4 = .ok (.ireturn, 1) := by decide +kernel
theorem d_H_isTable_0 : decode b_H_isTable 0 = .ok (.iload_n 1, 1) := by decide +kernel
theorem d_H_isTable_1 : decode b_H_isTable 1 = .ok (.ifCond .lt 15, 3) := by decide +kernel
theorem d_H_isTable_4 : decode b_H_isTable 4 = .ok (.iload_n 1, 1) := by decide +kernel
theorem d_H_isTable_5 : decode b_H_isTable 5 = .ok (.aload_n 0, 1) := by decide +kernel
theorem d_H_isTable_6 : decode b_H_isTable 6 = .ok (.getfield 77, 3) := by decide +kernel
theorem d_H_isTable_9 : decode b_H_isTable 9 = .ok (.if_icmp .ge 7, 3) := by decide +kernel
theorem d_H_isTable_12 : decode b_H_isTable 12 = .ok (.iconst 1, 1) := by decide +kernel
theorem d_H_isTable_13 : decode b_H_isTable 13 = .ok (.goto 4, 3) := by decide +kernel
theorem d_H_isTable_16 : decode b_H_isTable 16 = .ok (.iconst 0, 1) := by decide +kernel
theorem d_H_isTable_17 : decode b_H_isTable 17 = .ok (.ireturn, 1) := by decide +kernel
theorem d_H_aTableHas_0 : decode b_H_aTableHas 0 = .ok (.iconst 0, 1) := by decide +kernel
theorem d_H_aTableHas_1 : decode b_H_aTableHas 1 = .ok (.istore_n 2, 1) := by decide +kernel
theorem d_H_aTableHas_2 : decode b_H_aTableHas 2 = .ok (.iload_n 2, 1) := by decide +kernel
theorem d_H_aTableHas_3 : decode b_H_aTableHas 3 = .ok (.aload_n 0, 1) := by decide +kernel
theorem d_H_aTableHas_4 : decode b_H_aTableHas 4 = .ok (.getfield 77, 3) := by decide +kernel
theorem d_H_aTableHas_7 : decode b_H_aTableHas 7 = .ok (.if_icmp .ge 25, 3) := by decide +kernel
theorem d_H_aTableHas_10 : decode b_H_aTableHas 10 = .ok (.aload_n 0, 1) := by decide +kernel
theorem d_H_aTableHas_11 : decode b_H_aTableHas 11 = .ok (.getfield 32, 3) := by decide +kernel
theorem d_H_aTableHas_14 : decode b_H_aTableHas 14 = .ok (.iload_n 2, 1) := by decide +kernel
theorem d_H_aTableHas_15 : decode b_H_aTableHas 15 = .ok (.iaload, 1) := by decide +kernel
theorem d_H_aTableHas_16 : decode b_H_aTableHas 16 = .ok (.iload_n 1, 1) := by decide +kernel
theorem d_H_aTableHas_17 : decode b_H_aTableHas 17 = .ok (.invokestatic 164, 3) := by decide +kernel
theorem d_H_aTableHas_20 : decode b_H_aTableHas 20 = .ok (.iand, 1) := by decide +kernel
theorem d_H_aTableHas_21 : decode b_H_aTableHas 21 = .ok (.ifCond .eq 5, 3) := by decide +kernel
theorem d_H_aTableHas_24 : decode b_H_aTableHas 24 = .ok (.iconst 1, 1) := by decide +kernel
theorem d_H_aTableHas_25 : decode b_H_aTableHas 25 = .ok (.ireturn, 1) := by decide +kernel
theorem d_H_aTableHas_26 : decode b_H_aTableHas 26 = .ok (.iinc 2 1, 3) := by decide +kernel
theorem d_H_aTableHas_29 : decode b_H_aTableHas 29 = .ok (.goto (-27), 3) := by decide +kernel
theorem d_H_aTableHas_32 : decode b_H_aTableHas 32 = .ok (.iconst 0, 1) := by decide +kernel
theorem d_H_aTableHas_33 : decode b_H_aTableHas 33 = .ok (.ireturn, 1) := by decide +kernel
theorem d_H_allOperands_0 : decode b_H_allOperands 0 = .ok (.iconst 1, 1) := by decide +kernel
theorem d_H_allOperands_1 : decode b_H_allOperands 1 = .ok (.aload_n 0, 1) := by decide +kernel
theorem d_H_allOperands_2 : decode b_H_allOperands 2 = .ok (.getfield 110, 3) := by decide +kernel
theorem d_H_allOperands_5 : decode b_H_allOperands 5 = .ok (.ishl, 1) := by decide +kernel
theorem d_H_allOperands_6 : decode b_H_allOperands 6 = .ok (.iconst 1, 1) := by decide +kernel
theorem d_H_allOperands_7 : decode b_H_allOperands 7 = .ok (.isub, 1) := by decide +kernel
theorem d_H_allOperands_8 : decode b_H_allOperands 8 = .ok (.ireturn, 1) := by decide +kernel
theorem d_H_countSteps_0 : decode b_H_countSteps 0 = .ok (.aload_n 0, 1) := by decide +kernel
theorem d_H_countSteps_1 : decode b_H_countSteps 1 = .ok (.getfield 110, 3) := by decide +kernel
theorem d_H_countSteps_4 : decode b_H_countSteps 4 = .ok (.iconst 2, 1) := by decide +kernel
theorem d_H_countSteps_5 : decode b_H_countSteps 5 = .ok (.if_icmp .ge 7, 3) := by decide +kernel
theorem d_H_countSteps_8 : decode b_H_countSteps 8 = .ok (.iconst 0, 1) := by decide +kernel
theorem d_H_countSteps_9 : decode b_H_countSteps 9 = .ok (.goto 9, 3) := by decide +kernel
theorem d_H_countSteps_12 : decode b_H_countSteps 12 = .ok (.aload_n 0, 1) := by decide +kernel
theorem d_H_countSteps_13 : decode b_H_countSteps 13 = .ok (.getfield 110, 3) := by decide +kernel
theorem d_H_countSteps_16 : decode b_H_countSteps 16 = .ok (.iconst 1, 1) := by decide +kernel
theorem d_H_countSteps_17 : decode b_H_countSteps 17 = .ok (.isub, 1) := by decide +kernel
theorem d_H_countSteps_18 : decode b_H_countSteps 18 = .ok (.ireturn, 1) := by decide +kernel
theorem d_H_forgetPlan_0 : decode b_H_forgetPlan 0 = .ok (.aload_n 0, 1) := by decide +kernel
theorem d_H_forgetPlan_1 : decode b_H_forgetPlan 1 = .ok (.iconst 0, 1) := by decide +kernel
theorem d_H_forgetPlan_2 : decode b_H_forgetPlan 2 = .ok (.putfield 167, 3) := by decide +kernel
theorem d_H_forgetPlan_5 : decode b_H_forgetPlan 5 = .ok (.aload_n 0, 1) := by decide +kernel
theorem d_H_forgetPlan_6 : decode b_H_forgetPlan 6 = .ok (.iconst 0, 1) := by decide +kernel
theorem d_H_forgetPlan_7 : decode b_H_forgetPlan 7 = .ok (.putfield 67, 3) := by decide +kernel
theorem d_H_forgetPlan_10 : decode b_H_forgetPlan 10 = .ok (.return_, 1) := by decide +kernel
set_option maxHeartbeats 4000000 in
set_option maxRecDepth 100000 in
theorem c_H_mayFollow (l : Launch) (dC : Nat → ClassId) (dI : Nat → Nat → Nat) (cI : ClassId) (x y : Int32) : Met l y_H_mayFollow w_H_mayFollow ({ frames := 0, cells := 0, slots := 0, locals := 0 }) (va_Pc [.int x, .int y] (ct_ro (dC, dI) ct_cl [] [(cI, .int)])) (ct_qi (fun r => r = nI (if ct_mf x y = true then 1 else 0))) 0 0 (fun _ => False) := by
  refine Met.ofW (cc := b_H_mayFollow) (maxL := 2) (ret := (some .boolean)) (by decide) rfl ?_
  intro p e s m args below meth c s₁ Bd hml hv
  obtain ⟨hargs, hP, hK⟩ := hv
  have hx := Bd.exec
  have hb := Bd.bytes
  have hr := Bd.returns
  have hts : ∀ w ∈ k_H_mayFollow :: ct_tb, w.before args s = true := atoms_spec (ws := w_H_mayFollow) Bd.pre
  have hown : s.vm.findClass R_H = some m.cls := findClass_of_methodNamed Bd.named
  have hlocks := Bd.notSynchronized
  have hS : va_S (fun _ => False) s.heap s.heap [] := va_S.rf
  have hl := lv_entry ([.int x, .int y]) (n := 2) (Nat.le_of_ble_eq_true rfl)
  rw [show entryFrame m args 2 = entryFrame m (([.int x, .int y] : List Value)).toArray 2 by rw [hargs], lg_entry_eq]
  generalize (lg_sl ([.int x, .int y]) ++ List.replicate (2 - (lg_sl ([.int x, .int y])).length) Slot.unset).toArray = ls at hl ⊢
  have hl : lv_has ls 2 [(0, .int x), (1, .int y)] := hl
  by_cases h1 : y = -1
  · refine lv_iload_n hx hb d_H_mayFollow_0 rfl (lv_at hl 1 rfl) ?_
    refine lv_iconst (v := (-1)) hx hb d_H_mayFollow_1 (by decide) ?_
    refine lv_icmp_eq (tgt := 21) hx hb d_H_mayFollow_2 (by decide) (fun _ => ?_) (fun hc9 => absurd (h1) hc9)
    refine lv_iconst (v := (nI 1)) hx hb d_H_mayFollow_21 (by decide) ?_
    refine lv_goto (tgt := 26) hx hb d_H_mayFollow_22 (by decide) ?_
    exact W.zret (v := (nI 1)) hx hb hr (by first | rfl | decide) (fun tS ht hW => ⟨⟨(nI 1), (), rfl, by rw [if_pos (by simp [ct_mf, h1])], trivial⟩, hS.F ht⟩) hS.2.2 d_H_mayFollow_26
  · refine lv_iload_n hx hb d_H_mayFollow_0 rfl (lv_at hl 1 rfl) ?_
    refine lv_iconst (v := (-1)) hx hb d_H_mayFollow_1 (by decide) ?_
    refine lv_icmp_eq (tgt := 21) hx hb d_H_mayFollow_2 (by decide) (fun hc9 => absurd hc9 (h1)) (fun _ => ?_)
    by_cases h2 : x = -1
    · refine lv_iload_n hx hb d_H_mayFollow_5 rfl (lv_at hl 0 rfl) ?_
      refine lv_iconst (v := (-1)) hx hb d_H_mayFollow_6 (by decide) ?_
      refine lv_icmp_eq (tgt := 25) hx hb d_H_mayFollow_7 (by decide) (fun _ => ?_) (fun hc9 => absurd (h2) hc9)
      refine lv_iconst (v := (nI 0)) hx hb d_H_mayFollow_25 (by decide) ?_
      exact W.zret (v := (nI 0)) hx hb hr (by first | rfl | decide) (fun tS ht hW => ⟨⟨(nI 0), (), rfl, by rw [if_neg (by simp [ct_mf, h1, h2])], trivial⟩, hS.F ht⟩) hS.2.2 d_H_mayFollow_26
    · refine lv_iload_n hx hb d_H_mayFollow_5 rfl (lv_at hl 0 rfl) ?_
      refine lv_iconst (v := (-1)) hx hb d_H_mayFollow_6 (by decide) ?_
      refine lv_icmp_eq (tgt := 25) hx hb d_H_mayFollow_7 (by decide) (fun hc9 => absurd hc9 (h2)) (fun _ => ?_)
      by_cases h3 : y ≤ x
      · refine lv_iload_n hx hb d_H_mayFollow_10 rfl (lv_at hl 1 rfl) ?_
        refine lv_iload_n hx hb d_H_mayFollow_11 rfl (lv_at hl 0 rfl) ?_
        refine lv_icmp_le (tgt := 25) hx hb d_H_mayFollow_12 (by decide) (fun _ => ?_) (fun hc9 => absurd (h3) hc9)
        refine lv_iconst (v := (nI 0)) hx hb d_H_mayFollow_25 (by decide) ?_
        exact W.zret (v := (nI 0)) hx hb hr (by first | rfl | decide) (fun tS ht hW => ⟨⟨(nI 0), (), rfl, by rw [if_neg (by simp [ct_mf, h1, h2, h3])], trivial⟩, hS.F ht⟩) hS.2.2 d_H_mayFollow_26
      · refine lv_iload_n hx hb d_H_mayFollow_10 rfl (lv_at hl 1 rfl) ?_
        refine lv_iload_n hx hb d_H_mayFollow_11 rfl (lv_at hl 0 rfl) ?_
        refine lv_icmp_le (tgt := 25) hx hb d_H_mayFollow_12 (by decide) (fun hc9 => absurd hc9 (h3)) (fun _ => ?_)
        by_cases h4 : nI 8 ≤ y
        · refine lv_iload_n hx hb d_H_mayFollow_15 rfl (lv_at hl 1 rfl) ?_
          refine lv_bipush (v := (nI 8)) hx hb d_H_mayFollow_16 (by decide) ?_
          refine lv_icmp_ge (tgt := 25) hx hb d_H_mayFollow_18 (by decide) (fun _ => ?_) (fun hc9 => absurd (h4) hc9)
          refine lv_iconst (v := (nI 0)) hx hb d_H_mayFollow_25 (by decide) ?_
          exact W.zret (v := (nI 0)) hx hb hr (by first | rfl | decide) (fun tS ht hW => ⟨⟨(nI 0), (), rfl, by rw [if_neg (by simp [ct_mf, h1, h2, h3, h4])], trivial⟩, hS.F ht⟩) hS.2.2 d_H_mayFollow_26
        · refine lv_iload_n hx hb d_H_mayFollow_15 rfl (lv_at hl 1 rfl) ?_
          refine lv_bipush (v := (nI 8)) hx hb d_H_mayFollow_16 (by decide) ?_
          refine lv_icmp_ge (tgt := 25) hx hb d_H_mayFollow_18 (by decide) (fun hc9 => absurd hc9 (h4)) (fun _ => ?_)
          refine lv_iconst (v := (nI 1)) hx hb d_H_mayFollow_21 (by decide) ?_
          refine lv_goto (tgt := 26) hx hb d_H_mayFollow_22 (by decide) ?_
          exact W.zret (v := (nI 1)) hx hb hr (by first | rfl | decide) (fun tS ht hW => ⟨⟨(nI 1), (), rfl, by rw [if_pos (by simp [ct_mf, h1, h2, h3, h4])], trivial⟩, hS.F ht⟩) hS.2.2 d_H_mayFollow_26
set_option maxHeartbeats 4000000 in
set_option maxRecDepth 100000 in
theorem c_H_areLabels (l : Launch) (dC : Nat → ClassId) (dI : Nat → Nat → Nat) (cI : ClassId) (a b d : Int32) : Met l y_H_areLabels w_H_areLabels ({ frames := 1, cells := 0, slots := 0, locals := 21 }) (va_Pc [.int a, .int b, .int d] (ct_ro (dC, dI) ct_cl [] [(cI, .int)])) (ct_qi (fun r => r = nI (if ct_al a b d = true then 1 else 0))) 0 0 (fun _ => False) := by
  refine Met.ofW (cc := b_H_areLabels) (maxL := 3) (ret := (some .boolean)) (by decide) rfl ?_
  intro p e s m args below meth c s₁ Bd hml hv
  obtain ⟨hargs, hP, hK⟩ := hv
  have hx := Bd.exec
  have hb := Bd.bytes
  have hr := Bd.returns
  have hts : ∀ w ∈ k_H_areLabels :: ct_tb, w.before args s = true := atoms_spec (ws := w_H_areLabels) Bd.pre
  have hown : s.vm.findClass R_H = some m.cls := findClass_of_methodNamed Bd.named
  have hlocks := Bd.notSynchronized
  have hS : va_S (fun _ => False) s.heap s.heap [] := va_S.rf
  have hl := lv_entry ([.int a, .int b, .int d]) (n := 3) (Nat.le_of_ble_eq_true rfl)
  rw [show entryFrame m args 3 = entryFrame m (([.int a, .int b, .int d] : List Value)).toArray 3 by rw [hargs], lg_entry_eq]
  generalize (lg_sl ([.int a, .int b, .int d]) ++ List.replicate (3 - (lg_sl ([.int a, .int b, .int d])).length) Slot.unset).toArray = ls at hl ⊢
  have hl : lv_has ls 3 [(0, .int a), (1, .int b), (2, .int d)] := hl
  by_cases h1 : a < -1
  · refine lv_iload_n hx hb d_H_areLabels_0 rfl (lv_at hl 0 rfl) ?_
    refine lv_iconst (v := (-1)) hx hb d_H_areLabels_1 (by decide) ?_
    refine lv_icmp_lt (tgt := 31) hx hb d_H_areLabels_2 (by decide) (fun _ => ?_) (fun hc9 => absurd (h1) hc9)
    refine lv_iconst (v := (nI 0)) hx hb d_H_areLabels_31 (by decide) ?_
    exact W.zret (v := (nI 0)) hx hb hr (by first | rfl | decide) (fun tS ht hW => ⟨⟨(nI 0), (), rfl, by rw [if_neg (by simp [ct_al, h1])], trivial⟩, hS.F ht⟩) hS.2.2 d_H_areLabels_32
  · refine lv_iload_n hx hb d_H_areLabels_0 rfl (lv_at hl 0 rfl) ?_
    refine lv_iconst (v := (-1)) hx hb d_H_areLabels_1 (by decide) ?_
    refine lv_icmp_lt (tgt := 31) hx hb d_H_areLabels_2 (by decide) (fun hc9 => absurd hc9 (h1)) (fun _ => ?_)
    by_cases h2 : nI 8 ≤ a
    · refine lv_iload_n hx hb d_H_areLabels_5 rfl (lv_at hl 0 rfl) ?_
      refine lv_bipush (v := (nI 8)) hx hb d_H_areLabels_6 (by decide) ?_
      refine lv_icmp_ge (tgt := 31) hx hb d_H_areLabels_8 (by decide) (fun _ => ?_) (fun hc9 => absurd (h2) hc9)
      refine lv_iconst (v := (nI 0)) hx hb d_H_areLabels_31 (by decide) ?_
      exact W.zret (v := (nI 0)) hx hb hr (by first | rfl | decide) (fun tS ht hW => ⟨⟨(nI 0), (), rfl, by rw [if_neg (by simp [ct_al, h2])], trivial⟩, hS.F ht⟩) hS.2.2 d_H_areLabels_32
    · refine lv_iload_n hx hb d_H_areLabels_5 rfl (lv_at hl 0 rfl) ?_
      refine lv_bipush (v := (nI 8)) hx hb d_H_areLabels_6 (by decide) ?_
      refine lv_icmp_ge (tgt := 31) hx hb d_H_areLabels_8 (by decide) (fun hc9 => absurd hc9 (h2)) (fun _ => ?_)
      refine lv_iload_n hx hb d_H_areLabels_11 rfl (lv_at hl 0 rfl) ?_
      refine lv_iload_n hx hb d_H_areLabels_12 rfl (lv_at hl 1 rfl) ?_
      refine va_calli (va_runS (As := [.int a, .int b]) (rest := []) ⟨hx, hb, hml, hown, hts⟩ (c_H_mayFollow l dC dI cI a b) (va_cwS 2 hts (ct_giT (fun w h9 => ct_tl h9) kw_333 kw_334 kw_26 kw_335) rfl rfl rfl (by decide +kernel) ⟨Nat.le_of_ble_eq_true rfl, Nat.le_of_ble_eq_true rfl⟩) ⟨ct_ro_blind, ct_ro_pre (hP.sub [] rfl) hK⟩ rfl rfl hl.1 rfl (lv_room (Nat.le_of_ble_eq_true rfl)) d_H_areLabels_13 ⟨Nat.le_of_ble_eq_true rfl, Nat.le_of_ble_eq_true rfl⟩) hS (fun q _ h9 => h9.elim) (fun q h9 => h9.elim) (fun ans201 uS tS H locs ht hvm hwans201 hB hz1 hk1 hS => ?_)
      have hP := ct_keep hP hk1
      refine ct_val (y := nI (if ct_mf a b = true then 1 else 0)) (hwans201) ?_
      by_cases h3 : ct_mf a b = true
      · rw [if_pos h3]
        refine lv_if_eq (tgt := 31) hx hb d_H_areLabels_16 (by decide) (fun hc9 => absurd hc9 (nI_ne0 (by omega) (by omega))) (fun _ => ?_)
        refine lv_iload_n hx hb d_H_areLabels_19 rfl (lv_at hl 1 rfl) ?_
        refine lv_iload_n hx hb d_H_areLabels_20 rfl (lv_at hl 2 rfl) ?_
        refine va_calli (va_runS (As := [.int b, .int d]) (rest := []) ⟨hx, hb, hml, hown, hts⟩ (c_H_mayFollow l dC dI cI b d) (va_cwS 2 hts (ct_giT (fun w h9 => ct_tl h9) kw_333 kw_334 kw_26 kw_335) rfl rfl rfl (by decide +kernel) ⟨Nat.le_of_ble_eq_true rfl, Nat.le_of_ble_eq_true rfl⟩) ⟨ct_ro_blind, ct_ro_pre (hP.sub [] rfl) hK⟩ rfl rfl hl.1 rfl (lv_room (Nat.le_of_ble_eq_true rfl)) d_H_areLabels_21 ⟨Nat.le_of_ble_eq_true rfl, Nat.le_of_ble_eq_true rfl⟩) hS (fun q _ h9 => h9.elim) (fun q h9 => h9.elim) (fun ans302 uS tS H locs ht hvm hwans302 hB hz1 hk1 hS => ?_)
        have hP := ct_keep hP hk1
        refine ct_val (y := nI (if ct_mf b d = true then 1 else 0)) (hwans302) ?_
        by_cases h4 : ct_mf b d = true
        · rw [if_pos h4]
          refine lv_if_eq (tgt := 31) hx hb d_H_areLabels_24 (by decide) (fun hc9 => absurd hc9 (nI_ne0 (by omega) (by omega))) (fun _ => ?_)
          refine lv_iconst (v := (nI 1)) hx hb d_H_areLabels_27 (by decide) ?_
          refine lv_goto (tgt := 32) hx hb d_H_areLabels_28 (by decide) ?_
          exact W.zret (v := (nI 1)) hx hb hr (by first | rfl | decide) (fun tS ht hW => ⟨⟨(nI 1), (), rfl, by rw [if_pos (by simp [ct_al, h1, h2, h3, h4])], trivial⟩, hS.F ht⟩) hS.2.2 d_H_areLabels_32
        · rw [if_neg h4]
          refine lv_if_eq (tgt := 31) hx hb d_H_areLabels_24 (by decide) (fun _ => ?_) (fun hc9 => absurd (nI_0) hc9)
          refine lv_iconst (v := (nI 0)) hx hb d_H_areLabels_31 (by decide) ?_
          exact W.zret (v := (nI 0)) hx hb hr (by first | rfl | decide) (fun tS ht hW => ⟨⟨(nI 0), (), rfl, by rw [if_neg (by simp [ct_al, h4])], trivial⟩, hS.F ht⟩) hS.2.2 d_H_areLabels_32
      · rw [if_neg h3]
        refine lv_if_eq (tgt := 31) hx hb d_H_areLabels_16 (by decide) (fun _ => ?_) (fun hc9 => absurd (nI_0) hc9)
        refine lv_iconst (v := (nI 0)) hx hb d_H_areLabels_31 (by decide) ?_
        exact W.zret (v := (nI 0)) hx hb hr (by first | rfl | decide) (fun tS ht hW => ⟨⟨(nI 0), (), rfl, by rw [if_neg (by simp [ct_al, h3])], trivial⟩, hS.F ht⟩) hS.2.2 d_H_areLabels_32
set_option maxHeartbeats 4000000 in
set_option maxRecDepth 100000 in
theorem c_H_labelBit (l : Launch) (dC : Nat → ClassId) (dI : Nat → Nat → Nat) (cI : ClassId) (x : Int32) (hxl : ct_isl x) : Met l y_H_labelBit w_H_labelBit ({ frames := 0, cells := 0, slots := 0, locals := 0 }) (va_Pc [.int x] (ct_ro (dC, dI) ct_cl [] [(cI, .int)])) (ct_qi (fun r => r = nI (ct_lb x))) 0 0 (fun _ => False) := by
  refine Met.ofW (cc := b_H_labelBit) (maxL := 1) (ret := (some .int)) (by decide) rfl ?_
  intro p e s m args below meth c s₁ Bd hml hv
  obtain ⟨hargs, hP, hK⟩ := hv
  have hx := Bd.exec
  have hb := Bd.bytes
  have hr := Bd.returns
  have hts : ∀ w ∈ k_H_labelBit :: ct_tb, w.before args s = true := atoms_spec (ws := w_H_labelBit) Bd.pre
  have hown : s.vm.findClass R_H = some m.cls := findClass_of_methodNamed Bd.named
  have hlocks := Bd.notSynchronized
  have hS : va_S (fun _ => False) s.heap s.heap [] := va_S.rf
  have hl := lv_entry ([.int x]) (n := 1) (Nat.le_of_ble_eq_true rfl)
  rw [show entryFrame m args 1 = entryFrame m (([.int x] : List Value)).toArray 1 by rw [hargs], lg_entry_eq]
  generalize (lg_sl ([.int x]) ++ List.replicate (1 - (lg_sl ([.int x])).length) Slot.unset).toArray = ls at hl ⊢
  have hl : lv_has ls 1 [(0, .int x)] := hl
  by_cases h1 : x = -1
  · refine lv_iload_n hx hb d_H_labelBit_0 rfl (lv_at hl 0 rfl) ?_
    refine lv_iconst (v := (-1)) hx hb d_H_labelBit_1 (by decide) ?_
    refine lv_icmp_ne (tgt := 9) hx hb d_H_labelBit_2 (by decide) (fun hc9 => absurd (h1) hc9) (fun _ => ?_)
    refine lv_iconst (v := (nI 0)) hx hb d_H_labelBit_5 (by decide) ?_
    refine lv_goto (tgt := 12) hx hb d_H_labelBit_6 (by decide) ?_
    exact W.iret (v := (nI 0)) hx hb hr (fun tS ht hW => ⟨⟨(nI 0), (), rfl, by rw [ct_lb, if_pos h1], trivial⟩, hS.F ht⟩) hS.2.2 d_H_labelBit_12
  · obtain ⟨k, hk, rfl⟩ := hxl.resolve_left h1
    refine lv_iload_n hx hb d_H_labelBit_0 rfl (lv_at hl 0 rfl) ?_
    refine lv_iconst (v := (-1)) hx hb d_H_labelBit_1 (by decide) ?_
    refine lv_icmp_ne (tgt := 9) hx hb d_H_labelBit_2 (by decide) (fun _ => ?_) (fun hc9 => absurd hc9 (h1))
    refine lv_iconst (v := (nI 1)) hx hb d_H_labelBit_9 (by decide) ?_
    refine lv_iload_n hx hb d_H_labelBit_10 rfl (lv_at hl 0 rfl) ?_
    refine lv_ishl hx hb d_H_labelBit_11 ?_
    refine ct_val (y := nI (2 ^ k)) ((ct_shl 1 (by omega) (by have := ct_2lt k hk; omega)).trans (by rw [Nat.one_mul])) ?_
    exact W.iret (v := (nI (2 ^ k))) hx hb hr (fun tS ht hW => ⟨⟨(nI (2 ^ k)), (), rfl, by rw [ct_lb, if_neg h1, nI_clamp (by omega)], trivial⟩, hS.F ht⟩) hS.2.2 d_H_labelBit_12
set_option maxHeartbeats 4000000 in
set_option maxRecDepth 100000 in
theorem c_H_labelBits (l : Launch) (dC : Nat → ClassId) (dI : Nat → Nat → Nat) (cI : ClassId) (a b d : Int32) (ha : ct_isl a) (hb1 : ct_isl b) (hd : ct_isl d) : Met l y_H_labelBits w_H_labelBits ({ frames := 1, cells := 0, slots := 0, locals := 20 }) (va_Pc [.int a, .int b, .int d] (ct_ro (dC, dI) ct_cl [] [(cI, .int)])) (ct_qi (fun r => r = nI (ct_lbs a b d))) 0 0 (fun _ => False) := by
  refine Met.ofW (cc := b_H_labelBits) (maxL := 3) (ret := (some .int)) (by decide) rfl ?_
  intro p e s m args below meth c s₁ Bd hml hv
  obtain ⟨hargs, hP, hK⟩ := hv
  have hx := Bd.exec
  have hb := Bd.bytes
  have hr := Bd.returns
  have hts : ∀ w ∈ k_H_labelBits :: ct_tb, w.before args s = true := atoms_spec (ws := w_H_labelBits) Bd.pre
  have hown : s.vm.findClass R_H = some m.cls := findClass_of_methodNamed Bd.named
  have hlocks := Bd.notSynchronized
  have hS : va_S (fun _ => False) s.heap s.heap [] := va_S.rf
  have hl := lv_entry ([.int a, .int b, .int d]) (n := 3) (Nat.le_of_ble_eq_true rfl)
  rw [show entryFrame m args 3 = entryFrame m (([.int a, .int b, .int d] : List Value)).toArray 3 by rw [hargs], lg_entry_eq]
  generalize (lg_sl ([.int a, .int b, .int d]) ++ List.replicate (3 - (lg_sl ([.int a, .int b, .int d])).length) Slot.unset).toArray = ls at hl ⊢
  have hl : lv_has ls 3 [(0, .int a), (1, .int b), (2, .int d)] := hl
  refine lv_iload_n hx hb d_H_labelBits_0 rfl (lv_at hl 0 rfl) ?_
  refine va_calli (va_runS (As := [.int a]) (rest := []) ⟨hx, hb, hml, hown, hts⟩ (c_H_labelBit l dC dI cI a ha) (va_cwS 1 hts (ct_giT (fun w h9 => ct_tl h9) kw_299 kw_300 kw_26 kw_301) rfl rfl rfl (by decide +kernel) ⟨Nat.le_of_ble_eq_true rfl, Nat.le_of_ble_eq_true rfl⟩) ⟨ct_ro_blind, ct_ro_pre (hP.sub [] rfl) hK⟩ rfl rfl hl.1 rfl (lv_room (Nat.le_of_ble_eq_true rfl)) d_H_labelBits_1 ⟨Nat.le_of_ble_eq_true rfl, Nat.le_of_ble_eq_true rfl⟩) hS (fun q _ h9 => h9.elim) (fun q h9 => h9.elim) (fun ans1 uS tS H locs ht hvm hwans1 hB hz1 hk1 hS => ?_)
  have hP := ct_keep hP hk1
  refine ct_val (y := nI (ct_lb a)) (hwans1) ?_
  refine lv_iload_n hx hb d_H_labelBits_4 rfl (lv_at hl 1 rfl) ?_
  refine va_calli (va_runS (As := [.int b]) (rest := [.int (nI (ct_lb a))]) ⟨hx, hb, hml, hown, hts⟩ (c_H_labelBit l dC dI cI b hb1) (va_cwS 1 hts (ct_giT (fun w h9 => ct_tl h9) kw_299 kw_300 kw_26 kw_301) rfl rfl rfl (by decide +kernel) ⟨Nat.le_of_ble_eq_true rfl, Nat.le_of_ble_eq_true rfl⟩) ⟨ct_ro_blind, ct_ro_pre (hP.sub [] rfl) hK⟩ rfl rfl hl.1 rfl (lv_room (Nat.le_of_ble_eq_true rfl)) d_H_labelBits_5 ⟨Nat.le_of_ble_eq_true rfl, Nat.le_of_ble_eq_true rfl⟩) hS (fun q _ h9 => h9.elim) (fun q h9 => h9.elim) (fun ans2 uS tS H locs ht hvm hwans2 hB hz1 hk1 hS => ?_)
  have hP := ct_keep hP hk1
  refine ct_val (y := nI (ct_lb b)) (hwans2) ?_
  refine lv_ior hx hb d_H_labelBits_8 ?_
  refine ct_val (y := nI (ct_lb a ||| ct_lb b)) (ct_or _ _) ?_
  refine lv_iload_n hx hb d_H_labelBits_9 rfl (lv_at hl 2 rfl) ?_
  refine va_calli (va_runS (As := [.int d]) (rest := [.int (nI (ct_lb a ||| ct_lb b))]) ⟨hx, hb, hml, hown, hts⟩ (c_H_labelBit l dC dI cI d hd) (va_cwS 1 hts (ct_giT (fun w h9 => ct_tl h9) kw_299 kw_300 kw_26 kw_301) rfl rfl rfl (by decide +kernel) ⟨Nat.le_of_ble_eq_true rfl, Nat.le_of_ble_eq_true rfl⟩) ⟨ct_ro_blind, ct_ro_pre (hP.sub [] rfl) hK⟩ rfl rfl hl.1 rfl (lv_room (Nat.le_of_ble_eq_true rfl)) d_H_labelBits_10 ⟨Nat.le_of_ble_eq_true rfl, Nat.le_of_ble_eq_true rfl⟩) hS (fun q _ h9 => h9.elim) (fun q h9 => h9.elim) (fun ans3 uS tS H locs ht hvm hwans3 hB hz1 hk1 hS => ?_)
  have hP := ct_keep hP hk1
  refine ct_val (y := nI (ct_lb d)) (hwans3) ?_
  refine lv_ior hx hb d_H_labelBits_13 ?_
  refine ct_val (y := nI (ct_lbs a b d)) (ct_or _ _) ?_
  exact W.iret (v := (nI (ct_lbs a b d))) hx hb hr (fun tS ht hW => ⟨⟨(nI (ct_lbs a b d)), (), rfl, rfl, trivial⟩, hS.F ht⟩) hS.2.2 d_H_labelBits_14
set_option maxHeartbeats 4000000 in
set_option maxRecDepth 100000 in
theorem c_H_homeOfTable (l : Launch) (dC : Nat → ClassId) (dI : Nat → Nat → Nat) (cI : ClassId) (t : Nat) : Met l y_H_homeOfTable w_H_homeOfTable ({ frames := 0, cells := 0, slots := 0, locals := 0 }) (va_Pc [.int (nI t)] (ct_ro (dC, dI) ct_cl [] [(cI, .int)])) (ct_qi (fun r => r = nI (t * 27))) 0 0 (fun _ => False) := by
  refine Met.ofW (cc := b_H_homeOfTable) (maxL := 1) (ret := (some .int)) (by decide) rfl ?_
  intro p e s m args below meth c s₁ Bd hml hv
  obtain ⟨hargs, hP, hK⟩ := hv
  have hx := Bd.exec
  have hb := Bd.bytes
  have hr := Bd.returns
  have hts : ∀ w ∈ k_H_homeOfTable :: ct_tb, w.before args s = true := atoms_spec (ws := w_H_homeOfTable) Bd.pre
  have hown : s.vm.findClass R_H = some m.cls := findClass_of_methodNamed Bd.named
  have hlocks := Bd.notSynchronized
  have hS : va_S (fun _ => False) s.heap s.heap [] := va_S.rf
  have hl := lv_entry ([.int (nI t)]) (n := 1) (Nat.le_of_ble_eq_true rfl)
  rw [show entryFrame m args 1 = entryFrame m (([.int (nI t)] : List Value)).toArray 1 by rw [hargs], lg_entry_eq]
  generalize (lg_sl ([.int (nI t)]) ++ List.replicate (1 - (lg_sl ([.int (nI t)])).length) Slot.unset).toArray = ls at hl ⊢
  have hl : lv_has ls 1 [(0, .int (nI t))] := hl
  refine lv_iload_n hx hb d_H_homeOfTable_0 rfl (lv_at hl 0 rfl) ?_
  refine lv_bipush (v := (nI 27)) hx hb d_H_homeOfTable_1 (by decide) ?_
  refine lv_imul hx hb d_H_homeOfTable_3 ?_
  refine ct_val (y := nI (t * 27)) (pk_mul _ _) ?_
  exact W.iret (v := (nI (t * 27))) hx hb hr (fun tS ht hW => ⟨⟨(nI (t * 27)), (), rfl, rfl, trivial⟩, hS.F ht⟩) hS.2.2 d_H_homeOfTable_4
set_option maxHeartbeats 4000000 in
set_option maxRecDepth 100000 in
theorem c_H_isTable (l : Launch) (dC : Nat → ClassId) (dI : Nat → Nat → Nat) (cI : ClassId) (h0 z0 p0 r0 h1 h2 h3 h4 : Nat) (T : Nat) (ops res pl sm : Int32) (x : Int32) : Met l y_H_isTable w_H_isTable ({ frames := 0, cells := 0, slots := 0, locals := 0 }) (va_Pc [.ref h0, .int x] (ct_ro (dC, dI) ct_cl [(h0, .inr (0, [.ref z0, .ref p0, .ref r0, .int (nI T), .ref h1, .int ops, .ref h2, .ref h3, .int res, .ref h4, .int pl, .int sm]))] [(cI, .int)])) (ct_qi (fun r => r = nI (if ct_isn T x = true then 1 else 0))) 0 0 (fun _ => False) := by
  refine Met.ofW (cc := b_H_isTable) (maxL := 2) (ret := (some .boolean)) (by decide) rfl ?_
  intro p e s m args below meth c s₁ Bd hml hv
  obtain ⟨hargs, hP, hK⟩ := hv
  have hx := Bd.exec
  have hb := Bd.bytes
  have hr := Bd.returns
  have hts : ∀ w ∈ k_H_isTable :: ct_tb, w.before args s = true := atoms_spec (ws := w_H_isTable) Bd.pre
  have hown : s.vm.findClass R_H = some m.cls := findClass_of_methodNamed Bd.named
  have hlocks := Bd.notSynchronized
  have hS : va_S (fun _ => False) s.heap s.heap [] := va_S.rf
  have hl := lv_entry ([.ref h0, .int x]) (n := 2) (Nat.le_of_ble_eq_true rfl)
  rw [show entryFrame m args 2 = entryFrame m (([.ref h0, .int x] : List Value)).toArray 2 by rw [hargs], lg_entry_eq]
  generalize (lg_sl ([.ref h0, .int x]) ++ List.replicate (2 - (lg_sl ([.ref h0, .int x])).length) Slot.unset).toArray = ls at hl ⊢
  have hl : lv_has ls 2 [(0, .ref h0), (1, .int x)] := hl
  by_cases h1 : x < 0
  · refine lv_iload_n hx hb d_H_isTable_0 rfl (lv_at hl 1 rfl) ?_
    refine lv_if_lt (tgt := 16) hx hb d_H_isTable_1 (by decide) (fun _ => ?_) (fun hc9 => absurd (h1) hc9)
    refine lv_iconst (v := (nI 0)) hx hb d_H_isTable_16 (by decide) ?_
    exact W.zret (v := (nI 0)) hx hb hr (by first | rfl | decide) (fun tS ht hW => ⟨⟨(nI 0), (), rfl, by rw [if_neg (by simp [ct_isn, h1])], trivial⟩, hS.F ht⟩) hS.2.2 d_H_isTable_17
  · refine lv_iload_n hx hb d_H_isTable_0 rfl (lv_at hl 1 rfl) ?_
    refine lv_if_lt (tgt := 16) hx hb d_H_isTable_1 (by decide) (fun hc9 => absurd hc9 (h1)) (fun _ => ?_)
    refine lv_iload_n hx hb d_H_isTable_4 rfl (lv_at hl 1 rfl) ?_
    refine lv_aload_n hx hb d_H_isTable_5 rfl (lv_at hl 0 rfl) ?_
    refine va_get (D := (dC, dI)) (ci := 0) (v := .int (nI T)) (C := R_H) (T := T_H) (N := 12) hx hb hts (fun w h9 => ct_tl (ki_H w h9)) hown hK hP 0 rfl rfl 3 (by decide) (hts _ (ct_tl kw_117)) (fun _ h9 => h9) rfl d_H_isTable_6 ?_
    by_cases h2 : nI T ≤ x
    · refine lv_icmp_ge (tgt := 16) hx hb d_H_isTable_9 (by decide) (fun _ => ?_) (fun hc9 => absurd (h2) hc9)
      refine lv_iconst (v := (nI 0)) hx hb d_H_isTable_16 (by decide) ?_
      exact W.zret (v := (nI 0)) hx hb hr (by first | rfl | decide) (fun tS ht hW => ⟨⟨(nI 0), (), rfl, by rw [if_neg (by simp [ct_isn, h2])], trivial⟩, hS.F ht⟩) hS.2.2 d_H_isTable_17
    · refine lv_icmp_ge (tgt := 16) hx hb d_H_isTable_9 (by decide) (fun hc9 => absurd hc9 (h2)) (fun _ => ?_)
      refine lv_iconst (v := (nI 1)) hx hb d_H_isTable_12 (by decide) ?_
      refine lv_goto (tgt := 17) hx hb d_H_isTable_13 (by decide) ?_
      exact W.zret (v := (nI 1)) hx hb hr (by first | rfl | decide) (fun tS ht hW => ⟨⟨(nI 1), (), rfl, by rw [if_pos (by simp [ct_isn, h1, h2])], trivial⟩, hS.F ht⟩) hS.2.2 d_H_isTable_17
theorem ct_and2 : ∀ k, k < 8 → ∀ M, M < 256 → (M &&& 2 ^ k = 0 ↔ M.testBit k = false) := by decide +kernel
theorem ct_lb_nI {k : Nat} (hk : k < 8) : ct_lb (nI k) = 2 ^ k := by rw [ct_lb, if_neg (ct_nm1 k hk), nI_clamp (by omega)]
theorem ct_any_up {lab : Nat → Nat} {k t : Nat} (n : Nat) (h : t < n) (hb : (lab t).testBit k = true) : ct_any lab k n = true := by
  induction n with
  | zero => omega
  | succ n ih =>
    show (ct_any lab k n || (lab n).testBit k) = true
    by_cases ht : t = n
    · rw [← ht, hb, Bool.or_true]
    · rw [ih (by omega), Bool.true_or]
set_option maxHeartbeats 4000000 in
set_option maxRecDepth 100000 in
theorem c_H_aTableHas (l : Launch) (dC : Nat → ClassId) (dI : Nat → Nat → Nat) (cI : ClassId) (h0 z0 p0 r0 h1 h2 h3 h4 : Nat) (T : Nat) (ops res pl sm : Int32) (f : Nat → Int32) (lab : Nat → Nat) (k : Nat) (hk : k < 8) (hT8 : T ≤ 8) (hf : ∀ t, t < T → f t = nI (lab t)) (hlab : ∀ t, t < T → lab t < 256) : Met l y_H_aTableHas w_H_aTableHas ({ frames := 1, cells := 0, slots := 0, locals := 20 }) (va_Pc [.ref h0, .int (nI k)] (ct_ro (dC, dI) ct_cl [(h0, .inr (0, [.ref z0, .ref p0, .ref r0, .int (nI T), .ref h1, .int ops, .ref h2, .ref h3, .int res, .ref h4, .int pl, .int sm])), (h1, .inl (cI, 8, .inl f))] [(cI, .int)])) (ct_qi (fun r => r = nI (if ct_any lab k T = true then 1 else 0))) 0 0 (fun _ => False) := by
  refine Met.ofW (cc := b_H_aTableHas) (maxL := 3) (ret := (some .boolean)) (by decide) rfl ?_
  intro p e s m args below meth c s₁ Bd hml hv
  obtain ⟨hargs, hP, hK⟩ := hv
  have hx := Bd.exec
  have hb := Bd.bytes
  have hr := Bd.returns
  have hts : ∀ w ∈ k_H_aTableHas :: ct_tb, w.before args s = true := atoms_spec (ws := w_H_aTableHas) Bd.pre
  have hown : s.vm.findClass R_H = some m.cls := findClass_of_methodNamed Bd.named
  have hlocks := Bd.notSynchronized
  have hS : va_S (fun _ => False) s.heap s.heap [] := va_S.rf
  have hl := lv_entry ([.ref h0, .int (nI k)]) (n := 3) (Nat.le_of_ble_eq_true rfl)
  rw [show entryFrame m args 3 = entryFrame m (([.ref h0, .int (nI k)] : List Value)).toArray 3 by rw [hargs], lg_entry_eq]
  generalize (lg_sl ([.ref h0, .int (nI k)]) ++ List.replicate (3 - (lg_sl ([.ref h0, .int (nI k)])).length) Slot.unset).toArray = ls at hl ⊢
  have hl : lv_has ls 3 [(0, .ref h0), (1, .int (nI k))] := hl
  have loop : ∀ (n t : Nat), t + n = T → ct_any lab k t = false → ∀ (H : Heap) (locs : List Loc), va_P (dC, dI) ct_cl [(h0, .inr (0, [.ref z0, .ref p0, .ref r0, .int (nI T), .ref h1, .int ops, .ref h2, .ref h3, .int res, .ref h4, .int pl, .int sm])), (h1, .inl (cI, 8, .inl f))] H → va_S (fun _ => False) s.heap H locs → ∀ (ls : Array Slot), lv_has ls 3 [(0, .ref h0), (1, .int (nI k)), (2, .int (nI t))] → W p l e (headSpec w_H_aTableHas ({ frames := 1, cells := 0, slots := 0, locals := 20 } : Room)).room s m args below meth c H locs 0 0 (MQ below (ct_qi (fun r => r = nI (if ct_any lab k T = true then 1 else 0))) args s 0 0 (fun _ => False)) (F0 m 2 ls []) := by
    intro n
    induction n with
    | zero =>
      intro t ht hno H locs hP hS ls hl
      refine lv_iload_n hx hb d_H_aTableHas_2 rfl (lv_at hl 2 rfl) ?_
      refine lv_aload_n hx hb d_H_aTableHas_3 rfl (lv_at hl 0 rfl) ?_
      refine va_get (D := (dC, dI)) (ci := 0) (v := .int (nI T)) (C := R_H) (T := T_H) (N := 12) hx hb hts (fun w h9 => ct_tl (ki_H w h9)) hown hK hP 0 rfl rfl 3 (by decide) (hts _ (ct_tl kw_117)) (fun _ h9 => h9) rfl d_H_aTableHas_4 ?_
      refine lv_icmp_ge (tgt := 32) hx hb d_H_aTableHas_7 (by decide) (fun _ => ?_) (fun hc9 => absurd (nI_le (by omega) (by omega)) hc9)
      refine lv_iconst (v := (nI 0)) hx hb d_H_aTableHas_32 (by decide) ?_
      exact W.zret (v := (nI 0)) hx hb hr (by first | rfl | decide) (fun tS ht hW => ⟨⟨(nI 0), (), rfl, by rw [if_neg (by rw [← show t = T by omega, hno]; exact Bool.false_ne_true)], trivial⟩, hS.F ht⟩) hS.2.2 d_H_aTableHas_33
    | succ n ih =>
      intro t ht hno H locs hP hS ls hl
      refine lv_iload_n hx hb d_H_aTableHas_2 rfl (lv_at hl 2 rfl) ?_
      refine lv_aload_n hx hb d_H_aTableHas_3 rfl (lv_at hl 0 rfl) ?_
      refine va_get (D := (dC, dI)) (ci := 0) (v := .int (nI T)) (C := R_H) (T := T_H) (N := 12) hx hb hts (fun w h9 => ct_tl (ki_H w h9)) hown hK hP 0 rfl rfl 3 (by decide) (hts _ (ct_tl kw_117)) (fun _ h9 => h9) rfl d_H_aTableHas_4 ?_
      refine lv_icmp_ge (tgt := 32) hx hb d_H_aTableHas_7 (by decide) (fun hc9 => absurd hc9 (nI_ge (by omega) (by omega))) (fun _ => ?_)
      refine lv_aload_n hx hb d_H_aTableHas_10 rfl (lv_at hl 0 rfl) ?_
      refine va_get (D := (dC, dI)) (ci := 0) (v := .ref h1) (C := R_H) (T := T_H) (N := 12) hx hb hts (fun w h9 => ct_tl (ki_H w h9)) hown hK hP 0 rfl rfl 4 (by decide) (hts _ (ct_tl kw_118)) (fun _ h9 => h9) rfl d_H_aTableHas_11 ?_
      refine lv_iload_n hx hb d_H_aTableHas_14 rfl (lv_at hl 2 rfl) ?_
      refine ct_iald hx hb hK hP 1 0 rfl rfl (j := t) (by omega) (by omega) d_H_aTableHas_15 ?_
      refine ct_val (y := nI (lab t)) (hf t (by omega)) ?_
      refine lv_iload_n hx hb d_H_aTableHas_16 rfl (lv_at hl 1 rfl) ?_
      refine va_calli (va_runS (As := [.int (nI k)]) (rest := [.int (nI (lab t))]) ⟨hx, hb, hml, hown, hts⟩ (c_H_labelBit l dC dI cI (nI k) (Or.inr ⟨k, hk, rfl⟩)) (va_cwS 1 hts (ct_giT (fun w h9 => ct_tl h9) kw_299 kw_300 kw_26 kw_301) rfl rfl rfl (by decide +kernel) ⟨Nat.le_of_ble_eq_true rfl, Nat.le_of_ble_eq_true rfl⟩) ⟨ct_ro_blind, ct_ro_pre (hP.sub [] rfl) hK⟩ rfl rfl hl.1 rfl (lv_room (Nat.le_of_ble_eq_true rfl)) d_H_aTableHas_17 ⟨Nat.le_of_ble_eq_true rfl, Nat.le_of_ble_eq_true rfl⟩) hS (fun q _ h9 => h9.elim) (fun q h9 => h9.elim) (fun ans1 uS tS H locs ht hvm hwans1 hB hz1 hk1 hS => ?_)
      have hP := ct_keep hP hk1
      refine ct_val (y := nI (ct_lb (nI k))) (hwans1) ?_
      refine ct_val (y := nI (2 ^ k)) (by rw [ct_lb_nI hk]) ?_
      refine lv_iand hx hb d_H_aTableHas_20 ?_
      refine ct_val (y := nI (lab t &&& 2 ^ k)) (ct_and _ _) ?_
      have hlt := hlab t (by omega)
      have h2 := ct_and2 k hk (lab t) hlt
      have h3 : lab t &&& 2 ^ k ≤ lab t := Nat.and_le_left
      by_cases hbt : (lab t).testBit k = false
      · refine lv_if_eq (tgt := 26) hx hb d_H_aTableHas_21 (by decide) (fun _ => ?_) (fun hc9 => absurd (by rw [h2.mpr hbt]; exact nI_0) hc9)
        refine lv_iinc (v := (nI (t + 1))) (lv' := [(2, .int (nI (t + 1))), (0, .ref h0), (1, .int (nI k))]) hx hb d_H_aTableHas_26 hl (k := 2) rfl (nI_1 _) (by decide) rfl (fun ls hl => ?_)
        refine lv_goto (tgt := 2) hx hb d_H_aTableHas_29 (by decide) ?_
        exact ih (t + 1) (by omega) (by show (ct_any lab k t || (lab t).testBit k) = false; rw [hno, hbt]; rfl) H locs hP hS ls (lv_sub hl [1, 2, 0] rfl)
      · refine lv_if_eq (tgt := 26) hx hb d_H_aTableHas_21 (by decide) (fun hc9 => absurd hc9 (fun z => hbt (h2.mp ((nI_eq (by omega) (by omega)).mp (z.trans nI_0.symm))))) (fun _ => ?_)
        refine lv_iconst (v := (nI 1)) hx hb d_H_aTableHas_24 (by decide) ?_
        exact W.zret (v := (nI 1)) hx hb hr (by first | rfl | decide) (fun tS ht hW => ⟨⟨(nI 1), (), rfl, by rw [if_pos (ct_any_up T (show t < T by omega) (by simpa using hbt))], trivial⟩, hS.F ht⟩) hS.2.2 d_H_aTableHas_25
  refine lv_iconst (v := (nI 0)) hx hb d_H_aTableHas_0 (by decide) ?_
  refine lv_istore_n (lv' := [(2, .int (nI 0)), (0, .ref h0), (1, .int (nI k))]) hx hb d_H_aTableHas_1 rfl hl (by decide) rfl (fun ls hl => ?_)
  exact loop T 0 (by omega) rfl s.heap [] hP hS ls (lv_sub hl [1, 2, 0] rfl)
set_option maxHeartbeats 4000000 in
set_option maxRecDepth 100000 in
theorem c_H_allOperands (l : Launch) (dC : Nat → ClassId) (dI : Nat → Nat → Nat) (cI : ClassId) (h0 z0 p0 r0 h1 h2 h3 h4 : Nat) (tab : Int32) (K : Nat) (res pl sm : Int32) (hK6 : K ≤ 6) : Met l y_H_allOperands w_H_allOperands ({ frames := 0, cells := 0, slots := 0, locals := 0 }) (va_Pc [.ref h0] (ct_ro (dC, dI) ct_cl [(h0, .inr (0, [.ref z0, .ref p0, .ref r0, .int tab, .ref h1, .int (nI K), .ref h2, .ref h3, .int res, .ref h4, .int pl, .int sm]))] [(cI, .int)])) (ct_qi (fun r => r = nI (2 ^ K - 1))) 0 0 (fun _ => False) := by
  refine Met.ofW (cc := b_H_allOperands) (maxL := 1) (ret := (some .int)) (by decide) rfl ?_
  intro p e s m args below meth c s₁ Bd hml hv
  obtain ⟨hargs, hP, hK⟩ := hv
  have hx := Bd.exec
  have hb := Bd.bytes
  have hr := Bd.returns
  have hts : ∀ w ∈ k_H_allOperands :: ct_tb, w.before args s = true := atoms_spec (ws := w_H_allOperands) Bd.pre
  have hown : s.vm.findClass R_H = some m.cls := findClass_of_methodNamed Bd.named
  have hlocks := Bd.notSynchronized
  have hS : va_S (fun _ => False) s.heap s.heap [] := va_S.rf
  have hl := lv_entry ([.ref h0]) (n := 1) (Nat.le_of_ble_eq_true rfl)
  rw [show entryFrame m args 1 = entryFrame m (([.ref h0] : List Value)).toArray 1 by rw [hargs], lg_entry_eq]
  generalize (lg_sl ([.ref h0]) ++ List.replicate (1 - (lg_sl ([.ref h0])).length) Slot.unset).toArray = ls at hl ⊢
  have hl : lv_has ls 1 [(0, .ref h0)] := hl
  have h2K := ct_2K K (by omega)
  refine lv_iconst (v := (nI 1)) hx hb d_H_allOperands_0 (by decide) ?_
  refine lv_aload_n hx hb d_H_allOperands_1 rfl (lv_at hl 0 rfl) ?_
  refine va_get (D := (dC, dI)) (ci := 0) (v := .int (nI K)) (C := R_H) (T := T_H) (N := 12) hx hb hts (fun w h9 => ct_tl (ki_H w h9)) hown hK hP 0 rfl rfl 5 (by decide) (hts _ (ct_tl kw_119)) (fun _ h9 => h9) rfl d_H_allOperands_2 ?_
  refine lv_ishl hx hb d_H_allOperands_5 ?_
  refine ct_val (y := nI (2 ^ K)) ((ct_shl 1 (by omega) (by omega)).trans (by rw [Nat.one_mul])) ?_
  refine lv_iconst (v := (nI 1)) hx hb d_H_allOperands_6 (by decide) ?_
  refine lv_isub hx hb d_H_allOperands_7 ?_
  refine ct_val (y := nI (2 ^ K - 1)) (pk_sub (by omega)) ?_
  exact W.iret (v := (nI (2 ^ K - 1))) hx hb hr (fun tS ht hW => ⟨⟨(nI (2 ^ K - 1)), (), rfl, rfl, trivial⟩, hS.F ht⟩) hS.2.2 d_H_allOperands_8
set_option maxHeartbeats 4000000 in
set_option maxRecDepth 100000 in
theorem c_H_countSteps (l : Launch) (dC : Nat → ClassId) (dI : Nat → Nat → Nat) (cI : ClassId) (h0 z0 p0 r0 h1 h2 h3 h4 : Nat) (tab : Int32) (K : Nat) (res pl sm : Int32) (hK6 : K ≤ 6) : Met l y_H_countSteps w_H_countSteps ({ frames := 0, cells := 0, slots := 0, locals := 0 }) (va_Pc [.ref h0] (ct_ro (dC, dI) ct_cl [(h0, .inr (0, [.ref z0, .ref p0, .ref r0, .int tab, .ref h1, .int (nI K), .ref h2, .ref h3, .int res, .ref h4, .int pl, .int sm]))] [(cI, .int)])) (ct_qi (fun r => r = nI (K - 1))) 0 0 (fun _ => False) := by
  refine Met.ofW (cc := b_H_countSteps) (maxL := 1) (ret := (some .int)) (by decide) rfl ?_
  intro p e s m args below meth c s₁ Bd hml hv
  obtain ⟨hargs, hP, hK⟩ := hv
  have hx := Bd.exec
  have hb := Bd.bytes
  have hr := Bd.returns
  have hts : ∀ w ∈ k_H_countSteps :: ct_tb, w.before args s = true := atoms_spec (ws := w_H_countSteps) Bd.pre
  have hown : s.vm.findClass R_H = some m.cls := findClass_of_methodNamed Bd.named
  have hlocks := Bd.notSynchronized
  have hS : va_S (fun _ => False) s.heap s.heap [] := va_S.rf
  have hl := lv_entry ([.ref h0]) (n := 1) (Nat.le_of_ble_eq_true rfl)
  rw [show entryFrame m args 1 = entryFrame m (([.ref h0] : List Value)).toArray 1 by rw [hargs], lg_entry_eq]
  generalize (lg_sl ([.ref h0]) ++ List.replicate (1 - (lg_sl ([.ref h0])).length) Slot.unset).toArray = ls at hl ⊢
  have hl : lv_has ls 1 [(0, .ref h0)] := hl
  refine lv_aload_n hx hb d_H_countSteps_0 rfl (lv_at hl 0 rfl) ?_
  refine va_get (D := (dC, dI)) (ci := 0) (v := .int (nI K)) (C := R_H) (T := T_H) (N := 12) hx hb hts (fun w h9 => ct_tl (ki_H w h9)) hown hK hP 0 rfl rfl 5 (by decide) (hts _ (ct_tl kw_119)) (fun _ h9 => h9) rfl d_H_countSteps_1 ?_
  refine lv_iconst (v := (nI 2)) hx hb d_H_countSteps_4 (by decide) ?_
  by_cases h9 : 2 ≤ K
  · refine lv_icmp_ge (tgt := 12) hx hb d_H_countSteps_5 (by decide) (fun _ => ?_) (fun hc9 => absurd (nI_le h9 (by omega)) hc9)
    refine lv_aload_n hx hb d_H_countSteps_12 rfl (lv_at hl 0 rfl) ?_
    refine va_get (D := (dC, dI)) (ci := 0) (v := .int (nI K)) (C := R_H) (T := T_H) (N := 12) hx hb hts (fun w h9 => ct_tl (ki_H w h9)) hown hK hP 0 rfl rfl 5 (by decide) (hts _ (ct_tl kw_119)) (fun _ h9 => h9) rfl d_H_countSteps_13 ?_
    refine lv_iconst (v := (nI 1)) hx hb d_H_countSteps_16 (by decide) ?_
    refine lv_isub hx hb d_H_countSteps_17 ?_
    refine ct_val (y := nI (K - 1)) (pk_sub (by omega)) ?_
    exact W.iret (v := (nI (K - 1))) hx hb hr (fun tS ht hW => ⟨⟨(nI (K - 1)), (), rfl, rfl, trivial⟩, hS.F ht⟩) hS.2.2 d_H_countSteps_18
  · refine lv_icmp_ge (tgt := 12) hx hb d_H_countSteps_5 (by decide) (fun hc9 => absurd hc9 (nI_ge (by omega) (by omega))) (fun _ => ?_)
    refine lv_iconst (v := (nI 0)) hx hb d_H_countSteps_8 (by decide) ?_
    refine lv_goto (tgt := 18) hx hb d_H_countSteps_9 (by decide) ?_
    exact W.iret (v := (nI 0)) hx hb hr (fun tS ht hW => ⟨⟨(nI 0), (), rfl, by rw [show K - 1 = 0 by omega], trivial⟩, hS.F ht⟩) hS.2.2 d_H_countSteps_18
set_option maxHeartbeats 4000000 in
set_option maxRecDepth 100000 in
theorem c_H_forgetPlan (l : Launch) (dC : Nat → ClassId) (dI : Nat → Nat → Nat) (cI : ClassId) (h0 z0 p0 r0 h1 h2 h3 h4 : Nat) (tab ops res pl sm : Int32) (sz0 : Nat) : Met l y_H_forgetPlan w_H_forgetPlan ({ frames := 0, cells := 0, slots := 0, locals := 0 }) (va_Pc [.ref h0] (ct_rw (dC, dI) ct_cl [(h0, .inr (0, [.ref z0, .ref p0, .ref r0, .int tab, .ref h1, .int ops, .ref h2, .ref h3, .int res, .ref h4, .int pl, .int sm]))] [(cI, .int)] sz0)) (va_Qv (fun (u : Unit) => True) (fun (u : Unit) t => ct_at (dC, dI) ct_cl [(cI, .int)] (va_A [(h0, .inr (0, [.ref z0, .ref p0, .ref r0, .int tab, .ref h1, .int ops, .ref h2, .ref h3, .int res, .ref h4, .int pl, .int sm]))] sz0) [(h0, .inr (0, [.ref z0, .ref p0, .ref r0, .int tab, .ref h1, .int ops, .ref h2, .ref h3, .int res, .ref h4, .int (nI 0), .int (nI 0)]))] t) (va_A [(h0, .inr (0, [.ref z0, .ref p0, .ref r0, .int tab, .ref h1, .int ops, .ref h2, .ref h3, .int res, .ref h4, .int pl, .int sm]))] sz0)) 0 0 (va_A [(h0, .inr (0, [.ref z0, .ref p0, .ref r0, .int tab, .ref h1, .int ops, .ref h2, .ref h3, .int res, .ref h4, .int pl, .int sm]))] sz0) := by
  refine Met.ofW (cc := b_H_forgetPlan) (maxL := 1) (ret := none) (by decide) rfl ?_
  intro p e s m args below meth c s₁ Bd hml hv
  obtain ⟨hargs, hsz, hP, hK, hD0⟩ := hv
  have hx := Bd.exec
  have hb := Bd.bytes
  have hr := Bd.returns
  have hts : ∀ w ∈ k_H_forgetPlan :: ct_tb, w.before args s = true := atoms_spec (ws := w_H_forgetPlan) Bd.pre
  have hown : s.vm.findClass R_H = some m.cls := findClass_of_methodNamed Bd.named
  have hlocks := Bd.notSynchronized
  subst hsz
  have hD := hD0.self (sz := s.heap.size)
  generalize hAe : va_A [(h0, .inr (0, [.ref z0, .ref p0, .ref r0, .int tab, .ref h1, .int ops, .ref h2, .ref h3, .int res, .ref h4, .int pl, .int sm]))] s.heap.size = A at hD ⊢
  have hA : ∀ q : Nat, s.heap.size ≤ q → A q := fun q h => by rw [← hAe]; exact Or.inr h
  have hS : va_S A s.heap s.heap [] := va_S.rf
  have hl := lv_entry ([.ref h0]) (n := 1) (Nat.le_of_ble_eq_true rfl)
  rw [show entryFrame m args 1 = entryFrame m (([.ref h0] : List Value)).toArray 1 by rw [hargs], lg_entry_eq]
  generalize (lg_sl ([.ref h0]) ++ List.replicate (1 - (lg_sl ([.ref h0])).length) Slot.unset).toArray = ls at hl ⊢
  have hl : lv_has ls 1 [(0, .ref h0)] := hl
  refine lv_aload_n hx hb d_H_forgetPlan_0 rfl (lv_at hl 0 rfl) ?_
  refine lv_iconst (v := (nI 0)) hx hb d_H_forgetPlan_1 (by decide) ?_
  refine va_put (D := (dC, dI)) (ci := 0) (v := .int (nI 0)) (ty := .boolean) (C := R_H) (T := T_H) (N := 12) hx hb hts (fun w h9 => ct_tl (ki_H w h9)) ty_H ok_H nm_H hown hK hP hD hS 0 rfl rfl 10 (by decide) (hts _ (ct_tl kw_124)) (fun _ h9 => h9) rfl (by decide +kernel) rfl rfl (Nat.le_of_ble_eq_true rfl) d_H_forgetPlan_2 (fun H locs hP hD hS => ?_)
  have hP : va_P (dC, dI) ct_cl [(h0, .inr (0, [.ref z0, .ref p0, .ref r0, .int tab, .ref h1, .int ops, .ref h2, .ref h3, .int res, .ref h4, .int (nI 0), .int sm]))] H := hP
  have hD : va_D A [(h0, .inr (0, [.ref z0, .ref p0, .ref r0, .int tab, .ref h1, .int ops, .ref h2, .ref h3, .int res, .ref h4, .int (nI 0), .int sm]))] := hD
  refine lv_aload_n hx hb d_H_forgetPlan_5 rfl (lv_at hl 0 rfl) ?_
  refine lv_iconst (v := (nI 0)) hx hb d_H_forgetPlan_6 (by decide) ?_
  refine va_put (D := (dC, dI)) (ci := 0) (v := .int (nI 0)) (ty := .boolean) (C := R_H) (T := T_H) (N := 12) hx hb hts (fun w h9 => ct_tl (ki_H w h9)) ty_H ok_H nm_H hown hK hP hD hS 0 rfl rfl 11 (by decide) (hts _ (ct_tl kw_125)) (fun _ h9 => h9) rfl (by decide +kernel) rfl rfl (Nat.le_of_ble_eq_true rfl) d_H_forgetPlan_7 (fun H locs hP hD hS => ?_)
  have hP : va_P (dC, dI) ct_cl [(h0, .inr (0, [.ref z0, .ref p0, .ref r0, .int tab, .ref h1, .int ops, .ref h2, .ref h3, .int res, .ref h4, .int (nI 0), .int (nI 0)]))] H := hP
  have hD : va_D A [(h0, .inr (0, [.ref z0, .ref p0, .ref r0, .int tab, .ref h1, .int ops, .ref h2, .ref h3, .int res, .ref h4, .int (nI 0), .int (nI 0)]))] := hD
  have hP9 := hP.sub [0] rfl
  exact W.vret hx hb hr (fun tS ht hW => ⟨⟨(), rfl, trivial, by rw [ht]; exact hP9, va_K.moved hW.alike hK, hD.sub [0] (by decide) rfl⟩, hS.F ht⟩) hS.2.2 d_H_forgetPlan_10
