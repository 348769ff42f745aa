theorem d_S_sizeOf_0 : decode b_S_sizeOf 0 = .ok (.aload_n 0, 1) := by decide +kernel
theorem d_S_sizeOf_1 : decode b_S_sizeOf 1 = .ok (.getfield 9, 3) := by decide +kernel
theorem d_S_sizeOf_4 : decode b_S_sizeOf 4 = .ok (.iload_n 1, 1) := by decide +kernel
theorem d_S_sizeOf_5 : decode b_S_sizeOf 5 = .ok (.iaload, 1) := by decide +kernel
theorem d_S_sizeOf_6 : decode b_S_sizeOf 6 = .ok (.ireturn, 1) := by decide +kernel
theorem d_S_choices_0 : decode b_S_choices 0 = .ok (.iconst 1, 1) := by decide +kernel
theorem d_S_choices_1 : decode b_S_choices 1 = .ok (.istore_n 2, 1) := by decide +kernel
theorem d_S_choices_2 : decode b_S_choices 2 = .ok (.iconst 0, 1) := by decide +kernel
theorem d_S_choices_3 : decode b_S_choices 3 = .ok (.istore_n 3, 1) := by decide +kernel
theorem d_S_choices_4 : decode b_S_choices 4 = .ok (.iload_n 3, 1) := by decide +kernel
theorem d_S_choices_5 : decode b_S_choices 5 = .ok (.bipush 8, 2) := by decide +kernel
theorem d_S_choices_7 : decode b_S_choices 7 = .ok (.if_icmp .ge 26, 3) := by decide +kernel
theorem d_S_choices_10 : decode b_S_choices 10 = .ok (.iload_n 1, 1) := by decide +kernel
theorem d_S_choices_11 : decode b_S_choices 11 = .ok (.iload_n 3, 1) := by decide +kernel
theorem d_S_choices_12 : decode b_S_choices 12 = .ok (.ishr, 1) := by decide +kernel
theorem d_S_choices_13 : decode b_S_choices 13 = .ok (.iconst 1, 1) := by decide +kernel
theorem d_S_choices_14 : decode b_S_choices 14 = .ok (.iand, 1) := by decide +kernel
theorem d_S_choices_15 : decode b_S_choices 15 = .ok (.ifCond .eq 12, 3) := by decide +kernel
theorem d_S_choices_18 : decode b_S_choices 18 = .ok (.iload_n 2, 1) := by decide +kernel
theorem d_S_choices_19 : decode b_S_choices 19 = .ok (.aload_n 0, 1) := by decide +kernel
theorem d_S_choices_20 : decode b_S_choices 20 = .ok (.getfield 9, 3) := by decide +kernel
theorem d_S_choices_23 : decode b_S_choices 23 = .ok (.iload_n 3, 1) := by decide +kernel
theorem d_S_choices_24 : decode b_S_choices 24 = .ok (.iaload, 1) := by decide +kernel
theorem d_S_choices_25 : decode b_S_choices 25 = .ok (.imul, 1) := by decide +kernel
theorem d_S_choices_26 : decode b_S_choices 26 = .ok (.istore_n 2, 1) := by decide +kernel
theorem d_S_choices_27 : decode b_S_choices 27 = .ok (.iinc 3 1, 3) := by decide +kernel
theorem d_S_choices_30 : decode b_S_choices 30 = .ok (.goto (-26), 3) := by decide +kernel
theorem d_S_choices_33 : decode b_S_choices 33 = .ok (.iload_n 2, 1) := by decide +kernel
theorem d_S_choices_34 : decode b_S_choices 34 = .ok (.ireturn, 1) := by decide +kernel
theorem d_S_stride_0 : decode b_S_stride 0 = .ok (.iload_n 1, 1) := by decide +kernel
theorem d_S_stride_1 : decode b_S_stride 1 = .ok (.iload_n 2, 1) := by decide +kernel
theorem d_S_stride_2 : decode b_S_stride 2 = .ok (.ishr, 1) := by decide +kernel
theorem d_S_stride_3 : decode b_S_stride 3 = .ok (.iconst 1, 1) := by decide +kernel
theorem d_S_stride_4 : decode b_S_stride 4 = .ok (.iand, 1) := by decide +kernel
theorem d_S_stride_5 : decode b_S_stride 5 = .ok (.ifCond .ne 5, 3) := by decide +kernel
theorem d_S_stride_8 : decode b_S_stride 8 = .ok (.iconst 0, 1) := by decide +kernel
theorem d_S_stride_9 : decode b_S_stride 9 = .ok (.ireturn, 1) := by decide +kernel
theorem d_S_stride_10 : decode b_S_stride 10 = .ok (.iload_n 1, 1) := by decide +kernel
theorem d_S_stride_11 : decode b_S_stride 11 = .ok (.iconst 2, 1) := by decide +kernel
theorem d_S_stride_12 : decode b_S_stride 12 = .ok (.iload_n 2, 1) := by decide +kernel
theorem d_S_stride_13 : decode b_S_stride 13 = .ok (.ishl, 1) := by decide +kernel
theorem d_S_stride_14 : decode b_S_stride 14 = .ok (.ineg, 1) := by decide +kernel
theorem d_S_stride_15 : decode b_S_stride 15 = .ok (.iand, 1) := by decide +kernel
theorem d_S_stride_16 : decode b_S_stride 16 = .ok (.istore_n 3, 1) := by decide +kernel
theorem d_S_stride_17 : decode b_S_stride 17 = .ok (.aload_n 0, 1) := by decide +kernel
theorem d_S_stride_18 : decode b_S_stride 18 = .ok (.iload_n 3, 1) := by decide +kernel
theorem d_S_stride_19 : decode b_S_stride 19 = .ok (.invokevirtual 15, 3) := by decide +kernel
theorem d_S_stride_22 : decode b_S_stride 22 = .ok (.ireturn, 1) := by decide +kernel
theorem d_S_change_0 : decode b_S_change 0 = .ok (.aload_n 0, 1) := by decide +kernel
theorem d_S_change_1 : decode b_S_change 1 = .ok (.getfield 9, 3) := by decide +kernel
theorem d_S_change_4 : decode b_S_change 4 = .ok (.iload_n 1, 1) := by decide +kernel
theorem d_S_change_5 : decode b_S_change 5 = .ok (.iload_n 2, 1) := by decide +kernel
theorem d_S_change_6 : decode b_S_change 6 = .ok (.iastore, 1) := by decide +kernel
theorem d_S_change_7 : decode b_S_change 7 = .ok (.return_, 1) := by decide +kernel
set_option maxHeartbeats 4000000 in
set_option maxRecDepth 100000 in
theorem c_S_sizeOf (l : Launch) (dC : Nat → ClassId) (dI : Nat → Nat → Nat) (cI : ClassId) (z0 z1 : Nat) (sz : Nat → Nat) (j : Nat) (hj : j < 8) : Met l y_S_sizeOf w_S_sizeOf ({ frames := 0, cells := 0, slots := 0, locals := 0 }) (va_Pc [.ref z0, .int (nI j)] (ct_ro (dC, dI) ct_cl [(z0, .inr (1, [.ref z1])), (z1, .inl (cI, 8, .inl (fun j => nI (sz j))))] [(cI, .int)])) (ct_qi (fun r => r = nI (sz j))) 0 0 (fun _ => False) := by
  refine Met.ofW (cc := b_S_sizeOf) (maxL := 2) (ret := (some .int)) (by decide) rfl ?_
  intro p e s m args below meth c s₁ Bd hml hv
  obtain ⟨hargs, hP, hK⟩ := hv
  have hx := Bd.exec
  have hb := Bd.bytes
  have hr := Bd.returns
  have hts : ∀ w ∈ k_S_sizeOf :: ct_tb, w.before args s = true := atoms_spec (ws := w_S_sizeOf) Bd.pre
  have hown : s.vm.findClass R_S = some m.cls := findClass_of_methodNamed Bd.named
  have hlocks := Bd.notSynchronized
  have hS : va_S (fun _ => False) s.heap s.heap [] := va_S.rf
  have hl := lv_entry ([.ref z0, .int (nI j)]) (n := 2) (Nat.le_of_ble_eq_true rfl)
  rw [show entryFrame m args 2 = entryFrame m (([.ref z0, .int (nI j)] : List Value)).toArray 2 by rw [hargs], lg_entry_eq]
  generalize (lg_sl ([.ref z0, .int (nI j)]) ++ List.replicate (2 - (lg_sl ([.ref z0, .int (nI j)])).length) Slot.unset).toArray = ls at hl ⊢
  have hl : lv_has ls 2 [(0, .ref z0), (1, .int (nI j))] := hl
  refine lv_aload_n hx hb d_S_sizeOf_0 rfl (lv_at hl 0 rfl) ?_
  refine va_get (D := (dC, dI)) (ci := 1) (v := .ref z1) (C := R_S) (T := T_S) (N := 1) hx hb hts (fun w h9 => ct_tl (ki_S w h9)) hown hK hP 0 rfl rfl 0 (by decide) (hts _ (ct_tl kw_56)) (fun _ h9 => h9) rfl d_S_sizeOf_1 ?_
  refine lv_iload_n hx hb d_S_sizeOf_4 rfl (lv_at hl 1 rfl) ?_
  refine ct_iald hx hb hK hP 1 0 rfl rfl (j := j) (by omega) (by omega) d_S_sizeOf_5 ?_
  refine ct_val (y := nI (sz j)) (rfl) ?_
  exact W.iret (v := (nI (sz j))) hx hb hr (fun tS ht hW => ⟨⟨(nI (sz j)), (), rfl, rfl, trivial⟩, hS.F ht⟩) hS.2.2 d_S_sizeOf_6
set_option maxHeartbeats 4000000 in
set_option maxRecDepth 100000 in
/-- Sizes.choices: how many choices of indexes the labels have -/
theorem c_S_choices (l : Launch) (dC : Nat → ClassId) (dI : Nat → Nat → Nat) (cI : ClassId) (z0 z1 : Nat) (sz : Nat → Nat) (M : Nat) (hM : M < 2 ^ 31) : Met l y_S_choices w_S_choices ({ frames := 0, cells := 0, slots := 0, locals := 0 }) (va_Pc [.ref z0, .int (nI M)] (ct_ro (dC, dI) ct_cl [(z0, .inr (1, [.ref z1])), (z1, .inl (cI, 8, .inl (fun j => nI (sz j))))] [(cI, .int)])) (ct_qi (fun r => r = nI (ct_pr sz M.testBit 8))) 0 0 (fun _ => False) := by
  refine Met.ofW (cc := b_S_choices) (maxL := 4) (ret := (some .int)) (by decide) rfl ?_
  intro p e s m args below meth c s₁ Bd hml hv
  obtain ⟨hargs, hP, hK⟩ := hv
  have hx := Bd.exec
  have hb := Bd.bytes
  have hr := Bd.returns
  have hts : ∀ w ∈ k_S_choices :: ct_tb, w.before args s = true := atoms_spec (ws := w_S_choices) Bd.pre
  have hown : s.vm.findClass R_S = some m.cls := findClass_of_methodNamed Bd.named
  have hlocks := Bd.notSynchronized
  have hS : va_S (fun _ => False) s.heap s.heap [] := va_S.rf
  have hl := lv_entry ([.ref z0, .int (nI M)]) (n := 4) (Nat.le_of_ble_eq_true rfl)
  rw [show entryFrame m args 4 = entryFrame m (([.ref z0, .int (nI M)] : List Value)).toArray 4 by rw [hargs], lg_entry_eq]
  generalize (lg_sl ([.ref z0, .int (nI M)]) ++ List.replicate (4 - (lg_sl ([.ref z0, .int (nI M)])).length) Slot.unset).toArray = ls at hl ⊢
  have hl : lv_has ls 4 [(0, .ref z0), (1, .int (nI M))] := hl
  have loop : ∀ (n i : Nat), i + n = 8 → ∀ (ls : Array Slot), lv_has ls 4 [(0, .ref z0), (1, .int (nI M)), (2, .int (nI (ct_pr sz M.testBit i))), (3, .int (nI i))] → W p l e (headSpec w_S_choices ({ frames := 0, cells := 0, slots := 0, locals := 0 } : Room)).room s m args below meth c s.heap [] 0 0 (MQ below (ct_qi (fun r => r = nI (ct_pr sz M.testBit 8))) args s 0 0 (fun _ => False)) (F0 m 4 ls []) := by
    intro n
    induction n with
    | zero =>
      intro i hin ls hl
      refine lv_iload_n hx hb d_S_choices_4 rfl (lv_at hl 3 rfl) ?_
      refine lv_bipush (v := (nI 8)) hx hb d_S_choices_5 (by decide) ?_
      refine lv_icmp_ge (tgt := 33) hx hb d_S_choices_7 (by decide) (fun _ => ?_) (fun hc9 => absurd (nI_le (by omega) (by omega)) hc9)
      refine lv_iload_n hx hb d_S_choices_33 rfl (lv_at hl 2 rfl) ?_
      exact W.iret (v := (nI (ct_pr sz M.testBit i))) hx hb hr (fun tS ht hW => ⟨⟨(nI (ct_pr sz M.testBit i)), (), rfl, by rw [show i = 8 by omega], trivial⟩, hS.F ht⟩) hS.2.2 d_S_choices_34
    | succ n ih =>
      intro i hin ls hl
      refine lv_iload_n hx hb d_S_choices_4 rfl (lv_at hl 3 rfl) ?_
      refine lv_bipush (v := (nI 8)) hx hb d_S_choices_5 (by decide) ?_
      refine lv_icmp_ge (tgt := 33) hx hb d_S_choices_7 (by decide) (fun hc9 => absurd hc9 (nI_ge (by omega) (by omega))) (fun _ => ?_)
      refine lv_iload_n hx hb d_S_choices_10 rfl (lv_at hl 1 rfl) ?_
      refine lv_iload_n hx hb d_S_choices_11 rfl (lv_at hl 3 rfl) ?_
      refine lv_ishr hx hb d_S_choices_12 ?_
      refine lv_iconst (v := (nI 1)) hx hb d_S_choices_13 (by decide) ?_
      by_cases hbt : M.testBit i = true
      · refine lv_iand hx hb d_S_choices_14 ?_
        refine ct_val (y := nI 1) (by rw [ct_bit hM (by omega), if_pos hbt]) ?_
        refine lv_if_eq (tgt := 27) hx hb d_S_choices_15 (by decide) (fun hc9 => absurd hc9 (nI_ne0 (by omega) (by omega))) (fun _ => ?_)
        refine lv_iload_n hx hb d_S_choices_18 rfl (lv_at hl 2 rfl) ?_
        refine lv_aload_n hx hb d_S_choices_19 rfl (lv_at hl 0 rfl) ?_
        refine va_get (D := (dC, dI)) (ci := 1) (v := .ref z1) (C := R_S) (T := T_S) (N := 1) hx hb hts (fun w h9 => ct_tl (ki_S w h9)) hown hK hP 0 rfl rfl 0 (by decide) (hts _ (ct_tl kw_56)) (fun _ h9 => h9) rfl d_S_choices_20 ?_
        refine lv_iload_n hx hb d_S_choices_23 rfl (lv_at hl 3 rfl) ?_
        refine ct_iald hx hb hK hP 1 0 rfl rfl (j := i) (by omega) (by omega) d_S_choices_24 ?_
        refine ct_val (y := nI (sz i)) (rfl) ?_
        refine lv_imul hx hb d_S_choices_25 ?_
        refine ct_val (y := nI (ct_pr sz M.testBit (i + 1))) (by rw [ct_pr_in hbt]; exact pk_mul _ _) ?_
        refine lv_istore_n (lv' := [(2, .int (nI (ct_pr sz M.testBit (i + 1)))), (0, .ref z0), (1, .int (nI M)), (3, .int (nI i))]) hx hb d_S_choices_26 rfl hl (by decide) rfl (fun ls hl => ?_)
        refine lv_iinc (v := (nI (i + 1))) (lv' := [(3, .int (nI (i + 1))), (2, .int (nI (ct_pr sz M.testBit (i + 1)))), (0, .ref z0), (1, .int (nI M))]) hx hb d_S_choices_27 hl (k := 3) rfl (nI_1 _) (by decide) rfl (fun ls hl => ?_)
        refine lv_goto (tgt := 4) hx hb d_S_choices_30 (by decide) ?_
        exact ih (i + 1) (by omega) ls (lv_sub hl [2, 3, 1, 0] rfl)
      · refine lv_iand hx hb d_S_choices_14 ?_
        refine ct_val (y := nI 0) (by rw [ct_bit hM (by omega), if_neg hbt]) ?_
        refine lv_if_eq (tgt := 27) hx hb d_S_choices_15 (by decide) (fun _ => ?_) (fun hc9 => absurd (nI_0) hc9)
        refine lv_iinc (v := (nI (i + 1))) (lv' := [(3, .int (nI (i + 1))), (0, .ref z0), (1, .int (nI M)), (2, .int (nI (ct_pr sz M.testBit i)))]) hx hb d_S_choices_27 hl (k := 3) rfl (nI_1 _) (by decide) rfl (fun ls hl => ?_)
        refine lv_goto (tgt := 4) hx hb d_S_choices_30 (by decide) ?_
        have e9 : ct_pr sz M.testBit (i + 1) = ct_pr sz M.testBit i := ct_pr_out (by simpa using hbt)
        exact ih (i + 1) (by omega) ls (by rw [e9]; exact lv_sub hl [1, 2, 3, 0] rfl)
  refine lv_iconst (v := (nI 1)) hx hb d_S_choices_0 (by decide) ?_
  refine lv_istore_n (lv' := [(2, .int (nI 1)), (0, .ref z0), (1, .int (nI M))]) hx hb d_S_choices_1 rfl hl (by decide) rfl (fun ls hl => ?_)
  refine lv_iconst (v := (nI 0)) hx hb d_S_choices_2 (by decide) ?_
  refine lv_istore_n (lv' := [(3, .int (nI 0)), (2, .int (nI 1)), (0, .ref z0), (1, .int (nI M))]) hx hb d_S_choices_3 rfl hl (by decide) rfl (fun ls hl => ?_)
  exact loop 8 0 rfl ls (lv_sub hl [2, 3, 1, 0] rfl)
theorem ct_above : ∀ M, M < 256 → ∀ k, k < 8 → nI M &&& (-(nI 2 <<< (nI k &&& 31))) = nI (M / 2 ^ (k + 1) * 2 ^ (k + 1)) := by decide +kernel
theorem ct_above_bit (M k j : Nat) : (M / 2 ^ k * 2 ^ k).testBit j = (decide (k ≤ j) && M.testBit j) := by
  rw [← Nat.shiftLeft_eq, Nat.testBit_shiftLeft, ← Nat.shiftRight_eq_div_pow, Nat.testBit_shiftRight]
  by_cases h : k ≤ j
  · simp [h, show k + (j - k) = j by omega]
  · simp [h]
theorem ct_up_pr {sz : Nat → Nat} {P : Nat → Bool} {k : Nat} (n : Nat) : ct_up sz P k n = ct_pr sz (fun j => decide (k ≤ j) && P j) n := by
  induction n with
  | zero => rfl
  | succ n ih =>
    show (if (decide (k ≤ n) && P n) = true then ct_up sz P k n * sz n else ct_up sz P k n) = (if (decide (k ≤ n) && P n) = true then ct_pr sz (fun j => decide (k ≤ j) && P j) n * sz n else ct_pr sz (fun j => decide (k ≤ j) && P j) n)
    rw [ih]
def ct_sr (sz : Nat → Nat) (M k : Nat) : Nat := if M.testBit k = true then ct_up sz M.testBit (k + 1) 8 else 0
theorem ct_above_pr (sz : Nat → Nat) (M k : Nat) : ct_pr sz (M / 2 ^ (k + 1) * 2 ^ (k + 1)).testBit 8 = ct_up sz M.testBit (k + 1) 8 := by
  rw [ct_up_pr]
  exact ct_pr_congr 8 (fun j _ => ct_above_bit M (k + 1) j) (fun _ _ _ => rfl)
set_option maxHeartbeats 4000000 in
set_option maxRecDepth 100000 in
theorem c_S_stride (l : Launch) (dC : Nat → ClassId) (dI : Nat → Nat → Nat) (cI : ClassId) (z0 z1 : Nat) (sz : Nat → Nat) (M k : Nat) (hM : M < 256) (hk : k < 8) : Met l y_S_stride w_S_stride ({ frames := 1, cells := 0, slots := 0, locals := 23 }) (va_Pc [.ref z0, .int (nI M), .int (nI k)] (ct_ro (dC, dI) ct_cl [(z0, .inr (1, [.ref z1])), (z1, .inl (cI, 8, .inl (fun j => nI (sz j))))] [(cI, .int)])) (ct_qi (fun r => r = nI (ct_sr sz M k))) 0 0 (fun _ => False) := by
  refine Met.ofW (cc := b_S_stride) (maxL := 4) (ret := (some .int)) (by decide) rfl ?_
  intro p e s m args below meth c s₁ Bd hml hv
  obtain ⟨hargs, hP, hK⟩ := hv
  have hx := Bd.exec
  have hb := Bd.bytes
  have hr := Bd.returns
  have hts : ∀ w ∈ k_S_stride :: ct_tb, w.before args s = true := atoms_spec (ws := w_S_stride) Bd.pre
  have hown : s.vm.findClass R_S = some m.cls := findClass_of_methodNamed Bd.named
  have hlocks := Bd.notSynchronized
  have hS : va_S (fun _ => False) s.heap s.heap [] := va_S.rf
  have hl := lv_entry ([.ref z0, .int (nI M), .int (nI k)]) (n := 4) (Nat.le_of_ble_eq_true rfl)
  rw [show entryFrame m args 4 = entryFrame m (([.ref z0, .int (nI M), .int (nI k)] : List Value)).toArray 4 by rw [hargs], lg_entry_eq]
  generalize (lg_sl ([.ref z0, .int (nI M), .int (nI k)]) ++ List.replicate (4 - (lg_sl ([.ref z0, .int (nI M), .int (nI k)])).length) Slot.unset).toArray = ls at hl ⊢
  have hl : lv_has ls 4 [(0, .ref z0), (1, .int (nI M)), (2, .int (nI k))] := hl
  refine lv_iload_n hx hb d_S_stride_0 rfl (lv_at hl 1 rfl) ?_
  refine lv_iload_n hx hb d_S_stride_1 rfl (lv_at hl 2 rfl) ?_
  refine lv_ishr hx hb d_S_stride_2 ?_
  refine lv_iconst (v := (nI 1)) hx hb d_S_stride_3 (by decide) ?_
  by_cases hbt : M.testBit k = true
  · refine lv_iand hx hb d_S_stride_4 ?_
    refine ct_val (y := nI 1) (by rw [ct_bit (by omega) (by omega), if_pos hbt]) ?_
    refine lv_if_ne (tgt := 10) hx hb d_S_stride_5 (by decide) (fun _ => ?_) (fun hc9 => absurd hc9 (nI_ne0 (by omega) (by omega)))
    refine lv_iload_n hx hb d_S_stride_10 rfl (lv_at hl 1 rfl) ?_
    refine lv_iconst (v := (nI 2)) hx hb d_S_stride_11 (by decide) ?_
    refine lv_iload_n hx hb d_S_stride_12 rfl (lv_at hl 2 rfl) ?_
    refine lv_ishl hx hb d_S_stride_13 ?_
    refine lv_ineg hx hb d_S_stride_14 ?_
    refine lv_iand hx hb d_S_stride_15 ?_
    refine ct_val (y := nI (M / 2 ^ (k + 1) * 2 ^ (k + 1))) (ct_above M hM k hk) ?_
    refine lv_istore_n (lv' := [(3, .int (nI (M / 2 ^ (k + 1) * 2 ^ (k + 1)))), (0, .ref z0), (1, .int (nI M)), (2, .int (nI k))]) hx hb d_S_stride_16 rfl hl (by decide) rfl (fun ls hl => ?_)
    refine lv_aload_n hx hb d_S_stride_17 rfl (lv_at hl 1 rfl) ?_
    refine lv_iload_n hx hb d_S_stride_18 rfl (lv_at hl 0 rfl) ?_
    have hle : M / 2 ^ (k + 1) * 2 ^ (k + 1) ≤ M := Nat.div_mul_le_self _ _
    refine va_calli (va_runV (As := [.int (nI (M / 2 ^ (k + 1) * 2 ^ (k + 1)))]) (rest := []) ⟨hx, hb, hml, hown, hts⟩ (c_S_choices l dC dI cI z0 z1 sz (M / 2 ^ (k + 1) * 2 ^ (k + 1)) (by omega)) (cwV 1 hts (ct_giV (fun w h9 => ct_tl h9) kw_466 kw_195 kw_196 kw_27 kw_197) rfl rfl rfl (by decide +kernel) ⟨Nat.le_of_ble_eq_true rfl, Nat.le_of_ble_eq_true rfl⟩) ⟨ct_ro_blind, va_recv hK hP (ci := 1) (q0 := 0) rfl rfl, ct_ro_pre (hP.sub [0, 1] rfl) hK⟩ rfl rfl hl.1 rfl (lv_room (Nat.le_of_ble_eq_true rfl)) d_S_stride_19 ⟨Nat.le_of_ble_eq_true rfl, Nat.le_of_ble_eq_true rfl⟩) hS (fun q _ h9 => h9.elim) (fun q h9 => h9.elim) (fun ans101 uS tS H locs ht hvm hwans101 hB hz1 hk1 hS => ?_)
    have hP := ct_keep hP hk1
    refine ct_val (y := nI (ct_pr sz ((M / 2 ^ (k + 1) * 2 ^ (k + 1))).testBit 8)) (hwans101) ?_
    exact W.iret (v := (nI (ct_pr sz ((M / 2 ^ (k + 1) * 2 ^ (k + 1))).testBit 8))) hx hb hr (fun tS ht hW => ⟨⟨(nI (ct_pr sz ((M / 2 ^ (k + 1) * 2 ^ (k + 1))).testBit 8)), (), rfl, by rw [ct_above_pr, ct_sr, if_pos hbt], trivial⟩, hS.F ht⟩) hS.2.2 d_S_stride_22
  · refine lv_iand hx hb d_S_stride_4 ?_
    refine ct_val (y := nI 0) (by rw [ct_bit (by omega) (by omega), if_neg hbt]) ?_
    refine lv_if_ne (tgt := 10) hx hb d_S_stride_5 (by decide) (fun hc9 => absurd (nI_0) hc9) (fun _ => ?_)
    refine lv_iconst (v := (nI 0)) hx hb d_S_stride_8 (by decide) ?_
    exact W.iret (v := (nI 0)) hx hb hr (fun tS ht hW => ⟨⟨(nI 0), (), rfl, by rw [ct_sr, if_neg hbt], trivial⟩, hS.F ht⟩) hS.2.2 d_S_stride_9
theorem ct_upd_st (sz : Nat → Nat) (k v : Nat) : upd (fun j => nI (sz j)) k (nI v) = fun j => nI (ct_st sz k v j) := by
  funext j
  show (if j = k then nI v else nI (sz j)) = nI (if j = k then v else sz j)
  by_cases h : j = k
  · rw [if_pos h, if_pos h]
  · rw [if_neg h, if_neg h]
set_option maxHeartbeats 4000000 in
set_option maxRecDepth 100000 in
theorem c_S_change (l : Launch) (dC : Nat → ClassId) (dI : Nat → Nat → Nat) (cI : ClassId) (z0 z1 : Nat) (sz : Nat → Nat) (k v : Nat) (hk : k < 8) (sz0 : Nat) : Met l y_S_change w_S_change ({ frames := 0, cells := 0, slots := 0, locals := 0 }) (va_Pc [.ref z0, .int (nI k), .int (nI v)] (ct_rw (dC, dI) ct_cl [(z0, .inr (1, [.ref z1])), (z1, .inl (cI, 8, .inl (fun j => nI (sz j))))] [(cI, .int)] sz0)) (va_Qv (fun (u : Unit) => True) (fun (u : Unit) t => ct_at (dC, dI) ct_cl [(cI, .int)] (va_A [(z0, .inr (1, [.ref z1])), (z1, .inl (cI, 8, .inl (fun j => nI (sz j))))] sz0) [(z0, .inr (1, [.ref z1])), (z1, .inl (cI, 8, .inl (fun j => nI (ct_st sz k v j))))] t) (va_A [(z0, .inr (1, [.ref z1])), (z1, .inl (cI, 8, .inl (fun j => nI (sz j))))] sz0)) 0 0 (va_A [(z0, .inr (1, [.ref z1])), (z1, .inl (cI, 8, .inl (fun j => nI (sz j))))] sz0) := by
  refine Met.ofW (cc := b_S_change) (maxL := 3) (ret := none) (by decide) rfl ?_
  intro p e s m args below meth c s₁ Bd hml hv
  obtain ⟨hargs, hsz, hP, hK, hD0⟩ := hv
  have hx := Bd.exec
  have hb := Bd.bytes
  have hr := Bd.returns
  have hts : ∀ w ∈ k_S_change :: ct_tb, w.before args s = true := atoms_spec (ws := w_S_change) Bd.pre
  have hown : s.vm.findClass R_S = some m.cls := findClass_of_methodNamed Bd.named
  have hlocks := Bd.notSynchronized
  subst hsz
  have hD := hD0.self (sz := s.heap.size)
  generalize hAe : va_A [(z0, .inr (1, [.ref z1])), (z1, .inl (cI, 8, .inl (fun j => nI (sz j))))] s.heap.size = A at hD ⊢
  have hA : ∀ q : Nat, s.heap.size ≤ q → A q := fun q h => by rw [← hAe]; exact Or.inr h
  have hS : va_S A s.heap s.heap [] := va_S.rf
  have hl := lv_entry ([.ref z0, .int (nI k), .int (nI v)]) (n := 3) (Nat.le_of_ble_eq_true rfl)
  rw [show entryFrame m args 3 = entryFrame m (([.ref z0, .int (nI k), .int (nI v)] : List Value)).toArray 3 by rw [hargs], lg_entry_eq]
  generalize (lg_sl ([.ref z0, .int (nI k), .int (nI v)]) ++ List.replicate (3 - (lg_sl ([.ref z0, .int (nI k), .int (nI v)])).length) Slot.unset).toArray = ls at hl ⊢
  have hl : lv_has ls 3 [(0, .ref z0), (1, .int (nI k)), (2, .int (nI v))] := hl
  refine lv_aload_n hx hb d_S_change_0 rfl (lv_at hl 0 rfl) ?_
  refine va_get (D := (dC, dI)) (ci := 1) (v := .ref z1) (C := R_S) (T := T_S) (N := 1) hx hb hts (fun w h9 => ct_tl (ki_S w h9)) hown hK hP 0 rfl rfl 0 (by decide) (hts _ (ct_tl kw_56)) (fun _ h9 => h9) rfl d_S_change_1 ?_
  refine lv_iload_n hx hb d_S_change_4 rfl (lv_at hl 1 rfl) ?_
  refine lv_iload_n hx hb d_S_change_5 rfl (lv_at hl 2 rfl) ?_
  refine ct_iast hx hb hK hP hD hS 1 0 rfl rfl (j := k) (by omega) (by omega) d_S_change_6 (fun H locs hP hD hS => ?_)
  have hP : va_P (dC, dI) ct_cl [(z0, .inr (1, [.ref z1])), (z1, .inl (cI, 8, .inl (upd (fun j => nI (sz j)) k (nI v))))] H := hP
  have hD : va_D A [(z0, .inr (1, [.ref z1])), (z1, .inl (cI, 8, .inl (upd (fun j => nI (sz j)) k (nI v))))] := hD
  rw [show (upd (fun j => nI (sz j)) k (nI v)) = (fun j => nI (ct_st sz k v j)) from ct_upd_st sz k v] at hP hD
  have hP9 := hP.sub [0, 1] rfl
  exact W.vret hx hb hr (fun tS ht hW => ⟨⟨(), rfl, trivial, by rw [ht]; exact hP9, va_K.moved hW.alike hK, hD.sub [0, 1] (by decide) rfl⟩, hS.F ht⟩) hS.2.2 d_S_change_7
