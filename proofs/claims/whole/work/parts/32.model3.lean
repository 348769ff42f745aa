set_option maxHeartbeats 4000000 in
set_option maxRecDepth 100000 in
theorem c_M_operand (l : Launch) (dC : Nat → ClassId) (dI : Nat → Nat → Nat) (cI : ClassId) (o0 o1 o2 o3 o4 o5 o6 o7 o8 o9 : Nat) (thr : Int32) (T K : Nat) (res stp : Int32) (fo : Nat → Int32) (hT8 : T ≤ 8) (hK6 : K ≤ 6) (x : Int32) (sz0 : Nat) : Met l y_M_operand w_M_operand ({ frames := 2, cells := 0, slots := 0, locals := 43 }) (va_Pc [.ref o0, .int x] (ct_rw (dC, dI) ct_cl [(o0, .inr (4, [.int thr, .ref o1, .int (nI T), .ref o2, .ref o3, .int (nI K), .ref o4, .int res, .ref o5, .ref o6, .int stp, .ref o7, .ref o8, .ref o9])), (o4, .inl (cI, 6, .inl fo))] [(cI, .int)] sz0)) (va_Qi (fun (r : Int32) (u : Nat × Nat × (Nat → Int32)) => (ct_isn T x = false ∧ u = (1, K, fo)) ∨ (ct_isn T x = true ∧ K = 6 ∧ u = (2, K, fo)) ∨ (ct_isn T x = true ∧ K < 6 ∧ r = nI K ∧ ∃ j : Nat, j < T ∧ x = nI j ∧ u = (0, K + 1, upd fo K (nI j)))) (fun (u : Nat × Nat × (Nat → Int32)) t => ct_at (dC, dI) ct_cl [(cI, .int)] (va_A [(o0, .inr (4, [.int thr, .ref o1, .int (nI T), .ref o2, .ref o3, .int (nI K), .ref o4, .int res, .ref o5, .ref o6, .int stp, .ref o7, .ref o8, .ref o9])), (o4, .inl (cI, 6, .inl fo))] sz0) [(o0, .inr (4, [.int (nI (u.1)), .ref o1, .int (nI T), .ref o2, .ref o3, .int (nI (u.2.1)), .ref o4, .int res, .ref o5, .ref o6, .int stp, .ref o7, .ref o8, .ref o9])), (o4, .inl (cI, 6, .inl (u.2.2)))] t) (va_A [(o0, .inr (4, [.int thr, .ref o1, .int (nI T), .ref o2, .ref o3, .int (nI K), .ref o4, .int res, .ref o5, .ref o6, .int stp, .ref o7, .ref o8, .ref o9])), (o4, .inl (cI, 6, .inl fo))] sz0)) 0 0 (va_A [(o0, .inr (4, [.int thr, .ref o1, .int (nI T), .ref o2, .ref o3, .int (nI K), .ref o4, .int res, .ref o5, .ref o6, .int stp, .ref o7, .ref o8, .ref o9])), (o4, .inl (cI, 6, .inl fo))] sz0) := by
  refine Met.ofW (cc := b_M_operand) (maxL := 2) (ret := (some .int)) (by decide) rfl ?_
  intro p e s m args below meth c s₁ Bd hml hv
  obtain ⟨hargs, hsz, hP, hK, hD0⟩ := hv
  have hx := Bd.exec
  have hb := Bd.bytes
  have hr := Bd.returns
  have hts : ∀ w ∈ k_M_operand :: ct_tb, w.before args s = true := atoms_spec (ws := w_M_operand) Bd.pre
  have hown : s.vm.findClass R_M = some m.cls := findClass_of_methodNamed Bd.named
  have hlocks := Bd.notSynchronized
  subst hsz
  have hD := hD0.self (sz := s.heap.size)
  generalize hAe : va_A [(o0, .inr (4, [.int thr, .ref o1, .int (nI T), .ref o2, .ref o3, .int (nI K), .ref o4, .int res, .ref o5, .ref o6, .int stp, .ref o7, .ref o8, .ref o9])), (o4, .inl (cI, 6, .inl fo))] s.heap.size = A at hD ⊢
  have hA : ∀ q : Nat, s.heap.size ≤ q → A q := fun q h => by rw [← hAe]; exact Or.inr h
  have hS : va_S A s.heap s.heap [] := va_S.rf
  have hl := lv_entry ([.ref o0, .int x]) (n := 2) (Nat.le_of_ble_eq_true rfl)
  rw [show entryFrame m args 2 = entryFrame m (([.ref o0, .int x] : List Value)).toArray 2 by rw [hargs], lg_entry_eq]
  generalize (lg_sl ([.ref o0, .int x]) ++ List.replicate (2 - (lg_sl ([.ref o0, .int x])).length) Slot.unset).toArray = ls at hl ⊢
  have hl : lv_has ls 2 [(0, .ref o0), (1, .int x)] := hl
  refine lv_aload_n hx hb d_M_operand_0 rfl (lv_at hl 0 rfl) ?_
  refine lv_aload_n hx hb d_M_operand_1 rfl (lv_at hl 0 rfl) ?_
  refine lv_iload_n hx hb d_M_operand_2 rfl (lv_at hl 1 rfl) ?_
  refine va_calli (va_runV (As := [.int x]) (rest := [.ref o0]) ⟨hx, hb, hml, hown, hts⟩ (c_M_isTable l dC dI cI o0 o1 o2 o3 o4 o5 o6 o7 o8 o9 thr T (nI K) res stp (by omega) x) (cwV 1 hts (ct_giV (fun w h9 => ct_tl h9) kw_588 kw_590 kw_16 kw_30 kw_591) rfl rfl rfl (by decide +kernel) ⟨Nat.le_of_ble_eq_true rfl, Nat.le_of_ble_eq_true rfl⟩) ⟨ct_ro_blind, va_recv hK hP (ci := 4) (q0 := 0) rfl rfl, ct_ro_pre (hP.sub [0] rfl) hK⟩ rfl rfl hl.1 rfl (lv_room (Nat.le_of_ble_eq_true rfl)) d_M_operand_3 ⟨Nat.le_of_ble_eq_true rfl, Nat.le_of_ble_eq_true rfl⟩) hS (fun q _ h9 => h9.elim) (fun q h9 => h9.elim) (fun ans1 uS tS H locs ht hvm hwans1 hB hz1 hk1 hS => ?_)
  have hP := ct_keep hP hk1
  refine ct_val (y := nI (if ct_isn T x = true then 1 else 0)) (hwans1) ?_
  by_cases hq : ct_isn T x = true
  · rw [if_pos hq]
    refine lv_if_ne (tgt := 13) hx hb d_M_operand_6 (by decide) (fun _ => ?_) (fun hc9 => absurd hc9 (nI_ne0 (by omega) (by omega)))
    refine lv_iconst (v := (nI 0)) hx hb d_M_operand_13 (by decide) ?_
    refine lv_aload_n hx hb d_M_operand_14 rfl (lv_at hl 0 rfl) ?_
    refine lv_iload_n hx hb d_M_operand_15 rfl (lv_at hl 1 rfl) ?_
    refine va_calli (va_runV (As := [.int x]) (rest := [.int (nI 0), .ref o0]) ⟨hx, hb, hml, hown, hts⟩ (c_M_isTable l dC dI cI o0 o1 o2 o3 o4 o5 o6 o7 o8 o9 thr T (nI K) res stp (by omega) x) (cwV 1 hts (ct_giV (fun w h9 => ct_tl h9) kw_588 kw_590 kw_16 kw_30 kw_591) rfl rfl rfl (by decide +kernel) ⟨Nat.le_of_ble_eq_true rfl, Nat.le_of_ble_eq_true rfl⟩) ⟨ct_ro_blind, va_recv hK hP (ci := 4) (q0 := 0) rfl rfl, ct_ro_pre (hP.sub [0] rfl) hK⟩ rfl rfl hl.1 rfl (lv_room (Nat.le_of_ble_eq_true rfl)) d_M_operand_16 ⟨Nat.le_of_ble_eq_true rfl, Nat.le_of_ble_eq_true rfl⟩) hS (fun q _ h9 => h9.elim) (fun q h9 => h9.elim) (fun ans102 uS tS H locs ht hvm hwans102 hB hz1 hk1 hS => ?_)
    have hP := ct_keep hP hk1
    refine ct_val (y := nI (if ct_isn T x = true then 1 else 0)) (hwans102) ?_
    rw [if_pos hq]
    refine lv_if_eq (tgt := 35) hx hb d_M_operand_19 (by decide) (fun hc9 => absurd hc9 (nI_ne0 (by omega) (by omega))) (fun _ => ?_)
    refine lv_aload_n hx hb d_M_operand_22 rfl (lv_at hl 0 rfl) ?_
    refine va_get (D := (dC, dI)) (ci := 4) (v := .int (nI K)) (C := R_M) (T := T_M) (N := 14) hx hb hts (fun w h9 => ct_tl (ki_M w h9)) hown hK hP 0 rfl rfl 5 (by decide) (hts _ (ct_tl kw_524)) (fun _ h9 => h9) rfl d_M_operand_23 ?_
    refine lv_bipush (v := (nI 6)) hx hb d_M_operand_26 (by decide) ?_
    by_cases h6 : K = 6
    · refine lv_icmp_ne (tgt := 35) hx hb d_M_operand_28 (by decide) (fun hc9 => absurd (by rw [h6]) hc9) (fun _ => ?_)
      refine lv_iconst (v := (nI 1)) hx hb d_M_operand_31 (by decide) ?_
      refine lv_goto (tgt := 36) hx hb d_M_operand_32 (by decide) ?_
      have hPc := hP.sub (ws' := [(o0, .inr (4, [.int thr, .ref o1, .int (nI T), .ref o2, .ref o3, .int (nI K), .ref o4, .int res, .ref o5, .ref o6, .int stp, .ref o7, .ref o8, .ref o9]))]) [0] rfl
      have hDc := hD.sub (ws' := [(o0, .inr (4, [.int thr, .ref o1, .int (nI T), .ref o2, .ref o3, .int (nI K), .ref o4, .int res, .ref o5, .ref o6, .int stp, .ref o7, .ref o8, .ref o9]))]) [0] (by decide) rfl
      have hFc := va_free (wc := [(o0, .inr (4, [.int thr, .ref o1, .int (nI T), .ref o2, .ref o3, .int (nI K), .ref o4, .int res, .ref o5, .ref o6, .int stp, .ref o7, .ref o8, .ref o9]))]) hD hS hA [0] rfl
      refine va_calli (va_runV (As := [.int (nI 0), .int (nI 1)]) (rest := []) ⟨hx, hb, hml, hown, hts⟩ (c_M_refuse l dC dI cI o0 o1 o2 o3 o4 o5 o6 o7 o8 o9 thr (nI T) (nI K) res stp 0 1 (by omega) (by omega) H.size) (cwV 2 hts (ct_giV (fun w h9 => ct_tl h9) kw_573 kw_575 kw_15 kw_30 kw_576) rfl rfl rfl (by decide +kernel) ⟨Nat.le_of_ble_eq_true rfl, Nat.le_of_ble_eq_true rfl⟩) ⟨ct_rw_blind, va_recv hK hP (ci := 4) (q0 := 0) rfl rfl, ct_rw_pre hPc hK hDc⟩ rfl rfl hl.1 rfl (lv_room (Nat.le_of_ble_eq_true rfl)) d_M_operand_36 ⟨Nat.zero_le _, Nat.zero_le _⟩) hS (fun q _ h9 => hFc q h9) hFc (fun ans204 u tS H1 locs ht hvm hw203 hB hz1 hk1 hS => ?_)
      obtain ⟨hP1, -, hD1⟩ := hB
      rw [ht] at hP1
      obtain ⟨hP, hD⟩ := va_join (wr := [(o4, .inl (cI, 6, .inl fo))]) (w1 := [(o0, .inr (4, [.int (nI 2), .ref o1, .int (nI T), .ref o2, .ref o3, .int (nI K), .ref o4, .int res, .ref o5, .ref o6, .int stp, .ref o7, .ref o8, .ref o9]))]) hP hD [0] [1] rfl rfl (by decide) (by decide) hk1 hFc hP1 hD1
      generalize H1 = H at hP hS ⊢
      have hP : va_P (dC, dI) ct_cl [(o4, .inl (cI, 6, .inl fo)), (o0, .inr (4, [.int (nI 2), .ref o1, .int (nI T), .ref o2, .ref o3, .int (nI K), .ref o4, .int res, .ref o5, .ref o6, .int stp, .ref o7, .ref o8, .ref o9]))] H := hP
      have hD : va_D A [(o4, .inl (cI, 6, .inl fo)), (o0, .inr (4, [.int (nI 2), .ref o1, .int (nI T), .ref o2, .ref o3, .int (nI K), .ref o4, .int res, .ref o5, .ref o6, .int stp, .ref o7, .ref o8, .ref o9]))] := hD
      refine ct_val (y := nI 1) hw203 ?_
      refine lv_if_eq (tgt := 44) hx hb d_M_operand_39 (by decide) (fun hc9 => absurd hc9 (nI_ne0 (by omega) (by omega))) (fun _ => ?_)
      refine lv_iconst (v := (nI 0)) hx hb d_M_operand_42 (by decide) ?_
      have hP9 := hP.sub [1, 0] rfl
      exact W.iret (v := (nI 0)) hx hb hr (fun tS ht hW => ⟨⟨(nI 0), (2, K, fo), rfl, Or.inr (Or.inl ⟨hq, h6, rfl⟩), by rw [ht]; exact hP9, va_K.moved hW.alike hK, hD.sub [1, 0] (by decide) rfl⟩, hS.F ht⟩) hS.2.2 d_M_operand_43
    · refine lv_icmp_ne (tgt := 35) hx hb d_M_operand_28 (by decide) (fun _ => ?_) (fun hc9 => absurd hc9 (fun z => h6 ((nI_eq (by omega) (by omega)).mp z)))
      refine lv_iconst (v := (nI 0)) hx hb d_M_operand_35 (by decide) ?_
      have hPc := hP.sub (ws' := [(o0, .inr (4, [.int thr, .ref o1, .int (nI T), .ref o2, .ref o3, .int (nI K), .ref o4, .int res, .ref o5, .ref o6, .int stp, .ref o7, .ref o8, .ref o9]))]) [0] rfl
      have hDc := hD.sub (ws' := [(o0, .inr (4, [.int thr, .ref o1, .int (nI T), .ref o2, .ref o3, .int (nI K), .ref o4, .int res, .ref o5, .ref o6, .int stp, .ref o7, .ref o8, .ref o9]))]) [0] (by decide) rfl
      have hFc := va_free (wc := [(o0, .inr (4, [.int thr, .ref o1, .int (nI T), .ref o2, .ref o3, .int (nI K), .ref o4, .int res, .ref o5, .ref o6, .int stp, .ref o7, .ref o8, .ref o9]))]) hD hS hA [0] rfl
      refine va_calli (va_runV (As := [.int (nI 0), .int (nI 0)]) (rest := []) ⟨hx, hb, hml, hown, hts⟩ (c_M_refuse l dC dI cI o0 o1 o2 o3 o4 o5 o6 o7 o8 o9 thr (nI T) (nI K) res stp 0 0 (by omega) (by omega) H.size) (cwV 2 hts (ct_giV (fun w h9 => ct_tl h9) kw_573 kw_575 kw_15 kw_30 kw_576) rfl rfl rfl (by decide +kernel) ⟨Nat.le_of_ble_eq_true rfl, Nat.le_of_ble_eq_true rfl⟩) ⟨ct_rw_blind, va_recv hK hP (ci := 4) (q0 := 0) rfl rfl, ct_rw_pre hPc hK hDc⟩ rfl rfl hl.1 rfl (lv_room (Nat.le_of_ble_eq_true rfl)) d_M_operand_36 ⟨Nat.zero_le _, Nat.zero_le _⟩) hS (fun q _ h9 => hFc q h9) hFc (fun ans204 u tS H1 locs ht hvm hw203 hB hz1 hk1 hS => ?_)
      obtain ⟨hP1, -, hD1⟩ := hB
      rw [ht] at hP1
      obtain ⟨hP, hD⟩ := va_join (wr := [(o4, .inl (cI, 6, .inl fo))]) (w1 := [(o0, .inr (4, [.int (nI 0), .ref o1, .int (nI T), .ref o2, .ref o3, .int (nI K), .ref o4, .int res, .ref o5, .ref o6, .int stp, .ref o7, .ref o8, .ref o9]))]) hP hD [0] [1] rfl rfl (by decide) (by decide) hk1 hFc hP1 hD1
      generalize H1 = H at hP hS ⊢
      have hP : va_P (dC, dI) ct_cl [(o4, .inl (cI, 6, .inl fo)), (o0, .inr (4, [.int (nI 0), .ref o1, .int (nI T), .ref o2, .ref o3, .int (nI K), .ref o4, .int res, .ref o5, .ref o6, .int stp, .ref o7, .ref o8, .ref o9]))] H := hP
      have hD : va_D A [(o4, .inl (cI, 6, .inl fo)), (o0, .inr (4, [.int (nI 0), .ref o1, .int (nI T), .ref o2, .ref o3, .int (nI K), .ref o4, .int res, .ref o5, .ref o6, .int stp, .ref o7, .ref o8, .ref o9]))] := hD
      refine ct_val (y := nI 0) hw203 ?_
      refine lv_if_eq (tgt := 44) hx hb d_M_operand_39 (by decide) (fun _ => ?_) (fun hc9 => absurd (nI_0) hc9)
      obtain ⟨j, hj, hxj⟩ := ct_isn_of (by omega) hq
      rw [hxj] at hl
      refine lv_aload_n hx hb d_M_operand_44 rfl (lv_at hl 0 rfl) ?_
      refine va_get (D := (dC, dI)) (ci := 4) (v := .ref o4) (C := R_M) (T := T_M) (N := 14) hx hb hts (fun w h9 => ct_tl (ki_M w h9)) hown hK hP 1 rfl rfl 6 (by decide) (hts _ (ct_tl kw_525)) (fun _ h9 => h9) rfl d_M_operand_45 ?_
      refine lv_aload_n hx hb d_M_operand_48 rfl (lv_at hl 0 rfl) ?_
      refine va_get (D := (dC, dI)) (ci := 4) (v := .int (nI K)) (C := R_M) (T := T_M) (N := 14) hx hb hts (fun w h9 => ct_tl (ki_M w h9)) hown hK hP 1 rfl rfl 5 (by decide) (hts _ (ct_tl kw_524)) (fun _ h9 => h9) rfl d_M_operand_49 ?_
      refine lv_iload_n hx hb d_M_operand_52 rfl (lv_at hl 1 rfl) ?_
      refine ct_iast hx hb hK hP hD hS 0 0 rfl rfl (j := K) (by omega) (by omega) d_M_operand_53 (fun H locs hP hD hS => ?_)
      have hP : va_P (dC, dI) ct_cl [(o4, .inl (cI, 6, .inl (upd fo K (nI j)))), (o0, .inr (4, [.int (nI 0), .ref o1, .int (nI T), .ref o2, .ref o3, .int (nI K), .ref o4, .int res, .ref o5, .ref o6, .int stp, .ref o7, .ref o8, .ref o9]))] H := hP
      have hD : va_D A [(o4, .inl (cI, 6, .inl (upd fo K (nI j)))), (o0, .inr (4, [.int (nI 0), .ref o1, .int (nI T), .ref o2, .ref o3, .int (nI K), .ref o4, .int res, .ref o5, .ref o6, .int stp, .ref o7, .ref o8, .ref o9]))] := hD
      refine lv_aload_n hx hb d_M_operand_54 rfl (lv_at hl 0 rfl) ?_
      refine lv_dup hx hb d_M_operand_55 rfl ?_
      refine va_get (D := (dC, dI)) (ci := 4) (v := .int (nI K)) (C := R_M) (T := T_M) (N := 14) hx hb hts (fun w h9 => ct_tl (ki_M w h9)) hown hK hP 1 rfl rfl 5 (by decide) (hts _ (ct_tl kw_524)) (fun _ h9 => h9) rfl d_M_operand_56 ?_
      refine lv_iconst (v := (nI 1)) hx hb d_M_operand_59 (by decide) ?_
      refine lv_iadd hx hb d_M_operand_60 ?_
      refine ct_val (y := nI (K + 1)) (nI_1 _) ?_
      refine va_put (D := (dC, dI)) (ci := 4) (v := .int (nI (K + 1))) (ty := .int) (C := R_M) (T := T_M) (N := 14) hx hb hts (fun w h9 => ct_tl (ki_M w h9)) ty_M ok_M nm_M hown hK hP hD hS 1 rfl rfl 5 (by decide) (hts _ (ct_tl kw_524)) (fun _ h9 => h9) rfl (by decide +kernel) rfl rfl (Nat.le_of_ble_eq_true rfl) d_M_operand_61 (fun H locs hP hD hS => ?_)
      have hP : va_P (dC, dI) ct_cl [(o4, .inl (cI, 6, .inl (upd fo K (nI j)))), (o0, .inr (4, [.int (nI 0), .ref o1, .int (nI T), .ref o2, .ref o3, .int (nI (K + 1)), .ref o4, .int res, .ref o5, .ref o6, .int stp, .ref o7, .ref o8, .ref o9]))] H := hP
      have hD : va_D A [(o4, .inl (cI, 6, .inl (upd fo K (nI j)))), (o0, .inr (4, [.int (nI 0), .ref o1, .int (nI T), .ref o2, .ref o3, .int (nI (K + 1)), .ref o4, .int res, .ref o5, .ref o6, .int stp, .ref o7, .ref o8, .ref o9]))] := hD
      refine lv_aload_n hx hb d_M_operand_64 rfl (lv_at hl 0 rfl) ?_
      refine va_get (D := (dC, dI)) (ci := 4) (v := .int (nI (K + 1))) (C := R_M) (T := T_M) (N := 14) hx hb hts (fun w h9 => ct_tl (ki_M w h9)) hown hK hP 1 rfl rfl 5 (by decide) (hts _ (ct_tl kw_524)) (fun _ h9 => h9) rfl d_M_operand_65 ?_
      refine lv_iconst (v := (nI 1)) hx hb d_M_operand_68 (by decide) ?_
      refine lv_isub hx hb d_M_operand_69 ?_
      refine ct_val (y := nI K) (nI_pred K) ?_
      have hP9 := hP.sub [1, 0] rfl
      exact W.iret (v := (nI K)) hx hb hr (fun tS ht hW => ⟨⟨(nI K), (0, K + 1, upd fo K (nI j)), rfl, Or.inr (Or.inr ⟨hq, by omega, rfl, j, hj, hxj, rfl⟩), by rw [ht]; exact hP9, va_K.moved hW.alike hK, hD.sub [1, 0] (by decide) rfl⟩, hS.F ht⟩) hS.2.2 d_M_operand_70
  · rw [if_neg hq]
    refine lv_if_ne (tgt := 13) hx hb d_M_operand_6 (by decide) (fun hc9 => absurd (nI_0) hc9) (fun _ => ?_)
    refine lv_iconst (v := (nI 1)) hx hb d_M_operand_9 (by decide) ?_
    refine lv_goto (tgt := 14) hx hb d_M_operand_10 (by decide) ?_
    refine lv_aload_n hx hb d_M_operand_14 rfl (lv_at hl 0 rfl) ?_
    refine lv_iload_n hx hb d_M_operand_15 rfl (lv_at hl 1 rfl) ?_
    refine va_calli (va_runV (As := [.int x]) (rest := [.int (nI 1), .ref o0]) ⟨hx, hb, hml, hown, hts⟩ (c_M_isTable l dC dI cI o0 o1 o2 o3 o4 o5 o6 o7 o8 o9 thr T (nI K) res stp (by omega) x) (cwV 1 hts (ct_giV (fun w h9 => ct_tl h9) kw_588 kw_590 kw_16 kw_30 kw_591) rfl rfl rfl (by decide +kernel) ⟨Nat.le_of_ble_eq_true rfl, Nat.le_of_ble_eq_true rfl⟩) ⟨ct_ro_blind, va_recv hK hP (ci := 4) (q0 := 0) rfl rfl, ct_ro_pre (hP.sub [0] rfl) hK⟩ rfl rfl hl.1 rfl (lv_room (Nat.le_of_ble_eq_true rfl)) d_M_operand_16 ⟨Nat.le_of_ble_eq_true rfl, Nat.le_of_ble_eq_true rfl⟩) hS (fun q _ h9 => h9.elim) (fun q h9 => h9.elim) (fun ans102 uS tS H locs ht hvm hwans102 hB hz1 hk1 hS => ?_)
    have hP := ct_keep hP hk1
    refine ct_val (y := nI (if ct_isn T x = true then 1 else 0)) (hwans102) ?_
    rw [if_neg hq]
    refine lv_if_eq (tgt := 35) hx hb d_M_operand_19 (by decide) (fun _ => ?_) (fun hc9 => absurd (nI_0) hc9)
    refine lv_iconst (v := (nI 0)) hx hb d_M_operand_35 (by decide) ?_
    have hPc := hP.sub (ws' := [(o0, .inr (4, [.int thr, .ref o1, .int (nI T), .ref o2, .ref o3, .int (nI K), .ref o4, .int res, .ref o5, .ref o6, .int stp, .ref o7, .ref o8, .ref o9]))]) [0] rfl
    have hDc := hD.sub (ws' := [(o0, .inr (4, [.int thr, .ref o1, .int (nI T), .ref o2, .ref o3, .int (nI K), .ref o4, .int res, .ref o5, .ref o6, .int stp, .ref o7, .ref o8, .ref o9]))]) [0] (by decide) rfl
    have hFc := va_free (wc := [(o0, .inr (4, [.int thr, .ref o1, .int (nI T), .ref o2, .ref o3, .int (nI K), .ref o4, .int res, .ref o5, .ref o6, .int stp, .ref o7, .ref o8, .ref o9]))]) hD hS hA [0] rfl
    refine va_calli (va_runV (As := [.int (nI 1), .int (nI 0)]) (rest := []) ⟨hx, hb, hml, hown, hts⟩ (c_M_refuse l dC dI cI o0 o1 o2 o3 o4 o5 o6 o7 o8 o9 thr (nI T) (nI K) res stp 1 0 (by omega) (by omega) H.size) (cwV 2 hts (ct_giV (fun w h9 => ct_tl h9) kw_573 kw_575 kw_15 kw_30 kw_576) rfl rfl rfl (by decide +kernel) ⟨Nat.le_of_ble_eq_true rfl, Nat.le_of_ble_eq_true rfl⟩) ⟨ct_rw_blind, va_recv hK hP (ci := 4) (q0 := 0) rfl rfl, ct_rw_pre hPc hK hDc⟩ rfl rfl hl.1 rfl (lv_room (Nat.le_of_ble_eq_true rfl)) d_M_operand_36 ⟨Nat.zero_le _, Nat.zero_le _⟩) hS (fun q _ h9 => hFc q h9) hFc (fun ans104 u tS H1 locs ht hvm hw103 hB hz1 hk1 hS => ?_)
    obtain ⟨hP1, -, hD1⟩ := hB
    rw [ht] at hP1
    obtain ⟨hP, hD⟩ := va_join (wr := [(o4, .inl (cI, 6, .inl fo))]) (w1 := [(o0, .inr (4, [.int (nI 1), .ref o1, .int (nI T), .ref o2, .ref o3, .int (nI K), .ref o4, .int res, .ref o5, .ref o6, .int stp, .ref o7, .ref o8, .ref o9]))]) hP hD [0] [1] rfl rfl (by decide) (by decide) hk1 hFc hP1 hD1
    generalize H1 = H at hP hS ⊢
    have hP : va_P (dC, dI) ct_cl [(o4, .inl (cI, 6, .inl fo)), (o0, .inr (4, [.int (nI 1), .ref o1, .int (nI T), .ref o2, .ref o3, .int (nI K), .ref o4, .int res, .ref o5, .ref o6, .int stp, .ref o7, .ref o8, .ref o9]))] H := hP
    have hD : va_D A [(o4, .inl (cI, 6, .inl fo)), (o0, .inr (4, [.int (nI 1), .ref o1, .int (nI T), .ref o2, .ref o3, .int (nI K), .ref o4, .int res, .ref o5, .ref o6, .int stp, .ref o7, .ref o8, .ref o9]))] := hD
    refine ct_val (y := nI 1) hw103 ?_
    refine lv_if_eq (tgt := 44) hx hb d_M_operand_39 (by decide) (fun hc9 => absurd hc9 (nI_ne0 (by omega) (by omega))) (fun _ => ?_)
    refine lv_iconst (v := (nI 0)) hx hb d_M_operand_42 (by decide) ?_
    have hP9 := hP.sub [1, 0] rfl
    exact W.iret (v := (nI 0)) hx hb hr (fun tS ht hW => ⟨⟨(nI 0), (1, K, fo), rfl, Or.inl ⟨by simpa using hq, rfl⟩, by rw [ht]; exact hP9, va_K.moved hW.alike hK, hD.sub [1, 0] (by decide) rfl⟩, hS.F ht⟩) hS.2.2 d_M_operand_43
set_option maxHeartbeats 4000000 in
set_option maxRecDepth 100000 in
theorem c_M_result (l : Launch) (dC : Nat → ClassId) (dI : Nat → Nat → Nat) (cI : ClassId) (o0 o1 o2 o3 o4 o5 o6 o7 o8 o9 : Nat) (thr tab ops : Int32) (R : Nat) (stp : Int32) (sz : Nat → Nat) (a b d : Int32) (sz0 : Nat) : Met l y_M_result w_M_result ({ frames := 1, cells := 0, slots := 0, locals := 24 }) (va_Pc [.ref o0, .int a, .int b, .int d] (ct_rw (dC, dI) ct_cl [(o0, .inr (4, [.int thr, .ref o1, .int tab, .ref o2, .ref o3, .int ops, .ref o4, .int (nI R), .ref o5, .ref o6, .int stp, .ref o7, .ref o8, .ref o9])), (o1, .inl (cI, 8, .inl (fun j => nI (sz j))))] [(cI, .int)] sz0)) (va_Qi (fun (r : Int32) (u : Nat × Nat) => (ct_al a b d = false ∧ u = (1, R)) ∨ (ct_al a b d = true ∧ u = (0, ct_lbs a b d) ∧ r = nI (ct_pr sz (ct_lbs a b d).testBit 8))) (fun (u : Nat × Nat) t => ct_at (dC, dI) ct_cl [(cI, .int)] (va_A [(o0, .inr (4, [.int thr, .ref o1, .int tab, .ref o2, .ref o3, .int ops, .ref o4, .int (nI R), .ref o5, .ref o6, .int stp, .ref o7, .ref o8, .ref o9])), (o1, .inl (cI, 8, .inl (fun j => nI (sz j))))] sz0) [(o0, .inr (4, [.int (nI (u.1)), .ref o1, .int tab, .ref o2, .ref o3, .int ops, .ref o4, .int (nI (u.2)), .ref o5, .ref o6, .int stp, .ref o7, .ref o8, .ref o9])), (o1, .inl (cI, 8, .inl (fun j => nI (sz j))))] t) (va_A [(o0, .inr (4, [.int thr, .ref o1, .int tab, .ref o2, .ref o3, .int ops, .ref o4, .int (nI R), .ref o5, .ref o6, .int stp, .ref o7, .ref o8, .ref o9])), (o1, .inl (cI, 8, .inl (fun j => nI (sz j))))] sz0)) 0 0 (va_A [(o0, .inr (4, [.int thr, .ref o1, .int tab, .ref o2, .ref o3, .int ops, .ref o4, .int (nI R), .ref o5, .ref o6, .int stp, .ref o7, .ref o8, .ref o9])), (o1, .inl (cI, 8, .inl (fun j => nI (sz j))))] sz0) := by
  refine Met.ofW (cc := b_M_result) (maxL := 5) (ret := (some .int)) (by decide) rfl ?_
  intro p e s m args below meth c s₁ Bd hml hv
  obtain ⟨hargs, hsz, hP, hK, hD0⟩ := hv
  have hx := Bd.exec
  have hb := Bd.bytes
  have hr := Bd.returns
  have hts : ∀ w ∈ k_M_result :: ct_tb, w.before args s = true := atoms_spec (ws := w_M_result) Bd.pre
  have hown : s.vm.findClass R_M = some m.cls := findClass_of_methodNamed Bd.named
  have hlocks := Bd.notSynchronized
  subst hsz
  have hD := hD0.self (sz := s.heap.size)
  generalize hAe : va_A [(o0, .inr (4, [.int thr, .ref o1, .int tab, .ref o2, .ref o3, .int ops, .ref o4, .int (nI R), .ref o5, .ref o6, .int stp, .ref o7, .ref o8, .ref o9])), (o1, .inl (cI, 8, .inl (fun j => nI (sz j))))] s.heap.size = A at hD ⊢
  have hA : ∀ q : Nat, s.heap.size ≤ q → A q := fun q h => by rw [← hAe]; exact Or.inr h
  have hS : va_S A s.heap s.heap [] := va_S.rf
  have hl := lv_entry ([.ref o0, .int a, .int b, .int d]) (n := 5) (Nat.le_of_ble_eq_true rfl)
  rw [show entryFrame m args 5 = entryFrame m (([.ref o0, .int a, .int b, .int d] : List Value)).toArray 5 by rw [hargs], lg_entry_eq]
  generalize (lg_sl ([.ref o0, .int a, .int b, .int d]) ++ List.replicate (5 - (lg_sl ([.ref o0, .int a, .int b, .int d])).length) Slot.unset).toArray = ls at hl ⊢
  have hl : lv_has ls 5 [(0, .ref o0), (1, .int a), (2, .int b), (3, .int d)] := hl
  refine lv_iload_n hx hb d_M_result_0 rfl (lv_at hl 1 rfl) ?_
  refine lv_iload_n hx hb d_M_result_1 rfl (lv_at hl 2 rfl) ?_
  refine lv_iload_n hx hb d_M_result_2 rfl (lv_at hl 3 rfl) ?_
  refine va_calli (va_runS (As := [.int a, .int b, .int d]) (rest := []) ⟨hx, hb, hml, hown, hts⟩ (c_M_bits l dC dI cI a b d) (va_cwS 3 hts (ct_giT (fun w h9 => ct_tl h9) kw_581 kw_582 kw_30 kw_583) rfl rfl rfl (by decide +kernel) ⟨Nat.le_of_ble_eq_true rfl, Nat.le_of_ble_eq_true rfl⟩) ⟨ct_ro_blind, ct_ro_pre (hP.sub [] rfl) hK⟩ rfl rfl hl.1 rfl (lv_room (Nat.le_of_ble_eq_true rfl)) d_M_result_3 ⟨Nat.le_of_ble_eq_true rfl, Nat.le_of_ble_eq_true rfl⟩) hS (fun q _ h9 => h9.elim) (fun q h9 => h9.elim) (fun ans1 uS tS H locs ht hvm hwans1 hB hz1 hk1 hS => ?_)
  have hP := ct_keep hP hk1
  refine ct_val (y := if ct_al a b d = true then nI (ct_lbs a b d) else -1) (hwans1) ?_
  by_cases hq : ct_al a b d = true
  · rw [if_pos hq]
    have hlt := ct_lbs_lt hq
    refine lv_istore (lv' := [(4, .int (nI (ct_lbs a b d))), (0, .ref o0), (1, .int a), (2, .int b), (3, .int d)]) hx hb d_M_result_6 hl (by decide) rfl (fun ls hl => ?_)
    refine lv_aload_n hx hb d_M_result_8 rfl (lv_at hl 1 rfl) ?_
    refine lv_iload hx hb d_M_result_9 (lv_at hl 0 rfl) ?_
    refine lv_if_ge (tgt := 18) hx hb d_M_result_11 (by decide) (fun _ => ?_) (fun hc9 => absurd (nI_pos' (by omega)) hc9)
    refine lv_iconst (v := (nI 0)) hx hb d_M_result_18 (by decide) ?_
    refine lv_iconst (v := (nI 0)) hx hb d_M_result_19 (by decide) ?_
    have hPc := hP.sub (ws' := [(o0, .inr (4, [.int thr, .ref o1, .int tab, .ref o2, .ref o3, .int ops, .ref o4, .int (nI R), .ref o5, .ref o6, .int stp, .ref o7, .ref o8, .ref o9]))]) [0] rfl
    have hDc := hD.sub (ws' := [(o0, .inr (4, [.int thr, .ref o1, .int tab, .ref o2, .ref o3, .int ops, .ref o4, .int (nI R), .ref o5, .ref o6, .int stp, .ref o7, .ref o8, .ref o9]))]) [0] (by decide) rfl
    have hFc := va_free (wc := [(o0, .inr (4, [.int thr, .ref o1, .int tab, .ref o2, .ref o3, .int ops, .ref o4, .int (nI R), .ref o5, .ref o6, .int stp, .ref o7, .ref o8, .ref o9]))]) hD hS hA [0] rfl
    refine va_calli (va_runV (As := [.int (nI 0), .int (nI 0)]) (rest := []) ⟨hx, hb, hml, hown, hts⟩ (c_M_refuse l dC dI cI o0 o1 o2 o3 o4 o5 o6 o7 o8 o9 thr tab ops (nI R) stp 0 0 (by omega) (by omega) H.size) (cwV 2 hts (ct_giV (fun w h9 => ct_tl h9) kw_573 kw_575 kw_15 kw_30 kw_576) rfl rfl rfl (by decide +kernel) ⟨Nat.le_of_ble_eq_true rfl, Nat.le_of_ble_eq_true rfl⟩) ⟨ct_rw_blind, va_recv hK hP (ci := 4) (q0 := 0) rfl rfl, ct_rw_pre hPc hK hDc⟩ rfl rfl hl.1 rfl (lv_room (Nat.le_of_ble_eq_true rfl)) d_M_result_20 ⟨Nat.zero_le _, Nat.zero_le _⟩) hS (fun q _ h9 => hFc q h9) hFc (fun ans103 u tS H1 locs ht hvm hw102 hB hz1 hk1 hS => ?_)
    obtain ⟨hP1, -, hD1⟩ := hB
    rw [ht] at hP1
    obtain ⟨hP, hD⟩ := va_join (wr := [(o1, .inl (cI, 8, .inl (fun j => nI (sz j))))]) (w1 := [(o0, .inr (4, [.int (nI 0), .ref o1, .int tab, .ref o2, .ref o3, .int ops, .ref o4, .int (nI R), .ref o5, .ref o6, .int stp, .ref o7, .ref o8, .ref o9]))]) hP hD [0] [1] rfl rfl (by decide) (by decide) hk1 hFc hP1 hD1
    generalize H1 = H at hP hS ⊢
    have hP : va_P (dC, dI) ct_cl [(o1, .inl (cI, 8, .inl (fun j => nI (sz j)))), (o0, .inr (4, [.int (nI 0), .ref o1, .int tab, .ref o2, .ref o3, .int ops, .ref o4, .int (nI R), .ref o5, .ref o6, .int stp, .ref o7, .ref o8, .ref o9]))] H := hP
    have hD : va_D A [(o1, .inl (cI, 8, .inl (fun j => nI (sz j)))), (o0, .inr (4, [.int (nI 0), .ref o1, .int tab, .ref o2, .ref o3, .int ops, .ref o4, .int (nI R), .ref o5, .ref o6, .int stp, .ref o7, .ref o8, .ref o9]))] := hD
    refine ct_val (y := nI 0) hw102 ?_
    refine lv_if_eq (tgt := 28) hx hb d_M_result_23 (by decide) (fun _ => ?_) (fun hc9 => absurd (nI_0) hc9)
    refine lv_aload_n hx hb d_M_result_28 rfl (lv_at hl 1 rfl) ?_
    refine lv_iload hx hb d_M_result_29 (lv_at hl 0 rfl) ?_
    refine va_put (D := (dC, dI)) (ci := 4) (v := .int (nI (ct_lbs a b d))) (ty := .int) (C := R_M) (T := T_M) (N := 14) hx hb hts (fun w h9 => ct_tl (ki_M w h9)) ty_M ok_M nm_M hown hK hP hD hS 1 rfl rfl 7 (by decide) (hts _ (ct_tl kw_526)) (fun _ h9 => h9) rfl (by decide +kernel) rfl rfl (Nat.le_of_ble_eq_true rfl) d_M_result_31 (fun H locs hP hD hS => ?_)
    have hP : va_P (dC, dI) ct_cl [(o1, .inl (cI, 8, .inl (fun j => nI (sz j)))), (o0, .inr (4, [.int (nI 0), .ref o1, .int tab, .ref o2, .ref o3, .int ops, .ref o4, .int (nI (ct_lbs a b d)), .ref o5, .ref o6, .int stp, .ref o7, .ref o8, .ref o9]))] H := hP
    have hD : va_D A [(o1, .inl (cI, 8, .inl (fun j => nI (sz j)))), (o0, .inr (4, [.int (nI 0), .ref o1, .int tab, .ref o2, .ref o3, .int ops, .ref o4, .int (nI (ct_lbs a b d)), .ref o5, .ref o6, .int stp, .ref o7, .ref o8, .ref o9]))] := hD
    refine lv_aload_n hx hb d_M_result_34 rfl (lv_at hl 1 rfl) ?_
    refine lv_iload hx hb d_M_result_35 (lv_at hl 0 rfl) ?_
    refine va_calli (va_runV (As := [.int (nI (ct_lbs a b d))]) (rest := []) ⟨hx, hb, hml, hown, hts⟩ (c_M_product l dC dI cI o0 o1 o2 o3 o4 o5 o6 o7 o8 o9 (nI 0) tab ops (nI (ct_lbs a b d)) stp sz (ct_lbs a b d) (by omega)) (cwV 1 hts (ct_giV (fun w h9 => ct_tl h9) kw_592 kw_594 kw_17 kw_30 kw_595) rfl rfl rfl (by decide +kernel) ⟨Nat.le_of_ble_eq_true rfl, Nat.le_of_ble_eq_true rfl⟩) ⟨ct_ro_blind, va_recv hK hP (ci := 4) (q0 := 1) rfl rfl, ct_ro_pre (hP.sub [1, 0] rfl) hK⟩ rfl rfl hl.1 rfl (lv_room (Nat.le_of_ble_eq_true rfl)) d_M_result_37 ⟨Nat.le_of_ble_eq_true rfl, Nat.le_of_ble_eq_true rfl⟩) hS (fun q _ h9 => h9.elim) (fun q h9 => h9.elim) (fun ans104 uS tS H locs ht hvm hwans104 hB hz1 hk1 hS => ?_)
    have hP := ct_keep hP hk1
    refine ct_val (y := nI (ct_pr sz (ct_lbs a b d).testBit 8)) (hwans104) ?_
    have hP9 := hP.sub [1, 0] rfl
    exact W.iret (v := (nI (ct_pr sz (ct_lbs a b d).testBit 8))) hx hb hr (fun tS ht hW => ⟨⟨(nI (ct_pr sz (ct_lbs a b d).testBit 8)), (0, ct_lbs a b d), rfl, Or.inr ⟨hq, rfl, rfl⟩, by rw [ht]; exact hP9, va_K.moved hW.alike hK, hD.sub [1, 0] (by decide) rfl⟩, hS.F ht⟩) hS.2.2 d_M_result_40
  · rw [if_neg hq]
    refine lv_istore (lv' := [(4, .int (-1)), (0, .ref o0), (1, .int a), (2, .int b), (3, .int d)]) hx hb d_M_result_6 hl (by decide) rfl (fun ls hl => ?_)
    refine lv_aload_n hx hb d_M_result_8 rfl (lv_at hl 1 rfl) ?_
    refine lv_iload hx hb d_M_result_9 (lv_at hl 0 rfl) ?_
    refine lv_if_ge (tgt := 18) hx hb d_M_result_11 (by decide) (fun hc9 => absurd hc9 (by decide)) (fun _ => ?_)
    refine lv_iconst (v := (nI 1)) hx hb d_M_result_14 (by decide) ?_
    refine lv_goto (tgt := 19) hx hb d_M_result_15 (by decide) ?_
    refine lv_iconst (v := (nI 0)) hx hb d_M_result_19 (by decide) ?_
    have hPc := hP.sub (ws' := [(o0, .inr (4, [.int thr, .ref o1, .int tab, .ref o2, .ref o3, .int ops, .ref o4, .int (nI R), .ref o5, .ref o6, .int stp, .ref o7, .ref o8, .ref o9]))]) [0] rfl
    have hDc := hD.sub (ws' := [(o0, .inr (4, [.int thr, .ref o1, .int tab, .ref o2, .ref o3, .int ops, .ref o4, .int (nI R), .ref o5, .ref o6, .int stp, .ref o7, .ref o8, .ref o9]))]) [0] (by decide) rfl
    have hFc := va_free (wc := [(o0, .inr (4, [.int thr, .ref o1, .int tab, .ref o2, .ref o3, .int ops, .ref o4, .int (nI R), .ref o5, .ref o6, .int stp, .ref o7, .ref o8, .ref o9]))]) hD hS hA [0] rfl
    refine va_calli (va_runV (As := [.int (nI 1), .int (nI 0)]) (rest := []) ⟨hx, hb, hml, hown, hts⟩ (c_M_refuse l dC dI cI o0 o1 o2 o3 o4 o5 o6 o7 o8 o9 thr tab ops (nI R) stp 1 0 (by omega) (by omega) H.size) (cwV 2 hts (ct_giV (fun w h9 => ct_tl h9) kw_573 kw_575 kw_15 kw_30 kw_576) rfl rfl rfl (by decide +kernel) ⟨Nat.le_of_ble_eq_true rfl, Nat.le_of_ble_eq_true rfl⟩) ⟨ct_rw_blind, va_recv hK hP (ci := 4) (q0 := 0) rfl rfl, ct_rw_pre hPc hK hDc⟩ rfl rfl hl.1 rfl (lv_room (Nat.le_of_ble_eq_true rfl)) d_M_result_20 ⟨Nat.zero_le _, Nat.zero_le _⟩) hS (fun q _ h9 => hFc q h9) hFc (fun ans103 u tS H1 locs ht hvm hw102 hB hz1 hk1 hS => ?_)
    obtain ⟨hP1, -, hD1⟩ := hB
    rw [ht] at hP1
    obtain ⟨hP, hD⟩ := va_join (wr := [(o1, .inl (cI, 8, .inl (fun j => nI (sz j))))]) (w1 := [(o0, .inr (4, [.int (nI 1), .ref o1, .int tab, .ref o2, .ref o3, .int ops, .ref o4, .int (nI R), .ref o5, .ref o6, .int stp, .ref o7, .ref o8, .ref o9]))]) hP hD [0] [1] rfl rfl (by decide) (by decide) hk1 hFc hP1 hD1
    generalize H1 = H at hP hS ⊢
    have hP : va_P (dC, dI) ct_cl [(o1, .inl (cI, 8, .inl (fun j => nI (sz j)))), (o0, .inr (4, [.int (nI 1), .ref o1, .int tab, .ref o2, .ref o3, .int ops, .ref o4, .int (nI R), .ref o5, .ref o6, .int stp, .ref o7, .ref o8, .ref o9]))] H := hP
    have hD : va_D A [(o1, .inl (cI, 8, .inl (fun j => nI (sz j)))), (o0, .inr (4, [.int (nI 1), .ref o1, .int tab, .ref o2, .ref o3, .int ops, .ref o4, .int (nI R), .ref o5, .ref o6, .int stp, .ref o7, .ref o8, .ref o9]))] := hD
    refine ct_val (y := nI 1) hw102 ?_
    refine lv_if_eq (tgt := 28) hx hb d_M_result_23 (by decide) (fun hc9 => absurd hc9 (nI_ne0 (by omega) (by omega))) (fun _ => ?_)
    refine lv_iconst (v := (nI 0)) hx hb d_M_result_26 (by decide) ?_
    have hP9 := hP.sub [1, 0] rfl
    exact W.iret (v := (nI 0)) hx hb hr (fun tS ht hW => ⟨⟨(nI 0), (1, R), rfl, Or.inl ⟨by simpa using hq, rfl⟩, by rw [ht]; exact hP9, va_K.moved hW.alike hK, hD.sub [1, 0] (by decide) rfl⟩, hS.F ht⟩) hS.2.2 d_M_result_27
set_option maxHeartbeats 4000000 in
set_option maxRecDepth 100000 in
theorem c_M_table (l : Launch) (dC : Nat → ClassId) (dI : Nat → Nat → Nat) (cI : ClassId) (o0 o1 o2 o3 o4 o5 o6 o7 o8 o9 : Nat) (thr : Int32) (T : Nat) (ops res stp : Int32) (fl fc : Nat → Int32) (hT8 : T ≤ 8) (a b d : Int32) (sz0 : Nat) : Met l y_M_table w_M_table ({ frames := 1, cells := 0, slots := 0, locals := 24 }) (va_Pc [.ref o0, .int a, .int b, .int d] (ct_rw (dC, dI) ct_cl [(o0, .inr (4, [.int thr, .ref o1, .int (nI T), .ref o2, .ref o3, .int ops, .ref o4, .int res, .ref o5, .ref o6, .int stp, .ref o7, .ref o8, .ref o9])), (o2, .inl (cI, 8, .inl fl)), (o3, .inl (cI, 216, .inl fc))] [(cI, .int)] sz0)) (va_Qi (fun (r : Int32) (u : Nat × Nat × (Nat → Int32) × (Nat → Int32)) => (ct_al a b d = false ∧ u = (1, T, fl, fc)) ∨ (ct_al a b d = true ∧ T = 8 ∧ u = (2, T, fl, fc)) ∨ (ct_al a b d = true ∧ T < 8 ∧ r = nI T ∧ u.1 = 0 ∧ u.2.1 = T + 1 ∧ u.2.2.1 = upd fl T (nI (ct_lbs a b d)) ∧ (∀ i, (i < 27 * T ∨ 27 * T + 27 ≤ i) → u.2.2.2 i = fc i) ∧ ∀ i, i < 27 → u.2.2.2 (27 * T + i) = 0)) (fun (u : Nat × Nat × (Nat → Int32) × (Nat → Int32)) t => ct_at (dC, dI) ct_cl [(cI, .int)] (va_A [(o0, .inr (4, [.int thr, .ref o1, .int (nI T), .ref o2, .ref o3, .int ops, .ref o4, .int res, .ref o5, .ref o6, .int stp, .ref o7, .ref o8, .ref o9])), (o2, .inl (cI, 8, .inl fl)), (o3, .inl (cI, 216, .inl fc))] sz0) [(o0, .inr (4, [.int (nI (u.1)), .ref o1, .int (nI (u.2.1)), .ref o2, .ref o3, .int ops, .ref o4, .int res, .ref o5, .ref o6, .int stp, .ref o7, .ref o8, .ref o9])), (o2, .inl (cI, 8, .inl (u.2.2.1))), (o3, .inl (cI, 216, .inl (u.2.2.2)))] t) (va_A [(o0, .inr (4, [.int thr, .ref o1, .int (nI T), .ref o2, .ref o3, .int ops, .ref o4, .int res, .ref o5, .ref o6, .int stp, .ref o7, .ref o8, .ref o9])), (o2, .inl (cI, 8, .inl fl)), (o3, .inl (cI, 216, .inl fc))] sz0)) 0 0 (va_A [(o0, .inr (4, [.int thr, .ref o1, .int (nI T), .ref o2, .ref o3, .int ops, .ref o4, .int res, .ref o5, .ref o6, .int stp, .ref o7, .ref o8, .ref o9])), (o2, .inl (cI, 8, .inl fl)), (o3, .inl (cI, 216, .inl fc))] sz0) := by
  refine Met.ofW (cc := b_M_table) (maxL := 6) (ret := (some .int)) (by decide) rfl ?_
  intro p e s m args below meth c s₁ Bd hml hv
  obtain ⟨hargs, hsz, hP, hK, hD0⟩ := hv
  have hx := Bd.exec
  have hb := Bd.bytes
  have hr := Bd.returns
  have hts : ∀ w ∈ k_M_table :: ct_tb, w.before args s = true := atoms_spec (ws := w_M_table) Bd.pre
  have hown : s.vm.findClass R_M = some m.cls := findClass_of_methodNamed Bd.named
  have hlocks := Bd.notSynchronized
  subst hsz
  have hD := hD0.self (sz := s.heap.size)
  generalize hAe : va_A [(o0, .inr (4, [.int thr, .ref o1, .int (nI T), .ref o2, .ref o3, .int ops, .ref o4, .int res, .ref o5, .ref o6, .int stp, .ref o7, .ref o8, .ref o9])), (o2, .inl (cI, 8, .inl fl)), (o3, .inl (cI, 216, .inl fc))] s.heap.size = A at hD ⊢
  have hA : ∀ q : Nat, s.heap.size ≤ q → A q := fun q h => by rw [← hAe]; exact Or.inr h
  have hS : va_S A s.heap s.heap [] := va_S.rf
  have hl := lv_entry ([.ref o0, .int a, .int b, .int d]) (n := 6) (Nat.le_of_ble_eq_true rfl)
  rw [show entryFrame m args 6 = entryFrame m (([.ref o0, .int a, .int b, .int d] : List Value)).toArray 6 by rw [hargs], lg_entry_eq]
  generalize (lg_sl ([.ref o0, .int a, .int b, .int d]) ++ List.replicate (6 - (lg_sl ([.ref o0, .int a, .int b, .int d])).length) Slot.unset).toArray = ls at hl ⊢
  have hl : lv_has ls 6 [(0, .ref o0), (1, .int a), (2, .int b), (3, .int d)] := hl
  refine lv_iload_n hx hb d_M_table_0 rfl (lv_at hl 1 rfl) ?_
  refine lv_iload_n hx hb d_M_table_1 rfl (lv_at hl 2 rfl) ?_
  refine lv_iload_n hx hb d_M_table_2 rfl (lv_at hl 3 rfl) ?_
  refine va_calli (va_runS (As := [.int a, .int b, .int d]) (rest := []) ⟨hx, hb, hml, hown, hts⟩ (c_M_bits l dC dI cI a b d) (va_cwS 3 hts (ct_giT (fun w h9 => ct_tl h9) kw_581 kw_582 kw_30 kw_583) rfl rfl rfl (by decide +kernel) ⟨Nat.le_of_ble_eq_true rfl, Nat.le_of_ble_eq_true rfl⟩) ⟨ct_ro_blind, ct_ro_pre (hP.sub [] rfl) hK⟩ rfl rfl hl.1 rfl (lv_room (Nat.le_of_ble_eq_true rfl)) d_M_table_3 ⟨Nat.le_of_ble_eq_true rfl, Nat.le_of_ble_eq_true rfl⟩) hS (fun q _ h9 => h9.elim) (fun q h9 => h9.elim) (fun ans1 uS tS H locs ht hvm hwans1 hB hz1 hk1 hS => ?_)
  have hP := ct_keep hP hk1
  refine ct_val (y := if ct_al a b d = true then nI (ct_lbs a b d) else -1) (hwans1) ?_
  by_cases hq : ct_al a b d = true
  · rw [if_pos hq]
    have hlt := ct_lbs_lt hq
    refine lv_istore (lv' := [(4, .int (nI (ct_lbs a b d))), (0, .ref o0), (1, .int a), (2, .int b), (3, .int d)]) hx hb d_M_table_6 hl (by decide) rfl (fun ls hl => ?_)
    refine lv_aload_n hx hb d_M_table_8 rfl (lv_at hl 1 rfl) ?_
    refine lv_iload hx hb d_M_table_9 (lv_at hl 0 rfl) ?_
    refine lv_if_ge (tgt := 18) hx hb d_M_table_11 (by decide) (fun _ => ?_) (fun hc9 => absurd (nI_pos' (by omega)) hc9)
    refine lv_iconst (v := (nI 0)) hx hb d_M_table_18 (by decide) ?_
    refine lv_aload_n hx hb d_M_table_19 rfl (lv_at hl 1 rfl) ?_
    refine va_get (D := (dC, dI)) (ci := 4) (v := .int (nI T)) (C := R_M) (T := T_M) (N := 14) hx hb hts (fun w h9 => ct_tl (ki_M w h9)) hown hK hP 0 rfl rfl 2 (by decide) (hts _ (ct_tl kw_521)) (fun _ h9 => h9) rfl d_M_table_20 ?_
    refine lv_bipush (v := (nI 8)) hx hb d_M_table_23 (by decide) ?_
    by_cases h8 : T = 8
    · refine lv_icmp_ne (tgt := 32) hx hb d_M_table_25 (by decide) (fun hc9 => absurd (by rw [h8]) hc9) (fun _ => ?_)
      refine lv_iconst (v := (nI 1)) hx hb d_M_table_28 (by decide) ?_
      refine lv_goto (tgt := 33) hx hb d_M_table_29 (by decide) ?_
      have hPc := hP.sub (ws' := [(o0, .inr (4, [.int thr, .ref o1, .int (nI T), .ref o2, .ref o3, .int ops, .ref o4, .int res, .ref o5, .ref o6, .int stp, .ref o7, .ref o8, .ref o9]))]) [0] rfl
      have hDc := hD.sub (ws' := [(o0, .inr (4, [.int thr, .ref o1, .int (nI T), .ref o2, .ref o3, .int ops, .ref o4, .int res, .ref o5, .ref o6, .int stp, .ref o7, .ref o8, .ref o9]))]) [0] (by decide) rfl
      have hFc := va_free (wc := [(o0, .inr (4, [.int thr, .ref o1, .int (nI T), .ref o2, .ref o3, .int ops, .ref o4, .int res, .ref o5, .ref o6, .int stp, .ref o7, .ref o8, .ref o9]))]) hD hS hA [0] rfl
      refine va_calli (va_runV (As := [.int (nI 0), .int (nI 1)]) (rest := []) ⟨hx, hb, hml, hown, hts⟩ (c_M_refuse l dC dI cI o0 o1 o2 o3 o4 o5 o6 o7 o8 o9 thr (nI T) ops res stp 0 1 (by omega) (by omega) H.size) (cwV 2 hts (ct_giV (fun w h9 => ct_tl h9) kw_573 kw_575 kw_15 kw_30 kw_576) rfl rfl rfl (by decide +kernel) ⟨Nat.le_of_ble_eq_true rfl, Nat.le_of_ble_eq_true rfl⟩) ⟨ct_rw_blind, va_recv hK hP (ci := 4) (q0 := 0) rfl rfl, ct_rw_pre hPc hK hDc⟩ rfl rfl hl.1 rfl (lv_room (Nat.le_of_ble_eq_true rfl)) d_M_table_33 ⟨Nat.zero_le _, Nat.zero_le _⟩) hS (fun q _ h9 => hFc q h9) hFc (fun ans203 u tS H1 locs ht hvm hw202 hB hz1 hk1 hS => ?_)
      obtain ⟨hP1, -, hD1⟩ := hB
      rw [ht] at hP1
      obtain ⟨hP, hD⟩ := va_join (wr := [(o2, .inl (cI, 8, .inl fl)), (o3, .inl (cI, 216, .inl fc))]) (w1 := [(o0, .inr (4, [.int (nI 2), .ref o1, .int (nI T), .ref o2, .ref o3, .int ops, .ref o4, .int res, .ref o5, .ref o6, .int stp, .ref o7, .ref o8, .ref o9]))]) hP hD [0] [1, 2] rfl rfl (by decide) (by decide) hk1 hFc hP1 hD1
      generalize H1 = H at hP hS ⊢
      have hP : va_P (dC, dI) ct_cl [(o2, .inl (cI, 8, .inl fl)), (o3, .inl (cI, 216, .inl fc)), (o0, .inr (4, [.int (nI 2), .ref o1, .int (nI T), .ref o2, .ref o3, .int ops, .ref o4, .int res, .ref o5, .ref o6, .int stp, .ref o7, .ref o8, .ref o9]))] H := hP
      have hD : va_D A [(o2, .inl (cI, 8, .inl fl)), (o3, .inl (cI, 216, .inl fc)), (o0, .inr (4, [.int (nI 2), .ref o1, .int (nI T), .ref o2, .ref o3, .int ops, .ref o4, .int res, .ref o5, .ref o6, .int stp, .ref o7, .ref o8, .ref o9]))] := hD
      refine ct_val (y := nI 1) hw202 ?_
      refine lv_if_eq (tgt := 41) hx hb d_M_table_36 (by decide) (fun hc9 => absurd hc9 (nI_ne0 (by omega) (by omega))) (fun _ => ?_)
      refine lv_iconst (v := (nI 0)) hx hb d_M_table_39 (by decide) ?_
      have hP9 := hP.sub [2, 0, 1] rfl
      exact W.iret (v := (nI 0)) hx hb hr (fun tS ht hW => ⟨⟨(nI 0), (2, T, fl, fc), rfl, Or.inr (Or.inl ⟨hq, h8, rfl⟩), by rw [ht]; exact hP9, va_K.moved hW.alike hK, hD.sub [2, 0, 1] (by decide) rfl⟩, hS.F ht⟩) hS.2.2 d_M_table_40
    · refine lv_icmp_ne (tgt := 32) hx hb d_M_table_25 (by decide) (fun _ => ?_) (fun hc9 => absurd hc9 (fun z => h8 ((nI_eq (by omega) (by omega)).mp z)))
      refine lv_iconst (v := (nI 0)) hx hb d_M_table_32 (by decide) ?_
      have hPc := hP.sub (ws' := [(o0, .inr (4, [.int thr, .ref o1, .int (nI T), .ref o2, .ref o3, .int ops, .ref o4, .int res, .ref o5, .ref o6, .int stp, .ref o7, .ref o8, .ref o9]))]) [0] rfl
      have hDc := hD.sub (ws' := [(o0, .inr (4, [.int thr, .ref o1, .int (nI T), .ref o2, .ref o3, .int ops, .ref o4, .int res, .ref o5, .ref o6, .int stp, .ref o7, .ref o8, .ref o9]))]) [0] (by decide) rfl
      have hFc := va_free (wc := [(o0, .inr (4, [.int thr, .ref o1, .int (nI T), .ref o2, .ref o3, .int ops, .ref o4, .int res, .ref o5, .ref o6, .int stp, .ref o7, .ref o8, .ref o9]))]) hD hS hA [0] rfl
      refine va_calli (va_runV (As := [.int (nI 0), .int (nI 0)]) (rest := []) ⟨hx, hb, hml, hown, hts⟩ (c_M_refuse l dC dI cI o0 o1 o2 o3 o4 o5 o6 o7 o8 o9 thr (nI T) ops res stp 0 0 (by omega) (by omega) H.size) (cwV 2 hts (ct_giV (fun w h9 => ct_tl h9) kw_573 kw_575 kw_15 kw_30 kw_576) rfl rfl rfl (by decide +kernel) ⟨Nat.le_of_ble_eq_true rfl, Nat.le_of_ble_eq_true rfl⟩) ⟨ct_rw_blind, va_recv hK hP (ci := 4) (q0 := 0) rfl rfl, ct_rw_pre hPc hK hDc⟩ rfl rfl hl.1 rfl (lv_room (Nat.le_of_ble_eq_true rfl)) d_M_table_33 ⟨Nat.zero_le _, Nat.zero_le _⟩) hS (fun q _ h9 => hFc q h9) hFc (fun ans203 u tS H1 locs ht hvm hw202 hB hz1 hk1 hS => ?_)
      obtain ⟨hP1, -, hD1⟩ := hB
      rw [ht] at hP1
      obtain ⟨hP, hD⟩ := va_join (wr := [(o2, .inl (cI, 8, .inl fl)), (o3, .inl (cI, 216, .inl fc))]) (w1 := [(o0, .inr (4, [.int (nI 0), .ref o1, .int (nI T), .ref o2, .ref o3, .int ops, .ref o4, .int res, .ref o5, .ref o6, .int stp, .ref o7, .ref o8, .ref o9]))]) hP hD [0] [1, 2] rfl rfl (by decide) (by decide) hk1 hFc hP1 hD1
      generalize H1 = H at hP hS ⊢
      have hP : va_P (dC, dI) ct_cl [(o2, .inl (cI, 8, .inl fl)), (o3, .inl (cI, 216, .inl fc)), (o0, .inr (4, [.int (nI 0), .ref o1, .int (nI T), .ref o2, .ref o3, .int ops, .ref o4, .int res, .ref o5, .ref o6, .int stp, .ref o7, .ref o8, .ref o9]))] H := hP
      have hD : va_D A [(o2, .inl (cI, 8, .inl fl)), (o3, .inl (cI, 216, .inl fc)), (o0, .inr (4, [.int (nI 0), .ref o1, .int (nI T), .ref o2, .ref o3, .int ops, .ref o4, .int res, .ref o5, .ref o6, .int stp, .ref o7, .ref o8, .ref o9]))] := hD
      refine ct_val (y := nI 0) hw202 ?_
      refine lv_if_eq (tgt := 41) hx hb d_M_table_36 (by decide) (fun _ => ?_) (fun hc9 => absurd (nI_0) hc9)
      have loop : ∀ (n k : Nat), k + n = 27 → ∀ (g : Nat → Int32), (∀ i, (i < 27 * T ∨ 27 * T + 27 ≤ i) → g i = fc i) → (∀ i, i < k → g (27 * T + i) = 0) → ∀ (H : Heap) (locs : List Loc), va_P (dC, dI) ct_cl [(o0, .inr (4, [.int (nI 0), .ref o1, .int (nI T), .ref o2, .ref o3, .int ops, .ref o4, .int res, .ref o5, .ref o6, .int stp, .ref o7, .ref o8, .ref o9])), (o2, .inl (cI, 8, .inl (upd fl T (nI (ct_lbs a b d))))), (o3, .inl (cI, 216, .inl g))] H → va_D A [(o0, .inr (4, [.int (nI 0), .ref o1, .int (nI T), .ref o2, .ref o3, .int ops, .ref o4, .int res, .ref o5, .ref o6, .int stp, .ref o7, .ref o8, .ref o9])), (o2, .inl (cI, 8, .inl (upd fl T (nI (ct_lbs a b d))))), (o3, .inl (cI, 216, .inl g))] → va_S A s.heap H locs → ∀ (ls : Array Slot), lv_has ls 6 [(0, .ref o0), (1, .int a), (2, .int b), (3, .int d), (4, .int (nI (ct_lbs a b d))), (5, .int (nI k))] → W p l e (headSpec w_M_table ({ frames := 1, cells := 0, slots := 0, locals := 24 } : Room)).room s m args below meth c H locs 0 0 (MQ below (va_Qi (fun (r : Int32) (u : Nat × Nat × (Nat → Int32) × (Nat → Int32)) => (ct_al a b d = false ∧ u = (1, T, fl, fc)) ∨ (ct_al a b d = true ∧ T = 8 ∧ u = (2, T, fl, fc)) ∨ (ct_al a b d = true ∧ T < 8 ∧ r = nI T ∧ u.1 = 0 ∧ u.2.1 = T + 1 ∧ u.2.2.1 = upd fl T (nI (ct_lbs a b d)) ∧ (∀ i, (i < 27 * T ∨ 27 * T + 27 ≤ i) → u.2.2.2 i = fc i) ∧ ∀ i, i < 27 → u.2.2.2 (27 * T + i) = 0)) (fun (u : Nat × Nat × (Nat → Int32) × (Nat → Int32)) t => ct_at (dC, dI) ct_cl [(cI, .int)] (A) [(o0, .inr (4, [.int (nI (u.1)), .ref o1, .int (nI (u.2.1)), .ref o2, .ref o3, .int ops, .ref o4, .int res, .ref o5, .ref o6, .int stp, .ref o7, .ref o8, .ref o9])), (o2, .inl (cI, 8, .inl (u.2.2.1))), (o3, .inl (cI, 216, .inl (u.2.2.2)))] t) (A)) args s 0 0 A) (F0 m 55 ls []) := by
        intro n
        induction n with
        | zero =>
          intro k hk g hg1 hg2 H locs hP hD hS ls hl
          refine lv_iload hx hb d_M_table_55 (lv_at hl 5 rfl) ?_
          refine lv_bipush (v := (nI 27)) hx hb d_M_table_57 (by decide) ?_
          refine lv_icmp_ge (tgt := 84) hx hb d_M_table_59 (by decide) (fun _ => ?_) (fun hc9 => absurd (nI_le (by omega) (by omega)) hc9)
          refine lv_aload_n hx hb d_M_table_84 rfl (lv_at hl 0 rfl) ?_
          refine lv_dup hx hb d_M_table_85 rfl ?_
          refine va_get (D := (dC, dI)) (ci := 4) (v := .int (nI T)) (C := R_M) (T := T_M) (N := 14) hx hb hts (fun w h9 => ct_tl (ki_M w h9)) hown hK hP 0 rfl rfl 2 (by decide) (hts _ (ct_tl kw_521)) (fun _ h9 => h9) rfl d_M_table_86 ?_
          refine lv_iconst (v := (nI 1)) hx hb d_M_table_89 (by decide) ?_
          refine lv_iadd hx hb d_M_table_90 ?_
          refine ct_val (y := nI (T + 1)) (nI_1 _) ?_
          refine va_put (D := (dC, dI)) (ci := 4) (v := .int (nI (T + 1))) (ty := .int) (C := R_M) (T := T_M) (N := 14) hx hb hts (fun w h9 => ct_tl (ki_M w h9)) ty_M ok_M nm_M hown hK hP hD hS 0 rfl rfl 2 (by decide) (hts _ (ct_tl kw_521)) (fun _ h9 => h9) rfl (by decide +kernel) rfl rfl (Nat.le_of_ble_eq_true rfl) d_M_table_91 (fun H locs hP hD hS => ?_)
          have hP : va_P (dC, dI) ct_cl [(o0, .inr (4, [.int (nI 0), .ref o1, .int (nI (T + 1)), .ref o2, .ref o3, .int ops, .ref o4, .int res, .ref o5, .ref o6, .int stp, .ref o7, .ref o8, .ref o9])), (o2, .inl (cI, 8, .inl (upd fl T (nI (ct_lbs a b d))))), (o3, .inl (cI, 216, .inl g))] H := hP
          have hD : va_D A [(o0, .inr (4, [.int (nI 0), .ref o1, .int (nI (T + 1)), .ref o2, .ref o3, .int ops, .ref o4, .int res, .ref o5, .ref o6, .int stp, .ref o7, .ref o8, .ref o9])), (o2, .inl (cI, 8, .inl (upd fl T (nI (ct_lbs a b d))))), (o3, .inl (cI, 216, .inl g))] := hD
          refine lv_aload_n hx hb d_M_table_94 rfl (lv_at hl 0 rfl) ?_
          refine va_get (D := (dC, dI)) (ci := 4) (v := .int (nI (T + 1))) (C := R_M) (T := T_M) (N := 14) hx hb hts (fun w h9 => ct_tl (ki_M w h9)) hown hK hP 0 rfl rfl 2 (by decide) (hts _ (ct_tl kw_521)) (fun _ h9 => h9) rfl d_M_table_95 ?_
          refine lv_iconst (v := (nI 1)) hx hb d_M_table_98 (by decide) ?_
          refine lv_isub hx hb d_M_table_99 ?_
          refine ct_val (y := nI T) (nI_pred T) ?_
          have hP9 := hP.sub [0, 1, 2] rfl
          exact W.iret (v := (nI T)) hx hb hr (fun tS ht hW => ⟨⟨(nI T), (0, T + 1, upd fl T (nI (ct_lbs a b d)), g), rfl, Or.inr (Or.inr ⟨hq, by omega, rfl, rfl, rfl, rfl, hg1, fun i h9 => hg2 i (by omega)⟩), by rw [ht]; exact hP9, va_K.moved hW.alike hK, hD.sub [0, 1, 2] (by decide) rfl⟩, hS.F ht⟩) hS.2.2 d_M_table_100
        | succ n ih =>
          intro k hk g hg1 hg2 H locs hP hD hS ls hl
          refine lv_iload hx hb d_M_table_55 (lv_at hl 5 rfl) ?_
          refine lv_bipush (v := (nI 27)) hx hb d_M_table_57 (by decide) ?_
          refine lv_icmp_ge (tgt := 84) hx hb d_M_table_59 (by decide) (fun hc9 => absurd hc9 (nI_ge (by omega) (by omega))) (fun _ => ?_)
          refine lv_aload_n hx hb d_M_table_62 rfl (lv_at hl 0 rfl) ?_
          refine va_get (D := (dC, dI)) (ci := 4) (v := .ref o3) (C := R_M) (T := T_M) (N := 14) hx hb hts (fun w h9 => ct_tl (ki_M w h9)) hown hK hP 0 rfl rfl 4 (by decide) (hts _ (ct_tl kw_523)) (fun _ h9 => h9) rfl d_M_table_63 ?_
          refine lv_bipush (v := (nI 27)) hx hb d_M_table_66 (by decide) ?_
          refine lv_aload_n hx hb d_M_table_68 rfl (lv_at hl 0 rfl) ?_
          refine va_get (D := (dC, dI)) (ci := 4) (v := .int (nI T)) (C := R_M) (T := T_M) (N := 14) hx hb hts (fun w h9 => ct_tl (ki_M w h9)) hown hK hP 0 rfl rfl 2 (by decide) (hts _ (ct_tl kw_521)) (fun _ h9 => h9) rfl d_M_table_69 ?_
          refine lv_imul hx hb d_M_table_72 ?_
          refine ct_val (y := nI (27 * T)) (pk_mul _ _) ?_
          refine lv_iload hx hb d_M_table_73 (lv_at hl 5 rfl) ?_
          refine lv_iadd hx hb d_M_table_75 ?_
          refine ct_val (y := nI (27 * T + k)) (nI_add _ _) ?_
          refine lv_iconst (v := (nI 0)) hx hb d_M_table_76 (by decide) ?_
          refine ct_iast hx hb hK hP hD hS 2 0 rfl rfl (j := 27 * T + k) (by omega) (by omega) d_M_table_77 (fun H locs hP hD hS => ?_)
          have hP : va_P (dC, dI) ct_cl [(o0, .inr (4, [.int (nI 0), .ref o1, .int (nI T), .ref o2, .ref o3, .int ops, .ref o4, .int res, .ref o5, .ref o6, .int stp, .ref o7, .ref o8, .ref o9])), (o2, .inl (cI, 8, .inl (upd fl T (nI (ct_lbs a b d))))), (o3, .inl (cI, 216, .inl (upd g (27 * T + k) (nI 0))))] H := hP
          have hD : va_D A [(o0, .inr (4, [.int (nI 0), .ref o1, .int (nI T), .ref o2, .ref o3, .int ops, .ref o4, .int res, .ref o5, .ref o6, .int stp, .ref o7, .ref o8, .ref o9])), (o2, .inl (cI, 8, .inl (upd fl T (nI (ct_lbs a b d))))), (o3, .inl (cI, 216, .inl (upd g (27 * T + k) (nI 0))))] := hD
          refine lv_iinc (v := (nI (k + 1))) (lv' := [(5, .int (nI (k + 1))), (0, .ref o0), (1, .int a), (2, .int b), (3, .int d), (4, .int (nI (ct_lbs a b d)))]) hx hb d_M_table_78 hl (k := 5) rfl (nI_1 _) (by decide) rfl (fun ls hl => ?_)
          refine lv_goto (tgt := 55) hx hb d_M_table_81 (by decide) ?_
          refine ih (k + 1) (by omega) _ (fun i h9 => ?_) (fun i h9 => ?_) H locs hP hD hS ls (lv_sub hl [1, 2, 3, 4, 5, 0] rfl)
          · rw [pk_un (by omega)]; exact hg1 i h9
          · by_cases h7 : i = k
            · rw [h7, pk_us]; exact nI_0
            · rw [pk_un (by omega)]; exact hg2 i (by omega)
      refine lv_aload_n hx hb d_M_table_41 rfl (lv_at hl 1 rfl) ?_
      refine va_get (D := (dC, dI)) (ci := 4) (v := .ref o2) (C := R_M) (T := T_M) (N := 14) hx hb hts (fun w h9 => ct_tl (ki_M w h9)) hown hK hP 2 rfl rfl 3 (by decide) (hts _ (ct_tl kw_522)) (fun _ h9 => h9) rfl d_M_table_42 ?_
      refine lv_aload_n hx hb d_M_table_45 rfl (lv_at hl 1 rfl) ?_
      refine va_get (D := (dC, dI)) (ci := 4) (v := .int (nI T)) (C := R_M) (T := T_M) (N := 14) hx hb hts (fun w h9 => ct_tl (ki_M w h9)) hown hK hP 2 rfl rfl 2 (by decide) (hts _ (ct_tl kw_521)) (fun _ h9 => h9) rfl d_M_table_46 ?_
      refine lv_iload hx hb d_M_table_49 (lv_at hl 0 rfl) ?_
      refine ct_iast hx hb hK hP hD hS 0 0 rfl rfl (j := T) (by omega) (by omega) d_M_table_51 (fun H locs hP hD hS => ?_)
      have hP : va_P (dC, dI) ct_cl [(o2, .inl (cI, 8, .inl (upd fl T (nI (ct_lbs a b d))))), (o3, .inl (cI, 216, .inl fc)), (o0, .inr (4, [.int (nI 0), .ref o1, .int (nI T), .ref o2, .ref o3, .int ops, .ref o4, .int res, .ref o5, .ref o6, .int stp, .ref o7, .ref o8, .ref o9]))] H := hP
      have hD : va_D A [(o2, .inl (cI, 8, .inl (upd fl T (nI (ct_lbs a b d))))), (o3, .inl (cI, 216, .inl fc)), (o0, .inr (4, [.int (nI 0), .ref o1, .int (nI T), .ref o2, .ref o3, .int ops, .ref o4, .int res, .ref o5, .ref o6, .int stp, .ref o7, .ref o8, .ref o9]))] := hD
      refine lv_iconst (v := (nI 0)) hx hb d_M_table_52 (by decide) ?_
      refine lv_istore (lv' := [(5, .int (nI 0)), (4, .int (nI (ct_lbs a b d))), (0, .ref o0), (1, .int a), (2, .int b), (3, .int d)]) hx hb d_M_table_53 hl (by decide) rfl (fun ls hl => ?_)
      exact loop 27 0 rfl fc (fun _ _ => rfl) (fun i h9 => absurd h9 (Nat.not_lt_zero i)) H locs (hP.sub [2, 0, 1] rfl) (hD.sub [2, 0, 1] (by decide) rfl) hS ls (lv_sub hl [2, 3, 4, 5, 1, 0] rfl)
  · rw [if_neg hq]
    refine lv_istore (lv' := [(4, .int (-1)), (0, .ref o0), (1, .int a), (2, .int b), (3, .int d)]) hx hb d_M_table_6 hl (by decide) rfl (fun ls hl => ?_)
    refine lv_aload_n hx hb d_M_table_8 rfl (lv_at hl 1 rfl) ?_
    refine lv_iload hx hb d_M_table_9 (lv_at hl 0 rfl) ?_
    refine lv_if_ge (tgt := 18) hx hb d_M_table_11 (by decide) (fun hc9 => absurd hc9 (by decide)) (fun _ => ?_)
    refine lv_iconst (v := (nI 1)) hx hb d_M_table_14 (by decide) ?_
    refine lv_goto (tgt := 19) hx hb d_M_table_15 (by decide) ?_
    refine lv_aload_n hx hb d_M_table_19 rfl (lv_at hl 1 rfl) ?_
    refine va_get (D := (dC, dI)) (ci := 4) (v := .int (nI T)) (C := R_M) (T := T_M) (N := 14) hx hb hts (fun w h9 => ct_tl (ki_M w h9)) hown hK hP 0 rfl rfl 2 (by decide) (hts _ (ct_tl kw_521)) (fun _ h9 => h9) rfl d_M_table_20 ?_
    refine lv_bipush (v := (nI 8)) hx hb d_M_table_23 (by decide) ?_
    by_cases h8 : T = 8
    · refine lv_icmp_ne (tgt := 32) hx hb d_M_table_25 (by decide) (fun hc9 => absurd (by rw [h8]) hc9) (fun _ => ?_)
      refine lv_iconst (v := (nI 1)) hx hb d_M_table_28 (by decide) ?_
      refine lv_goto (tgt := 33) hx hb d_M_table_29 (by decide) ?_
      have hPc := hP.sub (ws' := [(o0, .inr (4, [.int thr, .ref o1, .int (nI T), .ref o2, .ref o3, .int ops, .ref o4, .int res, .ref o5, .ref o6, .int stp, .ref o7, .ref o8, .ref o9]))]) [0] rfl
      have hDc := hD.sub (ws' := [(o0, .inr (4, [.int thr, .ref o1, .int (nI T), .ref o2, .ref o3, .int ops, .ref o4, .int res, .ref o5, .ref o6, .int stp, .ref o7, .ref o8, .ref o9]))]) [0] (by decide) rfl
      have hFc := va_free (wc := [(o0, .inr (4, [.int thr, .ref o1, .int (nI T), .ref o2, .ref o3, .int ops, .ref o4, .int res, .ref o5, .ref o6, .int stp, .ref o7, .ref o8, .ref o9]))]) hD hS hA [0] rfl
      refine va_calli (va_runV (As := [.int (nI 1), .int (nI 1)]) (rest := []) ⟨hx, hb, hml, hown, hts⟩ (c_M_refuse l dC dI cI o0 o1 o2 o3 o4 o5 o6 o7 o8 o9 thr (nI T) ops res stp 1 1 (by omega) (by omega) H.size) (cwV 2 hts (ct_giV (fun w h9 => ct_tl h9) kw_573 kw_575 kw_15 kw_30 kw_576) rfl rfl rfl (by decide +kernel) ⟨Nat.le_of_ble_eq_true rfl, Nat.le_of_ble_eq_true rfl⟩) ⟨ct_rw_blind, va_recv hK hP (ci := 4) (q0 := 0) rfl rfl, ct_rw_pre hPc hK hDc⟩ rfl rfl hl.1 rfl (lv_room (Nat.le_of_ble_eq_true rfl)) d_M_table_33 ⟨Nat.zero_le _, Nat.zero_le _⟩) hS (fun q _ h9 => hFc q h9) hFc (fun ans203 u tS H1 locs ht hvm hw202 hB hz1 hk1 hS => ?_)
      obtain ⟨hP1, -, hD1⟩ := hB
      rw [ht] at hP1
      obtain ⟨hP, hD⟩ := va_join (wr := [(o2, .inl (cI, 8, .inl fl)), (o3, .inl (cI, 216, .inl fc))]) (w1 := [(o0, .inr (4, [.int (nI 1), .ref o1, .int (nI T), .ref o2, .ref o3, .int ops, .ref o4, .int res, .ref o5, .ref o6, .int stp, .ref o7, .ref o8, .ref o9]))]) hP hD [0] [1, 2] rfl rfl (by decide) (by decide) hk1 hFc hP1 hD1
      generalize H1 = H at hP hS ⊢
      have hP : va_P (dC, dI) ct_cl [(o2, .inl (cI, 8, .inl fl)), (o3, .inl (cI, 216, .inl fc)), (o0, .inr (4, [.int (nI 1), .ref o1, .int (nI T), .ref o2, .ref o3, .int ops, .ref o4, .int res, .ref o5, .ref o6, .int stp, .ref o7, .ref o8, .ref o9]))] H := hP
      have hD : va_D A [(o2, .inl (cI, 8, .inl fl)), (o3, .inl (cI, 216, .inl fc)), (o0, .inr (4, [.int (nI 1), .ref o1, .int (nI T), .ref o2, .ref o3, .int ops, .ref o4, .int res, .ref o5, .ref o6, .int stp, .ref o7, .ref o8, .ref o9]))] := hD
      refine ct_val (y := nI 1) hw202 ?_
      refine lv_if_eq (tgt := 41) hx hb d_M_table_36 (by decide) (fun hc9 => absurd hc9 (nI_ne0 (by omega) (by omega))) (fun _ => ?_)
      refine lv_iconst (v := (nI 0)) hx hb d_M_table_39 (by decide) ?_
      have hP9 := hP.sub [2, 0, 1] rfl
      exact W.iret (v := (nI 0)) hx hb hr (fun tS ht hW => ⟨⟨(nI 0), (1, T, fl, fc), rfl, Or.inl ⟨by simpa using hq, rfl⟩, by rw [ht]; exact hP9, va_K.moved hW.alike hK, hD.sub [2, 0, 1] (by decide) rfl⟩, hS.F ht⟩) hS.2.2 d_M_table_40
    · refine lv_icmp_ne (tgt := 32) hx hb d_M_table_25 (by decide) (fun _ => ?_) (fun hc9 => absurd hc9 (fun z => h8 ((nI_eq (by omega) (by omega)).mp z)))
      refine lv_iconst (v := (nI 0)) hx hb d_M_table_32 (by decide) ?_
      have hPc := hP.sub (ws' := [(o0, .inr (4, [.int thr, .ref o1, .int (nI T), .ref o2, .ref o3, .int ops, .ref o4, .int res, .ref o5, .ref o6, .int stp, .ref o7, .ref o8, .ref o9]))]) [0] rfl
      have hDc := hD.sub (ws' := [(o0, .inr (4, [.int thr, .ref o1, .int (nI T), .ref o2, .ref o3, .int ops, .ref o4, .int res, .ref o5, .ref o6, .int stp, .ref o7, .ref o8, .ref o9]))]) [0] (by decide) rfl
      have hFc := va_free (wc := [(o0, .inr (4, [.int thr, .ref o1, .int (nI T), .ref o2, .ref o3, .int ops, .ref o4, .int res, .ref o5, .ref o6, .int stp, .ref o7, .ref o8, .ref o9]))]) hD hS hA [0] rfl
      refine va_calli (va_runV (As := [.int (nI 1), .int (nI 0)]) (rest := []) ⟨hx, hb, hml, hown, hts⟩ (c_M_refuse l dC dI cI o0 o1 o2 o3 o4 o5 o6 o7 o8 o9 thr (nI T) ops res stp 1 0 (by omega) (by omega) H.size) (cwV 2 hts (ct_giV (fun w h9 => ct_tl h9) kw_573 kw_575 kw_15 kw_30 kw_576) rfl rfl rfl (by decide +kernel) ⟨Nat.le_of_ble_eq_true rfl, Nat.le_of_ble_eq_true rfl⟩) ⟨ct_rw_blind, va_recv hK hP (ci := 4) (q0 := 0) rfl rfl, ct_rw_pre hPc hK hDc⟩ rfl rfl hl.1 rfl (lv_room (Nat.le_of_ble_eq_true rfl)) d_M_table_33 ⟨Nat.zero_le _, Nat.zero_le _⟩) hS (fun q _ h9 => hFc q h9) hFc (fun ans203 u tS H1 locs ht hvm hw202 hB hz1 hk1 hS => ?_)
      obtain ⟨hP1, -, hD1⟩ := hB
      rw [ht] at hP1
      obtain ⟨hP, hD⟩ := va_join (wr := [(o2, .inl (cI, 8, .inl fl)), (o3, .inl (cI, 216, .inl fc))]) (w1 := [(o0, .inr (4, [.int (nI 1), .ref o1, .int (nI T), .ref o2, .ref o3, .int ops, .ref o4, .int res, .ref o5, .ref o6, .int stp, .ref o7, .ref o8, .ref o9]))]) hP hD [0] [1, 2] rfl rfl (by decide) (by decide) hk1 hFc hP1 hD1
      generalize H1 = H at hP hS ⊢
      have hP : va_P (dC, dI) ct_cl [(o2, .inl (cI, 8, .inl fl)), (o3, .inl (cI, 216, .inl fc)), (o0, .inr (4, [.int (nI 1), .ref o1, .int (nI T), .ref o2, .ref o3, .int ops, .ref o4, .int res, .ref o5, .ref o6, .int stp, .ref o7, .ref o8, .ref o9]))] H := hP
      have hD : va_D A [(o2, .inl (cI, 8, .inl fl)), (o3, .inl (cI, 216, .inl fc)), (o0, .inr (4, [.int (nI 1), .ref o1, .int (nI T), .ref o2, .ref o3, .int ops, .ref o4, .int res, .ref o5, .ref o6, .int stp, .ref o7, .ref o8, .ref o9]))] := hD
      refine ct_val (y := nI 1) hw202 ?_
      refine lv_if_eq (tgt := 41) hx hb d_M_table_36 (by decide) (fun hc9 => absurd hc9 (nI_ne0 (by omega) (by omega))) (fun _ => ?_)
      refine lv_iconst (v := (nI 0)) hx hb d_M_table_39 (by decide) ?_
      have hP9 := hP.sub [2, 0, 1] rfl
      exact W.iret (v := (nI 0)) hx hb hr (fun tS ht hW => ⟨⟨(nI 0), (1, T, fl, fc), rfl, Or.inl ⟨by simpa using hq, rfl⟩, by rw [ht]; exact hP9, va_K.moved hW.alike hK, hD.sub [2, 0, 1] (by decide) rfl⟩, hS.F ht⟩) hS.2.2 d_M_table_40
set_option maxHeartbeats 4000000 in
set_option maxRecDepth 100000 in
theorem c_M_set (l : Launch) (dC : Nat → ClassId) (dI : Nat → Nat → Nat) (cI : ClassId) (o0 o1 o2 o3 o4 o5 o6 o7 o8 o9 : Nat) (thr : Int32) (T : Nat) (ops res stp : Int32) (sz : Nat → Nat) (fl fc : Nat → Int32) (lab : Nat → Nat) (hT8 : T ≤ 8) (hfl : ∀ t, t < T → fl t = nI (lab t)) (hlab : ∀ t, t < T → lab t < 256) (h27 : ∀ t, t < T → ct_pr sz (lab t).testBit 8 ≤ 27) (x y v : Int32) (sz0 : Nat) : Met l y_M_set w_M_set ({ frames := 2, cells := 0, slots := 0, locals := 43 }) (va_Pc [.ref o0, .int x, .int y, .int v] (ct_rw (dC, dI) ct_cl [(o0, .inr (4, [.int thr, .ref o1, .int (nI T), .ref o2, .ref o3, .int ops, .ref o4, .int res, .ref o5, .ref o6, .int stp, .ref o7, .ref o8, .ref o9])), (o1, .inl (cI, 8, .inl (fun j => nI (sz j)))), (o2, .inl (cI, 8, .inl fl)), (o3, .inl (cI, 216, .inl fc))] [(cI, .int)] sz0)) (va_Qv (fun (u : Nat × (Nat → Int32)) => (u = (1, fc) ∧ (ct_isn T x = false ∨ ∃ j : Nat, j < T ∧ x = nI j ∧ ct_isn (ct_pr sz (lab j).testBit 8) y = false)) ∨ (∃ j i : Nat, j < T ∧ x = nI j ∧ i < ct_pr sz (lab j).testBit 8 ∧ y = nI i ∧ u = (0, upd fc (27 * j + i) v))) (fun (u : Nat × (Nat → Int32)) t => ct_at (dC, dI) ct_cl [(cI, .int)] (va_A [(o0, .inr (4, [.int thr, .ref o1, .int (nI T), .ref o2, .ref o3, .int ops, .ref o4, .int res, .ref o5, .ref o6, .int stp, .ref o7, .ref o8, .ref o9])), (o1, .inl (cI, 8, .inl (fun j => nI (sz j)))), (o2, .inl (cI, 8, .inl fl)), (o3, .inl (cI, 216, .inl fc))] sz0) [(o0, .inr (4, [.int (nI (u.1)), .ref o1, .int (nI T), .ref o2, .ref o3, .int ops, .ref o4, .int res, .ref o5, .ref o6, .int stp, .ref o7, .ref o8, .ref o9])), (o1, .inl (cI, 8, .inl (fun j => nI (sz j)))), (o2, .inl (cI, 8, .inl fl)), (o3, .inl (cI, 216, .inl (u.2)))] t) (va_A [(o0, .inr (4, [.int thr, .ref o1, .int (nI T), .ref o2, .ref o3, .int ops, .ref o4, .int res, .ref o5, .ref o6, .int stp, .ref o7, .ref o8, .ref o9])), (o1, .inl (cI, 8, .inl (fun j => nI (sz j)))), (o2, .inl (cI, 8, .inl fl)), (o3, .inl (cI, 216, .inl fc))] sz0)) 0 0 (va_A [(o0, .inr (4, [.int thr, .ref o1, .int (nI T), .ref o2, .ref o3, .int ops, .ref o4, .int res, .ref o5, .ref o6, .int stp, .ref o7, .ref o8, .ref o9])), (o1, .inl (cI, 8, .inl (fun j => nI (sz j)))), (o2, .inl (cI, 8, .inl fl)), (o3, .inl (cI, 216, .inl fc))] sz0) := by
  refine Met.ofW (cc := b_M_set) (maxL := 6) (ret := none) (by decide) rfl ?_
  intro p e s m args below meth c s₁ Bd hml hv
  obtain ⟨hargs, hsz, hP, hK, hD0⟩ := hv
  have hx := Bd.exec
  have hb := Bd.bytes
  have hr := Bd.returns
  have hts : ∀ w ∈ k_M_set :: ct_tb, w.before args s = true := atoms_spec (ws := w_M_set) Bd.pre
  have hown : s.vm.findClass R_M = some m.cls := findClass_of_methodNamed Bd.named
  have hlocks := Bd.notSynchronized
  subst hsz
  have hD := hD0.self (sz := s.heap.size)
  generalize hAe : va_A [(o0, .inr (4, [.int thr, .ref o1, .int (nI T), .ref o2, .ref o3, .int ops, .ref o4, .int res, .ref o5, .ref o6, .int stp, .ref o7, .ref o8, .ref o9])), (o1, .inl (cI, 8, .inl (fun j => nI (sz j)))), (o2, .inl (cI, 8, .inl fl)), (o3, .inl (cI, 216, .inl fc))] s.heap.size = A at hD ⊢
  have hA : ∀ q : Nat, s.heap.size ≤ q → A q := fun q h => by rw [← hAe]; exact Or.inr h
  have hS : va_S A s.heap s.heap [] := va_S.rf
  have hl := lv_entry ([.ref o0, .int x, .int y, .int v]) (n := 6) (Nat.le_of_ble_eq_true rfl)
  rw [show entryFrame m args 6 = entryFrame m (([.ref o0, .int x, .int y, .int v] : List Value)).toArray 6 by rw [hargs], lg_entry_eq]
  generalize (lg_sl ([.ref o0, .int x, .int y, .int v]) ++ List.replicate (6 - (lg_sl ([.ref o0, .int x, .int y, .int v])).length) Slot.unset).toArray = ls at hl ⊢
  have hl : lv_has ls 6 [(0, .ref o0), (1, .int x), (2, .int y), (3, .int v)] := hl
  refine lv_aload_n hx hb d_M_set_0 rfl (lv_at hl 0 rfl) ?_
  refine lv_iload_n hx hb d_M_set_1 rfl (lv_at hl 1 rfl) ?_
  refine va_calli (va_runV (As := [.int x]) (rest := []) ⟨hx, hb, hml, hown, hts⟩ (c_M_isTable l dC dI cI o0 o1 o2 o3 o4 o5 o6 o7 o8 o9 thr T ops res stp (by omega) x) (cwV 1 hts (ct_giV (fun w h9 => ct_tl h9) kw_588 kw_590 kw_16 kw_30 kw_591) rfl rfl rfl (by decide +kernel) ⟨Nat.le_of_ble_eq_true rfl, Nat.le_of_ble_eq_true rfl⟩) ⟨ct_ro_blind, va_recv hK hP (ci := 4) (q0 := 0) rfl rfl, ct_ro_pre (hP.sub [0] rfl) hK⟩ rfl rfl hl.1 rfl (lv_room (Nat.le_of_ble_eq_true rfl)) d_M_set_2 ⟨Nat.le_of_ble_eq_true rfl, Nat.le_of_ble_eq_true rfl⟩) hS (fun q _ h9 => h9.elim) (fun q h9 => h9.elim) (fun ans1 uS tS H locs ht hvm hwans1 hB hz1 hk1 hS => ?_)
  have hP := ct_keep hP hk1
  refine ct_val (y := nI (if ct_isn T x = true then 1 else 0)) (hwans1) ?_
  by_cases hq : ct_isn T x = true
  · rw [if_pos hq]
    obtain ⟨j, hj, hxj⟩ := ct_isn_of (by omega) hq
    rw [hxj] at hl
    have hlj := hlab j hj
    have h27j := h27 j hj
    refine lv_istore (lv' := [(4, .int (nI 1)), (0, .ref o0), (1, .int (nI j)), (2, .int y), (3, .int v)]) hx hb d_M_set_5 hl (by decide) rfl (fun ls hl => ?_)
    refine lv_iload hx hb d_M_set_7 (lv_at hl 0 rfl) ?_
    refine lv_if_eq (tgt := 45) hx hb d_M_set_9 (by decide) (fun hc9 => absurd hc9 (nI_ne0 (by omega) (by omega))) (fun _ => ?_)
    refine lv_iload_n hx hb d_M_set_12 rfl (lv_at hl 3 rfl) ?_
    refine lv_iconst (v := (nI 0)) hx hb d_M_set_13 (by decide) ?_
    refine lv_aload_n hx hb d_M_set_14 rfl (lv_at hl 1 rfl) ?_
    refine lv_aload_n hx hb d_M_set_15 rfl (lv_at hl 1 rfl) ?_
    refine va_get (D := (dC, dI)) (ci := 4) (v := .ref o2) (C := R_M) (T := T_M) (N := 14) hx hb hts (fun w h9 => ct_tl (ki_M w h9)) hown hK hP 0 rfl rfl 3 (by decide) (hts _ (ct_tl kw_522)) (fun _ h9 => h9) rfl d_M_set_16 ?_
    refine lv_iload hx hb d_M_set_19 (lv_at hl 0 rfl) ?_
    refine lv_if_eq (tgt := 28) hx hb d_M_set_21 (by decide) (fun hc9 => absurd hc9 (nI_ne0 (by omega) (by omega))) (fun _ => ?_)
    refine lv_iload_n hx hb d_M_set_24 rfl (lv_at hl 2 rfl) ?_
    refine lv_goto (tgt := 29) hx hb d_M_set_25 (by decide) ?_
    refine ct_iald hx hb hK hP 2 0 rfl rfl (j := j) (by omega) (by omega) d_M_set_29 ?_
    refine ct_val (y := nI (lab j)) (hfl j hj) ?_
    refine va_calli (va_runV (As := [.int (nI (lab j))]) (rest := [.int (nI 0), .int y]) ⟨hx, hb, hml, hown, hts⟩ (c_M_product l dC dI cI o0 o1 o2 o3 o4 o5 o6 o7 o8 o9 thr (nI T) ops res stp sz (lab j) (by omega)) (cwV 1 hts (ct_giV (fun w h9 => ct_tl h9) kw_592 kw_594 kw_17 kw_30 kw_595) rfl rfl rfl (by decide +kernel) ⟨Nat.le_of_ble_eq_true rfl, Nat.le_of_ble_eq_true rfl⟩) ⟨ct_ro_blind, va_recv hK hP (ci := 4) (q0 := 0) rfl rfl, ct_ro_pre (hP.sub [0, 1] rfl) hK⟩ rfl rfl hl.1 rfl (lv_room (Nat.le_of_ble_eq_true rfl)) d_M_set_30 ⟨Nat.le_of_ble_eq_true rfl, Nat.le_of_ble_eq_true rfl⟩) hS (fun q _ h9 => h9.elim) (fun q h9 => h9.elim) (fun ans102 uS tS H locs ht hvm hwans102 hB hz1 hk1 hS => ?_)
    have hP := ct_keep hP hk1
    refine ct_val (y := nI (ct_pr sz (lab j).testBit 8)) (hwans102) ?_
    refine lv_iconst (v := (nI 1)) hx hb d_M_set_33 (by decide) ?_
    refine lv_isub hx hb d_M_set_34 ?_
    refine va_calli (va_runS (As := [.int y, .int (nI 0), .int ((nI (ct_pr sz (lab j).testBit 8)) - (nI 1))]) (rest := []) ⟨hx, hb, hml, hown, hts⟩ (c_M_in l dC dI cI y (nI 0) (nI (ct_pr sz (lab j).testBit 8) - nI 1)) (va_cwS 3 hts (ct_giT (fun w h9 => ct_tl h9) kw_570 kw_571 kw_30 kw_572) rfl rfl rfl (by decide +kernel) ⟨Nat.le_of_ble_eq_true rfl, Nat.le_of_ble_eq_true rfl⟩) ⟨ct_ro_blind, ct_ro_pre (hP.sub [] rfl) hK⟩ rfl rfl hl.1 rfl (lv_room (Nat.le_of_ble_eq_true rfl)) d_M_set_35 ⟨Nat.le_of_ble_eq_true rfl, Nat.le_of_ble_eq_true rfl⟩) hS (fun q _ h9 => h9.elim) (fun q h9 => h9.elim) (fun ans103 uS tS H locs ht hvm hwans103 hB hz1 hk1 hS => ?_)
    have hP := ct_keep hP hk1
    refine ct_val (y := nI (if ct_in2 y (nI 0) (nI (ct_pr sz (lab j).testBit 8) - nI 1) = true then 1 else 0)) (hwans103) ?_
    refine ct_val (y := nI (if ct_isn (ct_pr sz (lab j).testBit 8) y = true then 1 else 0)) (by rw [ct_in2_isn (by omega)]) ?_
    by_cases hq2 : ct_isn (ct_pr sz (lab j).testBit 8) y = true
    · rw [if_pos hq2]
      refine lv_if_eq (tgt := 45) hx hb d_M_set_38 (by decide) (fun hc9 => absurd hc9 (nI_ne0 (by omega) (by omega))) (fun _ => ?_)
      refine lv_iconst (v := (nI 1)) hx hb d_M_set_41 (by decide) ?_
      refine lv_goto (tgt := 46) hx hb d_M_set_42 (by decide) ?_
      refine lv_istore (lv' := [(5, .int (nI 1)), (4, .int (nI 1)), (0, .ref o0), (1, .int (nI j)), (2, .int y), (3, .int v)]) hx hb d_M_set_46 hl (by decide) rfl (fun ls hl => ?_)
      refine lv_aload_n hx hb d_M_set_48 rfl (lv_at hl 2 rfl) ?_
      refine lv_iload hx hb d_M_set_49 (lv_at hl 0 rfl) ?_
      refine lv_if_ne (tgt := 58) hx hb d_M_set_51 (by decide) (fun _ => ?_) (fun hc9 => absurd hc9 (nI_ne0 (by omega) (by omega)))
      refine lv_iconst (v := (nI 0)) hx hb d_M_set_58 (by decide) ?_
      refine lv_iconst (v := (nI 0)) hx hb d_M_set_59 (by decide) ?_
      have hPc := hP.sub (ws' := [(o0, .inr (4, [.int thr, .ref o1, .int (nI T), .ref o2, .ref o3, .int ops, .ref o4, .int res, .ref o5, .ref o6, .int stp, .ref o7, .ref o8, .ref o9]))]) [0] rfl
      have hDc := hD.sub (ws' := [(o0, .inr (4, [.int thr, .ref o1, .int (nI T), .ref o2, .ref o3, .int ops, .ref o4, .int res, .ref o5, .ref o6, .int stp, .ref o7, .ref o8, .ref o9]))]) [0] (by decide) rfl
      have hFc := va_free (wc := [(o0, .inr (4, [.int thr, .ref o1, .int (nI T), .ref o2, .ref o3, .int ops, .ref o4, .int res, .ref o5, .ref o6, .int stp, .ref o7, .ref o8, .ref o9]))]) hD hS hA [0] rfl
      refine va_calli (va_runV (As := [.int (nI 0), .int (nI 0)]) (rest := []) ⟨hx, hb, hml, hown, hts⟩ (c_M_refuse l dC dI cI o0 o1 o2 o3 o4 o5 o6 o7 o8 o9 thr (nI T) ops res stp 0 0 (by omega) (by omega) H.size) (cwV 2 hts (ct_giV (fun w h9 => ct_tl h9) kw_573 kw_575 kw_15 kw_30 kw_576) rfl rfl rfl (by decide +kernel) ⟨Nat.le_of_ble_eq_true rfl, Nat.le_of_ble_eq_true rfl⟩) ⟨ct_rw_blind, va_recv hK hP (ci := 4) (q0 := 0) rfl rfl, ct_rw_pre hPc hK hDc⟩ rfl rfl hl.1 rfl (lv_room (Nat.le_of_ble_eq_true rfl)) d_M_set_60 ⟨Nat.zero_le _, Nat.zero_le _⟩) hS (fun q _ h9 => hFc q h9) hFc (fun ans205 u tS H1 locs ht hvm hw204 hB hz1 hk1 hS => ?_)
      obtain ⟨hP1, -, hD1⟩ := hB
      rw [ht] at hP1
      obtain ⟨hP, hD⟩ := va_join (wr := [(o1, .inl (cI, 8, .inl (fun j => nI (sz j)))), (o2, .inl (cI, 8, .inl fl)), (o3, .inl (cI, 216, .inl fc))]) (w1 := [(o0, .inr (4, [.int (nI 0), .ref o1, .int (nI T), .ref o2, .ref o3, .int ops, .ref o4, .int res, .ref o5, .ref o6, .int stp, .ref o7, .ref o8, .ref o9]))]) hP hD [0] [1, 2, 3] rfl rfl (by decide) (by decide) hk1 hFc hP1 hD1
      generalize H1 = H at hP hS ⊢
      have hP : va_P (dC, dI) ct_cl [(o1, .inl (cI, 8, .inl (fun j => nI (sz j)))), (o2, .inl (cI, 8, .inl fl)), (o3, .inl (cI, 216, .inl fc)), (o0, .inr (4, [.int (nI 0), .ref o1, .int (nI T), .ref o2, .ref o3, .int ops, .ref o4, .int res, .ref o5, .ref o6, .int stp, .ref o7, .ref o8, .ref o9]))] H := hP
      have hD : va_D A [(o1, .inl (cI, 8, .inl (fun j => nI (sz j)))), (o2, .inl (cI, 8, .inl fl)), (o3, .inl (cI, 216, .inl fc)), (o0, .inr (4, [.int (nI 0), .ref o1, .int (nI T), .ref o2, .ref o3, .int ops, .ref o4, .int res, .ref o5, .ref o6, .int stp, .ref o7, .ref o8, .ref o9]))] := hD
      refine ct_val (y := nI 0) hw204 ?_
      refine lv_if_ne (tgt := 78) hx hb d_M_set_63 (by decide) (fun hc9 => absurd (nI_0) hc9) (fun _ => ?_)
      obtain ⟨i, hi, hyi⟩ := ct_isn_of (by omega) hq2
      rw [hyi] at hl
      refine lv_aload_n hx hb d_M_set_66 rfl (lv_at hl 2 rfl) ?_
      refine va_get (D := (dC, dI)) (ci := 4) (v := .ref o3) (C := R_M) (T := T_M) (N := 14) hx hb hts (fun w h9 => ct_tl (ki_M w h9)) hown hK hP 3 rfl rfl 4 (by decide) (hts _ (ct_tl kw_523)) (fun _ h9 => h9) rfl d_M_set_67 ?_
      refine lv_bipush (v := (nI 27)) hx hb d_M_set_70 (by decide) ?_
      refine lv_iload_n hx hb d_M_set_72 rfl (lv_at hl 3 rfl) ?_
      refine lv_imul hx hb d_M_set_73 ?_
      refine ct_val (y := nI (27 * j)) (pk_mul _ _) ?_
      refine lv_iload_n hx hb d_M_set_74 rfl (lv_at hl 4 rfl) ?_
      refine lv_iadd hx hb d_M_set_75 ?_
      refine ct_val (y := nI (27 * j + i)) (nI_add _ _) ?_
      refine lv_iload_n hx hb d_M_set_76 rfl (lv_at hl 5 rfl) ?_
      refine ct_iast hx hb hK hP hD hS 2 0 rfl rfl (j := 27 * j + i) (by omega) (by omega) d_M_set_77 (fun H locs hP hD hS => ?_)
      have hP : va_P (dC, dI) ct_cl [(o1, .inl (cI, 8, .inl (fun j => nI (sz j)))), (o2, .inl (cI, 8, .inl fl)), (o3, .inl (cI, 216, .inl (upd fc (27 * j + i) v))), (o0, .inr (4, [.int (nI 0), .ref o1, .int (nI T), .ref o2, .ref o3, .int ops, .ref o4, .int res, .ref o5, .ref o6, .int stp, .ref o7, .ref o8, .ref o9]))] H := hP
      have hD : va_D A [(o1, .inl (cI, 8, .inl (fun j => nI (sz j)))), (o2, .inl (cI, 8, .inl fl)), (o3, .inl (cI, 216, .inl (upd fc (27 * j + i) v))), (o0, .inr (4, [.int (nI 0), .ref o1, .int (nI T), .ref o2, .ref o3, .int ops, .ref o4, .int res, .ref o5, .ref o6, .int stp, .ref o7, .ref o8, .ref o9]))] := hD
      have hP9 := hP.sub [3, 0, 1, 2] rfl
      exact W.vret hx hb hr (fun tS ht hW => ⟨⟨(0, upd fc (27 * j + i) v), rfl, Or.inr ⟨j, i, hj, hxj, hi, hyi, rfl⟩, by rw [ht]; exact hP9, va_K.moved hW.alike hK, hD.sub [3, 0, 1, 2] (by decide) rfl⟩, hS.F ht⟩) hS.2.2 d_M_set_78
    · rw [if_neg hq2]
      refine lv_if_eq (tgt := 45) hx hb d_M_set_38 (by decide) (fun _ => ?_) (fun hc9 => absurd (nI_0) hc9)
      refine lv_iconst (v := (nI 0)) hx hb d_M_set_45 (by decide) ?_
      refine lv_istore (lv' := [(5, .int (nI 0)), (4, .int (nI 1)), (0, .ref o0), (1, .int (nI j)), (2, .int y), (3, .int v)]) hx hb d_M_set_46 hl (by decide) rfl (fun ls hl => ?_)
      refine lv_aload_n hx hb d_M_set_48 rfl (lv_at hl 2 rfl) ?_
      refine lv_iload hx hb d_M_set_49 (lv_at hl 0 rfl) ?_
      refine lv_if_ne (tgt := 58) hx hb d_M_set_51 (by decide) (fun hc9 => absurd (nI_0) hc9) (fun _ => ?_)
      refine lv_iconst (v := (nI 1)) hx hb d_M_set_54 (by decide) ?_
      refine lv_goto (tgt := 59) hx hb d_M_set_55 (by decide) ?_
      refine lv_iconst (v := (nI 0)) hx hb d_M_set_59 (by decide) ?_
      have hPc := hP.sub (ws' := [(o0, .inr (4, [.int thr, .ref o1, .int (nI T), .ref o2, .ref o3, .int ops, .ref o4, .int res, .ref o5, .ref o6, .int stp, .ref o7, .ref o8, .ref o9]))]) [0] rfl
      have hDc := hD.sub (ws' := [(o0, .inr (4, [.int thr, .ref o1, .int (nI T), .ref o2, .ref o3, .int ops, .ref o4, .int res, .ref o5, .ref o6, .int stp, .ref o7, .ref o8, .ref o9]))]) [0] (by decide) rfl
      have hFc := va_free (wc := [(o0, .inr (4, [.int thr, .ref o1, .int (nI T), .ref o2, .ref o3, .int ops, .ref o4, .int res, .ref o5, .ref o6, .int stp, .ref o7, .ref o8, .ref o9]))]) hD hS hA [0] rfl
      refine va_calli (va_runV (As := [.int (nI 1), .int (nI 0)]) (rest := []) ⟨hx, hb, hml, hown, hts⟩ (c_M_refuse l dC dI cI o0 o1 o2 o3 o4 o5 o6 o7 o8 o9 thr (nI T) ops res stp 1 0 (by omega) (by omega) H.size) (cwV 2 hts (ct_giV (fun w h9 => ct_tl h9) kw_573 kw_575 kw_15 kw_30 kw_576) rfl rfl rfl (by decide +kernel) ⟨Nat.le_of_ble_eq_true rfl, Nat.le_of_ble_eq_true rfl⟩) ⟨ct_rw_blind, va_recv hK hP (ci := 4) (q0 := 0) rfl rfl, ct_rw_pre hPc hK hDc⟩ rfl rfl hl.1 rfl (lv_room (Nat.le_of_ble_eq_true rfl)) d_M_set_60 ⟨Nat.zero_le _, Nat.zero_le _⟩) hS (fun q _ h9 => hFc q h9) hFc (fun ans205 u tS H1 locs ht hvm hw204 hB hz1 hk1 hS => ?_)
      obtain ⟨hP1, -, hD1⟩ := hB
      rw [ht] at hP1
      obtain ⟨hP, hD⟩ := va_join (wr := [(o1, .inl (cI, 8, .inl (fun j => nI (sz j)))), (o2, .inl (cI, 8, .inl fl)), (o3, .inl (cI, 216, .inl fc))]) (w1 := [(o0, .inr (4, [.int (nI 1), .ref o1, .int (nI T), .ref o2, .ref o3, .int ops, .ref o4, .int res, .ref o5, .ref o6, .int stp, .ref o7, .ref o8, .ref o9]))]) hP hD [0] [1, 2, 3] rfl rfl (by decide) (by decide) hk1 hFc hP1 hD1
      generalize H1 = H at hP hS ⊢
      have hP : va_P (dC, dI) ct_cl [(o1, .inl (cI, 8, .inl (fun j => nI (sz j)))), (o2, .inl (cI, 8, .inl fl)), (o3, .inl (cI, 216, .inl fc)), (o0, .inr (4, [.int (nI 1), .ref o1, .int (nI T), .ref o2, .ref o3, .int ops, .ref o4, .int res, .ref o5, .ref o6, .int stp, .ref o7, .ref o8, .ref o9]))] H := hP
      have hD : va_D A [(o1, .inl (cI, 8, .inl (fun j => nI (sz j)))), (o2, .inl (cI, 8, .inl fl)), (o3, .inl (cI, 216, .inl fc)), (o0, .inr (4, [.int (nI 1), .ref o1, .int (nI T), .ref o2, .ref o3, .int ops, .ref o4, .int res, .ref o5, .ref o6, .int stp, .ref o7, .ref o8, .ref o9]))] := hD
      refine ct_val (y := nI 1) hw204 ?_
      refine lv_if_ne (tgt := 78) hx hb d_M_set_63 (by decide) (fun _ => ?_) (fun hc9 => absurd hc9 (nI_ne0 (by omega) (by omega)))
      have hP9 := hP.sub [3, 0, 1, 2] rfl
      exact W.vret hx hb hr (fun tS ht hW => ⟨⟨(1, fc), rfl, Or.inl ⟨rfl, Or.inr ⟨j, hj, hxj, by simpa using hq2⟩⟩, by rw [ht]; exact hP9, va_K.moved hW.alike hK, hD.sub [3, 0, 1, 2] (by decide) rfl⟩, hS.F ht⟩) hS.2.2 d_M_set_78
  · rw [if_neg hq]
    refine lv_istore (lv' := [(4, .int (nI 0)), (0, .ref o0), (1, .int x), (2, .int y), (3, .int v)]) hx hb d_M_set_5 hl (by decide) rfl (fun ls hl => ?_)
    refine lv_iload hx hb d_M_set_7 (lv_at hl 0 rfl) ?_
    refine lv_if_eq (tgt := 45) hx hb d_M_set_9 (by decide) (fun _ => ?_) (fun hc9 => absurd (nI_0) hc9)
    refine lv_iconst (v := (nI 0)) hx hb d_M_set_45 (by decide) ?_
    refine lv_istore (lv' := [(5, .int (nI 0)), (4, .int (nI 0)), (0, .ref o0), (1, .int x), (2, .int y), (3, .int v)]) hx hb d_M_set_46 hl (by decide) rfl (fun ls hl => ?_)
    refine lv_aload_n hx hb d_M_set_48 rfl (lv_at hl 2 rfl) ?_
    refine lv_iload hx hb d_M_set_49 (lv_at hl 0 rfl) ?_
    refine lv_if_ne (tgt := 58) hx hb d_M_set_51 (by decide) (fun hc9 => absurd (nI_0) hc9) (fun _ => ?_)
    refine lv_iconst (v := (nI 1)) hx hb d_M_set_54 (by decide) ?_
    refine lv_goto (tgt := 59) hx hb d_M_set_55 (by decide) ?_
    refine lv_iconst (v := (nI 0)) hx hb d_M_set_59 (by decide) ?_
    have hPc := hP.sub (ws' := [(o0, .inr (4, [.int thr, .ref o1, .int (nI T), .ref o2, .ref o3, .int ops, .ref o4, .int res, .ref o5, .ref o6, .int stp, .ref o7, .ref o8, .ref o9]))]) [0] rfl
    have hDc := hD.sub (ws' := [(o0, .inr (4, [.int thr, .ref o1, .int (nI T), .ref o2, .ref o3, .int ops, .ref o4, .int res, .ref o5, .ref o6, .int stp, .ref o7, .ref o8, .ref o9]))]) [0] (by decide) rfl
    have hFc := va_free (wc := [(o0, .inr (4, [.int thr, .ref o1, .int (nI T), .ref o2, .ref o3, .int ops, .ref o4, .int res, .ref o5, .ref o6, .int stp, .ref o7, .ref o8, .ref o9]))]) hD hS hA [0] rfl
    refine va_calli (va_runV (As := [.int (nI 1), .int (nI 0)]) (rest := []) ⟨hx, hb, hml, hown, hts⟩ (c_M_refuse l dC dI cI o0 o1 o2 o3 o4 o5 o6 o7 o8 o9 thr (nI T) ops res stp 1 0 (by omega) (by omega) H.size) (cwV 2 hts (ct_giV (fun w h9 => ct_tl h9) kw_573 kw_575 kw_15 kw_30 kw_576) rfl rfl rfl (by decide +kernel) ⟨Nat.le_of_ble_eq_true rfl, Nat.le_of_ble_eq_true rfl⟩) ⟨ct_rw_blind, va_recv hK hP (ci := 4) (q0 := 0) rfl rfl, ct_rw_pre hPc hK hDc⟩ rfl rfl hl.1 rfl (lv_room (Nat.le_of_ble_eq_true rfl)) d_M_set_60 ⟨Nat.zero_le _, Nat.zero_le _⟩) hS (fun q _ h9 => hFc q h9) hFc (fun ans103 u tS H1 locs ht hvm hw102 hB hz1 hk1 hS => ?_)
    obtain ⟨hP1, -, hD1⟩ := hB
    rw [ht] at hP1
    obtain ⟨hP, hD⟩ := va_join (wr := [(o1, .inl (cI, 8, .inl (fun j => nI (sz j)))), (o2, .inl (cI, 8, .inl fl)), (o3, .inl (cI, 216, .inl fc))]) (w1 := [(o0, .inr (4, [.int (nI 1), .ref o1, .int (nI T), .ref o2, .ref o3, .int ops, .ref o4, .int res, .ref o5, .ref o6, .int stp, .ref o7, .ref o8, .ref o9]))]) hP hD [0] [1, 2, 3] rfl rfl (by decide) (by decide) hk1 hFc hP1 hD1
    generalize H1 = H at hP hS ⊢
    have hP : va_P (dC, dI) ct_cl [(o1, .inl (cI, 8, .inl (fun j => nI (sz j)))), (o2, .inl (cI, 8, .inl fl)), (o3, .inl (cI, 216, .inl fc)), (o0, .inr (4, [.int (nI 1), .ref o1, .int (nI T), .ref o2, .ref o3, .int ops, .ref o4, .int res, .ref o5, .ref o6, .int stp, .ref o7, .ref o8, .ref o9]))] H := hP
    have hD : va_D A [(o1, .inl (cI, 8, .inl (fun j => nI (sz j)))), (o2, .inl (cI, 8, .inl fl)), (o3, .inl (cI, 216, .inl fc)), (o0, .inr (4, [.int (nI 1), .ref o1, .int (nI T), .ref o2, .ref o3, .int ops, .ref o4, .int res, .ref o5, .ref o6, .int stp, .ref o7, .ref o8, .ref o9]))] := hD
    refine ct_val (y := nI 1) hw102 ?_
    refine lv_if_ne (tgt := 78) hx hb d_M_set_63 (by decide) (fun _ => ?_) (fun hc9 => absurd hc9 (nI_ne0 (by omega) (by omega)))
    have hP9 := hP.sub [3, 0, 1, 2] rfl
    exact W.vret hx hb hr (fun tS ht hW => ⟨⟨(1, fc), rfl, Or.inl ⟨rfl, Or.inl (by simpa using hq)⟩, by rw [ht]; exact hP9, va_K.moved hW.alike hK, hD.sub [3, 0, 1, 2] (by decide) rfl⟩, hS.F ht⟩) hS.2.2 d_M_set_78
