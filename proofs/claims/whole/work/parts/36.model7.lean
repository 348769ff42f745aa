/-- the choice at place i of the result, on the eight labels -/
def ct_rch (sz : Nat → Nat) (R i : Nat) (t0 : Nat → Nat) : Nat → Nat := fun j => if j < 8 then ct_de sz R.testBit 8 i j else t0 j
/-- the model's way down the labels: those from n on are done -/
def ct_dn (sz : Nat → Nat) (R i : Nat) (t0 : Nat → Nat) (n q : Nat) (t : Nat → Nat) : Prop := (∀ j, j < n → ct_de sz R.testBit 8 i j = ct_de sz R.testBit n q j) ∧ (∀ j, n ≤ j → t j = ct_rch sz R i t0 j) ∧ q ≤ i
theorem ct_dn_in {sz : Nat → Nat} {R i n q : Nat} {t0 t : Nat → Nat} (h : ct_dn sz R i t0 (n + 1) q t) (hn : n < 8) (hb : R.testBit n = true) : ct_dn sz R i t0 n (q / sz n) (ct_st t n (q % sz n)) := by
  obtain ⟨h1, h2, h3⟩ := h
  refine ⟨fun j hj => ?_, fun j hj => ?_, Nat.le_trans (Nat.div_le_self _ _) h3⟩
  · rw [h1 j (by omega), ct_de_in hb, ct_st_ne _ _ (by omega)]
  · by_cases hjn : j = n
    · rw [hjn, ct_st_at, ct_rch, if_pos hn, h1 n (by omega), ct_de_in hb, ct_st_at]
    · rw [ct_st_ne _ _ hjn]; exact h2 j (by omega)
theorem ct_dn_out {sz : Nat → Nat} {R i n q : Nat} {t0 t : Nat → Nat} (h : ct_dn sz R i t0 (n + 1) q t) (hn : n < 8) (hb : R.testBit n = false) : ct_dn sz R i t0 n q (ct_st t n 0) := by
  obtain ⟨h1, h2, h3⟩ := h
  refine ⟨fun j hj => ?_, fun j hj => ?_, h3⟩
  · rw [h1 j (by omega), ct_de_out hb]
  · by_cases hjn : j = n
    · rw [hjn, ct_st_at, ct_rch, if_pos hn, ct_de_no 8 i n hb]
    · rw [ct_st_ne _ _ hjn]; exact h2 j (by omega)
theorem ct_dn_end {sz : Nat → Nat} {R i q : Nat} {t0 t : Nat → Nat} (h : ct_dn sz R i t0 0 q t) : t = ct_rch sz R i t0 := funext fun j => h.2.1 j (Nat.zero_le j)
theorem ct_rch_ix {sz : Nat → Nat} {R i : Nat} {t0 : Nat → Nat} (hs : ∀ j, j < 8 → 0 < sz j) (hi : i < ct_pr sz R.testBit 8) : ct_ix sz R.testBit 8 (ct_rch sz R i t0) = i := by
  rw [ct_ix_congr (t := ct_rch sz R i t0) (t' := ct_de sz R.testBit 8 i) 8 (fun _ _ => rfl) (fun _ _ _ => rfl) (fun j hj _ => if_pos hj)]
  exact ct_ix_de 8 hs i hi
theorem ct_rch_lt {sz : Nat → Nat} {R i : Nat} {t0 : Nat → Nat} (hs : ∀ j, j < 8 → 0 < sz j) {j : Nat} (hj : j < 8) : ct_rch sz R i t0 j < sz j := by
  rw [ct_rch, if_pos hj]; exact ct_de_lt 8 i j hs hj
theorem ct_mx_lt {sz : Nat → Nat} {U : Nat → Bool} {r : Nat → Nat} (hs : ∀ j, j < 8 → 0 < sz j) (hr : ∀ j, j < 8 → r j < sz j) (q : Nat) {j : Nat} (hj : j < 8) : ct_mx U r (ct_de sz U 8 q) j < sz j := by
  cases hU : U j with
  | true => rw [ct_mx_in hU]; exact ct_de_lt 8 q j hs hj
  | false => rw [ct_mx_out hU]; exact hr j hj
theorem ct_spec_sum {sz la ot : Nat → Nat} {K R : Nat} {f : Nat → Int32} (hs : ∀ j, j < 8 → 0 < sz j) (hla : ∀ k, k < K → la k < 256) (r : Nat → Nat) : ct_sum (fun q => ct_pd (ct_vv sz la ot f) (2 ^ K - 1) K (ct_mx (ct_has la (2 ^ K - 1) K ^^^ (ct_has la (2 ^ K - 1) K &&& R)).testBit r (ct_de sz (ct_has la (2 ^ K - 1) K ^^^ (ct_has la (2 ^ K - 1) K &&& R)).testBit 8 q))) (ct_pr sz (ct_has la (2 ^ K - 1) K ^^^ (ct_has la (2 ^ K - 1) K &&& R)).testBit 8) = ct_spec sz la ot K R f r := by
  rw [ct_sum_mx hs (fun k hk => Nat.testBit_lt_two_pow (Nat.lt_of_lt_of_le (ct_andn_lt (ct_has_lt K hla)) (Nat.pow_le_pow_right (n := 2) (by omega) hk : 2 ^ 8 ≤ 2 ^ k))) (ct_pd (ct_vv sz la ot f) (2 ^ K - 1) K) r]
  exact ct_sm_congr 8 (fun k _ => ct_andn_bit _ _ k) (fun _ => rfl) r
set_option maxHeartbeats 4000000 in
set_option maxRecDepth 100000 in
theorem c_M_value (l : Launch) (dC : Nat → ClassId) (dI : Nat → Nat → Nat) (cI : ClassId) (o0 o1 o2 o3 o4 o5 o6 o7 o8 o9 : Nat) (thr tab : Int32) (K : Nat) (R : Nat) (stp : Int32) (fl fo : Nat → Int32) (la ot : Nat → Nat) (hK6 : K ≤ 6) (hfo : ∀ o, o < K → fo o = nI (ot o) ∧ ot o < 8) (hfl : ∀ o, o < K → fl (ot o) = nI (la o)) (sz : Nat → Nat) (hla : ∀ k, k < K → la k < 256) (hR : R < 256) (hsz : ∀ k, k < 8 → 0 < sz k ∧ sz k < 4) (hp27 : ∀ o, o < K → ct_pr sz (la o).testBit 8 ≤ 27) (hR27 : (ct_pr sz R.testBit 8) ≤ 27) (fm : Nat → Int32) (tt : Nat → Nat) (x : Int32) (sz0 : Nat) : Met l y_M_value w_M_value ({ frames := 1, cells := 0, slots := 0, locals := 23 }) (va_Pc [.ref o0, .int x] (ct_rw (dC, dI) ct_cl [(o0, .inr (4, [.int thr, .ref o1, .int tab, .ref o2, .ref o3, .int (nI K), .ref o4, .int (nI R), .ref o5, .ref o6, .int stp, .ref o7, .ref o8, .ref o9])), (o2, .inl (cI, 8, .inl fl)), (o4, .inl (cI, 6, .inl fo)), (o1, .inl (cI, 8, .inl (fun j => nI (sz j)))), (o3, .inl (cI, 216, .inl fm)), (o9, .inl (cI, 8, .inl (fun j => nI (tt j))))] [(cI, .int)] sz0)) (va_Qi (fun (r : Int32) (u : Nat × (Nat → Nat)) => (ct_isn (ct_pr sz R.testBit 8) x = false ∧ u.1 = 1) ∨ (ct_isn (ct_pr sz R.testBit 8) x = true ∧ u.1 = 0 ∧ ∃ (i : Nat) (rr : Nat → Nat), i < (ct_pr sz R.testBit 8) ∧ x = nI i ∧ (∀ k, k < 8 → rr k < sz k) ∧ ct_ix sz R.testBit 8 rr = i ∧ r = ct_spec sz la ot K R fm rr)) (fun (u : Nat × (Nat → Nat)) t => ct_at (dC, dI) ct_cl [(cI, .int)] (va_A [(o0, .inr (4, [.int thr, .ref o1, .int tab, .ref o2, .ref o3, .int (nI K), .ref o4, .int (nI R), .ref o5, .ref o6, .int stp, .ref o7, .ref o8, .ref o9])), (o2, .inl (cI, 8, .inl fl)), (o4, .inl (cI, 6, .inl fo)), (o1, .inl (cI, 8, .inl (fun j => nI (sz j)))), (o3, .inl (cI, 216, .inl fm)), (o9, .inl (cI, 8, .inl (fun j => nI (tt j))))] sz0) [(o0, .inr (4, [.int (nI (u.1)), .ref o1, .int tab, .ref o2, .ref o3, .int (nI K), .ref o4, .int (nI R), .ref o5, .ref o6, .int stp, .ref o7, .ref o8, .ref o9])), (o2, .inl (cI, 8, .inl fl)), (o4, .inl (cI, 6, .inl fo)), (o1, .inl (cI, 8, .inl (fun j => nI (sz j)))), (o3, .inl (cI, 216, .inl fm)), (o9, .inl (cI, 8, .inl (fun j => nI (u.2 j))))] t) (va_A [(o0, .inr (4, [.int thr, .ref o1, .int tab, .ref o2, .ref o3, .int (nI K), .ref o4, .int (nI R), .ref o5, .ref o6, .int stp, .ref o7, .ref o8, .ref o9])), (o2, .inl (cI, 8, .inl fl)), (o4, .inl (cI, 6, .inl fo)), (o1, .inl (cI, 8, .inl (fun j => nI (sz j)))), (o3, .inl (cI, 216, .inl fm)), (o9, .inl (cI, 8, .inl (fun j => nI (tt j))))] sz0)) 0 0 (va_A [(o0, .inr (4, [.int thr, .ref o1, .int tab, .ref o2, .ref o3, .int (nI K), .ref o4, .int (nI R), .ref o5, .ref o6, .int stp, .ref o7, .ref o8, .ref o9])), (o2, .inl (cI, 8, .inl fl)), (o4, .inl (cI, 6, .inl fo)), (o1, .inl (cI, 8, .inl (fun j => nI (sz j)))), (o3, .inl (cI, 216, .inl fm)), (o9, .inl (cI, 8, .inl (fun j => nI (tt j))))] sz0) := by
  refine Met.ofW (cc := b_M_value) (maxL := 8) (ret := (some .int)) (by decide) rfl ?_
  intro p e s m args below meth c s₁ Bd hml hv
  obtain ⟨hargs, hsz, hP, hK, hD0⟩ := hv
  have hx := Bd.exec
  have hb := Bd.bytes
  have hr := Bd.returns
  have hts : ∀ w ∈ k_M_value :: ct_tb, w.before args s = true := atoms_spec (ws := w_M_value) Bd.pre
  have hown : s.vm.findClass R_M = some m.cls := findClass_of_methodNamed Bd.named
  have hlocks := Bd.notSynchronized
  subst hsz
  have hD := hD0.self (sz := s.heap.size)
  generalize hAe : va_A [(o0, .inr (4, [.int thr, .ref o1, .int tab, .ref o2, .ref o3, .int (nI K), .ref o4, .int (nI R), .ref o5, .ref o6, .int stp, .ref o7, .ref o8, .ref o9])), (o2, .inl (cI, 8, .inl fl)), (o4, .inl (cI, 6, .inl fo)), (o1, .inl (cI, 8, .inl (fun j => nI (sz j)))), (o3, .inl (cI, 216, .inl fm)), (o9, .inl (cI, 8, .inl (fun j => nI (tt j))))] s.heap.size = A at hD ⊢
  have hA : ∀ q : Nat, s.heap.size ≤ q → A q := fun q h => by rw [← hAe]; exact Or.inr h
  have hS : va_S A s.heap s.heap [] := va_S.rf
  have hl := lv_entry ([.ref o0, .int x]) (n := 8) (Nat.le_of_ble_eq_true rfl)
  rw [show entryFrame m args 8 = entryFrame m (([.ref o0, .int x] : List Value)).toArray 8 by rw [hargs], lg_entry_eq]
  generalize (lg_sl ([.ref o0, .int x]) ++ List.replicate (8 - (lg_sl ([.ref o0, .int x])).length) Slot.unset).toArray = ls at hl ⊢
  have hl : lv_has ls 8 [(0, .ref o0), (1, .int x)] := hl
  have hs0 : ∀ j, j < 8 → 0 < sz j := fun j hj => (hsz j hj).1
  have h2K := ct_2K K (by omega)
  refine lv_aload_n hx hb d_M_value_0 rfl (lv_at hl 0 rfl) ?_
  refine lv_iload_n hx hb d_M_value_1 rfl (lv_at hl 1 rfl) ?_
  refine lv_iconst (v := (nI 0)) hx hb d_M_value_2 (by decide) ?_
  refine lv_aload_n hx hb d_M_value_3 rfl (lv_at hl 0 rfl) ?_
  refine lv_aload_n hx hb d_M_value_4 rfl (lv_at hl 0 rfl) ?_
  refine va_get (D := (dC, dI)) (ci := 4) (v := .int (nI R)) (C := R_M) (T := T_M) (N := 14) hx hb hts (fun w h9 => ct_tl (ki_M w h9)) hown hK hP 0 rfl rfl 7 (by decide) (hts _ (ct_tl kw_526)) (fun _ h9 => h9) rfl d_M_value_5 ?_
  refine va_calli (va_runV (As := [.int (nI R)]) (rest := [.int (nI 0), .int x, .ref o0]) ⟨hx, hb, hml, hown, hts⟩ (c_M_product l dC dI cI o0 o1 o2 o3 o4 o5 o6 o7 o8 o9 thr tab (nI K) (nI R) stp sz R (by omega)) (cwV 1 hts (ct_giV (fun w h9 => ct_tl h9) kw_592 kw_594 kw_17 kw_30 kw_595) rfl rfl rfl (by decide +kernel) ⟨Nat.le_of_ble_eq_true rfl, Nat.le_of_ble_eq_true rfl⟩) ⟨ct_ro_blind, va_recv hK hP (ci := 4) (q0 := 0) rfl rfl, ct_ro_pre (hP.sub [0, 3] rfl) hK⟩ rfl rfl hl.1 rfl (lv_room (Nat.le_of_ble_eq_true rfl)) d_M_value_8 ⟨Nat.le_of_ble_eq_true rfl, Nat.le_of_ble_eq_true rfl⟩) hS (fun q _ h9 => h9.elim) (fun q h9 => h9.elim) (fun ans1 uS tS H locs ht hvm hwans1 hB hz1 hk1 hS => ?_)
  have hP := ct_keep hP hk1
  refine ct_val (y := nI (ct_pr sz (R).testBit 8)) (hwans1) ?_
  refine lv_iconst (v := (nI 1)) hx hb d_M_value_11 (by decide) ?_
  refine lv_isub hx hb d_M_value_12 ?_
  refine va_calli (va_runS (As := [.int x, .int (nI 0), .int ((nI (ct_pr sz (R).testBit 8)) - (nI 1))]) (rest := [.ref o0]) ⟨hx, hb, hml, hown, hts⟩ (c_M_in l dC dI cI x (nI 0) (nI (ct_pr sz R.testBit 8) - nI 1)) (va_cwS 3 hts (ct_giT (fun w h9 => ct_tl h9) kw_570 kw_571 kw_30 kw_572) rfl rfl rfl (by decide +kernel) ⟨Nat.le_of_ble_eq_true rfl, Nat.le_of_ble_eq_true rfl⟩) ⟨ct_ro_blind, ct_ro_pre (hP.sub [] rfl) hK⟩ rfl rfl hl.1 rfl (lv_room (Nat.le_of_ble_eq_true rfl)) d_M_value_13 ⟨Nat.le_of_ble_eq_true rfl, Nat.le_of_ble_eq_true rfl⟩) hS (fun q _ h9 => h9.elim) (fun q h9 => h9.elim) (fun ans2 uS tS H locs ht hvm hwans2 hB hz1 hk1 hS => ?_)
  have hP := ct_keep hP hk1
  refine ct_val (y := nI (if ct_in2 x (nI 0) (nI (ct_pr sz R.testBit 8) - nI 1) = true then 1 else 0)) (hwans2) ?_
  refine ct_val (y := nI (if ct_isn (ct_pr sz R.testBit 8) x = true then 1 else 0)) (by rw [ct_in2_isn (by omega)]) ?_
  by_cases hq : ct_isn (ct_pr sz R.testBit 8) x = true
  · rw [if_pos hq]
    refine lv_if_ne (tgt := 23) hx hb d_M_value_16 (by decide) (fun _ => ?_) (fun hc9 => absurd hc9 (nI_ne0 (by omega) (by omega)))
    refine lv_iconst (v := (nI 0)) hx hb d_M_value_23 (by decide) ?_
    refine lv_iconst (v := (nI 0)) hx hb d_M_value_24 (by decide) ?_
    have hPc := hP.sub (ws' := [(o0, .inr (4, [.int thr, .ref o1, .int tab, .ref o2, .ref o3, .int (nI K), .ref o4, .int (nI R), .ref o5, .ref o6, .int stp, .ref o7, .ref o8, .ref o9]))]) [0] rfl
    have hDc := hD.sub (ws' := [(o0, .inr (4, [.int thr, .ref o1, .int tab, .ref o2, .ref o3, .int (nI K), .ref o4, .int (nI R), .ref o5, .ref o6, .int stp, .ref o7, .ref o8, .ref o9]))]) [0] (by decide) rfl
    have hFc := va_free (wc := [(o0, .inr (4, [.int thr, .ref o1, .int tab, .ref o2, .ref o3, .int (nI K), .ref o4, .int (nI R), .ref o5, .ref o6, .int stp, .ref o7, .ref o8, .ref o9]))]) hD hS hA [0] rfl
    refine va_calli (va_runV (As := [.int (nI 0), .int (nI 0)]) (rest := []) ⟨hx, hb, hml, hown, hts⟩ (c_M_refuse l dC dI cI o0 o1 o2 o3 o4 o5 o6 o7 o8 o9 thr tab (nI K) (nI R) stp 0 0 (by omega) (by omega) H.size) (cwV 2 hts (ct_giV (fun w h9 => ct_tl h9) kw_573 kw_575 kw_15 kw_30 kw_576) rfl rfl rfl (by decide +kernel) ⟨Nat.le_of_ble_eq_true rfl, Nat.le_of_ble_eq_true rfl⟩) ⟨ct_rw_blind, va_recv hK hP (ci := 4) (q0 := 0) rfl rfl, ct_rw_pre hPc hK hDc⟩ rfl rfl hl.1 rfl (lv_room (Nat.le_of_ble_eq_true rfl)) d_M_value_25 ⟨Nat.zero_le _, Nat.zero_le _⟩) hS (fun q _ h9 => hFc q h9) hFc (fun ans104 u tS H1 locs ht hvm hw103 hB hz1 hk1 hS => ?_)
    obtain ⟨hP1, -, hD1⟩ := hB
    rw [ht] at hP1
    obtain ⟨hP, hD⟩ := va_join (wr := [(o2, .inl (cI, 8, .inl fl)), (o4, .inl (cI, 6, .inl fo)), (o1, .inl (cI, 8, .inl (fun j => nI (sz j)))), (o3, .inl (cI, 216, .inl fm)), (o9, .inl (cI, 8, .inl (fun j => nI (tt j))))]) (w1 := [(o0, .inr (4, [.int (nI 0), .ref o1, .int tab, .ref o2, .ref o3, .int (nI K), .ref o4, .int (nI R), .ref o5, .ref o6, .int stp, .ref o7, .ref o8, .ref o9]))]) hP hD [0] [1, 2, 3, 4, 5] rfl rfl (by decide) (by decide) hk1 hFc hP1 hD1
    generalize H1 = H at hP hS ⊢
    have hP : va_P (dC, dI) ct_cl [(o2, .inl (cI, 8, .inl fl)), (o4, .inl (cI, 6, .inl fo)), (o1, .inl (cI, 8, .inl (fun j => nI (sz j)))), (o3, .inl (cI, 216, .inl fm)), (o9, .inl (cI, 8, .inl (fun j => nI (tt j)))), (o0, .inr (4, [.int (nI 0), .ref o1, .int tab, .ref o2, .ref o3, .int (nI K), .ref o4, .int (nI R), .ref o5, .ref o6, .int stp, .ref o7, .ref o8, .ref o9]))] H := hP
    have hD : va_D A [(o2, .inl (cI, 8, .inl fl)), (o4, .inl (cI, 6, .inl fo)), (o1, .inl (cI, 8, .inl (fun j => nI (sz j)))), (o3, .inl (cI, 216, .inl fm)), (o9, .inl (cI, 8, .inl (fun j => nI (tt j)))), (o0, .inr (4, [.int (nI 0), .ref o1, .int tab, .ref o2, .ref o3, .int (nI K), .ref o4, .int (nI R), .ref o5, .ref o6, .int stp, .ref o7, .ref o8, .ref o9]))] := hD
    refine ct_val (y := nI 0) hw103 ?_
    refine lv_if_eq (tgt := 33) hx hb d_M_value_28 (by decide) (fun _ => ?_) (fun hc9 => absurd (nI_0) hc9)
    obtain ⟨i, hi, hxi⟩ := ct_isn_of (by omega) hq
    rw [hxi] at hl
    have loop2 : ∀ (n q : Nat), q + n + 1 = ct_pr sz ((ct_has la (2 ^ K - 1) K) ^^^ ((ct_has la (2 ^ K - 1) K) &&& R)).testBit 8 → ∀ (t2 : Nat → Nat), t2 = (ct_mx ((ct_has la (2 ^ K - 1) K) ^^^ ((ct_has la (2 ^ K - 1) K) &&& R)).testBit (ct_rch sz R i tt) (ct_de sz ((ct_has la (2 ^ K - 1) K) ^^^ ((ct_has la (2 ^ K - 1) K) &&& R)).testBit 8 q)) → ∀ (H : Heap) (locs : List Loc), va_P (dC, dI) ct_cl [(o0, .inr (4, [.int (nI 0), .ref o1, .int tab, .ref o2, .ref o3, .int (nI K), .ref o4, .int (nI R), .ref o5, .ref o6, .int stp, .ref o7, .ref o8, .ref o9])), (o2, .inl (cI, 8, .inl fl)), (o4, .inl (cI, 6, .inl fo)), (o1, .inl (cI, 8, .inl (fun j => nI (sz j)))), (o3, .inl (cI, 216, .inl fm)), (o9, .inl (cI, 8, .inl (fun j => nI (t2 j))))] H → va_D A [(o0, .inr (4, [.int (nI 0), .ref o1, .int tab, .ref o2, .ref o3, .int (nI K), .ref o4, .int (nI R), .ref o5, .ref o6, .int stp, .ref o7, .ref o8, .ref o9])), (o2, .inl (cI, 8, .inl fl)), (o4, .inl (cI, 6, .inl fo)), (o1, .inl (cI, 8, .inl (fun j => nI (sz j)))), (o3, .inl (cI, 216, .inl fm)), (o9, .inl (cI, 8, .inl (fun j => nI (t2 j))))] → va_S A s.heap H locs → ∀ (ls : Array Slot), lv_has ls 8 [(0, .ref o0), (3, .int (nI ((ct_has la (2 ^ K - 1) K) ^^^ ((ct_has la (2 ^ K - 1) K) &&& R)))), (4, .int (ct_sum (fun q => ct_pd (ct_vv sz la ot fm) (2 ^ K - 1) K (ct_mx ((ct_has la (2 ^ K - 1) K) ^^^ ((ct_has la (2 ^ K - 1) K) &&& R)).testBit (ct_rch sz R i tt) (ct_de sz ((ct_has la (2 ^ K - 1) K) ^^^ ((ct_has la (2 ^ K - 1) K) &&& R)).testBit 8 q))) q)), (5, .int (nI 1))] → W p l e (headSpec w_M_value ({ frames := 1, cells := 0, slots := 0, locals := 23 } : Room)).room s m args below meth c H locs 0 0 (MQ below (va_Qi (fun (r : Int32) (u : Nat × (Nat → Nat)) => (ct_isn (ct_pr sz R.testBit 8) x = false ∧ u.1 = 1) ∨ (ct_isn (ct_pr sz R.testBit 8) x = true ∧ u.1 = 0 ∧ ∃ (i : Nat) (rr : Nat → Nat), i < (ct_pr sz R.testBit 8) ∧ x = nI i ∧ (∀ k, k < 8 → rr k < sz k) ∧ ct_ix sz R.testBit 8 rr = i ∧ r = ct_spec sz la ot K R fm rr)) (fun (u : Nat × (Nat → Nat)) t => ct_at (dC, dI) ct_cl [(cI, .int)] (A) [(o0, .inr (4, [.int (nI (u.1)), .ref o1, .int tab, .ref o2, .ref o3, .int (nI K), .ref o4, .int (nI R), .ref o5, .ref o6, .int stp, .ref o7, .ref o8, .ref o9])), (o2, .inl (cI, 8, .inl fl)), (o4, .inl (cI, 6, .inl fo)), (o1, .inl (cI, 8, .inl (fun j => nI (sz j)))), (o3, .inl (cI, 216, .inl fm)), (o9, .inl (cI, 8, .inl (fun j => nI (u.2 j))))] t) (A)) args s 0 0 A) (F0 m 134 ls []) := by
      intro n
      induction n with
      | zero =>
        intro q hqn t2 ht2 H locs hP hD hS ls hl
        refine lv_iload hx hb d_M_value_134 (lv_at hl 3 rfl) ?_
        refine lv_if_eq (tgt := 214) hx hb d_M_value_136 (by decide) (fun hc9 => absurd hc9 (nI_ne0 (by omega) (by omega))) (fun _ => ?_)
        refine lv_iconst (v := (nI 1)) hx hb d_M_value_139 (by decide) ?_
        refine lv_istore (lv' := [(6, .int (nI 1)), (0, .ref o0), (3, .int (nI ((ct_has la (2 ^ K - 1) K) ^^^ ((ct_has la (2 ^ K - 1) K) &&& R)))), (4, .int (ct_sum (fun q => ct_pd (ct_vv sz la ot fm) (2 ^ K - 1) K (ct_mx ((ct_has la (2 ^ K - 1) K) ^^^ ((ct_has la (2 ^ K - 1) K) &&& R)).testBit (ct_rch sz R i tt) (ct_de sz ((ct_has la (2 ^ K - 1) K) ^^^ ((ct_has la (2 ^ K - 1) K) &&& R)).testBit 8 q))) q)), (5, .int (nI 1))]) hx hb d_M_value_140 hl (by decide) rfl (fun ls hl => ?_)
        refine lv_iconst (v := (nI 0)) hx hb d_M_value_142 (by decide) ?_
        refine lv_istore (lv' := [(7, .int (nI 0)), (6, .int (nI 1)), (0, .ref o0), (3, .int (nI ((ct_has la (2 ^ K - 1) K) ^^^ ((ct_has la (2 ^ K - 1) K) &&& R)))), (4, .int (ct_sum (fun q => ct_pd (ct_vv sz la ot fm) (2 ^ K - 1) K (ct_mx ((ct_has la (2 ^ K - 1) K) ^^^ ((ct_has la (2 ^ K - 1) K) &&& R)).testBit (ct_rch sz R i tt) (ct_de sz ((ct_has la (2 ^ K - 1) K) ^^^ ((ct_has la (2 ^ K - 1) K) &&& R)).testBit 8 q))) q)), (5, .int (nI 1))]) hx hb d_M_value_143 hl (by decide) rfl (fun ls hl => ?_)
        have ht8 : ∀ j, j < 8 → t2 j < sz j := fun j hj => by rw [ht2]; exact ct_mx_lt hs0 (fun k hk => ct_rch_lt hs0 hk) q hj
        have inner : ∀ (n2 k : Nat), k + n2 = K → ∀ (H : Heap) (locs : List Loc), va_P (dC, dI) ct_cl [(o0, .inr (4, [.int (nI 0), .ref o1, .int tab, .ref o2, .ref o3, .int (nI K), .ref o4, .int (nI R), .ref o5, .ref o6, .int stp, .ref o7, .ref o8, .ref o9])), (o2, .inl (cI, 8, .inl fl)), (o4, .inl (cI, 6, .inl fo)), (o1, .inl (cI, 8, .inl (fun j => nI (sz j)))), (o3, .inl (cI, 216, .inl fm)), (o9, .inl (cI, 8, .inl (fun j => nI (t2 j))))] H → va_D A [(o0, .inr (4, [.int (nI 0), .ref o1, .int tab, .ref o2, .ref o3, .int (nI K), .ref o4, .int (nI R), .ref o5, .ref o6, .int stp, .ref o7, .ref o8, .ref o9])), (o2, .inl (cI, 8, .inl fl)), (o4, .inl (cI, 6, .inl fo)), (o1, .inl (cI, 8, .inl (fun j => nI (sz j)))), (o3, .inl (cI, 216, .inl fm)), (o9, .inl (cI, 8, .inl (fun j => nI (t2 j))))] → va_S A s.heap H locs → ∀ (ls : Array Slot), lv_has ls 8 [(0, .ref o0), (3, .int (nI ((ct_has la (2 ^ K - 1) K) ^^^ ((ct_has la (2 ^ K - 1) K) &&& R)))), (4, .int (ct_sum (fun q => ct_pd (ct_vv sz la ot fm) (2 ^ K - 1) K (ct_mx ((ct_has la (2 ^ K - 1) K) ^^^ ((ct_has la (2 ^ K - 1) K) &&& R)).testBit (ct_rch sz R i tt) (ct_de sz ((ct_has la (2 ^ K - 1) K) ^^^ ((ct_has la (2 ^ K - 1) K) &&& R)).testBit 8 q))) q)), (5, .int (nI 1)), (6, .int (ct_pd (ct_vv sz la ot fm) (2 ^ K - 1) k t2)), (7, .int (nI k))] → W p l e (headSpec w_M_value ({ frames := 1, cells := 0, slots := 0, locals := 23 } : Room)).room s m args below meth c H locs 0 0 (MQ below (va_Qi (fun (r : Int32) (u : Nat × (Nat → Nat)) => (ct_isn (ct_pr sz R.testBit 8) x = false ∧ u.1 = 1) ∨ (ct_isn (ct_pr sz R.testBit 8) x = true ∧ u.1 = 0 ∧ ∃ (i : Nat) (rr : Nat → Nat), i < (ct_pr sz R.testBit 8) ∧ x = nI i ∧ (∀ k, k < 8 → rr k < sz k) ∧ ct_ix sz R.testBit 8 rr = i ∧ r = ct_spec sz la ot K R fm rr)) (fun (u : Nat × (Nat → Nat)) t => ct_at (dC, dI) ct_cl [(cI, .int)] (A) [(o0, .inr (4, [.int (nI (u.1)), .ref o1, .int tab, .ref o2, .ref o3, .int (nI K), .ref o4, .int (nI R), .ref o5, .ref o6, .int stp, .ref o7, .ref o8, .ref o9])), (o2, .inl (cI, 8, .inl fl)), (o4, .inl (cI, 6, .inl fo)), (o1, .inl (cI, 8, .inl (fun j => nI (sz j)))), (o3, .inl (cI, 216, .inl fm)), (o9, .inl (cI, 8, .inl (fun j => nI (u.2 j))))] t) (A)) args s 0 0 A) (F0 m 145 ls []) := by
          intro n2
          induction n2 with
          | zero =>
            intro k hk H locs hP hD hS ls hl
            refine lv_iload hx hb d_M_value_145 (lv_at hl 5 rfl) ?_
            refine lv_aload_n hx hb d_M_value_147 rfl (lv_at hl 0 rfl) ?_
            refine va_get (D := (dC, dI)) (ci := 4) (v := .int (nI K)) (C := R_M) (T := T_M) (N := 14) hx hb hts (fun w h9 => ct_tl (ki_M w h9)) hown hK hP 0 rfl rfl 5 (by decide) (hts _ (ct_tl kw_524)) (fun _ h9 => h9) rfl d_M_value_148 ?_
            refine lv_icmp_ge (tgt := 197) hx hb d_M_value_151 (by decide) (fun _ => ?_) (fun hc9 => absurd (nI_le (by omega) (by omega)) hc9)
            have hkK : k = K := by omega
            rw [hkK] at hl
            refine lv_iload hx hb d_M_value_197 (lv_at hl 2 rfl) ?_
            refine lv_iload hx hb d_M_value_199 (lv_at hl 4 rfl) ?_
            refine lv_iadd hx hb d_M_value_201 ?_
            refine ct_val (y := (ct_sum (fun q => ct_pd (ct_vv sz la ot fm) (2 ^ K - 1) K (ct_mx ((ct_has la (2 ^ K - 1) K) ^^^ ((ct_has la (2 ^ K - 1) K) &&& R)).testBit (ct_rch sz R i tt) (ct_de sz ((ct_has la (2 ^ K - 1) K) ^^^ ((ct_has la (2 ^ K - 1) K) &&& R)).testBit 8 q))) (q + 1))) (by rw [ht2]; rfl) ?_
            refine lv_istore (lv' := [(4, .int (ct_sum (fun q => ct_pd (ct_vv sz la ot fm) (2 ^ K - 1) K (ct_mx ((ct_has la (2 ^ K - 1) K) ^^^ ((ct_has la (2 ^ K - 1) K) &&& R)).testBit (ct_rch sz R i tt) (ct_de sz ((ct_has la (2 ^ K - 1) K) ^^^ ((ct_has la (2 ^ K - 1) K) &&& R)).testBit 8 q))) (q + 1))), (0, .ref o0), (3, .int (nI ((ct_has la (2 ^ K - 1) K) ^^^ ((ct_has la (2 ^ K - 1) K) &&& R)))), (5, .int (nI 1)), (6, .int (ct_pd (ct_vv sz la ot fm) (2 ^ K - 1) K t2)), (7, .int (nI K))]) hx hb d_M_value_202 hl (by decide) rfl (fun ls hl => ?_)
            refine lv_aload_n hx hb d_M_value_204 rfl (lv_at hl 1 rfl) ?_
            refine lv_iload_n hx hb d_M_value_205 rfl (lv_at hl 2 rfl) ?_
            have hOT : ((ct_has la (2 ^ K - 1) K) ^^^ ((ct_has la (2 ^ K - 1) K) &&& R)) < 256 := ct_andn_lt (ct_has_lt K hla)
            have hPc := hP.sub (ws' := [(o0, .inr (4, [.int (nI 0), .ref o1, .int tab, .ref o2, .ref o3, .int (nI K), .ref o4, .int (nI R), .ref o5, .ref o6, .int stp, .ref o7, .ref o8, .ref o9])), (o1, .inl (cI, 8, .inl (fun j => nI (sz j)))), (o9, .inl (cI, 8, .inl (fun j => nI (t2 j))))]) [0, 3, 5] rfl
            have hDc := hD.sub (ws' := [(o0, .inr (4, [.int (nI 0), .ref o1, .int tab, .ref o2, .ref o3, .int (nI K), .ref o4, .int (nI R), .ref o5, .ref o6, .int stp, .ref o7, .ref o8, .ref o9])), (o1, .inl (cI, 8, .inl (fun j => nI (sz j)))), (o9, .inl (cI, 8, .inl (fun j => nI (t2 j))))]) [0, 3, 5] (by decide) rfl
            have hFc := va_free (wc := [(o0, .inr (4, [.int (nI 0), .ref o1, .int tab, .ref o2, .ref o3, .int (nI K), .ref o4, .int (nI R), .ref o5, .ref o6, .int stp, .ref o7, .ref o8, .ref o9])), (o1, .inl (cI, 8, .inl (fun j => nI (sz j)))), (o9, .inl (cI, 8, .inl (fun j => nI (t2 j))))]) hD hS hA [0, 3, 5] rfl
            refine va_calli (va_runV (As := [.int (nI ((ct_has la (2 ^ K - 1) K) ^^^ ((ct_has la (2 ^ K - 1) K) &&& R)))]) (rest := []) ⟨hx, hb, hml, hown, hts⟩ (c_M_next l dC dI cI o0 o1 o2 o3 o4 o5 o6 o7 o8 o9 (nI 0) tab (nI K) (nI R) stp sz hsz ((ct_has la (2 ^ K - 1) K) ^^^ ((ct_has la (2 ^ K - 1) K) &&& R)) hOT (ct_rch sz R i tt) q (by omega) t2 ht2 H.size) (cwV 1 hts (ct_giV (fun w h9 => ct_tl h9) kw_648 kw_650 kw_24 kw_30 kw_651) rfl rfl rfl (by decide +kernel) ⟨Nat.le_of_ble_eq_true rfl, Nat.le_of_ble_eq_true rfl⟩) ⟨ct_rw_blind, va_recv hK hP (ci := 4) (q0 := 0) rfl rfl, ct_rw_pre hPc hK hDc⟩ rfl rfl hl.1 rfl (lv_room (Nat.le_of_ble_eq_true rfl)) d_M_value_206 ⟨Nat.le_of_ble_eq_true rfl, Nat.le_of_ble_eq_true rfl⟩) hS (fun q _ h9 => hFc q h9) hFc (fun ans105 t3 tS H1 locs ht hvm hnx hB hz1 hk1 hS => ?_)
            obtain ⟨hP1, -, hD1⟩ := hB
            rw [ht] at hP1
            obtain ⟨hP, hD⟩ := va_join (wr := [(o2, .inl (cI, 8, .inl fl)), (o4, .inl (cI, 6, .inl fo)), (o3, .inl (cI, 216, .inl fm))]) (w1 := [(o0, .inr (4, [.int (nI 0), .ref o1, .int tab, .ref o2, .ref o3, .int (nI K), .ref o4, .int (nI R), .ref o5, .ref o6, .int stp, .ref o7, .ref o8, .ref o9])), (o1, .inl (cI, 8, .inl (fun j => nI (sz j)))), (o9, .inl (cI, 8, .inl (fun j => nI (t3 j))))]) hP hD [0, 3, 5] [1, 2, 4] rfl rfl (by decide) (by decide) hk1 hFc hP1 hD1
            generalize H1 = H at hP hS ⊢
            have hP : va_P (dC, dI) ct_cl [(o2, .inl (cI, 8, .inl fl)), (o4, .inl (cI, 6, .inl fo)), (o3, .inl (cI, 216, .inl fm)), (o0, .inr (4, [.int (nI 0), .ref o1, .int tab, .ref o2, .ref o3, .int (nI K), .ref o4, .int (nI R), .ref o5, .ref o6, .int stp, .ref o7, .ref o8, .ref o9])), (o1, .inl (cI, 8, .inl (fun j => nI (sz j)))), (o9, .inl (cI, 8, .inl (fun j => nI (t3 j))))] H := hP
            have hD : va_D A [(o2, .inl (cI, 8, .inl fl)), (o4, .inl (cI, 6, .inl fo)), (o3, .inl (cI, 216, .inl fm)), (o0, .inr (4, [.int (nI 0), .ref o1, .int tab, .ref o2, .ref o3, .int (nI K), .ref o4, .int (nI R), .ref o5, .ref o6, .int stp, .ref o7, .ref o8, .ref o9])), (o1, .inl (cI, 8, .inl (fun j => nI (sz j)))), (o9, .inl (cI, 8, .inl (fun j => nI (t3 j))))] := hD
            rcases hnx with ⟨hr1, hq1, ht3⟩ | ⟨hr1, hq1⟩
            · exact absurd hq1 (by omega)
            · refine ct_val (y := nI 0) hr1 ?_
              refine lv_istore (lv' := [(5, .int (nI 0)), (4, .int (ct_sum (fun q => ct_pd (ct_vv sz la ot fm) (2 ^ K - 1) K (ct_mx ((ct_has la (2 ^ K - 1) K) ^^^ ((ct_has la (2 ^ K - 1) K) &&& R)).testBit (ct_rch sz R i tt) (ct_de sz ((ct_has la (2 ^ K - 1) K) ^^^ ((ct_has la (2 ^ K - 1) K) &&& R)).testBit 8 q))) (q + 1))), (0, .ref o0), (3, .int (nI ((ct_has la (2 ^ K - 1) K) ^^^ ((ct_has la (2 ^ K - 1) K) &&& R)))), (6, .int (ct_pd (ct_vv sz la ot fm) (2 ^ K - 1) K t2)), (7, .int (nI K))]) hx hb d_M_value_209 hl (by decide) rfl (fun ls hl => ?_)
              refine lv_goto (tgt := 134) hx hb d_M_value_211 (by decide) ?_
              refine lv_iload hx hb d_M_value_134 (lv_at hl 0 rfl) ?_
              refine lv_if_eq (tgt := 214) hx hb d_M_value_136 (by decide) (fun _ => ?_) (fun hc9 => absurd (nI_0) hc9)
              refine lv_iload hx hb d_M_value_214 (lv_at hl 1 rfl) ?_
              have hP9 := hP.sub [3, 0, 1, 4, 2, 5] rfl
              exact W.iret (v := (ct_sum (fun q => ct_pd (ct_vv sz la ot fm) (2 ^ K - 1) K (ct_mx ((ct_has la (2 ^ K - 1) K) ^^^ ((ct_has la (2 ^ K - 1) K) &&& R)).testBit (ct_rch sz R i tt) (ct_de sz ((ct_has la (2 ^ K - 1) K) ^^^ ((ct_has la (2 ^ K - 1) K) &&& R)).testBit 8 q))) (q + 1))) hx hb hr (fun tS ht hW => ⟨⟨(ct_sum (fun q => ct_pd (ct_vv sz la ot fm) (2 ^ K - 1) K (ct_mx ((ct_has la (2 ^ K - 1) K) ^^^ ((ct_has la (2 ^ K - 1) K) &&& R)).testBit (ct_rch sz R i tt) (ct_de sz ((ct_has la (2 ^ K - 1) K) ^^^ ((ct_has la (2 ^ K - 1) K) &&& R)).testBit 8 q))) (q + 1)), (0, t3), rfl, Or.inr ⟨hq, rfl, i, ct_rch sz R i tt, hi, hxi, fun k hk => ct_rch_lt hs0 hk, ct_rch_ix hs0 hi, by rw [hq1]; exact ct_spec_sum hs0 hla _⟩, by rw [ht]; exact hP9, va_K.moved hW.alike hK, hD.sub [3, 0, 1, 4, 2, 5] (by decide) rfl⟩, hS.F ht⟩) hS.2.2 d_M_value_216
          | succ n2 ih2 =>
            intro k hk H locs hP hD hS ls hl
            refine lv_iload hx hb d_M_value_145 (lv_at hl 5 rfl) ?_
            refine lv_aload_n hx hb d_M_value_147 rfl (lv_at hl 0 rfl) ?_
            refine va_get (D := (dC, dI)) (ci := 4) (v := .int (nI K)) (C := R_M) (T := T_M) (N := 14) hx hb hts (fun w h9 => ct_tl (ki_M w h9)) hown hK hP 0 rfl rfl 5 (by decide) (hts _ (ct_tl kw_524)) (fun _ h9 => h9) rfl d_M_value_148 ?_
            refine lv_icmp_ge (tgt := 197) hx hb d_M_value_151 (by decide) (fun hc9 => absurd hc9 (nI_ge (by omega) (by omega))) (fun _ => ?_)
            have hok9 := hfo k (by omega)
            have hlk := hla k (by omega)
            have h27k := hp27 k (by omega)
            have hixk := ct_ix_lt (sz := sz) (P := (la k).testBit) (t := t2) 8 (fun j hj _ => ht8 j hj)
            have hbk : (2 ^ K - 1).testBit k = true := by rw [ct_bit_all K (by omega) k (by omega)]; exact decide_eq_true (by omega)
            refine lv_iload hx hb d_M_value_154 (lv_at hl 4 rfl) ?_
            refine lv_aload_n hx hb d_M_value_156 rfl (lv_at hl 0 rfl) ?_
            refine va_get (D := (dC, dI)) (ci := 4) (v := .ref o3) (C := R_M) (T := T_M) (N := 14) hx hb hts (fun w h9 => ct_tl (ki_M w h9)) hown hK hP 0 rfl rfl 4 (by decide) (hts _ (ct_tl kw_523)) (fun _ h9 => h9) rfl d_M_value_157 ?_
            refine lv_bipush (v := (nI 27)) hx hb d_M_value_160 (by decide) ?_
            refine lv_aload_n hx hb d_M_value_162 rfl (lv_at hl 0 rfl) ?_
            refine va_get (D := (dC, dI)) (ci := 4) (v := .ref o4) (C := R_M) (T := T_M) (N := 14) hx hb hts (fun w h9 => ct_tl (ki_M w h9)) hown hK hP 0 rfl rfl 6 (by decide) (hts _ (ct_tl kw_525)) (fun _ h9 => h9) rfl d_M_value_163 ?_
            refine lv_iload hx hb d_M_value_166 (lv_at hl 5 rfl) ?_
            refine ct_iald hx hb hK hP 2 0 rfl rfl (j := k) (by omega) (by omega) d_M_value_168 ?_
            refine ct_val (y := nI (ot k)) (hok9.1) ?_
            refine lv_imul hx hb d_M_value_169 ?_
            refine ct_val (y := nI (27 * ot k)) (pk_mul _ _) ?_
            refine lv_aload_n hx hb d_M_value_170 rfl (lv_at hl 0 rfl) ?_
            refine lv_aload_n hx hb d_M_value_171 rfl (lv_at hl 0 rfl) ?_
            refine va_get (D := (dC, dI)) (ci := 4) (v := .ref o2) (C := R_M) (T := T_M) (N := 14) hx hb hts (fun w h9 => ct_tl (ki_M w h9)) hown hK hP 0 rfl rfl 3 (by decide) (hts _ (ct_tl kw_522)) (fun _ h9 => h9) rfl d_M_value_172 ?_
            refine lv_aload_n hx hb d_M_value_175 rfl (lv_at hl 0 rfl) ?_
            refine va_get (D := (dC, dI)) (ci := 4) (v := .ref o4) (C := R_M) (T := T_M) (N := 14) hx hb hts (fun w h9 => ct_tl (ki_M w h9)) hown hK hP 0 rfl rfl 6 (by decide) (hts _ (ct_tl kw_525)) (fun _ h9 => h9) rfl d_M_value_176 ?_
            refine lv_iload hx hb d_M_value_179 (lv_at hl 5 rfl) ?_
            refine ct_iald hx hb hK hP 2 0 rfl rfl (j := k) (by omega) (by omega) d_M_value_181 ?_
            refine ct_val (y := nI (ot k)) (hok9.1) ?_
            refine ct_iald hx hb hK hP 1 0 rfl rfl (j := ot k) (by omega) (by omega) d_M_value_182 ?_
            refine ct_val (y := nI (la k)) (hfl k (by omega)) ?_
            refine va_calli (va_runV (As := [.int (nI (la k))]) (rest := [.int (nI (27 * ot k)), .ref o3, .int (ct_pd (ct_vv sz la ot fm) (2 ^ K - 1) k t2)]) ⟨hx, hb, hml, hown, hts⟩ (c_M_at l dC dI cI o0 o1 o2 o3 o4 o5 o6 o7 o8 o9 (nI 0) tab (nI K) (nI R) stp sz t2 (la k) (by omega)) (cwV 1 hts (ct_giV (fun w h9 => ct_tl h9) kw_644 kw_646 kw_23 kw_30 kw_647) rfl rfl rfl (by decide +kernel) ⟨Nat.le_of_ble_eq_true rfl, Nat.le_of_ble_eq_true rfl⟩) ⟨ct_ro_blind, va_recv hK hP (ci := 4) (q0 := 0) rfl rfl, ct_ro_pre (hP.sub [0, 3, 5] rfl) hK⟩ rfl rfl hl.1 rfl (lv_room (Nat.le_of_ble_eq_true rfl)) d_M_value_183 ⟨Nat.le_of_ble_eq_true rfl, Nat.le_of_ble_eq_true rfl⟩) hS (fun q _ h9 => h9.elim) (fun q h9 => h9.elim) (fun ans105 uS tS H locs ht hvm hwans105 hB hz1 hk1 hS => ?_)
            have hP := ct_keep hP hk1
            refine ct_val (y := nI (ct_ix sz (la k).testBit 8 t2)) (hwans105) ?_
            refine lv_iadd hx hb d_M_value_186 ?_
            refine ct_val (y := nI (ot k * 27 + ct_ix sz (la k).testBit 8 t2)) (by rw [nI_add, Nat.mul_comm]) ?_
            refine ct_iald hx hb hK hP 4 0 rfl rfl (j := ot k * 27 + ct_ix sz (la k).testBit 8 t2) (by omega) (by omega) d_M_value_187 ?_
            refine lv_imul hx hb d_M_value_188 ?_
            refine ct_val (y := ct_pd (ct_vv sz la ot fm) (2 ^ K - 1) (k + 1) t2) (by rw [ct_pd_in hbk]; rfl) ?_
            refine lv_istore (lv' := [(6, .int (ct_pd (ct_vv sz la ot fm) (2 ^ K - 1) (k + 1) t2)), (0, .ref o0), (3, .int (nI ((ct_has la (2 ^ K - 1) K) ^^^ ((ct_has la (2 ^ K - 1) K) &&& R)))), (4, .int (ct_sum (fun q => ct_pd (ct_vv sz la ot fm) (2 ^ K - 1) K (ct_mx ((ct_has la (2 ^ K - 1) K) ^^^ ((ct_has la (2 ^ K - 1) K) &&& R)).testBit (ct_rch sz R i tt) (ct_de sz ((ct_has la (2 ^ K - 1) K) ^^^ ((ct_has la (2 ^ K - 1) K) &&& R)).testBit 8 q))) q)), (5, .int (nI 1)), (7, .int (nI k))]) hx hb d_M_value_189 hl (by decide) rfl (fun ls hl => ?_)
            refine lv_iinc (v := (nI (k + 1))) (lv' := [(7, .int (nI (k + 1))), (6, .int (ct_pd (ct_vv sz la ot fm) (2 ^ K - 1) (k + 1) t2)), (0, .ref o0), (3, .int (nI ((ct_has la (2 ^ K - 1) K) ^^^ ((ct_has la (2 ^ K - 1) K) &&& R)))), (4, .int (ct_sum (fun q => ct_pd (ct_vv sz la ot fm) (2 ^ K - 1) K (ct_mx ((ct_has la (2 ^ K - 1) K) ^^^ ((ct_has la (2 ^ K - 1) K) &&& R)).testBit (ct_rch sz R i tt) (ct_de sz ((ct_has la (2 ^ K - 1) K) ^^^ ((ct_has la (2 ^ K - 1) K) &&& R)).testBit 8 q))) q)), (5, .int (nI 1))]) hx hb d_M_value_191 hl (k := 5) rfl (nI_1 _) (by decide) rfl (fun ls hl => ?_)
            refine lv_goto (tgt := 145) hx hb d_M_value_194 (by decide) ?_
            exact ih2 (k + 1) (by omega) H locs hP hD hS ls (lv_sub hl [2, 3, 4, 5, 1, 0] rfl)
        exact inner K 0 (by omega) H locs hP hD hS ls (lv_sub hl [2, 3, 4, 5, 1, 0] rfl)
      | succ n ih =>
        intro q hqn t2 ht2 H locs hP hD hS ls hl
        refine lv_iload hx hb d_M_value_134 (lv_at hl 3 rfl) ?_
        refine lv_if_eq (tgt := 214) hx hb d_M_value_136 (by decide) (fun hc9 => absurd hc9 (nI_ne0 (by omega) (by omega))) (fun _ => ?_)
        refine lv_iconst (v := (nI 1)) hx hb d_M_value_139 (by decide) ?_
        refine lv_istore (lv' := [(6, .int (nI 1)), (0, .ref o0), (3, .int (nI ((ct_has la (2 ^ K - 1) K) ^^^ ((ct_has la (2 ^ K - 1) K) &&& R)))), (4, .int (ct_sum (fun q => ct_pd (ct_vv sz la ot fm) (2 ^ K - 1) K (ct_mx ((ct_has la (2 ^ K - 1) K) ^^^ ((ct_has la (2 ^ K - 1) K) &&& R)).testBit (ct_rch sz R i tt) (ct_de sz ((ct_has la (2 ^ K - 1) K) ^^^ ((ct_has la (2 ^ K - 1) K) &&& R)).testBit 8 q))) q)), (5, .int (nI 1))]) hx hb d_M_value_140 hl (by decide) rfl (fun ls hl => ?_)
        refine lv_iconst (v := (nI 0)) hx hb d_M_value_142 (by decide) ?_
        refine lv_istore (lv' := [(7, .int (nI 0)), (6, .int (nI 1)), (0, .ref o0), (3, .int (nI ((ct_has la (2 ^ K - 1) K) ^^^ ((ct_has la (2 ^ K - 1) K) &&& R)))), (4, .int (ct_sum (fun q => ct_pd (ct_vv sz la ot fm) (2 ^ K - 1) K (ct_mx ((ct_has la (2 ^ K - 1) K) ^^^ ((ct_has la (2 ^ K - 1) K) &&& R)).testBit (ct_rch sz R i tt) (ct_de sz ((ct_has la (2 ^ K - 1) K) ^^^ ((ct_has la (2 ^ K - 1) K) &&& R)).testBit 8 q))) q)), (5, .int (nI 1))]) hx hb d_M_value_143 hl (by decide) rfl (fun ls hl => ?_)
        have ht8 : ∀ j, j < 8 → t2 j < sz j := fun j hj => by rw [ht2]; exact ct_mx_lt hs0 (fun k hk => ct_rch_lt hs0 hk) q hj
        have inner : ∀ (n2 k : Nat), k + n2 = K → ∀ (H : Heap) (locs : List Loc), va_P (dC, dI) ct_cl [(o0, .inr (4, [.int (nI 0), .ref o1, .int tab, .ref o2, .ref o3, .int (nI K), .ref o4, .int (nI R), .ref o5, .ref o6, .int stp, .ref o7, .ref o8, .ref o9])), (o2, .inl (cI, 8, .inl fl)), (o4, .inl (cI, 6, .inl fo)), (o1, .inl (cI, 8, .inl (fun j => nI (sz j)))), (o3, .inl (cI, 216, .inl fm)), (o9, .inl (cI, 8, .inl (fun j => nI (t2 j))))] H → va_D A [(o0, .inr (4, [.int (nI 0), .ref o1, .int tab, .ref o2, .ref o3, .int (nI K), .ref o4, .int (nI R), .ref o5, .ref o6, .int stp, .ref o7, .ref o8, .ref o9])), (o2, .inl (cI, 8, .inl fl)), (o4, .inl (cI, 6, .inl fo)), (o1, .inl (cI, 8, .inl (fun j => nI (sz j)))), (o3, .inl (cI, 216, .inl fm)), (o9, .inl (cI, 8, .inl (fun j => nI (t2 j))))] → va_S A s.heap H locs → ∀ (ls : Array Slot), lv_has ls 8 [(0, .ref o0), (3, .int (nI ((ct_has la (2 ^ K - 1) K) ^^^ ((ct_has la (2 ^ K - 1) K) &&& R)))), (4, .int (ct_sum (fun q => ct_pd (ct_vv sz la ot fm) (2 ^ K - 1) K (ct_mx ((ct_has la (2 ^ K - 1) K) ^^^ ((ct_has la (2 ^ K - 1) K) &&& R)).testBit (ct_rch sz R i tt) (ct_de sz ((ct_has la (2 ^ K - 1) K) ^^^ ((ct_has la (2 ^ K - 1) K) &&& R)).testBit 8 q))) q)), (5, .int (nI 1)), (6, .int (ct_pd (ct_vv sz la ot fm) (2 ^ K - 1) k t2)), (7, .int (nI k))] → W p l e (headSpec w_M_value ({ frames := 1, cells := 0, slots := 0, locals := 23 } : Room)).room s m args below meth c H locs 0 0 (MQ below (va_Qi (fun (r : Int32) (u : Nat × (Nat → Nat)) => (ct_isn (ct_pr sz R.testBit 8) x = false ∧ u.1 = 1) ∨ (ct_isn (ct_pr sz R.testBit 8) x = true ∧ u.1 = 0 ∧ ∃ (i : Nat) (rr : Nat → Nat), i < (ct_pr sz R.testBit 8) ∧ x = nI i ∧ (∀ k, k < 8 → rr k < sz k) ∧ ct_ix sz R.testBit 8 rr = i ∧ r = ct_spec sz la ot K R fm rr)) (fun (u : Nat × (Nat → Nat)) t => ct_at (dC, dI) ct_cl [(cI, .int)] (A) [(o0, .inr (4, [.int (nI (u.1)), .ref o1, .int tab, .ref o2, .ref o3, .int (nI K), .ref o4, .int (nI R), .ref o5, .ref o6, .int stp, .ref o7, .ref o8, .ref o9])), (o2, .inl (cI, 8, .inl fl)), (o4, .inl (cI, 6, .inl fo)), (o1, .inl (cI, 8, .inl (fun j => nI (sz j)))), (o3, .inl (cI, 216, .inl fm)), (o9, .inl (cI, 8, .inl (fun j => nI (u.2 j))))] t) (A)) args s 0 0 A) (F0 m 145 ls []) := by
          intro n2
          induction n2 with
          | zero =>
            intro k hk H locs hP hD hS ls hl
            refine lv_iload hx hb d_M_value_145 (lv_at hl 5 rfl) ?_
            refine lv_aload_n hx hb d_M_value_147 rfl (lv_at hl 0 rfl) ?_
            refine va_get (D := (dC, dI)) (ci := 4) (v := .int (nI K)) (C := R_M) (T := T_M) (N := 14) hx hb hts (fun w h9 => ct_tl (ki_M w h9)) hown hK hP 0 rfl rfl 5 (by decide) (hts _ (ct_tl kw_524)) (fun _ h9 => h9) rfl d_M_value_148 ?_
            refine lv_icmp_ge (tgt := 197) hx hb d_M_value_151 (by decide) (fun _ => ?_) (fun hc9 => absurd (nI_le (by omega) (by omega)) hc9)
            have hkK : k = K := by omega
            rw [hkK] at hl
            refine lv_iload hx hb d_M_value_197 (lv_at hl 2 rfl) ?_
            refine lv_iload hx hb d_M_value_199 (lv_at hl 4 rfl) ?_
            refine lv_iadd hx hb d_M_value_201 ?_
            refine ct_val (y := (ct_sum (fun q => ct_pd (ct_vv sz la ot fm) (2 ^ K - 1) K (ct_mx ((ct_has la (2 ^ K - 1) K) ^^^ ((ct_has la (2 ^ K - 1) K) &&& R)).testBit (ct_rch sz R i tt) (ct_de sz ((ct_has la (2 ^ K - 1) K) ^^^ ((ct_has la (2 ^ K - 1) K) &&& R)).testBit 8 q))) (q + 1))) (by rw [ht2]; rfl) ?_
            refine lv_istore (lv' := [(4, .int (ct_sum (fun q => ct_pd (ct_vv sz la ot fm) (2 ^ K - 1) K (ct_mx ((ct_has la (2 ^ K - 1) K) ^^^ ((ct_has la (2 ^ K - 1) K) &&& R)).testBit (ct_rch sz R i tt) (ct_de sz ((ct_has la (2 ^ K - 1) K) ^^^ ((ct_has la (2 ^ K - 1) K) &&& R)).testBit 8 q))) (q + 1))), (0, .ref o0), (3, .int (nI ((ct_has la (2 ^ K - 1) K) ^^^ ((ct_has la (2 ^ K - 1) K) &&& R)))), (5, .int (nI 1)), (6, .int (ct_pd (ct_vv sz la ot fm) (2 ^ K - 1) K t2)), (7, .int (nI K))]) hx hb d_M_value_202 hl (by decide) rfl (fun ls hl => ?_)
            refine lv_aload_n hx hb d_M_value_204 rfl (lv_at hl 1 rfl) ?_
            refine lv_iload_n hx hb d_M_value_205 rfl (lv_at hl 2 rfl) ?_
            have hOT : ((ct_has la (2 ^ K - 1) K) ^^^ ((ct_has la (2 ^ K - 1) K) &&& R)) < 256 := ct_andn_lt (ct_has_lt K hla)
            have hPc := hP.sub (ws' := [(o0, .inr (4, [.int (nI 0), .ref o1, .int tab, .ref o2, .ref o3, .int (nI K), .ref o4, .int (nI R), .ref o5, .ref o6, .int stp, .ref o7, .ref o8, .ref o9])), (o1, .inl (cI, 8, .inl (fun j => nI (sz j)))), (o9, .inl (cI, 8, .inl (fun j => nI (t2 j))))]) [0, 3, 5] rfl
            have hDc := hD.sub (ws' := [(o0, .inr (4, [.int (nI 0), .ref o1, .int tab, .ref o2, .ref o3, .int (nI K), .ref o4, .int (nI R), .ref o5, .ref o6, .int stp, .ref o7, .ref o8, .ref o9])), (o1, .inl (cI, 8, .inl (fun j => nI (sz j)))), (o9, .inl (cI, 8, .inl (fun j => nI (t2 j))))]) [0, 3, 5] (by decide) rfl
            have hFc := va_free (wc := [(o0, .inr (4, [.int (nI 0), .ref o1, .int tab, .ref o2, .ref o3, .int (nI K), .ref o4, .int (nI R), .ref o5, .ref o6, .int stp, .ref o7, .ref o8, .ref o9])), (o1, .inl (cI, 8, .inl (fun j => nI (sz j)))), (o9, .inl (cI, 8, .inl (fun j => nI (t2 j))))]) hD hS hA [0, 3, 5] rfl
            refine va_calli (va_runV (As := [.int (nI ((ct_has la (2 ^ K - 1) K) ^^^ ((ct_has la (2 ^ K - 1) K) &&& R)))]) (rest := []) ⟨hx, hb, hml, hown, hts⟩ (c_M_next l dC dI cI o0 o1 o2 o3 o4 o5 o6 o7 o8 o9 (nI 0) tab (nI K) (nI R) stp sz hsz ((ct_has la (2 ^ K - 1) K) ^^^ ((ct_has la (2 ^ K - 1) K) &&& R)) hOT (ct_rch sz R i tt) q (by omega) t2 ht2 H.size) (cwV 1 hts (ct_giV (fun w h9 => ct_tl h9) kw_648 kw_650 kw_24 kw_30 kw_651) rfl rfl rfl (by decide +kernel) ⟨Nat.le_of_ble_eq_true rfl, Nat.le_of_ble_eq_true rfl⟩) ⟨ct_rw_blind, va_recv hK hP (ci := 4) (q0 := 0) rfl rfl, ct_rw_pre hPc hK hDc⟩ rfl rfl hl.1 rfl (lv_room (Nat.le_of_ble_eq_true rfl)) d_M_value_206 ⟨Nat.le_of_ble_eq_true rfl, Nat.le_of_ble_eq_true rfl⟩) hS (fun q _ h9 => hFc q h9) hFc (fun ans105 t3 tS H1 locs ht hvm hnx hB hz1 hk1 hS => ?_)
            obtain ⟨hP1, -, hD1⟩ := hB
            rw [ht] at hP1
            obtain ⟨hP, hD⟩ := va_join (wr := [(o2, .inl (cI, 8, .inl fl)), (o4, .inl (cI, 6, .inl fo)), (o3, .inl (cI, 216, .inl fm))]) (w1 := [(o0, .inr (4, [.int (nI 0), .ref o1, .int tab, .ref o2, .ref o3, .int (nI K), .ref o4, .int (nI R), .ref o5, .ref o6, .int stp, .ref o7, .ref o8, .ref o9])), (o1, .inl (cI, 8, .inl (fun j => nI (sz j)))), (o9, .inl (cI, 8, .inl (fun j => nI (t3 j))))]) hP hD [0, 3, 5] [1, 2, 4] rfl rfl (by decide) (by decide) hk1 hFc hP1 hD1
            generalize H1 = H at hP hS ⊢
            have hP : va_P (dC, dI) ct_cl [(o2, .inl (cI, 8, .inl fl)), (o4, .inl (cI, 6, .inl fo)), (o3, .inl (cI, 216, .inl fm)), (o0, .inr (4, [.int (nI 0), .ref o1, .int tab, .ref o2, .ref o3, .int (nI K), .ref o4, .int (nI R), .ref o5, .ref o6, .int stp, .ref o7, .ref o8, .ref o9])), (o1, .inl (cI, 8, .inl (fun j => nI (sz j)))), (o9, .inl (cI, 8, .inl (fun j => nI (t3 j))))] H := hP
            have hD : va_D A [(o2, .inl (cI, 8, .inl fl)), (o4, .inl (cI, 6, .inl fo)), (o3, .inl (cI, 216, .inl fm)), (o0, .inr (4, [.int (nI 0), .ref o1, .int tab, .ref o2, .ref o3, .int (nI K), .ref o4, .int (nI R), .ref o5, .ref o6, .int stp, .ref o7, .ref o8, .ref o9])), (o1, .inl (cI, 8, .inl (fun j => nI (sz j)))), (o9, .inl (cI, 8, .inl (fun j => nI (t3 j))))] := hD
            rcases hnx with ⟨hr1, hq1, ht3⟩ | ⟨hr1, hq1⟩
            · refine ct_val (y := nI 1) hr1 ?_
              refine lv_istore (lv' := [(5, .int (nI 1)), (4, .int (ct_sum (fun q => ct_pd (ct_vv sz la ot fm) (2 ^ K - 1) K (ct_mx ((ct_has la (2 ^ K - 1) K) ^^^ ((ct_has la (2 ^ K - 1) K) &&& R)).testBit (ct_rch sz R i tt) (ct_de sz ((ct_has la (2 ^ K - 1) K) ^^^ ((ct_has la (2 ^ K - 1) K) &&& R)).testBit 8 q))) (q + 1))), (0, .ref o0), (3, .int (nI ((ct_has la (2 ^ K - 1) K) ^^^ ((ct_has la (2 ^ K - 1) K) &&& R)))), (6, .int (ct_pd (ct_vv sz la ot fm) (2 ^ K - 1) K t2)), (7, .int (nI K))]) hx hb d_M_value_209 hl (by decide) rfl (fun ls hl => ?_)
              refine lv_goto (tgt := 134) hx hb d_M_value_211 (by decide) ?_
              exact ih (q + 1) (by omega) t3 ht3 H locs (hP.sub [3, 0, 1, 4, 2, 5] rfl) (hD.sub [3, 0, 1, 4, 2, 5] (by decide) rfl) hS ls (lv_sub hl [2, 3, 1, 0] rfl)
            · refine ct_val (y := nI 0) hr1 ?_
              refine lv_istore (lv' := [(5, .int (nI 0)), (4, .int (ct_sum (fun q => ct_pd (ct_vv sz la ot fm) (2 ^ K - 1) K (ct_mx ((ct_has la (2 ^ K - 1) K) ^^^ ((ct_has la (2 ^ K - 1) K) &&& R)).testBit (ct_rch sz R i tt) (ct_de sz ((ct_has la (2 ^ K - 1) K) ^^^ ((ct_has la (2 ^ K - 1) K) &&& R)).testBit 8 q))) (q + 1))), (0, .ref o0), (3, .int (nI ((ct_has la (2 ^ K - 1) K) ^^^ ((ct_has la (2 ^ K - 1) K) &&& R)))), (6, .int (ct_pd (ct_vv sz la ot fm) (2 ^ K - 1) K t2)), (7, .int (nI K))]) hx hb d_M_value_209 hl (by decide) rfl (fun ls hl => ?_)
              refine lv_goto (tgt := 134) hx hb d_M_value_211 (by decide) ?_
              refine lv_iload hx hb d_M_value_134 (lv_at hl 0 rfl) ?_
              refine lv_if_eq (tgt := 214) hx hb d_M_value_136 (by decide) (fun _ => ?_) (fun hc9 => absurd (nI_0) hc9)
              refine lv_iload hx hb d_M_value_214 (lv_at hl 1 rfl) ?_
              have hP9 := hP.sub [3, 0, 1, 4, 2, 5] rfl
              exact W.iret (v := (ct_sum (fun q => ct_pd (ct_vv sz la ot fm) (2 ^ K - 1) K (ct_mx ((ct_has la (2 ^ K - 1) K) ^^^ ((ct_has la (2 ^ K - 1) K) &&& R)).testBit (ct_rch sz R i tt) (ct_de sz ((ct_has la (2 ^ K - 1) K) ^^^ ((ct_has la (2 ^ K - 1) K) &&& R)).testBit 8 q))) (q + 1))) hx hb hr (fun tS ht hW => ⟨⟨(ct_sum (fun q => ct_pd (ct_vv sz la ot fm) (2 ^ K - 1) K (ct_mx ((ct_has la (2 ^ K - 1) K) ^^^ ((ct_has la (2 ^ K - 1) K) &&& R)).testBit (ct_rch sz R i tt) (ct_de sz ((ct_has la (2 ^ K - 1) K) ^^^ ((ct_has la (2 ^ K - 1) K) &&& R)).testBit 8 q))) (q + 1)), (0, t3), rfl, Or.inr ⟨hq, rfl, i, ct_rch sz R i tt, hi, hxi, fun k hk => ct_rch_lt hs0 hk, ct_rch_ix hs0 hi, by rw [hq1]; exact ct_spec_sum hs0 hla _⟩, by rw [ht]; exact hP9, va_K.moved hW.alike hK, hD.sub [3, 0, 1, 4, 2, 5] (by decide) rfl⟩, hS.F ht⟩) hS.2.2 d_M_value_216
          | succ n2 ih2 =>
            intro k hk H locs hP hD hS ls hl
            refine lv_iload hx hb d_M_value_145 (lv_at hl 5 rfl) ?_
            refine lv_aload_n hx hb d_M_value_147 rfl (lv_at hl 0 rfl) ?_
            refine va_get (D := (dC, dI)) (ci := 4) (v := .int (nI K)) (C := R_M) (T := T_M) (N := 14) hx hb hts (fun w h9 => ct_tl (ki_M w h9)) hown hK hP 0 rfl rfl 5 (by decide) (hts _ (ct_tl kw_524)) (fun _ h9 => h9) rfl d_M_value_148 ?_
            refine lv_icmp_ge (tgt := 197) hx hb d_M_value_151 (by decide) (fun hc9 => absurd hc9 (nI_ge (by omega) (by omega))) (fun _ => ?_)
            have hok9 := hfo k (by omega)
            have hlk := hla k (by omega)
            have h27k := hp27 k (by omega)
            have hixk := ct_ix_lt (sz := sz) (P := (la k).testBit) (t := t2) 8 (fun j hj _ => ht8 j hj)
            have hbk : (2 ^ K - 1).testBit k = true := by rw [ct_bit_all K (by omega) k (by omega)]; exact decide_eq_true (by omega)
            refine lv_iload hx hb d_M_value_154 (lv_at hl 4 rfl) ?_
            refine lv_aload_n hx hb d_M_value_156 rfl (lv_at hl 0 rfl) ?_
            refine va_get (D := (dC, dI)) (ci := 4) (v := .ref o3) (C := R_M) (T := T_M) (N := 14) hx hb hts (fun w h9 => ct_tl (ki_M w h9)) hown hK hP 0 rfl rfl 4 (by decide) (hts _ (ct_tl kw_523)) (fun _ h9 => h9) rfl d_M_value_157 ?_
            refine lv_bipush (v := (nI 27)) hx hb d_M_value_160 (by decide) ?_
            refine lv_aload_n hx hb d_M_value_162 rfl (lv_at hl 0 rfl) ?_
            refine va_get (D := (dC, dI)) (ci := 4) (v := .ref o4) (C := R_M) (T := T_M) (N := 14) hx hb hts (fun w h9 => ct_tl (ki_M w h9)) hown hK hP 0 rfl rfl 6 (by decide) (hts _ (ct_tl kw_525)) (fun _ h9 => h9) rfl d_M_value_163 ?_
            refine lv_iload hx hb d_M_value_166 (lv_at hl 5 rfl) ?_
            refine ct_iald hx hb hK hP 2 0 rfl rfl (j := k) (by omega) (by omega) d_M_value_168 ?_
            refine ct_val (y := nI (ot k)) (hok9.1) ?_
            refine lv_imul hx hb d_M_value_169 ?_
            refine ct_val (y := nI (27 * ot k)) (pk_mul _ _) ?_
            refine lv_aload_n hx hb d_M_value_170 rfl (lv_at hl 0 rfl) ?_
            refine lv_aload_n hx hb d_M_value_171 rfl (lv_at hl 0 rfl) ?_
            refine va_get (D := (dC, dI)) (ci := 4) (v := .ref o2) (C := R_M) (T := T_M) (N := 14) hx hb hts (fun w h9 => ct_tl (ki_M w h9)) hown hK hP 0 rfl rfl 3 (by decide) (hts _ (ct_tl kw_522)) (fun _ h9 => h9) rfl d_M_value_172 ?_
            refine lv_aload_n hx hb d_M_value_175 rfl (lv_at hl 0 rfl) ?_
            refine va_get (D := (dC, dI)) (ci := 4) (v := .ref o4) (C := R_M) (T := T_M) (N := 14) hx hb hts (fun w h9 => ct_tl (ki_M w h9)) hown hK hP 0 rfl rfl 6 (by decide) (hts _ (ct_tl kw_525)) (fun _ h9 => h9) rfl d_M_value_176 ?_
            refine lv_iload hx hb d_M_value_179 (lv_at hl 5 rfl) ?_
            refine ct_iald hx hb hK hP 2 0 rfl rfl (j := k) (by omega) (by omega) d_M_value_181 ?_
            refine ct_val (y := nI (ot k)) (hok9.1) ?_
            refine ct_iald hx hb hK hP 1 0 rfl rfl (j := ot k) (by omega) (by omega) d_M_value_182 ?_
            refine ct_val (y := nI (la k)) (hfl k (by omega)) ?_
            refine va_calli (va_runV (As := [.int (nI (la k))]) (rest := [.int (nI (27 * ot k)), .ref o3, .int (ct_pd (ct_vv sz la ot fm) (2 ^ K - 1) k t2)]) ⟨hx, hb, hml, hown, hts⟩ (c_M_at l dC dI cI o0 o1 o2 o3 o4 o5 o6 o7 o8 o9 (nI 0) tab (nI K) (nI R) stp sz t2 (la k) (by omega)) (cwV 1 hts (ct_giV (fun w h9 => ct_tl h9) kw_644 kw_646 kw_23 kw_30 kw_647) rfl rfl rfl (by decide +kernel) ⟨Nat.le_of_ble_eq_true rfl, Nat.le_of_ble_eq_true rfl⟩) ⟨ct_ro_blind, va_recv hK hP (ci := 4) (q0 := 0) rfl rfl, ct_ro_pre (hP.sub [0, 3, 5] rfl) hK⟩ rfl rfl hl.1 rfl (lv_room (Nat.le_of_ble_eq_true rfl)) d_M_value_183 ⟨Nat.le_of_ble_eq_true rfl, Nat.le_of_ble_eq_true rfl⟩) hS (fun q _ h9 => h9.elim) (fun q h9 => h9.elim) (fun ans105 uS tS H locs ht hvm hwans105 hB hz1 hk1 hS => ?_)
            have hP := ct_keep hP hk1
            refine ct_val (y := nI (ct_ix sz (la k).testBit 8 t2)) (hwans105) ?_
            refine lv_iadd hx hb d_M_value_186 ?_
            refine ct_val (y := nI (ot k * 27 + ct_ix sz (la k).testBit 8 t2)) (by rw [nI_add, Nat.mul_comm]) ?_
            refine ct_iald hx hb hK hP 4 0 rfl rfl (j := ot k * 27 + ct_ix sz (la k).testBit 8 t2) (by omega) (by omega) d_M_value_187 ?_
            refine lv_imul hx hb d_M_value_188 ?_
            refine ct_val (y := ct_pd (ct_vv sz la ot fm) (2 ^ K - 1) (k + 1) t2) (by rw [ct_pd_in hbk]; rfl) ?_
            refine lv_istore (lv' := [(6, .int (ct_pd (ct_vv sz la ot fm) (2 ^ K - 1) (k + 1) t2)), (0, .ref o0), (3, .int (nI ((ct_has la (2 ^ K - 1) K) ^^^ ((ct_has la (2 ^ K - 1) K) &&& R)))), (4, .int (ct_sum (fun q => ct_pd (ct_vv sz la ot fm) (2 ^ K - 1) K (ct_mx ((ct_has la (2 ^ K - 1) K) ^^^ ((ct_has la (2 ^ K - 1) K) &&& R)).testBit (ct_rch sz R i tt) (ct_de sz ((ct_has la (2 ^ K - 1) K) ^^^ ((ct_has la (2 ^ K - 1) K) &&& R)).testBit 8 q))) q)), (5, .int (nI 1)), (7, .int (nI k))]) hx hb d_M_value_189 hl (by decide) rfl (fun ls hl => ?_)
            refine lv_iinc (v := (nI (k + 1))) (lv' := [(7, .int (nI (k + 1))), (6, .int (ct_pd (ct_vv sz la ot fm) (2 ^ K - 1) (k + 1) t2)), (0, .ref o0), (3, .int (nI ((ct_has la (2 ^ K - 1) K) ^^^ ((ct_has la (2 ^ K - 1) K) &&& R)))), (4, .int (ct_sum (fun q => ct_pd (ct_vv sz la ot fm) (2 ^ K - 1) K (ct_mx ((ct_has la (2 ^ K - 1) K) ^^^ ((ct_has la (2 ^ K - 1) K) &&& R)).testBit (ct_rch sz R i tt) (ct_de sz ((ct_has la (2 ^ K - 1) K) ^^^ ((ct_has la (2 ^ K - 1) K) &&& R)).testBit 8 q))) q)), (5, .int (nI 1))]) hx hb d_M_value_191 hl (k := 5) rfl (nI_1 _) (by decide) rfl (fun ls hl => ?_)
            refine lv_goto (tgt := 145) hx hb d_M_value_194 (by decide) ?_
            exact ih2 (k + 1) (by omega) H locs hP hD hS ls (lv_sub hl [2, 3, 4, 5, 1, 0] rfl)
        exact inner K 0 (by omega) H locs hP hD hS ls (lv_sub hl [2, 3, 4, 5, 1, 0] rfl)
    have loop1 : ∀ (n : Nat), n ≤ 8 → ∀ (q : Nat) (t1 : Nat → Nat), ct_dn sz R i tt n q t1 → ∀ (H : Heap) (locs : List Loc), va_P (dC, dI) ct_cl [(o0, .inr (4, [.int (nI 0), .ref o1, .int tab, .ref o2, .ref o3, .int (nI K), .ref o4, .int (nI R), .ref o5, .ref o6, .int stp, .ref o7, .ref o8, .ref o9])), (o2, .inl (cI, 8, .inl fl)), (o4, .inl (cI, 6, .inl fo)), (o1, .inl (cI, 8, .inl (fun j => nI (sz j)))), (o3, .inl (cI, 216, .inl fm)), (o9, .inl (cI, 8, .inl (fun j => nI (t1 j))))] H → va_D A [(o0, .inr (4, [.int (nI 0), .ref o1, .int tab, .ref o2, .ref o3, .int (nI K), .ref o4, .int (nI R), .ref o5, .ref o6, .int stp, .ref o7, .ref o8, .ref o9])), (o2, .inl (cI, 8, .inl fl)), (o4, .inl (cI, 6, .inl fo)), (o1, .inl (cI, 8, .inl (fun j => nI (sz j)))), (o3, .inl (cI, 216, .inl fm)), (o9, .inl (cI, 8, .inl (fun j => nI (t1 j))))] → va_S A s.heap H locs → ∀ (ls : Array Slot), lv_has ls 8 [(0, .ref o0), (2, .int (nI q)), (3, .int (nI n - 1))] → W p l e (headSpec w_M_value ({ frames := 1, cells := 0, slots := 0, locals := 23 } : Room)).room s m args below meth c H locs 0 0 (MQ below (va_Qi (fun (r : Int32) (u : Nat × (Nat → Nat)) => (ct_isn (ct_pr sz R.testBit 8) x = false ∧ u.1 = 1) ∨ (ct_isn (ct_pr sz R.testBit 8) x = true ∧ u.1 = 0 ∧ ∃ (i : Nat) (rr : Nat → Nat), i < (ct_pr sz R.testBit 8) ∧ x = nI i ∧ (∀ k, k < 8 → rr k < sz k) ∧ ct_ix sz R.testBit 8 rr = i ∧ r = ct_spec sz la ot K R fm rr)) (fun (u : Nat × (Nat → Nat)) t => ct_at (dC, dI) ct_cl [(cI, .int)] (A) [(o0, .inr (4, [.int (nI (u.1)), .ref o1, .int tab, .ref o2, .ref o3, .int (nI K), .ref o4, .int (nI R), .ref o5, .ref o6, .int stp, .ref o7, .ref o8, .ref o9])), (o2, .inl (cI, 8, .inl fl)), (o4, .inl (cI, 6, .inl fo)), (o1, .inl (cI, 8, .inl (fun j => nI (sz j)))), (o3, .inl (cI, 216, .inl fm)), (o9, .inl (cI, 8, .inl (fun j => nI (u.2 j))))] t) (A)) args s 0 0 A) (F0 m 38 ls []) := by
      intro n
      induction n with
      | zero =>
        intro hn8 q t1 hdn H locs hP hD hS ls hl
        refine lv_iload_n hx hb d_M_value_38 rfl (lv_at hl 2 rfl) ?_
        refine lv_if_lt (tgt := 108) hx hb d_M_value_39 (by decide) (fun _ => ?_) (fun hc9 => absurd (by decide) hc9)
        refine lv_aload_n hx hb d_M_value_108 rfl (lv_at hl 0 rfl) ?_
        refine lv_iconst (v := (nI 1)) hx hb d_M_value_109 (by decide) ?_
        refine lv_aload_n hx hb d_M_value_110 rfl (lv_at hl 0 rfl) ?_
        refine va_get (D := (dC, dI)) (ci := 4) (v := .int (nI K)) (C := R_M) (T := T_M) (N := 14) hx hb hts (fun w h9 => ct_tl (ki_M w h9)) hown hK hP 0 rfl rfl 5 (by decide) (hts _ (ct_tl kw_524)) (fun _ h9 => h9) rfl d_M_value_111 ?_
        refine lv_ishl hx hb d_M_value_114 ?_
        refine ct_val (y := nI (2 ^ K)) ((ct_shl 1 (by omega) (by omega)).trans (by rw [Nat.one_mul])) ?_
        refine lv_iconst (v := (nI 1)) hx hb d_M_value_115 (by decide) ?_
        refine lv_isub hx hb d_M_value_116 ?_
        refine ct_val (y := nI (2 ^ K - 1)) (pk_sub (by omega)) ?_
        refine va_calli (va_runV (As := [.int (nI (2 ^ K - 1))]) (rest := []) ⟨hx, hb, hml, hown, hts⟩ (c_M_has l dC dI cI o0 o1 o2 o3 o4 o5 o6 o7 o8 o9 (nI 0) tab K (nI R) stp fl fo la ot hK6 hfo hfl (2 ^ K - 1) (by omega)) (cwV 1 hts (ct_giV (fun w h9 => ct_tl h9) kw_628 kw_630 kw_21 kw_30 kw_631) rfl rfl rfl (by decide +kernel) ⟨Nat.le_of_ble_eq_true rfl, Nat.le_of_ble_eq_true rfl⟩) ⟨ct_ro_blind, va_recv hK hP (ci := 4) (q0 := 0) rfl rfl, ct_ro_pre (hP.sub [0, 1, 2] rfl) hK⟩ rfl rfl hl.1 rfl (lv_room (Nat.le_of_ble_eq_true rfl)) d_M_value_117 ⟨Nat.le_of_ble_eq_true rfl, Nat.le_of_ble_eq_true rfl⟩) hS (fun q _ h9 => h9.elim) (fun q h9 => h9.elim) (fun ans105 uS tS H locs ht hvm hwans105 hB hz1 hk1 hS => ?_)
        have hP := ct_keep hP hk1
        refine ct_val (y := nI (ct_has la (2 ^ K - 1) K)) (hwans105) ?_
        refine lv_aload_n hx hb d_M_value_120 rfl (lv_at hl 0 rfl) ?_
        refine va_get (D := (dC, dI)) (ci := 4) (v := .int (nI R)) (C := R_M) (T := T_M) (N := 14) hx hb hts (fun w h9 => ct_tl (ki_M w h9)) hown hK hP 0 rfl rfl 7 (by decide) (hts _ (ct_tl kw_526)) (fun _ h9 => h9) rfl d_M_value_121 ?_
        refine lv_iconst (v := (-1)) hx hb d_M_value_124 (by decide) ?_
        refine lv_ixor hx hb d_M_value_125 ?_
        refine lv_iand hx hb d_M_value_126 ?_
        refine ct_val (y := nI ((ct_has la (2 ^ K - 1) K) ^^^ ((ct_has la (2 ^ K - 1) K) &&& R))) (ct_andnI _ _) ?_
        refine lv_istore_n (lv' := [(3, .int (nI ((ct_has la (2 ^ K - 1) K) ^^^ ((ct_has la (2 ^ K - 1) K) &&& R)))), (0, .ref o0), (2, .int (nI q))]) hx hb d_M_value_127 rfl hl (by decide) rfl (fun ls hl => ?_)
        refine lv_iconst (v := (nI 0)) hx hb d_M_value_128 (by decide) ?_
        refine lv_istore (lv' := [(4, .int (nI 0)), (3, .int (nI ((ct_has la (2 ^ K - 1) K) ^^^ ((ct_has la (2 ^ K - 1) K) &&& R)))), (0, .ref o0), (2, .int (nI q))]) hx hb d_M_value_129 hl (by decide) rfl (fun ls hl => ?_)
        refine lv_iconst (v := (nI 1)) hx hb d_M_value_131 (by decide) ?_
        refine lv_istore (lv' := [(5, .int (nI 1)), (4, .int (nI 0)), (3, .int (nI ((ct_has la (2 ^ K - 1) K) ^^^ ((ct_has la (2 ^ K - 1) K) &&& R)))), (0, .ref o0), (2, .int (nI q))]) hx hb d_M_value_132 hl (by decide) rfl (fun ls hl => ?_)
        have hpos := ct_pr_pos (sz := sz) (P := ((ct_has la (2 ^ K - 1) K) ^^^ ((ct_has la (2 ^ K - 1) K) &&& R)).testBit) 8 hs0
        have ht1 := ct_dn_end hdn
        refine loop2 (ct_pr sz ((ct_has la (2 ^ K - 1) K) ^^^ ((ct_has la (2 ^ K - 1) K) &&& R)).testBit 8 - 1) 0 (by omega) t1 ?_ H locs hP hD hS ls (lv_sub hl [3, 2, 1, 0] rfl)
        rw [ht1, ct_de_0]; funext j
        by_cases hj : j < 8
        · cases hU : ((ct_has la (2 ^ K - 1) K) ^^^ ((ct_has la (2 ^ K - 1) K) &&& R)).testBit j with
          | true =>
            rw [ct_mx_in hU, ct_rch, if_pos hj]
            rw [ct_andn_bit] at hU
            have hRj : R.testBit j = false := by cases hR9 : R.testBit j with
              | true => rw [hR9] at hU; simp at hU
              | false => rfl
            exact ct_de_no 8 i j hRj
          | false => rw [ct_mx_out hU]
        · rw [ct_mx_out (Nat.testBit_lt_two_pow (Nat.lt_of_lt_of_le (ct_andn_lt (ct_has_lt K hla)) (Nat.pow_le_pow_right (n := 2) (by omega) (by omega) : 2 ^ 8 ≤ 2 ^ j)))]
      | succ n ih =>
        intro hn8 q t1 hdn H locs hP hD hS ls hl
        rw [show nI (n + 1) - 1 = nI n from nI_pred n] at hl
        have hzn := hsz n (by omega)
        have hqi := hdn.2.2
        refine lv_iload_n hx hb d_M_value_38 rfl (lv_at hl 2 rfl) ?_
        refine lv_if_lt (tgt := 108) hx hb d_M_value_39 (by decide) (fun hc9 => absurd hc9 (nI_pos (by omega))) (fun _ => ?_)
        refine lv_aload_n hx hb d_M_value_42 rfl (lv_at hl 0 rfl) ?_
        refine va_get (D := (dC, dI)) (ci := 4) (v := .int (nI R)) (C := R_M) (T := T_M) (N := 14) hx hb hts (fun w h9 => ct_tl (ki_M w h9)) hown hK hP 0 rfl rfl 7 (by decide) (hts _ (ct_tl kw_526)) (fun _ h9 => h9) rfl d_M_value_43 ?_
        refine lv_iload_n hx hb d_M_value_46 rfl (lv_at hl 2 rfl) ?_
        refine lv_ishr hx hb d_M_value_47 ?_
        refine lv_iconst (v := (nI 1)) hx hb d_M_value_48 (by decide) ?_
        by_cases hbt : R.testBit n = true
        · refine lv_iand hx hb d_M_value_49 ?_
          refine ct_val (y := nI 1) (by rw [ct_bit (by omega) (by omega), if_pos hbt]) ?_
          refine lv_iconst (v := (nI 1)) hx hb d_M_value_50 (by decide) ?_
          refine lv_icmp_ne (tgt := 58) hx hb d_M_value_51 (by decide) (fun hc9 => absurd (rfl) hc9) (fun _ => ?_)
          refine lv_iconst (v := (nI 1)) hx hb d_M_value_54 (by decide) ?_
          refine lv_goto (tgt := 59) hx hb d_M_value_55 (by decide) ?_
          refine lv_istore (lv' := [(4, .int (nI 1)), (0, .ref o0), (2, .int (nI q)), (3, .int (nI n))]) hx hb d_M_value_59 hl (by decide) rfl (fun ls hl => ?_)
          refine lv_aload_n hx hb d_M_value_61 rfl (lv_at hl 1 rfl) ?_
          refine va_get (D := (dC, dI)) (ci := 4) (v := .ref o9) (C := R_M) (T := T_M) (N := 14) hx hb hts (fun w h9 => ct_tl (ki_M w h9)) hown hK hP 0 rfl rfl 13 (by decide) (hts _ (ct_tl kw_532)) (fun _ h9 => h9) rfl d_M_value_62 ?_
          refine lv_iload_n hx hb d_M_value_65 rfl (lv_at hl 3 rfl) ?_
          refine lv_iload hx hb d_M_value_66 (lv_at hl 0 rfl) ?_
          refine lv_if_eq (tgt := 82) hx hb d_M_value_68 (by decide) (fun hc9 => absurd hc9 (nI_ne0 (by omega) (by omega))) (fun _ => ?_)
          refine lv_iload_n hx hb d_M_value_71 rfl (lv_at hl 2 rfl) ?_
          refine lv_aload_n hx hb d_M_value_72 rfl (lv_at hl 1 rfl) ?_
          refine va_get (D := (dC, dI)) (ci := 4) (v := .ref o1) (C := R_M) (T := T_M) (N := 14) hx hb hts (fun w h9 => ct_tl (ki_M w h9)) hown hK hP 0 rfl rfl 1 (by decide) (hts _ (ct_tl kw_520)) (fun _ h9 => h9) rfl d_M_value_73 ?_
          refine lv_iload_n hx hb d_M_value_76 rfl (lv_at hl 3 rfl) ?_
          refine ct_iald hx hb hK hP 3 0 rfl rfl (j := n) (by omega) (by omega) d_M_value_77 ?_
          refine ct_val (y := nI (sz n)) (rfl) ?_
          refine lv_irem hx hb d_M_value_78 (nI_ne0 (by omega) (by omega)) ?_
          refine ct_val (y := nI (q % sz n)) (pk_rem (by omega) hzn.1 (by omega)) ?_
          refine lv_goto (tgt := 83) hx hb d_M_value_79 (by decide) ?_
          refine ct_iast hx hb hK hP hD hS 5 0 rfl rfl (j := n) (by omega) (by omega) d_M_value_83 (fun H locs hP hD hS => ?_)
          have hP : va_P (dC, dI) ct_cl [(o0, .inr (4, [.int (nI 0), .ref o1, .int tab, .ref o2, .ref o3, .int (nI K), .ref o4, .int (nI R), .ref o5, .ref o6, .int stp, .ref o7, .ref o8, .ref o9])), (o2, .inl (cI, 8, .inl fl)), (o4, .inl (cI, 6, .inl fo)), (o1, .inl (cI, 8, .inl (fun j => nI (sz j)))), (o3, .inl (cI, 216, .inl fm)), (o9, .inl (cI, 8, .inl (upd (fun j => nI (t1 j)) n (nI (q % sz n)))))] H := hP
          have hD : va_D A [(o0, .inr (4, [.int (nI 0), .ref o1, .int tab, .ref o2, .ref o3, .int (nI K), .ref o4, .int (nI R), .ref o5, .ref o6, .int stp, .ref o7, .ref o8, .ref o9])), (o2, .inl (cI, 8, .inl fl)), (o4, .inl (cI, 6, .inl fo)), (o1, .inl (cI, 8, .inl (fun j => nI (sz j)))), (o3, .inl (cI, 216, .inl fm)), (o9, .inl (cI, 8, .inl (upd (fun j => nI (t1 j)) n (nI (q % sz n)))))] := hD
          rw [show (upd (fun j => nI (t1 j)) n (nI (q % sz n))) = (fun j => nI (ct_st t1 n (q % sz n) j)) from ct_upd_st t1 n (q % sz n)] at hP hD
          refine lv_iload hx hb d_M_value_84 (lv_at hl 0 rfl) ?_
          refine lv_if_eq (tgt := 100) hx hb d_M_value_86 (by decide) (fun hc9 => absurd hc9 (nI_ne0 (by omega) (by omega))) (fun _ => ?_)
          refine lv_iload_n hx hb d_M_value_89 rfl (lv_at hl 2 rfl) ?_
          refine lv_aload_n hx hb d_M_value_90 rfl (lv_at hl 1 rfl) ?_
          refine va_get (D := (dC, dI)) (ci := 4) (v := .ref o1) (C := R_M) (T := T_M) (N := 14) hx hb hts (fun w h9 => ct_tl (ki_M w h9)) hown hK hP 0 rfl rfl 1 (by decide) (hts _ (ct_tl kw_520)) (fun _ h9 => h9) rfl d_M_value_91 ?_
          refine lv_iload_n hx hb d_M_value_94 rfl (lv_at hl 3 rfl) ?_
          refine ct_iald hx hb hK hP 3 0 rfl rfl (j := n) (by omega) (by omega) d_M_value_95 ?_
          refine ct_val (y := nI (sz n)) (rfl) ?_
          refine lv_idiv hx hb d_M_value_96 (nI_ne0 (by omega) (by omega)) ?_
          refine ct_val (y := nI (q / sz n)) (pk_div (by omega) hzn.1 (by omega)) ?_
          refine lv_goto (tgt := 101) hx hb d_M_value_97 (by decide) ?_
          refine lv_istore_n (lv' := [(2, .int (nI (q / sz n))), (4, .int (nI 1)), (0, .ref o0), (3, .int (nI n))]) hx hb d_M_value_101 rfl hl (by decide) rfl (fun ls hl => ?_)
          refine lv_iinc (v := (nI n - 1)) (lv' := [(3, .int (nI n - 1)), (2, .int (nI (q / sz n))), (4, .int (nI 1)), (0, .ref o0)]) hx hb d_M_value_102 hl (k := 3) rfl (by rw [Int32.sub_eq_add_neg]; rfl) (by decide) rfl (fun ls hl => ?_)
          refine lv_goto (tgt := 38) hx hb d_M_value_105 (by decide) ?_
          exact ih (by omega) _ _ (ct_dn_in hdn (by omega) hbt) H locs hP hD hS ls (lv_sub hl [3, 1, 0] rfl)
        · refine lv_iand hx hb d_M_value_49 ?_
          refine ct_val (y := nI 0) (by rw [ct_bit (by omega) (by omega), if_neg hbt]) ?_
          refine lv_iconst (v := (nI 1)) hx hb d_M_value_50 (by decide) ?_
          refine lv_icmp_ne (tgt := 58) hx hb d_M_value_51 (by decide) (fun _ => ?_) (fun hc9 => absurd hc9 (by decide))
          refine lv_iconst (v := (nI 0)) hx hb d_M_value_58 (by decide) ?_
          refine lv_istore (lv' := [(4, .int (nI 0)), (0, .ref o0), (2, .int (nI q)), (3, .int (nI n))]) hx hb d_M_value_59 hl (by decide) rfl (fun ls hl => ?_)
          refine lv_aload_n hx hb d_M_value_61 rfl (lv_at hl 1 rfl) ?_
          refine va_get (D := (dC, dI)) (ci := 4) (v := .ref o9) (C := R_M) (T := T_M) (N := 14) hx hb hts (fun w h9 => ct_tl (ki_M w h9)) hown hK hP 0 rfl rfl 13 (by decide) (hts _ (ct_tl kw_532)) (fun _ h9 => h9) rfl d_M_value_62 ?_
          refine lv_iload_n hx hb d_M_value_65 rfl (lv_at hl 3 rfl) ?_
          refine lv_iload hx hb d_M_value_66 (lv_at hl 0 rfl) ?_
          refine lv_if_eq (tgt := 82) hx hb d_M_value_68 (by decide) (fun _ => ?_) (fun hc9 => absurd (nI_0) hc9)
          refine lv_iconst (v := (nI 0)) hx hb d_M_value_82 (by decide) ?_
          refine ct_iast hx hb hK hP hD hS 5 0 rfl rfl (j := n) (by omega) (by omega) d_M_value_83 (fun H locs hP hD hS => ?_)
          have hP : va_P (dC, dI) ct_cl [(o0, .inr (4, [.int (nI 0), .ref o1, .int tab, .ref o2, .ref o3, .int (nI K), .ref o4, .int (nI R), .ref o5, .ref o6, .int stp, .ref o7, .ref o8, .ref o9])), (o2, .inl (cI, 8, .inl fl)), (o4, .inl (cI, 6, .inl fo)), (o1, .inl (cI, 8, .inl (fun j => nI (sz j)))), (o3, .inl (cI, 216, .inl fm)), (o9, .inl (cI, 8, .inl (upd (fun j => nI (t1 j)) n (nI 0))))] H := hP
          have hD : va_D A [(o0, .inr (4, [.int (nI 0), .ref o1, .int tab, .ref o2, .ref o3, .int (nI K), .ref o4, .int (nI R), .ref o5, .ref o6, .int stp, .ref o7, .ref o8, .ref o9])), (o2, .inl (cI, 8, .inl fl)), (o4, .inl (cI, 6, .inl fo)), (o1, .inl (cI, 8, .inl (fun j => nI (sz j)))), (o3, .inl (cI, 216, .inl fm)), (o9, .inl (cI, 8, .inl (upd (fun j => nI (t1 j)) n (nI 0))))] := hD
          rw [show (upd (fun j => nI (t1 j)) n (nI 0)) = (fun j => nI (ct_st t1 n 0 j)) from ct_upd_st t1 n 0] at hP hD
          refine lv_iload hx hb d_M_value_84 (lv_at hl 0 rfl) ?_
          refine lv_if_eq (tgt := 100) hx hb d_M_value_86 (by decide) (fun _ => ?_) (fun hc9 => absurd (nI_0) hc9)
          refine lv_iload_n hx hb d_M_value_100 rfl (lv_at hl 2 rfl) ?_
          refine lv_istore_n (lv' := [(2, .int (nI q)), (4, .int (nI 0)), (0, .ref o0), (3, .int (nI n))]) hx hb d_M_value_101 rfl hl (by decide) rfl (fun ls hl => ?_)
          refine lv_iinc (v := (nI n - 1)) (lv' := [(3, .int (nI n - 1)), (2, .int (nI q)), (4, .int (nI 0)), (0, .ref o0)]) hx hb d_M_value_102 hl (k := 3) rfl (by rw [Int32.sub_eq_add_neg]; rfl) (by decide) rfl (fun ls hl => ?_)
          refine lv_goto (tgt := 38) hx hb d_M_value_105 (by decide) ?_
          exact ih (by omega) _ _ (ct_dn_out hdn (by omega) (by simpa using hbt)) H locs hP hD hS ls (lv_sub hl [3, 1, 0] rfl)
    refine lv_iload_n hx hb d_M_value_33 rfl (lv_at hl 1 rfl) ?_
    refine lv_istore_n (lv' := [(2, .int (nI i)), (0, .ref o0), (1, .int (nI i))]) hx hb d_M_value_34 rfl hl (by decide) rfl (fun ls hl => ?_)
    refine lv_bipush (v := (nI 7)) hx hb d_M_value_35 (by decide) ?_
    refine lv_istore_n (lv' := [(3, .int (nI 7)), (2, .int (nI i)), (0, .ref o0), (1, .int (nI i))]) hx hb d_M_value_37 rfl hl (by decide) rfl (fun ls hl => ?_)
    exact loop1 8 (Nat.le_refl 8) i tt ⟨fun _ _ => rfl, fun j hj => (if_neg (by omega)).symm, Nat.le_refl i⟩ H locs (hP.sub [5, 0, 1, 2, 3, 4] rfl) (hD.sub [5, 0, 1, 2, 3, 4] (by decide) rfl) hS ls (lv_sub hl [2, 1, 0] rfl)
  · rw [if_neg hq]
    refine lv_if_ne (tgt := 23) hx hb d_M_value_16 (by decide) (fun hc9 => absurd (nI_0) hc9) (fun _ => ?_)
    refine lv_iconst (v := (nI 1)) hx hb d_M_value_19 (by decide) ?_
    refine lv_goto (tgt := 24) hx hb d_M_value_20 (by decide) ?_
    refine lv_iconst (v := (nI 0)) hx hb d_M_value_24 (by decide) ?_
    have hPc := hP.sub (ws' := [(o0, .inr (4, [.int thr, .ref o1, .int tab, .ref o2, .ref o3, .int (nI K), .ref o4, .int (nI R), .ref o5, .ref o6, .int stp, .ref o7, .ref o8, .ref o9]))]) [0] rfl
    have hDc := hD.sub (ws' := [(o0, .inr (4, [.int thr, .ref o1, .int tab, .ref o2, .ref o3, .int (nI K), .ref o4, .int (nI R), .ref o5, .ref o6, .int stp, .ref o7, .ref o8, .ref o9]))]) [0] (by decide) rfl
    have hFc := va_free (wc := [(o0, .inr (4, [.int thr, .ref o1, .int tab, .ref o2, .ref o3, .int (nI K), .ref o4, .int (nI R), .ref o5, .ref o6, .int stp, .ref o7, .ref o8, .ref o9]))]) hD hS hA [0] rfl
    refine va_calli (va_runV (As := [.int (nI 1), .int (nI 0)]) (rest := []) ⟨hx, hb, hml, hown, hts⟩ (c_M_refuse l dC dI cI o0 o1 o2 o3 o4 o5 o6 o7 o8 o9 thr tab (nI K) (nI R) stp 1 0 (by omega) (by omega) H.size) (cwV 2 hts (ct_giV (fun w h9 => ct_tl h9) kw_573 kw_575 kw_15 kw_30 kw_576) rfl rfl rfl (by decide +kernel) ⟨Nat.le_of_ble_eq_true rfl, Nat.le_of_ble_eq_true rfl⟩) ⟨ct_rw_blind, va_recv hK hP (ci := 4) (q0 := 0) rfl rfl, ct_rw_pre hPc hK hDc⟩ rfl rfl hl.1 rfl (lv_room (Nat.le_of_ble_eq_true rfl)) d_M_value_25 ⟨Nat.zero_le _, Nat.zero_le _⟩) hS (fun q _ h9 => hFc q h9) hFc (fun ans104 u tS H1 locs ht hvm hw103 hB hz1 hk1 hS => ?_)
    obtain ⟨hP1, -, hD1⟩ := hB
    rw [ht] at hP1
    obtain ⟨hP, hD⟩ := va_join (wr := [(o2, .inl (cI, 8, .inl fl)), (o4, .inl (cI, 6, .inl fo)), (o1, .inl (cI, 8, .inl (fun j => nI (sz j)))), (o3, .inl (cI, 216, .inl fm)), (o9, .inl (cI, 8, .inl (fun j => nI (tt j))))]) (w1 := [(o0, .inr (4, [.int (nI 1), .ref o1, .int tab, .ref o2, .ref o3, .int (nI K), .ref o4, .int (nI R), .ref o5, .ref o6, .int stp, .ref o7, .ref o8, .ref o9]))]) hP hD [0] [1, 2, 3, 4, 5] rfl rfl (by decide) (by decide) hk1 hFc hP1 hD1
    generalize H1 = H at hP hS ⊢
    have hP : va_P (dC, dI) ct_cl [(o2, .inl (cI, 8, .inl fl)), (o4, .inl (cI, 6, .inl fo)), (o1, .inl (cI, 8, .inl (fun j => nI (sz j)))), (o3, .inl (cI, 216, .inl fm)), (o9, .inl (cI, 8, .inl (fun j => nI (tt j)))), (o0, .inr (4, [.int (nI 1), .ref o1, .int tab, .ref o2, .ref o3, .int (nI K), .ref o4, .int (nI R), .ref o5, .ref o6, .int stp, .ref o7, .ref o8, .ref o9]))] H := hP
    have hD : va_D A [(o2, .inl (cI, 8, .inl fl)), (o4, .inl (cI, 6, .inl fo)), (o1, .inl (cI, 8, .inl (fun j => nI (sz j)))), (o3, .inl (cI, 216, .inl fm)), (o9, .inl (cI, 8, .inl (fun j => nI (tt j)))), (o0, .inr (4, [.int (nI 1), .ref o1, .int tab, .ref o2, .ref o3, .int (nI K), .ref o4, .int (nI R), .ref o5, .ref o6, .int stp, .ref o7, .ref o8, .ref o9]))] := hD
    refine ct_val (y := nI 1) hw103 ?_
    refine lv_if_eq (tgt := 33) hx hb d_M_value_28 (by decide) (fun hc9 => absurd hc9 (nI_ne0 (by omega) (by omega))) (fun _ => ?_)
    refine lv_iconst (v := (nI 0)) hx hb d_M_value_31 (by decide) ?_
    have hP9 := hP.sub [5, 0, 1, 2, 3, 4] rfl
    exact W.iret (v := (nI 0)) hx hb hr (fun tS ht hW => ⟨⟨(nI 0), (1, tt), rfl, Or.inl ⟨by simpa using hq, rfl⟩, by rw [ht]; exact hP9, va_K.moved hW.alike hK, hD.sub [5, 0, 1, 2, 3, 4] (by decide) rfl⟩, hS.F ht⟩) hS.2.2 d_M_value_32
