theorem ct_cA {D : va_G} {cl : List vw_C} {cI cA : ClassId} {s : State} (h : va_K D cl ([(cI, .int)] ++ [(cA, .int)]) s) : cA = cI := by
  have h1 := (h.2 0 _ rfl).2
  have h2 := (h.2 1 _ rfl).2
  exact (Option.some.inj ((show s.vm.findClass _ = some cI from h1).symm.trans (show s.vm.findClass _ = some cA from h2))).symm
theorem d_Ar_copyOf_0 : decode b_Ar_copyOf 0 = .ok (.iload_n 1, 1) := by decide +kernel
theorem d_Ar_copyOf_1 : decode b_Ar_copyOf 1 = .ok (.aload_n 0, 1) := by decide +kernel
theorem d_Ar_copyOf_2 : decode b_Ar_copyOf 2 = .ok (.arraylength, 1) := by decide +kernel
theorem d_Ar_copyOf_3 : decode b_Ar_copyOf 3 = .ok (.if_icmp .ne 11, 3) := by decide +kernel
theorem d_Ar_copyOf_14 : decode b_Ar_copyOf 14 = .ok (.iload_n 1, 1) := by decide +kernel
theorem d_Ar_copyOf_15 : decode b_Ar_copyOf 15 = .ok (.newarray .int, 2) := by decide +kernel
theorem d_Ar_copyOf_17 : decode b_Ar_copyOf 17 = .ok (.astore_n 2, 1) := by decide +kernel
theorem d_Ar_copyOf_18 : decode b_Ar_copyOf 18 = .ok (.aload_n 0, 1) := by decide +kernel
theorem d_Ar_copyOf_19 : decode b_Ar_copyOf 19 = .ok (.iconst 0, 1) := by decide +kernel
theorem d_Ar_copyOf_20 : decode b_Ar_copyOf 20 = .ok (.aload_n 2, 1) := by decide +kernel
theorem d_Ar_copyOf_21 : decode b_Ar_copyOf 21 = .ok (.iconst 0, 1) := by decide +kernel
theorem d_Ar_copyOf_22 : decode b_Ar_copyOf 22 = .ok (.aload_n 0, 1) := by decide +kernel
theorem d_Ar_copyOf_23 : decode b_Ar_copyOf 23 = .ok (.arraylength, 1) := by decide +kernel
theorem d_Ar_copyOf_24 : decode b_Ar_copyOf 24 = .ok (.iload_n 1, 1) := by decide +kernel
theorem d_Ar_copyOf_25 : decode b_Ar_copyOf 25 = .ok (.invokestatic 304, 3) := by decide +kernel
theorem d_Ar_copyOf_28 : decode b_Ar_copyOf 28 = .ok (.invokestatic 150, 3) := by decide +kernel
theorem d_Ar_copyOf_31 : decode b_Ar_copyOf 31 = .ok (.aload_n 2, 1) := by decide +kernel
theorem d_Ar_copyOf_32 : decode b_Ar_copyOf 32 = .ok (.areturn, 1) := by decide +kernel
theorem d_R_reserve_0 : decode b_R_reserve 0 = .ok (.aload_n 0, 1) := by decide +kernel
theorem d_R_reserve_1 : decode b_R_reserve 1 = .ok (.getfield 15, 3) := by decide +kernel
theorem d_R_reserve_4 : decode b_R_reserve 4 = .ok (.arraylength, 1) := by decide +kernel
theorem d_R_reserve_5 : decode b_R_reserve 5 = .ok (.iload_n 1, 1) := by decide +kernel
theorem d_R_reserve_6 : decode b_R_reserve 6 = .ok (.if_icmp .ge 25, 3) := by decide +kernel
theorem d_R_reserve_9 : decode b_R_reserve 9 = .ok (.aload_n 0, 1) := by decide +kernel
theorem d_R_reserve_10 : decode b_R_reserve 10 = .ok (.aload_n 0, 1) := by decide +kernel
theorem d_R_reserve_11 : decode b_R_reserve 11 = .ok (.getfield 15, 3) := by decide +kernel
theorem d_R_reserve_14 : decode b_R_reserve 14 = .ok (.iload_n 1, 1) := by decide +kernel
theorem d_R_reserve_15 : decode b_R_reserve 15 = .ok (.iconst 2, 1) := by decide +kernel
theorem d_R_reserve_16 : decode b_R_reserve 16 = .ok (.aload_n 0, 1) := by decide +kernel
theorem d_R_reserve_17 : decode b_R_reserve 17 = .ok (.getfield 15, 3) := by decide +kernel
theorem d_R_reserve_20 : decode b_R_reserve 20 = .ok (.arraylength, 1) := by decide +kernel
theorem d_R_reserve_21 : decode b_R_reserve 21 = .ok (.imul, 1) := by decide +kernel
theorem d_R_reserve_22 : decode b_R_reserve 22 = .ok (.invokestatic 34, 3) := by decide +kernel
theorem d_R_reserve_25 : decode b_R_reserve 25 = .ok (.invokestatic 40, 3) := by decide +kernel
theorem d_R_reserve_28 : decode b_R_reserve 28 = .ok (.putfield 15, 3) := by decide +kernel
theorem d_R_reserve_31 : decode b_R_reserve 31 = .ok (.return_, 1) := by decide +kernel
set_option maxHeartbeats 4000000 in
set_option maxRecDepth 100000 in
theorem c_Ar_copyOf (l : Launch) (dC : Nat → ClassId) (dI : Nat → Nat → Nat) (cI : ClassId) (o n0 n : Nat) (f : Nat → Int32) (h0 : n0 < n) (hn : n < 2 ^ 27) (sz0 : Nat) : Met l y_Ar_copyOf w_Ar_copyOf ({ frames := 1, cells := 1, slots := n, locals := 60 }) (va_Pc [.ref o, .int (nI n)] (ct_rw (dC, dI) ct_cl [(o, .inl (cI, n0, .inl f))] [(cI, .int)] sz0)) (va_Qr (fun (u : Nat → Int32) => ∀ i, i < n0 → u i = f i) (fun (u : Nat → Int32) (a : Nat) t => ct_at (dC, dI) ct_cl [(cI, .int)] (va_A [(o, .inl (cI, n0, .inl f))] sz0) [(o, .inl (cI, n0, .inl f)), (a, .inl (cI, n, .inl u))] t) (va_A [(o, .inl (cI, n0, .inl f))] sz0)) 1 n (va_A [(o, .inl (cI, n0, .inl f))] sz0) := by
  refine Met.ofW (cc := b_Ar_copyOf) (maxL := 3) (ret := (some (.array .int))) (by decide) rfl ?_
  intro p e s m args below meth c s₁ Bd hml hv
  obtain ⟨hargs, hsz, hP, hK, hD0⟩ := hv
  have hx := Bd.exec
  have hb := Bd.bytes
  have hr := Bd.returns
  have hts : ∀ w ∈ k_Ar_copyOf :: ct_tb, w.before args s = true := atoms_spec (ws := w_Ar_copyOf) Bd.pre
  have hown : s.vm.findClass R_Ar = some m.cls := findClass_of_methodNamed Bd.named
  have hlocks := Bd.notSynchronized
  subst hsz
  have hD := hD0.self (sz := s.heap.size)
  generalize hAe : va_A [(o, .inl (cI, n0, .inl f))] s.heap.size = A at hD ⊢
  have hA : ∀ q : Nat, s.heap.size ≤ q → A q := fun q h => by rw [← hAe]; exact Or.inr h
  have hS : va_S A s.heap s.heap [] := va_S.rf
  have hl := lv_entry ([.ref o, .int (nI n)]) (n := 3) (Nat.le_of_ble_eq_true rfl)
  rw [show entryFrame m args 3 = entryFrame m (([.ref o, .int (nI n)] : List Value)).toArray 3 by rw [hargs], lg_entry_eq]
  generalize (lg_sl ([.ref o, .int (nI n)]) ++ List.replicate (3 - (lg_sl ([.ref o, .int (nI n)])).length) Slot.unset).toArray = ls at hl ⊢
  have hl : lv_has ls 3 [(0, .ref o), (1, .int (nI n))] := hl
  refine lv_iload_n hx hb d_Ar_copyOf_0 rfl (lv_at hl 1 rfl) ?_
  refine lv_aload_n hx hb d_Ar_copyOf_1 rfl (lv_at hl 0 rfl) ?_
  refine va_alen hx hb hK hP 0 0 (v := nI n0) rfl rfl rfl d_Ar_copyOf_2 ?_
  refine lv_icmp_ne (tgt := 14) hx hb d_Ar_copyOf_3 (by decide) (fun _ => ?_) (fun hc9 => absurd hc9 (fun z9 => absurd ((nI_eq (by omega) (by omega)).mp z9) (by omega)))
  refine lv_iload_n hx hb d_Ar_copyOf_14 rfl (lv_at hl 1 rfl) ?_
  refine va_newa (atype := .int) (ty := .int) (a0 := (n, .inl (fun _ => 0))) hx hb (hts _ (ct_tl kw_60)) rfl hK hP hD hS hA (fun _ => rfl) (nI_pos (by omega)) (nI_clamp (by omega)) (by show n * 4 ≤ 536870912; omega) (Nat.le_refl _) (by show 0 + n ≤ n; omega) d_Ar_copyOf_15 (fun q cA H hK9 hP hD hS => ?_)
  rw [ct_cA hK9] at hP hD
  have hP : va_P (dC, dI) ct_cl [(o, .inl (cI, n0, .inl f)), (q, .inl (cI, n, .inl (fun _ => 0)))] H := hP
  have hD : va_D A [(o, .inl (cI, n0, .inl f)), (q, .inl (cI, n, .inl (fun _ => 0)))] := hD
  refine lv_astore_n (lv' := [(2, .ref q), (0, .ref o), (1, .int (nI n))]) hx hb d_Ar_copyOf_17 rfl hl (by decide) rfl (fun ls hl => ?_)
  refine lv_aload_n hx hb d_Ar_copyOf_18 rfl (lv_at hl 1 rfl) ?_
  refine lv_iconst (v := (nI 0)) hx hb d_Ar_copyOf_19 (by decide) ?_
  refine lv_aload_n hx hb d_Ar_copyOf_20 rfl (lv_at hl 0 rfl) ?_
  refine lv_iconst (v := (nI 0)) hx hb d_Ar_copyOf_21 (by decide) ?_
  refine lv_aload_n hx hb d_Ar_copyOf_22 rfl (lv_at hl 1 rfl) ?_
  refine va_alen hx hb hK hP 0 0 (v := nI n0) rfl rfl rfl d_Ar_copyOf_23 ?_
  refine lv_iload_n hx hb d_Ar_copyOf_24 rfl (lv_at hl 2 rfl) ?_
  refine va_mmin hx hb (by rw [hml]; exact hl.1.symm) hown (hts _ (ct_tl kw_492)) (hts _ (ct_tl kw_493)) (hts _ (ct_tl kw_39)) (hts _ (ct_tl kw_494)) (Nat.le_refl _) (Nat.le_of_ble_eq_true rfl) (Nat.le_refl _) (by show 0 + n ≤ n; omega) d_Ar_copyOf_25 ?_
  refine ct_val (y := nI n0) (if_neg (nI_nlt (by omega) (by omega))) ?_
  refine va_copyi (ty := .int) hx hb (by rw [hml]; exact hl.1.symm) hown (hts _ (ct_tl kw_495)) (hts _ (ct_tl kw_497)) (hts _ (ct_tl kw_496)) (hts _ (ct_tl kw_41)) hK hP hD hS 0 1 0 0 rfl rfl rfl rfl rfl (nI_pos (by omega)) (nI_pos (by omega)) (nI_pos (by omega)) (by rw [nI_clamp (by omega), nI_clamp (by omega)]; omega) (by rw [nI_clamp (by omega), nI_clamp (by omega)]; omega) (fun i _ => rfl) (Nat.le_refl _) (show (0 : Nat) + (nativeFrameWords "java/lang/System" "arraycopy" 5 + 11) ≤ 60 by decide +kernel) d_Ar_copyOf_28 (fun H locs hP hD hS => ?_)
  have hP : va_P (dC, dI) ct_cl [(o, .inl (cI, n0, .inl f)), (q, .inl (cI, n, .inl (va_cpy f (fun _ => 0) (nI 0).toNatClampNeg (nI 0).toNatClampNeg (nI n0).toNatClampNeg)))] H := hP
  have hD : va_D A [(o, .inl (cI, n0, .inl f)), (q, .inl (cI, n, .inl (va_cpy f (fun _ => 0) (nI 0).toNatClampNeg (nI 0).toNatClampNeg (nI n0).toNatClampNeg)))] := hD
  refine lv_aload_n hx hb d_Ar_copyOf_31 rfl (lv_at hl 0 rfl) ?_
  refine W.cs (cells' := 1) (slots' := n) rfl (Nat.zero_add n) ?_
  have hP9 := hP.sub [0, 1] rfl
  exact W.aret (v := .ref q) hx hb hr (Or.inr ⟨_, rfl⟩) (Or.inr ⟨q, rfl⟩) (fun tS ht hW => ⟨⟨(va_cpy f (fun _ => 0) (nI 0).toNatClampNeg (nI 0).toNatClampNeg (nI n0).toNatClampNeg), q, rfl, (fun i h9 => by rw [nI_clamp (by omega), nI_clamp (by omega), pk_cpy_in (Nat.zero_le i) (by omega)]; simp), by rw [ht]; exact hP9, va_K.moved hW.alike hK, hD.sub [0, 1] (by decide) rfl⟩, hS.F ht⟩) hS.2.2 d_Ar_copyOf_32
set_option maxHeartbeats 4000000 in
set_option maxRecDepth 100000 in
theorem c_R_reserve_no (l : Launch) (dC : Nat → ClassId) (dI : Nat → Nat → Nat) (cI : ClassId) (z0 r0 r1 r2 r3 r4 r5 r6 : Nat) (N : Nat) (f : Nat → Int32) (len : Nat) (hN : N < 2 ^ 31) (hle : len ≤ N) (sz0 : Nat) : Met l y_R_reserve w_R_reserve ({ frames := 0, cells := 0, slots := 0, locals := 0 }) (va_Pc [.ref r0, .int (nI len)] (ct_rw (dC, dI) ct_cl [(r0, .inr (3, [.ref z0, .ref r1, .ref r2, .ref r3, .ref r4, .ref r5, .ref r6])), (r1, .inl (cI, N, .inl f))] [(cI, .int)] sz0)) (va_Qv (fun (u : Unit) => True) (fun (u : Unit) t => ct_at (dC, dI) ct_cl [(cI, .int)] (va_A [(r0, .inr (3, [.ref z0, .ref r1, .ref r2, .ref r3, .ref r4, .ref r5, .ref r6])), (r1, .inl (cI, N, .inl f))] sz0) [(r0, .inr (3, [.ref z0, .ref r1, .ref r2, .ref r3, .ref r4, .ref r5, .ref r6])), (r1, .inl (cI, N, .inl f))] t) (va_A [(r0, .inr (3, [.ref z0, .ref r1, .ref r2, .ref r3, .ref r4, .ref r5, .ref r6])), (r1, .inl (cI, N, .inl f))] sz0)) 0 0 (va_A [(r0, .inr (3, [.ref z0, .ref r1, .ref r2, .ref r3, .ref r4, .ref r5, .ref r6])), (r1, .inl (cI, N, .inl f))] sz0) := by
  refine Met.ofW (cc := b_R_reserve) (maxL := 2) (ret := none) (by decide) rfl ?_
  intro p e s m args below meth c s₁ Bd hml hv
  obtain ⟨hargs, hsz, hP, hK, hD0⟩ := hv
  have hx := Bd.exec
  have hb := Bd.bytes
  have hr := Bd.returns
  have hts : ∀ w ∈ k_R_reserve :: ct_tb, w.before args s = true := atoms_spec (ws := w_R_reserve) Bd.pre
  have hown : s.vm.findClass R_R = some m.cls := findClass_of_methodNamed Bd.named
  have hlocks := Bd.notSynchronized
  subst hsz
  have hD := hD0.self (sz := s.heap.size)
  generalize hAe : va_A [(r0, .inr (3, [.ref z0, .ref r1, .ref r2, .ref r3, .ref r4, .ref r5, .ref r6])), (r1, .inl (cI, N, .inl f))] s.heap.size = A at hD ⊢
  have hA : ∀ q : Nat, s.heap.size ≤ q → A q := fun q h => by rw [← hAe]; exact Or.inr h
  have hS : va_S A s.heap s.heap [] := va_S.rf
  have hl := lv_entry ([.ref r0, .int (nI len)]) (n := 2) (Nat.le_of_ble_eq_true rfl)
  rw [show entryFrame m args 2 = entryFrame m (([.ref r0, .int (nI len)] : List Value)).toArray 2 by rw [hargs], lg_entry_eq]
  generalize (lg_sl ([.ref r0, .int (nI len)]) ++ List.replicate (2 - (lg_sl ([.ref r0, .int (nI len)])).length) Slot.unset).toArray = ls at hl ⊢
  have hl : lv_has ls 2 [(0, .ref r0), (1, .int (nI len))] := hl
  refine lv_aload_n hx hb d_R_reserve_0 rfl (lv_at hl 0 rfl) ?_
  refine va_get (D := (dC, dI)) (ci := 3) (v := .ref r1) (C := R_R) (T := T_R) (N := 7) hx hb hts (fun w h9 => ct_tl (ki_R w h9)) hown hK hP 0 rfl rfl 1 (by decide) (hts _ (ct_tl kw_93)) (fun _ h9 => h9) rfl d_R_reserve_1 ?_
  refine va_alen hx hb hK hP 1 0 (v := nI N) rfl rfl rfl d_R_reserve_4 ?_
  refine lv_iload_n hx hb d_R_reserve_5 rfl (lv_at hl 1 rfl) ?_
  refine lv_icmp_ge (tgt := 31) hx hb d_R_reserve_6 (by decide) (fun _ => ?_) (fun hc9 => absurd (nI_le hle (by omega)) hc9)
  have hP9 := hP.sub [0, 1] rfl
  exact W.vret hx hb hr (fun tS ht hW => ⟨⟨(), rfl, trivial, by rw [ht]; exact hP9, va_K.moved hW.alike hK, hD.sub [0, 1] (by decide) rfl⟩, hS.F ht⟩) hS.2.2 d_R_reserve_31
theorem ct_max {a b : Nat} (ha : a < 2 ^ 31) (hb : b < 2 ^ 31) : (if nI a < nI b then nI b else nI a) = nI (if a < b then b else a) := by
  by_cases h : a < b
  · rw [if_pos h, if_pos (nI_lt h hb)]
  · rw [if_neg h, if_neg (nI_nlt (by omega) ha)]
set_option maxHeartbeats 4000000 in
set_option maxRecDepth 100000 in
theorem c_R_reserve_up (l : Launch) (dC : Nat → ClassId) (dI : Nat → Nat → Nat) (cI : ClassId) (z0 r0 r1 r2 r3 r4 r5 r6 : Nat) (N : Nat) (f : Nat → Int32) (len M : Nat) (hN : N < 2 ^ 25) (hlt : N < len) (hlen : len < 2 ^ 26) (hM : M = if len < 2 * N then 2 * N else len) (sz0 : Nat) : Met l y_R_reserve w_R_reserve ({ frames := 2, cells := 1, slots := M, locals := 90 }) (va_Pc [.ref r0, .int (nI len)] (ct_rw (dC, dI) ct_cl [(r0, .inr (3, [.ref z0, .ref r1, .ref r2, .ref r3, .ref r4, .ref r5, .ref r6])), (r1, .inl (cI, N, .inl f))] [(cI, .int)] sz0)) (va_Qv (fun (u : Nat × (Nat → Int32)) => ∀ i, i < N → u.2 i = f i) (fun (u : Nat × (Nat → Int32)) t => ct_at (dC, dI) ct_cl [(cI, .int)] (va_A [(r0, .inr (3, [.ref z0, .ref r1, .ref r2, .ref r3, .ref r4, .ref r5, .ref r6])), (r1, .inl (cI, N, .inl f))] sz0) [(r0, .inr (3, [.ref z0, .ref u.1, .ref r2, .ref r3, .ref r4, .ref r5, .ref r6])), (u.1, .inl (cI, M, .inl (u.2)))] t) (va_A [(r0, .inr (3, [.ref z0, .ref r1, .ref r2, .ref r3, .ref r4, .ref r5, .ref r6])), (r1, .inl (cI, N, .inl f))] sz0)) 1 M (va_A [(r0, .inr (3, [.ref z0, .ref r1, .ref r2, .ref r3, .ref r4, .ref r5, .ref r6])), (r1, .inl (cI, N, .inl f))] sz0) := by
  refine Met.ofW (cc := b_R_reserve) (maxL := 2) (ret := none) (by decide) rfl ?_
  intro p e s m args below meth c s₁ Bd hml hv
  obtain ⟨hargs, hsz, hP, hK, hD0⟩ := hv
  have hx := Bd.exec
  have hb := Bd.bytes
  have hr := Bd.returns
  have hts : ∀ w ∈ k_R_reserve :: ct_tb, w.before args s = true := atoms_spec (ws := w_R_reserve) Bd.pre
  have hown : s.vm.findClass R_R = some m.cls := findClass_of_methodNamed Bd.named
  have hlocks := Bd.notSynchronized
  subst hsz
  have hD := hD0.self (sz := s.heap.size)
  generalize hAe : va_A [(r0, .inr (3, [.ref z0, .ref r1, .ref r2, .ref r3, .ref r4, .ref r5, .ref r6])), (r1, .inl (cI, N, .inl f))] s.heap.size = A at hD ⊢
  have hA : ∀ q : Nat, s.heap.size ≤ q → A q := fun q h => by rw [← hAe]; exact Or.inr h
  have hS : va_S A s.heap s.heap [] := va_S.rf
  have hl := lv_entry ([.ref r0, .int (nI len)]) (n := 2) (Nat.le_of_ble_eq_true rfl)
  rw [show entryFrame m args 2 = entryFrame m (([.ref r0, .int (nI len)] : List Value)).toArray 2 by rw [hargs], lg_entry_eq]
  generalize (lg_sl ([.ref r0, .int (nI len)]) ++ List.replicate (2 - (lg_sl ([.ref r0, .int (nI len)])).length) Slot.unset).toArray = ls at hl ⊢
  have hl : lv_has ls 2 [(0, .ref r0), (1, .int (nI len))] := hl
  have hMN : N < M ∧ M < 2 ^ 27 := by
    rw [hM]
    by_cases h9 : len < 2 * N
    · rw [if_pos h9]; omega
    · rw [if_neg h9]; omega
  refine lv_aload_n hx hb d_R_reserve_0 rfl (lv_at hl 0 rfl) ?_
  refine va_get (D := (dC, dI)) (ci := 3) (v := .ref r1) (C := R_R) (T := T_R) (N := 7) hx hb hts (fun w h9 => ct_tl (ki_R w h9)) hown hK hP 0 rfl rfl 1 (by decide) (hts _ (ct_tl kw_93)) (fun _ h9 => h9) rfl d_R_reserve_1 ?_
  refine va_alen hx hb hK hP 1 0 (v := nI N) rfl rfl rfl d_R_reserve_4 ?_
  refine lv_iload_n hx hb d_R_reserve_5 rfl (lv_at hl 1 rfl) ?_
  refine lv_icmp_ge (tgt := 31) hx hb d_R_reserve_6 (by decide) (fun hc9 => absurd hc9 (nI_ge hlt (by omega))) (fun _ => ?_)
  refine lv_aload_n hx hb d_R_reserve_9 rfl (lv_at hl 0 rfl) ?_
  refine lv_aload_n hx hb d_R_reserve_10 rfl (lv_at hl 0 rfl) ?_
  refine va_get (D := (dC, dI)) (ci := 3) (v := .ref r1) (C := R_R) (T := T_R) (N := 7) hx hb hts (fun w h9 => ct_tl (ki_R w h9)) hown hK hP 0 rfl rfl 1 (by decide) (hts _ (ct_tl kw_93)) (fun _ h9 => h9) rfl d_R_reserve_11 ?_
  refine lv_iload_n hx hb d_R_reserve_14 rfl (lv_at hl 1 rfl) ?_
  refine lv_iconst (v := (nI 2)) hx hb d_R_reserve_15 (by decide) ?_
  refine lv_aload_n hx hb d_R_reserve_16 rfl (lv_at hl 0 rfl) ?_
  refine va_get (D := (dC, dI)) (ci := 3) (v := .ref r1) (C := R_R) (T := T_R) (N := 7) hx hb hts (fun w h9 => ct_tl (ki_R w h9)) hown hK hP 0 rfl rfl 1 (by decide) (hts _ (ct_tl kw_93)) (fun _ h9 => h9) rfl d_R_reserve_17 ?_
  refine va_alen hx hb hK hP 1 0 (v := nI N) rfl rfl rfl d_R_reserve_20 ?_
  refine lv_imul hx hb d_R_reserve_21 ?_
  refine ct_val (y := nI (2 * N)) (pk_mul _ _) ?_
  refine va_mmax hx hb (by rw [hml]; exact hl.1.symm) hown (hts _ (ct_tl kw_479)) (hts _ (ct_tl kw_480)) (hts _ (ct_tl kw_39)) (hts _ (ct_tl kw_481)) (Nat.le_of_ble_eq_true rfl) (Nat.le_of_ble_eq_true rfl) (Nat.zero_le _) (Nat.zero_le _) d_R_reserve_22 ?_
  refine ct_val (y := nI M) (by rw [hM]; exact ct_max (by omega) (by omega)) ?_
  have hPc := hP.sub (ws' := [(r1, .inl (cI, N, .inl f))]) [1] rfl
  have hDc := hD.sub (ws' := [(r1, .inl (cI, N, .inl f))]) [1] (by decide) rfl
  have hFc := va_free (wc := [(r1, .inl (cI, N, .inl f))]) hD hS hA [1] rfl
  refine va_callr (va_runS (As := [.ref r1, .int (nI M)]) (rest := [.ref r0]) ⟨hx, hb, hml, hown, hts⟩ (c_Ar_copyOf l dC dI cI r1 N M f hMN.1 hMN.2 s.heap.size) (va_cwS 2 hts (ct_giT (fun w h9 => ct_tl h9) kw_482 kw_483 kw_40 kw_484) rfl rfl rfl (by decide +kernel) ⟨Nat.le_of_ble_eq_true rfl, Nat.le_of_ble_eq_true rfl⟩) ⟨ct_rw_blind, ct_rw_pre hPc hK hDc⟩ rfl rfl hl.1 rfl (lv_room (Nat.le_of_ble_eq_true rfl)) d_R_reserve_25 ⟨Nat.le_refl _, by show 0 + M ≤ M; omega⟩) hS (fun q _ h9 => hFc q h9) hFc (fun f2 q t H1 locs ht hvm hw hB hz1 hk1 hS => ?_)
  obtain ⟨hP1, -, hD1⟩ := hB
  rw [ht] at hP1
  obtain ⟨hP, hD⟩ := va_join (wr := [(r0, .inr (3, [.ref z0, .ref r1, .ref r2, .ref r3, .ref r4, .ref r5, .ref r6]))]) (w1 := [(r1, .inl (cI, N, .inl f)), (q, .inl (cI, M, .inl f2))]) hP hD [1] [0] rfl rfl (by decide) (by decide) hk1 hFc hP1 hD1
  generalize H1 = H at hP hS ⊢
  have hP : va_P (dC, dI) ct_cl [(r0, .inr (3, [.ref z0, .ref r1, .ref r2, .ref r3, .ref r4, .ref r5, .ref r6])), (r1, .inl (cI, N, .inl f)), (q, .inl (cI, M, .inl f2))] H := hP
  have hD : va_D A [(r0, .inr (3, [.ref z0, .ref r1, .ref r2, .ref r3, .ref r4, .ref r5, .ref r6])), (r1, .inl (cI, N, .inl f)), (q, .inl (cI, M, .inl f2))] := hD
  refine va_put (D := (dC, dI)) (ci := 3) (v := .ref q) (ty := .array .int) (C := R_R) (T := T_R) (N := 7) hx hb hts (fun w h9 => ct_tl (ki_R w h9)) ty_R ok_R nm_R hown hK hP hD hS 0 rfl rfl 1 (by decide) (hts _ (ct_tl kw_93)) (fun _ h9 => h9) rfl (by decide +kernel) rfl rfl (Nat.le_of_ble_eq_true rfl) d_R_reserve_28 (fun H locs hP hD hS => ?_)
  have hP : va_P (dC, dI) ct_cl [(r0, .inr (3, [.ref z0, .ref q, .ref r2, .ref r3, .ref r4, .ref r5, .ref r6])), (r1, .inl (cI, N, .inl f)), (q, .inl (cI, M, .inl f2))] H := hP
  have hD : va_D A [(r0, .inr (3, [.ref z0, .ref q, .ref r2, .ref r3, .ref r4, .ref r5, .ref r6])), (r1, .inl (cI, N, .inl f)), (q, .inl (cI, M, .inl f2))] := hD
  refine W.cs (cells' := 1) (slots' := M) rfl (Nat.zero_add M) ?_
  have hP9 := hP.sub [0, 2] rfl
  exact W.vret hx hb hr (fun tS ht hW => ⟨⟨(q, f2), rfl, hw, by rw [ht]; exact hP9, va_K.moved hW.alike hK, hD.sub [0, 2] (by decide) rfl⟩, hS.F ht⟩) hS.2.2 d_R_reserve_31
