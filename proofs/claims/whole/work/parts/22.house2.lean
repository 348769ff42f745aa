theorem d_H_makePlan_0 : decode b_H_makePlan 0 = .ok (.aload_n 0, 1) := by decide +kernel
theorem d_H_makePlan_1 : decode b_H_makePlan 1 = .ok (.getfield 167, 3) := by decide +kernel
theorem d_H_makePlan_4 : decode b_H_makePlan 4 = .ok (.ifCond .ne 27, 3) := by decide +kernel
theorem d_H_makePlan_7 : decode b_H_makePlan 7 = .ok (.aload_n 0, 1) := by decide +kernel
theorem d_H_makePlan_8 : decode b_H_makePlan 8 = .ok (.getfield 21, 3) := by decide +kernel
theorem d_H_makePlan_11 : decode b_H_makePlan 11 = .ok (.aload_n 0, 1) := by decide +kernel
theorem d_H_makePlan_12 : decode b_H_makePlan 12 = .ok (.getfield 39, 3) := by decide +kernel
theorem d_H_makePlan_15 : decode b_H_makePlan 15 = .ok (.aload_n 0, 1) := by decide +kernel
theorem d_H_makePlan_16 : decode b_H_makePlan 16 = .ok (.getfield 110, 3) := by decide +kernel
theorem d_H_makePlan_19 : decode b_H_makePlan 19 = .ok (.aload_n 0, 1) := by decide +kernel
theorem d_H_makePlan_20 : decode b_H_makePlan 20 = .ok (.getfield 113, 3) := by decide +kernel
theorem d_H_makePlan_23 : decode b_H_makePlan 23 = .ok (.invokevirtual 170, 3) := by decide +kernel
theorem d_H_makePlan_26 : decode b_H_makePlan 26 = .ok (.aload_n 0, 1) := by decide +kernel
theorem d_H_makePlan_27 : decode b_H_makePlan 27 = .ok (.iconst 1, 1) := by decide +kernel
theorem d_H_makePlan_28 : decode b_H_makePlan 28 = .ok (.putfield 167, 3) := by decide +kernel
theorem d_H_makePlan_31 : decode b_H_makePlan 31 = .ok (.return_, 1) := by decide +kernel
theorem d_H_joinParts_0 : decode b_H_joinParts 0 = .ok (.aload_n 0, 1) := by decide +kernel
theorem d_H_joinParts_1 : decode b_H_joinParts 1 = .ok (.getfield 21, 3) := by decide +kernel
theorem d_H_joinParts_4 : decode b_H_joinParts 4 = .ok (.iload_n 1, 1) := by decide +kernel
theorem d_H_joinParts_5 : decode b_H_joinParts 5 = .ok (.invokevirtual 141, 3) := by decide +kernel
theorem d_H_joinParts_8 : decode b_H_joinParts 8 = .ok (.istore 4, 2) := by decide +kernel
theorem d_H_joinParts_10 : decode b_H_joinParts 10 = .ok (.iload_n 1, 1) := by decide +kernel
theorem d_H_joinParts_11 : decode b_H_joinParts 11 = .ok (.iload 4, 2) := by decide +kernel
theorem d_H_joinParts_13 : decode b_H_joinParts 13 = .ok (.ixor, 1) := by decide +kernel
theorem d_H_joinParts_14 : decode b_H_joinParts 14 = .ok (.istore 5, 2) := by decide +kernel
theorem d_H_joinParts_16 : decode b_H_joinParts 16 = .ok (.aload_n 0, 1) := by decide +kernel
theorem d_H_joinParts_17 : decode b_H_joinParts 17 = .ok (.getfield 28, 3) := by decide +kernel
theorem d_H_joinParts_20 : decode b_H_joinParts 20 = .ok (.aload_n 0, 1) := by decide +kernel
theorem d_H_joinParts_21 : decode b_H_joinParts 21 = .ok (.getfield 42, 3) := by decide +kernel
theorem d_H_joinParts_24 : decode b_H_joinParts 24 = .ok (.iload 4, 2) := by decide +kernel
theorem d_H_joinParts_26 : decode b_H_joinParts 26 = .ok (.iaload, 1) := by decide +kernel
theorem d_H_joinParts_27 : decode b_H_joinParts 27 = .ok (.aload_n 0, 1) := by decide +kernel
theorem d_H_joinParts_28 : decode b_H_joinParts 28 = .ok (.getfield 21, 3) := by decide +kernel
theorem d_H_joinParts_31 : decode b_H_joinParts 31 = .ok (.iload 4, 2) := by decide +kernel
theorem d_H_joinParts_33 : decode b_H_joinParts 33 = .ok (.invokevirtual 178, 3) := by decide +kernel
theorem d_H_joinParts_36 : decode b_H_joinParts 36 = .ok (.aload_n 0, 1) := by decide +kernel
theorem d_H_joinParts_37 : decode b_H_joinParts 37 = .ok (.getfield 42, 3) := by decide +kernel
theorem d_H_joinParts_40 : decode b_H_joinParts 40 = .ok (.iload 5, 2) := by decide +kernel
theorem d_H_joinParts_42 : decode b_H_joinParts 42 = .ok (.iaload, 1) := by decide +kernel
theorem d_H_joinParts_43 : decode b_H_joinParts 43 = .ok (.aload_n 0, 1) := by decide +kernel
theorem d_H_joinParts_44 : decode b_H_joinParts 44 = .ok (.getfield 21, 3) := by decide +kernel
theorem d_H_joinParts_47 : decode b_H_joinParts 47 = .ok (.iload 5, 2) := by decide +kernel
theorem d_H_joinParts_49 : decode b_H_joinParts 49 = .ok (.invokevirtual 178, 3) := by decide +kernel
theorem d_H_joinParts_52 : decode b_H_joinParts 52 = .ok (.iload_n 2, 1) := by decide +kernel
theorem d_H_joinParts_53 : decode b_H_joinParts 53 = .ok (.iload_n 3, 1) := by decide +kernel
theorem d_H_joinParts_54 : decode b_H_joinParts 54 = .ok (.invokevirtual 174, 3) := by decide +kernel
theorem d_H_joinParts_57 : decode b_H_joinParts 57 = .ok (.aload_n 0, 1) := by decide +kernel
theorem d_H_joinParts_58 : decode b_H_joinParts 58 = .ok (.getfield 42, 3) := by decide +kernel
theorem d_H_joinParts_61 : decode b_H_joinParts 61 = .ok (.iload_n 1, 1) := by decide +kernel
theorem d_H_joinParts_62 : decode b_H_joinParts 62 = .ok (.iload_n 2, 1) := by decide +kernel
theorem d_H_joinParts_63 : decode b_H_joinParts 63 = .ok (.iastore, 1) := by decide +kernel
theorem d_H_joinParts_64 : decode b_H_joinParts 64 = .ok (.return_, 1) := by decide +kernel
theorem d_H_sumAlone_0 : decode b_H_sumAlone 0 = .ok (.aload_n 0, 1) := by decide +kernel
theorem d_H_sumAlone_1 : decode b_H_sumAlone 1 = .ok (.getfield 110, 3) := by decide +kernel
theorem d_H_sumAlone_4 : decode b_H_sumAlone 4 = .ok (.ifCond .ne 9, 3) := by decide +kernel
theorem d_H_sumAlone_7 : decode b_H_sumAlone 7 = .ok (.sipush 243, 3) := by decide +kernel
theorem d_H_sumAlone_10 : decode b_H_sumAlone 10 = .ok (.goto 12, 3) := by decide +kernel
theorem d_H_sumAlone_13 : decode b_H_sumAlone 13 = .ok (.aload_n 0, 1) := by decide +kernel
theorem d_H_sumAlone_14 : decode b_H_sumAlone 14 = .ok (.getfield 36, 3) := by decide +kernel
theorem d_H_sumAlone_17 : decode b_H_sumAlone 17 = .ok (.iconst 0, 1) := by decide +kernel
theorem d_H_sumAlone_18 : decode b_H_sumAlone 18 = .ok (.iaload, 1) := by decide +kernel
theorem d_H_sumAlone_19 : decode b_H_sumAlone 19 = .ok (.invokestatic 104, 3) := by decide +kernel
theorem d_H_sumAlone_22 : decode b_H_sumAlone 22 = .ok (.istore_n 1, 1) := by decide +kernel
theorem d_H_sumAlone_23 : decode b_H_sumAlone 23 = .ok (.aload_n 0, 1) := by decide +kernel
theorem d_H_sumAlone_24 : decode b_H_sumAlone 24 = .ok (.getfield 110, 3) := by decide +kernel
theorem d_H_sumAlone_27 : decode b_H_sumAlone 27 = .ok (.ifCond .ne 7, 3) := by decide +kernel
theorem d_H_sumAlone_30 : decode b_H_sumAlone 30 = .ok (.iconst 0, 1) := by decide +kernel
theorem d_H_sumAlone_31 : decode b_H_sumAlone 31 = .ok (.goto 9, 3) := by decide +kernel
theorem d_H_sumAlone_34 : decode b_H_sumAlone 34 = .ok (.aload_n 0, 1) := by decide +kernel
theorem d_H_sumAlone_35 : decode b_H_sumAlone 35 = .ok (.getfield 39, 3) := by decide +kernel
theorem d_H_sumAlone_38 : decode b_H_sumAlone 38 = .ok (.iconst 0, 1) := by decide +kernel
theorem d_H_sumAlone_39 : decode b_H_sumAlone 39 = .ok (.iaload, 1) := by decide +kernel
theorem d_H_sumAlone_40 : decode b_H_sumAlone 40 = .ok (.istore_n 2, 1) := by decide +kernel
theorem d_H_sumAlone_41 : decode b_H_sumAlone 41 = .ok (.aload_n 0, 1) := by decide +kernel
theorem d_H_sumAlone_42 : decode b_H_sumAlone 42 = .ok (.getfield 28, 3) := by decide +kernel
theorem d_H_sumAlone_45 : decode b_H_sumAlone 45 = .ok (.iload_n 1, 1) := by decide +kernel
theorem d_H_sumAlone_46 : decode b_H_sumAlone 46 = .ok (.iload_n 2, 1) := by decide +kernel
theorem d_H_sumAlone_47 : decode b_H_sumAlone 47 = .ok (.sipush 243, 3) := by decide +kernel
theorem d_H_sumAlone_50 : decode b_H_sumAlone 50 = .ok (.iconst 0, 1) := by decide +kernel
theorem d_H_sumAlone_51 : decode b_H_sumAlone 51 = .ok (.sipush 216, 3) := by decide +kernel
theorem d_H_sumAlone_54 : decode b_H_sumAlone 54 = .ok (.aload_n 0, 1) := by decide +kernel
theorem d_H_sumAlone_55 : decode b_H_sumAlone 55 = .ok (.getfield 113, 3) := by decide +kernel
theorem d_H_sumAlone_58 : decode b_H_sumAlone 58 = .ok (.invokevirtual 174, 3) := by decide +kernel
theorem d_H_sumAlone_61 : decode b_H_sumAlone 61 = .ok (.return_, 1) := by decide +kernel
set_option maxHeartbeats 4000000 in
set_option maxRecDepth 100000 in
theorem c_H_makePlan (l : Launch) (dC : Nat → ClassId) (dI : Nat → Nat → Nat) (cI : ClassId) (z1 : Nat) (sz : Nat → Nat) (p1 p2 p3 p4 p5 : Nat) (h0 z0 p0 r0 k1 k2 k3 k4 : Nat) (tab sm : Int32) (K R pf : Nat) (fh fl fc fp fj fo : Nat → Int32) (la : Nat → Nat) (hK6 : K ≤ 6) (hK2 : 2 ≤ K) (hsz : ∀ k, k < 8 → sz k ≤ 3) (hla : ∀ k, k < K → la k < 256) (hfo : ∀ j, j < K → fo j = nI (la j)) (hk0 : ct_plk fh fc) (hpf : pf = 0 ∨ pf = 1) (hok : pf = 1 → ct_plok sz la K R fh fl fc fp fj) (sz0 : Nat) : Met l y_H_makePlan w_H_makePlan ({ frames := 4, cells := 0, slots := 0, locals := 97 }) (va_Pc [.ref h0] (ct_rw (dC, dI) ct_cl [(h0, .inr (0, [.ref z0, .ref p0, .ref r0, .int tab, .ref k1, .int (nI K), .ref k2, .ref k3, .int (nI R), .ref k4, .int (nI pf), .int sm])), (p0, .inr (2, [.ref z0, .ref p1, .ref p2, .ref p3, .ref p4, .ref p5])), (p1, .inl (cI, 64, .inl fh)), (p2, .inl (cI, 64, .inl fl)), (p3, .inl (cI, 64, .inl fc)), (p4, .inl (cI, 64, .inl fp)), (p5, .inl (cI, 5, .inl fj)), (z0, .inr (1, [.ref z1])), (z1, .inl (cI, 8, .inl (fun j => nI (sz j)))), (k3, .inl (cI, 6, .inl fo))] [(cI, .int)] sz0)) (va_Qv (fun (u : (Nat → Int32) × (Nat → Int32) × (Nat → Int32) × (Nat → Int32) × (Nat → Int32)) => ct_plok sz la K R u.1 u.2.1 u.2.2.1 u.2.2.2.1 u.2.2.2.2 ∧ ct_plk u.1 u.2.2.1) (fun (u : (Nat → Int32) × (Nat → Int32) × (Nat → Int32) × (Nat → Int32) × (Nat → Int32)) t => ct_at (dC, dI) ct_cl [(cI, .int)] (va_A [(h0, .inr (0, [.ref z0, .ref p0, .ref r0, .int tab, .ref k1, .int (nI K), .ref k2, .ref k3, .int (nI R), .ref k4, .int (nI pf), .int sm])), (p0, .inr (2, [.ref z0, .ref p1, .ref p2, .ref p3, .ref p4, .ref p5])), (p1, .inl (cI, 64, .inl fh)), (p2, .inl (cI, 64, .inl fl)), (p3, .inl (cI, 64, .inl fc)), (p4, .inl (cI, 64, .inl fp)), (p5, .inl (cI, 5, .inl fj)), (z0, .inr (1, [.ref z1])), (z1, .inl (cI, 8, .inl (fun j => nI (sz j)))), (k3, .inl (cI, 6, .inl fo))] sz0) [(h0, .inr (0, [.ref z0, .ref p0, .ref r0, .int tab, .ref k1, .int (nI K), .ref k2, .ref k3, .int (nI R), .ref k4, .int (nI 1), .int sm])), (p0, .inr (2, [.ref z0, .ref p1, .ref p2, .ref p3, .ref p4, .ref p5])), (p1, .inl (cI, 64, .inl (u.1))), (p2, .inl (cI, 64, .inl (u.2.1))), (p3, .inl (cI, 64, .inl (u.2.2.1))), (p4, .inl (cI, 64, .inl (u.2.2.2.1))), (p5, .inl (cI, 5, .inl (u.2.2.2.2))), (z0, .inr (1, [.ref z1])), (z1, .inl (cI, 8, .inl (fun j => nI (sz j)))), (k3, .inl (cI, 6, .inl fo))] t) (va_A [(h0, .inr (0, [.ref z0, .ref p0, .ref r0, .int tab, .ref k1, .int (nI K), .ref k2, .ref k3, .int (nI R), .ref k4, .int (nI pf), .int sm])), (p0, .inr (2, [.ref z0, .ref p1, .ref p2, .ref p3, .ref p4, .ref p5])), (p1, .inl (cI, 64, .inl fh)), (p2, .inl (cI, 64, .inl fl)), (p3, .inl (cI, 64, .inl fc)), (p4, .inl (cI, 64, .inl fp)), (p5, .inl (cI, 5, .inl fj)), (z0, .inr (1, [.ref z1])), (z1, .inl (cI, 8, .inl (fun j => nI (sz j)))), (k3, .inl (cI, 6, .inl fo))] sz0)) 0 0 (va_A [(h0, .inr (0, [.ref z0, .ref p0, .ref r0, .int tab, .ref k1, .int (nI K), .ref k2, .ref k3, .int (nI R), .ref k4, .int (nI pf), .int sm])), (p0, .inr (2, [.ref z0, .ref p1, .ref p2, .ref p3, .ref p4, .ref p5])), (p1, .inl (cI, 64, .inl fh)), (p2, .inl (cI, 64, .inl fl)), (p3, .inl (cI, 64, .inl fc)), (p4, .inl (cI, 64, .inl fp)), (p5, .inl (cI, 5, .inl fj)), (z0, .inr (1, [.ref z1])), (z1, .inl (cI, 8, .inl (fun j => nI (sz j)))), (k3, .inl (cI, 6, .inl fo))] sz0) := by
  refine Met.ofW (cc := b_H_makePlan) (maxL := 1) (ret := none) (by decide) rfl ?_
  intro p e s m args below meth c s₁ Bd hml hv
  obtain ⟨hargs, hsz, hP, hK, hD0⟩ := hv
  have hx := Bd.exec
  have hb := Bd.bytes
  have hr := Bd.returns
  have hts : ∀ w ∈ k_H_makePlan :: ct_tb, w.before args s = true := atoms_spec (ws := w_H_makePlan) Bd.pre
  have hown : s.vm.findClass R_H = some m.cls := findClass_of_methodNamed Bd.named
  have hlocks := Bd.notSynchronized
  subst hsz
  have hD := hD0.self (sz := s.heap.size)
  generalize hAe : va_A [(h0, .inr (0, [.ref z0, .ref p0, .ref r0, .int tab, .ref k1, .int (nI K), .ref k2, .ref k3, .int (nI R), .ref k4, .int (nI pf), .int sm])), (p0, .inr (2, [.ref z0, .ref p1, .ref p2, .ref p3, .ref p4, .ref p5])), (p1, .inl (cI, 64, .inl fh)), (p2, .inl (cI, 64, .inl fl)), (p3, .inl (cI, 64, .inl fc)), (p4, .inl (cI, 64, .inl fp)), (p5, .inl (cI, 5, .inl fj)), (z0, .inr (1, [.ref z1])), (z1, .inl (cI, 8, .inl (fun j => nI (sz j)))), (k3, .inl (cI, 6, .inl fo))] s.heap.size = A at hD ⊢
  have hA : ∀ q : Nat, s.heap.size ≤ q → A q := fun q h => by rw [← hAe]; exact Or.inr h
  have hS : va_S A s.heap s.heap [] := va_S.rf
  have hl := lv_entry ([.ref h0]) (n := 1) (Nat.le_of_ble_eq_true rfl)
  rw [show entryFrame m args 1 = entryFrame m (([.ref h0] : List Value)).toArray 1 by rw [hargs], lg_entry_eq]
  generalize (lg_sl ([.ref h0]) ++ List.replicate (1 - (lg_sl ([.ref h0])).length) Slot.unset).toArray = ls at hl ⊢
  have hl : lv_has ls 1 [(0, .ref h0)] := hl
  refine lv_aload_n hx hb d_H_makePlan_0 rfl (lv_at hl 0 rfl) ?_
  refine va_get (D := (dC, dI)) (ci := 0) (v := .int (nI pf)) (C := R_H) (T := T_H) (N := 12) hx hb hts (fun w h9 => ct_tl (ki_H w h9)) hown hK hP 0 rfl rfl 10 (by decide) (hts _ (ct_tl kw_124)) (fun _ h9 => h9) rfl d_H_makePlan_1 ?_
  by_cases hq : pf = 1
  · subst hq
    refine lv_if_ne (tgt := 31) hx hb d_H_makePlan_4 (by decide) (fun _ => ?_) (fun hc9 => absurd hc9 (nI_ne0 (by omega) (by omega)))
    have hP9 := hP.sub [0, 1, 2, 3, 4, 5, 6, 7, 8, 9] rfl
    exact W.vret hx hb hr (fun tS ht hW => ⟨⟨(fh, fl, fc, fp, fj), rfl, ⟨hok rfl, hk0⟩, by rw [ht]; exact hP9, va_K.moved hW.alike hK, hD.sub [0, 1, 2, 3, 4, 5, 6, 7, 8, 9] (by decide) rfl⟩, hS.F ht⟩) hS.2.2 d_H_makePlan_31
  · obtain rfl : pf = 0 := hpf.resolve_right hq
    refine lv_if_ne (tgt := 31) hx hb d_H_makePlan_4 (by decide) (fun hc9 => absurd (nI_0) hc9) (fun _ => ?_)
    refine lv_aload_n hx hb d_H_makePlan_7 rfl (lv_at hl 0 rfl) ?_
    refine va_get (D := (dC, dI)) (ci := 0) (v := .ref p0) (C := R_H) (T := T_H) (N := 12) hx hb hts (fun w h9 => ct_tl (ki_H w h9)) hown hK hP 0 rfl rfl 1 (by decide) (hts _ (ct_tl kw_115)) (fun _ h9 => h9) rfl d_H_makePlan_8 ?_
    refine lv_aload_n hx hb d_H_makePlan_11 rfl (lv_at hl 0 rfl) ?_
    refine va_get (D := (dC, dI)) (ci := 0) (v := .ref k3) (C := R_H) (T := T_H) (N := 12) hx hb hts (fun w h9 => ct_tl (ki_H w h9)) hown hK hP 0 rfl rfl 7 (by decide) (hts _ (ct_tl kw_121)) (fun _ h9 => h9) rfl d_H_makePlan_12 ?_
    refine lv_aload_n hx hb d_H_makePlan_15 rfl (lv_at hl 0 rfl) ?_
    refine va_get (D := (dC, dI)) (ci := 0) (v := .int (nI K)) (C := R_H) (T := T_H) (N := 12) hx hb hts (fun w h9 => ct_tl (ki_H w h9)) hown hK hP 0 rfl rfl 5 (by decide) (hts _ (ct_tl kw_119)) (fun _ h9 => h9) rfl d_H_makePlan_16 ?_
    refine lv_aload_n hx hb d_H_makePlan_19 rfl (lv_at hl 0 rfl) ?_
    refine va_get (D := (dC, dI)) (ci := 0) (v := .int (nI R)) (C := R_H) (T := T_H) (N := 12) hx hb hts (fun w h9 => ct_tl (ki_H w h9)) hown hK hP 0 rfl rfl 8 (by decide) (hts _ (ct_tl kw_122)) (fun _ h9 => h9) rfl d_H_makePlan_20 ?_
    have hPc := hP.sub (ws' := [(p0, .inr (2, [.ref z0, .ref p1, .ref p2, .ref p3, .ref p4, .ref p5])), (p1, .inl (cI, 64, .inl fh)), (p2, .inl (cI, 64, .inl fl)), (p3, .inl (cI, 64, .inl fc)), (p4, .inl (cI, 64, .inl fp)), (p5, .inl (cI, 5, .inl fj)), (z0, .inr (1, [.ref z1])), (z1, .inl (cI, 8, .inl (fun j => nI (sz j)))), (k3, .inl (cI, 6, .inl fo))]) [1, 2, 3, 4, 5, 6, 7, 8, 9] rfl
    have hDc := hD.sub (ws' := [(p0, .inr (2, [.ref z0, .ref p1, .ref p2, .ref p3, .ref p4, .ref p5])), (p1, .inl (cI, 64, .inl fh)), (p2, .inl (cI, 64, .inl fl)), (p3, .inl (cI, 64, .inl fc)), (p4, .inl (cI, 64, .inl fp)), (p5, .inl (cI, 5, .inl fj)), (z0, .inr (1, [.ref z1])), (z1, .inl (cI, 8, .inl (fun j => nI (sz j)))), (k3, .inl (cI, 6, .inl fo))]) [1, 2, 3, 4, 5, 6, 7, 8, 9] (by decide) rfl
    have hFc := va_free (wc := [(p0, .inr (2, [.ref z0, .ref p1, .ref p2, .ref p3, .ref p4, .ref p5])), (p1, .inl (cI, 64, .inl fh)), (p2, .inl (cI, 64, .inl fl)), (p3, .inl (cI, 64, .inl fc)), (p4, .inl (cI, 64, .inl fp)), (p5, .inl (cI, 5, .inl fj)), (z0, .inr (1, [.ref z1])), (z1, .inl (cI, 8, .inl (fun j => nI (sz j)))), (k3, .inl (cI, 6, .inl fo))]) hD hS hA [1, 2, 3, 4, 5, 6, 7, 8, 9] rfl
    refine va_callv (va_runV (As := [.ref k3, .int (nI K), .int (nI R)]) (rest := []) ⟨hx, hb, hml, hown, hts⟩ (c_P_make l dC dI cI z1 sz z0 p0 p1 p2 p3 p4 p5 k3 fh fl fc fp fj fo la K R hK6 hK2 hsz hla hfo hk0 s.heap.size) (cwV 3 hts (ct_giV (fun w h9 => ct_tl h9) kw_167 kw_168 kw_169 kw_28 kw_170) rfl rfl rfl (by decide +kernel) ⟨Nat.le_of_ble_eq_true rfl, Nat.le_of_ble_eq_true rfl⟩) ⟨ct_rw_blind, va_recv hK hP (ci := 2) (q0 := 1) rfl rfl, ct_rw_pre hPc hK hDc⟩ rfl rfl hl.1 rfl (lv_room (Nat.le_of_ble_eq_true rfl)) d_H_makePlan_23 ⟨Nat.le_of_ble_eq_true rfl, Nat.le_of_ble_eq_true rfl⟩) hS (fun q _ h9 => hFc q h9) hFc (fun ⟨gh, gl, gc, gp, gj⟩ tS H1 locs ht hvm hmk hB hz1 hk1 hS => ?_)
    obtain ⟨hP1, -, hD1⟩ := hB
    rw [ht] at hP1
    obtain ⟨hP, hD⟩ := va_join (wr := [(h0, .inr (0, [.ref z0, .ref p0, .ref r0, .int tab, .ref k1, .int (nI K), .ref k2, .ref k3, .int (nI R), .ref k4, .int (nI 0), .int sm]))]) (w1 := [(p0, .inr (2, [.ref z0, .ref p1, .ref p2, .ref p3, .ref p4, .ref p5])), (p1, .inl (cI, 64, .inl gh)), (p2, .inl (cI, 64, .inl gl)), (p3, .inl (cI, 64, .inl gc)), (p4, .inl (cI, 64, .inl gp)), (p5, .inl (cI, 5, .inl gj)), (z0, .inr (1, [.ref z1])), (z1, .inl (cI, 8, .inl (fun j => nI (sz j)))), (k3, .inl (cI, 6, .inl fo))]) hP hD [1, 2, 3, 4, 5, 6, 7, 8, 9] [0] rfl rfl (by decide) (by decide) hk1 hFc hP1 hD1
    generalize H1 = H at hP hS ⊢
    have hP : va_P (dC, dI) ct_cl [(h0, .inr (0, [.ref z0, .ref p0, .ref r0, .int tab, .ref k1, .int (nI K), .ref k2, .ref k3, .int (nI R), .ref k4, .int (nI 0), .int sm])), (p0, .inr (2, [.ref z0, .ref p1, .ref p2, .ref p3, .ref p4, .ref p5])), (p1, .inl (cI, 64, .inl gh)), (p2, .inl (cI, 64, .inl gl)), (p3, .inl (cI, 64, .inl gc)), (p4, .inl (cI, 64, .inl gp)), (p5, .inl (cI, 5, .inl gj)), (z0, .inr (1, [.ref z1])), (z1, .inl (cI, 8, .inl (fun j => nI (sz j)))), (k3, .inl (cI, 6, .inl fo))] H := hP
    have hD : va_D A [(h0, .inr (0, [.ref z0, .ref p0, .ref r0, .int tab, .ref k1, .int (nI K), .ref k2, .ref k3, .int (nI R), .ref k4, .int (nI 0), .int sm])), (p0, .inr (2, [.ref z0, .ref p1, .ref p2, .ref p3, .ref p4, .ref p5])), (p1, .inl (cI, 64, .inl gh)), (p2, .inl (cI, 64, .inl gl)), (p3, .inl (cI, 64, .inl gc)), (p4, .inl (cI, 64, .inl gp)), (p5, .inl (cI, 5, .inl gj)), (z0, .inr (1, [.ref z1])), (z1, .inl (cI, 8, .inl (fun j => nI (sz j)))), (k3, .inl (cI, 6, .inl fo))] := hD
    refine lv_aload_n hx hb d_H_makePlan_26 rfl (lv_at hl 0 rfl) ?_
    refine lv_iconst (v := (nI 1)) hx hb d_H_makePlan_27 (by decide) ?_
    refine va_put (D := (dC, dI)) (ci := 0) (v := .int (nI 1)) (ty := .boolean) (C := R_H) (T := T_H) (N := 12) hx hb hts (fun w h9 => ct_tl (ki_H w h9)) ty_H ok_H nm_H hown hK hP hD hS 0 rfl rfl 10 (by decide) (hts _ (ct_tl kw_124)) (fun _ h9 => h9) rfl (by decide +kernel) rfl rfl (Nat.le_of_ble_eq_true rfl) d_H_makePlan_28 (fun H locs hP hD hS => ?_)
    have hP : va_P (dC, dI) ct_cl [(h0, .inr (0, [.ref z0, .ref p0, .ref r0, .int tab, .ref k1, .int (nI K), .ref k2, .ref k3, .int (nI R), .ref k4, .int (nI 1), .int sm])), (p0, .inr (2, [.ref z0, .ref p1, .ref p2, .ref p3, .ref p4, .ref p5])), (p1, .inl (cI, 64, .inl gh)), (p2, .inl (cI, 64, .inl gl)), (p3, .inl (cI, 64, .inl gc)), (p4, .inl (cI, 64, .inl gp)), (p5, .inl (cI, 5, .inl gj)), (z0, .inr (1, [.ref z1])), (z1, .inl (cI, 8, .inl (fun j => nI (sz j)))), (k3, .inl (cI, 6, .inl fo))] H := hP
    have hD : va_D A [(h0, .inr (0, [.ref z0, .ref p0, .ref r0, .int tab, .ref k1, .int (nI K), .ref k2, .ref k3, .int (nI R), .ref k4, .int (nI 1), .int sm])), (p0, .inr (2, [.ref z0, .ref p1, .ref p2, .ref p3, .ref p4, .ref p5])), (p1, .inl (cI, 64, .inl gh)), (p2, .inl (cI, 64, .inl gl)), (p3, .inl (cI, 64, .inl gc)), (p4, .inl (cI, 64, .inl gp)), (p5, .inl (cI, 5, .inl gj)), (z0, .inr (1, [.ref z1])), (z1, .inl (cI, 8, .inl (fun j => nI (sz j)))), (k3, .inl (cI, 6, .inl fo))] := hD
    have hP9 := hP.sub [0, 1, 2, 3, 4, 5, 6, 7, 8, 9] rfl
    exact W.vret hx hb hr (fun tS ht hW => ⟨⟨(gh, gl, gc, gp, gj), rfl, hmk, by rw [ht]; exact hP9, va_K.moved hW.alike hK, hD.sub [0, 1, 2, 3, 4, 5, 6, 7, 8, 9] (by decide) rfl⟩, hS.F ht⟩) hS.2.2 d_H_makePlan_31
set_option maxHeartbeats 4000000 in
set_option maxRecDepth 100000 in
theorem c_H_joinParts (l : Launch) (dC : Nat → ClassId) (dI : Nat → Nat → Nat) (cI : ClassId) (z1 : Nat) (sz : Nat → Nat) (p1 p2 p3 p4 p5 : Nat) (h0 z0 p0 r0 k1 k2 k3 k4 : Nat) (r1 r2 r3 r4 r5 r6 : Nat) (tab ops res pl sm : Int32) (N : Nat) (hm fl fp f fe fi fa fb ft : Nat → Int32) (S a to T xa xb ha hb1 : Nat) (hS6 : S < 64) (ha6 : a < 64) (hb6 : S ^^^ a < 64) (hfp : fp S = nI a) (hfa : fl a = nI xa) (hfb : fl (S ^^^ a) = nI xb) (hma : hm a = nI ha) (hmb : hm (S ^^^ a) = nI hb1) (hxa : xa < 256) (hxb : xb < 256) (hT : T < 256) (hsz : ∀ k, k < 8 → 0 < sz k ∧ sz k < 4) (hN : N < 2 ^ 31) (hA0 : ha + (ct_pr sz xa.testBit 8) ≤ N) (hB0 : hb1 + (ct_pr sz xb.testBit 8) ≤ N) (hT0 : to + (ct_pr sz T.testBit 8) ≤ N) (hdA : ha + (ct_pr sz xa.testBit 8) ≤ to ∨ to + (ct_pr sz T.testBit 8) ≤ ha) (hdB : hb1 + (ct_pr sz xb.testBit 8) ≤ to ∨ to + (ct_pr sz T.testBit 8) ≤ hb1) (sz0 : Nat) : Met l y_H_joinParts w_H_joinParts ({ frames := 4, cells := 0, slots := 0, locals := 107 }) (va_Pc [.ref h0, .int (nI S), .int (nI to), .int (nI T)] (ct_rw (dC, dI) ct_cl [(h0, .inr (0, [.ref z0, .ref p0, .ref r0, .int tab, .ref k1, .int ops, .ref k2, .ref k3, .int res, .ref k4, .int pl, .int sm])), (k4, .inl (cI, 64, .inl hm)), (p0, .inr (2, [.ref z0, .ref p1, .ref p2, .ref p3, .ref p4, .ref p5])), (p2, .inl (cI, 64, .inl fl)), (p4, .inl (cI, 64, .inl fp)), (r0, .inr (3, [.ref z0, .ref r1, .ref r2, .ref r3, .ref r4, .ref r5, .ref r6])), (r1, .inl (cI, N, .inl f)), (r2, .inl (cI, 8, .inl fe)), (r3, .inl (cI, 8, .inl fi)), (r4, .inl (cI, 8, .inl fa)), (r5, .inl (cI, 8, .inl fb)), (r6, .inl (cI, 8, .inl ft)), (z0, .inr (1, [.ref z1])), (z1, .inl (cI, 8, .inl (fun j => nI (sz j))))] [(cI, .int)] sz0)) (va_Qv (fun (u : (Nat → Int32) × (Nat → Int32) × (Nat → Int32) × (Nat → Int32) × (Nat → Int32) × (Nat → Int32)) => ct_joined sz f ha xa hb1 xb to T u.1) (fun (u : (Nat → Int32) × (Nat → Int32) × (Nat → Int32) × (Nat → Int32) × (Nat → Int32) × (Nat → Int32)) t => ct_at (dC, dI) ct_cl [(cI, .int)] (va_A [(h0, .inr (0, [.ref z0, .ref p0, .ref r0, .int tab, .ref k1, .int ops, .ref k2, .ref k3, .int res, .ref k4, .int pl, .int sm])), (k4, .inl (cI, 64, .inl hm)), (p0, .inr (2, [.ref z0, .ref p1, .ref p2, .ref p3, .ref p4, .ref p5])), (p2, .inl (cI, 64, .inl fl)), (p4, .inl (cI, 64, .inl fp)), (r0, .inr (3, [.ref z0, .ref r1, .ref r2, .ref r3, .ref r4, .ref r5, .ref r6])), (r1, .inl (cI, N, .inl f)), (r2, .inl (cI, 8, .inl fe)), (r3, .inl (cI, 8, .inl fi)), (r4, .inl (cI, 8, .inl fa)), (r5, .inl (cI, 8, .inl fb)), (r6, .inl (cI, 8, .inl ft)), (z0, .inr (1, [.ref z1])), (z1, .inl (cI, 8, .inl (fun j => nI (sz j))))] sz0) [(h0, .inr (0, [.ref z0, .ref p0, .ref r0, .int tab, .ref k1, .int ops, .ref k2, .ref k3, .int res, .ref k4, .int pl, .int sm])), (k4, .inl (cI, 64, .inl (upd hm S (nI to)))), (p0, .inr (2, [.ref z0, .ref p1, .ref p2, .ref p3, .ref p4, .ref p5])), (p2, .inl (cI, 64, .inl fl)), (p4, .inl (cI, 64, .inl fp)), (r0, .inr (3, [.ref z0, .ref r1, .ref r2, .ref r3, .ref r4, .ref r5, .ref r6])), (r1, .inl (cI, N, .inl (u.1))), (r2, .inl (cI, 8, .inl (u.2.1))), (r3, .inl (cI, 8, .inl (u.2.2.1))), (r4, .inl (cI, 8, .inl (u.2.2.2.1))), (r5, .inl (cI, 8, .inl (u.2.2.2.2.1))), (r6, .inl (cI, 8, .inl (u.2.2.2.2.2))), (z0, .inr (1, [.ref z1])), (z1, .inl (cI, 8, .inl (fun j => nI (sz j))))] t) (va_A [(h0, .inr (0, [.ref z0, .ref p0, .ref r0, .int tab, .ref k1, .int ops, .ref k2, .ref k3, .int res, .ref k4, .int pl, .int sm])), (k4, .inl (cI, 64, .inl hm)), (p0, .inr (2, [.ref z0, .ref p1, .ref p2, .ref p3, .ref p4, .ref p5])), (p2, .inl (cI, 64, .inl fl)), (p4, .inl (cI, 64, .inl fp)), (r0, .inr (3, [.ref z0, .ref r1, .ref r2, .ref r3, .ref r4, .ref r5, .ref r6])), (r1, .inl (cI, N, .inl f)), (r2, .inl (cI, 8, .inl fe)), (r3, .inl (cI, 8, .inl fi)), (r4, .inl (cI, 8, .inl fa)), (r5, .inl (cI, 8, .inl fb)), (r6, .inl (cI, 8, .inl ft)), (z0, .inr (1, [.ref z1])), (z1, .inl (cI, 8, .inl (fun j => nI (sz j))))] sz0)) 0 0 (va_A [(h0, .inr (0, [.ref z0, .ref p0, .ref r0, .int tab, .ref k1, .int ops, .ref k2, .ref k3, .int res, .ref k4, .int pl, .int sm])), (k4, .inl (cI, 64, .inl hm)), (p0, .inr (2, [.ref z0, .ref p1, .ref p2, .ref p3, .ref p4, .ref p5])), (p2, .inl (cI, 64, .inl fl)), (p4, .inl (cI, 64, .inl fp)), (r0, .inr (3, [.ref z0, .ref r1, .ref r2, .ref r3, .ref r4, .ref r5, .ref r6])), (r1, .inl (cI, N, .inl f)), (r2, .inl (cI, 8, .inl fe)), (r3, .inl (cI, 8, .inl fi)), (r4, .inl (cI, 8, .inl fa)), (r5, .inl (cI, 8, .inl fb)), (r6, .inl (cI, 8, .inl ft)), (z0, .inr (1, [.ref z1])), (z1, .inl (cI, 8, .inl (fun j => nI (sz j))))] sz0) := by
  refine Met.ofW (cc := b_H_joinParts) (maxL := 6) (ret := none) (by decide) rfl ?_
  intro p e s m args below meth c s₁ Bd hml hv
  obtain ⟨hargs, hsz, hP, hK, hD0⟩ := hv
  have hx := Bd.exec
  have hb := Bd.bytes
  have hr := Bd.returns
  have hts : ∀ w ∈ k_H_joinParts :: ct_tb, w.before args s = true := atoms_spec (ws := w_H_joinParts) Bd.pre
  have hown : s.vm.findClass R_H = some m.cls := findClass_of_methodNamed Bd.named
  have hlocks := Bd.notSynchronized
  subst hsz
  have hD := hD0.self (sz := s.heap.size)
  generalize hAe : va_A [(h0, .inr (0, [.ref z0, .ref p0, .ref r0, .int tab, .ref k1, .int ops, .ref k2, .ref k3, .int res, .ref k4, .int pl, .int sm])), (k4, .inl (cI, 64, .inl hm)), (p0, .inr (2, [.ref z0, .ref p1, .ref p2, .ref p3, .ref p4, .ref p5])), (p2, .inl (cI, 64, .inl fl)), (p4, .inl (cI, 64, .inl fp)), (r0, .inr (3, [.ref z0, .ref r1, .ref r2, .ref r3, .ref r4, .ref r5, .ref r6])), (r1, .inl (cI, N, .inl f)), (r2, .inl (cI, 8, .inl fe)), (r3, .inl (cI, 8, .inl fi)), (r4, .inl (cI, 8, .inl fa)), (r5, .inl (cI, 8, .inl fb)), (r6, .inl (cI, 8, .inl ft)), (z0, .inr (1, [.ref z1])), (z1, .inl (cI, 8, .inl (fun j => nI (sz j))))] s.heap.size = A at hD ⊢
  have hA : ∀ q : Nat, s.heap.size ≤ q → A q := fun q h => by rw [← hAe]; exact Or.inr h
  have hS : va_S A s.heap s.heap [] := va_S.rf
  have hl := lv_entry ([.ref h0, .int (nI S), .int (nI to), .int (nI T)]) (n := 6) (Nat.le_of_ble_eq_true rfl)
  rw [show entryFrame m args 6 = entryFrame m (([.ref h0, .int (nI S), .int (nI to), .int (nI T)] : List Value)).toArray 6 by rw [hargs], lg_entry_eq]
  generalize (lg_sl ([.ref h0, .int (nI S), .int (nI to), .int (nI T)]) ++ List.replicate (6 - (lg_sl ([.ref h0, .int (nI S), .int (nI to), .int (nI T)])).length) Slot.unset).toArray = ls at hl ⊢
  have hl : lv_has ls 6 [(0, .ref h0), (1, .int (nI S)), (2, .int (nI to)), (3, .int (nI T))] := hl
  refine lv_aload_n hx hb d_H_joinParts_0 rfl (lv_at hl 0 rfl) ?_
  refine va_get (D := (dC, dI)) (ci := 0) (v := .ref p0) (C := R_H) (T := T_H) (N := 12) hx hb hts (fun w h9 => ct_tl (ki_H w h9)) hown hK hP 0 rfl rfl 1 (by decide) (hts _ (ct_tl kw_115)) (fun _ h9 => h9) rfl d_H_joinParts_1 ?_
  refine lv_iload_n hx hb d_H_joinParts_4 rfl (lv_at hl 1 rfl) ?_
  refine va_calli (va_runV (As := [.int (nI S)]) (rest := []) ⟨hx, hb, hml, hown, hts⟩ (c_P_partOf l dC dI cI z0 p0 p1 p2 p3 p4 p5 fp S hS6) (cwV 1 hts (ct_giV (fun w h9 => ct_tl h9) kw_432 kw_433 kw_434 kw_28 kw_435) rfl rfl rfl (by decide +kernel) ⟨Nat.le_of_ble_eq_true rfl, Nat.le_of_ble_eq_true rfl⟩) ⟨ct_ro_blind, va_recv hK hP (ci := 2) (q0 := 2) rfl rfl, ct_ro_pre (hP.sub [2, 4] rfl) hK⟩ rfl rfl hl.1 rfl (lv_room (Nat.le_of_ble_eq_true rfl)) d_H_joinParts_5 ⟨Nat.le_of_ble_eq_true rfl, Nat.le_of_ble_eq_true rfl⟩) hS (fun q _ h9 => h9.elim) (fun q h9 => h9.elim) (fun ans1 uS tS H locs ht hvm hwans1 hB hz1 hk1 hS => ?_)
  have hP := ct_keep hP hk1
  refine ct_val (y := fp S) (hwans1) ?_
  refine ct_val (y := nI a) hfp ?_
  refine lv_istore (lv' := [(4, .int (nI a)), (0, .ref h0), (1, .int (nI S)), (2, .int (nI to)), (3, .int (nI T))]) hx hb d_H_joinParts_8 hl (by decide) rfl (fun ls hl => ?_)
  refine lv_iload_n hx hb d_H_joinParts_10 rfl (lv_at hl 2 rfl) ?_
  refine lv_iload hx hb d_H_joinParts_11 (lv_at hl 0 rfl) ?_
  refine lv_ixor hx hb d_H_joinParts_13 ?_
  refine ct_val (y := nI (S ^^^ a)) (ct_xor _ _) ?_
  refine lv_istore (lv' := [(5, .int (nI (S ^^^ a))), (4, .int (nI a)), (0, .ref h0), (1, .int (nI S)), (2, .int (nI to)), (3, .int (nI T))]) hx hb d_H_joinParts_14 hl (by decide) rfl (fun ls hl => ?_)
  refine lv_aload_n hx hb d_H_joinParts_16 rfl (lv_at hl 2 rfl) ?_
  refine va_get (D := (dC, dI)) (ci := 0) (v := .ref r0) (C := R_H) (T := T_H) (N := 12) hx hb hts (fun w h9 => ct_tl (ki_H w h9)) hown hK hP 0 rfl rfl 2 (by decide) (hts _ (ct_tl kw_116)) (fun _ h9 => h9) rfl d_H_joinParts_17 ?_
  refine lv_aload_n hx hb d_H_joinParts_20 rfl (lv_at hl 2 rfl) ?_
  refine va_get (D := (dC, dI)) (ci := 0) (v := .ref k4) (C := R_H) (T := T_H) (N := 12) hx hb hts (fun w h9 => ct_tl (ki_H w h9)) hown hK hP 0 rfl rfl 9 (by decide) (hts _ (ct_tl kw_123)) (fun _ h9 => h9) rfl d_H_joinParts_21 ?_
  refine lv_iload hx hb d_H_joinParts_24 (lv_at hl 1 rfl) ?_
  refine ct_iald hx hb hK hP 1 0 rfl rfl (j := a) (by omega) (by omega) d_H_joinParts_26 ?_
  refine ct_val (y := nI ha) (hma) ?_
  refine lv_aload_n hx hb d_H_joinParts_27 rfl (lv_at hl 2 rfl) ?_
  refine va_get (D := (dC, dI)) (ci := 0) (v := .ref p0) (C := R_H) (T := T_H) (N := 12) hx hb hts (fun w h9 => ct_tl (ki_H w h9)) hown hK hP 0 rfl rfl 1 (by decide) (hts _ (ct_tl kw_115)) (fun _ h9 => h9) rfl d_H_joinParts_28 ?_
  refine lv_iload hx hb d_H_joinParts_31 (lv_at hl 1 rfl) ?_
  refine va_calli (va_runV (As := [.int (nI a)]) (rest := [.int (nI ha), .ref r0]) ⟨hx, hb, hml, hown, hts⟩ (c_P_leavesOf l dC dI cI z0 p0 p1 p2 p3 p4 p5 fl a ha6) (cwV 1 hts (ct_giV (fun w h9 => ct_tl h9) kw_471 kw_472 kw_473 kw_28 kw_474) rfl rfl rfl (by decide +kernel) ⟨Nat.le_of_ble_eq_true rfl, Nat.le_of_ble_eq_true rfl⟩) ⟨ct_ro_blind, va_recv hK hP (ci := 2) (q0 := 2) rfl rfl, ct_ro_pre (hP.sub [2, 3] rfl) hK⟩ rfl rfl hl.1 rfl (lv_room (Nat.le_of_ble_eq_true rfl)) d_H_joinParts_33 ⟨Nat.le_of_ble_eq_true rfl, Nat.le_of_ble_eq_true rfl⟩) hS (fun q _ h9 => h9.elim) (fun q h9 => h9.elim) (fun ans2 uS tS H locs ht hvm hwans2 hB hz1 hk1 hS => ?_)
  have hP := ct_keep hP hk1
  refine ct_val (y := fl a) (hwans2) ?_
  refine ct_val (y := nI xa) hfa ?_
  refine lv_aload_n hx hb d_H_joinParts_36 rfl (lv_at hl 2 rfl) ?_
  refine va_get (D := (dC, dI)) (ci := 0) (v := .ref k4) (C := R_H) (T := T_H) (N := 12) hx hb hts (fun w h9 => ct_tl (ki_H w h9)) hown hK hP 0 rfl rfl 9 (by decide) (hts _ (ct_tl kw_123)) (fun _ h9 => h9) rfl d_H_joinParts_37 ?_
  refine lv_iload hx hb d_H_joinParts_40 (lv_at hl 0 rfl) ?_
  refine ct_iald hx hb hK hP 1 0 rfl rfl (j := S ^^^ a) (by omega) (by omega) d_H_joinParts_42 ?_
  refine ct_val (y := nI hb1) (hmb) ?_
  refine lv_aload_n hx hb d_H_joinParts_43 rfl (lv_at hl 2 rfl) ?_
  refine va_get (D := (dC, dI)) (ci := 0) (v := .ref p0) (C := R_H) (T := T_H) (N := 12) hx hb hts (fun w h9 => ct_tl (ki_H w h9)) hown hK hP 0 rfl rfl 1 (by decide) (hts _ (ct_tl kw_115)) (fun _ h9 => h9) rfl d_H_joinParts_44 ?_
  refine lv_iload hx hb d_H_joinParts_47 (lv_at hl 0 rfl) ?_
  refine va_calli (va_runV (As := [.int (nI (S ^^^ a))]) (rest := [.int (nI hb1), .int (nI xa), .int (nI ha), .ref r0]) ⟨hx, hb, hml, hown, hts⟩ (c_P_leavesOf l dC dI cI z0 p0 p1 p2 p3 p4 p5 fl (S ^^^ a) hb6) (cwV 1 hts (ct_giV (fun w h9 => ct_tl h9) kw_471 kw_472 kw_473 kw_28 kw_474) rfl rfl rfl (by decide +kernel) ⟨Nat.le_of_ble_eq_true rfl, Nat.le_of_ble_eq_true rfl⟩) ⟨ct_ro_blind, va_recv hK hP (ci := 2) (q0 := 2) rfl rfl, ct_ro_pre (hP.sub [2, 3] rfl) hK⟩ rfl rfl hl.1 rfl (lv_room (Nat.le_of_ble_eq_true rfl)) d_H_joinParts_49 ⟨Nat.le_of_ble_eq_true rfl, Nat.le_of_ble_eq_true rfl⟩) hS (fun q _ h9 => h9.elim) (fun q h9 => h9.elim) (fun ans3 uS tS H locs ht hvm hwans3 hB hz1 hk1 hS => ?_)
  have hP := ct_keep hP hk1
  refine ct_val (y := fl (S ^^^ a)) (hwans3) ?_
  refine ct_val (y := nI xb) hfb ?_
  refine lv_iload_n hx hb d_H_joinParts_52 rfl (lv_at hl 4 rfl) ?_
  refine lv_iload_n hx hb d_H_joinParts_53 rfl (lv_at hl 5 rfl) ?_
  have hPc := hP.sub (ws' := [(r0, .inr (3, [.ref z0, .ref r1, .ref r2, .ref r3, .ref r4, .ref r5, .ref r6])), (r1, .inl (cI, N, .inl f)), (r2, .inl (cI, 8, .inl fe)), (r3, .inl (cI, 8, .inl fi)), (r4, .inl (cI, 8, .inl fa)), (r5, .inl (cI, 8, .inl fb)), (r6, .inl (cI, 8, .inl ft)), (z0, .inr (1, [.ref z1])), (z1, .inl (cI, 8, .inl (fun j => nI (sz j))))]) [5, 6, 7, 8, 9, 10, 11, 12, 13] rfl
  have hDc := hD.sub (ws' := [(r0, .inr (3, [.ref z0, .ref r1, .ref r2, .ref r3, .ref r4, .ref r5, .ref r6])), (r1, .inl (cI, N, .inl f)), (r2, .inl (cI, 8, .inl fe)), (r3, .inl (cI, 8, .inl fi)), (r4, .inl (cI, 8, .inl fa)), (r5, .inl (cI, 8, .inl fb)), (r6, .inl (cI, 8, .inl ft)), (z0, .inr (1, [.ref z1])), (z1, .inl (cI, 8, .inl (fun j => nI (sz j))))]) [5, 6, 7, 8, 9, 10, 11, 12, 13] (by decide) rfl
  have hFc := va_free (wc := [(r0, .inr (3, [.ref z0, .ref r1, .ref r2, .ref r3, .ref r4, .ref r5, .ref r6])), (r1, .inl (cI, N, .inl f)), (r2, .inl (cI, 8, .inl fe)), (r3, .inl (cI, 8, .inl fi)), (r4, .inl (cI, 8, .inl fa)), (r5, .inl (cI, 8, .inl fb)), (r6, .inl (cI, 8, .inl ft)), (z0, .inr (1, [.ref z1])), (z1, .inl (cI, 8, .inl (fun j => nI (sz j))))]) hD hS hA [5, 6, 7, 8, 9, 10, 11, 12, 13] rfl
  refine va_callv (va_runV (As := [.int (nI ha), .int (nI xa), .int (nI hb1), .int (nI xb), .int (nI to), .int (nI T)]) (rest := []) ⟨hx, hb, hml, hown, hts⟩ (c_R_join l dC dI cI z1 sz z0 r0 r1 r2 r3 r4 r5 r6 N f fe fi fa fb ft ha xa hb1 xb to T hxa hxb hT hsz hN hA0 hB0 hT0 hdA hdB H.size) (cwV 6 hts (ct_giV (fun w h9 => ct_tl h9) kw_449 kw_450 kw_451 kw_29 kw_452) rfl rfl rfl (by decide +kernel) ⟨Nat.le_of_ble_eq_true rfl, Nat.le_of_ble_eq_true rfl⟩) ⟨ct_rw_blind, va_recv hK hP (ci := 3) (q0 := 5) rfl rfl, ct_rw_pre hPc hK hDc⟩ rfl rfl hl.1 rfl (lv_room (Nat.le_of_ble_eq_true rfl)) d_H_joinParts_54 ⟨Nat.le_of_ble_eq_true rfl, Nat.le_of_ble_eq_true rfl⟩) hS (fun q _ h9 => hFc q h9) hFc (fun ⟨f2, ge, gi, ga, gb, gt⟩ tS H1 locs ht hvm hj hB hz1 hk1 hS => ?_)
  obtain ⟨hP1, -, hD1⟩ := hB
  rw [ht] at hP1
  obtain ⟨hP, hD⟩ := va_join (wr := [(h0, .inr (0, [.ref z0, .ref p0, .ref r0, .int tab, .ref k1, .int ops, .ref k2, .ref k3, .int res, .ref k4, .int pl, .int sm])), (k4, .inl (cI, 64, .inl hm)), (p0, .inr (2, [.ref z0, .ref p1, .ref p2, .ref p3, .ref p4, .ref p5])), (p2, .inl (cI, 64, .inl fl)), (p4, .inl (cI, 64, .inl fp))]) (w1 := [(r0, .inr (3, [.ref z0, .ref r1, .ref r2, .ref r3, .ref r4, .ref r5, .ref r6])), (r1, .inl (cI, N, .inl f2)), (r2, .inl (cI, 8, .inl ge)), (r3, .inl (cI, 8, .inl gi)), (r4, .inl (cI, 8, .inl ga)), (r5, .inl (cI, 8, .inl gb)), (r6, .inl (cI, 8, .inl gt)), (z0, .inr (1, [.ref z1])), (z1, .inl (cI, 8, .inl (fun j => nI (sz j))))]) hP hD [5, 6, 7, 8, 9, 10, 11, 12, 13] [0, 1, 2, 3, 4] rfl rfl (by decide) (by decide) hk1 hFc hP1 hD1
  generalize H1 = H at hP hS ⊢
  have hP : va_P (dC, dI) ct_cl [(h0, .inr (0, [.ref z0, .ref p0, .ref r0, .int tab, .ref k1, .int ops, .ref k2, .ref k3, .int res, .ref k4, .int pl, .int sm])), (k4, .inl (cI, 64, .inl hm)), (p0, .inr (2, [.ref z0, .ref p1, .ref p2, .ref p3, .ref p4, .ref p5])), (p2, .inl (cI, 64, .inl fl)), (p4, .inl (cI, 64, .inl fp)), (r0, .inr (3, [.ref z0, .ref r1, .ref r2, .ref r3, .ref r4, .ref r5, .ref r6])), (r1, .inl (cI, N, .inl f2)), (r2, .inl (cI, 8, .inl ge)), (r3, .inl (cI, 8, .inl gi)), (r4, .inl (cI, 8, .inl ga)), (r5, .inl (cI, 8, .inl gb)), (r6, .inl (cI, 8, .inl gt)), (z0, .inr (1, [.ref z1])), (z1, .inl (cI, 8, .inl (fun j => nI (sz j))))] H := hP
  have hD : va_D A [(h0, .inr (0, [.ref z0, .ref p0, .ref r0, .int tab, .ref k1, .int ops, .ref k2, .ref k3, .int res, .ref k4, .int pl, .int sm])), (k4, .inl (cI, 64, .inl hm)), (p0, .inr (2, [.ref z0, .ref p1, .ref p2, .ref p3, .ref p4, .ref p5])), (p2, .inl (cI, 64, .inl fl)), (p4, .inl (cI, 64, .inl fp)), (r0, .inr (3, [.ref z0, .ref r1, .ref r2, .ref r3, .ref r4, .ref r5, .ref r6])), (r1, .inl (cI, N, .inl f2)), (r2, .inl (cI, 8, .inl ge)), (r3, .inl (cI, 8, .inl gi)), (r4, .inl (cI, 8, .inl ga)), (r5, .inl (cI, 8, .inl gb)), (r6, .inl (cI, 8, .inl gt)), (z0, .inr (1, [.ref z1])), (z1, .inl (cI, 8, .inl (fun j => nI (sz j))))] := hD
  refine lv_aload_n hx hb d_H_joinParts_57 rfl (lv_at hl 2 rfl) ?_
  refine va_get (D := (dC, dI)) (ci := 0) (v := .ref k4) (C := R_H) (T := T_H) (N := 12) hx hb hts (fun w h9 => ct_tl (ki_H w h9)) hown hK hP 0 rfl rfl 9 (by decide) (hts _ (ct_tl kw_123)) (fun _ h9 => h9) rfl d_H_joinParts_58 ?_
  refine lv_iload_n hx hb d_H_joinParts_61 rfl (lv_at hl 3 rfl) ?_
  refine lv_iload_n hx hb d_H_joinParts_62 rfl (lv_at hl 4 rfl) ?_
  refine ct_iast hx hb hK hP hD hS 1 0 rfl rfl (j := S) (by omega) (by omega) d_H_joinParts_63 (fun H locs hP hD hS => ?_)
  have hP : va_P (dC, dI) ct_cl [(h0, .inr (0, [.ref z0, .ref p0, .ref r0, .int tab, .ref k1, .int ops, .ref k2, .ref k3, .int res, .ref k4, .int pl, .int sm])), (k4, .inl (cI, 64, .inl (upd hm S (nI to)))), (p0, .inr (2, [.ref z0, .ref p1, .ref p2, .ref p3, .ref p4, .ref p5])), (p2, .inl (cI, 64, .inl fl)), (p4, .inl (cI, 64, .inl fp)), (r0, .inr (3, [.ref z0, .ref r1, .ref r2, .ref r3, .ref r4, .ref r5, .ref r6])), (r1, .inl (cI, N, .inl f2)), (r2, .inl (cI, 8, .inl ge)), (r3, .inl (cI, 8, .inl gi)), (r4, .inl (cI, 8, .inl ga)), (r5, .inl (cI, 8, .inl gb)), (r6, .inl (cI, 8, .inl gt)), (z0, .inr (1, [.ref z1])), (z1, .inl (cI, 8, .inl (fun j => nI (sz j))))] H := hP
  have hD : va_D A [(h0, .inr (0, [.ref z0, .ref p0, .ref r0, .int tab, .ref k1, .int ops, .ref k2, .ref k3, .int res, .ref k4, .int pl, .int sm])), (k4, .inl (cI, 64, .inl (upd hm S (nI to)))), (p0, .inr (2, [.ref z0, .ref p1, .ref p2, .ref p3, .ref p4, .ref p5])), (p2, .inl (cI, 64, .inl fl)), (p4, .inl (cI, 64, .inl fp)), (r0, .inr (3, [.ref z0, .ref r1, .ref r2, .ref r3, .ref r4, .ref r5, .ref r6])), (r1, .inl (cI, N, .inl f2)), (r2, .inl (cI, 8, .inl ge)), (r3, .inl (cI, 8, .inl gi)), (r4, .inl (cI, 8, .inl ga)), (r5, .inl (cI, 8, .inl gb)), (r6, .inl (cI, 8, .inl gt)), (z0, .inr (1, [.ref z1])), (z1, .inl (cI, 8, .inl (fun j => nI (sz j))))] := hD
  have hP9 := hP.sub [0, 1, 2, 3, 4, 5, 6, 7, 8, 9, 10, 11, 12, 13] rfl
  exact W.vret hx hb hr (fun tS ht hW => ⟨⟨(f2, ge, gi, ga, gb, gt), rfl, hj, by rw [ht]; exact hP9, va_K.moved hW.alike hK, hD.sub [0, 1, 2, 3, 4, 5, 6, 7, 8, 9, 10, 11, 12, 13] (by decide) rfl⟩, hS.F ht⟩) hS.2.2 d_H_joinParts_64
theorem ct_pr_none (sz : Nat → Nat) : ct_pr sz (0 : Nat).testBit 8 = 1 := by
  have h : ∀ n, ct_pr sz (0 : Nat).testBit n = 1 := by
    intro n
    induction n with
    | zero => rfl
    | succ n ih => rw [ct_pr_out (by simp)]; exact ih
  exact h 8
set_option maxHeartbeats 4000000 in
set_option maxRecDepth 100000 in
theorem c_H_sumAlone (l : Launch) (dC : Nat → ClassId) (dI : Nat → Nat → Nat) (cI : ClassId) (z1 : Nat) (sz : Nat → Nat) (h0 z0 p0 r0 k1 k2 k3 k4 : Nat) (r1 r2 r3 r4 r5 r6 : Nat) (tab pl sm : Int32) (N K R ot la home lab : Nat) (fot fo f fe fi fa fb ft : Nat → Int32) (hK : K < 2) (hot : K ≠ 0 → fot 0 = nI ot) (hfo : K ≠ 0 → fo 0 = nI la) (hhome : home = (if K = 0 then 243 else ot * 27)) (hlab : lab = (if K = 0 then 0 else la)) (hl6 : lab < 256) (hR : R < 256) (hsz : ∀ k, k < 8 → 0 < sz k ∧ sz k < 4) (hN : N < 2 ^ 31) (hA0 : home + (ct_pr sz lab.testBit 8) ≤ N) (hN4 : 244 ≤ N) (hR27 : (ct_pr sz R.testBit 8) ≤ 27) (hdA : home + (ct_pr sz lab.testBit 8) ≤ 216 ∨ 243 ≤ home) (sz0 : Nat) : Met l y_H_sumAlone w_H_sumAlone ({ frames := 4, cells := 0, slots := 0, locals := 107 }) (va_Pc [.ref h0] (ct_rw (dC, dI) ct_cl [(h0, .inr (0, [.ref z0, .ref p0, .ref r0, .int tab, .ref k1, .int (nI K), .ref k2, .ref k3, .int (nI R), .ref k4, .int pl, .int sm])), (k2, .inl (cI, 6, .inl fot)), (k3, .inl (cI, 6, .inl fo)), (r0, .inr (3, [.ref z0, .ref r1, .ref r2, .ref r3, .ref r4, .ref r5, .ref r6])), (r1, .inl (cI, N, .inl f)), (r2, .inl (cI, 8, .inl fe)), (r3, .inl (cI, 8, .inl fi)), (r4, .inl (cI, 8, .inl fa)), (r5, .inl (cI, 8, .inl fb)), (r6, .inl (cI, 8, .inl ft)), (z0, .inr (1, [.ref z1])), (z1, .inl (cI, 8, .inl (fun j => nI (sz j))))] [(cI, .int)] sz0)) (va_Qv (fun (u : (Nat → Int32) × (Nat → Int32) × (Nat → Int32) × (Nat → Int32) × (Nat → Int32) × (Nat → Int32)) => ct_joined sz f home lab 243 0 216 R u.1) (fun (u : (Nat → Int32) × (Nat → Int32) × (Nat → Int32) × (Nat → Int32) × (Nat → Int32) × (Nat → Int32)) t => ct_at (dC, dI) ct_cl [(cI, .int)] (va_A [(h0, .inr (0, [.ref z0, .ref p0, .ref r0, .int tab, .ref k1, .int (nI K), .ref k2, .ref k3, .int (nI R), .ref k4, .int pl, .int sm])), (k2, .inl (cI, 6, .inl fot)), (k3, .inl (cI, 6, .inl fo)), (r0, .inr (3, [.ref z0, .ref r1, .ref r2, .ref r3, .ref r4, .ref r5, .ref r6])), (r1, .inl (cI, N, .inl f)), (r2, .inl (cI, 8, .inl fe)), (r3, .inl (cI, 8, .inl fi)), (r4, .inl (cI, 8, .inl fa)), (r5, .inl (cI, 8, .inl fb)), (r6, .inl (cI, 8, .inl ft)), (z0, .inr (1, [.ref z1])), (z1, .inl (cI, 8, .inl (fun j => nI (sz j))))] sz0) [(h0, .inr (0, [.ref z0, .ref p0, .ref r0, .int tab, .ref k1, .int (nI K), .ref k2, .ref k3, .int (nI R), .ref k4, .int pl, .int sm])), (k2, .inl (cI, 6, .inl fot)), (k3, .inl (cI, 6, .inl fo)), (r0, .inr (3, [.ref z0, .ref r1, .ref r2, .ref r3, .ref r4, .ref r5, .ref r6])), (r1, .inl (cI, N, .inl (u.1))), (r2, .inl (cI, 8, .inl (u.2.1))), (r3, .inl (cI, 8, .inl (u.2.2.1))), (r4, .inl (cI, 8, .inl (u.2.2.2.1))), (r5, .inl (cI, 8, .inl (u.2.2.2.2.1))), (r6, .inl (cI, 8, .inl (u.2.2.2.2.2))), (z0, .inr (1, [.ref z1])), (z1, .inl (cI, 8, .inl (fun j => nI (sz j))))] t) (va_A [(h0, .inr (0, [.ref z0, .ref p0, .ref r0, .int tab, .ref k1, .int (nI K), .ref k2, .ref k3, .int (nI R), .ref k4, .int pl, .int sm])), (k2, .inl (cI, 6, .inl fot)), (k3, .inl (cI, 6, .inl fo)), (r0, .inr (3, [.ref z0, .ref r1, .ref r2, .ref r3, .ref r4, .ref r5, .ref r6])), (r1, .inl (cI, N, .inl f)), (r2, .inl (cI, 8, .inl fe)), (r3, .inl (cI, 8, .inl fi)), (r4, .inl (cI, 8, .inl fa)), (r5, .inl (cI, 8, .inl fb)), (r6, .inl (cI, 8, .inl ft)), (z0, .inr (1, [.ref z1])), (z1, .inl (cI, 8, .inl (fun j => nI (sz j))))] sz0)) 0 0 (va_A [(h0, .inr (0, [.ref z0, .ref p0, .ref r0, .int tab, .ref k1, .int (nI K), .ref k2, .ref k3, .int (nI R), .ref k4, .int pl, .int sm])), (k2, .inl (cI, 6, .inl fot)), (k3, .inl (cI, 6, .inl fo)), (r0, .inr (3, [.ref z0, .ref r1, .ref r2, .ref r3, .ref r4, .ref r5, .ref r6])), (r1, .inl (cI, N, .inl f)), (r2, .inl (cI, 8, .inl fe)), (r3, .inl (cI, 8, .inl fi)), (r4, .inl (cI, 8, .inl fa)), (r5, .inl (cI, 8, .inl fb)), (r6, .inl (cI, 8, .inl ft)), (z0, .inr (1, [.ref z1])), (z1, .inl (cI, 8, .inl (fun j => nI (sz j))))] sz0) := by
  refine Met.ofW (cc := b_H_sumAlone) (maxL := 3) (ret := none) (by decide) rfl ?_
  intro p e s m args below meth c s₁ Bd hml hv
  obtain ⟨hargs, hsz, hP, hK, hD0⟩ := hv
  have hx := Bd.exec
  have hb := Bd.bytes
  have hr := Bd.returns
  have hts : ∀ w ∈ k_H_sumAlone :: ct_tb, w.before args s = true := atoms_spec (ws := w_H_sumAlone) Bd.pre
  have hown : s.vm.findClass R_H = some m.cls := findClass_of_methodNamed Bd.named
  have hlocks := Bd.notSynchronized
  subst hsz
  have hD := hD0.self (sz := s.heap.size)
  generalize hAe : va_A [(h0, .inr (0, [.ref z0, .ref p0, .ref r0, .int tab, .ref k1, .int (nI K), .ref k2, .ref k3, .int (nI R), .ref k4, .int pl, .int sm])), (k2, .inl (cI, 6, .inl fot)), (k3, .inl (cI, 6, .inl fo)), (r0, .inr (3, [.ref z0, .ref r1, .ref r2, .ref r3, .ref r4, .ref r5, .ref r6])), (r1, .inl (cI, N, .inl f)), (r2, .inl (cI, 8, .inl fe)), (r3, .inl (cI, 8, .inl fi)), (r4, .inl (cI, 8, .inl fa)), (r5, .inl (cI, 8, .inl fb)), (r6, .inl (cI, 8, .inl ft)), (z0, .inr (1, [.ref z1])), (z1, .inl (cI, 8, .inl (fun j => nI (sz j))))] s.heap.size = A at hD ⊢
  have hA : ∀ q : Nat, s.heap.size ≤ q → A q := fun q h => by rw [← hAe]; exact Or.inr h
  have hS : va_S A s.heap s.heap [] := va_S.rf
  have hl := lv_entry ([.ref h0]) (n := 3) (Nat.le_of_ble_eq_true rfl)
  rw [show entryFrame m args 3 = entryFrame m (([.ref h0] : List Value)).toArray 3 by rw [hargs], lg_entry_eq]
  generalize (lg_sl ([.ref h0]) ++ List.replicate (3 - (lg_sl ([.ref h0])).length) Slot.unset).toArray = ls at hl ⊢
  have hl : lv_has ls 3 [(0, .ref h0)] := hl
  refine lv_aload_n hx hb d_H_sumAlone_0 rfl (lv_at hl 0 rfl) ?_
  refine va_get (D := (dC, dI)) (ci := 0) (v := .int (nI K)) (C := R_H) (T := T_H) (N := 12) hx hb hts (fun w h9 => ct_tl (ki_H w h9)) hown hK hP 0 rfl rfl 5 (by decide) (hts _ (ct_tl kw_119)) (fun _ h9 => h9) rfl d_H_sumAlone_1 ?_
  by_cases hq : K = 0
  · rw [if_pos hq] at hhome hlab
    refine lv_if_ne (tgt := 13) hx hb d_H_sumAlone_4 (by decide) (fun hc9 => absurd (by rw [hq]; exact nI_0) hc9) (fun _ => ?_)
    refine lv_sipush (v := (nI 243)) hx hb d_H_sumAlone_7 (by decide) ?_
    refine ct_val (y := nI home) (by rw [hhome]) ?_
    refine lv_goto (tgt := 22) hx hb d_H_sumAlone_10 (by decide) ?_
    refine lv_istore_n (lv' := [(1, .int (nI home)), (0, .ref h0)]) hx hb d_H_sumAlone_22 rfl hl (by decide) rfl (fun ls hl => ?_)
    refine lv_aload_n hx hb d_H_sumAlone_23 rfl (lv_at hl 1 rfl) ?_
    refine va_get (D := (dC, dI)) (ci := 0) (v := .int (nI K)) (C := R_H) (T := T_H) (N := 12) hx hb hts (fun w h9 => ct_tl (ki_H w h9)) hown hK hP 0 rfl rfl 5 (by decide) (hts _ (ct_tl kw_119)) (fun _ h9 => h9) rfl d_H_sumAlone_24 ?_
    refine lv_if_ne (tgt := 34) hx hb d_H_sumAlone_27 (by decide) (fun hc9 => absurd (by rw [hq]; exact nI_0) hc9) (fun _ => ?_)
    refine lv_iconst (v := (nI 0)) hx hb d_H_sumAlone_30 (by decide) ?_
    refine ct_val (y := nI lab) (by rw [hlab]) ?_
    refine lv_goto (tgt := 40) hx hb d_H_sumAlone_31 (by decide) ?_
    refine lv_istore_n (lv' := [(2, .int (nI lab)), (1, .int (nI home)), (0, .ref h0)]) hx hb d_H_sumAlone_40 rfl hl (by decide) rfl (fun ls hl => ?_)
    refine lv_aload_n hx hb d_H_sumAlone_41 rfl (lv_at hl 2 rfl) ?_
    refine va_get (D := (dC, dI)) (ci := 0) (v := .ref r0) (C := R_H) (T := T_H) (N := 12) hx hb hts (fun w h9 => ct_tl (ki_H w h9)) hown hK hP 0 rfl rfl 2 (by decide) (hts _ (ct_tl kw_116)) (fun _ h9 => h9) rfl d_H_sumAlone_42 ?_
    refine lv_iload_n hx hb d_H_sumAlone_45 rfl (lv_at hl 1 rfl) ?_
    refine lv_iload_n hx hb d_H_sumAlone_46 rfl (lv_at hl 0 rfl) ?_
    refine lv_sipush (v := (nI 243)) hx hb d_H_sumAlone_47 (by decide) ?_
    refine lv_iconst (v := (nI 0)) hx hb d_H_sumAlone_50 (by decide) ?_
    refine lv_sipush (v := (nI 216)) hx hb d_H_sumAlone_51 (by decide) ?_
    refine lv_aload_n hx hb d_H_sumAlone_54 rfl (lv_at hl 2 rfl) ?_
    refine va_get (D := (dC, dI)) (ci := 0) (v := .int (nI R)) (C := R_H) (T := T_H) (N := 12) hx hb hts (fun w h9 => ct_tl (ki_H w h9)) hown hK hP 0 rfl rfl 8 (by decide) (hts _ (ct_tl kw_122)) (fun _ h9 => h9) rfl d_H_sumAlone_55 ?_
    have hp0 : ct_pr sz (0 : Nat).testBit 8 = 1 := ct_pr_none sz
    have hPc := hP.sub (ws' := [(r0, .inr (3, [.ref z0, .ref r1, .ref r2, .ref r3, .ref r4, .ref r5, .ref r6])), (r1, .inl (cI, N, .inl f)), (r2, .inl (cI, 8, .inl fe)), (r3, .inl (cI, 8, .inl fi)), (r4, .inl (cI, 8, .inl fa)), (r5, .inl (cI, 8, .inl fb)), (r6, .inl (cI, 8, .inl ft)), (z0, .inr (1, [.ref z1])), (z1, .inl (cI, 8, .inl (fun j => nI (sz j))))]) [3, 4, 5, 6, 7, 8, 9, 10, 11] rfl
    have hDc := hD.sub (ws' := [(r0, .inr (3, [.ref z0, .ref r1, .ref r2, .ref r3, .ref r4, .ref r5, .ref r6])), (r1, .inl (cI, N, .inl f)), (r2, .inl (cI, 8, .inl fe)), (r3, .inl (cI, 8, .inl fi)), (r4, .inl (cI, 8, .inl fa)), (r5, .inl (cI, 8, .inl fb)), (r6, .inl (cI, 8, .inl ft)), (z0, .inr (1, [.ref z1])), (z1, .inl (cI, 8, .inl (fun j => nI (sz j))))]) [3, 4, 5, 6, 7, 8, 9, 10, 11] (by decide) rfl
    have hFc := va_free (wc := [(r0, .inr (3, [.ref z0, .ref r1, .ref r2, .ref r3, .ref r4, .ref r5, .ref r6])), (r1, .inl (cI, N, .inl f)), (r2, .inl (cI, 8, .inl fe)), (r3, .inl (cI, 8, .inl fi)), (r4, .inl (cI, 8, .inl fa)), (r5, .inl (cI, 8, .inl fb)), (r6, .inl (cI, 8, .inl ft)), (z0, .inr (1, [.ref z1])), (z1, .inl (cI, 8, .inl (fun j => nI (sz j))))]) hD hS hA [3, 4, 5, 6, 7, 8, 9, 10, 11] rfl
    refine va_callv (va_runV (As := [.int (nI home), .int (nI lab), .int (nI 243), .int (nI 0), .int (nI 216), .int (nI R)]) (rest := []) ⟨hx, hb, hml, hown, hts⟩ (c_R_join l dC dI cI z1 sz z0 r0 r1 r2 r3 r4 r5 r6 N f fe fi fa fb ft home lab 243 0 216 R hl6 (by omega) hR hsz hN hA0 (by omega) (by omega) (by omega) (by omega) s.heap.size) (cwV 6 hts (ct_giV (fun w h9 => ct_tl h9) kw_449 kw_450 kw_451 kw_29 kw_452) rfl rfl rfl (by decide +kernel) ⟨Nat.le_of_ble_eq_true rfl, Nat.le_of_ble_eq_true rfl⟩) ⟨ct_rw_blind, va_recv hK hP (ci := 3) (q0 := 3) rfl rfl, ct_rw_pre hPc hK hDc⟩ rfl rfl hl.1 rfl (lv_room (Nat.le_of_ble_eq_true rfl)) d_H_sumAlone_58 ⟨Nat.le_of_ble_eq_true rfl, Nat.le_of_ble_eq_true rfl⟩) hS (fun q _ h9 => hFc q h9) hFc (fun ⟨f2, ge, gi, ga, gb, gt⟩ tS H1 locs ht hvm hj hB hz1 hk1 hS => ?_)
    obtain ⟨hP1, -, hD1⟩ := hB
    rw [ht] at hP1
    obtain ⟨hP, hD⟩ := va_join (wr := [(h0, .inr (0, [.ref z0, .ref p0, .ref r0, .int tab, .ref k1, .int (nI K), .ref k2, .ref k3, .int (nI R), .ref k4, .int pl, .int sm])), (k2, .inl (cI, 6, .inl fot)), (k3, .inl (cI, 6, .inl fo))]) (w1 := [(r0, .inr (3, [.ref z0, .ref r1, .ref r2, .ref r3, .ref r4, .ref r5, .ref r6])), (r1, .inl (cI, N, .inl f2)), (r2, .inl (cI, 8, .inl ge)), (r3, .inl (cI, 8, .inl gi)), (r4, .inl (cI, 8, .inl ga)), (r5, .inl (cI, 8, .inl gb)), (r6, .inl (cI, 8, .inl gt)), (z0, .inr (1, [.ref z1])), (z1, .inl (cI, 8, .inl (fun j => nI (sz j))))]) hP hD [3, 4, 5, 6, 7, 8, 9, 10, 11] [0, 1, 2] rfl rfl (by decide) (by decide) hk1 hFc hP1 hD1
    generalize H1 = H at hP hS ⊢
    have hP : va_P (dC, dI) ct_cl [(h0, .inr (0, [.ref z0, .ref p0, .ref r0, .int tab, .ref k1, .int (nI K), .ref k2, .ref k3, .int (nI R), .ref k4, .int pl, .int sm])), (k2, .inl (cI, 6, .inl fot)), (k3, .inl (cI, 6, .inl fo)), (r0, .inr (3, [.ref z0, .ref r1, .ref r2, .ref r3, .ref r4, .ref r5, .ref r6])), (r1, .inl (cI, N, .inl f2)), (r2, .inl (cI, 8, .inl ge)), (r3, .inl (cI, 8, .inl gi)), (r4, .inl (cI, 8, .inl ga)), (r5, .inl (cI, 8, .inl gb)), (r6, .inl (cI, 8, .inl gt)), (z0, .inr (1, [.ref z1])), (z1, .inl (cI, 8, .inl (fun j => nI (sz j))))] H := hP
    have hD : va_D A [(h0, .inr (0, [.ref z0, .ref p0, .ref r0, .int tab, .ref k1, .int (nI K), .ref k2, .ref k3, .int (nI R), .ref k4, .int pl, .int sm])), (k2, .inl (cI, 6, .inl fot)), (k3, .inl (cI, 6, .inl fo)), (r0, .inr (3, [.ref z0, .ref r1, .ref r2, .ref r3, .ref r4, .ref r5, .ref r6])), (r1, .inl (cI, N, .inl f2)), (r2, .inl (cI, 8, .inl ge)), (r3, .inl (cI, 8, .inl gi)), (r4, .inl (cI, 8, .inl ga)), (r5, .inl (cI, 8, .inl gb)), (r6, .inl (cI, 8, .inl gt)), (z0, .inr (1, [.ref z1])), (z1, .inl (cI, 8, .inl (fun j => nI (sz j))))] := hD
    have hP9 := hP.sub [0, 1, 2, 3, 4, 5, 6, 7, 8, 9, 10, 11] rfl
    exact W.vret hx hb hr (fun tS ht hW => ⟨⟨(f2, ge, gi, ga, gb, gt), rfl, hj, by rw [ht]; exact hP9, va_K.moved hW.alike hK, hD.sub [0, 1, 2, 3, 4, 5, 6, 7, 8, 9, 10, 11] (by decide) rfl⟩, hS.F ht⟩) hS.2.2 d_H_sumAlone_61
  · rw [if_neg hq] at hhome hlab
    refine lv_if_ne (tgt := 13) hx hb d_H_sumAlone_4 (by decide) (fun _ => ?_) (fun hc9 => absurd hc9 (nI_ne0 (by omega) (by omega)))
    refine lv_aload_n hx hb d_H_sumAlone_13 rfl (lv_at hl 0 rfl) ?_
    refine va_get (D := (dC, dI)) (ci := 0) (v := .ref k2) (C := R_H) (T := T_H) (N := 12) hx hb hts (fun w h9 => ct_tl (ki_H w h9)) hown hK hP 0 rfl rfl 6 (by decide) (hts _ (ct_tl kw_120)) (fun _ h9 => h9) rfl d_H_sumAlone_14 ?_
    refine lv_iconst (v := (nI 0)) hx hb d_H_sumAlone_17 (by decide) ?_
    refine ct_iald hx hb hK hP 1 0 rfl rfl (j := 0) (by omega) (by omega) d_H_sumAlone_18 ?_
    refine ct_val (y := nI ot) (hot hq) ?_
    refine va_calli (va_runS (As := [.int (nI ot)]) (rest := []) ⟨hx, hb, hml, hown, hts⟩ (c_H_homeOfTable l dC dI cI ot) (va_cwS 1 hts (ct_giT (fun w h9 => ct_tl h9) kw_386 kw_387 kw_26 kw_388) rfl rfl rfl (by decide +kernel) ⟨Nat.le_of_ble_eq_true rfl, Nat.le_of_ble_eq_true rfl⟩) ⟨ct_ro_blind, ct_ro_pre (hP.sub [] rfl) hK⟩ rfl rfl hl.1 rfl (lv_room (Nat.le_of_ble_eq_true rfl)) d_H_sumAlone_19 ⟨Nat.le_of_ble_eq_true rfl, Nat.le_of_ble_eq_true rfl⟩) hS (fun q _ h9 => h9.elim) (fun q h9 => h9.elim) (fun ans101 uS tS H locs ht hvm hwans101 hB hz1 hk1 hS => ?_)
    have hP := ct_keep hP hk1
    refine ct_val (y := nI (ot * 27)) (hwans101) ?_
    refine ct_val (y := nI home) (by rw [hhome]) ?_
    refine lv_istore_n (lv' := [(1, .int (nI home)), (0, .ref h0)]) hx hb d_H_sumAlone_22 rfl hl (by decide) rfl (fun ls hl => ?_)
    refine lv_aload_n hx hb d_H_sumAlone_23 rfl (lv_at hl 1 rfl) ?_
    refine va_get (D := (dC, dI)) (ci := 0) (v := .int (nI K)) (C := R_H) (T := T_H) (N := 12) hx hb hts (fun w h9 => ct_tl (ki_H w h9)) hown hK hP 0 rfl rfl 5 (by decide) (hts _ (ct_tl kw_119)) (fun _ h9 => h9) rfl d_H_sumAlone_24 ?_
    refine lv_if_ne (tgt := 34) hx hb d_H_sumAlone_27 (by decide) (fun _ => ?_) (fun hc9 => absurd hc9 (nI_ne0 (by omega) (by omega)))
    refine lv_aload_n hx hb d_H_sumAlone_34 rfl (lv_at hl 1 rfl) ?_
    refine va_get (D := (dC, dI)) (ci := 0) (v := .ref k3) (C := R_H) (T := T_H) (N := 12) hx hb hts (fun w h9 => ct_tl (ki_H w h9)) hown hK hP 0 rfl rfl 7 (by decide) (hts _ (ct_tl kw_121)) (fun _ h9 => h9) rfl d_H_sumAlone_35 ?_
    refine lv_iconst (v := (nI 0)) hx hb d_H_sumAlone_38 (by decide) ?_
    refine ct_iald hx hb hK hP 2 0 rfl rfl (j := 0) (by omega) (by omega) d_H_sumAlone_39 ?_
    refine ct_val (y := nI lab) (by rw [hlab]; exact hfo hq) ?_
    refine lv_istore_n (lv' := [(2, .int (nI lab)), (1, .int (nI home)), (0, .ref h0)]) hx hb d_H_sumAlone_40 rfl hl (by decide) rfl (fun ls hl => ?_)
    refine lv_aload_n hx hb d_H_sumAlone_41 rfl (lv_at hl 2 rfl) ?_
    refine va_get (D := (dC, dI)) (ci := 0) (v := .ref r0) (C := R_H) (T := T_H) (N := 12) hx hb hts (fun w h9 => ct_tl (ki_H w h9)) hown hK hP 0 rfl rfl 2 (by decide) (hts _ (ct_tl kw_116)) (fun _ h9 => h9) rfl d_H_sumAlone_42 ?_
    refine lv_iload_n hx hb d_H_sumAlone_45 rfl (lv_at hl 1 rfl) ?_
    refine lv_iload_n hx hb d_H_sumAlone_46 rfl (lv_at hl 0 rfl) ?_
    refine lv_sipush (v := (nI 243)) hx hb d_H_sumAlone_47 (by decide) ?_
    refine lv_iconst (v := (nI 0)) hx hb d_H_sumAlone_50 (by decide) ?_
    refine lv_sipush (v := (nI 216)) hx hb d_H_sumAlone_51 (by decide) ?_
    refine lv_aload_n hx hb d_H_sumAlone_54 rfl (lv_at hl 2 rfl) ?_
    refine va_get (D := (dC, dI)) (ci := 0) (v := .int (nI R)) (C := R_H) (T := T_H) (N := 12) hx hb hts (fun w h9 => ct_tl (ki_H w h9)) hown hK hP 0 rfl rfl 8 (by decide) (hts _ (ct_tl kw_122)) (fun _ h9 => h9) rfl d_H_sumAlone_55 ?_
    have hp0 : ct_pr sz (0 : Nat).testBit 8 = 1 := ct_pr_none sz
    have hPc := hP.sub (ws' := [(r0, .inr (3, [.ref z0, .ref r1, .ref r2, .ref r3, .ref r4, .ref r5, .ref r6])), (r1, .inl (cI, N, .inl f)), (r2, .inl (cI, 8, .inl fe)), (r3, .inl (cI, 8, .inl fi)), (r4, .inl (cI, 8, .inl fa)), (r5, .inl (cI, 8, .inl fb)), (r6, .inl (cI, 8, .inl ft)), (z0, .inr (1, [.ref z1])), (z1, .inl (cI, 8, .inl (fun j => nI (sz j))))]) [3, 4, 5, 6, 7, 8, 9, 10, 11] rfl
    have hDc := hD.sub (ws' := [(r0, .inr (3, [.ref z0, .ref r1, .ref r2, .ref r3, .ref r4, .ref r5, .ref r6])), (r1, .inl (cI, N, .inl f)), (r2, .inl (cI, 8, .inl fe)), (r3, .inl (cI, 8, .inl fi)), (r4, .inl (cI, 8, .inl fa)), (r5, .inl (cI, 8, .inl fb)), (r6, .inl (cI, 8, .inl ft)), (z0, .inr (1, [.ref z1])), (z1, .inl (cI, 8, .inl (fun j => nI (sz j))))]) [3, 4, 5, 6, 7, 8, 9, 10, 11] (by decide) rfl
    have hFc := va_free (wc := [(r0, .inr (3, [.ref z0, .ref r1, .ref r2, .ref r3, .ref r4, .ref r5, .ref r6])), (r1, .inl (cI, N, .inl f)), (r2, .inl (cI, 8, .inl fe)), (r3, .inl (cI, 8, .inl fi)), (r4, .inl (cI, 8, .inl fa)), (r5, .inl (cI, 8, .inl fb)), (r6, .inl (cI, 8, .inl ft)), (z0, .inr (1, [.ref z1])), (z1, .inl (cI, 8, .inl (fun j => nI (sz j))))]) hD hS hA [3, 4, 5, 6, 7, 8, 9, 10, 11] rfl
    refine va_callv (va_runV (As := [.int (nI home), .int (nI lab), .int (nI 243), .int (nI 0), .int (nI 216), .int (nI R)]) (rest := []) ⟨hx, hb, hml, hown, hts⟩ (c_R_join l dC dI cI z1 sz z0 r0 r1 r2 r3 r4 r5 r6 N f fe fi fa fb ft home lab 243 0 216 R hl6 (by omega) hR hsz hN hA0 (by omega) (by omega) (by omega) (by omega) H.size) (cwV 6 hts (ct_giV (fun w h9 => ct_tl h9) kw_449 kw_450 kw_451 kw_29 kw_452) rfl rfl rfl (by decide +kernel) ⟨Nat.le_of_ble_eq_true rfl, Nat.le_of_ble_eq_true rfl⟩) ⟨ct_rw_blind, va_recv hK hP (ci := 3) (q0 := 3) rfl rfl, ct_rw_pre hPc hK hDc⟩ rfl rfl hl.1 rfl (lv_room (Nat.le_of_ble_eq_true rfl)) d_H_sumAlone_58 ⟨Nat.le_of_ble_eq_true rfl, Nat.le_of_ble_eq_true rfl⟩) hS (fun q _ h9 => hFc q h9) hFc (fun ⟨f2, ge, gi, ga, gb, gt⟩ tS H1 locs ht hvm hj hB hz1 hk1 hS => ?_)
    obtain ⟨hP1, -, hD1⟩ := hB
    rw [ht] at hP1
    obtain ⟨hP, hD⟩ := va_join (wr := [(h0, .inr (0, [.ref z0, .ref p0, .ref r0, .int tab, .ref k1, .int (nI K), .ref k2, .ref k3, .int (nI R), .ref k4, .int pl, .int sm])), (k2, .inl (cI, 6, .inl fot)), (k3, .inl (cI, 6, .inl fo))]) (w1 := [(r0, .inr (3, [.ref z0, .ref r1, .ref r2, .ref r3, .ref r4, .ref r5, .ref r6])), (r1, .inl (cI, N, .inl f2)), (r2, .inl (cI, 8, .inl ge)), (r3, .inl (cI, 8, .inl gi)), (r4, .inl (cI, 8, .inl ga)), (r5, .inl (cI, 8, .inl gb)), (r6, .inl (cI, 8, .inl gt)), (z0, .inr (1, [.ref z1])), (z1, .inl (cI, 8, .inl (fun j => nI (sz j))))]) hP hD [3, 4, 5, 6, 7, 8, 9, 10, 11] [0, 1, 2] rfl rfl (by decide) (by decide) hk1 hFc hP1 hD1
    generalize H1 = H at hP hS ⊢
    have hP : va_P (dC, dI) ct_cl [(h0, .inr (0, [.ref z0, .ref p0, .ref r0, .int tab, .ref k1, .int (nI K), .ref k2, .ref k3, .int (nI R), .ref k4, .int pl, .int sm])), (k2, .inl (cI, 6, .inl fot)), (k3, .inl (cI, 6, .inl fo)), (r0, .inr (3, [.ref z0, .ref r1, .ref r2, .ref r3, .ref r4, .ref r5, .ref r6])), (r1, .inl (cI, N, .inl f2)), (r2, .inl (cI, 8, .inl ge)), (r3, .inl (cI, 8, .inl gi)), (r4, .inl (cI, 8, .inl ga)), (r5, .inl (cI, 8, .inl gb)), (r6, .inl (cI, 8, .inl gt)), (z0, .inr (1, [.ref z1])), (z1, .inl (cI, 8, .inl (fun j => nI (sz j))))] H := hP
    have hD : va_D A [(h0, .inr (0, [.ref z0, .ref p0, .ref r0, .int tab, .ref k1, .int (nI K), .ref k2, .ref k3, .int (nI R), .ref k4, .int pl, .int sm])), (k2, .inl (cI, 6, .inl fot)), (k3, .inl (cI, 6, .inl fo)), (r0, .inr (3, [.ref z0, .ref r1, .ref r2, .ref r3, .ref r4, .ref r5, .ref r6])), (r1, .inl (cI, N, .inl f2)), (r2, .inl (cI, 8, .inl ge)), (r3, .inl (cI, 8, .inl gi)), (r4, .inl (cI, 8, .inl ga)), (r5, .inl (cI, 8, .inl gb)), (r6, .inl (cI, 8, .inl gt)), (z0, .inr (1, [.ref z1])), (z1, .inl (cI, 8, .inl (fun j => nI (sz j))))] := hD
    have hP9 := hP.sub [0, 1, 2, 3, 4, 5, 6, 7, 8, 9, 10, 11] rfl
    exact W.vret hx hb hr (fun tS ht hW => ⟨⟨(f2, ge, gi, ga, gb, gt), rfl, hj, by rw [ht]; exact hP9, va_K.moved hW.alike hK, hD.sub [0, 1, 2, 3, 4, 5, 6, 7, 8, 9, 10, 11] (by decide) rfl⟩, hS.F ht⟩) hS.2.2 d_H_sumAlone_61
