theorem d_H_cost_0 : decode b_H_cost 0 = .ok (.aload_n 0, 1) := by decide +kernel
theorem d_H_cost_1 : decode b_H_cost 1 = .ok (.getfield 110, 3) := by decide +kernel
theorem d_H_cost_4 : decode b_H_cost 4 = .ok (.iconst 2, 1) := by decide +kernel
theorem d_H_cost_5 : decode b_H_cost 5 = .ok (.if_icmp .ge 5, 3) := by decide +kernel
theorem d_H_cost_8 : decode b_H_cost 8 = .ok (.iconst 0, 1) := by decide +kernel
theorem d_H_cost_9 : decode b_H_cost 9 = .ok (.ireturn, 1) := by decide +kernel
theorem d_H_cost_10 : decode b_H_cost 10 = .ok (.aload_n 0, 1) := by decide +kernel
theorem d_H_cost_11 : decode b_H_cost 11 = .ok (.invokevirtual 121, 3) := by decide +kernel
theorem d_H_cost_14 : decode b_H_cost 14 = .ok (.aload_n 0, 1) := by decide +kernel
theorem d_H_cost_15 : decode b_H_cost 15 = .ok (.getfield 21, 3) := by decide +kernel
theorem d_H_cost_18 : decode b_H_cost 18 = .ok (.aload_n 0, 1) := by decide +kernel
theorem d_H_cost_19 : decode b_H_cost 19 = .ok (.invokevirtual 124, 3) := by decide +kernel
theorem d_H_cost_22 : decode b_H_cost 22 = .ok (.invokevirtual 128, 3) := by decide +kernel
theorem d_H_cost_25 : decode b_H_cost 25 = .ok (.ireturn, 1) := by decide +kernel
theorem d_H_step_0 : decode b_H_step 0 = .ok (.iload_n 1, 1) := by decide +kernel
theorem d_H_step_1 : decode b_H_step 1 = .ok (.ifCond .lt 11, 3) := by decide +kernel
theorem d_H_step_4 : decode b_H_step 4 = .ok (.iload_n 1, 1) := by decide +kernel
theorem d_H_step_5 : decode b_H_step 5 = .ok (.aload_n 0, 1) := by decide +kernel
theorem d_H_step_6 : decode b_H_step 6 = .ok (.invokevirtual 131, 3) := by decide +kernel
theorem d_H_step_9 : decode b_H_step 9 = .ok (.if_icmp .lt 13, 3) := by decide +kernel
theorem d_H_step_12 : decode b_H_step 12 = .ok (.new 93, 3) := by decide +kernel
theorem d_H_step_15 : decode b_H_step 15 = .ok (.dup, 1) := by decide +kernel
theorem d_H_step_16 : decode b_H_step 16 = .ok (.ldc 134, 2) := by decide +kernel
theorem d_H_step_18 : decode b_H_step 18 = .ok (.invokespecial 97, 3) := by decide +kernel
theorem d_H_step_21 : decode b_H_step 21 = .ok (.athrow, 1) := by decide +kernel
theorem d_H_step_22 : decode b_H_step 22 = .ok (.iload_n 2, 1) := by decide +kernel
theorem d_H_step_23 : decode b_H_step 23 = .ok (.ifCond .lt 8, 3) := by decide +kernel
theorem d_H_step_26 : decode b_H_step 26 = .ok (.iload_n 2, 1) := by decide +kernel
theorem d_H_step_27 : decode b_H_step 27 = .ok (.iconst 3, 1) := by decide +kernel
theorem d_H_step_28 : decode b_H_step 28 = .ok (.if_icmp .le 13, 3) := by decide +kernel
theorem d_H_step_31 : decode b_H_step 31 = .ok (.new 45, 3) := by decide +kernel
theorem d_H_step_34 : decode b_H_step 34 = .ok (.dup, 1) := by decide +kernel
theorem d_H_step_35 : decode b_H_step 35 = .ok (.ldc 136, 2) := by decide +kernel
theorem d_H_step_37 : decode b_H_step 37 = .ok (.invokespecial 49, 3) := by decide +kernel
theorem d_H_step_40 : decode b_H_step 40 = .ok (.athrow, 1) := by decide +kernel
theorem d_H_step_41 : decode b_H_step 41 = .ok (.aload_n 0, 1) := by decide +kernel
theorem d_H_step_42 : decode b_H_step 42 = .ok (.invokevirtual 121, 3) := by decide +kernel
theorem d_H_step_45 : decode b_H_step 45 = .ok (.aload_n 0, 1) := by decide +kernel
theorem d_H_step_46 : decode b_H_step 46 = .ok (.getfield 21, 3) := by decide +kernel
theorem d_H_step_49 : decode b_H_step 49 = .ok (.iload_n 1, 1) := by decide +kernel
theorem d_H_step_50 : decode b_H_step 50 = .ok (.invokevirtual 138, 3) := by decide +kernel
theorem d_H_step_53 : decode b_H_step 53 = .ok (.istore_n 3, 1) := by decide +kernel
theorem d_H_step_54 : decode b_H_step 54 = .ok (.aload_n 0, 1) := by decide +kernel
theorem d_H_step_55 : decode b_H_step 55 = .ok (.getfield 21, 3) := by decide +kernel
theorem d_H_step_58 : decode b_H_step 58 = .ok (.iload_n 3, 1) := by decide +kernel
theorem d_H_step_59 : decode b_H_step 59 = .ok (.invokevirtual 141, 3) := by decide +kernel
theorem d_H_step_62 : decode b_H_step 62 = .ok (.istore 4, 2) := by decide +kernel
theorem d_H_step_64 : decode b_H_step 64 = .ok (.iload_n 3, 1) := by decide +kernel
theorem d_H_step_65 : decode b_H_step 65 = .ok (.iload 4, 2) := by decide +kernel
theorem d_H_step_67 : decode b_H_step 67 = .ok (.ixor, 1) := by decide +kernel
theorem d_H_step_68 : decode b_H_step 68 = .ok (.istore 5, 2) := by decide +kernel
theorem d_H_step_70 : decode b_H_step 70 = .ok (.iload_n 2, 1) := by decide +kernel
theorem d_H_step_71 : decode b_H_step 71 = .ok (.tableswitch 43 0 2 #[25, 28, 31], 25) := by decide +kernel
theorem d_H_step_96 : decode b_H_step 96 = .ok (.iload 4, 2) := by decide +kernel
theorem d_H_step_98 : decode b_H_step 98 = .ok (.ireturn, 1) := by decide +kernel
theorem d_H_step_99 : decode b_H_step 99 = .ok (.iload 5, 2) := by decide +kernel
theorem d_H_step_101 : decode b_H_step 101 = .ok (.ireturn, 1) := by decide +kernel
theorem d_H_step_102 : decode b_H_step 102 = .ok (.aload_n 0, 1) := by decide +kernel
theorem d_H_step_103 : decode b_H_step 103 = .ok (.getfield 21, 3) := by decide +kernel
theorem d_H_step_106 : decode b_H_step 106 = .ok (.iload 4, 2) := by decide +kernel
theorem d_H_step_108 : decode b_H_step 108 = .ok (.iload 5, 2) := by decide +kernel
theorem d_H_step_110 : decode b_H_step 110 = .ok (.invokevirtual 144, 3) := by decide +kernel
theorem d_H_step_113 : decode b_H_step 113 = .ok (.ireturn, 1) := by decide +kernel
theorem d_H_step_114 : decode b_H_step 114 = .ok (.aload_n 0, 1) := by decide +kernel
theorem d_H_step_115 : decode b_H_step 115 = .ok (.getfield 21, 3) := by decide +kernel
theorem d_H_step_118 : decode b_H_step 118 = .ok (.iload 4, 2) := by decide +kernel
theorem d_H_step_120 : decode b_H_step 120 = .ok (.iload 5, 2) := by decide +kernel
theorem d_H_step_122 : decode b_H_step 122 = .ok (.invokevirtual 148, 3) := by decide +kernel
theorem d_H_step_125 : decode b_H_step 125 = .ok (.ireturn, 1) := by decide +kernel
theorem d_H_value_0 : decode b_H_value 0 = .ok (.iload_n 1, 1) := by decide +kernel
theorem d_H_value_1 : decode b_H_value 1 = .ok (.ifCond .lt 18, 3) := by decide +kernel
theorem d_H_value_4 : decode b_H_value 4 = .ok (.iload_n 1, 1) := by decide +kernel
theorem d_H_value_5 : decode b_H_value 5 = .ok (.aload_n 0, 1) := by decide +kernel
theorem d_H_value_6 : decode b_H_value 6 = .ok (.getfield 12, 3) := by decide +kernel
theorem d_H_value_9 : decode b_H_value 9 = .ok (.aload_n 0, 1) := by decide +kernel
theorem d_H_value_10 : decode b_H_value 10 = .ok (.getfield 113, 3) := by decide +kernel
theorem d_H_value_13 : decode b_H_value 13 = .ok (.invokevirtual 98, 3) := by decide +kernel
theorem d_H_value_16 : decode b_H_value 16 = .ok (.if_icmp .lt 13, 3) := by decide +kernel
theorem d_H_value_19 : decode b_H_value 19 = .ok (.new 93, 3) := by decide +kernel
theorem d_H_value_22 : decode b_H_value 22 = .ok (.dup, 1) := by decide +kernel
theorem d_H_value_23 : decode b_H_value 23 = .ok (.ldc 102, 2) := by decide +kernel
theorem d_H_value_25 : decode b_H_value 25 = .ok (.invokespecial 97, 3) := by decide +kernel
theorem d_H_value_28 : decode b_H_value 28 = .ok (.athrow, 1) := by decide +kernel
theorem d_H_value_29 : decode b_H_value 29 = .ok (.aload_n 0, 1) := by decide +kernel
theorem d_H_value_30 : decode b_H_value 30 = .ok (.getfield 67, 3) := by decide +kernel
theorem d_H_value_33 : decode b_H_value 33 = .ok (.ifCond .ne 31, 3) := by decide +kernel
theorem d_H_value_36 : decode b_H_value 36 = .ok (.aload_n 0, 1) := by decide +kernel
theorem d_H_value_37 : decode b_H_value 37 = .ok (.getfield 110, 3) := by decide +kernel
theorem d_H_value_40 : decode b_H_value 40 = .ok (.iconst 2, 1) := by decide +kernel
theorem d_H_value_41 : decode b_H_value 41 = .ok (.if_icmp .ge 10, 3) := by decide +kernel
theorem d_H_value_44 : decode b_H_value 44 = .ok (.aload_n 0, 1) := by decide +kernel
theorem d_H_value_45 : decode b_H_value 45 = .ok (.invokevirtual 151, 3) := by decide +kernel
theorem d_H_value_48 : decode b_H_value 48 = .ok (.goto 11, 3) := by decide +kernel
theorem d_H_value_51 : decode b_H_value 51 = .ok (.aload_n 0, 1) := by decide +kernel
theorem d_H_value_52 : decode b_H_value 52 = .ok (.invokevirtual 121, 3) := by decide +kernel
theorem d_H_value_55 : decode b_H_value 55 = .ok (.aload_n 0, 1) := by decide +kernel
theorem d_H_value_56 : decode b_H_value 56 = .ok (.invokevirtual 154, 3) := by decide +kernel
theorem d_H_value_59 : decode b_H_value 59 = .ok (.aload_n 0, 1) := by decide +kernel
theorem d_H_value_60 : decode b_H_value 60 = .ok (.iconst 1, 1) := by decide +kernel
theorem d_H_value_61 : decode b_H_value 61 = .ok (.putfield 67, 3) := by decide +kernel
theorem d_H_value_64 : decode b_H_value 64 = .ok (.aload_n 0, 1) := by decide +kernel
theorem d_H_value_65 : decode b_H_value 65 = .ok (.getfield 28, 3) := by decide +kernel
theorem d_H_value_68 : decode b_H_value 68 = .ok (.sipush 216, 3) := by decide +kernel
theorem d_H_value_71 : decode b_H_value 71 = .ok (.iload_n 1, 1) := by decide +kernel
theorem d_H_value_72 : decode b_H_value 72 = .ok (.iadd, 1) := by decide +kernel
theorem d_H_value_73 : decode b_H_value 73 = .ok (.invokevirtual 157, 3) := by decide +kernel
theorem d_H_value_76 : decode b_H_value 76 = .ok (.ireturn, 1) := by decide +kernel
set_option maxHeartbeats 4000000 in
set_option maxRecDepth 100000 in
theorem c_H_cost (l : Launch) (dC : Nat → ClassId) (dI : Nat → Nat → Nat) (cI : ClassId) (z1 : Nat) (sz : Nat → Nat) (p1 p2 p3 p4 p5 : Nat) (h0 z0 p0 r0 k1 k2 k3 k4 : Nat) (tab sm : Int32) (K R pf : Nat) (fh fl fc fp fj fo : Nat → Int32) (la : Nat → Nat) (hK6 : K ≤ 6) (hsz : ∀ k, k < 8 → sz k ≤ 3) (hla : ∀ k, k < K → la k < 256) (hfo : ∀ j, j < K → fo j = nI (la j)) (hk0 : ct_plk fh fc) (hpf : pf = 0 ∨ pf = 1) (hok : pf = 1 → 2 ≤ K ∧ ct_plok sz la K R fh fl fc fp fj) (sz0 : Nat) : Met l y_H_cost w_H_cost ({ frames := 5, cells := 0, slots := 0, locals := 117 }) (va_Pc [.ref h0] (ct_rw (dC, dI) ct_cl [(h0, .inr (0, [.ref z0, .ref p0, .ref r0, .int tab, .ref k1, .int (nI K), .ref k2, .ref k3, .int (nI R), .ref k4, .int (nI pf), .int sm])), (p0, .inr (2, [.ref z0, .ref p1, .ref p2, .ref p3, .ref p4, .ref p5])), (p1, .inl (cI, 64, .inl fh)), (p2, .inl (cI, 64, .inl fl)), (p3, .inl (cI, 64, .inl fc)), (p4, .inl (cI, 64, .inl fp)), (p5, .inl (cI, 5, .inl fj)), (z0, .inr (1, [.ref z1])), (z1, .inl (cI, 8, .inl (fun j => nI (sz j)))), (k3, .inl (cI, 6, .inl fo))] [(cI, .int)] sz0)) (va_Qi (fun (r : Int32) (u : Nat × (Nat → Int32) × (Nat → Int32) × (Nat → Int32) × (Nat → Int32) × (Nat → Int32)) => ((u.1 = 0 ∨ u.1 = 1) ∧ (u.1 = 1 → 2 ≤ K ∧ ct_plok sz la K R u.2.1 u.2.2.1 u.2.2.2.1 u.2.2.2.2.1 u.2.2.2.2.2) ∧ ct_plk u.2.1 u.2.2.2.1) ∧ r = nI (if 2 ≤ K then (ct_B (ct_jc sz la K R) (2 ^ K - 1)).1 else 0)) (fun (u : Nat × (Nat → Int32) × (Nat → Int32) × (Nat → Int32) × (Nat → Int32) × (Nat → Int32)) t => ct_at (dC, dI) ct_cl [(cI, .int)] (va_A [(h0, .inr (0, [.ref z0, .ref p0, .ref r0, .int tab, .ref k1, .int (nI K), .ref k2, .ref k3, .int (nI R), .ref k4, .int (nI pf), .int sm])), (p0, .inr (2, [.ref z0, .ref p1, .ref p2, .ref p3, .ref p4, .ref p5])), (p1, .inl (cI, 64, .inl fh)), (p2, .inl (cI, 64, .inl fl)), (p3, .inl (cI, 64, .inl fc)), (p4, .inl (cI, 64, .inl fp)), (p5, .inl (cI, 5, .inl fj)), (z0, .inr (1, [.ref z1])), (z1, .inl (cI, 8, .inl (fun j => nI (sz j)))), (k3, .inl (cI, 6, .inl fo))] sz0) [(h0, .inr (0, [.ref z0, .ref p0, .ref r0, .int tab, .ref k1, .int (nI K), .ref k2, .ref k3, .int (nI R), .ref k4, .int (nI (u.1)), .int sm])), (p0, .inr (2, [.ref z0, .ref p1, .ref p2, .ref p3, .ref p4, .ref p5])), (p1, .inl (cI, 64, .inl (u.2.1))), (p2, .inl (cI, 64, .inl (u.2.2.1))), (p3, .inl (cI, 64, .inl (u.2.2.2.1))), (p4, .inl (cI, 64, .inl (u.2.2.2.2.1))), (p5, .inl (cI, 5, .inl (u.2.2.2.2.2))), (z0, .inr (1, [.ref z1])), (z1, .inl (cI, 8, .inl (fun j => nI (sz j)))), (k3, .inl (cI, 6, .inl fo))] t) (va_A [(h0, .inr (0, [.ref z0, .ref p0, .ref r0, .int tab, .ref k1, .int (nI K), .ref k2, .ref k3, .int (nI R), .ref k4, .int (nI pf), .int sm])), (p0, .inr (2, [.ref z0, .ref p1, .ref p2, .ref p3, .ref p4, .ref p5])), (p1, .inl (cI, 64, .inl fh)), (p2, .inl (cI, 64, .inl fl)), (p3, .inl (cI, 64, .inl fc)), (p4, .inl (cI, 64, .inl fp)), (p5, .inl (cI, 5, .inl fj)), (z0, .inr (1, [.ref z1])), (z1, .inl (cI, 8, .inl (fun j => nI (sz j)))), (k3, .inl (cI, 6, .inl fo))] sz0)) 0 0 (va_A [(h0, .inr (0, [.ref z0, .ref p0, .ref r0, .int tab, .ref k1, .int (nI K), .ref k2, .ref k3, .int (nI R), .ref k4, .int (nI pf), .int sm])), (p0, .inr (2, [.ref z0, .ref p1, .ref p2, .ref p3, .ref p4, .ref p5])), (p1, .inl (cI, 64, .inl fh)), (p2, .inl (cI, 64, .inl fl)), (p3, .inl (cI, 64, .inl fc)), (p4, .inl (cI, 64, .inl fp)), (p5, .inl (cI, 5, .inl fj)), (z0, .inr (1, [.ref z1])), (z1, .inl (cI, 8, .inl (fun j => nI (sz j)))), (k3, .inl (cI, 6, .inl fo))] sz0) := by
  refine Met.ofW (cc := b_H_cost) (maxL := 1) (ret := (some .int)) (by decide) rfl ?_
  intro p e s m args below meth c s₁ Bd hml hv
  obtain ⟨hargs, hsz, hP, hK, hD0⟩ := hv
  have hx := Bd.exec
  have hb := Bd.bytes
  have hr := Bd.returns
  have hts : ∀ w ∈ k_H_cost :: ct_tb, w.before args s = true := atoms_spec (ws := w_H_cost) Bd.pre
  have hown : s.vm.findClass R_H = some m.cls := findClass_of_methodNamed Bd.named
  have hlocks := Bd.notSynchronized
  subst hsz
  have hD := hD0.self (sz := s.heap.size)
  generalize hAe : va_A [(h0, .inr (0, [.ref z0, .ref p0, .ref r0, .int tab, .ref k1, .int (nI K), .ref k2, .ref k3, .int (nI R), .ref k4, .int (nI pf), .int sm])), (p0, .inr (2, [.ref z0, .ref p1, .ref p2, .ref p3, .ref p4, .ref p5])), (p1, .inl (cI, 64, .inl fh)), (p2, .inl (cI, 64, .inl fl)), (p3, .inl (cI, 64, .inl fc)), (p4, .inl (cI, 64, .inl fp)), (p5, .inl (cI, 5, .inl fj)), (z0, .inr (1, [.ref z1])), (z1, .inl (cI, 8, .inl (fun j => nI (sz j)))), (k3, .inl (cI, 6, .inl fo))] s.heap.size = A at hD ⊢
  have hA : ∀ q : Nat, s.heap.size ≤ q → A q := fun q h => by rw [← hAe]; exact Or.inr h
  have hS : va_S A s.heap s.heap [] := va_S.rf
  have hl := lv_entry ([.ref h0]) (n := 1) (Nat.le_of_ble_eq_true rfl)
  rw [show entryFrame m args 1 = entryFrame m (([.ref h0] : List Value)).toArray 1 by rw [hargs], lg_entry_eq]
  generalize (lg_sl ([.ref h0]) ++ List.replicate (1 - (lg_sl ([.ref h0])).length) Slot.unset).toArray = ls at hl ⊢
  have hl : lv_has ls 1 [(0, .ref h0)] := hl
  refine lv_aload_n hx hb d_H_cost_0 rfl (lv_at hl 0 rfl) ?_
  refine va_get (D := (dC, dI)) (ci := 0) (v := .int (nI K)) (C := R_H) (T := T_H) (N := 12) hx hb hts (fun w h9 => ct_tl (ki_H w h9)) hown hK hP 0 rfl rfl 5 (by decide) (hts _ (ct_tl kw_119)) (fun _ h9 => h9) rfl d_H_cost_1 ?_
  refine lv_iconst (v := (nI 2)) hx hb d_H_cost_4 (by decide) ?_
  by_cases hK2 : 2 ≤ K
  · refine lv_icmp_ge (tgt := 10) hx hb d_H_cost_5 (by decide) (fun _ => ?_) (fun hc9 => absurd (nI_le hK2 (by omega)) hc9)
    have h2K := ct_2K K (by omega)
    refine lv_aload_n hx hb d_H_cost_10 rfl (lv_at hl 0 rfl) ?_
    have hPc := hP.sub (ws' := [(h0, .inr (0, [.ref z0, .ref p0, .ref r0, .int tab, .ref k1, .int (nI K), .ref k2, .ref k3, .int (nI R), .ref k4, .int (nI pf), .int sm])), (p0, .inr (2, [.ref z0, .ref p1, .ref p2, .ref p3, .ref p4, .ref p5])), (p1, .inl (cI, 64, .inl fh)), (p2, .inl (cI, 64, .inl fl)), (p3, .inl (cI, 64, .inl fc)), (p4, .inl (cI, 64, .inl fp)), (p5, .inl (cI, 5, .inl fj)), (z0, .inr (1, [.ref z1])), (z1, .inl (cI, 8, .inl (fun j => nI (sz j)))), (k3, .inl (cI, 6, .inl fo))]) [0, 1, 2, 3, 4, 5, 6, 7, 8, 9] rfl
    have hDc := hD.sub (ws' := [(h0, .inr (0, [.ref z0, .ref p0, .ref r0, .int tab, .ref k1, .int (nI K), .ref k2, .ref k3, .int (nI R), .ref k4, .int (nI pf), .int sm])), (p0, .inr (2, [.ref z0, .ref p1, .ref p2, .ref p3, .ref p4, .ref p5])), (p1, .inl (cI, 64, .inl fh)), (p2, .inl (cI, 64, .inl fl)), (p3, .inl (cI, 64, .inl fc)), (p4, .inl (cI, 64, .inl fp)), (p5, .inl (cI, 5, .inl fj)), (z0, .inr (1, [.ref z1])), (z1, .inl (cI, 8, .inl (fun j => nI (sz j)))), (k3, .inl (cI, 6, .inl fo))]) [0, 1, 2, 3, 4, 5, 6, 7, 8, 9] (by decide) rfl
    have hFc := va_free (wc := [(h0, .inr (0, [.ref z0, .ref p0, .ref r0, .int tab, .ref k1, .int (nI K), .ref k2, .ref k3, .int (nI R), .ref k4, .int (nI pf), .int sm])), (p0, .inr (2, [.ref z0, .ref p1, .ref p2, .ref p3, .ref p4, .ref p5])), (p1, .inl (cI, 64, .inl fh)), (p2, .inl (cI, 64, .inl fl)), (p3, .inl (cI, 64, .inl fc)), (p4, .inl (cI, 64, .inl fp)), (p5, .inl (cI, 5, .inl fj)), (z0, .inr (1, [.ref z1])), (z1, .inl (cI, 8, .inl (fun j => nI (sz j)))), (k3, .inl (cI, 6, .inl fo))]) hD hS hA [0, 1, 2, 3, 4, 5, 6, 7, 8, 9] rfl
    refine va_callv (va_runV (As := []) (rest := []) ⟨hx, hb, hml, hown, hts⟩ (c_H_makePlan l dC dI cI z1 sz p1 p2 p3 p4 p5 h0 z0 p0 r0 k1 k2 k3 k4 tab sm K R pf fh fl fc fp fj fo la hK6 hK2 hsz hla hfo hk0 hpf (fun z => (hok z).2) s.heap.size) (cwV 0 hts (ct_giV (fun w h9 => ct_tl h9) kw_163 kw_165 kw_1 kw_26 kw_166) rfl rfl rfl (by decide +kernel) ⟨Nat.le_of_ble_eq_true rfl, Nat.le_of_ble_eq_true rfl⟩) ⟨ct_rw_blind, va_recv hK hP (ci := 0) (q0 := 0) rfl rfl, ct_rw_pre hPc hK hDc⟩ rfl rfl hl.1 rfl (lv_room (Nat.le_of_ble_eq_true rfl)) d_H_cost_11 ⟨Nat.le_of_ble_eq_true rfl, Nat.le_of_ble_eq_true rfl⟩) hS (fun q _ h9 => hFc q h9) hFc (fun ⟨gh, gl, gc, gp, gj⟩ tS H1 locs ht hvm hmk hB hz1 hk1 hS => ?_)
    obtain ⟨hP1, -, hD1⟩ := hB
    rw [ht] at hP1
    obtain ⟨hP, hD⟩ := va_join (wr := []) (w1 := [(h0, .inr (0, [.ref z0, .ref p0, .ref r0, .int tab, .ref k1, .int (nI K), .ref k2, .ref k3, .int (nI R), .ref k4, .int (nI 1), .int sm])), (p0, .inr (2, [.ref z0, .ref p1, .ref p2, .ref p3, .ref p4, .ref p5])), (p1, .inl (cI, 64, .inl gh)), (p2, .inl (cI, 64, .inl gl)), (p3, .inl (cI, 64, .inl gc)), (p4, .inl (cI, 64, .inl gp)), (p5, .inl (cI, 5, .inl gj)), (z0, .inr (1, [.ref z1])), (z1, .inl (cI, 8, .inl (fun j => nI (sz j)))), (k3, .inl (cI, 6, .inl fo))]) hP hD [0, 1, 2, 3, 4, 5, 6, 7, 8, 9] [] rfl rfl (by decide) (by decide) hk1 hFc hP1 hD1
    generalize H1 = H at hP hS ⊢
    have hP : va_P (dC, dI) ct_cl [(h0, .inr (0, [.ref z0, .ref p0, .ref r0, .int tab, .ref k1, .int (nI K), .ref k2, .ref k3, .int (nI R), .ref k4, .int (nI 1), .int sm])), (p0, .inr (2, [.ref z0, .ref p1, .ref p2, .ref p3, .ref p4, .ref p5])), (p1, .inl (cI, 64, .inl gh)), (p2, .inl (cI, 64, .inl gl)), (p3, .inl (cI, 64, .inl gc)), (p4, .inl (cI, 64, .inl gp)), (p5, .inl (cI, 5, .inl gj)), (z0, .inr (1, [.ref z1])), (z1, .inl (cI, 8, .inl (fun j => nI (sz j)))), (k3, .inl (cI, 6, .inl fo))] H := hP
    have hD : va_D A [(h0, .inr (0, [.ref z0, .ref p0, .ref r0, .int tab, .ref k1, .int (nI K), .ref k2, .ref k3, .int (nI R), .ref k4, .int (nI 1), .int sm])), (p0, .inr (2, [.ref z0, .ref p1, .ref p2, .ref p3, .ref p4, .ref p5])), (p1, .inl (cI, 64, .inl gh)), (p2, .inl (cI, 64, .inl gl)), (p3, .inl (cI, 64, .inl gc)), (p4, .inl (cI, 64, .inl gp)), (p5, .inl (cI, 5, .inl gj)), (z0, .inr (1, [.ref z1])), (z1, .inl (cI, 8, .inl (fun j => nI (sz j)))), (k3, .inl (cI, 6, .inl fo))] := hD
    refine lv_aload_n hx hb d_H_cost_14 rfl (lv_at hl 0 rfl) ?_
    refine va_get (D := (dC, dI)) (ci := 0) (v := .ref p0) (C := R_H) (T := T_H) (N := 12) hx hb hts (fun w h9 => ct_tl (ki_H w h9)) hown hK hP 0 rfl rfl 1 (by decide) (hts _ (ct_tl kw_115)) (fun _ h9 => h9) rfl d_H_cost_15 ?_
    refine lv_aload_n hx hb d_H_cost_18 rfl (lv_at hl 0 rfl) ?_
    refine va_calli (va_runV (As := []) (rest := [.ref p0]) ⟨hx, hb, hml, hown, hts⟩ (c_H_allOperands l dC dI cI h0 z0 p0 r0 k1 k2 k3 k4 tab K (nI R) (nI 1) sm hK6) (cwV 0 hts (ct_giV (fun w h9 => ct_tl h9) kw_208 kw_210 kw_6 kw_26 kw_211) rfl rfl rfl (by decide +kernel) ⟨Nat.le_of_ble_eq_true rfl, Nat.le_of_ble_eq_true rfl⟩) ⟨ct_ro_blind, va_recv hK hP (ci := 0) (q0 := 0) rfl rfl, ct_ro_pre (hP.sub [0] rfl) hK⟩ rfl rfl hl.1 rfl (lv_room (Nat.le_of_ble_eq_true rfl)) d_H_cost_19 ⟨Nat.le_of_ble_eq_true rfl, Nat.le_of_ble_eq_true rfl⟩) hS (fun q _ h9 => h9.elim) (fun q h9 => h9.elim) (fun ans101 uS tS H locs ht hvm hwans101 hB hz1 hk1 hS => ?_)
    have hP := ct_keep hP hk1
    refine ct_val (y := nI (2 ^ K - 1)) (hwans101) ?_
    refine va_calli (va_runV (As := [.int (nI (2 ^ K - 1))]) (rest := []) ⟨hx, hb, hml, hown, hts⟩ (c_P_costOf l dC dI cI z0 p0 p1 p2 p3 p4 p5 gc (2 ^ K - 1) (by omega)) (cwV 1 hts (ct_giV (fun w h9 => ct_tl h9) kw_212 kw_213 kw_214 kw_28 kw_215) rfl rfl rfl (by decide +kernel) ⟨Nat.le_of_ble_eq_true rfl, Nat.le_of_ble_eq_true rfl⟩) ⟨ct_ro_blind, va_recv hK hP (ci := 2) (q0 := 1) rfl rfl, ct_ro_pre (hP.sub [1, 4] rfl) hK⟩ rfl rfl hl.1 rfl (lv_room (Nat.le_of_ble_eq_true rfl)) d_H_cost_22 ⟨Nat.le_of_ble_eq_true rfl, Nat.le_of_ble_eq_true rfl⟩) hS (fun q _ h9 => h9.elim) (fun q h9 => h9.elim) (fun ans102 uS tS H locs ht hvm hwans102 hB hz1 hk1 hS => ?_)
    have hP := ct_keep hP hk1
    refine ct_val (y := gc (2 ^ K - 1)) (hwans102) ?_
    have hsall := ct_sev0 (ct_sev_all K (by omega) hK2)
    have hP9 := hP.sub [0, 1, 2, 3, 4, 5, 6, 7, 8, 9] rfl
    exact W.iret (v := (gc (2 ^ K - 1))) hx hb hr (fun tS ht hW => ⟨⟨(gc (2 ^ K - 1)), (1, gh, gl, gc, gp, gj), rfl, ⟨⟨Or.inr rfl, fun _ => ⟨hK2, hmk.1⟩, hmk.2⟩, by rw [if_pos hK2]; exact hmk.1.2.2.1 _ hsall (by omega)⟩, by rw [ht]; exact hP9, va_K.moved hW.alike hK, hD.sub [0, 1, 2, 3, 4, 5, 6, 7, 8, 9] (by decide) rfl⟩, hS.F ht⟩) hS.2.2 d_H_cost_25
  · refine lv_icmp_ge (tgt := 10) hx hb d_H_cost_5 (by decide) (fun hc9 => absurd hc9 (nI_ge (by omega) (by omega))) (fun _ => ?_)
    refine lv_iconst (v := (nI 0)) hx hb d_H_cost_8 (by decide) ?_
    have hP9 := hP.sub [0, 1, 2, 3, 4, 5, 6, 7, 8, 9] rfl
    exact W.iret (v := (nI 0)) hx hb hr (fun tS ht hW => ⟨⟨(nI 0), (pf, fh, fl, fc, fp, fj), rfl, ⟨⟨hpf, hok, hk0⟩, by rw [if_neg hK2]⟩, by rw [ht]; exact hP9, va_K.moved hW.alike hK, hD.sub [0, 1, 2, 3, 4, 5, 6, 7, 8, 9] (by decide) rfl⟩, hS.F ht⟩) hS.2.2 d_H_cost_9
/-- what step k of the plan says -/
def ct_stv (sz la : Nat → Nat) (K R k j : Nat) : Nat :=
  let S := (ct_ls (ct_B (ct_jc sz la K R)) 64 (2 ^ K - 1)).getD k 0
  let a := (ct_B (ct_jc sz la K R) S).2
  if j = 0 then a else if j = 1 then S ^^^ a else if j = 2 then ct_jc sz la K R a (S ^^^ a) else ct_lv la K R a ||| ct_lv la K R (S ^^^ a)
theorem ct_isn4 {y : Int32} : ct_isn 4 y = (!decide (y < 0) && decide (y ≤ nI 3)) := by
  unfold ct_isn
  congr 1
  by_cases h : nI 4 ≤ y
  · have h1 : ¬ y ≤ nI 3 := fun z => by
      have e1 := Int32.le_iff_toInt_le.mp h
      have e2 := Int32.le_iff_toInt_le.mp z
      have e3 : (nI 4).toInt = 4 := by decide
      have e4 : (nI 3).toInt = 3 := by decide
      omega
    simp [h, h1]
  · have h1 : y ≤ nI 3 := Int32.le_iff_toInt_le.mpr (by
      have e1 : ¬ (nI 4).toInt ≤ y.toInt := fun z => h (Int32.le_iff_toInt_le.mpr z)
      have e3 : (nI 4).toInt = 4 := by decide
      have e4 : (nI 3).toInt = 3 := by decide
      omega)
    simp [h, h1]
set_option maxHeartbeats 4000000 in
set_option maxRecDepth 100000 in
theorem c_H_step (l : Launch) (hst : l.stackTraces = false) (dC : Nat → ClassId) (dI : Nat → Nat → Nat) (cI : ClassId) (z1 : Nat) (sz : Nat → Nat) (p1 p2 p3 p4 p5 : Nat) (h0 z0 p0 r0 k1 k2 k3 k4 : Nat) (tab sm : Int32) (K R pf : Nat) (fh fl fc fp fj fo : Nat → Int32) (la : Nat → Nat) (hK6 : K ≤ 6) (hsz : ∀ k, k < 8 → sz k ≤ 3) (hla : ∀ k, k < K → la k < 256) (hfo : ∀ j, j < K → fo j = nI (la j)) (hk0 : ct_plk fh fc) (hpf : pf = 0 ∨ pf = 1) (hok : pf = 1 → 2 ≤ K ∧ ct_plok sz la K R fh fl fc fp fj) (x y : Int32) (sz0 : Nat) : vx_Met l y_H_step w_H_step ({ frames := 6, cells := 1, slots := 6, locals := 117 }) (va_Pc [.ref h0, .int x, .int y] (ct_rx (dC, dI) ct_cl [(h0, .inr (0, [.ref z0, .ref p0, .ref r0, .int tab, .ref k1, .int (nI K), .ref k2, .ref k3, .int (nI R), .ref k4, .int (nI pf), .int sm])), (p0, .inr (2, [.ref z0, .ref p1, .ref p2, .ref p3, .ref p4, .ref p5])), (p1, .inl (cI, 64, .inl fh)), (p2, .inl (cI, 64, .inl fl)), (p3, .inl (cI, 64, .inl fc)), (p4, .inl (cI, 64, .inl fp)), (p5, .inl (cI, 5, .inl fj)), (z0, .inr (1, [.ref z1])), (z1, .inl (cI, 8, .inl (fun j => nI (sz j)))), (k3, .inl (cI, 6, .inl fo))] [(cI, .int)] sz0)) (va_Qi (fun (r : Int32) (u : Nat × (Nat → Int32) × (Nat → Int32) × (Nat → Int32) × (Nat → Int32) × (Nat → Int32)) => ((u.1 = 0 ∨ u.1 = 1) ∧ (u.1 = 1 → 2 ≤ K ∧ ct_plok sz la K R u.2.1 u.2.2.1 u.2.2.2.1 u.2.2.2.2.1 u.2.2.2.2.2) ∧ ct_plk u.2.1 u.2.2.2.1) ∧ ∃ k j : Nat, x = nI k ∧ k < K - 1 ∧ y = nI j ∧ j < 4 ∧ r = nI (ct_stv sz la K R k j)) (fun (u : Nat × (Nat → Int32) × (Nat → Int32) × (Nat → Int32) × (Nat → Int32) × (Nat → Int32)) t => ct_at (dC, dI) ct_cl [(cI, .int)] (va_A [(h0, .inr (0, [.ref z0, .ref p0, .ref r0, .int tab, .ref k1, .int (nI K), .ref k2, .ref k3, .int (nI R), .ref k4, .int (nI pf), .int sm])), (p0, .inr (2, [.ref z0, .ref p1, .ref p2, .ref p3, .ref p4, .ref p5])), (p1, .inl (cI, 64, .inl fh)), (p2, .inl (cI, 64, .inl fl)), (p3, .inl (cI, 64, .inl fc)), (p4, .inl (cI, 64, .inl fp)), (p5, .inl (cI, 5, .inl fj)), (z0, .inr (1, [.ref z1])), (z1, .inl (cI, 8, .inl (fun j => nI (sz j)))), (k3, .inl (cI, 6, .inl fo))] sz0) [(h0, .inr (0, [.ref z0, .ref p0, .ref r0, .int tab, .ref k1, .int (nI K), .ref k2, .ref k3, .int (nI R), .ref k4, .int (nI (u.1)), .int sm])), (p0, .inr (2, [.ref z0, .ref p1, .ref p2, .ref p3, .ref p4, .ref p5])), (p1, .inl (cI, 64, .inl (u.2.1))), (p2, .inl (cI, 64, .inl (u.2.2.1))), (p3, .inl (cI, 64, .inl (u.2.2.2.1))), (p4, .inl (cI, 64, .inl (u.2.2.2.2.1))), (p5, .inl (cI, 5, .inl (u.2.2.2.2.2))), (z0, .inr (1, [.ref z1])), (z1, .inl (cI, 8, .inl (fun j => nI (sz j)))), (k3, .inl (cI, 6, .inl fo))] t) (va_A [(h0, .inr (0, [.ref z0, .ref p0, .ref r0, .int tab, .ref k1, .int (nI K), .ref k2, .ref k3, .int (nI R), .ref k4, .int (nI pf), .int sm])), (p0, .inr (2, [.ref z0, .ref p1, .ref p2, .ref p3, .ref p4, .ref p5])), (p1, .inl (cI, 64, .inl fh)), (p2, .inl (cI, 64, .inl fl)), (p3, .inl (cI, 64, .inl fc)), (p4, .inl (cI, 64, .inl fp)), (p5, .inl (cI, 5, .inl fj)), (z0, .inr (1, [.ref z1])), (z1, .inl (cI, 8, .inl (fun j => nI (sz j)))), (k3, .inl (cI, 6, .inl fo))] sz0)) (vx_X (fun (_ : Unit) => True) (fun (E : String) (_ : Unit) t => ((ct_isn (K - 1) x = false ∧ E = R_IOE) ∨ (ct_isn (K - 1) x = true ∧ ct_isn 4 y = false ∧ E = R_IAE)) ∧ ct_at (dC, dI) ct_cl [(cI, .int)] (va_A [(h0, .inr (0, [.ref z0, .ref p0, .ref r0, .int tab, .ref k1, .int (nI K), .ref k2, .ref k3, .int (nI R), .ref k4, .int (nI pf), .int sm])), (p0, .inr (2, [.ref z0, .ref p1, .ref p2, .ref p3, .ref p4, .ref p5])), (p1, .inl (cI, 64, .inl fh)), (p2, .inl (cI, 64, .inl fl)), (p3, .inl (cI, 64, .inl fc)), (p4, .inl (cI, 64, .inl fp)), (p5, .inl (cI, 5, .inl fj)), (z0, .inr (1, [.ref z1])), (z1, .inl (cI, 8, .inl (fun j => nI (sz j)))), (k3, .inl (cI, 6, .inl fo))] sz0) [(h0, .inr (0, [.ref z0, .ref p0, .ref r0, .int tab, .ref k1, .int (nI K), .ref k2, .ref k3, .int (nI R), .ref k4, .int (nI pf), .int sm])), (p0, .inr (2, [.ref z0, .ref p1, .ref p2, .ref p3, .ref p4, .ref p5])), (p1, .inl (cI, 64, .inl fh)), (p2, .inl (cI, 64, .inl fl)), (p3, .inl (cI, 64, .inl fc)), (p4, .inl (cI, 64, .inl fp)), (p5, .inl (cI, 5, .inl fj)), (z0, .inr (1, [.ref z1])), (z1, .inl (cI, 8, .inl (fun j => nI (sz j)))), (k3, .inl (cI, 6, .inl fo))] t) (va_A [(h0, .inr (0, [.ref z0, .ref p0, .ref r0, .int tab, .ref k1, .int (nI K), .ref k2, .ref k3, .int (nI R), .ref k4, .int (nI pf), .int sm])), (p0, .inr (2, [.ref z0, .ref p1, .ref p2, .ref p3, .ref p4, .ref p5])), (p1, .inl (cI, 64, .inl fh)), (p2, .inl (cI, 64, .inl fl)), (p3, .inl (cI, 64, .inl fc)), (p4, .inl (cI, 64, .inl fp)), (p5, .inl (cI, 5, .inl fj)), (z0, .inr (1, [.ref z1])), (z1, .inl (cI, 8, .inl (fun j => nI (sz j)))), (k3, .inl (cI, 6, .inl fo))] sz0)) 1 6 (va_A [(h0, .inr (0, [.ref z0, .ref p0, .ref r0, .int tab, .ref k1, .int (nI K), .ref k2, .ref k3, .int (nI R), .ref k4, .int (nI pf), .int sm])), (p0, .inr (2, [.ref z0, .ref p1, .ref p2, .ref p3, .ref p4, .ref p5])), (p1, .inl (cI, 64, .inl fh)), (p2, .inl (cI, 64, .inl fl)), (p3, .inl (cI, 64, .inl fc)), (p4, .inl (cI, 64, .inl fp)), (p5, .inl (cI, 5, .inl fj)), (z0, .inr (1, [.ref z1])), (z1, .inl (cI, 8, .inl (fun j => nI (sz j)))), (k3, .inl (cI, 6, .inl fo))] sz0) := by
  refine vx_ofW (cc := b_H_step) (maxL := 6) (ret := (some .int)) (by decide) rfl ?_
  intro p e s m args below meth c s₁ Bd hml htab hv
  obtain ⟨hargs, ⟨hsz, hP, hK, hD0⟩, hXw⟩ := hv
  have hx := Bd.exec
  have hb := Bd.bytes
  have hr := Bd.returns
  have hts : ∀ w ∈ k_H_step :: ct_tb, w.before args s = true := atoms_spec (ws := w_H_step) Bd.pre
  have hown : s.vm.findClass R_H = some m.cls := findClass_of_methodNamed Bd.named
  have hlocks := Bd.notSynchronized
  subst hsz
  have hD := hD0.self (sz := s.heap.size)
  generalize hAe : va_A [(h0, .inr (0, [.ref z0, .ref p0, .ref r0, .int tab, .ref k1, .int (nI K), .ref k2, .ref k3, .int (nI R), .ref k4, .int (nI pf), .int sm])), (p0, .inr (2, [.ref z0, .ref p1, .ref p2, .ref p3, .ref p4, .ref p5])), (p1, .inl (cI, 64, .inl fh)), (p2, .inl (cI, 64, .inl fl)), (p3, .inl (cI, 64, .inl fc)), (p4, .inl (cI, 64, .inl fp)), (p5, .inl (cI, 5, .inl fj)), (z0, .inr (1, [.ref z1])), (z1, .inl (cI, 8, .inl (fun j => nI (sz j)))), (k3, .inl (cI, 6, .inl fo))] s.heap.size = A at hD hXw ⊢
  have hA : ∀ q : Nat, s.heap.size ≤ q → A q := fun q h => by rw [← hAe]; exact Or.inr h
  have hS : va_S A s.heap s.heap [] := va_S.rf
  have hl := lv_entry ([.ref h0, .int x, .int y]) (n := 6) (Nat.le_of_ble_eq_true rfl)
  rw [show entryFrame m args 6 = entryFrame m (([.ref h0, .int x, .int y] : List Value)).toArray 6 by rw [hargs], lg_entry_eq]
  generalize (lg_sl ([.ref h0, .int x, .int y]) ++ List.replicate (6 - (lg_sl ([.ref h0, .int x, .int y])).length) Slot.unset).toArray = ls at hl ⊢
  have hl : lv_has ls 6 [(0, .ref h0), (1, .int x), (2, .int y)] := hl
  by_cases c1 : x < 0
  · refine lv_iload_n hx hb d_H_step_0 rfl (lv_at hl 1 rfl) ?_
    refine lv_if_lt (tgt := 12) hx hb d_H_step_1 (by decide) (fun _ => ?_) (fun hc9 => absurd (c1) hc9)
    obtain ⟨sa, hstr⟩ := hXw.2.1 (134, "no such step") (by decide)
    exact vx_throwS (own := R_H) (cls := R_IOE) (text := "no such step") (names := ct_sup) (sa := sa) hx hb hst hown kf_IOE.1 kf_IOE.2 (hts _ (ct_tl kl_IOE)) (hts _ (ct_tl kn_IOE)) hstr (kt_IOE hts hXw) kg_IOE hXw.2.2.1 hXw.2.2.2 hS (hl.1.trans hml.symm) d_H_step_12 d_H_step_15 d_H_step_16 d_H_step_18 d_H_step_21 (fun x hx9 => (htab x hx9).elim) (Nat.le_of_ble_eq_true rfl) (Nat.le_of_ble_eq_true rfl) (Nat.le_of_ble_eq_true rfl) (Nat.le_of_ble_eq_true rfl) hlocks (fun tS hal9 hz9 hk9 => ⟨(), trivial, ⟨Or.inl ⟨by simp [ct_isn, c1], rfl⟩, (ct_thr (hP.sub [0, 1, 2, 3, 4, 5, 6, 7, 8, 9] rfl) hK (hD.sub [0, 1, 2, 3, 4, 5, 6, 7, 8, 9] (by decide) rfl) hS hal9 hz9 hk9).1⟩, (ct_thr hP hK hD hS hal9 hz9 hk9).2⟩) hS.2.2 (Nat.le_of_ble_eq_true rfl) (Nat.le_of_ble_eq_true rfl)
  · refine lv_iload_n hx hb d_H_step_0 rfl (lv_at hl 1 rfl) ?_
    refine lv_if_lt (tgt := 12) hx hb d_H_step_1 (by decide) (fun hc9 => absurd hc9 (c1)) (fun _ => ?_)
    refine lv_iload_n hx hb d_H_step_4 rfl (lv_at hl 1 rfl) ?_
    refine lv_aload_n hx hb d_H_step_5 rfl (lv_at hl 0 rfl) ?_
    refine va_calli (va_runV (As := []) (rest := [.int x]) ⟨hx, hb, hml, hown, hts⟩ (c_H_countSteps l dC dI cI h0 z0 p0 r0 k1 k2 k3 k4 tab K (nI R) (nI pf) sm hK6) (cwV 0 hts (ct_giV (fun w h9 => ct_tl h9) kw_422 kw_424 kw_10 kw_26 kw_425) rfl rfl rfl (by decide +kernel) ⟨Nat.le_of_ble_eq_true rfl, Nat.le_of_ble_eq_true rfl⟩) ⟨ct_ro_blind, va_recv hK hP (ci := 0) (q0 := 0) rfl rfl, ct_ro_pre (hP.sub [0] rfl) hK⟩ rfl rfl hl.1 rfl (lv_room (Nat.le_of_ble_eq_true rfl)) d_H_step_6 ⟨Nat.zero_le _, Nat.zero_le _⟩) hS (fun q _ h9 => h9.elim) (fun q h9 => h9.elim) (fun ans101 uS tS H locs ht hvm hwans101 hB hz1 hk1 hS => ?_)
    have hP := ct_keep hP hk1
    refine ct_val (y := nI (K - 1)) (hwans101) ?_
    by_cases c2 : x < nI (K - 1)
    · refine lv_icmp_lt (tgt := 22) hx hb d_H_step_9 (by decide) (fun _ => ?_) (fun hc9 => absurd (c2) hc9)
      have hqx : ct_isn (K - 1) x = true := by simp [ct_isn, c1, Int32.not_le.mpr c2]
      refine lv_iload_n hx hb d_H_step_22 rfl (lv_at hl 2 rfl) ?_
      by_cases c3 : y < 0
      · refine lv_if_lt (tgt := 31) hx hb d_H_step_23 (by decide) (fun _ => ?_) (fun hc9 => absurd (c3) hc9)
        obtain ⟨sa, hstr⟩ := hXw.2.1 (136, "what is 0 to 3") (by decide)
        exact vx_throwS (own := R_H) (cls := R_IAE) (text := "what is 0 to 3") (names := ct_sup) (sa := sa) hx hb hst hown kf_IAE.1 kf_IAE.2 (hts _ (ct_tl kl_IAE)) (hts _ (ct_tl kn_IAE)) hstr (kt_IAE hts hXw) kg_IAE hXw.2.2.1 hXw.2.2.2 hS (hl.1.trans hml.symm) d_H_step_31 d_H_step_34 d_H_step_35 d_H_step_37 d_H_step_40 (fun x hx9 => (htab x hx9).elim) (Nat.le_of_ble_eq_true rfl) (Nat.le_of_ble_eq_true rfl) (Nat.le_of_ble_eq_true rfl) (Nat.le_of_ble_eq_true rfl) hlocks (fun tS hal9 hz9 hk9 => ⟨(), trivial, ⟨Or.inr ⟨hqx, by simp [ct_isn, c3], rfl⟩, (ct_thr (hP.sub [0, 1, 2, 3, 4, 5, 6, 7, 8, 9] rfl) hK (hD.sub [0, 1, 2, 3, 4, 5, 6, 7, 8, 9] (by decide) rfl) hS hal9 hz9 hk9).1⟩, (ct_thr hP hK hD hS hal9 hz9 hk9).2⟩) hS.2.2 (Nat.le_of_ble_eq_true rfl) (Nat.le_of_ble_eq_true rfl)
      · refine lv_if_lt (tgt := 31) hx hb d_H_step_23 (by decide) (fun hc9 => absurd hc9 (c3)) (fun _ => ?_)
        refine lv_iload_n hx hb d_H_step_26 rfl (lv_at hl 2 rfl) ?_
        refine lv_iconst (v := (nI 3)) hx hb d_H_step_27 (by decide) ?_
        by_cases c4 : y ≤ nI 3
        · refine lv_icmp_le (tgt := 41) hx hb d_H_step_28 (by decide) (fun _ => ?_) (fun hc9 => absurd (c4) hc9)
          obtain ⟨k, hk, rfl⟩ := ct_isn_of (by omega) hqx
          obtain ⟨j, hj, rfl⟩ := ct_isn_of (n := 4) (by omega) (x := y) (by rw [ct_isn4]; simp [c3, c4])
          have hK2 : 2 ≤ K := by omega
          have h2K := ct_2K K (by omega)
          refine lv_aload_n hx hb d_H_step_41 rfl (lv_at hl 0 rfl) ?_
          have hPc := hP.sub (ws' := [(h0, .inr (0, [.ref z0, .ref p0, .ref r0, .int tab, .ref k1, .int (nI K), .ref k2, .ref k3, .int (nI R), .ref k4, .int (nI pf), .int sm])), (p0, .inr (2, [.ref z0, .ref p1, .ref p2, .ref p3, .ref p4, .ref p5])), (p1, .inl (cI, 64, .inl fh)), (p2, .inl (cI, 64, .inl fl)), (p3, .inl (cI, 64, .inl fc)), (p4, .inl (cI, 64, .inl fp)), (p5, .inl (cI, 5, .inl fj)), (z0, .inr (1, [.ref z1])), (z1, .inl (cI, 8, .inl (fun j => nI (sz j)))), (k3, .inl (cI, 6, .inl fo))]) [0, 1, 2, 3, 4, 5, 6, 7, 8, 9] rfl
          have hDc := hD.sub (ws' := [(h0, .inr (0, [.ref z0, .ref p0, .ref r0, .int tab, .ref k1, .int (nI K), .ref k2, .ref k3, .int (nI R), .ref k4, .int (nI pf), .int sm])), (p0, .inr (2, [.ref z0, .ref p1, .ref p2, .ref p3, .ref p4, .ref p5])), (p1, .inl (cI, 64, .inl fh)), (p2, .inl (cI, 64, .inl fl)), (p3, .inl (cI, 64, .inl fc)), (p4, .inl (cI, 64, .inl fp)), (p5, .inl (cI, 5, .inl fj)), (z0, .inr (1, [.ref z1])), (z1, .inl (cI, 8, .inl (fun j => nI (sz j)))), (k3, .inl (cI, 6, .inl fo))]) [0, 1, 2, 3, 4, 5, 6, 7, 8, 9] (by decide) rfl
          have hFc := va_free (wc := [(h0, .inr (0, [.ref z0, .ref p0, .ref r0, .int tab, .ref k1, .int (nI K), .ref k2, .ref k3, .int (nI R), .ref k4, .int (nI pf), .int sm])), (p0, .inr (2, [.ref z0, .ref p1, .ref p2, .ref p3, .ref p4, .ref p5])), (p1, .inl (cI, 64, .inl fh)), (p2, .inl (cI, 64, .inl fl)), (p3, .inl (cI, 64, .inl fc)), (p4, .inl (cI, 64, .inl fp)), (p5, .inl (cI, 5, .inl fj)), (z0, .inr (1, [.ref z1])), (z1, .inl (cI, 8, .inl (fun j => nI (sz j)))), (k3, .inl (cI, 6, .inl fo))]) hD hS hA [0, 1, 2, 3, 4, 5, 6, 7, 8, 9] rfl
          refine va_callv (va_runV (As := []) (rest := []) ⟨hx, hb, hml, hown, hts⟩ (c_H_makePlan l dC dI cI z1 sz p1 p2 p3 p4 p5 h0 z0 p0 r0 k1 k2 k3 k4 tab sm K R pf fh fl fc fp fj fo la hK6 hK2 hsz hla hfo hk0 hpf (fun z => (hok z).2) H.size) (cwV 0 hts (ct_giV (fun w h9 => ct_tl h9) kw_163 kw_165 kw_1 kw_26 kw_166) rfl rfl rfl (by decide +kernel) ⟨Nat.le_of_ble_eq_true rfl, Nat.le_of_ble_eq_true rfl⟩) ⟨ct_rw_blind, va_recv hK hP (ci := 0) (q0 := 0) rfl rfl, ct_rw_pre hPc hK hDc⟩ rfl rfl hl.1 rfl (lv_room (Nat.le_of_ble_eq_true rfl)) d_H_step_42 ⟨Nat.zero_le _, Nat.zero_le _⟩) hS (fun q _ h9 => hFc q h9) hFc (fun ⟨gh, gl, gc, gp, gj⟩ tS H1 locs ht hvm hmk hB hz1 hk1 hS => ?_)
          obtain ⟨hP1, -, hD1⟩ := hB
          rw [ht] at hP1
          obtain ⟨hP, hD⟩ := va_join (wr := []) (w1 := [(h0, .inr (0, [.ref z0, .ref p0, .ref r0, .int tab, .ref k1, .int (nI K), .ref k2, .ref k3, .int (nI R), .ref k4, .int (nI 1), .int sm])), (p0, .inr (2, [.ref z0, .ref p1, .ref p2, .ref p3, .ref p4, .ref p5])), (p1, .inl (cI, 64, .inl gh)), (p2, .inl (cI, 64, .inl gl)), (p3, .inl (cI, 64, .inl gc)), (p4, .inl (cI, 64, .inl gp)), (p5, .inl (cI, 5, .inl gj)), (z0, .inr (1, [.ref z1])), (z1, .inl (cI, 8, .inl (fun j => nI (sz j)))), (k3, .inl (cI, 6, .inl fo))]) hP hD [0, 1, 2, 3, 4, 5, 6, 7, 8, 9] [] rfl rfl (by decide) (by decide) hk1 hFc hP1 hD1
          generalize H1 = H at hP hS ⊢
          have hP : va_P (dC, dI) ct_cl [(h0, .inr (0, [.ref z0, .ref p0, .ref r0, .int tab, .ref k1, .int (nI K), .ref k2, .ref k3, .int (nI R), .ref k4, .int (nI 1), .int sm])), (p0, .inr (2, [.ref z0, .ref p1, .ref p2, .ref p3, .ref p4, .ref p5])), (p1, .inl (cI, 64, .inl gh)), (p2, .inl (cI, 64, .inl gl)), (p3, .inl (cI, 64, .inl gc)), (p4, .inl (cI, 64, .inl gp)), (p5, .inl (cI, 5, .inl gj)), (z0, .inr (1, [.ref z1])), (z1, .inl (cI, 8, .inl (fun j => nI (sz j)))), (k3, .inl (cI, 6, .inl fo))] H := hP
          have hD : va_D A [(h0, .inr (0, [.ref z0, .ref p0, .ref r0, .int tab, .ref k1, .int (nI K), .ref k2, .ref k3, .int (nI R), .ref k4, .int (nI 1), .int sm])), (p0, .inr (2, [.ref z0, .ref p1, .ref p2, .ref p3, .ref p4, .ref p5])), (p1, .inl (cI, 64, .inl gh)), (p2, .inl (cI, 64, .inl gl)), (p3, .inl (cI, 64, .inl gc)), (p4, .inl (cI, 64, .inl gp)), (p5, .inl (cI, 5, .inl gj)), (z0, .inr (1, [.ref z1])), (z1, .inl (cI, 8, .inl (fun j => nI (sz j)))), (k3, .inl (cI, 6, .inl fo))] := hD
          have hokB := ct_okB_B (ct_jc sz la K R)
          have hsall := ct_sev_all K (by omega) hK2
          have hlen : (ct_ls (ct_B (ct_jc sz la K R)) 64 (2 ^ K - 1)).length = K - 1 := by have h9 := ct_ls_len hokB 64 (2 ^ K - 1) (by omega) (by omega) (ct_sev0 hsall); rw [ct_pop_all K (by omega)] at h9; omega
          have hprev := ct_ls_prev hokB 64 (2 ^ K - 1) (by omega) (by omega) k (by omega)
          have hSK := ct_mem_lt (K := K) hokB 64 (2 ^ K - 1) (by omega) (by omega) (by omega) ((ct_ls (ct_B (ct_jc sz la K R)) 64 (2 ^ K - 1)).getD k 0) (by rw [List.getD_eq_getElem?_getD, List.getElem?_eq_getElem (by omega)]; exact List.getElem_mem _)
          have hgj := hmk.1.2.2.2.2 k hk
          have hstv : ∀ j, ct_stv sz la K R k j = ct_stv sz la K R k j := fun _ => rfl
          have eS : ∃ S, ((ct_ls (ct_B (ct_jc sz la K R)) 64 (2 ^ K - 1)).getD k 0) = S := ⟨_, rfl⟩
          obtain ⟨S, eS⟩ := eS
          rw [eS] at hprev hSK hgj
          obtain ⟨hs, hS6, -, -⟩ := hprev
          have hp := hokB S hS6 hs
          have hpc := ct_pt_co S hS6 _ hp.1 hp.2
          have hp0 := ct_pt_pos hp.2
          have hgp := hmk.1.2.2.2.1 S hSK hs
          have ha : ∃ a, (ct_B (ct_jc sz la K R) S).2 = a := ⟨_, rfl⟩
          obtain ⟨a, ha⟩ := ha
          rw [ha] at hgp hp hpc hp0
          have hla1 := hmk.1.2.1 a hp0 (by omega)
          have hlb1 := hmk.1.2.1 (S ^^^ a) hpc.1 (by omega)
          have hval : ct_stv sz la K R k j = if j = 0 then a else if j = 1 then S ^^^ a else if j = 2 then ct_jc sz la K R a (S ^^^ a) else ct_lv la K R a ||| ct_lv la K R (S ^^^ a) := by unfold ct_stv; rw [eS]; dsimp only; rw [ha]
          refine lv_aload_n hx hb d_H_step_45 rfl (lv_at hl 0 rfl) ?_
          refine va_get (D := (dC, dI)) (ci := 0) (v := .ref p0) (C := R_H) (T := T_H) (N := 12) hx hb hts (fun w h9 => ct_tl (ki_H w h9)) hown hK hP 0 rfl rfl 1 (by decide) (hts _ (ct_tl kw_115)) (fun _ h9 => h9) rfl d_H_step_46 ?_
          refine lv_iload_n hx hb d_H_step_49 rfl (lv_at hl 1 rfl) ?_
          refine va_calli (va_runV (As := [.int (nI k)]) (rest := []) ⟨hx, hb, hml, hown, hts⟩ (c_P_joinedBy l dC dI cI z0 p0 p1 p2 p3 p4 p5 gj k (by omega)) (cwV 1 hts (ct_giV (fun w h9 => ct_tl h9) kw_428 kw_429 kw_430 kw_28 kw_431) rfl rfl rfl (by decide +kernel) ⟨Nat.le_of_ble_eq_true rfl, Nat.le_of_ble_eq_true rfl⟩) ⟨ct_ro_blind, va_recv hK hP (ci := 2) (q0 := 1) rfl rfl, ct_ro_pre (hP.sub [1, 6] rfl) hK⟩ rfl rfl hl.1 rfl (lv_room (Nat.le_of_ble_eq_true rfl)) d_H_step_50 ⟨Nat.zero_le _, Nat.zero_le _⟩) hS (fun q _ h9 => h9.elim) (fun q h9 => h9.elim) (fun ans402 uS tS H locs ht hvm hwans402 hB hz1 hk1 hS => ?_)
          have hP := ct_keep hP hk1
          refine ct_val (y := gj k) (hwans402) ?_
          refine ct_val (y := nI S) hgj ?_
          refine lv_istore_n (lv' := [(3, .int (nI S)), (0, .ref h0), (1, .int (nI k)), (2, .int (nI j))]) hx hb d_H_step_53 rfl hl (by decide) rfl (fun ls hl => ?_)
          refine lv_aload_n hx hb d_H_step_54 rfl (lv_at hl 1 rfl) ?_
          refine va_get (D := (dC, dI)) (ci := 0) (v := .ref p0) (C := R_H) (T := T_H) (N := 12) hx hb hts (fun w h9 => ct_tl (ki_H w h9)) hown hK hP 0 rfl rfl 1 (by decide) (hts _ (ct_tl kw_115)) (fun _ h9 => h9) rfl d_H_step_55 ?_
          refine lv_iload_n hx hb d_H_step_58 rfl (lv_at hl 0 rfl) ?_
          refine va_calli (va_runV (As := [.int (nI S)]) (rest := []) ⟨hx, hb, hml, hown, hts⟩ (c_P_partOf l dC dI cI z0 p0 p1 p2 p3 p4 p5 gp S hS6) (cwV 1 hts (ct_giV (fun w h9 => ct_tl h9) kw_432 kw_433 kw_434 kw_28 kw_435) rfl rfl rfl (by decide +kernel) ⟨Nat.le_of_ble_eq_true rfl, Nat.le_of_ble_eq_true rfl⟩) ⟨ct_ro_blind, va_recv hK hP (ci := 2) (q0 := 1) rfl rfl, ct_ro_pre (hP.sub [1, 5] rfl) hK⟩ rfl rfl hl.1 rfl (lv_room (Nat.le_of_ble_eq_true rfl)) d_H_step_59 ⟨Nat.zero_le _, Nat.zero_le _⟩) hS (fun q _ h9 => h9.elim) (fun q h9 => h9.elim) (fun ans403 uS tS H locs ht hvm hwans403 hB hz1 hk1 hS => ?_)
          have hP := ct_keep hP hk1
          refine ct_val (y := gp S) (hwans403) ?_
          refine ct_val (y := nI a) hgp ?_
          refine lv_istore (lv' := [(4, .int (nI a)), (3, .int (nI S)), (0, .ref h0), (1, .int (nI k)), (2, .int (nI j))]) hx hb d_H_step_62 hl (by decide) rfl (fun ls hl => ?_)
          refine lv_iload_n hx hb d_H_step_64 rfl (lv_at hl 1 rfl) ?_
          refine lv_iload hx hb d_H_step_65 (lv_at hl 0 rfl) ?_
          refine lv_ixor hx hb d_H_step_67 ?_
          refine ct_val (y := nI (S ^^^ a)) (ct_xor _ _) ?_
          refine lv_istore (lv' := [(5, .int (nI (S ^^^ a))), (4, .int (nI a)), (3, .int (nI S)), (0, .ref h0), (1, .int (nI k)), (2, .int (nI j))]) hx hb d_H_step_68 hl (by decide) rfl (fun ls hl => ?_)
          refine lv_iload_n hx hb d_H_step_70 rfl (lv_at hl 5 rfl) ?_
          rcases (show j = 0 ∨ j = 1 ∨ j = 2 ∨ j = 3 by omega) with rfl | rfl | rfl | rfl
          · refine lv_tableIn (x := nI 0) (off := 25) (tgt := 96) hx hb d_H_step_71 (by decide) (by decide) (by decide) (by decide) ?_
            refine lv_iload hx hb d_H_step_96 (lv_at hl 1 rfl) ?_
            refine vx_ret ?_
            refine W.widen (k := 1) (n := 6) (Nat.zero_le _) (Nat.zero_le _) ?_
            have hP9 := hP.sub [0, 1, 2, 3, 4, 5, 6, 7, 8, 9] rfl
            exact W.iret (v := (nI a)) hx hb hr (fun tS ht hW => ⟨⟨(nI a), (1, gh, gl, gc, gp, gj), rfl, ⟨⟨Or.inr rfl, fun _ => ⟨hK2, hmk.1⟩, hmk.2⟩, k, 0, rfl, hk, rfl, by omega, by rw [hval]; rfl⟩, by rw [ht]; exact hP9, va_K.moved hW.alike hK, hD.sub [0, 1, 2, 3, 4, 5, 6, 7, 8, 9] (by decide) rfl⟩, hS.F ht⟩) hS.2.2 d_H_step_98
          · refine lv_tableIn (x := nI 1) (off := 28) (tgt := 99) hx hb d_H_step_71 (by decide) (by decide) (by decide) (by decide) ?_
            refine lv_iload hx hb d_H_step_99 (lv_at hl 0 rfl) ?_
            refine vx_ret ?_
            refine W.widen (k := 1) (n := 6) (Nat.zero_le _) (Nat.zero_le _) ?_
            have hP9 := hP.sub [0, 1, 2, 3, 4, 5, 6, 7, 8, 9] rfl
            exact W.iret (v := (nI (S ^^^ a))) hx hb hr (fun tS ht hW => ⟨⟨(nI (S ^^^ a)), (1, gh, gl, gc, gp, gj), rfl, ⟨⟨Or.inr rfl, fun _ => ⟨hK2, hmk.1⟩, hmk.2⟩, k, 1, rfl, hk, rfl, by omega, by rw [hval]; rfl⟩, by rw [ht]; exact hP9, va_K.moved hW.alike hK, hD.sub [0, 1, 2, 3, 4, 5, 6, 7, 8, 9] (by decide) rfl⟩, hS.F ht⟩) hS.2.2 d_H_step_101
          · refine lv_tableIn (x := nI 2) (off := 31) (tgt := 102) hx hb d_H_step_71 (by decide) (by decide) (by decide) (by decide) ?_
            refine lv_aload_n hx hb d_H_step_102 rfl (lv_at hl 3 rfl) ?_
            refine va_get (D := (dC, dI)) (ci := 0) (v := .ref p0) (C := R_H) (T := T_H) (N := 12) hx hb hts (fun w h9 => ct_tl (ki_H w h9)) hown hK hP 0 rfl rfl 1 (by decide) (hts _ (ct_tl kw_115)) (fun _ h9 => h9) rfl d_H_step_103 ?_
            refine lv_iload hx hb d_H_step_106 (lv_at hl 1 rfl) ?_
            refine lv_iload hx hb d_H_step_108 (lv_at hl 0 rfl) ?_
            refine va_calli (va_runV (As := [.int (nI a), .int (nI (S ^^^ a))]) (rest := []) ⟨hx, hb, hml, hown, hts⟩ (c_P_joinCost l dC dI cI z1 sz z0 p0 p1 p2 p3 p4 p5 gl a (S ^^^ a) (ct_lv la K R a) (ct_lv la K R (S ^^^ a)) (by omega) (by omega) hla1 hlb1 (Nat.lt_trans (Nat.or_lt_two_pow (n := 8) (ct_lv_lt hla) (ct_lv_lt hla)) (by omega))) (cwV 2 hts (ct_giV (fun w h9 => ct_tl h9) kw_436 kw_187 kw_188 kw_28 kw_189) rfl rfl rfl (by decide +kernel) ⟨Nat.le_of_ble_eq_true rfl, Nat.le_of_ble_eq_true rfl⟩) ⟨ct_ro_blind, va_recv hK hP (ci := 2) (q0 := 1) rfl rfl, ct_ro_pre (hP.sub [1, 3, 7, 8] rfl) hK⟩ rfl rfl hl.1 rfl (lv_room (Nat.le_of_ble_eq_true rfl)) d_H_step_110 ⟨Nat.zero_le _, Nat.zero_le _⟩) hS (fun q _ h9 => h9.elim) (fun q h9 => h9.elim) (fun ans504 uS tS H locs ht hvm hwans504 hB hz1 hk1 hS => ?_)
            have hP := ct_keep hP hk1
            refine ct_val (y := nI (ct_pr sz (ct_lv la K R a ||| ct_lv la K R (S ^^^ a)).testBit 8)) (hwans504) ?_
            refine vx_ret ?_
            refine W.widen (k := 1) (n := 6) (Nat.zero_le _) (Nat.zero_le _) ?_
            have hP9 := hP.sub [0, 1, 2, 3, 4, 5, 6, 7, 8, 9] rfl
            exact W.iret (v := (nI (ct_pr sz (ct_lv la K R a ||| ct_lv la K R (S ^^^ a)).testBit 8))) hx hb hr (fun tS ht hW => ⟨⟨(nI (ct_pr sz (ct_lv la K R a ||| ct_lv la K R (S ^^^ a)).testBit 8)), (1, gh, gl, gc, gp, gj), rfl, ⟨⟨Or.inr rfl, fun _ => ⟨hK2, hmk.1⟩, hmk.2⟩, k, 2, rfl, hk, rfl, by omega, by rw [hval]; rfl⟩, by rw [ht]; exact hP9, va_K.moved hW.alike hK, hD.sub [0, 1, 2, 3, 4, 5, 6, 7, 8, 9] (by decide) rfl⟩, hS.F ht⟩) hS.2.2 d_H_step_113
          · refine lv_tableOut (x := nI 3) (tgt := 114) hx hb d_H_step_71 (Or.inr (by decide)) (by decide) ?_
            refine lv_aload_n hx hb d_H_step_114 rfl (lv_at hl 3 rfl) ?_
            refine va_get (D := (dC, dI)) (ci := 0) (v := .ref p0) (C := R_H) (T := T_H) (N := 12) hx hb hts (fun w h9 => ct_tl (ki_H w h9)) hown hK hP 0 rfl rfl 1 (by decide) (hts _ (ct_tl kw_115)) (fun _ h9 => h9) rfl d_H_step_115 ?_
            refine lv_iload hx hb d_H_step_118 (lv_at hl 1 rfl) ?_
            refine lv_iload hx hb d_H_step_120 (lv_at hl 0 rfl) ?_
            refine va_calli (va_runV (As := [.int (nI a), .int (nI (S ^^^ a))]) (rest := []) ⟨hx, hb, hml, hown, hts⟩ (c_P_joinLabels l dC dI cI z0 p0 p1 p2 p3 p4 p5 gl a (S ^^^ a) (ct_lv la K R a) (ct_lv la K R (S ^^^ a)) (by omega) (by omega) hla1 hlb1) (cwV 2 hts (ct_giV (fun w h9 => ct_tl h9) kw_437 kw_191 kw_192 kw_28 kw_193) rfl rfl rfl (by decide +kernel) ⟨Nat.le_of_ble_eq_true rfl, Nat.le_of_ble_eq_true rfl⟩) ⟨ct_ro_blind, va_recv hK hP (ci := 2) (q0 := 1) rfl rfl, ct_ro_pre (hP.sub [1, 3] rfl) hK⟩ rfl rfl hl.1 rfl (lv_room (Nat.le_of_ble_eq_true rfl)) d_H_step_122 ⟨Nat.zero_le _, Nat.zero_le _⟩) hS (fun q _ h9 => h9.elim) (fun q h9 => h9.elim) (fun ans504 uS tS H locs ht hvm hwans504 hB hz1 hk1 hS => ?_)
            have hP := ct_keep hP hk1
            refine ct_val (y := nI (ct_lv la K R a ||| ct_lv la K R (S ^^^ a))) (hwans504) ?_
            refine vx_ret ?_
            refine W.widen (k := 1) (n := 6) (Nat.zero_le _) (Nat.zero_le _) ?_
            have hP9 := hP.sub [0, 1, 2, 3, 4, 5, 6, 7, 8, 9] rfl
            exact W.iret (v := (nI (ct_lv la K R a ||| ct_lv la K R (S ^^^ a)))) hx hb hr (fun tS ht hW => ⟨⟨(nI (ct_lv la K R a ||| ct_lv la K R (S ^^^ a))), (1, gh, gl, gc, gp, gj), rfl, ⟨⟨Or.inr rfl, fun _ => ⟨hK2, hmk.1⟩, hmk.2⟩, k, 3, rfl, hk, rfl, by omega, by rw [hval]; rfl⟩, by rw [ht]; exact hP9, va_K.moved hW.alike hK, hD.sub [0, 1, 2, 3, 4, 5, 6, 7, 8, 9] (by decide) rfl⟩, hS.F ht⟩) hS.2.2 d_H_step_125
        · refine lv_icmp_le (tgt := 41) hx hb d_H_step_28 (by decide) (fun hc9 => absurd hc9 (c4)) (fun _ => ?_)
          obtain ⟨sa, hstr⟩ := hXw.2.1 (136, "what is 0 to 3") (by decide)
          exact vx_throwS (own := R_H) (cls := R_IAE) (text := "what is 0 to 3") (names := ct_sup) (sa := sa) hx hb hst hown kf_IAE.1 kf_IAE.2 (hts _ (ct_tl kl_IAE)) (hts _ (ct_tl kn_IAE)) hstr (kt_IAE hts hXw) kg_IAE hXw.2.2.1 hXw.2.2.2 hS (hl.1.trans hml.symm) d_H_step_31 d_H_step_34 d_H_step_35 d_H_step_37 d_H_step_40 (fun x hx9 => (htab x hx9).elim) (Nat.le_of_ble_eq_true rfl) (Nat.le_of_ble_eq_true rfl) (Nat.le_of_ble_eq_true rfl) (Nat.le_of_ble_eq_true rfl) hlocks (fun tS hal9 hz9 hk9 => ⟨(), trivial, ⟨Or.inr ⟨hqx, by rw [ct_isn4]; simp [c4], rfl⟩, (ct_thr (hP.sub [0, 1, 2, 3, 4, 5, 6, 7, 8, 9] rfl) hK (hD.sub [0, 1, 2, 3, 4, 5, 6, 7, 8, 9] (by decide) rfl) hS hal9 hz9 hk9).1⟩, (ct_thr hP hK hD hS hal9 hz9 hk9).2⟩) hS.2.2 (Nat.le_of_ble_eq_true rfl) (Nat.le_of_ble_eq_true rfl)
    · refine lv_icmp_lt (tgt := 22) hx hb d_H_step_9 (by decide) (fun hc9 => absurd hc9 (c2)) (fun _ => ?_)
      obtain ⟨sa, hstr⟩ := hXw.2.1 (134, "no such step") (by decide)
      exact vx_throwS (own := R_H) (cls := R_IOE) (text := "no such step") (names := ct_sup) (sa := sa) hx hb hst hown kf_IOE.1 kf_IOE.2 (hts _ (ct_tl kl_IOE)) (hts _ (ct_tl kn_IOE)) hstr (kt_IOE hts hXw) kg_IOE hXw.2.2.1 hXw.2.2.2 hS (hl.1.trans hml.symm) d_H_step_12 d_H_step_15 d_H_step_16 d_H_step_18 d_H_step_21 (fun x hx9 => (htab x hx9).elim) (Nat.le_of_ble_eq_true rfl) (Nat.le_of_ble_eq_true rfl) (Nat.le_of_ble_eq_true rfl) (Nat.le_of_ble_eq_true rfl) hlocks (fun tS hal9 hz9 hk9 => ⟨(), trivial, ⟨Or.inl ⟨by simp [ct_isn, Int32.not_lt.mp c2], rfl⟩, (ct_thr (hP.sub [0, 1, 2, 3, 4, 5, 6, 7, 8, 9] rfl) hK (hD.sub [0, 1, 2, 3, 4, 5, 6, 7, 8, 9] (by decide) rfl) hS hal9 hz9 hk9).1⟩, (ct_thr hP hK hD hS hal9 hz9 hk9).2⟩) hS.2.2 (Nat.le_of_ble_eq_true rfl) (Nat.le_of_ble_eq_true rfl)
