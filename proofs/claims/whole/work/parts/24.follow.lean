theorem d_H_followPlan_0 : decode b_H_followPlan 0 = .ok (.iconst 0, 1) := by decide +kernel
theorem d_H_followPlan_1 : decode b_H_followPlan 1 = .ok (.istore_n 1, 1) := by decide +kernel
theorem d_H_followPlan_2 : decode b_H_followPlan 2 = .ok (.iload_n 1, 1) := by decide +kernel
theorem d_H_followPlan_3 : decode b_H_followPlan 3 = .ok (.aload_n 0, 1) := by decide +kernel
theorem d_H_followPlan_4 : decode b_H_followPlan 4 = .ok (.getfield 110, 3) := by decide +kernel
theorem d_H_followPlan_7 : decode b_H_followPlan 7 = .ok (.if_icmp .ge 26, 3) := by decide +kernel
theorem d_H_followPlan_10 : decode b_H_followPlan 10 = .ok (.aload_n 0, 1) := by decide +kernel
theorem d_H_followPlan_11 : decode b_H_followPlan 11 = .ok (.getfield 42, 3) := by decide +kernel
theorem d_H_followPlan_14 : decode b_H_followPlan 14 = .ok (.iconst 1, 1) := by decide +kernel
theorem d_H_followPlan_15 : decode b_H_followPlan 15 = .ok (.iload_n 1, 1) := by decide +kernel
theorem d_H_followPlan_16 : decode b_H_followPlan 16 = .ok (.ishl, 1) := by decide +kernel
theorem d_H_followPlan_17 : decode b_H_followPlan 17 = .ok (.aload_n 0, 1) := by decide +kernel
theorem d_H_followPlan_18 : decode b_H_followPlan 18 = .ok (.getfield 36, 3) := by decide +kernel
theorem d_H_followPlan_21 : decode b_H_followPlan 21 = .ok (.iload_n 1, 1) := by decide +kernel
theorem d_H_followPlan_22 : decode b_H_followPlan 22 = .ok (.iaload, 1) := by decide +kernel
theorem d_H_followPlan_23 : decode b_H_followPlan 23 = .ok (.invokestatic 104, 3) := by decide +kernel
theorem d_H_followPlan_26 : decode b_H_followPlan 26 = .ok (.iastore, 1) := by decide +kernel
theorem d_H_followPlan_27 : decode b_H_followPlan 27 = .ok (.iinc 1 1, 3) := by decide +kernel
theorem d_H_followPlan_30 : decode b_H_followPlan 30 = .ok (.goto (-28), 3) := by decide +kernel
theorem d_H_followPlan_33 : decode b_H_followPlan 33 = .ok (.aload_n 0, 1) := by decide +kernel
theorem d_H_followPlan_34 : decode b_H_followPlan 34 = .ok (.invokevirtual 131, 3) := by decide +kernel
theorem d_H_followPlan_37 : decode b_H_followPlan 37 = .ok (.iconst 1, 1) := by decide +kernel
theorem d_H_followPlan_38 : decode b_H_followPlan 38 = .ok (.isub, 1) := by decide +kernel
theorem d_H_followPlan_39 : decode b_H_followPlan 39 = .ok (.istore_n 1, 1) := by decide +kernel
theorem d_H_followPlan_40 : decode b_H_followPlan 40 = .ok (.sipush 244, 3) := by decide +kernel
theorem d_H_followPlan_43 : decode b_H_followPlan 43 = .ok (.istore_n 2, 1) := by decide +kernel
theorem d_H_followPlan_44 : decode b_H_followPlan 44 = .ok (.iconst 0, 1) := by decide +kernel
theorem d_H_followPlan_45 : decode b_H_followPlan 45 = .ok (.istore_n 3, 1) := by decide +kernel
theorem d_H_followPlan_46 : decode b_H_followPlan 46 = .ok (.iload_n 3, 1) := by decide +kernel
theorem d_H_followPlan_47 : decode b_H_followPlan 47 = .ok (.iload_n 1, 1) := by decide +kernel
theorem d_H_followPlan_48 : decode b_H_followPlan 48 = .ok (.if_icmp .ge 67, 3) := by decide +kernel
theorem d_H_followPlan_51 : decode b_H_followPlan 51 = .ok (.aload_n 0, 1) := by decide +kernel
theorem d_H_followPlan_52 : decode b_H_followPlan 52 = .ok (.getfield 21, 3) := by decide +kernel
theorem d_H_followPlan_55 : decode b_H_followPlan 55 = .ok (.iload_n 3, 1) := by decide +kernel
theorem d_H_followPlan_56 : decode b_H_followPlan 56 = .ok (.invokevirtual 138, 3) := by decide +kernel
theorem d_H_followPlan_59 : decode b_H_followPlan 59 = .ok (.istore 4, 2) := by decide +kernel
theorem d_H_followPlan_61 : decode b_H_followPlan 61 = .ok (.iload_n 2, 1) := by decide +kernel
theorem d_H_followPlan_62 : decode b_H_followPlan 62 = .ok (.aload_n 0, 1) := by decide +kernel
theorem d_H_followPlan_63 : decode b_H_followPlan 63 = .ok (.getfield 12, 3) := by decide +kernel
theorem d_H_followPlan_66 : decode b_H_followPlan 66 = .ok (.aload_n 0, 1) := by decide +kernel
theorem d_H_followPlan_67 : decode b_H_followPlan 67 = .ok (.getfield 21, 3) := by decide +kernel
theorem d_H_followPlan_70 : decode b_H_followPlan 70 = .ok (.iload 4, 2) := by decide +kernel
theorem d_H_followPlan_72 : decode b_H_followPlan 72 = .ok (.invokevirtual 178, 3) := by decide +kernel
theorem d_H_followPlan_75 : decode b_H_followPlan 75 = .ok (.invokevirtual 98, 3) := by decide +kernel
theorem d_H_followPlan_78 : decode b_H_followPlan 78 = .ok (.iadd, 1) := by decide +kernel
theorem d_H_followPlan_79 : decode b_H_followPlan 79 = .ok (.istore 5, 2) := by decide +kernel
theorem d_H_followPlan_81 : decode b_H_followPlan 81 = .ok (.aload_n 0, 1) := by decide +kernel
theorem d_H_followPlan_82 : decode b_H_followPlan 82 = .ok (.getfield 28, 3) := by decide +kernel
theorem d_H_followPlan_85 : decode b_H_followPlan 85 = .ok (.iload 5, 2) := by decide +kernel
theorem d_H_followPlan_87 : decode b_H_followPlan 87 = .ok (.invokevirtual 181, 3) := by decide +kernel
theorem d_H_followPlan_90 : decode b_H_followPlan 90 = .ok (.aload_n 0, 1) := by decide +kernel
theorem d_H_followPlan_91 : decode b_H_followPlan 91 = .ok (.iload 4, 2) := by decide +kernel
theorem d_H_followPlan_93 : decode b_H_followPlan 93 = .ok (.iload_n 2, 1) := by decide +kernel
theorem d_H_followPlan_94 : decode b_H_followPlan 94 = .ok (.aload_n 0, 1) := by decide +kernel
theorem d_H_followPlan_95 : decode b_H_followPlan 95 = .ok (.getfield 21, 3) := by decide +kernel
theorem d_H_followPlan_98 : decode b_H_followPlan 98 = .ok (.iload 4, 2) := by decide +kernel
theorem d_H_followPlan_100 : decode b_H_followPlan 100 = .ok (.invokevirtual 178, 3) := by decide +kernel
theorem d_H_followPlan_103 : decode b_H_followPlan 103 = .ok (.invokevirtual 185, 3) := by decide +kernel
theorem d_H_followPlan_106 : decode b_H_followPlan 106 = .ok (.iload 5, 2) := by decide +kernel
theorem d_H_followPlan_108 : decode b_H_followPlan 108 = .ok (.istore_n 2, 1) := by decide +kernel
theorem d_H_followPlan_109 : decode b_H_followPlan 109 = .ok (.iinc 3 1, 3) := by decide +kernel
theorem d_H_followPlan_112 : decode b_H_followPlan 112 = .ok (.goto (-66), 3) := by decide +kernel
theorem d_H_followPlan_115 : decode b_H_followPlan 115 = .ok (.aload_n 0, 1) := by decide +kernel
theorem d_H_followPlan_116 : decode b_H_followPlan 116 = .ok (.aload_n 0, 1) := by decide +kernel
theorem d_H_followPlan_117 : decode b_H_followPlan 117 = .ok (.getfield 21, 3) := by decide +kernel
theorem d_H_followPlan_120 : decode b_H_followPlan 120 = .ok (.iload_n 1, 1) := by decide +kernel
theorem d_H_followPlan_121 : decode b_H_followPlan 121 = .ok (.invokevirtual 138, 3) := by decide +kernel
theorem d_H_followPlan_124 : decode b_H_followPlan 124 = .ok (.sipush 216, 3) := by decide +kernel
theorem d_H_followPlan_127 : decode b_H_followPlan 127 = .ok (.aload_n 0, 1) := by decide +kernel
theorem d_H_followPlan_128 : decode b_H_followPlan 128 = .ok (.getfield 113, 3) := by decide +kernel
theorem d_H_followPlan_131 : decode b_H_followPlan 131 = .ok (.invokevirtual 185, 3) := by decide +kernel
theorem d_H_followPlan_134 : decode b_H_followPlan 134 = .ok (.return_, 1) := by decide +kernel
set_option maxHeartbeats 4000000 in
set_option maxRecDepth 100000 in
theorem c_H_followPlan (l : Launch) (dC : Nat → ClassId) (dI : Nat → Nat → Nat) (cI : ClassId) (z1 : Nat) (sz : Nat → Nat) (p1 p2 p3 p4 p5 : Nat) (h0 z0 p0 r0 k1 k2 k3 k4 : Nat) (r1 r2 r3 r4 r5 r6 : Nat) (tab pl sm : Int32) (N M K R : Nat) (la ot : Nat → Nat) (TT : List Nat) (fot hm fl fp fj f fe fi fa fb ft : Nat → Int32) (hK6 : K ≤ 6) (hK2 : 2 ≤ K) (hsz : ∀ k, k < 8 → 0 < sz k ∧ sz k < 4) (hla : ∀ k, k < K → la k < 256) (hR : R < 256) (hTT : TT = (ct_ls (ct_B (ct_jc sz la K R)) 64 (2 ^ K - 1))) (hM : M = ct_Nk N (fun k => ct_pl sz la K R (TT.getD k 0)) (K - 2)) (hN0 : 244 ≤ N) (hN6 : N ≤ 60000) (hfl : ∀ S, 0 < S → S < 2 ^ K → fl S = nI (ct_lv la K R S)) (hfp : ∀ S, S < 2 ^ K → ct_sev S = true → fp S = nI (ct_B (ct_jc sz la K R) S).2) (hfj : ∀ k, k < K - 1 → fj k = nI (TT.getD k 0)) (hot : ∀ o, o < K → fot o = nI (ot o) ∧ ot o < 8) (hp27 : ∀ o, o < K → ct_pr sz (la o).testBit 8 ≤ 27) (hR27 : (ct_pr sz R.testBit 8) ≤ 27) (sz0 : Nat) : Met l y_H_followPlan w_H_followPlan ({ frames := 5, cells := (M - N), slots := (2 * (M - N)), locals := 132 }) (va_Pc [.ref h0] (ct_rw (dC, dI) ct_cl [(h0, .inr (0, [.ref z0, .ref p0, .ref r0, .int tab, .ref k1, .int (nI K), .ref k2, .ref k3, .int (nI R), .ref k4, .int pl, .int sm])), (k2, .inl (cI, 6, .inl fot)), (k4, .inl (cI, 64, .inl hm)), (p0, .inr (2, [.ref z0, .ref p1, .ref p2, .ref p3, .ref p4, .ref p5])), (p2, .inl (cI, 64, .inl fl)), (p4, .inl (cI, 64, .inl fp)), (p5, .inl (cI, 5, .inl fj)), (r0, .inr (3, [.ref z0, .ref r1, .ref r2, .ref r3, .ref r4, .ref r5, .ref r6])), (r1, .inl (cI, N, .inl f)), (r2, .inl (cI, 8, .inl fe)), (r3, .inl (cI, 8, .inl fi)), (r4, .inl (cI, 8, .inl fa)), (r5, .inl (cI, 8, .inl fb)), (r6, .inl (cI, 8, .inl ft)), (z0, .inr (1, [.ref z1])), (z1, .inl (cI, 8, .inl (fun j => nI (sz j))))] [(cI, .int)] sz0)) (va_Qv (fun (u : Nat × (Nat → Int32) × (Nat → Int32) × (Nat → Int32) × (Nat → Int32) × (Nat → Int32) × (Nat → Int32) × (Nat → Int32)) => (∀ i, i < 216 → u.2.2.1 i = f i) ∧ u.2.2.1 243 = f 243 ∧ ∀ r : Nat → Nat, (∀ k, k < 8 → R.testBit k = true → r k < sz k) → u.2.2.1 (216 + ct_ix sz R.testBit 8 r) = ct_sm sz (fun k => (ct_has la (2 ^ K - 1) K).testBit k && !R.testBit k) 8 (ct_pd (fun o t => f (ot o * 27 + ct_ix sz (la o).testBit 8 t)) (2 ^ K - 1) K) r) (fun (u : Nat × (Nat → Int32) × (Nat → Int32) × (Nat → Int32) × (Nat → Int32) × (Nat → Int32) × (Nat → Int32) × (Nat → Int32)) t => ct_at (dC, dI) ct_cl [(cI, .int)] (va_A [(h0, .inr (0, [.ref z0, .ref p0, .ref r0, .int tab, .ref k1, .int (nI K), .ref k2, .ref k3, .int (nI R), .ref k4, .int pl, .int sm])), (k2, .inl (cI, 6, .inl fot)), (k4, .inl (cI, 64, .inl hm)), (p0, .inr (2, [.ref z0, .ref p1, .ref p2, .ref p3, .ref p4, .ref p5])), (p2, .inl (cI, 64, .inl fl)), (p4, .inl (cI, 64, .inl fp)), (p5, .inl (cI, 5, .inl fj)), (r0, .inr (3, [.ref z0, .ref r1, .ref r2, .ref r3, .ref r4, .ref r5, .ref r6])), (r1, .inl (cI, N, .inl f)), (r2, .inl (cI, 8, .inl fe)), (r3, .inl (cI, 8, .inl fi)), (r4, .inl (cI, 8, .inl fa)), (r5, .inl (cI, 8, .inl fb)), (r6, .inl (cI, 8, .inl ft)), (z0, .inr (1, [.ref z1])), (z1, .inl (cI, 8, .inl (fun j => nI (sz j))))] sz0) [(h0, .inr (0, [.ref z0, .ref p0, .ref r0, .int tab, .ref k1, .int (nI K), .ref k2, .ref k3, .int (nI R), .ref k4, .int pl, .int sm])), (k2, .inl (cI, 6, .inl fot)), (k4, .inl (cI, 64, .inl (u.2.1))), (p0, .inr (2, [.ref z0, .ref p1, .ref p2, .ref p3, .ref p4, .ref p5])), (p2, .inl (cI, 64, .inl fl)), (p4, .inl (cI, 64, .inl fp)), (p5, .inl (cI, 5, .inl fj)), (r0, .inr (3, [.ref z0, .ref u.1, .ref r2, .ref r3, .ref r4, .ref r5, .ref r6])), (u.1, .inl (cI, M, .inl (u.2.2.1))), (r2, .inl (cI, 8, .inl (u.2.2.2.1))), (r3, .inl (cI, 8, .inl (u.2.2.2.2.1))), (r4, .inl (cI, 8, .inl (u.2.2.2.2.2.1))), (r5, .inl (cI, 8, .inl (u.2.2.2.2.2.2.1))), (r6, .inl (cI, 8, .inl (u.2.2.2.2.2.2.2))), (z0, .inr (1, [.ref z1])), (z1, .inl (cI, 8, .inl (fun j => nI (sz j))))] t) (va_A [(h0, .inr (0, [.ref z0, .ref p0, .ref r0, .int tab, .ref k1, .int (nI K), .ref k2, .ref k3, .int (nI R), .ref k4, .int pl, .int sm])), (k2, .inl (cI, 6, .inl fot)), (k4, .inl (cI, 64, .inl hm)), (p0, .inr (2, [.ref z0, .ref p1, .ref p2, .ref p3, .ref p4, .ref p5])), (p2, .inl (cI, 64, .inl fl)), (p4, .inl (cI, 64, .inl fp)), (p5, .inl (cI, 5, .inl fj)), (r0, .inr (3, [.ref z0, .ref r1, .ref r2, .ref r3, .ref r4, .ref r5, .ref r6])), (r1, .inl (cI, N, .inl f)), (r2, .inl (cI, 8, .inl fe)), (r3, .inl (cI, 8, .inl fi)), (r4, .inl (cI, 8, .inl fa)), (r5, .inl (cI, 8, .inl fb)), (r6, .inl (cI, 8, .inl ft)), (z0, .inr (1, [.ref z1])), (z1, .inl (cI, 8, .inl (fun j => nI (sz j))))] sz0)) (M - N) (2 * (M - N)) (va_A [(h0, .inr (0, [.ref z0, .ref p0, .ref r0, .int tab, .ref k1, .int (nI K), .ref k2, .ref k3, .int (nI R), .ref k4, .int pl, .int sm])), (k2, .inl (cI, 6, .inl fot)), (k4, .inl (cI, 64, .inl hm)), (p0, .inr (2, [.ref z0, .ref p1, .ref p2, .ref p3, .ref p4, .ref p5])), (p2, .inl (cI, 64, .inl fl)), (p4, .inl (cI, 64, .inl fp)), (p5, .inl (cI, 5, .inl fj)), (r0, .inr (3, [.ref z0, .ref r1, .ref r2, .ref r3, .ref r4, .ref r5, .ref r6])), (r1, .inl (cI, N, .inl f)), (r2, .inl (cI, 8, .inl fe)), (r3, .inl (cI, 8, .inl fi)), (r4, .inl (cI, 8, .inl fa)), (r5, .inl (cI, 8, .inl fb)), (r6, .inl (cI, 8, .inl ft)), (z0, .inr (1, [.ref z1])), (z1, .inl (cI, 8, .inl (fun j => nI (sz j))))] sz0) := by
  refine Met.ofW (cc := b_H_followPlan) (maxL := 6) (ret := none) (by decide) rfl ?_
  intro p e s m args below meth c s₁ Bd hml hv
  obtain ⟨hargs, hsz, hP, hK, hD0⟩ := hv
  have hx := Bd.exec
  have hb := Bd.bytes
  have hr := Bd.returns
  have hts : ∀ w ∈ k_H_followPlan :: ct_tb, w.before args s = true := atoms_spec (ws := w_H_followPlan) Bd.pre
  have hown : s.vm.findClass R_H = some m.cls := findClass_of_methodNamed Bd.named
  have hlocks := Bd.notSynchronized
  subst hsz
  have hD := hD0.self (sz := s.heap.size)
  generalize hAe : va_A [(h0, .inr (0, [.ref z0, .ref p0, .ref r0, .int tab, .ref k1, .int (nI K), .ref k2, .ref k3, .int (nI R), .ref k4, .int pl, .int sm])), (k2, .inl (cI, 6, .inl fot)), (k4, .inl (cI, 64, .inl hm)), (p0, .inr (2, [.ref z0, .ref p1, .ref p2, .ref p3, .ref p4, .ref p5])), (p2, .inl (cI, 64, .inl fl)), (p4, .inl (cI, 64, .inl fp)), (p5, .inl (cI, 5, .inl fj)), (r0, .inr (3, [.ref z0, .ref r1, .ref r2, .ref r3, .ref r4, .ref r5, .ref r6])), (r1, .inl (cI, N, .inl f)), (r2, .inl (cI, 8, .inl fe)), (r3, .inl (cI, 8, .inl fi)), (r4, .inl (cI, 8, .inl fa)), (r5, .inl (cI, 8, .inl fb)), (r6, .inl (cI, 8, .inl ft)), (z0, .inr (1, [.ref z1])), (z1, .inl (cI, 8, .inl (fun j => nI (sz j))))] s.heap.size = A at hD ⊢
  have hA : ∀ q : Nat, s.heap.size ≤ q → A q := fun q h => by rw [← hAe]; exact Or.inr h
  have hS : va_S A s.heap s.heap [] := va_S.rf
  have hl := lv_entry ([.ref h0]) (n := 6) (Nat.le_of_ble_eq_true rfl)
  rw [show entryFrame m args 6 = entryFrame m (([.ref h0] : List Value)).toArray 6 by rw [hargs], lg_entry_eq]
  generalize (lg_sl ([.ref h0]) ++ List.replicate (6 - (lg_sl ([.ref h0])).length) Slot.unset).toArray = ls at hl ⊢
  have hl : lv_has ls 6 [(0, .ref h0)] := hl
  have h2K := ct_2K K (by omega)
  have hsall := ct_sev_all K (by omega) hK2
  have hokB := ct_okB_B (ct_jc sz la K R)
  have hlen : TT.length = K - 1 := by rw [hTT]; have h9 := ct_ls_len hokB 64 (2 ^ K - 1) (by omega) (by omega) (ct_sev0 hsall); rw [ct_pop_all K (by omega)] at h9; omega
  have hprev : ct_prev (ct_B (ct_jc sz la K R)) TT := by rw [hTT]; exact ct_ls_prev hokB 64 _ (by omega) (by omega)
  have hlast : TT.getD (K - 2) 0 = 2 ^ K - 1 := by have h9 := (ct_ls_end hokB (S := 2 ^ K - 1) (by omega) hsall).2; rw [← hTT, hlen] at h9; exact h9
  have hmem : ∀ k, k < K - 1 → TT.getD k 0 < 2 ^ K := fun k hk => by
      have h9 : TT.getD k 0 ∈ TT := by
        rw [List.getD_eq_getElem?_getD, List.getElem?_eq_getElem (by omega)]; exact List.getElem_mem _
      rw [hTT] at h9
      exact ct_mem_lt hokB 64 (2 ^ K - 1) (by omega) (by omega) (by omega) _ (by rw [← hTT] at h9 ⊢; exact h9)
  generalize hv : (fun o t => f (ot o * 27 + ct_ix sz (la o).testBit 8 t)) = v
  have hvd : ∀ o, o < K → ct_dep (v o) (fun k => decide (k < 8) && (la o).testBit k) := fun o _ => by rw [← hv]; exact ct_dep_ix sz (la o) f (ot o * 27)
  have hpl : ∀ S, ct_pl sz la K R S ≤ 6561 := fun S => ct_pr_le 8 (fun k hk => by have := (hsz k hk).2; omega)
  have hlv : ∀ S, ct_lv la K R S < 256 := fun S => ct_lv_lt hla
  have hpe : ∀ S, ct_pl sz la K R S = ct_pr sz (ct_lv la K R S).testBit 8 := fun S => rfl
  have loop2 : ∀ (n k : Nat), k + n = K - 2 → ∀ (q : Nat) (gm g ge gi ga gb gt : Nat → Int32), (∀ i, i < 216 → g i = f i) → g 243 = f 243 → ct_pi sz la K R v gm g (ct_fr (fun k => ct_pl sz la K R (TT.getD k 0)) k) TT k → (ct_fr (fun k => ct_pl sz la K R (TT.getD k 0)) k) ≤ (ct_Nk N (fun k => ct_pl sz la K R (TT.getD k 0)) k) → ∀ (H : Heap) (locs : List Loc), va_P (dC, dI) ct_cl [(h0, .inr (0, [.ref z0, .ref p0, .ref r0, .int tab, .ref k1, .int (nI K), .ref k2, .ref k3, .int (nI R), .ref k4, .int pl, .int sm])), (k2, .inl (cI, 6, .inl fot)), (k4, .inl (cI, 64, .inl gm)), (p0, .inr (2, [.ref z0, .ref p1, .ref p2, .ref p3, .ref p4, .ref p5])), (p2, .inl (cI, 64, .inl fl)), (p4, .inl (cI, 64, .inl fp)), (p5, .inl (cI, 5, .inl fj)), (r0, .inr (3, [.ref z0, .ref q, .ref r2, .ref r3, .ref r4, .ref r5, .ref r6])), (q, .inl (cI, (ct_Nk N (fun k => ct_pl sz la K R (TT.getD k 0)) k), .inl g)), (r2, .inl (cI, 8, .inl ge)), (r3, .inl (cI, 8, .inl gi)), (r4, .inl (cI, 8, .inl ga)), (r5, .inl (cI, 8, .inl gb)), (r6, .inl (cI, 8, .inl gt)), (z0, .inr (1, [.ref z1])), (z1, .inl (cI, 8, .inl (fun j => nI (sz j))))] H → va_D A [(h0, .inr (0, [.ref z0, .ref p0, .ref r0, .int tab, .ref k1, .int (nI K), .ref k2, .ref k3, .int (nI R), .ref k4, .int pl, .int sm])), (k2, .inl (cI, 6, .inl fot)), (k4, .inl (cI, 64, .inl gm)), (p0, .inr (2, [.ref z0, .ref p1, .ref p2, .ref p3, .ref p4, .ref p5])), (p2, .inl (cI, 64, .inl fl)), (p4, .inl (cI, 64, .inl fp)), (p5, .inl (cI, 5, .inl fj)), (r0, .inr (3, [.ref z0, .ref q, .ref r2, .ref r3, .ref r4, .ref r5, .ref r6])), (q, .inl (cI, (ct_Nk N (fun k => ct_pl sz la K R (TT.getD k 0)) k), .inl g)), (r2, .inl (cI, 8, .inl ge)), (r3, .inl (cI, 8, .inl gi)), (r4, .inl (cI, 8, .inl ga)), (r5, .inl (cI, 8, .inl gb)), (r6, .inl (cI, 8, .inl gt)), (z0, .inr (1, [.ref z1])), (z1, .inl (cI, 8, .inl (fun j => nI (sz j))))] → va_S A s.heap H locs → ∀ (ls : Array Slot), lv_has ls 6 [(0, .ref h0), (1, .int (nI (K - 2))), (2, .int (nI (ct_fr (fun k => ct_pl sz la K R (TT.getD k 0)) k))), (3, .int (nI k))] → W p l e (headSpec w_H_followPlan ({ frames := 5, cells := (M - N), slots := (2 * (M - N)), locals := 132 } : Room)).room s m args below meth c H locs ((ct_Nk N (fun k => ct_pl sz la K R (TT.getD k 0)) k) - N) (2 * ((ct_Nk N (fun k => ct_pl sz la K R (TT.getD k 0)) k) - N)) (MQ below (va_Qv (fun (u : Nat × (Nat → Int32) × (Nat → Int32) × (Nat → Int32) × (Nat → Int32) × (Nat → Int32) × (Nat → Int32) × (Nat → Int32)) => (∀ i, i < 216 → u.2.2.1 i = f i) ∧ u.2.2.1 243 = f 243 ∧ ∀ r : Nat → Nat, (∀ k, k < 8 → R.testBit k = true → r k < sz k) → u.2.2.1 (216 + ct_ix sz R.testBit 8 r) = ct_sm sz (fun k => (ct_has la (2 ^ K - 1) K).testBit k && !R.testBit k) 8 (ct_pd v (2 ^ K - 1) K) r) (fun (u : Nat × (Nat → Int32) × (Nat → Int32) × (Nat → Int32) × (Nat → Int32) × (Nat → Int32) × (Nat → Int32) × (Nat → Int32)) t => ct_at (dC, dI) ct_cl [(cI, .int)] (A) [(h0, .inr (0, [.ref z0, .ref p0, .ref r0, .int tab, .ref k1, .int (nI K), .ref k2, .ref k3, .int (nI R), .ref k4, .int pl, .int sm])), (k2, .inl (cI, 6, .inl fot)), (k4, .inl (cI, 64, .inl (u.2.1))), (p0, .inr (2, [.ref z0, .ref p1, .ref p2, .ref p3, .ref p4, .ref p5])), (p2, .inl (cI, 64, .inl fl)), (p4, .inl (cI, 64, .inl fp)), (p5, .inl (cI, 5, .inl fj)), (r0, .inr (3, [.ref z0, .ref u.1, .ref r2, .ref r3, .ref r4, .ref r5, .ref r6])), (u.1, .inl (cI, M, .inl (u.2.2.1))), (r2, .inl (cI, 8, .inl (u.2.2.2.1))), (r3, .inl (cI, 8, .inl (u.2.2.2.2.1))), (r4, .inl (cI, 8, .inl (u.2.2.2.2.2.1))), (r5, .inl (cI, 8, .inl (u.2.2.2.2.2.2.1))), (r6, .inl (cI, 8, .inl (u.2.2.2.2.2.2.2))), (z0, .inr (1, [.ref z1])), (z1, .inl (cI, 8, .inl (fun j => nI (sz j))))] t) (A)) args s (M - N) (2 * (M - N)) A) (F0 m 46 ls []) := by
    intro n
    induction n with
    | zero =>
      intro k hk q gm g ge gi ga gb gt hg1 hg3 hpi hfN H locs hP hD hS ls hl
      refine lv_iload_n hx hb d_H_followPlan_46 rfl (lv_at hl 3 rfl) ?_
      refine lv_iload_n hx hb d_H_followPlan_47 rfl (lv_at hl 1 rfl) ?_
      have hNkM : (ct_Nk N (fun k => ct_pl sz la K R (TT.getD k 0)) k) ≤ M := by rw [hM]; exact ct_Nk_mono (K - 2) (by omega)
      have hNk := ct_Nk_max (N := N) (pl := (fun k => ct_pl sz la K R (TT.getD k 0))) hN6 k (fun j _ => hpl _) (by omega)
      have hfr := ct_fr_ge (pl := (fun k => ct_pl sz la K R (TT.getD k 0))) k
      have hNm := ct_Nk_mono (N := N) (pl := (fun k => ct_pl sz la K R (TT.getD k 0))) (k := 0) k (Nat.zero_le k)
      have hN00 : ct_Nk N (fun k => ct_pl sz la K R (TT.getD k 0)) 0 = N := rfl
      have hfj9 := hfj k (by omega)
      have hpv := hprev k (by omega)
      have hmm := hmem k (by omega)
      have hk2 : k = K - 2 := by omega
      have hkl : TT.getD k 0 = 2 ^ K - 1 := by rw [hk2]; exact hlast
      obtain ⟨hs, hS6, hpr1, hpr2⟩ := hpv
      rw [hkl] at hs hS6 hpr1 hpr2 hfj9 hmm
      have hp := hokB (2 ^ K - 1) hS6 hs
      have hpc := ct_pt_co (2 ^ K - 1) hS6 _ hp.1 hp.2
      have hp0 := ct_pt_pos hp.2
      have hpa := (ct_pt_1 hp.2).1
      refine lv_icmp_ge (tgt := 115) hx hb d_H_followPlan_48 (by decide) (fun _ => ?_) (fun hc9 => absurd (nI_le (by omega) (by omega)) hc9)
      refine lv_aload_n hx hb d_H_followPlan_115 rfl (lv_at hl 0 rfl) ?_
      refine lv_aload_n hx hb d_H_followPlan_116 rfl (lv_at hl 0 rfl) ?_
      refine va_get (D := (dC, dI)) (ci := 0) (v := .ref p0) (C := R_H) (T := T_H) (N := 12) hx hb hts (fun w h9 => ct_tl (ki_H w h9)) hown hK hP 0 rfl rfl 1 (by decide) (hts _ (ct_tl kw_115)) (fun _ h9 => h9) rfl d_H_followPlan_117 ?_
      refine lv_iload_n hx hb d_H_followPlan_120 rfl (lv_at hl 1 rfl) ?_
      refine va_calli (va_runV (As := [.int (nI (K - 2))]) (rest := [.ref h0]) ⟨hx, hb, hml, hown, hts⟩ (c_P_joinedBy l dC dI cI z0 p0 p1 p2 p3 p4 p5 fj (K - 2) (by omega)) (cwV 1 hts (ct_giV (fun w h9 => ct_tl h9) kw_428 kw_429 kw_430 kw_28 kw_431) rfl rfl rfl (by decide +kernel) ⟨Nat.le_of_ble_eq_true rfl, Nat.le_of_ble_eq_true rfl⟩) ⟨ct_ro_blind, va_recv hK hP (ci := 2) (q0 := 3) rfl rfl, ct_ro_pre (hP.sub [3, 6] rfl) hK⟩ rfl rfl hl.1 rfl (lv_room (Nat.le_of_ble_eq_true rfl)) d_H_followPlan_121 ⟨by show (ct_Nk N (fun k => ct_pl sz la K R (TT.getD k 0)) k) - N + 0 ≤ M - N; omega, by show 2 * ((ct_Nk N (fun k => ct_pl sz la K R (TT.getD k 0)) k) - N) + 0 ≤ 2 * (M - N); omega⟩) hS (fun q _ h9 => h9.elim) (fun q h9 => h9.elim) (fun ans1 uS tS H locs ht hvm hwans1 hB hz1 hk1 hS => ?_)
      have hP := ct_keep hP hk1
      refine ct_val (y := fj (K - 2)) (hwans1) ?_
      refine ct_val (y := nI (2 ^ K - 1)) (by rw [← hk2]; exact hfj9) ?_
      refine lv_sipush (v := (nI 216)) hx hb d_H_followPlan_124 (by decide) ?_
      refine lv_aload_n hx hb d_H_followPlan_127 rfl (lv_at hl 0 rfl) ?_
      refine va_get (D := (dC, dI)) (ci := 0) (v := .int (nI R)) (C := R_H) (T := T_H) (N := 12) hx hb hts (fun w h9 => ct_tl (ki_H w h9)) hown hK hP 0 rfl rfl 8 (by decide) (hts _ (ct_tl kw_122)) (fun _ h9 => h9) rfl d_H_followPlan_128 ?_
      obtain ⟨xa, hxa1, hxa2, hxa3⟩ := hpi (ct_B (ct_jc sz la K R) (2 ^ K - 1)).2 hp0 (by omega) (by
            cases hq : ct_sev (ct_B (ct_jc sz la K R) (2 ^ K - 1)).2 with
            | false => exact Or.inl rfl
            | true => exact Or.inr (hpr1 hq))
      obtain ⟨xb, hxb1, hxb2, hxb3⟩ := hpi ((2 ^ K - 1) ^^^ (ct_B (ct_jc sz la K R) (2 ^ K - 1)).2) hpc.1 (by omega) (by
            cases hq : ct_sev ((2 ^ K - 1) ^^^ (ct_B (ct_jc sz la K R) (2 ^ K - 1)).2) with
            | false => exact Or.inl rfl
            | true => exact Or.inr (hpr2 hq))
      have hMk : (ct_Nk N (fun k => ct_pl sz la K R (TT.getD k 0)) k) = M := by rw [hM, hk2]
      have hPc := hP.sub (ws' := [(h0, .inr (0, [.ref z0, .ref p0, .ref r0, .int tab, .ref k1, .int (nI K), .ref k2, .ref k3, .int (nI R), .ref k4, .int pl, .int sm])), (k4, .inl (cI, 64, .inl gm)), (p0, .inr (2, [.ref z0, .ref p1, .ref p2, .ref p3, .ref p4, .ref p5])), (p2, .inl (cI, 64, .inl fl)), (p4, .inl (cI, 64, .inl fp)), (r0, .inr (3, [.ref z0, .ref q, .ref r2, .ref r3, .ref r4, .ref r5, .ref r6])), (q, .inl (cI, (ct_Nk N (fun k => ct_pl sz la K R (TT.getD k 0)) k), .inl g)), (r2, .inl (cI, 8, .inl ge)), (r3, .inl (cI, 8, .inl gi)), (r4, .inl (cI, 8, .inl ga)), (r5, .inl (cI, 8, .inl gb)), (r6, .inl (cI, 8, .inl gt)), (z0, .inr (1, [.ref z1])), (z1, .inl (cI, 8, .inl (fun j => nI (sz j))))]) [0, 2, 3, 4, 5, 7, 8, 9, 10, 11, 12, 13, 14, 15] rfl
      have hDc := hD.sub (ws' := [(h0, .inr (0, [.ref z0, .ref p0, .ref r0, .int tab, .ref k1, .int (nI K), .ref k2, .ref k3, .int (nI R), .ref k4, .int pl, .int sm])), (k4, .inl (cI, 64, .inl gm)), (p0, .inr (2, [.ref z0, .ref p1, .ref p2, .ref p3, .ref p4, .ref p5])), (p2, .inl (cI, 64, .inl fl)), (p4, .inl (cI, 64, .inl fp)), (r0, .inr (3, [.ref z0, .ref q, .ref r2, .ref r3, .ref r4, .ref r5, .ref r6])), (q, .inl (cI, (ct_Nk N (fun k => ct_pl sz la K R (TT.getD k 0)) k), .inl g)), (r2, .inl (cI, 8, .inl ge)), (r3, .inl (cI, 8, .inl gi)), (r4, .inl (cI, 8, .inl ga)), (r5, .inl (cI, 8, .inl gb)), (r6, .inl (cI, 8, .inl gt)), (z0, .inr (1, [.ref z1])), (z1, .inl (cI, 8, .inl (fun j => nI (sz j))))]) [0, 2, 3, 4, 5, 7, 8, 9, 10, 11, 12, 13, 14, 15] (by decide) rfl
      have hFc := va_free (wc := [(h0, .inr (0, [.ref z0, .ref p0, .ref r0, .int tab, .ref k1, .int (nI K), .ref k2, .ref k3, .int (nI R), .ref k4, .int pl, .int sm])), (k4, .inl (cI, 64, .inl gm)), (p0, .inr (2, [.ref z0, .ref p1, .ref p2, .ref p3, .ref p4, .ref p5])), (p2, .inl (cI, 64, .inl fl)), (p4, .inl (cI, 64, .inl fp)), (r0, .inr (3, [.ref z0, .ref q, .ref r2, .ref r3, .ref r4, .ref r5, .ref r6])), (q, .inl (cI, (ct_Nk N (fun k => ct_pl sz la K R (TT.getD k 0)) k), .inl g)), (r2, .inl (cI, 8, .inl ge)), (r3, .inl (cI, 8, .inl gi)), (r4, .inl (cI, 8, .inl ga)), (r5, .inl (cI, 8, .inl gb)), (r6, .inl (cI, 8, .inl gt)), (z0, .inr (1, [.ref z1])), (z1, .inl (cI, 8, .inl (fun j => nI (sz j))))]) hD hS hA [0, 2, 3, 4, 5, 7, 8, 9, 10, 11, 12, 13, 14, 15] rfl
      refine va_callv (va_runV (As := [.int (nI (2 ^ K - 1)), .int (nI 216), .int (nI R)]) (rest := []) ⟨hx, hb, hml, hown, hts⟩ (c_H_joinParts l dC dI cI z1 sz p1 p2 p3 p4 p5 h0 z0 p0 r0 k1 k2 k3 k4 q r2 r3 r4 r5 r6 tab (nI K) (nI R) pl sm (ct_Nk N (fun k => ct_pl sz la K R (TT.getD k 0)) k) gm fl fp g ge gi ga gb gt (2 ^ K - 1) (ct_B (ct_jc sz la K R) (2 ^ K - 1)).2 216 R (ct_lv la K R (ct_B (ct_jc sz la K R) (2 ^ K - 1)).2) (ct_lv la K R ((2 ^ K - 1) ^^^ (ct_B (ct_jc sz la K R) (2 ^ K - 1)).2)) xa xb hS6 (by omega) (by omega) (hfp _ (by omega) hs) (hfl _ hp0 (by omega)) (hfl _ hpc.1 (by omega)) hxa1 hxb1 (hlv _) (hlv _) hR hsz (by omega) (by have := hpe (ct_B (ct_jc sz la K R) (2 ^ K - 1)).2; omega) (by have := hpe ((2 ^ K - 1) ^^^ (ct_B (ct_jc sz la K R) (2 ^ K - 1)).2); omega) (by omega) (by have := hpe (ct_B (ct_jc sz la K R) (2 ^ K - 1)).2; omega) (by have := hpe ((2 ^ K - 1) ^^^ (ct_B (ct_jc sz la K R) (2 ^ K - 1)).2); omega) H.size) (cwV 3 hts (ct_giV (fun w h9 => ct_tl h9) kw_498 kw_500 kw_14 kw_26 kw_501) rfl rfl rfl (by decide +kernel) ⟨Nat.le_of_ble_eq_true rfl, Nat.le_of_ble_eq_true rfl⟩) ⟨ct_rw_blind, va_recv hK hP (ci := 0) (q0 := 0) rfl rfl, ct_rw_pre hPc hK hDc⟩ rfl rfl hl.1 rfl (lv_room (Nat.le_of_ble_eq_true rfl)) d_H_followPlan_131 ⟨by show (ct_Nk N (fun k => ct_pl sz la K R (TT.getD k 0)) k) - N + 0 ≤ M - N; omega, by show 2 * ((ct_Nk N (fun k => ct_pl sz la K R (TT.getD k 0)) k) - N) + 0 ≤ 2 * (M - N); omega⟩) hS (fun q _ h9 => hFc q h9) hFc (fun ⟨g2, ge2, gi2, ga2, gb2, gt2⟩ tS H1 locs ht hvm hj hB hz1 hk1 hS => ?_)
      obtain ⟨hP1, -, hD1⟩ := hB
      rw [ht] at hP1
      obtain ⟨hP, hD⟩ := va_join (wr := [(k2, .inl (cI, 6, .inl fot)), (p5, .inl (cI, 5, .inl fj))]) (w1 := [(h0, .inr (0, [.ref z0, .ref p0, .ref r0, .int tab, .ref k1, .int (nI K), .ref k2, .ref k3, .int (nI R), .ref k4, .int pl, .int sm])), (k4, .inl (cI, 64, .inl (upd gm (2 ^ K - 1) (nI 216)))), (p0, .inr (2, [.ref z0, .ref p1, .ref p2, .ref p3, .ref p4, .ref p5])), (p2, .inl (cI, 64, .inl fl)), (p4, .inl (cI, 64, .inl fp)), (r0, .inr (3, [.ref z0, .ref q, .ref r2, .ref r3, .ref r4, .ref r5, .ref r6])), (q, .inl (cI, (ct_Nk N (fun k => ct_pl sz la K R (TT.getD k 0)) k), .inl g2)), (r2, .inl (cI, 8, .inl ge2)), (r3, .inl (cI, 8, .inl gi2)), (r4, .inl (cI, 8, .inl ga2)), (r5, .inl (cI, 8, .inl gb2)), (r6, .inl (cI, 8, .inl gt2)), (z0, .inr (1, [.ref z1])), (z1, .inl (cI, 8, .inl (fun j => nI (sz j))))]) hP hD [0, 2, 3, 4, 5, 7, 8, 9, 10, 11, 12, 13, 14, 15] [1, 6] rfl rfl (by decide) (by decide) hk1 hFc hP1 hD1
      generalize H1 = H at hP hS ⊢
      have hP : va_P (dC, dI) ct_cl [(k2, .inl (cI, 6, .inl fot)), (p5, .inl (cI, 5, .inl fj)), (h0, .inr (0, [.ref z0, .ref p0, .ref r0, .int tab, .ref k1, .int (nI K), .ref k2, .ref k3, .int (nI R), .ref k4, .int pl, .int sm])), (k4, .inl (cI, 64, .inl (upd gm (2 ^ K - 1) (nI 216)))), (p0, .inr (2, [.ref z0, .ref p1, .ref p2, .ref p3, .ref p4, .ref p5])), (p2, .inl (cI, 64, .inl fl)), (p4, .inl (cI, 64, .inl fp)), (r0, .inr (3, [.ref z0, .ref q, .ref r2, .ref r3, .ref r4, .ref r5, .ref r6])), (q, .inl (cI, (ct_Nk N (fun k => ct_pl sz la K R (TT.getD k 0)) k), .inl g2)), (r2, .inl (cI, 8, .inl ge2)), (r3, .inl (cI, 8, .inl gi2)), (r4, .inl (cI, 8, .inl ga2)), (r5, .inl (cI, 8, .inl gb2)), (r6, .inl (cI, 8, .inl gt2)), (z0, .inr (1, [.ref z1])), (z1, .inl (cI, 8, .inl (fun j => nI (sz j))))] H := hP
      have hD : va_D A [(k2, .inl (cI, 6, .inl fot)), (p5, .inl (cI, 5, .inl fj)), (h0, .inr (0, [.ref z0, .ref p0, .ref r0, .int tab, .ref k1, .int (nI K), .ref k2, .ref k3, .int (nI R), .ref k4, .int pl, .int sm])), (k4, .inl (cI, 64, .inl (upd gm (2 ^ K - 1) (nI 216)))), (p0, .inr (2, [.ref z0, .ref p1, .ref p2, .ref p3, .ref p4, .ref p5])), (p2, .inl (cI, 64, .inl fl)), (p4, .inl (cI, 64, .inl fp)), (r0, .inr (3, [.ref z0, .ref q, .ref r2, .ref r3, .ref r4, .ref r5, .ref r6])), (q, .inl (cI, (ct_Nk N (fun k => ct_pl sz la K R (TT.getD k 0)) k), .inl g2)), (r2, .inl (cI, 8, .inl ge2)), (r3, .inl (cI, 8, .inl gi2)), (r4, .inl (cI, 8, .inl ga2)), (r5, .inl (cI, 8, .inl gb2)), (r6, .inl (cI, 8, .inl gt2)), (z0, .inr (1, [.ref z1])), (z1, .inl (cI, 8, .inl (fun j => nI (sz j))))] := hD
      rw [hMk] at hP hD ⊢
      have hP9 := hP.sub [2, 0, 3, 4, 5, 6, 1, 7, 8, 9, 10, 11, 12, 13, 14, 15] rfl
      exact W.vret hx hb hr (fun tS ht hW => ⟨⟨(q, upd gm (2 ^ K - 1) (nI 216), g2, ge2, gi2, ga2, gb2, gt2), rfl, ⟨fun i h9 => by rw [← hg1 i h9]; exact hj.1 i (by omega), by rw [← hg3]; exact hj.1 243 (by omega), fun r hr => by rw [ct_join_vs hj hxa3 hxb3 r hr]; exact ct_vs_last hK6 hvd hpa r⟩, by rw [ht]; exact hP9, va_K.moved hW.alike hK, hD.sub [2, 0, 3, 4, 5, 6, 1, 7, 8, 9, 10, 11, 12, 13, 14, 15] (by decide) rfl⟩, hS.F ht⟩) hS.2.2 d_H_followPlan_134
    | succ n ih =>
      intro k hk q gm g ge gi ga gb gt hg1 hg3 hpi hfN H locs hP hD hS ls hl
      refine lv_iload_n hx hb d_H_followPlan_46 rfl (lv_at hl 3 rfl) ?_
      refine lv_iload_n hx hb d_H_followPlan_47 rfl (lv_at hl 1 rfl) ?_
      have hNkM : (ct_Nk N (fun k => ct_pl sz la K R (TT.getD k 0)) k) ≤ M := by rw [hM]; exact ct_Nk_mono (K - 2) (by omega)
      have hNk := ct_Nk_max (N := N) (pl := (fun k => ct_pl sz la K R (TT.getD k 0))) hN6 k (fun j _ => hpl _) (by omega)
      have hfr := ct_fr_ge (pl := (fun k => ct_pl sz la K R (TT.getD k 0))) k
      have hNm := ct_Nk_mono (N := N) (pl := (fun k => ct_pl sz la K R (TT.getD k 0))) (k := 0) k (Nat.zero_le k)
      have hN00 : ct_Nk N (fun k => ct_pl sz la K R (TT.getD k 0)) 0 = N := rfl
      have hfj9 := hfj k (by omega)
      have hpv := hprev k (by omega)
      have hmm := hmem k (by omega)
      have hkl : ∃ S, TT.getD k 0 = S := ⟨_, rfl⟩
      obtain ⟨S, hkl⟩ := hkl
      obtain ⟨hs, hS6, hpr1, hpr2⟩ := hpv
      rw [hkl] at hs hS6 hpr1 hpr2 hfj9 hmm
      have hp := hokB S hS6 hs
      have hpc := ct_pt_co S hS6 _ hp.1 hp.2
      have hp0 := ct_pt_pos hp.2
      have hpa := (ct_pt_1 hp.2).1
      have hfs : (ct_fr (fun k => ct_pl sz la K R (TT.getD k 0)) (k + 1)) = (ct_fr (fun k => ct_pl sz la K R (TT.getD k 0)) k) + ct_pl sz la K R S := by show (ct_fr (fun k => ct_pl sz la K R (TT.getD k 0)) k) + ct_pl sz la K R (TT.getD k 0) = _; rw [hkl]
      have hNk1 := ct_Nk_max (N := N) (pl := (fun k => ct_pl sz la K R (TT.getD k 0))) hN6 (k + 1) (fun j _ => hpl _) (by omega)
      have hNl := ct_Nk_le (N := N) (pl := (fun k => ct_pl sz la K R (TT.getD k 0))) k
      have hNM := ct_Nk_mono (N := N) (pl := (fun k => ct_pl sz la K R (TT.getD k 0))) (k := k + 1) (K - 2) (by omega)
      rw [← hM] at hNM
      have hfl4 := ct_fr_le (pl := (fun k => ct_pl sz la K R (TT.getD k 0))) (k + 1) (fun j _ => hpl _)
      refine lv_icmp_ge (tgt := 115) hx hb d_H_followPlan_48 (by decide) (fun hc9 => absurd hc9 (nI_ge (by omega) (by omega))) (fun _ => ?_)
      refine lv_aload_n hx hb d_H_followPlan_51 rfl (lv_at hl 0 rfl) ?_
      refine va_get (D := (dC, dI)) (ci := 0) (v := .ref p0) (C := R_H) (T := T_H) (N := 12) hx hb hts (fun w h9 => ct_tl (ki_H w h9)) hown hK hP 0 rfl rfl 1 (by decide) (hts _ (ct_tl kw_115)) (fun _ h9 => h9) rfl d_H_followPlan_52 ?_
      refine lv_iload_n hx hb d_H_followPlan_55 rfl (lv_at hl 3 rfl) ?_
      refine va_calli (va_runV (As := [.int (nI k)]) (rest := []) ⟨hx, hb, hml, hown, hts⟩ (c_P_joinedBy l dC dI cI z0 p0 p1 p2 p3 p4 p5 fj k (by omega)) (cwV 1 hts (ct_giV (fun w h9 => ct_tl h9) kw_428 kw_429 kw_430 kw_28 kw_431) rfl rfl rfl (by decide +kernel) ⟨Nat.le_of_ble_eq_true rfl, Nat.le_of_ble_eq_true rfl⟩) ⟨ct_ro_blind, va_recv hK hP (ci := 2) (q0 := 3) rfl rfl, ct_ro_pre (hP.sub [3, 6] rfl) hK⟩ rfl rfl hl.1 rfl (lv_room (Nat.le_of_ble_eq_true rfl)) d_H_followPlan_56 ⟨by show (ct_Nk N (fun k => ct_pl sz la K R (TT.getD k 0)) k) - N + 0 ≤ M - N; omega, by show 2 * ((ct_Nk N (fun k => ct_pl sz la K R (TT.getD k 0)) k) - N) + 0 ≤ 2 * (M - N); omega⟩) hS (fun q _ h9 => h9.elim) (fun q h9 => h9.elim) (fun ans1 uS tS H locs ht hvm hwans1 hB hz1 hk1 hS => ?_)
      have hP := ct_keep hP hk1
      refine ct_val (y := fj k) (hwans1) ?_
      refine ct_val (y := nI S) hfj9 ?_
      refine lv_istore (lv' := [(4, .int (nI S)), (0, .ref h0), (1, .int (nI (K - 2))), (2, .int (nI (ct_fr (fun k => ct_pl sz la K R (TT.getD k 0)) k))), (3, .int (nI k))]) hx hb d_H_followPlan_59 hl (by decide) rfl (fun ls hl => ?_)
      refine lv_iload_n hx hb d_H_followPlan_61 rfl (lv_at hl 3 rfl) ?_
      refine lv_aload_n hx hb d_H_followPlan_62 rfl (lv_at hl 1 rfl) ?_
      refine va_get (D := (dC, dI)) (ci := 0) (v := .ref z0) (C := R_H) (T := T_H) (N := 12) hx hb hts (fun w h9 => ct_tl (ki_H w h9)) hown hK hP 0 rfl rfl 0 (by decide) (hts _ (ct_tl kw_114)) (fun _ h9 => h9) rfl d_H_followPlan_63 ?_
      refine lv_aload_n hx hb d_H_followPlan_66 rfl (lv_at hl 1 rfl) ?_
      refine va_get (D := (dC, dI)) (ci := 0) (v := .ref p0) (C := R_H) (T := T_H) (N := 12) hx hb hts (fun w h9 => ct_tl (ki_H w h9)) hown hK hP 0 rfl rfl 1 (by decide) (hts _ (ct_tl kw_115)) (fun _ h9 => h9) rfl d_H_followPlan_67 ?_
      refine lv_iload hx hb d_H_followPlan_70 (lv_at hl 0 rfl) ?_
      refine va_calli (va_runV (As := [.int (nI S)]) (rest := [.ref z0, .int (nI (ct_fr (fun k => ct_pl sz la K R (TT.getD k 0)) k))]) ⟨hx, hb, hml, hown, hts⟩ (c_P_leavesOf l dC dI cI z0 p0 p1 p2 p3 p4 p5 fl S hS6) (cwV 1 hts (ct_giV (fun w h9 => ct_tl h9) kw_471 kw_472 kw_473 kw_28 kw_474) rfl rfl rfl (by decide +kernel) ⟨Nat.le_of_ble_eq_true rfl, Nat.le_of_ble_eq_true rfl⟩) ⟨ct_ro_blind, va_recv hK hP (ci := 2) (q0 := 3) rfl rfl, ct_ro_pre (hP.sub [3, 4] rfl) hK⟩ rfl rfl hl.1 rfl (lv_room (Nat.le_of_ble_eq_true rfl)) d_H_followPlan_72 ⟨by show (ct_Nk N (fun k => ct_pl sz la K R (TT.getD k 0)) k) - N + 0 ≤ M - N; omega, by show 2 * ((ct_Nk N (fun k => ct_pl sz la K R (TT.getD k 0)) k) - N) + 0 ≤ 2 * (M - N); omega⟩) hS (fun q _ h9 => h9.elim) (fun q h9 => h9.elim) (fun ans2 uS tS H locs ht hvm hwans2 hB hz1 hk1 hS => ?_)
      have hP := ct_keep hP hk1
      refine ct_val (y := fl S) (hwans2) ?_
      refine ct_val (y := nI (ct_lv la K R S)) (hfl S (by omega) hmm) ?_
      refine va_calli (va_runV (As := [.int (nI (ct_lv la K R S))]) (rest := [.int (nI (ct_fr (fun k => ct_pl sz la K R (TT.getD k 0)) k))]) ⟨hx, hb, hml, hown, hts⟩ (c_S_choices l dC dI cI z0 z1 sz (ct_lv la K R S) (Nat.lt_trans (hlv S) (by omega))) (cwV 1 hts (ct_giV (fun w h9 => ct_tl h9) kw_384 kw_195 kw_196 kw_27 kw_197) rfl rfl rfl (by decide +kernel) ⟨Nat.le_of_ble_eq_true rfl, Nat.le_of_ble_eq_true rfl⟩) ⟨ct_ro_blind, va_recv hK hP (ci := 1) (q0 := 14) rfl rfl, ct_ro_pre (hP.sub [14, 15] rfl) hK⟩ rfl rfl hl.1 rfl (lv_room (Nat.le_of_ble_eq_true rfl)) d_H_followPlan_75 ⟨by show (ct_Nk N (fun k => ct_pl sz la K R (TT.getD k 0)) k) - N + 0 ≤ M - N; omega, by show 2 * ((ct_Nk N (fun k => ct_pl sz la K R (TT.getD k 0)) k) - N) + 0 ≤ 2 * (M - N); omega⟩) hS (fun q _ h9 => h9.elim) (fun q h9 => h9.elim) (fun ans3 uS tS H locs ht hvm hwans3 hB hz1 hk1 hS => ?_)
      have hP := ct_keep hP hk1
      refine ct_val (y := nI (ct_pr sz ((ct_lv la K R S)).testBit 8)) (hwans3) ?_
      refine lv_iadd hx hb d_H_followPlan_78 ?_
      refine ct_val (y := nI (ct_fr (fun k => ct_pl sz la K R (TT.getD k 0)) (k + 1))) (by rw [hfs]; exact nI_add _ _) ?_
      refine lv_istore (lv' := [(5, .int (nI (ct_fr (fun k => ct_pl sz la K R (TT.getD k 0)) (k + 1)))), (4, .int (nI S)), (0, .ref h0), (1, .int (nI (K - 2))), (2, .int (nI (ct_fr (fun k => ct_pl sz la K R (TT.getD k 0)) k))), (3, .int (nI k))]) hx hb d_H_followPlan_79 hl (by decide) rfl (fun ls hl => ?_)
      refine lv_aload_n hx hb d_H_followPlan_81 rfl (lv_at hl 2 rfl) ?_
      refine va_get (D := (dC, dI)) (ci := 0) (v := .ref r0) (C := R_H) (T := T_H) (N := 12) hx hb hts (fun w h9 => ct_tl (ki_H w h9)) hown hK hP 0 rfl rfl 2 (by decide) (hts _ (ct_tl kw_116)) (fun _ h9 => h9) rfl d_H_followPlan_82 ?_
      refine lv_iload hx hb d_H_followPlan_85 (lv_at hl 0 rfl) ?_
      by_cases hst9 : (ct_fr (fun k => ct_pl sz la K R (TT.getD k 0)) (k + 1)) ≤ (ct_Nk N (fun k => ct_pl sz la K R (TT.getD k 0)) k)
      · have hPc := hP.sub (ws' := [(r0, .inr (3, [.ref z0, .ref q, .ref r2, .ref r3, .ref r4, .ref r5, .ref r6])), (q, .inl (cI, (ct_Nk N (fun k => ct_pl sz la K R (TT.getD k 0)) k), .inl g))]) [7, 8] rfl
        have hDc := hD.sub (ws' := [(r0, .inr (3, [.ref z0, .ref q, .ref r2, .ref r3, .ref r4, .ref r5, .ref r6])), (q, .inl (cI, (ct_Nk N (fun k => ct_pl sz la K R (TT.getD k 0)) k), .inl g))]) [7, 8] (by decide) rfl
        have hFc := va_free (wc := [(r0, .inr (3, [.ref z0, .ref q, .ref r2, .ref r3, .ref r4, .ref r5, .ref r6])), (q, .inl (cI, (ct_Nk N (fun k => ct_pl sz la K R (TT.getD k 0)) k), .inl g))]) hD hS hA [7, 8] rfl
        refine va_callv (va_runV (As := [.int (nI (ct_fr (fun k => ct_pl sz la K R (TT.getD k 0)) (k + 1)))]) (rest := []) ⟨hx, hb, hml, hown, hts⟩ (c_R_reserve_no l dC dI cI z0 r0 q r2 r3 r4 r5 r6 (ct_Nk N (fun k => ct_pl sz la K R (TT.getD k 0)) k) g (ct_fr (fun k => ct_pl sz la K R (TT.getD k 0)) (k + 1)) (by omega) hst9 H.size) (cwV 1 hts (ct_giV (fun w h9 => ct_tl h9) kw_475 kw_476 kw_477 kw_29 kw_478) rfl rfl rfl (by decide +kernel) ⟨Nat.le_of_ble_eq_true rfl, Nat.le_of_ble_eq_true rfl⟩) ⟨ct_rw_blind, va_recv hK hP (ci := 3) (q0 := 7) rfl rfl, ct_rw_pre hPc hK hDc⟩ rfl rfl hl.1 rfl (lv_room (Nat.le_of_ble_eq_true rfl)) d_H_followPlan_87 ⟨by show (ct_Nk N (fun k => ct_pl sz la K R (TT.getD k 0)) k) - N + 0 ≤ M - N; omega, by show 2 * ((ct_Nk N (fun k => ct_pl sz la K R (TT.getD k 0)) k) - N) + 0 ≤ 2 * (M - N); omega⟩) hS (fun q _ h9 => hFc q h9) hFc (fun u tS H1 locs ht hvm hw104 hB hz1 hk1 hS => ?_)
        obtain ⟨hP1, -, hD1⟩ := hB
        rw [ht] at hP1
        obtain ⟨hP, hD⟩ := va_join (wr := [(h0, .inr (0, [.ref z0, .ref p0, .ref r0, .int tab, .ref k1, .int (nI K), .ref k2, .ref k3, .int (nI R), .ref k4, .int pl, .int sm])), (k2, .inl (cI, 6, .inl fot)), (k4, .inl (cI, 64, .inl gm)), (p0, .inr (2, [.ref z0, .ref p1, .ref p2, .ref p3, .ref p4, .ref p5])), (p2, .inl (cI, 64, .inl fl)), (p4, .inl (cI, 64, .inl fp)), (p5, .inl (cI, 5, .inl fj)), (r2, .inl (cI, 8, .inl ge)), (r3, .inl (cI, 8, .inl gi)), (r4, .inl (cI, 8, .inl ga)), (r5, .inl (cI, 8, .inl gb)), (r6, .inl (cI, 8, .inl gt)), (z0, .inr (1, [.ref z1])), (z1, .inl (cI, 8, .inl (fun j => nI (sz j))))]) (w1 := [(r0, .inr (3, [.ref z0, .ref q, .ref r2, .ref r3, .ref r4, .ref r5, .ref r6])), (q, .inl (cI, (ct_Nk N (fun k => ct_pl sz la K R (TT.getD k 0)) k), .inl g))]) hP hD [7, 8] [0, 1, 2, 3, 4, 5, 6, 9, 10, 11, 12, 13, 14, 15] rfl rfl (by decide) (by decide) hk1 hFc hP1 hD1
        generalize H1 = H at hP hS ⊢
        have hP : va_P (dC, dI) ct_cl [(h0, .inr (0, [.ref z0, .ref p0, .ref r0, .int tab, .ref k1, .int (nI K), .ref k2, .ref k3, .int (nI R), .ref k4, .int pl, .int sm])), (k2, .inl (cI, 6, .inl fot)), (k4, .inl (cI, 64, .inl gm)), (p0, .inr (2, [.ref z0, .ref p1, .ref p2, .ref p3, .ref p4, .ref p5])), (p2, .inl (cI, 64, .inl fl)), (p4, .inl (cI, 64, .inl fp)), (p5, .inl (cI, 5, .inl fj)), (r2, .inl (cI, 8, .inl ge)), (r3, .inl (cI, 8, .inl gi)), (r4, .inl (cI, 8, .inl ga)), (r5, .inl (cI, 8, .inl gb)), (r6, .inl (cI, 8, .inl gt)), (z0, .inr (1, [.ref z1])), (z1, .inl (cI, 8, .inl (fun j => nI (sz j)))), (r0, .inr (3, [.ref z0, .ref q, .ref r2, .ref r3, .ref r4, .ref r5, .ref r6])), (q, .inl (cI, (ct_Nk N (fun k => ct_pl sz la K R (TT.getD k 0)) k), .inl g))] H := hP
        have hD : va_D A [(h0, .inr (0, [.ref z0, .ref p0, .ref r0, .int tab, .ref k1, .int (nI K), .ref k2, .ref k3, .int (nI R), .ref k4, .int pl, .int sm])), (k2, .inl (cI, 6, .inl fot)), (k4, .inl (cI, 64, .inl gm)), (p0, .inr (2, [.ref z0, .ref p1, .ref p2, .ref p3, .ref p4, .ref p5])), (p2, .inl (cI, 64, .inl fl)), (p4, .inl (cI, 64, .inl fp)), (p5, .inl (cI, 5, .inl fj)), (r2, .inl (cI, 8, .inl ge)), (r3, .inl (cI, 8, .inl gi)), (r4, .inl (cI, 8, .inl ga)), (r5, .inl (cI, 8, .inl gb)), (r6, .inl (cI, 8, .inl gt)), (z0, .inr (1, [.ref z1])), (z1, .inl (cI, 8, .inl (fun j => nI (sz j)))), (r0, .inr (3, [.ref z0, .ref q, .ref r2, .ref r3, .ref r4, .ref r5, .ref r6])), (q, .inl (cI, (ct_Nk N (fun k => ct_pl sz la K R (TT.getD k 0)) k), .inl g))] := hD
        have hNe : (ct_Nk N (fun k => ct_pl sz la K R (TT.getD k 0)) (k + 1)) = (ct_Nk N (fun k => ct_pl sz la K R (TT.getD k 0)) k) := if_pos hst9
        have hg9 : ∀ i, (i < 216 ∨ (244 ≤ i ∧ i < (ct_fr (fun k => ct_pl sz la K R (TT.getD k 0)) k))) → g i = g i := fun _ _ => rfl
        have hgg1 := hg1
        have hgg3 := hg3
        rw [← hNe] at hP hD ⊢
        have hpi2 : ct_pi sz la K R v gm g (ct_fr (fun k => ct_pl sz la K R (TT.getD k 0)) k) TT k := ct_pi_cells hpi hg9
        clear hpi
        have hpi := hpi2
        refine lv_aload_n hx hb d_H_followPlan_90 rfl (lv_at hl 2 rfl) ?_
        refine lv_iload hx hb d_H_followPlan_91 (lv_at hl 1 rfl) ?_
        refine lv_iload_n hx hb d_H_followPlan_93 rfl (lv_at hl 4 rfl) ?_
        refine lv_aload_n hx hb d_H_followPlan_94 rfl (lv_at hl 2 rfl) ?_
        refine va_get (D := (dC, dI)) (ci := 0) (v := .ref p0) (C := R_H) (T := T_H) (N := 12) hx hb hts (fun w h9 => ct_tl (ki_H w h9)) hown hK hP 0 rfl rfl 1 (by decide) (hts _ (ct_tl kw_115)) (fun _ h9 => h9) rfl d_H_followPlan_95 ?_
        refine lv_iload hx hb d_H_followPlan_98 (lv_at hl 1 rfl) ?_
        refine va_calli (va_runV (As := [.int (nI S)]) (rest := [.int (nI (ct_fr (fun k => ct_pl sz la K R (TT.getD k 0)) k)), .int (nI S), .ref h0]) ⟨hx, hb, hml, hown, hts⟩ (c_P_leavesOf l dC dI cI z0 p0 p1 p2 p3 p4 p5 fl S hS6) (cwV 1 hts (ct_giV (fun w h9 => ct_tl h9) kw_471 kw_472 kw_473 kw_28 kw_474) rfl rfl rfl (by decide +kernel) ⟨Nat.le_of_ble_eq_true rfl, Nat.le_of_ble_eq_true rfl⟩) ⟨ct_ro_blind, va_recv hK hP (ci := 2) (q0 := 3) rfl rfl, ct_ro_pre (hP.sub [3, 4] rfl) hK⟩ rfl rfl hl.1 rfl (lv_room (Nat.le_of_ble_eq_true rfl)) d_H_followPlan_100 ⟨by show (ct_Nk N (fun k => ct_pl sz la K R (TT.getD k 0)) (k + 1)) - N + 0 ≤ M - N; omega, by show 2 * ((ct_Nk N (fun k => ct_pl sz la K R (TT.getD k 0)) (k + 1)) - N) + 0 ≤ 2 * (M - N); omega⟩) hS (fun q _ h9 => h9.elim) (fun q h9 => h9.elim) (fun ans105 uS tS H locs ht hvm hwans105 hB hz1 hk1 hS => ?_)
        have hP := ct_keep hP hk1
        refine ct_val (y := fl S) (hwans105) ?_
        refine ct_val (y := nI (ct_lv la K R S)) (hfl S (by omega) hmm) ?_
        obtain ⟨xa, hxa1, hxa2, hxa3⟩ := hpi (ct_B (ct_jc sz la K R) S).2 hp0 (by omega) (by
              cases hq : ct_sev (ct_B (ct_jc sz la K R) S).2 with
              | false => exact Or.inl rfl
              | true => exact Or.inr (hpr1 hq))
        obtain ⟨xb, hxb1, hxb2, hxb3⟩ := hpi (S ^^^ (ct_B (ct_jc sz la K R) S).2) hpc.1 (by omega) (by
              cases hq : ct_sev (S ^^^ (ct_B (ct_jc sz la K R) S).2) with
              | false => exact Or.inl rfl
              | true => exact Or.inr (hpr2 hq))
        have hpS := hpe S
        have hPc := hP.sub (ws' := [(h0, .inr (0, [.ref z0, .ref p0, .ref r0, .int tab, .ref k1, .int (nI K), .ref k2, .ref k3, .int (nI R), .ref k4, .int pl, .int sm])), (k4, .inl (cI, 64, .inl gm)), (p0, .inr (2, [.ref z0, .ref p1, .ref p2, .ref p3, .ref p4, .ref p5])), (p2, .inl (cI, 64, .inl fl)), (p4, .inl (cI, 64, .inl fp)), (r0, .inr (3, [.ref z0, .ref q, .ref r2, .ref r3, .ref r4, .ref r5, .ref r6])), (q, .inl (cI, (ct_Nk N (fun k => ct_pl sz la K R (TT.getD k 0)) (k + 1)), .inl g)), (r2, .inl (cI, 8, .inl ge)), (r3, .inl (cI, 8, .inl gi)), (r4, .inl (cI, 8, .inl ga)), (r5, .inl (cI, 8, .inl gb)), (r6, .inl (cI, 8, .inl gt)), (z0, .inr (1, [.ref z1])), (z1, .inl (cI, 8, .inl (fun j => nI (sz j))))]) [0, 2, 3, 4, 5, 14, 15, 7, 8, 9, 10, 11, 12, 13] rfl
        have hDc := hD.sub (ws' := [(h0, .inr (0, [.ref z0, .ref p0, .ref r0, .int tab, .ref k1, .int (nI K), .ref k2, .ref k3, .int (nI R), .ref k4, .int pl, .int sm])), (k4, .inl (cI, 64, .inl gm)), (p0, .inr (2, [.ref z0, .ref p1, .ref p2, .ref p3, .ref p4, .ref p5])), (p2, .inl (cI, 64, .inl fl)), (p4, .inl (cI, 64, .inl fp)), (r0, .inr (3, [.ref z0, .ref q, .ref r2, .ref r3, .ref r4, .ref r5, .ref r6])), (q, .inl (cI, (ct_Nk N (fun k => ct_pl sz la K R (TT.getD k 0)) (k + 1)), .inl g)), (r2, .inl (cI, 8, .inl ge)), (r3, .inl (cI, 8, .inl gi)), (r4, .inl (cI, 8, .inl ga)), (r5, .inl (cI, 8, .inl gb)), (r6, .inl (cI, 8, .inl gt)), (z0, .inr (1, [.ref z1])), (z1, .inl (cI, 8, .inl (fun j => nI (sz j))))]) [0, 2, 3, 4, 5, 14, 15, 7, 8, 9, 10, 11, 12, 13] (by decide) rfl
        have hFc := va_free (wc := [(h0, .inr (0, [.ref z0, .ref p0, .ref r0, .int tab, .ref k1, .int (nI K), .ref k2, .ref k3, .int (nI R), .ref k4, .int pl, .int sm])), (k4, .inl (cI, 64, .inl gm)), (p0, .inr (2, [.ref z0, .ref p1, .ref p2, .ref p3, .ref p4, .ref p5])), (p2, .inl (cI, 64, .inl fl)), (p4, .inl (cI, 64, .inl fp)), (r0, .inr (3, [.ref z0, .ref q, .ref r2, .ref r3, .ref r4, .ref r5, .ref r6])), (q, .inl (cI, (ct_Nk N (fun k => ct_pl sz la K R (TT.getD k 0)) (k + 1)), .inl g)), (r2, .inl (cI, 8, .inl ge)), (r3, .inl (cI, 8, .inl gi)), (r4, .inl (cI, 8, .inl ga)), (r5, .inl (cI, 8, .inl gb)), (r6, .inl (cI, 8, .inl gt)), (z0, .inr (1, [.ref z1])), (z1, .inl (cI, 8, .inl (fun j => nI (sz j))))]) hD hS hA [0, 2, 3, 4, 5, 14, 15, 7, 8, 9, 10, 11, 12, 13] rfl
        refine va_callv (va_runV (As := [.int (nI S), .int (nI (ct_fr (fun k => ct_pl sz la K R (TT.getD k 0)) k)), .int (nI (ct_lv la K R S))]) (rest := []) ⟨hx, hb, hml, hown, hts⟩ (c_H_joinParts l dC dI cI z1 sz p1 p2 p3 p4 p5 h0 z0 p0 r0 k1 k2 k3 k4 q r2 r3 r4 r5 r6 tab (nI K) (nI R) pl sm (ct_Nk N (fun k => ct_pl sz la K R (TT.getD k 0)) (k + 1)) gm fl fp g ge gi ga gb gt S (ct_B (ct_jc sz la K R) S).2 (ct_fr (fun k => ct_pl sz la K R (TT.getD k 0)) k) (ct_lv la K R S) (ct_lv la K R (ct_B (ct_jc sz la K R) S).2) (ct_lv la K R (S ^^^ (ct_B (ct_jc sz la K R) S).2)) xa xb hS6 (by omega) (by omega) (hfp _ (by omega) hs) (hfl _ hp0 (by omega)) (hfl _ hpc.1 (by omega)) hxa1 hxb1 (hlv _) (hlv _) (hlv S) hsz (by omega) (by have := hpe (ct_B (ct_jc sz la K R) S).2; omega) (by have := hpe (S ^^^ (ct_B (ct_jc sz la K R) S).2); omega) (by omega) (by have := hpe (ct_B (ct_jc sz la K R) S).2; omega) (by have := hpe (S ^^^ (ct_B (ct_jc sz la K R) S).2); omega) H.size) (cwV 3 hts (ct_giV (fun w h9 => ct_tl h9) kw_498 kw_500 kw_14 kw_26 kw_501) rfl rfl rfl (by decide +kernel) ⟨Nat.le_of_ble_eq_true rfl, Nat.le_of_ble_eq_true rfl⟩) ⟨ct_rw_blind, va_recv hK hP (ci := 0) (q0 := 0) rfl rfl, ct_rw_pre hPc hK hDc⟩ rfl rfl hl.1 rfl (lv_room (Nat.le_of_ble_eq_true rfl)) d_H_followPlan_103 ⟨by show (ct_Nk N (fun k => ct_pl sz la K R (TT.getD k 0)) (k + 1)) - N + 0 ≤ M - N; omega, by show 2 * ((ct_Nk N (fun k => ct_pl sz la K R (TT.getD k 0)) (k + 1)) - N) + 0 ≤ 2 * (M - N); omega⟩) hS (fun q _ h9 => hFc q h9) hFc (fun ⟨g3, ge2, gi2, ga2, gb2, gt2⟩ tS H1 locs ht hvm hj hB hz1 hk1 hS => ?_)
        obtain ⟨hP1, -, hD1⟩ := hB
        rw [ht] at hP1
        obtain ⟨hP, hD⟩ := va_join (wr := [(k2, .inl (cI, 6, .inl fot)), (p5, .inl (cI, 5, .inl fj))]) (w1 := [(h0, .inr (0, [.ref z0, .ref p0, .ref r0, .int tab, .ref k1, .int (nI K), .ref k2, .ref k3, .int (nI R), .ref k4, .int pl, .int sm])), (k4, .inl (cI, 64, .inl (upd gm S (nI (ct_fr (fun k => ct_pl sz la K R (TT.getD k 0)) k))))), (p0, .inr (2, [.ref z0, .ref p1, .ref p2, .ref p3, .ref p4, .ref p5])), (p2, .inl (cI, 64, .inl fl)), (p4, .inl (cI, 64, .inl fp)), (r0, .inr (3, [.ref z0, .ref q, .ref r2, .ref r3, .ref r4, .ref r5, .ref r6])), (q, .inl (cI, (ct_Nk N (fun k => ct_pl sz la K R (TT.getD k 0)) (k + 1)), .inl g3)), (r2, .inl (cI, 8, .inl ge2)), (r3, .inl (cI, 8, .inl gi2)), (r4, .inl (cI, 8, .inl ga2)), (r5, .inl (cI, 8, .inl gb2)), (r6, .inl (cI, 8, .inl gt2)), (z0, .inr (1, [.ref z1])), (z1, .inl (cI, 8, .inl (fun j => nI (sz j))))]) hP hD [0, 2, 3, 4, 5, 14, 15, 7, 8, 9, 10, 11, 12, 13] [1, 6] rfl rfl (by decide) (by decide) hk1 hFc hP1 hD1
        generalize H1 = H at hP hS ⊢
        have hP : va_P (dC, dI) ct_cl [(k2, .inl (cI, 6, .inl fot)), (p5, .inl (cI, 5, .inl fj)), (h0, .inr (0, [.ref z0, .ref p0, .ref r0, .int tab, .ref k1, .int (nI K), .ref k2, .ref k3, .int (nI R), .ref k4, .int pl, .int sm])), (k4, .inl (cI, 64, .inl (upd gm S (nI (ct_fr (fun k => ct_pl sz la K R (TT.getD k 0)) k))))), (p0, .inr (2, [.ref z0, .ref p1, .ref p2, .ref p3, .ref p4, .ref p5])), (p2, .inl (cI, 64, .inl fl)), (p4, .inl (cI, 64, .inl fp)), (r0, .inr (3, [.ref z0, .ref q, .ref r2, .ref r3, .ref r4, .ref r5, .ref r6])), (q, .inl (cI, (ct_Nk N (fun k => ct_pl sz la K R (TT.getD k 0)) (k + 1)), .inl g3)), (r2, .inl (cI, 8, .inl ge2)), (r3, .inl (cI, 8, .inl gi2)), (r4, .inl (cI, 8, .inl ga2)), (r5, .inl (cI, 8, .inl gb2)), (r6, .inl (cI, 8, .inl gt2)), (z0, .inr (1, [.ref z1])), (z1, .inl (cI, 8, .inl (fun j => nI (sz j))))] H := hP
        have hD : va_D A [(k2, .inl (cI, 6, .inl fot)), (p5, .inl (cI, 5, .inl fj)), (h0, .inr (0, [.ref z0, .ref p0, .ref r0, .int tab, .ref k1, .int (nI K), .ref k2, .ref k3, .int (nI R), .ref k4, .int pl, .int sm])), (k4, .inl (cI, 64, .inl (upd gm S (nI (ct_fr (fun k => ct_pl sz la K R (TT.getD k 0)) k))))), (p0, .inr (2, [.ref z0, .ref p1, .ref p2, .ref p3, .ref p4, .ref p5])), (p2, .inl (cI, 64, .inl fl)), (p4, .inl (cI, 64, .inl fp)), (r0, .inr (3, [.ref z0, .ref q, .ref r2, .ref r3, .ref r4, .ref r5, .ref r6])), (q, .inl (cI, (ct_Nk N (fun k => ct_pl sz la K R (TT.getD k 0)) (k + 1)), .inl g3)), (r2, .inl (cI, 8, .inl ge2)), (r3, .inl (cI, 8, .inl gi2)), (r4, .inl (cI, 8, .inl ga2)), (r5, .inl (cI, 8, .inl gb2)), (r6, .inl (cI, 8, .inl gt2)), (z0, .inr (1, [.ref z1])), (z1, .inl (cI, 8, .inl (fun j => nI (sz j))))] := hD
        refine lv_iload hx hb d_H_followPlan_106 (lv_at hl 0 rfl) ?_
        refine lv_istore_n (lv' := [(2, .int (nI (ct_fr (fun k => ct_pl sz la K R (TT.getD k 0)) (k + 1)))), (5, .int (nI (ct_fr (fun k => ct_pl sz la K R (TT.getD k 0)) (k + 1)))), (4, .int (nI S)), (0, .ref h0), (1, .int (nI (K - 2))), (3, .int (nI k))]) hx hb d_H_followPlan_108 rfl hl (by decide) rfl (fun ls hl => ?_)
        refine lv_iinc (v := (nI (k + 1))) (lv' := [(3, .int (nI (k + 1))), (2, .int (nI (ct_fr (fun k => ct_pl sz la K R (TT.getD k 0)) (k + 1)))), (5, .int (nI (ct_fr (fun k => ct_pl sz la K R (TT.getD k 0)) (k + 1)))), (4, .int (nI S)), (0, .ref h0), (1, .int (nI (K - 2)))]) hx hb d_H_followPlan_109 hl (k := 5) rfl (nI_1 _) (by decide) rfl (fun ls hl => ?_)
        refine lv_goto (tgt := 46) hx hb d_H_followPlan_112 (by decide) ?_
        have hst := ct_pi_step hK6 hvd hpi hfr hkl hs hpa hj hxa3 hxb3
        exact ih (k + 1) (by omega) q _ g3 ge2 gi2 ga2 gb2 gt2 (fun i h9 => by rw [← hgg1 i h9]; exact hj.1 i (by omega)) (by rw [← hgg3]; exact hj.1 243 (by omega)) (by rw [hfs]; exact hst) (by omega) H locs (hP.sub [2, 0, 3, 4, 5, 6, 1, 7, 8, 9, 10, 11, 12, 13, 14, 15] rfl) (hD.sub [2, 0, 3, 4, 5, 6, 1, 7, 8, 9, 10, 11, 12, 13, 14, 15] (by decide) rfl) hS ls (lv_sub hl [4, 5, 1, 0] rfl)
      · have hNe : (ct_Nk N (fun k => ct_pl sz la K R (TT.getD k 0)) (k + 1)) = (if (ct_fr (fun k => ct_pl sz la K R (TT.getD k 0)) (k + 1)) < 2 * (ct_Nk N (fun k => ct_pl sz la K R (TT.getD k 0)) k) then 2 * (ct_Nk N (fun k => ct_pl sz la K R (TT.getD k 0)) k) else (ct_fr (fun k => ct_pl sz la K R (TT.getD k 0)) (k + 1))) := if_neg hst9
        have hup : (ct_Nk N (fun k => ct_pl sz la K R (TT.getD k 0)) k) + 1 ≤ (ct_Nk N (fun k => ct_pl sz la K R (TT.getD k 0)) (k + 1)) ∧ 2 * (ct_Nk N (fun k => ct_pl sz la K R (TT.getD k 0)) k) ≤ (ct_Nk N (fun k => ct_pl sz la K R (TT.getD k 0)) (k + 1)) := by
            rw [hNe]
            by_cases h9 : (ct_fr (fun k => ct_pl sz la K R (TT.getD k 0)) (k + 1)) < 2 * (ct_Nk N (fun k => ct_pl sz la K R (TT.getD k 0)) k)
            · rw [if_pos h9]; omega
            · rw [if_neg h9]; omega
        have hPc := hP.sub (ws' := [(r0, .inr (3, [.ref z0, .ref q, .ref r2, .ref r3, .ref r4, .ref r5, .ref r6])), (q, .inl (cI, (ct_Nk N (fun k => ct_pl sz la K R (TT.getD k 0)) k), .inl g))]) [7, 8] rfl
        have hDc := hD.sub (ws' := [(r0, .inr (3, [.ref z0, .ref q, .ref r2, .ref r3, .ref r4, .ref r5, .ref r6])), (q, .inl (cI, (ct_Nk N (fun k => ct_pl sz la K R (TT.getD k 0)) k), .inl g))]) [7, 8] (by decide) rfl
        have hFc := va_free (wc := [(r0, .inr (3, [.ref z0, .ref q, .ref r2, .ref r3, .ref r4, .ref r5, .ref r6])), (q, .inl (cI, (ct_Nk N (fun k => ct_pl sz la K R (TT.getD k 0)) k), .inl g))]) hD hS hA [7, 8] rfl
        refine va_callv (va_runV (As := [.int (nI (ct_fr (fun k => ct_pl sz la K R (TT.getD k 0)) (k + 1)))]) (rest := []) ⟨hx, hb, hml, hown, hts⟩ (c_R_reserve_up l dC dI cI z0 r0 q r2 r3 r4 r5 r6 (ct_Nk N (fun k => ct_pl sz la K R (TT.getD k 0)) k) g (ct_fr (fun k => ct_pl sz la K R (TT.getD k 0)) (k + 1)) (ct_Nk N (fun k => ct_pl sz la K R (TT.getD k 0)) (k + 1)) (by omega) (by omega) (by omega) hNe H.size) (cwV 1 hts (ct_giV (fun w h9 => ct_tl h9) kw_475 kw_476 kw_477 kw_29 kw_478) rfl rfl rfl (by decide +kernel) ⟨Nat.le_of_ble_eq_true rfl, Nat.le_of_ble_eq_true rfl⟩) ⟨ct_rw_blind, va_recv hK hP (ci := 3) (q0 := 7) rfl rfl, ct_rw_pre hPc hK hDc⟩ rfl rfl hl.1 rfl (lv_room (Nat.le_of_ble_eq_true rfl)) d_H_followPlan_87 ⟨by show (ct_Nk N (fun k => ct_pl sz la K R (TT.getD k 0)) k) - N + 1 ≤ M - N; omega, by show 2 * ((ct_Nk N (fun k => ct_pl sz la K R (TT.getD k 0)) k) - N) + (ct_Nk N (fun k => ct_pl sz la K R (TT.getD k 0)) (k + 1)) ≤ 2 * (M - N); omega⟩) hS (fun q _ h9 => hFc q h9) hFc (fun ⟨q2, g2⟩ tS H1 locs ht hvm hgr hB hz1 hk1 hS => ?_)
        obtain ⟨hP1, -, hD1⟩ := hB
        rw [ht] at hP1
        obtain ⟨hP, hD⟩ := va_join (wr := [(h0, .inr (0, [.ref z0, .ref p0, .ref r0, .int tab, .ref k1, .int (nI K), .ref k2, .ref k3, .int (nI R), .ref k4, .int pl, .int sm])), (k2, .inl (cI, 6, .inl fot)), (k4, .inl (cI, 64, .inl gm)), (p0, .inr (2, [.ref z0, .ref p1, .ref p2, .ref p3, .ref p4, .ref p5])), (p2, .inl (cI, 64, .inl fl)), (p4, .inl (cI, 64, .inl fp)), (p5, .inl (cI, 5, .inl fj)), (r2, .inl (cI, 8, .inl ge)), (r3, .inl (cI, 8, .inl gi)), (r4, .inl (cI, 8, .inl ga)), (r5, .inl (cI, 8, .inl gb)), (r6, .inl (cI, 8, .inl gt)), (z0, .inr (1, [.ref z1])), (z1, .inl (cI, 8, .inl (fun j => nI (sz j))))]) (w1 := [(r0, .inr (3, [.ref z0, .ref q2, .ref r2, .ref r3, .ref r4, .ref r5, .ref r6])), (q2, .inl (cI, (ct_Nk N (fun k => ct_pl sz la K R (TT.getD k 0)) (k + 1)), .inl g2))]) hP hD [7, 8] [0, 1, 2, 3, 4, 5, 6, 9, 10, 11, 12, 13, 14, 15] rfl rfl (by decide) (by decide) hk1 hFc hP1 hD1
        generalize H1 = H at hP hS ⊢
        have hP : va_P (dC, dI) ct_cl [(h0, .inr (0, [.ref z0, .ref p0, .ref r0, .int tab, .ref k1, .int (nI K), .ref k2, .ref k3, .int (nI R), .ref k4, .int pl, .int sm])), (k2, .inl (cI, 6, .inl fot)), (k4, .inl (cI, 64, .inl gm)), (p0, .inr (2, [.ref z0, .ref p1, .ref p2, .ref p3, .ref p4, .ref p5])), (p2, .inl (cI, 64, .inl fl)), (p4, .inl (cI, 64, .inl fp)), (p5, .inl (cI, 5, .inl fj)), (r2, .inl (cI, 8, .inl ge)), (r3, .inl (cI, 8, .inl gi)), (r4, .inl (cI, 8, .inl ga)), (r5, .inl (cI, 8, .inl gb)), (r6, .inl (cI, 8, .inl gt)), (z0, .inr (1, [.ref z1])), (z1, .inl (cI, 8, .inl (fun j => nI (sz j)))), (r0, .inr (3, [.ref z0, .ref q2, .ref r2, .ref r3, .ref r4, .ref r5, .ref r6])), (q2, .inl (cI, (ct_Nk N (fun k => ct_pl sz la K R (TT.getD k 0)) (k + 1)), .inl g2))] H := hP
        have hD : va_D A [(h0, .inr (0, [.ref z0, .ref p0, .ref r0, .int tab, .ref k1, .int (nI K), .ref k2, .ref k3, .int (nI R), .ref k4, .int pl, .int sm])), (k2, .inl (cI, 6, .inl fot)), (k4, .inl (cI, 64, .inl gm)), (p0, .inr (2, [.ref z0, .ref p1, .ref p2, .ref p3, .ref p4, .ref p5])), (p2, .inl (cI, 64, .inl fl)), (p4, .inl (cI, 64, .inl fp)), (p5, .inl (cI, 5, .inl fj)), (r2, .inl (cI, 8, .inl ge)), (r3, .inl (cI, 8, .inl gi)), (r4, .inl (cI, 8, .inl ga)), (r5, .inl (cI, 8, .inl gb)), (r6, .inl (cI, 8, .inl gt)), (z0, .inr (1, [.ref z1])), (z1, .inl (cI, 8, .inl (fun j => nI (sz j)))), (r0, .inr (3, [.ref z0, .ref q2, .ref r2, .ref r3, .ref r4, .ref r5, .ref r6])), (q2, .inl (cI, (ct_Nk N (fun k => ct_pl sz la K R (TT.getD k 0)) (k + 1)), .inl g2))] := hD
        refine W.widen (k := (ct_Nk N (fun k => ct_pl sz la K R (TT.getD k 0)) (k + 1)) - N) (n := 2 * ((ct_Nk N (fun k => ct_pl sz la K R (TT.getD k 0)) (k + 1)) - N)) (by omega) (by omega) ?_
        have hg9 : ∀ i, (i < 216 ∨ (244 ≤ i ∧ i < (ct_fr (fun k => ct_pl sz la K R (TT.getD k 0)) k))) → g2 i = g i := fun i h9 => hgr i (by omega)
        have hgg1 : ∀ i, i < 216 → g2 i = f i := fun i h9 => (hgr i (by omega)).trans (hg1 i h9)
        have hgg3 : g2 243 = f 243 := (hgr 243 (by omega)).trans hg3
        have hpi2 : ct_pi sz la K R v gm g2 (ct_fr (fun k => ct_pl sz la K R (TT.getD k 0)) k) TT k := ct_pi_cells hpi hg9
        clear hpi
        have hpi := hpi2
        refine lv_aload_n hx hb d_H_followPlan_90 rfl (lv_at hl 2 rfl) ?_
        refine lv_iload hx hb d_H_followPlan_91 (lv_at hl 1 rfl) ?_
        refine lv_iload_n hx hb d_H_followPlan_93 rfl (lv_at hl 4 rfl) ?_
        refine lv_aload_n hx hb d_H_followPlan_94 rfl (lv_at hl 2 rfl) ?_
        refine va_get (D := (dC, dI)) (ci := 0) (v := .ref p0) (C := R_H) (T := T_H) (N := 12) hx hb hts (fun w h9 => ct_tl (ki_H w h9)) hown hK hP 0 rfl rfl 1 (by decide) (hts _ (ct_tl kw_115)) (fun _ h9 => h9) rfl d_H_followPlan_95 ?_
        refine lv_iload hx hb d_H_followPlan_98 (lv_at hl 1 rfl) ?_
        refine va_calli (va_runV (As := [.int (nI S)]) (rest := [.int (nI (ct_fr (fun k => ct_pl sz la K R (TT.getD k 0)) k)), .int (nI S), .ref h0]) ⟨hx, hb, hml, hown, hts⟩ (c_P_leavesOf l dC dI cI z0 p0 p1 p2 p3 p4 p5 fl S hS6) (cwV 1 hts (ct_giV (fun w h9 => ct_tl h9) kw_471 kw_472 kw_473 kw_28 kw_474) rfl rfl rfl (by decide +kernel) ⟨Nat.le_of_ble_eq_true rfl, Nat.le_of_ble_eq_true rfl⟩) ⟨ct_ro_blind, va_recv hK hP (ci := 2) (q0 := 3) rfl rfl, ct_ro_pre (hP.sub [3, 4] rfl) hK⟩ rfl rfl hl.1 rfl (lv_room (Nat.le_of_ble_eq_true rfl)) d_H_followPlan_100 ⟨by show (ct_Nk N (fun k => ct_pl sz la K R (TT.getD k 0)) (k + 1)) - N + 0 ≤ M - N; omega, by show 2 * ((ct_Nk N (fun k => ct_pl sz la K R (TT.getD k 0)) (k + 1)) - N) + 0 ≤ 2 * (M - N); omega⟩) hS (fun q _ h9 => h9.elim) (fun q h9 => h9.elim) (fun ans104 uS tS H locs ht hvm hwans104 hB hz1 hk1 hS => ?_)
        have hP := ct_keep hP hk1
        refine ct_val (y := fl S) (hwans104) ?_
        refine ct_val (y := nI (ct_lv la K R S)) (hfl S (by omega) hmm) ?_
        obtain ⟨xa, hxa1, hxa2, hxa3⟩ := hpi (ct_B (ct_jc sz la K R) S).2 hp0 (by omega) (by
              cases hq : ct_sev (ct_B (ct_jc sz la K R) S).2 with
              | false => exact Or.inl rfl
              | true => exact Or.inr (hpr1 hq))
        obtain ⟨xb, hxb1, hxb2, hxb3⟩ := hpi (S ^^^ (ct_B (ct_jc sz la K R) S).2) hpc.1 (by omega) (by
              cases hq : ct_sev (S ^^^ (ct_B (ct_jc sz la K R) S).2) with
              | false => exact Or.inl rfl
              | true => exact Or.inr (hpr2 hq))
        have hpS := hpe S
        have hPc := hP.sub (ws' := [(h0, .inr (0, [.ref z0, .ref p0, .ref r0, .int tab, .ref k1, .int (nI K), .ref k2, .ref k3, .int (nI R), .ref k4, .int pl, .int sm])), (k4, .inl (cI, 64, .inl gm)), (p0, .inr (2, [.ref z0, .ref p1, .ref p2, .ref p3, .ref p4, .ref p5])), (p2, .inl (cI, 64, .inl fl)), (p4, .inl (cI, 64, .inl fp)), (r0, .inr (3, [.ref z0, .ref q2, .ref r2, .ref r3, .ref r4, .ref r5, .ref r6])), (q2, .inl (cI, (ct_Nk N (fun k => ct_pl sz la K R (TT.getD k 0)) (k + 1)), .inl g2)), (r2, .inl (cI, 8, .inl ge)), (r3, .inl (cI, 8, .inl gi)), (r4, .inl (cI, 8, .inl ga)), (r5, .inl (cI, 8, .inl gb)), (r6, .inl (cI, 8, .inl gt)), (z0, .inr (1, [.ref z1])), (z1, .inl (cI, 8, .inl (fun j => nI (sz j))))]) [0, 2, 3, 4, 5, 14, 15, 7, 8, 9, 10, 11, 12, 13] rfl
        have hDc := hD.sub (ws' := [(h0, .inr (0, [.ref z0, .ref p0, .ref r0, .int tab, .ref k1, .int (nI K), .ref k2, .ref k3, .int (nI R), .ref k4, .int pl, .int sm])), (k4, .inl (cI, 64, .inl gm)), (p0, .inr (2, [.ref z0, .ref p1, .ref p2, .ref p3, .ref p4, .ref p5])), (p2, .inl (cI, 64, .inl fl)), (p4, .inl (cI, 64, .inl fp)), (r0, .inr (3, [.ref z0, .ref q2, .ref r2, .ref r3, .ref r4, .ref r5, .ref r6])), (q2, .inl (cI, (ct_Nk N (fun k => ct_pl sz la K R (TT.getD k 0)) (k + 1)), .inl g2)), (r2, .inl (cI, 8, .inl ge)), (r3, .inl (cI, 8, .inl gi)), (r4, .inl (cI, 8, .inl ga)), (r5, .inl (cI, 8, .inl gb)), (r6, .inl (cI, 8, .inl gt)), (z0, .inr (1, [.ref z1])), (z1, .inl (cI, 8, .inl (fun j => nI (sz j))))]) [0, 2, 3, 4, 5, 14, 15, 7, 8, 9, 10, 11, 12, 13] (by decide) rfl
        have hFc := va_free (wc := [(h0, .inr (0, [.ref z0, .ref p0, .ref r0, .int tab, .ref k1, .int (nI K), .ref k2, .ref k3, .int (nI R), .ref k4, .int pl, .int sm])), (k4, .inl (cI, 64, .inl gm)), (p0, .inr (2, [.ref z0, .ref p1, .ref p2, .ref p3, .ref p4, .ref p5])), (p2, .inl (cI, 64, .inl fl)), (p4, .inl (cI, 64, .inl fp)), (r0, .inr (3, [.ref z0, .ref q2, .ref r2, .ref r3, .ref r4, .ref r5, .ref r6])), (q2, .inl (cI, (ct_Nk N (fun k => ct_pl sz la K R (TT.getD k 0)) (k + 1)), .inl g2)), (r2, .inl (cI, 8, .inl ge)), (r3, .inl (cI, 8, .inl gi)), (r4, .inl (cI, 8, .inl ga)), (r5, .inl (cI, 8, .inl gb)), (r6, .inl (cI, 8, .inl gt)), (z0, .inr (1, [.ref z1])), (z1, .inl (cI, 8, .inl (fun j => nI (sz j))))]) hD hS hA [0, 2, 3, 4, 5, 14, 15, 7, 8, 9, 10, 11, 12, 13] rfl
        refine va_callv (va_runV (As := [.int (nI S), .int (nI (ct_fr (fun k => ct_pl sz la K R (TT.getD k 0)) k)), .int (nI (ct_lv la K R S))]) (rest := []) ⟨hx, hb, hml, hown, hts⟩ (c_H_joinParts l dC dI cI z1 sz p1 p2 p3 p4 p5 h0 z0 p0 r0 k1 k2 k3 k4 q2 r2 r3 r4 r5 r6 tab (nI K) (nI R) pl sm (ct_Nk N (fun k => ct_pl sz la K R (TT.getD k 0)) (k + 1)) gm fl fp g2 ge gi ga gb gt S (ct_B (ct_jc sz la K R) S).2 (ct_fr (fun k => ct_pl sz la K R (TT.getD k 0)) k) (ct_lv la K R S) (ct_lv la K R (ct_B (ct_jc sz la K R) S).2) (ct_lv la K R (S ^^^ (ct_B (ct_jc sz la K R) S).2)) xa xb hS6 (by omega) (by omega) (hfp _ (by omega) hs) (hfl _ hp0 (by omega)) (hfl _ hpc.1 (by omega)) hxa1 hxb1 (hlv _) (hlv _) (hlv S) hsz (by omega) (by have := hpe (ct_B (ct_jc sz la K R) S).2; omega) (by have := hpe (S ^^^ (ct_B (ct_jc sz la K R) S).2); omega) (by omega) (by have := hpe (ct_B (ct_jc sz la K R) S).2; omega) (by have := hpe (S ^^^ (ct_B (ct_jc sz la K R) S).2); omega) H.size) (cwV 3 hts (ct_giV (fun w h9 => ct_tl h9) kw_498 kw_500 kw_14 kw_26 kw_501) rfl rfl rfl (by decide +kernel) ⟨Nat.le_of_ble_eq_true rfl, Nat.le_of_ble_eq_true rfl⟩) ⟨ct_rw_blind, va_recv hK hP (ci := 0) (q0 := 0) rfl rfl, ct_rw_pre hPc hK hDc⟩ rfl rfl hl.1 rfl (lv_room (Nat.le_of_ble_eq_true rfl)) d_H_followPlan_103 ⟨by show (ct_Nk N (fun k => ct_pl sz la K R (TT.getD k 0)) (k + 1)) - N + 0 ≤ M - N; omega, by show 2 * ((ct_Nk N (fun k => ct_pl sz la K R (TT.getD k 0)) (k + 1)) - N) + 0 ≤ 2 * (M - N); omega⟩) hS (fun q _ h9 => hFc q h9) hFc (fun ⟨g3, ge2, gi2, ga2, gb2, gt2⟩ tS H1 locs ht hvm hj hB hz1 hk1 hS => ?_)
        obtain ⟨hP1, -, hD1⟩ := hB
        rw [ht] at hP1
        obtain ⟨hP, hD⟩ := va_join (wr := [(k2, .inl (cI, 6, .inl fot)), (p5, .inl (cI, 5, .inl fj))]) (w1 := [(h0, .inr (0, [.ref z0, .ref p0, .ref r0, .int tab, .ref k1, .int (nI K), .ref k2, .ref k3, .int (nI R), .ref k4, .int pl, .int sm])), (k4, .inl (cI, 64, .inl (upd gm S (nI (ct_fr (fun k => ct_pl sz la K R (TT.getD k 0)) k))))), (p0, .inr (2, [.ref z0, .ref p1, .ref p2, .ref p3, .ref p4, .ref p5])), (p2, .inl (cI, 64, .inl fl)), (p4, .inl (cI, 64, .inl fp)), (r0, .inr (3, [.ref z0, .ref q2, .ref r2, .ref r3, .ref r4, .ref r5, .ref r6])), (q2, .inl (cI, (ct_Nk N (fun k => ct_pl sz la K R (TT.getD k 0)) (k + 1)), .inl g3)), (r2, .inl (cI, 8, .inl ge2)), (r3, .inl (cI, 8, .inl gi2)), (r4, .inl (cI, 8, .inl ga2)), (r5, .inl (cI, 8, .inl gb2)), (r6, .inl (cI, 8, .inl gt2)), (z0, .inr (1, [.ref z1])), (z1, .inl (cI, 8, .inl (fun j => nI (sz j))))]) hP hD [0, 2, 3, 4, 5, 14, 15, 7, 8, 9, 10, 11, 12, 13] [1, 6] rfl rfl (by decide) (by decide) hk1 hFc hP1 hD1
        generalize H1 = H at hP hS ⊢
        have hP : va_P (dC, dI) ct_cl [(k2, .inl (cI, 6, .inl fot)), (p5, .inl (cI, 5, .inl fj)), (h0, .inr (0, [.ref z0, .ref p0, .ref r0, .int tab, .ref k1, .int (nI K), .ref k2, .ref k3, .int (nI R), .ref k4, .int pl, .int sm])), (k4, .inl (cI, 64, .inl (upd gm S (nI (ct_fr (fun k => ct_pl sz la K R (TT.getD k 0)) k))))), (p0, .inr (2, [.ref z0, .ref p1, .ref p2, .ref p3, .ref p4, .ref p5])), (p2, .inl (cI, 64, .inl fl)), (p4, .inl (cI, 64, .inl fp)), (r0, .inr (3, [.ref z0, .ref q2, .ref r2, .ref r3, .ref r4, .ref r5, .ref r6])), (q2, .inl (cI, (ct_Nk N (fun k => ct_pl sz la K R (TT.getD k 0)) (k + 1)), .inl g3)), (r2, .inl (cI, 8, .inl ge2)), (r3, .inl (cI, 8, .inl gi2)), (r4, .inl (cI, 8, .inl ga2)), (r5, .inl (cI, 8, .inl gb2)), (r6, .inl (cI, 8, .inl gt2)), (z0, .inr (1, [.ref z1])), (z1, .inl (cI, 8, .inl (fun j => nI (sz j))))] H := hP
        have hD : va_D A [(k2, .inl (cI, 6, .inl fot)), (p5, .inl (cI, 5, .inl fj)), (h0, .inr (0, [.ref z0, .ref p0, .ref r0, .int tab, .ref k1, .int (nI K), .ref k2, .ref k3, .int (nI R), .ref k4, .int pl, .int sm])), (k4, .inl (cI, 64, .inl (upd gm S (nI (ct_fr (fun k => ct_pl sz la K R (TT.getD k 0)) k))))), (p0, .inr (2, [.ref z0, .ref p1, .ref p2, .ref p3, .ref p4, .ref p5])), (p2, .inl (cI, 64, .inl fl)), (p4, .inl (cI, 64, .inl fp)), (r0, .inr (3, [.ref z0, .ref q2, .ref r2, .ref r3, .ref r4, .ref r5, .ref r6])), (q2, .inl (cI, (ct_Nk N (fun k => ct_pl sz la K R (TT.getD k 0)) (k + 1)), .inl g3)), (r2, .inl (cI, 8, .inl ge2)), (r3, .inl (cI, 8, .inl gi2)), (r4, .inl (cI, 8, .inl ga2)), (r5, .inl (cI, 8, .inl gb2)), (r6, .inl (cI, 8, .inl gt2)), (z0, .inr (1, [.ref z1])), (z1, .inl (cI, 8, .inl (fun j => nI (sz j))))] := hD
        refine lv_iload hx hb d_H_followPlan_106 (lv_at hl 0 rfl) ?_
        refine lv_istore_n (lv' := [(2, .int (nI (ct_fr (fun k => ct_pl sz la K R (TT.getD k 0)) (k + 1)))), (5, .int (nI (ct_fr (fun k => ct_pl sz la K R (TT.getD k 0)) (k + 1)))), (4, .int (nI S)), (0, .ref h0), (1, .int (nI (K - 2))), (3, .int (nI k))]) hx hb d_H_followPlan_108 rfl hl (by decide) rfl (fun ls hl => ?_)
        refine lv_iinc (v := (nI (k + 1))) (lv' := [(3, .int (nI (k + 1))), (2, .int (nI (ct_fr (fun k => ct_pl sz la K R (TT.getD k 0)) (k + 1)))), (5, .int (nI (ct_fr (fun k => ct_pl sz la K R (TT.getD k 0)) (k + 1)))), (4, .int (nI S)), (0, .ref h0), (1, .int (nI (K - 2)))]) hx hb d_H_followPlan_109 hl (k := 5) rfl (nI_1 _) (by decide) rfl (fun ls hl => ?_)
        refine lv_goto (tgt := 46) hx hb d_H_followPlan_112 (by decide) ?_
        have hst := ct_pi_step hK6 hvd hpi hfr hkl hs hpa hj hxa3 hxb3
        exact ih (k + 1) (by omega) q2 _ g3 ge2 gi2 ga2 gb2 gt2 (fun i h9 => by rw [← hgg1 i h9]; exact hj.1 i (by omega)) (by rw [← hgg3]; exact hj.1 243 (by omega)) (by rw [hfs]; exact hst) (by omega) H locs (hP.sub [2, 0, 3, 4, 5, 6, 1, 7, 8, 9, 10, 11, 12, 13, 14, 15] rfl) (hD.sub [2, 0, 3, 4, 5, 6, 1, 7, 8, 9, 10, 11, 12, 13, 14, 15] (by decide) rfl) hS ls (lv_sub hl [4, 5, 1, 0] rfl)
  have loop1 : ∀ (n o : Nat), o + n = K → ∀ (gm : Nat → Int32), (∀ j, j < o → gm (2 ^ j) = nI (ot j * 27)) → ∀ (H : Heap) (locs : List Loc), va_P (dC, dI) ct_cl [(h0, .inr (0, [.ref z0, .ref p0, .ref r0, .int tab, .ref k1, .int (nI K), .ref k2, .ref k3, .int (nI R), .ref k4, .int pl, .int sm])), (k2, .inl (cI, 6, .inl fot)), (k4, .inl (cI, 64, .inl gm)), (p0, .inr (2, [.ref z0, .ref p1, .ref p2, .ref p3, .ref p4, .ref p5])), (p2, .inl (cI, 64, .inl fl)), (p4, .inl (cI, 64, .inl fp)), (p5, .inl (cI, 5, .inl fj)), (r0, .inr (3, [.ref z0, .ref r1, .ref r2, .ref r3, .ref r4, .ref r5, .ref r6])), (r1, .inl (cI, N, .inl f)), (r2, .inl (cI, 8, .inl fe)), (r3, .inl (cI, 8, .inl fi)), (r4, .inl (cI, 8, .inl fa)), (r5, .inl (cI, 8, .inl fb)), (r6, .inl (cI, 8, .inl ft)), (z0, .inr (1, [.ref z1])), (z1, .inl (cI, 8, .inl (fun j => nI (sz j))))] H → va_D A [(h0, .inr (0, [.ref z0, .ref p0, .ref r0, .int tab, .ref k1, .int (nI K), .ref k2, .ref k3, .int (nI R), .ref k4, .int pl, .int sm])), (k2, .inl (cI, 6, .inl fot)), (k4, .inl (cI, 64, .inl gm)), (p0, .inr (2, [.ref z0, .ref p1, .ref p2, .ref p3, .ref p4, .ref p5])), (p2, .inl (cI, 64, .inl fl)), (p4, .inl (cI, 64, .inl fp)), (p5, .inl (cI, 5, .inl fj)), (r0, .inr (3, [.ref z0, .ref r1, .ref r2, .ref r3, .ref r4, .ref r5, .ref r6])), (r1, .inl (cI, N, .inl f)), (r2, .inl (cI, 8, .inl fe)), (r3, .inl (cI, 8, .inl fi)), (r4, .inl (cI, 8, .inl fa)), (r5, .inl (cI, 8, .inl fb)), (r6, .inl (cI, 8, .inl ft)), (z0, .inr (1, [.ref z1])), (z1, .inl (cI, 8, .inl (fun j => nI (sz j))))] → va_S A s.heap H locs → ∀ (ls : Array Slot), lv_has ls 6 [(0, .ref h0), (1, .int (nI o))] → W p l e (headSpec w_H_followPlan ({ frames := 5, cells := (M - N), slots := (2 * (M - N)), locals := 132 } : Room)).room s m args below meth c H locs 0 0 (MQ below (va_Qv (fun (u : Nat × (Nat → Int32) × (Nat → Int32) × (Nat → Int32) × (Nat → Int32) × (Nat → Int32) × (Nat → Int32) × (Nat → Int32)) => (∀ i, i < 216 → u.2.2.1 i = f i) ∧ u.2.2.1 243 = f 243 ∧ ∀ r : Nat → Nat, (∀ k, k < 8 → R.testBit k = true → r k < sz k) → u.2.2.1 (216 + ct_ix sz R.testBit 8 r) = ct_sm sz (fun k => (ct_has la (2 ^ K - 1) K).testBit k && !R.testBit k) 8 (ct_pd v (2 ^ K - 1) K) r) (fun (u : Nat × (Nat → Int32) × (Nat → Int32) × (Nat → Int32) × (Nat → Int32) × (Nat → Int32) × (Nat → Int32) × (Nat → Int32)) t => ct_at (dC, dI) ct_cl [(cI, .int)] (A) [(h0, .inr (0, [.ref z0, .ref p0, .ref r0, .int tab, .ref k1, .int (nI K), .ref k2, .ref k3, .int (nI R), .ref k4, .int pl, .int sm])), (k2, .inl (cI, 6, .inl fot)), (k4, .inl (cI, 64, .inl (u.2.1))), (p0, .inr (2, [.ref z0, .ref p1, .ref p2, .ref p3, .ref p4, .ref p5])), (p2, .inl (cI, 64, .inl fl)), (p4, .inl (cI, 64, .inl fp)), (p5, .inl (cI, 5, .inl fj)), (r0, .inr (3, [.ref z0, .ref u.1, .ref r2, .ref r3, .ref r4, .ref r5, .ref r6])), (u.1, .inl (cI, M, .inl (u.2.2.1))), (r2, .inl (cI, 8, .inl (u.2.2.2.1))), (r3, .inl (cI, 8, .inl (u.2.2.2.2.1))), (r4, .inl (cI, 8, .inl (u.2.2.2.2.2.1))), (r5, .inl (cI, 8, .inl (u.2.2.2.2.2.2.1))), (r6, .inl (cI, 8, .inl (u.2.2.2.2.2.2.2))), (z0, .inr (1, [.ref z1])), (z1, .inl (cI, 8, .inl (fun j => nI (sz j))))] t) (A)) args s (M - N) (2 * (M - N)) A) (F0 m 2 ls []) := by
    intro n
    induction n with
    | zero =>
      intro o ho gm hgm H locs hP hD hS ls hl
      refine lv_iload_n hx hb d_H_followPlan_2 rfl (lv_at hl 1 rfl) ?_
      refine lv_aload_n hx hb d_H_followPlan_3 rfl (lv_at hl 0 rfl) ?_
      refine va_get (D := (dC, dI)) (ci := 0) (v := .int (nI K)) (C := R_H) (T := T_H) (N := 12) hx hb hts (fun w h9 => ct_tl (ki_H w h9)) hown hK hP 0 rfl rfl 5 (by decide) (hts _ (ct_tl kw_119)) (fun _ h9 => h9) rfl d_H_followPlan_4 ?_
      refine lv_icmp_ge (tgt := 33) hx hb d_H_followPlan_7 (by decide) (fun _ => ?_) (fun hc9 => absurd (nI_le (by omega) (by omega)) hc9)
      refine lv_aload_n hx hb d_H_followPlan_33 rfl (lv_at hl 0 rfl) ?_
      refine va_calli (va_runV (As := []) (rest := []) ⟨hx, hb, hml, hown, hts⟩ (c_H_countSteps l dC dI cI h0 z0 p0 r0 k1 k2 k3 k4 tab K (nI R) pl sm hK6) (cwV 0 hts (ct_giV (fun w h9 => ct_tl h9) kw_422 kw_424 kw_10 kw_26 kw_425) rfl rfl rfl (by decide +kernel) ⟨Nat.le_of_ble_eq_true rfl, Nat.le_of_ble_eq_true rfl⟩) ⟨ct_ro_blind, va_recv hK hP (ci := 0) (q0 := 0) rfl rfl, ct_ro_pre (hP.sub [0] rfl) hK⟩ rfl rfl hl.1 rfl (lv_room (Nat.le_of_ble_eq_true rfl)) d_H_followPlan_34 ⟨Nat.zero_le _, Nat.zero_le _⟩) hS (fun q _ h9 => h9.elim) (fun q h9 => h9.elim) (fun ans1 uS tS H locs ht hvm hwans1 hB hz1 hk1 hS => ?_)
      have hP := ct_keep hP hk1
      refine ct_val (y := nI (K - 1)) (hwans1) ?_
      refine lv_iconst (v := (nI 1)) hx hb d_H_followPlan_37 (by decide) ?_
      refine lv_isub hx hb d_H_followPlan_38 ?_
      refine ct_val (y := nI (K - 2)) (pk_sub (by omega)) ?_
      refine lv_istore_n (lv' := [(1, .int (nI (K - 2))), (0, .ref h0)]) hx hb d_H_followPlan_39 rfl hl (by decide) rfl (fun ls hl => ?_)
      refine lv_sipush (v := (nI 244)) hx hb d_H_followPlan_40 (by decide) ?_
      refine lv_istore_n (lv' := [(2, .int (nI 244)), (1, .int (nI (K - 2))), (0, .ref h0)]) hx hb d_H_followPlan_43 rfl hl (by decide) rfl (fun ls hl => ?_)
      refine lv_iconst (v := (nI 0)) hx hb d_H_followPlan_44 (by decide) ?_
      refine lv_istore_n (lv' := [(3, .int (nI 0)), (2, .int (nI 244)), (1, .int (nI (K - 2))), (0, .ref h0)]) hx hb d_H_followPlan_45 rfl hl (by decide) rfl (fun ls hl => ?_)
      refine W.widen (k := (ct_Nk N (fun k => ct_pl sz la K R (TT.getD k 0)) 0) - N) (n := 2 * ((ct_Nk N (fun k => ct_pl sz la K R (TT.getD k 0)) 0) - N)) (Nat.zero_le _) (Nat.zero_le _) ?_
      refine loop2 (K - 2) 0 (by omega) r1 gm f fe fi fa fb ft (fun _ _ => rfl) rfl ?_ hN0 H locs hP hD hS ls (lv_sub hl [3, 2, 1, 0] rfl)
      intro S h0 hS hd
      obtain ⟨j, hj6, rfl⟩ := ct_single S (by omega) h0 (by
            rcases hd with hd | ⟨j, j1, j2⟩
            · exact hd
            · omega)
      have hjK : j < K := (ct_pow_lt j hj6 K (by omega)).mp hS
      have hj27 := hp27 j hjK
      have hj8 := (hot j hjK).2
      refine ⟨ot j * 27, hgm j (by omega), Or.inl ?_, fun t ht => ?_⟩
      · rw [ct_pl, ct_lv_one hK6 hjK]; omega
      · rw [ct_vs_pow hK6 hjK, ct_lv_one hK6 hjK, ← hv]
    | succ n ih =>
      intro o ho gm hgm H locs hP hD hS ls hl
      refine lv_iload_n hx hb d_H_followPlan_2 rfl (lv_at hl 1 rfl) ?_
      refine lv_aload_n hx hb d_H_followPlan_3 rfl (lv_at hl 0 rfl) ?_
      refine va_get (D := (dC, dI)) (ci := 0) (v := .int (nI K)) (C := R_H) (T := T_H) (N := 12) hx hb hts (fun w h9 => ct_tl (ki_H w h9)) hown hK hP 0 rfl rfl 5 (by decide) (hts _ (ct_tl kw_119)) (fun _ h9 => h9) rfl d_H_followPlan_4 ?_
      have h2o := ct_2o o (by omega)
      have hoo := hot o (by omega)
      refine lv_icmp_ge (tgt := 33) hx hb d_H_followPlan_7 (by decide) (fun hc9 => absurd hc9 (nI_ge (by omega) (by omega))) (fun _ => ?_)
      refine lv_aload_n hx hb d_H_followPlan_10 rfl (lv_at hl 0 rfl) ?_
      refine va_get (D := (dC, dI)) (ci := 0) (v := .ref k4) (C := R_H) (T := T_H) (N := 12) hx hb hts (fun w h9 => ct_tl (ki_H w h9)) hown hK hP 0 rfl rfl 9 (by decide) (hts _ (ct_tl kw_123)) (fun _ h9 => h9) rfl d_H_followPlan_11 ?_
      refine lv_iconst (v := (nI 1)) hx hb d_H_followPlan_14 (by decide) ?_
      refine lv_iload_n hx hb d_H_followPlan_15 rfl (lv_at hl 1 rfl) ?_
      refine lv_ishl hx hb d_H_followPlan_16 ?_
      refine ct_val (y := nI (2 ^ o)) ((ct_shl 1 (by omega) (by omega)).trans (by rw [Nat.one_mul])) ?_
      refine lv_aload_n hx hb d_H_followPlan_17 rfl (lv_at hl 0 rfl) ?_
      refine va_get (D := (dC, dI)) (ci := 0) (v := .ref k2) (C := R_H) (T := T_H) (N := 12) hx hb hts (fun w h9 => ct_tl (ki_H w h9)) hown hK hP 0 rfl rfl 6 (by decide) (hts _ (ct_tl kw_120)) (fun _ h9 => h9) rfl d_H_followPlan_18 ?_
      refine lv_iload_n hx hb d_H_followPlan_21 rfl (lv_at hl 1 rfl) ?_
      refine ct_iald hx hb hK hP 1 0 rfl rfl (j := o) (by omega) (by omega) d_H_followPlan_22 ?_
      refine ct_val (y := nI (ot o)) (hoo.1) ?_
      refine va_calli (va_runS (As := [.int (nI (ot o))]) (rest := [.int (nI (2 ^ o)), .ref k4]) ⟨hx, hb, hml, hown, hts⟩ (c_H_homeOfTable l dC dI cI (ot o)) (va_cwS 1 hts (ct_giT (fun w h9 => ct_tl h9) kw_386 kw_387 kw_26 kw_388) rfl rfl rfl (by decide +kernel) ⟨Nat.le_of_ble_eq_true rfl, Nat.le_of_ble_eq_true rfl⟩) ⟨ct_ro_blind, ct_ro_pre (hP.sub [] rfl) hK⟩ rfl rfl hl.1 rfl (lv_room (Nat.le_of_ble_eq_true rfl)) d_H_followPlan_23 ⟨Nat.zero_le _, Nat.zero_le _⟩) hS (fun q _ h9 => h9.elim) (fun q h9 => h9.elim) (fun ans1 uS tS H locs ht hvm hwans1 hB hz1 hk1 hS => ?_)
      have hP := ct_keep hP hk1
      refine ct_val (y := nI (ot o * 27)) (hwans1) ?_
      refine ct_iast hx hb hK hP hD hS 2 0 rfl rfl (j := 2 ^ o) (by omega) (by omega) d_H_followPlan_26 (fun H locs hP hD hS => ?_)
      have hP : va_P (dC, dI) ct_cl [(h0, .inr (0, [.ref z0, .ref p0, .ref r0, .int tab, .ref k1, .int (nI K), .ref k2, .ref k3, .int (nI R), .ref k4, .int pl, .int sm])), (k2, .inl (cI, 6, .inl fot)), (k4, .inl (cI, 64, .inl (upd gm (2 ^ o) (nI (ot o * 27))))), (p0, .inr (2, [.ref z0, .ref p1, .ref p2, .ref p3, .ref p4, .ref p5])), (p2, .inl (cI, 64, .inl fl)), (p4, .inl (cI, 64, .inl fp)), (p5, .inl (cI, 5, .inl fj)), (r0, .inr (3, [.ref z0, .ref r1, .ref r2, .ref r3, .ref r4, .ref r5, .ref r6])), (r1, .inl (cI, N, .inl f)), (r2, .inl (cI, 8, .inl fe)), (r3, .inl (cI, 8, .inl fi)), (r4, .inl (cI, 8, .inl fa)), (r5, .inl (cI, 8, .inl fb)), (r6, .inl (cI, 8, .inl ft)), (z0, .inr (1, [.ref z1])), (z1, .inl (cI, 8, .inl (fun j => nI (sz j))))] H := hP
      have hD : va_D A [(h0, .inr (0, [.ref z0, .ref p0, .ref r0, .int tab, .ref k1, .int (nI K), .ref k2, .ref k3, .int (nI R), .ref k4, .int pl, .int sm])), (k2, .inl (cI, 6, .inl fot)), (k4, .inl (cI, 64, .inl (upd gm (2 ^ o) (nI (ot o * 27))))), (p0, .inr (2, [.ref z0, .ref p1, .ref p2, .ref p3, .ref p4, .ref p5])), (p2, .inl (cI, 64, .inl fl)), (p4, .inl (cI, 64, .inl fp)), (p5, .inl (cI, 5, .inl fj)), (r0, .inr (3, [.ref z0, .ref r1, .ref r2, .ref r3, .ref r4, .ref r5, .ref r6])), (r1, .inl (cI, N, .inl f)), (r2, .inl (cI, 8, .inl fe)), (r3, .inl (cI, 8, .inl fi)), (r4, .inl (cI, 8, .inl fa)), (r5, .inl (cI, 8, .inl fb)), (r6, .inl (cI, 8, .inl ft)), (z0, .inr (1, [.ref z1])), (z1, .inl (cI, 8, .inl (fun j => nI (sz j))))] := hD
      refine lv_iinc (v := (nI (o + 1))) (lv' := [(1, .int (nI (o + 1))), (0, .ref h0)]) hx hb d_H_followPlan_27 hl (k := 1) rfl (nI_1 _) (by decide) rfl (fun ls hl => ?_)
      refine lv_goto (tgt := 2) hx hb d_H_followPlan_30 (by decide) ?_
      refine ih (o + 1) (by omega) _ (fun j h9 => ?_) H locs hP hD hS ls (lv_sub hl [1, 0] rfl)
      by_cases h8 : j = o
      · rw [h8, pk_us]
      · rw [pk_un (fun z => h8 ((ct_pow_inj j (by omega) o (by omega)).mp z))]; exact hgm j (by omega)
  refine lv_iconst (v := (nI 0)) hx hb d_H_followPlan_0 (by decide) ?_
  refine lv_istore_n (lv' := [(1, .int (nI 0)), (0, .ref h0)]) hx hb d_H_followPlan_1 rfl hl (by decide) rfl (fun ls hl => ?_)
  exact loop1 K 0 (by omega) hm (fun j h9 => absurd h9 (Nat.not_lt_zero j)) s.heap [] hP hD hS ls (lv_sub hl [1, 0] rfl)
