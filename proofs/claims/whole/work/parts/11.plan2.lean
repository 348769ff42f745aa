theorem ct_2o : ∀ o, o < 6 → 1 ≤ 2 ^ o ∧ 2 ^ o ≤ 32 := by decide +kernel
theorem ct_2K : ∀ o, o < 7 → 1 ≤ 2 ^ o ∧ 2 ^ o ≤ 64 := by decide +kernel
theorem ct_bitor : ∀ o, o < 6 → ∀ j, j < 32 → j < 2 ^ o → 2 ^ o ||| j = 2 ^ o + j := by decide +kernel
theorem ct_bitnew : ∀ o, o < 6 → ∀ j, j < 32 → j < 2 ^ o → (2 ^ o + j).testBit o = true ∧ ∀ k, k < o → (2 ^ o + j).testBit k = j.testBit k := by decide +kernel
theorem ct_has_new {la : Nat → Nat} {o j : Nat} (ho : o < 6) (hj : j < 2 ^ o) : ct_has la (2 ^ o + j) (o + 1) = ct_has la j o ||| la o := by
  have h2 := ct_2o o ho
  have h3 := ct_bitnew o ho j (by omega) hj
  rw [ct_has_in h3.1, ct_has_congr o h3.2 (fun _ _ => rfl)]
theorem d_P_noteLabels_0 : decode b_P_noteLabels 0 = .ok (.iconst 0, 1) := by decide +kernel
theorem d_P_noteLabels_1 : decode b_P_noteLabels 1 = .ok (.istore_n 3, 1) := by decide +kernel
theorem d_P_noteLabels_2 : decode b_P_noteLabels 2 = .ok (.iload_n 3, 1) := by decide +kernel
theorem d_P_noteLabels_3 : decode b_P_noteLabels 3 = .ok (.iload_n 2, 1) := by decide +kernel
theorem d_P_noteLabels_4 : decode b_P_noteLabels 4 = .ok (.if_icmp .ge 51, 3) := by decide +kernel
theorem d_P_noteLabels_7 : decode b_P_noteLabels 7 = .ok (.iconst 1, 1) := by decide +kernel
theorem d_P_noteLabels_8 : decode b_P_noteLabels 8 = .ok (.iload_n 3, 1) := by decide +kernel
theorem d_P_noteLabels_9 : decode b_P_noteLabels 9 = .ok (.ishl, 1) := by decide +kernel
theorem d_P_noteLabels_10 : decode b_P_noteLabels 10 = .ok (.istore 4, 2) := by decide +kernel
theorem d_P_noteLabels_12 : decode b_P_noteLabels 12 = .ok (.iconst 0, 1) := by decide +kernel
theorem d_P_noteLabels_13 : decode b_P_noteLabels 13 = .ok (.istore 5, 2) := by decide +kernel
theorem d_P_noteLabels_15 : decode b_P_noteLabels 15 = .ok (.iload 5, 2) := by decide +kernel
theorem d_P_noteLabels_17 : decode b_P_noteLabels 17 = .ok (.iload 4, 2) := by decide +kernel
theorem d_P_noteLabels_19 : decode b_P_noteLabels 19 = .ok (.if_icmp .ge 30, 3) := by decide +kernel
theorem d_P_noteLabels_22 : decode b_P_noteLabels 22 = .ok (.aload_n 0, 1) := by decide +kernel
theorem d_P_noteLabels_23 : decode b_P_noteLabels 23 = .ok (.getfield 15, 3) := by decide +kernel
theorem d_P_noteLabels_26 : decode b_P_noteLabels 26 = .ok (.iload 4, 2) := by decide +kernel
theorem d_P_noteLabels_28 : decode b_P_noteLabels 28 = .ok (.iload 5, 2) := by decide +kernel
theorem d_P_noteLabels_30 : decode b_P_noteLabels 30 = .ok (.ior, 1) := by decide +kernel
theorem d_P_noteLabels_31 : decode b_P_noteLabels 31 = .ok (.aload_n 1, 1) := by decide +kernel
theorem d_P_noteLabels_32 : decode b_P_noteLabels 32 = .ok (.iload_n 3, 1) := by decide +kernel
theorem d_P_noteLabels_33 : decode b_P_noteLabels 33 = .ok (.iaload, 1) := by decide +kernel
theorem d_P_noteLabels_34 : decode b_P_noteLabels 34 = .ok (.aload_n 0, 1) := by decide +kernel
theorem d_P_noteLabels_35 : decode b_P_noteLabels 35 = .ok (.getfield 15, 3) := by decide +kernel
theorem d_P_noteLabels_38 : decode b_P_noteLabels 38 = .ok (.iload 5, 2) := by decide +kernel
theorem d_P_noteLabels_40 : decode b_P_noteLabels 40 = .ok (.iaload, 1) := by decide +kernel
theorem d_P_noteLabels_41 : decode b_P_noteLabels 41 = .ok (.ior, 1) := by decide +kernel
theorem d_P_noteLabels_42 : decode b_P_noteLabels 42 = .ok (.iastore, 1) := by decide +kernel
theorem d_P_noteLabels_43 : decode b_P_noteLabels 43 = .ok (.iinc 5 1, 3) := by decide +kernel
theorem d_P_noteLabels_46 : decode b_P_noteLabels 46 = .ok (.goto (-31), 3) := by decide +kernel
theorem d_P_noteLabels_49 : decode b_P_noteLabels 49 = .ok (.iinc 3 1, 3) := by decide +kernel
theorem d_P_noteLabels_52 : decode b_P_noteLabels 52 = .ok (.goto (-50), 3) := by decide +kernel
theorem d_P_noteLabels_55 : decode b_P_noteLabels 55 = .ok (.return_, 1) := by decide +kernel
theorem d_P_noteLeaves_0 : decode b_P_noteLeaves 0 = .ok (.aload_n 0, 1) := by decide +kernel
theorem d_P_noteLeaves_1 : decode b_P_noteLeaves 1 = .ok (.getfield 19, 3) := by decide +kernel
theorem d_P_noteLeaves_4 : decode b_P_noteLeaves 4 = .ok (.iload_n 1, 1) := by decide +kernel
theorem d_P_noteLeaves_5 : decode b_P_noteLeaves 5 = .ok (.iload_n 1, 1) := by decide +kernel
theorem d_P_noteLeaves_6 : decode b_P_noteLeaves 6 = .ok (.invokestatic 49, 3) := by decide +kernel
theorem d_P_noteLeaves_9 : decode b_P_noteLeaves 9 = .ok (.ifCond .eq 23, 3) := by decide +kernel
theorem d_P_noteLeaves_12 : decode b_P_noteLeaves 12 = .ok (.aload_n 0, 1) := by decide +kernel
theorem d_P_noteLeaves_13 : decode b_P_noteLeaves 13 = .ok (.getfield 15, 3) := by decide +kernel
theorem d_P_noteLeaves_16 : decode b_P_noteLeaves 16 = .ok (.iload_n 1, 1) := by decide +kernel
theorem d_P_noteLeaves_17 : decode b_P_noteLeaves 17 = .ok (.iaload, 1) := by decide +kernel
theorem d_P_noteLeaves_18 : decode b_P_noteLeaves 18 = .ok (.iload_n 3, 1) := by decide +kernel
theorem d_P_noteLeaves_19 : decode b_P_noteLeaves 19 = .ok (.aload_n 0, 1) := by decide +kernel
theorem d_P_noteLeaves_20 : decode b_P_noteLeaves 20 = .ok (.getfield 15, 3) := by decide +kernel
theorem d_P_noteLeaves_23 : decode b_P_noteLeaves 23 = .ok (.iload_n 2, 1) := by decide +kernel
theorem d_P_noteLeaves_24 : decode b_P_noteLeaves 24 = .ok (.iload_n 1, 1) := by decide +kernel
theorem d_P_noteLeaves_25 : decode b_P_noteLeaves 25 = .ok (.ixor, 1) := by decide +kernel
theorem d_P_noteLeaves_26 : decode b_P_noteLeaves 26 = .ok (.iaload, 1) := by decide +kernel
theorem d_P_noteLeaves_27 : decode b_P_noteLeaves 27 = .ok (.ior, 1) := by decide +kernel
theorem d_P_noteLeaves_28 : decode b_P_noteLeaves 28 = .ok (.iand, 1) := by decide +kernel
theorem d_P_noteLeaves_29 : decode b_P_noteLeaves 29 = .ok (.goto 9, 3) := by decide +kernel
theorem d_P_noteLeaves_32 : decode b_P_noteLeaves 32 = .ok (.aload_n 0, 1) := by decide +kernel
theorem d_P_noteLeaves_33 : decode b_P_noteLeaves 33 = .ok (.getfield 15, 3) := by decide +kernel
theorem d_P_noteLeaves_36 : decode b_P_noteLeaves 36 = .ok (.iload_n 1, 1) := by decide +kernel
theorem d_P_noteLeaves_37 : decode b_P_noteLeaves 37 = .ok (.iaload, 1) := by decide +kernel
theorem d_P_noteLeaves_38 : decode b_P_noteLeaves 38 = .ok (.iastore, 1) := by decide +kernel
theorem d_P_noteLeaves_39 : decode b_P_noteLeaves 39 = .ok (.return_, 1) := by decide +kernel
theorem d_P_choosePart_0 : decode b_P_choosePart 0 = .ok (.iload_n 1, 1) := by decide +kernel
theorem d_P_choosePart_1 : decode b_P_choosePart 1 = .ok (.iload_n 1, 1) := by decide +kernel
theorem d_P_choosePart_2 : decode b_P_choosePart 2 = .ok (.ineg, 1) := by decide +kernel
theorem d_P_choosePart_3 : decode b_P_choosePart 3 = .ok (.iand, 1) := by decide +kernel
theorem d_P_choosePart_4 : decode b_P_choosePart 4 = .ok (.istore_n 2, 1) := by decide +kernel
theorem d_P_choosePart_5 : decode b_P_choosePart 5 = .ok (.iconst 0, 1) := by decide +kernel
theorem d_P_choosePart_6 : decode b_P_choosePart 6 = .ok (.istore_n 3, 1) := by decide +kernel
theorem d_P_choosePart_7 : decode b_P_choosePart 7 = .ok (.iconst 0, 1) := by decide +kernel
theorem d_P_choosePart_8 : decode b_P_choosePart 8 = .ok (.istore 4, 2) := by decide +kernel
theorem d_P_choosePart_10 : decode b_P_choosePart 10 = .ok (.iload_n 2, 1) := by decide +kernel
theorem d_P_choosePart_11 : decode b_P_choosePart 11 = .ok (.istore 5, 2) := by decide +kernel
theorem d_P_choosePart_13 : decode b_P_choosePart 13 = .ok (.iload 5, 2) := by decide +kernel
theorem d_P_choosePart_15 : decode b_P_choosePart 15 = .ok (.iload_n 1, 1) := by decide +kernel
theorem d_P_choosePart_16 : decode b_P_choosePart 16 = .ok (.if_icmp .ge 74, 3) := by decide +kernel
theorem d_P_choosePart_19 : decode b_P_choosePart 19 = .ok (.iload 5, 2) := by decide +kernel
theorem d_P_choosePart_21 : decode b_P_choosePart 21 = .ok (.iload_n 2, 1) := by decide +kernel
theorem d_P_choosePart_22 : decode b_P_choosePart 22 = .ok (.iand, 1) := by decide +kernel
theorem d_P_choosePart_23 : decode b_P_choosePart 23 = .ok (.ifCond .eq 61, 3) := by decide +kernel
theorem d_P_choosePart_26 : decode b_P_choosePart 26 = .ok (.iload 5, 2) := by decide +kernel
theorem d_P_choosePart_28 : decode b_P_choosePart 28 = .ok (.iload_n 1, 1) := by decide +kernel
theorem d_P_choosePart_29 : decode b_P_choosePart 29 = .ok (.ior, 1) := by decide +kernel
theorem d_P_choosePart_30 : decode b_P_choosePart 30 = .ok (.iload_n 1, 1) := by decide +kernel
theorem d_P_choosePart_31 : decode b_P_choosePart 31 = .ok (.if_icmp .ne 53, 3) := by decide +kernel
theorem d_P_choosePart_34 : decode b_P_choosePart 34 = .ok (.iload_n 1, 1) := by decide +kernel
theorem d_P_choosePart_35 : decode b_P_choosePart 35 = .ok (.iload 5, 2) := by decide +kernel
theorem d_P_choosePart_37 : decode b_P_choosePart 37 = .ok (.ixor, 1) := by decide +kernel
theorem d_P_choosePart_38 : decode b_P_choosePart 38 = .ok (.istore 6, 2) := by decide +kernel
theorem d_P_choosePart_40 : decode b_P_choosePart 40 = .ok (.aload_n 0, 1) := by decide +kernel
theorem d_P_choosePart_41 : decode b_P_choosePart 41 = .ok (.getfield 22, 3) := by decide +kernel
theorem d_P_choosePart_44 : decode b_P_choosePart 44 = .ok (.iload 5, 2) := by decide +kernel
theorem d_P_choosePart_46 : decode b_P_choosePart 46 = .ok (.iaload, 1) := by decide +kernel
theorem d_P_choosePart_47 : decode b_P_choosePart 47 = .ok (.aload_n 0, 1) := by decide +kernel
theorem d_P_choosePart_48 : decode b_P_choosePart 48 = .ok (.getfield 22, 3) := by decide +kernel
theorem d_P_choosePart_51 : decode b_P_choosePart 51 = .ok (.iload 6, 2) := by decide +kernel
theorem d_P_choosePart_53 : decode b_P_choosePart 53 = .ok (.iaload, 1) := by decide +kernel
theorem d_P_choosePart_54 : decode b_P_choosePart 54 = .ok (.iadd, 1) := by decide +kernel
theorem d_P_choosePart_55 : decode b_P_choosePart 55 = .ok (.aload_n 0, 1) := by decide +kernel
theorem d_P_choosePart_56 : decode b_P_choosePart 56 = .ok (.iload 5, 2) := by decide +kernel
theorem d_P_choosePart_58 : decode b_P_choosePart 58 = .ok (.iload 6, 2) := by decide +kernel
theorem d_P_choosePart_60 : decode b_P_choosePart 60 = .ok (.invokevirtual 61, 3) := by decide +kernel
theorem d_P_choosePart_63 : decode b_P_choosePart 63 = .ok (.iadd, 1) := by decide +kernel
theorem d_P_choosePart_64 : decode b_P_choosePart 64 = .ok (.istore 7, 2) := by decide +kernel
theorem d_P_choosePart_66 : decode b_P_choosePart 66 = .ok (.iload_n 3, 1) := by decide +kernel
theorem d_P_choosePart_67 : decode b_P_choosePart 67 = .ok (.ifCond .eq 10, 3) := by decide +kernel
theorem d_P_choosePart_70 : decode b_P_choosePart 70 = .ok (.iload 7, 2) := by decide +kernel
theorem d_P_choosePart_72 : decode b_P_choosePart 72 = .ok (.iload 4, 2) := by decide +kernel
theorem d_P_choosePart_74 : decode b_P_choosePart 74 = .ok (.if_icmp .ge 10, 3) := by decide +kernel
theorem d_P_choosePart_77 : decode b_P_choosePart 77 = .ok (.iload 5, 2) := by decide +kernel
theorem d_P_choosePart_79 : decode b_P_choosePart 79 = .ok (.istore_n 3, 1) := by decide +kernel
theorem d_P_choosePart_80 : decode b_P_choosePart 80 = .ok (.iload 7, 2) := by decide +kernel
theorem d_P_choosePart_82 : decode b_P_choosePart 82 = .ok (.istore 4, 2) := by decide +kernel
theorem d_P_choosePart_84 : decode b_P_choosePart 84 = .ok (.iinc 5 1, 3) := by decide +kernel
theorem d_P_choosePart_87 : decode b_P_choosePart 87 = .ok (.goto (-74), 3) := by decide +kernel
theorem d_P_choosePart_90 : decode b_P_choosePart 90 = .ok (.aload_n 0, 1) := by decide +kernel
theorem d_P_choosePart_91 : decode b_P_choosePart 91 = .ok (.getfield 25, 3) := by decide +kernel
theorem d_P_choosePart_94 : decode b_P_choosePart 94 = .ok (.iload_n 1, 1) := by decide +kernel
theorem d_P_choosePart_95 : decode b_P_choosePart 95 = .ok (.iload_n 3, 1) := by decide +kernel
theorem d_P_choosePart_96 : decode b_P_choosePart 96 = .ok (.iastore, 1) := by decide +kernel
theorem d_P_choosePart_97 : decode b_P_choosePart 97 = .ok (.aload_n 0, 1) := by decide +kernel
theorem d_P_choosePart_98 : decode b_P_choosePart 98 = .ok (.getfield 22, 3) := by decide +kernel
theorem d_P_choosePart_101 : decode b_P_choosePart 101 = .ok (.iload_n 1, 1) := by decide +kernel
theorem d_P_choosePart_102 : decode b_P_choosePart 102 = .ok (.iload 4, 2) := by decide +kernel
theorem d_P_choosePart_104 : decode b_P_choosePart 104 = .ok (.iastore, 1) := by decide +kernel
theorem d_P_choosePart_105 : decode b_P_choosePart 105 = .ok (.return_, 1) := by decide +kernel
set_option maxHeartbeats 4000000 in
set_option maxRecDepth 100000 in
theorem c_P_noteLabels (l : Launch) (dC : Nat → ClassId) (dI : Nat → Nat → Nat) (cI : ClassId) (z0 p0 p1 p2 p3 p4 p5 : Nat) (o1 : Nat) (fh fo : Nat → Int32) (la : Nat → Nat) (K : Nat) (hK6 : K ≤ 6) (hfo : ∀ j, j < K → fo j = nI (la j)) (hf0 : fh 0 = nI 0) (sz0 : Nat) : Met l y_P_noteLabels w_P_noteLabels ({ frames := 0, cells := 0, slots := 0, locals := 0 }) (va_Pc [.ref p0, .ref o1, .int (nI K)] (ct_rw (dC, dI) ct_cl [(p0, .inr (2, [.ref z0, .ref p1, .ref p2, .ref p3, .ref p4, .ref p5])), (p1, .inl (cI, 64, .inl fh)), (o1, .inl (cI, 6, .inl fo))] [(cI, .int)] sz0)) (va_Qv (fun (u : Nat → Int32) => ∀ S, S < 2 ^ K → u S = nI (ct_has la S K)) (fun (u : Nat → Int32) t => ct_at (dC, dI) ct_cl [(cI, .int)] (va_A [(p0, .inr (2, [.ref z0, .ref p1, .ref p2, .ref p3, .ref p4, .ref p5])), (p1, .inl (cI, 64, .inl fh)), (o1, .inl (cI, 6, .inl fo))] sz0) [(p0, .inr (2, [.ref z0, .ref p1, .ref p2, .ref p3, .ref p4, .ref p5])), (p1, .inl (cI, 64, .inl u)), (o1, .inl (cI, 6, .inl fo))] t) (va_A [(p0, .inr (2, [.ref z0, .ref p1, .ref p2, .ref p3, .ref p4, .ref p5])), (p1, .inl (cI, 64, .inl fh)), (o1, .inl (cI, 6, .inl fo))] sz0)) 0 0 (va_A [(p0, .inr (2, [.ref z0, .ref p1, .ref p2, .ref p3, .ref p4, .ref p5])), (p1, .inl (cI, 64, .inl fh)), (o1, .inl (cI, 6, .inl fo))] sz0) := by
  refine Met.ofW (cc := b_P_noteLabels) (maxL := 6) (ret := none) (by decide) rfl ?_
  intro p e s m args below meth c s₁ Bd hml hv
  obtain ⟨hargs, hsz, hP, hK, hD0⟩ := hv
  have hx := Bd.exec
  have hb := Bd.bytes
  have hr := Bd.returns
  have hts : ∀ w ∈ k_P_noteLabels :: ct_tb, w.before args s = true := atoms_spec (ws := w_P_noteLabels) Bd.pre
  have hown : s.vm.findClass R_P = some m.cls := findClass_of_methodNamed Bd.named
  have hlocks := Bd.notSynchronized
  subst hsz
  have hD := hD0.self (sz := s.heap.size)
  generalize hAe : va_A [(p0, .inr (2, [.ref z0, .ref p1, .ref p2, .ref p3, .ref p4, .ref p5])), (p1, .inl (cI, 64, .inl fh)), (o1, .inl (cI, 6, .inl fo))] s.heap.size = A at hD ⊢
  have hA : ∀ q : Nat, s.heap.size ≤ q → A q := fun q h => by rw [← hAe]; exact Or.inr h
  have hS : va_S A s.heap s.heap [] := va_S.rf
  have hl := lv_entry ([.ref p0, .ref o1, .int (nI K)]) (n := 6) (Nat.le_of_ble_eq_true rfl)
  rw [show entryFrame m args 6 = entryFrame m (([.ref p0, .ref o1, .int (nI K)] : List Value)).toArray 6 by rw [hargs], lg_entry_eq]
  generalize (lg_sl ([.ref p0, .ref o1, .int (nI K)]) ++ List.replicate (6 - (lg_sl ([.ref p0, .ref o1, .int (nI K)])).length) Slot.unset).toArray = ls at hl ⊢
  have hl : lv_has ls 6 [(0, .ref p0), (1, .ref o1), (2, .int (nI K))] := hl
  have loop : ∀ (n o : Nat), o + n = K → ∀ (g : Nat → Int32), (∀ S, S < 2 ^ o → g S = nI (ct_has la S o)) → ∀ (H : Heap) (locs : List Loc), va_P (dC, dI) ct_cl [(p0, .inr (2, [.ref z0, .ref p1, .ref p2, .ref p3, .ref p4, .ref p5])), (p1, .inl (cI, 64, .inl g)), (o1, .inl (cI, 6, .inl fo))] H → va_D A [(p0, .inr (2, [.ref z0, .ref p1, .ref p2, .ref p3, .ref p4, .ref p5])), (p1, .inl (cI, 64, .inl g)), (o1, .inl (cI, 6, .inl fo))] → va_S A s.heap H locs → ∀ (ls : Array Slot), lv_has ls 6 [(0, .ref p0), (1, .ref o1), (2, .int (nI K)), (3, .int (nI o))] → W p l e (headSpec w_P_noteLabels ({ frames := 0, cells := 0, slots := 0, locals := 0 } : Room)).room s m args below meth c H locs 0 0 (MQ below (va_Qv (fun (u : Nat → Int32) => ∀ S, S < 2 ^ K → u S = nI (ct_has la S K)) (fun (u : Nat → Int32) t => ct_at (dC, dI) ct_cl [(cI, .int)] (A) [(p0, .inr (2, [.ref z0, .ref p1, .ref p2, .ref p3, .ref p4, .ref p5])), (p1, .inl (cI, 64, .inl u)), (o1, .inl (cI, 6, .inl fo))] t) (A)) args s 0 0 A) (F0 m 2 ls []) := by
    intro n
    induction n with
    | zero =>
      intro o ho g hg H locs hP hD hS ls hl
      refine lv_iload_n hx hb d_P_noteLabels_2 rfl (lv_at hl 3 rfl) ?_
      refine lv_iload_n hx hb d_P_noteLabels_3 rfl (lv_at hl 2 rfl) ?_
      refine lv_icmp_ge (tgt := 55) hx hb d_P_noteLabels_4 (by decide) (fun _ => ?_) (fun hc9 => absurd (nI_le (by omega) (by omega)) hc9)
      have hP9 := hP.sub [0, 1, 2] rfl
      exact W.vret hx hb hr (fun tS ht hW => ⟨⟨g, rfl, fun S h9 => by rw [hg S (by rw [show o = K by omega]; exact h9), show o = K by omega], by rw [ht]; exact hP9, va_K.moved hW.alike hK, hD.sub [0, 1, 2] (by decide) rfl⟩, hS.F ht⟩) hS.2.2 d_P_noteLabels_55
    | succ n ih =>
      intro o ho g hg H locs hP hD hS ls hl
      refine lv_iload_n hx hb d_P_noteLabels_2 rfl (lv_at hl 3 rfl) ?_
      refine lv_iload_n hx hb d_P_noteLabels_3 rfl (lv_at hl 2 rfl) ?_
      refine lv_icmp_ge (tgt := 55) hx hb d_P_noteLabels_4 (by decide) (fun hc9 => absurd hc9 (nI_ge (by omega) (by omega))) (fun _ => ?_)
      have h2o := ct_2o o (by omega)
      have inner : ∀ (n2 j : Nat), j + n2 = 2 ^ o → ∀ (g : Nat → Int32), (∀ S, S < 2 ^ o + j → g S = nI (ct_has la S (o + 1))) → ∀ (H : Heap) (locs : List Loc), va_P (dC, dI) ct_cl [(p0, .inr (2, [.ref z0, .ref p1, .ref p2, .ref p3, .ref p4, .ref p5])), (p1, .inl (cI, 64, .inl g)), (o1, .inl (cI, 6, .inl fo))] H → va_D A [(p0, .inr (2, [.ref z0, .ref p1, .ref p2, .ref p3, .ref p4, .ref p5])), (p1, .inl (cI, 64, .inl g)), (o1, .inl (cI, 6, .inl fo))] → va_S A s.heap H locs → ∀ (ls : Array Slot), lv_has ls 6 [(0, .ref p0), (1, .ref o1), (2, .int (nI K)), (3, .int (nI o)), (4, .int (nI (2 ^ o))), (5, .int (nI j))] → W p l e (headSpec w_P_noteLabels ({ frames := 0, cells := 0, slots := 0, locals := 0 } : Room)).room s m args below meth c H locs 0 0 (MQ below (va_Qv (fun (u : Nat → Int32) => ∀ S, S < 2 ^ K → u S = nI (ct_has la S K)) (fun (u : Nat → Int32) t => ct_at (dC, dI) ct_cl [(cI, .int)] (A) [(p0, .inr (2, [.ref z0, .ref p1, .ref p2, .ref p3, .ref p4, .ref p5])), (p1, .inl (cI, 64, .inl u)), (o1, .inl (cI, 6, .inl fo))] t) (A)) args s 0 0 A) (F0 m 15 ls []) := by
        intro n2
        induction n2 with
        | zero =>
          intro j hj g hg H locs hP hD hS ls hl
          refine lv_iload hx hb d_P_noteLabels_15 (lv_at hl 5 rfl) ?_
          refine lv_iload hx hb d_P_noteLabels_17 (lv_at hl 4 rfl) ?_
          refine lv_icmp_ge (tgt := 49) hx hb d_P_noteLabels_19 (by decide) (fun _ => ?_) (fun hc9 => absurd (nI_le (by omega) (by omega)) hc9)
          refine lv_iinc (v := (nI (o + 1))) (lv' := [(3, .int (nI (o + 1))), (0, .ref p0), (1, .ref o1), (2, .int (nI K)), (4, .int (nI (2 ^ o))), (5, .int (nI j))]) hx hb d_P_noteLabels_49 hl (k := 3) rfl (nI_1 _) (by decide) rfl (fun ls hl => ?_)
          refine lv_goto (tgt := 2) hx hb d_P_noteLabels_52 (by decide) ?_
          exact ih (o + 1) (by omega) g (fun S h9 => hg S (by rw [Nat.pow_succ] at h9; omega)) H locs hP hD hS ls (lv_sub hl [1, 2, 3, 0] rfl)
        | succ n2 ih2 =>
          intro j hj g hg H locs hP hD hS ls hl
          refine lv_iload hx hb d_P_noteLabels_15 (lv_at hl 5 rfl) ?_
          refine lv_iload hx hb d_P_noteLabels_17 (lv_at hl 4 rfl) ?_
          refine lv_icmp_ge (tgt := 49) hx hb d_P_noteLabels_19 (by decide) (fun hc9 => absurd hc9 (nI_ge (by omega) (by omega))) (fun _ => ?_)
          refine lv_aload_n hx hb d_P_noteLabels_22 rfl (lv_at hl 0 rfl) ?_
          refine va_get (D := (dC, dI)) (ci := 2) (v := .ref p1) (C := R_P) (T := T_P) (N := 6) hx hb hts (fun w h9 => ct_tl (ki_P w h9)) hown hK hP 0 rfl rfl 1 (by decide) (hts _ (ct_tl kw_68)) (fun _ h9 => h9) rfl d_P_noteLabels_23 ?_
          refine lv_iload hx hb d_P_noteLabels_26 (lv_at hl 4 rfl) ?_
          refine lv_iload hx hb d_P_noteLabels_28 (lv_at hl 5 rfl) ?_
          refine lv_ior hx hb d_P_noteLabels_30 ?_
          refine ct_val (y := nI (2 ^ o + j)) (by rw [ct_or, ct_bitor o (by omega) j (by omega) (by omega)]) ?_
          refine lv_aload_n hx hb d_P_noteLabels_31 rfl (lv_at hl 1 rfl) ?_
          refine lv_iload_n hx hb d_P_noteLabels_32 rfl (lv_at hl 3 rfl) ?_
          refine ct_iald hx hb hK hP 2 0 rfl rfl (j := o) (by omega) (by omega) d_P_noteLabels_33 ?_
          refine ct_val (y := nI (la o)) (hfo o (by omega)) ?_
          refine lv_aload_n hx hb d_P_noteLabels_34 rfl (lv_at hl 0 rfl) ?_
          refine va_get (D := (dC, dI)) (ci := 2) (v := .ref p1) (C := R_P) (T := T_P) (N := 6) hx hb hts (fun w h9 => ct_tl (ki_P w h9)) hown hK hP 0 rfl rfl 1 (by decide) (hts _ (ct_tl kw_68)) (fun _ h9 => h9) rfl d_P_noteLabels_35 ?_
          refine lv_iload hx hb d_P_noteLabels_38 (lv_at hl 5 rfl) ?_
          refine ct_iald hx hb hK hP 1 0 rfl rfl (j := j) (by omega) (by omega) d_P_noteLabels_40 ?_
          refine ct_val (y := nI (ct_has la j o)) (by rw [hg j (by omega), ct_has_out (Nat.testBit_lt_two_pow (by omega))]) ?_
          refine lv_ior hx hb d_P_noteLabels_41 ?_
          refine ct_val (y := nI (ct_has la (2 ^ o + j) (o + 1))) (by rw [ct_or, Nat.or_comm, ct_has_new (by omega) (by omega)]) ?_
          refine ct_iast hx hb hK hP hD hS 1 0 rfl rfl (j := 2 ^ o + j) (by omega) (by omega) d_P_noteLabels_42 (fun H locs hP hD hS => ?_)
          have hP : va_P (dC, dI) ct_cl [(p0, .inr (2, [.ref z0, .ref p1, .ref p2, .ref p3, .ref p4, .ref p5])), (p1, .inl (cI, 64, .inl (upd g (2 ^ o + j) (nI (ct_has la (2 ^ o + j) (o + 1)))))), (o1, .inl (cI, 6, .inl fo))] H := hP
          have hD : va_D A [(p0, .inr (2, [.ref z0, .ref p1, .ref p2, .ref p3, .ref p4, .ref p5])), (p1, .inl (cI, 64, .inl (upd g (2 ^ o + j) (nI (ct_has la (2 ^ o + j) (o + 1)))))), (o1, .inl (cI, 6, .inl fo))] := hD
          refine lv_iinc (v := (nI (j + 1))) (lv' := [(5, .int (nI (j + 1))), (0, .ref p0), (1, .ref o1), (2, .int (nI K)), (3, .int (nI o)), (4, .int (nI (2 ^ o)))]) hx hb d_P_noteLabels_43 hl (k := 5) rfl (nI_1 _) (by decide) rfl (fun ls hl => ?_)
          refine lv_goto (tgt := 15) hx hb d_P_noteLabels_46 (by decide) ?_
          refine ih2 (j + 1) (by omega) _ (fun S h9 => ?_) H locs hP hD hS ls (lv_sub hl [1, 2, 3, 4, 5, 0] rfl)
          by_cases h8 : S = 2 ^ o + j
          · rw [h8]; exact pk_us
          · rw [pk_un h8]; exact hg S (by omega)
      refine lv_iconst (v := (nI 1)) hx hb d_P_noteLabels_7 (by decide) ?_
      refine lv_iload_n hx hb d_P_noteLabels_8 rfl (lv_at hl 3 rfl) ?_
      refine lv_ishl hx hb d_P_noteLabels_9 ?_
      refine ct_val (y := nI (2 ^ o)) ((ct_shl 1 (by omega) (by omega)).trans (by rw [Nat.one_mul])) ?_
      refine lv_istore (lv' := [(4, .int (nI (2 ^ o))), (0, .ref p0), (1, .ref o1), (2, .int (nI K)), (3, .int (nI o))]) hx hb d_P_noteLabels_10 hl (by decide) rfl (fun ls hl => ?_)
      refine lv_iconst (v := (nI 0)) hx hb d_P_noteLabels_12 (by decide) ?_
      refine lv_istore (lv' := [(5, .int (nI 0)), (4, .int (nI (2 ^ o))), (0, .ref p0), (1, .ref o1), (2, .int (nI K)), (3, .int (nI o))]) hx hb d_P_noteLabels_13 hl (by decide) rfl (fun ls hl => ?_)
      exact inner (2 ^ o) 0 (by omega) g (fun S h9 => by rw [hg S (by omega), ct_has_out (Nat.testBit_lt_two_pow (by omega))]) H locs hP hD hS ls (lv_sub hl [2, 3, 4, 5, 1, 0] rfl)
  refine lv_iconst (v := (nI 0)) hx hb d_P_noteLabels_0 (by decide) ?_
  refine lv_istore_n (lv' := [(3, .int (nI 0)), (0, .ref p0), (1, .ref o1), (2, .int (nI K))]) hx hb d_P_noteLabels_1 rfl hl (by decide) rfl (fun ls hl => ?_)
  exact loop K 0 (by omega) fh (fun S h9 => by rw [show S = 0 by omega]; exact hf0) s.heap [] hP hD hS ls (lv_sub hl [1, 2, 3, 0] rfl)
theorem ct_co_lt : ∀ K, K < 7 → ∀ S, S < 64 → S < 2 ^ K → ct_co K S < 2 ^ K := by decide +kernel
set_option maxHeartbeats 4000000 in
set_option maxRecDepth 100000 in
theorem c_P_noteLeaves (l : Launch) (dC : Nat → ClassId) (dI : Nat → Nat → Nat) (cI : ClassId) (z0 p0 p1 p2 p3 p4 p5 : Nat) (fh fl : Nat → Int32) (la : Nat → Nat) (K R S : Nat) (hK6 : K ≤ 6) (hS0 : 0 < S) (hSK : S < 2 ^ K) (hfh : ∀ T, T < 2 ^ K → fh T = nI (ct_has la T K)) (sz0 : Nat) : Met l y_P_noteLeaves w_P_noteLeaves ({ frames := 1, cells := 0, slots := 0, locals := 20 }) (va_Pc [.ref p0, .int (nI S), .int (nI (2 ^ K - 1)), .int (nI R)] (ct_rw (dC, dI) ct_cl [(p0, .inr (2, [.ref z0, .ref p1, .ref p2, .ref p3, .ref p4, .ref p5])), (p1, .inl (cI, 64, .inl fh)), (p2, .inl (cI, 64, .inl fl))] [(cI, .int)] sz0)) (va_Qv (fun (u : Unit) => True) (fun (u : Unit) t => ct_at (dC, dI) ct_cl [(cI, .int)] (va_A [(p0, .inr (2, [.ref z0, .ref p1, .ref p2, .ref p3, .ref p4, .ref p5])), (p1, .inl (cI, 64, .inl fh)), (p2, .inl (cI, 64, .inl fl))] sz0) [(p0, .inr (2, [.ref z0, .ref p1, .ref p2, .ref p3, .ref p4, .ref p5])), (p1, .inl (cI, 64, .inl fh)), (p2, .inl (cI, 64, .inl (upd fl S (nI (ct_lv la K R S)))))] t) (va_A [(p0, .inr (2, [.ref z0, .ref p1, .ref p2, .ref p3, .ref p4, .ref p5])), (p1, .inl (cI, 64, .inl fh)), (p2, .inl (cI, 64, .inl fl))] sz0)) 0 0 (va_A [(p0, .inr (2, [.ref z0, .ref p1, .ref p2, .ref p3, .ref p4, .ref p5])), (p1, .inl (cI, 64, .inl fh)), (p2, .inl (cI, 64, .inl fl))] sz0) := by
  refine Met.ofW (cc := b_P_noteLeaves) (maxL := 4) (ret := none) (by decide) rfl ?_
  intro p e s m args below meth c s₁ Bd hml hv
  obtain ⟨hargs, hsz, hP, hK, hD0⟩ := hv
  have hx := Bd.exec
  have hb := Bd.bytes
  have hr := Bd.returns
  have hts : ∀ w ∈ k_P_noteLeaves :: ct_tb, w.before args s = true := atoms_spec (ws := w_P_noteLeaves) Bd.pre
  have hown : s.vm.findClass R_P = some m.cls := findClass_of_methodNamed Bd.named
  have hlocks := Bd.notSynchronized
  subst hsz
  have hD := hD0.self (sz := s.heap.size)
  generalize hAe : va_A [(p0, .inr (2, [.ref z0, .ref p1, .ref p2, .ref p3, .ref p4, .ref p5])), (p1, .inl (cI, 64, .inl fh)), (p2, .inl (cI, 64, .inl fl))] s.heap.size = A at hD ⊢
  have hA : ∀ q : Nat, s.heap.size ≤ q → A q := fun q h => by rw [← hAe]; exact Or.inr h
  have hS : va_S A s.heap s.heap [] := va_S.rf
  have hl := lv_entry ([.ref p0, .int (nI S), .int (nI (2 ^ K - 1)), .int (nI R)]) (n := 4) (Nat.le_of_ble_eq_true rfl)
  rw [show entryFrame m args 4 = entryFrame m (([.ref p0, .int (nI S), .int (nI (2 ^ K - 1)), .int (nI R)] : List Value)).toArray 4 by rw [hargs], lg_entry_eq]
  generalize (lg_sl ([.ref p0, .int (nI S), .int (nI (2 ^ K - 1)), .int (nI R)]) ++ List.replicate (4 - (lg_sl ([.ref p0, .int (nI S), .int (nI (2 ^ K - 1)), .int (nI R)])).length) Slot.unset).toArray = ls at hl ⊢
  have hl : lv_has ls 4 [(0, .ref p0), (1, .int (nI S)), (2, .int (nI (2 ^ K - 1))), (3, .int (nI R))] := hl
  have h2K := ct_2K K (by omega)
  have hco := ct_co_lt K (by omega) S (by omega) hSK
  refine lv_aload_n hx hb d_P_noteLeaves_0 rfl (lv_at hl 0 rfl) ?_
  refine va_get (D := (dC, dI)) (ci := 2) (v := .ref p2) (C := R_P) (T := T_P) (N := 6) hx hb hts (fun w h9 => ct_tl (ki_P w h9)) hown hK hP 0 rfl rfl 2 (by decide) (hts _ (ct_tl kw_69)) (fun _ h9 => h9) rfl d_P_noteLeaves_1 ?_
  refine lv_iload_n hx hb d_P_noteLeaves_4 rfl (lv_at hl 1 rfl) ?_
  refine lv_iload_n hx hb d_P_noteLeaves_5 rfl (lv_at hl 1 rfl) ?_
  refine va_calli (va_runS (As := [.int (nI S)]) (rest := [.int (nI S), .ref p2]) ⟨hx, hb, hml, hown, hts⟩ (c_P_isSeveral l dC dI cI S (by omega) hS0) (va_cwS 1 hts (ct_giT (fun w h9 => ct_tl h9) kw_179 kw_180 kw_28 kw_181) rfl rfl rfl (by decide +kernel) ⟨Nat.le_of_ble_eq_true rfl, Nat.le_of_ble_eq_true rfl⟩) ⟨ct_ro_blind, ct_ro_pre (hP.sub [] rfl) hK⟩ rfl rfl hl.1 rfl (lv_room (Nat.le_of_ble_eq_true rfl)) d_P_noteLeaves_6 ⟨Nat.le_of_ble_eq_true rfl, Nat.le_of_ble_eq_true rfl⟩) hS (fun q _ h9 => h9.elim) (fun q h9 => h9.elim) (fun ans1 uS tS H locs ht hvm hwans1 hB hz1 hk1 hS => ?_)
  have hP := ct_keep hP hk1
  refine ct_val (y := nI (if ct_sev S = true then 1 else 0)) (hwans1) ?_
  by_cases hs : ct_sev S = true
  · rw [if_pos hs]
    refine lv_if_eq (tgt := 32) hx hb d_P_noteLeaves_9 (by decide) (fun hc9 => absurd hc9 (nI_ne0 (by omega) (by omega))) (fun _ => ?_)
    refine lv_aload_n hx hb d_P_noteLeaves_12 rfl (lv_at hl 0 rfl) ?_
    refine va_get (D := (dC, dI)) (ci := 2) (v := .ref p1) (C := R_P) (T := T_P) (N := 6) hx hb hts (fun w h9 => ct_tl (ki_P w h9)) hown hK hP 0 rfl rfl 1 (by decide) (hts _ (ct_tl kw_68)) (fun _ h9 => h9) rfl d_P_noteLeaves_13 ?_
    refine lv_iload_n hx hb d_P_noteLeaves_16 rfl (lv_at hl 1 rfl) ?_
    refine ct_iald hx hb hK hP 1 0 rfl rfl (j := S) (by omega) (by omega) d_P_noteLeaves_17 ?_
    refine ct_val (y := nI (ct_has la S K)) (hfh S hSK) ?_
    refine lv_iload_n hx hb d_P_noteLeaves_18 rfl (lv_at hl 3 rfl) ?_
    refine lv_aload_n hx hb d_P_noteLeaves_19 rfl (lv_at hl 0 rfl) ?_
    refine va_get (D := (dC, dI)) (ci := 2) (v := .ref p1) (C := R_P) (T := T_P) (N := 6) hx hb hts (fun w h9 => ct_tl (ki_P w h9)) hown hK hP 0 rfl rfl 1 (by decide) (hts _ (ct_tl kw_68)) (fun _ h9 => h9) rfl d_P_noteLeaves_20 ?_
    refine lv_iload_n hx hb d_P_noteLeaves_23 rfl (lv_at hl 2 rfl) ?_
    refine lv_iload_n hx hb d_P_noteLeaves_24 rfl (lv_at hl 1 rfl) ?_
    refine lv_ixor hx hb d_P_noteLeaves_25 ?_
    refine ct_val (y := nI (ct_co K S)) (by rw [ct_xor]; rfl) ?_
    refine ct_iald hx hb hK hP 1 0 rfl rfl (j := ct_co K S) (by omega) (by omega) d_P_noteLeaves_26 ?_
    refine ct_val (y := nI (ct_has la (ct_co K S) K)) (hfh _ hco) ?_
    refine lv_ior hx hb d_P_noteLeaves_27 ?_
    refine ct_val (y := nI (R ||| ct_has la (ct_co K S) K)) (ct_or _ _) ?_
    refine lv_iand hx hb d_P_noteLeaves_28 ?_
    refine ct_val (y := nI (ct_lv la K R S)) (by rw [ct_and, ct_lv, if_pos hs]) ?_
    refine lv_goto (tgt := 38) hx hb d_P_noteLeaves_29 (by decide) ?_
    refine ct_iast hx hb hK hP hD hS 2 0 rfl rfl (j := S) (by omega) (by omega) d_P_noteLeaves_38 (fun H locs hP hD hS => ?_)
    have hP : va_P (dC, dI) ct_cl [(p0, .inr (2, [.ref z0, .ref p1, .ref p2, .ref p3, .ref p4, .ref p5])), (p1, .inl (cI, 64, .inl fh)), (p2, .inl (cI, 64, .inl (upd fl S (nI (ct_lv la K R S)))))] H := hP
    have hD : va_D A [(p0, .inr (2, [.ref z0, .ref p1, .ref p2, .ref p3, .ref p4, .ref p5])), (p1, .inl (cI, 64, .inl fh)), (p2, .inl (cI, 64, .inl (upd fl S (nI (ct_lv la K R S)))))] := hD
    have hP9 := hP.sub [0, 1, 2] rfl
    exact W.vret hx hb hr (fun tS ht hW => ⟨⟨(), rfl, trivial, by rw [ht]; exact hP9, va_K.moved hW.alike hK, hD.sub [0, 1, 2] (by decide) rfl⟩, hS.F ht⟩) hS.2.2 d_P_noteLeaves_39
  · rw [if_neg hs]
    refine lv_if_eq (tgt := 32) hx hb d_P_noteLeaves_9 (by decide) (fun _ => ?_) (fun hc9 => absurd (nI_0) hc9)
    refine lv_aload_n hx hb d_P_noteLeaves_32 rfl (lv_at hl 0 rfl) ?_
    refine va_get (D := (dC, dI)) (ci := 2) (v := .ref p1) (C := R_P) (T := T_P) (N := 6) hx hb hts (fun w h9 => ct_tl (ki_P w h9)) hown hK hP 0 rfl rfl 1 (by decide) (hts _ (ct_tl kw_68)) (fun _ h9 => h9) rfl d_P_noteLeaves_33 ?_
    refine lv_iload_n hx hb d_P_noteLeaves_36 rfl (lv_at hl 1 rfl) ?_
    refine ct_iald hx hb hK hP 1 0 rfl rfl (j := S) (by omega) (by omega) d_P_noteLeaves_37 ?_
    refine ct_val (y := nI (ct_lv la K R S)) (by rw [hfh S hSK, ct_lv, if_neg hs]) ?_
    refine ct_iast hx hb hK hP hD hS 2 0 rfl rfl (j := S) (by omega) (by omega) d_P_noteLeaves_38 (fun H locs hP hD hS => ?_)
    have hP : va_P (dC, dI) ct_cl [(p0, .inr (2, [.ref z0, .ref p1, .ref p2, .ref p3, .ref p4, .ref p5])), (p1, .inl (cI, 64, .inl fh)), (p2, .inl (cI, 64, .inl (upd fl S (nI (ct_lv la K R S)))))] H := hP
    have hD : va_D A [(p0, .inr (2, [.ref z0, .ref p1, .ref p2, .ref p3, .ref p4, .ref p5])), (p1, .inl (cI, 64, .inl fh)), (p2, .inl (cI, 64, .inl (upd fl S (nI (ct_lv la K R S)))))] := hD
    have hP9 := hP.sub [0, 1, 2] rfl
    exact W.vret hx hb hr (fun tS ht hW => ⟨⟨(), rfl, trivial, by rw [ht]; exact hP9, va_K.moved hW.alike hK, hD.sub [0, 1, 2] (by decide) rfl⟩, hS.F ht⟩) hS.2.2 d_P_noteLeaves_39
theorem ct_or64 : ∀ S, S < 64 → ∀ a, a < 64 → a ||| S < 64 := by decide +kernel
theorem ct_and64 : ∀ S, S < 64 → ∀ a, a < 64 → a &&& S < 64 := by decide +kernel
theorem ct_low64 : ∀ S, S < 64 → ct_low S < 64 := by decide +kernel
theorem ct_sev0 {S : Nat} (h : ct_sev S = true) : 0 < S := by
  rcases Nat.eq_zero_or_pos S with h9 | h9
  · rw [h9] at h; exact absurd h (by decide)
  · exact h9
theorem ct_pt_1 {S a : Nat} (h : ct_pt S a = true) : a &&& S = a ∧ a &&& ct_low S ≠ 0 := by
  simpa [ct_pt] using h
theorem ct_pt_2 {S a : Nat} (h1 : a &&& S = a) (h2 : a &&& ct_low S ≠ 0) : ct_pt S a = true := by
  simp [ct_pt, h1, h2]
set_option maxHeartbeats 4000000 in
set_option maxRecDepth 100000 in
theorem c_P_choosePart (l : Launch) (dC : Nat → ClassId) (dI : Nat → Nat → Nat) (cI : ClassId) (z1 : Nat) (sz : Nat → Nat) (z0 p0 p1 p2 p3 p4 p5 : Nat) (fl fc fp : Nat → Int32) (lv cs cost : Nat → Nat) (S : Nat) (hS6 : S < 64) (hs : ct_sev S = true) (hfl : ∀ a, 0 < a → a ≤ S → fl a = nI (lv a)) (hfc : ∀ a, 0 < a → a < S → fc a = nI (cs a)) (hlv : ∀ a, lv a < 256) (hcost : ∀ a, a < S → ct_pt S a = true → cost a = cs a + cs (S ^^^ a) + ct_pr sz (lv a ||| lv (S ^^^ a)).testBit 8) (hcb : ∀ a, a < S → ct_pt S a = true → cost a < 2 ^ 31) (sz0 : Nat) : Met l y_P_choosePart w_P_choosePart ({ frames := 2, cells := 0, slots := 0, locals := 45 }) (va_Pc [.ref p0, .int (nI S)] (ct_rw (dC, dI) ct_cl [(p0, .inr (2, [.ref z0, .ref p1, .ref p2, .ref p3, .ref p4, .ref p5])), (p2, .inl (cI, 64, .inl fl)), (p3, .inl (cI, 64, .inl fc)), (p4, .inl (cI, 64, .inl fp)), (z0, .inr (1, [.ref z1])), (z1, .inl (cI, 8, .inl (fun j => nI (sz j))))] [(cI, .int)] sz0)) (va_Qv (fun (u : Unit) => True) (fun (u : Unit) t => ct_at (dC, dI) ct_cl [(cI, .int)] (va_A [(p0, .inr (2, [.ref z0, .ref p1, .ref p2, .ref p3, .ref p4, .ref p5])), (p2, .inl (cI, 64, .inl fl)), (p3, .inl (cI, 64, .inl fc)), (p4, .inl (cI, 64, .inl fp)), (z0, .inr (1, [.ref z1])), (z1, .inl (cI, 8, .inl (fun j => nI (sz j))))] sz0) [(p0, .inr (2, [.ref z0, .ref p1, .ref p2, .ref p3, .ref p4, .ref p5])), (p2, .inl (cI, 64, .inl fl)), (p3, .inl (cI, 64, .inl (upd fc S (nI (ct_sc cost S S).1)))), (p4, .inl (cI, 64, .inl (upd fp S (nI (ct_sc cost S S).2)))), (z0, .inr (1, [.ref z1])), (z1, .inl (cI, 8, .inl (fun j => nI (sz j))))] t) (va_A [(p0, .inr (2, [.ref z0, .ref p1, .ref p2, .ref p3, .ref p4, .ref p5])), (p2, .inl (cI, 64, .inl fl)), (p3, .inl (cI, 64, .inl fc)), (p4, .inl (cI, 64, .inl fp)), (z0, .inr (1, [.ref z1])), (z1, .inl (cI, 8, .inl (fun j => nI (sz j))))] sz0)) 0 0 (va_A [(p0, .inr (2, [.ref z0, .ref p1, .ref p2, .ref p3, .ref p4, .ref p5])), (p2, .inl (cI, 64, .inl fl)), (p3, .inl (cI, 64, .inl fc)), (p4, .inl (cI, 64, .inl fp)), (z0, .inr (1, [.ref z1])), (z1, .inl (cI, 8, .inl (fun j => nI (sz j))))] sz0) := by
  refine Met.ofW (cc := b_P_choosePart) (maxL := 8) (ret := none) (by decide) rfl ?_
  intro p e s m args below meth c s₁ Bd hml hv
  obtain ⟨hargs, hsz, hP, hK, hD0⟩ := hv
  have hx := Bd.exec
  have hb := Bd.bytes
  have hr := Bd.returns
  have hts : ∀ w ∈ k_P_choosePart :: ct_tb, w.before args s = true := atoms_spec (ws := w_P_choosePart) Bd.pre
  have hown : s.vm.findClass R_P = some m.cls := findClass_of_methodNamed Bd.named
  have hlocks := Bd.notSynchronized
  subst hsz
  have hD := hD0.self (sz := s.heap.size)
  generalize hAe : va_A [(p0, .inr (2, [.ref z0, .ref p1, .ref p2, .ref p3, .ref p4, .ref p5])), (p2, .inl (cI, 64, .inl fl)), (p3, .inl (cI, 64, .inl fc)), (p4, .inl (cI, 64, .inl fp)), (z0, .inr (1, [.ref z1])), (z1, .inl (cI, 8, .inl (fun j => nI (sz j))))] s.heap.size = A at hD ⊢
  have hA : ∀ q : Nat, s.heap.size ≤ q → A q := fun q h => by rw [← hAe]; exact Or.inr h
  have hS : va_S A s.heap s.heap [] := va_S.rf
  have hl := lv_entry ([.ref p0, .int (nI S)]) (n := 8) (Nat.le_of_ble_eq_true rfl)
  rw [show entryFrame m args 8 = entryFrame m (([.ref p0, .int (nI S)] : List Value)).toArray 8 by rw [hargs], lg_entry_eq]
  generalize (lg_sl ([.ref p0, .int (nI S)]) ++ List.replicate (8 - (lg_sl ([.ref p0, .int (nI S)])).length) Slot.unset).toArray = ls at hl ⊢
  have hl : lv_has ls 8 [(0, .ref p0), (1, .int (nI S))] := hl
  have hS0 := ct_sev0 hs
  have hlow := ct_low_sev S hS6 hs
  have hlow0 := ct_low_pos S hS6 hS0
  have hscb : ∀ n, n ≤ S → (ct_sc cost S n).1 < 2 ^ 31 ∧ (ct_sc cost S n).2 < 64 := fun n hn => by
      rcases ct_sc_is (cost := cost) (S := S) n with h9 | ⟨h7, h8, h9⟩
      · rw [h9]; exact ⟨by omega, by omega⟩
      · rw [h9]; exact ⟨hcb _ (by omega) h8, by omega⟩
  have loop : ∀ (n a : Nat), a + n = S → ct_low S ≤ a → ∀ (H : Heap) (locs : List Loc), va_P (dC, dI) ct_cl [(p0, .inr (2, [.ref z0, .ref p1, .ref p2, .ref p3, .ref p4, .ref p5])), (p2, .inl (cI, 64, .inl fl)), (p3, .inl (cI, 64, .inl fc)), (p4, .inl (cI, 64, .inl fp)), (z0, .inr (1, [.ref z1])), (z1, .inl (cI, 8, .inl (fun j => nI (sz j))))] H → va_D A [(p0, .inr (2, [.ref z0, .ref p1, .ref p2, .ref p3, .ref p4, .ref p5])), (p2, .inl (cI, 64, .inl fl)), (p3, .inl (cI, 64, .inl fc)), (p4, .inl (cI, 64, .inl fp)), (z0, .inr (1, [.ref z1])), (z1, .inl (cI, 8, .inl (fun j => nI (sz j))))] → va_S A s.heap H locs → ∀ (ls : Array Slot), lv_has ls 8 [(0, .ref p0), (1, .int (nI S)), (2, .int (nI (ct_low S))), (3, .int (nI (ct_sc cost S a).2)), (4, .int (nI (ct_sc cost S a).1)), (5, .int (nI a))] → W p l e (headSpec w_P_choosePart ({ frames := 2, cells := 0, slots := 0, locals := 45 } : Room)).room s m args below meth c H locs 0 0 (MQ below (va_Qv (fun (u : Unit) => True) (fun (u : Unit) t => ct_at (dC, dI) ct_cl [(cI, .int)] (A) [(p0, .inr (2, [.ref z0, .ref p1, .ref p2, .ref p3, .ref p4, .ref p5])), (p2, .inl (cI, 64, .inl fl)), (p3, .inl (cI, 64, .inl (upd fc S (nI (ct_sc cost S S).1)))), (p4, .inl (cI, 64, .inl (upd fp S (nI (ct_sc cost S S).2)))), (z0, .inr (1, [.ref z1])), (z1, .inl (cI, 8, .inl (fun j => nI (sz j))))] t) (A)) args s 0 0 A) (F0 m 13 ls []) := by
    intro n
    induction n with
    | zero =>
      intro a ha hla H locs hP hD hS ls hl
      have haS : a = S := by omega
      rw [haS] at hl
      refine lv_iload hx hb d_P_choosePart_13 (lv_at hl 5 rfl) ?_
      refine lv_iload_n hx hb d_P_choosePart_15 rfl (lv_at hl 1 rfl) ?_
      refine lv_icmp_ge (tgt := 90) hx hb d_P_choosePart_16 (by decide) (fun _ => ?_) (fun hc9 => absurd (nI_le (by omega) (by omega)) hc9)
      refine lv_aload_n hx hb d_P_choosePart_90 rfl (lv_at hl 0 rfl) ?_
      refine va_get (D := (dC, dI)) (ci := 2) (v := .ref p4) (C := R_P) (T := T_P) (N := 6) hx hb hts (fun w h9 => ct_tl (ki_P w h9)) hown hK hP 0 rfl rfl 4 (by decide) (hts _ (ct_tl kw_71)) (fun _ h9 => h9) rfl d_P_choosePart_91 ?_
      refine lv_iload_n hx hb d_P_choosePart_94 rfl (lv_at hl 1 rfl) ?_
      refine lv_iload_n hx hb d_P_choosePart_95 rfl (lv_at hl 3 rfl) ?_
      refine ct_iast hx hb hK hP hD hS 3 0 rfl rfl (j := S) (by omega) (by omega) d_P_choosePart_96 (fun H locs hP hD hS => ?_)
      have hP : va_P (dC, dI) ct_cl [(p0, .inr (2, [.ref z0, .ref p1, .ref p2, .ref p3, .ref p4, .ref p5])), (p2, .inl (cI, 64, .inl fl)), (p3, .inl (cI, 64, .inl fc)), (p4, .inl (cI, 64, .inl (upd fp S (nI (ct_sc cost S S).2)))), (z0, .inr (1, [.ref z1])), (z1, .inl (cI, 8, .inl (fun j => nI (sz j))))] H := hP
      have hD : va_D A [(p0, .inr (2, [.ref z0, .ref p1, .ref p2, .ref p3, .ref p4, .ref p5])), (p2, .inl (cI, 64, .inl fl)), (p3, .inl (cI, 64, .inl fc)), (p4, .inl (cI, 64, .inl (upd fp S (nI (ct_sc cost S S).2)))), (z0, .inr (1, [.ref z1])), (z1, .inl (cI, 8, .inl (fun j => nI (sz j))))] := hD
      refine lv_aload_n hx hb d_P_choosePart_97 rfl (lv_at hl 0 rfl) ?_
      refine va_get (D := (dC, dI)) (ci := 2) (v := .ref p3) (C := R_P) (T := T_P) (N := 6) hx hb hts (fun w h9 => ct_tl (ki_P w h9)) hown hK hP 0 rfl rfl 3 (by decide) (hts _ (ct_tl kw_70)) (fun _ h9 => h9) rfl d_P_choosePart_98 ?_
      refine lv_iload_n hx hb d_P_choosePart_101 rfl (lv_at hl 1 rfl) ?_
      refine lv_iload hx hb d_P_choosePart_102 (lv_at hl 4 rfl) ?_
      refine ct_iast hx hb hK hP hD hS 2 0 rfl rfl (j := S) (by omega) (by omega) d_P_choosePart_104 (fun H locs hP hD hS => ?_)
      have hP : va_P (dC, dI) ct_cl [(p0, .inr (2, [.ref z0, .ref p1, .ref p2, .ref p3, .ref p4, .ref p5])), (p2, .inl (cI, 64, .inl fl)), (p3, .inl (cI, 64, .inl (upd fc S (nI (ct_sc cost S S).1)))), (p4, .inl (cI, 64, .inl (upd fp S (nI (ct_sc cost S S).2)))), (z0, .inr (1, [.ref z1])), (z1, .inl (cI, 8, .inl (fun j => nI (sz j))))] H := hP
      have hD : va_D A [(p0, .inr (2, [.ref z0, .ref p1, .ref p2, .ref p3, .ref p4, .ref p5])), (p2, .inl (cI, 64, .inl fl)), (p3, .inl (cI, 64, .inl (upd fc S (nI (ct_sc cost S S).1)))), (p4, .inl (cI, 64, .inl (upd fp S (nI (ct_sc cost S S).2)))), (z0, .inr (1, [.ref z1])), (z1, .inl (cI, 8, .inl (fun j => nI (sz j))))] := hD
      have hP9 := hP.sub [0, 1, 2, 3, 4, 5] rfl
      exact W.vret hx hb hr (fun tS ht hW => ⟨⟨(), rfl, trivial, by rw [ht]; exact hP9, va_K.moved hW.alike hK, hD.sub [0, 1, 2, 3, 4, 5] (by decide) rfl⟩, hS.F ht⟩) hS.2.2 d_P_choosePart_105
    | succ n ih =>
      intro a ha hla H locs hP hD hS ls hl
      refine lv_iload hx hb d_P_choosePart_13 (lv_at hl 5 rfl) ?_
      refine lv_iload_n hx hb d_P_choosePart_15 rfl (lv_at hl 1 rfl) ?_
      refine lv_icmp_ge (tgt := 90) hx hb d_P_choosePart_16 (by decide) (fun hc9 => absurd hc9 (nI_ge (by omega) (by omega))) (fun _ => ?_)
      have hsb := hscb a (by omega)
      refine lv_iload hx hb d_P_choosePart_19 (lv_at hl 5 rfl) ?_
      refine lv_iload_n hx hb d_P_choosePart_21 rfl (lv_at hl 2 rfl) ?_
      refine lv_iand hx hb d_P_choosePart_22 ?_
      refine ct_val (y := nI (a &&& ct_low S)) (ct_and _ _) ?_
      have hal := ct_and64 (ct_low S) (ct_low64 S hS6) a (by omega)
      by_cases hp : ct_pt S a = true
      · have hp2 := ct_pt_1 hp
        have hpc := ct_pt_co S hS6 a (by omega) hp
        have ha0 := ct_pt_pos hp
        refine lv_if_eq (tgt := 84) hx hb d_P_choosePart_23 (by decide) (fun hc9 => absurd hc9 (nI_ne0 (by omega) (by omega))) (fun _ => ?_)
        refine lv_iload hx hb d_P_choosePart_26 (lv_at hl 5 rfl) ?_
        refine lv_iload_n hx hb d_P_choosePart_28 rfl (lv_at hl 1 rfl) ?_
        refine lv_ior hx hb d_P_choosePart_29 ?_
        refine ct_val (y := nI S) (by rw [ct_or, (ct_pt_or S hS6 a (by omega)).mpr hp2.1]) ?_
        refine lv_iload_n hx hb d_P_choosePart_30 rfl (lv_at hl 1 rfl) ?_
        refine lv_icmp_ne (tgt := 84) hx hb d_P_choosePart_31 (by decide) (fun hc9 => absurd (rfl) hc9) (fun _ => ?_)
        refine lv_iload_n hx hb d_P_choosePart_34 rfl (lv_at hl 1 rfl) ?_
        refine lv_iload hx hb d_P_choosePart_35 (lv_at hl 5 rfl) ?_
        refine lv_ixor hx hb d_P_choosePart_37 ?_
        refine ct_val (y := nI (S ^^^ a)) (ct_xor _ _) ?_
        refine lv_istore (lv' := [(6, .int (nI (S ^^^ a))), (0, .ref p0), (1, .int (nI S)), (2, .int (nI (ct_low S))), (3, .int (nI (ct_sc cost S a).2)), (4, .int (nI (ct_sc cost S a).1)), (5, .int (nI a))]) hx hb d_P_choosePart_38 hl (by decide) rfl (fun ls hl => ?_)
        refine lv_aload_n hx hb d_P_choosePart_40 rfl (lv_at hl 1 rfl) ?_
        refine va_get (D := (dC, dI)) (ci := 2) (v := .ref p3) (C := R_P) (T := T_P) (N := 6) hx hb hts (fun w h9 => ct_tl (ki_P w h9)) hown hK hP 0 rfl rfl 3 (by decide) (hts _ (ct_tl kw_70)) (fun _ h9 => h9) rfl d_P_choosePart_41 ?_
        refine lv_iload hx hb d_P_choosePart_44 (lv_at hl 6 rfl) ?_
        refine ct_iald hx hb hK hP 2 0 rfl rfl (j := a) (by omega) (by omega) d_P_choosePart_46 ?_
        refine ct_val (y := nI (cs a)) (hfc a ha0 (by omega)) ?_
        refine lv_aload_n hx hb d_P_choosePart_47 rfl (lv_at hl 1 rfl) ?_
        refine va_get (D := (dC, dI)) (ci := 2) (v := .ref p3) (C := R_P) (T := T_P) (N := 6) hx hb hts (fun w h9 => ct_tl (ki_P w h9)) hown hK hP 0 rfl rfl 3 (by decide) (hts _ (ct_tl kw_70)) (fun _ h9 => h9) rfl d_P_choosePart_48 ?_
        refine lv_iload hx hb d_P_choosePart_51 (lv_at hl 0 rfl) ?_
        refine ct_iald hx hb hK hP 2 0 rfl rfl (j := S ^^^ a) (by omega) (by omega) d_P_choosePart_53 ?_
        refine ct_val (y := nI (cs (S ^^^ a))) (hfc _ hpc.1 hpc.2.1) ?_
        refine lv_iadd hx hb d_P_choosePart_54 ?_
        refine ct_val (y := nI (cs a + cs (S ^^^ a))) (nI_add _ _) ?_
        refine lv_aload_n hx hb d_P_choosePart_55 rfl (lv_at hl 1 rfl) ?_
        refine lv_iload hx hb d_P_choosePart_56 (lv_at hl 6 rfl) ?_
        refine lv_iload hx hb d_P_choosePart_58 (lv_at hl 0 rfl) ?_
        refine va_calli (va_runV (As := [.int (nI a), .int (nI (S ^^^ a))]) (rest := [.int (nI (cs a + cs (S ^^^ a)))]) ⟨hx, hb, hml, hown, hts⟩ (c_P_joinCost l dC dI cI z1 sz z0 p0 p1 p2 p3 p4 p5 fl a (S ^^^ a) (lv a) (lv (S ^^^ a)) (by omega) (by omega) (hfl a ha0 (by omega)) (hfl _ hpc.1 (by omega)) (Nat.lt_trans (Nat.or_lt_two_pow (n := 8) (hlv _) (hlv _)) (by omega))) (cwV 2 hts (ct_giV (fun w h9 => ct_tl h9) kw_186 kw_187 kw_188 kw_28 kw_189) rfl rfl rfl (by decide +kernel) ⟨Nat.le_of_ble_eq_true rfl, Nat.le_of_ble_eq_true rfl⟩) ⟨ct_ro_blind, va_recv hK hP (ci := 2) (q0 := 0) rfl rfl, ct_ro_pre (hP.sub [0, 1, 4, 5] rfl) hK⟩ rfl rfl hl.1 rfl (lv_room (Nat.le_of_ble_eq_true rfl)) d_P_choosePart_60 ⟨Nat.le_of_ble_eq_true rfl, Nat.le_of_ble_eq_true rfl⟩) hS (fun q _ h9 => h9.elim) (fun q h9 => h9.elim) (fun ans101 uS tS H locs ht hvm hwans101 hB hz1 hk1 hS => ?_)
        have hP := ct_keep hP hk1
        refine ct_val (y := nI (ct_pr sz (lv a ||| lv (S ^^^ a)).testBit 8)) (hwans101) ?_
        have hca := hcb a (by omega) hp
        refine lv_iadd hx hb d_P_choosePart_63 ?_
        refine ct_val (y := nI (cost a)) (by rw [nI_add, hcost a (by omega) hp]) ?_
        refine lv_istore (lv' := [(7, .int (nI (cost a))), (6, .int (nI (S ^^^ a))), (0, .ref p0), (1, .int (nI S)), (2, .int (nI (ct_low S))), (3, .int (nI (ct_sc cost S a).2)), (4, .int (nI (ct_sc cost S a).1)), (5, .int (nI a))]) hx hb d_P_choosePart_64 hl (by decide) rfl (fun ls hl => ?_)
        refine lv_iload_n hx hb d_P_choosePart_66 rfl (lv_at hl 5 rfl) ?_
        by_cases h3 : (ct_sc cost S a).2 = 0
        · refine lv_if_eq (tgt := 77) hx hb d_P_choosePart_67 (by decide) (fun _ => ?_) (fun hc9 => absurd (by rw [h3]; exact nI_0) hc9)
          refine lv_iload hx hb d_P_choosePart_77 (lv_at hl 7 rfl) ?_
          refine lv_istore_n (lv' := [(3, .int (nI a)), (7, .int (nI (cost a))), (6, .int (nI (S ^^^ a))), (0, .ref p0), (1, .int (nI S)), (2, .int (nI (ct_low S))), (4, .int (nI (ct_sc cost S a).1)), (5, .int (nI a))]) hx hb d_P_choosePart_79 rfl hl (by decide) rfl (fun ls hl => ?_)
          refine lv_iload hx hb d_P_choosePart_80 (lv_at hl 1 rfl) ?_
          refine lv_istore (lv' := [(4, .int (nI (cost a))), (3, .int (nI a)), (7, .int (nI (cost a))), (6, .int (nI (S ^^^ a))), (0, .ref p0), (1, .int (nI S)), (2, .int (nI (ct_low S))), (5, .int (nI a))]) hx hb d_P_choosePart_82 hl (by decide) rfl (fun ls hl => ?_)
          refine lv_iinc (v := (nI (a + 1))) (lv' := [(5, .int (nI (a + 1))), (4, .int (nI (cost a))), (3, .int (nI a)), (7, .int (nI (cost a))), (6, .int (nI (S ^^^ a))), (0, .ref p0), (1, .int (nI S)), (2, .int (nI (ct_low S)))]) hx hb d_P_choosePart_84 hl (k := 7) rfl (nI_1 _) (by decide) rfl (fun ls hl => ?_)
          refine lv_goto (tgt := 13) hx hb d_P_choosePart_87 (by decide) ?_
          exact ih (a + 1) (by omega) (by omega) H locs hP hD hS ls (by rw [ct_sc_yes hp (Or.inl h3)]; exact lv_sub hl [5, 6, 7, 2, 1, 0] rfl)
        · refine lv_if_eq (tgt := 77) hx hb d_P_choosePart_67 (by decide) (fun hc9 => absurd hc9 (nI_ne0 (by omega) (by omega))) (fun _ => ?_)
          refine lv_iload hx hb d_P_choosePart_70 (lv_at hl 0 rfl) ?_
          refine lv_iload hx hb d_P_choosePart_72 (lv_at hl 6 rfl) ?_
          by_cases h4 : cost a < (ct_sc cost S a).1
          · refine lv_icmp_ge (tgt := 84) hx hb d_P_choosePart_74 (by decide) (fun hc9 => absurd hc9 (nI_ge h4 (by omega))) (fun _ => ?_)
            refine lv_iload hx hb d_P_choosePart_77 (lv_at hl 7 rfl) ?_
            refine lv_istore_n (lv' := [(3, .int (nI a)), (7, .int (nI (cost a))), (6, .int (nI (S ^^^ a))), (0, .ref p0), (1, .int (nI S)), (2, .int (nI (ct_low S))), (4, .int (nI (ct_sc cost S a).1)), (5, .int (nI a))]) hx hb d_P_choosePart_79 rfl hl (by decide) rfl (fun ls hl => ?_)
            refine lv_iload hx hb d_P_choosePart_80 (lv_at hl 1 rfl) ?_
            refine lv_istore (lv' := [(4, .int (nI (cost a))), (3, .int (nI a)), (7, .int (nI (cost a))), (6, .int (nI (S ^^^ a))), (0, .ref p0), (1, .int (nI S)), (2, .int (nI (ct_low S))), (5, .int (nI a))]) hx hb d_P_choosePart_82 hl (by decide) rfl (fun ls hl => ?_)
            refine lv_iinc (v := (nI (a + 1))) (lv' := [(5, .int (nI (a + 1))), (4, .int (nI (cost a))), (3, .int (nI a)), (7, .int (nI (cost a))), (6, .int (nI (S ^^^ a))), (0, .ref p0), (1, .int (nI S)), (2, .int (nI (ct_low S)))]) hx hb d_P_choosePart_84 hl (k := 7) rfl (nI_1 _) (by decide) rfl (fun ls hl => ?_)
            refine lv_goto (tgt := 13) hx hb d_P_choosePart_87 (by decide) ?_
            exact ih (a + 1) (by omega) (by omega) H locs hP hD hS ls (by rw [ct_sc_yes hp (Or.inr h4)]; exact lv_sub hl [5, 6, 7, 2, 1, 0] rfl)
          · refine lv_icmp_ge (tgt := 84) hx hb d_P_choosePart_74 (by decide) (fun _ => ?_) (fun hc9 => absurd (nI_le (by omega) (by omega)) hc9)
            refine lv_iinc (v := (nI (a + 1))) (lv' := [(5, .int (nI (a + 1))), (7, .int (nI (cost a))), (6, .int (nI (S ^^^ a))), (0, .ref p0), (1, .int (nI S)), (2, .int (nI (ct_low S))), (3, .int (nI (ct_sc cost S a).2)), (4, .int (nI (ct_sc cost S a).1))]) hx hb d_P_choosePart_84 hl (k := 7) rfl (nI_1 _) (by decide) rfl (fun ls hl => ?_)
            refine lv_goto (tgt := 13) hx hb d_P_choosePart_87 (by decide) ?_
            exact ih (a + 1) (by omega) (by omega) H locs hP hD hS ls (by rw [ct_sc_keep (fun z9 => z9.elim h3 h4)]; exact lv_sub hl [3, 4, 5, 6, 7, 0] rfl)
      · have hpf : ct_pt S a = false := by simpa using hp
        by_cases h5 : a &&& ct_low S = 0
        · refine lv_if_eq (tgt := 84) hx hb d_P_choosePart_23 (by decide) (fun _ => ?_) (fun hc9 => absurd (by rw [h5]; exact nI_0) hc9)
          refine lv_iinc (v := (nI (a + 1))) (lv' := [(5, .int (nI (a + 1))), (0, .ref p0), (1, .int (nI S)), (2, .int (nI (ct_low S))), (3, .int (nI (ct_sc cost S a).2)), (4, .int (nI (ct_sc cost S a).1))]) hx hb d_P_choosePart_84 hl (k := 5) rfl (nI_1 _) (by decide) rfl (fun ls hl => ?_)
          refine lv_goto (tgt := 13) hx hb d_P_choosePart_87 (by decide) ?_
          exact ih (a + 1) (by omega) (by omega) H locs hP hD hS ls (by rw [ct_sc_no hpf]; exact lv_sub hl [1, 2, 3, 4, 5, 0] rfl)
        · have hor := ct_or64 S hS6 a (by omega)
          refine lv_if_eq (tgt := 84) hx hb d_P_choosePart_23 (by decide) (fun hc9 => absurd hc9 (nI_ne0 (by omega) (by omega))) (fun _ => ?_)
          refine lv_iload hx hb d_P_choosePart_26 (lv_at hl 5 rfl) ?_
          refine lv_iload_n hx hb d_P_choosePart_28 rfl (lv_at hl 1 rfl) ?_
          refine lv_ior hx hb d_P_choosePart_29 ?_
          refine ct_val (y := nI (a ||| S)) (ct_or _ _) ?_
          refine lv_iload_n hx hb d_P_choosePart_30 rfl (lv_at hl 1 rfl) ?_
          refine lv_icmp_ne (tgt := 84) hx hb d_P_choosePart_31 (by decide) (fun _ => ?_) (fun hc9 => absurd hc9 (fun z9 => hp (ct_pt_2 ((ct_pt_or S hS6 a (by omega)).mp ((nI_eq (by omega) (by omega)).mp z9)) h5)))
          refine lv_iinc (v := (nI (a + 1))) (lv' := [(5, .int (nI (a + 1))), (0, .ref p0), (1, .int (nI S)), (2, .int (nI (ct_low S))), (3, .int (nI (ct_sc cost S a).2)), (4, .int (nI (ct_sc cost S a).1))]) hx hb d_P_choosePart_84 hl (k := 5) rfl (nI_1 _) (by decide) rfl (fun ls hl => ?_)
          refine lv_goto (tgt := 13) hx hb d_P_choosePart_87 (by decide) ?_
          exact ih (a + 1) (by omega) (by omega) H locs hP hD hS ls (by rw [ct_sc_no hpf]; exact lv_sub hl [1, 2, 3, 4, 5, 0] rfl)
  refine lv_iload_n hx hb d_P_choosePart_0 rfl (lv_at hl 1 rfl) ?_
  refine lv_iload_n hx hb d_P_choosePart_1 rfl (lv_at hl 1 rfl) ?_
  refine lv_ineg hx hb d_P_choosePart_2 ?_
  refine lv_iand hx hb d_P_choosePart_3 ?_
  refine ct_val (y := nI (ct_low S)) (ct_low_I S hS6) ?_
  refine lv_istore_n (lv' := [(2, .int (nI (ct_low S))), (0, .ref p0), (1, .int (nI S))]) hx hb d_P_choosePart_4 rfl hl (by decide) rfl (fun ls hl => ?_)
  refine lv_iconst (v := (nI 0)) hx hb d_P_choosePart_5 (by decide) ?_
  refine lv_istore_n (lv' := [(3, .int (nI 0)), (2, .int (nI (ct_low S))), (0, .ref p0), (1, .int (nI S))]) hx hb d_P_choosePart_6 rfl hl (by decide) rfl (fun ls hl => ?_)
  refine lv_iconst (v := (nI 0)) hx hb d_P_choosePart_7 (by decide) ?_
  refine lv_istore (lv' := [(4, .int (nI 0)), (3, .int (nI 0)), (2, .int (nI (ct_low S))), (0, .ref p0), (1, .int (nI S))]) hx hb d_P_choosePart_8 hl (by decide) rfl (fun ls hl => ?_)
  refine lv_iload_n hx hb d_P_choosePart_10 rfl (lv_at hl 2 rfl) ?_
  refine lv_istore (lv' := [(5, .int (nI (ct_low S))), (4, .int (nI 0)), (3, .int (nI 0)), (2, .int (nI (ct_low S))), (0, .ref p0), (1, .int (nI S))]) hx hb d_P_choosePart_11 hl (by decide) rfl (fun ls hl => ?_)
  exact loop (S - ct_low S) (ct_low S) (by omega) (Nat.le_refl _) s.heap [] hP hD hS ls (by rw [ct_sc_zero _ (ct_pt_lo S hS6)]; exact lv_sub hl [4, 5, 3, 2, 1, 0] rfl)
