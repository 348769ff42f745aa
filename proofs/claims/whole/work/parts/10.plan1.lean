theorem d_P_costOf_0 : decode b_P_costOf 0 = .ok (.aload_n 0, 1) := by decide +kernel
theorem d_P_costOf_1 : decode b_P_costOf 1 = .ok (.getfield 22, 3) := by decide +kernel
theorem d_P_costOf_4 : decode b_P_costOf 4 = .ok (.iload_n 1, 1) := by decide +kernel
theorem d_P_costOf_5 : decode b_P_costOf 5 = .ok (.iaload, 1) := by decide +kernel
theorem d_P_costOf_6 : decode b_P_costOf 6 = .ok (.ireturn, 1) := by decide +kernel
set_option maxHeartbeats 4000000 in
set_option maxRecDepth 100000 in
theorem c_P_costOf (l : Launch) (dC : Nat → ClassId) (dI : Nat → Nat → Nat) (cI : ClassId) (z0 p0 p1 p2 p3 p4 p5 : Nat) (f : Nat → Int32) (j : Nat) (hj : j < 64) : Met l y_P_costOf w_P_costOf ({ frames := 0, cells := 0, slots := 0, locals := 0 }) (va_Pc [.ref p0, .int (nI j)] (ct_ro (dC, dI) ct_cl [(p0, .inr (2, [.ref z0, .ref p1, .ref p2, .ref p3, .ref p4, .ref p5])), (p3, .inl (cI, 64, .inl f))] [(cI, .int)])) (ct_qi (fun r => r = f j)) 0 0 (fun _ => False) := by
  refine Met.ofW (cc := b_P_costOf) (maxL := 2) (ret := (some .int)) (by decide) rfl ?_
  intro p e s m args below meth c s₁ Bd hml hv
  obtain ⟨hargs, hP, hK⟩ := hv
  have hx := Bd.exec
  have hb := Bd.bytes
  have hr := Bd.returns
  have hts : ∀ w ∈ k_P_costOf :: ct_tb, w.before args s = true := atoms_spec (ws := w_P_costOf) Bd.pre
  have hown : s.vm.findClass R_P = some m.cls := findClass_of_methodNamed Bd.named
  have hlocks := Bd.notSynchronized
  have hS : va_S (fun _ => False) s.heap s.heap [] := va_S.rf
  have hl := lv_entry ([.ref p0, .int (nI j)]) (n := 2) (Nat.le_of_ble_eq_true rfl)
  rw [show entryFrame m args 2 = entryFrame m (([.ref p0, .int (nI j)] : List Value)).toArray 2 by rw [hargs], lg_entry_eq]
  generalize (lg_sl ([.ref p0, .int (nI j)]) ++ List.replicate (2 - (lg_sl ([.ref p0, .int (nI j)])).length) Slot.unset).toArray = ls at hl ⊢
  have hl : lv_has ls 2 [(0, .ref p0), (1, .int (nI j))] := hl
  refine lv_aload_n hx hb d_P_costOf_0 rfl (lv_at hl 0 rfl) ?_
  refine va_get (D := (dC, dI)) (ci := 2) (v := .ref p3) (C := R_P) (T := T_P) (N := 6) hx hb hts (fun w h9 => ct_tl (ki_P w h9)) hown hK hP 0 rfl rfl 3 (by decide) (hts _ (ct_tl kw_70)) (fun _ h9 => h9) rfl d_P_costOf_1 ?_
  refine lv_iload_n hx hb d_P_costOf_4 rfl (lv_at hl 1 rfl) ?_
  refine ct_iald hx hb hK hP 1 0 rfl rfl (j := j) (by omega) (by omega) d_P_costOf_5 ?_
  exact W.iret (v := (f j)) hx hb hr (fun tS ht hW => ⟨⟨(f j), (), rfl, rfl, trivial⟩, hS.F ht⟩) hS.2.2 d_P_costOf_6
theorem d_P_leavesOf_0 : decode b_P_leavesOf 0 = .ok (.aload_n 0, 1) := by decide +kernel
theorem d_P_leavesOf_1 : decode b_P_leavesOf 1 = .ok (.getfield 19, 3) := by decide +kernel
theorem d_P_leavesOf_4 : decode b_P_leavesOf 4 = .ok (.iload_n 1, 1) := by decide +kernel
theorem d_P_leavesOf_5 : decode b_P_leavesOf 5 = .ok (.iaload, 1) := by decide +kernel
theorem d_P_leavesOf_6 : decode b_P_leavesOf 6 = .ok (.ireturn, 1) := by decide +kernel
set_option maxHeartbeats 4000000 in
set_option maxRecDepth 100000 in
theorem c_P_leavesOf (l : Launch) (dC : Nat → ClassId) (dI : Nat → Nat → Nat) (cI : ClassId) (z0 p0 p1 p2 p3 p4 p5 : Nat) (f : Nat → Int32) (j : Nat) (hj : j < 64) : Met l y_P_leavesOf w_P_leavesOf ({ frames := 0, cells := 0, slots := 0, locals := 0 }) (va_Pc [.ref p0, .int (nI j)] (ct_ro (dC, dI) ct_cl [(p0, .inr (2, [.ref z0, .ref p1, .ref p2, .ref p3, .ref p4, .ref p5])), (p2, .inl (cI, 64, .inl f))] [(cI, .int)])) (ct_qi (fun r => r = f j)) 0 0 (fun _ => False) := by
  refine Met.ofW (cc := b_P_leavesOf) (maxL := 2) (ret := (some .int)) (by decide) rfl ?_
  intro p e s m args below meth c s₁ Bd hml hv
  obtain ⟨hargs, hP, hK⟩ := hv
  have hx := Bd.exec
  have hb := Bd.bytes
  have hr := Bd.returns
  have hts : ∀ w ∈ k_P_leavesOf :: ct_tb, w.before args s = true := atoms_spec (ws := w_P_leavesOf) Bd.pre
  have hown : s.vm.findClass R_P = some m.cls := findClass_of_methodNamed Bd.named
  have hlocks := Bd.notSynchronized
  have hS : va_S (fun _ => False) s.heap s.heap [] := va_S.rf
  have hl := lv_entry ([.ref p0, .int (nI j)]) (n := 2) (Nat.le_of_ble_eq_true rfl)
  rw [show entryFrame m args 2 = entryFrame m (([.ref p0, .int (nI j)] : List Value)).toArray 2 by rw [hargs], lg_entry_eq]
  generalize (lg_sl ([.ref p0, .int (nI j)]) ++ List.replicate (2 - (lg_sl ([.ref p0, .int (nI j)])).length) Slot.unset).toArray = ls at hl ⊢
  have hl : lv_has ls 2 [(0, .ref p0), (1, .int (nI j))] := hl
  refine lv_aload_n hx hb d_P_leavesOf_0 rfl (lv_at hl 0 rfl) ?_
  refine va_get (D := (dC, dI)) (ci := 2) (v := .ref p2) (C := R_P) (T := T_P) (N := 6) hx hb hts (fun w h9 => ct_tl (ki_P w h9)) hown hK hP 0 rfl rfl 2 (by decide) (hts _ (ct_tl kw_69)) (fun _ h9 => h9) rfl d_P_leavesOf_1 ?_
  refine lv_iload_n hx hb d_P_leavesOf_4 rfl (lv_at hl 1 rfl) ?_
  refine ct_iald hx hb hK hP 1 0 rfl rfl (j := j) (by omega) (by omega) d_P_leavesOf_5 ?_
  exact W.iret (v := (f j)) hx hb hr (fun tS ht hW => ⟨⟨(f j), (), rfl, rfl, trivial⟩, hS.F ht⟩) hS.2.2 d_P_leavesOf_6
theorem d_P_partOf_0 : decode b_P_partOf 0 = .ok (.aload_n 0, 1) := by decide +kernel
theorem d_P_partOf_1 : decode b_P_partOf 1 = .ok (.getfield 25, 3) := by decide +kernel
theorem d_P_partOf_4 : decode b_P_partOf 4 = .ok (.iload_n 1, 1) := by decide +kernel
theorem d_P_partOf_5 : decode b_P_partOf 5 = .ok (.iaload, 1) := by decide +kernel
theorem d_P_partOf_6 : decode b_P_partOf 6 = .ok (.ireturn, 1) := by decide +kernel
set_option maxHeartbeats 4000000 in
set_option maxRecDepth 100000 in
theorem c_P_partOf (l : Launch) (dC : Nat → ClassId) (dI : Nat → Nat → Nat) (cI : ClassId) (z0 p0 p1 p2 p3 p4 p5 : Nat) (f : Nat → Int32) (j : Nat) (hj : j < 64) : Met l y_P_partOf w_P_partOf ({ frames := 0, cells := 0, slots := 0, locals := 0 }) (va_Pc [.ref p0, .int (nI j)] (ct_ro (dC, dI) ct_cl [(p0, .inr (2, [.ref z0, .ref p1, .ref p2, .ref p3, .ref p4, .ref p5])), (p4, .inl (cI, 64, .inl f))] [(cI, .int)])) (ct_qi (fun r => r = f j)) 0 0 (fun _ => False) := by
  refine Met.ofW (cc := b_P_partOf) (maxL := 2) (ret := (some .int)) (by decide) rfl ?_
  intro p e s m args below meth c s₁ Bd hml hv
  obtain ⟨hargs, hP, hK⟩ := hv
  have hx := Bd.exec
  have hb := Bd.bytes
  have hr := Bd.returns
  have hts : ∀ w ∈ k_P_partOf :: ct_tb, w.before args s = true := atoms_spec (ws := w_P_partOf) Bd.pre
  have hown : s.vm.findClass R_P = some m.cls := findClass_of_methodNamed Bd.named
  have hlocks := Bd.notSynchronized
  have hS : va_S (fun _ => False) s.heap s.heap [] := va_S.rf
  have hl := lv_entry ([.ref p0, .int (nI j)]) (n := 2) (Nat.le_of_ble_eq_true rfl)
  rw [show entryFrame m args 2 = entryFrame m (([.ref p0, .int (nI j)] : List Value)).toArray 2 by rw [hargs], lg_entry_eq]
  generalize (lg_sl ([.ref p0, .int (nI j)]) ++ List.replicate (2 - (lg_sl ([.ref p0, .int (nI j)])).length) Slot.unset).toArray = ls at hl ⊢
  have hl : lv_has ls 2 [(0, .ref p0), (1, .int (nI j))] := hl
  refine lv_aload_n hx hb d_P_partOf_0 rfl (lv_at hl 0 rfl) ?_
  refine va_get (D := (dC, dI)) (ci := 2) (v := .ref p4) (C := R_P) (T := T_P) (N := 6) hx hb hts (fun w h9 => ct_tl (ki_P w h9)) hown hK hP 0 rfl rfl 4 (by decide) (hts _ (ct_tl kw_71)) (fun _ h9 => h9) rfl d_P_partOf_1 ?_
  refine lv_iload_n hx hb d_P_partOf_4 rfl (lv_at hl 1 rfl) ?_
  refine ct_iald hx hb hK hP 1 0 rfl rfl (j := j) (by omega) (by omega) d_P_partOf_5 ?_
  exact W.iret (v := (f j)) hx hb hr (fun tS ht hW => ⟨⟨(f j), (), rfl, rfl, trivial⟩, hS.F ht⟩) hS.2.2 d_P_partOf_6
theorem d_P_joinedBy_0 : decode b_P_joinedBy 0 = .ok (.aload_n 0, 1) := by decide +kernel
theorem d_P_joinedBy_1 : decode b_P_joinedBy 1 = .ok (.getfield 28, 3) := by decide +kernel
theorem d_P_joinedBy_4 : decode b_P_joinedBy 4 = .ok (.iload_n 1, 1) := by decide +kernel
theorem d_P_joinedBy_5 : decode b_P_joinedBy 5 = .ok (.iaload, 1) := by decide +kernel
theorem d_P_joinedBy_6 : decode b_P_joinedBy 6 = .ok (.ireturn, 1) := by decide +kernel
set_option maxHeartbeats 4000000 in
set_option maxRecDepth 100000 in
theorem c_P_joinedBy (l : Launch) (dC : Nat → ClassId) (dI : Nat → Nat → Nat) (cI : ClassId) (z0 p0 p1 p2 p3 p4 p5 : Nat) (f : Nat → Int32) (j : Nat) (hj : j < 5) : Met l y_P_joinedBy w_P_joinedBy ({ frames := 0, cells := 0, slots := 0, locals := 0 }) (va_Pc [.ref p0, .int (nI j)] (ct_ro (dC, dI) ct_cl [(p0, .inr (2, [.ref z0, .ref p1, .ref p2, .ref p3, .ref p4, .ref p5])), (p5, .inl (cI, 5, .inl f))] [(cI, .int)])) (ct_qi (fun r => r = f j)) 0 0 (fun _ => False) := by
  refine Met.ofW (cc := b_P_joinedBy) (maxL := 2) (ret := (some .int)) (by decide) rfl ?_
  intro p e s m args below meth c s₁ Bd hml hv
  obtain ⟨hargs, hP, hK⟩ := hv
  have hx := Bd.exec
  have hb := Bd.bytes
  have hr := Bd.returns
  have hts : ∀ w ∈ k_P_joinedBy :: ct_tb, w.before args s = true := atoms_spec (ws := w_P_joinedBy) Bd.pre
  have hown : s.vm.findClass R_P = some m.cls := findClass_of_methodNamed Bd.named
  have hlocks := Bd.notSynchronized
  have hS : va_S (fun _ => False) s.heap s.heap [] := va_S.rf
  have hl := lv_entry ([.ref p0, .int (nI j)]) (n := 2) (Nat.le_of_ble_eq_true rfl)
  rw [show entryFrame m args 2 = entryFrame m (([.ref p0, .int (nI j)] : List Value)).toArray 2 by rw [hargs], lg_entry_eq]
  generalize (lg_sl ([.ref p0, .int (nI j)]) ++ List.replicate (2 - (lg_sl ([.ref p0, .int (nI j)])).length) Slot.unset).toArray = ls at hl ⊢
  have hl : lv_has ls 2 [(0, .ref p0), (1, .int (nI j))] := hl
  refine lv_aload_n hx hb d_P_joinedBy_0 rfl (lv_at hl 0 rfl) ?_
  refine va_get (D := (dC, dI)) (ci := 2) (v := .ref p5) (C := R_P) (T := T_P) (N := 6) hx hb hts (fun w h9 => ct_tl (ki_P w h9)) hown hK hP 0 rfl rfl 5 (by decide) (hts _ (ct_tl kw_72)) (fun _ h9 => h9) rfl d_P_joinedBy_1 ?_
  refine lv_iload_n hx hb d_P_joinedBy_4 rfl (lv_at hl 1 rfl) ?_
  refine ct_iald hx hb hK hP 1 0 rfl rfl (j := j) (by omega) (by omega) d_P_joinedBy_5 ?_
  exact W.iret (v := (f j)) hx hb hr (fun tS ht hW => ⟨⟨(f j), (), rfl, rfl, trivial⟩, hS.F ht⟩) hS.2.2 d_P_joinedBy_6
theorem d_P_joinLabels_0 : decode b_P_joinLabels 0 = .ok (.aload_n 0, 1) := by decide +kernel
theorem d_P_joinLabels_1 : decode b_P_joinLabels 1 = .ok (.getfield 19, 3) := by decide +kernel
theorem d_P_joinLabels_4 : decode b_P_joinLabels 4 = .ok (.iload_n 1, 1) := by decide +kernel
theorem d_P_joinLabels_5 : decode b_P_joinLabels 5 = .ok (.iaload, 1) := by decide +kernel
theorem d_P_joinLabels_6 : decode b_P_joinLabels 6 = .ok (.aload_n 0, 1) := by decide +kernel
theorem d_P_joinLabels_7 : decode b_P_joinLabels 7 = .ok (.getfield 19, 3) := by decide +kernel
theorem d_P_joinLabels_10 : decode b_P_joinLabels 10 = .ok (.iload_n 2, 1) := by decide +kernel
theorem d_P_joinLabels_11 : decode b_P_joinLabels 11 = .ok (.iaload, 1) := by decide +kernel
theorem d_P_joinLabels_12 : decode b_P_joinLabels 12 = .ok (.ior, 1) := by decide +kernel
theorem d_P_joinLabels_13 : decode b_P_joinLabels 13 = .ok (.ireturn, 1) := by decide +kernel
theorem d_P_joinCost_0 : decode b_P_joinCost 0 = .ok (.aload_n 0, 1) := by decide +kernel
theorem d_P_joinCost_1 : decode b_P_joinCost 1 = .ok (.getfield 9, 3) := by decide +kernel
theorem d_P_joinCost_4 : decode b_P_joinCost 4 = .ok (.aload_n 0, 1) := by decide +kernel
theorem d_P_joinCost_5 : decode b_P_joinCost 5 = .ok (.iload_n 1, 1) := by decide +kernel
theorem d_P_joinCost_6 : decode b_P_joinCost 6 = .ok (.iload_n 2, 1) := by decide +kernel
theorem d_P_joinCost_7 : decode b_P_joinCost 7 = .ok (.invokevirtual 31, 3) := by decide +kernel
theorem d_P_joinCost_10 : decode b_P_joinCost 10 = .ok (.invokevirtual 35, 3) := by decide +kernel
theorem d_P_joinCost_13 : decode b_P_joinCost 13 = .ok (.ireturn, 1) := by decide +kernel
theorem d_P_isSeveral_0 : decode b_P_isSeveral 0 = .ok (.iload_n 0, 1) := by decide +kernel
theorem d_P_isSeveral_1 : decode b_P_isSeveral 1 = .ok (.iload_n 0, 1) := by decide +kernel
theorem d_P_isSeveral_2 : decode b_P_isSeveral 2 = .ok (.iconst 1, 1) := by decide +kernel
theorem d_P_isSeveral_3 : decode b_P_isSeveral 3 = .ok (.isub, 1) := by decide +kernel
theorem d_P_isSeveral_4 : decode b_P_isSeveral 4 = .ok (.iand, 1) := by decide +kernel
theorem d_P_isSeveral_5 : decode b_P_isSeveral 5 = .ok (.ifCond .eq 7, 3) := by decide +kernel
theorem d_P_isSeveral_8 : decode b_P_isSeveral 8 = .ok (.iconst 1, 1) := by decide +kernel
theorem d_P_isSeveral_9 : decode b_P_isSeveral 9 = .ok (.goto 4, 3) := by decide +kernel
theorem d_P_isSeveral_12 : decode b_P_isSeveral 12 = .ok (.iconst 0, 1) := by decide +kernel
theorem d_P_isSeveral_13 : decode b_P_isSeveral 13 = .ok (.ireturn, 1) := by decide +kernel
set_option maxHeartbeats 4000000 in
set_option maxRecDepth 100000 in
theorem c_P_joinLabels (l : Launch) (dC : Nat → ClassId) (dI : Nat → Nat → Nat) (cI : ClassId) (z0 p0 p1 p2 p3 p4 p5 : Nat) (f : Nat → Int32) (a b x y : Nat) (ha1 : a < 64) (hb1 : b < 64) (hfa : f a = nI x) (hfb : f b = nI y) : Met l y_P_joinLabels w_P_joinLabels ({ frames := 0, cells := 0, slots := 0, locals := 0 }) (va_Pc [.ref p0, .int (nI a), .int (nI b)] (ct_ro (dC, dI) ct_cl [(p0, .inr (2, [.ref z0, .ref p1, .ref p2, .ref p3, .ref p4, .ref p5])), (p2, .inl (cI, 64, .inl f))] [(cI, .int)])) (ct_qi (fun r => r = nI (x ||| y))) 0 0 (fun _ => False) := by
  refine Met.ofW (cc := b_P_joinLabels) (maxL := 3) (ret := (some .int)) (by decide) rfl ?_
  intro p e s m args below meth c s₁ Bd hml hv
  obtain ⟨hargs, hP, hK⟩ := hv
  have hx := Bd.exec
  have hb := Bd.bytes
  have hr := Bd.returns
  have hts : ∀ w ∈ k_P_joinLabels :: ct_tb, w.before args s = true := atoms_spec (ws := w_P_joinLabels) Bd.pre
  have hown : s.vm.findClass R_P = some m.cls := findClass_of_methodNamed Bd.named
  have hlocks := Bd.notSynchronized
  have hS : va_S (fun _ => False) s.heap s.heap [] := va_S.rf
  have hl := lv_entry ([.ref p0, .int (nI a), .int (nI b)]) (n := 3) (Nat.le_of_ble_eq_true rfl)
  rw [show entryFrame m args 3 = entryFrame m (([.ref p0, .int (nI a), .int (nI b)] : List Value)).toArray 3 by rw [hargs], lg_entry_eq]
  generalize (lg_sl ([.ref p0, .int (nI a), .int (nI b)]) ++ List.replicate (3 - (lg_sl ([.ref p0, .int (nI a), .int (nI b)])).length) Slot.unset).toArray = ls at hl ⊢
  have hl : lv_has ls 3 [(0, .ref p0), (1, .int (nI a)), (2, .int (nI b))] := hl
  refine lv_aload_n hx hb d_P_joinLabels_0 rfl (lv_at hl 0 rfl) ?_
  refine va_get (D := (dC, dI)) (ci := 2) (v := .ref p2) (C := R_P) (T := T_P) (N := 6) hx hb hts (fun w h9 => ct_tl (ki_P w h9)) hown hK hP 0 rfl rfl 2 (by decide) (hts _ (ct_tl kw_69)) (fun _ h9 => h9) rfl d_P_joinLabels_1 ?_
  refine lv_iload_n hx hb d_P_joinLabels_4 rfl (lv_at hl 1 rfl) ?_
  refine ct_iald hx hb hK hP 1 0 rfl rfl (j := a) (by omega) (by omega) d_P_joinLabels_5 ?_
  refine ct_val (y := nI x) (hfa) ?_
  refine lv_aload_n hx hb d_P_joinLabels_6 rfl (lv_at hl 0 rfl) ?_
  refine va_get (D := (dC, dI)) (ci := 2) (v := .ref p2) (C := R_P) (T := T_P) (N := 6) hx hb hts (fun w h9 => ct_tl (ki_P w h9)) hown hK hP 0 rfl rfl 2 (by decide) (hts _ (ct_tl kw_69)) (fun _ h9 => h9) rfl d_P_joinLabels_7 ?_
  refine lv_iload_n hx hb d_P_joinLabels_10 rfl (lv_at hl 2 rfl) ?_
  refine ct_iald hx hb hK hP 1 0 rfl rfl (j := b) (by omega) (by omega) d_P_joinLabels_11 ?_
  refine ct_val (y := nI y) (hfb) ?_
  refine lv_ior hx hb d_P_joinLabels_12 ?_
  refine ct_val (y := nI (x ||| y)) (ct_or x y) ?_
  exact W.iret (v := (nI (x ||| y))) hx hb hr (fun tS ht hW => ⟨⟨(nI (x ||| y)), (), rfl, rfl, trivial⟩, hS.F ht⟩) hS.2.2 d_P_joinLabels_13
set_option maxHeartbeats 4000000 in
set_option maxRecDepth 100000 in
theorem c_P_joinCost (l : Launch) (dC : Nat → ClassId) (dI : Nat → Nat → Nat) (cI : ClassId) (z1 : Nat) (sz : Nat → Nat) (z0 p0 p1 p2 p3 p4 p5 : Nat) (f : Nat → Int32) (a b x y : Nat) (ha1 : a < 64) (hb1 : b < 64) (hfa : f a = nI x) (hfb : f b = nI y) (hxy : x ||| y < 2 ^ 31) : Met l y_P_joinCost w_P_joinCost ({ frames := 1, cells := 0, slots := 0, locals := 23 }) (va_Pc [.ref p0, .int (nI a), .int (nI b)] (ct_ro (dC, dI) ct_cl [(p0, .inr (2, [.ref z0, .ref p1, .ref p2, .ref p3, .ref p4, .ref p5])), (p2, .inl (cI, 64, .inl f)), (z0, .inr (1, [.ref z1])), (z1, .inl (cI, 8, .inl (fun j => nI (sz j))))] [(cI, .int)])) (ct_qi (fun r => r = nI (ct_pr sz (x ||| y).testBit 8))) 0 0 (fun _ => False) := by
  refine Met.ofW (cc := b_P_joinCost) (maxL := 3) (ret := (some .int)) (by decide) rfl ?_
  intro p e s m args below meth c s₁ Bd hml hv
  obtain ⟨hargs, hP, hK⟩ := hv
  have hx := Bd.exec
  have hb := Bd.bytes
  have hr := Bd.returns
  have hts : ∀ w ∈ k_P_joinCost :: ct_tb, w.before args s = true := atoms_spec (ws := w_P_joinCost) Bd.pre
  have hown : s.vm.findClass R_P = some m.cls := findClass_of_methodNamed Bd.named
  have hlocks := Bd.notSynchronized
  have hS : va_S (fun _ => False) s.heap s.heap [] := va_S.rf
  have hl := lv_entry ([.ref p0, .int (nI a), .int (nI b)]) (n := 3) (Nat.le_of_ble_eq_true rfl)
  rw [show entryFrame m args 3 = entryFrame m (([.ref p0, .int (nI a), .int (nI b)] : List Value)).toArray 3 by rw [hargs], lg_entry_eq]
  generalize (lg_sl ([.ref p0, .int (nI a), .int (nI b)]) ++ List.replicate (3 - (lg_sl ([.ref p0, .int (nI a), .int (nI b)])).length) Slot.unset).toArray = ls at hl ⊢
  have hl : lv_has ls 3 [(0, .ref p0), (1, .int (nI a)), (2, .int (nI b))] := hl
  refine lv_aload_n hx hb d_P_joinCost_0 rfl (lv_at hl 0 rfl) ?_
  refine va_get (D := (dC, dI)) (ci := 2) (v := .ref z0) (C := R_P) (T := T_P) (N := 6) hx hb hts (fun w h9 => ct_tl (ki_P w h9)) hown hK hP 0 rfl rfl 0 (by decide) (hts _ (ct_tl kw_67)) (fun _ h9 => h9) rfl d_P_joinCost_1 ?_
  refine lv_aload_n hx hb d_P_joinCost_4 rfl (lv_at hl 0 rfl) ?_
  refine lv_iload_n hx hb d_P_joinCost_5 rfl (lv_at hl 1 rfl) ?_
  refine lv_iload_n hx hb d_P_joinCost_6 rfl (lv_at hl 2 rfl) ?_
  refine va_calli (va_runV (As := [.int (nI a), .int (nI b)]) (rest := [.ref z0]) ⟨hx, hb, hml, hown, hts⟩ (c_P_joinLabels l dC dI cI z0 p0 p1 p2 p3 p4 p5 f a b x y ha1 hb1 hfa hfb) (cwV 2 hts (ct_giV (fun w h9 => ct_tl h9) kw_190 kw_191 kw_192 kw_28 kw_193) rfl rfl rfl (by decide +kernel) ⟨Nat.le_of_ble_eq_true rfl, Nat.le_of_ble_eq_true rfl⟩) ⟨ct_ro_blind, va_recv hK hP (ci := 2) (q0 := 0) rfl rfl, ct_ro_pre (hP.sub [0, 1] rfl) hK⟩ rfl rfl hl.1 rfl (lv_room (Nat.le_of_ble_eq_true rfl)) d_P_joinCost_7 ⟨Nat.le_of_ble_eq_true rfl, Nat.le_of_ble_eq_true rfl⟩) hS (fun q _ h9 => h9.elim) (fun q h9 => h9.elim) (fun ans1 uS tS H locs ht hvm hwans1 hB hz1 hk1 hS => ?_)
  have hP := ct_keep hP hk1
  refine ct_val (y := nI (x ||| y)) (hwans1) ?_
  refine va_calli (va_runV (As := [.int (nI (x ||| y))]) (rest := []) ⟨hx, hb, hml, hown, hts⟩ (c_S_choices l dC dI cI z0 z1 sz (x ||| y) hxy) (cwV 1 hts (ct_giV (fun w h9 => ct_tl h9) kw_194 kw_195 kw_196 kw_27 kw_197) rfl rfl rfl (by decide +kernel) ⟨Nat.le_of_ble_eq_true rfl, Nat.le_of_ble_eq_true rfl⟩) ⟨ct_ro_blind, va_recv hK hP (ci := 1) (q0 := 2) rfl rfl, ct_ro_pre (hP.sub [2, 3] rfl) hK⟩ rfl rfl hl.1 rfl (lv_room (Nat.le_of_ble_eq_true rfl)) d_P_joinCost_10 ⟨Nat.le_of_ble_eq_true rfl, Nat.le_of_ble_eq_true rfl⟩) hS (fun q _ h9 => h9.elim) (fun q h9 => h9.elim) (fun ans2 uS tS H locs ht hvm hwans2 hB hz1 hk1 hS => ?_)
  have hP := ct_keep hP hk1
  refine ct_val (y := nI (ct_pr sz ((x ||| y)).testBit 8)) (hwans2) ?_
  exact W.iret (v := (nI (ct_pr sz ((x ||| y)).testBit 8))) hx hb hr (fun tS ht hW => ⟨⟨(nI (ct_pr sz ((x ||| y)).testBit 8)), (), rfl, rfl, trivial⟩, hS.F ht⟩) hS.2.2 d_P_joinCost_13
set_option maxHeartbeats 4000000 in
set_option maxRecDepth 100000 in
theorem c_P_isSeveral (l : Launch) (dC : Nat → ClassId) (dI : Nat → Nat → Nat) (cI : ClassId) (a : Nat) (ha : a < 64) (ha0 : 0 < a) : Met l y_P_isSeveral w_P_isSeveral ({ frames := 0, cells := 0, slots := 0, locals := 0 }) (va_Pc [.int (nI a)] (ct_ro (dC, dI) ct_cl [] [(cI, .int)])) (ct_qi (fun r => r = nI (if ct_sev a = true then 1 else 0))) 0 0 (fun _ => False) := by
  refine Met.ofW (cc := b_P_isSeveral) (maxL := 1) (ret := (some .boolean)) (by decide) rfl ?_
  intro p e s m args below meth c s₁ Bd hml hv
  obtain ⟨hargs, hP, hK⟩ := hv
  have hx := Bd.exec
  have hb := Bd.bytes
  have hr := Bd.returns
  have hts : ∀ w ∈ k_P_isSeveral :: ct_tb, w.before args s = true := atoms_spec (ws := w_P_isSeveral) Bd.pre
  have hown : s.vm.findClass R_P = some m.cls := findClass_of_methodNamed Bd.named
  have hlocks := Bd.notSynchronized
  have hS : va_S (fun _ => False) s.heap s.heap [] := va_S.rf
  have hl := lv_entry ([.int (nI a)]) (n := 1) (Nat.le_of_ble_eq_true rfl)
  rw [show entryFrame m args 1 = entryFrame m (([.int (nI a)] : List Value)).toArray 1 by rw [hargs], lg_entry_eq]
  generalize (lg_sl ([.int (nI a)]) ++ List.replicate (1 - (lg_sl ([.int (nI a)])).length) Slot.unset).toArray = ls at hl ⊢
  have hl : lv_has ls 1 [(0, .int (nI a))] := hl
  refine lv_iload_n hx hb d_P_isSeveral_0 rfl (lv_at hl 0 rfl) ?_
  refine lv_iload_n hx hb d_P_isSeveral_1 rfl (lv_at hl 0 rfl) ?_
  refine lv_iconst (v := (nI 1)) hx hb d_P_isSeveral_2 (by decide) ?_
  refine lv_isub hx hb d_P_isSeveral_3 ?_
  refine lv_iand hx hb d_P_isSeveral_4 ?_
  refine lv_topi (fun v0 ev0 => ?_)
  by_cases hs : ct_sev a = true
  · refine lv_if_eq (tgt := 12) hx hb d_P_isSeveral_5 (by decide) (fun hc9 => absurd hc9 (fun z => Bool.false_ne_true (((ct_sev_I a ha ha0).mp (ev0 ▸ z)).symm.trans hs))) (fun _ => ?_)
    refine lv_iconst (v := (nI 1)) hx hb d_P_isSeveral_8 (by decide) ?_
    refine lv_goto (tgt := 13) hx hb d_P_isSeveral_9 (by decide) ?_
    exact W.zret (v := (nI 1)) hx hb hr (by first | rfl | decide) (fun tS ht hW => ⟨⟨(nI 1), (), rfl, by rw [if_pos hs], trivial⟩, hS.F ht⟩) hS.2.2 d_P_isSeveral_13
  · refine lv_if_eq (tgt := 12) hx hb d_P_isSeveral_5 (by decide) (fun _ => ?_) (fun hc9 => absurd (by rw [ev0]; exact (ct_sev_I a ha ha0).mpr (by simpa using hs)) hc9)
    refine lv_iconst (v := (nI 0)) hx hb d_P_isSeveral_12 (by decide) ?_
    exact W.zret (v := (nI 0)) hx hb hr (by first | rfl | decide) (fun tS ht hW => ⟨⟨(nI 0), (), rfl, by rw [if_neg hs], trivial⟩, hS.F ht⟩) hS.2.2 d_P_isSeveral_13
