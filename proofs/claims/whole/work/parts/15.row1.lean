/-- the labels that a join goes through, rising: those of U with more than one index -/
def ct_us (sz : Nat → Nat) (U : Nat) : Nat → List Nat
  | 0 => []
  | n + 1 => if U.testBit n = true ∧ 1 < sz n then ct_us sz U n ++ [n] else ct_us sz U n
theorem ct_us_in {sz : Nat → Nat} {U n : Nat} (h : U.testBit n = true ∧ 1 < sz n) : ct_us sz U (n + 1) = ct_us sz U n ++ [n] := if_pos h
theorem ct_us_out {sz : Nat → Nat} {U n : Nat} (h : ¬ (U.testBit n = true ∧ 1 < sz n)) : ct_us sz U (n + 1) = ct_us sz U n := if_neg h
theorem ct_us_len {sz : Nat → Nat} {U : Nat} (n : Nat) : (ct_us sz U n).length ≤ n := by
  induction n with
  | zero => exact Nat.le_refl 0
  | succ n ih =>
    by_cases h : U.testBit n = true ∧ 1 < sz n
    · rw [ct_us_in h, List.length_append]; show _ + 1 ≤ _; omega
    · rw [ct_us_out h]; omega
theorem ct_gd_l {l : List Nat} {x d : Nat} (h : d < l.length) : (l ++ [x]).getD d 0 = l.getD d 0 := by
  simp [List.getD, List.getElem?_append_left h]
theorem ct_gd_r {l : List Nat} {x : Nat} : (l ++ [x]).getD l.length 0 = x := by
  simp [List.getD]
theorem d_R_read_0 : decode b_R_read 0 = .ok (.aload_n 0, 1) := by decide +kernel
theorem d_R_read_1 : decode b_R_read 1 = .ok (.getfield 15, 3) := by decide +kernel
theorem d_R_read_4 : decode b_R_read 4 = .ok (.iload_n 1, 1) := by decide +kernel
theorem d_R_read_5 : decode b_R_read 5 = .ok (.iaload, 1) := by decide +kernel
theorem d_R_read_6 : decode b_R_read 6 = .ok (.ireturn, 1) := by decide +kernel
theorem d_R_write_0 : decode b_R_write 0 = .ok (.aload_n 0, 1) := by decide +kernel
theorem d_R_write_1 : decode b_R_write 1 = .ok (.getfield 15, 3) := by decide +kernel
theorem d_R_write_4 : decode b_R_write 4 = .ok (.iload_n 1, 1) := by decide +kernel
theorem d_R_write_5 : decode b_R_write 5 = .ok (.iload_n 2, 1) := by decide +kernel
theorem d_R_write_6 : decode b_R_write 6 = .ok (.iastore, 1) := by decide +kernel
theorem d_R_write_7 : decode b_R_write 7 = .ok (.return_, 1) := by decide +kernel
theorem d_R_layOut_0 : decode b_R_layOut 0 = .ok (.iload_n 1, 1) := by decide +kernel
theorem d_R_layOut_1 : decode b_R_layOut 1 = .ok (.iload_n 2, 1) := by decide +kernel
theorem d_R_layOut_2 : decode b_R_layOut 2 = .ok (.ior, 1) := by decide +kernel
theorem d_R_layOut_3 : decode b_R_layOut 3 = .ok (.iload_n 3, 1) := by decide +kernel
theorem d_R_layOut_4 : decode b_R_layOut 4 = .ok (.ior, 1) := by decide +kernel
theorem d_R_layOut_5 : decode b_R_layOut 5 = .ok (.istore 4, 2) := by decide +kernel
theorem d_R_layOut_7 : decode b_R_layOut 7 = .ok (.iconst 0, 1) := by decide +kernel
theorem d_R_layOut_8 : decode b_R_layOut 8 = .ok (.istore 5, 2) := by decide +kernel
theorem d_R_layOut_10 : decode b_R_layOut 10 = .ok (.iconst 0, 1) := by decide +kernel
theorem d_R_layOut_11 : decode b_R_layOut 11 = .ok (.istore 6, 2) := by decide +kernel
theorem d_R_layOut_13 : decode b_R_layOut 13 = .ok (.iload 6, 2) := by decide +kernel
theorem d_R_layOut_15 : decode b_R_layOut 15 = .ok (.bipush 8, 2) := by decide +kernel
theorem d_R_layOut_17 : decode b_R_layOut 17 = .ok (.if_icmp .ge 110, 3) := by decide +kernel
theorem d_R_layOut_20 : decode b_R_layOut 20 = .ok (.iload 4, 2) := by decide +kernel
theorem d_R_layOut_22 : decode b_R_layOut 22 = .ok (.iload 6, 2) := by decide +kernel
theorem d_R_layOut_24 : decode b_R_layOut 24 = .ok (.ishr, 1) := by decide +kernel
theorem d_R_layOut_25 : decode b_R_layOut 25 = .ok (.iconst 1, 1) := by decide +kernel
theorem d_R_layOut_26 : decode b_R_layOut 26 = .ok (.iand, 1) := by decide +kernel
theorem d_R_layOut_27 : decode b_R_layOut 27 = .ok (.ifCond .eq 94, 3) := by decide +kernel
theorem d_R_layOut_30 : decode b_R_layOut 30 = .ok (.aload_n 0, 1) := by decide +kernel
theorem d_R_layOut_31 : decode b_R_layOut 31 = .ok (.getfield 9, 3) := by decide +kernel
theorem d_R_layOut_34 : decode b_R_layOut 34 = .ok (.iload 6, 2) := by decide +kernel
theorem d_R_layOut_36 : decode b_R_layOut 36 = .ok (.invokevirtual 56, 3) := by decide +kernel
theorem d_R_layOut_39 : decode b_R_layOut 39 = .ok (.iconst 1, 1) := by decide +kernel
theorem d_R_layOut_40 : decode b_R_layOut 40 = .ok (.if_icmp .le 81, 3) := by decide +kernel
theorem d_R_layOut_43 : decode b_R_layOut 43 = .ok (.aload_n 0, 1) := by decide +kernel
theorem d_R_layOut_44 : decode b_R_layOut 44 = .ok (.getfield 19, 3) := by decide +kernel
theorem d_R_layOut_47 : decode b_R_layOut 47 = .ok (.iload 5, 2) := by decide +kernel
theorem d_R_layOut_49 : decode b_R_layOut 49 = .ok (.aload_n 0, 1) := by decide +kernel
theorem d_R_layOut_50 : decode b_R_layOut 50 = .ok (.getfield 9, 3) := by decide +kernel
theorem d_R_layOut_53 : decode b_R_layOut 53 = .ok (.iload 6, 2) := by decide +kernel
theorem d_R_layOut_55 : decode b_R_layOut 55 = .ok (.invokevirtual 56, 3) := by decide +kernel
theorem d_R_layOut_58 : decode b_R_layOut 58 = .ok (.iastore, 1) := by decide +kernel
theorem d_R_layOut_59 : decode b_R_layOut 59 = .ok (.aload_n 0, 1) := by decide +kernel
theorem d_R_layOut_60 : decode b_R_layOut 60 = .ok (.getfield 22, 3) := by decide +kernel
theorem d_R_layOut_63 : decode b_R_layOut 63 = .ok (.iload 5, 2) := by decide +kernel
theorem d_R_layOut_65 : decode b_R_layOut 65 = .ok (.iconst 0, 1) := by decide +kernel
theorem d_R_layOut_66 : decode b_R_layOut 66 = .ok (.iastore, 1) := by decide +kernel
theorem d_R_layOut_67 : decode b_R_layOut 67 = .ok (.aload_n 0, 1) := by decide +kernel
theorem d_R_layOut_68 : decode b_R_layOut 68 = .ok (.getfield 25, 3) := by decide +kernel
theorem d_R_layOut_71 : decode b_R_layOut 71 = .ok (.iload 5, 2) := by decide +kernel
theorem d_R_layOut_73 : decode b_R_layOut 73 = .ok (.aload_n 0, 1) := by decide +kernel
theorem d_R_layOut_74 : decode b_R_layOut 74 = .ok (.getfield 9, 3) := by decide +kernel
theorem d_R_layOut_77 : decode b_R_layOut 77 = .ok (.iload_n 1, 1) := by decide +kernel
theorem d_R_layOut_78 : decode b_R_layOut 78 = .ok (.iload 6, 2) := by decide +kernel
theorem d_R_layOut_80 : decode b_R_layOut 80 = .ok (.invokevirtual 59, 3) := by decide +kernel
theorem d_R_layOut_83 : decode b_R_layOut 83 = .ok (.iastore, 1) := by decide +kernel
theorem d_R_layOut_84 : decode b_R_layOut 84 = .ok (.aload_n 0, 1) := by decide +kernel
theorem d_R_layOut_85 : decode b_R_layOut 85 = .ok (.getfield 28, 3) := by decide +kernel
theorem d_R_layOut_88 : decode b_R_layOut 88 = .ok (.iload 5, 2) := by decide +kernel
theorem d_R_layOut_90 : decode b_R_layOut 90 = .ok (.aload_n 0, 1) := by decide +kernel
theorem d_R_layOut_91 : decode b_R_layOut 91 = .ok (.getfield 9, 3) := by decide +kernel
theorem d_R_layOut_94 : decode b_R_layOut 94 = .ok (.iload_n 2, 1) := by decide +kernel
theorem d_R_layOut_95 : decode b_R_layOut 95 = .ok (.iload 6, 2) := by decide +kernel
theorem d_R_layOut_97 : decode b_R_layOut 97 = .ok (.invokevirtual 59, 3) := by decide +kernel
theorem d_R_layOut_100 : decode b_R_layOut 100 = .ok (.iastore, 1) := by decide +kernel
theorem d_R_layOut_101 : decode b_R_layOut 101 = .ok (.aload_n 0, 1) := by decide +kernel
theorem d_R_layOut_102 : decode b_R_layOut 102 = .ok (.getfield 31, 3) := by decide +kernel
theorem d_R_layOut_105 : decode b_R_layOut 105 = .ok (.iload 5, 2) := by decide +kernel
theorem d_R_layOut_107 : decode b_R_layOut 107 = .ok (.aload_n 0, 1) := by decide +kernel
theorem d_R_layOut_108 : decode b_R_layOut 108 = .ok (.getfield 9, 3) := by decide +kernel
theorem d_R_layOut_111 : decode b_R_layOut 111 = .ok (.iload_n 3, 1) := by decide +kernel
theorem d_R_layOut_112 : decode b_R_layOut 112 = .ok (.iload 6, 2) := by decide +kernel
theorem d_R_layOut_114 : decode b_R_layOut 114 = .ok (.invokevirtual 59, 3) := by decide +kernel
theorem d_R_layOut_117 : decode b_R_layOut 117 = .ok (.iastore, 1) := by decide +kernel
theorem d_R_layOut_118 : decode b_R_layOut 118 = .ok (.iinc 5 1, 3) := by decide +kernel
theorem d_R_layOut_121 : decode b_R_layOut 121 = .ok (.iinc 6 1, 3) := by decide +kernel
theorem d_R_layOut_124 : decode b_R_layOut 124 = .ok (.goto (-111), 3) := by decide +kernel
theorem d_R_layOut_127 : decode b_R_layOut 127 = .ok (.iload 5, 2) := by decide +kernel
theorem d_R_layOut_129 : decode b_R_layOut 129 = .ok (.ireturn, 1) := by decide +kernel
set_option maxHeartbeats 4000000 in
set_option maxRecDepth 100000 in
theorem c_R_read (l : Launch) (dC : Nat → ClassId) (dI : Nat → Nat → Nat) (cI : ClassId) (z0 r0 r1 r2 r3 r4 r5 r6 : Nat) (N : Nat) (f : Nat → Int32) (j : Nat) (hj : j < N) (hN : N < 2 ^ 31) : Met l y_R_read w_R_read ({ frames := 0, cells := 0, slots := 0, locals := 0 }) (va_Pc [.ref r0, .int (nI j)] (ct_ro (dC, dI) ct_cl [(r0, .inr (3, [.ref z0, .ref r1, .ref r2, .ref r3, .ref r4, .ref r5, .ref r6])), (r1, .inl (cI, N, .inl f))] [(cI, .int)])) (ct_qi (fun r => r = f j)) 0 0 (fun _ => False) := by
  refine Met.ofW (cc := b_R_read) (maxL := 2) (ret := (some .int)) (by decide) rfl ?_
  intro p e s m args below meth c s₁ Bd hml hv
  obtain ⟨hargs, hP, hK⟩ := hv
  have hx := Bd.exec
  have hb := Bd.bytes
  have hr := Bd.returns
  have hts : ∀ w ∈ k_R_read :: ct_tb, w.before args s = true := atoms_spec (ws := w_R_read) Bd.pre
  have hown : s.vm.findClass R_R = some m.cls := findClass_of_methodNamed Bd.named
  have hlocks := Bd.notSynchronized
  have hS : va_S (fun _ => False) s.heap s.heap [] := va_S.rf
  have hl := lv_entry ([.ref r0, .int (nI j)]) (n := 2) (Nat.le_of_ble_eq_true rfl)
  rw [show entryFrame m args 2 = entryFrame m (([.ref r0, .int (nI j)] : List Value)).toArray 2 by rw [hargs], lg_entry_eq]
  generalize (lg_sl ([.ref r0, .int (nI j)]) ++ List.replicate (2 - (lg_sl ([.ref r0, .int (nI j)])).length) Slot.unset).toArray = ls at hl ⊢
  have hl : lv_has ls 2 [(0, .ref r0), (1, .int (nI j))] := hl
  refine lv_aload_n hx hb d_R_read_0 rfl (lv_at hl 0 rfl) ?_
  refine va_get (D := (dC, dI)) (ci := 3) (v := .ref r1) (C := R_R) (T := T_R) (N := 7) hx hb hts (fun w h9 => ct_tl (ki_R w h9)) hown hK hP 0 rfl rfl 1 (by decide) (hts _ (ct_tl kw_93)) (fun _ h9 => h9) rfl d_R_read_1 ?_
  refine lv_iload_n hx hb d_R_read_4 rfl (lv_at hl 1 rfl) ?_
  refine ct_iald hx hb hK hP 1 0 rfl rfl (j := j) (by omega) (by omega) d_R_read_5 ?_
  exact W.iret (v := (f j)) hx hb hr (fun tS ht hW => ⟨⟨(f j), (), rfl, rfl, trivial⟩, hS.F ht⟩) hS.2.2 d_R_read_6
set_option maxHeartbeats 4000000 in
set_option maxRecDepth 100000 in
theorem c_R_write (l : Launch) (dC : Nat → ClassId) (dI : Nat → Nat → Nat) (cI : ClassId) (z0 r0 r1 r2 r3 r4 r5 r6 : Nat) (N : Nat) (f : Nat → Int32) (j : Nat) (v : Int32) (hj : j < N) (hN : N < 2 ^ 31) (sz0 : Nat) : Met l y_R_write w_R_write ({ frames := 0, cells := 0, slots := 0, locals := 0 }) (va_Pc [.ref r0, .int (nI j), .int v] (ct_rw (dC, dI) ct_cl [(r0, .inr (3, [.ref z0, .ref r1, .ref r2, .ref r3, .ref r4, .ref r5, .ref r6])), (r1, .inl (cI, N, .inl f))] [(cI, .int)] sz0)) (va_Qv (fun (u : Unit) => True) (fun (u : Unit) t => ct_at (dC, dI) ct_cl [(cI, .int)] (va_A [(r0, .inr (3, [.ref z0, .ref r1, .ref r2, .ref r3, .ref r4, .ref r5, .ref r6])), (r1, .inl (cI, N, .inl f))] sz0) [(r0, .inr (3, [.ref z0, .ref r1, .ref r2, .ref r3, .ref r4, .ref r5, .ref r6])), (r1, .inl (cI, N, .inl (upd f j v)))] t) (va_A [(r0, .inr (3, [.ref z0, .ref r1, .ref r2, .ref r3, .ref r4, .ref r5, .ref r6])), (r1, .inl (cI, N, .inl f))] sz0)) 0 0 (va_A [(r0, .inr (3, [.ref z0, .ref r1, .ref r2, .ref r3, .ref r4, .ref r5, .ref r6])), (r1, .inl (cI, N, .inl f))] sz0) := by
  refine Met.ofW (cc := b_R_write) (maxL := 3) (ret := none) (by decide) rfl ?_
  intro p e s m args below meth c s₁ Bd hml hv
  obtain ⟨hargs, hsz, hP, hK, hD0⟩ := hv
  have hx := Bd.exec
  have hb := Bd.bytes
  have hr := Bd.returns
  have hts : ∀ w ∈ k_R_write :: ct_tb, w.before args s = true := atoms_spec (ws := w_R_write) Bd.pre
  have hown : s.vm.findClass R_R = some m.cls := findClass_of_methodNamed Bd.named
  have hlocks := Bd.notSynchronized
  subst hsz
  have hD := hD0.self (sz := s.heap.size)
  generalize hAe : va_A [(r0, .inr (3, [.ref z0, .ref r1, .ref r2, .ref r3, .ref r4, .ref r5, .ref r6])), (r1, .inl (cI, N, .inl f))] s.heap.size = A at hD ⊢
  have hA : ∀ q : Nat, s.heap.size ≤ q → A q := fun q h => by rw [← hAe]; exact Or.inr h
  have hS : va_S A s.heap s.heap [] := va_S.rf
  have hl := lv_entry ([.ref r0, .int (nI j), .int v]) (n := 3) (Nat.le_of_ble_eq_true rfl)
  rw [show entryFrame m args 3 = entryFrame m (([.ref r0, .int (nI j), .int v] : List Value)).toArray 3 by rw [hargs], lg_entry_eq]
  generalize (lg_sl ([.ref r0, .int (nI j), .int v]) ++ List.replicate (3 - (lg_sl ([.ref r0, .int (nI j), .int v])).length) Slot.unset).toArray = ls at hl ⊢
  have hl : lv_has ls 3 [(0, .ref r0), (1, .int (nI j)), (2, .int v)] := hl
  refine lv_aload_n hx hb d_R_write_0 rfl (lv_at hl 0 rfl) ?_
  refine va_get (D := (dC, dI)) (ci := 3) (v := .ref r1) (C := R_R) (T := T_R) (N := 7) hx hb hts (fun w h9 => ct_tl (ki_R w h9)) hown hK hP 0 rfl rfl 1 (by decide) (hts _ (ct_tl kw_93)) (fun _ h9 => h9) rfl d_R_write_1 ?_
  refine lv_iload_n hx hb d_R_write_4 rfl (lv_at hl 1 rfl) ?_
  refine lv_iload_n hx hb d_R_write_5 rfl (lv_at hl 2 rfl) ?_
  refine ct_iast hx hb hK hP hD hS 1 0 rfl rfl (j := j) (by omega) (by omega) d_R_write_6 (fun H locs hP hD hS => ?_)
  have hP : va_P (dC, dI) ct_cl [(r0, .inr (3, [.ref z0, .ref r1, .ref r2, .ref r3, .ref r4, .ref r5, .ref r6])), (r1, .inl (cI, N, .inl (upd f j v)))] H := hP
  have hD : va_D A [(r0, .inr (3, [.ref z0, .ref r1, .ref r2, .ref r3, .ref r4, .ref r5, .ref r6])), (r1, .inl (cI, N, .inl (upd f j v)))] := hD
  have hP9 := hP.sub [0, 1] rfl
  exact W.vret hx hb hr (fun tS ht hW => ⟨⟨(), rfl, trivial, by rw [ht]; exact hP9, va_K.moved hW.alike hK, hD.sub [0, 1] (by decide) rfl⟩, hS.F ht⟩) hS.2.2 d_R_write_7
/-- the odometer's rows: ends, indexes, strides -/
def ct_lay (sz : Nat → Nat) (us : List Nat) (L R T : Nat) (fe fi fa fb ft : Nat → Int32) : Prop := ∀ d, d < us.length → fe d = nI (sz (us.getD d 0)) ∧ fi d = nI 0 ∧ fa d = nI (ct_sr sz L (us.getD d 0)) ∧ fb d = nI (ct_sr sz R (us.getD d 0)) ∧ ft d = nI (ct_sr sz T (us.getD d 0))
theorem ct_lay_step {sz : Nat → Nat} {us : List Nat} {L R T k : Nat} {fe fi fa fb ft : Nat → Int32} (h : ct_lay sz us L R T fe fi fa fb ft) : ct_lay sz (us ++ [k]) L R T (upd fe us.length (nI (sz k))) (upd fi us.length (nI 0)) (upd fa us.length (nI (ct_sr sz L k))) (upd fb us.length (nI (ct_sr sz R k))) (upd ft us.length (nI (ct_sr sz T k))) := by
  intro d hd
  rw [List.length_append] at hd
  have hd : d < us.length + 1 := hd
  by_cases h9 : d = us.length
  · subst h9
    rw [ct_gd_r]
    exact ⟨pk_us, pk_us, pk_us, pk_us, pk_us⟩
  · rw [ct_gd_l (by omega), pk_un h9, pk_un h9, pk_un h9, pk_un h9, pk_un h9]
    exact h d (by omega)
set_option maxHeartbeats 4000000 in
set_option maxRecDepth 100000 in
theorem c_R_layOut (l : Launch) (dC : Nat → ClassId) (dI : Nat → Nat → Nat) (cI : ClassId) (z1 : Nat) (sz : Nat → Nat) (r1 : Nat) (z0 r0 r2 r3 r4 r5 r6 : Nat) (fe fi fa fb ft : Nat → Int32) (L R T : Nat) (hL : L < 256) (hR : R < 256) (hT : T < 256)  (hsz : ∀ k, k < 8 → sz k < 4) (sz0 : Nat) : Met l y_R_layOut w_R_layOut ({ frames := 2, cells := 0, slots := 0, locals := 46 }) (va_Pc [.ref r0, .int (nI L), .int (nI R), .int (nI T)] (ct_rw (dC, dI) ct_cl [(r0, .inr (3, [.ref z0, .ref r1, .ref r2, .ref r3, .ref r4, .ref r5, .ref r6])), (r2, .inl (cI, 8, .inl fe)), (r3, .inl (cI, 8, .inl fi)), (r4, .inl (cI, 8, .inl fa)), (r5, .inl (cI, 8, .inl fb)), (r6, .inl (cI, 8, .inl ft)), (z0, .inr (1, [.ref z1])), (z1, .inl (cI, 8, .inl (fun j => nI (sz j))))] [(cI, .int)] sz0)) (va_Qi (fun (r : Int32) (u : (Nat → Int32) × (Nat → Int32) × (Nat → Int32) × (Nat → Int32) × (Nat → Int32)) => r = nI (ct_us sz (L ||| R ||| T) 8).length ∧ ct_lay sz (ct_us sz (L ||| R ||| T) 8) L R T u.1 u.2.1 u.2.2.1 u.2.2.2.1 u.2.2.2.2) (fun (u : (Nat → Int32) × (Nat → Int32) × (Nat → Int32) × (Nat → Int32) × (Nat → Int32)) t => ct_at (dC, dI) ct_cl [(cI, .int)] (va_A [(r0, .inr (3, [.ref z0, .ref r1, .ref r2, .ref r3, .ref r4, .ref r5, .ref r6])), (r2, .inl (cI, 8, .inl fe)), (r3, .inl (cI, 8, .inl fi)), (r4, .inl (cI, 8, .inl fa)), (r5, .inl (cI, 8, .inl fb)), (r6, .inl (cI, 8, .inl ft)), (z0, .inr (1, [.ref z1])), (z1, .inl (cI, 8, .inl (fun j => nI (sz j))))] sz0) [(r0, .inr (3, [.ref z0, .ref r1, .ref r2, .ref r3, .ref r4, .ref r5, .ref r6])), (r2, .inl (cI, 8, .inl (u.1))), (r3, .inl (cI, 8, .inl (u.2.1))), (r4, .inl (cI, 8, .inl (u.2.2.1))), (r5, .inl (cI, 8, .inl (u.2.2.2.1))), (r6, .inl (cI, 8, .inl (u.2.2.2.2))), (z0, .inr (1, [.ref z1])), (z1, .inl (cI, 8, .inl (fun j => nI (sz j))))] t) (va_A [(r0, .inr (3, [.ref z0, .ref r1, .ref r2, .ref r3, .ref r4, .ref r5, .ref r6])), (r2, .inl (cI, 8, .inl fe)), (r3, .inl (cI, 8, .inl fi)), (r4, .inl (cI, 8, .inl fa)), (r5, .inl (cI, 8, .inl fb)), (r6, .inl (cI, 8, .inl ft)), (z0, .inr (1, [.ref z1])), (z1, .inl (cI, 8, .inl (fun j => nI (sz j))))] sz0)) 0 0 (va_A [(r0, .inr (3, [.ref z0, .ref r1, .ref r2, .ref r3, .ref r4, .ref r5, .ref r6])), (r2, .inl (cI, 8, .inl fe)), (r3, .inl (cI, 8, .inl fi)), (r4, .inl (cI, 8, .inl fa)), (r5, .inl (cI, 8, .inl fb)), (r6, .inl (cI, 8, .inl ft)), (z0, .inr (1, [.ref z1])), (z1, .inl (cI, 8, .inl (fun j => nI (sz j))))] sz0) := by
  refine Met.ofW (cc := b_R_layOut) (maxL := 7) (ret := (some .int)) (by decide) rfl ?_
  intro p e s m args below meth c s₁ Bd hml hv
  obtain ⟨hargs, hsz, hP, hK, hD0⟩ := hv
  have hx := Bd.exec
  have hb := Bd.bytes
  have hr := Bd.returns
  have hts : ∀ w ∈ k_R_layOut :: ct_tb, w.before args s = true := atoms_spec (ws := w_R_layOut) Bd.pre
  have hown : s.vm.findClass R_R = some m.cls := findClass_of_methodNamed Bd.named
  have hlocks := Bd.notSynchronized
  subst hsz
  have hD := hD0.self (sz := s.heap.size)
  generalize hAe : va_A [(r0, .inr (3, [.ref z0, .ref r1, .ref r2, .ref r3, .ref r4, .ref r5, .ref r6])), (r2, .inl (cI, 8, .inl fe)), (r3, .inl (cI, 8, .inl fi)), (r4, .inl (cI, 8, .inl fa)), (r5, .inl (cI, 8, .inl fb)), (r6, .inl (cI, 8, .inl ft)), (z0, .inr (1, [.ref z1])), (z1, .inl (cI, 8, .inl (fun j => nI (sz j))))] s.heap.size = A at hD ⊢
  have hA : ∀ q : Nat, s.heap.size ≤ q → A q := fun q h => by rw [← hAe]; exact Or.inr h
  have hS : va_S A s.heap s.heap [] := va_S.rf
  have hl := lv_entry ([.ref r0, .int (nI L), .int (nI R), .int (nI T)]) (n := 7) (Nat.le_of_ble_eq_true rfl)
  rw [show entryFrame m args 7 = entryFrame m (([.ref r0, .int (nI L), .int (nI R), .int (nI T)] : List Value)).toArray 7 by rw [hargs], lg_entry_eq]
  generalize (lg_sl ([.ref r0, .int (nI L), .int (nI R), .int (nI T)]) ++ List.replicate (7 - (lg_sl ([.ref r0, .int (nI L), .int (nI R), .int (nI T)])).length) Slot.unset).toArray = ls at hl ⊢
  have hl : lv_has ls 7 [(0, .ref r0), (1, .int (nI L)), (2, .int (nI R)), (3, .int (nI T))] := hl
  have hU : (L ||| R ||| T) < 256 := Nat.or_lt_two_pow (n := 8) (Nat.or_lt_two_pow (n := 8) hL hR) hT
  have loop : ∀ (n k : Nat), k + n = 8 → ∀ (ge gi ga gb gt : Nat → Int32), ct_lay sz (ct_us sz (L ||| R ||| T) k) L R T ge gi ga gb gt → ∀ (H : Heap) (locs : List Loc), va_P (dC, dI) ct_cl [(r0, .inr (3, [.ref z0, .ref r1, .ref r2, .ref r3, .ref r4, .ref r5, .ref r6])), (r2, .inl (cI, 8, .inl ge)), (r3, .inl (cI, 8, .inl gi)), (r4, .inl (cI, 8, .inl ga)), (r5, .inl (cI, 8, .inl gb)), (r6, .inl (cI, 8, .inl gt)), (z0, .inr (1, [.ref z1])), (z1, .inl (cI, 8, .inl (fun j => nI (sz j))))] H → va_D A [(r0, .inr (3, [.ref z0, .ref r1, .ref r2, .ref r3, .ref r4, .ref r5, .ref r6])), (r2, .inl (cI, 8, .inl ge)), (r3, .inl (cI, 8, .inl gi)), (r4, .inl (cI, 8, .inl ga)), (r5, .inl (cI, 8, .inl gb)), (r6, .inl (cI, 8, .inl gt)), (z0, .inr (1, [.ref z1])), (z1, .inl (cI, 8, .inl (fun j => nI (sz j))))] → va_S A s.heap H locs → ∀ (ls : Array Slot), lv_has ls 7 [(0, .ref r0), (1, .int (nI L)), (2, .int (nI R)), (3, .int (nI T)), (4, .int (nI (L ||| R ||| T))), (5, .int (nI (ct_us sz (L ||| R ||| T) k).length)), (6, .int (nI k))] → W p l e (headSpec w_R_layOut ({ frames := 2, cells := 0, slots := 0, locals := 46 } : Room)).room s m args below meth c H locs 0 0 (MQ below (va_Qi (fun (r : Int32) (u : (Nat → Int32) × (Nat → Int32) × (Nat → Int32) × (Nat → Int32) × (Nat → Int32)) => r = nI (ct_us sz (L ||| R ||| T) 8).length ∧ ct_lay sz (ct_us sz (L ||| R ||| T) 8) L R T u.1 u.2.1 u.2.2.1 u.2.2.2.1 u.2.2.2.2) (fun (u : (Nat → Int32) × (Nat → Int32) × (Nat → Int32) × (Nat → Int32) × (Nat → Int32)) t => ct_at (dC, dI) ct_cl [(cI, .int)] (A) [(r0, .inr (3, [.ref z0, .ref r1, .ref r2, .ref r3, .ref r4, .ref r5, .ref r6])), (r2, .inl (cI, 8, .inl (u.1))), (r3, .inl (cI, 8, .inl (u.2.1))), (r4, .inl (cI, 8, .inl (u.2.2.1))), (r5, .inl (cI, 8, .inl (u.2.2.2.1))), (r6, .inl (cI, 8, .inl (u.2.2.2.2))), (z0, .inr (1, [.ref z1])), (z1, .inl (cI, 8, .inl (fun j => nI (sz j))))] t) (A)) args s 0 0 A) (F0 m 13 ls []) := by
    intro n
    induction n with
    | zero =>
      intro k hk ge gi ga gb gt hlay H locs hP hD hS ls hl
      refine lv_iload hx hb d_R_layOut_13 (lv_at hl 6 rfl) ?_
      refine lv_bipush (v := (nI 8)) hx hb d_R_layOut_15 (by decide) ?_
      refine lv_icmp_ge (tgt := 127) hx hb d_R_layOut_17 (by decide) (fun _ => ?_) (fun hc9 => absurd (nI_le (by omega) (by omega)) hc9)
      refine lv_iload hx hb d_R_layOut_127 (lv_at hl 5 rfl) ?_
      have hP9 := hP.sub [0, 1, 2, 3, 4, 5, 6, 7] rfl
      exact W.iret (v := (nI (ct_us sz (L ||| R ||| T) k).length)) hx hb hr (fun tS ht hW => ⟨⟨(nI (ct_us sz (L ||| R ||| T) k).length), (ge, gi, ga, gb, gt), rfl, ⟨by rw [show k = 8 by omega], by rw [show k = 8 by omega] at hlay; exact hlay⟩, by rw [ht]; exact hP9, va_K.moved hW.alike hK, hD.sub [0, 1, 2, 3, 4, 5, 6, 7] (by decide) rfl⟩, hS.F ht⟩) hS.2.2 d_R_layOut_129
    | succ n ih =>
      intro k hk ge gi ga gb gt hlay H locs hP hD hS ls hl
      refine lv_iload hx hb d_R_layOut_13 (lv_at hl 6 rfl) ?_
      refine lv_bipush (v := (nI 8)) hx hb d_R_layOut_15 (by decide) ?_
      refine lv_icmp_ge (tgt := 127) hx hb d_R_layOut_17 (by decide) (fun hc9 => absurd hc9 (nI_ge (by omega) (by omega))) (fun _ => ?_)
      have hlen := ct_us_len (sz := sz) (U := (L ||| R ||| T)) k
      refine lv_iload hx hb d_R_layOut_20 (lv_at hl 4 rfl) ?_
      refine lv_iload hx hb d_R_layOut_22 (lv_at hl 6 rfl) ?_
      refine lv_ishr hx hb d_R_layOut_24 ?_
      refine lv_iconst (v := (nI 1)) hx hb d_R_layOut_25 (by decide) ?_
      by_cases hbt : ((L ||| R ||| T)).testBit k = true
      · refine lv_iand hx hb d_R_layOut_26 ?_
        refine ct_val (y := nI 1) (by rw [ct_bit (by omega) (by omega), if_pos hbt]) ?_
        refine lv_if_eq (tgt := 121) hx hb d_R_layOut_27 (by decide) (fun hc9 => absurd hc9 (nI_ne0 (by omega) (by omega))) (fun _ => ?_)
        refine lv_aload_n hx hb d_R_layOut_30 rfl (lv_at hl 0 rfl) ?_
        refine va_get (D := (dC, dI)) (ci := 3) (v := .ref z0) (C := R_R) (T := T_R) (N := 7) hx hb hts (fun w h9 => ct_tl (ki_R w h9)) hown hK hP 0 rfl rfl 0 (by decide) (hts _ (ct_tl kw_92)) (fun _ h9 => h9) rfl d_R_layOut_31 ?_
        refine lv_iload hx hb d_R_layOut_34 (lv_at hl 6 rfl) ?_
        refine va_calli (va_runV (As := [.int (nI k)]) (rest := []) ⟨hx, hb, hml, hown, hts⟩ (c_S_sizeOf l dC dI cI z0 z1 sz k (by omega)) (cwV 1 hts (ct_giV (fun w h9 => ct_tl h9) kw_458 kw_459 kw_460 kw_27 kw_461) rfl rfl rfl (by decide +kernel) ⟨Nat.le_of_ble_eq_true rfl, Nat.le_of_ble_eq_true rfl⟩) ⟨ct_ro_blind, va_recv hK hP (ci := 1) (q0 := 6) rfl rfl, ct_ro_pre (hP.sub [6, 7] rfl) hK⟩ rfl rfl hl.1 rfl (lv_room (Nat.le_of_ble_eq_true rfl)) d_R_layOut_36 ⟨Nat.le_of_ble_eq_true rfl, Nat.le_of_ble_eq_true rfl⟩) hS (fun q _ h9 => h9.elim) (fun q h9 => h9.elim) (fun ans101 uS tS H locs ht hvm hwans101 hB hz1 hk1 hS => ?_)
        have hP := ct_keep hP hk1
        refine ct_val (y := nI (sz k)) (hwans101) ?_
        refine lv_iconst (v := (nI 1)) hx hb d_R_layOut_39 (by decide) ?_
        by_cases hb1 : 1 < sz k
        · have hz4 := hsz k (by omega)
          refine lv_icmp_le (tgt := 121) hx hb d_R_layOut_40 (by decide) (fun hc9 => absurd hc9 (fun z9 => absurd ((nI_leI (by omega) (by omega)).mp z9) (by omega))) (fun _ => ?_)
          refine lv_aload_n hx hb d_R_layOut_43 rfl (lv_at hl 0 rfl) ?_
          refine va_get (D := (dC, dI)) (ci := 3) (v := .ref r2) (C := R_R) (T := T_R) (N := 7) hx hb hts (fun w h9 => ct_tl (ki_R w h9)) hown hK hP 0 rfl rfl 2 (by decide) (hts _ (ct_tl kw_94)) (fun _ h9 => h9) rfl d_R_layOut_44 ?_
          refine lv_iload hx hb d_R_layOut_47 (lv_at hl 5 rfl) ?_
          refine lv_aload_n hx hb d_R_layOut_49 rfl (lv_at hl 0 rfl) ?_
          refine va_get (D := (dC, dI)) (ci := 3) (v := .ref z0) (C := R_R) (T := T_R) (N := 7) hx hb hts (fun w h9 => ct_tl (ki_R w h9)) hown hK hP 0 rfl rfl 0 (by decide) (hts _ (ct_tl kw_92)) (fun _ h9 => h9) rfl d_R_layOut_50 ?_
          refine lv_iload hx hb d_R_layOut_53 (lv_at hl 6 rfl) ?_
          refine va_calli (va_runV (As := [.int (nI k)]) (rest := [.int (nI (ct_us sz (L ||| R ||| T) k).length), .ref r2]) ⟨hx, hb, hml, hown, hts⟩ (c_S_sizeOf l dC dI cI z0 z1 sz k (by omega)) (cwV 1 hts (ct_giV (fun w h9 => ct_tl h9) kw_458 kw_459 kw_460 kw_27 kw_461) rfl rfl rfl (by decide +kernel) ⟨Nat.le_of_ble_eq_true rfl, Nat.le_of_ble_eq_true rfl⟩) ⟨ct_ro_blind, va_recv hK hP (ci := 1) (q0 := 6) rfl rfl, ct_ro_pre (hP.sub [6, 7] rfl) hK⟩ rfl rfl hl.1 rfl (lv_room (Nat.le_of_ble_eq_true rfl)) d_R_layOut_55 ⟨Nat.le_of_ble_eq_true rfl, Nat.le_of_ble_eq_true rfl⟩) hS (fun q _ h9 => h9.elim) (fun q h9 => h9.elim) (fun ans202 uS tS H locs ht hvm hwans202 hB hz1 hk1 hS => ?_)
          have hP := ct_keep hP hk1
          refine ct_val (y := nI (sz k)) (hwans202) ?_
          refine ct_iast hx hb hK hP hD hS 1 0 rfl rfl (j := (ct_us sz (L ||| R ||| T) k).length) (by omega) (by omega) d_R_layOut_58 (fun H locs hP hD hS => ?_)
          have hP : va_P (dC, dI) ct_cl [(r0, .inr (3, [.ref z0, .ref r1, .ref r2, .ref r3, .ref r4, .ref r5, .ref r6])), (r2, .inl (cI, 8, .inl (upd ge ((ct_us sz (L ||| R ||| T) k).length) (nI (sz k))))), (r3, .inl (cI, 8, .inl gi)), (r4, .inl (cI, 8, .inl ga)), (r5, .inl (cI, 8, .inl gb)), (r6, .inl (cI, 8, .inl gt)), (z0, .inr (1, [.ref z1])), (z1, .inl (cI, 8, .inl (fun j => nI (sz j))))] H := hP
          have hD : va_D A [(r0, .inr (3, [.ref z0, .ref r1, .ref r2, .ref r3, .ref r4, .ref r5, .ref r6])), (r2, .inl (cI, 8, .inl (upd ge ((ct_us sz (L ||| R ||| T) k).length) (nI (sz k))))), (r3, .inl (cI, 8, .inl gi)), (r4, .inl (cI, 8, .inl ga)), (r5, .inl (cI, 8, .inl gb)), (r6, .inl (cI, 8, .inl gt)), (z0, .inr (1, [.ref z1])), (z1, .inl (cI, 8, .inl (fun j => nI (sz j))))] := hD
          refine lv_aload_n hx hb d_R_layOut_59 rfl (lv_at hl 0 rfl) ?_
          refine va_get (D := (dC, dI)) (ci := 3) (v := .ref r3) (C := R_R) (T := T_R) (N := 7) hx hb hts (fun w h9 => ct_tl (ki_R w h9)) hown hK hP 0 rfl rfl 3 (by decide) (hts _ (ct_tl kw_95)) (fun _ h9 => h9) rfl d_R_layOut_60 ?_
          refine lv_iload hx hb d_R_layOut_63 (lv_at hl 5 rfl) ?_
          refine lv_iconst (v := (nI 0)) hx hb d_R_layOut_65 (by decide) ?_
          refine ct_iast hx hb hK hP hD hS 2 0 rfl rfl (j := (ct_us sz (L ||| R ||| T) k).length) (by omega) (by omega) d_R_layOut_66 (fun H locs hP hD hS => ?_)
          have hP : va_P (dC, dI) ct_cl [(r0, .inr (3, [.ref z0, .ref r1, .ref r2, .ref r3, .ref r4, .ref r5, .ref r6])), (r2, .inl (cI, 8, .inl (upd ge ((ct_us sz (L ||| R ||| T) k).length) (nI (sz k))))), (r3, .inl (cI, 8, .inl (upd gi ((ct_us sz (L ||| R ||| T) k).length) (nI 0)))), (r4, .inl (cI, 8, .inl ga)), (r5, .inl (cI, 8, .inl gb)), (r6, .inl (cI, 8, .inl gt)), (z0, .inr (1, [.ref z1])), (z1, .inl (cI, 8, .inl (fun j => nI (sz j))))] H := hP
          have hD : va_D A [(r0, .inr (3, [.ref z0, .ref r1, .ref r2, .ref r3, .ref r4, .ref r5, .ref r6])), (r2, .inl (cI, 8, .inl (upd ge ((ct_us sz (L ||| R ||| T) k).length) (nI (sz k))))), (r3, .inl (cI, 8, .inl (upd gi ((ct_us sz (L ||| R ||| T) k).length) (nI 0)))), (r4, .inl (cI, 8, .inl ga)), (r5, .inl (cI, 8, .inl gb)), (r6, .inl (cI, 8, .inl gt)), (z0, .inr (1, [.ref z1])), (z1, .inl (cI, 8, .inl (fun j => nI (sz j))))] := hD
          refine lv_aload_n hx hb d_R_layOut_67 rfl (lv_at hl 0 rfl) ?_
          refine va_get (D := (dC, dI)) (ci := 3) (v := .ref r4) (C := R_R) (T := T_R) (N := 7) hx hb hts (fun w h9 => ct_tl (ki_R w h9)) hown hK hP 0 rfl rfl 4 (by decide) (hts _ (ct_tl kw_96)) (fun _ h9 => h9) rfl d_R_layOut_68 ?_
          refine lv_iload hx hb d_R_layOut_71 (lv_at hl 5 rfl) ?_
          refine lv_aload_n hx hb d_R_layOut_73 rfl (lv_at hl 0 rfl) ?_
          refine va_get (D := (dC, dI)) (ci := 3) (v := .ref z0) (C := R_R) (T := T_R) (N := 7) hx hb hts (fun w h9 => ct_tl (ki_R w h9)) hown hK hP 0 rfl rfl 0 (by decide) (hts _ (ct_tl kw_92)) (fun _ h9 => h9) rfl d_R_layOut_74 ?_
          refine lv_iload_n hx hb d_R_layOut_77 rfl (lv_at hl 1 rfl) ?_
          refine lv_iload hx hb d_R_layOut_78 (lv_at hl 6 rfl) ?_
          refine va_calli (va_runV (As := [.int (nI L), .int (nI k)]) (rest := [.int (nI (ct_us sz (L ||| R ||| T) k).length), .ref r4]) ⟨hx, hb, hml, hown, hts⟩ (c_S_stride l dC dI cI z0 z1 sz L k hL (by omega)) (cwV 2 hts (ct_giV (fun w h9 => ct_tl h9) kw_462 kw_463 kw_464 kw_27 kw_465) rfl rfl rfl (by decide +kernel) ⟨Nat.le_of_ble_eq_true rfl, Nat.le_of_ble_eq_true rfl⟩) ⟨ct_ro_blind, va_recv hK hP (ci := 1) (q0 := 6) rfl rfl, ct_ro_pre (hP.sub [6, 7] rfl) hK⟩ rfl rfl hl.1 rfl (lv_room (Nat.le_of_ble_eq_true rfl)) d_R_layOut_80 ⟨Nat.le_of_ble_eq_true rfl, Nat.le_of_ble_eq_true rfl⟩) hS (fun q _ h9 => h9.elim) (fun q h9 => h9.elim) (fun ans203 uS tS H locs ht hvm hwans203 hB hz1 hk1 hS => ?_)
          have hP := ct_keep hP hk1
          refine ct_val (y := nI (ct_sr sz L k)) (hwans203) ?_
          refine ct_iast hx hb hK hP hD hS 3 0 rfl rfl (j := (ct_us sz (L ||| R ||| T) k).length) (by omega) (by omega) d_R_layOut_83 (fun H locs hP hD hS => ?_)
          have hP : va_P (dC, dI) ct_cl [(r0, .inr (3, [.ref z0, .ref r1, .ref r2, .ref r3, .ref r4, .ref r5, .ref r6])), (r2, .inl (cI, 8, .inl (upd ge ((ct_us sz (L ||| R ||| T) k).length) (nI (sz k))))), (r3, .inl (cI, 8, .inl (upd gi ((ct_us sz (L ||| R ||| T) k).length) (nI 0)))), (r4, .inl (cI, 8, .inl (upd ga ((ct_us sz (L ||| R ||| T) k).length) (nI (ct_sr sz L k))))), (r5, .inl (cI, 8, .inl gb)), (r6, .inl (cI, 8, .inl gt)), (z0, .inr (1, [.ref z1])), (z1, .inl (cI, 8, .inl (fun j => nI (sz j))))] H := hP
          have hD : va_D A [(r0, .inr (3, [.ref z0, .ref r1, .ref r2, .ref r3, .ref r4, .ref r5, .ref r6])), (r2, .inl (cI, 8, .inl (upd ge ((ct_us sz (L ||| R ||| T) k).length) (nI (sz k))))), (r3, .inl (cI, 8, .inl (upd gi ((ct_us sz (L ||| R ||| T) k).length) (nI 0)))), (r4, .inl (cI, 8, .inl (upd ga ((ct_us sz (L ||| R ||| T) k).length) (nI (ct_sr sz L k))))), (r5, .inl (cI, 8, .inl gb)), (r6, .inl (cI, 8, .inl gt)), (z0, .inr (1, [.ref z1])), (z1, .inl (cI, 8, .inl (fun j => nI (sz j))))] := hD
          refine lv_aload_n hx hb d_R_layOut_84 rfl (lv_at hl 0 rfl) ?_
          refine va_get (D := (dC, dI)) (ci := 3) (v := .ref r5) (C := R_R) (T := T_R) (N := 7) hx hb hts (fun w h9 => ct_tl (ki_R w h9)) hown hK hP 0 rfl rfl 5 (by decide) (hts _ (ct_tl kw_97)) (fun _ h9 => h9) rfl d_R_layOut_85 ?_
          refine lv_iload hx hb d_R_layOut_88 (lv_at hl 5 rfl) ?_
          refine lv_aload_n hx hb d_R_layOut_90 rfl (lv_at hl 0 rfl) ?_
          refine va_get (D := (dC, dI)) (ci := 3) (v := .ref z0) (C := R_R) (T := T_R) (N := 7) hx hb hts (fun w h9 => ct_tl (ki_R w h9)) hown hK hP 0 rfl rfl 0 (by decide) (hts _ (ct_tl kw_92)) (fun _ h9 => h9) rfl d_R_layOut_91 ?_
          refine lv_iload_n hx hb d_R_layOut_94 rfl (lv_at hl 2 rfl) ?_
          refine lv_iload hx hb d_R_layOut_95 (lv_at hl 6 rfl) ?_
          refine va_calli (va_runV (As := [.int (nI R), .int (nI k)]) (rest := [.int (nI (ct_us sz (L ||| R ||| T) k).length), .ref r5]) ⟨hx, hb, hml, hown, hts⟩ (c_S_stride l dC dI cI z0 z1 sz R k hR (by omega)) (cwV 2 hts (ct_giV (fun w h9 => ct_tl h9) kw_462 kw_463 kw_464 kw_27 kw_465) rfl rfl rfl (by decide +kernel) ⟨Nat.le_of_ble_eq_true rfl, Nat.le_of_ble_eq_true rfl⟩) ⟨ct_ro_blind, va_recv hK hP (ci := 1) (q0 := 6) rfl rfl, ct_ro_pre (hP.sub [6, 7] rfl) hK⟩ rfl rfl hl.1 rfl (lv_room (Nat.le_of_ble_eq_true rfl)) d_R_layOut_97 ⟨Nat.le_of_ble_eq_true rfl, Nat.le_of_ble_eq_true rfl⟩) hS (fun q _ h9 => h9.elim) (fun q h9 => h9.elim) (fun ans204 uS tS H locs ht hvm hwans204 hB hz1 hk1 hS => ?_)
          have hP := ct_keep hP hk1
          refine ct_val (y := nI (ct_sr sz R k)) (hwans204) ?_
          refine ct_iast hx hb hK hP hD hS 4 0 rfl rfl (j := (ct_us sz (L ||| R ||| T) k).length) (by omega) (by omega) d_R_layOut_100 (fun H locs hP hD hS => ?_)
          have hP : va_P (dC, dI) ct_cl [(r0, .inr (3, [.ref z0, .ref r1, .ref r2, .ref r3, .ref r4, .ref r5, .ref r6])), (r2, .inl (cI, 8, .inl (upd ge ((ct_us sz (L ||| R ||| T) k).length) (nI (sz k))))), (r3, .inl (cI, 8, .inl (upd gi ((ct_us sz (L ||| R ||| T) k).length) (nI 0)))), (r4, .inl (cI, 8, .inl (upd ga ((ct_us sz (L ||| R ||| T) k).length) (nI (ct_sr sz L k))))), (r5, .inl (cI, 8, .inl (upd gb ((ct_us sz (L ||| R ||| T) k).length) (nI (ct_sr sz R k))))), (r6, .inl (cI, 8, .inl gt)), (z0, .inr (1, [.ref z1])), (z1, .inl (cI, 8, .inl (fun j => nI (sz j))))] H := hP
          have hD : va_D A [(r0, .inr (3, [.ref z0, .ref r1, .ref r2, .ref r3, .ref r4, .ref r5, .ref r6])), (r2, .inl (cI, 8, .inl (upd ge ((ct_us sz (L ||| R ||| T) k).length) (nI (sz k))))), (r3, .inl (cI, 8, .inl (upd gi ((ct_us sz (L ||| R ||| T) k).length) (nI 0)))), (r4, .inl (cI, 8, .inl (upd ga ((ct_us sz (L ||| R ||| T) k).length) (nI (ct_sr sz L k))))), (r5, .inl (cI, 8, .inl (upd gb ((ct_us sz (L ||| R ||| T) k).length) (nI (ct_sr sz R k))))), (r6, .inl (cI, 8, .inl gt)), (z0, .inr (1, [.ref z1])), (z1, .inl (cI, 8, .inl (fun j => nI (sz j))))] := hD
          refine lv_aload_n hx hb d_R_layOut_101 rfl (lv_at hl 0 rfl) ?_
          refine va_get (D := (dC, dI)) (ci := 3) (v := .ref r6) (C := R_R) (T := T_R) (N := 7) hx hb hts (fun w h9 => ct_tl (ki_R w h9)) hown hK hP 0 rfl rfl 6 (by decide) (hts _ (ct_tl kw_98)) (fun _ h9 => h9) rfl d_R_layOut_102 ?_
          refine lv_iload hx hb d_R_layOut_105 (lv_at hl 5 rfl) ?_
          refine lv_aload_n hx hb d_R_layOut_107 rfl (lv_at hl 0 rfl) ?_
          refine va_get (D := (dC, dI)) (ci := 3) (v := .ref z0) (C := R_R) (T := T_R) (N := 7) hx hb hts (fun w h9 => ct_tl (ki_R w h9)) hown hK hP 0 rfl rfl 0 (by decide) (hts _ (ct_tl kw_92)) (fun _ h9 => h9) rfl d_R_layOut_108 ?_
          refine lv_iload_n hx hb d_R_layOut_111 rfl (lv_at hl 3 rfl) ?_
          refine lv_iload hx hb d_R_layOut_112 (lv_at hl 6 rfl) ?_
          refine va_calli (va_runV (As := [.int (nI T), .int (nI k)]) (rest := [.int (nI (ct_us sz (L ||| R ||| T) k).length), .ref r6]) ⟨hx, hb, hml, hown, hts⟩ (c_S_stride l dC dI cI z0 z1 sz T k hT (by omega)) (cwV 2 hts (ct_giV (fun w h9 => ct_tl h9) kw_462 kw_463 kw_464 kw_27 kw_465) rfl rfl rfl (by decide +kernel) ⟨Nat.le_of_ble_eq_true rfl, Nat.le_of_ble_eq_true rfl⟩) ⟨ct_ro_blind, va_recv hK hP (ci := 1) (q0 := 6) rfl rfl, ct_ro_pre (hP.sub [6, 7] rfl) hK⟩ rfl rfl hl.1 rfl (lv_room (Nat.le_of_ble_eq_true rfl)) d_R_layOut_114 ⟨Nat.le_of_ble_eq_true rfl, Nat.le_of_ble_eq_true rfl⟩) hS (fun q _ h9 => h9.elim) (fun q h9 => h9.elim) (fun ans205 uS tS H locs ht hvm hwans205 hB hz1 hk1 hS => ?_)
          have hP := ct_keep hP hk1
          refine ct_val (y := nI (ct_sr sz T k)) (hwans205) ?_
          refine ct_iast hx hb hK hP hD hS 5 0 rfl rfl (j := (ct_us sz (L ||| R ||| T) k).length) (by omega) (by omega) d_R_layOut_117 (fun H locs hP hD hS => ?_)
          have hP : va_P (dC, dI) ct_cl [(r0, .inr (3, [.ref z0, .ref r1, .ref r2, .ref r3, .ref r4, .ref r5, .ref r6])), (r2, .inl (cI, 8, .inl (upd ge ((ct_us sz (L ||| R ||| T) k).length) (nI (sz k))))), (r3, .inl (cI, 8, .inl (upd gi ((ct_us sz (L ||| R ||| T) k).length) (nI 0)))), (r4, .inl (cI, 8, .inl (upd ga ((ct_us sz (L ||| R ||| T) k).length) (nI (ct_sr sz L k))))), (r5, .inl (cI, 8, .inl (upd gb ((ct_us sz (L ||| R ||| T) k).length) (nI (ct_sr sz R k))))), (r6, .inl (cI, 8, .inl (upd gt ((ct_us sz (L ||| R ||| T) k).length) (nI (ct_sr sz T k))))), (z0, .inr (1, [.ref z1])), (z1, .inl (cI, 8, .inl (fun j => nI (sz j))))] H := hP
          have hD : va_D A [(r0, .inr (3, [.ref z0, .ref r1, .ref r2, .ref r3, .ref r4, .ref r5, .ref r6])), (r2, .inl (cI, 8, .inl (upd ge ((ct_us sz (L ||| R ||| T) k).length) (nI (sz k))))), (r3, .inl (cI, 8, .inl (upd gi ((ct_us sz (L ||| R ||| T) k).length) (nI 0)))), (r4, .inl (cI, 8, .inl (upd ga ((ct_us sz (L ||| R ||| T) k).length) (nI (ct_sr sz L k))))), (r5, .inl (cI, 8, .inl (upd gb ((ct_us sz (L ||| R ||| T) k).length) (nI (ct_sr sz R k))))), (r6, .inl (cI, 8, .inl (upd gt ((ct_us sz (L ||| R ||| T) k).length) (nI (ct_sr sz T k))))), (z0, .inr (1, [.ref z1])), (z1, .inl (cI, 8, .inl (fun j => nI (sz j))))] := hD
          have e8 : (ct_us sz (L ||| R ||| T) (k + 1)).length = (ct_us sz (L ||| R ||| T) k).length + 1 := by rw [ct_us_in ⟨hbt, hb1⟩, List.length_append]; rfl
          refine lv_iinc (v := (nI (ct_us sz (L ||| R ||| T) (k + 1)).length)) (lv' := [(5, .int (nI (ct_us sz (L ||| R ||| T) (k + 1)).length)), (0, .ref r0), (1, .int (nI L)), (2, .int (nI R)), (3, .int (nI T)), (4, .int (nI (L ||| R ||| T))), (6, .int (nI k))]) hx hb d_R_layOut_118 hl (k := 5) rfl (by rw [e8]; exact nI_1 _) (by decide) rfl (fun ls hl => ?_)
          refine lv_iinc (v := (nI (k + 1))) (lv' := [(6, .int (nI (k + 1))), (5, .int (nI (ct_us sz (L ||| R ||| T) (k + 1)).length)), (0, .ref r0), (1, .int (nI L)), (2, .int (nI R)), (3, .int (nI T)), (4, .int (nI (L ||| R ||| T)))]) hx hb d_R_layOut_121 hl (k := 6) rfl (nI_1 _) (by decide) rfl (fun ls hl => ?_)
          refine lv_goto (tgt := 13) hx hb d_R_layOut_124 (by decide) ?_
          exact ih (k + 1) (by omega) _ _ _ _ _ (by rw [ct_us_in ⟨hbt, hb1⟩]; exact ct_lay_step hlay) H locs hP hD hS ls (lv_sub hl [2, 3, 4, 5, 6, 1, 0] rfl)
        · refine lv_icmp_le (tgt := 121) hx hb d_R_layOut_40 (by decide) (fun _ => ?_) (fun hc9 => absurd (nI_le (by omega) (by omega)) hc9)
          have hno : ¬ (((L ||| R ||| T)).testBit k = true ∧ 1 < sz k) := fun z9 => hb1 z9.2
          refine lv_iinc (v := (nI (k + 1))) (lv' := [(6, .int (nI (k + 1))), (0, .ref r0), (1, .int (nI L)), (2, .int (nI R)), (3, .int (nI T)), (4, .int (nI (L ||| R ||| T))), (5, .int (nI (ct_us sz (L ||| R ||| T) k).length))]) hx hb d_R_layOut_121 hl (k := 6) rfl (nI_1 _) (by decide) rfl (fun ls hl => ?_)
          refine lv_goto (tgt := 13) hx hb d_R_layOut_124 (by decide) ?_
          exact ih (k + 1) (by omega) ge gi ga gb gt (by rw [ct_us_out hno]; exact hlay) H locs hP hD hS ls (by rw [ct_us_out hno]; exact lv_sub hl [1, 2, 3, 4, 5, 6, 0] rfl)
      · refine lv_iand hx hb d_R_layOut_26 ?_
        refine ct_val (y := nI 0) (by rw [ct_bit (by omega) (by omega), if_neg hbt]) ?_
        refine lv_if_eq (tgt := 121) hx hb d_R_layOut_27 (by decide) (fun _ => ?_) (fun hc9 => absurd (nI_0) hc9)
        have hno : ¬ (((L ||| R ||| T)).testBit k = true ∧ 1 < sz k) := fun z9 => hbt z9.1
        refine lv_iinc (v := (nI (k + 1))) (lv' := [(6, .int (nI (k + 1))), (0, .ref r0), (1, .int (nI L)), (2, .int (nI R)), (3, .int (nI T)), (4, .int (nI (L ||| R ||| T))), (5, .int (nI (ct_us sz (L ||| R ||| T) k).length))]) hx hb d_R_layOut_121 hl (k := 6) rfl (nI_1 _) (by decide) rfl (fun ls hl => ?_)
        refine lv_goto (tgt := 13) hx hb d_R_layOut_124 (by decide) ?_
        exact ih (k + 1) (by omega) ge gi ga gb gt (by rw [ct_us_out hno]; exact hlay) H locs hP hD hS ls (by rw [ct_us_out hno]; exact lv_sub hl [1, 2, 3, 4, 5, 6, 0] rfl)
  refine lv_iload_n hx hb d_R_layOut_0 rfl (lv_at hl 1 rfl) ?_
  refine lv_iload_n hx hb d_R_layOut_1 rfl (lv_at hl 2 rfl) ?_
  refine lv_ior hx hb d_R_layOut_2 ?_
  refine ct_val (y := nI (L ||| R)) (ct_or _ _) ?_
  refine lv_iload_n hx hb d_R_layOut_3 rfl (lv_at hl 3 rfl) ?_
  refine lv_ior hx hb d_R_layOut_4 ?_
  refine ct_val (y := nI (L ||| R ||| T)) (ct_or _ _) ?_
  refine lv_istore (lv' := [(4, .int (nI (L ||| R ||| T))), (0, .ref r0), (1, .int (nI L)), (2, .int (nI R)), (3, .int (nI T))]) hx hb d_R_layOut_5 hl (by decide) rfl (fun ls hl => ?_)
  refine lv_iconst (v := (nI 0)) hx hb d_R_layOut_7 (by decide) ?_
  refine lv_istore (lv' := [(5, .int (nI 0)), (4, .int (nI (L ||| R ||| T))), (0, .ref r0), (1, .int (nI L)), (2, .int (nI R)), (3, .int (nI T))]) hx hb d_R_layOut_8 hl (by decide) rfl (fun ls hl => ?_)
  refine lv_iconst (v := (nI 0)) hx hb d_R_layOut_10 (by decide) ?_
  refine lv_istore (lv' := [(6, .int (nI 0)), (5, .int (nI 0)), (4, .int (nI (L ||| R ||| T))), (0, .ref r0), (1, .int (nI L)), (2, .int (nI R)), (3, .int (nI T))]) hx hb d_R_layOut_11 hl (by decide) rfl (fun ls hl => ?_)
  exact loop 8 0 rfl fe fi fa fb ft (fun d h9 => absurd h9 (Nat.not_lt_zero d)) s.heap [] hP hD hS ls (lv_sub hl [3, 4, 5, 6, 2, 1, 0] rfl)
