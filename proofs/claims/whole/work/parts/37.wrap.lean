section LCMP
variable {p : Program} {l : Launch} {e : Env} {R : Room} {s : State} {m : MethodId} {args : Array Value} {below : List Frame} {meth : Method} {c : Code} {H : Heap} {locs : List Loc} {cells slots : Nat} {Q : State → Prop} {cc : ByteArray} {pc : Nat} {ls : Array Slot} {rest : List Value}
theorem ct_lcmp (hexec : p.tables.exec = Jvm.exec) (hb : c.code = cc) {x y : Int64} (hdg : decode cc pc = .ok (.lcmp, 1)) (hxy : y = x)
    (k : W p l e R s m args below meth c H locs cells slots Q (F0 m (pc + 1) ls (.int 0 :: rest))) : W p l e R s m args below meth c H locs cells slots Q (F0 m pc ls (.long y :: .long x :: rest)) := by
  subst hxy
  intro T hT X
  obtain ⟨t, a, b⟩ := k T hT X
  refine ⟨t, ?_, b⟩
  jvm_step X.here [X.here.top, hexec, hb, hdg]
  exact a
end LCMP
/-- which of the classes that the law catches are not those of others -/
abbrev ct_ncs : List (String × String) := [("java/lang/IllegalStateException", "java/lang/IllegalArgumentException"), ("java/lang/UnsupportedOperationException", "java/lang/IllegalArgumentException"), ("java/lang/UnsupportedOperationException", "java/lang/IndexOutOfBoundsException"), ("java/lang/IllegalArgumentException", "java/lang/IndexOutOfBoundsException")]
def ct_N (U : State) : Prop := ∀ q ∈ ct_ncs, va_Nc q.1 q.2 U
theorem ct_N.moved {u U : State} (hvm : u.vm.Alike U.vm) (h : ct_N u) : ct_N U := fun q hq => va_Nc.moved hvm (h q hq)
def ct_rl (D : va_G) (cl : List vw_C) (ws : va_W) (tys : List (ClassId × FieldType)) (sz : Nat) (U : State) : Prop := ct_rx D cl ws tys sz U ∧ ct_N U
theorem ct_rl_blind {av : List Value} {D : va_G} {cl : List vw_C} {ws : va_W} {tys : List (ClassId × FieldType)} {sz : Nat} : FrameBlind (va_Pc av (ct_rl D cl ws tys sz)) := fun a U g mk q => ⟨(ct_rx_blind (av := av) a U g mk ⟨q.1, q.2.1⟩).1, (ct_rx_blind (av := av) a U g mk ⟨q.1, q.2.1⟩).2, ct_N.moved (u := U) (U := U.calling g mk a) (Vm.Alike.refl U.vm) q.2.2⟩
theorem ct_rl_pre {av : List Value} {D : va_G} {cl : List vw_C} {ws : va_W} {tys : List (ClassId × FieldType)} {A A0 : Nat → Prop} {s : State} {H : Heap} (hP : va_P D cl ws H) (hK : va_K D cl tys s) (hD : va_D A ws) (hX : ct_X A0 s H) (hA : ∀ q, va_A ws H.size q → A0 q) (hN : ct_N s) : ∀ U : State, U.heap = H → s.WarmedH U.vm → va_Pc av (ct_rl D cl ws tys H.size) av.toArray U := fun U hU hW => ⟨rfl, (ct_rx_pre (av := av) hP hK hD hX hA U hU hW).2, hN.moved hW.alike⟩
/-- the world behind a call that may have thrown -/
abbrev ct_wm {α : Type} (o : Option α) (a : va_W) (f : α → va_W) : va_W := match o with | none => a | some v => f v
/-- the law's number of a throw -/
def ct_ec (E E1 : String) : Nat := if E = E1 then 1 else 2
theorem ct_giW {big : List Cond} {b : Cond} {own : String} {idx : Nat} {y : MethodName} (hbig : ∀ w ∈ ct_tb, w ∈ big) (h1 : Cond.methodLink own idx y ∈ ct_tb) (h2 : Cond.static y ∈ ct_tb) (h4 : Cond.initialized y.cls ∈ ct_tb) (hb : b ∈ ct_tb) : GoodIn big (va_wsS own idx y (b :: ct_tb)) := ct_giT hbig h1 h2 h4 hb
theorem d_L_size_0 : decode b_L_size 0 = .ok (.aload_n 0, 1) := by decide +kernel
theorem d_L_size_1 : decode b_L_size 1 = .ok (.iload_n 1, 1) := by decide +kernel
theorem d_L_size_2 : decode b_L_size 2 = .ok (.iload_n 2, 1) := by decide +kernel
theorem d_L_size_3 : decode b_L_size 3 = .ok (.invokevirtual 7, 3) := by decide +kernel
theorem d_L_size_6 : decode b_L_size 6 = .ok (.goto 9, 3) := by decide +kernel
theorem d_L_size_9 : decode b_L_size 9 = .ok (.astore_n 3, 1) := by decide +kernel
theorem d_L_size_10 : decode b_L_size 10 = .ok (.iconst 1, 1) := by decide +kernel
theorem d_L_size_11 : decode b_L_size 11 = .ok (.ireturn, 1) := by decide +kernel
theorem d_L_size_12 : decode b_L_size 12 = .ok (.astore_n 3, 1) := by decide +kernel
theorem d_L_size_13 : decode b_L_size 13 = .ok (.iconst 2, 1) := by decide +kernel
theorem d_L_size_14 : decode b_L_size 14 = .ok (.ireturn, 1) := by decide +kernel
theorem d_L_size_15 : decode b_L_size 15 = .ok (.iconst 0, 1) := by decide +kernel
theorem d_L_size_16 : decode b_L_size 16 = .ok (.ireturn, 1) := by decide +kernel
theorem d_L_table_0 : decode b_L_table 0 = .ok (.aload 4, 2) := by decide +kernel
theorem d_L_table_2 : decode b_L_table 2 = .ok (.iconst 0, 1) := by decide +kernel
theorem d_L_table_3 : decode b_L_table 3 = .ok (.aload_n 0, 1) := by decide +kernel
theorem d_L_table_4 : decode b_L_table 4 = .ok (.iload_n 1, 1) := by decide +kernel
theorem d_L_table_5 : decode b_L_table 5 = .ok (.iload_n 2, 1) := by decide +kernel
theorem d_L_table_6 : decode b_L_table 6 = .ok (.iload_n 3, 1) := by decide +kernel
theorem d_L_table_7 : decode b_L_table 7 = .ok (.invokevirtual 17, 3) := by decide +kernel
theorem d_L_table_10 : decode b_L_table 10 = .ok (.i2l, 1) := by decide +kernel
theorem d_L_table_11 : decode b_L_table 11 = .ok (.lastore, 1) := by decide +kernel
theorem d_L_table_12 : decode b_L_table 12 = .ok (.goto 11, 3) := by decide +kernel
theorem d_L_table_15 : decode b_L_table 15 = .ok (.astore 5, 2) := by decide +kernel
theorem d_L_table_17 : decode b_L_table 17 = .ok (.iconst 1, 1) := by decide +kernel
theorem d_L_table_18 : decode b_L_table 18 = .ok (.ireturn, 1) := by decide +kernel
theorem d_L_table_19 : decode b_L_table 19 = .ok (.astore 5, 2) := by decide +kernel
theorem d_L_table_21 : decode b_L_table 21 = .ok (.iconst 2, 1) := by decide +kernel
theorem d_L_table_22 : decode b_L_table 22 = .ok (.ireturn, 1) := by decide +kernel
theorem d_L_table_23 : decode b_L_table 23 = .ok (.iconst 0, 1) := by decide +kernel
theorem d_L_table_24 : decode b_L_table 24 = .ok (.ireturn, 1) := by decide +kernel
theorem d_L_set_0 : decode b_L_set 0 = .ok (.aload_n 0, 1) := by decide +kernel
theorem d_L_set_1 : decode b_L_set 1 = .ok (.iload_n 1, 1) := by decide +kernel
theorem d_L_set_2 : decode b_L_set 2 = .ok (.iload_n 2, 1) := by decide +kernel
theorem d_L_set_3 : decode b_L_set 3 = .ok (.iload_n 3, 1) := by decide +kernel
theorem d_L_set_4 : decode b_L_set 4 = .ok (.invokevirtual 23, 3) := by decide +kernel
theorem d_L_set_7 : decode b_L_set 7 = .ok (.goto 7, 3) := by decide +kernel
theorem d_L_set_10 : decode b_L_set 10 = .ok (.astore 4, 2) := by decide +kernel
theorem d_L_set_12 : decode b_L_set 12 = .ok (.iconst 1, 1) := by decide +kernel
theorem d_L_set_13 : decode b_L_set 13 = .ok (.ireturn, 1) := by decide +kernel
theorem d_L_set_14 : decode b_L_set 14 = .ok (.iconst 0, 1) := by decide +kernel
theorem d_L_set_15 : decode b_L_set 15 = .ok (.ireturn, 1) := by decide +kernel
theorem d_L_extent_0 : decode b_L_extent 0 = .ok (.aload_n 2, 1) := by decide +kernel
theorem d_L_extent_1 : decode b_L_extent 1 = .ok (.iconst 0, 1) := by decide +kernel
theorem d_L_extent_2 : decode b_L_extent 2 = .ok (.aload_n 0, 1) := by decide +kernel
theorem d_L_extent_3 : decode b_L_extent 3 = .ok (.iload_n 1, 1) := by decide +kernel
theorem d_L_extent_4 : decode b_L_extent 4 = .ok (.invokevirtual 29, 3) := by decide +kernel
theorem d_L_extent_7 : decode b_L_extent 7 = .ok (.i2l, 1) := by decide +kernel
theorem d_L_extent_8 : decode b_L_extent 8 = .ok (.lastore, 1) := by decide +kernel
theorem d_L_extent_9 : decode b_L_extent 9 = .ok (.goto 6, 3) := by decide +kernel
theorem d_L_extent_12 : decode b_L_extent 12 = .ok (.astore_n 3, 1) := by decide +kernel
theorem d_L_extent_13 : decode b_L_extent 13 = .ok (.iconst 1, 1) := by decide +kernel
theorem d_L_extent_14 : decode b_L_extent 14 = .ok (.ireturn, 1) := by decide +kernel
theorem d_L_extent_15 : decode b_L_extent 15 = .ok (.iconst 0, 1) := by decide +kernel
theorem d_L_extent_16 : decode b_L_extent 16 = .ok (.ireturn, 1) := by decide +kernel
theorem d_L_operand_0 : decode b_L_operand 0 = .ok (.aload_n 2, 1) := by decide +kernel
theorem d_L_operand_1 : decode b_L_operand 1 = .ok (.iconst 0, 1) := by decide +kernel
theorem d_L_operand_2 : decode b_L_operand 2 = .ok (.aload_n 0, 1) := by decide +kernel
theorem d_L_operand_3 : decode b_L_operand 3 = .ok (.iload_n 1, 1) := by decide +kernel
theorem d_L_operand_4 : decode b_L_operand 4 = .ok (.invokevirtual 33, 3) := by decide +kernel
theorem d_L_operand_7 : decode b_L_operand 7 = .ok (.i2l, 1) := by decide +kernel
theorem d_L_operand_8 : decode b_L_operand 8 = .ok (.lastore, 1) := by decide +kernel
theorem d_L_operand_9 : decode b_L_operand 9 = .ok (.goto 9, 3) := by decide +kernel
theorem d_L_operand_12 : decode b_L_operand 12 = .ok (.astore_n 3, 1) := by decide +kernel
theorem d_L_operand_13 : decode b_L_operand 13 = .ok (.iconst 1, 1) := by decide +kernel
theorem d_L_operand_14 : decode b_L_operand 14 = .ok (.ireturn, 1) := by decide +kernel
theorem d_L_operand_15 : decode b_L_operand 15 = .ok (.astore_n 3, 1) := by decide +kernel
theorem d_L_operand_16 : decode b_L_operand 16 = .ok (.iconst 2, 1) := by decide +kernel
theorem d_L_operand_17 : decode b_L_operand 17 = .ok (.ireturn, 1) := by decide +kernel
theorem d_L_operand_18 : decode b_L_operand 18 = .ok (.iconst 0, 1) := by decide +kernel
theorem d_L_operand_19 : decode b_L_operand 19 = .ok (.ireturn, 1) := by decide +kernel
theorem d_L_result_0 : decode b_L_result 0 = .ok (.aload 4, 2) := by decide +kernel
theorem d_L_result_2 : decode b_L_result 2 = .ok (.iconst 0, 1) := by decide +kernel
theorem d_L_result_3 : decode b_L_result 3 = .ok (.aload_n 0, 1) := by decide +kernel
theorem d_L_result_4 : decode b_L_result 4 = .ok (.iload_n 1, 1) := by decide +kernel
theorem d_L_result_5 : decode b_L_result 5 = .ok (.iload_n 2, 1) := by decide +kernel
theorem d_L_result_6 : decode b_L_result 6 = .ok (.iload_n 3, 1) := by decide +kernel
theorem d_L_result_7 : decode b_L_result 7 = .ok (.invokevirtual 36, 3) := by decide +kernel
theorem d_L_result_10 : decode b_L_result 10 = .ok (.i2l, 1) := by decide +kernel
theorem d_L_result_11 : decode b_L_result 11 = .ok (.lastore, 1) := by decide +kernel
theorem d_L_result_12 : decode b_L_result 12 = .ok (.goto 7, 3) := by decide +kernel
theorem d_L_result_15 : decode b_L_result 15 = .ok (.astore 5, 2) := by decide +kernel
theorem d_L_result_17 : decode b_L_result 17 = .ok (.iconst 1, 1) := by decide +kernel
theorem d_L_result_18 : decode b_L_result 18 = .ok (.ireturn, 1) := by decide +kernel
theorem d_L_result_19 : decode b_L_result 19 = .ok (.iconst 0, 1) := by decide +kernel
theorem d_L_result_20 : decode b_L_result 20 = .ok (.ireturn, 1) := by decide +kernel
theorem d_L_step_0 : decode b_L_step 0 = .ok (.aload_n 3, 1) := by decide +kernel
theorem d_L_step_1 : decode b_L_step 1 = .ok (.iconst 0, 1) := by decide +kernel
theorem d_L_step_2 : decode b_L_step 2 = .ok (.aload_n 0, 1) := by decide +kernel
theorem d_L_step_3 : decode b_L_step 3 = .ok (.iload_n 1, 1) := by decide +kernel
theorem d_L_step_4 : decode b_L_step 4 = .ok (.iload_n 2, 1) := by decide +kernel
theorem d_L_step_5 : decode b_L_step 5 = .ok (.invokevirtual 39, 3) := by decide +kernel
theorem d_L_step_8 : decode b_L_step 8 = .ok (.i2l, 1) := by decide +kernel
theorem d_L_step_9 : decode b_L_step 9 = .ok (.lastore, 1) := by decide +kernel
theorem d_L_step_10 : decode b_L_step 10 = .ok (.goto 11, 3) := by decide +kernel
theorem d_L_step_13 : decode b_L_step 13 = .ok (.astore 4, 2) := by decide +kernel
theorem d_L_step_15 : decode b_L_step 15 = .ok (.iconst 1, 1) := by decide +kernel
theorem d_L_step_16 : decode b_L_step 16 = .ok (.ireturn, 1) := by decide +kernel
theorem d_L_step_17 : decode b_L_step 17 = .ok (.astore 4, 2) := by decide +kernel
theorem d_L_step_19 : decode b_L_step 19 = .ok (.iconst 2, 1) := by decide +kernel
theorem d_L_step_20 : decode b_L_step 20 = .ok (.ireturn, 1) := by decide +kernel
theorem d_L_step_21 : decode b_L_step 21 = .ok (.iconst 0, 1) := by decide +kernel
theorem d_L_step_22 : decode b_L_step 22 = .ok (.ireturn, 1) := by decide +kernel
theorem d_L_about_0 : decode b_L_about 0 = .ok (.aload_n 2, 1) := by decide +kernel
theorem d_L_about_1 : decode b_L_about 1 = .ok (.iconst 0, 1) := by decide +kernel
theorem d_L_about_2 : decode b_L_about 2 = .ok (.aload_n 0, 1) := by decide +kernel
theorem d_L_about_3 : decode b_L_about 3 = .ok (.iload_n 1, 1) := by decide +kernel
theorem d_L_about_4 : decode b_L_about 4 = .ok (.invokevirtual 46, 3) := by decide +kernel
theorem d_L_about_7 : decode b_L_about 7 = .ok (.i2l, 1) := by decide +kernel
theorem d_L_about_8 : decode b_L_about 8 = .ok (.lastore, 1) := by decide +kernel
theorem d_L_about_9 : decode b_L_about 9 = .ok (.goto 6, 3) := by decide +kernel
theorem d_L_about_12 : decode b_L_about 12 = .ok (.astore_n 3, 1) := by decide +kernel
theorem d_L_about_13 : decode b_L_about 13 = .ok (.iconst 1, 1) := by decide +kernel
theorem d_L_about_14 : decode b_L_about 14 = .ok (.ireturn, 1) := by decide +kernel
theorem d_L_about_15 : decode b_L_about 15 = .ok (.iconst 0, 1) := by decide +kernel
theorem d_L_about_16 : decode b_L_about 16 = .ok (.ireturn, 1) := by decide +kernel
theorem d_L_value_0 : decode b_L_value 0 = .ok (.aload_n 2, 1) := by decide +kernel
theorem d_L_value_1 : decode b_L_value 1 = .ok (.iconst 0, 1) := by decide +kernel
theorem d_L_value_2 : decode b_L_value 2 = .ok (.aload_n 0, 1) := by decide +kernel
theorem d_L_value_3 : decode b_L_value 3 = .ok (.iload_n 1, 1) := by decide +kernel
theorem d_L_value_4 : decode b_L_value 4 = .ok (.invokevirtual 43, 3) := by decide +kernel
theorem d_L_value_7 : decode b_L_value 7 = .ok (.i2l, 1) := by decide +kernel
theorem d_L_value_8 : decode b_L_value 8 = .ok (.lastore, 1) := by decide +kernel
theorem d_L_value_9 : decode b_L_value 9 = .ok (.goto 6, 3) := by decide +kernel
theorem d_L_value_12 : decode b_L_value 12 = .ok (.astore_n 3, 1) := by decide +kernel
theorem d_L_value_13 : decode b_L_value 13 = .ok (.iconst 1, 1) := by decide +kernel
theorem d_L_value_14 : decode b_L_value 14 = .ok (.ireturn, 1) := by decide +kernel
theorem d_L_value_15 : decode b_L_value 15 = .ok (.iconst 0, 1) := by decide +kernel
theorem d_L_value_16 : decode b_L_value 16 = .ok (.ireturn, 1) := by decide +kernel
set_option maxHeartbeats 4000000 in
set_option maxRecDepth 100000 in
theorem c_L_size (l : Launch) (hst : l.stackTraces = false) (dC : Nat → ClassId) (dI : Nat → Nat → Nat) (cI cJ : ClassId) (z1 : Nat) (sz : Nat → Nat) (h0 z0 p0 r0 k1 k2 k3 k4 : Nat) (T : Nat) (ops res pl sm : Int32) (f : Nat → Int32) (lab : Nat → Nat) (hT8 : T ≤ 8) (hf : ∀ t, t < T → f t = nI (lab t)) (hlab : ∀ t, t < T → lab t < 256) (x y : Int32) (sz0 : Nat) : Met l y_L_size w_L_size ({ frames := 7, cells := 1, slots := 6, locals := 112 }) (va_Pc [.ref h0, .int x, .int y] (ct_rl (dC, dI) ct_cl [(h0, .inr (0, [.ref z0, .ref p0, .ref r0, .int (nI T), .ref k1, .int ops, .ref k2, .ref k3, .int res, .ref k4, .int pl, .int sm])), (k1, .inl (cI, 8, .inl f)), (z0, .inr (1, [.ref z1])), (z1, .inl (cI, 8, .inl (fun j => nI (sz j))))] [(cI, .int), (cJ, .long)] sz0)) (va_Qi (fun (r : Int32) (u : Option (Nat → Nat)) => (u = none ∧ ∃ E : String, ((ct_sok x y = false ∧ E = R_IAE) ∨ (ct_sok x y = true ∧ E = R_ISE ∧ ∃ k : Nat, k < 8 ∧ x = nI k ∧ ct_any lab k T = true)) ∧ r = nI (ct_ec E R_IAE)) ∨ (r = nI 0 ∧ ∃ v9 : Nat → Nat, u = some v9 ∧ (∃ k v : Nat, k < 8 ∧ x = nI k ∧ y = nI v ∧ 0 < v ∧ v < 4 ∧ ct_any lab k T = false ∧ ct_sok x y = true ∧ v9 = ct_st sz k v))) (fun (u : Option (Nat → Nat)) t => ct_at (dC, dI) ct_cl [(cI, .int), (cJ, .long)] (va_A [(h0, .inr (0, [.ref z0, .ref p0, .ref r0, .int (nI T), .ref k1, .int ops, .ref k2, .ref k3, .int res, .ref k4, .int pl, .int sm])), (k1, .inl (cI, 8, .inl f)), (z0, .inr (1, [.ref z1])), (z1, .inl (cI, 8, .inl (fun j => nI (sz j))))] sz0) (ct_wm (u) [(h0, .inr (0, [.ref z0, .ref p0, .ref r0, .int (nI T), .ref k1, .int ops, .ref k2, .ref k3, .int res, .ref k4, .int pl, .int sm])), (k1, .inl (cI, 8, .inl f)), (z0, .inr (1, [.ref z1])), (z1, .inl (cI, 8, .inl (fun j => nI (sz j))))] (fun (v9 : Nat → Nat) => [(h0, .inr (0, [.ref z0, .ref p0, .ref r0, .int (nI T), .ref k1, .int ops, .ref k2, .ref k3, .int res, .ref k4, .int pl, .int (nI 0)])), (k1, .inl (cI, 8, .inl f)), (z0, .inr (1, [.ref z1])), (z1, .inl (cI, 8, .inl (fun j => nI (v9 j))))])) t) (va_A [(h0, .inr (0, [.ref z0, .ref p0, .ref r0, .int (nI T), .ref k1, .int ops, .ref k2, .ref k3, .int res, .ref k4, .int pl, .int sm])), (k1, .inl (cI, 8, .inl f)), (z0, .inr (1, [.ref z1])), (z1, .inl (cI, 8, .inl (fun j => nI (sz j))))] sz0)) 1 6 (va_A [(h0, .inr (0, [.ref z0, .ref p0, .ref r0, .int (nI T), .ref k1, .int ops, .ref k2, .ref k3, .int res, .ref k4, .int pl, .int sm])), (k1, .inl (cI, 8, .inl f)), (z0, .inr (1, [.ref z1])), (z1, .inl (cI, 8, .inl (fun j => nI (sz j))))] sz0) := by
  refine va_MetW (cc := b_L_size) (maxL := 4) (ret := (some .int)) (hh := [(0, 6, 9, 13), (0, 6, 12, 15)]) (by decide) rfl ?_
  intro p e s m args below meth c s₁ Bd hml hv
  obtain ⟨hargs, ⟨⟨hsz9, hP, hK2, hD0⟩, hXw⟩, hNw⟩ := hv
  have hK : va_K (dC, dI) ct_cl [(cI, .int)] s := hK2.sub [0] rfl
  have hx := Bd.exec
  have hb := Bd.bytes
  have hr := Bd.returns
  have hts : ∀ w ∈ k_L_size :: ct_tb, w.before args s = true := atoms_spec (ws := w_L_size) Bd.pre
  have htab : c.exceptionTable.toList = tableOf [(0, 6, 9, 13), (0, 6, 12, 15)] := vx_table (x := y_L_size) Bd (hts _ List.mem_cons_self)
  have hown : s.vm.findClass R_L = some m.cls := findClass_of_methodNamed Bd.named
  have hlocks := Bd.notSynchronized
  subst hsz9
  have hD := hD0.self (sz := s.heap.size)
  generalize hAe : va_A [(h0, .inr (0, [.ref z0, .ref p0, .ref r0, .int (nI T), .ref k1, .int ops, .ref k2, .ref k3, .int res, .ref k4, .int pl, .int sm])), (k1, .inl (cI, 8, .inl f)), (z0, .inr (1, [.ref z1])), (z1, .inl (cI, 8, .inl (fun j => nI (sz j))))] s.heap.size = A at hD hXw ⊢
  have hA : ∀ q : Nat, s.heap.size ≤ q → A q := fun q h => by rw [← hAe]; exact Or.inr h
  have hS : va_S A s.heap s.heap [] := va_S.rf
  have hl := lv_entry ([.ref h0, .int x, .int y]) (n := 4) (Nat.le_of_ble_eq_true rfl)
  rw [show entryFrame m args 4 = entryFrame m (([.ref h0, .int x, .int y] : List Value)).toArray 4 by rw [hargs], lg_entry_eq]
  generalize (lg_sl ([.ref h0, .int x, .int y]) ++ List.replicate (4 - (lg_sl ([.ref h0, .int x, .int y])).length) Slot.unset).toArray = ls at hl ⊢
  have hl : lv_has ls 4 [(0, .ref h0), (1, .int x), (2, .int y)] := hl
  refine lv_aload_n hx hb d_L_size_0 rfl (lv_at hl 0 rfl) ?_
  refine lv_iload_n hx hb d_L_size_1 rfl (lv_at hl 1 rfl) ?_
  refine lv_iload_n hx hb d_L_size_2 rfl (lv_at hl 2 rfl) ?_
  have hPc := hP.sub (ws' := [(h0, .inr (0, [.ref z0, .ref p0, .ref r0, .int (nI T), .ref k1, .int ops, .ref k2, .ref k3, .int res, .ref k4, .int pl, .int sm])), (k1, .inl (cI, 8, .inl f)), (z0, .inr (1, [.ref z1])), (z1, .inl (cI, 8, .inl (fun j => nI (sz j))))]) [0, 1, 2, 3] rfl
  have hDc := hD.sub (ws' := [(h0, .inr (0, [.ref z0, .ref p0, .ref r0, .int (nI T), .ref k1, .int ops, .ref k2, .ref k3, .int res, .ref k4, .int pl, .int sm])), (k1, .inl (cI, 8, .inl f)), (z0, .inr (1, [.ref z1])), (z1, .inl (cI, 8, .inl (fun j => nI (sz j))))]) [0, 1, 2, 3] (by decide) rfl
  have hFc := va_free (wc := [(h0, .inr (0, [.ref z0, .ref p0, .ref r0, .int (nI T), .ref k1, .int ops, .ref k2, .ref k3, .int res, .ref k4, .int pl, .int sm])), (k1, .inl (cI, 8, .inl f)), (z0, .inr (1, [.ref z1])), (z1, .inl (cI, 8, .inl (fun j => nI (sz j))))]) hD hS hA [0, 1, 2, 3] rfl
  refine vx_callv (vx_runV (As := [.int x, .int y]) (rest := []) ⟨hx, hb, hml, hown, hts⟩ (c_H_size l hst dC dI cI z1 sz h0 z0 p0 r0 k1 k2 k3 k4 T ops res pl sm f lab hT8 hf hlab x y s.heap.size) (cwV 2 hts (ct_giV (fun w h9 => ct_tl h9) kw_221 kw_222 kw_223 kw_26 kw_224) rfl rfl rfl (by decide +kernel) ⟨Nat.le_of_ble_eq_true rfl, Nat.le_of_ble_eq_true rfl⟩) ⟨ct_rx_blind, va_recv hK hP (ci := 0) (q0 := 0) rfl rfl, ct_rx_pre hPc hK hDc hXw hFc⟩ rfl rfl hl.1 rfl (lv_room (Nat.le_of_ble_eq_true rfl)) d_L_size_3 ⟨by show 0 + (1) ≤ 1; omega, by show 0 + (6) ≤ 6; omega⟩) hS (fun q _ h9 => hFc q h9) hFc (fun q _ h9 => hFc q h9) (fun E ce q9 u9 tS H1 locs ht hal hpx hBX hz1 hk1 hS hce hcv hcl => ?_) (fun u9 tS H1 locs ht hal hw9 hB hz1 hk1 hS => ?_)
  · obtain ⟨hE, hP1, -, hD1⟩ := hBX
    rw [ht] at hP1
    obtain ⟨hP, hD⟩ := va_join (wr := []) (w1 := [(h0, .inr (0, [.ref z0, .ref p0, .ref r0, .int (nI T), .ref k1, .int ops, .ref k2, .ref k3, .int res, .ref k4, .int pl, .int sm])), (k1, .inl (cI, 8, .inl f)), (z0, .inr (1, [.ref z1])), (z1, .inl (cI, 8, .inl (fun j => nI (sz j))))]) hP hD [0, 1, 2, 3] [] rfl rfl (by decide) (by decide) hk1 hFc hP1 hD1
    generalize H1 = H at hP hS hce ⊢
    have hP : va_P (dC, dI) ct_cl [(h0, .inr (0, [.ref z0, .ref p0, .ref r0, .int (nI T), .ref k1, .int ops, .ref k2, .ref k3, .int res, .ref k4, .int pl, .int sm])), (k1, .inl (cI, 8, .inl f)), (z0, .inr (1, [.ref z1])), (z1, .inl (cI, 8, .inl (fun j => nI (sz j))))] H := hP
    have hD : va_D A [(h0, .inr (0, [.ref z0, .ref p0, .ref r0, .int (nI T), .ref k1, .int ops, .ref k2, .ref k3, .int res, .ref k4, .int pl, .int sm])), (k1, .inl (cI, 8, .inl f)), (z0, .inr (1, [.ref z1])), (z1, .inl (cI, 8, .inl (fun j => nI (sz j))))] := hD
    rcases hE with ⟨hE, rfl⟩ | ⟨hE, rfl, hE2⟩
    · refine vx_catch (own := R_L) (name := "java/lang/IllegalArgumentException") (E := "java/lang/IllegalArgumentException") hown [] ⟨0, 6, 9, 13⟩ [⟨0, 6, 12, 15⟩] (htab.trans rfl) (fun z hz => absurd hz List.not_mem_nil) (by decide) (by decide) (hts _ (ct_tl kw_219)) (va_Nw.use (ct_bad_ot _ (by simp [ct_bad])) (hXw.1 _ (by simp [ct_bad]))) hce hcv hcl ?_
      refine W.widen (k := 1) (n := 6) (by omega) (by omega) ?_
      refine lv_astore_n (lv' := [(3, .ref q9), (0, .ref h0), (1, .int x), (2, .int y)]) hx hb d_L_size_9 rfl hl (by decide) rfl (fun ls hl => ?_)
      refine lv_iconst (v := (nI 1)) hx hb d_L_size_10 (by decide) ?_
      have hP9 := hP.sub [0, 1, 2, 3] rfl
      exact W.iret (v := (nI 1)) hx hb hr (fun tS ht hW => ⟨⟨(nI 1), none, rfl, Or.inl ⟨rfl, ⟨_, Or.inl ⟨hE, rfl⟩, by rw [ct_ec, if_pos rfl]⟩⟩, by rw [ht]; exact hP9, va_K.moved hW.alike hK2, hD.sub [0, 1, 2, 3] (by decide) rfl⟩, hS.F ht⟩) hS.2.2 d_L_size_11
    · refine vx_catch (own := R_L) (name := "java/lang/IllegalStateException") (E := "java/lang/IllegalStateException") hown [⟨0, 6, 9, 13⟩] ⟨0, 6, 12, 15⟩ [] (htab.trans rfl) (fun z hz => by rw [List.mem_singleton.mp hz]; exact Or.inr ⟨by decide, "java/lang/IllegalArgumentException", hts _ (ct_tl kw_219), hNw ("java/lang/IllegalStateException", "java/lang/IllegalArgumentException") (by decide)⟩) (by decide) (by decide) (hts _ (ct_tl kw_220)) (va_Nw.use (ct_bad_ot _ (by simp [ct_bad])) (hXw.1 _ (by simp [ct_bad]))) hce hcv hcl ?_
      refine W.widen (k := 1) (n := 6) (by omega) (by omega) ?_
      refine lv_astore_n (lv' := [(3, .ref q9), (0, .ref h0), (1, .int x), (2, .int y)]) hx hb d_L_size_12 rfl hl (by decide) rfl (fun ls hl => ?_)
      refine lv_iconst (v := (nI 2)) hx hb d_L_size_13 (by decide) ?_
      have hP9 := hP.sub [0, 1, 2, 3] rfl
      exact W.iret (v := (nI 2)) hx hb hr (fun tS ht hW => ⟨⟨(nI 2), none, rfl, Or.inl ⟨rfl, ⟨_, Or.inr ⟨hE, rfl, hE2⟩, by rw [ct_ec, if_neg (by decide)]⟩⟩, by rw [ht]; exact hP9, va_K.moved hW.alike hK2, hD.sub [0, 1, 2, 3] (by decide) rfl⟩, hS.F ht⟩) hS.2.2 d_L_size_14
  · obtain ⟨hP1, -, hD1⟩ := hB
    rw [ht] at hP1
    obtain ⟨hP, hD⟩ := va_join (wr := []) (w1 := [(h0, .inr (0, [.ref z0, .ref p0, .ref r0, .int (nI T), .ref k1, .int ops, .ref k2, .ref k3, .int res, .ref k4, .int pl, .int (nI 0)])), (k1, .inl (cI, 8, .inl f)), (z0, .inr (1, [.ref z1])), (z1, .inl (cI, 8, .inl (fun j => nI (u9 j))))]) hP hD [0, 1, 2, 3] [] rfl rfl (by decide) (by decide) hk1 hFc hP1 hD1
    generalize H1 = H at hP hS ⊢
    have hP : va_P (dC, dI) ct_cl [(h0, .inr (0, [.ref z0, .ref p0, .ref r0, .int (nI T), .ref k1, .int ops, .ref k2, .ref k3, .int res, .ref k4, .int pl, .int (nI 0)])), (k1, .inl (cI, 8, .inl f)), (z0, .inr (1, [.ref z1])), (z1, .inl (cI, 8, .inl (fun j => nI (u9 j))))] H := hP
    have hD : va_D A [(h0, .inr (0, [.ref z0, .ref p0, .ref r0, .int (nI T), .ref k1, .int ops, .ref k2, .ref k3, .int res, .ref k4, .int pl, .int (nI 0)])), (k1, .inl (cI, 8, .inl f)), (z0, .inr (1, [.ref z1])), (z1, .inl (cI, 8, .inl (fun j => nI (u9 j))))] := hD
    refine W.widen (k := 1) (n := 6) (by omega) (by omega) ?_
    refine lv_goto (tgt := 15) hx hb d_L_size_6 (by decide) ?_
    refine lv_iconst (v := (nI 0)) hx hb d_L_size_15 (by decide) ?_
    have hP9 := hP.sub [0, 1, 2, 3] rfl
    exact W.iret (v := (nI 0)) hx hb hr (fun tS ht hW => ⟨⟨(nI 0), some u9, rfl, Or.inr ⟨rfl, u9, rfl, hw9⟩, by rw [ht]; exact hP9, va_K.moved hW.alike hK2, hD.sub [0, 1, 2, 3] (by decide) rfl⟩, hS.F ht⟩) hS.2.2 d_L_size_16
set_option maxHeartbeats 4000000 in
set_option maxRecDepth 100000 in
theorem c_L_table (l : Launch) (hst : l.stackTraces = false) (dC : Nat → ClassId) (dI : Nat → Nat → Nat) (cI cJ : ClassId) (h0 z0 p0 r0 k1 k2 k3 k4 : Nat) (T : Nat) (ops res pl sm : Int32) (f : Nat → Int32) (hT8 : T ≤ 8) (a b d : Int32) (w0 : Nat) (fw : Nat → Int64) (sz0 : Nat) : Met l y_L_table w_L_table ({ frames := 7, cells := 1, slots := 6, locals := 113 }) (va_Pc [.ref h0, .int a, .int b, .int d, .ref w0] (ct_rl (dC, dI) ct_cl [(w0, .inl (cJ, 1, .inr (.inl fw))), (h0, .inr (0, [.ref z0, .ref p0, .ref r0, .int (nI T), .ref k1, .int ops, .ref k2, .ref k3, .int res, .ref k4, .int pl, .int sm])), (k1, .inl (cI, 8, .inl f))] [(cI, .int), (cJ, .long)] sz0)) (va_Qi (fun (r : Int32) (u : Option (Unit) × (Nat → Int64)) => (u.1 = none ∧ u.2 = fw ∧ ∃ E : String, ((ct_al a b d = false ∧ E = R_IAE) ∨ (ct_al a b d = true ∧ T = 8 ∧ E = R_UOE)) ∧ r = nI (ct_ec E R_IAE)) ∨ (r = nI 0 ∧ ∃ v9 : Unit, u.1 = some v9 ∧ ∃ a9 : Int32, u.2 = vp_updL fw 0 a9.toInt64 ∧ (a9 = nI T ∧ T < 8 ∧ ct_al a b d = true))) (fun (u : Option (Unit) × (Nat → Int64)) t => ct_at (dC, dI) ct_cl [(cI, .int), (cJ, .long)] (va_A [(w0, .inl (cJ, 1, .inr (.inl fw))), (h0, .inr (0, [.ref z0, .ref p0, .ref r0, .int (nI T), .ref k1, .int ops, .ref k2, .ref k3, .int res, .ref k4, .int pl, .int sm])), (k1, .inl (cI, 8, .inl f))] sz0) ((w0, .inl (cJ, 1, .inr (.inl (u.2)))) :: (ct_wm (u.1) [(h0, .inr (0, [.ref z0, .ref p0, .ref r0, .int (nI T), .ref k1, .int ops, .ref k2, .ref k3, .int res, .ref k4, .int pl, .int sm])), (k1, .inl (cI, 8, .inl f))] (fun (v9 : Unit) => [(h0, .inr (0, [.ref z0, .ref p0, .ref r0, .int (nI (T + 1)), .ref k1, .int ops, .ref k2, .ref k3, .int res, .ref k4, .int pl, .int sm])), (k1, .inl (cI, 8, .inl (upd f T (nI (ct_lbs a b d)))))]))) t) (va_A [(w0, .inl (cJ, 1, .inr (.inl fw))), (h0, .inr (0, [.ref z0, .ref p0, .ref r0, .int (nI T), .ref k1, .int ops, .ref k2, .ref k3, .int res, .ref k4, .int pl, .int sm])), (k1, .inl (cI, 8, .inl f))] sz0)) 1 6 (va_A [(w0, .inl (cJ, 1, .inr (.inl fw))), (h0, .inr (0, [.ref z0, .ref p0, .ref r0, .int (nI T), .ref k1, .int ops, .ref k2, .ref k3, .int res, .ref k4, .int pl, .int sm])), (k1, .inl (cI, 8, .inl f))] sz0) := by
  refine va_MetW (cc := b_L_table) (maxL := 6) (ret := (some .int)) (hh := [(0, 12, 15, 13), (0, 12, 19, 21)]) (by decide) rfl ?_
  intro p e s m args below meth c s₁ Bd hml hv
  obtain ⟨hargs, ⟨⟨hsz9, hP, hK2, hD0⟩, hXw⟩, hNw⟩ := hv
  have hK : va_K (dC, dI) ct_cl [(cI, .int)] s := hK2.sub [0] rfl
  have hx := Bd.exec
  have hb := Bd.bytes
  have hr := Bd.returns
  have hts : ∀ w ∈ k_L_table :: ct_tb, w.before args s = true := atoms_spec (ws := w_L_table) Bd.pre
  have htab : c.exceptionTable.toList = tableOf [(0, 12, 15, 13), (0, 12, 19, 21)] := vx_table (x := y_L_table) Bd (hts _ List.mem_cons_self)
  have hown : s.vm.findClass R_L = some m.cls := findClass_of_methodNamed Bd.named
  have hlocks := Bd.notSynchronized
  subst hsz9
  have hD := hD0.self (sz := s.heap.size)
  generalize hAe : va_A [(w0, .inl (cJ, 1, .inr (.inl fw))), (h0, .inr (0, [.ref z0, .ref p0, .ref r0, .int (nI T), .ref k1, .int ops, .ref k2, .ref k3, .int res, .ref k4, .int pl, .int sm])), (k1, .inl (cI, 8, .inl f))] s.heap.size = A at hD hXw ⊢
  have hA : ∀ q : Nat, s.heap.size ≤ q → A q := fun q h => by rw [← hAe]; exact Or.inr h
  have hS : va_S A s.heap s.heap [] := va_S.rf
  have hl := lv_entry ([.ref h0, .int a, .int b, .int d, .ref w0]) (n := 6) (Nat.le_of_ble_eq_true rfl)
  rw [show entryFrame m args 6 = entryFrame m (([.ref h0, .int a, .int b, .int d, .ref w0] : List Value)).toArray 6 by rw [hargs], lg_entry_eq]
  generalize (lg_sl ([.ref h0, .int a, .int b, .int d, .ref w0]) ++ List.replicate (6 - (lg_sl ([.ref h0, .int a, .int b, .int d, .ref w0])).length) Slot.unset).toArray = ls at hl ⊢
  have hl : lv_has ls 6 [(0, .ref h0), (1, .int a), (2, .int b), (3, .int d), (4, .ref w0)] := hl
  refine lv_aload hx hb d_L_table_0 (lv_at hl 4 rfl) ?_
  refine lv_iconst (v := (nI 0)) hx hb d_L_table_2 (by decide) ?_
  refine lv_aload_n hx hb d_L_table_3 rfl (lv_at hl 0 rfl) ?_
  refine lv_iload_n hx hb d_L_table_4 rfl (lv_at hl 1 rfl) ?_
  refine lv_iload_n hx hb d_L_table_5 rfl (lv_at hl 2 rfl) ?_
  refine lv_iload_n hx hb d_L_table_6 rfl (lv_at hl 3 rfl) ?_
  have hPc := hP.sub (ws' := [(h0, .inr (0, [.ref z0, .ref p0, .ref r0, .int (nI T), .ref k1, .int ops, .ref k2, .ref k3, .int res, .ref k4, .int pl, .int sm])), (k1, .inl (cI, 8, .inl f))]) [1, 2] rfl
  have hDc := hD.sub (ws' := [(h0, .inr (0, [.ref z0, .ref p0, .ref r0, .int (nI T), .ref k1, .int ops, .ref k2, .ref k3, .int res, .ref k4, .int pl, .int sm])), (k1, .inl (cI, 8, .inl f))]) [1, 2] (by decide) rfl
  have hFc := va_free (wc := [(h0, .inr (0, [.ref z0, .ref p0, .ref r0, .int (nI T), .ref k1, .int ops, .ref k2, .ref k3, .int res, .ref k4, .int pl, .int sm])), (k1, .inl (cI, 8, .inl f))]) hD hS hA [1, 2] rfl
  refine vx_calli (vx_runV (As := [.int a, .int b, .int d]) (rest := [.int (nI 0), .ref w0]) ⟨hx, hb, hml, hown, hts⟩ (c_H_table l hst dC dI cI h0 z0 p0 r0 k1 k2 k3 k4 T ops res pl sm f hT8 a b d s.heap.size) (cwV 3 hts (ct_giV (fun w h9 => ct_tl h9) kw_326 kw_327 kw_328 kw_26 kw_329) rfl rfl rfl (by decide +kernel) ⟨Nat.le_of_ble_eq_true rfl, Nat.le_of_ble_eq_true rfl⟩) ⟨ct_rx_blind, va_recv hK hP (ci := 0) (q0 := 1) rfl rfl, ct_rx_pre hPc hK hDc hXw hFc⟩ rfl rfl hl.1 rfl (lv_room (Nat.le_of_ble_eq_true rfl)) d_L_table_7 ⟨by show 0 + (1) ≤ 1; omega, by show 0 + (6) ≤ 6; omega⟩) hS (fun q _ h9 => hFc q h9) hFc (fun q _ h9 => hFc q h9) (fun E ce q9 u9 tS H1 locs ht hal hpx hBX hz1 hk1 hS hce hcv hcl => ?_) (fun a9 u9 tS H1 locs ht hal hw9 hB hz1 hk1 hS => ?_)
  · obtain ⟨hE, hP1, -, hD1⟩ := hBX
    rw [ht] at hP1
    obtain ⟨hP, hD⟩ := va_join (wr := [(w0, .inl (cJ, 1, .inr (.inl fw)))]) (w1 := [(h0, .inr (0, [.ref z0, .ref p0, .ref r0, .int (nI T), .ref k1, .int ops, .ref k2, .ref k3, .int res, .ref k4, .int pl, .int sm])), (k1, .inl (cI, 8, .inl f))]) hP hD [1, 2] [0] rfl rfl (by decide) (by decide) hk1 hFc hP1 hD1
    generalize H1 = H at hP hS hce ⊢
    have hP : va_P (dC, dI) ct_cl [(w0, .inl (cJ, 1, .inr (.inl fw))), (h0, .inr (0, [.ref z0, .ref p0, .ref r0, .int (nI T), .ref k1, .int ops, .ref k2, .ref k3, .int res, .ref k4, .int pl, .int sm])), (k1, .inl (cI, 8, .inl f))] H := hP
    have hD : va_D A [(w0, .inl (cJ, 1, .inr (.inl fw))), (h0, .inr (0, [.ref z0, .ref p0, .ref r0, .int (nI T), .ref k1, .int ops, .ref k2, .ref k3, .int res, .ref k4, .int pl, .int sm])), (k1, .inl (cI, 8, .inl f))] := hD
    rcases hE with ⟨hE, rfl⟩ | ⟨hE, hE2, rfl⟩
    · refine vx_catch (own := R_L) (name := "java/lang/IllegalArgumentException") (E := "java/lang/IllegalArgumentException") hown [] ⟨0, 12, 15, 13⟩ [⟨0, 12, 19, 21⟩] (htab.trans rfl) (fun z hz => absurd hz List.not_mem_nil) (by decide) (by decide) (hts _ (ct_tl kw_219)) (va_Nw.use (ct_bad_ot _ (by simp [ct_bad])) (hXw.1 _ (by simp [ct_bad]))) hce hcv hcl ?_
      refine W.widen (k := 1) (n := 6) (by omega) (by omega) ?_
      refine lv_astore (lv' := [(5, .ref q9), (0, .ref h0), (1, .int a), (2, .int b), (3, .int d), (4, .ref w0)]) hx hb d_L_table_15 hl (by decide) rfl (fun ls hl => ?_)
      refine lv_iconst (v := (nI 1)) hx hb d_L_table_17 (by decide) ?_
      have hP9 := hP.sub [0, 1, 2] rfl
      exact W.iret (v := (nI 1)) hx hb hr (fun tS ht hW => ⟨⟨(nI 1), (none, fw), rfl, Or.inl ⟨rfl, rfl, ⟨_, Or.inl ⟨hE, rfl⟩, by rw [ct_ec, if_pos rfl]⟩⟩, by rw [ht]; exact hP9, va_K.moved hW.alike hK2, hD.sub [0, 1, 2] (by decide) rfl⟩, hS.F ht⟩) hS.2.2 d_L_table_18
    · refine vx_catch (own := R_L) (name := "java/lang/UnsupportedOperationException") (E := "java/lang/UnsupportedOperationException") hown [⟨0, 12, 15, 13⟩] ⟨0, 12, 19, 21⟩ [] (htab.trans rfl) (fun z hz => by rw [List.mem_singleton.mp hz]; exact Or.inr ⟨by decide, "java/lang/IllegalArgumentException", hts _ (ct_tl kw_219), hNw ("java/lang/UnsupportedOperationException", "java/lang/IllegalArgumentException") (by decide)⟩) (by decide) (by decide) (hts _ (ct_tl kw_325)) (va_Nw.use (ct_bad_ot _ (by simp [ct_bad])) (hXw.1 _ (by simp [ct_bad]))) hce hcv hcl ?_
      refine W.widen (k := 1) (n := 6) (by omega) (by omega) ?_
      refine lv_astore (lv' := [(5, .ref q9), (0, .ref h0), (1, .int a), (2, .int b), (3, .int d), (4, .ref w0)]) hx hb d_L_table_19 hl (by decide) rfl (fun ls hl => ?_)
      refine lv_iconst (v := (nI 2)) hx hb d_L_table_21 (by decide) ?_
      have hP9 := hP.sub [0, 1, 2] rfl
      exact W.iret (v := (nI 2)) hx hb hr (fun tS ht hW => ⟨⟨(nI 2), (none, fw), rfl, Or.inl ⟨rfl, rfl, ⟨_, Or.inr ⟨hE, hE2, rfl⟩, by rw [ct_ec, if_neg (by decide)]⟩⟩, by rw [ht]; exact hP9, va_K.moved hW.alike hK2, hD.sub [0, 1, 2] (by decide) rfl⟩, hS.F ht⟩) hS.2.2 d_L_table_22
  · obtain ⟨hP1, -, hD1⟩ := hB
    rw [ht] at hP1
    obtain ⟨hP, hD⟩ := va_join (wr := [(w0, .inl (cJ, 1, .inr (.inl fw)))]) (w1 := [(h0, .inr (0, [.ref z0, .ref p0, .ref r0, .int (nI (T + 1)), .ref k1, .int ops, .ref k2, .ref k3, .int res, .ref k4, .int pl, .int sm])), (k1, .inl (cI, 8, .inl (upd f T (nI (ct_lbs a b d)))))]) hP hD [1, 2] [0] rfl rfl (by decide) (by decide) hk1 hFc hP1 hD1
    generalize H1 = H at hP hS ⊢
    have hP : va_P (dC, dI) ct_cl [(w0, .inl (cJ, 1, .inr (.inl fw))), (h0, .inr (0, [.ref z0, .ref p0, .ref r0, .int (nI (T + 1)), .ref k1, .int ops, .ref k2, .ref k3, .int res, .ref k4, .int pl, .int sm])), (k1, .inl (cI, 8, .inl (upd f T (nI (ct_lbs a b d)))))] H := hP
    have hD : va_D A [(w0, .inl (cJ, 1, .inr (.inl fw))), (h0, .inr (0, [.ref z0, .ref p0, .ref r0, .int (nI (T + 1)), .ref k1, .int ops, .ref k2, .ref k3, .int res, .ref k4, .int pl, .int sm])), (k1, .inl (cI, 8, .inl (upd f T (nI (ct_lbs a b d)))))] := hD
    refine W.widen (k := 1) (n := 6) (by omega) (by omega) ?_
    refine lv_i2l (v := (a9).toInt64) hx hb d_L_table_10 rfl ?_
    refine va_last hx hb hK2 hP hD hS 0 1 rfl rfl (vp_in_nI (by omega) (by omega)) d_L_table_11 (fun H locs hP hD hS => ?_)
    rw [show (nI 0).toNatClampNeg = 0 from nI_clamp (by omega)] at hP hD
    have hP : va_P (dC, dI) ct_cl [(w0, .inl (cJ, 1, .inr (.inl (vp_updL fw 0 ((a9).toInt64))))), (h0, .inr (0, [.ref z0, .ref p0, .ref r0, .int (nI (T + 1)), .ref k1, .int ops, .ref k2, .ref k3, .int res, .ref k4, .int pl, .int sm])), (k1, .inl (cI, 8, .inl (upd f T (nI (ct_lbs a b d)))))] H := hP
    have hD : va_D A [(w0, .inl (cJ, 1, .inr (.inl (vp_updL fw 0 ((a9).toInt64))))), (h0, .inr (0, [.ref z0, .ref p0, .ref r0, .int (nI (T + 1)), .ref k1, .int ops, .ref k2, .ref k3, .int res, .ref k4, .int pl, .int sm])), (k1, .inl (cI, 8, .inl (upd f T (nI (ct_lbs a b d)))))] := hD
    refine lv_goto (tgt := 23) hx hb d_L_table_12 (by decide) ?_
    refine lv_iconst (v := (nI 0)) hx hb d_L_table_23 (by decide) ?_
    have hP9 := hP.sub [0, 1, 2] rfl
    exact W.iret (v := (nI 0)) hx hb hr (fun tS ht hW => ⟨⟨(nI 0), (some u9, vp_updL fw 0 a9.toInt64), rfl, Or.inr ⟨rfl, u9, rfl, a9, rfl, hw9⟩, by rw [ht]; exact hP9, va_K.moved hW.alike hK2, hD.sub [0, 1, 2] (by decide) rfl⟩, hS.F ht⟩) hS.2.2 d_L_table_24
set_option maxHeartbeats 4000000 in
set_option maxRecDepth 100000 in
theorem c_L_set (l : Launch) (hst : l.stackTraces = false) (dC : Nat → ClassId) (dI : Nat → Nat → Nat) (cI cJ : ClassId) (z1 : Nat) (sz : Nat → Nat) (h0 z0 p0 r0 k1 k2 k3 k4 : Nat) (T : Nat) (ops res pl sm : Int32) (f : Nat → Int32) (lab : Nat → Nat) (hT8 : T ≤ 8) (hf : ∀ t, t < T → f t = nI (lab t)) (hlab : ∀ t, t < T → lab t < 256) (r1 r2 r3 r4 r5 r6 N : Nat) (g : Nat → Int32) (h27 : ∀ t, t < T → ct_pr sz (lab t).testBit 8 ≤ 27) (hN : 244 ≤ N) (hN6 : N ≤ 60000) (x y v : Int32) (sz0 : Nat) : Met l y_L_set w_L_set ({ frames := 7, cells := 1, slots := 6, locals := 113 }) (va_Pc [.ref h0, .int x, .int y, .int v] (ct_rl (dC, dI) ct_cl [(h0, .inr (0, [.ref z0, .ref p0, .ref r0, .int (nI T), .ref k1, .int ops, .ref k2, .ref k3, .int res, .ref k4, .int pl, .int sm])), (k1, .inl (cI, 8, .inl f)), (z0, .inr (1, [.ref z1])), (z1, .inl (cI, 8, .inl (fun j => nI (sz j)))), (r0, .inr (3, [.ref z0, .ref r1, .ref r2, .ref r3, .ref r4, .ref r5, .ref r6])), (r1, .inl (cI, N, .inl g))] [(cI, .int), (cJ, .long)] sz0)) (va_Qi (fun (r : Int32) (u : Option (Nat → Int32)) => (u = none ∧ ∃ E : String, (E = R_IOE ∧ (ct_isn T x = false ∨ ∃ j : Nat, j < T ∧ x = nI j ∧ ct_isn (ct_pr sz (lab j).testBit 8) y = false)) ∧ r = nI (ct_ec E R_IOE)) ∨ (r = nI 0 ∧ ∃ v9 : Nat → Int32, u = some v9 ∧ (∃ j i : Nat, j < T ∧ x = nI j ∧ i < ct_pr sz (lab j).testBit 8 ∧ y = nI i ∧ v9 = upd g (j * 27 + i) v))) (fun (u : Option (Nat → Int32)) t => ct_at (dC, dI) ct_cl [(cI, .int), (cJ, .long)] (va_A [(h0, .inr (0, [.ref z0, .ref p0, .ref r0, .int (nI T), .ref k1, .int ops, .ref k2, .ref k3, .int res, .ref k4, .int pl, .int sm])), (k1, .inl (cI, 8, .inl f)), (z0, .inr (1, [.ref z1])), (z1, .inl (cI, 8, .inl (fun j => nI (sz j)))), (r0, .inr (3, [.ref z0, .ref r1, .ref r2, .ref r3, .ref r4, .ref r5, .ref r6])), (r1, .inl (cI, N, .inl g))] sz0) (ct_wm (u) [(h0, .inr (0, [.ref z0, .ref p0, .ref r0, .int (nI T), .ref k1, .int ops, .ref k2, .ref k3, .int res, .ref k4, .int pl, .int sm])), (k1, .inl (cI, 8, .inl f)), (z0, .inr (1, [.ref z1])), (z1, .inl (cI, 8, .inl (fun j => nI (sz j)))), (r0, .inr (3, [.ref z0, .ref r1, .ref r2, .ref r3, .ref r4, .ref r5, .ref r6])), (r1, .inl (cI, N, .inl g))] (fun (v9 : Nat → Int32) => [(h0, .inr (0, [.ref z0, .ref p0, .ref r0, .int (nI T), .ref k1, .int ops, .ref k2, .ref k3, .int res, .ref k4, .int pl, .int (nI 0)])), (k1, .inl (cI, 8, .inl f)), (z0, .inr (1, [.ref z1])), (z1, .inl (cI, 8, .inl (fun j => nI (sz j)))), (r0, .inr (3, [.ref z0, .ref r1, .ref r2, .ref r3, .ref r4, .ref r5, .ref r6])), (r1, .inl (cI, N, .inl v9))])) t) (va_A [(h0, .inr (0, [.ref z0, .ref p0, .ref r0, .int (nI T), .ref k1, .int ops, .ref k2, .ref k3, .int res, .ref k4, .int pl, .int sm])), (k1, .inl (cI, 8, .inl f)), (z0, .inr (1, [.ref z1])), (z1, .inl (cI, 8, .inl (fun j => nI (sz j)))), (r0, .inr (3, [.ref z0, .ref r1, .ref r2, .ref r3, .ref r4, .ref r5, .ref r6])), (r1, .inl (cI, N, .inl g))] sz0)) 1 6 (va_A [(h0, .inr (0, [.ref z0, .ref p0, .ref r0, .int (nI T), .ref k1, .int ops, .ref k2, .ref k3, .int res, .ref k4, .int pl, .int sm])), (k1, .inl (cI, 8, .inl f)), (z0, .inr (1, [.ref z1])), (z1, .inl (cI, 8, .inl (fun j => nI (sz j)))), (r0, .inr (3, [.ref z0, .ref r1, .ref r2, .ref r3, .ref r4, .ref r5, .ref r6])), (r1, .inl (cI, N, .inl g))] sz0) := by
  refine va_MetW (cc := b_L_set) (maxL := 5) (ret := (some .int)) (hh := [(0, 7, 10, 27)]) (by decide) rfl ?_
  intro p e s m args below meth c s₁ Bd hml hv
  obtain ⟨hargs, ⟨⟨hsz9, hP, hK2, hD0⟩, hXw⟩, hNw⟩ := hv
  have hK : va_K (dC, dI) ct_cl [(cI, .int)] s := hK2.sub [0] rfl
  have hx := Bd.exec
  have hb := Bd.bytes
  have hr := Bd.returns
  have hts : ∀ w ∈ k_L_set :: ct_tb, w.before args s = true := atoms_spec (ws := w_L_set) Bd.pre
  have htab : c.exceptionTable.toList = tableOf [(0, 7, 10, 27)] := vx_table (x := y_L_set) Bd (hts _ List.mem_cons_self)
  have hown : s.vm.findClass R_L = some m.cls := findClass_of_methodNamed Bd.named
  have hlocks := Bd.notSynchronized
  subst hsz9
  have hD := hD0.self (sz := s.heap.size)
  generalize hAe : va_A [(h0, .inr (0, [.ref z0, .ref p0, .ref r0, .int (nI T), .ref k1, .int ops, .ref k2, .ref k3, .int res, .ref k4, .int pl, .int sm])), (k1, .inl (cI, 8, .inl f)), (z0, .inr (1, [.ref z1])), (z1, .inl (cI, 8, .inl (fun j => nI (sz j)))), (r0, .inr (3, [.ref z0, .ref r1, .ref r2, .ref r3, .ref r4, .ref r5, .ref r6])), (r1, .inl (cI, N, .inl g))] s.heap.size = A at hD hXw ⊢
  have hA : ∀ q : Nat, s.heap.size ≤ q → A q := fun q h => by rw [← hAe]; exact Or.inr h
  have hS : va_S A s.heap s.heap [] := va_S.rf
  have hl := lv_entry ([.ref h0, .int x, .int y, .int v]) (n := 5) (Nat.le_of_ble_eq_true rfl)
  rw [show entryFrame m args 5 = entryFrame m (([.ref h0, .int x, .int y, .int v] : List Value)).toArray 5 by rw [hargs], lg_entry_eq]
  generalize (lg_sl ([.ref h0, .int x, .int y, .int v]) ++ List.replicate (5 - (lg_sl ([.ref h0, .int x, .int y, .int v])).length) Slot.unset).toArray = ls at hl ⊢
  have hl : lv_has ls 5 [(0, .ref h0), (1, .int x), (2, .int y), (3, .int v)] := hl
  refine lv_aload_n hx hb d_L_set_0 rfl (lv_at hl 0 rfl) ?_
  refine lv_iload_n hx hb d_L_set_1 rfl (lv_at hl 1 rfl) ?_
  refine lv_iload_n hx hb d_L_set_2 rfl (lv_at hl 2 rfl) ?_
  refine lv_iload_n hx hb d_L_set_3 rfl (lv_at hl 3 rfl) ?_
  have hPc := hP.sub (ws' := [(h0, .inr (0, [.ref z0, .ref p0, .ref r0, .int (nI T), .ref k1, .int ops, .ref k2, .ref k3, .int res, .ref k4, .int pl, .int sm])), (k1, .inl (cI, 8, .inl f)), (z0, .inr (1, [.ref z1])), (z1, .inl (cI, 8, .inl (fun j => nI (sz j)))), (r0, .inr (3, [.ref z0, .ref r1, .ref r2, .ref r3, .ref r4, .ref r5, .ref r6])), (r1, .inl (cI, N, .inl g))]) [0, 1, 2, 3, 4, 5] rfl
  have hDc := hD.sub (ws' := [(h0, .inr (0, [.ref z0, .ref p0, .ref r0, .int (nI T), .ref k1, .int ops, .ref k2, .ref k3, .int res, .ref k4, .int pl, .int sm])), (k1, .inl (cI, 8, .inl f)), (z0, .inr (1, [.ref z1])), (z1, .inl (cI, 8, .inl (fun j => nI (sz j)))), (r0, .inr (3, [.ref z0, .ref r1, .ref r2, .ref r3, .ref r4, .ref r5, .ref r6])), (r1, .inl (cI, N, .inl g))]) [0, 1, 2, 3, 4, 5] (by decide) rfl
  have hFc := va_free (wc := [(h0, .inr (0, [.ref z0, .ref p0, .ref r0, .int (nI T), .ref k1, .int ops, .ref k2, .ref k3, .int res, .ref k4, .int pl, .int sm])), (k1, .inl (cI, 8, .inl f)), (z0, .inr (1, [.ref z1])), (z1, .inl (cI, 8, .inl (fun j => nI (sz j)))), (r0, .inr (3, [.ref z0, .ref r1, .ref r2, .ref r3, .ref r4, .ref r5, .ref r6])), (r1, .inl (cI, N, .inl g))]) hD hS hA [0, 1, 2, 3, 4, 5] rfl
  refine vx_callv (vx_runV (As := [.int x, .int y, .int v]) (rest := []) ⟨hx, hb, hml, hown, hts⟩ (c_H_set l hst dC dI cI z1 sz h0 z0 p0 r0 k1 k2 k3 k4 T ops res pl sm f lab hT8 hf hlab r1 r2 r3 r4 r5 r6 N g h27 hN hN6 x y v s.heap.size) (cwV 3 hts (ct_giV (fun w h9 => ct_tl h9) kw_360 kw_361 kw_362 kw_26 kw_363) rfl rfl rfl (by decide +kernel) ⟨Nat.le_of_ble_eq_true rfl, Nat.le_of_ble_eq_true rfl⟩) ⟨ct_rx_blind, va_recv hK hP (ci := 0) (q0 := 0) rfl rfl, ct_rx_pre hPc hK hDc hXw hFc⟩ rfl rfl hl.1 rfl (lv_room (Nat.le_of_ble_eq_true rfl)) d_L_set_4 ⟨by show 0 + (1) ≤ 1; omega, by show 0 + (6) ≤ 6; omega⟩) hS (fun q _ h9 => hFc q h9) hFc (fun q _ h9 => hFc q h9) (fun E ce q9 u9 tS H1 locs ht hal hpx hBX hz1 hk1 hS hce hcv hcl => ?_) (fun u9 tS H1 locs ht hal hw9 hB hz1 hk1 hS => ?_)
  · obtain ⟨hE, hP1, -, hD1⟩ := hBX
    rw [ht] at hP1
    obtain ⟨hP, hD⟩ := va_join (wr := []) (w1 := [(h0, .inr (0, [.ref z0, .ref p0, .ref r0, .int (nI T), .ref k1, .int ops, .ref k2, .ref k3, .int res, .ref k4, .int pl, .int sm])), (k1, .inl (cI, 8, .inl f)), (z0, .inr (1, [.ref z1])), (z1, .inl (cI, 8, .inl (fun j => nI (sz j)))), (r0, .inr (3, [.ref z0, .ref r1, .ref r2, .ref r3, .ref r4, .ref r5, .ref r6])), (r1, .inl (cI, N, .inl g))]) hP hD [0, 1, 2, 3, 4, 5] [] rfl rfl (by decide) (by decide) hk1 hFc hP1 hD1
    generalize H1 = H at hP hS hce ⊢
    have hP : va_P (dC, dI) ct_cl [(h0, .inr (0, [.ref z0, .ref p0, .ref r0, .int (nI T), .ref k1, .int ops, .ref k2, .ref k3, .int res, .ref k4, .int pl, .int sm])), (k1, .inl (cI, 8, .inl f)), (z0, .inr (1, [.ref z1])), (z1, .inl (cI, 8, .inl (fun j => nI (sz j)))), (r0, .inr (3, [.ref z0, .ref r1, .ref r2, .ref r3, .ref r4, .ref r5, .ref r6])), (r1, .inl (cI, N, .inl g))] H := hP
    have hD : va_D A [(h0, .inr (0, [.ref z0, .ref p0, .ref r0, .int (nI T), .ref k1, .int ops, .ref k2, .ref k3, .int res, .ref k4, .int pl, .int sm])), (k1, .inl (cI, 8, .inl f)), (z0, .inr (1, [.ref z1])), (z1, .inl (cI, 8, .inl (fun j => nI (sz j)))), (r0, .inr (3, [.ref z0, .ref r1, .ref r2, .ref r3, .ref r4, .ref r5, .ref r6])), (r1, .inl (cI, N, .inl g))] := hD
    obtain ⟨rfl, hE⟩ := hE
    refine vx_catch (own := R_L) (name := "java/lang/IndexOutOfBoundsException") (E := "java/lang/IndexOutOfBoundsException") hown [] ⟨0, 7, 10, 27⟩ [] (htab.trans rfl) (fun z hz => absurd hz List.not_mem_nil) (by decide) (by decide) (hts _ (ct_tl kw_359)) (va_Nw.use (ct_bad_ot _ (by simp [ct_bad])) (hXw.1 _ (by simp [ct_bad]))) hce hcv hcl ?_
    refine W.widen (k := 1) (n := 6) (by omega) (by omega) ?_
    refine lv_astore (lv' := [(4, .ref q9), (0, .ref h0), (1, .int x), (2, .int y), (3, .int v)]) hx hb d_L_set_10 hl (by decide) rfl (fun ls hl => ?_)
    refine lv_iconst (v := (nI 1)) hx hb d_L_set_12 (by decide) ?_
    have hP9 := hP.sub [0, 1, 2, 3, 4, 5] rfl
    exact W.iret (v := (nI 1)) hx hb hr (fun tS ht hW => ⟨⟨(nI 1), none, rfl, Or.inl ⟨rfl, ⟨_, ⟨rfl, hE⟩, by rw [ct_ec, if_pos rfl]⟩⟩, by rw [ht]; exact hP9, va_K.moved hW.alike hK2, hD.sub [0, 1, 2, 3, 4, 5] (by decide) rfl⟩, hS.F ht⟩) hS.2.2 d_L_set_13
  · obtain ⟨hP1, -, hD1⟩ := hB
    rw [ht] at hP1
    obtain ⟨hP, hD⟩ := va_join (wr := []) (w1 := [(h0, .inr (0, [.ref z0, .ref p0, .ref r0, .int (nI T), .ref k1, .int ops, .ref k2, .ref k3, .int res, .ref k4, .int pl, .int (nI 0)])), (k1, .inl (cI, 8, .inl f)), (z0, .inr (1, [.ref z1])), (z1, .inl (cI, 8, .inl (fun j => nI (sz j)))), (r0, .inr (3, [.ref z0, .ref r1, .ref r2, .ref r3, .ref r4, .ref r5, .ref r6])), (r1, .inl (cI, N, .inl u9))]) hP hD [0, 1, 2, 3, 4, 5] [] rfl rfl (by decide) (by decide) hk1 hFc hP1 hD1
    generalize H1 = H at hP hS ⊢
    have hP : va_P (dC, dI) ct_cl [(h0, .inr (0, [.ref z0, .ref p0, .ref r0, .int (nI T), .ref k1, .int ops, .ref k2, .ref k3, .int res, .ref k4, .int pl, .int (nI 0)])), (k1, .inl (cI, 8, .inl f)), (z0, .inr (1, [.ref z1])), (z1, .inl (cI, 8, .inl (fun j => nI (sz j)))), (r0, .inr (3, [.ref z0, .ref r1, .ref r2, .ref r3, .ref r4, .ref r5, .ref r6])), (r1, .inl (cI, N, .inl u9))] H := hP
    have hD : va_D A [(h0, .inr (0, [.ref z0, .ref p0, .ref r0, .int (nI T), .ref k1, .int ops, .ref k2, .ref k3, .int res, .ref k4, .int pl, .int (nI 0)])), (k1, .inl (cI, 8, .inl f)), (z0, .inr (1, [.ref z1])), (z1, .inl (cI, 8, .inl (fun j => nI (sz j)))), (r0, .inr (3, [.ref z0, .ref r1, .ref r2, .ref r3, .ref r4, .ref r5, .ref r6])), (r1, .inl (cI, N, .inl u9))] := hD
    refine W.widen (k := 1) (n := 6) (by omega) (by omega) ?_
    refine lv_goto (tgt := 14) hx hb d_L_set_7 (by decide) ?_
    refine lv_iconst (v := (nI 0)) hx hb d_L_set_14 (by decide) ?_
    have hP9 := hP.sub [0, 1, 2, 3, 4, 5] rfl
    exact W.iret (v := (nI 0)) hx hb hr (fun tS ht hW => ⟨⟨(nI 0), some u9, rfl, Or.inr ⟨rfl, u9, rfl, hw9⟩, by rw [ht]; exact hP9, va_K.moved hW.alike hK2, hD.sub [0, 1, 2, 3, 4, 5] (by decide) rfl⟩, hS.F ht⟩) hS.2.2 d_L_set_15
set_option maxHeartbeats 4000000 in
set_option maxRecDepth 100000 in
theorem c_L_extent (l : Launch) (hst : l.stackTraces = false) (dC : Nat → ClassId) (dI : Nat → Nat → Nat) (cI cJ : ClassId) (z1 : Nat) (sz : Nat → Nat) (h0 z0 p0 r0 k1 k2 k3 k4 : Nat) (T : Nat) (ops res pl sm : Int32) (f : Nat → Int32) (lab : Nat → Nat) (hT8 : T ≤ 8) (hf : ∀ t, t < T → f t = nI (lab t)) (hlab : ∀ t, t < T → lab t < 256) (x : Int32) (w0 : Nat) (fw : Nat → Int64) (sz0 : Nat) : Met l y_L_extent w_L_extent ({ frames := 7, cells := 1, slots := 6, locals := 111 }) (va_Pc [.ref h0, .int x, .ref w0] (ct_rl (dC, dI) ct_cl [(w0, .inl (cJ, 1, .inr (.inl fw))), (h0, .inr (0, [.ref z0, .ref p0, .ref r0, .int (nI T), .ref k1, .int ops, .ref k2, .ref k3, .int res, .ref k4, .int pl, .int sm])), (k1, .inl (cI, 8, .inl f)), (z0, .inr (1, [.ref z1])), (z1, .inl (cI, 8, .inl (fun j => nI (sz j))))] [(cI, .int), (cJ, .long)] sz0)) (va_Qi (fun (r : Int32) (u : Option (Unit) × (Nat → Int64)) => (u.1 = none ∧ u.2 = fw ∧ ∃ E : String, (ct_isn T x = false ∧ E = R_IOE) ∧ r = nI (ct_ec E R_IOE)) ∨ (r = nI 0 ∧ ∃ v9 : Unit, u.1 = some v9 ∧ ∃ a9 : Int32, u.2 = vp_updL fw 0 a9.toInt64 ∧ (∃ j : Nat, j < T ∧ x = nI j ∧ a9 = nI (ct_pr sz (lab j).testBit 8)))) (fun (u : Option (Unit) × (Nat → Int64)) t => ct_at (dC, dI) ct_cl [(cI, .int), (cJ, .long)] (va_A [(w0, .inl (cJ, 1, .inr (.inl fw))), (h0, .inr (0, [.ref z0, .ref p0, .ref r0, .int (nI T), .ref k1, .int ops, .ref k2, .ref k3, .int res, .ref k4, .int pl, .int sm])), (k1, .inl (cI, 8, .inl f)), (z0, .inr (1, [.ref z1])), (z1, .inl (cI, 8, .inl (fun j => nI (sz j))))] sz0) ((w0, .inl (cJ, 1, .inr (.inl (u.2)))) :: (ct_wm (u.1) [(h0, .inr (0, [.ref z0, .ref p0, .ref r0, .int (nI T), .ref k1, .int ops, .ref k2, .ref k3, .int res, .ref k4, .int pl, .int sm])), (k1, .inl (cI, 8, .inl f)), (z0, .inr (1, [.ref z1])), (z1, .inl (cI, 8, .inl (fun j => nI (sz j))))] (fun (v9 : Unit) => [(h0, .inr (0, [.ref z0, .ref p0, .ref r0, .int (nI T), .ref k1, .int ops, .ref k2, .ref k3, .int res, .ref k4, .int pl, .int sm])), (k1, .inl (cI, 8, .inl f)), (z0, .inr (1, [.ref z1])), (z1, .inl (cI, 8, .inl (fun j => nI (sz j))))]))) t) (va_A [(w0, .inl (cJ, 1, .inr (.inl fw))), (h0, .inr (0, [.ref z0, .ref p0, .ref r0, .int (nI T), .ref k1, .int ops, .ref k2, .ref k3, .int res, .ref k4, .int pl, .int sm])), (k1, .inl (cI, 8, .inl f)), (z0, .inr (1, [.ref z1])), (z1, .inl (cI, 8, .inl (fun j => nI (sz j))))] sz0)) 1 6 (va_A [(w0, .inl (cJ, 1, .inr (.inl fw))), (h0, .inr (0, [.ref z0, .ref p0, .ref r0, .int (nI T), .ref k1, .int ops, .ref k2, .ref k3, .int res, .ref k4, .int pl, .int sm])), (k1, .inl (cI, 8, .inl f)), (z0, .inr (1, [.ref z1])), (z1, .inl (cI, 8, .inl (fun j => nI (sz j))))] sz0) := by
  refine va_MetW (cc := b_L_extent) (maxL := 4) (ret := (some .int)) (hh := [(0, 9, 12, 27)]) (by decide) rfl ?_
  intro p e s m args below meth c s₁ Bd hml hv
  obtain ⟨hargs, ⟨⟨hsz9, hP, hK2, hD0⟩, hXw⟩, hNw⟩ := hv
  have hK : va_K (dC, dI) ct_cl [(cI, .int)] s := hK2.sub [0] rfl
  have hx := Bd.exec
  have hb := Bd.bytes
  have hr := Bd.returns
  have hts : ∀ w ∈ k_L_extent :: ct_tb, w.before args s = true := atoms_spec (ws := w_L_extent) Bd.pre
  have htab : c.exceptionTable.toList = tableOf [(0, 9, 12, 27)] := vx_table (x := y_L_extent) Bd (hts _ List.mem_cons_self)
  have hown : s.vm.findClass R_L = some m.cls := findClass_of_methodNamed Bd.named
  have hlocks := Bd.notSynchronized
  subst hsz9
  have hD := hD0.self (sz := s.heap.size)
  generalize hAe : va_A [(w0, .inl (cJ, 1, .inr (.inl fw))), (h0, .inr (0, [.ref z0, .ref p0, .ref r0, .int (nI T), .ref k1, .int ops, .ref k2, .ref k3, .int res, .ref k4, .int pl, .int sm])), (k1, .inl (cI, 8, .inl f)), (z0, .inr (1, [.ref z1])), (z1, .inl (cI, 8, .inl (fun j => nI (sz j))))] s.heap.size = A at hD hXw ⊢
  have hA : ∀ q : Nat, s.heap.size ≤ q → A q := fun q h => by rw [← hAe]; exact Or.inr h
  have hS : va_S A s.heap s.heap [] := va_S.rf
  have hl := lv_entry ([.ref h0, .int x, .ref w0]) (n := 4) (Nat.le_of_ble_eq_true rfl)
  rw [show entryFrame m args 4 = entryFrame m (([.ref h0, .int x, .ref w0] : List Value)).toArray 4 by rw [hargs], lg_entry_eq]
  generalize (lg_sl ([.ref h0, .int x, .ref w0]) ++ List.replicate (4 - (lg_sl ([.ref h0, .int x, .ref w0])).length) Slot.unset).toArray = ls at hl ⊢
  have hl : lv_has ls 4 [(0, .ref h0), (1, .int x), (2, .ref w0)] := hl
  refine lv_aload_n hx hb d_L_extent_0 rfl (lv_at hl 2 rfl) ?_
  refine lv_iconst (v := (nI 0)) hx hb d_L_extent_1 (by decide) ?_
  refine lv_aload_n hx hb d_L_extent_2 rfl (lv_at hl 0 rfl) ?_
  refine lv_iload_n hx hb d_L_extent_3 rfl (lv_at hl 1 rfl) ?_
  have hPc := hP.sub (ws' := [(h0, .inr (0, [.ref z0, .ref p0, .ref r0, .int (nI T), .ref k1, .int ops, .ref k2, .ref k3, .int res, .ref k4, .int pl, .int sm])), (k1, .inl (cI, 8, .inl f)), (z0, .inr (1, [.ref z1])), (z1, .inl (cI, 8, .inl (fun j => nI (sz j))))]) [1, 2, 3, 4] rfl
  have hDc := hD.sub (ws' := [(h0, .inr (0, [.ref z0, .ref p0, .ref r0, .int (nI T), .ref k1, .int ops, .ref k2, .ref k3, .int res, .ref k4, .int pl, .int sm])), (k1, .inl (cI, 8, .inl f)), (z0, .inr (1, [.ref z1])), (z1, .inl (cI, 8, .inl (fun j => nI (sz j))))]) [1, 2, 3, 4] (by decide) rfl
  have hFc := va_free (wc := [(h0, .inr (0, [.ref z0, .ref p0, .ref r0, .int (nI T), .ref k1, .int ops, .ref k2, .ref k3, .int res, .ref k4, .int pl, .int sm])), (k1, .inl (cI, 8, .inl f)), (z0, .inr (1, [.ref z1])), (z1, .inl (cI, 8, .inl (fun j => nI (sz j))))]) hD hS hA [1, 2, 3, 4] rfl
  refine vx_calli (vx_runV (As := [.int x]) (rest := [.int (nI 0), .ref w0]) ⟨hx, hb, hml, hown, hts⟩ (c_H_extent l hst dC dI cI z1 sz h0 z0 p0 r0 k1 k2 k3 k4 T ops res pl sm f lab hT8 hf hlab x s.heap.size) (cwV 1 hts (ct_giV (fun w h9 => ct_tl h9) kw_396 kw_397 kw_398 kw_26 kw_399) rfl rfl rfl (by decide +kernel) ⟨Nat.le_of_ble_eq_true rfl, Nat.le_of_ble_eq_true rfl⟩) ⟨ct_rx_blind, va_recv hK hP (ci := 0) (q0 := 1) rfl rfl, ct_rx_pre hPc hK hDc hXw hFc⟩ rfl rfl hl.1 rfl (lv_room (Nat.le_of_ble_eq_true rfl)) d_L_extent_4 ⟨by show 0 + (1) ≤ 1; omega, by show 0 + (6) ≤ 6; omega⟩) hS (fun q _ h9 => hFc q h9) hFc (fun q _ h9 => hFc q h9) (fun E ce q9 u9 tS H1 locs ht hal hpx hBX hz1 hk1 hS hce hcv hcl => ?_) (fun a9 u9 tS H1 locs ht hal hw9 hB hz1 hk1 hS => ?_)
  · obtain ⟨hE, hP1, -, hD1⟩ := hBX
    rw [ht] at hP1
    obtain ⟨hP, hD⟩ := va_join (wr := [(w0, .inl (cJ, 1, .inr (.inl fw)))]) (w1 := [(h0, .inr (0, [.ref z0, .ref p0, .ref r0, .int (nI T), .ref k1, .int ops, .ref k2, .ref k3, .int res, .ref k4, .int pl, .int sm])), (k1, .inl (cI, 8, .inl f)), (z0, .inr (1, [.ref z1])), (z1, .inl (cI, 8, .inl (fun j => nI (sz j))))]) hP hD [1, 2, 3, 4] [0] rfl rfl (by decide) (by decide) hk1 hFc hP1 hD1
    generalize H1 = H at hP hS hce ⊢
    have hP : va_P (dC, dI) ct_cl [(w0, .inl (cJ, 1, .inr (.inl fw))), (h0, .inr (0, [.ref z0, .ref p0, .ref r0, .int (nI T), .ref k1, .int ops, .ref k2, .ref k3, .int res, .ref k4, .int pl, .int sm])), (k1, .inl (cI, 8, .inl f)), (z0, .inr (1, [.ref z1])), (z1, .inl (cI, 8, .inl (fun j => nI (sz j))))] H := hP
    have hD : va_D A [(w0, .inl (cJ, 1, .inr (.inl fw))), (h0, .inr (0, [.ref z0, .ref p0, .ref r0, .int (nI T), .ref k1, .int ops, .ref k2, .ref k3, .int res, .ref k4, .int pl, .int sm])), (k1, .inl (cI, 8, .inl f)), (z0, .inr (1, [.ref z1])), (z1, .inl (cI, 8, .inl (fun j => nI (sz j))))] := hD
    obtain ⟨hE, rfl⟩ := hE
    refine vx_catch (own := R_L) (name := "java/lang/IndexOutOfBoundsException") (E := "java/lang/IndexOutOfBoundsException") hown [] ⟨0, 9, 12, 27⟩ [] (htab.trans rfl) (fun z hz => absurd hz List.not_mem_nil) (by decide) (by decide) (hts _ (ct_tl kw_359)) (va_Nw.use (ct_bad_ot _ (by simp [ct_bad])) (hXw.1 _ (by simp [ct_bad]))) hce hcv hcl ?_
    refine W.widen (k := 1) (n := 6) (by omega) (by omega) ?_
    refine lv_astore_n (lv' := [(3, .ref q9), (0, .ref h0), (1, .int x), (2, .ref w0)]) hx hb d_L_extent_12 rfl hl (by decide) rfl (fun ls hl => ?_)
    refine lv_iconst (v := (nI 1)) hx hb d_L_extent_13 (by decide) ?_
    have hP9 := hP.sub [0, 1, 2, 3, 4] rfl
    exact W.iret (v := (nI 1)) hx hb hr (fun tS ht hW => ⟨⟨(nI 1), (none, fw), rfl, Or.inl ⟨rfl, rfl, ⟨_, ⟨hE, rfl⟩, by rw [ct_ec, if_pos rfl]⟩⟩, by rw [ht]; exact hP9, va_K.moved hW.alike hK2, hD.sub [0, 1, 2, 3, 4] (by decide) rfl⟩, hS.F ht⟩) hS.2.2 d_L_extent_14
  · obtain ⟨hP1, -, hD1⟩ := hB
    rw [ht] at hP1
    obtain ⟨hP, hD⟩ := va_join (wr := [(w0, .inl (cJ, 1, .inr (.inl fw)))]) (w1 := [(h0, .inr (0, [.ref z0, .ref p0, .ref r0, .int (nI T), .ref k1, .int ops, .ref k2, .ref k3, .int res, .ref k4, .int pl, .int sm])), (k1, .inl (cI, 8, .inl f)), (z0, .inr (1, [.ref z1])), (z1, .inl (cI, 8, .inl (fun j => nI (sz j))))]) hP hD [1, 2, 3, 4] [0] rfl rfl (by decide) (by decide) hk1 hFc hP1 hD1
    generalize H1 = H at hP hS ⊢
    have hP : va_P (dC, dI) ct_cl [(w0, .inl (cJ, 1, .inr (.inl fw))), (h0, .inr (0, [.ref z0, .ref p0, .ref r0, .int (nI T), .ref k1, .int ops, .ref k2, .ref k3, .int res, .ref k4, .int pl, .int sm])), (k1, .inl (cI, 8, .inl f)), (z0, .inr (1, [.ref z1])), (z1, .inl (cI, 8, .inl (fun j => nI (sz j))))] H := hP
    have hD : va_D A [(w0, .inl (cJ, 1, .inr (.inl fw))), (h0, .inr (0, [.ref z0, .ref p0, .ref r0, .int (nI T), .ref k1, .int ops, .ref k2, .ref k3, .int res, .ref k4, .int pl, .int sm])), (k1, .inl (cI, 8, .inl f)), (z0, .inr (1, [.ref z1])), (z1, .inl (cI, 8, .inl (fun j => nI (sz j))))] := hD
    refine W.widen (k := 1) (n := 6) (by omega) (by omega) ?_
    refine lv_i2l (v := (a9).toInt64) hx hb d_L_extent_7 rfl ?_
    refine va_last hx hb hK2 hP hD hS 0 1 rfl rfl (vp_in_nI (by omega) (by omega)) d_L_extent_8 (fun H locs hP hD hS => ?_)
    rw [show (nI 0).toNatClampNeg = 0 from nI_clamp (by omega)] at hP hD
    have hP : va_P (dC, dI) ct_cl [(w0, .inl (cJ, 1, .inr (.inl (vp_updL fw 0 ((a9).toInt64))))), (h0, .inr (0, [.ref z0, .ref p0, .ref r0, .int (nI T), .ref k1, .int ops, .ref k2, .ref k3, .int res, .ref k4, .int pl, .int sm])), (k1, .inl (cI, 8, .inl f)), (z0, .inr (1, [.ref z1])), (z1, .inl (cI, 8, .inl (fun j => nI (sz j))))] H := hP
    have hD : va_D A [(w0, .inl (cJ, 1, .inr (.inl (vp_updL fw 0 ((a9).toInt64))))), (h0, .inr (0, [.ref z0, .ref p0, .ref r0, .int (nI T), .ref k1, .int ops, .ref k2, .ref k3, .int res, .ref k4, .int pl, .int sm])), (k1, .inl (cI, 8, .inl f)), (z0, .inr (1, [.ref z1])), (z1, .inl (cI, 8, .inl (fun j => nI (sz j))))] := hD
    refine lv_goto (tgt := 15) hx hb d_L_extent_9 (by decide) ?_
    refine lv_iconst (v := (nI 0)) hx hb d_L_extent_15 (by decide) ?_
    have hP9 := hP.sub [0, 1, 2, 3, 4] rfl
    exact W.iret (v := (nI 0)) hx hb hr (fun tS ht hW => ⟨⟨(nI 0), (some u9, vp_updL fw 0 a9.toInt64), rfl, Or.inr ⟨rfl, u9, rfl, a9, rfl, hw9⟩, by rw [ht]; exact hP9, va_K.moved hW.alike hK2, hD.sub [0, 1, 2, 3, 4] (by decide) rfl⟩, hS.F ht⟩) hS.2.2 d_L_extent_16
set_option maxHeartbeats 4000000 in
set_option maxRecDepth 100000 in
theorem c_L_operand (l : Launch) (hst : l.stackTraces = false) (dC : Nat → ClassId) (dI : Nat → Nat → Nat) (cI cJ : ClassId) (h0 z0 p0 r0 k1 k2 k3 k4 : Nat) (T K : Nat) (res pl sm : Int32) (f fot fol : Nat → Int32) (lab : Nat → Nat) (hT8 : T ≤ 8) (hK6 : K ≤ 6) (hf : ∀ t, t < T → f t = nI (lab t)) (x : Int32) (w0 : Nat) (fw : Nat → Int64) (sz0 : Nat) : Met l y_L_operand w_L_operand ({ frames := 7, cells := 1, slots := 6, locals := 111 }) (va_Pc [.ref h0, .int x, .ref w0] (ct_rl (dC, dI) ct_cl [(w0, .inl (cJ, 1, .inr (.inl fw))), (h0, .inr (0, [.ref z0, .ref p0, .ref r0, .int (nI T), .ref k1, .int (nI K), .ref k2, .ref k3, .int res, .ref k4, .int pl, .int sm])), (k1, .inl (cI, 8, .inl f)), (k2, .inl (cI, 6, .inl fot)), (k3, .inl (cI, 6, .inl fol))] [(cI, .int), (cJ, .long)] sz0)) (va_Qi (fun (r : Int32) (u : Option (Nat) × (Nat → Int64)) => (u.1 = none ∧ u.2 = fw ∧ ∃ E : String, ((ct_isn T x = false ∧ E = R_IOE) ∨ (ct_isn T x = true ∧ K = 6 ∧ E = R_UOE)) ∧ r = nI (ct_ec E R_IOE)) ∨ (r = nI 0 ∧ ∃ v9 : Nat, u.1 = some v9 ∧ ∃ a9 : Int32, u.2 = vp_updL fw 0 a9.toInt64 ∧ (v9 < T ∧ x = nI v9 ∧ K < 6 ∧ a9 = nI K))) (fun (u : Option (Nat) × (Nat → Int64)) t => ct_at (dC, dI) ct_cl [(cI, .int), (cJ, .long)] (va_A [(w0, .inl (cJ, 1, .inr (.inl fw))), (h0, .inr (0, [.ref z0, .ref p0, .ref r0, .int (nI T), .ref k1, .int (nI K), .ref k2, .ref k3, .int res, .ref k4, .int pl, .int sm])), (k1, .inl (cI, 8, .inl f)), (k2, .inl (cI, 6, .inl fot)), (k3, .inl (cI, 6, .inl fol))] sz0) ((w0, .inl (cJ, 1, .inr (.inl (u.2)))) :: (ct_wm (u.1) [(h0, .inr (0, [.ref z0, .ref p0, .ref r0, .int (nI T), .ref k1, .int (nI K), .ref k2, .ref k3, .int res, .ref k4, .int pl, .int sm])), (k1, .inl (cI, 8, .inl f)), (k2, .inl (cI, 6, .inl fot)), (k3, .inl (cI, 6, .inl fol))] (fun (v9 : Nat) => [(h0, .inr (0, [.ref z0, .ref p0, .ref r0, .int (nI T), .ref k1, .int (nI (K + 1)), .ref k2, .ref k3, .int res, .ref k4, .int (nI 0), .int (nI 0)])), (k1, .inl (cI, 8, .inl f)), (k2, .inl (cI, 6, .inl (upd fot K (nI v9)))), (k3, .inl (cI, 6, .inl (upd fol K (nI (lab v9)))))]))) t) (va_A [(w0, .inl (cJ, 1, .inr (.inl fw))), (h0, .inr (0, [.ref z0, .ref p0, .ref r0, .int (nI T), .ref k1, .int (nI K), .ref k2, .ref k3, .int res, .ref k4, .int pl, .int sm])), (k1, .inl (cI, 8, .inl f)), (k2, .inl (cI, 6, .inl fot)), (k3, .inl (cI, 6, .inl fol))] sz0)) 1 6 (va_A [(w0, .inl (cJ, 1, .inr (.inl fw))), (h0, .inr (0, [.ref z0, .ref p0, .ref r0, .int (nI T), .ref k1, .int (nI K), .ref k2, .ref k3, .int res, .ref k4, .int pl, .int sm])), (k1, .inl (cI, 8, .inl f)), (k2, .inl (cI, 6, .inl fot)), (k3, .inl (cI, 6, .inl fol))] sz0) := by
  refine va_MetW (cc := b_L_operand) (maxL := 4) (ret := (some .int)) (hh := [(0, 9, 12, 27), (0, 9, 15, 21)]) (by decide) rfl ?_
  intro p e s m args below meth c s₁ Bd hml hv
  obtain ⟨hargs, ⟨⟨hsz9, hP, hK2, hD0⟩, hXw⟩, hNw⟩ := hv
  have hK : va_K (dC, dI) ct_cl [(cI, .int)] s := hK2.sub [0] rfl
  have hx := Bd.exec
  have hb := Bd.bytes
  have hr := Bd.returns
  have hts : ∀ w ∈ k_L_operand :: ct_tb, w.before args s = true := atoms_spec (ws := w_L_operand) Bd.pre
  have htab : c.exceptionTable.toList = tableOf [(0, 9, 12, 27), (0, 9, 15, 21)] := vx_table (x := y_L_operand) Bd (hts _ List.mem_cons_self)
  have hown : s.vm.findClass R_L = some m.cls := findClass_of_methodNamed Bd.named
  have hlocks := Bd.notSynchronized
  subst hsz9
  have hD := hD0.self (sz := s.heap.size)
  generalize hAe : va_A [(w0, .inl (cJ, 1, .inr (.inl fw))), (h0, .inr (0, [.ref z0, .ref p0, .ref r0, .int (nI T), .ref k1, .int (nI K), .ref k2, .ref k3, .int res, .ref k4, .int pl, .int sm])), (k1, .inl (cI, 8, .inl f)), (k2, .inl (cI, 6, .inl fot)), (k3, .inl (cI, 6, .inl fol))] s.heap.size = A at hD hXw ⊢
  have hA : ∀ q : Nat, s.heap.size ≤ q → A q := fun q h => by rw [← hAe]; exact Or.inr h
  have hS : va_S A s.heap s.heap [] := va_S.rf
  have hl := lv_entry ([.ref h0, .int x, .ref w0]) (n := 4) (Nat.le_of_ble_eq_true rfl)
  rw [show entryFrame m args 4 = entryFrame m (([.ref h0, .int x, .ref w0] : List Value)).toArray 4 by rw [hargs], lg_entry_eq]
  generalize (lg_sl ([.ref h0, .int x, .ref w0]) ++ List.replicate (4 - (lg_sl ([.ref h0, .int x, .ref w0])).length) Slot.unset).toArray = ls at hl ⊢
  have hl : lv_has ls 4 [(0, .ref h0), (1, .int x), (2, .ref w0)] := hl
  refine lv_aload_n hx hb d_L_operand_0 rfl (lv_at hl 2 rfl) ?_
  refine lv_iconst (v := (nI 0)) hx hb d_L_operand_1 (by decide) ?_
  refine lv_aload_n hx hb d_L_operand_2 rfl (lv_at hl 0 rfl) ?_
  refine lv_iload_n hx hb d_L_operand_3 rfl (lv_at hl 1 rfl) ?_
  have hPc := hP.sub (ws' := [(h0, .inr (0, [.ref z0, .ref p0, .ref r0, .int (nI T), .ref k1, .int (nI K), .ref k2, .ref k3, .int res, .ref k4, .int pl, .int sm])), (k1, .inl (cI, 8, .inl f)), (k2, .inl (cI, 6, .inl fot)), (k3, .inl (cI, 6, .inl fol))]) [1, 2, 3, 4] rfl
  have hDc := hD.sub (ws' := [(h0, .inr (0, [.ref z0, .ref p0, .ref r0, .int (nI T), .ref k1, .int (nI K), .ref k2, .ref k3, .int res, .ref k4, .int pl, .int sm])), (k1, .inl (cI, 8, .inl f)), (k2, .inl (cI, 6, .inl fot)), (k3, .inl (cI, 6, .inl fol))]) [1, 2, 3, 4] (by decide) rfl
  have hFc := va_free (wc := [(h0, .inr (0, [.ref z0, .ref p0, .ref r0, .int (nI T), .ref k1, .int (nI K), .ref k2, .ref k3, .int res, .ref k4, .int pl, .int sm])), (k1, .inl (cI, 8, .inl f)), (k2, .inl (cI, 6, .inl fot)), (k3, .inl (cI, 6, .inl fol))]) hD hS hA [1, 2, 3, 4] rfl
  refine vx_calli (vx_runV (As := [.int x]) (rest := [.int (nI 0), .ref w0]) ⟨hx, hb, hml, hown, hts⟩ (c_H_operand l hst dC dI cI h0 z0 p0 r0 k1 k2 k3 k4 T K res pl sm f fot fol lab hT8 hK6 hf x s.heap.size) (cwV 1 hts (ct_giV (fun w h9 => ct_tl h9) kw_403 kw_404 kw_405 kw_26 kw_406) rfl rfl rfl (by decide +kernel) ⟨Nat.le_of_ble_eq_true rfl, Nat.le_of_ble_eq_true rfl⟩) ⟨ct_rx_blind, va_recv hK hP (ci := 0) (q0 := 1) rfl rfl, ct_rx_pre hPc hK hDc hXw hFc⟩ rfl rfl hl.1 rfl (lv_room (Nat.le_of_ble_eq_true rfl)) d_L_operand_4 ⟨by show 0 + (1) ≤ 1; omega, by show 0 + (6) ≤ 6; omega⟩) hS (fun q _ h9 => hFc q h9) hFc (fun q _ h9 => hFc q h9) (fun E ce q9 u9 tS H1 locs ht hal hpx hBX hz1 hk1 hS hce hcv hcl => ?_) (fun a9 u9 tS H1 locs ht hal hw9 hB hz1 hk1 hS => ?_)
  · obtain ⟨hE, hP1, -, hD1⟩ := hBX
    rw [ht] at hP1
    obtain ⟨hP, hD⟩ := va_join (wr := [(w0, .inl (cJ, 1, .inr (.inl fw)))]) (w1 := [(h0, .inr (0, [.ref z0, .ref p0, .ref r0, .int (nI T), .ref k1, .int (nI K), .ref k2, .ref k3, .int res, .ref k4, .int pl, .int sm])), (k1, .inl (cI, 8, .inl f)), (k2, .inl (cI, 6, .inl fot)), (k3, .inl (cI, 6, .inl fol))]) hP hD [1, 2, 3, 4] [0] rfl rfl (by decide) (by decide) hk1 hFc hP1 hD1
    generalize H1 = H at hP hS hce ⊢
    have hP : va_P (dC, dI) ct_cl [(w0, .inl (cJ, 1, .inr (.inl fw))), (h0, .inr (0, [.ref z0, .ref p0, .ref r0, .int (nI T), .ref k1, .int (nI K), .ref k2, .ref k3, .int res, .ref k4, .int pl, .int sm])), (k1, .inl (cI, 8, .inl f)), (k2, .inl (cI, 6, .inl fot)), (k3, .inl (cI, 6, .inl fol))] H := hP
    have hD : va_D A [(w0, .inl (cJ, 1, .inr (.inl fw))), (h0, .inr (0, [.ref z0, .ref p0, .ref r0, .int (nI T), .ref k1, .int (nI K), .ref k2, .ref k3, .int res, .ref k4, .int pl, .int sm])), (k1, .inl (cI, 8, .inl f)), (k2, .inl (cI, 6, .inl fot)), (k3, .inl (cI, 6, .inl fol))] := hD
    rcases hE with ⟨hE, rfl⟩ | ⟨hE, hE2, rfl⟩
    · refine vx_catch (own := R_L) (name := "java/lang/IndexOutOfBoundsException") (E := "java/lang/IndexOutOfBoundsException") hown [] ⟨0, 9, 12, 27⟩ [⟨0, 9, 15, 21⟩] (htab.trans rfl) (fun z hz => absurd hz List.not_mem_nil) (by decide) (by decide) (hts _ (ct_tl kw_359)) (va_Nw.use (ct_bad_ot _ (by simp [ct_bad])) (hXw.1 _ (by simp [ct_bad]))) hce hcv hcl ?_
      refine W.widen (k := 1) (n := 6) (by omega) (by omega) ?_
      refine lv_astore_n (lv' := [(3, .ref q9), (0, .ref h0), (1, .int x), (2, .ref w0)]) hx hb d_L_operand_12 rfl hl (by decide) rfl (fun ls hl => ?_)
      refine lv_iconst (v := (nI 1)) hx hb d_L_operand_13 (by decide) ?_
      have hP9 := hP.sub [0, 1, 2, 3, 4] rfl
      exact W.iret (v := (nI 1)) hx hb hr (fun tS ht hW => ⟨⟨(nI 1), (none, fw), rfl, Or.inl ⟨rfl, rfl, ⟨_, Or.inl ⟨hE, rfl⟩, by rw [ct_ec, if_pos rfl]⟩⟩, by rw [ht]; exact hP9, va_K.moved hW.alike hK2, hD.sub [0, 1, 2, 3, 4] (by decide) rfl⟩, hS.F ht⟩) hS.2.2 d_L_operand_14
    · refine vx_catch (own := R_L) (name := "java/lang/UnsupportedOperationException") (E := "java/lang/UnsupportedOperationException") hown [⟨0, 9, 12, 27⟩] ⟨0, 9, 15, 21⟩ [] (htab.trans rfl) (fun z hz => by rw [List.mem_singleton.mp hz]; exact Or.inr ⟨by decide, "java/lang/IndexOutOfBoundsException", hts _ (ct_tl kw_359), hNw ("java/lang/UnsupportedOperationException", "java/lang/IndexOutOfBoundsException") (by decide)⟩) (by decide) (by decide) (hts _ (ct_tl kw_325)) (va_Nw.use (ct_bad_ot _ (by simp [ct_bad])) (hXw.1 _ (by simp [ct_bad]))) hce hcv hcl ?_
      refine W.widen (k := 1) (n := 6) (by omega) (by omega) ?_
      refine lv_astore_n (lv' := [(3, .ref q9), (0, .ref h0), (1, .int x), (2, .ref w0)]) hx hb d_L_operand_15 rfl hl (by decide) rfl (fun ls hl => ?_)
      refine lv_iconst (v := (nI 2)) hx hb d_L_operand_16 (by decide) ?_
      have hP9 := hP.sub [0, 1, 2, 3, 4] rfl
      exact W.iret (v := (nI 2)) hx hb hr (fun tS ht hW => ⟨⟨(nI 2), (none, fw), rfl, Or.inl ⟨rfl, rfl, ⟨_, Or.inr ⟨hE, hE2, rfl⟩, by rw [ct_ec, if_neg (by decide)]⟩⟩, by rw [ht]; exact hP9, va_K.moved hW.alike hK2, hD.sub [0, 1, 2, 3, 4] (by decide) rfl⟩, hS.F ht⟩) hS.2.2 d_L_operand_17
  · obtain ⟨hP1, -, hD1⟩ := hB
    rw [ht] at hP1
    obtain ⟨hP, hD⟩ := va_join (wr := [(w0, .inl (cJ, 1, .inr (.inl fw)))]) (w1 := [(h0, .inr (0, [.ref z0, .ref p0, .ref r0, .int (nI T), .ref k1, .int (nI (K + 1)), .ref k2, .ref k3, .int res, .ref k4, .int (nI 0), .int (nI 0)])), (k1, .inl (cI, 8, .inl f)), (k2, .inl (cI, 6, .inl (upd fot K (nI u9)))), (k3, .inl (cI, 6, .inl (upd fol K (nI (lab u9)))))]) hP hD [1, 2, 3, 4] [0] rfl rfl (by decide) (by decide) hk1 hFc hP1 hD1
    generalize H1 = H at hP hS ⊢
    have hP : va_P (dC, dI) ct_cl [(w0, .inl (cJ, 1, .inr (.inl fw))), (h0, .inr (0, [.ref z0, .ref p0, .ref r0, .int (nI T), .ref k1, .int (nI (K + 1)), .ref k2, .ref k3, .int res, .ref k4, .int (nI 0), .int (nI 0)])), (k1, .inl (cI, 8, .inl f)), (k2, .inl (cI, 6, .inl (upd fot K (nI u9)))), (k3, .inl (cI, 6, .inl (upd fol K (nI (lab u9)))))] H := hP
    have hD : va_D A [(w0, .inl (cJ, 1, .inr (.inl fw))), (h0, .inr (0, [.ref z0, .ref p0, .ref r0, .int (nI T), .ref k1, .int (nI (K + 1)), .ref k2, .ref k3, .int res, .ref k4, .int (nI 0), .int (nI 0)])), (k1, .inl (cI, 8, .inl f)), (k2, .inl (cI, 6, .inl (upd fot K (nI u9)))), (k3, .inl (cI, 6, .inl (upd fol K (nI (lab u9)))))] := hD
    refine W.widen (k := 1) (n := 6) (by omega) (by omega) ?_
    refine lv_i2l (v := (a9).toInt64) hx hb d_L_operand_7 rfl ?_
    refine va_last hx hb hK2 hP hD hS 0 1 rfl rfl (vp_in_nI (by omega) (by omega)) d_L_operand_8 (fun H locs hP hD hS => ?_)
    rw [show (nI 0).toNatClampNeg = 0 from nI_clamp (by omega)] at hP hD
    have hP : va_P (dC, dI) ct_cl [(w0, .inl (cJ, 1, .inr (.inl (vp_updL fw 0 ((a9).toInt64))))), (h0, .inr (0, [.ref z0, .ref p0, .ref r0, .int (nI T), .ref k1, .int (nI (K + 1)), .ref k2, .ref k3, .int res, .ref k4, .int (nI 0), .int (nI 0)])), (k1, .inl (cI, 8, .inl f)), (k2, .inl (cI, 6, .inl (upd fot K (nI u9)))), (k3, .inl (cI, 6, .inl (upd fol K (nI (lab u9)))))] H := hP
    have hD : va_D A [(w0, .inl (cJ, 1, .inr (.inl (vp_updL fw 0 ((a9).toInt64))))), (h0, .inr (0, [.ref z0, .ref p0, .ref r0, .int (nI T), .ref k1, .int (nI (K + 1)), .ref k2, .ref k3, .int res, .ref k4, .int (nI 0), .int (nI 0)])), (k1, .inl (cI, 8, .inl f)), (k2, .inl (cI, 6, .inl (upd fot K (nI u9)))), (k3, .inl (cI, 6, .inl (upd fol K (nI (lab u9)))))] := hD
    refine lv_goto (tgt := 18) hx hb d_L_operand_9 (by decide) ?_
    refine lv_iconst (v := (nI 0)) hx hb d_L_operand_18 (by decide) ?_
    have hP9 := hP.sub [0, 1, 2, 3, 4] rfl
    exact W.iret (v := (nI 0)) hx hb hr (fun tS ht hW => ⟨⟨(nI 0), (some u9, vp_updL fw 0 a9.toInt64), rfl, Or.inr ⟨rfl, u9, rfl, a9, rfl, hw9⟩, by rw [ht]; exact hP9, va_K.moved hW.alike hK2, hD.sub [0, 1, 2, 3, 4] (by decide) rfl⟩, hS.F ht⟩) hS.2.2 d_L_operand_19
set_option maxHeartbeats 4000000 in
set_option maxRecDepth 100000 in
theorem c_L_result (l : Launch) (hst : l.stackTraces = false) (dC : Nat → ClassId) (dI : Nat → Nat → Nat) (cI cJ : ClassId) (z1 : Nat) (sz : Nat → Nat) (h0 z0 p0 r0 k1 k2 k3 k4 : Nat) (tab ops res pl sm : Int32) (a b d : Int32) (w0 : Nat) (fw : Nat → Int64) (sz0 : Nat) : Met l y_L_result w_L_result ({ frames := 7, cells := 1, slots := 6, locals := 113 }) (va_Pc [.ref h0, .int a, .int b, .int d, .ref w0] (ct_rl (dC, dI) ct_cl [(w0, .inl (cJ, 1, .inr (.inl fw))), (h0, .inr (0, [.ref z0, .ref p0, .ref r0, .int tab, .ref k1, .int ops, .ref k2, .ref k3, .int res, .ref k4, .int pl, .int sm])), (z0, .inr (1, [.ref z1])), (z1, .inl (cI, 8, .inl (fun j => nI (sz j))))] [(cI, .int), (cJ, .long)] sz0)) (va_Qi (fun (r : Int32) (u : Option (Unit) × (Nat → Int64)) => (u.1 = none ∧ u.2 = fw ∧ ∃ E : String, (ct_al a b d = false ∧ E = R_IAE) ∧ r = nI (ct_ec E R_IAE)) ∨ (r = nI 0 ∧ ∃ v9 : Unit, u.1 = some v9 ∧ ∃ a9 : Int32, u.2 = vp_updL fw 0 a9.toInt64 ∧ (a9 = nI (ct_pr sz (ct_lbs a b d).testBit 8) ∧ ct_al a b d = true))) (fun (u : Option (Unit) × (Nat → Int64)) t => ct_at (dC, dI) ct_cl [(cI, .int), (cJ, .long)] (va_A [(w0, .inl (cJ, 1, .inr (.inl fw))), (h0, .inr (0, [.ref z0, .ref p0, .ref r0, .int tab, .ref k1, .int ops, .ref k2, .ref k3, .int res, .ref k4, .int pl, .int sm])), (z0, .inr (1, [.ref z1])), (z1, .inl (cI, 8, .inl (fun j => nI (sz j))))] sz0) ((w0, .inl (cJ, 1, .inr (.inl (u.2)))) :: (ct_wm (u.1) [(h0, .inr (0, [.ref z0, .ref p0, .ref r0, .int tab, .ref k1, .int ops, .ref k2, .ref k3, .int res, .ref k4, .int pl, .int sm])), (z0, .inr (1, [.ref z1])), (z1, .inl (cI, 8, .inl (fun j => nI (sz j))))] (fun (v9 : Unit) => [(h0, .inr (0, [.ref z0, .ref p0, .ref r0, .int tab, .ref k1, .int ops, .ref k2, .ref k3, .int (nI (ct_lbs a b d)), .ref k4, .int (nI 0), .int (nI 0)])), (z0, .inr (1, [.ref z1])), (z1, .inl (cI, 8, .inl (fun j => nI (sz j))))]))) t) (va_A [(w0, .inl (cJ, 1, .inr (.inl fw))), (h0, .inr (0, [.ref z0, .ref p0, .ref r0, .int tab, .ref k1, .int ops, .ref k2, .ref k3, .int res, .ref k4, .int pl, .int sm])), (z0, .inr (1, [.ref z1])), (z1, .inl (cI, 8, .inl (fun j => nI (sz j))))] sz0)) 1 6 (va_A [(w0, .inl (cJ, 1, .inr (.inl fw))), (h0, .inr (0, [.ref z0, .ref p0, .ref r0, .int tab, .ref k1, .int ops, .ref k2, .ref k3, .int res, .ref k4, .int pl, .int sm])), (z0, .inr (1, [.ref z1])), (z1, .inl (cI, 8, .inl (fun j => nI (sz j))))] sz0) := by
  refine va_MetW (cc := b_L_result) (maxL := 6) (ret := (some .int)) (hh := [(0, 12, 15, 13)]) (by decide) rfl ?_
  intro p e s m args below meth c s₁ Bd hml hv
  obtain ⟨hargs, ⟨⟨hsz9, hP, hK2, hD0⟩, hXw⟩, hNw⟩ := hv
  have hK : va_K (dC, dI) ct_cl [(cI, .int)] s := hK2.sub [0] rfl
  have hx := Bd.exec
  have hb := Bd.bytes
  have hr := Bd.returns
  have hts : ∀ w ∈ k_L_result :: ct_tb, w.before args s = true := atoms_spec (ws := w_L_result) Bd.pre
  have htab : c.exceptionTable.toList = tableOf [(0, 12, 15, 13)] := vx_table (x := y_L_result) Bd (hts _ List.mem_cons_self)
  have hown : s.vm.findClass R_L = some m.cls := findClass_of_methodNamed Bd.named
  have hlocks := Bd.notSynchronized
  subst hsz9
  have hD := hD0.self (sz := s.heap.size)
  generalize hAe : va_A [(w0, .inl (cJ, 1, .inr (.inl fw))), (h0, .inr (0, [.ref z0, .ref p0, .ref r0, .int tab, .ref k1, .int ops, .ref k2, .ref k3, .int res, .ref k4, .int pl, .int sm])), (z0, .inr (1, [.ref z1])), (z1, .inl (cI, 8, .inl (fun j => nI (sz j))))] s.heap.size = A at hD hXw ⊢
  have hA : ∀ q : Nat, s.heap.size ≤ q → A q := fun q h => by rw [← hAe]; exact Or.inr h
  have hS : va_S A s.heap s.heap [] := va_S.rf
  have hl := lv_entry ([.ref h0, .int a, .int b, .int d, .ref w0]) (n := 6) (Nat.le_of_ble_eq_true rfl)
  rw [show entryFrame m args 6 = entryFrame m (([.ref h0, .int a, .int b, .int d, .ref w0] : List Value)).toArray 6 by rw [hargs], lg_entry_eq]
  generalize (lg_sl ([.ref h0, .int a, .int b, .int d, .ref w0]) ++ List.replicate (6 - (lg_sl ([.ref h0, .int a, .int b, .int d, .ref w0])).length) Slot.unset).toArray = ls at hl ⊢
  have hl : lv_has ls 6 [(0, .ref h0), (1, .int a), (2, .int b), (3, .int d), (4, .ref w0)] := hl
  refine lv_aload hx hb d_L_result_0 (lv_at hl 4 rfl) ?_
  refine lv_iconst (v := (nI 0)) hx hb d_L_result_2 (by decide) ?_
  refine lv_aload_n hx hb d_L_result_3 rfl (lv_at hl 0 rfl) ?_
  refine lv_iload_n hx hb d_L_result_4 rfl (lv_at hl 1 rfl) ?_
  refine lv_iload_n hx hb d_L_result_5 rfl (lv_at hl 2 rfl) ?_
  refine lv_iload_n hx hb d_L_result_6 rfl (lv_at hl 3 rfl) ?_
  have hPc := hP.sub (ws' := [(h0, .inr (0, [.ref z0, .ref p0, .ref r0, .int tab, .ref k1, .int ops, .ref k2, .ref k3, .int res, .ref k4, .int pl, .int sm])), (z0, .inr (1, [.ref z1])), (z1, .inl (cI, 8, .inl (fun j => nI (sz j))))]) [1, 2, 3] rfl
  have hDc := hD.sub (ws' := [(h0, .inr (0, [.ref z0, .ref p0, .ref r0, .int tab, .ref k1, .int ops, .ref k2, .ref k3, .int res, .ref k4, .int pl, .int sm])), (z0, .inr (1, [.ref z1])), (z1, .inl (cI, 8, .inl (fun j => nI (sz j))))]) [1, 2, 3] (by decide) rfl
  have hFc := va_free (wc := [(h0, .inr (0, [.ref z0, .ref p0, .ref r0, .int tab, .ref k1, .int ops, .ref k2, .ref k3, .int res, .ref k4, .int pl, .int sm])), (z0, .inr (1, [.ref z1])), (z1, .inl (cI, 8, .inl (fun j => nI (sz j))))]) hD hS hA [1, 2, 3] rfl
  refine vx_calli (vx_runV (As := [.int a, .int b, .int d]) (rest := [.int (nI 0), .ref w0]) ⟨hx, hb, hml, hown, hts⟩ (c_H_result l hst dC dI cI z1 sz h0 z0 p0 r0 k1 k2 k3 k4 tab ops res pl sm a b d s.heap.size) (cwV 3 hts (ct_giV (fun w h9 => ct_tl h9) kw_411 kw_412 kw_413 kw_26 kw_414) rfl rfl rfl (by decide +kernel) ⟨Nat.le_of_ble_eq_true rfl, Nat.le_of_ble_eq_true rfl⟩) ⟨ct_rx_blind, va_recv hK hP (ci := 0) (q0 := 1) rfl rfl, ct_rx_pre hPc hK hDc hXw hFc⟩ rfl rfl hl.1 rfl (lv_room (Nat.le_of_ble_eq_true rfl)) d_L_result_7 ⟨by show 0 + (1) ≤ 1; omega, by show 0 + (6) ≤ 6; omega⟩) hS (fun q _ h9 => hFc q h9) hFc (fun q _ h9 => hFc q h9) (fun E ce q9 u9 tS H1 locs ht hal hpx hBX hz1 hk1 hS hce hcv hcl => ?_) (fun a9 u9 tS H1 locs ht hal hw9 hB hz1 hk1 hS => ?_)
  · obtain ⟨hE, hP1, -, hD1⟩ := hBX
    rw [ht] at hP1
    obtain ⟨hP, hD⟩ := va_join (wr := [(w0, .inl (cJ, 1, .inr (.inl fw)))]) (w1 := [(h0, .inr (0, [.ref z0, .ref p0, .ref r0, .int tab, .ref k1, .int ops, .ref k2, .ref k3, .int res, .ref k4, .int pl, .int sm])), (z0, .inr (1, [.ref z1])), (z1, .inl (cI, 8, .inl (fun j => nI (sz j))))]) hP hD [1, 2, 3] [0] rfl rfl (by decide) (by decide) hk1 hFc hP1 hD1
    generalize H1 = H at hP hS hce ⊢
    have hP : va_P (dC, dI) ct_cl [(w0, .inl (cJ, 1, .inr (.inl fw))), (h0, .inr (0, [.ref z0, .ref p0, .ref r0, .int tab, .ref k1, .int ops, .ref k2, .ref k3, .int res, .ref k4, .int pl, .int sm])), (z0, .inr (1, [.ref z1])), (z1, .inl (cI, 8, .inl (fun j => nI (sz j))))] H := hP
    have hD : va_D A [(w0, .inl (cJ, 1, .inr (.inl fw))), (h0, .inr (0, [.ref z0, .ref p0, .ref r0, .int tab, .ref k1, .int ops, .ref k2, .ref k3, .int res, .ref k4, .int pl, .int sm])), (z0, .inr (1, [.ref z1])), (z1, .inl (cI, 8, .inl (fun j => nI (sz j))))] := hD
    obtain ⟨hE, rfl⟩ := hE
    refine vx_catch (own := R_L) (name := "java/lang/IllegalArgumentException") (E := "java/lang/IllegalArgumentException") hown [] ⟨0, 12, 15, 13⟩ [] (htab.trans rfl) (fun z hz => absurd hz List.not_mem_nil) (by decide) (by decide) (hts _ (ct_tl kw_219)) (va_Nw.use (ct_bad_ot _ (by simp [ct_bad])) (hXw.1 _ (by simp [ct_bad]))) hce hcv hcl ?_
    refine W.widen (k := 1) (n := 6) (by omega) (by omega) ?_
    refine lv_astore (lv' := [(5, .ref q9), (0, .ref h0), (1, .int a), (2, .int b), (3, .int d), (4, .ref w0)]) hx hb d_L_result_15 hl (by decide) rfl (fun ls hl => ?_)
    refine lv_iconst (v := (nI 1)) hx hb d_L_result_17 (by decide) ?_
    have hP9 := hP.sub [0, 1, 2, 3] rfl
    exact W.iret (v := (nI 1)) hx hb hr (fun tS ht hW => ⟨⟨(nI 1), (none, fw), rfl, Or.inl ⟨rfl, rfl, ⟨_, ⟨hE, rfl⟩, by rw [ct_ec, if_pos rfl]⟩⟩, by rw [ht]; exact hP9, va_K.moved hW.alike hK2, hD.sub [0, 1, 2, 3] (by decide) rfl⟩, hS.F ht⟩) hS.2.2 d_L_result_18
  · obtain ⟨hP1, -, hD1⟩ := hB
    rw [ht] at hP1
    obtain ⟨hP, hD⟩ := va_join (wr := [(w0, .inl (cJ, 1, .inr (.inl fw)))]) (w1 := [(h0, .inr (0, [.ref z0, .ref p0, .ref r0, .int tab, .ref k1, .int ops, .ref k2, .ref k3, .int (nI (ct_lbs a b d)), .ref k4, .int (nI 0), .int (nI 0)])), (z0, .inr (1, [.ref z1])), (z1, .inl (cI, 8, .inl (fun j => nI (sz j))))]) hP hD [1, 2, 3] [0] rfl rfl (by decide) (by decide) hk1 hFc hP1 hD1
    generalize H1 = H at hP hS ⊢
    have hP : va_P (dC, dI) ct_cl [(w0, .inl (cJ, 1, .inr (.inl fw))), (h0, .inr (0, [.ref z0, .ref p0, .ref r0, .int tab, .ref k1, .int ops, .ref k2, .ref k3, .int (nI (ct_lbs a b d)), .ref k4, .int (nI 0), .int (nI 0)])), (z0, .inr (1, [.ref z1])), (z1, .inl (cI, 8, .inl (fun j => nI (sz j))))] H := hP
    have hD : va_D A [(w0, .inl (cJ, 1, .inr (.inl fw))), (h0, .inr (0, [.ref z0, .ref p0, .ref r0, .int tab, .ref k1, .int ops, .ref k2, .ref k3, .int (nI (ct_lbs a b d)), .ref k4, .int (nI 0), .int (nI 0)])), (z0, .inr (1, [.ref z1])), (z1, .inl (cI, 8, .inl (fun j => nI (sz j))))] := hD
    refine W.widen (k := 1) (n := 6) (by omega) (by omega) ?_
    refine lv_i2l (v := (a9).toInt64) hx hb d_L_result_10 rfl ?_
    refine va_last hx hb hK2 hP hD hS 0 1 rfl rfl (vp_in_nI (by omega) (by omega)) d_L_result_11 (fun H locs hP hD hS => ?_)
    rw [show (nI 0).toNatClampNeg = 0 from nI_clamp (by omega)] at hP hD
    have hP : va_P (dC, dI) ct_cl [(w0, .inl (cJ, 1, .inr (.inl (vp_updL fw 0 ((a9).toInt64))))), (h0, .inr (0, [.ref z0, .ref p0, .ref r0, .int tab, .ref k1, .int ops, .ref k2, .ref k3, .int (nI (ct_lbs a b d)), .ref k4, .int (nI 0), .int (nI 0)])), (z0, .inr (1, [.ref z1])), (z1, .inl (cI, 8, .inl (fun j => nI (sz j))))] H := hP
    have hD : va_D A [(w0, .inl (cJ, 1, .inr (.inl (vp_updL fw 0 ((a9).toInt64))))), (h0, .inr (0, [.ref z0, .ref p0, .ref r0, .int tab, .ref k1, .int ops, .ref k2, .ref k3, .int (nI (ct_lbs a b d)), .ref k4, .int (nI 0), .int (nI 0)])), (z0, .inr (1, [.ref z1])), (z1, .inl (cI, 8, .inl (fun j => nI (sz j))))] := hD
    refine lv_goto (tgt := 19) hx hb d_L_result_12 (by decide) ?_
    refine lv_iconst (v := (nI 0)) hx hb d_L_result_19 (by decide) ?_
    have hP9 := hP.sub [0, 1, 2, 3] rfl
    exact W.iret (v := (nI 0)) hx hb hr (fun tS ht hW => ⟨⟨(nI 0), (some u9, vp_updL fw 0 a9.toInt64), rfl, Or.inr ⟨rfl, u9, rfl, a9, rfl, hw9⟩, by rw [ht]; exact hP9, va_K.moved hW.alike hK2, hD.sub [0, 1, 2, 3] (by decide) rfl⟩, hS.F ht⟩) hS.2.2 d_L_result_20
set_option maxHeartbeats 4000000 in
set_option maxRecDepth 100000 in
theorem c_L_step (l : Launch) (hst : l.stackTraces = false) (dC : Nat → ClassId) (dI : Nat → Nat → Nat) (cI cJ : ClassId) (z1 : Nat) (sz : Nat → Nat) (p1 p2 p3 p4 p5 : Nat) (h0 z0 p0 r0 k1 k2 k3 k4 : Nat) (tab sm : Int32) (K R pf : Nat) (fh fl fc fp fj fo : Nat → Int32) (la : Nat → Nat) (hK6 : K ≤ 6) (hsz : ∀ k, k < 8 → sz k ≤ 3) (hla : ∀ k, k < K → la k < 256) (hfo : ∀ j, j < K → fo j = nI (la j)) (hk0 : ct_plk fh fc) (hpf : pf = 0 ∨ pf = 1) (hok : pf = 1 → 2 ≤ K ∧ ct_plok sz la K R fh fl fc fp fj) (x y : Int32) (w0 : Nat) (fw : Nat → Int64) (sz0 : Nat) : Met l y_L_step w_L_step ({ frames := 7, cells := 1, slots := 6, locals := 142 }) (va_Pc [.ref h0, .int x, .int y, .ref w0] (ct_rl (dC, dI) ct_cl [(w0, .inl (cJ, 1, .inr (.inl fw))), (h0, .inr (0, [.ref z0, .ref p0, .ref r0, .int tab, .ref k1, .int (nI K), .ref k2, .ref k3, .int (nI R), .ref k4, .int (nI pf), .int sm])), (p0, .inr (2, [.ref z0, .ref p1, .ref p2, .ref p3, .ref p4, .ref p5])), (p1, .inl (cI, 64, .inl fh)), (p2, .inl (cI, 64, .inl fl)), (p3, .inl (cI, 64, .inl fc)), (p4, .inl (cI, 64, .inl fp)), (p5, .inl (cI, 5, .inl fj)), (z0, .inr (1, [.ref z1])), (z1, .inl (cI, 8, .inl (fun j => nI (sz j)))), (k3, .inl (cI, 6, .inl fo))] [(cI, .int), (cJ, .long)] sz0)) (va_Qi (fun (r : Int32) (u : Option (Nat × (Nat → Int32) × (Nat → Int32) × (Nat → Int32) × (Nat → Int32) × (Nat → Int32)) × (Nat → Int64)) => (u.1 = none ∧ u.2 = fw ∧ ∃ E : String, ((ct_isn (K - 1) x = false ∧ E = R_IOE) ∨ (ct_isn (K - 1) x = true ∧ ct_isn 4 y = false ∧ E = R_IAE)) ∧ r = nI (ct_ec E R_IOE)) ∨ (r = nI 0 ∧ ∃ v9 : Nat × (Nat → Int32) × (Nat → Int32) × (Nat → Int32) × (Nat → Int32) × (Nat → Int32), u.1 = some v9 ∧ ∃ a9 : Int32, u.2 = vp_updL fw 0 a9.toInt64 ∧ (((v9.1 = 0 ∨ v9.1 = 1) ∧ (v9.1 = 1 → 2 ≤ K ∧ ct_plok sz la K R v9.2.1 v9.2.2.1 v9.2.2.2.1 v9.2.2.2.2.1 v9.2.2.2.2.2) ∧ ct_plk v9.2.1 v9.2.2.2.1) ∧ ∃ k j : Nat, x = nI k ∧ k < K - 1 ∧ y = nI j ∧ j < 4 ∧ a9 = nI (ct_stv sz la K R k j)))) (fun (u : Option (Nat × (Nat → Int32) × (Nat → Int32) × (Nat → Int32) × (Nat → Int32) × (Nat → Int32)) × (Nat → Int64)) t => ct_at (dC, dI) ct_cl [(cI, .int), (cJ, .long)] (va_A [(w0, .inl (cJ, 1, .inr (.inl fw))), (h0, .inr (0, [.ref z0, .ref p0, .ref r0, .int tab, .ref k1, .int (nI K), .ref k2, .ref k3, .int (nI R), .ref k4, .int (nI pf), .int sm])), (p0, .inr (2, [.ref z0, .ref p1, .ref p2, .ref p3, .ref p4, .ref p5])), (p1, .inl (cI, 64, .inl fh)), (p2, .inl (cI, 64, .inl fl)), (p3, .inl (cI, 64, .inl fc)), (p4, .inl (cI, 64, .inl fp)), (p5, .inl (cI, 5, .inl fj)), (z0, .inr (1, [.ref z1])), (z1, .inl (cI, 8, .inl (fun j => nI (sz j)))), (k3, .inl (cI, 6, .inl fo))] sz0) ((w0, .inl (cJ, 1, .inr (.inl (u.2)))) :: (ct_wm (u.1) [(h0, .inr (0, [.ref z0, .ref p0, .ref r0, .int tab, .ref k1, .int (nI K), .ref k2, .ref k3, .int (nI R), .ref k4, .int (nI pf), .int sm])), (p0, .inr (2, [.ref z0, .ref p1, .ref p2, .ref p3, .ref p4, .ref p5])), (p1, .inl (cI, 64, .inl fh)), (p2, .inl (cI, 64, .inl fl)), (p3, .inl (cI, 64, .inl fc)), (p4, .inl (cI, 64, .inl fp)), (p5, .inl (cI, 5, .inl fj)), (z0, .inr (1, [.ref z1])), (z1, .inl (cI, 8, .inl (fun j => nI (sz j)))), (k3, .inl (cI, 6, .inl fo))] (fun (v9 : Nat × (Nat → Int32) × (Nat → Int32) × (Nat → Int32) × (Nat → Int32) × (Nat → Int32)) => [(h0, .inr (0, [.ref z0, .ref p0, .ref r0, .int tab, .ref k1, .int (nI K), .ref k2, .ref k3, .int (nI R), .ref k4, .int (nI (v9.1)), .int sm])), (p0, .inr (2, [.ref z0, .ref p1, .ref p2, .ref p3, .ref p4, .ref p5])), (p1, .inl (cI, 64, .inl (v9.2.1))), (p2, .inl (cI, 64, .inl (v9.2.2.1))), (p3, .inl (cI, 64, .inl (v9.2.2.2.1))), (p4, .inl (cI, 64, .inl (v9.2.2.2.2.1))), (p5, .inl (cI, 5, .inl (v9.2.2.2.2.2))), (z0, .inr (1, [.ref z1])), (z1, .inl (cI, 8, .inl (fun j => nI (sz j)))), (k3, .inl (cI, 6, .inl fo))]))) t) (va_A [(w0, .inl (cJ, 1, .inr (.inl fw))), (h0, .inr (0, [.ref z0, .ref p0, .ref r0, .int tab, .ref k1, .int (nI K), .ref k2, .ref k3, .int (nI R), .ref k4, .int (nI pf), .int sm])), (p0, .inr (2, [.ref z0, .ref p1, .ref p2, .ref p3, .ref p4, .ref p5])), (p1, .inl (cI, 64, .inl fh)), (p2, .inl (cI, 64, .inl fl)), (p3, .inl (cI, 64, .inl fc)), (p4, .inl (cI, 64, .inl fp)), (p5, .inl (cI, 5, .inl fj)), (z0, .inr (1, [.ref z1])), (z1, .inl (cI, 8, .inl (fun j => nI (sz j)))), (k3, .inl (cI, 6, .inl fo))] sz0)) 1 6 (va_A [(w0, .inl (cJ, 1, .inr (.inl fw))), (h0, .inr (0, [.ref z0, .ref p0, .ref r0, .int tab, .ref k1, .int (nI K), .ref k2, .ref k3, .int (nI R), .ref k4, .int (nI pf), .int sm])), (p0, .inr (2, [.ref z0, .ref p1, .ref p2, .ref p3, .ref p4, .ref p5])), (p1, .inl (cI, 64, .inl fh)), (p2, .inl (cI, 64, .inl fl)), (p3, .inl (cI, 64, .inl fc)), (p4, .inl (cI, 64, .inl fp)), (p5, .inl (cI, 5, .inl fj)), (z0, .inr (1, [.ref z1])), (z1, .inl (cI, 8, .inl (fun j => nI (sz j)))), (k3, .inl (cI, 6, .inl fo))] sz0) := by
  refine va_MetW (cc := b_L_step) (maxL := 5) (ret := (some .int)) (hh := [(0, 10, 13, 27), (0, 10, 17, 13)]) (by decide) rfl ?_
  intro p e s m args below meth c s₁ Bd hml hv
  obtain ⟨hargs, ⟨⟨hsz9, hP, hK2, hD0⟩, hXw⟩, hNw⟩ := hv
  have hK : va_K (dC, dI) ct_cl [(cI, .int)] s := hK2.sub [0] rfl
  have hx := Bd.exec
  have hb := Bd.bytes
  have hr := Bd.returns
  have hts : ∀ w ∈ k_L_step :: ct_tb, w.before args s = true := atoms_spec (ws := w_L_step) Bd.pre
  have htab : c.exceptionTable.toList = tableOf [(0, 10, 13, 27), (0, 10, 17, 13)] := vx_table (x := y_L_step) Bd (hts _ List.mem_cons_self)
  have hown : s.vm.findClass R_L = some m.cls := findClass_of_methodNamed Bd.named
  have hlocks := Bd.notSynchronized
  subst hsz9
  have hD := hD0.self (sz := s.heap.size)
  generalize hAe : va_A [(w0, .inl (cJ, 1, .inr (.inl fw))), (h0, .inr (0, [.ref z0, .ref p0, .ref r0, .int tab, .ref k1, .int (nI K), .ref k2, .ref k3, .int (nI R), .ref k4, .int (nI pf), .int sm])), (p0, .inr (2, [.ref z0, .ref p1, .ref p2, .ref p3, .ref p4, .ref p5])), (p1, .inl (cI, 64, .inl fh)), (p2, .inl (cI, 64, .inl fl)), (p3, .inl (cI, 64, .inl fc)), (p4, .inl (cI, 64, .inl fp)), (p5, .inl (cI, 5, .inl fj)), (z0, .inr (1, [.ref z1])), (z1, .inl (cI, 8, .inl (fun j => nI (sz j)))), (k3, .inl (cI, 6, .inl fo))] s.heap.size = A at hD hXw ⊢
  have hA : ∀ q : Nat, s.heap.size ≤ q → A q := fun q h => by rw [← hAe]; exact Or.inr h
  have hS : va_S A s.heap s.heap [] := va_S.rf
  have hl := lv_entry ([.ref h0, .int x, .int y, .ref w0]) (n := 5) (Nat.le_of_ble_eq_true rfl)
  rw [show entryFrame m args 5 = entryFrame m (([.ref h0, .int x, .int y, .ref w0] : List Value)).toArray 5 by rw [hargs], lg_entry_eq]
  generalize (lg_sl ([.ref h0, .int x, .int y, .ref w0]) ++ List.replicate (5 - (lg_sl ([.ref h0, .int x, .int y, .ref w0])).length) Slot.unset).toArray = ls at hl ⊢
  have hl : lv_has ls 5 [(0, .ref h0), (1, .int x), (2, .int y), (3, .ref w0)] := hl
  refine lv_aload_n hx hb d_L_step_0 rfl (lv_at hl 3 rfl) ?_
  refine lv_iconst (v := (nI 0)) hx hb d_L_step_1 (by decide) ?_
  refine lv_aload_n hx hb d_L_step_2 rfl (lv_at hl 0 rfl) ?_
  refine lv_iload_n hx hb d_L_step_3 rfl (lv_at hl 1 rfl) ?_
  refine lv_iload_n hx hb d_L_step_4 rfl (lv_at hl 2 rfl) ?_
  have hPc := hP.sub (ws' := [(h0, .inr (0, [.ref z0, .ref p0, .ref r0, .int tab, .ref k1, .int (nI K), .ref k2, .ref k3, .int (nI R), .ref k4, .int (nI pf), .int sm])), (p0, .inr (2, [.ref z0, .ref p1, .ref p2, .ref p3, .ref p4, .ref p5])), (p1, .inl (cI, 64, .inl fh)), (p2, .inl (cI, 64, .inl fl)), (p3, .inl (cI, 64, .inl fc)), (p4, .inl (cI, 64, .inl fp)), (p5, .inl (cI, 5, .inl fj)), (z0, .inr (1, [.ref z1])), (z1, .inl (cI, 8, .inl (fun j => nI (sz j)))), (k3, .inl (cI, 6, .inl fo))]) [1, 2, 3, 4, 5, 6, 7, 8, 9, 10] rfl
  have hDc := hD.sub (ws' := [(h0, .inr (0, [.ref z0, .ref p0, .ref r0, .int tab, .ref k1, .int (nI K), .ref k2, .ref k3, .int (nI R), .ref k4, .int (nI pf), .int sm])), (p0, .inr (2, [.ref z0, .ref p1, .ref p2, .ref p3, .ref p4, .ref p5])), (p1, .inl (cI, 64, .inl fh)), (p2, .inl (cI, 64, .inl fl)), (p3, .inl (cI, 64, .inl fc)), (p4, .inl (cI, 64, .inl fp)), (p5, .inl (cI, 5, .inl fj)), (z0, .inr (1, [.ref z1])), (z1, .inl (cI, 8, .inl (fun j => nI (sz j)))), (k3, .inl (cI, 6, .inl fo))]) [1, 2, 3, 4, 5, 6, 7, 8, 9, 10] (by decide) rfl
  have hFc := va_free (wc := [(h0, .inr (0, [.ref z0, .ref p0, .ref r0, .int tab, .ref k1, .int (nI K), .ref k2, .ref k3, .int (nI R), .ref k4, .int (nI pf), .int sm])), (p0, .inr (2, [.ref z0, .ref p1, .ref p2, .ref p3, .ref p4, .ref p5])), (p1, .inl (cI, 64, .inl fh)), (p2, .inl (cI, 64, .inl fl)), (p3, .inl (cI, 64, .inl fc)), (p4, .inl (cI, 64, .inl fp)), (p5, .inl (cI, 5, .inl fj)), (z0, .inr (1, [.ref z1])), (z1, .inl (cI, 8, .inl (fun j => nI (sz j)))), (k3, .inl (cI, 6, .inl fo))]) hD hS hA [1, 2, 3, 4, 5, 6, 7, 8, 9, 10] rfl
  refine vx_calli (vx_runV (As := [.int x, .int y]) (rest := [.int (nI 0), .ref w0]) ⟨hx, hb, hml, hown, hts⟩ (c_H_step l hst dC dI cI z1 sz p1 p2 p3 p4 p5 h0 z0 p0 r0 k1 k2 k3 k4 tab sm K R pf fh fl fc fp fj fo la hK6 hsz hla hfo hk0 hpf hok x y s.heap.size) (cwV 2 hts (ct_giV (fun w h9 => ct_tl h9) kw_418 kw_419 kw_420 kw_26 kw_421) rfl rfl rfl (by decide +kernel) ⟨Nat.le_of_ble_eq_true rfl, Nat.le_of_ble_eq_true rfl⟩) ⟨ct_rx_blind, va_recv hK hP (ci := 0) (q0 := 1) rfl rfl, ct_rx_pre hPc hK hDc hXw hFc⟩ rfl rfl hl.1 rfl (lv_room (Nat.le_of_ble_eq_true rfl)) d_L_step_5 ⟨by show 0 + (1) ≤ 1; omega, by show 0 + (6) ≤ 6; omega⟩) hS (fun q _ h9 => hFc q h9) hFc (fun q _ h9 => hFc q h9) (fun E ce q9 u9 tS H1 locs ht hal hpx hBX hz1 hk1 hS hce hcv hcl => ?_) (fun a9 u9 tS H1 locs ht hal hw9 hB hz1 hk1 hS => ?_)
  · obtain ⟨hE, hP1, -, hD1⟩ := hBX
    rw [ht] at hP1
    obtain ⟨hP, hD⟩ := va_join (wr := [(w0, .inl (cJ, 1, .inr (.inl fw)))]) (w1 := [(h0, .inr (0, [.ref z0, .ref p0, .ref r0, .int tab, .ref k1, .int (nI K), .ref k2, .ref k3, .int (nI R), .ref k4, .int (nI pf), .int sm])), (p0, .inr (2, [.ref z0, .ref p1, .ref p2, .ref p3, .ref p4, .ref p5])), (p1, .inl (cI, 64, .inl fh)), (p2, .inl (cI, 64, .inl fl)), (p3, .inl (cI, 64, .inl fc)), (p4, .inl (cI, 64, .inl fp)), (p5, .inl (cI, 5, .inl fj)), (z0, .inr (1, [.ref z1])), (z1, .inl (cI, 8, .inl (fun j => nI (sz j)))), (k3, .inl (cI, 6, .inl fo))]) hP hD [1, 2, 3, 4, 5, 6, 7, 8, 9, 10] [0] rfl rfl (by decide) (by decide) hk1 hFc hP1 hD1
    generalize H1 = H at hP hS hce ⊢
    have hP : va_P (dC, dI) ct_cl [(w0, .inl (cJ, 1, .inr (.inl fw))), (h0, .inr (0, [.ref z0, .ref p0, .ref r0, .int tab, .ref k1, .int (nI K), .ref k2, .ref k3, .int (nI R), .ref k4, .int (nI pf), .int sm])), (p0, .inr (2, [.ref z0, .ref p1, .ref p2, .ref p3, .ref p4, .ref p5])), (p1, .inl (cI, 64, .inl fh)), (p2, .inl (cI, 64, .inl fl)), (p3, .inl (cI, 64, .inl fc)), (p4, .inl (cI, 64, .inl fp)), (p5, .inl (cI, 5, .inl fj)), (z0, .inr (1, [.ref z1])), (z1, .inl (cI, 8, .inl (fun j => nI (sz j)))), (k3, .inl (cI, 6, .inl fo))] H := hP
    have hD : va_D A [(w0, .inl (cJ, 1, .inr (.inl fw))), (h0, .inr (0, [.ref z0, .ref p0, .ref r0, .int tab, .ref k1, .int (nI K), .ref k2, .ref k3, .int (nI R), .ref k4, .int (nI pf), .int sm])), (p0, .inr (2, [.ref z0, .ref p1, .ref p2, .ref p3, .ref p4, .ref p5])), (p1, .inl (cI, 64, .inl fh)), (p2, .inl (cI, 64, .inl fl)), (p3, .inl (cI, 64, .inl fc)), (p4, .inl (cI, 64, .inl fp)), (p5, .inl (cI, 5, .inl fj)), (z0, .inr (1, [.ref z1])), (z1, .inl (cI, 8, .inl (fun j => nI (sz j)))), (k3, .inl (cI, 6, .inl fo))] := hD
    rcases hE with ⟨hE, rfl⟩ | ⟨hE, hE2, rfl⟩
    · refine vx_catch (own := R_L) (name := "java/lang/IndexOutOfBoundsException") (E := "java/lang/IndexOutOfBoundsException") hown [] ⟨0, 10, 13, 27⟩ [⟨0, 10, 17, 13⟩] (htab.trans rfl) (fun z hz => absurd hz List.not_mem_nil) (by decide) (by decide) (hts _ (ct_tl kw_359)) (va_Nw.use (ct_bad_ot _ (by simp [ct_bad])) (hXw.1 _ (by simp [ct_bad]))) hce hcv hcl ?_
      refine W.widen (k := 1) (n := 6) (by omega) (by omega) ?_
      refine lv_astore (lv' := [(4, .ref q9), (0, .ref h0), (1, .int x), (2, .int y), (3, .ref w0)]) hx hb d_L_step_13 hl (by decide) rfl (fun ls hl => ?_)
      refine lv_iconst (v := (nI 1)) hx hb d_L_step_15 (by decide) ?_
      have hP9 := hP.sub [0, 1, 2, 3, 4, 5, 6, 7, 8, 9, 10] rfl
      exact W.iret (v := (nI 1)) hx hb hr (fun tS ht hW => ⟨⟨(nI 1), (none, fw), rfl, Or.inl ⟨rfl, rfl, ⟨_, Or.inl ⟨hE, rfl⟩, by rw [ct_ec, if_pos rfl]⟩⟩, by rw [ht]; exact hP9, va_K.moved hW.alike hK2, hD.sub [0, 1, 2, 3, 4, 5, 6, 7, 8, 9, 10] (by decide) rfl⟩, hS.F ht⟩) hS.2.2 d_L_step_16
    · refine vx_catch (own := R_L) (name := "java/lang/IllegalArgumentException") (E := "java/lang/IllegalArgumentException") hown [⟨0, 10, 13, 27⟩] ⟨0, 10, 17, 13⟩ [] (htab.trans rfl) (fun z hz => by rw [List.mem_singleton.mp hz]; exact Or.inr ⟨by decide, "java/lang/IndexOutOfBoundsException", hts _ (ct_tl kw_359), hNw ("java/lang/IllegalArgumentException", "java/lang/IndexOutOfBoundsException") (by decide)⟩) (by decide) (by decide) (hts _ (ct_tl kw_219)) (va_Nw.use (ct_bad_ot _ (by simp [ct_bad])) (hXw.1 _ (by simp [ct_bad]))) hce hcv hcl ?_
      refine W.widen (k := 1) (n := 6) (by omega) (by omega) ?_
      refine lv_astore (lv' := [(4, .ref q9), (0, .ref h0), (1, .int x), (2, .int y), (3, .ref w0)]) hx hb d_L_step_17 hl (by decide) rfl (fun ls hl => ?_)
      refine lv_iconst (v := (nI 2)) hx hb d_L_step_19 (by decide) ?_
      have hP9 := hP.sub [0, 1, 2, 3, 4, 5, 6, 7, 8, 9, 10] rfl
      exact W.iret (v := (nI 2)) hx hb hr (fun tS ht hW => ⟨⟨(nI 2), (none, fw), rfl, Or.inl ⟨rfl, rfl, ⟨_, Or.inr ⟨hE, hE2, rfl⟩, by rw [ct_ec, if_neg (by decide)]⟩⟩, by rw [ht]; exact hP9, va_K.moved hW.alike hK2, hD.sub [0, 1, 2, 3, 4, 5, 6, 7, 8, 9, 10] (by decide) rfl⟩, hS.F ht⟩) hS.2.2 d_L_step_20
  · obtain ⟨hP1, -, hD1⟩ := hB
    rw [ht] at hP1
    obtain ⟨hP, hD⟩ := va_join (wr := [(w0, .inl (cJ, 1, .inr (.inl fw)))]) (w1 := [(h0, .inr (0, [.ref z0, .ref p0, .ref r0, .int tab, .ref k1, .int (nI K), .ref k2, .ref k3, .int (nI R), .ref k4, .int (nI (u9.1)), .int sm])), (p0, .inr (2, [.ref z0, .ref p1, .ref p2, .ref p3, .ref p4, .ref p5])), (p1, .inl (cI, 64, .inl (u9.2.1))), (p2, .inl (cI, 64, .inl (u9.2.2.1))), (p3, .inl (cI, 64, .inl (u9.2.2.2.1))), (p4, .inl (cI, 64, .inl (u9.2.2.2.2.1))), (p5, .inl (cI, 5, .inl (u9.2.2.2.2.2))), (z0, .inr (1, [.ref z1])), (z1, .inl (cI, 8, .inl (fun j => nI (sz j)))), (k3, .inl (cI, 6, .inl fo))]) hP hD [1, 2, 3, 4, 5, 6, 7, 8, 9, 10] [0] rfl rfl (by decide) (by decide) hk1 hFc hP1 hD1
    generalize H1 = H at hP hS ⊢
    have hP : va_P (dC, dI) ct_cl [(w0, .inl (cJ, 1, .inr (.inl fw))), (h0, .inr (0, [.ref z0, .ref p0, .ref r0, .int tab, .ref k1, .int (nI K), .ref k2, .ref k3, .int (nI R), .ref k4, .int (nI (u9.1)), .int sm])), (p0, .inr (2, [.ref z0, .ref p1, .ref p2, .ref p3, .ref p4, .ref p5])), (p1, .inl (cI, 64, .inl (u9.2.1))), (p2, .inl (cI, 64, .inl (u9.2.2.1))), (p3, .inl (cI, 64, .inl (u9.2.2.2.1))), (p4, .inl (cI, 64, .inl (u9.2.2.2.2.1))), (p5, .inl (cI, 5, .inl (u9.2.2.2.2.2))), (z0, .inr (1, [.ref z1])), (z1, .inl (cI, 8, .inl (fun j => nI (sz j)))), (k3, .inl (cI, 6, .inl fo))] H := hP
    have hD : va_D A [(w0, .inl (cJ, 1, .inr (.inl fw))), (h0, .inr (0, [.ref z0, .ref p0, .ref r0, .int tab, .ref k1, .int (nI K), .ref k2, .ref k3, .int (nI R), .ref k4, .int (nI (u9.1)), .int sm])), (p0, .inr (2, [.ref z0, .ref p1, .ref p2, .ref p3, .ref p4, .ref p5])), (p1, .inl (cI, 64, .inl (u9.2.1))), (p2, .inl (cI, 64, .inl (u9.2.2.1))), (p3, .inl (cI, 64, .inl (u9.2.2.2.1))), (p4, .inl (cI, 64, .inl (u9.2.2.2.2.1))), (p5, .inl (cI, 5, .inl (u9.2.2.2.2.2))), (z0, .inr (1, [.ref z1])), (z1, .inl (cI, 8, .inl (fun j => nI (sz j)))), (k3, .inl (cI, 6, .inl fo))] := hD
    refine W.widen (k := 1) (n := 6) (by omega) (by omega) ?_
    refine lv_i2l (v := (a9).toInt64) hx hb d_L_step_8 rfl ?_
    refine va_last hx hb hK2 hP hD hS 0 1 rfl rfl (vp_in_nI (by omega) (by omega)) d_L_step_9 (fun H locs hP hD hS => ?_)
    rw [show (nI 0).toNatClampNeg = 0 from nI_clamp (by omega)] at hP hD
    have hP : va_P (dC, dI) ct_cl [(w0, .inl (cJ, 1, .inr (.inl (vp_updL fw 0 ((a9).toInt64))))), (h0, .inr (0, [.ref z0, .ref p0, .ref r0, .int tab, .ref k1, .int (nI K), .ref k2, .ref k3, .int (nI R), .ref k4, .int (nI (u9.1)), .int sm])), (p0, .inr (2, [.ref z0, .ref p1, .ref p2, .ref p3, .ref p4, .ref p5])), (p1, .inl (cI, 64, .inl (u9.2.1))), (p2, .inl (cI, 64, .inl (u9.2.2.1))), (p3, .inl (cI, 64, .inl (u9.2.2.2.1))), (p4, .inl (cI, 64, .inl (u9.2.2.2.2.1))), (p5, .inl (cI, 5, .inl (u9.2.2.2.2.2))), (z0, .inr (1, [.ref z1])), (z1, .inl (cI, 8, .inl (fun j => nI (sz j)))), (k3, .inl (cI, 6, .inl fo))] H := hP
    have hD : va_D A [(w0, .inl (cJ, 1, .inr (.inl (vp_updL fw 0 ((a9).toInt64))))), (h0, .inr (0, [.ref z0, .ref p0, .ref r0, .int tab, .ref k1, .int (nI K), .ref k2, .ref k3, .int (nI R), .ref k4, .int (nI (u9.1)), .int sm])), (p0, .inr (2, [.ref z0, .ref p1, .ref p2, .ref p3, .ref p4, .ref p5])), (p1, .inl (cI, 64, .inl (u9.2.1))), (p2, .inl (cI, 64, .inl (u9.2.2.1))), (p3, .inl (cI, 64, .inl (u9.2.2.2.1))), (p4, .inl (cI, 64, .inl (u9.2.2.2.2.1))), (p5, .inl (cI, 5, .inl (u9.2.2.2.2.2))), (z0, .inr (1, [.ref z1])), (z1, .inl (cI, 8, .inl (fun j => nI (sz j)))), (k3, .inl (cI, 6, .inl fo))] := hD
    refine lv_goto (tgt := 21) hx hb d_L_step_10 (by decide) ?_
    refine lv_iconst (v := (nI 0)) hx hb d_L_step_21 (by decide) ?_
    have hP9 := hP.sub [0, 1, 2, 3, 4, 5, 6, 7, 8, 9, 10] rfl
    exact W.iret (v := (nI 0)) hx hb hr (fun tS ht hW => ⟨⟨(nI 0), (some u9, vp_updL fw 0 a9.toInt64), rfl, Or.inr ⟨rfl, u9, rfl, a9, rfl, hw9⟩, by rw [ht]; exact hP9, va_K.moved hW.alike hK2, hD.sub [0, 1, 2, 3, 4, 5, 6, 7, 8, 9, 10] (by decide) rfl⟩, hS.F ht⟩) hS.2.2 d_L_step_22
set_option maxHeartbeats 4000000 in
set_option maxRecDepth 100000 in
theorem c_L_about (l : Launch) (hst : l.stackTraces = false) (dC : Nat → ClassId) (dI : Nat → Nat → Nat) (cI cJ : ClassId) (h0 z0 p0 r0 k1 k2 k3 k4 : Nat) (T K R : Nat) (pl sm : Int32) (hK6 : K ≤ 6) (x : Int32) (w0 : Nat) (fw : Nat → Int64) (sz0 : Nat) : Met l y_L_about w_L_about ({ frames := 7, cells := 1, slots := 6, locals := 111 }) (va_Pc [.ref h0, .int x, .ref w0] (ct_rl (dC, dI) ct_cl [(w0, .inl (cJ, 1, .inr (.inl fw))), (h0, .inr (0, [.ref z0, .ref p0, .ref r0, .int (nI T), .ref k1, .int (nI K), .ref k2, .ref k3, .int (nI R), .ref k4, .int pl, .int sm]))] [(cI, .int), (cJ, .long)] sz0)) (va_Qi (fun (r : Int32) (u : Option (Unit) × (Nat → Int64)) => (u.1 = none ∧ u.2 = fw ∧ ∃ E : String, (ct_isn 4 x = false ∧ E = R_IAE) ∧ r = nI (ct_ec E R_IAE)) ∨ (r = nI 0 ∧ ∃ v9 : Unit, u.1 = some v9 ∧ ∃ a9 : Int32, u.2 = vp_updL fw 0 a9.toInt64 ∧ (∃ j : Nat, j < 4 ∧ x = nI j ∧ a9 = nI (if j = 0 then T else if j = 1 then K else if j = 2 then R else K - 1)))) (fun (u : Option (Unit) × (Nat → Int64)) t => ct_at (dC, dI) ct_cl [(cI, .int), (cJ, .long)] (va_A [(w0, .inl (cJ, 1, .inr (.inl fw))), (h0, .inr (0, [.ref z0, .ref p0, .ref r0, .int (nI T), .ref k1, .int (nI K), .ref k2, .ref k3, .int (nI R), .ref k4, .int pl, .int sm]))] sz0) ((w0, .inl (cJ, 1, .inr (.inl (u.2)))) :: (ct_wm (u.1) [(h0, .inr (0, [.ref z0, .ref p0, .ref r0, .int (nI T), .ref k1, .int (nI K), .ref k2, .ref k3, .int (nI R), .ref k4, .int pl, .int sm]))] (fun (v9 : Unit) => [(h0, .inr (0, [.ref z0, .ref p0, .ref r0, .int (nI T), .ref k1, .int (nI K), .ref k2, .ref k3, .int (nI R), .ref k4, .int pl, .int sm]))]))) t) (va_A [(w0, .inl (cJ, 1, .inr (.inl fw))), (h0, .inr (0, [.ref z0, .ref p0, .ref r0, .int (nI T), .ref k1, .int (nI K), .ref k2, .ref k3, .int (nI R), .ref k4, .int pl, .int sm]))] sz0)) 1 6 (va_A [(w0, .inl (cJ, 1, .inr (.inl fw))), (h0, .inr (0, [.ref z0, .ref p0, .ref r0, .int (nI T), .ref k1, .int (nI K), .ref k2, .ref k3, .int (nI R), .ref k4, .int pl, .int sm]))] sz0) := by
  refine va_MetW (cc := b_L_about) (maxL := 4) (ret := (some .int)) (hh := [(0, 9, 12, 13)]) (by decide) rfl ?_
  intro p e s m args below meth c s₁ Bd hml hv
  obtain ⟨hargs, ⟨⟨hsz9, hP, hK2, hD0⟩, hXw⟩, hNw⟩ := hv
  have hK : va_K (dC, dI) ct_cl [(cI, .int)] s := hK2.sub [0] rfl
  have hx := Bd.exec
  have hb := Bd.bytes
  have hr := Bd.returns
  have hts : ∀ w ∈ k_L_about :: ct_tb, w.before args s = true := atoms_spec (ws := w_L_about) Bd.pre
  have htab : c.exceptionTable.toList = tableOf [(0, 9, 12, 13)] := vx_table (x := y_L_about) Bd (hts _ List.mem_cons_self)
  have hown : s.vm.findClass R_L = some m.cls := findClass_of_methodNamed Bd.named
  have hlocks := Bd.notSynchronized
  subst hsz9
  have hD := hD0.self (sz := s.heap.size)
  generalize hAe : va_A [(w0, .inl (cJ, 1, .inr (.inl fw))), (h0, .inr (0, [.ref z0, .ref p0, .ref r0, .int (nI T), .ref k1, .int (nI K), .ref k2, .ref k3, .int (nI R), .ref k4, .int pl, .int sm]))] s.heap.size = A at hD hXw ⊢
  have hA : ∀ q : Nat, s.heap.size ≤ q → A q := fun q h => by rw [← hAe]; exact Or.inr h
  have hS : va_S A s.heap s.heap [] := va_S.rf
  have hl := lv_entry ([.ref h0, .int x, .ref w0]) (n := 4) (Nat.le_of_ble_eq_true rfl)
  rw [show entryFrame m args 4 = entryFrame m (([.ref h0, .int x, .ref w0] : List Value)).toArray 4 by rw [hargs], lg_entry_eq]
  generalize (lg_sl ([.ref h0, .int x, .ref w0]) ++ List.replicate (4 - (lg_sl ([.ref h0, .int x, .ref w0])).length) Slot.unset).toArray = ls at hl ⊢
  have hl : lv_has ls 4 [(0, .ref h0), (1, .int x), (2, .ref w0)] := hl
  refine lv_aload_n hx hb d_L_about_0 rfl (lv_at hl 2 rfl) ?_
  refine lv_iconst (v := (nI 0)) hx hb d_L_about_1 (by decide) ?_
  refine lv_aload_n hx hb d_L_about_2 rfl (lv_at hl 0 rfl) ?_
  refine lv_iload_n hx hb d_L_about_3 rfl (lv_at hl 1 rfl) ?_
  have hPc := hP.sub (ws' := [(h0, .inr (0, [.ref z0, .ref p0, .ref r0, .int (nI T), .ref k1, .int (nI K), .ref k2, .ref k3, .int (nI R), .ref k4, .int pl, .int sm]))]) [1] rfl
  have hDc := hD.sub (ws' := [(h0, .inr (0, [.ref z0, .ref p0, .ref r0, .int (nI T), .ref k1, .int (nI K), .ref k2, .ref k3, .int (nI R), .ref k4, .int pl, .int sm]))]) [1] (by decide) rfl
  have hFc := va_free (wc := [(h0, .inr (0, [.ref z0, .ref p0, .ref r0, .int (nI T), .ref k1, .int (nI K), .ref k2, .ref k3, .int (nI R), .ref k4, .int pl, .int sm]))]) hD hS hA [1] rfl
  refine vx_calli (vx_runV (As := [.int x]) (rest := [.int (nI 0), .ref w0]) ⟨hx, hb, hml, hown, hts⟩ (c_H_about l hst dC dI cI h0 z0 p0 r0 k1 k2 k3 k4 T K R pl sm hK6 x s.heap.size) (cwV 1 hts (ct_giV (fun w h9 => ct_tl h9) kw_509 kw_510 kw_511 kw_26 kw_512) rfl rfl rfl (by decide +kernel) ⟨Nat.le_of_ble_eq_true rfl, Nat.le_of_ble_eq_true rfl⟩) ⟨ct_rx_blind, va_recv hK hP (ci := 0) (q0 := 1) rfl rfl, ct_rx_pre hPc hK hDc hXw hFc⟩ rfl rfl hl.1 rfl (lv_room (Nat.le_of_ble_eq_true rfl)) d_L_about_4 ⟨by show 0 + (1) ≤ 1; omega, by show 0 + (6) ≤ 6; omega⟩) hS (fun q _ h9 => hFc q h9) hFc (fun q _ h9 => hFc q h9) (fun E ce q9 u9 tS H1 locs ht hal hpx hBX hz1 hk1 hS hce hcv hcl => ?_) (fun a9 u9 tS H1 locs ht hal hw9 hB hz1 hk1 hS => ?_)
  · obtain ⟨hE, hP1, -, hD1⟩ := hBX
    rw [ht] at hP1
    obtain ⟨hP, hD⟩ := va_join (wr := [(w0, .inl (cJ, 1, .inr (.inl fw)))]) (w1 := [(h0, .inr (0, [.ref z0, .ref p0, .ref r0, .int (nI T), .ref k1, .int (nI K), .ref k2, .ref k3, .int (nI R), .ref k4, .int pl, .int sm]))]) hP hD [1] [0] rfl rfl (by decide) (by decide) hk1 hFc hP1 hD1
    generalize H1 = H at hP hS hce ⊢
    have hP : va_P (dC, dI) ct_cl [(w0, .inl (cJ, 1, .inr (.inl fw))), (h0, .inr (0, [.ref z0, .ref p0, .ref r0, .int (nI T), .ref k1, .int (nI K), .ref k2, .ref k3, .int (nI R), .ref k4, .int pl, .int sm]))] H := hP
    have hD : va_D A [(w0, .inl (cJ, 1, .inr (.inl fw))), (h0, .inr (0, [.ref z0, .ref p0, .ref r0, .int (nI T), .ref k1, .int (nI K), .ref k2, .ref k3, .int (nI R), .ref k4, .int pl, .int sm]))] := hD
    obtain ⟨hE, rfl⟩ := hE
    refine vx_catch (own := R_L) (name := "java/lang/IllegalArgumentException") (E := "java/lang/IllegalArgumentException") hown [] ⟨0, 9, 12, 13⟩ [] (htab.trans rfl) (fun z hz => absurd hz List.not_mem_nil) (by decide) (by decide) (hts _ (ct_tl kw_219)) (va_Nw.use (ct_bad_ot _ (by simp [ct_bad])) (hXw.1 _ (by simp [ct_bad]))) hce hcv hcl ?_
    refine W.widen (k := 1) (n := 6) (by omega) (by omega) ?_
    refine lv_astore_n (lv' := [(3, .ref q9), (0, .ref h0), (1, .int x), (2, .ref w0)]) hx hb d_L_about_12 rfl hl (by decide) rfl (fun ls hl => ?_)
    refine lv_iconst (v := (nI 1)) hx hb d_L_about_13 (by decide) ?_
    have hP9 := hP.sub [0, 1] rfl
    exact W.iret (v := (nI 1)) hx hb hr (fun tS ht hW => ⟨⟨(nI 1), (none, fw), rfl, Or.inl ⟨rfl, rfl, ⟨_, ⟨hE, rfl⟩, by rw [ct_ec, if_pos rfl]⟩⟩, by rw [ht]; exact hP9, va_K.moved hW.alike hK2, hD.sub [0, 1] (by decide) rfl⟩, hS.F ht⟩) hS.2.2 d_L_about_14
  · obtain ⟨hP1, -, hD1⟩ := hB
    rw [ht] at hP1
    obtain ⟨hP, hD⟩ := va_join (wr := [(w0, .inl (cJ, 1, .inr (.inl fw)))]) (w1 := [(h0, .inr (0, [.ref z0, .ref p0, .ref r0, .int (nI T), .ref k1, .int (nI K), .ref k2, .ref k3, .int (nI R), .ref k4, .int pl, .int sm]))]) hP hD [1] [0] rfl rfl (by decide) (by decide) hk1 hFc hP1 hD1
    generalize H1 = H at hP hS ⊢
    have hP : va_P (dC, dI) ct_cl [(w0, .inl (cJ, 1, .inr (.inl fw))), (h0, .inr (0, [.ref z0, .ref p0, .ref r0, .int (nI T), .ref k1, .int (nI K), .ref k2, .ref k3, .int (nI R), .ref k4, .int pl, .int sm]))] H := hP
    have hD : va_D A [(w0, .inl (cJ, 1, .inr (.inl fw))), (h0, .inr (0, [.ref z0, .ref p0, .ref r0, .int (nI T), .ref k1, .int (nI K), .ref k2, .ref k3, .int (nI R), .ref k4, .int pl, .int sm]))] := hD
    refine W.widen (k := 1) (n := 6) (by omega) (by omega) ?_
    refine lv_i2l (v := (a9).toInt64) hx hb d_L_about_7 rfl ?_
    refine va_last hx hb hK2 hP hD hS 0 1 rfl rfl (vp_in_nI (by omega) (by omega)) d_L_about_8 (fun H locs hP hD hS => ?_)
    rw [show (nI 0).toNatClampNeg = 0 from nI_clamp (by omega)] at hP hD
    have hP : va_P (dC, dI) ct_cl [(w0, .inl (cJ, 1, .inr (.inl (vp_updL fw 0 ((a9).toInt64))))), (h0, .inr (0, [.ref z0, .ref p0, .ref r0, .int (nI T), .ref k1, .int (nI K), .ref k2, .ref k3, .int (nI R), .ref k4, .int pl, .int sm]))] H := hP
    have hD : va_D A [(w0, .inl (cJ, 1, .inr (.inl (vp_updL fw 0 ((a9).toInt64))))), (h0, .inr (0, [.ref z0, .ref p0, .ref r0, .int (nI T), .ref k1, .int (nI K), .ref k2, .ref k3, .int (nI R), .ref k4, .int pl, .int sm]))] := hD
    refine lv_goto (tgt := 15) hx hb d_L_about_9 (by decide) ?_
    refine lv_iconst (v := (nI 0)) hx hb d_L_about_15 (by decide) ?_
    have hP9 := hP.sub [0, 1] rfl
    exact W.iret (v := (nI 0)) hx hb hr (fun tS ht hW => ⟨⟨(nI 0), (some u9, vp_updL fw 0 a9.toInt64), rfl, Or.inr ⟨rfl, u9, rfl, a9, rfl, hw9⟩, by rw [ht]; exact hP9, va_K.moved hW.alike hK2, hD.sub [0, 1] (by decide) rfl⟩, hS.F ht⟩) hS.2.2 d_L_about_16
set_option maxHeartbeats 4000000 in
set_option maxRecDepth 100000 in
theorem c_L_value (l : Launch) (hst : l.stackTraces = false) (dC : Nat → ClassId) (dI : Nat → Nat → Nat) (cI cJ : ClassId) (z1 : Nat) (sz : Nat → Nat) (p1 p2 p3 p4 p5 : Nat) (h0 z0 p0 r0 k1 k2 k3 k4 : Nat) (r1 r2 r3 r4 r5 r6 : Nat) (tab : Int32) (N M K R pf sf : Nat) (la ot : Nat → Nat) (fot fo hm fh fl fc fp fj f fe fi fa fb ft : Nat → Int32) (hK6 : K ≤ 6) (hsz : ∀ k, k < 8 → 0 < sz k ∧ sz k < 4) (hla : ∀ k, k < K → la k < 256) (hR : R < 256) (x : Int32) (hM : M = if ct_isn (ct_pr sz R.testBit 8) x = false ∨ sf = 1 ∨ K < 2 then N else ct_Nk N (fun k => ct_pl sz la K R ((ct_ls (ct_B (ct_jc sz la K R)) 64 (2 ^ K - 1)).getD k 0)) (K - 2)) (hN0 : 244 ≤ N) (hN6 : N ≤ 60000) (hot : ∀ o, o < K → fot o = nI (ot o) ∧ ot o < 8) (hfo : ∀ o, o < K → fo o = nI (la o)) (hp27 : ∀ o, o < K → ct_pr sz (la o).testBit 8 ≤ 27) (hR27 : (ct_pr sz R.testBit 8) ≤ 27) (h1 : f 243 = 1) (hk0 : ct_plk fh fc) (hpf : pf = 0 ∨ pf = 1) (hok : pf = 1 → 2 ≤ K ∧ ct_plok sz la K R fh fl fc fp fj) (hsf : sf = 0 ∨ sf = 1) (hsum : sf = 1 → ct_sumok sz la ot K R f) (w0 : Nat) (fw : Nat → Int64) (sz0 : Nat) : Met l y_L_value w_L_value ({ frames := 7, cells := (1 + (M - N)), slots := (6 + 2 * (M - N)), locals := 178 }) (va_Pc [.ref h0, .int x, .ref w0] (ct_rl (dC, dI) ct_cl [(w0, .inl (cJ, 1, .inr (.inl fw))), (h0, .inr (0, [.ref z0, .ref p0, .ref r0, .int tab, .ref k1, .int (nI K), .ref k2, .ref k3, .int (nI R), .ref k4, .int (nI pf), .int (nI sf)])), (k2, .inl (cI, 6, .inl fot)), (k3, .inl (cI, 6, .inl fo)), (k4, .inl (cI, 64, .inl hm)), (p0, .inr (2, [.ref z0, .ref p1, .ref p2, .ref p3, .ref p4, .ref p5])), (p1, .inl (cI, 64, .inl fh)), (p2, .inl (cI, 64, .inl fl)), (p3, .inl (cI, 64, .inl fc)), (p4, .inl (cI, 64, .inl fp)), (p5, .inl (cI, 5, .inl fj)), (r0, .inr (3, [.ref z0, .ref r1, .ref r2, .ref r3, .ref r4, .ref r5, .ref r6])), (r1, .inl (cI, N, .inl f)), (r2, .inl (cI, 8, .inl fe)), (r3, .inl (cI, 8, .inl fi)), (r4, .inl (cI, 8, .inl fa)), (r5, .inl (cI, 8, .inl fb)), (r6, .inl (cI, 8, .inl ft)), (z0, .inr (1, [.ref z1])), (z1, .inl (cI, 8, .inl (fun j => nI (sz j))))] [(cI, .int), (cJ, .long)] sz0)) (va_Qi (fun (r : Int32) (u : Option (Nat × Nat × (Nat → Int32) × (Nat → Int32) × (Nat → Int32) × (Nat → Int32) × (Nat → Int32) × (Nat → Int32) × (Nat → Int32) × (Nat → Int32) × (Nat → Int32) × (Nat → Int32) × (Nat → Int32) × (Nat → Int32)) × (Nat → Int64)) => (u.1 = none ∧ u.2 = fw ∧ ∃ E : String, (ct_isn (ct_pr sz R.testBit 8) x = false ∧ E = R_IOE) ∧ r = nI (ct_ec E R_IOE)) ∨ (r = nI 0 ∧ ∃ v9 : Nat × Nat × (Nat → Int32) × (Nat → Int32) × (Nat → Int32) × (Nat → Int32) × (Nat → Int32) × (Nat → Int32) × (Nat → Int32) × (Nat → Int32) × (Nat → Int32) × (Nat → Int32) × (Nat → Int32) × (Nat → Int32), u.1 = some v9 ∧ ∃ a9 : Int32, u.2 = vp_updL fw 0 a9.toInt64 ∧ (((v9.2.1 = 0 ∨ v9.2.1 = 1) ∧ (v9.2.1 = 1 → 2 ≤ K ∧ ct_plok sz la K R (v9.2.2.2.1) (v9.2.2.2.2.1) (v9.2.2.2.2.2.1) (v9.2.2.2.2.2.2.1) (v9.2.2.2.2.2.2.2.1)) ∧ ct_plk (v9.2.2.2.1) (v9.2.2.2.2.2.1)) ∧ (∀ i, i < 216 → (v9.2.2.2.2.2.2.2.2.1) i = f i) ∧ (v9.2.2.2.2.2.2.2.2.1) 243 = f 243 ∧ ct_sumok sz la ot K R (v9.2.2.2.2.2.2.2.2.1) ∧ ∃ i : Nat, i < (ct_pr sz R.testBit 8) ∧ x = nI i ∧ a9 = (v9.2.2.2.2.2.2.2.2.1) (216 + i)))) (fun (u : Option (Nat × Nat × (Nat → Int32) × (Nat → Int32) × (Nat → Int32) × (Nat → Int32) × (Nat → Int32) × (Nat → Int32) × (Nat → Int32) × (Nat → Int32) × (Nat → Int32) × (Nat → Int32) × (Nat → Int32) × (Nat → Int32)) × (Nat → Int64)) t => ct_at (dC, dI) ct_cl [(cI, .int), (cJ, .long)] (va_A [(w0, .inl (cJ, 1, .inr (.inl fw))), (h0, .inr (0, [.ref z0, .ref p0, .ref r0, .int tab, .ref k1, .int (nI K), .ref k2, .ref k3, .int (nI R), .ref k4, .int (nI pf), .int (nI sf)])), (k2, .inl (cI, 6, .inl fot)), (k3, .inl (cI, 6, .inl fo)), (k4, .inl (cI, 64, .inl hm)), (p0, .inr (2, [.ref z0, .ref p1, .ref p2, .ref p3, .ref p4, .ref p5])), (p1, .inl (cI, 64, .inl fh)), (p2, .inl (cI, 64, .inl fl)), (p3, .inl (cI, 64, .inl fc)), (p4, .inl (cI, 64, .inl fp)), (p5, .inl (cI, 5, .inl fj)), (r0, .inr (3, [.ref z0, .ref r1, .ref r2, .ref r3, .ref r4, .ref r5, .ref r6])), (r1, .inl (cI, N, .inl f)), (r2, .inl (cI, 8, .inl fe)), (r3, .inl (cI, 8, .inl fi)), (r4, .inl (cI, 8, .inl fa)), (r5, .inl (cI, 8, .inl fb)), (r6, .inl (cI, 8, .inl ft)), (z0, .inr (1, [.ref z1])), (z1, .inl (cI, 8, .inl (fun j => nI (sz j))))] sz0) ((w0, .inl (cJ, 1, .inr (.inl (u.2)))) :: (ct_wm (u.1) [(h0, .inr (0, [.ref z0, .ref p0, .ref r0, .int tab, .ref k1, .int (nI K), .ref k2, .ref k3, .int (nI R), .ref k4, .int (nI pf), .int (nI sf)])), (k2, .inl (cI, 6, .inl fot)), (k3, .inl (cI, 6, .inl fo)), (k4, .inl (cI, 64, .inl hm)), (p0, .inr (2, [.ref z0, .ref p1, .ref p2, .ref p3, .ref p4, .ref p5])), (p1, .inl (cI, 64, .inl fh)), (p2, .inl (cI, 64, .inl fl)), (p3, .inl (cI, 64, .inl fc)), (p4, .inl (cI, 64, .inl fp)), (p5, .inl (cI, 5, .inl fj)), (r0, .inr (3, [.ref z0, .ref r1, .ref r2, .ref r3, .ref r4, .ref r5, .ref r6])), (r1, .inl (cI, N, .inl f)), (r2, .inl (cI, 8, .inl fe)), (r3, .inl (cI, 8, .inl fi)), (r4, .inl (cI, 8, .inl fa)), (r5, .inl (cI, 8, .inl fb)), (r6, .inl (cI, 8, .inl ft)), (z0, .inr (1, [.ref z1])), (z1, .inl (cI, 8, .inl (fun j => nI (sz j))))] (fun (v9 : Nat × Nat × (Nat → Int32) × (Nat → Int32) × (Nat → Int32) × (Nat → Int32) × (Nat → Int32) × (Nat → Int32) × (Nat → Int32) × (Nat → Int32) × (Nat → Int32) × (Nat → Int32) × (Nat → Int32) × (Nat → Int32)) => [(h0, .inr (0, [.ref z0, .ref p0, .ref r0, .int tab, .ref k1, .int (nI K), .ref k2, .ref k3, .int (nI R), .ref k4, .int (nI (v9.2.1)), .int (nI 1)])), (k2, .inl (cI, 6, .inl fot)), (k3, .inl (cI, 6, .inl fo)), (k4, .inl (cI, 64, .inl (v9.2.2.1))), (p0, .inr (2, [.ref z0, .ref p1, .ref p2, .ref p3, .ref p4, .ref p5])), (p1, .inl (cI, 64, .inl (v9.2.2.2.1))), (p2, .inl (cI, 64, .inl (v9.2.2.2.2.1))), (p3, .inl (cI, 64, .inl (v9.2.2.2.2.2.1))), (p4, .inl (cI, 64, .inl (v9.2.2.2.2.2.2.1))), (p5, .inl (cI, 5, .inl (v9.2.2.2.2.2.2.2.1))), (r0, .inr (3, [.ref z0, .ref v9.1, .ref r2, .ref r3, .ref r4, .ref r5, .ref r6])), (v9.1, .inl (cI, M, .inl (v9.2.2.2.2.2.2.2.2.1))), (r2, .inl (cI, 8, .inl (v9.2.2.2.2.2.2.2.2.2.1))), (r3, .inl (cI, 8, .inl (v9.2.2.2.2.2.2.2.2.2.2.1))), (r4, .inl (cI, 8, .inl (v9.2.2.2.2.2.2.2.2.2.2.2.1))), (r5, .inl (cI, 8, .inl (v9.2.2.2.2.2.2.2.2.2.2.2.2.1))), (r6, .inl (cI, 8, .inl (v9.2.2.2.2.2.2.2.2.2.2.2.2.2))), (z0, .inr (1, [.ref z1])), (z1, .inl (cI, 8, .inl (fun j => nI (sz j))))]))) t) (va_A [(w0, .inl (cJ, 1, .inr (.inl fw))), (h0, .inr (0, [.ref z0, .ref p0, .ref r0, .int tab, .ref k1, .int (nI K), .ref k2, .ref k3, .int (nI R), .ref k4, .int (nI pf), .int (nI sf)])), (k2, .inl (cI, 6, .inl fot)), (k3, .inl (cI, 6, .inl fo)), (k4, .inl (cI, 64, .inl hm)), (p0, .inr (2, [.ref z0, .ref p1, .ref p2, .ref p3, .ref p4, .ref p5])), (p1, .inl (cI, 64, .inl fh)), (p2, .inl (cI, 64, .inl fl)), (p3, .inl (cI, 64, .inl fc)), (p4, .inl (cI, 64, .inl fp)), (p5, .inl (cI, 5, .inl fj)), (r0, .inr (3, [.ref z0, .ref r1, .ref r2, .ref r3, .ref r4, .ref r5, .ref r6])), (r1, .inl (cI, N, .inl f)), (r2, .inl (cI, 8, .inl fe)), (r3, .inl (cI, 8, .inl fi)), (r4, .inl (cI, 8, .inl fa)), (r5, .inl (cI, 8, .inl fb)), (r6, .inl (cI, 8, .inl ft)), (z0, .inr (1, [.ref z1])), (z1, .inl (cI, 8, .inl (fun j => nI (sz j))))] sz0)) (1 + (M - N)) (6 + 2 * (M - N)) (va_A [(w0, .inl (cJ, 1, .inr (.inl fw))), (h0, .inr (0, [.ref z0, .ref p0, .ref r0, .int tab, .ref k1, .int (nI K), .ref k2, .ref k3, .int (nI R), .ref k4, .int (nI pf), .int (nI sf)])), (k2, .inl (cI, 6, .inl fot)), (k3, .inl (cI, 6, .inl fo)), (k4, .inl (cI, 64, .inl hm)), (p0, .inr (2, [.ref z0, .ref p1, .ref p2, .ref p3, .ref p4, .ref p5])), (p1, .inl (cI, 64, .inl fh)), (p2, .inl (cI, 64, .inl fl)), (p3, .inl (cI, 64, .inl fc)), (p4, .inl (cI, 64, .inl fp)), (p5, .inl (cI, 5, .inl fj)), (r0, .inr (3, [.ref z0, .ref r1, .ref r2, .ref r3, .ref r4, .ref r5, .ref r6])), (r1, .inl (cI, N, .inl f)), (r2, .inl (cI, 8, .inl fe)), (r3, .inl (cI, 8, .inl fi)), (r4, .inl (cI, 8, .inl fa)), (r5, .inl (cI, 8, .inl fb)), (r6, .inl (cI, 8, .inl ft)), (z0, .inr (1, [.ref z1])), (z1, .inl (cI, 8, .inl (fun j => nI (sz j))))] sz0) := by
  refine va_MetW (cc := b_L_value) (maxL := 4) (ret := (some .int)) (hh := [(0, 9, 12, 27)]) (by decide) rfl ?_
  intro p e s m args below meth c s₁ Bd hml hv
  obtain ⟨hargs, ⟨⟨hsz9, hP, hK2, hD0⟩, hXw⟩, hNw⟩ := hv
  have hK : va_K (dC, dI) ct_cl [(cI, .int)] s := hK2.sub [0] rfl
  have hx := Bd.exec
  have hb := Bd.bytes
  have hr := Bd.returns
  have hts : ∀ w ∈ k_L_value :: ct_tb, w.before args s = true := atoms_spec (ws := w_L_value) Bd.pre
  have htab : c.exceptionTable.toList = tableOf [(0, 9, 12, 27)] := vx_table (x := y_L_value) Bd (hts _ List.mem_cons_self)
  have hown : s.vm.findClass R_L = some m.cls := findClass_of_methodNamed Bd.named
  have hlocks := Bd.notSynchronized
  subst hsz9
  have hD := hD0.self (sz := s.heap.size)
  generalize hAe : va_A [(w0, .inl (cJ, 1, .inr (.inl fw))), (h0, .inr (0, [.ref z0, .ref p0, .ref r0, .int tab, .ref k1, .int (nI K), .ref k2, .ref k3, .int (nI R), .ref k4, .int (nI pf), .int (nI sf)])), (k2, .inl (cI, 6, .inl fot)), (k3, .inl (cI, 6, .inl fo)), (k4, .inl (cI, 64, .inl hm)), (p0, .inr (2, [.ref z0, .ref p1, .ref p2, .ref p3, .ref p4, .ref p5])), (p1, .inl (cI, 64, .inl fh)), (p2, .inl (cI, 64, .inl fl)), (p3, .inl (cI, 64, .inl fc)), (p4, .inl (cI, 64, .inl fp)), (p5, .inl (cI, 5, .inl fj)), (r0, .inr (3, [.ref z0, .ref r1, .ref r2, .ref r3, .ref r4, .ref r5, .ref r6])), (r1, .inl (cI, N, .inl f)), (r2, .inl (cI, 8, .inl fe)), (r3, .inl (cI, 8, .inl fi)), (r4, .inl (cI, 8, .inl fa)), (r5, .inl (cI, 8, .inl fb)), (r6, .inl (cI, 8, .inl ft)), (z0, .inr (1, [.ref z1])), (z1, .inl (cI, 8, .inl (fun j => nI (sz j))))] s.heap.size = A at hD hXw ⊢
  have hA : ∀ q : Nat, s.heap.size ≤ q → A q := fun q h => by rw [← hAe]; exact Or.inr h
  have hS : va_S A s.heap s.heap [] := va_S.rf
  have hl := lv_entry ([.ref h0, .int x, .ref w0]) (n := 4) (Nat.le_of_ble_eq_true rfl)
  rw [show entryFrame m args 4 = entryFrame m (([.ref h0, .int x, .ref w0] : List Value)).toArray 4 by rw [hargs], lg_entry_eq]
  generalize (lg_sl ([.ref h0, .int x, .ref w0]) ++ List.replicate (4 - (lg_sl ([.ref h0, .int x, .ref w0])).length) Slot.unset).toArray = ls at hl ⊢
  have hl : lv_has ls 4 [(0, .ref h0), (1, .int x), (2, .ref w0)] := hl
  refine lv_aload_n hx hb d_L_value_0 rfl (lv_at hl 2 rfl) ?_
  refine lv_iconst (v := (nI 0)) hx hb d_L_value_1 (by decide) ?_
  refine lv_aload_n hx hb d_L_value_2 rfl (lv_at hl 0 rfl) ?_
  refine lv_iload_n hx hb d_L_value_3 rfl (lv_at hl 1 rfl) ?_
  have hPc := hP.sub (ws' := [(h0, .inr (0, [.ref z0, .ref p0, .ref r0, .int tab, .ref k1, .int (nI K), .ref k2, .ref k3, .int (nI R), .ref k4, .int (nI pf), .int (nI sf)])), (k2, .inl (cI, 6, .inl fot)), (k3, .inl (cI, 6, .inl fo)), (k4, .inl (cI, 64, .inl hm)), (p0, .inr (2, [.ref z0, .ref p1, .ref p2, .ref p3, .ref p4, .ref p5])), (p1, .inl (cI, 64, .inl fh)), (p2, .inl (cI, 64, .inl fl)), (p3, .inl (cI, 64, .inl fc)), (p4, .inl (cI, 64, .inl fp)), (p5, .inl (cI, 5, .inl fj)), (r0, .inr (3, [.ref z0, .ref r1, .ref r2, .ref r3, .ref r4, .ref r5, .ref r6])), (r1, .inl (cI, N, .inl f)), (r2, .inl (cI, 8, .inl fe)), (r3, .inl (cI, 8, .inl fi)), (r4, .inl (cI, 8, .inl fa)), (r5, .inl (cI, 8, .inl fb)), (r6, .inl (cI, 8, .inl ft)), (z0, .inr (1, [.ref z1])), (z1, .inl (cI, 8, .inl (fun j => nI (sz j))))]) [1, 2, 3, 4, 5, 6, 7, 8, 9, 10, 11, 12, 13, 14, 15, 16, 17, 18, 19] rfl
  have hDc := hD.sub (ws' := [(h0, .inr (0, [.ref z0, .ref p0, .ref r0, .int tab, .ref k1, .int (nI K), .ref k2, .ref k3, .int (nI R), .ref k4, .int (nI pf), .int (nI sf)])), (k2, .inl (cI, 6, .inl fot)), (k3, .inl (cI, 6, .inl fo)), (k4, .inl (cI, 64, .inl hm)), (p0, .inr (2, [.ref z0, .ref p1, .ref p2, .ref p3, .ref p4, .ref p5])), (p1, .inl (cI, 64, .inl fh)), (p2, .inl (cI, 64, .inl fl)), (p3, .inl (cI, 64, .inl fc)), (p4, .inl (cI, 64, .inl fp)), (p5, .inl (cI, 5, .inl fj)), (r0, .inr (3, [.ref z0, .ref r1, .ref r2, .ref r3, .ref r4, .ref r5, .ref r6])), (r1, .inl (cI, N, .inl f)), (r2, .inl (cI, 8, .inl fe)), (r3, .inl (cI, 8, .inl fi)), (r4, .inl (cI, 8, .inl fa)), (r5, .inl (cI, 8, .inl fb)), (r6, .inl (cI, 8, .inl ft)), (z0, .inr (1, [.ref z1])), (z1, .inl (cI, 8, .inl (fun j => nI (sz j))))]) [1, 2, 3, 4, 5, 6, 7, 8, 9, 10, 11, 12, 13, 14, 15, 16, 17, 18, 19] (by decide) rfl
  have hFc := va_free (wc := [(h0, .inr (0, [.ref z0, .ref p0, .ref r0, .int tab, .ref k1, .int (nI K), .ref k2, .ref k3, .int (nI R), .ref k4, .int (nI pf), .int (nI sf)])), (k2, .inl (cI, 6, .inl fot)), (k3, .inl (cI, 6, .inl fo)), (k4, .inl (cI, 64, .inl hm)), (p0, .inr (2, [.ref z0, .ref p1, .ref p2, .ref p3, .ref p4, .ref p5])), (p1, .inl (cI, 64, .inl fh)), (p2, .inl (cI, 64, .inl fl)), (p3, .inl (cI, 64, .inl fc)), (p4, .inl (cI, 64, .inl fp)), (p5, .inl (cI, 5, .inl fj)), (r0, .inr (3, [.ref z0, .ref r1, .ref r2, .ref r3, .ref r4, .ref r5, .ref r6])), (r1, .inl (cI, N, .inl f)), (r2, .inl (cI, 8, .inl fe)), (r3, .inl (cI, 8, .inl fi)), (r4, .inl (cI, 8, .inl fa)), (r5, .inl (cI, 8, .inl fb)), (r6, .inl (cI, 8, .inl ft)), (z0, .inr (1, [.ref z1])), (z1, .inl (cI, 8, .inl (fun j => nI (sz j))))]) hD hS hA [1, 2, 3, 4, 5, 6, 7, 8, 9, 10, 11, 12, 13, 14, 15, 16, 17, 18, 19] rfl
  refine vx_calli (vx_runV (As := [.int x]) (rest := [.int (nI 0), .ref w0]) ⟨hx, hb, hml, hown, hts⟩ (c_H_value l hst dC dI cI z1 sz p1 p2 p3 p4 p5 h0 z0 p0 r0 k1 k2 k3 k4 r1 r2 r3 r4 r5 r6 tab N M K R pf sf la ot fot fo hm fh fl fc fp fj f fe fi fa fb ft hK6 hsz hla hR x hM hN0 hN6 hot hfo hp27 hR27 h1 hk0 hpf hok hsf hsum s.heap.size) (cwV 1 hts (ct_giV (fun w h9 => ct_tl h9) kw_441 kw_442 kw_443 kw_26 kw_444) rfl rfl rfl (by decide +kernel) ⟨Nat.le_of_ble_eq_true rfl, Nat.le_of_ble_eq_true rfl⟩) ⟨ct_rx_blind, va_recv hK hP (ci := 0) (q0 := 1) rfl rfl, ct_rx_pre hPc hK hDc hXw hFc⟩ rfl rfl hl.1 rfl (lv_room (Nat.le_of_ble_eq_true rfl)) d_L_value_4 ⟨by show 0 + ((1 + (M - N))) ≤ (1 + (M - N)); omega, by show 0 + ((6 + 2 * (M - N))) ≤ (6 + 2 * (M - N)); omega⟩) hS (fun q _ h9 => hFc q h9) hFc (fun q _ h9 => hFc q h9) (fun E ce q9 u9 tS H1 locs ht hal hpx hBX hz1 hk1 hS hce hcv hcl => ?_) (fun a9 u9 tS H1 locs ht hal hw9 hB hz1 hk1 hS => ?_)
  · obtain ⟨hE, hP1, -, hD1⟩ := hBX
    rw [ht] at hP1
    obtain ⟨hP, hD⟩ := va_join (wr := [(w0, .inl (cJ, 1, .inr (.inl fw)))]) (w1 := [(h0, .inr (0, [.ref z0, .ref p0, .ref r0, .int tab, .ref k1, .int (nI K), .ref k2, .ref k3, .int (nI R), .ref k4, .int (nI pf), .int (nI sf)])), (k2, .inl (cI, 6, .inl fot)), (k3, .inl (cI, 6, .inl fo)), (k4, .inl (cI, 64, .inl hm)), (p0, .inr (2, [.ref z0, .ref p1, .ref p2, .ref p3, .ref p4, .ref p5])), (p1, .inl (cI, 64, .inl fh)), (p2, .inl (cI, 64, .inl fl)), (p3, .inl (cI, 64, .inl fc)), (p4, .inl (cI, 64, .inl fp)), (p5, .inl (cI, 5, .inl fj)), (r0, .inr (3, [.ref z0, .ref r1, .ref r2, .ref r3, .ref r4, .ref r5, .ref r6])), (r1, .inl (cI, N, .inl f)), (r2, .inl (cI, 8, .inl fe)), (r3, .inl (cI, 8, .inl fi)), (r4, .inl (cI, 8, .inl fa)), (r5, .inl (cI, 8, .inl fb)), (r6, .inl (cI, 8, .inl ft)), (z0, .inr (1, [.ref z1])), (z1, .inl (cI, 8, .inl (fun j => nI (sz j))))]) hP hD [1, 2, 3, 4, 5, 6, 7, 8, 9, 10, 11, 12, 13, 14, 15, 16, 17, 18, 19] [0] rfl rfl (by decide) (by decide) hk1 hFc hP1 hD1
    generalize H1 = H at hP hS hce ⊢
    have hP : va_P (dC, dI) ct_cl [(w0, .inl (cJ, 1, .inr (.inl fw))), (h0, .inr (0, [.ref z0, .ref p0, .ref r0, .int tab, .ref k1, .int (nI K), .ref k2, .ref k3, .int (nI R), .ref k4, .int (nI pf), .int (nI sf)])), (k2, .inl (cI, 6, .inl fot)), (k3, .inl (cI, 6, .inl fo)), (k4, .inl (cI, 64, .inl hm)), (p0, .inr (2, [.ref z0, .ref p1, .ref p2, .ref p3, .ref p4, .ref p5])), (p1, .inl (cI, 64, .inl fh)), (p2, .inl (cI, 64, .inl fl)), (p3, .inl (cI, 64, .inl fc)), (p4, .inl (cI, 64, .inl fp)), (p5, .inl (cI, 5, .inl fj)), (r0, .inr (3, [.ref z0, .ref r1, .ref r2, .ref r3, .ref r4, .ref r5, .ref r6])), (r1, .inl (cI, N, .inl f)), (r2, .inl (cI, 8, .inl fe)), (r3, .inl (cI, 8, .inl fi)), (r4, .inl (cI, 8, .inl fa)), (r5, .inl (cI, 8, .inl fb)), (r6, .inl (cI, 8, .inl ft)), (z0, .inr (1, [.ref z1])), (z1, .inl (cI, 8, .inl (fun j => nI (sz j))))] H := hP
    have hD : va_D A [(w0, .inl (cJ, 1, .inr (.inl fw))), (h0, .inr (0, [.ref z0, .ref p0, .ref r0, .int tab, .ref k1, .int (nI K), .ref k2, .ref k3, .int (nI R), .ref k4, .int (nI pf), .int (nI sf)])), (k2, .inl (cI, 6, .inl fot)), (k3, .inl (cI, 6, .inl fo)), (k4, .inl (cI, 64, .inl hm)), (p0, .inr (2, [.ref z0, .ref p1, .ref p2, .ref p3, .ref p4, .ref p5])), (p1, .inl (cI, 64, .inl fh)), (p2, .inl (cI, 64, .inl fl)), (p3, .inl (cI, 64, .inl fc)), (p4, .inl (cI, 64, .inl fp)), (p5, .inl (cI, 5, .inl fj)), (r0, .inr (3, [.ref z0, .ref r1, .ref r2, .ref r3, .ref r4, .ref r5, .ref r6])), (r1, .inl (cI, N, .inl f)), (r2, .inl (cI, 8, .inl fe)), (r3, .inl (cI, 8, .inl fi)), (r4, .inl (cI, 8, .inl fa)), (r5, .inl (cI, 8, .inl fb)), (r6, .inl (cI, 8, .inl ft)), (z0, .inr (1, [.ref z1])), (z1, .inl (cI, 8, .inl (fun j => nI (sz j))))] := hD
    obtain ⟨hE, rfl⟩ := hE
    refine vx_catch (own := R_L) (name := "java/lang/IndexOutOfBoundsException") (E := "java/lang/IndexOutOfBoundsException") hown [] ⟨0, 9, 12, 27⟩ [] (htab.trans rfl) (fun z hz => absurd hz List.not_mem_nil) (by decide) (by decide) (hts _ (ct_tl kw_359)) (va_Nw.use (ct_bad_ot _ (by simp [ct_bad])) (hXw.1 _ (by simp [ct_bad]))) hce hcv hcl ?_
    refine W.widen (k := (1 + (M - N))) (n := (6 + 2 * (M - N))) (by omega) (by omega) ?_
    refine lv_astore_n (lv' := [(3, .ref q9), (0, .ref h0), (1, .int x), (2, .ref w0)]) hx hb d_L_value_12 rfl hl (by decide) rfl (fun ls hl => ?_)
    refine lv_iconst (v := (nI 1)) hx hb d_L_value_13 (by decide) ?_
    have hP9 := hP.sub [0, 1, 2, 3, 4, 5, 6, 7, 8, 9, 10, 11, 12, 13, 14, 15, 16, 17, 18, 19] rfl
    exact W.iret (v := (nI 1)) hx hb hr (fun tS ht hW => ⟨⟨(nI 1), (none, fw), rfl, Or.inl ⟨rfl, rfl, ⟨_, ⟨hE, rfl⟩, by rw [ct_ec, if_pos rfl]⟩⟩, by rw [ht]; exact hP9, va_K.moved hW.alike hK2, hD.sub [0, 1, 2, 3, 4, 5, 6, 7, 8, 9, 10, 11, 12, 13, 14, 15, 16, 17, 18, 19] (by decide) rfl⟩, hS.F ht⟩) hS.2.2 d_L_value_14
  · obtain ⟨hP1, -, hD1⟩ := hB
    rw [ht] at hP1
    obtain ⟨hP, hD⟩ := va_join (wr := [(w0, .inl (cJ, 1, .inr (.inl fw)))]) (w1 := [(h0, .inr (0, [.ref z0, .ref p0, .ref r0, .int tab, .ref k1, .int (nI K), .ref k2, .ref k3, .int (nI R), .ref k4, .int (nI (u9.2.1)), .int (nI 1)])), (k2, .inl (cI, 6, .inl fot)), (k3, .inl (cI, 6, .inl fo)), (k4, .inl (cI, 64, .inl (u9.2.2.1))), (p0, .inr (2, [.ref z0, .ref p1, .ref p2, .ref p3, .ref p4, .ref p5])), (p1, .inl (cI, 64, .inl (u9.2.2.2.1))), (p2, .inl (cI, 64, .inl (u9.2.2.2.2.1))), (p3, .inl (cI, 64, .inl (u9.2.2.2.2.2.1))), (p4, .inl (cI, 64, .inl (u9.2.2.2.2.2.2.1))), (p5, .inl (cI, 5, .inl (u9.2.2.2.2.2.2.2.1))), (r0, .inr (3, [.ref z0, .ref u9.1, .ref r2, .ref r3, .ref r4, .ref r5, .ref r6])), (u9.1, .inl (cI, M, .inl (u9.2.2.2.2.2.2.2.2.1))), (r2, .inl (cI, 8, .inl (u9.2.2.2.2.2.2.2.2.2.1))), (r3, .inl (cI, 8, .inl (u9.2.2.2.2.2.2.2.2.2.2.1))), (r4, .inl (cI, 8, .inl (u9.2.2.2.2.2.2.2.2.2.2.2.1))), (r5, .inl (cI, 8, .inl (u9.2.2.2.2.2.2.2.2.2.2.2.2.1))), (r6, .inl (cI, 8, .inl (u9.2.2.2.2.2.2.2.2.2.2.2.2.2))), (z0, .inr (1, [.ref z1])), (z1, .inl (cI, 8, .inl (fun j => nI (sz j))))]) hP hD [1, 2, 3, 4, 5, 6, 7, 8, 9, 10, 11, 12, 13, 14, 15, 16, 17, 18, 19] [0] rfl rfl (by decide) (by decide) hk1 hFc hP1 hD1
    generalize H1 = H at hP hS ⊢
    have hP : va_P (dC, dI) ct_cl [(w0, .inl (cJ, 1, .inr (.inl fw))), (h0, .inr (0, [.ref z0, .ref p0, .ref r0, .int tab, .ref k1, .int (nI K), .ref k2, .ref k3, .int (nI R), .ref k4, .int (nI (u9.2.1)), .int (nI 1)])), (k2, .inl (cI, 6, .inl fot)), (k3, .inl (cI, 6, .inl fo)), (k4, .inl (cI, 64, .inl (u9.2.2.1))), (p0, .inr (2, [.ref z0, .ref p1, .ref p2, .ref p3, .ref p4, .ref p5])), (p1, .inl (cI, 64, .inl (u9.2.2.2.1))), (p2, .inl (cI, 64, .inl (u9.2.2.2.2.1))), (p3, .inl (cI, 64, .inl (u9.2.2.2.2.2.1))), (p4, .inl (cI, 64, .inl (u9.2.2.2.2.2.2.1))), (p5, .inl (cI, 5, .inl (u9.2.2.2.2.2.2.2.1))), (r0, .inr (3, [.ref z0, .ref u9.1, .ref r2, .ref r3, .ref r4, .ref r5, .ref r6])), (u9.1, .inl (cI, M, .inl (u9.2.2.2.2.2.2.2.2.1))), (r2, .inl (cI, 8, .inl (u9.2.2.2.2.2.2.2.2.2.1))), (r3, .inl (cI, 8, .inl (u9.2.2.2.2.2.2.2.2.2.2.1))), (r4, .inl (cI, 8, .inl (u9.2.2.2.2.2.2.2.2.2.2.2.1))), (r5, .inl (cI, 8, .inl (u9.2.2.2.2.2.2.2.2.2.2.2.2.1))), (r6, .inl (cI, 8, .inl (u9.2.2.2.2.2.2.2.2.2.2.2.2.2))), (z0, .inr (1, [.ref z1])), (z1, .inl (cI, 8, .inl (fun j => nI (sz j))))] H := hP
    have hD : va_D A [(w0, .inl (cJ, 1, .inr (.inl fw))), (h0, .inr (0, [.ref z0, .ref p0, .ref r0, .int tab, .ref k1, .int (nI K), .ref k2, .ref k3, .int (nI R), .ref k4, .int (nI (u9.2.1)), .int (nI 1)])), (k2, .inl (cI, 6, .inl fot)), (k3, .inl (cI, 6, .inl fo)), (k4, .inl (cI, 64, .inl (u9.2.2.1))), (p0, .inr (2, [.ref z0, .ref p1, .ref p2, .ref p3, .ref p4, .ref p5])), (p1, .inl (cI, 64, .inl (u9.2.2.2.1))), (p2, .inl (cI, 64, .inl (u9.2.2.2.2.1))), (p3, .inl (cI, 64, .inl (u9.2.2.2.2.2.1))), (p4, .inl (cI, 64, .inl (u9.2.2.2.2.2.2.1))), (p5, .inl (cI, 5, .inl (u9.2.2.2.2.2.2.2.1))), (r0, .inr (3, [.ref z0, .ref u9.1, .ref r2, .ref r3, .ref r4, .ref r5, .ref r6])), (u9.1, .inl (cI, M, .inl (u9.2.2.2.2.2.2.2.2.1))), (r2, .inl (cI, 8, .inl (u9.2.2.2.2.2.2.2.2.2.1))), (r3, .inl (cI, 8, .inl (u9.2.2.2.2.2.2.2.2.2.2.1))), (r4, .inl (cI, 8, .inl (u9.2.2.2.2.2.2.2.2.2.2.2.1))), (r5, .inl (cI, 8, .inl (u9.2.2.2.2.2.2.2.2.2.2.2.2.1))), (r6, .inl (cI, 8, .inl (u9.2.2.2.2.2.2.2.2.2.2.2.2.2))), (z0, .inr (1, [.ref z1])), (z1, .inl (cI, 8, .inl (fun j => nI (sz j))))] := hD
    refine W.widen (k := (1 + (M - N))) (n := (6 + 2 * (M - N))) (by omega) (by omega) ?_
    refine lv_i2l (v := (a9).toInt64) hx hb d_L_value_7 rfl ?_
    refine va_last hx hb hK2 hP hD hS 0 1 rfl rfl (vp_in_nI (by omega) (by omega)) d_L_value_8 (fun H locs hP hD hS => ?_)
    rw [show (nI 0).toNatClampNeg = 0 from nI_clamp (by omega)] at hP hD
    have hP : va_P (dC, dI) ct_cl [(w0, .inl (cJ, 1, .inr (.inl (vp_updL fw 0 ((a9).toInt64))))), (h0, .inr (0, [.ref z0, .ref p0, .ref r0, .int tab, .ref k1, .int (nI K), .ref k2, .ref k3, .int (nI R), .ref k4, .int (nI (u9.2.1)), .int (nI 1)])), (k2, .inl (cI, 6, .inl fot)), (k3, .inl (cI, 6, .inl fo)), (k4, .inl (cI, 64, .inl (u9.2.2.1))), (p0, .inr (2, [.ref z0, .ref p1, .ref p2, .ref p3, .ref p4, .ref p5])), (p1, .inl (cI, 64, .inl (u9.2.2.2.1))), (p2, .inl (cI, 64, .inl (u9.2.2.2.2.1))), (p3, .inl (cI, 64, .inl (u9.2.2.2.2.2.1))), (p4, .inl (cI, 64, .inl (u9.2.2.2.2.2.2.1))), (p5, .inl (cI, 5, .inl (u9.2.2.2.2.2.2.2.1))), (r0, .inr (3, [.ref z0, .ref u9.1, .ref r2, .ref r3, .ref r4, .ref r5, .ref r6])), (u9.1, .inl (cI, M, .inl (u9.2.2.2.2.2.2.2.2.1))), (r2, .inl (cI, 8, .inl (u9.2.2.2.2.2.2.2.2.2.1))), (r3, .inl (cI, 8, .inl (u9.2.2.2.2.2.2.2.2.2.2.1))), (r4, .inl (cI, 8, .inl (u9.2.2.2.2.2.2.2.2.2.2.2.1))), (r5, .inl (cI, 8, .inl (u9.2.2.2.2.2.2.2.2.2.2.2.2.1))), (r6, .inl (cI, 8, .inl (u9.2.2.2.2.2.2.2.2.2.2.2.2.2))), (z0, .inr (1, [.ref z1])), (z1, .inl (cI, 8, .inl (fun j => nI (sz j))))] H := hP
    have hD : va_D A [(w0, .inl (cJ, 1, .inr (.inl (vp_updL fw 0 ((a9).toInt64))))), (h0, .inr (0, [.ref z0, .ref p0, .ref r0, .int tab, .ref k1, .int (nI K), .ref k2, .ref k3, .int (nI R), .ref k4, .int (nI (u9.2.1)), .int (nI 1)])), (k2, .inl (cI, 6, .inl fot)), (k3, .inl (cI, 6, .inl fo)), (k4, .inl (cI, 64, .inl (u9.2.2.1))), (p0, .inr (2, [.ref z0, .ref p1, .ref p2, .ref p3, .ref p4, .ref p5])), (p1, .inl (cI, 64, .inl (u9.2.2.2.1))), (p2, .inl (cI, 64, .inl (u9.2.2.2.2.1))), (p3, .inl (cI, 64, .inl (u9.2.2.2.2.2.1))), (p4, .inl (cI, 64, .inl (u9.2.2.2.2.2.2.1))), (p5, .inl (cI, 5, .inl (u9.2.2.2.2.2.2.2.1))), (r0, .inr (3, [.ref z0, .ref u9.1, .ref r2, .ref r3, .ref r4, .ref r5, .ref r6])), (u9.1, .inl (cI, M, .inl (u9.2.2.2.2.2.2.2.2.1))), (r2, .inl (cI, 8, .inl (u9.2.2.2.2.2.2.2.2.2.1))), (r3, .inl (cI, 8, .inl (u9.2.2.2.2.2.2.2.2.2.2.1))), (r4, .inl (cI, 8, .inl (u9.2.2.2.2.2.2.2.2.2.2.2.1))), (r5, .inl (cI, 8, .inl (u9.2.2.2.2.2.2.2.2.2.2.2.2.1))), (r6, .inl (cI, 8, .inl (u9.2.2.2.2.2.2.2.2.2.2.2.2.2))), (z0, .inr (1, [.ref z1])), (z1, .inl (cI, 8, .inl (fun j => nI (sz j))))] := hD
    refine lv_goto (tgt := 15) hx hb d_L_value_9 (by decide) ?_
    refine lv_iconst (v := (nI 0)) hx hb d_L_value_15 (by decide) ?_
    have hP9 := hP.sub [0, 1, 2, 3, 4, 5, 6, 7, 8, 9, 10, 11, 12, 13, 14, 15, 16, 17, 18, 19] rfl
    exact W.iret (v := (nI 0)) hx hb hr (fun tS ht hW => ⟨⟨(nI 0), (some u9, vp_updL fw 0 a9.toInt64), rfl, Or.inr ⟨rfl, u9, rfl, a9, rfl, hw9⟩, by rw [ht]; exact hP9, va_K.moved hW.alike hK2, hD.sub [0, 1, 2, 3, 4, 5, 6, 7, 8, 9, 10, 11, 12, 13, 14, 15, 16, 17, 18, 19] (by decide) rfl⟩, hS.F ht⟩) hS.2.2 d_L_value_16
