theorem d_I_bitCount_0 : decode b_I_bitCount 0 = .ok (.iload_n 0, 1) := by decide +kernel
theorem d_I_bitCount_1 : decode b_I_bitCount 1 = .ok (.iload_n 0, 1) := by decide +kernel
theorem d_I_bitCount_2 : decode b_I_bitCount 2 = .ok (.iconst 1, 1) := by decide +kernel
theorem d_I_bitCount_3 : decode b_I_bitCount 3 = .ok (.iushr, 1) := by decide +kernel
theorem d_I_bitCount_4 : decode b_I_bitCount 4 = .ok (.ldc_w 265, 3) := by decide +kernel
theorem d_I_bitCount_7 : decode b_I_bitCount 7 = .ok (.iand, 1) := by decide +kernel
theorem d_I_bitCount_8 : decode b_I_bitCount 8 = .ok (.isub, 1) := by decide +kernel
theorem d_I_bitCount_9 : decode b_I_bitCount 9 = .ok (.istore_n 0, 1) := by decide +kernel
theorem d_I_bitCount_10 : decode b_I_bitCount 10 = .ok (.iload_n 0, 1) := by decide +kernel
theorem d_I_bitCount_11 : decode b_I_bitCount 11 = .ok (.ldc_w 266, 3) := by decide +kernel
theorem d_I_bitCount_14 : decode b_I_bitCount 14 = .ok (.iand, 1) := by decide +kernel
theorem d_I_bitCount_15 : decode b_I_bitCount 15 = .ok (.iload_n 0, 1) := by decide +kernel
theorem d_I_bitCount_16 : decode b_I_bitCount 16 = .ok (.iconst 2, 1) := by decide +kernel
theorem d_I_bitCount_17 : decode b_I_bitCount 17 = .ok (.iushr, 1) := by decide +kernel
theorem d_I_bitCount_18 : decode b_I_bitCount 18 = .ok (.ldc_w 266, 3) := by decide +kernel
theorem d_I_bitCount_21 : decode b_I_bitCount 21 = .ok (.iand, 1) := by decide +kernel
theorem d_I_bitCount_22 : decode b_I_bitCount 22 = .ok (.iadd, 1) := by decide +kernel
theorem d_I_bitCount_23 : decode b_I_bitCount 23 = .ok (.istore_n 0, 1) := by decide +kernel
theorem d_I_bitCount_24 : decode b_I_bitCount 24 = .ok (.iload_n 0, 1) := by decide +kernel
theorem d_I_bitCount_25 : decode b_I_bitCount 25 = .ok (.iload_n 0, 1) := by decide +kernel
theorem d_I_bitCount_26 : decode b_I_bitCount 26 = .ok (.iconst 4, 1) := by decide +kernel
theorem d_I_bitCount_27 : decode b_I_bitCount 27 = .ok (.iushr, 1) := by decide +kernel
theorem d_I_bitCount_28 : decode b_I_bitCount 28 = .ok (.iadd, 1) := by decide +kernel
theorem d_I_bitCount_29 : decode b_I_bitCount 29 = .ok (.ldc_w 267, 3) := by decide +kernel
theorem d_I_bitCount_32 : decode b_I_bitCount 32 = .ok (.iand, 1) := by decide +kernel
theorem d_I_bitCount_33 : decode b_I_bitCount 33 = .ok (.istore_n 0, 1) := by decide +kernel
theorem d_I_bitCount_34 : decode b_I_bitCount 34 = .ok (.iload_n 0, 1) := by decide +kernel
theorem d_I_bitCount_35 : decode b_I_bitCount 35 = .ok (.iload_n 0, 1) := by decide +kernel
theorem d_I_bitCount_36 : decode b_I_bitCount 36 = .ok (.bipush 8, 2) := by decide +kernel
theorem d_I_bitCount_38 : decode b_I_bitCount 38 = .ok (.iushr, 1) := by decide +kernel
theorem d_I_bitCount_39 : decode b_I_bitCount 39 = .ok (.iadd, 1) := by decide +kernel
theorem d_I_bitCount_40 : decode b_I_bitCount 40 = .ok (.istore_n 0, 1) := by decide +kernel
theorem d_I_bitCount_41 : decode b_I_bitCount 41 = .ok (.iload_n 0, 1) := by decide +kernel
theorem d_I_bitCount_42 : decode b_I_bitCount 42 = .ok (.iload_n 0, 1) := by decide +kernel
theorem d_I_bitCount_43 : decode b_I_bitCount 43 = .ok (.bipush 16, 2) := by decide +kernel
theorem d_I_bitCount_45 : decode b_I_bitCount 45 = .ok (.iushr, 1) := by decide +kernel
theorem d_I_bitCount_46 : decode b_I_bitCount 46 = .ok (.iadd, 1) := by decide +kernel
theorem d_I_bitCount_47 : decode b_I_bitCount 47 = .ok (.istore_n 0, 1) := by decide +kernel
theorem d_I_bitCount_48 : decode b_I_bitCount 48 = .ok (.iload_n 0, 1) := by decide +kernel
theorem d_I_bitCount_49 : decode b_I_bitCount 49 = .ok (.bipush 63, 2) := by decide +kernel
theorem d_I_bitCount_51 : decode b_I_bitCount 51 = .ok (.iand, 1) := by decide +kernel
theorem d_I_bitCount_52 : decode b_I_bitCount 52 = .ok (.ireturn, 1) := by decide +kernel
theorem d_P_listSteps_0 : decode b_P_listSteps 0 = .ok (.aload_n 0, 1) := by decide +kernel
theorem d_P_listSteps_1 : decode b_P_listSteps 1 = .ok (.getfield 28, 3) := by decide +kernel
theorem d_P_listSteps_4 : decode b_P_listSteps 4 = .ok (.iload_n 2, 1) := by decide +kernel
theorem d_P_listSteps_5 : decode b_P_listSteps 5 = .ok (.iconst 1, 1) := by decide +kernel
theorem d_P_listSteps_6 : decode b_P_listSteps 6 = .ok (.isub, 1) := by decide +kernel
theorem d_P_listSteps_7 : decode b_P_listSteps 7 = .ok (.iload_n 1, 1) := by decide +kernel
theorem d_P_listSteps_8 : decode b_P_listSteps 8 = .ok (.iastore, 1) := by decide +kernel
theorem d_P_listSteps_9 : decode b_P_listSteps 9 = .ok (.iload_n 2, 1) := by decide +kernel
theorem d_P_listSteps_10 : decode b_P_listSteps 10 = .ok (.iconst 1, 1) := by decide +kernel
theorem d_P_listSteps_11 : decode b_P_listSteps 11 = .ok (.isub, 1) := by decide +kernel
theorem d_P_listSteps_12 : decode b_P_listSteps 12 = .ok (.istore_n 3, 1) := by decide +kernel
theorem d_P_listSteps_13 : decode b_P_listSteps 13 = .ok (.iload_n 3, 1) := by decide +kernel
theorem d_P_listSteps_14 : decode b_P_listSteps 14 = .ok (.ifCond .lt 73, 3) := by decide +kernel
theorem d_P_listSteps_17 : decode b_P_listSteps 17 = .ok (.aload_n 0, 1) := by decide +kernel
theorem d_P_listSteps_18 : decode b_P_listSteps 18 = .ok (.getfield 25, 3) := by decide +kernel
theorem d_P_listSteps_21 : decode b_P_listSteps 21 = .ok (.aload_n 0, 1) := by decide +kernel
theorem d_P_listSteps_22 : decode b_P_listSteps 22 = .ok (.getfield 28, 3) := by decide +kernel
theorem d_P_listSteps_25 : decode b_P_listSteps 25 = .ok (.iload_n 3, 1) := by decide +kernel
theorem d_P_listSteps_26 : decode b_P_listSteps 26 = .ok (.iaload, 1) := by decide +kernel
theorem d_P_listSteps_27 : decode b_P_listSteps 27 = .ok (.iaload, 1) := by decide +kernel
theorem d_P_listSteps_28 : decode b_P_listSteps 28 = .ok (.istore 4, 2) := by decide +kernel
theorem d_P_listSteps_30 : decode b_P_listSteps 30 = .ok (.aload_n 0, 1) := by decide +kernel
theorem d_P_listSteps_31 : decode b_P_listSteps 31 = .ok (.getfield 28, 3) := by decide +kernel
theorem d_P_listSteps_34 : decode b_P_listSteps 34 = .ok (.iload_n 3, 1) := by decide +kernel
theorem d_P_listSteps_35 : decode b_P_listSteps 35 = .ok (.iaload, 1) := by decide +kernel
theorem d_P_listSteps_36 : decode b_P_listSteps 36 = .ok (.iload 4, 2) := by decide +kernel
theorem d_P_listSteps_38 : decode b_P_listSteps 38 = .ok (.ixor, 1) := by decide +kernel
theorem d_P_listSteps_39 : decode b_P_listSteps 39 = .ok (.istore 5, 2) := by decide +kernel
theorem d_P_listSteps_41 : decode b_P_listSteps 41 = .ok (.iload 5, 2) := by decide +kernel
theorem d_P_listSteps_43 : decode b_P_listSteps 43 = .ok (.invokestatic 49, 3) := by decide +kernel
theorem d_P_listSteps_46 : decode b_P_listSteps 46 = .ok (.ifCond .eq 13, 3) := by decide +kernel
theorem d_P_listSteps_49 : decode b_P_listSteps 49 = .ok (.aload_n 0, 1) := by decide +kernel
theorem d_P_listSteps_50 : decode b_P_listSteps 50 = .ok (.getfield 28, 3) := by decide +kernel
theorem d_P_listSteps_53 : decode b_P_listSteps 53 = .ok (.iload_n 3, 1) := by decide +kernel
theorem d_P_listSteps_54 : decode b_P_listSteps 54 = .ok (.iconst 1, 1) := by decide +kernel
theorem d_P_listSteps_55 : decode b_P_listSteps 55 = .ok (.isub, 1) := by decide +kernel
theorem d_P_listSteps_56 : decode b_P_listSteps 56 = .ok (.iload 5, 2) := by decide +kernel
theorem d_P_listSteps_58 : decode b_P_listSteps 58 = .ok (.iastore, 1) := by decide +kernel
theorem d_P_listSteps_59 : decode b_P_listSteps 59 = .ok (.iload 4, 2) := by decide +kernel
theorem d_P_listSteps_61 : decode b_P_listSteps 61 = .ok (.invokestatic 49, 3) := by decide +kernel
theorem d_P_listSteps_64 : decode b_P_listSteps 64 = .ok (.ifCond .eq 17, 3) := by decide +kernel
theorem d_P_listSteps_67 : decode b_P_listSteps 67 = .ok (.aload_n 0, 1) := by decide +kernel
theorem d_P_listSteps_68 : decode b_P_listSteps 68 = .ok (.getfield 28, 3) := by decide +kernel
theorem d_P_listSteps_71 : decode b_P_listSteps 71 = .ok (.iload_n 3, 1) := by decide +kernel
theorem d_P_listSteps_72 : decode b_P_listSteps 72 = .ok (.iload 5, 2) := by decide +kernel
theorem d_P_listSteps_74 : decode b_P_listSteps 74 = .ok (.invokestatic 64, 3) := by decide +kernel
theorem d_P_listSteps_77 : decode b_P_listSteps 77 = .ok (.isub, 1) := by decide +kernel
theorem d_P_listSteps_78 : decode b_P_listSteps 78 = .ok (.iload 4, 2) := by decide +kernel
theorem d_P_listSteps_80 : decode b_P_listSteps 80 = .ok (.iastore, 1) := by decide +kernel
theorem d_P_listSteps_81 : decode b_P_listSteps 81 = .ok (.iinc 3 (-1), 3) := by decide +kernel
theorem d_P_listSteps_84 : decode b_P_listSteps 84 = .ok (.goto (-71), 3) := by decide +kernel
theorem d_P_listSteps_87 : decode b_P_listSteps 87 = .ok (.return_, 1) := by decide +kernel
theorem d_P_make_0 : decode b_P_make 0 = .ok (.iconst 1, 1) := by decide +kernel
theorem d_P_make_1 : decode b_P_make 1 = .ok (.iload_n 2, 1) := by decide +kernel
theorem d_P_make_2 : decode b_P_make 2 = .ok (.ishl, 1) := by decide +kernel
theorem d_P_make_3 : decode b_P_make 3 = .ok (.iconst 1, 1) := by decide +kernel
theorem d_P_make_4 : decode b_P_make 4 = .ok (.isub, 1) := by decide +kernel
theorem d_P_make_5 : decode b_P_make 5 = .ok (.istore 4, 2) := by decide +kernel
theorem d_P_make_7 : decode b_P_make 7 = .ok (.aload_n 0, 1) := by decide +kernel
theorem d_P_make_8 : decode b_P_make 8 = .ok (.aload_n 1, 1) := by decide +kernel
theorem d_P_make_9 : decode b_P_make 9 = .ok (.iload_n 2, 1) := by decide +kernel
theorem d_P_make_10 : decode b_P_make 10 = .ok (.invokevirtual 41, 3) := by decide +kernel
theorem d_P_make_13 : decode b_P_make 13 = .ok (.iconst 1, 1) := by decide +kernel
theorem d_P_make_14 : decode b_P_make 14 = .ok (.istore 5, 2) := by decide +kernel
theorem d_P_make_16 : decode b_P_make 16 = .ok (.iload 5, 2) := by decide +kernel
theorem d_P_make_18 : decode b_P_make 18 = .ok (.iload 4, 2) := by decide +kernel
theorem d_P_make_20 : decode b_P_make 20 = .ok (.if_icmp .gt 18, 3) := by decide +kernel
theorem d_P_make_23 : decode b_P_make 23 = .ok (.aload_n 0, 1) := by decide +kernel
theorem d_P_make_24 : decode b_P_make 24 = .ok (.iload 5, 2) := by decide +kernel
theorem d_P_make_26 : decode b_P_make 26 = .ok (.iload 4, 2) := by decide +kernel
theorem d_P_make_28 : decode b_P_make 28 = .ok (.iload_n 3, 1) := by decide +kernel
theorem d_P_make_29 : decode b_P_make 29 = .ok (.invokevirtual 45, 3) := by decide +kernel
theorem d_P_make_32 : decode b_P_make 32 = .ok (.iinc 5 1, 3) := by decide +kernel
theorem d_P_make_35 : decode b_P_make 35 = .ok (.goto (-19), 3) := by decide +kernel
theorem d_P_make_38 : decode b_P_make 38 = .ok (.iconst 1, 1) := by decide +kernel
theorem d_P_make_39 : decode b_P_make 39 = .ok (.istore 5, 2) := by decide +kernel
theorem d_P_make_41 : decode b_P_make 41 = .ok (.iload 5, 2) := by decide +kernel
theorem d_P_make_43 : decode b_P_make 43 = .ok (.iload 4, 2) := by decide +kernel
theorem d_P_make_45 : decode b_P_make 45 = .ok (.if_icmp .gt 23, 3) := by decide +kernel
theorem d_P_make_48 : decode b_P_make 48 = .ok (.iload 5, 2) := by decide +kernel
theorem d_P_make_50 : decode b_P_make 50 = .ok (.invokestatic 49, 3) := by decide +kernel
theorem d_P_make_53 : decode b_P_make 53 = .ok (.ifCond .eq 9, 3) := by decide +kernel
theorem d_P_make_56 : decode b_P_make 56 = .ok (.aload_n 0, 1) := by decide +kernel
theorem d_P_make_57 : decode b_P_make 57 = .ok (.iload 5, 2) := by decide +kernel
theorem d_P_make_59 : decode b_P_make 59 = .ok (.invokevirtual 53, 3) := by decide +kernel
theorem d_P_make_62 : decode b_P_make 62 = .ok (.iinc 5 1, 3) := by decide +kernel
theorem d_P_make_65 : decode b_P_make 65 = .ok (.goto (-24), 3) := by decide +kernel
theorem d_P_make_68 : decode b_P_make 68 = .ok (.aload_n 0, 1) := by decide +kernel
theorem d_P_make_69 : decode b_P_make 69 = .ok (.iload 4, 2) := by decide +kernel
theorem d_P_make_71 : decode b_P_make 71 = .ok (.iload_n 2, 1) := by decide +kernel
theorem d_P_make_72 : decode b_P_make 72 = .ok (.iconst 1, 1) := by decide +kernel
theorem d_P_make_73 : decode b_P_make 73 = .ok (.isub, 1) := by decide +kernel
theorem d_P_make_74 : decode b_P_make 74 = .ok (.invokevirtual 57, 3) := by decide +kernel
theorem d_P_make_77 : decode b_P_make 77 = .ok (.return_, 1) := by decide +kernel
theorem ct_pop_I : ∀ a, a < 64 → (((((((((nI a) - ((((nI a)).toUInt32 >>> (((nI 1)).toUInt32 &&& Int32.toUInt32 31)).toInt32 &&& (1431655765))) &&& (858993459)) + (((((nI a) - ((((nI a)).toUInt32 >>> (((nI 1)).toUInt32 &&& Int32.toUInt32 31)).toInt32 &&& (1431655765)))).toUInt32 >>> (((nI 2)).toUInt32 &&& Int32.toUInt32 31)).toInt32 &&& (858993459))) + ((((((nI a) - ((((nI a)).toUInt32 >>> (((nI 1)).toUInt32 &&& Int32.toUInt32 31)).toInt32 &&& (1431655765))) &&& (858993459)) + (((((nI a) - ((((nI a)).toUInt32 >>> (((nI 1)).toUInt32 &&& Int32.toUInt32 31)).toInt32 &&& (1431655765)))).toUInt32 >>> (((nI 2)).toUInt32 &&& Int32.toUInt32 31)).toInt32 &&& (858993459)))).toUInt32 >>> (((nI 4)).toUInt32 &&& Int32.toUInt32 31)).toInt32) &&& (252645135)) + ((((((((nI a) - ((((nI a)).toUInt32 >>> (((nI 1)).toUInt32 &&& Int32.toUInt32 31)).toInt32 &&& (1431655765))) &&& (858993459)) + (((((nI a) - ((((nI a)).toUInt32 >>> (((nI 1)).toUInt32 &&& Int32.toUInt32 31)).toInt32 &&& (1431655765)))).toUInt32 >>> (((nI 2)).toUInt32 &&& Int32.toUInt32 31)).toInt32 &&& (858993459))) + ((((((nI a) - ((((nI a)).toUInt32 >>> (((nI 1)).toUInt32 &&& Int32.toUInt32 31)).toInt32 &&& (1431655765))) &&& (858993459)) + (((((nI a) - ((((nI a)).toUInt32 >>> (((nI 1)).toUInt32 &&& Int32.toUInt32 31)).toInt32 &&& (1431655765)))).toUInt32 >>> (((nI 2)).toUInt32 &&& Int32.toUInt32 31)).toInt32 &&& (858993459)))).toUInt32 >>> (((nI 4)).toUInt32 &&& Int32.toUInt32 31)).toInt32) &&& (252645135))).toUInt32 >>> (((nI 8)).toUInt32 &&& Int32.toUInt32 31)).toInt32) + (((((((((nI a) - ((((nI a)).toUInt32 >>> (((nI 1)).toUInt32 &&& Int32.toUInt32 31)).toInt32 &&& (1431655765))) &&& (858993459)) + (((((nI a) - ((((nI a)).toUInt32 >>> (((nI 1)).toUInt32 &&& Int32.toUInt32 31)).toInt32 &&& (1431655765)))).toUInt32 >>> (((nI 2)).toUInt32 &&& Int32.toUInt32 31)).toInt32 &&& (858993459))) + ((((((nI a) - ((((nI a)).toUInt32 >>> (((nI 1)).toUInt32 &&& Int32.toUInt32 31)).toInt32 &&& (1431655765))) &&& (858993459)) + (((((nI a) - ((((nI a)).toUInt32 >>> (((nI 1)).toUInt32 &&& Int32.toUInt32 31)).toInt32 &&& (1431655765)))).toUInt32 >>> (((nI 2)).toUInt32 &&& Int32.toUInt32 31)).toInt32 &&& (858993459)))).toUInt32 >>> (((nI 4)).toUInt32 &&& Int32.toUInt32 31)).toInt32) &&& (252645135)) + ((((((((nI a) - ((((nI a)).toUInt32 >>> (((nI 1)).toUInt32 &&& Int32.toUInt32 31)).toInt32 &&& (1431655765))) &&& (858993459)) + (((((nI a) - ((((nI a)).toUInt32 >>> (((nI 1)).toUInt32 &&& Int32.toUInt32 31)).toInt32 &&& (1431655765)))).toUInt32 >>> (((nI 2)).toUInt32 &&& Int32.toUInt32 31)).toInt32 &&& (858993459))) + ((((((nI a) - ((((nI a)).toUInt32 >>> (((nI 1)).toUInt32 &&& Int32.toUInt32 31)).toInt32 &&& (1431655765))) &&& (858993459)) + (((((nI a) - ((((nI a)).toUInt32 >>> (((nI 1)).toUInt32 &&& Int32.toUInt32 31)).toInt32 &&& (1431655765)))).toUInt32 >>> (((nI 2)).toUInt32 &&& Int32.toUInt32 31)).toInt32 &&& (858993459)))).toUInt32 >>> (((nI 4)).toUInt32 &&& Int32.toUInt32 31)).toInt32) &&& (252645135))).toUInt32 >>> (((nI 8)).toUInt32 &&& Int32.toUInt32 31)).toInt32)).toUInt32 >>> (((nI 16)).toUInt32 &&& Int32.toUInt32 31)).toInt32) &&& (nI 63)) = nI (ct_pop a) := by decide +kernel
set_option maxHeartbeats 4000000 in
set_option maxRecDepth 100000 in
theorem c_I_bitCount (l : Launch) (dC : Nat → ClassId) (dI : Nat → Nat → Nat) (cI : ClassId) (a : Nat) (ha : a < 64) : Met l y_I_bitCount w_I_bitCount ({ frames := 0, cells := 0, slots := 0, locals := 0 }) (va_Pc [.int (nI a)] (ct_ro (dC, dI) ct_cl [] [(cI, .int)])) (ct_qi (fun r => r = nI (ct_pop a))) 0 0 (fun _ => False) := by
  refine Met.ofW (cc := b_I_bitCount) (maxL := 1) (ret := (some .int)) (by decide) rfl ?_
  intro p e s m args below meth c s₁ Bd hml hv
  obtain ⟨hargs, hP, hK⟩ := hv
  have hx := Bd.exec
  have hb := Bd.bytes
  have hr := Bd.returns
  have hts : ∀ w ∈ k_I_bitCount :: ct_tb, w.before args s = true := atoms_spec (ws := w_I_bitCount) Bd.pre
  have hown : s.vm.findClass R_I = some m.cls := findClass_of_methodNamed Bd.named
  have hlocks := Bd.notSynchronized
  have hS : va_S (fun _ => False) s.heap s.heap [] := va_S.rf
  have hl := lv_entry ([.int (nI a)]) (n := 1) (Nat.le_of_ble_eq_true rfl)
  rw [show entryFrame m args 1 = entryFrame m (([.int (nI a)] : List Value)).toArray 1 by rw [hargs], lg_entry_eq]
  generalize (lg_sl ([.int (nI a)]) ++ List.replicate (1 - (lg_sl ([.int (nI a)])).length) Slot.unset).toArray = ls at hl ⊢
  have hl : lv_has ls 1 [(0, .int (nI a))] := hl
  refine lv_iload_n hx hb d_I_bitCount_0 rfl (lv_at hl 0 rfl) ?_
  refine lv_iload_n hx hb d_I_bitCount_1 rfl (lv_at hl 0 rfl) ?_
  refine lv_iconst (v := (nI 1)) hx hb d_I_bitCount_2 (by decide) ?_
  refine lv_iushr hx hb d_I_bitCount_3 rfl ?_
  refine lv_ldcw hx hb hown (hts _ (ct_tl kw_205)) d_I_bitCount_4 ?_
  refine lv_iand hx hb d_I_bitCount_7 ?_
  refine lv_isub hx hb d_I_bitCount_8 ?_
  refine lv_topi (fun v1 ev1 => ?_)
  refine lv_istore_n (lv' := [(0, .int v1)]) hx hb d_I_bitCount_9 rfl hl (by decide) rfl (fun ls hl => ?_)
  refine lv_iload_n hx hb d_I_bitCount_10 rfl (lv_at hl 0 rfl) ?_
  refine lv_ldcw hx hb hown (hts _ (ct_tl kw_206)) d_I_bitCount_11 ?_
  refine lv_iand hx hb d_I_bitCount_14 ?_
  refine lv_iload_n hx hb d_I_bitCount_15 rfl (lv_at hl 0 rfl) ?_
  refine lv_iconst (v := (nI 2)) hx hb d_I_bitCount_16 (by decide) ?_
  refine lv_iushr hx hb d_I_bitCount_17 rfl ?_
  refine lv_ldcw hx hb hown (hts _ (ct_tl kw_206)) d_I_bitCount_18 ?_
  refine lv_iand hx hb d_I_bitCount_21 ?_
  refine lv_iadd hx hb d_I_bitCount_22 ?_
  refine lv_topi (fun v2 ev2 => ?_)
  refine lv_istore_n (lv' := [(0, .int v2)]) hx hb d_I_bitCount_23 rfl hl (by decide) rfl (fun ls hl => ?_)
  refine lv_iload_n hx hb d_I_bitCount_24 rfl (lv_at hl 0 rfl) ?_
  refine lv_iload_n hx hb d_I_bitCount_25 rfl (lv_at hl 0 rfl) ?_
  refine lv_iconst (v := (nI 4)) hx hb d_I_bitCount_26 (by decide) ?_
  refine lv_iushr hx hb d_I_bitCount_27 rfl ?_
  refine lv_iadd hx hb d_I_bitCount_28 ?_
  refine lv_ldcw hx hb hown (hts _ (ct_tl kw_207)) d_I_bitCount_29 ?_
  refine lv_iand hx hb d_I_bitCount_32 ?_
  refine lv_topi (fun v3 ev3 => ?_)
  refine lv_istore_n (lv' := [(0, .int v3)]) hx hb d_I_bitCount_33 rfl hl (by decide) rfl (fun ls hl => ?_)
  refine lv_iload_n hx hb d_I_bitCount_34 rfl (lv_at hl 0 rfl) ?_
  refine lv_iload_n hx hb d_I_bitCount_35 rfl (lv_at hl 0 rfl) ?_
  refine lv_bipush (v := (nI 8)) hx hb d_I_bitCount_36 (by decide) ?_
  refine lv_iushr hx hb d_I_bitCount_38 rfl ?_
  refine lv_iadd hx hb d_I_bitCount_39 ?_
  refine lv_topi (fun v4 ev4 => ?_)
  refine lv_istore_n (lv' := [(0, .int v4)]) hx hb d_I_bitCount_40 rfl hl (by decide) rfl (fun ls hl => ?_)
  refine lv_iload_n hx hb d_I_bitCount_41 rfl (lv_at hl 0 rfl) ?_
  refine lv_iload_n hx hb d_I_bitCount_42 rfl (lv_at hl 0 rfl) ?_
  refine lv_bipush (v := (nI 16)) hx hb d_I_bitCount_43 (by decide) ?_
  refine lv_iushr hx hb d_I_bitCount_45 rfl ?_
  refine lv_iadd hx hb d_I_bitCount_46 ?_
  refine lv_topi (fun v5 ev5 => ?_)
  refine lv_istore_n (lv' := [(0, .int v5)]) hx hb d_I_bitCount_47 rfl hl (by decide) rfl (fun ls hl => ?_)
  refine lv_iload_n hx hb d_I_bitCount_48 rfl (lv_at hl 0 rfl) ?_
  refine lv_bipush (v := (nI 63)) hx hb d_I_bitCount_49 (by decide) ?_
  refine lv_iand hx hb d_I_bitCount_51 ?_
  refine lv_topi (fun v6 ev6 => ?_)
  exact W.iret (v := v6) hx hb hr (fun tS ht hW => ⟨⟨v6, (), rfl, by rw [ev6, ev5, ev4, ev3, ev2, ev1]; exact ct_pop_I a ha, trivial⟩, hS.F ht⟩) hS.2.2 d_I_bitCount_52
theorem ct_mem_lt {B : Nat → Nat × Nat} (hB : ct_okB B) {K : Nat} : ∀ (n S : Nat), S < n → S < 64 → S < 2 ^ K → ∀ x ∈ ct_ls B 64 S, x < 2 ^ K := by
  intro n
  induction n with
  | zero => intro S h; omega
  | succ n ih =>
    intro S h hS hK x hx
    cases hs : ct_sev S with
    | false => rw [ct_ls_one hs] at hx; cases hx
    | true =>
      have hp := hB S hS hs
      have hc := ct_pt_co S hS _ hp.1 hp.2
      rw [ct_ls_sev hB hS hs] at hx
      rcases List.mem_append.mp hx with h1 | h1
      · rcases List.mem_append.mp h1 with h2 | h2
        · exact ih _ (by omega) (by omega) (by omega) x h2
        · exact ih _ (by omega) (by omega) (by omega) x h2
      · rw [List.mem_singleton.mp h1]; exact hK
theorem ct_pend_lt {B : Nat → Nat × Nat} (hB : ct_okB B) {T : List Nat} {g : Nat → Int32} {n S K : Nat} {L : List Nat} (hK : K ≤ 6) (hT : ct_ls B 64 (2 ^ K - 1) = T) (h : ct_inv B T g (n + 1) (S :: L)) : S < 2 ^ K := by
  have h2K := ct_2K K (by omega)
  have h1 : S ∈ ct_ls B 64 S := by rw [ct_ls_sev hB h.1.2.1 h.1.1]; simp
  have h2 : S ∈ ct_fl B (S :: L) := List.mem_append.mpr (Or.inr h1)
  rw [h.2.1] at h2
  have h3 := List.mem_of_mem_take h2
  rw [← hT] at h3
  exact ct_mem_lt hB 64 (2 ^ K - 1) (by omega) (by omega) (by omega) S h3
set_option maxHeartbeats 4000000 in
set_option maxRecDepth 100000 in
theorem c_P_listSteps (l : Launch) (dC : Nat → ClassId) (dI : Nat → Nat → Nat) (cI : ClassId) (z0 p0 p1 p2 p3 p4 p5 : Nat) (fp fj : Nat → Int32) (B : Nat → Nat × Nat) (K : Nat) (hK6 : K ≤ 6) (hK2 : 2 ≤ K) (hB : ct_okB B) (hfp : ∀ S, S < 2 ^ K → ct_sev S = true → fp S = nI (B S).2) (sz0 : Nat) : Met l y_P_listSteps w_P_listSteps ({ frames := 1, cells := 0, slots := 0, locals := 20 }) (va_Pc [.ref p0, .int (nI (2 ^ K - 1)), .int (nI (K - 1))] (ct_rw (dC, dI) ct_cl [(p0, .inr (2, [.ref z0, .ref p1, .ref p2, .ref p3, .ref p4, .ref p5])), (p4, .inl (cI, 64, .inl fp)), (p5, .inl (cI, 5, .inl fj))] [(cI, .int)] sz0)) (va_Qv (fun (u : Nat → Int32) => ∀ k, k < K - 1 → u k = nI ((ct_ls B 64 (2 ^ K - 1)).getD k 0)) (fun (u : Nat → Int32) t => ct_at (dC, dI) ct_cl [(cI, .int)] (va_A [(p0, .inr (2, [.ref z0, .ref p1, .ref p2, .ref p3, .ref p4, .ref p5])), (p4, .inl (cI, 64, .inl fp)), (p5, .inl (cI, 5, .inl fj))] sz0) [(p0, .inr (2, [.ref z0, .ref p1, .ref p2, .ref p3, .ref p4, .ref p5])), (p4, .inl (cI, 64, .inl fp)), (p5, .inl (cI, 5, .inl u))] t) (va_A [(p0, .inr (2, [.ref z0, .ref p1, .ref p2, .ref p3, .ref p4, .ref p5])), (p4, .inl (cI, 64, .inl fp)), (p5, .inl (cI, 5, .inl fj))] sz0)) 0 0 (va_A [(p0, .inr (2, [.ref z0, .ref p1, .ref p2, .ref p3, .ref p4, .ref p5])), (p4, .inl (cI, 64, .inl fp)), (p5, .inl (cI, 5, .inl fj))] sz0) := by
  refine Met.ofW (cc := b_P_listSteps) (maxL := 6) (ret := none) (by decide) rfl ?_
  intro p e s m args below meth c s₁ Bd hml hv
  obtain ⟨hargs, hsz, hP, hK, hD0⟩ := hv
  have hx := Bd.exec
  have hb := Bd.bytes
  have hr := Bd.returns
  have hts : ∀ w ∈ k_P_listSteps :: ct_tb, w.before args s = true := atoms_spec (ws := w_P_listSteps) Bd.pre
  have hown : s.vm.findClass R_P = some m.cls := findClass_of_methodNamed Bd.named
  have hlocks := Bd.notSynchronized
  subst hsz
  have hD := hD0.self (sz := s.heap.size)
  generalize hAe : va_A [(p0, .inr (2, [.ref z0, .ref p1, .ref p2, .ref p3, .ref p4, .ref p5])), (p4, .inl (cI, 64, .inl fp)), (p5, .inl (cI, 5, .inl fj))] s.heap.size = A at hD ⊢
  have hA : ∀ q : Nat, s.heap.size ≤ q → A q := fun q h => by rw [← hAe]; exact Or.inr h
  have hS : va_S A s.heap s.heap [] := va_S.rf
  have hl := lv_entry ([.ref p0, .int (nI (2 ^ K - 1)), .int (nI (K - 1))]) (n := 6) (Nat.le_of_ble_eq_true rfl)
  rw [show entryFrame m args 6 = entryFrame m (([.ref p0, .int (nI (2 ^ K - 1)), .int (nI (K - 1))] : List Value)).toArray 6 by rw [hargs], lg_entry_eq]
  generalize (lg_sl ([.ref p0, .int (nI (2 ^ K - 1)), .int (nI (K - 1))]) ++ List.replicate (6 - (lg_sl ([.ref p0, .int (nI (2 ^ K - 1)), .int (nI (K - 1))])).length) Slot.unset).toArray = ls at hl ⊢
  have hl : lv_has ls 6 [(0, .ref p0), (1, .int (nI (2 ^ K - 1))), (2, .int (nI (K - 1)))] := hl
  have h2K := ct_2K K (by omega)
  have hsall := ct_sev_all K (by omega) hK2
  have hall0 := ct_sev0 hsall
  have hlen : (ct_ls B 64 (2 ^ K - 1)).length = K - 1 := by have h9 := ct_ls_len hB 64 (2 ^ K - 1) (by omega) (by omega) hall0; rw [ct_pop_all K (by omega)] at h9; omega
  generalize hT : ct_ls B 64 (2 ^ K - 1) = T at hlen ⊢
  have hTm : ∀ S L n, ct_inv B T L n S → ∀ k, k < T.length → True := fun _ _ _ _ _ _ => trivial
  have loop : ∀ (n : Nat) (g : Nat → Int32) (L : List Nat), n ≤ K - 1 → ct_inv B T g n L → ∀ (H : Heap) (locs : List Loc), va_P (dC, dI) ct_cl [(p0, .inr (2, [.ref z0, .ref p1, .ref p2, .ref p3, .ref p4, .ref p5])), (p4, .inl (cI, 64, .inl fp)), (p5, .inl (cI, 5, .inl g))] H → va_D A [(p0, .inr (2, [.ref z0, .ref p1, .ref p2, .ref p3, .ref p4, .ref p5])), (p4, .inl (cI, 64, .inl fp)), (p5, .inl (cI, 5, .inl g))] → va_S A s.heap H locs → ∀ (ls : Array Slot), lv_has ls 6 [(0, .ref p0), (1, .int (nI (2 ^ K - 1))), (2, .int (nI (K - 1))), (3, .int (nI n - 1))] → W p l e (headSpec w_P_listSteps ({ frames := 1, cells := 0, slots := 0, locals := 20 } : Room)).room s m args below meth c H locs 0 0 (MQ below (va_Qv (fun (u : Nat → Int32) => ∀ k, k < K - 1 → u k = nI (T.getD k 0)) (fun (u : Nat → Int32) t => ct_at (dC, dI) ct_cl [(cI, .int)] (A) [(p0, .inr (2, [.ref z0, .ref p1, .ref p2, .ref p3, .ref p4, .ref p5])), (p4, .inl (cI, 64, .inl fp)), (p5, .inl (cI, 5, .inl u))] t) (A)) args s 0 0 A) (F0 m 13 ls []) := by
    intro n
    induction n with
    | zero =>
      intro g L hnK hinv H locs hP hD hS ls hl
      refine lv_iload_n hx hb d_P_listSteps_13 rfl (lv_at hl 3 rfl) ?_
      refine lv_if_lt (tgt := 87) hx hb d_P_listSteps_14 (by decide) (fun _ => ?_) (fun hc9 => absurd (by decide) hc9)
      have hP9 := hP.sub [0, 1, 2] rfl
      exact W.vret hx hb hr (fun tS ht hW => ⟨⟨g, rfl, fun k h9 => hinv.2.2.2 k (Nat.zero_le k) (by omega), by rw [ht]; exact hP9, va_K.moved hW.alike hK, hD.sub [0, 1, 2] (by decide) rfl⟩, hS.F ht⟩) hS.2.2 d_P_listSteps_87
    | succ n ih =>
      intro g L hnK hinv H locs hP hD hS ls hl
      rw [show nI (n + 1) - 1 = nI n from nI_pred n] at hl
      have htop := ct_inv_top hinv
      obtain ⟨S, L, rfl, hs, hS6, hgn⟩ := htop
      obtain ⟨hw1, hw2, L2, hinv2⟩ := ct_inv_step hB hinv
      have hSK : S < 2 ^ K := ct_pend_lt hB (T := T) (K := K) (by omega) hT hinv
      have hp := hB S hS6 hs
      have hpc := ct_pt_co S hS6 _ hp.1 hp.2
      have hp0 := ct_pt_pos hp.2
      refine lv_iload_n hx hb d_P_listSteps_13 rfl (lv_at hl 3 rfl) ?_
      refine lv_if_lt (tgt := 87) hx hb d_P_listSteps_14 (by decide) (fun hc9 => absurd hc9 (nI_pos (by omega))) (fun _ => ?_)
      refine lv_aload_n hx hb d_P_listSteps_17 rfl (lv_at hl 0 rfl) ?_
      refine va_get (D := (dC, dI)) (ci := 2) (v := .ref p4) (C := R_P) (T := T_P) (N := 6) hx hb hts (fun w h9 => ct_tl (ki_P w h9)) hown hK hP 0 rfl rfl 4 (by decide) (hts _ (ct_tl kw_71)) (fun _ h9 => h9) rfl d_P_listSteps_18 ?_
      refine lv_aload_n hx hb d_P_listSteps_21 rfl (lv_at hl 0 rfl) ?_
      refine va_get (D := (dC, dI)) (ci := 2) (v := .ref p5) (C := R_P) (T := T_P) (N := 6) hx hb hts (fun w h9 => ct_tl (ki_P w h9)) hown hK hP 0 rfl rfl 5 (by decide) (hts _ (ct_tl kw_72)) (fun _ h9 => h9) rfl d_P_listSteps_22 ?_
      refine lv_iload_n hx hb d_P_listSteps_25 rfl (lv_at hl 3 rfl) ?_
      refine ct_iald hx hb hK hP 2 0 rfl rfl (j := n) (by omega) (by omega) d_P_listSteps_26 ?_
      refine ct_val (y := nI S) (hgn) ?_
      refine ct_iald hx hb hK hP 1 0 rfl rfl (j := S) (by omega) (by omega) d_P_listSteps_27 ?_
      refine ct_val (y := nI (B S).2) (hfp S hSK hs) ?_
      refine lv_istore (lv' := [(4, .int (nI (B S).2)), (0, .ref p0), (1, .int (nI (2 ^ K - 1))), (2, .int (nI (K - 1))), (3, .int (nI n))]) hx hb d_P_listSteps_28 hl (by decide) rfl (fun ls hl => ?_)
      refine lv_aload_n hx hb d_P_listSteps_30 rfl (lv_at hl 1 rfl) ?_
      refine va_get (D := (dC, dI)) (ci := 2) (v := .ref p5) (C := R_P) (T := T_P) (N := 6) hx hb hts (fun w h9 => ct_tl (ki_P w h9)) hown hK hP 0 rfl rfl 5 (by decide) (hts _ (ct_tl kw_72)) (fun _ h9 => h9) rfl d_P_listSteps_31 ?_
      refine lv_iload_n hx hb d_P_listSteps_34 rfl (lv_at hl 4 rfl) ?_
      refine ct_iald hx hb hK hP 2 0 rfl rfl (j := n) (by omega) (by omega) d_P_listSteps_35 ?_
      refine ct_val (y := nI S) (hgn) ?_
      refine lv_iload hx hb d_P_listSteps_36 (lv_at hl 0 rfl) ?_
      refine lv_ixor hx hb d_P_listSteps_38 ?_
      refine ct_val (y := nI (S ^^^ (B S).2)) (ct_xor _ _) ?_
      refine lv_istore (lv' := [(5, .int (nI (S ^^^ (B S).2))), (4, .int (nI (B S).2)), (0, .ref p0), (1, .int (nI (2 ^ K - 1))), (2, .int (nI (K - 1))), (3, .int (nI n))]) hx hb d_P_listSteps_39 hl (by decide) rfl (fun ls hl => ?_)
      refine lv_iload hx hb d_P_listSteps_41 (lv_at hl 0 rfl) ?_
      refine va_calli (va_runS (As := [.int (nI (S ^^^ (B S).2))]) (rest := []) ⟨hx, hb, hml, hown, hts⟩ (c_P_isSeveral l dC dI cI (S ^^^ (B S).2) (by omega) hpc.1) (va_cwS 1 hts (ct_giT (fun w h9 => ct_tl h9) kw_179 kw_180 kw_28 kw_181) rfl rfl rfl (by decide +kernel) ⟨Nat.le_of_ble_eq_true rfl, Nat.le_of_ble_eq_true rfl⟩) ⟨ct_ro_blind, ct_ro_pre (hP.sub [] rfl) hK⟩ rfl rfl hl.1 rfl (lv_room (Nat.le_of_ble_eq_true rfl)) d_P_listSteps_43 ⟨Nat.le_of_ble_eq_true rfl, Nat.le_of_ble_eq_true rfl⟩) hS (fun q _ h9 => h9.elim) (fun q h9 => h9.elim) (fun ans1 uS tS H locs ht hvm hwans1 hB hz1 hk1 hS => ?_)
      have hP := ct_keep hP hk1
      refine ct_val (y := nI (if ct_sev (S ^^^ (B S).2) = true then 1 else 0)) (hwans1) ?_
      by_cases h3 : ct_sev (S ^^^ (B S).2) = true
      · rw [if_pos h3]
        refine lv_if_eq (tgt := 59) hx hb d_P_listSteps_46 (by decide) (fun hc9 => absurd hc9 (nI_ne0 (by omega) (by omega))) (fun _ => ?_)
        have hw4 := hw1 h3
        refine lv_aload_n hx hb d_P_listSteps_49 rfl (lv_at hl 2 rfl) ?_
        refine va_get (D := (dC, dI)) (ci := 2) (v := .ref p5) (C := R_P) (T := T_P) (N := 6) hx hb hts (fun w h9 => ct_tl (ki_P w h9)) hown hK hP 0 rfl rfl 5 (by decide) (hts _ (ct_tl kw_72)) (fun _ h9 => h9) rfl d_P_listSteps_50 ?_
        refine lv_iload_n hx hb d_P_listSteps_53 rfl (lv_at hl 5 rfl) ?_
        refine lv_iconst (v := (nI 1)) hx hb d_P_listSteps_54 (by decide) ?_
        refine lv_isub hx hb d_P_listSteps_55 ?_
        refine ct_val (y := nI (n - 1)) (pk_sub hw4) ?_
        refine lv_iload hx hb d_P_listSteps_56 (lv_at hl 0 rfl) ?_
        refine ct_iast hx hb hK hP hD hS 2 0 rfl rfl (j := n - 1) (by omega) (by omega) d_P_listSteps_58 (fun H locs hP hD hS => ?_)
        have hP : va_P (dC, dI) ct_cl [(p0, .inr (2, [.ref z0, .ref p1, .ref p2, .ref p3, .ref p4, .ref p5])), (p4, .inl (cI, 64, .inl fp)), (p5, .inl (cI, 5, .inl (upd g (n - 1) (nI (S ^^^ (B S).2)))))] H := hP
        have hD : va_D A [(p0, .inr (2, [.ref z0, .ref p1, .ref p2, .ref p3, .ref p4, .ref p5])), (p4, .inl (cI, 64, .inl fp)), (p5, .inl (cI, 5, .inl (upd g (n - 1) (nI (S ^^^ (B S).2)))))] := hD
        refine lv_iload hx hb d_P_listSteps_59 (lv_at hl 1 rfl) ?_
        refine va_calli (va_runS (As := [.int (nI (B S).2)]) (rest := []) ⟨hx, hb, hml, hown, hts⟩ (c_P_isSeveral l dC dI cI (B S).2 (by omega) hp0) (va_cwS 1 hts (ct_giT (fun w h9 => ct_tl h9) kw_179 kw_180 kw_28 kw_181) rfl rfl rfl (by decide +kernel) ⟨Nat.le_of_ble_eq_true rfl, Nat.le_of_ble_eq_true rfl⟩) ⟨ct_ro_blind, ct_ro_pre (hP.sub [] rfl) hK⟩ rfl rfl hl.1 rfl (lv_room (Nat.le_of_ble_eq_true rfl)) d_P_listSteps_61 ⟨Nat.le_of_ble_eq_true rfl, Nat.le_of_ble_eq_true rfl⟩) hS (fun q _ h9 => h9.elim) (fun q h9 => h9.elim) (fun ans102 uS tS H locs ht hvm hwans102 hB hz1 hk1 hS => ?_)
        have hP := ct_keep hP hk1
        refine ct_val (y := nI (if ct_sev ((B S).2) = true then 1 else 0)) (hwans102) ?_
        by_cases h4 : ct_sev (B S).2 = true
        · rw [if_pos h4]
          refine lv_if_eq (tgt := 81) hx hb d_P_listSteps_64 (by decide) (fun hc9 => absurd hc9 (nI_ne0 (by omega) (by omega))) (fun _ => ?_)
          refine lv_aload_n hx hb d_P_listSteps_67 rfl (lv_at hl 2 rfl) ?_
          refine va_get (D := (dC, dI)) (ci := 2) (v := .ref p5) (C := R_P) (T := T_P) (N := 6) hx hb hts (fun w h9 => ct_tl (ki_P w h9)) hown hK hP 0 rfl rfl 5 (by decide) (hts _ (ct_tl kw_72)) (fun _ h9 => h9) rfl d_P_listSteps_68 ?_
          refine lv_iload_n hx hb d_P_listSteps_71 rfl (lv_at hl 5 rfl) ?_
          refine lv_iload hx hb d_P_listSteps_72 (lv_at hl 0 rfl) ?_
          refine va_calli (va_runS (As := [.int (nI (S ^^^ (B S).2))]) (rest := [.int (nI n), .ref p5]) ⟨hx, hb, hml, hown, hts⟩ (c_I_bitCount l dC dI cI (S ^^^ (B S).2) (by omega)) (va_cwS 1 hts (ct_giT (fun w h9 => ct_tl h9) kw_202 kw_203 kw_38 kw_204) rfl rfl rfl (by decide +kernel) ⟨Nat.le_of_ble_eq_true rfl, Nat.le_of_ble_eq_true rfl⟩) ⟨ct_ro_blind, ct_ro_pre (hP.sub [] rfl) hK⟩ rfl rfl hl.1 rfl (lv_room (Nat.le_of_ble_eq_true rfl)) d_P_listSteps_74 ⟨Nat.le_of_ble_eq_true rfl, Nat.le_of_ble_eq_true rfl⟩) hS (fun q _ h9 => h9.elim) (fun q h9 => h9.elim) (fun ans203 uS tS H locs ht hvm hwans203 hB hz1 hk1 hS => ?_)
          have hP := ct_keep hP hk1
          refine ct_val (y := nI (ct_pop (S ^^^ (B S).2))) (hwans203) ?_
          have hw3 := hw2 h4
          refine lv_isub hx hb d_P_listSteps_77 ?_
          refine ct_val (y := nI (n - ct_pop (S ^^^ (B S).2))) (pk_sub hw3) ?_
          refine lv_iload hx hb d_P_listSteps_78 (lv_at hl 1 rfl) ?_
          refine ct_iast hx hb hK hP hD hS 2 0 rfl rfl (j := n - ct_pop (S ^^^ (B S).2)) (by omega) (by omega) d_P_listSteps_80 (fun H locs hP hD hS => ?_)
          have hP : va_P (dC, dI) ct_cl [(p0, .inr (2, [.ref z0, .ref p1, .ref p2, .ref p3, .ref p4, .ref p5])), (p4, .inl (cI, 64, .inl fp)), (p5, .inl (cI, 5, .inl (upd (upd g (n - 1) (nI (S ^^^ (B S).2))) (n - ct_pop (S ^^^ (B S).2)) (nI (B S).2))))] H := hP
          have hD : va_D A [(p0, .inr (2, [.ref z0, .ref p1, .ref p2, .ref p3, .ref p4, .ref p5])), (p4, .inl (cI, 64, .inl fp)), (p5, .inl (cI, 5, .inl (upd (upd g (n - 1) (nI (S ^^^ (B S).2))) (n - ct_pop (S ^^^ (B S).2)) (nI (B S).2))))] := hD
          have eg : ct_wr B g n S = (upd (upd g (n - 1) (nI (S ^^^ (B S).2))) (n - ct_pop (S ^^^ (B S).2)) (nI (B S).2)) := by rw [ct_wr]; simp only [if_pos h3, if_pos h4]
          rw [← eg] at hP hD
          refine lv_iinc (v := (nI n - 1)) (lv' := [(3, .int (nI n - 1)), (5, .int (nI (S ^^^ (B S).2))), (4, .int (nI (B S).2)), (0, .ref p0), (1, .int (nI (2 ^ K - 1))), (2, .int (nI (K - 1)))]) hx hb d_P_listSteps_81 hl (k := 5) rfl (by rw [Int32.sub_eq_add_neg]; rfl) (by decide) rfl (fun ls hl => ?_)
          refine lv_goto (tgt := 13) hx hb d_P_listSteps_84 (by decide) ?_
          exact ih (ct_wr B g n S) L2 (by omega) hinv2 H locs hP hD hS ls (lv_sub hl [3, 4, 5, 0] rfl)
        · rw [if_neg h4]
          refine lv_if_eq (tgt := 81) hx hb d_P_listSteps_64 (by decide) (fun _ => ?_) (fun hc9 => absurd (nI_0) hc9)
          have eg : ct_wr B g n S = (upd g (n - 1) (nI (S ^^^ (B S).2))) := by rw [ct_wr]; simp only [if_pos h3, if_neg h4]
          rw [← eg] at hP hD
          refine lv_iinc (v := (nI n - 1)) (lv' := [(3, .int (nI n - 1)), (5, .int (nI (S ^^^ (B S).2))), (4, .int (nI (B S).2)), (0, .ref p0), (1, .int (nI (2 ^ K - 1))), (2, .int (nI (K - 1)))]) hx hb d_P_listSteps_81 hl (k := 5) rfl (by rw [Int32.sub_eq_add_neg]; rfl) (by decide) rfl (fun ls hl => ?_)
          refine lv_goto (tgt := 13) hx hb d_P_listSteps_84 (by decide) ?_
          exact ih (ct_wr B g n S) L2 (by omega) hinv2 H locs hP hD hS ls (lv_sub hl [3, 4, 5, 0] rfl)
      · rw [if_neg h3]
        refine lv_if_eq (tgt := 59) hx hb d_P_listSteps_46 (by decide) (fun _ => ?_) (fun hc9 => absurd (nI_0) hc9)
        refine lv_iload hx hb d_P_listSteps_59 (lv_at hl 1 rfl) ?_
        refine va_calli (va_runS (As := [.int (nI (B S).2)]) (rest := []) ⟨hx, hb, hml, hown, hts⟩ (c_P_isSeveral l dC dI cI (B S).2 (by omega) hp0) (va_cwS 1 hts (ct_giT (fun w h9 => ct_tl h9) kw_179 kw_180 kw_28 kw_181) rfl rfl rfl (by decide +kernel) ⟨Nat.le_of_ble_eq_true rfl, Nat.le_of_ble_eq_true rfl⟩) ⟨ct_ro_blind, ct_ro_pre (hP.sub [] rfl) hK⟩ rfl rfl hl.1 rfl (lv_room (Nat.le_of_ble_eq_true rfl)) d_P_listSteps_61 ⟨Nat.le_of_ble_eq_true rfl, Nat.le_of_ble_eq_true rfl⟩) hS (fun q _ h9 => h9.elim) (fun q h9 => h9.elim) (fun ans102 uS tS H locs ht hvm hwans102 hB hz1 hk1 hS => ?_)
        have hP := ct_keep hP hk1
        refine ct_val (y := nI (if ct_sev ((B S).2) = true then 1 else 0)) (hwans102) ?_
        by_cases h4 : ct_sev (B S).2 = true
        · rw [if_pos h4]
          refine lv_if_eq (tgt := 81) hx hb d_P_listSteps_64 (by decide) (fun hc9 => absurd hc9 (nI_ne0 (by omega) (by omega))) (fun _ => ?_)
          refine lv_aload_n hx hb d_P_listSteps_67 rfl (lv_at hl 2 rfl) ?_
          refine va_get (D := (dC, dI)) (ci := 2) (v := .ref p5) (C := R_P) (T := T_P) (N := 6) hx hb hts (fun w h9 => ct_tl (ki_P w h9)) hown hK hP 0 rfl rfl 5 (by decide) (hts _ (ct_tl kw_72)) (fun _ h9 => h9) rfl d_P_listSteps_68 ?_
          refine lv_iload_n hx hb d_P_listSteps_71 rfl (lv_at hl 5 rfl) ?_
          refine lv_iload hx hb d_P_listSteps_72 (lv_at hl 0 rfl) ?_
          refine va_calli (va_runS (As := [.int (nI (S ^^^ (B S).2))]) (rest := [.int (nI n), .ref p5]) ⟨hx, hb, hml, hown, hts⟩ (c_I_bitCount l dC dI cI (S ^^^ (B S).2) (by omega)) (va_cwS 1 hts (ct_giT (fun w h9 => ct_tl h9) kw_202 kw_203 kw_38 kw_204) rfl rfl rfl (by decide +kernel) ⟨Nat.le_of_ble_eq_true rfl, Nat.le_of_ble_eq_true rfl⟩) ⟨ct_ro_blind, ct_ro_pre (hP.sub [] rfl) hK⟩ rfl rfl hl.1 rfl (lv_room (Nat.le_of_ble_eq_true rfl)) d_P_listSteps_74 ⟨Nat.le_of_ble_eq_true rfl, Nat.le_of_ble_eq_true rfl⟩) hS (fun q _ h9 => h9.elim) (fun q h9 => h9.elim) (fun ans203 uS tS H locs ht hvm hwans203 hB hz1 hk1 hS => ?_)
          have hP := ct_keep hP hk1
          refine ct_val (y := nI (ct_pop (S ^^^ (B S).2))) (hwans203) ?_
          have hw3 := hw2 h4
          refine lv_isub hx hb d_P_listSteps_77 ?_
          refine ct_val (y := nI (n - ct_pop (S ^^^ (B S).2))) (pk_sub hw3) ?_
          refine lv_iload hx hb d_P_listSteps_78 (lv_at hl 1 rfl) ?_
          refine ct_iast hx hb hK hP hD hS 2 0 rfl rfl (j := n - ct_pop (S ^^^ (B S).2)) (by omega) (by omega) d_P_listSteps_80 (fun H locs hP hD hS => ?_)
          have hP : va_P (dC, dI) ct_cl [(p0, .inr (2, [.ref z0, .ref p1, .ref p2, .ref p3, .ref p4, .ref p5])), (p4, .inl (cI, 64, .inl fp)), (p5, .inl (cI, 5, .inl (upd g (n - ct_pop (S ^^^ (B S).2)) (nI (B S).2))))] H := hP
          have hD : va_D A [(p0, .inr (2, [.ref z0, .ref p1, .ref p2, .ref p3, .ref p4, .ref p5])), (p4, .inl (cI, 64, .inl fp)), (p5, .inl (cI, 5, .inl (upd g (n - ct_pop (S ^^^ (B S).2)) (nI (B S).2))))] := hD
          have eg : ct_wr B g n S = (upd g (n - ct_pop (S ^^^ (B S).2)) (nI (B S).2)) := by rw [ct_wr]; simp only [if_neg h3, if_pos h4]
          rw [← eg] at hP hD
          refine lv_iinc (v := (nI n - 1)) (lv' := [(3, .int (nI n - 1)), (5, .int (nI (S ^^^ (B S).2))), (4, .int (nI (B S).2)), (0, .ref p0), (1, .int (nI (2 ^ K - 1))), (2, .int (nI (K - 1)))]) hx hb d_P_listSteps_81 hl (k := 5) rfl (by rw [Int32.sub_eq_add_neg]; rfl) (by decide) rfl (fun ls hl => ?_)
          refine lv_goto (tgt := 13) hx hb d_P_listSteps_84 (by decide) ?_
          exact ih (ct_wr B g n S) L2 (by omega) hinv2 H locs hP hD hS ls (lv_sub hl [3, 4, 5, 0] rfl)
        · rw [if_neg h4]
          refine lv_if_eq (tgt := 81) hx hb d_P_listSteps_64 (by decide) (fun _ => ?_) (fun hc9 => absurd (nI_0) hc9)
          have eg : ct_wr B g n S = g := by rw [ct_wr]; simp only [if_neg h3, if_neg h4]
          rw [← eg] at hP hD
          refine lv_iinc (v := (nI n - 1)) (lv' := [(3, .int (nI n - 1)), (5, .int (nI (S ^^^ (B S).2))), (4, .int (nI (B S).2)), (0, .ref p0), (1, .int (nI (2 ^ K - 1))), (2, .int (nI (K - 1)))]) hx hb d_P_listSteps_81 hl (k := 5) rfl (by rw [Int32.sub_eq_add_neg]; rfl) (by decide) rfl (fun ls hl => ?_)
          refine lv_goto (tgt := 13) hx hb d_P_listSteps_84 (by decide) ?_
          exact ih (ct_wr B g n S) L2 (by omega) hinv2 H locs hP hD hS ls (lv_sub hl [3, 4, 5, 0] rfl)
  refine lv_aload_n hx hb d_P_listSteps_0 rfl (lv_at hl 0 rfl) ?_
  refine va_get (D := (dC, dI)) (ci := 2) (v := .ref p5) (C := R_P) (T := T_P) (N := 6) hx hb hts (fun w h9 => ct_tl (ki_P w h9)) hown hK hP 0 rfl rfl 5 (by decide) (hts _ (ct_tl kw_72)) (fun _ h9 => h9) rfl d_P_listSteps_1 ?_
  refine lv_iload_n hx hb d_P_listSteps_4 rfl (lv_at hl 2 rfl) ?_
  refine lv_iconst (v := (nI 1)) hx hb d_P_listSteps_5 (by decide) ?_
  refine lv_isub hx hb d_P_listSteps_6 ?_
  refine ct_val (y := nI (K - 1 - 1)) (pk_sub (by omega)) ?_
  refine lv_iload_n hx hb d_P_listSteps_7 rfl (lv_at hl 1 rfl) ?_
  refine ct_iast hx hb hK hP hD hS 2 0 rfl rfl (j := K - 1 - 1) (by omega) (by omega) d_P_listSteps_8 (fun H locs hP hD hS => ?_)
  have hP : va_P (dC, dI) ct_cl [(p0, .inr (2, [.ref z0, .ref p1, .ref p2, .ref p3, .ref p4, .ref p5])), (p4, .inl (cI, 64, .inl fp)), (p5, .inl (cI, 5, .inl (upd fj (K - 1 - 1) (nI (2 ^ K - 1)))))] H := hP
  have hD : va_D A [(p0, .inr (2, [.ref z0, .ref p1, .ref p2, .ref p3, .ref p4, .ref p5])), (p4, .inl (cI, 64, .inl fp)), (p5, .inl (cI, 5, .inl (upd fj (K - 1 - 1) (nI (2 ^ K - 1)))))] := hD
  refine lv_iload_n hx hb d_P_listSteps_9 rfl (lv_at hl 2 rfl) ?_
  refine lv_iconst (v := (nI 1)) hx hb d_P_listSteps_10 (by decide) ?_
  refine lv_isub hx hb d_P_listSteps_11 ?_
  refine ct_val (y := nI (K - 1) - 1) (rfl) ?_
  refine lv_istore_n (lv' := [(3, .int (nI (K - 1) - 1)), (0, .ref p0), (1, .int (nI (2 ^ K - 1))), (2, .int (nI (K - 1)))]) hx hb d_P_listSteps_12 rfl hl (by decide) rfl (fun ls hl => ?_)
  have h0 := ct_inv_0 (B := B) (g := fj) hB (S := 2 ^ K - 1) (by omega) hsall
  rw [hT, hlen] at h0
  exact loop (K - 1) _ _ (Nat.le_refl _) h0 _ _ hP hD hS ls (lv_sub hl [1, 2, 3, 0] rfl)
