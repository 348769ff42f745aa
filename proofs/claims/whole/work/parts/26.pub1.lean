def ct_sok (x y : Int32) : Bool := ct_isn 8 x && (!decide (y < nI 1) && decide (y ≤ nI 3))
theorem ct_sok_of {x y : Int32} (h : ct_sok x y = true) : ∃ k v : Nat, k < 8 ∧ x = nI k ∧ y = nI v ∧ 0 < v ∧ v < 4 := by
  have h : ct_isn 8 x = true ∧ (¬ y < nI 1 ∧ y ≤ nI 3) := by simpa [ct_sok] using h
  obtain ⟨k, hk, h1⟩ := ct_isn_of (by omega) h.1
  have h0 : ¬ y < 0 := fun z => h.2.1 (Int32.lt_iff_toInt_lt.mpr (by
    have e1 := Int32.lt_iff_toInt_lt.mp z
    have e2 : (0 : Int32).toInt = 0 := by decide
    have e3 : (nI 1).toInt = 1 := by decide
    omega))
  obtain ⟨v, hv, rfl⟩ := nI_of h0
  refine ⟨k, v, hk, h1, rfl, ?_, ?_⟩
  · rcases Nat.eq_zero_or_pos v with h9 | h9
    · exact absurd (nI_lt (a := v) (b := 1) (by omega) (by omega)) h.2.1
    · exact h9
  · have := (nI_leI hv (by omega)).mp h.2.2
    omega
theorem d_H_size_0 : decode b_H_size 0 = .ok (.iload_n 1, 1) := by decide +kernel
theorem d_H_size_1 : decode b_H_size 1 = .ok (.ifCond .lt 9, 3) := by decide +kernel
theorem d_H_size_4 : decode b_H_size 4 = .ok (.iload_n 1, 1) := by decide +kernel
theorem d_H_size_5 : decode b_H_size 5 = .ok (.bipush 8, 2) := by decide +kernel
theorem d_H_size_7 : decode b_H_size 7 = .ok (.if_icmp .lt 13, 3) := by decide +kernel
theorem d_H_size_10 : decode b_H_size 10 = .ok (.new 45, 3) := by decide +kernel
theorem d_H_size_13 : decode b_H_size 13 = .ok (.dup, 1) := by decide +kernel
theorem d_H_size_14 : decode b_H_size 14 = .ok (.ldc 47, 2) := by decide +kernel
theorem d_H_size_16 : decode b_H_size 16 = .ok (.invokespecial 49, 3) := by decide +kernel
theorem d_H_size_19 : decode b_H_size 19 = .ok (.athrow, 1) := by decide +kernel
theorem d_H_size_20 : decode b_H_size 20 = .ok (.iload_n 2, 1) := by decide +kernel
theorem d_H_size_21 : decode b_H_size 21 = .ok (.iconst 1, 1) := by decide +kernel
theorem d_H_size_22 : decode b_H_size 22 = .ok (.if_icmp .lt 8, 3) := by decide +kernel
theorem d_H_size_25 : decode b_H_size 25 = .ok (.iload_n 2, 1) := by decide +kernel
theorem d_H_size_26 : decode b_H_size 26 = .ok (.iconst 3, 1) := by decide +kernel
theorem d_H_size_27 : decode b_H_size 27 = .ok (.if_icmp .le 13, 3) := by decide +kernel
theorem d_H_size_30 : decode b_H_size 30 = .ok (.new 45, 3) := by decide +kernel
theorem d_H_size_33 : decode b_H_size 33 = .ok (.dup, 1) := by decide +kernel
theorem d_H_size_34 : decode b_H_size 34 = .ok (.ldc 52, 2) := by decide +kernel
theorem d_H_size_36 : decode b_H_size 36 = .ok (.invokespecial 49, 3) := by decide +kernel
theorem d_H_size_39 : decode b_H_size 39 = .ok (.athrow, 1) := by decide +kernel
theorem d_H_size_40 : decode b_H_size 40 = .ok (.aload_n 0, 1) := by decide +kernel
theorem d_H_size_41 : decode b_H_size 41 = .ok (.iload_n 1, 1) := by decide +kernel
theorem d_H_size_42 : decode b_H_size 42 = .ok (.invokevirtual 54, 3) := by decide +kernel
theorem d_H_size_45 : decode b_H_size 45 = .ok (.ifCond .eq 13, 3) := by decide +kernel
theorem d_H_size_48 : decode b_H_size 48 = .ok (.new 58, 3) := by decide +kernel
theorem d_H_size_51 : decode b_H_size 51 = .ok (.dup, 1) := by decide +kernel
theorem d_H_size_52 : decode b_H_size 52 = .ok (.ldc 60, 2) := by decide +kernel
theorem d_H_size_54 : decode b_H_size 54 = .ok (.invokespecial 62, 3) := by decide +kernel
theorem d_H_size_57 : decode b_H_size 57 = .ok (.athrow, 1) := by decide +kernel
theorem d_H_size_58 : decode b_H_size 58 = .ok (.aload_n 0, 1) := by decide +kernel
theorem d_H_size_59 : decode b_H_size 59 = .ok (.getfield 12, 3) := by decide +kernel
theorem d_H_size_62 : decode b_H_size 62 = .ok (.iload_n 1, 1) := by decide +kernel
theorem d_H_size_63 : decode b_H_size 63 = .ok (.iload_n 2, 1) := by decide +kernel
theorem d_H_size_64 : decode b_H_size 64 = .ok (.invokevirtual 63, 3) := by decide +kernel
theorem d_H_size_67 : decode b_H_size 67 = .ok (.aload_n 0, 1) := by decide +kernel
theorem d_H_size_68 : decode b_H_size 68 = .ok (.iconst 0, 1) := by decide +kernel
theorem d_H_size_69 : decode b_H_size 69 = .ok (.putfield 67, 3) := by decide +kernel
theorem d_H_size_72 : decode b_H_size 72 = .ok (.return_, 1) := by decide +kernel
theorem d_H_table_0 : decode b_H_table 0 = .ok (.iload_n 1, 1) := by decide +kernel
theorem d_H_table_1 : decode b_H_table 1 = .ok (.iload_n 2, 1) := by decide +kernel
theorem d_H_table_2 : decode b_H_table 2 = .ok (.iload_n 3, 1) := by decide +kernel
theorem d_H_table_3 : decode b_H_table 3 = .ok (.invokestatic 71, 3) := by decide +kernel
theorem d_H_table_6 : decode b_H_table 6 = .ok (.ifCond .ne 13, 3) := by decide +kernel
theorem d_H_table_9 : decode b_H_table 9 = .ok (.new 45, 3) := by decide +kernel
theorem d_H_table_12 : decode b_H_table 12 = .ok (.dup, 1) := by decide +kernel
theorem d_H_table_13 : decode b_H_table 13 = .ok (.ldc 75, 2) := by decide +kernel
theorem d_H_table_15 : decode b_H_table 15 = .ok (.invokespecial 49, 3) := by decide +kernel
theorem d_H_table_18 : decode b_H_table 18 = .ok (.athrow, 1) := by decide +kernel
theorem d_H_table_19 : decode b_H_table 19 = .ok (.aload_n 0, 1) := by decide +kernel
theorem d_H_table_20 : decode b_H_table 20 = .ok (.getfield 77, 3) := by decide +kernel
theorem d_H_table_23 : decode b_H_table 23 = .ok (.bipush 8, 2) := by decide +kernel
theorem d_H_table_25 : decode b_H_table 25 = .ok (.if_icmp .lt 13, 3) := by decide +kernel
theorem d_H_table_28 : decode b_H_table 28 = .ok (.new 81, 3) := by decide +kernel
theorem d_H_table_31 : decode b_H_table 31 = .ok (.dup, 1) := by decide +kernel
theorem d_H_table_32 : decode b_H_table 32 = .ok (.ldc 83, 2) := by decide +kernel
theorem d_H_table_34 : decode b_H_table 34 = .ok (.invokespecial 85, 3) := by decide +kernel
theorem d_H_table_37 : decode b_H_table 37 = .ok (.athrow, 1) := by decide +kernel
theorem d_H_table_38 : decode b_H_table 38 = .ok (.aload_n 0, 1) := by decide +kernel
theorem d_H_table_39 : decode b_H_table 39 = .ok (.getfield 32, 3) := by decide +kernel
theorem d_H_table_42 : decode b_H_table 42 = .ok (.aload_n 0, 1) := by decide +kernel
theorem d_H_table_43 : decode b_H_table 43 = .ok (.getfield 77, 3) := by decide +kernel
theorem d_H_table_46 : decode b_H_table 46 = .ok (.iload_n 1, 1) := by decide +kernel
theorem d_H_table_47 : decode b_H_table 47 = .ok (.iload_n 2, 1) := by decide +kernel
theorem d_H_table_48 : decode b_H_table 48 = .ok (.iload_n 3, 1) := by decide +kernel
theorem d_H_table_49 : decode b_H_table 49 = .ok (.invokestatic 86, 3) := by decide +kernel
theorem d_H_table_52 : decode b_H_table 52 = .ok (.iastore, 1) := by decide +kernel
theorem d_H_table_53 : decode b_H_table 53 = .ok (.aload_n 0, 1) := by decide +kernel
theorem d_H_table_54 : decode b_H_table 54 = .ok (.dup, 1) := by decide +kernel
theorem d_H_table_55 : decode b_H_table 55 = .ok (.getfield 77, 3) := by decide +kernel
theorem d_H_table_58 : decode b_H_table 58 = .ok (.iconst 1, 1) := by decide +kernel
theorem d_H_table_59 : decode b_H_table 59 = .ok (.iadd, 1) := by decide +kernel
theorem d_H_table_60 : decode b_H_table 60 = .ok (.putfield 77, 3) := by decide +kernel
theorem d_H_table_63 : decode b_H_table 63 = .ok (.aload_n 0, 1) := by decide +kernel
theorem d_H_table_64 : decode b_H_table 64 = .ok (.getfield 77, 3) := by decide +kernel
theorem d_H_table_67 : decode b_H_table 67 = .ok (.iconst 1, 1) := by decide +kernel
theorem d_H_table_68 : decode b_H_table 68 = .ok (.isub, 1) := by decide +kernel
theorem d_H_table_69 : decode b_H_table 69 = .ok (.ireturn, 1) := by decide +kernel
theorem d_H_extent_0 : decode b_H_extent 0 = .ok (.aload_n 0, 1) := by decide +kernel
theorem d_H_extent_1 : decode b_H_extent 1 = .ok (.iload_n 1, 1) := by decide +kernel
theorem d_H_extent_2 : decode b_H_extent 2 = .ok (.invokevirtual 90, 3) := by decide +kernel
theorem d_H_extent_5 : decode b_H_extent 5 = .ok (.ifCond .ne 13, 3) := by decide +kernel
theorem d_H_extent_8 : decode b_H_extent 8 = .ok (.new 93, 3) := by decide +kernel
theorem d_H_extent_11 : decode b_H_extent 11 = .ok (.dup, 1) := by decide +kernel
theorem d_H_extent_12 : decode b_H_extent 12 = .ok (.ldc 95, 2) := by decide +kernel
theorem d_H_extent_14 : decode b_H_extent 14 = .ok (.invokespecial 97, 3) := by decide +kernel
theorem d_H_extent_17 : decode b_H_extent 17 = .ok (.athrow, 1) := by decide +kernel
theorem d_H_extent_18 : decode b_H_extent 18 = .ok (.aload_n 0, 1) := by decide +kernel
theorem d_H_extent_19 : decode b_H_extent 19 = .ok (.getfield 12, 3) := by decide +kernel
theorem d_H_extent_22 : decode b_H_extent 22 = .ok (.aload_n 0, 1) := by decide +kernel
theorem d_H_extent_23 : decode b_H_extent 23 = .ok (.getfield 32, 3) := by decide +kernel
theorem d_H_extent_26 : decode b_H_extent 26 = .ok (.iload_n 1, 1) := by decide +kernel
theorem d_H_extent_27 : decode b_H_extent 27 = .ok (.iaload, 1) := by decide +kernel
theorem d_H_extent_28 : decode b_H_extent 28 = .ok (.invokevirtual 98, 3) := by decide +kernel
theorem d_H_extent_31 : decode b_H_extent 31 = .ok (.ireturn, 1) := by decide +kernel
theorem d_H_operand_0 : decode b_H_operand 0 = .ok (.aload_n 0, 1) := by decide +kernel
theorem d_H_operand_1 : decode b_H_operand 1 = .ok (.iload_n 1, 1) := by decide +kernel
theorem d_H_operand_2 : decode b_H_operand 2 = .ok (.invokevirtual 90, 3) := by decide +kernel
theorem d_H_operand_5 : decode b_H_operand 5 = .ok (.ifCond .ne 13, 3) := by decide +kernel
theorem d_H_operand_8 : decode b_H_operand 8 = .ok (.new 93, 3) := by decide +kernel
theorem d_H_operand_11 : decode b_H_operand 11 = .ok (.dup, 1) := by decide +kernel
theorem d_H_operand_12 : decode b_H_operand 12 = .ok (.ldc 95, 2) := by decide +kernel
theorem d_H_operand_14 : decode b_H_operand 14 = .ok (.invokespecial 97, 3) := by decide +kernel
theorem d_H_operand_17 : decode b_H_operand 17 = .ok (.athrow, 1) := by decide +kernel
theorem d_H_operand_18 : decode b_H_operand 18 = .ok (.aload_n 0, 1) := by decide +kernel
theorem d_H_operand_19 : decode b_H_operand 19 = .ok (.getfield 110, 3) := by decide +kernel
theorem d_H_operand_22 : decode b_H_operand 22 = .ok (.bipush 6, 2) := by decide +kernel
theorem d_H_operand_24 : decode b_H_operand 24 = .ok (.if_icmp .lt 13, 3) := by decide +kernel
theorem d_H_operand_27 : decode b_H_operand 27 = .ok (.new 81, 3) := by decide +kernel
theorem d_H_operand_30 : decode b_H_operand 30 = .ok (.dup, 1) := by decide +kernel
theorem d_H_operand_31 : decode b_H_operand 31 = .ok (.ldc 119, 2) := by decide +kernel
theorem d_H_operand_33 : decode b_H_operand 33 = .ok (.invokespecial 85, 3) := by decide +kernel
theorem d_H_operand_36 : decode b_H_operand 36 = .ok (.athrow, 1) := by decide +kernel
theorem d_H_operand_37 : decode b_H_operand 37 = .ok (.aload_n 0, 1) := by decide +kernel
theorem d_H_operand_38 : decode b_H_operand 38 = .ok (.getfield 36, 3) := by decide +kernel
theorem d_H_operand_41 : decode b_H_operand 41 = .ok (.aload_n 0, 1) := by decide +kernel
theorem d_H_operand_42 : decode b_H_operand 42 = .ok (.getfield 110, 3) := by decide +kernel
theorem d_H_operand_45 : decode b_H_operand 45 = .ok (.iload_n 1, 1) := by decide +kernel
theorem d_H_operand_46 : decode b_H_operand 46 = .ok (.iastore, 1) := by decide +kernel
theorem d_H_operand_47 : decode b_H_operand 47 = .ok (.aload_n 0, 1) := by decide +kernel
theorem d_H_operand_48 : decode b_H_operand 48 = .ok (.getfield 39, 3) := by decide +kernel
theorem d_H_operand_51 : decode b_H_operand 51 = .ok (.aload_n 0, 1) := by decide +kernel
theorem d_H_operand_52 : decode b_H_operand 52 = .ok (.getfield 110, 3) := by decide +kernel
theorem d_H_operand_55 : decode b_H_operand 55 = .ok (.aload_n 0, 1) := by decide +kernel
theorem d_H_operand_56 : decode b_H_operand 56 = .ok (.getfield 32, 3) := by decide +kernel
theorem d_H_operand_59 : decode b_H_operand 59 = .ok (.iload_n 1, 1) := by decide +kernel
theorem d_H_operand_60 : decode b_H_operand 60 = .ok (.iaload, 1) := by decide +kernel
theorem d_H_operand_61 : decode b_H_operand 61 = .ok (.iastore, 1) := by decide +kernel
theorem d_H_operand_62 : decode b_H_operand 62 = .ok (.aload_n 0, 1) := by decide +kernel
theorem d_H_operand_63 : decode b_H_operand 63 = .ok (.dup, 1) := by decide +kernel
theorem d_H_operand_64 : decode b_H_operand 64 = .ok (.getfield 110, 3) := by decide +kernel
theorem d_H_operand_67 : decode b_H_operand 67 = .ok (.iconst 1, 1) := by decide +kernel
theorem d_H_operand_68 : decode b_H_operand 68 = .ok (.iadd, 1) := by decide +kernel
theorem d_H_operand_69 : decode b_H_operand 69 = .ok (.putfield 110, 3) := by decide +kernel
theorem d_H_operand_72 : decode b_H_operand 72 = .ok (.aload_n 0, 1) := by decide +kernel
theorem d_H_operand_73 : decode b_H_operand 73 = .ok (.invokevirtual 116, 3) := by decide +kernel
theorem d_H_operand_76 : decode b_H_operand 76 = .ok (.aload_n 0, 1) := by decide +kernel
theorem d_H_operand_77 : decode b_H_operand 77 = .ok (.getfield 110, 3) := by decide +kernel
theorem d_H_operand_80 : decode b_H_operand 80 = .ok (.iconst 1, 1) := by decide +kernel
theorem d_H_operand_81 : decode b_H_operand 81 = .ok (.isub, 1) := by decide +kernel
theorem d_H_operand_82 : decode b_H_operand 82 = .ok (.ireturn, 1) := by decide +kernel
theorem d_H_result_0 : decode b_H_result 0 = .ok (.iload_n 1, 1) := by decide +kernel
theorem d_H_result_1 : decode b_H_result 1 = .ok (.iload_n 2, 1) := by decide +kernel
theorem d_H_result_2 : decode b_H_result 2 = .ok (.iload_n 3, 1) := by decide +kernel
theorem d_H_result_3 : decode b_H_result 3 = .ok (.invokestatic 71, 3) := by decide +kernel
theorem d_H_result_6 : decode b_H_result 6 = .ok (.ifCond .ne 13, 3) := by decide +kernel
theorem d_H_result_9 : decode b_H_result 9 = .ok (.new 45, 3) := by decide +kernel
theorem d_H_result_12 : decode b_H_result 12 = .ok (.dup, 1) := by decide +kernel
theorem d_H_result_13 : decode b_H_result 13 = .ok (.ldc 75, 2) := by decide +kernel
theorem d_H_result_15 : decode b_H_result 15 = .ok (.invokespecial 49, 3) := by decide +kernel
theorem d_H_result_18 : decode b_H_result 18 = .ok (.athrow, 1) := by decide +kernel
theorem d_H_result_19 : decode b_H_result 19 = .ok (.aload_n 0, 1) := by decide +kernel
theorem d_H_result_20 : decode b_H_result 20 = .ok (.iload_n 1, 1) := by decide +kernel
theorem d_H_result_21 : decode b_H_result 21 = .ok (.iload_n 2, 1) := by decide +kernel
theorem d_H_result_22 : decode b_H_result 22 = .ok (.iload_n 3, 1) := by decide +kernel
theorem d_H_result_23 : decode b_H_result 23 = .ok (.invokestatic 86, 3) := by decide +kernel
theorem d_H_result_26 : decode b_H_result 26 = .ok (.putfield 113, 3) := by decide +kernel
theorem d_H_result_29 : decode b_H_result 29 = .ok (.aload_n 0, 1) := by decide +kernel
theorem d_H_result_30 : decode b_H_result 30 = .ok (.invokevirtual 116, 3) := by decide +kernel
theorem d_H_result_33 : decode b_H_result 33 = .ok (.aload_n 0, 1) := by decide +kernel
theorem d_H_result_34 : decode b_H_result 34 = .ok (.getfield 12, 3) := by decide +kernel
theorem d_H_result_37 : decode b_H_result 37 = .ok (.aload_n 0, 1) := by decide +kernel
theorem d_H_result_38 : decode b_H_result 38 = .ok (.getfield 113, 3) := by decide +kernel
theorem d_H_result_41 : decode b_H_result 41 = .ok (.invokevirtual 98, 3) := by decide +kernel
theorem d_H_result_44 : decode b_H_result 44 = .ok (.ireturn, 1) := by decide +kernel
theorem d_H_about_0 : decode b_H_about 0 = .ok (.iload_n 1, 1) := by decide +kernel
theorem d_H_about_1 : decode b_H_about 1 = .ok (.tableswitch 51 0 3 #[31, 36, 41, 46], 31) := by decide +kernel
theorem d_H_about_32 : decode b_H_about 32 = .ok (.aload_n 0, 1) := by decide +kernel
theorem d_H_about_33 : decode b_H_about 33 = .ok (.getfield 77, 3) := by decide +kernel
theorem d_H_about_36 : decode b_H_about 36 = .ok (.ireturn, 1) := by decide +kernel
theorem d_H_about_37 : decode b_H_about 37 = .ok (.aload_n 0, 1) := by decide +kernel
theorem d_H_about_38 : decode b_H_about 38 = .ok (.getfield 110, 3) := by decide +kernel
theorem d_H_about_41 : decode b_H_about 41 = .ok (.ireturn, 1) := by decide +kernel
theorem d_H_about_42 : decode b_H_about 42 = .ok (.aload_n 0, 1) := by decide +kernel
theorem d_H_about_43 : decode b_H_about 43 = .ok (.getfield 113, 3) := by decide +kernel
theorem d_H_about_46 : decode b_H_about 46 = .ok (.ireturn, 1) := by decide +kernel
theorem d_H_about_47 : decode b_H_about 47 = .ok (.aload_n 0, 1) := by decide +kernel
theorem d_H_about_48 : decode b_H_about 48 = .ok (.invokevirtual 131, 3) := by decide +kernel
theorem d_H_about_51 : decode b_H_about 51 = .ok (.ireturn, 1) := by decide +kernel
theorem d_H_about_52 : decode b_H_about 52 = .ok (.new 45, 3) := by decide +kernel
theorem d_H_about_55 : decode b_H_about 55 = .ok (.dup, 1) := by decide +kernel
theorem d_H_about_56 : decode b_H_about 56 = .ok (.ldc 136, 2) := by decide +kernel
theorem d_H_about_58 : decode b_H_about 58 = .ok (.invokespecial 49, 3) := by decide +kernel
theorem d_H_about_61 : decode b_H_about 61 = .ok (.athrow, 1) := by decide +kernel
theorem d_H_set_0 : decode b_H_set 0 = .ok (.aload_n 0, 1) := by decide +kernel
theorem d_H_set_1 : decode b_H_set 1 = .ok (.iload_n 1, 1) := by decide +kernel
theorem d_H_set_2 : decode b_H_set 2 = .ok (.invokevirtual 90, 3) := by decide +kernel
theorem d_H_set_5 : decode b_H_set 5 = .ok (.ifCond .ne 13, 3) := by decide +kernel
theorem d_H_set_8 : decode b_H_set 8 = .ok (.new 93, 3) := by decide +kernel
theorem d_H_set_11 : decode b_H_set 11 = .ok (.dup, 1) := by decide +kernel
theorem d_H_set_12 : decode b_H_set 12 = .ok (.ldc 95, 2) := by decide +kernel
theorem d_H_set_14 : decode b_H_set 14 = .ok (.invokespecial 97, 3) := by decide +kernel
theorem d_H_set_17 : decode b_H_set 17 = .ok (.athrow, 1) := by decide +kernel
theorem d_H_set_18 : decode b_H_set 18 = .ok (.iload_n 2, 1) := by decide +kernel
theorem d_H_set_19 : decode b_H_set 19 = .ok (.ifCond .lt 20, 3) := by decide +kernel
theorem d_H_set_22 : decode b_H_set 22 = .ok (.iload_n 2, 1) := by decide +kernel
theorem d_H_set_23 : decode b_H_set 23 = .ok (.aload_n 0, 1) := by decide +kernel
theorem d_H_set_24 : decode b_H_set 24 = .ok (.getfield 12, 3) := by decide +kernel
theorem d_H_set_27 : decode b_H_set 27 = .ok (.aload_n 0, 1) := by decide +kernel
theorem d_H_set_28 : decode b_H_set 28 = .ok (.getfield 32, 3) := by decide +kernel
theorem d_H_set_31 : decode b_H_set 31 = .ok (.iload_n 1, 1) := by decide +kernel
theorem d_H_set_32 : decode b_H_set 32 = .ok (.iaload, 1) := by decide +kernel
theorem d_H_set_33 : decode b_H_set 33 = .ok (.invokevirtual 98, 3) := by decide +kernel
theorem d_H_set_36 : decode b_H_set 36 = .ok (.if_icmp .lt 13, 3) := by decide +kernel
theorem d_H_set_39 : decode b_H_set 39 = .ok (.new 93, 3) := by decide +kernel
theorem d_H_set_42 : decode b_H_set 42 = .ok (.dup, 1) := by decide +kernel
theorem d_H_set_43 : decode b_H_set 43 = .ok (.ldc 102, 2) := by decide +kernel
theorem d_H_set_45 : decode b_H_set 45 = .ok (.invokespecial 97, 3) := by decide +kernel
theorem d_H_set_48 : decode b_H_set 48 = .ok (.athrow, 1) := by decide +kernel
theorem d_H_set_49 : decode b_H_set 49 = .ok (.aload_n 0, 1) := by decide +kernel
theorem d_H_set_50 : decode b_H_set 50 = .ok (.getfield 28, 3) := by decide +kernel
theorem d_H_set_53 : decode b_H_set 53 = .ok (.iload_n 1, 1) := by decide +kernel
theorem d_H_set_54 : decode b_H_set 54 = .ok (.invokestatic 104, 3) := by decide +kernel
theorem d_H_set_57 : decode b_H_set 57 = .ok (.iload_n 2, 1) := by decide +kernel
theorem d_H_set_58 : decode b_H_set 58 = .ok (.iadd, 1) := by decide +kernel
theorem d_H_set_59 : decode b_H_set 59 = .ok (.iload_n 3, 1) := by decide +kernel
theorem d_H_set_60 : decode b_H_set 60 = .ok (.invokevirtual 107, 3) := by decide +kernel
theorem d_H_set_63 : decode b_H_set 63 = .ok (.aload_n 0, 1) := by decide +kernel
theorem d_H_set_64 : decode b_H_set 64 = .ok (.iconst 0, 1) := by decide +kernel
theorem d_H_set_65 : decode b_H_set 65 = .ok (.putfield 67, 3) := by decide +kernel
theorem d_H_set_68 : decode b_H_set 68 = .ok (.return_, 1) := by decide +kernel
theorem d_H_clear_0 : decode b_H_clear 0 = .ok (.aload_n 0, 1) := by decide +kernel
theorem d_H_clear_1 : decode b_H_clear 1 = .ok (.iconst 0, 1) := by decide +kernel
theorem d_H_clear_2 : decode b_H_clear 2 = .ok (.putfield 110, 3) := by decide +kernel
theorem d_H_clear_5 : decode b_H_clear 5 = .ok (.aload_n 0, 1) := by decide +kernel
theorem d_H_clear_6 : decode b_H_clear 6 = .ok (.iconst 0, 1) := by decide +kernel
theorem d_H_clear_7 : decode b_H_clear 7 = .ok (.putfield 113, 3) := by decide +kernel
theorem d_H_clear_10 : decode b_H_clear 10 = .ok (.aload_n 0, 1) := by decide +kernel
theorem d_H_clear_11 : decode b_H_clear 11 = .ok (.invokevirtual 116, 3) := by decide +kernel
theorem d_H_clear_14 : decode b_H_clear 14 = .ok (.return_, 1) := by decide +kernel
set_option maxHeartbeats 4000000 in
set_option maxRecDepth 100000 in
theorem c_H_size (l : Launch) (hst : l.stackTraces = false) (dC : Nat → ClassId) (dI : Nat → Nat → Nat) (cI : ClassId) (z1 : Nat) (sz : Nat → Nat) (h0 z0 p0 r0 k1 k2 k3 k4 : Nat) (T : Nat) (ops res pl sm : Int32) (f : Nat → Int32) (lab : Nat → Nat) (hT8 : T ≤ 8) (hf : ∀ t, t < T → f t = nI (lab t)) (hlab : ∀ t, t < T → lab t < 256) (x y : Int32) (sz0 : Nat) : vx_Met l y_H_size w_H_size ({ frames := 6, cells := 1, slots := 6, locals := 90 }) (va_Pc [.ref h0, .int x, .int y] (ct_rx (dC, dI) ct_cl [(h0, .inr (0, [.ref z0, .ref p0, .ref r0, .int (nI T), .ref k1, .int ops, .ref k2, .ref k3, .int res, .ref k4, .int pl, .int sm])), (k1, .inl (cI, 8, .inl f)), (z0, .inr (1, [.ref z1])), (z1, .inl (cI, 8, .inl (fun j => nI (sz j))))] [(cI, .int)] sz0)) (va_Qv (fun (u : Nat → Nat) => ∃ k v : Nat, k < 8 ∧ x = nI k ∧ y = nI v ∧ 0 < v ∧ v < 4 ∧ ct_any lab k T = false ∧ ct_sok x y = true ∧ u = ct_st sz k v) (fun (u : Nat → Nat) t => ct_at (dC, dI) ct_cl [(cI, .int)] (va_A [(h0, .inr (0, [.ref z0, .ref p0, .ref r0, .int (nI T), .ref k1, .int ops, .ref k2, .ref k3, .int res, .ref k4, .int pl, .int sm])), (k1, .inl (cI, 8, .inl f)), (z0, .inr (1, [.ref z1])), (z1, .inl (cI, 8, .inl (fun j => nI (sz j))))] sz0) [(h0, .inr (0, [.ref z0, .ref p0, .ref r0, .int (nI T), .ref k1, .int ops, .ref k2, .ref k3, .int res, .ref k4, .int pl, .int (nI 0)])), (k1, .inl (cI, 8, .inl f)), (z0, .inr (1, [.ref z1])), (z1, .inl (cI, 8, .inl (fun j => nI (u j))))] t) (va_A [(h0, .inr (0, [.ref z0, .ref p0, .ref r0, .int (nI T), .ref k1, .int ops, .ref k2, .ref k3, .int res, .ref k4, .int pl, .int sm])), (k1, .inl (cI, 8, .inl f)), (z0, .inr (1, [.ref z1])), (z1, .inl (cI, 8, .inl (fun j => nI (sz j))))] sz0)) (vx_X (fun (_ : Unit) => True) (fun (E : String) (_ : Unit) t => ((ct_sok x y = false ∧ E = R_IAE) ∨ (ct_sok x y = true ∧ E = R_ISE ∧ ∃ k : Nat, k < 8 ∧ x = nI k ∧ ct_any lab k T = true)) ∧ ct_at (dC, dI) ct_cl [(cI, .int)] (va_A [(h0, .inr (0, [.ref z0, .ref p0, .ref r0, .int (nI T), .ref k1, .int ops, .ref k2, .ref k3, .int res, .ref k4, .int pl, .int sm])), (k1, .inl (cI, 8, .inl f)), (z0, .inr (1, [.ref z1])), (z1, .inl (cI, 8, .inl (fun j => nI (sz j))))] sz0) [(h0, .inr (0, [.ref z0, .ref p0, .ref r0, .int (nI T), .ref k1, .int ops, .ref k2, .ref k3, .int res, .ref k4, .int pl, .int sm])), (k1, .inl (cI, 8, .inl f)), (z0, .inr (1, [.ref z1])), (z1, .inl (cI, 8, .inl (fun j => nI (sz j))))] t) (va_A [(h0, .inr (0, [.ref z0, .ref p0, .ref r0, .int (nI T), .ref k1, .int ops, .ref k2, .ref k3, .int res, .ref k4, .int pl, .int sm])), (k1, .inl (cI, 8, .inl f)), (z0, .inr (1, [.ref z1])), (z1, .inl (cI, 8, .inl (fun j => nI (sz j))))] sz0)) 1 6 (va_A [(h0, .inr (0, [.ref z0, .ref p0, .ref r0, .int (nI T), .ref k1, .int ops, .ref k2, .ref k3, .int res, .ref k4, .int pl, .int sm])), (k1, .inl (cI, 8, .inl f)), (z0, .inr (1, [.ref z1])), (z1, .inl (cI, 8, .inl (fun j => nI (sz j))))] sz0) := by
  refine vx_ofW (cc := b_H_size) (maxL := 3) (ret := none) (by decide) rfl ?_
  intro p e s m args below meth c s₁ Bd hml htab hv
  obtain ⟨hargs, ⟨hsz, hP, hK, hD0⟩, hXw⟩ := hv
  have hx := Bd.exec
  have hb := Bd.bytes
  have hr := Bd.returns
  have hts : ∀ w ∈ k_H_size :: ct_tb, w.before args s = true := atoms_spec (ws := w_H_size) Bd.pre
  have hown : s.vm.findClass R_H = some m.cls := findClass_of_methodNamed Bd.named
  have hlocks := Bd.notSynchronized
  subst hsz
  have hD := hD0.self (sz := s.heap.size)
  generalize hAe : va_A [(h0, .inr (0, [.ref z0, .ref p0, .ref r0, .int (nI T), .ref k1, .int ops, .ref k2, .ref k3, .int res, .ref k4, .int pl, .int sm])), (k1, .inl (cI, 8, .inl f)), (z0, .inr (1, [.ref z1])), (z1, .inl (cI, 8, .inl (fun j => nI (sz j))))] s.heap.size = A at hD hXw ⊢
  have hA : ∀ q : Nat, s.heap.size ≤ q → A q := fun q h => by rw [← hAe]; exact Or.inr h
  have hS : va_S A s.heap s.heap [] := va_S.rf
  have hl := lv_entry ([.ref h0, .int x, .int y]) (n := 3) (Nat.le_of_ble_eq_true rfl)
  rw [show entryFrame m args 3 = entryFrame m (([.ref h0, .int x, .int y] : List Value)).toArray 3 by rw [hargs], lg_entry_eq]
  generalize (lg_sl ([.ref h0, .int x, .int y]) ++ List.replicate (3 - (lg_sl ([.ref h0, .int x, .int y])).length) Slot.unset).toArray = ls at hl ⊢
  have hl : lv_has ls 3 [(0, .ref h0), (1, .int x), (2, .int y)] := hl
  by_cases c1 : x < 0
  · refine lv_iload_n hx hb d_H_size_0 rfl (lv_at hl 1 rfl) ?_
    refine lv_if_lt (tgt := 10) hx hb d_H_size_1 (by decide) (fun _ => ?_) (fun hc9 => absurd (c1) hc9)
    obtain ⟨sa, hstr⟩ := hXw.2.1 (47, "no such label") (by decide)
    exact vx_throwS (own := R_H) (cls := R_IAE) (text := "no such label") (names := ct_sup) (sa := sa) hx hb hst hown kf_IAE.1 kf_IAE.2 (hts _ (ct_tl kl_IAE)) (hts _ (ct_tl kn_IAE)) hstr (kt_IAE hts hXw) kg_IAE hXw.2.2.1 hXw.2.2.2 hS (hl.1.trans hml.symm) d_H_size_10 d_H_size_13 d_H_size_14 d_H_size_16 d_H_size_19 (fun x hx9 => (htab x hx9).elim) (Nat.le_of_ble_eq_true rfl) (Nat.le_of_ble_eq_true rfl) (Nat.le_of_ble_eq_true rfl) (Nat.le_of_ble_eq_true rfl) hlocks (fun tS hal9 hz9 hk9 => ⟨(), trivial, ⟨Or.inl ⟨by simp [ct_sok, ct_isn, c1], rfl⟩, (ct_thr (hP.sub [0, 1, 2, 3] rfl) hK (hD.sub [0, 1, 2, 3] (by decide) rfl) hS hal9 hz9 hk9).1⟩, (ct_thr hP hK hD hS hal9 hz9 hk9).2⟩) hS.2.2 (Nat.le_of_ble_eq_true rfl) (Nat.le_of_ble_eq_true rfl)
  · refine lv_iload_n hx hb d_H_size_0 rfl (lv_at hl 1 rfl) ?_
    refine lv_if_lt (tgt := 10) hx hb d_H_size_1 (by decide) (fun hc9 => absurd hc9 (c1)) (fun _ => ?_)
    refine lv_iload_n hx hb d_H_size_4 rfl (lv_at hl 1 rfl) ?_
    refine lv_bipush (v := (nI 8)) hx hb d_H_size_5 (by decide) ?_
    by_cases c2 : x < nI 8
    · have c2n : ¬ nI 8 ≤ x := Int32.not_le.mpr c2
      refine lv_icmp_lt (tgt := 20) hx hb d_H_size_7 (by decide) (fun _ => ?_) (fun hc9 => absurd (c2) hc9)
      refine lv_iload_n hx hb d_H_size_20 rfl (lv_at hl 2 rfl) ?_
      refine lv_iconst (v := (nI 1)) hx hb d_H_size_21 (by decide) ?_
      by_cases c3 : y < nI 1
      · refine lv_icmp_lt (tgt := 30) hx hb d_H_size_22 (by decide) (fun _ => ?_) (fun hc9 => absurd (c3) hc9)
        obtain ⟨sa, hstr⟩ := hXw.2.1 (52, "no such size") (by decide)
        exact vx_throwS (own := R_H) (cls := R_IAE) (text := "no such size") (names := ct_sup) (sa := sa) hx hb hst hown kf_IAE.1 kf_IAE.2 (hts _ (ct_tl kl_IAE)) (hts _ (ct_tl kn_IAE)) hstr (kt_IAE hts hXw) kg_IAE hXw.2.2.1 hXw.2.2.2 hS (hl.1.trans hml.symm) d_H_size_30 d_H_size_33 d_H_size_34 d_H_size_36 d_H_size_39 (fun x hx9 => (htab x hx9).elim) (Nat.le_of_ble_eq_true rfl) (Nat.le_of_ble_eq_true rfl) (Nat.le_of_ble_eq_true rfl) (Nat.le_of_ble_eq_true rfl) hlocks (fun tS hal9 hz9 hk9 => ⟨(), trivial, ⟨Or.inl ⟨by simp [ct_sok, ct_isn, c3], rfl⟩, (ct_thr (hP.sub [0, 1, 2, 3] rfl) hK (hD.sub [0, 1, 2, 3] (by decide) rfl) hS hal9 hz9 hk9).1⟩, (ct_thr hP hK hD hS hal9 hz9 hk9).2⟩) hS.2.2 (Nat.le_of_ble_eq_true rfl) (Nat.le_of_ble_eq_true rfl)
      · refine lv_icmp_lt (tgt := 30) hx hb d_H_size_22 (by decide) (fun hc9 => absurd hc9 (c3)) (fun _ => ?_)
        refine lv_iload_n hx hb d_H_size_25 rfl (lv_at hl 2 rfl) ?_
        refine lv_iconst (v := (nI 3)) hx hb d_H_size_26 (by decide) ?_
        by_cases c4 : y ≤ nI 3
        · refine lv_icmp_le (tgt := 40) hx hb d_H_size_27 (by decide) (fun _ => ?_) (fun hc9 => absurd (c4) hc9)
          have hok : ct_sok x y = true := by simp [ct_sok, ct_isn, c1, c2n, c3, c4]
          obtain ⟨k, v, hk, hxk, hyv, hv0, hv4⟩ := ct_sok_of hok
          rw [hxk, hyv] at hl
          refine lv_aload_n hx hb d_H_size_40 rfl (lv_at hl 0 rfl) ?_
          refine lv_iload_n hx hb d_H_size_41 rfl (lv_at hl 1 rfl) ?_
          refine va_calli (va_runV (As := [.int (nI k)]) (rest := []) ⟨hx, hb, hml, hown, hts⟩ (c_H_aTableHas l dC dI cI h0 z0 p0 r0 k1 k2 k3 k4 T ops res pl sm f lab k hk hT8 hf hlab) (cwV 1 hts (ct_giV (fun w h9 => ct_tl h9) kw_295 kw_297 kw_8 kw_26 kw_298) rfl rfl rfl (by decide +kernel) ⟨Nat.le_of_ble_eq_true rfl, Nat.le_of_ble_eq_true rfl⟩) ⟨ct_ro_blind, va_recv hK hP (ci := 0) (q0 := 0) rfl rfl, ct_ro_pre (hP.sub [0, 1] rfl) hK⟩ rfl rfl hl.1 rfl (lv_room (Nat.le_of_ble_eq_true rfl)) d_H_size_42 ⟨Nat.zero_le _, Nat.zero_le _⟩) hS (fun q _ h9 => h9.elim) (fun q h9 => h9.elim) (fun ans401 uS tS H locs ht hvm hwans401 hB hz1 hk1 hS => ?_)
          have hP := ct_keep hP hk1
          refine ct_val (y := nI (if ct_any lab k T = true then 1 else 0)) (hwans401) ?_
          by_cases ha : ct_any lab k T = true
          · rw [if_pos ha]
            refine lv_if_eq (tgt := 58) hx hb d_H_size_45 (by decide) (fun hc9 => absurd hc9 (nI_ne0 (by omega) (by omega))) (fun _ => ?_)
            obtain ⟨sa, hstr⟩ := hXw.2.1 (60, "a table has the label") (by decide)
            exact vx_throwS (own := R_H) (cls := R_ISE) (text := "a table has the label") (names := ct_sup) (sa := sa) hx hb hst hown kf_ISE.1 kf_ISE.2 (hts _ (ct_tl kl_ISE)) (hts _ (ct_tl kn_ISE)) hstr (kt_ISE hts hXw) kg_ISE hXw.2.2.1 hXw.2.2.2 hS (hl.1.trans hml.symm) d_H_size_48 d_H_size_51 d_H_size_52 d_H_size_54 d_H_size_57 (fun x hx9 => (htab x hx9).elim) (Nat.le_of_ble_eq_true rfl) (Nat.le_of_ble_eq_true rfl) (Nat.le_of_ble_eq_true rfl) (Nat.le_of_ble_eq_true rfl) hlocks (fun tS hal9 hz9 hk9 => ⟨(), trivial, ⟨Or.inr ⟨hok, rfl, k, hk, hxk, ha⟩, (ct_thr (hP.sub [0, 1, 2, 3] rfl) hK (hD.sub [0, 1, 2, 3] (by decide) rfl) hS hal9 hz9 hk9).1⟩, (ct_thr hP hK hD hS hal9 hz9 hk9).2⟩) hS.2.2 (Nat.le_of_ble_eq_true rfl) (Nat.le_of_ble_eq_true rfl)
          · rw [if_neg ha]
            refine lv_if_eq (tgt := 58) hx hb d_H_size_45 (by decide) (fun _ => ?_) (fun hc9 => absurd (nI_0) hc9)
            refine lv_aload_n hx hb d_H_size_58 rfl (lv_at hl 0 rfl) ?_
            refine va_get (D := (dC, dI)) (ci := 0) (v := .ref z0) (C := R_H) (T := T_H) (N := 12) hx hb hts (fun w h9 => ct_tl (ki_H w h9)) hown hK hP 0 rfl rfl 0 (by decide) (hts _ (ct_tl kw_114)) (fun _ h9 => h9) rfl d_H_size_59 ?_
            refine lv_iload_n hx hb d_H_size_62 rfl (lv_at hl 1 rfl) ?_
            refine lv_iload_n hx hb d_H_size_63 rfl (lv_at hl 2 rfl) ?_
            have hPc := hP.sub (ws' := [(z0, .inr (1, [.ref z1])), (z1, .inl (cI, 8, .inl (fun j => nI (sz j))))]) [2, 3] rfl
            have hDc := hD.sub (ws' := [(z0, .inr (1, [.ref z1])), (z1, .inl (cI, 8, .inl (fun j => nI (sz j))))]) [2, 3] (by decide) rfl
            have hFc := va_free (wc := [(z0, .inr (1, [.ref z1])), (z1, .inl (cI, 8, .inl (fun j => nI (sz j))))]) hD hS hA [2, 3] rfl
            refine va_callv (va_runV (As := [.int (nI k), .int (nI v)]) (rest := []) ⟨hx, hb, hml, hown, hts⟩ (c_S_change l dC dI cI z0 z1 sz k v hk H.size) (cwV 2 hts (ct_giV (fun w h9 => ct_tl h9) kw_318 kw_319 kw_320 kw_27 kw_321) rfl rfl rfl (by decide +kernel) ⟨Nat.le_of_ble_eq_true rfl, Nat.le_of_ble_eq_true rfl⟩) ⟨ct_rw_blind, va_recv hK hP (ci := 1) (q0 := 2) rfl rfl, ct_rw_pre hPc hK hDc⟩ rfl rfl hl.1 rfl (lv_room (Nat.le_of_ble_eq_true rfl)) d_H_size_64 ⟨Nat.zero_le _, Nat.zero_le _⟩) hS (fun q _ h9 => hFc q h9) hFc (fun u tS H1 locs ht hvm hw502 hB hz1 hk1 hS => ?_)
            obtain ⟨hP1, -, hD1⟩ := hB
            rw [ht] at hP1
            obtain ⟨hP, hD⟩ := va_join (wr := [(h0, .inr (0, [.ref z0, .ref p0, .ref r0, .int (nI T), .ref k1, .int ops, .ref k2, .ref k3, .int res, .ref k4, .int pl, .int sm])), (k1, .inl (cI, 8, .inl f))]) (w1 := [(z0, .inr (1, [.ref z1])), (z1, .inl (cI, 8, .inl (fun j => nI (ct_st sz k v j))))]) hP hD [2, 3] [0, 1] rfl rfl (by decide) (by decide) hk1 hFc hP1 hD1
            generalize H1 = H at hP hS ⊢
            have hP : va_P (dC, dI) ct_cl [(h0, .inr (0, [.ref z0, .ref p0, .ref r0, .int (nI T), .ref k1, .int ops, .ref k2, .ref k3, .int res, .ref k4, .int pl, .int sm])), (k1, .inl (cI, 8, .inl f)), (z0, .inr (1, [.ref z1])), (z1, .inl (cI, 8, .inl (fun j => nI (ct_st sz k v j))))] H := hP
            have hD : va_D A [(h0, .inr (0, [.ref z0, .ref p0, .ref r0, .int (nI T), .ref k1, .int ops, .ref k2, .ref k3, .int res, .ref k4, .int pl, .int sm])), (k1, .inl (cI, 8, .inl f)), (z0, .inr (1, [.ref z1])), (z1, .inl (cI, 8, .inl (fun j => nI (ct_st sz k v j))))] := hD
            refine lv_aload_n hx hb d_H_size_67 rfl (lv_at hl 0 rfl) ?_
            refine lv_iconst (v := (nI 0)) hx hb d_H_size_68 (by decide) ?_
            refine va_put (D := (dC, dI)) (ci := 0) (v := .int (nI 0)) (ty := .boolean) (C := R_H) (T := T_H) (N := 12) hx hb hts (fun w h9 => ct_tl (ki_H w h9)) ty_H ok_H nm_H hown hK hP hD hS 0 rfl rfl 11 (by decide) (hts _ (ct_tl kw_125)) (fun _ h9 => h9) rfl (by decide +kernel) rfl rfl (Nat.le_of_ble_eq_true rfl) d_H_size_69 (fun H locs hP hD hS => ?_)
            have hP : va_P (dC, dI) ct_cl [(h0, .inr (0, [.ref z0, .ref p0, .ref r0, .int (nI T), .ref k1, .int ops, .ref k2, .ref k3, .int res, .ref k4, .int pl, .int (nI 0)])), (k1, .inl (cI, 8, .inl f)), (z0, .inr (1, [.ref z1])), (z1, .inl (cI, 8, .inl (fun j => nI (ct_st sz k v j))))] H := hP
            have hD : va_D A [(h0, .inr (0, [.ref z0, .ref p0, .ref r0, .int (nI T), .ref k1, .int ops, .ref k2, .ref k3, .int res, .ref k4, .int pl, .int (nI 0)])), (k1, .inl (cI, 8, .inl f)), (z0, .inr (1, [.ref z1])), (z1, .inl (cI, 8, .inl (fun j => nI (ct_st sz k v j))))] := hD
            refine vx_ret ?_
            refine W.widen (k := 1) (n := 6) (Nat.zero_le _) (Nat.zero_le _) ?_
            have hP9 := hP.sub [0, 1, 2, 3] rfl
            exact W.vret hx hb hr (fun tS ht hW => ⟨⟨(ct_st sz k v), rfl, ⟨k, v, hk, hxk, hyv, hv0, hv4, by simpa using ha, hok, rfl⟩, by rw [ht]; exact hP9, va_K.moved hW.alike hK, hD.sub [0, 1, 2, 3] (by decide) rfl⟩, hS.F ht⟩) hS.2.2 d_H_size_72
        · refine lv_icmp_le (tgt := 40) hx hb d_H_size_27 (by decide) (fun hc9 => absurd hc9 (c4)) (fun _ => ?_)
          obtain ⟨sa, hstr⟩ := hXw.2.1 (52, "no such size") (by decide)
          exact vx_throwS (own := R_H) (cls := R_IAE) (text := "no such size") (names := ct_sup) (sa := sa) hx hb hst hown kf_IAE.1 kf_IAE.2 (hts _ (ct_tl kl_IAE)) (hts _ (ct_tl kn_IAE)) hstr (kt_IAE hts hXw) kg_IAE hXw.2.2.1 hXw.2.2.2 hS (hl.1.trans hml.symm) d_H_size_30 d_H_size_33 d_H_size_34 d_H_size_36 d_H_size_39 (fun x hx9 => (htab x hx9).elim) (Nat.le_of_ble_eq_true rfl) (Nat.le_of_ble_eq_true rfl) (Nat.le_of_ble_eq_true rfl) (Nat.le_of_ble_eq_true rfl) hlocks (fun tS hal9 hz9 hk9 => ⟨(), trivial, ⟨Or.inl ⟨by simp [ct_sok, ct_isn, c4], rfl⟩, (ct_thr (hP.sub [0, 1, 2, 3] rfl) hK (hD.sub [0, 1, 2, 3] (by decide) rfl) hS hal9 hz9 hk9).1⟩, (ct_thr hP hK hD hS hal9 hz9 hk9).2⟩) hS.2.2 (Nat.le_of_ble_eq_true rfl) (Nat.le_of_ble_eq_true rfl)
    · have c2n : nI 8 ≤ x := Int32.not_lt.mp c2
      refine lv_icmp_lt (tgt := 20) hx hb d_H_size_7 (by decide) (fun hc9 => absurd hc9 (c2)) (fun _ => ?_)
      obtain ⟨sa, hstr⟩ := hXw.2.1 (47, "no such label") (by decide)
      exact vx_throwS (own := R_H) (cls := R_IAE) (text := "no such label") (names := ct_sup) (sa := sa) hx hb hst hown kf_IAE.1 kf_IAE.2 (hts _ (ct_tl kl_IAE)) (hts _ (ct_tl kn_IAE)) hstr (kt_IAE hts hXw) kg_IAE hXw.2.2.1 hXw.2.2.2 hS (hl.1.trans hml.symm) d_H_size_10 d_H_size_13 d_H_size_14 d_H_size_16 d_H_size_19 (fun x hx9 => (htab x hx9).elim) (Nat.le_of_ble_eq_true rfl) (Nat.le_of_ble_eq_true rfl) (Nat.le_of_ble_eq_true rfl) (Nat.le_of_ble_eq_true rfl) hlocks (fun tS hal9 hz9 hk9 => ⟨(), trivial, ⟨Or.inl ⟨by simp [ct_sok, ct_isn, c2n], rfl⟩, (ct_thr (hP.sub [0, 1, 2, 3] rfl) hK (hD.sub [0, 1, 2, 3] (by decide) rfl) hS hal9 hz9 hk9).1⟩, (ct_thr hP hK hD hS hal9 hz9 hk9).2⟩) hS.2.2 (Nat.le_of_ble_eq_true rfl) (Nat.le_of_ble_eq_true rfl)
set_option maxHeartbeats 4000000 in
set_option maxRecDepth 100000 in
theorem c_H_table (l : Launch) (hst : l.stackTraces = false) (dC : Nat → ClassId) (dI : Nat → Nat → Nat) (cI : ClassId) (h0 z0 p0 r0 k1 k2 k3 k4 : Nat) (T : Nat) (ops res pl sm : Int32) (f : Nat → Int32) (hT8 : T ≤ 8) (a b d : Int32) (sz0 : Nat) : vx_Met l y_H_table w_H_table ({ frames := 6, cells := 1, slots := 6, locals := 90 }) (va_Pc [.ref h0, .int a, .int b, .int d] (ct_rx (dC, dI) ct_cl [(h0, .inr (0, [.ref z0, .ref p0, .ref r0, .int (nI T), .ref k1, .int ops, .ref k2, .ref k3, .int res, .ref k4, .int pl, .int sm])), (k1, .inl (cI, 8, .inl f))] [(cI, .int)] sz0)) (va_Qi (fun (r : Int32) (u : Unit) => r = nI T ∧ T < 8 ∧ ct_al a b d = true) (fun (u : Unit) t => ct_at (dC, dI) ct_cl [(cI, .int)] (va_A [(h0, .inr (0, [.ref z0, .ref p0, .ref r0, .int (nI T), .ref k1, .int ops, .ref k2, .ref k3, .int res, .ref k4, .int pl, .int sm])), (k1, .inl (cI, 8, .inl f))] sz0) [(h0, .inr (0, [.ref z0, .ref p0, .ref r0, .int (nI (T + 1)), .ref k1, .int ops, .ref k2, .ref k3, .int res, .ref k4, .int pl, .int sm])), (k1, .inl (cI, 8, .inl (upd f T (nI (ct_lbs a b d)))))] t) (va_A [(h0, .inr (0, [.ref z0, .ref p0, .ref r0, .int (nI T), .ref k1, .int ops, .ref k2, .ref k3, .int res, .ref k4, .int pl, .int sm])), (k1, .inl (cI, 8, .inl f))] sz0)) (vx_X (fun (_ : Unit) => True) (fun (E : String) (_ : Unit) t => ((ct_al a b d = false ∧ E = R_IAE) ∨ (ct_al a b d = true ∧ T = 8 ∧ E = R_UOE)) ∧ ct_at (dC, dI) ct_cl [(cI, .int)] (va_A [(h0, .inr (0, [.ref z0, .ref p0, .ref r0, .int (nI T), .ref k1, .int ops, .ref k2, .ref k3, .int res, .ref k4, .int pl, .int sm])), (k1, .inl (cI, 8, .inl f))] sz0) [(h0, .inr (0, [.ref z0, .ref p0, .ref r0, .int (nI T), .ref k1, .int ops, .ref k2, .ref k3, .int res, .ref k4, .int pl, .int sm])), (k1, .inl (cI, 8, .inl f))] t) (va_A [(h0, .inr (0, [.ref z0, .ref p0, .ref r0, .int (nI T), .ref k1, .int ops, .ref k2, .ref k3, .int res, .ref k4, .int pl, .int sm])), (k1, .inl (cI, 8, .inl f))] sz0)) 1 6 (va_A [(h0, .inr (0, [.ref z0, .ref p0, .ref r0, .int (nI T), .ref k1, .int ops, .ref k2, .ref k3, .int res, .ref k4, .int pl, .int sm])), (k1, .inl (cI, 8, .inl f))] sz0) := by
  refine vx_ofW (cc := b_H_table) (maxL := 4) (ret := (some .int)) (by decide) rfl ?_
  intro p e s m args below meth c s₁ Bd hml htab hv
  obtain ⟨hargs, ⟨hsz, hP, hK, hD0⟩, hXw⟩ := hv
  have hx := Bd.exec
  have hb := Bd.bytes
  have hr := Bd.returns
  have hts : ∀ w ∈ k_H_table :: ct_tb, w.before args s = true := atoms_spec (ws := w_H_table) Bd.pre
  have hown : s.vm.findClass R_H = some m.cls := findClass_of_methodNamed Bd.named
  have hlocks := Bd.notSynchronized
  subst hsz
  have hD := hD0.self (sz := s.heap.size)
  generalize hAe : va_A [(h0, .inr (0, [.ref z0, .ref p0, .ref r0, .int (nI T), .ref k1, .int ops, .ref k2, .ref k3, .int res, .ref k4, .int pl, .int sm])), (k1, .inl (cI, 8, .inl f))] s.heap.size = A at hD hXw ⊢
  have hA : ∀ q : Nat, s.heap.size ≤ q → A q := fun q h => by rw [← hAe]; exact Or.inr h
  have hS : va_S A s.heap s.heap [] := va_S.rf
  have hl := lv_entry ([.ref h0, .int a, .int b, .int d]) (n := 4) (Nat.le_of_ble_eq_true rfl)
  rw [show entryFrame m args 4 = entryFrame m (([.ref h0, .int a, .int b, .int d] : List Value)).toArray 4 by rw [hargs], lg_entry_eq]
  generalize (lg_sl ([.ref h0, .int a, .int b, .int d]) ++ List.replicate (4 - (lg_sl ([.ref h0, .int a, .int b, .int d])).length) Slot.unset).toArray = ls at hl ⊢
  have hl : lv_has ls 4 [(0, .ref h0), (1, .int a), (2, .int b), (3, .int d)] := hl
  refine lv_iload_n hx hb d_H_table_0 rfl (lv_at hl 1 rfl) ?_
  refine lv_iload_n hx hb d_H_table_1 rfl (lv_at hl 2 rfl) ?_
  refine lv_iload_n hx hb d_H_table_2 rfl (lv_at hl 3 rfl) ?_
  refine va_calli (va_runS (As := [.int a, .int b, .int d]) (rest := []) ⟨hx, hb, hml, hown, hts⟩ (c_H_areLabels l dC dI cI a b d) (va_cwS 3 hts (ct_giT (fun w h9 => ct_tl h9) kw_330 kw_331 kw_26 kw_332) rfl rfl rfl (by decide +kernel) ⟨Nat.le_of_ble_eq_true rfl, Nat.le_of_ble_eq_true rfl⟩) ⟨ct_ro_blind, ct_ro_pre (hP.sub [] rfl) hK⟩ rfl rfl hl.1 rfl (lv_room (Nat.le_of_ble_eq_true rfl)) d_H_table_3 ⟨Nat.zero_le _, Nat.zero_le _⟩) hS (fun q _ h9 => h9.elim) (fun q h9 => h9.elim) (fun ans1 uS tS H locs ht hvm hwans1 hB hz1 hk1 hS => ?_)
  have hP := ct_keep hP hk1
  refine ct_val (y := nI (if ct_al a b d = true then 1 else 0)) (hwans1) ?_
  by_cases hq : ct_al a b d = true
  · rw [if_pos hq]
    refine lv_if_ne (tgt := 19) hx hb d_H_table_6 (by decide) (fun _ => ?_) (fun hc9 => absurd hc9 (nI_ne0 (by omega) (by omega)))
    refine lv_aload_n hx hb d_H_table_19 rfl (lv_at hl 0 rfl) ?_
    refine va_get (D := (dC, dI)) (ci := 0) (v := .int (nI T)) (C := R_H) (T := T_H) (N := 12) hx hb hts (fun w h9 => ct_tl (ki_H w h9)) hown hK hP 0 rfl rfl 3 (by decide) (hts _ (ct_tl kw_117)) (fun _ h9 => h9) rfl d_H_table_20 ?_
    refine lv_bipush (v := (nI 8)) hx hb d_H_table_23 (by decide) ?_
    by_cases h8 : T < 8
    · refine lv_icmp_lt (tgt := 38) hx hb d_H_table_25 (by decide) (fun _ => ?_) (fun hc9 => absurd (nI_lt h8 (by omega)) hc9)
      refine lv_aload_n hx hb d_H_table_38 rfl (lv_at hl 0 rfl) ?_
      refine va_get (D := (dC, dI)) (ci := 0) (v := .ref k1) (C := R_H) (T := T_H) (N := 12) hx hb hts (fun w h9 => ct_tl (ki_H w h9)) hown hK hP 0 rfl rfl 4 (by decide) (hts _ (ct_tl kw_118)) (fun _ h9 => h9) rfl d_H_table_39 ?_
      refine lv_aload_n hx hb d_H_table_42 rfl (lv_at hl 0 rfl) ?_
      refine va_get (D := (dC, dI)) (ci := 0) (v := .int (nI T)) (C := R_H) (T := T_H) (N := 12) hx hb hts (fun w h9 => ct_tl (ki_H w h9)) hown hK hP 0 rfl rfl 3 (by decide) (hts _ (ct_tl kw_117)) (fun _ h9 => h9) rfl d_H_table_43 ?_
      refine lv_iload_n hx hb d_H_table_46 rfl (lv_at hl 1 rfl) ?_
      refine lv_iload_n hx hb d_H_table_47 rfl (lv_at hl 2 rfl) ?_
      refine lv_iload_n hx hb d_H_table_48 rfl (lv_at hl 3 rfl) ?_
      have hisl := ct_al_isl hq
      refine va_calli (va_runS (As := [.int a, .int b, .int d]) (rest := [.int (nI T), .ref k1]) ⟨hx, hb, hml, hown, hts⟩ (c_H_labelBits l dC dI cI a b d hisl.1 hisl.2.1 hisl.2.2) (va_cwS 3 hts (ct_giT (fun w h9 => ct_tl h9) kw_353 kw_354 kw_26 kw_355) rfl rfl rfl (by decide +kernel) ⟨Nat.le_of_ble_eq_true rfl, Nat.le_of_ble_eq_true rfl⟩) ⟨ct_ro_blind, ct_ro_pre (hP.sub [] rfl) hK⟩ rfl rfl hl.1 rfl (lv_room (Nat.le_of_ble_eq_true rfl)) d_H_table_49 ⟨Nat.zero_le _, Nat.zero_le _⟩) hS (fun q _ h9 => h9.elim) (fun q h9 => h9.elim) (fun ans202 uS tS H locs ht hvm hwans202 hB hz1 hk1 hS => ?_)
      have hP := ct_keep hP hk1
      refine ct_val (y := nI (ct_lbs a b d)) (hwans202) ?_
      refine ct_iast hx hb hK hP hD hS 1 0 rfl rfl (j := T) (by omega) (by omega) d_H_table_52 (fun H locs hP hD hS => ?_)
      have hP : va_P (dC, dI) ct_cl [(h0, .inr (0, [.ref z0, .ref p0, .ref r0, .int (nI T), .ref k1, .int ops, .ref k2, .ref k3, .int res, .ref k4, .int pl, .int sm])), (k1, .inl (cI, 8, .inl (upd f T (nI (ct_lbs a b d)))))] H := hP
      have hD : va_D A [(h0, .inr (0, [.ref z0, .ref p0, .ref r0, .int (nI T), .ref k1, .int ops, .ref k2, .ref k3, .int res, .ref k4, .int pl, .int sm])), (k1, .inl (cI, 8, .inl (upd f T (nI (ct_lbs a b d)))))] := hD
      refine lv_aload_n hx hb d_H_table_53 rfl (lv_at hl 0 rfl) ?_
      refine lv_dup hx hb d_H_table_54 rfl ?_
      refine va_get (D := (dC, dI)) (ci := 0) (v := .int (nI T)) (C := R_H) (T := T_H) (N := 12) hx hb hts (fun w h9 => ct_tl (ki_H w h9)) hown hK hP 0 rfl rfl 3 (by decide) (hts _ (ct_tl kw_117)) (fun _ h9 => h9) rfl d_H_table_55 ?_
      refine lv_iconst (v := (nI 1)) hx hb d_H_table_58 (by decide) ?_
      refine lv_iadd hx hb d_H_table_59 ?_
      refine ct_val (y := nI (T + 1)) (nI_1 _) ?_
      refine va_put (D := (dC, dI)) (ci := 0) (v := .int (nI (T + 1))) (ty := .int) (C := R_H) (T := T_H) (N := 12) hx hb hts (fun w h9 => ct_tl (ki_H w h9)) ty_H ok_H nm_H hown hK hP hD hS 0 rfl rfl 3 (by decide) (hts _ (ct_tl kw_117)) (fun _ h9 => h9) rfl (by decide +kernel) rfl rfl (Nat.le_of_ble_eq_true rfl) d_H_table_60 (fun H locs hP hD hS => ?_)
      have hP : va_P (dC, dI) ct_cl [(h0, .inr (0, [.ref z0, .ref p0, .ref r0, .int (nI (T + 1)), .ref k1, .int ops, .ref k2, .ref k3, .int res, .ref k4, .int pl, .int sm])), (k1, .inl (cI, 8, .inl (upd f T (nI (ct_lbs a b d)))))] H := hP
      have hD : va_D A [(h0, .inr (0, [.ref z0, .ref p0, .ref r0, .int (nI (T + 1)), .ref k1, .int ops, .ref k2, .ref k3, .int res, .ref k4, .int pl, .int sm])), (k1, .inl (cI, 8, .inl (upd f T (nI (ct_lbs a b d)))))] := hD
      refine lv_aload_n hx hb d_H_table_63 rfl (lv_at hl 0 rfl) ?_
      refine va_get (D := (dC, dI)) (ci := 0) (v := .int (nI (T + 1))) (C := R_H) (T := T_H) (N := 12) hx hb hts (fun w h9 => ct_tl (ki_H w h9)) hown hK hP 0 rfl rfl 3 (by decide) (hts _ (ct_tl kw_117)) (fun _ h9 => h9) rfl d_H_table_64 ?_
      refine lv_iconst (v := (nI 1)) hx hb d_H_table_67 (by decide) ?_
      refine lv_isub hx hb d_H_table_68 ?_
      refine ct_val (y := nI T) (nI_pred T) ?_
      refine vx_ret ?_
      refine W.widen (k := 1) (n := 6) (Nat.zero_le _) (Nat.zero_le _) ?_
      have hP9 := hP.sub [0, 1] rfl
      exact W.iret (v := (nI T)) hx hb hr (fun tS ht hW => ⟨⟨(nI T), (), rfl, ⟨rfl, h8, hq⟩, by rw [ht]; exact hP9, va_K.moved hW.alike hK, hD.sub [0, 1] (by decide) rfl⟩, hS.F ht⟩) hS.2.2 d_H_table_69
    · refine lv_icmp_lt (tgt := 38) hx hb d_H_table_25 (by decide) (fun hc9 => absurd hc9 (nI_nlt (by omega) (by omega))) (fun _ => ?_)
      obtain ⟨sa, hstr⟩ := hXw.2.1 (83, "there are eight tables") (by decide)
      exact vx_throwS (own := R_H) (cls := R_UOE) (text := "there are eight tables") (names := ct_sup) (sa := sa) hx hb hst hown kf_UOE.1 kf_UOE.2 (hts _ (ct_tl kl_UOE)) (hts _ (ct_tl kn_UOE)) hstr (kt_UOE hts hXw) kg_UOE hXw.2.2.1 hXw.2.2.2 hS (hl.1.trans hml.symm) d_H_table_28 d_H_table_31 d_H_table_32 d_H_table_34 d_H_table_37 (fun x hx9 => (htab x hx9).elim) (Nat.le_of_ble_eq_true rfl) (Nat.le_of_ble_eq_true rfl) (Nat.le_of_ble_eq_true rfl) (Nat.le_of_ble_eq_true rfl) hlocks (fun tS hal9 hz9 hk9 => ⟨(), trivial, ⟨Or.inr ⟨hq, by omega, rfl⟩, (ct_thr (hP.sub [0, 1] rfl) hK (hD.sub [0, 1] (by decide) rfl) hS hal9 hz9 hk9).1⟩, (ct_thr hP hK hD hS hal9 hz9 hk9).2⟩) hS.2.2 (Nat.le_of_ble_eq_true rfl) (Nat.le_of_ble_eq_true rfl)
  · rw [if_neg hq]
    refine lv_if_ne (tgt := 19) hx hb d_H_table_6 (by decide) (fun hc9 => absurd (nI_0) hc9) (fun _ => ?_)
    obtain ⟨sa, hstr⟩ := hXw.2.1 (75, "labels must rise, with NONE behind the last one") (by decide)
    exact vx_throwS (own := R_H) (cls := R_IAE) (text := "labels must rise, with NONE behind the last one") (names := ct_sup) (sa := sa) hx hb hst hown kf_IAE.1 kf_IAE.2 (hts _ (ct_tl kl_IAE)) (hts _ (ct_tl kn_IAE)) hstr (kt_IAE hts hXw) kg_IAE hXw.2.2.1 hXw.2.2.2 hS (hl.1.trans hml.symm) d_H_table_9 d_H_table_12 d_H_table_13 d_H_table_15 d_H_table_18 (fun x hx9 => (htab x hx9).elim) (Nat.le_of_ble_eq_true rfl) (Nat.le_of_ble_eq_true rfl) (Nat.le_of_ble_eq_true rfl) (Nat.le_of_ble_eq_true rfl) hlocks (fun tS hal9 hz9 hk9 => ⟨(), trivial, ⟨Or.inl ⟨by simpa using hq, rfl⟩, (ct_thr (hP.sub [0, 1] rfl) hK (hD.sub [0, 1] (by decide) rfl) hS hal9 hz9 hk9).1⟩, (ct_thr hP hK hD hS hal9 hz9 hk9).2⟩) hS.2.2 (Nat.le_of_ble_eq_true rfl) (Nat.le_of_ble_eq_true rfl)
set_option maxHeartbeats 4000000 in
set_option maxRecDepth 100000 in
theorem c_H_extent (l : Launch) (hst : l.stackTraces = false) (dC : Nat → ClassId) (dI : Nat → Nat → Nat) (cI : ClassId) (z1 : Nat) (sz : Nat → Nat) (h0 z0 p0 r0 k1 k2 k3 k4 : Nat) (T : Nat) (ops res pl sm : Int32) (f : Nat → Int32) (lab : Nat → Nat) (hT8 : T ≤ 8) (hf : ∀ t, t < T → f t = nI (lab t)) (hlab : ∀ t, t < T → lab t < 256) (x : Int32) (sz0 : Nat) : vx_Met l y_H_extent w_H_extent ({ frames := 6, cells := 1, slots := 6, locals := 90 }) (va_Pc [.ref h0, .int x] (ct_rx (dC, dI) ct_cl [(h0, .inr (0, [.ref z0, .ref p0, .ref r0, .int (nI T), .ref k1, .int ops, .ref k2, .ref k3, .int res, .ref k4, .int pl, .int sm])), (k1, .inl (cI, 8, .inl f)), (z0, .inr (1, [.ref z1])), (z1, .inl (cI, 8, .inl (fun j => nI (sz j))))] [(cI, .int)] sz0)) (va_Qi (fun (r : Int32) (u : Unit) => ∃ j : Nat, j < T ∧ x = nI j ∧ r = nI (ct_pr sz (lab j).testBit 8)) (fun (u : Unit) t => ct_at (dC, dI) ct_cl [(cI, .int)] (va_A [(h0, .inr (0, [.ref z0, .ref p0, .ref r0, .int (nI T), .ref k1, .int ops, .ref k2, .ref k3, .int res, .ref k4, .int pl, .int sm])), (k1, .inl (cI, 8, .inl f)), (z0, .inr (1, [.ref z1])), (z1, .inl (cI, 8, .inl (fun j => nI (sz j))))] sz0) [(h0, .inr (0, [.ref z0, .ref p0, .ref r0, .int (nI T), .ref k1, .int ops, .ref k2, .ref k3, .int res, .ref k4, .int pl, .int sm])), (k1, .inl (cI, 8, .inl f)), (z0, .inr (1, [.ref z1])), (z1, .inl (cI, 8, .inl (fun j => nI (sz j))))] t) (va_A [(h0, .inr (0, [.ref z0, .ref p0, .ref r0, .int (nI T), .ref k1, .int ops, .ref k2, .ref k3, .int res, .ref k4, .int pl, .int sm])), (k1, .inl (cI, 8, .inl f)), (z0, .inr (1, [.ref z1])), (z1, .inl (cI, 8, .inl (fun j => nI (sz j))))] sz0)) (vx_X (fun (_ : Unit) => True) (fun (E : String) (_ : Unit) t => (ct_isn T x = false ∧ E = R_IOE) ∧ ct_at (dC, dI) ct_cl [(cI, .int)] (va_A [(h0, .inr (0, [.ref z0, .ref p0, .ref r0, .int (nI T), .ref k1, .int ops, .ref k2, .ref k3, .int res, .ref k4, .int pl, .int sm])), (k1, .inl (cI, 8, .inl f)), (z0, .inr (1, [.ref z1])), (z1, .inl (cI, 8, .inl (fun j => nI (sz j))))] sz0) [(h0, .inr (0, [.ref z0, .ref p0, .ref r0, .int (nI T), .ref k1, .int ops, .ref k2, .ref k3, .int res, .ref k4, .int pl, .int sm])), (k1, .inl (cI, 8, .inl f)), (z0, .inr (1, [.ref z1])), (z1, .inl (cI, 8, .inl (fun j => nI (sz j))))] t) (va_A [(h0, .inr (0, [.ref z0, .ref p0, .ref r0, .int (nI T), .ref k1, .int ops, .ref k2, .ref k3, .int res, .ref k4, .int pl, .int sm])), (k1, .inl (cI, 8, .inl f)), (z0, .inr (1, [.ref z1])), (z1, .inl (cI, 8, .inl (fun j => nI (sz j))))] sz0)) 1 6 (va_A [(h0, .inr (0, [.ref z0, .ref p0, .ref r0, .int (nI T), .ref k1, .int ops, .ref k2, .ref k3, .int res, .ref k4, .int pl, .int sm])), (k1, .inl (cI, 8, .inl f)), (z0, .inr (1, [.ref z1])), (z1, .inl (cI, 8, .inl (fun j => nI (sz j))))] sz0) := by
  refine vx_ofW (cc := b_H_extent) (maxL := 2) (ret := (some .int)) (by decide) rfl ?_
  intro p e s m args below meth c s₁ Bd hml htab hv
  obtain ⟨hargs, ⟨hsz, hP, hK, hD0⟩, hXw⟩ := hv
  have hx := Bd.exec
  have hb := Bd.bytes
  have hr := Bd.returns
  have hts : ∀ w ∈ k_H_extent :: ct_tb, w.before args s = true := atoms_spec (ws := w_H_extent) Bd.pre
  have hown : s.vm.findClass R_H = some m.cls := findClass_of_methodNamed Bd.named
  have hlocks := Bd.notSynchronized
  subst hsz
  have hD := hD0.self (sz := s.heap.size)
  generalize hAe : va_A [(h0, .inr (0, [.ref z0, .ref p0, .ref r0, .int (nI T), .ref k1, .int ops, .ref k2, .ref k3, .int res, .ref k4, .int pl, .int sm])), (k1, .inl (cI, 8, .inl f)), (z0, .inr (1, [.ref z1])), (z1, .inl (cI, 8, .inl (fun j => nI (sz j))))] s.heap.size = A at hD hXw ⊢
  have hA : ∀ q : Nat, s.heap.size ≤ q → A q := fun q h => by rw [← hAe]; exact Or.inr h
  have hS : va_S A s.heap s.heap [] := va_S.rf
  have hl := lv_entry ([.ref h0, .int x]) (n := 2) (Nat.le_of_ble_eq_true rfl)
  rw [show entryFrame m args 2 = entryFrame m (([.ref h0, .int x] : List Value)).toArray 2 by rw [hargs], lg_entry_eq]
  generalize (lg_sl ([.ref h0, .int x]) ++ List.replicate (2 - (lg_sl ([.ref h0, .int x])).length) Slot.unset).toArray = ls at hl ⊢
  have hl : lv_has ls 2 [(0, .ref h0), (1, .int x)] := hl
  refine lv_aload_n hx hb d_H_extent_0 rfl (lv_at hl 0 rfl) ?_
  refine lv_iload_n hx hb d_H_extent_1 rfl (lv_at hl 1 rfl) ?_
  refine va_calli (va_runV (As := [.int x]) (rest := []) ⟨hx, hb, hml, hown, hts⟩ (c_H_isTable l dC dI cI h0 z0 p0 r0 k1 k2 k3 k4 T ops res pl sm x) (cwV 1 hts (ct_giV (fun w h9 => ct_tl h9) kw_364 kw_366 kw_9 kw_26 kw_367) rfl rfl rfl (by decide +kernel) ⟨Nat.le_of_ble_eq_true rfl, Nat.le_of_ble_eq_true rfl⟩) ⟨ct_ro_blind, va_recv hK hP (ci := 0) (q0 := 0) rfl rfl, ct_ro_pre (hP.sub [0] rfl) hK⟩ rfl rfl hl.1 rfl (lv_room (Nat.le_of_ble_eq_true rfl)) d_H_extent_2 ⟨Nat.zero_le _, Nat.zero_le _⟩) hS (fun q _ h9 => h9.elim) (fun q h9 => h9.elim) (fun ans1 uS tS H locs ht hvm hwans1 hB hz1 hk1 hS => ?_)
  have hP := ct_keep hP hk1
  refine ct_val (y := nI (if ct_isn T x = true then 1 else 0)) (hwans1) ?_
  by_cases hq : ct_isn T x = true
  · rw [if_pos hq]
    refine lv_if_ne (tgt := 18) hx hb d_H_extent_5 (by decide) (fun _ => ?_) (fun hc9 => absurd hc9 (nI_ne0 (by omega) (by omega)))
    obtain ⟨j, hj, rfl⟩ := ct_isn_of (by omega) hq
    refine lv_aload_n hx hb d_H_extent_18 rfl (lv_at hl 0 rfl) ?_
    refine va_get (D := (dC, dI)) (ci := 0) (v := .ref z0) (C := R_H) (T := T_H) (N := 12) hx hb hts (fun w h9 => ct_tl (ki_H w h9)) hown hK hP 0 rfl rfl 0 (by decide) (hts _ (ct_tl kw_114)) (fun _ h9 => h9) rfl d_H_extent_19 ?_
    refine lv_aload_n hx hb d_H_extent_22 rfl (lv_at hl 0 rfl) ?_
    refine va_get (D := (dC, dI)) (ci := 0) (v := .ref k1) (C := R_H) (T := T_H) (N := 12) hx hb hts (fun w h9 => ct_tl (ki_H w h9)) hown hK hP 0 rfl rfl 4 (by decide) (hts _ (ct_tl kw_118)) (fun _ h9 => h9) rfl d_H_extent_23 ?_
    refine lv_iload_n hx hb d_H_extent_26 rfl (lv_at hl 1 rfl) ?_
    refine ct_iald hx hb hK hP 1 0 rfl rfl (j := j) (by omega) (by omega) d_H_extent_27 ?_
    refine ct_val (y := nI (lab j)) (hf j hj) ?_
    have hlj := hlab j hj
    refine va_calli (va_runV (As := [.int (nI (lab j))]) (rest := []) ⟨hx, hb, hml, hown, hts⟩ (c_S_choices l dC dI cI z0 z1 sz (lab j) (by omega)) (cwV 1 hts (ct_giV (fun w h9 => ct_tl h9) kw_384 kw_195 kw_196 kw_27 kw_197) rfl rfl rfl (by decide +kernel) ⟨Nat.le_of_ble_eq_true rfl, Nat.le_of_ble_eq_true rfl⟩) ⟨ct_ro_blind, va_recv hK hP (ci := 1) (q0 := 2) rfl rfl, ct_ro_pre (hP.sub [2, 3] rfl) hK⟩ rfl rfl hl.1 rfl (lv_room (Nat.le_of_ble_eq_true rfl)) d_H_extent_28 ⟨Nat.zero_le _, Nat.zero_le _⟩) hS (fun q _ h9 => h9.elim) (fun q h9 => h9.elim) (fun ans102 uS tS H locs ht hvm hwans102 hB hz1 hk1 hS => ?_)
    have hP := ct_keep hP hk1
    refine ct_val (y := nI (ct_pr sz (lab j).testBit 8)) (hwans102) ?_
    refine vx_ret ?_
    refine W.widen (k := 1) (n := 6) (Nat.zero_le _) (Nat.zero_le _) ?_
    have hP9 := hP.sub [0, 1, 2, 3] rfl
    exact W.iret (v := (nI (ct_pr sz (lab j).testBit 8))) hx hb hr (fun tS ht hW => ⟨⟨(nI (ct_pr sz (lab j).testBit 8)), (), rfl, ⟨j, hj, rfl, rfl⟩, by rw [ht]; exact hP9, va_K.moved hW.alike hK, hD.sub [0, 1, 2, 3] (by decide) rfl⟩, hS.F ht⟩) hS.2.2 d_H_extent_31
  · rw [if_neg hq]
    refine lv_if_ne (tgt := 18) hx hb d_H_extent_5 (by decide) (fun hc9 => absurd (nI_0) hc9) (fun _ => ?_)
    obtain ⟨sa, hstr⟩ := hXw.2.1 (95, "no such table") (by decide)
    exact vx_throwS (own := R_H) (cls := R_IOE) (text := "no such table") (names := ct_sup) (sa := sa) hx hb hst hown kf_IOE.1 kf_IOE.2 (hts _ (ct_tl kl_IOE)) (hts _ (ct_tl kn_IOE)) hstr (kt_IOE hts hXw) kg_IOE hXw.2.2.1 hXw.2.2.2 hS (hl.1.trans hml.symm) d_H_extent_8 d_H_extent_11 d_H_extent_12 d_H_extent_14 d_H_extent_17 (fun x hx9 => (htab x hx9).elim) (Nat.le_of_ble_eq_true rfl) (Nat.le_of_ble_eq_true rfl) (Nat.le_of_ble_eq_true rfl) (Nat.le_of_ble_eq_true rfl) hlocks (fun tS hal9 hz9 hk9 => ⟨(), trivial, ⟨⟨by simpa using hq, rfl⟩, (ct_thr (hP.sub [0, 1, 2, 3] rfl) hK (hD.sub [0, 1, 2, 3] (by decide) rfl) hS hal9 hz9 hk9).1⟩, (ct_thr hP hK hD hS hal9 hz9 hk9).2⟩) hS.2.2 (Nat.le_of_ble_eq_true rfl) (Nat.le_of_ble_eq_true rfl)
set_option maxHeartbeats 4000000 in
set_option maxRecDepth 100000 in
theorem c_H_set (l : Launch) (hst : l.stackTraces = false) (dC : Nat → ClassId) (dI : Nat → Nat → Nat) (cI : ClassId) (z1 : Nat) (sz : Nat → Nat) (h0 z0 p0 r0 k1 k2 k3 k4 : Nat) (T : Nat) (ops res pl sm : Int32) (f : Nat → Int32) (lab : Nat → Nat) (hT8 : T ≤ 8) (hf : ∀ t, t < T → f t = nI (lab t)) (hlab : ∀ t, t < T → lab t < 256) (r1 r2 r3 r4 r5 r6 N : Nat) (g : Nat → Int32) (h27 : ∀ t, t < T → ct_pr sz (lab t).testBit 8 ≤ 27) (hN : 244 ≤ N) (hN6 : N ≤ 60000) (x y v : Int32) (sz0 : Nat) : vx_Met l y_H_set w_H_set ({ frames := 6, cells := 1, slots := 6, locals := 90 }) (va_Pc [.ref h0, .int x, .int y, .int v] (ct_rx (dC, dI) ct_cl [(h0, .inr (0, [.ref z0, .ref p0, .ref r0, .int (nI T), .ref k1, .int ops, .ref k2, .ref k3, .int res, .ref k4, .int pl, .int sm])), (k1, .inl (cI, 8, .inl f)), (z0, .inr (1, [.ref z1])), (z1, .inl (cI, 8, .inl (fun j => nI (sz j)))), (r0, .inr (3, [.ref z0, .ref r1, .ref r2, .ref r3, .ref r4, .ref r5, .ref r6])), (r1, .inl (cI, N, .inl g))] [(cI, .int)] sz0)) (va_Qv (fun (u : Nat → Int32) => ∃ j i : Nat, j < T ∧ x = nI j ∧ i < ct_pr sz (lab j).testBit 8 ∧ y = nI i ∧ u = upd g (j * 27 + i) v) (fun (u : Nat → Int32) t => ct_at (dC, dI) ct_cl [(cI, .int)] (va_A [(h0, .inr (0, [.ref z0, .ref p0, .ref r0, .int (nI T), .ref k1, .int ops, .ref k2, .ref k3, .int res, .ref k4, .int pl, .int sm])), (k1, .inl (cI, 8, .inl f)), (z0, .inr (1, [.ref z1])), (z1, .inl (cI, 8, .inl (fun j => nI (sz j)))), (r0, .inr (3, [.ref z0, .ref r1, .ref r2, .ref r3, .ref r4, .ref r5, .ref r6])), (r1, .inl (cI, N, .inl g))] sz0) [(h0, .inr (0, [.ref z0, .ref p0, .ref r0, .int (nI T), .ref k1, .int ops, .ref k2, .ref k3, .int res, .ref k4, .int pl, .int (nI 0)])), (k1, .inl (cI, 8, .inl f)), (z0, .inr (1, [.ref z1])), (z1, .inl (cI, 8, .inl (fun j => nI (sz j)))), (r0, .inr (3, [.ref z0, .ref r1, .ref r2, .ref r3, .ref r4, .ref r5, .ref r6])), (r1, .inl (cI, N, .inl u))] t) (va_A [(h0, .inr (0, [.ref z0, .ref p0, .ref r0, .int (nI T), .ref k1, .int ops, .ref k2, .ref k3, .int res, .ref k4, .int pl, .int sm])), (k1, .inl (cI, 8, .inl f)), (z0, .inr (1, [.ref z1])), (z1, .inl (cI, 8, .inl (fun j => nI (sz j)))), (r0, .inr (3, [.ref z0, .ref r1, .ref r2, .ref r3, .ref r4, .ref r5, .ref r6])), (r1, .inl (cI, N, .inl g))] sz0)) (vx_X (fun (_ : Unit) => True) (fun (E : String) (_ : Unit) t => (E = R_IOE ∧ (ct_isn T x = false ∨ ∃ j : Nat, j < T ∧ x = nI j ∧ ct_isn (ct_pr sz (lab j).testBit 8) y = false)) ∧ ct_at (dC, dI) ct_cl [(cI, .int)] (va_A [(h0, .inr (0, [.ref z0, .ref p0, .ref r0, .int (nI T), .ref k1, .int ops, .ref k2, .ref k3, .int res, .ref k4, .int pl, .int sm])), (k1, .inl (cI, 8, .inl f)), (z0, .inr (1, [.ref z1])), (z1, .inl (cI, 8, .inl (fun j => nI (sz j)))), (r0, .inr (3, [.ref z0, .ref r1, .ref r2, .ref r3, .ref r4, .ref r5, .ref r6])), (r1, .inl (cI, N, .inl g))] sz0) [(h0, .inr (0, [.ref z0, .ref p0, .ref r0, .int (nI T), .ref k1, .int ops, .ref k2, .ref k3, .int res, .ref k4, .int pl, .int sm])), (k1, .inl (cI, 8, .inl f)), (z0, .inr (1, [.ref z1])), (z1, .inl (cI, 8, .inl (fun j => nI (sz j)))), (r0, .inr (3, [.ref z0, .ref r1, .ref r2, .ref r3, .ref r4, .ref r5, .ref r6])), (r1, .inl (cI, N, .inl g))] t) (va_A [(h0, .inr (0, [.ref z0, .ref p0, .ref r0, .int (nI T), .ref k1, .int ops, .ref k2, .ref k3, .int res, .ref k4, .int pl, .int sm])), (k1, .inl (cI, 8, .inl f)), (z0, .inr (1, [.ref z1])), (z1, .inl (cI, 8, .inl (fun j => nI (sz j)))), (r0, .inr (3, [.ref z0, .ref r1, .ref r2, .ref r3, .ref r4, .ref r5, .ref r6])), (r1, .inl (cI, N, .inl g))] sz0)) 1 6 (va_A [(h0, .inr (0, [.ref z0, .ref p0, .ref r0, .int (nI T), .ref k1, .int ops, .ref k2, .ref k3, .int res, .ref k4, .int pl, .int sm])), (k1, .inl (cI, 8, .inl f)), (z0, .inr (1, [.ref z1])), (z1, .inl (cI, 8, .inl (fun j => nI (sz j)))), (r0, .inr (3, [.ref z0, .ref r1, .ref r2, .ref r3, .ref r4, .ref r5, .ref r6])), (r1, .inl (cI, N, .inl g))] sz0) := by
  refine vx_ofW (cc := b_H_set) (maxL := 4) (ret := none) (by decide) rfl ?_
  intro p e s m args below meth c s₁ Bd hml htab hv
  obtain ⟨hargs, ⟨hsz, hP, hK, hD0⟩, hXw⟩ := hv
  have hx := Bd.exec
  have hb := Bd.bytes
  have hr := Bd.returns
  have hts : ∀ w ∈ k_H_set :: ct_tb, w.before args s = true := atoms_spec (ws := w_H_set) Bd.pre
  have hown : s.vm.findClass R_H = some m.cls := findClass_of_methodNamed Bd.named
  have hlocks := Bd.notSynchronized
  subst hsz
  have hD := hD0.self (sz := s.heap.size)
  generalize hAe : va_A [(h0, .inr (0, [.ref z0, .ref p0, .ref r0, .int (nI T), .ref k1, .int ops, .ref k2, .ref k3, .int res, .ref k4, .int pl, .int sm])), (k1, .inl (cI, 8, .inl f)), (z0, .inr (1, [.ref z1])), (z1, .inl (cI, 8, .inl (fun j => nI (sz j)))), (r0, .inr (3, [.ref z0, .ref r1, .ref r2, .ref r3, .ref r4, .ref r5, .ref r6])), (r1, .inl (cI, N, .inl g))] s.heap.size = A at hD hXw ⊢
  have hA : ∀ q : Nat, s.heap.size ≤ q → A q := fun q h => by rw [← hAe]; exact Or.inr h
  have hS : va_S A s.heap s.heap [] := va_S.rf
  have hl := lv_entry ([.ref h0, .int x, .int y, .int v]) (n := 4) (Nat.le_of_ble_eq_true rfl)
  rw [show entryFrame m args 4 = entryFrame m (([.ref h0, .int x, .int y, .int v] : List Value)).toArray 4 by rw [hargs], lg_entry_eq]
  generalize (lg_sl ([.ref h0, .int x, .int y, .int v]) ++ List.replicate (4 - (lg_sl ([.ref h0, .int x, .int y, .int v])).length) Slot.unset).toArray = ls at hl ⊢
  have hl : lv_has ls 4 [(0, .ref h0), (1, .int x), (2, .int y), (3, .int v)] := hl
  refine lv_aload_n hx hb d_H_set_0 rfl (lv_at hl 0 rfl) ?_
  refine lv_iload_n hx hb d_H_set_1 rfl (lv_at hl 1 rfl) ?_
  refine va_calli (va_runV (As := [.int x]) (rest := []) ⟨hx, hb, hml, hown, hts⟩ (c_H_isTable l dC dI cI h0 z0 p0 r0 k1 k2 k3 k4 T ops res pl sm x) (cwV 1 hts (ct_giV (fun w h9 => ct_tl h9) kw_364 kw_366 kw_9 kw_26 kw_367) rfl rfl rfl (by decide +kernel) ⟨Nat.le_of_ble_eq_true rfl, Nat.le_of_ble_eq_true rfl⟩) ⟨ct_ro_blind, va_recv hK hP (ci := 0) (q0 := 0) rfl rfl, ct_ro_pre (hP.sub [0] rfl) hK⟩ rfl rfl hl.1 rfl (lv_room (Nat.le_of_ble_eq_true rfl)) d_H_set_2 ⟨Nat.zero_le _, Nat.zero_le _⟩) hS (fun q _ h9 => h9.elim) (fun q h9 => h9.elim) (fun ans1 uS tS H locs ht hvm hwans1 hB hz1 hk1 hS => ?_)
  have hP := ct_keep hP hk1
  refine ct_val (y := nI (if ct_isn T x = true then 1 else 0)) (hwans1) ?_
  by_cases hq : ct_isn T x = true
  · rw [if_pos hq]
    refine lv_if_ne (tgt := 18) hx hb d_H_set_5 (by decide) (fun _ => ?_) (fun hc9 => absurd hc9 (nI_ne0 (by omega) (by omega)))
    obtain ⟨j, hj, rfl⟩ := ct_isn_of (by omega) hq
    have hlj := hlab j hj
    have h27j := h27 j hj
    refine lv_iload_n hx hb d_H_set_18 rfl (lv_at hl 2 rfl) ?_
    by_cases c1 : y < 0
    · refine lv_if_lt (tgt := 39) hx hb d_H_set_19 (by decide) (fun _ => ?_) (fun hc9 => absurd (c1) hc9)
      obtain ⟨sa, hstr⟩ := hXw.2.1 (102, "no such cell") (by decide)
      exact vx_throwS (own := R_H) (cls := R_IOE) (text := "no such cell") (names := ct_sup) (sa := sa) hx hb hst hown kf_IOE.1 kf_IOE.2 (hts _ (ct_tl kl_IOE)) (hts _ (ct_tl kn_IOE)) hstr (kt_IOE hts hXw) kg_IOE hXw.2.2.1 hXw.2.2.2 hS (hl.1.trans hml.symm) d_H_set_39 d_H_set_42 d_H_set_43 d_H_set_45 d_H_set_48 (fun x hx9 => (htab x hx9).elim) (Nat.le_of_ble_eq_true rfl) (Nat.le_of_ble_eq_true rfl) (Nat.le_of_ble_eq_true rfl) (Nat.le_of_ble_eq_true rfl) hlocks (fun tS hal9 hz9 hk9 => ⟨(), trivial, ⟨⟨rfl, Or.inr ⟨j, hj, rfl, by simp [ct_isn, c1]⟩⟩, (ct_thr (hP.sub [0, 1, 2, 3, 4, 5] rfl) hK (hD.sub [0, 1, 2, 3, 4, 5] (by decide) rfl) hS hal9 hz9 hk9).1⟩, (ct_thr hP hK hD hS hal9 hz9 hk9).2⟩) hS.2.2 (Nat.le_of_ble_eq_true rfl) (Nat.le_of_ble_eq_true rfl)
    · refine lv_if_lt (tgt := 39) hx hb d_H_set_19 (by decide) (fun hc9 => absurd hc9 (c1)) (fun _ => ?_)
      refine lv_iload_n hx hb d_H_set_22 rfl (lv_at hl 2 rfl) ?_
      refine lv_aload_n hx hb d_H_set_23 rfl (lv_at hl 0 rfl) ?_
      refine va_get (D := (dC, dI)) (ci := 0) (v := .ref z0) (C := R_H) (T := T_H) (N := 12) hx hb hts (fun w h9 => ct_tl (ki_H w h9)) hown hK hP 0 rfl rfl 0 (by decide) (hts _ (ct_tl kw_114)) (fun _ h9 => h9) rfl d_H_set_24 ?_
      refine lv_aload_n hx hb d_H_set_27 rfl (lv_at hl 0 rfl) ?_
      refine va_get (D := (dC, dI)) (ci := 0) (v := .ref k1) (C := R_H) (T := T_H) (N := 12) hx hb hts (fun w h9 => ct_tl (ki_H w h9)) hown hK hP 0 rfl rfl 4 (by decide) (hts _ (ct_tl kw_118)) (fun _ h9 => h9) rfl d_H_set_28 ?_
      refine lv_iload_n hx hb d_H_set_31 rfl (lv_at hl 1 rfl) ?_
      refine ct_iald hx hb hK hP 1 0 rfl rfl (j := j) (by omega) (by omega) d_H_set_32 ?_
      refine ct_val (y := nI (lab j)) (hf j hj) ?_
      refine va_calli (va_runV (As := [.int (nI (lab j))]) (rest := [.int y]) ⟨hx, hb, hml, hown, hts⟩ (c_S_choices l dC dI cI z0 z1 sz (lab j) (by omega)) (cwV 1 hts (ct_giV (fun w h9 => ct_tl h9) kw_384 kw_195 kw_196 kw_27 kw_197) rfl rfl rfl (by decide +kernel) ⟨Nat.le_of_ble_eq_true rfl, Nat.le_of_ble_eq_true rfl⟩) ⟨ct_ro_blind, va_recv hK hP (ci := 1) (q0 := 2) rfl rfl, ct_ro_pre (hP.sub [2, 3] rfl) hK⟩ rfl rfl hl.1 rfl (lv_room (Nat.le_of_ble_eq_true rfl)) d_H_set_33 ⟨Nat.zero_le _, Nat.zero_le _⟩) hS (fun q _ h9 => h9.elim) (fun q h9 => h9.elim) (fun ans202 uS tS H locs ht hvm hwans202 hB hz1 hk1 hS => ?_)
      have hP := ct_keep hP hk1
      refine ct_val (y := nI (ct_pr sz (lab j).testBit 8)) (hwans202) ?_
      by_cases c2 : y < nI (ct_pr sz (lab j).testBit 8)
      · refine lv_icmp_lt (tgt := 49) hx hb d_H_set_36 (by decide) (fun _ => ?_) (fun hc9 => absurd (c2) hc9)
        obtain ⟨i, hi, rfl⟩ := ct_isn_of (n := ct_pr sz (lab j).testBit 8) (by omega) (x := y) (by simp [ct_isn, c1, Int32.not_le.mpr c2])
        refine lv_aload_n hx hb d_H_set_49 rfl (lv_at hl 0 rfl) ?_
        refine va_get (D := (dC, dI)) (ci := 0) (v := .ref r0) (C := R_H) (T := T_H) (N := 12) hx hb hts (fun w h9 => ct_tl (ki_H w h9)) hown hK hP 0 rfl rfl 2 (by decide) (hts _ (ct_tl kw_116)) (fun _ h9 => h9) rfl d_H_set_50 ?_
        refine lv_iload_n hx hb d_H_set_53 rfl (lv_at hl 1 rfl) ?_
        refine va_calli (va_runS (As := [.int (nI j)]) (rest := [.ref r0]) ⟨hx, hb, hml, hown, hts⟩ (c_H_homeOfTable l dC dI cI j) (va_cwS 1 hts (ct_giT (fun w h9 => ct_tl h9) kw_386 kw_387 kw_26 kw_388) rfl rfl rfl (by decide +kernel) ⟨Nat.le_of_ble_eq_true rfl, Nat.le_of_ble_eq_true rfl⟩) ⟨ct_ro_blind, ct_ro_pre (hP.sub [] rfl) hK⟩ rfl rfl hl.1 rfl (lv_room (Nat.le_of_ble_eq_true rfl)) d_H_set_54 ⟨Nat.zero_le _, Nat.zero_le _⟩) hS (fun q _ h9 => h9.elim) (fun q h9 => h9.elim) (fun ans303 uS tS H locs ht hvm hwans303 hB hz1 hk1 hS => ?_)
        have hP := ct_keep hP hk1
        refine ct_val (y := nI (j * 27)) (hwans303) ?_
        refine lv_iload_n hx hb d_H_set_57 rfl (lv_at hl 2 rfl) ?_
        refine lv_iadd hx hb d_H_set_58 ?_
        refine ct_val (y := nI (j * 27 + i)) (nI_add _ _) ?_
        refine lv_iload_n hx hb d_H_set_59 rfl (lv_at hl 3 rfl) ?_
        have hPc := hP.sub (ws' := [(r0, .inr (3, [.ref z0, .ref r1, .ref r2, .ref r3, .ref r4, .ref r5, .ref r6])), (r1, .inl (cI, N, .inl g))]) [4, 5] rfl
        have hDc := hD.sub (ws' := [(r0, .inr (3, [.ref z0, .ref r1, .ref r2, .ref r3, .ref r4, .ref r5, .ref r6])), (r1, .inl (cI, N, .inl g))]) [4, 5] (by decide) rfl
        have hFc := va_free (wc := [(r0, .inr (3, [.ref z0, .ref r1, .ref r2, .ref r3, .ref r4, .ref r5, .ref r6])), (r1, .inl (cI, N, .inl g))]) hD hS hA [4, 5] rfl
        refine va_callv (va_runV (As := [.int (nI (j * 27 + i)), .int v]) (rest := []) ⟨hx, hb, hml, hown, hts⟩ (c_R_write l dC dI cI z0 r0 r1 r2 r3 r4 r5 r6 N g (j * 27 + i) v (by omega) (by omega) H.size) (cwV 2 hts (ct_giV (fun w h9 => ct_tl h9) kw_389 kw_390 kw_391 kw_29 kw_392) rfl rfl rfl (by decide +kernel) ⟨Nat.le_of_ble_eq_true rfl, Nat.le_of_ble_eq_true rfl⟩) ⟨ct_rw_blind, va_recv hK hP (ci := 3) (q0 := 4) rfl rfl, ct_rw_pre hPc hK hDc⟩ rfl rfl hl.1 rfl (lv_room (Nat.le_of_ble_eq_true rfl)) d_H_set_60 ⟨Nat.zero_le _, Nat.zero_le _⟩) hS (fun q _ h9 => hFc q h9) hFc (fun u tS H1 locs ht hvm hw304 hB hz1 hk1 hS => ?_)
        obtain ⟨hP1, -, hD1⟩ := hB
        rw [ht] at hP1
        obtain ⟨hP, hD⟩ := va_join (wr := [(h0, .inr (0, [.ref z0, .ref p0, .ref r0, .int (nI T), .ref k1, .int ops, .ref k2, .ref k3, .int res, .ref k4, .int pl, .int sm])), (k1, .inl (cI, 8, .inl f)), (z0, .inr (1, [.ref z1])), (z1, .inl (cI, 8, .inl (fun j => nI (sz j))))]) (w1 := [(r0, .inr (3, [.ref z0, .ref r1, .ref r2, .ref r3, .ref r4, .ref r5, .ref r6])), (r1, .inl (cI, N, .inl (upd g (j * 27 + i) v)))]) hP hD [4, 5] [0, 1, 2, 3] rfl rfl (by decide) (by decide) hk1 hFc hP1 hD1
        generalize H1 = H at hP hS ⊢
        have hP : va_P (dC, dI) ct_cl [(h0, .inr (0, [.ref z0, .ref p0, .ref r0, .int (nI T), .ref k1, .int ops, .ref k2, .ref k3, .int res, .ref k4, .int pl, .int sm])), (k1, .inl (cI, 8, .inl f)), (z0, .inr (1, [.ref z1])), (z1, .inl (cI, 8, .inl (fun j => nI (sz j)))), (r0, .inr (3, [.ref z0, .ref r1, .ref r2, .ref r3, .ref r4, .ref r5, .ref r6])), (r1, .inl (cI, N, .inl (upd g (j * 27 + i) v)))] H := hP
        have hD : va_D A [(h0, .inr (0, [.ref z0, .ref p0, .ref r0, .int (nI T), .ref k1, .int ops, .ref k2, .ref k3, .int res, .ref k4, .int pl, .int sm])), (k1, .inl (cI, 8, .inl f)), (z0, .inr (1, [.ref z1])), (z1, .inl (cI, 8, .inl (fun j => nI (sz j)))), (r0, .inr (3, [.ref z0, .ref r1, .ref r2, .ref r3, .ref r4, .ref r5, .ref r6])), (r1, .inl (cI, N, .inl (upd g (j * 27 + i) v)))] := hD
        refine lv_aload_n hx hb d_H_set_63 rfl (lv_at hl 0 rfl) ?_
        refine lv_iconst (v := (nI 0)) hx hb d_H_set_64 (by decide) ?_
        refine va_put (D := (dC, dI)) (ci := 0) (v := .int (nI 0)) (ty := .boolean) (C := R_H) (T := T_H) (N := 12) hx hb hts (fun w h9 => ct_tl (ki_H w h9)) ty_H ok_H nm_H hown hK hP hD hS 0 rfl rfl 11 (by decide) (hts _ (ct_tl kw_125)) (fun _ h9 => h9) rfl (by decide +kernel) rfl rfl (Nat.le_of_ble_eq_true rfl) d_H_set_65 (fun H locs hP hD hS => ?_)
        have hP : va_P (dC, dI) ct_cl [(h0, .inr (0, [.ref z0, .ref p0, .ref r0, .int (nI T), .ref k1, .int ops, .ref k2, .ref k3, .int res, .ref k4, .int pl, .int (nI 0)])), (k1, .inl (cI, 8, .inl f)), (z0, .inr (1, [.ref z1])), (z1, .inl (cI, 8, .inl (fun j => nI (sz j)))), (r0, .inr (3, [.ref z0, .ref r1, .ref r2, .ref r3, .ref r4, .ref r5, .ref r6])), (r1, .inl (cI, N, .inl (upd g (j * 27 + i) v)))] H := hP
        have hD : va_D A [(h0, .inr (0, [.ref z0, .ref p0, .ref r0, .int (nI T), .ref k1, .int ops, .ref k2, .ref k3, .int res, .ref k4, .int pl, .int (nI 0)])), (k1, .inl (cI, 8, .inl f)), (z0, .inr (1, [.ref z1])), (z1, .inl (cI, 8, .inl (fun j => nI (sz j)))), (r0, .inr (3, [.ref z0, .ref r1, .ref r2, .ref r3, .ref r4, .ref r5, .ref r6])), (r1, .inl (cI, N, .inl (upd g (j * 27 + i) v)))] := hD
        refine vx_ret ?_
        refine W.widen (k := 1) (n := 6) (Nat.zero_le _) (Nat.zero_le _) ?_
        have hP9 := hP.sub [0, 1, 2, 3, 4, 5] rfl
        exact W.vret hx hb hr (fun tS ht hW => ⟨⟨(upd g (j * 27 + i) v), rfl, ⟨j, i, hj, rfl, hi, rfl, rfl⟩, by rw [ht]; exact hP9, va_K.moved hW.alike hK, hD.sub [0, 1, 2, 3, 4, 5] (by decide) rfl⟩, hS.F ht⟩) hS.2.2 d_H_set_68
      · refine lv_icmp_lt (tgt := 49) hx hb d_H_set_36 (by decide) (fun hc9 => absurd hc9 (c2)) (fun _ => ?_)
        obtain ⟨sa, hstr⟩ := hXw.2.1 (102, "no such cell") (by decide)
        exact vx_throwS (own := R_H) (cls := R_IOE) (text := "no such cell") (names := ct_sup) (sa := sa) hx hb hst hown kf_IOE.1 kf_IOE.2 (hts _ (ct_tl kl_IOE)) (hts _ (ct_tl kn_IOE)) hstr (kt_IOE hts hXw) kg_IOE hXw.2.2.1 hXw.2.2.2 hS (hl.1.trans hml.symm) d_H_set_39 d_H_set_42 d_H_set_43 d_H_set_45 d_H_set_48 (fun x hx9 => (htab x hx9).elim) (Nat.le_of_ble_eq_true rfl) (Nat.le_of_ble_eq_true rfl) (Nat.le_of_ble_eq_true rfl) (Nat.le_of_ble_eq_true rfl) hlocks (fun tS hal9 hz9 hk9 => ⟨(), trivial, ⟨⟨rfl, Or.inr ⟨j, hj, rfl, by simp [ct_isn, Int32.not_lt.mp c2]⟩⟩, (ct_thr (hP.sub [0, 1, 2, 3, 4, 5] rfl) hK (hD.sub [0, 1, 2, 3, 4, 5] (by decide) rfl) hS hal9 hz9 hk9).1⟩, (ct_thr hP hK hD hS hal9 hz9 hk9).2⟩) hS.2.2 (Nat.le_of_ble_eq_true rfl) (Nat.le_of_ble_eq_true rfl)
  · rw [if_neg hq]
    refine lv_if_ne (tgt := 18) hx hb d_H_set_5 (by decide) (fun hc9 => absurd (nI_0) hc9) (fun _ => ?_)
    obtain ⟨sa, hstr⟩ := hXw.2.1 (95, "no such table") (by decide)
    exact vx_throwS (own := R_H) (cls := R_IOE) (text := "no such table") (names := ct_sup) (sa := sa) hx hb hst hown kf_IOE.1 kf_IOE.2 (hts _ (ct_tl kl_IOE)) (hts _ (ct_tl kn_IOE)) hstr (kt_IOE hts hXw) kg_IOE hXw.2.2.1 hXw.2.2.2 hS (hl.1.trans hml.symm) d_H_set_8 d_H_set_11 d_H_set_12 d_H_set_14 d_H_set_17 (fun x hx9 => (htab x hx9).elim) (Nat.le_of_ble_eq_true rfl) (Nat.le_of_ble_eq_true rfl) (Nat.le_of_ble_eq_true rfl) (Nat.le_of_ble_eq_true rfl) hlocks (fun tS hal9 hz9 hk9 => ⟨(), trivial, ⟨⟨rfl, Or.inl (by simpa using hq)⟩, (ct_thr (hP.sub [0, 1, 2, 3, 4, 5] rfl) hK (hD.sub [0, 1, 2, 3, 4, 5] (by decide) rfl) hS hal9 hz9 hk9).1⟩, (ct_thr hP hK hD hS hal9 hz9 hk9).2⟩) hS.2.2 (Nat.le_of_ble_eq_true rfl) (Nat.le_of_ble_eq_true rfl)
set_option maxHeartbeats 4000000 in
set_option maxRecDepth 100000 in
theorem c_H_clear (l : Launch) (dC : Nat → ClassId) (dI : Nat → Nat → Nat) (cI : ClassId) (h0 z0 p0 r0 k1 k2 k3 k4 : Nat) (tab ops res pl sm : Int32) (sz0 : Nat) : Met l y_H_clear w_H_clear ({ frames := 1, cells := 0, slots := 0, locals := 20 }) (va_Pc [.ref h0] (ct_rw (dC, dI) ct_cl [(h0, .inr (0, [.ref z0, .ref p0, .ref r0, .int tab, .ref k1, .int ops, .ref k2, .ref k3, .int res, .ref k4, .int pl, .int sm]))] [(cI, .int)] sz0)) (va_Qv (fun (u : Unit) => True) (fun (u : Unit) t => ct_at (dC, dI) ct_cl [(cI, .int)] (va_A [(h0, .inr (0, [.ref z0, .ref p0, .ref r0, .int tab, .ref k1, .int ops, .ref k2, .ref k3, .int res, .ref k4, .int pl, .int sm]))] sz0) [(h0, .inr (0, [.ref z0, .ref p0, .ref r0, .int tab, .ref k1, .int (nI 0), .ref k2, .ref k3, .int (nI 0), .ref k4, .int (nI 0), .int (nI 0)]))] t) (va_A [(h0, .inr (0, [.ref z0, .ref p0, .ref r0, .int tab, .ref k1, .int ops, .ref k2, .ref k3, .int res, .ref k4, .int pl, .int sm]))] sz0)) 0 0 (va_A [(h0, .inr (0, [.ref z0, .ref p0, .ref r0, .int tab, .ref k1, .int ops, .ref k2, .ref k3, .int res, .ref k4, .int pl, .int sm]))] sz0) := by
  refine Met.ofW (cc := b_H_clear) (maxL := 1) (ret := none) (by decide) rfl ?_
  intro p e s m args below meth c s₁ Bd hml hv
  obtain ⟨hargs, hsz, hP, hK, hD0⟩ := hv
  have hx := Bd.exec
  have hb := Bd.bytes
  have hr := Bd.returns
  have hts : ∀ w ∈ k_H_clear :: ct_tb, w.before args s = true := atoms_spec (ws := w_H_clear) Bd.pre
  have hown : s.vm.findClass R_H = some m.cls := findClass_of_methodNamed Bd.named
  have hlocks := Bd.notSynchronized
  subst hsz
  have hD := hD0.self (sz := s.heap.size)
  generalize hAe : va_A [(h0, .inr (0, [.ref z0, .ref p0, .ref r0, .int tab, .ref k1, .int ops, .ref k2, .ref k3, .int res, .ref k4, .int pl, .int sm]))] s.heap.size = A at hD ⊢
  have hA : ∀ q : Nat, s.heap.size ≤ q → A q := fun q h => by rw [← hAe]; exact Or.inr h
  have hS : va_S A s.heap s.heap [] := va_S.rf
  have hl := lv_entry ([.ref h0]) (n := 1) (Nat.le_of_ble_eq_true rfl)
  rw [show entryFrame m args 1 = entryFrame m (([.ref h0] : List Value)).toArray 1 by rw [hargs], lg_entry_eq]
  generalize (lg_sl ([.ref h0]) ++ List.replicate (1 - (lg_sl ([.ref h0])).length) Slot.unset).toArray = ls at hl ⊢
  have hl : lv_has ls 1 [(0, .ref h0)] := hl
  refine lv_aload_n hx hb d_H_clear_0 rfl (lv_at hl 0 rfl) ?_
  refine lv_iconst (v := (nI 0)) hx hb d_H_clear_1 (by decide) ?_
  refine va_put (D := (dC, dI)) (ci := 0) (v := .int (nI 0)) (ty := .int) (C := R_H) (T := T_H) (N := 12) hx hb hts (fun w h9 => ct_tl (ki_H w h9)) ty_H ok_H nm_H hown hK hP hD hS 0 rfl rfl 5 (by decide) (hts _ (ct_tl kw_119)) (fun _ h9 => h9) rfl (by decide +kernel) rfl rfl (Nat.le_of_ble_eq_true rfl) d_H_clear_2 (fun H locs hP hD hS => ?_)
  have hP : va_P (dC, dI) ct_cl [(h0, .inr (0, [.ref z0, .ref p0, .ref r0, .int tab, .ref k1, .int (nI 0), .ref k2, .ref k3, .int res, .ref k4, .int pl, .int sm]))] H := hP
  have hD : va_D A [(h0, .inr (0, [.ref z0, .ref p0, .ref r0, .int tab, .ref k1, .int (nI 0), .ref k2, .ref k3, .int res, .ref k4, .int pl, .int sm]))] := hD
  refine lv_aload_n hx hb d_H_clear_5 rfl (lv_at hl 0 rfl) ?_
  refine lv_iconst (v := (nI 0)) hx hb d_H_clear_6 (by decide) ?_
  refine va_put (D := (dC, dI)) (ci := 0) (v := .int (nI 0)) (ty := .int) (C := R_H) (T := T_H) (N := 12) hx hb hts (fun w h9 => ct_tl (ki_H w h9)) ty_H ok_H nm_H hown hK hP hD hS 0 rfl rfl 8 (by decide) (hts _ (ct_tl kw_122)) (fun _ h9 => h9) rfl (by decide +kernel) rfl rfl (Nat.le_of_ble_eq_true rfl) d_H_clear_7 (fun H locs hP hD hS => ?_)
  have hP : va_P (dC, dI) ct_cl [(h0, .inr (0, [.ref z0, .ref p0, .ref r0, .int tab, .ref k1, .int (nI 0), .ref k2, .ref k3, .int (nI 0), .ref k4, .int pl, .int sm]))] H := hP
  have hD : va_D A [(h0, .inr (0, [.ref z0, .ref p0, .ref r0, .int tab, .ref k1, .int (nI 0), .ref k2, .ref k3, .int (nI 0), .ref k4, .int pl, .int sm]))] := hD
  refine lv_aload_n hx hb d_H_clear_10 rfl (lv_at hl 0 rfl) ?_
  have hPc := hP.sub (ws' := [(h0, .inr (0, [.ref z0, .ref p0, .ref r0, .int tab, .ref k1, .int (nI 0), .ref k2, .ref k3, .int (nI 0), .ref k4, .int pl, .int sm]))]) [0] rfl
  have hDc := hD.sub (ws' := [(h0, .inr (0, [.ref z0, .ref p0, .ref r0, .int tab, .ref k1, .int (nI 0), .ref k2, .ref k3, .int (nI 0), .ref k4, .int pl, .int sm]))]) [0] (by decide) rfl
  have hFc := va_free (wc := [(h0, .inr (0, [.ref z0, .ref p0, .ref r0, .int tab, .ref k1, .int (nI 0), .ref k2, .ref k3, .int (nI 0), .ref k4, .int pl, .int sm]))]) hD hS hA [0] rfl
  refine va_callv (va_runV (As := []) (rest := []) ⟨hx, hb, hml, hown, hts⟩ (c_H_forgetPlan l dC dI cI h0 z0 p0 r0 k1 k2 k3 k4 tab (nI 0) (nI 0) pl sm H.size) (cwV 0 hts (ct_giV (fun w h9 => ct_tl h9) kw_155 kw_157 kw_0 kw_26 kw_158) rfl rfl rfl (by decide +kernel) ⟨Nat.le_of_ble_eq_true rfl, Nat.le_of_ble_eq_true rfl⟩) ⟨ct_rw_blind, va_recv hK hP (ci := 0) (q0 := 0) rfl rfl, ct_rw_pre hPc hK hDc⟩ rfl rfl hl.1 rfl (lv_room (Nat.le_of_ble_eq_true rfl)) d_H_clear_11 ⟨Nat.le_of_ble_eq_true rfl, Nat.le_of_ble_eq_true rfl⟩) hS (fun q _ h9 => hFc q h9) hFc (fun u tS H1 locs ht hvm hw1 hB hz1 hk1 hS => ?_)
  obtain ⟨hP1, -, hD1⟩ := hB
  rw [ht] at hP1
  obtain ⟨hP, hD⟩ := va_join (wr := []) (w1 := [(h0, .inr (0, [.ref z0, .ref p0, .ref r0, .int tab, .ref k1, .int (nI 0), .ref k2, .ref k3, .int (nI 0), .ref k4, .int (nI 0), .int (nI 0)]))]) hP hD [0] [] rfl rfl (by decide) (by decide) hk1 hFc hP1 hD1
  generalize H1 = H at hP hS ⊢
  have hP : va_P (dC, dI) ct_cl [(h0, .inr (0, [.ref z0, .ref p0, .ref r0, .int tab, .ref k1, .int (nI 0), .ref k2, .ref k3, .int (nI 0), .ref k4, .int (nI 0), .int (nI 0)]))] H := hP
  have hD : va_D A [(h0, .inr (0, [.ref z0, .ref p0, .ref r0, .int tab, .ref k1, .int (nI 0), .ref k2, .ref k3, .int (nI 0), .ref k4, .int (nI 0), .int (nI 0)]))] := hD
  have hP9 := hP.sub [0] rfl
  exact W.vret hx hb hr (fun tS ht hW => ⟨⟨(), rfl, trivial, by rw [ht]; exact hP9, va_K.moved hW.alike hK, hD.sub [0] (by decide) rfl⟩, hS.F ht⟩) hS.2.2 d_H_clear_14
set_option maxHeartbeats 4000000 in
set_option maxRecDepth 100000 in
theorem c_H_operand (l : Launch) (hst : l.stackTraces = false) (dC : Nat → ClassId) (dI : Nat → Nat → Nat) (cI : ClassId) (h0 z0 p0 r0 k1 k2 k3 k4 : Nat) (T K : Nat) (res pl sm : Int32) (f fot fol : Nat → Int32) (lab : Nat → Nat) (hT8 : T ≤ 8) (hK6 : K ≤ 6) (hf : ∀ t, t < T → f t = nI (lab t)) (x : Int32) (sz0 : Nat) : vx_Met l y_H_operand w_H_operand ({ frames := 6, cells := 1, slots := 6, locals := 90 }) (va_Pc [.ref h0, .int x] (ct_rx (dC, dI) ct_cl [(h0, .inr (0, [.ref z0, .ref p0, .ref r0, .int (nI T), .ref k1, .int (nI K), .ref k2, .ref k3, .int res, .ref k4, .int pl, .int sm])), (k1, .inl (cI, 8, .inl f)), (k2, .inl (cI, 6, .inl fot)), (k3, .inl (cI, 6, .inl fol))] [(cI, .int)] sz0)) (va_Qi (fun (r : Int32) (u : Nat) => u < T ∧ x = nI u ∧ K < 6 ∧ r = nI K) (fun (u : Nat) t => ct_at (dC, dI) ct_cl [(cI, .int)] (va_A [(h0, .inr (0, [.ref z0, .ref p0, .ref r0, .int (nI T), .ref k1, .int (nI K), .ref k2, .ref k3, .int res, .ref k4, .int pl, .int sm])), (k1, .inl (cI, 8, .inl f)), (k2, .inl (cI, 6, .inl fot)), (k3, .inl (cI, 6, .inl fol))] sz0) [(h0, .inr (0, [.ref z0, .ref p0, .ref r0, .int (nI T), .ref k1, .int (nI (K + 1)), .ref k2, .ref k3, .int res, .ref k4, .int (nI 0), .int (nI 0)])), (k1, .inl (cI, 8, .inl f)), (k2, .inl (cI, 6, .inl (upd fot K (nI u)))), (k3, .inl (cI, 6, .inl (upd fol K (nI (lab u)))))] t) (va_A [(h0, .inr (0, [.ref z0, .ref p0, .ref r0, .int (nI T), .ref k1, .int (nI K), .ref k2, .ref k3, .int res, .ref k4, .int pl, .int sm])), (k1, .inl (cI, 8, .inl f)), (k2, .inl (cI, 6, .inl fot)), (k3, .inl (cI, 6, .inl fol))] sz0)) (vx_X (fun (_ : Unit) => True) (fun (E : String) (_ : Unit) t => ((ct_isn T x = false ∧ E = R_IOE) ∨ (ct_isn T x = true ∧ K = 6 ∧ E = R_UOE)) ∧ ct_at (dC, dI) ct_cl [(cI, .int)] (va_A [(h0, .inr (0, [.ref z0, .ref p0, .ref r0, .int (nI T), .ref k1, .int (nI K), .ref k2, .ref k3, .int res, .ref k4, .int pl, .int sm])), (k1, .inl (cI, 8, .inl f)), (k2, .inl (cI, 6, .inl fot)), (k3, .inl (cI, 6, .inl fol))] sz0) [(h0, .inr (0, [.ref z0, .ref p0, .ref r0, .int (nI T), .ref k1, .int (nI K), .ref k2, .ref k3, .int res, .ref k4, .int pl, .int sm])), (k1, .inl (cI, 8, .inl f)), (k2, .inl (cI, 6, .inl fot)), (k3, .inl (cI, 6, .inl fol))] t) (va_A [(h0, .inr (0, [.ref z0, .ref p0, .ref r0, .int (nI T), .ref k1, .int (nI K), .ref k2, .ref k3, .int res, .ref k4, .int pl, .int sm])), (k1, .inl (cI, 8, .inl f)), (k2, .inl (cI, 6, .inl fot)), (k3, .inl (cI, 6, .inl fol))] sz0)) 1 6 (va_A [(h0, .inr (0, [.ref z0, .ref p0, .ref r0, .int (nI T), .ref k1, .int (nI K), .ref k2, .ref k3, .int res, .ref k4, .int pl, .int sm])), (k1, .inl (cI, 8, .inl f)), (k2, .inl (cI, 6, .inl fot)), (k3, .inl (cI, 6, .inl fol))] sz0) := by
  refine vx_ofW (cc := b_H_operand) (maxL := 2) (ret := (some .int)) (by decide) rfl ?_
  intro p e s m args below meth c s₁ Bd hml htab hv
  obtain ⟨hargs, ⟨hsz, hP, hK, hD0⟩, hXw⟩ := hv
  have hx := Bd.exec
  have hb := Bd.bytes
  have hr := Bd.returns
  have hts : ∀ w ∈ k_H_operand :: ct_tb, w.before args s = true := atoms_spec (ws := w_H_operand) Bd.pre
  have hown : s.vm.findClass R_H = some m.cls := findClass_of_methodNamed Bd.named
  have hlocks := Bd.notSynchronized
  subst hsz
  have hD := hD0.self (sz := s.heap.size)
  generalize hAe : va_A [(h0, .inr (0, [.ref z0, .ref p0, .ref r0, .int (nI T), .ref k1, .int (nI K), .ref k2, .ref k3, .int res, .ref k4, .int pl, .int sm])), (k1, .inl (cI, 8, .inl f)), (k2, .inl (cI, 6, .inl fot)), (k3, .inl (cI, 6, .inl fol))] s.heap.size = A at hD hXw ⊢
  have hA : ∀ q : Nat, s.heap.size ≤ q → A q := fun q h => by rw [← hAe]; exact Or.inr h
  have hS : va_S A s.heap s.heap [] := va_S.rf
  have hl := lv_entry ([.ref h0, .int x]) (n := 2) (Nat.le_of_ble_eq_true rfl)
  rw [show entryFrame m args 2 = entryFrame m (([.ref h0, .int x] : List Value)).toArray 2 by rw [hargs], lg_entry_eq]
  generalize (lg_sl ([.ref h0, .int x]) ++ List.replicate (2 - (lg_sl ([.ref h0, .int x])).length) Slot.unset).toArray = ls at hl ⊢
  have hl : lv_has ls 2 [(0, .ref h0), (1, .int x)] := hl
  refine lv_aload_n hx hb d_H_operand_0 rfl (lv_at hl 0 rfl) ?_
  refine lv_iload_n hx hb d_H_operand_1 rfl (lv_at hl 1 rfl) ?_
  refine va_calli (va_runV (As := [.int x]) (rest := []) ⟨hx, hb, hml, hown, hts⟩ (c_H_isTable l dC dI cI h0 z0 p0 r0 k1 k2 k3 k4 T (nI K) res pl sm x) (cwV 1 hts (ct_giV (fun w h9 => ct_tl h9) kw_364 kw_366 kw_9 kw_26 kw_367) rfl rfl rfl (by decide +kernel) ⟨Nat.le_of_ble_eq_true rfl, Nat.le_of_ble_eq_true rfl⟩) ⟨ct_ro_blind, va_recv hK hP (ci := 0) (q0 := 0) rfl rfl, ct_ro_pre (hP.sub [0] rfl) hK⟩ rfl rfl hl.1 rfl (lv_room (Nat.le_of_ble_eq_true rfl)) d_H_operand_2 ⟨Nat.zero_le _, Nat.zero_le _⟩) hS (fun q _ h9 => h9.elim) (fun q h9 => h9.elim) (fun ans1 uS tS H locs ht hvm hwans1 hB hz1 hk1 hS => ?_)
  have hP := ct_keep hP hk1
  refine ct_val (y := nI (if ct_isn T x = true then 1 else 0)) (hwans1) ?_
  by_cases hq : ct_isn T x = true
  · rw [if_pos hq]
    refine lv_if_ne (tgt := 18) hx hb d_H_operand_5 (by decide) (fun _ => ?_) (fun hc9 => absurd hc9 (nI_ne0 (by omega) (by omega)))
    refine lv_aload_n hx hb d_H_operand_18 rfl (lv_at hl 0 rfl) ?_
    refine va_get (D := (dC, dI)) (ci := 0) (v := .int (nI K)) (C := R_H) (T := T_H) (N := 12) hx hb hts (fun w h9 => ct_tl (ki_H w h9)) hown hK hP 0 rfl rfl 5 (by decide) (hts _ (ct_tl kw_119)) (fun _ h9 => h9) rfl d_H_operand_19 ?_
    refine lv_bipush (v := (nI 6)) hx hb d_H_operand_22 (by decide) ?_
    by_cases h8 : K < 6
    · refine lv_icmp_lt (tgt := 37) hx hb d_H_operand_24 (by decide) (fun _ => ?_) (fun hc9 => absurd (nI_lt h8 (by omega)) hc9)
      obtain ⟨j, hj, rfl⟩ := ct_isn_of (by omega) hq
      refine lv_aload_n hx hb d_H_operand_37 rfl (lv_at hl 0 rfl) ?_
      refine va_get (D := (dC, dI)) (ci := 0) (v := .ref k2) (C := R_H) (T := T_H) (N := 12) hx hb hts (fun w h9 => ct_tl (ki_H w h9)) hown hK hP 0 rfl rfl 6 (by decide) (hts _ (ct_tl kw_120)) (fun _ h9 => h9) rfl d_H_operand_38 ?_
      refine lv_aload_n hx hb d_H_operand_41 rfl (lv_at hl 0 rfl) ?_
      refine va_get (D := (dC, dI)) (ci := 0) (v := .int (nI K)) (C := R_H) (T := T_H) (N := 12) hx hb hts (fun w h9 => ct_tl (ki_H w h9)) hown hK hP 0 rfl rfl 5 (by decide) (hts _ (ct_tl kw_119)) (fun _ h9 => h9) rfl d_H_operand_42 ?_
      refine lv_iload_n hx hb d_H_operand_45 rfl (lv_at hl 1 rfl) ?_
      refine ct_iast hx hb hK hP hD hS 2 0 rfl rfl (j := K) (by omega) (by omega) d_H_operand_46 (fun H locs hP hD hS => ?_)
      have hP : va_P (dC, dI) ct_cl [(h0, .inr (0, [.ref z0, .ref p0, .ref r0, .int (nI T), .ref k1, .int (nI K), .ref k2, .ref k3, .int res, .ref k4, .int pl, .int sm])), (k1, .inl (cI, 8, .inl f)), (k2, .inl (cI, 6, .inl (upd fot K (nI j)))), (k3, .inl (cI, 6, .inl fol))] H := hP
      have hD : va_D A [(h0, .inr (0, [.ref z0, .ref p0, .ref r0, .int (nI T), .ref k1, .int (nI K), .ref k2, .ref k3, .int res, .ref k4, .int pl, .int sm])), (k1, .inl (cI, 8, .inl f)), (k2, .inl (cI, 6, .inl (upd fot K (nI j)))), (k3, .inl (cI, 6, .inl fol))] := hD
      refine lv_aload_n hx hb d_H_operand_47 rfl (lv_at hl 0 rfl) ?_
      refine va_get (D := (dC, dI)) (ci := 0) (v := .ref k3) (C := R_H) (T := T_H) (N := 12) hx hb hts (fun w h9 => ct_tl (ki_H w h9)) hown hK hP 0 rfl rfl 7 (by decide) (hts _ (ct_tl kw_121)) (fun _ h9 => h9) rfl d_H_operand_48 ?_
      refine lv_aload_n hx hb d_H_operand_51 rfl (lv_at hl 0 rfl) ?_
      refine va_get (D := (dC, dI)) (ci := 0) (v := .int (nI K)) (C := R_H) (T := T_H) (N := 12) hx hb hts (fun w h9 => ct_tl (ki_H w h9)) hown hK hP 0 rfl rfl 5 (by decide) (hts _ (ct_tl kw_119)) (fun _ h9 => h9) rfl d_H_operand_52 ?_
      refine lv_aload_n hx hb d_H_operand_55 rfl (lv_at hl 0 rfl) ?_
      refine va_get (D := (dC, dI)) (ci := 0) (v := .ref k1) (C := R_H) (T := T_H) (N := 12) hx hb hts (fun w h9 => ct_tl (ki_H w h9)) hown hK hP 0 rfl rfl 4 (by decide) (hts _ (ct_tl kw_118)) (fun _ h9 => h9) rfl d_H_operand_56 ?_
      refine lv_iload_n hx hb d_H_operand_59 rfl (lv_at hl 1 rfl) ?_
      refine ct_iald hx hb hK hP 1 0 rfl rfl (j := j) (by omega) (by omega) d_H_operand_60 ?_
      refine ct_val (y := nI (lab j)) (hf j hj) ?_
      refine ct_iast hx hb hK hP hD hS 3 0 rfl rfl (j := K) (by omega) (by omega) d_H_operand_61 (fun H locs hP hD hS => ?_)
      have hP : va_P (dC, dI) ct_cl [(h0, .inr (0, [.ref z0, .ref p0, .ref r0, .int (nI T), .ref k1, .int (nI K), .ref k2, .ref k3, .int res, .ref k4, .int pl, .int sm])), (k1, .inl (cI, 8, .inl f)), (k2, .inl (cI, 6, .inl (upd fot K (nI j)))), (k3, .inl (cI, 6, .inl (upd fol K (nI (lab j)))))] H := hP
      have hD : va_D A [(h0, .inr (0, [.ref z0, .ref p0, .ref r0, .int (nI T), .ref k1, .int (nI K), .ref k2, .ref k3, .int res, .ref k4, .int pl, .int sm])), (k1, .inl (cI, 8, .inl f)), (k2, .inl (cI, 6, .inl (upd fot K (nI j)))), (k3, .inl (cI, 6, .inl (upd fol K (nI (lab j)))))] := hD
      refine lv_aload_n hx hb d_H_operand_62 rfl (lv_at hl 0 rfl) ?_
      refine lv_dup hx hb d_H_operand_63 rfl ?_
      refine va_get (D := (dC, dI)) (ci := 0) (v := .int (nI K)) (C := R_H) (T := T_H) (N := 12) hx hb hts (fun w h9 => ct_tl (ki_H w h9)) hown hK hP 0 rfl rfl 5 (by decide) (hts _ (ct_tl kw_119)) (fun _ h9 => h9) rfl d_H_operand_64 ?_
      refine lv_iconst (v := (nI 1)) hx hb d_H_operand_67 (by decide) ?_
      refine lv_iadd hx hb d_H_operand_68 ?_
      refine ct_val (y := nI (K + 1)) (nI_1 _) ?_
      refine va_put (D := (dC, dI)) (ci := 0) (v := .int (nI (K + 1))) (ty := .int) (C := R_H) (T := T_H) (N := 12) hx hb hts (fun w h9 => ct_tl (ki_H w h9)) ty_H ok_H nm_H hown hK hP hD hS 0 rfl rfl 5 (by decide) (hts _ (ct_tl kw_119)) (fun _ h9 => h9) rfl (by decide +kernel) rfl rfl (Nat.le_of_ble_eq_true rfl) d_H_operand_69 (fun H locs hP hD hS => ?_)
      have hP : va_P (dC, dI) ct_cl [(h0, .inr (0, [.ref z0, .ref p0, .ref r0, .int (nI T), .ref k1, .int (nI (K + 1)), .ref k2, .ref k3, .int res, .ref k4, .int pl, .int sm])), (k1, .inl (cI, 8, .inl f)), (k2, .inl (cI, 6, .inl (upd fot K (nI j)))), (k3, .inl (cI, 6, .inl (upd fol K (nI (lab j)))))] H := hP
      have hD : va_D A [(h0, .inr (0, [.ref z0, .ref p0, .ref r0, .int (nI T), .ref k1, .int (nI (K + 1)), .ref k2, .ref k3, .int res, .ref k4, .int pl, .int sm])), (k1, .inl (cI, 8, .inl f)), (k2, .inl (cI, 6, .inl (upd fot K (nI j)))), (k3, .inl (cI, 6, .inl (upd fol K (nI (lab j)))))] := hD
      refine lv_aload_n hx hb d_H_operand_72 rfl (lv_at hl 0 rfl) ?_
      have hPc := hP.sub (ws' := [(h0, .inr (0, [.ref z0, .ref p0, .ref r0, .int (nI T), .ref k1, .int (nI (K + 1)), .ref k2, .ref k3, .int res, .ref k4, .int pl, .int sm]))]) [0] rfl
      have hDc := hD.sub (ws' := [(h0, .inr (0, [.ref z0, .ref p0, .ref r0, .int (nI T), .ref k1, .int (nI (K + 1)), .ref k2, .ref k3, .int res, .ref k4, .int pl, .int sm]))]) [0] (by decide) rfl
      have hFc := va_free (wc := [(h0, .inr (0, [.ref z0, .ref p0, .ref r0, .int (nI T), .ref k1, .int (nI (K + 1)), .ref k2, .ref k3, .int res, .ref k4, .int pl, .int sm]))]) hD hS hA [0] rfl
      refine va_callv (va_runV (As := []) (rest := []) ⟨hx, hb, hml, hown, hts⟩ (c_H_forgetPlan l dC dI cI h0 z0 p0 r0 k1 k2 k3 k4 (nI T) (nI (K + 1)) res pl sm H.size) (cwV 0 hts (ct_giV (fun w h9 => ct_tl h9) kw_155 kw_157 kw_0 kw_26 kw_158) rfl rfl rfl (by decide +kernel) ⟨Nat.le_of_ble_eq_true rfl, Nat.le_of_ble_eq_true rfl⟩) ⟨ct_rw_blind, va_recv hK hP (ci := 0) (q0 := 0) rfl rfl, ct_rw_pre hPc hK hDc⟩ rfl rfl hl.1 rfl (lv_room (Nat.le_of_ble_eq_true rfl)) d_H_operand_73 ⟨Nat.zero_le _, Nat.zero_le _⟩) hS (fun q _ h9 => hFc q h9) hFc (fun u tS H1 locs ht hvm hw202 hB hz1 hk1 hS => ?_)
      obtain ⟨hP1, -, hD1⟩ := hB
      rw [ht] at hP1
      obtain ⟨hP, hD⟩ := va_join (wr := [(k1, .inl (cI, 8, .inl f)), (k2, .inl (cI, 6, .inl (upd fot K (nI j)))), (k3, .inl (cI, 6, .inl (upd fol K (nI (lab j)))))]) (w1 := [(h0, .inr (0, [.ref z0, .ref p0, .ref r0, .int (nI T), .ref k1, .int (nI (K + 1)), .ref k2, .ref k3, .int res, .ref k4, .int (nI 0), .int (nI 0)]))]) hP hD [0] [1, 2, 3] rfl rfl (by decide) (by decide) hk1 hFc hP1 hD1
      generalize H1 = H at hP hS ⊢
      have hP : va_P (dC, dI) ct_cl [(k1, .inl (cI, 8, .inl f)), (k2, .inl (cI, 6, .inl (upd fot K (nI j)))), (k3, .inl (cI, 6, .inl (upd fol K (nI (lab j))))), (h0, .inr (0, [.ref z0, .ref p0, .ref r0, .int (nI T), .ref k1, .int (nI (K + 1)), .ref k2, .ref k3, .int res, .ref k4, .int (nI 0), .int (nI 0)]))] H := hP
      have hD : va_D A [(k1, .inl (cI, 8, .inl f)), (k2, .inl (cI, 6, .inl (upd fot K (nI j)))), (k3, .inl (cI, 6, .inl (upd fol K (nI (lab j))))), (h0, .inr (0, [.ref z0, .ref p0, .ref r0, .int (nI T), .ref k1, .int (nI (K + 1)), .ref k2, .ref k3, .int res, .ref k4, .int (nI 0), .int (nI 0)]))] := hD
      refine lv_aload_n hx hb d_H_operand_76 rfl (lv_at hl 0 rfl) ?_
      refine va_get (D := (dC, dI)) (ci := 0) (v := .int (nI (K + 1))) (C := R_H) (T := T_H) (N := 12) hx hb hts (fun w h9 => ct_tl (ki_H w h9)) hown hK hP 3 rfl rfl 5 (by decide) (hts _ (ct_tl kw_119)) (fun _ h9 => h9) rfl d_H_operand_77 ?_
      refine lv_iconst (v := (nI 1)) hx hb d_H_operand_80 (by decide) ?_
      refine lv_isub hx hb d_H_operand_81 ?_
      refine ct_val (y := nI K) (nI_pred K) ?_
      refine vx_ret ?_
      refine W.widen (k := 1) (n := 6) (Nat.zero_le _) (Nat.zero_le _) ?_
      have hP9 := hP.sub [3, 0, 1, 2] rfl
      exact W.iret (v := (nI K)) hx hb hr (fun tS ht hW => ⟨⟨(nI K), j, rfl, ⟨hj, rfl, h8, rfl⟩, by rw [ht]; exact hP9, va_K.moved hW.alike hK, hD.sub [3, 0, 1, 2] (by decide) rfl⟩, hS.F ht⟩) hS.2.2 d_H_operand_82
    · refine lv_icmp_lt (tgt := 37) hx hb d_H_operand_24 (by decide) (fun hc9 => absurd hc9 (nI_nlt (by omega) (by omega))) (fun _ => ?_)
      obtain ⟨sa, hstr⟩ := hXw.2.1 (119, "there are six operands") (by decide)
      exact vx_throwS (own := R_H) (cls := R_UOE) (text := "there are six operands") (names := ct_sup) (sa := sa) hx hb hst hown kf_UOE.1 kf_UOE.2 (hts _ (ct_tl kl_UOE)) (hts _ (ct_tl kn_UOE)) hstr (kt_UOE hts hXw) kg_UOE hXw.2.2.1 hXw.2.2.2 hS (hl.1.trans hml.symm) d_H_operand_27 d_H_operand_30 d_H_operand_31 d_H_operand_33 d_H_operand_36 (fun x hx9 => (htab x hx9).elim) (Nat.le_of_ble_eq_true rfl) (Nat.le_of_ble_eq_true rfl) (Nat.le_of_ble_eq_true rfl) (Nat.le_of_ble_eq_true rfl) hlocks (fun tS hal9 hz9 hk9 => ⟨(), trivial, ⟨Or.inr ⟨hq, by omega, rfl⟩, (ct_thr (hP.sub [0, 1, 2, 3] rfl) hK (hD.sub [0, 1, 2, 3] (by decide) rfl) hS hal9 hz9 hk9).1⟩, (ct_thr hP hK hD hS hal9 hz9 hk9).2⟩) hS.2.2 (Nat.le_of_ble_eq_true rfl) (Nat.le_of_ble_eq_true rfl)
  · rw [if_neg hq]
    refine lv_if_ne (tgt := 18) hx hb d_H_operand_5 (by decide) (fun hc9 => absurd (nI_0) hc9) (fun _ => ?_)
    obtain ⟨sa, hstr⟩ := hXw.2.1 (95, "no such table") (by decide)
    exact vx_throwS (own := R_H) (cls := R_IOE) (text := "no such table") (names := ct_sup) (sa := sa) hx hb hst hown kf_IOE.1 kf_IOE.2 (hts _ (ct_tl kl_IOE)) (hts _ (ct_tl kn_IOE)) hstr (kt_IOE hts hXw) kg_IOE hXw.2.2.1 hXw.2.2.2 hS (hl.1.trans hml.symm) d_H_operand_8 d_H_operand_11 d_H_operand_12 d_H_operand_14 d_H_operand_17 (fun x hx9 => (htab x hx9).elim) (Nat.le_of_ble_eq_true rfl) (Nat.le_of_ble_eq_true rfl) (Nat.le_of_ble_eq_true rfl) (Nat.le_of_ble_eq_true rfl) hlocks (fun tS hal9 hz9 hk9 => ⟨(), trivial, ⟨Or.inl ⟨by simpa using hq, rfl⟩, (ct_thr (hP.sub [0, 1, 2, 3] rfl) hK (hD.sub [0, 1, 2, 3] (by decide) rfl) hS hal9 hz9 hk9).1⟩, (ct_thr hP hK hD hS hal9 hz9 hk9).2⟩) hS.2.2 (Nat.le_of_ble_eq_true rfl) (Nat.le_of_ble_eq_true rfl)
set_option maxHeartbeats 4000000 in
set_option maxRecDepth 100000 in
theorem c_H_result (l : Launch) (hst : l.stackTraces = false) (dC : Nat → ClassId) (dI : Nat → Nat → Nat) (cI : ClassId) (z1 : Nat) (sz : Nat → Nat) (h0 z0 p0 r0 k1 k2 k3 k4 : Nat) (tab ops res pl sm : Int32) (a b d : Int32) (sz0 : Nat) : vx_Met l y_H_result w_H_result ({ frames := 6, cells := 1, slots := 6, locals := 90 }) (va_Pc [.ref h0, .int a, .int b, .int d] (ct_rx (dC, dI) ct_cl [(h0, .inr (0, [.ref z0, .ref p0, .ref r0, .int tab, .ref k1, .int ops, .ref k2, .ref k3, .int res, .ref k4, .int pl, .int sm])), (z0, .inr (1, [.ref z1])), (z1, .inl (cI, 8, .inl (fun j => nI (sz j))))] [(cI, .int)] sz0)) (va_Qi (fun (r : Int32) (u : Unit) => r = nI (ct_pr sz (ct_lbs a b d).testBit 8) ∧ ct_al a b d = true) (fun (u : Unit) t => ct_at (dC, dI) ct_cl [(cI, .int)] (va_A [(h0, .inr (0, [.ref z0, .ref p0, .ref r0, .int tab, .ref k1, .int ops, .ref k2, .ref k3, .int res, .ref k4, .int pl, .int sm])), (z0, .inr (1, [.ref z1])), (z1, .inl (cI, 8, .inl (fun j => nI (sz j))))] sz0) [(h0, .inr (0, [.ref z0, .ref p0, .ref r0, .int tab, .ref k1, .int ops, .ref k2, .ref k3, .int (nI (ct_lbs a b d)), .ref k4, .int (nI 0), .int (nI 0)])), (z0, .inr (1, [.ref z1])), (z1, .inl (cI, 8, .inl (fun j => nI (sz j))))] t) (va_A [(h0, .inr (0, [.ref z0, .ref p0, .ref r0, .int tab, .ref k1, .int ops, .ref k2, .ref k3, .int res, .ref k4, .int pl, .int sm])), (z0, .inr (1, [.ref z1])), (z1, .inl (cI, 8, .inl (fun j => nI (sz j))))] sz0)) (vx_X (fun (_ : Unit) => True) (fun (E : String) (_ : Unit) t => (ct_al a b d = false ∧ E = R_IAE) ∧ ct_at (dC, dI) ct_cl [(cI, .int)] (va_A [(h0, .inr (0, [.ref z0, .ref p0, .ref r0, .int tab, .ref k1, .int ops, .ref k2, .ref k3, .int res, .ref k4, .int pl, .int sm])), (z0, .inr (1, [.ref z1])), (z1, .inl (cI, 8, .inl (fun j => nI (sz j))))] sz0) [(h0, .inr (0, [.ref z0, .ref p0, .ref r0, .int tab, .ref k1, .int ops, .ref k2, .ref k3, .int res, .ref k4, .int pl, .int sm])), (z0, .inr (1, [.ref z1])), (z1, .inl (cI, 8, .inl (fun j => nI (sz j))))] t) (va_A [(h0, .inr (0, [.ref z0, .ref p0, .ref r0, .int tab, .ref k1, .int ops, .ref k2, .ref k3, .int res, .ref k4, .int pl, .int sm])), (z0, .inr (1, [.ref z1])), (z1, .inl (cI, 8, .inl (fun j => nI (sz j))))] sz0)) 1 6 (va_A [(h0, .inr (0, [.ref z0, .ref p0, .ref r0, .int tab, .ref k1, .int ops, .ref k2, .ref k3, .int res, .ref k4, .int pl, .int sm])), (z0, .inr (1, [.ref z1])), (z1, .inl (cI, 8, .inl (fun j => nI (sz j))))] sz0) := by
  refine vx_ofW (cc := b_H_result) (maxL := 4) (ret := (some .int)) (by decide) rfl ?_
  intro p e s m args below meth c s₁ Bd hml htab hv
  obtain ⟨hargs, ⟨hsz, hP, hK, hD0⟩, hXw⟩ := hv
  have hx := Bd.exec
  have hb := Bd.bytes
  have hr := Bd.returns
  have hts : ∀ w ∈ k_H_result :: ct_tb, w.before args s = true := atoms_spec (ws := w_H_result) Bd.pre
  have hown : s.vm.findClass R_H = some m.cls := findClass_of_methodNamed Bd.named
  have hlocks := Bd.notSynchronized
  subst hsz
  have hD := hD0.self (sz := s.heap.size)
  generalize hAe : va_A [(h0, .inr (0, [.ref z0, .ref p0, .ref r0, .int tab, .ref k1, .int ops, .ref k2, .ref k3, .int res, .ref k4, .int pl, .int sm])), (z0, .inr (1, [.ref z1])), (z1, .inl (cI, 8, .inl (fun j => nI (sz j))))] s.heap.size = A at hD hXw ⊢
  have hA : ∀ q : Nat, s.heap.size ≤ q → A q := fun q h => by rw [← hAe]; exact Or.inr h
  have hS : va_S A s.heap s.heap [] := va_S.rf
  have hl := lv_entry ([.ref h0, .int a, .int b, .int d]) (n := 4) (Nat.le_of_ble_eq_true rfl)
  rw [show entryFrame m args 4 = entryFrame m (([.ref h0, .int a, .int b, .int d] : List Value)).toArray 4 by rw [hargs], lg_entry_eq]
  generalize (lg_sl ([.ref h0, .int a, .int b, .int d]) ++ List.replicate (4 - (lg_sl ([.ref h0, .int a, .int b, .int d])).length) Slot.unset).toArray = ls at hl ⊢
  have hl : lv_has ls 4 [(0, .ref h0), (1, .int a), (2, .int b), (3, .int d)] := hl
  refine lv_iload_n hx hb d_H_result_0 rfl (lv_at hl 1 rfl) ?_
  refine lv_iload_n hx hb d_H_result_1 rfl (lv_at hl 2 rfl) ?_
  refine lv_iload_n hx hb d_H_result_2 rfl (lv_at hl 3 rfl) ?_
  refine va_calli (va_runS (As := [.int a, .int b, .int d]) (rest := []) ⟨hx, hb, hml, hown, hts⟩ (c_H_areLabels l dC dI cI a b d) (va_cwS 3 hts (ct_giT (fun w h9 => ct_tl h9) kw_330 kw_331 kw_26 kw_332) rfl rfl rfl (by decide +kernel) ⟨Nat.le_of_ble_eq_true rfl, Nat.le_of_ble_eq_true rfl⟩) ⟨ct_ro_blind, ct_ro_pre (hP.sub [] rfl) hK⟩ rfl rfl hl.1 rfl (lv_room (Nat.le_of_ble_eq_true rfl)) d_H_result_3 ⟨Nat.zero_le _, Nat.zero_le _⟩) hS (fun q _ h9 => h9.elim) (fun q h9 => h9.elim) (fun ans1 uS tS H locs ht hvm hwans1 hB hz1 hk1 hS => ?_)
  have hP := ct_keep hP hk1
  refine ct_val (y := nI (if ct_al a b d = true then 1 else 0)) (hwans1) ?_
  by_cases hq : ct_al a b d = true
  · rw [if_pos hq]
    refine lv_if_ne (tgt := 19) hx hb d_H_result_6 (by decide) (fun _ => ?_) (fun hc9 => absurd hc9 (nI_ne0 (by omega) (by omega)))
    have hisl := ct_al_isl hq
    have hlt := ct_lbs_lt hq
    refine lv_aload_n hx hb d_H_result_19 rfl (lv_at hl 0 rfl) ?_
    refine lv_iload_n hx hb d_H_result_20 rfl (lv_at hl 1 rfl) ?_
    refine lv_iload_n hx hb d_H_result_21 rfl (lv_at hl 2 rfl) ?_
    refine lv_iload_n hx hb d_H_result_22 rfl (lv_at hl 3 rfl) ?_
    refine va_calli (va_runS (As := [.int a, .int b, .int d]) (rest := [.ref h0]) ⟨hx, hb, hml, hown, hts⟩ (c_H_labelBits l dC dI cI a b d hisl.1 hisl.2.1 hisl.2.2) (va_cwS 3 hts (ct_giT (fun w h9 => ct_tl h9) kw_353 kw_354 kw_26 kw_355) rfl rfl rfl (by decide +kernel) ⟨Nat.le_of_ble_eq_true rfl, Nat.le_of_ble_eq_true rfl⟩) ⟨ct_ro_blind, ct_ro_pre (hP.sub [] rfl) hK⟩ rfl rfl hl.1 rfl (lv_room (Nat.le_of_ble_eq_true rfl)) d_H_result_23 ⟨Nat.zero_le _, Nat.zero_le _⟩) hS (fun q _ h9 => h9.elim) (fun q h9 => h9.elim) (fun ans102 uS tS H locs ht hvm hwans102 hB hz1 hk1 hS => ?_)
    have hP := ct_keep hP hk1
    refine ct_val (y := nI (ct_lbs a b d)) (hwans102) ?_
    refine va_put (D := (dC, dI)) (ci := 0) (v := .int (nI (ct_lbs a b d))) (ty := .int) (C := R_H) (T := T_H) (N := 12) hx hb hts (fun w h9 => ct_tl (ki_H w h9)) ty_H ok_H nm_H hown hK hP hD hS 0 rfl rfl 8 (by decide) (hts _ (ct_tl kw_122)) (fun _ h9 => h9) rfl (by decide +kernel) rfl rfl (Nat.le_of_ble_eq_true rfl) d_H_result_26 (fun H locs hP hD hS => ?_)
    have hP : va_P (dC, dI) ct_cl [(h0, .inr (0, [.ref z0, .ref p0, .ref r0, .int tab, .ref k1, .int ops, .ref k2, .ref k3, .int (nI (ct_lbs a b d)), .ref k4, .int pl, .int sm])), (z0, .inr (1, [.ref z1])), (z1, .inl (cI, 8, .inl (fun j => nI (sz j))))] H := hP
    have hD : va_D A [(h0, .inr (0, [.ref z0, .ref p0, .ref r0, .int tab, .ref k1, .int ops, .ref k2, .ref k3, .int (nI (ct_lbs a b d)), .ref k4, .int pl, .int sm])), (z0, .inr (1, [.ref z1])), (z1, .inl (cI, 8, .inl (fun j => nI (sz j))))] := hD
    refine lv_aload_n hx hb d_H_result_29 rfl (lv_at hl 0 rfl) ?_
    have hPc := hP.sub (ws' := [(h0, .inr (0, [.ref z0, .ref p0, .ref r0, .int tab, .ref k1, .int ops, .ref k2, .ref k3, .int (nI (ct_lbs a b d)), .ref k4, .int pl, .int sm]))]) [0] rfl
    have hDc := hD.sub (ws' := [(h0, .inr (0, [.ref z0, .ref p0, .ref r0, .int tab, .ref k1, .int ops, .ref k2, .ref k3, .int (nI (ct_lbs a b d)), .ref k4, .int pl, .int sm]))]) [0] (by decide) rfl
    have hFc := va_free (wc := [(h0, .inr (0, [.ref z0, .ref p0, .ref r0, .int tab, .ref k1, .int ops, .ref k2, .ref k3, .int (nI (ct_lbs a b d)), .ref k4, .int pl, .int sm]))]) hD hS hA [0] rfl
    refine va_callv (va_runV (As := []) (rest := []) ⟨hx, hb, hml, hown, hts⟩ (c_H_forgetPlan l dC dI cI h0 z0 p0 r0 k1 k2 k3 k4 tab ops (nI (ct_lbs a b d)) pl sm H.size) (cwV 0 hts (ct_giV (fun w h9 => ct_tl h9) kw_155 kw_157 kw_0 kw_26 kw_158) rfl rfl rfl (by decide +kernel) ⟨Nat.le_of_ble_eq_true rfl, Nat.le_of_ble_eq_true rfl⟩) ⟨ct_rw_blind, va_recv hK hP (ci := 0) (q0 := 0) rfl rfl, ct_rw_pre hPc hK hDc⟩ rfl rfl hl.1 rfl (lv_room (Nat.le_of_ble_eq_true rfl)) d_H_result_30 ⟨Nat.zero_le _, Nat.zero_le _⟩) hS (fun q _ h9 => hFc q h9) hFc (fun u tS H1 locs ht hvm hw103 hB hz1 hk1 hS => ?_)
    obtain ⟨hP1, -, hD1⟩ := hB
    rw [ht] at hP1
    obtain ⟨hP, hD⟩ := va_join (wr := [(z0, .inr (1, [.ref z1])), (z1, .inl (cI, 8, .inl (fun j => nI (sz j))))]) (w1 := [(h0, .inr (0, [.ref z0, .ref p0, .ref r0, .int tab, .ref k1, .int ops, .ref k2, .ref k3, .int (nI (ct_lbs a b d)), .ref k4, .int (nI 0), .int (nI 0)]))]) hP hD [0] [1, 2] rfl rfl (by decide) (by decide) hk1 hFc hP1 hD1
    generalize H1 = H at hP hS ⊢
    have hP : va_P (dC, dI) ct_cl [(z0, .inr (1, [.ref z1])), (z1, .inl (cI, 8, .inl (fun j => nI (sz j)))), (h0, .inr (0, [.ref z0, .ref p0, .ref r0, .int tab, .ref k1, .int ops, .ref k2, .ref k3, .int (nI (ct_lbs a b d)), .ref k4, .int (nI 0), .int (nI 0)]))] H := hP
    have hD : va_D A [(z0, .inr (1, [.ref z1])), (z1, .inl (cI, 8, .inl (fun j => nI (sz j)))), (h0, .inr (0, [.ref z0, .ref p0, .ref r0, .int tab, .ref k1, .int ops, .ref k2, .ref k3, .int (nI (ct_lbs a b d)), .ref k4, .int (nI 0), .int (nI 0)]))] := hD
    refine lv_aload_n hx hb d_H_result_33 rfl (lv_at hl 0 rfl) ?_
    refine va_get (D := (dC, dI)) (ci := 0) (v := .ref z0) (C := R_H) (T := T_H) (N := 12) hx hb hts (fun w h9 => ct_tl (ki_H w h9)) hown hK hP 2 rfl rfl 0 (by decide) (hts _ (ct_tl kw_114)) (fun _ h9 => h9) rfl d_H_result_34 ?_
    refine lv_aload_n hx hb d_H_result_37 rfl (lv_at hl 0 rfl) ?_
    refine va_get (D := (dC, dI)) (ci := 0) (v := .int (nI (ct_lbs a b d))) (C := R_H) (T := T_H) (N := 12) hx hb hts (fun w h9 => ct_tl (ki_H w h9)) hown hK hP 2 rfl rfl 8 (by decide) (hts _ (ct_tl kw_122)) (fun _ h9 => h9) rfl d_H_result_38 ?_
    refine va_calli (va_runV (As := [.int (nI (ct_lbs a b d))]) (rest := []) ⟨hx, hb, hml, hown, hts⟩ (c_S_choices l dC dI cI z0 z1 sz (ct_lbs a b d) (by omega)) (cwV 1 hts (ct_giV (fun w h9 => ct_tl h9) kw_384 kw_195 kw_196 kw_27 kw_197) rfl rfl rfl (by decide +kernel) ⟨Nat.le_of_ble_eq_true rfl, Nat.le_of_ble_eq_true rfl⟩) ⟨ct_ro_blind, va_recv hK hP (ci := 1) (q0 := 0) rfl rfl, ct_ro_pre (hP.sub [0, 1] rfl) hK⟩ rfl rfl hl.1 rfl (lv_room (Nat.le_of_ble_eq_true rfl)) d_H_result_41 ⟨Nat.zero_le _, Nat.zero_le _⟩) hS (fun q _ h9 => h9.elim) (fun q h9 => h9.elim) (fun ans104 uS tS H locs ht hvm hwans104 hB hz1 hk1 hS => ?_)
    have hP := ct_keep hP hk1
    refine ct_val (y := nI (ct_pr sz (ct_lbs a b d).testBit 8)) (hwans104) ?_
    refine vx_ret ?_
    refine W.widen (k := 1) (n := 6) (Nat.zero_le _) (Nat.zero_le _) ?_
    have hP9 := hP.sub [2, 0, 1] rfl
    exact W.iret (v := (nI (ct_pr sz (ct_lbs a b d).testBit 8))) hx hb hr (fun tS ht hW => ⟨⟨(nI (ct_pr sz (ct_lbs a b d).testBit 8)), (), rfl, ⟨rfl, hq⟩, by rw [ht]; exact hP9, va_K.moved hW.alike hK, hD.sub [2, 0, 1] (by decide) rfl⟩, hS.F ht⟩) hS.2.2 d_H_result_44
  · rw [if_neg hq]
    refine lv_if_ne (tgt := 19) hx hb d_H_result_6 (by decide) (fun hc9 => absurd (nI_0) hc9) (fun _ => ?_)
    obtain ⟨sa, hstr⟩ := hXw.2.1 (75, "labels must rise, with NONE behind the last one") (by decide)
    exact vx_throwS (own := R_H) (cls := R_IAE) (text := "labels must rise, with NONE behind the last one") (names := ct_sup) (sa := sa) hx hb hst hown kf_IAE.1 kf_IAE.2 (hts _ (ct_tl kl_IAE)) (hts _ (ct_tl kn_IAE)) hstr (kt_IAE hts hXw) kg_IAE hXw.2.2.1 hXw.2.2.2 hS (hl.1.trans hml.symm) d_H_result_9 d_H_result_12 d_H_result_13 d_H_result_15 d_H_result_18 (fun x hx9 => (htab x hx9).elim) (Nat.le_of_ble_eq_true rfl) (Nat.le_of_ble_eq_true rfl) (Nat.le_of_ble_eq_true rfl) (Nat.le_of_ble_eq_true rfl) hlocks (fun tS hal9 hz9 hk9 => ⟨(), trivial, ⟨⟨by simpa using hq, rfl⟩, (ct_thr (hP.sub [0, 1, 2] rfl) hK (hD.sub [0, 1, 2] (by decide) rfl) hS hal9 hz9 hk9).1⟩, (ct_thr hP hK hD hS hal9 hz9 hk9).2⟩) hS.2.2 (Nat.le_of_ble_eq_true rfl) (Nat.le_of_ble_eq_true rfl)
theorem ct_out {n : Nat} {x : Int32} (hn : n < 2 ^ 31) (h : ¬ ct_isn n x = true) : x.toInt < 0 ∨ (n : Int) ≤ x.toInt := by
  by_cases h0 : x < 0
  · left
    have e1 := Int32.lt_iff_toInt_lt.mp h0
    have e2 : (0 : Int32).toInt = 0 := by decide
    omega
  · by_cases h1 : nI n ≤ x
    · right
      have e1 := Int32.le_iff_toInt_le.mp h1
      rw [nI_toInt hn] at e1
      exact e1
    · exact absurd (by simp [ct_isn, h0, h1]) h
theorem ct_out4 {x : Int32} (h : ¬ ct_isn 4 x = true) : x.toInt < 0 ∨ 3 < x.toInt := by
  rcases ct_out (by omega) h with h | h
  · exact Or.inl h
  · exact Or.inr (by omega)
set_option maxHeartbeats 4000000 in
set_option maxRecDepth 100000 in
theorem c_H_about (l : Launch) (hst : l.stackTraces = false) (dC : Nat → ClassId) (dI : Nat → Nat → Nat) (cI : ClassId) (h0 z0 p0 r0 k1 k2 k3 k4 : Nat) (T K R : Nat) (pl sm : Int32) (hK6 : K ≤ 6) (x : Int32) (sz0 : Nat) : vx_Met l y_H_about w_H_about ({ frames := 6, cells := 1, slots := 6, locals := 90 }) (va_Pc [.ref h0, .int x] (ct_rx (dC, dI) ct_cl [(h0, .inr (0, [.ref z0, .ref p0, .ref r0, .int (nI T), .ref k1, .int (nI K), .ref k2, .ref k3, .int (nI R), .ref k4, .int pl, .int sm]))] [(cI, .int)] sz0)) (va_Qi (fun (r : Int32) (u : Unit) => ∃ j : Nat, j < 4 ∧ x = nI j ∧ r = nI (if j = 0 then T else if j = 1 then K else if j = 2 then R else K - 1)) (fun (u : Unit) t => ct_at (dC, dI) ct_cl [(cI, .int)] (va_A [(h0, .inr (0, [.ref z0, .ref p0, .ref r0, .int (nI T), .ref k1, .int (nI K), .ref k2, .ref k3, .int (nI R), .ref k4, .int pl, .int sm]))] sz0) [(h0, .inr (0, [.ref z0, .ref p0, .ref r0, .int (nI T), .ref k1, .int (nI K), .ref k2, .ref k3, .int (nI R), .ref k4, .int pl, .int sm]))] t) (va_A [(h0, .inr (0, [.ref z0, .ref p0, .ref r0, .int (nI T), .ref k1, .int (nI K), .ref k2, .ref k3, .int (nI R), .ref k4, .int pl, .int sm]))] sz0)) (vx_X (fun (_ : Unit) => True) (fun (E : String) (_ : Unit) t => (ct_isn 4 x = false ∧ E = R_IAE) ∧ ct_at (dC, dI) ct_cl [(cI, .int)] (va_A [(h0, .inr (0, [.ref z0, .ref p0, .ref r0, .int (nI T), .ref k1, .int (nI K), .ref k2, .ref k3, .int (nI R), .ref k4, .int pl, .int sm]))] sz0) [(h0, .inr (0, [.ref z0, .ref p0, .ref r0, .int (nI T), .ref k1, .int (nI K), .ref k2, .ref k3, .int (nI R), .ref k4, .int pl, .int sm]))] t) (va_A [(h0, .inr (0, [.ref z0, .ref p0, .ref r0, .int (nI T), .ref k1, .int (nI K), .ref k2, .ref k3, .int (nI R), .ref k4, .int pl, .int sm]))] sz0)) 1 6 (va_A [(h0, .inr (0, [.ref z0, .ref p0, .ref r0, .int (nI T), .ref k1, .int (nI K), .ref k2, .ref k3, .int (nI R), .ref k4, .int pl, .int sm]))] sz0) := by
  refine vx_ofW (cc := b_H_about) (maxL := 2) (ret := (some .int)) (by decide) rfl ?_
  intro p e s m args below meth c s₁ Bd hml htab hv
  obtain ⟨hargs, ⟨hsz, hP, hK, hD0⟩, hXw⟩ := hv
  have hx := Bd.exec
  have hb := Bd.bytes
  have hr := Bd.returns
  have hts : ∀ w ∈ k_H_about :: ct_tb, w.before args s = true := atoms_spec (ws := w_H_about) Bd.pre
  have hown : s.vm.findClass R_H = some m.cls := findClass_of_methodNamed Bd.named
  have hlocks := Bd.notSynchronized
  subst hsz
  have hD := hD0.self (sz := s.heap.size)
  generalize hAe : va_A [(h0, .inr (0, [.ref z0, .ref p0, .ref r0, .int (nI T), .ref k1, .int (nI K), .ref k2, .ref k3, .int (nI R), .ref k4, .int pl, .int sm]))] s.heap.size = A at hD hXw ⊢
  have hA : ∀ q : Nat, s.heap.size ≤ q → A q := fun q h => by rw [← hAe]; exact Or.inr h
  have hS : va_S A s.heap s.heap [] := va_S.rf
  have hl := lv_entry ([.ref h0, .int x]) (n := 2) (Nat.le_of_ble_eq_true rfl)
  rw [show entryFrame m args 2 = entryFrame m (([.ref h0, .int x] : List Value)).toArray 2 by rw [hargs], lg_entry_eq]
  generalize (lg_sl ([.ref h0, .int x]) ++ List.replicate (2 - (lg_sl ([.ref h0, .int x])).length) Slot.unset).toArray = ls at hl ⊢
  have hl : lv_has ls 2 [(0, .ref h0), (1, .int x)] := hl
  refine lv_iload_n hx hb d_H_about_0 rfl (lv_at hl 1 rfl) ?_
  by_cases hq : ct_isn 4 x = true
  · obtain ⟨j, hj, rfl⟩ := ct_isn_of (by omega) hq
    rcases (show j = 0 ∨ j = 1 ∨ j = 2 ∨ j = 3 by omega) with rfl | rfl | rfl | rfl
    · refine lv_tableIn (x := nI 0) (off := 31) (tgt := 32) hx hb d_H_about_1 (by decide) (by decide) (by decide) (by decide) ?_
      refine lv_aload_n hx hb d_H_about_32 rfl (lv_at hl 0 rfl) ?_
      refine va_get (D := (dC, dI)) (ci := 0) (v := .int (nI T)) (C := R_H) (T := T_H) (N := 12) hx hb hts (fun w h9 => ct_tl (ki_H w h9)) hown hK hP 0 rfl rfl 3 (by decide) (hts _ (ct_tl kw_117)) (fun _ h9 => h9) rfl d_H_about_33 ?_
      refine vx_ret ?_
      refine W.widen (k := 1) (n := 6) (Nat.zero_le _) (Nat.zero_le _) ?_
      have hP9 := hP.sub [0] rfl
      exact W.iret (v := (nI T)) hx hb hr (fun tS ht hW => ⟨⟨(nI T), (), rfl, ⟨0, by omega, rfl, rfl⟩, by rw [ht]; exact hP9, va_K.moved hW.alike hK, hD.sub [0] (by decide) rfl⟩, hS.F ht⟩) hS.2.2 d_H_about_36
    · refine lv_tableIn (x := nI 1) (off := 36) (tgt := 37) hx hb d_H_about_1 (by decide) (by decide) (by decide) (by decide) ?_
      refine lv_aload_n hx hb d_H_about_37 rfl (lv_at hl 0 rfl) ?_
      refine va_get (D := (dC, dI)) (ci := 0) (v := .int (nI K)) (C := R_H) (T := T_H) (N := 12) hx hb hts (fun w h9 => ct_tl (ki_H w h9)) hown hK hP 0 rfl rfl 5 (by decide) (hts _ (ct_tl kw_119)) (fun _ h9 => h9) rfl d_H_about_38 ?_
      refine vx_ret ?_
      refine W.widen (k := 1) (n := 6) (Nat.zero_le _) (Nat.zero_le _) ?_
      have hP9 := hP.sub [0] rfl
      exact W.iret (v := (nI K)) hx hb hr (fun tS ht hW => ⟨⟨(nI K), (), rfl, ⟨1, by omega, rfl, rfl⟩, by rw [ht]; exact hP9, va_K.moved hW.alike hK, hD.sub [0] (by decide) rfl⟩, hS.F ht⟩) hS.2.2 d_H_about_41
    · refine lv_tableIn (x := nI 2) (off := 41) (tgt := 42) hx hb d_H_about_1 (by decide) (by decide) (by decide) (by decide) ?_
      refine lv_aload_n hx hb d_H_about_42 rfl (lv_at hl 0 rfl) ?_
      refine va_get (D := (dC, dI)) (ci := 0) (v := .int (nI R)) (C := R_H) (T := T_H) (N := 12) hx hb hts (fun w h9 => ct_tl (ki_H w h9)) hown hK hP 0 rfl rfl 8 (by decide) (hts _ (ct_tl kw_122)) (fun _ h9 => h9) rfl d_H_about_43 ?_
      refine vx_ret ?_
      refine W.widen (k := 1) (n := 6) (Nat.zero_le _) (Nat.zero_le _) ?_
      have hP9 := hP.sub [0] rfl
      exact W.iret (v := (nI R)) hx hb hr (fun tS ht hW => ⟨⟨(nI R), (), rfl, ⟨2, by omega, rfl, rfl⟩, by rw [ht]; exact hP9, va_K.moved hW.alike hK, hD.sub [0] (by decide) rfl⟩, hS.F ht⟩) hS.2.2 d_H_about_46
    · refine lv_tableIn (x := nI 3) (off := 46) (tgt := 47) hx hb d_H_about_1 (by decide) (by decide) (by decide) (by decide) ?_
      refine lv_aload_n hx hb d_H_about_47 rfl (lv_at hl 0 rfl) ?_
      refine va_calli (va_runV (As := []) (rest := []) ⟨hx, hb, hml, hown, hts⟩ (c_H_countSteps l dC dI cI h0 z0 p0 r0 k1 k2 k3 k4 (nI T) K (nI R) pl sm hK6) (cwV 0 hts (ct_giV (fun w h9 => ct_tl h9) kw_422 kw_424 kw_10 kw_26 kw_425) rfl rfl rfl (by decide +kernel) ⟨Nat.le_of_ble_eq_true rfl, Nat.le_of_ble_eq_true rfl⟩) ⟨ct_ro_blind, va_recv hK hP (ci := 0) (q0 := 0) rfl rfl, ct_ro_pre (hP.sub [0] rfl) hK⟩ rfl rfl hl.1 rfl (lv_room (Nat.le_of_ble_eq_true rfl)) d_H_about_48 ⟨Nat.zero_le _, Nat.zero_le _⟩) hS (fun q _ h9 => h9.elim) (fun q h9 => h9.elim) (fun ans201 uS tS H locs ht hvm hwans201 hB hz1 hk1 hS => ?_)
      have hP := ct_keep hP hk1
      refine ct_val (y := nI (K - 1)) (hwans201) ?_
      refine vx_ret ?_
      refine W.widen (k := 1) (n := 6) (Nat.zero_le _) (Nat.zero_le _) ?_
      have hP9 := hP.sub [0] rfl
      exact W.iret (v := (nI (K - 1))) hx hb hr (fun tS ht hW => ⟨⟨(nI (K - 1)), (), rfl, ⟨3, by omega, rfl, rfl⟩, by rw [ht]; exact hP9, va_K.moved hW.alike hK, hD.sub [0] (by decide) rfl⟩, hS.F ht⟩) hS.2.2 d_H_about_51
  · refine lv_tableOut (tgt := 52) hx hb d_H_about_1 (ct_out4 hq) (by decide) ?_
    obtain ⟨sa, hstr⟩ := hXw.2.1 (136, "what is 0 to 3") (by decide)
    exact vx_throwS (own := R_H) (cls := R_IAE) (text := "what is 0 to 3") (names := ct_sup) (sa := sa) hx hb hst hown kf_IAE.1 kf_IAE.2 (hts _ (ct_tl kl_IAE)) (hts _ (ct_tl kn_IAE)) hstr (kt_IAE hts hXw) kg_IAE hXw.2.2.1 hXw.2.2.2 hS (hl.1.trans hml.symm) d_H_about_52 d_H_about_55 d_H_about_56 d_H_about_58 d_H_about_61 (fun x hx9 => (htab x hx9).elim) (Nat.le_of_ble_eq_true rfl) (Nat.le_of_ble_eq_true rfl) (Nat.le_of_ble_eq_true rfl) (Nat.le_of_ble_eq_true rfl) hlocks (fun tS hal9 hz9 hk9 => ⟨(), trivial, ⟨⟨by simpa using hq, rfl⟩, (ct_thr (hP.sub [0] rfl) hK (hD.sub [0] (by decide) rfl) hS hal9 hz9 hk9).1⟩, (ct_thr hP hK hD hS hal9 hz9 hk9).2⟩) hS.2.2 (Nat.le_of_ble_eq_true rfl) (Nat.le_of_ble_eq_true rfl)
