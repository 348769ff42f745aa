theorem ct_in2_8 (x : Int32) : ct_in2 x (nI 0) (nI 7) = ct_isn 8 x := ct_in2_isn (n := 8) (by omega) x
theorem ct_in2_4 (x : Int32) : ct_in2 x (nI 0) (nI 3) = ct_isn 4 x := ct_in2_isn (n := 4) (by omega) x
theorem ct_in2_sz (y : Int32) : ct_in2 y (nI 1) (nI 3) = (!decide (y < nI 1) && decide (y ≤ nI 3)) := by
  unfold ct_in2
  congr 1
  by_cases h : y ≤ nI 3
  · simp [h, Int32.not_lt.mpr h]
  · simp [h, Int32.not_le.mp h]
theorem ct_sok_in {x y : Int32} : ct_sok x y = (ct_in2 x (nI 0) (nI 7) && ct_in2 y (nI 1) (nI 3)) := by rw [ct_in2_8, ct_in2_sz]; rfl
theorem d_M_size_0 : decode b_M_size 0 = .ok (.iload_n 1, 1) := by decide +kernel
theorem d_M_size_1 : decode b_M_size 1 = .ok (.iconst 0, 1) := by decide +kernel
theorem d_M_size_2 : decode b_M_size 2 = .ok (.bipush 7, 2) := by decide +kernel
theorem d_M_size_4 : decode b_M_size 4 = .ok (.invokestatic 41, 3) := by decide +kernel
theorem d_M_size_7 : decode b_M_size 7 = .ok (.ifCond .eq 16, 3) := by decide +kernel
theorem d_M_size_10 : decode b_M_size 10 = .ok (.iload_n 2, 1) := by decide +kernel
theorem d_M_size_11 : decode b_M_size 11 = .ok (.iconst 1, 1) := by decide +kernel
theorem d_M_size_12 : decode b_M_size 12 = .ok (.iconst 3, 1) := by decide +kernel
theorem d_M_size_13 : decode b_M_size 13 = .ok (.invokestatic 41, 3) := by decide +kernel
theorem d_M_size_16 : decode b_M_size 16 = .ok (.ifCond .eq 7, 3) := by decide +kernel
theorem d_M_size_19 : decode b_M_size 19 = .ok (.iconst 1, 1) := by decide +kernel
theorem d_M_size_20 : decode b_M_size 20 = .ok (.goto 4, 3) := by decide +kernel
theorem d_M_size_23 : decode b_M_size 23 = .ok (.iconst 0, 1) := by decide +kernel
theorem d_M_size_24 : decode b_M_size 24 = .ok (.istore_n 3, 1) := by decide +kernel
theorem d_M_size_25 : decode b_M_size 25 = .ok (.iconst 0, 1) := by decide +kernel
theorem d_M_size_26 : decode b_M_size 26 = .ok (.istore 4, 2) := by decide +kernel
theorem d_M_size_28 : decode b_M_size 28 = .ok (.iconst 0, 1) := by decide +kernel
theorem d_M_size_29 : decode b_M_size 29 = .ok (.istore 5, 2) := by decide +kernel
theorem d_M_size_31 : decode b_M_size 31 = .ok (.iload 5, 2) := by decide +kernel
theorem d_M_size_33 : decode b_M_size 33 = .ok (.aload_n 0, 1) := by decide +kernel
theorem d_M_size_34 : decode b_M_size 34 = .ok (.getfield 45, 3) := by decide +kernel
theorem d_M_size_37 : decode b_M_size 37 = .ok (.if_icmp .ge 40, 3) := by decide +kernel
theorem d_M_size_40 : decode b_M_size 40 = .ok (.iload_n 3, 1) := by decide +kernel
theorem d_M_size_41 : decode b_M_size 41 = .ok (.ifCond .eq 36, 3) := by decide +kernel
theorem d_M_size_44 : decode b_M_size 44 = .ok (.iload 4, 2) := by decide +kernel
theorem d_M_size_46 : decode b_M_size 46 = .ok (.ifCond .ne 18, 3) := by decide +kernel
theorem d_M_size_49 : decode b_M_size 49 = .ok (.aload_n 0, 1) := by decide +kernel
theorem d_M_size_50 : decode b_M_size 50 = .ok (.getfield 13, 3) := by decide +kernel
theorem d_M_size_53 : decode b_M_size 53 = .ok (.iload 5, 2) := by decide +kernel
theorem d_M_size_55 : decode b_M_size 55 = .ok (.iaload, 1) := by decide +kernel
theorem d_M_size_56 : decode b_M_size 56 = .ok (.iload_n 1, 1) := by decide +kernel
theorem d_M_size_57 : decode b_M_size 57 = .ok (.ishr, 1) := by decide +kernel
theorem d_M_size_58 : decode b_M_size 58 = .ok (.iconst 1, 1) := by decide +kernel
theorem d_M_size_59 : decode b_M_size 59 = .ok (.iand, 1) := by decide +kernel
theorem d_M_size_60 : decode b_M_size 60 = .ok (.iconst 1, 1) := by decide +kernel
theorem d_M_size_61 : decode b_M_size 61 = .ok (.if_icmp .ne 7, 3) := by decide +kernel
theorem d_M_size_64 : decode b_M_size 64 = .ok (.iconst 1, 1) := by decide +kernel
theorem d_M_size_65 : decode b_M_size 65 = .ok (.goto 4, 3) := by decide +kernel
theorem d_M_size_68 : decode b_M_size 68 = .ok (.iconst 0, 1) := by decide +kernel
theorem d_M_size_69 : decode b_M_size 69 = .ok (.istore 4, 2) := by decide +kernel
theorem d_M_size_71 : decode b_M_size 71 = .ok (.iinc 5 1, 3) := by decide +kernel
theorem d_M_size_74 : decode b_M_size 74 = .ok (.goto (-43), 3) := by decide +kernel
theorem d_M_size_77 : decode b_M_size 77 = .ok (.aload_n 0, 1) := by decide +kernel
theorem d_M_size_78 : decode b_M_size 78 = .ok (.iload_n 3, 1) := by decide +kernel
theorem d_M_size_79 : decode b_M_size 79 = .ok (.ifCond .ne 7, 3) := by decide +kernel
theorem d_M_size_82 : decode b_M_size 82 = .ok (.iconst 1, 1) := by decide +kernel
theorem d_M_size_83 : decode b_M_size 83 = .ok (.goto 4, 3) := by decide +kernel
theorem d_M_size_86 : decode b_M_size 86 = .ok (.iconst 0, 1) := by decide +kernel
theorem d_M_size_87 : decode b_M_size 87 = .ok (.iload 4, 2) := by decide +kernel
theorem d_M_size_89 : decode b_M_size 89 = .ok (.invokevirtual 48, 3) := by decide +kernel
theorem d_M_size_92 : decode b_M_size 92 = .ok (.ifCond .ne 10, 3) := by decide +kernel
theorem d_M_size_95 : decode b_M_size 95 = .ok (.aload_n 0, 1) := by decide +kernel
theorem d_M_size_96 : decode b_M_size 96 = .ok (.getfield 7, 3) := by decide +kernel
theorem d_M_size_99 : decode b_M_size 99 = .ok (.iload_n 1, 1) := by decide +kernel
theorem d_M_size_100 : decode b_M_size 100 = .ok (.iload_n 2, 1) := by decide +kernel
theorem d_M_size_101 : decode b_M_size 101 = .ok (.iastore, 1) := by decide +kernel
theorem d_M_size_102 : decode b_M_size 102 = .ok (.return_, 1) := by decide +kernel
theorem d_M_table_0 : decode b_M_table 0 = .ok (.iload_n 1, 1) := by decide +kernel
theorem d_M_table_1 : decode b_M_table 1 = .ok (.iload_n 2, 1) := by decide +kernel
theorem d_M_table_2 : decode b_M_table 2 = .ok (.iload_n 3, 1) := by decide +kernel
theorem d_M_table_3 : decode b_M_table 3 = .ok (.invokestatic 52, 3) := by decide +kernel
theorem d_M_table_6 : decode b_M_table 6 = .ok (.istore 4, 2) := by decide +kernel
theorem d_M_table_8 : decode b_M_table 8 = .ok (.aload_n 0, 1) := by decide +kernel
theorem d_M_table_9 : decode b_M_table 9 = .ok (.iload 4, 2) := by decide +kernel
theorem d_M_table_11 : decode b_M_table 11 = .ok (.ifCond .ge 7, 3) := by decide +kernel
theorem d_M_table_14 : decode b_M_table 14 = .ok (.iconst 1, 1) := by decide +kernel
theorem d_M_table_15 : decode b_M_table 15 = .ok (.goto 4, 3) := by decide +kernel
theorem d_M_table_18 : decode b_M_table 18 = .ok (.iconst 0, 1) := by decide +kernel
theorem d_M_table_19 : decode b_M_table 19 = .ok (.aload_n 0, 1) := by decide +kernel
theorem d_M_table_20 : decode b_M_table 20 = .ok (.getfield 45, 3) := by decide +kernel
theorem d_M_table_23 : decode b_M_table 23 = .ok (.bipush 8, 2) := by decide +kernel
theorem d_M_table_25 : decode b_M_table 25 = .ok (.if_icmp .ne 7, 3) := by decide +kernel
theorem d_M_table_28 : decode b_M_table 28 = .ok (.iconst 1, 1) := by decide +kernel
theorem d_M_table_29 : decode b_M_table 29 = .ok (.goto 4, 3) := by decide +kernel
theorem d_M_table_32 : decode b_M_table 32 = .ok (.iconst 0, 1) := by decide +kernel
theorem d_M_table_33 : decode b_M_table 33 = .ok (.invokevirtual 48, 3) := by decide +kernel
theorem d_M_table_36 : decode b_M_table 36 = .ok (.ifCond .eq 5, 3) := by decide +kernel
theorem d_M_table_39 : decode b_M_table 39 = .ok (.iconst 0, 1) := by decide +kernel
theorem d_M_table_40 : decode b_M_table 40 = .ok (.ireturn, 1) := by decide +kernel
theorem d_M_table_41 : decode b_M_table 41 = .ok (.aload_n 0, 1) := by decide +kernel
theorem d_M_table_42 : decode b_M_table 42 = .ok (.getfield 13, 3) := by decide +kernel
theorem d_M_table_45 : decode b_M_table 45 = .ok (.aload_n 0, 1) := by decide +kernel
theorem d_M_table_46 : decode b_M_table 46 = .ok (.getfield 45, 3) := by decide +kernel
theorem d_M_table_49 : decode b_M_table 49 = .ok (.iload 4, 2) := by decide +kernel
theorem d_M_table_51 : decode b_M_table 51 = .ok (.iastore, 1) := by decide +kernel
theorem d_M_table_52 : decode b_M_table 52 = .ok (.iconst 0, 1) := by decide +kernel
theorem d_M_table_53 : decode b_M_table 53 = .ok (.istore 5, 2) := by decide +kernel
theorem d_M_table_55 : decode b_M_table 55 = .ok (.iload 5, 2) := by decide +kernel
theorem d_M_table_57 : decode b_M_table 57 = .ok (.bipush 27, 2) := by decide +kernel
theorem d_M_table_59 : decode b_M_table 59 = .ok (.if_icmp .ge 25, 3) := by decide +kernel
theorem d_M_table_62 : decode b_M_table 62 = .ok (.aload_n 0, 1) := by decide +kernel
theorem d_M_table_63 : decode b_M_table 63 = .ok (.getfield 16, 3) := by decide +kernel
theorem d_M_table_66 : decode b_M_table 66 = .ok (.bipush 27, 2) := by decide +kernel
theorem d_M_table_68 : decode b_M_table 68 = .ok (.aload_n 0, 1) := by decide +kernel
theorem d_M_table_69 : decode b_M_table 69 = .ok (.getfield 45, 3) := by decide +kernel
theorem d_M_table_72 : decode b_M_table 72 = .ok (.imul, 1) := by decide +kernel
theorem d_M_table_73 : decode b_M_table 73 = .ok (.iload 5, 2) := by decide +kernel
theorem d_M_table_75 : decode b_M_table 75 = .ok (.iadd, 1) := by decide +kernel
theorem d_M_table_76 : decode b_M_table 76 = .ok (.iconst 0, 1) := by decide +kernel
theorem d_M_table_77 : decode b_M_table 77 = .ok (.iastore, 1) := by decide +kernel
theorem d_M_table_78 : decode b_M_table 78 = .ok (.iinc 5 1, 3) := by decide +kernel
theorem d_M_table_81 : decode b_M_table 81 = .ok (.goto (-26), 3) := by decide +kernel
theorem d_M_table_84 : decode b_M_table 84 = .ok (.aload_n 0, 1) := by decide +kernel
theorem d_M_table_85 : decode b_M_table 85 = .ok (.dup, 1) := by decide +kernel
theorem d_M_table_86 : decode b_M_table 86 = .ok (.getfield 45, 3) := by decide +kernel
theorem d_M_table_89 : decode b_M_table 89 = .ok (.iconst 1, 1) := by decide +kernel
theorem d_M_table_90 : decode b_M_table 90 = .ok (.iadd, 1) := by decide +kernel
theorem d_M_table_91 : decode b_M_table 91 = .ok (.putfield 45, 3) := by decide +kernel
theorem d_M_table_94 : decode b_M_table 94 = .ok (.aload_n 0, 1) := by decide +kernel
theorem d_M_table_95 : decode b_M_table 95 = .ok (.getfield 45, 3) := by decide +kernel
theorem d_M_table_98 : decode b_M_table 98 = .ok (.iconst 1, 1) := by decide +kernel
theorem d_M_table_99 : decode b_M_table 99 = .ok (.isub, 1) := by decide +kernel
theorem d_M_table_100 : decode b_M_table 100 = .ok (.ireturn, 1) := by decide +kernel
theorem d_M_set_0 : decode b_M_set 0 = .ok (.aload_n 0, 1) := by decide +kernel
theorem d_M_set_1 : decode b_M_set 1 = .ok (.iload_n 1, 1) := by decide +kernel
theorem d_M_set_2 : decode b_M_set 2 = .ok (.invokevirtual 56, 3) := by decide +kernel
theorem d_M_set_5 : decode b_M_set 5 = .ok (.istore 4, 2) := by decide +kernel
theorem d_M_set_7 : decode b_M_set 7 = .ok (.iload 4, 2) := by decide +kernel
theorem d_M_set_9 : decode b_M_set 9 = .ok (.ifCond .eq 36, 3) := by decide +kernel
theorem d_M_set_12 : decode b_M_set 12 = .ok (.iload_n 2, 1) := by decide +kernel
theorem d_M_set_13 : decode b_M_set 13 = .ok (.iconst 0, 1) := by decide +kernel
theorem d_M_set_14 : decode b_M_set 14 = .ok (.aload_n 0, 1) := by decide +kernel
theorem d_M_set_15 : decode b_M_set 15 = .ok (.aload_n 0, 1) := by decide +kernel
theorem d_M_set_16 : decode b_M_set 16 = .ok (.getfield 13, 3) := by decide +kernel
theorem d_M_set_19 : decode b_M_set 19 = .ok (.iload 4, 2) := by decide +kernel
theorem d_M_set_21 : decode b_M_set 21 = .ok (.ifCond .eq 7, 3) := by decide +kernel
theorem d_M_set_24 : decode b_M_set 24 = .ok (.iload_n 1, 1) := by decide +kernel
theorem d_M_set_25 : decode b_M_set 25 = .ok (.goto 4, 3) := by decide +kernel
theorem d_M_set_28 : decode b_M_set 28 = .ok (.iconst 0, 1) := by decide +kernel
theorem d_M_set_29 : decode b_M_set 29 = .ok (.iaload, 1) := by decide +kernel
theorem d_M_set_30 : decode b_M_set 30 = .ok (.invokevirtual 60, 3) := by decide +kernel
theorem d_M_set_33 : decode b_M_set 33 = .ok (.iconst 1, 1) := by decide +kernel
theorem d_M_set_34 : decode b_M_set 34 = .ok (.isub, 1) := by decide +kernel
theorem d_M_set_35 : decode b_M_set 35 = .ok (.invokestatic 41, 3) := by decide +kernel
theorem d_M_set_38 : decode b_M_set 38 = .ok (.ifCond .eq 7, 3) := by decide +kernel
theorem d_M_set_41 : decode b_M_set 41 = .ok (.iconst 1, 1) := by decide +kernel
theorem d_M_set_42 : decode b_M_set 42 = .ok (.goto 4, 3) := by decide +kernel
theorem d_M_set_45 : decode b_M_set 45 = .ok (.iconst 0, 1) := by decide +kernel
theorem d_M_set_46 : decode b_M_set 46 = .ok (.istore 5, 2) := by decide +kernel
theorem d_M_set_48 : decode b_M_set 48 = .ok (.aload_n 0, 1) := by decide +kernel
theorem d_M_set_49 : decode b_M_set 49 = .ok (.iload 5, 2) := by decide +kernel
theorem d_M_set_51 : decode b_M_set 51 = .ok (.ifCond .ne 7, 3) := by decide +kernel
theorem d_M_set_54 : decode b_M_set 54 = .ok (.iconst 1, 1) := by decide +kernel
theorem d_M_set_55 : decode b_M_set 55 = .ok (.goto 4, 3) := by decide +kernel
theorem d_M_set_58 : decode b_M_set 58 = .ok (.iconst 0, 1) := by decide +kernel
theorem d_M_set_59 : decode b_M_set 59 = .ok (.iconst 0, 1) := by decide +kernel
theorem d_M_set_60 : decode b_M_set 60 = .ok (.invokevirtual 48, 3) := by decide +kernel
theorem d_M_set_63 : decode b_M_set 63 = .ok (.ifCond .ne 15, 3) := by decide +kernel
theorem d_M_set_66 : decode b_M_set 66 = .ok (.aload_n 0, 1) := by decide +kernel
theorem d_M_set_67 : decode b_M_set 67 = .ok (.getfield 16, 3) := by decide +kernel
theorem d_M_set_70 : decode b_M_set 70 = .ok (.bipush 27, 2) := by decide +kernel
theorem d_M_set_72 : decode b_M_set 72 = .ok (.iload_n 1, 1) := by decide +kernel
theorem d_M_set_73 : decode b_M_set 73 = .ok (.imul, 1) := by decide +kernel
theorem d_M_set_74 : decode b_M_set 74 = .ok (.iload_n 2, 1) := by decide +kernel
theorem d_M_set_75 : decode b_M_set 75 = .ok (.iadd, 1) := by decide +kernel
theorem d_M_set_76 : decode b_M_set 76 = .ok (.iload_n 3, 1) := by decide +kernel
theorem d_M_set_77 : decode b_M_set 77 = .ok (.iastore, 1) := by decide +kernel
theorem d_M_set_78 : decode b_M_set 78 = .ok (.return_, 1) := by decide +kernel
theorem d_M_extent_0 : decode b_M_extent 0 = .ok (.aload_n 0, 1) := by decide +kernel
theorem d_M_extent_1 : decode b_M_extent 1 = .ok (.aload_n 0, 1) := by decide +kernel
theorem d_M_extent_2 : decode b_M_extent 2 = .ok (.iload_n 1, 1) := by decide +kernel
theorem d_M_extent_3 : decode b_M_extent 3 = .ok (.invokevirtual 56, 3) := by decide +kernel
theorem d_M_extent_6 : decode b_M_extent 6 = .ok (.ifCond .ne 7, 3) := by decide +kernel
theorem d_M_extent_9 : decode b_M_extent 9 = .ok (.iconst 1, 1) := by decide +kernel
theorem d_M_extent_10 : decode b_M_extent 10 = .ok (.goto 4, 3) := by decide +kernel
theorem d_M_extent_13 : decode b_M_extent 13 = .ok (.iconst 0, 1) := by decide +kernel
theorem d_M_extent_14 : decode b_M_extent 14 = .ok (.iconst 0, 1) := by decide +kernel
theorem d_M_extent_15 : decode b_M_extent 15 = .ok (.invokevirtual 48, 3) := by decide +kernel
theorem d_M_extent_18 : decode b_M_extent 18 = .ok (.ifCond .eq 7, 3) := by decide +kernel
theorem d_M_extent_21 : decode b_M_extent 21 = .ok (.iconst 0, 1) := by decide +kernel
theorem d_M_extent_22 : decode b_M_extent 22 = .ok (.goto 13, 3) := by decide +kernel
theorem d_M_extent_25 : decode b_M_extent 25 = .ok (.aload_n 0, 1) := by decide +kernel
theorem d_M_extent_26 : decode b_M_extent 26 = .ok (.aload_n 0, 1) := by decide +kernel
theorem d_M_extent_27 : decode b_M_extent 27 = .ok (.getfield 13, 3) := by decide +kernel
theorem d_M_extent_30 : decode b_M_extent 30 = .ok (.iload_n 1, 1) := by decide +kernel
theorem d_M_extent_31 : decode b_M_extent 31 = .ok (.iaload, 1) := by decide +kernel
theorem d_M_extent_32 : decode b_M_extent 32 = .ok (.invokevirtual 60, 3) := by decide +kernel
theorem d_M_extent_35 : decode b_M_extent 35 = .ok (.ireturn, 1) := by decide +kernel
theorem d_M_clear_0 : decode b_M_clear 0 = .ok (.aload_n 0, 1) := by decide +kernel
theorem d_M_clear_1 : decode b_M_clear 1 = .ok (.iconst 0, 1) := by decide +kernel
theorem d_M_clear_2 : decode b_M_clear 2 = .ok (.putfield 37, 3) := by decide +kernel
theorem d_M_clear_5 : decode b_M_clear 5 = .ok (.aload_n 0, 1) := by decide +kernel
theorem d_M_clear_6 : decode b_M_clear 6 = .ok (.iconst 0, 1) := by decide +kernel
theorem d_M_clear_7 : decode b_M_clear 7 = .ok (.putfield 64, 3) := by decide +kernel
theorem d_M_clear_10 : decode b_M_clear 10 = .ok (.aload_n 0, 1) := by decide +kernel
theorem d_M_clear_11 : decode b_M_clear 11 = .ok (.iconst 0, 1) := by decide +kernel
theorem d_M_clear_12 : decode b_M_clear 12 = .ok (.putfield 67, 3) := by decide +kernel
theorem d_M_clear_15 : decode b_M_clear 15 = .ok (.return_, 1) := by decide +kernel
theorem d_M_operand_0 : decode b_M_operand 0 = .ok (.aload_n 0, 1) := by decide +kernel
theorem d_M_operand_1 : decode b_M_operand 1 = .ok (.aload_n 0, 1) := by decide +kernel
theorem d_M_operand_2 : decode b_M_operand 2 = .ok (.iload_n 1, 1) := by decide +kernel
theorem d_M_operand_3 : decode b_M_operand 3 = .ok (.invokevirtual 56, 3) := by decide +kernel
theorem d_M_operand_6 : decode b_M_operand 6 = .ok (.ifCond .ne 7, 3) := by decide +kernel
theorem d_M_operand_9 : decode b_M_operand 9 = .ok (.iconst 1, 1) := by decide +kernel
theorem d_M_operand_10 : decode b_M_operand 10 = .ok (.goto 4, 3) := by decide +kernel
theorem d_M_operand_13 : decode b_M_operand 13 = .ok (.iconst 0, 1) := by decide +kernel
theorem d_M_operand_14 : decode b_M_operand 14 = .ok (.aload_n 0, 1) := by decide +kernel
theorem d_M_operand_15 : decode b_M_operand 15 = .ok (.iload_n 1, 1) := by decide +kernel
theorem d_M_operand_16 : decode b_M_operand 16 = .ok (.invokevirtual 56, 3) := by decide +kernel
theorem d_M_operand_19 : decode b_M_operand 19 = .ok (.ifCond .eq 16, 3) := by decide +kernel
theorem d_M_operand_22 : decode b_M_operand 22 = .ok (.aload_n 0, 1) := by decide +kernel
theorem d_M_operand_23 : decode b_M_operand 23 = .ok (.getfield 64, 3) := by decide +kernel
theorem d_M_operand_26 : decode b_M_operand 26 = .ok (.bipush 6, 2) := by decide +kernel
theorem d_M_operand_28 : decode b_M_operand 28 = .ok (.if_icmp .ne 7, 3) := by decide +kernel
theorem d_M_operand_31 : decode b_M_operand 31 = .ok (.iconst 1, 1) := by decide +kernel
theorem d_M_operand_32 : decode b_M_operand 32 = .ok (.goto 4, 3) := by decide +kernel
theorem d_M_operand_35 : decode b_M_operand 35 = .ok (.iconst 0, 1) := by decide +kernel
theorem d_M_operand_36 : decode b_M_operand 36 = .ok (.invokevirtual 48, 3) := by decide +kernel
theorem d_M_operand_39 : decode b_M_operand 39 = .ok (.ifCond .eq 5, 3) := by decide +kernel
theorem d_M_operand_42 : decode b_M_operand 42 = .ok (.iconst 0, 1) := by decide +kernel
theorem d_M_operand_43 : decode b_M_operand 43 = .ok (.ireturn, 1) := by decide +kernel
theorem d_M_operand_44 : decode b_M_operand 44 = .ok (.aload_n 0, 1) := by decide +kernel
theorem d_M_operand_45 : decode b_M_operand 45 = .ok (.getfield 19, 3) := by decide +kernel
theorem d_M_operand_48 : decode b_M_operand 48 = .ok (.aload_n 0, 1) := by decide +kernel
theorem d_M_operand_49 : decode b_M_operand 49 = .ok (.getfield 64, 3) := by decide +kernel
theorem d_M_operand_52 : decode b_M_operand 52 = .ok (.iload_n 1, 1) := by decide +kernel
theorem d_M_operand_53 : decode b_M_operand 53 = .ok (.iastore, 1) := by decide +kernel
theorem d_M_operand_54 : decode b_M_operand 54 = .ok (.aload_n 0, 1) := by decide +kernel
theorem d_M_operand_55 : decode b_M_operand 55 = .ok (.dup, 1) := by decide +kernel
theorem d_M_operand_56 : decode b_M_operand 56 = .ok (.getfield 64, 3) := by decide +kernel
theorem d_M_operand_59 : decode b_M_operand 59 = .ok (.iconst 1, 1) := by decide +kernel
theorem d_M_operand_60 : decode b_M_operand 60 = .ok (.iadd, 1) := by decide +kernel
theorem d_M_operand_61 : decode b_M_operand 61 = .ok (.putfield 64, 3) := by decide +kernel
theorem d_M_operand_64 : decode b_M_operand 64 = .ok (.aload_n 0, 1) := by decide +kernel
theorem d_M_operand_65 : decode b_M_operand 65 = .ok (.getfield 64, 3) := by decide +kernel
theorem d_M_operand_68 : decode b_M_operand 68 = .ok (.iconst 1, 1) := by decide +kernel
theorem d_M_operand_69 : decode b_M_operand 69 = .ok (.isub, 1) := by decide +kernel
theorem d_M_operand_70 : decode b_M_operand 70 = .ok (.ireturn, 1) := by decide +kernel
theorem d_M_result_0 : decode b_M_result 0 = .ok (.iload_n 1, 1) := by decide +kernel
theorem d_M_result_1 : decode b_M_result 1 = .ok (.iload_n 2, 1) := by decide +kernel
theorem d_M_result_2 : decode b_M_result 2 = .ok (.iload_n 3, 1) := by decide +kernel
theorem d_M_result_3 : decode b_M_result 3 = .ok (.invokestatic 52, 3) := by decide +kernel
theorem d_M_result_6 : decode b_M_result 6 = .ok (.istore 4, 2) := by decide +kernel
theorem d_M_result_8 : decode b_M_result 8 = .ok (.aload_n 0, 1) := by decide +kernel
theorem d_M_result_9 : decode b_M_result 9 = .ok (.iload 4, 2) := by decide +kernel
theorem d_M_result_11 : decode b_M_result 11 = .ok (.ifCond .ge 7, 3) := by decide +kernel
theorem d_M_result_14 : decode b_M_result 14 = .ok (.iconst 1, 1) := by decide +kernel
theorem d_M_result_15 : decode b_M_result 15 = .ok (.goto 4, 3) := by decide +kernel
theorem d_M_result_18 : decode b_M_result 18 = .ok (.iconst 0, 1) := by decide +kernel
theorem d_M_result_19 : decode b_M_result 19 = .ok (.iconst 0, 1) := by decide +kernel
theorem d_M_result_20 : decode b_M_result 20 = .ok (.invokevirtual 48, 3) := by decide +kernel
theorem d_M_result_23 : decode b_M_result 23 = .ok (.ifCond .eq 5, 3) := by decide +kernel
theorem d_M_result_26 : decode b_M_result 26 = .ok (.iconst 0, 1) := by decide +kernel
theorem d_M_result_27 : decode b_M_result 27 = .ok (.ireturn, 1) := by decide +kernel
theorem d_M_result_28 : decode b_M_result 28 = .ok (.aload_n 0, 1) := by decide +kernel
theorem d_M_result_29 : decode b_M_result 29 = .ok (.iload 4, 2) := by decide +kernel
theorem d_M_result_31 : decode b_M_result 31 = .ok (.putfield 67, 3) := by decide +kernel
theorem d_M_result_34 : decode b_M_result 34 = .ok (.aload_n 0, 1) := by decide +kernel
theorem d_M_result_35 : decode b_M_result 35 = .ok (.iload 4, 2) := by decide +kernel
theorem d_M_result_37 : decode b_M_result 37 = .ok (.invokevirtual 60, 3) := by decide +kernel
theorem d_M_result_40 : decode b_M_result 40 = .ok (.ireturn, 1) := by decide +kernel
theorem d_M_about_0 : decode b_M_about 0 = .ok (.aload_n 0, 1) := by decide +kernel
theorem d_M_about_1 : decode b_M_about 1 = .ok (.iload_n 1, 1) := by decide +kernel
theorem d_M_about_2 : decode b_M_about 2 = .ok (.iconst 0, 1) := by decide +kernel
theorem d_M_about_3 : decode b_M_about 3 = .ok (.iconst 3, 1) := by decide +kernel
theorem d_M_about_4 : decode b_M_about 4 = .ok (.invokestatic 41, 3) := by decide +kernel
theorem d_M_about_7 : decode b_M_about 7 = .ok (.ifCond .ne 7, 3) := by decide +kernel
theorem d_M_about_10 : decode b_M_about 10 = .ok (.iconst 1, 1) := by decide +kernel
theorem d_M_about_11 : decode b_M_about 11 = .ok (.goto 4, 3) := by decide +kernel
theorem d_M_about_14 : decode b_M_about 14 = .ok (.iconst 0, 1) := by decide +kernel
theorem d_M_about_15 : decode b_M_about 15 = .ok (.iconst 0, 1) := by decide +kernel
theorem d_M_about_16 : decode b_M_about 16 = .ok (.invokevirtual 48, 3) := by decide +kernel
theorem d_M_about_19 : decode b_M_about 19 = .ok (.ifCond .eq 5, 3) := by decide +kernel
theorem d_M_about_22 : decode b_M_about 22 = .ok (.iconst 0, 1) := by decide +kernel
theorem d_M_about_23 : decode b_M_about 23 = .ok (.ireturn, 1) := by decide +kernel
theorem d_M_about_24 : decode b_M_about 24 = .ok (.iload_n 1, 1) := by decide +kernel
theorem d_M_about_25 : decode b_M_about 25 = .ok (.tableswitch 42 0 2 #[27, 32, 37], 27) := by decide +kernel
theorem d_M_about_52 : decode b_M_about 52 = .ok (.aload_n 0, 1) := by decide +kernel
theorem d_M_about_53 : decode b_M_about 53 = .ok (.getfield 45, 3) := by decide +kernel
theorem d_M_about_56 : decode b_M_about 56 = .ok (.ireturn, 1) := by decide +kernel
theorem d_M_about_57 : decode b_M_about 57 = .ok (.aload_n 0, 1) := by decide +kernel
theorem d_M_about_58 : decode b_M_about 58 = .ok (.getfield 64, 3) := by decide +kernel
theorem d_M_about_61 : decode b_M_about 61 = .ok (.ireturn, 1) := by decide +kernel
theorem d_M_about_62 : decode b_M_about 62 = .ok (.aload_n 0, 1) := by decide +kernel
theorem d_M_about_63 : decode b_M_about 63 = .ok (.getfield 67, 3) := by decide +kernel
theorem d_M_about_66 : decode b_M_about 66 = .ok (.ireturn, 1) := by decide +kernel
theorem d_M_about_67 : decode b_M_about 67 = .ok (.aload_n 0, 1) := by decide +kernel
theorem d_M_about_68 : decode b_M_about 68 = .ok (.getfield 64, 3) := by decide +kernel
theorem d_M_about_71 : decode b_M_about 71 = .ok (.iconst 2, 1) := by decide +kernel
theorem d_M_about_72 : decode b_M_about 72 = .ok (.if_icmp .ge 7, 3) := by decide +kernel
theorem d_M_about_75 : decode b_M_about 75 = .ok (.iconst 0, 1) := by decide +kernel
theorem d_M_about_76 : decode b_M_about 76 = .ok (.goto 9, 3) := by decide +kernel
theorem d_M_about_79 : decode b_M_about 79 = .ok (.aload_n 0, 1) := by decide +kernel
theorem d_M_about_80 : decode b_M_about 80 = .ok (.getfield 64, 3) := by decide +kernel
theorem d_M_about_83 : decode b_M_about 83 = .ok (.iconst 1, 1) := by decide +kernel
theorem d_M_about_84 : decode b_M_about 84 = .ok (.isub, 1) := by decide +kernel
theorem d_M_about_85 : decode b_M_about 85 = .ok (.ireturn, 1) := by decide +kernel
theorem d_M_init_0 : decode b_M_init 0 = .ok (.aload_n 0, 1) := by decide +kernel
theorem d_M_init_1 : decode b_M_init 1 = .ok (.invokespecial 1, 3) := by decide +kernel
theorem d_M_init_4 : decode b_M_init 4 = .ok (.aload_n 0, 1) := by decide +kernel
theorem d_M_init_5 : decode b_M_init 5 = .ok (.bipush 8, 2) := by decide +kernel
theorem d_M_init_7 : decode b_M_init 7 = .ok (.newarray .int, 2) := by decide +kernel
theorem d_M_init_9 : decode b_M_init 9 = .ok (.putfield 7, 3) := by decide +kernel
theorem d_M_init_12 : decode b_M_init 12 = .ok (.aload_n 0, 1) := by decide +kernel
theorem d_M_init_13 : decode b_M_init 13 = .ok (.bipush 8, 2) := by decide +kernel
theorem d_M_init_15 : decode b_M_init 15 = .ok (.newarray .int, 2) := by decide +kernel
theorem d_M_init_17 : decode b_M_init 17 = .ok (.putfield 13, 3) := by decide +kernel
theorem d_M_init_20 : decode b_M_init 20 = .ok (.aload_n 0, 1) := by decide +kernel
theorem d_M_init_21 : decode b_M_init 21 = .ok (.sipush 216, 3) := by decide +kernel
theorem d_M_init_24 : decode b_M_init 24 = .ok (.newarray .int, 2) := by decide +kernel
theorem d_M_init_26 : decode b_M_init 26 = .ok (.putfield 16, 3) := by decide +kernel
theorem d_M_init_29 : decode b_M_init 29 = .ok (.aload_n 0, 1) := by decide +kernel
theorem d_M_init_30 : decode b_M_init 30 = .ok (.bipush 6, 2) := by decide +kernel
theorem d_M_init_32 : decode b_M_init 32 = .ok (.newarray .int, 2) := by decide +kernel
theorem d_M_init_34 : decode b_M_init 34 = .ok (.putfield 19, 3) := by decide +kernel
theorem d_M_init_37 : decode b_M_init 37 = .ok (.aload_n 0, 1) := by decide +kernel
theorem d_M_init_38 : decode b_M_init 38 = .ok (.bipush 64, 2) := by decide +kernel
theorem d_M_init_40 : decode b_M_init 40 = .ok (.newarray .int, 2) := by decide +kernel
theorem d_M_init_42 : decode b_M_init 42 = .ok (.putfield 22, 3) := by decide +kernel
theorem d_M_init_45 : decode b_M_init 45 = .ok (.aload_n 0, 1) := by decide +kernel
theorem d_M_init_46 : decode b_M_init 46 = .ok (.bipush 64, 2) := by decide +kernel
theorem d_M_init_48 : decode b_M_init 48 = .ok (.newarray .int, 2) := by decide +kernel
theorem d_M_init_50 : decode b_M_init 50 = .ok (.putfield 25, 3) := by decide +kernel
theorem d_M_init_53 : decode b_M_init 53 = .ok (.aload_n 0, 1) := by decide +kernel
theorem d_M_init_54 : decode b_M_init 54 = .ok (.bipush 8, 2) := by decide +kernel
theorem d_M_init_56 : decode b_M_init 56 = .ok (.newarray .int, 2) := by decide +kernel
theorem d_M_init_58 : decode b_M_init 58 = .ok (.putfield 28, 3) := by decide +kernel
theorem d_M_init_61 : decode b_M_init 61 = .ok (.aload_n 0, 1) := by decide +kernel
theorem d_M_init_62 : decode b_M_init 62 = .ok (.bipush 64, 2) := by decide +kernel
theorem d_M_init_64 : decode b_M_init 64 = .ok (.newarray .int, 2) := by decide +kernel
theorem d_M_init_66 : decode b_M_init 66 = .ok (.putfield 31, 3) := by decide +kernel
theorem d_M_init_69 : decode b_M_init 69 = .ok (.aload_n 0, 1) := by decide +kernel
theorem d_M_init_70 : decode b_M_init 70 = .ok (.bipush 8, 2) := by decide +kernel
theorem d_M_init_72 : decode b_M_init 72 = .ok (.newarray .int, 2) := by decide +kernel
theorem d_M_init_74 : decode b_M_init 74 = .ok (.putfield 34, 3) := by decide +kernel
theorem d_M_init_77 : decode b_M_init 77 = .ok (.iconst 0, 1) := by decide +kernel
theorem d_M_init_78 : decode b_M_init 78 = .ok (.istore_n 1, 1) := by decide +kernel
theorem d_M_init_79 : decode b_M_init 79 = .ok (.iload_n 1, 1) := by decide +kernel
theorem d_M_init_80 : decode b_M_init 80 = .ok (.bipush 8, 2) := by decide +kernel
theorem d_M_init_82 : decode b_M_init 82 = .ok (.if_icmp .ge 16, 3) := by decide +kernel
theorem d_M_init_85 : decode b_M_init 85 = .ok (.aload_n 0, 1) := by decide +kernel
theorem d_M_init_86 : decode b_M_init 86 = .ok (.getfield 7, 3) := by decide +kernel
theorem d_M_init_89 : decode b_M_init 89 = .ok (.iload_n 1, 1) := by decide +kernel
theorem d_M_init_90 : decode b_M_init 90 = .ok (.iconst 2, 1) := by decide +kernel
theorem d_M_init_91 : decode b_M_init 91 = .ok (.iastore, 1) := by decide +kernel
theorem d_M_init_92 : decode b_M_init 92 = .ok (.iinc 1 1, 3) := by decide +kernel
theorem d_M_init_95 : decode b_M_init 95 = .ok (.goto (-16), 3) := by decide +kernel
theorem d_M_init_98 : decode b_M_init 98 = .ok (.return_, 1) := by decide +kernel
set_option maxHeartbeats 4000000 in
set_option maxRecDepth 100000 in
theorem c_M_size (l : Launch) (dC : Nat → ClassId) (dI : Nat → Nat → Nat) (cI : ClassId) (o0 o1 o2 o3 o4 o5 o6 o7 o8 o9 : Nat) (thr : Int32) (T : Nat) (ops res stp : Int32) (sz : Nat → Nat) (fl : Nat → Int32) (lab : Nat → Nat) (hT8 : T ≤ 8) (hfl : ∀ t, t < T → fl t = nI (lab t)) (hlab : ∀ t, t < T → lab t < 256) (x y : Int32) (sz0 : Nat) : Met l y_M_size w_M_size ({ frames := 1, cells := 0, slots := 0, locals := 22 }) (va_Pc [.ref o0, .int x, .int y] (ct_rw (dC, dI) ct_cl [(o0, .inr (4, [.int thr, .ref o1, .int (nI T), .ref o2, .ref o3, .int ops, .ref o4, .int res, .ref o5, .ref o6, .int stp, .ref o7, .ref o8, .ref o9])), (o1, .inl (cI, 8, .inl (fun j => nI (sz j)))), (o2, .inl (cI, 8, .inl fl))] [(cI, .int)] sz0)) (va_Qv (fun (u : Nat × (Nat → Nat)) => (ct_sok x y = false ∧ u = (1, sz)) ∨ (ct_sok x y = true ∧ ∃ k v : Nat, k < 8 ∧ x = nI k ∧ y = nI v ∧ 0 < v ∧ v < 4 ∧ ((ct_any lab k T = true ∧ u = (2, sz)) ∨ (ct_any lab k T = false ∧ u = (0, ct_st sz k v))))) (fun (u : Nat × (Nat → Nat)) t => ct_at (dC, dI) ct_cl [(cI, .int)] (va_A [(o0, .inr (4, [.int thr, .ref o1, .int (nI T), .ref o2, .ref o3, .int ops, .ref o4, .int res, .ref o5, .ref o6, .int stp, .ref o7, .ref o8, .ref o9])), (o1, .inl (cI, 8, .inl (fun j => nI (sz j)))), (o2, .inl (cI, 8, .inl fl))] sz0) [(o0, .inr (4, [.int (nI (u.1)), .ref o1, .int (nI T), .ref o2, .ref o3, .int ops, .ref o4, .int res, .ref o5, .ref o6, .int stp, .ref o7, .ref o8, .ref o9])), (o1, .inl (cI, 8, .inl (fun j => nI (u.2 j)))), (o2, .inl (cI, 8, .inl fl))] t) (va_A [(o0, .inr (4, [.int thr, .ref o1, .int (nI T), .ref o2, .ref o3, .int ops, .ref o4, .int res, .ref o5, .ref o6, .int stp, .ref o7, .ref o8, .ref o9])), (o1, .inl (cI, 8, .inl (fun j => nI (sz j)))), (o2, .inl (cI, 8, .inl fl))] sz0)) 0 0 (va_A [(o0, .inr (4, [.int thr, .ref o1, .int (nI T), .ref o2, .ref o3, .int ops, .ref o4, .int res, .ref o5, .ref o6, .int stp, .ref o7, .ref o8, .ref o9])), (o1, .inl (cI, 8, .inl (fun j => nI (sz j)))), (o2, .inl (cI, 8, .inl fl))] sz0) := by
  refine Met.ofW (cc := b_M_size) (maxL := 6) (ret := none) (by decide) rfl ?_
  intro p e s m args below meth c s₁ Bd hml hv
  obtain ⟨hargs, hsz, hP, hK, hD0⟩ := hv
  have hx := Bd.exec
  have hb := Bd.bytes
  have hr := Bd.returns
  have hts : ∀ w ∈ k_M_size :: ct_tb, w.before args s = true := atoms_spec (ws := w_M_size) Bd.pre
  have hown : s.vm.findClass R_M = some m.cls := findClass_of_methodNamed Bd.named
  have hlocks := Bd.notSynchronized
  subst hsz
  have hD := hD0.self (sz := s.heap.size)
  generalize hAe : va_A [(o0, .inr (4, [.int thr, .ref o1, .int (nI T), .ref o2, .ref o3, .int ops, .ref o4, .int res, .ref o5, .ref o6, .int stp, .ref o7, .ref o8, .ref o9])), (o1, .inl (cI, 8, .inl (fun j => nI (sz j)))), (o2, .inl (cI, 8, .inl fl))] s.heap.size = A at hD ⊢
  have hA : ∀ q : Nat, s.heap.size ≤ q → A q := fun q h => by rw [← hAe]; exact Or.inr h
  have hS : va_S A s.heap s.heap [] := va_S.rf
  have hl := lv_entry ([.ref o0, .int x, .int y]) (n := 6) (Nat.le_of_ble_eq_true rfl)
  rw [show entryFrame m args 6 = entryFrame m (([.ref o0, .int x, .int y] : List Value)).toArray 6 by rw [hargs], lg_entry_eq]
  generalize (lg_sl ([.ref o0, .int x, .int y]) ++ List.replicate (6 - (lg_sl ([.ref o0, .int x, .int y])).length) Slot.unset).toArray = ls at hl ⊢
  have hl : lv_has ls 6 [(0, .ref o0), (1, .int x), (2, .int y)] := hl
  refine lv_iload_n hx hb d_M_size_0 rfl (lv_at hl 1 rfl) ?_
  refine lv_iconst (v := (nI 0)) hx hb d_M_size_1 (by decide) ?_
  refine lv_bipush (v := (nI 7)) hx hb d_M_size_2 (by decide) ?_
  refine va_calli (va_runS (As := [.int x, .int (nI 0), .int (nI 7)]) (rest := []) ⟨hx, hb, hml, hown, hts⟩ (c_M_in l dC dI cI x (nI 0) (nI 7)) (va_cwS 3 hts (ct_giT (fun w h9 => ct_tl h9) kw_570 kw_571 kw_30 kw_572) rfl rfl rfl (by decide +kernel) ⟨Nat.le_of_ble_eq_true rfl, Nat.le_of_ble_eq_true rfl⟩) ⟨ct_ro_blind, ct_ro_pre (hP.sub [] rfl) hK⟩ rfl rfl hl.1 rfl (lv_room (Nat.le_of_ble_eq_true rfl)) d_M_size_4 ⟨Nat.le_of_ble_eq_true rfl, Nat.le_of_ble_eq_true rfl⟩) hS (fun q _ h9 => h9.elim) (fun q h9 => h9.elim) (fun ans1 uS tS H locs ht hvm hwans1 hB hz1 hk1 hS => ?_)
  have hP := ct_keep hP hk1
  refine ct_val (y := nI (if ct_in2 x (nI 0) (nI 7) = true then 1 else 0)) (hwans1) ?_
  by_cases hq : ct_in2 x (nI 0) (nI 7) = true
  · rw [if_pos hq]
    refine lv_if_eq (tgt := 23) hx hb d_M_size_7 (by decide) (fun hc9 => absurd hc9 (nI_ne0 (by omega) (by omega))) (fun _ => ?_)
    refine lv_iload_n hx hb d_M_size_10 rfl (lv_at hl 2 rfl) ?_
    refine lv_iconst (v := (nI 1)) hx hb d_M_size_11 (by decide) ?_
    refine lv_iconst (v := (nI 3)) hx hb d_M_size_12 (by decide) ?_
    refine va_calli (va_runS (As := [.int y, .int (nI 1), .int (nI 3)]) (rest := []) ⟨hx, hb, hml, hown, hts⟩ (c_M_in l dC dI cI y (nI 1) (nI 3)) (va_cwS 3 hts (ct_giT (fun w h9 => ct_tl h9) kw_570 kw_571 kw_30 kw_572) rfl rfl rfl (by decide +kernel) ⟨Nat.le_of_ble_eq_true rfl, Nat.le_of_ble_eq_true rfl⟩) ⟨ct_ro_blind, ct_ro_pre (hP.sub [] rfl) hK⟩ rfl rfl hl.1 rfl (lv_room (Nat.le_of_ble_eq_true rfl)) d_M_size_13 ⟨Nat.le_of_ble_eq_true rfl, Nat.le_of_ble_eq_true rfl⟩) hS (fun q _ h9 => h9.elim) (fun q h9 => h9.elim) (fun ans102 uS tS H locs ht hvm hwans102 hB hz1 hk1 hS => ?_)
    have hP := ct_keep hP hk1
    refine ct_val (y := nI (if ct_in2 y (nI 1) (nI 3) = true then 1 else 0)) (hwans102) ?_
    by_cases hq2 : ct_in2 y (nI 1) (nI 3) = true
    · rw [if_pos hq2]
      refine lv_if_eq (tgt := 23) hx hb d_M_size_16 (by decide) (fun hc9 => absurd hc9 (nI_ne0 (by omega) (by omega))) (fun _ => ?_)
      have hok : ct_sok x y = true := by rw [ct_sok_in, hq, hq2]; rfl
      obtain ⟨k, v, hk, hxk, hyv, hv0, hv4⟩ := ct_sok_of hok
      rw [hxk, hyv] at hl
      have loop : ∀ (n t : Nat), t + n = T → ∀ (H : Heap) (locs : List Loc), va_P (dC, dI) ct_cl [(o0, .inr (4, [.int thr, .ref o1, .int (nI T), .ref o2, .ref o3, .int ops, .ref o4, .int res, .ref o5, .ref o6, .int stp, .ref o7, .ref o8, .ref o9])), (o1, .inl (cI, 8, .inl (fun j => nI (sz j)))), (o2, .inl (cI, 8, .inl fl))] H → va_D A [(o0, .inr (4, [.int thr, .ref o1, .int (nI T), .ref o2, .ref o3, .int ops, .ref o4, .int res, .ref o5, .ref o6, .int stp, .ref o7, .ref o8, .ref o9])), (o1, .inl (cI, 8, .inl (fun j => nI (sz j)))), (o2, .inl (cI, 8, .inl fl))] → va_S A s.heap H locs → ∀ (ls : Array Slot), lv_has ls 6 [(0, .ref o0), (1, .int (nI k)), (2, .int (nI v)), (3, .int (nI 1)), (4, .int (nI (if ct_any lab k t = true then 1 else 0))), (5, .int (nI t))] → W p l e (headSpec w_M_size ({ frames := 1, cells := 0, slots := 0, locals := 22 } : Room)).room s m args below meth c H locs 0 0 (MQ below (va_Qv (fun (u : Nat × (Nat → Nat)) => (ct_sok x y = false ∧ u = (1, sz)) ∨ (ct_sok x y = true ∧ ∃ k v : Nat, k < 8 ∧ x = nI k ∧ y = nI v ∧ 0 < v ∧ v < 4 ∧ ((ct_any lab k T = true ∧ u = (2, sz)) ∨ (ct_any lab k T = false ∧ u = (0, ct_st sz k v))))) (fun (u : Nat × (Nat → Nat)) t => ct_at (dC, dI) ct_cl [(cI, .int)] (A) [(o0, .inr (4, [.int (nI (u.1)), .ref o1, .int (nI T), .ref o2, .ref o3, .int ops, .ref o4, .int res, .ref o5, .ref o6, .int stp, .ref o7, .ref o8, .ref o9])), (o1, .inl (cI, 8, .inl (fun j => nI (u.2 j)))), (o2, .inl (cI, 8, .inl fl))] t) (A)) args s 0 0 A) (F0 m 31 ls []) := by
        intro n
        induction n with
        | zero =>
          intro t ht H locs hP hD hS ls hl
          refine lv_iload hx hb d_M_size_31 (lv_at hl 5 rfl) ?_
          refine lv_aload_n hx hb d_M_size_33 rfl (lv_at hl 0 rfl) ?_
          refine va_get (D := (dC, dI)) (ci := 4) (v := .int (nI T)) (C := R_M) (T := T_M) (N := 14) hx hb hts (fun w h9 => ct_tl (ki_M w h9)) hown hK hP 0 rfl rfl 2 (by decide) (hts _ (ct_tl kw_521)) (fun _ h9 => h9) rfl d_M_size_34 ?_
          refine lv_icmp_ge (tgt := 77) hx hb d_M_size_37 (by decide) (fun _ => ?_) (fun hc9 => absurd (nI_le (by omega) (by omega)) hc9)
          obtain rfl : t = T := by omega
          refine lv_aload_n hx hb d_M_size_77 rfl (lv_at hl 0 rfl) ?_
          refine lv_iload_n hx hb d_M_size_78 rfl (lv_at hl 3 rfl) ?_
          refine lv_if_ne (tgt := 86) hx hb d_M_size_79 (by decide) (fun _ => ?_) (fun hc9 => absurd hc9 (nI_ne0 (by omega) (by omega)))
          refine lv_iconst (v := (nI 0)) hx hb d_M_size_86 (by decide) ?_
          by_cases ha : ct_any lab k t = true
          · rw [if_pos ha] at hl
            refine lv_iload hx hb d_M_size_87 (lv_at hl 4 rfl) ?_
            have hPc := hP.sub (ws' := [(o0, .inr (4, [.int thr, .ref o1, .int (nI t), .ref o2, .ref o3, .int ops, .ref o4, .int res, .ref o5, .ref o6, .int stp, .ref o7, .ref o8, .ref o9]))]) [0] rfl
            have hDc := hD.sub (ws' := [(o0, .inr (4, [.int thr, .ref o1, .int (nI t), .ref o2, .ref o3, .int ops, .ref o4, .int res, .ref o5, .ref o6, .int stp, .ref o7, .ref o8, .ref o9]))]) [0] (by decide) rfl
            have hFc := va_free (wc := [(o0, .inr (4, [.int thr, .ref o1, .int (nI t), .ref o2, .ref o3, .int ops, .ref o4, .int res, .ref o5, .ref o6, .int stp, .ref o7, .ref o8, .ref o9]))]) hD hS hA [0] rfl
            refine va_calli (va_runV (As := [.int (nI 0), .int (nI 1)]) (rest := []) ⟨hx, hb, hml, hown, hts⟩ (c_M_refuse l dC dI cI o0 o1 o2 o3 o4 o5 o6 o7 o8 o9 thr (nI t) ops res stp 0 1 (by omega) (by omega) H.size) (cwV 2 hts (ct_giV (fun w h9 => ct_tl h9) kw_573 kw_575 kw_15 kw_30 kw_576) rfl rfl rfl (by decide +kernel) ⟨Nat.le_of_ble_eq_true rfl, Nat.le_of_ble_eq_true rfl⟩) ⟨ct_rw_blind, va_recv hK hP (ci := 4) (q0 := 0) rfl rfl, ct_rw_pre hPc hK hDc⟩ rfl rfl hl.1 rfl (lv_room (Nat.le_of_ble_eq_true rfl)) d_M_size_89 ⟨Nat.zero_le _, Nat.zero_le _⟩) hS (fun q _ h9 => hFc q h9) hFc (fun ans304 u tS H1 locs ht hvm hw303 hB hz1 hk1 hS => ?_)
            obtain ⟨hP1, -, hD1⟩ := hB
            rw [ht] at hP1
            obtain ⟨hP, hD⟩ := va_join (wr := [(o1, .inl (cI, 8, .inl (fun j => nI (sz j)))), (o2, .inl (cI, 8, .inl fl))]) (w1 := [(o0, .inr (4, [.int (nI 2), .ref o1, .int (nI t), .ref o2, .ref o3, .int ops, .ref o4, .int res, .ref o5, .ref o6, .int stp, .ref o7, .ref o8, .ref o9]))]) hP hD [0] [1, 2] rfl rfl (by decide) (by decide) hk1 hFc hP1 hD1
            generalize H1 = H at hP hS ⊢
            have hP : va_P (dC, dI) ct_cl [(o1, .inl (cI, 8, .inl (fun j => nI (sz j)))), (o2, .inl (cI, 8, .inl fl)), (o0, .inr (4, [.int (nI 2), .ref o1, .int (nI t), .ref o2, .ref o3, .int ops, .ref o4, .int res, .ref o5, .ref o6, .int stp, .ref o7, .ref o8, .ref o9]))] H := hP
            have hD : va_D A [(o1, .inl (cI, 8, .inl (fun j => nI (sz j)))), (o2, .inl (cI, 8, .inl fl)), (o0, .inr (4, [.int (nI 2), .ref o1, .int (nI t), .ref o2, .ref o3, .int ops, .ref o4, .int res, .ref o5, .ref o6, .int stp, .ref o7, .ref o8, .ref o9]))] := hD
            refine ct_val (y := nI 1) hw303 ?_
            refine lv_if_ne (tgt := 102) hx hb d_M_size_92 (by decide) (fun _ => ?_) (fun hc9 => absurd hc9 (nI_ne0 (by omega) (by omega)))
            have hP9 := hP.sub [2, 0, 1] rfl
            exact W.vret hx hb hr (fun tS ht hW => ⟨⟨(2, sz), rfl, Or.inr ⟨hok, k, v, hk, hxk, hyv, hv0, hv4, Or.inl ⟨ha, rfl⟩⟩, by rw [ht]; exact hP9, va_K.moved hW.alike hK, hD.sub [2, 0, 1] (by decide) rfl⟩, hS.F ht⟩) hS.2.2 d_M_size_102
          · rw [if_neg ha] at hl
            refine lv_iload hx hb d_M_size_87 (lv_at hl 4 rfl) ?_
            have hPc := hP.sub (ws' := [(o0, .inr (4, [.int thr, .ref o1, .int (nI t), .ref o2, .ref o3, .int ops, .ref o4, .int res, .ref o5, .ref o6, .int stp, .ref o7, .ref o8, .ref o9]))]) [0] rfl
            have hDc := hD.sub (ws' := [(o0, .inr (4, [.int thr, .ref o1, .int (nI t), .ref o2, .ref o3, .int ops, .ref o4, .int res, .ref o5, .ref o6, .int stp, .ref o7, .ref o8, .ref o9]))]) [0] (by decide) rfl
            have hFc := va_free (wc := [(o0, .inr (4, [.int thr, .ref o1, .int (nI t), .ref o2, .ref o3, .int ops, .ref o4, .int res, .ref o5, .ref o6, .int stp, .ref o7, .ref o8, .ref o9]))]) hD hS hA [0] rfl
            refine va_calli (va_runV (As := [.int (nI 0), .int (nI 0)]) (rest := []) ⟨hx, hb, hml, hown, hts⟩ (c_M_refuse l dC dI cI o0 o1 o2 o3 o4 o5 o6 o7 o8 o9 thr (nI t) ops res stp 0 0 (by omega) (by omega) H.size) (cwV 2 hts (ct_giV (fun w h9 => ct_tl h9) kw_573 kw_575 kw_15 kw_30 kw_576) rfl rfl rfl (by decide +kernel) ⟨Nat.le_of_ble_eq_true rfl, Nat.le_of_ble_eq_true rfl⟩) ⟨ct_rw_blind, va_recv hK hP (ci := 4) (q0 := 0) rfl rfl, ct_rw_pre hPc hK hDc⟩ rfl rfl hl.1 rfl (lv_room (Nat.le_of_ble_eq_true rfl)) d_M_size_89 ⟨Nat.zero_le _, Nat.zero_le _⟩) hS (fun q _ h9 => hFc q h9) hFc (fun ans304 u tS H1 locs ht hvm hw303 hB hz1 hk1 hS => ?_)
            obtain ⟨hP1, -, hD1⟩ := hB
            rw [ht] at hP1
            obtain ⟨hP, hD⟩ := va_join (wr := [(o1, .inl (cI, 8, .inl (fun j => nI (sz j)))), (o2, .inl (cI, 8, .inl fl))]) (w1 := [(o0, .inr (4, [.int (nI 0), .ref o1, .int (nI t), .ref o2, .ref o3, .int ops, .ref o4, .int res, .ref o5, .ref o6, .int stp, .ref o7, .ref o8, .ref o9]))]) hP hD [0] [1, 2] rfl rfl (by decide) (by decide) hk1 hFc hP1 hD1
            generalize H1 = H at hP hS ⊢
            have hP : va_P (dC, dI) ct_cl [(o1, .inl (cI, 8, .inl (fun j => nI (sz j)))), (o2, .inl (cI, 8, .inl fl)), (o0, .inr (4, [.int (nI 0), .ref o1, .int (nI t), .ref o2, .ref o3, .int ops, .ref o4, .int res, .ref o5, .ref o6, .int stp, .ref o7, .ref o8, .ref o9]))] H := hP
            have hD : va_D A [(o1, .inl (cI, 8, .inl (fun j => nI (sz j)))), (o2, .inl (cI, 8, .inl fl)), (o0, .inr (4, [.int (nI 0), .ref o1, .int (nI t), .ref o2, .ref o3, .int ops, .ref o4, .int res, .ref o5, .ref o6, .int stp, .ref o7, .ref o8, .ref o9]))] := hD
            refine ct_val (y := nI 0) hw303 ?_
            refine lv_if_ne (tgt := 102) hx hb d_M_size_92 (by decide) (fun hc9 => absurd (nI_0) hc9) (fun _ => ?_)
            refine lv_aload_n hx hb d_M_size_95 rfl (lv_at hl 0 rfl) ?_
            refine va_get (D := (dC, dI)) (ci := 4) (v := .ref o1) (C := R_M) (T := T_M) (N := 14) hx hb hts (fun w h9 => ct_tl (ki_M w h9)) hown hK hP 2 rfl rfl 1 (by decide) (hts _ (ct_tl kw_520)) (fun _ h9 => h9) rfl d_M_size_96 ?_
            refine lv_iload_n hx hb d_M_size_99 rfl (lv_at hl 1 rfl) ?_
            refine lv_iload_n hx hb d_M_size_100 rfl (lv_at hl 2 rfl) ?_
            refine ct_iast hx hb hK hP hD hS 0 0 rfl rfl (j := k) (by omega) (by omega) d_M_size_101 (fun H locs hP hD hS => ?_)
            have hP : va_P (dC, dI) ct_cl [(o1, .inl (cI, 8, .inl (upd (fun j => nI (sz j)) k (nI v)))), (o2, .inl (cI, 8, .inl fl)), (o0, .inr (4, [.int (nI 0), .ref o1, .int (nI t), .ref o2, .ref o3, .int ops, .ref o4, .int res, .ref o5, .ref o6, .int stp, .ref o7, .ref o8, .ref o9]))] H := hP
            have hD : va_D A [(o1, .inl (cI, 8, .inl (upd (fun j => nI (sz j)) k (nI v)))), (o2, .inl (cI, 8, .inl fl)), (o0, .inr (4, [.int (nI 0), .ref o1, .int (nI t), .ref o2, .ref o3, .int ops, .ref o4, .int res, .ref o5, .ref o6, .int stp, .ref o7, .ref o8, .ref o9]))] := hD
            rw [show (upd (fun j => nI (sz j)) k (nI v)) = (fun j => nI (ct_st sz k v j)) from ct_upd_st sz k v] at hP hD
            have hP9 := hP.sub [2, 0, 1] rfl
            exact W.vret hx hb hr (fun tS ht hW => ⟨⟨(0, ct_st sz k v), rfl, Or.inr ⟨hok, k, v, hk, hxk, hyv, hv0, hv4, Or.inr ⟨by simpa using ha, rfl⟩⟩, by rw [ht]; exact hP9, va_K.moved hW.alike hK, hD.sub [2, 0, 1] (by decide) rfl⟩, hS.F ht⟩) hS.2.2 d_M_size_102
        | succ n ih =>
          intro t ht H locs hP hD hS ls hl
          refine lv_iload hx hb d_M_size_31 (lv_at hl 5 rfl) ?_
          refine lv_aload_n hx hb d_M_size_33 rfl (lv_at hl 0 rfl) ?_
          refine va_get (D := (dC, dI)) (ci := 4) (v := .int (nI T)) (C := R_M) (T := T_M) (N := 14) hx hb hts (fun w h9 => ct_tl (ki_M w h9)) hown hK hP 0 rfl rfl 2 (by decide) (hts _ (ct_tl kw_521)) (fun _ h9 => h9) rfl d_M_size_34 ?_
          refine lv_icmp_ge (tgt := 77) hx hb d_M_size_37 (by decide) (fun hc9 => absurd hc9 (nI_ge (by omega) (by omega))) (fun _ => ?_)
          refine lv_iload_n hx hb d_M_size_40 rfl (lv_at hl 3 rfl) ?_
          refine lv_if_eq (tgt := 77) hx hb d_M_size_41 (by decide) (fun hc9 => absurd hc9 (nI_ne0 (by omega) (by omega))) (fun _ => ?_)
          refine lv_iload hx hb d_M_size_44 (lv_at hl 4 rfl) ?_
          by_cases ha : ct_any lab k t = true
          · rw [if_pos ha]
            refine lv_if_ne (tgt := 64) hx hb d_M_size_46 (by decide) (fun _ => ?_) (fun hc9 => absurd hc9 (nI_ne0 (by omega) (by omega)))
            refine lv_iconst (v := (nI 1)) hx hb d_M_size_64 (by decide) ?_
            refine lv_goto (tgt := 69) hx hb d_M_size_65 (by decide) ?_
            refine lv_istore (lv' := [(4, .int (nI 1)), (0, .ref o0), (1, .int (nI k)), (2, .int (nI v)), (3, .int (nI 1)), (5, .int (nI t))]) hx hb d_M_size_69 hl (by decide) rfl (fun ls hl => ?_)
            refine lv_iinc (v := (nI (t + 1))) (lv' := [(5, .int (nI (t + 1))), (4, .int (nI 1)), (0, .ref o0), (1, .int (nI k)), (2, .int (nI v)), (3, .int (nI 1))]) hx hb d_M_size_71 hl (k := 5) rfl (nI_1 _) (by decide) rfl (fun ls hl => ?_)
            refine lv_goto (tgt := 31) hx hb d_M_size_74 (by decide) ?_
            exact ih (t + 1) (by omega) H locs hP hD hS ls (by rw [show ct_any lab k (t + 1) = (ct_any lab k t || (lab t).testBit k) from rfl, ha, Bool.true_or, if_pos rfl]; exact lv_sub hl [2, 3, 4, 5, 1, 0] rfl)
          · rw [if_neg ha]
            refine lv_if_ne (tgt := 64) hx hb d_M_size_46 (by decide) (fun hc9 => absurd (nI_0) hc9) (fun _ => ?_)
            refine lv_aload_n hx hb d_M_size_49 rfl (lv_at hl 0 rfl) ?_
            refine va_get (D := (dC, dI)) (ci := 4) (v := .ref o2) (C := R_M) (T := T_M) (N := 14) hx hb hts (fun w h9 => ct_tl (ki_M w h9)) hown hK hP 0 rfl rfl 3 (by decide) (hts _ (ct_tl kw_522)) (fun _ h9 => h9) rfl d_M_size_50 ?_
            refine lv_iload hx hb d_M_size_53 (lv_at hl 5 rfl) ?_
            refine ct_iald hx hb hK hP 2 0 rfl rfl (j := t) (by omega) (by omega) d_M_size_55 ?_
            refine ct_val (y := nI (lab t)) (hfl t (by omega)) ?_
            have hlt := hlab t (by omega)
            have haf : ct_any lab k t = false := by simpa using ha
            refine lv_iload_n hx hb d_M_size_56 rfl (lv_at hl 1 rfl) ?_
            refine lv_ishr hx hb d_M_size_57 ?_
            refine lv_iconst (v := (nI 1)) hx hb d_M_size_58 (by decide) ?_
            by_cases hbt : (lab t).testBit k = true
            · refine lv_iand hx hb d_M_size_59 ?_
              refine ct_val (y := nI 1) (by rw [ct_bit (by omega) (by omega), if_pos hbt]) ?_
              refine lv_iconst (v := (nI 1)) hx hb d_M_size_60 (by decide) ?_
              refine lv_icmp_ne (tgt := 68) hx hb d_M_size_61 (by decide) (fun hc9 => absurd (rfl) hc9) (fun _ => ?_)
              refine lv_iconst (v := (nI 1)) hx hb d_M_size_64 (by decide) ?_
              refine lv_goto (tgt := 69) hx hb d_M_size_65 (by decide) ?_
              refine lv_istore (lv' := [(4, .int (nI 1)), (0, .ref o0), (1, .int (nI k)), (2, .int (nI v)), (3, .int (nI 1)), (5, .int (nI t))]) hx hb d_M_size_69 hl (by decide) rfl (fun ls hl => ?_)
              refine lv_iinc (v := (nI (t + 1))) (lv' := [(5, .int (nI (t + 1))), (4, .int (nI 1)), (0, .ref o0), (1, .int (nI k)), (2, .int (nI v)), (3, .int (nI 1))]) hx hb d_M_size_71 hl (k := 5) rfl (nI_1 _) (by decide) rfl (fun ls hl => ?_)
              refine lv_goto (tgt := 31) hx hb d_M_size_74 (by decide) ?_
              exact ih (t + 1) (by omega) H locs hP hD hS ls (by rw [show ct_any lab k (t + 1) = (ct_any lab k t || (lab t).testBit k) from rfl, haf, hbt, Bool.false_or, if_pos rfl]; exact lv_sub hl [2, 3, 4, 5, 1, 0] rfl)
            · refine lv_iand hx hb d_M_size_59 ?_
              refine ct_val (y := nI 0) (by rw [ct_bit (by omega) (by omega), if_neg hbt]) ?_
              refine lv_iconst (v := (nI 1)) hx hb d_M_size_60 (by decide) ?_
              refine lv_icmp_ne (tgt := 68) hx hb d_M_size_61 (by decide) (fun _ => ?_) (fun hc9 => absurd hc9 (by decide))
              have hbf : (lab t).testBit k = false := by simpa using hbt
              refine lv_iconst (v := (nI 0)) hx hb d_M_size_68 (by decide) ?_
              refine lv_istore (lv' := [(4, .int (nI 0)), (0, .ref o0), (1, .int (nI k)), (2, .int (nI v)), (3, .int (nI 1)), (5, .int (nI t))]) hx hb d_M_size_69 hl (by decide) rfl (fun ls hl => ?_)
              refine lv_iinc (v := (nI (t + 1))) (lv' := [(5, .int (nI (t + 1))), (4, .int (nI 0)), (0, .ref o0), (1, .int (nI k)), (2, .int (nI v)), (3, .int (nI 1))]) hx hb d_M_size_71 hl (k := 5) rfl (nI_1 _) (by decide) rfl (fun ls hl => ?_)
              refine lv_goto (tgt := 31) hx hb d_M_size_74 (by decide) ?_
              exact ih (t + 1) (by omega) H locs hP hD hS ls (by rw [show ct_any lab k (t + 1) = (ct_any lab k t || (lab t).testBit k) from rfl, haf, hbf, Bool.false_or, if_neg Bool.false_ne_true]; exact lv_sub hl [2, 3, 4, 5, 1, 0] rfl)
      refine lv_iconst (v := (nI 1)) hx hb d_M_size_19 (by decide) ?_
      refine lv_goto (tgt := 24) hx hb d_M_size_20 (by decide) ?_
      refine lv_istore_n (lv' := [(3, .int (nI 1)), (0, .ref o0), (1, .int (nI k)), (2, .int (nI v))]) hx hb d_M_size_24 rfl hl (by decide) rfl (fun ls hl => ?_)
      refine lv_iconst (v := (nI 0)) hx hb d_M_size_25 (by decide) ?_
      refine lv_istore (lv' := [(4, .int (nI 0)), (3, .int (nI 1)), (0, .ref o0), (1, .int (nI k)), (2, .int (nI v))]) hx hb d_M_size_26 hl (by decide) rfl (fun ls hl => ?_)
      refine lv_iconst (v := (nI 0)) hx hb d_M_size_28 (by decide) ?_
      refine lv_istore (lv' := [(5, .int (nI 0)), (4, .int (nI 0)), (3, .int (nI 1)), (0, .ref o0), (1, .int (nI k)), (2, .int (nI v))]) hx hb d_M_size_29 hl (by decide) rfl (fun ls hl => ?_)
      exact loop T 0 (by omega) H locs hP hD hS ls (lv_sub hl [3, 4, 5, 2, 1, 0] rfl)
    · rw [if_neg hq2]
      refine lv_if_eq (tgt := 23) hx hb d_M_size_16 (by decide) (fun _ => ?_) (fun hc9 => absurd (nI_0) hc9)
      have hbad : ct_sok x y = false := by rw [ct_sok_in, hq]; simpa using hq2
      refine lv_iconst (v := (nI 0)) hx hb d_M_size_23 (by decide) ?_
      refine lv_istore_n (lv' := [(3, .int (nI 0)), (0, .ref o0), (1, .int x), (2, .int y)]) hx hb d_M_size_24 rfl hl (by decide) rfl (fun ls hl => ?_)
      refine lv_iconst (v := (nI 0)) hx hb d_M_size_25 (by decide) ?_
      refine lv_istore (lv' := [(4, .int (nI 0)), (3, .int (nI 0)), (0, .ref o0), (1, .int x), (2, .int y)]) hx hb d_M_size_26 hl (by decide) rfl (fun ls hl => ?_)
      refine lv_iconst (v := (nI 0)) hx hb d_M_size_28 (by decide) ?_
      refine lv_istore (lv' := [(5, .int (nI 0)), (4, .int (nI 0)), (3, .int (nI 0)), (0, .ref o0), (1, .int x), (2, .int y)]) hx hb d_M_size_29 hl (by decide) rfl (fun ls hl => ?_)
      refine lv_iload hx hb d_M_size_31 (lv_at hl 0 rfl) ?_
      refine lv_aload_n hx hb d_M_size_33 rfl (lv_at hl 3 rfl) ?_
      refine va_get (D := (dC, dI)) (ci := 4) (v := .int (nI T)) (C := R_M) (T := T_M) (N := 14) hx hb hts (fun w h9 => ct_tl (ki_M w h9)) hown hK hP 0 rfl rfl 2 (by decide) (hts _ (ct_tl kw_521)) (fun _ h9 => h9) rfl d_M_size_34 ?_
      by_cases hT0 : T = 0
      · refine lv_icmp_ge (tgt := 77) hx hb d_M_size_37 (by decide) (fun _ => ?_) (fun hc9 => absurd (by rw [hT0]; exact Int32.le_refl _) hc9)
        refine lv_aload_n hx hb d_M_size_77 rfl (lv_at hl 3 rfl) ?_
        refine lv_iload_n hx hb d_M_size_78 rfl (lv_at hl 2 rfl) ?_
        refine lv_if_ne (tgt := 86) hx hb d_M_size_79 (by decide) (fun hc9 => absurd (nI_0) hc9) (fun _ => ?_)
        refine lv_iconst (v := (nI 1)) hx hb d_M_size_82 (by decide) ?_
        refine lv_goto (tgt := 87) hx hb d_M_size_83 (by decide) ?_
        refine lv_iload hx hb d_M_size_87 (lv_at hl 1 rfl) ?_
        have hPc := hP.sub (ws' := [(o0, .inr (4, [.int thr, .ref o1, .int (nI T), .ref o2, .ref o3, .int ops, .ref o4, .int res, .ref o5, .ref o6, .int stp, .ref o7, .ref o8, .ref o9]))]) [0] rfl
        have hDc := hD.sub (ws' := [(o0, .inr (4, [.int thr, .ref o1, .int (nI T), .ref o2, .ref o3, .int ops, .ref o4, .int res, .ref o5, .ref o6, .int stp, .ref o7, .ref o8, .ref o9]))]) [0] (by decide) rfl
        have hFc := va_free (wc := [(o0, .inr (4, [.int thr, .ref o1, .int (nI T), .ref o2, .ref o3, .int ops, .ref o4, .int res, .ref o5, .ref o6, .int stp, .ref o7, .ref o8, .ref o9]))]) hD hS hA [0] rfl
        refine va_calli (va_runV (As := [.int (nI 1), .int (nI 0)]) (rest := []) ⟨hx, hb, hml, hown, hts⟩ (c_M_refuse l dC dI cI o0 o1 o2 o3 o4 o5 o6 o7 o8 o9 thr (nI T) ops res stp 1 0 (by omega) (by omega) H.size) (cwV 2 hts (ct_giV (fun w h9 => ct_tl h9) kw_573 kw_575 kw_15 kw_30 kw_576) rfl rfl rfl (by decide +kernel) ⟨Nat.le_of_ble_eq_true rfl, Nat.le_of_ble_eq_true rfl⟩) ⟨ct_rw_blind, va_recv hK hP (ci := 4) (q0 := 0) rfl rfl, ct_rw_pre hPc hK hDc⟩ rfl rfl hl.1 rfl (lv_room (Nat.le_of_ble_eq_true rfl)) d_M_size_89 ⟨Nat.zero_le _, Nat.zero_le _⟩) hS (fun q _ h9 => hFc q h9) hFc (fun ans304 u tS H1 locs ht hvm hw303 hB hz1 hk1 hS => ?_)
        obtain ⟨hP1, -, hD1⟩ := hB
        rw [ht] at hP1
        obtain ⟨hP, hD⟩ := va_join (wr := [(o1, .inl (cI, 8, .inl (fun j => nI (sz j)))), (o2, .inl (cI, 8, .inl fl))]) (w1 := [(o0, .inr (4, [.int (nI 1), .ref o1, .int (nI T), .ref o2, .ref o3, .int ops, .ref o4, .int res, .ref o5, .ref o6, .int stp, .ref o7, .ref o8, .ref o9]))]) hP hD [0] [1, 2] rfl rfl (by decide) (by decide) hk1 hFc hP1 hD1
        generalize H1 = H at hP hS ⊢
        have hP : va_P (dC, dI) ct_cl [(o1, .inl (cI, 8, .inl (fun j => nI (sz j)))), (o2, .inl (cI, 8, .inl fl)), (o0, .inr (4, [.int (nI 1), .ref o1, .int (nI T), .ref o2, .ref o3, .int ops, .ref o4, .int res, .ref o5, .ref o6, .int stp, .ref o7, .ref o8, .ref o9]))] H := hP
        have hD : va_D A [(o1, .inl (cI, 8, .inl (fun j => nI (sz j)))), (o2, .inl (cI, 8, .inl fl)), (o0, .inr (4, [.int (nI 1), .ref o1, .int (nI T), .ref o2, .ref o3, .int ops, .ref o4, .int res, .ref o5, .ref o6, .int stp, .ref o7, .ref o8, .ref o9]))] := hD
        refine ct_val (y := nI 1) hw303 ?_
        refine lv_if_ne (tgt := 102) hx hb d_M_size_92 (by decide) (fun _ => ?_) (fun hc9 => absurd hc9 (nI_ne0 (by omega) (by omega)))
        have hP9 := hP.sub [2, 0, 1] rfl
        exact W.vret hx hb hr (fun tS ht hW => ⟨⟨(1, sz), rfl, Or.inl ⟨hbad, rfl⟩, by rw [ht]; exact hP9, va_K.moved hW.alike hK, hD.sub [2, 0, 1] (by decide) rfl⟩, hS.F ht⟩) hS.2.2 d_M_size_102
      · refine lv_icmp_ge (tgt := 77) hx hb d_M_size_37 (by decide) (fun hc9 => absurd hc9 (nI_ge (by omega) (by omega))) (fun _ => ?_)
        refine lv_iload_n hx hb d_M_size_40 rfl (lv_at hl 2 rfl) ?_
        refine lv_if_eq (tgt := 77) hx hb d_M_size_41 (by decide) (fun _ => ?_) (fun hc9 => absurd (nI_0) hc9)
        refine lv_aload_n hx hb d_M_size_77 rfl (lv_at hl 3 rfl) ?_
        refine lv_iload_n hx hb d_M_size_78 rfl (lv_at hl 2 rfl) ?_
        refine lv_if_ne (tgt := 86) hx hb d_M_size_79 (by decide) (fun hc9 => absurd (nI_0) hc9) (fun _ => ?_)
        refine lv_iconst (v := (nI 1)) hx hb d_M_size_82 (by decide) ?_
        refine lv_goto (tgt := 87) hx hb d_M_size_83 (by decide) ?_
        refine lv_iload hx hb d_M_size_87 (lv_at hl 1 rfl) ?_
        have hPc := hP.sub (ws' := [(o0, .inr (4, [.int thr, .ref o1, .int (nI T), .ref o2, .ref o3, .int ops, .ref o4, .int res, .ref o5, .ref o6, .int stp, .ref o7, .ref o8, .ref o9]))]) [0] rfl
        have hDc := hD.sub (ws' := [(o0, .inr (4, [.int thr, .ref o1, .int (nI T), .ref o2, .ref o3, .int ops, .ref o4, .int res, .ref o5, .ref o6, .int stp, .ref o7, .ref o8, .ref o9]))]) [0] (by decide) rfl
        have hFc := va_free (wc := [(o0, .inr (4, [.int thr, .ref o1, .int (nI T), .ref o2, .ref o3, .int ops, .ref o4, .int res, .ref o5, .ref o6, .int stp, .ref o7, .ref o8, .ref o9]))]) hD hS hA [0] rfl
        refine va_calli (va_runV (As := [.int (nI 1), .int (nI 0)]) (rest := []) ⟨hx, hb, hml, hown, hts⟩ (c_M_refuse l dC dI cI o0 o1 o2 o3 o4 o5 o6 o7 o8 o9 thr (nI T) ops res stp 1 0 (by omega) (by omega) H.size) (cwV 2 hts (ct_giV (fun w h9 => ct_tl h9) kw_573 kw_575 kw_15 kw_30 kw_576) rfl rfl rfl (by decide +kernel) ⟨Nat.le_of_ble_eq_true rfl, Nat.le_of_ble_eq_true rfl⟩) ⟨ct_rw_blind, va_recv hK hP (ci := 4) (q0 := 0) rfl rfl, ct_rw_pre hPc hK hDc⟩ rfl rfl hl.1 rfl (lv_room (Nat.le_of_ble_eq_true rfl)) d_M_size_89 ⟨Nat.zero_le _, Nat.zero_le _⟩) hS (fun q _ h9 => hFc q h9) hFc (fun ans304 u tS H1 locs ht hvm hw303 hB hz1 hk1 hS => ?_)
        obtain ⟨hP1, -, hD1⟩ := hB
        rw [ht] at hP1
        obtain ⟨hP, hD⟩ := va_join (wr := [(o1, .inl (cI, 8, .inl (fun j => nI (sz j)))), (o2, .inl (cI, 8, .inl fl))]) (w1 := [(o0, .inr (4, [.int (nI 1), .ref o1, .int (nI T), .ref o2, .ref o3, .int ops, .ref o4, .int res, .ref o5, .ref o6, .int stp, .ref o7, .ref o8, .ref o9]))]) hP hD [0] [1, 2] rfl rfl (by decide) (by decide) hk1 hFc hP1 hD1
        generalize H1 = H at hP hS ⊢
        have hP : va_P (dC, dI) ct_cl [(o1, .inl (cI, 8, .inl (fun j => nI (sz j)))), (o2, .inl (cI, 8, .inl fl)), (o0, .inr (4, [.int (nI 1), .ref o1, .int (nI T), .ref o2, .ref o3, .int ops, .ref o4, .int res, .ref o5, .ref o6, .int stp, .ref o7, .ref o8, .ref o9]))] H := hP
        have hD : va_D A [(o1, .inl (cI, 8, .inl (fun j => nI (sz j)))), (o2, .inl (cI, 8, .inl fl)), (o0, .inr (4, [.int (nI 1), .ref o1, .int (nI T), .ref o2, .ref o3, .int ops, .ref o4, .int res, .ref o5, .ref o6, .int stp, .ref o7, .ref o8, .ref o9]))] := hD
        refine ct_val (y := nI 1) hw303 ?_
        refine lv_if_ne (tgt := 102) hx hb d_M_size_92 (by decide) (fun _ => ?_) (fun hc9 => absurd hc9 (nI_ne0 (by omega) (by omega)))
        have hP9 := hP.sub [2, 0, 1] rfl
        exact W.vret hx hb hr (fun tS ht hW => ⟨⟨(1, sz), rfl, Or.inl ⟨hbad, rfl⟩, by rw [ht]; exact hP9, va_K.moved hW.alike hK, hD.sub [2, 0, 1] (by decide) rfl⟩, hS.F ht⟩) hS.2.2 d_M_size_102
  · rw [if_neg hq]
    refine lv_if_eq (tgt := 23) hx hb d_M_size_7 (by decide) (fun _ => ?_) (fun hc9 => absurd (nI_0) hc9)
    have hbad : ct_sok x y = false := by rw [ct_sok_in]; simp [hq]
    refine lv_iconst (v := (nI 0)) hx hb d_M_size_23 (by decide) ?_
    refine lv_istore_n (lv' := [(3, .int (nI 0)), (0, .ref o0), (1, .int x), (2, .int y)]) hx hb d_M_size_24 rfl hl (by decide) rfl (fun ls hl => ?_)
    refine lv_iconst (v := (nI 0)) hx hb d_M_size_25 (by decide) ?_
    refine lv_istore (lv' := [(4, .int (nI 0)), (3, .int (nI 0)), (0, .ref o0), (1, .int x), (2, .int y)]) hx hb d_M_size_26 hl (by decide) rfl (fun ls hl => ?_)
    refine lv_iconst (v := (nI 0)) hx hb d_M_size_28 (by decide) ?_
    refine lv_istore (lv' := [(5, .int (nI 0)), (4, .int (nI 0)), (3, .int (nI 0)), (0, .ref o0), (1, .int x), (2, .int y)]) hx hb d_M_size_29 hl (by decide) rfl (fun ls hl => ?_)
    refine lv_iload hx hb d_M_size_31 (lv_at hl 0 rfl) ?_
    refine lv_aload_n hx hb d_M_size_33 rfl (lv_at hl 3 rfl) ?_
    refine va_get (D := (dC, dI)) (ci := 4) (v := .int (nI T)) (C := R_M) (T := T_M) (N := 14) hx hb hts (fun w h9 => ct_tl (ki_M w h9)) hown hK hP 0 rfl rfl 2 (by decide) (hts _ (ct_tl kw_521)) (fun _ h9 => h9) rfl d_M_size_34 ?_
    by_cases hT0 : T = 0
    · refine lv_icmp_ge (tgt := 77) hx hb d_M_size_37 (by decide) (fun _ => ?_) (fun hc9 => absurd (by rw [hT0]; exact Int32.le_refl _) hc9)
      refine lv_aload_n hx hb d_M_size_77 rfl (lv_at hl 3 rfl) ?_
      refine lv_iload_n hx hb d_M_size_78 rfl (lv_at hl 2 rfl) ?_
      refine lv_if_ne (tgt := 86) hx hb d_M_size_79 (by decide) (fun hc9 => absurd (nI_0) hc9) (fun _ => ?_)
      refine lv_iconst (v := (nI 1)) hx hb d_M_size_82 (by decide) ?_
      refine lv_goto (tgt := 87) hx hb d_M_size_83 (by decide) ?_
      refine lv_iload hx hb d_M_size_87 (lv_at hl 1 rfl) ?_
      have hPc := hP.sub (ws' := [(o0, .inr (4, [.int thr, .ref o1, .int (nI T), .ref o2, .ref o3, .int ops, .ref o4, .int res, .ref o5, .ref o6, .int stp, .ref o7, .ref o8, .ref o9]))]) [0] rfl
      have hDc := hD.sub (ws' := [(o0, .inr (4, [.int thr, .ref o1, .int (nI T), .ref o2, .ref o3, .int ops, .ref o4, .int res, .ref o5, .ref o6, .int stp, .ref o7, .ref o8, .ref o9]))]) [0] (by decide) rfl
      have hFc := va_free (wc := [(o0, .inr (4, [.int thr, .ref o1, .int (nI T), .ref o2, .ref o3, .int ops, .ref o4, .int res, .ref o5, .ref o6, .int stp, .ref o7, .ref o8, .ref o9]))]) hD hS hA [0] rfl
      refine va_calli (va_runV (As := [.int (nI 1), .int (nI 0)]) (rest := []) ⟨hx, hb, hml, hown, hts⟩ (c_M_refuse l dC dI cI o0 o1 o2 o3 o4 o5 o6 o7 o8 o9 thr (nI T) ops res stp 1 0 (by omega) (by omega) H.size) (cwV 2 hts (ct_giV (fun w h9 => ct_tl h9) kw_573 kw_575 kw_15 kw_30 kw_576) rfl rfl rfl (by decide +kernel) ⟨Nat.le_of_ble_eq_true rfl, Nat.le_of_ble_eq_true rfl⟩) ⟨ct_rw_blind, va_recv hK hP (ci := 4) (q0 := 0) rfl rfl, ct_rw_pre hPc hK hDc⟩ rfl rfl hl.1 rfl (lv_room (Nat.le_of_ble_eq_true rfl)) d_M_size_89 ⟨Nat.zero_le _, Nat.zero_le _⟩) hS (fun q _ h9 => hFc q h9) hFc (fun ans203 u tS H1 locs ht hvm hw202 hB hz1 hk1 hS => ?_)
      obtain ⟨hP1, -, hD1⟩ := hB
      rw [ht] at hP1
      obtain ⟨hP, hD⟩ := va_join (wr := [(o1, .inl (cI, 8, .inl (fun j => nI (sz j)))), (o2, .inl (cI, 8, .inl fl))]) (w1 := [(o0, .inr (4, [.int (nI 1), .ref o1, .int (nI T), .ref o2, .ref o3, .int ops, .ref o4, .int res, .ref o5, .ref o6, .int stp, .ref o7, .ref o8, .ref o9]))]) hP hD [0] [1, 2] rfl rfl (by decide) (by decide) hk1 hFc hP1 hD1
      generalize H1 = H at hP hS ⊢
      have hP : va_P (dC, dI) ct_cl [(o1, .inl (cI, 8, .inl (fun j => nI (sz j)))), (o2, .inl (cI, 8, .inl fl)), (o0, .inr (4, [.int (nI 1), .ref o1, .int (nI T), .ref o2, .ref o3, .int ops, .ref o4, .int res, .ref o5, .ref o6, .int stp, .ref o7, .ref o8, .ref o9]))] H := hP
      have hD : va_D A [(o1, .inl (cI, 8, .inl (fun j => nI (sz j)))), (o2, .inl (cI, 8, .inl fl)), (o0, .inr (4, [.int (nI 1), .ref o1, .int (nI T), .ref o2, .ref o3, .int ops, .ref o4, .int res, .ref o5, .ref o6, .int stp, .ref o7, .ref o8, .ref o9]))] := hD
      refine ct_val (y := nI 1) hw202 ?_
      refine lv_if_ne (tgt := 102) hx hb d_M_size_92 (by decide) (fun _ => ?_) (fun hc9 => absurd hc9 (nI_ne0 (by omega) (by omega)))
      have hP9 := hP.sub [2, 0, 1] rfl
      exact W.vret hx hb hr (fun tS ht hW => ⟨⟨(1, sz), rfl, Or.inl ⟨hbad, rfl⟩, by rw [ht]; exact hP9, va_K.moved hW.alike hK, hD.sub [2, 0, 1] (by decide) rfl⟩, hS.F ht⟩) hS.2.2 d_M_size_102
    · refine lv_icmp_ge (tgt := 77) hx hb d_M_size_37 (by decide) (fun hc9 => absurd hc9 (nI_ge (by omega) (by omega))) (fun _ => ?_)
      refine lv_iload_n hx hb d_M_size_40 rfl (lv_at hl 2 rfl) ?_
      refine lv_if_eq (tgt := 77) hx hb d_M_size_41 (by decide) (fun _ => ?_) (fun hc9 => absurd (nI_0) hc9)
      refine lv_aload_n hx hb d_M_size_77 rfl (lv_at hl 3 rfl) ?_
      refine lv_iload_n hx hb d_M_size_78 rfl (lv_at hl 2 rfl) ?_
      refine lv_if_ne (tgt := 86) hx hb d_M_size_79 (by decide) (fun hc9 => absurd (nI_0) hc9) (fun _ => ?_)
      refine lv_iconst (v := (nI 1)) hx hb d_M_size_82 (by decide) ?_
      refine lv_goto (tgt := 87) hx hb d_M_size_83 (by decide) ?_
      refine lv_iload hx hb d_M_size_87 (lv_at hl 1 rfl) ?_
      have hPc := hP.sub (ws' := [(o0, .inr (4, [.int thr, .ref o1, .int (nI T), .ref o2, .ref o3, .int ops, .ref o4, .int res, .ref o5, .ref o6, .int stp, .ref o7, .ref o8, .ref o9]))]) [0] rfl
      have hDc := hD.sub (ws' := [(o0, .inr (4, [.int thr, .ref o1, .int (nI T), .ref o2, .ref o3, .int ops, .ref o4, .int res, .ref o5, .ref o6, .int stp, .ref o7, .ref o8, .ref o9]))]) [0] (by decide) rfl
      have hFc := va_free (wc := [(o0, .inr (4, [.int thr, .ref o1, .int (nI T), .ref o2, .ref o3, .int ops, .ref o4, .int res, .ref o5, .ref o6, .int stp, .ref o7, .ref o8, .ref o9]))]) hD hS hA [0] rfl
      refine va_calli (va_runV (As := [.int (nI 1), .int (nI 0)]) (rest := []) ⟨hx, hb, hml, hown, hts⟩ (c_M_refuse l dC dI cI o0 o1 o2 o3 o4 o5 o6 o7 o8 o9 thr (nI T) ops res stp 1 0 (by omega) (by omega) H.size) (cwV 2 hts (ct_giV (fun w h9 => ct_tl h9) kw_573 kw_575 kw_15 kw_30 kw_576) rfl rfl rfl (by decide +kernel) ⟨Nat.le_of_ble_eq_true rfl, Nat.le_of_ble_eq_true rfl⟩) ⟨ct_rw_blind, va_recv hK hP (ci := 4) (q0 := 0) rfl rfl, ct_rw_pre hPc hK hDc⟩ rfl rfl hl.1 rfl (lv_room (Nat.le_of_ble_eq_true rfl)) d_M_size_89 ⟨Nat.zero_le _, Nat.zero_le _⟩) hS (fun q _ h9 => hFc q h9) hFc (fun ans203 u tS H1 locs ht hvm hw202 hB hz1 hk1 hS => ?_)
      obtain ⟨hP1, -, hD1⟩ := hB
      rw [ht] at hP1
      obtain ⟨hP, hD⟩ := va_join (wr := [(o1, .inl (cI, 8, .inl (fun j => nI (sz j)))), (o2, .inl (cI, 8, .inl fl))]) (w1 := [(o0, .inr (4, [.int (nI 1), .ref o1, .int (nI T), .ref o2, .ref o3, .int ops, .ref o4, .int res, .ref o5, .ref o6, .int stp, .ref o7, .ref o8, .ref o9]))]) hP hD [0] [1, 2] rfl rfl (by decide) (by decide) hk1 hFc hP1 hD1
      generalize H1 = H at hP hS ⊢
      have hP : va_P (dC, dI) ct_cl [(o1, .inl (cI, 8, .inl (fun j => nI (sz j)))), (o2, .inl (cI, 8, .inl fl)), (o0, .inr (4, [.int (nI 1), .ref o1, .int (nI T), .ref o2, .ref o3, .int ops, .ref o4, .int res, .ref o5, .ref o6, .int stp, .ref o7, .ref o8, .ref o9]))] H := hP
      have hD : va_D A [(o1, .inl (cI, 8, .inl (fun j => nI (sz j)))), (o2, .inl (cI, 8, .inl fl)), (o0, .inr (4, [.int (nI 1), .ref o1, .int (nI T), .ref o2, .ref o3, .int ops, .ref o4, .int res, .ref o5, .ref o6, .int stp, .ref o7, .ref o8, .ref o9]))] := hD
      refine ct_val (y := nI 1) hw202 ?_
      refine lv_if_ne (tgt := 102) hx hb d_M_size_92 (by decide) (fun _ => ?_) (fun hc9 => absurd hc9 (nI_ne0 (by omega) (by omega)))
      have hP9 := hP.sub [2, 0, 1] rfl
      exact W.vret hx hb hr (fun tS ht hW => ⟨⟨(1, sz), rfl, Or.inl ⟨hbad, rfl⟩, by rw [ht]; exact hP9, va_K.moved hW.alike hK, hD.sub [2, 0, 1] (by decide) rfl⟩, hS.F ht⟩) hS.2.2 d_M_size_102
set_option maxHeartbeats 4000000 in
set_option maxRecDepth 100000 in
theorem c_M_extent (l : Launch) (dC : Nat → ClassId) (dI : Nat → Nat → Nat) (cI : ClassId) (o0 o1 o2 o3 o4 o5 o6 o7 o8 o9 : Nat) (thr : Int32) (T : Nat) (ops res stp : Int32) (sz : Nat → Nat) (fl : Nat → Int32) (lab : Nat → Nat) (hT8 : T ≤ 8) (hfl : ∀ t, t < T → fl t = nI (lab t)) (hlab : ∀ t, t < T → lab t < 256) (x : Int32) (sz0 : Nat) : Met l y_M_extent w_M_extent ({ frames := 2, cells := 0, slots := 0, locals := 43 }) (va_Pc [.ref o0, .int x] (ct_rw (dC, dI) ct_cl [(o0, .inr (4, [.int thr, .ref o1, .int (nI T), .ref o2, .ref o3, .int ops, .ref o4, .int res, .ref o5, .ref o6, .int stp, .ref o7, .ref o8, .ref o9])), (o1, .inl (cI, 8, .inl (fun j => nI (sz j)))), (o2, .inl (cI, 8, .inl fl))] [(cI, .int)] sz0)) (va_Qi (fun (r : Int32) (u : Nat) => (ct_isn T x = false ∧ u = 1) ∨ (ct_isn T x = true ∧ u = 0 ∧ ∃ j : Nat, j < T ∧ x = nI j ∧ r = nI (ct_pr sz (lab j).testBit 8))) (fun (u : Nat) t => ct_at (dC, dI) ct_cl [(cI, .int)] (va_A [(o0, .inr (4, [.int thr, .ref o1, .int (nI T), .ref o2, .ref o3, .int ops, .ref o4, .int res, .ref o5, .ref o6, .int stp, .ref o7, .ref o8, .ref o9])), (o1, .inl (cI, 8, .inl (fun j => nI (sz j)))), (o2, .inl (cI, 8, .inl fl))] sz0) [(o0, .inr (4, [.int (nI u), .ref o1, .int (nI T), .ref o2, .ref o3, .int ops, .ref o4, .int res, .ref o5, .ref o6, .int stp, .ref o7, .ref o8, .ref o9])), (o1, .inl (cI, 8, .inl (fun j => nI (sz j)))), (o2, .inl (cI, 8, .inl fl))] t) (va_A [(o0, .inr (4, [.int thr, .ref o1, .int (nI T), .ref o2, .ref o3, .int ops, .ref o4, .int res, .ref o5, .ref o6, .int stp, .ref o7, .ref o8, .ref o9])), (o1, .inl (cI, 8, .inl (fun j => nI (sz j)))), (o2, .inl (cI, 8, .inl fl))] sz0)) 0 0 (va_A [(o0, .inr (4, [.int thr, .ref o1, .int (nI T), .ref o2, .ref o3, .int ops, .ref o4, .int res, .ref o5, .ref o6, .int stp, .ref o7, .ref o8, .ref o9])), (o1, .inl (cI, 8, .inl (fun j => nI (sz j)))), (o2, .inl (cI, 8, .inl fl))] sz0) := by
  refine Met.ofW (cc := b_M_extent) (maxL := 2) (ret := (some .int)) (by decide) rfl ?_
  intro p e s m args below meth c s₁ Bd hml hv
  obtain ⟨hargs, hsz, hP, hK, hD0⟩ := hv
  have hx := Bd.exec
  have hb := Bd.bytes
  have hr := Bd.returns
  have hts : ∀ w ∈ k_M_extent :: ct_tb, w.before args s = true := atoms_spec (ws := w_M_extent) Bd.pre
  have hown : s.vm.findClass R_M = some m.cls := findClass_of_methodNamed Bd.named
  have hlocks := Bd.notSynchronized
  subst hsz
  have hD := hD0.self (sz := s.heap.size)
  generalize hAe : va_A [(o0, .inr (4, [.int thr, .ref o1, .int (nI T), .ref o2, .ref o3, .int ops, .ref o4, .int res, .ref o5, .ref o6, .int stp, .ref o7, .ref o8, .ref o9])), (o1, .inl (cI, 8, .inl (fun j => nI (sz j)))), (o2, .inl (cI, 8, .inl fl))] s.heap.size = A at hD ⊢
  have hA : ∀ q : Nat, s.heap.size ≤ q → A q := fun q h => by rw [← hAe]; exact Or.inr h
  have hS : va_S A s.heap s.heap [] := va_S.rf
  have hl := lv_entry ([.ref o0, .int x]) (n := 2) (Nat.le_of_ble_eq_true rfl)
  rw [show entryFrame m args 2 = entryFrame m (([.ref o0, .int x] : List Value)).toArray 2 by rw [hargs], lg_entry_eq]
  generalize (lg_sl ([.ref o0, .int x]) ++ List.replicate (2 - (lg_sl ([.ref o0, .int x])).length) Slot.unset).toArray = ls at hl ⊢
  have hl : lv_has ls 2 [(0, .ref o0), (1, .int x)] := hl
  refine lv_aload_n hx hb d_M_extent_0 rfl (lv_at hl 0 rfl) ?_
  refine lv_aload_n hx hb d_M_extent_1 rfl (lv_at hl 0 rfl) ?_
  refine lv_iload_n hx hb d_M_extent_2 rfl (lv_at hl 1 rfl) ?_
  refine va_calli (va_runV (As := [.int x]) (rest := [.ref o0]) ⟨hx, hb, hml, hown, hts⟩ (c_M_isTable l dC dI cI o0 o1 o2 o3 o4 o5 o6 o7 o8 o9 thr T ops res stp (by omega) x) (cwV 1 hts (ct_giV (fun w h9 => ct_tl h9) kw_588 kw_590 kw_16 kw_30 kw_591) rfl rfl rfl (by decide +kernel) ⟨Nat.le_of_ble_eq_true rfl, Nat.le_of_ble_eq_true rfl⟩) ⟨ct_ro_blind, va_recv hK hP (ci := 4) (q0 := 0) rfl rfl, ct_ro_pre (hP.sub [0] rfl) hK⟩ rfl rfl hl.1 rfl (lv_room (Nat.le_of_ble_eq_true rfl)) d_M_extent_3 ⟨Nat.le_of_ble_eq_true rfl, Nat.le_of_ble_eq_true rfl⟩) hS (fun q _ h9 => h9.elim) (fun q h9 => h9.elim) (fun ans1 uS tS H locs ht hvm hwans1 hB hz1 hk1 hS => ?_)
  have hP := ct_keep hP hk1
  refine ct_val (y := nI (if ct_isn T x = true then 1 else 0)) (hwans1) ?_
  by_cases hq : ct_isn T x = true
  · rw [if_pos hq]
    refine lv_if_ne (tgt := 13) hx hb d_M_extent_6 (by decide) (fun _ => ?_) (fun hc9 => absurd hc9 (nI_ne0 (by omega) (by omega)))
    refine lv_iconst (v := (nI 0)) hx hb d_M_extent_13 (by decide) ?_
    refine lv_iconst (v := (nI 0)) hx hb d_M_extent_14 (by decide) ?_
    have hPc := hP.sub (ws' := [(o0, .inr (4, [.int thr, .ref o1, .int (nI T), .ref o2, .ref o3, .int ops, .ref o4, .int res, .ref o5, .ref o6, .int stp, .ref o7, .ref o8, .ref o9]))]) [0] rfl
    have hDc := hD.sub (ws' := [(o0, .inr (4, [.int thr, .ref o1, .int (nI T), .ref o2, .ref o3, .int ops, .ref o4, .int res, .ref o5, .ref o6, .int stp, .ref o7, .ref o8, .ref o9]))]) [0] (by decide) rfl
    have hFc := va_free (wc := [(o0, .inr (4, [.int thr, .ref o1, .int (nI T), .ref o2, .ref o3, .int ops, .ref o4, .int res, .ref o5, .ref o6, .int stp, .ref o7, .ref o8, .ref o9]))]) hD hS hA [0] rfl
    refine va_calli (va_runV (As := [.int (nI 0), .int (nI 0)]) (rest := []) ⟨hx, hb, hml, hown, hts⟩ (c_M_refuse l dC dI cI o0 o1 o2 o3 o4 o5 o6 o7 o8 o9 thr (nI T) ops res stp 0 0 (by omega) (by omega) H.size) (cwV 2 hts (ct_giV (fun w h9 => ct_tl h9) kw_573 kw_575 kw_15 kw_30 kw_576) rfl rfl rfl (by decide +kernel) ⟨Nat.le_of_ble_eq_true rfl, Nat.le_of_ble_eq_true rfl⟩) ⟨ct_rw_blind, va_recv hK hP (ci := 4) (q0 := 0) rfl rfl, ct_rw_pre hPc hK hDc⟩ rfl rfl hl.1 rfl (lv_room (Nat.le_of_ble_eq_true rfl)) d_M_extent_15 ⟨Nat.zero_le _, Nat.zero_le _⟩) hS (fun q _ h9 => hFc q h9) hFc (fun ans103 u tS H1 locs ht hvm hw102 hB hz1 hk1 hS => ?_)
    obtain ⟨hP1, -, hD1⟩ := hB
    rw [ht] at hP1
    obtain ⟨hP, hD⟩ := va_join (wr := [(o1, .inl (cI, 8, .inl (fun j => nI (sz j)))), (o2, .inl (cI, 8, .inl fl))]) (w1 := [(o0, .inr (4, [.int (nI 0), .ref o1, .int (nI T), .ref o2, .ref o3, .int ops, .ref o4, .int res, .ref o5, .ref o6, .int stp, .ref o7, .ref o8, .ref o9]))]) hP hD [0] [1, 2] rfl rfl (by decide) (by decide) hk1 hFc hP1 hD1
    generalize H1 = H at hP hS ⊢
    have hP : va_P (dC, dI) ct_cl [(o1, .inl (cI, 8, .inl (fun j => nI (sz j)))), (o2, .inl (cI, 8, .inl fl)), (o0, .inr (4, [.int (nI 0), .ref o1, .int (nI T), .ref o2, .ref o3, .int ops, .ref o4, .int res, .ref o5, .ref o6, .int stp, .ref o7, .ref o8, .ref o9]))] H := hP
    have hD : va_D A [(o1, .inl (cI, 8, .inl (fun j => nI (sz j)))), (o2, .inl (cI, 8, .inl fl)), (o0, .inr (4, [.int (nI 0), .ref o1, .int (nI T), .ref o2, .ref o3, .int ops, .ref o4, .int res, .ref o5, .ref o6, .int stp, .ref o7, .ref o8, .ref o9]))] := hD
    refine ct_val (y := nI 0) hw102 ?_
    refine lv_if_eq (tgt := 25) hx hb d_M_extent_18 (by decide) (fun _ => ?_) (fun hc9 => absurd (nI_0) hc9)
    obtain ⟨j, hj, hxj⟩ := ct_isn_of (by omega) hq
    rw [hxj] at hl
    refine lv_aload_n hx hb d_M_extent_25 rfl (lv_at hl 0 rfl) ?_
    refine lv_aload_n hx hb d_M_extent_26 rfl (lv_at hl 0 rfl) ?_
    refine va_get (D := (dC, dI)) (ci := 4) (v := .ref o2) (C := R_M) (T := T_M) (N := 14) hx hb hts (fun w h9 => ct_tl (ki_M w h9)) hown hK hP 2 rfl rfl 3 (by decide) (hts _ (ct_tl kw_522)) (fun _ h9 => h9) rfl d_M_extent_27 ?_
    refine lv_iload_n hx hb d_M_extent_30 rfl (lv_at hl 1 rfl) ?_
    refine ct_iald hx hb hK hP 1 0 rfl rfl (j := j) (by omega) (by omega) d_M_extent_31 ?_
    refine ct_val (y := nI (lab j)) (hfl j hj) ?_
    have hlj := hlab j hj
    refine va_calli (va_runV (As := [.int (nI (lab j))]) (rest := []) ⟨hx, hb, hml, hown, hts⟩ (c_M_product l dC dI cI o0 o1 o2 o3 o4 o5 o6 o7 o8 o9 (nI 0) (nI T) ops res stp sz (lab j) (by omega)) (cwV 1 hts (ct_giV (fun w h9 => ct_tl h9) kw_592 kw_594 kw_17 kw_30 kw_595) rfl rfl rfl (by decide +kernel) ⟨Nat.le_of_ble_eq_true rfl, Nat.le_of_ble_eq_true rfl⟩) ⟨ct_ro_blind, va_recv hK hP (ci := 4) (q0 := 2) rfl rfl, ct_ro_pre (hP.sub [2, 0] rfl) hK⟩ rfl rfl hl.1 rfl (lv_room (Nat.le_of_ble_eq_true rfl)) d_M_extent_32 ⟨Nat.le_of_ble_eq_true rfl, Nat.le_of_ble_eq_true rfl⟩) hS (fun q _ h9 => h9.elim) (fun q h9 => h9.elim) (fun ans104 uS tS H locs ht hvm hwans104 hB hz1 hk1 hS => ?_)
    have hP := ct_keep hP hk1
    refine ct_val (y := nI (ct_pr sz (lab j).testBit 8)) (hwans104) ?_
    have hP9 := hP.sub [2, 0, 1] rfl
    exact W.iret (v := (nI (ct_pr sz (lab j).testBit 8))) hx hb hr (fun tS ht hW => ⟨⟨(nI (ct_pr sz (lab j).testBit 8)), 0, rfl, Or.inr ⟨hq, rfl, j, hj, hxj, rfl⟩, by rw [ht]; exact hP9, va_K.moved hW.alike hK, hD.sub [2, 0, 1] (by decide) rfl⟩, hS.F ht⟩) hS.2.2 d_M_extent_35
  · rw [if_neg hq]
    refine lv_if_ne (tgt := 13) hx hb d_M_extent_6 (by decide) (fun hc9 => absurd (nI_0) hc9) (fun _ => ?_)
    refine lv_iconst (v := (nI 1)) hx hb d_M_extent_9 (by decide) ?_
    refine lv_goto (tgt := 14) hx hb d_M_extent_10 (by decide) ?_
    refine lv_iconst (v := (nI 0)) hx hb d_M_extent_14 (by decide) ?_
    have hPc := hP.sub (ws' := [(o0, .inr (4, [.int thr, .ref o1, .int (nI T), .ref o2, .ref o3, .int ops, .ref o4, .int res, .ref o5, .ref o6, .int stp, .ref o7, .ref o8, .ref o9]))]) [0] rfl
    have hDc := hD.sub (ws' := [(o0, .inr (4, [.int thr, .ref o1, .int (nI T), .ref o2, .ref o3, .int ops, .ref o4, .int res, .ref o5, .ref o6, .int stp, .ref o7, .ref o8, .ref o9]))]) [0] (by decide) rfl
    have hFc := va_free (wc := [(o0, .inr (4, [.int thr, .ref o1, .int (nI T), .ref o2, .ref o3, .int ops, .ref o4, .int res, .ref o5, .ref o6, .int stp, .ref o7, .ref o8, .ref o9]))]) hD hS hA [0] rfl
    refine va_calli (va_runV (As := [.int (nI 1), .int (nI 0)]) (rest := []) ⟨hx, hb, hml, hown, hts⟩ (c_M_refuse l dC dI cI o0 o1 o2 o3 o4 o5 o6 o7 o8 o9 thr (nI T) ops res stp 1 0 (by omega) (by omega) H.size) (cwV 2 hts (ct_giV (fun w h9 => ct_tl h9) kw_573 kw_575 kw_15 kw_30 kw_576) rfl rfl rfl (by decide +kernel) ⟨Nat.le_of_ble_eq_true rfl, Nat.le_of_ble_eq_true rfl⟩) ⟨ct_rw_blind, va_recv hK hP (ci := 4) (q0 := 0) rfl rfl, ct_rw_pre hPc hK hDc⟩ rfl rfl hl.1 rfl (lv_room (Nat.le_of_ble_eq_true rfl)) d_M_extent_15 ⟨Nat.zero_le _, Nat.zero_le _⟩) hS (fun q _ h9 => hFc q h9) hFc (fun ans103 u tS H1 locs ht hvm hw102 hB hz1 hk1 hS => ?_)
    obtain ⟨hP1, -, hD1⟩ := hB
    rw [ht] at hP1
    obtain ⟨hP, hD⟩ := va_join (wr := [(o1, .inl (cI, 8, .inl (fun j => nI (sz j)))), (o2, .inl (cI, 8, .inl fl))]) (w1 := [(o0, .inr (4, [.int (nI 1), .ref o1, .int (nI T), .ref o2, .ref o3, .int ops, .ref o4, .int res, .ref o5, .ref o6, .int stp, .ref o7, .ref o8, .ref o9]))]) hP hD [0] [1, 2] rfl rfl (by decide) (by decide) hk1 hFc hP1 hD1
    generalize H1 = H at hP hS ⊢
    have hP : va_P (dC, dI) ct_cl [(o1, .inl (cI, 8, .inl (fun j => nI (sz j)))), (o2, .inl (cI, 8, .inl fl)), (o0, .inr (4, [.int (nI 1), .ref o1, .int (nI T), .ref o2, .ref o3, .int ops, .ref o4, .int res, .ref o5, .ref o6, .int stp, .ref o7, .ref o8, .ref o9]))] H := hP
    have hD : va_D A [(o1, .inl (cI, 8, .inl (fun j => nI (sz j)))), (o2, .inl (cI, 8, .inl fl)), (o0, .inr (4, [.int (nI 1), .ref o1, .int (nI T), .ref o2, .ref o3, .int ops, .ref o4, .int res, .ref o5, .ref o6, .int stp, .ref o7, .ref o8, .ref o9]))] := hD
    refine ct_val (y := nI 1) hw102 ?_
    refine lv_if_eq (tgt := 25) hx hb d_M_extent_18 (by decide) (fun hc9 => absurd hc9 (nI_ne0 (by omega) (by omega))) (fun _ => ?_)
    refine lv_iconst (v := (nI 0)) hx hb d_M_extent_21 (by decide) ?_
    refine lv_goto (tgt := 35) hx hb d_M_extent_22 (by decide) ?_
    have hP9 := hP.sub [2, 0, 1] rfl
    exact W.iret (v := (nI 0)) hx hb hr (fun tS ht hW => ⟨⟨(nI 0), 1, rfl, Or.inl ⟨by simpa using hq, rfl⟩, by rw [ht]; exact hP9, va_K.moved hW.alike hK, hD.sub [2, 0, 1] (by decide) rfl⟩, hS.F ht⟩) hS.2.2 d_M_extent_35
set_option maxHeartbeats 4000000 in
set_option maxRecDepth 100000 in
theorem c_M_clear (l : Launch) (dC : Nat → ClassId) (dI : Nat → Nat → Nat) (cI : ClassId) (o0 o1 o2 o3 o4 o5 o6 o7 o8 o9 : Nat) (thr tab ops res stp : Int32) (sz0 : Nat) : Met l y_M_clear w_M_clear ({ frames := 0, cells := 0, slots := 0, locals := 0 }) (va_Pc [.ref o0] (ct_rw (dC, dI) ct_cl [(o0, .inr (4, [.int thr, .ref o1, .int tab, .ref o2, .ref o3, .int ops, .ref o4, .int res, .ref o5, .ref o6, .int stp, .ref o7, .ref o8, .ref o9]))] [(cI, .int)] sz0)) (va_Qv (fun (u : Unit) => True) (fun (u : Unit) t => ct_at (dC, dI) ct_cl [(cI, .int)] (va_A [(o0, .inr (4, [.int thr, .ref o1, .int tab, .ref o2, .ref o3, .int ops, .ref o4, .int res, .ref o5, .ref o6, .int stp, .ref o7, .ref o8, .ref o9]))] sz0) [(o0, .inr (4, [.int (nI 0), .ref o1, .int tab, .ref o2, .ref o3, .int (nI 0), .ref o4, .int (nI 0), .ref o5, .ref o6, .int stp, .ref o7, .ref o8, .ref o9]))] t) (va_A [(o0, .inr (4, [.int thr, .ref o1, .int tab, .ref o2, .ref o3, .int ops, .ref o4, .int res, .ref o5, .ref o6, .int stp, .ref o7, .ref o8, .ref o9]))] sz0)) 0 0 (va_A [(o0, .inr (4, [.int thr, .ref o1, .int tab, .ref o2, .ref o3, .int ops, .ref o4, .int res, .ref o5, .ref o6, .int stp, .ref o7, .ref o8, .ref o9]))] sz0) := by
  refine Met.ofW (cc := b_M_clear) (maxL := 1) (ret := none) (by decide) rfl ?_
  intro p e s m args below meth c s₁ Bd hml hv
  obtain ⟨hargs, hsz, hP, hK, hD0⟩ := hv
  have hx := Bd.exec
  have hb := Bd.bytes
  have hr := Bd.returns
  have hts : ∀ w ∈ k_M_clear :: ct_tb, w.before args s = true := atoms_spec (ws := w_M_clear) Bd.pre
  have hown : s.vm.findClass R_M = some m.cls := findClass_of_methodNamed Bd.named
  have hlocks := Bd.notSynchronized
  subst hsz
  have hD := hD0.self (sz := s.heap.size)
  generalize hAe : va_A [(o0, .inr (4, [.int thr, .ref o1, .int tab, .ref o2, .ref o3, .int ops, .ref o4, .int res, .ref o5, .ref o6, .int stp, .ref o7, .ref o8, .ref o9]))] s.heap.size = A at hD ⊢
  have hA : ∀ q : Nat, s.heap.size ≤ q → A q := fun q h => by rw [← hAe]; exact Or.inr h
  have hS : va_S A s.heap s.heap [] := va_S.rf
  have hl := lv_entry ([.ref o0]) (n := 1) (Nat.le_of_ble_eq_true rfl)
  rw [show entryFrame m args 1 = entryFrame m (([.ref o0] : List Value)).toArray 1 by rw [hargs], lg_entry_eq]
  generalize (lg_sl ([.ref o0]) ++ List.replicate (1 - (lg_sl ([.ref o0])).length) Slot.unset).toArray = ls at hl ⊢
  have hl : lv_has ls 1 [(0, .ref o0)] := hl
  refine lv_aload_n hx hb d_M_clear_0 rfl (lv_at hl 0 rfl) ?_
  refine lv_iconst (v := (nI 0)) hx hb d_M_clear_1 (by decide) ?_
  refine va_put (D := (dC, dI)) (ci := 4) (v := .int (nI 0)) (ty := .int) (C := R_M) (T := T_M) (N := 14) hx hb hts (fun w h9 => ct_tl (ki_M w h9)) ty_M ok_M nm_M hown hK hP hD hS 0 rfl rfl 0 (by decide) (hts _ (ct_tl kw_519)) (fun _ h9 => h9) rfl (by decide +kernel) rfl rfl (Nat.le_of_ble_eq_true rfl) d_M_clear_2 (fun H locs hP hD hS => ?_)
  have hP : va_P (dC, dI) ct_cl [(o0, .inr (4, [.int (nI 0), .ref o1, .int tab, .ref o2, .ref o3, .int ops, .ref o4, .int res, .ref o5, .ref o6, .int stp, .ref o7, .ref o8, .ref o9]))] H := hP
  have hD : va_D A [(o0, .inr (4, [.int (nI 0), .ref o1, .int tab, .ref o2, .ref o3, .int ops, .ref o4, .int res, .ref o5, .ref o6, .int stp, .ref o7, .ref o8, .ref o9]))] := hD
  refine lv_aload_n hx hb d_M_clear_5 rfl (lv_at hl 0 rfl) ?_
  refine lv_iconst (v := (nI 0)) hx hb d_M_clear_6 (by decide) ?_
  refine va_put (D := (dC, dI)) (ci := 4) (v := .int (nI 0)) (ty := .int) (C := R_M) (T := T_M) (N := 14) hx hb hts (fun w h9 => ct_tl (ki_M w h9)) ty_M ok_M nm_M hown hK hP hD hS 0 rfl rfl 5 (by decide) (hts _ (ct_tl kw_524)) (fun _ h9 => h9) rfl (by decide +kernel) rfl rfl (Nat.le_of_ble_eq_true rfl) d_M_clear_7 (fun H locs hP hD hS => ?_)
  have hP : va_P (dC, dI) ct_cl [(o0, .inr (4, [.int (nI 0), .ref o1, .int tab, .ref o2, .ref o3, .int (nI 0), .ref o4, .int res, .ref o5, .ref o6, .int stp, .ref o7, .ref o8, .ref o9]))] H := hP
  have hD : va_D A [(o0, .inr (4, [.int (nI 0), .ref o1, .int tab, .ref o2, .ref o3, .int (nI 0), .ref o4, .int res, .ref o5, .ref o6, .int stp, .ref o7, .ref o8, .ref o9]))] := hD
  refine lv_aload_n hx hb d_M_clear_10 rfl (lv_at hl 0 rfl) ?_
  refine lv_iconst (v := (nI 0)) hx hb d_M_clear_11 (by decide) ?_
  refine va_put (D := (dC, dI)) (ci := 4) (v := .int (nI 0)) (ty := .int) (C := R_M) (T := T_M) (N := 14) hx hb hts (fun w h9 => ct_tl (ki_M w h9)) ty_M ok_M nm_M hown hK hP hD hS 0 rfl rfl 7 (by decide) (hts _ (ct_tl kw_526)) (fun _ h9 => h9) rfl (by decide +kernel) rfl rfl (Nat.le_of_ble_eq_true rfl) d_M_clear_12 (fun H locs hP hD hS => ?_)
  have hP : va_P (dC, dI) ct_cl [(o0, .inr (4, [.int (nI 0), .ref o1, .int tab, .ref o2, .ref o3, .int (nI 0), .ref o4, .int (nI 0), .ref o5, .ref o6, .int stp, .ref o7, .ref o8, .ref o9]))] H := hP
  have hD : va_D A [(o0, .inr (4, [.int (nI 0), .ref o1, .int tab, .ref o2, .ref o3, .int (nI 0), .ref o4, .int (nI 0), .ref o5, .ref o6, .int stp, .ref o7, .ref o8, .ref o9]))] := hD
  have hP9 := hP.sub [0] rfl
  exact W.vret hx hb hr (fun tS ht hW => ⟨⟨(), rfl, trivial, by rw [ht]; exact hP9, va_K.moved hW.alike hK, hD.sub [0] (by decide) rfl⟩, hS.F ht⟩) hS.2.2 d_M_clear_15
set_option maxHeartbeats 4000000 in
set_option maxRecDepth 100000 in
theorem c_M_about (l : Launch) (dC : Nat → ClassId) (dI : Nat → Nat → Nat) (cI : ClassId) (o0 o1 o2 o3 o4 o5 o6 o7 o8 o9 : Nat) (thr : Int32) (T K R : Nat) (stp : Int32) (hK6 : K ≤ 6) (x : Int32) (sz0 : Nat) : Met l y_M_about w_M_about ({ frames := 1, cells := 0, slots := 0, locals := 22 }) (va_Pc [.ref o0, .int x] (ct_rw (dC, dI) ct_cl [(o0, .inr (4, [.int thr, .ref o1, .int (nI T), .ref o2, .ref o3, .int (nI K), .ref o4, .int (nI R), .ref o5, .ref o6, .int stp, .ref o7, .ref o8, .ref o9]))] [(cI, .int)] sz0)) (va_Qi (fun (r : Int32) (u : Nat) => (ct_isn 4 x = false ∧ u = 1) ∨ (ct_isn 4 x = true ∧ u = 0 ∧ ∃ j : Nat, j < 4 ∧ x = nI j ∧ r = nI (if j = 0 then T else if j = 1 then K else if j = 2 then R else K - 1))) (fun (u : Nat) t => ct_at (dC, dI) ct_cl [(cI, .int)] (va_A [(o0, .inr (4, [.int thr, .ref o1, .int (nI T), .ref o2, .ref o3, .int (nI K), .ref o4, .int (nI R), .ref o5, .ref o6, .int stp, .ref o7, .ref o8, .ref o9]))] sz0) [(o0, .inr (4, [.int (nI u), .ref o1, .int (nI T), .ref o2, .ref o3, .int (nI K), .ref o4, .int (nI R), .ref o5, .ref o6, .int stp, .ref o7, .ref o8, .ref o9]))] t) (va_A [(o0, .inr (4, [.int thr, .ref o1, .int (nI T), .ref o2, .ref o3, .int (nI K), .ref o4, .int (nI R), .ref o5, .ref o6, .int stp, .ref o7, .ref o8, .ref o9]))] sz0)) 0 0 (va_A [(o0, .inr (4, [.int thr, .ref o1, .int (nI T), .ref o2, .ref o3, .int (nI K), .ref o4, .int (nI R), .ref o5, .ref o6, .int stp, .ref o7, .ref o8, .ref o9]))] sz0) := by
  refine Met.ofW (cc := b_M_about) (maxL := 2) (ret := (some .int)) (by decide) rfl ?_
  intro p e s m args below meth c s₁ Bd hml hv
  obtain ⟨hargs, hsz, hP, hK, hD0⟩ := hv
  have hx := Bd.exec
  have hb := Bd.bytes
  have hr := Bd.returns
  have hts : ∀ w ∈ k_M_about :: ct_tb, w.before args s = true := atoms_spec (ws := w_M_about) Bd.pre
  have hown : s.vm.findClass R_M = some m.cls := findClass_of_methodNamed Bd.named
  have hlocks := Bd.notSynchronized
  subst hsz
  have hD := hD0.self (sz := s.heap.size)
  generalize hAe : va_A [(o0, .inr (4, [.int thr, .ref o1, .int (nI T), .ref o2, .ref o3, .int (nI K), .ref o4, .int (nI R), .ref o5, .ref o6, .int stp, .ref o7, .ref o8, .ref o9]))] s.heap.size = A at hD ⊢
  have hA : ∀ q : Nat, s.heap.size ≤ q → A q := fun q h => by rw [← hAe]; exact Or.inr h
  have hS : va_S A s.heap s.heap [] := va_S.rf
  have hl := lv_entry ([.ref o0, .int x]) (n := 2) (Nat.le_of_ble_eq_true rfl)
  rw [show entryFrame m args 2 = entryFrame m (([.ref o0, .int x] : List Value)).toArray 2 by rw [hargs], lg_entry_eq]
  generalize (lg_sl ([.ref o0, .int x]) ++ List.replicate (2 - (lg_sl ([.ref o0, .int x])).length) Slot.unset).toArray = ls at hl ⊢
  have hl : lv_has ls 2 [(0, .ref o0), (1, .int x)] := hl
  refine lv_aload_n hx hb d_M_about_0 rfl (lv_at hl 0 rfl) ?_
  refine lv_iload_n hx hb d_M_about_1 rfl (lv_at hl 1 rfl) ?_
  refine lv_iconst (v := (nI 0)) hx hb d_M_about_2 (by decide) ?_
  refine lv_iconst (v := (nI 3)) hx hb d_M_about_3 (by decide) ?_
  refine va_calli (va_runS (As := [.int x, .int (nI 0), .int (nI 3)]) (rest := [.ref o0]) ⟨hx, hb, hml, hown, hts⟩ (c_M_in l dC dI cI x (nI 0) (nI 3)) (va_cwS 3 hts (ct_giT (fun w h9 => ct_tl h9) kw_570 kw_571 kw_30 kw_572) rfl rfl rfl (by decide +kernel) ⟨Nat.le_of_ble_eq_true rfl, Nat.le_of_ble_eq_true rfl⟩) ⟨ct_ro_blind, ct_ro_pre (hP.sub [] rfl) hK⟩ rfl rfl hl.1 rfl (lv_room (Nat.le_of_ble_eq_true rfl)) d_M_about_4 ⟨Nat.le_of_ble_eq_true rfl, Nat.le_of_ble_eq_true rfl⟩) hS (fun q _ h9 => h9.elim) (fun q h9 => h9.elim) (fun ans1 uS tS H locs ht hvm hwans1 hB hz1 hk1 hS => ?_)
  have hP := ct_keep hP hk1
  refine ct_val (y := nI (if ct_in2 x (nI 0) (nI 3) = true then 1 else 0)) (hwans1) ?_
  refine ct_val (y := nI (if ct_isn 4 x = true then 1 else 0)) (by rw [ct_in2_4]) ?_
  by_cases hq : ct_isn 4 x = true
  · rw [if_pos hq]
    refine lv_if_ne (tgt := 14) hx hb d_M_about_7 (by decide) (fun _ => ?_) (fun hc9 => absurd hc9 (nI_ne0 (by omega) (by omega)))
    refine lv_iconst (v := (nI 0)) hx hb d_M_about_14 (by decide) ?_
    refine lv_iconst (v := (nI 0)) hx hb d_M_about_15 (by decide) ?_
    have hPc := hP.sub (ws' := [(o0, .inr (4, [.int thr, .ref o1, .int (nI T), .ref o2, .ref o3, .int (nI K), .ref o4, .int (nI R), .ref o5, .ref o6, .int stp, .ref o7, .ref o8, .ref o9]))]) [0] rfl
    have hDc := hD.sub (ws' := [(o0, .inr (4, [.int thr, .ref o1, .int (nI T), .ref o2, .ref o3, .int (nI K), .ref o4, .int (nI R), .ref o5, .ref o6, .int stp, .ref o7, .ref o8, .ref o9]))]) [0] (by decide) rfl
    have hFc := va_free (wc := [(o0, .inr (4, [.int thr, .ref o1, .int (nI T), .ref o2, .ref o3, .int (nI K), .ref o4, .int (nI R), .ref o5, .ref o6, .int stp, .ref o7, .ref o8, .ref o9]))]) hD hS hA [0] rfl
    refine va_calli (va_runV (As := [.int (nI 0), .int (nI 0)]) (rest := []) ⟨hx, hb, hml, hown, hts⟩ (c_M_refuse l dC dI cI o0 o1 o2 o3 o4 o5 o6 o7 o8 o9 thr (nI T) (nI K) (nI R) stp 0 0 (by omega) (by omega) H.size) (cwV 2 hts (ct_giV (fun w h9 => ct_tl h9) kw_573 kw_575 kw_15 kw_30 kw_576) rfl rfl rfl (by decide +kernel) ⟨Nat.le_of_ble_eq_true rfl, Nat.le_of_ble_eq_true rfl⟩) ⟨ct_rw_blind, va_recv hK hP (ci := 4) (q0 := 0) rfl rfl, ct_rw_pre hPc hK hDc⟩ rfl rfl hl.1 rfl (lv_room (Nat.le_of_ble_eq_true rfl)) d_M_about_16 ⟨Nat.zero_le _, Nat.zero_le _⟩) hS (fun q _ h9 => hFc q h9) hFc (fun ans103 u tS H1 locs ht hvm hw102 hB hz1 hk1 hS => ?_)
    obtain ⟨hP1, -, hD1⟩ := hB
    rw [ht] at hP1
    obtain ⟨hP, hD⟩ := va_join (wr := []) (w1 := [(o0, .inr (4, [.int (nI 0), .ref o1, .int (nI T), .ref o2, .ref o3, .int (nI K), .ref o4, .int (nI R), .ref o5, .ref o6, .int stp, .ref o7, .ref o8, .ref o9]))]) hP hD [0] [] rfl rfl (by decide) (by decide) hk1 hFc hP1 hD1
    generalize H1 = H at hP hS ⊢
    have hP : va_P (dC, dI) ct_cl [(o0, .inr (4, [.int (nI 0), .ref o1, .int (nI T), .ref o2, .ref o3, .int (nI K), .ref o4, .int (nI R), .ref o5, .ref o6, .int stp, .ref o7, .ref o8, .ref o9]))] H := hP
    have hD : va_D A [(o0, .inr (4, [.int (nI 0), .ref o1, .int (nI T), .ref o2, .ref o3, .int (nI K), .ref o4, .int (nI R), .ref o5, .ref o6, .int stp, .ref o7, .ref o8, .ref o9]))] := hD
    refine ct_val (y := nI 0) hw102 ?_
    refine lv_if_eq (tgt := 24) hx hb d_M_about_19 (by decide) (fun _ => ?_) (fun hc9 => absurd (nI_0) hc9)
    obtain ⟨j, hj, hxj⟩ := ct_isn_of (by omega) hq
    rw [hxj] at hl
    refine lv_iload_n hx hb d_M_about_24 rfl (lv_at hl 1 rfl) ?_
    rcases (show j = 0 ∨ j = 1 ∨ j = 2 ∨ j = 3 by omega) with rfl | rfl | rfl | rfl
    · refine lv_tableIn (x := nI 0) (off := 27) (tgt := 52) hx hb d_M_about_25 (by decide) (by decide) (by decide) (by decide) ?_
      refine lv_aload_n hx hb d_M_about_52 rfl (lv_at hl 0 rfl) ?_
      refine va_get (D := (dC, dI)) (ci := 4) (v := .int (nI T)) (C := R_M) (T := T_M) (N := 14) hx hb hts (fun w h9 => ct_tl (ki_M w h9)) hown hK hP 0 rfl rfl 2 (by decide) (hts _ (ct_tl kw_521)) (fun _ h9 => h9) rfl d_M_about_53 ?_
      have hP9 := hP.sub [0] rfl
      exact W.iret (v := (nI T)) hx hb hr (fun tS ht hW => ⟨⟨(nI T), 0, rfl, Or.inr ⟨hq, rfl, 0, by omega, hxj, rfl⟩, by rw [ht]; exact hP9, va_K.moved hW.alike hK, hD.sub [0] (by decide) rfl⟩, hS.F ht⟩) hS.2.2 d_M_about_56
    · refine lv_tableIn (x := nI 1) (off := 32) (tgt := 57) hx hb d_M_about_25 (by decide) (by decide) (by decide) (by decide) ?_
      refine lv_aload_n hx hb d_M_about_57 rfl (lv_at hl 0 rfl) ?_
      refine va_get (D := (dC, dI)) (ci := 4) (v := .int (nI K)) (C := R_M) (T := T_M) (N := 14) hx hb hts (fun w h9 => ct_tl (ki_M w h9)) hown hK hP 0 rfl rfl 5 (by decide) (hts _ (ct_tl kw_524)) (fun _ h9 => h9) rfl d_M_about_58 ?_
      have hP9 := hP.sub [0] rfl
      exact W.iret (v := (nI K)) hx hb hr (fun tS ht hW => ⟨⟨(nI K), 0, rfl, Or.inr ⟨hq, rfl, 1, by omega, hxj, rfl⟩, by rw [ht]; exact hP9, va_K.moved hW.alike hK, hD.sub [0] (by decide) rfl⟩, hS.F ht⟩) hS.2.2 d_M_about_61
    · refine lv_tableIn (x := nI 2) (off := 37) (tgt := 62) hx hb d_M_about_25 (by decide) (by decide) (by decide) (by decide) ?_
      refine lv_aload_n hx hb d_M_about_62 rfl (lv_at hl 0 rfl) ?_
      refine va_get (D := (dC, dI)) (ci := 4) (v := .int (nI R)) (C := R_M) (T := T_M) (N := 14) hx hb hts (fun w h9 => ct_tl (ki_M w h9)) hown hK hP 0 rfl rfl 7 (by decide) (hts _ (ct_tl kw_526)) (fun _ h9 => h9) rfl d_M_about_63 ?_
      have hP9 := hP.sub [0] rfl
      exact W.iret (v := (nI R)) hx hb hr (fun tS ht hW => ⟨⟨(nI R), 0, rfl, Or.inr ⟨hq, rfl, 2, by omega, hxj, rfl⟩, by rw [ht]; exact hP9, va_K.moved hW.alike hK, hD.sub [0] (by decide) rfl⟩, hS.F ht⟩) hS.2.2 d_M_about_66
    · refine lv_tableOut (x := nI 3) (tgt := 67) hx hb d_M_about_25 (Or.inr (by decide)) (by decide) ?_
      refine lv_aload_n hx hb d_M_about_67 rfl (lv_at hl 0 rfl) ?_
      refine va_get (D := (dC, dI)) (ci := 4) (v := .int (nI K)) (C := R_M) (T := T_M) (N := 14) hx hb hts (fun w h9 => ct_tl (ki_M w h9)) hown hK hP 0 rfl rfl 5 (by decide) (hts _ (ct_tl kw_524)) (fun _ h9 => h9) rfl d_M_about_68 ?_
      refine lv_iconst (v := (nI 2)) hx hb d_M_about_71 (by decide) ?_
      by_cases h9 : 2 ≤ K
      · refine lv_icmp_ge (tgt := 79) hx hb d_M_about_72 (by decide) (fun _ => ?_) (fun hc9 => absurd (nI_le h9 (by omega)) hc9)
        refine lv_aload_n hx hb d_M_about_79 rfl (lv_at hl 0 rfl) ?_
        refine va_get (D := (dC, dI)) (ci := 4) (v := .int (nI K)) (C := R_M) (T := T_M) (N := 14) hx hb hts (fun w h9 => ct_tl (ki_M w h9)) hown hK hP 0 rfl rfl 5 (by decide) (hts _ (ct_tl kw_524)) (fun _ h9 => h9) rfl d_M_about_80 ?_
        refine lv_iconst (v := (nI 1)) hx hb d_M_about_83 (by decide) ?_
        refine lv_isub hx hb d_M_about_84 ?_
        refine ct_val (y := nI (K - 1)) (pk_sub (by omega)) ?_
        have hP9 := hP.sub [0] rfl
        exact W.iret (v := (nI (K - 1))) hx hb hr (fun tS ht hW => ⟨⟨(nI (K - 1)), 0, rfl, Or.inr ⟨hq, rfl, 3, by omega, hxj, rfl⟩, by rw [ht]; exact hP9, va_K.moved hW.alike hK, hD.sub [0] (by decide) rfl⟩, hS.F ht⟩) hS.2.2 d_M_about_85
      · refine lv_icmp_ge (tgt := 79) hx hb d_M_about_72 (by decide) (fun hc9 => absurd hc9 (nI_ge (by omega) (by omega))) (fun _ => ?_)
        refine lv_iconst (v := (nI 0)) hx hb d_M_about_75 (by decide) ?_
        refine lv_goto (tgt := 85) hx hb d_M_about_76 (by decide) ?_
        refine ct_val (y := nI (K - 1)) (by rw [show K - 1 = 0 by omega]) ?_
        have hP9 := hP.sub [0] rfl
        exact W.iret (v := (nI (K - 1))) hx hb hr (fun tS ht hW => ⟨⟨(nI (K - 1)), 0, rfl, Or.inr ⟨hq, rfl, 3, by omega, hxj, rfl⟩, by rw [ht]; exact hP9, va_K.moved hW.alike hK, hD.sub [0] (by decide) rfl⟩, hS.F ht⟩) hS.2.2 d_M_about_85
  · rw [if_neg hq]
    refine lv_if_ne (tgt := 14) hx hb d_M_about_7 (by decide) (fun hc9 => absurd (nI_0) hc9) (fun _ => ?_)
    refine lv_iconst (v := (nI 1)) hx hb d_M_about_10 (by decide) ?_
    refine lv_goto (tgt := 15) hx hb d_M_about_11 (by decide) ?_
    refine lv_iconst (v := (nI 0)) hx hb d_M_about_15 (by decide) ?_
    have hPc := hP.sub (ws' := [(o0, .inr (4, [.int thr, .ref o1, .int (nI T), .ref o2, .ref o3, .int (nI K), .ref o4, .int (nI R), .ref o5, .ref o6, .int stp, .ref o7, .ref o8, .ref o9]))]) [0] rfl
    have hDc := hD.sub (ws' := [(o0, .inr (4, [.int thr, .ref o1, .int (nI T), .ref o2, .ref o3, .int (nI K), .ref o4, .int (nI R), .ref o5, .ref o6, .int stp, .ref o7, .ref o8, .ref o9]))]) [0] (by decide) rfl
    have hFc := va_free (wc := [(o0, .inr (4, [.int thr, .ref o1, .int (nI T), .ref o2, .ref o3, .int (nI K), .ref o4, .int (nI R), .ref o5, .ref o6, .int stp, .ref o7, .ref o8, .ref o9]))]) hD hS hA [0] rfl
    refine va_calli (va_runV (As := [.int (nI 1), .int (nI 0)]) (rest := []) ⟨hx, hb, hml, hown, hts⟩ (c_M_refuse l dC dI cI o0 o1 o2 o3 o4 o5 o6 o7 o8 o9 thr (nI T) (nI K) (nI R) stp 1 0 (by omega) (by omega) H.size) (cwV 2 hts (ct_giV (fun w h9 => ct_tl h9) kw_573 kw_575 kw_15 kw_30 kw_576) rfl rfl rfl (by decide +kernel) ⟨Nat.le_of_ble_eq_true rfl, Nat.le_of_ble_eq_true rfl⟩) ⟨ct_rw_blind, va_recv hK hP (ci := 4) (q0 := 0) rfl rfl, ct_rw_pre hPc hK hDc⟩ rfl rfl hl.1 rfl (lv_room (Nat.le_of_ble_eq_true rfl)) d_M_about_16 ⟨Nat.zero_le _, Nat.zero_le _⟩) hS (fun q _ h9 => hFc q h9) hFc (fun ans103 u tS H1 locs ht hvm hw102 hB hz1 hk1 hS => ?_)
    obtain ⟨hP1, -, hD1⟩ := hB
    rw [ht] at hP1
    obtain ⟨hP, hD⟩ := va_join (wr := []) (w1 := [(o0, .inr (4, [.int (nI 1), .ref o1, .int (nI T), .ref o2, .ref o3, .int (nI K), .ref o4, .int (nI R), .ref o5, .ref o6, .int stp, .ref o7, .ref o8, .ref o9]))]) hP hD [0] [] rfl rfl (by decide) (by decide) hk1 hFc hP1 hD1
    generalize H1 = H at hP hS ⊢
    have hP : va_P (dC, dI) ct_cl [(o0, .inr (4, [.int (nI 1), .ref o1, .int (nI T), .ref o2, .ref o3, .int (nI K), .ref o4, .int (nI R), .ref o5, .ref o6, .int stp, .ref o7, .ref o8, .ref o9]))] H := hP
    have hD : va_D A [(o0, .inr (4, [.int (nI 1), .ref o1, .int (nI T), .ref o2, .ref o3, .int (nI K), .ref o4, .int (nI R), .ref o5, .ref o6, .int stp, .ref o7, .ref o8, .ref o9]))] := hD
    refine ct_val (y := nI 1) hw102 ?_
    refine lv_if_eq (tgt := 24) hx hb d_M_about_19 (by decide) (fun hc9 => absurd hc9 (nI_ne0 (by omega) (by omega))) (fun _ => ?_)
    refine lv_iconst (v := (nI 0)) hx hb d_M_about_22 (by decide) ?_
    have hP9 := hP.sub [0] rfl
    exact W.iret (v := (nI 0)) hx hb hr (fun tS ht hW => ⟨⟨(nI 0), 1, rfl, Or.inl ⟨by simpa using hq, rfl⟩, by rw [ht]; exact hP9, va_K.moved hW.alike hK, hD.sub [0] (by decide) rfl⟩, hS.F ht⟩) hS.2.2 d_M_about_23
