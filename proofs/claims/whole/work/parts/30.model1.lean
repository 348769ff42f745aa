theorem d_M_thrown_0 : decode b_M_thrown 0 = .ok (.aload_n 0, 1) := by decide +kernel
theorem d_M_thrown_1 : decode b_M_thrown 1 = .ok (.getfield 37, 3) := by decide +kernel
theorem d_M_thrown_4 : decode b_M_thrown 4 = .ok (.ireturn, 1) := by decide +kernel
theorem d_M_refuse_0 : decode b_M_refuse 0 = .ok (.aload_n 0, 1) := by decide +kernel
theorem d_M_refuse_1 : decode b_M_refuse 1 = .ok (.iload_n 1, 1) := by decide +kernel
theorem d_M_refuse_2 : decode b_M_refuse 2 = .ok (.ifCond .eq 7, 3) := by decide +kernel
theorem d_M_refuse_5 : decode b_M_refuse 5 = .ok (.iconst 1, 1) := by decide +kernel
theorem d_M_refuse_6 : decode b_M_refuse 6 = .ok (.goto 12, 3) := by decide +kernel
theorem d_M_refuse_9 : decode b_M_refuse 9 = .ok (.iload_n 2, 1) := by decide +kernel
theorem d_M_refuse_10 : decode b_M_refuse 10 = .ok (.ifCond .eq 7, 3) := by decide +kernel
theorem d_M_refuse_13 : decode b_M_refuse 13 = .ok (.iconst 2, 1) := by decide +kernel
theorem d_M_refuse_14 : decode b_M_refuse 14 = .ok (.goto 4, 3) := by decide +kernel
theorem d_M_refuse_17 : decode b_M_refuse 17 = .ok (.iconst 0, 1) := by decide +kernel
theorem d_M_refuse_18 : decode b_M_refuse 18 = .ok (.putfield 37, 3) := by decide +kernel
theorem d_M_refuse_21 : decode b_M_refuse 21 = .ok (.aload_n 0, 1) := by decide +kernel
theorem d_M_refuse_22 : decode b_M_refuse 22 = .ok (.getfield 37, 3) := by decide +kernel
theorem d_M_refuse_25 : decode b_M_refuse 25 = .ok (.ifCond .le 7, 3) := by decide +kernel
theorem d_M_refuse_28 : decode b_M_refuse 28 = .ok (.iconst 1, 1) := by decide +kernel
theorem d_M_refuse_29 : decode b_M_refuse 29 = .ok (.goto 4, 3) := by decide +kernel
theorem d_M_refuse_32 : decode b_M_refuse 32 = .ok (.iconst 0, 1) := by decide +kernel
theorem d_M_refuse_33 : decode b_M_refuse 33 = .ok (.ireturn, 1) := by decide +kernel
theorem d_M_in_0 : decode b_M_in 0 = .ok (.iload_n 0, 1) := by decide +kernel
theorem d_M_in_1 : decode b_M_in 1 = .ok (.iload_n 1, 1) := by decide +kernel
theorem d_M_in_2 : decode b_M_in 2 = .ok (.if_icmp .lt 12, 3) := by decide +kernel
theorem d_M_in_5 : decode b_M_in 5 = .ok (.iload_n 0, 1) := by decide +kernel
theorem d_M_in_6 : decode b_M_in 6 = .ok (.iload_n 2, 1) := by decide +kernel
theorem d_M_in_7 : decode b_M_in 7 = .ok (.if_icmp .gt 7, 3) := by decide +kernel
theorem d_M_in_10 : decode b_M_in 10 = .ok (.iconst 1, 1) := by decide +kernel
theorem d_M_in_11 : decode b_M_in 11 = .ok (.goto 4, 3) := by decide +kernel
theorem d_M_in_14 : decode b_M_in 14 = .ok (.iconst 0, 1) := by decide +kernel
theorem d_M_in_15 : decode b_M_in 15 = .ok (.ireturn, 1) := by decide +kernel
theorem d_M_product_0 : decode b_M_product 0 = .ok (.iconst 1, 1) := by decide +kernel
theorem d_M_product_1 : decode b_M_product 1 = .ok (.istore_n 2, 1) := by decide +kernel
theorem d_M_product_2 : decode b_M_product 2 = .ok (.iconst 0, 1) := by decide +kernel
theorem d_M_product_3 : decode b_M_product 3 = .ok (.istore_n 3, 1) := by decide +kernel
theorem d_M_product_4 : decode b_M_product 4 = .ok (.iload_n 3, 1) := by decide +kernel
theorem d_M_product_5 : decode b_M_product 5 = .ok (.bipush 8, 2) := by decide +kernel
theorem d_M_product_7 : decode b_M_product 7 = .ok (.if_icmp .ge 31, 3) := by decide +kernel
theorem d_M_product_10 : decode b_M_product 10 = .ok (.iload_n 1, 1) := by decide +kernel
theorem d_M_product_11 : decode b_M_product 11 = .ok (.iload_n 3, 1) := by decide +kernel
theorem d_M_product_12 : decode b_M_product 12 = .ok (.ishr, 1) := by decide +kernel
theorem d_M_product_13 : decode b_M_product 13 = .ok (.iconst 1, 1) := by decide +kernel
theorem d_M_product_14 : decode b_M_product 14 = .ok (.iand, 1) := by decide +kernel
theorem d_M_product_15 : decode b_M_product 15 = .ok (.iconst 1, 1) := by decide +kernel
theorem d_M_product_16 : decode b_M_product 16 = .ok (.if_icmp .ne 14, 3) := by decide +kernel
theorem d_M_product_19 : decode b_M_product 19 = .ok (.iload_n 2, 1) := by decide +kernel
theorem d_M_product_20 : decode b_M_product 20 = .ok (.aload_n 0, 1) := by decide +kernel
theorem d_M_product_21 : decode b_M_product 21 = .ok (.getfield 7, 3) := by decide +kernel
theorem d_M_product_24 : decode b_M_product 24 = .ok (.iload_n 3, 1) := by decide +kernel
theorem d_M_product_25 : decode b_M_product 25 = .ok (.iaload, 1) := by decide +kernel
theorem d_M_product_26 : decode b_M_product 26 = .ok (.imul, 1) := by decide +kernel
theorem d_M_product_27 : decode b_M_product 27 = .ok (.goto 4, 3) := by decide +kernel
theorem d_M_product_30 : decode b_M_product 30 = .ok (.iload_n 2, 1) := by decide +kernel
theorem d_M_product_31 : decode b_M_product 31 = .ok (.istore_n 2, 1) := by decide +kernel
theorem d_M_product_32 : decode b_M_product 32 = .ok (.iinc 3 1, 3) := by decide +kernel
theorem d_M_product_35 : decode b_M_product 35 = .ok (.goto (-31), 3) := by decide +kernel
theorem d_M_product_38 : decode b_M_product 38 = .ok (.iload_n 2, 1) := by decide +kernel
theorem d_M_product_39 : decode b_M_product 39 = .ok (.ireturn, 1) := by decide +kernel
theorem d_M_isTable_0 : decode b_M_isTable 0 = .ok (.iload_n 1, 1) := by decide +kernel
theorem d_M_isTable_1 : decode b_M_isTable 1 = .ok (.iconst 0, 1) := by decide +kernel
theorem d_M_isTable_2 : decode b_M_isTable 2 = .ok (.aload_n 0, 1) := by decide +kernel
theorem d_M_isTable_3 : decode b_M_isTable 3 = .ok (.getfield 45, 3) := by decide +kernel
theorem d_M_isTable_6 : decode b_M_isTable 6 = .ok (.iconst 1, 1) := by decide +kernel
theorem d_M_isTable_7 : decode b_M_isTable 7 = .ok (.isub, 1) := by decide +kernel
theorem d_M_isTable_8 : decode b_M_isTable 8 = .ok (.invokestatic 41, 3) := by decide +kernel
theorem d_M_isTable_11 : decode b_M_isTable 11 = .ok (.ireturn, 1) := by decide +kernel
theorem d_M_has_0 : decode b_M_has 0 = .ok (.iconst 0, 1) := by decide +kernel
theorem d_M_has_1 : decode b_M_has 1 = .ok (.istore_n 2, 1) := by decide +kernel
theorem d_M_has_2 : decode b_M_has 2 = .ok (.iconst 0, 1) := by decide +kernel
theorem d_M_has_3 : decode b_M_has 3 = .ok (.istore_n 3, 1) := by decide +kernel
theorem d_M_has_4 : decode b_M_has 4 = .ok (.iload_n 3, 1) := by decide +kernel
theorem d_M_has_5 : decode b_M_has 5 = .ok (.aload_n 0, 1) := by decide +kernel
theorem d_M_has_6 : decode b_M_has 6 = .ok (.getfield 64, 3) := by decide +kernel
theorem d_M_has_9 : decode b_M_has 9 = .ok (.if_icmp .ge 36, 3) := by decide +kernel
theorem d_M_has_12 : decode b_M_has 12 = .ok (.iload_n 1, 1) := by decide +kernel
theorem d_M_has_13 : decode b_M_has 13 = .ok (.iload_n 3, 1) := by decide +kernel
theorem d_M_has_14 : decode b_M_has 14 = .ok (.ishr, 1) := by decide +kernel
theorem d_M_has_15 : decode b_M_has 15 = .ok (.iconst 1, 1) := by decide +kernel
theorem d_M_has_16 : decode b_M_has 16 = .ok (.iand, 1) := by decide +kernel
theorem d_M_has_17 : decode b_M_has 17 = .ok (.iconst 1, 1) := by decide +kernel
theorem d_M_has_18 : decode b_M_has 18 = .ok (.if_icmp .ne 19, 3) := by decide +kernel
theorem d_M_has_21 : decode b_M_has 21 = .ok (.iload_n 2, 1) := by decide +kernel
theorem d_M_has_22 : decode b_M_has 22 = .ok (.aload_n 0, 1) := by decide +kernel
theorem d_M_has_23 : decode b_M_has 23 = .ok (.getfield 13, 3) := by decide +kernel
theorem d_M_has_26 : decode b_M_has 26 = .ok (.aload_n 0, 1) := by decide +kernel
theorem d_M_has_27 : decode b_M_has 27 = .ok (.getfield 19, 3) := by decide +kernel
theorem d_M_has_30 : decode b_M_has 30 = .ok (.iload_n 3, 1) := by decide +kernel
theorem d_M_has_31 : decode b_M_has 31 = .ok (.iaload, 1) := by decide +kernel
theorem d_M_has_32 : decode b_M_has 32 = .ok (.iaload, 1) := by decide +kernel
theorem d_M_has_33 : decode b_M_has 33 = .ok (.ior, 1) := by decide +kernel
theorem d_M_has_34 : decode b_M_has 34 = .ok (.goto 4, 3) := by decide +kernel
theorem d_M_has_37 : decode b_M_has 37 = .ok (.iload_n 2, 1) := by decide +kernel
theorem d_M_has_38 : decode b_M_has 38 = .ok (.istore_n 2, 1) := by decide +kernel
theorem d_M_has_39 : decode b_M_has 39 = .ok (.iinc 3 1, 3) := by decide +kernel
theorem d_M_has_42 : decode b_M_has 42 = .ok (.goto (-38), 3) := by decide +kernel
theorem d_M_has_45 : decode b_M_has 45 = .ok (.iload_n 2, 1) := by decide +kernel
theorem d_M_has_46 : decode b_M_has 46 = .ok (.ireturn, 1) := by decide +kernel
theorem d_M_leaves_0 : decode b_M_leaves 0 = .ok (.iload_n 1, 1) := by decide +kernel
theorem d_M_leaves_1 : decode b_M_leaves 1 = .ok (.iload_n 1, 1) := by decide +kernel
theorem d_M_leaves_2 : decode b_M_leaves 2 = .ok (.iconst 1, 1) := by decide +kernel
theorem d_M_leaves_3 : decode b_M_leaves 3 = .ok (.isub, 1) := by decide +kernel
theorem d_M_leaves_4 : decode b_M_leaves 4 = .ok (.iand, 1) := by decide +kernel
theorem d_M_leaves_5 : decode b_M_leaves 5 = .ok (.ifCond .ne 7, 3) := by decide +kernel
theorem d_M_leaves_8 : decode b_M_leaves 8 = .ok (.iconst 1, 1) := by decide +kernel
theorem d_M_leaves_9 : decode b_M_leaves 9 = .ok (.goto 4, 3) := by decide +kernel
theorem d_M_leaves_12 : decode b_M_leaves 12 = .ok (.iconst 0, 1) := by decide +kernel
theorem d_M_leaves_13 : decode b_M_leaves 13 = .ok (.istore_n 2, 1) := by decide +kernel
theorem d_M_leaves_14 : decode b_M_leaves 14 = .ok (.aload_n 0, 1) := by decide +kernel
theorem d_M_leaves_15 : decode b_M_leaves 15 = .ok (.iconst 1, 1) := by decide +kernel
theorem d_M_leaves_16 : decode b_M_leaves 16 = .ok (.aload_n 0, 1) := by decide +kernel
theorem d_M_leaves_17 : decode b_M_leaves 17 = .ok (.getfield 64, 3) := by decide +kernel
theorem d_M_leaves_20 : decode b_M_leaves 20 = .ok (.ishl, 1) := by decide +kernel
theorem d_M_leaves_21 : decode b_M_leaves 21 = .ok (.iconst 1, 1) := by decide +kernel
theorem d_M_leaves_22 : decode b_M_leaves 22 = .ok (.isub, 1) := by decide +kernel
theorem d_M_leaves_23 : decode b_M_leaves 23 = .ok (.iload_n 1, 1) := by decide +kernel
theorem d_M_leaves_24 : decode b_M_leaves 24 = .ok (.iconst (-1), 1) := by decide +kernel
theorem d_M_leaves_25 : decode b_M_leaves 25 = .ok (.ixor, 1) := by decide +kernel
theorem d_M_leaves_26 : decode b_M_leaves 26 = .ok (.iand, 1) := by decide +kernel
theorem d_M_leaves_27 : decode b_M_leaves 27 = .ok (.invokevirtual 70, 3) := by decide +kernel
theorem d_M_leaves_30 : decode b_M_leaves 30 = .ok (.aload_n 0, 1) := by decide +kernel
theorem d_M_leaves_31 : decode b_M_leaves 31 = .ok (.getfield 67, 3) := by decide +kernel
theorem d_M_leaves_34 : decode b_M_leaves 34 = .ok (.ior, 1) := by decide +kernel
theorem d_M_leaves_35 : decode b_M_leaves 35 = .ok (.istore_n 3, 1) := by decide +kernel
theorem d_M_leaves_36 : decode b_M_leaves 36 = .ok (.iload_n 2, 1) := by decide +kernel
theorem d_M_leaves_37 : decode b_M_leaves 37 = .ok (.ifCond .eq 11, 3) := by decide +kernel
theorem d_M_leaves_40 : decode b_M_leaves 40 = .ok (.aload_n 0, 1) := by decide +kernel
theorem d_M_leaves_41 : decode b_M_leaves 41 = .ok (.iload_n 1, 1) := by decide +kernel
theorem d_M_leaves_42 : decode b_M_leaves 42 = .ok (.invokevirtual 70, 3) := by decide +kernel
theorem d_M_leaves_45 : decode b_M_leaves 45 = .ok (.goto 10, 3) := by decide +kernel
theorem d_M_leaves_48 : decode b_M_leaves 48 = .ok (.aload_n 0, 1) := by decide +kernel
theorem d_M_leaves_49 : decode b_M_leaves 49 = .ok (.iload_n 1, 1) := by decide +kernel
theorem d_M_leaves_50 : decode b_M_leaves 50 = .ok (.invokevirtual 70, 3) := by decide +kernel
theorem d_M_leaves_53 : decode b_M_leaves 53 = .ok (.iload_n 3, 1) := by decide +kernel
theorem d_M_leaves_54 : decode b_M_leaves 54 = .ok (.iand, 1) := by decide +kernel
theorem d_M_leaves_55 : decode b_M_leaves 55 = .ok (.ireturn, 1) := by decide +kernel
theorem d_M_joins_0 : decode b_M_joins 0 = .ok (.aload_n 0, 1) := by decide +kernel
theorem d_M_joins_1 : decode b_M_joins 1 = .ok (.aload_n 0, 1) := by decide +kernel
theorem d_M_joins_2 : decode b_M_joins 2 = .ok (.iload_n 1, 1) := by decide +kernel
theorem d_M_joins_3 : decode b_M_joins 3 = .ok (.invokevirtual 73, 3) := by decide +kernel
theorem d_M_joins_6 : decode b_M_joins 6 = .ok (.aload_n 0, 1) := by decide +kernel
theorem d_M_joins_7 : decode b_M_joins 7 = .ok (.iload_n 2, 1) := by decide +kernel
theorem d_M_joins_8 : decode b_M_joins 8 = .ok (.invokevirtual 73, 3) := by decide +kernel
theorem d_M_joins_11 : decode b_M_joins 11 = .ok (.ior, 1) := by decide +kernel
theorem d_M_joins_12 : decode b_M_joins 12 = .ok (.invokevirtual 60, 3) := by decide +kernel
theorem d_M_joins_15 : decode b_M_joins 15 = .ok (.ireturn, 1) := by decide +kernel
theorem d_M_at_0 : decode b_M_at 0 = .ok (.iconst 0, 1) := by decide +kernel
theorem d_M_at_1 : decode b_M_at 1 = .ok (.istore_n 2, 1) := by decide +kernel
theorem d_M_at_2 : decode b_M_at 2 = .ok (.iconst 0, 1) := by decide +kernel
theorem d_M_at_3 : decode b_M_at 3 = .ok (.istore_n 3, 1) := by decide +kernel
theorem d_M_at_4 : decode b_M_at 4 = .ok (.iload_n 3, 1) := by decide +kernel
theorem d_M_at_5 : decode b_M_at 5 = .ok (.bipush 8, 2) := by decide +kernel
theorem d_M_at_7 : decode b_M_at 7 = .ok (.if_icmp .ge 38, 3) := by decide +kernel
theorem d_M_at_10 : decode b_M_at 10 = .ok (.iload_n 1, 1) := by decide +kernel
theorem d_M_at_11 : decode b_M_at 11 = .ok (.iload_n 3, 1) := by decide +kernel
theorem d_M_at_12 : decode b_M_at 12 = .ok (.ishr, 1) := by decide +kernel
theorem d_M_at_13 : decode b_M_at 13 = .ok (.iconst 1, 1) := by decide +kernel
theorem d_M_at_14 : decode b_M_at 14 = .ok (.iand, 1) := by decide +kernel
theorem d_M_at_15 : decode b_M_at 15 = .ok (.iconst 1, 1) := by decide +kernel
theorem d_M_at_16 : decode b_M_at 16 = .ok (.if_icmp .ne 21, 3) := by decide +kernel
theorem d_M_at_19 : decode b_M_at 19 = .ok (.aload_n 0, 1) := by decide +kernel
theorem d_M_at_20 : decode b_M_at 20 = .ok (.getfield 7, 3) := by decide +kernel
theorem d_M_at_23 : decode b_M_at 23 = .ok (.iload_n 3, 1) := by decide +kernel
theorem d_M_at_24 : decode b_M_at 24 = .ok (.iaload, 1) := by decide +kernel
theorem d_M_at_25 : decode b_M_at 25 = .ok (.iload_n 2, 1) := by decide +kernel
theorem d_M_at_26 : decode b_M_at 26 = .ok (.imul, 1) := by decide +kernel
theorem d_M_at_27 : decode b_M_at 27 = .ok (.aload_n 0, 1) := by decide +kernel
theorem d_M_at_28 : decode b_M_at 28 = .ok (.getfield 34, 3) := by decide +kernel
theorem d_M_at_31 : decode b_M_at 31 = .ok (.iload_n 3, 1) := by decide +kernel
theorem d_M_at_32 : decode b_M_at 32 = .ok (.iaload, 1) := by decide +kernel
theorem d_M_at_33 : decode b_M_at 33 = .ok (.iadd, 1) := by decide +kernel
theorem d_M_at_34 : decode b_M_at 34 = .ok (.goto 4, 3) := by decide +kernel
theorem d_M_at_37 : decode b_M_at 37 = .ok (.iload_n 2, 1) := by decide +kernel
theorem d_M_at_38 : decode b_M_at 38 = .ok (.istore_n 2, 1) := by decide +kernel
theorem d_M_at_39 : decode b_M_at 39 = .ok (.iinc 3 1, 3) := by decide +kernel
theorem d_M_at_42 : decode b_M_at 42 = .ok (.goto (-38), 3) := by decide +kernel
theorem d_M_at_45 : decode b_M_at 45 = .ok (.iload_n 2, 1) := by decide +kernel
theorem d_M_at_46 : decode b_M_at 46 = .ok (.ireturn, 1) := by decide +kernel
theorem d_M_bits_0 : decode b_M_bits 0 = .ok (.iload_n 0, 1) := by decide +kernel
theorem d_M_bits_1 : decode b_M_bits 1 = .ok (.iconst (-1), 1) := by decide +kernel
theorem d_M_bits_2 : decode b_M_bits 2 = .ok (.if_icmp .lt 35, 3) := by decide +kernel
theorem d_M_bits_5 : decode b_M_bits 5 = .ok (.iload_n 0, 1) := by decide +kernel
theorem d_M_bits_6 : decode b_M_bits 6 = .ok (.bipush 8, 2) := by decide +kernel
theorem d_M_bits_8 : decode b_M_bits 8 = .ok (.if_icmp .ge 29, 3) := by decide +kernel
theorem d_M_bits_11 : decode b_M_bits 11 = .ok (.iload_n 1, 1) := by decide +kernel
theorem d_M_bits_12 : decode b_M_bits 12 = .ok (.iconst (-1), 1) := by decide +kernel
theorem d_M_bits_13 : decode b_M_bits 13 = .ok (.if_icmp .lt 24, 3) := by decide +kernel
theorem d_M_bits_16 : decode b_M_bits 16 = .ok (.iload_n 1, 1) := by decide +kernel
theorem d_M_bits_17 : decode b_M_bits 17 = .ok (.bipush 8, 2) := by decide +kernel
theorem d_M_bits_19 : decode b_M_bits 19 = .ok (.if_icmp .ge 18, 3) := by decide +kernel
theorem d_M_bits_22 : decode b_M_bits 22 = .ok (.iload_n 2, 1) := by decide +kernel
theorem d_M_bits_23 : decode b_M_bits 23 = .ok (.iconst (-1), 1) := by decide +kernel
theorem d_M_bits_24 : decode b_M_bits 24 = .ok (.if_icmp .lt 13, 3) := by decide +kernel
theorem d_M_bits_27 : decode b_M_bits 27 = .ok (.iload_n 2, 1) := by decide +kernel
theorem d_M_bits_28 : decode b_M_bits 28 = .ok (.bipush 8, 2) := by decide +kernel
theorem d_M_bits_30 : decode b_M_bits 30 = .ok (.if_icmp .ge 7, 3) := by decide +kernel
theorem d_M_bits_33 : decode b_M_bits 33 = .ok (.iconst 1, 1) := by decide +kernel
theorem d_M_bits_34 : decode b_M_bits 34 = .ok (.goto 4, 3) := by decide +kernel
theorem d_M_bits_37 : decode b_M_bits 37 = .ok (.iconst 0, 1) := by decide +kernel
theorem d_M_bits_38 : decode b_M_bits 38 = .ok (.istore_n 3, 1) := by decide +kernel
theorem d_M_bits_39 : decode b_M_bits 39 = .ok (.iload_n 3, 1) := by decide +kernel
theorem d_M_bits_40 : decode b_M_bits 40 = .ok (.ifCond .eq 37, 3) := by decide +kernel
theorem d_M_bits_43 : decode b_M_bits 43 = .ok (.iload_n 1, 1) := by decide +kernel
theorem d_M_bits_44 : decode b_M_bits 44 = .ok (.iconst (-1), 1) := by decide +kernel
theorem d_M_bits_45 : decode b_M_bits 45 = .ok (.if_icmp .eq 13, 3) := by decide +kernel
theorem d_M_bits_48 : decode b_M_bits 48 = .ok (.iload_n 0, 1) := by decide +kernel
theorem d_M_bits_49 : decode b_M_bits 49 = .ok (.iconst (-1), 1) := by decide +kernel
theorem d_M_bits_50 : decode b_M_bits 50 = .ok (.if_icmp .eq 27, 3) := by decide +kernel
theorem d_M_bits_53 : decode b_M_bits 53 = .ok (.iload_n 1, 1) := by decide +kernel
theorem d_M_bits_54 : decode b_M_bits 54 = .ok (.iload_n 0, 1) := by decide +kernel
theorem d_M_bits_55 : decode b_M_bits 55 = .ok (.if_icmp .le 22, 3) := by decide +kernel
theorem d_M_bits_58 : decode b_M_bits 58 = .ok (.iload_n 2, 1) := by decide +kernel
theorem d_M_bits_59 : decode b_M_bits 59 = .ok (.iconst (-1), 1) := by decide +kernel
theorem d_M_bits_60 : decode b_M_bits 60 = .ok (.if_icmp .eq 13, 3) := by decide +kernel
theorem d_M_bits_63 : decode b_M_bits 63 = .ok (.iload_n 1, 1) := by decide +kernel
theorem d_M_bits_64 : decode b_M_bits 64 = .ok (.iconst (-1), 1) := by decide +kernel
theorem d_M_bits_65 : decode b_M_bits 65 = .ok (.if_icmp .eq 12, 3) := by decide +kernel
theorem d_M_bits_68 : decode b_M_bits 68 = .ok (.iload_n 2, 1) := by decide +kernel
theorem d_M_bits_69 : decode b_M_bits 69 = .ok (.iload_n 1, 1) := by decide +kernel
theorem d_M_bits_70 : decode b_M_bits 70 = .ok (.if_icmp .le 7, 3) := by decide +kernel
theorem d_M_bits_73 : decode b_M_bits 73 = .ok (.iconst 1, 1) := by decide +kernel
theorem d_M_bits_74 : decode b_M_bits 74 = .ok (.goto 4, 3) := by decide +kernel
theorem d_M_bits_77 : decode b_M_bits 77 = .ok (.iconst 0, 1) := by decide +kernel
theorem d_M_bits_78 : decode b_M_bits 78 = .ok (.istore_n 3, 1) := by decide +kernel
theorem d_M_bits_79 : decode b_M_bits 79 = .ok (.iload_n 3, 1) := by decide +kernel
theorem d_M_bits_80 : decode b_M_bits 80 = .ok (.ifCond .ne 5, 3) := by decide +kernel
theorem d_M_bits_83 : decode b_M_bits 83 = .ok (.iconst (-1), 1) := by decide +kernel
theorem d_M_bits_84 : decode b_M_bits 84 = .ok (.ireturn, 1) := by decide +kernel
theorem d_M_bits_85 : decode b_M_bits 85 = .ok (.iload_n 0, 1) := by decide +kernel
theorem d_M_bits_86 : decode b_M_bits 86 = .ok (.iconst (-1), 1) := by decide +kernel
theorem d_M_bits_87 : decode b_M_bits 87 = .ok (.if_icmp .ne 7, 3) := by decide +kernel
theorem d_M_bits_90 : decode b_M_bits 90 = .ok (.iconst 0, 1) := by decide +kernel
theorem d_M_bits_91 : decode b_M_bits 91 = .ok (.goto 6, 3) := by decide +kernel
theorem d_M_bits_94 : decode b_M_bits 94 = .ok (.iconst 1, 1) := by decide +kernel
theorem d_M_bits_95 : decode b_M_bits 95 = .ok (.iload_n 0, 1) := by decide +kernel
theorem d_M_bits_96 : decode b_M_bits 96 = .ok (.ishl, 1) := by decide +kernel
theorem d_M_bits_97 : decode b_M_bits 97 = .ok (.istore 4, 2) := by decide +kernel
theorem d_M_bits_99 : decode b_M_bits 99 = .ok (.iload_n 1, 1) := by decide +kernel
theorem d_M_bits_100 : decode b_M_bits 100 = .ok (.iconst (-1), 1) := by decide +kernel
theorem d_M_bits_101 : decode b_M_bits 101 = .ok (.if_icmp .ne 8, 3) := by decide +kernel
theorem d_M_bits_104 : decode b_M_bits 104 = .ok (.iload 4, 2) := by decide +kernel
theorem d_M_bits_106 : decode b_M_bits 106 = .ok (.goto 9, 3) := by decide +kernel
theorem d_M_bits_109 : decode b_M_bits 109 = .ok (.iload 4, 2) := by decide +kernel
theorem d_M_bits_111 : decode b_M_bits 111 = .ok (.iconst 1, 1) := by decide +kernel
theorem d_M_bits_112 : decode b_M_bits 112 = .ok (.iload_n 1, 1) := by decide +kernel
theorem d_M_bits_113 : decode b_M_bits 113 = .ok (.ishl, 1) := by decide +kernel
theorem d_M_bits_114 : decode b_M_bits 114 = .ok (.ior, 1) := by decide +kernel
theorem d_M_bits_115 : decode b_M_bits 115 = .ok (.istore 4, 2) := by decide +kernel
theorem d_M_bits_117 : decode b_M_bits 117 = .ok (.iload_n 2, 1) := by decide +kernel
theorem d_M_bits_118 : decode b_M_bits 118 = .ok (.iconst (-1), 1) := by decide +kernel
theorem d_M_bits_119 : decode b_M_bits 119 = .ok (.if_icmp .ne 8, 3) := by decide +kernel
theorem d_M_bits_122 : decode b_M_bits 122 = .ok (.iload 4, 2) := by decide +kernel
theorem d_M_bits_124 : decode b_M_bits 124 = .ok (.goto 9, 3) := by decide +kernel
theorem d_M_bits_127 : decode b_M_bits 127 = .ok (.iload 4, 2) := by decide +kernel
theorem d_M_bits_129 : decode b_M_bits 129 = .ok (.iconst 1, 1) := by decide +kernel
theorem d_M_bits_130 : decode b_M_bits 130 = .ok (.iload_n 2, 1) := by decide +kernel
theorem d_M_bits_131 : decode b_M_bits 131 = .ok (.ishl, 1) := by decide +kernel
theorem d_M_bits_132 : decode b_M_bits 132 = .ok (.ior, 1) := by decide +kernel
theorem d_M_bits_133 : decode b_M_bits 133 = .ok (.ireturn, 1) := by decide +kernel
set_option maxHeartbeats 4000000 in
set_option maxRecDepth 100000 in
theorem c_M_thrown (l : Launch) (dC : Nat → ClassId) (dI : Nat → Nat → Nat) (cI : ClassId) (o0 o1 o2 o3 o4 o5 o6 o7 o8 o9 : Nat) (thr tab ops res stp : Int32) : Met l y_M_thrown w_M_thrown ({ frames := 0, cells := 0, slots := 0, locals := 0 }) (va_Pc [.ref o0] (ct_ro (dC, dI) ct_cl [(o0, .inr (4, [.int thr, .ref o1, .int tab, .ref o2, .ref o3, .int ops, .ref o4, .int res, .ref o5, .ref o6, .int stp, .ref o7, .ref o8, .ref o9]))] [(cI, .int)])) (ct_qi (fun r => r = thr)) 0 0 (fun _ => False) := by
  refine Met.ofW (cc := b_M_thrown) (maxL := 1) (ret := (some .int)) (by decide) rfl ?_
  intro p e s m args below meth c s₁ Bd hml hv
  obtain ⟨hargs, hP, hK⟩ := hv
  have hx := Bd.exec
  have hb := Bd.bytes
  have hr := Bd.returns
  have hts : ∀ w ∈ k_M_thrown :: ct_tb, w.before args s = true := atoms_spec (ws := w_M_thrown) Bd.pre
  have hown : s.vm.findClass R_M = some m.cls := findClass_of_methodNamed Bd.named
  have hlocks := Bd.notSynchronized
  have hS : va_S (fun _ => False) s.heap s.heap [] := va_S.rf
  have hl := lv_entry ([.ref o0]) (n := 1) (Nat.le_of_ble_eq_true rfl)
  rw [show entryFrame m args 1 = entryFrame m (([.ref o0] : List Value)).toArray 1 by rw [hargs], lg_entry_eq]
  generalize (lg_sl ([.ref o0]) ++ List.replicate (1 - (lg_sl ([.ref o0])).length) Slot.unset).toArray = ls at hl ⊢
  have hl : lv_has ls 1 [(0, .ref o0)] := hl
  refine lv_aload_n hx hb d_M_thrown_0 rfl (lv_at hl 0 rfl) ?_
  refine va_get (D := (dC, dI)) (ci := 4) (v := .int thr) (C := R_M) (T := T_M) (N := 14) hx hb hts (fun w h9 => ct_tl (ki_M w h9)) hown hK hP 0 rfl rfl 0 (by decide) (hts _ (ct_tl kw_519)) (fun _ h9 => h9) rfl d_M_thrown_1 ?_
  exact W.iret (v := thr) hx hb hr (fun tS ht hW => ⟨⟨thr, (), rfl, rfl, trivial⟩, hS.F ht⟩) hS.2.2 d_M_thrown_4
def ct_rf (b1 b2 : Nat) : Nat := if b1 = 1 then 1 else if b2 = 1 then 2 else 0
set_option maxHeartbeats 4000000 in
set_option maxRecDepth 100000 in
theorem c_M_refuse (l : Launch) (dC : Nat → ClassId) (dI : Nat → Nat → Nat) (cI : ClassId) (o0 o1 o2 o3 o4 o5 o6 o7 o8 o9 : Nat) (thr tab ops res stp : Int32) (b1 b2 : Nat) (hb1 : b1 < 2) (hb2 : b2 < 2) (sz0 : Nat) : Met l y_M_refuse w_M_refuse ({ frames := 0, cells := 0, slots := 0, locals := 0 }) (va_Pc [.ref o0, .int (nI b1), .int (nI b2)] (ct_rw (dC, dI) ct_cl [(o0, .inr (4, [.int thr, .ref o1, .int tab, .ref o2, .ref o3, .int ops, .ref o4, .int res, .ref o5, .ref o6, .int stp, .ref o7, .ref o8, .ref o9]))] [(cI, .int)] sz0)) (va_Qi (fun (r : Int32) (u : Unit) => r = nI (if ct_rf b1 b2 = 0 then 0 else 1)) (fun (u : Unit) t => ct_at (dC, dI) ct_cl [(cI, .int)] (va_A [(o0, .inr (4, [.int thr, .ref o1, .int tab, .ref o2, .ref o3, .int ops, .ref o4, .int res, .ref o5, .ref o6, .int stp, .ref o7, .ref o8, .ref o9]))] sz0) [(o0, .inr (4, [.int (nI (ct_rf b1 b2)), .ref o1, .int tab, .ref o2, .ref o3, .int ops, .ref o4, .int res, .ref o5, .ref o6, .int stp, .ref o7, .ref o8, .ref o9]))] t) (va_A [(o0, .inr (4, [.int thr, .ref o1, .int tab, .ref o2, .ref o3, .int ops, .ref o4, .int res, .ref o5, .ref o6, .int stp, .ref o7, .ref o8, .ref o9]))] sz0)) 0 0 (va_A [(o0, .inr (4, [.int thr, .ref o1, .int tab, .ref o2, .ref o3, .int ops, .ref o4, .int res, .ref o5, .ref o6, .int stp, .ref o7, .ref o8, .ref o9]))] sz0) := by
  refine Met.ofW (cc := b_M_refuse) (maxL := 3) (ret := (some .boolean)) (by decide) rfl ?_
  intro p e s m args below meth c s₁ Bd hml hv
  obtain ⟨hargs, hsz, hP, hK, hD0⟩ := hv
  have hx := Bd.exec
  have hb := Bd.bytes
  have hr := Bd.returns
  have hts : ∀ w ∈ k_M_refuse :: ct_tb, w.before args s = true := atoms_spec (ws := w_M_refuse) Bd.pre
  have hown : s.vm.findClass R_M = some m.cls := findClass_of_methodNamed Bd.named
  have hlocks := Bd.notSynchronized
  subst hsz
  have hD := hD0.self (sz := s.heap.size)
  generalize hAe : va_A [(o0, .inr (4, [.int thr, .ref o1, .int tab, .ref o2, .ref o3, .int ops, .ref o4, .int res, .ref o5, .ref o6, .int stp, .ref o7, .ref o8, .ref o9]))] s.heap.size = A at hD ⊢
  have hA : ∀ q : Nat, s.heap.size ≤ q → A q := fun q h => by rw [← hAe]; exact Or.inr h
  have hS : va_S A s.heap s.heap [] := va_S.rf
  have hl := lv_entry ([.ref o0, .int (nI b1), .int (nI b2)]) (n := 3) (Nat.le_of_ble_eq_true rfl)
  rw [show entryFrame m args 3 = entryFrame m (([.ref o0, .int (nI b1), .int (nI b2)] : List Value)).toArray 3 by rw [hargs], lg_entry_eq]
  generalize (lg_sl ([.ref o0, .int (nI b1), .int (nI b2)]) ++ List.replicate (3 - (lg_sl ([.ref o0, .int (nI b1), .int (nI b2)])).length) Slot.unset).toArray = ls at hl ⊢
  have hl : lv_has ls 3 [(0, .ref o0), (1, .int (nI b1)), (2, .int (nI b2))] := hl
  refine lv_aload_n hx hb d_M_refuse_0 rfl (lv_at hl 0 rfl) ?_
  refine lv_iload_n hx hb d_M_refuse_1 rfl (lv_at hl 1 rfl) ?_
  by_cases h1 : b1 = 1
  · refine lv_if_eq (tgt := 9) hx hb d_M_refuse_2 (by decide) (fun hc9 => absurd hc9 (nI_ne0 (by omega) (by omega))) (fun _ => ?_)
    refine lv_iconst (v := (nI 1)) hx hb d_M_refuse_5 (by decide) ?_
    refine lv_goto (tgt := 18) hx hb d_M_refuse_6 (by decide) ?_
    refine ct_val (y := nI (ct_rf b1 b2)) (by rw [ct_rf, if_pos h1]) ?_
    refine va_put (D := (dC, dI)) (ci := 4) (v := .int (nI (ct_rf b1 b2))) (ty := .int) (C := R_M) (T := T_M) (N := 14) hx hb hts (fun w h9 => ct_tl (ki_M w h9)) ty_M ok_M nm_M hown hK hP hD hS 0 rfl rfl 0 (by decide) (hts _ (ct_tl kw_519)) (fun _ h9 => h9) rfl (by decide +kernel) rfl rfl (Nat.le_of_ble_eq_true rfl) d_M_refuse_18 (fun H locs hP hD hS => ?_)
    have hP : va_P (dC, dI) ct_cl [(o0, .inr (4, [.int (nI (ct_rf b1 b2)), .ref o1, .int tab, .ref o2, .ref o3, .int ops, .ref o4, .int res, .ref o5, .ref o6, .int stp, .ref o7, .ref o8, .ref o9]))] H := hP
    have hD : va_D A [(o0, .inr (4, [.int (nI (ct_rf b1 b2)), .ref o1, .int tab, .ref o2, .ref o3, .int ops, .ref o4, .int res, .ref o5, .ref o6, .int stp, .ref o7, .ref o8, .ref o9]))] := hD
    refine lv_aload_n hx hb d_M_refuse_21 rfl (lv_at hl 0 rfl) ?_
    refine va_get (D := (dC, dI)) (ci := 4) (v := .int (nI (ct_rf b1 b2))) (C := R_M) (T := T_M) (N := 14) hx hb hts (fun w h9 => ct_tl (ki_M w h9)) hown hK hP 0 rfl rfl 0 (by decide) (hts _ (ct_tl kw_519)) (fun _ h9 => h9) rfl d_M_refuse_22 ?_
    refine lv_if_le (tgt := 32) hx hb d_M_refuse_25 (by decide) (fun hc9 => absurd hc9 (by rw [ct_rf, if_pos h1]; exact nI_nle (by omega) (by omega))) (fun _ => ?_)
    refine lv_iconst (v := (nI 1)) hx hb d_M_refuse_28 (by decide) ?_
    refine lv_goto (tgt := 33) hx hb d_M_refuse_29 (by decide) ?_
    have hP9 := hP.sub [0] rfl
    exact W.zret (v := (nI 1)) hx hb hr (by first | rfl | decide) (fun tS ht hW => ⟨⟨(nI 1), (), rfl, by rw [if_neg (by rw [ct_rf, if_pos h1]; omega)], by rw [ht]; exact hP9, va_K.moved hW.alike hK, hD.sub [0] (by decide) rfl⟩, hS.F ht⟩) hS.2.2 d_M_refuse_33
  · refine lv_if_eq (tgt := 9) hx hb d_M_refuse_2 (by decide) (fun _ => ?_) (fun hc9 => absurd (by rw [show b1 = 0 by omega]; exact nI_0) hc9)
    refine lv_iload_n hx hb d_M_refuse_9 rfl (lv_at hl 2 rfl) ?_
    by_cases h2 : b2 = 1
    · refine lv_if_eq (tgt := 17) hx hb d_M_refuse_10 (by decide) (fun hc9 => absurd hc9 (nI_ne0 (by omega) (by omega))) (fun _ => ?_)
      refine lv_iconst (v := (nI 2)) hx hb d_M_refuse_13 (by decide) ?_
      refine lv_goto (tgt := 18) hx hb d_M_refuse_14 (by decide) ?_
      refine ct_val (y := nI (ct_rf b1 b2)) (by rw [ct_rf, if_neg h1, if_pos h2]) ?_
      refine va_put (D := (dC, dI)) (ci := 4) (v := .int (nI (ct_rf b1 b2))) (ty := .int) (C := R_M) (T := T_M) (N := 14) hx hb hts (fun w h9 => ct_tl (ki_M w h9)) ty_M ok_M nm_M hown hK hP hD hS 0 rfl rfl 0 (by decide) (hts _ (ct_tl kw_519)) (fun _ h9 => h9) rfl (by decide +kernel) rfl rfl (Nat.le_of_ble_eq_true rfl) d_M_refuse_18 (fun H locs hP hD hS => ?_)
      have hP : va_P (dC, dI) ct_cl [(o0, .inr (4, [.int (nI (ct_rf b1 b2)), .ref o1, .int tab, .ref o2, .ref o3, .int ops, .ref o4, .int res, .ref o5, .ref o6, .int stp, .ref o7, .ref o8, .ref o9]))] H := hP
      have hD : va_D A [(o0, .inr (4, [.int (nI (ct_rf b1 b2)), .ref o1, .int tab, .ref o2, .ref o3, .int ops, .ref o4, .int res, .ref o5, .ref o6, .int stp, .ref o7, .ref o8, .ref o9]))] := hD
      refine lv_aload_n hx hb d_M_refuse_21 rfl (lv_at hl 0 rfl) ?_
      refine va_get (D := (dC, dI)) (ci := 4) (v := .int (nI (ct_rf b1 b2))) (C := R_M) (T := T_M) (N := 14) hx hb hts (fun w h9 => ct_tl (ki_M w h9)) hown hK hP 0 rfl rfl 0 (by decide) (hts _ (ct_tl kw_519)) (fun _ h9 => h9) rfl d_M_refuse_22 ?_
      refine lv_if_le (tgt := 32) hx hb d_M_refuse_25 (by decide) (fun hc9 => absurd hc9 (by rw [ct_rf, if_neg h1, if_pos h2]; exact nI_nle (by omega) (by omega))) (fun _ => ?_)
      refine lv_iconst (v := (nI 1)) hx hb d_M_refuse_28 (by decide) ?_
      refine lv_goto (tgt := 33) hx hb d_M_refuse_29 (by decide) ?_
      have hP9 := hP.sub [0] rfl
      exact W.zret (v := (nI 1)) hx hb hr (by first | rfl | decide) (fun tS ht hW => ⟨⟨(nI 1), (), rfl, by rw [if_neg (by rw [ct_rf, if_neg h1, if_pos h2]; omega)], by rw [ht]; exact hP9, va_K.moved hW.alike hK, hD.sub [0] (by decide) rfl⟩, hS.F ht⟩) hS.2.2 d_M_refuse_33
    · refine lv_if_eq (tgt := 17) hx hb d_M_refuse_10 (by decide) (fun _ => ?_) (fun hc9 => absurd (by rw [show b2 = 0 by omega]; exact nI_0) hc9)
      refine lv_iconst (v := (nI 0)) hx hb d_M_refuse_17 (by decide) ?_
      refine ct_val (y := nI (ct_rf b1 b2)) (by rw [ct_rf, if_neg h1, if_neg h2]) ?_
      refine va_put (D := (dC, dI)) (ci := 4) (v := .int (nI (ct_rf b1 b2))) (ty := .int) (C := R_M) (T := T_M) (N := 14) hx hb hts (fun w h9 => ct_tl (ki_M w h9)) ty_M ok_M nm_M hown hK hP hD hS 0 rfl rfl 0 (by decide) (hts _ (ct_tl kw_519)) (fun _ h9 => h9) rfl (by decide +kernel) rfl rfl (Nat.le_of_ble_eq_true rfl) d_M_refuse_18 (fun H locs hP hD hS => ?_)
      have hP : va_P (dC, dI) ct_cl [(o0, .inr (4, [.int (nI (ct_rf b1 b2)), .ref o1, .int tab, .ref o2, .ref o3, .int ops, .ref o4, .int res, .ref o5, .ref o6, .int stp, .ref o7, .ref o8, .ref o9]))] H := hP
      have hD : va_D A [(o0, .inr (4, [.int (nI (ct_rf b1 b2)), .ref o1, .int tab, .ref o2, .ref o3, .int ops, .ref o4, .int res, .ref o5, .ref o6, .int stp, .ref o7, .ref o8, .ref o9]))] := hD
      refine lv_aload_n hx hb d_M_refuse_21 rfl (lv_at hl 0 rfl) ?_
      refine va_get (D := (dC, dI)) (ci := 4) (v := .int (nI (ct_rf b1 b2))) (C := R_M) (T := T_M) (N := 14) hx hb hts (fun w h9 => ct_tl (ki_M w h9)) hown hK hP 0 rfl rfl 0 (by decide) (hts _ (ct_tl kw_519)) (fun _ h9 => h9) rfl d_M_refuse_22 ?_
      refine lv_if_le (tgt := 32) hx hb d_M_refuse_25 (by decide) (fun _ => ?_) (fun hc9 => absurd (by rw [ct_rf, if_neg h1, if_neg h2]; exact Int32.le_refl _) hc9)
      refine lv_iconst (v := (nI 0)) hx hb d_M_refuse_32 (by decide) ?_
      have hP9 := hP.sub [0] rfl
      exact W.zret (v := (nI 0)) hx hb hr (by first | rfl | decide) (fun tS ht hW => ⟨⟨(nI 0), (), rfl, by rw [if_pos (by rw [ct_rf, if_neg h1, if_neg h2])], by rw [ht]; exact hP9, va_K.moved hW.alike hK, hD.sub [0] (by decide) rfl⟩, hS.F ht⟩) hS.2.2 d_M_refuse_33
def ct_in2 (v lo hi : Int32) : Bool := !decide (v < lo) && !decide (hi < v)
theorem ct_in2_isn {n : Nat} (hn : n < 2 ^ 31) (x : Int32) : ct_in2 x (nI 0) (nI n - nI 1) = ct_isn n x := by
  unfold ct_in2 ct_isn
  have h0 : decide (x < nI 0) = decide (x < 0) := by rw [nI_0]
  rw [h0]
  by_cases hx : x < 0
  · simp [hx]
  · have e : decide (nI n - nI 1 < x) = decide (nI n ≤ x) := by
      obtain ⟨j, hj, rfl⟩ := nI_of hx
      rcases Nat.eq_zero_or_pos n with rfl | h
      · have h1 : (nI 0 - nI 1 : Int32) < nI j := Int32.lt_iff_toInt_lt.mpr (by
          have e1 : (nI 0 - nI 1 : Int32).toInt = -1 := by decide
          rw [e1, nI_toInt hj]; omega)
        have h2 : nI 0 ≤ nI j := nI_le (by omega) hj
        simp [h1, h2]
      · rw [pk_sub h]
        by_cases h1 : n ≤ j
        · simp [nI_le h1 hj, nI_lt (show n - 1 < j by omega) hj]
        · simp [nI_ge (show j < n by omega) hn, nI_nlt (show j ≤ n - 1 by omega) (by omega)]
    rw [e]
set_option maxHeartbeats 4000000 in
set_option maxRecDepth 100000 in
theorem c_M_in (l : Launch) (dC : Nat → ClassId) (dI : Nat → Nat → Nat) (cI : ClassId) (v lo hi : Int32) : Met l y_M_in w_M_in ({ frames := 0, cells := 0, slots := 0, locals := 0 }) (va_Pc [.int v, .int lo, .int hi] (ct_ro (dC, dI) ct_cl [] [(cI, .int)])) (ct_qi (fun r => r = nI (if ct_in2 v lo hi = true then 1 else 0))) 0 0 (fun _ => False) := by
  refine Met.ofW (cc := b_M_in) (maxL := 3) (ret := (some .boolean)) (by decide) rfl ?_
  intro p e s m args below meth c s₁ Bd hml hv
  obtain ⟨hargs, hP, hK⟩ := hv
  have hx := Bd.exec
  have hb := Bd.bytes
  have hr := Bd.returns
  have hts : ∀ w ∈ k_M_in :: ct_tb, w.before args s = true := atoms_spec (ws := w_M_in) Bd.pre
  have hown : s.vm.findClass R_M = some m.cls := findClass_of_methodNamed Bd.named
  have hlocks := Bd.notSynchronized
  have hS : va_S (fun _ => False) s.heap s.heap [] := va_S.rf
  have hl := lv_entry ([.int v, .int lo, .int hi]) (n := 3) (Nat.le_of_ble_eq_true rfl)
  rw [show entryFrame m args 3 = entryFrame m (([.int v, .int lo, .int hi] : List Value)).toArray 3 by rw [hargs], lg_entry_eq]
  generalize (lg_sl ([.int v, .int lo, .int hi]) ++ List.replicate (3 - (lg_sl ([.int v, .int lo, .int hi])).length) Slot.unset).toArray = ls at hl ⊢
  have hl : lv_has ls 3 [(0, .int v), (1, .int lo), (2, .int hi)] := hl
  refine lv_iload_n hx hb d_M_in_0 rfl (lv_at hl 0 rfl) ?_
  refine lv_iload_n hx hb d_M_in_1 rfl (lv_at hl 1 rfl) ?_
  by_cases h1 : v < lo
  · refine lv_icmp_lt (tgt := 14) hx hb d_M_in_2 (by decide) (fun _ => ?_) (fun hc9 => absurd (h1) hc9)
    refine lv_iconst (v := (nI 0)) hx hb d_M_in_14 (by decide) ?_
    exact W.zret (v := (nI 0)) hx hb hr (by first | rfl | decide) (fun tS ht hW => ⟨⟨(nI 0), (), rfl, by rw [if_neg (by simp [ct_in2, h1])], trivial⟩, hS.F ht⟩) hS.2.2 d_M_in_15
  · refine lv_icmp_lt (tgt := 14) hx hb d_M_in_2 (by decide) (fun hc9 => absurd hc9 (h1)) (fun _ => ?_)
    refine lv_iload_n hx hb d_M_in_5 rfl (lv_at hl 0 rfl) ?_
    refine lv_iload_n hx hb d_M_in_6 rfl (lv_at hl 2 rfl) ?_
    by_cases h2 : hi < v
    · refine lv_icmp_gt (tgt := 14) hx hb d_M_in_7 (by decide) (fun _ => ?_) (fun hc9 => absurd (h2) hc9)
      refine lv_iconst (v := (nI 0)) hx hb d_M_in_14 (by decide) ?_
      exact W.zret (v := (nI 0)) hx hb hr (by first | rfl | decide) (fun tS ht hW => ⟨⟨(nI 0), (), rfl, by rw [if_neg (by simp [ct_in2, h2])], trivial⟩, hS.F ht⟩) hS.2.2 d_M_in_15
    · refine lv_icmp_gt (tgt := 14) hx hb d_M_in_7 (by decide) (fun hc9 => absurd hc9 (h2)) (fun _ => ?_)
      refine lv_iconst (v := (nI 1)) hx hb d_M_in_10 (by decide) ?_
      refine lv_goto (tgt := 15) hx hb d_M_in_11 (by decide) ?_
      exact W.zret (v := (nI 1)) hx hb hr (by first | rfl | decide) (fun tS ht hW => ⟨⟨(nI 1), (), rfl, by rw [if_pos (by simp [ct_in2, h1, h2])], trivial⟩, hS.F ht⟩) hS.2.2 d_M_in_15
set_option maxHeartbeats 4000000 in
set_option maxRecDepth 100000 in
theorem c_M_product (l : Launch) (dC : Nat → ClassId) (dI : Nat → Nat → Nat) (cI : ClassId) (o0 o1 o2 o3 o4 o5 o6 o7 o8 o9 : Nat) (thr tab ops res stp : Int32) (sz : Nat → Nat) (M : Nat) (hM : M < 2 ^ 31) : Met l y_M_product w_M_product ({ frames := 0, cells := 0, slots := 0, locals := 0 }) (va_Pc [.ref o0, .int (nI M)] (ct_ro (dC, dI) ct_cl [(o0, .inr (4, [.int thr, .ref o1, .int tab, .ref o2, .ref o3, .int ops, .ref o4, .int res, .ref o5, .ref o6, .int stp, .ref o7, .ref o8, .ref o9])), (o1, .inl (cI, 8, .inl (fun j => nI (sz j))))] [(cI, .int)])) (ct_qi (fun r => r = nI (ct_pr sz M.testBit 8))) 0 0 (fun _ => False) := by
  refine Met.ofW (cc := b_M_product) (maxL := 4) (ret := (some .int)) (by decide) rfl ?_
  intro p e s m args below meth c s₁ Bd hml hv
  obtain ⟨hargs, hP, hK⟩ := hv
  have hx := Bd.exec
  have hb := Bd.bytes
  have hr := Bd.returns
  have hts : ∀ w ∈ k_M_product :: ct_tb, w.before args s = true := atoms_spec (ws := w_M_product) Bd.pre
  have hown : s.vm.findClass R_M = some m.cls := findClass_of_methodNamed Bd.named
  have hlocks := Bd.notSynchronized
  have hS : va_S (fun _ => False) s.heap s.heap [] := va_S.rf
  have hl := lv_entry ([.ref o0, .int (nI M)]) (n := 4) (Nat.le_of_ble_eq_true rfl)
  rw [show entryFrame m args 4 = entryFrame m (([.ref o0, .int (nI M)] : List Value)).toArray 4 by rw [hargs], lg_entry_eq]
  generalize (lg_sl ([.ref o0, .int (nI M)]) ++ List.replicate (4 - (lg_sl ([.ref o0, .int (nI M)])).length) Slot.unset).toArray = ls at hl ⊢
  have hl : lv_has ls 4 [(0, .ref o0), (1, .int (nI M))] := hl
  have loop : ∀ (n i : Nat), i + n = 8 → ∀ (ls : Array Slot), lv_has ls 4 [(0, .ref o0), (1, .int (nI M)), (2, .int (nI (ct_pr sz M.testBit i))), (3, .int (nI i))] → W p l e (headSpec w_M_product ({ frames := 0, cells := 0, slots := 0, locals := 0 } : Room)).room s m args below meth c s.heap [] 0 0 (MQ below (ct_qi (fun r => r = nI (ct_pr sz M.testBit 8))) args s 0 0 (fun _ => False)) (F0 m 4 ls []) := by
    intro n
    induction n with
    | zero =>
      intro i hin ls hl
      refine lv_iload_n hx hb d_M_product_4 rfl (lv_at hl 3 rfl) ?_
      refine lv_bipush (v := (nI 8)) hx hb d_M_product_5 (by decide) ?_
      refine lv_icmp_ge (tgt := 38) hx hb d_M_product_7 (by decide) (fun _ => ?_) (fun hc9 => absurd (nI_le (by omega) (by omega)) hc9)
      refine lv_iload_n hx hb d_M_product_38 rfl (lv_at hl 2 rfl) ?_
      exact W.iret (v := (nI (ct_pr sz M.testBit i))) hx hb hr (fun tS ht hW => ⟨⟨(nI (ct_pr sz M.testBit i)), (), rfl, by rw [show i = 8 by omega], trivial⟩, hS.F ht⟩) hS.2.2 d_M_product_39
    | succ n ih =>
      intro i hin ls hl
      refine lv_iload_n hx hb d_M_product_4 rfl (lv_at hl 3 rfl) ?_
      refine lv_bipush (v := (nI 8)) hx hb d_M_product_5 (by decide) ?_
      refine lv_icmp_ge (tgt := 38) hx hb d_M_product_7 (by decide) (fun hc9 => absurd hc9 (nI_ge (by omega) (by omega))) (fun _ => ?_)
      refine lv_iload_n hx hb d_M_product_10 rfl (lv_at hl 1 rfl) ?_
      refine lv_iload_n hx hb d_M_product_11 rfl (lv_at hl 3 rfl) ?_
      refine lv_ishr hx hb d_M_product_12 ?_
      refine lv_iconst (v := (nI 1)) hx hb d_M_product_13 (by decide) ?_
      by_cases hbt : M.testBit i = true
      · refine lv_iand hx hb d_M_product_14 ?_
        refine ct_val (y := nI 1) (by rw [ct_bit hM (by omega), if_pos hbt]) ?_
        refine lv_iconst (v := (nI 1)) hx hb d_M_product_15 (by decide) ?_
        refine lv_icmp_ne (tgt := 30) hx hb d_M_product_16 (by decide) (fun hc9 => absurd (rfl) hc9) (fun _ => ?_)
        refine lv_iload_n hx hb d_M_product_19 rfl (lv_at hl 2 rfl) ?_
        refine lv_aload_n hx hb d_M_product_20 rfl (lv_at hl 0 rfl) ?_
        refine va_get (D := (dC, dI)) (ci := 4) (v := .ref o1) (C := R_M) (T := T_M) (N := 14) hx hb hts (fun w h9 => ct_tl (ki_M w h9)) hown hK hP 0 rfl rfl 1 (by decide) (hts _ (ct_tl kw_520)) (fun _ h9 => h9) rfl d_M_product_21 ?_
        refine lv_iload_n hx hb d_M_product_24 rfl (lv_at hl 3 rfl) ?_
        refine ct_iald hx hb hK hP 1 0 rfl rfl (j := i) (by omega) (by omega) d_M_product_25 ?_
        refine ct_val (y := nI (sz i)) (rfl) ?_
        refine lv_imul hx hb d_M_product_26 ?_
        refine ct_val (y := nI (ct_pr sz M.testBit (i + 1))) (by rw [ct_pr_in hbt]; exact pk_mul _ _) ?_
        refine lv_goto (tgt := 31) hx hb d_M_product_27 (by decide) ?_
        refine lv_istore_n (lv' := [(2, .int (nI (ct_pr sz M.testBit (i + 1)))), (0, .ref o0), (1, .int (nI M)), (3, .int (nI i))]) hx hb d_M_product_31 rfl hl (by decide) rfl (fun ls hl => ?_)
        refine lv_iinc (v := (nI (i + 1))) (lv' := [(3, .int (nI (i + 1))), (2, .int (nI (ct_pr sz M.testBit (i + 1)))), (0, .ref o0), (1, .int (nI M))]) hx hb d_M_product_32 hl (k := 3) rfl (nI_1 _) (by decide) rfl (fun ls hl => ?_)
        refine lv_goto (tgt := 4) hx hb d_M_product_35 (by decide) ?_
        exact ih (i + 1) (by omega) ls (lv_sub hl [2, 3, 1, 0] rfl)
      · refine lv_iand hx hb d_M_product_14 ?_
        refine ct_val (y := nI 0) (by rw [ct_bit hM (by omega), if_neg hbt]) ?_
        refine lv_iconst (v := (nI 1)) hx hb d_M_product_15 (by decide) ?_
        refine lv_icmp_ne (tgt := 30) hx hb d_M_product_16 (by decide) (fun _ => ?_) (fun hc9 => absurd hc9 (by decide))
        refine lv_iload_n hx hb d_M_product_30 rfl (lv_at hl 2 rfl) ?_
        refine lv_istore_n (lv' := [(2, .int (nI (ct_pr sz M.testBit i))), (0, .ref o0), (1, .int (nI M)), (3, .int (nI i))]) hx hb d_M_product_31 rfl hl (by decide) rfl (fun ls hl => ?_)
        refine lv_iinc (v := (nI (i + 1))) (lv' := [(3, .int (nI (i + 1))), (2, .int (nI (ct_pr sz M.testBit i))), (0, .ref o0), (1, .int (nI M))]) hx hb d_M_product_32 hl (k := 3) rfl (nI_1 _) (by decide) rfl (fun ls hl => ?_)
        refine lv_goto (tgt := 4) hx hb d_M_product_35 (by decide) ?_
        have e9 : ct_pr sz M.testBit (i + 1) = ct_pr sz M.testBit i := ct_pr_out (by simpa using hbt)
        exact ih (i + 1) (by omega) ls (by rw [e9]; exact lv_sub hl [2, 3, 1, 0] rfl)
  refine lv_iconst (v := (nI 1)) hx hb d_M_product_0 (by decide) ?_
  refine lv_istore_n (lv' := [(2, .int (nI 1)), (0, .ref o0), (1, .int (nI M))]) hx hb d_M_product_1 rfl hl (by decide) rfl (fun ls hl => ?_)
  refine lv_iconst (v := (nI 0)) hx hb d_M_product_2 (by decide) ?_
  refine lv_istore_n (lv' := [(3, .int (nI 0)), (2, .int (nI 1)), (0, .ref o0), (1, .int (nI M))]) hx hb d_M_product_3 rfl hl (by decide) rfl (fun ls hl => ?_)
  exact loop 8 0 rfl ls (lv_sub hl [2, 3, 1, 0] rfl)
set_option maxHeartbeats 4000000 in
set_option maxRecDepth 100000 in
theorem c_M_isTable (l : Launch) (dC : Nat → ClassId) (dI : Nat → Nat → Nat) (cI : ClassId) (o0 o1 o2 o3 o4 o5 o6 o7 o8 o9 : Nat) (thr : Int32) (T : Nat) (ops res stp : Int32) (hT : T < 2 ^ 31) (x : Int32) : Met l y_M_isTable w_M_isTable ({ frames := 1, cells := 0, slots := 0, locals := 22 }) (va_Pc [.ref o0, .int x] (ct_ro (dC, dI) ct_cl [(o0, .inr (4, [.int thr, .ref o1, .int (nI T), .ref o2, .ref o3, .int ops, .ref o4, .int res, .ref o5, .ref o6, .int stp, .ref o7, .ref o8, .ref o9]))] [(cI, .int)])) (ct_qi (fun r => r = nI (if ct_isn T x = true then 1 else 0))) 0 0 (fun _ => False) := by
  refine Met.ofW (cc := b_M_isTable) (maxL := 2) (ret := (some .boolean)) (by decide) rfl ?_
  intro p e s m args below meth c s₁ Bd hml hv
  obtain ⟨hargs, hP, hK⟩ := hv
  have hx := Bd.exec
  have hb := Bd.bytes
  have hr := Bd.returns
  have hts : ∀ w ∈ k_M_isTable :: ct_tb, w.before args s = true := atoms_spec (ws := w_M_isTable) Bd.pre
  have hown : s.vm.findClass R_M = some m.cls := findClass_of_methodNamed Bd.named
  have hlocks := Bd.notSynchronized
  have hS : va_S (fun _ => False) s.heap s.heap [] := va_S.rf
  have hl := lv_entry ([.ref o0, .int x]) (n := 2) (Nat.le_of_ble_eq_true rfl)
  rw [show entryFrame m args 2 = entryFrame m (([.ref o0, .int x] : List Value)).toArray 2 by rw [hargs], lg_entry_eq]
  generalize (lg_sl ([.ref o0, .int x]) ++ List.replicate (2 - (lg_sl ([.ref o0, .int x])).length) Slot.unset).toArray = ls at hl ⊢
  have hl : lv_has ls 2 [(0, .ref o0), (1, .int x)] := hl
  refine lv_iload_n hx hb d_M_isTable_0 rfl (lv_at hl 1 rfl) ?_
  refine lv_iconst (v := (nI 0)) hx hb d_M_isTable_1 (by decide) ?_
  refine lv_aload_n hx hb d_M_isTable_2 rfl (lv_at hl 0 rfl) ?_
  refine va_get (D := (dC, dI)) (ci := 4) (v := .int (nI T)) (C := R_M) (T := T_M) (N := 14) hx hb hts (fun w h9 => ct_tl (ki_M w h9)) hown hK hP 0 rfl rfl 2 (by decide) (hts _ (ct_tl kw_521)) (fun _ h9 => h9) rfl d_M_isTable_3 ?_
  refine lv_iconst (v := (nI 1)) hx hb d_M_isTable_6 (by decide) ?_
  refine lv_isub hx hb d_M_isTable_7 ?_
  refine va_calli (va_runS (As := [.int x, .int (nI 0), .int ((nI T) - (nI 1))]) (rest := []) ⟨hx, hb, hml, hown, hts⟩ (c_M_in l dC dI cI x (nI 0) (nI T - nI 1)) (va_cwS 3 hts (ct_giT (fun w h9 => ct_tl h9) kw_570 kw_571 kw_30 kw_572) rfl rfl rfl (by decide +kernel) ⟨Nat.le_of_ble_eq_true rfl, Nat.le_of_ble_eq_true rfl⟩) ⟨ct_ro_blind, ct_ro_pre (hP.sub [] rfl) hK⟩ rfl rfl hl.1 rfl (lv_room (Nat.le_of_ble_eq_true rfl)) d_M_isTable_8 ⟨Nat.le_of_ble_eq_true rfl, Nat.le_of_ble_eq_true rfl⟩) hS (fun q _ h9 => h9.elim) (fun q h9 => h9.elim) (fun ans1 uS tS H locs ht hvm hwans1 hB hz1 hk1 hS => ?_)
  have hP := ct_keep hP hk1
  refine ct_val (y := nI (if ct_in2 x (nI 0) (nI T - nI 1) = true then 1 else 0)) (hwans1) ?_
  refine ct_val (y := nI (if ct_isn T x = true then 1 else 0)) (by rw [ct_in2_isn hT]) ?_
  have hnar : narrow .boolean (.int (nI (if ct_isn T x = true then 1 else 0))) = .int (nI (if ct_isn T x = true then 1 else 0)) := by
      cases ct_isn T x <;> rfl
  exact W.zret (v := nI (if ct_isn T x = true then 1 else 0)) hx hb hr hnar (fun tS ht hW => ⟨⟨_, (), rfl, rfl, trivial⟩, hS.F ht⟩) hS.2.2 d_M_isTable_11
set_option maxHeartbeats 4000000 in
set_option maxRecDepth 100000 in
theorem c_M_has (l : Launch) (dC : Nat → ClassId) (dI : Nat → Nat → Nat) (cI : ClassId) (o0 o1 o2 o3 o4 o5 o6 o7 o8 o9 : Nat) (thr tab : Int32) (K : Nat) (res stp : Int32) (fl fo : Nat → Int32) (la ot : Nat → Nat) (hK6 : K ≤ 6) (hfo : ∀ o, o < K → fo o = nI (ot o) ∧ ot o < 8) (hfl : ∀ o, o < K → fl (ot o) = nI (la o)) (S : Nat) (hS31 : S < 2 ^ 31) : Met l y_M_has w_M_has ({ frames := 0, cells := 0, slots := 0, locals := 0 }) (va_Pc [.ref o0, .int (nI S)] (ct_ro (dC, dI) ct_cl [(o0, .inr (4, [.int thr, .ref o1, .int tab, .ref o2, .ref o3, .int (nI K), .ref o4, .int res, .ref o5, .ref o6, .int stp, .ref o7, .ref o8, .ref o9])), (o2, .inl (cI, 8, .inl fl)), (o4, .inl (cI, 6, .inl fo))] [(cI, .int)])) (ct_qi (fun r => r = nI (ct_has la S K))) 0 0 (fun _ => False) := by
  refine Met.ofW (cc := b_M_has) (maxL := 4) (ret := (some .int)) (by decide) rfl ?_
  intro p e s m args below meth c s₁ Bd hml hv
  obtain ⟨hargs, hP, hK⟩ := hv
  have hx := Bd.exec
  have hb := Bd.bytes
  have hr := Bd.returns
  have hts : ∀ w ∈ k_M_has :: ct_tb, w.before args s = true := atoms_spec (ws := w_M_has) Bd.pre
  have hown : s.vm.findClass R_M = some m.cls := findClass_of_methodNamed Bd.named
  have hlocks := Bd.notSynchronized
  have hS : va_S (fun _ => False) s.heap s.heap [] := va_S.rf
  have hl := lv_entry ([.ref o0, .int (nI S)]) (n := 4) (Nat.le_of_ble_eq_true rfl)
  rw [show entryFrame m args 4 = entryFrame m (([.ref o0, .int (nI S)] : List Value)).toArray 4 by rw [hargs], lg_entry_eq]
  generalize (lg_sl ([.ref o0, .int (nI S)]) ++ List.replicate (4 - (lg_sl ([.ref o0, .int (nI S)])).length) Slot.unset).toArray = ls at hl ⊢
  have hl : lv_has ls 4 [(0, .ref o0), (1, .int (nI S))] := hl
  have loop : ∀ (n i : Nat), i + n = K → ∀ (ls : Array Slot), lv_has ls 4 [(0, .ref o0), (1, .int (nI S)), (2, .int (nI (ct_has la S i))), (3, .int (nI i))] → W p l e (headSpec w_M_has ({ frames := 0, cells := 0, slots := 0, locals := 0 } : Room)).room s m args below meth c s.heap [] 0 0 (MQ below (ct_qi (fun r => r = nI (ct_has la S K))) args s 0 0 (fun _ => False)) (F0 m 4 ls []) := by
    intro n
    induction n with
    | zero =>
      intro i hin ls hl
      refine lv_iload_n hx hb d_M_has_4 rfl (lv_at hl 3 rfl) ?_
      refine lv_aload_n hx hb d_M_has_5 rfl (lv_at hl 0 rfl) ?_
      refine va_get (D := (dC, dI)) (ci := 4) (v := .int (nI K)) (C := R_M) (T := T_M) (N := 14) hx hb hts (fun w h9 => ct_tl (ki_M w h9)) hown hK hP 0 rfl rfl 5 (by decide) (hts _ (ct_tl kw_524)) (fun _ h9 => h9) rfl d_M_has_6 ?_
      refine lv_icmp_ge (tgt := 45) hx hb d_M_has_9 (by decide) (fun _ => ?_) (fun hc9 => absurd (nI_le (by omega) (by omega)) hc9)
      refine lv_iload_n hx hb d_M_has_45 rfl (lv_at hl 2 rfl) ?_
      exact W.iret (v := (nI (ct_has la S i))) hx hb hr (fun tS ht hW => ⟨⟨(nI (ct_has la S i)), (), rfl, by rw [show i = K by omega], trivial⟩, hS.F ht⟩) hS.2.2 d_M_has_46
    | succ n ih =>
      intro i hin ls hl
      refine lv_iload_n hx hb d_M_has_4 rfl (lv_at hl 3 rfl) ?_
      refine lv_aload_n hx hb d_M_has_5 rfl (lv_at hl 0 rfl) ?_
      refine va_get (D := (dC, dI)) (ci := 4) (v := .int (nI K)) (C := R_M) (T := T_M) (N := 14) hx hb hts (fun w h9 => ct_tl (ki_M w h9)) hown hK hP 0 rfl rfl 5 (by decide) (hts _ (ct_tl kw_524)) (fun _ h9 => h9) rfl d_M_has_6 ?_
      refine lv_icmp_ge (tgt := 45) hx hb d_M_has_9 (by decide) (fun hc9 => absurd hc9 (nI_ge (by omega) (by omega))) (fun _ => ?_)
      refine lv_iload_n hx hb d_M_has_12 rfl (lv_at hl 1 rfl) ?_
      refine lv_iload_n hx hb d_M_has_13 rfl (lv_at hl 3 rfl) ?_
      refine lv_ishr hx hb d_M_has_14 ?_
      refine lv_iconst (v := (nI 1)) hx hb d_M_has_15 (by decide) ?_
      have hoi := hfo i (by omega)
      by_cases hbt : S.testBit i = true
      · refine lv_iand hx hb d_M_has_16 ?_
        refine ct_val (y := nI 1) (by rw [ct_bit hS31 (by omega), if_pos hbt]) ?_
        refine lv_iconst (v := (nI 1)) hx hb d_M_has_17 (by decide) ?_
        refine lv_icmp_ne (tgt := 37) hx hb d_M_has_18 (by decide) (fun hc9 => absurd (rfl) hc9) (fun _ => ?_)
        refine lv_iload_n hx hb d_M_has_21 rfl (lv_at hl 2 rfl) ?_
        refine lv_aload_n hx hb d_M_has_22 rfl (lv_at hl 0 rfl) ?_
        refine va_get (D := (dC, dI)) (ci := 4) (v := .ref o2) (C := R_M) (T := T_M) (N := 14) hx hb hts (fun w h9 => ct_tl (ki_M w h9)) hown hK hP 0 rfl rfl 3 (by decide) (hts _ (ct_tl kw_522)) (fun _ h9 => h9) rfl d_M_has_23 ?_
        refine lv_aload_n hx hb d_M_has_26 rfl (lv_at hl 0 rfl) ?_
        refine va_get (D := (dC, dI)) (ci := 4) (v := .ref o4) (C := R_M) (T := T_M) (N := 14) hx hb hts (fun w h9 => ct_tl (ki_M w h9)) hown hK hP 0 rfl rfl 6 (by decide) (hts _ (ct_tl kw_525)) (fun _ h9 => h9) rfl d_M_has_27 ?_
        refine lv_iload_n hx hb d_M_has_30 rfl (lv_at hl 3 rfl) ?_
        refine ct_iald hx hb hK hP 2 0 rfl rfl (j := i) (by omega) (by omega) d_M_has_31 ?_
        refine ct_val (y := nI (ot i)) (hoi.1) ?_
        refine ct_iald hx hb hK hP 1 0 rfl rfl (j := ot i) (by omega) (by omega) d_M_has_32 ?_
        refine ct_val (y := nI (la i)) (hfl i (by omega)) ?_
        refine lv_ior hx hb d_M_has_33 ?_
        refine ct_val (y := nI (ct_has la S (i + 1))) (by rw [ct_has_in hbt]; exact ct_or _ _) ?_
        refine lv_goto (tgt := 38) hx hb d_M_has_34 (by decide) ?_
        refine lv_istore_n (lv' := [(2, .int (nI (ct_has la S (i + 1)))), (0, .ref o0), (1, .int (nI S)), (3, .int (nI i))]) hx hb d_M_has_38 rfl hl (by decide) rfl (fun ls hl => ?_)
        refine lv_iinc (v := (nI (i + 1))) (lv' := [(3, .int (nI (i + 1))), (2, .int (nI (ct_has la S (i + 1)))), (0, .ref o0), (1, .int (nI S))]) hx hb d_M_has_39 hl (k := 3) rfl (nI_1 _) (by decide) rfl (fun ls hl => ?_)
        refine lv_goto (tgt := 4) hx hb d_M_has_42 (by decide) ?_
        exact ih (i + 1) (by omega) ls (lv_sub hl [2, 3, 1, 0] rfl)
      · refine lv_iand hx hb d_M_has_16 ?_
        refine ct_val (y := nI 0) (by rw [ct_bit hS31 (by omega), if_neg hbt]) ?_
        refine lv_iconst (v := (nI 1)) hx hb d_M_has_17 (by decide) ?_
        refine lv_icmp_ne (tgt := 37) hx hb d_M_has_18 (by decide) (fun _ => ?_) (fun hc9 => absurd hc9 (by decide))
        refine lv_iload_n hx hb d_M_has_37 rfl (lv_at hl 2 rfl) ?_
        refine lv_istore_n (lv' := [(2, .int (nI (ct_has la S i))), (0, .ref o0), (1, .int (nI S)), (3, .int (nI i))]) hx hb d_M_has_38 rfl hl (by decide) rfl (fun ls hl => ?_)
        refine lv_iinc (v := (nI (i + 1))) (lv' := [(3, .int (nI (i + 1))), (2, .int (nI (ct_has la S i))), (0, .ref o0), (1, .int (nI S))]) hx hb d_M_has_39 hl (k := 3) rfl (nI_1 _) (by decide) rfl (fun ls hl => ?_)
        refine lv_goto (tgt := 4) hx hb d_M_has_42 (by decide) ?_
        have e9 : ct_has la S (i + 1) = ct_has la S i := ct_has_out (by simpa using hbt)
        exact ih (i + 1) (by omega) ls (by rw [e9]; exact lv_sub hl [2, 3, 1, 0] rfl)
  refine lv_iconst (v := (nI 0)) hx hb d_M_has_0 (by decide) ?_
  refine lv_istore_n (lv' := [(2, .int (nI 0)), (0, .ref o0), (1, .int (nI S))]) hx hb d_M_has_1 rfl hl (by decide) rfl (fun ls hl => ?_)
  refine lv_iconst (v := (nI 0)) hx hb d_M_has_2 (by decide) ?_
  refine lv_istore_n (lv' := [(3, .int (nI 0)), (2, .int (nI 0)), (0, .ref o0), (1, .int (nI S))]) hx hb d_M_has_3 rfl hl (by decide) rfl (fun ls hl => ?_)
  exact loop K 0 (by omega) ls (lv_sub hl [2, 3, 1, 0] rfl)
theorem ct_co_I : ∀ K, K < 7 → ∀ S, S < 64 → S < 2 ^ K → nI (2 ^ K - 1) &&& (nI S ^^^ (-1)) = nI (ct_co K S) := by decide +kernel
set_option maxHeartbeats 4000000 in
set_option maxRecDepth 100000 in
theorem c_M_leaves (l : Launch) (dC : Nat → ClassId) (dI : Nat → Nat → Nat) (cI : ClassId) (o0 o1 o2 o3 o4 o5 o6 o7 o8 o9 : Nat) (thr tab : Int32) (K : Nat) (R : Nat) (stp : Int32) (fl fo : Nat → Int32) (la ot : Nat → Nat) (hK6 : K ≤ 6) (hfo : ∀ o, o < K → fo o = nI (ot o) ∧ ot o < 8) (hfl : ∀ o, o < K → fl (ot o) = nI (la o)) (S : Nat) (hS0 : 0 < S) (hSK : S < 2 ^ K) : Met l y_M_leaves w_M_leaves ({ frames := 1, cells := 0, slots := 0, locals := 23 }) (va_Pc [.ref o0, .int (nI S)] (ct_ro (dC, dI) ct_cl [(o0, .inr (4, [.int thr, .ref o1, .int tab, .ref o2, .ref o3, .int (nI K), .ref o4, .int (nI R), .ref o5, .ref o6, .int stp, .ref o7, .ref o8, .ref o9])), (o2, .inl (cI, 8, .inl fl)), (o4, .inl (cI, 6, .inl fo))] [(cI, .int)])) (ct_qi (fun r => r = nI (ct_lv la K R S))) 0 0 (fun _ => False) := by
  refine Met.ofW (cc := b_M_leaves) (maxL := 4) (ret := (some .int)) (by decide) rfl ?_
  intro p e s m args below meth c s₁ Bd hml hv
  obtain ⟨hargs, hP, hK⟩ := hv
  have hx := Bd.exec
  have hb := Bd.bytes
  have hr := Bd.returns
  have hts : ∀ w ∈ k_M_leaves :: ct_tb, w.before args s = true := atoms_spec (ws := w_M_leaves) Bd.pre
  have hown : s.vm.findClass R_M = some m.cls := findClass_of_methodNamed Bd.named
  have hlocks := Bd.notSynchronized
  have hS : va_S (fun _ => False) s.heap s.heap [] := va_S.rf
  have hl := lv_entry ([.ref o0, .int (nI S)]) (n := 4) (Nat.le_of_ble_eq_true rfl)
  rw [show entryFrame m args 4 = entryFrame m (([.ref o0, .int (nI S)] : List Value)).toArray 4 by rw [hargs], lg_entry_eq]
  generalize (lg_sl ([.ref o0, .int (nI S)]) ++ List.replicate (4 - (lg_sl ([.ref o0, .int (nI S)])).length) Slot.unset).toArray = ls at hl ⊢
  have hl : lv_has ls 4 [(0, .ref o0), (1, .int (nI S))] := hl
  have h2K := ct_2K K (by omega)
  have hco := ct_co_lt K (by omega) S (by omega) hSK
  refine lv_iload_n hx hb d_M_leaves_0 rfl (lv_at hl 1 rfl) ?_
  refine lv_iload_n hx hb d_M_leaves_1 rfl (lv_at hl 1 rfl) ?_
  refine lv_iconst (v := (nI 1)) hx hb d_M_leaves_2 (by decide) ?_
  refine lv_isub hx hb d_M_leaves_3 ?_
  refine lv_iand hx hb d_M_leaves_4 ?_
  refine lv_topi (fun v0 ev0 => ?_)
  by_cases hs : ct_sev S = true
  · refine lv_if_ne (tgt := 12) hx hb d_M_leaves_5 (by decide) (fun _ => ?_) (fun hc9 => absurd hc9 (fun z => Bool.false_ne_true (((ct_sev_I S (by omega) hS0).mp (ev0 ▸ z)).symm.trans hs)))
    refine lv_iconst (v := (nI 0)) hx hb d_M_leaves_12 (by decide) ?_
    refine lv_istore_n (lv' := [(2, .int (nI 0)), (0, .ref o0), (1, .int (nI S))]) hx hb d_M_leaves_13 rfl hl (by decide) rfl (fun ls hl => ?_)
    refine lv_aload_n hx hb d_M_leaves_14 rfl (lv_at hl 1 rfl) ?_
    refine lv_iconst (v := (nI 1)) hx hb d_M_leaves_15 (by decide) ?_
    refine lv_aload_n hx hb d_M_leaves_16 rfl (lv_at hl 1 rfl) ?_
    refine va_get (D := (dC, dI)) (ci := 4) (v := .int (nI K)) (C := R_M) (T := T_M) (N := 14) hx hb hts (fun w h9 => ct_tl (ki_M w h9)) hown hK hP 0 rfl rfl 5 (by decide) (hts _ (ct_tl kw_524)) (fun _ h9 => h9) rfl d_M_leaves_17 ?_
    refine lv_ishl hx hb d_M_leaves_20 ?_
    refine ct_val (y := nI (2 ^ K)) ((ct_shl 1 (by omega) (by omega)).trans (by rw [Nat.one_mul])) ?_
    refine lv_iconst (v := (nI 1)) hx hb d_M_leaves_21 (by decide) ?_
    refine lv_isub hx hb d_M_leaves_22 ?_
    refine ct_val (y := nI (2 ^ K - 1)) (pk_sub (by omega)) ?_
    refine lv_iload_n hx hb d_M_leaves_23 rfl (lv_at hl 2 rfl) ?_
    refine lv_iconst (v := (-1)) hx hb d_M_leaves_24 (by decide) ?_
    refine lv_ixor hx hb d_M_leaves_25 ?_
    refine lv_iand hx hb d_M_leaves_26 ?_
    refine ct_val (y := nI (ct_co K S)) (ct_co_I K (by omega) S (by omega) hSK) ?_
    refine va_calli (va_runV (As := [.int (nI (ct_co K S))]) (rest := []) ⟨hx, hb, hml, hown, hts⟩ (c_M_has l dC dI cI o0 o1 o2 o3 o4 o5 o6 o7 o8 o9 thr tab K (nI R) stp fl fo la ot hK6 hfo hfl (ct_co K S) (by omega)) (cwV 1 hts (ct_giV (fun w h9 => ct_tl h9) kw_628 kw_630 kw_21 kw_30 kw_631) rfl rfl rfl (by decide +kernel) ⟨Nat.le_of_ble_eq_true rfl, Nat.le_of_ble_eq_true rfl⟩) ⟨ct_ro_blind, va_recv hK hP (ci := 4) (q0 := 0) rfl rfl, ct_ro_pre (hP.sub [0, 1, 2] rfl) hK⟩ rfl rfl hl.1 rfl (lv_room (Nat.le_of_ble_eq_true rfl)) d_M_leaves_27 ⟨Nat.le_of_ble_eq_true rfl, Nat.le_of_ble_eq_true rfl⟩) hS (fun q _ h9 => h9.elim) (fun q h9 => h9.elim) (fun ans101 uS tS H locs ht hvm hwans101 hB hz1 hk1 hS => ?_)
    have hP := ct_keep hP hk1
    refine ct_val (y := nI (ct_has la (ct_co K S) K)) (hwans101) ?_
    refine lv_aload_n hx hb d_M_leaves_30 rfl (lv_at hl 1 rfl) ?_
    refine va_get (D := (dC, dI)) (ci := 4) (v := .int (nI R)) (C := R_M) (T := T_M) (N := 14) hx hb hts (fun w h9 => ct_tl (ki_M w h9)) hown hK hP 0 rfl rfl 7 (by decide) (hts _ (ct_tl kw_526)) (fun _ h9 => h9) rfl d_M_leaves_31 ?_
    refine lv_ior hx hb d_M_leaves_34 ?_
    refine ct_val (y := nI (R ||| ct_has la (ct_co K S) K)) (by rw [ct_or, Nat.or_comm]) ?_
    refine lv_istore_n (lv' := [(3, .int (nI (R ||| ct_has la (ct_co K S) K))), (2, .int (nI 0)), (0, .ref o0), (1, .int (nI S))]) hx hb d_M_leaves_35 rfl hl (by decide) rfl (fun ls hl => ?_)
    refine lv_iload_n hx hb d_M_leaves_36 rfl (lv_at hl 1 rfl) ?_
    refine lv_if_eq (tgt := 48) hx hb d_M_leaves_37 (by decide) (fun _ => ?_) (fun hc9 => absurd (nI_0) hc9)
    refine lv_aload_n hx hb d_M_leaves_48 rfl (lv_at hl 2 rfl) ?_
    refine lv_iload_n hx hb d_M_leaves_49 rfl (lv_at hl 3 rfl) ?_
    refine va_calli (va_runV (As := [.int (nI S)]) (rest := []) ⟨hx, hb, hml, hown, hts⟩ (c_M_has l dC dI cI o0 o1 o2 o3 o4 o5 o6 o7 o8 o9 thr tab K (nI R) stp fl fo la ot hK6 hfo hfl S (by omega)) (cwV 1 hts (ct_giV (fun w h9 => ct_tl h9) kw_628 kw_630 kw_21 kw_30 kw_631) rfl rfl rfl (by decide +kernel) ⟨Nat.le_of_ble_eq_true rfl, Nat.le_of_ble_eq_true rfl⟩) ⟨ct_ro_blind, va_recv hK hP (ci := 4) (q0 := 0) rfl rfl, ct_ro_pre (hP.sub [0, 1, 2] rfl) hK⟩ rfl rfl hl.1 rfl (lv_room (Nat.le_of_ble_eq_true rfl)) d_M_leaves_50 ⟨Nat.le_of_ble_eq_true rfl, Nat.le_of_ble_eq_true rfl⟩) hS (fun q _ h9 => h9.elim) (fun q h9 => h9.elim) (fun ans102 uS tS H locs ht hvm hwans102 hB hz1 hk1 hS => ?_)
    have hP := ct_keep hP hk1
    refine ct_val (y := nI (ct_has la S K)) (hwans102) ?_
    refine lv_iload_n hx hb d_M_leaves_53 rfl (lv_at hl 0 rfl) ?_
    refine lv_iand hx hb d_M_leaves_54 ?_
    refine ct_val (y := nI (ct_lv la K R S)) (by rw [ct_and, ct_lv, if_pos hs]) ?_
    exact W.iret (v := (nI (ct_lv la K R S))) hx hb hr (fun tS ht hW => ⟨⟨(nI (ct_lv la K R S)), (), rfl, rfl, trivial⟩, hS.F ht⟩) hS.2.2 d_M_leaves_55
  · refine lv_if_ne (tgt := 12) hx hb d_M_leaves_5 (by decide) (fun hc9 => absurd (by rw [ev0]; exact (ct_sev_I S (by omega) hS0).mpr (by simpa using hs)) hc9) (fun _ => ?_)
    refine lv_iconst (v := (nI 1)) hx hb d_M_leaves_8 (by decide) ?_
    refine lv_goto (tgt := 13) hx hb d_M_leaves_9 (by decide) ?_
    refine lv_istore_n (lv' := [(2, .int (nI 1)), (0, .ref o0), (1, .int (nI S))]) hx hb d_M_leaves_13 rfl hl (by decide) rfl (fun ls hl => ?_)
    refine lv_aload_n hx hb d_M_leaves_14 rfl (lv_at hl 1 rfl) ?_
    refine lv_iconst (v := (nI 1)) hx hb d_M_leaves_15 (by decide) ?_
    refine lv_aload_n hx hb d_M_leaves_16 rfl (lv_at hl 1 rfl) ?_
    refine va_get (D := (dC, dI)) (ci := 4) (v := .int (nI K)) (C := R_M) (T := T_M) (N := 14) hx hb hts (fun w h9 => ct_tl (ki_M w h9)) hown hK hP 0 rfl rfl 5 (by decide) (hts _ (ct_tl kw_524)) (fun _ h9 => h9) rfl d_M_leaves_17 ?_
    refine lv_ishl hx hb d_M_leaves_20 ?_
    refine ct_val (y := nI (2 ^ K)) ((ct_shl 1 (by omega) (by omega)).trans (by rw [Nat.one_mul])) ?_
    refine lv_iconst (v := (nI 1)) hx hb d_M_leaves_21 (by decide) ?_
    refine lv_isub hx hb d_M_leaves_22 ?_
    refine ct_val (y := nI (2 ^ K - 1)) (pk_sub (by omega)) ?_
    refine lv_iload_n hx hb d_M_leaves_23 rfl (lv_at hl 2 rfl) ?_
    refine lv_iconst (v := (-1)) hx hb d_M_leaves_24 (by decide) ?_
    refine lv_ixor hx hb d_M_leaves_25 ?_
    refine lv_iand hx hb d_M_leaves_26 ?_
    refine ct_val (y := nI (ct_co K S)) (ct_co_I K (by omega) S (by omega) hSK) ?_
    refine va_calli (va_runV (As := [.int (nI (ct_co K S))]) (rest := []) ⟨hx, hb, hml, hown, hts⟩ (c_M_has l dC dI cI o0 o1 o2 o3 o4 o5 o6 o7 o8 o9 thr tab K (nI R) stp fl fo la ot hK6 hfo hfl (ct_co K S) (by omega)) (cwV 1 hts (ct_giV (fun w h9 => ct_tl h9) kw_628 kw_630 kw_21 kw_30 kw_631) rfl rfl rfl (by decide +kernel) ⟨Nat.le_of_ble_eq_true rfl, Nat.le_of_ble_eq_true rfl⟩) ⟨ct_ro_blind, va_recv hK hP (ci := 4) (q0 := 0) rfl rfl, ct_ro_pre (hP.sub [0, 1, 2] rfl) hK⟩ rfl rfl hl.1 rfl (lv_room (Nat.le_of_ble_eq_true rfl)) d_M_leaves_27 ⟨Nat.le_of_ble_eq_true rfl, Nat.le_of_ble_eq_true rfl⟩) hS (fun q _ h9 => h9.elim) (fun q h9 => h9.elim) (fun ans101 uS tS H locs ht hvm hwans101 hB hz1 hk1 hS => ?_)
    have hP := ct_keep hP hk1
    refine ct_val (y := nI (ct_has la (ct_co K S) K)) (hwans101) ?_
    refine lv_aload_n hx hb d_M_leaves_30 rfl (lv_at hl 1 rfl) ?_
    refine va_get (D := (dC, dI)) (ci := 4) (v := .int (nI R)) (C := R_M) (T := T_M) (N := 14) hx hb hts (fun w h9 => ct_tl (ki_M w h9)) hown hK hP 0 rfl rfl 7 (by decide) (hts _ (ct_tl kw_526)) (fun _ h9 => h9) rfl d_M_leaves_31 ?_
    refine lv_ior hx hb d_M_leaves_34 ?_
    refine ct_val (y := nI (R ||| ct_has la (ct_co K S) K)) (by rw [ct_or, Nat.or_comm]) ?_
    refine lv_istore_n (lv' := [(3, .int (nI (R ||| ct_has la (ct_co K S) K))), (2, .int (nI 1)), (0, .ref o0), (1, .int (nI S))]) hx hb d_M_leaves_35 rfl hl (by decide) rfl (fun ls hl => ?_)
    refine lv_iload_n hx hb d_M_leaves_36 rfl (lv_at hl 1 rfl) ?_
    refine lv_if_eq (tgt := 48) hx hb d_M_leaves_37 (by decide) (fun hc9 => absurd hc9 (nI_ne0 (by omega) (by omega))) (fun _ => ?_)
    refine lv_aload_n hx hb d_M_leaves_40 rfl (lv_at hl 2 rfl) ?_
    refine lv_iload_n hx hb d_M_leaves_41 rfl (lv_at hl 3 rfl) ?_
    refine va_calli (va_runV (As := [.int (nI S)]) (rest := []) ⟨hx, hb, hml, hown, hts⟩ (c_M_has l dC dI cI o0 o1 o2 o3 o4 o5 o6 o7 o8 o9 thr tab K (nI R) stp fl fo la ot hK6 hfo hfl S (by omega)) (cwV 1 hts (ct_giV (fun w h9 => ct_tl h9) kw_628 kw_630 kw_21 kw_30 kw_631) rfl rfl rfl (by decide +kernel) ⟨Nat.le_of_ble_eq_true rfl, Nat.le_of_ble_eq_true rfl⟩) ⟨ct_ro_blind, va_recv hK hP (ci := 4) (q0 := 0) rfl rfl, ct_ro_pre (hP.sub [0, 1, 2] rfl) hK⟩ rfl rfl hl.1 rfl (lv_room (Nat.le_of_ble_eq_true rfl)) d_M_leaves_42 ⟨Nat.le_of_ble_eq_true rfl, Nat.le_of_ble_eq_true rfl⟩) hS (fun q _ h9 => h9.elim) (fun q h9 => h9.elim) (fun ans102 uS tS H locs ht hvm hwans102 hB hz1 hk1 hS => ?_)
    have hP := ct_keep hP hk1
    refine ct_val (y := nI (ct_has la S K)) (hwans102) ?_
    refine lv_goto (tgt := 55) hx hb d_M_leaves_45 (by decide) ?_
    exact W.iret (v := (nI (ct_has la S K))) hx hb hr (fun tS ht hW => ⟨⟨(nI (ct_has la S K)), (), rfl, by rw [ct_lv, if_neg hs], trivial⟩, hS.F ht⟩) hS.2.2 d_M_leaves_55
set_option maxHeartbeats 4000000 in
set_option maxRecDepth 100000 in
theorem c_M_joins (l : Launch) (dC : Nat → ClassId) (dI : Nat → Nat → Nat) (cI : ClassId) (o0 o1 o2 o3 o4 o5 o6 o7 o8 o9 : Nat) (thr tab : Int32) (K : Nat) (R : Nat) (stp : Int32) (fl fo : Nat → Int32) (la ot : Nat → Nat) (hK6 : K ≤ 6) (hfo : ∀ o, o < K → fo o = nI (ot o) ∧ ot o < 8) (hfl : ∀ o, o < K → fl (ot o) = nI (la o)) (sz : Nat → Nat) (hla : ∀ k, k < K → la k < 256) (a b : Nat) (ha0 : 0 < a) (haK : a < 2 ^ K) (hb0 : 0 < b) (hbK : b < 2 ^ K) : Met l y_M_joins w_M_joins ({ frames := 2, cells := 0, slots := 0, locals := 46 }) (va_Pc [.ref o0, .int (nI a), .int (nI b)] (ct_ro (dC, dI) ct_cl [(o0, .inr (4, [.int thr, .ref o1, .int tab, .ref o2, .ref o3, .int (nI K), .ref o4, .int (nI R), .ref o5, .ref o6, .int stp, .ref o7, .ref o8, .ref o9])), (o2, .inl (cI, 8, .inl fl)), (o4, .inl (cI, 6, .inl fo)), (o1, .inl (cI, 8, .inl (fun j => nI (sz j))))] [(cI, .int)])) (ct_qi (fun r => r = nI (ct_jc sz la K R a b))) 0 0 (fun _ => False) := by
  refine Met.ofW (cc := b_M_joins) (maxL := 3) (ret := (some .int)) (by decide) rfl ?_
  intro p e s m args below meth c s₁ Bd hml hv
  obtain ⟨hargs, hP, hK⟩ := hv
  have hx := Bd.exec
  have hb := Bd.bytes
  have hr := Bd.returns
  have hts : ∀ w ∈ k_M_joins :: ct_tb, w.before args s = true := atoms_spec (ws := w_M_joins) Bd.pre
  have hown : s.vm.findClass R_M = some m.cls := findClass_of_methodNamed Bd.named
  have hlocks := Bd.notSynchronized
  have hS : va_S (fun _ => False) s.heap s.heap [] := va_S.rf
  have hl := lv_entry ([.ref o0, .int (nI a), .int (nI b)]) (n := 3) (Nat.le_of_ble_eq_true rfl)
  rw [show entryFrame m args 3 = entryFrame m (([.ref o0, .int (nI a), .int (nI b)] : List Value)).toArray 3 by rw [hargs], lg_entry_eq]
  generalize (lg_sl ([.ref o0, .int (nI a), .int (nI b)]) ++ List.replicate (3 - (lg_sl ([.ref o0, .int (nI a), .int (nI b)])).length) Slot.unset).toArray = ls at hl ⊢
  have hl : lv_has ls 3 [(0, .ref o0), (1, .int (nI a)), (2, .int (nI b))] := hl
  refine lv_aload_n hx hb d_M_joins_0 rfl (lv_at hl 0 rfl) ?_
  refine lv_aload_n hx hb d_M_joins_1 rfl (lv_at hl 0 rfl) ?_
  refine lv_iload_n hx hb d_M_joins_2 rfl (lv_at hl 1 rfl) ?_
  refine va_calli (va_runV (As := [.int (nI a)]) (rest := [.ref o0]) ⟨hx, hb, hml, hown, hts⟩ (c_M_leaves l dC dI cI o0 o1 o2 o3 o4 o5 o6 o7 o8 o9 thr tab K R stp fl fo la ot hK6 hfo hfl a ha0 haK) (cwV 1 hts (ct_giV (fun w h9 => ct_tl h9) kw_624 kw_626 kw_20 kw_30 kw_627) rfl rfl rfl (by decide +kernel) ⟨Nat.le_of_ble_eq_true rfl, Nat.le_of_ble_eq_true rfl⟩) ⟨ct_ro_blind, va_recv hK hP (ci := 4) (q0 := 0) rfl rfl, ct_ro_pre (hP.sub [0, 1, 2] rfl) hK⟩ rfl rfl hl.1 rfl (lv_room (Nat.le_of_ble_eq_true rfl)) d_M_joins_3 ⟨Nat.le_of_ble_eq_true rfl, Nat.le_of_ble_eq_true rfl⟩) hS (fun q _ h9 => h9.elim) (fun q h9 => h9.elim) (fun ans1 uS tS H locs ht hvm hwans1 hB hz1 hk1 hS => ?_)
  have hP := ct_keep hP hk1
  refine ct_val (y := nI (ct_lv la K R a)) (hwans1) ?_
  refine lv_aload_n hx hb d_M_joins_6 rfl (lv_at hl 0 rfl) ?_
  refine lv_iload_n hx hb d_M_joins_7 rfl (lv_at hl 2 rfl) ?_
  refine va_calli (va_runV (As := [.int (nI b)]) (rest := [.int (nI (ct_lv la K R a)), .ref o0]) ⟨hx, hb, hml, hown, hts⟩ (c_M_leaves l dC dI cI o0 o1 o2 o3 o4 o5 o6 o7 o8 o9 thr tab K R stp fl fo la ot hK6 hfo hfl b hb0 hbK) (cwV 1 hts (ct_giV (fun w h9 => ct_tl h9) kw_624 kw_626 kw_20 kw_30 kw_627) rfl rfl rfl (by decide +kernel) ⟨Nat.le_of_ble_eq_true rfl, Nat.le_of_ble_eq_true rfl⟩) ⟨ct_ro_blind, va_recv hK hP (ci := 4) (q0 := 0) rfl rfl, ct_ro_pre (hP.sub [0, 1, 2] rfl) hK⟩ rfl rfl hl.1 rfl (lv_room (Nat.le_of_ble_eq_true rfl)) d_M_joins_8 ⟨Nat.le_of_ble_eq_true rfl, Nat.le_of_ble_eq_true rfl⟩) hS (fun q _ h9 => h9.elim) (fun q h9 => h9.elim) (fun ans2 uS tS H locs ht hvm hwans2 hB hz1 hk1 hS => ?_)
  have hP := ct_keep hP hk1
  refine ct_val (y := nI (ct_lv la K R b)) (hwans2) ?_
  refine lv_ior hx hb d_M_joins_11 ?_
  refine ct_val (y := nI (ct_lv la K R a ||| ct_lv la K R b)) (ct_or _ _) ?_
  refine va_calli (va_runV (As := [.int (nI (ct_lv la K R a ||| ct_lv la K R b))]) (rest := []) ⟨hx, hb, hml, hown, hts⟩ (c_M_product l dC dI cI o0 o1 o2 o3 o4 o5 o6 o7 o8 o9 thr tab (nI K) (nI R) stp sz (ct_lv la K R a ||| ct_lv la K R b) (Nat.lt_trans (Nat.or_lt_two_pow (n := 8) (ct_lv_lt hla) (ct_lv_lt hla)) (by omega))) (cwV 1 hts (ct_giV (fun w h9 => ct_tl h9) kw_592 kw_594 kw_17 kw_30 kw_595) rfl rfl rfl (by decide +kernel) ⟨Nat.le_of_ble_eq_true rfl, Nat.le_of_ble_eq_true rfl⟩) ⟨ct_ro_blind, va_recv hK hP (ci := 4) (q0 := 0) rfl rfl, ct_ro_pre (hP.sub [0, 3] rfl) hK⟩ rfl rfl hl.1 rfl (lv_room (Nat.le_of_ble_eq_true rfl)) d_M_joins_12 ⟨Nat.le_of_ble_eq_true rfl, Nat.le_of_ble_eq_true rfl⟩) hS (fun q _ h9 => h9.elim) (fun q h9 => h9.elim) (fun ans3 uS tS H locs ht hvm hwans3 hB hz1 hk1 hS => ?_)
  have hP := ct_keep hP hk1
  refine ct_val (y := nI (ct_pr sz (ct_lv la K R a ||| ct_lv la K R b).testBit 8)) (hwans3) ?_
  exact W.iret (v := (nI (ct_pr sz (ct_lv la K R a ||| ct_lv la K R b).testBit 8))) hx hb hr (fun tS ht hW => ⟨⟨(nI (ct_pr sz (ct_lv la K R a ||| ct_lv la K R b).testBit 8)), (), rfl, rfl, trivial⟩, hS.F ht⟩) hS.2.2 d_M_joins_15
set_option maxHeartbeats 4000000 in
set_option maxRecDepth 100000 in
theorem c_M_at (l : Launch) (dC : Nat → ClassId) (dI : Nat → Nat → Nat) (cI : ClassId) (o0 o1 o2 o3 o4 o5 o6 o7 o8 o9 : Nat) (thr tab ops res stp : Int32) (sz t : Nat → Nat) (M : Nat) (hM : M < 2 ^ 31) : Met l y_M_at w_M_at ({ frames := 0, cells := 0, slots := 0, locals := 0 }) (va_Pc [.ref o0, .int (nI M)] (ct_ro (dC, dI) ct_cl [(o0, .inr (4, [.int thr, .ref o1, .int tab, .ref o2, .ref o3, .int ops, .ref o4, .int res, .ref o5, .ref o6, .int stp, .ref o7, .ref o8, .ref o9])), (o1, .inl (cI, 8, .inl (fun j => nI (sz j)))), (o9, .inl (cI, 8, .inl (fun j => nI (t j))))] [(cI, .int)])) (ct_qi (fun r => r = nI (ct_ix sz M.testBit 8 t))) 0 0 (fun _ => False) := by
  refine Met.ofW (cc := b_M_at) (maxL := 4) (ret := (some .int)) (by decide) rfl ?_
  intro p e s m args below meth c s₁ Bd hml hv
  obtain ⟨hargs, hP, hK⟩ := hv
  have hx := Bd.exec
  have hb := Bd.bytes
  have hr := Bd.returns
  have hts : ∀ w ∈ k_M_at :: ct_tb, w.before args s = true := atoms_spec (ws := w_M_at) Bd.pre
  have hown : s.vm.findClass R_M = some m.cls := findClass_of_methodNamed Bd.named
  have hlocks := Bd.notSynchronized
  have hS : va_S (fun _ => False) s.heap s.heap [] := va_S.rf
  have hl := lv_entry ([.ref o0, .int (nI M)]) (n := 4) (Nat.le_of_ble_eq_true rfl)
  rw [show entryFrame m args 4 = entryFrame m (([.ref o0, .int (nI M)] : List Value)).toArray 4 by rw [hargs], lg_entry_eq]
  generalize (lg_sl ([.ref o0, .int (nI M)]) ++ List.replicate (4 - (lg_sl ([.ref o0, .int (nI M)])).length) Slot.unset).toArray = ls at hl ⊢
  have hl : lv_has ls 4 [(0, .ref o0), (1, .int (nI M))] := hl
  have loop : ∀ (n i : Nat), i + n = 8 → ∀ (ls : Array Slot), lv_has ls 4 [(0, .ref o0), (1, .int (nI M)), (2, .int (nI (ct_ix sz M.testBit i t))), (3, .int (nI i))] → W p l e (headSpec w_M_at ({ frames := 0, cells := 0, slots := 0, locals := 0 } : Room)).room s m args below meth c s.heap [] 0 0 (MQ below (ct_qi (fun r => r = nI (ct_ix sz M.testBit 8 t))) args s 0 0 (fun _ => False)) (F0 m 4 ls []) := by
    intro n
    induction n with
    | zero =>
      intro i hin ls hl
      refine lv_iload_n hx hb d_M_at_4 rfl (lv_at hl 3 rfl) ?_
      refine lv_bipush (v := (nI 8)) hx hb d_M_at_5 (by decide) ?_
      refine lv_icmp_ge (tgt := 45) hx hb d_M_at_7 (by decide) (fun _ => ?_) (fun hc9 => absurd (nI_le (by omega) (by omega)) hc9)
      refine lv_iload_n hx hb d_M_at_45 rfl (lv_at hl 2 rfl) ?_
      exact W.iret (v := (nI (ct_ix sz M.testBit i t))) hx hb hr (fun tS ht hW => ⟨⟨(nI (ct_ix sz M.testBit i t)), (), rfl, by rw [show i = 8 by omega], trivial⟩, hS.F ht⟩) hS.2.2 d_M_at_46
    | succ n ih =>
      intro i hin ls hl
      refine lv_iload_n hx hb d_M_at_4 rfl (lv_at hl 3 rfl) ?_
      refine lv_bipush (v := (nI 8)) hx hb d_M_at_5 (by decide) ?_
      refine lv_icmp_ge (tgt := 45) hx hb d_M_at_7 (by decide) (fun hc9 => absurd hc9 (nI_ge (by omega) (by omega))) (fun _ => ?_)
      refine lv_iload_n hx hb d_M_at_10 rfl (lv_at hl 1 rfl) ?_
      refine lv_iload_n hx hb d_M_at_11 rfl (lv_at hl 3 rfl) ?_
      refine lv_ishr hx hb d_M_at_12 ?_
      refine lv_iconst (v := (nI 1)) hx hb d_M_at_13 (by decide) ?_
      by_cases hbt : M.testBit i = true
      · refine lv_iand hx hb d_M_at_14 ?_
        refine ct_val (y := nI 1) (by rw [ct_bit hM (by omega), if_pos hbt]) ?_
        refine lv_iconst (v := (nI 1)) hx hb d_M_at_15 (by decide) ?_
        refine lv_icmp_ne (tgt := 37) hx hb d_M_at_16 (by decide) (fun hc9 => absurd (rfl) hc9) (fun _ => ?_)
        refine lv_aload_n hx hb d_M_at_19 rfl (lv_at hl 0 rfl) ?_
        refine va_get (D := (dC, dI)) (ci := 4) (v := .ref o1) (C := R_M) (T := T_M) (N := 14) hx hb hts (fun w h9 => ct_tl (ki_M w h9)) hown hK hP 0 rfl rfl 1 (by decide) (hts _ (ct_tl kw_520)) (fun _ h9 => h9) rfl d_M_at_20 ?_
        refine lv_iload_n hx hb d_M_at_23 rfl (lv_at hl 3 rfl) ?_
        refine ct_iald hx hb hK hP 1 0 rfl rfl (j := i) (by omega) (by omega) d_M_at_24 ?_
        refine ct_val (y := nI (sz i)) (rfl) ?_
        refine lv_iload_n hx hb d_M_at_25 rfl (lv_at hl 2 rfl) ?_
        refine lv_imul hx hb d_M_at_26 ?_
        refine ct_val (y := nI (sz i * ct_ix sz M.testBit i t)) (pk_mul _ _) ?_
        refine lv_aload_n hx hb d_M_at_27 rfl (lv_at hl 0 rfl) ?_
        refine va_get (D := (dC, dI)) (ci := 4) (v := .ref o9) (C := R_M) (T := T_M) (N := 14) hx hb hts (fun w h9 => ct_tl (ki_M w h9)) hown hK hP 0 rfl rfl 13 (by decide) (hts _ (ct_tl kw_532)) (fun _ h9 => h9) rfl d_M_at_28 ?_
        refine lv_iload_n hx hb d_M_at_31 rfl (lv_at hl 3 rfl) ?_
        refine ct_iald hx hb hK hP 2 0 rfl rfl (j := i) (by omega) (by omega) d_M_at_32 ?_
        refine ct_val (y := nI (t i)) (rfl) ?_
        refine lv_iadd hx hb d_M_at_33 ?_
        refine ct_val (y := nI (ct_ix sz M.testBit (i + 1) t)) (by rw [ct_ix_in hbt, Nat.mul_comm]; exact nI_add _ _) ?_
        refine lv_goto (tgt := 38) hx hb d_M_at_34 (by decide) ?_
        refine lv_istore_n (lv' := [(2, .int (nI (ct_ix sz M.testBit (i + 1) t))), (0, .ref o0), (1, .int (nI M)), (3, .int (nI i))]) hx hb d_M_at_38 rfl hl (by decide) rfl (fun ls hl => ?_)
        refine lv_iinc (v := (nI (i + 1))) (lv' := [(3, .int (nI (i + 1))), (2, .int (nI (ct_ix sz M.testBit (i + 1) t))), (0, .ref o0), (1, .int (nI M))]) hx hb d_M_at_39 hl (k := 3) rfl (nI_1 _) (by decide) rfl (fun ls hl => ?_)
        refine lv_goto (tgt := 4) hx hb d_M_at_42 (by decide) ?_
        exact ih (i + 1) (by omega) ls (lv_sub hl [2, 3, 1, 0] rfl)
      · refine lv_iand hx hb d_M_at_14 ?_
        refine ct_val (y := nI 0) (by rw [ct_bit hM (by omega), if_neg hbt]) ?_
        refine lv_iconst (v := (nI 1)) hx hb d_M_at_15 (by decide) ?_
        refine lv_icmp_ne (tgt := 37) hx hb d_M_at_16 (by decide) (fun _ => ?_) (fun hc9 => absurd hc9 (by decide))
        refine lv_iload_n hx hb d_M_at_37 rfl (lv_at hl 2 rfl) ?_
        refine lv_istore_n (lv' := [(2, .int (nI (ct_ix sz M.testBit i t))), (0, .ref o0), (1, .int (nI M)), (3, .int (nI i))]) hx hb d_M_at_38 rfl hl (by decide) rfl (fun ls hl => ?_)
        refine lv_iinc (v := (nI (i + 1))) (lv' := [(3, .int (nI (i + 1))), (2, .int (nI (ct_ix sz M.testBit i t))), (0, .ref o0), (1, .int (nI M))]) hx hb d_M_at_39 hl (k := 3) rfl (nI_1 _) (by decide) rfl (fun ls hl => ?_)
        refine lv_goto (tgt := 4) hx hb d_M_at_42 (by decide) ?_
        have e9 : ct_ix sz M.testBit (i + 1) t = ct_ix sz M.testBit i t := ct_ix_out (by simpa using hbt) t
        exact ih (i + 1) (by omega) ls (by rw [e9]; exact lv_sub hl [2, 3, 1, 0] rfl)
  refine lv_iconst (v := (nI 0)) hx hb d_M_at_0 (by decide) ?_
  refine lv_istore_n (lv' := [(2, .int (nI 0)), (0, .ref o0), (1, .int (nI M))]) hx hb d_M_at_1 rfl hl (by decide) rfl (fun ls hl => ?_)
  refine lv_iconst (v := (nI 0)) hx hb d_M_at_2 (by decide) ?_
  refine lv_istore_n (lv' := [(3, .int (nI 0)), (2, .int (nI 0)), (0, .ref o0), (1, .int (nI M))]) hx hb d_M_at_3 rfl hl (by decide) rfl (fun ls hl => ?_)
  exact loop 8 0 rfl ls (lv_sub hl [2, 3, 1, 0] rfl)
theorem ct_al_iff {a b d : Int32} : ct_al a b d = true ↔ (¬ a < -1 ∧ ¬ nI 8 ≤ a ∧ ¬ b < -1 ∧ ¬ nI 8 ≤ b ∧ ¬ d < -1 ∧ ¬ nI 8 ≤ d ∧ (b = -1 ∨ (¬ a = -1 ∧ ¬ b ≤ a)) ∧ (d = -1 ∨ (¬ b = -1 ∧ ¬ d ≤ b))) := by
  constructor
  · intro h
    have hi := ct_al_isl h
    have hr : ∀ x, ct_isl x → ¬ x < -1 ∧ ¬ nI 8 ≤ x := by
      intro x hx
      rcases hx with rfl | ⟨k, hk, rfl⟩
      · exact ⟨by decide, by decide⟩
      · refine ⟨fun z => ?_, nI_ge hk (by omega)⟩
        have e1 := Int32.lt_iff_toInt_lt.mp z
        have e3 : (-1 : Int32).toInt = -1 := by decide
        rw [nI_toInt (by omega)] at e1
        omega
    have h : ((¬ a < -1 ∧ ¬ nI 8 ≤ a) ∧ ct_mf a b = true) ∧ ct_mf b d = true := by simpa [ct_al] using h
    have m : ∀ x y, ct_mf x y = true → y = -1 ∨ (¬ x = -1 ∧ ¬ y ≤ x) := by
      intro x y hm
      by_cases hy : y = -1
      · exact Or.inl hy
      · have hm : (¬ x = -1 ∧ ¬ y ≤ x) ∧ ¬ nI 8 ≤ y := by simpa [ct_mf, hy] using hm
        exact Or.inr hm.1
    exact ⟨h.1.1.1, h.1.1.2, (hr b hi.2.1).1, (hr b hi.2.1).2, (hr d hi.2.2).1, (hr d hi.2.2).2, m a b h.1.2, m b d h.2⟩
  · rintro ⟨h1, h2, h3, h4, h5, h6, h7, h8⟩
    have m1 : ct_mf a b = true := by
      rcases h7 with h | h
      · simp [ct_mf, h]
      · simp [ct_mf, h.1, h.2, h4]
    have m2 : ct_mf b d = true := by
      rcases h8 with h | h
      · simp [ct_mf, h]
      · simp [ct_mf, h.1, h.2, h6]
    simp [ct_al, h1, h2, m1, m2]
theorem ct_lb_shl {x : Int32} (h : ct_isl x) (hn : ¬ x = -1) : nI 1 <<< (x &&& 31) = nI (ct_lb x) := by
  obtain ⟨k, hk, rfl⟩ := h.resolve_left hn
  rw [ct_lb_nI hk]
  exact (ct_shl 1 (by omega) (by have := ct_2lt k hk; omega)).trans (by rw [Nat.one_mul])
theorem ct_lb_no {x : Int32} (h : x = -1) : ct_lb x = 0 := if_pos h
set_option maxHeartbeats 4000000 in
set_option maxRecDepth 100000 in
theorem c_M_bits (l : Launch) (dC : Nat → ClassId) (dI : Nat → Nat → Nat) (cI : ClassId) (a b d : Int32) : Met l y_M_bits w_M_bits ({ frames := 0, cells := 0, slots := 0, locals := 0 }) (va_Pc [.int a, .int b, .int d] (ct_ro (dC, dI) ct_cl [] [(cI, .int)])) (ct_qi (fun r => r = if ct_al a b d = true then nI (ct_lbs a b d) else -1)) 0 0 (fun _ => False) := by
  refine Met.ofW (cc := b_M_bits) (maxL := 5) (ret := (some .int)) (by decide) rfl ?_
  intro p e s m args below meth c s₁ Bd hml hv
  obtain ⟨hargs, hP, hK⟩ := hv
  have hx := Bd.exec
  have hb := Bd.bytes
  have hr := Bd.returns
  have hts : ∀ w ∈ k_M_bits :: ct_tb, w.before args s = true := atoms_spec (ws := w_M_bits) Bd.pre
  have hown : s.vm.findClass R_M = some m.cls := findClass_of_methodNamed Bd.named
  have hlocks := Bd.notSynchronized
  have hS : va_S (fun _ => False) s.heap s.heap [] := va_S.rf
  have hl := lv_entry ([.int a, .int b, .int d]) (n := 5) (Nat.le_of_ble_eq_true rfl)
  rw [show entryFrame m args 5 = entryFrame m (([.int a, .int b, .int d] : List Value)).toArray 5 by rw [hargs], lg_entry_eq]
  generalize (lg_sl ([.int a, .int b, .int d]) ++ List.replicate (5 - (lg_sl ([.int a, .int b, .int d])).length) Slot.unset).toArray = ls at hl ⊢
  have hl : lv_has ls 5 [(0, .int a), (1, .int b), (2, .int d)] := hl
  refine lv_iload_n hx hb d_M_bits_0 rfl (lv_at hl 0 rfl) ?_
  refine lv_iconst (v := (-1)) hx hb d_M_bits_1 (by decide) ?_
  by_cases c0 : a < -1
  · refine lv_icmp_lt (tgt := 37) hx hb d_M_bits_2 (by decide) (fun _ => ?_) (fun hc9 => absurd (c0) hc9)
    refine lv_iconst (v := (nI 0)) hx hb d_M_bits_37 (by decide) ?_
    refine lv_istore_n (lv' := [(3, .int (nI 0)), (0, .int a), (1, .int b), (2, .int d)]) hx hb d_M_bits_38 rfl hl (by decide) rfl (fun ls hl => ?_)
    refine lv_iload_n hx hb d_M_bits_39 rfl (lv_at hl 0 rfl) ?_
    refine lv_if_eq (tgt := 77) hx hb d_M_bits_40 (by decide) (fun _ => ?_) (fun hc9 => absurd (nI_0) hc9)
    refine lv_iconst (v := (nI 0)) hx hb d_M_bits_77 (by decide) ?_
    refine lv_istore_n (lv' := [(3, .int (nI 0)), (0, .int a), (1, .int b), (2, .int d)]) hx hb d_M_bits_78 rfl hl (by decide) rfl (fun ls hl => ?_)
    refine lv_iload_n hx hb d_M_bits_79 rfl (lv_at hl 0 rfl) ?_
    refine lv_if_ne (tgt := 85) hx hb d_M_bits_80 (by decide) (fun hc9 => absurd (nI_0) hc9) (fun _ => ?_)
    refine lv_iconst (v := (-1)) hx hb d_M_bits_83 (by decide) ?_
    exact W.iret (v := (-1)) hx hb hr (fun tS ht hW => ⟨⟨(-1), (), rfl, by rw [if_neg (fun hq => absurd (ct_al_iff.mp hq) (by simp [c0]))], trivial⟩, hS.F ht⟩) hS.2.2 d_M_bits_84
  · refine lv_icmp_lt (tgt := 37) hx hb d_M_bits_2 (by decide) (fun hc9 => absurd hc9 (c0)) (fun _ => ?_)
    refine lv_iload_n hx hb d_M_bits_5 rfl (lv_at hl 0 rfl) ?_
    refine lv_bipush (v := (nI 8)) hx hb d_M_bits_6 (by decide) ?_
    by_cases c1 : (nI 8) ≤ a
    · refine lv_icmp_ge (tgt := 37) hx hb d_M_bits_8 (by decide) (fun _ => ?_) (fun hc9 => absurd (c1) hc9)
      refine lv_iconst (v := (nI 0)) hx hb d_M_bits_37 (by decide) ?_
      refine lv_istore_n (lv' := [(3, .int (nI 0)), (0, .int a), (1, .int b), (2, .int d)]) hx hb d_M_bits_38 rfl hl (by decide) rfl (fun ls hl => ?_)
      refine lv_iload_n hx hb d_M_bits_39 rfl (lv_at hl 0 rfl) ?_
      refine lv_if_eq (tgt := 77) hx hb d_M_bits_40 (by decide) (fun _ => ?_) (fun hc9 => absurd (nI_0) hc9)
      refine lv_iconst (v := (nI 0)) hx hb d_M_bits_77 (by decide) ?_
      refine lv_istore_n (lv' := [(3, .int (nI 0)), (0, .int a), (1, .int b), (2, .int d)]) hx hb d_M_bits_78 rfl hl (by decide) rfl (fun ls hl => ?_)
      refine lv_iload_n hx hb d_M_bits_79 rfl (lv_at hl 0 rfl) ?_
      refine lv_if_ne (tgt := 85) hx hb d_M_bits_80 (by decide) (fun hc9 => absurd (nI_0) hc9) (fun _ => ?_)
      refine lv_iconst (v := (-1)) hx hb d_M_bits_83 (by decide) ?_
      exact W.iret (v := (-1)) hx hb hr (fun tS ht hW => ⟨⟨(-1), (), rfl, by rw [if_neg (fun hq => absurd (ct_al_iff.mp hq) (by simp [c0, c1]))], trivial⟩, hS.F ht⟩) hS.2.2 d_M_bits_84
    · refine lv_icmp_ge (tgt := 37) hx hb d_M_bits_8 (by decide) (fun hc9 => absurd hc9 (c1)) (fun _ => ?_)
      refine lv_iload_n hx hb d_M_bits_11 rfl (lv_at hl 1 rfl) ?_
      refine lv_iconst (v := (-1)) hx hb d_M_bits_12 (by decide) ?_
      by_cases c2 : b < -1
      · refine lv_icmp_lt (tgt := 37) hx hb d_M_bits_13 (by decide) (fun _ => ?_) (fun hc9 => absurd (c2) hc9)
        refine lv_iconst (v := (nI 0)) hx hb d_M_bits_37 (by decide) ?_
        refine lv_istore_n (lv' := [(3, .int (nI 0)), (0, .int a), (1, .int b), (2, .int d)]) hx hb d_M_bits_38 rfl hl (by decide) rfl (fun ls hl => ?_)
        refine lv_iload_n hx hb d_M_bits_39 rfl (lv_at hl 0 rfl) ?_
        refine lv_if_eq (tgt := 77) hx hb d_M_bits_40 (by decide) (fun _ => ?_) (fun hc9 => absurd (nI_0) hc9)
        refine lv_iconst (v := (nI 0)) hx hb d_M_bits_77 (by decide) ?_
        refine lv_istore_n (lv' := [(3, .int (nI 0)), (0, .int a), (1, .int b), (2, .int d)]) hx hb d_M_bits_78 rfl hl (by decide) rfl (fun ls hl => ?_)
        refine lv_iload_n hx hb d_M_bits_79 rfl (lv_at hl 0 rfl) ?_
        refine lv_if_ne (tgt := 85) hx hb d_M_bits_80 (by decide) (fun hc9 => absurd (nI_0) hc9) (fun _ => ?_)
        refine lv_iconst (v := (-1)) hx hb d_M_bits_83 (by decide) ?_
        exact W.iret (v := (-1)) hx hb hr (fun tS ht hW => ⟨⟨(-1), (), rfl, by rw [if_neg (fun hq => absurd (ct_al_iff.mp hq) (by simp [c0, c1, c2]))], trivial⟩, hS.F ht⟩) hS.2.2 d_M_bits_84
      · refine lv_icmp_lt (tgt := 37) hx hb d_M_bits_13 (by decide) (fun hc9 => absurd hc9 (c2)) (fun _ => ?_)
        refine lv_iload_n hx hb d_M_bits_16 rfl (lv_at hl 1 rfl) ?_
        refine lv_bipush (v := (nI 8)) hx hb d_M_bits_17 (by decide) ?_
        by_cases c3 : (nI 8) ≤ b
        · refine lv_icmp_ge (tgt := 37) hx hb d_M_bits_19 (by decide) (fun _ => ?_) (fun hc9 => absurd (c3) hc9)
          refine lv_iconst (v := (nI 0)) hx hb d_M_bits_37 (by decide) ?_
          refine lv_istore_n (lv' := [(3, .int (nI 0)), (0, .int a), (1, .int b), (2, .int d)]) hx hb d_M_bits_38 rfl hl (by decide) rfl (fun ls hl => ?_)
          refine lv_iload_n hx hb d_M_bits_39 rfl (lv_at hl 0 rfl) ?_
          refine lv_if_eq (tgt := 77) hx hb d_M_bits_40 (by decide) (fun _ => ?_) (fun hc9 => absurd (nI_0) hc9)
          refine lv_iconst (v := (nI 0)) hx hb d_M_bits_77 (by decide) ?_
          refine lv_istore_n (lv' := [(3, .int (nI 0)), (0, .int a), (1, .int b), (2, .int d)]) hx hb d_M_bits_78 rfl hl (by decide) rfl (fun ls hl => ?_)
          refine lv_iload_n hx hb d_M_bits_79 rfl (lv_at hl 0 rfl) ?_
          refine lv_if_ne (tgt := 85) hx hb d_M_bits_80 (by decide) (fun hc9 => absurd (nI_0) hc9) (fun _ => ?_)
          refine lv_iconst (v := (-1)) hx hb d_M_bits_83 (by decide) ?_
          exact W.iret (v := (-1)) hx hb hr (fun tS ht hW => ⟨⟨(-1), (), rfl, by rw [if_neg (fun hq => absurd (ct_al_iff.mp hq) (by simp [c0, c1, c2, c3]))], trivial⟩, hS.F ht⟩) hS.2.2 d_M_bits_84
        · refine lv_icmp_ge (tgt := 37) hx hb d_M_bits_19 (by decide) (fun hc9 => absurd hc9 (c3)) (fun _ => ?_)
          refine lv_iload_n hx hb d_M_bits_22 rfl (lv_at hl 2 rfl) ?_
          refine lv_iconst (v := (-1)) hx hb d_M_bits_23 (by decide) ?_
          by_cases c4 : d < -1
          · refine lv_icmp_lt (tgt := 37) hx hb d_M_bits_24 (by decide) (fun _ => ?_) (fun hc9 => absurd (c4) hc9)
            refine lv_iconst (v := (nI 0)) hx hb d_M_bits_37 (by decide) ?_
            refine lv_istore_n (lv' := [(3, .int (nI 0)), (0, .int a), (1, .int b), (2, .int d)]) hx hb d_M_bits_38 rfl hl (by decide) rfl (fun ls hl => ?_)
            refine lv_iload_n hx hb d_M_bits_39 rfl (lv_at hl 0 rfl) ?_
            refine lv_if_eq (tgt := 77) hx hb d_M_bits_40 (by decide) (fun _ => ?_) (fun hc9 => absurd (nI_0) hc9)
            refine lv_iconst (v := (nI 0)) hx hb d_M_bits_77 (by decide) ?_
            refine lv_istore_n (lv' := [(3, .int (nI 0)), (0, .int a), (1, .int b), (2, .int d)]) hx hb d_M_bits_78 rfl hl (by decide) rfl (fun ls hl => ?_)
            refine lv_iload_n hx hb d_M_bits_79 rfl (lv_at hl 0 rfl) ?_
            refine lv_if_ne (tgt := 85) hx hb d_M_bits_80 (by decide) (fun hc9 => absurd (nI_0) hc9) (fun _ => ?_)
            refine lv_iconst (v := (-1)) hx hb d_M_bits_83 (by decide) ?_
            exact W.iret (v := (-1)) hx hb hr (fun tS ht hW => ⟨⟨(-1), (), rfl, by rw [if_neg (fun hq => absurd (ct_al_iff.mp hq) (by simp [c0, c1, c2, c3, c4]))], trivial⟩, hS.F ht⟩) hS.2.2 d_M_bits_84
          · refine lv_icmp_lt (tgt := 37) hx hb d_M_bits_24 (by decide) (fun hc9 => absurd hc9 (c4)) (fun _ => ?_)
            refine lv_iload_n hx hb d_M_bits_27 rfl (lv_at hl 2 rfl) ?_
            refine lv_bipush (v := (nI 8)) hx hb d_M_bits_28 (by decide) ?_
            by_cases c5 : (nI 8) ≤ d
            · refine lv_icmp_ge (tgt := 37) hx hb d_M_bits_30 (by decide) (fun _ => ?_) (fun hc9 => absurd (c5) hc9)
              refine lv_iconst (v := (nI 0)) hx hb d_M_bits_37 (by decide) ?_
              refine lv_istore_n (lv' := [(3, .int (nI 0)), (0, .int a), (1, .int b), (2, .int d)]) hx hb d_M_bits_38 rfl hl (by decide) rfl (fun ls hl => ?_)
              refine lv_iload_n hx hb d_M_bits_39 rfl (lv_at hl 0 rfl) ?_
              refine lv_if_eq (tgt := 77) hx hb d_M_bits_40 (by decide) (fun _ => ?_) (fun hc9 => absurd (nI_0) hc9)
              refine lv_iconst (v := (nI 0)) hx hb d_M_bits_77 (by decide) ?_
              refine lv_istore_n (lv' := [(3, .int (nI 0)), (0, .int a), (1, .int b), (2, .int d)]) hx hb d_M_bits_78 rfl hl (by decide) rfl (fun ls hl => ?_)
              refine lv_iload_n hx hb d_M_bits_79 rfl (lv_at hl 0 rfl) ?_
              refine lv_if_ne (tgt := 85) hx hb d_M_bits_80 (by decide) (fun hc9 => absurd (nI_0) hc9) (fun _ => ?_)
              refine lv_iconst (v := (-1)) hx hb d_M_bits_83 (by decide) ?_
              exact W.iret (v := (-1)) hx hb hr (fun tS ht hW => ⟨⟨(-1), (), rfl, by rw [if_neg (fun hq => absurd (ct_al_iff.mp hq) (by simp [c0, c1, c2, c3, c4, c5]))], trivial⟩, hS.F ht⟩) hS.2.2 d_M_bits_84
            · refine lv_icmp_ge (tgt := 37) hx hb d_M_bits_30 (by decide) (fun hc9 => absurd hc9 (c5)) (fun _ => ?_)
              refine lv_iconst (v := (nI 1)) hx hb d_M_bits_33 (by decide) ?_
              refine lv_goto (tgt := 38) hx hb d_M_bits_34 (by decide) ?_
              refine lv_istore_n (lv' := [(3, .int (nI 1)), (0, .int a), (1, .int b), (2, .int d)]) hx hb d_M_bits_38 rfl hl (by decide) rfl (fun ls hl => ?_)
              refine lv_iload_n hx hb d_M_bits_39 rfl (lv_at hl 0 rfl) ?_
              refine lv_if_eq (tgt := 77) hx hb d_M_bits_40 (by decide) (fun hc9 => absurd hc9 (nI_ne0 (by omega) (by omega))) (fun _ => ?_)
              refine lv_iload_n hx hb d_M_bits_43 rfl (lv_at hl 2 rfl) ?_
              refine lv_iconst (v := (-1)) hx hb d_M_bits_44 (by decide) ?_
              by_cases c6 : b = -1
              · refine lv_icmp_eq (tgt := 58) hx hb d_M_bits_45 (by decide) (fun _ => ?_) (fun hc9 => absurd (c6) hc9)
                refine lv_iload_n hx hb d_M_bits_58 rfl (lv_at hl 3 rfl) ?_
                refine lv_iconst (v := (-1)) hx hb d_M_bits_59 (by decide) ?_
                by_cases c7 : d = -1
                · refine lv_icmp_eq (tgt := 73) hx hb d_M_bits_60 (by decide) (fun _ => ?_) (fun hc9 => absurd (c7) hc9)
                  refine lv_iconst (v := (nI 1)) hx hb d_M_bits_73 (by decide) ?_
                  refine lv_goto (tgt := 78) hx hb d_M_bits_74 (by decide) ?_
                  refine lv_istore_n (lv' := [(3, .int (nI 1)), (0, .int a), (1, .int b), (2, .int d)]) hx hb d_M_bits_78 rfl hl (by decide) rfl (fun ls hl => ?_)
                  refine lv_iload_n hx hb d_M_bits_79 rfl (lv_at hl 0 rfl) ?_
                  refine lv_if_ne (tgt := 85) hx hb d_M_bits_80 (by decide) (fun _ => ?_) (fun hc9 => absurd hc9 (nI_ne0 (by omega) (by omega)))
                  have hq : ct_al a b d = true := ct_al_iff.mpr ⟨c0, c1, c2, c3, c4, c5, Or.inl c6, Or.inl c7⟩
                  have hisl := ct_al_isl hq
                  by_cases ea : a = -1
                  · refine lv_iload_n hx hb d_M_bits_85 rfl (lv_at hl 1 rfl) ?_
                    refine lv_iconst (v := (-1)) hx hb d_M_bits_86 (by decide) ?_
                    refine lv_icmp_ne (tgt := 94) hx hb d_M_bits_87 (by decide) (fun hc9 => absurd (ea) hc9) (fun _ => ?_)
                    refine lv_iconst (v := (nI 0)) hx hb d_M_bits_90 (by decide) ?_
                    refine lv_goto (tgt := 97) hx hb d_M_bits_91 (by decide) ?_
                    refine lv_istore (lv' := [(4, .int (nI 0)), (3, .int (nI 1)), (0, .int a), (1, .int b), (2, .int d)]) hx hb d_M_bits_97 hl (by decide) rfl (fun ls hl => ?_)
                    by_cases eb : b = -1
                    · refine lv_iload_n hx hb d_M_bits_99 rfl (lv_at hl 3 rfl) ?_
                      refine lv_iconst (v := (-1)) hx hb d_M_bits_100 (by decide) ?_
                      refine lv_icmp_ne (tgt := 109) hx hb d_M_bits_101 (by decide) (fun hc9 => absurd (eb) hc9) (fun _ => ?_)
                      refine lv_iload hx hb d_M_bits_104 (lv_at hl 0 rfl) ?_
                      refine lv_goto (tgt := 115) hx hb d_M_bits_106 (by decide) ?_
                      refine lv_istore (lv' := [(4, .int (nI 0)), (3, .int (nI 1)), (0, .int a), (1, .int b), (2, .int d)]) hx hb d_M_bits_115 hl (by decide) rfl (fun ls hl => ?_)
                      by_cases ed : d = -1
                      · refine lv_iload_n hx hb d_M_bits_117 rfl (lv_at hl 4 rfl) ?_
                        refine lv_iconst (v := (-1)) hx hb d_M_bits_118 (by decide) ?_
                        refine lv_icmp_ne (tgt := 127) hx hb d_M_bits_119 (by decide) (fun hc9 => absurd (ed) hc9) (fun _ => ?_)
                        refine lv_iload hx hb d_M_bits_122 (lv_at hl 0 rfl) ?_
                        refine lv_goto (tgt := 133) hx hb d_M_bits_124 (by decide) ?_
                        exact W.iret (v := (nI 0)) hx hb hr (fun tS ht hW => ⟨⟨(nI 0), (), rfl, by rw [if_pos hq, ct_lbs, ct_lb_no ea, ct_lb_no eb, ct_lb_no ed] <;> simp, trivial⟩, hS.F ht⟩) hS.2.2 d_M_bits_133
                      · refine lv_iload_n hx hb d_M_bits_117 rfl (lv_at hl 4 rfl) ?_
                        refine lv_iconst (v := (-1)) hx hb d_M_bits_118 (by decide) ?_
                        refine lv_icmp_ne (tgt := 127) hx hb d_M_bits_119 (by decide) (fun _ => ?_) (fun hc9 => absurd hc9 (ed))
                        refine lv_iload hx hb d_M_bits_127 (lv_at hl 0 rfl) ?_
                        refine lv_iconst (v := (nI 1)) hx hb d_M_bits_129 (by decide) ?_
                        refine lv_iload_n hx hb d_M_bits_130 rfl (lv_at hl 4 rfl) ?_
                        refine lv_ishl hx hb d_M_bits_131 ?_
                        refine ct_val (y := nI (ct_lb d)) (ct_lb_shl hisl.2.2 ed) ?_
                        refine lv_ior hx hb d_M_bits_132 ?_
                        refine ct_val (y := nI (0 ||| ct_lb d)) (ct_or _ _) ?_
                        exact W.iret (v := (nI (0 ||| ct_lb d))) hx hb hr (fun tS ht hW => ⟨⟨(nI (0 ||| ct_lb d)), (), rfl, by rw [if_pos hq, ct_lbs, ct_lb_no ea, ct_lb_no eb] <;> simp, trivial⟩, hS.F ht⟩) hS.2.2 d_M_bits_133
                    · refine lv_iload_n hx hb d_M_bits_99 rfl (lv_at hl 3 rfl) ?_
                      refine lv_iconst (v := (-1)) hx hb d_M_bits_100 (by decide) ?_
                      refine lv_icmp_ne (tgt := 109) hx hb d_M_bits_101 (by decide) (fun _ => ?_) (fun hc9 => absurd hc9 (eb))
                      refine lv_iload hx hb d_M_bits_109 (lv_at hl 0 rfl) ?_
                      refine lv_iconst (v := (nI 1)) hx hb d_M_bits_111 (by decide) ?_
                      refine lv_iload_n hx hb d_M_bits_112 rfl (lv_at hl 3 rfl) ?_
                      refine lv_ishl hx hb d_M_bits_113 ?_
                      refine ct_val (y := nI (ct_lb b)) (ct_lb_shl hisl.2.1 eb) ?_
                      refine lv_ior hx hb d_M_bits_114 ?_
                      refine ct_val (y := nI (0 ||| ct_lb b)) (ct_or _ _) ?_
                      refine lv_istore (lv' := [(4, .int (nI (0 ||| ct_lb b))), (3, .int (nI 1)), (0, .int a), (1, .int b), (2, .int d)]) hx hb d_M_bits_115 hl (by decide) rfl (fun ls hl => ?_)
                      by_cases ed : d = -1
                      · refine lv_iload_n hx hb d_M_bits_117 rfl (lv_at hl 4 rfl) ?_
                        refine lv_iconst (v := (-1)) hx hb d_M_bits_118 (by decide) ?_
                        refine lv_icmp_ne (tgt := 127) hx hb d_M_bits_119 (by decide) (fun hc9 => absurd (ed) hc9) (fun _ => ?_)
                        refine lv_iload hx hb d_M_bits_122 (lv_at hl 0 rfl) ?_
                        refine lv_goto (tgt := 133) hx hb d_M_bits_124 (by decide) ?_
                        exact W.iret (v := (nI (0 ||| ct_lb b))) hx hb hr (fun tS ht hW => ⟨⟨(nI (0 ||| ct_lb b)), (), rfl, by rw [if_pos hq, ct_lbs, ct_lb_no ea, ct_lb_no ed] <;> simp, trivial⟩, hS.F ht⟩) hS.2.2 d_M_bits_133
                      · refine lv_iload_n hx hb d_M_bits_117 rfl (lv_at hl 4 rfl) ?_
                        refine lv_iconst (v := (-1)) hx hb d_M_bits_118 (by decide) ?_
                        refine lv_icmp_ne (tgt := 127) hx hb d_M_bits_119 (by decide) (fun _ => ?_) (fun hc9 => absurd hc9 (ed))
                        refine lv_iload hx hb d_M_bits_127 (lv_at hl 0 rfl) ?_
                        refine lv_iconst (v := (nI 1)) hx hb d_M_bits_129 (by decide) ?_
                        refine lv_iload_n hx hb d_M_bits_130 rfl (lv_at hl 4 rfl) ?_
                        refine lv_ishl hx hb d_M_bits_131 ?_
                        refine ct_val (y := nI (ct_lb d)) (ct_lb_shl hisl.2.2 ed) ?_
                        refine lv_ior hx hb d_M_bits_132 ?_
                        refine ct_val (y := nI ((0 ||| ct_lb b) ||| ct_lb d)) (ct_or _ _) ?_
                        exact W.iret (v := (nI ((0 ||| ct_lb b) ||| ct_lb d))) hx hb hr (fun tS ht hW => ⟨⟨(nI ((0 ||| ct_lb b) ||| ct_lb d)), (), rfl, by rw [if_pos hq, ct_lbs, ct_lb_no ea] <;> simp, trivial⟩, hS.F ht⟩) hS.2.2 d_M_bits_133
                  · refine lv_iload_n hx hb d_M_bits_85 rfl (lv_at hl 1 rfl) ?_
                    refine lv_iconst (v := (-1)) hx hb d_M_bits_86 (by decide) ?_
                    refine lv_icmp_ne (tgt := 94) hx hb d_M_bits_87 (by decide) (fun _ => ?_) (fun hc9 => absurd hc9 (ea))
                    refine lv_iconst (v := (nI 1)) hx hb d_M_bits_94 (by decide) ?_
                    refine lv_iload_n hx hb d_M_bits_95 rfl (lv_at hl 1 rfl) ?_
                    refine lv_ishl hx hb d_M_bits_96 ?_
                    refine ct_val (y := nI (ct_lb a)) (ct_lb_shl hisl.1 ea) ?_
                    refine lv_istore (lv' := [(4, .int (nI (ct_lb a))), (3, .int (nI 1)), (0, .int a), (1, .int b), (2, .int d)]) hx hb d_M_bits_97 hl (by decide) rfl (fun ls hl => ?_)
                    by_cases eb : b = -1
                    · refine lv_iload_n hx hb d_M_bits_99 rfl (lv_at hl 3 rfl) ?_
                      refine lv_iconst (v := (-1)) hx hb d_M_bits_100 (by decide) ?_
                      refine lv_icmp_ne (tgt := 109) hx hb d_M_bits_101 (by decide) (fun hc9 => absurd (eb) hc9) (fun _ => ?_)
                      refine lv_iload hx hb d_M_bits_104 (lv_at hl 0 rfl) ?_
                      refine lv_goto (tgt := 115) hx hb d_M_bits_106 (by decide) ?_
                      refine lv_istore (lv' := [(4, .int (nI (ct_lb a))), (3, .int (nI 1)), (0, .int a), (1, .int b), (2, .int d)]) hx hb d_M_bits_115 hl (by decide) rfl (fun ls hl => ?_)
                      by_cases ed : d = -1
                      · refine lv_iload_n hx hb d_M_bits_117 rfl (lv_at hl 4 rfl) ?_
                        refine lv_iconst (v := (-1)) hx hb d_M_bits_118 (by decide) ?_
                        refine lv_icmp_ne (tgt := 127) hx hb d_M_bits_119 (by decide) (fun hc9 => absurd (ed) hc9) (fun _ => ?_)
                        refine lv_iload hx hb d_M_bits_122 (lv_at hl 0 rfl) ?_
                        refine lv_goto (tgt := 133) hx hb d_M_bits_124 (by decide) ?_
                        exact W.iret (v := (nI (ct_lb a))) hx hb hr (fun tS ht hW => ⟨⟨(nI (ct_lb a)), (), rfl, by rw [if_pos hq, ct_lbs, ct_lb_no eb, ct_lb_no ed] <;> simp, trivial⟩, hS.F ht⟩) hS.2.2 d_M_bits_133
                      · refine lv_iload_n hx hb d_M_bits_117 rfl (lv_at hl 4 rfl) ?_
                        refine lv_iconst (v := (-1)) hx hb d_M_bits_118 (by decide) ?_
                        refine lv_icmp_ne (tgt := 127) hx hb d_M_bits_119 (by decide) (fun _ => ?_) (fun hc9 => absurd hc9 (ed))
                        refine lv_iload hx hb d_M_bits_127 (lv_at hl 0 rfl) ?_
                        refine lv_iconst (v := (nI 1)) hx hb d_M_bits_129 (by decide) ?_
                        refine lv_iload_n hx hb d_M_bits_130 rfl (lv_at hl 4 rfl) ?_
                        refine lv_ishl hx hb d_M_bits_131 ?_
                        refine ct_val (y := nI (ct_lb d)) (ct_lb_shl hisl.2.2 ed) ?_
                        refine lv_ior hx hb d_M_bits_132 ?_
                        refine ct_val (y := nI (ct_lb a ||| ct_lb d)) (ct_or _ _) ?_
                        exact W.iret (v := (nI (ct_lb a ||| ct_lb d))) hx hb hr (fun tS ht hW => ⟨⟨(nI (ct_lb a ||| ct_lb d)), (), rfl, by rw [if_pos hq, ct_lbs, ct_lb_no eb] <;> simp, trivial⟩, hS.F ht⟩) hS.2.2 d_M_bits_133
                    · refine lv_iload_n hx hb d_M_bits_99 rfl (lv_at hl 3 rfl) ?_
                      refine lv_iconst (v := (-1)) hx hb d_M_bits_100 (by decide) ?_
                      refine lv_icmp_ne (tgt := 109) hx hb d_M_bits_101 (by decide) (fun _ => ?_) (fun hc9 => absurd hc9 (eb))
                      refine lv_iload hx hb d_M_bits_109 (lv_at hl 0 rfl) ?_
                      refine lv_iconst (v := (nI 1)) hx hb d_M_bits_111 (by decide) ?_
                      refine lv_iload_n hx hb d_M_bits_112 rfl (lv_at hl 3 rfl) ?_
                      refine lv_ishl hx hb d_M_bits_113 ?_
                      refine ct_val (y := nI (ct_lb b)) (ct_lb_shl hisl.2.1 eb) ?_
                      refine lv_ior hx hb d_M_bits_114 ?_
                      refine ct_val (y := nI (ct_lb a ||| ct_lb b)) (ct_or _ _) ?_
                      refine lv_istore (lv' := [(4, .int (nI (ct_lb a ||| ct_lb b))), (3, .int (nI 1)), (0, .int a), (1, .int b), (2, .int d)]) hx hb d_M_bits_115 hl (by decide) rfl (fun ls hl => ?_)
                      by_cases ed : d = -1
                      · refine lv_iload_n hx hb d_M_bits_117 rfl (lv_at hl 4 rfl) ?_
                        refine lv_iconst (v := (-1)) hx hb d_M_bits_118 (by decide) ?_
                        refine lv_icmp_ne (tgt := 127) hx hb d_M_bits_119 (by decide) (fun hc9 => absurd (ed) hc9) (fun _ => ?_)
                        refine lv_iload hx hb d_M_bits_122 (lv_at hl 0 rfl) ?_
                        refine lv_goto (tgt := 133) hx hb d_M_bits_124 (by decide) ?_
                        exact W.iret (v := (nI (ct_lb a ||| ct_lb b))) hx hb hr (fun tS ht hW => ⟨⟨(nI (ct_lb a ||| ct_lb b)), (), rfl, by rw [if_pos hq, ct_lbs, ct_lb_no ed] <;> simp, trivial⟩, hS.F ht⟩) hS.2.2 d_M_bits_133
                      · refine lv_iload_n hx hb d_M_bits_117 rfl (lv_at hl 4 rfl) ?_
                        refine lv_iconst (v := (-1)) hx hb d_M_bits_118 (by decide) ?_
                        refine lv_icmp_ne (tgt := 127) hx hb d_M_bits_119 (by decide) (fun _ => ?_) (fun hc9 => absurd hc9 (ed))
                        refine lv_iload hx hb d_M_bits_127 (lv_at hl 0 rfl) ?_
                        refine lv_iconst (v := (nI 1)) hx hb d_M_bits_129 (by decide) ?_
                        refine lv_iload_n hx hb d_M_bits_130 rfl (lv_at hl 4 rfl) ?_
                        refine lv_ishl hx hb d_M_bits_131 ?_
                        refine ct_val (y := nI (ct_lb d)) (ct_lb_shl hisl.2.2 ed) ?_
                        refine lv_ior hx hb d_M_bits_132 ?_
                        refine ct_val (y := nI ((ct_lb a ||| ct_lb b) ||| ct_lb d)) (ct_or _ _) ?_
                        exact W.iret (v := (nI ((ct_lb a ||| ct_lb b) ||| ct_lb d))) hx hb hr (fun tS ht hW => ⟨⟨(nI ((ct_lb a ||| ct_lb b) ||| ct_lb d)), (), rfl, by rw [if_pos hq, ct_lbs], trivial⟩, hS.F ht⟩) hS.2.2 d_M_bits_133
                · refine lv_icmp_eq (tgt := 73) hx hb d_M_bits_60 (by decide) (fun hc9 => absurd hc9 (c7)) (fun _ => ?_)
                  refine lv_iload_n hx hb d_M_bits_63 rfl (lv_at hl 2 rfl) ?_
                  refine lv_iconst (v := (-1)) hx hb d_M_bits_64 (by decide) ?_
                  refine lv_icmp_eq (tgt := 77) hx hb d_M_bits_65 (by decide) (fun _ => ?_) (fun hc9 => absurd (c6) hc9)
                  refine lv_iconst (v := (nI 0)) hx hb d_M_bits_77 (by decide) ?_
                  refine lv_istore_n (lv' := [(3, .int (nI 0)), (0, .int a), (1, .int b), (2, .int d)]) hx hb d_M_bits_78 rfl hl (by decide) rfl (fun ls hl => ?_)
                  refine lv_iload_n hx hb d_M_bits_79 rfl (lv_at hl 0 rfl) ?_
                  refine lv_if_ne (tgt := 85) hx hb d_M_bits_80 (by decide) (fun hc9 => absurd (nI_0) hc9) (fun _ => ?_)
                  refine lv_iconst (v := (-1)) hx hb d_M_bits_83 (by decide) ?_
                  exact W.iret (v := (-1)) hx hb hr (fun tS ht hW => ⟨⟨(-1), (), rfl, by rw [if_neg (fun hq => absurd (ct_al_iff.mp hq) (by simp [c0, c1, c2, c3, c4, c5, c6, c7]))], trivial⟩, hS.F ht⟩) hS.2.2 d_M_bits_84
              · refine lv_icmp_eq (tgt := 58) hx hb d_M_bits_45 (by decide) (fun hc9 => absurd hc9 (c6)) (fun _ => ?_)
                refine lv_iload_n hx hb d_M_bits_48 rfl (lv_at hl 1 rfl) ?_
                refine lv_iconst (v := (-1)) hx hb d_M_bits_49 (by decide) ?_
                by_cases c7 : a = -1
                · refine lv_icmp_eq (tgt := 77) hx hb d_M_bits_50 (by decide) (fun _ => ?_) (fun hc9 => absurd (c7) hc9)
                  refine lv_iconst (v := (nI 0)) hx hb d_M_bits_77 (by decide) ?_
                  refine lv_istore_n (lv' := [(3, .int (nI 0)), (0, .int a), (1, .int b), (2, .int d)]) hx hb d_M_bits_78 rfl hl (by decide) rfl (fun ls hl => ?_)
                  refine lv_iload_n hx hb d_M_bits_79 rfl (lv_at hl 0 rfl) ?_
                  refine lv_if_ne (tgt := 85) hx hb d_M_bits_80 (by decide) (fun hc9 => absurd (nI_0) hc9) (fun _ => ?_)
                  refine lv_iconst (v := (-1)) hx hb d_M_bits_83 (by decide) ?_
                  exact W.iret (v := (-1)) hx hb hr (fun tS ht hW => ⟨⟨(-1), (), rfl, by rw [if_neg (fun hq => absurd (ct_al_iff.mp hq) (by simp [c0, c1, c2, c3, c4, c5, c6, c7]))], trivial⟩, hS.F ht⟩) hS.2.2 d_M_bits_84
                · refine lv_icmp_eq (tgt := 77) hx hb d_M_bits_50 (by decide) (fun hc9 => absurd hc9 (c7)) (fun _ => ?_)
                  refine lv_iload_n hx hb d_M_bits_53 rfl (lv_at hl 2 rfl) ?_
                  refine lv_iload_n hx hb d_M_bits_54 rfl (lv_at hl 1 rfl) ?_
                  by_cases c8 : b ≤ a
                  · refine lv_icmp_le (tgt := 77) hx hb d_M_bits_55 (by decide) (fun _ => ?_) (fun hc9 => absurd (c8) hc9)
                    refine lv_iconst (v := (nI 0)) hx hb d_M_bits_77 (by decide) ?_
                    refine lv_istore_n (lv' := [(3, .int (nI 0)), (0, .int a), (1, .int b), (2, .int d)]) hx hb d_M_bits_78 rfl hl (by decide) rfl (fun ls hl => ?_)
                    refine lv_iload_n hx hb d_M_bits_79 rfl (lv_at hl 0 rfl) ?_
                    refine lv_if_ne (tgt := 85) hx hb d_M_bits_80 (by decide) (fun hc9 => absurd (nI_0) hc9) (fun _ => ?_)
                    refine lv_iconst (v := (-1)) hx hb d_M_bits_83 (by decide) ?_
                    exact W.iret (v := (-1)) hx hb hr (fun tS ht hW => ⟨⟨(-1), (), rfl, by rw [if_neg (fun hq => absurd (ct_al_iff.mp hq) (by simp [c0, c1, c2, c3, c4, c5, c6, c7, c8]))], trivial⟩, hS.F ht⟩) hS.2.2 d_M_bits_84
                  · refine lv_icmp_le (tgt := 77) hx hb d_M_bits_55 (by decide) (fun hc9 => absurd hc9 (c8)) (fun _ => ?_)
                    refine lv_iload_n hx hb d_M_bits_58 rfl (lv_at hl 3 rfl) ?_
                    refine lv_iconst (v := (-1)) hx hb d_M_bits_59 (by decide) ?_
                    by_cases c9 : d = -1
                    · refine lv_icmp_eq (tgt := 73) hx hb d_M_bits_60 (by decide) (fun _ => ?_) (fun hc9 => absurd (c9) hc9)
                      refine lv_iconst (v := (nI 1)) hx hb d_M_bits_73 (by decide) ?_
                      refine lv_goto (tgt := 78) hx hb d_M_bits_74 (by decide) ?_
                      refine lv_istore_n (lv' := [(3, .int (nI 1)), (0, .int a), (1, .int b), (2, .int d)]) hx hb d_M_bits_78 rfl hl (by decide) rfl (fun ls hl => ?_)
                      refine lv_iload_n hx hb d_M_bits_79 rfl (lv_at hl 0 rfl) ?_
                      refine lv_if_ne (tgt := 85) hx hb d_M_bits_80 (by decide) (fun _ => ?_) (fun hc9 => absurd hc9 (nI_ne0 (by omega) (by omega)))
                      have hq : ct_al a b d = true := ct_al_iff.mpr ⟨c0, c1, c2, c3, c4, c5, Or.inr ⟨c7, c8⟩, Or.inl c9⟩
                      have hisl := ct_al_isl hq
                      by_cases ea : a = -1
                      · refine lv_iload_n hx hb d_M_bits_85 rfl (lv_at hl 1 rfl) ?_
                        refine lv_iconst (v := (-1)) hx hb d_M_bits_86 (by decide) ?_
                        refine lv_icmp_ne (tgt := 94) hx hb d_M_bits_87 (by decide) (fun hc9 => absurd (ea) hc9) (fun _ => ?_)
                        refine lv_iconst (v := (nI 0)) hx hb d_M_bits_90 (by decide) ?_
                        refine lv_goto (tgt := 97) hx hb d_M_bits_91 (by decide) ?_
                        refine lv_istore (lv' := [(4, .int (nI 0)), (3, .int (nI 1)), (0, .int a), (1, .int b), (2, .int d)]) hx hb d_M_bits_97 hl (by decide) rfl (fun ls hl => ?_)
                        by_cases eb : b = -1
                        · refine lv_iload_n hx hb d_M_bits_99 rfl (lv_at hl 3 rfl) ?_
                          refine lv_iconst (v := (-1)) hx hb d_M_bits_100 (by decide) ?_
                          refine lv_icmp_ne (tgt := 109) hx hb d_M_bits_101 (by decide) (fun hc9 => absurd (eb) hc9) (fun _ => ?_)
                          refine lv_iload hx hb d_M_bits_104 (lv_at hl 0 rfl) ?_
                          refine lv_goto (tgt := 115) hx hb d_M_bits_106 (by decide) ?_
                          refine lv_istore (lv' := [(4, .int (nI 0)), (3, .int (nI 1)), (0, .int a), (1, .int b), (2, .int d)]) hx hb d_M_bits_115 hl (by decide) rfl (fun ls hl => ?_)
                          by_cases ed : d = -1
                          · refine lv_iload_n hx hb d_M_bits_117 rfl (lv_at hl 4 rfl) ?_
                            refine lv_iconst (v := (-1)) hx hb d_M_bits_118 (by decide) ?_
                            refine lv_icmp_ne (tgt := 127) hx hb d_M_bits_119 (by decide) (fun hc9 => absurd (ed) hc9) (fun _ => ?_)
                            refine lv_iload hx hb d_M_bits_122 (lv_at hl 0 rfl) ?_
                            refine lv_goto (tgt := 133) hx hb d_M_bits_124 (by decide) ?_
                            exact W.iret (v := (nI 0)) hx hb hr (fun tS ht hW => ⟨⟨(nI 0), (), rfl, by rw [if_pos hq, ct_lbs, ct_lb_no ea, ct_lb_no eb, ct_lb_no ed] <;> simp, trivial⟩, hS.F ht⟩) hS.2.2 d_M_bits_133
                          · refine lv_iload_n hx hb d_M_bits_117 rfl (lv_at hl 4 rfl) ?_
                            refine lv_iconst (v := (-1)) hx hb d_M_bits_118 (by decide) ?_
                            refine lv_icmp_ne (tgt := 127) hx hb d_M_bits_119 (by decide) (fun _ => ?_) (fun hc9 => absurd hc9 (ed))
                            refine lv_iload hx hb d_M_bits_127 (lv_at hl 0 rfl) ?_
                            refine lv_iconst (v := (nI 1)) hx hb d_M_bits_129 (by decide) ?_
                            refine lv_iload_n hx hb d_M_bits_130 rfl (lv_at hl 4 rfl) ?_
                            refine lv_ishl hx hb d_M_bits_131 ?_
                            refine ct_val (y := nI (ct_lb d)) (ct_lb_shl hisl.2.2 ed) ?_
                            refine lv_ior hx hb d_M_bits_132 ?_
                            refine ct_val (y := nI (0 ||| ct_lb d)) (ct_or _ _) ?_
                            exact W.iret (v := (nI (0 ||| ct_lb d))) hx hb hr (fun tS ht hW => ⟨⟨(nI (0 ||| ct_lb d)), (), rfl, by rw [if_pos hq, ct_lbs, ct_lb_no ea, ct_lb_no eb] <;> simp, trivial⟩, hS.F ht⟩) hS.2.2 d_M_bits_133
                        · refine lv_iload_n hx hb d_M_bits_99 rfl (lv_at hl 3 rfl) ?_
                          refine lv_iconst (v := (-1)) hx hb d_M_bits_100 (by decide) ?_
                          refine lv_icmp_ne (tgt := 109) hx hb d_M_bits_101 (by decide) (fun _ => ?_) (fun hc9 => absurd hc9 (eb))
                          refine lv_iload hx hb d_M_bits_109 (lv_at hl 0 rfl) ?_
                          refine lv_iconst (v := (nI 1)) hx hb d_M_bits_111 (by decide) ?_
                          refine lv_iload_n hx hb d_M_bits_112 rfl (lv_at hl 3 rfl) ?_
                          refine lv_ishl hx hb d_M_bits_113 ?_
                          refine ct_val (y := nI (ct_lb b)) (ct_lb_shl hisl.2.1 eb) ?_
                          refine lv_ior hx hb d_M_bits_114 ?_
                          refine ct_val (y := nI (0 ||| ct_lb b)) (ct_or _ _) ?_
                          refine lv_istore (lv' := [(4, .int (nI (0 ||| ct_lb b))), (3, .int (nI 1)), (0, .int a), (1, .int b), (2, .int d)]) hx hb d_M_bits_115 hl (by decide) rfl (fun ls hl => ?_)
                          by_cases ed : d = -1
                          · refine lv_iload_n hx hb d_M_bits_117 rfl (lv_at hl 4 rfl) ?_
                            refine lv_iconst (v := (-1)) hx hb d_M_bits_118 (by decide) ?_
                            refine lv_icmp_ne (tgt := 127) hx hb d_M_bits_119 (by decide) (fun hc9 => absurd (ed) hc9) (fun _ => ?_)
                            refine lv_iload hx hb d_M_bits_122 (lv_at hl 0 rfl) ?_
                            refine lv_goto (tgt := 133) hx hb d_M_bits_124 (by decide) ?_
                            exact W.iret (v := (nI (0 ||| ct_lb b))) hx hb hr (fun tS ht hW => ⟨⟨(nI (0 ||| ct_lb b)), (), rfl, by rw [if_pos hq, ct_lbs, ct_lb_no ea, ct_lb_no ed] <;> simp, trivial⟩, hS.F ht⟩) hS.2.2 d_M_bits_133
                          · refine lv_iload_n hx hb d_M_bits_117 rfl (lv_at hl 4 rfl) ?_
                            refine lv_iconst (v := (-1)) hx hb d_M_bits_118 (by decide) ?_
                            refine lv_icmp_ne (tgt := 127) hx hb d_M_bits_119 (by decide) (fun _ => ?_) (fun hc9 => absurd hc9 (ed))
                            refine lv_iload hx hb d_M_bits_127 (lv_at hl 0 rfl) ?_
                            refine lv_iconst (v := (nI 1)) hx hb d_M_bits_129 (by decide) ?_
                            refine lv_iload_n hx hb d_M_bits_130 rfl (lv_at hl 4 rfl) ?_
                            refine lv_ishl hx hb d_M_bits_131 ?_
                            refine ct_val (y := nI (ct_lb d)) (ct_lb_shl hisl.2.2 ed) ?_
                            refine lv_ior hx hb d_M_bits_132 ?_
                            refine ct_val (y := nI ((0 ||| ct_lb b) ||| ct_lb d)) (ct_or _ _) ?_
                            exact W.iret (v := (nI ((0 ||| ct_lb b) ||| ct_lb d))) hx hb hr (fun tS ht hW => ⟨⟨(nI ((0 ||| ct_lb b) ||| ct_lb d)), (), rfl, by rw [if_pos hq, ct_lbs, ct_lb_no ea] <;> simp, trivial⟩, hS.F ht⟩) hS.2.2 d_M_bits_133
                      · refine lv_iload_n hx hb d_M_bits_85 rfl (lv_at hl 1 rfl) ?_
                        refine lv_iconst (v := (-1)) hx hb d_M_bits_86 (by decide) ?_
                        refine lv_icmp_ne (tgt := 94) hx hb d_M_bits_87 (by decide) (fun _ => ?_) (fun hc9 => absurd hc9 (ea))
                        refine lv_iconst (v := (nI 1)) hx hb d_M_bits_94 (by decide) ?_
                        refine lv_iload_n hx hb d_M_bits_95 rfl (lv_at hl 1 rfl) ?_
                        refine lv_ishl hx hb d_M_bits_96 ?_
                        refine ct_val (y := nI (ct_lb a)) (ct_lb_shl hisl.1 ea) ?_
                        refine lv_istore (lv' := [(4, .int (nI (ct_lb a))), (3, .int (nI 1)), (0, .int a), (1, .int b), (2, .int d)]) hx hb d_M_bits_97 hl (by decide) rfl (fun ls hl => ?_)
                        by_cases eb : b = -1
                        · refine lv_iload_n hx hb d_M_bits_99 rfl (lv_at hl 3 rfl) ?_
                          refine lv_iconst (v := (-1)) hx hb d_M_bits_100 (by decide) ?_
                          refine lv_icmp_ne (tgt := 109) hx hb d_M_bits_101 (by decide) (fun hc9 => absurd (eb) hc9) (fun _ => ?_)
                          refine lv_iload hx hb d_M_bits_104 (lv_at hl 0 rfl) ?_
                          refine lv_goto (tgt := 115) hx hb d_M_bits_106 (by decide) ?_
                          refine lv_istore (lv' := [(4, .int (nI (ct_lb a))), (3, .int (nI 1)), (0, .int a), (1, .int b), (2, .int d)]) hx hb d_M_bits_115 hl (by decide) rfl (fun ls hl => ?_)
                          by_cases ed : d = -1
                          · refine lv_iload_n hx hb d_M_bits_117 rfl (lv_at hl 4 rfl) ?_
                            refine lv_iconst (v := (-1)) hx hb d_M_bits_118 (by decide) ?_
                            refine lv_icmp_ne (tgt := 127) hx hb d_M_bits_119 (by decide) (fun hc9 => absurd (ed) hc9) (fun _ => ?_)
                            refine lv_iload hx hb d_M_bits_122 (lv_at hl 0 rfl) ?_
                            refine lv_goto (tgt := 133) hx hb d_M_bits_124 (by decide) ?_
                            exact W.iret (v := (nI (ct_lb a))) hx hb hr (fun tS ht hW => ⟨⟨(nI (ct_lb a)), (), rfl, by rw [if_pos hq, ct_lbs, ct_lb_no eb, ct_lb_no ed] <;> simp, trivial⟩, hS.F ht⟩) hS.2.2 d_M_bits_133
                          · refine lv_iload_n hx hb d_M_bits_117 rfl (lv_at hl 4 rfl) ?_
                            refine lv_iconst (v := (-1)) hx hb d_M_bits_118 (by decide) ?_
                            refine lv_icmp_ne (tgt := 127) hx hb d_M_bits_119 (by decide) (fun _ => ?_) (fun hc9 => absurd hc9 (ed))
                            refine lv_iload hx hb d_M_bits_127 (lv_at hl 0 rfl) ?_
                            refine lv_iconst (v := (nI 1)) hx hb d_M_bits_129 (by decide) ?_
                            refine lv_iload_n hx hb d_M_bits_130 rfl (lv_at hl 4 rfl) ?_
                            refine lv_ishl hx hb d_M_bits_131 ?_
                            refine ct_val (y := nI (ct_lb d)) (ct_lb_shl hisl.2.2 ed) ?_
                            refine lv_ior hx hb d_M_bits_132 ?_
                            refine ct_val (y := nI (ct_lb a ||| ct_lb d)) (ct_or _ _) ?_
                            exact W.iret (v := (nI (ct_lb a ||| ct_lb d))) hx hb hr (fun tS ht hW => ⟨⟨(nI (ct_lb a ||| ct_lb d)), (), rfl, by rw [if_pos hq, ct_lbs, ct_lb_no eb] <;> simp, trivial⟩, hS.F ht⟩) hS.2.2 d_M_bits_133
                        · refine lv_iload_n hx hb d_M_bits_99 rfl (lv_at hl 3 rfl) ?_
                          refine lv_iconst (v := (-1)) hx hb d_M_bits_100 (by decide) ?_
                          refine lv_icmp_ne (tgt := 109) hx hb d_M_bits_101 (by decide) (fun _ => ?_) (fun hc9 => absurd hc9 (eb))
                          refine lv_iload hx hb d_M_bits_109 (lv_at hl 0 rfl) ?_
                          refine lv_iconst (v := (nI 1)) hx hb d_M_bits_111 (by decide) ?_
                          refine lv_iload_n hx hb d_M_bits_112 rfl (lv_at hl 3 rfl) ?_
                          refine lv_ishl hx hb d_M_bits_113 ?_
                          refine ct_val (y := nI (ct_lb b)) (ct_lb_shl hisl.2.1 eb) ?_
                          refine lv_ior hx hb d_M_bits_114 ?_
                          refine ct_val (y := nI (ct_lb a ||| ct_lb b)) (ct_or _ _) ?_
                          refine lv_istore (lv' := [(4, .int (nI (ct_lb a ||| ct_lb b))), (3, .int (nI 1)), (0, .int a), (1, .int b), (2, .int d)]) hx hb d_M_bits_115 hl (by decide) rfl (fun ls hl => ?_)
                          by_cases ed : d = -1
                          · refine lv_iload_n hx hb d_M_bits_117 rfl (lv_at hl 4 rfl) ?_
                            refine lv_iconst (v := (-1)) hx hb d_M_bits_118 (by decide) ?_
                            refine lv_icmp_ne (tgt := 127) hx hb d_M_bits_119 (by decide) (fun hc9 => absurd (ed) hc9) (fun _ => ?_)
                            refine lv_iload hx hb d_M_bits_122 (lv_at hl 0 rfl) ?_
                            refine lv_goto (tgt := 133) hx hb d_M_bits_124 (by decide) ?_
                            exact W.iret (v := (nI (ct_lb a ||| ct_lb b))) hx hb hr (fun tS ht hW => ⟨⟨(nI (ct_lb a ||| ct_lb b)), (), rfl, by rw [if_pos hq, ct_lbs, ct_lb_no ed] <;> simp, trivial⟩, hS.F ht⟩) hS.2.2 d_M_bits_133
                          · refine lv_iload_n hx hb d_M_bits_117 rfl (lv_at hl 4 rfl) ?_
                            refine lv_iconst (v := (-1)) hx hb d_M_bits_118 (by decide) ?_
                            refine lv_icmp_ne (tgt := 127) hx hb d_M_bits_119 (by decide) (fun _ => ?_) (fun hc9 => absurd hc9 (ed))
                            refine lv_iload hx hb d_M_bits_127 (lv_at hl 0 rfl) ?_
                            refine lv_iconst (v := (nI 1)) hx hb d_M_bits_129 (by decide) ?_
                            refine lv_iload_n hx hb d_M_bits_130 rfl (lv_at hl 4 rfl) ?_
                            refine lv_ishl hx hb d_M_bits_131 ?_
                            refine ct_val (y := nI (ct_lb d)) (ct_lb_shl hisl.2.2 ed) ?_
                            refine lv_ior hx hb d_M_bits_132 ?_
                            refine ct_val (y := nI ((ct_lb a ||| ct_lb b) ||| ct_lb d)) (ct_or _ _) ?_
                            exact W.iret (v := (nI ((ct_lb a ||| ct_lb b) ||| ct_lb d))) hx hb hr (fun tS ht hW => ⟨⟨(nI ((ct_lb a ||| ct_lb b) ||| ct_lb d)), (), rfl, by rw [if_pos hq, ct_lbs], trivial⟩, hS.F ht⟩) hS.2.2 d_M_bits_133
                    · refine lv_icmp_eq (tgt := 73) hx hb d_M_bits_60 (by decide) (fun hc9 => absurd hc9 (c9)) (fun _ => ?_)
                      refine lv_iload_n hx hb d_M_bits_63 rfl (lv_at hl 2 rfl) ?_
                      refine lv_iconst (v := (-1)) hx hb d_M_bits_64 (by decide) ?_
                      refine lv_icmp_eq (tgt := 77) hx hb d_M_bits_65 (by decide) (fun hc9 => absurd hc9 (c6)) (fun _ => ?_)
                      refine lv_iload_n hx hb d_M_bits_68 rfl (lv_at hl 3 rfl) ?_
                      refine lv_iload_n hx hb d_M_bits_69 rfl (lv_at hl 2 rfl) ?_
                      by_cases c10 : d ≤ b
                      · refine lv_icmp_le (tgt := 77) hx hb d_M_bits_70 (by decide) (fun _ => ?_) (fun hc9 => absurd (c10) hc9)
                        refine lv_iconst (v := (nI 0)) hx hb d_M_bits_77 (by decide) ?_
                        refine lv_istore_n (lv' := [(3, .int (nI 0)), (0, .int a), (1, .int b), (2, .int d)]) hx hb d_M_bits_78 rfl hl (by decide) rfl (fun ls hl => ?_)
                        refine lv_iload_n hx hb d_M_bits_79 rfl (lv_at hl 0 rfl) ?_
                        refine lv_if_ne (tgt := 85) hx hb d_M_bits_80 (by decide) (fun hc9 => absurd (nI_0) hc9) (fun _ => ?_)
                        refine lv_iconst (v := (-1)) hx hb d_M_bits_83 (by decide) ?_
                        exact W.iret (v := (-1)) hx hb hr (fun tS ht hW => ⟨⟨(-1), (), rfl, by rw [if_neg (fun hq => absurd (ct_al_iff.mp hq) (by simp [c0, c1, c2, c3, c4, c5, c6, c7, c8, c9, c10]))], trivial⟩, hS.F ht⟩) hS.2.2 d_M_bits_84
                      · refine lv_icmp_le (tgt := 77) hx hb d_M_bits_70 (by decide) (fun hc9 => absurd hc9 (c10)) (fun _ => ?_)
                        refine lv_iconst (v := (nI 1)) hx hb d_M_bits_73 (by decide) ?_
                        refine lv_goto (tgt := 78) hx hb d_M_bits_74 (by decide) ?_
                        refine lv_istore_n (lv' := [(3, .int (nI 1)), (0, .int a), (1, .int b), (2, .int d)]) hx hb d_M_bits_78 rfl hl (by decide) rfl (fun ls hl => ?_)
                        refine lv_iload_n hx hb d_M_bits_79 rfl (lv_at hl 0 rfl) ?_
                        refine lv_if_ne (tgt := 85) hx hb d_M_bits_80 (by decide) (fun _ => ?_) (fun hc9 => absurd hc9 (nI_ne0 (by omega) (by omega)))
                        have hq : ct_al a b d = true := ct_al_iff.mpr ⟨c0, c1, c2, c3, c4, c5, Or.inr ⟨c7, c8⟩, Or.inr ⟨c6, c10⟩⟩
                        have hisl := ct_al_isl hq
                        by_cases ea : a = -1
                        · refine lv_iload_n hx hb d_M_bits_85 rfl (lv_at hl 1 rfl) ?_
                          refine lv_iconst (v := (-1)) hx hb d_M_bits_86 (by decide) ?_
                          refine lv_icmp_ne (tgt := 94) hx hb d_M_bits_87 (by decide) (fun hc9 => absurd (ea) hc9) (fun _ => ?_)
                          refine lv_iconst (v := (nI 0)) hx hb d_M_bits_90 (by decide) ?_
                          refine lv_goto (tgt := 97) hx hb d_M_bits_91 (by decide) ?_
                          refine lv_istore (lv' := [(4, .int (nI 0)), (3, .int (nI 1)), (0, .int a), (1, .int b), (2, .int d)]) hx hb d_M_bits_97 hl (by decide) rfl (fun ls hl => ?_)
                          by_cases eb : b = -1
                          · refine lv_iload_n hx hb d_M_bits_99 rfl (lv_at hl 3 rfl) ?_
                            refine lv_iconst (v := (-1)) hx hb d_M_bits_100 (by decide) ?_
                            refine lv_icmp_ne (tgt := 109) hx hb d_M_bits_101 (by decide) (fun hc9 => absurd (eb) hc9) (fun _ => ?_)
                            refine lv_iload hx hb d_M_bits_104 (lv_at hl 0 rfl) ?_
                            refine lv_goto (tgt := 115) hx hb d_M_bits_106 (by decide) ?_
                            refine lv_istore (lv' := [(4, .int (nI 0)), (3, .int (nI 1)), (0, .int a), (1, .int b), (2, .int d)]) hx hb d_M_bits_115 hl (by decide) rfl (fun ls hl => ?_)
                            by_cases ed : d = -1
                            · refine lv_iload_n hx hb d_M_bits_117 rfl (lv_at hl 4 rfl) ?_
                              refine lv_iconst (v := (-1)) hx hb d_M_bits_118 (by decide) ?_
                              refine lv_icmp_ne (tgt := 127) hx hb d_M_bits_119 (by decide) (fun hc9 => absurd (ed) hc9) (fun _ => ?_)
                              refine lv_iload hx hb d_M_bits_122 (lv_at hl 0 rfl) ?_
                              refine lv_goto (tgt := 133) hx hb d_M_bits_124 (by decide) ?_
                              exact W.iret (v := (nI 0)) hx hb hr (fun tS ht hW => ⟨⟨(nI 0), (), rfl, by rw [if_pos hq, ct_lbs, ct_lb_no ea, ct_lb_no eb, ct_lb_no ed] <;> simp, trivial⟩, hS.F ht⟩) hS.2.2 d_M_bits_133
                            · refine lv_iload_n hx hb d_M_bits_117 rfl (lv_at hl 4 rfl) ?_
                              refine lv_iconst (v := (-1)) hx hb d_M_bits_118 (by decide) ?_
                              refine lv_icmp_ne (tgt := 127) hx hb d_M_bits_119 (by decide) (fun _ => ?_) (fun hc9 => absurd hc9 (ed))
                              refine lv_iload hx hb d_M_bits_127 (lv_at hl 0 rfl) ?_
                              refine lv_iconst (v := (nI 1)) hx hb d_M_bits_129 (by decide) ?_
                              refine lv_iload_n hx hb d_M_bits_130 rfl (lv_at hl 4 rfl) ?_
                              refine lv_ishl hx hb d_M_bits_131 ?_
                              refine ct_val (y := nI (ct_lb d)) (ct_lb_shl hisl.2.2 ed) ?_
                              refine lv_ior hx hb d_M_bits_132 ?_
                              refine ct_val (y := nI (0 ||| ct_lb d)) (ct_or _ _) ?_
                              exact W.iret (v := (nI (0 ||| ct_lb d))) hx hb hr (fun tS ht hW => ⟨⟨(nI (0 ||| ct_lb d)), (), rfl, by rw [if_pos hq, ct_lbs, ct_lb_no ea, ct_lb_no eb] <;> simp, trivial⟩, hS.F ht⟩) hS.2.2 d_M_bits_133
                          · refine lv_iload_n hx hb d_M_bits_99 rfl (lv_at hl 3 rfl) ?_
                            refine lv_iconst (v := (-1)) hx hb d_M_bits_100 (by decide) ?_
                            refine lv_icmp_ne (tgt := 109) hx hb d_M_bits_101 (by decide) (fun _ => ?_) (fun hc9 => absurd hc9 (eb))
                            refine lv_iload hx hb d_M_bits_109 (lv_at hl 0 rfl) ?_
                            refine lv_iconst (v := (nI 1)) hx hb d_M_bits_111 (by decide) ?_
                            refine lv_iload_n hx hb d_M_bits_112 rfl (lv_at hl 3 rfl) ?_
                            refine lv_ishl hx hb d_M_bits_113 ?_
                            refine ct_val (y := nI (ct_lb b)) (ct_lb_shl hisl.2.1 eb) ?_
                            refine lv_ior hx hb d_M_bits_114 ?_
                            refine ct_val (y := nI (0 ||| ct_lb b)) (ct_or _ _) ?_
                            refine lv_istore (lv' := [(4, .int (nI (0 ||| ct_lb b))), (3, .int (nI 1)), (0, .int a), (1, .int b), (2, .int d)]) hx hb d_M_bits_115 hl (by decide) rfl (fun ls hl => ?_)
                            by_cases ed : d = -1
                            · refine lv_iload_n hx hb d_M_bits_117 rfl (lv_at hl 4 rfl) ?_
                              refine lv_iconst (v := (-1)) hx hb d_M_bits_118 (by decide) ?_
                              refine lv_icmp_ne (tgt := 127) hx hb d_M_bits_119 (by decide) (fun hc9 => absurd (ed) hc9) (fun _ => ?_)
                              refine lv_iload hx hb d_M_bits_122 (lv_at hl 0 rfl) ?_
                              refine lv_goto (tgt := 133) hx hb d_M_bits_124 (by decide) ?_
                              exact W.iret (v := (nI (0 ||| ct_lb b))) hx hb hr (fun tS ht hW => ⟨⟨(nI (0 ||| ct_lb b)), (), rfl, by rw [if_pos hq, ct_lbs, ct_lb_no ea, ct_lb_no ed] <;> simp, trivial⟩, hS.F ht⟩) hS.2.2 d_M_bits_133
                            · refine lv_iload_n hx hb d_M_bits_117 rfl (lv_at hl 4 rfl) ?_
                              refine lv_iconst (v := (-1)) hx hb d_M_bits_118 (by decide) ?_
                              refine lv_icmp_ne (tgt := 127) hx hb d_M_bits_119 (by decide) (fun _ => ?_) (fun hc9 => absurd hc9 (ed))
                              refine lv_iload hx hb d_M_bits_127 (lv_at hl 0 rfl) ?_
                              refine lv_iconst (v := (nI 1)) hx hb d_M_bits_129 (by decide) ?_
                              refine lv_iload_n hx hb d_M_bits_130 rfl (lv_at hl 4 rfl) ?_
                              refine lv_ishl hx hb d_M_bits_131 ?_
                              refine ct_val (y := nI (ct_lb d)) (ct_lb_shl hisl.2.2 ed) ?_
                              refine lv_ior hx hb d_M_bits_132 ?_
                              refine ct_val (y := nI ((0 ||| ct_lb b) ||| ct_lb d)) (ct_or _ _) ?_
                              exact W.iret (v := (nI ((0 ||| ct_lb b) ||| ct_lb d))) hx hb hr (fun tS ht hW => ⟨⟨(nI ((0 ||| ct_lb b) ||| ct_lb d)), (), rfl, by rw [if_pos hq, ct_lbs, ct_lb_no ea] <;> simp, trivial⟩, hS.F ht⟩) hS.2.2 d_M_bits_133
                        · refine lv_iload_n hx hb d_M_bits_85 rfl (lv_at hl 1 rfl) ?_
                          refine lv_iconst (v := (-1)) hx hb d_M_bits_86 (by decide) ?_
                          refine lv_icmp_ne (tgt := 94) hx hb d_M_bits_87 (by decide) (fun _ => ?_) (fun hc9 => absurd hc9 (ea))
                          refine lv_iconst (v := (nI 1)) hx hb d_M_bits_94 (by decide) ?_
                          refine lv_iload_n hx hb d_M_bits_95 rfl (lv_at hl 1 rfl) ?_
                          refine lv_ishl hx hb d_M_bits_96 ?_
                          refine ct_val (y := nI (ct_lb a)) (ct_lb_shl hisl.1 ea) ?_
                          refine lv_istore (lv' := [(4, .int (nI (ct_lb a))), (3, .int (nI 1)), (0, .int a), (1, .int b), (2, .int d)]) hx hb d_M_bits_97 hl (by decide) rfl (fun ls hl => ?_)
                          by_cases eb : b = -1
                          · refine lv_iload_n hx hb d_M_bits_99 rfl (lv_at hl 3 rfl) ?_
                            refine lv_iconst (v := (-1)) hx hb d_M_bits_100 (by decide) ?_
                            refine lv_icmp_ne (tgt := 109) hx hb d_M_bits_101 (by decide) (fun hc9 => absurd (eb) hc9) (fun _ => ?_)
                            refine lv_iload hx hb d_M_bits_104 (lv_at hl 0 rfl) ?_
                            refine lv_goto (tgt := 115) hx hb d_M_bits_106 (by decide) ?_
                            refine lv_istore (lv' := [(4, .int (nI (ct_lb a))), (3, .int (nI 1)), (0, .int a), (1, .int b), (2, .int d)]) hx hb d_M_bits_115 hl (by decide) rfl (fun ls hl => ?_)
                            by_cases ed : d = -1
                            · refine lv_iload_n hx hb d_M_bits_117 rfl (lv_at hl 4 rfl) ?_
                              refine lv_iconst (v := (-1)) hx hb d_M_bits_118 (by decide) ?_
                              refine lv_icmp_ne (tgt := 127) hx hb d_M_bits_119 (by decide) (fun hc9 => absurd (ed) hc9) (fun _ => ?_)
                              refine lv_iload hx hb d_M_bits_122 (lv_at hl 0 rfl) ?_
                              refine lv_goto (tgt := 133) hx hb d_M_bits_124 (by decide) ?_
                              exact W.iret (v := (nI (ct_lb a))) hx hb hr (fun tS ht hW => ⟨⟨(nI (ct_lb a)), (), rfl, by rw [if_pos hq, ct_lbs, ct_lb_no eb, ct_lb_no ed] <;> simp, trivial⟩, hS.F ht⟩) hS.2.2 d_M_bits_133
                            · refine lv_iload_n hx hb d_M_bits_117 rfl (lv_at hl 4 rfl) ?_
                              refine lv_iconst (v := (-1)) hx hb d_M_bits_118 (by decide) ?_
                              refine lv_icmp_ne (tgt := 127) hx hb d_M_bits_119 (by decide) (fun _ => ?_) (fun hc9 => absurd hc9 (ed))
                              refine lv_iload hx hb d_M_bits_127 (lv_at hl 0 rfl) ?_
                              refine lv_iconst (v := (nI 1)) hx hb d_M_bits_129 (by decide) ?_
                              refine lv_iload_n hx hb d_M_bits_130 rfl (lv_at hl 4 rfl) ?_
                              refine lv_ishl hx hb d_M_bits_131 ?_
                              refine ct_val (y := nI (ct_lb d)) (ct_lb_shl hisl.2.2 ed) ?_
                              refine lv_ior hx hb d_M_bits_132 ?_
                              refine ct_val (y := nI (ct_lb a ||| ct_lb d)) (ct_or _ _) ?_
                              exact W.iret (v := (nI (ct_lb a ||| ct_lb d))) hx hb hr (fun tS ht hW => ⟨⟨(nI (ct_lb a ||| ct_lb d)), (), rfl, by rw [if_pos hq, ct_lbs, ct_lb_no eb] <;> simp, trivial⟩, hS.F ht⟩) hS.2.2 d_M_bits_133
                          · refine lv_iload_n hx hb d_M_bits_99 rfl (lv_at hl 3 rfl) ?_
                            refine lv_iconst (v := (-1)) hx hb d_M_bits_100 (by decide) ?_
                            refine lv_icmp_ne (tgt := 109) hx hb d_M_bits_101 (by decide) (fun _ => ?_) (fun hc9 => absurd hc9 (eb))
                            refine lv_iload hx hb d_M_bits_109 (lv_at hl 0 rfl) ?_
                            refine lv_iconst (v := (nI 1)) hx hb d_M_bits_111 (by decide) ?_
                            refine lv_iload_n hx hb d_M_bits_112 rfl (lv_at hl 3 rfl) ?_
                            refine lv_ishl hx hb d_M_bits_113 ?_
                            refine ct_val (y := nI (ct_lb b)) (ct_lb_shl hisl.2.1 eb) ?_
                            refine lv_ior hx hb d_M_bits_114 ?_
                            refine ct_val (y := nI (ct_lb a ||| ct_lb b)) (ct_or _ _) ?_
                            refine lv_istore (lv' := [(4, .int (nI (ct_lb a ||| ct_lb b))), (3, .int (nI 1)), (0, .int a), (1, .int b), (2, .int d)]) hx hb d_M_bits_115 hl (by decide) rfl (fun ls hl => ?_)
                            by_cases ed : d = -1
                            · refine lv_iload_n hx hb d_M_bits_117 rfl (lv_at hl 4 rfl) ?_
                              refine lv_iconst (v := (-1)) hx hb d_M_bits_118 (by decide) ?_
                              refine lv_icmp_ne (tgt := 127) hx hb d_M_bits_119 (by decide) (fun hc9 => absurd (ed) hc9) (fun _ => ?_)
                              refine lv_iload hx hb d_M_bits_122 (lv_at hl 0 rfl) ?_
                              refine lv_goto (tgt := 133) hx hb d_M_bits_124 (by decide) ?_
                              exact W.iret (v := (nI (ct_lb a ||| ct_lb b))) hx hb hr (fun tS ht hW => ⟨⟨(nI (ct_lb a ||| ct_lb b)), (), rfl, by rw [if_pos hq, ct_lbs, ct_lb_no ed] <;> simp, trivial⟩, hS.F ht⟩) hS.2.2 d_M_bits_133
                            · refine lv_iload_n hx hb d_M_bits_117 rfl (lv_at hl 4 rfl) ?_
                              refine lv_iconst (v := (-1)) hx hb d_M_bits_118 (by decide) ?_
                              refine lv_icmp_ne (tgt := 127) hx hb d_M_bits_119 (by decide) (fun _ => ?_) (fun hc9 => absurd hc9 (ed))
                              refine lv_iload hx hb d_M_bits_127 (lv_at hl 0 rfl) ?_
                              refine lv_iconst (v := (nI 1)) hx hb d_M_bits_129 (by decide) ?_
                              refine lv_iload_n hx hb d_M_bits_130 rfl (lv_at hl 4 rfl) ?_
                              refine lv_ishl hx hb d_M_bits_131 ?_
                              refine ct_val (y := nI (ct_lb d)) (ct_lb_shl hisl.2.2 ed) ?_
                              refine lv_ior hx hb d_M_bits_132 ?_
                              refine ct_val (y := nI ((ct_lb a ||| ct_lb b) ||| ct_lb d)) (ct_or _ _) ?_
                              exact W.iret (v := (nI ((ct_lb a ||| ct_lb b) ||| ct_lb d))) hx hb hr (fun tS ht hW => ⟨⟨(nI ((ct_lb a ||| ct_lb b) ||| ct_lb d)), (), rfl, by rw [if_pos hq, ct_lbs], trivial⟩, hS.F ht⟩) hS.2.2 d_M_bits_133
