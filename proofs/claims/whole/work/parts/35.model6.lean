/-- a choice r, with the indexes of the labels of U taken from d -/
def ct_mx (U : Nat → Bool) (r d : Nat → Nat) : Nat → Nat := fun j => if U j = true then d j else r j
theorem ct_mx_in {U : Nat → Bool} {r d : Nat → Nat} {j : Nat} (h : U j = true) : ct_mx U r d j = d j := if_pos h
theorem ct_mx_out {U : Nat → Bool} {r d : Nat → Nat} {j : Nat} (h : U j = false) : ct_mx U r d j = r j := if_neg (by rw [h]; exact Bool.false_ne_true)
theorem ct_mx_st {U : Nat → Bool} {r d : Nat → Nat} {k : Nat} (h : U k = true) (i : Nat) : ct_mx U r (ct_st d k i) = ct_st (ct_mx U r d) k i := by
  funext j
  by_cases hj : j = k
  · rw [hj, ct_mx_in h, ct_st_at, ct_st_at]
  · rw [ct_st_ne _ _ hj]
    cases hU : U j with
    | true => rw [ct_mx_in hU, ct_mx_in hU, ct_st_ne _ _ hj]
    | false => rw [ct_mx_out hU, ct_mx_out hU]
theorem ct_sm_mx {sz : Nat → Nat} {U : Nat → Bool} {r : Nat → Nat} (G : (Nat → Nat) → Int32) (n : Nat) : ∀ t, ct_sm sz U n (fun t => G (ct_mx U r t)) t = ct_sm sz U n G (ct_mx U r t) := by
  induction n with
  | zero => exact fun t => rfl
  | succ n ih =>
    intro t
    cases hp : U n with
    | true =>
      rw [ct_sm_in hp, ct_sm_in hp]
      exact ct_sum_congr fun i _ => by rw [ih, ct_mx_st hp]
    | false => rw [ct_sm_out hp, ct_sm_out hp]; exact ih t
theorem ct_sum_mx {sz : Nat → Nat} {U : Nat → Bool} (hs : ∀ j, j < 8 → 0 < sz j) (hU : ∀ k, 8 ≤ k → U k = false) (G : (Nat → Nat) → Int32) (r : Nat → Nat) : ct_sum (fun q => G (ct_mx U r (ct_de sz U 8 q))) (ct_pr sz U 8) = ct_sm sz U 8 G r := by
  rw [ct_sum_de 8 hs (fun t => G (ct_mx U r t)), ct_sm_mx]
  refine ct_sm_at (S := fun _ => true) (fun t u h => by rw [funext (fun k => h k rfl)]) 8 _ _ (fun k _ h => ?_)
  by_cases hk : k < 8
  · exact ct_mx_out (h hk)
  · exact ct_mx_out (hU k (by omega))
theorem ct_de_end {sz : Nat → Nat} {U : Nat → Bool} (hs : ∀ j, j < 8 → 0 < sz j) : ct_de sz U 8 (ct_pr sz U 8) = fun _ => 0 := by
  have h := ct_de_mul (sz := sz) (P := U) (k := 0) 8 (Nat.zero_le 8) hs 1
  rw [ct_up_0, Nat.one_mul] at h
  exact h
theorem ct_ix_de {sz : Nat → Nat} {P : Nat → Bool} (n : Nat) (hs : ∀ j, j < n → 0 < sz j) : ∀ q, q < ct_pr sz P n → ct_ix sz P n (ct_de sz P n q) = q := by
  induction n with
  | zero => intro q h; have h : q < 1 := h; show 0 = q; omega
  | succ n ih =>
    intro q h
    have ih := ih (fun j hj => hs j (by omega))
    have h0 := hs n (by omega)
    cases hp : P n with
    | true =>
      rw [ct_pr_in hp] at h
      rw [ct_ix_in hp, ct_de_in hp, ct_st_at, ct_ix_congr (t' := ct_de sz P n (q / sz n)) n (fun _ _ => rfl) (fun _ _ _ => rfl) (fun j hj _ => ct_st_ne _ _ (by omega)), ih _ (Nat.div_lt_of_lt_mul (by rw [Nat.mul_comm]; exact h))]
      have := Nat.div_add_mod' q (sz n)
      omega
    | false =>
      rw [ct_pr_out hp] at h
      rw [ct_ix_out hp, ct_de_out hp]
      exact ih q h
theorem ct_andn (x y : Int32) : x &&& (y ^^^ (-1)) = x ^^^ (x &&& y) := by
  apply Int32.toBitVec_inj.mp
  have e : (-1 : Int32).toBitVec = BitVec.allOnes 32 := by decide
  rw [Int32.toBitVec_and, Int32.toBitVec_xor, Int32.toBitVec_xor, Int32.toBitVec_and, e, BitVec.xor_allOnes]
  apply BitVec.eq_of_getLsbD_eq
  intro i hi
  simp only [BitVec.getLsbD_and, BitVec.getLsbD_xor, BitVec.getLsbD_not, hi, decide_true, Bool.true_and]
  cases x.toBitVec.getLsbD i <;> cases y.toBitVec.getLsbD i <;> rfl
theorem ct_andnI (a b : Nat) : nI a &&& (nI b ^^^ (-1)) = nI (a ^^^ (a &&& b)) := by rw [ct_andn, ct_and, ct_xor]
theorem ct_andn_bit (a b k : Nat) : (a ^^^ (a &&& b)).testBit k = (a.testBit k && !b.testBit k) := by
  rw [Nat.testBit_xor, Nat.testBit_and]
  cases a.testBit k <;> cases b.testBit k <;> rfl
theorem ct_andn_lt {a b : Nat} (h : a < 256) : a ^^^ (a &&& b) < 256 := Nat.xor_lt_two_pow (n := 8) h (Nat.lt_of_le_of_lt Nat.and_le_left h)
theorem pk_sub1 {i : Nat} (h : 0 < i) : nI i - 1 = nI (i - 1) := pk_sub (a := i) (b := 1) h
theorem d_M_next_0 : decode b_M_next 0 = .ok (.iconst 0, 1) := by decide +kernel
theorem d_M_next_1 : decode b_M_next 1 = .ok (.istore_n 2, 1) := by decide +kernel
theorem d_M_next_2 : decode b_M_next 2 = .ok (.bipush 7, 2) := by decide +kernel
theorem d_M_next_4 : decode b_M_next 4 = .ok (.istore_n 3, 1) := by decide +kernel
theorem d_M_next_5 : decode b_M_next 5 = .ok (.iload_n 3, 1) := by decide +kernel
theorem d_M_next_6 : decode b_M_next 6 = .ok (.ifCond .lt 73, 3) := by decide +kernel
theorem d_M_next_9 : decode b_M_next 9 = .ok (.iload_n 2, 1) := by decide +kernel
theorem d_M_next_10 : decode b_M_next 10 = .ok (.ifCond .ne 69, 3) := by decide +kernel
theorem d_M_next_13 : decode b_M_next 13 = .ok (.iload_n 1, 1) := by decide +kernel
theorem d_M_next_14 : decode b_M_next 14 = .ok (.iload_n 3, 1) := by decide +kernel
theorem d_M_next_15 : decode b_M_next 15 = .ok (.ishr, 1) := by decide +kernel
theorem d_M_next_16 : decode b_M_next 16 = .ok (.iconst 1, 1) := by decide +kernel
theorem d_M_next_17 : decode b_M_next 17 = .ok (.iand, 1) := by decide +kernel
theorem d_M_next_18 : decode b_M_next 18 = .ok (.iconst 1, 1) := by decide +kernel
theorem d_M_next_19 : decode b_M_next 19 = .ok (.if_icmp .ne 54, 3) := by decide +kernel
theorem d_M_next_22 : decode b_M_next 22 = .ok (.aload_n 0, 1) := by decide +kernel
theorem d_M_next_23 : decode b_M_next 23 = .ok (.getfield 34, 3) := by decide +kernel
theorem d_M_next_26 : decode b_M_next 26 = .ok (.iload_n 3, 1) := by decide +kernel
theorem d_M_next_27 : decode b_M_next 27 = .ok (.dup2, 1) := by decide +kernel
theorem d_M_next_28 : decode b_M_next 28 = .ok (.iaload, 1) := by decide +kernel
theorem d_M_next_29 : decode b_M_next 29 = .ok (.iconst 1, 1) := by decide +kernel
theorem d_M_next_30 : decode b_M_next 30 = .ok (.iadd, 1) := by decide +kernel
theorem d_M_next_31 : decode b_M_next 31 = .ok (.iastore, 1) := by decide +kernel
theorem d_M_next_32 : decode b_M_next 32 = .ok (.aload_n 0, 1) := by decide +kernel
theorem d_M_next_33 : decode b_M_next 33 = .ok (.getfield 34, 3) := by decide +kernel
theorem d_M_next_36 : decode b_M_next 36 = .ok (.iload_n 3, 1) := by decide +kernel
theorem d_M_next_37 : decode b_M_next 37 = .ok (.iaload, 1) := by decide +kernel
theorem d_M_next_38 : decode b_M_next 38 = .ok (.aload_n 0, 1) := by decide +kernel
theorem d_M_next_39 : decode b_M_next 39 = .ok (.getfield 7, 3) := by decide +kernel
theorem d_M_next_42 : decode b_M_next 42 = .ok (.iload_n 3, 1) := by decide +kernel
theorem d_M_next_43 : decode b_M_next 43 = .ok (.iaload, 1) := by decide +kernel
theorem d_M_next_44 : decode b_M_next 44 = .ok (.if_icmp .ge 7, 3) := by decide +kernel
theorem d_M_next_47 : decode b_M_next 47 = .ok (.iconst 1, 1) := by decide +kernel
theorem d_M_next_48 : decode b_M_next 48 = .ok (.goto 4, 3) := by decide +kernel
theorem d_M_next_51 : decode b_M_next 51 = .ok (.iconst 0, 1) := by decide +kernel
theorem d_M_next_52 : decode b_M_next 52 = .ok (.istore_n 2, 1) := by decide +kernel
theorem d_M_next_53 : decode b_M_next 53 = .ok (.aload_n 0, 1) := by decide +kernel
theorem d_M_next_54 : decode b_M_next 54 = .ok (.getfield 34, 3) := by decide +kernel
theorem d_M_next_57 : decode b_M_next 57 = .ok (.iload_n 3, 1) := by decide +kernel
theorem d_M_next_58 : decode b_M_next 58 = .ok (.iload_n 2, 1) := by decide +kernel
theorem d_M_next_59 : decode b_M_next 59 = .ok (.ifCond .eq 12, 3) := by decide +kernel
theorem d_M_next_62 : decode b_M_next 62 = .ok (.aload_n 0, 1) := by decide +kernel
theorem d_M_next_63 : decode b_M_next 63 = .ok (.getfield 34, 3) := by decide +kernel
theorem d_M_next_66 : decode b_M_next 66 = .ok (.iload_n 3, 1) := by decide +kernel
theorem d_M_next_67 : decode b_M_next 67 = .ok (.iaload, 1) := by decide +kernel
theorem d_M_next_68 : decode b_M_next 68 = .ok (.goto 4, 3) := by decide +kernel
theorem d_M_next_71 : decode b_M_next 71 = .ok (.iconst 0, 1) := by decide +kernel
theorem d_M_next_72 : decode b_M_next 72 = .ok (.iastore, 1) := by decide +kernel
theorem d_M_next_73 : decode b_M_next 73 = .ok (.iinc 3 (-1), 3) := by decide +kernel
theorem d_M_next_76 : decode b_M_next 76 = .ok (.goto (-71), 3) := by decide +kernel
theorem d_M_next_79 : decode b_M_next 79 = .ok (.iload_n 2, 1) := by decide +kernel
theorem d_M_next_80 : decode b_M_next 80 = .ok (.ireturn, 1) := by decide +kernel
theorem d_M_value_0 : decode b_M_value 0 = .ok (.aload_n 0, 1) := by decide +kernel
theorem d_M_value_1 : decode b_M_value 1 = .ok (.iload_n 1, 1) := by decide +kernel
theorem d_M_value_2 : decode b_M_value 2 = .ok (.iconst 0, 1) := by decide +kernel
theorem d_M_value_3 : decode b_M_value 3 = .ok (.aload_n 0, 1) := by decide +kernel
theorem d_M_value_4 : decode b_M_value 4 = .ok (.aload_n 0, 1) := by decide +kernel
theorem d_M_value_5 : decode b_M_value 5 = .ok (.getfield 67, 3) := by decide +kernel
theorem d_M_value_8 : decode b_M_value 8 = .ok (.invokevirtual 60, 3) := by decide +kernel
theorem d_M_value_11 : decode b_M_value 11 = .ok (.iconst 1, 1) := by decide +kernel
theorem d_M_value_12 : decode b_M_value 12 = .ok (.isub, 1) := by decide +kernel
theorem d_M_value_13 : decode b_M_value 13 = .ok (.invokestatic 41, 3) := by decide +kernel
theorem d_M_value_16 : decode b_M_value 16 = .ok (.ifCond .ne 7, 3) := by decide +kernel
theorem d_M_value_19 : decode b_M_value 19 = .ok (.iconst 1, 1) := by decide +kernel
theorem d_M_value_20 : decode b_M_value 20 = .ok (.goto 4, 3) := by decide +kernel
theorem d_M_value_23 : decode b_M_value 23 = .ok (.iconst 0, 1) := by decide +kernel
theorem d_M_value_24 : decode b_M_value 24 = .ok (.iconst 0, 1) := by decide +kernel
theorem d_M_value_25 : decode b_M_value 25 = .ok (.invokevirtual 48, 3) := by decide +kernel
theorem d_M_value_28 : decode b_M_value 28 = .ok (.ifCond .eq 5, 3) := by decide +kernel
theorem d_M_value_31 : decode b_M_value 31 = .ok (.iconst 0, 1) := by decide +kernel
theorem d_M_value_32 : decode b_M_value 32 = .ok (.ireturn, 1) := by decide +kernel
theorem d_M_value_33 : decode b_M_value 33 = .ok (.iload_n 1, 1) := by decide +kernel
theorem d_M_value_34 : decode b_M_value 34 = .ok (.istore_n 2, 1) := by decide +kernel
theorem d_M_value_35 : decode b_M_value 35 = .ok (.bipush 7, 2) := by decide +kernel
theorem d_M_value_37 : decode b_M_value 37 = .ok (.istore_n 3, 1) := by decide +kernel
theorem d_M_value_38 : decode b_M_value 38 = .ok (.iload_n 3, 1) := by decide +kernel
theorem d_M_value_39 : decode b_M_value 39 = .ok (.ifCond .lt 69, 3) := by decide +kernel
theorem d_M_value_42 : decode b_M_value 42 = .ok (.aload_n 0, 1) := by decide +kernel
theorem d_M_value_43 : decode b_M_value 43 = .ok (.getfield 67, 3) := by decide +kernel
theorem d_M_value_46 : decode b_M_value 46 = .ok (.iload_n 3, 1) := by decide +kernel
theorem d_M_value_47 : decode b_M_value 47 = .ok (.ishr, 1) := by decide +kernel
theorem d_M_value_48 : decode b_M_value 48 = .ok (.iconst 1, 1) := by decide +kernel
theorem d_M_value_49 : decode b_M_value 49 = .ok (.iand, 1) := by decide +kernel
theorem d_M_value_50 : decode b_M_value 50 = .ok (.iconst 1, 1) := by decide +kernel
theorem d_M_value_51 : decode b_M_value 51 = .ok (.if_icmp .ne 7, 3) := by decide +kernel
theorem d_M_value_54 : decode b_M_value 54 = .ok (.iconst 1, 1) := by decide +kernel
theorem d_M_value_55 : decode b_M_value 55 = .ok (.goto 4, 3) := by decide +kernel
theorem d_M_value_58 : decode b_M_value 58 = .ok (.iconst 0, 1) := by decide +kernel
theorem d_M_value_59 : decode b_M_value 59 = .ok (.istore 4, 2) := by decide +kernel
theorem d_M_value_61 : decode b_M_value 61 = .ok (.aload_n 0, 1) := by decide +kernel
theorem d_M_value_62 : decode b_M_value 62 = .ok (.getfield 34, 3) := by decide +kernel
theorem d_M_value_65 : decode b_M_value 65 = .ok (.iload_n 3, 1) := by decide +kernel
theorem d_M_value_66 : decode b_M_value 66 = .ok (.iload 4, 2) := by decide +kernel
theorem d_M_value_68 : decode b_M_value 68 = .ok (.ifCond .eq 14, 3) := by decide +kernel
theorem d_M_value_71 : decode b_M_value 71 = .ok (.iload_n 2, 1) := by decide +kernel
theorem d_M_value_72 : decode b_M_value 72 = .ok (.aload_n 0, 1) := by decide +kernel
theorem d_M_value_73 : decode b_M_value 73 = .ok (.getfield 7, 3) := by decide +kernel
theorem d_M_value_76 : decode b_M_value 76 = .ok (.iload_n 3, 1) := by decide +kernel
theorem d_M_value_77 : decode b_M_value 77 = .ok (.iaload, 1) := by decide +kernel
theorem d_M_value_78 : decode b_M_value 78 = .ok (.irem, 1) := by decide +kernel
theorem d_M_value_79 : decode b_M_value 79 = .ok (.goto 4, 3) := by decide +kernel
theorem d_M_value_82 : decode b_M_value 82 = .ok (.iconst 0, 1) := by decide +kernel
theorem d_M_value_83 : decode b_M_value 83 = .ok (.iastore, 1) := by decide +kernel
theorem d_M_value_84 : decode b_M_value 84 = .ok (.iload 4, 2) := by decide +kernel
theorem d_M_value_86 : decode b_M_value 86 = .ok (.ifCond .eq 14, 3) := by decide +kernel
theorem d_M_value_89 : decode b_M_value 89 = .ok (.iload_n 2, 1) := by decide +kernel
theorem d_M_value_90 : decode b_M_value 90 = .ok (.aload_n 0, 1) := by decide +kernel
theorem d_M_value_91 : decode b_M_value 91 = .ok (.getfield 7, 3) := by decide +kernel
theorem d_M_value_94 : decode b_M_value 94 = .ok (.iload_n 3, 1) := by decide +kernel
theorem d_M_value_95 : decode b_M_value 95 = .ok (.iaload, 1) := by decide +kernel
theorem d_M_value_96 : decode b_M_value 96 = .ok (.idiv, 1) := by decide +kernel
theorem d_M_value_97 : decode b_M_value 97 = .ok (.goto 4, 3) := by decide +kernel
theorem d_M_value_100 : decode b_M_value 100 = .ok (.iload_n 2, 1) := by decide +kernel
theorem d_M_value_101 : decode b_M_value 101 = .ok (.istore_n 2, 1) := by decide +kernel
theorem d_M_value_102 : decode b_M_value 102 = .ok (.iinc 3 (-1), 3) := by decide +kernel
theorem d_M_value_105 : decode b_M_value 105 = .ok (.goto (-67), 3) := by decide +kernel
theorem d_M_value_108 : decode b_M_value 108 = .ok (.aload_n 0, 1) := by decide +kernel
theorem d_M_value_109 : decode b_M_value 109 = .ok (.iconst 1, 1) := by decide +kernel
theorem d_M_value_110 : decode b_M_value 110 = .ok (.aload_n 0, 1) := by decide +kernel
theorem d_M_value_111 : decode b_M_value 111 = .ok (.getfield 64, 3) := by decide +kernel
theorem d_M_value_114 : decode b_M_value 114 = .ok (.ishl, 1) := by decide +kernel
theorem d_M_value_115 : decode b_M_value 115 = .ok (.iconst 1, 1) := by decide +kernel
theorem d_M_value_116 : decode b_M_value 116 = .ok (.isub, 1) := by decide +kernel
theorem d_M_value_117 : decode b_M_value 117 = .ok (.invokevirtual 70, 3) := by decide +kernel
theorem d_M_value_120 : decode b_M_value 120 = .ok (.aload_n 0, 1) := by decide +kernel
theorem d_M_value_121 : decode b_M_value 121 = .ok (.getfield 67, 3) := by decide +kernel
theorem d_M_value_124 : decode b_M_value 124 = .ok (.iconst (-1), 1) := by decide +kernel
theorem d_M_value_125 : decode b_M_value 125 = .ok (.ixor, 1) := by decide +kernel
theorem d_M_value_126 : decode b_M_value 126 = .ok (.iand, 1) := by decide +kernel
theorem d_M_value_127 : decode b_M_value 127 = .ok (.istore_n 3, 1) := by decide +kernel
theorem d_M_value_128 : decode b_M_value 128 = .ok (.iconst 0, 1) := by decide +kernel
theorem d_M_value_129 : decode b_M_value 129 = .ok (.istore 4, 2) := by decide +kernel
theorem d_M_value_131 : decode b_M_value 131 = .ok (.iconst 1, 1) := by decide +kernel
theorem d_M_value_132 : decode b_M_value 132 = .ok (.istore 5, 2) := by decide +kernel
theorem d_M_value_134 : decode b_M_value 134 = .ok (.iload 5, 2) := by decide +kernel
theorem d_M_value_136 : decode b_M_value 136 = .ok (.ifCond .eq 78, 3) := by decide +kernel
theorem d_M_value_139 : decode b_M_value 139 = .ok (.iconst 1, 1) := by decide +kernel
theorem d_M_value_140 : decode b_M_value 140 = .ok (.istore 6, 2) := by decide +kernel
theorem d_M_value_142 : decode b_M_value 142 = .ok (.iconst 0, 1) := by decide +kernel
theorem d_M_value_143 : decode b_M_value 143 = .ok (.istore 7, 2) := by decide +kernel
theorem d_M_value_145 : decode b_M_value 145 = .ok (.iload 7, 2) := by decide +kernel
theorem d_M_value_147 : decode b_M_value 147 = .ok (.aload_n 0, 1) := by decide +kernel
theorem d_M_value_148 : decode b_M_value 148 = .ok (.getfield 64, 3) := by decide +kernel
theorem d_M_value_151 : decode b_M_value 151 = .ok (.if_icmp .ge 46, 3) := by decide +kernel
theorem d_M_value_154 : decode b_M_value 154 = .ok (.iload 6, 2) := by decide +kernel
theorem d_M_value_156 : decode b_M_value 156 = .ok (.aload_n 0, 1) := by decide +kernel
theorem d_M_value_157 : decode b_M_value 157 = .ok (.getfield 16, 3) := by decide +kernel
theorem d_M_value_160 : decode b_M_value 160 = .ok (.bipush 27, 2) := by decide +kernel
theorem d_M_value_162 : decode b_M_value 162 = .ok (.aload_n 0, 1) := by decide +kernel
theorem d_M_value_163 : decode b_M_value 163 = .ok (.getfield 19, 3) := by decide +kernel
theorem d_M_value_166 : decode b_M_value 166 = .ok (.iload 7, 2) := by decide +kernel
theorem d_M_value_168 : decode b_M_value 168 = .ok (.iaload, 1) := by decide +kernel
theorem d_M_value_169 : decode b_M_value 169 = .ok (.imul, 1) := by decide +kernel
theorem d_M_value_170 : decode b_M_value 170 = .ok (.aload_n 0, 1) := by decide +kernel
theorem d_M_value_171 : decode b_M_value 171 = .ok (.aload_n 0, 1) := by decide +kernel
theorem d_M_value_172 : decode b_M_value 172 = .ok (.getfield 13, 3) := by decide +kernel
theorem d_M_value_175 : decode b_M_value 175 = .ok (.aload_n 0, 1) := by decide +kernel
theorem d_M_value_176 : decode b_M_value 176 = .ok (.getfield 19, 3) := by decide +kernel
theorem d_M_value_179 : decode b_M_value 179 = .ok (.iload 7, 2) := by decide +kernel
theorem d_M_value_181 : decode b_M_value 181 = .ok (.iaload, 1) := by decide +kernel
theorem d_M_value_182 : decode b_M_value 182 = .ok (.iaload, 1) := by decide +kernel
theorem d_M_value_183 : decode b_M_value 183 = .ok (.invokevirtual 89, 3) := by decide +kernel
theorem d_M_value_186 : decode b_M_value 186 = .ok (.iadd, 1) := by decide +kernel
theorem d_M_value_187 : decode b_M_value 187 = .ok (.iaload, 1) := by decide +kernel
theorem d_M_value_188 : decode b_M_value 188 = .ok (.imul, 1) := by decide +kernel
theorem d_M_value_189 : decode b_M_value 189 = .ok (.istore 6, 2) := by decide +kernel
theorem d_M_value_191 : decode b_M_value 191 = .ok (.iinc 7 1, 3) := by decide +kernel
theorem d_M_value_194 : decode b_M_value 194 = .ok (.goto (-49), 3) := by decide +kernel
theorem d_M_value_197 : decode b_M_value 197 = .ok (.iload 4, 2) := by decide +kernel
theorem d_M_value_199 : decode b_M_value 199 = .ok (.iload 6, 2) := by decide +kernel
theorem d_M_value_201 : decode b_M_value 201 = .ok (.iadd, 1) := by decide +kernel
theorem d_M_value_202 : decode b_M_value 202 = .ok (.istore 4, 2) := by decide +kernel
theorem d_M_value_204 : decode b_M_value 204 = .ok (.aload_n 0, 1) := by decide +kernel
theorem d_M_value_205 : decode b_M_value 205 = .ok (.iload_n 3, 1) := by decide +kernel
theorem d_M_value_206 : decode b_M_value 206 = .ok (.invokevirtual 92, 3) := by decide +kernel
theorem d_M_value_209 : decode b_M_value 209 = .ok (.istore 5, 2) := by decide +kernel
theorem d_M_value_211 : decode b_M_value 211 = .ok (.goto (-77), 3) := by decide +kernel
theorem d_M_value_214 : decode b_M_value 214 = .ok (.iload 4, 2) := by decide +kernel
theorem d_M_value_216 : decode b_M_value 216 = .ok (.ireturn, 1) := by decide +kernel
set_option maxHeartbeats 4000000 in
set_option maxRecDepth 100000 in
theorem c_M_next (l : Launch) (dC : Nat → ClassId) (dI : Nat → Nat → Nat) (cI : ClassId) (o0 o1 o2 o3 o4 o5 o6 o7 o8 o9 : Nat) (thr tab ops res stp : Int32) (sz : Nat → Nat) (hsz : ∀ k, k < 8 → 0 < sz k ∧ sz k < 4) (M : Nat) (hM : M < 256) (rr : Nat → Nat) (q : Nat) (hq : q < (ct_pr sz M.testBit 8)) (tt : Nat → Nat) (ht : tt = (ct_mx M.testBit rr (ct_de sz M.testBit 8 q))) (sz0 : Nat) : Met l y_M_next w_M_next ({ frames := 0, cells := 0, slots := 0, locals := 0 }) (va_Pc [.ref o0, .int (nI M)] (ct_rw (dC, dI) ct_cl [(o0, .inr (4, [.int thr, .ref o1, .int tab, .ref o2, .ref o3, .int ops, .ref o4, .int res, .ref o5, .ref o6, .int stp, .ref o7, .ref o8, .ref o9])), (o1, .inl (cI, 8, .inl (fun j => nI (sz j)))), (o9, .inl (cI, 8, .inl (fun j => nI (tt j))))] [(cI, .int)] sz0)) (va_Qi (fun (r : Int32) (u : Nat → Nat) => (r = nI 1 ∧ q + 1 < (ct_pr sz M.testBit 8) ∧ u = (ct_mx M.testBit rr (ct_de sz M.testBit 8 (q + 1)))) ∨ (r = nI 0 ∧ q + 1 = (ct_pr sz M.testBit 8))) (fun (u : Nat → Nat) t => ct_at (dC, dI) ct_cl [(cI, .int)] (va_A [(o0, .inr (4, [.int thr, .ref o1, .int tab, .ref o2, .ref o3, .int ops, .ref o4, .int res, .ref o5, .ref o6, .int stp, .ref o7, .ref o8, .ref o9])), (o1, .inl (cI, 8, .inl (fun j => nI (sz j)))), (o9, .inl (cI, 8, .inl (fun j => nI (tt j))))] sz0) [(o0, .inr (4, [.int thr, .ref o1, .int tab, .ref o2, .ref o3, .int ops, .ref o4, .int res, .ref o5, .ref o6, .int stp, .ref o7, .ref o8, .ref o9])), (o1, .inl (cI, 8, .inl (fun j => nI (sz j)))), (o9, .inl (cI, 8, .inl (fun j => nI (u j))))] t) (va_A [(o0, .inr (4, [.int thr, .ref o1, .int tab, .ref o2, .ref o3, .int ops, .ref o4, .int res, .ref o5, .ref o6, .int stp, .ref o7, .ref o8, .ref o9])), (o1, .inl (cI, 8, .inl (fun j => nI (sz j)))), (o9, .inl (cI, 8, .inl (fun j => nI (tt j))))] sz0)) 0 0 (va_A [(o0, .inr (4, [.int thr, .ref o1, .int tab, .ref o2, .ref o3, .int ops, .ref o4, .int res, .ref o5, .ref o6, .int stp, .ref o7, .ref o8, .ref o9])), (o1, .inl (cI, 8, .inl (fun j => nI (sz j)))), (o9, .inl (cI, 8, .inl (fun j => nI (tt j))))] sz0) := by
  refine Met.ofW (cc := b_M_next) (maxL := 4) (ret := (some .boolean)) (by decide) rfl ?_
  intro p e s m args below meth c s₁ Bd hml hv
  obtain ⟨hargs, hsz, hP, hK, hD0⟩ := hv
  have hx := Bd.exec
  have hb := Bd.bytes
  have hr := Bd.returns
  have hts : ∀ w ∈ k_M_next :: ct_tb, w.before args s = true := atoms_spec (ws := w_M_next) Bd.pre
  have hown : s.vm.findClass R_M = some m.cls := findClass_of_methodNamed Bd.named
  have hlocks := Bd.notSynchronized
  subst hsz
  have hD := hD0.self (sz := s.heap.size)
  generalize hAe : va_A [(o0, .inr (4, [.int thr, .ref o1, .int tab, .ref o2, .ref o3, .int ops, .ref o4, .int res, .ref o5, .ref o6, .int stp, .ref o7, .ref o8, .ref o9])), (o1, .inl (cI, 8, .inl (fun j => nI (sz j)))), (o9, .inl (cI, 8, .inl (fun j => nI (tt j))))] s.heap.size = A at hD ⊢
  have hA : ∀ q : Nat, s.heap.size ≤ q → A q := fun q h => by rw [← hAe]; exact Or.inr h
  have hS : va_S A s.heap s.heap [] := va_S.rf
  have hl := lv_entry ([.ref o0, .int (nI M)]) (n := 4) (Nat.le_of_ble_eq_true rfl)
  rw [show entryFrame m args 4 = entryFrame m (([.ref o0, .int (nI M)] : List Value)).toArray 4 by rw [hargs], lg_entry_eq]
  generalize (lg_sl ([.ref o0, .int (nI M)]) ++ List.replicate (4 - (lg_sl ([.ref o0, .int (nI M)])).length) Slot.unset).toArray = ls at hl ⊢
  have hl : lv_has ls 4 [(0, .ref o0), (1, .int (nI M))] := hl
  have hs0 : ∀ j, j < 8 → 0 < sz j := fun j hj => (hsz j hj).1
  subst ht
  have loop : ∀ (n : Nat), n ≤ 8 → ∀ (d : Nat → Nat), ct_car sz M.testBit q n d → ∀ (H : Heap) (locs : List Loc), va_P (dC, dI) ct_cl [(o0, .inr (4, [.int thr, .ref o1, .int tab, .ref o2, .ref o3, .int ops, .ref o4, .int res, .ref o5, .ref o6, .int stp, .ref o7, .ref o8, .ref o9])), (o1, .inl (cI, 8, .inl (fun j => nI (sz j)))), (o9, .inl (cI, 8, .inl (fun j => nI ((ct_mx M.testBit rr d) j))))] H → va_D A [(o0, .inr (4, [.int thr, .ref o1, .int tab, .ref o2, .ref o3, .int ops, .ref o4, .int res, .ref o5, .ref o6, .int stp, .ref o7, .ref o8, .ref o9])), (o1, .inl (cI, 8, .inl (fun j => nI (sz j)))), (o9, .inl (cI, 8, .inl (fun j => nI ((ct_mx M.testBit rr d) j))))] → va_S A s.heap H locs → ∀ (ls : Array Slot), lv_has ls 4 [(0, .ref o0), (1, .int (nI M)), (2, .int (nI 0)), (3, .int (nI n - 1))] → W p l e (headSpec w_M_next ({ frames := 0, cells := 0, slots := 0, locals := 0 } : Room)).room s m args below meth c H locs 0 0 (MQ below (va_Qi (fun (r : Int32) (u : Nat → Nat) => (r = nI 1 ∧ q + 1 < (ct_pr sz M.testBit 8) ∧ u = (ct_mx M.testBit rr (ct_de sz M.testBit 8 (q + 1)))) ∨ (r = nI 0 ∧ q + 1 = (ct_pr sz M.testBit 8))) (fun (u : Nat → Nat) t => ct_at (dC, dI) ct_cl [(cI, .int)] (A) [(o0, .inr (4, [.int thr, .ref o1, .int tab, .ref o2, .ref o3, .int ops, .ref o4, .int res, .ref o5, .ref o6, .int stp, .ref o7, .ref o8, .ref o9])), (o1, .inl (cI, 8, .inl (fun j => nI (sz j)))), (o9, .inl (cI, 8, .inl (fun j => nI (u j))))] t) (A)) args s 0 0 A) (F0 m 5 ls []) := by
    intro n
    induction n with
    | zero =>
      intro hn8 d hcar H locs hP hD hS ls hl
      refine lv_iload_n hx hb d_M_next_5 rfl (lv_at hl 3 rfl) ?_
      refine lv_if_lt (tgt := 79) hx hb d_M_next_6 (by decide) (fun _ => ?_) (fun hc9 => absurd (by decide) hc9)
      refine lv_iload_n hx hb d_M_next_79 rfl (lv_at hl 2 rfl) ?_
      have hend := ct_car_end hcar (Nat.zero_le 8) (fun i hi => absurd hi (Nat.not_lt_zero i))
      have hP9 := hP.sub [0, 1, 2] rfl
      exact W.zret (v := (nI 0)) hx hb hr (by first | rfl | decide) (fun tS ht hW => ⟨⟨(nI 0), (ct_mx M.testBit rr d), rfl, Or.inr ⟨rfl, by omega⟩, by rw [ht]; exact hP9, va_K.moved hW.alike hK, hD.sub [0, 1, 2] (by decide) rfl⟩, hS.F ht⟩) hS.2.2 d_M_next_80
    | succ i ih =>
      intro hn8 d hcar H locs hP hD hS ls hl
      rw [show nI (i + 1) - 1 = nI i from nI_pred i] at hl
      have hzi := hsz i (by omega)
      refine lv_iload_n hx hb d_M_next_5 rfl (lv_at hl 3 rfl) ?_
      refine lv_if_lt (tgt := 79) hx hb d_M_next_6 (by decide) (fun hc9 => absurd hc9 (nI_pos (by omega))) (fun _ => ?_)
      refine lv_iload_n hx hb d_M_next_9 rfl (lv_at hl 2 rfl) ?_
      refine lv_if_ne (tgt := 79) hx hb d_M_next_10 (by decide) (fun hc9 => absurd (nI_0) hc9) (fun _ => ?_)
      refine lv_iload_n hx hb d_M_next_13 rfl (lv_at hl 1 rfl) ?_
      refine lv_iload_n hx hb d_M_next_14 rfl (lv_at hl 3 rfl) ?_
      refine lv_ishr hx hb d_M_next_15 ?_
      refine lv_iconst (v := (nI 1)) hx hb d_M_next_16 (by decide) ?_
      by_cases hbt : M.testBit i = true
      · refine lv_iand hx hb d_M_next_17 ?_
        refine ct_val (y := nI 1) (by rw [ct_bit (by omega) (by omega), if_pos hbt]) ?_
        refine lv_iconst (v := (nI 1)) hx hb d_M_next_18 (by decide) ?_
        refine lv_icmp_ne (tgt := 73) hx hb d_M_next_19 (by decide) (fun hc9 => absurd (rfl) hc9) (fun _ => ?_)
        have hdi : d i < sz i := by obtain ⟨q9, -, e9⟩ := hcar; rw [e9]; exact ct_de_lt (i + 1) q9 i (fun k hk => (hsz k (by omega)).1) (by omega)
        refine lv_aload_n hx hb d_M_next_22 rfl (lv_at hl 0 rfl) ?_
        refine va_get (D := (dC, dI)) (ci := 4) (v := .ref o9) (C := R_M) (T := T_M) (N := 14) hx hb hts (fun w h9 => ct_tl (ki_M w h9)) hown hK hP 0 rfl rfl 13 (by decide) (hts _ (ct_tl kw_532)) (fun _ h9 => h9) rfl d_M_next_23 ?_
        refine lv_iload_n hx hb d_M_next_26 rfl (lv_at hl 3 rfl) ?_
        refine lv_dup2_11 hx hb d_M_next_27 rfl rfl ?_
        refine ct_iald hx hb hK hP 2 0 rfl rfl (j := i) (by omega) (by omega) d_M_next_28 ?_
        refine ct_val (y := nI (d i)) (congrArg nI (ct_mx_in hbt)) ?_
        refine lv_iconst (v := (nI 1)) hx hb d_M_next_29 (by decide) ?_
        refine lv_iadd hx hb d_M_next_30 ?_
        refine ct_val (y := nI (d i + 1)) (nI_1 _) ?_
        refine ct_iast hx hb hK hP hD hS 2 0 rfl rfl (j := i) (by omega) (by omega) d_M_next_31 (fun H locs hP hD hS => ?_)
        have hP : va_P (dC, dI) ct_cl [(o0, .inr (4, [.int thr, .ref o1, .int tab, .ref o2, .ref o3, .int ops, .ref o4, .int res, .ref o5, .ref o6, .int stp, .ref o7, .ref o8, .ref o9])), (o1, .inl (cI, 8, .inl (fun j => nI (sz j)))), (o9, .inl (cI, 8, .inl (upd (fun j => nI ((ct_mx M.testBit rr d) j)) i (nI (d i + 1)))))] H := hP
        have hD : va_D A [(o0, .inr (4, [.int thr, .ref o1, .int tab, .ref o2, .ref o3, .int ops, .ref o4, .int res, .ref o5, .ref o6, .int stp, .ref o7, .ref o8, .ref o9])), (o1, .inl (cI, 8, .inl (fun j => nI (sz j)))), (o9, .inl (cI, 8, .inl (upd (fun j => nI ((ct_mx M.testBit rr d) j)) i (nI (d i + 1)))))] := hD
        rw [show (upd (fun j => nI ((ct_mx M.testBit rr d) j)) i (nI (d i + 1))) = (fun j => nI ((ct_mx M.testBit rr (ct_st d i (d i + 1))) j)) from (ct_upd_st _ i (d i + 1)).trans (by rw [ct_mx_st hbt])] at hP hD
        refine lv_aload_n hx hb d_M_next_32 rfl (lv_at hl 0 rfl) ?_
        refine va_get (D := (dC, dI)) (ci := 4) (v := .ref o9) (C := R_M) (T := T_M) (N := 14) hx hb hts (fun w h9 => ct_tl (ki_M w h9)) hown hK hP 0 rfl rfl 13 (by decide) (hts _ (ct_tl kw_532)) (fun _ h9 => h9) rfl d_M_next_33 ?_
        refine lv_iload_n hx hb d_M_next_36 rfl (lv_at hl 3 rfl) ?_
        refine ct_iald hx hb hK hP 2 0 rfl rfl (j := i) (by omega) (by omega) d_M_next_37 ?_
        refine ct_val (y := nI (d i + 1)) (congrArg nI ((ct_mx_in hbt).trans (ct_st_at _ _ _))) ?_
        refine lv_aload_n hx hb d_M_next_38 rfl (lv_at hl 0 rfl) ?_
        refine va_get (D := (dC, dI)) (ci := 4) (v := .ref o1) (C := R_M) (T := T_M) (N := 14) hx hb hts (fun w h9 => ct_tl (ki_M w h9)) hown hK hP 0 rfl rfl 1 (by decide) (hts _ (ct_tl kw_520)) (fun _ h9 => h9) rfl d_M_next_39 ?_
        refine lv_iload_n hx hb d_M_next_42 rfl (lv_at hl 3 rfl) ?_
        refine ct_iald hx hb hK hP 1 0 rfl rfl (j := i) (by omega) (by omega) d_M_next_43 ?_
        refine ct_val (y := nI (sz i)) (rfl) ?_
        by_cases h3 : d i + 1 < sz i
        · refine lv_icmp_ge (tgt := 51) hx hb d_M_next_44 (by decide) (fun hc9 => absurd hc9 (nI_ge h3 (by omega))) (fun _ => ?_)
          refine lv_iconst (v := (nI 1)) hx hb d_M_next_47 (by decide) ?_
          refine lv_goto (tgt := 52) hx hb d_M_next_48 (by decide) ?_
          refine lv_istore_n (lv' := [(2, .int (nI 1)), (0, .ref o0), (1, .int (nI M)), (3, .int (nI i))]) hx hb d_M_next_52 rfl hl (by decide) rfl (fun ls hl => ?_)
          refine lv_aload_n hx hb d_M_next_53 rfl (lv_at hl 1 rfl) ?_
          refine va_get (D := (dC, dI)) (ci := 4) (v := .ref o9) (C := R_M) (T := T_M) (N := 14) hx hb hts (fun w h9 => ct_tl (ki_M w h9)) hown hK hP 0 rfl rfl 13 (by decide) (hts _ (ct_tl kw_532)) (fun _ h9 => h9) rfl d_M_next_54 ?_
          refine lv_iload_n hx hb d_M_next_57 rfl (lv_at hl 3 rfl) ?_
          refine lv_iload_n hx hb d_M_next_58 rfl (lv_at hl 0 rfl) ?_
          refine lv_if_eq (tgt := 71) hx hb d_M_next_59 (by decide) (fun hc9 => absurd hc9 (nI_ne0 (by omega) (by omega))) (fun _ => ?_)
          refine lv_aload_n hx hb d_M_next_62 rfl (lv_at hl 1 rfl) ?_
          refine va_get (D := (dC, dI)) (ci := 4) (v := .ref o9) (C := R_M) (T := T_M) (N := 14) hx hb hts (fun w h9 => ct_tl (ki_M w h9)) hown hK hP 0 rfl rfl 13 (by decide) (hts _ (ct_tl kw_532)) (fun _ h9 => h9) rfl d_M_next_63 ?_
          refine lv_iload_n hx hb d_M_next_66 rfl (lv_at hl 3 rfl) ?_
          refine ct_iald hx hb hK hP 2 0 rfl rfl (j := i) (by omega) (by omega) d_M_next_67 ?_
          refine ct_val (y := nI (d i + 1)) (congrArg nI ((ct_mx_in hbt).trans (ct_st_at _ _ _))) ?_
          refine lv_goto (tgt := 72) hx hb d_M_next_68 (by decide) ?_
          refine ct_iast hx hb hK hP hD hS 2 0 rfl rfl (j := i) (by omega) (by omega) d_M_next_72 (fun H locs hP hD hS => ?_)
          have hP : va_P (dC, dI) ct_cl [(o0, .inr (4, [.int thr, .ref o1, .int tab, .ref o2, .ref o3, .int ops, .ref o4, .int res, .ref o5, .ref o6, .int stp, .ref o7, .ref o8, .ref o9])), (o1, .inl (cI, 8, .inl (fun j => nI (sz j)))), (o9, .inl (cI, 8, .inl (upd (fun j => nI ((ct_mx M.testBit rr (ct_st d i (d i + 1))) j)) i (nI (d i + 1)))))] H := hP
          have hD : va_D A [(o0, .inr (4, [.int thr, .ref o1, .int tab, .ref o2, .ref o3, .int ops, .ref o4, .int res, .ref o5, .ref o6, .int stp, .ref o7, .ref o8, .ref o9])), (o1, .inl (cI, 8, .inl (fun j => nI (sz j)))), (o9, .inl (cI, 8, .inl (upd (fun j => nI ((ct_mx M.testBit rr (ct_st d i (d i + 1))) j)) i (nI (d i + 1)))))] := hD
          have estop := ct_car_stop hcar hs0 (by omega) hbt (by omega)
          rw [show (upd (fun j => nI ((ct_mx M.testBit rr (ct_st d i (d i + 1))) j)) i (nI (d i + 1))) = (fun j => nI ((ct_mx M.testBit rr (ct_de sz M.testBit 8 (q + 1))) j)) from (ct_upd_st _ i (d i + 1)).trans (by rw [← ct_mx_st hbt, ct_st_st, estop])] at hP hD
          have hlt : q + 1 < (ct_pr sz M.testBit 8) := Nat.lt_of_le_of_ne hq (fun z => by have e1 := ct_de_end (U := M.testBit) hs0; rw [← z, ← estop] at e1; have e2 := congrFun e1 i; rw [ct_st_at] at e2; omega)
          refine lv_iinc (v := (nI i - 1)) (lv' := [(3, .int (nI i - 1)), (2, .int (nI 1)), (0, .ref o0), (1, .int (nI M))]) hx hb d_M_next_73 hl (k := 3) rfl (by rw [Int32.sub_eq_add_neg]; rfl) (by decide) rfl (fun ls hl => ?_)
          refine lv_goto (tgt := 5) hx hb d_M_next_76 (by decide) ?_
          refine lv_iload_n hx hb d_M_next_5 rfl (lv_at hl 0 rfl) ?_
          by_cases h0 : i = 0
          · refine lv_if_lt (tgt := 79) hx hb d_M_next_6 (by decide) (fun _ => ?_) (fun hc9 => absurd (by rw [h0]; decide) hc9)
            refine lv_iload_n hx hb d_M_next_79 rfl (lv_at hl 1 rfl) ?_
            have hP9 := hP.sub [0, 1, 2] rfl
            exact W.zret (v := (nI 1)) hx hb hr (by first | rfl | decide) (fun tS ht hW => ⟨⟨(nI 1), (ct_mx M.testBit rr (ct_de sz M.testBit 8 (q + 1))), rfl, Or.inl ⟨rfl, hlt, rfl⟩, by rw [ht]; exact hP9, va_K.moved hW.alike hK, hD.sub [0, 1, 2] (by decide) rfl⟩, hS.F ht⟩) hS.2.2 d_M_next_80
          · refine lv_if_lt (tgt := 79) hx hb d_M_next_6 (by decide) (fun hc9 => absurd hc9 (by rw [pk_sub1 (by omega)]; exact nI_pos (by omega))) (fun _ => ?_)
            refine lv_iload_n hx hb d_M_next_9 rfl (lv_at hl 1 rfl) ?_
            refine lv_if_ne (tgt := 79) hx hb d_M_next_10 (by decide) (fun _ => ?_) (fun hc9 => absurd hc9 (nI_ne0 (by omega) (by omega)))
            refine lv_iload_n hx hb d_M_next_79 rfl (lv_at hl 1 rfl) ?_
            have hP9 := hP.sub [0, 1, 2] rfl
            exact W.zret (v := (nI 1)) hx hb hr (by first | rfl | decide) (fun tS ht hW => ⟨⟨(nI 1), (ct_mx M.testBit rr (ct_de sz M.testBit 8 (q + 1))), rfl, Or.inl ⟨rfl, hlt, rfl⟩, by rw [ht]; exact hP9, va_K.moved hW.alike hK, hD.sub [0, 1, 2] (by decide) rfl⟩, hS.F ht⟩) hS.2.2 d_M_next_80
        · refine lv_icmp_ge (tgt := 51) hx hb d_M_next_44 (by decide) (fun _ => ?_) (fun hc9 => absurd (nI_le (by omega) (by omega)) hc9)
          refine lv_iconst (v := (nI 0)) hx hb d_M_next_51 (by decide) ?_
          refine lv_istore_n (lv' := [(2, .int (nI 0)), (0, .ref o0), (1, .int (nI M)), (3, .int (nI i))]) hx hb d_M_next_52 rfl hl (by decide) rfl (fun ls hl => ?_)
          refine lv_aload_n hx hb d_M_next_53 rfl (lv_at hl 1 rfl) ?_
          refine va_get (D := (dC, dI)) (ci := 4) (v := .ref o9) (C := R_M) (T := T_M) (N := 14) hx hb hts (fun w h9 => ct_tl (ki_M w h9)) hown hK hP 0 rfl rfl 13 (by decide) (hts _ (ct_tl kw_532)) (fun _ h9 => h9) rfl d_M_next_54 ?_
          refine lv_iload_n hx hb d_M_next_57 rfl (lv_at hl 3 rfl) ?_
          refine lv_iload_n hx hb d_M_next_58 rfl (lv_at hl 0 rfl) ?_
          refine lv_if_eq (tgt := 71) hx hb d_M_next_59 (by decide) (fun _ => ?_) (fun hc9 => absurd (nI_0) hc9)
          refine lv_iconst (v := (nI 0)) hx hb d_M_next_71 (by decide) ?_
          refine ct_iast hx hb hK hP hD hS 2 0 rfl rfl (j := i) (by omega) (by omega) d_M_next_72 (fun H locs hP hD hS => ?_)
          have hP : va_P (dC, dI) ct_cl [(o0, .inr (4, [.int thr, .ref o1, .int tab, .ref o2, .ref o3, .int ops, .ref o4, .int res, .ref o5, .ref o6, .int stp, .ref o7, .ref o8, .ref o9])), (o1, .inl (cI, 8, .inl (fun j => nI (sz j)))), (o9, .inl (cI, 8, .inl (upd (fun j => nI ((ct_mx M.testBit rr (ct_st d i (d i + 1))) j)) i (nI 0))))] H := hP
          have hD : va_D A [(o0, .inr (4, [.int thr, .ref o1, .int tab, .ref o2, .ref o3, .int ops, .ref o4, .int res, .ref o5, .ref o6, .int stp, .ref o7, .ref o8, .ref o9])), (o1, .inl (cI, 8, .inl (fun j => nI (sz j)))), (o9, .inl (cI, 8, .inl (upd (fun j => nI ((ct_mx M.testBit rr (ct_st d i (d i + 1))) j)) i (nI 0))))] := hD
          rw [show (upd (fun j => nI ((ct_mx M.testBit rr (ct_st d i (d i + 1))) j)) i (nI 0)) = (fun j => nI ((ct_mx M.testBit rr (ct_st d i 0)) j)) from (ct_upd_st _ i 0).trans (by rw [← ct_mx_st hbt, ct_st_st])] at hP hD
          refine lv_iinc (v := (nI i - 1)) (lv' := [(3, .int (nI i - 1)), (2, .int (nI 0)), (0, .ref o0), (1, .int (nI M))]) hx hb d_M_next_73 hl (k := 3) rfl (by rw [Int32.sub_eq_add_neg]; rfl) (by decide) rfl (fun ls hl => ?_)
          refine lv_goto (tgt := 5) hx hb d_M_next_76 (by decide) ?_
          exact ih (by omega) _ (ct_car_wrap hcar (by omega) hbt (by omega) (by omega)) H locs hP hD hS ls (lv_sub hl [2, 3, 1, 0] rfl)
      · refine lv_iand hx hb d_M_next_17 ?_
        refine ct_val (y := nI 0) (by rw [ct_bit (by omega) (by omega), if_neg hbt]) ?_
        refine lv_iconst (v := (nI 1)) hx hb d_M_next_18 (by decide) ?_
        refine lv_icmp_ne (tgt := 73) hx hb d_M_next_19 (by decide) (fun _ => ?_) (fun hc9 => absurd hc9 (by decide))
        refine lv_iinc (v := (nI i - 1)) (lv' := [(3, .int (nI i - 1)), (0, .ref o0), (1, .int (nI M)), (2, .int (nI 0))]) hx hb d_M_next_73 hl (k := 3) rfl (by rw [Int32.sub_eq_add_neg]; rfl) (by decide) rfl (fun ls hl => ?_)
        refine lv_goto (tgt := 5) hx hb d_M_next_76 (by decide) ?_
        exact ih (by omega) d (ct_car_down hcar i (by omega) (by omega) (fun j h1 h2 => Or.inl (by rw [show j = i by omega]; simpa using hbt))) H locs hP hD hS ls (lv_sub hl [1, 2, 3, 0] rfl)
  refine lv_iconst (v := (nI 0)) hx hb d_M_next_0 (by decide) ?_
  refine lv_istore_n (lv' := [(2, .int (nI 0)), (0, .ref o0), (1, .int (nI M))]) hx hb d_M_next_1 rfl hl (by decide) rfl (fun ls hl => ?_)
  refine lv_bipush (v := (nI 7)) hx hb d_M_next_2 (by decide) ?_
  refine lv_istore_n (lv' := [(3, .int (nI 7)), (2, .int (nI 0)), (0, .ref o0), (1, .int (nI M))]) hx hb d_M_next_4 rfl hl (by decide) rfl (fun ls hl => ?_)
  exact loop 8 (Nat.le_refl 8) _ (ct_car_0 _ _ _) s.heap [] hP hD hS ls (lv_sub hl [2, 3, 1, 0] rfl)
