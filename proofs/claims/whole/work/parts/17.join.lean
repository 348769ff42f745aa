theorem d_R_join_0 : decode b_R_join 0 = .ok (.iload 5, 2) := by decide +kernel
theorem d_R_join_2 : decode b_R_join 2 = .ok (.aload_n 0, 1) := by decide +kernel
theorem d_R_join_3 : decode b_R_join 3 = .ok (.getfield 9, 3) := by decide +kernel
theorem d_R_join_6 : decode b_R_join 6 = .ok (.iload 6, 2) := by decide +kernel
theorem d_R_join_8 : decode b_R_join 8 = .ok (.invokevirtual 46, 3) := by decide +kernel
theorem d_R_join_11 : decode b_R_join 11 = .ok (.iadd, 1) := by decide +kernel
theorem d_R_join_12 : decode b_R_join 12 = .ok (.istore 7, 2) := by decide +kernel
theorem d_R_join_14 : decode b_R_join 14 = .ok (.iload 5, 2) := by decide +kernel
theorem d_R_join_16 : decode b_R_join 16 = .ok (.istore 8, 2) := by decide +kernel
theorem d_R_join_18 : decode b_R_join 18 = .ok (.iload 8, 2) := by decide +kernel
theorem d_R_join_20 : decode b_R_join 20 = .ok (.iload 7, 2) := by decide +kernel
theorem d_R_join_22 : decode b_R_join 22 = .ok (.if_icmp .ge 17, 3) := by decide +kernel
theorem d_R_join_25 : decode b_R_join 25 = .ok (.aload_n 0, 1) := by decide +kernel
theorem d_R_join_26 : decode b_R_join 26 = .ok (.getfield 15, 3) := by decide +kernel
theorem d_R_join_29 : decode b_R_join 29 = .ok (.iload 8, 2) := by decide +kernel
theorem d_R_join_31 : decode b_R_join 31 = .ok (.iconst 0, 1) := by decide +kernel
theorem d_R_join_32 : decode b_R_join 32 = .ok (.iastore, 1) := by decide +kernel
theorem d_R_join_33 : decode b_R_join 33 = .ok (.iinc 8 1, 3) := by decide +kernel
theorem d_R_join_36 : decode b_R_join 36 = .ok (.goto (-18), 3) := by decide +kernel
theorem d_R_join_39 : decode b_R_join 39 = .ok (.aload_n 0, 1) := by decide +kernel
theorem d_R_join_40 : decode b_R_join 40 = .ok (.iload_n 2, 1) := by decide +kernel
theorem d_R_join_41 : decode b_R_join 41 = .ok (.iload 4, 2) := by decide +kernel
theorem d_R_join_43 : decode b_R_join 43 = .ok (.iload 6, 2) := by decide +kernel
theorem d_R_join_45 : decode b_R_join 45 = .ok (.invokevirtual 52, 3) := by decide +kernel
theorem d_R_join_48 : decode b_R_join 48 = .ok (.istore 8, 2) := by decide +kernel
theorem d_R_join_50 : decode b_R_join 50 = .ok (.aload_n 0, 1) := by decide +kernel
theorem d_R_join_51 : decode b_R_join 51 = .ok (.getfield 9, 3) := by decide +kernel
theorem d_R_join_54 : decode b_R_join 54 = .ok (.iload_n 2, 1) := by decide +kernel
theorem d_R_join_55 : decode b_R_join 55 = .ok (.iload 4, 2) := by decide +kernel
theorem d_R_join_57 : decode b_R_join 57 = .ok (.ior, 1) := by decide +kernel
theorem d_R_join_58 : decode b_R_join 58 = .ok (.iload 6, 2) := by decide +kernel
theorem d_R_join_60 : decode b_R_join 60 = .ok (.ior, 1) := by decide +kernel
theorem d_R_join_61 : decode b_R_join 61 = .ok (.invokevirtual 46, 3) := by decide +kernel
theorem d_R_join_64 : decode b_R_join 64 = .ok (.istore 9, 2) := by decide +kernel
theorem d_R_join_66 : decode b_R_join 66 = .ok (.iload_n 1, 1) := by decide +kernel
theorem d_R_join_67 : decode b_R_join 67 = .ok (.istore 10, 2) := by decide +kernel
theorem d_R_join_69 : decode b_R_join 69 = .ok (.iload_n 3, 1) := by decide +kernel
theorem d_R_join_70 : decode b_R_join 70 = .ok (.istore 11, 2) := by decide +kernel
theorem d_R_join_72 : decode b_R_join 72 = .ok (.iload 5, 2) := by decide +kernel
theorem d_R_join_74 : decode b_R_join 74 = .ok (.istore 12, 2) := by decide +kernel
theorem d_R_join_76 : decode b_R_join 76 = .ok (.iconst 0, 1) := by decide +kernel
theorem d_R_join_77 : decode b_R_join 77 = .ok (.istore 13, 2) := by decide +kernel
theorem d_R_join_79 : decode b_R_join 79 = .ok (.iload 13, 2) := by decide +kernel
theorem d_R_join_81 : decode b_R_join 81 = .ok (.iload 9, 2) := by decide +kernel
theorem d_R_join_83 : decode b_R_join 83 = .ok (.if_icmp .ge 155, 3) := by decide +kernel
theorem d_R_join_86 : decode b_R_join 86 = .ok (.aload_n 0, 1) := by decide +kernel
theorem d_R_join_87 : decode b_R_join 87 = .ok (.getfield 15, 3) := by decide +kernel
theorem d_R_join_90 : decode b_R_join 90 = .ok (.iload 12, 2) := by decide +kernel
theorem d_R_join_92 : decode b_R_join 92 = .ok (.dup2, 1) := by decide +kernel
theorem d_R_join_93 : decode b_R_join 93 = .ok (.iaload, 1) := by decide +kernel
theorem d_R_join_94 : decode b_R_join 94 = .ok (.aload_n 0, 1) := by decide +kernel
theorem d_R_join_95 : decode b_R_join 95 = .ok (.getfield 15, 3) := by decide +kernel
theorem d_R_join_98 : decode b_R_join 98 = .ok (.iload 10, 2) := by decide +kernel
theorem d_R_join_100 : decode b_R_join 100 = .ok (.iaload, 1) := by decide +kernel
theorem d_R_join_101 : decode b_R_join 101 = .ok (.aload_n 0, 1) := by decide +kernel
theorem d_R_join_102 : decode b_R_join 102 = .ok (.getfield 15, 3) := by decide +kernel
theorem d_R_join_105 : decode b_R_join 105 = .ok (.iload 11, 2) := by decide +kernel
theorem d_R_join_107 : decode b_R_join 107 = .ok (.iaload, 1) := by decide +kernel
theorem d_R_join_108 : decode b_R_join 108 = .ok (.imul, 1) := by decide +kernel
theorem d_R_join_109 : decode b_R_join 109 = .ok (.iadd, 1) := by decide +kernel
theorem d_R_join_110 : decode b_R_join 110 = .ok (.iastore, 1) := by decide +kernel
theorem d_R_join_111 : decode b_R_join 111 = .ok (.iload 8, 2) := by decide +kernel
theorem d_R_join_113 : decode b_R_join 113 = .ok (.iconst 1, 1) := by decide +kernel
theorem d_R_join_114 : decode b_R_join 114 = .ok (.isub, 1) := by decide +kernel
theorem d_R_join_115 : decode b_R_join 115 = .ok (.istore 14, 2) := by decide +kernel
theorem d_R_join_117 : decode b_R_join 117 = .ok (.iload 14, 2) := by decide +kernel
theorem d_R_join_119 : decode b_R_join 119 = .ok (.ifCond .lt 113, 3) := by decide +kernel
theorem d_R_join_122 : decode b_R_join 122 = .ok (.aload_n 0, 1) := by decide +kernel
theorem d_R_join_123 : decode b_R_join 123 = .ok (.getfield 22, 3) := by decide +kernel
theorem d_R_join_126 : decode b_R_join 126 = .ok (.iload 14, 2) := by decide +kernel
theorem d_R_join_128 : decode b_R_join 128 = .ok (.dup2, 1) := by decide +kernel
theorem d_R_join_129 : decode b_R_join 129 = .ok (.iaload, 1) := by decide +kernel
theorem d_R_join_130 : decode b_R_join 130 = .ok (.iconst 1, 1) := by decide +kernel
theorem d_R_join_131 : decode b_R_join 131 = .ok (.iadd, 1) := by decide +kernel
theorem d_R_join_132 : decode b_R_join 132 = .ok (.iastore, 1) := by decide +kernel
theorem d_R_join_133 : decode b_R_join 133 = .ok (.iconst 1, 1) := by decide +kernel
theorem d_R_join_134 : decode b_R_join 134 = .ok (.istore 15, 2) := by decide +kernel
theorem d_R_join_136 : decode b_R_join 136 = .ok (.aload_n 0, 1) := by decide +kernel
theorem d_R_join_137 : decode b_R_join 137 = .ok (.getfield 22, 3) := by decide +kernel
theorem d_R_join_140 : decode b_R_join 140 = .ok (.iload 14, 2) := by decide +kernel
theorem d_R_join_142 : decode b_R_join 142 = .ok (.iaload, 1) := by decide +kernel
theorem d_R_join_143 : decode b_R_join 143 = .ok (.aload_n 0, 1) := by decide +kernel
theorem d_R_join_144 : decode b_R_join 144 = .ok (.getfield 19, 3) := by decide +kernel
theorem d_R_join_147 : decode b_R_join 147 = .ok (.iload 14, 2) := by decide +kernel
theorem d_R_join_149 : decode b_R_join 149 = .ok (.iaload, 1) := by decide +kernel
theorem d_R_join_150 : decode b_R_join 150 = .ok (.if_icmp .ne 22, 3) := by decide +kernel
theorem d_R_join_153 : decode b_R_join 153 = .ok (.aload_n 0, 1) := by decide +kernel
theorem d_R_join_154 : decode b_R_join 154 = .ok (.getfield 22, 3) := by decide +kernel
theorem d_R_join_157 : decode b_R_join 157 = .ok (.iload 14, 2) := by decide +kernel
theorem d_R_join_159 : decode b_R_join 159 = .ok (.iconst 0, 1) := by decide +kernel
theorem d_R_join_160 : decode b_R_join 160 = .ok (.iastore, 1) := by decide +kernel
theorem d_R_join_161 : decode b_R_join 161 = .ok (.iconst 1, 1) := by decide +kernel
theorem d_R_join_162 : decode b_R_join 162 = .ok (.aload_n 0, 1) := by decide +kernel
theorem d_R_join_163 : decode b_R_join 163 = .ok (.getfield 19, 3) := by decide +kernel
theorem d_R_join_166 : decode b_R_join 166 = .ok (.iload 14, 2) := by decide +kernel
theorem d_R_join_168 : decode b_R_join 168 = .ok (.iaload, 1) := by decide +kernel
theorem d_R_join_169 : decode b_R_join 169 = .ok (.isub, 1) := by decide +kernel
theorem d_R_join_170 : decode b_R_join 170 = .ok (.istore 15, 2) := by decide +kernel
theorem d_R_join_172 : decode b_R_join 172 = .ok (.iload 10, 2) := by decide +kernel
theorem d_R_join_174 : decode b_R_join 174 = .ok (.iload 15, 2) := by decide +kernel
theorem d_R_join_176 : decode b_R_join 176 = .ok (.aload_n 0, 1) := by decide +kernel
theorem d_R_join_177 : decode b_R_join 177 = .ok (.getfield 25, 3) := by decide +kernel
theorem d_R_join_180 : decode b_R_join 180 = .ok (.iload 14, 2) := by decide +kernel
theorem d_R_join_182 : decode b_R_join 182 = .ok (.iaload, 1) := by decide +kernel
theorem d_R_join_183 : decode b_R_join 183 = .ok (.imul, 1) := by decide +kernel
theorem d_R_join_184 : decode b_R_join 184 = .ok (.iadd, 1) := by decide +kernel
theorem d_R_join_185 : decode b_R_join 185 = .ok (.istore 10, 2) := by decide +kernel
theorem d_R_join_187 : decode b_R_join 187 = .ok (.iload 11, 2) := by decide +kernel
theorem d_R_join_189 : decode b_R_join 189 = .ok (.iload 15, 2) := by decide +kernel
theorem d_R_join_191 : decode b_R_join 191 = .ok (.aload_n 0, 1) := by decide +kernel
theorem d_R_join_192 : decode b_R_join 192 = .ok (.getfield 28, 3) := by decide +kernel
theorem d_R_join_195 : decode b_R_join 195 = .ok (.iload 14, 2) := by decide +kernel
theorem d_R_join_197 : decode b_R_join 197 = .ok (.iaload, 1) := by decide +kernel
theorem d_R_join_198 : decode b_R_join 198 = .ok (.imul, 1) := by decide +kernel
theorem d_R_join_199 : decode b_R_join 199 = .ok (.iadd, 1) := by decide +kernel
theorem d_R_join_200 : decode b_R_join 200 = .ok (.istore 11, 2) := by decide +kernel
theorem d_R_join_202 : decode b_R_join 202 = .ok (.iload 12, 2) := by decide +kernel
theorem d_R_join_204 : decode b_R_join 204 = .ok (.iload 15, 2) := by decide +kernel
theorem d_R_join_206 : decode b_R_join 206 = .ok (.aload_n 0, 1) := by decide +kernel
theorem d_R_join_207 : decode b_R_join 207 = .ok (.getfield 31, 3) := by decide +kernel
theorem d_R_join_210 : decode b_R_join 210 = .ok (.iload 14, 2) := by decide +kernel
theorem d_R_join_212 : decode b_R_join 212 = .ok (.iaload, 1) := by decide +kernel
theorem d_R_join_213 : decode b_R_join 213 = .ok (.imul, 1) := by decide +kernel
theorem d_R_join_214 : decode b_R_join 214 = .ok (.iadd, 1) := by decide +kernel
theorem d_R_join_215 : decode b_R_join 215 = .ok (.istore 12, 2) := by decide +kernel
theorem d_R_join_217 : decode b_R_join 217 = .ok (.iload 15, 2) := by decide +kernel
theorem d_R_join_219 : decode b_R_join 219 = .ok (.iconst 1, 1) := by decide +kernel
theorem d_R_join_220 : decode b_R_join 220 = .ok (.if_icmp .ne 6, 3) := by decide +kernel
theorem d_R_join_223 : decode b_R_join 223 = .ok (.goto 9, 3) := by decide +kernel
theorem d_R_join_226 : decode b_R_join 226 = .ok (.iinc 14 (-1), 3) := by decide +kernel
theorem d_R_join_229 : decode b_R_join 229 = .ok (.goto (-112), 3) := by decide +kernel
theorem d_R_join_232 : decode b_R_join 232 = .ok (.iinc 13 1, 3) := by decide +kernel
theorem d_R_join_235 : decode b_R_join 235 = .ok (.goto (-156), 3) := by decide +kernel
theorem d_R_join_238 : decode b_R_join 238 = .ok (.return_, 1) := by decide +kernel
theorem ct_ix_0 (sz : Nat → Nat) (P : Nat → Bool) (n : Nat) : ct_ix sz P n (fun _ => 0) = 0 := by
  induction n with
  | zero => rfl
  | succ n ih =>
    cases hp : P n with
    | true => rw [ct_ix_in hp, ih, Nat.zero_mul]
    | false => rw [ct_ix_out hp]; exact ih
set_option maxHeartbeats 4000000 in
set_option maxRecDepth 100000 in
theorem c_R_join (l : Launch) (dC : Nat → ClassId) (dI : Nat → Nat → Nat) (cI : ClassId) (z1 : Nat) (sz : Nat → Nat) (z0 r0 r1 r2 r3 r4 r5 r6 : Nat) (N : Nat) (f fe fi fa fb ft : Nat → Int32) (a0 L b0 R t0 T : Nat) (hL : L < 256) (hR : R < 256) (hT : T < 256) (hsz : ∀ k, k < 8 → 0 < sz k ∧ sz k < 4) (hN : N < 2 ^ 31) (hA0 : a0 + (ct_pr sz L.testBit 8) ≤ N) (hB0 : b0 + (ct_pr sz R.testBit 8) ≤ N) (hT0 : t0 + (ct_pr sz T.testBit 8) ≤ N) (hdA : a0 + (ct_pr sz L.testBit 8) ≤ t0 ∨ t0 + (ct_pr sz T.testBit 8) ≤ a0) (hdB : b0 + (ct_pr sz R.testBit 8) ≤ t0 ∨ t0 + (ct_pr sz T.testBit 8) ≤ b0) (sz0 : Nat) : Met l y_R_join w_R_join ({ frames := 3, cells := 0, slots := 0, locals := 72 }) (va_Pc [.ref r0, .int (nI a0), .int (nI L), .int (nI b0), .int (nI R), .int (nI t0), .int (nI T)] (ct_rw (dC, dI) ct_cl [(r0, .inr (3, [.ref z0, .ref r1, .ref r2, .ref r3, .ref r4, .ref r5, .ref r6])), (r1, .inl (cI, N, .inl f)), (r2, .inl (cI, 8, .inl fe)), (r3, .inl (cI, 8, .inl fi)), (r4, .inl (cI, 8, .inl fa)), (r5, .inl (cI, 8, .inl fb)), (r6, .inl (cI, 8, .inl ft)), (z0, .inr (1, [.ref z1])), (z1, .inl (cI, 8, .inl (fun j => nI (sz j))))] [(cI, .int)] sz0)) (va_Qv (fun (u : (Nat → Int32) × (Nat → Int32) × (Nat → Int32) × (Nat → Int32) × (Nat → Int32) × (Nat → Int32)) => ct_joined sz f a0 L b0 R t0 T u.1) (fun (u : (Nat → Int32) × (Nat → Int32) × (Nat → Int32) × (Nat → Int32) × (Nat → Int32) × (Nat → Int32)) t => ct_at (dC, dI) ct_cl [(cI, .int)] (va_A [(r0, .inr (3, [.ref z0, .ref r1, .ref r2, .ref r3, .ref r4, .ref r5, .ref r6])), (r1, .inl (cI, N, .inl f)), (r2, .inl (cI, 8, .inl fe)), (r3, .inl (cI, 8, .inl fi)), (r4, .inl (cI, 8, .inl fa)), (r5, .inl (cI, 8, .inl fb)), (r6, .inl (cI, 8, .inl ft)), (z0, .inr (1, [.ref z1])), (z1, .inl (cI, 8, .inl (fun j => nI (sz j))))] sz0) [(r0, .inr (3, [.ref z0, .ref r1, .ref r2, .ref r3, .ref r4, .ref r5, .ref r6])), (r1, .inl (cI, N, .inl (u.1))), (r2, .inl (cI, 8, .inl (u.2.1))), (r3, .inl (cI, 8, .inl (u.2.2.1))), (r4, .inl (cI, 8, .inl (u.2.2.2.1))), (r5, .inl (cI, 8, .inl (u.2.2.2.2.1))), (r6, .inl (cI, 8, .inl (u.2.2.2.2.2))), (z0, .inr (1, [.ref z1])), (z1, .inl (cI, 8, .inl (fun j => nI (sz j))))] t) (va_A [(r0, .inr (3, [.ref z0, .ref r1, .ref r2, .ref r3, .ref r4, .ref r5, .ref r6])), (r1, .inl (cI, N, .inl f)), (r2, .inl (cI, 8, .inl fe)), (r3, .inl (cI, 8, .inl fi)), (r4, .inl (cI, 8, .inl fa)), (r5, .inl (cI, 8, .inl fb)), (r6, .inl (cI, 8, .inl ft)), (z0, .inr (1, [.ref z1])), (z1, .inl (cI, 8, .inl (fun j => nI (sz j))))] sz0)) 0 0 (va_A [(r0, .inr (3, [.ref z0, .ref r1, .ref r2, .ref r3, .ref r4, .ref r5, .ref r6])), (r1, .inl (cI, N, .inl f)), (r2, .inl (cI, 8, .inl fe)), (r3, .inl (cI, 8, .inl fi)), (r4, .inl (cI, 8, .inl fa)), (r5, .inl (cI, 8, .inl fb)), (r6, .inl (cI, 8, .inl ft)), (z0, .inr (1, [.ref z1])), (z1, .inl (cI, 8, .inl (fun j => nI (sz j))))] sz0) := by
  refine Met.ofW (cc := b_R_join) (maxL := 16) (ret := none) (by decide) rfl ?_
  intro p e s m args below meth c s₁ Bd hml hv
  obtain ⟨hargs, hsz, hP, hK, hD0⟩ := hv
  have hx := Bd.exec
  have hb := Bd.bytes
  have hr := Bd.returns
  have hts : ∀ w ∈ k_R_join :: ct_tb, w.before args s = true := atoms_spec (ws := w_R_join) Bd.pre
  have hown : s.vm.findClass R_R = some m.cls := findClass_of_methodNamed Bd.named
  have hlocks := Bd.notSynchronized
  subst hsz
  have hD := hD0.self (sz := s.heap.size)
  generalize hAe : va_A [(r0, .inr (3, [.ref z0, .ref r1, .ref r2, .ref r3, .ref r4, .ref r5, .ref r6])), (r1, .inl (cI, N, .inl f)), (r2, .inl (cI, 8, .inl fe)), (r3, .inl (cI, 8, .inl fi)), (r4, .inl (cI, 8, .inl fa)), (r5, .inl (cI, 8, .inl fb)), (r6, .inl (cI, 8, .inl ft)), (z0, .inr (1, [.ref z1])), (z1, .inl (cI, 8, .inl (fun j => nI (sz j))))] s.heap.size = A at hD ⊢
  have hA : ∀ q : Nat, s.heap.size ≤ q → A q := fun q h => by rw [← hAe]; exact Or.inr h
  have hS : va_S A s.heap s.heap [] := va_S.rf
  have hl := lv_entry ([.ref r0, .int (nI a0), .int (nI L), .int (nI b0), .int (nI R), .int (nI t0), .int (nI T)]) (n := 16) (Nat.le_of_ble_eq_true rfl)
  rw [show entryFrame m args 16 = entryFrame m (([.ref r0, .int (nI a0), .int (nI L), .int (nI b0), .int (nI R), .int (nI t0), .int (nI T)] : List Value)).toArray 16 by rw [hargs], lg_entry_eq]
  generalize (lg_sl ([.ref r0, .int (nI a0), .int (nI L), .int (nI b0), .int (nI R), .int (nI t0), .int (nI T)]) ++ List.replicate (16 - (lg_sl ([.ref r0, .int (nI a0), .int (nI L), .int (nI b0), .int (nI R), .int (nI t0), .int (nI T)])).length) Slot.unset).toArray = ls at hl ⊢
  have hl : lv_has ls 16 [(0, .ref r0), (1, .int (nI a0)), (2, .int (nI L)), (3, .int (nI b0)), (4, .int (nI R)), (5, .int (nI t0)), (6, .int (nI T))] := hl
  have hs0 : ∀ k, k < 8 → 0 < sz k := fun k hk => (hsz k hk).1
  have hU : (L ||| R ||| T) < 256 := Nat.or_lt_two_pow (n := 8) (Nat.or_lt_two_pow (n := 8) hL hR) hT
  have hok := ct_us_ok (sz := sz) (U := (L ||| R ||| T)) 8 hs0
  have hlen := ct_us_len (sz := sz) (U := (L ||| R ||| T)) 8
  have h38 : (ct_pr sz (L ||| R ||| T).testBit 8) ≤ 3 ^ 8 := ct_pr_le 8 (fun k hk => by have := (hsz k hk).2; omega)
  have h38v : (3 : Nat) ^ 8 = 6561 := rfl
  have outer : ∀ (ge ga gb gt gi0 : Nat → Int32), ct_lay sz (ct_us sz (L ||| R ||| T) 8) L R T ge gi0 ga gb gt → ∀ (fu n : Nat), n + fu = (ct_pr sz (L ||| R ||| T).testBit 8) → ∀ (g gi : Nat → Int32) (x10 x11 x12 : Int32), (∀ i, (i < t0 ∨ t0 + (ct_pr sz T.testBit 8) ≤ i) → g i = f i) → (∀ j, j < (ct_pr sz T.testBit 8) → g (t0 + j) = ct_acc sz f a0 L b0 R T n j) → (n < (ct_pr sz (L ||| R ||| T).testBit 8) → x10 = nI (a0 + (ct_ix sz L.testBit 8 (ct_de sz (L ||| R ||| T).testBit 8 n))) ∧ x11 = nI (b0 + (ct_ix sz R.testBit 8 (ct_de sz (L ||| R ||| T).testBit 8 n))) ∧ x12 = nI (t0 + (ct_ix sz T.testBit 8 (ct_de sz (L ||| R ||| T).testBit 8 n))) ∧ ∀ d, d < (ct_us sz (L ||| R ||| T) 8).length → gi d = nI ((ct_de sz (L ||| R ||| T).testBit 8 n) ((ct_us sz (L ||| R ||| T) 8).getD d 0))) → ∀ (H : Heap) (locs : List Loc), va_P (dC, dI) ct_cl [(r0, .inr (3, [.ref z0, .ref r1, .ref r2, .ref r3, .ref r4, .ref r5, .ref r6])), (r1, .inl (cI, N, .inl g)), (r2, .inl (cI, 8, .inl ge)), (r3, .inl (cI, 8, .inl gi)), (r4, .inl (cI, 8, .inl ga)), (r5, .inl (cI, 8, .inl gb)), (r6, .inl (cI, 8, .inl gt)), (z0, .inr (1, [.ref z1])), (z1, .inl (cI, 8, .inl (fun j => nI (sz j))))] H → va_D A [(r0, .inr (3, [.ref z0, .ref r1, .ref r2, .ref r3, .ref r4, .ref r5, .ref r6])), (r1, .inl (cI, N, .inl g)), (r2, .inl (cI, 8, .inl ge)), (r3, .inl (cI, 8, .inl gi)), (r4, .inl (cI, 8, .inl ga)), (r5, .inl (cI, 8, .inl gb)), (r6, .inl (cI, 8, .inl gt)), (z0, .inr (1, [.ref z1])), (z1, .inl (cI, 8, .inl (fun j => nI (sz j))))] → va_S A s.heap H locs → ∀ (ls : Array Slot), lv_has ls 16 [(0, .ref r0), (1, .int (nI a0)), (2, .int (nI L)), (3, .int (nI b0)), (4, .int (nI R)), (5, .int (nI t0)), (6, .int (nI T)), (8, .int (nI (ct_us sz (L ||| R ||| T) 8).length)), (9, .int (nI (ct_pr sz (L ||| R ||| T).testBit 8))), (10, .int x10), (11, .int x11), (12, .int x12), (13, .int (nI n))] → W p l e (headSpec w_R_join ({ frames := 3, cells := 0, slots := 0, locals := 72 } : Room)).room s m args below meth c H locs 0 0 (MQ below (va_Qv (fun (u : (Nat → Int32) × (Nat → Int32) × (Nat → Int32) × (Nat → Int32) × (Nat → Int32) × (Nat → Int32)) => ct_joined sz f a0 L b0 R t0 T u.1) (fun (u : (Nat → Int32) × (Nat → Int32) × (Nat → Int32) × (Nat → Int32) × (Nat → Int32) × (Nat → Int32)) t => ct_at (dC, dI) ct_cl [(cI, .int)] (A) [(r0, .inr (3, [.ref z0, .ref r1, .ref r2, .ref r3, .ref r4, .ref r5, .ref r6])), (r1, .inl (cI, N, .inl (u.1))), (r2, .inl (cI, 8, .inl (u.2.1))), (r3, .inl (cI, 8, .inl (u.2.2.1))), (r4, .inl (cI, 8, .inl (u.2.2.2.1))), (r5, .inl (cI, 8, .inl (u.2.2.2.2.1))), (r6, .inl (cI, 8, .inl (u.2.2.2.2.2))), (z0, .inr (1, [.ref z1])), (z1, .inl (cI, 8, .inl (fun j => nI (sz j))))] t) (A)) args s 0 0 A) (F0 m 79 ls []) := by
    intro ge ga gb gt gi0 hlay
    intro fu
    induction fu with
    | zero =>
      intro n hn g gi x10 x11 x12 hg1 hg2 hpos H locs hP hD hS ls hl
      refine lv_iload hx hb d_R_join_79 (lv_at hl 12 rfl) ?_
      refine lv_iload hx hb d_R_join_81 (lv_at hl 8 rfl) ?_
      refine lv_icmp_ge (tgt := 238) hx hb d_R_join_83 (by decide) (fun _ => ?_) (fun hc9 => absurd (nI_le (by omega) (by omega)) hc9)
      have hP9 := hP.sub [0, 1, 2, 3, 4, 5, 6, 7, 8] rfl
      exact W.vret hx hb hr (fun tS ht hW => ⟨⟨(g, ge, gi, ga, gb, gt), rfl, ct_acc_end hs0 hg1 (fun j h9 => by rw [← show n = (ct_pr sz (L ||| R ||| T).testBit 8) by omega]; exact hg2 j h9), by rw [ht]; exact hP9, va_K.moved hW.alike hK, hD.sub [0, 1, 2, 3, 4, 5, 6, 7, 8] (by decide) rfl⟩, hS.F ht⟩) hS.2.2 d_R_join_238
    | succ fu ih =>
      intro n hn g gi x10 x11 x12 hg1 hg2 hpos H locs hP hD hS ls hl
      refine lv_iload hx hb d_R_join_79 (lv_at hl 12 rfl) ?_
      refine lv_iload hx hb d_R_join_81 (lv_at hl 8 rfl) ?_
      refine lv_icmp_ge (tgt := 238) hx hb d_R_join_83 (by decide) (fun hc9 => absurd hc9 (nI_ge (by omega) (by omega))) (fun _ => ?_)
      obtain ⟨e10, e11, e12, hgi⟩ := hpos (by omega)
      subst e10
      subst e11
      subst e12
      generalize hde : (ct_de sz (L ||| R ||| T).testBit 8 n) = t at hgi hl
      have htl : ∀ k, k < 8 → t k < sz k := fun k hk => by rw [← hde]; exact ct_de_lt 8 n k hs0 hk
      have hiL := ct_ix_lt (sz := sz) (P := L.testBit) (t := t) 8 (fun k hk _ => htl k hk)
      have hiR := ct_ix_lt (sz := sz) (P := R.testBit) (t := t) 8 (fun k hk _ => htl k hk)
      have hiT := ct_ix_lt (sz := sz) (P := T.testBit) (t := t) 8 (fun k hk _ => htl k hk)
      have hg1b : ∀ i, (i < t0 ∨ t0 + (ct_pr sz T.testBit 8) ≤ i) → (upd g (t0 + (ct_ix sz T.testBit 8 t)) (g (t0 + (ct_ix sz T.testBit 8 t)) + f (a0 + (ct_ix sz L.testBit 8 t)) * f (b0 + (ct_ix sz R.testBit 8 t)))) i = f i := fun i h9 => by
          rw [pk_un (by omega)]; exact hg1 i h9
      have hg2b : ∀ j, j < (ct_pr sz T.testBit 8) → (upd g (t0 + (ct_ix sz T.testBit 8 t)) (g (t0 + (ct_ix sz T.testBit 8 t)) + f (a0 + (ct_ix sz L.testBit 8 t)) * f (b0 + (ct_ix sz R.testBit 8 t)))) (t0 + j) = ct_acc sz f a0 L b0 R T (n + 1) j := fun j h9 => by
          by_cases h8 : (ct_ix sz T.testBit 8 t) = j
          · rw [ct_acc_at (by rw [hde]; exact h8), hde, ← h8, pk_us, hg2 _ hiT]
          · rw [ct_acc_no (by rw [hde]; exact h8), pk_un (by omega)]; exact hg2 j h9
      have inner : ∀ (g2 : Nat → Int32), (∀ i, (i < t0 ∨ t0 + (ct_pr sz T.testBit 8) ≤ i) → g2 i = f i) → (∀ j, j < (ct_pr sz T.testBit 8) → g2 (t0 + j) = ct_acc sz f a0 L b0 R T (n + 1) j) → ∀ (dd : Nat), dd ≤ (ct_us sz (L ||| R ||| T) 8).length → ∀ (tt : Nat → Nat) (gi : Nat → Int32), ct_car sz (L ||| R ||| T).testBit n (ct_kk (ct_us sz (L ||| R ||| T) 8) 8 dd) tt → (∀ d, d < (ct_us sz (L ||| R ||| T) 8).length → gi d = nI (tt ((ct_us sz (L ||| R ||| T) 8).getD d 0))) → ∀ (H : Heap) (locs : List Loc), va_P (dC, dI) ct_cl [(r0, .inr (3, [.ref z0, .ref r1, .ref r2, .ref r3, .ref r4, .ref r5, .ref r6])), (r1, .inl (cI, N, .inl g2)), (r2, .inl (cI, 8, .inl ge)), (r3, .inl (cI, 8, .inl gi)), (r4, .inl (cI, 8, .inl ga)), (r5, .inl (cI, 8, .inl gb)), (r6, .inl (cI, 8, .inl gt)), (z0, .inr (1, [.ref z1])), (z1, .inl (cI, 8, .inl (fun j => nI (sz j))))] H → va_D A [(r0, .inr (3, [.ref z0, .ref r1, .ref r2, .ref r3, .ref r4, .ref r5, .ref r6])), (r1, .inl (cI, N, .inl g2)), (r2, .inl (cI, 8, .inl ge)), (r3, .inl (cI, 8, .inl gi)), (r4, .inl (cI, 8, .inl ga)), (r5, .inl (cI, 8, .inl gb)), (r6, .inl (cI, 8, .inl gt)), (z0, .inr (1, [.ref z1])), (z1, .inl (cI, 8, .inl (fun j => nI (sz j))))] → va_S A s.heap H locs → ∀ (ls : Array Slot), lv_has ls 16 [(0, .ref r0), (1, .int (nI a0)), (2, .int (nI L)), (3, .int (nI b0)), (4, .int (nI R)), (5, .int (nI t0)), (6, .int (nI T)), (8, .int (nI (ct_us sz (L ||| R ||| T) 8).length)), (9, .int (nI (ct_pr sz (L ||| R ||| T).testBit 8))), (10, .int (nI (a0 + (ct_ix sz L.testBit 8 tt)))), (11, .int (nI (b0 + (ct_ix sz R.testBit 8 tt)))), (12, .int (nI (t0 + (ct_ix sz T.testBit 8 tt)))), (13, .int (nI n)), (14, .int (nI dd - 1))] → W p l e (headSpec w_R_join ({ frames := 3, cells := 0, slots := 0, locals := 72 } : Room)).room s m args below meth c H locs 0 0 (MQ below (va_Qv (fun (u : (Nat → Int32) × (Nat → Int32) × (Nat → Int32) × (Nat → Int32) × (Nat → Int32) × (Nat → Int32)) => ct_joined sz f a0 L b0 R t0 T u.1) (fun (u : (Nat → Int32) × (Nat → Int32) × (Nat → Int32) × (Nat → Int32) × (Nat → Int32) × (Nat → Int32)) t => ct_at (dC, dI) ct_cl [(cI, .int)] (A) [(r0, .inr (3, [.ref z0, .ref r1, .ref r2, .ref r3, .ref r4, .ref r5, .ref r6])), (r1, .inl (cI, N, .inl (u.1))), (r2, .inl (cI, 8, .inl (u.2.1))), (r3, .inl (cI, 8, .inl (u.2.2.1))), (r4, .inl (cI, 8, .inl (u.2.2.2.1))), (r5, .inl (cI, 8, .inl (u.2.2.2.2.1))), (r6, .inl (cI, 8, .inl (u.2.2.2.2.2))), (z0, .inr (1, [.ref z1])), (z1, .inl (cI, 8, .inl (fun j => nI (sz j))))] t) (A)) args s 0 0 A) (F0 m 117 ls []) := by
        intro g2 hg1c hg2c
        intro dd
        induction dd with
        | zero =>
          intro hdd tt gi hcar hgi2 H locs hP hD hS ls hl
          refine lv_iload hx hb d_R_join_117 (lv_at hl 13 rfl) ?_
          refine lv_if_lt (tgt := 232) hx hb d_R_join_119 (by decide) (fun _ => ?_) (fun hc9 => absurd (by decide) hc9)
          refine lv_iinc (v := (nI (n + 1))) (lv' := [(13, .int (nI (n + 1))), (0, .ref r0), (1, .int (nI a0)), (2, .int (nI L)), (3, .int (nI b0)), (4, .int (nI R)), (5, .int (nI t0)), (6, .int (nI T)), (8, .int (nI (ct_us sz (L ||| R ||| T) 8).length)), (9, .int (nI (ct_pr sz (L ||| R ||| T).testBit 8))), (10, .int (nI (a0 + (ct_ix sz L.testBit 8 tt)))), (11, .int (nI (b0 + (ct_ix sz R.testBit 8 tt)))), (12, .int (nI (t0 + (ct_ix sz T.testBit 8 tt)))), (14, .int (nI 0 - 1))]) hx hb d_R_join_232 hl (k := 12) rfl (nI_1 _) (by decide) rfl (fun ls hl => ?_)
          refine lv_goto (tgt := 79) hx hb d_R_join_235 (by decide) ?_
          exact ih (n + 1) (by omega) g2 gi _ _ _ hg1c hg2c (fun z9 => absurd (ct_car_end hcar (hok.2.2.1 0) (fun i h9 => hok.2.1 i h9)) (by omega)) H locs hP hD hS ls (lv_sub hl [1, 2, 3, 4, 5, 6, 7, 8, 9, 10, 11, 12, 0] rfl)
        | succ dd ih2 =>
          intro hdd tt gi hcar hgi2 H locs hP hD hS ls hl
          rw [show nI (dd + 1) - 1 = nI dd from nI_pred dd] at hl
          have hd := hok.1 dd (by omega)
          have hld := hlay dd (by omega)
          generalize hlb : (ct_us sz (L ||| R ||| T) 8).getD dd 0 = lb at hd hld
          have hzb := hsz lb hd.2.1
          have hcar2 : ct_car sz (L ||| R ||| T).testBit n (lb + 1) tt := ct_car_down hcar (lb + 1) (by omega) (hok.2.2.1 _) (fun i h8 h9 => hd.2.2.2.2 i (by omega) h9)
          have htb := ct_car_lt hcar2 hd.2.2.1 hzb.1
          have hgd : gi dd = nI (tt lb) := by rw [hgi2 dd (by omega), hlb]
          refine lv_iload hx hb d_R_join_117 (lv_at hl 13 rfl) ?_
          refine lv_if_lt (tgt := 232) hx hb d_R_join_119 (by decide) (fun hc9 => absurd hc9 (nI_pos (by omega))) (fun _ => ?_)
          refine lv_aload_n hx hb d_R_join_122 rfl (lv_at hl 0 rfl) ?_
          refine va_get (D := (dC, dI)) (ci := 3) (v := .ref r3) (C := R_R) (T := T_R) (N := 7) hx hb hts (fun w h9 => ct_tl (ki_R w h9)) hown hK hP 0 rfl rfl 3 (by decide) (hts _ (ct_tl kw_95)) (fun _ h9 => h9) rfl d_R_join_123 ?_
          refine lv_iload hx hb d_R_join_126 (lv_at hl 13 rfl) ?_
          refine lv_dup2_11 hx hb d_R_join_128 rfl rfl ?_
          refine ct_iald hx hb hK hP 3 0 rfl rfl (j := dd) (by omega) (by omega) d_R_join_129 ?_
          refine ct_val (y := nI (tt lb)) (hgd) ?_
          refine lv_iconst (v := (nI 1)) hx hb d_R_join_130 (by decide) ?_
          refine lv_iadd hx hb d_R_join_131 ?_
          refine ct_val (y := nI (tt lb + 1)) (nI_1 _) ?_
          refine ct_iast hx hb hK hP hD hS 3 0 rfl rfl (j := dd) (by omega) (by omega) d_R_join_132 (fun H locs hP hD hS => ?_)
          have hP : va_P (dC, dI) ct_cl [(r0, .inr (3, [.ref z0, .ref r1, .ref r2, .ref r3, .ref r4, .ref r5, .ref r6])), (r1, .inl (cI, N, .inl g2)), (r2, .inl (cI, 8, .inl ge)), (r3, .inl (cI, 8, .inl (upd gi dd (nI (tt lb + 1))))), (r4, .inl (cI, 8, .inl ga)), (r5, .inl (cI, 8, .inl gb)), (r6, .inl (cI, 8, .inl gt)), (z0, .inr (1, [.ref z1])), (z1, .inl (cI, 8, .inl (fun j => nI (sz j))))] H := hP
          have hD : va_D A [(r0, .inr (3, [.ref z0, .ref r1, .ref r2, .ref r3, .ref r4, .ref r5, .ref r6])), (r1, .inl (cI, N, .inl g2)), (r2, .inl (cI, 8, .inl ge)), (r3, .inl (cI, 8, .inl (upd gi dd (nI (tt lb + 1))))), (r4, .inl (cI, 8, .inl ga)), (r5, .inl (cI, 8, .inl gb)), (r6, .inl (cI, 8, .inl gt)), (z0, .inr (1, [.ref z1])), (z1, .inl (cI, 8, .inl (fun j => nI (sz j))))] := hD
          refine lv_iconst (v := (nI 1)) hx hb d_R_join_133 (by decide) ?_
          refine lv_istore (lv' := [(15, .int (nI 1)), (0, .ref r0), (1, .int (nI a0)), (2, .int (nI L)), (3, .int (nI b0)), (4, .int (nI R)), (5, .int (nI t0)), (6, .int (nI T)), (8, .int (nI (ct_us sz (L ||| R ||| T) 8).length)), (9, .int (nI (ct_pr sz (L ||| R ||| T).testBit 8))), (10, .int (nI (a0 + (ct_ix sz L.testBit 8 tt)))), (11, .int (nI (b0 + (ct_ix sz R.testBit 8 tt)))), (12, .int (nI (t0 + (ct_ix sz T.testBit 8 tt)))), (13, .int (nI n)), (14, .int (nI dd))]) hx hb d_R_join_134 hl (by decide) rfl (fun ls hl => ?_)
          refine lv_aload_n hx hb d_R_join_136 rfl (lv_at hl 1 rfl) ?_
          refine va_get (D := (dC, dI)) (ci := 3) (v := .ref r3) (C := R_R) (T := T_R) (N := 7) hx hb hts (fun w h9 => ct_tl (ki_R w h9)) hown hK hP 0 rfl rfl 3 (by decide) (hts _ (ct_tl kw_95)) (fun _ h9 => h9) rfl d_R_join_137 ?_
          refine lv_iload hx hb d_R_join_140 (lv_at hl 14 rfl) ?_
          refine ct_iald hx hb hK hP 3 0 rfl rfl (j := dd) (by omega) (by omega) d_R_join_142 ?_
          refine ct_val (y := nI (tt lb + 1)) (pk_us) ?_
          refine lv_aload_n hx hb d_R_join_143 rfl (lv_at hl 1 rfl) ?_
          refine va_get (D := (dC, dI)) (ci := 3) (v := .ref r2) (C := R_R) (T := T_R) (N := 7) hx hb hts (fun w h9 => ct_tl (ki_R w h9)) hown hK hP 0 rfl rfl 2 (by decide) (hts _ (ct_tl kw_94)) (fun _ h9 => h9) rfl d_R_join_144 ?_
          refine lv_iload hx hb d_R_join_147 (lv_at hl 14 rfl) ?_
          refine ct_iald hx hb hK hP 2 0 rfl rfl (j := dd) (by omega) (by omega) d_R_join_149 ?_
          refine ct_val (y := nI (sz lb)) (hld.1) ?_
          by_cases hw9 : tt lb + 1 = sz lb
          · refine lv_icmp_ne (tgt := 172) hx hb d_R_join_150 (by decide) (fun hc9 => absurd (by rw [hw9]) hc9) (fun _ => ?_)
            refine lv_aload_n hx hb d_R_join_153 rfl (lv_at hl 1 rfl) ?_
            refine va_get (D := (dC, dI)) (ci := 3) (v := .ref r3) (C := R_R) (T := T_R) (N := 7) hx hb hts (fun w h9 => ct_tl (ki_R w h9)) hown hK hP 0 rfl rfl 3 (by decide) (hts _ (ct_tl kw_95)) (fun _ h9 => h9) rfl d_R_join_154 ?_
            refine lv_iload hx hb d_R_join_157 (lv_at hl 14 rfl) ?_
            refine lv_iconst (v := (nI 0)) hx hb d_R_join_159 (by decide) ?_
            refine ct_iast hx hb hK hP hD hS 3 0 rfl rfl (j := dd) (by omega) (by omega) d_R_join_160 (fun H locs hP hD hS => ?_)
            have hP : va_P (dC, dI) ct_cl [(r0, .inr (3, [.ref z0, .ref r1, .ref r2, .ref r3, .ref r4, .ref r5, .ref r6])), (r1, .inl (cI, N, .inl g2)), (r2, .inl (cI, 8, .inl ge)), (r3, .inl (cI, 8, .inl (upd (upd gi dd (nI (tt lb + 1))) dd (nI 0)))), (r4, .inl (cI, 8, .inl ga)), (r5, .inl (cI, 8, .inl gb)), (r6, .inl (cI, 8, .inl gt)), (z0, .inr (1, [.ref z1])), (z1, .inl (cI, 8, .inl (fun j => nI (sz j))))] H := hP
            have hD : va_D A [(r0, .inr (3, [.ref z0, .ref r1, .ref r2, .ref r3, .ref r4, .ref r5, .ref r6])), (r1, .inl (cI, N, .inl g2)), (r2, .inl (cI, 8, .inl ge)), (r3, .inl (cI, 8, .inl (upd (upd gi dd (nI (tt lb + 1))) dd (nI 0)))), (r4, .inl (cI, 8, .inl ga)), (r5, .inl (cI, 8, .inl gb)), (r6, .inl (cI, 8, .inl gt)), (z0, .inr (1, [.ref z1])), (z1, .inl (cI, 8, .inl (fun j => nI (sz j))))] := hD
            refine lv_iconst (v := (nI 1)) hx hb d_R_join_161 (by decide) ?_
            refine lv_aload_n hx hb d_R_join_162 rfl (lv_at hl 1 rfl) ?_
            refine va_get (D := (dC, dI)) (ci := 3) (v := .ref r2) (C := R_R) (T := T_R) (N := 7) hx hb hts (fun w h9 => ct_tl (ki_R w h9)) hown hK hP 0 rfl rfl 2 (by decide) (hts _ (ct_tl kw_94)) (fun _ h9 => h9) rfl d_R_join_163 ?_
            refine lv_iload hx hb d_R_join_166 (lv_at hl 14 rfl) ?_
            refine ct_iald hx hb hK hP 2 0 rfl rfl (j := dd) (by omega) (by omega) d_R_join_168 ?_
            refine ct_val (y := nI (sz lb)) (hld.1) ?_
            refine lv_isub hx hb d_R_join_169 ?_
            refine lv_istore (lv' := [(15, .int ((nI 1) - (nI (sz lb)))), (0, .ref r0), (1, .int (nI a0)), (2, .int (nI L)), (3, .int (nI b0)), (4, .int (nI R)), (5, .int (nI t0)), (6, .int (nI T)), (8, .int (nI (ct_us sz (L ||| R ||| T) 8).length)), (9, .int (nI (ct_pr sz (L ||| R ||| T).testBit 8))), (10, .int (nI (a0 + (ct_ix sz L.testBit 8 tt)))), (11, .int (nI (b0 + (ct_ix sz R.testBit 8 tt)))), (12, .int (nI (t0 + (ct_ix sz T.testBit 8 tt)))), (13, .int (nI n)), (14, .int (nI dd))]) hx hb d_R_join_170 hl (by decide) rfl (fun ls hl => ?_)
            refine lv_iload hx hb d_R_join_172 (lv_at hl 10 rfl) ?_
            refine lv_iload hx hb d_R_join_174 (lv_at hl 0 rfl) ?_
            refine lv_aload_n hx hb d_R_join_176 rfl (lv_at hl 1 rfl) ?_
            refine va_get (D := (dC, dI)) (ci := 3) (v := .ref r4) (C := R_R) (T := T_R) (N := 7) hx hb hts (fun w h9 => ct_tl (ki_R w h9)) hown hK hP 0 rfl rfl 4 (by decide) (hts _ (ct_tl kw_96)) (fun _ h9 => h9) rfl d_R_join_177 ?_
            refine lv_iload hx hb d_R_join_180 (lv_at hl 14 rfl) ?_
            refine ct_iald hx hb hK hP 4 0 rfl rfl (j := dd) (by omega) (by omega) d_R_join_182 ?_
            refine ct_val (y := nI (ct_sr sz L lb)) (hld.2.2.1) ?_
            refine lv_imul hx hb d_R_join_183 ?_
            refine lv_iadd hx hb d_R_join_184 ?_
            refine ct_val (y := nI (a0 + (ct_ix sz L.testBit 8 (ct_st tt lb 0)))) (ct_pos_wrap hzb.1 (ct_ix_zero hd.2.1 hw9)) ?_
            refine lv_istore (lv' := [(10, .int (nI (a0 + (ct_ix sz L.testBit 8 (ct_st tt lb 0))))), (15, .int ((nI 1) - (nI (sz lb)))), (0, .ref r0), (1, .int (nI a0)), (2, .int (nI L)), (3, .int (nI b0)), (4, .int (nI R)), (5, .int (nI t0)), (6, .int (nI T)), (8, .int (nI (ct_us sz (L ||| R ||| T) 8).length)), (9, .int (nI (ct_pr sz (L ||| R ||| T).testBit 8))), (11, .int (nI (b0 + (ct_ix sz R.testBit 8 tt)))), (12, .int (nI (t0 + (ct_ix sz T.testBit 8 tt)))), (13, .int (nI n)), (14, .int (nI dd))]) hx hb d_R_join_185 hl (by decide) rfl (fun ls hl => ?_)
            refine lv_iload hx hb d_R_join_187 (lv_at hl 11 rfl) ?_
            refine lv_iload hx hb d_R_join_189 (lv_at hl 1 rfl) ?_
            refine lv_aload_n hx hb d_R_join_191 rfl (lv_at hl 2 rfl) ?_
            refine va_get (D := (dC, dI)) (ci := 3) (v := .ref r5) (C := R_R) (T := T_R) (N := 7) hx hb hts (fun w h9 => ct_tl (ki_R w h9)) hown hK hP 0 rfl rfl 5 (by decide) (hts _ (ct_tl kw_97)) (fun _ h9 => h9) rfl d_R_join_192 ?_
            refine lv_iload hx hb d_R_join_195 (lv_at hl 14 rfl) ?_
            refine ct_iald hx hb hK hP 5 0 rfl rfl (j := dd) (by omega) (by omega) d_R_join_197 ?_
            refine ct_val (y := nI (ct_sr sz R lb)) (hld.2.2.2.1) ?_
            refine lv_imul hx hb d_R_join_198 ?_
            refine lv_iadd hx hb d_R_join_199 ?_
            refine ct_val (y := nI (b0 + (ct_ix sz R.testBit 8 (ct_st tt lb 0)))) (ct_pos_wrap hzb.1 (ct_ix_zero hd.2.1 hw9)) ?_
            refine lv_istore (lv' := [(11, .int (nI (b0 + (ct_ix sz R.testBit 8 (ct_st tt lb 0))))), (10, .int (nI (a0 + (ct_ix sz L.testBit 8 (ct_st tt lb 0))))), (15, .int ((nI 1) - (nI (sz lb)))), (0, .ref r0), (1, .int (nI a0)), (2, .int (nI L)), (3, .int (nI b0)), (4, .int (nI R)), (5, .int (nI t0)), (6, .int (nI T)), (8, .int (nI (ct_us sz (L ||| R ||| T) 8).length)), (9, .int (nI (ct_pr sz (L ||| R ||| T).testBit 8))), (12, .int (nI (t0 + (ct_ix sz T.testBit 8 tt)))), (13, .int (nI n)), (14, .int (nI dd))]) hx hb d_R_join_200 hl (by decide) rfl (fun ls hl => ?_)
            refine lv_iload hx hb d_R_join_202 (lv_at hl 12 rfl) ?_
            refine lv_iload hx hb d_R_join_204 (lv_at hl 2 rfl) ?_
            refine lv_aload_n hx hb d_R_join_206 rfl (lv_at hl 3 rfl) ?_
            refine va_get (D := (dC, dI)) (ci := 3) (v := .ref r6) (C := R_R) (T := T_R) (N := 7) hx hb hts (fun w h9 => ct_tl (ki_R w h9)) hown hK hP 0 rfl rfl 6 (by decide) (hts _ (ct_tl kw_98)) (fun _ h9 => h9) rfl d_R_join_207 ?_
            refine lv_iload hx hb d_R_join_210 (lv_at hl 14 rfl) ?_
            refine ct_iald hx hb hK hP 6 0 rfl rfl (j := dd) (by omega) (by omega) d_R_join_212 ?_
            refine ct_val (y := nI (ct_sr sz T lb)) (hld.2.2.2.2) ?_
            refine lv_imul hx hb d_R_join_213 ?_
            refine lv_iadd hx hb d_R_join_214 ?_
            refine ct_val (y := nI (t0 + (ct_ix sz T.testBit 8 (ct_st tt lb 0)))) (ct_pos_wrap hzb.1 (ct_ix_zero hd.2.1 hw9)) ?_
            refine lv_istore (lv' := [(12, .int (nI (t0 + (ct_ix sz T.testBit 8 (ct_st tt lb 0))))), (11, .int (nI (b0 + (ct_ix sz R.testBit 8 (ct_st tt lb 0))))), (10, .int (nI (a0 + (ct_ix sz L.testBit 8 (ct_st tt lb 0))))), (15, .int ((nI 1) - (nI (sz lb)))), (0, .ref r0), (1, .int (nI a0)), (2, .int (nI L)), (3, .int (nI b0)), (4, .int (nI R)), (5, .int (nI t0)), (6, .int (nI T)), (8, .int (nI (ct_us sz (L ||| R ||| T) 8).length)), (9, .int (nI (ct_pr sz (L ||| R ||| T).testBit 8))), (13, .int (nI n)), (14, .int (nI dd))]) hx hb d_R_join_215 hl (by decide) rfl (fun ls hl => ?_)
            refine lv_iload hx hb d_R_join_217 (lv_at hl 3 rfl) ?_
            refine lv_iconst (v := (nI 1)) hx hb d_R_join_219 (by decide) ?_
            refine lv_icmp_ne (tgt := 226) hx hb d_R_join_220 (by decide) (fun _ => ?_) (fun hc9 => absurd hc9 (ct_by_ne hd.2.2.2.1 hzb.2))
            refine lv_iinc (v := (nI dd - 1)) (lv' := [(14, .int (nI dd - 1)), (12, .int (nI (t0 + (ct_ix sz T.testBit 8 (ct_st tt lb 0))))), (11, .int (nI (b0 + (ct_ix sz R.testBit 8 (ct_st tt lb 0))))), (10, .int (nI (a0 + (ct_ix sz L.testBit 8 (ct_st tt lb 0))))), (15, .int ((nI 1) - (nI (sz lb)))), (0, .ref r0), (1, .int (nI a0)), (2, .int (nI L)), (3, .int (nI b0)), (4, .int (nI R)), (5, .int (nI t0)), (6, .int (nI T)), (8, .int (nI (ct_us sz (L ||| R ||| T) 8).length)), (9, .int (nI (ct_pr sz (L ||| R ||| T).testBit 8))), (13, .int (nI n))]) hx hb d_R_join_226 hl (k := 14) rfl (by rw [Int32.sub_eq_add_neg]; rfl) (by decide) rfl (fun ls hl => ?_)
            refine lv_goto (tgt := 117) hx hb d_R_join_229 (by decide) ?_
            have hcar3 := ct_car_wrap hcar2 hd.2.1 hd.2.2.1 hzb.1 hw9
            refine ih2 (by omega) (ct_st tt lb 0) _ (by rw [ct_kk_in (by omega), hlb]; exact hcar3) (fun d h9 => ?_) H locs hP hD hS ls (lv_sub hl [5, 6, 7, 8, 9, 10, 11, 12, 13, 3, 2, 1, 14, 0] rfl)
            by_cases h8 : d = dd
            · rw [h8, pk_us, hlb, ct_st_at]
            · rw [pk_un h8, pk_un h8, ct_st_ne _ _ (fun z => h8 (hok.2.2.2 d dd h9 (by omega) (z.trans hlb.symm)))]
              exact hgi2 d h9
          · refine lv_icmp_ne (tgt := 172) hx hb d_R_join_150 (by decide) (fun _ => ?_) (fun hc9 => absurd hc9 (fun z => hw9 ((nI_eq (by omega) (by omega)).mp z)))
            refine lv_iload hx hb d_R_join_172 (lv_at hl 10 rfl) ?_
            refine lv_iload hx hb d_R_join_174 (lv_at hl 0 rfl) ?_
            refine lv_aload_n hx hb d_R_join_176 rfl (lv_at hl 1 rfl) ?_
            refine va_get (D := (dC, dI)) (ci := 3) (v := .ref r4) (C := R_R) (T := T_R) (N := 7) hx hb hts (fun w h9 => ct_tl (ki_R w h9)) hown hK hP 0 rfl rfl 4 (by decide) (hts _ (ct_tl kw_96)) (fun _ h9 => h9) rfl d_R_join_177 ?_
            refine lv_iload hx hb d_R_join_180 (lv_at hl 14 rfl) ?_
            refine ct_iald hx hb hK hP 4 0 rfl rfl (j := dd) (by omega) (by omega) d_R_join_182 ?_
            refine ct_val (y := nI (ct_sr sz L lb)) (hld.2.2.1) ?_
            refine lv_imul hx hb d_R_join_183 ?_
            refine lv_iadd hx hb d_R_join_184 ?_
            refine ct_val (y := nI (a0 + (ct_ix sz L.testBit 8 (ct_st tt lb (tt lb + 1))))) (by rw [ct_ix_inc tt hd.2.1]; exact ct_pos_inc) ?_
            refine lv_istore (lv' := [(10, .int (nI (a0 + (ct_ix sz L.testBit 8 (ct_st tt lb (tt lb + 1)))))), (15, .int (nI 1)), (0, .ref r0), (1, .int (nI a0)), (2, .int (nI L)), (3, .int (nI b0)), (4, .int (nI R)), (5, .int (nI t0)), (6, .int (nI T)), (8, .int (nI (ct_us sz (L ||| R ||| T) 8).length)), (9, .int (nI (ct_pr sz (L ||| R ||| T).testBit 8))), (11, .int (nI (b0 + (ct_ix sz R.testBit 8 tt)))), (12, .int (nI (t0 + (ct_ix sz T.testBit 8 tt)))), (13, .int (nI n)), (14, .int (nI dd))]) hx hb d_R_join_185 hl (by decide) rfl (fun ls hl => ?_)
            refine lv_iload hx hb d_R_join_187 (lv_at hl 11 rfl) ?_
            refine lv_iload hx hb d_R_join_189 (lv_at hl 1 rfl) ?_
            refine lv_aload_n hx hb d_R_join_191 rfl (lv_at hl 2 rfl) ?_
            refine va_get (D := (dC, dI)) (ci := 3) (v := .ref r5) (C := R_R) (T := T_R) (N := 7) hx hb hts (fun w h9 => ct_tl (ki_R w h9)) hown hK hP 0 rfl rfl 5 (by decide) (hts _ (ct_tl kw_97)) (fun _ h9 => h9) rfl d_R_join_192 ?_
            refine lv_iload hx hb d_R_join_195 (lv_at hl 14 rfl) ?_
            refine ct_iald hx hb hK hP 5 0 rfl rfl (j := dd) (by omega) (by omega) d_R_join_197 ?_
            refine ct_val (y := nI (ct_sr sz R lb)) (hld.2.2.2.1) ?_
            refine lv_imul hx hb d_R_join_198 ?_
            refine lv_iadd hx hb d_R_join_199 ?_
            refine ct_val (y := nI (b0 + (ct_ix sz R.testBit 8 (ct_st tt lb (tt lb + 1))))) (by rw [ct_ix_inc tt hd.2.1]; exact ct_pos_inc) ?_
            refine lv_istore (lv' := [(11, .int (nI (b0 + (ct_ix sz R.testBit 8 (ct_st tt lb (tt lb + 1)))))), (10, .int (nI (a0 + (ct_ix sz L.testBit 8 (ct_st tt lb (tt lb + 1)))))), (15, .int (nI 1)), (0, .ref r0), (1, .int (nI a0)), (2, .int (nI L)), (3, .int (nI b0)), (4, .int (nI R)), (5, .int (nI t0)), (6, .int (nI T)), (8, .int (nI (ct_us sz (L ||| R ||| T) 8).length)), (9, .int (nI (ct_pr sz (L ||| R ||| T).testBit 8))), (12, .int (nI (t0 + (ct_ix sz T.testBit 8 tt)))), (13, .int (nI n)), (14, .int (nI dd))]) hx hb d_R_join_200 hl (by decide) rfl (fun ls hl => ?_)
            refine lv_iload hx hb d_R_join_202 (lv_at hl 12 rfl) ?_
            refine lv_iload hx hb d_R_join_204 (lv_at hl 2 rfl) ?_
            refine lv_aload_n hx hb d_R_join_206 rfl (lv_at hl 3 rfl) ?_
            refine va_get (D := (dC, dI)) (ci := 3) (v := .ref r6) (C := R_R) (T := T_R) (N := 7) hx hb hts (fun w h9 => ct_tl (ki_R w h9)) hown hK hP 0 rfl rfl 6 (by decide) (hts _ (ct_tl kw_98)) (fun _ h9 => h9) rfl d_R_join_207 ?_
            refine lv_iload hx hb d_R_join_210 (lv_at hl 14 rfl) ?_
            refine ct_iald hx hb hK hP 6 0 rfl rfl (j := dd) (by omega) (by omega) d_R_join_212 ?_
            refine ct_val (y := nI (ct_sr sz T lb)) (hld.2.2.2.2) ?_
            refine lv_imul hx hb d_R_join_213 ?_
            refine lv_iadd hx hb d_R_join_214 ?_
            refine ct_val (y := nI (t0 + (ct_ix sz T.testBit 8 (ct_st tt lb (tt lb + 1))))) (by rw [ct_ix_inc tt hd.2.1]; exact ct_pos_inc) ?_
            refine lv_istore (lv' := [(12, .int (nI (t0 + (ct_ix sz T.testBit 8 (ct_st tt lb (tt lb + 1)))))), (11, .int (nI (b0 + (ct_ix sz R.testBit 8 (ct_st tt lb (tt lb + 1)))))), (10, .int (nI (a0 + (ct_ix sz L.testBit 8 (ct_st tt lb (tt lb + 1)))))), (15, .int (nI 1)), (0, .ref r0), (1, .int (nI a0)), (2, .int (nI L)), (3, .int (nI b0)), (4, .int (nI R)), (5, .int (nI t0)), (6, .int (nI T)), (8, .int (nI (ct_us sz (L ||| R ||| T) 8).length)), (9, .int (nI (ct_pr sz (L ||| R ||| T).testBit 8))), (13, .int (nI n)), (14, .int (nI dd))]) hx hb d_R_join_215 hl (by decide) rfl (fun ls hl => ?_)
            refine lv_iload hx hb d_R_join_217 (lv_at hl 3 rfl) ?_
            refine lv_iconst (v := (nI 1)) hx hb d_R_join_219 (by decide) ?_
            refine lv_icmp_ne (tgt := 226) hx hb d_R_join_220 (by decide) (fun hc9 => absurd (rfl) hc9) (fun _ => ?_)
            refine lv_goto (tgt := 232) hx hb d_R_join_223 (by decide) ?_
            refine lv_iinc (v := (nI (n + 1))) (lv' := [(13, .int (nI (n + 1))), (12, .int (nI (t0 + (ct_ix sz T.testBit 8 (ct_st tt lb (tt lb + 1)))))), (11, .int (nI (b0 + (ct_ix sz R.testBit 8 (ct_st tt lb (tt lb + 1)))))), (10, .int (nI (a0 + (ct_ix sz L.testBit 8 (ct_st tt lb (tt lb + 1)))))), (15, .int (nI 1)), (0, .ref r0), (1, .int (nI a0)), (2, .int (nI L)), (3, .int (nI b0)), (4, .int (nI R)), (5, .int (nI t0)), (6, .int (nI T)), (8, .int (nI (ct_us sz (L ||| R ||| T) 8).length)), (9, .int (nI (ct_pr sz (L ||| R ||| T).testBit 8))), (14, .int (nI dd))]) hx hb d_R_join_232 hl (k := 13) rfl (nI_1 _) (by decide) rfl (fun ls hl => ?_)
            refine lv_goto (tgt := 79) hx hb d_R_join_235 (by decide) ?_
            have hst := ct_car_stop hcar2 hs0 hd.2.1 hd.2.2.1 hw9
            refine ih (n + 1) (by omega) g2 _ _ _ _ hg1c hg2c (fun _ => ⟨by rw [hst], by rw [hst], by rw [hst], fun d h9 => ?_⟩) H locs hP hD hS ls (lv_sub hl [5, 6, 7, 8, 9, 10, 11, 12, 13, 3, 2, 1, 0] rfl)
            rw [← hst]
            by_cases h8 : d = dd
            · rw [h8, pk_us, hlb, ct_st_at]
            · rw [pk_un h8, ct_st_ne _ _ (fun z => h8 (hok.2.2.2 d dd h9 (by omega) (z.trans hlb.symm)))]
              exact hgi2 d h9
      refine lv_aload_n hx hb d_R_join_86 rfl (lv_at hl 0 rfl) ?_
      refine va_get (D := (dC, dI)) (ci := 3) (v := .ref r1) (C := R_R) (T := T_R) (N := 7) hx hb hts (fun w h9 => ct_tl (ki_R w h9)) hown hK hP 0 rfl rfl 1 (by decide) (hts _ (ct_tl kw_93)) (fun _ h9 => h9) rfl d_R_join_87 ?_
      refine lv_iload hx hb d_R_join_90 (lv_at hl 11 rfl) ?_
      refine lv_dup2_11 hx hb d_R_join_92 rfl rfl ?_
      refine ct_iald hx hb hK hP 1 0 rfl rfl (j := t0 + (ct_ix sz T.testBit 8 t)) (by omega) (hN) d_R_join_93 ?_
      refine lv_aload_n hx hb d_R_join_94 rfl (lv_at hl 0 rfl) ?_
      refine va_get (D := (dC, dI)) (ci := 3) (v := .ref r1) (C := R_R) (T := T_R) (N := 7) hx hb hts (fun w h9 => ct_tl (ki_R w h9)) hown hK hP 0 rfl rfl 1 (by decide) (hts _ (ct_tl kw_93)) (fun _ h9 => h9) rfl d_R_join_95 ?_
      refine lv_iload hx hb d_R_join_98 (lv_at hl 9 rfl) ?_
      refine ct_iald hx hb hK hP 1 0 rfl rfl (j := a0 + (ct_ix sz L.testBit 8 t)) (by omega) (hN) d_R_join_100 ?_
      refine ct_val (y := f (a0 + (ct_ix sz L.testBit 8 t))) (hg1 _ (by omega)) ?_
      refine lv_aload_n hx hb d_R_join_101 rfl (lv_at hl 0 rfl) ?_
      refine va_get (D := (dC, dI)) (ci := 3) (v := .ref r1) (C := R_R) (T := T_R) (N := 7) hx hb hts (fun w h9 => ct_tl (ki_R w h9)) hown hK hP 0 rfl rfl 1 (by decide) (hts _ (ct_tl kw_93)) (fun _ h9 => h9) rfl d_R_join_102 ?_
      refine lv_iload hx hb d_R_join_105 (lv_at hl 10 rfl) ?_
      refine ct_iald hx hb hK hP 1 0 rfl rfl (j := b0 + (ct_ix sz R.testBit 8 t)) (by omega) (hN) d_R_join_107 ?_
      refine ct_val (y := f (b0 + (ct_ix sz R.testBit 8 t))) (hg1 _ (by omega)) ?_
      refine lv_imul hx hb d_R_join_108 ?_
      refine lv_iadd hx hb d_R_join_109 ?_
      refine ct_iast hx hb hK hP hD hS 1 0 rfl rfl (j := t0 + (ct_ix sz T.testBit 8 t)) (by omega) (hN) d_R_join_110 (fun H locs hP hD hS => ?_)
      have hP : va_P (dC, dI) ct_cl [(r0, .inr (3, [.ref z0, .ref r1, .ref r2, .ref r3, .ref r4, .ref r5, .ref r6])), (r1, .inl (cI, N, .inl (upd g (t0 + (ct_ix sz T.testBit 8 t)) ((g (t0 + (ct_ix sz T.testBit 8 t))) + ((f (a0 + (ct_ix sz L.testBit 8 t))) * (f (b0 + (ct_ix sz R.testBit 8 t)))))))), (r2, .inl (cI, 8, .inl ge)), (r3, .inl (cI, 8, .inl gi)), (r4, .inl (cI, 8, .inl ga)), (r5, .inl (cI, 8, .inl gb)), (r6, .inl (cI, 8, .inl gt)), (z0, .inr (1, [.ref z1])), (z1, .inl (cI, 8, .inl (fun j => nI (sz j))))] H := hP
      have hD : va_D A [(r0, .inr (3, [.ref z0, .ref r1, .ref r2, .ref r3, .ref r4, .ref r5, .ref r6])), (r1, .inl (cI, N, .inl (upd g (t0 + (ct_ix sz T.testBit 8 t)) ((g (t0 + (ct_ix sz T.testBit 8 t))) + ((f (a0 + (ct_ix sz L.testBit 8 t))) * (f (b0 + (ct_ix sz R.testBit 8 t)))))))), (r2, .inl (cI, 8, .inl ge)), (r3, .inl (cI, 8, .inl gi)), (r4, .inl (cI, 8, .inl ga)), (r5, .inl (cI, 8, .inl gb)), (r6, .inl (cI, 8, .inl gt)), (z0, .inr (1, [.ref z1])), (z1, .inl (cI, 8, .inl (fun j => nI (sz j))))] := hD
      refine lv_iload hx hb d_R_join_111 (lv_at hl 7 rfl) ?_
      refine lv_iconst (v := (nI 1)) hx hb d_R_join_113 (by decide) ?_
      refine lv_isub hx hb d_R_join_114 ?_
      refine ct_val (y := (nI (ct_us sz (L ||| R ||| T) 8).length - 1)) (rfl) ?_
      refine lv_istore (lv' := [(14, .int (nI (ct_us sz (L ||| R ||| T) 8).length - 1)), (0, .ref r0), (1, .int (nI a0)), (2, .int (nI L)), (3, .int (nI b0)), (4, .int (nI R)), (5, .int (nI t0)), (6, .int (nI T)), (8, .int (nI (ct_us sz (L ||| R ||| T) 8).length)), (9, .int (nI (ct_pr sz (L ||| R ||| T).testBit 8))), (10, .int (nI (a0 + (ct_ix sz L.testBit 8 t)))), (11, .int (nI (b0 + (ct_ix sz R.testBit 8 t)))), (12, .int (nI (t0 + (ct_ix sz T.testBit 8 t)))), (13, .int (nI n))]) hx hb d_R_join_115 hl (by decide) rfl (fun ls hl => ?_)
      exact inner _ hg1b hg2b (ct_us sz (L ||| R ||| T) 8).length (Nat.le_refl _) t gi (by rw [ct_kk_out (Nat.le_refl _), ← hde]; exact ct_car_0 sz (L ||| R ||| T).testBit n) hgi H locs hP hD hS ls (lv_sub hl [1, 2, 3, 4, 5, 6, 7, 8, 9, 10, 11, 12, 13, 0] rfl)
  have clean : ∀ (fu j : Nat), j + fu = (ct_pr sz T.testBit 8) → ∀ (g : Nat → Int32), (∀ i, (i < t0 ∨ t0 + (ct_pr sz T.testBit 8) ≤ i) → g i = f i) → (∀ i, i < j → g (t0 + i) = 0) → ∀ (H : Heap) (locs : List Loc), va_P (dC, dI) ct_cl [(r0, .inr (3, [.ref z0, .ref r1, .ref r2, .ref r3, .ref r4, .ref r5, .ref r6])), (r1, .inl (cI, N, .inl g)), (r2, .inl (cI, 8, .inl fe)), (r3, .inl (cI, 8, .inl fi)), (r4, .inl (cI, 8, .inl fa)), (r5, .inl (cI, 8, .inl fb)), (r6, .inl (cI, 8, .inl ft)), (z0, .inr (1, [.ref z1])), (z1, .inl (cI, 8, .inl (fun j => nI (sz j))))] H → va_D A [(r0, .inr (3, [.ref z0, .ref r1, .ref r2, .ref r3, .ref r4, .ref r5, .ref r6])), (r1, .inl (cI, N, .inl g)), (r2, .inl (cI, 8, .inl fe)), (r3, .inl (cI, 8, .inl fi)), (r4, .inl (cI, 8, .inl fa)), (r5, .inl (cI, 8, .inl fb)), (r6, .inl (cI, 8, .inl ft)), (z0, .inr (1, [.ref z1])), (z1, .inl (cI, 8, .inl (fun j => nI (sz j))))] → va_S A s.heap H locs → ∀ (ls : Array Slot), lv_has ls 16 [(0, .ref r0), (1, .int (nI a0)), (2, .int (nI L)), (3, .int (nI b0)), (4, .int (nI R)), (5, .int (nI t0)), (6, .int (nI T)), (7, .int (nI (t0 + (ct_pr sz T.testBit 8)))), (8, .int (nI (t0 + j)))] → W p l e (headSpec w_R_join ({ frames := 3, cells := 0, slots := 0, locals := 72 } : Room)).room s m args below meth c H locs 0 0 (MQ below (va_Qv (fun (u : (Nat → Int32) × (Nat → Int32) × (Nat → Int32) × (Nat → Int32) × (Nat → Int32) × (Nat → Int32)) => ct_joined sz f a0 L b0 R t0 T u.1) (fun (u : (Nat → Int32) × (Nat → Int32) × (Nat → Int32) × (Nat → Int32) × (Nat → Int32) × (Nat → Int32)) t => ct_at (dC, dI) ct_cl [(cI, .int)] (A) [(r0, .inr (3, [.ref z0, .ref r1, .ref r2, .ref r3, .ref r4, .ref r5, .ref r6])), (r1, .inl (cI, N, .inl (u.1))), (r2, .inl (cI, 8, .inl (u.2.1))), (r3, .inl (cI, 8, .inl (u.2.2.1))), (r4, .inl (cI, 8, .inl (u.2.2.2.1))), (r5, .inl (cI, 8, .inl (u.2.2.2.2.1))), (r6, .inl (cI, 8, .inl (u.2.2.2.2.2))), (z0, .inr (1, [.ref z1])), (z1, .inl (cI, 8, .inl (fun j => nI (sz j))))] t) (A)) args s 0 0 A) (F0 m 18 ls []) := by
    intro fu
    induction fu with
    | zero =>
      intro j hj g hg1 hg2 H locs hP hD hS ls hl
      refine lv_iload hx hb d_R_join_18 (lv_at hl 8 rfl) ?_
      refine lv_iload hx hb d_R_join_20 (lv_at hl 7 rfl) ?_
      refine lv_icmp_ge (tgt := 39) hx hb d_R_join_22 (by decide) (fun _ => ?_) (fun hc9 => absurd (nI_le (by omega) (by omega)) hc9)
      refine lv_aload_n hx hb d_R_join_39 rfl (lv_at hl 0 rfl) ?_
      refine lv_iload_n hx hb d_R_join_40 rfl (lv_at hl 2 rfl) ?_
      refine lv_iload hx hb d_R_join_41 (lv_at hl 4 rfl) ?_
      refine lv_iload hx hb d_R_join_43 (lv_at hl 6 rfl) ?_
      have hPc := hP.sub (ws' := [(r0, .inr (3, [.ref z0, .ref r1, .ref r2, .ref r3, .ref r4, .ref r5, .ref r6])), (r2, .inl (cI, 8, .inl fe)), (r3, .inl (cI, 8, .inl fi)), (r4, .inl (cI, 8, .inl fa)), (r5, .inl (cI, 8, .inl fb)), (r6, .inl (cI, 8, .inl ft)), (z0, .inr (1, [.ref z1])), (z1, .inl (cI, 8, .inl (fun j => nI (sz j))))]) [0, 2, 3, 4, 5, 6, 7, 8] rfl
      have hDc := hD.sub (ws' := [(r0, .inr (3, [.ref z0, .ref r1, .ref r2, .ref r3, .ref r4, .ref r5, .ref r6])), (r2, .inl (cI, 8, .inl fe)), (r3, .inl (cI, 8, .inl fi)), (r4, .inl (cI, 8, .inl fa)), (r5, .inl (cI, 8, .inl fb)), (r6, .inl (cI, 8, .inl ft)), (z0, .inr (1, [.ref z1])), (z1, .inl (cI, 8, .inl (fun j => nI (sz j))))]) [0, 2, 3, 4, 5, 6, 7, 8] (by decide) rfl
      have hFc := va_free (wc := [(r0, .inr (3, [.ref z0, .ref r1, .ref r2, .ref r3, .ref r4, .ref r5, .ref r6])), (r2, .inl (cI, 8, .inl fe)), (r3, .inl (cI, 8, .inl fi)), (r4, .inl (cI, 8, .inl fa)), (r5, .inl (cI, 8, .inl fb)), (r6, .inl (cI, 8, .inl ft)), (z0, .inr (1, [.ref z1])), (z1, .inl (cI, 8, .inl (fun j => nI (sz j))))]) hD hS hA [0, 2, 3, 4, 5, 6, 7, 8] rfl
      refine va_calli (va_runV (As := [.int (nI L), .int (nI R), .int (nI T)]) (rest := []) ⟨hx, hb, hml, hown, hts⟩ (c_R_layOut l dC dI cI z1 sz r1 z0 r0 r2 r3 r4 r5 r6 fe fi fa fb ft L R T hL hR hT (fun k hk => (hsz k hk).2) H.size) (cwV 3 hts (ct_giV (fun w h9 => ct_tl h9) kw_454 kw_456 kw_12 kw_29 kw_457) rfl rfl rfl (by decide +kernel) ⟨Nat.le_of_ble_eq_true rfl, Nat.le_of_ble_eq_true rfl⟩) ⟨ct_rw_blind, va_recv hK hP (ci := 3) (q0 := 0) rfl rfl, ct_rw_pre hPc hK hDc⟩ rfl rfl hl.1 rfl (lv_room (Nat.le_of_ble_eq_true rfl)) d_R_join_45 ⟨Nat.le_of_ble_eq_true rfl, Nat.le_of_ble_eq_true rfl⟩) hS (fun q _ h9 => hFc q h9) hFc (fun ans1 ⟨ge, gi, ga, gb, gt⟩ tS H1 locs ht hvm hly hB hz1 hk1 hS => ?_)
      obtain ⟨hP1, -, hD1⟩ := hB
      rw [ht] at hP1
      obtain ⟨hP, hD⟩ := va_join (wr := [(r1, .inl (cI, N, .inl g))]) (w1 := [(r0, .inr (3, [.ref z0, .ref r1, .ref r2, .ref r3, .ref r4, .ref r5, .ref r6])), (r2, .inl (cI, 8, .inl ge)), (r3, .inl (cI, 8, .inl gi)), (r4, .inl (cI, 8, .inl ga)), (r5, .inl (cI, 8, .inl gb)), (r6, .inl (cI, 8, .inl gt)), (z0, .inr (1, [.ref z1])), (z1, .inl (cI, 8, .inl (fun j => nI (sz j))))]) hP hD [0, 2, 3, 4, 5, 6, 7, 8] [1] rfl rfl (by decide) (by decide) hk1 hFc hP1 hD1
      generalize H1 = H at hP hS ⊢
      have hP : va_P (dC, dI) ct_cl [(r1, .inl (cI, N, .inl g)), (r0, .inr (3, [.ref z0, .ref r1, .ref r2, .ref r3, .ref r4, .ref r5, .ref r6])), (r2, .inl (cI, 8, .inl ge)), (r3, .inl (cI, 8, .inl gi)), (r4, .inl (cI, 8, .inl ga)), (r5, .inl (cI, 8, .inl gb)), (r6, .inl (cI, 8, .inl gt)), (z0, .inr (1, [.ref z1])), (z1, .inl (cI, 8, .inl (fun j => nI (sz j))))] H := hP
      have hD : va_D A [(r1, .inl (cI, N, .inl g)), (r0, .inr (3, [.ref z0, .ref r1, .ref r2, .ref r3, .ref r4, .ref r5, .ref r6])), (r2, .inl (cI, 8, .inl ge)), (r3, .inl (cI, 8, .inl gi)), (r4, .inl (cI, 8, .inl ga)), (r5, .inl (cI, 8, .inl gb)), (r6, .inl (cI, 8, .inl gt)), (z0, .inr (1, [.ref z1])), (z1, .inl (cI, 8, .inl (fun j => nI (sz j))))] := hD
      dsimp only at hly
      refine ct_val (y := nI (ct_us sz (L ||| R ||| T) 8).length) hly.1 ?_
      refine lv_istore (lv' := [(8, .int (nI (ct_us sz (L ||| R ||| T) 8).length)), (0, .ref r0), (1, .int (nI a0)), (2, .int (nI L)), (3, .int (nI b0)), (4, .int (nI R)), (5, .int (nI t0)), (6, .int (nI T)), (7, .int (nI (t0 + (ct_pr sz T.testBit 8))))]) hx hb d_R_join_48 hl (by decide) rfl (fun ls hl => ?_)
      refine lv_aload_n hx hb d_R_join_50 rfl (lv_at hl 1 rfl) ?_
      refine va_get (D := (dC, dI)) (ci := 3) (v := .ref z0) (C := R_R) (T := T_R) (N := 7) hx hb hts (fun w h9 => ct_tl (ki_R w h9)) hown hK hP 1 rfl rfl 0 (by decide) (hts _ (ct_tl kw_92)) (fun _ h9 => h9) rfl d_R_join_51 ?_
      refine lv_iload_n hx hb d_R_join_54 rfl (lv_at hl 3 rfl) ?_
      refine lv_iload hx hb d_R_join_55 (lv_at hl 5 rfl) ?_
      refine lv_ior hx hb d_R_join_57 ?_
      refine ct_val (y := nI (L ||| R)) (ct_or _ _) ?_
      refine lv_iload hx hb d_R_join_58 (lv_at hl 7 rfl) ?_
      refine lv_ior hx hb d_R_join_60 ?_
      refine ct_val (y := nI (L ||| R ||| T)) (ct_or _ _) ?_
      refine va_calli (va_runV (As := [.int (nI (L ||| R ||| T))]) (rest := []) ⟨hx, hb, hml, hown, hts⟩ (c_S_choices l dC dI cI z0 z1 sz (L ||| R ||| T) (by omega)) (cwV 1 hts (ct_giV (fun w h9 => ct_tl h9) kw_453 kw_195 kw_196 kw_27 kw_197) rfl rfl rfl (by decide +kernel) ⟨Nat.le_of_ble_eq_true rfl, Nat.le_of_ble_eq_true rfl⟩) ⟨ct_ro_blind, va_recv hK hP (ci := 1) (q0 := 7) rfl rfl, ct_ro_pre (hP.sub [7, 8] rfl) hK⟩ rfl rfl hl.1 rfl (lv_room (Nat.le_of_ble_eq_true rfl)) d_R_join_61 ⟨Nat.le_of_ble_eq_true rfl, Nat.le_of_ble_eq_true rfl⟩) hS (fun q _ h9 => h9.elim) (fun q h9 => h9.elim) (fun ans2 uS tS H locs ht hvm hwans2 hB hz1 hk1 hS => ?_)
      have hP := ct_keep hP hk1
      refine ct_val (y := nI (ct_pr sz (L ||| R ||| T).testBit 8)) (hwans2) ?_
      refine lv_istore (lv' := [(9, .int (nI (ct_pr sz (L ||| R ||| T).testBit 8))), (8, .int (nI (ct_us sz (L ||| R ||| T) 8).length)), (0, .ref r0), (1, .int (nI a0)), (2, .int (nI L)), (3, .int (nI b0)), (4, .int (nI R)), (5, .int (nI t0)), (6, .int (nI T)), (7, .int (nI (t0 + (ct_pr sz T.testBit 8))))]) hx hb d_R_join_64 hl (by decide) rfl (fun ls hl => ?_)
      refine lv_iload_n hx hb d_R_join_66 rfl (lv_at hl 3 rfl) ?_
      refine lv_istore (lv' := [(10, .int (nI a0)), (9, .int (nI (ct_pr sz (L ||| R ||| T).testBit 8))), (8, .int (nI (ct_us sz (L ||| R ||| T) 8).length)), (0, .ref r0), (1, .int (nI a0)), (2, .int (nI L)), (3, .int (nI b0)), (4, .int (nI R)), (5, .int (nI t0)), (6, .int (nI T)), (7, .int (nI (t0 + (ct_pr sz T.testBit 8))))]) hx hb d_R_join_67 hl (by decide) rfl (fun ls hl => ?_)
      refine lv_iload_n hx hb d_R_join_69 rfl (lv_at hl 6 rfl) ?_
      refine lv_istore (lv' := [(11, .int (nI b0)), (10, .int (nI a0)), (9, .int (nI (ct_pr sz (L ||| R ||| T).testBit 8))), (8, .int (nI (ct_us sz (L ||| R ||| T) 8).length)), (0, .ref r0), (1, .int (nI a0)), (2, .int (nI L)), (3, .int (nI b0)), (4, .int (nI R)), (5, .int (nI t0)), (6, .int (nI T)), (7, .int (nI (t0 + (ct_pr sz T.testBit 8))))]) hx hb d_R_join_70 hl (by decide) rfl (fun ls hl => ?_)
      refine lv_iload hx hb d_R_join_72 (lv_at hl 9 rfl) ?_
      refine lv_istore (lv' := [(12, .int (nI t0)), (11, .int (nI b0)), (10, .int (nI a0)), (9, .int (nI (ct_pr sz (L ||| R ||| T).testBit 8))), (8, .int (nI (ct_us sz (L ||| R ||| T) 8).length)), (0, .ref r0), (1, .int (nI a0)), (2, .int (nI L)), (3, .int (nI b0)), (4, .int (nI R)), (5, .int (nI t0)), (6, .int (nI T)), (7, .int (nI (t0 + (ct_pr sz T.testBit 8))))]) hx hb d_R_join_74 hl (by decide) rfl (fun ls hl => ?_)
      refine lv_iconst (v := (nI 0)) hx hb d_R_join_76 (by decide) ?_
      refine lv_istore (lv' := [(13, .int (nI 0)), (12, .int (nI t0)), (11, .int (nI b0)), (10, .int (nI a0)), (9, .int (nI (ct_pr sz (L ||| R ||| T).testBit 8))), (8, .int (nI (ct_us sz (L ||| R ||| T) 8).length)), (0, .ref r0), (1, .int (nI a0)), (2, .int (nI L)), (3, .int (nI b0)), (4, .int (nI R)), (5, .int (nI t0)), (6, .int (nI T)), (7, .int (nI (t0 + (ct_pr sz T.testBit 8))))]) hx hb d_R_join_77 hl (by decide) rfl (fun ls hl => ?_)
      have hpr0 := ct_pr_pos (sz := sz) (P := (L ||| R ||| T).testBit) 8 hs0
      refine outer ge ga gb gt gi hly.2 (ct_pr sz (L ||| R ||| T).testBit 8) 0 (by omega) g gi _ _ _ hg1 (fun j h9 => hg2 j (by omega)) (fun _ => ?_) H locs (hP.sub [1, 0, 2, 3, 4, 5, 6, 7, 8] rfl) (hD.sub [1, 0, 2, 3, 4, 5, 6, 7, 8] (by decide) rfl) hS ls (lv_sub hl [6, 7, 8, 9, 10, 11, 12, 5, 4, 3, 2, 1, 0] rfl)
      have z0L : ∀ M : Nat, ct_ix sz M.testBit 8 (fun _ => 0) = 0 := fun M => ct_ix_0 sz M.testBit 8
      rw [ct_de_0]
      exact ⟨by rw [z0L, Nat.add_zero], by rw [z0L, Nat.add_zero], by rw [z0L, Nat.add_zero], fun d h9 => (hly.2 d h9).2.1⟩
    | succ fu ih =>
      intro j hj g hg1 hg2 H locs hP hD hS ls hl
      refine lv_iload hx hb d_R_join_18 (lv_at hl 8 rfl) ?_
      refine lv_iload hx hb d_R_join_20 (lv_at hl 7 rfl) ?_
      refine lv_icmp_ge (tgt := 39) hx hb d_R_join_22 (by decide) (fun hc9 => absurd hc9 (nI_ge (by omega) (by omega))) (fun _ => ?_)
      refine lv_aload_n hx hb d_R_join_25 rfl (lv_at hl 0 rfl) ?_
      refine va_get (D := (dC, dI)) (ci := 3) (v := .ref r1) (C := R_R) (T := T_R) (N := 7) hx hb hts (fun w h9 => ct_tl (ki_R w h9)) hown hK hP 0 rfl rfl 1 (by decide) (hts _ (ct_tl kw_93)) (fun _ h9 => h9) rfl d_R_join_26 ?_
      refine lv_iload hx hb d_R_join_29 (lv_at hl 8 rfl) ?_
      refine lv_iconst (v := (nI 0)) hx hb d_R_join_31 (by decide) ?_
      refine ct_iast hx hb hK hP hD hS 1 0 rfl rfl (j := t0 + j) (by omega) (hN) d_R_join_32 (fun H locs hP hD hS => ?_)
      have hP : va_P (dC, dI) ct_cl [(r0, .inr (3, [.ref z0, .ref r1, .ref r2, .ref r3, .ref r4, .ref r5, .ref r6])), (r1, .inl (cI, N, .inl (upd g (t0 + j) (nI 0)))), (r2, .inl (cI, 8, .inl fe)), (r3, .inl (cI, 8, .inl fi)), (r4, .inl (cI, 8, .inl fa)), (r5, .inl (cI, 8, .inl fb)), (r6, .inl (cI, 8, .inl ft)), (z0, .inr (1, [.ref z1])), (z1, .inl (cI, 8, .inl (fun j => nI (sz j))))] H := hP
      have hD : va_D A [(r0, .inr (3, [.ref z0, .ref r1, .ref r2, .ref r3, .ref r4, .ref r5, .ref r6])), (r1, .inl (cI, N, .inl (upd g (t0 + j) (nI 0)))), (r2, .inl (cI, 8, .inl fe)), (r3, .inl (cI, 8, .inl fi)), (r4, .inl (cI, 8, .inl fa)), (r5, .inl (cI, 8, .inl fb)), (r6, .inl (cI, 8, .inl ft)), (z0, .inr (1, [.ref z1])), (z1, .inl (cI, 8, .inl (fun j => nI (sz j))))] := hD
      refine lv_iinc (v := (nI (t0 + (j + 1)))) (lv' := [(8, .int (nI (t0 + (j + 1)))), (0, .ref r0), (1, .int (nI a0)), (2, .int (nI L)), (3, .int (nI b0)), (4, .int (nI R)), (5, .int (nI t0)), (6, .int (nI T)), (7, .int (nI (t0 + (ct_pr sz T.testBit 8))))]) hx hb d_R_join_33 hl (k := 8) rfl (by rw [← Nat.add_assoc]; exact nI_1 _) (by decide) rfl (fun ls hl => ?_)
      refine lv_goto (tgt := 18) hx hb d_R_join_36 (by decide) ?_
      refine ih (j + 1) (by omega) _ (fun i h9 => ?_) (fun i h9 => ?_) H locs hP hD hS ls (lv_sub hl [1, 2, 3, 4, 5, 6, 7, 8, 0] rfl)
      · rw [pk_un (by omega)]; exact hg1 i h9
      · by_cases h8 : i = j
        · rw [h8, pk_us]; exact nI_0
        · rw [pk_un (by omega)]; exact hg2 i (by omega)
  refine lv_iload hx hb d_R_join_0 (lv_at hl 5 rfl) ?_
  refine lv_aload_n hx hb d_R_join_2 rfl (lv_at hl 0 rfl) ?_
  refine va_get (D := (dC, dI)) (ci := 3) (v := .ref z0) (C := R_R) (T := T_R) (N := 7) hx hb hts (fun w h9 => ct_tl (ki_R w h9)) hown hK hP 0 rfl rfl 0 (by decide) (hts _ (ct_tl kw_92)) (fun _ h9 => h9) rfl d_R_join_3 ?_
  refine lv_iload hx hb d_R_join_6 (lv_at hl 6 rfl) ?_
  refine va_calli (va_runV (As := [.int (nI T)]) (rest := [.int (nI t0)]) ⟨hx, hb, hml, hown, hts⟩ (c_S_choices l dC dI cI z0 z1 sz T (by omega)) (cwV 1 hts (ct_giV (fun w h9 => ct_tl h9) kw_453 kw_195 kw_196 kw_27 kw_197) rfl rfl rfl (by decide +kernel) ⟨Nat.le_of_ble_eq_true rfl, Nat.le_of_ble_eq_true rfl⟩) ⟨ct_ro_blind, va_recv hK hP (ci := 1) (q0 := 7) rfl rfl, ct_ro_pre (hP.sub [7, 8] rfl) hK⟩ rfl rfl hl.1 rfl (lv_room (Nat.le_of_ble_eq_true rfl)) d_R_join_8 ⟨Nat.le_of_ble_eq_true rfl, Nat.le_of_ble_eq_true rfl⟩) hS (fun q _ h9 => h9.elim) (fun q h9 => h9.elim) (fun ans1 uS tS H locs ht hvm hwans1 hB hz1 hk1 hS => ?_)
  have hP := ct_keep hP hk1
  refine ct_val (y := nI (ct_pr sz (T).testBit 8)) (hwans1) ?_
  refine lv_iadd hx hb d_R_join_11 ?_
  refine ct_val (y := nI (t0 + (ct_pr sz T.testBit 8))) (nI_add _ _) ?_
  refine lv_istore (lv' := [(7, .int (nI (t0 + (ct_pr sz T.testBit 8)))), (0, .ref r0), (1, .int (nI a0)), (2, .int (nI L)), (3, .int (nI b0)), (4, .int (nI R)), (5, .int (nI t0)), (6, .int (nI T))]) hx hb d_R_join_12 hl (by decide) rfl (fun ls hl => ?_)
  refine lv_iload hx hb d_R_join_14 (lv_at hl 6 rfl) ?_
  refine lv_istore (lv' := [(8, .int (nI t0)), (7, .int (nI (t0 + (ct_pr sz T.testBit 8)))), (0, .ref r0), (1, .int (nI a0)), (2, .int (nI L)), (3, .int (nI b0)), (4, .int (nI R)), (5, .int (nI t0)), (6, .int (nI T))]) hx hb d_R_join_16 hl (by decide) rfl (fun ls hl => ?_)
  exact clean (ct_pr sz T.testBit 8) 0 (by omega) f (fun i _ => rfl) (fun i h9 => absurd h9 (Nat.not_lt_zero i)) H locs hP hD hS ls (lv_sub hl [2, 3, 4, 5, 6, 7, 8, 1, 0] rfl)
