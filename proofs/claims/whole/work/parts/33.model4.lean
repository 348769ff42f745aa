theorem d_M_plan_0 : decode b_M_plan 0 = .ok (.iconst 1, 1) := by decide +kernel
theorem d_M_plan_1 : decode b_M_plan 1 = .ok (.istore_n 1, 1) := by decide +kernel
theorem d_M_plan_2 : decode b_M_plan 2 = .ok (.iload_n 1, 1) := by decide +kernel
theorem d_M_plan_3 : decode b_M_plan 3 = .ok (.iconst 1, 1) := by decide +kernel
theorem d_M_plan_4 : decode b_M_plan 4 = .ok (.aload_n 0, 1) := by decide +kernel
theorem d_M_plan_5 : decode b_M_plan 5 = .ok (.getfield 64, 3) := by decide +kernel
theorem d_M_plan_8 : decode b_M_plan 8 = .ok (.ishl, 1) := by decide +kernel
theorem d_M_plan_9 : decode b_M_plan 9 = .ok (.if_icmp .ge 194, 3) := by decide +kernel
theorem d_M_plan_12 : decode b_M_plan 12 = .ok (.aload_n 0, 1) := by decide +kernel
theorem d_M_plan_13 : decode b_M_plan 13 = .ok (.getfield 22, 3) := by decide +kernel
theorem d_M_plan_16 : decode b_M_plan 16 = .ok (.iload_n 1, 1) := by decide +kernel
theorem d_M_plan_17 : decode b_M_plan 17 = .ok (.iconst 0, 1) := by decide +kernel
theorem d_M_plan_18 : decode b_M_plan 18 = .ok (.iastore, 1) := by decide +kernel
theorem d_M_plan_19 : decode b_M_plan 19 = .ok (.aload_n 0, 1) := by decide +kernel
theorem d_M_plan_20 : decode b_M_plan 20 = .ok (.getfield 25, 3) := by decide +kernel
theorem d_M_plan_23 : decode b_M_plan 23 = .ok (.iload_n 1, 1) := by decide +kernel
theorem d_M_plan_24 : decode b_M_plan 24 = .ok (.iconst 0, 1) := by decide +kernel
theorem d_M_plan_25 : decode b_M_plan 25 = .ok (.iastore, 1) := by decide +kernel
theorem d_M_plan_26 : decode b_M_plan 26 = .ok (.iload_n 1, 1) := by decide +kernel
theorem d_M_plan_27 : decode b_M_plan 27 = .ok (.iload_n 1, 1) := by decide +kernel
theorem d_M_plan_28 : decode b_M_plan 28 = .ok (.iconst 1, 1) := by decide +kernel
theorem d_M_plan_29 : decode b_M_plan 29 = .ok (.isub, 1) := by decide +kernel
theorem d_M_plan_30 : decode b_M_plan 30 = .ok (.iand, 1) := by decide +kernel
theorem d_M_plan_31 : decode b_M_plan 31 = .ok (.ifCond .ne 7, 3) := by decide +kernel
theorem d_M_plan_34 : decode b_M_plan 34 = .ok (.iconst 1, 1) := by decide +kernel
theorem d_M_plan_35 : decode b_M_plan 35 = .ok (.goto 4, 3) := by decide +kernel
theorem d_M_plan_38 : decode b_M_plan 38 = .ok (.iconst 0, 1) := by decide +kernel
theorem d_M_plan_39 : decode b_M_plan 39 = .ok (.istore_n 2, 1) := by decide +kernel
theorem d_M_plan_40 : decode b_M_plan 40 = .ok (.iload_n 1, 1) := by decide +kernel
theorem d_M_plan_41 : decode b_M_plan 41 = .ok (.iload_n 1, 1) := by decide +kernel
theorem d_M_plan_42 : decode b_M_plan 42 = .ok (.ineg, 1) := by decide +kernel
theorem d_M_plan_43 : decode b_M_plan 43 = .ok (.iand, 1) := by decide +kernel
theorem d_M_plan_44 : decode b_M_plan 44 = .ok (.istore_n 3, 1) := by decide +kernel
theorem d_M_plan_45 : decode b_M_plan 45 = .ok (.iconst 1, 1) := by decide +kernel
theorem d_M_plan_46 : decode b_M_plan 46 = .ok (.istore 4, 2) := by decide +kernel
theorem d_M_plan_48 : decode b_M_plan 48 = .ok (.iload 4, 2) := by decide +kernel
theorem d_M_plan_50 : decode b_M_plan 50 = .ok (.iload_n 1, 1) := by decide +kernel
theorem d_M_plan_51 : decode b_M_plan 51 = .ok (.if_icmp .ge 146, 3) := by decide +kernel
theorem d_M_plan_54 : decode b_M_plan 54 = .ok (.iload_n 2, 1) := by decide +kernel
theorem d_M_plan_55 : decode b_M_plan 55 = .ok (.ifCond .ne 142, 3) := by decide +kernel
theorem d_M_plan_58 : decode b_M_plan 58 = .ok (.iload 4, 2) := by decide +kernel
theorem d_M_plan_60 : decode b_M_plan 60 = .ok (.iload_n 1, 1) := by decide +kernel
theorem d_M_plan_61 : decode b_M_plan 61 = .ok (.iand, 1) := by decide +kernel
theorem d_M_plan_62 : decode b_M_plan 62 = .ok (.iload 4, 2) := by decide +kernel
theorem d_M_plan_64 : decode b_M_plan 64 = .ok (.if_icmp .ne 14, 3) := by decide +kernel
theorem d_M_plan_67 : decode b_M_plan 67 = .ok (.iload 4, 2) := by decide +kernel
theorem d_M_plan_69 : decode b_M_plan 69 = .ok (.iload_n 3, 1) := by decide +kernel
theorem d_M_plan_70 : decode b_M_plan 70 = .ok (.iand, 1) := by decide +kernel
theorem d_M_plan_71 : decode b_M_plan 71 = .ok (.ifCond .le 7, 3) := by decide +kernel
theorem d_M_plan_74 : decode b_M_plan 74 = .ok (.iconst 1, 1) := by decide +kernel
theorem d_M_plan_75 : decode b_M_plan 75 = .ok (.goto 4, 3) := by decide +kernel
theorem d_M_plan_78 : decode b_M_plan 78 = .ok (.iconst 0, 1) := by decide +kernel
theorem d_M_plan_79 : decode b_M_plan 79 = .ok (.istore 5, 2) := by decide +kernel
theorem d_M_plan_81 : decode b_M_plan 81 = .ok (.iload 5, 2) := by decide +kernel
theorem d_M_plan_83 : decode b_M_plan 83 = .ok (.ifCond .eq 108, 3) := by decide +kernel
theorem d_M_plan_86 : decode b_M_plan 86 = .ok (.iload_n 1, 1) := by decide +kernel
theorem d_M_plan_87 : decode b_M_plan 87 = .ok (.iload 4, 2) := by decide +kernel
theorem d_M_plan_89 : decode b_M_plan 89 = .ok (.iconst (-1), 1) := by decide +kernel
theorem d_M_plan_90 : decode b_M_plan 90 = .ok (.ixor, 1) := by decide +kernel
theorem d_M_plan_91 : decode b_M_plan 91 = .ok (.iand, 1) := by decide +kernel
theorem d_M_plan_92 : decode b_M_plan 92 = .ok (.istore 6, 2) := by decide +kernel
theorem d_M_plan_94 : decode b_M_plan 94 = .ok (.aload_n 0, 1) := by decide +kernel
theorem d_M_plan_95 : decode b_M_plan 95 = .ok (.getfield 22, 3) := by decide +kernel
theorem d_M_plan_98 : decode b_M_plan 98 = .ok (.iload 4, 2) := by decide +kernel
theorem d_M_plan_100 : decode b_M_plan 100 = .ok (.iaload, 1) := by decide +kernel
theorem d_M_plan_101 : decode b_M_plan 101 = .ok (.aload_n 0, 1) := by decide +kernel
theorem d_M_plan_102 : decode b_M_plan 102 = .ok (.getfield 22, 3) := by decide +kernel
theorem d_M_plan_105 : decode b_M_plan 105 = .ok (.iload 6, 2) := by decide +kernel
theorem d_M_plan_107 : decode b_M_plan 107 = .ok (.iaload, 1) := by decide +kernel
theorem d_M_plan_108 : decode b_M_plan 108 = .ok (.iadd, 1) := by decide +kernel
theorem d_M_plan_109 : decode b_M_plan 109 = .ok (.aload_n 0, 1) := by decide +kernel
theorem d_M_plan_110 : decode b_M_plan 110 = .ok (.iload 4, 2) := by decide +kernel
theorem d_M_plan_112 : decode b_M_plan 112 = .ok (.iload 6, 2) := by decide +kernel
theorem d_M_plan_114 : decode b_M_plan 114 = .ok (.invokevirtual 76, 3) := by decide +kernel
theorem d_M_plan_117 : decode b_M_plan 117 = .ok (.iadd, 1) := by decide +kernel
theorem d_M_plan_118 : decode b_M_plan 118 = .ok (.istore 7, 2) := by decide +kernel
theorem d_M_plan_120 : decode b_M_plan 120 = .ok (.aload_n 0, 1) := by decide +kernel
theorem d_M_plan_121 : decode b_M_plan 121 = .ok (.getfield 25, 3) := by decide +kernel
theorem d_M_plan_124 : decode b_M_plan 124 = .ok (.iload_n 1, 1) := by decide +kernel
theorem d_M_plan_125 : decode b_M_plan 125 = .ok (.iaload, 1) := by decide +kernel
theorem d_M_plan_126 : decode b_M_plan 126 = .ok (.ifCond .eq 14, 3) := by decide +kernel
theorem d_M_plan_129 : decode b_M_plan 129 = .ok (.iload 7, 2) := by decide +kernel
theorem d_M_plan_131 : decode b_M_plan 131 = .ok (.aload_n 0, 1) := by decide +kernel
theorem d_M_plan_132 : decode b_M_plan 132 = .ok (.getfield 22, 3) := by decide +kernel
theorem d_M_plan_135 : decode b_M_plan 135 = .ok (.iload_n 1, 1) := by decide +kernel
theorem d_M_plan_136 : decode b_M_plan 136 = .ok (.iaload, 1) := by decide +kernel
theorem d_M_plan_137 : decode b_M_plan 137 = .ok (.if_icmp .ge 7, 3) := by decide +kernel
theorem d_M_plan_140 : decode b_M_plan 140 = .ok (.iconst 1, 1) := by decide +kernel
theorem d_M_plan_141 : decode b_M_plan 141 = .ok (.goto 4, 3) := by decide +kernel
theorem d_M_plan_144 : decode b_M_plan 144 = .ok (.iconst 0, 1) := by decide +kernel
theorem d_M_plan_145 : decode b_M_plan 145 = .ok (.istore 8, 2) := by decide +kernel
theorem d_M_plan_147 : decode b_M_plan 147 = .ok (.aload_n 0, 1) := by decide +kernel
theorem d_M_plan_148 : decode b_M_plan 148 = .ok (.getfield 22, 3) := by decide +kernel
theorem d_M_plan_151 : decode b_M_plan 151 = .ok (.iload_n 1, 1) := by decide +kernel
theorem d_M_plan_152 : decode b_M_plan 152 = .ok (.iload 8, 2) := by decide +kernel
theorem d_M_plan_154 : decode b_M_plan 154 = .ok (.ifCond .eq 8, 3) := by decide +kernel
theorem d_M_plan_157 : decode b_M_plan 157 = .ok (.iload 7, 2) := by decide +kernel
theorem d_M_plan_159 : decode b_M_plan 159 = .ok (.goto 9, 3) := by decide +kernel
theorem d_M_plan_162 : decode b_M_plan 162 = .ok (.aload_n 0, 1) := by decide +kernel
theorem d_M_plan_163 : decode b_M_plan 163 = .ok (.getfield 22, 3) := by decide +kernel
theorem d_M_plan_166 : decode b_M_plan 166 = .ok (.iload_n 1, 1) := by decide +kernel
theorem d_M_plan_167 : decode b_M_plan 167 = .ok (.iaload, 1) := by decide +kernel
theorem d_M_plan_168 : decode b_M_plan 168 = .ok (.iastore, 1) := by decide +kernel
theorem d_M_plan_169 : decode b_M_plan 169 = .ok (.aload_n 0, 1) := by decide +kernel
theorem d_M_plan_170 : decode b_M_plan 170 = .ok (.getfield 25, 3) := by decide +kernel
theorem d_M_plan_173 : decode b_M_plan 173 = .ok (.iload_n 1, 1) := by decide +kernel
theorem d_M_plan_174 : decode b_M_plan 174 = .ok (.iload 8, 2) := by decide +kernel
theorem d_M_plan_176 : decode b_M_plan 176 = .ok (.ifCond .eq 8, 3) := by decide +kernel
theorem d_M_plan_179 : decode b_M_plan 179 = .ok (.iload 4, 2) := by decide +kernel
theorem d_M_plan_181 : decode b_M_plan 181 = .ok (.goto 9, 3) := by decide +kernel
theorem d_M_plan_184 : decode b_M_plan 184 = .ok (.aload_n 0, 1) := by decide +kernel
theorem d_M_plan_185 : decode b_M_plan 185 = .ok (.getfield 25, 3) := by decide +kernel
theorem d_M_plan_188 : decode b_M_plan 188 = .ok (.iload_n 1, 1) := by decide +kernel
theorem d_M_plan_189 : decode b_M_plan 189 = .ok (.iaload, 1) := by decide +kernel
theorem d_M_plan_190 : decode b_M_plan 190 = .ok (.iastore, 1) := by decide +kernel
theorem d_M_plan_191 : decode b_M_plan 191 = .ok (.iinc 4 1, 3) := by decide +kernel
theorem d_M_plan_194 : decode b_M_plan 194 = .ok (.goto (-146), 3) := by decide +kernel
theorem d_M_plan_197 : decode b_M_plan 197 = .ok (.iinc 1 1, 3) := by decide +kernel
theorem d_M_plan_200 : decode b_M_plan 200 = .ok (.goto (-198), 3) := by decide +kernel
theorem d_M_plan_203 : decode b_M_plan 203 = .ok (.return_, 1) := by decide +kernel
set_option maxHeartbeats 4000000 in
set_option maxRecDepth 100000 in
theorem c_M_init (l : Launch) (dC : Nat → ClassId) (dI : Nat → Nat → Nat) (cI : ClassId) (o0 : Nat) (sz0 : Nat) : Met l y_M_init w_M_init ({ frames := 1, cells := 9, slots := 446, locals := 12 }) (va_Pc [.ref o0] (ct_rw (dC, dI) ct_cl [(o0, .inr (4, [.int 0, .null, .int 0, .null, .null, .int 0, .null, .int 0, .null, .null, .int 0, .null, .null, .null]))] [(cI, .int)] sz0)) (va_Qv (fun (u : Nat × Nat × Nat × Nat × Nat × Nat × Nat × Nat × Nat) => True) (fun (u : Nat × Nat × Nat × Nat × Nat × Nat × Nat × Nat × Nat) t => ct_at (dC, dI) ct_cl [(cI, .int)] (va_A [(o0, .inr (4, [.int 0, .null, .int 0, .null, .null, .int 0, .null, .int 0, .null, .null, .int 0, .null, .null, .null]))] sz0) [(o0, .inr (4, [.int 0, .ref (u.1), .int 0, .ref (u.2.1), .ref (u.2.2.1), .int 0, .ref (u.2.2.2.1), .int 0, .ref (u.2.2.2.2.1), .ref (u.2.2.2.2.2.1), .int 0, .ref (u.2.2.2.2.2.2.1), .ref (u.2.2.2.2.2.2.2.1), .ref (u.2.2.2.2.2.2.2.2)])), ((u.1), .inl (cI, 8, .inl (fun j => nI (ct_sz0 j)))), ((u.2.1), .inl (cI, 8, .inl (fun _ => 0))), ((u.2.2.1), .inl (cI, 216, .inl (fun _ => 0))), ((u.2.2.2.1), .inl (cI, 6, .inl (fun _ => 0))), ((u.2.2.2.2.1), .inl (cI, 64, .inl (fun _ => 0))), ((u.2.2.2.2.2.1), .inl (cI, 64, .inl (fun _ => 0))), ((u.2.2.2.2.2.2.1), .inl (cI, 8, .inl (fun _ => 0))), ((u.2.2.2.2.2.2.2.1), .inl (cI, 64, .inl (fun _ => 0))), ((u.2.2.2.2.2.2.2.2), .inl (cI, 8, .inl (fun _ => 0)))] t) (va_A [(o0, .inr (4, [.int 0, .null, .int 0, .null, .null, .int 0, .null, .int 0, .null, .null, .int 0, .null, .null, .null]))] sz0)) 9 446 (va_A [(o0, .inr (4, [.int 0, .null, .int 0, .null, .null, .int 0, .null, .int 0, .null, .null, .int 0, .null, .null, .null]))] sz0) := by
  refine Met.ofW (cc := b_M_init) (maxL := 2) (ret := none) (by decide) rfl ?_
  intro p e s m args below meth c s₁ Bd hml hv
  obtain ⟨hargs, hsz, hP, hK, hD0⟩ := hv
  have hx := Bd.exec
  have hb := Bd.bytes
  have hr := Bd.returns
  have hts : ∀ w ∈ k_M_init :: ct_tb, w.before args s = true := atoms_spec (ws := w_M_init) Bd.pre
  have hown : s.vm.findClass R_M = some m.cls := findClass_of_methodNamed Bd.named
  have hlocks := Bd.notSynchronized
  have hin : meth.name = "<init>" := (name_of_methodNamed Bd.named Bd.method).1
  subst hsz
  have hD := hD0.self (sz := s.heap.size)
  generalize hAe : va_A [(o0, .inr (4, [.int 0, .null, .int 0, .null, .null, .int 0, .null, .int 0, .null, .null, .int 0, .null, .null, .null]))] s.heap.size = A at hD ⊢
  have hA : ∀ q : Nat, s.heap.size ≤ q → A q := fun q h => by rw [← hAe]; exact Or.inr h
  have hS : va_S A s.heap s.heap [] := va_S.rf
  have hl := lv_entry ([.ref o0]) (n := 2) (Nat.le_of_ble_eq_true rfl)
  rw [show entryFrame m args 2 = entryFrame m (([.ref o0] : List Value)).toArray 2 by rw [hargs], lg_entry_eq]
  generalize (lg_sl ([.ref o0]) ++ List.replicate (2 - (lg_sl ([.ref o0])).length) Slot.unset).toArray = ls at hl ⊢
  have hl : lv_has ls 2 [(0, .ref o0)] := hl
  refine lv_aload_n hx hb d_M_init_0 rfl (lv_at hl 0 rfl) ?_
  refine W.objInit hx hb hown (hts _ (ct_tl kw_518)) (hts _ (ct_tl kw_48)) (hts _ (ct_tl kw_49)) rfl (by rw [hml]; exact hl.1) rfl d_M_init_1 (Nat.le_of_ble_eq_true rfl) (Nat.le_of_ble_eq_true rfl) ?_
  refine W.eq (g2 := F0 m 4 ls []) rfl ?_
  have loop : ∀ (n i : Nat), i + n = 8 → ∀ (o1 o2 o3 o4 o5 o6 o7 o8 o9 : Nat), ∀ (H : Heap) (locs : List Loc), va_P (dC, dI) ct_cl [(o0, .inr (4, [.int 0, .ref o1, .int 0, .ref o2, .ref o3, .int 0, .ref o4, .int 0, .ref o5, .ref o6, .int 0, .ref o7, .ref o8, .ref o9])), (o1, .inl (cI, 8, .inl (fun j => nI (if j < i then 2 else 0)))), (o2, .inl (cI, 8, .inl (fun _ => 0))), (o3, .inl (cI, 216, .inl (fun _ => 0))), (o4, .inl (cI, 6, .inl (fun _ => 0))), (o5, .inl (cI, 64, .inl (fun _ => 0))), (o6, .inl (cI, 64, .inl (fun _ => 0))), (o7, .inl (cI, 8, .inl (fun _ => 0))), (o8, .inl (cI, 64, .inl (fun _ => 0))), (o9, .inl (cI, 8, .inl (fun _ => 0)))] H → va_D A [(o0, .inr (4, [.int 0, .ref o1, .int 0, .ref o2, .ref o3, .int 0, .ref o4, .int 0, .ref o5, .ref o6, .int 0, .ref o7, .ref o8, .ref o9])), (o1, .inl (cI, 8, .inl (fun j => nI (if j < i then 2 else 0)))), (o2, .inl (cI, 8, .inl (fun _ => 0))), (o3, .inl (cI, 216, .inl (fun _ => 0))), (o4, .inl (cI, 6, .inl (fun _ => 0))), (o5, .inl (cI, 64, .inl (fun _ => 0))), (o6, .inl (cI, 64, .inl (fun _ => 0))), (o7, .inl (cI, 8, .inl (fun _ => 0))), (o8, .inl (cI, 64, .inl (fun _ => 0))), (o9, .inl (cI, 8, .inl (fun _ => 0)))] → va_S A s.heap H locs → ∀ (ls : Array Slot), lv_has ls 2 [(0, .ref o0), (1, .int (nI i))] → W p l e (headSpec w_M_init ({ frames := 1, cells := 9, slots := 446, locals := 12 } : Room)).room s m args below meth c H locs (0 + 1 + 1 + 1 + 1 + 1 + 1 + 1 + 1 + 1) (0 + 8 + 8 + 216 + 6 + 64 + 64 + 8 + 64 + 8) (MQ below (va_Qv (fun (u : Nat × Nat × Nat × Nat × Nat × Nat × Nat × Nat × Nat) => True) (fun (u : Nat × Nat × Nat × Nat × Nat × Nat × Nat × Nat × Nat) t => ct_at (dC, dI) ct_cl [(cI, .int)] (A) [(o0, .inr (4, [.int 0, .ref (u.1), .int 0, .ref (u.2.1), .ref (u.2.2.1), .int 0, .ref (u.2.2.2.1), .int 0, .ref (u.2.2.2.2.1), .ref (u.2.2.2.2.2.1), .int 0, .ref (u.2.2.2.2.2.2.1), .ref (u.2.2.2.2.2.2.2.1), .ref (u.2.2.2.2.2.2.2.2)])), ((u.1), .inl (cI, 8, .inl (fun j => nI (ct_sz0 j)))), ((u.2.1), .inl (cI, 8, .inl (fun _ => 0))), ((u.2.2.1), .inl (cI, 216, .inl (fun _ => 0))), ((u.2.2.2.1), .inl (cI, 6, .inl (fun _ => 0))), ((u.2.2.2.2.1), .inl (cI, 64, .inl (fun _ => 0))), ((u.2.2.2.2.2.1), .inl (cI, 64, .inl (fun _ => 0))), ((u.2.2.2.2.2.2.1), .inl (cI, 8, .inl (fun _ => 0))), ((u.2.2.2.2.2.2.2.1), .inl (cI, 64, .inl (fun _ => 0))), ((u.2.2.2.2.2.2.2.2), .inl (cI, 8, .inl (fun _ => 0)))] t) (A)) args s 9 446 A) (F0 m 79 ls []) := by
    intro n
    induction n with
    | zero =>
      intro i hi o1 o2 o3 o4 o5 o6 o7 o8 o9 H locs hP hD hS ls hl
      refine lv_iload_n hx hb d_M_init_79 rfl (lv_at hl 1 rfl) ?_
      refine lv_bipush (v := (nI 8)) hx hb d_M_init_80 (by decide) ?_
      refine lv_icmp_ge (tgt := 98) hx hb d_M_init_82 (by decide) (fun _ => ?_) (fun hc9 => absurd (nI_le (by omega) (by omega)) hc9)
      obtain rfl : i = 8 := by omega
      have hP9 := hP.sub [0, 1, 2, 3, 4, 5, 6, 7, 8, 9] rfl
      exact W.vret hx hb hr (fun tS ht hW => ⟨⟨(o1, o2, o3, o4, o5, o6, o7, o8, o9), rfl, trivial, by rw [ht]; exact hP9, va_K.moved hW.alike hK, hD.sub [0, 1, 2, 3, 4, 5, 6, 7, 8, 9] (by decide) rfl⟩, hS.F ht⟩) hS.2.2 d_M_init_98
    | succ n ih =>
      intro i hi o1 o2 o3 o4 o5 o6 o7 o8 o9 H locs hP hD hS ls hl
      refine lv_iload_n hx hb d_M_init_79 rfl (lv_at hl 1 rfl) ?_
      refine lv_bipush (v := (nI 8)) hx hb d_M_init_80 (by decide) ?_
      refine lv_icmp_ge (tgt := 98) hx hb d_M_init_82 (by decide) (fun hc9 => absurd hc9 (nI_ge (by omega) (by omega))) (fun _ => ?_)
      refine lv_aload_n hx hb d_M_init_85 rfl (lv_at hl 0 rfl) ?_
      refine va_get (D := (dC, dI)) (ci := 4) (v := .ref o1) (C := R_M) (T := T_M) (N := 14) hx hb hts (fun w h9 => ct_tl (ki_M w h9)) hown hK hP 0 rfl rfl 1 (by decide) (hts _ (ct_tl kw_520)) (fun _ h9 => h9) rfl d_M_init_86 ?_
      refine lv_iload_n hx hb d_M_init_89 rfl (lv_at hl 1 rfl) ?_
      refine lv_iconst (v := (nI 2)) hx hb d_M_init_90 (by decide) ?_
      refine ct_iast hx hb hK hP hD hS 1 0 rfl rfl (j := i) (by omega) (by omega) d_M_init_91 (fun H locs hP hD hS => ?_)
      have hP : va_P (dC, dI) ct_cl [(o0, .inr (4, [.int 0, .ref o1, .int 0, .ref o2, .ref o3, .int 0, .ref o4, .int 0, .ref o5, .ref o6, .int 0, .ref o7, .ref o8, .ref o9])), (o1, .inl (cI, 8, .inl (upd (fun j => nI (if j < i then 2 else 0)) i (nI 2)))), (o2, .inl (cI, 8, .inl (fun _ => 0))), (o3, .inl (cI, 216, .inl (fun _ => 0))), (o4, .inl (cI, 6, .inl (fun _ => 0))), (o5, .inl (cI, 64, .inl (fun _ => 0))), (o6, .inl (cI, 64, .inl (fun _ => 0))), (o7, .inl (cI, 8, .inl (fun _ => 0))), (o8, .inl (cI, 64, .inl (fun _ => 0))), (o9, .inl (cI, 8, .inl (fun _ => 0)))] H := hP
      have hD : va_D A [(o0, .inr (4, [.int 0, .ref o1, .int 0, .ref o2, .ref o3, .int 0, .ref o4, .int 0, .ref o5, .ref o6, .int 0, .ref o7, .ref o8, .ref o9])), (o1, .inl (cI, 8, .inl (upd (fun j => nI (if j < i then 2 else 0)) i (nI 2)))), (o2, .inl (cI, 8, .inl (fun _ => 0))), (o3, .inl (cI, 216, .inl (fun _ => 0))), (o4, .inl (cI, 6, .inl (fun _ => 0))), (o5, .inl (cI, 64, .inl (fun _ => 0))), (o6, .inl (cI, 64, .inl (fun _ => 0))), (o7, .inl (cI, 8, .inl (fun _ => 0))), (o8, .inl (cI, 64, .inl (fun _ => 0))), (o9, .inl (cI, 8, .inl (fun _ => 0)))] := hD
      rw [show (upd (fun j => nI (if j < i then 2 else 0)) i (nI 2)) = (fun j => nI (if j < i + 1 then 2 else 0)) from ct_init_fun i] at hP hD
      refine lv_iinc (v := (nI (i + 1))) (lv' := [(1, .int (nI (i + 1))), (0, .ref o0)]) hx hb d_M_init_92 hl (k := 1) rfl (nI_1 _) (by decide) rfl (fun ls hl => ?_)
      refine lv_goto (tgt := 79) hx hb d_M_init_95 (by decide) ?_
      exact ih (i + 1) (by omega) o1 o2 o3 o4 o5 o6 o7 o8 o9 H locs hP hD hS ls (lv_sub hl [1, 0] rfl)
  refine lv_aload_n hx hb d_M_init_4 rfl (lv_at hl 0 rfl) ?_
  refine lv_bipush (v := (nI 8)) hx hb d_M_init_5 (by decide) ?_
  refine va_newa (atype := .int) (ty := .int) (a0 := (8, .inl (fun _ => 0))) hx hb (hts _ (ct_tl kw_60)) rfl hK hP hD hS hA (fun _ => rfl) (nI_pos (by omega)) (nI_clamp (by omega)) (by show 8 * 4 ≤ 536870912; omega) (Nat.le_of_ble_eq_true rfl) (Nat.le_of_ble_eq_true rfl) d_M_init_7 (fun o1 cA H hK9 hP hD hS => ?_)
  rw [ct_cA hK9] at hP hD
  have hP : va_P (dC, dI) ct_cl [(o0, .inr (4, [.int 0, .null, .int 0, .null, .null, .int 0, .null, .int 0, .null, .null, .int 0, .null, .null, .null])), (o1, .inl (cI, 8, .inl (fun _ => 0)))] H := hP
  have hD : va_D A [(o0, .inr (4, [.int 0, .null, .int 0, .null, .null, .int 0, .null, .int 0, .null, .null, .int 0, .null, .null, .null])), (o1, .inl (cI, 8, .inl (fun _ => 0)))] := hD
  refine va_putF (D := (dC, dI)) (ci := 4) (v := .ref o1) (ty := .array .int) (C := R_M) (T := T_M) (N := 14) hx hb hts (fun w h9 => ct_tl (ki_M w h9)) ty_M ok_M nm_M hown hK hP hD hS 0 rfl rfl 1 (by decide) (hts _ (ct_tl kw_520)) (fun _ h9 => h9) rfl hin rfl (by decide +kernel) rfl rfl (Nat.le_of_ble_eq_true rfl) d_M_init_9 (fun H locs hP hD hS => ?_)
  have hP : va_P (dC, dI) ct_cl [(o0, .inr (4, [.int 0, .ref o1, .int 0, .null, .null, .int 0, .null, .int 0, .null, .null, .int 0, .null, .null, .null])), (o1, .inl (cI, 8, .inl (fun _ => 0)))] H := hP
  have hD : va_D A [(o0, .inr (4, [.int 0, .ref o1, .int 0, .null, .null, .int 0, .null, .int 0, .null, .null, .int 0, .null, .null, .null])), (o1, .inl (cI, 8, .inl (fun _ => 0)))] := hD
  refine lv_aload_n hx hb d_M_init_12 rfl (lv_at hl 0 rfl) ?_
  refine lv_bipush (v := (nI 8)) hx hb d_M_init_13 (by decide) ?_
  refine va_newa (atype := .int) (ty := .int) (a0 := (8, .inl (fun _ => 0))) hx hb (hts _ (ct_tl kw_60)) rfl hK hP hD hS hA (fun _ => rfl) (nI_pos (by omega)) (nI_clamp (by omega)) (by show 8 * 4 ≤ 536870912; omega) (Nat.le_of_ble_eq_true rfl) (Nat.le_of_ble_eq_true rfl) d_M_init_15 (fun o2 cA H hK9 hP hD hS => ?_)
  rw [ct_cA hK9] at hP hD
  have hP : va_P (dC, dI) ct_cl [(o0, .inr (4, [.int 0, .ref o1, .int 0, .null, .null, .int 0, .null, .int 0, .null, .null, .int 0, .null, .null, .null])), (o1, .inl (cI, 8, .inl (fun _ => 0))), (o2, .inl (cI, 8, .inl (fun _ => 0)))] H := hP
  have hD : va_D A [(o0, .inr (4, [.int 0, .ref o1, .int 0, .null, .null, .int 0, .null, .int 0, .null, .null, .int 0, .null, .null, .null])), (o1, .inl (cI, 8, .inl (fun _ => 0))), (o2, .inl (cI, 8, .inl (fun _ => 0)))] := hD
  refine va_putF (D := (dC, dI)) (ci := 4) (v := .ref o2) (ty := .array .int) (C := R_M) (T := T_M) (N := 14) hx hb hts (fun w h9 => ct_tl (ki_M w h9)) ty_M ok_M nm_M hown hK hP hD hS 0 rfl rfl 3 (by decide) (hts _ (ct_tl kw_522)) (fun _ h9 => h9) rfl hin rfl (by decide +kernel) rfl rfl (Nat.le_of_ble_eq_true rfl) d_M_init_17 (fun H locs hP hD hS => ?_)
  have hP : va_P (dC, dI) ct_cl [(o0, .inr (4, [.int 0, .ref o1, .int 0, .ref o2, .null, .int 0, .null, .int 0, .null, .null, .int 0, .null, .null, .null])), (o1, .inl (cI, 8, .inl (fun _ => 0))), (o2, .inl (cI, 8, .inl (fun _ => 0)))] H := hP
  have hD : va_D A [(o0, .inr (4, [.int 0, .ref o1, .int 0, .ref o2, .null, .int 0, .null, .int 0, .null, .null, .int 0, .null, .null, .null])), (o1, .inl (cI, 8, .inl (fun _ => 0))), (o2, .inl (cI, 8, .inl (fun _ => 0)))] := hD
  refine lv_aload_n hx hb d_M_init_20 rfl (lv_at hl 0 rfl) ?_
  refine lv_sipush (v := (nI 216)) hx hb d_M_init_21 (by decide) ?_
  refine va_newa (atype := .int) (ty := .int) (a0 := (216, .inl (fun _ => 0))) hx hb (hts _ (ct_tl kw_60)) rfl hK hP hD hS hA (fun _ => rfl) (nI_pos (by omega)) (nI_clamp (by omega)) (by show 216 * 4 ≤ 536870912; omega) (Nat.le_of_ble_eq_true rfl) (Nat.le_of_ble_eq_true rfl) d_M_init_24 (fun o3 cA H hK9 hP hD hS => ?_)
  rw [ct_cA hK9] at hP hD
  have hP : va_P (dC, dI) ct_cl [(o0, .inr (4, [.int 0, .ref o1, .int 0, .ref o2, .null, .int 0, .null, .int 0, .null, .null, .int 0, .null, .null, .null])), (o1, .inl (cI, 8, .inl (fun _ => 0))), (o2, .inl (cI, 8, .inl (fun _ => 0))), (o3, .inl (cI, 216, .inl (fun _ => 0)))] H := hP
  have hD : va_D A [(o0, .inr (4, [.int 0, .ref o1, .int 0, .ref o2, .null, .int 0, .null, .int 0, .null, .null, .int 0, .null, .null, .null])), (o1, .inl (cI, 8, .inl (fun _ => 0))), (o2, .inl (cI, 8, .inl (fun _ => 0))), (o3, .inl (cI, 216, .inl (fun _ => 0)))] := hD
  refine va_putF (D := (dC, dI)) (ci := 4) (v := .ref o3) (ty := .array .int) (C := R_M) (T := T_M) (N := 14) hx hb hts (fun w h9 => ct_tl (ki_M w h9)) ty_M ok_M nm_M hown hK hP hD hS 0 rfl rfl 4 (by decide) (hts _ (ct_tl kw_523)) (fun _ h9 => h9) rfl hin rfl (by decide +kernel) rfl rfl (Nat.le_of_ble_eq_true rfl) d_M_init_26 (fun H locs hP hD hS => ?_)
  have hP : va_P (dC, dI) ct_cl [(o0, .inr (4, [.int 0, .ref o1, .int 0, .ref o2, .ref o3, .int 0, .null, .int 0, .null, .null, .int 0, .null, .null, .null])), (o1, .inl (cI, 8, .inl (fun _ => 0))), (o2, .inl (cI, 8, .inl (fun _ => 0))), (o3, .inl (cI, 216, .inl (fun _ => 0)))] H := hP
  have hD : va_D A [(o0, .inr (4, [.int 0, .ref o1, .int 0, .ref o2, .ref o3, .int 0, .null, .int 0, .null, .null, .int 0, .null, .null, .null])), (o1, .inl (cI, 8, .inl (fun _ => 0))), (o2, .inl (cI, 8, .inl (fun _ => 0))), (o3, .inl (cI, 216, .inl (fun _ => 0)))] := hD
  refine lv_aload_n hx hb d_M_init_29 rfl (lv_at hl 0 rfl) ?_
  refine lv_bipush (v := (nI 6)) hx hb d_M_init_30 (by decide) ?_
  refine va_newa (atype := .int) (ty := .int) (a0 := (6, .inl (fun _ => 0))) hx hb (hts _ (ct_tl kw_60)) rfl hK hP hD hS hA (fun _ => rfl) (nI_pos (by omega)) (nI_clamp (by omega)) (by show 6 * 4 ≤ 536870912; omega) (Nat.le_of_ble_eq_true rfl) (Nat.le_of_ble_eq_true rfl) d_M_init_32 (fun o4 cA H hK9 hP hD hS => ?_)
  rw [ct_cA hK9] at hP hD
  have hP : va_P (dC, dI) ct_cl [(o0, .inr (4, [.int 0, .ref o1, .int 0, .ref o2, .ref o3, .int 0, .null, .int 0, .null, .null, .int 0, .null, .null, .null])), (o1, .inl (cI, 8, .inl (fun _ => 0))), (o2, .inl (cI, 8, .inl (fun _ => 0))), (o3, .inl (cI, 216, .inl (fun _ => 0))), (o4, .inl (cI, 6, .inl (fun _ => 0)))] H := hP
  have hD : va_D A [(o0, .inr (4, [.int 0, .ref o1, .int 0, .ref o2, .ref o3, .int 0, .null, .int 0, .null, .null, .int 0, .null, .null, .null])), (o1, .inl (cI, 8, .inl (fun _ => 0))), (o2, .inl (cI, 8, .inl (fun _ => 0))), (o3, .inl (cI, 216, .inl (fun _ => 0))), (o4, .inl (cI, 6, .inl (fun _ => 0)))] := hD
  refine va_putF (D := (dC, dI)) (ci := 4) (v := .ref o4) (ty := .array .int) (C := R_M) (T := T_M) (N := 14) hx hb hts (fun w h9 => ct_tl (ki_M w h9)) ty_M ok_M nm_M hown hK hP hD hS 0 rfl rfl 6 (by decide) (hts _ (ct_tl kw_525)) (fun _ h9 => h9) rfl hin rfl (by decide +kernel) rfl rfl (Nat.le_of_ble_eq_true rfl) d_M_init_34 (fun H locs hP hD hS => ?_)
  have hP : va_P (dC, dI) ct_cl [(o0, .inr (4, [.int 0, .ref o1, .int 0, .ref o2, .ref o3, .int 0, .ref o4, .int 0, .null, .null, .int 0, .null, .null, .null])), (o1, .inl (cI, 8, .inl (fun _ => 0))), (o2, .inl (cI, 8, .inl (fun _ => 0))), (o3, .inl (cI, 216, .inl (fun _ => 0))), (o4, .inl (cI, 6, .inl (fun _ => 0)))] H := hP
  have hD : va_D A [(o0, .inr (4, [.int 0, .ref o1, .int 0, .ref o2, .ref o3, .int 0, .ref o4, .int 0, .null, .null, .int 0, .null, .null, .null])), (o1, .inl (cI, 8, .inl (fun _ => 0))), (o2, .inl (cI, 8, .inl (fun _ => 0))), (o3, .inl (cI, 216, .inl (fun _ => 0))), (o4, .inl (cI, 6, .inl (fun _ => 0)))] := hD
  refine lv_aload_n hx hb d_M_init_37 rfl (lv_at hl 0 rfl) ?_
  refine lv_bipush (v := (nI 64)) hx hb d_M_init_38 (by decide) ?_
  refine va_newa (atype := .int) (ty := .int) (a0 := (64, .inl (fun _ => 0))) hx hb (hts _ (ct_tl kw_60)) rfl hK hP hD hS hA (fun _ => rfl) (nI_pos (by omega)) (nI_clamp (by omega)) (by show 64 * 4 ≤ 536870912; omega) (Nat.le_of_ble_eq_true rfl) (Nat.le_of_ble_eq_true rfl) d_M_init_40 (fun o5 cA H hK9 hP hD hS => ?_)
  rw [ct_cA hK9] at hP hD
  have hP : va_P (dC, dI) ct_cl [(o0, .inr (4, [.int 0, .ref o1, .int 0, .ref o2, .ref o3, .int 0, .ref o4, .int 0, .null, .null, .int 0, .null, .null, .null])), (o1, .inl (cI, 8, .inl (fun _ => 0))), (o2, .inl (cI, 8, .inl (fun _ => 0))), (o3, .inl (cI, 216, .inl (fun _ => 0))), (o4, .inl (cI, 6, .inl (fun _ => 0))), (o5, .inl (cI, 64, .inl (fun _ => 0)))] H := hP
  have hD : va_D A [(o0, .inr (4, [.int 0, .ref o1, .int 0, .ref o2, .ref o3, .int 0, .ref o4, .int 0, .null, .null, .int 0, .null, .null, .null])), (o1, .inl (cI, 8, .inl (fun _ => 0))), (o2, .inl (cI, 8, .inl (fun _ => 0))), (o3, .inl (cI, 216, .inl (fun _ => 0))), (o4, .inl (cI, 6, .inl (fun _ => 0))), (o5, .inl (cI, 64, .inl (fun _ => 0)))] := hD
  refine va_putF (D := (dC, dI)) (ci := 4) (v := .ref o5) (ty := .array .int) (C := R_M) (T := T_M) (N := 14) hx hb hts (fun w h9 => ct_tl (ki_M w h9)) ty_M ok_M nm_M hown hK hP hD hS 0 rfl rfl 8 (by decide) (hts _ (ct_tl kw_527)) (fun _ h9 => h9) rfl hin rfl (by decide +kernel) rfl rfl (Nat.le_of_ble_eq_true rfl) d_M_init_42 (fun H locs hP hD hS => ?_)
  have hP : va_P (dC, dI) ct_cl [(o0, .inr (4, [.int 0, .ref o1, .int 0, .ref o2, .ref o3, .int 0, .ref o4, .int 0, .ref o5, .null, .int 0, .null, .null, .null])), (o1, .inl (cI, 8, .inl (fun _ => 0))), (o2, .inl (cI, 8, .inl (fun _ => 0))), (o3, .inl (cI, 216, .inl (fun _ => 0))), (o4, .inl (cI, 6, .inl (fun _ => 0))), (o5, .inl (cI, 64, .inl (fun _ => 0)))] H := hP
  have hD : va_D A [(o0, .inr (4, [.int 0, .ref o1, .int 0, .ref o2, .ref o3, .int 0, .ref o4, .int 0, .ref o5, .null, .int 0, .null, .null, .null])), (o1, .inl (cI, 8, .inl (fun _ => 0))), (o2, .inl (cI, 8, .inl (fun _ => 0))), (o3, .inl (cI, 216, .inl (fun _ => 0))), (o4, .inl (cI, 6, .inl (fun _ => 0))), (o5, .inl (cI, 64, .inl (fun _ => 0)))] := hD
  refine lv_aload_n hx hb d_M_init_45 rfl (lv_at hl 0 rfl) ?_
  refine lv_bipush (v := (nI 64)) hx hb d_M_init_46 (by decide) ?_
  refine va_newa (atype := .int) (ty := .int) (a0 := (64, .inl (fun _ => 0))) hx hb (hts _ (ct_tl kw_60)) rfl hK hP hD hS hA (fun _ => rfl) (nI_pos (by omega)) (nI_clamp (by omega)) (by show 64 * 4 ≤ 536870912; omega) (Nat.le_of_ble_eq_true rfl) (Nat.le_of_ble_eq_true rfl) d_M_init_48 (fun o6 cA H hK9 hP hD hS => ?_)
  rw [ct_cA hK9] at hP hD
  have hP : va_P (dC, dI) ct_cl [(o0, .inr (4, [.int 0, .ref o1, .int 0, .ref o2, .ref o3, .int 0, .ref o4, .int 0, .ref o5, .null, .int 0, .null, .null, .null])), (o1, .inl (cI, 8, .inl (fun _ => 0))), (o2, .inl (cI, 8, .inl (fun _ => 0))), (o3, .inl (cI, 216, .inl (fun _ => 0))), (o4, .inl (cI, 6, .inl (fun _ => 0))), (o5, .inl (cI, 64, .inl (fun _ => 0))), (o6, .inl (cI, 64, .inl (fun _ => 0)))] H := hP
  have hD : va_D A [(o0, .inr (4, [.int 0, .ref o1, .int 0, .ref o2, .ref o3, .int 0, .ref o4, .int 0, .ref o5, .null, .int 0, .null, .null, .null])), (o1, .inl (cI, 8, .inl (fun _ => 0))), (o2, .inl (cI, 8, .inl (fun _ => 0))), (o3, .inl (cI, 216, .inl (fun _ => 0))), (o4, .inl (cI, 6, .inl (fun _ => 0))), (o5, .inl (cI, 64, .inl (fun _ => 0))), (o6, .inl (cI, 64, .inl (fun _ => 0)))] := hD
  refine va_putF (D := (dC, dI)) (ci := 4) (v := .ref o6) (ty := .array .int) (C := R_M) (T := T_M) (N := 14) hx hb hts (fun w h9 => ct_tl (ki_M w h9)) ty_M ok_M nm_M hown hK hP hD hS 0 rfl rfl 9 (by decide) (hts _ (ct_tl kw_528)) (fun _ h9 => h9) rfl hin rfl (by decide +kernel) rfl rfl (Nat.le_of_ble_eq_true rfl) d_M_init_50 (fun H locs hP hD hS => ?_)
  have hP : va_P (dC, dI) ct_cl [(o0, .inr (4, [.int 0, .ref o1, .int 0, .ref o2, .ref o3, .int 0, .ref o4, .int 0, .ref o5, .ref o6, .int 0, .null, .null, .null])), (o1, .inl (cI, 8, .inl (fun _ => 0))), (o2, .inl (cI, 8, .inl (fun _ => 0))), (o3, .inl (cI, 216, .inl (fun _ => 0))), (o4, .inl (cI, 6, .inl (fun _ => 0))), (o5, .inl (cI, 64, .inl (fun _ => 0))), (o6, .inl (cI, 64, .inl (fun _ => 0)))] H := hP
  have hD : va_D A [(o0, .inr (4, [.int 0, .ref o1, .int 0, .ref o2, .ref o3, .int 0, .ref o4, .int 0, .ref o5, .ref o6, .int 0, .null, .null, .null])), (o1, .inl (cI, 8, .inl (fun _ => 0))), (o2, .inl (cI, 8, .inl (fun _ => 0))), (o3, .inl (cI, 216, .inl (fun _ => 0))), (o4, .inl (cI, 6, .inl (fun _ => 0))), (o5, .inl (cI, 64, .inl (fun _ => 0))), (o6, .inl (cI, 64, .inl (fun _ => 0)))] := hD
  refine lv_aload_n hx hb d_M_init_53 rfl (lv_at hl 0 rfl) ?_
  refine lv_bipush (v := (nI 8)) hx hb d_M_init_54 (by decide) ?_
  refine va_newa (atype := .int) (ty := .int) (a0 := (8, .inl (fun _ => 0))) hx hb (hts _ (ct_tl kw_60)) rfl hK hP hD hS hA (fun _ => rfl) (nI_pos (by omega)) (nI_clamp (by omega)) (by show 8 * 4 ≤ 536870912; omega) (Nat.le_of_ble_eq_true rfl) (Nat.le_of_ble_eq_true rfl) d_M_init_56 (fun o7 cA H hK9 hP hD hS => ?_)
  rw [ct_cA hK9] at hP hD
  have hP : va_P (dC, dI) ct_cl [(o0, .inr (4, [.int 0, .ref o1, .int 0, .ref o2, .ref o3, .int 0, .ref o4, .int 0, .ref o5, .ref o6, .int 0, .null, .null, .null])), (o1, .inl (cI, 8, .inl (fun _ => 0))), (o2, .inl (cI, 8, .inl (fun _ => 0))), (o3, .inl (cI, 216, .inl (fun _ => 0))), (o4, .inl (cI, 6, .inl (fun _ => 0))), (o5, .inl (cI, 64, .inl (fun _ => 0))), (o6, .inl (cI, 64, .inl (fun _ => 0))), (o7, .inl (cI, 8, .inl (fun _ => 0)))] H := hP
  have hD : va_D A [(o0, .inr (4, [.int 0, .ref o1, .int 0, .ref o2, .ref o3, .int 0, .ref o4, .int 0, .ref o5, .ref o6, .int 0, .null, .null, .null])), (o1, .inl (cI, 8, .inl (fun _ => 0))), (o2, .inl (cI, 8, .inl (fun _ => 0))), (o3, .inl (cI, 216, .inl (fun _ => 0))), (o4, .inl (cI, 6, .inl (fun _ => 0))), (o5, .inl (cI, 64, .inl (fun _ => 0))), (o6, .inl (cI, 64, .inl (fun _ => 0))), (o7, .inl (cI, 8, .inl (fun _ => 0)))] := hD
  refine va_putF (D := (dC, dI)) (ci := 4) (v := .ref o7) (ty := .array .int) (C := R_M) (T := T_M) (N := 14) hx hb hts (fun w h9 => ct_tl (ki_M w h9)) ty_M ok_M nm_M hown hK hP hD hS 0 rfl rfl 11 (by decide) (hts _ (ct_tl kw_530)) (fun _ h9 => h9) rfl hin rfl (by decide +kernel) rfl rfl (Nat.le_of_ble_eq_true rfl) d_M_init_58 (fun H locs hP hD hS => ?_)
  have hP : va_P (dC, dI) ct_cl [(o0, .inr (4, [.int 0, .ref o1, .int 0, .ref o2, .ref o3, .int 0, .ref o4, .int 0, .ref o5, .ref o6, .int 0, .ref o7, .null, .null])), (o1, .inl (cI, 8, .inl (fun _ => 0))), (o2, .inl (cI, 8, .inl (fun _ => 0))), (o3, .inl (cI, 216, .inl (fun _ => 0))), (o4, .inl (cI, 6, .inl (fun _ => 0))), (o5, .inl (cI, 64, .inl (fun _ => 0))), (o6, .inl (cI, 64, .inl (fun _ => 0))), (o7, .inl (cI, 8, .inl (fun _ => 0)))] H := hP
  have hD : va_D A [(o0, .inr (4, [.int 0, .ref o1, .int 0, .ref o2, .ref o3, .int 0, .ref o4, .int 0, .ref o5, .ref o6, .int 0, .ref o7, .null, .null])), (o1, .inl (cI, 8, .inl (fun _ => 0))), (o2, .inl (cI, 8, .inl (fun _ => 0))), (o3, .inl (cI, 216, .inl (fun _ => 0))), (o4, .inl (cI, 6, .inl (fun _ => 0))), (o5, .inl (cI, 64, .inl (fun _ => 0))), (o6, .inl (cI, 64, .inl (fun _ => 0))), (o7, .inl (cI, 8, .inl (fun _ => 0)))] := hD
  refine lv_aload_n hx hb d_M_init_61 rfl (lv_at hl 0 rfl) ?_
  refine lv_bipush (v := (nI 64)) hx hb d_M_init_62 (by decide) ?_
  refine va_newa (atype := .int) (ty := .int) (a0 := (64, .inl (fun _ => 0))) hx hb (hts _ (ct_tl kw_60)) rfl hK hP hD hS hA (fun _ => rfl) (nI_pos (by omega)) (nI_clamp (by omega)) (by show 64 * 4 ≤ 536870912; omega) (Nat.le_of_ble_eq_true rfl) (Nat.le_of_ble_eq_true rfl) d_M_init_64 (fun o8 cA H hK9 hP hD hS => ?_)
  rw [ct_cA hK9] at hP hD
  have hP : va_P (dC, dI) ct_cl [(o0, .inr (4, [.int 0, .ref o1, .int 0, .ref o2, .ref o3, .int 0, .ref o4, .int 0, .ref o5, .ref o6, .int 0, .ref o7, .null, .null])), (o1, .inl (cI, 8, .inl (fun _ => 0))), (o2, .inl (cI, 8, .inl (fun _ => 0))), (o3, .inl (cI, 216, .inl (fun _ => 0))), (o4, .inl (cI, 6, .inl (fun _ => 0))), (o5, .inl (cI, 64, .inl (fun _ => 0))), (o6, .inl (cI, 64, .inl (fun _ => 0))), (o7, .inl (cI, 8, .inl (fun _ => 0))), (o8, .inl (cI, 64, .inl (fun _ => 0)))] H := hP
  have hD : va_D A [(o0, .inr (4, [.int 0, .ref o1, .int 0, .ref o2, .ref o3, .int 0, .ref o4, .int 0, .ref o5, .ref o6, .int 0, .ref o7, .null, .null])), (o1, .inl (cI, 8, .inl (fun _ => 0))), (o2, .inl (cI, 8, .inl (fun _ => 0))), (o3, .inl (cI, 216, .inl (fun _ => 0))), (o4, .inl (cI, 6, .inl (fun _ => 0))), (o5, .inl (cI, 64, .inl (fun _ => 0))), (o6, .inl (cI, 64, .inl (fun _ => 0))), (o7, .inl (cI, 8, .inl (fun _ => 0))), (o8, .inl (cI, 64, .inl (fun _ => 0)))] := hD
  refine va_putF (D := (dC, dI)) (ci := 4) (v := .ref o8) (ty := .array .int) (C := R_M) (T := T_M) (N := 14) hx hb hts (fun w h9 => ct_tl (ki_M w h9)) ty_M ok_M nm_M hown hK hP hD hS 0 rfl rfl 12 (by decide) (hts _ (ct_tl kw_531)) (fun _ h9 => h9) rfl hin rfl (by decide +kernel) rfl rfl (Nat.le_of_ble_eq_true rfl) d_M_init_66 (fun H locs hP hD hS => ?_)
  have hP : va_P (dC, dI) ct_cl [(o0, .inr (4, [.int 0, .ref o1, .int 0, .ref o2, .ref o3, .int 0, .ref o4, .int 0, .ref o5, .ref o6, .int 0, .ref o7, .ref o8, .null])), (o1, .inl (cI, 8, .inl (fun _ => 0))), (o2, .inl (cI, 8, .inl (fun _ => 0))), (o3, .inl (cI, 216, .inl (fun _ => 0))), (o4, .inl (cI, 6, .inl (fun _ => 0))), (o5, .inl (cI, 64, .inl (fun _ => 0))), (o6, .inl (cI, 64, .inl (fun _ => 0))), (o7, .inl (cI, 8, .inl (fun _ => 0))), (o8, .inl (cI, 64, .inl (fun _ => 0)))] H := hP
  have hD : va_D A [(o0, .inr (4, [.int 0, .ref o1, .int 0, .ref o2, .ref o3, .int 0, .ref o4, .int 0, .ref o5, .ref o6, .int 0, .ref o7, .ref o8, .null])), (o1, .inl (cI, 8, .inl (fun _ => 0))), (o2, .inl (cI, 8, .inl (fun _ => 0))), (o3, .inl (cI, 216, .inl (fun _ => 0))), (o4, .inl (cI, 6, .inl (fun _ => 0))), (o5, .inl (cI, 64, .inl (fun _ => 0))), (o6, .inl (cI, 64, .inl (fun _ => 0))), (o7, .inl (cI, 8, .inl (fun _ => 0))), (o8, .inl (cI, 64, .inl (fun _ => 0)))] := hD
  refine lv_aload_n hx hb d_M_init_69 rfl (lv_at hl 0 rfl) ?_
  refine lv_bipush (v := (nI 8)) hx hb d_M_init_70 (by decide) ?_
  refine va_newa (atype := .int) (ty := .int) (a0 := (8, .inl (fun _ => 0))) hx hb (hts _ (ct_tl kw_60)) rfl hK hP hD hS hA (fun _ => rfl) (nI_pos (by omega)) (nI_clamp (by omega)) (by show 8 * 4 ≤ 536870912; omega) (Nat.le_of_ble_eq_true rfl) (Nat.le_of_ble_eq_true rfl) d_M_init_72 (fun o9 cA H hK9 hP hD hS => ?_)
  rw [ct_cA hK9] at hP hD
  have hP : va_P (dC, dI) ct_cl [(o0, .inr (4, [.int 0, .ref o1, .int 0, .ref o2, .ref o3, .int 0, .ref o4, .int 0, .ref o5, .ref o6, .int 0, .ref o7, .ref o8, .null])), (o1, .inl (cI, 8, .inl (fun _ => 0))), (o2, .inl (cI, 8, .inl (fun _ => 0))), (o3, .inl (cI, 216, .inl (fun _ => 0))), (o4, .inl (cI, 6, .inl (fun _ => 0))), (o5, .inl (cI, 64, .inl (fun _ => 0))), (o6, .inl (cI, 64, .inl (fun _ => 0))), (o7, .inl (cI, 8, .inl (fun _ => 0))), (o8, .inl (cI, 64, .inl (fun _ => 0))), (o9, .inl (cI, 8, .inl (fun _ => 0)))] H := hP
  have hD : va_D A [(o0, .inr (4, [.int 0, .ref o1, .int 0, .ref o2, .ref o3, .int 0, .ref o4, .int 0, .ref o5, .ref o6, .int 0, .ref o7, .ref o8, .null])), (o1, .inl (cI, 8, .inl (fun _ => 0))), (o2, .inl (cI, 8, .inl (fun _ => 0))), (o3, .inl (cI, 216, .inl (fun _ => 0))), (o4, .inl (cI, 6, .inl (fun _ => 0))), (o5, .inl (cI, 64, .inl (fun _ => 0))), (o6, .inl (cI, 64, .inl (fun _ => 0))), (o7, .inl (cI, 8, .inl (fun _ => 0))), (o8, .inl (cI, 64, .inl (fun _ => 0))), (o9, .inl (cI, 8, .inl (fun _ => 0)))] := hD
  refine va_putF (D := (dC, dI)) (ci := 4) (v := .ref o9) (ty := .array .int) (C := R_M) (T := T_M) (N := 14) hx hb hts (fun w h9 => ct_tl (ki_M w h9)) ty_M ok_M nm_M hown hK hP hD hS 0 rfl rfl 13 (by decide) (hts _ (ct_tl kw_532)) (fun _ h9 => h9) rfl hin rfl (by decide +kernel) rfl rfl (Nat.le_of_ble_eq_true rfl) d_M_init_74 (fun H locs hP hD hS => ?_)
  have hP : va_P (dC, dI) ct_cl [(o0, .inr (4, [.int 0, .ref o1, .int 0, .ref o2, .ref o3, .int 0, .ref o4, .int 0, .ref o5, .ref o6, .int 0, .ref o7, .ref o8, .ref o9])), (o1, .inl (cI, 8, .inl (fun _ => 0))), (o2, .inl (cI, 8, .inl (fun _ => 0))), (o3, .inl (cI, 216, .inl (fun _ => 0))), (o4, .inl (cI, 6, .inl (fun _ => 0))), (o5, .inl (cI, 64, .inl (fun _ => 0))), (o6, .inl (cI, 64, .inl (fun _ => 0))), (o7, .inl (cI, 8, .inl (fun _ => 0))), (o8, .inl (cI, 64, .inl (fun _ => 0))), (o9, .inl (cI, 8, .inl (fun _ => 0)))] H := hP
  have hD : va_D A [(o0, .inr (4, [.int 0, .ref o1, .int 0, .ref o2, .ref o3, .int 0, .ref o4, .int 0, .ref o5, .ref o6, .int 0, .ref o7, .ref o8, .ref o9])), (o1, .inl (cI, 8, .inl (fun _ => 0))), (o2, .inl (cI, 8, .inl (fun _ => 0))), (o3, .inl (cI, 216, .inl (fun _ => 0))), (o4, .inl (cI, 6, .inl (fun _ => 0))), (o5, .inl (cI, 64, .inl (fun _ => 0))), (o6, .inl (cI, 64, .inl (fun _ => 0))), (o7, .inl (cI, 8, .inl (fun _ => 0))), (o8, .inl (cI, 64, .inl (fun _ => 0))), (o9, .inl (cI, 8, .inl (fun _ => 0)))] := hD
  refine lv_iconst (v := (nI 0)) hx hb d_M_init_77 (by decide) ?_
  refine lv_istore_n (lv' := [(1, .int (nI 0)), (0, .ref o0)]) hx hb d_M_init_78 rfl hl (by decide) rfl (fun ls hl => ?_)
  exact loop 8 0 rfl o1 o2 o3 o4 o5 o6 o7 o8 o9 _ _ hP hD hS ls (lv_sub hl [1, 0] rfl)
theorem ct_nand_I : ∀ S, S < 64 → ∀ a, a < 64 → a &&& S = a → nI S &&& (nI a ^^^ (-1)) = nI (S ^^^ a) := by decide +kernel
/-- what the model's plan holds of the sets below n -/
def ct_mpl (B : Nat → Nat × Nat) (n : Nat) (gb gp : Nat → Int32) : Prop := ∀ S, 0 < S → S < n → gb S = nI (B S).1 ∧ gp S = nI (B S).2
theorem ct_mpl_upd {B : Nat → Nat × Nat} {n : Nat} {gb gp : Nat → Int32} {x y : Int32} (h : ct_mpl B n gb gp) : ct_mpl B n (upd gb n x) (upd gp n y) := fun S h0 hS => by rw [pk_un (by omega), pk_un (by omega)]; exact h S h0 hS
theorem ct_mpl_up {B : Nat → Nat × Nat} {n : Nat} {gb gp : Nat → Int32} (h : ct_mpl B n gb gp) (h1 : gb n = nI (B n).1) (h2 : gp n = nI (B n).2) : ct_mpl B (n + 1) gb gp := fun S h0 hS => by
  by_cases hn : S = n
  · rw [hn]; exact ⟨h1, h2⟩
  · exact h S h0 (by omega)
theorem ct_sc_1 {cost : Nat → Nat} {S : Nat} : ct_sc cost S 1 = (0, 0) := ct_sc_no (by simp [ct_pt])
/-- the cost of a set's parts -/
def ct_cst (jc : Nat → Nat → Nat) (S a : Nat) : Nat := (ct_B jc a).1 + (ct_B jc (S ^^^ a)).1 + jc a (S ^^^ a)
theorem ct_cst_lt {jc : Nat → Nat → Nat} (hj : ∀ a b, jc a b ≤ 6561) {S a : Nat} (hS : S < 64) (ha : a < S) (hp : ct_pt S a = true) : ct_cst jc S a < 2 ^ 31 := by
  have hc := ct_pt_co S hS a ha hp
  have h1 := ct_B_le hj 64 a (by omega) (by omega) (ct_pt_pos hp)
  have h2 := ct_B_le hj 64 (S ^^^ a) (by omega) (by omega) hc.1
  have h3 := hj a (S ^^^ a)
  unfold ct_cst
  omega
theorem ct_sc_lt {jc : Nat → Nat → Nat} (hj : ∀ a b, jc a b ≤ 6561) {S : Nat} (hS : S < 64) (n : Nat) (hn : n ≤ S) : (ct_sc (ct_cst jc S) S n).1 < 2 ^ 31 ∧ (ct_sc (ct_cst jc S) S n).2 < 64 := by
  rcases ct_sc_is (cost := ct_cst jc S) (S := S) n with h9 | ⟨h7, h8, h9⟩
  · rw [h9]; exact ⟨by omega, by omega⟩
  · rw [h9]; exact ⟨ct_cst_lt hj hS (by omega) h8, by omega⟩
set_option maxHeartbeats 4000000 in
set_option maxRecDepth 100000 in
theorem c_M_plan (l : Launch) (dC : Nat → ClassId) (dI : Nat → Nat → Nat) (cI : ClassId) (o0 o1 o2 o3 o4 o5 o6 o7 o8 o9 : Nat) (thr tab : Int32) (K : Nat) (R : Nat) (stp : Int32) (fl fo : Nat → Int32) (la ot : Nat → Nat) (hK6 : K ≤ 6) (hfo : ∀ o, o < K → fo o = nI (ot o) ∧ ot o < 8) (hfl : ∀ o, o < K → fl (ot o) = nI (la o)) (sz : Nat → Nat) (hla : ∀ k, k < K → la k < 256) (hsz : ∀ k, k < 8 → sz k ≤ 3) (fb fp : Nat → Int32) (sz0 : Nat) : Met l y_M_plan w_M_plan ({ frames := 3, cells := 0, slots := 0, locals := 68 }) (va_Pc [.ref o0] (ct_rw (dC, dI) ct_cl [(o0, .inr (4, [.int thr, .ref o1, .int tab, .ref o2, .ref o3, .int (nI K), .ref o4, .int (nI R), .ref o5, .ref o6, .int stp, .ref o7, .ref o8, .ref o9])), (o2, .inl (cI, 8, .inl fl)), (o4, .inl (cI, 6, .inl fo)), (o1, .inl (cI, 8, .inl (fun j => nI (sz j)))), (o5, .inl (cI, 64, .inl fb)), (o6, .inl (cI, 64, .inl fp))] [(cI, .int)] sz0)) (va_Qv (fun (u : (Nat → Int32) × (Nat → Int32)) => ct_mpl (ct_B (ct_jc sz la K R)) (2 ^ K) u.1 u.2) (fun (u : (Nat → Int32) × (Nat → Int32)) t => ct_at (dC, dI) ct_cl [(cI, .int)] (va_A [(o0, .inr (4, [.int thr, .ref o1, .int tab, .ref o2, .ref o3, .int (nI K), .ref o4, .int (nI R), .ref o5, .ref o6, .int stp, .ref o7, .ref o8, .ref o9])), (o2, .inl (cI, 8, .inl fl)), (o4, .inl (cI, 6, .inl fo)), (o1, .inl (cI, 8, .inl (fun j => nI (sz j)))), (o5, .inl (cI, 64, .inl fb)), (o6, .inl (cI, 64, .inl fp))] sz0) [(o0, .inr (4, [.int thr, .ref o1, .int tab, .ref o2, .ref o3, .int (nI K), .ref o4, .int (nI R), .ref o5, .ref o6, .int stp, .ref o7, .ref o8, .ref o9])), (o2, .inl (cI, 8, .inl fl)), (o4, .inl (cI, 6, .inl fo)), (o1, .inl (cI, 8, .inl (fun j => nI (sz j)))), (o5, .inl (cI, 64, .inl (u.1))), (o6, .inl (cI, 64, .inl (u.2)))] t) (va_A [(o0, .inr (4, [.int thr, .ref o1, .int tab, .ref o2, .ref o3, .int (nI K), .ref o4, .int (nI R), .ref o5, .ref o6, .int stp, .ref o7, .ref o8, .ref o9])), (o2, .inl (cI, 8, .inl fl)), (o4, .inl (cI, 6, .inl fo)), (o1, .inl (cI, 8, .inl (fun j => nI (sz j)))), (o5, .inl (cI, 64, .inl fb)), (o6, .inl (cI, 64, .inl fp))] sz0)) 0 0 (va_A [(o0, .inr (4, [.int thr, .ref o1, .int tab, .ref o2, .ref o3, .int (nI K), .ref o4, .int (nI R), .ref o5, .ref o6, .int stp, .ref o7, .ref o8, .ref o9])), (o2, .inl (cI, 8, .inl fl)), (o4, .inl (cI, 6, .inl fo)), (o1, .inl (cI, 8, .inl (fun j => nI (sz j)))), (o5, .inl (cI, 64, .inl fb)), (o6, .inl (cI, 64, .inl fp))] sz0) := by
  refine Met.ofW (cc := b_M_plan) (maxL := 9) (ret := none) (by decide) rfl ?_
  intro p e s m args below meth c s₁ Bd hml hv
  obtain ⟨hargs, hsz, hP, hK, hD0⟩ := hv
  have hx := Bd.exec
  have hb := Bd.bytes
  have hr := Bd.returns
  have hts : ∀ w ∈ k_M_plan :: ct_tb, w.before args s = true := atoms_spec (ws := w_M_plan) Bd.pre
  have hown : s.vm.findClass R_M = some m.cls := findClass_of_methodNamed Bd.named
  have hlocks := Bd.notSynchronized
  subst hsz
  have hD := hD0.self (sz := s.heap.size)
  generalize hAe : va_A [(o0, .inr (4, [.int thr, .ref o1, .int tab, .ref o2, .ref o3, .int (nI K), .ref o4, .int (nI R), .ref o5, .ref o6, .int stp, .ref o7, .ref o8, .ref o9])), (o2, .inl (cI, 8, .inl fl)), (o4, .inl (cI, 6, .inl fo)), (o1, .inl (cI, 8, .inl (fun j => nI (sz j)))), (o5, .inl (cI, 64, .inl fb)), (o6, .inl (cI, 64, .inl fp))] s.heap.size = A at hD ⊢
  have hA : ∀ q : Nat, s.heap.size ≤ q → A q := fun q h => by rw [← hAe]; exact Or.inr h
  have hS : va_S A s.heap s.heap [] := va_S.rf
  have hl := lv_entry ([.ref o0]) (n := 9) (Nat.le_of_ble_eq_true rfl)
  rw [show entryFrame m args 9 = entryFrame m (([.ref o0] : List Value)).toArray 9 by rw [hargs], lg_entry_eq]
  generalize (lg_sl ([.ref o0]) ++ List.replicate (9 - (lg_sl ([.ref o0])).length) Slot.unset).toArray = ls at hl ⊢
  have hl : lv_has ls 9 [(0, .ref o0)] := hl
  have h2K := ct_2K K (by omega)
  have hjc := ct_jc_le (sz := sz) (la := la) (K := K) (R := R) hsz
  have loop : ∀ (n S : Nat), S + n = 2 ^ K → 0 < S → ∀ (gb gp : Nat → Int32), ct_mpl (ct_B (ct_jc sz la K R)) S gb gp → ∀ (H : Heap) (locs : List Loc), va_P (dC, dI) ct_cl [(o0, .inr (4, [.int thr, .ref o1, .int tab, .ref o2, .ref o3, .int (nI K), .ref o4, .int (nI R), .ref o5, .ref o6, .int stp, .ref o7, .ref o8, .ref o9])), (o2, .inl (cI, 8, .inl fl)), (o4, .inl (cI, 6, .inl fo)), (o1, .inl (cI, 8, .inl (fun j => nI (sz j)))), (o5, .inl (cI, 64, .inl gb)), (o6, .inl (cI, 64, .inl gp))] H → va_D A [(o0, .inr (4, [.int thr, .ref o1, .int tab, .ref o2, .ref o3, .int (nI K), .ref o4, .int (nI R), .ref o5, .ref o6, .int stp, .ref o7, .ref o8, .ref o9])), (o2, .inl (cI, 8, .inl fl)), (o4, .inl (cI, 6, .inl fo)), (o1, .inl (cI, 8, .inl (fun j => nI (sz j)))), (o5, .inl (cI, 64, .inl gb)), (o6, .inl (cI, 64, .inl gp))] → va_S A s.heap H locs → ∀ (ls : Array Slot), lv_has ls 9 [(0, .ref o0), (1, .int (nI S))] → W p l e (headSpec w_M_plan ({ frames := 3, cells := 0, slots := 0, locals := 68 } : Room)).room s m args below meth c H locs 0 0 (MQ below (va_Qv (fun (u : (Nat → Int32) × (Nat → Int32)) => ct_mpl (ct_B (ct_jc sz la K R)) (2 ^ K) u.1 u.2) (fun (u : (Nat → Int32) × (Nat → Int32)) t => ct_at (dC, dI) ct_cl [(cI, .int)] (A) [(o0, .inr (4, [.int thr, .ref o1, .int tab, .ref o2, .ref o3, .int (nI K), .ref o4, .int (nI R), .ref o5, .ref o6, .int stp, .ref o7, .ref o8, .ref o9])), (o2, .inl (cI, 8, .inl fl)), (o4, .inl (cI, 6, .inl fo)), (o1, .inl (cI, 8, .inl (fun j => nI (sz j)))), (o5, .inl (cI, 64, .inl (u.1))), (o6, .inl (cI, 64, .inl (u.2)))] t) (A)) args s 0 0 A) (F0 m 2 ls []) := by
    intro n
    induction n with
    | zero =>
      intro S hSn hS0 gb gp hm H locs hP hD hS ls hl
      refine lv_iload_n hx hb d_M_plan_2 rfl (lv_at hl 1 rfl) ?_
      refine lv_iconst (v := (nI 1)) hx hb d_M_plan_3 (by decide) ?_
      refine lv_aload_n hx hb d_M_plan_4 rfl (lv_at hl 0 rfl) ?_
      refine va_get (D := (dC, dI)) (ci := 4) (v := .int (nI K)) (C := R_M) (T := T_M) (N := 14) hx hb hts (fun w h9 => ct_tl (ki_M w h9)) hown hK hP 0 rfl rfl 5 (by decide) (hts _ (ct_tl kw_524)) (fun _ h9 => h9) rfl d_M_plan_5 ?_
      refine lv_ishl hx hb d_M_plan_8 ?_
      refine ct_val (y := nI (2 ^ K)) ((ct_shl 1 (by omega) (by omega)).trans (by rw [Nat.one_mul])) ?_
      refine lv_icmp_ge (tgt := 203) hx hb d_M_plan_9 (by decide) (fun _ => ?_) (fun hc9 => absurd (nI_le (by omega) (by omega)) hc9)
      have hP9 := hP.sub [0, 1, 2, 3, 4, 5] rfl
      exact W.vret hx hb hr (fun tS ht hW => ⟨⟨(gb, gp), rfl, fun T h0 h9 => hm T h0 (by omega), by rw [ht]; exact hP9, va_K.moved hW.alike hK, hD.sub [0, 1, 2, 3, 4, 5] (by decide) rfl⟩, hS.F ht⟩) hS.2.2 d_M_plan_203
    | succ n ih =>
      intro S hSn hS0 gb gp hm H locs hP hD hS ls hl
      refine lv_iload_n hx hb d_M_plan_2 rfl (lv_at hl 1 rfl) ?_
      refine lv_iconst (v := (nI 1)) hx hb d_M_plan_3 (by decide) ?_
      refine lv_aload_n hx hb d_M_plan_4 rfl (lv_at hl 0 rfl) ?_
      refine va_get (D := (dC, dI)) (ci := 4) (v := .int (nI K)) (C := R_M) (T := T_M) (N := 14) hx hb hts (fun w h9 => ct_tl (ki_M w h9)) hown hK hP 0 rfl rfl 5 (by decide) (hts _ (ct_tl kw_524)) (fun _ h9 => h9) rfl d_M_plan_5 ?_
      refine lv_ishl hx hb d_M_plan_8 ?_
      refine ct_val (y := nI (2 ^ K)) ((ct_shl 1 (by omega) (by omega)).trans (by rw [Nat.one_mul])) ?_
      refine lv_icmp_ge (tgt := 203) hx hb d_M_plan_9 (by decide) (fun hc9 => absurd hc9 (nI_ge (by omega) (by omega))) (fun _ => ?_)
      refine lv_aload_n hx hb d_M_plan_12 rfl (lv_at hl 0 rfl) ?_
      refine va_get (D := (dC, dI)) (ci := 4) (v := .ref o5) (C := R_M) (T := T_M) (N := 14) hx hb hts (fun w h9 => ct_tl (ki_M w h9)) hown hK hP 0 rfl rfl 8 (by decide) (hts _ (ct_tl kw_527)) (fun _ h9 => h9) rfl d_M_plan_13 ?_
      refine lv_iload_n hx hb d_M_plan_16 rfl (lv_at hl 1 rfl) ?_
      refine lv_iconst (v := (nI 0)) hx hb d_M_plan_17 (by decide) ?_
      refine ct_iast hx hb hK hP hD hS 4 0 rfl rfl (j := S) (by omega) (by omega) d_M_plan_18 (fun H locs hP hD hS => ?_)
      have hP : va_P (dC, dI) ct_cl [(o0, .inr (4, [.int thr, .ref o1, .int tab, .ref o2, .ref o3, .int (nI K), .ref o4, .int (nI R), .ref o5, .ref o6, .int stp, .ref o7, .ref o8, .ref o9])), (o2, .inl (cI, 8, .inl fl)), (o4, .inl (cI, 6, .inl fo)), (o1, .inl (cI, 8, .inl (fun j => nI (sz j)))), (o5, .inl (cI, 64, .inl (upd gb S (nI 0)))), (o6, .inl (cI, 64, .inl gp))] H := hP
      have hD : va_D A [(o0, .inr (4, [.int thr, .ref o1, .int tab, .ref o2, .ref o3, .int (nI K), .ref o4, .int (nI R), .ref o5, .ref o6, .int stp, .ref o7, .ref o8, .ref o9])), (o2, .inl (cI, 8, .inl fl)), (o4, .inl (cI, 6, .inl fo)), (o1, .inl (cI, 8, .inl (fun j => nI (sz j)))), (o5, .inl (cI, 64, .inl (upd gb S (nI 0)))), (o6, .inl (cI, 64, .inl gp))] := hD
      refine lv_aload_n hx hb d_M_plan_19 rfl (lv_at hl 0 rfl) ?_
      refine va_get (D := (dC, dI)) (ci := 4) (v := .ref o6) (C := R_M) (T := T_M) (N := 14) hx hb hts (fun w h9 => ct_tl (ki_M w h9)) hown hK hP 0 rfl rfl 9 (by decide) (hts _ (ct_tl kw_528)) (fun _ h9 => h9) rfl d_M_plan_20 ?_
      refine lv_iload_n hx hb d_M_plan_23 rfl (lv_at hl 1 rfl) ?_
      refine lv_iconst (v := (nI 0)) hx hb d_M_plan_24 (by decide) ?_
      refine ct_iast hx hb hK hP hD hS 5 0 rfl rfl (j := S) (by omega) (by omega) d_M_plan_25 (fun H locs hP hD hS => ?_)
      have hP : va_P (dC, dI) ct_cl [(o0, .inr (4, [.int thr, .ref o1, .int tab, .ref o2, .ref o3, .int (nI K), .ref o4, .int (nI R), .ref o5, .ref o6, .int stp, .ref o7, .ref o8, .ref o9])), (o2, .inl (cI, 8, .inl fl)), (o4, .inl (cI, 6, .inl fo)), (o1, .inl (cI, 8, .inl (fun j => nI (sz j)))), (o5, .inl (cI, 64, .inl (upd gb S (nI 0)))), (o6, .inl (cI, 64, .inl (upd gp S (nI 0))))] H := hP
      have hD : va_D A [(o0, .inr (4, [.int thr, .ref o1, .int tab, .ref o2, .ref o3, .int (nI K), .ref o4, .int (nI R), .ref o5, .ref o6, .int stp, .ref o7, .ref o8, .ref o9])), (o2, .inl (cI, 8, .inl fl)), (o4, .inl (cI, 6, .inl fo)), (o1, .inl (cI, 8, .inl (fun j => nI (sz j)))), (o5, .inl (cI, 64, .inl (upd gb S (nI 0)))), (o6, .inl (cI, 64, .inl (upd gp S (nI 0))))] := hD
      refine lv_iload_n hx hb d_M_plan_26 rfl (lv_at hl 1 rfl) ?_
      refine lv_iload_n hx hb d_M_plan_27 rfl (lv_at hl 1 rfl) ?_
      refine lv_iconst (v := (nI 1)) hx hb d_M_plan_28 (by decide) ?_
      refine lv_isub hx hb d_M_plan_29 ?_
      refine lv_iand hx hb d_M_plan_30 ?_
      refine lv_topi (fun v0 ev0 => ?_)
      rcases Bool.eq_false_or_eq_true (ct_sev S) with hs | hsf
      · refine lv_if_ne (tgt := 38) hx hb d_M_plan_31 (by decide) (fun _ => ?_) (fun hc9 => absurd hc9 (fun z => Bool.false_ne_true (((ct_sev_I S (by omega) hS0).mp (ev0 ▸ z)).symm.trans hs)))
        have hlow := ct_low64 S (by omega)
        refine lv_iconst (v := (nI 0)) hx hb d_M_plan_38 (by decide) ?_
        refine lv_istore_n (lv' := [(2, .int (nI 0)), (0, .ref o0), (1, .int (nI S))]) hx hb d_M_plan_39 rfl hl (by decide) rfl (fun ls hl => ?_)
        refine lv_iload_n hx hb d_M_plan_40 rfl (lv_at hl 2 rfl) ?_
        refine lv_iload_n hx hb d_M_plan_41 rfl (lv_at hl 2 rfl) ?_
        refine lv_ineg hx hb d_M_plan_42 ?_
        refine lv_iand hx hb d_M_plan_43 ?_
        refine ct_val (y := nI (ct_low S)) (ct_low_I S (by omega)) ?_
        have inner : ∀ (n2 a : Nat), a + n2 = S → 0 < a → ∀ (gb gp : Nat → Int32), ct_mpl (ct_B (ct_jc sz la K R)) S gb gp → gb S = nI (ct_sc (ct_cst (ct_jc sz la K R) S) S a).1 → gp S = nI (ct_sc (ct_cst (ct_jc sz la K R) S) S a).2 → ∀ (H : Heap) (locs : List Loc), va_P (dC, dI) ct_cl [(o0, .inr (4, [.int thr, .ref o1, .int tab, .ref o2, .ref o3, .int (nI K), .ref o4, .int (nI R), .ref o5, .ref o6, .int stp, .ref o7, .ref o8, .ref o9])), (o2, .inl (cI, 8, .inl fl)), (o4, .inl (cI, 6, .inl fo)), (o1, .inl (cI, 8, .inl (fun j => nI (sz j)))), (o5, .inl (cI, 64, .inl gb)), (o6, .inl (cI, 64, .inl gp))] H → va_D A [(o0, .inr (4, [.int thr, .ref o1, .int tab, .ref o2, .ref o3, .int (nI K), .ref o4, .int (nI R), .ref o5, .ref o6, .int stp, .ref o7, .ref o8, .ref o9])), (o2, .inl (cI, 8, .inl fl)), (o4, .inl (cI, 6, .inl fo)), (o1, .inl (cI, 8, .inl (fun j => nI (sz j)))), (o5, .inl (cI, 64, .inl gb)), (o6, .inl (cI, 64, .inl gp))] → va_S A s.heap H locs → ∀ (ls : Array Slot), lv_has ls 9 [(0, .ref o0), (1, .int (nI S)), (2, .int (nI 0)), (3, .int (nI (ct_low S))), (4, .int (nI a))] → W p l e (headSpec w_M_plan ({ frames := 3, cells := 0, slots := 0, locals := 68 } : Room)).room s m args below meth c H locs 0 0 (MQ below (va_Qv (fun (u : (Nat → Int32) × (Nat → Int32)) => ct_mpl (ct_B (ct_jc sz la K R)) (2 ^ K) u.1 u.2) (fun (u : (Nat → Int32) × (Nat → Int32)) t => ct_at (dC, dI) ct_cl [(cI, .int)] (A) [(o0, .inr (4, [.int thr, .ref o1, .int tab, .ref o2, .ref o3, .int (nI K), .ref o4, .int (nI R), .ref o5, .ref o6, .int stp, .ref o7, .ref o8, .ref o9])), (o2, .inl (cI, 8, .inl fl)), (o4, .inl (cI, 6, .inl fo)), (o1, .inl (cI, 8, .inl (fun j => nI (sz j)))), (o5, .inl (cI, 64, .inl (u.1))), (o6, .inl (cI, 64, .inl (u.2)))] t) (A)) args s 0 0 A) (F0 m 48 ls []) := by
          intro n2
          induction n2 with
          | zero =>
            intro a ha ha1 gb gp hm hb1 hp1 H locs hP hD hS ls hl
            refine lv_iload hx hb d_M_plan_48 (lv_at hl 4 rfl) ?_
            refine lv_iload_n hx hb d_M_plan_50 rfl (lv_at hl 1 rfl) ?_
            refine lv_icmp_ge (tgt := 197) hx hb d_M_plan_51 (by decide) (fun _ => ?_) (fun hc9 => absurd (nI_le (by omega) (by omega)) hc9)
            have haS : a = S := by omega
            rw [haS] at hl hb1 hp1
            refine lv_iinc (v := (nI (S + 1))) (lv' := [(1, .int (nI (S + 1))), (0, .ref o0), (2, .int (nI 0)), (3, .int (nI (ct_low S))), (4, .int (nI S))]) hx hb d_M_plan_197 hl (k := 1) rfl (nI_1 _) (by decide) rfl (fun ls hl => ?_)
            refine lv_goto (tgt := 2) hx hb d_M_plan_200 (by decide) ?_
            have eB : ct_B (ct_jc sz la K R) S = ct_sc (ct_cst (ct_jc sz la K R) S) S S := ct_B_sev (by omega) hs
            exact ih (S + 1) (by omega) (by omega) gb gp (ct_mpl_up hm (by rw [eB]; exact hb1) (by rw [eB]; exact hp1)) H locs hP hD hS ls (lv_sub hl [1, 0] rfl)
          | succ n2 ih2 =>
            intro a ha ha1 gb gp hm hb1 hp1 H locs hP hD hS ls hl
            refine lv_iload hx hb d_M_plan_48 (lv_at hl 4 rfl) ?_
            refine lv_iload_n hx hb d_M_plan_50 rfl (lv_at hl 1 rfl) ?_
            refine lv_icmp_ge (tgt := 197) hx hb d_M_plan_51 (by decide) (fun hc9 => absurd hc9 (nI_ge (by omega) (by omega))) (fun _ => ?_)
            refine lv_iload_n hx hb d_M_plan_54 rfl (lv_at hl 2 rfl) ?_
            refine lv_if_ne (tgt := 197) hx hb d_M_plan_55 (by decide) (fun hc9 => absurd (nI_0) hc9) (fun _ => ?_)
            have hsb := ct_sc_lt hjc (S := S) (by omega) a (by omega)
            refine lv_iload hx hb d_M_plan_58 (lv_at hl 4 rfl) ?_
            refine lv_iload_n hx hb d_M_plan_60 rfl (lv_at hl 1 rfl) ?_
            refine lv_iand hx hb d_M_plan_61 ?_
            refine ct_val (y := nI (a &&& S)) (ct_and _ _) ?_
            have hand := ct_and64 S (by omega) a (by omega)
            have hal := ct_and64 (ct_low S) hlow a (by omega)
            refine lv_iload hx hb d_M_plan_62 (lv_at hl 4 rfl) ?_
            by_cases hp : ct_pt S a = true
            · have hp2 := ct_pt_1 hp
              have hpc := ct_pt_co S (by omega) a (by omega) hp
              have ha0 := ct_pt_pos hp
              have hcl := ct_cst_lt hjc (S := S) (by omega) (by omega) hp
              refine lv_icmp_ne (tgt := 78) hx hb d_M_plan_64 (by decide) (fun hc9 => absurd (by rw [hp2.1]) hc9) (fun _ => ?_)
              refine lv_iload hx hb d_M_plan_67 (lv_at hl 4 rfl) ?_
              refine lv_iload_n hx hb d_M_plan_69 rfl (lv_at hl 3 rfl) ?_
              refine lv_iand hx hb d_M_plan_70 ?_
              refine ct_val (y := nI (a &&& ct_low S)) (ct_and _ _) ?_
              refine lv_if_le (tgt := 78) hx hb d_M_plan_71 (by decide) (fun hc9 => absurd hc9 (nI_nle (by omega) (by omega))) (fun _ => ?_)
              refine lv_iconst (v := (nI 1)) hx hb d_M_plan_74 (by decide) ?_
              refine lv_goto (tgt := 79) hx hb d_M_plan_75 (by decide) ?_
              refine lv_istore (lv' := [(5, .int (nI 1)), (0, .ref o0), (1, .int (nI S)), (2, .int (nI 0)), (3, .int (nI (ct_low S))), (4, .int (nI a))]) hx hb d_M_plan_79 hl (by decide) rfl (fun ls hl => ?_)
              refine lv_iload hx hb d_M_plan_81 (lv_at hl 0 rfl) ?_
              refine lv_if_eq (tgt := 191) hx hb d_M_plan_83 (by decide) (fun hc9 => absurd hc9 (nI_ne0 (by omega) (by omega))) (fun _ => ?_)
              refine lv_iload_n hx hb d_M_plan_86 rfl (lv_at hl 2 rfl) ?_
              refine lv_iload hx hb d_M_plan_87 (lv_at hl 5 rfl) ?_
              refine lv_iconst (v := (-1)) hx hb d_M_plan_89 (by decide) ?_
              refine lv_ixor hx hb d_M_plan_90 ?_
              refine lv_iand hx hb d_M_plan_91 ?_
              refine ct_val (y := nI (S ^^^ a)) (ct_nand_I S (by omega) a (by omega) hp2.1) ?_
              refine lv_istore (lv' := [(6, .int (nI (S ^^^ a))), (5, .int (nI 1)), (0, .ref o0), (1, .int (nI S)), (2, .int (nI 0)), (3, .int (nI (ct_low S))), (4, .int (nI a))]) hx hb d_M_plan_92 hl (by decide) rfl (fun ls hl => ?_)
              refine lv_aload_n hx hb d_M_plan_94 rfl (lv_at hl 2 rfl) ?_
              refine va_get (D := (dC, dI)) (ci := 4) (v := .ref o5) (C := R_M) (T := T_M) (N := 14) hx hb hts (fun w h9 => ct_tl (ki_M w h9)) hown hK hP 0 rfl rfl 8 (by decide) (hts _ (ct_tl kw_527)) (fun _ h9 => h9) rfl d_M_plan_95 ?_
              refine lv_iload hx hb d_M_plan_98 (lv_at hl 6 rfl) ?_
              refine ct_iald hx hb hK hP 4 0 rfl rfl (j := a) (by omega) (by omega) d_M_plan_100 ?_
              refine ct_val (y := nI (ct_B (ct_jc sz la K R) a).1) ((hm a ha0 (by omega)).1) ?_
              refine lv_aload_n hx hb d_M_plan_101 rfl (lv_at hl 2 rfl) ?_
              refine va_get (D := (dC, dI)) (ci := 4) (v := .ref o5) (C := R_M) (T := T_M) (N := 14) hx hb hts (fun w h9 => ct_tl (ki_M w h9)) hown hK hP 0 rfl rfl 8 (by decide) (hts _ (ct_tl kw_527)) (fun _ h9 => h9) rfl d_M_plan_102 ?_
              refine lv_iload hx hb d_M_plan_105 (lv_at hl 0 rfl) ?_
              refine ct_iald hx hb hK hP 4 0 rfl rfl (j := S ^^^ a) (by omega) (by omega) d_M_plan_107 ?_
              refine ct_val (y := nI (ct_B (ct_jc sz la K R) (S ^^^ a)).1) ((hm _ hpc.1 hpc.2.1).1) ?_
              refine lv_iadd hx hb d_M_plan_108 ?_
              refine ct_val (y := nI ((ct_B (ct_jc sz la K R) a).1 + (ct_B (ct_jc sz la K R) (S ^^^ a)).1)) (nI_add _ _) ?_
              refine lv_aload_n hx hb d_M_plan_109 rfl (lv_at hl 2 rfl) ?_
              refine lv_iload hx hb d_M_plan_110 (lv_at hl 6 rfl) ?_
              refine lv_iload hx hb d_M_plan_112 (lv_at hl 0 rfl) ?_
              refine va_calli (va_runV (As := [.int (nI a), .int (nI (S ^^^ a))]) (rest := [.int (nI ((ct_B (ct_jc sz la K R) a).1 + (ct_B (ct_jc sz la K R) (S ^^^ a)).1))]) ⟨hx, hb, hml, hown, hts⟩ (c_M_joins l dC dI cI o0 o1 o2 o3 o4 o5 o6 o7 o8 o9 thr tab K R stp fl fo la ot hK6 hfo hfl sz hla a (S ^^^ a) ha0 (by omega) hpc.1 (by omega)) (cwV 2 hts (ct_giV (fun w h9 => ct_tl h9) kw_620 kw_622 kw_19 kw_30 kw_623) rfl rfl rfl (by decide +kernel) ⟨Nat.le_of_ble_eq_true rfl, Nat.le_of_ble_eq_true rfl⟩) ⟨ct_ro_blind, va_recv hK hP (ci := 4) (q0 := 0) rfl rfl, ct_ro_pre (hP.sub [0, 1, 2, 3] rfl) hK⟩ rfl rfl hl.1 rfl (lv_room (Nat.le_of_ble_eq_true rfl)) d_M_plan_114 ⟨Nat.le_of_ble_eq_true rfl, Nat.le_of_ble_eq_true rfl⟩) hS (fun q _ h9 => h9.elim) (fun q h9 => h9.elim) (fun ans201 uS tS H locs ht hvm hwans201 hB hz1 hk1 hS => ?_)
              have hP := ct_keep hP hk1
              refine ct_val (y := nI (ct_jc sz la K R a (S ^^^ a))) (hwans201) ?_
              refine lv_iadd hx hb d_M_plan_117 ?_
              refine ct_val (y := nI (ct_cst (ct_jc sz la K R) S a)) (nI_add _ _) ?_
              refine lv_istore (lv' := [(7, .int (nI (ct_cst (ct_jc sz la K R) S a))), (6, .int (nI (S ^^^ a))), (5, .int (nI 1)), (0, .ref o0), (1, .int (nI S)), (2, .int (nI 0)), (3, .int (nI (ct_low S))), (4, .int (nI a))]) hx hb d_M_plan_118 hl (by decide) rfl (fun ls hl => ?_)
              refine lv_aload_n hx hb d_M_plan_120 rfl (lv_at hl 3 rfl) ?_
              refine va_get (D := (dC, dI)) (ci := 4) (v := .ref o6) (C := R_M) (T := T_M) (N := 14) hx hb hts (fun w h9 => ct_tl (ki_M w h9)) hown hK hP 0 rfl rfl 9 (by decide) (hts _ (ct_tl kw_528)) (fun _ h9 => h9) rfl d_M_plan_121 ?_
              refine lv_iload_n hx hb d_M_plan_124 rfl (lv_at hl 4 rfl) ?_
              refine ct_iald hx hb hK hP 5 0 rfl rfl (j := S) (by omega) (by omega) d_M_plan_125 ?_
              refine ct_val (y := nI (ct_sc (ct_cst (ct_jc sz la K R) S) S a).2) (hp1) ?_
              by_cases h3 : (ct_sc (ct_cst (ct_jc sz la K R) S) S a).2 = 0
              · refine lv_if_eq (tgt := 140) hx hb d_M_plan_126 (by decide) (fun _ => ?_) (fun hc9 => absurd (by rw [h3]; exact nI_0) hc9)
                refine lv_iconst (v := (nI 1)) hx hb d_M_plan_140 (by decide) ?_
                refine lv_goto (tgt := 145) hx hb d_M_plan_141 (by decide) ?_
                refine lv_istore (lv' := [(8, .int (nI 1)), (7, .int (nI (ct_cst (ct_jc sz la K R) S a))), (6, .int (nI (S ^^^ a))), (5, .int (nI 1)), (0, .ref o0), (1, .int (nI S)), (2, .int (nI 0)), (3, .int (nI (ct_low S))), (4, .int (nI a))]) hx hb d_M_plan_145 hl (by decide) rfl (fun ls hl => ?_)
                refine lv_aload_n hx hb d_M_plan_147 rfl (lv_at hl 4 rfl) ?_
                refine va_get (D := (dC, dI)) (ci := 4) (v := .ref o5) (C := R_M) (T := T_M) (N := 14) hx hb hts (fun w h9 => ct_tl (ki_M w h9)) hown hK hP 0 rfl rfl 8 (by decide) (hts _ (ct_tl kw_527)) (fun _ h9 => h9) rfl d_M_plan_148 ?_
                refine lv_iload_n hx hb d_M_plan_151 rfl (lv_at hl 5 rfl) ?_
                refine lv_iload hx hb d_M_plan_152 (lv_at hl 0 rfl) ?_
                refine lv_if_eq (tgt := 162) hx hb d_M_plan_154 (by decide) (fun hc9 => absurd hc9 (nI_ne0 (by omega) (by omega))) (fun _ => ?_)
                refine lv_iload hx hb d_M_plan_157 (lv_at hl 1 rfl) ?_
                refine lv_goto (tgt := 168) hx hb d_M_plan_159 (by decide) ?_
                refine ct_iast hx hb hK hP hD hS 4 0 rfl rfl (j := S) (by omega) (by omega) d_M_plan_168 (fun H locs hP hD hS => ?_)
                have hP : va_P (dC, dI) ct_cl [(o0, .inr (4, [.int thr, .ref o1, .int tab, .ref o2, .ref o3, .int (nI K), .ref o4, .int (nI R), .ref o5, .ref o6, .int stp, .ref o7, .ref o8, .ref o9])), (o2, .inl (cI, 8, .inl fl)), (o4, .inl (cI, 6, .inl fo)), (o1, .inl (cI, 8, .inl (fun j => nI (sz j)))), (o5, .inl (cI, 64, .inl (upd gb S (nI (ct_cst (ct_jc sz la K R) S a))))), (o6, .inl (cI, 64, .inl gp))] H := hP
                have hD : va_D A [(o0, .inr (4, [.int thr, .ref o1, .int tab, .ref o2, .ref o3, .int (nI K), .ref o4, .int (nI R), .ref o5, .ref o6, .int stp, .ref o7, .ref o8, .ref o9])), (o2, .inl (cI, 8, .inl fl)), (o4, .inl (cI, 6, .inl fo)), (o1, .inl (cI, 8, .inl (fun j => nI (sz j)))), (o5, .inl (cI, 64, .inl (upd gb S (nI (ct_cst (ct_jc sz la K R) S a))))), (o6, .inl (cI, 64, .inl gp))] := hD
                refine lv_aload_n hx hb d_M_plan_169 rfl (lv_at hl 4 rfl) ?_
                refine va_get (D := (dC, dI)) (ci := 4) (v := .ref o6) (C := R_M) (T := T_M) (N := 14) hx hb hts (fun w h9 => ct_tl (ki_M w h9)) hown hK hP 0 rfl rfl 9 (by decide) (hts _ (ct_tl kw_528)) (fun _ h9 => h9) rfl d_M_plan_170 ?_
                refine lv_iload_n hx hb d_M_plan_173 rfl (lv_at hl 5 rfl) ?_
                refine lv_iload hx hb d_M_plan_174 (lv_at hl 0 rfl) ?_
                refine lv_if_eq (tgt := 184) hx hb d_M_plan_176 (by decide) (fun hc9 => absurd hc9 (nI_ne0 (by omega) (by omega))) (fun _ => ?_)
                refine lv_iload hx hb d_M_plan_179 (lv_at hl 8 rfl) ?_
                refine lv_goto (tgt := 190) hx hb d_M_plan_181 (by decide) ?_
                refine ct_iast hx hb hK hP hD hS 5 0 rfl rfl (j := S) (by omega) (by omega) d_M_plan_190 (fun H locs hP hD hS => ?_)
                have hP : va_P (dC, dI) ct_cl [(o0, .inr (4, [.int thr, .ref o1, .int tab, .ref o2, .ref o3, .int (nI K), .ref o4, .int (nI R), .ref o5, .ref o6, .int stp, .ref o7, .ref o8, .ref o9])), (o2, .inl (cI, 8, .inl fl)), (o4, .inl (cI, 6, .inl fo)), (o1, .inl (cI, 8, .inl (fun j => nI (sz j)))), (o5, .inl (cI, 64, .inl (upd gb S (nI (ct_cst (ct_jc sz la K R) S a))))), (o6, .inl (cI, 64, .inl (upd gp S (nI a))))] H := hP
                have hD : va_D A [(o0, .inr (4, [.int thr, .ref o1, .int tab, .ref o2, .ref o3, .int (nI K), .ref o4, .int (nI R), .ref o5, .ref o6, .int stp, .ref o7, .ref o8, .ref o9])), (o2, .inl (cI, 8, .inl fl)), (o4, .inl (cI, 6, .inl fo)), (o1, .inl (cI, 8, .inl (fun j => nI (sz j)))), (o5, .inl (cI, 64, .inl (upd gb S (nI (ct_cst (ct_jc sz la K R) S a))))), (o6, .inl (cI, 64, .inl (upd gp S (nI a))))] := hD
                refine lv_iinc (v := (nI (a + 1))) (lv' := [(4, .int (nI (a + 1))), (8, .int (nI 1)), (7, .int (nI (ct_cst (ct_jc sz la K R) S a))), (6, .int (nI (S ^^^ a))), (5, .int (nI 1)), (0, .ref o0), (1, .int (nI S)), (2, .int (nI 0)), (3, .int (nI (ct_low S)))]) hx hb d_M_plan_191 hl (k := 8) rfl (nI_1 _) (by decide) rfl (fun ls hl => ?_)
                refine lv_goto (tgt := 48) hx hb d_M_plan_194 (by decide) ?_
                exact ih2 (a + 1) (by omega) (by omega) (upd gb S (nI (ct_cst (ct_jc sz la K R) S a))) (upd gp S (nI a)) (ct_mpl_upd hm) (by rw [ct_sc_yes hp (Or.inl h3)]; exact pk_us.trans rfl) (by rw [ct_sc_yes hp (Or.inl h3)]; exact pk_us.trans rfl) H locs hP hD hS ls (lv_sub hl [5, 6, 7, 8, 0] rfl)
              · refine lv_if_eq (tgt := 140) hx hb d_M_plan_126 (by decide) (fun hc9 => absurd hc9 (nI_ne0 (by omega) (by omega))) (fun _ => ?_)
                refine lv_iload hx hb d_M_plan_129 (lv_at hl 0 rfl) ?_
                refine lv_aload_n hx hb d_M_plan_131 rfl (lv_at hl 3 rfl) ?_
                refine va_get (D := (dC, dI)) (ci := 4) (v := .ref o5) (C := R_M) (T := T_M) (N := 14) hx hb hts (fun w h9 => ct_tl (ki_M w h9)) hown hK hP 0 rfl rfl 8 (by decide) (hts _ (ct_tl kw_527)) (fun _ h9 => h9) rfl d_M_plan_132 ?_
                refine lv_iload_n hx hb d_M_plan_135 rfl (lv_at hl 4 rfl) ?_
                refine ct_iald hx hb hK hP 4 0 rfl rfl (j := S) (by omega) (by omega) d_M_plan_136 ?_
                refine ct_val (y := nI (ct_sc (ct_cst (ct_jc sz la K R) S) S a).1) (hb1) ?_
                by_cases h4 : ct_cst (ct_jc sz la K R) S a < (ct_sc (ct_cst (ct_jc sz la K R) S) S a).1
                · refine lv_icmp_ge (tgt := 144) hx hb d_M_plan_137 (by decide) (fun hc9 => absurd hc9 (nI_ge h4 (by omega))) (fun _ => ?_)
                  refine lv_iconst (v := (nI 1)) hx hb d_M_plan_140 (by decide) ?_
                  refine lv_goto (tgt := 145) hx hb d_M_plan_141 (by decide) ?_
                  refine lv_istore (lv' := [(8, .int (nI 1)), (7, .int (nI (ct_cst (ct_jc sz la K R) S a))), (6, .int (nI (S ^^^ a))), (5, .int (nI 1)), (0, .ref o0), (1, .int (nI S)), (2, .int (nI 0)), (3, .int (nI (ct_low S))), (4, .int (nI a))]) hx hb d_M_plan_145 hl (by decide) rfl (fun ls hl => ?_)
                  refine lv_aload_n hx hb d_M_plan_147 rfl (lv_at hl 4 rfl) ?_
                  refine va_get (D := (dC, dI)) (ci := 4) (v := .ref o5) (C := R_M) (T := T_M) (N := 14) hx hb hts (fun w h9 => ct_tl (ki_M w h9)) hown hK hP 0 rfl rfl 8 (by decide) (hts _ (ct_tl kw_527)) (fun _ h9 => h9) rfl d_M_plan_148 ?_
                  refine lv_iload_n hx hb d_M_plan_151 rfl (lv_at hl 5 rfl) ?_
                  refine lv_iload hx hb d_M_plan_152 (lv_at hl 0 rfl) ?_
                  refine lv_if_eq (tgt := 162) hx hb d_M_plan_154 (by decide) (fun hc9 => absurd hc9 (nI_ne0 (by omega) (by omega))) (fun _ => ?_)
                  refine lv_iload hx hb d_M_plan_157 (lv_at hl 1 rfl) ?_
                  refine lv_goto (tgt := 168) hx hb d_M_plan_159 (by decide) ?_
                  refine ct_iast hx hb hK hP hD hS 4 0 rfl rfl (j := S) (by omega) (by omega) d_M_plan_168 (fun H locs hP hD hS => ?_)
                  have hP : va_P (dC, dI) ct_cl [(o0, .inr (4, [.int thr, .ref o1, .int tab, .ref o2, .ref o3, .int (nI K), .ref o4, .int (nI R), .ref o5, .ref o6, .int stp, .ref o7, .ref o8, .ref o9])), (o2, .inl (cI, 8, .inl fl)), (o4, .inl (cI, 6, .inl fo)), (o1, .inl (cI, 8, .inl (fun j => nI (sz j)))), (o5, .inl (cI, 64, .inl (upd gb S (nI (ct_cst (ct_jc sz la K R) S a))))), (o6, .inl (cI, 64, .inl gp))] H := hP
                  have hD : va_D A [(o0, .inr (4, [.int thr, .ref o1, .int tab, .ref o2, .ref o3, .int (nI K), .ref o4, .int (nI R), .ref o5, .ref o6, .int stp, .ref o7, .ref o8, .ref o9])), (o2, .inl (cI, 8, .inl fl)), (o4, .inl (cI, 6, .inl fo)), (o1, .inl (cI, 8, .inl (fun j => nI (sz j)))), (o5, .inl (cI, 64, .inl (upd gb S (nI (ct_cst (ct_jc sz la K R) S a))))), (o6, .inl (cI, 64, .inl gp))] := hD
                  refine lv_aload_n hx hb d_M_plan_169 rfl (lv_at hl 4 rfl) ?_
                  refine va_get (D := (dC, dI)) (ci := 4) (v := .ref o6) (C := R_M) (T := T_M) (N := 14) hx hb hts (fun w h9 => ct_tl (ki_M w h9)) hown hK hP 0 rfl rfl 9 (by decide) (hts _ (ct_tl kw_528)) (fun _ h9 => h9) rfl d_M_plan_170 ?_
                  refine lv_iload_n hx hb d_M_plan_173 rfl (lv_at hl 5 rfl) ?_
                  refine lv_iload hx hb d_M_plan_174 (lv_at hl 0 rfl) ?_
                  refine lv_if_eq (tgt := 184) hx hb d_M_plan_176 (by decide) (fun hc9 => absurd hc9 (nI_ne0 (by omega) (by omega))) (fun _ => ?_)
                  refine lv_iload hx hb d_M_plan_179 (lv_at hl 8 rfl) ?_
                  refine lv_goto (tgt := 190) hx hb d_M_plan_181 (by decide) ?_
                  refine ct_iast hx hb hK hP hD hS 5 0 rfl rfl (j := S) (by omega) (by omega) d_M_plan_190 (fun H locs hP hD hS => ?_)
                  have hP : va_P (dC, dI) ct_cl [(o0, .inr (4, [.int thr, .ref o1, .int tab, .ref o2, .ref o3, .int (nI K), .ref o4, .int (nI R), .ref o5, .ref o6, .int stp, .ref o7, .ref o8, .ref o9])), (o2, .inl (cI, 8, .inl fl)), (o4, .inl (cI, 6, .inl fo)), (o1, .inl (cI, 8, .inl (fun j => nI (sz j)))), (o5, .inl (cI, 64, .inl (upd gb S (nI (ct_cst (ct_jc sz la K R) S a))))), (o6, .inl (cI, 64, .inl (upd gp S (nI a))))] H := hP
                  have hD : va_D A [(o0, .inr (4, [.int thr, .ref o1, .int tab, .ref o2, .ref o3, .int (nI K), .ref o4, .int (nI R), .ref o5, .ref o6, .int stp, .ref o7, .ref o8, .ref o9])), (o2, .inl (cI, 8, .inl fl)), (o4, .inl (cI, 6, .inl fo)), (o1, .inl (cI, 8, .inl (fun j => nI (sz j)))), (o5, .inl (cI, 64, .inl (upd gb S (nI (ct_cst (ct_jc sz la K R) S a))))), (o6, .inl (cI, 64, .inl (upd gp S (nI a))))] := hD
                  refine lv_iinc (v := (nI (a + 1))) (lv' := [(4, .int (nI (a + 1))), (8, .int (nI 1)), (7, .int (nI (ct_cst (ct_jc sz la K R) S a))), (6, .int (nI (S ^^^ a))), (5, .int (nI 1)), (0, .ref o0), (1, .int (nI S)), (2, .int (nI 0)), (3, .int (nI (ct_low S)))]) hx hb d_M_plan_191 hl (k := 8) rfl (nI_1 _) (by decide) rfl (fun ls hl => ?_)
                  refine lv_goto (tgt := 48) hx hb d_M_plan_194 (by decide) ?_
                  exact ih2 (a + 1) (by omega) (by omega) (upd gb S (nI (ct_cst (ct_jc sz la K R) S a))) (upd gp S (nI a)) (ct_mpl_upd hm) (by rw [ct_sc_yes hp (Or.inr h4)]; exact pk_us.trans rfl) (by rw [ct_sc_yes hp (Or.inr h4)]; exact pk_us.trans rfl) H locs hP hD hS ls (lv_sub hl [5, 6, 7, 8, 0] rfl)
                · refine lv_icmp_ge (tgt := 144) hx hb d_M_plan_137 (by decide) (fun _ => ?_) (fun hc9 => absurd (nI_le (by omega) (by omega)) hc9)
                  refine lv_iconst (v := (nI 0)) hx hb d_M_plan_144 (by decide) ?_
                  refine lv_istore (lv' := [(8, .int (nI 0)), (7, .int (nI (ct_cst (ct_jc sz la K R) S a))), (6, .int (nI (S ^^^ a))), (5, .int (nI 1)), (0, .ref o0), (1, .int (nI S)), (2, .int (nI 0)), (3, .int (nI (ct_low S))), (4, .int (nI a))]) hx hb d_M_plan_145 hl (by decide) rfl (fun ls hl => ?_)
                  refine lv_aload_n hx hb d_M_plan_147 rfl (lv_at hl 4 rfl) ?_
                  refine va_get (D := (dC, dI)) (ci := 4) (v := .ref o5) (C := R_M) (T := T_M) (N := 14) hx hb hts (fun w h9 => ct_tl (ki_M w h9)) hown hK hP 0 rfl rfl 8 (by decide) (hts _ (ct_tl kw_527)) (fun _ h9 => h9) rfl d_M_plan_148 ?_
                  refine lv_iload_n hx hb d_M_plan_151 rfl (lv_at hl 5 rfl) ?_
                  refine lv_iload hx hb d_M_plan_152 (lv_at hl 0 rfl) ?_
                  refine lv_if_eq (tgt := 162) hx hb d_M_plan_154 (by decide) (fun _ => ?_) (fun hc9 => absurd (nI_0) hc9)
                  refine lv_aload_n hx hb d_M_plan_162 rfl (lv_at hl 4 rfl) ?_
                  refine va_get (D := (dC, dI)) (ci := 4) (v := .ref o5) (C := R_M) (T := T_M) (N := 14) hx hb hts (fun w h9 => ct_tl (ki_M w h9)) hown hK hP 0 rfl rfl 8 (by decide) (hts _ (ct_tl kw_527)) (fun _ h9 => h9) rfl d_M_plan_163 ?_
                  refine lv_iload_n hx hb d_M_plan_166 rfl (lv_at hl 5 rfl) ?_
                  refine ct_iald hx hb hK hP 4 0 rfl rfl (j := S) (by omega) (by omega) d_M_plan_167 ?_
                  refine ct_iast hx hb hK hP hD hS 4 0 rfl rfl (j := S) (by omega) (by omega) d_M_plan_168 (fun H locs hP hD hS => ?_)
                  have hP : va_P (dC, dI) ct_cl [(o0, .inr (4, [.int thr, .ref o1, .int tab, .ref o2, .ref o3, .int (nI K), .ref o4, .int (nI R), .ref o5, .ref o6, .int stp, .ref o7, .ref o8, .ref o9])), (o2, .inl (cI, 8, .inl fl)), (o4, .inl (cI, 6, .inl fo)), (o1, .inl (cI, 8, .inl (fun j => nI (sz j)))), (o5, .inl (cI, 64, .inl (upd gb S (gb S)))), (o6, .inl (cI, 64, .inl gp))] H := hP
                  have hD : va_D A [(o0, .inr (4, [.int thr, .ref o1, .int tab, .ref o2, .ref o3, .int (nI K), .ref o4, .int (nI R), .ref o5, .ref o6, .int stp, .ref o7, .ref o8, .ref o9])), (o2, .inl (cI, 8, .inl fl)), (o4, .inl (cI, 6, .inl fo)), (o1, .inl (cI, 8, .inl (fun j => nI (sz j)))), (o5, .inl (cI, 64, .inl (upd gb S (gb S)))), (o6, .inl (cI, 64, .inl gp))] := hD
                  refine lv_aload_n hx hb d_M_plan_169 rfl (lv_at hl 4 rfl) ?_
                  refine va_get (D := (dC, dI)) (ci := 4) (v := .ref o6) (C := R_M) (T := T_M) (N := 14) hx hb hts (fun w h9 => ct_tl (ki_M w h9)) hown hK hP 0 rfl rfl 9 (by decide) (hts _ (ct_tl kw_528)) (fun _ h9 => h9) rfl d_M_plan_170 ?_
                  refine lv_iload_n hx hb d_M_plan_173 rfl (lv_at hl 5 rfl) ?_
                  refine lv_iload hx hb d_M_plan_174 (lv_at hl 0 rfl) ?_
                  refine lv_if_eq (tgt := 184) hx hb d_M_plan_176 (by decide) (fun _ => ?_) (fun hc9 => absurd (nI_0) hc9)
                  refine lv_aload_n hx hb d_M_plan_184 rfl (lv_at hl 4 rfl) ?_
                  refine va_get (D := (dC, dI)) (ci := 4) (v := .ref o6) (C := R_M) (T := T_M) (N := 14) hx hb hts (fun w h9 => ct_tl (ki_M w h9)) hown hK hP 0 rfl rfl 9 (by decide) (hts _ (ct_tl kw_528)) (fun _ h9 => h9) rfl d_M_plan_185 ?_
                  refine lv_iload_n hx hb d_M_plan_188 rfl (lv_at hl 5 rfl) ?_
                  refine ct_iald hx hb hK hP 5 0 rfl rfl (j := S) (by omega) (by omega) d_M_plan_189 ?_
                  refine ct_iast hx hb hK hP hD hS 5 0 rfl rfl (j := S) (by omega) (by omega) d_M_plan_190 (fun H locs hP hD hS => ?_)
                  have hP : va_P (dC, dI) ct_cl [(o0, .inr (4, [.int thr, .ref o1, .int tab, .ref o2, .ref o3, .int (nI K), .ref o4, .int (nI R), .ref o5, .ref o6, .int stp, .ref o7, .ref o8, .ref o9])), (o2, .inl (cI, 8, .inl fl)), (o4, .inl (cI, 6, .inl fo)), (o1, .inl (cI, 8, .inl (fun j => nI (sz j)))), (o5, .inl (cI, 64, .inl (upd gb S (gb S)))), (o6, .inl (cI, 64, .inl (upd gp S (gp S))))] H := hP
                  have hD : va_D A [(o0, .inr (4, [.int thr, .ref o1, .int tab, .ref o2, .ref o3, .int (nI K), .ref o4, .int (nI R), .ref o5, .ref o6, .int stp, .ref o7, .ref o8, .ref o9])), (o2, .inl (cI, 8, .inl fl)), (o4, .inl (cI, 6, .inl fo)), (o1, .inl (cI, 8, .inl (fun j => nI (sz j)))), (o5, .inl (cI, 64, .inl (upd gb S (gb S)))), (o6, .inl (cI, 64, .inl (upd gp S (gp S))))] := hD
                  refine lv_iinc (v := (nI (a + 1))) (lv' := [(4, .int (nI (a + 1))), (8, .int (nI 0)), (7, .int (nI (ct_cst (ct_jc sz la K R) S a))), (6, .int (nI (S ^^^ a))), (5, .int (nI 1)), (0, .ref o0), (1, .int (nI S)), (2, .int (nI 0)), (3, .int (nI (ct_low S)))]) hx hb d_M_plan_191 hl (k := 8) rfl (nI_1 _) (by decide) rfl (fun ls hl => ?_)
                  refine lv_goto (tgt := 48) hx hb d_M_plan_194 (by decide) ?_
                  exact ih2 (a + 1) (by omega) (by omega) (upd gb S (gb S)) (upd gp S (gp S)) (ct_mpl_upd hm) (by rw [ct_sc_keep (fun z9 => z9.elim h3 h4)]; exact pk_us.trans hb1) (by rw [ct_sc_keep (fun z9 => z9.elim h3 h4)]; exact pk_us.trans hp1) H locs hP hD hS ls (lv_sub hl [5, 6, 7, 8, 0] rfl)
            · have hpf : ct_pt S a = false := by simpa using hp
              by_cases h5 : a &&& S = a
              · refine lv_icmp_ne (tgt := 78) hx hb d_M_plan_64 (by decide) (fun hc9 => absurd (by rw [h5]) hc9) (fun _ => ?_)
                refine lv_iload hx hb d_M_plan_67 (lv_at hl 4 rfl) ?_
                refine lv_iload_n hx hb d_M_plan_69 rfl (lv_at hl 3 rfl) ?_
                refine lv_iand hx hb d_M_plan_70 ?_
                refine ct_val (y := nI (a &&& ct_low S)) (ct_and _ _) ?_
                refine lv_if_le (tgt := 78) hx hb d_M_plan_71 (by decide) (fun _ => ?_) (fun hc9 => absurd (by rw [show a &&& ct_low S = 0 from Classical.byContradiction (fun z => hp (ct_pt_2 h5 z))]; exact Int32.le_refl _) hc9)
                refine lv_iconst (v := (nI 0)) hx hb d_M_plan_78 (by decide) ?_
                refine lv_istore (lv' := [(5, .int (nI 0)), (0, .ref o0), (1, .int (nI S)), (2, .int (nI 0)), (3, .int (nI (ct_low S))), (4, .int (nI a))]) hx hb d_M_plan_79 hl (by decide) rfl (fun ls hl => ?_)
                refine lv_iload hx hb d_M_plan_81 (lv_at hl 0 rfl) ?_
                refine lv_if_eq (tgt := 191) hx hb d_M_plan_83 (by decide) (fun _ => ?_) (fun hc9 => absurd (nI_0) hc9)
                refine lv_iinc (v := (nI (a + 1))) (lv' := [(4, .int (nI (a + 1))), (5, .int (nI 0)), (0, .ref o0), (1, .int (nI S)), (2, .int (nI 0)), (3, .int (nI (ct_low S)))]) hx hb d_M_plan_191 hl (k := 5) rfl (nI_1 _) (by decide) rfl (fun ls hl => ?_)
                refine lv_goto (tgt := 48) hx hb d_M_plan_194 (by decide) ?_
                exact ih2 (a + 1) (by omega) (by omega) gb gp hm (by rw [ct_sc_no hpf]; exact hb1) (by rw [ct_sc_no hpf]; exact hp1) H locs hP hD hS ls (lv_sub hl [2, 3, 4, 5, 0] rfl)
              · refine lv_icmp_ne (tgt := 78) hx hb d_M_plan_64 (by decide) (fun _ => ?_) (fun hc9 => absurd hc9 (fun z9 => h5 ((nI_eq (by omega) (by omega)).mp z9)))
                refine lv_iconst (v := (nI 0)) hx hb d_M_plan_78 (by decide) ?_
                refine lv_istore (lv' := [(5, .int (nI 0)), (0, .ref o0), (1, .int (nI S)), (2, .int (nI 0)), (3, .int (nI (ct_low S))), (4, .int (nI a))]) hx hb d_M_plan_79 hl (by decide) rfl (fun ls hl => ?_)
                refine lv_iload hx hb d_M_plan_81 (lv_at hl 0 rfl) ?_
                refine lv_if_eq (tgt := 191) hx hb d_M_plan_83 (by decide) (fun _ => ?_) (fun hc9 => absurd (nI_0) hc9)
                refine lv_iinc (v := (nI (a + 1))) (lv' := [(4, .int (nI (a + 1))), (5, .int (nI 0)), (0, .ref o0), (1, .int (nI S)), (2, .int (nI 0)), (3, .int (nI (ct_low S)))]) hx hb d_M_plan_191 hl (k := 5) rfl (nI_1 _) (by decide) rfl (fun ls hl => ?_)
                refine lv_goto (tgt := 48) hx hb d_M_plan_194 (by decide) ?_
                exact ih2 (a + 1) (by omega) (by omega) gb gp hm (by rw [ct_sc_no hpf]; exact hb1) (by rw [ct_sc_no hpf]; exact hp1) H locs hP hD hS ls (lv_sub hl [2, 3, 4, 5, 0] rfl)
        refine lv_istore_n (lv' := [(3, .int (nI (ct_low S))), (2, .int (nI 0)), (0, .ref o0), (1, .int (nI S))]) hx hb d_M_plan_44 rfl hl (by decide) rfl (fun ls hl => ?_)
        refine lv_iconst (v := (nI 1)) hx hb d_M_plan_45 (by decide) ?_
        refine lv_istore (lv' := [(4, .int (nI 1)), (3, .int (nI (ct_low S))), (2, .int (nI 0)), (0, .ref o0), (1, .int (nI S))]) hx hb d_M_plan_46 hl (by decide) rfl (fun ls hl => ?_)
        exact inner (S - 1) 1 (by omega) (by omega) _ _ (ct_mpl_upd hm) (by rw [ct_sc_1]; exact pk_us) (by rw [ct_sc_1]; exact pk_us) H locs hP hD hS ls (lv_sub hl [3, 4, 2, 1, 0] rfl)
      · refine lv_if_ne (tgt := 38) hx hb d_M_plan_31 (by decide) (fun hc9 => absurd (by rw [ev0]; exact (ct_sev_I S (by omega) hS0).mpr hsf) hc9) (fun _ => ?_)
        refine lv_iconst (v := (nI 1)) hx hb d_M_plan_34 (by decide) ?_
        refine lv_goto (tgt := 39) hx hb d_M_plan_35 (by decide) ?_
        refine lv_istore_n (lv' := [(2, .int (nI 1)), (0, .ref o0), (1, .int (nI S))]) hx hb d_M_plan_39 rfl hl (by decide) rfl (fun ls hl => ?_)
        refine lv_iload_n hx hb d_M_plan_40 rfl (lv_at hl 2 rfl) ?_
        refine lv_iload_n hx hb d_M_plan_41 rfl (lv_at hl 2 rfl) ?_
        refine lv_ineg hx hb d_M_plan_42 ?_
        refine lv_iand hx hb d_M_plan_43 ?_
        refine ct_val (y := nI (ct_low S)) (ct_low_I S (by omega)) ?_
        refine lv_istore_n (lv' := [(3, .int (nI (ct_low S))), (2, .int (nI 1)), (0, .ref o0), (1, .int (nI S))]) hx hb d_M_plan_44 rfl hl (by decide) rfl (fun ls hl => ?_)
        refine lv_iconst (v := (nI 1)) hx hb d_M_plan_45 (by decide) ?_
        refine lv_istore (lv' := [(4, .int (nI 1)), (3, .int (nI (ct_low S))), (2, .int (nI 1)), (0, .ref o0), (1, .int (nI S))]) hx hb d_M_plan_46 hl (by decide) rfl (fun ls hl => ?_)
        refine lv_iload hx hb d_M_plan_48 (lv_at hl 0 rfl) ?_
        refine lv_iload_n hx hb d_M_plan_50 rfl (lv_at hl 4 rfl) ?_
        by_cases hS1 : S = 1
        · refine lv_icmp_ge (tgt := 197) hx hb d_M_plan_51 (by decide) (fun _ => ?_) (fun hc9 => absurd (by rw [hS1]; exact Int32.le_refl _) hc9)
          refine lv_iinc (v := (nI (S + 1))) (lv' := [(1, .int (nI (S + 1))), (4, .int (nI 1)), (3, .int (nI (ct_low S))), (2, .int (nI 1)), (0, .ref o0)]) hx hb d_M_plan_197 hl (k := 4) rfl (nI_1 _) (by decide) rfl (fun ls hl => ?_)
          refine lv_goto (tgt := 2) hx hb d_M_plan_200 (by decide) ?_
          exact ih (S + 1) (by omega) (by omega) (upd gb S (nI 0)) (upd gp S (nI 0)) (ct_mpl_up (ct_mpl_upd hm) (by rw [ct_B_one (by omega) hsf]; exact pk_us) (by rw [ct_B_one (by omega) hsf]; exact pk_us)) H locs hP hD hS ls (lv_sub hl [4, 0] rfl)
        · refine lv_icmp_ge (tgt := 197) hx hb d_M_plan_51 (by decide) (fun hc9 => absurd hc9 (nI_ge (by omega) (by omega))) (fun _ => ?_)
          refine lv_iload_n hx hb d_M_plan_54 rfl (lv_at hl 2 rfl) ?_
          refine lv_if_ne (tgt := 197) hx hb d_M_plan_55 (by decide) (fun _ => ?_) (fun hc9 => absurd hc9 (nI_ne0 (by omega) (by omega)))
          refine lv_iinc (v := (nI (S + 1))) (lv' := [(1, .int (nI (S + 1))), (4, .int (nI 1)), (3, .int (nI (ct_low S))), (2, .int (nI 1)), (0, .ref o0)]) hx hb d_M_plan_197 hl (k := 4) rfl (nI_1 _) (by decide) rfl (fun ls hl => ?_)
          refine lv_goto (tgt := 2) hx hb d_M_plan_200 (by decide) ?_
          exact ih (S + 1) (by omega) (by omega) (upd gb S (nI 0)) (upd gp S (nI 0)) (ct_mpl_up (ct_mpl_upd hm) (by rw [ct_B_one (by omega) hsf]; exact pk_us) (by rw [ct_B_one (by omega) hsf]; exact pk_us)) H locs hP hD hS ls (lv_sub hl [4, 0] rfl)
  refine lv_iconst (v := (nI 1)) hx hb d_M_plan_0 (by decide) ?_
  refine lv_istore_n (lv' := [(1, .int (nI 1)), (0, .ref o0)]) hx hb d_M_plan_1 rfl hl (by decide) rfl (fun ls hl => ?_)
  exact loop (2 ^ K - 1) 1 (by omega) (by omega) fb fp (fun S h0 h9 => absurd h9 (by omega)) s.heap [] hP hD hS ls (lv_sub hl [1, 0] rfl)
