theorem d_S_init_0 : decode b_S_init 0 = .ok (.aload_n 0, 1) := by decide +kernel
theorem d_S_init_1 : decode b_S_init 1 = .ok (.invokespecial 3, 3) := by decide +kernel
theorem d_S_init_4 : decode b_S_init 4 = .ok (.aload_n 0, 1) := by decide +kernel
theorem d_S_init_5 : decode b_S_init 5 = .ok (.bipush 8, 2) := by decide +kernel
theorem d_S_init_7 : decode b_S_init 7 = .ok (.newarray .int, 2) := by decide +kernel
theorem d_S_init_9 : decode b_S_init 9 = .ok (.putfield 9, 3) := by decide +kernel
theorem d_S_init_12 : decode b_S_init 12 = .ok (.iconst 0, 1) := by decide +kernel
theorem d_S_init_13 : decode b_S_init 13 = .ok (.istore_n 1, 1) := by decide +kernel
theorem d_S_init_14 : decode b_S_init 14 = .ok (.iload_n 1, 1) := by decide +kernel
theorem d_S_init_15 : decode b_S_init 15 = .ok (.bipush 8, 2) := by decide +kernel
theorem d_S_init_17 : decode b_S_init 17 = .ok (.if_icmp .ge 16, 3) := by decide +kernel
theorem d_S_init_20 : decode b_S_init 20 = .ok (.aload_n 0, 1) := by decide +kernel
theorem d_S_init_21 : decode b_S_init 21 = .ok (.getfield 9, 3) := by decide +kernel
theorem d_S_init_24 : decode b_S_init 24 = .ok (.iload_n 1, 1) := by decide +kernel
theorem d_S_init_25 : decode b_S_init 25 = .ok (.iconst 2, 1) := by decide +kernel
theorem d_S_init_26 : decode b_S_init 26 = .ok (.iastore, 1) := by decide +kernel
theorem d_S_init_27 : decode b_S_init 27 = .ok (.iinc 1 1, 3) := by decide +kernel
theorem d_S_init_30 : decode b_S_init 30 = .ok (.goto (-16), 3) := by decide +kernel
theorem d_S_init_33 : decode b_S_init 33 = .ok (.return_, 1) := by decide +kernel
theorem d_P_init_0 : decode b_P_init 0 = .ok (.aload_n 0, 1) := by decide +kernel
theorem d_P_init_1 : decode b_P_init 1 = .ok (.invokespecial 3, 3) := by decide +kernel
theorem d_P_init_4 : decode b_P_init 4 = .ok (.aload_n 0, 1) := by decide +kernel
theorem d_P_init_5 : decode b_P_init 5 = .ok (.aload_n 1, 1) := by decide +kernel
theorem d_P_init_6 : decode b_P_init 6 = .ok (.putfield 9, 3) := by decide +kernel
theorem d_P_init_9 : decode b_P_init 9 = .ok (.aload_n 0, 1) := by decide +kernel
theorem d_P_init_10 : decode b_P_init 10 = .ok (.bipush 64, 2) := by decide +kernel
theorem d_P_init_12 : decode b_P_init 12 = .ok (.newarray .int, 2) := by decide +kernel
theorem d_P_init_14 : decode b_P_init 14 = .ok (.putfield 15, 3) := by decide +kernel
theorem d_P_init_17 : decode b_P_init 17 = .ok (.aload_n 0, 1) := by decide +kernel
theorem d_P_init_18 : decode b_P_init 18 = .ok (.bipush 64, 2) := by decide +kernel
theorem d_P_init_20 : decode b_P_init 20 = .ok (.newarray .int, 2) := by decide +kernel
theorem d_P_init_22 : decode b_P_init 22 = .ok (.putfield 19, 3) := by decide +kernel
theorem d_P_init_25 : decode b_P_init 25 = .ok (.aload_n 0, 1) := by decide +kernel
theorem d_P_init_26 : decode b_P_init 26 = .ok (.bipush 64, 2) := by decide +kernel
theorem d_P_init_28 : decode b_P_init 28 = .ok (.newarray .int, 2) := by decide +kernel
theorem d_P_init_30 : decode b_P_init 30 = .ok (.putfield 22, 3) := by decide +kernel
theorem d_P_init_33 : decode b_P_init 33 = .ok (.aload_n 0, 1) := by decide +kernel
theorem d_P_init_34 : decode b_P_init 34 = .ok (.bipush 64, 2) := by decide +kernel
theorem d_P_init_36 : decode b_P_init 36 = .ok (.newarray .int, 2) := by decide +kernel
theorem d_P_init_38 : decode b_P_init 38 = .ok (.putfield 25, 3) := by decide +kernel
theorem d_P_init_41 : decode b_P_init 41 = .ok (.aload_n 0, 1) := by decide +kernel
theorem d_P_init_42 : decode b_P_init 42 = .ok (.iconst 5, 1) := by decide +kernel
theorem d_P_init_43 : decode b_P_init 43 = .ok (.newarray .int, 2) := by decide +kernel
theorem d_P_init_45 : decode b_P_init 45 = .ok (.putfield 28, 3) := by decide +kernel
theorem d_P_init_48 : decode b_P_init 48 = .ok (.return_, 1) := by decide +kernel
theorem d_R_init_0 : decode b_R_init 0 = .ok (.aload_n 0, 1) := by decide +kernel
theorem d_R_init_1 : decode b_R_init 1 = .ok (.invokespecial 3, 3) := by decide +kernel
theorem d_R_init_4 : decode b_R_init 4 = .ok (.aload_n 0, 1) := by decide +kernel
theorem d_R_init_5 : decode b_R_init 5 = .ok (.aload_n 1, 1) := by decide +kernel
theorem d_R_init_6 : decode b_R_init 6 = .ok (.putfield 9, 3) := by decide +kernel
theorem d_R_init_9 : decode b_R_init 9 = .ok (.aload_n 0, 1) := by decide +kernel
theorem d_R_init_10 : decode b_R_init 10 = .ok (.sipush 244, 3) := by decide +kernel
theorem d_R_init_13 : decode b_R_init 13 = .ok (.newarray .int, 2) := by decide +kernel
theorem d_R_init_15 : decode b_R_init 15 = .ok (.putfield 15, 3) := by decide +kernel
theorem d_R_init_18 : decode b_R_init 18 = .ok (.aload_n 0, 1) := by decide +kernel
theorem d_R_init_19 : decode b_R_init 19 = .ok (.getfield 15, 3) := by decide +kernel
theorem d_R_init_22 : decode b_R_init 22 = .ok (.sipush 243, 3) := by decide +kernel
theorem d_R_init_25 : decode b_R_init 25 = .ok (.iconst 1, 1) := by decide +kernel
theorem d_R_init_26 : decode b_R_init 26 = .ok (.iastore, 1) := by decide +kernel
theorem d_R_init_27 : decode b_R_init 27 = .ok (.aload_n 0, 1) := by decide +kernel
theorem d_R_init_28 : decode b_R_init 28 = .ok (.bipush 8, 2) := by decide +kernel
theorem d_R_init_30 : decode b_R_init 30 = .ok (.newarray .int, 2) := by decide +kernel
theorem d_R_init_32 : decode b_R_init 32 = .ok (.putfield 19, 3) := by decide +kernel
theorem d_R_init_35 : decode b_R_init 35 = .ok (.aload_n 0, 1) := by decide +kernel
theorem d_R_init_36 : decode b_R_init 36 = .ok (.bipush 8, 2) := by decide +kernel
theorem d_R_init_38 : decode b_R_init 38 = .ok (.newarray .int, 2) := by decide +kernel
theorem d_R_init_40 : decode b_R_init 40 = .ok (.putfield 22, 3) := by decide +kernel
theorem d_R_init_43 : decode b_R_init 43 = .ok (.aload_n 0, 1) := by decide +kernel
theorem d_R_init_44 : decode b_R_init 44 = .ok (.bipush 8, 2) := by decide +kernel
theorem d_R_init_46 : decode b_R_init 46 = .ok (.newarray .int, 2) := by decide +kernel
theorem d_R_init_48 : decode b_R_init 48 = .ok (.putfield 25, 3) := by decide +kernel
theorem d_R_init_51 : decode b_R_init 51 = .ok (.aload_n 0, 1) := by decide +kernel
theorem d_R_init_52 : decode b_R_init 52 = .ok (.bipush 8, 2) := by decide +kernel
theorem d_R_init_54 : decode b_R_init 54 = .ok (.newarray .int, 2) := by decide +kernel
theorem d_R_init_56 : decode b_R_init 56 = .ok (.putfield 28, 3) := by decide +kernel
theorem d_R_init_59 : decode b_R_init 59 = .ok (.aload_n 0, 1) := by decide +kernel
theorem d_R_init_60 : decode b_R_init 60 = .ok (.bipush 8, 2) := by decide +kernel
theorem d_R_init_62 : decode b_R_init 62 = .ok (.newarray .int, 2) := by decide +kernel
theorem d_R_init_64 : decode b_R_init 64 = .ok (.putfield 31, 3) := by decide +kernel
theorem d_R_init_67 : decode b_R_init 67 = .ok (.return_, 1) := by decide +kernel
theorem d_H_init_0 : decode b_H_init 0 = .ok (.aload_n 0, 1) := by decide +kernel
theorem d_H_init_1 : decode b_H_init 1 = .ok (.invokespecial 3, 3) := by decide +kernel
theorem d_H_init_4 : decode b_H_init 4 = .ok (.aload_n 0, 1) := by decide +kernel
theorem d_H_init_5 : decode b_H_init 5 = .ok (.new 9, 3) := by decide +kernel
theorem d_H_init_8 : decode b_H_init 8 = .ok (.dup, 1) := by decide +kernel
theorem d_H_init_9 : decode b_H_init 9 = .ok (.invokespecial 11, 3) := by decide +kernel
theorem d_H_init_12 : decode b_H_init 12 = .ok (.putfield 12, 3) := by decide +kernel
theorem d_H_init_15 : decode b_H_init 15 = .ok (.aload_n 0, 1) := by decide +kernel
theorem d_H_init_16 : decode b_H_init 16 = .ok (.new 16, 3) := by decide +kernel
theorem d_H_init_19 : decode b_H_init 19 = .ok (.dup, 1) := by decide +kernel
theorem d_H_init_20 : decode b_H_init 20 = .ok (.aload_n 0, 1) := by decide +kernel
theorem d_H_init_21 : decode b_H_init 21 = .ok (.getfield 12, 3) := by decide +kernel
theorem d_H_init_24 : decode b_H_init 24 = .ok (.invokespecial 18, 3) := by decide +kernel
theorem d_H_init_27 : decode b_H_init 27 = .ok (.putfield 21, 3) := by decide +kernel
theorem d_H_init_30 : decode b_H_init 30 = .ok (.aload_n 0, 1) := by decide +kernel
theorem d_H_init_31 : decode b_H_init 31 = .ok (.new 25, 3) := by decide +kernel
theorem d_H_init_34 : decode b_H_init 34 = .ok (.dup, 1) := by decide +kernel
theorem d_H_init_35 : decode b_H_init 35 = .ok (.aload_n 0, 1) := by decide +kernel
theorem d_H_init_36 : decode b_H_init 36 = .ok (.getfield 12, 3) := by decide +kernel
theorem d_H_init_39 : decode b_H_init 39 = .ok (.invokespecial 27, 3) := by decide +kernel
theorem d_H_init_42 : decode b_H_init 42 = .ok (.putfield 28, 3) := by decide +kernel
theorem d_H_init_45 : decode b_H_init 45 = .ok (.aload_n 0, 1) := by decide +kernel
theorem d_H_init_46 : decode b_H_init 46 = .ok (.bipush 8, 2) := by decide +kernel
theorem d_H_init_48 : decode b_H_init 48 = .ok (.newarray .int, 2) := by decide +kernel
theorem d_H_init_50 : decode b_H_init 50 = .ok (.putfield 32, 3) := by decide +kernel
theorem d_H_init_53 : decode b_H_init 53 = .ok (.aload_n 0, 1) := by decide +kernel
theorem d_H_init_54 : decode b_H_init 54 = .ok (.bipush 6, 2) := by decide +kernel
theorem d_H_init_56 : decode b_H_init 56 = .ok (.newarray .int, 2) := by decide +kernel
theorem d_H_init_58 : decode b_H_init 58 = .ok (.putfield 36, 3) := by decide +kernel
theorem d_H_init_61 : decode b_H_init 61 = .ok (.aload_n 0, 1) := by decide +kernel
theorem d_H_init_62 : decode b_H_init 62 = .ok (.bipush 6, 2) := by decide +kernel
theorem d_H_init_64 : decode b_H_init 64 = .ok (.newarray .int, 2) := by decide +kernel
theorem d_H_init_66 : decode b_H_init 66 = .ok (.putfield 39, 3) := by decide +kernel
theorem d_H_init_69 : decode b_H_init 69 = .ok (.aload_n 0, 1) := by decide +kernel
theorem d_H_init_70 : decode b_H_init 70 = .ok (.bipush 64, 2) := by decide +kernel
theorem d_H_init_72 : decode b_H_init 72 = .ok (.newarray .int, 2) := by decide +kernel
theorem d_H_init_74 : decode b_H_init 74 = .ok (.putfield 42, 3) := by decide +kernel
theorem d_H_init_77 : decode b_H_init 77 = .ok (.return_, 1) := by decide +kernel
/-- the sizes at first -/
def ct_sz0 (j : Nat) : Nat := if j < 8 then 2 else 0
theorem ct_init_fun (i : Nat) : upd (fun j => nI (if j < i then 2 else 0)) i (nI 2) = fun j => nI (if j < i + 1 then 2 else 0) := by
  funext j
  show (if j = i then nI 2 else nI (if j < i then 2 else 0)) = nI (if j < i + 1 then 2 else 0)
  by_cases h : j = i
  · rw [if_pos h, if_pos (by omega)]
  · rw [if_neg h]
    by_cases h2 : j < i
    · rw [if_pos h2, if_pos (by omega)]
    · rw [if_neg h2, if_neg (by omega)]
set_option maxHeartbeats 4000000 in
set_option maxRecDepth 100000 in
theorem c_S_init (l : Launch) (dC : Nat → ClassId) (dI : Nat → Nat → Nat) (cI : ClassId) (z0 : Nat) (sz0 : Nat) : Met l y_S_init w_S_init ({ frames := 1, cells := 1, slots := 8, locals := 12 }) (va_Pc [.ref z0] (ct_rw (dC, dI) ct_cl [(z0, .inr (1, [.null]))] [(cI, .int)] sz0)) (va_Qv (fun (u : Nat) => True) (fun (u : Nat) t => ct_at (dC, dI) ct_cl [(cI, .int)] (va_A [(z0, .inr (1, [.null]))] sz0) [(z0, .inr (1, [.ref u])), (u, .inl (cI, 8, .inl (fun j => nI (ct_sz0 j))))] t) (va_A [(z0, .inr (1, [.null]))] sz0)) 1 8 (va_A [(z0, .inr (1, [.null]))] sz0) := by
  refine Met.ofW (cc := b_S_init) (maxL := 2) (ret := none) (by decide) rfl ?_
  intro p e s m args below meth c s₁ Bd hml hv
  obtain ⟨hargs, hsz, hP, hK, hD0⟩ := hv
  have hx := Bd.exec
  have hb := Bd.bytes
  have hr := Bd.returns
  have hts : ∀ w ∈ k_S_init :: ct_tb, w.before args s = true := atoms_spec (ws := w_S_init) Bd.pre
  have hown : s.vm.findClass R_S = some m.cls := findClass_of_methodNamed Bd.named
  have hlocks := Bd.notSynchronized
  have hin : meth.name = "<init>" := (name_of_methodNamed Bd.named Bd.method).1
  subst hsz
  have hD := hD0.self (sz := s.heap.size)
  generalize hAe : va_A [(z0, .inr (1, [.null]))] s.heap.size = A at hD ⊢
  have hA : ∀ q : Nat, s.heap.size ≤ q → A q := fun q h => by rw [← hAe]; exact Or.inr h
  have hS : va_S A s.heap s.heap [] := va_S.rf
  have hl := lv_entry ([.ref z0]) (n := 2) (Nat.le_of_ble_eq_true rfl)
  rw [show entryFrame m args 2 = entryFrame m (([.ref z0] : List Value)).toArray 2 by rw [hargs], lg_entry_eq]
  generalize (lg_sl ([.ref z0]) ++ List.replicate (2 - (lg_sl ([.ref z0])).length) Slot.unset).toArray = ls at hl ⊢
  have hl : lv_has ls 2 [(0, .ref z0)] := hl
  refine lv_aload_n hx hb d_S_init_0 rfl (lv_at hl 0 rfl) ?_
  refine W.objInit hx hb hown (hts _ (ct_tl kw_55)) (hts _ (ct_tl kw_48)) (hts _ (ct_tl kw_49)) rfl (by rw [hml]; exact hl.1) rfl d_S_init_1 (Nat.le_of_ble_eq_true rfl) (Nat.le_of_ble_eq_true rfl) ?_
  refine W.eq (g2 := F0 m 4 ls []) rfl ?_
  have loop : ∀ (n i : Nat), i + n = 8 → ∀ (q : Nat), ∀ (H : Heap) (locs : List Loc), va_P (dC, dI) ct_cl [(z0, .inr (1, [.ref q])), (q, .inl (cI, 8, .inl (fun j => nI (if j < i then 2 else 0))))] H → va_D A [(z0, .inr (1, [.ref q])), (q, .inl (cI, 8, .inl (fun j => nI (if j < i then 2 else 0))))] → va_S A s.heap H locs → ∀ (ls : Array Slot), lv_has ls 2 [(0, .ref z0), (1, .int (nI i))] → W p l e (headSpec w_S_init ({ frames := 1, cells := 1, slots := 8, locals := 12 } : Room)).room s m args below meth c H locs (0 + 1) (0 + 8) (MQ below (va_Qv (fun (u : Nat) => True) (fun (u : Nat) t => ct_at (dC, dI) ct_cl [(cI, .int)] (A) [(z0, .inr (1, [.ref u])), (u, .inl (cI, 8, .inl (fun j => nI (ct_sz0 j))))] t) (A)) args s 1 8 A) (F0 m 14 ls []) := by
    intro n
    induction n with
    | zero =>
      intro i hi q H locs hP hD hS ls hl
      refine lv_iload_n hx hb d_S_init_14 rfl (lv_at hl 1 rfl) ?_
      refine lv_bipush (v := (nI 8)) hx hb d_S_init_15 (by decide) ?_
      refine lv_icmp_ge (tgt := 33) hx hb d_S_init_17 (by decide) (fun _ => ?_) (fun hc9 => absurd (nI_le (by omega) (by omega)) hc9)
      obtain rfl : i = 8 := by omega
      have hP9 := hP.sub [0, 1] rfl
      exact W.vret hx hb hr (fun tS ht hW => ⟨⟨q, rfl, trivial, by rw [ht]; exact hP9, va_K.moved hW.alike hK, hD.sub [0, 1] (by decide) rfl⟩, hS.F ht⟩) hS.2.2 d_S_init_33
    | succ n ih =>
      intro i hi q H locs hP hD hS ls hl
      refine lv_iload_n hx hb d_S_init_14 rfl (lv_at hl 1 rfl) ?_
      refine lv_bipush (v := (nI 8)) hx hb d_S_init_15 (by decide) ?_
      refine lv_icmp_ge (tgt := 33) hx hb d_S_init_17 (by decide) (fun hc9 => absurd hc9 (nI_ge (by omega) (by omega))) (fun _ => ?_)
      refine lv_aload_n hx hb d_S_init_20 rfl (lv_at hl 0 rfl) ?_
      refine va_get (D := (dC, dI)) (ci := 1) (v := .ref q) (C := R_S) (T := T_S) (N := 1) hx hb hts (fun w h9 => ct_tl (ki_S w h9)) hown hK hP 0 rfl rfl 0 (by decide) (hts _ (ct_tl kw_56)) (fun _ h9 => h9) rfl d_S_init_21 ?_
      refine lv_iload_n hx hb d_S_init_24 rfl (lv_at hl 1 rfl) ?_
      refine lv_iconst (v := (nI 2)) hx hb d_S_init_25 (by decide) ?_
      refine ct_iast hx hb hK hP hD hS 1 0 rfl rfl (j := i) (by omega) (by omega) d_S_init_26 (fun H locs hP hD hS => ?_)
      have hP : va_P (dC, dI) ct_cl [(z0, .inr (1, [.ref q])), (q, .inl (cI, 8, .inl (upd (fun j => nI (if j < i then 2 else 0)) i (nI 2))))] H := hP
      have hD : va_D A [(z0, .inr (1, [.ref q])), (q, .inl (cI, 8, .inl (upd (fun j => nI (if j < i then 2 else 0)) i (nI 2))))] := hD
      rw [show (upd (fun j => nI (if j < i then 2 else 0)) i (nI 2)) = (fun j => nI (if j < i + 1 then 2 else 0)) from ct_init_fun i] at hP hD
      refine lv_iinc (v := (nI (i + 1))) (lv' := [(1, .int (nI (i + 1))), (0, .ref z0)]) hx hb d_S_init_27 hl (k := 1) rfl (nI_1 _) (by decide) rfl (fun ls hl => ?_)
      refine lv_goto (tgt := 14) hx hb d_S_init_30 (by decide) ?_
      exact ih (i + 1) (by omega) q H locs hP hD hS ls (lv_sub hl [1, 0] rfl)
  refine lv_aload_n hx hb d_S_init_4 rfl (lv_at hl 0 rfl) ?_
  refine lv_bipush (v := (nI 8)) hx hb d_S_init_5 (by decide) ?_
  refine va_newa (atype := .int) (ty := .int) (a0 := (8, .inl (fun _ => 0))) hx hb (hts _ (ct_tl kw_60)) rfl hK hP hD hS hA (fun _ => rfl) (nI_pos (by omega)) (nI_clamp (by omega)) (by show 8 * 4 ≤ 536870912; omega) (Nat.le_of_ble_eq_true rfl) (Nat.le_of_ble_eq_true rfl) d_S_init_7 (fun q cA H hK9 hP hD hS => ?_)
  rw [ct_cA hK9] at hP hD
  have hP : va_P (dC, dI) ct_cl [(z0, .inr (1, [.null])), (q, .inl (cI, 8, .inl (fun _ => 0)))] H := hP
  have hD : va_D A [(z0, .inr (1, [.null])), (q, .inl (cI, 8, .inl (fun _ => 0)))] := hD
  refine va_putF (D := (dC, dI)) (ci := 1) (v := .ref q) (ty := .array .int) (C := R_S) (T := T_S) (N := 1) hx hb hts (fun w h9 => ct_tl (ki_S w h9)) ty_S ok_S nm_S hown hK hP hD hS 0 rfl rfl 0 (by decide) (hts _ (ct_tl kw_56)) (fun _ h9 => h9) rfl hin rfl (by decide +kernel) rfl rfl (Nat.le_of_ble_eq_true rfl) d_S_init_9 (fun H locs hP hD hS => ?_)
  have hP : va_P (dC, dI) ct_cl [(z0, .inr (1, [.ref q])), (q, .inl (cI, 8, .inl (fun _ => 0)))] H := hP
  have hD : va_D A [(z0, .inr (1, [.ref q])), (q, .inl (cI, 8, .inl (fun _ => 0)))] := hD
  refine lv_iconst (v := (nI 0)) hx hb d_S_init_12 (by decide) ?_
  refine lv_istore_n (lv' := [(1, .int (nI 0)), (0, .ref z0)]) hx hb d_S_init_13 rfl hl (by decide) rfl (fun ls hl => ?_)
  exact loop 8 0 rfl q _ _ hP hD hS ls (lv_sub hl [1, 0] rfl)
set_option maxHeartbeats 4000000 in
set_option maxRecDepth 100000 in
theorem c_P_init (l : Launch) (dC : Nat → ClassId) (dI : Nat → Nat → Nat) (cI : ClassId) (z0 p0 : Nat) (sz0 : Nat) : Met l y_P_init w_P_init ({ frames := 1, cells := 5, slots := 261, locals := 12 }) (va_Pc [.ref p0, .ref z0] (ct_rw (dC, dI) ct_cl [(p0, .inr (2, [.null, .null, .null, .null, .null, .null]))] [(cI, .int)] sz0)) (va_Qv (fun (u : Nat × Nat × Nat × Nat × Nat) => True) (fun (u : Nat × Nat × Nat × Nat × Nat) t => ct_at (dC, dI) ct_cl [(cI, .int)] (va_A [(p0, .inr (2, [.null, .null, .null, .null, .null, .null]))] sz0) [(p0, .inr (2, [.ref z0, .ref (u.1), .ref (u.2.1), .ref (u.2.2.1), .ref (u.2.2.2.1), .ref (u.2.2.2.2)])), ((u.1), .inl (cI, 64, .inl (fun _ => 0))), ((u.2.1), .inl (cI, 64, .inl (fun _ => 0))), ((u.2.2.1), .inl (cI, 64, .inl (fun _ => 0))), ((u.2.2.2.1), .inl (cI, 64, .inl (fun _ => 0))), ((u.2.2.2.2), .inl (cI, 5, .inl (fun _ => 0)))] t) (va_A [(p0, .inr (2, [.null, .null, .null, .null, .null, .null]))] sz0)) 5 261 (va_A [(p0, .inr (2, [.null, .null, .null, .null, .null, .null]))] sz0) := by
  refine Met.ofW (cc := b_P_init) (maxL := 2) (ret := none) (by decide) rfl ?_
  intro p e s m args below meth c s₁ Bd hml hv
  obtain ⟨hargs, hsz, hP, hK, hD0⟩ := hv
  have hx := Bd.exec
  have hb := Bd.bytes
  have hr := Bd.returns
  have hts : ∀ w ∈ k_P_init :: ct_tb, w.before args s = true := atoms_spec (ws := w_P_init) Bd.pre
  have hown : s.vm.findClass R_P = some m.cls := findClass_of_methodNamed Bd.named
  have hlocks := Bd.notSynchronized
  have hin : meth.name = "<init>" := (name_of_methodNamed Bd.named Bd.method).1
  subst hsz
  have hD := hD0.self (sz := s.heap.size)
  generalize hAe : va_A [(p0, .inr (2, [.null, .null, .null, .null, .null, .null]))] s.heap.size = A at hD ⊢
  have hA : ∀ q : Nat, s.heap.size ≤ q → A q := fun q h => by rw [← hAe]; exact Or.inr h
  have hS : va_S A s.heap s.heap [] := va_S.rf
  have hl := lv_entry ([.ref p0, .ref z0]) (n := 2) (Nat.le_of_ble_eq_true rfl)
  rw [show entryFrame m args 2 = entryFrame m (([.ref p0, .ref z0] : List Value)).toArray 2 by rw [hargs], lg_entry_eq]
  generalize (lg_sl ([.ref p0, .ref z0]) ++ List.replicate (2 - (lg_sl ([.ref p0, .ref z0])).length) Slot.unset).toArray = ls at hl ⊢
  have hl : lv_has ls 2 [(0, .ref p0), (1, .ref z0)] := hl
  refine lv_aload_n hx hb d_P_init_0 rfl (lv_at hl 0 rfl) ?_
  refine W.objInit hx hb hown (hts _ (ct_tl kw_66)) (hts _ (ct_tl kw_48)) (hts _ (ct_tl kw_49)) rfl (by rw [hml]; exact hl.1) rfl d_P_init_1 (Nat.le_of_ble_eq_true rfl) (Nat.le_of_ble_eq_true rfl) ?_
  refine W.eq (g2 := F0 m 4 ls []) rfl ?_
  refine lv_aload_n hx hb d_P_init_4 rfl (lv_at hl 0 rfl) ?_
  refine lv_aload_n hx hb d_P_init_5 rfl (lv_at hl 1 rfl) ?_
  refine va_putF (D := (dC, dI)) (ci := 2) (v := .ref z0) (ty := .object "ContractHouse$Sizes") (C := R_P) (T := T_P) (N := 6) hx hb hts (fun w h9 => ct_tl (ki_P w h9)) ty_P ok_P nm_P hown hK hP hD hS 0 rfl rfl 0 (by decide) (hts _ (ct_tl kw_67)) (fun _ h9 => h9) rfl hin rfl (by decide +kernel) rfl rfl (Nat.le_of_ble_eq_true rfl) d_P_init_6 (fun H locs hP hD hS => ?_)
  have hP : va_P (dC, dI) ct_cl [(p0, .inr (2, [.ref z0, .null, .null, .null, .null, .null]))] H := hP
  have hD : va_D A [(p0, .inr (2, [.ref z0, .null, .null, .null, .null, .null]))] := hD
  refine lv_aload_n hx hb d_P_init_9 rfl (lv_at hl 0 rfl) ?_
  refine lv_bipush (v := (nI 64)) hx hb d_P_init_10 (by decide) ?_
  refine va_newa (atype := .int) (ty := .int) (a0 := (64, .inl (fun _ => 0))) hx hb (hts _ (ct_tl kw_60)) rfl hK hP hD hS hA (fun _ => rfl) (nI_pos (by omega)) (nI_clamp (by omega)) (by show 64 * 4 ≤ 536870912; omega) (Nat.le_of_ble_eq_true rfl) (Nat.le_of_ble_eq_true rfl) d_P_init_12 (fun q12 cA H hK9 hP hD hS => ?_)
  rw [ct_cA hK9] at hP hD
  have hP : va_P (dC, dI) ct_cl [(p0, .inr (2, [.ref z0, .null, .null, .null, .null, .null])), (q12, .inl (cI, 64, .inl (fun _ => 0)))] H := hP
  have hD : va_D A [(p0, .inr (2, [.ref z0, .null, .null, .null, .null, .null])), (q12, .inl (cI, 64, .inl (fun _ => 0)))] := hD
  refine va_putF (D := (dC, dI)) (ci := 2) (v := .ref q12) (ty := .array .int) (C := R_P) (T := T_P) (N := 6) hx hb hts (fun w h9 => ct_tl (ki_P w h9)) ty_P ok_P nm_P hown hK hP hD hS 0 rfl rfl 1 (by decide) (hts _ (ct_tl kw_68)) (fun _ h9 => h9) rfl hin rfl (by decide +kernel) rfl rfl (Nat.le_of_ble_eq_true rfl) d_P_init_14 (fun H locs hP hD hS => ?_)
  have hP : va_P (dC, dI) ct_cl [(p0, .inr (2, [.ref z0, .ref q12, .null, .null, .null, .null])), (q12, .inl (cI, 64, .inl (fun _ => 0)))] H := hP
  have hD : va_D A [(p0, .inr (2, [.ref z0, .ref q12, .null, .null, .null, .null])), (q12, .inl (cI, 64, .inl (fun _ => 0)))] := hD
  refine lv_aload_n hx hb d_P_init_17 rfl (lv_at hl 0 rfl) ?_
  refine lv_bipush (v := (nI 64)) hx hb d_P_init_18 (by decide) ?_
  refine va_newa (atype := .int) (ty := .int) (a0 := (64, .inl (fun _ => 0))) hx hb (hts _ (ct_tl kw_60)) rfl hK hP hD hS hA (fun _ => rfl) (nI_pos (by omega)) (nI_clamp (by omega)) (by show 64 * 4 ≤ 536870912; omega) (Nat.le_of_ble_eq_true rfl) (Nat.le_of_ble_eq_true rfl) d_P_init_20 (fun q20 cA H hK9 hP hD hS => ?_)
  rw [ct_cA hK9] at hP hD
  have hP : va_P (dC, dI) ct_cl [(p0, .inr (2, [.ref z0, .ref q12, .null, .null, .null, .null])), (q12, .inl (cI, 64, .inl (fun _ => 0))), (q20, .inl (cI, 64, .inl (fun _ => 0)))] H := hP
  have hD : va_D A [(p0, .inr (2, [.ref z0, .ref q12, .null, .null, .null, .null])), (q12, .inl (cI, 64, .inl (fun _ => 0))), (q20, .inl (cI, 64, .inl (fun _ => 0)))] := hD
  refine va_putF (D := (dC, dI)) (ci := 2) (v := .ref q20) (ty := .array .int) (C := R_P) (T := T_P) (N := 6) hx hb hts (fun w h9 => ct_tl (ki_P w h9)) ty_P ok_P nm_P hown hK hP hD hS 0 rfl rfl 2 (by decide) (hts _ (ct_tl kw_69)) (fun _ h9 => h9) rfl hin rfl (by decide +kernel) rfl rfl (Nat.le_of_ble_eq_true rfl) d_P_init_22 (fun H locs hP hD hS => ?_)
  have hP : va_P (dC, dI) ct_cl [(p0, .inr (2, [.ref z0, .ref q12, .ref q20, .null, .null, .null])), (q12, .inl (cI, 64, .inl (fun _ => 0))), (q20, .inl (cI, 64, .inl (fun _ => 0)))] H := hP
  have hD : va_D A [(p0, .inr (2, [.ref z0, .ref q12, .ref q20, .null, .null, .null])), (q12, .inl (cI, 64, .inl (fun _ => 0))), (q20, .inl (cI, 64, .inl (fun _ => 0)))] := hD
  refine lv_aload_n hx hb d_P_init_25 rfl (lv_at hl 0 rfl) ?_
  refine lv_bipush (v := (nI 64)) hx hb d_P_init_26 (by decide) ?_
  refine va_newa (atype := .int) (ty := .int) (a0 := (64, .inl (fun _ => 0))) hx hb (hts _ (ct_tl kw_60)) rfl hK hP hD hS hA (fun _ => rfl) (nI_pos (by omega)) (nI_clamp (by omega)) (by show 64 * 4 ≤ 536870912; omega) (Nat.le_of_ble_eq_true rfl) (Nat.le_of_ble_eq_true rfl) d_P_init_28 (fun q28 cA H hK9 hP hD hS => ?_)
  rw [ct_cA hK9] at hP hD
  have hP : va_P (dC, dI) ct_cl [(p0, .inr (2, [.ref z0, .ref q12, .ref q20, .null, .null, .null])), (q12, .inl (cI, 64, .inl (fun _ => 0))), (q20, .inl (cI, 64, .inl (fun _ => 0))), (q28, .inl (cI, 64, .inl (fun _ => 0)))] H := hP
  have hD : va_D A [(p0, .inr (2, [.ref z0, .ref q12, .ref q20, .null, .null, .null])), (q12, .inl (cI, 64, .inl (fun _ => 0))), (q20, .inl (cI, 64, .inl (fun _ => 0))), (q28, .inl (cI, 64, .inl (fun _ => 0)))] := hD
  refine va_putF (D := (dC, dI)) (ci := 2) (v := .ref q28) (ty := .array .int) (C := R_P) (T := T_P) (N := 6) hx hb hts (fun w h9 => ct_tl (ki_P w h9)) ty_P ok_P nm_P hown hK hP hD hS 0 rfl rfl 3 (by decide) (hts _ (ct_tl kw_70)) (fun _ h9 => h9) rfl hin rfl (by decide +kernel) rfl rfl (Nat.le_of_ble_eq_true rfl) d_P_init_30 (fun H locs hP hD hS => ?_)
  have hP : va_P (dC, dI) ct_cl [(p0, .inr (2, [.ref z0, .ref q12, .ref q20, .ref q28, .null, .null])), (q12, .inl (cI, 64, .inl (fun _ => 0))), (q20, .inl (cI, 64, .inl (fun _ => 0))), (q28, .inl (cI, 64, .inl (fun _ => 0)))] H := hP
  have hD : va_D A [(p0, .inr (2, [.ref z0, .ref q12, .ref q20, .ref q28, .null, .null])), (q12, .inl (cI, 64, .inl (fun _ => 0))), (q20, .inl (cI, 64, .inl (fun _ => 0))), (q28, .inl (cI, 64, .inl (fun _ => 0)))] := hD
  refine lv_aload_n hx hb d_P_init_33 rfl (lv_at hl 0 rfl) ?_
  refine lv_bipush (v := (nI 64)) hx hb d_P_init_34 (by decide) ?_
  refine va_newa (atype := .int) (ty := .int) (a0 := (64, .inl (fun _ => 0))) hx hb (hts _ (ct_tl kw_60)) rfl hK hP hD hS hA (fun _ => rfl) (nI_pos (by omega)) (nI_clamp (by omega)) (by show 64 * 4 ≤ 536870912; omega) (Nat.le_of_ble_eq_true rfl) (Nat.le_of_ble_eq_true rfl) d_P_init_36 (fun q36 cA H hK9 hP hD hS => ?_)
  rw [ct_cA hK9] at hP hD
  have hP : va_P (dC, dI) ct_cl [(p0, .inr (2, [.ref z0, .ref q12, .ref q20, .ref q28, .null, .null])), (q12, .inl (cI, 64, .inl (fun _ => 0))), (q20, .inl (cI, 64, .inl (fun _ => 0))), (q28, .inl (cI, 64, .inl (fun _ => 0))), (q36, .inl (cI, 64, .inl (fun _ => 0)))] H := hP
  have hD : va_D A [(p0, .inr (2, [.ref z0, .ref q12, .ref q20, .ref q28, .null, .null])), (q12, .inl (cI, 64, .inl (fun _ => 0))), (q20, .inl (cI, 64, .inl (fun _ => 0))), (q28, .inl (cI, 64, .inl (fun _ => 0))), (q36, .inl (cI, 64, .inl (fun _ => 0)))] := hD
  refine va_putF (D := (dC, dI)) (ci := 2) (v := .ref q36) (ty := .array .int) (C := R_P) (T := T_P) (N := 6) hx hb hts (fun w h9 => ct_tl (ki_P w h9)) ty_P ok_P nm_P hown hK hP hD hS 0 rfl rfl 4 (by decide) (hts _ (ct_tl kw_71)) (fun _ h9 => h9) rfl hin rfl (by decide +kernel) rfl rfl (Nat.le_of_ble_eq_true rfl) d_P_init_38 (fun H locs hP hD hS => ?_)
  have hP : va_P (dC, dI) ct_cl [(p0, .inr (2, [.ref z0, .ref q12, .ref q20, .ref q28, .ref q36, .null])), (q12, .inl (cI, 64, .inl (fun _ => 0))), (q20, .inl (cI, 64, .inl (fun _ => 0))), (q28, .inl (cI, 64, .inl (fun _ => 0))), (q36, .inl (cI, 64, .inl (fun _ => 0)))] H := hP
  have hD : va_D A [(p0, .inr (2, [.ref z0, .ref q12, .ref q20, .ref q28, .ref q36, .null])), (q12, .inl (cI, 64, .inl (fun _ => 0))), (q20, .inl (cI, 64, .inl (fun _ => 0))), (q28, .inl (cI, 64, .inl (fun _ => 0))), (q36, .inl (cI, 64, .inl (fun _ => 0)))] := hD
  refine lv_aload_n hx hb d_P_init_41 rfl (lv_at hl 0 rfl) ?_
  refine lv_iconst (v := (nI 5)) hx hb d_P_init_42 (by decide) ?_
  refine va_newa (atype := .int) (ty := .int) (a0 := (5, .inl (fun _ => 0))) hx hb (hts _ (ct_tl kw_60)) rfl hK hP hD hS hA (fun _ => rfl) (nI_pos (by omega)) (nI_clamp (by omega)) (by show 5 * 4 ≤ 536870912; omega) (Nat.le_of_ble_eq_true rfl) (Nat.le_of_ble_eq_true rfl) d_P_init_43 (fun q43 cA H hK9 hP hD hS => ?_)
  rw [ct_cA hK9] at hP hD
  have hP : va_P (dC, dI) ct_cl [(p0, .inr (2, [.ref z0, .ref q12, .ref q20, .ref q28, .ref q36, .null])), (q12, .inl (cI, 64, .inl (fun _ => 0))), (q20, .inl (cI, 64, .inl (fun _ => 0))), (q28, .inl (cI, 64, .inl (fun _ => 0))), (q36, .inl (cI, 64, .inl (fun _ => 0))), (q43, .inl (cI, 5, .inl (fun _ => 0)))] H := hP
  have hD : va_D A [(p0, .inr (2, [.ref z0, .ref q12, .ref q20, .ref q28, .ref q36, .null])), (q12, .inl (cI, 64, .inl (fun _ => 0))), (q20, .inl (cI, 64, .inl (fun _ => 0))), (q28, .inl (cI, 64, .inl (fun _ => 0))), (q36, .inl (cI, 64, .inl (fun _ => 0))), (q43, .inl (cI, 5, .inl (fun _ => 0)))] := hD
  refine va_putF (D := (dC, dI)) (ci := 2) (v := .ref q43) (ty := .array .int) (C := R_P) (T := T_P) (N := 6) hx hb hts (fun w h9 => ct_tl (ki_P w h9)) ty_P ok_P nm_P hown hK hP hD hS 0 rfl rfl 5 (by decide) (hts _ (ct_tl kw_72)) (fun _ h9 => h9) rfl hin rfl (by decide +kernel) rfl rfl (Nat.le_of_ble_eq_true rfl) d_P_init_45 (fun H locs hP hD hS => ?_)
  have hP : va_P (dC, dI) ct_cl [(p0, .inr (2, [.ref z0, .ref q12, .ref q20, .ref q28, .ref q36, .ref q43])), (q12, .inl (cI, 64, .inl (fun _ => 0))), (q20, .inl (cI, 64, .inl (fun _ => 0))), (q28, .inl (cI, 64, .inl (fun _ => 0))), (q36, .inl (cI, 64, .inl (fun _ => 0))), (q43, .inl (cI, 5, .inl (fun _ => 0)))] H := hP
  have hD : va_D A [(p0, .inr (2, [.ref z0, .ref q12, .ref q20, .ref q28, .ref q36, .ref q43])), (q12, .inl (cI, 64, .inl (fun _ => 0))), (q20, .inl (cI, 64, .inl (fun _ => 0))), (q28, .inl (cI, 64, .inl (fun _ => 0))), (q36, .inl (cI, 64, .inl (fun _ => 0))), (q43, .inl (cI, 5, .inl (fun _ => 0)))] := hD
  have hP9 := hP.sub [0, 1, 2, 3, 4, 5] rfl
  exact W.vret hx hb hr (fun tS ht hW => ⟨⟨(q12, q20, q28, q36, q43), rfl, trivial, by rw [ht]; exact hP9, va_K.moved hW.alike hK, hD.sub [0, 1, 2, 3, 4, 5] (by decide) rfl⟩, hS.F ht⟩) hS.2.2 d_P_init_48
set_option maxHeartbeats 4000000 in
set_option maxRecDepth 100000 in
theorem c_R_init (l : Launch) (dC : Nat → ClassId) (dI : Nat → Nat → Nat) (cI : ClassId) (z0 r0 : Nat) (sz0 : Nat) : Met l y_R_init w_R_init ({ frames := 1, cells := 6, slots := 284, locals := 12 }) (va_Pc [.ref r0, .ref z0] (ct_rw (dC, dI) ct_cl [(r0, .inr (3, [.null, .null, .null, .null, .null, .null, .null]))] [(cI, .int)] sz0)) (va_Qv (fun (u : Nat × Nat × Nat × Nat × Nat × Nat) => True) (fun (u : Nat × Nat × Nat × Nat × Nat × Nat) t => ct_at (dC, dI) ct_cl [(cI, .int)] (va_A [(r0, .inr (3, [.null, .null, .null, .null, .null, .null, .null]))] sz0) [(r0, .inr (3, [.ref z0, .ref (u.1), .ref (u.2.1), .ref (u.2.2.1), .ref (u.2.2.2.1), .ref (u.2.2.2.2.1), .ref (u.2.2.2.2.2)])), ((u.1), .inl (cI, 244, .inl (upd (fun _ => 0) 243 (nI 1)))), ((u.2.1), .inl (cI, 8, .inl (fun _ => 0))), ((u.2.2.1), .inl (cI, 8, .inl (fun _ => 0))), ((u.2.2.2.1), .inl (cI, 8, .inl (fun _ => 0))), ((u.2.2.2.2.1), .inl (cI, 8, .inl (fun _ => 0))), ((u.2.2.2.2.2), .inl (cI, 8, .inl (fun _ => 0)))] t) (va_A [(r0, .inr (3, [.null, .null, .null, .null, .null, .null, .null]))] sz0)) 6 284 (va_A [(r0, .inr (3, [.null, .null, .null, .null, .null, .null, .null]))] sz0) := by
  refine Met.ofW (cc := b_R_init) (maxL := 2) (ret := none) (by decide) rfl ?_
  intro p e s m args below meth c s₁ Bd hml hv
  obtain ⟨hargs, hsz, hP, hK, hD0⟩ := hv
  have hx := Bd.exec
  have hb := Bd.bytes
  have hr := Bd.returns
  have hts : ∀ w ∈ k_R_init :: ct_tb, w.before args s = true := atoms_spec (ws := w_R_init) Bd.pre
  have hown : s.vm.findClass R_R = some m.cls := findClass_of_methodNamed Bd.named
  have hlocks := Bd.notSynchronized
  have hin : meth.name = "<init>" := (name_of_methodNamed Bd.named Bd.method).1
  subst hsz
  have hD := hD0.self (sz := s.heap.size)
  generalize hAe : va_A [(r0, .inr (3, [.null, .null, .null, .null, .null, .null, .null]))] s.heap.size = A at hD ⊢
  have hA : ∀ q : Nat, s.heap.size ≤ q → A q := fun q h => by rw [← hAe]; exact Or.inr h
  have hS : va_S A s.heap s.heap [] := va_S.rf
  have hl := lv_entry ([.ref r0, .ref z0]) (n := 2) (Nat.le_of_ble_eq_true rfl)
  rw [show entryFrame m args 2 = entryFrame m (([.ref r0, .ref z0] : List Value)).toArray 2 by rw [hargs], lg_entry_eq]
  generalize (lg_sl ([.ref r0, .ref z0]) ++ List.replicate (2 - (lg_sl ([.ref r0, .ref z0])).length) Slot.unset).toArray = ls at hl ⊢
  have hl : lv_has ls 2 [(0, .ref r0), (1, .ref z0)] := hl
  refine lv_aload_n hx hb d_R_init_0 rfl (lv_at hl 0 rfl) ?_
  refine W.objInit hx hb hown (hts _ (ct_tl kw_91)) (hts _ (ct_tl kw_48)) (hts _ (ct_tl kw_49)) rfl (by rw [hml]; exact hl.1) rfl d_R_init_1 (Nat.le_of_ble_eq_true rfl) (Nat.le_of_ble_eq_true rfl) ?_
  refine W.eq (g2 := F0 m 4 ls []) rfl ?_
  refine lv_aload_n hx hb d_R_init_4 rfl (lv_at hl 0 rfl) ?_
  refine lv_aload_n hx hb d_R_init_5 rfl (lv_at hl 1 rfl) ?_
  refine va_putF (D := (dC, dI)) (ci := 3) (v := .ref z0) (ty := .object "ContractHouse$Sizes") (C := R_R) (T := T_R) (N := 7) hx hb hts (fun w h9 => ct_tl (ki_R w h9)) ty_R ok_R nm_R hown hK hP hD hS 0 rfl rfl 0 (by decide) (hts _ (ct_tl kw_92)) (fun _ h9 => h9) rfl hin rfl (by decide +kernel) rfl rfl (Nat.le_of_ble_eq_true rfl) d_R_init_6 (fun H locs hP hD hS => ?_)
  have hP : va_P (dC, dI) ct_cl [(r0, .inr (3, [.ref z0, .null, .null, .null, .null, .null, .null]))] H := hP
  have hD : va_D A [(r0, .inr (3, [.ref z0, .null, .null, .null, .null, .null, .null]))] := hD
  refine lv_aload_n hx hb d_R_init_9 rfl (lv_at hl 0 rfl) ?_
  refine lv_sipush (v := (nI 244)) hx hb d_R_init_10 (by decide) ?_
  refine va_newa (atype := .int) (ty := .int) (a0 := (244, .inl (fun _ => 0))) hx hb (hts _ (ct_tl kw_60)) rfl hK hP hD hS hA (fun _ => rfl) (nI_pos (by omega)) (nI_clamp (by omega)) (by show 244 * 4 ≤ 536870912; omega) (Nat.le_of_ble_eq_true rfl) (Nat.le_of_ble_eq_true rfl) d_R_init_13 (fun q13 cA H hK9 hP hD hS => ?_)
  rw [ct_cA hK9] at hP hD
  have hP : va_P (dC, dI) ct_cl [(r0, .inr (3, [.ref z0, .null, .null, .null, .null, .null, .null])), (q13, .inl (cI, 244, .inl (fun _ => 0)))] H := hP
  have hD : va_D A [(r0, .inr (3, [.ref z0, .null, .null, .null, .null, .null, .null])), (q13, .inl (cI, 244, .inl (fun _ => 0)))] := hD
  refine va_put (D := (dC, dI)) (ci := 3) (v := .ref q13) (ty := .array .int) (C := R_R) (T := T_R) (N := 7) hx hb hts (fun w h9 => ct_tl (ki_R w h9)) ty_R ok_R nm_R hown hK hP hD hS 0 rfl rfl 1 (by decide) (hts _ (ct_tl kw_93)) (fun _ h9 => h9) rfl (by decide +kernel) rfl rfl (Nat.le_of_ble_eq_true rfl) d_R_init_15 (fun H locs hP hD hS => ?_)
  have hP : va_P (dC, dI) ct_cl [(r0, .inr (3, [.ref z0, .ref q13, .null, .null, .null, .null, .null])), (q13, .inl (cI, 244, .inl (fun _ => 0)))] H := hP
  have hD : va_D A [(r0, .inr (3, [.ref z0, .ref q13, .null, .null, .null, .null, .null])), (q13, .inl (cI, 244, .inl (fun _ => 0)))] := hD
  refine lv_aload_n hx hb d_R_init_18 rfl (lv_at hl 0 rfl) ?_
  refine va_get (D := (dC, dI)) (ci := 3) (v := .ref q13) (C := R_R) (T := T_R) (N := 7) hx hb hts (fun w h9 => ct_tl (ki_R w h9)) hown hK hP 0 rfl rfl 1 (by decide) (hts _ (ct_tl kw_93)) (fun _ h9 => h9) rfl d_R_init_19 ?_
  refine lv_sipush (v := (nI 243)) hx hb d_R_init_22 (by decide) ?_
  refine lv_iconst (v := (nI 1)) hx hb d_R_init_25 (by decide) ?_
  refine ct_iast hx hb hK hP hD hS 1 0 rfl rfl (j := 243) (by omega) (by omega) d_R_init_26 (fun H locs hP hD hS => ?_)
  have hP : va_P (dC, dI) ct_cl [(r0, .inr (3, [.ref z0, .ref q13, .null, .null, .null, .null, .null])), (q13, .inl (cI, 244, .inl (upd (fun _ => 0) 243 (nI 1))))] H := hP
  have hD : va_D A [(r0, .inr (3, [.ref z0, .ref q13, .null, .null, .null, .null, .null])), (q13, .inl (cI, 244, .inl (upd (fun _ => 0) 243 (nI 1))))] := hD
  refine lv_aload_n hx hb d_R_init_27 rfl (lv_at hl 0 rfl) ?_
  refine lv_bipush (v := (nI 8)) hx hb d_R_init_28 (by decide) ?_
  refine va_newa (atype := .int) (ty := .int) (a0 := (8, .inl (fun _ => 0))) hx hb (hts _ (ct_tl kw_60)) rfl hK hP hD hS hA (fun _ => rfl) (nI_pos (by omega)) (nI_clamp (by omega)) (by show 8 * 4 ≤ 536870912; omega) (Nat.le_of_ble_eq_true rfl) (Nat.le_of_ble_eq_true rfl) d_R_init_30 (fun q30 cA H hK9 hP hD hS => ?_)
  rw [ct_cA hK9] at hP hD
  have hP : va_P (dC, dI) ct_cl [(r0, .inr (3, [.ref z0, .ref q13, .null, .null, .null, .null, .null])), (q13, .inl (cI, 244, .inl (upd (fun _ => 0) 243 (nI 1)))), (q30, .inl (cI, 8, .inl (fun _ => 0)))] H := hP
  have hD : va_D A [(r0, .inr (3, [.ref z0, .ref q13, .null, .null, .null, .null, .null])), (q13, .inl (cI, 244, .inl (upd (fun _ => 0) 243 (nI 1)))), (q30, .inl (cI, 8, .inl (fun _ => 0)))] := hD
  refine va_putF (D := (dC, dI)) (ci := 3) (v := .ref q30) (ty := .array .int) (C := R_R) (T := T_R) (N := 7) hx hb hts (fun w h9 => ct_tl (ki_R w h9)) ty_R ok_R nm_R hown hK hP hD hS 0 rfl rfl 2 (by decide) (hts _ (ct_tl kw_94)) (fun _ h9 => h9) rfl hin rfl (by decide +kernel) rfl rfl (Nat.le_of_ble_eq_true rfl) d_R_init_32 (fun H locs hP hD hS => ?_)
  have hP : va_P (dC, dI) ct_cl [(r0, .inr (3, [.ref z0, .ref q13, .ref q30, .null, .null, .null, .null])), (q13, .inl (cI, 244, .inl (upd (fun _ => 0) 243 (nI 1)))), (q30, .inl (cI, 8, .inl (fun _ => 0)))] H := hP
  have hD : va_D A [(r0, .inr (3, [.ref z0, .ref q13, .ref q30, .null, .null, .null, .null])), (q13, .inl (cI, 244, .inl (upd (fun _ => 0) 243 (nI 1)))), (q30, .inl (cI, 8, .inl (fun _ => 0)))] := hD
  refine lv_aload_n hx hb d_R_init_35 rfl (lv_at hl 0 rfl) ?_
  refine lv_bipush (v := (nI 8)) hx hb d_R_init_36 (by decide) ?_
  refine va_newa (atype := .int) (ty := .int) (a0 := (8, .inl (fun _ => 0))) hx hb (hts _ (ct_tl kw_60)) rfl hK hP hD hS hA (fun _ => rfl) (nI_pos (by omega)) (nI_clamp (by omega)) (by show 8 * 4 ≤ 536870912; omega) (Nat.le_of_ble_eq_true rfl) (Nat.le_of_ble_eq_true rfl) d_R_init_38 (fun q38 cA H hK9 hP hD hS => ?_)
  rw [ct_cA hK9] at hP hD
  have hP : va_P (dC, dI) ct_cl [(r0, .inr (3, [.ref z0, .ref q13, .ref q30, .null, .null, .null, .null])), (q13, .inl (cI, 244, .inl (upd (fun _ => 0) 243 (nI 1)))), (q30, .inl (cI, 8, .inl (fun _ => 0))), (q38, .inl (cI, 8, .inl (fun _ => 0)))] H := hP
  have hD : va_D A [(r0, .inr (3, [.ref z0, .ref q13, .ref q30, .null, .null, .null, .null])), (q13, .inl (cI, 244, .inl (upd (fun _ => 0) 243 (nI 1)))), (q30, .inl (cI, 8, .inl (fun _ => 0))), (q38, .inl (cI, 8, .inl (fun _ => 0)))] := hD
  refine va_putF (D := (dC, dI)) (ci := 3) (v := .ref q38) (ty := .array .int) (C := R_R) (T := T_R) (N := 7) hx hb hts (fun w h9 => ct_tl (ki_R w h9)) ty_R ok_R nm_R hown hK hP hD hS 0 rfl rfl 3 (by decide) (hts _ (ct_tl kw_95)) (fun _ h9 => h9) rfl hin rfl (by decide +kernel) rfl rfl (Nat.le_of_ble_eq_true rfl) d_R_init_40 (fun H locs hP hD hS => ?_)
  have hP : va_P (dC, dI) ct_cl [(r0, .inr (3, [.ref z0, .ref q13, .ref q30, .ref q38, .null, .null, .null])), (q13, .inl (cI, 244, .inl (upd (fun _ => 0) 243 (nI 1)))), (q30, .inl (cI, 8, .inl (fun _ => 0))), (q38, .inl (cI, 8, .inl (fun _ => 0)))] H := hP
  have hD : va_D A [(r0, .inr (3, [.ref z0, .ref q13, .ref q30, .ref q38, .null, .null, .null])), (q13, .inl (cI, 244, .inl (upd (fun _ => 0) 243 (nI 1)))), (q30, .inl (cI, 8, .inl (fun _ => 0))), (q38, .inl (cI, 8, .inl (fun _ => 0)))] := hD
  refine lv_aload_n hx hb d_R_init_43 rfl (lv_at hl 0 rfl) ?_
  refine lv_bipush (v := (nI 8)) hx hb d_R_init_44 (by decide) ?_
  refine va_newa (atype := .int) (ty := .int) (a0 := (8, .inl (fun _ => 0))) hx hb (hts _ (ct_tl kw_60)) rfl hK hP hD hS hA (fun _ => rfl) (nI_pos (by omega)) (nI_clamp (by omega)) (by show 8 * 4 ≤ 536870912; omega) (Nat.le_of_ble_eq_true rfl) (Nat.le_of_ble_eq_true rfl) d_R_init_46 (fun q46 cA H hK9 hP hD hS => ?_)
  rw [ct_cA hK9] at hP hD
  have hP : va_P (dC, dI) ct_cl [(r0, .inr (3, [.ref z0, .ref q13, .ref q30, .ref q38, .null, .null, .null])), (q13, .inl (cI, 244, .inl (upd (fun _ => 0) 243 (nI 1)))), (q30, .inl (cI, 8, .inl (fun _ => 0))), (q38, .inl (cI, 8, .inl (fun _ => 0))), (q46, .inl (cI, 8, .inl (fun _ => 0)))] H := hP
  have hD : va_D A [(r0, .inr (3, [.ref z0, .ref q13, .ref q30, .ref q38, .null, .null, .null])), (q13, .inl (cI, 244, .inl (upd (fun _ => 0) 243 (nI 1)))), (q30, .inl (cI, 8, .inl (fun _ => 0))), (q38, .inl (cI, 8, .inl (fun _ => 0))), (q46, .inl (cI, 8, .inl (fun _ => 0)))] := hD
  refine va_putF (D := (dC, dI)) (ci := 3) (v := .ref q46) (ty := .array .int) (C := R_R) (T := T_R) (N := 7) hx hb hts (fun w h9 => ct_tl (ki_R w h9)) ty_R ok_R nm_R hown hK hP hD hS 0 rfl rfl 4 (by decide) (hts _ (ct_tl kw_96)) (fun _ h9 => h9) rfl hin rfl (by decide +kernel) rfl rfl (Nat.le_of_ble_eq_true rfl) d_R_init_48 (fun H locs hP hD hS => ?_)
  have hP : va_P (dC, dI) ct_cl [(r0, .inr (3, [.ref z0, .ref q13, .ref q30, .ref q38, .ref q46, .null, .null])), (q13, .inl (cI, 244, .inl (upd (fun _ => 0) 243 (nI 1)))), (q30, .inl (cI, 8, .inl (fun _ => 0))), (q38, .inl (cI, 8, .inl (fun _ => 0))), (q46, .inl (cI, 8, .inl (fun _ => 0)))] H := hP
  have hD : va_D A [(r0, .inr (3, [.ref z0, .ref q13, .ref q30, .ref q38, .ref q46, .null, .null])), (q13, .inl (cI, 244, .inl (upd (fun _ => 0) 243 (nI 1)))), (q30, .inl (cI, 8, .inl (fun _ => 0))), (q38, .inl (cI, 8, .inl (fun _ => 0))), (q46, .inl (cI, 8, .inl (fun _ => 0)))] := hD
  refine lv_aload_n hx hb d_R_init_51 rfl (lv_at hl 0 rfl) ?_
  refine lv_bipush (v := (nI 8)) hx hb d_R_init_52 (by decide) ?_
  refine va_newa (atype := .int) (ty := .int) (a0 := (8, .inl (fun _ => 0))) hx hb (hts _ (ct_tl kw_60)) rfl hK hP hD hS hA (fun _ => rfl) (nI_pos (by omega)) (nI_clamp (by omega)) (by show 8 * 4 ≤ 536870912; omega) (Nat.le_of_ble_eq_true rfl) (Nat.le_of_ble_eq_true rfl) d_R_init_54 (fun q54 cA H hK9 hP hD hS => ?_)
  rw [ct_cA hK9] at hP hD
  have hP : va_P (dC, dI) ct_cl [(r0, .inr (3, [.ref z0, .ref q13, .ref q30, .ref q38, .ref q46, .null, .null])), (q13, .inl (cI, 244, .inl (upd (fun _ => 0) 243 (nI 1)))), (q30, .inl (cI, 8, .inl (fun _ => 0))), (q38, .inl (cI, 8, .inl (fun _ => 0))), (q46, .inl (cI, 8, .inl (fun _ => 0))), (q54, .inl (cI, 8, .inl (fun _ => 0)))] H := hP
  have hD : va_D A [(r0, .inr (3, [.ref z0, .ref q13, .ref q30, .ref q38, .ref q46, .null, .null])), (q13, .inl (cI, 244, .inl (upd (fun _ => 0) 243 (nI 1)))), (q30, .inl (cI, 8, .inl (fun _ => 0))), (q38, .inl (cI, 8, .inl (fun _ => 0))), (q46, .inl (cI, 8, .inl (fun _ => 0))), (q54, .inl (cI, 8, .inl (fun _ => 0)))] := hD
  refine va_putF (D := (dC, dI)) (ci := 3) (v := .ref q54) (ty := .array .int) (C := R_R) (T := T_R) (N := 7) hx hb hts (fun w h9 => ct_tl (ki_R w h9)) ty_R ok_R nm_R hown hK hP hD hS 0 rfl rfl 5 (by decide) (hts _ (ct_tl kw_97)) (fun _ h9 => h9) rfl hin rfl (by decide +kernel) rfl rfl (Nat.le_of_ble_eq_true rfl) d_R_init_56 (fun H locs hP hD hS => ?_)
  have hP : va_P (dC, dI) ct_cl [(r0, .inr (3, [.ref z0, .ref q13, .ref q30, .ref q38, .ref q46, .ref q54, .null])), (q13, .inl (cI, 244, .inl (upd (fun _ => 0) 243 (nI 1)))), (q30, .inl (cI, 8, .inl (fun _ => 0))), (q38, .inl (cI, 8, .inl (fun _ => 0))), (q46, .inl (cI, 8, .inl (fun _ => 0))), (q54, .inl (cI, 8, .inl (fun _ => 0)))] H := hP
  have hD : va_D A [(r0, .inr (3, [.ref z0, .ref q13, .ref q30, .ref q38, .ref q46, .ref q54, .null])), (q13, .inl (cI, 244, .inl (upd (fun _ => 0) 243 (nI 1)))), (q30, .inl (cI, 8, .inl (fun _ => 0))), (q38, .inl (cI, 8, .inl (fun _ => 0))), (q46, .inl (cI, 8, .inl (fun _ => 0))), (q54, .inl (cI, 8, .inl (fun _ => 0)))] := hD
  refine lv_aload_n hx hb d_R_init_59 rfl (lv_at hl 0 rfl) ?_
  refine lv_bipush (v := (nI 8)) hx hb d_R_init_60 (by decide) ?_
  refine va_newa (atype := .int) (ty := .int) (a0 := (8, .inl (fun _ => 0))) hx hb (hts _ (ct_tl kw_60)) rfl hK hP hD hS hA (fun _ => rfl) (nI_pos (by omega)) (nI_clamp (by omega)) (by show 8 * 4 ≤ 536870912; omega) (Nat.le_of_ble_eq_true rfl) (Nat.le_of_ble_eq_true rfl) d_R_init_62 (fun q62 cA H hK9 hP hD hS => ?_)
  rw [ct_cA hK9] at hP hD
  have hP : va_P (dC, dI) ct_cl [(r0, .inr (3, [.ref z0, .ref q13, .ref q30, .ref q38, .ref q46, .ref q54, .null])), (q13, .inl (cI, 244, .inl (upd (fun _ => 0) 243 (nI 1)))), (q30, .inl (cI, 8, .inl (fun _ => 0))), (q38, .inl (cI, 8, .inl (fun _ => 0))), (q46, .inl (cI, 8, .inl (fun _ => 0))), (q54, .inl (cI, 8, .inl (fun _ => 0))), (q62, .inl (cI, 8, .inl (fun _ => 0)))] H := hP
  have hD : va_D A [(r0, .inr (3, [.ref z0, .ref q13, .ref q30, .ref q38, .ref q46, .ref q54, .null])), (q13, .inl (cI, 244, .inl (upd (fun _ => 0) 243 (nI 1)))), (q30, .inl (cI, 8, .inl (fun _ => 0))), (q38, .inl (cI, 8, .inl (fun _ => 0))), (q46, .inl (cI, 8, .inl (fun _ => 0))), (q54, .inl (cI, 8, .inl (fun _ => 0))), (q62, .inl (cI, 8, .inl (fun _ => 0)))] := hD
  refine va_putF (D := (dC, dI)) (ci := 3) (v := .ref q62) (ty := .array .int) (C := R_R) (T := T_R) (N := 7) hx hb hts (fun w h9 => ct_tl (ki_R w h9)) ty_R ok_R nm_R hown hK hP hD hS 0 rfl rfl 6 (by decide) (hts _ (ct_tl kw_98)) (fun _ h9 => h9) rfl hin rfl (by decide +kernel) rfl rfl (Nat.le_of_ble_eq_true rfl) d_R_init_64 (fun H locs hP hD hS => ?_)
  have hP : va_P (dC, dI) ct_cl [(r0, .inr (3, [.ref z0, .ref q13, .ref q30, .ref q38, .ref q46, .ref q54, .ref q62])), (q13, .inl (cI, 244, .inl (upd (fun _ => 0) 243 (nI 1)))), (q30, .inl (cI, 8, .inl (fun _ => 0))), (q38, .inl (cI, 8, .inl (fun _ => 0))), (q46, .inl (cI, 8, .inl (fun _ => 0))), (q54, .inl (cI, 8, .inl (fun _ => 0))), (q62, .inl (cI, 8, .inl (fun _ => 0)))] H := hP
  have hD : va_D A [(r0, .inr (3, [.ref z0, .ref q13, .ref q30, .ref q38, .ref q46, .ref q54, .ref q62])), (q13, .inl (cI, 244, .inl (upd (fun _ => 0) 243 (nI 1)))), (q30, .inl (cI, 8, .inl (fun _ => 0))), (q38, .inl (cI, 8, .inl (fun _ => 0))), (q46, .inl (cI, 8, .inl (fun _ => 0))), (q54, .inl (cI, 8, .inl (fun _ => 0))), (q62, .inl (cI, 8, .inl (fun _ => 0)))] := hD
  have hP9 := hP.sub [0, 1, 2, 3, 4, 5, 6] rfl
  exact W.vret hx hb hr (fun tS ht hW => ⟨⟨(q13, q30, q38, q46, q54, q62), rfl, trivial, by rw [ht]; exact hP9, va_K.moved hW.alike hK, hD.sub [0, 1, 2, 3, 4, 5, 6] (by decide) rfl⟩, hS.F ht⟩) hS.2.2 d_R_init_67
set_option maxHeartbeats 4000000 in
set_option maxRecDepth 100000 in
theorem c_H_init (l : Launch) (dC : Nat → ClassId) (dI : Nat → Nat → Nat) (cI : ClassId) (h0 : Nat) (sz0 : Nat) : Met l y_H_init w_H_init ({ frames := 2, cells := 19, slots := 651, locals := 33 }) (va_Pc [.ref h0] (ct_rw (dC, dI) ct_cl [(h0, .inr (0, [.null, .null, .null, .int 0, .null, .int 0, .null, .null, .int 0, .null, .int 0, .int 0]))] [(cI, .int)] sz0)) (va_Qv (fun (u : Nat × Nat × Nat × Nat × Nat × Nat × Nat × Nat × Nat × Nat × Nat × Nat × Nat × Nat × Nat × Nat × Nat × Nat × Nat) => True) (fun (u : Nat × Nat × Nat × Nat × Nat × Nat × Nat × Nat × Nat × Nat × Nat × Nat × Nat × Nat × Nat × Nat × Nat × Nat × Nat) t => ct_at (dC, dI) ct_cl [(cI, .int)] (va_A [(h0, .inr (0, [.null, .null, .null, .int 0, .null, .int 0, .null, .null, .int 0, .null, .int 0, .int 0]))] sz0) [(h0, .inr (0, [.ref (u.1), .ref (u.2.2.1), .ref (u.2.2.2.2.2.2.2.2.1), .int 0, .ref (u.2.2.2.2.2.2.2.2.2.2.2.2.2.2.2.1), .int 0, .ref (u.2.2.2.2.2.2.2.2.2.2.2.2.2.2.2.2.1), .ref (u.2.2.2.2.2.2.2.2.2.2.2.2.2.2.2.2.2.1), .int 0, .ref (u.2.2.2.2.2.2.2.2.2.2.2.2.2.2.2.2.2.2), .int 0, .int 0])), ((u.2.2.2.2.2.2.2.2.2.2.2.2.2.2.2.1), .inl (cI, 8, .inl (fun _ => 0))), ((u.2.2.2.2.2.2.2.2.2.2.2.2.2.2.2.2.1), .inl (cI, 6, .inl (fun _ => 0))), ((u.2.2.2.2.2.2.2.2.2.2.2.2.2.2.2.2.2.1), .inl (cI, 6, .inl (fun _ => 0))), ((u.2.2.2.2.2.2.2.2.2.2.2.2.2.2.2.2.2.2), .inl (cI, 64, .inl (fun _ => 0))), ((u.2.2.1), .inr (2, [.ref (u.1), .ref (u.2.2.2.1), .ref (u.2.2.2.2.1), .ref (u.2.2.2.2.2.1), .ref (u.2.2.2.2.2.2.1), .ref (u.2.2.2.2.2.2.2.1)])), ((u.2.2.2.1), .inl (cI, 64, .inl (fun _ => 0))), ((u.2.2.2.2.1), .inl (cI, 64, .inl (fun _ => 0))), ((u.2.2.2.2.2.1), .inl (cI, 64, .inl (fun _ => 0))), ((u.2.2.2.2.2.2.1), .inl (cI, 64, .inl (fun _ => 0))), ((u.2.2.2.2.2.2.2.1), .inl (cI, 5, .inl (fun _ => 0))), ((u.2.2.2.2.2.2.2.2.1), .inr (3, [.ref (u.1), .ref (u.2.2.2.2.2.2.2.2.2.1), .ref (u.2.2.2.2.2.2.2.2.2.2.1), .ref (u.2.2.2.2.2.2.2.2.2.2.2.1), .ref (u.2.2.2.2.2.2.2.2.2.2.2.2.1), .ref (u.2.2.2.2.2.2.2.2.2.2.2.2.2.1), .ref (u.2.2.2.2.2.2.2.2.2.2.2.2.2.2.1)])), ((u.2.2.2.2.2.2.2.2.2.1), .inl (cI, 244, .inl (upd (fun _ => 0) 243 (nI 1)))), ((u.2.2.2.2.2.2.2.2.2.2.1), .inl (cI, 8, .inl (fun _ => 0))), ((u.2.2.2.2.2.2.2.2.2.2.2.1), .inl (cI, 8, .inl (fun _ => 0))), ((u.2.2.2.2.2.2.2.2.2.2.2.2.1), .inl (cI, 8, .inl (fun _ => 0))), ((u.2.2.2.2.2.2.2.2.2.2.2.2.2.1), .inl (cI, 8, .inl (fun _ => 0))), ((u.2.2.2.2.2.2.2.2.2.2.2.2.2.2.1), .inl (cI, 8, .inl (fun _ => 0))), ((u.1), .inr (1, [.ref (u.2.1)])), ((u.2.1), .inl (cI, 8, .inl (fun j => nI (ct_sz0 j))))] t) (va_A [(h0, .inr (0, [.null, .null, .null, .int 0, .null, .int 0, .null, .null, .int 0, .null, .int 0, .int 0]))] sz0)) 19 651 (va_A [(h0, .inr (0, [.null, .null, .null, .int 0, .null, .int 0, .null, .null, .int 0, .null, .int 0, .int 0]))] sz0) := by
  refine Met.ofW (cc := b_H_init) (maxL := 1) (ret := none) (by decide) rfl ?_
  intro p e s m args below meth c s₁ Bd hml hv
  obtain ⟨hargs, hsz, hP, hK, hD0⟩ := hv
  have hx := Bd.exec
  have hb := Bd.bytes
  have hr := Bd.returns
  have hts : ∀ w ∈ k_H_init :: ct_tb, w.before args s = true := atoms_spec (ws := w_H_init) Bd.pre
  have hown : s.vm.findClass R_H = some m.cls := findClass_of_methodNamed Bd.named
  have hlocks := Bd.notSynchronized
  have hin : meth.name = "<init>" := (name_of_methodNamed Bd.named Bd.method).1
  subst hsz
  have hD := hD0.self (sz := s.heap.size)
  generalize hAe : va_A [(h0, .inr (0, [.null, .null, .null, .int 0, .null, .int 0, .null, .null, .int 0, .null, .int 0, .int 0]))] s.heap.size = A at hD ⊢
  have hA : ∀ q : Nat, s.heap.size ≤ q → A q := fun q h => by rw [← hAe]; exact Or.inr h
  have hS : va_S A s.heap s.heap [] := va_S.rf
  have hl := lv_entry ([.ref h0]) (n := 1) (Nat.le_of_ble_eq_true rfl)
  rw [show entryFrame m args 1 = entryFrame m (([.ref h0] : List Value)).toArray 1 by rw [hargs], lg_entry_eq]
  generalize (lg_sl ([.ref h0]) ++ List.replicate (1 - (lg_sl ([.ref h0])).length) Slot.unset).toArray = ls at hl ⊢
  have hl : lv_has ls 1 [(0, .ref h0)] := hl
  refine lv_aload_n hx hb d_H_init_0 rfl (lv_at hl 0 rfl) ?_
  refine W.objInit hx hb hown (hts _ (ct_tl kw_47)) (hts _ (ct_tl kw_48)) (hts _ (ct_tl kw_49)) rfl (by rw [hml]; exact hl.1) rfl d_H_init_1 (Nat.le_of_ble_eq_true rfl) (Nat.le_of_ble_eq_true rfl) ?_
  refine W.eq (g2 := F0 m 4 ls []) rfl ?_
  refine lv_aload_n hx hb d_H_init_4 rfl (lv_at hl 0 rfl) ?_
  refine va_new (ci := 1) (fs := [.null]) (C := R_S) (T := T_S) (N := 1) hx hb hts (fun w h9 => ct_tl (ki_S w h9)) ty_S ok_S hown (hts _ (ct_tl kw_50)) (hts _ (ct_tl kw_51)) (hts _ (ct_tl kw_27)) hK hP hD hS hA rfl (fun j hj => by rcases (show j = 0 by omega) with rfl <;> rfl) (Nat.le_of_ble_eq_true rfl) (Nat.le_of_ble_eq_true rfl) d_H_init_5 (fun z0 H hP hD hS => ?_)
  have hP : va_P (dC, dI) ct_cl [(h0, .inr (0, [.null, .null, .null, .int 0, .null, .int 0, .null, .null, .int 0, .null, .int 0, .int 0])), (z0, .inr (1, [.null]))] H := hP
  have hD : va_D A [(h0, .inr (0, [.null, .null, .null, .int 0, .null, .int 0, .null, .null, .int 0, .null, .int 0, .int 0])), (z0, .inr (1, [.null]))] := hD
  refine lv_dup hx hb d_H_init_8 rfl ?_
  have hPc := hP.sub (ws' := [(z0, .inr (1, [.null]))]) [1] rfl
  have hDc := hD.sub (ws' := [(z0, .inr (1, [.null]))]) [1] (by decide) rfl
  have hFc := va_free (wc := [(z0, .inr (1, [.null]))]) hD hS hA [1] rfl
  refine va_callv (va_runI (As := []) (rest := [.ref z0, .ref h0]) ⟨hx, hb, hml, hown, hts⟩ (c_S_init l dC dI cI z0 H.size) (cwI 0 hts (ct_gi (fun w h9 => ct_tl h9) kw_54) rfl rfl rfl (hts _ (ct_tl kw_27)) (hts _ (ct_tl kw_52)) (hts _ (ct_tl kw_53)) rfl (by decide +kernel) ⟨Nat.le_of_ble_eq_true rfl, Nat.le_of_ble_eq_true rfl⟩) ⟨ct_rw_blind, ct_rw_pre hPc hK hDc⟩ rfl rfl hl.1 rfl (lv_room (Nat.le_of_ble_eq_true rfl)) d_H_init_9 ⟨Nat.le_of_ble_eq_true rfl, Nat.le_of_ble_eq_true rfl⟩) hS (fun q _ h9 => hFc q h9) hFc (fun z1 tS H1 locs ht hvm hw1 hB hz1 hk1 hS => ?_)
  obtain ⟨hP1, -, hD1⟩ := hB
  rw [ht] at hP1
  obtain ⟨hP, hD⟩ := va_join (wr := [(h0, .inr (0, [.null, .null, .null, .int 0, .null, .int 0, .null, .null, .int 0, .null, .int 0, .int 0]))]) (w1 := [(z0, .inr (1, [.ref z1])), (z1, .inl (cI, 8, .inl (fun j => nI (ct_sz0 j))))]) hP hD [1] [0] rfl rfl (by decide) (by decide) hk1 hFc hP1 hD1
  generalize H1 = H at hP hS ⊢
  have hP : va_P (dC, dI) ct_cl [(h0, .inr (0, [.null, .null, .null, .int 0, .null, .int 0, .null, .null, .int 0, .null, .int 0, .int 0])), (z0, .inr (1, [.ref z1])), (z1, .inl (cI, 8, .inl (fun j => nI (ct_sz0 j))))] H := hP
  have hD : va_D A [(h0, .inr (0, [.null, .null, .null, .int 0, .null, .int 0, .null, .null, .int 0, .null, .int 0, .int 0])), (z0, .inr (1, [.ref z1])), (z1, .inl (cI, 8, .inl (fun j => nI (ct_sz0 j))))] := hD
  refine va_putF (D := (dC, dI)) (ci := 0) (v := .ref z0) (ty := .object "ContractHouse$Sizes") (C := R_H) (T := T_H) (N := 12) hx hb hts (fun w h9 => ct_tl (ki_H w h9)) ty_H ok_H nm_H hown hK hP hD hS 0 rfl rfl 0 (by decide) (hts _ (ct_tl kw_114)) (fun _ h9 => h9) rfl hin rfl (by decide +kernel) rfl rfl (Nat.le_of_ble_eq_true rfl) d_H_init_12 (fun H locs hP hD hS => ?_)
  have hP : va_P (dC, dI) ct_cl [(h0, .inr (0, [.ref z0, .null, .null, .int 0, .null, .int 0, .null, .null, .int 0, .null, .int 0, .int 0])), (z0, .inr (1, [.ref z1])), (z1, .inl (cI, 8, .inl (fun j => nI (ct_sz0 j))))] H := hP
  have hD : va_D A [(h0, .inr (0, [.ref z0, .null, .null, .int 0, .null, .int 0, .null, .null, .int 0, .null, .int 0, .int 0])), (z0, .inr (1, [.ref z1])), (z1, .inl (cI, 8, .inl (fun j => nI (ct_sz0 j))))] := hD
  refine lv_aload_n hx hb d_H_init_15 rfl (lv_at hl 0 rfl) ?_
  refine va_new (ci := 2) (fs := [.null, .null, .null, .null, .null, .null]) (C := R_P) (T := T_P) (N := 6) hx hb hts (fun w h9 => ct_tl (ki_P w h9)) ty_P ok_P hown (hts _ (ct_tl kw_61)) (hts _ (ct_tl kw_62)) (hts _ (ct_tl kw_28)) hK hP hD hS hA rfl (fun j hj => by rcases (show j = 0 ∨ j = 1 ∨ j = 2 ∨ j = 3 ∨ j = 4 ∨ j = 5 by omega) with rfl | rfl | rfl | rfl | rfl | rfl <;> rfl) (Nat.le_of_ble_eq_true rfl) (Nat.le_of_ble_eq_true rfl) d_H_init_16 (fun p0 H hP hD hS => ?_)
  have hP : va_P (dC, dI) ct_cl [(h0, .inr (0, [.ref z0, .null, .null, .int 0, .null, .int 0, .null, .null, .int 0, .null, .int 0, .int 0])), (z0, .inr (1, [.ref z1])), (z1, .inl (cI, 8, .inl (fun j => nI (ct_sz0 j)))), (p0, .inr (2, [.null, .null, .null, .null, .null, .null]))] H := hP
  have hD : va_D A [(h0, .inr (0, [.ref z0, .null, .null, .int 0, .null, .int 0, .null, .null, .int 0, .null, .int 0, .int 0])), (z0, .inr (1, [.ref z1])), (z1, .inl (cI, 8, .inl (fun j => nI (ct_sz0 j)))), (p0, .inr (2, [.null, .null, .null, .null, .null, .null]))] := hD
  refine lv_dup hx hb d_H_init_19 rfl ?_
  refine lv_aload_n hx hb d_H_init_20 rfl (lv_at hl 0 rfl) ?_
  refine va_get (D := (dC, dI)) (ci := 0) (v := .ref z0) (C := R_H) (T := T_H) (N := 12) hx hb hts (fun w h9 => ct_tl (ki_H w h9)) hown hK hP 0 rfl rfl 0 (by decide) (hts _ (ct_tl kw_114)) (fun _ h9 => h9) rfl d_H_init_21 ?_
  have hPc := hP.sub (ws' := [(p0, .inr (2, [.null, .null, .null, .null, .null, .null]))]) [3] rfl
  have hDc := hD.sub (ws' := [(p0, .inr (2, [.null, .null, .null, .null, .null, .null]))]) [3] (by decide) rfl
  have hFc := va_free (wc := [(p0, .inr (2, [.null, .null, .null, .null, .null, .null]))]) hD hS hA [3] rfl
  refine va_callv (va_runI (As := [.ref z0]) (rest := [.ref p0, .ref h0]) ⟨hx, hb, hml, hown, hts⟩ (c_P_init l dC dI cI z0 p0 H.size) (cwI 1 hts (ct_gi (fun w h9 => ct_tl h9) kw_65) rfl rfl rfl (hts _ (ct_tl kw_28)) (hts _ (ct_tl kw_63)) (hts _ (ct_tl kw_64)) rfl (by decide +kernel) ⟨Nat.le_of_ble_eq_true rfl, Nat.le_of_ble_eq_true rfl⟩) ⟨ct_rw_blind, ct_rw_pre hPc hK hDc⟩ rfl rfl hl.1 rfl (lv_room (Nat.le_of_ble_eq_true rfl)) d_H_init_24 ⟨Nat.le_of_ble_eq_true rfl, Nat.le_of_ble_eq_true rfl⟩) hS (fun q _ h9 => hFc q h9) hFc (fun ⟨p1, p2, p3, p4, p5⟩ tS H1 locs ht hvm hw2 hB hz1 hk1 hS => ?_)
  obtain ⟨hP1, -, hD1⟩ := hB
  rw [ht] at hP1
  obtain ⟨hP, hD⟩ := va_join (wr := [(h0, .inr (0, [.ref z0, .null, .null, .int 0, .null, .int 0, .null, .null, .int 0, .null, .int 0, .int 0])), (z0, .inr (1, [.ref z1])), (z1, .inl (cI, 8, .inl (fun j => nI (ct_sz0 j))))]) (w1 := [(p0, .inr (2, [.ref z0, .ref p1, .ref p2, .ref p3, .ref p4, .ref p5])), (p1, .inl (cI, 64, .inl (fun _ => 0))), (p2, .inl (cI, 64, .inl (fun _ => 0))), (p3, .inl (cI, 64, .inl (fun _ => 0))), (p4, .inl (cI, 64, .inl (fun _ => 0))), (p5, .inl (cI, 5, .inl (fun _ => 0)))]) hP hD [3] [0, 1, 2] rfl rfl (by decide) (by decide) hk1 hFc hP1 hD1
  generalize H1 = H at hP hS ⊢
  have hP : va_P (dC, dI) ct_cl [(h0, .inr (0, [.ref z0, .null, .null, .int 0, .null, .int 0, .null, .null, .int 0, .null, .int 0, .int 0])), (z0, .inr (1, [.ref z1])), (z1, .inl (cI, 8, .inl (fun j => nI (ct_sz0 j)))), (p0, .inr (2, [.ref z0, .ref p1, .ref p2, .ref p3, .ref p4, .ref p5])), (p1, .inl (cI, 64, .inl (fun _ => 0))), (p2, .inl (cI, 64, .inl (fun _ => 0))), (p3, .inl (cI, 64, .inl (fun _ => 0))), (p4, .inl (cI, 64, .inl (fun _ => 0))), (p5, .inl (cI, 5, .inl (fun _ => 0)))] H := hP
  have hD : va_D A [(h0, .inr (0, [.ref z0, .null, .null, .int 0, .null, .int 0, .null, .null, .int 0, .null, .int 0, .int 0])), (z0, .inr (1, [.ref z1])), (z1, .inl (cI, 8, .inl (fun j => nI (ct_sz0 j)))), (p0, .inr (2, [.ref z0, .ref p1, .ref p2, .ref p3, .ref p4, .ref p5])), (p1, .inl (cI, 64, .inl (fun _ => 0))), (p2, .inl (cI, 64, .inl (fun _ => 0))), (p3, .inl (cI, 64, .inl (fun _ => 0))), (p4, .inl (cI, 64, .inl (fun _ => 0))), (p5, .inl (cI, 5, .inl (fun _ => 0)))] := hD
  refine va_putF (D := (dC, dI)) (ci := 0) (v := .ref p0) (ty := .object "ContractHouse$Plan") (C := R_H) (T := T_H) (N := 12) hx hb hts (fun w h9 => ct_tl (ki_H w h9)) ty_H ok_H nm_H hown hK hP hD hS 0 rfl rfl 1 (by decide) (hts _ (ct_tl kw_115)) (fun _ h9 => h9) rfl hin rfl (by decide +kernel) rfl rfl (Nat.le_of_ble_eq_true rfl) d_H_init_27 (fun H locs hP hD hS => ?_)
  have hP : va_P (dC, dI) ct_cl [(h0, .inr (0, [.ref z0, .ref p0, .null, .int 0, .null, .int 0, .null, .null, .int 0, .null, .int 0, .int 0])), (z0, .inr (1, [.ref z1])), (z1, .inl (cI, 8, .inl (fun j => nI (ct_sz0 j)))), (p0, .inr (2, [.ref z0, .ref p1, .ref p2, .ref p3, .ref p4, .ref p5])), (p1, .inl (cI, 64, .inl (fun _ => 0))), (p2, .inl (cI, 64, .inl (fun _ => 0))), (p3, .inl (cI, 64, .inl (fun _ => 0))), (p4, .inl (cI, 64, .inl (fun _ => 0))), (p5, .inl (cI, 5, .inl (fun _ => 0)))] H := hP
  have hD : va_D A [(h0, .inr (0, [.ref z0, .ref p0, .null, .int 0, .null, .int 0, .null, .null, .int 0, .null, .int 0, .int 0])), (z0, .inr (1, [.ref z1])), (z1, .inl (cI, 8, .inl (fun j => nI (ct_sz0 j)))), (p0, .inr (2, [.ref z0, .ref p1, .ref p2, .ref p3, .ref p4, .ref p5])), (p1, .inl (cI, 64, .inl (fun _ => 0))), (p2, .inl (cI, 64, .inl (fun _ => 0))), (p3, .inl (cI, 64, .inl (fun _ => 0))), (p4, .inl (cI, 64, .inl (fun _ => 0))), (p5, .inl (cI, 5, .inl (fun _ => 0)))] := hD
  refine lv_aload_n hx hb d_H_init_30 rfl (lv_at hl 0 rfl) ?_
  refine va_new (ci := 3) (fs := [.null, .null, .null, .null, .null, .null, .null]) (C := R_R) (T := T_R) (N := 7) hx hb hts (fun w h9 => ct_tl (ki_R w h9)) ty_R ok_R hown (hts _ (ct_tl kw_86)) (hts _ (ct_tl kw_87)) (hts _ (ct_tl kw_29)) hK hP hD hS hA rfl (fun j hj => by rcases (show j = 0 ∨ j = 1 ∨ j = 2 ∨ j = 3 ∨ j = 4 ∨ j = 5 ∨ j = 6 by omega) with rfl | rfl | rfl | rfl | rfl | rfl | rfl <;> rfl) (Nat.le_of_ble_eq_true rfl) (Nat.le_of_ble_eq_true rfl) d_H_init_31 (fun r0 H hP hD hS => ?_)
  have hP : va_P (dC, dI) ct_cl [(h0, .inr (0, [.ref z0, .ref p0, .null, .int 0, .null, .int 0, .null, .null, .int 0, .null, .int 0, .int 0])), (z0, .inr (1, [.ref z1])), (z1, .inl (cI, 8, .inl (fun j => nI (ct_sz0 j)))), (p0, .inr (2, [.ref z0, .ref p1, .ref p2, .ref p3, .ref p4, .ref p5])), (p1, .inl (cI, 64, .inl (fun _ => 0))), (p2, .inl (cI, 64, .inl (fun _ => 0))), (p3, .inl (cI, 64, .inl (fun _ => 0))), (p4, .inl (cI, 64, .inl (fun _ => 0))), (p5, .inl (cI, 5, .inl (fun _ => 0))), (r0, .inr (3, [.null, .null, .null, .null, .null, .null, .null]))] H := hP
  have hD : va_D A [(h0, .inr (0, [.ref z0, .ref p0, .null, .int 0, .null, .int 0, .null, .null, .int 0, .null, .int 0, .int 0])), (z0, .inr (1, [.ref z1])), (z1, .inl (cI, 8, .inl (fun j => nI (ct_sz0 j)))), (p0, .inr (2, [.ref z0, .ref p1, .ref p2, .ref p3, .ref p4, .ref p5])), (p1, .inl (cI, 64, .inl (fun _ => 0))), (p2, .inl (cI, 64, .inl (fun _ => 0))), (p3, .inl (cI, 64, .inl (fun _ => 0))), (p4, .inl (cI, 64, .inl (fun _ => 0))), (p5, .inl (cI, 5, .inl (fun _ => 0))), (r0, .inr (3, [.null, .null, .null, .null, .null, .null, .null]))] := hD
  refine lv_dup hx hb d_H_init_34 rfl ?_
  refine lv_aload_n hx hb d_H_init_35 rfl (lv_at hl 0 rfl) ?_
  refine va_get (D := (dC, dI)) (ci := 0) (v := .ref z0) (C := R_H) (T := T_H) (N := 12) hx hb hts (fun w h9 => ct_tl (ki_H w h9)) hown hK hP 0 rfl rfl 0 (by decide) (hts _ (ct_tl kw_114)) (fun _ h9 => h9) rfl d_H_init_36 ?_
  have hPc := hP.sub (ws' := [(r0, .inr (3, [.null, .null, .null, .null, .null, .null, .null]))]) [9] rfl
  have hDc := hD.sub (ws' := [(r0, .inr (3, [.null, .null, .null, .null, .null, .null, .null]))]) [9] (by decide) rfl
  have hFc := va_free (wc := [(r0, .inr (3, [.null, .null, .null, .null, .null, .null, .null]))]) hD hS hA [9] rfl
  refine va_callv (va_runI (As := [.ref z0]) (rest := [.ref r0, .ref h0]) ⟨hx, hb, hml, hown, hts⟩ (c_R_init l dC dI cI z0 r0 H.size) (cwI 1 hts (ct_gi (fun w h9 => ct_tl h9) kw_90) rfl rfl rfl (hts _ (ct_tl kw_29)) (hts _ (ct_tl kw_88)) (hts _ (ct_tl kw_89)) rfl (by decide +kernel) ⟨Nat.le_of_ble_eq_true rfl, Nat.le_of_ble_eq_true rfl⟩) ⟨ct_rw_blind, ct_rw_pre hPc hK hDc⟩ rfl rfl hl.1 rfl (lv_room (Nat.le_of_ble_eq_true rfl)) d_H_init_39 ⟨Nat.le_of_ble_eq_true rfl, Nat.le_of_ble_eq_true rfl⟩) hS (fun q _ h9 => hFc q h9) hFc (fun ⟨r1, r2, r3, r4, r5, r6⟩ tS H1 locs ht hvm hw3 hB hz1 hk1 hS => ?_)
  obtain ⟨hP1, -, hD1⟩ := hB
  rw [ht] at hP1
  obtain ⟨hP, hD⟩ := va_join (wr := [(h0, .inr (0, [.ref z0, .ref p0, .null, .int 0, .null, .int 0, .null, .null, .int 0, .null, .int 0, .int 0])), (z0, .inr (1, [.ref z1])), (z1, .inl (cI, 8, .inl (fun j => nI (ct_sz0 j)))), (p0, .inr (2, [.ref z0, .ref p1, .ref p2, .ref p3, .ref p4, .ref p5])), (p1, .inl (cI, 64, .inl (fun _ => 0))), (p2, .inl (cI, 64, .inl (fun _ => 0))), (p3, .inl (cI, 64, .inl (fun _ => 0))), (p4, .inl (cI, 64, .inl (fun _ => 0))), (p5, .inl (cI, 5, .inl (fun _ => 0)))]) (w1 := [(r0, .inr (3, [.ref z0, .ref r1, .ref r2, .ref r3, .ref r4, .ref r5, .ref r6])), (r1, .inl (cI, 244, .inl (upd (fun _ => 0) 243 (nI 1)))), (r2, .inl (cI, 8, .inl (fun _ => 0))), (r3, .inl (cI, 8, .inl (fun _ => 0))), (r4, .inl (cI, 8, .inl (fun _ => 0))), (r5, .inl (cI, 8, .inl (fun _ => 0))), (r6, .inl (cI, 8, .inl (fun _ => 0)))]) hP hD [9] [0, 1, 2, 3, 4, 5, 6, 7, 8] rfl rfl (by decide) (by decide) hk1 hFc hP1 hD1
  generalize H1 = H at hP hS ⊢
  have hP : va_P (dC, dI) ct_cl [(h0, .inr (0, [.ref z0, .ref p0, .null, .int 0, .null, .int 0, .null, .null, .int 0, .null, .int 0, .int 0])), (z0, .inr (1, [.ref z1])), (z1, .inl (cI, 8, .inl (fun j => nI (ct_sz0 j)))), (p0, .inr (2, [.ref z0, .ref p1, .ref p2, .ref p3, .ref p4, .ref p5])), (p1, .inl (cI, 64, .inl (fun _ => 0))), (p2, .inl (cI, 64, .inl (fun _ => 0))), (p3, .inl (cI, 64, .inl (fun _ => 0))), (p4, .inl (cI, 64, .inl (fun _ => 0))), (p5, .inl (cI, 5, .inl (fun _ => 0))), (r0, .inr (3, [.ref z0, .ref r1, .ref r2, .ref r3, .ref r4, .ref r5, .ref r6])), (r1, .inl (cI, 244, .inl (upd (fun _ => 0) 243 (nI 1)))), (r2, .inl (cI, 8, .inl (fun _ => 0))), (r3, .inl (cI, 8, .inl (fun _ => 0))), (r4, .inl (cI, 8, .inl (fun _ => 0))), (r5, .inl (cI, 8, .inl (fun _ => 0))), (r6, .inl (cI, 8, .inl (fun _ => 0)))] H := hP
  have hD : va_D A [(h0, .inr (0, [.ref z0, .ref p0, .null, .int 0, .null, .int 0, .null, .null, .int 0, .null, .int 0, .int 0])), (z0, .inr (1, [.ref z1])), (z1, .inl (cI, 8, .inl (fun j => nI (ct_sz0 j)))), (p0, .inr (2, [.ref z0, .ref p1, .ref p2, .ref p3, .ref p4, .ref p5])), (p1, .inl (cI, 64, .inl (fun _ => 0))), (p2, .inl (cI, 64, .inl (fun _ => 0))), (p3, .inl (cI, 64, .inl (fun _ => 0))), (p4, .inl (cI, 64, .inl (fun _ => 0))), (p5, .inl (cI, 5, .inl (fun _ => 0))), (r0, .inr (3, [.ref z0, .ref r1, .ref r2, .ref r3, .ref r4, .ref r5, .ref r6])), (r1, .inl (cI, 244, .inl (upd (fun _ => 0) 243 (nI 1)))), (r2, .inl (cI, 8, .inl (fun _ => 0))), (r3, .inl (cI, 8, .inl (fun _ => 0))), (r4, .inl (cI, 8, .inl (fun _ => 0))), (r5, .inl (cI, 8, .inl (fun _ => 0))), (r6, .inl (cI, 8, .inl (fun _ => 0)))] := hD
  refine va_putF (D := (dC, dI)) (ci := 0) (v := .ref r0) (ty := .object "ContractHouse$Row") (C := R_H) (T := T_H) (N := 12) hx hb hts (fun w h9 => ct_tl (ki_H w h9)) ty_H ok_H nm_H hown hK hP hD hS 0 rfl rfl 2 (by decide) (hts _ (ct_tl kw_116)) (fun _ h9 => h9) rfl hin rfl (by decide +kernel) rfl rfl (Nat.le_of_ble_eq_true rfl) d_H_init_42 (fun H locs hP hD hS => ?_)
  have hP : va_P (dC, dI) ct_cl [(h0, .inr (0, [.ref z0, .ref p0, .ref r0, .int 0, .null, .int 0, .null, .null, .int 0, .null, .int 0, .int 0])), (z0, .inr (1, [.ref z1])), (z1, .inl (cI, 8, .inl (fun j => nI (ct_sz0 j)))), (p0, .inr (2, [.ref z0, .ref p1, .ref p2, .ref p3, .ref p4, .ref p5])), (p1, .inl (cI, 64, .inl (fun _ => 0))), (p2, .inl (cI, 64, .inl (fun _ => 0))), (p3, .inl (cI, 64, .inl (fun _ => 0))), (p4, .inl (cI, 64, .inl (fun _ => 0))), (p5, .inl (cI, 5, .inl (fun _ => 0))), (r0, .inr (3, [.ref z0, .ref r1, .ref r2, .ref r3, .ref r4, .ref r5, .ref r6])), (r1, .inl (cI, 244, .inl (upd (fun _ => 0) 243 (nI 1)))), (r2, .inl (cI, 8, .inl (fun _ => 0))), (r3, .inl (cI, 8, .inl (fun _ => 0))), (r4, .inl (cI, 8, .inl (fun _ => 0))), (r5, .inl (cI, 8, .inl (fun _ => 0))), (r6, .inl (cI, 8, .inl (fun _ => 0)))] H := hP
  have hD : va_D A [(h0, .inr (0, [.ref z0, .ref p0, .ref r0, .int 0, .null, .int 0, .null, .null, .int 0, .null, .int 0, .int 0])), (z0, .inr (1, [.ref z1])), (z1, .inl (cI, 8, .inl (fun j => nI (ct_sz0 j)))), (p0, .inr (2, [.ref z0, .ref p1, .ref p2, .ref p3, .ref p4, .ref p5])), (p1, .inl (cI, 64, .inl (fun _ => 0))), (p2, .inl (cI, 64, .inl (fun _ => 0))), (p3, .inl (cI, 64, .inl (fun _ => 0))), (p4, .inl (cI, 64, .inl (fun _ => 0))), (p5, .inl (cI, 5, .inl (fun _ => 0))), (r0, .inr (3, [.ref z0, .ref r1, .ref r2, .ref r3, .ref r4, .ref r5, .ref r6])), (r1, .inl (cI, 244, .inl (upd (fun _ => 0) 243 (nI 1)))), (r2, .inl (cI, 8, .inl (fun _ => 0))), (r3, .inl (cI, 8, .inl (fun _ => 0))), (r4, .inl (cI, 8, .inl (fun _ => 0))), (r5, .inl (cI, 8, .inl (fun _ => 0))), (r6, .inl (cI, 8, .inl (fun _ => 0)))] := hD
  refine lv_aload_n hx hb d_H_init_45 rfl (lv_at hl 0 rfl) ?_
  refine lv_bipush (v := (nI 8)) hx hb d_H_init_46 (by decide) ?_
  refine va_newa (atype := .int) (ty := .int) (a0 := (8, .inl (fun _ => 0))) hx hb (hts _ (ct_tl kw_60)) rfl hK hP hD hS hA (fun _ => rfl) (nI_pos (by omega)) (nI_clamp (by omega)) (by show 8 * 4 ≤ 536870912; omega) (Nat.le_of_ble_eq_true rfl) (Nat.le_of_ble_eq_true rfl) d_H_init_48 (fun k1 cA H hK9 hP hD hS => ?_)
  rw [ct_cA hK9] at hP hD
  have hP : va_P (dC, dI) ct_cl [(h0, .inr (0, [.ref z0, .ref p0, .ref r0, .int 0, .null, .int 0, .null, .null, .int 0, .null, .int 0, .int 0])), (z0, .inr (1, [.ref z1])), (z1, .inl (cI, 8, .inl (fun j => nI (ct_sz0 j)))), (p0, .inr (2, [.ref z0, .ref p1, .ref p2, .ref p3, .ref p4, .ref p5])), (p1, .inl (cI, 64, .inl (fun _ => 0))), (p2, .inl (cI, 64, .inl (fun _ => 0))), (p3, .inl (cI, 64, .inl (fun _ => 0))), (p4, .inl (cI, 64, .inl (fun _ => 0))), (p5, .inl (cI, 5, .inl (fun _ => 0))), (r0, .inr (3, [.ref z0, .ref r1, .ref r2, .ref r3, .ref r4, .ref r5, .ref r6])), (r1, .inl (cI, 244, .inl (upd (fun _ => 0) 243 (nI 1)))), (r2, .inl (cI, 8, .inl (fun _ => 0))), (r3, .inl (cI, 8, .inl (fun _ => 0))), (r4, .inl (cI, 8, .inl (fun _ => 0))), (r5, .inl (cI, 8, .inl (fun _ => 0))), (r6, .inl (cI, 8, .inl (fun _ => 0))), (k1, .inl (cI, 8, .inl (fun _ => 0)))] H := hP
  have hD : va_D A [(h0, .inr (0, [.ref z0, .ref p0, .ref r0, .int 0, .null, .int 0, .null, .null, .int 0, .null, .int 0, .int 0])), (z0, .inr (1, [.ref z1])), (z1, .inl (cI, 8, .inl (fun j => nI (ct_sz0 j)))), (p0, .inr (2, [.ref z0, .ref p1, .ref p2, .ref p3, .ref p4, .ref p5])), (p1, .inl (cI, 64, .inl (fun _ => 0))), (p2, .inl (cI, 64, .inl (fun _ => 0))), (p3, .inl (cI, 64, .inl (fun _ => 0))), (p4, .inl (cI, 64, .inl (fun _ => 0))), (p5, .inl (cI, 5, .inl (fun _ => 0))), (r0, .inr (3, [.ref z0, .ref r1, .ref r2, .ref r3, .ref r4, .ref r5, .ref r6])), (r1, .inl (cI, 244, .inl (upd (fun _ => 0) 243 (nI 1)))), (r2, .inl (cI, 8, .inl (fun _ => 0))), (r3, .inl (cI, 8, .inl (fun _ => 0))), (r4, .inl (cI, 8, .inl (fun _ => 0))), (r5, .inl (cI, 8, .inl (fun _ => 0))), (r6, .inl (cI, 8, .inl (fun _ => 0))), (k1, .inl (cI, 8, .inl (fun _ => 0)))] := hD
  refine va_putF (D := (dC, dI)) (ci := 0) (v := .ref k1) (ty := .array .int) (C := R_H) (T := T_H) (N := 12) hx hb hts (fun w h9 => ct_tl (ki_H w h9)) ty_H ok_H nm_H hown hK hP hD hS 0 rfl rfl 4 (by decide) (hts _ (ct_tl kw_118)) (fun _ h9 => h9) rfl hin rfl (by decide +kernel) rfl rfl (Nat.le_of_ble_eq_true rfl) d_H_init_50 (fun H locs hP hD hS => ?_)
  have hP : va_P (dC, dI) ct_cl [(h0, .inr (0, [.ref z0, .ref p0, .ref r0, .int 0, .ref k1, .int 0, .null, .null, .int 0, .null, .int 0, .int 0])), (z0, .inr (1, [.ref z1])), (z1, .inl (cI, 8, .inl (fun j => nI (ct_sz0 j)))), (p0, .inr (2, [.ref z0, .ref p1, .ref p2, .ref p3, .ref p4, .ref p5])), (p1, .inl (cI, 64, .inl (fun _ => 0))), (p2, .inl (cI, 64, .inl (fun _ => 0))), (p3, .inl (cI, 64, .inl (fun _ => 0))), (p4, .inl (cI, 64, .inl (fun _ => 0))), (p5, .inl (cI, 5, .inl (fun _ => 0))), (r0, .inr (3, [.ref z0, .ref r1, .ref r2, .ref r3, .ref r4, .ref r5, .ref r6])), (r1, .inl (cI, 244, .inl (upd (fun _ => 0) 243 (nI 1)))), (r2, .inl (cI, 8, .inl (fun _ => 0))), (r3, .inl (cI, 8, .inl (fun _ => 0))), (r4, .inl (cI, 8, .inl (fun _ => 0))), (r5, .inl (cI, 8, .inl (fun _ => 0))), (r6, .inl (cI, 8, .inl (fun _ => 0))), (k1, .inl (cI, 8, .inl (fun _ => 0)))] H := hP
  have hD : va_D A [(h0, .inr (0, [.ref z0, .ref p0, .ref r0, .int 0, .ref k1, .int 0, .null, .null, .int 0, .null, .int 0, .int 0])), (z0, .inr (1, [.ref z1])), (z1, .inl (cI, 8, .inl (fun j => nI (ct_sz0 j)))), (p0, .inr (2, [.ref z0, .ref p1, .ref p2, .ref p3, .ref p4, .ref p5])), (p1, .inl (cI, 64, .inl (fun _ => 0))), (p2, .inl (cI, 64, .inl (fun _ => 0))), (p3, .inl (cI, 64, .inl (fun _ => 0))), (p4, .inl (cI, 64, .inl (fun _ => 0))), (p5, .inl (cI, 5, .inl (fun _ => 0))), (r0, .inr (3, [.ref z0, .ref r1, .ref r2, .ref r3, .ref r4, .ref r5, .ref r6])), (r1, .inl (cI, 244, .inl (upd (fun _ => 0) 243 (nI 1)))), (r2, .inl (cI, 8, .inl (fun _ => 0))), (r3, .inl (cI, 8, .inl (fun _ => 0))), (r4, .inl (cI, 8, .inl (fun _ => 0))), (r5, .inl (cI, 8, .inl (fun _ => 0))), (r6, .inl (cI, 8, .inl (fun _ => 0))), (k1, .inl (cI, 8, .inl (fun _ => 0)))] := hD
  refine lv_aload_n hx hb d_H_init_53 rfl (lv_at hl 0 rfl) ?_
  refine lv_bipush (v := (nI 6)) hx hb d_H_init_54 (by decide) ?_
  refine va_newa (atype := .int) (ty := .int) (a0 := (6, .inl (fun _ => 0))) hx hb (hts _ (ct_tl kw_60)) rfl hK hP hD hS hA (fun _ => rfl) (nI_pos (by omega)) (nI_clamp (by omega)) (by show 6 * 4 ≤ 536870912; omega) (Nat.le_of_ble_eq_true rfl) (Nat.le_of_ble_eq_true rfl) d_H_init_56 (fun k2 cA H hK9 hP hD hS => ?_)
  rw [ct_cA hK9] at hP hD
  have hP : va_P (dC, dI) ct_cl [(h0, .inr (0, [.ref z0, .ref p0, .ref r0, .int 0, .ref k1, .int 0, .null, .null, .int 0, .null, .int 0, .int 0])), (z0, .inr (1, [.ref z1])), (z1, .inl (cI, 8, .inl (fun j => nI (ct_sz0 j)))), (p0, .inr (2, [.ref z0, .ref p1, .ref p2, .ref p3, .ref p4, .ref p5])), (p1, .inl (cI, 64, .inl (fun _ => 0))), (p2, .inl (cI, 64, .inl (fun _ => 0))), (p3, .inl (cI, 64, .inl (fun _ => 0))), (p4, .inl (cI, 64, .inl (fun _ => 0))), (p5, .inl (cI, 5, .inl (fun _ => 0))), (r0, .inr (3, [.ref z0, .ref r1, .ref r2, .ref r3, .ref r4, .ref r5, .ref r6])), (r1, .inl (cI, 244, .inl (upd (fun _ => 0) 243 (nI 1)))), (r2, .inl (cI, 8, .inl (fun _ => 0))), (r3, .inl (cI, 8, .inl (fun _ => 0))), (r4, .inl (cI, 8, .inl (fun _ => 0))), (r5, .inl (cI, 8, .inl (fun _ => 0))), (r6, .inl (cI, 8, .inl (fun _ => 0))), (k1, .inl (cI, 8, .inl (fun _ => 0))), (k2, .inl (cI, 6, .inl (fun _ => 0)))] H := hP
  have hD : va_D A [(h0, .inr (0, [.ref z0, .ref p0, .ref r0, .int 0, .ref k1, .int 0, .null, .null, .int 0, .null, .int 0, .int 0])), (z0, .inr (1, [.ref z1])), (z1, .inl (cI, 8, .inl (fun j => nI (ct_sz0 j)))), (p0, .inr (2, [.ref z0, .ref p1, .ref p2, .ref p3, .ref p4, .ref p5])), (p1, .inl (cI, 64, .inl (fun _ => 0))), (p2, .inl (cI, 64, .inl (fun _ => 0))), (p3, .inl (cI, 64, .inl (fun _ => 0))), (p4, .inl (cI, 64, .inl (fun _ => 0))), (p5, .inl (cI, 5, .inl (fun _ => 0))), (r0, .inr (3, [.ref z0, .ref r1, .ref r2, .ref r3, .ref r4, .ref r5, .ref r6])), (r1, .inl (cI, 244, .inl (upd (fun _ => 0) 243 (nI 1)))), (r2, .inl (cI, 8, .inl (fun _ => 0))), (r3, .inl (cI, 8, .inl (fun _ => 0))), (r4, .inl (cI, 8, .inl (fun _ => 0))), (r5, .inl (cI, 8, .inl (fun _ => 0))), (r6, .inl (cI, 8, .inl (fun _ => 0))), (k1, .inl (cI, 8, .inl (fun _ => 0))), (k2, .inl (cI, 6, .inl (fun _ => 0)))] := hD
  refine va_putF (D := (dC, dI)) (ci := 0) (v := .ref k2) (ty := .array .int) (C := R_H) (T := T_H) (N := 12) hx hb hts (fun w h9 => ct_tl (ki_H w h9)) ty_H ok_H nm_H hown hK hP hD hS 0 rfl rfl 6 (by decide) (hts _ (ct_tl kw_120)) (fun _ h9 => h9) rfl hin rfl (by decide +kernel) rfl rfl (Nat.le_of_ble_eq_true rfl) d_H_init_58 (fun H locs hP hD hS => ?_)
  have hP : va_P (dC, dI) ct_cl [(h0, .inr (0, [.ref z0, .ref p0, .ref r0, .int 0, .ref k1, .int 0, .ref k2, .null, .int 0, .null, .int 0, .int 0])), (z0, .inr (1, [.ref z1])), (z1, .inl (cI, 8, .inl (fun j => nI (ct_sz0 j)))), (p0, .inr (2, [.ref z0, .ref p1, .ref p2, .ref p3, .ref p4, .ref p5])), (p1, .inl (cI, 64, .inl (fun _ => 0))), (p2, .inl (cI, 64, .inl (fun _ => 0))), (p3, .inl (cI, 64, .inl (fun _ => 0))), (p4, .inl (cI, 64, .inl (fun _ => 0))), (p5, .inl (cI, 5, .inl (fun _ => 0))), (r0, .inr (3, [.ref z0, .ref r1, .ref r2, .ref r3, .ref r4, .ref r5, .ref r6])), (r1, .inl (cI, 244, .inl (upd (fun _ => 0) 243 (nI 1)))), (r2, .inl (cI, 8, .inl (fun _ => 0))), (r3, .inl (cI, 8, .inl (fun _ => 0))), (r4, .inl (cI, 8, .inl (fun _ => 0))), (r5, .inl (cI, 8, .inl (fun _ => 0))), (r6, .inl (cI, 8, .inl (fun _ => 0))), (k1, .inl (cI, 8, .inl (fun _ => 0))), (k2, .inl (cI, 6, .inl (fun _ => 0)))] H := hP
  have hD : va_D A [(h0, .inr (0, [.ref z0, .ref p0, .ref r0, .int 0, .ref k1, .int 0, .ref k2, .null, .int 0, .null, .int 0, .int 0])), (z0, .inr (1, [.ref z1])), (z1, .inl (cI, 8, .inl (fun j => nI (ct_sz0 j)))), (p0, .inr (2, [.ref z0, .ref p1, .ref p2, .ref p3, .ref p4, .ref p5])), (p1, .inl (cI, 64, .inl (fun _ => 0))), (p2, .inl (cI, 64, .inl (fun _ => 0))), (p3, .inl (cI, 64, .inl (fun _ => 0))), (p4, .inl (cI, 64, .inl (fun _ => 0))), (p5, .inl (cI, 5, .inl (fun _ => 0))), (r0, .inr (3, [.ref z0, .ref r1, .ref r2, .ref r3, .ref r4, .ref r5, .ref r6])), (r1, .inl (cI, 244, .inl (upd (fun _ => 0) 243 (nI 1)))), (r2, .inl (cI, 8, .inl (fun _ => 0))), (r3, .inl (cI, 8, .inl (fun _ => 0))), (r4, .inl (cI, 8, .inl (fun _ => 0))), (r5, .inl (cI, 8, .inl (fun _ => 0))), (r6, .inl (cI, 8, .inl (fun _ => 0))), (k1, .inl (cI, 8, .inl (fun _ => 0))), (k2, .inl (cI, 6, .inl (fun _ => 0)))] := hD
  refine lv_aload_n hx hb d_H_init_61 rfl (lv_at hl 0 rfl) ?_
  refine lv_bipush (v := (nI 6)) hx hb d_H_init_62 (by decide) ?_
  refine va_newa (atype := .int) (ty := .int) (a0 := (6, .inl (fun _ => 0))) hx hb (hts _ (ct_tl kw_60)) rfl hK hP hD hS hA (fun _ => rfl) (nI_pos (by omega)) (nI_clamp (by omega)) (by show 6 * 4 ≤ 536870912; omega) (Nat.le_of_ble_eq_true rfl) (Nat.le_of_ble_eq_true rfl) d_H_init_64 (fun k3 cA H hK9 hP hD hS => ?_)
  rw [ct_cA hK9] at hP hD
  have hP : va_P (dC, dI) ct_cl [(h0, .inr (0, [.ref z0, .ref p0, .ref r0, .int 0, .ref k1, .int 0, .ref k2, .null, .int 0, .null, .int 0, .int 0])), (z0, .inr (1, [.ref z1])), (z1, .inl (cI, 8, .inl (fun j => nI (ct_sz0 j)))), (p0, .inr (2, [.ref z0, .ref p1, .ref p2, .ref p3, .ref p4, .ref p5])), (p1, .inl (cI, 64, .inl (fun _ => 0))), (p2, .inl (cI, 64, .inl (fun _ => 0))), (p3, .inl (cI, 64, .inl (fun _ => 0))), (p4, .inl (cI, 64, .inl (fun _ => 0))), (p5, .inl (cI, 5, .inl (fun _ => 0))), (r0, .inr (3, [.ref z0, .ref r1, .ref r2, .ref r3, .ref r4, .ref r5, .ref r6])), (r1, .inl (cI, 244, .inl (upd (fun _ => 0) 243 (nI 1)))), (r2, .inl (cI, 8, .inl (fun _ => 0))), (r3, .inl (cI, 8, .inl (fun _ => 0))), (r4, .inl (cI, 8, .inl (fun _ => 0))), (r5, .inl (cI, 8, .inl (fun _ => 0))), (r6, .inl (cI, 8, .inl (fun _ => 0))), (k1, .inl (cI, 8, .inl (fun _ => 0))), (k2, .inl (cI, 6, .inl (fun _ => 0))), (k3, .inl (cI, 6, .inl (fun _ => 0)))] H := hP
  have hD : va_D A [(h0, .inr (0, [.ref z0, .ref p0, .ref r0, .int 0, .ref k1, .int 0, .ref k2, .null, .int 0, .null, .int 0, .int 0])), (z0, .inr (1, [.ref z1])), (z1, .inl (cI, 8, .inl (fun j => nI (ct_sz0 j)))), (p0, .inr (2, [.ref z0, .ref p1, .ref p2, .ref p3, .ref p4, .ref p5])), (p1, .inl (cI, 64, .inl (fun _ => 0))), (p2, .inl (cI, 64, .inl (fun _ => 0))), (p3, .inl (cI, 64, .inl (fun _ => 0))), (p4, .inl (cI, 64, .inl (fun _ => 0))), (p5, .inl (cI, 5, .inl (fun _ => 0))), (r0, .inr (3, [.ref z0, .ref r1, .ref r2, .ref r3, .ref r4, .ref r5, .ref r6])), (r1, .inl (cI, 244, .inl (upd (fun _ => 0) 243 (nI 1)))), (r2, .inl (cI, 8, .inl (fun _ => 0))), (r3, .inl (cI, 8, .inl (fun _ => 0))), (r4, .inl (cI, 8, .inl (fun _ => 0))), (r5, .inl (cI, 8, .inl (fun _ => 0))), (r6, .inl (cI, 8, .inl (fun _ => 0))), (k1, .inl (cI, 8, .inl (fun _ => 0))), (k2, .inl (cI, 6, .inl (fun _ => 0))), (k3, .inl (cI, 6, .inl (fun _ => 0)))] := hD
  refine va_putF (D := (dC, dI)) (ci := 0) (v := .ref k3) (ty := .array .int) (C := R_H) (T := T_H) (N := 12) hx hb hts (fun w h9 => ct_tl (ki_H w h9)) ty_H ok_H nm_H hown hK hP hD hS 0 rfl rfl 7 (by decide) (hts _ (ct_tl kw_121)) (fun _ h9 => h9) rfl hin rfl (by decide +kernel) rfl rfl (Nat.le_of_ble_eq_true rfl) d_H_init_66 (fun H locs hP hD hS => ?_)
  have hP : va_P (dC, dI) ct_cl [(h0, .inr (0, [.ref z0, .ref p0, .ref r0, .int 0, .ref k1, .int 0, .ref k2, .ref k3, .int 0, .null, .int 0, .int 0])), (z0, .inr (1, [.ref z1])), (z1, .inl (cI, 8, .inl (fun j => nI (ct_sz0 j)))), (p0, .inr (2, [.ref z0, .ref p1, .ref p2, .ref p3, .ref p4, .ref p5])), (p1, .inl (cI, 64, .inl (fun _ => 0))), (p2, .inl (cI, 64, .inl (fun _ => 0))), (p3, .inl (cI, 64, .inl (fun _ => 0))), (p4, .inl (cI, 64, .inl (fun _ => 0))), (p5, .inl (cI, 5, .inl (fun _ => 0))), (r0, .inr (3, [.ref z0, .ref r1, .ref r2, .ref r3, .ref r4, .ref r5, .ref r6])), (r1, .inl (cI, 244, .inl (upd (fun _ => 0) 243 (nI 1)))), (r2, .inl (cI, 8, .inl (fun _ => 0))), (r3, .inl (cI, 8, .inl (fun _ => 0))), (r4, .inl (cI, 8, .inl (fun _ => 0))), (r5, .inl (cI, 8, .inl (fun _ => 0))), (r6, .inl (cI, 8, .inl (fun _ => 0))), (k1, .inl (cI, 8, .inl (fun _ => 0))), (k2, .inl (cI, 6, .inl (fun _ => 0))), (k3, .inl (cI, 6, .inl (fun _ => 0)))] H := hP
  have hD : va_D A [(h0, .inr (0, [.ref z0, .ref p0, .ref r0, .int 0, .ref k1, .int 0, .ref k2, .ref k3, .int 0, .null, .int 0, .int 0])), (z0, .inr (1, [.ref z1])), (z1, .inl (cI, 8, .inl (fun j => nI (ct_sz0 j)))), (p0, .inr (2, [.ref z0, .ref p1, .ref p2, .ref p3, .ref p4, .ref p5])), (p1, .inl (cI, 64, .inl (fun _ => 0))), (p2, .inl (cI, 64, .inl (fun _ => 0))), (p3, .inl (cI, 64, .inl (fun _ => 0))), (p4, .inl (cI, 64, .inl (fun _ => 0))), (p5, .inl (cI, 5, .inl (fun _ => 0))), (r0, .inr (3, [.ref z0, .ref r1, .ref r2, .ref r3, .ref r4, .ref r5, .ref r6])), (r1, .inl (cI, 244, .inl (upd (fun _ => 0) 243 (nI 1)))), (r2, .inl (cI, 8, .inl (fun _ => 0))), (r3, .inl (cI, 8, .inl (fun _ => 0))), (r4, .inl (cI, 8, .inl (fun _ => 0))), (r5, .inl (cI, 8, .inl (fun _ => 0))), (r6, .inl (cI, 8, .inl (fun _ => 0))), (k1, .inl (cI, 8, .inl (fun _ => 0))), (k2, .inl (cI, 6, .inl (fun _ => 0))), (k3, .inl (cI, 6, .inl (fun _ => 0)))] := hD
  refine lv_aload_n hx hb d_H_init_69 rfl (lv_at hl 0 rfl) ?_
  refine lv_bipush (v := (nI 64)) hx hb d_H_init_70 (by decide) ?_
  refine va_newa (atype := .int) (ty := .int) (a0 := (64, .inl (fun _ => 0))) hx hb (hts _ (ct_tl kw_60)) rfl hK hP hD hS hA (fun _ => rfl) (nI_pos (by omega)) (nI_clamp (by omega)) (by show 64 * 4 ≤ 536870912; omega) (Nat.le_of_ble_eq_true rfl) (Nat.le_of_ble_eq_true rfl) d_H_init_72 (fun k4 cA H hK9 hP hD hS => ?_)
  rw [ct_cA hK9] at hP hD
  have hP : va_P (dC, dI) ct_cl [(h0, .inr (0, [.ref z0, .ref p0, .ref r0, .int 0, .ref k1, .int 0, .ref k2, .ref k3, .int 0, .null, .int 0, .int 0])), (z0, .inr (1, [.ref z1])), (z1, .inl (cI, 8, .inl (fun j => nI (ct_sz0 j)))), (p0, .inr (2, [.ref z0, .ref p1, .ref p2, .ref p3, .ref p4, .ref p5])), (p1, .inl (cI, 64, .inl (fun _ => 0))), (p2, .inl (cI, 64, .inl (fun _ => 0))), (p3, .inl (cI, 64, .inl (fun _ => 0))), (p4, .inl (cI, 64, .inl (fun _ => 0))), (p5, .inl (cI, 5, .inl (fun _ => 0))), (r0, .inr (3, [.ref z0, .ref r1, .ref r2, .ref r3, .ref r4, .ref r5, .ref r6])), (r1, .inl (cI, 244, .inl (upd (fun _ => 0) 243 (nI 1)))), (r2, .inl (cI, 8, .inl (fun _ => 0))), (r3, .inl (cI, 8, .inl (fun _ => 0))), (r4, .inl (cI, 8, .inl (fun _ => 0))), (r5, .inl (cI, 8, .inl (fun _ => 0))), (r6, .inl (cI, 8, .inl (fun _ => 0))), (k1, .inl (cI, 8, .inl (fun _ => 0))), (k2, .inl (cI, 6, .inl (fun _ => 0))), (k3, .inl (cI, 6, .inl (fun _ => 0))), (k4, .inl (cI, 64, .inl (fun _ => 0)))] H := hP
  have hD : va_D A [(h0, .inr (0, [.ref z0, .ref p0, .ref r0, .int 0, .ref k1, .int 0, .ref k2, .ref k3, .int 0, .null, .int 0, .int 0])), (z0, .inr (1, [.ref z1])), (z1, .inl (cI, 8, .inl (fun j => nI (ct_sz0 j)))), (p0, .inr (2, [.ref z0, .ref p1, .ref p2, .ref p3, .ref p4, .ref p5])), (p1, .inl (cI, 64, .inl (fun _ => 0))), (p2, .inl (cI, 64, .inl (fun _ => 0))), (p3, .inl (cI, 64, .inl (fun _ => 0))), (p4, .inl (cI, 64, .inl (fun _ => 0))), (p5, .inl (cI, 5, .inl (fun _ => 0))), (r0, .inr (3, [.ref z0, .ref r1, .ref r2, .ref r3, .ref r4, .ref r5, .ref r6])), (r1, .inl (cI, 244, .inl (upd (fun _ => 0) 243 (nI 1)))), (r2, .inl (cI, 8, .inl (fun _ => 0))), (r3, .inl (cI, 8, .inl (fun _ => 0))), (r4, .inl (cI, 8, .inl (fun _ => 0))), (r5, .inl (cI, 8, .inl (fun _ => 0))), (r6, .inl (cI, 8, .inl (fun _ => 0))), (k1, .inl (cI, 8, .inl (fun _ => 0))), (k2, .inl (cI, 6, .inl (fun _ => 0))), (k3, .inl (cI, 6, .inl (fun _ => 0))), (k4, .inl (cI, 64, .inl (fun _ => 0)))] := hD
  refine va_putF (D := (dC, dI)) (ci := 0) (v := .ref k4) (ty := .array .int) (C := R_H) (T := T_H) (N := 12) hx hb hts (fun w h9 => ct_tl (ki_H w h9)) ty_H ok_H nm_H hown hK hP hD hS 0 rfl rfl 9 (by decide) (hts _ (ct_tl kw_123)) (fun _ h9 => h9) rfl hin rfl (by decide +kernel) rfl rfl (Nat.le_of_ble_eq_true rfl) d_H_init_74 (fun H locs hP hD hS => ?_)
  have hP : va_P (dC, dI) ct_cl [(h0, .inr (0, [.ref z0, .ref p0, .ref r0, .int 0, .ref k1, .int 0, .ref k2, .ref k3, .int 0, .ref k4, .int 0, .int 0])), (z0, .inr (1, [.ref z1])), (z1, .inl (cI, 8, .inl (fun j => nI (ct_sz0 j)))), (p0, .inr (2, [.ref z0, .ref p1, .ref p2, .ref p3, .ref p4, .ref p5])), (p1, .inl (cI, 64, .inl (fun _ => 0))), (p2, .inl (cI, 64, .inl (fun _ => 0))), (p3, .inl (cI, 64, .inl (fun _ => 0))), (p4, .inl (cI, 64, .inl (fun _ => 0))), (p5, .inl (cI, 5, .inl (fun _ => 0))), (r0, .inr (3, [.ref z0, .ref r1, .ref r2, .ref r3, .ref r4, .ref r5, .ref r6])), (r1, .inl (cI, 244, .inl (upd (fun _ => 0) 243 (nI 1)))), (r2, .inl (cI, 8, .inl (fun _ => 0))), (r3, .inl (cI, 8, .inl (fun _ => 0))), (r4, .inl (cI, 8, .inl (fun _ => 0))), (r5, .inl (cI, 8, .inl (fun _ => 0))), (r6, .inl (cI, 8, .inl (fun _ => 0))), (k1, .inl (cI, 8, .inl (fun _ => 0))), (k2, .inl (cI, 6, .inl (fun _ => 0))), (k3, .inl (cI, 6, .inl (fun _ => 0))), (k4, .inl (cI, 64, .inl (fun _ => 0)))] H := hP
  have hD : va_D A [(h0, .inr (0, [.ref z0, .ref p0, .ref r0, .int 0, .ref k1, .int 0, .ref k2, .ref k3, .int 0, .ref k4, .int 0, .int 0])), (z0, .inr (1, [.ref z1])), (z1, .inl (cI, 8, .inl (fun j => nI (ct_sz0 j)))), (p0, .inr (2, [.ref z0, .ref p1, .ref p2, .ref p3, .ref p4, .ref p5])), (p1, .inl (cI, 64, .inl (fun _ => 0))), (p2, .inl (cI, 64, .inl (fun _ => 0))), (p3, .inl (cI, 64, .inl (fun _ => 0))), (p4, .inl (cI, 64, .inl (fun _ => 0))), (p5, .inl (cI, 5, .inl (fun _ => 0))), (r0, .inr (3, [.ref z0, .ref r1, .ref r2, .ref r3, .ref r4, .ref r5, .ref r6])), (r1, .inl (cI, 244, .inl (upd (fun _ => 0) 243 (nI 1)))), (r2, .inl (cI, 8, .inl (fun _ => 0))), (r3, .inl (cI, 8, .inl (fun _ => 0))), (r4, .inl (cI, 8, .inl (fun _ => 0))), (r5, .inl (cI, 8, .inl (fun _ => 0))), (r6, .inl (cI, 8, .inl (fun _ => 0))), (k1, .inl (cI, 8, .inl (fun _ => 0))), (k2, .inl (cI, 6, .inl (fun _ => 0))), (k3, .inl (cI, 6, .inl (fun _ => 0))), (k4, .inl (cI, 64, .inl (fun _ => 0)))] := hD
  have hP9 := hP.sub [0, 16, 17, 18, 19, 3, 4, 5, 6, 7, 8, 9, 10, 11, 12, 13, 14, 15, 1, 2] rfl
  exact W.vret hx hb hr (fun tS ht hW => ⟨⟨(z0, z1, p0, p1, p2, p3, p4, p5, r0, r1, r2, r3, r4, r5, r6, k1, k2, k3, k4), rfl, trivial, by rw [ht]; exact hP9, va_K.moved hW.alike hK, hD.sub [0, 16, 17, 18, 19, 3, 4, 5, 6, 7, 8, 9, 10, 11, 12, 13, 14, 15, 1, 2] (by decide) rfl⟩, hS.F ht⟩) hS.2.2 d_H_init_77
