/-- the plan's arrays hold the plan -/
def ct_plok (sz la : Nat → Nat) (K R : Nat) (fh fl fc fp fj : Nat → Int32) : Prop := (∀ S, S < 2 ^ K → fh S = nI (ct_has la S K)) ∧ (∀ S, 0 < S → S < 2 ^ K → fl S = nI (ct_lv la K R S)) ∧ (∀ S, 0 < S → S < 2 ^ K → fc S = nI (ct_B (ct_jc sz la K R) S).1) ∧ (∀ S, S < 2 ^ K → ct_sev S = true → fp S = nI (ct_B (ct_jc sz la K R) S).2) ∧ (∀ k, k < K - 1 → fj k = nI ((ct_ls (ct_B (ct_jc sz la K R)) 64 (2 ^ K - 1)).getD k 0))
/-- what the plan's arrays always keep -/
def ct_plk (fh fc : Nat → Int32) : Prop := fh 0 = nI 0 ∧ ∀ S, S < 64 → 0 < S → ct_sev S = false → fc S = nI 0
theorem ct_okB_B (jc : Nat → Nat → Nat) : ct_okB (ct_B jc) := fun S hS hs => ⟨(ct_B_part hS hs).1, (ct_B_part hS hs).2.1⟩
theorem ct_has_0 (la : Nat → Nat) (n : Nat) : ct_has la 0 n = 0 := by
  induction n with
  | zero => rfl
  | succ n ih => rw [ct_has_out (by simp)]; exact ih
set_option maxHeartbeats 4000000 in
set_option maxRecDepth 100000 in
theorem c_P_make (l : Launch) (dC : Nat → ClassId) (dI : Nat → Nat → Nat) (cI : ClassId) (z1 : Nat) (sz : Nat → Nat) (z0 p0 p1 p2 p3 p4 p5 : Nat) (o1 : Nat) (fh fl fc fp fj fo : Nat → Int32) (la : Nat → Nat) (K R : Nat) (hK6 : K ≤ 6) (hK2 : 2 ≤ K) (hsz : ∀ k, k < 8 → sz k ≤ 3) (hla : ∀ k, k < K → la k < 256) (hfo : ∀ j, j < K → fo j = nI (la j)) (hk0 : ct_plk fh fc) (sz0 : Nat) : Met l y_P_make w_P_make ({ frames := 3, cells := 0, slots := 0, locals := 72 }) (va_Pc [.ref p0, .ref o1, .int (nI K), .int (nI R)] (ct_rw (dC, dI) ct_cl [(p0, .inr (2, [.ref z0, .ref p1, .ref p2, .ref p3, .ref p4, .ref p5])), (p1, .inl (cI, 64, .inl fh)), (p2, .inl (cI, 64, .inl fl)), (p3, .inl (cI, 64, .inl fc)), (p4, .inl (cI, 64, .inl fp)), (p5, .inl (cI, 5, .inl fj)), (z0, .inr (1, [.ref z1])), (z1, .inl (cI, 8, .inl (fun j => nI (sz j)))), (o1, .inl (cI, 6, .inl fo))] [(cI, .int)] sz0)) (va_Qv (fun (u : (Nat → Int32) × (Nat → Int32) × (Nat → Int32) × (Nat → Int32) × (Nat → Int32)) => ct_plok sz la K R u.1 u.2.1 u.2.2.1 u.2.2.2.1 u.2.2.2.2 ∧ ct_plk u.1 u.2.2.1) (fun (u : (Nat → Int32) × (Nat → Int32) × (Nat → Int32) × (Nat → Int32) × (Nat → Int32)) t => ct_at (dC, dI) ct_cl [(cI, .int)] (va_A [(p0, .inr (2, [.ref z0, .ref p1, .ref p2, .ref p3, .ref p4, .ref p5])), (p1, .inl (cI, 64, .inl fh)), (p2, .inl (cI, 64, .inl fl)), (p3, .inl (cI, 64, .inl fc)), (p4, .inl (cI, 64, .inl fp)), (p5, .inl (cI, 5, .inl fj)), (z0, .inr (1, [.ref z1])), (z1, .inl (cI, 8, .inl (fun j => nI (sz j)))), (o1, .inl (cI, 6, .inl fo))] sz0) [(p0, .inr (2, [.ref z0, .ref p1, .ref p2, .ref p3, .ref p4, .ref p5])), (p1, .inl (cI, 64, .inl (u.1))), (p2, .inl (cI, 64, .inl (u.2.1))), (p3, .inl (cI, 64, .inl (u.2.2.1))), (p4, .inl (cI, 64, .inl (u.2.2.2.1))), (p5, .inl (cI, 5, .inl (u.2.2.2.2))), (z0, .inr (1, [.ref z1])), (z1, .inl (cI, 8, .inl (fun j => nI (sz j)))), (o1, .inl (cI, 6, .inl fo))] t) (va_A [(p0, .inr (2, [.ref z0, .ref p1, .ref p2, .ref p3, .ref p4, .ref p5])), (p1, .inl (cI, 64, .inl fh)), (p2, .inl (cI, 64, .inl fl)), (p3, .inl (cI, 64, .inl fc)), (p4, .inl (cI, 64, .inl fp)), (p5, .inl (cI, 5, .inl fj)), (z0, .inr (1, [.ref z1])), (z1, .inl (cI, 8, .inl (fun j => nI (sz j)))), (o1, .inl (cI, 6, .inl fo))] sz0)) 0 0 (va_A [(p0, .inr (2, [.ref z0, .ref p1, .ref p2, .ref p3, .ref p4, .ref p5])), (p1, .inl (cI, 64, .inl fh)), (p2, .inl (cI, 64, .inl fl)), (p3, .inl (cI, 64, .inl fc)), (p4, .inl (cI, 64, .inl fp)), (p5, .inl (cI, 5, .inl fj)), (z0, .inr (1, [.ref z1])), (z1, .inl (cI, 8, .inl (fun j => nI (sz j)))), (o1, .inl (cI, 6, .inl fo))] sz0) := by
  refine Met.ofW (cc := b_P_make) (maxL := 6) (ret := none) (by decide) rfl ?_
  intro p e s m args below meth c s₁ Bd hml hv
  obtain ⟨hargs, hsz, hP, hK, hD0⟩ := hv
  have hx := Bd.exec
  have hb := Bd.bytes
  have hr := Bd.returns
  have hts : ∀ w ∈ k_P_make :: ct_tb, w.before args s = true := atoms_spec (ws := w_P_make) Bd.pre
  have hown : s.vm.findClass R_P = some m.cls := findClass_of_methodNamed Bd.named
  have hlocks := Bd.notSynchronized
  subst hsz
  have hD := hD0.self (sz := s.heap.size)
  generalize hAe : va_A [(p0, .inr (2, [.ref z0, .ref p1, .ref p2, .ref p3, .ref p4, .ref p5])), (p1, .inl (cI, 64, .inl fh)), (p2, .inl (cI, 64, .inl fl)), (p3, .inl (cI, 64, .inl fc)), (p4, .inl (cI, 64, .inl fp)), (p5, .inl (cI, 5, .inl fj)), (z0, .inr (1, [.ref z1])), (z1, .inl (cI, 8, .inl (fun j => nI (sz j)))), (o1, .inl (cI, 6, .inl fo))] s.heap.size = A at hD ⊢
  have hA : ∀ q : Nat, s.heap.size ≤ q → A q := fun q h => by rw [← hAe]; exact Or.inr h
  have hS : va_S A s.heap s.heap [] := va_S.rf
  have hl := lv_entry ([.ref p0, .ref o1, .int (nI K), .int (nI R)]) (n := 6) (Nat.le_of_ble_eq_true rfl)
  rw [show entryFrame m args 6 = entryFrame m (([.ref p0, .ref o1, .int (nI K), .int (nI R)] : List Value)).toArray 6 by rw [hargs], lg_entry_eq]
  generalize (lg_sl ([.ref p0, .ref o1, .int (nI K), .int (nI R)]) ++ List.replicate (6 - (lg_sl ([.ref p0, .ref o1, .int (nI K), .int (nI R)])).length) Slot.unset).toArray = ls at hl ⊢
  have hl : lv_has ls 6 [(0, .ref p0), (1, .ref o1), (2, .int (nI K)), (3, .int (nI R))] := hl
  have h2K := ct_2K K (by omega)
  have loop2 : ∀ (gh gl : Nat → Int32), (∀ S, S < 2 ^ K → gh S = nI (ct_has la S K)) → (∀ S, 0 < S → S < 2 ^ K → gl S = nI (ct_lv la K R S)) → ∀ (n i : Nat), i + n = 2 ^ K → 0 < i → ∀ (gc gp : Nat → Int32), (∀ S, 0 < S → S < i → gc S = nI (ct_B (ct_jc sz la K R) S).1) → (∀ S, S < i → ct_sev S = true → gp S = nI (ct_B (ct_jc sz la K R) S).2) → (∀ S, S < 64 → 0 < S → ct_sev S = false → gc S = nI 0) → ∀ (H : Heap) (locs : List Loc), va_P (dC, dI) ct_cl [(p0, .inr (2, [.ref z0, .ref p1, .ref p2, .ref p3, .ref p4, .ref p5])), (p1, .inl (cI, 64, .inl gh)), (p2, .inl (cI, 64, .inl gl)), (p3, .inl (cI, 64, .inl gc)), (p4, .inl (cI, 64, .inl gp)), (p5, .inl (cI, 5, .inl fj)), (z0, .inr (1, [.ref z1])), (z1, .inl (cI, 8, .inl (fun j => nI (sz j)))), (o1, .inl (cI, 6, .inl fo))] H → va_D A [(p0, .inr (2, [.ref z0, .ref p1, .ref p2, .ref p3, .ref p4, .ref p5])), (p1, .inl (cI, 64, .inl gh)), (p2, .inl (cI, 64, .inl gl)), (p3, .inl (cI, 64, .inl gc)), (p4, .inl (cI, 64, .inl gp)), (p5, .inl (cI, 5, .inl fj)), (z0, .inr (1, [.ref z1])), (z1, .inl (cI, 8, .inl (fun j => nI (sz j)))), (o1, .inl (cI, 6, .inl fo))] → va_S A s.heap H locs → ∀ (ls : Array Slot), lv_has ls 6 [(0, .ref p0), (1, .ref o1), (2, .int (nI K)), (3, .int (nI R)), (4, .int (nI (2 ^ K - 1))), (5, .int (nI i))] → W p l e (headSpec w_P_make ({ frames := 3, cells := 0, slots := 0, locals := 72 } : Room)).room s m args below meth c H locs 0 0 (MQ below (va_Qv (fun (u : (Nat → Int32) × (Nat → Int32) × (Nat → Int32) × (Nat → Int32) × (Nat → Int32)) => ct_plok sz la K R u.1 u.2.1 u.2.2.1 u.2.2.2.1 u.2.2.2.2 ∧ ct_plk u.1 u.2.2.1) (fun (u : (Nat → Int32) × (Nat → Int32) × (Nat → Int32) × (Nat → Int32) × (Nat → Int32)) t => ct_at (dC, dI) ct_cl [(cI, .int)] (A) [(p0, .inr (2, [.ref z0, .ref p1, .ref p2, .ref p3, .ref p4, .ref p5])), (p1, .inl (cI, 64, .inl (u.1))), (p2, .inl (cI, 64, .inl (u.2.1))), (p3, .inl (cI, 64, .inl (u.2.2.1))), (p4, .inl (cI, 64, .inl (u.2.2.2.1))), (p5, .inl (cI, 5, .inl (u.2.2.2.2))), (z0, .inr (1, [.ref z1])), (z1, .inl (cI, 8, .inl (fun j => nI (sz j)))), (o1, .inl (cI, 6, .inl fo))] t) (A)) args s 0 0 A) (F0 m 41 ls []) := by
    intro gh gl hgh hgl
    intro n
    induction n with
    | zero =>
      intro i hi hi0 gc gp hgc hgp hg0 H locs hP hD hS ls hl
      refine lv_iload hx hb d_P_make_41 (lv_at hl 5 rfl) ?_
      refine lv_iload hx hb d_P_make_43 (lv_at hl 4 rfl) ?_
      refine lv_icmp_gt (tgt := 68) hx hb d_P_make_45 (by decide) (fun _ => ?_) (fun hc9 => absurd (nI_lt (by omega) (by omega)) hc9)
      refine lv_aload_n hx hb d_P_make_68 rfl (lv_at hl 0 rfl) ?_
      refine lv_iload hx hb d_P_make_69 (lv_at hl 4 rfl) ?_
      refine lv_iload_n hx hb d_P_make_71 rfl (lv_at hl 2 rfl) ?_
      refine lv_iconst (v := (nI 1)) hx hb d_P_make_72 (by decide) ?_
      refine lv_isub hx hb d_P_make_73 ?_
      refine ct_val (y := nI (K - 1)) (pk_sub (by omega)) ?_
      have hPc := hP.sub (ws' := [(p0, .inr (2, [.ref z0, .ref p1, .ref p2, .ref p3, .ref p4, .ref p5])), (p4, .inl (cI, 64, .inl gp)), (p5, .inl (cI, 5, .inl fj))]) [0, 4, 5] rfl
      have hDc := hD.sub (ws' := [(p0, .inr (2, [.ref z0, .ref p1, .ref p2, .ref p3, .ref p4, .ref p5])), (p4, .inl (cI, 64, .inl gp)), (p5, .inl (cI, 5, .inl fj))]) [0, 4, 5] (by decide) rfl
      have hFc := va_free (wc := [(p0, .inr (2, [.ref z0, .ref p1, .ref p2, .ref p3, .ref p4, .ref p5])), (p4, .inl (cI, 64, .inl gp)), (p5, .inl (cI, 5, .inl fj))]) hD hS hA [0, 4, 5] rfl
      refine va_callv (va_runV (As := [.int (nI (2 ^ K - 1)), .int (nI (K - 1))]) (rest := []) ⟨hx, hb, hml, hown, hts⟩ (c_P_listSteps l dC dI cI z0 p0 p1 p2 p3 p4 p5 gp fj (ct_B (ct_jc sz la K R)) K hK6 hK2 (ct_okB_B _) (fun S h9 h8 => hgp S (by omega) h8) H.size) (cwV 2 hts (ct_giV (fun w h9 => ct_tl h9) kw_198 kw_200 kw_5 kw_28 kw_201) rfl rfl rfl (by decide +kernel) ⟨Nat.le_of_ble_eq_true rfl, Nat.le_of_ble_eq_true rfl⟩) ⟨ct_rw_blind, va_recv hK hP (ci := 2) (q0 := 0) rfl rfl, ct_rw_pre hPc hK hDc⟩ rfl rfl hl.1 rfl (lv_room (Nat.le_of_ble_eq_true rfl)) d_P_make_74 ⟨Nat.le_of_ble_eq_true rfl, Nat.le_of_ble_eq_true rfl⟩) hS (fun q _ h9 => hFc q h9) hFc (fun fj2 tS H1 locs ht hvm hw9 hB hz1 hk1 hS => ?_)
      obtain ⟨hP1, -, hD1⟩ := hB
      rw [ht] at hP1
      obtain ⟨hP, hD⟩ := va_join (wr := [(p1, .inl (cI, 64, .inl gh)), (p2, .inl (cI, 64, .inl gl)), (p3, .inl (cI, 64, .inl gc)), (z0, .inr (1, [.ref z1])), (z1, .inl (cI, 8, .inl (fun j => nI (sz j)))), (o1, .inl (cI, 6, .inl fo))]) (w1 := [(p0, .inr (2, [.ref z0, .ref p1, .ref p2, .ref p3, .ref p4, .ref p5])), (p4, .inl (cI, 64, .inl gp)), (p5, .inl (cI, 5, .inl fj2))]) hP hD [0, 4, 5] [1, 2, 3, 6, 7, 8] rfl rfl (by decide) (by decide) hk1 hFc hP1 hD1
      generalize H1 = H at hP hS ⊢
      have hP : va_P (dC, dI) ct_cl [(p1, .inl (cI, 64, .inl gh)), (p2, .inl (cI, 64, .inl gl)), (p3, .inl (cI, 64, .inl gc)), (z0, .inr (1, [.ref z1])), (z1, .inl (cI, 8, .inl (fun j => nI (sz j)))), (o1, .inl (cI, 6, .inl fo)), (p0, .inr (2, [.ref z0, .ref p1, .ref p2, .ref p3, .ref p4, .ref p5])), (p4, .inl (cI, 64, .inl gp)), (p5, .inl (cI, 5, .inl fj2))] H := hP
      have hD : va_D A [(p1, .inl (cI, 64, .inl gh)), (p2, .inl (cI, 64, .inl gl)), (p3, .inl (cI, 64, .inl gc)), (z0, .inr (1, [.ref z1])), (z1, .inl (cI, 8, .inl (fun j => nI (sz j)))), (o1, .inl (cI, 6, .inl fo)), (p0, .inr (2, [.ref z0, .ref p1, .ref p2, .ref p3, .ref p4, .ref p5])), (p4, .inl (cI, 64, .inl gp)), (p5, .inl (cI, 5, .inl fj2))] := hD
      have hP9 := hP.sub [6, 0, 1, 2, 7, 8, 3, 4, 5] rfl
      exact W.vret hx hb hr (fun tS ht hW => ⟨⟨(gh, gl, gc, gp, fj2), rfl, ⟨⟨hgh, hgl, fun S h8 h9 => hgc S h8 (by omega), fun S h9 h8 => hgp S (by omega) h8, hw9⟩, by show gh 0 = nI 0; rw [hgh 0 (by omega), ct_has_0], hg0⟩, by rw [ht]; exact hP9, va_K.moved hW.alike hK, hD.sub [6, 0, 1, 2, 7, 8, 3, 4, 5] (by decide) rfl⟩, hS.F ht⟩) hS.2.2 d_P_make_77
    | succ n ih =>
      intro i hi hi0 gc gp hgc hgp hg0 H locs hP hD hS ls hl
      refine lv_iload hx hb d_P_make_41 (lv_at hl 5 rfl) ?_
      refine lv_iload hx hb d_P_make_43 (lv_at hl 4 rfl) ?_
      refine lv_icmp_gt (tgt := 68) hx hb d_P_make_45 (by decide) (fun hc9 => absurd hc9 (nI_nlt (by omega) (by omega))) (fun _ => ?_)
      refine lv_iload hx hb d_P_make_48 (lv_at hl 5 rfl) ?_
      refine va_calli (va_runS (As := [.int (nI i)]) (rest := []) ⟨hx, hb, hml, hown, hts⟩ (c_P_isSeveral l dC dI cI i (by omega) hi0) (va_cwS 1 hts (ct_giT (fun w h9 => ct_tl h9) kw_179 kw_180 kw_28 kw_181) rfl rfl rfl (by decide +kernel) ⟨Nat.le_of_ble_eq_true rfl, Nat.le_of_ble_eq_true rfl⟩) ⟨ct_ro_blind, ct_ro_pre (hP.sub [] rfl) hK⟩ rfl rfl hl.1 rfl (lv_room (Nat.le_of_ble_eq_true rfl)) d_P_make_50 ⟨Nat.le_of_ble_eq_true rfl, Nat.le_of_ble_eq_true rfl⟩) hS (fun q _ h9 => h9.elim) (fun q h9 => h9.elim) (fun ans1 uS tS H locs ht hvm hwans1 hB hz1 hk1 hS => ?_)
      have hP := ct_keep hP hk1
      refine ct_val (y := nI (if ct_sev i = true then 1 else 0)) (hwans1) ?_
      by_cases hs : ct_sev i = true
      · rw [if_pos hs]
        refine lv_if_eq (tgt := 62) hx hb d_P_make_53 (by decide) (fun hc9 => absurd hc9 (nI_ne0 (by omega) (by omega))) (fun _ => ?_)
        refine lv_aload_n hx hb d_P_make_56 rfl (lv_at hl 0 rfl) ?_
        refine lv_iload hx hb d_P_make_57 (lv_at hl 5 rfl) ?_
        have hcb : ∀ a, a < i → ct_pt i a = true → (fun a => (ct_B (ct_jc sz la K R) a).1 + (ct_B (ct_jc sz la K R) (i ^^^ a)).1 + ct_jc sz la K R a (i ^^^ a)) a < 2 ^ 31 := fun a h8 h9 => by
            have q1 := ct_pt_co i (by omega) a h8 h9
            have q2 := ct_B_le (jc := (ct_jc sz la K R)) (ct_jc_le hsz) 64 a (by omega) (by omega) (ct_pt_pos h9)
            have q3 := ct_B_le (jc := (ct_jc sz la K R)) (ct_jc_le hsz) 64 (i ^^^ a) (by omega) (by omega) q1.1
            have q4 := ct_jc_le (la := la) (K := K) (R := R) hsz a (i ^^^ a)
            show (ct_B (ct_jc sz la K R) a).1 + (ct_B (ct_jc sz la K R) (i ^^^ a)).1 + ct_jc sz la K R a (i ^^^ a) < _
            omega
        have hPc := hP.sub (ws' := [(p0, .inr (2, [.ref z0, .ref p1, .ref p2, .ref p3, .ref p4, .ref p5])), (p2, .inl (cI, 64, .inl gl)), (p3, .inl (cI, 64, .inl gc)), (p4, .inl (cI, 64, .inl gp)), (z0, .inr (1, [.ref z1])), (z1, .inl (cI, 8, .inl (fun j => nI (sz j))))]) [0, 2, 3, 4, 6, 7] rfl
        have hDc := hD.sub (ws' := [(p0, .inr (2, [.ref z0, .ref p1, .ref p2, .ref p3, .ref p4, .ref p5])), (p2, .inl (cI, 64, .inl gl)), (p3, .inl (cI, 64, .inl gc)), (p4, .inl (cI, 64, .inl gp)), (z0, .inr (1, [.ref z1])), (z1, .inl (cI, 8, .inl (fun j => nI (sz j))))]) [0, 2, 3, 4, 6, 7] (by decide) rfl
        have hFc := va_free (wc := [(p0, .inr (2, [.ref z0, .ref p1, .ref p2, .ref p3, .ref p4, .ref p5])), (p2, .inl (cI, 64, .inl gl)), (p3, .inl (cI, 64, .inl gc)), (p4, .inl (cI, 64, .inl gp)), (z0, .inr (1, [.ref z1])), (z1, .inl (cI, 8, .inl (fun j => nI (sz j))))]) hD hS hA [0, 2, 3, 4, 6, 7] rfl
        refine va_callv (va_runV (As := [.int (nI i)]) (rest := []) ⟨hx, hb, hml, hown, hts⟩ (c_P_choosePart l dC dI cI z1 sz z0 p0 p1 p2 p3 p4 p5 gl gc gp (ct_lv la K R) (fun a => (ct_B (ct_jc sz la K R) a).1) (fun a => (ct_B (ct_jc sz la K R) a).1 + (ct_B (ct_jc sz la K R) (i ^^^ a)).1 + ct_jc sz la K R a (i ^^^ a)) i (by omega) hs (fun a h8 h9 => hgl a h8 (by omega)) (fun a h8 h9 => hgc a h8 h9) (fun a => ct_lv_lt hla) (fun a h8 h9 => rfl) hcb H.size) (cwV 1 hts (ct_giV (fun w h9 => ct_tl h9) kw_182 kw_184 kw_4 kw_28 kw_185) rfl rfl rfl (by decide +kernel) ⟨Nat.le_of_ble_eq_true rfl, Nat.le_of_ble_eq_true rfl⟩) ⟨ct_rw_blind, va_recv hK hP (ci := 2) (q0 := 0) rfl rfl, ct_rw_pre hPc hK hDc⟩ rfl rfl hl.1 rfl (lv_room (Nat.le_of_ble_eq_true rfl)) d_P_make_59 ⟨Nat.le_of_ble_eq_true rfl, Nat.le_of_ble_eq_true rfl⟩) hS (fun q _ h9 => hFc q h9) hFc (fun u tS H1 locs ht hvm hw102 hB hz1 hk1 hS => ?_)
        obtain ⟨hP1, -, hD1⟩ := hB
        rw [ht] at hP1
        obtain ⟨hP, hD⟩ := va_join (wr := [(p1, .inl (cI, 64, .inl gh)), (p5, .inl (cI, 5, .inl fj)), (o1, .inl (cI, 6, .inl fo))]) (w1 := [(p0, .inr (2, [.ref z0, .ref p1, .ref p2, .ref p3, .ref p4, .ref p5])), (p2, .inl (cI, 64, .inl gl)), (p3, .inl (cI, 64, .inl (upd gc i (nI (ct_sc (fun a => (ct_B (ct_jc sz la K R) a).1 + (ct_B (ct_jc sz la K R) (i ^^^ a)).1 + ct_jc sz la K R a (i ^^^ a)) i i).1)))), (p4, .inl (cI, 64, .inl (upd gp i (nI (ct_sc (fun a => (ct_B (ct_jc sz la K R) a).1 + (ct_B (ct_jc sz la K R) (i ^^^ a)).1 + ct_jc sz la K R a (i ^^^ a)) i i).2)))), (z0, .inr (1, [.ref z1])), (z1, .inl (cI, 8, .inl (fun j => nI (sz j))))]) hP hD [0, 2, 3, 4, 6, 7] [1, 5, 8] rfl rfl (by decide) (by decide) hk1 hFc hP1 hD1
        generalize H1 = H at hP hS ⊢
        have hP : va_P (dC, dI) ct_cl [(p1, .inl (cI, 64, .inl gh)), (p5, .inl (cI, 5, .inl fj)), (o1, .inl (cI, 6, .inl fo)), (p0, .inr (2, [.ref z0, .ref p1, .ref p2, .ref p3, .ref p4, .ref p5])), (p2, .inl (cI, 64, .inl gl)), (p3, .inl (cI, 64, .inl (upd gc i (nI (ct_sc (fun a => (ct_B (ct_jc sz la K R) a).1 + (ct_B (ct_jc sz la K R) (i ^^^ a)).1 + ct_jc sz la K R a (i ^^^ a)) i i).1)))), (p4, .inl (cI, 64, .inl (upd gp i (nI (ct_sc (fun a => (ct_B (ct_jc sz la K R) a).1 + (ct_B (ct_jc sz la K R) (i ^^^ a)).1 + ct_jc sz la K R a (i ^^^ a)) i i).2)))), (z0, .inr (1, [.ref z1])), (z1, .inl (cI, 8, .inl (fun j => nI (sz j))))] H := hP
        have hD : va_D A [(p1, .inl (cI, 64, .inl gh)), (p5, .inl (cI, 5, .inl fj)), (o1, .inl (cI, 6, .inl fo)), (p0, .inr (2, [.ref z0, .ref p1, .ref p2, .ref p3, .ref p4, .ref p5])), (p2, .inl (cI, 64, .inl gl)), (p3, .inl (cI, 64, .inl (upd gc i (nI (ct_sc (fun a => (ct_B (ct_jc sz la K R) a).1 + (ct_B (ct_jc sz la K R) (i ^^^ a)).1 + ct_jc sz la K R a (i ^^^ a)) i i).1)))), (p4, .inl (cI, 64, .inl (upd gp i (nI (ct_sc (fun a => (ct_B (ct_jc sz la K R) a).1 + (ct_B (ct_jc sz la K R) (i ^^^ a)).1 + ct_jc sz la K R a (i ^^^ a)) i i).2)))), (z0, .inr (1, [.ref z1])), (z1, .inl (cI, 8, .inl (fun j => nI (sz j))))] := hD
        refine lv_iinc (v := (nI (i + 1))) (lv' := [(5, .int (nI (i + 1))), (0, .ref p0), (1, .ref o1), (2, .int (nI K)), (3, .int (nI R)), (4, .int (nI (2 ^ K - 1)))]) hx hb d_P_make_62 hl (k := 5) rfl (nI_1 _) (by decide) rfl (fun ls hl => ?_)
        refine lv_goto (tgt := 41) hx hb d_P_make_65 (by decide) ?_
        refine ih (i + 1) (by omega) (by omega) _ _ ?_ ?_ ?_ H locs (hP.sub [3, 0, 4, 5, 6, 1, 7, 8, 2] rfl) (hD.sub [3, 0, 4, 5, 6, 1, 7, 8, 2] (by decide) rfl) hS ls (lv_sub hl [1, 2, 3, 4, 5, 0] rfl)
        · intro S h8 h9
          by_cases h7 : S = i
          · rw [h7, pk_us, ct_B_sev (by omega) hs]
          · rw [pk_un h7]; exact hgc S h8 (by omega)
        · intro S h9 h8
          by_cases h7 : S = i
          · rw [h7, pk_us, ct_B_sev (by omega) hs]
          · rw [pk_un h7]; exact hgp S (by omega) h8
        · intro S h7 h8 h9
          rw [pk_un (fun z => by rw [z, hs] at h9; cases h9)]; exact hg0 S h7 h8 h9
      · rw [if_neg hs]
        refine lv_if_eq (tgt := 62) hx hb d_P_make_53 (by decide) (fun _ => ?_) (fun hc9 => absurd (nI_0) hc9)
        have hsf : ct_sev i = false := by simpa using hs
        refine lv_iinc (v := (nI (i + 1))) (lv' := [(5, .int (nI (i + 1))), (0, .ref p0), (1, .ref o1), (2, .int (nI K)), (3, .int (nI R)), (4, .int (nI (2 ^ K - 1)))]) hx hb d_P_make_62 hl (k := 5) rfl (nI_1 _) (by decide) rfl (fun ls hl => ?_)
        refine lv_goto (tgt := 41) hx hb d_P_make_65 (by decide) ?_
        refine ih (i + 1) (by omega) (by omega) gc gp ?_ ?_ ?_ H locs (hP.sub [0, 1, 2, 3, 4, 5, 6, 7, 8] rfl) (hD.sub [0, 1, 2, 3, 4, 5, 6, 7, 8] (by decide) rfl) hS ls (lv_sub hl [1, 2, 3, 4, 5, 0] rfl)
        · intro S h8 h9
          by_cases h7 : S = i
          · rw [h7, hg0 i (by omega) hi0 hsf, ct_B_one (by omega) hsf]
          · exact hgc S h8 (by omega)
        · intro S h9 h8
          by_cases h7 : S = i
          · rw [h7, hsf] at h8; cases h8
          · exact hgp S (by omega) h8
        · exact hg0
  have loop1 : ∀ (gh : Nat → Int32), (∀ S, S < 2 ^ K → gh S = nI (ct_has la S K)) → ∀ (n i : Nat), i + n = 2 ^ K → 0 < i → ∀ (gl : Nat → Int32), (∀ S, 0 < S → S < i → gl S = nI (ct_lv la K R S)) → ∀ (H : Heap) (locs : List Loc), va_P (dC, dI) ct_cl [(p0, .inr (2, [.ref z0, .ref p1, .ref p2, .ref p3, .ref p4, .ref p5])), (p1, .inl (cI, 64, .inl gh)), (p2, .inl (cI, 64, .inl gl)), (p3, .inl (cI, 64, .inl fc)), (p4, .inl (cI, 64, .inl fp)), (p5, .inl (cI, 5, .inl fj)), (z0, .inr (1, [.ref z1])), (z1, .inl (cI, 8, .inl (fun j => nI (sz j)))), (o1, .inl (cI, 6, .inl fo))] H → va_D A [(p0, .inr (2, [.ref z0, .ref p1, .ref p2, .ref p3, .ref p4, .ref p5])), (p1, .inl (cI, 64, .inl gh)), (p2, .inl (cI, 64, .inl gl)), (p3, .inl (cI, 64, .inl fc)), (p4, .inl (cI, 64, .inl fp)), (p5, .inl (cI, 5, .inl fj)), (z0, .inr (1, [.ref z1])), (z1, .inl (cI, 8, .inl (fun j => nI (sz j)))), (o1, .inl (cI, 6, .inl fo))] → va_S A s.heap H locs → ∀ (ls : Array Slot), lv_has ls 6 [(0, .ref p0), (1, .ref o1), (2, .int (nI K)), (3, .int (nI R)), (4, .int (nI (2 ^ K - 1))), (5, .int (nI i))] → W p l e (headSpec w_P_make ({ frames := 3, cells := 0, slots := 0, locals := 72 } : Room)).room s m args below meth c H locs 0 0 (MQ below (va_Qv (fun (u : (Nat → Int32) × (Nat → Int32) × (Nat → Int32) × (Nat → Int32) × (Nat → Int32)) => ct_plok sz la K R u.1 u.2.1 u.2.2.1 u.2.2.2.1 u.2.2.2.2 ∧ ct_plk u.1 u.2.2.1) (fun (u : (Nat → Int32) × (Nat → Int32) × (Nat → Int32) × (Nat → Int32) × (Nat → Int32)) t => ct_at (dC, dI) ct_cl [(cI, .int)] (A) [(p0, .inr (2, [.ref z0, .ref p1, .ref p2, .ref p3, .ref p4, .ref p5])), (p1, .inl (cI, 64, .inl (u.1))), (p2, .inl (cI, 64, .inl (u.2.1))), (p3, .inl (cI, 64, .inl (u.2.2.1))), (p4, .inl (cI, 64, .inl (u.2.2.2.1))), (p5, .inl (cI, 5, .inl (u.2.2.2.2))), (z0, .inr (1, [.ref z1])), (z1, .inl (cI, 8, .inl (fun j => nI (sz j)))), (o1, .inl (cI, 6, .inl fo))] t) (A)) args s 0 0 A) (F0 m 16 ls []) := by
    intro gh hgh
    intro n
    induction n with
    | zero =>
      intro i hi hi0 gl hgl H locs hP hD hS ls hl
      refine lv_iload hx hb d_P_make_16 (lv_at hl 5 rfl) ?_
      refine lv_iload hx hb d_P_make_18 (lv_at hl 4 rfl) ?_
      refine lv_icmp_gt (tgt := 38) hx hb d_P_make_20 (by decide) (fun _ => ?_) (fun hc9 => absurd (nI_lt (by omega) (by omega)) hc9)
      refine lv_iconst (v := (nI 1)) hx hb d_P_make_38 (by decide) ?_
      refine lv_istore (lv' := [(5, .int (nI 1)), (0, .ref p0), (1, .ref o1), (2, .int (nI K)), (3, .int (nI R)), (4, .int (nI (2 ^ K - 1)))]) hx hb d_P_make_39 hl (by decide) rfl (fun ls hl => ?_)
      refine loop2 gh gl hgh (fun S h8 h9 => hgl S h8 (by omega)) (2 ^ K - 1) 1 (by omega) (by omega) fc fp ?_ ?_ hk0.2 H locs (hP.sub [0, 1, 2, 3, 4, 5, 6, 7, 8] rfl) (hD.sub [0, 1, 2, 3, 4, 5, 6, 7, 8] (by decide) rfl) hS ls (lv_sub hl [1, 2, 3, 4, 5, 0] rfl)
      · intro S h8 h9; omega
      · intro S h9 h8; rw [show S = 0 by omega] at h8; exact absurd h8 (by decide)
    | succ n ih =>
      intro i hi hi0 gl hgl H locs hP hD hS ls hl
      refine lv_iload hx hb d_P_make_16 (lv_at hl 5 rfl) ?_
      refine lv_iload hx hb d_P_make_18 (lv_at hl 4 rfl) ?_
      refine lv_icmp_gt (tgt := 38) hx hb d_P_make_20 (by decide) (fun hc9 => absurd hc9 (nI_nlt (by omega) (by omega))) (fun _ => ?_)
      refine lv_aload_n hx hb d_P_make_23 rfl (lv_at hl 0 rfl) ?_
      refine lv_iload hx hb d_P_make_24 (lv_at hl 5 rfl) ?_
      refine lv_iload hx hb d_P_make_26 (lv_at hl 4 rfl) ?_
      refine lv_iload_n hx hb d_P_make_28 rfl (lv_at hl 3 rfl) ?_
      have hPc := hP.sub (ws' := [(p0, .inr (2, [.ref z0, .ref p1, .ref p2, .ref p3, .ref p4, .ref p5])), (p1, .inl (cI, 64, .inl gh)), (p2, .inl (cI, 64, .inl gl))]) [0, 1, 2] rfl
      have hDc := hD.sub (ws' := [(p0, .inr (2, [.ref z0, .ref p1, .ref p2, .ref p3, .ref p4, .ref p5])), (p1, .inl (cI, 64, .inl gh)), (p2, .inl (cI, 64, .inl gl))]) [0, 1, 2] (by decide) rfl
      have hFc := va_free (wc := [(p0, .inr (2, [.ref z0, .ref p1, .ref p2, .ref p3, .ref p4, .ref p5])), (p1, .inl (cI, 64, .inl gh)), (p2, .inl (cI, 64, .inl gl))]) hD hS hA [0, 1, 2] rfl
      refine va_callv (va_runV (As := [.int (nI i), .int (nI (2 ^ K - 1)), .int (nI R)]) (rest := []) ⟨hx, hb, hml, hown, hts⟩ (c_P_noteLeaves l dC dI cI z0 p0 p1 p2 p3 p4 p5 gh gl la K R i hK6 hi0 (by omega) hgh H.size) (cwV 3 hts (ct_giV (fun w h9 => ct_tl h9) kw_175 kw_177 kw_3 kw_28 kw_178) rfl rfl rfl (by decide +kernel) ⟨Nat.le_of_ble_eq_true rfl, Nat.le_of_ble_eq_true rfl⟩) ⟨ct_rw_blind, va_recv hK hP (ci := 2) (q0 := 0) rfl rfl, ct_rw_pre hPc hK hDc⟩ rfl rfl hl.1 rfl (lv_room (Nat.le_of_ble_eq_true rfl)) d_P_make_29 ⟨Nat.le_of_ble_eq_true rfl, Nat.le_of_ble_eq_true rfl⟩) hS (fun q _ h9 => hFc q h9) hFc (fun u tS H1 locs ht hvm hw1 hB hz1 hk1 hS => ?_)
      obtain ⟨hP1, -, hD1⟩ := hB
      rw [ht] at hP1
      obtain ⟨hP, hD⟩ := va_join (wr := [(p3, .inl (cI, 64, .inl fc)), (p4, .inl (cI, 64, .inl fp)), (p5, .inl (cI, 5, .inl fj)), (z0, .inr (1, [.ref z1])), (z1, .inl (cI, 8, .inl (fun j => nI (sz j)))), (o1, .inl (cI, 6, .inl fo))]) (w1 := [(p0, .inr (2, [.ref z0, .ref p1, .ref p2, .ref p3, .ref p4, .ref p5])), (p1, .inl (cI, 64, .inl gh)), (p2, .inl (cI, 64, .inl (upd gl i (nI (ct_lv la K R i)))))]) hP hD [0, 1, 2] [3, 4, 5, 6, 7, 8] rfl rfl (by decide) (by decide) hk1 hFc hP1 hD1
      generalize H1 = H at hP hS ⊢
      have hP : va_P (dC, dI) ct_cl [(p3, .inl (cI, 64, .inl fc)), (p4, .inl (cI, 64, .inl fp)), (p5, .inl (cI, 5, .inl fj)), (z0, .inr (1, [.ref z1])), (z1, .inl (cI, 8, .inl (fun j => nI (sz j)))), (o1, .inl (cI, 6, .inl fo)), (p0, .inr (2, [.ref z0, .ref p1, .ref p2, .ref p3, .ref p4, .ref p5])), (p1, .inl (cI, 64, .inl gh)), (p2, .inl (cI, 64, .inl (upd gl i (nI (ct_lv la K R i)))))] H := hP
      have hD : va_D A [(p3, .inl (cI, 64, .inl fc)), (p4, .inl (cI, 64, .inl fp)), (p5, .inl (cI, 5, .inl fj)), (z0, .inr (1, [.ref z1])), (z1, .inl (cI, 8, .inl (fun j => nI (sz j)))), (o1, .inl (cI, 6, .inl fo)), (p0, .inr (2, [.ref z0, .ref p1, .ref p2, .ref p3, .ref p4, .ref p5])), (p1, .inl (cI, 64, .inl gh)), (p2, .inl (cI, 64, .inl (upd gl i (nI (ct_lv la K R i)))))] := hD
      refine lv_iinc (v := (nI (i + 1))) (lv' := [(5, .int (nI (i + 1))), (0, .ref p0), (1, .ref o1), (2, .int (nI K)), (3, .int (nI R)), (4, .int (nI (2 ^ K - 1)))]) hx hb d_P_make_32 hl (k := 5) rfl (nI_1 _) (by decide) rfl (fun ls hl => ?_)
      refine lv_goto (tgt := 16) hx hb d_P_make_35 (by decide) ?_
      refine ih (i + 1) (by omega) (by omega) _ (fun S h8 h9 => ?_) H locs (hP.sub [6, 7, 8, 0, 1, 2, 3, 4, 5] rfl) (hD.sub [6, 7, 8, 0, 1, 2, 3, 4, 5] (by decide) rfl) hS ls (lv_sub hl [1, 2, 3, 4, 5, 0] rfl)
      by_cases h7 : S = i
      · rw [h7, pk_us]
      · rw [pk_un h7]; exact hgl S h8 (by omega)
  refine lv_iconst (v := (nI 1)) hx hb d_P_make_0 (by decide) ?_
  refine lv_iload_n hx hb d_P_make_1 rfl (lv_at hl 2 rfl) ?_
  refine lv_ishl hx hb d_P_make_2 ?_
  refine ct_val (y := nI (2 ^ K)) ((ct_shl 1 (by omega) (by omega)).trans (by rw [Nat.one_mul])) ?_
  refine lv_iconst (v := (nI 1)) hx hb d_P_make_3 (by decide) ?_
  refine lv_isub hx hb d_P_make_4 ?_
  refine ct_val (y := nI (2 ^ K - 1)) (pk_sub (by omega)) ?_
  refine lv_istore (lv' := [(4, .int (nI (2 ^ K - 1))), (0, .ref p0), (1, .ref o1), (2, .int (nI K)), (3, .int (nI R))]) hx hb d_P_make_5 hl (by decide) rfl (fun ls hl => ?_)
  refine lv_aload_n hx hb d_P_make_7 rfl (lv_at hl 1 rfl) ?_
  refine lv_aload_n hx hb d_P_make_8 rfl (lv_at hl 2 rfl) ?_
  refine lv_iload_n hx hb d_P_make_9 rfl (lv_at hl 3 rfl) ?_
  have hPc := hP.sub (ws' := [(p0, .inr (2, [.ref z0, .ref p1, .ref p2, .ref p3, .ref p4, .ref p5])), (p1, .inl (cI, 64, .inl fh)), (o1, .inl (cI, 6, .inl fo))]) [0, 1, 8] rfl
  have hDc := hD.sub (ws' := [(p0, .inr (2, [.ref z0, .ref p1, .ref p2, .ref p3, .ref p4, .ref p5])), (p1, .inl (cI, 64, .inl fh)), (o1, .inl (cI, 6, .inl fo))]) [0, 1, 8] (by decide) rfl
  have hFc := va_free (wc := [(p0, .inr (2, [.ref z0, .ref p1, .ref p2, .ref p3, .ref p4, .ref p5])), (p1, .inl (cI, 64, .inl fh)), (o1, .inl (cI, 6, .inl fo))]) hD hS hA [0, 1, 8] rfl
  refine va_callv (va_runV (As := [.ref o1, .int (nI K)]) (rest := []) ⟨hx, hb, hml, hown, hts⟩ (c_P_noteLabels l dC dI cI z0 p0 p1 p2 p3 p4 p5 o1 fh fo la K hK6 hfo hk0.1 s.heap.size) (cwV 2 hts (ct_giV (fun w h9 => ct_tl h9) kw_171 kw_173 kw_2 kw_28 kw_174) rfl rfl rfl (by decide +kernel) ⟨Nat.le_of_ble_eq_true rfl, Nat.le_of_ble_eq_true rfl⟩) ⟨ct_rw_blind, va_recv hK hP (ci := 2) (q0 := 0) rfl rfl, ct_rw_pre hPc hK hDc⟩ rfl rfl hl.1 rfl (lv_room (Nat.le_of_ble_eq_true rfl)) d_P_make_10 ⟨Nat.le_of_ble_eq_true rfl, Nat.le_of_ble_eq_true rfl⟩) hS (fun q _ h9 => hFc q h9) hFc (fun gh tS H1 locs ht hvm hgh hB hz1 hk1 hS => ?_)
  obtain ⟨hP1, -, hD1⟩ := hB
  rw [ht] at hP1
  obtain ⟨hP, hD⟩ := va_join (wr := [(p2, .inl (cI, 64, .inl fl)), (p3, .inl (cI, 64, .inl fc)), (p4, .inl (cI, 64, .inl fp)), (p5, .inl (cI, 5, .inl fj)), (z0, .inr (1, [.ref z1])), (z1, .inl (cI, 8, .inl (fun j => nI (sz j))))]) (w1 := [(p0, .inr (2, [.ref z0, .ref p1, .ref p2, .ref p3, .ref p4, .ref p5])), (p1, .inl (cI, 64, .inl gh)), (o1, .inl (cI, 6, .inl fo))]) hP hD [0, 1, 8] [2, 3, 4, 5, 6, 7] rfl rfl (by decide) (by decide) hk1 hFc hP1 hD1
  generalize H1 = H at hP hS ⊢
  have hP : va_P (dC, dI) ct_cl [(p2, .inl (cI, 64, .inl fl)), (p3, .inl (cI, 64, .inl fc)), (p4, .inl (cI, 64, .inl fp)), (p5, .inl (cI, 5, .inl fj)), (z0, .inr (1, [.ref z1])), (z1, .inl (cI, 8, .inl (fun j => nI (sz j)))), (p0, .inr (2, [.ref z0, .ref p1, .ref p2, .ref p3, .ref p4, .ref p5])), (p1, .inl (cI, 64, .inl gh)), (o1, .inl (cI, 6, .inl fo))] H := hP
  have hD : va_D A [(p2, .inl (cI, 64, .inl fl)), (p3, .inl (cI, 64, .inl fc)), (p4, .inl (cI, 64, .inl fp)), (p5, .inl (cI, 5, .inl fj)), (z0, .inr (1, [.ref z1])), (z1, .inl (cI, 8, .inl (fun j => nI (sz j)))), (p0, .inr (2, [.ref z0, .ref p1, .ref p2, .ref p3, .ref p4, .ref p5])), (p1, .inl (cI, 64, .inl gh)), (o1, .inl (cI, 6, .inl fo))] := hD
  refine lv_iconst (v := (nI 1)) hx hb d_P_make_13 (by decide) ?_
  refine lv_istore (lv' := [(5, .int (nI 1)), (4, .int (nI (2 ^ K - 1))), (0, .ref p0), (1, .ref o1), (2, .int (nI K)), (3, .int (nI R))]) hx hb d_P_make_14 hl (by decide) rfl (fun ls hl => ?_)
  exact loop1 gh hgh (2 ^ K - 1) 1 (by omega) (by omega) fl (fun S h8 h9 => by omega) H locs (hP.sub [6, 7, 0, 1, 2, 3, 4, 5, 8] rfl) (hD.sub [6, 7, 0, 1, 2, 3, 4, 5, 8] (by decide) rfl) hS ls (lv_sub hl [2, 3, 4, 5, 1, 0] rfl)
