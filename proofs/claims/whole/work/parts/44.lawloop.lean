section LAWC
variable {p : Program} {l : Launch} {e : Env} {s : State} {m : MethodId} {below : List Frame} {meth : Method} {c : Code} {b L : Nat} {xs : Nat → Int32} {A : Nat → Prop} {dC : Nat → ClassId} {dI : Nat → Nat → Nat} {cI cJ : ClassId} {w0 h0 k1 k2 k3 k4 p0 p1 p2 p3 p4 p5 r0 r2 r3 r4 r5 r6 z0 z1 o0 o1 o2 o3 o4 o5 o6 o7 o8 o9 j : Nat}
set_option maxHeartbeats 4000000 in
set_option maxRecDepth 100000 in
theorem g_skip (hst : l.stackTraces = false) (hC : ct_Cx p s m c b L xs A dC dI cI cJ) (hj : 4 * j + 4 ≤ L) (IH : ct_Go p l e s m below meth c b A dC dI cI cJ w0 h0 k1 k2 k3 k4 p0 p1 p2 p3 p4 p5 r0 r2 r3 r4 r5 r6 z0 z1 o0 o1 o2 o3 o4 o5 o6 o7 o8 o9 23 (j + 1)) : ct_Go p l e s m below meth c b A dC dI cI cJ w0 h0 k1 k2 k3 k4 p0 p1 p2 p3 p4 p5 r0 r2 r3 r4 r5 r6 z0 z1 o0 o1 o2 o3 o4 o5 o6 o7 o8 o9 680 j := by
  obtain ⟨hx, hb, hml, hown, hts, hXv, hbs, hbA, hA, hK2, hXs, hNw, hL⟩ := hC
  intro sz lab la ot T K R pf sf N r1 f1 fot fo hm fh fl fc fp fj f fe fi fa fb ft thr stp mlb fm mo gb gp gs gd tt fw hI H locs hP hD hS ls hl
  obtain ⟨hsz, hT8, hK6, hf1, hmlb, hlab, hfew, hot, hmo, hfo, hlao, hR, hRf, hfm, hfz, h1, hN0, hN6, hpf, hok, hk0, hsf, hsum⟩ := hI
  have hK : va_K (dC, dI) ct_cl [(cI, .int)] s := hK2.sub [0] rfl
  refine lv_iinc (v := (nI (4 * (j + 1)))) (lv' := [(4, .int (nI (4 * (j + 1)))), (0, .ref b), (1, .ref h0), (2, .ref o0), (3, .ref w0)]) hx hb d_L_law_680 hl (k := 4) rfl (ct_inc4 j) (by decide) rfl (fun ls hl => ?_)
  refine lv_goto (tgt := 23) hx hb d_L_law_683 (by decide) ?_
  refine W.widen (k := 31 + (j + 1) + (N - 244)) (n := 1124 + 6 * (j + 1) + 2 * (N - 244)) (by omega) (by omega) ?_
  have hI9 : ct_I sz lab la ot T K R pf sf N r1 f1 fot fo hm fh fl fc fp fj f fe fi fa fb ft thr stp mlb fm mo gb gp gs gd tt fw := by
      unfold ct_I
      exact ⟨hsz, hT8, hK6, hf1, hmlb, hlab, hfew, hot, hmo, hfo, hlao, hR, hRf, hfm, hfz, h1, hN0, hN6, hpf, hok, hk0, hsf, hsum⟩
  exact IH sz lab la ot T K R pf sf N r1 f1 fot fo hm fh fl fc fp fj f fe fi fa fb ft thr stp mlb fm mo gb gp gs gd tt fw hI9 H locs (hP.sub [0, 1, 2, 3, 4, 5, 6, 7, 8, 9, 10, 11, 12, 13, 14, 15, 16, 17, 18, 19, 20, 21, 22, 23, 24, 25, 26, 27, 28, 29, 30] rfl) (hD.sub [0, 1, 2, 3, 4, 5, 6, 7, 8, 9, 10, 11, 12, 13, 14, 15, 16, 17, 18, 19, 20, 21, 22, 23, 24, 25, 26, 27, 28, 29, 30] (by decide) rfl) hS ls (lv_sub hl [1, 2, 3, 4, 0] rfl)
set_option maxHeartbeats 4000000 in
set_option maxRecDepth 100000 in
theorem ct_head (hC : ct_Cx p s m c b L xs A dC dI cI cJ) (hr : meth.sig.returnType = ret) (hlocks : meth.locks = false) (hA2 : ∀ q : Nat, A q → s.heap.size ≤ q) (hj : j ≤ 513) (K9 : 4 * j + 4 ≤ L → ct_Go p l e s m below meth c b A dC dI cI cJ w0 h0 k1 k2 k3 k4 p0 p1 p2 p3 p4 p5 r0 r2 r3 r4 r5 r6 z0 z1 o0 o1 o2 o3 o4 o5 o6 o7 o8 o9 32 j) : ct_Go p l e s m below meth c b A dC dI cI cJ w0 h0 k1 k2 k3 k4 p0 p1 p2 p3 p4 p5 r0 r2 r3 r4 r5 r6 z0 z1 o0 o1 o2 o3 o4 o5 o6 o7 o8 o9 23 j := by
  obtain ⟨hx, hb, hml, hown, hts, hXv, hbs, hbA, hA, hK2, hXs, hNw, hL⟩ := hC
  intro sz lab la ot T K R pf sf N r1 f1 fot fo hm fh fl fc fp fj f fe fi fa fb ft thr stp mlb fm mo gb gp gs gd tt fw hI H locs hP hD hS ls hl
  refine lv_iload hx hb d_L_law_23 (lv_at hl 4 rfl) ?_
  refine lv_aload_n hx hb d_L_law_25 rfl (lv_at hl 0 rfl) ?_
  refine va_slen hx hb hXv hbs hbA hS d_L_law_26 ?_
  refine lv_iconst (v := (nI 4)) hx hb d_L_law_27 (by decide) ?_
  refine lv_isub hx hb d_L_law_28 ?_
  refine lv_icmp_gt (tgt := 686) hx hb d_L_law_29 (by decide) (fun c1 => ?_) (fun c1 => ?_)
  · obtain ⟨hsz, hT8, hK6, hf1, hmlb, hlab, hfew, hot, hmo, hfo, hlao, hR, hRf, hfm, hfz, h1, hN0, hN6, hpf, hok, hk0, hsf, hsum⟩ := hI
    refine lv_iconst (v := (nI 1)) hx hb d_L_law_686 (by decide) ?_
    refine va_forget (fun q h9 => hA2 _ (hS.2.2 q h9)) ?_
    refine W.widen (k := 606752) (n := 7275848) (by omega) (by omega) ?_
    exact ct_val (y := 1) (by decide) (lw_ret hx hb hr hlocks d_L_law_687)
  · have h9 : ¬ L < 4 * j + 4 := fun h => c1 ((ct_gt4 hL (by omega)).mpr h)
    exact K9 (by omega) sz lab la ot T K R pf sf N r1 f1 fot fo hm fh fl fc fp fj f fe fi fa fb ft thr stp mlb fm mo gb gp gs gd tt fw hI H locs hP hD hS ls hl
set_option maxHeartbeats 4000000 in
set_option maxRecDepth 100000 in
theorem ct_disp (hC : ct_Cx p s m c b L xs A dC dI cI cJ) (hj : 4 * j + 4 ≤ L) (G0 : ct_Go p l e s m below meth c b A dC dI cI cJ w0 h0 k1 k2 k3 k4 p0 p1 p2 p3 p4 p5 r0 r2 r3 r4 r5 r6 z0 z1 o0 o1 o2 o3 o4 o5 o6 o7 o8 o9 96 j) (G1 : ct_Go p l e s m below meth c b A dC dI cI cJ w0 h0 k1 k2 k3 k4 p0 p1 p2 p3 p4 p5 r0 r2 r3 r4 r5 r6 z0 z1 o0 o1 o2 o3 o4 o5 o6 o7 o8 o9 144 j) (G2 : ct_Go p l e s m below meth c b A dC dI cI cJ w0 h0 k1 k2 k3 k4 p0 p1 p2 p3 p4 p5 r0 r2 r3 r4 r5 r6 z0 z1 o0 o1 o2 o3 o4 o5 o6 o7 o8 o9 224 j) (G3 : ct_Go p l e s m below meth c b A dC dI cI cJ w0 h0 k1 k2 k3 k4 p0 p1 p2 p3 p4 p5 r0 r2 r3 r4 r5 r6 z0 z1 o0 o1 o2 o3 o4 o5 o6 o7 o8 o9 284 j) (G4 : ct_Go p l e s m below meth c b A dC dI cI cJ w0 h0 k1 k2 k3 k4 p0 p1 p2 p3 p4 p5 r0 r2 r3 r4 r5 r6 z0 z1 o0 o1 o2 o3 o4 o5 o6 o7 o8 o9 340 j) (G5 : ct_Go p l e s m below meth c b A dC dI cI cJ w0 h0 k1 k2 k3 k4 p0 p1 p2 p3 p4 p5 r0 r2 r3 r4 r5 r6 z0 z1 o0 o1 o2 o3 o4 o5 o6 o7 o8 o9 351 j) (G6 : ct_Go p l e s m below meth c b A dC dI cI cJ w0 h0 k1 k2 k3 k4 p0 p1 p2 p3 p4 p5 r0 r2 r3 r4 r5 r6 z0 z1 o0 o1 o2 o3 o4 o5 o6 o7 o8 o9 407 j) (G7 : ct_Go p l e s m below meth c b A dC dI cI cJ w0 h0 k1 k2 k3 k4 p0 p1 p2 p3 p4 p5 r0 r2 r3 r4 r5 r6 z0 z1 o0 o1 o2 o3 o4 o5 o6 o7 o8 o9 487 j) (G8 : ct_Go p l e s m below meth c b A dC dI cI cJ w0 h0 k1 k2 k3 k4 p0 p1 p2 p3 p4 p5 r0 r2 r3 r4 r5 r6 z0 z1 o0 o1 o2 o3 o4 o5 o6 o7 o8 o9 500 j) (G9 : ct_Go p l e s m below meth c b A dC dI cI cJ w0 h0 k1 k2 k3 k4 p0 p1 p2 p3 p4 p5 r0 r2 r3 r4 r5 r6 z0 z1 o0 o1 o2 o3 o4 o5 o6 o7 o8 o9 568 j) (G10 : ct_Go p l e s m below meth c b A dC dI cI cJ w0 h0 k1 k2 k3 k4 p0 p1 p2 p3 p4 p5 r0 r2 r3 r4 r5 r6 z0 z1 o0 o1 o2 o3 o4 o5 o6 o7 o8 o9 624 j) (GD : ct_Go p l e s m below meth c b A dC dI cI cJ w0 h0 k1 k2 k3 k4 p0 p1 p2 p3 p4 p5 r0 r2 r3 r4 r5 r6 z0 z1 o0 o1 o2 o3 o4 o5 o6 o7 o8 o9 680 j) : ct_Go p l e s m below meth c b A dC dI cI cJ w0 h0 k1 k2 k3 k4 p0 p1 p2 p3 p4 p5 r0 r2 r3 r4 r5 r6 z0 z1 o0 o1 o2 o3 o4 o5 o6 o7 o8 o9 32 j := by
  obtain ⟨hx, hb, hml, hown, hts, hXv, hbs, hbA, hA, hK2, hXs, hNw, hL⟩ := hC
  intro sz lab la ot T K R pf sf N r1 f1 fot fo hm fh fl fc fp fj f fe fi fa fb ft thr stp mlb fm mo gb gp gs gd tt fw hI H locs hP hD hS ls hl
  refine lv_aload_n hx hb d_L_law_32 rfl (lv_at hl 0 rfl) ?_
  refine lv_iload hx hb d_L_law_33 (lv_at hl 4 rfl) ?_
  refine ct_sld hx hb hXv hbs hbA hS (k := 4 * j) (by omega) hL d_L_law_35 ?_
  refine lv_bipush (v := (nI 15)) hx hb d_L_law_36 (by decide) ?_
  refine lv_iand hx hb d_L_law_38 ?_
  obtain ⟨k, hk, hxk⟩ := ct_and15 (xs (4 * j))
  refine ct_val (y := nI k) hxk ?_
  rcases (show k = 0 ∨ k = 1 ∨ k = 2 ∨ k = 3 ∨ k = 4 ∨ k = 5 ∨ k = 6 ∨ k = 7 ∨ k = 8 ∨ k = 9 ∨ k = 10 ∨ 11 ≤ k by omega) with rfl | rfl | rfl | rfl | rfl | rfl | rfl | rfl | rfl | rfl | rfl | h11
  · exact lv_tableIn (off := 57) (tgt := 96) hx hb d_L_law_39 (by decide) (by decide) (by decide +kernel) (by decide) (G0 sz lab la ot T K R pf sf N r1 f1 fot fo hm fh fl fc fp fj f fe fi fa fb ft thr stp mlb fm mo gb gp gs gd tt fw hI H locs hP hD hS ls hl)
  · exact lv_tableIn (off := 105) (tgt := 144) hx hb d_L_law_39 (by decide) (by decide) (by decide +kernel) (by decide) (G1 sz lab la ot T K R pf sf N r1 f1 fot fo hm fh fl fc fp fj f fe fi fa fb ft thr stp mlb fm mo gb gp gs gd tt fw hI H locs hP hD hS ls hl)
  · exact lv_tableIn (off := 185) (tgt := 224) hx hb d_L_law_39 (by decide) (by decide) (by decide +kernel) (by decide) (G2 sz lab la ot T K R pf sf N r1 f1 fot fo hm fh fl fc fp fj f fe fi fa fb ft thr stp mlb fm mo gb gp gs gd tt fw hI H locs hP hD hS ls hl)
  · exact lv_tableIn (off := 245) (tgt := 284) hx hb d_L_law_39 (by decide) (by decide) (by decide +kernel) (by decide) (G3 sz lab la ot T K R pf sf N r1 f1 fot fo hm fh fl fc fp fj f fe fi fa fb ft thr stp mlb fm mo gb gp gs gd tt fw hI H locs hP hD hS ls hl)
  · exact lv_tableIn (off := 301) (tgt := 340) hx hb d_L_law_39 (by decide) (by decide) (by decide +kernel) (by decide) (G4 sz lab la ot T K R pf sf N r1 f1 fot fo hm fh fl fc fp fj f fe fi fa fb ft thr stp mlb fm mo gb gp gs gd tt fw hI H locs hP hD hS ls hl)
  · exact lv_tableIn (off := 312) (tgt := 351) hx hb d_L_law_39 (by decide) (by decide) (by decide +kernel) (by decide) (G5 sz lab la ot T K R pf sf N r1 f1 fot fo hm fh fl fc fp fj f fe fi fa fb ft thr stp mlb fm mo gb gp gs gd tt fw hI H locs hP hD hS ls hl)
  · exact lv_tableIn (off := 368) (tgt := 407) hx hb d_L_law_39 (by decide) (by decide) (by decide +kernel) (by decide) (G6 sz lab la ot T K R pf sf N r1 f1 fot fo hm fh fl fc fp fj f fe fi fa fb ft thr stp mlb fm mo gb gp gs gd tt fw hI H locs hP hD hS ls hl)
  · exact lv_tableIn (off := 448) (tgt := 487) hx hb d_L_law_39 (by decide) (by decide) (by decide +kernel) (by decide) (G7 sz lab la ot T K R pf sf N r1 f1 fot fo hm fh fl fc fp fj f fe fi fa fb ft thr stp mlb fm mo gb gp gs gd tt fw hI H locs hP hD hS ls hl)
  · exact lv_tableIn (off := 461) (tgt := 500) hx hb d_L_law_39 (by decide) (by decide) (by decide +kernel) (by decide) (G8 sz lab la ot T K R pf sf N r1 f1 fot fo hm fh fl fc fp fj f fe fi fa fb ft thr stp mlb fm mo gb gp gs gd tt fw hI H locs hP hD hS ls hl)
  · exact lv_tableIn (off := 529) (tgt := 568) hx hb d_L_law_39 (by decide) (by decide) (by decide +kernel) (by decide) (G9 sz lab la ot T K R pf sf N r1 f1 fot fo hm fh fl fc fp fj f fe fi fa fb ft thr stp mlb fm mo gb gp gs gd tt fw hI H locs hP hD hS ls hl)
  · exact lv_tableIn (off := 585) (tgt := 624) hx hb d_L_law_39 (by decide) (by decide) (by decide +kernel) (by decide) (G10 sz lab la ot T K R pf sf N r1 f1 fot fo hm fh fl fc fp fj f fe fi fa fb ft thr stp mlb fm mo gb gp gs gd tt fw hI H locs hP hD hS ls hl)
  · exact lv_tableOut (tgt := 680) hx hb d_L_law_39 (Or.inr (by rw [nI_toInt (by omega)]; omega)) (by decide) (GD sz lab la ot T K R pf sf N r1 f1 fot fo hm fh fl fc fp fj f fe fi fa fb ft thr stp mlb fm mo gb gp gs gd tt fw hI H locs hP hD hS ls hl)
end LAWC
theorem ct_loop {p : Program} {l : Launch} {e : Env} {s : State} {m : MethodId} {below : List Frame} {meth : Method} {c : Code} {b L : Nat} {xs : Nat → Int32} {A : Nat → Prop} {dC : Nat → ClassId} {dI : Nat → Nat → Nat} {cI cJ : ClassId} {w0 h0 k1 k2 k3 k4 p0 p1 p2 p3 p4 p5 r0 r2 r3 r4 r5 r6 z0 z1 o0 o1 o2 o3 o4 o5 o6 o7 o8 o9 : Nat} (hst : l.stackTraces = false) (hC : ct_Cx p s m c b L xs A dC dI cI cJ) (hr : meth.sig.returnType = ret) (hlocks : meth.locks = false) (hA2 : ∀ q : Nat, A q → s.heap.size ≤ q) : ∀ n j : Nat, 513 ≤ n + j → j ≤ 513 → ct_Go p l e s m below meth c b A dC dI cI cJ w0 h0 k1 k2 k3 k4 p0 p1 p2 p3 p4 p5 r0 r2 r3 r4 r5 r6 z0 z1 o0 o1 o2 o3 o4 o5 o6 o7 o8 o9 23 j := by
  have hL : L ≤ 2048 := hC.2.2.2.2.2.2.2.2.2.2.2.2
  intro n
  induction n with
  | zero => exact fun j h1 h2 => ct_head hC hr hlocks hA2 h2 (fun h => absurd h (by omega))
  | succ n ih =>
    intro j h1 h2
    refine ct_head hC hr hlocks hA2 h2 (fun h4 => ?_)
    have IH : ct_Go p l e s m below meth c b A dC dI cI cJ w0 h0 k1 k2 k3 k4 p0 p1 p2 p3 p4 p5 r0 r2 r3 r4 r5 r6 z0 z1 o0 o1 o2 o3 o4 o5 o6 o7 o8 o9 23 (j + 1) := ih (j + 1) (by omega) (by omega)
    exact ct_disp hC h4 (g_size hst hC h4 IH) (g_table hst hC h4 IH) (g_set hst hC h4 IH) (g_extent hst hC h4 IH) (g_clear hst hC h4 IH) (g_operand hst hC h4 IH) (g_result hst hC h4 IH) (g_cost hst hC h4 IH) (g_step hst hC h4 IH) (g_value hst hC h4 IH) (g_about hst hC h4 IH) (g_skip hst hC h4 IH)
