/-! THE CLAIM OUT OF ONE WALK OF THE LAW'S BODY. Your part is whole_start (and what it stands on); all else here is the same for every law, but numbers. -/
def R_law : String := "ContractHouseLaw"
def lw_P (b : Addr) (xs : List Int32) (args : Array Value) (s : State) : Prop := args = #[.ref b] ∧ s.IntsAt b xs ∧ xs.length ≤ 2048 ∧ (Jvm.Cond.and given_1 narrow_1).before args s = true
def lw_Q (_ : Array Value) (s : State) (o : Outcome) (t : State) : Prop := o = .returned (some (.int 1)) ∧ Framed s o t [] 606752 7275848
def lw_Z (below : List Frame) (a : Array Value) (s : State) : State → Prop := fun t => ∃ o, t.status = .running ∧ Ended t below o ∧ lw_Q a s o t
/-- the law's own end, with 1 on the stack, nothing written that was there before, its room as the claim has it -/
theorem lw_ret {p : Program} {l : Launch} {e : Env} {s : State} {m : MethodId} {below : List Frame} {meth : Method} {c : Code} {b : Nat} (hx : p.tables.exec = Jvm.exec) (hb : c.code = code) (hr : meth.sig.returnType = ret) (hlocks : meth.locks = false) {pc : Nat} {H : Heap} {ls : Array Slot} (hdg : decode code pc = .ok (.ireturn, 1)) : W p l e room_1 s m #[Value.ref b] below meth c H [] 606752 7275848 (lw_Z below #[Value.ref b] s) (F0 m pc ls [.int 1]) := by
  intro T hT X
  obtain ⟨fs, hret, hrun, hended, hW, hframe⟩ := X.leave (v := some (.int 1)) (hlocks := hlocks) (fun h => by rw [hr] at h; cases h)
  have hmeth' : T.vm.method? m = some meth := X.method'
  refine ⟨T.setFrames fs, ?_, .returned (some (.int 1)), hrun, hended, rfl, ⟨_, rfl⟩, hW, hframe⟩
  jvm_step X.here [X.here.top, hx, hb, hdg, hmeth', hr, ret, narrow_b1]
  (try refine ⟨rfl, ?_⟩); (try refine ⟨rfl, ?_⟩)
  first | (intro acts; rw [hret _ acts rfl rfl rfl]) | rw [hret _ _ rfl rfl rfl]
  exact Steps.refl _
/-- what holds at the law's entry: the machine, the code, the tables' words (any of lw_tbl by 'hts w (by decide +kernel)'), the script of L ints xs at the cell b, what the Statement gives of the start (any of its parts by flat_of_before) -/
def lw_At (p : Program) (s : State) (m : MethodId) (meth : Method) (c : Code) (b L : Nat) (xs : Nat → Int32) : Prop :=
  p.tables.exec = Jvm.exec ∧ c.code = code ∧ meth.sig.returnType = ret ∧ c.maxLocals = 7 ∧ s.vm.findClass R_law = some m.cls ∧ (∀ w ∈ lw_tbl, w.before #[Value.ref b] s = true) ∧ va_X b L xs s s.heap ∧ b < s.heap.size ∧ meth.locks = false ∧ (Jvm.Cond.and given_1 narrow_1).before #[Value.ref b] s = true
def ct_cnt (m : Nat) : Nat → Nat
  | 0 => 0
  | n + 1 => ct_cnt m n + (if m.testBit n = true then 1 else 0)
theorem ct_pr_cnt {s : Nat → Nat} {m : Nat} (n : Nat) (h : ∀ k, k < n → s k < 4) : ct_pr s m.testBit n ≤ 3 ^ ct_cnt m n := by
  induction n with
  | zero => exact Nat.le_refl 1
  | succ n ih =>
    have ih := ih (fun k hk => h k (by omega))
    cases hp : m.testBit n with
    | true =>
      have e : ct_cnt m (n + 1) = ct_cnt m n + 1 := by show ct_cnt m n + (if m.testBit n = true then 1 else 0) = _; rw [if_pos hp]
      rw [ct_pr_in hp, e, Nat.pow_succ]
      exact Nat.mul_le_mul ih (by have := h n (by omega); omega)
    | false =>
      have e : ct_cnt m (n + 1) = ct_cnt m n := by show ct_cnt m n + (if m.testBit n = true then 1 else 0) = _; rw [if_neg (by rw [hp]; exact Bool.false_ne_true)]; rfl
      rw [ct_pr_out hp, e]; exact ih
/-- at most three labels -/
def ct_few (m : Nat) : Prop := ct_cnt m 8 ≤ 3
theorem ct_few.le {m : Nat} (h : ct_few m) {s : Nat → Nat} (hs : ∀ k, k < 8 → 0 < s k ∧ s k < 4) : ct_pr s m.testBit 8 ≤ 27 := Nat.le_trans (ct_pr_cnt 8 (fun k hk => (hs k hk).2)) (Nat.pow_le_pow_right (n := 3) (j := 3) (by omega) h)
def ct_bit9 (k : Nat) : Nat := if k < 8 then 2 ^ k else 0
theorem ct_few9 : ∀ i, i < 9 → ∀ j, j < 9 → ∀ k, k < 9 → ct_cnt (ct_bit9 i ||| ct_bit9 j ||| ct_bit9 k) 8 ≤ 3 := by decide +kernel
theorem ct_lb9 {x : Int32} (h : ct_isl x) : ∃ k, k < 9 ∧ ct_lb x = ct_bit9 k := by
  rcases h with h | ⟨k, hk, rfl⟩
  · exact ⟨8, by omega, by rw [ct_lb_no h, ct_bit9, if_neg (by omega)]⟩
  · exact ⟨k, by omega, by rw [ct_lb_nI hk, ct_bit9, if_pos hk]⟩
theorem ct_few_lbs {a b d : Int32} (h : ct_al a b d = true) : ct_few (ct_lbs a b d) := by
  obtain ⟨ha, hb, hd⟩ := ct_al_isl h
  obtain ⟨i, hi, ei⟩ := ct_lb9 ha
  obtain ⟨j, hj, ej⟩ := ct_lb9 hb
  obtain ⟨k, hk, ek⟩ := ct_lb9 hd
  unfold ct_few ct_lbs
  rw [ei, ej, ek]
  exact ct_few9 i hi j hj k hk
theorem ct_few_0 : ct_few 0 := by show ct_cnt 0 8 ≤ 3; decide
theorem ct_jc_st {sz lab la ot : Nat → Nat} {T K R k v : Nat} (hno : ct_any lab k T = false) (hla : ∀ o, o < K → la o = lab (ot o)) (hot : ∀ o, o < K → ot o < T) : ct_jc (ct_st sz k v) la K R = ct_jc sz la K R := by
  have key : ∀ S, (ct_lv la K R S).testBit k = true → False := fun S h => by
    have h2 : (ct_has la S K).testBit k = true := by
      unfold ct_lv at h
      by_cases hs : ct_sev S = true
      · rw [if_pos hs, Nat.testBit_and, Bool.and_eq_true] at h; exact h.1
      · rw [if_neg hs] at h; exact h
    obtain ⟨o, ho, _, hb⟩ := (ct_has_bit K k).mp h2
    rw [hla o ho] at hb
    rw [ct_any_up T (hot o ho) hb] at hno
    cases hno
  funext a b
  refine ct_pr_congr 8 (fun _ _ => rfl) (fun j hj hb => ct_st_ne _ _ (fun e => ?_))
  rw [e, Nat.testBit_or, Bool.or_eq_true] at hb
  exact hb.elim (key a) (key b)
theorem ct_plok_st {sz lab la ot : Nat → Nat} {T K R k v : Nat} {fh fl fc fp fj : Nat → Int32} (hno : ct_any lab k T = false) (hla : ∀ o, o < K → la o = lab (ot o)) (hot : ∀ o, o < K → ot o < T) (h : ct_plok sz la K R fh fl fc fp fj) : ct_plok (ct_st sz k v) la K R fh fl fc fp fj := by
  unfold ct_plok at h ⊢
  rw [ct_jc_st hno hla hot]
  exact h
theorem ct_st_ok {sz : Nat → Nat} {k v : Nat} (h : ∀ k, k < 8 → 0 < sz k ∧ sz k < 4) (h0 : 0 < v) (h4 : v < 4) : ∀ i, i < 8 → 0 < ct_st sz k v i ∧ ct_st sz k v i < 4 := fun i hi => by
  by_cases e : i = k
  · rw [e, ct_st_at]; exact ⟨h0, h4⟩
  · rw [ct_st_ne _ _ e]; exact h i hi
theorem ct_and15 (x : Int32) : ∃ k : Nat, k < 16 ∧ x &&& nI 15 = nI k := by
  have h : (x &&& nI 15).toBitVec.toNat < 16 := by
    rw [Int32.toBitVec_and, BitVec.toNat_and, show (nI 15).toBitVec.toNat = 15 from pk_tn (by omega)]
    exact Nat.and_lt_two_pow (n := 4) _ (by omega)
  refine ⟨(x &&& nI 15).toBitVec.toNat, h, ?_⟩
  apply Int32.toBitVec_inj.mp
  apply BitVec.eq_of_toNat_eq
  rw [pk_tn (by omega)]
theorem ct_gt4 {L j : Nat} (hL : L ≤ 2048) (hj : j ≤ 600) : nI L - nI 4 < nI (4 * j) ↔ L < 4 * j + 4 := by
  rw [Int32.lt_iff_toInt_lt, pk_sub_toInt (by omega) (by omega), nI_toInt (by omega)]
  omega
section SLD
variable {p : Program} {l : Launch} {e : Env} {R : Room} {s : State} {m : MethodId} {args : Array Value} {below : List Frame} {meth : Method} {c : Code} {H : Heap} {locs : List Loc} {cells slots : Nat} {Q : State → Prop} {cc : ByteArray} {pc : Nat} {ls : Array Slot} {rest : List Value} {A : Nat → Prop} {H0 : Heap}
theorem ct_sld (hexec : p.tables.exec = Jvm.exec) (hb : c.code = cc) {b L : Nat} {xs : Nat → Int32} (hX : va_X b L xs s H0) (hbl : b < H0.size) (hbA : ¬ A b) (hS : va_S A H0 H locs) {k : Nat} (hk : k < L) (hL : L ≤ 2048) (hdg : decode cc pc = .ok (.iaload, 1))
    (kk : W p l e R s m args below meth c H locs cells slots Q (F0 m (pc + 1) ls (.int (xs k) :: rest))) : W p l e R s m args below meth c H locs cells slots Q (F0 m pc ls (.int (nI k) :: .ref b :: rest)) := by
  refine va_sld hexec hb hX hbl hbA hS (vp_in_nI hk (by omega)) hdg ?_
  rw [nI_clamp (by omega)]
  exact kk
end SLD
theorem ct_KI {args : Array Value} {s : State} (h : (Cond.arrayClass .int).before args s = true) : ∃ cI : ClassId, ArrOfT s cI .int ∧ va_RA s cI .int := by
  obtain ⟨cA, kA, comp, h1, h2, h3⟩ := Cond.arrayClass_spec h
  exact ⟨cA, fun n z => ⟨fun k h => (by cases h), kA, h2, comp, h3⟩, h1⟩
/-- what ties the class and the model between two calls -/
def ct_I (sz : Nat → Nat) (lab : Nat → Nat) (la : Nat → Nat) (ot : Nat → Nat) (T : Nat) (K : Nat) (R : Nat) (pf : Nat) (sf : Nat) (N : Nat) (r1 : Nat) (f1 : Nat → Int32) (fot : Nat → Int32) (fo : Nat → Int32) (hm : Nat → Int32) (fh : Nat → Int32) (fl : Nat → Int32) (fc : Nat → Int32) (fp : Nat → Int32) (fj : Nat → Int32) (f : Nat → Int32) (fe : Nat → Int32) (fi : Nat → Int32) (fa : Nat → Int32) (fb : Nat → Int32) (ft : Nat → Int32) (thr : Int32) (stp : Int32) (mlb : Nat → Int32) (fm : Nat → Int32) (mo : Nat → Int32) (gb : Nat → Int32) (gp : Nat → Int32) (gs : Nat → Int32) (gd : Nat → Int32) (tt : Nat → Nat) (fw : Nat → Int64) : Prop := (∀ k, k < 8 → 0 < sz k ∧ sz k < 4) ∧ (T ≤ 8) ∧ (K ≤ 6) ∧ (∀ t, t < T → f1 t = nI (lab t)) ∧ (∀ t, t < T → mlb t = nI (lab t)) ∧ (∀ t, t < T → lab t < 256) ∧ (∀ t, t < T → ct_few (lab t)) ∧ (∀ o, o < K → fot o = nI (ot o) ∧ ot o < T) ∧ (∀ o, o < K → mo o = nI (ot o)) ∧ (∀ o, o < K → fo o = nI (la o)) ∧ (∀ o, o < K → la o = lab (ot o)) ∧ (R < 256) ∧ (ct_few R) ∧ (∀ i, i < 216 → f i = fm i) ∧ (∀ i, 27 * T ≤ i → i < 216 → f i = 0) ∧ (f 243 = 1) ∧ (244 ≤ N) ∧ (N ≤ 60000) ∧ (pf = 0 ∨ pf = 1) ∧ (pf = 1 → 2 ≤ K ∧ ct_plok sz la K R fh fl fc fp fj) ∧ (ct_plk fh fc) ∧ (sf = 0 ∨ sf = 1) ∧ (sf = 1 → ct_sumok sz la ot K R f)
def ct_Go (p : Program) (l : Launch) (e : Env) (s : State) (m : MethodId) (below : List Frame) (meth : Method) (c : Code) (b : Nat) (A : Nat → Prop) (dC : Nat → ClassId) (dI : Nat → Nat → Nat) (cI cJ : ClassId) (w0 h0 k1 k2 k3 k4 p0 p1 p2 p3 p4 p5 r0 r2 r3 r4 r5 r6 z0 z1 o0 o1 o2 o3 o4 o5 o6 o7 o8 o9 : Nat) (pc j : Nat) : Prop :=
  ∀ (sz : Nat → Nat) (lab : Nat → Nat) (la : Nat → Nat) (ot : Nat → Nat) (T : Nat) (K : Nat) (R : Nat) (pf : Nat) (sf : Nat) (N : Nat) (r1 : Nat) (f1 : Nat → Int32) (fot : Nat → Int32) (fo : Nat → Int32) (hm : Nat → Int32) (fh : Nat → Int32) (fl : Nat → Int32) (fc : Nat → Int32) (fp : Nat → Int32) (fj : Nat → Int32) (f : Nat → Int32) (fe : Nat → Int32) (fi : Nat → Int32) (fa : Nat → Int32) (fb : Nat → Int32) (ft : Nat → Int32) (thr : Int32) (stp : Int32) (mlb : Nat → Int32) (fm : Nat → Int32) (mo : Nat → Int32) (gb : Nat → Int32) (gp : Nat → Int32) (gs : Nat → Int32) (gd : Nat → Int32) (tt : Nat → Nat) (fw : Nat → Int64), ct_I sz lab la ot T K R pf sf N r1 f1 fot fo hm fh fl fc fp fj f fe fi fa fb ft thr stp mlb fm mo gb gp gs gd tt fw → ∀ (H : Heap) (locs : List Loc), va_P (dC, dI) ct_cl [(w0, .inl (cJ, 1, .inr (.inl fw))), (h0, .inr (0, [.ref z0, .ref p0, .ref r0, .int (nI T), .ref k1, .int (nI K), .ref k2, .ref k3, .int (nI R), .ref k4, .int (nI pf), .int (nI sf)])), (k1, .inl (cI, 8, .inl f1)), (k2, .inl (cI, 6, .inl fot)), (k3, .inl (cI, 6, .inl fo)), (k4, .inl (cI, 64, .inl hm)), (p0, .inr (2, [.ref z0, .ref p1, .ref p2, .ref p3, .ref p4, .ref p5])), (p1, .inl (cI, 64, .inl fh)), (p2, .inl (cI, 64, .inl fl)), (p3, .inl (cI, 64, .inl fc)), (p4, .inl (cI, 64, .inl fp)), (p5, .inl (cI, 5, .inl fj)), (r0, .inr (3, [.ref z0, .ref r1, .ref r2, .ref r3, .ref r4, .ref r5, .ref r6])), (r1, .inl (cI, N, .inl f)), (r2, .inl (cI, 8, .inl fe)), (r3, .inl (cI, 8, .inl fi)), (r4, .inl (cI, 8, .inl fa)), (r5, .inl (cI, 8, .inl fb)), (r6, .inl (cI, 8, .inl ft)), (z0, .inr (1, [.ref z1])), (z1, .inl (cI, 8, .inl (fun j => nI (sz j)))), (o0, .inr (4, [.int thr, .ref o1, .int (nI T), .ref o2, .ref o3, .int (nI K), .ref o4, .int (nI R), .ref o5, .ref o6, .int stp, .ref o7, .ref o8, .ref o9])), (o1, .inl (cI, 8, .inl (fun j => nI (sz j)))), (o2, .inl (cI, 8, .inl mlb)), (o3, .inl (cI, 216, .inl fm)), (o4, .inl (cI, 6, .inl mo)), (o5, .inl (cI, 64, .inl gb)), (o6, .inl (cI, 64, .inl gp)), (o7, .inl (cI, 8, .inl gs)), (o8, .inl (cI, 64, .inl gd)), (o9, .inl (cI, 8, .inl (fun j => nI (tt j))))] H → va_D A [(w0, .inl (cJ, 1, .inr (.inl fw))), (h0, .inr (0, [.ref z0, .ref p0, .ref r0, .int (nI T), .ref k1, .int (nI K), .ref k2, .ref k3, .int (nI R), .ref k4, .int (nI pf), .int (nI sf)])), (k1, .inl (cI, 8, .inl f1)), (k2, .inl (cI, 6, .inl fot)), (k3, .inl (cI, 6, .inl fo)), (k4, .inl (cI, 64, .inl hm)), (p0, .inr (2, [.ref z0, .ref p1, .ref p2, .ref p3, .ref p4, .ref p5])), (p1, .inl (cI, 64, .inl fh)), (p2, .inl (cI, 64, .inl fl)), (p3, .inl (cI, 64, .inl fc)), (p4, .inl (cI, 64, .inl fp)), (p5, .inl (cI, 5, .inl fj)), (r0, .inr (3, [.ref z0, .ref r1, .ref r2, .ref r3, .ref r4, .ref r5, .ref r6])), (r1, .inl (cI, N, .inl f)), (r2, .inl (cI, 8, .inl fe)), (r3, .inl (cI, 8, .inl fi)), (r4, .inl (cI, 8, .inl fa)), (r5, .inl (cI, 8, .inl fb)), (r6, .inl (cI, 8, .inl ft)), (z0, .inr (1, [.ref z1])), (z1, .inl (cI, 8, .inl (fun j => nI (sz j)))), (o0, .inr (4, [.int thr, .ref o1, .int (nI T), .ref o2, .ref o3, .int (nI K), .ref o4, .int (nI R), .ref o5, .ref o6, .int stp, .ref o7, .ref o8, .ref o9])), (o1, .inl (cI, 8, .inl (fun j => nI (sz j)))), (o2, .inl (cI, 8, .inl mlb)), (o3, .inl (cI, 216, .inl fm)), (o4, .inl (cI, 6, .inl mo)), (o5, .inl (cI, 64, .inl gb)), (o6, .inl (cI, 64, .inl gp)), (o7, .inl (cI, 8, .inl gs)), (o8, .inl (cI, 64, .inl gd)), (o9, .inl (cI, 8, .inl (fun j => nI (tt j))))] → va_S A s.heap H locs → ∀ ls : Array Slot, lv_has ls 7 [(0, .ref b), (1, .ref h0), (2, .ref o0), (3, .ref w0), (4, .int (nI (4 * j)))] →
    W p l e room_1 s m #[Value.ref b] below meth c H locs (31 + j + (N - 244)) (1124 + 6 * j + 2 * (N - 244)) (lw_Z below #[Value.ref b] s) (F0 m pc ls [])
def ct_Cx (p : Program) (s : State) (m : MethodId) (c : Code) (b L : Nat) (xs : Nat → Int32) (A : Nat → Prop) (dC : Nat → ClassId) (dI : Nat → Nat → Nat) (cI cJ : ClassId) : Prop :=
  p.tables.exec = Jvm.exec ∧ c.code = code ∧ c.maxLocals = 7 ∧ s.vm.findClass R_L = some m.cls ∧ (∀ w ∈ Cond.initialized R_L :: ct_tb, w.before #[Value.ref b] s = true) ∧ va_X b L xs s s.heap ∧ b < s.heap.size ∧ ¬ A b ∧ (∀ q : Nat, s.heap.size ≤ q → A q) ∧ va_K (dC, dI) ct_cl [(cI, .int), (cJ, .long)] s ∧ ct_X A s s.heap ∧ ct_N s ∧ L ≤ 2048
