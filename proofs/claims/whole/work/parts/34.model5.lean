theorem ct_neg_I : ∀ S, S < 64 → 0 < S → (¬ (0 : Int32) ≤ -(nI S)) ∧ -(-(nI S)) = nI S := by decide +kernel
/-- the model's stack: sets whose steps are still to come (false), sets that are only to be noted (true); the top first -/
def ct_wt : List (Bool × Nat) → Nat
  | [] => 0
  | (b, S) :: L => (if b = true then 1 else 3 * ct_pop S - 2) + ct_wt L
def ct_stk (K : Nat) (h : Nat → Int32) : List (Bool × Nat) → Prop
  | [] => True
  | (b, S) :: L => h L.length = (if b = true then -(nI S) else nI S) ∧ 0 < S ∧ S < 2 ^ K ∧ ct_stk K h L
def ct_fl2 (B : Nat → Nat × Nat) : List (Bool × Nat) → List Nat
  | [] => []
  | (b, S) :: L => (if b = true then [S] else ct_ls B 64 S) ++ ct_fl2 B L
def ct_sti (B : Nat → Nat × Nat) (T : List Nat) (K : Nat) (g h : Nat → Int32) (E : List Nat) (L : List (Bool × Nat)) : Prop := E ++ ct_fl2 B L = T ∧ (∀ k, k < E.length → g k = nI (E.getD k 0)) ∧ ct_stk K h L
theorem ct_stk_congr {K : Nat} {h h' : Nat → Int32} : ∀ L : List (Bool × Nat), (∀ i, i < L.length → h' i = h i) → ct_stk K h L → ct_stk K h' L
  | [], _, _ => trivial
  | (b, S) :: L, hh, ⟨h1, h2, h3, h4⟩ => ⟨(hh L.length (Nat.lt_succ_self _)).trans h1, h2, h3, ct_stk_congr L (fun i hi => hh i (Nat.lt_succ_of_lt hi)) h4⟩
theorem ct_stk_wt {K : Nat} (hK : K ≤ 6) {h : Nat → Int32} : ∀ L : List (Bool × Nat), ct_stk K h L → L.length ≤ ct_wt L
  | [], _ => Nat.le_refl 0
  | (b, S) :: L, ⟨_, h2, h3, h4⟩ => by
    have h2K := ct_2K K (by omega)
    have h5 := ct_stk_wt hK L h4
    have h6 := (ct_pop_1 S (by omega) h2).2
    show L.length + 1 ≤ (if b = true then 1 else 3 * ct_pop S - 2) + ct_wt L
    cases b
    · rw [if_neg Bool.false_ne_true]; omega
    · rw [if_pos rfl]; omega
theorem ct_wt_nil {K : Nat} (hK : K ≤ 6) {h : Nat → Int32} {L : List (Bool × Nat)} (hs : ct_stk K h L) (hw : ct_wt L = 0) : L = [] := by
  have h5 := ct_stk_wt hK L hs
  exact List.length_eq_zero_iff.mp (by omega)
theorem ct_wt_cons {n : Nat} {L : List (Bool × Nat)} (hw : ct_wt L = n + 1) : ∃ b S L2, L = (b, S) :: L2 := by
  cases L with
  | nil => exact absurd hw (by show ¬ 0 = n + 1; omega)
  | cons q L => exact ⟨q.1, q.2, L, rfl⟩
theorem ct_sti_neg {B : Nat → Nat × Nat} {T : List Nat} {K S : Nat} {g h : Nat → Int32} {E : List Nat} {L : List (Bool × Nat)} (hi : ct_sti B T K g h E ((true, S) :: L)) : E.length < T.length ∧ ct_sti B T K (upd g E.length (nI S)) h (E ++ [S]) L := by
  obtain ⟨h1, h2, h3, h4, h5, h6⟩ := hi
  have e : E ++ [S] ++ ct_fl2 B L = T := by rw [List.append_assoc]; exact h1
  refine ⟨?_, e, fun k hk => ?_, h6⟩
  · rw [← e, List.length_append, List.length_append]; simp only [List.length_singleton]; omega
  · rw [List.length_append, List.length_singleton] at hk
    by_cases hn : k = E.length
    · rw [hn, pk_us, List.getD_eq_getElem?_getD, List.getElem?_append_right (Nat.le_refl _), Nat.sub_self]; rfl
    · rw [pk_un hn, List.getD_eq_getElem?_getD, List.getElem?_append_left (by omega), ← List.getD_eq_getElem?_getD]; exact h2 k (by omega)
theorem ct_sti_one {B : Nat → Nat × Nat} {T : List Nat} {K S : Nat} {g h : Nat → Int32} {E : List Nat} {L : List (Bool × Nat)} (hs : ct_sev S = false) (hi : ct_sti B T K g h E ((false, S) :: L)) : ct_sti B T K g h E L := by
  obtain ⟨h1, h2, h3, h4, h5, h6⟩ := hi
  have e : ct_fl2 B ((false, S) :: L) = ct_fl2 B L := by show ct_ls B 64 S ++ ct_fl2 B L = _; rw [ct_ls_one hs]; rfl
  rw [e] at h1
  exact ⟨h1, h2, h6⟩
theorem ct_sti_sev {B : Nat → Nat × Nat} (hB : ct_okB B) {T : List Nat} {K S : Nat} (hK : K ≤ 6) {g h : Nat → Int32} {E : List Nat} {L : List (Bool × Nat)} (hs : ct_sev S = true) (hi : ct_sti B T K g h E ((false, S) :: L)) : ct_sti B T K g (upd (upd (upd h L.length (-(nI S))) (L.length + 1) (nI (S ^^^ (B S).2))) (L.length + 2) (nI (B S).2)) E ((false, (B S).2) :: (false, S ^^^ (B S).2) :: (true, S) :: L) := by
  obtain ⟨h1, h2, h3, h4, h5, h6⟩ := hi
  have h2K := ct_2K K (by omega)
  have hp := hB S (by omega) hs
  have hc := ct_pt_co S (by omega) _ hp.1 hp.2
  have e : ct_fl2 B ((false, S) :: L) = ct_fl2 B ((false, (B S).2) :: (false, S ^^^ (B S).2) :: (true, S) :: L) := by
    show ct_ls B 64 S ++ ct_fl2 B L = ct_ls B 64 (B S).2 ++ (ct_ls B 64 (S ^^^ (B S).2) ++ ([S] ++ ct_fl2 B L))
    rw [ct_ls_sev hB (by omega) hs, List.append_assoc, List.append_assoc]
  rw [e] at h1
  refine ⟨h1, h2, ?_, ct_pt_pos hp.2, by omega, ?_, hc.1, by omega, ?_, h4, h5, ?_⟩
  · exact pk_us
  · show upd _ (L.length + 2) _ (L.length + 1) = nI _
    rw [pk_un (by omega)]; exact pk_us
  · show upd _ (L.length + 2) _ L.length = -(nI S)
    rw [pk_un (by omega), pk_un (by omega)]; exact pk_us
  · refine ct_stk_congr L (fun i hi => ?_) h6
    rw [pk_un (by omega), pk_un (by omega), pk_un (by omega)]
theorem ct_wt_sev {B : Nat → Nat × Nat} (hB : ct_okB B) {S n : Nat} {L : List (Bool × Nat)} (hS : S < 64) (hs : ct_sev S = true) (hw : ct_wt ((false, S) :: L) = n + 1) : ct_wt ((false, (B S).2) :: (false, S ^^^ (B S).2) :: (true, S) :: L) = n := by
  have hp := hB S hS hs
  have hc := ct_pt_co S hS _ hp.1 hp.2
  have e := ct_pop_pt S hS _ hp.1 hp.2
  have h1 := (ct_pop_1 (B S).2 (by omega) (ct_pt_pos hp.2)).2
  have h2 := (ct_pop_1 (S ^^^ (B S).2) (by omega) hc.1).2
  have hw : 3 * ct_pop S - 2 + ct_wt L = n + 1 := hw
  show 3 * ct_pop (B S).2 - 2 + (3 * ct_pop (S ^^^ (B S).2) - 2 + (1 + ct_wt L)) = n
  omega
theorem ct_wt_one {S n : Nat} {L : List (Bool × Nat)} (hS : S < 64) (h0 : 0 < S) (hs : ct_sev S = false) (hw : ct_wt ((false, S) :: L) = n + 1) : ct_wt L = n := by
  have h1 := ct_pop_1 S hS h0
  have h2 : ¬ 2 ≤ ct_pop S := fun z => by rw [h1.1.mpr z] at hs; cases hs
  have hw : 3 * ct_pop S - 2 + ct_wt L = n + 1 := hw
  omega
theorem ct_wt_neg {S n : Nat} {L : List (Bool × Nat)} (hw : ct_wt ((true, S) :: L) = n + 1) : ct_wt L = n := by
  have hw : 1 + ct_wt L = n + 1 := hw
  omega
theorem d_M_list_0 : decode b_M_list 0 = .ok (.aload_n 0, 1) := by decide +kernel
theorem d_M_list_1 : decode b_M_list 1 = .ok (.invokevirtual 80, 3) := by decide +kernel
theorem d_M_list_4 : decode b_M_list 4 = .ok (.aload_n 0, 1) := by decide +kernel
theorem d_M_list_5 : decode b_M_list 5 = .ok (.iconst 0, 1) := by decide +kernel
theorem d_M_list_6 : decode b_M_list 6 = .ok (.putfield 83, 3) := by decide +kernel
theorem d_M_list_9 : decode b_M_list 9 = .ok (.iconst 0, 1) := by decide +kernel
theorem d_M_list_10 : decode b_M_list 10 = .ok (.istore_n 1, 1) := by decide +kernel
theorem d_M_list_11 : decode b_M_list 11 = .ok (.iconst 1, 1) := by decide +kernel
theorem d_M_list_12 : decode b_M_list 12 = .ok (.aload_n 0, 1) := by decide +kernel
theorem d_M_list_13 : decode b_M_list 13 = .ok (.getfield 64, 3) := by decide +kernel
theorem d_M_list_16 : decode b_M_list 16 = .ok (.ishl, 1) := by decide +kernel
theorem d_M_list_17 : decode b_M_list 17 = .ok (.iconst 1, 1) := by decide +kernel
theorem d_M_list_18 : decode b_M_list 18 = .ok (.isub, 1) := by decide +kernel
theorem d_M_list_19 : decode b_M_list 19 = .ok (.istore_n 2, 1) := by decide +kernel
theorem d_M_list_20 : decode b_M_list 20 = .ok (.aload_n 0, 1) := by decide +kernel
theorem d_M_list_21 : decode b_M_list 21 = .ok (.getfield 64, 3) := by decide +kernel
theorem d_M_list_24 : decode b_M_list 24 = .ok (.iconst 1, 1) := by decide +kernel
theorem d_M_list_25 : decode b_M_list 25 = .ok (.if_icmp .le 12, 3) := by decide +kernel
theorem d_M_list_28 : decode b_M_list 28 = .ok (.aload_n 0, 1) := by decide +kernel
theorem d_M_list_29 : decode b_M_list 29 = .ok (.getfield 31, 3) := by decide +kernel
theorem d_M_list_32 : decode b_M_list 32 = .ok (.iconst 0, 1) := by decide +kernel
theorem d_M_list_33 : decode b_M_list 33 = .ok (.iload_n 2, 1) := by decide +kernel
theorem d_M_list_34 : decode b_M_list 34 = .ok (.iastore, 1) := by decide +kernel
theorem d_M_list_35 : decode b_M_list 35 = .ok (.iconst 1, 1) := by decide +kernel
theorem d_M_list_36 : decode b_M_list 36 = .ok (.istore_n 1, 1) := by decide +kernel
theorem d_M_list_37 : decode b_M_list 37 = .ok (.iload_n 1, 1) := by decide +kernel
theorem d_M_list_38 : decode b_M_list 38 = .ok (.ifCond .le 98, 3) := by decide +kernel
theorem d_M_list_41 : decode b_M_list 41 = .ok (.iinc 1 (-1), 3) := by decide +kernel
theorem d_M_list_44 : decode b_M_list 44 = .ok (.aload_n 0, 1) := by decide +kernel
theorem d_M_list_45 : decode b_M_list 45 = .ok (.getfield 31, 3) := by decide +kernel
theorem d_M_list_48 : decode b_M_list 48 = .ok (.iload_n 1, 1) := by decide +kernel
theorem d_M_list_49 : decode b_M_list 49 = .ok (.iaload, 1) := by decide +kernel
theorem d_M_list_50 : decode b_M_list 50 = .ok (.istore_n 3, 1) := by decide +kernel
theorem d_M_list_51 : decode b_M_list 51 = .ok (.iload_n 3, 1) := by decide +kernel
theorem d_M_list_52 : decode b_M_list 52 = .ok (.ifCond .ge 27, 3) := by decide +kernel
theorem d_M_list_55 : decode b_M_list 55 = .ok (.aload_n 0, 1) := by decide +kernel
theorem d_M_list_56 : decode b_M_list 56 = .ok (.getfield 28, 3) := by decide +kernel
theorem d_M_list_59 : decode b_M_list 59 = .ok (.aload_n 0, 1) := by decide +kernel
theorem d_M_list_60 : decode b_M_list 60 = .ok (.getfield 83, 3) := by decide +kernel
theorem d_M_list_63 : decode b_M_list 63 = .ok (.iload_n 3, 1) := by decide +kernel
theorem d_M_list_64 : decode b_M_list 64 = .ok (.ineg, 1) := by decide +kernel
theorem d_M_list_65 : decode b_M_list 65 = .ok (.iastore, 1) := by decide +kernel
theorem d_M_list_66 : decode b_M_list 66 = .ok (.aload_n 0, 1) := by decide +kernel
theorem d_M_list_67 : decode b_M_list 67 = .ok (.dup, 1) := by decide +kernel
theorem d_M_list_68 : decode b_M_list 68 = .ok (.getfield 83, 3) := by decide +kernel
theorem d_M_list_71 : decode b_M_list 71 = .ok (.iconst 1, 1) := by decide +kernel
theorem d_M_list_72 : decode b_M_list 72 = .ok (.iadd, 1) := by decide +kernel
theorem d_M_list_73 : decode b_M_list 73 = .ok (.putfield 83, 3) := by decide +kernel
theorem d_M_list_76 : decode b_M_list 76 = .ok (.goto (-39), 3) := by decide +kernel
theorem d_M_list_79 : decode b_M_list 79 = .ok (.iload_n 3, 1) := by decide +kernel
theorem d_M_list_80 : decode b_M_list 80 = .ok (.iload_n 3, 1) := by decide +kernel
theorem d_M_list_81 : decode b_M_list 81 = .ok (.iconst 1, 1) := by decide +kernel
theorem d_M_list_82 : decode b_M_list 82 = .ok (.isub, 1) := by decide +kernel
theorem d_M_list_83 : decode b_M_list 83 = .ok (.iand, 1) := by decide +kernel
theorem d_M_list_84 : decode b_M_list 84 = .ok (.ifCond .ne 6, 3) := by decide +kernel
theorem d_M_list_87 : decode b_M_list 87 = .ok (.goto (-50), 3) := by decide +kernel
theorem d_M_list_90 : decode b_M_list 90 = .ok (.aload_n 0, 1) := by decide +kernel
theorem d_M_list_91 : decode b_M_list 91 = .ok (.getfield 31, 3) := by decide +kernel
theorem d_M_list_94 : decode b_M_list 94 = .ok (.iload_n 1, 1) := by decide +kernel
theorem d_M_list_95 : decode b_M_list 95 = .ok (.iload_n 3, 1) := by decide +kernel
theorem d_M_list_96 : decode b_M_list 96 = .ok (.ineg, 1) := by decide +kernel
theorem d_M_list_97 : decode b_M_list 97 = .ok (.iastore, 1) := by decide +kernel
theorem d_M_list_98 : decode b_M_list 98 = .ok (.aload_n 0, 1) := by decide +kernel
theorem d_M_list_99 : decode b_M_list 99 = .ok (.getfield 31, 3) := by decide +kernel
theorem d_M_list_102 : decode b_M_list 102 = .ok (.iload_n 1, 1) := by decide +kernel
theorem d_M_list_103 : decode b_M_list 103 = .ok (.iconst 1, 1) := by decide +kernel
theorem d_M_list_104 : decode b_M_list 104 = .ok (.iadd, 1) := by decide +kernel
theorem d_M_list_105 : decode b_M_list 105 = .ok (.iload_n 3, 1) := by decide +kernel
theorem d_M_list_106 : decode b_M_list 106 = .ok (.aload_n 0, 1) := by decide +kernel
theorem d_M_list_107 : decode b_M_list 107 = .ok (.getfield 25, 3) := by decide +kernel
theorem d_M_list_110 : decode b_M_list 110 = .ok (.iload_n 3, 1) := by decide +kernel
theorem d_M_list_111 : decode b_M_list 111 = .ok (.iaload, 1) := by decide +kernel
theorem d_M_list_112 : decode b_M_list 112 = .ok (.iconst (-1), 1) := by decide +kernel
theorem d_M_list_113 : decode b_M_list 113 = .ok (.ixor, 1) := by decide +kernel
theorem d_M_list_114 : decode b_M_list 114 = .ok (.iand, 1) := by decide +kernel
theorem d_M_list_115 : decode b_M_list 115 = .ok (.iastore, 1) := by decide +kernel
theorem d_M_list_116 : decode b_M_list 116 = .ok (.aload_n 0, 1) := by decide +kernel
theorem d_M_list_117 : decode b_M_list 117 = .ok (.getfield 31, 3) := by decide +kernel
theorem d_M_list_120 : decode b_M_list 120 = .ok (.iload_n 1, 1) := by decide +kernel
theorem d_M_list_121 : decode b_M_list 121 = .ok (.iconst 2, 1) := by decide +kernel
theorem d_M_list_122 : decode b_M_list 122 = .ok (.iadd, 1) := by decide +kernel
theorem d_M_list_123 : decode b_M_list 123 = .ok (.aload_n 0, 1) := by decide +kernel
theorem d_M_list_124 : decode b_M_list 124 = .ok (.getfield 25, 3) := by decide +kernel
theorem d_M_list_127 : decode b_M_list 127 = .ok (.iload_n 3, 1) := by decide +kernel
theorem d_M_list_128 : decode b_M_list 128 = .ok (.iaload, 1) := by decide +kernel
theorem d_M_list_129 : decode b_M_list 129 = .ok (.iastore, 1) := by decide +kernel
theorem d_M_list_130 : decode b_M_list 130 = .ok (.iinc 1 3, 3) := by decide +kernel
theorem d_M_list_133 : decode b_M_list 133 = .ok (.goto (-96), 3) := by decide +kernel
theorem d_M_list_136 : decode b_M_list 136 = .ok (.return_, 1) := by decide +kernel
theorem d_M_cost_0 : decode b_M_cost 0 = .ok (.aload_n 0, 1) := by decide +kernel
theorem d_M_cost_1 : decode b_M_cost 1 = .ok (.iconst 0, 1) := by decide +kernel
theorem d_M_cost_2 : decode b_M_cost 2 = .ok (.putfield 37, 3) := by decide +kernel
theorem d_M_cost_5 : decode b_M_cost 5 = .ok (.aload_n 0, 1) := by decide +kernel
theorem d_M_cost_6 : decode b_M_cost 6 = .ok (.invokevirtual 80, 3) := by decide +kernel
theorem d_M_cost_9 : decode b_M_cost 9 = .ok (.aload_n 0, 1) := by decide +kernel
theorem d_M_cost_10 : decode b_M_cost 10 = .ok (.getfield 64, 3) := by decide +kernel
theorem d_M_cost_13 : decode b_M_cost 13 = .ok (.iconst 2, 1) := by decide +kernel
theorem d_M_cost_14 : decode b_M_cost 14 = .ok (.if_icmp .ge 7, 3) := by decide +kernel
theorem d_M_cost_17 : decode b_M_cost 17 = .ok (.iconst 0, 1) := by decide +kernel
theorem d_M_cost_18 : decode b_M_cost 18 = .ok (.goto 16, 3) := by decide +kernel
theorem d_M_cost_21 : decode b_M_cost 21 = .ok (.aload_n 0, 1) := by decide +kernel
theorem d_M_cost_22 : decode b_M_cost 22 = .ok (.getfield 22, 3) := by decide +kernel
theorem d_M_cost_25 : decode b_M_cost 25 = .ok (.iconst 1, 1) := by decide +kernel
theorem d_M_cost_26 : decode b_M_cost 26 = .ok (.aload_n 0, 1) := by decide +kernel
theorem d_M_cost_27 : decode b_M_cost 27 = .ok (.getfield 64, 3) := by decide +kernel
theorem d_M_cost_30 : decode b_M_cost 30 = .ok (.ishl, 1) := by decide +kernel
theorem d_M_cost_31 : decode b_M_cost 31 = .ok (.iconst 1, 1) := by decide +kernel
theorem d_M_cost_32 : decode b_M_cost 32 = .ok (.isub, 1) := by decide +kernel
theorem d_M_cost_33 : decode b_M_cost 33 = .ok (.iaload, 1) := by decide +kernel
theorem d_M_cost_34 : decode b_M_cost 34 = .ok (.ireturn, 1) := by decide +kernel
theorem d_M_step_0 : decode b_M_step 0 = .ok (.aload_n 0, 1) := by decide +kernel
theorem d_M_step_1 : decode b_M_step 1 = .ok (.invokevirtual 86, 3) := by decide +kernel
theorem d_M_step_4 : decode b_M_step 4 = .ok (.iload_n 1, 1) := by decide +kernel
theorem d_M_step_5 : decode b_M_step 5 = .ok (.iconst 0, 1) := by decide +kernel
theorem d_M_step_6 : decode b_M_step 6 = .ok (.aload_n 0, 1) := by decide +kernel
theorem d_M_step_7 : decode b_M_step 7 = .ok (.getfield 83, 3) := by decide +kernel
theorem d_M_step_10 : decode b_M_step 10 = .ok (.iconst 1, 1) := by decide +kernel
theorem d_M_step_11 : decode b_M_step 11 = .ok (.isub, 1) := by decide +kernel
theorem d_M_step_12 : decode b_M_step 12 = .ok (.invokestatic 41, 3) := by decide +kernel
theorem d_M_step_15 : decode b_M_step 15 = .ok (.istore_n 3, 1) := by decide +kernel
theorem d_M_step_16 : decode b_M_step 16 = .ok (.aload_n 0, 1) := by decide +kernel
theorem d_M_step_17 : decode b_M_step 17 = .ok (.iload_n 3, 1) := by decide +kernel
theorem d_M_step_18 : decode b_M_step 18 = .ok (.ifCond .ne 7, 3) := by decide +kernel
theorem d_M_step_21 : decode b_M_step 21 = .ok (.iconst 1, 1) := by decide +kernel
theorem d_M_step_22 : decode b_M_step 22 = .ok (.goto 4, 3) := by decide +kernel
theorem d_M_step_25 : decode b_M_step 25 = .ok (.iconst 0, 1) := by decide +kernel
theorem d_M_step_26 : decode b_M_step 26 = .ok (.iload_n 3, 1) := by decide +kernel
theorem d_M_step_27 : decode b_M_step 27 = .ok (.ifCond .eq 16, 3) := by decide +kernel
theorem d_M_step_30 : decode b_M_step 30 = .ok (.iload_n 2, 1) := by decide +kernel
theorem d_M_step_31 : decode b_M_step 31 = .ok (.iconst 0, 1) := by decide +kernel
theorem d_M_step_32 : decode b_M_step 32 = .ok (.iconst 3, 1) := by decide +kernel
theorem d_M_step_33 : decode b_M_step 33 = .ok (.invokestatic 41, 3) := by decide +kernel
theorem d_M_step_36 : decode b_M_step 36 = .ok (.ifCond .ne 7, 3) := by decide +kernel
theorem d_M_step_39 : decode b_M_step 39 = .ok (.iconst 1, 1) := by decide +kernel
theorem d_M_step_40 : decode b_M_step 40 = .ok (.goto 4, 3) := by decide +kernel
theorem d_M_step_43 : decode b_M_step 43 = .ok (.iconst 0, 1) := by decide +kernel
theorem d_M_step_44 : decode b_M_step 44 = .ok (.invokevirtual 48, 3) := by decide +kernel
theorem d_M_step_47 : decode b_M_step 47 = .ok (.ifCond .eq 5, 3) := by decide +kernel
theorem d_M_step_50 : decode b_M_step 50 = .ok (.iconst 0, 1) := by decide +kernel
theorem d_M_step_51 : decode b_M_step 51 = .ok (.ireturn, 1) := by decide +kernel
theorem d_M_step_52 : decode b_M_step 52 = .ok (.aload_n 0, 1) := by decide +kernel
theorem d_M_step_53 : decode b_M_step 53 = .ok (.getfield 25, 3) := by decide +kernel
theorem d_M_step_56 : decode b_M_step 56 = .ok (.aload_n 0, 1) := by decide +kernel
theorem d_M_step_57 : decode b_M_step 57 = .ok (.getfield 28, 3) := by decide +kernel
theorem d_M_step_60 : decode b_M_step 60 = .ok (.iload_n 1, 1) := by decide +kernel
theorem d_M_step_61 : decode b_M_step 61 = .ok (.iaload, 1) := by decide +kernel
theorem d_M_step_62 : decode b_M_step 62 = .ok (.iaload, 1) := by decide +kernel
theorem d_M_step_63 : decode b_M_step 63 = .ok (.istore 4, 2) := by decide +kernel
theorem d_M_step_65 : decode b_M_step 65 = .ok (.aload_n 0, 1) := by decide +kernel
theorem d_M_step_66 : decode b_M_step 66 = .ok (.getfield 28, 3) := by decide +kernel
theorem d_M_step_69 : decode b_M_step 69 = .ok (.iload_n 1, 1) := by decide +kernel
theorem d_M_step_70 : decode b_M_step 70 = .ok (.iaload, 1) := by decide +kernel
theorem d_M_step_71 : decode b_M_step 71 = .ok (.iload 4, 2) := by decide +kernel
theorem d_M_step_73 : decode b_M_step 73 = .ok (.iconst (-1), 1) := by decide +kernel
theorem d_M_step_74 : decode b_M_step 74 = .ok (.ixor, 1) := by decide +kernel
theorem d_M_step_75 : decode b_M_step 75 = .ok (.iand, 1) := by decide +kernel
theorem d_M_step_76 : decode b_M_step 76 = .ok (.istore 5, 2) := by decide +kernel
theorem d_M_step_78 : decode b_M_step 78 = .ok (.iload_n 2, 1) := by decide +kernel
theorem d_M_step_79 : decode b_M_step 79 = .ok (.tableswitch 40 0 2 #[25, 28, 31], 25) := by decide +kernel
theorem d_M_step_104 : decode b_M_step 104 = .ok (.iload 4, 2) := by decide +kernel
theorem d_M_step_106 : decode b_M_step 106 = .ok (.ireturn, 1) := by decide +kernel
theorem d_M_step_107 : decode b_M_step 107 = .ok (.iload 5, 2) := by decide +kernel
theorem d_M_step_109 : decode b_M_step 109 = .ok (.ireturn, 1) := by decide +kernel
theorem d_M_step_110 : decode b_M_step 110 = .ok (.aload_n 0, 1) := by decide +kernel
theorem d_M_step_111 : decode b_M_step 111 = .ok (.iload 4, 2) := by decide +kernel
theorem d_M_step_113 : decode b_M_step 113 = .ok (.iload 5, 2) := by decide +kernel
theorem d_M_step_115 : decode b_M_step 115 = .ok (.invokevirtual 76, 3) := by decide +kernel
theorem d_M_step_118 : decode b_M_step 118 = .ok (.ireturn, 1) := by decide +kernel
theorem d_M_step_119 : decode b_M_step 119 = .ok (.aload_n 0, 1) := by decide +kernel
theorem d_M_step_120 : decode b_M_step 120 = .ok (.iload 4, 2) := by decide +kernel
theorem d_M_step_122 : decode b_M_step 122 = .ok (.invokevirtual 73, 3) := by decide +kernel
theorem d_M_step_125 : decode b_M_step 125 = .ok (.aload_n 0, 1) := by decide +kernel
theorem d_M_step_126 : decode b_M_step 126 = .ok (.iload 5, 2) := by decide +kernel
theorem d_M_step_128 : decode b_M_step 128 = .ok (.invokevirtual 73, 3) := by decide +kernel
theorem d_M_step_131 : decode b_M_step 131 = .ok (.ior, 1) := by decide +kernel
theorem d_M_step_132 : decode b_M_step 132 = .ok (.ireturn, 1) := by decide +kernel
set_option maxHeartbeats 4000000 in
set_option maxRecDepth 100000 in
theorem c_M_list (l : Launch) (dC : Nat → ClassId) (dI : Nat → Nat → Nat) (cI : ClassId) (o0 o1 o2 o3 o4 o5 o6 o7 o8 o9 : Nat) (thr tab : Int32) (K : Nat) (R : Nat) (stp : Int32) (fl fo : Nat → Int32) (la ot : Nat → Nat) (hK6 : K ≤ 6) (hfo : ∀ o, o < K → fo o = nI (ot o) ∧ ot o < 8) (hfl : ∀ o, o < K → fl (ot o) = nI (la o)) (sz : Nat → Nat) (hla : ∀ k, k < K → la k < 256) (hsz : ∀ k, k < 8 → sz k ≤ 3) (fb fp fs fd : Nat → Int32) (sz0 : Nat) : Met l y_M_list w_M_list ({ frames := 4, cells := 0, slots := 0, locals := 96 }) (va_Pc [.ref o0] (ct_rw (dC, dI) ct_cl [(o0, .inr (4, [.int thr, .ref o1, .int tab, .ref o2, .ref o3, .int (nI K), .ref o4, .int (nI R), .ref o5, .ref o6, .int stp, .ref o7, .ref o8, .ref o9])), (o2, .inl (cI, 8, .inl fl)), (o4, .inl (cI, 6, .inl fo)), (o1, .inl (cI, 8, .inl (fun j => nI (sz j)))), (o5, .inl (cI, 64, .inl fb)), (o6, .inl (cI, 64, .inl fp)), (o7, .inl (cI, 8, .inl fs)), (o8, .inl (cI, 64, .inl fd))] [(cI, .int)] sz0)) (va_Qv (fun (u : (Nat → Int32) × (Nat → Int32) × (Nat → Int32) × (Nat → Int32)) => ct_mpl (ct_B (ct_jc sz la K R)) (2 ^ K) u.1 u.2.1 ∧ ∀ k, k < K - 1 → u.2.2.1 k = nI ((ct_ls (ct_B (ct_jc sz la K R)) 64 (2 ^ K - 1)).getD k 0)) (fun (u : (Nat → Int32) × (Nat → Int32) × (Nat → Int32) × (Nat → Int32)) t => ct_at (dC, dI) ct_cl [(cI, .int)] (va_A [(o0, .inr (4, [.int thr, .ref o1, .int tab, .ref o2, .ref o3, .int (nI K), .ref o4, .int (nI R), .ref o5, .ref o6, .int stp, .ref o7, .ref o8, .ref o9])), (o2, .inl (cI, 8, .inl fl)), (o4, .inl (cI, 6, .inl fo)), (o1, .inl (cI, 8, .inl (fun j => nI (sz j)))), (o5, .inl (cI, 64, .inl fb)), (o6, .inl (cI, 64, .inl fp)), (o7, .inl (cI, 8, .inl fs)), (o8, .inl (cI, 64, .inl fd))] sz0) [(o0, .inr (4, [.int thr, .ref o1, .int tab, .ref o2, .ref o3, .int (nI K), .ref o4, .int (nI R), .ref o5, .ref o6, .int (nI (K - 1)), .ref o7, .ref o8, .ref o9])), (o2, .inl (cI, 8, .inl fl)), (o4, .inl (cI, 6, .inl fo)), (o1, .inl (cI, 8, .inl (fun j => nI (sz j)))), (o5, .inl (cI, 64, .inl (u.1))), (o6, .inl (cI, 64, .inl (u.2.1))), (o7, .inl (cI, 8, .inl (u.2.2.1))), (o8, .inl (cI, 64, .inl (u.2.2.2)))] t) (va_A [(o0, .inr (4, [.int thr, .ref o1, .int tab, .ref o2, .ref o3, .int (nI K), .ref o4, .int (nI R), .ref o5, .ref o6, .int stp, .ref o7, .ref o8, .ref o9])), (o2, .inl (cI, 8, .inl fl)), (o4, .inl (cI, 6, .inl fo)), (o1, .inl (cI, 8, .inl (fun j => nI (sz j)))), (o5, .inl (cI, 64, .inl fb)), (o6, .inl (cI, 64, .inl fp)), (o7, .inl (cI, 8, .inl fs)), (o8, .inl (cI, 64, .inl fd))] sz0)) 0 0 (va_A [(o0, .inr (4, [.int thr, .ref o1, .int tab, .ref o2, .ref o3, .int (nI K), .ref o4, .int (nI R), .ref o5, .ref o6, .int stp, .ref o7, .ref o8, .ref o9])), (o2, .inl (cI, 8, .inl fl)), (o4, .inl (cI, 6, .inl fo)), (o1, .inl (cI, 8, .inl (fun j => nI (sz j)))), (o5, .inl (cI, 64, .inl fb)), (o6, .inl (cI, 64, .inl fp)), (o7, .inl (cI, 8, .inl fs)), (o8, .inl (cI, 64, .inl fd))] sz0) := by
  refine Met.ofW (cc := b_M_list) (maxL := 4) (ret := none) (by decide) rfl ?_
  intro p e s m args below meth c s₁ Bd hml hv
  obtain ⟨hargs, hsz, hP, hK, hD0⟩ := hv
  have hx := Bd.exec
  have hb := Bd.bytes
  have hr := Bd.returns
  have hts : ∀ w ∈ k_M_list :: ct_tb, w.before args s = true := atoms_spec (ws := w_M_list) Bd.pre
  have hown : s.vm.findClass R_M = some m.cls := findClass_of_methodNamed Bd.named
  have hlocks := Bd.notSynchronized
  subst hsz
  have hD := hD0.self (sz := s.heap.size)
  generalize hAe : va_A [(o0, .inr (4, [.int thr, .ref o1, .int tab, .ref o2, .ref o3, .int (nI K), .ref o4, .int (nI R), .ref o5, .ref o6, .int stp, .ref o7, .ref o8, .ref o9])), (o2, .inl (cI, 8, .inl fl)), (o4, .inl (cI, 6, .inl fo)), (o1, .inl (cI, 8, .inl (fun j => nI (sz j)))), (o5, .inl (cI, 64, .inl fb)), (o6, .inl (cI, 64, .inl fp)), (o7, .inl (cI, 8, .inl fs)), (o8, .inl (cI, 64, .inl fd))] s.heap.size = A at hD ⊢
  have hA : ∀ q : Nat, s.heap.size ≤ q → A q := fun q h => by rw [← hAe]; exact Or.inr h
  have hS : va_S A s.heap s.heap [] := va_S.rf
  have hl := lv_entry ([.ref o0]) (n := 4) (Nat.le_of_ble_eq_true rfl)
  rw [show entryFrame m args 4 = entryFrame m (([.ref o0] : List Value)).toArray 4 by rw [hargs], lg_entry_eq]
  generalize (lg_sl ([.ref o0]) ++ List.replicate (4 - (lg_sl ([.ref o0])).length) Slot.unset).toArray = ls at hl ⊢
  have hl : lv_has ls 4 [(0, .ref o0)] := hl
  have h2K := ct_2K K (by omega)
  have hokB := ct_okB_B (ct_jc sz la K R)
  refine lv_aload_n hx hb d_M_list_0 rfl (lv_at hl 0 rfl) ?_
  have hPc := hP.sub (ws' := [(o0, .inr (4, [.int thr, .ref o1, .int tab, .ref o2, .ref o3, .int (nI K), .ref o4, .int (nI R), .ref o5, .ref o6, .int stp, .ref o7, .ref o8, .ref o9])), (o2, .inl (cI, 8, .inl fl)), (o4, .inl (cI, 6, .inl fo)), (o1, .inl (cI, 8, .inl (fun j => nI (sz j)))), (o5, .inl (cI, 64, .inl fb)), (o6, .inl (cI, 64, .inl fp))]) [0, 1, 2, 3, 4, 5] rfl
  have hDc := hD.sub (ws' := [(o0, .inr (4, [.int thr, .ref o1, .int tab, .ref o2, .ref o3, .int (nI K), .ref o4, .int (nI R), .ref o5, .ref o6, .int stp, .ref o7, .ref o8, .ref o9])), (o2, .inl (cI, 8, .inl fl)), (o4, .inl (cI, 6, .inl fo)), (o1, .inl (cI, 8, .inl (fun j => nI (sz j)))), (o5, .inl (cI, 64, .inl fb)), (o6, .inl (cI, 64, .inl fp))]) [0, 1, 2, 3, 4, 5] (by decide) rfl
  have hFc := va_free (wc := [(o0, .inr (4, [.int thr, .ref o1, .int tab, .ref o2, .ref o3, .int (nI K), .ref o4, .int (nI R), .ref o5, .ref o6, .int stp, .ref o7, .ref o8, .ref o9])), (o2, .inl (cI, 8, .inl fl)), (o4, .inl (cI, 6, .inl fo)), (o1, .inl (cI, 8, .inl (fun j => nI (sz j)))), (o5, .inl (cI, 64, .inl fb)), (o6, .inl (cI, 64, .inl fp))]) hD hS hA [0, 1, 2, 3, 4, 5] rfl
  refine va_callv (va_runV (As := []) (rest := []) ⟨hx, hb, hml, hown, hts⟩ (c_M_plan l dC dI cI o0 o1 o2 o3 o4 o5 o6 o7 o8 o9 thr tab K R stp fl fo la ot hK6 hfo hfl sz hla hsz fb fp s.heap.size) (cwV 0 hts (ct_giV (fun w h9 => ct_tl h9) kw_616 kw_618 kw_18 kw_30 kw_619) rfl rfl rfl (by decide +kernel) ⟨Nat.le_of_ble_eq_true rfl, Nat.le_of_ble_eq_true rfl⟩) ⟨ct_rw_blind, va_recv hK hP (ci := 4) (q0 := 0) rfl rfl, ct_rw_pre hPc hK hDc⟩ rfl rfl hl.1 rfl (lv_room (Nat.le_of_ble_eq_true rfl)) d_M_list_1 ⟨Nat.le_of_ble_eq_true rfl, Nat.le_of_ble_eq_true rfl⟩) hS (fun q _ h9 => hFc q h9) hFc (fun ⟨gb, gp⟩ tS H1 locs ht hvm hmp hB hz1 hk1 hS => ?_)
  obtain ⟨hP1, -, hD1⟩ := hB
  rw [ht] at hP1
  obtain ⟨hP, hD⟩ := va_join (wr := [(o7, .inl (cI, 8, .inl fs)), (o8, .inl (cI, 64, .inl fd))]) (w1 := [(o0, .inr (4, [.int thr, .ref o1, .int tab, .ref o2, .ref o3, .int (nI K), .ref o4, .int (nI R), .ref o5, .ref o6, .int stp, .ref o7, .ref o8, .ref o9])), (o2, .inl (cI, 8, .inl fl)), (o4, .inl (cI, 6, .inl fo)), (o1, .inl (cI, 8, .inl (fun j => nI (sz j)))), (o5, .inl (cI, 64, .inl gb)), (o6, .inl (cI, 64, .inl gp))]) hP hD [0, 1, 2, 3, 4, 5] [6, 7] rfl rfl (by decide) (by decide) hk1 hFc hP1 hD1
  generalize H1 = H at hP hS ⊢
  have hP : va_P (dC, dI) ct_cl [(o7, .inl (cI, 8, .inl fs)), (o8, .inl (cI, 64, .inl fd)), (o0, .inr (4, [.int thr, .ref o1, .int tab, .ref o2, .ref o3, .int (nI K), .ref o4, .int (nI R), .ref o5, .ref o6, .int stp, .ref o7, .ref o8, .ref o9])), (o2, .inl (cI, 8, .inl fl)), (o4, .inl (cI, 6, .inl fo)), (o1, .inl (cI, 8, .inl (fun j => nI (sz j)))), (o5, .inl (cI, 64, .inl gb)), (o6, .inl (cI, 64, .inl gp))] H := hP
  have hD : va_D A [(o7, .inl (cI, 8, .inl fs)), (o8, .inl (cI, 64, .inl fd)), (o0, .inr (4, [.int thr, .ref o1, .int tab, .ref o2, .ref o3, .int (nI K), .ref o4, .int (nI R), .ref o5, .ref o6, .int stp, .ref o7, .ref o8, .ref o9])), (o2, .inl (cI, 8, .inl fl)), (o4, .inl (cI, 6, .inl fo)), (o1, .inl (cI, 8, .inl (fun j => nI (sz j)))), (o5, .inl (cI, 64, .inl gb)), (o6, .inl (cI, 64, .inl gp))] := hD
  dsimp only at hmp
  refine lv_aload_n hx hb d_M_list_4 rfl (lv_at hl 0 rfl) ?_
  refine lv_iconst (v := (nI 0)) hx hb d_M_list_5 (by decide) ?_
  refine va_put (D := (dC, dI)) (ci := 4) (v := .int (nI 0)) (ty := .int) (C := R_M) (T := T_M) (N := 14) hx hb hts (fun w h9 => ct_tl (ki_M w h9)) ty_M ok_M nm_M hown hK hP hD hS 2 rfl rfl 10 (by decide) (hts _ (ct_tl kw_529)) (fun _ h9 => h9) rfl (by decide +kernel) rfl rfl (Nat.le_of_ble_eq_true rfl) d_M_list_6 (fun H locs hP hD hS => ?_)
  have hP : va_P (dC, dI) ct_cl [(o7, .inl (cI, 8, .inl fs)), (o8, .inl (cI, 64, .inl fd)), (o0, .inr (4, [.int thr, .ref o1, .int tab, .ref o2, .ref o3, .int (nI K), .ref o4, .int (nI R), .ref o5, .ref o6, .int (nI 0), .ref o7, .ref o8, .ref o9])), (o2, .inl (cI, 8, .inl fl)), (o4, .inl (cI, 6, .inl fo)), (o1, .inl (cI, 8, .inl (fun j => nI (sz j)))), (o5, .inl (cI, 64, .inl gb)), (o6, .inl (cI, 64, .inl gp))] H := hP
  have hD : va_D A [(o7, .inl (cI, 8, .inl fs)), (o8, .inl (cI, 64, .inl fd)), (o0, .inr (4, [.int thr, .ref o1, .int tab, .ref o2, .ref o3, .int (nI K), .ref o4, .int (nI R), .ref o5, .ref o6, .int (nI 0), .ref o7, .ref o8, .ref o9])), (o2, .inl (cI, 8, .inl fl)), (o4, .inl (cI, 6, .inl fo)), (o1, .inl (cI, 8, .inl (fun j => nI (sz j)))), (o5, .inl (cI, 64, .inl gb)), (o6, .inl (cI, 64, .inl gp))] := hD
  refine lv_iconst (v := (nI 0)) hx hb d_M_list_9 (by decide) ?_
  refine lv_istore_n (lv' := [(1, .int (nI 0)), (0, .ref o0)]) hx hb d_M_list_10 rfl hl (by decide) rfl (fun ls hl => ?_)
  refine lv_iconst (v := (nI 1)) hx hb d_M_list_11 (by decide) ?_
  refine lv_aload_n hx hb d_M_list_12 rfl (lv_at hl 1 rfl) ?_
  refine va_get (D := (dC, dI)) (ci := 4) (v := .int (nI K)) (C := R_M) (T := T_M) (N := 14) hx hb hts (fun w h9 => ct_tl (ki_M w h9)) hown hK hP 2 rfl rfl 5 (by decide) (hts _ (ct_tl kw_524)) (fun _ h9 => h9) rfl d_M_list_13 ?_
  refine lv_ishl hx hb d_M_list_16 ?_
  refine ct_val (y := nI (2 ^ K)) ((ct_shl 1 (by omega) (by omega)).trans (by rw [Nat.one_mul])) ?_
  refine lv_iconst (v := (nI 1)) hx hb d_M_list_17 (by decide) ?_
  refine lv_isub hx hb d_M_list_18 ?_
  refine ct_val (y := nI (2 ^ K - 1)) (pk_sub (by omega)) ?_
  refine lv_istore_n (lv' := [(2, .int (nI (2 ^ K - 1))), (1, .int (nI 0)), (0, .ref o0)]) hx hb d_M_list_19 rfl hl (by decide) rfl (fun ls hl => ?_)
  refine lv_aload_n hx hb d_M_list_20 rfl (lv_at hl 2 rfl) ?_
  refine va_get (D := (dC, dI)) (ci := 4) (v := .int (nI K)) (C := R_M) (T := T_M) (N := 14) hx hb hts (fun w h9 => ct_tl (ki_M w h9)) hown hK hP 2 rfl rfl 5 (by decide) (hts _ (ct_tl kw_524)) (fun _ h9 => h9) rfl d_M_list_21 ?_
  refine lv_iconst (v := (nI 1)) hx hb d_M_list_24 (by decide) ?_
  have loop : ∀ (T : List Nat), T.length = K - 1 → (∀ k, k < K - 1 → T.getD k 0 = (ct_ls (ct_B (ct_jc sz la K R)) 64 (2 ^ K - 1)).getD k 0) → ∀ (n : Nat) (g h : Nat → Int32) (E : List Nat) (L : List (Bool × Nat)), ct_wt L = n → n ≤ 16 → ct_sti (ct_B (ct_jc sz la K R)) T K g h E L → ∀ (H : Heap) (locs : List Loc), va_P (dC, dI) ct_cl [(o0, .inr (4, [.int thr, .ref o1, .int tab, .ref o2, .ref o3, .int (nI K), .ref o4, .int (nI R), .ref o5, .ref o6, .int (nI E.length), .ref o7, .ref o8, .ref o9])), (o2, .inl (cI, 8, .inl fl)), (o4, .inl (cI, 6, .inl fo)), (o1, .inl (cI, 8, .inl (fun j => nI (sz j)))), (o5, .inl (cI, 64, .inl gb)), (o6, .inl (cI, 64, .inl gp)), (o7, .inl (cI, 8, .inl g)), (o8, .inl (cI, 64, .inl h))] H → va_D A [(o0, .inr (4, [.int thr, .ref o1, .int tab, .ref o2, .ref o3, .int (nI K), .ref o4, .int (nI R), .ref o5, .ref o6, .int (nI E.length), .ref o7, .ref o8, .ref o9])), (o2, .inl (cI, 8, .inl fl)), (o4, .inl (cI, 6, .inl fo)), (o1, .inl (cI, 8, .inl (fun j => nI (sz j)))), (o5, .inl (cI, 64, .inl gb)), (o6, .inl (cI, 64, .inl gp)), (o7, .inl (cI, 8, .inl g)), (o8, .inl (cI, 64, .inl h))] → va_S A s.heap H locs → ∀ (ls : Array Slot), lv_has ls 4 [(0, .ref o0), (1, .int (nI L.length))] → W p l e (headSpec w_M_list ({ frames := 4, cells := 0, slots := 0, locals := 96 } : Room)).room s m args below meth c H locs 0 0 (MQ below (va_Qv (fun (u : (Nat → Int32) × (Nat → Int32) × (Nat → Int32) × (Nat → Int32)) => ct_mpl (ct_B (ct_jc sz la K R)) (2 ^ K) u.1 u.2.1 ∧ ∀ k, k < K - 1 → u.2.2.1 k = nI ((ct_ls (ct_B (ct_jc sz la K R)) 64 (2 ^ K - 1)).getD k 0)) (fun (u : (Nat → Int32) × (Nat → Int32) × (Nat → Int32) × (Nat → Int32)) t => ct_at (dC, dI) ct_cl [(cI, .int)] (A) [(o0, .inr (4, [.int thr, .ref o1, .int tab, .ref o2, .ref o3, .int (nI K), .ref o4, .int (nI R), .ref o5, .ref o6, .int (nI (K - 1)), .ref o7, .ref o8, .ref o9])), (o2, .inl (cI, 8, .inl fl)), (o4, .inl (cI, 6, .inl fo)), (o1, .inl (cI, 8, .inl (fun j => nI (sz j)))), (o5, .inl (cI, 64, .inl (u.1))), (o6, .inl (cI, 64, .inl (u.2.1))), (o7, .inl (cI, 8, .inl (u.2.2.1))), (o8, .inl (cI, 64, .inl (u.2.2.2)))] t) (A)) args s 0 0 A) (F0 m 37 ls []) := by
    intro T hTl hTe
    intro n
    induction n with
    | zero =>
      intro g h E L hw9 hn16 hi H locs hP hD hS ls hl
      obtain rfl := ct_wt_nil hK6 hi.2.2 hw9
      have hl : lv_has ls 4 [(0, .ref o0), (1, .int (nI 0))] := hl
      refine lv_iload_n hx hb d_M_list_37 rfl (lv_at hl 1 rfl) ?_
      refine lv_if_le (tgt := 136) hx hb d_M_list_38 (by decide) (fun _ => ?_) (fun hc9 => absurd (Int32.le_refl _) hc9)
      have hE : E = T := by have e := hi.1; rw [show ct_fl2 (ct_B (ct_jc sz la K R)) [] = [] from rfl, List.append_nil] at e; exact e
      rw [hE, hTl] at hP hD
      have hP9 := hP.sub [0, 1, 2, 3, 4, 5, 6, 7] rfl
      exact W.vret hx hb hr (fun tS ht hW => ⟨⟨(gb, gp, g, h), rfl, ⟨hmp, fun k h9 => by rw [← hTe k h9, ← hE]; exact hi.2.1 k (by rw [hE, hTl]; exact h9)⟩, by rw [ht]; exact hP9, va_K.moved hW.alike hK, hD.sub [0, 1, 2, 3, 4, 5, 6, 7] (by decide) rfl⟩, hS.F ht⟩) hS.2.2 d_M_list_136
    | succ n ih =>
      intro g h E L hw9 hn16 hi H locs hP hD hS ls hl
      obtain ⟨b, S, L, rfl⟩ := ct_wt_cons hw9
      have hln := ct_stk_wt hK6 _ hi.2.2
      have hln : L.length + 1 ≤ n + 1 := by rw [hw9] at hln; exact hln
      have hsk := hi.2.2
      obtain ⟨hk1, hk2, hk3, -⟩ := hsk
      have hl : lv_has ls 4 [(0, .ref o0), (1, .int (nI (L.length + 1)))] := hl
      refine lv_iload_n hx hb d_M_list_37 rfl (lv_at hl 1 rfl) ?_
      refine lv_if_le (tgt := 136) hx hb d_M_list_38 (by decide) (fun hc9 => absurd hc9 (nI_nle (by omega) (by omega))) (fun _ => ?_)
      refine lv_iinc (v := (nI L.length)) (lv' := [(1, .int (nI L.length)), (0, .ref o0)]) hx hb d_M_list_41 hl (k := 1) rfl ((show nI (L.length + 1) + _ = nI (L.length + 1) - 1 by rw [Int32.sub_eq_add_neg]; rfl).trans (nI_pred L.length)) (by decide) rfl (fun ls hl => ?_)
      refine lv_aload_n hx hb d_M_list_44 rfl (lv_at hl 1 rfl) ?_
      refine va_get (D := (dC, dI)) (ci := 4) (v := .ref o8) (C := R_M) (T := T_M) (N := 14) hx hb hts (fun w h9 => ct_tl (ki_M w h9)) hown hK hP 0 rfl rfl 12 (by decide) (hts _ (ct_tl kw_531)) (fun _ h9 => h9) rfl d_M_list_45 ?_
      refine lv_iload_n hx hb d_M_list_48 rfl (lv_at hl 0 rfl) ?_
      by_cases hbt : b = true
      · rw [hbt] at hi hw9 hk1
        have hn9 := ct_neg_I S (by omega) hk2
        have hng := ct_sti_neg hi
        refine ct_iald hx hb hK hP 7 0 rfl rfl (j := L.length) (by omega) (by omega) d_M_list_49 ?_
        refine ct_val (y := -(nI S)) (hk1.trans (if_pos rfl)) ?_
        refine lv_istore_n (lv' := [(3, .int (-(nI S))), (1, .int (nI L.length)), (0, .ref o0)]) hx hb d_M_list_50 rfl hl (by decide) rfl (fun ls hl => ?_)
        refine lv_iload_n hx hb d_M_list_51 rfl (lv_at hl 0 rfl) ?_
        refine lv_if_ge (tgt := 79) hx hb d_M_list_52 (by decide) (fun hc9 => absurd hc9 (hn9.1)) (fun _ => ?_)
        refine lv_aload_n hx hb d_M_list_55 rfl (lv_at hl 2 rfl) ?_
        refine va_get (D := (dC, dI)) (ci := 4) (v := .ref o7) (C := R_M) (T := T_M) (N := 14) hx hb hts (fun w h9 => ct_tl (ki_M w h9)) hown hK hP 0 rfl rfl 11 (by decide) (hts _ (ct_tl kw_530)) (fun _ h9 => h9) rfl d_M_list_56 ?_
        refine lv_aload_n hx hb d_M_list_59 rfl (lv_at hl 2 rfl) ?_
        refine va_get (D := (dC, dI)) (ci := 4) (v := .int (nI E.length)) (C := R_M) (T := T_M) (N := 14) hx hb hts (fun w h9 => ct_tl (ki_M w h9)) hown hK hP 0 rfl rfl 10 (by decide) (hts _ (ct_tl kw_529)) (fun _ h9 => h9) rfl d_M_list_60 ?_
        refine lv_iload_n hx hb d_M_list_63 rfl (lv_at hl 0 rfl) ?_
        refine lv_ineg hx hb d_M_list_64 ?_
        refine ct_val (y := nI S) (hn9.2) ?_
        refine ct_iast hx hb hK hP hD hS 6 0 rfl rfl (j := E.length) (by omega) (by omega) d_M_list_65 (fun H locs hP hD hS => ?_)
        have hP : va_P (dC, dI) ct_cl [(o0, .inr (4, [.int thr, .ref o1, .int tab, .ref o2, .ref o3, .int (nI K), .ref o4, .int (nI R), .ref o5, .ref o6, .int (nI E.length), .ref o7, .ref o8, .ref o9])), (o2, .inl (cI, 8, .inl fl)), (o4, .inl (cI, 6, .inl fo)), (o1, .inl (cI, 8, .inl (fun j => nI (sz j)))), (o5, .inl (cI, 64, .inl gb)), (o6, .inl (cI, 64, .inl gp)), (o7, .inl (cI, 8, .inl (upd g E.length (nI S)))), (o8, .inl (cI, 64, .inl h))] H := hP
        have hD : va_D A [(o0, .inr (4, [.int thr, .ref o1, .int tab, .ref o2, .ref o3, .int (nI K), .ref o4, .int (nI R), .ref o5, .ref o6, .int (nI E.length), .ref o7, .ref o8, .ref o9])), (o2, .inl (cI, 8, .inl fl)), (o4, .inl (cI, 6, .inl fo)), (o1, .inl (cI, 8, .inl (fun j => nI (sz j)))), (o5, .inl (cI, 64, .inl gb)), (o6, .inl (cI, 64, .inl gp)), (o7, .inl (cI, 8, .inl (upd g E.length (nI S)))), (o8, .inl (cI, 64, .inl h))] := hD
        refine lv_aload_n hx hb d_M_list_66 rfl (lv_at hl 2 rfl) ?_
        refine lv_dup hx hb d_M_list_67 rfl ?_
        refine va_get (D := (dC, dI)) (ci := 4) (v := .int (nI E.length)) (C := R_M) (T := T_M) (N := 14) hx hb hts (fun w h9 => ct_tl (ki_M w h9)) hown hK hP 0 rfl rfl 10 (by decide) (hts _ (ct_tl kw_529)) (fun _ h9 => h9) rfl d_M_list_68 ?_
        refine lv_iconst (v := (nI 1)) hx hb d_M_list_71 (by decide) ?_
        refine lv_iadd hx hb d_M_list_72 ?_
        refine ct_val (y := nI (E.length + 1)) (nI_1 _) ?_
        refine va_put (D := (dC, dI)) (ci := 4) (v := .int (nI (E.length + 1))) (ty := .int) (C := R_M) (T := T_M) (N := 14) hx hb hts (fun w h9 => ct_tl (ki_M w h9)) ty_M ok_M nm_M hown hK hP hD hS 0 rfl rfl 10 (by decide) (hts _ (ct_tl kw_529)) (fun _ h9 => h9) rfl (by decide +kernel) rfl rfl (Nat.le_of_ble_eq_true rfl) d_M_list_73 (fun H locs hP hD hS => ?_)
        have hP : va_P (dC, dI) ct_cl [(o0, .inr (4, [.int thr, .ref o1, .int tab, .ref o2, .ref o3, .int (nI K), .ref o4, .int (nI R), .ref o5, .ref o6, .int (nI (E.length + 1)), .ref o7, .ref o8, .ref o9])), (o2, .inl (cI, 8, .inl fl)), (o4, .inl (cI, 6, .inl fo)), (o1, .inl (cI, 8, .inl (fun j => nI (sz j)))), (o5, .inl (cI, 64, .inl gb)), (o6, .inl (cI, 64, .inl gp)), (o7, .inl (cI, 8, .inl (upd g E.length (nI S)))), (o8, .inl (cI, 64, .inl h))] H := hP
        have hD : va_D A [(o0, .inr (4, [.int thr, .ref o1, .int tab, .ref o2, .ref o3, .int (nI K), .ref o4, .int (nI R), .ref o5, .ref o6, .int (nI (E.length + 1)), .ref o7, .ref o8, .ref o9])), (o2, .inl (cI, 8, .inl fl)), (o4, .inl (cI, 6, .inl fo)), (o1, .inl (cI, 8, .inl (fun j => nI (sz j)))), (o5, .inl (cI, 64, .inl gb)), (o6, .inl (cI, 64, .inl gp)), (o7, .inl (cI, 8, .inl (upd g E.length (nI S)))), (o8, .inl (cI, 64, .inl h))] := hD
        refine lv_goto (tgt := 37) hx hb d_M_list_76 (by decide) ?_
        refine ih _ h (E ++ [S]) L (ct_wt_neg hw9) (by omega) hng.2 H locs ?_ ?_ hS ls (lv_sub hl [2, 1] rfl)
        · rw [List.length_append, List.length_singleton]; exact hP
        · rw [List.length_append, List.length_singleton]; exact hD
      · rw [show b = false by simpa using hbt] at hi hw9 hk1
        refine ct_iald hx hb hK hP 7 0 rfl rfl (j := L.length) (by omega) (by omega) d_M_list_49 ?_
        refine ct_val (y := nI S) (hk1.trans (if_neg Bool.false_ne_true)) ?_
        refine lv_istore_n (lv' := [(3, .int (nI S)), (1, .int (nI L.length)), (0, .ref o0)]) hx hb d_M_list_50 rfl hl (by decide) rfl (fun ls hl => ?_)
        refine lv_iload_n hx hb d_M_list_51 rfl (lv_at hl 0 rfl) ?_
        refine lv_if_ge (tgt := 79) hx hb d_M_list_52 (by decide) (fun _ => ?_) (fun hc9 => absurd (nI_pos' (by omega)) hc9)
        refine lv_iload_n hx hb d_M_list_79 rfl (lv_at hl 0 rfl) ?_
        refine lv_iload_n hx hb d_M_list_80 rfl (lv_at hl 0 rfl) ?_
        refine lv_iconst (v := (nI 1)) hx hb d_M_list_81 (by decide) ?_
        refine lv_isub hx hb d_M_list_82 ?_
        refine lv_iand hx hb d_M_list_83 ?_
        refine lv_topi (fun v0 ev0 => ?_)
        rcases Bool.eq_false_or_eq_true (ct_sev S) with hs | hs
        · have hp := hokB S (by omega) hs
          have hp2 := ct_pt_1 hp.2
          refine lv_if_ne (tgt := 90) hx hb d_M_list_84 (by decide) (fun _ => ?_) (fun hc9 => absurd hc9 (fun z => Bool.false_ne_true (((ct_sev_I S (by omega) hk2).mp (ev0 ▸ z)).symm.trans hs)))
          refine lv_aload_n hx hb d_M_list_90 rfl (lv_at hl 2 rfl) ?_
          refine va_get (D := (dC, dI)) (ci := 4) (v := .ref o8) (C := R_M) (T := T_M) (N := 14) hx hb hts (fun w h9 => ct_tl (ki_M w h9)) hown hK hP 0 rfl rfl 12 (by decide) (hts _ (ct_tl kw_531)) (fun _ h9 => h9) rfl d_M_list_91 ?_
          refine lv_iload_n hx hb d_M_list_94 rfl (lv_at hl 1 rfl) ?_
          refine lv_iload_n hx hb d_M_list_95 rfl (lv_at hl 0 rfl) ?_
          refine lv_ineg hx hb d_M_list_96 ?_
          refine ct_iast hx hb hK hP hD hS 7 0 rfl rfl (j := L.length) (by omega) (by omega) d_M_list_97 (fun H locs hP hD hS => ?_)
          have hP : va_P (dC, dI) ct_cl [(o0, .inr (4, [.int thr, .ref o1, .int tab, .ref o2, .ref o3, .int (nI K), .ref o4, .int (nI R), .ref o5, .ref o6, .int (nI E.length), .ref o7, .ref o8, .ref o9])), (o2, .inl (cI, 8, .inl fl)), (o4, .inl (cI, 6, .inl fo)), (o1, .inl (cI, 8, .inl (fun j => nI (sz j)))), (o5, .inl (cI, 64, .inl gb)), (o6, .inl (cI, 64, .inl gp)), (o7, .inl (cI, 8, .inl g)), (o8, .inl (cI, 64, .inl (upd h L.length (-(nI S)))))] H := hP
          have hD : va_D A [(o0, .inr (4, [.int thr, .ref o1, .int tab, .ref o2, .ref o3, .int (nI K), .ref o4, .int (nI R), .ref o5, .ref o6, .int (nI E.length), .ref o7, .ref o8, .ref o9])), (o2, .inl (cI, 8, .inl fl)), (o4, .inl (cI, 6, .inl fo)), (o1, .inl (cI, 8, .inl (fun j => nI (sz j)))), (o5, .inl (cI, 64, .inl gb)), (o6, .inl (cI, 64, .inl gp)), (o7, .inl (cI, 8, .inl g)), (o8, .inl (cI, 64, .inl (upd h L.length (-(nI S)))))] := hD
          refine lv_aload_n hx hb d_M_list_98 rfl (lv_at hl 2 rfl) ?_
          refine va_get (D := (dC, dI)) (ci := 4) (v := .ref o8) (C := R_M) (T := T_M) (N := 14) hx hb hts (fun w h9 => ct_tl (ki_M w h9)) hown hK hP 0 rfl rfl 12 (by decide) (hts _ (ct_tl kw_531)) (fun _ h9 => h9) rfl d_M_list_99 ?_
          refine lv_iload_n hx hb d_M_list_102 rfl (lv_at hl 1 rfl) ?_
          refine lv_iconst (v := (nI 1)) hx hb d_M_list_103 (by decide) ?_
          refine lv_iadd hx hb d_M_list_104 ?_
          refine ct_val (y := nI (L.length + 1)) (nI_1 _) ?_
          refine lv_iload_n hx hb d_M_list_105 rfl (lv_at hl 0 rfl) ?_
          refine lv_aload_n hx hb d_M_list_106 rfl (lv_at hl 2 rfl) ?_
          refine va_get (D := (dC, dI)) (ci := 4) (v := .ref o6) (C := R_M) (T := T_M) (N := 14) hx hb hts (fun w h9 => ct_tl (ki_M w h9)) hown hK hP 0 rfl rfl 9 (by decide) (hts _ (ct_tl kw_528)) (fun _ h9 => h9) rfl d_M_list_107 ?_
          refine lv_iload_n hx hb d_M_list_110 rfl (lv_at hl 0 rfl) ?_
          refine ct_iald hx hb hK hP 5 0 rfl rfl (j := S) (by omega) (by omega) d_M_list_111 ?_
          refine ct_val (y := nI (ct_B (ct_jc sz la K R) S).2) ((hmp S hk2 hk3).2) ?_
          refine lv_iconst (v := (-1)) hx hb d_M_list_112 (by decide) ?_
          refine lv_ixor hx hb d_M_list_113 ?_
          refine lv_iand hx hb d_M_list_114 ?_
          refine ct_val (y := nI (S ^^^ (ct_B (ct_jc sz la K R) S).2)) (ct_nand_I S (by omega) _ (by omega) hp2.1) ?_
          refine ct_iast hx hb hK hP hD hS 7 0 rfl rfl (j := L.length + 1) (by omega) (by omega) d_M_list_115 (fun H locs hP hD hS => ?_)
          have hP : va_P (dC, dI) ct_cl [(o0, .inr (4, [.int thr, .ref o1, .int tab, .ref o2, .ref o3, .int (nI K), .ref o4, .int (nI R), .ref o5, .ref o6, .int (nI E.length), .ref o7, .ref o8, .ref o9])), (o2, .inl (cI, 8, .inl fl)), (o4, .inl (cI, 6, .inl fo)), (o1, .inl (cI, 8, .inl (fun j => nI (sz j)))), (o5, .inl (cI, 64, .inl gb)), (o6, .inl (cI, 64, .inl gp)), (o7, .inl (cI, 8, .inl g)), (o8, .inl (cI, 64, .inl (upd (upd h L.length (-(nI S))) (L.length + 1) (nI (S ^^^ (ct_B (ct_jc sz la K R) S).2)))))] H := hP
          have hD : va_D A [(o0, .inr (4, [.int thr, .ref o1, .int tab, .ref o2, .ref o3, .int (nI K), .ref o4, .int (nI R), .ref o5, .ref o6, .int (nI E.length), .ref o7, .ref o8, .ref o9])), (o2, .inl (cI, 8, .inl fl)), (o4, .inl (cI, 6, .inl fo)), (o1, .inl (cI, 8, .inl (fun j => nI (sz j)))), (o5, .inl (cI, 64, .inl gb)), (o6, .inl (cI, 64, .inl gp)), (o7, .inl (cI, 8, .inl g)), (o8, .inl (cI, 64, .inl (upd (upd h L.length (-(nI S))) (L.length + 1) (nI (S ^^^ (ct_B (ct_jc sz la K R) S).2)))))] := hD
          refine lv_aload_n hx hb d_M_list_116 rfl (lv_at hl 2 rfl) ?_
          refine va_get (D := (dC, dI)) (ci := 4) (v := .ref o8) (C := R_M) (T := T_M) (N := 14) hx hb hts (fun w h9 => ct_tl (ki_M w h9)) hown hK hP 0 rfl rfl 12 (by decide) (hts _ (ct_tl kw_531)) (fun _ h9 => h9) rfl d_M_list_117 ?_
          refine lv_iload_n hx hb d_M_list_120 rfl (lv_at hl 1 rfl) ?_
          refine lv_iconst (v := (nI 2)) hx hb d_M_list_121 (by decide) ?_
          refine lv_iadd hx hb d_M_list_122 ?_
          refine ct_val (y := nI (L.length + 2)) (nI_add _ 2) ?_
          refine lv_aload_n hx hb d_M_list_123 rfl (lv_at hl 2 rfl) ?_
          refine va_get (D := (dC, dI)) (ci := 4) (v := .ref o6) (C := R_M) (T := T_M) (N := 14) hx hb hts (fun w h9 => ct_tl (ki_M w h9)) hown hK hP 0 rfl rfl 9 (by decide) (hts _ (ct_tl kw_528)) (fun _ h9 => h9) rfl d_M_list_124 ?_
          refine lv_iload_n hx hb d_M_list_127 rfl (lv_at hl 0 rfl) ?_
          refine ct_iald hx hb hK hP 5 0 rfl rfl (j := S) (by omega) (by omega) d_M_list_128 ?_
          refine ct_val (y := nI (ct_B (ct_jc sz la K R) S).2) ((hmp S hk2 hk3).2) ?_
          refine ct_iast hx hb hK hP hD hS 7 0 rfl rfl (j := L.length + 2) (by omega) (by omega) d_M_list_129 (fun H locs hP hD hS => ?_)
          have hP : va_P (dC, dI) ct_cl [(o0, .inr (4, [.int thr, .ref o1, .int tab, .ref o2, .ref o3, .int (nI K), .ref o4, .int (nI R), .ref o5, .ref o6, .int (nI E.length), .ref o7, .ref o8, .ref o9])), (o2, .inl (cI, 8, .inl fl)), (o4, .inl (cI, 6, .inl fo)), (o1, .inl (cI, 8, .inl (fun j => nI (sz j)))), (o5, .inl (cI, 64, .inl gb)), (o6, .inl (cI, 64, .inl gp)), (o7, .inl (cI, 8, .inl g)), (o8, .inl (cI, 64, .inl (upd (upd (upd h L.length (-(nI S))) (L.length + 1) (nI (S ^^^ (ct_B (ct_jc sz la K R) S).2))) (L.length + 2) (nI (ct_B (ct_jc sz la K R) S).2))))] H := hP
          have hD : va_D A [(o0, .inr (4, [.int thr, .ref o1, .int tab, .ref o2, .ref o3, .int (nI K), .ref o4, .int (nI R), .ref o5, .ref o6, .int (nI E.length), .ref o7, .ref o8, .ref o9])), (o2, .inl (cI, 8, .inl fl)), (o4, .inl (cI, 6, .inl fo)), (o1, .inl (cI, 8, .inl (fun j => nI (sz j)))), (o5, .inl (cI, 64, .inl gb)), (o6, .inl (cI, 64, .inl gp)), (o7, .inl (cI, 8, .inl g)), (o8, .inl (cI, 64, .inl (upd (upd (upd h L.length (-(nI S))) (L.length + 1) (nI (S ^^^ (ct_B (ct_jc sz la K R) S).2))) (L.length + 2) (nI (ct_B (ct_jc sz la K R) S).2))))] := hD
          refine lv_iinc (v := (nI (L.length + 3))) (lv' := [(1, .int (nI (L.length + 3))), (3, .int (nI S)), (0, .ref o0)]) hx hb d_M_list_130 hl (k := 1) rfl (nI_add _ 3) (by decide) rfl (fun ls hl => ?_)
          refine lv_goto (tgt := 37) hx hb d_M_list_133 (by decide) ?_
          exact ih g _ E _ (ct_wt_sev hokB (by omega) hs hw9) (by omega) (ct_sti_sev hokB hK6 hs hi) H locs hP hD hS ls (lv_sub hl [2, 0] rfl)
        · refine lv_if_ne (tgt := 90) hx hb d_M_list_84 (by decide) (fun hc9 => absurd (by rw [ev0]; exact (ct_sev_I S (by omega) hk2).mpr hs) hc9) (fun _ => ?_)
          refine lv_goto (tgt := 37) hx hb d_M_list_87 (by decide) ?_
          exact ih g h E L (ct_wt_one (by omega) hk2 hs hw9) (by omega) (ct_sti_one hs hi) H locs hP hD hS ls (lv_sub hl [2, 1] rfl)
  by_cases hK2 : 2 ≤ K
  · refine lv_icmp_le (tgt := 37) hx hb d_M_list_25 (by decide) (fun hc9 => absurd hc9 (nI_ge (by omega) (by omega))) (fun _ => ?_)
    refine lv_aload_n hx hb d_M_list_28 rfl (lv_at hl 2 rfl) ?_
    refine va_get (D := (dC, dI)) (ci := 4) (v := .ref o8) (C := R_M) (T := T_M) (N := 14) hx hb hts (fun w h9 => ct_tl (ki_M w h9)) hown hK hP 2 rfl rfl 12 (by decide) (hts _ (ct_tl kw_531)) (fun _ h9 => h9) rfl d_M_list_29 ?_
    refine lv_iconst (v := (nI 0)) hx hb d_M_list_32 (by decide) ?_
    refine lv_iload_n hx hb d_M_list_33 rfl (lv_at hl 0 rfl) ?_
    refine ct_iast hx hb hK hP hD hS 1 0 rfl rfl (j := 0) (by omega) (by omega) d_M_list_34 (fun H locs hP hD hS => ?_)
    have hP : va_P (dC, dI) ct_cl [(o7, .inl (cI, 8, .inl fs)), (o8, .inl (cI, 64, .inl (upd fd 0 (nI (2 ^ K - 1))))), (o0, .inr (4, [.int thr, .ref o1, .int tab, .ref o2, .ref o3, .int (nI K), .ref o4, .int (nI R), .ref o5, .ref o6, .int (nI 0), .ref o7, .ref o8, .ref o9])), (o2, .inl (cI, 8, .inl fl)), (o4, .inl (cI, 6, .inl fo)), (o1, .inl (cI, 8, .inl (fun j => nI (sz j)))), (o5, .inl (cI, 64, .inl gb)), (o6, .inl (cI, 64, .inl gp))] H := hP
    have hD : va_D A [(o7, .inl (cI, 8, .inl fs)), (o8, .inl (cI, 64, .inl (upd fd 0 (nI (2 ^ K - 1))))), (o0, .inr (4, [.int thr, .ref o1, .int tab, .ref o2, .ref o3, .int (nI K), .ref o4, .int (nI R), .ref o5, .ref o6, .int (nI 0), .ref o7, .ref o8, .ref o9])), (o2, .inl (cI, 8, .inl fl)), (o4, .inl (cI, 6, .inl fo)), (o1, .inl (cI, 8, .inl (fun j => nI (sz j)))), (o5, .inl (cI, 64, .inl gb)), (o6, .inl (cI, 64, .inl gp))] := hD
    refine lv_iconst (v := (nI 1)) hx hb d_M_list_35 (by decide) ?_
    refine lv_istore_n (lv' := [(1, .int (nI 1)), (2, .int (nI (2 ^ K - 1))), (0, .ref o0)]) hx hb d_M_list_36 rfl hl (by decide) rfl (fun ls hl => ?_)
    have hsall := ct_sev_all K (by omega) hK2
    have hpop := ct_pop_all K (by omega)
    have hlen : (ct_ls (ct_B (ct_jc sz la K R)) 64 (2 ^ K - 1)).length = K - 1 := by have h9 := ct_ls_len hokB 64 (2 ^ K - 1) (by omega) (by omega) (ct_sev0 hsall); rw [hpop] at h9; omega
    exact loop (ct_ls (ct_B (ct_jc sz la K R)) 64 (2 ^ K - 1)) hlen (fun _ _ => rfl) (3 * K - 2) fs _ [] [(false, 2 ^ K - 1)] (by show 3 * ct_pop (2 ^ K - 1) - 2 + 0 = _; rw [hpop]; rfl) (by omega) ⟨List.append_nil _, fun k h9 => absurd h9 (Nat.not_lt_zero k), pk_us, ct_sev0 hsall, by omega, trivial⟩ H locs (hP.sub [2, 3, 4, 5, 6, 7, 0, 1] rfl) (hD.sub [2, 3, 4, 5, 6, 7, 0, 1] (by decide) rfl) hS ls (lv_sub hl [2, 0] rfl)
  · refine lv_icmp_le (tgt := 37) hx hb d_M_list_25 (by decide) (fun _ => ?_) (fun hc9 => absurd (nI_le (by omega) (by omega)) hc9)
    exact loop [] (by show 0 = K - 1; omega) (fun k h9 => absurd h9 (by omega)) 0 fs fd [] [] rfl (by omega) ⟨rfl, fun k h9 => absurd h9 (Nat.not_lt_zero k), trivial⟩ H locs (hP.sub [2, 3, 4, 5, 6, 7, 0, 1] rfl) (hD.sub [2, 3, 4, 5, 6, 7, 0, 1] (by decide) rfl) hS ls (lv_sub hl [2, 1] rfl)
set_option maxHeartbeats 4000000 in
set_option maxRecDepth 100000 in
theorem c_M_cost (l : Launch) (dC : Nat → ClassId) (dI : Nat → Nat → Nat) (cI : ClassId) (o0 o1 o2 o3 o4 o5 o6 o7 o8 o9 : Nat) (thr tab : Int32) (K : Nat) (R : Nat) (stp : Int32) (fl fo : Nat → Int32) (la ot : Nat → Nat) (hK6 : K ≤ 6) (hfo : ∀ o, o < K → fo o = nI (ot o) ∧ ot o < 8) (hfl : ∀ o, o < K → fl (ot o) = nI (la o)) (sz : Nat → Nat) (hla : ∀ k, k < K → la k < 256) (hsz : ∀ k, k < 8 → sz k ≤ 3) (fb fp : Nat → Int32) (sz0 : Nat) : Met l y_M_cost w_M_cost ({ frames := 4, cells := 0, slots := 0, locals := 96 }) (va_Pc [.ref o0] (ct_rw (dC, dI) ct_cl [(o0, .inr (4, [.int thr, .ref o1, .int tab, .ref o2, .ref o3, .int (nI K), .ref o4, .int (nI R), .ref o5, .ref o6, .int stp, .ref o7, .ref o8, .ref o9])), (o2, .inl (cI, 8, .inl fl)), (o4, .inl (cI, 6, .inl fo)), (o1, .inl (cI, 8, .inl (fun j => nI (sz j)))), (o5, .inl (cI, 64, .inl fb)), (o6, .inl (cI, 64, .inl fp))] [(cI, .int)] sz0)) (va_Qi (fun (r : Int32) (u : (Nat → Int32) × (Nat → Int32)) => r = nI (if 2 ≤ K then (ct_B (ct_jc sz la K R) (2 ^ K - 1)).1 else 0)) (fun (u : (Nat → Int32) × (Nat → Int32)) t => ct_at (dC, dI) ct_cl [(cI, .int)] (va_A [(o0, .inr (4, [.int thr, .ref o1, .int tab, .ref o2, .ref o3, .int (nI K), .ref o4, .int (nI R), .ref o5, .ref o6, .int stp, .ref o7, .ref o8, .ref o9])), (o2, .inl (cI, 8, .inl fl)), (o4, .inl (cI, 6, .inl fo)), (o1, .inl (cI, 8, .inl (fun j => nI (sz j)))), (o5, .inl (cI, 64, .inl fb)), (o6, .inl (cI, 64, .inl fp))] sz0) [(o0, .inr (4, [.int (nI 0), .ref o1, .int tab, .ref o2, .ref o3, .int (nI K), .ref o4, .int (nI R), .ref o5, .ref o6, .int stp, .ref o7, .ref o8, .ref o9])), (o2, .inl (cI, 8, .inl fl)), (o4, .inl (cI, 6, .inl fo)), (o1, .inl (cI, 8, .inl (fun j => nI (sz j)))), (o5, .inl (cI, 64, .inl (u.1))), (o6, .inl (cI, 64, .inl (u.2)))] t) (va_A [(o0, .inr (4, [.int thr, .ref o1, .int tab, .ref o2, .ref o3, .int (nI K), .ref o4, .int (nI R), .ref o5, .ref o6, .int stp, .ref o7, .ref o8, .ref o9])), (o2, .inl (cI, 8, .inl fl)), (o4, .inl (cI, 6, .inl fo)), (o1, .inl (cI, 8, .inl (fun j => nI (sz j)))), (o5, .inl (cI, 64, .inl fb)), (o6, .inl (cI, 64, .inl fp))] sz0)) 0 0 (va_A [(o0, .inr (4, [.int thr, .ref o1, .int tab, .ref o2, .ref o3, .int (nI K), .ref o4, .int (nI R), .ref o5, .ref o6, .int stp, .ref o7, .ref o8, .ref o9])), (o2, .inl (cI, 8, .inl fl)), (o4, .inl (cI, 6, .inl fo)), (o1, .inl (cI, 8, .inl (fun j => nI (sz j)))), (o5, .inl (cI, 64, .inl fb)), (o6, .inl (cI, 64, .inl fp))] sz0) := by
  refine Met.ofW (cc := b_M_cost) (maxL := 1) (ret := (some .int)) (by decide) rfl ?_
  intro p e s m args below meth c s₁ Bd hml hv
  obtain ⟨hargs, hsz, hP, hK, hD0⟩ := hv
  have hx := Bd.exec
  have hb := Bd.bytes
  have hr := Bd.returns
  have hts : ∀ w ∈ k_M_cost :: ct_tb, w.before args s = true := atoms_spec (ws := w_M_cost) Bd.pre
  have hown : s.vm.findClass R_M = some m.cls := findClass_of_methodNamed Bd.named
  have hlocks := Bd.notSynchronized
  subst hsz
  have hD := hD0.self (sz := s.heap.size)
  generalize hAe : va_A [(o0, .inr (4, [.int thr, .ref o1, .int tab, .ref o2, .ref o3, .int (nI K), .ref o4, .int (nI R), .ref o5, .ref o6, .int stp, .ref o7, .ref o8, .ref o9])), (o2, .inl (cI, 8, .inl fl)), (o4, .inl (cI, 6, .inl fo)), (o1, .inl (cI, 8, .inl (fun j => nI (sz j)))), (o5, .inl (cI, 64, .inl fb)), (o6, .inl (cI, 64, .inl fp))] s.heap.size = A at hD ⊢
  have hA : ∀ q : Nat, s.heap.size ≤ q → A q := fun q h => by rw [← hAe]; exact Or.inr h
  have hS : va_S A s.heap s.heap [] := va_S.rf
  have hl := lv_entry ([.ref o0]) (n := 1) (Nat.le_of_ble_eq_true rfl)
  rw [show entryFrame m args 1 = entryFrame m (([.ref o0] : List Value)).toArray 1 by rw [hargs], lg_entry_eq]
  generalize (lg_sl ([.ref o0]) ++ List.replicate (1 - (lg_sl ([.ref o0])).length) Slot.unset).toArray = ls at hl ⊢
  have hl : lv_has ls 1 [(0, .ref o0)] := hl
  have h2K := ct_2K K (by omega)
  refine lv_aload_n hx hb d_M_cost_0 rfl (lv_at hl 0 rfl) ?_
  refine lv_iconst (v := (nI 0)) hx hb d_M_cost_1 (by decide) ?_
  refine va_put (D := (dC, dI)) (ci := 4) (v := .int (nI 0)) (ty := .int) (C := R_M) (T := T_M) (N := 14) hx hb hts (fun w h9 => ct_tl (ki_M w h9)) ty_M ok_M nm_M hown hK hP hD hS 0 rfl rfl 0 (by decide) (hts _ (ct_tl kw_519)) (fun _ h9 => h9) rfl (by decide +kernel) rfl rfl (Nat.le_of_ble_eq_true rfl) d_M_cost_2 (fun H locs hP hD hS => ?_)
  have hP : va_P (dC, dI) ct_cl [(o0, .inr (4, [.int (nI 0), .ref o1, .int tab, .ref o2, .ref o3, .int (nI K), .ref o4, .int (nI R), .ref o5, .ref o6, .int stp, .ref o7, .ref o8, .ref o9])), (o2, .inl (cI, 8, .inl fl)), (o4, .inl (cI, 6, .inl fo)), (o1, .inl (cI, 8, .inl (fun j => nI (sz j)))), (o5, .inl (cI, 64, .inl fb)), (o6, .inl (cI, 64, .inl fp))] H := hP
  have hD : va_D A [(o0, .inr (4, [.int (nI 0), .ref o1, .int tab, .ref o2, .ref o3, .int (nI K), .ref o4, .int (nI R), .ref o5, .ref o6, .int stp, .ref o7, .ref o8, .ref o9])), (o2, .inl (cI, 8, .inl fl)), (o4, .inl (cI, 6, .inl fo)), (o1, .inl (cI, 8, .inl (fun j => nI (sz j)))), (o5, .inl (cI, 64, .inl fb)), (o6, .inl (cI, 64, .inl fp))] := hD
  refine lv_aload_n hx hb d_M_cost_5 rfl (lv_at hl 0 rfl) ?_
  have hPc := hP.sub (ws' := [(o0, .inr (4, [.int (nI 0), .ref o1, .int tab, .ref o2, .ref o3, .int (nI K), .ref o4, .int (nI R), .ref o5, .ref o6, .int stp, .ref o7, .ref o8, .ref o9])), (o2, .inl (cI, 8, .inl fl)), (o4, .inl (cI, 6, .inl fo)), (o1, .inl (cI, 8, .inl (fun j => nI (sz j)))), (o5, .inl (cI, 64, .inl fb)), (o6, .inl (cI, 64, .inl fp))]) [0, 1, 2, 3, 4, 5] rfl
  have hDc := hD.sub (ws' := [(o0, .inr (4, [.int (nI 0), .ref o1, .int tab, .ref o2, .ref o3, .int (nI K), .ref o4, .int (nI R), .ref o5, .ref o6, .int stp, .ref o7, .ref o8, .ref o9])), (o2, .inl (cI, 8, .inl fl)), (o4, .inl (cI, 6, .inl fo)), (o1, .inl (cI, 8, .inl (fun j => nI (sz j)))), (o5, .inl (cI, 64, .inl fb)), (o6, .inl (cI, 64, .inl fp))]) [0, 1, 2, 3, 4, 5] (by decide) rfl
  have hFc := va_free (wc := [(o0, .inr (4, [.int (nI 0), .ref o1, .int tab, .ref o2, .ref o3, .int (nI K), .ref o4, .int (nI R), .ref o5, .ref o6, .int stp, .ref o7, .ref o8, .ref o9])), (o2, .inl (cI, 8, .inl fl)), (o4, .inl (cI, 6, .inl fo)), (o1, .inl (cI, 8, .inl (fun j => nI (sz j)))), (o5, .inl (cI, 64, .inl fb)), (o6, .inl (cI, 64, .inl fp))]) hD hS hA [0, 1, 2, 3, 4, 5] rfl
  refine va_callv (va_runV (As := []) (rest := []) ⟨hx, hb, hml, hown, hts⟩ (c_M_plan l dC dI cI o0 o1 o2 o3 o4 o5 o6 o7 o8 o9 (nI 0) tab K R stp fl fo la ot hK6 hfo hfl sz hla hsz fb fp H.size) (cwV 0 hts (ct_giV (fun w h9 => ct_tl h9) kw_616 kw_618 kw_18 kw_30 kw_619) rfl rfl rfl (by decide +kernel) ⟨Nat.le_of_ble_eq_true rfl, Nat.le_of_ble_eq_true rfl⟩) ⟨ct_rw_blind, va_recv hK hP (ci := 4) (q0 := 0) rfl rfl, ct_rw_pre hPc hK hDc⟩ rfl rfl hl.1 rfl (lv_room (Nat.le_of_ble_eq_true rfl)) d_M_cost_6 ⟨Nat.le_of_ble_eq_true rfl, Nat.le_of_ble_eq_true rfl⟩) hS (fun q _ h9 => hFc q h9) hFc (fun ⟨gb, gp⟩ tS H1 locs ht hvm hmp hB hz1 hk1 hS => ?_)
  obtain ⟨hP1, -, hD1⟩ := hB
  rw [ht] at hP1
  obtain ⟨hP, hD⟩ := va_join (wr := []) (w1 := [(o0, .inr (4, [.int (nI 0), .ref o1, .int tab, .ref o2, .ref o3, .int (nI K), .ref o4, .int (nI R), .ref o5, .ref o6, .int stp, .ref o7, .ref o8, .ref o9])), (o2, .inl (cI, 8, .inl fl)), (o4, .inl (cI, 6, .inl fo)), (o1, .inl (cI, 8, .inl (fun j => nI (sz j)))), (o5, .inl (cI, 64, .inl gb)), (o6, .inl (cI, 64, .inl gp))]) hP hD [0, 1, 2, 3, 4, 5] [] rfl rfl (by decide) (by decide) hk1 hFc hP1 hD1
  generalize H1 = H at hP hS ⊢
  have hP : va_P (dC, dI) ct_cl [(o0, .inr (4, [.int (nI 0), .ref o1, .int tab, .ref o2, .ref o3, .int (nI K), .ref o4, .int (nI R), .ref o5, .ref o6, .int stp, .ref o7, .ref o8, .ref o9])), (o2, .inl (cI, 8, .inl fl)), (o4, .inl (cI, 6, .inl fo)), (o1, .inl (cI, 8, .inl (fun j => nI (sz j)))), (o5, .inl (cI, 64, .inl gb)), (o6, .inl (cI, 64, .inl gp))] H := hP
  have hD : va_D A [(o0, .inr (4, [.int (nI 0), .ref o1, .int tab, .ref o2, .ref o3, .int (nI K), .ref o4, .int (nI R), .ref o5, .ref o6, .int stp, .ref o7, .ref o8, .ref o9])), (o2, .inl (cI, 8, .inl fl)), (o4, .inl (cI, 6, .inl fo)), (o1, .inl (cI, 8, .inl (fun j => nI (sz j)))), (o5, .inl (cI, 64, .inl gb)), (o6, .inl (cI, 64, .inl gp))] := hD
  dsimp only at hmp
  refine lv_aload_n hx hb d_M_cost_9 rfl (lv_at hl 0 rfl) ?_
  refine va_get (D := (dC, dI)) (ci := 4) (v := .int (nI K)) (C := R_M) (T := T_M) (N := 14) hx hb hts (fun w h9 => ct_tl (ki_M w h9)) hown hK hP 0 rfl rfl 5 (by decide) (hts _ (ct_tl kw_524)) (fun _ h9 => h9) rfl d_M_cost_10 ?_
  refine lv_iconst (v := (nI 2)) hx hb d_M_cost_13 (by decide) ?_
  by_cases hK2 : 2 ≤ K
  · refine lv_icmp_ge (tgt := 21) hx hb d_M_cost_14 (by decide) (fun _ => ?_) (fun hc9 => absurd (nI_le hK2 (by omega)) hc9)
    have hsall := ct_sev0 (ct_sev_all K (by omega) hK2)
    refine lv_aload_n hx hb d_M_cost_21 rfl (lv_at hl 0 rfl) ?_
    refine va_get (D := (dC, dI)) (ci := 4) (v := .ref o5) (C := R_M) (T := T_M) (N := 14) hx hb hts (fun w h9 => ct_tl (ki_M w h9)) hown hK hP 0 rfl rfl 8 (by decide) (hts _ (ct_tl kw_527)) (fun _ h9 => h9) rfl d_M_cost_22 ?_
    refine lv_iconst (v := (nI 1)) hx hb d_M_cost_25 (by decide) ?_
    refine lv_aload_n hx hb d_M_cost_26 rfl (lv_at hl 0 rfl) ?_
    refine va_get (D := (dC, dI)) (ci := 4) (v := .int (nI K)) (C := R_M) (T := T_M) (N := 14) hx hb hts (fun w h9 => ct_tl (ki_M w h9)) hown hK hP 0 rfl rfl 5 (by decide) (hts _ (ct_tl kw_524)) (fun _ h9 => h9) rfl d_M_cost_27 ?_
    refine lv_ishl hx hb d_M_cost_30 ?_
    refine ct_val (y := nI (2 ^ K)) ((ct_shl 1 (by omega) (by omega)).trans (by rw [Nat.one_mul])) ?_
    refine lv_iconst (v := (nI 1)) hx hb d_M_cost_31 (by decide) ?_
    refine lv_isub hx hb d_M_cost_32 ?_
    refine ct_val (y := nI (2 ^ K - 1)) (pk_sub (by omega)) ?_
    refine ct_iald hx hb hK hP 4 0 rfl rfl (j := 2 ^ K - 1) (by omega) (by omega) d_M_cost_33 ?_
    refine ct_val (y := nI (ct_B (ct_jc sz la K R) (2 ^ K - 1)).1) ((hmp _ hsall (by omega)).1) ?_
    have hP9 := hP.sub [0, 1, 2, 3, 4, 5] rfl
    exact W.iret (v := (nI (ct_B (ct_jc sz la K R) (2 ^ K - 1)).1)) hx hb hr (fun tS ht hW => ⟨⟨(nI (ct_B (ct_jc sz la K R) (2 ^ K - 1)).1), (gb, gp), rfl, by rw [if_pos hK2], by rw [ht]; exact hP9, va_K.moved hW.alike hK, hD.sub [0, 1, 2, 3, 4, 5] (by decide) rfl⟩, hS.F ht⟩) hS.2.2 d_M_cost_34
  · refine lv_icmp_ge (tgt := 21) hx hb d_M_cost_14 (by decide) (fun hc9 => absurd hc9 (nI_ge (by omega) (by omega))) (fun _ => ?_)
    refine lv_iconst (v := (nI 0)) hx hb d_M_cost_17 (by decide) ?_
    refine lv_goto (tgt := 34) hx hb d_M_cost_18 (by decide) ?_
    have hP9 := hP.sub [0, 1, 2, 3, 4, 5] rfl
    exact W.iret (v := (nI 0)) hx hb hr (fun tS ht hW => ⟨⟨(nI 0), (gb, gp), rfl, by rw [if_neg hK2], by rw [ht]; exact hP9, va_K.moved hW.alike hK, hD.sub [0, 1, 2, 3, 4, 5] (by decide) rfl⟩, hS.F ht⟩) hS.2.2 d_M_cost_34
set_option maxHeartbeats 4000000 in
set_option maxRecDepth 100000 in
theorem c_M_step (l : Launch) (dC : Nat → ClassId) (dI : Nat → Nat → Nat) (cI : ClassId) (o0 o1 o2 o3 o4 o5 o6 o7 o8 o9 : Nat) (thr tab : Int32) (K : Nat) (R : Nat) (stp : Int32) (fl fo : Nat → Int32) (la ot : Nat → Nat) (hK6 : K ≤ 6) (hfo : ∀ o, o < K → fo o = nI (ot o) ∧ ot o < 8) (hfl : ∀ o, o < K → fl (ot o) = nI (la o)) (sz : Nat → Nat) (hla : ∀ k, k < K → la k < 256) (hsz : ∀ k, k < 8 → sz k ≤ 3) (fb fp fs fd : Nat → Int32) (x y : Int32) (sz0 : Nat) : Met l y_M_step w_M_step ({ frames := 5, cells := 0, slots := 0, locals := 119 }) (va_Pc [.ref o0, .int x, .int y] (ct_rw (dC, dI) ct_cl [(o0, .inr (4, [.int thr, .ref o1, .int tab, .ref o2, .ref o3, .int (nI K), .ref o4, .int (nI R), .ref o5, .ref o6, .int stp, .ref o7, .ref o8, .ref o9])), (o2, .inl (cI, 8, .inl fl)), (o4, .inl (cI, 6, .inl fo)), (o1, .inl (cI, 8, .inl (fun j => nI (sz j)))), (o5, .inl (cI, 64, .inl fb)), (o6, .inl (cI, 64, .inl fp)), (o7, .inl (cI, 8, .inl fs)), (o8, .inl (cI, 64, .inl fd))] [(cI, .int)] sz0)) (va_Qi (fun (r : Int32) (u : Nat × (Nat → Int32) × (Nat → Int32) × (Nat → Int32) × (Nat → Int32)) => (ct_isn (K - 1) x = false ∧ u.1 = 1) ∨ (ct_isn (K - 1) x = true ∧ ct_isn 4 y = false ∧ u.1 = 2) ∨ (ct_isn (K - 1) x = true ∧ ct_isn 4 y = true ∧ u.1 = 0 ∧ ∃ k j : Nat, x = nI k ∧ k < K - 1 ∧ y = nI j ∧ j < 4 ∧ r = nI (ct_stv sz la K R k j))) (fun (u : Nat × (Nat → Int32) × (Nat → Int32) × (Nat → Int32) × (Nat → Int32)) t => ct_at (dC, dI) ct_cl [(cI, .int)] (va_A [(o0, .inr (4, [.int thr, .ref o1, .int tab, .ref o2, .ref o3, .int (nI K), .ref o4, .int (nI R), .ref o5, .ref o6, .int stp, .ref o7, .ref o8, .ref o9])), (o2, .inl (cI, 8, .inl fl)), (o4, .inl (cI, 6, .inl fo)), (o1, .inl (cI, 8, .inl (fun j => nI (sz j)))), (o5, .inl (cI, 64, .inl fb)), (o6, .inl (cI, 64, .inl fp)), (o7, .inl (cI, 8, .inl fs)), (o8, .inl (cI, 64, .inl fd))] sz0) [(o0, .inr (4, [.int (nI (u.1)), .ref o1, .int tab, .ref o2, .ref o3, .int (nI K), .ref o4, .int (nI R), .ref o5, .ref o6, .int (nI (K - 1)), .ref o7, .ref o8, .ref o9])), (o2, .inl (cI, 8, .inl fl)), (o4, .inl (cI, 6, .inl fo)), (o1, .inl (cI, 8, .inl (fun j => nI (sz j)))), (o5, .inl (cI, 64, .inl (u.2.1))), (o6, .inl (cI, 64, .inl (u.2.2.1))), (o7, .inl (cI, 8, .inl (u.2.2.2.1))), (o8, .inl (cI, 64, .inl (u.2.2.2.2)))] t) (va_A [(o0, .inr (4, [.int thr, .ref o1, .int tab, .ref o2, .ref o3, .int (nI K), .ref o4, .int (nI R), .ref o5, .ref o6, .int stp, .ref o7, .ref o8, .ref o9])), (o2, .inl (cI, 8, .inl fl)), (o4, .inl (cI, 6, .inl fo)), (o1, .inl (cI, 8, .inl (fun j => nI (sz j)))), (o5, .inl (cI, 64, .inl fb)), (o6, .inl (cI, 64, .inl fp)), (o7, .inl (cI, 8, .inl fs)), (o8, .inl (cI, 64, .inl fd))] sz0)) 0 0 (va_A [(o0, .inr (4, [.int thr, .ref o1, .int tab, .ref o2, .ref o3, .int (nI K), .ref o4, .int (nI R), .ref o5, .ref o6, .int stp, .ref o7, .ref o8, .ref o9])), (o2, .inl (cI, 8, .inl fl)), (o4, .inl (cI, 6, .inl fo)), (o1, .inl (cI, 8, .inl (fun j => nI (sz j)))), (o5, .inl (cI, 64, .inl fb)), (o6, .inl (cI, 64, .inl fp)), (o7, .inl (cI, 8, .inl fs)), (o8, .inl (cI, 64, .inl fd))] sz0) := by
  refine Met.ofW (cc := b_M_step) (maxL := 6) (ret := (some .int)) (by decide) rfl ?_
  intro p e s m args below meth c s₁ Bd hml hv
  obtain ⟨hargs, hsz, hP, hK, hD0⟩ := hv
  have hx := Bd.exec
  have hb := Bd.bytes
  have hr := Bd.returns
  have hts : ∀ w ∈ k_M_step :: ct_tb, w.before args s = true := atoms_spec (ws := w_M_step) Bd.pre
  have hown : s.vm.findClass R_M = some m.cls := findClass_of_methodNamed Bd.named
  have hlocks := Bd.notSynchronized
  subst hsz
  have hD := hD0.self (sz := s.heap.size)
  generalize hAe : va_A [(o0, .inr (4, [.int thr, .ref o1, .int tab, .ref o2, .ref o3, .int (nI K), .ref o4, .int (nI R), .ref o5, .ref o6, .int stp, .ref o7, .ref o8, .ref o9])), (o2, .inl (cI, 8, .inl fl)), (o4, .inl (cI, 6, .inl fo)), (o1, .inl (cI, 8, .inl (fun j => nI (sz j)))), (o5, .inl (cI, 64, .inl fb)), (o6, .inl (cI, 64, .inl fp)), (o7, .inl (cI, 8, .inl fs)), (o8, .inl (cI, 64, .inl fd))] s.heap.size = A at hD ⊢
  have hA : ∀ q : Nat, s.heap.size ≤ q → A q := fun q h => by rw [← hAe]; exact Or.inr h
  have hS : va_S A s.heap s.heap [] := va_S.rf
  have hl := lv_entry ([.ref o0, .int x, .int y]) (n := 6) (Nat.le_of_ble_eq_true rfl)
  rw [show entryFrame m args 6 = entryFrame m (([.ref o0, .int x, .int y] : List Value)).toArray 6 by rw [hargs], lg_entry_eq]
  generalize (lg_sl ([.ref o0, .int x, .int y]) ++ List.replicate (6 - (lg_sl ([.ref o0, .int x, .int y])).length) Slot.unset).toArray = ls at hl ⊢
  have hl : lv_has ls 6 [(0, .ref o0), (1, .int x), (2, .int y)] := hl
  have h2K := ct_2K K (by omega)
  have hokB := ct_okB_B (ct_jc sz la K R)
  refine lv_aload_n hx hb d_M_step_0 rfl (lv_at hl 0 rfl) ?_
  have hPc := hP.sub (ws' := [(o0, .inr (4, [.int thr, .ref o1, .int tab, .ref o2, .ref o3, .int (nI K), .ref o4, .int (nI R), .ref o5, .ref o6, .int stp, .ref o7, .ref o8, .ref o9])), (o2, .inl (cI, 8, .inl fl)), (o4, .inl (cI, 6, .inl fo)), (o1, .inl (cI, 8, .inl (fun j => nI (sz j)))), (o5, .inl (cI, 64, .inl fb)), (o6, .inl (cI, 64, .inl fp)), (o7, .inl (cI, 8, .inl fs)), (o8, .inl (cI, 64, .inl fd))]) [0, 1, 2, 3, 4, 5, 6, 7] rfl
  have hDc := hD.sub (ws' := [(o0, .inr (4, [.int thr, .ref o1, .int tab, .ref o2, .ref o3, .int (nI K), .ref o4, .int (nI R), .ref o5, .ref o6, .int stp, .ref o7, .ref o8, .ref o9])), (o2, .inl (cI, 8, .inl fl)), (o4, .inl (cI, 6, .inl fo)), (o1, .inl (cI, 8, .inl (fun j => nI (sz j)))), (o5, .inl (cI, 64, .inl fb)), (o6, .inl (cI, 64, .inl fp)), (o7, .inl (cI, 8, .inl fs)), (o8, .inl (cI, 64, .inl fd))]) [0, 1, 2, 3, 4, 5, 6, 7] (by decide) rfl
  have hFc := va_free (wc := [(o0, .inr (4, [.int thr, .ref o1, .int tab, .ref o2, .ref o3, .int (nI K), .ref o4, .int (nI R), .ref o5, .ref o6, .int stp, .ref o7, .ref o8, .ref o9])), (o2, .inl (cI, 8, .inl fl)), (o4, .inl (cI, 6, .inl fo)), (o1, .inl (cI, 8, .inl (fun j => nI (sz j)))), (o5, .inl (cI, 64, .inl fb)), (o6, .inl (cI, 64, .inl fp)), (o7, .inl (cI, 8, .inl fs)), (o8, .inl (cI, 64, .inl fd))]) hD hS hA [0, 1, 2, 3, 4, 5, 6, 7] rfl
  refine va_callv (va_runV (As := []) (rest := []) ⟨hx, hb, hml, hown, hts⟩ (c_M_list l dC dI cI o0 o1 o2 o3 o4 o5 o6 o7 o8 o9 thr tab K R stp fl fo la ot hK6 hfo hfl sz hla hsz fb fp fs fd s.heap.size) (cwV 0 hts (ct_giV (fun w h9 => ct_tl h9) kw_636 kw_638 kw_22 kw_30 kw_639) rfl rfl rfl (by decide +kernel) ⟨Nat.le_of_ble_eq_true rfl, Nat.le_of_ble_eq_true rfl⟩) ⟨ct_rw_blind, va_recv hK hP (ci := 4) (q0 := 0) rfl rfl, ct_rw_pre hPc hK hDc⟩ rfl rfl hl.1 rfl (lv_room (Nat.le_of_ble_eq_true rfl)) d_M_step_1 ⟨Nat.le_of_ble_eq_true rfl, Nat.le_of_ble_eq_true rfl⟩) hS (fun q _ h9 => hFc q h9) hFc (fun ⟨gb, gp, gs, gd⟩ tS H1 locs ht hvm hls hB hz1 hk1 hS => ?_)
  obtain ⟨hP1, -, hD1⟩ := hB
  rw [ht] at hP1
  obtain ⟨hP, hD⟩ := va_join (wr := []) (w1 := [(o0, .inr (4, [.int thr, .ref o1, .int tab, .ref o2, .ref o3, .int (nI K), .ref o4, .int (nI R), .ref o5, .ref o6, .int (nI (K - 1)), .ref o7, .ref o8, .ref o9])), (o2, .inl (cI, 8, .inl fl)), (o4, .inl (cI, 6, .inl fo)), (o1, .inl (cI, 8, .inl (fun j => nI (sz j)))), (o5, .inl (cI, 64, .inl gb)), (o6, .inl (cI, 64, .inl gp)), (o7, .inl (cI, 8, .inl gs)), (o8, .inl (cI, 64, .inl gd))]) hP hD [0, 1, 2, 3, 4, 5, 6, 7] [] rfl rfl (by decide) (by decide) hk1 hFc hP1 hD1
  generalize H1 = H at hP hS ⊢
  have hP : va_P (dC, dI) ct_cl [(o0, .inr (4, [.int thr, .ref o1, .int tab, .ref o2, .ref o3, .int (nI K), .ref o4, .int (nI R), .ref o5, .ref o6, .int (nI (K - 1)), .ref o7, .ref o8, .ref o9])), (o2, .inl (cI, 8, .inl fl)), (o4, .inl (cI, 6, .inl fo)), (o1, .inl (cI, 8, .inl (fun j => nI (sz j)))), (o5, .inl (cI, 64, .inl gb)), (o6, .inl (cI, 64, .inl gp)), (o7, .inl (cI, 8, .inl gs)), (o8, .inl (cI, 64, .inl gd))] H := hP
  have hD : va_D A [(o0, .inr (4, [.int thr, .ref o1, .int tab, .ref o2, .ref o3, .int (nI K), .ref o4, .int (nI R), .ref o5, .ref o6, .int (nI (K - 1)), .ref o7, .ref o8, .ref o9])), (o2, .inl (cI, 8, .inl fl)), (o4, .inl (cI, 6, .inl fo)), (o1, .inl (cI, 8, .inl (fun j => nI (sz j)))), (o5, .inl (cI, 64, .inl gb)), (o6, .inl (cI, 64, .inl gp)), (o7, .inl (cI, 8, .inl gs)), (o8, .inl (cI, 64, .inl gd))] := hD
  dsimp only at hls
  refine lv_iload_n hx hb d_M_step_4 rfl (lv_at hl 1 rfl) ?_
  refine lv_iconst (v := (nI 0)) hx hb d_M_step_5 (by decide) ?_
  refine lv_aload_n hx hb d_M_step_6 rfl (lv_at hl 0 rfl) ?_
  refine va_get (D := (dC, dI)) (ci := 4) (v := .int (nI (K - 1))) (C := R_M) (T := T_M) (N := 14) hx hb hts (fun w h9 => ct_tl (ki_M w h9)) hown hK hP 0 rfl rfl 10 (by decide) (hts _ (ct_tl kw_529)) (fun _ h9 => h9) rfl d_M_step_7 ?_
  refine lv_iconst (v := (nI 1)) hx hb d_M_step_10 (by decide) ?_
  refine lv_isub hx hb d_M_step_11 ?_
  refine va_calli (va_runS (As := [.int x, .int (nI 0), .int ((nI (K - 1)) - (nI 1))]) (rest := []) ⟨hx, hb, hml, hown, hts⟩ (c_M_in l dC dI cI x (nI 0) (nI (K - 1) - nI 1)) (va_cwS 3 hts (ct_giT (fun w h9 => ct_tl h9) kw_570 kw_571 kw_30 kw_572) rfl rfl rfl (by decide +kernel) ⟨Nat.le_of_ble_eq_true rfl, Nat.le_of_ble_eq_true rfl⟩) ⟨ct_ro_blind, ct_ro_pre (hP.sub [] rfl) hK⟩ rfl rfl hl.1 rfl (lv_room (Nat.le_of_ble_eq_true rfl)) d_M_step_12 ⟨Nat.le_of_ble_eq_true rfl, Nat.le_of_ble_eq_true rfl⟩) hS (fun q _ h9 => h9.elim) (fun q h9 => h9.elim) (fun ans1 uS tS H locs ht hvm hwans1 hB hz1 hk1 hS => ?_)
  have hP := ct_keep hP hk1
  refine ct_val (y := nI (if ct_in2 x (nI 0) (nI (K - 1) - nI 1) = true then 1 else 0)) (hwans1) ?_
  refine ct_val (y := nI (if ct_isn (K - 1) x = true then 1 else 0)) (by rw [ct_in2_isn (by omega)]) ?_
  by_cases hq : ct_isn (K - 1) x = true
  · rw [if_pos hq]
    obtain ⟨k, hk, hxk⟩ := ct_isn_of (by omega) hq
    have hK2 : 2 ≤ K := by omega
    refine lv_istore_n (lv' := [(3, .int (nI 1)), (0, .ref o0), (1, .int x), (2, .int y)]) hx hb d_M_step_15 rfl hl (by decide) rfl (fun ls hl => ?_)
    refine lv_aload_n hx hb d_M_step_16 rfl (lv_at hl 1 rfl) ?_
    refine lv_iload_n hx hb d_M_step_17 rfl (lv_at hl 0 rfl) ?_
    refine lv_if_ne (tgt := 25) hx hb d_M_step_18 (by decide) (fun _ => ?_) (fun hc9 => absurd hc9 (nI_ne0 (by omega) (by omega)))
    refine lv_iconst (v := (nI 0)) hx hb d_M_step_25 (by decide) ?_
    refine lv_iload_n hx hb d_M_step_26 rfl (lv_at hl 0 rfl) ?_
    refine lv_if_eq (tgt := 43) hx hb d_M_step_27 (by decide) (fun hc9 => absurd hc9 (nI_ne0 (by omega) (by omega))) (fun _ => ?_)
    refine lv_iload_n hx hb d_M_step_30 rfl (lv_at hl 3 rfl) ?_
    refine lv_iconst (v := (nI 0)) hx hb d_M_step_31 (by decide) ?_
    refine lv_iconst (v := (nI 3)) hx hb d_M_step_32 (by decide) ?_
    refine va_calli (va_runS (As := [.int y, .int (nI 0), .int (nI 3)]) (rest := [.int (nI 0), .ref o0]) ⟨hx, hb, hml, hown, hts⟩ (c_M_in l dC dI cI y (nI 0) (nI 3)) (va_cwS 3 hts (ct_giT (fun w h9 => ct_tl h9) kw_570 kw_571 kw_30 kw_572) rfl rfl rfl (by decide +kernel) ⟨Nat.le_of_ble_eq_true rfl, Nat.le_of_ble_eq_true rfl⟩) ⟨ct_ro_blind, ct_ro_pre (hP.sub [] rfl) hK⟩ rfl rfl hl.1 rfl (lv_room (Nat.le_of_ble_eq_true rfl)) d_M_step_33 ⟨Nat.le_of_ble_eq_true rfl, Nat.le_of_ble_eq_true rfl⟩) hS (fun q _ h9 => h9.elim) (fun q h9 => h9.elim) (fun ans102 uS tS H locs ht hvm hwans102 hB hz1 hk1 hS => ?_)
    have hP := ct_keep hP hk1
    refine ct_val (y := nI (if ct_in2 y (nI 0) (nI 3) = true then 1 else 0)) (hwans102) ?_
    refine ct_val (y := nI (if ct_isn 4 y = true then 1 else 0)) (by rw [ct_in2_4]) ?_
    by_cases hq2 : ct_isn 4 y = true
    · rw [if_pos hq2]
      refine lv_if_ne (tgt := 43) hx hb d_M_step_36 (by decide) (fun _ => ?_) (fun hc9 => absurd hc9 (nI_ne0 (by omega) (by omega)))
      refine lv_iconst (v := (nI 0)) hx hb d_M_step_43 (by decide) ?_
      have hPc := hP.sub (ws' := [(o0, .inr (4, [.int thr, .ref o1, .int tab, .ref o2, .ref o3, .int (nI K), .ref o4, .int (nI R), .ref o5, .ref o6, .int (nI (K - 1)), .ref o7, .ref o8, .ref o9]))]) [0] rfl
      have hDc := hD.sub (ws' := [(o0, .inr (4, [.int thr, .ref o1, .int tab, .ref o2, .ref o3, .int (nI K), .ref o4, .int (nI R), .ref o5, .ref o6, .int (nI (K - 1)), .ref o7, .ref o8, .ref o9]))]) [0] (by decide) rfl
      have hFc := va_free (wc := [(o0, .inr (4, [.int thr, .ref o1, .int tab, .ref o2, .ref o3, .int (nI K), .ref o4, .int (nI R), .ref o5, .ref o6, .int (nI (K - 1)), .ref o7, .ref o8, .ref o9]))]) hD hS hA [0] rfl
      refine va_calli (va_runV (As := [.int (nI 0), .int (nI 0)]) (rest := []) ⟨hx, hb, hml, hown, hts⟩ (c_M_refuse l dC dI cI o0 o1 o2 o3 o4 o5 o6 o7 o8 o9 thr tab (nI K) (nI R) (nI (K - 1)) 0 0 (by omega) (by omega) H.size) (cwV 2 hts (ct_giV (fun w h9 => ct_tl h9) kw_573 kw_575 kw_15 kw_30 kw_576) rfl rfl rfl (by decide +kernel) ⟨Nat.le_of_ble_eq_true rfl, Nat.le_of_ble_eq_true rfl⟩) ⟨ct_rw_blind, va_recv hK hP (ci := 4) (q0 := 0) rfl rfl, ct_rw_pre hPc hK hDc⟩ rfl rfl hl.1 rfl (lv_room (Nat.le_of_ble_eq_true rfl)) d_M_step_44 ⟨Nat.zero_le _, Nat.zero_le _⟩) hS (fun q _ h9 => hFc q h9) hFc (fun ans204 u tS H1 locs ht hvm hw203 hB hz1 hk1 hS => ?_)
      obtain ⟨hP1, -, hD1⟩ := hB
      rw [ht] at hP1
      obtain ⟨hP, hD⟩ := va_join (wr := [(o2, .inl (cI, 8, .inl fl)), (o4, .inl (cI, 6, .inl fo)), (o1, .inl (cI, 8, .inl (fun j => nI (sz j)))), (o5, .inl (cI, 64, .inl gb)), (o6, .inl (cI, 64, .inl gp)), (o7, .inl (cI, 8, .inl gs)), (o8, .inl (cI, 64, .inl gd))]) (w1 := [(o0, .inr (4, [.int (nI 0), .ref o1, .int tab, .ref o2, .ref o3, .int (nI K), .ref o4, .int (nI R), .ref o5, .ref o6, .int (nI (K - 1)), .ref o7, .ref o8, .ref o9]))]) hP hD [0] [1, 2, 3, 4, 5, 6, 7] rfl rfl (by decide) (by decide) hk1 hFc hP1 hD1
      generalize H1 = H at hP hS ⊢
      have hP : va_P (dC, dI) ct_cl [(o2, .inl (cI, 8, .inl fl)), (o4, .inl (cI, 6, .inl fo)), (o1, .inl (cI, 8, .inl (fun j => nI (sz j)))), (o5, .inl (cI, 64, .inl gb)), (o6, .inl (cI, 64, .inl gp)), (o7, .inl (cI, 8, .inl gs)), (o8, .inl (cI, 64, .inl gd)), (o0, .inr (4, [.int (nI 0), .ref o1, .int tab, .ref o2, .ref o3, .int (nI K), .ref o4, .int (nI R), .ref o5, .ref o6, .int (nI (K - 1)), .ref o7, .ref o8, .ref o9]))] H := hP
      have hD : va_D A [(o2, .inl (cI, 8, .inl fl)), (o4, .inl (cI, 6, .inl fo)), (o1, .inl (cI, 8, .inl (fun j => nI (sz j)))), (o5, .inl (cI, 64, .inl gb)), (o6, .inl (cI, 64, .inl gp)), (o7, .inl (cI, 8, .inl gs)), (o8, .inl (cI, 64, .inl gd)), (o0, .inr (4, [.int (nI 0), .ref o1, .int tab, .ref o2, .ref o3, .int (nI K), .ref o4, .int (nI R), .ref o5, .ref o6, .int (nI (K - 1)), .ref o7, .ref o8, .ref o9]))] := hD
      refine ct_val (y := nI 0) hw203 ?_
      refine lv_if_eq (tgt := 52) hx hb d_M_step_47 (by decide) (fun _ => ?_) (fun hc9 => absurd (nI_0) hc9)
      obtain ⟨j, hj, hyj⟩ := ct_isn_of (n := 4) (by omega) hq2
      rw [hxk, hyj] at hl
      have hsall := ct_sev_all K (by omega) hK2
      have hlen : (ct_ls (ct_B (ct_jc sz la K R)) 64 (2 ^ K - 1)).length = K - 1 := by have h9 := ct_ls_len hokB 64 (2 ^ K - 1) (by omega) (by omega) (ct_sev0 hsall); rw [ct_pop_all K (by omega)] at h9; omega
      have hprev := ct_ls_prev hokB 64 (2 ^ K - 1) (by omega) (by omega) k (by omega)
      have hSK := ct_mem_lt (K := K) hokB 64 (2 ^ K - 1) (by omega) (by omega) (by omega) ((ct_ls (ct_B (ct_jc sz la K R)) 64 (2 ^ K - 1)).getD k 0) (by rw [List.getD_eq_getElem?_getD, List.getElem?_eq_getElem (by omega)]; exact List.getElem_mem _)
      have hgs := hls.2 k hk
      have eS : ∃ S, ((ct_ls (ct_B (ct_jc sz la K R)) 64 (2 ^ K - 1)).getD k 0) = S := ⟨_, rfl⟩
      obtain ⟨S, eS⟩ := eS
      rw [eS] at hprev hSK hgs
      obtain ⟨hs, hS6, -, -⟩ := hprev
      have hp := hokB S hS6 hs
      have hpc := ct_pt_co S hS6 _ hp.1 hp.2
      have hp0 := ct_pt_pos hp.2
      have hp2 := ct_pt_1 hp.2
      have hgp := (hls.1 S (ct_sev0 hs) hSK).2
      have ha : ∃ a, (ct_B (ct_jc sz la K R) S).2 = a := ⟨_, rfl⟩
      obtain ⟨a, ha⟩ := ha
      rw [ha] at hgp hp hpc hp0 hp2
      have hval : ct_stv sz la K R k j = if j = 0 then a else if j = 1 then S ^^^ a else if j = 2 then ct_jc sz la K R a (S ^^^ a) else ct_lv la K R a ||| ct_lv la K R (S ^^^ a) := by unfold ct_stv; rw [eS]; dsimp only; rw [ha]
      refine lv_aload_n hx hb d_M_step_52 rfl (lv_at hl 1 rfl) ?_
      refine va_get (D := (dC, dI)) (ci := 4) (v := .ref o6) (C := R_M) (T := T_M) (N := 14) hx hb hts (fun w h9 => ct_tl (ki_M w h9)) hown hK hP 7 rfl rfl 9 (by decide) (hts _ (ct_tl kw_528)) (fun _ h9 => h9) rfl d_M_step_53 ?_
      refine lv_aload_n hx hb d_M_step_56 rfl (lv_at hl 1 rfl) ?_
      refine va_get (D := (dC, dI)) (ci := 4) (v := .ref o7) (C := R_M) (T := T_M) (N := 14) hx hb hts (fun w h9 => ct_tl (ki_M w h9)) hown hK hP 7 rfl rfl 11 (by decide) (hts _ (ct_tl kw_530)) (fun _ h9 => h9) rfl d_M_step_57 ?_
      refine lv_iload_n hx hb d_M_step_60 rfl (lv_at hl 2 rfl) ?_
      refine ct_iald hx hb hK hP 5 0 rfl rfl (j := k) (by omega) (by omega) d_M_step_61 ?_
      refine ct_val (y := nI S) (hgs) ?_
      refine ct_iald hx hb hK hP 4 0 rfl rfl (j := S) (by omega) (by omega) d_M_step_62 ?_
      refine ct_val (y := nI a) (hgp) ?_
      refine lv_istore (lv' := [(4, .int (nI a)), (3, .int (nI 1)), (0, .ref o0), (1, .int (nI k)), (2, .int (nI j))]) hx hb d_M_step_63 hl (by decide) rfl (fun ls hl => ?_)
      refine lv_aload_n hx hb d_M_step_65 rfl (lv_at hl 2 rfl) ?_
      refine va_get (D := (dC, dI)) (ci := 4) (v := .ref o7) (C := R_M) (T := T_M) (N := 14) hx hb hts (fun w h9 => ct_tl (ki_M w h9)) hown hK hP 7 rfl rfl 11 (by decide) (hts _ (ct_tl kw_530)) (fun _ h9 => h9) rfl d_M_step_66 ?_
      refine lv_iload_n hx hb d_M_step_69 rfl (lv_at hl 3 rfl) ?_
      refine ct_iald hx hb hK hP 5 0 rfl rfl (j := k) (by omega) (by omega) d_M_step_70 ?_
      refine ct_val (y := nI S) (hgs) ?_
      refine lv_iload hx hb d_M_step_71 (lv_at hl 0 rfl) ?_
      refine lv_iconst (v := (-1)) hx hb d_M_step_73 (by decide) ?_
      refine lv_ixor hx hb d_M_step_74 ?_
      refine lv_iand hx hb d_M_step_75 ?_
      refine ct_val (y := nI (S ^^^ a)) (ct_nand_I S hS6 a (by omega) hp2.1) ?_
      refine lv_istore (lv' := [(5, .int (nI (S ^^^ a))), (4, .int (nI a)), (3, .int (nI 1)), (0, .ref o0), (1, .int (nI k)), (2, .int (nI j))]) hx hb d_M_step_76 hl (by decide) rfl (fun ls hl => ?_)
      refine lv_iload_n hx hb d_M_step_78 rfl (lv_at hl 5 rfl) ?_
      rcases (show j = 0 ∨ j = 1 ∨ j = 2 ∨ j = 3 by omega) with rfl | rfl | rfl | rfl
      · refine lv_tableIn (x := nI 0) (off := 25) (tgt := 104) hx hb d_M_step_79 (by decide) (by decide) (by decide) (by decide) ?_
        refine lv_iload hx hb d_M_step_104 (lv_at hl 1 rfl) ?_
        have hP9 := hP.sub [7, 0, 1, 2, 3, 4, 5, 6] rfl
        exact W.iret (v := (nI a)) hx hb hr (fun tS ht hW => ⟨⟨(nI a), (0, gb, gp, gs, gd), rfl, Or.inr (Or.inr ⟨hq, hq2, rfl, k, 0, hxk, hk, hyj, by omega, by rw [hval]; rfl⟩), by rw [ht]; exact hP9, va_K.moved hW.alike hK, hD.sub [7, 0, 1, 2, 3, 4, 5, 6] (by decide) rfl⟩, hS.F ht⟩) hS.2.2 d_M_step_106
      · refine lv_tableIn (x := nI 1) (off := 28) (tgt := 107) hx hb d_M_step_79 (by decide) (by decide) (by decide) (by decide) ?_
        refine lv_iload hx hb d_M_step_107 (lv_at hl 0 rfl) ?_
        have hP9 := hP.sub [7, 0, 1, 2, 3, 4, 5, 6] rfl
        exact W.iret (v := (nI (S ^^^ a))) hx hb hr (fun tS ht hW => ⟨⟨(nI (S ^^^ a)), (0, gb, gp, gs, gd), rfl, Or.inr (Or.inr ⟨hq, hq2, rfl, k, 1, hxk, hk, hyj, by omega, by rw [hval]; rfl⟩), by rw [ht]; exact hP9, va_K.moved hW.alike hK, hD.sub [7, 0, 1, 2, 3, 4, 5, 6] (by decide) rfl⟩, hS.F ht⟩) hS.2.2 d_M_step_109
      · refine lv_tableIn (x := nI 2) (off := 31) (tgt := 110) hx hb d_M_step_79 (by decide) (by decide) (by decide) (by decide) ?_
        refine lv_aload_n hx hb d_M_step_110 rfl (lv_at hl 3 rfl) ?_
        refine lv_iload hx hb d_M_step_111 (lv_at hl 1 rfl) ?_
        refine lv_iload hx hb d_M_step_113 (lv_at hl 0 rfl) ?_
        refine va_calli (va_runV (As := [.int (nI a), .int (nI (S ^^^ a))]) (rest := []) ⟨hx, hb, hml, hown, hts⟩ (c_M_joins l dC dI cI o0 o1 o2 o3 o4 o5 o6 o7 o8 o9 (nI 0) tab K R (nI (K - 1)) fl fo la ot hK6 hfo hfl sz hla a (S ^^^ a) hp0 (by omega) hpc.1 (by omega)) (cwV 2 hts (ct_giV (fun w h9 => ct_tl h9) kw_620 kw_622 kw_19 kw_30 kw_623) rfl rfl rfl (by decide +kernel) ⟨Nat.le_of_ble_eq_true rfl, Nat.le_of_ble_eq_true rfl⟩) ⟨ct_ro_blind, va_recv hK hP (ci := 4) (q0 := 7) rfl rfl, ct_ro_pre (hP.sub [7, 0, 1, 2] rfl) hK⟩ rfl rfl hl.1 rfl (lv_room (Nat.le_of_ble_eq_true rfl)) d_M_step_115 ⟨Nat.le_of_ble_eq_true rfl, Nat.le_of_ble_eq_true rfl⟩) hS (fun q _ h9 => h9.elim) (fun q h9 => h9.elim) (fun ans305 uS tS H locs ht hvm hwans305 hB hz1 hk1 hS => ?_)
        have hP := ct_keep hP hk1
        refine ct_val (y := nI (ct_jc sz la K R a (S ^^^ a))) (hwans305) ?_
        have hP9 := hP.sub [7, 0, 1, 2, 3, 4, 5, 6] rfl
        exact W.iret (v := (nI (ct_jc sz la K R a (S ^^^ a)))) hx hb hr (fun tS ht hW => ⟨⟨(nI (ct_jc sz la K R a (S ^^^ a))), (0, gb, gp, gs, gd), rfl, Or.inr (Or.inr ⟨hq, hq2, rfl, k, 2, hxk, hk, hyj, by omega, by rw [hval]; rfl⟩), by rw [ht]; exact hP9, va_K.moved hW.alike hK, hD.sub [7, 0, 1, 2, 3, 4, 5, 6] (by decide) rfl⟩, hS.F ht⟩) hS.2.2 d_M_step_118
      · refine lv_tableOut (x := nI 3) (tgt := 119) hx hb d_M_step_79 (Or.inr (by decide)) (by decide) ?_
        refine lv_aload_n hx hb d_M_step_119 rfl (lv_at hl 3 rfl) ?_
        refine lv_iload hx hb d_M_step_120 (lv_at hl 1 rfl) ?_
        refine va_calli (va_runV (As := [.int (nI a)]) (rest := []) ⟨hx, hb, hml, hown, hts⟩ (c_M_leaves l dC dI cI o0 o1 o2 o3 o4 o5 o6 o7 o8 o9 (nI 0) tab K R (nI (K - 1)) fl fo la ot hK6 hfo hfl a hp0 (by omega)) (cwV 1 hts (ct_giV (fun w h9 => ct_tl h9) kw_624 kw_626 kw_20 kw_30 kw_627) rfl rfl rfl (by decide +kernel) ⟨Nat.le_of_ble_eq_true rfl, Nat.le_of_ble_eq_true rfl⟩) ⟨ct_ro_blind, va_recv hK hP (ci := 4) (q0 := 7) rfl rfl, ct_ro_pre (hP.sub [7, 0, 1] rfl) hK⟩ rfl rfl hl.1 rfl (lv_room (Nat.le_of_ble_eq_true rfl)) d_M_step_122 ⟨Nat.le_of_ble_eq_true rfl, Nat.le_of_ble_eq_true rfl⟩) hS (fun q _ h9 => h9.elim) (fun q h9 => h9.elim) (fun ans305 uS tS H locs ht hvm hwans305 hB hz1 hk1 hS => ?_)
        have hP := ct_keep hP hk1
        refine ct_val (y := nI (ct_lv la K R a)) (hwans305) ?_
        refine lv_aload_n hx hb d_M_step_125 rfl (lv_at hl 3 rfl) ?_
        refine lv_iload hx hb d_M_step_126 (lv_at hl 0 rfl) ?_
        refine va_calli (va_runV (As := [.int (nI (S ^^^ a))]) (rest := [.int (nI (ct_lv la K R a))]) ⟨hx, hb, hml, hown, hts⟩ (c_M_leaves l dC dI cI o0 o1 o2 o3 o4 o5 o6 o7 o8 o9 (nI 0) tab K R (nI (K - 1)) fl fo la ot hK6 hfo hfl (S ^^^ a) hpc.1 (by omega)) (cwV 1 hts (ct_giV (fun w h9 => ct_tl h9) kw_624 kw_626 kw_20 kw_30 kw_627) rfl rfl rfl (by decide +kernel) ⟨Nat.le_of_ble_eq_true rfl, Nat.le_of_ble_eq_true rfl⟩) ⟨ct_ro_blind, va_recv hK hP (ci := 4) (q0 := 7) rfl rfl, ct_ro_pre (hP.sub [7, 0, 1] rfl) hK⟩ rfl rfl hl.1 rfl (lv_room (Nat.le_of_ble_eq_true rfl)) d_M_step_128 ⟨Nat.le_of_ble_eq_true rfl, Nat.le_of_ble_eq_true rfl⟩) hS (fun q _ h9 => h9.elim) (fun q h9 => h9.elim) (fun ans306 uS tS H locs ht hvm hwans306 hB hz1 hk1 hS => ?_)
        have hP := ct_keep hP hk1
        refine ct_val (y := nI (ct_lv la K R (S ^^^ a))) (hwans306) ?_
        refine lv_ior hx hb d_M_step_131 ?_
        refine ct_val (y := nI (ct_lv la K R a ||| ct_lv la K R (S ^^^ a))) (ct_or _ _) ?_
        have hP9 := hP.sub [7, 0, 1, 2, 3, 4, 5, 6] rfl
        exact W.iret (v := (nI (ct_lv la K R a ||| ct_lv la K R (S ^^^ a)))) hx hb hr (fun tS ht hW => ⟨⟨(nI (ct_lv la K R a ||| ct_lv la K R (S ^^^ a))), (0, gb, gp, gs, gd), rfl, Or.inr (Or.inr ⟨hq, hq2, rfl, k, 3, hxk, hk, hyj, by omega, by rw [hval]; rfl⟩), by rw [ht]; exact hP9, va_K.moved hW.alike hK, hD.sub [7, 0, 1, 2, 3, 4, 5, 6] (by decide) rfl⟩, hS.F ht⟩) hS.2.2 d_M_step_132
    · rw [if_neg hq2]
      refine lv_if_ne (tgt := 43) hx hb d_M_step_36 (by decide) (fun hc9 => absurd (nI_0) hc9) (fun _ => ?_)
      refine lv_iconst (v := (nI 1)) hx hb d_M_step_39 (by decide) ?_
      refine lv_goto (tgt := 44) hx hb d_M_step_40 (by decide) ?_
      have hPc := hP.sub (ws' := [(o0, .inr (4, [.int thr, .ref o1, .int tab, .ref o2, .ref o3, .int (nI K), .ref o4, .int (nI R), .ref o5, .ref o6, .int (nI (K - 1)), .ref o7, .ref o8, .ref o9]))]) [0] rfl
      have hDc := hD.sub (ws' := [(o0, .inr (4, [.int thr, .ref o1, .int tab, .ref o2, .ref o3, .int (nI K), .ref o4, .int (nI R), .ref o5, .ref o6, .int (nI (K - 1)), .ref o7, .ref o8, .ref o9]))]) [0] (by decide) rfl
      have hFc := va_free (wc := [(o0, .inr (4, [.int thr, .ref o1, .int tab, .ref o2, .ref o3, .int (nI K), .ref o4, .int (nI R), .ref o5, .ref o6, .int (nI (K - 1)), .ref o7, .ref o8, .ref o9]))]) hD hS hA [0] rfl
      refine va_calli (va_runV (As := [.int (nI 0), .int (nI 1)]) (rest := []) ⟨hx, hb, hml, hown, hts⟩ (c_M_refuse l dC dI cI o0 o1 o2 o3 o4 o5 o6 o7 o8 o9 thr tab (nI K) (nI R) (nI (K - 1)) 0 1 (by omega) (by omega) H.size) (cwV 2 hts (ct_giV (fun w h9 => ct_tl h9) kw_573 kw_575 kw_15 kw_30 kw_576) rfl rfl rfl (by decide +kernel) ⟨Nat.le_of_ble_eq_true rfl, Nat.le_of_ble_eq_true rfl⟩) ⟨ct_rw_blind, va_recv hK hP (ci := 4) (q0 := 0) rfl rfl, ct_rw_pre hPc hK hDc⟩ rfl rfl hl.1 rfl (lv_room (Nat.le_of_ble_eq_true rfl)) d_M_step_44 ⟨Nat.zero_le _, Nat.zero_le _⟩) hS (fun q _ h9 => hFc q h9) hFc (fun ans204 u tS H1 locs ht hvm hw203 hB hz1 hk1 hS => ?_)
      obtain ⟨hP1, -, hD1⟩ := hB
      rw [ht] at hP1
      obtain ⟨hP, hD⟩ := va_join (wr := [(o2, .inl (cI, 8, .inl fl)), (o4, .inl (cI, 6, .inl fo)), (o1, .inl (cI, 8, .inl (fun j => nI (sz j)))), (o5, .inl (cI, 64, .inl gb)), (o6, .inl (cI, 64, .inl gp)), (o7, .inl (cI, 8, .inl gs)), (o8, .inl (cI, 64, .inl gd))]) (w1 := [(o0, .inr (4, [.int (nI 2), .ref o1, .int tab, .ref o2, .ref o3, .int (nI K), .ref o4, .int (nI R), .ref o5, .ref o6, .int (nI (K - 1)), .ref o7, .ref o8, .ref o9]))]) hP hD [0] [1, 2, 3, 4, 5, 6, 7] rfl rfl (by decide) (by decide) hk1 hFc hP1 hD1
      generalize H1 = H at hP hS ⊢
      have hP : va_P (dC, dI) ct_cl [(o2, .inl (cI, 8, .inl fl)), (o4, .inl (cI, 6, .inl fo)), (o1, .inl (cI, 8, .inl (fun j => nI (sz j)))), (o5, .inl (cI, 64, .inl gb)), (o6, .inl (cI, 64, .inl gp)), (o7, .inl (cI, 8, .inl gs)), (o8, .inl (cI, 64, .inl gd)), (o0, .inr (4, [.int (nI 2), .ref o1, .int tab, .ref o2, .ref o3, .int (nI K), .ref o4, .int (nI R), .ref o5, .ref o6, .int (nI (K - 1)), .ref o7, .ref o8, .ref o9]))] H := hP
      have hD : va_D A [(o2, .inl (cI, 8, .inl fl)), (o4, .inl (cI, 6, .inl fo)), (o1, .inl (cI, 8, .inl (fun j => nI (sz j)))), (o5, .inl (cI, 64, .inl gb)), (o6, .inl (cI, 64, .inl gp)), (o7, .inl (cI, 8, .inl gs)), (o8, .inl (cI, 64, .inl gd)), (o0, .inr (4, [.int (nI 2), .ref o1, .int tab, .ref o2, .ref o3, .int (nI K), .ref o4, .int (nI R), .ref o5, .ref o6, .int (nI (K - 1)), .ref o7, .ref o8, .ref o9]))] := hD
      refine ct_val (y := nI 1) hw203 ?_
      refine lv_if_eq (tgt := 52) hx hb d_M_step_47 (by decide) (fun hc9 => absurd hc9 (nI_ne0 (by omega) (by omega))) (fun _ => ?_)
      refine lv_iconst (v := (nI 0)) hx hb d_M_step_50 (by decide) ?_
      have hP9 := hP.sub [7, 0, 1, 2, 3, 4, 5, 6] rfl
      exact W.iret (v := (nI 0)) hx hb hr (fun tS ht hW => ⟨⟨(nI 0), (2, gb, gp, gs, gd), rfl, Or.inr (Or.inl ⟨hq, by simpa using hq2, rfl⟩), by rw [ht]; exact hP9, va_K.moved hW.alike hK, hD.sub [7, 0, 1, 2, 3, 4, 5, 6] (by decide) rfl⟩, hS.F ht⟩) hS.2.2 d_M_step_51
  · rw [if_neg hq]
    refine lv_istore_n (lv' := [(3, .int (nI 0)), (0, .ref o0), (1, .int x), (2, .int y)]) hx hb d_M_step_15 rfl hl (by decide) rfl (fun ls hl => ?_)
    refine lv_aload_n hx hb d_M_step_16 rfl (lv_at hl 1 rfl) ?_
    refine lv_iload_n hx hb d_M_step_17 rfl (lv_at hl 0 rfl) ?_
    refine lv_if_ne (tgt := 25) hx hb d_M_step_18 (by decide) (fun hc9 => absurd (nI_0) hc9) (fun _ => ?_)
    refine lv_iconst (v := (nI 1)) hx hb d_M_step_21 (by decide) ?_
    refine lv_goto (tgt := 26) hx hb d_M_step_22 (by decide) ?_
    refine lv_iload_n hx hb d_M_step_26 rfl (lv_at hl 0 rfl) ?_
    refine lv_if_eq (tgt := 43) hx hb d_M_step_27 (by decide) (fun _ => ?_) (fun hc9 => absurd (nI_0) hc9)
    refine lv_iconst (v := (nI 0)) hx hb d_M_step_43 (by decide) ?_
    have hPc := hP.sub (ws' := [(o0, .inr (4, [.int thr, .ref o1, .int tab, .ref o2, .ref o3, .int (nI K), .ref o4, .int (nI R), .ref o5, .ref o6, .int (nI (K - 1)), .ref o7, .ref o8, .ref o9]))]) [0] rfl
    have hDc := hD.sub (ws' := [(o0, .inr (4, [.int thr, .ref o1, .int tab, .ref o2, .ref o3, .int (nI K), .ref o4, .int (nI R), .ref o5, .ref o6, .int (nI (K - 1)), .ref o7, .ref o8, .ref o9]))]) [0] (by decide) rfl
    have hFc := va_free (wc := [(o0, .inr (4, [.int thr, .ref o1, .int tab, .ref o2, .ref o3, .int (nI K), .ref o4, .int (nI R), .ref o5, .ref o6, .int (nI (K - 1)), .ref o7, .ref o8, .ref o9]))]) hD hS hA [0] rfl
    refine va_calli (va_runV (As := [.int (nI 1), .int (nI 0)]) (rest := []) ⟨hx, hb, hml, hown, hts⟩ (c_M_refuse l dC dI cI o0 o1 o2 o3 o4 o5 o6 o7 o8 o9 thr tab (nI K) (nI R) (nI (K - 1)) 1 0 (by omega) (by omega) H.size) (cwV 2 hts (ct_giV (fun w h9 => ct_tl h9) kw_573 kw_575 kw_15 kw_30 kw_576) rfl rfl rfl (by decide +kernel) ⟨Nat.le_of_ble_eq_true rfl, Nat.le_of_ble_eq_true rfl⟩) ⟨ct_rw_blind, va_recv hK hP (ci := 4) (q0 := 0) rfl rfl, ct_rw_pre hPc hK hDc⟩ rfl rfl hl.1 rfl (lv_room (Nat.le_of_ble_eq_true rfl)) d_M_step_44 ⟨Nat.zero_le _, Nat.zero_le _⟩) hS (fun q _ h9 => hFc q h9) hFc (fun ans103 u tS H1 locs ht hvm hw102 hB hz1 hk1 hS => ?_)
    obtain ⟨hP1, -, hD1⟩ := hB
    rw [ht] at hP1
    obtain ⟨hP, hD⟩ := va_join (wr := [(o2, .inl (cI, 8, .inl fl)), (o4, .inl (cI, 6, .inl fo)), (o1, .inl (cI, 8, .inl (fun j => nI (sz j)))), (o5, .inl (cI, 64, .inl gb)), (o6, .inl (cI, 64, .inl gp)), (o7, .inl (cI, 8, .inl gs)), (o8, .inl (cI, 64, .inl gd))]) (w1 := [(o0, .inr (4, [.int (nI 1), .ref o1, .int tab, .ref o2, .ref o3, .int (nI K), .ref o4, .int (nI R), .ref o5, .ref o6, .int (nI (K - 1)), .ref o7, .ref o8, .ref o9]))]) hP hD [0] [1, 2, 3, 4, 5, 6, 7] rfl rfl (by decide) (by decide) hk1 hFc hP1 hD1
    generalize H1 = H at hP hS ⊢
    have hP : va_P (dC, dI) ct_cl [(o2, .inl (cI, 8, .inl fl)), (o4, .inl (cI, 6, .inl fo)), (o1, .inl (cI, 8, .inl (fun j => nI (sz j)))), (o5, .inl (cI, 64, .inl gb)), (o6, .inl (cI, 64, .inl gp)), (o7, .inl (cI, 8, .inl gs)), (o8, .inl (cI, 64, .inl gd)), (o0, .inr (4, [.int (nI 1), .ref o1, .int tab, .ref o2, .ref o3, .int (nI K), .ref o4, .int (nI R), .ref o5, .ref o6, .int (nI (K - 1)), .ref o7, .ref o8, .ref o9]))] H := hP
    have hD : va_D A [(o2, .inl (cI, 8, .inl fl)), (o4, .inl (cI, 6, .inl fo)), (o1, .inl (cI, 8, .inl (fun j => nI (sz j)))), (o5, .inl (cI, 64, .inl gb)), (o6, .inl (cI, 64, .inl gp)), (o7, .inl (cI, 8, .inl gs)), (o8, .inl (cI, 64, .inl gd)), (o0, .inr (4, [.int (nI 1), .ref o1, .int tab, .ref o2, .ref o3, .int (nI K), .ref o4, .int (nI R), .ref o5, .ref o6, .int (nI (K - 1)), .ref o7, .ref o8, .ref o9]))] := hD
    refine ct_val (y := nI 1) hw102 ?_
    refine lv_if_eq (tgt := 52) hx hb d_M_step_47 (by decide) (fun hc9 => absurd hc9 (nI_ne0 (by omega) (by omega))) (fun _ => ?_)
    refine lv_iconst (v := (nI 0)) hx hb d_M_step_50 (by decide) ?_
    have hP9 := hP.sub [7, 0, 1, 2, 3, 4, 5, 6] rfl
    exact W.iret (v := (nI 0)) hx hb hr (fun tS ht hW => ⟨⟨(nI 0), (1, gb, gp, gs, gd), rfl, Or.inl ⟨by simpa using hq, rfl⟩, by rw [ht]; exact hP9, va_K.moved hW.alike hK, hD.sub [7, 0, 1, 2, 3, 4, 5, 6] (by decide) rfl⟩, hS.F ht⟩) hS.2.2 d_M_step_51
