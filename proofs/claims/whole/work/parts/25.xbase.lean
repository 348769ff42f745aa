def R_IAE : String := "java/lang/IllegalArgumentException"
def R_ISE : String := "java/lang/IllegalStateException"
def R_UOE : String := "java/lang/UnsupportedOperationException"
def R_IOE : String := "java/lang/IndexOutOfBoundsException"
abbrev ct_sup : List String := ["java/lang/RuntimeException", "java/lang/Exception"]
abbrev ct_bad : List Cond := [.castable "java/lang/IllegalArgumentException" "java/lang/IllegalArgumentException", .castable "java/lang/IllegalStateException" "java/lang/IllegalStateException", .castable "java/lang/UnsupportedOperationException" "java/lang/UnsupportedOperationException", .castable "java/lang/IndexOutOfBoundsException" "java/lang/IndexOutOfBoundsException", .declares ⟨"java/lang/RuntimeException", "<init>", "(Ljava/lang/String;)V"⟩, .declares ⟨"java/lang/Exception", "<init>", "(Ljava/lang/String;)V"⟩, .declares ⟨"java/lang/Throwable", "<init>", "(Ljava/lang/String;)V"⟩]
abbrev ct_strs : List (Nat × String) := [(47, "no such label"), (52, "no such size"), (60, "a table has the label"), (75, "labels must rise, with NONE behind the last one"), (83, "there are eight tables"), (95, "no such table"), (102, "no such cell"), (119, "there are six operands"), (134, "no such step"), (136, "what is 0 to 3")]
theorem ct_bad_ot : ∀ w ∈ ct_bad, w.onTables = true := by decide +kernel
/-- what a throw asks of the state beyond the tables' good words -/
def ct_X (A : Nat → Prop) (U : State) (H : Heap) : Prop := (∀ w ∈ ct_bad, va_Nw w U) ∧ (∀ q ∈ ct_strs, ∃ sa : Nat, vk_R R_H q.1 q.2 sa U) ∧ vx_Zq Bundle.tN "UNASSIGNED_STACK" Bundle.steD A U H ∧ vx_Zq Bundle.tN "SUPPRESSED_SENTINEL" Bundle.listD A U H
theorem ct_bad_warm {s U : State} (hW : s.WarmedH U.vm) : ∀ w ∈ ct_bad, va_Nw w s → va_Nw w U := by
  intro w hw h
  simp only [ct_bad, List.mem_cons, List.not_mem_nil, or_false] at hw
  rcases hw with rfl | rfl | rfl | rfl | rfl | rfl | rfl
  · exact va_Nw.warmC hW h
  · exact va_Nw.warmC hW h
  · exact va_Nw.warmC hW h
  · exact va_Nw.warmC hW h
  · exact va_Nw.warmD hW h
  · exact va_Nw.warmD hW h
  · exact va_Nw.warmD hW h
theorem ct_X.warm {A : Nat → Prop} {s U : State} {H : Heap} (hW : s.WarmedH U.vm) (h : ct_X A s H) : ct_X A U H := ⟨fun w hw => ct_bad_warm hW w hw (h.1 w hw), fun q hq => by
  obtain ⟨sa, hs⟩ := h.2.1 q hq
  exact ⟨sa, vk_R.warm hW hs⟩, vx_Zq.moved hW.alike h.2.2.1, vx_Zq.moved hW.alike h.2.2.2⟩
theorem ct_X.kept {A : Nat → Prop} {U : State} {H H1 : Heap} (h : ct_X A U H) (hq : ∀ a : Nat, a < H.size → ¬ A a → H1[a]? = H[a]?) : ct_X A U H1 := ⟨h.1, h.2.1, h.2.2.1.kept hq, h.2.2.2.kept hq⟩
theorem ct_X.narrow {A B : Nat → Prop} {U : State} {H : Heap} (h : ct_X A U H) (hAB : ∀ q, B q → A q) : ct_X B U H := ⟨h.1, h.2.1, h.2.2.1.narrow hAB, h.2.2.2.narrow hAB⟩
theorem ct_thr {D : va_G} {cl : List vw_C} {tys : List (ClassId × FieldType)} {A : Nat → Prop} {ws : va_W} {s t : State} {H : Heap} {locs : List Loc} (hP : va_P D cl ws H) (hK : va_K D cl tys s) (hD : va_D A ws) (hS : va_S A s.heap H locs) (hal : s.vm.Alike t.vm) (hz : H.size ≤ t.heap.size) (hk : ∀ q : Nat, q < H.size → t.heap[q]? = H[q]?) : ct_at D cl tys A ws t ∧ va_F A s t :=
  ⟨⟨hP.kept (fun k q h => hk q.1 ((hP k q h).lt)), va_K.moved hal hK, hD⟩, Nat.le_trans hS.1 hz, fun q h1 h2 => (hk q (Nat.lt_of_lt_of_le h1 hS.1)).trans (hS.2.1 q h1 h2)⟩
def ct_rx (D : va_G) (cl : List vw_C) (ws : va_W) (tys : List (ClassId × FieldType)) (sz : Nat) (U : State) : Prop := ct_rw D cl ws tys sz U ∧ ct_X (va_A ws sz) U U.heap
theorem ct_rx_blind {av : List Value} {D : va_G} {cl : List vw_C} {ws : va_W} {tys : List (ClassId × FieldType)} {sz : Nat} : FrameBlind (va_Pc av (ct_rx D cl ws tys sz)) := fun a U g mk q => ⟨q.1, ⟨q.2.1.1, q.2.1.2.1, va_K.moved (u := U) (U := U.calling g mk a) (Vm.Alike.refl U.vm) q.2.1.2.2.1, q.2.1.2.2.2⟩, ct_X.warm (s := U) (U := U.calling g mk a) (State.WarmedH.refl U) q.2.2⟩
theorem ct_rx_pre {av : List Value} {D : va_G} {cl : List vw_C} {ws : va_W} {tys : List (ClassId × FieldType)} {A A0 : Nat → Prop} {s : State} {H : Heap} (hP : va_P D cl ws H) (hK : va_K D cl tys s) (hD : va_D A ws) (hX : ct_X A0 s H) (hA : ∀ q, va_A ws H.size q → A0 q) : ∀ U : State, U.heap = H → s.WarmedH U.vm → va_Pc av (ct_rx D cl ws tys H.size) av.toArray U := fun U hU hW => ⟨rfl, (ct_rw_pre (av := av) hP hK hD U hU hW).2, by rw [hU]; exact (hX.narrow hA).warm hW⟩
theorem kx_IAE : ∀ w ∈ (vx_atS R_H 49 R_IAE ct_sup).filter goodWord, w ∈ ct_tb := by decide +kernel
theorem kb_IAE : ∀ w ∈ (vx_atS R_H 49 R_IAE ct_sup).filter (fun w => !goodWord w), w ∈ ct_bad := by decide +kernel
theorem kg_IAE : ∀ w ∈ Cond.classLink R_H 45 R_IAE :: Cond.initialized R_IAE :: vx_atS R_H 49 R_IAE ct_sup, vx_ot w = true := by decide +kernel
theorem kt_IAE {args : Array Value} {s : State} {b : Cond} {A : Nat → Prop} {H : Heap} (hts : ∀ w ∈ b :: ct_tb, w.before args s = true) (hX : ct_X A s H) : ∀ w ∈ vx_atS R_H 49 R_IAE ct_sup, w.before args s = true := vx_hat (fun w hw => hts w (ct_tl (kx_IAE w hw))) kb_IAE (fun w hw => va_Nw.use (ct_bad_ot w hw) (hX.1 w hw))
theorem kf_IAE : Bundle.fit R_IAE = true ∧ ∀ n ∈ ct_sup, Bundle.fit n = true := by decide +kernel
theorem kl_IAE : Cond.classLink R_H 45 R_IAE ∈ ct_tb := ct_in (i := 225) (by decide +kernel) rfl
theorem kn_IAE : Cond.initialized R_IAE ∈ ct_tb := ct_in (i := 34) (by decide +kernel) rfl
theorem kx_ISE : ∀ w ∈ (vx_atS R_H 62 R_ISE ct_sup).filter goodWord, w ∈ ct_tb := by decide +kernel
theorem kb_ISE : ∀ w ∈ (vx_atS R_H 62 R_ISE ct_sup).filter (fun w => !goodWord w), w ∈ ct_bad := by decide +kernel
theorem kg_ISE : ∀ w ∈ Cond.classLink R_H 58 R_ISE :: Cond.initialized R_ISE :: vx_atS R_H 62 R_ISE ct_sup, vx_ot w = true := by decide +kernel
theorem kt_ISE {args : Array Value} {s : State} {b : Cond} {A : Nat → Prop} {H : Heap} (hts : ∀ w ∈ b :: ct_tb, w.before args s = true) (hX : ct_X A s H) : ∀ w ∈ vx_atS R_H 62 R_ISE ct_sup, w.before args s = true := vx_hat (fun w hw => hts w (ct_tl (kx_ISE w hw))) kb_ISE (fun w hw => va_Nw.use (ct_bad_ot w hw) (hX.1 w hw))
theorem kf_ISE : Bundle.fit R_ISE = true ∧ ∀ n ∈ ct_sup, Bundle.fit n = true := by decide +kernel
theorem kl_ISE : Cond.classLink R_H 58 R_ISE ∈ ct_tb := ct_in (i := 302) (by decide +kernel) rfl
theorem kn_ISE : Cond.initialized R_ISE ∈ ct_tb := ct_in (i := 35) (by decide +kernel) rfl
theorem kx_UOE : ∀ w ∈ (vx_atS R_H 85 R_UOE ct_sup).filter goodWord, w ∈ ct_tb := by decide +kernel
theorem kb_UOE : ∀ w ∈ (vx_atS R_H 85 R_UOE ct_sup).filter (fun w => !goodWord w), w ∈ ct_bad := by decide +kernel
theorem kg_UOE : ∀ w ∈ Cond.classLink R_H 81 R_UOE :: Cond.initialized R_UOE :: vx_atS R_H 85 R_UOE ct_sup, vx_ot w = true := by decide +kernel
theorem kt_UOE {args : Array Value} {s : State} {b : Cond} {A : Nat → Prop} {H : Heap} (hts : ∀ w ∈ b :: ct_tb, w.before args s = true) (hX : ct_X A s H) : ∀ w ∈ vx_atS R_H 85 R_UOE ct_sup, w.before args s = true := vx_hat (fun w hw => hts w (ct_tl (kx_UOE w hw))) kb_UOE (fun w hw => va_Nw.use (ct_bad_ot w hw) (hX.1 w hw))
theorem kf_UOE : Bundle.fit R_UOE = true ∧ ∀ n ∈ ct_sup, Bundle.fit n = true := by decide +kernel
theorem kl_UOE : Cond.classLink R_H 81 R_UOE ∈ ct_tb := ct_in (i := 337) (by decide +kernel) rfl
theorem kn_UOE : Cond.initialized R_UOE ∈ ct_tb := ct_in (i := 36) (by decide +kernel) rfl
theorem kx_IOE : ∀ w ∈ (vx_atS R_H 97 R_IOE ct_sup).filter goodWord, w ∈ ct_tb := by decide +kernel
theorem kb_IOE : ∀ w ∈ (vx_atS R_H 97 R_IOE ct_sup).filter (fun w => !goodWord w), w ∈ ct_bad := by decide +kernel
theorem kg_IOE : ∀ w ∈ Cond.classLink R_H 93 R_IOE :: Cond.initialized R_IOE :: vx_atS R_H 97 R_IOE ct_sup, vx_ot w = true := by decide +kernel
theorem kt_IOE {args : Array Value} {s : State} {b : Cond} {A : Nat → Prop} {H : Heap} (hts : ∀ w ∈ b :: ct_tb, w.before args s = true) (hX : ct_X A s H) : ∀ w ∈ vx_atS R_H 97 R_IOE ct_sup, w.before args s = true := vx_hat (fun w hw => hts w (ct_tl (kx_IOE w hw))) kb_IOE (fun w hw => va_Nw.use (ct_bad_ot w hw) (hX.1 w hw))
theorem kf_IOE : Bundle.fit R_IOE = true ∧ ∀ n ∈ ct_sup, Bundle.fit n = true := by decide +kernel
theorem kl_IOE : Cond.classLink R_H 93 R_IOE ∈ ct_tb := ct_in (i := 368) (by decide +kernel) rfl
theorem kn_IOE : Cond.initialized R_IOE ∈ ct_tb := ct_in (i := 37) (by decide +kernel) rfl
