section
-- ===== PART A: goes FIRST, ahead of the names: the tables' words, and 'selects' of the private methods out of them =====
/-- a private method of a class that the tables say can be made, by its rows of tables_1 -/
def lw_okq (q : MethodName × Nat) : Prop := (q.1.cls ≠ "java/lang/invoke/MethodHandle" ∧ q.1.cls ≠ "java/lang/invoke/VarHandle") ∧ Cond.instantiable q.1.cls q.2 ∈ tables_1 ∧ Cond.privateMethod q.1 ∈ tables_1 ∧ Cond.instanceMethod q.1 ∈ tables_1
theorem lw_p0 : lw_okq (⟨"ContractHouse", "forgetPlan", "()V"⟩, 12) := ⟨⟨by decide +kernel, by decide +kernel⟩, List.mem_of_getElem? (i := 18) (by decide +kernel), List.mem_of_getElem? (i := 131) (by decide +kernel), List.mem_of_getElem? (i := 132) (by decide +kernel)⟩
theorem lw_p1 : lw_okq (⟨"ContractHouse", "makePlan", "()V"⟩, 12) := ⟨⟨by decide +kernel, by decide +kernel⟩, List.mem_of_getElem? (i := 18) (by decide +kernel), List.mem_of_getElem? (i := 139) (by decide +kernel), List.mem_of_getElem? (i := 140) (by decide +kernel)⟩
theorem lw_p2 : lw_okq (⟨"ContractHouse$Plan", "noteLabels", "([II)V"⟩, 6) := ⟨⟨by decide +kernel, by decide +kernel⟩, List.mem_of_getElem? (i := 37) (by decide +kernel), List.mem_of_getElem? (i := 147) (by decide +kernel), List.mem_of_getElem? (i := 148) (by decide +kernel)⟩
theorem lw_p3 : lw_okq (⟨"ContractHouse$Plan", "noteLeaves", "(III)V"⟩, 6) := ⟨⟨by decide +kernel, by decide +kernel⟩, List.mem_of_getElem? (i := 37) (by decide +kernel), List.mem_of_getElem? (i := 151) (by decide +kernel), List.mem_of_getElem? (i := 152) (by decide +kernel)⟩
theorem lw_p4 : lw_okq (⟨"ContractHouse$Plan", "choosePart", "(I)V"⟩, 6) := ⟨⟨by decide +kernel, by decide +kernel⟩, List.mem_of_getElem? (i := 37) (by decide +kernel), List.mem_of_getElem? (i := 158) (by decide +kernel), List.mem_of_getElem? (i := 159) (by decide +kernel)⟩
theorem lw_p5 : lw_okq (⟨"ContractHouse$Plan", "listSteps", "(II)V"⟩, 6) := ⟨⟨by decide +kernel, by decide +kernel⟩, List.mem_of_getElem? (i := 37) (by decide +kernel), List.mem_of_getElem? (i := 174) (by decide +kernel), List.mem_of_getElem? (i := 175) (by decide +kernel)⟩
theorem lw_p6 : lw_okq (⟨"ContractHouse", "allOperands", "()I"⟩, 12) := ⟨⟨by decide +kernel, by decide +kernel⟩, List.mem_of_getElem? (i := 18) (by decide +kernel), List.mem_of_getElem? (i := 184) (by decide +kernel), List.mem_of_getElem? (i := 185) (by decide +kernel)⟩
theorem lw_p7 : lw_okq (⟨"java/lang/Throwable", "fillInStackTrace", "(I)Ljava/lang/Throwable;"⟩, 6) := ⟨⟨by decide +kernel, by decide +kernel⟩, List.mem_of_getElem? (i := 240) (by decide +kernel), List.mem_of_getElem? (i := 238) (by decide +kernel), List.mem_of_getElem? (i := 239) (by decide +kernel)⟩
theorem lw_p8 : lw_okq (⟨"ContractHouse", "aTableHas", "(I)Z"⟩, 12) := ⟨⟨by decide +kernel, by decide +kernel⟩, List.mem_of_getElem? (i := 18) (by decide +kernel), List.mem_of_getElem? (i := 271) (by decide +kernel), List.mem_of_getElem? (i := 272) (by decide +kernel)⟩
theorem lw_p9 : lw_okq (⟨"ContractHouse", "isTable", "(I)Z"⟩, 12) := ⟨⟨by decide +kernel, by decide +kernel⟩, List.mem_of_getElem? (i := 18) (by decide +kernel), List.mem_of_getElem? (i := 340) (by decide +kernel), List.mem_of_getElem? (i := 341) (by decide +kernel)⟩
theorem lw_p10 : lw_okq (⟨"ContractHouse", "countSteps", "()I"⟩, 12) := ⟨⟨by decide +kernel, by decide +kernel⟩, List.mem_of_getElem? (i := 18) (by decide +kernel), List.mem_of_getElem? (i := 398) (by decide +kernel), List.mem_of_getElem? (i := 399) (by decide +kernel)⟩
theorem lw_p11 : lw_okq (⟨"ContractHouse", "sumAlone", "()V"⟩, 12) := ⟨⟨by decide +kernel, by decide +kernel⟩, List.mem_of_getElem? (i := 18) (by decide +kernel), List.mem_of_getElem? (i := 421) (by decide +kernel), List.mem_of_getElem? (i := 422) (by decide +kernel)⟩
theorem lw_p12 : lw_okq (⟨"ContractHouse$Row", "layOut", "(III)I"⟩, 7) := ⟨⟨by decide +kernel, by decide +kernel⟩, List.mem_of_getElem? (i := 62) (by decide +kernel), List.mem_of_getElem? (i := 430) (by decide +kernel), List.mem_of_getElem? (i := 431) (by decide +kernel)⟩
theorem lw_p13 : lw_okq (⟨"ContractHouse", "followPlan", "()V"⟩, 12) := ⟨⟨by decide +kernel, by decide +kernel⟩, List.mem_of_getElem? (i := 18) (by decide +kernel), List.mem_of_getElem? (i := 443) (by decide +kernel), List.mem_of_getElem? (i := 444) (by decide +kernel)⟩
theorem lw_p14 : lw_okq (⟨"ContractHouse", "joinParts", "(III)V"⟩, 12) := ⟨⟨by decide +kernel, by decide +kernel⟩, List.mem_of_getElem? (i := 18) (by decide +kernel), List.mem_of_getElem? (i := 474) (by decide +kernel), List.mem_of_getElem? (i := 475) (by decide +kernel)⟩
theorem lw_p15 : lw_okq (⟨"ContractHouseModel", "refuse", "(ZZ)Z"⟩, 14) := ⟨⟨by decide +kernel, by decide +kernel⟩, List.mem_of_getElem? (i := 489) (by decide +kernel), List.mem_of_getElem? (i := 549) (by decide +kernel), List.mem_of_getElem? (i := 550) (by decide +kernel)⟩
def lw_privs_1 : List (MethodName × Nat) := [(⟨"ContractHouse", "forgetPlan", "()V"⟩, 12), (⟨"ContractHouse", "makePlan", "()V"⟩, 12), (⟨"ContractHouse$Plan", "noteLabels", "([II)V"⟩, 6), (⟨"ContractHouse$Plan", "noteLeaves", "(III)V"⟩, 6), (⟨"ContractHouse$Plan", "choosePart", "(I)V"⟩, 6), (⟨"ContractHouse$Plan", "listSteps", "(II)V"⟩, 6), (⟨"ContractHouse", "allOperands", "()I"⟩, 12), (⟨"java/lang/Throwable", "fillInStackTrace", "(I)Ljava/lang/Throwable;"⟩, 6), (⟨"ContractHouse", "aTableHas", "(I)Z"⟩, 12), (⟨"ContractHouse", "isTable", "(I)Z"⟩, 12), (⟨"ContractHouse", "countSteps", "()I"⟩, 12), (⟨"ContractHouse", "sumAlone", "()V"⟩, 12), (⟨"ContractHouse$Row", "layOut", "(III)I"⟩, 7), (⟨"ContractHouse", "followPlan", "()V"⟩, 12), (⟨"ContractHouse", "joinParts", "(III)V"⟩, 12), (⟨"ContractHouseModel", "refuse", "(ZZ)Z"⟩, 14)]
theorem lw_r1 : ∀ q ∈ lw_privs_1, lw_okq q := List.forall_mem_cons.mpr ⟨lw_p0, List.forall_mem_cons.mpr ⟨lw_p1, List.forall_mem_cons.mpr ⟨lw_p2, List.forall_mem_cons.mpr ⟨lw_p3, List.forall_mem_cons.mpr ⟨lw_p4, List.forall_mem_cons.mpr ⟨lw_p5, List.forall_mem_cons.mpr ⟨lw_p6, List.forall_mem_cons.mpr ⟨lw_p7, List.forall_mem_cons.mpr ⟨lw_p8, List.forall_mem_cons.mpr ⟨lw_p9, List.forall_mem_cons.mpr ⟨lw_p10, List.forall_mem_cons.mpr ⟨lw_p11, List.forall_mem_cons.mpr ⟨lw_p12, List.forall_mem_cons.mpr ⟨lw_p13, List.forall_mem_cons.mpr ⟨lw_p14, List.forall_mem_cons.mpr ⟨lw_p15, fun _ h => absurd h List.not_mem_nil⟩⟩⟩⟩⟩⟩⟩⟩⟩⟩⟩⟩⟩⟩⟩⟩
theorem lw_p16 : lw_okq (⟨"ContractHouseModel", "isTable", "(I)Z"⟩, 14) := ⟨⟨by decide +kernel, by decide +kernel⟩, List.mem_of_getElem? (i := 489) (by decide +kernel), List.mem_of_getElem? (i := 564) (by decide +kernel), List.mem_of_getElem? (i := 565) (by decide +kernel)⟩
theorem lw_p17 : lw_okq (⟨"ContractHouseModel", "product", "(I)I"⟩, 14) := ⟨⟨by decide +kernel, by decide +kernel⟩, List.mem_of_getElem? (i := 489) (by decide +kernel), List.mem_of_getElem? (i := 568) (by decide +kernel), List.mem_of_getElem? (i := 569) (by decide +kernel)⟩
theorem lw_p18 : lw_okq (⟨"ContractHouseModel", "plan", "()V"⟩, 14) := ⟨⟨by decide +kernel, by decide +kernel⟩, List.mem_of_getElem? (i := 489) (by decide +kernel), List.mem_of_getElem? (i := 592) (by decide +kernel), List.mem_of_getElem? (i := 593) (by decide +kernel)⟩
theorem lw_p19 : lw_okq (⟨"ContractHouseModel", "joins", "(II)I"⟩, 14) := ⟨⟨by decide +kernel, by decide +kernel⟩, List.mem_of_getElem? (i := 489) (by decide +kernel), List.mem_of_getElem? (i := 596) (by decide +kernel), List.mem_of_getElem? (i := 597) (by decide +kernel)⟩
theorem lw_p20 : lw_okq (⟨"ContractHouseModel", "leaves", "(I)I"⟩, 14) := ⟨⟨by decide +kernel, by decide +kernel⟩, List.mem_of_getElem? (i := 489) (by decide +kernel), List.mem_of_getElem? (i := 600) (by decide +kernel), List.mem_of_getElem? (i := 601) (by decide +kernel)⟩
theorem lw_p21 : lw_okq (⟨"ContractHouseModel", "has", "(I)I"⟩, 14) := ⟨⟨by decide +kernel, by decide +kernel⟩, List.mem_of_getElem? (i := 489) (by decide +kernel), List.mem_of_getElem? (i := 604) (by decide +kernel), List.mem_of_getElem? (i := 605) (by decide +kernel)⟩
theorem lw_p22 : lw_okq (⟨"ContractHouseModel", "list", "()V"⟩, 14) := ⟨⟨by decide +kernel, by decide +kernel⟩, List.mem_of_getElem? (i := 489) (by decide +kernel), List.mem_of_getElem? (i := 612) (by decide +kernel), List.mem_of_getElem? (i := 613) (by decide +kernel)⟩
theorem lw_p23 : lw_okq (⟨"ContractHouseModel", "at", "(I)I"⟩, 14) := ⟨⟨by decide +kernel, by decide +kernel⟩, List.mem_of_getElem? (i := 489) (by decide +kernel), List.mem_of_getElem? (i := 620) (by decide +kernel), List.mem_of_getElem? (i := 621) (by decide +kernel)⟩
theorem lw_p24 : lw_okq (⟨"ContractHouseModel", "next", "(I)Z"⟩, 14) := ⟨⟨by decide +kernel, by decide +kernel⟩, List.mem_of_getElem? (i := 489) (by decide +kernel), List.mem_of_getElem? (i := 624) (by decide +kernel), List.mem_of_getElem? (i := 625) (by decide +kernel)⟩
def lw_privs_2 : List (MethodName × Nat) := [(⟨"ContractHouseModel", "isTable", "(I)Z"⟩, 14), (⟨"ContractHouseModel", "product", "(I)I"⟩, 14), (⟨"ContractHouseModel", "plan", "()V"⟩, 14), (⟨"ContractHouseModel", "joins", "(II)I"⟩, 14), (⟨"ContractHouseModel", "leaves", "(I)I"⟩, 14), (⟨"ContractHouseModel", "has", "(I)I"⟩, 14), (⟨"ContractHouseModel", "list", "()V"⟩, 14), (⟨"ContractHouseModel", "at", "(I)I"⟩, 14), (⟨"ContractHouseModel", "next", "(I)Z"⟩, 14)]
theorem lw_r2 : ∀ q ∈ lw_privs_2, lw_okq q := List.forall_mem_cons.mpr ⟨lw_p16, List.forall_mem_cons.mpr ⟨lw_p17, List.forall_mem_cons.mpr ⟨lw_p18, List.forall_mem_cons.mpr ⟨lw_p19, List.forall_mem_cons.mpr ⟨lw_p20, List.forall_mem_cons.mpr ⟨lw_p21, List.forall_mem_cons.mpr ⟨lw_p22, List.forall_mem_cons.mpr ⟨lw_p23, List.forall_mem_cons.mpr ⟨lw_p24, fun _ h => absurd h List.not_mem_nil⟩⟩⟩⟩⟩⟩⟩⟩⟩
def lw_privs : List (MethodName × Nat) := lw_privs_1 ++ (lw_privs_2)
def lw_tbl : List Cond := k2_sels lw_privs ++ tables_1
theorem lw_privs_ok : ∀ q ∈ lw_privs, lw_okq q := by
  show ∀ q ∈ lw_privs_1 ++ (lw_privs_2), lw_okq q
  exact List.forall_mem_append.mpr ⟨lw_r1, lw_r2⟩
/-! ===== BEGIN words of one list among another's, by their places ===== -/
theorem goodIn_r {big : List Cond} (ws : List Cond) (ps : List Nat) (hp : ws = ps.filterMap (fun i => big[i]?)) (h : ws.all goodWord = true) : GoodIn big ws := by
  intro w hw
  have h1 := List.all_eq_true.mp h w hw
  rw [hp] at hw
  obtain ⟨i, -, hi⟩ := List.mem_filterMap.mp hw
  have hm : w ∈ big := by first | exact List.mem_of_getElem? hi | exact List.getElem?_mem hi
  exact ⟨hm, good_of_word h1⟩
theorem goodIn_app {big a b : List Cond} (ha : GoodIn big a) (hb : GoodIn big b) : GoodIn big (a ++ b) := fun w h => (List.mem_append.mp h).elim (ha w) (hb w)
theorem goodIn_ca {big a b : List Cond} {c : Cond} (ha : GoodIn big (c :: a)) (hb : GoodIn big b) : GoodIn big (c :: (a ++ b)) := fun w h => (List.mem_cons.mp h).elim (fun e => ha w (List.mem_cons.mpr (Or.inl e))) (fun h => (List.mem_append.mp h).elim (fun h => ha w (List.mem_cons.mpr (Or.inr h))) (hb w))
theorem goodIn_sub {big ws : List Cond} (hm : ∀ w ∈ ws, w ∈ big) (h : ws.all goodWord = true) : GoodIn big ws := fun w hw => ⟨hm w hw, good_of_word (List.all_eq_true.mp h w hw)⟩
/-! ===== END ===== -/

/-! ===== BEGIN exceptions that leave a method, and their catching by the caller (launches without stack traces) ===== -/
section VXA
/-! The laws vx_back, vx_callV, vx_callS, vx_callSW, vx_throw0, vx_throwS follow proofs of the library, with one case more: JvmDerived/Free/Laws.lean (Back.of_free), Shelf42/LK1.lean (callV, callS), Shelf/KitTraced.lean (throwNew0V, throwNewS). -/
/-- where a method has thrown q: the class by its name, the cell, what was written, the world -/
def vx_T (XC : String → State → State → Prop) (st : State) (q : Addr) (t : State) (mc ms : Nat) (free : Addr → Prop) : Prop :=
  ∃ (E : String) (ce : Cell) (L : List Loc), XC E st t ∧ t.heap[q]? = some ce ∧ ce.vm = .none ∧ st.vm.findClass E = some ce.cls ∧ st.WarmedH t.vm ∧ st.sameButNew ({ t with vm := st.vm } : State) L mc ms ∧ ∀ z ∈ L, free z.base
def vx_Q (Qc : Array Value → State → Outcome → State → Prop) (XC : String → State → State → Prop) (mc ms : Nat) (free : Addr → Prop) : Array Value → State → Outcome → State → Prop := fun a st o t =>
  (Qc a st o t ∧ ∃ L, FrameEnd st o t L mc ms ∧ ∀ q ∈ L, free q.base) ∨ ∃ q, o = .threw q ∧ vx_T XC st q t mc ms free
/-- a callee that returns or throws -/
def vx_Met (l : Launch) (y : MethodName) (ws : List Cond) (rm : Room) (Pc : Array Value → State → Prop) (Qc : Array Value → State → Outcome → State → Prop) (XC : String → State → State → Prop) (mc ms : Nat) (free : Addr → Prop) : Prop :=
  MetFree l y (headSpec ws rm) Pc (fun _ _ _ _ _ => True) (vx_Q Qc XC mc ms free)
def vx_Post (XC : String → State → State → Prop) (mc ms : Nat) (free : Addr → Prop) : Pt → Array Value → Addr → Pt → Prop := fun A a q B =>
  ∃ (g : JFrame) (mk : MethodId) (t : State) (L : List Loc) (E : String) (ce : Cell), B.U.heap = t.heap ∧ B.U.vm = t.vm ∧ XC E (A.U.calling g mk a) t ∧ t.heap[q]? = some ce ∧ ce.vm = .none ∧ A.U.vm.findClass E = some ce.cls ∧ B.locs = A.locs ++ L ∧ (∀ z ∈ L, free z.base) ∧ B.cells = A.cells + mc ∧ B.slots = A.slots + ms
def vx_Back (l : Launch) (R : Room) (p : Program) (e : Env) (below : List Frame) (s : State) (sargs : Array Value) (y : MethodName) (len W9 : Nat)
    (Pre : Pt → Array Value → Prop) (Post : Pt → Array Value → Option Value → Pt → Prop) (PostX : Pt → Array Value → Addr → Pt → Prop) : Prop :=
  ∀ (m : MethodId) (meth : Method) (c : Code) (A : Pt) (g : JFrame) (ig : Instr) (mk : MethodId) (a : Array Value),
    Stand p l e R s m sargs below meth c A.U A.locs A.cells A.slots → g.method = m → g.locals.size = c.maxLocals → decode c.code g.pc = .ok (ig, len) →
    2 * g.monitorRoom + (g.stack.map fun v => v.category).sum ≤ W9 → A.U.methodNamed? y = some mk → Pre A a →
    (∃ (v : Option Value) (B : Pt), Stand p l e R s m sargs below meth c B.U B.locs B.cells B.slots ∧ Post A a v B ∧
      Steps p.tables e below (doInvoke e (A.U.setTop g) [] mk a).1 (B.U.setTop { g with pc := g.pc + len, stack := v.toList ++ g.stack })) ∨
    (∃ (q : Addr) (B : Pt), Stand p l e R s m sargs below meth c B.U B.locs B.cells B.slots ∧ PostX A a q B ∧
      Steps p.tables e below (doInvoke e (A.U.setTop g) [] mk a).1 ((B.U.setTop g).pushFrame (.throwing q)))
section Payer
variable {l : Launch} {R : Room} {p : Program} {e : Env} {below : List Frame} {s : State} {sargs : Array Value} {y : MethodName} {len W9 : Nat}
theorem vx_back {ws : List Cond} {rm : Room} {Pc : Array Value → State → Prop} {Qc : Array Value → State → Outcome → State → Prop} {XC : String → State → State → Prop} {mc ms : Nat} {free : Addr → Prop} {bytes : ByteArray} {maxL : Nat} {ret : Option FieldType}
    (hM : vx_Met l y ws rm Pc Qc XC mc ms free) (hblind : FrameBlind Pc) (hrc : rm.cells = mc) (hrs : rm.slots = ms)
    (hframes : rm.frames + 1 ≤ R.frames) (hlocals : W9 + (maxL + 11) + rm.locals ≤ R.locals)
    (hws : ∀ w ∈ ws, ∀ a' U, s.WarmedH U.vm → w.before a' U = true) (hcode : Cond.code y bytes maxL ret ∈ ws) (hinit : ∀ a' U, s.WarmedH U.vm → (Cond.initialized y.cls).before a' U = true) :
    vx_Back l R p e below s sargs y len W9 (PreOf R mc ms Pc) (PostOf Qc mc ms free) (vx_Post XC mc ms free) := by
  intro m meth c A g ig mk a X hg hsize hdg hW hn hp
  have h1 : (headSpec ws rm).pre.before a A.U = true := atoms_intro fun w hw => hws w hw _ _ X.warmed
  have h2 : (Cond.code y bytes maxL ret).before a A.U = true := hws _ hcode _ _ X.warmed
  have h3 : (Cond.initialized y.cls).before a A.U = true := hinit _ _ X.warmed
  have h4 : A.cells + (headSpec ws rm).room.cells ≤ R.cells := by rw [show (headSpec ws rm).room.cells = mc from hrc]; exact hp.1
  have h5 : A.slots + (headSpec ws rm).room.slots ≤ R.slots := by rw [show (headSpec ws rm).room.slots = ms from hrs]; exact hp.2.1
  have hPc : Pc a (A.U.calling g mk a) := hblind _ _ _ _ hp.2.2
  obtain ⟨U, Ls, c0, s0⟩ := A
  dsimp only [Pt.U, Pt.locs, Pt.cells, Pt.slots] at h1 h2 h3 h4 h5 X hn hPc ⊢
  obtain ⟨methY, cY, hmY, hcY, -, hlY, -, -, -, -⟩ := Cond.code_spec hn h2
  obtain ⟨kY, hkY, -⟩ := className_of_methodNamed hn
  have hinitY : kY.init = .initialized := Cond.initialized_spec (findClass_of_methodNamed hn) hkY h3
  have h : At U g.method c below := by rw [hg]; exact X.here
  have hlocals9 : W9 + (maxL + 11) + (headSpec ws rm).room.locals ≤ R.locals := hlocals
  have happ : (headSpec ws rm).appliesLoose y e.platform (U.calling g mk a) = true :=
    Spec.appliesLoose_calling (g := g) h hdg hn hkY hinitY
      (X.room_calling (g := g) (R' := (headSpec ws rm).room) hsize hmY hcY hframes (by rw [hlY]; omega) h4 h5) h1
  obtain ⟨mid, hmid⟩ := h.above
  have hfr : (U.setTop g).frames = (.java g :: mid) ++ below := by rw [State.frames_setTop' g h.top, hmid]; rfl
  obtain ⟨o, s₂, hsteps, -, hend, hq⟩ := Steps.callFree hM p X.admits X.cas X.clock (acts := []) hfr happ hPc trivial
  have hq' : vx_Q Qc XC mc ms free a (U.calling g mk a) o s₂ := hq
  rw [State.frames_setTop' g h.top] at hend
  obtain ⟨g₀, hg0⟩ := Option.isSome_iff_exists.mp h.top
  obtain ⟨r, hr⟩ := State.topJava?_eq_some.mp hg0
  have hr' : (({ U with heap := s₂.heap, slotsUsed := s₂.slotsUsed } : State).setVm s₂.vm).frames = .java g₀ :: r := hr
  rcases hq' with ⟨hqc, L, hfe, hL⟩ | ⟨q, rfl, E, ce, L, hx, hce, hcv, hcl, hW₂, hsm, hL⟩
  · obtain ⟨⟨v, rfl⟩, hW₂, e2, q2, q3, q4, q5, q6⟩ := id hfe
    have e3 : s₂ = ({ (U.calling g mk a).setFrames s₂.frames with heap := s₂.heap, slotsUsed := s₂.slotsUsed } : State).setVm s₂.vm := by
      have : s₂ = ({ s₂ with vm := (U.calling g mk a).vm } : State).setVm s₂.vm := rfl
      rw [e2] at this
      exact this
    obtain ⟨c₂, i₂, len₂, hc₂, hd₂, hf₂⟩ := hend
    have hW' : U.WarmedH s₂.vm := hW₂
    have hcc : c₂ = c := by
      have h1 : s₂.code? g.method = U.code? g.method := by
        rw [State.code?_eq, State.code?_eq, hW'.alike.method?]
      exact Option.some.inj (hc₂.symm.trans (h1.trans h.code))
    subst hcc
    have hlen : len₂ = len := by rw [hdg] at hd₂; cases hd₂; rfl
    subst hlen
    have hs₂ : s₂ = (({ U with heap := s₂.heap, slotsUsed := s₂.slotsUsed } : State).setVm s₂.vm).setTop { g with pc := g.pc + len₂, stack := v.toList ++ g.stack } := by
      refine e3.trans ?_
      rw [hf₂, State.calling_eq h.top, State.setFrames_setFrames, State.setTop_of_frames _ hr', hr]
      rfl
    have hsame : U.sameButNew ({ U with heap := s₂.heap, slotsUsed := s₂.slotsUsed } : State) L mc ms := by
      refine ⟨?_, q2, q3, q4, q5, q6⟩
      obtain ⟨t, ht, -⟩ := State.frames_cons hr
      show ({ U with heap := s₂.heap, slotsUsed := s₂.slotsUsed } : State) = { U.setFrames U.frames with heap := s₂.heap, slotsUsed := s₂.slotsUsed }
      rw [State.setFrames_self ht]
    subst hg
    refine Or.inl ⟨v, ⟨(({ U with heap := s₂.heap, slotsUsed := s₂.slotsUsed } : State).setVm s₂.vm), Ls ++ L, c0 + mc, s0 + ms⟩,
      ⟨X.admits, X.cas, X.clock, X.frames, X.room, X.hears, X.method, X.code, (X.here.setHeapUsed s₂.heap s₂.slotsUsed).setVm hW'.alike, X.tail, State.WarmedH.trans X.warmed hW', X.limits, X.bytes, X.same.trans (hsame.setVm s.vm)⟩,
      ⟨g, mk, s₂, L, rfl, rfl, hqc, rfl, hL, rfl, rfl⟩, ?_⟩
    show Steps p.tables e below _ ((({ U with heap := s₂.heap, slotsUsed := s₂.slotsUsed } : State).setVm s₂.vm).setTop { g with pc := g.pc + len₂, stack := v.toList ++ g.stack })
    rw [← hs₂]
    exact hsteps
  · obtain ⟨e2, q2, q3, q4, q5, q6⟩ := id hsm
    have e3 : s₂ = ({ (U.calling g mk a).setFrames s₂.frames with heap := s₂.heap, slotsUsed := s₂.slotsUsed } : State).setVm s₂.vm := by
      have : s₂ = ({ s₂ with vm := (U.calling g mk a).vm } : State).setVm s₂.vm := rfl
      rw [e2] at this
      exact this
    have hf₂ : s₂.frames = .throwing q :: .java g :: U.frames.tail := hend
    have hW' : U.WarmedH s₂.vm := hW₂
    have hs₂ : s₂ = ((({ U with heap := s₂.heap, slotsUsed := s₂.slotsUsed } : State).setVm s₂.vm).setTop g).pushFrame (.throwing q) := by
      refine e3.trans ?_
      rw [hf₂, State.calling_eq h.top, State.setFrames_setFrames, State.pushFrame, State.frames_setTop _ hr', State.setTop_of_frames _ hr', State.setFrames_setFrames, hr]
      rfl
    have hsame : U.sameButNew ({ U with heap := s₂.heap, slotsUsed := s₂.slotsUsed } : State) L mc ms := by
      refine ⟨?_, q2, q3, q4, q5, q6⟩
      obtain ⟨t, ht, -⟩ := State.frames_cons hr
      show ({ U with heap := s₂.heap, slotsUsed := s₂.slotsUsed } : State) = { U.setFrames U.frames with heap := s₂.heap, slotsUsed := s₂.slotsUsed }
      rw [State.setFrames_self ht]
    subst hg
    refine Or.inr ⟨q, ⟨(({ U with heap := s₂.heap, slotsUsed := s₂.slotsUsed } : State).setVm s₂.vm), Ls ++ L, c0 + mc, s0 + ms⟩,
      ⟨X.admits, X.cas, X.clock, X.frames, X.room, X.hears, X.method, X.code, (X.here.setHeapUsed s₂.heap s₂.slotsUsed).setVm hW'.alike, X.tail, State.WarmedH.trans X.warmed hW', X.limits, X.bytes, X.same.trans (hsame.setVm s.vm)⟩,
      ⟨g, mk, s₂, L, E, ce, rfl, rfl, hx, hce, hcv, hcl, rfl, hL, rfl, rfl⟩, ?_⟩
    show Steps p.tables e below _ (((({ U with heap := s₂.heap, slotsUsed := s₂.slotsUsed } : State).setVm s₂.vm).setTop g).pushFrame (.throwing q))
    rw [← hs₂]
    exact hsteps
end Payer
section Calls
variable {p : Program} {l : Launch} {e : Env} {R : Room} {s : State} {m : MethodId} {args : Array Value} {below : List Frame} {meth : Method} {c : Code} {T : State} {locs : List Loc} {cells slots : Nat}
theorem vx_callV (X : Stand p l e R s m args below meth c T locs cells slots) (hexec : p.tables.exec = Jvm.exec) {own C : String} {index : Nat} {y : MethodName} {bytes : ByteArray} {maxL : Nat} {ret : Option FieldType}
    (hown : s.vm.findClass own = some m.cls) (hlink : (Cond.methodLink own index y).before args s = true) (hinst : (Cond.instanceMethod y).before args s = true) (hsel : (Cond.selects C y y).before args s = true)
    (hcode : (Cond.code y bytes maxL ret).before args s = true) (hy : y.cls ≠ "java/lang/invoke/MethodHandle" ∧ y.cls ≠ "java/lang/invoke/VarHandle")
    {W9 : Nat} {Pre : Pt → Array Value → Prop} {Post : Pt → Array Value → Option Value → Pt → Prop} {PostX : Pt → Array Value → Addr → Pt → Prop} (hK : vx_Back l R p e below s args y 3 W9 Pre Post PostX)
    {b : Addr} {cellB : Cell} (hcell : T.heap[b]? = some cellB) (hobj : cellB.vm.isStatics = false) (hcls : s.vm.findClass C = some cellB.cls)
    {g : JFrame} (hg : g.method = m) (hsize : g.locals.size = c.maxLocals) {argsL rest : List Value} (hlen : ∀ sig, parseMethodDescriptor y.desc = some sig → argsL.length = sig.parameters.length)
    (hstack : g.stack = argsL.reverse ++ .ref b :: rest) (hW : 2 * g.monitorRoom + (rest.map fun v => v.category).sum ≤ W9) (hdg : decode c.code g.pc = .ok (.invokevirtual index, 3))
    (hpre : ∀ vm₁, s.WarmedH vm₁ → Pre ⟨T.setVm vm₁, locs, cells, slots⟩ (Value.ref b :: argsL).toArray) :
    (∃ (v : Option Value) (vm₁ : Vm) (B : Pt), s.WarmedH vm₁ ∧ Stand p l e R s m args below meth c B.U B.locs B.cells B.slots ∧ Post ⟨T.setVm vm₁, locs, cells, slots⟩ (Value.ref b :: argsL).toArray v B ∧
      ∀ target, Steps p.tables e below (B.U.setTop { g with pc := g.pc + 3, stack := v.toList ++ rest }) target → Steps p.tables e below (T.setTop g) target) ∨
    (∃ (q : Addr) (vm₁ : Vm) (B : Pt), s.WarmedH vm₁ ∧ Stand p l e R s m args below meth c B.U B.locs B.cells B.slots ∧ PostX ⟨T.setVm vm₁, locs, cells, slots⟩ (Value.ref b :: argsL).toArray q B ∧
      Steps p.tables e below (T.setTop g) ((B.U.setTop { g with stack := rest }).pushFrame (.throwing q))) := by
  obtain ⟨mk, methM, hnamed, hmethM, hstM, habM⟩ := Cond.instanceMethod_spec hinst
  obtain ⟨methM', cM, hmethM', -, -, -, -, -, -, hsigM⟩ := Cond.code_spec hnamed hcode
  cases hmethM.symm.trans hmethM'
  obtain ⟨c2, r2, m2, q1, q2, q3, q4, kP, hkP, hkPi⟩ := Cond.selects_spec hsel
  cases hcls.symm.trans q1
  cases (State.methodFound?_of_named hnamed hy).symm.trans q2
  cases hnamed.symm.trans q3
  have hselP : selectMethod e.platform s.vm cellB.cls mk = .method mk := by rw [Launch.admits_selectMethod X.admits]; exact q4
  obtain ⟨vm₁, X₁, hstep₁⟩ := X.invokevirtual hexec hown hlink hnamed hmethM hstM hkP hkPi hy (a := b) (cell := cellB) hcell
    (fun z h => by rw [h] at hobj; cases hobj) hselP hmethM habM hkP hkPi (g := g) hg (argsL := argsL) (rest := rest) (hlen _ hsigM) hstack hdg
  rcases hK m meth c ⟨T.setVm vm₁, locs, cells, slots⟩ { g with stack := rest } (.invokevirtual index) mk (Value.ref b :: argsL).toArray X₁ hg hsize hdg hW (X₁.named hnamed) (hpre vm₁ X₁.warmed) with ⟨v, B, X', hpost, hsteps⟩ | ⟨q, B, X', hpost, hsteps⟩
  · exact Or.inl ⟨v, vm₁, B, X₁.warmed, X', hpost, fun target h => hstep₁ _ fun acts => by rw [doInvoke_state]; exact hsteps.trans h⟩
  · exact Or.inr ⟨q, vm₁, B, X₁.warmed, X', hpost, hstep₁ _ fun acts => by rw [doInvoke_state]; exact hsteps⟩
theorem vx_callS (X : Stand p l e R s m args below meth c T locs cells slots) (hexec : p.tables.exec = Jvm.exec) {own : String} {index : Nat} {y : MethodName} {bytes : ByteArray} {maxL : Nat} {ret : Option FieldType}
    (hown : s.vm.findClass own = some m.cls) (hlink : (Cond.methodLink own index y).before args s = true) (hstat : (Cond.static y).before args s = true) (hinit : (Cond.initialized y.cls).before args s = true)
    (hcode : (Cond.code y bytes maxL ret).before args s = true) (hy : y.cls ≠ "java/lang/invoke/MethodHandle" ∧ y.cls ≠ "java/lang/invoke/VarHandle")
    {W9 : Nat} {Pre : Pt → Array Value → Prop} {Post : Pt → Array Value → Option Value → Pt → Prop} {PostX : Pt → Array Value → Addr → Pt → Prop} (hK : vx_Back l R p e below s args y 3 W9 Pre Post PostX)
    {g : JFrame} (hg : g.method = m) (hsize : g.locals.size = c.maxLocals) {argsL rest : List Value} (hlen : ∀ sig, parseMethodDescriptor y.desc = some sig → argsL.length = sig.parameters.length)
    (hstack : g.stack = argsL.reverse ++ rest) (hW : 2 * g.monitorRoom + (rest.map fun v => v.category).sum ≤ W9) (hdg : decode c.code g.pc = .ok (.invokestatic index, 3))
    (hpre : ∀ vm₁, s.WarmedH vm₁ → Pre ⟨T.setVm vm₁, locs, cells, slots⟩ argsL.toArray) :
    (∃ (v : Option Value) (vm₁ : Vm) (B : Pt), s.WarmedH vm₁ ∧ Stand p l e R s m args below meth c B.U B.locs B.cells B.slots ∧ Post ⟨T.setVm vm₁, locs, cells, slots⟩ argsL.toArray v B ∧
      ∀ target, Steps p.tables e below (B.U.setTop { g with pc := g.pc + 3, stack := v.toList ++ rest }) target → Steps p.tables e below (T.setTop g) target) ∨
    (∃ (q : Addr) (vm₁ : Vm) (B : Pt), s.WarmedH vm₁ ∧ Stand p l e R s m args below meth c B.U B.locs B.cells B.slots ∧ PostX ⟨T.setVm vm₁, locs, cells, slots⟩ argsL.toArray q B ∧
      Steps p.tables e below (T.setTop g) ((B.U.setTop { g with stack := rest }).pushFrame (.throwing q))) := by
  obtain ⟨mk, hnamed⟩ := Cond.code_named hcode
  obtain ⟨methM, cM, hmethM, -, -, -, -, -, -, hsigM⟩ := Cond.code_spec hnamed hcode
  have hstatic : methM.isStatic = true := Cond.static_spec hnamed hmethM hstat
  obtain ⟨kP, hkP, -⟩ := className_of_methodNamed hnamed
  have hinitP : kP.init = .initialized := Cond.initialized_spec (findClass_of_methodNamed hnamed) hkP hinit
  obtain ⟨vm₁, X₁, hstep₁⟩ := X.invokestatic hexec hown hlink hnamed hmethM hstatic hkP hinitP hy (g := g) hg (argsL := argsL) (rest := rest) (hlen _ hsigM) hstack hdg
  rcases hK m meth c ⟨T.setVm vm₁, locs, cells, slots⟩ { g with stack := rest } (.invokestatic index) mk argsL.toArray X₁ hg hsize hdg hW (X₁.named hnamed) (hpre vm₁ X₁.warmed) with ⟨v, B, X', hpost, hsteps⟩ | ⟨q, B, X', hpost, hsteps⟩
  · exact Or.inl ⟨v, vm₁, B, X₁.warmed, X', hpost, fun target h => hstep₁ _ fun acts => by rw [doInvoke_state]; exact hsteps.trans h⟩
  · exact Or.inr ⟨q, vm₁, B, X₁.warmed, X', hpost, hstep₁ _ fun acts => by rw [doInvoke_state]; exact hsteps⟩
end Calls
theorem vx_cls {s : State} {T : State} {vm₁ : Vm} {E : String} {k : ClassId} (hW : s.WarmedH vm₁) (h : (T.setVm vm₁).vm.findClass E = some k) : s.vm.findClass E = some k := by
  have h1 : vm₁.findClass E = some k := h
  rw [hW.alike.findClass] at h1
  exact h1
/-- the method's frame g, with q thrown over it -/
def vx_W (p : Program) (l : Launch) (e : Env) (R : Room) (s : State) (m : MethodId) (args : Array Value) (below : List Frame) (meth : Method) (c : Code) (H : Heap) (locs : List Loc) (cells slots : Nat) (Q : State → Prop) (g : JFrame) (q : Addr) : Prop :=
  ∀ T : State, T.heap = H → Stand p l e R s m args below meth c T locs cells slots → ∃ t, Steps p.tables e below ((T.setTop g).pushFrame (.throwing q)) t ∧ Q t
def vx_Run (p : Program) (l : Launch) (e : Env) (R : Room) (s : State) (m : MethodId) (args : Array Value) (below : List Frame) (meth : Method) (c : Code) (H : Heap) (locs : List Loc) (cells slots mc ms : Nat) (g : JFrame) (rest : List Value) (Qa : State → Outcome → State → Prop) (XC : String → State → State → Prop) (free : Addr → Prop) : Prop :=
  ∀ T : State, T.heap = H → Stand p l e R s m args below meth c T locs cells slots →
    (∃ (v : Option Value) (st₀ t T' : State) (L : List Loc), st₀.heap = H ∧ Stand p l e R s m args below meth c T' (locs ++ L) (cells + mc) (slots + ms) ∧ (∀ q ∈ L, free q.base) ∧ T'.heap = t.heap ∧ T'.vm = t.vm ∧ Qa st₀ (.returned v) t ∧
      Goes p e below T g T' { g with pc := g.pc + 3, stack := v.toList ++ rest }) ∨
    (∃ (q : Addr) (st₀ t T' : State) (L : List Loc) (E : String) (ce : Cell), st₀.heap = H ∧ Stand p l e R s m args below meth c T' (locs ++ L) (cells + mc) (slots + ms) ∧ (∀ z ∈ L, free z.base) ∧ T'.heap = t.heap ∧ T'.vm = t.vm ∧ XC E st₀ t ∧ t.heap[q]? = some ce ∧ ce.vm = .none ∧ s.vm.findClass E = some ce.cls ∧
      Steps p.tables e below (T.setTop g) ((T'.setTop { g with stack := rest }).pushFrame (.throwing q)))
def vx_X {S : Type} (px : S → Prop) (B : String → S → State → Prop) (A : Nat → Prop) : String → State → State → Prop := fun E st t => ∃ u : S, px u ∧ B E u t ∧ va_F A st t
section Runs
variable {p : Program} {l : Launch} {e : Env} {R : Room} {s : State} {m : MethodId} {args : Array Value} {below : List Frame} {meth : Method} {c : Code} {H : Heap} {locs : List Loc} {cells slots : Nat}
variable {y : MethodName} {bytes cc : ByteArray} {maxL nL mc ms n index : Nat} {ret : Option FieldType} {ws : List Cond} {rm : Room} {Pc : Array Value → State → Prop} {Qc : Array Value → State → Outcome → State → Prop} {XC : String → State → State → Prop} {free : Addr → Prop} {Ts : List Cond} {own C : String} {b : Addr} {As rest : List Value} {g : JFrame}
theorem vx_callBack (cb : CallB R s args own index y bytes maxL ret ws rm mc ms n) (hM : vx_Met l y ws rm Pc Qc XC mc ms free) (hbl : FrameBlind Pc) : vx_Back l R p e below s args y 3 8 (PreOf R mc ms Pc) (PostOf Qc mc ms free) (vx_Post XC mc ms free) := by
  obtain ⟨hrc, hrs, hfr, hlo, hws, hcw, -, hini, -⟩ := cb
  exact vx_back (bytes := bytes) (maxL := maxL) (ret := ret) hM hbl hrc hrs hfr hlo hws hcw (fun a' U hW => word_at hW (Or.inl (by first | rfl | simp [Cond.onTables, Cond.keeps, Cond.steady])) hini)
theorem vx_runV (S : CallFix p m c cc nL s args Ts own) (hM : vx_Met l y ws rm Pc Qc XC mc ms free) (cw : CallW R s args own C index y bytes maxL ret ws rm mc ms n) (hp : PreV s H C b Pc As)
    (hg : g.method = m) (hn : As.length = n) (hsize : g.locals.size = nL) (hstack : g.stack = As.reverse ++ .ref b :: rest) (hW : 2 * g.monitorRoom + (rest.map fun v => v.category).sum ≤ 8) (hdg : decode cc g.pc = .ok (.invokevirtual index, 3)) (hf : cells + mc ≤ R.cells ∧ slots + ms ≤ R.slots) :
    vx_Run p l e R s m args below meth c H locs cells slots mc ms g rest (Qc (Value.ref b :: As).toArray) XC free := by
  have hK : vx_Back l R p e below s args y 3 8 (PreOf R mc ms Pc) (PostOf Qc mc ms free) (vx_Post XC mc ms free) := vx_callBack cw.1 hM hp.1
  obtain ⟨⟨-, -, -, -, -, -, hcode, -, hy, hlen, hl⟩, hin, hse⟩ := cw
  obtain ⟨hx, hb, hml, ho, -⟩ := S
  obtain ⟨-, ⟨cellB, hcB, hoB, hclB⟩, hPc⟩ := hp
  intro T hT X
  rcases vx_callV X hx (C := C) (bytes := bytes) (maxL := maxL) (ret := ret) ho hl hin hse hcode hy hK (by rw [hT]; exact hcB) hoB hclB hg (hsize.trans hml.symm) (argsL := As) (rest := rest) (fun sig h => hn.trans (hlen sig h)) hstack hW (by rw [hb]; exact hdg)
    (fun vm₁ hW₁ => ⟨hf.1, hf.2, hPc (T.setVm vm₁) hT hW₁⟩) with ⟨v, vm₁, ⟨U', l2, c2, s2⟩, hW₁, X', ⟨g', mk, t, L, e1, e2, hq, h1, hL, h2, h3⟩, st⟩ | ⟨q, vm₁, ⟨U', l2, c2, s2⟩, hW₁, X', ⟨g', mk, t, L, E, ce, e1, e2, hq, hce, hcv, hcl, h1, hL, h2, h3⟩, st⟩
  · dsimp only [Pt.U, Pt.locs, Pt.cells, Pt.slots] at X' e1 e2 h1 h2 h3 st
    subst h1; subst h2; subst h3
    exact Or.inl ⟨v, (T.setVm vm₁).calling g' mk (Value.ref b :: As).toArray, t, U', L, hT, X', hL, e1, e2, hq, st⟩
  · dsimp only [Pt.U, Pt.locs, Pt.cells, Pt.slots] at X' e1 e2 h1 h2 h3 st hcl
    subst h1; subst h2; subst h3
    exact Or.inr ⟨q, (T.setVm vm₁).calling g' mk (Value.ref b :: As).toArray, t, U', L, E, ce, hT, X', hL, e1, e2, hq, hce, hcv, vx_cls hW₁ hcl, st⟩
theorem vx_runS (S : CallFix p m c cc nL s args Ts own) (hM : vx_Met l y ws rm Pc Qc XC mc ms free) (cw : CallB R s args own index y bytes maxL ret ws rm mc ms n ∧ (Cond.static y).before args s = true) (hp : PreS s H Pc As)
    (hg : g.method = m) (hn : As.length = n) (hsize : g.locals.size = nL) (hstack : g.stack = As.reverse ++ rest) (hW : 2 * g.monitorRoom + (rest.map fun v => v.category).sum ≤ 8) (hdg : decode cc g.pc = .ok (.invokestatic index, 3)) (hf : cells + mc ≤ R.cells ∧ slots + ms ≤ R.slots) :
    vx_Run p l e R s m args below meth c H locs cells slots mc ms g rest (Qc As.toArray) XC free := by
  have hK : vx_Back l R p e below s args y 3 8 (PreOf R mc ms Pc) (PostOf Qc mc ms free) (vx_Post XC mc ms free) := vx_callBack cw.1 hM hp.1
  obtain ⟨⟨-, -, -, -, -, -, hcode, hini, hy, hlen, hl⟩, hstt⟩ := cw
  obtain ⟨hx, hb, hml, ho, -⟩ := S
  intro T hT X
  rcases vx_callS X hx (bytes := bytes) (maxL := maxL) (ret := ret) ho hl hstt hini hcode hy hK hg (hsize.trans hml.symm) (argsL := As) (rest := rest) (fun sig h => hn.trans (hlen sig h)) hstack hW (by rw [hb]; exact hdg)
    (fun vm₁ hW₁ => ⟨hf.1, hf.2, hp.2 (T.setVm vm₁) hT hW₁⟩) with ⟨v, vm₁, ⟨U', l2, c2, s2⟩, hW₁, X', ⟨g', mk, t, L, e1, e2, hq, h1, hL, h2, h3⟩, st⟩ | ⟨q, vm₁, ⟨U', l2, c2, s2⟩, hW₁, X', ⟨g', mk, t, L, E, ce, e1, e2, hq, hce, hcv, hcl, h1, hL, h2, h3⟩, st⟩
  · dsimp only [Pt.U, Pt.locs, Pt.cells, Pt.slots] at X' e1 e2 h1 h2 h3 st
    subst h1; subst h2; subst h3
    exact Or.inl ⟨v, (T.setVm vm₁).calling g' mk As.toArray, t, U', L, hT, X', hL, e1, e2, hq, st⟩
  · dsimp only [Pt.U, Pt.locs, Pt.cells, Pt.slots] at X' e1 e2 h1 h2 h3 st hcl
    subst h1; subst h2; subst h3
    exact Or.inr ⟨q, (T.setVm vm₁).calling g' mk As.toArray, t, U', L, E, ce, hT, X', hL, e1, e2, hq, hce, hcv, vx_cls hW₁ hcl, st⟩
end Runs
section Rows
variable {p : Program} {l : Launch} {e : Env} {R : Room} {s : State} {m : MethodId} {args : Array Value} {below : List Frame} {meth : Method} {c : Code} {H : Heap} {locs : List Loc} {cells slots : Nat} {Q : State → Prop}
variable {mc ms : Nat} {free : Addr → Prop} {A0 A1 : Nat → Prop} {H0 : Heap} {a : Array Value} {pc : Nat} {ls : Array Slot} {st0 rest : List Value}
theorem vx_keep {st₀ t T' : State} {L : List Loc} (h0 : st₀.heap = H) (e1 : T'.heap = t.heap) (hS : va_S A0 H0 H locs) (hA : ∀ q, q < H.size → A1 q → A0 q) (hf : ∀ q, free q → A0 q) (hL : ∀ q ∈ L, free q.base) (hF : va_F A1 st₀ t) :
    H.size ≤ T'.heap.size ∧ (∀ q : Nat, q < H.size → ¬ A1 q → T'.heap[q]? = H[q]?) ∧ va_S A0 H0 T'.heap (locs ++ L) := by
  obtain ⟨hz, hk⟩ := hF
  rw [h0] at hz hk
  exact ⟨by rw [e1]; exact hz, fun q h1 h2 => by rw [e1]; exact hk q h1 h2,
    ⟨Nat.le_trans hS.1 (by rw [e1]; exact hz), fun q h1 h2 => by rw [e1, hk q (Nat.lt_of_lt_of_le h1 hS.1) (fun z => h2 (hA q (Nat.lt_of_lt_of_le h1 hS.1) z))]; exact hS.2.1 q h1 h2, fun q hq => by
      rcases List.mem_append.mp hq with h | h
      · exact hS.2.2 q h
      · exact hf _ (hL q h)⟩⟩
theorem vx_calli {S SX : Type} {post : Int32 → S → Prop} {px : SX → Prop} {B : S → State → Prop} {BX : String → SX → State → Prop} {AX : Nat → Prop} (hr : vx_Run p l e R s m args below meth c H locs cells slots mc ms (F0 m pc ls st0) rest (va_Qi post B A1 a) (vx_X px BX AX) free) (hS : va_S A0 H0 H locs) (hA : ∀ q, q < H.size → A1 q → A0 q) (hf : ∀ q, free q → A0 q) (hAX : ∀ q, q < H.size → AX q → A0 q)
    (kx : ∀ (E : String) (ce : Cell) (q9 : Addr) (u : SX) (t : State) (H1 : Heap) (locs1 : List Loc), t.heap = H1 → s.vm.Alike t.vm → px u → BX E u t → H.size ≤ H1.size → (∀ q : Nat, q < H.size → ¬ AX q → H1[q]? = H[q]?) → va_S A0 H0 H1 locs1 → H1[q9]? = some ce → ce.vm = .none → s.vm.findClass E = some ce.cls → vx_W p l e R s m args below meth c H1 locs1 (cells + mc) (slots + ms) Q (F0 m pc ls rest) q9)
    (kk : ∀ (r : Int32) (u : S) (t : State) (H1 : Heap) (locs1 : List Loc), t.heap = H1 → s.vm.Alike t.vm → post r u → B u t → H.size ≤ H1.size → (∀ q : Nat, q < H.size → ¬ A1 q → H1[q]? = H[q]?) → va_S A0 H0 H1 locs1 → W p l e R s m args below meth c H1 locs1 (cells + mc) (slots + ms) Q (F0 m (pc + 3) ls (.int r :: rest))) : W p l e R s m args below meth c H locs cells slots Q (F0 m pc ls st0) := by
  intro T hT X
  rcases hr T hT X with ⟨v, st₀, t, T', L, h0, X', hL, e1, e2, ⟨⟨r, u, hv, hp, hb⟩, hF⟩, st⟩ | ⟨q, st₀, t, T', L, E, ce, h0, X', hL, e1, e2, ⟨u, hp, hb, hF⟩, hce, hcv, hcl, st⟩
  · cases hv
    obtain ⟨k1, k2, k3⟩ := vx_keep h0 e1 hS hA hf hL hF
    obtain ⟨t2, a1, b1⟩ := kk r u t T'.heap (locs ++ L) e1.symm (by rw [← e2]; exact X'.warmed.alike) hp hb k1 k2 k3 T' rfl X'
    exact ⟨t2, st t2 a1, b1⟩
  · obtain ⟨k1, k2, k3⟩ := vx_keep h0 e1 hS hAX hf hL hF
    obtain ⟨t2, a1, b1⟩ := kx E ce q u t T'.heap (locs ++ L) e1.symm (by rw [← e2]; exact X'.warmed.alike) hp hb k1 k2 k3 (by rw [e1]; exact hce) hcv hcl T' rfl X'
    exact ⟨t2, st.trans a1, b1⟩
theorem vx_calll {S SX : Type} {post : Int64 → S → Prop} {px : SX → Prop} {B : S → State → Prop} {BX : String → SX → State → Prop} {AX : Nat → Prop} (hr : vx_Run p l e R s m args below meth c H locs cells slots mc ms (F0 m pc ls st0) rest (va_Ql post B A1 a) (vx_X px BX AX) free) (hS : va_S A0 H0 H locs) (hA : ∀ q, q < H.size → A1 q → A0 q) (hf : ∀ q, free q → A0 q) (hAX : ∀ q, q < H.size → AX q → A0 q)
    (kx : ∀ (E : String) (ce : Cell) (q9 : Addr) (u : SX) (t : State) (H1 : Heap) (locs1 : List Loc), t.heap = H1 → s.vm.Alike t.vm → px u → BX E u t → H.size ≤ H1.size → (∀ q : Nat, q < H.size → ¬ AX q → H1[q]? = H[q]?) → va_S A0 H0 H1 locs1 → H1[q9]? = some ce → ce.vm = .none → s.vm.findClass E = some ce.cls → vx_W p l e R s m args below meth c H1 locs1 (cells + mc) (slots + ms) Q (F0 m pc ls rest) q9)
    (kk : ∀ (r : Int64) (u : S) (t : State) (H1 : Heap) (locs1 : List Loc), t.heap = H1 → s.vm.Alike t.vm → post r u → B u t → H.size ≤ H1.size → (∀ q : Nat, q < H.size → ¬ A1 q → H1[q]? = H[q]?) → va_S A0 H0 H1 locs1 → W p l e R s m args below meth c H1 locs1 (cells + mc) (slots + ms) Q (F0 m (pc + 3) ls (.long r :: rest))) : W p l e R s m args below meth c H locs cells slots Q (F0 m pc ls st0) := by
  intro T hT X
  rcases hr T hT X with ⟨v, st₀, t, T', L, h0, X', hL, e1, e2, ⟨⟨r, u, hv, hp, hb⟩, hF⟩, st⟩ | ⟨q, st₀, t, T', L, E, ce, h0, X', hL, e1, e2, ⟨u, hp, hb, hF⟩, hce, hcv, hcl, st⟩
  · cases hv
    obtain ⟨k1, k2, k3⟩ := vx_keep h0 e1 hS hA hf hL hF
    obtain ⟨t2, a1, b1⟩ := kk r u t T'.heap (locs ++ L) e1.symm (by rw [← e2]; exact X'.warmed.alike) hp hb k1 k2 k3 T' rfl X'
    exact ⟨t2, st t2 a1, b1⟩
  · obtain ⟨k1, k2, k3⟩ := vx_keep h0 e1 hS hAX hf hL hF
    obtain ⟨t2, a1, b1⟩ := kx E ce q u t T'.heap (locs ++ L) e1.symm (by rw [← e2]; exact X'.warmed.alike) hp hb k1 k2 k3 (by rw [e1]; exact hce) hcv hcl T' rfl X'
    exact ⟨t2, st.trans a1, b1⟩
theorem vx_callf {S SX : Type} {post : UInt32 → S → Prop} {px : SX → Prop} {B : S → State → Prop} {BX : String → SX → State → Prop} {AX : Nat → Prop} (hr : vx_Run p l e R s m args below meth c H locs cells slots mc ms (F0 m pc ls st0) rest (va_Qf post B A1 a) (vx_X px BX AX) free) (hS : va_S A0 H0 H locs) (hA : ∀ q, q < H.size → A1 q → A0 q) (hf : ∀ q, free q → A0 q) (hAX : ∀ q, q < H.size → AX q → A0 q)
    (kx : ∀ (E : String) (ce : Cell) (q9 : Addr) (u : SX) (t : State) (H1 : Heap) (locs1 : List Loc), t.heap = H1 → s.vm.Alike t.vm → px u → BX E u t → H.size ≤ H1.size → (∀ q : Nat, q < H.size → ¬ AX q → H1[q]? = H[q]?) → va_S A0 H0 H1 locs1 → H1[q9]? = some ce → ce.vm = .none → s.vm.findClass E = some ce.cls → vx_W p l e R s m args below meth c H1 locs1 (cells + mc) (slots + ms) Q (F0 m pc ls rest) q9)
    (kk : ∀ (r : UInt32) (u : S) (t : State) (H1 : Heap) (locs1 : List Loc), t.heap = H1 → s.vm.Alike t.vm → post r u → B u t → H.size ≤ H1.size → (∀ q : Nat, q < H.size → ¬ A1 q → H1[q]? = H[q]?) → va_S A0 H0 H1 locs1 → W p l e R s m args below meth c H1 locs1 (cells + mc) (slots + ms) Q (F0 m (pc + 3) ls (.float r :: rest))) : W p l e R s m args below meth c H locs cells slots Q (F0 m pc ls st0) := by
  intro T hT X
  rcases hr T hT X with ⟨v, st₀, t, T', L, h0, X', hL, e1, e2, ⟨⟨r, u, hv, hp, hb⟩, hF⟩, st⟩ | ⟨q, st₀, t, T', L, E, ce, h0, X', hL, e1, e2, ⟨u, hp, hb, hF⟩, hce, hcv, hcl, st⟩
  · cases hv
    obtain ⟨k1, k2, k3⟩ := vx_keep h0 e1 hS hA hf hL hF
    obtain ⟨t2, a1, b1⟩ := kk r u t T'.heap (locs ++ L) e1.symm (by rw [← e2]; exact X'.warmed.alike) hp hb k1 k2 k3 T' rfl X'
    exact ⟨t2, st t2 a1, b1⟩
  · obtain ⟨k1, k2, k3⟩ := vx_keep h0 e1 hS hAX hf hL hF
    obtain ⟨t2, a1, b1⟩ := kx E ce q u t T'.heap (locs ++ L) e1.symm (by rw [← e2]; exact X'.warmed.alike) hp hb k1 k2 k3 (by rw [e1]; exact hce) hcv hcl T' rfl X'
    exact ⟨t2, st.trans a1, b1⟩
theorem vx_calld {S SX : Type} {post : UInt64 → S → Prop} {px : SX → Prop} {B : S → State → Prop} {BX : String → SX → State → Prop} {AX : Nat → Prop} (hr : vx_Run p l e R s m args below meth c H locs cells slots mc ms (F0 m pc ls st0) rest (va_Qd post B A1 a) (vx_X px BX AX) free) (hS : va_S A0 H0 H locs) (hA : ∀ q, q < H.size → A1 q → A0 q) (hf : ∀ q, free q → A0 q) (hAX : ∀ q, q < H.size → AX q → A0 q)
    (kx : ∀ (E : String) (ce : Cell) (q9 : Addr) (u : SX) (t : State) (H1 : Heap) (locs1 : List Loc), t.heap = H1 → s.vm.Alike t.vm → px u → BX E u t → H.size ≤ H1.size → (∀ q : Nat, q < H.size → ¬ AX q → H1[q]? = H[q]?) → va_S A0 H0 H1 locs1 → H1[q9]? = some ce → ce.vm = .none → s.vm.findClass E = some ce.cls → vx_W p l e R s m args below meth c H1 locs1 (cells + mc) (slots + ms) Q (F0 m pc ls rest) q9)
    (kk : ∀ (r : UInt64) (u : S) (t : State) (H1 : Heap) (locs1 : List Loc), t.heap = H1 → s.vm.Alike t.vm → post r u → B u t → H.size ≤ H1.size → (∀ q : Nat, q < H.size → ¬ A1 q → H1[q]? = H[q]?) → va_S A0 H0 H1 locs1 → W p l e R s m args below meth c H1 locs1 (cells + mc) (slots + ms) Q (F0 m (pc + 3) ls (.double r :: rest))) : W p l e R s m args below meth c H locs cells slots Q (F0 m pc ls st0) := by
  intro T hT X
  rcases hr T hT X with ⟨v, st₀, t, T', L, h0, X', hL, e1, e2, ⟨⟨r, u, hv, hp, hb⟩, hF⟩, st⟩ | ⟨q, st₀, t, T', L, E, ce, h0, X', hL, e1, e2, ⟨u, hp, hb, hF⟩, hce, hcv, hcl, st⟩
  · cases hv
    obtain ⟨k1, k2, k3⟩ := vx_keep h0 e1 hS hA hf hL hF
    obtain ⟨t2, a1, b1⟩ := kk r u t T'.heap (locs ++ L) e1.symm (by rw [← e2]; exact X'.warmed.alike) hp hb k1 k2 k3 T' rfl X'
    exact ⟨t2, st t2 a1, b1⟩
  · obtain ⟨k1, k2, k3⟩ := vx_keep h0 e1 hS hAX hf hL hF
    obtain ⟨t2, a1, b1⟩ := kx E ce q u t T'.heap (locs ++ L) e1.symm (by rw [← e2]; exact X'.warmed.alike) hp hb k1 k2 k3 (by rw [e1]; exact hce) hcv hcl T' rfl X'
    exact ⟨t2, st.trans a1, b1⟩
theorem vx_callv {S SX : Type} {post : S → Prop} {px : SX → Prop} {B : S → State → Prop} {BX : String → SX → State → Prop} {AX : Nat → Prop} (hr : vx_Run p l e R s m args below meth c H locs cells slots mc ms (F0 m pc ls st0) rest (va_Qv post B A1 a) (vx_X px BX AX) free) (hS : va_S A0 H0 H locs) (hA : ∀ q, q < H.size → A1 q → A0 q) (hf : ∀ q, free q → A0 q) (hAX : ∀ q, q < H.size → AX q → A0 q)
    (kx : ∀ (E : String) (ce : Cell) (q9 : Addr) (u : SX) (t : State) (H1 : Heap) (locs1 : List Loc), t.heap = H1 → s.vm.Alike t.vm → px u → BX E u t → H.size ≤ H1.size → (∀ q : Nat, q < H.size → ¬ AX q → H1[q]? = H[q]?) → va_S A0 H0 H1 locs1 → H1[q9]? = some ce → ce.vm = .none → s.vm.findClass E = some ce.cls → vx_W p l e R s m args below meth c H1 locs1 (cells + mc) (slots + ms) Q (F0 m pc ls rest) q9)
    (kk : ∀ (u : S) (t : State) (H1 : Heap) (locs1 : List Loc), t.heap = H1 → s.vm.Alike t.vm → post u → B u t → H.size ≤ H1.size → (∀ q : Nat, q < H.size → ¬ A1 q → H1[q]? = H[q]?) → va_S A0 H0 H1 locs1 → W p l e R s m args below meth c H1 locs1 (cells + mc) (slots + ms) Q (F0 m (pc + 3) ls (rest))) : W p l e R s m args below meth c H locs cells slots Q (F0 m pc ls st0) := by
  intro T hT X
  rcases hr T hT X with ⟨v, st₀, t, T', L, h0, X', hL, e1, e2, ⟨⟨u, hv, hp, hb⟩, hF⟩, st⟩ | ⟨q, st₀, t, T', L, E, ce, h0, X', hL, e1, e2, ⟨u, hp, hb, hF⟩, hce, hcv, hcl, st⟩
  · cases hv
    obtain ⟨k1, k2, k3⟩ := vx_keep h0 e1 hS hA hf hL hF
    obtain ⟨t2, a1, b1⟩ := kk u t T'.heap (locs ++ L) e1.symm (by rw [← e2]; exact X'.warmed.alike) hp hb k1 k2 k3 T' rfl X'
    exact ⟨t2, st t2 a1, b1⟩
  · obtain ⟨k1, k2, k3⟩ := vx_keep h0 e1 hS hAX hf hL hF
    obtain ⟨t2, a1, b1⟩ := kx E ce q u t T'.heap (locs ++ L) e1.symm (by rw [← e2]; exact X'.warmed.alike) hp hb k1 k2 k3 (by rw [e1]; exact hce) hcv hcl T' rfl X'
    exact ⟨t2, st.trans a1, b1⟩
/-- caught by the row x of this method's table; the rows ahead don't take it -/
theorem vx_catch {own name : String} {E : String} {ce : Cell} {q : Addr} (hown : s.vm.findClass own = some m.cls) (pre : List ExceptionTableEntry) (x : ExceptionTableEntry) (suf : List ExceptionTableEntry) (hsplit : c.exceptionTable.toList = pre ++ x :: suf)
    (hpass : ∀ z ∈ pre, covers z pc = false ∨ (z.catchType ≠ 0 ∧ ∃ nm : String, (Cond.classLink own z.catchType nm).before args s = true ∧ va_Nc E nm s)) (hx : covers x pc = true) (h0 : x.catchType ≠ 0)
    (hlink : (Cond.classLink own x.catchType name).before args s = true) (hcast : (Cond.castable E name).before args s = true) (hcell : H[q]? = some ce) (hv : ce.vm = .none) (hcl : s.vm.findClass E = some ce.cls)
    (kk : W p l e R s m args below meth c H locs cells slots Q (F0 m x.handlerPc ls [.ref q])) : vx_W p l e R s m args below meth c H locs cells slots Q (F0 m pc ls rest) q := by
  intro T hT X
  have hpl : e.platform.magicAccessors = ({} : Platform).magicAccessors := by rw [X.admits.platform]
  obtain ⟨c3, c4, hc3, hc4, hasg⟩ := Cond.castable_spec hcast
  cases Option.some.inj (hc3.symm.trans hcl)
  obtain ⟨c5, hc5, hcl5⟩ := Cond.classLink_spec hown hlink e.platform hpl
  cases Option.some.inj (hc4.symm.trans hc5)
  obtain ⟨vm', X', st⟩ := X.thenCaughtThrough q (g := F0 m pc ls rest) rfl (Steps.refl _) (by rw [hT]; exact hcell) (by rw [hv]; rfl) (by obtain ⟨k9, h9, -⟩ := Vm.findClass_spec hcl; exact ⟨k9, h9⟩) pre x suf hsplit
    (fun z hz => by
      rcases hpass z hz with h | ⟨hz0, nm, hl1, hn1⟩
      · exact Or.inl h
      · obtain ⟨c6, hc6, hcl6⟩ := Cond.classLink_spec hown hl1 e.platform hpl
        obtain ⟨a8, b8, h1, h2, h3⟩ := hn1
        cases Option.some.inj (h1.symm.trans hcl)
        cases Option.some.inj (h2.symm.trans hc6)
        exact Or.inr ⟨hz0, _, hcl6, h3⟩) hx (Or.inr ⟨h0, c4, hcl5, hasg⟩)
  obtain ⟨t, a1, b1⟩ := kk (T.setVm vm') hT X'
  exact ⟨t, st.trans a1, b1⟩
end Rows
section Ends
variable {p : Program} {l : Launch} {e : Env} {R : Room} {s : State} {m : MethodId} {args : Array Value} {below : List Frame} {meth : Method} {c : Code} {H : Heap} {locs : List Loc} {cells slots : Nat} {Q : State → Prop}
variable {mc ms : Nat} {free : Addr → Prop} {A0 A1 : Nat → Prop} {H0 : Heap} {a : Array Value} {ls : Array Slot} {st0 rest : List Value}
variable {Qc : Array Value → State → Outcome → State → Prop} {XC : String → State → State → Prop}
/-- what a body that may throw owes at its end -/
def vx_MQ (below : List Frame) (Qc : Array Value → State → Outcome → State → Prop) (XC : String → State → State → Prop) (a : Array Value) (s : State) (mc ms : Nat) (free : Addr → Prop) : State → Prop := fun t =>
  ∃ o, t.status = .running ∧ Ended t below o ∧ vx_Q Qc XC mc ms free a s o t
theorem vx_ret {g : JFrame} {mc ms : Nat} (k : W p l e R s m args below meth c H locs cells slots (MQ below Qc args s mc ms free) g) : W p l e R s m args below meth c H locs cells slots (vx_MQ below Qc XC args s mc ms free) g := by
  intro T hT X
  obtain ⟨t, a1, o, b1, b2, b3, b4⟩ := k T hT X
  exact ⟨t, a1, o, b1, b2, Or.inl ⟨b3, b4⟩⟩
/-- not caught here: it goes on to the caller -/
theorem vx_widen {g : JFrame} {q : Addr} {k n : Nat} (h1 : cells ≤ k) (h2 : slots ≤ n) (kk : vx_W p l e R s m args below meth c H locs k n Q g q) : vx_W p l e R s m args below meth c H locs cells slots Q g q := fun T hT X => kk T hT (stand_widen X h1 h2)
theorem vx_out {pc : Nat} {E : String} {ce : Cell} {q : Addr} {mc ms : Nat} (hout : ∀ x ∈ c.exceptionTable.toList, covers x pc = false) (hlocks : meth.locks = false) (hcell : H[q]? = some ce) (hv : ce.vm = .none) (hcl : s.vm.findClass E = some ce.cls)
    (hx : ∀ t : State, t.heap = H → s.vm.Alike t.vm → XC E s t) (hf : ∀ z ∈ locs, free z.base) (hc : cells ≤ mc) (hs : slots ≤ ms) :
    vx_W p l e R s m args below meth c H locs cells slots (vx_MQ below Qc XC args s mc ms free) (F0 m pc ls rest) q := by
  intro T hT X
  obtain ⟨st1, hrun, hend, hW, hsm⟩ := X.leaveThrown q (g := F0 m pc ls rest) rfl rfl rfl hout hlocks
  have hcell9 : (T.setFrames (.throwing q :: below)).heap[q]? = some ce := by
    show T.heap[q]? = some ce
    rw [hT]; exact hcell
  exact ⟨_, st1, .threw q, hrun, hend, Or.inr ⟨q, rfl, E, ce, locs, hx _ hT hW.alike, hcell9, hv, hcl, hW, hsm.mono hc hs, hf⟩⟩
theorem vx_frame {U : State} {k n : Nat} (h : s.sameButNew ({ U with vm := s.vm } : State) locs k n) : s.heap.size ≤ U.heap.size ∧ ∀ q : Nat, q < s.heap.size → (∀ z ∈ locs, z.base ≠ q) → U.heap[q]? = s.heap[q]? := by
  obtain ⟨-, h2, -, -, -, h6⟩ := h
  refine ⟨h2, fun q hq hz => ?_⟩
  obtain ⟨c9, e1, e2, e3, e4⟩ := h6 q _ (Array.getElem?_eq_getElem hq)
  have hs : c9.slots = (s.heap[q]).slots := Array.ext_getElem? fun i => e4 i fun hm => hz _ hm rfl
  have h9 : c9 = s.heap[q] := by
    rw [hs] at e2
    exact e2
  have e5 : U.heap[q]? = some c9 := e1
  rw [e5, h9, Array.getElem?_eq_getElem hq]
/-- the words of a throw but the four that speak of the heap -/
def vx_no (w : Cond) : Bool := decide (w ≠ .isRef (.static Bundle.tN "UNASSIGNED_STACK" Bundle.steD)) && decide (w ≠ .isRef (.static Bundle.tN "SUPPRESSED_SENTINEL" Bundle.listD)) && decide (w ≠ .laysStatic Bundle.tN "UNASSIGNED_STACK" Bundle.steD) && decide (w ≠ .laysStatic Bundle.tN "SUPPRESSED_SENTINEL" Bundle.listD)
def vx_at0 (own : String) (ic : Nat) (X : String) (names : List String) : List Cond := (Bundle.ownAtoms0 own ic X names).filter vx_no
def vx_atS (own : String) (ic : Nat) (X : String) (names : List String) : List Cond := (Bundle.ownAtoms own ic X names).filter vx_no
/-- a word that the tables alone decide, or a good one -/
def vx_ot (w : Cond) : Bool := w.onTables || goodWord w
theorem vx_ot_at {args a' : Array Value} {s U : State} {w : Cond} (hW : s.WarmedH U.vm) (hvm : s.vm = U.vm) (hg : vx_ot w = true) (h : w.before args s = true) : w.before a' U = true := by
  simp only [vx_ot, Bool.or_eq_true] at hg
  rcases hg with hg | hg
  · exact va_tabs hg hvm h
  · exact word_at hW (good_of_word hg) h
/-- a list's words: the good ones out of the method's own list, the others by premises of their own -/
theorem vx_hat {args : Array Value} {s : State} {L B : List Cond} (h1 : ∀ w ∈ L.filter goodWord, w.before args s = true) (h2 : ∀ w ∈ L.filter (fun w => !goodWord w), w ∈ B) (h3 : ∀ w ∈ B, w.before args s = true) : ∀ w ∈ L, w.before args s = true := by
  intro w hw
  by_cases g : goodWord w = true
  · exact h1 w (List.mem_filter.mpr ⟨hw, g⟩)
  · refine h3 w (h2 w (List.mem_filter.mpr ⟨hw, ?_⟩))
    show (!goodWord w) = true
    cases hgw : goodWord w
    · rfl
    · exact absurd hgw g
theorem vx_c {args : Array Value} {s : State} {w : Cond} {B : List Cond} (h : w.before args s = true) (t : ∀ w ∈ B, w.before args s = true) : ∀ w' ∈ w :: B, w'.before args s = true := fun w' h' => (List.mem_cons.mp h').elim (fun e => by rw [e]; exact h) (t w')
theorem vx_n {args : Array Value} {s : State} : ∀ w ∈ ([] : List Cond), w.before args s = true := fun _ h => nomatch h
theorem vx_own {args : Array Value} {s : State} {L : List Cond} (h1 : ∀ w ∈ L.filter vx_no, w.before args s = true)
    (hU : (Cond.isRef (.static Bundle.tN "UNASSIGNED_STACK" Bundle.steD)).before args s = true) (hN : (Cond.isRef (.static Bundle.tN "SUPPRESSED_SENTINEL" Bundle.listD)).before args s = true)
    (lU : (Cond.laysStatic Bundle.tN "UNASSIGNED_STACK" Bundle.steD).before args s = true) (lN : (Cond.laysStatic Bundle.tN "SUPPRESSED_SENTINEL" Bundle.listD).before args s = true) : ∀ w ∈ L, w.before args s = true := by
  intro w hw
  by_cases e1 : w = .isRef (.static Bundle.tN "UNASSIGNED_STACK" Bundle.steD)
  · rw [e1]; exact hU
  · by_cases e2 : w = .isRef (.static Bundle.tN "SUPPRESSED_SENTINEL" Bundle.listD)
    · rw [e2]; exact hN
    · by_cases e3 : w = .laysStatic Bundle.tN "UNASSIGNED_STACK" Bundle.steD
      · rw [e3]; exact lU
      · by_cases e4 : w = .laysStatic Bundle.tN "SUPPRESSED_SENTINEL" Bundle.listD
        · rw [e4]; exact lN
        · exact h1 w (List.mem_filter.mpr ⟨hw, by unfold vx_no; rw [decide_eq_true e1, decide_eq_true e2, decide_eq_true e3, decide_eq_true e4]; rfl⟩)
/-- where a static field lies, its class's statics cell in H -/
def vx_L (C n d : String) (A : Nat → Prop) (U : State) (H : Heap) : Prop := ∃ (c : ClassId) (k : Class) (i : Nat) (f : Field) (a : Nat) (cell : Cell), U.vm.findClass C = some c ∧ U.fieldFound? C n d = some (c, k, i, f) ∧ f.isStatic = true ∧ k.statics = some a ∧ H[a]? = some cell ∧ cell.vm.isStatics = true ∧ cell.cls = c ∧ f.slot < cell.slots.size ∧ k.staticTypes[f.slot]? = some f.type ∧ ¬ A a
theorem vx_L.moved {C n d : String} {A : Nat → Prop} {u U : State} {H : Heap} (hvm : u.vm.Alike U.vm) (h : vx_L C n d A u H) : vx_L C n d A U H := by
  obtain ⟨c, k, i, f, a, cell, h1, h2, h3, h4, h5, h6, h7, h8, h9, h10⟩ := h
  obtain ⟨k', hi', he⟩ := State.fieldFound?_setVm hvm h2
  exact ⟨c, k', i, f, a, cell, by rw [hvm.findClass]; exact h1, hi', h3, by rw [he]; exact h4, h5, h6, h7, h8, by rw [he]; exact h9, h10⟩
theorem vx_L.kept {C n d : String} {A : Nat → Prop} {U : State} {H H1 : Heap} (h : vx_L C n d A U H) (hq : ∀ a : Nat, a < H.size → ¬ A a → H1[a]? = H[a]?) : vx_L C n d A U H1 := by
  obtain ⟨c, k, i, f, a, cell, h1, h2, h3, h4, h5, h6, h7, h8, h9, h10⟩ := h
  exact ⟨c, k, i, f, a, cell, h1, h2, h3, h4, by rw [hq a (Array.getElem?_eq_some_iff.mp h5).1 h10]; exact h5, h6, h7, h8, h9, h10⟩
theorem vx_L.narrow {C n d : String} {A B : Nat → Prop} {U : State} {H : Heap} (h : vx_L C n d A U H) (hAB : ∀ q, B q → A q) : vx_L C n d B U H := by
  obtain ⟨c, k, i, f, a, cell, h1, h2, h3, h4, h5, h6, h7, h8, h9, h10⟩ := h
  exact ⟨c, k, i, f, a, cell, h1, h2, h3, h4, h5, h6, h7, h8, h9, fun z => h10 (hAB _ z)⟩
theorem vx_L.word {C n d : String} {A : Nat → Prop} {s : State} {args : Array Value} (h : vx_L C n d A s s.heap) : (Cond.laysStatic C n d).before args s = true := by
  obtain ⟨c, k, i, f, a, cell, h1, h2, h3, h4, h5, h6, h7, h8, h9, -⟩ := h
  show (Cond.laysStatic C n d).holds args s none s [] = true
  exact Cond.laysStatic_of h1 h2 h3 h4 h5 h6 h7 h8 h9
/-- .. and what it holds: null or some reference -/
def vx_Zq (C n d : String) (A : Nat → Prop) (U : State) (H : Heap) : Prop := va_Zq C n d A U H ∧ vx_L C n d A U H
theorem vx_Zq.moved {C n d : String} {A : Nat → Prop} {u U : State} {H : Heap} (hvm : u.vm.Alike U.vm) (h : vx_Zq C n d A u H) : vx_Zq C n d A U H := ⟨va_Zq.moved hvm h.1, vx_L.moved hvm h.2⟩
theorem vx_Zq.kept {C n d : String} {A : Nat → Prop} {U : State} {H H1 : Heap} (h : vx_Zq C n d A U H) (hq : ∀ a : Nat, a < H.size → ¬ A a → H1[a]? = H[a]?) : vx_Zq C n d A U H1 := ⟨va_Zq.kept h.1 hq, vx_L.kept h.2 hq⟩
theorem vx_Zq.narrow {C n d : String} {A B : Nat → Prop} {U : State} {H : Heap} (h : vx_Zq C n d A U H) (hAB : ∀ q, B q → A q) : vx_Zq C n d B U H := ⟨va_Zq.narrow h.1 hAB, vx_L.narrow h.2 hAB⟩
theorem vx_Zqof {args : Array Value} {s : State} {C n d : String} {A : Nat → Prop} (hl : (Cond.laysStatic C n d).before args s = true) (hini : (Cond.initialized C).before args s = true) (h : (Cond.isRef (.static C n d)).before args s = true) (hA : ∀ a : Nat, a < s.heap.size → ¬ A a) : vx_Zq C n d A s s.heap := by
  refine ⟨va_Zqof hl hini h hA, ?_⟩
  obtain ⟨c, k, i, f, a, cell, h1, h2, h3, h4, h5, h6, h7, h8, h9⟩ := Cond.laysStatic_spec hl
  exact ⟨c, k, i, f, a, cell, h1, h2, h3, h4, h5, h6, h7, h8, h9, hA a (Array.getElem?_eq_some_iff.mp h5).1⟩
theorem vx_isRef {C n d : String} {v : Value} {A : Nat → Prop} {s : State} {args : Array Value} (h : va_Z C n d v A s s.heap) (hv : v.isRef = true) : (Cond.isRef (.static C n d)).before args s = true := by
  obtain ⟨cf, kf, fi, f, a, cell, h1, h2, h3, h4, h5, h6, h7, -⟩ := h
  have he : (Term.static C n d).eval args s none [] s = some v := by
    simp [Term.eval, State.fieldNamed?, h1, h2, h4, h5, h6, h7]
  simp only [Cond.before, Cond.holds, Cond.value, he]
  cases v <;> simp_all [Value.isRef]
theorem vx_isRefq {C n d : String} {A : Nat → Prop} {s : State} {args : Array Value} (h : va_Zq C n d A s s.heap) : (Cond.isRef (.static C n d)).before args s = true := by
  rcases h with h | ⟨t, h⟩
  · exact vx_isRef h rfl
  · exact vx_isRef h rfl
/-- the same frame, seen from here: as if the method were called anew in this heap -/
theorem vx_rebase {T : State} (X : Stand p l e R s m args below meth c T locs cells slots) {R' : Room} (hf : R'.frames ≤ R.frames) (hl : R'.locals ≤ R.locals) (hc : cells + R'.cells ≤ R.cells) (hs : slots + R'.slots ≤ R.slots) :
    Stand p l e R' ((T.setVm s.vm).setFrames (.invoking m args :: below)) m args below meth c T [] 0 0 := by
  have htop : (T.setVm s.vm).topJava?.isSome := X.here.top
  have hF : ((T.setVm s.vm).setFrames (.invoking m args :: below)).frames = .invoking m args :: below := State.frames_setFrames _ (State.cur_lt_of_top htop)
  obtain ⟨g₀, hg0⟩ := Option.isSome_iff_exists.mp htop
  obtain ⟨r, hr⟩ := State.topJava?_eq_some.mp hg0
  have hl9 : e.platform.stackLimits (T.setVm s.vm).me = e.platform.stackLimits s.me := X.limits
  have hb9 : (T.setVm s.vm).me.stackBytes = s.me.stackBytes := X.bytes
  refine ⟨X.admits, X.cas, X.clock, hF, ?_, X.hears, X.method, X.code, X.here, X.tail, X.warmed, ?_, ?_, ?_⟩
  · have h := X.room
    have hU : ((T.setVm s.vm).setFrames (.invoking m args :: below)).localsInUse = s.localsInUse := by
      rw [State.localsInUse_invoking hF (meth := meth) (c := c) X.method X.code, State.localsInUse_invoking X.frames X.method X.code]
    simp only [State.hasRoom, Bool.and_eq_true, decide_eq_true_eq] at h ⊢
    obtain ⟨⟨⟨⟨h1, h2, h3, h4, h5, h6⟩, h7⟩, h8⟩, h9⟩ := h
    rw [X.frames, List.length_cons] at h2 h3
    have q1 := X.heapSize
    have q2 := X.used
    simp only [hF, hU, List.length_cons, State.stackLimits_setFrames, State.stackBytes_setFrames, hl9, hb9]
    refine ⟨⟨⟨⟨by omega, by omega, by omega, by omega, by omega, h6⟩, ?_⟩, ?_⟩, X.book⟩
    · show T.heap.size + R'.cells ≤ e.platform.maxCells
      omega
    · show T.slotsUsed + R'.slots ≤ e.platform.maxSlots
      omega
  · rw [State.stackLimits_setFrames]; rfl
  · rw [State.stackBytes_setFrames]; rfl
  · refine ⟨?_, Nat.le_refl _, Nat.le_refl _, ?_, ?_, fun a c9 h9 => ⟨c9, h9, rfl, rfl, fun _ _ => rfl⟩⟩
    · obtain ⟨t, ht, -⟩ := State.frames_cons hr
      show T.setVm s.vm = { ((T.setVm s.vm).setFrames (.invoking m args :: below)).setFrames (T.setVm s.vm).frames with heap := T.heap, slotsUsed := T.slotsUsed }
      rw [State.setFrames_setFrames, State.setFrames_self ht]
      rfl
    · show T.slotsUsed = T.slotsUsed + ((T.heap.toList.drop T.heap.size).map (·.slots.size)).sum
      rw [List.drop_eq_nil_of_le (Nat.le_of_eq Array.length_toList)]
      rfl
    · show ((T.heap.toList.drop T.heap.size).map (·.slots.size)).sum ≤ 0
      rw [List.drop_eq_nil_of_le (Nat.le_of_eq Array.length_toList)]
      exact Nat.le_refl _
/-- 'throw new E()': new; dup; invokespecial; athrow -/
theorem vx_throw0 {cc : ByteArray} {pc : Nat} (hexec : p.tables.exec = Jvm.exec) (hb : c.code = cc) (hl : l.stackTraces = false) {own cls : String} {names : List String} {ik ic mc ms : Nat} {A : Nat → Prop}
    (hown : s.vm.findClass own = some m.cls) (hcls : Bundle.fit cls = true) (hnames : ∀ n ∈ names, Bundle.fit n = true)
    (hk : (Cond.classLink own ik cls).before args s = true) (hini : (Cond.initialized cls).before args s = true) (hat : ∀ w ∈ vx_at0 own ic cls names, w.before args s = true)
    (hgood : ∀ w ∈ Cond.classLink own ik cls :: Cond.initialized cls :: vx_at0 own ic cls names, vx_ot w = true)
    (hU : vx_Zq Bundle.tN "UNASSIGNED_STACK" Bundle.steD A s s.heap) (hN : vx_Zq Bundle.tN "SUPPRESSED_SENTINEL" Bundle.listD A s s.heap) (hS : va_S A s.heap H locs) (hsize : ls.size = c.maxLocals)
    (d0 : decode cc pc = .ok (.new ik, 3)) (d3 : decode cc (pc + 3) = .ok (.dup, 1)) (d4 : decode cc (pc + 4) = .ok (.invokespecial ic, 3)) (d7 : decode cc (pc + 7) = .ok (.athrow, 1))
    (hout : ∀ x ∈ c.exceptionTable.toList, covers x (pc + 7) = false)
    (hRframes : names.length + 3 < R.frames) (hRlocals : (rest.map fun v => v.category).sum + (13 * (names.length + 1) + 42) ≤ R.locals) (hRcells : cells + 1 ≤ R.cells) (hRslots : slots + 6 ≤ R.slots) (hlocks : meth.locks = false)
    (hx : ∀ t : State, s.vm.Alike t.vm → H.size ≤ t.heap.size → (∀ q : Nat, q < H.size → t.heap[q]? = H[q]?) → XC cls s t)
    (hf : ∀ z ∈ locs, free z.base) (hc : cells + 1 ≤ mc) (hs : slots + 6 ≤ ms) :
    W p l e R s m args below meth c H locs cells slots (vx_MQ below Qc XC args s mc ms free) (F0 m pc ls rest) := by
  intro T hT X
  have htr : e.platform.stackTraces = false := (show e.platform.stackTraces = l.stackTraces by rw [X.admits.platform]).trans hl
  have Y := vx_rebase X (R' := { frames := R.frames, locals := R.locals, cells := 1, slots := 6 }) (Nat.le_refl _) (Nat.le_refl _) hRcells hRslots
  obtain ⟨s', hA⟩ : ∃ z, z = (T.setVm s.vm).setFrames (.invoking m args :: below) := ⟨_, rfl⟩
  rw [← hA] at Y
  have hvm : s'.vm = s.vm := by rw [hA]; rfl
  have hhp : s'.heap = H := by rw [hA]; exact hT
  have hW0 : s.WarmedH s'.vm := by rw [hvm]; exact State.WarmedH.refl s
  have hat' : ∀ w ∈ vx_at0 own ic cls names, w.before args s' = true := fun w hw => vx_ot_at hW0 hvm.symm (hgood w (List.mem_cons_of_mem _ (List.mem_cons_of_mem _ hw))) (hat w hw)
  have hk' : (Cond.classLink own ik cls).before args s' = true := vx_ot_at hW0 hvm.symm (hgood _ List.mem_cons_self) hk
  have hini' : (Cond.initialized cls).before args s' = true := vx_ot_at hW0 hvm.symm (hgood _ (List.mem_cons_of_mem _ List.mem_cons_self)) hini
  have hU' : vx_Zq Bundle.tN "UNASSIGNED_STACK" Bundle.steD A s' s'.heap := by rw [hhp]; exact vx_Zq.moved hW0.alike (hU.kept hS.2.1)
  have hN' : vx_Zq Bundle.tN "SUPPRESSED_SENTINEL" Bundle.listD A s' s'.heap := by rw [hhp]; exact vx_Zq.moved hW0.alike (hN.kept hS.2.1)
  have h : ∀ w ∈ Bundle.ownAtoms0 own ic cls names, w.before args s' = true := vx_own hat' (vx_isRefq hU'.1) (vx_isRefq hN'.1) hU'.2.word hN'.2.word
  have hown' : s'.vm.findClass own = some m.cls := by rw [hvm]; exact hown
  have hins : (Cond.instantiable cls 6).before args s' = true := h _ (by simp [Bundle.ownAtoms0])
  obtain ⟨vm₁, cX, kX, hfX, hkX, -, -, X₁, st1⟩ := Y.newCold hexec (own := own) (C := cls) (index := ik) (n := 6) hown' hk' hins hini'
    (g := F0 m pc ls rest) rfl (by rw [hb]; exact d0) (Nat.le_refl _) (Nat.le_refl _)
  generalize hT1 : (T.setVm vm₁).pushCell { cls := cX, slots := kX.instanceTypes.map defaultValue, vm := .none } = T1 at X₁ st1
  have hcat : (Value.ref T.heap.size).category = 1 := rfl
  have hcellA : T1.heap[T.heap.size]? = some (freshCell cX kX) := by rw [← hT1]; exact State.heap_pushCell_size _ _
  have d3' : decode c.code (pc + 3) = .ok (.dup, 1) := by rw [hb]; exact d3
  obtain ⟨U, hsteps, hrun, hend, hW, hsame, ce, hce, hO⟩ := X₁.ctorThrow0 hexec htr (own := own) (cls := cls) (names := names) (ic := ic) hown' hcls hnames h (fun x hx => nomatch hx) hfX hkX hcellA (by rw [hhp, hT]; exact Nat.le_refl _)
    (g := { method := m, pc := pc + 4, locals := ls, stack := .ref T.heap.size :: .ref T.heap.size :: rest, locked := none }) rfl hsize rfl rfl (rest := rest) rfl
    (by rw [hb]; exact d4) (by rw [hb]; exact d7) hout hRframes (by simp only [List.map_cons, List.sum_cons, hcat]; omega) hlocks
  obtain ⟨f1, f2⟩ := vx_frame hsame
  rw [hhp] at f1 f2
  have hWs : s.WarmedH U.vm := State.WarmedH.trans hW0 hW
  have hcl : s.vm.findClass cls = some ce.cls := by
    have h9 := hO.cls
    rw [hvm] at h9
    exact h9
  have hall : s.sameButNew ({ U with vm := s.vm } : State) locs mc ms := by
    subst hA
    obtain ⟨e1, e2⟩ := hsame
    rw [State.setFrames_setFrames] at e1
    have h2 : (T.setVm s.vm).sameButNew ({ U with vm := s.vm } : State) [] (0 + 1) (0 + 6) := ⟨e1, e2⟩
    have h3 := X.same.trans h2
    rw [List.append_nil] at h3
    exact h3.mono hc hs
  refine ⟨U, ?_, .threw T.heap.size, hrun, hend, Or.inr ⟨T.heap.size, rfl, cls, ce, locs, hx U hWs.alike f1 (fun q hq => f2 q hq (fun z hz => nomatch hz)), hce, hO.vm, hcl, hWs, hall, hf⟩⟩
  refine st1 _ ?_
  show Steps p.tables e below (T1.setTop { method := m, pc := pc + 3, locals := ls, stack := .ref T.heap.size :: rest, locked := none }) _
  jvm_step X₁.here [X₁.here.top, hexec, d3', Value.category]
  exact hsteps
/-- 'throw new E("text")': new; dup; ldc; invokespecial; athrow -/
theorem vx_throwS {cc : ByteArray} {pc : Nat} (hexec : p.tables.exec = Jvm.exec) (hb : c.code = cc) (hl : l.stackTraces = false) {own cls text : String} {names : List String} {ik is ic mc ms sa : Nat} {A : Nat → Prop}
    (hown : s.vm.findClass own = some m.cls) (hcls : Bundle.fit cls = true) (hnames : ∀ n ∈ names, Bundle.fit n = true)
    (hk : (Cond.classLink own ik cls).before args s = true) (hini : (Cond.initialized cls).before args s = true) (hstr : vk_R own is text sa s) (hat : ∀ w ∈ vx_atS own ic cls names, w.before args s = true)
    (hgood : ∀ w ∈ Cond.classLink own ik cls :: Cond.initialized cls :: vx_atS own ic cls names, vx_ot w = true)
    (hU : vx_Zq Bundle.tN "UNASSIGNED_STACK" Bundle.steD A s s.heap) (hN : vx_Zq Bundle.tN "SUPPRESSED_SENTINEL" Bundle.listD A s s.heap) (hS : va_S A s.heap H locs) (hsize : ls.size = c.maxLocals)
    (d0 : decode cc pc = .ok (.new ik, 3)) (d3 : decode cc (pc + 3) = .ok (.dup, 1)) (d4 : decode cc (pc + 4) = .ok (.ldc is, 2)) (d6 : decode cc (pc + 6) = .ok (.invokespecial ic, 3)) (d9 : decode cc (pc + 9) = .ok (.athrow, 1))
    (hout : ∀ x ∈ c.exceptionTable.toList, covers x (pc + 9) = false)
    (hRframes : names.length + 3 < R.frames) (hRlocals : (rest.map fun v => v.category).sum + (13 * (names.length + 1) + 43) ≤ R.locals) (hRcells : cells + 1 ≤ R.cells) (hRslots : slots + 6 ≤ R.slots) (hlocks : meth.locks = false)
    (hx : ∀ t : State, s.vm.Alike t.vm → H.size ≤ t.heap.size → (∀ q : Nat, q < H.size → t.heap[q]? = H[q]?) → XC cls s t)
    (hf : ∀ z ∈ locs, free z.base) (hc : cells + 1 ≤ mc) (hs : slots + 6 ≤ ms) :
    W p l e R s m args below meth c H locs cells slots (vx_MQ below Qc XC args s mc ms free) (F0 m pc ls rest) := by
  intro T hT X
  have htr : e.platform.stackTraces = false := (show e.platform.stackTraces = l.stackTraces by rw [X.admits.platform]).trans hl
  have Y := vx_rebase X (R' := { frames := R.frames, locals := R.locals, cells := 1, slots := 6 }) (Nat.le_refl _) (Nat.le_refl _) hRcells hRslots
  obtain ⟨s', hA⟩ : ∃ z, z = (T.setVm s.vm).setFrames (.invoking m args :: below) := ⟨_, rfl⟩
  rw [← hA] at Y
  have hvm : s'.vm = s.vm := by rw [hA]; rfl
  have hhp : s'.heap = H := by rw [hA]; exact hT
  have hW0 : s.WarmedH s'.vm := by rw [hvm]; exact State.WarmedH.refl s
  have hat' : ∀ w ∈ vx_atS own ic cls names, w.before args s' = true := fun w hw => vx_ot_at hW0 hvm.symm (hgood w (List.mem_cons_of_mem _ (List.mem_cons_of_mem _ hw))) (hat w hw)
  have hk' : (Cond.classLink own ik cls).before args s' = true := vx_ot_at hW0 hvm.symm (hgood _ List.mem_cons_self) hk
  have hini' : (Cond.initialized cls).before args s' = true := vx_ot_at hW0 hvm.symm (hgood _ (List.mem_cons_of_mem _ List.mem_cons_self)) hini
  have hU' : vx_Zq Bundle.tN "UNASSIGNED_STACK" Bundle.steD A s' s'.heap := by rw [hhp]; exact vx_Zq.moved hW0.alike (hU.kept hS.2.1)
  have hN' : vx_Zq Bundle.tN "SUPPRESSED_SENTINEL" Bundle.listD A s' s'.heap := by rw [hhp]; exact vx_Zq.moved hW0.alike (hN.kept hS.2.1)
  have h : ∀ w ∈ Bundle.ownAtoms own ic cls names, w.before args s' = true := vx_own hat' (vx_isRefq hU'.1) (vx_isRefq hN'.1) hU'.2.word hN'.2.word
  have hown' : s'.vm.findClass own = some m.cls := by rw [hvm]; exact hown
  have hins : (Cond.instantiable cls 6).before args s' = true := h _ (by simp [Bundle.ownAtoms])
  obtain ⟨vm₁, cX, kX, hfX, hkX, -, -, X₁, st1⟩ := Y.newCold hexec (own := own) (C := cls) (index := ik) (n := 6) hown' hk' hins hini'
    (g := F0 m pc ls rest) rfl (by rw [hb]; exact d0) (Nat.le_refl _) (Nat.le_refl _)
  generalize hT1 : (T.setVm vm₁).pushCell { cls := cX, slots := kX.instanceTypes.map defaultValue, vm := .none } = T1 at X₁ st1
  have hcat : (Value.ref T.heap.size).category = 1 := rfl
  have hcellA : T1.heap[T.heap.size]? = some (freshCell cX kX) := by rw [← hT1]; exact State.heap_pushCell_size _ _
  have d3' : decode c.code (pc + 3) = .ok (.dup, 1) := by rw [hb]; exact d3
  have d4' : decode c.code (pc + 4) = .ok (.ldc is, 2) := by rw [hb]; exact d4
  have hstr' : vk_R own is text sa s' := vk_R.warm hW0 hstr
  obtain ⟨U, hsteps, hrun, hend, hW, hsame, ce, hce, hO⟩ := X₁.ctorThrowS hexec htr (own := own) (cls := cls) (names := names) (ic := ic) hown' hcls hnames h (fun x hx => nomatch hx) hfX hkX hcellA (by rw [hhp, hT]; exact Nat.le_refl _) (msg := .ref sa) rfl
    (g := { method := m, pc := pc + 6, locals := ls, stack := .ref sa :: .ref T.heap.size :: .ref T.heap.size :: rest, locked := none }) rfl hsize rfl rfl (rest := rest) rfl
    (by rw [hb]; exact d6) (by rw [hb]; exact d9) hout hRframes (by simp only [List.map_cons, List.sum_cons, hcat]; omega) hlocks
  obtain ⟨f1, f2⟩ := vx_frame hsame
  rw [hhp] at f1 f2
  have hWs : s.WarmedH U.vm := State.WarmedH.trans hW0 hW
  have hcl : s.vm.findClass cls = some ce.cls := by
    have h9 := hO.cls
    rw [hvm] at h9
    exact h9
  have hall : s.sameButNew ({ U with vm := s.vm } : State) locs mc ms := by
    subst hA
    obtain ⟨e1, e2⟩ := hsame
    rw [State.setFrames_setFrames] at e1
    have h2 : (T.setVm s.vm).sameButNew ({ U with vm := s.vm } : State) [] (0 + 1) (0 + 6) := ⟨e1, e2⟩
    have h3 := X.same.trans h2
    rw [List.append_nil] at h3
    exact h3.mono hc hs
  refine ⟨U, ?_, .threw T.heap.size, hrun, hend, Or.inr ⟨T.heap.size, rfl, cls, ce, locs, hx U hWs.alike f1 (fun q hq => f2 q hq (fun z hz => nomatch hz)), hce, hO.vm, hcl, hWs, hall, hf⟩⟩
  refine st1 _ ?_
  show Steps p.tables e below (T1.setTop { method := m, pc := pc + 3, locals := ls, stack := .ref T.heap.size :: rest, locked := none }) _
  jvm_step X₁.here [X₁.here.top, hexec, d3', Value.category]
  exact X₁.ldcString hexec (own := own) (text := text) (index := is) (a := sa) hown' hstr'.1 hstr'.2
    (g := { method := m, pc := pc + 4, locals := ls, stack := .ref T.heap.size :: .ref T.heap.size :: rest, locked := none }) rfl d4' _ hsteps
/-- 'throw new E("text")', the text by a wide index -/
theorem vx_throwSW {cc : ByteArray} {pc : Nat} (hexec : p.tables.exec = Jvm.exec) (hb : c.code = cc) (hl : l.stackTraces = false) {own cls text : String} {names : List String} {ik is ic mc ms sa : Nat} {A : Nat → Prop}
    (hown : s.vm.findClass own = some m.cls) (hcls : Bundle.fit cls = true) (hnames : ∀ n ∈ names, Bundle.fit n = true)
    (hk : (Cond.classLink own ik cls).before args s = true) (hini : (Cond.initialized cls).before args s = true) (hstr : vk_R own is text sa s) (hat : ∀ w ∈ vx_atS own ic cls names, w.before args s = true)
    (hgood : ∀ w ∈ Cond.classLink own ik cls :: Cond.initialized cls :: vx_atS own ic cls names, vx_ot w = true)
    (hU : vx_Zq Bundle.tN "UNASSIGNED_STACK" Bundle.steD A s s.heap) (hN : vx_Zq Bundle.tN "SUPPRESSED_SENTINEL" Bundle.listD A s s.heap) (hS : va_S A s.heap H locs) (hsize : ls.size = c.maxLocals)
    (d0 : decode cc pc = .ok (.new ik, 3)) (d3 : decode cc (pc + 3) = .ok (.dup, 1)) (d4 : decode cc (pc + 4) = .ok (.ldc_w is, 3)) (d7 : decode cc (pc + 7) = .ok (.invokespecial ic, 3)) (d10 : decode cc (pc + 10) = .ok (.athrow, 1))
    (hout : ∀ x ∈ c.exceptionTable.toList, covers x (pc + 10) = false)
    (hRframes : names.length + 3 < R.frames) (hRlocals : (rest.map fun v => v.category).sum + (13 * (names.length + 1) + 43) ≤ R.locals) (hRcells : cells + 1 ≤ R.cells) (hRslots : slots + 6 ≤ R.slots) (hlocks : meth.locks = false)
    (hx : ∀ t : State, s.vm.Alike t.vm → H.size ≤ t.heap.size → (∀ q : Nat, q < H.size → t.heap[q]? = H[q]?) → XC cls s t)
    (hf : ∀ z ∈ locs, free z.base) (hc : cells + 1 ≤ mc) (hs : slots + 6 ≤ ms) :
    W p l e R s m args below meth c H locs cells slots (vx_MQ below Qc XC args s mc ms free) (F0 m pc ls rest) := by
  intro T hT X
  have htr : e.platform.stackTraces = false := (show e.platform.stackTraces = l.stackTraces by rw [X.admits.platform]).trans hl
  have Y := vx_rebase X (R' := { frames := R.frames, locals := R.locals, cells := 1, slots := 6 }) (Nat.le_refl _) (Nat.le_refl _) hRcells hRslots
  obtain ⟨s', hA⟩ : ∃ z, z = (T.setVm s.vm).setFrames (.invoking m args :: below) := ⟨_, rfl⟩
  rw [← hA] at Y
  have hvm : s'.vm = s.vm := by rw [hA]; rfl
  have hhp : s'.heap = H := by rw [hA]; exact hT
  have hW0 : s.WarmedH s'.vm := by rw [hvm]; exact State.WarmedH.refl s
  have hat' : ∀ w ∈ vx_atS own ic cls names, w.before args s' = true := fun w hw => vx_ot_at hW0 hvm.symm (hgood w (List.mem_cons_of_mem _ (List.mem_cons_of_mem _ hw))) (hat w hw)
  have hk' : (Cond.classLink own ik cls).before args s' = true := vx_ot_at hW0 hvm.symm (hgood _ List.mem_cons_self) hk
  have hini' : (Cond.initialized cls).before args s' = true := vx_ot_at hW0 hvm.symm (hgood _ (List.mem_cons_of_mem _ List.mem_cons_self)) hini
  have hU' : vx_Zq Bundle.tN "UNASSIGNED_STACK" Bundle.steD A s' s'.heap := by rw [hhp]; exact vx_Zq.moved hW0.alike (hU.kept hS.2.1)
  have hN' : vx_Zq Bundle.tN "SUPPRESSED_SENTINEL" Bundle.listD A s' s'.heap := by rw [hhp]; exact vx_Zq.moved hW0.alike (hN.kept hS.2.1)
  have h : ∀ w ∈ Bundle.ownAtoms own ic cls names, w.before args s' = true := vx_own hat' (vx_isRefq hU'.1) (vx_isRefq hN'.1) hU'.2.word hN'.2.word
  have hown' : s'.vm.findClass own = some m.cls := by rw [hvm]; exact hown
  have hins : (Cond.instantiable cls 6).before args s' = true := h _ (by simp [Bundle.ownAtoms])
  obtain ⟨vm₁, cX, kX, hfX, hkX, -, -, X₁, st1⟩ := Y.newCold hexec (own := own) (C := cls) (index := ik) (n := 6) hown' hk' hins hini'
    (g := F0 m pc ls rest) rfl (by rw [hb]; exact d0) (Nat.le_refl _) (Nat.le_refl _)
  generalize hT1 : (T.setVm vm₁).pushCell { cls := cX, slots := kX.instanceTypes.map defaultValue, vm := .none } = T1 at X₁ st1
  have hcat : (Value.ref T.heap.size).category = 1 := rfl
  have hcellA : T1.heap[T.heap.size]? = some (freshCell cX kX) := by rw [← hT1]; exact State.heap_pushCell_size _ _
  have d3' : decode c.code (pc + 3) = .ok (.dup, 1) := by rw [hb]; exact d3
  have d4' : decode c.code (pc + 4) = .ok (.ldc_w is, 3) := by rw [hb]; exact d4
  have hstr' : vk_R own is text sa s' := vk_R.warm hW0 hstr
  obtain ⟨U, hsteps, hrun, hend, hW, hsame, ce, hce, hO⟩ := X₁.ctorThrowS hexec htr (own := own) (cls := cls) (names := names) (ic := ic) hown' hcls hnames h (fun x hx => nomatch hx) hfX hkX hcellA (by rw [hhp, hT]; exact Nat.le_refl _) (msg := .ref sa) rfl
    (g := { method := m, pc := pc + 7, locals := ls, stack := .ref sa :: .ref T.heap.size :: .ref T.heap.size :: rest, locked := none }) rfl hsize rfl rfl (rest := rest) rfl
    (by rw [hb]; exact d7) (by rw [hb]; exact d10) hout hRframes (by simp only [List.map_cons, List.sum_cons, hcat]; omega) hlocks
  obtain ⟨f1, f2⟩ := vx_frame hsame
  rw [hhp] at f1 f2
  have hWs : s.WarmedH U.vm := State.WarmedH.trans hW0 hW
  have hcl : s.vm.findClass cls = some ce.cls := by
    have h9 := hO.cls
    rw [hvm] at h9
    exact h9
  have hall : s.sameButNew ({ U with vm := s.vm } : State) locs mc ms := by
    subst hA
    obtain ⟨e1, e2⟩ := hsame
    rw [State.setFrames_setFrames] at e1
    have h2 : (T.setVm s.vm).sameButNew ({ U with vm := s.vm } : State) [] (0 + 1) (0 + 6) := ⟨e1, e2⟩
    have h3 := X.same.trans h2
    rw [List.append_nil] at h3
    exact h3.mono hc hs
  refine ⟨U, ?_, .threw T.heap.size, hrun, hend, Or.inr ⟨T.heap.size, rfl, cls, ce, locs, hx U hWs.alike f1 (fun q hq => f2 q hq (fun z hz => nomatch hz)), hce, hO.vm, hcl, hWs, hall, hf⟩⟩
  refine st1 _ ?_
  show Steps p.tables e below (T1.setTop { method := m, pc := pc + 3, locals := ls, stack := .ref T.heap.size :: rest, locked := none }) _
  jvm_step X₁.here [X₁.here.top, hexec, d3', Value.category]
  exact X₁.ldcStringW hexec (own := own) (text := text) (index := is) (a := sa) hown' hstr'.1 hstr'.2
    (g := { method := m, pc := pc + 4, locals := ls, stack := .ref T.heap.size :: .ref T.heap.size :: rest, locked := none }) rfl d4' _ hsteps
end Ends
section Bodies
variable {l : Launch}
theorem vx_ofW {y : MethodName} {ws ws' : List Cond} {rm : Room} {Pc : Array Value → State → Prop} {Qc : Array Value → State → Outcome → State → Prop} {XC : String → State → State → Prop} {mc ms : Nat} {free : Addr → Prop} {cc : ByteArray} {maxL : Nat} {ret : Option FieldType}
    (hy : plainName y.cls = true) (hw : ws = Cond.code y cc maxL ret :: ws')
    (body : ∀ p e s m args below meth c s₁, BodyLoose p l y (headSpec ws rm) cc maxL ret e s m args below meth c s₁ → c.maxLocals = maxL → (∀ x ∈ c.exceptionTable.toList, False) → Pc args s →
      W p l e (headSpec ws rm).room s m args below meth c s.heap [] 0 0 (vx_MQ below Qc XC args s mc ms free) (entryFrame m args maxL)) : vx_Met l y ws rm Pc Qc XC mc ms free := by
  refine MetFree.of_bodyS (code := cc) (maxLocals := maxL) (ret := ret) hy ?_ ?_
  · intro args s m h hn
    obtain ⟨meth, c, h1, h2, h3, h4, h5, h6, -, -⟩ := Cond.code_spec hn (atoms_spec (ws := ws) h _ (by rw [hw]; exact List.mem_cons_self))
    exact ⟨meth, c, h1, h2, h3, h4, h5, h6⟩
  · intro p e s m args below meth c s₁ B hml hP _
    have hh0 : s₁.heap = s.heap := by rw [B.state]; rfl
    have ht : ∀ x ∈ c.exceptionTable.toList, False := by
      obtain ⟨meth9, c9, h1, h2, -, -, -, -, h7, -⟩ := Cond.code_spec B.named (atoms_spec (ws := ws) B.pre _ (by rw [hw]; exact List.mem_cons_self))
      cases Option.some.inj (h1.symm.trans B.method)
      cases Option.some.inj (h2.symm.trans (Stand.of_body B).code)
      intro x hx
      rw [Array.isEmpty_iff.mp h7] at hx
      cases hx
    obtain ⟨t, a1, o, b1, b2, b3⟩ := body p e s m args below meth c s₁ B hml ht hP s₁ hh0 (Stand.of_body B)
    exact ⟨t, o, a1, b1, b2, b3⟩
/-- the table of a body with handlers -/
theorem vx_table {p : Program} {x y : MethodName} {S : Spec} {cc bytes : ByteArray} {maxL maxL' : Nat} {ret ret' : Option FieldType} {e : Env} {s s₁ : State} {m : MethodId} {args : Array Value} {below : List Frame} {meth : Method} {c : Code} {hh : List (Nat × Nat × Nat × Nat)}
    (B : BodyLoose p l y S cc maxL ret e s m args below meth c s₁) (h : (Cond.codeWith y bytes maxL' ret' hh).before args s = true) : c.exceptionTable.toList = tableOf hh := by
  obtain ⟨m9, meth9, c9, hn9, h1, h2, -, -, h6, -⟩ := Cond.codeWith_spec h
  cases Option.some.inj (hn9.symm.trans B.named)
  cases Option.some.inj (h1.symm.trans B.method)
  cases Option.some.inj (h2.symm.trans (Stand.of_body B).code)
  rw [← h6, table_eq]
end Bodies
end VXA
/-! ===== END ===== -/
/-! ===== BEGIN a static call of a method with an exception table ===== -/
section VXS
variable {p : Program} {l : Launch} {e : Env} {R : Room} {s : State} {m : MethodId} {args : Array Value} {below : List Frame} {meth : Method} {c : Code} {T : State} {H : Heap} {locs : List Loc} {cells slots : Nat}
abbrev vx_CSW (R : Room) (s : State) (args : Array Value) (own : String) (index : Nat) (y : MethodName) (bytes : ByteArray) (maxL : Nat) (ret : Option FieldType) (hh : List (Nat × Nat × Nat × Nat)) (ws : List Cond) (rm : Room) (mc ms n : Nat) : Prop :=
  (rm.cells = mc ∧ rm.slots = ms ∧ rm.frames + 1 ≤ R.frames ∧ 8 + (maxL + 11) + rm.locals ≤ R.locals ∧ (∀ w ∈ ws, ∀ (a' : Array Value) (U : State), s.WarmedH U.vm → w.before a' U = true) ∧ Cond.codeWith y bytes maxL ret hh ∈ ws) ∧
  (Cond.codeWith y bytes maxL ret hh).before args s = true ∧ (Cond.initialized y.cls).before args s = true ∧ (y.cls ≠ "java/lang/invoke/MethodHandle" ∧ y.cls ≠ "java/lang/invoke/VarHandle") ∧
  (∀ sig, parseMethodDescriptor y.desc = some sig → n = sig.parameters.length) ∧ (Cond.methodLink own index y).before args s = true ∧ (Cond.static y).before args s = true
theorem vx_cwSW {own : String} {index maxL mc ms : Nat} {y : MethodName} {bytes : ByteArray} {ret : Option FieldType} {hh : List (Nat × Nat × Nat × Nat)} {Ts ws ws' : List Cond} {rm : Room} (n : Nat) (ht : ∀ w ∈ Ts, w.before args s = true) (hT : GoodIn Ts (va_wsS own index y ws)) (hw : ws = Cond.codeWith y bytes maxL ret hh :: ws') (hrc : rm.cells = mc) (hrs : rm.slots = ms)
    (hd : y.cls ≠ "java/lang/invoke/MethodHandle" ∧ y.cls ≠ "java/lang/invoke/VarHandle" ∧ (parseMethodDescriptor y.desc).map (fun d => d.parameters.length) = some n) (hR : rm.frames + 1 ≤ R.frames ∧ 8 + (maxL + 11) + rm.locals ≤ R.locals) :
    vx_CSW R s args own index y bytes maxL ret hh ws rm mc ms n := by
  have ok : ∀ w ∈ va_wsS own index y ws, w.before args s = true := fun w h => ht w (hT w h).1
  have hG : GoodIn Ts ws := fun w h => hT w (by unfold va_wsS; exact List.mem_append_right _ h)
  have hc : Cond.codeWith y bytes maxL ret hh ∈ ws := by rw [hw]; exact List.mem_cons_self
  refine ⟨⟨hrc, hrs, hR.1, hR.2, pay_in ht hG, hc⟩, ht _ (hG _ hc).1, ok _ (by simp [va_wsS]), ⟨hd.1, hd.2.1⟩, fun sig h => ?_, ok _ (by simp [va_wsS]), ok _ (by simp [va_wsS])⟩
  have h2 := hd.2.2
  rw [h] at h2
  exact (Option.some.inj h2).symm
theorem vx_callSW (X : Stand p l e R s m args below meth c T locs cells slots) (hexec : p.tables.exec = Jvm.exec) {own : String} {index : Nat} {y : MethodName} {bytes : ByteArray} {maxL : Nat} {ret : Option FieldType} {hh : List (Nat × Nat × Nat × Nat)}
    (hown : s.vm.findClass own = some m.cls) (hlink : (Cond.methodLink own index y).before args s = true) (hstat : (Cond.static y).before args s = true) (hinit : (Cond.initialized y.cls).before args s = true)
    (hcode : (Cond.codeWith y bytes maxL ret hh).before args s = true) (hy : y.cls ≠ "java/lang/invoke/MethodHandle" ∧ y.cls ≠ "java/lang/invoke/VarHandle")
    {W9 : Nat} {Pre : Pt → Array Value → Prop} {Post : Pt → Array Value → Option Value → Pt → Prop} (hK : Back l R p e below s args y 3 W9 Pre Post)
    {g : JFrame} (hg : g.method = m) (hsize : g.locals.size = c.maxLocals) {argsL rest : List Value} (hlen : ∀ sig, parseMethodDescriptor y.desc = some sig → argsL.length = sig.parameters.length)
    (hstack : g.stack = argsL.reverse ++ rest) (hW : 2 * g.monitorRoom + (rest.map fun v => v.category).sum ≤ W9) (hdg : decode c.code g.pc = .ok (.invokestatic index, 3))
    (hpre : ∀ vm₁, s.WarmedH vm₁ → Pre ⟨T.setVm vm₁, locs, cells, slots⟩ argsL.toArray) :
    ∃ (v : Option Value) (vm₁ : Vm) (B : Pt), s.WarmedH vm₁ ∧ Stand p l e R s m args below meth c B.U B.locs B.cells B.slots ∧ Post ⟨T.setVm vm₁, locs, cells, slots⟩ argsL.toArray v B ∧
      ∀ target, Steps p.tables e below (B.U.setTop { g with pc := g.pc + 3, stack := v.toList ++ rest }) target → Steps p.tables e below (T.setTop g) target := by
  obtain ⟨mk, methM, cM, hnamed, hmethM, -, -, -, -, -, -, hsigM⟩ := Cond.codeWith_spec hcode
  have hstatic : methM.isStatic = true := Cond.static_spec hnamed hmethM hstat
  obtain ⟨kP, hkP, -⟩ := className_of_methodNamed hnamed
  have hinitP : kP.init = .initialized := Cond.initialized_spec (findClass_of_methodNamed hnamed) hkP hinit
  obtain ⟨vm₁, X₁, hstep₁⟩ := X.invokestatic hexec hown hlink hnamed hmethM hstatic hkP hinitP hy (g := g) hg (argsL := argsL) (rest := rest) (hlen _ hsigM) hstack hdg
  obtain ⟨v, B, X', hpost, hsteps⟩ := hK m meth c ⟨T.setVm vm₁, locs, cells, slots⟩ { g with stack := rest } (.invokestatic index) mk argsL.toArray X₁ hg hsize hdg hW (X₁.named hnamed) (hpre vm₁ X₁.warmed)
  exact ⟨v, vm₁, B, X₁.warmed, X', hpost, fun target h => hstep₁ _ fun acts => by rw [doInvoke_state]; exact hsteps.trans h⟩
theorem vx_runSW {y : MethodName} {bytes cc : ByteArray} {maxL nL mc ms n index : Nat} {ret : Option FieldType} {hh : List (Nat × Nat × Nat × Nat)} {ws : List Cond} {rm : Room} {Pc : Array Value → State → Prop} {Qc : Array Value → State → Outcome → State → Prop} {free : Addr → Prop} {Ts : List Cond} {own : String} {As rest : List Value} {g : JFrame}
    (S : CallFix p m c cc nL s args Ts own) (hM : Met l y ws rm Pc Qc mc ms free) (cw : vx_CSW R s args own index y bytes maxL ret hh ws rm mc ms n) (hp : PreS s H Pc As)
    (hg : g.method = m) (hn : As.length = n) (hsize : g.locals.size = nL) (hstack : g.stack = As.reverse ++ rest) (hW : 2 * g.monitorRoom + (rest.map fun v => v.category).sum ≤ 8) (hdg : decode cc g.pc = .ok (.invokestatic index, 3)) (hf : cells + mc ≤ R.cells ∧ slots + ms ≤ R.slots) :
    va_Run p l e R s m args below meth c H locs cells slots mc ms g rest (Qc As.toArray) (free) := by
  obtain ⟨⟨hrc, hrs, hfr, hlo, hws, hcw⟩, hcode, hini, hy, hlen, hl, hstt⟩ := cw
  have hK : Back l R p e below s args y 3 8 (PreOf R mc ms Pc) (PostOf Qc mc ms free) := va_backW (hh := hh) (bytes := bytes) (maxL := maxL) (ret := ret) hM hp.1 hrc hrs hfr hlo hws hcw (fun a' U hW => word_at hW (Or.inl (by first | rfl | simp [Cond.onTables, Cond.keeps, Cond.steady])) hini)
  obtain ⟨hx, hb, hml, ho, -⟩ := S
  intro T hT X
  obtain ⟨v, vm₁, ⟨U', l2, c2, s2⟩, hW₁, X', ⟨g', mk, t, L, e1, e2, hq, h1, hL, h2, h3⟩, st⟩ := vx_callSW X hx (hh := hh) (bytes := bytes) (maxL := maxL) (ret := ret) ho hl hstt hini hcode hy hK hg (hsize.trans hml.symm) (argsL := As) (rest := rest) (fun sig h => hn.trans (hlen sig h)) hstack hW (by rw [hb]; exact hdg)
    (fun vm₁ hW₁ => ⟨hf.1, hf.2, hp.2 (T.setVm vm₁) hT hW₁⟩)
  dsimp only [Pt.U, Pt.locs, Pt.cells, Pt.slots] at X' e1 e2 h1 h2 h3 st
  subst h1; subst h2; subst h3
  exact ⟨v, (T.setVm vm₁).calling g' mk As.toArray, t, U', L, hT, X', hL, e1, e2, hq, st⟩
/-- not caught here, past rows that name other classes: it goes on to the caller -/
theorem vx_outP {p : Program} {l : Launch} {e : Env} {R : Room} {s : State} {m : MethodId} {args : Array Value} {below : List Frame} {meth : Method} {c : Code} {H : Heap} {locs : List Loc} {cells slots : Nat} {free : Addr → Prop} {ls : Array Slot} {rest : List Value} {Qc : Array Value → State → Outcome → State → Prop} {XC : String → State → State → Prop}
    {pc : Nat} {own E : String} {ce : Cell} {q : Addr} {mc ms : Nat} (hown : s.vm.findClass own = some m.cls) (hlocks : meth.locks = false)
    (hpass : ∀ z ∈ c.exceptionTable.toList, covers z pc = false ∨ (z.catchType ≠ 0 ∧ ∃ nm : String, (Cond.classLink own z.catchType nm).before args s = true ∧ va_Nc E nm s)) (hcell : H[q]? = some ce) (hv : ce.vm = .none) (hcl : s.vm.findClass E = some ce.cls)
    (hx : ∀ t : State, t.heap = H → s.vm.Alike t.vm → XC E s t) (hf : ∀ z ∈ locs, free z.base) (hc : cells ≤ mc) (hs : slots ≤ ms) :
    vx_W p l e R s m args below meth c H locs cells slots (vx_MQ below Qc XC args s mc ms free) (F0 m pc ls rest) q := by
  intro T hT X
  have hpl : e.platform.magicAccessors = ({} : Platform).magicAccessors := by rw [X.admits.platform]
  obtain ⟨vm', hW', X', st⟩ := X.outThrough hlocks q (g := F0 m pc ls rest) rfl rfl rfl (cell := ce) (by rw [hT]; exact hcell) (by rw [hv]; rfl)
    (by obtain ⟨k9, h9, -⟩ := Vm.findClass_spec hcl; exact ⟨k9, h9⟩) (fun z hz => by
      rcases hpass z hz with h | ⟨hz0, nm, hl1, hn1⟩
      · exact Or.inl h
      · obtain ⟨c6, hc6, hcl6⟩ := Cond.classLink_spec hown hl1 e.platform hpl
        obtain ⟨a8, b8, h1, h2, h3⟩ := hn1
        cases Option.some.inj (h1.symm.trans hcl)
        cases Option.some.inj (h2.symm.trans hc6)
        exact Or.inr ⟨hz0, _, hcl6, h3⟩)
  obtain ⟨g₀, hfr⟩ := X'.frames_eq
  have hcell9 : ((T.setVm vm').setFrames (.throwing q :: below)).heap[q]? = some ce := by
    show T.heap[q]? = some ce
    rw [hT]; exact hcell
  have hend : Ended ((T.setVm vm').setFrames (.throwing q :: below)) below (.threw q) := State.frames_setFrames _ (State.cur_lt_of_frames hfr)
  refine ⟨(T.setVm vm').setFrames (.throwing q :: below), ?_, .threw q, X'.here.running, hend, Or.inr ⟨q, rfl, E, ce, locs, hx _ hT (X'.ends _).1.alike, hcell9, hv, hcl, (X'.ends _).1, (X'.ends _).2.mono hc hs, hf⟩⟩
  rw [X.pushThrowing_eq]
  exact st
/-- a thing of a world lies in the heap -/
theorem vx_lt {D : va_G} {cl : List vw_C} {ws : va_W} {H1 : Heap} (h : va_P D cl ws H1) {k : Nat} {q : Nat × va_E} (hk : ws[k]? = some q) : q.1 < H1.size := (h k q hk).lt
end VXS
/-! ===== END ===== -/
/-! ===== BEGIN methods with a table of their own: called by a name, returning or throwing ===== -/
section VXH
/-! vx_backW, vx_callVX, vx_callSX, vx_callVW, vx_runVW, vx_runVX, vx_runSX, vx_ofWH follow the same proofs as their sisters above (Free/Laws.lean, Shelf42/LK1.lean); vx_outP calls Shelf42/NT130.lean (outThrough). -/
section
variable {l : Launch} {R : Room} {p : Program} {e : Env} {below : List Frame} {s : State} {sargs : Array Value} {y : MethodName} {len W9 : Nat}
theorem vx_backW {ws : List Cond} {rm : Room} {Pc : Array Value → State → Prop} {Qc : Array Value → State → Outcome → State → Prop} {XC : String → State → State → Prop} {mc ms : Nat} {free : Addr → Prop} {bytes : ByteArray} {maxL : Nat} {ret : Option FieldType} {hh : List (Nat × Nat × Nat × Nat)}
    (hM : vx_Met l y ws rm Pc Qc XC mc ms free) (hblind : FrameBlind Pc) (hrc : rm.cells = mc) (hrs : rm.slots = ms)
    (hframes : rm.frames + 1 ≤ R.frames) (hlocals : W9 + (maxL + 11) + rm.locals ≤ R.locals)
    (hws : ∀ w ∈ ws, ∀ a' U, s.WarmedH U.vm → w.before a' U = true) (hcode : Cond.codeWith y bytes maxL ret hh ∈ ws) (hinit : ∀ a' U, s.WarmedH U.vm → (Cond.initialized y.cls).before a' U = true) :
    vx_Back l R p e below s sargs y len W9 (PreOf R mc ms Pc) (PostOf Qc mc ms free) (vx_Post XC mc ms free) := by
  intro m meth c A g ig mk a X hg hsize hdg hW hn hp
  have h1 : (headSpec ws rm).pre.before a A.U = true := atoms_intro fun w hw => hws w hw _ _ X.warmed
  have h2 : (Cond.codeWith y bytes maxL ret hh).before a A.U = true := hws _ hcode _ _ X.warmed
  have h3 : (Cond.initialized y.cls).before a A.U = true := hinit _ _ X.warmed
  have h4 : A.cells + (headSpec ws rm).room.cells ≤ R.cells := by rw [show (headSpec ws rm).room.cells = mc from hrc]; exact hp.1
  have h5 : A.slots + (headSpec ws rm).room.slots ≤ R.slots := by rw [show (headSpec ws rm).room.slots = ms from hrs]; exact hp.2.1
  have hPc : Pc a (A.U.calling g mk a) := hblind _ _ _ _ hp.2.2
  obtain ⟨U, Ls, c0, s0⟩ := A
  dsimp only [Pt.U, Pt.locs, Pt.cells, Pt.slots] at h1 h2 h3 h4 h5 X hn hPc ⊢
  obtain ⟨m9, methY, cY, hn9, hmY, hcY, -, hlY, -⟩ := Cond.codeWith_spec h2
  cases Option.some.inj (hn9.symm.trans hn)
  obtain ⟨kY, hkY, -⟩ := className_of_methodNamed hn
  have hinitY : kY.init = .initialized := Cond.initialized_spec (findClass_of_methodNamed hn) hkY h3
  have h : At U g.method c below := by rw [hg]; exact X.here
  have hlocals9 : W9 + (maxL + 11) + (headSpec ws rm).room.locals ≤ R.locals := hlocals
  have happ : (headSpec ws rm).appliesLoose y e.platform (U.calling g mk a) = true :=
    Spec.appliesLoose_calling (g := g) h hdg hn hkY hinitY
      (X.room_calling (g := g) (R' := (headSpec ws rm).room) hsize hmY hcY hframes (by rw [hlY]; omega) h4 h5) h1
  obtain ⟨mid, hmid⟩ := h.above
  have hfr : (U.setTop g).frames = (.java g :: mid) ++ below := by rw [State.frames_setTop' g h.top, hmid]; rfl
  obtain ⟨o, s₂, hsteps, -, hend, hq⟩ := Steps.callFree hM p X.admits X.cas X.clock (acts := []) hfr happ hPc trivial
  have hq' : vx_Q Qc XC mc ms free a (U.calling g mk a) o s₂ := hq
  rw [State.frames_setTop' g h.top] at hend
  obtain ⟨g₀, hg0⟩ := Option.isSome_iff_exists.mp h.top
  obtain ⟨r, hr⟩ := State.topJava?_eq_some.mp hg0
  have hr' : (({ U with heap := s₂.heap, slotsUsed := s₂.slotsUsed } : State).setVm s₂.vm).frames = .java g₀ :: r := hr
  rcases hq' with ⟨hqc, L, hfe, hL⟩ | ⟨q, rfl, E, ce, L, hx, hce, hcv, hcl, hW₂, hsm, hL⟩
  · obtain ⟨⟨v, rfl⟩, hW₂, e2, q2, q3, q4, q5, q6⟩ := id hfe
    have e3 : s₂ = ({ (U.calling g mk a).setFrames s₂.frames with heap := s₂.heap, slotsUsed := s₂.slotsUsed } : State).setVm s₂.vm := by
      have : s₂ = ({ s₂ with vm := (U.calling g mk a).vm } : State).setVm s₂.vm := rfl
      rw [e2] at this
      exact this
    obtain ⟨c₂, i₂, len₂, hc₂, hd₂, hf₂⟩ := hend
    have hW' : U.WarmedH s₂.vm := hW₂
    have hcc : c₂ = c := by
      have h1 : s₂.code? g.method = U.code? g.method := by
        rw [State.code?_eq, State.code?_eq, hW'.alike.method?]
      exact Option.some.inj (hc₂.symm.trans (h1.trans h.code))
    subst hcc
    have hlen : len₂ = len := by rw [hdg] at hd₂; cases hd₂; rfl
    subst hlen
    have hs₂ : s₂ = (({ U with heap := s₂.heap, slotsUsed := s₂.slotsUsed } : State).setVm s₂.vm).setTop { g with pc := g.pc + len₂, stack := v.toList ++ g.stack } := by
      refine e3.trans ?_
      rw [hf₂, State.calling_eq h.top, State.setFrames_setFrames, State.setTop_of_frames _ hr', hr]
      rfl
    have hsame : U.sameButNew ({ U with heap := s₂.heap, slotsUsed := s₂.slotsUsed } : State) L mc ms := by
      refine ⟨?_, q2, q3, q4, q5, q6⟩
      obtain ⟨t, ht, -⟩ := State.frames_cons hr
      show ({ U with heap := s₂.heap, slotsUsed := s₂.slotsUsed } : State) = { U.setFrames U.frames with heap := s₂.heap, slotsUsed := s₂.slotsUsed }
      rw [State.setFrames_self ht]
    subst hg
    refine Or.inl ⟨v, ⟨(({ U with heap := s₂.heap, slotsUsed := s₂.slotsUsed } : State).setVm s₂.vm), Ls ++ L, c0 + mc, s0 + ms⟩,
      ⟨X.admits, X.cas, X.clock, X.frames, X.room, X.hears, X.method, X.code, (X.here.setHeapUsed s₂.heap s₂.slotsUsed).setVm hW'.alike, X.tail, State.WarmedH.trans X.warmed hW', X.limits, X.bytes, X.same.trans (hsame.setVm s.vm)⟩,
      ⟨g, mk, s₂, L, rfl, rfl, hqc, rfl, hL, rfl, rfl⟩, ?_⟩
    show Steps p.tables e below _ ((({ U with heap := s₂.heap, slotsUsed := s₂.slotsUsed } : State).setVm s₂.vm).setTop { g with pc := g.pc + len₂, stack := v.toList ++ g.stack })
    rw [← hs₂]
    exact hsteps
  · obtain ⟨e2, q2, q3, q4, q5, q6⟩ := id hsm
    have e3 : s₂ = ({ (U.calling g mk a).setFrames s₂.frames with heap := s₂.heap, slotsUsed := s₂.slotsUsed } : State).setVm s₂.vm := by
      have : s₂ = ({ s₂ with vm := (U.calling g mk a).vm } : State).setVm s₂.vm := rfl
      rw [e2] at this
      exact this
    have hf₂ : s₂.frames = .throwing q :: .java g :: U.frames.tail := hend
    have hW' : U.WarmedH s₂.vm := hW₂
    have hs₂ : s₂ = ((({ U with heap := s₂.heap, slotsUsed := s₂.slotsUsed } : State).setVm s₂.vm).setTop g).pushFrame (.throwing q) := by
      refine e3.trans ?_
      rw [hf₂, State.calling_eq h.top, State.setFrames_setFrames, State.pushFrame, State.frames_setTop _ hr', State.setTop_of_frames _ hr', State.setFrames_setFrames, hr]
      rfl
    have hsame : U.sameButNew ({ U with heap := s₂.heap, slotsUsed := s₂.slotsUsed } : State) L mc ms := by
      refine ⟨?_, q2, q3, q4, q5, q6⟩
      obtain ⟨t, ht, -⟩ := State.frames_cons hr
      show ({ U with heap := s₂.heap, slotsUsed := s₂.slotsUsed } : State) = { U.setFrames U.frames with heap := s₂.heap, slotsUsed := s₂.slotsUsed }
      rw [State.setFrames_self ht]
    subst hg
    refine Or.inr ⟨q, ⟨(({ U with heap := s₂.heap, slotsUsed := s₂.slotsUsed } : State).setVm s₂.vm), Ls ++ L, c0 + mc, s0 + ms⟩,
      ⟨X.admits, X.cas, X.clock, X.frames, X.room, X.hears, X.method, X.code, (X.here.setHeapUsed s₂.heap s₂.slotsUsed).setVm hW'.alike, X.tail, State.WarmedH.trans X.warmed hW', X.limits, X.bytes, X.same.trans (hsame.setVm s.vm)⟩,
      ⟨g, mk, s₂, L, E, ce, rfl, rfl, hx, hce, hcv, hcl, rfl, hL, rfl, rfl⟩, ?_⟩
    show Steps p.tables e below _ (((({ U with heap := s₂.heap, slotsUsed := s₂.slotsUsed } : State).setVm s₂.vm).setTop g).pushFrame (.throwing q))
    rw [← hs₂]
    exact hsteps
end
variable {p : Program} {l : Launch} {e : Env} {R : Room} {s : State} {m : MethodId} {args : Array Value} {below : List Frame} {meth : Method} {c : Code} {T : State} {H : Heap} {locs : List Loc} {cells slots : Nat}
theorem vx_callVX (X : Stand p l e R s m args below meth c T locs cells slots) (hexec : p.tables.exec = Jvm.exec) {own C : String} {index : Nat} {y : MethodName} {bytes : ByteArray} {maxL : Nat} {ret : Option FieldType} {hh : List (Nat × Nat × Nat × Nat)}
    (hown : s.vm.findClass own = some m.cls) (hlink : (Cond.methodLink own index y).before args s = true) (hinst : (Cond.instanceMethod y).before args s = true) (hsel : (Cond.selects C y y).before args s = true)
    (hcode : (Cond.codeWith y bytes maxL ret hh).before args s = true) (hy : y.cls ≠ "java/lang/invoke/MethodHandle" ∧ y.cls ≠ "java/lang/invoke/VarHandle")
    {W9 : Nat} {Pre : Pt → Array Value → Prop} {Post : Pt → Array Value → Option Value → Pt → Prop} {PostX : Pt → Array Value → Addr → Pt → Prop} (hK : vx_Back l R p e below s args y 3 W9 Pre Post PostX)
    {b : Addr} {cellB : Cell} (hcell : T.heap[b]? = some cellB) (hobj : cellB.vm.isStatics = false) (hcls : s.vm.findClass C = some cellB.cls)
    {g : JFrame} (hg : g.method = m) (hsize : g.locals.size = c.maxLocals) {argsL rest : List Value} (hlen : ∀ sig, parseMethodDescriptor y.desc = some sig → argsL.length = sig.parameters.length)
    (hstack : g.stack = argsL.reverse ++ .ref b :: rest) (hW : 2 * g.monitorRoom + (rest.map fun v => v.category).sum ≤ W9) (hdg : decode c.code g.pc = .ok (.invokevirtual index, 3))
    (hpre : ∀ vm₁, s.WarmedH vm₁ → Pre ⟨T.setVm vm₁, locs, cells, slots⟩ (Value.ref b :: argsL).toArray) :
    (∃ (v : Option Value) (vm₁ : Vm) (B : Pt), s.WarmedH vm₁ ∧ Stand p l e R s m args below meth c B.U B.locs B.cells B.slots ∧ Post ⟨T.setVm vm₁, locs, cells, slots⟩ (Value.ref b :: argsL).toArray v B ∧
      ∀ target, Steps p.tables e below (B.U.setTop { g with pc := g.pc + 3, stack := v.toList ++ rest }) target → Steps p.tables e below (T.setTop g) target) ∨
    (∃ (q : Addr) (vm₁ : Vm) (B : Pt), s.WarmedH vm₁ ∧ Stand p l e R s m args below meth c B.U B.locs B.cells B.slots ∧ PostX ⟨T.setVm vm₁, locs, cells, slots⟩ (Value.ref b :: argsL).toArray q B ∧
      Steps p.tables e below (T.setTop g) ((B.U.setTop { g with stack := rest }).pushFrame (.throwing q))) := by
  obtain ⟨mk, methM, hnamed, hmethM, hstM, habM⟩ := Cond.instanceMethod_spec hinst
  obtain ⟨m8, methM', cM, hn8, hmethM', -, -, -, -, -, -, hsigM⟩ := Cond.codeWith_spec hcode
  cases Option.some.inj (hn8.symm.trans hnamed)
  cases hmethM.symm.trans hmethM'
  obtain ⟨c2, r2, m2, q1, q2, q3, q4, kP, hkP, hkPi⟩ := Cond.selects_spec hsel
  cases hcls.symm.trans q1
  cases (State.methodFound?_of_named hnamed hy).symm.trans q2
  cases hnamed.symm.trans q3
  have hselP : selectMethod e.platform s.vm cellB.cls mk = .method mk := by rw [Launch.admits_selectMethod X.admits]; exact q4
  obtain ⟨vm₁, X₁, hstep₁⟩ := X.invokevirtual hexec hown hlink hnamed hmethM hstM hkP hkPi hy (a := b) (cell := cellB) hcell
    (fun z h => by rw [h] at hobj; cases hobj) hselP hmethM habM hkP hkPi (g := g) hg (argsL := argsL) (rest := rest) (hlen _ hsigM) hstack hdg
  rcases hK m meth c ⟨T.setVm vm₁, locs, cells, slots⟩ { g with stack := rest } (.invokevirtual index) mk (Value.ref b :: argsL).toArray X₁ hg hsize hdg hW (X₁.named hnamed) (hpre vm₁ X₁.warmed) with ⟨v, B, X', hpost, hsteps⟩ | ⟨q, B, X', hpost, hsteps⟩
  · exact Or.inl ⟨v, vm₁, B, X₁.warmed, X', hpost, fun target h => hstep₁ _ fun acts => by rw [doInvoke_state]; exact hsteps.trans h⟩
  · exact Or.inr ⟨q, vm₁, B, X₁.warmed, X', hpost, hstep₁ _ fun acts => by rw [doInvoke_state]; exact hsteps⟩
theorem vx_callSX (X : Stand p l e R s m args below meth c T locs cells slots) (hexec : p.tables.exec = Jvm.exec) {own : String} {index : Nat} {y : MethodName} {bytes : ByteArray} {maxL : Nat} {ret : Option FieldType} {hh : List (Nat × Nat × Nat × Nat)}
    (hown : s.vm.findClass own = some m.cls) (hlink : (Cond.methodLink own index y).before args s = true) (hstat : (Cond.static y).before args s = true) (hinit : (Cond.initialized y.cls).before args s = true)
    (hcode : (Cond.codeWith y bytes maxL ret hh).before args s = true) (hy : y.cls ≠ "java/lang/invoke/MethodHandle" ∧ y.cls ≠ "java/lang/invoke/VarHandle")
    {W9 : Nat} {Pre : Pt → Array Value → Prop} {Post : Pt → Array Value → Option Value → Pt → Prop} {PostX : Pt → Array Value → Addr → Pt → Prop} (hK : vx_Back l R p e below s args y 3 W9 Pre Post PostX)
    {g : JFrame} (hg : g.method = m) (hsize : g.locals.size = c.maxLocals) {argsL rest : List Value} (hlen : ∀ sig, parseMethodDescriptor y.desc = some sig → argsL.length = sig.parameters.length)
    (hstack : g.stack = argsL.reverse ++ rest) (hW : 2 * g.monitorRoom + (rest.map fun v => v.category).sum ≤ W9) (hdg : decode c.code g.pc = .ok (.invokestatic index, 3))
    (hpre : ∀ vm₁, s.WarmedH vm₁ → Pre ⟨T.setVm vm₁, locs, cells, slots⟩ argsL.toArray) :
    (∃ (v : Option Value) (vm₁ : Vm) (B : Pt), s.WarmedH vm₁ ∧ Stand p l e R s m args below meth c B.U B.locs B.cells B.slots ∧ Post ⟨T.setVm vm₁, locs, cells, slots⟩ argsL.toArray v B ∧
      ∀ target, Steps p.tables e below (B.U.setTop { g with pc := g.pc + 3, stack := v.toList ++ rest }) target → Steps p.tables e below (T.setTop g) target) ∨
    (∃ (q : Addr) (vm₁ : Vm) (B : Pt), s.WarmedH vm₁ ∧ Stand p l e R s m args below meth c B.U B.locs B.cells B.slots ∧ PostX ⟨T.setVm vm₁, locs, cells, slots⟩ argsL.toArray q B ∧
      Steps p.tables e below (T.setTop g) ((B.U.setTop { g with stack := rest }).pushFrame (.throwing q))) := by
  obtain ⟨mk, methM, cM, hnamed, hmethM, -, -, -, -, -, -, hsigM⟩ := Cond.codeWith_spec hcode
  have hstatic : methM.isStatic = true := Cond.static_spec hnamed hmethM hstat
  obtain ⟨kP, hkP, -⟩ := className_of_methodNamed hnamed
  have hinitP : kP.init = .initialized := Cond.initialized_spec (findClass_of_methodNamed hnamed) hkP hinit
  obtain ⟨vm₁, X₁, hstep₁⟩ := X.invokestatic hexec hown hlink hnamed hmethM hstatic hkP hinitP hy (g := g) hg (argsL := argsL) (rest := rest) (hlen _ hsigM) hstack hdg
  rcases hK m meth c ⟨T.setVm vm₁, locs, cells, slots⟩ { g with stack := rest } (.invokestatic index) mk argsL.toArray X₁ hg hsize hdg hW (X₁.named hnamed) (hpre vm₁ X₁.warmed) with ⟨v, B, X', hpost, hsteps⟩ | ⟨q, B, X', hpost, hsteps⟩
  · exact Or.inl ⟨v, vm₁, B, X₁.warmed, X', hpost, fun target h => hstep₁ _ fun acts => by rw [doInvoke_state]; exact hsteps.trans h⟩
  · exact Or.inr ⟨q, vm₁, B, X₁.warmed, X', hpost, hstep₁ _ fun acts => by rw [doInvoke_state]; exact hsteps⟩
theorem vx_callVW (X : Stand p l e R s m args below meth c T locs cells slots) (hexec : p.tables.exec = Jvm.exec) {own C : String} {index : Nat} {y : MethodName} {bytes : ByteArray} {maxL : Nat} {ret : Option FieldType} {hh : List (Nat × Nat × Nat × Nat)}
    (hown : s.vm.findClass own = some m.cls) (hlink : (Cond.methodLink own index y).before args s = true) (hinst : (Cond.instanceMethod y).before args s = true) (hsel : (Cond.selects C y y).before args s = true)
    (hcode : (Cond.codeWith y bytes maxL ret hh).before args s = true) (hy : y.cls ≠ "java/lang/invoke/MethodHandle" ∧ y.cls ≠ "java/lang/invoke/VarHandle")
    {W9 : Nat} {Pre : Pt → Array Value → Prop} {Post : Pt → Array Value → Option Value → Pt → Prop} (hK : Back l R p e below s args y 3 W9 Pre Post)
    {b : Addr} {cellB : Cell} (hcell : T.heap[b]? = some cellB) (hobj : cellB.vm.isStatics = false) (hcls : s.vm.findClass C = some cellB.cls)
    {g : JFrame} (hg : g.method = m) (hsize : g.locals.size = c.maxLocals) {argsL rest : List Value} (hlen : ∀ sig, parseMethodDescriptor y.desc = some sig → argsL.length = sig.parameters.length)
    (hstack : g.stack = argsL.reverse ++ .ref b :: rest) (hW : 2 * g.monitorRoom + (rest.map fun v => v.category).sum ≤ W9) (hdg : decode c.code g.pc = .ok (.invokevirtual index, 3))
    (hpre : ∀ vm₁, s.WarmedH vm₁ → Pre ⟨T.setVm vm₁, locs, cells, slots⟩ (Value.ref b :: argsL).toArray) :
    ∃ (v : Option Value) (vm₁ : Vm) (B : Pt), s.WarmedH vm₁ ∧ Stand p l e R s m args below meth c B.U B.locs B.cells B.slots ∧ Post ⟨T.setVm vm₁, locs, cells, slots⟩ (Value.ref b :: argsL).toArray v B ∧
      ∀ target, Steps p.tables e below (B.U.setTop { g with pc := g.pc + 3, stack := v.toList ++ rest }) target → Steps p.tables e below (T.setTop g) target := by
  obtain ⟨mk, methM, hnamed, hmethM, hstM, habM⟩ := Cond.instanceMethod_spec hinst
  obtain ⟨m8, methM', cM, hn8, hmethM', -, -, -, -, -, -, hsigM⟩ := Cond.codeWith_spec hcode
  cases Option.some.inj (hn8.symm.trans hnamed)
  cases hmethM.symm.trans hmethM'
  obtain ⟨c2, r2, m2, q1, q2, q3, q4, kP, hkP, hkPi⟩ := Cond.selects_spec hsel
  cases hcls.symm.trans q1
  cases (State.methodFound?_of_named hnamed hy).symm.trans q2
  cases hnamed.symm.trans q3
  have hselP : selectMethod e.platform s.vm cellB.cls mk = .method mk := by rw [Launch.admits_selectMethod X.admits]; exact q4
  obtain ⟨vm₁, X₁, hstep₁⟩ := X.invokevirtual hexec hown hlink hnamed hmethM hstM hkP hkPi hy (a := b) (cell := cellB) hcell
    (fun z h => by rw [h] at hobj; cases hobj) hselP hmethM habM hkP hkPi (g := g) hg (argsL := argsL) (rest := rest) (hlen _ hsigM) hstack hdg
  obtain ⟨v, B, X', hpost, hsteps⟩ := hK m meth c ⟨T.setVm vm₁, locs, cells, slots⟩ { g with stack := rest } (.invokevirtual index) mk (Value.ref b :: argsL).toArray X₁ hg hsize hdg hW (X₁.named hnamed) (hpre vm₁ X₁.warmed)
  exact ⟨v, vm₁, B, X₁.warmed, X', hpost, fun target h => hstep₁ _ fun acts => by rw [doInvoke_state]; exact hsteps.trans h⟩
abbrev vx_CVW (R : Room) (s : State) (args : Array Value) (own C : String) (index : Nat) (y : MethodName) (bytes : ByteArray) (maxL : Nat) (ret : Option FieldType) (hh : List (Nat × Nat × Nat × Nat)) (ws : List Cond) (rm : Room) (mc ms n : Nat) : Prop :=
  (rm.cells = mc ∧ rm.slots = ms ∧ rm.frames + 1 ≤ R.frames ∧ 8 + (maxL + 11) + rm.locals ≤ R.locals ∧ (∀ w ∈ ws, ∀ (a' : Array Value) (U : State), s.WarmedH U.vm → w.before a' U = true) ∧ Cond.codeWith y bytes maxL ret hh ∈ ws) ∧
  (Cond.codeWith y bytes maxL ret hh).before args s = true ∧ (Cond.initialized y.cls).before args s = true ∧ (y.cls ≠ "java/lang/invoke/MethodHandle" ∧ y.cls ≠ "java/lang/invoke/VarHandle") ∧
  (∀ sig, parseMethodDescriptor y.desc = some sig → n = sig.parameters.length) ∧ (Cond.methodLink own index y).before args s = true ∧ (Cond.instanceMethod y).before args s = true ∧ (Cond.selects C y y).before args s = true
theorem vx_cwVW {own C : String} {index maxL mc ms : Nat} {y : MethodName} {bytes : ByteArray} {ret : Option FieldType} {hh : List (Nat × Nat × Nat × Nat)} {Ts ws ws' : List Cond} {rm : Room} (n : Nat) (ht : ∀ w ∈ Ts, w.before args s = true) (hT : GoodIn Ts (wsV own index C y ws)) (hw : ws = Cond.codeWith y bytes maxL ret hh :: ws') (hrc : rm.cells = mc) (hrs : rm.slots = ms)
    (hd : y.cls = C ∧ y.cls ≠ "java/lang/invoke/MethodHandle" ∧ y.cls ≠ "java/lang/invoke/VarHandle" ∧ (parseMethodDescriptor y.desc).map (fun d => d.parameters.length) = some n) (hR : rm.frames + 1 ≤ R.frames ∧ 8 + (maxL + 11) + rm.locals ≤ R.locals) :
    vx_CVW R s args own C index y bytes maxL ret hh ws rm mc ms n := by
  obtain ⟨hC, hd⟩ := hd
  subst hC
  have ok : ∀ w ∈ wsV own index y.cls y ws, w.before args s = true := fun w h => ht w (hT w h).1
  have hG : GoodIn Ts ws := fun w h => hT w (by unfold wsV; exact List.mem_append_right _ h)
  have hc : Cond.codeWith y bytes maxL ret hh ∈ ws := by rw [hw]; exact List.mem_cons_self
  refine ⟨⟨hrc, hrs, hR.1, hR.2, pay_in ht hG, hc⟩, ht _ (hG _ hc).1, ok _ (by simp [wsV]), ⟨hd.1, hd.2.1⟩, fun sig h => ?_, ok _ (by simp [wsV]), ok _ (by simp [wsV]), ok _ (by simp [wsV])⟩
  have h2 := hd.2.2
  rw [h] at h2
  exact (Option.some.inj h2).symm
theorem vx_runVW {y : MethodName} {bytes cc : ByteArray} {maxL nL mc ms n index : Nat} {ret : Option FieldType} {hh : List (Nat × Nat × Nat × Nat)} {ws : List Cond} {rm : Room} {Pc : Array Value → State → Prop} {Qc : Array Value → State → Outcome → State → Prop} {free : Addr → Prop} {Ts : List Cond} {own C : String} {b : Addr} {As rest : List Value} {g : JFrame}
    (S : CallFix p m c cc nL s args Ts own) (hM : Met l y ws rm Pc Qc mc ms free) (cw : vx_CVW R s args own C index y bytes maxL ret hh ws rm mc ms n) (hp : PreV s H C b Pc As)
    (hg : g.method = m) (hn : As.length = n) (hsize : g.locals.size = nL) (hstack : g.stack = As.reverse ++ .ref b :: rest) (hW : 2 * g.monitorRoom + (rest.map fun v => v.category).sum ≤ 8) (hdg : decode cc g.pc = .ok (.invokevirtual index, 3)) (hf : cells + mc ≤ R.cells ∧ slots + ms ≤ R.slots) :
    va_Run p l e R s m args below meth c H locs cells slots mc ms g rest (Qc (Value.ref b :: As).toArray) free := by
  obtain ⟨⟨hrc, hrs, hfr, hlo, hws, hcw⟩, hcode, hini, hy, hlen, hl, hin, hse⟩ := cw
  have hK : Back l R p e below s args y 3 8 (PreOf R mc ms Pc) (PostOf Qc mc ms free) := va_backW (hh := hh) (bytes := bytes) (maxL := maxL) (ret := ret) hM hp.1 hrc hrs hfr hlo hws hcw (fun a' U hW => word_at hW (Or.inl (by first | rfl | simp [Cond.onTables, Cond.keeps, Cond.steady])) hini)
  obtain ⟨hx, hb, hml, ho, -⟩ := S
  obtain ⟨-, ⟨cellB, hcB, hoB, hclB⟩, hPc⟩ := hp
  intro T hT X
  obtain ⟨v, vm₁, ⟨U', l2, c2, s2⟩, hW₁, X', ⟨g', mk, t, L, e1, e2, hq, h1, hL, h2, h3⟩, st⟩ := vx_callVW X hx (C := C) (hh := hh) (bytes := bytes) (maxL := maxL) (ret := ret) ho hl hin hse hcode hy hK (by rw [hT]; exact hcB) hoB hclB hg (hsize.trans hml.symm) (argsL := As) (rest := rest) (fun sig h => hn.trans (hlen sig h)) hstack hW (by rw [hb]; exact hdg)
    (fun vm₁ hW₁ => ⟨hf.1, hf.2, hPc (T.setVm vm₁) hT hW₁⟩)
  dsimp only [Pt.U, Pt.locs, Pt.cells, Pt.slots] at X' e1 e2 h1 h2 h3 st
  subst h1; subst h2; subst h3
  exact ⟨v, (T.setVm vm₁).calling g' mk (Value.ref b :: As).toArray, t, U', L, hT, X', hL, e1, e2, hq, st⟩
section
variable {y : MethodName} {bytes cc : ByteArray} {maxL nL mc ms n index : Nat} {ret : Option FieldType} {ws : List Cond} {rm : Room} {Pc : Array Value → State → Prop} {Qc : Array Value → State → Outcome → State → Prop} {XC : String → State → State → Prop} {free : Addr → Prop} {Ts : List Cond} {own C : String} {b : Addr} {As rest : List Value} {g : JFrame}
theorem vx_runVX {hh : List (Nat × Nat × Nat × Nat)} (S : CallFix p m c cc nL s args Ts own) (hM : vx_Met l y ws rm Pc Qc XC mc ms free) (cw : vx_CVW R s args own C index y bytes maxL ret hh ws rm mc ms n) (hp : PreV s H C b Pc As)
    (hg : g.method = m) (hn : As.length = n) (hsize : g.locals.size = nL) (hstack : g.stack = As.reverse ++ .ref b :: rest) (hW : 2 * g.monitorRoom + (rest.map fun v => v.category).sum ≤ 8) (hdg : decode cc g.pc = .ok (.invokevirtual index, 3)) (hf : cells + mc ≤ R.cells ∧ slots + ms ≤ R.slots) :
    vx_Run p l e R s m args below meth c H locs cells slots mc ms g rest (Qc (Value.ref b :: As).toArray) XC free := by
  obtain ⟨⟨hrc, hrs, hfr, hlo, hws, hcw⟩, hcode, hini, hy, hlen, hl, hin, hse⟩ := cw
  have hK : vx_Back l R p e below s args y 3 8 (PreOf R mc ms Pc) (PostOf Qc mc ms free) (vx_Post XC mc ms free) := vx_backW (hh := hh) (bytes := bytes) (maxL := maxL) (ret := ret) hM hp.1 hrc hrs hfr hlo hws hcw (fun a' U hW => word_at hW (Or.inl (by first | rfl | simp [Cond.onTables, Cond.keeps, Cond.steady])) hini)
  obtain ⟨hx, hb, hml, ho, -⟩ := S
  obtain ⟨-, ⟨cellB, hcB, hoB, hclB⟩, hPc⟩ := hp
  intro T hT X
  rcases vx_callVX X hx (C := C) (hh := hh) (bytes := bytes) (maxL := maxL) (ret := ret) ho hl hin hse hcode hy hK (by rw [hT]; exact hcB) hoB hclB hg (hsize.trans hml.symm) (argsL := As) (rest := rest) (fun sig h => hn.trans (hlen sig h)) hstack hW (by rw [hb]; exact hdg)
    (fun vm₁ hW₁ => ⟨hf.1, hf.2, hPc (T.setVm vm₁) hT hW₁⟩) with ⟨v, vm₁, ⟨U', l2, c2, s2⟩, hW₁, X', ⟨g', mk, t, L, e1, e2, hq, h1, hL, h2, h3⟩, st⟩ | ⟨q, vm₁, ⟨U', l2, c2, s2⟩, hW₁, X', ⟨g', mk, t, L, E, ce, e1, e2, hq, hce, hcv, hcl, h1, hL, h2, h3⟩, st⟩
  · dsimp only [Pt.U, Pt.locs, Pt.cells, Pt.slots] at X' e1 e2 h1 h2 h3 st
    subst h1; subst h2; subst h3
    exact Or.inl ⟨v, (T.setVm vm₁).calling g' mk (Value.ref b :: As).toArray, t, U', L, hT, X', hL, e1, e2, hq, st⟩
  · dsimp only [Pt.U, Pt.locs, Pt.cells, Pt.slots] at X' e1 e2 h1 h2 h3 st hcl
    subst h1; subst h2; subst h3
    exact Or.inr ⟨q, (T.setVm vm₁).calling g' mk (Value.ref b :: As).toArray, t, U', L, E, ce, hT, X', hL, e1, e2, hq, hce, hcv, vx_cls hW₁ hcl, st⟩
theorem vx_runSX {hh : List (Nat × Nat × Nat × Nat)} (S : CallFix p m c cc nL s args Ts own) (hM : vx_Met l y ws rm Pc Qc XC mc ms free) (cw : vx_CSW R s args own index y bytes maxL ret hh ws rm mc ms n) (hp : PreS s H Pc As)
    (hg : g.method = m) (hn : As.length = n) (hsize : g.locals.size = nL) (hstack : g.stack = As.reverse ++ rest) (hW : 2 * g.monitorRoom + (rest.map fun v => v.category).sum ≤ 8) (hdg : decode cc g.pc = .ok (.invokestatic index, 3)) (hf : cells + mc ≤ R.cells ∧ slots + ms ≤ R.slots) :
    vx_Run p l e R s m args below meth c H locs cells slots mc ms g rest (Qc As.toArray) XC free := by
  obtain ⟨⟨hrc, hrs, hfr, hlo, hws, hcw⟩, hcode, hini, hy, hlen, hl, hstt⟩ := cw
  have hK : vx_Back l R p e below s args y 3 8 (PreOf R mc ms Pc) (PostOf Qc mc ms free) (vx_Post XC mc ms free) := vx_backW (hh := hh) (bytes := bytes) (maxL := maxL) (ret := ret) hM hp.1 hrc hrs hfr hlo hws hcw (fun a' U hW => word_at hW (Or.inl (by first | rfl | simp [Cond.onTables, Cond.keeps, Cond.steady])) hini)
  obtain ⟨hx, hb, hml, ho, -⟩ := S
  intro T hT X
  rcases vx_callSX X hx (hh := hh) (bytes := bytes) (maxL := maxL) (ret := ret) ho hl hstt hini hcode hy hK hg (hsize.trans hml.symm) (argsL := As) (rest := rest) (fun sig h => hn.trans (hlen sig h)) hstack hW (by rw [hb]; exact hdg)
    (fun vm₁ hW₁ => ⟨hf.1, hf.2, hp.2 (T.setVm vm₁) hT hW₁⟩) with ⟨v, vm₁, ⟨U', l2, c2, s2⟩, hW₁, X', ⟨g', mk, t, L, e1, e2, hq, h1, hL, h2, h3⟩, st⟩ | ⟨q, vm₁, ⟨U', l2, c2, s2⟩, hW₁, X', ⟨g', mk, t, L, E, ce, e1, e2, hq, hce, hcv, hcl, h1, hL, h2, h3⟩, st⟩
  · dsimp only [Pt.U, Pt.locs, Pt.cells, Pt.slots] at X' e1 e2 h1 h2 h3 st
    subst h1; subst h2; subst h3
    exact Or.inl ⟨v, (T.setVm vm₁).calling g' mk As.toArray, t, U', L, hT, X', hL, e1, e2, hq, st⟩
  · dsimp only [Pt.U, Pt.locs, Pt.cells, Pt.slots] at X' e1 e2 h1 h2 h3 st hcl
    subst h1; subst h2; subst h3
    exact Or.inr ⟨q, (T.setVm vm₁).calling g' mk As.toArray, t, U', L, E, ce, hT, X', hL, e1, e2, hq, hce, hcv, vx_cls hW₁ hcl, st⟩
end
end VXH
theorem vx_ofWH {l : Launch} {y : MethodName} {ws ws' : List Cond} {rm : Room} {Pc : Array Value → State → Prop} {Qc : Array Value → State → Outcome → State → Prop} {XC : String → State → State → Prop} {mc ms : Nat} {free : Addr → Prop} {cc : ByteArray} {maxL : Nat} {ret : Option FieldType} {hh : List (Nat × Nat × Nat × Nat)}
    (hy : plainName y.cls = true) (hw : ws = Cond.codeWith y cc maxL ret hh :: ws')
    (body : ∀ p e s m args below meth c s₁, BodyLoose p l y (headSpec ws rm) cc maxL ret e s m args below meth c s₁ → c.maxLocals = maxL → Pc args s →
      W p l e (headSpec ws rm).room s m args below meth c s.heap [] 0 0 (vx_MQ below Qc XC args s mc ms free) (entryFrame m args maxL)) : vx_Met l y ws rm Pc Qc XC mc ms free := by
  refine MetFree.of_bodyS (code := cc) (maxLocals := maxL) (ret := ret) hy ?_ ?_
  · intro args s m h hn
    obtain ⟨m9, meth, c, hn9, h1, h2, h3, h4, -, h5, h6, -⟩ := Cond.codeWith_spec (atoms_spec (ws := ws) h _ (by rw [hw]; exact List.mem_cons_self))
    cases hn.symm.trans hn9
    exact ⟨meth, c, h1, h2, h3, h4, h5, h6⟩
  · intro p e s m args below meth c s₁ B hml hP _
    have hh0 : s₁.heap = s.heap := by rw [B.state]; rfl
    obtain ⟨t, a1, o, b1, b2, b3⟩ := body p e s m args below meth c s₁ B hml hP s₁ hh0 (Stand.of_body B)
    exact ⟨t, o, a1, b1, b2, b3⟩
/-! ===== END ===== -/
end
section
def R_H : String := "ContractHouse"
def R_S : String := "ContractHouse$Sizes"
def R_P : String := "ContractHouse$Plan"
def R_R : String := "ContractHouse$Row"
def R_M : String := "ContractHouseModel"
def R_L : String := "ContractHouseLaw"
def R_I : String := "java/lang/Integer"
def R_Ma : String := "java/lang/Math"
def R_Ar : String := "java/util/Arrays"
def R_Sy : String := "java/lang/System"
def T_H : u_T := fun k => match k with
  | 0 => ("ContractHouse", "sizes", "LContractHouse$Sizes;", true)
  | 1 => ("ContractHouse", "plan", "LContractHouse$Plan;", true)
  | 2 => ("ContractHouse", "row", "LContractHouse$Row;", true)
  | 3 => ("ContractHouse", "tables", "I", false)
  | 4 => ("ContractHouse", "tableLabels", "[I", true)
  | 5 => ("ContractHouse", "operands", "I", false)
  | 6 => ("ContractHouse", "operandTables", "[I", true)
  | 7 => ("ContractHouse", "operandLabels", "[I", true)
  | 8 => ("ContractHouse", "resultLabels", "I", false)
  | 9 => ("ContractHouse", "homes", "[I", true)
  | 10 => ("ContractHouse", "planned", "Z", false)
  | _ => ("ContractHouse", "summed", "Z", false)
def ty_H : Nat → FieldType := fun k => match k with
  | 0 => .object "ContractHouse$Sizes"
  | 1 => .object "ContractHouse$Plan"
  | 2 => .object "ContractHouse$Row"
  | 3 => .int
  | 4 => .array .int
  | 5 => .int
  | 6 => .array .int
  | 7 => .array .int
  | 8 => .int
  | 9 => .array .int
  | 10 => .boolean
  | _ => .boolean
theorem nm_H : ∀ a, a < 12 → ∀ b, b < 12 → a ≠ b → (T_H a).2.1 ≠ (T_H b).2.1 := by decide +kernel
theorem ok_H : ∀ k, k < 12 → parseFieldDescriptor (T_H k).2.2.1 = some (ty_H k) := by decide +kernel
def T_S : u_T := fun k => match k with
  | _ => ("ContractHouse$Sizes", "sizes", "[I", true)
def ty_S : Nat → FieldType := fun k => match k with
  | _ => .array .int
theorem nm_S : ∀ a, a < 1 → ∀ b, b < 1 → a ≠ b → (T_S a).2.1 ≠ (T_S b).2.1 := by decide +kernel
theorem ok_S : ∀ k, k < 1 → parseFieldDescriptor (T_S k).2.2.1 = some (ty_S k) := by decide +kernel
def T_P : u_T := fun k => match k with
  | 0 => ("ContractHouse$Plan", "sizes", "LContractHouse$Sizes;", true)
  | 1 => ("ContractHouse$Plan", "has", "[I", true)
  | 2 => ("ContractHouse$Plan", "leaves", "[I", true)
  | 3 => ("ContractHouse$Plan", "costs", "[I", true)
  | 4 => ("ContractHouse$Plan", "parts", "[I", true)
  | _ => ("ContractHouse$Plan", "joinedSets", "[I", true)
def ty_P : Nat → FieldType := fun k => match k with
  | 0 => .object "ContractHouse$Sizes"
  | 1 => .array .int
  | 2 => .array .int
  | 3 => .array .int
  | 4 => .array .int
  | _ => .array .int
theorem nm_P : ∀ a, a < 6 → ∀ b, b < 6 → a ≠ b → (T_P a).2.1 ≠ (T_P b).2.1 := by decide +kernel
theorem ok_P : ∀ k, k < 6 → parseFieldDescriptor (T_P k).2.2.1 = some (ty_P k) := by decide +kernel
def T_R : u_T := fun k => match k with
  | 0 => ("ContractHouse$Row", "sizes", "LContractHouse$Sizes;", true)
  | 1 => ("ContractHouse$Row", "cells", "[I", false)
  | 2 => ("ContractHouse$Row", "ends", "[I", true)
  | 3 => ("ContractHouse$Row", "indexes", "[I", true)
  | 4 => ("ContractHouse$Row", "leftStrides", "[I", true)
  | 5 => ("ContractHouse$Row", "rightStrides", "[I", true)
  | _ => ("ContractHouse$Row", "toStrides", "[I", true)
def ty_R : Nat → FieldType := fun k => match k with
  | 0 => .object "ContractHouse$Sizes"
  | 1 => .array .int
  | 2 => .array .int
  | 3 => .array .int
  | 4 => .array .int
  | 5 => .array .int
  | _ => .array .int
theorem nm_R : ∀ a, a < 7 → ∀ b, b < 7 → a ≠ b → (T_R a).2.1 ≠ (T_R b).2.1 := by decide +kernel
theorem ok_R : ∀ k, k < 7 → parseFieldDescriptor (T_R k).2.2.1 = some (ty_R k) := by decide +kernel
def T_M : u_T := fun k => match k with
  | 0 => ("ContractHouseModel", "thrown", "I", false)
  | 1 => ("ContractHouseModel", "size", "[I", true)
  | 2 => ("ContractHouseModel", "tables", "I", false)
  | 3 => ("ContractHouseModel", "labels", "[I", true)
  | 4 => ("ContractHouseModel", "cell", "[I", true)
  | 5 => ("ContractHouseModel", "operands", "I", false)
  | 6 => ("ContractHouseModel", "of", "[I", true)
  | 7 => ("ContractHouseModel", "result", "I", false)
  | 8 => ("ContractHouseModel", "best", "[I", true)
  | 9 => ("ContractHouseModel", "part", "[I", true)
  | 10 => ("ContractHouseModel", "steps", "I", false)
  | 11 => ("ContractHouseModel", "step", "[I", true)
  | 12 => ("ContractHouseModel", "todo", "[I", true)
  | _ => ("ContractHouseModel", "index", "[I", true)
def ty_M : Nat → FieldType := fun k => match k with
  | 0 => .int
  | 1 => .array .int
  | 2 => .int
  | 3 => .array .int
  | 4 => .array .int
  | 5 => .int
  | 6 => .array .int
  | 7 => .int
  | 8 => .array .int
  | 9 => .array .int
  | 10 => .int
  | 11 => .array .int
  | 12 => .array .int
  | _ => .array .int
theorem nm_M : ∀ a, a < 14 → ∀ b, b < 14 → a ≠ b → (T_M a).2.1 ≠ (T_M b).2.1 := by decide +kernel
theorem ok_M : ∀ k, k < 14 → parseFieldDescriptor (T_M k).2.2.1 = some (ty_M k) := by decide +kernel
abbrev ct_cl : List vw_C := [(R_H, T_H, 12), (R_S, T_S, 1), (R_P, T_P, 6), (R_R, T_R, 7), (R_M, T_M, 14)]
/-- the words of the tables that a call hands on -/
def ct_tb : List Cond := lw_tbl.filter goodWord
theorem ct_in {w : Cond} {i : Nat} (h : lw_tbl[i]? = some w) (hg : goodWord w = true) : w ∈ ct_tb := List.mem_filter.mpr ⟨List.mem_of_getElem? h, hg⟩
theorem ct_tb_good {w : Cond} (h : w ∈ ct_tb) : (w.onTables && w.keeps) = true ∨ ∃ ty, w = .arrayClass ty := good_of_word (List.mem_filter.mp h).2
theorem ct_gi {big : List Cond} {b : Cond} (hbig : ∀ w ∈ ct_tb, w ∈ big) (hb : b ∈ ct_tb) : GoodIn big (b :: ct_tb) := fun w h => by
  rcases List.mem_cons.mp h with rfl | h
  · exact ⟨hbig _ hb, ct_tb_good hb⟩
  · exact ⟨hbig _ h, ct_tb_good h⟩
theorem ct_giV {big : List Cond} {b : Cond} {own : String} {idx : Nat} {D : String} {y : MethodName} (hbig : ∀ w ∈ ct_tb, w ∈ big) (h1 : Cond.methodLink own idx y ∈ ct_tb) (h2 : Cond.instanceMethod y ∈ ct_tb) (h3 : Cond.selects D y y ∈ ct_tb) (h4 : Cond.initialized D ∈ ct_tb) (hb : b ∈ ct_tb) : GoodIn big (wsV own idx D y (b :: ct_tb)) := fun w h => by
  have h : w = Cond.methodLink own idx y ∨ w = Cond.instanceMethod y ∨ w = Cond.selects D y y ∨ w = Cond.initialized D ∨ w ∈ b :: ct_tb := by simpa [wsV] using h
  rcases h with rfl | rfl | rfl | rfl | h
  · exact ⟨hbig _ h1, ct_tb_good h1⟩
  · exact ⟨hbig _ h2, ct_tb_good h2⟩
  · exact ⟨hbig _ h3, ct_tb_good h3⟩
  · exact ⟨hbig _ h4, ct_tb_good h4⟩
  · exact ct_gi hbig hb w h
theorem ct_giS {big : List Cond} {b : Cond} {own : String} {idx : Nat} {y : MethodName} (hbig : ∀ w ∈ ct_tb, w ∈ big) (h1 : Cond.methodLink own idx y ∈ ct_tb) (h2 : Cond.static y ∈ ct_tb) (h4 : Cond.initialized own ∈ ct_tb) (hb : b ∈ ct_tb) : GoodIn big (wsS own idx y (b :: ct_tb)) := fun w h => by
  have h : w = Cond.methodLink own idx y ∨ w = Cond.static y ∨ w = Cond.initialized own ∨ w ∈ b :: ct_tb := by simpa [wsS] using h
  rcases h with rfl | rfl | rfl | h
  · exact ⟨hbig _ h1, ct_tb_good h1⟩
  · exact ⟨hbig _ h2, ct_tb_good h2⟩
  · exact ⟨hbig _ h4, ct_tb_good h4⟩
  · exact ct_gi hbig hb w h
theorem ct_tl {b w : Cond} (h : w ∈ ct_tb) : w ∈ b :: ct_tb := List.mem_cons_of_mem _ h
abbrev b_H_init : ByteArray := prog_1_method_1_code
def y_H_init : MethodName := ⟨R_H, "<init>", "()V"⟩
abbrev k_H_init : Cond := .code y_H_init b_H_init 1 none
def w_H_init : List Cond := k_H_init :: ct_tb
abbrev b_S_init : ByteArray := prog_4_method_1_code
def y_S_init : MethodName := ⟨R_S, "<init>", "()V"⟩
abbrev k_S_init : Cond := .code y_S_init b_S_init 2 none
def w_S_init : List Cond := k_S_init :: ct_tb
abbrev b_P_init : ByteArray := prog_2_method_1_code
def y_P_init : MethodName := ⟨R_P, "<init>", "(LContractHouse$Sizes;)V"⟩
abbrev k_P_init : Cond := .code y_P_init b_P_init 2 none
def w_P_init : List Cond := k_P_init :: ct_tb
abbrev b_R_init : ByteArray := prog_3_method_1_code
def y_R_init : MethodName := ⟨R_R, "<init>", "(LContractHouse$Sizes;)V"⟩
abbrev k_R_init : Cond := .code y_R_init b_R_init 2 none
def w_R_init : List Cond := k_R_init :: ct_tb
abbrev b_H_clear : ByteArray := prog_1_method_6_code
def y_H_clear : MethodName := ⟨R_H, "clear", "()V"⟩
abbrev k_H_clear : Cond := .code y_H_clear b_H_clear 1 none
def w_H_clear : List Cond := k_H_clear :: ct_tb
abbrev b_H_forgetPlan : ByteArray := prog_1_method_22_code
def y_H_forgetPlan : MethodName := ⟨R_H, "forgetPlan", "()V"⟩
abbrev k_H_forgetPlan : Cond := .code y_H_forgetPlan b_H_forgetPlan 1 none
def w_H_forgetPlan : List Cond := k_H_forgetPlan :: ct_tb
abbrev b_H_cost : ByteArray := prog_1_method_9_code
def y_H_cost : MethodName := ⟨R_H, "cost", "()I"⟩
abbrev k_H_cost : Cond := .code y_H_cost b_H_cost 1 (some .int)
def w_H_cost : List Cond := k_H_cost :: ct_tb
abbrev b_H_makePlan : ByteArray := prog_1_method_23_code
def y_H_makePlan : MethodName := ⟨R_H, "makePlan", "()V"⟩
abbrev k_H_makePlan : Cond := .code y_H_makePlan b_H_makePlan 1 none
def w_H_makePlan : List Cond := k_H_makePlan :: ct_tb
abbrev b_P_make : ByteArray := prog_2_method_8_code
def y_P_make : MethodName := ⟨R_P, "make", "([III)V"⟩
abbrev k_P_make : Cond := .code y_P_make b_P_make 6 none
def w_P_make : List Cond := k_P_make :: ct_tb
abbrev b_P_noteLabels : ByteArray := prog_2_method_10_code
def y_P_noteLabels : MethodName := ⟨R_P, "noteLabels", "([II)V"⟩
abbrev k_P_noteLabels : Cond := .code y_P_noteLabels b_P_noteLabels 6 none
def w_P_noteLabels : List Cond := k_P_noteLabels :: ct_tb
abbrev b_P_noteLeaves : ByteArray := prog_2_method_11_code
def y_P_noteLeaves : MethodName := ⟨R_P, "noteLeaves", "(III)V"⟩
abbrev k_P_noteLeaves : Cond := .code y_P_noteLeaves b_P_noteLeaves 4 none
def w_P_noteLeaves : List Cond := k_P_noteLeaves :: ct_tb
abbrev b_P_isSeveral : ByteArray := prog_2_method_9_code
def y_P_isSeveral : MethodName := ⟨R_P, "isSeveral", "(I)Z"⟩
abbrev k_P_isSeveral : Cond := .code y_P_isSeveral b_P_isSeveral 1 (some .boolean)
def w_P_isSeveral : List Cond := k_P_isSeveral :: ct_tb
abbrev b_P_choosePart : ByteArray := prog_2_method_12_code
def y_P_choosePart : MethodName := ⟨R_P, "choosePart", "(I)V"⟩
abbrev k_P_choosePart : Cond := .code y_P_choosePart b_P_choosePart 8 none
def w_P_choosePart : List Cond := k_P_choosePart :: ct_tb
abbrev b_P_joinCost : ByteArray := prog_2_method_7_code
def y_P_joinCost : MethodName := ⟨R_P, "joinCost", "(II)I"⟩
abbrev k_P_joinCost : Cond := .code y_P_joinCost b_P_joinCost 3 (some .int)
def w_P_joinCost : List Cond := k_P_joinCost :: ct_tb
abbrev b_P_joinLabels : ByteArray := prog_2_method_6_code
def y_P_joinLabels : MethodName := ⟨R_P, "joinLabels", "(II)I"⟩
abbrev k_P_joinLabels : Cond := .code y_P_joinLabels b_P_joinLabels 3 (some .int)
def w_P_joinLabels : List Cond := k_P_joinLabels :: ct_tb
abbrev b_S_choices : ByteArray := prog_4_method_4_code
def y_S_choices : MethodName := ⟨R_S, "choices", "(I)I"⟩
abbrev k_S_choices : Cond := .code y_S_choices b_S_choices 4 (some .int)
def w_S_choices : List Cond := k_S_choices :: ct_tb
abbrev b_P_listSteps : ByteArray := prog_2_method_13_code
def y_P_listSteps : MethodName := ⟨R_P, "listSteps", "(II)V"⟩
abbrev k_P_listSteps : Cond := .code y_P_listSteps b_P_listSteps 6 none
def w_P_listSteps : List Cond := k_P_listSteps :: ct_tb
abbrev b_I_bitCount : ByteArray := prog_12_method_49_code
def y_I_bitCount : MethodName := ⟨R_I, "bitCount", "(I)I"⟩
abbrev k_I_bitCount : Cond := .code y_I_bitCount b_I_bitCount 1 (some .int)
def w_I_bitCount : List Cond := k_I_bitCount :: ct_tb
abbrev b_H_allOperands : ByteArray := prog_1_method_20_code
def y_H_allOperands : MethodName := ⟨R_H, "allOperands", "()I"⟩
abbrev k_H_allOperands : Cond := .code y_H_allOperands b_H_allOperands 1 (some .int)
def w_H_allOperands : List Cond := k_H_allOperands :: ct_tb
abbrev b_P_costOf : ByteArray := prog_2_method_2_code
def y_P_costOf : MethodName := ⟨R_P, "costOf", "(I)I"⟩
abbrev k_P_costOf : Cond := .code y_P_costOf b_P_costOf 2 (some .int)
def w_P_costOf : List Cond := k_P_costOf :: ct_tb
abbrev b_L_size : ByteArray := method_3_code
def y_L_size : MethodName := ⟨R_L, "size", "(LContractHouse;II)I"⟩
abbrev k_L_size : Cond := .codeWith y_L_size b_L_size 4 (some .int) [(0, 6, 9, 13), (0, 6, 12, 15)]
def w_L_size : List Cond := k_L_size :: ct_tb
abbrev b_H_size : ByteArray := prog_1_method_2_code
def y_H_size : MethodName := ⟨R_H, "size", "(II)V"⟩
abbrev k_H_size : Cond := .code y_H_size b_H_size 3 none
def w_H_size : List Cond := k_H_size :: ct_tb
abbrev b_H_aTableHas : ByteArray := prog_1_method_19_code
def y_H_aTableHas : MethodName := ⟨R_H, "aTableHas", "(I)Z"⟩
abbrev k_H_aTableHas : Cond := .code y_H_aTableHas b_H_aTableHas 3 (some .boolean)
def w_H_aTableHas : List Cond := k_H_aTableHas :: ct_tb
abbrev b_H_labelBit : ByteArray := prog_1_method_16_code
def y_H_labelBit : MethodName := ⟨R_H, "labelBit", "(I)I"⟩
abbrev k_H_labelBit : Cond := .code y_H_labelBit b_H_labelBit 1 (some .int)
def w_H_labelBit : List Cond := k_H_labelBit :: ct_tb
abbrev b_S_change : ByteArray := prog_4_method_2_code
def y_S_change : MethodName := ⟨R_S, "change", "(II)V"⟩
abbrev k_S_change : Cond := .code y_S_change b_S_change 3 none
def w_S_change : List Cond := k_S_change :: ct_tb
abbrev b_L_table : ByteArray := method_4_code
def y_L_table : MethodName := ⟨R_L, "table", "(LContractHouse;III[J)I"⟩
abbrev k_L_table : Cond := .codeWith y_L_table b_L_table 6 (some .int) [(0, 12, 15, 13), (0, 12, 19, 21)]
def w_L_table : List Cond := k_L_table :: ct_tb
abbrev b_H_table : ByteArray := prog_1_method_3_code
def y_H_table : MethodName := ⟨R_H, "table", "(III)I"⟩
abbrev k_H_table : Cond := .code y_H_table b_H_table 4 (some .int)
def w_H_table : List Cond := k_H_table :: ct_tb
abbrev b_H_areLabels : ByteArray := prog_1_method_13_code
def y_H_areLabels : MethodName := ⟨R_H, "areLabels", "(III)Z"⟩
abbrev k_H_areLabels : Cond := .code y_H_areLabels b_H_areLabels 3 (some .boolean)
def w_H_areLabels : List Cond := k_H_areLabels :: ct_tb
abbrev b_H_mayFollow : ByteArray := prog_1_method_14_code
def y_H_mayFollow : MethodName := ⟨R_H, "mayFollow", "(II)Z"⟩
abbrev k_H_mayFollow : Cond := .code y_H_mayFollow b_H_mayFollow 2 (some .boolean)
def w_H_mayFollow : List Cond := k_H_mayFollow :: ct_tb
abbrev b_H_labelBits : ByteArray := prog_1_method_15_code
def y_H_labelBits : MethodName := ⟨R_H, "labelBits", "(III)I"⟩
abbrev k_H_labelBits : Cond := .code y_H_labelBits b_H_labelBits 3 (some .int)
def w_H_labelBits : List Cond := k_H_labelBits :: ct_tb
abbrev b_L_set : ByteArray := method_5_code
def y_L_set : MethodName := ⟨R_L, "set", "(LContractHouse;III)I"⟩
abbrev k_L_set : Cond := .codeWith y_L_set b_L_set 5 (some .int) [(0, 7, 10, 27)]
def w_L_set : List Cond := k_L_set :: ct_tb
abbrev b_H_set : ByteArray := prog_1_method_4_code
def y_H_set : MethodName := ⟨R_H, "set", "(III)V"⟩
abbrev k_H_set : Cond := .code y_H_set b_H_set 4 none
def w_H_set : List Cond := k_H_set :: ct_tb
abbrev b_H_isTable : ByteArray := prog_1_method_18_code
def y_H_isTable : MethodName := ⟨R_H, "isTable", "(I)Z"⟩
abbrev k_H_isTable : Cond := .code y_H_isTable b_H_isTable 2 (some .boolean)
def w_H_isTable : List Cond := k_H_isTable :: ct_tb
abbrev b_H_homeOfTable : ByteArray := prog_1_method_17_code
def y_H_homeOfTable : MethodName := ⟨R_H, "homeOfTable", "(I)I"⟩
abbrev k_H_homeOfTable : Cond := .code y_H_homeOfTable b_H_homeOfTable 1 (some .int)
def w_H_homeOfTable : List Cond := k_H_homeOfTable :: ct_tb
abbrev b_R_write : ByteArray := prog_3_method_3_code
def y_R_write : MethodName := ⟨R_R, "write", "(II)V"⟩
abbrev k_R_write : Cond := .code y_R_write b_R_write 3 none
def w_R_write : List Cond := k_R_write :: ct_tb
abbrev b_L_extent : ByteArray := method_6_code
def y_L_extent : MethodName := ⟨R_L, "extent", "(LContractHouse;I[J)I"⟩
abbrev k_L_extent : Cond := .codeWith y_L_extent b_L_extent 4 (some .int) [(0, 9, 12, 27)]
def w_L_extent : List Cond := k_L_extent :: ct_tb
abbrev b_H_extent : ByteArray := prog_1_method_5_code
def y_H_extent : MethodName := ⟨R_H, "extent", "(I)I"⟩
abbrev k_H_extent : Cond := .code y_H_extent b_H_extent 2 (some .int)
def w_H_extent : List Cond := k_H_extent :: ct_tb
abbrev b_L_operand : ByteArray := method_7_code
def y_L_operand : MethodName := ⟨R_L, "operand", "(LContractHouse;I[J)I"⟩
abbrev k_L_operand : Cond := .codeWith y_L_operand b_L_operand 4 (some .int) [(0, 9, 12, 27), (0, 9, 15, 21)]
def w_L_operand : List Cond := k_L_operand :: ct_tb
abbrev b_H_operand : ByteArray := prog_1_method_7_code
def y_H_operand : MethodName := ⟨R_H, "operand", "(I)I"⟩
abbrev k_H_operand : Cond := .code y_H_operand b_H_operand 2 (some .int)
def w_H_operand : List Cond := k_H_operand :: ct_tb
abbrev b_L_result : ByteArray := method_8_code
def y_L_result : MethodName := ⟨R_L, "result", "(LContractHouse;III[J)I"⟩
abbrev k_L_result : Cond := .codeWith y_L_result b_L_result 6 (some .int) [(0, 12, 15, 13)]
def w_L_result : List Cond := k_L_result :: ct_tb
abbrev b_H_result : ByteArray := prog_1_method_8_code
def y_H_result : MethodName := ⟨R_H, "result", "(III)I"⟩
abbrev k_H_result : Cond := .code y_H_result b_H_result 4 (some .int)
def w_H_result : List Cond := k_H_result :: ct_tb
abbrev b_L_step : ByteArray := method_9_code
def y_L_step : MethodName := ⟨R_L, "step", "(LContractHouse;II[J)I"⟩
abbrev k_L_step : Cond := .codeWith y_L_step b_L_step 5 (some .int) [(0, 10, 13, 27), (0, 10, 17, 13)]
def w_L_step : List Cond := k_L_step :: ct_tb
abbrev b_H_step : ByteArray := prog_1_method_10_code
def y_H_step : MethodName := ⟨R_H, "step", "(II)I"⟩
abbrev k_H_step : Cond := .code y_H_step b_H_step 6 (some .int)
def w_H_step : List Cond := k_H_step :: ct_tb
abbrev b_H_countSteps : ByteArray := prog_1_method_21_code
def y_H_countSteps : MethodName := ⟨R_H, "countSteps", "()I"⟩
abbrev k_H_countSteps : Cond := .code y_H_countSteps b_H_countSteps 1 (some .int)
def w_H_countSteps : List Cond := k_H_countSteps :: ct_tb
abbrev b_P_joinedBy : ByteArray := prog_2_method_5_code
def y_P_joinedBy : MethodName := ⟨R_P, "joinedBy", "(I)I"⟩
abbrev k_P_joinedBy : Cond := .code y_P_joinedBy b_P_joinedBy 2 (some .int)
def w_P_joinedBy : List Cond := k_P_joinedBy :: ct_tb
abbrev b_P_partOf : ByteArray := prog_2_method_4_code
def y_P_partOf : MethodName := ⟨R_P, "partOf", "(I)I"⟩
abbrev k_P_partOf : Cond := .code y_P_partOf b_P_partOf 2 (some .int)
def w_P_partOf : List Cond := k_P_partOf :: ct_tb
abbrev b_L_value : ByteArray := method_10_code
def y_L_value : MethodName := ⟨R_L, "value", "(LContractHouse;I[J)I"⟩
abbrev k_L_value : Cond := .codeWith y_L_value b_L_value 4 (some .int) [(0, 9, 12, 27)]
def w_L_value : List Cond := k_L_value :: ct_tb
abbrev b_H_value : ByteArray := prog_1_method_11_code
def y_H_value : MethodName := ⟨R_H, "value", "(I)I"⟩
abbrev k_H_value : Cond := .code y_H_value b_H_value 2 (some .int)
def w_H_value : List Cond := k_H_value :: ct_tb
abbrev b_H_sumAlone : ByteArray := prog_1_method_24_code
def y_H_sumAlone : MethodName := ⟨R_H, "sumAlone", "()V"⟩
abbrev k_H_sumAlone : Cond := .code y_H_sumAlone b_H_sumAlone 3 none
def w_H_sumAlone : List Cond := k_H_sumAlone :: ct_tb
abbrev b_R_join : ByteArray := prog_3_method_5_code
def y_R_join : MethodName := ⟨R_R, "join", "(IIIIII)V"⟩
abbrev k_R_join : Cond := .code y_R_join b_R_join 16 none
def w_R_join : List Cond := k_R_join :: ct_tb
abbrev b_R_layOut : ByteArray := prog_3_method_6_code
def y_R_layOut : MethodName := ⟨R_R, "layOut", "(III)I"⟩
abbrev k_R_layOut : Cond := .code y_R_layOut b_R_layOut 7 (some .int)
def w_R_layOut : List Cond := k_R_layOut :: ct_tb
abbrev b_S_sizeOf : ByteArray := prog_4_method_3_code
def y_S_sizeOf : MethodName := ⟨R_S, "sizeOf", "(I)I"⟩
abbrev k_S_sizeOf : Cond := .code y_S_sizeOf b_S_sizeOf 2 (some .int)
def w_S_sizeOf : List Cond := k_S_sizeOf :: ct_tb
abbrev b_S_stride : ByteArray := prog_4_method_5_code
def y_S_stride : MethodName := ⟨R_S, "stride", "(II)I"⟩
abbrev k_S_stride : Cond := .code y_S_stride b_S_stride 4 (some .int)
def w_S_stride : List Cond := k_S_stride :: ct_tb
abbrev b_H_followPlan : ByteArray := prog_1_method_25_code
def y_H_followPlan : MethodName := ⟨R_H, "followPlan", "()V"⟩
abbrev k_H_followPlan : Cond := .code y_H_followPlan b_H_followPlan 6 none
def w_H_followPlan : List Cond := k_H_followPlan :: ct_tb
abbrev b_P_leavesOf : ByteArray := prog_2_method_3_code
def y_P_leavesOf : MethodName := ⟨R_P, "leavesOf", "(I)I"⟩
abbrev k_P_leavesOf : Cond := .code y_P_leavesOf b_P_leavesOf 2 (some .int)
def w_P_leavesOf : List Cond := k_P_leavesOf :: ct_tb
abbrev b_R_reserve : ByteArray := prog_3_method_4_code
def y_R_reserve : MethodName := ⟨R_R, "reserve", "(I)V"⟩
abbrev k_R_reserve : Cond := .code y_R_reserve b_R_reserve 2 none
def w_R_reserve : List Cond := k_R_reserve :: ct_tb
abbrev b_Ma_max : ByteArray := prog_13_method_65_code
def y_Ma_max : MethodName := ⟨R_Ma, "max", "(II)I"⟩
abbrev k_Ma_max : Cond := .code y_Ma_max b_Ma_max 2 (some .int)
def w_Ma_max : List Cond := k_Ma_max :: ct_tb
abbrev b_Ar_copyOf : ByteArray := prog_19_method_123_code
def y_Ar_copyOf : MethodName := ⟨R_Ar, "copyOf", "([II)[I"⟩
abbrev k_Ar_copyOf : Cond := .code y_Ar_copyOf b_Ar_copyOf 3 (some (.array .int))
def w_Ar_copyOf : List Cond := k_Ar_copyOf :: ct_tb
abbrev b_Ma_min : ByteArray := prog_13_method_69_code
def y_Ma_min : MethodName := ⟨R_Ma, "min", "(II)I"⟩
abbrev k_Ma_min : Cond := .code y_Ma_min b_Ma_min 2 (some .int)
def w_Ma_min : List Cond := k_Ma_min :: ct_tb
abbrev b_H_joinParts : ByteArray := prog_1_method_26_code
def y_H_joinParts : MethodName := ⟨R_H, "joinParts", "(III)V"⟩
abbrev k_H_joinParts : Cond := .code y_H_joinParts b_H_joinParts 6 none
def w_H_joinParts : List Cond := k_H_joinParts :: ct_tb
abbrev b_R_read : ByteArray := prog_3_method_2_code
def y_R_read : MethodName := ⟨R_R, "read", "(I)I"⟩
abbrev k_R_read : Cond := .code y_R_read b_R_read 2 (some .int)
def w_R_read : List Cond := k_R_read :: ct_tb
abbrev b_L_about : ByteArray := method_11_code
def y_L_about : MethodName := ⟨R_L, "about", "(LContractHouse;I[J)I"⟩
abbrev k_L_about : Cond := .codeWith y_L_about b_L_about 4 (some .int) [(0, 9, 12, 13)]
def w_L_about : List Cond := k_L_about :: ct_tb
abbrev b_H_about : ByteArray := prog_1_method_12_code
def y_H_about : MethodName := ⟨R_H, "about", "(I)I"⟩
abbrev k_H_about : Cond := .code y_H_about b_H_about 2 (some .int)
def w_H_about : List Cond := k_H_about :: ct_tb
abbrev b_M_init : ByteArray := prog_6_method_1_code
def y_M_init : MethodName := ⟨R_M, "<init>", "()V"⟩
abbrev k_M_init : Cond := .code y_M_init b_M_init 2 none
def w_M_init : List Cond := k_M_init :: ct_tb
abbrev b_M_thrown : ByteArray := prog_6_method_2_code
def y_M_thrown : MethodName := ⟨R_M, "thrown", "()I"⟩
abbrev k_M_thrown : Cond := .code y_M_thrown b_M_thrown 1 (some .int)
def w_M_thrown : List Cond := k_M_thrown :: ct_tb
abbrev b_M_size : ByteArray := prog_6_method_5_code
def y_M_size : MethodName := ⟨R_M, "size", "(II)V"⟩
abbrev k_M_size : Cond := .code y_M_size b_M_size 6 none
def w_M_size : List Cond := k_M_size :: ct_tb
abbrev b_M_in : ByteArray := prog_6_method_4_code
def y_M_in : MethodName := ⟨R_M, "in", "(III)Z"⟩
abbrev k_M_in : Cond := .code y_M_in b_M_in 3 (some .boolean)
def w_M_in : List Cond := k_M_in :: ct_tb
abbrev b_M_refuse : ByteArray := prog_6_method_3_code
def y_M_refuse : MethodName := ⟨R_M, "refuse", "(ZZ)Z"⟩
abbrev k_M_refuse : Cond := .code y_M_refuse b_M_refuse 3 (some .boolean)
def w_M_refuse : List Cond := k_M_refuse :: ct_tb
abbrev b_M_table : ByteArray := prog_6_method_8_code
def y_M_table : MethodName := ⟨R_M, "table", "(III)I"⟩
abbrev k_M_table : Cond := .code y_M_table b_M_table 6 (some .int)
def w_M_table : List Cond := k_M_table :: ct_tb
abbrev b_M_bits : ByteArray := prog_6_method_6_code
def y_M_bits : MethodName := ⟨R_M, "bits", "(III)I"⟩
abbrev k_M_bits : Cond := .code y_M_bits b_M_bits 5 (some .int)
def w_M_bits : List Cond := k_M_bits :: ct_tb
abbrev b_M_set : ByteArray := prog_6_method_10_code
def y_M_set : MethodName := ⟨R_M, "set", "(III)V"⟩
abbrev k_M_set : Cond := .code y_M_set b_M_set 6 none
def w_M_set : List Cond := k_M_set :: ct_tb
abbrev b_M_isTable : ByteArray := prog_6_method_9_code
def y_M_isTable : MethodName := ⟨R_M, "isTable", "(I)Z"⟩
abbrev k_M_isTable : Cond := .code y_M_isTable b_M_isTable 2 (some .boolean)
def w_M_isTable : List Cond := k_M_isTable :: ct_tb
abbrev b_M_product : ByteArray := prog_6_method_7_code
def y_M_product : MethodName := ⟨R_M, "product", "(I)I"⟩
abbrev k_M_product : Cond := .code y_M_product b_M_product 4 (some .int)
def w_M_product : List Cond := k_M_product :: ct_tb
abbrev b_M_extent : ByteArray := prog_6_method_11_code
def y_M_extent : MethodName := ⟨R_M, "extent", "(I)I"⟩
abbrev k_M_extent : Cond := .code y_M_extent b_M_extent 2 (some .int)
def w_M_extent : List Cond := k_M_extent :: ct_tb
abbrev b_M_clear : ByteArray := prog_6_method_12_code
def y_M_clear : MethodName := ⟨R_M, "clear", "()V"⟩
abbrev k_M_clear : Cond := .code y_M_clear b_M_clear 1 none
def w_M_clear : List Cond := k_M_clear :: ct_tb
abbrev b_M_operand : ByteArray := prog_6_method_13_code
def y_M_operand : MethodName := ⟨R_M, "operand", "(I)I"⟩
abbrev k_M_operand : Cond := .code y_M_operand b_M_operand 2 (some .int)
def w_M_operand : List Cond := k_M_operand :: ct_tb
abbrev b_M_result : ByteArray := prog_6_method_14_code
def y_M_result : MethodName := ⟨R_M, "result", "(III)I"⟩
abbrev k_M_result : Cond := .code y_M_result b_M_result 5 (some .int)
def w_M_result : List Cond := k_M_result :: ct_tb
abbrev b_M_cost : ByteArray := prog_6_method_20_code
def y_M_cost : MethodName := ⟨R_M, "cost", "()I"⟩
abbrev k_M_cost : Cond := .code y_M_cost b_M_cost 1 (some .int)
def w_M_cost : List Cond := k_M_cost :: ct_tb
abbrev b_M_plan : ByteArray := prog_6_method_18_code
def y_M_plan : MethodName := ⟨R_M, "plan", "()V"⟩
abbrev k_M_plan : Cond := .code y_M_plan b_M_plan 9 none
def w_M_plan : List Cond := k_M_plan :: ct_tb
abbrev b_M_joins : ByteArray := prog_6_method_17_code
def y_M_joins : MethodName := ⟨R_M, "joins", "(II)I"⟩
abbrev k_M_joins : Cond := .code y_M_joins b_M_joins 3 (some .int)
def w_M_joins : List Cond := k_M_joins :: ct_tb
abbrev b_M_leaves : ByteArray := prog_6_method_16_code
def y_M_leaves : MethodName := ⟨R_M, "leaves", "(I)I"⟩
abbrev k_M_leaves : Cond := .code y_M_leaves b_M_leaves 4 (some .int)
def w_M_leaves : List Cond := k_M_leaves :: ct_tb
abbrev b_M_has : ByteArray := prog_6_method_15_code
def y_M_has : MethodName := ⟨R_M, "has", "(I)I"⟩
abbrev k_M_has : Cond := .code y_M_has b_M_has 4 (some .int)
def w_M_has : List Cond := k_M_has :: ct_tb
abbrev b_M_step : ByteArray := prog_6_method_21_code
def y_M_step : MethodName := ⟨R_M, "step", "(II)I"⟩
abbrev k_M_step : Cond := .code y_M_step b_M_step 6 (some .int)
def w_M_step : List Cond := k_M_step :: ct_tb
abbrev b_M_list : ByteArray := prog_6_method_19_code
def y_M_list : MethodName := ⟨R_M, "list", "()V"⟩
abbrev k_M_list : Cond := .code y_M_list b_M_list 4 none
def w_M_list : List Cond := k_M_list :: ct_tb
abbrev b_M_value : ByteArray := prog_6_method_24_code
def y_M_value : MethodName := ⟨R_M, "value", "(I)I"⟩
abbrev k_M_value : Cond := .code y_M_value b_M_value 8 (some .int)
def w_M_value : List Cond := k_M_value :: ct_tb
abbrev b_M_at : ByteArray := prog_6_method_22_code
def y_M_at : MethodName := ⟨R_M, "at", "(I)I"⟩
abbrev k_M_at : Cond := .code y_M_at b_M_at 4 (some .int)
def w_M_at : List Cond := k_M_at :: ct_tb
abbrev b_M_next : ByteArray := prog_6_method_23_code
def y_M_next : MethodName := ⟨R_M, "next", "(I)Z"⟩
abbrev k_M_next : Cond := .code y_M_next b_M_next 4 (some .boolean)
def w_M_next : List Cond := k_M_next :: ct_tb
abbrev b_M_about : ByteArray := prog_6_method_25_code
def y_M_about : MethodName := ⟨R_M, "about", "(I)I"⟩
abbrev k_M_about : Cond := .code y_M_about b_M_about 2 (some .int)
def w_M_about : List Cond := k_M_about :: ct_tb
end
section
/-! sums of ints over i < n, over assignments of indexes to labels; mixed radix -/
def ct_sum (f : Nat → Int32) : Nat → Int32
  | 0 => 0
  | n + 1 => ct_sum f n + f n
theorem ct_sum_congr {f g : Nat → Int32} {n : Nat} (h : ∀ i, i < n → f i = g i) : ct_sum f n = ct_sum g n := by
  induction n with
  | zero => rfl
  | succ n ih =>
    show ct_sum f n + f n = ct_sum g n + g n
    rw [ih (fun i hi => h i (by omega)), h n (by omega)]
theorem ct_sum_zero (n : Nat) : ct_sum (fun _ => 0) n = 0 := by
  induction n with
  | zero => rfl
  | succ n ih =>
    show ct_sum (fun _ => 0) n + 0 = 0
    rw [ih, Int32.add_zero]
theorem ct_sum_add (f g : Nat → Int32) (n : Nat) : ct_sum (fun i => f i + g i) n = ct_sum f n + ct_sum g n := by
  induction n with
  | zero => exact (Int32.add_zero 0).symm
  | succ n ih =>
    show ct_sum (fun i => f i + g i) n + (f n + g n) = ct_sum f n + f n + (ct_sum g n + g n)
    rw [ih]
    ac_rfl
theorem ct_sum_mul (f : Nat → Int32) (c : Int32) (n : Nat) : ct_sum (fun i => f i * c) n = ct_sum f n * c := by
  induction n with
  | zero => exact (Int32.zero_mul).symm
  | succ n ih =>
    show ct_sum (fun i => f i * c) n + f n * c = (ct_sum f n + f n) * c
    rw [ih, Int32.add_mul]
theorem ct_sum_swap (f : Nat → Nat → Int32) (a b : Nat) : ct_sum (fun i => ct_sum (fun j => f i j) b) a = ct_sum (fun j => ct_sum (fun i => f i j) a) b := by
  induction a with
  | zero => exact (ct_sum_zero b).symm
  | succ a ih =>
    show ct_sum (fun i => ct_sum (fun j => f i j) b) a + ct_sum (fun j => f a j) b = ct_sum (fun j => ct_sum (fun i => f i j) a + f a j) b
    rw [ih, ct_sum_add]
theorem ct_sum_off (f : Nat → Int32) {n k : Nat} (hk : n ≤ k) : ct_sum (fun i => if i = k then f i else 0) n = 0 := by
  rw [ct_sum_congr (g := fun _ => 0) (fun i hi => if_neg (by omega)), ct_sum_zero]
theorem ct_sum_delta (f : Nat → Int32) {n k : Nat} (hk : k < n) : ct_sum (fun i => if i = k then f i else 0) n = f k := by
  induction n with
  | zero => omega
  | succ n ih =>
    show ct_sum (fun i => if i = k then f i else 0) n + (if n = k then f n else 0) = f k
    by_cases h : n = k
    · rw [if_pos h, ct_sum_off f (by omega), Int32.zero_add, h]
    · rw [if_neg h, ih (by omega), Int32.add_zero]
theorem ct_sum_app (h : Nat → Int32) (n k : Nat) : ct_sum h (n + k) = ct_sum h n + ct_sum (fun i => h (n + i)) k := by
  induction k with
  | zero => exact (Int32.add_zero _).symm
  | succ k ih =>
    show ct_sum h (n + k) + h (n + k) = ct_sum h n + (ct_sum (fun i => h (n + i)) k + h (n + k))
    rw [ih, Int32.add_assoc]
theorem ct_sum_nest (h : Nat → Int32) (a b : Nat) : ct_sum h (a * b) = ct_sum (fun q => ct_sum (fun i => h (q * b + i)) b) a := by
  induction a with
  | zero => rw [Nat.zero_mul]; rfl
  | succ a ih =>
    show ct_sum h ((a + 1) * b) = ct_sum (fun q => ct_sum (fun i => h (q * b + i)) b) a + ct_sum (fun i => h (a * b + i)) b
    rw [Nat.succ_mul, ct_sum_app, ih]
/-- an assignment with one label's index set -/
def ct_st (t : Nat → Nat) (k i : Nat) : Nat → Nat := fun j => if j = k then i else t j
theorem ct_st_at (t : Nat → Nat) (k i : Nat) : ct_st t k i k = i := if_pos rfl
theorem ct_st_ne (t : Nat → Nat) {k j : Nat} (i : Nat) (h : j ≠ k) : ct_st t k i j = t j := if_neg h
theorem ct_st_st (t : Nat → Nat) (k i j : Nat) : ct_st (ct_st t k i) k j = ct_st t k j := by
  funext q
  by_cases h : q = k
  · rw [h, ct_st_at, ct_st_at]
  · rw [ct_st_ne _ _ h, ct_st_ne _ _ h, ct_st_ne _ _ h]
theorem ct_st_comm (t : Nat → Nat) {k l : Nat} (i j : Nat) (h : k ≠ l) : ct_st (ct_st t k i) l j = ct_st (ct_st t l j) k i := by
  funext q
  by_cases h1 : q = k
  · subst h1
    rw [ct_st_ne _ _ h, ct_st_at, ct_st_at]
  · rw [ct_st_ne _ i h1]
    by_cases h2 : q = l
    · subst h2
      rw [ct_st_at, ct_st_at]
    · rw [ct_st_ne _ _ h2, ct_st_ne _ _ h2, ct_st_ne _ _ h1]
theorem ct_st_id (t : Nat → Nat) {k i : Nat} (h : t k = i) : ct_st t k i = t := by
  funext q
  by_cases h1 : q = k
  · rw [h1, ct_st_at, h]
  · rw [ct_st_ne _ _ h1]
/-- the sum over all choices of indexes of the labels below n that P has -/
def ct_sm (sz : Nat → Nat) (P : Nat → Bool) : Nat → ((Nat → Nat) → Int32) → (Nat → Nat) → Int32
  | 0, F, t => F t
  | n + 1, F, t => if P n = true then ct_sum (fun i => ct_sm sz P n F (ct_st t n i)) (sz n) else ct_sm sz P n F t
theorem ct_sm_in {sz : Nat → Nat} {P : Nat → Bool} {n : Nat} (h : P n = true) (F : (Nat → Nat) → Int32) (t : Nat → Nat) : ct_sm sz P (n + 1) F t = ct_sum (fun i => ct_sm sz P n F (ct_st t n i)) (sz n) := if_pos h
theorem ct_sm_out {sz : Nat → Nat} {P : Nat → Bool} {n : Nat} (h : P n = false) (F : (Nat → Nat) → Int32) (t : Nat → Nat) : ct_sm sz P (n + 1) F t = ct_sm sz P n F t := if_neg (by rw [h]; exact Bool.false_ne_true)
theorem ct_sm_congr {sz : Nat → Nat} {P P' : Nat → Bool} {F F' : (Nat → Nat) → Int32} (n : Nat) (hP : ∀ k, k < n → P k = P' k) (hF : ∀ t, F t = F' t) (t : Nat → Nat) : ct_sm sz P n F t = ct_sm sz P' n F' t := by
  induction n generalizing t with
  | zero => exact hF t
  | succ n ih =>
    have ih := ih (fun k hk => hP k (by omega))
    cases h : P n with
    | true =>
      rw [ct_sm_in h, ct_sm_in (by rw [← hP n (by omega)]; exact h)]
      exact ct_sum_congr fun i _ => ih _
    | false =>
      rw [ct_sm_out h, ct_sm_out (by rw [← hP n (by omega)]; exact h)]
      exact ih _
/-- F looks at no other labels than those of S -/
def ct_dep (F : (Nat → Nat) → Int32) (S : Nat → Bool) : Prop := ∀ t u : Nat → Nat, (∀ k, S k = true → t k = u k) → F t = F u
theorem ct_sm_at {sz : Nat → Nat} {P S : Nat → Bool} {F : (Nat → Nat) → Int32} (hF : ct_dep F S) (n : Nat) : ∀ (t u : Nat → Nat), (∀ k, S k = true → (k < n → P k = false) → t k = u k) → ct_sm sz P n F t = ct_sm sz P n F u := by
  induction n with
  | zero => exact fun t u h => hF t u (fun k hk => h k hk (fun z => absurd z (Nat.not_lt_zero k)))
  | succ n ih =>
    intro t u h
    cases hp : P n with
    | true =>
      rw [ct_sm_in hp, ct_sm_in hp]
      refine ct_sum_congr fun i _ => ih _ _ (fun k hk h1 => ?_)
      by_cases hn : k = n
      · rw [hn, ct_st_at, ct_st_at]
      · rw [ct_st_ne _ _ hn, ct_st_ne _ _ hn]
        exact h k hk (fun z => h1 (by omega))
    | false =>
      rw [ct_sm_out hp, ct_sm_out hp]
      refine ih _ _ (fun k hk h1 => h k hk (fun z => ?_))
      by_cases hn : k = n
      · rw [hn]; exact hp
      · exact h1 (by omega)
theorem ct_sm_dep {sz : Nat → Nat} {P S : Nat → Bool} {F : (Nat → Nat) → Int32} (hF : ct_dep F S) (n : Nat) : ct_dep (ct_sm sz P n F) (fun k => S k && !(decide (k < n) && P k)) := by
  intro t u h
  refine ct_sm_at hF n t u (fun k hk h1 => h k ?_)
  by_cases hn : k < n
  · simp [hk, h1 hn]
  · simp [hk, hn]
theorem ct_dep_mono {F : (Nat → Nat) → Int32} {S S' : Nat → Bool} (hF : ct_dep F S) (h : ∀ k, S k = true → S' k = true) : ct_dep F S' := fun t u q => hF t u (fun k hk => q k (h k hk))
theorem ct_dep_mul {F G : (Nat → Nat) → Int32} {S S' : Nat → Bool} (hF : ct_dep F S) (hG : ct_dep G S') : ct_dep (fun t => F t * G t) (fun k => S k || S' k) := by
  intro t u h
  show F t * G t = F u * G u
  rw [hF t u (fun k hk => h k (by simp [hk])), hG t u (fun k hk => h k (by simp [hk]))]
/-- a sum at label k commutes with sums at the labels below -/
theorem ct_sm_push {sz : Nat → Nat} {P : Nat → Bool} (G : (Nat → Nat) → Int32) (k c n : Nat) (hn : n ≤ k) : ∀ t : Nat → Nat, ct_sum (fun i => ct_sm sz P n G (ct_st t k i)) c = ct_sm sz P n (fun u => ct_sum (fun i => G (ct_st u k i)) c) t := by
  induction n with
  | zero => exact fun t => rfl
  | succ n ih =>
    intro t
    have ih := ih (by omega)
    cases h : P n with
    | true =>
      rw [ct_sm_in h, ct_sum_congr (g := fun i => ct_sum (fun j => ct_sm sz P n G (ct_st (ct_st t n j) k i)) (sz n)) (fun i _ => by
        rw [ct_sm_in h]
        exact ct_sum_congr fun j _ => by rw [ct_st_comm t i j (by omega)]), ct_sum_swap]
      exact ct_sum_congr fun j _ => ih _
    | false =>
      rw [ct_sm_out h, ct_sum_congr (g := fun i => ct_sm sz P n G (ct_st t k i)) (fun i _ => ct_sm_out h _ _)]
      exact ih t
/-- a sum over two families of labels, apart: one after the other -/
theorem ct_sm_split {sz : Nat → Nat} {P Q : Nat → Bool} (F : (Nat → Nat) → Int32) (n : Nat) (hPQ : ∀ k, k < n → P k = true → Q k = false) : ∀ t : Nat → Nat, ct_sm sz (fun k => P k || Q k) n F t = ct_sm sz P n (ct_sm sz Q n F) t := by
  induction n with
  | zero => exact fun t => rfl
  | succ n ih =>
    intro t
    have ih := ih (fun k hk => hPQ k (by omega))
    cases h : P n with
    | true =>
      have hq := hPQ n (by omega) h
      rw [ct_sm_in (by simp [h]), ct_sm_in h]
      refine ct_sum_congr fun i _ => ?_
      rw [ih]
      exact ct_sm_congr n (fun _ _ => rfl) (fun u => (ct_sm_out hq F u).symm) _
    | false =>
      rw [ct_sm_out h]
      cases hq : Q n with
      | true =>
        rw [ct_sm_in (by simp [hq])]
        rw [ct_sum_congr (g := fun i => ct_sm sz P n (ct_sm sz Q n F) (ct_st t n i)) (fun i _ => ih _), ct_sm_push _ n (sz n) n (Nat.le_refl n)]
        exact ct_sm_congr n (fun _ _ => rfl) (fun u => (ct_sm_in hq F u).symm) _
      | false =>
        rw [ct_sm_out (by simp [h, hq]), ih]
        exact ct_sm_congr n (fun _ _ => rfl) (fun u => (ct_sm_out hq F u).symm) _
/-- what doesn't look at the summed labels comes out of the sum -/
theorem ct_sm_mul {sz : Nat → Nat} {P S : Nat → Bool} (F : (Nat → Nat) → Int32) {G : (Nat → Nat) → Int32} (hG : ct_dep G S) (n : Nat) (h : ∀ k, k < n → P k = true → S k = false) : ∀ t : Nat → Nat, ct_sm sz P n (fun u => F u * G u) t = ct_sm sz P n F t * G t := by
  induction n with
  | zero => exact fun t => rfl
  | succ n ih =>
    intro t
    have ih := ih (fun k hk => h k (by omega))
    cases hp : P n with
    | true =>
      rw [ct_sm_in hp, ct_sm_in hp, ← ct_sum_mul]
      refine ct_sum_congr fun i _ => ?_
      rw [ih, hG (ct_st t n i) t (fun k hk => ct_st_ne _ _ (fun e => by
        rw [e, h n (by omega) hp] at hk
        cases hk))]
    | false =>
      rw [ct_sm_out hp, ct_sm_out hp]
      exact ih t
theorem ct_sm_if {sz : Nat → Nat} {P : Nat → Bool} (F : (Nat → Nat) → Int32) (c : (Nat → Nat) → Bool) (n : Nat) (h : ∀ (t : Nat → Nat) (k i : Nat), k < n → c (ct_st t k i) = c t) : ∀ t : Nat → Nat, ct_sm sz P n (fun u => if c u = true then F u else 0) t = if c t = true then ct_sm sz P n F t else 0 := by
  induction n with
  | zero => exact fun t => rfl
  | succ n ih =>
    intro t
    have ih := ih (fun u k i hk => h u k i (by omega))
    cases hp : P n with
    | true =>
      rw [ct_sm_in hp, ct_sm_in hp]
      cases hc : c t with
      | true =>
        rw [if_pos rfl]
        refine ct_sum_congr fun i _ => ?_
        rw [ih, h t n i (by omega), if_pos hc]
      | false =>
        rw [if_neg Bool.false_ne_true, ct_sum_congr (g := fun _ => 0) (fun i _ => by rw [ih, h t n i (by omega), if_neg (by rw [hc]; exact Bool.false_ne_true)]), ct_sum_zero]
    | false =>
      rw [ct_sm_out hp, ct_sm_out hp]
      exact ih t
/-- the labels of T below n as r has them -/
def ct_mix (T : Nat → Bool) (r : Nat → Nat) (n : Nat) (t : Nat → Nat) : Nat → Nat := fun k => if (decide (k < n) && T k) = true then r k else t k
def ct_agr (T : Nat → Bool) (r : Nat → Nat) : Nat → (Nat → Nat) → Bool
  | 0, _ => true
  | n + 1, t => ct_agr T r n t && (!T n || decide (t n = r n))
theorem ct_agr_st {T : Nat → Bool} {r : Nat → Nat} {k i : Nat} (n : Nat) (h : n ≤ k) (t : Nat → Nat) : ct_agr T r n (ct_st t k i) = ct_agr T r n t := by
  induction n with
  | zero => rfl
  | succ n ih =>
    show (ct_agr T r n (ct_st t k i) && (!T n || decide (ct_st t k i n = r n))) = (ct_agr T r n t && (!T n || decide (t n = r n)))
    rw [ih (by omega), ct_st_ne _ _ (by omega)]
theorem ct_agr_iff {T : Nat → Bool} {r : Nat → Nat} (n : Nat) (t : Nat → Nat) : ct_agr T r n t = true ↔ ∀ k, k < n → T k = true → t k = r k := by
  induction n with
  | zero => exact ⟨fun _ k hk => absurd hk (Nat.not_lt_zero k), fun _ => rfl⟩
  | succ n ih =>
    show (ct_agr T r n t && (!T n || decide (t n = r n))) = true ↔ _
    rw [Bool.and_eq_true, ih]
    constructor
    · intro ⟨h1, h2⟩ k hk hT
      by_cases hn : k = n
      · subst hn
        simpa [hT] using h2
      · exact h1 k (by omega) hT
    · intro h
      refine ⟨fun k hk => h k (by omega), ?_⟩
      cases hT : T n with
      | true => simp [h n (by omega) hT]
      | false => rfl
theorem ct_sm_pick {sz : Nat → Nat} {U T : Nat → Bool} {r : Nat → Nat} (f : (Nat → Nat) → Int32) (n : Nat) (hTU : ∀ k, k < n → T k = true → U k = true) (hr : ∀ k, k < n → T k = true → r k < sz k) : ∀ t : Nat → Nat,
    ct_sm sz U n (fun u => if ct_agr T r n u = true then f u else 0) t = ct_sm sz (fun k => U k && !T k) n f (ct_mix T r n t) := by
  induction n with
  | zero => exact fun t => rfl
  | succ n ih =>
    intro t
    have ih := ih (fun k hk => hTU k (by omega)) (fun k hk => hr k (by omega))
    cases hT : T n with
    | true =>
      have hU := hTU n (by omega) hT
      rw [ct_sm_in hU, ct_sm_out (by simp [hT])]
      have e1 : ∀ i, ct_sm sz U n (fun u => if ct_agr T r (n + 1) u = true then f u else 0) (ct_st t n i) = if i = r n then ct_sm sz (fun k => U k && !T k) n f (ct_mix T r n (ct_st t n i)) else 0 := by
        intro i
        rw [ct_sm_congr (P' := U) (F' := fun u => if decide (u n = r n) = true then (if ct_agr T r n u = true then f u else 0) else 0) n (fun _ _ => rfl) (fun u => by
          show (if (ct_agr T r n u && (!T n || decide (u n = r n))) = true then f u else 0) = _
          rw [hT]
          cases h1 : ct_agr T r n u <;> cases h2 : decide (u n = r n) <;> simp),
          ct_sm_if _ (fun u => decide (u n = r n)) n (fun u k j hk => by
            show decide (ct_st u k j n = r n) = decide (u n = r n)
            rw [ct_st_ne _ _ (by omega)]), ct_st_at, ih]
        by_cases h : i = r n
        · rw [if_pos h, if_pos (by simpa using h)]
        · rw [if_neg h, if_neg (by simpa using h)]
      rw [ct_sum_congr (fun i _ => e1 i), ct_sum_delta (fun i => ct_sm sz (fun k => U k && !T k) n f (ct_mix T r n (ct_st t n i))) (hr n (by omega) hT)]
      congr 1
      funext k
      by_cases hk : k = n
      · subst hk
        simp [ct_mix, hT, ct_st_at]
      · by_cases hl : k < n
        · simp [ct_mix, hl, show k < n + 1 by omega, ct_st_ne _ _ hk]
        · simp [ct_mix, hl, show ¬ k < n + 1 by omega, ct_st_ne _ _ hk]
    | false =>
      have e1 : ∀ u, ct_sm sz U n (fun u => if ct_agr T r (n + 1) u = true then f u else 0) u = ct_sm sz (fun k => U k && !T k) n f (ct_mix T r n u) := by
        intro u
        rw [← ih u]
        refine ct_sm_congr n (fun _ _ => rfl) (fun u => ?_) u
        show (if (ct_agr T r n u && (!T n || decide (u n = r n))) = true then f u else 0) = _
        rw [hT]
        simp
      have e2 : ct_mix T r (n + 1) t = ct_mix T r n t := by
        funext k
        by_cases hk : k = n
        · subst hk
          simp [ct_mix, hT]
        · by_cases hl : k < n
          · simp [ct_mix, hl, show k < n + 1 by omega]
          · simp [ct_mix, hl, show ¬ k < n + 1 by omega]
      cases hU : U n with
      | true =>
        rw [ct_sm_in hU, ct_sm_in (by simp [hU, hT]), e2]
        refine ct_sum_congr fun i _ => ?_
        rw [e1]
        congr 1
        funext k
        by_cases hk : k = n
        · subst hk
          simp [ct_mix, ct_st_at]
        · simp only [ct_mix, ct_st_ne _ _ hk]
      | false =>
        rw [ct_sm_out hU, ct_sm_out (by simp [hU]), e2]
        exact e1 t
end
section
/-! mixed radix: how many choices, the place of a choice, the choice at a place -/
def ct_pr (sz : Nat → Nat) (P : Nat → Bool) : Nat → Nat
  | 0 => 1
  | n + 1 => if P n = true then ct_pr sz P n * sz n else ct_pr sz P n
def ct_ix (sz : Nat → Nat) (P : Nat → Bool) : Nat → (Nat → Nat) → Nat
  | 0, _ => 0
  | n + 1, t => if P n = true then ct_ix sz P n t * sz n + t n else ct_ix sz P n t
/-- the labels from k on, below n -/
def ct_up (sz : Nat → Nat) (P : Nat → Bool) (k : Nat) : Nat → Nat
  | 0 => 1
  | n + 1 => if (decide (k ≤ n) && P n) = true then ct_up sz P k n * sz n else ct_up sz P k n
def ct_de (sz : Nat → Nat) (P : Nat → Bool) : Nat → Nat → (Nat → Nat)
  | 0, _ => fun _ => 0
  | n + 1, q => if P n = true then ct_st (ct_de sz P n (q / sz n)) n (q % sz n) else ct_de sz P n q
theorem ct_pr_in {sz : Nat → Nat} {P : Nat → Bool} {n : Nat} (h : P n = true) : ct_pr sz P (n + 1) = ct_pr sz P n * sz n := if_pos h
theorem ct_pr_out {sz : Nat → Nat} {P : Nat → Bool} {n : Nat} (h : P n = false) : ct_pr sz P (n + 1) = ct_pr sz P n := if_neg (by rw [h]; exact Bool.false_ne_true)
theorem ct_ix_in {sz : Nat → Nat} {P : Nat → Bool} {n : Nat} (h : P n = true) (t : Nat → Nat) : ct_ix sz P (n + 1) t = ct_ix sz P n t * sz n + t n := if_pos h
theorem ct_ix_out {sz : Nat → Nat} {P : Nat → Bool} {n : Nat} (h : P n = false) (t : Nat → Nat) : ct_ix sz P (n + 1) t = ct_ix sz P n t := if_neg (by rw [h]; exact Bool.false_ne_true)
theorem ct_up_in {sz : Nat → Nat} {P : Nat → Bool} {k n : Nat} (hk : k ≤ n) (h : P n = true) : ct_up sz P k (n + 1) = ct_up sz P k n * sz n := if_pos (by simp [hk, h])
theorem ct_up_out {sz : Nat → Nat} {P : Nat → Bool} {k n : Nat} (h : P n = false) : ct_up sz P k (n + 1) = ct_up sz P k n := if_neg (by simp [h])
theorem ct_up_lt {sz : Nat → Nat} {P : Nat → Bool} {k n : Nat} (h : n < k) : ct_up sz P k (n + 1) = ct_up sz P k n := if_neg (by simp [show ¬ k ≤ n by omega])
theorem ct_de_in {sz : Nat → Nat} {P : Nat → Bool} {n : Nat} (h : P n = true) (q : Nat) : ct_de sz P (n + 1) q = ct_st (ct_de sz P n (q / sz n)) n (q % sz n) := if_pos h
theorem ct_de_out {sz : Nat → Nat} {P : Nat → Bool} {n : Nat} (h : P n = false) (q : Nat) : ct_de sz P (n + 1) q = ct_de sz P n q := if_neg (by rw [h]; exact Bool.false_ne_true)
theorem ct_pr_congr {sz sz' : Nat → Nat} {P P' : Nat → Bool} (n : Nat) (h : ∀ k, k < n → P k = P' k) (hs : ∀ k, k < n → P k = true → sz k = sz' k) : ct_pr sz P n = ct_pr sz' P' n := by
  induction n with
  | zero => rfl
  | succ n ih =>
    have ih := ih (fun k hk => h k (by omega)) (fun k hk => hs k (by omega))
    cases hp : P n with
    | true => rw [ct_pr_in hp, ct_pr_in (by rw [← h n (by omega)]; exact hp), ih, hs n (by omega) hp]
    | false => rw [ct_pr_out hp, ct_pr_out (by rw [← h n (by omega)]; exact hp), ih]
theorem ct_ix_congr {sz sz' : Nat → Nat} {P P' : Nat → Bool} {t t' : Nat → Nat} (n : Nat) (h : ∀ k, k < n → P k = P' k) (hs : ∀ k, k < n → P k = true → sz k = sz' k) (ht : ∀ k, k < n → P k = true → t k = t' k) : ct_ix sz P n t = ct_ix sz' P' n t' := by
  induction n with
  | zero => rfl
  | succ n ih =>
    have ih := ih (fun k hk => h k (by omega)) (fun k hk => hs k (by omega)) (fun k hk => ht k (by omega))
    cases hp : P n with
    | true => rw [ct_ix_in hp, ct_ix_in (by rw [← h n (by omega)]; exact hp), ih, hs n (by omega) hp, ht n (by omega) hp]
    | false => rw [ct_ix_out hp, ct_ix_out (by rw [← h n (by omega)]; exact hp), ih]
theorem ct_up_congr {sz : Nat → Nat} {P P' : Nat → Bool} {k : Nat} (n : Nat) (h : ∀ j, j < n → k ≤ j → P j = P' j) : ct_up sz P k n = ct_up sz P' k n := by
  induction n with
  | zero => rfl
  | succ n ih =>
    have ih := ih (fun j hj => h j (by omega))
    by_cases hk : k ≤ n
    · cases hp : P n with
      | true => rw [ct_up_in hk hp, ct_up_in hk (by rw [← h n (by omega) hk]; exact hp), ih]
      | false => rw [ct_up_out hp, ct_up_out (by rw [← h n (by omega) hk]; exact hp), ih]
    · rw [ct_up_lt (by omega), ct_up_lt (by omega), ih]
theorem ct_pr_pos {sz : Nat → Nat} {P : Nat → Bool} (n : Nat) (hs : ∀ k, k < n → 0 < sz k) : 0 < ct_pr sz P n := by
  induction n with
  | zero => exact Nat.one_pos
  | succ n ih =>
    have ih := ih (fun k hk => hs k (by omega))
    cases hp : P n with
    | true => rw [ct_pr_in hp]; exact Nat.mul_pos ih (hs n (by omega))
    | false => rw [ct_pr_out hp]; exact ih
theorem ct_up_pos {sz : Nat → Nat} {P : Nat → Bool} {k : Nat} (n : Nat) (hs : ∀ j, j < n → 0 < sz j) : 0 < ct_up sz P k n := by
  induction n with
  | zero => exact Nat.one_pos
  | succ n ih =>
    have ih := ih (fun j hj => hs j (by omega))
    by_cases hk : k ≤ n
    · cases hp : P n with
      | true => rw [ct_up_in hk hp]; exact Nat.mul_pos ih (hs n (by omega))
      | false => rw [ct_up_out hp]; exact ih
    · rw [ct_up_lt (by omega)]; exact ih
theorem ct_up_self {sz : Nat → Nat} {P : Nat → Bool} {k : Nat} (n : Nat) (h : n ≤ k) : ct_up sz P k n = 1 := by
  induction n with
  | zero => rfl
  | succ n ih => rw [ct_up_lt (by omega)]; exact ih (by omega)
/-- one label more at the lower end -/
theorem ct_up_step {sz : Nat → Nat} {P : Nat → Bool} {k : Nat} (hp : P k = true) (n : Nat) (h : k < n) : ct_up sz P k n = sz k * ct_up sz P (k + 1) n := by
  induction n with
  | zero => omega
  | succ n ih =>
    by_cases hk : k = n
    · subst hk
      rw [ct_up_in (Nat.le_refl k) hp, ct_up_self k (Nat.le_refl k), ct_up_self (k + 1) (Nat.le_refl _), Nat.one_mul, Nat.mul_one]
    · have ih := ih (by omega)
      cases hn : P n with
      | true => rw [ct_up_in (by omega) hn, ct_up_in (by omega) hn, ih, Nat.mul_assoc]
      | false => rw [ct_up_out hn, ct_up_out hn, ih]
theorem ct_up_skip {sz : Nat → Nat} {P : Nat → Bool} {k : Nat} (hp : P k = false ∨ sz k = 1) (n : Nat) (h : k < n) : ct_up sz P k n = ct_up sz P (k + 1) n := by
  rcases hp with hp | hp
  · induction n with
    | zero => omega
    | succ n ih =>
      by_cases hk : k = n
      · subst hk
        rw [ct_up_out hp, ct_up_self k (Nat.le_refl k), ct_up_self (k + 1) (Nat.le_refl _)]
      · have ih := ih (by omega)
        cases hn : P n with
        | true => rw [ct_up_in (by omega) hn, ct_up_in (by omega) hn, ih]
        | false => rw [ct_up_out hn, ct_up_out hn, ih]
  · cases hq : P k with
    | true => rw [ct_up_step hq n h, hp, Nat.one_mul]
    | false =>
      induction n with
      | zero => omega
      | succ n ih =>
        by_cases hk : k = n
        · subst hk
          rw [ct_up_out hq, ct_up_self k (Nat.le_refl k), ct_up_self (k + 1) (Nat.le_refl _)]
        · have ih := ih (by omega)
          cases hn : P n with
          | true => rw [ct_up_in (by omega) hn, ct_up_in (by omega) hn, ih]
          | false => rw [ct_up_out hn, ct_up_out hn, ih]
theorem ct_up_0 {sz : Nat → Nat} {P : Nat → Bool} (n : Nat) : ct_up sz P 0 n = ct_pr sz P n := by
  induction n with
  | zero => rfl
  | succ n ih =>
    cases hn : P n with
    | true => rw [ct_up_in (by omega) hn, ct_pr_in hn, ih]
    | false => rw [ct_up_out hn, ct_pr_out hn, ih]
theorem ct_ix_lt {sz : Nat → Nat} {P : Nat → Bool} {t : Nat → Nat} (n : Nat) (h : ∀ k, k < n → P k = true → t k < sz k) : ct_ix sz P n t < ct_pr sz P n := by
  induction n with
  | zero => exact Nat.one_pos
  | succ n ih =>
    have ih := ih (fun k hk => h k (by omega))
    cases hp : P n with
    | true =>
      rw [ct_ix_in hp, ct_pr_in hp]
      have h1 := h n (by omega) hp
      have h2 : (ct_ix sz P n t + 1) * sz n ≤ ct_pr sz P n * sz n := Nat.mul_le_mul_right _ ih
      rw [Nat.succ_mul] at h2
      omega
    | false => rw [ct_ix_out hp, ct_pr_out hp]; exact ih
theorem ct_ix_inj {sz : Nat → Nat} {P : Nat → Bool} {t u : Nat → Nat} (n : Nat) (h : ∀ k, k < n → P k = true → t k < sz k) (hu : ∀ k, k < n → P k = true → u k < sz k) (he : ct_ix sz P n t = ct_ix sz P n u) : ∀ k, k < n → P k = true → t k = u k := by
  induction n with
  | zero => exact fun k hk => absurd hk (Nat.not_lt_zero k)
  | succ n ih =>
    have ih := ih (fun k hk => h k (by omega)) (fun k hk => hu k (by omega))
    intro k hk hP
    cases hp : P n with
    | true =>
      rw [ct_ix_in hp, ct_ix_in hp] at he
      have h1 := h n (by omega) hp
      have h2 := hu n (by omega) hp
      have h3 : t n = u n := by
        have e1 := congrArg (· % sz n) he
        simp only [Nat.mul_add_mod_of_lt h1, Nat.mul_add_mod_of_lt h2] at e1
        exact e1
      have h4 : ct_ix sz P n t = ct_ix sz P n u := by
        rw [h3] at he
        exact Nat.eq_of_mul_eq_mul_right (show 0 < sz n by omega) (Nat.add_right_cancel he)
      by_cases hn : k = n
      · rw [hn]; exact h3
      · exact ih h4 k (by omega) hP
    | false =>
      rw [ct_ix_out hp, ct_ix_out hp] at he
      by_cases hn : k = n
      · rw [hn, hp] at hP; cases hP
      · exact ih he k (by omega) hP
/-- how the place moves with one index -/
theorem ct_ix_st {sz : Nat → Nat} {P : Nat → Bool} {k : Nat} (t : Nat → Nat) (i : Nat) (hp : P k = true) (n : Nat) (h : k < n) : ct_ix sz P n (ct_st t k i) + t k * ct_up sz P (k + 1) n = ct_ix sz P n t + i * ct_up sz P (k + 1) n := by
  induction n with
  | zero => omega
  | succ n ih =>
    by_cases hk : k = n
    · subst hk
      rw [ct_ix_in hp, ct_ix_in hp, ct_up_self (k + 1) (Nat.le_refl _), ct_st_at, ct_ix_congr (t' := t) k (fun _ _ => rfl) (fun _ _ _ => rfl) (fun j hj _ => ct_st_ne t i (by omega))]
      omega
    · have ih := ih (by omega)
      cases hn : P n with
      | true =>
        rw [ct_ix_in hn, ct_ix_in hn, ct_up_in (by omega) hn, ct_st_ne t i (by omega), ← Nat.mul_assoc, ← Nat.mul_assoc]
        have e1 : (ct_ix sz P n (ct_st t k i) + t k * ct_up sz P (k + 1) n) * sz n = (ct_ix sz P n t + i * ct_up sz P (k + 1) n) * sz n := by rw [ih]
        rw [Nat.add_mul, Nat.add_mul] at e1
        omega
      | false => rw [ct_ix_out hn, ct_ix_out hn, ct_up_out hn]; exact ih
theorem ct_ix_no {sz : Nat → Nat} {P : Nat → Bool} {k : Nat} (t : Nat → Nat) (i : Nat) (hp : P k = false) (n : Nat) : ct_ix sz P n (ct_st t k i) = ct_ix sz P n t :=
  ct_ix_congr n (fun _ _ => rfl) (fun _ _ _ => rfl) (fun j _ hj => ct_st_ne t i (fun e => by rw [e, hp] at hj; cases hj))
theorem ct_de_hi {sz : Nat → Nat} {P : Nat → Bool} (n q k : Nat) (h : n ≤ k) : ct_de sz P n q k = 0 := by
  induction n generalizing q with
  | zero => rfl
  | succ n ih =>
    cases hp : P n with
    | true => rw [ct_de_in hp, ct_st_ne _ _ (by omega)]; exact ih _ (by omega)
    | false => rw [ct_de_out hp]; exact ih _ (by omega)
theorem ct_de_no {sz : Nat → Nat} {P : Nat → Bool} (n q k : Nat) (h : P k = false) : ct_de sz P n q k = 0 := by
  induction n generalizing q with
  | zero => rfl
  | succ n ih =>
    cases hp : P n with
    | true => rw [ct_de_in hp, ct_st_ne _ _ (fun e => by rw [e, hp] at h; cases h)]; exact ih _
    | false => rw [ct_de_out hp]; exact ih _
theorem ct_de_lt {sz : Nat → Nat} {P : Nat → Bool} (n q k : Nat) (hs : ∀ k, k < n → 0 < sz k) (hk : k < n) : ct_de sz P n q k < sz k := by
  induction n generalizing q with
  | zero => omega
  | succ n ih =>
    by_cases hn : k = n
    · subst hn
      cases hp : P k with
      | true => rw [ct_de_in hp, ct_st_at]; exact Nat.mod_lt _ (hs k (by omega))
      | false => rw [ct_de_out hp, ct_de_hi k q k (Nat.le_refl k)]; exact hs k (by omega)
    · cases hp : P n with
      | true => rw [ct_de_in hp, ct_st_ne _ _ hn]; exact ih _ (fun j hj => hs j (by omega)) (by omega)
      | false => rw [ct_de_out hp]; exact ih _ (fun j hj => hs j (by omega)) (by omega)
theorem ct_de_0 {sz : Nat → Nat} {P : Nat → Bool} (n : Nat) : ct_de sz P n 0 = fun _ => 0 := by
  induction n with
  | zero => rfl
  | succ n ih =>
    cases hp : P n with
    | true => rw [ct_de_in hp, Nat.zero_div, Nat.zero_mod, ih]; exact ct_st_id _ rfl
    | false => rw [ct_de_out hp]; exact ih
/-- a label that is away, or has one index alone, changes nothing -/
theorem ct_de_skip {sz : Nat → Nat} {P : Nat → Bool} {n : Nat} (h : P n = false ∨ sz n = 1) (q : Nat) : ct_de sz P (n + 1) q = ct_de sz P n q := by
  cases hp : P n with
  | true =>
    rcases h with h | h
    · rw [hp] at h; cases h
    · rw [ct_de_in hp, h, Nat.div_one, Nat.mod_one]
      exact ct_st_id _ (ct_de_hi n q n (Nat.le_refl n))
  | false => exact ct_de_out hp q
theorem ct_de_skips {sz : Nat → Nat} {P : Nat → Bool} {k : Nat} (n : Nat) (hk : k ≤ n) (h : ∀ j, k ≤ j → j < n → P j = false ∨ sz j = 1) (q : Nat) : ct_de sz P n q = ct_de sz P k q := by
  induction n with
  | zero => rw [show k = 0 by omega]
  | succ n ih =>
    by_cases hn : k = n + 1
    · rw [hn]
    · rw [ct_de_skip (h n (by omega) (by omega)), ih (by omega) (fun j h1 h2 => h j h1 (by omega))]
theorem ct_up_skips {sz : Nat → Nat} {P : Nat → Bool} {k N : Nat} (n : Nat) (hk : k ≤ n) (hN : n ≤ N) (h : ∀ j, k ≤ j → j < n → P j = false ∨ sz j = 1) : ct_up sz P k N = ct_up sz P n N := by
  induction n with
  | zero => rw [show k = 0 by omega]
  | succ n ih =>
    by_cases hn : k = n + 1
    · rw [hn]
    · rw [ih (by omega) (by omega) (fun j h1 h2 => h j h1 (by omega)), ct_up_skip (h n (by omega) (by omega)) N (by omega)]
/-- the digits behind are 0 at a multiple -/
theorem ct_de_mul {sz : Nat → Nat} {P : Nat → Bool} {k : Nat} (n : Nat) (hk : k ≤ n) (hs : ∀ j, j < n → 0 < sz j) (q : Nat) : ct_de sz P n (q * ct_up sz P k n) = ct_de sz P k q := by
  induction n with
  | zero => rw [show k = 0 by omega, ct_up_self 0 (Nat.le_refl 0), Nat.mul_one]
  | succ n ih =>
    by_cases hn : k = n + 1
    · rw [hn, ct_up_self _ (Nat.le_refl _), Nat.mul_one]
    · have ih := ih (by omega) (fun j hj => hs j (by omega))
      cases hp : P n with
      | true =>
        rw [ct_up_in (by omega) hp, ct_de_in hp, ← Nat.mul_assoc, Nat.mul_div_cancel _ (hs n (by omega)), Nat.mul_mod_left, ih]
        exact ct_st_id _ (ct_de_hi k q n (by omega))
      | false => rw [ct_up_out hp, ct_de_out hp]; exact ih
/-- the sum over all places is the sum over all choices -/
theorem ct_sum_de {sz : Nat → Nat} {P : Nat → Bool} (n : Nat) (hs : ∀ j, j < n → 0 < sz j) : ∀ g : (Nat → Nat) → Int32, ct_sum (fun q => g (ct_de sz P n q)) (ct_pr sz P n) = ct_sm sz P n g (fun _ => 0) := by
  induction n with
  | zero => exact fun g => Int32.zero_add _
  | succ n ih =>
    intro g
    have ih := ih (fun j hj => hs j (by omega))
    have h0 := hs n (by omega)
    cases hp : P n with
    | true =>
      rw [ct_pr_in hp, ct_sum_nest, ct_sm_in hp, ct_sm_push g n (sz n) n (Nat.le_refl n), ← ih]
      refine ct_sum_congr fun q _ => ct_sum_congr fun i hi => ?_
      rw [ct_de_in hp, Nat.mul_comm q, Nat.mul_add_div h0, Nat.div_eq_of_lt hi, Nat.add_zero, Nat.mul_add_mod, Nat.mod_eq_of_lt hi]
    | false =>
      rw [ct_pr_out hp, ct_sm_out hp, ← ih]
      exact ct_sum_congr fun q _ => by rw [ct_de_out hp]
end
section
/-! the odometer: from place n to place n + 1, label by label from the last one down -/
def ct_car (sz : Nat → Nat) (U : Nat → Bool) (n k : Nat) (t : Nat → Nat) : Prop := ∃ q, n + 1 = (q + 1) * ct_up sz U k 8 ∧ t = ct_de sz U k q
theorem ct_car_0 (sz : Nat → Nat) (U : Nat → Bool) (n : Nat) : ct_car sz U n 8 (ct_de sz U 8 n) := ⟨n, by rw [ct_up_self 8 (Nat.le_refl 8), Nat.mul_one], rfl⟩
theorem ct_car_down {sz : Nat → Nat} {U : Nat → Bool} {n k : Nat} {t : Nat → Nat} (h : ct_car sz U n k t) (j : Nat) (hj : j ≤ k) (hk : k ≤ 8) (hsk : ∀ i, j ≤ i → i < k → U i = false ∨ sz i = 1) : ct_car sz U n j t := by
  obtain ⟨q, h1, h2⟩ := h
  exact ⟨q, by rw [ct_up_skips k hj hk hsk]; exact h1, by rw [h2]; exact ct_de_skips k hj hsk q⟩
theorem ct_car_wrap {sz : Nat → Nat} {U : Nat → Bool} {n k : Nat} {t : Nat → Nat} (h : ct_car sz U n (k + 1) t) (hk : k < 8) (hU : U k = true) (hz : 0 < sz k) (hw : t k + 1 = sz k) : ct_car sz U n k (ct_st t k 0) := by
  obtain ⟨q, h1, h2⟩ := h
  have e1 : t k = q % sz k := by rw [h2, ct_de_in hU, ct_st_at]
  refine ⟨q / sz k, ?_, ?_⟩
  · rw [ct_up_step hU 8 hk, ← Nat.mul_assoc, h1]
    congr 1
    have e2 := Nat.div_add_mod q (sz k)
    rw [Nat.add_mul, Nat.one_mul, Nat.mul_comm]
    omega
  · rw [h2, ct_de_in hU, ct_st_st]
    exact ct_st_id _ (ct_de_hi k _ k (Nat.le_refl k))
theorem ct_car_stop {sz : Nat → Nat} {U : Nat → Bool} {n k : Nat} {t : Nat → Nat} (h : ct_car sz U n (k + 1) t) (hs : ∀ j, j < 8 → 0 < sz j) (hk : k < 8) (hU : U k = true) (hw : t k + 1 ≠ sz k) : ct_st t k (t k + 1) = ct_de sz U 8 (n + 1) := by
  obtain ⟨q, h1, h2⟩ := h
  have e1 : t k = q % sz k := by rw [h2, ct_de_in hU, ct_st_at]
  have hz := hs k hk
  have hm := Nat.mod_lt q hz
  rw [h1, ct_de_mul 8 (by omega) hs, ct_de_in hU]
  have e2 := Nat.div_add_mod q (sz k)
  have e3 : (q + 1) % sz k = q % sz k + 1 := by
    rw [show q + 1 = sz k * (q / sz k) + (q % sz k + 1) by omega, Nat.mul_add_mod, Nat.mod_eq_of_lt (by omega)]
  have e4 : (q + 1) / sz k = q / sz k := by
    have h9 : sz k * (q / sz k) + (q % sz k + 1) = q + 1 := by omega
    rw [← h9, Nat.mul_add_div hz, Nat.div_eq_of_lt (show q % sz k + 1 < sz k by omega), Nat.add_zero]
  rw [e3, e4, e1, h2, ct_de_in hU, ct_st_st]
theorem ct_car_end {sz : Nat → Nat} {U : Nat → Bool} {n k : Nat} {t : Nat → Nat} (h : ct_car sz U n k t) (hk : k ≤ 8) (hsk : ∀ i, i < k → U i = false ∨ sz i = 1) : ct_pr sz U 8 ≤ n + 1 := by
  obtain ⟨q, h1, -⟩ := ct_car_down h 0 (Nat.zero_le k) hk (fun i _ hi => hsk i hi)
  rw [h1, ct_up_0]
  exact Nat.le_mul_of_pos_left _ (by omega)
/-- what a join leaves in the cell of the choice r -/
theorem ct_join_sum {sz : Nat → Nat} {U T : Nat → Bool} {r : Nat → Nat} {f : (Nat → Nat) → Int32} (hs : ∀ j, j < 8 → 0 < sz j) (hTU : ∀ k, k < 8 → T k = true → U k = true) (hr : ∀ k, k < 8 → T k = true → r k < sz k) (hf : ct_dep f (fun k => decide (k < 8) && U k)) :
    ct_sum (fun q => if ct_ix sz T 8 (ct_de sz U 8 q) = ct_ix sz T 8 r then f (ct_de sz U 8 q) else 0) (ct_pr sz U 8) = ct_sm sz (fun k => U k && !T k) 8 f r := by
  have e1 : ∀ q, (if ct_ix sz T 8 (ct_de sz U 8 q) = ct_ix sz T 8 r then f (ct_de sz U 8 q) else 0) = (fun u => if ct_agr T r 8 u = true then f u else 0) (ct_de sz U 8 q) := by
    intro q
    show _ = if ct_agr T r 8 (ct_de sz U 8 q) = true then f (ct_de sz U 8 q) else 0
    by_cases h : ct_ix sz T 8 (ct_de sz U 8 q) = ct_ix sz T 8 r
    · rw [if_pos h, if_pos ((ct_agr_iff 8 _).mpr (ct_ix_inj 8 (fun k hk _ => ct_de_lt 8 q k hs hk) hr h))]
    · rw [if_neg h, if_neg (fun z => h (ct_ix_congr 8 (fun _ _ => rfl) (fun _ _ _ => rfl) ((ct_agr_iff 8 _).mp z)))]
  rw [ct_sum_congr (fun q _ => e1 q)]
  refine (ct_sum_de (P := U) 8 hs (fun u => if ct_agr T r 8 u = true then f u else 0)).trans ?_
  rw [ct_sm_pick f 8 hTU hr]
  refine ct_sm_at hf 8 _ _ (fun k hk h1 => ?_)
  simp only [Bool.and_eq_true, decide_eq_true_eq] at hk
  have h2 := h1 hk.1
  have hT : T k = true := by
    cases hT : T k with
    | true => rfl
    | false => simp [hk.2, hT] at h2
  simp [ct_mix, hk.1, hT]
end
section
/-! rows of ours over the kit's: small naturals on the stack, reads of arrays, calls of methods that only read -/
theorem ct_and (a b : Nat) : nI a &&& nI b = nI (a &&& b) := by
  apply Int32.toBitVec_inj.1
  show BitVec.ofNat 32 a &&& BitVec.ofNat 32 b = BitVec.ofNat 32 (a &&& b)
  apply BitVec.eq_of_getLsbD_eq
  intro i hi
  simp [hi]
theorem ct_or (a b : Nat) : nI a ||| nI b = nI (a ||| b) := by
  apply Int32.toBitVec_inj.1
  show BitVec.ofNat 32 a ||| BitVec.ofNat 32 b = BitVec.ofNat 32 (a ||| b)
  apply BitVec.eq_of_getLsbD_eq
  intro i hi
  simp [hi]
theorem ct_xor (a b : Nat) : nI a ^^^ nI b = nI (a ^^^ b) := by
  apply Int32.toBitVec_inj.1
  show BitVec.ofNat 32 a ^^^ BitVec.ofNat 32 b = BitVec.ofNat 32 (a ^^^ b)
  apply BitVec.eq_of_getLsbD_eq
  intro i hi
  simp [hi]
theorem ct_sl : ∀ n, n < 32 → ((nI n &&& 31).toBitVec.smod 32).toNat = n := by decide +kernel
theorem ct_shl (a : Nat) {k : Nat} (hk : k < 32) (h : a * 2 ^ k < 2 ^ 32) : nI a <<< (nI k &&& 31) = nI (a * 2 ^ k) := pk_shlN _ k (ct_sl k hk) h
theorem ct_shr {a k : Nat} (ha : a < 2 ^ 31) (hk : k < 32) : nI a >>> (nI k &&& 31) = nI (a / 2 ^ k) := pk_shrN ha _ k (ct_sl k hk)
theorem ct_bit0 (a k : Nat) : a / 2 ^ k % 2 = if a.testBit k = true then 1 else 0 := by
  rw [Nat.testBit_eq_decide_div_mod_eq]
  have h := Nat.mod_two_eq_zero_or_one (a / 2 ^ k)
  rcases h with h | h <;> simp [h]
theorem ct_bit {a k : Nat} (ha : a < 2 ^ 31) (hk : k < 32) : (nI a >>> (nI k &&& 31)) &&& nI 1 = nI (if a.testBit k = true then 1 else 0) := by
  rw [ct_shr ha hk, ct_and, Nat.and_one_is_mod, ct_bit0]
section CTH
variable {p : Program} {l : Launch} {e : Env} {R : Room} {s : State} {m : MethodId} {args : Array Value} {below : List Frame} {meth : Method} {c : Code} {H : Heap} {locs : List Loc} {cells slots : Nat} {Q : State → Prop}
variable {cc : ByteArray} {pc : Nat} {ls : Array Slot} {rest : List Value} {D : va_G} {cl : List vw_C} {A : Nat → Prop} {a : Nat} {tys : List (ClassId × FieldType)} {ws : va_W} {H0 : Heap}
theorem ct_val {x y : Int32} (h : x = y) (k : W p l e R s m args below meth c H locs cells slots Q (F0 m pc ls (.int y :: rest))) : W p l e R s m args below meth c H locs cells slots Q (F0 m pc ls (.int x :: rest)) := by
  rw [h]; exact k
theorem ct_iald (hexec : p.tables.exec = Jvm.exec) (hb : c.code = cc) (hK : va_K D cl tys s) (hP : va_P D cl ws H) (q0 t0 : Nat) {cA : ClassId} {n : Nat} {f : Nat → Int32} (ha : ws[q0]? = some (a, .inl (cA, n, .inl f))) (ht : tys[t0]? = some (cA, .int)) {j : Nat} (hj : j < n) (hn : n < 2 ^ 31) (hdg : decode cc pc = .ok (.iaload, 1))
    (kk : W p l e R s m args below meth c H locs cells slots Q (F0 m (pc + 1) ls (.int (f j) :: rest))) : W p l e R s m args below meth c H locs cells slots Q (F0 m pc ls (.int (nI j) :: .ref a :: rest)) := by
  refine va_iald hexec hb hK hP q0 t0 ha ht (vp_in_nI hj hn) hdg ?_
  rw [nI_clamp (Nat.lt_trans hj hn)]
  exact kk
theorem ct_iast (hexec : p.tables.exec = Jvm.exec) (hb : c.code = cc) (hK : va_K D cl tys s) (hP : va_P D cl ws H) (hD : va_D A ws) (hS : va_S A H0 H locs) (q0 t0 : Nat) {cA : ClassId} {n : Nat} {f : Nat → Int32} (ha : ws[q0]? = some (a, .inl (cA, n, .inl f))) (ht : tys[t0]? = some (cA, .int)) {j : Nat} {x : Int32} (hj : j < n) (hn : n < 2 ^ 31) (hdg : decode cc pc = .ok (.iastore, 1))
    (kk : ∀ (H1 : Heap) (locs1 : List Loc), va_P D cl (ws.set q0 (a, .inl (cA, n, .inl (upd f j x)))) H1 → va_D A (ws.set q0 (a, .inl (cA, n, .inl (upd f j x)))) → va_S A H0 H1 locs1 → W p l e R s m args below meth c H1 locs1 cells slots Q (F0 m (pc + 1) ls rest)) : W p l e R s m args below meth c H locs cells slots Q (F0 m pc ls (.int x :: .int (nI j) :: .ref a :: rest)) := by
  refine va_iast hexec hb hK hP hD hS q0 t0 ha ht (vp_in_nI hj hn) hdg ?_
  rw [nI_clamp (Nat.lt_trans hj hn)]
  exact kk
end CTH
theorem ct_keep {D : va_G} {cl : List vw_C} {ws : va_W} {H H1 : Heap} (hP : va_P D cl ws H) (hk : ∀ q : Nat, q < H.size → ¬ (fun _ : Nat => False) q → H1[q]? = H[q]?) : va_P D cl ws H1 := hP.kept (fun k q h => hk q.1 ((hP k q h).lt) (fun z => z))
/-- what a method that only reads asks of the state -/
def ct_ro (D : va_G) (cl : List vw_C) (ws : va_W) (tys : List (ClassId × FieldType)) (U : State) : Prop := va_P D cl ws U.heap ∧ va_K D cl tys U
theorem ct_ro_blind {av : List Value} {D : va_G} {cl : List vw_C} {ws : va_W} {tys : List (ClassId × FieldType)} : FrameBlind (va_Pc av (ct_ro D cl ws tys)) := fun a U g mk q => ⟨q.1, q.2.1, va_K.moved (u := U) (U := U.calling g mk a) (Vm.Alike.refl U.vm) q.2.2⟩
theorem ct_ro_pre {av : List Value} {D : va_G} {cl : List vw_C} {ws : va_W} {tys : List (ClassId × FieldType)} {s : State} {H : Heap} (hP : va_P D cl ws H) (hK : va_K D cl tys s) : ∀ U : State, U.heap = H → s.WarmedH U.vm → va_Pc av (ct_ro D cl ws tys) av.toArray U := fun U hU hW => ⟨rfl, by rw [hU]; exact hP, va_K.moved hW.alike hK⟩
/-- what a method that writes asks of the state: its cells are apart -/
def ct_rw (D : va_G) (cl : List vw_C) (ws : va_W) (tys : List (ClassId × FieldType)) (sz : Nat) (U : State) : Prop := U.heap.size = sz ∧ va_P D cl ws U.heap ∧ va_K D cl tys U ∧ va_D (fun _ => True) ws
theorem ct_rw_blind {av : List Value} {D : va_G} {cl : List vw_C} {ws : va_W} {tys : List (ClassId × FieldType)} {sz : Nat} : FrameBlind (va_Pc av (ct_rw D cl ws tys sz)) := fun a U g mk q => ⟨q.1, q.2.1, q.2.2.1, va_K.moved (u := U) (U := U.calling g mk a) (Vm.Alike.refl U.vm) q.2.2.2.1, q.2.2.2.2⟩
theorem ct_rw_pre {av : List Value} {D : va_G} {cl : List vw_C} {ws : va_W} {tys : List (ClassId × FieldType)} {A : Nat → Prop} {s : State} {H : Heap} (hP : va_P D cl ws H) (hK : va_K D cl tys s) (hD : va_D A ws) : ∀ U : State, U.heap = H → s.WarmedH U.vm → va_Pc av (ct_rw D cl ws tys H.size) av.toArray U := fun U hU hW => ⟨rfl, by rw [hU], by rw [hU]; exact hP, va_K.moved hW.alike hK, hD.weaken (fun _ _ _ _ => trivial)⟩
/-- what a method that writes leaves: the cells w, apart, within A -/
def ct_at (D : va_G) (cl : List vw_C) (tys : List (ClassId × FieldType)) (A : Nat → Prop) (w : va_W) (t : State) : Prop := va_P D cl w t.heap ∧ va_K D cl tys t ∧ va_D A w
end
section
theorem kw_0 : Cond.selects R_H y_H_forgetPlan y_H_forgetPlan ∈ ct_tb := ct_in (i := 0) (by decide +kernel) rfl
theorem kw_1 : Cond.selects R_H y_H_makePlan y_H_makePlan ∈ ct_tb := ct_in (i := 1) (by decide +kernel) rfl
theorem kw_2 : Cond.selects R_P y_P_noteLabels y_P_noteLabels ∈ ct_tb := ct_in (i := 2) (by decide +kernel) rfl
theorem kw_3 : Cond.selects R_P y_P_noteLeaves y_P_noteLeaves ∈ ct_tb := ct_in (i := 3) (by decide +kernel) rfl
theorem kw_4 : Cond.selects R_P y_P_choosePart y_P_choosePart ∈ ct_tb := ct_in (i := 4) (by decide +kernel) rfl
theorem kw_5 : Cond.selects R_P y_P_listSteps y_P_listSteps ∈ ct_tb := ct_in (i := 5) (by decide +kernel) rfl
theorem kw_6 : Cond.selects R_H y_H_allOperands y_H_allOperands ∈ ct_tb := ct_in (i := 6) (by decide +kernel) rfl
theorem kw_8 : Cond.selects R_H y_H_aTableHas y_H_aTableHas ∈ ct_tb := ct_in (i := 8) (by decide +kernel) rfl
theorem kw_9 : Cond.selects R_H y_H_isTable y_H_isTable ∈ ct_tb := ct_in (i := 9) (by decide +kernel) rfl
theorem kw_10 : Cond.selects R_H y_H_countSteps y_H_countSteps ∈ ct_tb := ct_in (i := 10) (by decide +kernel) rfl
theorem kw_11 : Cond.selects R_H y_H_sumAlone y_H_sumAlone ∈ ct_tb := ct_in (i := 11) (by decide +kernel) rfl
theorem kw_12 : Cond.selects R_R y_R_layOut y_R_layOut ∈ ct_tb := ct_in (i := 12) (by decide +kernel) rfl
theorem kw_13 : Cond.selects R_H y_H_followPlan y_H_followPlan ∈ ct_tb := ct_in (i := 13) (by decide +kernel) rfl
theorem kw_14 : Cond.selects R_H y_H_joinParts y_H_joinParts ∈ ct_tb := ct_in (i := 14) (by decide +kernel) rfl
theorem kw_15 : Cond.selects R_M y_M_refuse y_M_refuse ∈ ct_tb := ct_in (i := 15) (by decide +kernel) rfl
theorem kw_16 : Cond.selects R_M y_M_isTable y_M_isTable ∈ ct_tb := ct_in (i := 16) (by decide +kernel) rfl
theorem kw_17 : Cond.selects R_M y_M_product y_M_product ∈ ct_tb := ct_in (i := 17) (by decide +kernel) rfl
theorem kw_18 : Cond.selects R_M y_M_plan y_M_plan ∈ ct_tb := ct_in (i := 18) (by decide +kernel) rfl
theorem kw_19 : Cond.selects R_M y_M_joins y_M_joins ∈ ct_tb := ct_in (i := 19) (by decide +kernel) rfl
theorem kw_20 : Cond.selects R_M y_M_leaves y_M_leaves ∈ ct_tb := ct_in (i := 20) (by decide +kernel) rfl
theorem kw_21 : Cond.selects R_M y_M_has y_M_has ∈ ct_tb := ct_in (i := 21) (by decide +kernel) rfl
theorem kw_22 : Cond.selects R_M y_M_list y_M_list ∈ ct_tb := ct_in (i := 22) (by decide +kernel) rfl
theorem kw_23 : Cond.selects R_M y_M_at y_M_at ∈ ct_tb := ct_in (i := 23) (by decide +kernel) rfl
theorem kw_24 : Cond.selects R_M y_M_next y_M_next ∈ ct_tb := ct_in (i := 24) (by decide +kernel) rfl
theorem kw_25 : Cond.initialized R_L ∈ ct_tb := ct_in (i := 25) (by decide +kernel) rfl
theorem kw_26 : Cond.initialized R_H ∈ ct_tb := ct_in (i := 26) (by decide +kernel) rfl
theorem kw_27 : Cond.initialized R_S ∈ ct_tb := ct_in (i := 27) (by decide +kernel) rfl
theorem kw_28 : Cond.initialized R_P ∈ ct_tb := ct_in (i := 28) (by decide +kernel) rfl
theorem kw_29 : Cond.initialized R_R ∈ ct_tb := ct_in (i := 29) (by decide +kernel) rfl
theorem kw_30 : Cond.initialized R_M ∈ ct_tb := ct_in (i := 30) (by decide +kernel) rfl
theorem kw_31 : Cond.initialized "java/lang/Throwable" ∈ ct_tb := ct_in (i := 31) (by decide +kernel) rfl
theorem kw_32 : Cond.initialized "java/lang/Exception" ∈ ct_tb := ct_in (i := 32) (by decide +kernel) rfl
theorem kw_33 : Cond.initialized "java/lang/RuntimeException" ∈ ct_tb := ct_in (i := 33) (by decide +kernel) rfl
theorem kw_34 : Cond.initialized "java/lang/IllegalArgumentException" ∈ ct_tb := ct_in (i := 34) (by decide +kernel) rfl
theorem kw_35 : Cond.initialized "java/lang/IllegalStateException" ∈ ct_tb := ct_in (i := 35) (by decide +kernel) rfl
theorem kw_36 : Cond.initialized "java/lang/UnsupportedOperationException" ∈ ct_tb := ct_in (i := 36) (by decide +kernel) rfl
theorem kw_37 : Cond.initialized "java/lang/IndexOutOfBoundsException" ∈ ct_tb := ct_in (i := 37) (by decide +kernel) rfl
theorem kw_38 : Cond.initialized R_I ∈ ct_tb := ct_in (i := 38) (by decide +kernel) rfl
theorem kw_39 : Cond.initialized R_Ma ∈ ct_tb := ct_in (i := 39) (by decide +kernel) rfl
theorem kw_40 : Cond.initialized R_Ar ∈ ct_tb := ct_in (i := 40) (by decide +kernel) rfl
theorem kw_41 : Cond.initialized R_Sy ∈ ct_tb := ct_in (i := 41) (by decide +kernel) rfl
theorem kw_42 : Cond.classLink R_L 8 R_H ∈ ct_tb := ct_in (i := 42) (by decide +kernel) rfl
theorem kw_43 : Cond.instantiable R_H 12 ∈ ct_tb := ct_in (i := 43) (by decide +kernel) rfl
theorem kw_44 : Cond.methodLink R_L 49 y_H_init ∈ ct_tb := ct_in (i := 44) (by decide +kernel) rfl
theorem kw_45 : Cond.instanceMethod y_H_init ∈ ct_tb := ct_in (i := 45) (by decide +kernel) rfl
theorem kw_46 : k_H_init ∈ ct_tb := ct_in (i := 46) (by decide +kernel) rfl
theorem kw_47 : Cond.methodLink R_H 3 objectInit ∈ ct_tb := ct_in (i := 47) (by decide +kernel) rfl
theorem kw_48 : Cond.instanceMethod objectInit ∈ ct_tb := ct_in (i := 48) (by decide +kernel) rfl
theorem kw_49 : Cond.code objectInit ⟨#[0xb1]⟩ 1 none ∈ ct_tb := ct_in (i := 49) (by decide +kernel) rfl
theorem kw_50 : Cond.classLink R_H 9 R_S ∈ ct_tb := ct_in (i := 50) (by decide +kernel) rfl
theorem kw_51 : Cond.instantiable R_S 1 ∈ ct_tb := ct_in (i := 51) (by decide +kernel) rfl
theorem kw_52 : Cond.methodLink R_H 11 y_S_init ∈ ct_tb := ct_in (i := 52) (by decide +kernel) rfl
theorem kw_53 : Cond.instanceMethod y_S_init ∈ ct_tb := ct_in (i := 53) (by decide +kernel) rfl
theorem kw_54 : k_S_init ∈ ct_tb := ct_in (i := 54) (by decide +kernel) rfl
theorem kw_55 : Cond.methodLink R_S 3 objectInit ∈ ct_tb := ct_in (i := 55) (by decide +kernel) rfl
theorem kw_56 : Cond.fieldLink R_S 9 "ContractHouse$Sizes" "sizes" "[I" ∈ ct_tb := ct_in (i := 56) (by decide +kernel) rfl
theorem kw_60 : Cond.arrayClass .int ∈ ct_tb := ct_in (i := 60) (by decide +kernel) rfl
theorem kw_61 : Cond.classLink R_H 16 R_P ∈ ct_tb := ct_in (i := 61) (by decide +kernel) rfl
theorem kw_62 : Cond.instantiable R_P 6 ∈ ct_tb := ct_in (i := 62) (by decide +kernel) rfl
theorem kw_63 : Cond.methodLink R_H 18 y_P_init ∈ ct_tb := ct_in (i := 63) (by decide +kernel) rfl
theorem kw_64 : Cond.instanceMethod y_P_init ∈ ct_tb := ct_in (i := 64) (by decide +kernel) rfl
theorem kw_65 : k_P_init ∈ ct_tb := ct_in (i := 65) (by decide +kernel) rfl
theorem kw_66 : Cond.methodLink R_P 3 objectInit ∈ ct_tb := ct_in (i := 66) (by decide +kernel) rfl
theorem kw_67 : Cond.fieldLink R_P 9 "ContractHouse$Plan" "sizes" "LContractHouse$Sizes;" ∈ ct_tb := ct_in (i := 67) (by decide +kernel) rfl
theorem kw_68 : Cond.fieldLink R_P 15 "ContractHouse$Plan" "has" "[I" ∈ ct_tb := ct_in (i := 68) (by decide +kernel) rfl
theorem kw_69 : Cond.fieldLink R_P 19 "ContractHouse$Plan" "leaves" "[I" ∈ ct_tb := ct_in (i := 69) (by decide +kernel) rfl
theorem kw_70 : Cond.fieldLink R_P 22 "ContractHouse$Plan" "costs" "[I" ∈ ct_tb := ct_in (i := 70) (by decide +kernel) rfl
theorem kw_71 : Cond.fieldLink R_P 25 "ContractHouse$Plan" "parts" "[I" ∈ ct_tb := ct_in (i := 71) (by decide +kernel) rfl
theorem kw_72 : Cond.fieldLink R_P 28 "ContractHouse$Plan" "joinedSets" "[I" ∈ ct_tb := ct_in (i := 72) (by decide +kernel) rfl
theorem kw_86 : Cond.classLink R_H 25 R_R ∈ ct_tb := ct_in (i := 86) (by decide +kernel) rfl
theorem kw_87 : Cond.instantiable R_R 7 ∈ ct_tb := ct_in (i := 87) (by decide +kernel) rfl
theorem kw_88 : Cond.methodLink R_H 27 y_R_init ∈ ct_tb := ct_in (i := 88) (by decide +kernel) rfl
theorem kw_89 : Cond.instanceMethod y_R_init ∈ ct_tb := ct_in (i := 89) (by decide +kernel) rfl
theorem kw_90 : k_R_init ∈ ct_tb := ct_in (i := 90) (by decide +kernel) rfl
theorem kw_91 : Cond.methodLink R_R 3 objectInit ∈ ct_tb := ct_in (i := 91) (by decide +kernel) rfl
theorem kw_92 : Cond.fieldLink R_R 9 "ContractHouse$Row" "sizes" "LContractHouse$Sizes;" ∈ ct_tb := ct_in (i := 92) (by decide +kernel) rfl
theorem kw_93 : Cond.fieldLink R_R 15 "ContractHouse$Row" "cells" "[I" ∈ ct_tb := ct_in (i := 93) (by decide +kernel) rfl
theorem kw_94 : Cond.fieldLink R_R 19 "ContractHouse$Row" "ends" "[I" ∈ ct_tb := ct_in (i := 94) (by decide +kernel) rfl
theorem kw_95 : Cond.fieldLink R_R 22 "ContractHouse$Row" "indexes" "[I" ∈ ct_tb := ct_in (i := 95) (by decide +kernel) rfl
theorem kw_96 : Cond.fieldLink R_R 25 "ContractHouse$Row" "leftStrides" "[I" ∈ ct_tb := ct_in (i := 96) (by decide +kernel) rfl
theorem kw_97 : Cond.fieldLink R_R 28 "ContractHouse$Row" "rightStrides" "[I" ∈ ct_tb := ct_in (i := 97) (by decide +kernel) rfl
theorem kw_98 : Cond.fieldLink R_R 31 "ContractHouse$Row" "toStrides" "[I" ∈ ct_tb := ct_in (i := 98) (by decide +kernel) rfl
theorem kw_114 : Cond.fieldLink R_H 12 "ContractHouse" "sizes" "LContractHouse$Sizes;" ∈ ct_tb := ct_in (i := 114) (by decide +kernel) rfl
theorem kw_115 : Cond.fieldLink R_H 21 "ContractHouse" "plan" "LContractHouse$Plan;" ∈ ct_tb := ct_in (i := 115) (by decide +kernel) rfl
theorem kw_116 : Cond.fieldLink R_H 28 "ContractHouse" "row" "LContractHouse$Row;" ∈ ct_tb := ct_in (i := 116) (by decide +kernel) rfl
theorem kw_117 : Cond.fieldLink R_H 77 "ContractHouse" "tables" "I" ∈ ct_tb := ct_in (i := 117) (by decide +kernel) rfl
theorem kw_118 : Cond.fieldLink R_H 32 "ContractHouse" "tableLabels" "[I" ∈ ct_tb := ct_in (i := 118) (by decide +kernel) rfl
theorem kw_119 : Cond.fieldLink R_H 110 "ContractHouse" "operands" "I" ∈ ct_tb := ct_in (i := 119) (by decide +kernel) rfl
theorem kw_120 : Cond.fieldLink R_H 36 "ContractHouse" "operandTables" "[I" ∈ ct_tb := ct_in (i := 120) (by decide +kernel) rfl
theorem kw_121 : Cond.fieldLink R_H 39 "ContractHouse" "operandLabels" "[I" ∈ ct_tb := ct_in (i := 121) (by decide +kernel) rfl
theorem kw_122 : Cond.fieldLink R_H 113 "ContractHouse" "resultLabels" "I" ∈ ct_tb := ct_in (i := 122) (by decide +kernel) rfl
theorem kw_123 : Cond.fieldLink R_H 42 "ContractHouse" "homes" "[I" ∈ ct_tb := ct_in (i := 123) (by decide +kernel) rfl
theorem kw_124 : Cond.fieldLink R_H 167 "ContractHouse" "planned" "Z" ∈ ct_tb := ct_in (i := 124) (by decide +kernel) rfl
theorem kw_125 : Cond.fieldLink R_H 67 "ContractHouse" "summed" "Z" ∈ ct_tb := ct_in (i := 125) (by decide +kernel) rfl
theorem kw_151 : Cond.methodLink R_L 75 y_H_clear ∈ ct_tb := ct_in (i := 151) (by decide +kernel) rfl
theorem kw_152 : Cond.instanceMethod y_H_clear ∈ ct_tb := ct_in (i := 152) (by decide +kernel) rfl
theorem kw_153 : Cond.selects R_H y_H_clear y_H_clear ∈ ct_tb := ct_in (i := 153) (by decide +kernel) rfl
theorem kw_154 : k_H_clear ∈ ct_tb := ct_in (i := 154) (by decide +kernel) rfl
theorem kw_155 : Cond.methodLink R_H 116 y_H_forgetPlan ∈ ct_tb := ct_in (i := 155) (by decide +kernel) rfl
theorem kw_157 : Cond.instanceMethod y_H_forgetPlan ∈ ct_tb := ct_in (i := 157) (by decide +kernel) rfl
theorem kw_158 : k_H_forgetPlan ∈ ct_tb := ct_in (i := 158) (by decide +kernel) rfl
theorem kw_159 : Cond.methodLink R_L 85 y_H_cost ∈ ct_tb := ct_in (i := 159) (by decide +kernel) rfl
theorem kw_160 : Cond.instanceMethod y_H_cost ∈ ct_tb := ct_in (i := 160) (by decide +kernel) rfl
theorem kw_161 : Cond.selects R_H y_H_cost y_H_cost ∈ ct_tb := ct_in (i := 161) (by decide +kernel) rfl
theorem kw_162 : k_H_cost ∈ ct_tb := ct_in (i := 162) (by decide +kernel) rfl
theorem kw_163 : Cond.methodLink R_H 121 y_H_makePlan ∈ ct_tb := ct_in (i := 163) (by decide +kernel) rfl
theorem kw_165 : Cond.instanceMethod y_H_makePlan ∈ ct_tb := ct_in (i := 165) (by decide +kernel) rfl
theorem kw_166 : k_H_makePlan ∈ ct_tb := ct_in (i := 166) (by decide +kernel) rfl
theorem kw_167 : Cond.methodLink R_H 170 y_P_make ∈ ct_tb := ct_in (i := 167) (by decide +kernel) rfl
theorem kw_168 : Cond.instanceMethod y_P_make ∈ ct_tb := ct_in (i := 168) (by decide +kernel) rfl
theorem kw_169 : Cond.selects R_P y_P_make y_P_make ∈ ct_tb := ct_in (i := 169) (by decide +kernel) rfl
theorem kw_170 : k_P_make ∈ ct_tb := ct_in (i := 170) (by decide +kernel) rfl
theorem kw_171 : Cond.methodLink R_P 41 y_P_noteLabels ∈ ct_tb := ct_in (i := 171) (by decide +kernel) rfl
theorem kw_173 : Cond.instanceMethod y_P_noteLabels ∈ ct_tb := ct_in (i := 173) (by decide +kernel) rfl
theorem kw_174 : k_P_noteLabels ∈ ct_tb := ct_in (i := 174) (by decide +kernel) rfl
theorem kw_175 : Cond.methodLink R_P 45 y_P_noteLeaves ∈ ct_tb := ct_in (i := 175) (by decide +kernel) rfl
theorem kw_177 : Cond.instanceMethod y_P_noteLeaves ∈ ct_tb := ct_in (i := 177) (by decide +kernel) rfl
theorem kw_178 : k_P_noteLeaves ∈ ct_tb := ct_in (i := 178) (by decide +kernel) rfl
theorem kw_179 : Cond.methodLink R_P 49 y_P_isSeveral ∈ ct_tb := ct_in (i := 179) (by decide +kernel) rfl
theorem kw_180 : Cond.static y_P_isSeveral ∈ ct_tb := ct_in (i := 180) (by decide +kernel) rfl
theorem kw_181 : k_P_isSeveral ∈ ct_tb := ct_in (i := 181) (by decide +kernel) rfl
theorem kw_182 : Cond.methodLink R_P 53 y_P_choosePart ∈ ct_tb := ct_in (i := 182) (by decide +kernel) rfl
theorem kw_184 : Cond.instanceMethod y_P_choosePart ∈ ct_tb := ct_in (i := 184) (by decide +kernel) rfl
theorem kw_185 : k_P_choosePart ∈ ct_tb := ct_in (i := 185) (by decide +kernel) rfl
theorem kw_186 : Cond.methodLink R_P 61 y_P_joinCost ∈ ct_tb := ct_in (i := 186) (by decide +kernel) rfl
theorem kw_187 : Cond.instanceMethod y_P_joinCost ∈ ct_tb := ct_in (i := 187) (by decide +kernel) rfl
theorem kw_188 : Cond.selects R_P y_P_joinCost y_P_joinCost ∈ ct_tb := ct_in (i := 188) (by decide +kernel) rfl
theorem kw_189 : k_P_joinCost ∈ ct_tb := ct_in (i := 189) (by decide +kernel) rfl
theorem kw_190 : Cond.methodLink R_P 31 y_P_joinLabels ∈ ct_tb := ct_in (i := 190) (by decide +kernel) rfl
theorem kw_191 : Cond.instanceMethod y_P_joinLabels ∈ ct_tb := ct_in (i := 191) (by decide +kernel) rfl
theorem kw_192 : Cond.selects R_P y_P_joinLabels y_P_joinLabels ∈ ct_tb := ct_in (i := 192) (by decide +kernel) rfl
theorem kw_193 : k_P_joinLabels ∈ ct_tb := ct_in (i := 193) (by decide +kernel) rfl
theorem kw_194 : Cond.methodLink R_P 35 y_S_choices ∈ ct_tb := ct_in (i := 194) (by decide +kernel) rfl
theorem kw_195 : Cond.instanceMethod y_S_choices ∈ ct_tb := ct_in (i := 195) (by decide +kernel) rfl
theorem kw_196 : Cond.selects R_S y_S_choices y_S_choices ∈ ct_tb := ct_in (i := 196) (by decide +kernel) rfl
theorem kw_197 : k_S_choices ∈ ct_tb := ct_in (i := 197) (by decide +kernel) rfl
theorem kw_198 : Cond.methodLink R_P 57 y_P_listSteps ∈ ct_tb := ct_in (i := 198) (by decide +kernel) rfl
theorem kw_200 : Cond.instanceMethod y_P_listSteps ∈ ct_tb := ct_in (i := 200) (by decide +kernel) rfl
theorem kw_201 : k_P_listSteps ∈ ct_tb := ct_in (i := 201) (by decide +kernel) rfl
theorem kw_202 : Cond.methodLink R_P 64 y_I_bitCount ∈ ct_tb := ct_in (i := 202) (by decide +kernel) rfl
theorem kw_203 : Cond.static y_I_bitCount ∈ ct_tb := ct_in (i := 203) (by decide +kernel) rfl
theorem kw_204 : k_I_bitCount ∈ ct_tb := ct_in (i := 204) (by decide +kernel) rfl
theorem kw_205 : Cond.constant R_I 265 (1431655765) ∈ ct_tb := ct_in (i := 205) (by decide +kernel) rfl
theorem kw_206 : Cond.constant R_I 266 (858993459) ∈ ct_tb := ct_in (i := 206) (by decide +kernel) rfl
theorem kw_207 : Cond.constant R_I 267 (252645135) ∈ ct_tb := ct_in (i := 207) (by decide +kernel) rfl
theorem kw_208 : Cond.methodLink R_H 124 y_H_allOperands ∈ ct_tb := ct_in (i := 208) (by decide +kernel) rfl
theorem kw_210 : Cond.instanceMethod y_H_allOperands ∈ ct_tb := ct_in (i := 210) (by decide +kernel) rfl
theorem kw_211 : k_H_allOperands ∈ ct_tb := ct_in (i := 211) (by decide +kernel) rfl
theorem kw_212 : Cond.methodLink R_H 128 y_P_costOf ∈ ct_tb := ct_in (i := 212) (by decide +kernel) rfl
theorem kw_213 : Cond.instanceMethod y_P_costOf ∈ ct_tb := ct_in (i := 213) (by decide +kernel) rfl
theorem kw_214 : Cond.selects R_P y_P_costOf y_P_costOf ∈ ct_tb := ct_in (i := 214) (by decide +kernel) rfl
theorem kw_215 : k_P_costOf ∈ ct_tb := ct_in (i := 215) (by decide +kernel) rfl
theorem kw_216 : Cond.methodLink R_L 53 y_L_size ∈ ct_tb := ct_in (i := 216) (by decide +kernel) rfl
theorem kw_217 : Cond.static y_L_size ∈ ct_tb := ct_in (i := 217) (by decide +kernel) rfl
theorem kw_218 : k_L_size ∈ ct_tb := ct_in (i := 218) (by decide +kernel) rfl
theorem kw_219 : Cond.classLink R_L 13 "java/lang/IllegalArgumentException" ∈ ct_tb := ct_in (i := 219) (by decide +kernel) rfl
theorem kw_220 : Cond.classLink R_L 15 "java/lang/IllegalStateException" ∈ ct_tb := ct_in (i := 220) (by decide +kernel) rfl
theorem kw_221 : Cond.methodLink R_L 7 y_H_size ∈ ct_tb := ct_in (i := 221) (by decide +kernel) rfl
theorem kw_222 : Cond.instanceMethod y_H_size ∈ ct_tb := ct_in (i := 222) (by decide +kernel) rfl
theorem kw_223 : Cond.selects R_H y_H_size y_H_size ∈ ct_tb := ct_in (i := 223) (by decide +kernel) rfl
theorem kw_224 : k_H_size ∈ ct_tb := ct_in (i := 224) (by decide +kernel) rfl
theorem kw_225 : Cond.classLink R_H 45 "java/lang/IllegalArgumentException" ∈ ct_tb := ct_in (i := 225) (by decide +kernel) rfl
theorem kw_248 : Cond.instanceMethod ⟨"java/lang/Throwable", "<init>", "()V"⟩ ∈ ct_tb := ct_in (i := 248) (by decide +kernel) rfl
theorem kw_256 : Cond.instanceMethod ⟨"java/lang/Throwable", "fillInStackTrace", "()Ljava/lang/Throwable;"⟩ ∈ ct_tb := ct_in (i := 256) (by decide +kernel) rfl
theorem kw_264 : Cond.instanceMethod ⟨"java/lang/Throwable", "fillInStackTrace", "(I)Ljava/lang/Throwable;"⟩ ∈ ct_tb := ct_in (i := 264) (by decide +kernel) rfl
theorem kw_268 : Cond.methodLink R_H 49 ⟨"java/lang/IllegalArgumentException", "<init>", "(Ljava/lang/String;)V"⟩ ∈ ct_tb := ct_in (i := 268) (by decide +kernel) rfl
theorem kw_269 : Cond.instanceMethod ⟨"java/lang/IllegalArgumentException", "<init>", "(Ljava/lang/String;)V"⟩ ∈ ct_tb := ct_in (i := 269) (by decide +kernel) rfl
theorem kw_272 : Cond.instanceMethod ⟨"java/lang/RuntimeException", "<init>", "(Ljava/lang/String;)V"⟩ ∈ ct_tb := ct_in (i := 272) (by decide +kernel) rfl
theorem kw_275 : Cond.instanceMethod ⟨"java/lang/Exception", "<init>", "(Ljava/lang/String;)V"⟩ ∈ ct_tb := ct_in (i := 275) (by decide +kernel) rfl
theorem kw_278 : Cond.instanceMethod ⟨"java/lang/Throwable", "<init>", "(Ljava/lang/String;)V"⟩ ∈ ct_tb := ct_in (i := 278) (by decide +kernel) rfl
theorem kw_293 : Cond.arrayClass .byte ∈ ct_tb := ct_in (i := 293) (by decide +kernel) rfl
theorem kw_295 : Cond.methodLink R_H 54 y_H_aTableHas ∈ ct_tb := ct_in (i := 295) (by decide +kernel) rfl
theorem kw_297 : Cond.instanceMethod y_H_aTableHas ∈ ct_tb := ct_in (i := 297) (by decide +kernel) rfl
theorem kw_298 : k_H_aTableHas ∈ ct_tb := ct_in (i := 298) (by decide +kernel) rfl
theorem kw_299 : Cond.methodLink R_H 164 y_H_labelBit ∈ ct_tb := ct_in (i := 299) (by decide +kernel) rfl
theorem kw_300 : Cond.static y_H_labelBit ∈ ct_tb := ct_in (i := 300) (by decide +kernel) rfl
theorem kw_301 : k_H_labelBit ∈ ct_tb := ct_in (i := 301) (by decide +kernel) rfl
theorem kw_302 : Cond.classLink R_H 58 "java/lang/IllegalStateException" ∈ ct_tb := ct_in (i := 302) (by decide +kernel) rfl
theorem kw_312 : Cond.methodLink R_H 62 ⟨"java/lang/IllegalStateException", "<init>", "(Ljava/lang/String;)V"⟩ ∈ ct_tb := ct_in (i := 312) (by decide +kernel) rfl
theorem kw_313 : Cond.instanceMethod ⟨"java/lang/IllegalStateException", "<init>", "(Ljava/lang/String;)V"⟩ ∈ ct_tb := ct_in (i := 313) (by decide +kernel) rfl
theorem kw_318 : Cond.methodLink R_H 63 y_S_change ∈ ct_tb := ct_in (i := 318) (by decide +kernel) rfl
theorem kw_319 : Cond.instanceMethod y_S_change ∈ ct_tb := ct_in (i := 319) (by decide +kernel) rfl
theorem kw_320 : Cond.selects R_S y_S_change y_S_change ∈ ct_tb := ct_in (i := 320) (by decide +kernel) rfl
theorem kw_321 : k_S_change ∈ ct_tb := ct_in (i := 321) (by decide +kernel) rfl
theorem kw_322 : Cond.methodLink R_L 63 y_L_table ∈ ct_tb := ct_in (i := 322) (by decide +kernel) rfl
theorem kw_323 : Cond.static y_L_table ∈ ct_tb := ct_in (i := 323) (by decide +kernel) rfl
theorem kw_324 : k_L_table ∈ ct_tb := ct_in (i := 324) (by decide +kernel) rfl
theorem kw_325 : Cond.classLink R_L 21 "java/lang/UnsupportedOperationException" ∈ ct_tb := ct_in (i := 325) (by decide +kernel) rfl
theorem kw_326 : Cond.methodLink R_L 17 y_H_table ∈ ct_tb := ct_in (i := 326) (by decide +kernel) rfl
theorem kw_327 : Cond.instanceMethod y_H_table ∈ ct_tb := ct_in (i := 327) (by decide +kernel) rfl
theorem kw_328 : Cond.selects R_H y_H_table y_H_table ∈ ct_tb := ct_in (i := 328) (by decide +kernel) rfl
theorem kw_329 : k_H_table ∈ ct_tb := ct_in (i := 329) (by decide +kernel) rfl
theorem kw_330 : Cond.methodLink R_H 71 y_H_areLabels ∈ ct_tb := ct_in (i := 330) (by decide +kernel) rfl
theorem kw_331 : Cond.static y_H_areLabels ∈ ct_tb := ct_in (i := 331) (by decide +kernel) rfl
theorem kw_332 : k_H_areLabels ∈ ct_tb := ct_in (i := 332) (by decide +kernel) rfl
theorem kw_333 : Cond.methodLink R_H 160 y_H_mayFollow ∈ ct_tb := ct_in (i := 333) (by decide +kernel) rfl
theorem kw_334 : Cond.static y_H_mayFollow ∈ ct_tb := ct_in (i := 334) (by decide +kernel) rfl
theorem kw_335 : k_H_mayFollow ∈ ct_tb := ct_in (i := 335) (by decide +kernel) rfl
theorem kw_337 : Cond.classLink R_H 81 "java/lang/UnsupportedOperationException" ∈ ct_tb := ct_in (i := 337) (by decide +kernel) rfl
theorem kw_347 : Cond.methodLink R_H 85 ⟨"java/lang/UnsupportedOperationException", "<init>", "(Ljava/lang/String;)V"⟩ ∈ ct_tb := ct_in (i := 347) (by decide +kernel) rfl
theorem kw_348 : Cond.instanceMethod ⟨"java/lang/UnsupportedOperationException", "<init>", "(Ljava/lang/String;)V"⟩ ∈ ct_tb := ct_in (i := 348) (by decide +kernel) rfl
theorem kw_353 : Cond.methodLink R_H 86 y_H_labelBits ∈ ct_tb := ct_in (i := 353) (by decide +kernel) rfl
theorem kw_354 : Cond.static y_H_labelBits ∈ ct_tb := ct_in (i := 354) (by decide +kernel) rfl
theorem kw_355 : k_H_labelBits ∈ ct_tb := ct_in (i := 355) (by decide +kernel) rfl
theorem kw_356 : Cond.methodLink R_L 67 y_L_set ∈ ct_tb := ct_in (i := 356) (by decide +kernel) rfl
theorem kw_357 : Cond.static y_L_set ∈ ct_tb := ct_in (i := 357) (by decide +kernel) rfl
theorem kw_358 : k_L_set ∈ ct_tb := ct_in (i := 358) (by decide +kernel) rfl
theorem kw_359 : Cond.classLink R_L 27 "java/lang/IndexOutOfBoundsException" ∈ ct_tb := ct_in (i := 359) (by decide +kernel) rfl
theorem kw_360 : Cond.methodLink R_L 23 y_H_set ∈ ct_tb := ct_in (i := 360) (by decide +kernel) rfl
theorem kw_361 : Cond.instanceMethod y_H_set ∈ ct_tb := ct_in (i := 361) (by decide +kernel) rfl
theorem kw_362 : Cond.selects R_H y_H_set y_H_set ∈ ct_tb := ct_in (i := 362) (by decide +kernel) rfl
theorem kw_363 : k_H_set ∈ ct_tb := ct_in (i := 363) (by decide +kernel) rfl
theorem kw_364 : Cond.methodLink R_H 90 y_H_isTable ∈ ct_tb := ct_in (i := 364) (by decide +kernel) rfl
theorem kw_366 : Cond.instanceMethod y_H_isTable ∈ ct_tb := ct_in (i := 366) (by decide +kernel) rfl
theorem kw_367 : k_H_isTable ∈ ct_tb := ct_in (i := 367) (by decide +kernel) rfl
theorem kw_368 : Cond.classLink R_H 93 "java/lang/IndexOutOfBoundsException" ∈ ct_tb := ct_in (i := 368) (by decide +kernel) rfl
theorem kw_378 : Cond.methodLink R_H 97 ⟨"java/lang/IndexOutOfBoundsException", "<init>", "(Ljava/lang/String;)V"⟩ ∈ ct_tb := ct_in (i := 378) (by decide +kernel) rfl
theorem kw_379 : Cond.instanceMethod ⟨"java/lang/IndexOutOfBoundsException", "<init>", "(Ljava/lang/String;)V"⟩ ∈ ct_tb := ct_in (i := 379) (by decide +kernel) rfl
theorem kw_384 : Cond.methodLink R_H 98 y_S_choices ∈ ct_tb := ct_in (i := 384) (by decide +kernel) rfl
theorem kw_386 : Cond.methodLink R_H 104 y_H_homeOfTable ∈ ct_tb := ct_in (i := 386) (by decide +kernel) rfl
theorem kw_387 : Cond.static y_H_homeOfTable ∈ ct_tb := ct_in (i := 387) (by decide +kernel) rfl
theorem kw_388 : k_H_homeOfTable ∈ ct_tb := ct_in (i := 388) (by decide +kernel) rfl
theorem kw_389 : Cond.methodLink R_H 107 y_R_write ∈ ct_tb := ct_in (i := 389) (by decide +kernel) rfl
theorem kw_390 : Cond.instanceMethod y_R_write ∈ ct_tb := ct_in (i := 390) (by decide +kernel) rfl
theorem kw_391 : Cond.selects R_R y_R_write y_R_write ∈ ct_tb := ct_in (i := 391) (by decide +kernel) rfl
theorem kw_392 : k_R_write ∈ ct_tb := ct_in (i := 392) (by decide +kernel) rfl
theorem kw_393 : Cond.methodLink R_L 71 y_L_extent ∈ ct_tb := ct_in (i := 393) (by decide +kernel) rfl
theorem kw_394 : Cond.static y_L_extent ∈ ct_tb := ct_in (i := 394) (by decide +kernel) rfl
theorem kw_395 : k_L_extent ∈ ct_tb := ct_in (i := 395) (by decide +kernel) rfl
theorem kw_396 : Cond.methodLink R_L 29 y_H_extent ∈ ct_tb := ct_in (i := 396) (by decide +kernel) rfl
theorem kw_397 : Cond.instanceMethod y_H_extent ∈ ct_tb := ct_in (i := 397) (by decide +kernel) rfl
theorem kw_398 : Cond.selects R_H y_H_extent y_H_extent ∈ ct_tb := ct_in (i := 398) (by decide +kernel) rfl
theorem kw_399 : k_H_extent ∈ ct_tb := ct_in (i := 399) (by decide +kernel) rfl
theorem kw_400 : Cond.methodLink R_L 79 y_L_operand ∈ ct_tb := ct_in (i := 400) (by decide +kernel) rfl
theorem kw_401 : Cond.static y_L_operand ∈ ct_tb := ct_in (i := 401) (by decide +kernel) rfl
theorem kw_402 : k_L_operand ∈ ct_tb := ct_in (i := 402) (by decide +kernel) rfl
theorem kw_403 : Cond.methodLink R_L 33 y_H_operand ∈ ct_tb := ct_in (i := 403) (by decide +kernel) rfl
theorem kw_404 : Cond.instanceMethod y_H_operand ∈ ct_tb := ct_in (i := 404) (by decide +kernel) rfl
theorem kw_405 : Cond.selects R_H y_H_operand y_H_operand ∈ ct_tb := ct_in (i := 405) (by decide +kernel) rfl
theorem kw_406 : k_H_operand ∈ ct_tb := ct_in (i := 406) (by decide +kernel) rfl
theorem kw_408 : Cond.methodLink R_L 82 y_L_result ∈ ct_tb := ct_in (i := 408) (by decide +kernel) rfl
theorem kw_409 : Cond.static y_L_result ∈ ct_tb := ct_in (i := 409) (by decide +kernel) rfl
theorem kw_410 : k_L_result ∈ ct_tb := ct_in (i := 410) (by decide +kernel) rfl
theorem kw_411 : Cond.methodLink R_L 36 y_H_result ∈ ct_tb := ct_in (i := 411) (by decide +kernel) rfl
theorem kw_412 : Cond.instanceMethod y_H_result ∈ ct_tb := ct_in (i := 412) (by decide +kernel) rfl
theorem kw_413 : Cond.selects R_H y_H_result y_H_result ∈ ct_tb := ct_in (i := 413) (by decide +kernel) rfl
theorem kw_414 : k_H_result ∈ ct_tb := ct_in (i := 414) (by decide +kernel) rfl
theorem kw_415 : Cond.methodLink R_L 89 y_L_step ∈ ct_tb := ct_in (i := 415) (by decide +kernel) rfl
theorem kw_416 : Cond.static y_L_step ∈ ct_tb := ct_in (i := 416) (by decide +kernel) rfl
theorem kw_417 : k_L_step ∈ ct_tb := ct_in (i := 417) (by decide +kernel) rfl
theorem kw_418 : Cond.methodLink R_L 39 y_H_step ∈ ct_tb := ct_in (i := 418) (by decide +kernel) rfl
theorem kw_419 : Cond.instanceMethod y_H_step ∈ ct_tb := ct_in (i := 419) (by decide +kernel) rfl
theorem kw_420 : Cond.selects R_H y_H_step y_H_step ∈ ct_tb := ct_in (i := 420) (by decide +kernel) rfl
theorem kw_421 : k_H_step ∈ ct_tb := ct_in (i := 421) (by decide +kernel) rfl
theorem kw_422 : Cond.methodLink R_H 131 y_H_countSteps ∈ ct_tb := ct_in (i := 422) (by decide +kernel) rfl
theorem kw_424 : Cond.instanceMethod y_H_countSteps ∈ ct_tb := ct_in (i := 424) (by decide +kernel) rfl
theorem kw_425 : k_H_countSteps ∈ ct_tb := ct_in (i := 425) (by decide +kernel) rfl
theorem kw_428 : Cond.methodLink R_H 138 y_P_joinedBy ∈ ct_tb := ct_in (i := 428) (by decide +kernel) rfl
theorem kw_429 : Cond.instanceMethod y_P_joinedBy ∈ ct_tb := ct_in (i := 429) (by decide +kernel) rfl
theorem kw_430 : Cond.selects R_P y_P_joinedBy y_P_joinedBy ∈ ct_tb := ct_in (i := 430) (by decide +kernel) rfl
theorem kw_431 : k_P_joinedBy ∈ ct_tb := ct_in (i := 431) (by decide +kernel) rfl
theorem kw_432 : Cond.methodLink R_H 141 y_P_partOf ∈ ct_tb := ct_in (i := 432) (by decide +kernel) rfl
theorem kw_433 : Cond.instanceMethod y_P_partOf ∈ ct_tb := ct_in (i := 433) (by decide +kernel) rfl
theorem kw_434 : Cond.selects R_P y_P_partOf y_P_partOf ∈ ct_tb := ct_in (i := 434) (by decide +kernel) rfl
theorem kw_435 : k_P_partOf ∈ ct_tb := ct_in (i := 435) (by decide +kernel) rfl
theorem kw_436 : Cond.methodLink R_H 144 y_P_joinCost ∈ ct_tb := ct_in (i := 436) (by decide +kernel) rfl
theorem kw_437 : Cond.methodLink R_H 148 y_P_joinLabels ∈ ct_tb := ct_in (i := 437) (by decide +kernel) rfl
theorem kw_438 : Cond.methodLink R_L 93 y_L_value ∈ ct_tb := ct_in (i := 438) (by decide +kernel) rfl
theorem kw_439 : Cond.static y_L_value ∈ ct_tb := ct_in (i := 439) (by decide +kernel) rfl
theorem kw_440 : k_L_value ∈ ct_tb := ct_in (i := 440) (by decide +kernel) rfl
theorem kw_441 : Cond.methodLink R_L 43 y_H_value ∈ ct_tb := ct_in (i := 441) (by decide +kernel) rfl
theorem kw_442 : Cond.instanceMethod y_H_value ∈ ct_tb := ct_in (i := 442) (by decide +kernel) rfl
theorem kw_443 : Cond.selects R_H y_H_value y_H_value ∈ ct_tb := ct_in (i := 443) (by decide +kernel) rfl
theorem kw_444 : k_H_value ∈ ct_tb := ct_in (i := 444) (by decide +kernel) rfl
theorem kw_445 : Cond.methodLink R_H 151 y_H_sumAlone ∈ ct_tb := ct_in (i := 445) (by decide +kernel) rfl
theorem kw_447 : Cond.instanceMethod y_H_sumAlone ∈ ct_tb := ct_in (i := 447) (by decide +kernel) rfl
theorem kw_448 : k_H_sumAlone ∈ ct_tb := ct_in (i := 448) (by decide +kernel) rfl
theorem kw_449 : Cond.methodLink R_H 174 y_R_join ∈ ct_tb := ct_in (i := 449) (by decide +kernel) rfl
theorem kw_450 : Cond.instanceMethod y_R_join ∈ ct_tb := ct_in (i := 450) (by decide +kernel) rfl
theorem kw_451 : Cond.selects R_R y_R_join y_R_join ∈ ct_tb := ct_in (i := 451) (by decide +kernel) rfl
theorem kw_452 : k_R_join ∈ ct_tb := ct_in (i := 452) (by decide +kernel) rfl
theorem kw_453 : Cond.methodLink R_R 46 y_S_choices ∈ ct_tb := ct_in (i := 453) (by decide +kernel) rfl
theorem kw_454 : Cond.methodLink R_R 52 y_R_layOut ∈ ct_tb := ct_in (i := 454) (by decide +kernel) rfl
theorem kw_456 : Cond.instanceMethod y_R_layOut ∈ ct_tb := ct_in (i := 456) (by decide +kernel) rfl
theorem kw_457 : k_R_layOut ∈ ct_tb := ct_in (i := 457) (by decide +kernel) rfl
theorem kw_458 : Cond.methodLink R_R 56 y_S_sizeOf ∈ ct_tb := ct_in (i := 458) (by decide +kernel) rfl
theorem kw_459 : Cond.instanceMethod y_S_sizeOf ∈ ct_tb := ct_in (i := 459) (by decide +kernel) rfl
theorem kw_460 : Cond.selects R_S y_S_sizeOf y_S_sizeOf ∈ ct_tb := ct_in (i := 460) (by decide +kernel) rfl
theorem kw_461 : k_S_sizeOf ∈ ct_tb := ct_in (i := 461) (by decide +kernel) rfl
theorem kw_462 : Cond.methodLink R_R 59 y_S_stride ∈ ct_tb := ct_in (i := 462) (by decide +kernel) rfl
theorem kw_463 : Cond.instanceMethod y_S_stride ∈ ct_tb := ct_in (i := 463) (by decide +kernel) rfl
theorem kw_464 : Cond.selects R_S y_S_stride y_S_stride ∈ ct_tb := ct_in (i := 464) (by decide +kernel) rfl
theorem kw_465 : k_S_stride ∈ ct_tb := ct_in (i := 465) (by decide +kernel) rfl
theorem kw_466 : Cond.methodLink R_S 15 y_S_choices ∈ ct_tb := ct_in (i := 466) (by decide +kernel) rfl
theorem kw_467 : Cond.methodLink R_H 154 y_H_followPlan ∈ ct_tb := ct_in (i := 467) (by decide +kernel) rfl
theorem kw_469 : Cond.instanceMethod y_H_followPlan ∈ ct_tb := ct_in (i := 469) (by decide +kernel) rfl
theorem kw_470 : k_H_followPlan ∈ ct_tb := ct_in (i := 470) (by decide +kernel) rfl
theorem kw_471 : Cond.methodLink R_H 178 y_P_leavesOf ∈ ct_tb := ct_in (i := 471) (by decide +kernel) rfl
theorem kw_472 : Cond.instanceMethod y_P_leavesOf ∈ ct_tb := ct_in (i := 472) (by decide +kernel) rfl
theorem kw_473 : Cond.selects R_P y_P_leavesOf y_P_leavesOf ∈ ct_tb := ct_in (i := 473) (by decide +kernel) rfl
theorem kw_474 : k_P_leavesOf ∈ ct_tb := ct_in (i := 474) (by decide +kernel) rfl
theorem kw_475 : Cond.methodLink R_H 181 y_R_reserve ∈ ct_tb := ct_in (i := 475) (by decide +kernel) rfl
theorem kw_476 : Cond.instanceMethod y_R_reserve ∈ ct_tb := ct_in (i := 476) (by decide +kernel) rfl
theorem kw_477 : Cond.selects R_R y_R_reserve y_R_reserve ∈ ct_tb := ct_in (i := 477) (by decide +kernel) rfl
theorem kw_478 : k_R_reserve ∈ ct_tb := ct_in (i := 478) (by decide +kernel) rfl
theorem kw_479 : Cond.methodLink R_R 34 y_Ma_max ∈ ct_tb := ct_in (i := 479) (by decide +kernel) rfl
theorem kw_480 : Cond.static y_Ma_max ∈ ct_tb := ct_in (i := 480) (by decide +kernel) rfl
theorem kw_481 : k_Ma_max ∈ ct_tb := ct_in (i := 481) (by decide +kernel) rfl
theorem kw_482 : Cond.methodLink R_R 40 y_Ar_copyOf ∈ ct_tb := ct_in (i := 482) (by decide +kernel) rfl
theorem kw_483 : Cond.static y_Ar_copyOf ∈ ct_tb := ct_in (i := 483) (by decide +kernel) rfl
theorem kw_484 : k_Ar_copyOf ∈ ct_tb := ct_in (i := 484) (by decide +kernel) rfl
theorem kw_485 : Cond.methodLink R_Ar 316 ⟨"[I", "clone", "()Ljava/lang/Object;"⟩ ∈ ct_tb := ct_in (i := 485) (by decide +kernel) rfl
theorem kw_488 : Cond.instanceMethod ⟨"java/lang/Object", "clone", "()Ljava/lang/Object;"⟩ ∈ ct_tb := ct_in (i := 488) (by decide +kernel) rfl
theorem kw_489 : Cond.selects "[I" ⟨"[I", "clone", "()Ljava/lang/Object;"⟩ ⟨"java/lang/Object", "clone", "()Ljava/lang/Object;"⟩ ∈ ct_tb := ct_in (i := 489) (by decide +kernel) rfl
theorem kw_491 : Cond.classLink R_Ar 317 "[I" ∈ ct_tb := ct_in (i := 491) (by decide +kernel) rfl
theorem kw_492 : Cond.methodLink R_Ar 304 y_Ma_min ∈ ct_tb := ct_in (i := 492) (by decide +kernel) rfl
theorem kw_493 : Cond.static y_Ma_min ∈ ct_tb := ct_in (i := 493) (by decide +kernel) rfl
theorem kw_494 : k_Ma_min ∈ ct_tb := ct_in (i := 494) (by decide +kernel) rfl
theorem kw_495 : Cond.methodLink R_Ar 150 ⟨"java/lang/System", "arraycopy", "(Ljava/lang/Object;ILjava/lang/Object;II)V"⟩ ∈ ct_tb := ct_in (i := 495) (by decide +kernel) rfl
theorem kw_496 : Cond.static ⟨"java/lang/System", "arraycopy", "(Ljava/lang/Object;ILjava/lang/Object;II)V"⟩ ∈ ct_tb := ct_in (i := 496) (by decide +kernel) rfl
theorem kw_497 : Cond.native ⟨"java/lang/System", "arraycopy", "(Ljava/lang/Object;ILjava/lang/Object;II)V"⟩ ∈ ct_tb := ct_in (i := 497) (by decide +kernel) rfl
theorem kw_498 : Cond.methodLink R_H 185 y_H_joinParts ∈ ct_tb := ct_in (i := 498) (by decide +kernel) rfl
theorem kw_500 : Cond.instanceMethod y_H_joinParts ∈ ct_tb := ct_in (i := 500) (by decide +kernel) rfl
theorem kw_501 : k_H_joinParts ∈ ct_tb := ct_in (i := 501) (by decide +kernel) rfl
theorem kw_502 : Cond.methodLink R_H 157 y_R_read ∈ ct_tb := ct_in (i := 502) (by decide +kernel) rfl
theorem kw_503 : Cond.instanceMethod y_R_read ∈ ct_tb := ct_in (i := 503) (by decide +kernel) rfl
theorem kw_504 : Cond.selects R_R y_R_read y_R_read ∈ ct_tb := ct_in (i := 504) (by decide +kernel) rfl
theorem kw_505 : k_R_read ∈ ct_tb := ct_in (i := 505) (by decide +kernel) rfl
theorem kw_506 : Cond.methodLink R_L 96 y_L_about ∈ ct_tb := ct_in (i := 506) (by decide +kernel) rfl
theorem kw_507 : Cond.static y_L_about ∈ ct_tb := ct_in (i := 507) (by decide +kernel) rfl
theorem kw_508 : k_L_about ∈ ct_tb := ct_in (i := 508) (by decide +kernel) rfl
theorem kw_509 : Cond.methodLink R_L 46 y_H_about ∈ ct_tb := ct_in (i := 509) (by decide +kernel) rfl
theorem kw_510 : Cond.instanceMethod y_H_about ∈ ct_tb := ct_in (i := 510) (by decide +kernel) rfl
theorem kw_511 : Cond.selects R_H y_H_about y_H_about ∈ ct_tb := ct_in (i := 511) (by decide +kernel) rfl
theorem kw_512 : k_H_about ∈ ct_tb := ct_in (i := 512) (by decide +kernel) rfl
theorem kw_513 : Cond.classLink R_L 50 R_M ∈ ct_tb := ct_in (i := 513) (by decide +kernel) rfl
theorem kw_514 : Cond.instantiable R_M 14 ∈ ct_tb := ct_in (i := 514) (by decide +kernel) rfl
theorem kw_515 : Cond.methodLink R_L 52 y_M_init ∈ ct_tb := ct_in (i := 515) (by decide +kernel) rfl
theorem kw_516 : Cond.instanceMethod y_M_init ∈ ct_tb := ct_in (i := 516) (by decide +kernel) rfl
theorem kw_517 : k_M_init ∈ ct_tb := ct_in (i := 517) (by decide +kernel) rfl
theorem kw_518 : Cond.methodLink R_M 1 objectInit ∈ ct_tb := ct_in (i := 518) (by decide +kernel) rfl
theorem kw_519 : Cond.fieldLink R_M 37 "ContractHouseModel" "thrown" "I" ∈ ct_tb := ct_in (i := 519) (by decide +kernel) rfl
theorem kw_520 : Cond.fieldLink R_M 7 "ContractHouseModel" "size" "[I" ∈ ct_tb := ct_in (i := 520) (by decide +kernel) rfl
theorem kw_521 : Cond.fieldLink R_M 45 "ContractHouseModel" "tables" "I" ∈ ct_tb := ct_in (i := 521) (by decide +kernel) rfl
theorem kw_522 : Cond.fieldLink R_M 13 "ContractHouseModel" "labels" "[I" ∈ ct_tb := ct_in (i := 522) (by decide +kernel) rfl
theorem kw_523 : Cond.fieldLink R_M 16 "ContractHouseModel" "cell" "[I" ∈ ct_tb := ct_in (i := 523) (by decide +kernel) rfl
theorem kw_524 : Cond.fieldLink R_M 64 "ContractHouseModel" "operands" "I" ∈ ct_tb := ct_in (i := 524) (by decide +kernel) rfl
theorem kw_525 : Cond.fieldLink R_M 19 "ContractHouseModel" "of" "[I" ∈ ct_tb := ct_in (i := 525) (by decide +kernel) rfl
theorem kw_526 : Cond.fieldLink R_M 67 "ContractHouseModel" "result" "I" ∈ ct_tb := ct_in (i := 526) (by decide +kernel) rfl
theorem kw_527 : Cond.fieldLink R_M 22 "ContractHouseModel" "best" "[I" ∈ ct_tb := ct_in (i := 527) (by decide +kernel) rfl
theorem kw_528 : Cond.fieldLink R_M 25 "ContractHouseModel" "part" "[I" ∈ ct_tb := ct_in (i := 528) (by decide +kernel) rfl
theorem kw_529 : Cond.fieldLink R_M 83 "ContractHouseModel" "steps" "I" ∈ ct_tb := ct_in (i := 529) (by decide +kernel) rfl
theorem kw_530 : Cond.fieldLink R_M 28 "ContractHouseModel" "step" "[I" ∈ ct_tb := ct_in (i := 530) (by decide +kernel) rfl
theorem kw_531 : Cond.fieldLink R_M 31 "ContractHouseModel" "todo" "[I" ∈ ct_tb := ct_in (i := 531) (by decide +kernel) rfl
theorem kw_532 : Cond.fieldLink R_M 34 "ContractHouseModel" "index" "[I" ∈ ct_tb := ct_in (i := 532) (by decide +kernel) rfl
theorem kw_562 : Cond.methodLink R_L 59 y_M_thrown ∈ ct_tb := ct_in (i := 562) (by decide +kernel) rfl
theorem kw_563 : Cond.instanceMethod y_M_thrown ∈ ct_tb := ct_in (i := 563) (by decide +kernel) rfl
theorem kw_564 : Cond.selects R_M y_M_thrown y_M_thrown ∈ ct_tb := ct_in (i := 564) (by decide +kernel) rfl
theorem kw_565 : k_M_thrown ∈ ct_tb := ct_in (i := 565) (by decide +kernel) rfl
theorem kw_566 : Cond.methodLink R_L 58 y_M_size ∈ ct_tb := ct_in (i := 566) (by decide +kernel) rfl
theorem kw_567 : Cond.instanceMethod y_M_size ∈ ct_tb := ct_in (i := 567) (by decide +kernel) rfl
theorem kw_568 : Cond.selects R_M y_M_size y_M_size ∈ ct_tb := ct_in (i := 568) (by decide +kernel) rfl
theorem kw_569 : k_M_size ∈ ct_tb := ct_in (i := 569) (by decide +kernel) rfl
theorem kw_570 : Cond.methodLink R_M 41 y_M_in ∈ ct_tb := ct_in (i := 570) (by decide +kernel) rfl
theorem kw_571 : Cond.static y_M_in ∈ ct_tb := ct_in (i := 571) (by decide +kernel) rfl
theorem kw_572 : k_M_in ∈ ct_tb := ct_in (i := 572) (by decide +kernel) rfl
theorem kw_573 : Cond.methodLink R_M 48 y_M_refuse ∈ ct_tb := ct_in (i := 573) (by decide +kernel) rfl
theorem kw_575 : Cond.instanceMethod y_M_refuse ∈ ct_tb := ct_in (i := 575) (by decide +kernel) rfl
theorem kw_576 : k_M_refuse ∈ ct_tb := ct_in (i := 576) (by decide +kernel) rfl
theorem kw_577 : Cond.methodLink R_L 66 y_M_table ∈ ct_tb := ct_in (i := 577) (by decide +kernel) rfl
theorem kw_578 : Cond.instanceMethod y_M_table ∈ ct_tb := ct_in (i := 578) (by decide +kernel) rfl
theorem kw_579 : Cond.selects R_M y_M_table y_M_table ∈ ct_tb := ct_in (i := 579) (by decide +kernel) rfl
theorem kw_580 : k_M_table ∈ ct_tb := ct_in (i := 580) (by decide +kernel) rfl
theorem kw_581 : Cond.methodLink R_M 52 y_M_bits ∈ ct_tb := ct_in (i := 581) (by decide +kernel) rfl
theorem kw_582 : Cond.static y_M_bits ∈ ct_tb := ct_in (i := 582) (by decide +kernel) rfl
theorem kw_583 : k_M_bits ∈ ct_tb := ct_in (i := 583) (by decide +kernel) rfl
theorem kw_584 : Cond.methodLink R_L 70 y_M_set ∈ ct_tb := ct_in (i := 584) (by decide +kernel) rfl
theorem kw_585 : Cond.instanceMethod y_M_set ∈ ct_tb := ct_in (i := 585) (by decide +kernel) rfl
theorem kw_586 : Cond.selects R_M y_M_set y_M_set ∈ ct_tb := ct_in (i := 586) (by decide +kernel) rfl
theorem kw_587 : k_M_set ∈ ct_tb := ct_in (i := 587) (by decide +kernel) rfl
theorem kw_588 : Cond.methodLink R_M 56 y_M_isTable ∈ ct_tb := ct_in (i := 588) (by decide +kernel) rfl
theorem kw_590 : Cond.instanceMethod y_M_isTable ∈ ct_tb := ct_in (i := 590) (by decide +kernel) rfl
theorem kw_591 : k_M_isTable ∈ ct_tb := ct_in (i := 591) (by decide +kernel) rfl
theorem kw_592 : Cond.methodLink R_M 60 y_M_product ∈ ct_tb := ct_in (i := 592) (by decide +kernel) rfl
theorem kw_594 : Cond.instanceMethod y_M_product ∈ ct_tb := ct_in (i := 594) (by decide +kernel) rfl
theorem kw_595 : k_M_product ∈ ct_tb := ct_in (i := 595) (by decide +kernel) rfl
theorem kw_596 : Cond.methodLink R_L 74 y_M_extent ∈ ct_tb := ct_in (i := 596) (by decide +kernel) rfl
theorem kw_597 : Cond.instanceMethod y_M_extent ∈ ct_tb := ct_in (i := 597) (by decide +kernel) rfl
theorem kw_598 : Cond.selects R_M y_M_extent y_M_extent ∈ ct_tb := ct_in (i := 598) (by decide +kernel) rfl
theorem kw_599 : k_M_extent ∈ ct_tb := ct_in (i := 599) (by decide +kernel) rfl
theorem kw_600 : Cond.methodLink R_L 78 y_M_clear ∈ ct_tb := ct_in (i := 600) (by decide +kernel) rfl
theorem kw_601 : Cond.instanceMethod y_M_clear ∈ ct_tb := ct_in (i := 601) (by decide +kernel) rfl
theorem kw_602 : Cond.selects R_M y_M_clear y_M_clear ∈ ct_tb := ct_in (i := 602) (by decide +kernel) rfl
theorem kw_603 : k_M_clear ∈ ct_tb := ct_in (i := 603) (by decide +kernel) rfl
theorem kw_604 : Cond.methodLink R_L 81 y_M_operand ∈ ct_tb := ct_in (i := 604) (by decide +kernel) rfl
theorem kw_605 : Cond.instanceMethod y_M_operand ∈ ct_tb := ct_in (i := 605) (by decide +kernel) rfl
theorem kw_606 : Cond.selects R_M y_M_operand y_M_operand ∈ ct_tb := ct_in (i := 606) (by decide +kernel) rfl
theorem kw_607 : k_M_operand ∈ ct_tb := ct_in (i := 607) (by decide +kernel) rfl
theorem kw_608 : Cond.methodLink R_L 84 y_M_result ∈ ct_tb := ct_in (i := 608) (by decide +kernel) rfl
theorem kw_609 : Cond.instanceMethod y_M_result ∈ ct_tb := ct_in (i := 609) (by decide +kernel) rfl
theorem kw_610 : Cond.selects R_M y_M_result y_M_result ∈ ct_tb := ct_in (i := 610) (by decide +kernel) rfl
theorem kw_611 : k_M_result ∈ ct_tb := ct_in (i := 611) (by decide +kernel) rfl
theorem kw_612 : Cond.methodLink R_L 88 y_M_cost ∈ ct_tb := ct_in (i := 612) (by decide +kernel) rfl
theorem kw_613 : Cond.instanceMethod y_M_cost ∈ ct_tb := ct_in (i := 613) (by decide +kernel) rfl
theorem kw_614 : Cond.selects R_M y_M_cost y_M_cost ∈ ct_tb := ct_in (i := 614) (by decide +kernel) rfl
theorem kw_615 : k_M_cost ∈ ct_tb := ct_in (i := 615) (by decide +kernel) rfl
theorem kw_616 : Cond.methodLink R_M 80 y_M_plan ∈ ct_tb := ct_in (i := 616) (by decide +kernel) rfl
theorem kw_618 : Cond.instanceMethod y_M_plan ∈ ct_tb := ct_in (i := 618) (by decide +kernel) rfl
theorem kw_619 : k_M_plan ∈ ct_tb := ct_in (i := 619) (by decide +kernel) rfl
theorem kw_620 : Cond.methodLink R_M 76 y_M_joins ∈ ct_tb := ct_in (i := 620) (by decide +kernel) rfl
theorem kw_622 : Cond.instanceMethod y_M_joins ∈ ct_tb := ct_in (i := 622) (by decide +kernel) rfl
theorem kw_623 : k_M_joins ∈ ct_tb := ct_in (i := 623) (by decide +kernel) rfl
theorem kw_624 : Cond.methodLink R_M 73 y_M_leaves ∈ ct_tb := ct_in (i := 624) (by decide +kernel) rfl
theorem kw_626 : Cond.instanceMethod y_M_leaves ∈ ct_tb := ct_in (i := 626) (by decide +kernel) rfl
theorem kw_627 : k_M_leaves ∈ ct_tb := ct_in (i := 627) (by decide +kernel) rfl
theorem kw_628 : Cond.methodLink R_M 70 y_M_has ∈ ct_tb := ct_in (i := 628) (by decide +kernel) rfl
theorem kw_630 : Cond.instanceMethod y_M_has ∈ ct_tb := ct_in (i := 630) (by decide +kernel) rfl
theorem kw_631 : k_M_has ∈ ct_tb := ct_in (i := 631) (by decide +kernel) rfl
theorem kw_632 : Cond.methodLink R_L 92 y_M_step ∈ ct_tb := ct_in (i := 632) (by decide +kernel) rfl
theorem kw_633 : Cond.instanceMethod y_M_step ∈ ct_tb := ct_in (i := 633) (by decide +kernel) rfl
theorem kw_634 : Cond.selects R_M y_M_step y_M_step ∈ ct_tb := ct_in (i := 634) (by decide +kernel) rfl
theorem kw_635 : k_M_step ∈ ct_tb := ct_in (i := 635) (by decide +kernel) rfl
theorem kw_636 : Cond.methodLink R_M 86 y_M_list ∈ ct_tb := ct_in (i := 636) (by decide +kernel) rfl
theorem kw_638 : Cond.instanceMethod y_M_list ∈ ct_tb := ct_in (i := 638) (by decide +kernel) rfl
theorem kw_639 : k_M_list ∈ ct_tb := ct_in (i := 639) (by decide +kernel) rfl
theorem kw_640 : Cond.methodLink R_L 95 y_M_value ∈ ct_tb := ct_in (i := 640) (by decide +kernel) rfl
theorem kw_641 : Cond.instanceMethod y_M_value ∈ ct_tb := ct_in (i := 641) (by decide +kernel) rfl
theorem kw_642 : Cond.selects R_M y_M_value y_M_value ∈ ct_tb := ct_in (i := 642) (by decide +kernel) rfl
theorem kw_643 : k_M_value ∈ ct_tb := ct_in (i := 643) (by decide +kernel) rfl
theorem kw_644 : Cond.methodLink R_M 89 y_M_at ∈ ct_tb := ct_in (i := 644) (by decide +kernel) rfl
theorem kw_646 : Cond.instanceMethod y_M_at ∈ ct_tb := ct_in (i := 646) (by decide +kernel) rfl
theorem kw_647 : k_M_at ∈ ct_tb := ct_in (i := 647) (by decide +kernel) rfl
theorem kw_648 : Cond.methodLink R_M 92 y_M_next ∈ ct_tb := ct_in (i := 648) (by decide +kernel) rfl
theorem kw_650 : Cond.instanceMethod y_M_next ∈ ct_tb := ct_in (i := 650) (by decide +kernel) rfl
theorem kw_651 : k_M_next ∈ ct_tb := ct_in (i := 651) (by decide +kernel) rfl
theorem kw_652 : Cond.methodLink R_L 98 y_M_about ∈ ct_tb := ct_in (i := 652) (by decide +kernel) rfl
theorem kw_653 : Cond.instanceMethod y_M_about ∈ ct_tb := ct_in (i := 653) (by decide +kernel) rfl
theorem kw_654 : Cond.selects R_M y_M_about y_M_about ∈ ct_tb := ct_in (i := 654) (by decide +kernel) rfl
theorem kw_655 : k_M_about ∈ ct_tb := ct_in (i := 655) (by decide +kernel) rfl
theorem kw_656 : Cond.arrayClass .long ∈ ct_tb := ct_in (i := 656) (by decide +kernel) rfl
theorem ki_H : ∀ w ∈ u_ws R_H T_H 12, w ∈ ct_tb := by decide +kernel
theorem ki_S : ∀ w ∈ u_ws R_S T_S 1, w ∈ ct_tb := by decide +kernel
theorem ki_P : ∀ w ∈ u_ws R_P T_P 6, w ∈ ct_tb := by decide +kernel
theorem ki_R : ∀ w ∈ u_ws R_R T_R 7, w ∈ ct_tb := by decide +kernel
theorem ki_M : ∀ w ∈ u_ws R_M T_M 14, w ∈ ct_tb := by decide +kernel
abbrev ct_qi (post : Int32 → Prop) : Array Value → State → Outcome → State → Prop := va_Qi (fun r (_ : Unit) => post r) (fun _ _ => True) (fun _ => False)
end
section
theorem ct_giT {big : List Cond} {b : Cond} {own : String} {idx : Nat} {y : MethodName} (hbig : ∀ w ∈ ct_tb, w ∈ big) (h1 : Cond.methodLink own idx y ∈ ct_tb) (h2 : Cond.static y ∈ ct_tb) (h4 : Cond.initialized y.cls ∈ ct_tb) (hb : b ∈ ct_tb) : GoodIn big (va_wsS own idx y (b :: ct_tb)) := fun w h => by
  have h : w = Cond.methodLink own idx y ∨ w = Cond.static y ∨ w = Cond.initialized y.cls ∨ w ∈ b :: ct_tb := by simpa [va_wsS] using h
  rcases h with rfl | rfl | rfl | h
  · exact ⟨hbig _ h1, ct_tb_good h1⟩
  · exact ⟨hbig _ h2, ct_tb_good h2⟩
  · exact ⟨hbig _ h4, ct_tb_good h4⟩
  · exact ct_gi hbig hb w h
end
section
theorem d_S_sizeOf_0 : decode b_S_sizeOf 0 = .ok (.aload_n 0, 1) := by decide +kernel
theorem d_S_sizeOf_1 : decode b_S_sizeOf 1 = .ok (.getfield 9, 3) := by decide +kernel
theorem d_S_sizeOf_4 : decode b_S_sizeOf 4 = .ok (.iload_n 1, 1) := by decide +kernel
theorem d_S_sizeOf_5 : decode b_S_sizeOf 5 = .ok (.iaload, 1) := by decide +kernel
theorem d_S_sizeOf_6 : decode b_S_sizeOf 6 = .ok (.ireturn, 1) := by decide +kernel
theorem d_S_choices_0 : decode b_S_choices 0 = .ok (.iconst 1, 1) := by decide +kernel
theorem d_S_choices_1 : decode b_S_choices 1 = .ok (.istore_n 2, 1) := by decide +kernel
theorem d_S_choices_2 : decode b_S_choices 2 = .ok (.iconst 0, 1) := by decide +kernel
theorem d_S_choices_3 : decode b_S_choices 3 = .ok (.istore_n 3, 1) := by decide +kernel
theorem d_S_choices_4 : decode b_S_choices 4 = .ok (.iload_n 3, 1) := by decide +kernel
theorem d_S_choices_5 : decode b_S_choices 5 = .ok (.bipush 8, 2) := by decide +kernel
theorem d_S_choices_7 : decode b_S_choices 7 = .ok (.if_icmp .ge 26, 3) := by decide +kernel
theorem d_S_choices_10 : decode b_S_choices 10 = .ok (.iload_n 1, 1) := by decide +kernel
theorem d_S_choices_11 : decode b_S_choices 11 = .ok (.iload_n 3, 1) := by decide +kernel
theorem d_S_choices_12 : decode b_S_choices 12 = .ok (.ishr, 1) := by decide +kernel
theorem d_S_choices_13 : decode b_S_choices 13 = .ok (.iconst 1, 1) := by decide +kernel
theorem d_S_choices_14 : decode b_S_choices 14 = .ok (.iand, 1) := by decide +kernel
theorem d_S_choices_15 : decode b_S_choices 15 = .ok (.ifCond .eq 12, 3) := by decide +kernel
theorem d_S_choices_18 : decode b_S_choices 18 = .ok (.iload_n 2, 1) := by decide +kernel
theorem d_S_choices_19 : decode b_S_choices 19 = .ok (.aload_n 0, 1) := by decide +kernel
theorem d_S_choices_20 : decode b_S_choices 20 = .ok (.getfield 9, 3) := by decide +kernel
theorem d_S_choices_23 : decode b_S_choices 23 = .ok (.iload_n 3, 1) := by decide +kernel
theorem d_S_choices_24 : decode b_S_choices 24 = .ok (.iaload, 1) := by decide +kernel
theorem d_S_choices_25 : decode b_S_choices 25 = .ok (.imul, 1) := by decide +kernel
theorem d_S_choices_26 : decode b_S_choices 26 = .ok (.istore_n 2, 1) := by decide +kernel
theorem d_S_choices_27 : decode b_S_choices 27 = .ok (.iinc 3 1, 3) := by decide +kernel
theorem d_S_choices_30 : decode b_S_choices 30 = .ok (.goto (-26), 3) := by decide +kernel
theorem d_S_choices_33 : decode b_S_choices 33 = .ok (.iload_n 2, 1) := by decide +kernel
theorem d_S_choices_34 : decode b_S_choices 34 = .ok (.ireturn, 1) := by decide +kernel
theorem d_S_stride_0 : decode b_S_stride 0 = .ok (.iload_n 1, 1) := by decide +kernel
theorem d_S_stride_1 : decode b_S_stride 1 = .ok (.iload_n 2, 1) := by decide +kernel
theorem d_S_stride_2 : decode b_S_stride 2 = .ok (.ishr, 1) := by decide +kernel
theorem d_S_stride_3 : decode b_S_stride 3 = .ok (.iconst 1, 1) := by decide +kernel
theorem d_S_stride_4 : decode b_S_stride 4 = .ok (.iand, 1) := by decide +kernel
theorem d_S_stride_5 : decode b_S_stride 5 = .ok (.ifCond .ne 5, 3) := by decide +kernel
theorem d_S_stride_8 : decode b_S_stride 8 = .ok (.iconst 0, 1) := by decide +kernel
theorem d_S_stride_9 : decode b_S_stride 9 = .ok (.ireturn, 1) := by decide +kernel
theorem d_S_stride_10 : decode b_S_stride 10 = .ok (.iload_n 1, 1) := by decide +kernel
theorem d_S_stride_11 : decode b_S_stride 11 = .ok (.iconst 2, 1) := by decide +kernel
theorem d_S_stride_12 : decode b_S_stride 12 = .ok (.iload_n 2, 1) := by decide +kernel
theorem d_S_stride_13 : decode b_S_stride 13 = .ok (.ishl, 1) := by decide +kernel
theorem d_S_stride_14 : decode b_S_stride 14 = .ok (.ineg, 1) := by decide +kernel
theorem d_S_stride_15 : decode b_S_stride 15 = .ok (.iand, 1) := by decide +kernel
theorem d_S_stride_16 : decode b_S_stride 16 = .ok (.istore_n 3, 1) := by decide +kernel
theorem d_S_stride_17 : decode b_S_stride 17 = .ok (.aload_n 0, 1) := by decide +kernel
theorem d_S_stride_18 : decode b_S_stride 18 = .ok (.iload_n 3, 1) := by decide +kernel
theorem d_S_stride_19 : decode b_S_stride 19 = .ok (.invokevirtual 15, 3) := by decide +kernel
theorem d_S_stride_22 : decode b_S_stride 22 = .ok (.ireturn, 1) := by decide +kernel
theorem d_S_change_0 : decode b_S_change 0 = .ok (.aload_n 0, 1) := by decide +kernel
theorem d_S_change_1 : decode b_S_change 1 = .ok (.getfield 9, 3) := by decide +kernel
theorem d_S_change_4 : decode b_S_change 4 = .ok (.iload_n 1, 1) := by decide +kernel
theorem d_S_change_5 : decode b_S_change 5 = .ok (.iload_n 2, 1) := by decide +kernel
theorem d_S_change_6 : decode b_S_change 6 = .ok (.iastore, 1) := by decide +kernel
theorem d_S_change_7 : decode b_S_change 7 = .ok (.return_, 1) := by decide +kernel
set_option maxHeartbeats 4000000 in
set_option maxRecDepth 100000 in
theorem c_S_sizeOf (l : Launch) (dC : Nat → ClassId) (dI : Nat → Nat → Nat) (cI : ClassId) (z0 z1 : Nat) (sz : Nat → Nat) (j : Nat) (hj : j < 8) : Met l y_S_sizeOf w_S_sizeOf ({ frames := 0, cells := 0, slots := 0, locals := 0 }) (va_Pc [.ref z0, .int (nI j)] (ct_ro (dC, dI) ct_cl [(z0, .inr (1, [.ref z1])), (z1, .inl (cI, 8, .inl (fun j => nI (sz j))))] [(cI, .int)])) (ct_qi (fun r => r = nI (sz j))) 0 0 (fun _ => False) := by
  refine Met.ofW (cc := b_S_sizeOf) (maxL := 2) (ret := (some .int)) (by decide) rfl ?_
  intro p e s m args below meth c s₁ Bd hml hv
  obtain ⟨hargs, hP, hK⟩ := hv
  have hx := Bd.exec
  have hb := Bd.bytes
  have hr := Bd.returns
  have hts : ∀ w ∈ k_S_sizeOf :: ct_tb, w.before args s = true := atoms_spec (ws := w_S_sizeOf) Bd.pre
  have hown : s.vm.findClass R_S = some m.cls := findClass_of_methodNamed Bd.named
  have hlocks := Bd.notSynchronized
  have hS : va_S (fun _ => False) s.heap s.heap [] := va_S.rf
  have hl := lv_entry ([.ref z0, .int (nI j)]) (n := 2) (Nat.le_of_ble_eq_true rfl)
  rw [show entryFrame m args 2 = entryFrame m (([.ref z0, .int (nI j)] : List Value)).toArray 2 by rw [hargs], lg_entry_eq]
  generalize (lg_sl ([.ref z0, .int (nI j)]) ++ List.replicate (2 - (lg_sl ([.ref z0, .int (nI j)])).length) Slot.unset).toArray = ls at hl ⊢
  have hl : lv_has ls 2 [(0, .ref z0), (1, .int (nI j))] := hl
  refine lv_aload_n hx hb d_S_sizeOf_0 rfl (lv_at hl 0 rfl) ?_
  refine va_get (D := (dC, dI)) (ci := 1) (v := .ref z1) (C := R_S) (T := T_S) (N := 1) hx hb hts (fun w h9 => ct_tl (ki_S w h9)) hown hK hP 0 rfl rfl 0 (by decide) (hts _ (ct_tl kw_56)) (fun _ h9 => h9) rfl d_S_sizeOf_1 ?_
  refine lv_iload_n hx hb d_S_sizeOf_4 rfl (lv_at hl 1 rfl) ?_
  refine ct_iald hx hb hK hP 1 0 rfl rfl (j := j) (by omega) (by omega) d_S_sizeOf_5 ?_
  refine ct_val (y := nI (sz j)) (rfl) ?_
  exact W.iret (v := (nI (sz j))) hx hb hr (fun tS ht hW => ⟨⟨(nI (sz j)), (), rfl, rfl, trivial⟩, hS.F ht⟩) hS.2.2 d_S_sizeOf_6
set_option maxHeartbeats 4000000 in
set_option maxRecDepth 100000 in
/-- Sizes.choices: how many choices of indexes the labels have -/
theorem c_S_choices (l : Launch) (dC : Nat → ClassId) (dI : Nat → Nat → Nat) (cI : ClassId) (z0 z1 : Nat) (sz : Nat → Nat) (M : Nat) (hM : M < 2 ^ 31) : Met l y_S_choices w_S_choices ({ frames := 0, cells := 0, slots := 0, locals := 0 }) (va_Pc [.ref z0, .int (nI M)] (ct_ro (dC, dI) ct_cl [(z0, .inr (1, [.ref z1])), (z1, .inl (cI, 8, .inl (fun j => nI (sz j))))] [(cI, .int)])) (ct_qi (fun r => r = nI (ct_pr sz M.testBit 8))) 0 0 (fun _ => False) := by
  refine Met.ofW (cc := b_S_choices) (maxL := 4) (ret := (some .int)) (by decide) rfl ?_
  intro p e s m args below meth c s₁ Bd hml hv
  obtain ⟨hargs, hP, hK⟩ := hv
  have hx := Bd.exec
  have hb := Bd.bytes
  have hr := Bd.returns
  have hts : ∀ w ∈ k_S_choices :: ct_tb, w.before args s = true := atoms_spec (ws := w_S_choices) Bd.pre
  have hown : s.vm.findClass R_S = some m.cls := findClass_of_methodNamed Bd.named
  have hlocks := Bd.notSynchronized
  have hS : va_S (fun _ => False) s.heap s.heap [] := va_S.rf
  have hl := lv_entry ([.ref z0, .int (nI M)]) (n := 4) (Nat.le_of_ble_eq_true rfl)
  rw [show entryFrame m args 4 = entryFrame m (([.ref z0, .int (nI M)] : List Value)).toArray 4 by rw [hargs], lg_entry_eq]
  generalize (lg_sl ([.ref z0, .int (nI M)]) ++ List.replicate (4 - (lg_sl ([.ref z0, .int (nI M)])).length) Slot.unset).toArray = ls at hl ⊢
  have hl : lv_has ls 4 [(0, .ref z0), (1, .int (nI M))] := hl
  have loop : ∀ (n i : Nat), i + n = 8 → ∀ (ls : Array Slot), lv_has ls 4 [(0, .ref z0), (1, .int (nI M)), (2, .int (nI (ct_pr sz M.testBit i))), (3, .int (nI i))] → W p l e (headSpec w_S_choices ({ frames := 0, cells := 0, slots := 0, locals := 0 } : Room)).room s m args below meth c s.heap [] 0 0 (MQ below (ct_qi (fun r => r = nI (ct_pr sz M.testBit 8))) args s 0 0 (fun _ => False)) (F0 m 4 ls []) := by
    intro n
    induction n with
    | zero =>
      intro i hin ls hl
      refine lv_iload_n hx hb d_S_choices_4 rfl (lv_at hl 3 rfl) ?_
      refine lv_bipush (v := (nI 8)) hx hb d_S_choices_5 (by decide) ?_
      refine lv_icmp_ge (tgt := 33) hx hb d_S_choices_7 (by decide) (fun _ => ?_) (fun hc9 => absurd (nI_le (by omega) (by omega)) hc9)
      refine lv_iload_n hx hb d_S_choices_33 rfl (lv_at hl 2 rfl) ?_
      exact W.iret (v := (nI (ct_pr sz M.testBit i))) hx hb hr (fun tS ht hW => ⟨⟨(nI (ct_pr sz M.testBit i)), (), rfl, by rw [show i = 8 by omega], trivial⟩, hS.F ht⟩) hS.2.2 d_S_choices_34
    | succ n ih =>
      intro i hin ls hl
      refine lv_iload_n hx hb d_S_choices_4 rfl (lv_at hl 3 rfl) ?_
      refine lv_bipush (v := (nI 8)) hx hb d_S_choices_5 (by decide) ?_
      refine lv_icmp_ge (tgt := 33) hx hb d_S_choices_7 (by decide) (fun hc9 => absurd hc9 (nI_ge (by omega) (by omega))) (fun _ => ?_)
      refine lv_iload_n hx hb d_S_choices_10 rfl (lv_at hl 1 rfl) ?_
      refine lv_iload_n hx hb d_S_choices_11 rfl (lv_at hl 3 rfl) ?_
      refine lv_ishr hx hb d_S_choices_12 ?_
      refine lv_iconst (v := (nI 1)) hx hb d_S_choices_13 (by decide) ?_
      by_cases hbt : M.testBit i = true
      · refine lv_iand hx hb d_S_choices_14 ?_
        refine ct_val (y := nI 1) (by rw [ct_bit hM (by omega), if_pos hbt]) ?_
        refine lv_if_eq (tgt := 27) hx hb d_S_choices_15 (by decide) (fun hc9 => absurd hc9 (nI_ne0 (by omega) (by omega))) (fun _ => ?_)
        refine lv_iload_n hx hb d_S_choices_18 rfl (lv_at hl 2 rfl) ?_
        refine lv_aload_n hx hb d_S_choices_19 rfl (lv_at hl 0 rfl) ?_
        refine va_get (D := (dC, dI)) (ci := 1) (v := .ref z1) (C := R_S) (T := T_S) (N := 1) hx hb hts (fun w h9 => ct_tl (ki_S w h9)) hown hK hP 0 rfl rfl 0 (by decide) (hts _ (ct_tl kw_56)) (fun _ h9 => h9) rfl d_S_choices_20 ?_
        refine lv_iload_n hx hb d_S_choices_23 rfl (lv_at hl 3 rfl) ?_
        refine ct_iald hx hb hK hP 1 0 rfl rfl (j := i) (by omega) (by omega) d_S_choices_24 ?_
        refine ct_val (y := nI (sz i)) (rfl) ?_
        refine lv_imul hx hb d_S_choices_25 ?_
        refine ct_val (y := nI (ct_pr sz M.testBit (i + 1))) (by rw [ct_pr_in hbt]; exact pk_mul _ _) ?_
        refine lv_istore_n (lv' := [(2, .int (nI (ct_pr sz M.testBit (i + 1)))), (0, .ref z0), (1, .int (nI M)), (3, .int (nI i))]) hx hb d_S_choices_26 rfl hl (by decide) rfl (fun ls hl => ?_)
        refine lv_iinc (v := (nI (i + 1))) (lv' := [(3, .int (nI (i + 1))), (2, .int (nI (ct_pr sz M.testBit (i + 1)))), (0, .ref z0), (1, .int (nI M))]) hx hb d_S_choices_27 hl (k := 3) rfl (nI_1 _) (by decide) rfl (fun ls hl => ?_)
        refine lv_goto (tgt := 4) hx hb d_S_choices_30 (by decide) ?_
        exact ih (i + 1) (by omega) ls (lv_sub hl [2, 3, 1, 0] rfl)
      · refine lv_iand hx hb d_S_choices_14 ?_
        refine ct_val (y := nI 0) (by rw [ct_bit hM (by omega), if_neg hbt]) ?_
        refine lv_if_eq (tgt := 27) hx hb d_S_choices_15 (by decide) (fun _ => ?_) (fun hc9 => absurd (nI_0) hc9)
        refine lv_iinc (v := (nI (i + 1))) (lv' := [(3, .int (nI (i + 1))), (0, .ref z0), (1, .int (nI M)), (2, .int (nI (ct_pr sz M.testBit i)))]) hx hb d_S_choices_27 hl (k := 3) rfl (nI_1 _) (by decide) rfl (fun ls hl => ?_)
        refine lv_goto (tgt := 4) hx hb d_S_choices_30 (by decide) ?_
        have e9 : ct_pr sz M.testBit (i + 1) = ct_pr sz M.testBit i := ct_pr_out (by simpa using hbt)
        exact ih (i + 1) (by omega) ls (by rw [e9]; exact lv_sub hl [1, 2, 3, 0] rfl)
  refine lv_iconst (v := (nI 1)) hx hb d_S_choices_0 (by decide) ?_
  refine lv_istore_n (lv' := [(2, .int (nI 1)), (0, .ref z0), (1, .int (nI M))]) hx hb d_S_choices_1 rfl hl (by decide) rfl (fun ls hl => ?_)
  refine lv_iconst (v := (nI 0)) hx hb d_S_choices_2 (by decide) ?_
  refine lv_istore_n (lv' := [(3, .int (nI 0)), (2, .int (nI 1)), (0, .ref z0), (1, .int (nI M))]) hx hb d_S_choices_3 rfl hl (by decide) rfl (fun ls hl => ?_)
  exact loop 8 0 rfl ls (lv_sub hl [2, 3, 1, 0] rfl)
theorem ct_above : ∀ M, M < 256 → ∀ k, k < 8 → nI M &&& (-(nI 2 <<< (nI k &&& 31))) = nI (M / 2 ^ (k + 1) * 2 ^ (k + 1)) := by decide +kernel
theorem ct_above_bit (M k j : Nat) : (M / 2 ^ k * 2 ^ k).testBit j = (decide (k ≤ j) && M.testBit j) := by
  rw [← Nat.shiftLeft_eq, Nat.testBit_shiftLeft, ← Nat.shiftRight_eq_div_pow, Nat.testBit_shiftRight]
  by_cases h : k ≤ j
  · simp [h, show k + (j - k) = j by omega]
  · simp [h]
theorem ct_up_pr {sz : Nat → Nat} {P : Nat → Bool} {k : Nat} (n : Nat) : ct_up sz P k n = ct_pr sz (fun j => decide (k ≤ j) && P j) n := by
  induction n with
  | zero => rfl
  | succ n ih =>
    show (if (decide (k ≤ n) && P n) = true then ct_up sz P k n * sz n else ct_up sz P k n) = (if (decide (k ≤ n) && P n) = true then ct_pr sz (fun j => decide (k ≤ j) && P j) n * sz n else ct_pr sz (fun j => decide (k ≤ j) && P j) n)
    rw [ih]
def ct_sr (sz : Nat → Nat) (M k : Nat) : Nat := if M.testBit k = true then ct_up sz M.testBit (k + 1) 8 else 0
theorem ct_above_pr (sz : Nat → Nat) (M k : Nat) : ct_pr sz (M / 2 ^ (k + 1) * 2 ^ (k + 1)).testBit 8 = ct_up sz M.testBit (k + 1) 8 := by
  rw [ct_up_pr]
  exact ct_pr_congr 8 (fun j _ => ct_above_bit M (k + 1) j) (fun _ _ _ => rfl)
set_option maxHeartbeats 4000000 in
set_option maxRecDepth 100000 in
theorem c_S_stride (l : Launch) (dC : Nat → ClassId) (dI : Nat → Nat → Nat) (cI : ClassId) (z0 z1 : Nat) (sz : Nat → Nat) (M k : Nat) (hM : M < 256) (hk : k < 8) : Met l y_S_stride w_S_stride ({ frames := 1, cells := 0, slots := 0, locals := 23 }) (va_Pc [.ref z0, .int (nI M), .int (nI k)] (ct_ro (dC, dI) ct_cl [(z0, .inr (1, [.ref z1])), (z1, .inl (cI, 8, .inl (fun j => nI (sz j))))] [(cI, .int)])) (ct_qi (fun r => r = nI (ct_sr sz M k))) 0 0 (fun _ => False) := by
  refine Met.ofW (cc := b_S_stride) (maxL := 4) (ret := (some .int)) (by decide) rfl ?_
  intro p e s m args below meth c s₁ Bd hml hv
  obtain ⟨hargs, hP, hK⟩ := hv
  have hx := Bd.exec
  have hb := Bd.bytes
  have hr := Bd.returns
  have hts : ∀ w ∈ k_S_stride :: ct_tb, w.before args s = true := atoms_spec (ws := w_S_stride) Bd.pre
  have hown : s.vm.findClass R_S = some m.cls := findClass_of_methodNamed Bd.named
  have hlocks := Bd.notSynchronized
  have hS : va_S (fun _ => False) s.heap s.heap [] := va_S.rf
  have hl := lv_entry ([.ref z0, .int (nI M), .int (nI k)]) (n := 4) (Nat.le_of_ble_eq_true rfl)
  rw [show entryFrame m args 4 = entryFrame m (([.ref z0, .int (nI M), .int (nI k)] : List Value)).toArray 4 by rw [hargs], lg_entry_eq]
  generalize (lg_sl ([.ref z0, .int (nI M), .int (nI k)]) ++ List.replicate (4 - (lg_sl ([.ref z0, .int (nI M), .int (nI k)])).length) Slot.unset).toArray = ls at hl ⊢
  have hl : lv_has ls 4 [(0, .ref z0), (1, .int (nI M)), (2, .int (nI k))] := hl
  refine lv_iload_n hx hb d_S_stride_0 rfl (lv_at hl 1 rfl) ?_
  refine lv_iload_n hx hb d_S_stride_1 rfl (lv_at hl 2 rfl) ?_
  refine lv_ishr hx hb d_S_stride_2 ?_
  refine lv_iconst (v := (nI 1)) hx hb d_S_stride_3 (by decide) ?_
  by_cases hbt : M.testBit k = true
  · refine lv_iand hx hb d_S_stride_4 ?_
    refine ct_val (y := nI 1) (by rw [ct_bit (by omega) (by omega), if_pos hbt]) ?_
    refine lv_if_ne (tgt := 10) hx hb d_S_stride_5 (by decide) (fun _ => ?_) (fun hc9 => absurd hc9 (nI_ne0 (by omega) (by omega)))
    refine lv_iload_n hx hb d_S_stride_10 rfl (lv_at hl 1 rfl) ?_
    refine lv_iconst (v := (nI 2)) hx hb d_S_stride_11 (by decide) ?_
    refine lv_iload_n hx hb d_S_stride_12 rfl (lv_at hl 2 rfl) ?_
    refine lv_ishl hx hb d_S_stride_13 ?_
    refine lv_ineg hx hb d_S_stride_14 ?_
    refine lv_iand hx hb d_S_stride_15 ?_
    refine ct_val (y := nI (M / 2 ^ (k + 1) * 2 ^ (k + 1))) (ct_above M hM k hk) ?_
    refine lv_istore_n (lv' := [(3, .int (nI (M / 2 ^ (k + 1) * 2 ^ (k + 1)))), (0, .ref z0), (1, .int (nI M)), (2, .int (nI k))]) hx hb d_S_stride_16 rfl hl (by decide) rfl (fun ls hl => ?_)
    refine lv_aload_n hx hb d_S_stride_17 rfl (lv_at hl 1 rfl) ?_
    refine lv_iload_n hx hb d_S_stride_18 rfl (lv_at hl 0 rfl) ?_
    have hle : M / 2 ^ (k + 1) * 2 ^ (k + 1) ≤ M := Nat.div_mul_le_self _ _
    refine va_calli (va_runV (As := [.int (nI (M / 2 ^ (k + 1) * 2 ^ (k + 1)))]) (rest := []) ⟨hx, hb, hml, hown, hts⟩ (c_S_choices l dC dI cI z0 z1 sz (M / 2 ^ (k + 1) * 2 ^ (k + 1)) (by omega)) (cwV 1 hts (ct_giV (fun w h9 => ct_tl h9) kw_466 kw_195 kw_196 kw_27 kw_197) rfl rfl rfl (by decide +kernel) ⟨Nat.le_of_ble_eq_true rfl, Nat.le_of_ble_eq_true rfl⟩) ⟨ct_ro_blind, va_recv hK hP (ci := 1) (q0 := 0) rfl rfl, ct_ro_pre (hP.sub [0, 1] rfl) hK⟩ rfl rfl hl.1 rfl (lv_room (Nat.le_of_ble_eq_true rfl)) d_S_stride_19 ⟨Nat.le_of_ble_eq_true rfl, Nat.le_of_ble_eq_true rfl⟩) hS (fun q _ h9 => h9.elim) (fun q h9 => h9.elim) (fun ans101 uS tS H locs ht hvm hwans101 hB hz1 hk1 hS => ?_)
    have hP := ct_keep hP hk1
    refine ct_val (y := nI (ct_pr sz ((M / 2 ^ (k + 1) * 2 ^ (k + 1))).testBit 8)) (hwans101) ?_
    exact W.iret (v := (nI (ct_pr sz ((M / 2 ^ (k + 1) * 2 ^ (k + 1))).testBit 8))) hx hb hr (fun tS ht hW => ⟨⟨(nI (ct_pr sz ((M / 2 ^ (k + 1) * 2 ^ (k + 1))).testBit 8)), (), rfl, by rw [ct_above_pr, ct_sr, if_pos hbt], trivial⟩, hS.F ht⟩) hS.2.2 d_S_stride_22
  · refine lv_iand hx hb d_S_stride_4 ?_
    refine ct_val (y := nI 0) (by rw [ct_bit (by omega) (by omega), if_neg hbt]) ?_
    refine lv_if_ne (tgt := 10) hx hb d_S_stride_5 (by decide) (fun hc9 => absurd (nI_0) hc9) (fun _ => ?_)
    refine lv_iconst (v := (nI 0)) hx hb d_S_stride_8 (by decide) ?_
    exact W.iret (v := (nI 0)) hx hb hr (fun tS ht hW => ⟨⟨(nI 0), (), rfl, by rw [ct_sr, if_neg hbt], trivial⟩, hS.F ht⟩) hS.2.2 d_S_stride_9
theorem ct_upd_st (sz : Nat → Nat) (k v : Nat) : upd (fun j => nI (sz j)) k (nI v) = fun j => nI (ct_st sz k v j) := by
  funext j
  show (if j = k then nI v else nI (sz j)) = nI (if j = k then v else sz j)
  by_cases h : j = k
  · rw [if_pos h, if_pos h]
  · rw [if_neg h, if_neg h]
set_option maxHeartbeats 4000000 in
set_option maxRecDepth 100000 in
theorem c_S_change (l : Launch) (dC : Nat → ClassId) (dI : Nat → Nat → Nat) (cI : ClassId) (z0 z1 : Nat) (sz : Nat → Nat) (k v : Nat) (hk : k < 8) (sz0 : Nat) : Met l y_S_change w_S_change ({ frames := 0, cells := 0, slots := 0, locals := 0 }) (va_Pc [.ref z0, .int (nI k), .int (nI v)] (ct_rw (dC, dI) ct_cl [(z0, .inr (1, [.ref z1])), (z1, .inl (cI, 8, .inl (fun j => nI (sz j))))] [(cI, .int)] sz0)) (va_Qv (fun (u : Unit) => True) (fun (u : Unit) t => ct_at (dC, dI) ct_cl [(cI, .int)] (va_A [(z0, .inr (1, [.ref z1])), (z1, .inl (cI, 8, .inl (fun j => nI (sz j))))] sz0) [(z0, .inr (1, [.ref z1])), (z1, .inl (cI, 8, .inl (fun j => nI (ct_st sz k v j))))] t) (va_A [(z0, .inr (1, [.ref z1])), (z1, .inl (cI, 8, .inl (fun j => nI (sz j))))] sz0)) 0 0 (va_A [(z0, .inr (1, [.ref z1])), (z1, .inl (cI, 8, .inl (fun j => nI (sz j))))] sz0) := by
  refine Met.ofW (cc := b_S_change) (maxL := 3) (ret := none) (by decide) rfl ?_
  intro p e s m args below meth c s₁ Bd hml hv
  obtain ⟨hargs, hsz, hP, hK, hD0⟩ := hv
  have hx := Bd.exec
  have hb := Bd.bytes
  have hr := Bd.returns
  have hts : ∀ w ∈ k_S_change :: ct_tb, w.before args s = true := atoms_spec (ws := w_S_change) Bd.pre
  have hown : s.vm.findClass R_S = some m.cls := findClass_of_methodNamed Bd.named
  have hlocks := Bd.notSynchronized
  subst hsz
  have hD := hD0.self (sz := s.heap.size)
  generalize hAe : va_A [(z0, .inr (1, [.ref z1])), (z1, .inl (cI, 8, .inl (fun j => nI (sz j))))] s.heap.size = A at hD ⊢
  have hA : ∀ q : Nat, s.heap.size ≤ q → A q := fun q h => by rw [← hAe]; exact Or.inr h
  have hS : va_S A s.heap s.heap [] := va_S.rf
  have hl := lv_entry ([.ref z0, .int (nI k), .int (nI v)]) (n := 3) (Nat.le_of_ble_eq_true rfl)
  rw [show entryFrame m args 3 = entryFrame m (([.ref z0, .int (nI k), .int (nI v)] : List Value)).toArray 3 by rw [hargs], lg_entry_eq]
  generalize (lg_sl ([.ref z0, .int (nI k), .int (nI v)]) ++ List.replicate (3 - (lg_sl ([.ref z0, .int (nI k), .int (nI v)])).length) Slot.unset).toArray = ls at hl ⊢
  have hl : lv_has ls 3 [(0, .ref z0), (1, .int (nI k)), (2, .int (nI v))] := hl
  refine lv_aload_n hx hb d_S_change_0 rfl (lv_at hl 0 rfl) ?_
  refine va_get (D := (dC, dI)) (ci := 1) (v := .ref z1) (C := R_S) (T := T_S) (N := 1) hx hb hts (fun w h9 => ct_tl (ki_S w h9)) hown hK hP 0 rfl rfl 0 (by decide) (hts _ (ct_tl kw_56)) (fun _ h9 => h9) rfl d_S_change_1 ?_
  refine lv_iload_n hx hb d_S_change_4 rfl (lv_at hl 1 rfl) ?_
  refine lv_iload_n hx hb d_S_change_5 rfl (lv_at hl 2 rfl) ?_
  refine ct_iast hx hb hK hP hD hS 1 0 rfl rfl (j := k) (by omega) (by omega) d_S_change_6 (fun H locs hP hD hS => ?_)
  have hP : va_P (dC, dI) ct_cl [(z0, .inr (1, [.ref z1])), (z1, .inl (cI, 8, .inl (upd (fun j => nI (sz j)) k (nI v))))] H := hP
  have hD : va_D A [(z0, .inr (1, [.ref z1])), (z1, .inl (cI, 8, .inl (upd (fun j => nI (sz j)) k (nI v))))] := hD
  rw [show (upd (fun j => nI (sz j)) k (nI v)) = (fun j => nI (ct_st sz k v j)) from ct_upd_st sz k v] at hP hD
  have hP9 := hP.sub [0, 1] rfl
  exact W.vret hx hb hr (fun tS ht hW => ⟨⟨(), rfl, trivial, by rw [ht]; exact hP9, va_K.moved hW.alike hK, hD.sub [0, 1] (by decide) rfl⟩, hS.F ht⟩) hS.2.2 d_S_change_7
end
section
/-! sets of operands, as bits; what a set has and leaves; the plan -/
def ct_sev (a : Nat) : Bool := decide (a &&& (a - 1) ≠ 0)
def ct_low (a : Nat) : Nat := a ^^^ (a &&& (a - 1))
/-- a is a part of the set that has its lowest operand -/
def ct_pt (S a : Nat) : Bool := decide (a &&& S = a) && decide (a &&& ct_low S ≠ 0)
theorem ct_sev_I : ∀ a, a < 64 → 0 < a → ((nI a &&& (nI a - nI 1)) = 0 ↔ ct_sev a = false) := by decide +kernel
theorem ct_low_I : ∀ a, a < 64 → nI a &&& (-(nI a)) = nI (ct_low a) := by decide +kernel
theorem ct_low_lt : ∀ a, a < 64 → ct_low a ≤ a := by decide +kernel
theorem ct_low_pos : ∀ a, a < 64 → 0 < a → 0 < ct_low a := by decide +kernel
theorem ct_low_sev : ∀ a, a < 64 → ct_sev a = true → ct_low a < a := by decide +kernel
theorem ct_pt_low : ∀ S, S < 64 → ct_sev S = true → ct_pt S (ct_low S) = true := by decide +kernel
theorem ct_pt_lo : ∀ S, S < 64 → ∀ a, a < ct_low S → ct_pt S a = false := by decide +kernel
theorem ct_pt_pos {S a : Nat} (h : ct_pt S a = true) : 0 < a := by
  rcases Nat.eq_zero_or_pos a with rfl | h1
  · simp [ct_pt] at h
  · exact h1
theorem ct_pt_or : ∀ S, S < 64 → ∀ a, a < 64 → (a ||| S = S ↔ a &&& S = a) := by decide +kernel
theorem ct_pt_co : ∀ S, S < 64 → ∀ a, a < S → ct_pt S a = true → 0 < S ^^^ a ∧ S ^^^ a < S ∧ a + (S ^^^ a) = S := by decide +kernel
theorem ct_xor_lt : ∀ S, S < 64 → ∀ a, a < 64 → S ^^^ a < 64 := by decide +kernel
/-- the scan of the parts below n: the least cost, the part that has it first -/
def ct_sc (cost : Nat → Nat) (S : Nat) : Nat → Nat × Nat
  | 0 => (0, 0)
  | n + 1 => if ct_pt S n = true ∧ ((ct_sc cost S n).2 = 0 ∨ cost n < (ct_sc cost S n).1) then (cost n, n) else ct_sc cost S n
theorem ct_sc_no {cost : Nat → Nat} {S n : Nat} (h : ct_pt S n = false) : ct_sc cost S (n + 1) = ct_sc cost S n := if_neg (fun z => by rw [h] at z; exact Bool.false_ne_true z.1)
theorem ct_sc_yes {cost : Nat → Nat} {S n : Nat} (h : ct_pt S n = true) (h2 : (ct_sc cost S n).2 = 0 ∨ cost n < (ct_sc cost S n).1) : ct_sc cost S (n + 1) = (cost n, n) := if_pos ⟨h, h2⟩
theorem ct_sc_keep {cost : Nat → Nat} {S n : Nat} (h2 : ¬ ((ct_sc cost S n).2 = 0 ∨ cost n < (ct_sc cost S n).1)) : ct_sc cost S (n + 1) = ct_sc cost S n := if_neg (fun z => h2 z.2)
theorem ct_sc_zero {cost : Nat → Nat} {S : Nat} (n : Nat) (h : ∀ a, a < n → ct_pt S a = false) : ct_sc cost S n = (0, 0) := by
  induction n with
  | zero => rfl
  | succ n ih => rw [ct_sc_no (h n (by omega))]; exact ih (fun a ha => h a (by omega))
theorem ct_sc_congr {c1 c2 : Nat → Nat} {S : Nat} (n : Nat) (h : ∀ a, a < n → ct_pt S a = true → c1 a = c2 a) : ct_sc c1 S n = ct_sc c2 S n := by
  induction n with
  | zero => rfl
  | succ n ih =>
    have ih := ih (fun a ha => h a (by omega))
    show (if ct_pt S n = true ∧ ((ct_sc c1 S n).2 = 0 ∨ c1 n < (ct_sc c1 S n).1) then (c1 n, n) else ct_sc c1 S n) = (if ct_pt S n = true ∧ ((ct_sc c2 S n).2 = 0 ∨ c2 n < (ct_sc c2 S n).1) then (c2 n, n) else ct_sc c2 S n)
    rw [ih]
    cases hp : ct_pt S n with
    | false => rw [if_neg (fun z => Bool.false_ne_true z.1), if_neg (fun z => Bool.false_ne_true z.1)]
    | true => rw [h n (by omega) hp]
/-- what the scan found is a part, and its cost -/
theorem ct_sc_is {cost : Nat → Nat} {S : Nat} (n : Nat) : (ct_sc cost S n = (0, 0)) ∨ ((ct_sc cost S n).2 < n ∧ ct_pt S (ct_sc cost S n).2 = true ∧ (ct_sc cost S n).1 = cost (ct_sc cost S n).2) := by
  induction n with
  | zero => exact Or.inl rfl
  | succ n ih =>
    by_cases h : ct_pt S n = true ∧ ((ct_sc cost S n).2 = 0 ∨ cost n < (ct_sc cost S n).1)
    · right
      rw [ct_sc_yes h.1 h.2]
      exact ⟨by omega, h.1, rfl⟩
    · have e : ct_sc cost S (n + 1) = ct_sc cost S n := if_neg h
      rw [e]
      rcases ih with ih | ih
      · exact Or.inl ih
      · exact Or.inr ⟨by omega, ih.2.1, ih.2.2⟩
theorem ct_sc_some {cost : Nat → Nat} {S : Nat} (n a : Nat) (ha : a < n) (hp : ct_pt S a = true) : (ct_sc cost S n).2 ≠ 0 := by
  induction n with
  | zero => omega
  | succ n ih =>
    by_cases h : ct_pt S n = true ∧ ((ct_sc cost S n).2 = 0 ∨ cost n < (ct_sc cost S n).1)
    · rw [ct_sc_yes h.1 h.2]
      have := ct_pt_pos h.1
      show n ≠ 0
      omega
    · have e : ct_sc cost S (n + 1) = ct_sc cost S n := if_neg h
      rw [e]
      by_cases hn : a = n
      · subst hn
        exact fun z => h ⟨hp, Or.inl z⟩
      · exact ih (by omega)
/-- the plans of the sets below n: cost and part -/
def ct_bp (jc : Nat → Nat → Nat) : Nat → Nat → Nat × Nat
  | 0, _ => (0, 0)
  | n + 1, S => if S = n then (if ct_sev n = true then ct_sc (fun a => (ct_bp jc n a).1 + (ct_bp jc n (n ^^^ a)).1 + jc a (n ^^^ a)) n n else (0, 0)) else ct_bp jc n S
def ct_B (jc : Nat → Nat → Nat) (S : Nat) : Nat × Nat := ct_bp jc 64 S
theorem ct_bp_up {jc : Nat → Nat → Nat} {S : Nat} (n : Nat) (h : S < n) : ct_bp jc n S = ct_bp jc (S + 1) S := by
  induction n with
  | zero => omega
  | succ n ih =>
    by_cases hn : S = n
    · rw [hn]
    · have e : ct_bp jc (n + 1) S = ct_bp jc n S := if_neg hn
      rw [e, ih (by omega)]
theorem ct_B_eq {jc : Nat → Nat → Nat} {S n : Nat} (hS : S < 64) (h : S < n) : ct_bp jc n S = ct_B jc S := by
  rw [ct_bp_up n h, ct_B, ct_bp_up 64 hS]
theorem ct_B_one {jc : Nat → Nat → Nat} {S : Nat} (hS : S < 64) (h : ct_sev S = false) : ct_B jc S = (0, 0) := by
  rw [ct_B, ct_bp_up 64 hS]
  show (if S = S then (if ct_sev S = true then _ else (0, 0)) else _) = _
  rw [if_pos rfl, if_neg (by rw [h]; exact Bool.false_ne_true)]
theorem ct_B_sev {jc : Nat → Nat → Nat} {S : Nat} (hS : S < 64) (h : ct_sev S = true) : ct_B jc S = ct_sc (fun a => (ct_B jc a).1 + (ct_B jc (S ^^^ a)).1 + jc a (S ^^^ a)) S S := by
  rw [ct_B, ct_bp_up 64 hS]
  show (if S = S then (if ct_sev S = true then _ else (0, 0)) else _) = _
  rw [if_pos rfl, if_pos h]
  refine ct_sc_congr S (fun a ha hp => ?_)
  have hc := ct_pt_co S hS a ha hp
  show (ct_bp jc S a).1 + (ct_bp jc S (S ^^^ a)).1 + jc a (S ^^^ a) = _
  rw [ct_B_eq (by omega) ha, ct_B_eq (by omega) hc.2.1]
theorem ct_B_part {jc : Nat → Nat → Nat} {S : Nat} (hS : S < 64) (h : ct_sev S = true) : (ct_B jc S).2 < S ∧ ct_pt S (ct_B jc S).2 = true ∧ (ct_B jc S).1 = (ct_B jc (ct_B jc S).2).1 + (ct_B jc (S ^^^ (ct_B jc S).2)).1 + jc (ct_B jc S).2 (S ^^^ (ct_B jc S).2) := by
  rw [ct_B_sev hS h]
  rcases ct_sc_is (cost := fun a => (ct_B jc a).1 + (ct_B jc (S ^^^ a)).1 + jc a (S ^^^ a)) (S := S) S with h1 | h1
  · exact absurd (congrArg Prod.snd h1) (ct_sc_some S (ct_low S) (ct_low_sev S hS h) (ct_pt_low S hS h))
  · exact h1
theorem ct_B_le {jc : Nat → Nat → Nat} (hj : ∀ a b, jc a b ≤ 6561) : ∀ (n S : Nat), S < n → S < 64 → 0 < S → (ct_B jc S).1 + 6561 ≤ 6561 * S := by
  intro n
  induction n with
  | zero => intro S h; omega
  | succ n ih =>
    intro S h hS h0
    cases hs : ct_sev S with
    | false =>
      rw [ct_B_one hS hs]
      show 0 + 6561 ≤ _
      omega
    | true =>
      obtain ⟨h1, h2, h3⟩ := ct_B_part (jc := jc) hS hs
      have hc := ct_pt_co S hS _ h1 h2
      have hp := ct_pt_pos h2
      have i1 := ih (ct_B jc S).2 (by omega) (by omega) hp
      have i2 := ih (S ^^^ (ct_B jc S).2) (by omega) (by omega) hc.1
      have i3 := hj (ct_B jc S).2 (S ^^^ (ct_B jc S).2)
      rw [h3]
      omega
/-- the labels that a set has, over the first n operands -/
def ct_has (la : Nat → Nat) (S : Nat) : Nat → Nat
  | 0 => 0
  | n + 1 => if S.testBit n = true then ct_has la S n ||| la n else ct_has la S n
theorem ct_has_in {la : Nat → Nat} {S n : Nat} (h : S.testBit n = true) : ct_has la S (n + 1) = ct_has la S n ||| la n := if_pos h
theorem ct_has_out {la : Nat → Nat} {S n : Nat} (h : S.testBit n = false) : ct_has la S (n + 1) = ct_has la S n := if_neg (by rw [h]; exact Bool.false_ne_true)
theorem ct_has_congr {la la' : Nat → Nat} {S S' : Nat} (n : Nat) (h : ∀ k, k < n → S.testBit k = S'.testBit k) (hl : ∀ k, k < n → la k = la' k) : ct_has la S n = ct_has la' S' n := by
  induction n with
  | zero => rfl
  | succ n ih =>
    have ih := ih (fun k hk => h k (by omega)) (fun k hk => hl k (by omega))
    cases hp : S.testBit n with
    | true => rw [ct_has_in hp, ct_has_in (by rw [← h n (by omega)]; exact hp), ih, hl n (by omega)]
    | false => rw [ct_has_out hp, ct_has_out (by rw [← h n (by omega)]; exact hp), ih]
theorem ct_has_bit {la : Nat → Nat} {S : Nat} (n j : Nat) : (ct_has la S n).testBit j = true ↔ ∃ k, k < n ∧ S.testBit k = true ∧ (la k).testBit j = true := by
  induction n with
  | zero => simp [ct_has]
  | succ n ih =>
    cases hp : S.testBit n with
    | true =>
      rw [ct_has_in hp, Nat.testBit_or, Bool.or_eq_true, ih]
      constructor
      · rintro (⟨k, h1, h2, h3⟩ | h)
        · exact ⟨k, by omega, h2, h3⟩
        · exact ⟨n, by omega, hp, h⟩
      · rintro ⟨k, h1, h2, h3⟩
        by_cases hk : k = n
        · subst hk; exact Or.inr h3
        · exact Or.inl ⟨k, by omega, h2, h3⟩
    | false =>
      rw [ct_has_out hp, ih]
      constructor
      · rintro ⟨k, h1, h2, h3⟩
        exact ⟨k, by omega, h2, h3⟩
      · rintro ⟨k, h1, h2, h3⟩
        by_cases hk : k = n
        · subst hk; rw [hp] at h2; cases h2
        · exact ⟨k, by omega, h2, h3⟩
theorem ct_has_lt {la : Nat → Nat} {S : Nat} (n : Nat) (h : ∀ k, k < n → la k < 256) : ct_has la S n < 256 := by
  induction n with
  | zero => exact Nat.lt_of_lt_of_le Nat.zero_lt_one (by omega)
  | succ n ih =>
    have ih := ih (fun k hk => h k (by omega))
    cases hp : S.testBit n with
    | true => rw [ct_has_in hp]; exact Nat.or_lt_two_pow (n := 8) ih (h n (by omega))
    | false => rw [ct_has_out hp]; exact ih
def ct_co (K S : Nat) : Nat := (2 ^ K - 1) ^^^ S
def ct_lv (la : Nat → Nat) (K R S : Nat) : Nat := if ct_sev S = true then ct_has la S K &&& (R ||| ct_has la (ct_co K S) K) else ct_has la S K
theorem ct_lv_lt {la : Nat → Nat} {K R S : Nat} (h : ∀ k, k < K → la k < 256) : ct_lv la K R S < 256 := by
  unfold ct_lv
  by_cases hs : ct_sev S = true
  · rw [if_pos hs]; exact Nat.lt_of_le_of_lt Nat.and_le_left (ct_has_lt K h)
  · rw [if_neg hs]; exact ct_has_lt K h
def ct_jc (sz : Nat → Nat) (la : Nat → Nat) (K R a b : Nat) : Nat := ct_pr sz (ct_lv la K R a ||| ct_lv la K R b).testBit 8
theorem ct_pr_le {sz : Nat → Nat} {P : Nat → Bool} (n : Nat) (h : ∀ k, k < n → sz k ≤ 3) : ct_pr sz P n ≤ 3 ^ n := by
  induction n with
  | zero => exact Nat.le_refl 1
  | succ n ih =>
    have ih := ih (fun k hk => h k (by omega))
    rw [Nat.pow_succ]
    cases hp : P n with
    | true => rw [ct_pr_in hp]; exact Nat.mul_le_mul ih (h n (by omega))
    | false => rw [ct_pr_out hp]; omega
theorem ct_jc_le {sz la : Nat → Nat} {K R : Nat} (h : ∀ k, k < 8 → sz k ≤ 3) (a b : Nat) : ct_jc sz la K R a b ≤ 6561 := ct_pr_le 8 h
/-- the steps of a set's plan -/
def ct_ls (B : Nat → Nat × Nat) : Nat → Nat → List Nat
  | 0, _ => []
  | n + 1, S => if ct_sev S = true then ct_ls B n (B S).2 ++ ct_ls B n (S ^^^ (B S).2) ++ [S] else []
end
section
theorem d_P_costOf_0 : decode b_P_costOf 0 = .ok (.aload_n 0, 1) := by decide +kernel
theorem d_P_costOf_1 : decode b_P_costOf 1 = .ok (.getfield 22, 3) := by decide +kernel
theorem d_P_costOf_4 : decode b_P_costOf 4 = .ok (.iload_n 1, 1) := by decide +kernel
theorem d_P_costOf_5 : decode b_P_costOf 5 = .ok (.iaload, 1) := by decide +kernel
theorem d_P_costOf_6 : decode b_P_costOf 6 = .ok (.ireturn, 1) := by decide +kernel
set_option maxHeartbeats 4000000 in
set_option maxRecDepth 100000 in
theorem c_P_costOf (l : Launch) (dC : Nat → ClassId) (dI : Nat → Nat → Nat) (cI : ClassId) (z0 p0 p1 p2 p3 p4 p5 : Nat) (f : Nat → Int32) (j : Nat) (hj : j < 64) : Met l y_P_costOf w_P_costOf ({ frames := 0, cells := 0, slots := 0, locals := 0 }) (va_Pc [.ref p0, .int (nI j)] (ct_ro (dC, dI) ct_cl [(p0, .inr (2, [.ref z0, .ref p1, .ref p2, .ref p3, .ref p4, .ref p5])), (p3, .inl (cI, 64, .inl f))] [(cI, .int)])) (ct_qi (fun r => r = f j)) 0 0 (fun _ => False) := by
  refine Met.ofW (cc := b_P_costOf) (maxL := 2) (ret := (some .int)) (by decide) rfl ?_
  intro p e s m args below meth c s₁ Bd hml hv
  obtain ⟨hargs, hP, hK⟩ := hv
  have hx := Bd.exec
  have hb := Bd.bytes
  have hr := Bd.returns
  have hts : ∀ w ∈ k_P_costOf :: ct_tb, w.before args s = true := atoms_spec (ws := w_P_costOf) Bd.pre
  have hown : s.vm.findClass R_P = some m.cls := findClass_of_methodNamed Bd.named
  have hlocks := Bd.notSynchronized
  have hS : va_S (fun _ => False) s.heap s.heap [] := va_S.rf
  have hl := lv_entry ([.ref p0, .int (nI j)]) (n := 2) (Nat.le_of_ble_eq_true rfl)
  rw [show entryFrame m args 2 = entryFrame m (([.ref p0, .int (nI j)] : List Value)).toArray 2 by rw [hargs], lg_entry_eq]
  generalize (lg_sl ([.ref p0, .int (nI j)]) ++ List.replicate (2 - (lg_sl ([.ref p0, .int (nI j)])).length) Slot.unset).toArray = ls at hl ⊢
  have hl : lv_has ls 2 [(0, .ref p0), (1, .int (nI j))] := hl
  refine lv_aload_n hx hb d_P_costOf_0 rfl (lv_at hl 0 rfl) ?_
  refine va_get (D := (dC, dI)) (ci := 2) (v := .ref p3) (C := R_P) (T := T_P) (N := 6) hx hb hts (fun w h9 => ct_tl (ki_P w h9)) hown hK hP 0 rfl rfl 3 (by decide) (hts _ (ct_tl kw_70)) (fun _ h9 => h9) rfl d_P_costOf_1 ?_
  refine lv_iload_n hx hb d_P_costOf_4 rfl (lv_at hl 1 rfl) ?_
  refine ct_iald hx hb hK hP 1 0 rfl rfl (j := j) (by omega) (by omega) d_P_costOf_5 ?_
  exact W.iret (v := (f j)) hx hb hr (fun tS ht hW => ⟨⟨(f j), (), rfl, rfl, trivial⟩, hS.F ht⟩) hS.2.2 d_P_costOf_6
theorem d_P_leavesOf_0 : decode b_P_leavesOf 0 = .ok (.aload_n 0, 1) := by decide +kernel
theorem d_P_leavesOf_1 : decode b_P_leavesOf 1 = .ok (.getfield 19, 3) := by decide +kernel
theorem d_P_leavesOf_4 : decode b_P_leavesOf 4 = .ok (.iload_n 1, 1) := by decide +kernel
theorem d_P_leavesOf_5 : decode b_P_leavesOf 5 = .ok (.iaload, 1) := by decide +kernel
theorem d_P_leavesOf_6 : decode b_P_leavesOf 6 = .ok (.ireturn, 1) := by decide +kernel
set_option maxHeartbeats 4000000 in
set_option maxRecDepth 100000 in
theorem c_P_leavesOf (l : Launch) (dC : Nat → ClassId) (dI : Nat → Nat → Nat) (cI : ClassId) (z0 p0 p1 p2 p3 p4 p5 : Nat) (f : Nat → Int32) (j : Nat) (hj : j < 64) : Met l y_P_leavesOf w_P_leavesOf ({ frames := 0, cells := 0, slots := 0, locals := 0 }) (va_Pc [.ref p0, .int (nI j)] (ct_ro (dC, dI) ct_cl [(p0, .inr (2, [.ref z0, .ref p1, .ref p2, .ref p3, .ref p4, .ref p5])), (p2, .inl (cI, 64, .inl f))] [(cI, .int)])) (ct_qi (fun r => r = f j)) 0 0 (fun _ => False) := by
  refine Met.ofW (cc := b_P_leavesOf) (maxL := 2) (ret := (some .int)) (by decide) rfl ?_
  intro p e s m args below meth c s₁ Bd hml hv
  obtain ⟨hargs, hP, hK⟩ := hv
  have hx := Bd.exec
  have hb := Bd.bytes
  have hr := Bd.returns
  have hts : ∀ w ∈ k_P_leavesOf :: ct_tb, w.before args s = true := atoms_spec (ws := w_P_leavesOf) Bd.pre
  have hown : s.vm.findClass R_P = some m.cls := findClass_of_methodNamed Bd.named
  have hlocks := Bd.notSynchronized
  have hS : va_S (fun _ => False) s.heap s.heap [] := va_S.rf
  have hl := lv_entry ([.ref p0, .int (nI j)]) (n := 2) (Nat.le_of_ble_eq_true rfl)
  rw [show entryFrame m args 2 = entryFrame m (([.ref p0, .int (nI j)] : List Value)).toArray 2 by rw [hargs], lg_entry_eq]
  generalize (lg_sl ([.ref p0, .int (nI j)]) ++ List.replicate (2 - (lg_sl ([.ref p0, .int (nI j)])).length) Slot.unset).toArray = ls at hl ⊢
  have hl : lv_has ls 2 [(0, .ref p0), (1, .int (nI j))] := hl
  refine lv_aload_n hx hb d_P_leavesOf_0 rfl (lv_at hl 0 rfl) ?_
  refine va_get (D := (dC, dI)) (ci := 2) (v := .ref p2) (C := R_P) (T := T_P) (N := 6) hx hb hts (fun w h9 => ct_tl (ki_P w h9)) hown hK hP 0 rfl rfl 2 (by decide) (hts _ (ct_tl kw_69)) (fun _ h9 => h9) rfl d_P_leavesOf_1 ?_
  refine lv_iload_n hx hb d_P_leavesOf_4 rfl (lv_at hl 1 rfl) ?_
  refine ct_iald hx hb hK hP 1 0 rfl rfl (j := j) (by omega) (by omega) d_P_leavesOf_5 ?_
  exact W.iret (v := (f j)) hx hb hr (fun tS ht hW => ⟨⟨(f j), (), rfl, rfl, trivial⟩, hS.F ht⟩) hS.2.2 d_P_leavesOf_6
theorem d_P_partOf_0 : decode b_P_partOf 0 = .ok (.aload_n 0, 1) := by decide +kernel
theorem d_P_partOf_1 : decode b_P_partOf 1 = .ok (.getfield 25, 3) := by decide +kernel
theorem d_P_partOf_4 : decode b_P_partOf 4 = .ok (.iload_n 1, 1) := by decide +kernel
theorem d_P_partOf_5 : decode b_P_partOf 5 = .ok (.iaload, 1) := by decide +kernel
theorem d_P_partOf_6 : decode b_P_partOf 6 = .ok (.ireturn, 1) := by decide +kernel
set_option maxHeartbeats 4000000 in
set_option maxRecDepth 100000 in
theorem c_P_partOf (l : Launch) (dC : Nat → ClassId) (dI : Nat → Nat → Nat) (cI : ClassId) (z0 p0 p1 p2 p3 p4 p5 : Nat) (f : Nat → Int32) (j : Nat) (hj : j < 64) : Met l y_P_partOf w_P_partOf ({ frames := 0, cells := 0, slots := 0, locals := 0 }) (va_Pc [.ref p0, .int (nI j)] (ct_ro (dC, dI) ct_cl [(p0, .inr (2, [.ref z0, .ref p1, .ref p2, .ref p3, .ref p4, .ref p5])), (p4, .inl (cI, 64, .inl f))] [(cI, .int)])) (ct_qi (fun r => r = f j)) 0 0 (fun _ => False) := by
  refine Met.ofW (cc := b_P_partOf) (maxL := 2) (ret := (some .int)) (by decide) rfl ?_
  intro p e s m args below meth c s₁ Bd hml hv
  obtain ⟨hargs, hP, hK⟩ := hv
  have hx := Bd.exec
  have hb := Bd.bytes
  have hr := Bd.returns
  have hts : ∀ w ∈ k_P_partOf :: ct_tb, w.before args s = true := atoms_spec (ws := w_P_partOf) Bd.pre
  have hown : s.vm.findClass R_P = some m.cls := findClass_of_methodNamed Bd.named
  have hlocks := Bd.notSynchronized
  have hS : va_S (fun _ => False) s.heap s.heap [] := va_S.rf
  have hl := lv_entry ([.ref p0, .int (nI j)]) (n := 2) (Nat.le_of_ble_eq_true rfl)
  rw [show entryFrame m args 2 = entryFrame m (([.ref p0, .int (nI j)] : List Value)).toArray 2 by rw [hargs], lg_entry_eq]
  generalize (lg_sl ([.ref p0, .int (nI j)]) ++ List.replicate (2 - (lg_sl ([.ref p0, .int (nI j)])).length) Slot.unset).toArray = ls at hl ⊢
  have hl : lv_has ls 2 [(0, .ref p0), (1, .int (nI j))] := hl
  refine lv_aload_n hx hb d_P_partOf_0 rfl (lv_at hl 0 rfl) ?_
  refine va_get (D := (dC, dI)) (ci := 2) (v := .ref p4) (C := R_P) (T := T_P) (N := 6) hx hb hts (fun w h9 => ct_tl (ki_P w h9)) hown hK hP 0 rfl rfl 4 (by decide) (hts _ (ct_tl kw_71)) (fun _ h9 => h9) rfl d_P_partOf_1 ?_
  refine lv_iload_n hx hb d_P_partOf_4 rfl (lv_at hl 1 rfl) ?_
  refine ct_iald hx hb hK hP 1 0 rfl rfl (j := j) (by omega) (by omega) d_P_partOf_5 ?_
  exact W.iret (v := (f j)) hx hb hr (fun tS ht hW => ⟨⟨(f j), (), rfl, rfl, trivial⟩, hS.F ht⟩) hS.2.2 d_P_partOf_6
theorem d_P_joinedBy_0 : decode b_P_joinedBy 0 = .ok (.aload_n 0, 1) := by decide +kernel
theorem d_P_joinedBy_1 : decode b_P_joinedBy 1 = .ok (.getfield 28, 3) := by decide +kernel
theorem d_P_joinedBy_4 : decode b_P_joinedBy 4 = .ok (.iload_n 1, 1) := by decide +kernel
theorem d_P_joinedBy_5 : decode b_P_joinedBy 5 = .ok (.iaload, 1) := by decide +kernel
theorem d_P_joinedBy_6 : decode b_P_joinedBy 6 = .ok (.ireturn, 1) := by decide +kernel
set_option maxHeartbeats 4000000 in
set_option maxRecDepth 100000 in
theorem c_P_joinedBy (l : Launch) (dC : Nat → ClassId) (dI : Nat → Nat → Nat) (cI : ClassId) (z0 p0 p1 p2 p3 p4 p5 : Nat) (f : Nat → Int32) (j : Nat) (hj : j < 5) : Met l y_P_joinedBy w_P_joinedBy ({ frames := 0, cells := 0, slots := 0, locals := 0 }) (va_Pc [.ref p0, .int (nI j)] (ct_ro (dC, dI) ct_cl [(p0, .inr (2, [.ref z0, .ref p1, .ref p2, .ref p3, .ref p4, .ref p5])), (p5, .inl (cI, 5, .inl f))] [(cI, .int)])) (ct_qi (fun r => r = f j)) 0 0 (fun _ => False) := by
  refine Met.ofW (cc := b_P_joinedBy) (maxL := 2) (ret := (some .int)) (by decide) rfl ?_
  intro p e s m args below meth c s₁ Bd hml hv
  obtain ⟨hargs, hP, hK⟩ := hv
  have hx := Bd.exec
  have hb := Bd.bytes
  have hr := Bd.returns
  have hts : ∀ w ∈ k_P_joinedBy :: ct_tb, w.before args s = true := atoms_spec (ws := w_P_joinedBy) Bd.pre
  have hown : s.vm.findClass R_P = some m.cls := findClass_of_methodNamed Bd.named
  have hlocks := Bd.notSynchronized
  have hS : va_S (fun _ => False) s.heap s.heap [] := va_S.rf
  have hl := lv_entry ([.ref p0, .int (nI j)]) (n := 2) (Nat.le_of_ble_eq_true rfl)
  rw [show entryFrame m args 2 = entryFrame m (([.ref p0, .int (nI j)] : List Value)).toArray 2 by rw [hargs], lg_entry_eq]
  generalize (lg_sl ([.ref p0, .int (nI j)]) ++ List.replicate (2 - (lg_sl ([.ref p0, .int (nI j)])).length) Slot.unset).toArray = ls at hl ⊢
  have hl : lv_has ls 2 [(0, .ref p0), (1, .int (nI j))] := hl
  refine lv_aload_n hx hb d_P_joinedBy_0 rfl (lv_at hl 0 rfl) ?_
  refine va_get (D := (dC, dI)) (ci := 2) (v := .ref p5) (C := R_P) (T := T_P) (N := 6) hx hb hts (fun w h9 => ct_tl (ki_P w h9)) hown hK hP 0 rfl rfl 5 (by decide) (hts _ (ct_tl kw_72)) (fun _ h9 => h9) rfl d_P_joinedBy_1 ?_
  refine lv_iload_n hx hb d_P_joinedBy_4 rfl (lv_at hl 1 rfl) ?_
  refine ct_iald hx hb hK hP 1 0 rfl rfl (j := j) (by omega) (by omega) d_P_joinedBy_5 ?_
  exact W.iret (v := (f j)) hx hb hr (fun tS ht hW => ⟨⟨(f j), (), rfl, rfl, trivial⟩, hS.F ht⟩) hS.2.2 d_P_joinedBy_6
theorem d_P_joinLabels_0 : decode b_P_joinLabels 0 = .ok (.aload_n 0, 1) := by decide +kernel
theorem d_P_joinLabels_1 : decode b_P_joinLabels 1 = .ok (.getfield 19, 3) := by decide +kernel
theorem d_P_joinLabels_4 : decode b_P_joinLabels 4 = .ok (.iload_n 1, 1) := by decide +kernel
theorem d_P_joinLabels_5 : decode b_P_joinLabels 5 = .ok (.iaload, 1) := by decide +kernel
theorem d_P_joinLabels_6 : decode b_P_joinLabels 6 = .ok (.aload_n 0, 1) := by decide +kernel
theorem d_P_joinLabels_7 : decode b_P_joinLabels 7 = .ok (.getfield 19, 3) := by decide +kernel
theorem d_P_joinLabels_10 : decode b_P_joinLabels 10 = .ok (.iload_n 2, 1) := by decide +kernel
theorem d_P_joinLabels_11 : decode b_P_joinLabels 11 = .ok (.iaload, 1) := by decide +kernel
theorem d_P_joinLabels_12 : decode b_P_joinLabels 12 = .ok (.ior, 1) := by decide +kernel
theorem d_P_joinLabels_13 : decode b_P_joinLabels 13 = .ok (.ireturn, 1) := by decide +kernel
theorem d_P_joinCost_0 : decode b_P_joinCost 0 = .ok (.aload_n 0, 1) := by decide +kernel
theorem d_P_joinCost_1 : decode b_P_joinCost 1 = .ok (.getfield 9, 3) := by decide +kernel
theorem d_P_joinCost_4 : decode b_P_joinCost 4 = .ok (.aload_n 0, 1) := by decide +kernel
theorem d_P_joinCost_5 : decode b_P_joinCost 5 = .ok (.iload_n 1, 1) := by decide +kernel
theorem d_P_joinCost_6 : decode b_P_joinCost 6 = .ok (.iload_n 2, 1) := by decide +kernel
theorem d_P_joinCost_7 : decode b_P_joinCost 7 = .ok (.invokevirtual 31, 3) := by decide +kernel
theorem d_P_joinCost_10 : decode b_P_joinCost 10 = .ok (.invokevirtual 35, 3) := by decide +kernel
theorem d_P_joinCost_13 : decode b_P_joinCost 13 = .ok (.ireturn, 1) := by decide +kernel
theorem d_P_isSeveral_0 : decode b_P_isSeveral 0 = .ok (.iload_n 0, 1) := by decide +kernel
theorem d_P_isSeveral_1 : decode b_P_isSeveral 1 = .ok (.iload_n 0, 1) := by decide +kernel
theorem d_P_isSeveral_2 : decode b_P_isSeveral 2 = .ok (.iconst 1, 1) := by decide +kernel
theorem d_P_isSeveral_3 : decode b_P_isSeveral 3 = .ok (.isub, 1) := by decide +kernel
theorem d_P_isSeveral_4 : decode b_P_isSeveral 4 = .ok (.iand, 1) := by decide +kernel
theorem d_P_isSeveral_5 : decode b_P_isSeveral 5 = .ok (.ifCond .eq 7, 3) := by decide +kernel
theorem d_P_isSeveral_8 : decode b_P_isSeveral 8 = .ok (.iconst 1, 1) := by decide +kernel
theorem d_P_isSeveral_9 : decode b_P_isSeveral 9 = .ok (.goto 4, 3) := by decide +kernel
theorem d_P_isSeveral_12 : decode b_P_isSeveral 12 = .ok (.iconst 0, 1) := by decide +kernel
theorem d_P_isSeveral_13 : decode b_P_isSeveral 13 = .ok (.ireturn, 1) := by decide +kernel
set_option maxHeartbeats 4000000 in
set_option maxRecDepth 100000 in
theorem c_P_joinLabels (l : Launch) (dC : Nat → ClassId) (dI : Nat → Nat → Nat) (cI : ClassId) (z0 p0 p1 p2 p3 p4 p5 : Nat) (f : Nat → Int32) (a b x y : Nat) (ha1 : a < 64) (hb1 : b < 64) (hfa : f a = nI x) (hfb : f b = nI y) : Met l y_P_joinLabels w_P_joinLabels ({ frames := 0, cells := 0, slots := 0, locals := 0 }) (va_Pc [.ref p0, .int (nI a), .int (nI b)] (ct_ro (dC, dI) ct_cl [(p0, .inr (2, [.ref z0, .ref p1, .ref p2, .ref p3, .ref p4, .ref p5])), (p2, .inl (cI, 64, .inl f))] [(cI, .int)])) (ct_qi (fun r => r = nI (x ||| y))) 0 0 (fun _ => False) := by
  refine Met.ofW (cc := b_P_joinLabels) (maxL := 3) (ret := (some .int)) (by decide) rfl ?_
  intro p e s m args below meth c s₁ Bd hml hv
  obtain ⟨hargs, hP, hK⟩ := hv
  have hx := Bd.exec
  have hb := Bd.bytes
  have hr := Bd.returns
  have hts : ∀ w ∈ k_P_joinLabels :: ct_tb, w.before args s = true := atoms_spec (ws := w_P_joinLabels) Bd.pre
  have hown : s.vm.findClass R_P = some m.cls := findClass_of_methodNamed Bd.named
  have hlocks := Bd.notSynchronized
  have hS : va_S (fun _ => False) s.heap s.heap [] := va_S.rf
  have hl := lv_entry ([.ref p0, .int (nI a), .int (nI b)]) (n := 3) (Nat.le_of_ble_eq_true rfl)
  rw [show entryFrame m args 3 = entryFrame m (([.ref p0, .int (nI a), .int (nI b)] : List Value)).toArray 3 by rw [hargs], lg_entry_eq]
  generalize (lg_sl ([.ref p0, .int (nI a), .int (nI b)]) ++ List.replicate (3 - (lg_sl ([.ref p0, .int (nI a), .int (nI b)])).length) Slot.unset).toArray = ls at hl ⊢
  have hl : lv_has ls 3 [(0, .ref p0), (1, .int (nI a)), (2, .int (nI b))] := hl
  refine lv_aload_n hx hb d_P_joinLabels_0 rfl (lv_at hl 0 rfl) ?_
  refine va_get (D := (dC, dI)) (ci := 2) (v := .ref p2) (C := R_P) (T := T_P) (N := 6) hx hb hts (fun w h9 => ct_tl (ki_P w h9)) hown hK hP 0 rfl rfl 2 (by decide) (hts _ (ct_tl kw_69)) (fun _ h9 => h9) rfl d_P_joinLabels_1 ?_
  refine lv_iload_n hx hb d_P_joinLabels_4 rfl (lv_at hl 1 rfl) ?_
  refine ct_iald hx hb hK hP 1 0 rfl rfl (j := a) (by omega) (by omega) d_P_joinLabels_5 ?_
  refine ct_val (y := nI x) (hfa) ?_
  refine lv_aload_n hx hb d_P_joinLabels_6 rfl (lv_at hl 0 rfl) ?_
  refine va_get (D := (dC, dI)) (ci := 2) (v := .ref p2) (C := R_P) (T := T_P) (N := 6) hx hb hts (fun w h9 => ct_tl (ki_P w h9)) hown hK hP 0 rfl rfl 2 (by decide) (hts _ (ct_tl kw_69)) (fun _ h9 => h9) rfl d_P_joinLabels_7 ?_
  refine lv_iload_n hx hb d_P_joinLabels_10 rfl (lv_at hl 2 rfl) ?_
  refine ct_iald hx hb hK hP 1 0 rfl rfl (j := b) (by omega) (by omega) d_P_joinLabels_11 ?_
  refine ct_val (y := nI y) (hfb) ?_
  refine lv_ior hx hb d_P_joinLabels_12 ?_
  refine ct_val (y := nI (x ||| y)) (ct_or x y) ?_
  exact W.iret (v := (nI (x ||| y))) hx hb hr (fun tS ht hW => ⟨⟨(nI (x ||| y)), (), rfl, rfl, trivial⟩, hS.F ht⟩) hS.2.2 d_P_joinLabels_13
set_option maxHeartbeats 4000000 in
set_option maxRecDepth 100000 in
theorem c_P_joinCost (l : Launch) (dC : Nat → ClassId) (dI : Nat → Nat → Nat) (cI : ClassId) (z1 : Nat) (sz : Nat → Nat) (z0 p0 p1 p2 p3 p4 p5 : Nat) (f : Nat → Int32) (a b x y : Nat) (ha1 : a < 64) (hb1 : b < 64) (hfa : f a = nI x) (hfb : f b = nI y) (hxy : x ||| y < 2 ^ 31) : Met l y_P_joinCost w_P_joinCost ({ frames := 1, cells := 0, slots := 0, locals := 23 }) (va_Pc [.ref p0, .int (nI a), .int (nI b)] (ct_ro (dC, dI) ct_cl [(p0, .inr (2, [.ref z0, .ref p1, .ref p2, .ref p3, .ref p4, .ref p5])), (p2, .inl (cI, 64, .inl f)), (z0, .inr (1, [.ref z1])), (z1, .inl (cI, 8, .inl (fun j => nI (sz j))))] [(cI, .int)])) (ct_qi (fun r => r = nI (ct_pr sz (x ||| y).testBit 8))) 0 0 (fun _ => False) := by
  refine Met.ofW (cc := b_P_joinCost) (maxL := 3) (ret := (some .int)) (by decide) rfl ?_
  intro p e s m args below meth c s₁ Bd hml hv
  obtain ⟨hargs, hP, hK⟩ := hv
  have hx := Bd.exec
  have hb := Bd.bytes
  have hr := Bd.returns
  have hts : ∀ w ∈ k_P_joinCost :: ct_tb, w.before args s = true := atoms_spec (ws := w_P_joinCost) Bd.pre
  have hown : s.vm.findClass R_P = some m.cls := findClass_of_methodNamed Bd.named
  have hlocks := Bd.notSynchronized
  have hS : va_S (fun _ => False) s.heap s.heap [] := va_S.rf
  have hl := lv_entry ([.ref p0, .int (nI a), .int (nI b)]) (n := 3) (Nat.le_of_ble_eq_true rfl)
  rw [show entryFrame m args 3 = entryFrame m (([.ref p0, .int (nI a), .int (nI b)] : List Value)).toArray 3 by rw [hargs], lg_entry_eq]
  generalize (lg_sl ([.ref p0, .int (nI a), .int (nI b)]) ++ List.replicate (3 - (lg_sl ([.ref p0, .int (nI a), .int (nI b)])).length) Slot.unset).toArray = ls at hl ⊢
  have hl : lv_has ls 3 [(0, .ref p0), (1, .int (nI a)), (2, .int (nI b))] := hl
  refine lv_aload_n hx hb d_P_joinCost_0 rfl (lv_at hl 0 rfl) ?_
  refine va_get (D := (dC, dI)) (ci := 2) (v := .ref z0) (C := R_P) (T := T_P) (N := 6) hx hb hts (fun w h9 => ct_tl (ki_P w h9)) hown hK hP 0 rfl rfl 0 (by decide) (hts _ (ct_tl kw_67)) (fun _ h9 => h9) rfl d_P_joinCost_1 ?_
  refine lv_aload_n hx hb d_P_joinCost_4 rfl (lv_at hl 0 rfl) ?_
  refine lv_iload_n hx hb d_P_joinCost_5 rfl (lv_at hl 1 rfl) ?_
  refine lv_iload_n hx hb d_P_joinCost_6 rfl (lv_at hl 2 rfl) ?_
  refine va_calli (va_runV (As := [.int (nI a), .int (nI b)]) (rest := [.ref z0]) ⟨hx, hb, hml, hown, hts⟩ (c_P_joinLabels l dC dI cI z0 p0 p1 p2 p3 p4 p5 f a b x y ha1 hb1 hfa hfb) (cwV 2 hts (ct_giV (fun w h9 => ct_tl h9) kw_190 kw_191 kw_192 kw_28 kw_193) rfl rfl rfl (by decide +kernel) ⟨Nat.le_of_ble_eq_true rfl, Nat.le_of_ble_eq_true rfl⟩) ⟨ct_ro_blind, va_recv hK hP (ci := 2) (q0 := 0) rfl rfl, ct_ro_pre (hP.sub [0, 1] rfl) hK⟩ rfl rfl hl.1 rfl (lv_room (Nat.le_of_ble_eq_true rfl)) d_P_joinCost_7 ⟨Nat.le_of_ble_eq_true rfl, Nat.le_of_ble_eq_true rfl⟩) hS (fun q _ h9 => h9.elim) (fun q h9 => h9.elim) (fun ans1 uS tS H locs ht hvm hwans1 hB hz1 hk1 hS => ?_)
  have hP := ct_keep hP hk1
  refine ct_val (y := nI (x ||| y)) (hwans1) ?_
  refine va_calli (va_runV (As := [.int (nI (x ||| y))]) (rest := []) ⟨hx, hb, hml, hown, hts⟩ (c_S_choices l dC dI cI z0 z1 sz (x ||| y) hxy) (cwV 1 hts (ct_giV (fun w h9 => ct_tl h9) kw_194 kw_195 kw_196 kw_27 kw_197) rfl rfl rfl (by decide +kernel) ⟨Nat.le_of_ble_eq_true rfl, Nat.le_of_ble_eq_true rfl⟩) ⟨ct_ro_blind, va_recv hK hP (ci := 1) (q0 := 2) rfl rfl, ct_ro_pre (hP.sub [2, 3] rfl) hK⟩ rfl rfl hl.1 rfl (lv_room (Nat.le_of_ble_eq_true rfl)) d_P_joinCost_10 ⟨Nat.le_of_ble_eq_true rfl, Nat.le_of_ble_eq_true rfl⟩) hS (fun q _ h9 => h9.elim) (fun q h9 => h9.elim) (fun ans2 uS tS H locs ht hvm hwans2 hB hz1 hk1 hS => ?_)
  have hP := ct_keep hP hk1
  refine ct_val (y := nI (ct_pr sz ((x ||| y)).testBit 8)) (hwans2) ?_
  exact W.iret (v := (nI (ct_pr sz ((x ||| y)).testBit 8))) hx hb hr (fun tS ht hW => ⟨⟨(nI (ct_pr sz ((x ||| y)).testBit 8)), (), rfl, rfl, trivial⟩, hS.F ht⟩) hS.2.2 d_P_joinCost_13
set_option maxHeartbeats 4000000 in
set_option maxRecDepth 100000 in
theorem c_P_isSeveral (l : Launch) (dC : Nat → ClassId) (dI : Nat → Nat → Nat) (cI : ClassId) (a : Nat) (ha : a < 64) (ha0 : 0 < a) : Met l y_P_isSeveral w_P_isSeveral ({ frames := 0, cells := 0, slots := 0, locals := 0 }) (va_Pc [.int (nI a)] (ct_ro (dC, dI) ct_cl [] [(cI, .int)])) (ct_qi (fun r => r = nI (if ct_sev a = true then 1 else 0))) 0 0 (fun _ => False) := by
  refine Met.ofW (cc := b_P_isSeveral) (maxL := 1) (ret := (some .boolean)) (by decide) rfl ?_
  intro p e s m args below meth c s₁ Bd hml hv
  obtain ⟨hargs, hP, hK⟩ := hv
  have hx := Bd.exec
  have hb := Bd.bytes
  have hr := Bd.returns
  have hts : ∀ w ∈ k_P_isSeveral :: ct_tb, w.before args s = true := atoms_spec (ws := w_P_isSeveral) Bd.pre
  have hown : s.vm.findClass R_P = some m.cls := findClass_of_methodNamed Bd.named
  have hlocks := Bd.notSynchronized
  have hS : va_S (fun _ => False) s.heap s.heap [] := va_S.rf
  have hl := lv_entry ([.int (nI a)]) (n := 1) (Nat.le_of_ble_eq_true rfl)
  rw [show entryFrame m args 1 = entryFrame m (([.int (nI a)] : List Value)).toArray 1 by rw [hargs], lg_entry_eq]
  generalize (lg_sl ([.int (nI a)]) ++ List.replicate (1 - (lg_sl ([.int (nI a)])).length) Slot.unset).toArray = ls at hl ⊢
  have hl : lv_has ls 1 [(0, .int (nI a))] := hl
  refine lv_iload_n hx hb d_P_isSeveral_0 rfl (lv_at hl 0 rfl) ?_
  refine lv_iload_n hx hb d_P_isSeveral_1 rfl (lv_at hl 0 rfl) ?_
  refine lv_iconst (v := (nI 1)) hx hb d_P_isSeveral_2 (by decide) ?_
  refine lv_isub hx hb d_P_isSeveral_3 ?_
  refine lv_iand hx hb d_P_isSeveral_4 ?_
  refine lv_topi (fun v0 ev0 => ?_)
  by_cases hs : ct_sev a = true
  · refine lv_if_eq (tgt := 12) hx hb d_P_isSeveral_5 (by decide) (fun hc9 => absurd hc9 (fun z => Bool.false_ne_true (((ct_sev_I a ha ha0).mp (ev0 ▸ z)).symm.trans hs))) (fun _ => ?_)
    refine lv_iconst (v := (nI 1)) hx hb d_P_isSeveral_8 (by decide) ?_
    refine lv_goto (tgt := 13) hx hb d_P_isSeveral_9 (by decide) ?_
    exact W.zret (v := (nI 1)) hx hb hr (by first | rfl | decide) (fun tS ht hW => ⟨⟨(nI 1), (), rfl, by rw [if_pos hs], trivial⟩, hS.F ht⟩) hS.2.2 d_P_isSeveral_13
  · refine lv_if_eq (tgt := 12) hx hb d_P_isSeveral_5 (by decide) (fun _ => ?_) (fun hc9 => absurd (by rw [ev0]; exact (ct_sev_I a ha ha0).mpr (by simpa using hs)) hc9)
    refine lv_iconst (v := (nI 0)) hx hb d_P_isSeveral_12 (by decide) ?_
    exact W.zret (v := (nI 0)) hx hb hr (by first | rfl | decide) (fun tS ht hW => ⟨⟨(nI 0), (), rfl, by rw [if_neg hs], trivial⟩, hS.F ht⟩) hS.2.2 d_P_isSeveral_13
end
section
theorem ct_2o : ∀ o, o < 6 → 1 ≤ 2 ^ o ∧ 2 ^ o ≤ 32 := by decide +kernel
theorem ct_2K : ∀ o, o < 7 → 1 ≤ 2 ^ o ∧ 2 ^ o ≤ 64 := by decide +kernel
theorem ct_bitor : ∀ o, o < 6 → ∀ j, j < 32 → j < 2 ^ o → 2 ^ o ||| j = 2 ^ o + j := by decide +kernel
theorem ct_bitnew : ∀ o, o < 6 → ∀ j, j < 32 → j < 2 ^ o → (2 ^ o + j).testBit o = true ∧ ∀ k, k < o → (2 ^ o + j).testBit k = j.testBit k := by decide +kernel
theorem ct_has_new {la : Nat → Nat} {o j : Nat} (ho : o < 6) (hj : j < 2 ^ o) : ct_has la (2 ^ o + j) (o + 1) = ct_has la j o ||| la o := by
  have h2 := ct_2o o ho
  have h3 := ct_bitnew o ho j (by omega) hj
  rw [ct_has_in h3.1, ct_has_congr o h3.2 (fun _ _ => rfl)]
theorem d_P_noteLabels_0 : decode b_P_noteLabels 0 = .ok (.iconst 0, 1) := by decide +kernel
theorem d_P_noteLabels_1 : decode b_P_noteLabels 1 = .ok (.istore_n 3, 1) := by decide +kernel
theorem d_P_noteLabels_2 : decode b_P_noteLabels 2 = .ok (.iload_n 3, 1) := by decide +kernel
theorem d_P_noteLabels_3 : decode b_P_noteLabels 3 = .ok (.iload_n 2, 1) := by decide +kernel
theorem d_P_noteLabels_4 : decode b_P_noteLabels 4 = .ok (.if_icmp .ge 51, 3) := by decide +kernel
theorem d_P_noteLabels_7 : decode b_P_noteLabels 7 = .ok (.iconst 1, 1) := by decide +kernel
theorem d_P_noteLabels_8 : decode b_P_noteLabels 8 = .ok (.iload_n 3, 1) := by decide +kernel
theorem d_P_noteLabels_9 : decode b_P_noteLabels 9 = .ok (.ishl, 1) := by decide +kernel
theorem d_P_noteLabels_10 : decode b_P_noteLabels 10 = .ok (.istore 4, 2) := by decide +kernel
theorem d_P_noteLabels_12 : decode b_P_noteLabels 12 = .ok (.iconst 0, 1) := by decide +kernel
theorem d_P_noteLabels_13 : decode b_P_noteLabels 13 = .ok (.istore 5, 2) := by decide +kernel
theorem d_P_noteLabels_15 : decode b_P_noteLabels 15 = .ok (.iload 5, 2) := by decide +kernel
theorem d_P_noteLabels_17 : decode b_P_noteLabels 17 = .ok (.iload 4, 2) := by decide +kernel
theorem d_P_noteLabels_19 : decode b_P_noteLabels 19 = .ok (.if_icmp .ge 30, 3) := by decide +kernel
theorem d_P_noteLabels_22 : decode b_P_noteLabels 22 = .ok (.aload_n 0, 1) := by decide +kernel
theorem d_P_noteLabels_23 : decode b_P_noteLabels 23 = .ok (.getfield 15, 3) := by decide +kernel
theorem d_P_noteLabels_26 : decode b_P_noteLabels 26 = .ok (.iload 4, 2) := by decide +kernel
theorem d_P_noteLabels_28 : decode b_P_noteLabels 28 = .ok (.iload 5, 2) := by decide +kernel
theorem d_P_noteLabels_30 : decode b_P_noteLabels 30 = .ok (.ior, 1) := by decide +kernel
theorem d_P_noteLabels_31 : decode b_P_noteLabels 31 = .ok (.aload_n 1, 1) := by decide +kernel
theorem d_P_noteLabels_32 : decode b_P_noteLabels 32 = .ok (.iload_n 3, 1) := by decide +kernel
theorem d_P_noteLabels_33 : decode b_P_noteLabels 33 = .ok (.iaload, 1) := by decide +kernel
theorem d_P_noteLabels_34 : decode b_P_noteLabels 34 = .ok (.aload_n 0, 1) := by decide +kernel
theorem d_P_noteLabels_35 : decode b_P_noteLabels 35 = .ok (.getfield 15, 3) := by decide +kernel
theorem d_P_noteLabels_38 : decode b_P_noteLabels 38 = .ok (.iload 5, 2) := by decide +kernel
theorem d_P_noteLabels_40 : decode b_P_noteLabels 40 = .ok (.iaload, 1) := by decide +kernel
theorem d_P_noteLabels_41 : decode b_P_noteLabels 41 = .ok (.ior, 1) := by decide +kernel
theorem d_P_noteLabels_42 : decode b_P_noteLabels 42 = .ok (.iastore, 1) := by decide +kernel
theorem d_P_noteLabels_43 : decode b_P_noteLabels 43 = .ok (.iinc 5 1, 3) := by decide +kernel
theorem d_P_noteLabels_46 : decode b_P_noteLabels 46 = .ok (.goto (-31), 3) := by decide +kernel
theorem d_P_noteLabels_49 : decode b_P_noteLabels 49 = .ok (.iinc 3 1, 3) := by decide +kernel
theorem d_P_noteLabels_52 : decode b_P_noteLabels 52 = .ok (.goto (-50), 3) := by decide +kernel
theorem d_P_noteLabels_55 : decode b_P_noteLabels 55 = .ok (.return_, 1) := by decide +kernel
theorem d_P_noteLeaves_0 : decode b_P_noteLeaves 0 = .ok (.aload_n 0, 1) := by decide +kernel
theorem d_P_noteLeaves_1 : decode b_P_noteLeaves 1 = .ok (.getfield 19, 3) := by decide +kernel
theorem d_P_noteLeaves_4 : decode b_P_noteLeaves 4 = .ok (.iload_n 1, 1) := by decide +kernel
theorem d_P_noteLeaves_5 : decode b_P_noteLeaves 5 = .ok (.iload_n 1, 1) := by decide +kernel
theorem d_P_noteLeaves_6 : decode b_P_noteLeaves 6 = .ok (.invokestatic 49, 3) := by decide +kernel
theorem d_P_noteLeaves_9 : decode b_P_noteLeaves 9 = .ok (.ifCond .eq 23, 3) := by decide +kernel
theorem d_P_noteLeaves_12 : decode b_P_noteLeaves 12 = .ok (.aload_n 0, 1) := by decide +kernel
theorem d_P_noteLeaves_13 : decode b_P_noteLeaves 13 = .ok (.getfield 15, 3) := by decide +kernel
theorem d_P_noteLeaves_16 : decode b_P_noteLeaves 16 = .ok (.iload_n 1, 1) := by decide +kernel
theorem d_P_noteLeaves_17 : decode b_P_noteLeaves 17 = .ok (.iaload, 1) := by decide +kernel
theorem d_P_noteLeaves_18 : decode b_P_noteLeaves 18 = .ok (.iload_n 3, 1) := by decide +kernel
theorem d_P_noteLeaves_19 : decode b_P_noteLeaves 19 = .ok (.aload_n 0, 1) := by decide +kernel
theorem d_P_noteLeaves_20 : decode b_P_noteLeaves 20 = .ok (.getfield 15, 3) := by decide +kernel
theorem d_P_noteLeaves_23 : decode b_P_noteLeaves 23 = .ok (.iload_n 2, 1) := by decide +kernel
theorem d_P_noteLeaves_24 : decode b_P_noteLeaves 24 = .ok (.iload_n 1, 1) := by decide +kernel
theorem d_P_noteLeaves_25 : decode b_P_noteLeaves 25 = .ok (.ixor, 1) := by decide +kernel
theorem d_P_noteLeaves_26 : decode b_P_noteLeaves 26 = .ok (.iaload, 1) := by decide +kernel
theorem d_P_noteLeaves_27 : decode b_P_noteLeaves 27 = .ok (.ior, 1) := by decide +kernel
theorem d_P_noteLeaves_28 : decode b_P_noteLeaves 28 = .ok (.iand, 1) := by decide +kernel
theorem d_P_noteLeaves_29 : decode b_P_noteLeaves 29 = .ok (.goto 9, 3) := by decide +kernel
theorem d_P_noteLeaves_32 : decode b_P_noteLeaves 32 = .ok (.aload_n 0, 1) := by decide +kernel
theorem d_P_noteLeaves_33 : decode b_P_noteLeaves 33 = .ok (.getfield 15, 3) := by decide +kernel
theorem d_P_noteLeaves_36 : decode b_P_noteLeaves 36 = .ok (.iload_n 1, 1) := by decide +kernel
theorem d_P_noteLeaves_37 : decode b_P_noteLeaves 37 = .ok (.iaload, 1) := by decide +kernel
theorem d_P_noteLeaves_38 : decode b_P_noteLeaves 38 = .ok (.iastore, 1) := by decide +kernel
theorem d_P_noteLeaves_39 : decode b_P_noteLeaves 39 = .ok (.return_, 1) := by decide +kernel
theorem d_P_choosePart_0 : decode b_P_choosePart 0 = .ok (.iload_n 1, 1) := by decide +kernel
theorem d_P_choosePart_1 : decode b_P_choosePart 1 = .ok (.iload_n 1, 1) := by decide +kernel
theorem d_P_choosePart_2 : decode b_P_choosePart 2 = .ok (.ineg, 1) := by decide +kernel
theorem d_P_choosePart_3 : decode b_P_choosePart 3 = .ok (.iand, 1) := by decide +kernel
theorem d_P_choosePart_4 : decode b_P_choosePart 4 = .ok (.istore_n 2, 1) := by decide +kernel
theorem d_P_choosePart_5 : decode b_P_choosePart 5 = .ok (.iconst 0, 1) := by decide +kernel
theorem d_P_choosePart_6 : decode b_P_choosePart 6 = .ok (.istore_n 3, 1) := by decide +kernel
theorem d_P_choosePart_7 : decode b_P_choosePart 7 = .ok (.iconst 0, 1) := by decide +kernel
theorem d_P_choosePart_8 : decode b_P_choosePart 8 = .ok (.istore 4, 2) := by decide +kernel
theorem d_P_choosePart_10 : decode b_P_choosePart 10 = .ok (.iload_n 2, 1) := by decide +kernel
theorem d_P_choosePart_11 : decode b_P_choosePart 11 = .ok (.istore 5, 2) := by decide +kernel
theorem d_P_choosePart_13 : decode b_P_choosePart 13 = .ok (.iload 5, 2) := by decide +kernel
theorem d_P_choosePart_15 : decode b_P_choosePart 15 = .ok (.iload_n 1, 1) := by decide +kernel
theorem d_P_choosePart_16 : decode b_P_choosePart 16 = .ok (.if_icmp .ge 74, 3) := by decide +kernel
theorem d_P_choosePart_19 : decode b_P_choosePart 19 = .ok (.iload 5, 2) := by decide +kernel
theorem d_P_choosePart_21 : decode b_P_choosePart 21 = .ok (.iload_n 2, 1) := by decide +kernel
theorem d_P_choosePart_22 : decode b_P_choosePart 22 = .ok (.iand, 1) := by decide +kernel
theorem d_P_choosePart_23 : decode b_P_choosePart 23 = .ok (.ifCond .eq 61, 3) := by decide +kernel
theorem d_P_choosePart_26 : decode b_P_choosePart 26 = .ok (.iload 5, 2) := by decide +kernel
theorem d_P_choosePart_28 : decode b_P_choosePart 28 = .ok (.iload_n 1, 1) := by decide +kernel
theorem d_P_choosePart_29 : decode b_P_choosePart 29 = .ok (.ior, 1) := by decide +kernel
theorem d_P_choosePart_30 : decode b_P_choosePart 30 = .ok (.iload_n 1, 1) := by decide +kernel
theorem d_P_choosePart_31 : decode b_P_choosePart 31 = .ok (.if_icmp .ne 53, 3) := by decide +kernel
theorem d_P_choosePart_34 : decode b_P_choosePart 34 = .ok (.iload_n 1, 1) := by decide +kernel
theorem d_P_choosePart_35 : decode b_P_choosePart 35 = .ok (.iload 5, 2) := by decide +kernel
theorem d_P_choosePart_37 : decode b_P_choosePart 37 = .ok (.ixor, 1) := by decide +kernel
theorem d_P_choosePart_38 : decode b_P_choosePart 38 = .ok (.istore 6, 2) := by decide +kernel
theorem d_P_choosePart_40 : decode b_P_choosePart 40 = .ok (.aload_n 0, 1) := by decide +kernel
theorem d_P_choosePart_41 : decode b_P_choosePart 41 = .ok (.getfield 22, 3) := by decide +kernel
theorem d_P_choosePart_44 : decode b_P_choosePart 44 = .ok (.iload 5, 2) := by decide +kernel
theorem d_P_choosePart_46 : decode b_P_choosePart 46 = .ok (.iaload, 1) := by decide +kernel
theorem d_P_choosePart_47 : decode b_P_choosePart 47 = .ok (.aload_n 0, 1) := by decide +kernel
theorem d_P_choosePart_48 : decode b_P_choosePart 48 = .ok (.getfield 22, 3) := by decide +kernel
theorem d_P_choosePart_51 : decode b_P_choosePart 51 = .ok (.iload 6, 2) := by decide +kernel
theorem d_P_choosePart_53 : decode b_P_choosePart 53 = .ok (.iaload, 1) := by decide +kernel
theorem d_P_choosePart_54 : decode b_P_choosePart 54 = .ok (.iadd, 1) := by decide +kernel
theorem d_P_choosePart_55 : decode b_P_choosePart 55 = .ok (.aload_n 0, 1) := by decide +kernel
theorem d_P_choosePart_56 : decode b_P_choosePart 56 = .ok (.iload 5, 2) := by decide +kernel
theorem d_P_choosePart_58 : decode b_P_choosePart 58 = .ok (.iload 6, 2) := by decide +kernel
theorem d_P_choosePart_60 : decode b_P_choosePart 60 = .ok (.invokevirtual 61, 3) := by decide +kernel
theorem d_P_choosePart_63 : decode b_P_choosePart 63 = .ok (.iadd, 1) := by decide +kernel
theorem d_P_choosePart_64 : decode b_P_choosePart 64 = .ok (.istore 7, 2) := by decide +kernel
theorem d_P_choosePart_66 : decode b_P_choosePart 66 = .ok (.iload_n 3, 1) := by decide +kernel
theorem d_P_choosePart_67 : decode b_P_choosePart 67 = .ok (.ifCond .eq 10, 3) := by decide +kernel
theorem d_P_choosePart_70 : decode b_P_choosePart 70 = .ok (.iload 7, 2) := by decide +kernel
theorem d_P_choosePart_72 : decode b_P_choosePart 72 = .ok (.iload 4, 2) := by decide +kernel
theorem d_P_choosePart_74 : decode b_P_choosePart 74 = .ok (.if_icmp .ge 10, 3) := by decide +kernel
theorem d_P_choosePart_77 : decode b_P_choosePart 77 = .ok (.iload 5, 2) := by decide +kernel
theorem d_P_choosePart_79 : decode b_P_choosePart 79 = .ok (.istore_n 3, 1) := by decide +kernel
theorem d_P_choosePart_80 : decode b_P_choosePart 80 = .ok (.iload 7, 2) := by decide +kernel
theorem d_P_choosePart_82 : decode b_P_choosePart 82 = .ok (.istore 4, 2) := by decide +kernel
theorem d_P_choosePart_84 : decode b_P_choosePart 84 = .ok (.iinc 5 1, 3) := by decide +kernel
theorem d_P_choosePart_87 : decode b_P_choosePart 87 = .ok (.goto (-74), 3) := by decide +kernel
theorem d_P_choosePart_90 : decode b_P_choosePart 90 = .ok (.aload_n 0, 1) := by decide +kernel
theorem d_P_choosePart_91 : decode b_P_choosePart 91 = .ok (.getfield 25, 3) := by decide +kernel
theorem d_P_choosePart_94 : decode b_P_choosePart 94 = .ok (.iload_n 1, 1) := by decide +kernel
theorem d_P_choosePart_95 : decode b_P_choosePart 95 = .ok (.iload_n 3, 1) := by decide +kernel
theorem d_P_choosePart_96 : decode b_P_choosePart 96 = .ok (.iastore, 1) := by decide +kernel
theorem d_P_choosePart_97 : decode b_P_choosePart 97 = .ok (.aload_n 0, 1) := by decide +kernel
theorem d_P_choosePart_98 : decode b_P_choosePart 98 = .ok (.getfield 22, 3) := by decide +kernel
theorem d_P_choosePart_101 : decode b_P_choosePart 101 = .ok (.iload_n 1, 1) := by decide +kernel
theorem d_P_choosePart_102 : decode b_P_choosePart 102 = .ok (.iload 4, 2) := by decide +kernel
theorem d_P_choosePart_104 : decode b_P_choosePart 104 = .ok (.iastore, 1) := by decide +kernel
theorem d_P_choosePart_105 : decode b_P_choosePart 105 = .ok (.return_, 1) := by decide +kernel
set_option maxHeartbeats 4000000 in
set_option maxRecDepth 100000 in
theorem c_P_noteLabels (l : Launch) (dC : Nat → ClassId) (dI : Nat → Nat → Nat) (cI : ClassId) (z0 p0 p1 p2 p3 p4 p5 : Nat) (o1 : Nat) (fh fo : Nat → Int32) (la : Nat → Nat) (K : Nat) (hK6 : K ≤ 6) (hfo : ∀ j, j < K → fo j = nI (la j)) (hf0 : fh 0 = nI 0) (sz0 : Nat) : Met l y_P_noteLabels w_P_noteLabels ({ frames := 0, cells := 0, slots := 0, locals := 0 }) (va_Pc [.ref p0, .ref o1, .int (nI K)] (ct_rw (dC, dI) ct_cl [(p0, .inr (2, [.ref z0, .ref p1, .ref p2, .ref p3, .ref p4, .ref p5])), (p1, .inl (cI, 64, .inl fh)), (o1, .inl (cI, 6, .inl fo))] [(cI, .int)] sz0)) (va_Qv (fun (u : Nat → Int32) => ∀ S, S < 2 ^ K → u S = nI (ct_has la S K)) (fun (u : Nat → Int32) t => ct_at (dC, dI) ct_cl [(cI, .int)] (va_A [(p0, .inr (2, [.ref z0, .ref p1, .ref p2, .ref p3, .ref p4, .ref p5])), (p1, .inl (cI, 64, .inl fh)), (o1, .inl (cI, 6, .inl fo))] sz0) [(p0, .inr (2, [.ref z0, .ref p1, .ref p2, .ref p3, .ref p4, .ref p5])), (p1, .inl (cI, 64, .inl u)), (o1, .inl (cI, 6, .inl fo))] t) (va_A [(p0, .inr (2, [.ref z0, .ref p1, .ref p2, .ref p3, .ref p4, .ref p5])), (p1, .inl (cI, 64, .inl fh)), (o1, .inl (cI, 6, .inl fo))] sz0)) 0 0 (va_A [(p0, .inr (2, [.ref z0, .ref p1, .ref p2, .ref p3, .ref p4, .ref p5])), (p1, .inl (cI, 64, .inl fh)), (o1, .inl (cI, 6, .inl fo))] sz0) := by
  refine Met.ofW (cc := b_P_noteLabels) (maxL := 6) (ret := none) (by decide) rfl ?_
  intro p e s m args below meth c s₁ Bd hml hv
  obtain ⟨hargs, hsz, hP, hK, hD0⟩ := hv
  have hx := Bd.exec
  have hb := Bd.bytes
  have hr := Bd.returns
  have hts : ∀ w ∈ k_P_noteLabels :: ct_tb, w.before args s = true := atoms_spec (ws := w_P_noteLabels) Bd.pre
  have hown : s.vm.findClass R_P = some m.cls := findClass_of_methodNamed Bd.named
  have hlocks := Bd.notSynchronized
  subst hsz
  have hD := hD0.self (sz := s.heap.size)
  generalize hAe : va_A [(p0, .inr (2, [.ref z0, .ref p1, .ref p2, .ref p3, .ref p4, .ref p5])), (p1, .inl (cI, 64, .inl fh)), (o1, .inl (cI, 6, .inl fo))] s.heap.size = A at hD ⊢
  have hA : ∀ q : Nat, s.heap.size ≤ q → A q := fun q h => by rw [← hAe]; exact Or.inr h
  have hS : va_S A s.heap s.heap [] := va_S.rf
  have hl := lv_entry ([.ref p0, .ref o1, .int (nI K)]) (n := 6) (Nat.le_of_ble_eq_true rfl)
  rw [show entryFrame m args 6 = entryFrame m (([.ref p0, .ref o1, .int (nI K)] : List Value)).toArray 6 by rw [hargs], lg_entry_eq]
  generalize (lg_sl ([.ref p0, .ref o1, .int (nI K)]) ++ List.replicate (6 - (lg_sl ([.ref p0, .ref o1, .int (nI K)])).length) Slot.unset).toArray = ls at hl ⊢
  have hl : lv_has ls 6 [(0, .ref p0), (1, .ref o1), (2, .int (nI K))] := hl
  have loop : ∀ (n o : Nat), o + n = K → ∀ (g : Nat → Int32), (∀ S, S < 2 ^ o → g S = nI (ct_has la S o)) → ∀ (H : Heap) (locs : List Loc), va_P (dC, dI) ct_cl [(p0, .inr (2, [.ref z0, .ref p1, .ref p2, .ref p3, .ref p4, .ref p5])), (p1, .inl (cI, 64, .inl g)), (o1, .inl (cI, 6, .inl fo))] H → va_D A [(p0, .inr (2, [.ref z0, .ref p1, .ref p2, .ref p3, .ref p4, .ref p5])), (p1, .inl (cI, 64, .inl g)), (o1, .inl (cI, 6, .inl fo))] → va_S A s.heap H locs → ∀ (ls : Array Slot), lv_has ls 6 [(0, .ref p0), (1, .ref o1), (2, .int (nI K)), (3, .int (nI o))] → W p l e (headSpec w_P_noteLabels ({ frames := 0, cells := 0, slots := 0, locals := 0 } : Room)).room s m args below meth c H locs 0 0 (MQ below (va_Qv (fun (u : Nat → Int32) => ∀ S, S < 2 ^ K → u S = nI (ct_has la S K)) (fun (u : Nat → Int32) t => ct_at (dC, dI) ct_cl [(cI, .int)] (A) [(p0, .inr (2, [.ref z0, .ref p1, .ref p2, .ref p3, .ref p4, .ref p5])), (p1, .inl (cI, 64, .inl u)), (o1, .inl (cI, 6, .inl fo))] t) (A)) args s 0 0 A) (F0 m 2 ls []) := by
    intro n
    induction n with
    | zero =>
      intro o ho g hg H locs hP hD hS ls hl
      refine lv_iload_n hx hb d_P_noteLabels_2 rfl (lv_at hl 3 rfl) ?_
      refine lv_iload_n hx hb d_P_noteLabels_3 rfl (lv_at hl 2 rfl) ?_
      refine lv_icmp_ge (tgt := 55) hx hb d_P_noteLabels_4 (by decide) (fun _ => ?_) (fun hc9 => absurd (nI_le (by omega) (by omega)) hc9)
      have hP9 := hP.sub [0, 1, 2] rfl
      exact W.vret hx hb hr (fun tS ht hW => ⟨⟨g, rfl, fun S h9 => by rw [hg S (by rw [show o = K by omega]; exact h9), show o = K by omega], by rw [ht]; exact hP9, va_K.moved hW.alike hK, hD.sub [0, 1, 2] (by decide) rfl⟩, hS.F ht⟩) hS.2.2 d_P_noteLabels_55
    | succ n ih =>
      intro o ho g hg H locs hP hD hS ls hl
      refine lv_iload_n hx hb d_P_noteLabels_2 rfl (lv_at hl 3 rfl) ?_
      refine lv_iload_n hx hb d_P_noteLabels_3 rfl (lv_at hl 2 rfl) ?_
      refine lv_icmp_ge (tgt := 55) hx hb d_P_noteLabels_4 (by decide) (fun hc9 => absurd hc9 (nI_ge (by omega) (by omega))) (fun _ => ?_)
      have h2o := ct_2o o (by omega)
      have inner : ∀ (n2 j : Nat), j + n2 = 2 ^ o → ∀ (g : Nat → Int32), (∀ S, S < 2 ^ o + j → g S = nI (ct_has la S (o + 1))) → ∀ (H : Heap) (locs : List Loc), va_P (dC, dI) ct_cl [(p0, .inr (2, [.ref z0, .ref p1, .ref p2, .ref p3, .ref p4, .ref p5])), (p1, .inl (cI, 64, .inl g)), (o1, .inl (cI, 6, .inl fo))] H → va_D A [(p0, .inr (2, [.ref z0, .ref p1, .ref p2, .ref p3, .ref p4, .ref p5])), (p1, .inl (cI, 64, .inl g)), (o1, .inl (cI, 6, .inl fo))] → va_S A s.heap H locs → ∀ (ls : Array Slot), lv_has ls 6 [(0, .ref p0), (1, .ref o1), (2, .int (nI K)), (3, .int (nI o)), (4, .int (nI (2 ^ o))), (5, .int (nI j))] → W p l e (headSpec w_P_noteLabels ({ frames := 0, cells := 0, slots := 0, locals := 0 } : Room)).room s m args below meth c H locs 0 0 (MQ below (va_Qv (fun (u : Nat → Int32) => ∀ S, S < 2 ^ K → u S = nI (ct_has la S K)) (fun (u : Nat → Int32) t => ct_at (dC, dI) ct_cl [(cI, .int)] (A) [(p0, .inr (2, [.ref z0, .ref p1, .ref p2, .ref p3, .ref p4, .ref p5])), (p1, .inl (cI, 64, .inl u)), (o1, .inl (cI, 6, .inl fo))] t) (A)) args s 0 0 A) (F0 m 15 ls []) := by
        intro n2
        induction n2 with
        | zero =>
          intro j hj g hg H locs hP hD hS ls hl
          refine lv_iload hx hb d_P_noteLabels_15 (lv_at hl 5 rfl) ?_
          refine lv_iload hx hb d_P_noteLabels_17 (lv_at hl 4 rfl) ?_
          refine lv_icmp_ge (tgt := 49) hx hb d_P_noteLabels_19 (by decide) (fun _ => ?_) (fun hc9 => absurd (nI_le (by omega) (by omega)) hc9)
          refine lv_iinc (v := (nI (o + 1))) (lv' := [(3, .int (nI (o + 1))), (0, .ref p0), (1, .ref o1), (2, .int (nI K)), (4, .int (nI (2 ^ o))), (5, .int (nI j))]) hx hb d_P_noteLabels_49 hl (k := 3) rfl (nI_1 _) (by decide) rfl (fun ls hl => ?_)
          refine lv_goto (tgt := 2) hx hb d_P_noteLabels_52 (by decide) ?_
          exact ih (o + 1) (by omega) g (fun S h9 => hg S (by rw [Nat.pow_succ] at h9; omega)) H locs hP hD hS ls (lv_sub hl [1, 2, 3, 0] rfl)
        | succ n2 ih2 =>
          intro j hj g hg H locs hP hD hS ls hl
          refine lv_iload hx hb d_P_noteLabels_15 (lv_at hl 5 rfl) ?_
          refine lv_iload hx hb d_P_noteLabels_17 (lv_at hl 4 rfl) ?_
          refine lv_icmp_ge (tgt := 49) hx hb d_P_noteLabels_19 (by decide) (fun hc9 => absurd hc9 (nI_ge (by omega) (by omega))) (fun _ => ?_)
          refine lv_aload_n hx hb d_P_noteLabels_22 rfl (lv_at hl 0 rfl) ?_
          refine va_get (D := (dC, dI)) (ci := 2) (v := .ref p1) (C := R_P) (T := T_P) (N := 6) hx hb hts (fun w h9 => ct_tl (ki_P w h9)) hown hK hP 0 rfl rfl 1 (by decide) (hts _ (ct_tl kw_68)) (fun _ h9 => h9) rfl d_P_noteLabels_23 ?_
          refine lv_iload hx hb d_P_noteLabels_26 (lv_at hl 4 rfl) ?_
          refine lv_iload hx hb d_P_noteLabels_28 (lv_at hl 5 rfl) ?_
          refine lv_ior hx hb d_P_noteLabels_30 ?_
          refine ct_val (y := nI (2 ^ o + j)) (by rw [ct_or, ct_bitor o (by omega) j (by omega) (by omega)]) ?_
          refine lv_aload_n hx hb d_P_noteLabels_31 rfl (lv_at hl 1 rfl) ?_
          refine lv_iload_n hx hb d_P_noteLabels_32 rfl (lv_at hl 3 rfl) ?_
          refine ct_iald hx hb hK hP 2 0 rfl rfl (j := o) (by omega) (by omega) d_P_noteLabels_33 ?_
          refine ct_val (y := nI (la o)) (hfo o (by omega)) ?_
          refine lv_aload_n hx hb d_P_noteLabels_34 rfl (lv_at hl 0 rfl) ?_
          refine va_get (D := (dC, dI)) (ci := 2) (v := .ref p1) (C := R_P) (T := T_P) (N := 6) hx hb hts (fun w h9 => ct_tl (ki_P w h9)) hown hK hP 0 rfl rfl 1 (by decide) (hts _ (ct_tl kw_68)) (fun _ h9 => h9) rfl d_P_noteLabels_35 ?_
          refine lv_iload hx hb d_P_noteLabels_38 (lv_at hl 5 rfl) ?_
          refine ct_iald hx hb hK hP 1 0 rfl rfl (j := j) (by omega) (by omega) d_P_noteLabels_40 ?_
          refine ct_val (y := nI (ct_has la j o)) (by rw [hg j (by omega), ct_has_out (Nat.testBit_lt_two_pow (by omega))]) ?_
          refine lv_ior hx hb d_P_noteLabels_41 ?_
          refine ct_val (y := nI (ct_has la (2 ^ o + j) (o + 1))) (by rw [ct_or, Nat.or_comm, ct_has_new (by omega) (by omega)]) ?_
          refine ct_iast hx hb hK hP hD hS 1 0 rfl rfl (j := 2 ^ o + j) (by omega) (by omega) d_P_noteLabels_42 (fun H locs hP hD hS => ?_)
          have hP : va_P (dC, dI) ct_cl [(p0, .inr (2, [.ref z0, .ref p1, .ref p2, .ref p3, .ref p4, .ref p5])), (p1, .inl (cI, 64, .inl (upd g (2 ^ o + j) (nI (ct_has la (2 ^ o + j) (o + 1)))))), (o1, .inl (cI, 6, .inl fo))] H := hP
          have hD : va_D A [(p0, .inr (2, [.ref z0, .ref p1, .ref p2, .ref p3, .ref p4, .ref p5])), (p1, .inl (cI, 64, .inl (upd g (2 ^ o + j) (nI (ct_has la (2 ^ o + j) (o + 1)))))), (o1, .inl (cI, 6, .inl fo))] := hD
          refine lv_iinc (v := (nI (j + 1))) (lv' := [(5, .int (nI (j + 1))), (0, .ref p0), (1, .ref o1), (2, .int (nI K)), (3, .int (nI o)), (4, .int (nI (2 ^ o)))]) hx hb d_P_noteLabels_43 hl (k := 5) rfl (nI_1 _) (by decide) rfl (fun ls hl => ?_)
          refine lv_goto (tgt := 15) hx hb d_P_noteLabels_46 (by decide) ?_
          refine ih2 (j + 1) (by omega) _ (fun S h9 => ?_) H locs hP hD hS ls (lv_sub hl [1, 2, 3, 4, 5, 0] rfl)
          by_cases h8 : S = 2 ^ o + j
          · rw [h8]; exact pk_us
          · rw [pk_un h8]; exact hg S (by omega)
      refine lv_iconst (v := (nI 1)) hx hb d_P_noteLabels_7 (by decide) ?_
      refine lv_iload_n hx hb d_P_noteLabels_8 rfl (lv_at hl 3 rfl) ?_
      refine lv_ishl hx hb d_P_noteLabels_9 ?_
      refine ct_val (y := nI (2 ^ o)) ((ct_shl 1 (by omega) (by omega)).trans (by rw [Nat.one_mul])) ?_
      refine lv_istore (lv' := [(4, .int (nI (2 ^ o))), (0, .ref p0), (1, .ref o1), (2, .int (nI K)), (3, .int (nI o))]) hx hb d_P_noteLabels_10 hl (by decide) rfl (fun ls hl => ?_)
      refine lv_iconst (v := (nI 0)) hx hb d_P_noteLabels_12 (by decide) ?_
      refine lv_istore (lv' := [(5, .int (nI 0)), (4, .int (nI (2 ^ o))), (0, .ref p0), (1, .ref o1), (2, .int (nI K)), (3, .int (nI o))]) hx hb d_P_noteLabels_13 hl (by decide) rfl (fun ls hl => ?_)
      exact inner (2 ^ o) 0 (by omega) g (fun S h9 => by rw [hg S (by omega), ct_has_out (Nat.testBit_lt_two_pow (by omega))]) H locs hP hD hS ls (lv_sub hl [2, 3, 4, 5, 1, 0] rfl)
  refine lv_iconst (v := (nI 0)) hx hb d_P_noteLabels_0 (by decide) ?_
  refine lv_istore_n (lv' := [(3, .int (nI 0)), (0, .ref p0), (1, .ref o1), (2, .int (nI K))]) hx hb d_P_noteLabels_1 rfl hl (by decide) rfl (fun ls hl => ?_)
  exact loop K 0 (by omega) fh (fun S h9 => by rw [show S = 0 by omega]; exact hf0) s.heap [] hP hD hS ls (lv_sub hl [1, 2, 3, 0] rfl)
theorem ct_co_lt : ∀ K, K < 7 → ∀ S, S < 64 → S < 2 ^ K → ct_co K S < 2 ^ K := by decide +kernel
set_option maxHeartbeats 4000000 in
set_option maxRecDepth 100000 in
theorem c_P_noteLeaves (l : Launch) (dC : Nat → ClassId) (dI : Nat → Nat → Nat) (cI : ClassId) (z0 p0 p1 p2 p3 p4 p5 : Nat) (fh fl : Nat → Int32) (la : Nat → Nat) (K R S : Nat) (hK6 : K ≤ 6) (hS0 : 0 < S) (hSK : S < 2 ^ K) (hfh : ∀ T, T < 2 ^ K → fh T = nI (ct_has la T K)) (sz0 : Nat) : Met l y_P_noteLeaves w_P_noteLeaves ({ frames := 1, cells := 0, slots := 0, locals := 20 }) (va_Pc [.ref p0, .int (nI S), .int (nI (2 ^ K - 1)), .int (nI R)] (ct_rw (dC, dI) ct_cl [(p0, .inr (2, [.ref z0, .ref p1, .ref p2, .ref p3, .ref p4, .ref p5])), (p1, .inl (cI, 64, .inl fh)), (p2, .inl (cI, 64, .inl fl))] [(cI, .int)] sz0)) (va_Qv (fun (u : Unit) => True) (fun (u : Unit) t => ct_at (dC, dI) ct_cl [(cI, .int)] (va_A [(p0, .inr (2, [.ref z0, .ref p1, .ref p2, .ref p3, .ref p4, .ref p5])), (p1, .inl (cI, 64, .inl fh)), (p2, .inl (cI, 64, .inl fl))] sz0) [(p0, .inr (2, [.ref z0, .ref p1, .ref p2, .ref p3, .ref p4, .ref p5])), (p1, .inl (cI, 64, .inl fh)), (p2, .inl (cI, 64, .inl (upd fl S (nI (ct_lv la K R S)))))] t) (va_A [(p0, .inr (2, [.ref z0, .ref p1, .ref p2, .ref p3, .ref p4, .ref p5])), (p1, .inl (cI, 64, .inl fh)), (p2, .inl (cI, 64, .inl fl))] sz0)) 0 0 (va_A [(p0, .inr (2, [.ref z0, .ref p1, .ref p2, .ref p3, .ref p4, .ref p5])), (p1, .inl (cI, 64, .inl fh)), (p2, .inl (cI, 64, .inl fl))] sz0) := by
  refine Met.ofW (cc := b_P_noteLeaves) (maxL := 4) (ret := none) (by decide) rfl ?_
  intro p e s m args below meth c s₁ Bd hml hv
  obtain ⟨hargs, hsz, hP, hK, hD0⟩ := hv
  have hx := Bd.exec
  have hb := Bd.bytes
  have hr := Bd.returns
  have hts : ∀ w ∈ k_P_noteLeaves :: ct_tb, w.before args s = true := atoms_spec (ws := w_P_noteLeaves) Bd.pre
  have hown : s.vm.findClass R_P = some m.cls := findClass_of_methodNamed Bd.named
  have hlocks := Bd.notSynchronized
  subst hsz
  have hD := hD0.self (sz := s.heap.size)
  generalize hAe : va_A [(p0, .inr (2, [.ref z0, .ref p1, .ref p2, .ref p3, .ref p4, .ref p5])), (p1, .inl (cI, 64, .inl fh)), (p2, .inl (cI, 64, .inl fl))] s.heap.size = A at hD ⊢
  have hA : ∀ q : Nat, s.heap.size ≤ q → A q := fun q h => by rw [← hAe]; exact Or.inr h
  have hS : va_S A s.heap s.heap [] := va_S.rf
  have hl := lv_entry ([.ref p0, .int (nI S), .int (nI (2 ^ K - 1)), .int (nI R)]) (n := 4) (Nat.le_of_ble_eq_true rfl)
  rw [show entryFrame m args 4 = entryFrame m (([.ref p0, .int (nI S), .int (nI (2 ^ K - 1)), .int (nI R)] : List Value)).toArray 4 by rw [hargs], lg_entry_eq]
  generalize (lg_sl ([.ref p0, .int (nI S), .int (nI (2 ^ K - 1)), .int (nI R)]) ++ List.replicate (4 - (lg_sl ([.ref p0, .int (nI S), .int (nI (2 ^ K - 1)), .int (nI R)])).length) Slot.unset).toArray = ls at hl ⊢
  have hl : lv_has ls 4 [(0, .ref p0), (1, .int (nI S)), (2, .int (nI (2 ^ K - 1))), (3, .int (nI R))] := hl
  have h2K := ct_2K K (by omega)
  have hco := ct_co_lt K (by omega) S (by omega) hSK
  refine lv_aload_n hx hb d_P_noteLeaves_0 rfl (lv_at hl 0 rfl) ?_
  refine va_get (D := (dC, dI)) (ci := 2) (v := .ref p2) (C := R_P) (T := T_P) (N := 6) hx hb hts (fun w h9 => ct_tl (ki_P w h9)) hown hK hP 0 rfl rfl 2 (by decide) (hts _ (ct_tl kw_69)) (fun _ h9 => h9) rfl d_P_noteLeaves_1 ?_
  refine lv_iload_n hx hb d_P_noteLeaves_4 rfl (lv_at hl 1 rfl) ?_
  refine lv_iload_n hx hb d_P_noteLeaves_5 rfl (lv_at hl 1 rfl) ?_
  refine va_calli (va_runS (As := [.int (nI S)]) (rest := [.int (nI S), .ref p2]) ⟨hx, hb, hml, hown, hts⟩ (c_P_isSeveral l dC dI cI S (by omega) hS0) (va_cwS 1 hts (ct_giT (fun w h9 => ct_tl h9) kw_179 kw_180 kw_28 kw_181) rfl rfl rfl (by decide +kernel) ⟨Nat.le_of_ble_eq_true rfl, Nat.le_of_ble_eq_true rfl⟩) ⟨ct_ro_blind, ct_ro_pre (hP.sub [] rfl) hK⟩ rfl rfl hl.1 rfl (lv_room (Nat.le_of_ble_eq_true rfl)) d_P_noteLeaves_6 ⟨Nat.le_of_ble_eq_true rfl, Nat.le_of_ble_eq_true rfl⟩) hS (fun q _ h9 => h9.elim) (fun q h9 => h9.elim) (fun ans1 uS tS H locs ht hvm hwans1 hB hz1 hk1 hS => ?_)
  have hP := ct_keep hP hk1
  refine ct_val (y := nI (if ct_sev S = true then 1 else 0)) (hwans1) ?_
  by_cases hs : ct_sev S = true
  · rw [if_pos hs]
    refine lv_if_eq (tgt := 32) hx hb d_P_noteLeaves_9 (by decide) (fun hc9 => absurd hc9 (nI_ne0 (by omega) (by omega))) (fun _ => ?_)
    refine lv_aload_n hx hb d_P_noteLeaves_12 rfl (lv_at hl 0 rfl) ?_
    refine va_get (D := (dC, dI)) (ci := 2) (v := .ref p1) (C := R_P) (T := T_P) (N := 6) hx hb hts (fun w h9 => ct_tl (ki_P w h9)) hown hK hP 0 rfl rfl 1 (by decide) (hts _ (ct_tl kw_68)) (fun _ h9 => h9) rfl d_P_noteLeaves_13 ?_
    refine lv_iload_n hx hb d_P_noteLeaves_16 rfl (lv_at hl 1 rfl) ?_
    refine ct_iald hx hb hK hP 1 0 rfl rfl (j := S) (by omega) (by omega) d_P_noteLeaves_17 ?_
    refine ct_val (y := nI (ct_has la S K)) (hfh S hSK) ?_
    refine lv_iload_n hx hb d_P_noteLeaves_18 rfl (lv_at hl 3 rfl) ?_
    refine lv_aload_n hx hb d_P_noteLeaves_19 rfl (lv_at hl 0 rfl) ?_
    refine va_get (D := (dC, dI)) (ci := 2) (v := .ref p1) (C := R_P) (T := T_P) (N := 6) hx hb hts (fun w h9 => ct_tl (ki_P w h9)) hown hK hP 0 rfl rfl 1 (by decide) (hts _ (ct_tl kw_68)) (fun _ h9 => h9) rfl d_P_noteLeaves_20 ?_
    refine lv_iload_n hx hb d_P_noteLeaves_23 rfl (lv_at hl 2 rfl) ?_
    refine lv_iload_n hx hb d_P_noteLeaves_24 rfl (lv_at hl 1 rfl) ?_
    refine lv_ixor hx hb d_P_noteLeaves_25 ?_
    refine ct_val (y := nI (ct_co K S)) (by rw [ct_xor]; rfl) ?_
    refine ct_iald hx hb hK hP 1 0 rfl rfl (j := ct_co K S) (by omega) (by omega) d_P_noteLeaves_26 ?_
    refine ct_val (y := nI (ct_has la (ct_co K S) K)) (hfh _ hco) ?_
    refine lv_ior hx hb d_P_noteLeaves_27 ?_
    refine ct_val (y := nI (R ||| ct_has la (ct_co K S) K)) (ct_or _ _) ?_
    refine lv_iand hx hb d_P_noteLeaves_28 ?_
    refine ct_val (y := nI (ct_lv la K R S)) (by rw [ct_and, ct_lv, if_pos hs]) ?_
    refine lv_goto (tgt := 38) hx hb d_P_noteLeaves_29 (by decide) ?_
    refine ct_iast hx hb hK hP hD hS 2 0 rfl rfl (j := S) (by omega) (by omega) d_P_noteLeaves_38 (fun H locs hP hD hS => ?_)
    have hP : va_P (dC, dI) ct_cl [(p0, .inr (2, [.ref z0, .ref p1, .ref p2, .ref p3, .ref p4, .ref p5])), (p1, .inl (cI, 64, .inl fh)), (p2, .inl (cI, 64, .inl (upd fl S (nI (ct_lv la K R S)))))] H := hP
    have hD : va_D A [(p0, .inr (2, [.ref z0, .ref p1, .ref p2, .ref p3, .ref p4, .ref p5])), (p1, .inl (cI, 64, .inl fh)), (p2, .inl (cI, 64, .inl (upd fl S (nI (ct_lv la K R S)))))] := hD
    have hP9 := hP.sub [0, 1, 2] rfl
    exact W.vret hx hb hr (fun tS ht hW => ⟨⟨(), rfl, trivial, by rw [ht]; exact hP9, va_K.moved hW.alike hK, hD.sub [0, 1, 2] (by decide) rfl⟩, hS.F ht⟩) hS.2.2 d_P_noteLeaves_39
  · rw [if_neg hs]
    refine lv_if_eq (tgt := 32) hx hb d_P_noteLeaves_9 (by decide) (fun _ => ?_) (fun hc9 => absurd (nI_0) hc9)
    refine lv_aload_n hx hb d_P_noteLeaves_32 rfl (lv_at hl 0 rfl) ?_
    refine va_get (D := (dC, dI)) (ci := 2) (v := .ref p1) (C := R_P) (T := T_P) (N := 6) hx hb hts (fun w h9 => ct_tl (ki_P w h9)) hown hK hP 0 rfl rfl 1 (by decide) (hts _ (ct_tl kw_68)) (fun _ h9 => h9) rfl d_P_noteLeaves_33 ?_
    refine lv_iload_n hx hb d_P_noteLeaves_36 rfl (lv_at hl 1 rfl) ?_
    refine ct_iald hx hb hK hP 1 0 rfl rfl (j := S) (by omega) (by omega) d_P_noteLeaves_37 ?_
    refine ct_val (y := nI (ct_lv la K R S)) (by rw [hfh S hSK, ct_lv, if_neg hs]) ?_
    refine ct_iast hx hb hK hP hD hS 2 0 rfl rfl (j := S) (by omega) (by omega) d_P_noteLeaves_38 (fun H locs hP hD hS => ?_)
    have hP : va_P (dC, dI) ct_cl [(p0, .inr (2, [.ref z0, .ref p1, .ref p2, .ref p3, .ref p4, .ref p5])), (p1, .inl (cI, 64, .inl fh)), (p2, .inl (cI, 64, .inl (upd fl S (nI (ct_lv la K R S)))))] H := hP
    have hD : va_D A [(p0, .inr (2, [.ref z0, .ref p1, .ref p2, .ref p3, .ref p4, .ref p5])), (p1, .inl (cI, 64, .inl fh)), (p2, .inl (cI, 64, .inl (upd fl S (nI (ct_lv la K R S)))))] := hD
    have hP9 := hP.sub [0, 1, 2] rfl
    exact W.vret hx hb hr (fun tS ht hW => ⟨⟨(), rfl, trivial, by rw [ht]; exact hP9, va_K.moved hW.alike hK, hD.sub [0, 1, 2] (by decide) rfl⟩, hS.F ht⟩) hS.2.2 d_P_noteLeaves_39
theorem ct_or64 : ∀ S, S < 64 → ∀ a, a < 64 → a ||| S < 64 := by decide +kernel
theorem ct_and64 : ∀ S, S < 64 → ∀ a, a < 64 → a &&& S < 64 := by decide +kernel
theorem ct_low64 : ∀ S, S < 64 → ct_low S < 64 := by decide +kernel
theorem ct_sev0 {S : Nat} (h : ct_sev S = true) : 0 < S := by
  rcases Nat.eq_zero_or_pos S with h9 | h9
  · rw [h9] at h; exact absurd h (by decide)
  · exact h9
theorem ct_pt_1 {S a : Nat} (h : ct_pt S a = true) : a &&& S = a ∧ a &&& ct_low S ≠ 0 := by
  simpa [ct_pt] using h
theorem ct_pt_2 {S a : Nat} (h1 : a &&& S = a) (h2 : a &&& ct_low S ≠ 0) : ct_pt S a = true := by
  simp [ct_pt, h1, h2]
set_option maxHeartbeats 4000000 in
set_option maxRecDepth 100000 in
theorem c_P_choosePart (l : Launch) (dC : Nat → ClassId) (dI : Nat → Nat → Nat) (cI : ClassId) (z1 : Nat) (sz : Nat → Nat) (z0 p0 p1 p2 p3 p4 p5 : Nat) (fl fc fp : Nat → Int32) (lv cs cost : Nat → Nat) (S : Nat) (hS6 : S < 64) (hs : ct_sev S = true) (hfl : ∀ a, 0 < a → a ≤ S → fl a = nI (lv a)) (hfc : ∀ a, 0 < a → a < S → fc a = nI (cs a)) (hlv : ∀ a, lv a < 256) (hcost : ∀ a, a < S → ct_pt S a = true → cost a = cs a + cs (S ^^^ a) + ct_pr sz (lv a ||| lv (S ^^^ a)).testBit 8) (hcb : ∀ a, a < S → ct_pt S a = true → cost a < 2 ^ 31) (sz0 : Nat) : Met l y_P_choosePart w_P_choosePart ({ frames := 2, cells := 0, slots := 0, locals := 45 }) (va_Pc [.ref p0, .int (nI S)] (ct_rw (dC, dI) ct_cl [(p0, .inr (2, [.ref z0, .ref p1, .ref p2, .ref p3, .ref p4, .ref p5])), (p2, .inl (cI, 64, .inl fl)), (p3, .inl (cI, 64, .inl fc)), (p4, .inl (cI, 64, .inl fp)), (z0, .inr (1, [.ref z1])), (z1, .inl (cI, 8, .inl (fun j => nI (sz j))))] [(cI, .int)] sz0)) (va_Qv (fun (u : Unit) => True) (fun (u : Unit) t => ct_at (dC, dI) ct_cl [(cI, .int)] (va_A [(p0, .inr (2, [.ref z0, .ref p1, .ref p2, .ref p3, .ref p4, .ref p5])), (p2, .inl (cI, 64, .inl fl)), (p3, .inl (cI, 64, .inl fc)), (p4, .inl (cI, 64, .inl fp)), (z0, .inr (1, [.ref z1])), (z1, .inl (cI, 8, .inl (fun j => nI (sz j))))] sz0) [(p0, .inr (2, [.ref z0, .ref p1, .ref p2, .ref p3, .ref p4, .ref p5])), (p2, .inl (cI, 64, .inl fl)), (p3, .inl (cI, 64, .inl (upd fc S (nI (ct_sc cost S S).1)))), (p4, .inl (cI, 64, .inl (upd fp S (nI (ct_sc cost S S).2)))), (z0, .inr (1, [.ref z1])), (z1, .inl (cI, 8, .inl (fun j => nI (sz j))))] t) (va_A [(p0, .inr (2, [.ref z0, .ref p1, .ref p2, .ref p3, .ref p4, .ref p5])), (p2, .inl (cI, 64, .inl fl)), (p3, .inl (cI, 64, .inl fc)), (p4, .inl (cI, 64, .inl fp)), (z0, .inr (1, [.ref z1])), (z1, .inl (cI, 8, .inl (fun j => nI (sz j))))] sz0)) 0 0 (va_A [(p0, .inr (2, [.ref z0, .ref p1, .ref p2, .ref p3, .ref p4, .ref p5])), (p2, .inl (cI, 64, .inl fl)), (p3, .inl (cI, 64, .inl fc)), (p4, .inl (cI, 64, .inl fp)), (z0, .inr (1, [.ref z1])), (z1, .inl (cI, 8, .inl (fun j => nI (sz j))))] sz0) := by
  refine Met.ofW (cc := b_P_choosePart) (maxL := 8) (ret := none) (by decide) rfl ?_
  intro p e s m args below meth c s₁ Bd hml hv
  obtain ⟨hargs, hsz, hP, hK, hD0⟩ := hv
  have hx := Bd.exec
  have hb := Bd.bytes
  have hr := Bd.returns
  have hts : ∀ w ∈ k_P_choosePart :: ct_tb, w.before args s = true := atoms_spec (ws := w_P_choosePart) Bd.pre
  have hown : s.vm.findClass R_P = some m.cls := findClass_of_methodNamed Bd.named
  have hlocks := Bd.notSynchronized
  subst hsz
  have hD := hD0.self (sz := s.heap.size)
  generalize hAe : va_A [(p0, .inr (2, [.ref z0, .ref p1, .ref p2, .ref p3, .ref p4, .ref p5])), (p2, .inl (cI, 64, .inl fl)), (p3, .inl (cI, 64, .inl fc)), (p4, .inl (cI, 64, .inl fp)), (z0, .inr (1, [.ref z1])), (z1, .inl (cI, 8, .inl (fun j => nI (sz j))))] s.heap.size = A at hD ⊢
  have hA : ∀ q : Nat, s.heap.size ≤ q → A q := fun q h => by rw [← hAe]; exact Or.inr h
  have hS : va_S A s.heap s.heap [] := va_S.rf
  have hl := lv_entry ([.ref p0, .int (nI S)]) (n := 8) (Nat.le_of_ble_eq_true rfl)
  rw [show entryFrame m args 8 = entryFrame m (([.ref p0, .int (nI S)] : List Value)).toArray 8 by rw [hargs], lg_entry_eq]
  generalize (lg_sl ([.ref p0, .int (nI S)]) ++ List.replicate (8 - (lg_sl ([.ref p0, .int (nI S)])).length) Slot.unset).toArray = ls at hl ⊢
  have hl : lv_has ls 8 [(0, .ref p0), (1, .int (nI S))] := hl
  have hS0 := ct_sev0 hs
  have hlow := ct_low_sev S hS6 hs
  have hlow0 := ct_low_pos S hS6 hS0
  have hscb : ∀ n, n ≤ S → (ct_sc cost S n).1 < 2 ^ 31 ∧ (ct_sc cost S n).2 < 64 := fun n hn => by
      rcases ct_sc_is (cost := cost) (S := S) n with h9 | ⟨h7, h8, h9⟩
      · rw [h9]; exact ⟨by omega, by omega⟩
      · rw [h9]; exact ⟨hcb _ (by omega) h8, by omega⟩
  have loop : ∀ (n a : Nat), a + n = S → ct_low S ≤ a → ∀ (H : Heap) (locs : List Loc), va_P (dC, dI) ct_cl [(p0, .inr (2, [.ref z0, .ref p1, .ref p2, .ref p3, .ref p4, .ref p5])), (p2, .inl (cI, 64, .inl fl)), (p3, .inl (cI, 64, .inl fc)), (p4, .inl (cI, 64, .inl fp)), (z0, .inr (1, [.ref z1])), (z1, .inl (cI, 8, .inl (fun j => nI (sz j))))] H → va_D A [(p0, .inr (2, [.ref z0, .ref p1, .ref p2, .ref p3, .ref p4, .ref p5])), (p2, .inl (cI, 64, .inl fl)), (p3, .inl (cI, 64, .inl fc)), (p4, .inl (cI, 64, .inl fp)), (z0, .inr (1, [.ref z1])), (z1, .inl (cI, 8, .inl (fun j => nI (sz j))))] → va_S A s.heap H locs → ∀ (ls : Array Slot), lv_has ls 8 [(0, .ref p0), (1, .int (nI S)), (2, .int (nI (ct_low S))), (3, .int (nI (ct_sc cost S a).2)), (4, .int (nI (ct_sc cost S a).1)), (5, .int (nI a))] → W p l e (headSpec w_P_choosePart ({ frames := 2, cells := 0, slots := 0, locals := 45 } : Room)).room s m args below meth c H locs 0 0 (MQ below (va_Qv (fun (u : Unit) => True) (fun (u : Unit) t => ct_at (dC, dI) ct_cl [(cI, .int)] (A) [(p0, .inr (2, [.ref z0, .ref p1, .ref p2, .ref p3, .ref p4, .ref p5])), (p2, .inl (cI, 64, .inl fl)), (p3, .inl (cI, 64, .inl (upd fc S (nI (ct_sc cost S S).1)))), (p4, .inl (cI, 64, .inl (upd fp S (nI (ct_sc cost S S).2)))), (z0, .inr (1, [.ref z1])), (z1, .inl (cI, 8, .inl (fun j => nI (sz j))))] t) (A)) args s 0 0 A) (F0 m 13 ls []) := by
    intro n
    induction n with
    | zero =>
      intro a ha hla H locs hP hD hS ls hl
      have haS : a = S := by omega
      rw [haS] at hl
      refine lv_iload hx hb d_P_choosePart_13 (lv_at hl 5 rfl) ?_
      refine lv_iload_n hx hb d_P_choosePart_15 rfl (lv_at hl 1 rfl) ?_
      refine lv_icmp_ge (tgt := 90) hx hb d_P_choosePart_16 (by decide) (fun _ => ?_) (fun hc9 => absurd (nI_le (by omega) (by omega)) hc9)
      refine lv_aload_n hx hb d_P_choosePart_90 rfl (lv_at hl 0 rfl) ?_
      refine va_get (D := (dC, dI)) (ci := 2) (v := .ref p4) (C := R_P) (T := T_P) (N := 6) hx hb hts (fun w h9 => ct_tl (ki_P w h9)) hown hK hP 0 rfl rfl 4 (by decide) (hts _ (ct_tl kw_71)) (fun _ h9 => h9) rfl d_P_choosePart_91 ?_
      refine lv_iload_n hx hb d_P_choosePart_94 rfl (lv_at hl 1 rfl) ?_
      refine lv_iload_n hx hb d_P_choosePart_95 rfl (lv_at hl 3 rfl) ?_
      refine ct_iast hx hb hK hP hD hS 3 0 rfl rfl (j := S) (by omega) (by omega) d_P_choosePart_96 (fun H locs hP hD hS => ?_)
      have hP : va_P (dC, dI) ct_cl [(p0, .inr (2, [.ref z0, .ref p1, .ref p2, .ref p3, .ref p4, .ref p5])), (p2, .inl (cI, 64, .inl fl)), (p3, .inl (cI, 64, .inl fc)), (p4, .inl (cI, 64, .inl (upd fp S (nI (ct_sc cost S S).2)))), (z0, .inr (1, [.ref z1])), (z1, .inl (cI, 8, .inl (fun j => nI (sz j))))] H := hP
      have hD : va_D A [(p0, .inr (2, [.ref z0, .ref p1, .ref p2, .ref p3, .ref p4, .ref p5])), (p2, .inl (cI, 64, .inl fl)), (p3, .inl (cI, 64, .inl fc)), (p4, .inl (cI, 64, .inl (upd fp S (nI (ct_sc cost S S).2)))), (z0, .inr (1, [.ref z1])), (z1, .inl (cI, 8, .inl (fun j => nI (sz j))))] := hD
      refine lv_aload_n hx hb d_P_choosePart_97 rfl (lv_at hl 0 rfl) ?_
      refine va_get (D := (dC, dI)) (ci := 2) (v := .ref p3) (C := R_P) (T := T_P) (N := 6) hx hb hts (fun w h9 => ct_tl (ki_P w h9)) hown hK hP 0 rfl rfl 3 (by decide) (hts _ (ct_tl kw_70)) (fun _ h9 => h9) rfl d_P_choosePart_98 ?_
      refine lv_iload_n hx hb d_P_choosePart_101 rfl (lv_at hl 1 rfl) ?_
      refine lv_iload hx hb d_P_choosePart_102 (lv_at hl 4 rfl) ?_
      refine ct_iast hx hb hK hP hD hS 2 0 rfl rfl (j := S) (by omega) (by omega) d_P_choosePart_104 (fun H locs hP hD hS => ?_)
      have hP : va_P (dC, dI) ct_cl [(p0, .inr (2, [.ref z0, .ref p1, .ref p2, .ref p3, .ref p4, .ref p5])), (p2, .inl (cI, 64, .inl fl)), (p3, .inl (cI, 64, .inl (upd fc S (nI (ct_sc cost S S).1)))), (p4, .inl (cI, 64, .inl (upd fp S (nI (ct_sc cost S S).2)))), (z0, .inr (1, [.ref z1])), (z1, .inl (cI, 8, .inl (fun j => nI (sz j))))] H := hP
      have hD : va_D A [(p0, .inr (2, [.ref z0, .ref p1, .ref p2, .ref p3, .ref p4, .ref p5])), (p2, .inl (cI, 64, .inl fl)), (p3, .inl (cI, 64, .inl (upd fc S (nI (ct_sc cost S S).1)))), (p4, .inl (cI, 64, .inl (upd fp S (nI (ct_sc cost S S).2)))), (z0, .inr (1, [.ref z1])), (z1, .inl (cI, 8, .inl (fun j => nI (sz j))))] := hD
      have hP9 := hP.sub [0, 1, 2, 3, 4, 5] rfl
      exact W.vret hx hb hr (fun tS ht hW => ⟨⟨(), rfl, trivial, by rw [ht]; exact hP9, va_K.moved hW.alike hK, hD.sub [0, 1, 2, 3, 4, 5] (by decide) rfl⟩, hS.F ht⟩) hS.2.2 d_P_choosePart_105
    | succ n ih =>
      intro a ha hla H locs hP hD hS ls hl
      refine lv_iload hx hb d_P_choosePart_13 (lv_at hl 5 rfl) ?_
      refine lv_iload_n hx hb d_P_choosePart_15 rfl (lv_at hl 1 rfl) ?_
      refine lv_icmp_ge (tgt := 90) hx hb d_P_choosePart_16 (by decide) (fun hc9 => absurd hc9 (nI_ge (by omega) (by omega))) (fun _ => ?_)
      have hsb := hscb a (by omega)
      refine lv_iload hx hb d_P_choosePart_19 (lv_at hl 5 rfl) ?_
      refine lv_iload_n hx hb d_P_choosePart_21 rfl (lv_at hl 2 rfl) ?_
      refine lv_iand hx hb d_P_choosePart_22 ?_
      refine ct_val (y := nI (a &&& ct_low S)) (ct_and _ _) ?_
      have hal := ct_and64 (ct_low S) (ct_low64 S hS6) a (by omega)
      by_cases hp : ct_pt S a = true
      · have hp2 := ct_pt_1 hp
        have hpc := ct_pt_co S hS6 a (by omega) hp
        have ha0 := ct_pt_pos hp
        refine lv_if_eq (tgt := 84) hx hb d_P_choosePart_23 (by decide) (fun hc9 => absurd hc9 (nI_ne0 (by omega) (by omega))) (fun _ => ?_)
        refine lv_iload hx hb d_P_choosePart_26 (lv_at hl 5 rfl) ?_
        refine lv_iload_n hx hb d_P_choosePart_28 rfl (lv_at hl 1 rfl) ?_
        refine lv_ior hx hb d_P_choosePart_29 ?_
        refine ct_val (y := nI S) (by rw [ct_or, (ct_pt_or S hS6 a (by omega)).mpr hp2.1]) ?_
        refine lv_iload_n hx hb d_P_choosePart_30 rfl (lv_at hl 1 rfl) ?_
        refine lv_icmp_ne (tgt := 84) hx hb d_P_choosePart_31 (by decide) (fun hc9 => absurd (rfl) hc9) (fun _ => ?_)
        refine lv_iload_n hx hb d_P_choosePart_34 rfl (lv_at hl 1 rfl) ?_
        refine lv_iload hx hb d_P_choosePart_35 (lv_at hl 5 rfl) ?_
        refine lv_ixor hx hb d_P_choosePart_37 ?_
        refine ct_val (y := nI (S ^^^ a)) (ct_xor _ _) ?_
        refine lv_istore (lv' := [(6, .int (nI (S ^^^ a))), (0, .ref p0), (1, .int (nI S)), (2, .int (nI (ct_low S))), (3, .int (nI (ct_sc cost S a).2)), (4, .int (nI (ct_sc cost S a).1)), (5, .int (nI a))]) hx hb d_P_choosePart_38 hl (by decide) rfl (fun ls hl => ?_)
        refine lv_aload_n hx hb d_P_choosePart_40 rfl (lv_at hl 1 rfl) ?_
        refine va_get (D := (dC, dI)) (ci := 2) (v := .ref p3) (C := R_P) (T := T_P) (N := 6) hx hb hts (fun w h9 => ct_tl (ki_P w h9)) hown hK hP 0 rfl rfl 3 (by decide) (hts _ (ct_tl kw_70)) (fun _ h9 => h9) rfl d_P_choosePart_41 ?_
        refine lv_iload hx hb d_P_choosePart_44 (lv_at hl 6 rfl) ?_
        refine ct_iald hx hb hK hP 2 0 rfl rfl (j := a) (by omega) (by omega) d_P_choosePart_46 ?_
        refine ct_val (y := nI (cs a)) (hfc a ha0 (by omega)) ?_
        refine lv_aload_n hx hb d_P_choosePart_47 rfl (lv_at hl 1 rfl) ?_
        refine va_get (D := (dC, dI)) (ci := 2) (v := .ref p3) (C := R_P) (T := T_P) (N := 6) hx hb hts (fun w h9 => ct_tl (ki_P w h9)) hown hK hP 0 rfl rfl 3 (by decide) (hts _ (ct_tl kw_70)) (fun _ h9 => h9) rfl d_P_choosePart_48 ?_
        refine lv_iload hx hb d_P_choosePart_51 (lv_at hl 0 rfl) ?_
        refine ct_iald hx hb hK hP 2 0 rfl rfl (j := S ^^^ a) (by omega) (by omega) d_P_choosePart_53 ?_
        refine ct_val (y := nI (cs (S ^^^ a))) (hfc _ hpc.1 hpc.2.1) ?_
        refine lv_iadd hx hb d_P_choosePart_54 ?_
        refine ct_val (y := nI (cs a + cs (S ^^^ a))) (nI_add _ _) ?_
        refine lv_aload_n hx hb d_P_choosePart_55 rfl (lv_at hl 1 rfl) ?_
        refine lv_iload hx hb d_P_choosePart_56 (lv_at hl 6 rfl) ?_
        refine lv_iload hx hb d_P_choosePart_58 (lv_at hl 0 rfl) ?_
        refine va_calli (va_runV (As := [.int (nI a), .int (nI (S ^^^ a))]) (rest := [.int (nI (cs a + cs (S ^^^ a)))]) ⟨hx, hb, hml, hown, hts⟩ (c_P_joinCost l dC dI cI z1 sz z0 p0 p1 p2 p3 p4 p5 fl a (S ^^^ a) (lv a) (lv (S ^^^ a)) (by omega) (by omega) (hfl a ha0 (by omega)) (hfl _ hpc.1 (by omega)) (Nat.lt_trans (Nat.or_lt_two_pow (n := 8) (hlv _) (hlv _)) (by omega))) (cwV 2 hts (ct_giV (fun w h9 => ct_tl h9) kw_186 kw_187 kw_188 kw_28 kw_189) rfl rfl rfl (by decide +kernel) ⟨Nat.le_of_ble_eq_true rfl, Nat.le_of_ble_eq_true rfl⟩) ⟨ct_ro_blind, va_recv hK hP (ci := 2) (q0 := 0) rfl rfl, ct_ro_pre (hP.sub [0, 1, 4, 5] rfl) hK⟩ rfl rfl hl.1 rfl (lv_room (Nat.le_of_ble_eq_true rfl)) d_P_choosePart_60 ⟨Nat.le_of_ble_eq_true rfl, Nat.le_of_ble_eq_true rfl⟩) hS (fun q _ h9 => h9.elim) (fun q h9 => h9.elim) (fun ans101 uS tS H locs ht hvm hwans101 hB hz1 hk1 hS => ?_)
        have hP := ct_keep hP hk1
        refine ct_val (y := nI (ct_pr sz (lv a ||| lv (S ^^^ a)).testBit 8)) (hwans101) ?_
        have hca := hcb a (by omega) hp
        refine lv_iadd hx hb d_P_choosePart_63 ?_
        refine ct_val (y := nI (cost a)) (by rw [nI_add, hcost a (by omega) hp]) ?_
        refine lv_istore (lv' := [(7, .int (nI (cost a))), (6, .int (nI (S ^^^ a))), (0, .ref p0), (1, .int (nI S)), (2, .int (nI (ct_low S))), (3, .int (nI (ct_sc cost S a).2)), (4, .int (nI (ct_sc cost S a).1)), (5, .int (nI a))]) hx hb d_P_choosePart_64 hl (by decide) rfl (fun ls hl => ?_)
        refine lv_iload_n hx hb d_P_choosePart_66 rfl (lv_at hl 5 rfl) ?_
        by_cases h3 : (ct_sc cost S a).2 = 0
        · refine lv_if_eq (tgt := 77) hx hb d_P_choosePart_67 (by decide) (fun _ => ?_) (fun hc9 => absurd (by rw [h3]; exact nI_0) hc9)
          refine lv_iload hx hb d_P_choosePart_77 (lv_at hl 7 rfl) ?_
          refine lv_istore_n (lv' := [(3, .int (nI a)), (7, .int (nI (cost a))), (6, .int (nI (S ^^^ a))), (0, .ref p0), (1, .int (nI S)), (2, .int (nI (ct_low S))), (4, .int (nI (ct_sc cost S a).1)), (5, .int (nI a))]) hx hb d_P_choosePart_79 rfl hl (by decide) rfl (fun ls hl => ?_)
          refine lv_iload hx hb d_P_choosePart_80 (lv_at hl 1 rfl) ?_
          refine lv_istore (lv' := [(4, .int (nI (cost a))), (3, .int (nI a)), (7, .int (nI (cost a))), (6, .int (nI (S ^^^ a))), (0, .ref p0), (1, .int (nI S)), (2, .int (nI (ct_low S))), (5, .int (nI a))]) hx hb d_P_choosePart_82 hl (by decide) rfl (fun ls hl => ?_)
          refine lv_iinc (v := (nI (a + 1))) (lv' := [(5, .int (nI (a + 1))), (4, .int (nI (cost a))), (3, .int (nI a)), (7, .int (nI (cost a))), (6, .int (nI (S ^^^ a))), (0, .ref p0), (1, .int (nI S)), (2, .int (nI (ct_low S)))]) hx hb d_P_choosePart_84 hl (k := 7) rfl (nI_1 _) (by decide) rfl (fun ls hl => ?_)
          refine lv_goto (tgt := 13) hx hb d_P_choosePart_87 (by decide) ?_
          exact ih (a + 1) (by omega) (by omega) H locs hP hD hS ls (by rw [ct_sc_yes hp (Or.inl h3)]; exact lv_sub hl [5, 6, 7, 2, 1, 0] rfl)
        · refine lv_if_eq (tgt := 77) hx hb d_P_choosePart_67 (by decide) (fun hc9 => absurd hc9 (nI_ne0 (by omega) (by omega))) (fun _ => ?_)
          refine lv_iload hx hb d_P_choosePart_70 (lv_at hl 0 rfl) ?_
          refine lv_iload hx hb d_P_choosePart_72 (lv_at hl 6 rfl) ?_
          by_cases h4 : cost a < (ct_sc cost S a).1
          · refine lv_icmp_ge (tgt := 84) hx hb d_P_choosePart_74 (by decide) (fun hc9 => absurd hc9 (nI_ge h4 (by omega))) (fun _ => ?_)
            refine lv_iload hx hb d_P_choosePart_77 (lv_at hl 7 rfl) ?_
            refine lv_istore_n (lv' := [(3, .int (nI a)), (7, .int (nI (cost a))), (6, .int (nI (S ^^^ a))), (0, .ref p0), (1, .int (nI S)), (2, .int (nI (ct_low S))), (4, .int (nI (ct_sc cost S a).1)), (5, .int (nI a))]) hx hb d_P_choosePart_79 rfl hl (by decide) rfl (fun ls hl => ?_)
            refine lv_iload hx hb d_P_choosePart_80 (lv_at hl 1 rfl) ?_
            refine lv_istore (lv' := [(4, .int (nI (cost a))), (3, .int (nI a)), (7, .int (nI (cost a))), (6, .int (nI (S ^^^ a))), (0, .ref p0), (1, .int (nI S)), (2, .int (nI (ct_low S))), (5, .int (nI a))]) hx hb d_P_choosePart_82 hl (by decide) rfl (fun ls hl => ?_)
            refine lv_iinc (v := (nI (a + 1))) (lv' := [(5, .int (nI (a + 1))), (4, .int (nI (cost a))), (3, .int (nI a)), (7, .int (nI (cost a))), (6, .int (nI (S ^^^ a))), (0, .ref p0), (1, .int (nI S)), (2, .int (nI (ct_low S)))]) hx hb d_P_choosePart_84 hl (k := 7) rfl (nI_1 _) (by decide) rfl (fun ls hl => ?_)
            refine lv_goto (tgt := 13) hx hb d_P_choosePart_87 (by decide) ?_
            exact ih (a + 1) (by omega) (by omega) H locs hP hD hS ls (by rw [ct_sc_yes hp (Or.inr h4)]; exact lv_sub hl [5, 6, 7, 2, 1, 0] rfl)
          · refine lv_icmp_ge (tgt := 84) hx hb d_P_choosePart_74 (by decide) (fun _ => ?_) (fun hc9 => absurd (nI_le (by omega) (by omega)) hc9)
            refine lv_iinc (v := (nI (a + 1))) (lv' := [(5, .int (nI (a + 1))), (7, .int (nI (cost a))), (6, .int (nI (S ^^^ a))), (0, .ref p0), (1, .int (nI S)), (2, .int (nI (ct_low S))), (3, .int (nI (ct_sc cost S a).2)), (4, .int (nI (ct_sc cost S a).1))]) hx hb d_P_choosePart_84 hl (k := 7) rfl (nI_1 _) (by decide) rfl (fun ls hl => ?_)
            refine lv_goto (tgt := 13) hx hb d_P_choosePart_87 (by decide) ?_
            exact ih (a + 1) (by omega) (by omega) H locs hP hD hS ls (by rw [ct_sc_keep (fun z9 => z9.elim h3 h4)]; exact lv_sub hl [3, 4, 5, 6, 7, 0] rfl)
      · have hpf : ct_pt S a = false := by simpa using hp
        by_cases h5 : a &&& ct_low S = 0
        · refine lv_if_eq (tgt := 84) hx hb d_P_choosePart_23 (by decide) (fun _ => ?_) (fun hc9 => absurd (by rw [h5]; exact nI_0) hc9)
          refine lv_iinc (v := (nI (a + 1))) (lv' := [(5, .int (nI (a + 1))), (0, .ref p0), (1, .int (nI S)), (2, .int (nI (ct_low S))), (3, .int (nI (ct_sc cost S a).2)), (4, .int (nI (ct_sc cost S a).1))]) hx hb d_P_choosePart_84 hl (k := 5) rfl (nI_1 _) (by decide) rfl (fun ls hl => ?_)
          refine lv_goto (tgt := 13) hx hb d_P_choosePart_87 (by decide) ?_
          exact ih (a + 1) (by omega) (by omega) H locs hP hD hS ls (by rw [ct_sc_no hpf]; exact lv_sub hl [1, 2, 3, 4, 5, 0] rfl)
        · have hor := ct_or64 S hS6 a (by omega)
          refine lv_if_eq (tgt := 84) hx hb d_P_choosePart_23 (by decide) (fun hc9 => absurd hc9 (nI_ne0 (by omega) (by omega))) (fun _ => ?_)
          refine lv_iload hx hb d_P_choosePart_26 (lv_at hl 5 rfl) ?_
          refine lv_iload_n hx hb d_P_choosePart_28 rfl (lv_at hl 1 rfl) ?_
          refine lv_ior hx hb d_P_choosePart_29 ?_
          refine ct_val (y := nI (a ||| S)) (ct_or _ _) ?_
          refine lv_iload_n hx hb d_P_choosePart_30 rfl (lv_at hl 1 rfl) ?_
          refine lv_icmp_ne (tgt := 84) hx hb d_P_choosePart_31 (by decide) (fun _ => ?_) (fun hc9 => absurd hc9 (fun z9 => hp (ct_pt_2 ((ct_pt_or S hS6 a (by omega)).mp ((nI_eq (by omega) (by omega)).mp z9)) h5)))
          refine lv_iinc (v := (nI (a + 1))) (lv' := [(5, .int (nI (a + 1))), (0, .ref p0), (1, .int (nI S)), (2, .int (nI (ct_low S))), (3, .int (nI (ct_sc cost S a).2)), (4, .int (nI (ct_sc cost S a).1))]) hx hb d_P_choosePart_84 hl (k := 5) rfl (nI_1 _) (by decide) rfl (fun ls hl => ?_)
          refine lv_goto (tgt := 13) hx hb d_P_choosePart_87 (by decide) ?_
          exact ih (a + 1) (by omega) (by omega) H locs hP hD hS ls (by rw [ct_sc_no hpf]; exact lv_sub hl [1, 2, 3, 4, 5, 0] rfl)
  refine lv_iload_n hx hb d_P_choosePart_0 rfl (lv_at hl 1 rfl) ?_
  refine lv_iload_n hx hb d_P_choosePart_1 rfl (lv_at hl 1 rfl) ?_
  refine lv_ineg hx hb d_P_choosePart_2 ?_
  refine lv_iand hx hb d_P_choosePart_3 ?_
  refine ct_val (y := nI (ct_low S)) (ct_low_I S hS6) ?_
  refine lv_istore_n (lv' := [(2, .int (nI (ct_low S))), (0, .ref p0), (1, .int (nI S))]) hx hb d_P_choosePart_4 rfl hl (by decide) rfl (fun ls hl => ?_)
  refine lv_iconst (v := (nI 0)) hx hb d_P_choosePart_5 (by decide) ?_
  refine lv_istore_n (lv' := [(3, .int (nI 0)), (2, .int (nI (ct_low S))), (0, .ref p0), (1, .int (nI S))]) hx hb d_P_choosePart_6 rfl hl (by decide) rfl (fun ls hl => ?_)
  refine lv_iconst (v := (nI 0)) hx hb d_P_choosePart_7 (by decide) ?_
  refine lv_istore (lv' := [(4, .int (nI 0)), (3, .int (nI 0)), (2, .int (nI (ct_low S))), (0, .ref p0), (1, .int (nI S))]) hx hb d_P_choosePart_8 hl (by decide) rfl (fun ls hl => ?_)
  refine lv_iload_n hx hb d_P_choosePart_10 rfl (lv_at hl 2 rfl) ?_
  refine lv_istore (lv' := [(5, .int (nI (ct_low S))), (4, .int (nI 0)), (3, .int (nI 0)), (2, .int (nI (ct_low S))), (0, .ref p0), (1, .int (nI S))]) hx hb d_P_choosePart_11 hl (by decide) rfl (fun ls hl => ?_)
  exact loop (S - ct_low S) (ct_low S) (by omega) (Nat.le_refl _) s.heap [] hP hD hS ls (by rw [ct_sc_zero _ (ct_pt_lo S hS6)]; exact lv_sub hl [4, 5, 3, 2, 1, 0] rfl)
end
section
/-! the steps of a plan, from the last one down -/
def ct_pop (S : Nat) : Nat := (if S.testBit 0 = true then 1 else 0) + (if S.testBit 1 = true then 1 else 0) + (if S.testBit 2 = true then 1 else 0) + (if S.testBit 3 = true then 1 else 0) + (if S.testBit 4 = true then 1 else 0) + (if S.testBit 5 = true then 1 else 0)
theorem ct_pop_pt : ∀ S, S < 64 → ∀ a, a < S → ct_pt S a = true → ct_pop a + ct_pop (S ^^^ a) = ct_pop S := by decide +kernel
theorem ct_pop_1 : ∀ S, S < 64 → 0 < S → (ct_sev S = true ↔ 2 ≤ ct_pop S) ∧ 1 ≤ ct_pop S := by decide +kernel
theorem ct_pop_all : ∀ K, K < 7 → ct_pop (2 ^ K - 1) = K := by decide +kernel
theorem ct_sev_all : ∀ K, K < 7 → 2 ≤ K → ct_sev (2 ^ K - 1) = true := by decide +kernel
/-- what the plan's table promises: parts are parts -/
def ct_okB (B : Nat → Nat × Nat) : Prop := ∀ S, S < 64 → ct_sev S = true → (B S).2 < S ∧ ct_pt S (B S).2 = true
theorem ct_ls_fuel {B : Nat → Nat × Nat} (hB : ct_okB B) : ∀ (n k S : Nat), S < n → S < k → S < 64 → ct_ls B n S = ct_ls B k S := by
  intro n
  induction n with
  | zero => intro k S h; omega
  | succ n ih =>
    intro k S h1 h2 h3
    obtain ⟨k, rfl⟩ : ∃ j, k = j + 1 := ⟨k - 1, by omega⟩
    show (if ct_sev S = true then _ else _) = (if ct_sev S = true then _ else _)
    by_cases hs : ct_sev S = true
    · rw [if_pos hs, if_pos hs]
      have hp := hB S h3 hs
      have hc := ct_pt_co S h3 _ hp.1 hp.2
      rw [ih k _ (by omega) (by omega) (by omega), ih k (S ^^^ (B S).2) (by omega) (by omega) (by omega)]
    · rw [if_neg hs, if_neg hs]
theorem ct_ls_one {B : Nat → Nat × Nat} {S : Nat} (hs : ct_sev S = false) : ct_ls B 64 S = [] := by
  show (if ct_sev S = true then _ else _) = _
  rw [if_neg (by rw [hs]; exact Bool.false_ne_true)]
theorem ct_ls_sev {B : Nat → Nat × Nat} (hB : ct_okB B) {S : Nat} (hS : S < 64) (hs : ct_sev S = true) : ct_ls B 64 S = ct_ls B 64 (B S).2 ++ ct_ls B 64 (S ^^^ (B S).2) ++ [S] := by
  have hp := hB S hS hs
  have hc := ct_pt_co S hS _ hp.1 hp.2
  have e : ct_ls B 64 S = ct_ls B 63 (B S).2 ++ ct_ls B 63 (S ^^^ (B S).2) ++ [S] := by
    show (if ct_sev S = true then _ else _) = _
    rw [if_pos hs]
  rw [e, ct_ls_fuel hB 63 64 _ (by omega) (by omega) (by omega), ct_ls_fuel hB 63 64 (S ^^^ (B S).2) (by omega) (by omega) (by omega)]
theorem ct_ls_len {B : Nat → Nat × Nat} (hB : ct_okB B) : ∀ (n S : Nat), S < n → S < 64 → 0 < S → (ct_ls B 64 S).length + 1 = ct_pop S := by
  intro n
  induction n with
  | zero => intro S h; omega
  | succ n ih =>
    intro S h hS h0
    have hq := ct_pop_1 S hS h0
    cases hs : ct_sev S with
    | false =>
      rw [ct_ls_one hs]
      have : ¬ 2 ≤ ct_pop S := fun z => by rw [hq.1.mpr z] at hs; cases hs
      show 0 + 1 = _
      omega
    | true =>
      have hp := hB S hS hs
      have hc := ct_pt_co S hS _ hp.1 hp.2
      have h1 := ih (B S).2 (by omega) (by omega) (ct_pt_pos hp.2)
      have h2 := ih (S ^^^ (B S).2) (by omega) (by omega) hc.1
      have h3 := ct_pop_pt S hS _ hp.1 hp.2
      rw [ct_ls_sev hB hS hs, List.length_append, List.length_append]
      show _ + _ + 1 + 1 = _
      omega
/-- blocks that wait: the last one first; each has its set at its end -/
def ct_pend (B : Nat → Nat × Nat) (g : Nat → Int32) : Nat → List Nat → Prop
  | n, [] => n = 0
  | n, S :: L => ct_sev S = true ∧ S < 64 ∧ (ct_ls B 64 S).length ≤ n ∧ g (n - 1) = nI S ∧ ct_pend B g (n - (ct_ls B 64 S).length) L
def ct_fl (B : Nat → Nat × Nat) : List Nat → List Nat
  | [] => []
  | S :: L => ct_fl B L ++ ct_ls B 64 S
theorem ct_pend_congr {B : Nat → Nat × Nat} {g g' : Nat → Int32} : ∀ (L : List Nat) (n : Nat), (∀ i, i < n → g i = g' i) → ct_pend B g n L → ct_pend B g' n L := by
  intro L
  induction L with
  | nil => intro n _ h; exact h
  | cons S L ih =>
    intro n hg h
    obtain ⟨h1, h2, h3, h4, h5⟩ := h
    have h6 : 0 < (ct_ls B 64 S).length := by
      have e : ct_ls B 64 S = ct_ls B 63 (B S).2 ++ ct_ls B 63 (S ^^^ (B S).2) ++ [S] := by
        show (if ct_sev S = true then _ else _) = _
        rw [if_pos h1]
      rw [e, List.length_append]
      show 0 < _ + 1
      omega
    exact ⟨h1, h2, h3, by rw [← hg (n - 1) (by omega)]; exact h4, ih _ (fun i hi => hg i (by omega)) h5⟩
theorem ct_pend_len {B : Nat → Nat × Nat} {g : Nat → Int32} : ∀ (L : List Nat) (n : Nat), ct_pend B g n L → (ct_fl B L).length = n := by
  intro L
  induction L with
  | nil => intro n h; exact (show n = 0 from h).symm
  | cons S L ih =>
    intro n h
    obtain ⟨h1, h2, h3, h4, h5⟩ := h
    show (ct_fl B L ++ ct_ls B 64 S).length = n
    rw [List.length_append, ih _ h5]
    omega
/-- the state of the list at place n -/
def ct_inv (B : Nat → Nat × Nat) (T : List Nat) (g : Nat → Int32) (n : Nat) (L : List Nat) : Prop := ct_pend B g n L ∧ ct_fl B L = T.take n ∧ n ≤ T.length ∧ ∀ i, n ≤ i → i < T.length → g i = nI (T.getD i 0)
theorem ct_inv_top {B : Nat → Nat × Nat} {T : List Nat} {g : Nat → Int32} {n : Nat} {L : List Nat} (h : ct_inv B T g (n + 1) L) : ∃ S L', L = S :: L' ∧ ct_sev S = true ∧ S < 64 ∧ g n = nI S := by
  obtain ⟨h1, -⟩ := h
  cases L with
  | nil => exact absurd (show n + 1 = 0 from h1) (by omega)
  | cons S L => exact ⟨S, L, rfl, h1.1, h1.2.1, h1.2.2.2.1⟩
/-- the two writes of a round -/
def ct_wr (B : Nat → Nat × Nat) (g : Nat → Int32) (n S : Nat) : Nat → Int32 :=
  let g1 := if ct_sev (S ^^^ (B S).2) = true then upd g (n - 1) (nI (S ^^^ (B S).2)) else g
  if ct_sev (B S).2 = true then upd g1 (n - ct_pop (S ^^^ (B S).2)) (nI (B S).2) else g1
theorem ct_inv_step {B : Nat → Nat × Nat} (hB : ct_okB B) {T : List Nat} {g : Nat → Int32} {n S : Nat} {L : List Nat} (h : ct_inv B T g (n + 1) (S :: L)) :
    (ct_sev (S ^^^ (B S).2) = true → 1 ≤ n) ∧ (ct_sev (B S).2 = true → ct_pop (S ^^^ (B S).2) ≤ n) ∧ ∃ L', ct_inv B T (ct_wr B g n S) n L' := by
  obtain ⟨⟨hs, hS, hle, hg, hpd⟩, hfl, hn, hdone⟩ := h
  have hp := hB S hS hs
  have hc := ct_pt_co S hS _ hp.1 hp.2
  have hp0 := ct_pt_pos hp.2
  have l1 := ct_ls_len hB (S + 1) (B S).2 (by omega) (by omega) hp0
  have l2 := ct_ls_len hB (S + 1) (S ^^^ (B S).2) (by omega) (by omega) hc.1
  have q1 := ct_pop_1 (B S).2 (by omega) hp0
  have q2 := ct_pop_1 (S ^^^ (B S).2) (by omega) hc.1
  have e := ct_ls_sev hB hS hs
  generalize hpa : (B S).2 = pa at *
  generalize hot : S ^^^ pa = ot at *
  have elen : (ct_ls B 64 S).length = (ct_ls B 64 pa).length + (ct_ls B 64 ot).length + 1 := by
    rw [e, List.length_append, List.length_append]; rfl
  have hwr : ct_wr B g n S = (if ct_sev pa = true then upd (if ct_sev ot = true then upd g (n - 1) (nI ot) else g) (n - ct_pop ot) (nI pa) else (if ct_sev ot = true then upd g (n - 1) (nI ot) else g)) := by
    unfold ct_wr
    rw [hpa, hot]
  have hge : ∀ i, n ≤ i → ct_wr B g n S i = g i := by
    intro i hi
    rw [hwr]
    by_cases h1 : ct_sev pa = true
    · have := q1.1.mp h1
      rw [if_pos h1, pk_un (by omega)]
      by_cases h2 : ct_sev ot = true
      · have := q2.1.mp h2
        rw [if_pos h2, pk_un (by omega)]
      · rw [if_neg h2]
    · rw [if_neg h1]
      by_cases h2 : ct_sev ot = true
      · have := q2.1.mp h2
        rw [if_pos h2, pk_un (by omega)]
      · rw [if_neg h2]
  have hlo : ∀ i, i < n + 1 - (ct_ls B 64 S).length → g i = ct_wr B g n S i := by
    intro i hi
    rw [hwr]
    by_cases h1 : ct_sev pa = true
    · have := q1.1.mp h1
      rw [if_pos h1, pk_un (by omega)]
      by_cases h2 : ct_sev ot = true
      · have := q2.1.mp h2
        rw [if_pos h2, pk_un (by omega)]
      · rw [if_neg h2]
    · rw [if_neg h1]
      by_cases h2 : ct_sev ot = true
      · have := q2.1.mp h2
        rw [if_pos h2, pk_un (by omega)]
      · rw [if_neg h2]
  have hflat : ct_fl B (S :: L) = (ct_fl B L ++ ct_ls B 64 pa ++ ct_ls B 64 ot) ++ [S] := by
    show ct_fl B L ++ ct_ls B 64 S = _
    rw [e]; simp
  have hlenL := ct_pend_len L _ hpd
  have hrest : ct_fl B L ++ ct_ls B 64 pa ++ ct_ls B 64 ot = T.take n := by
    have h1 := congrArg (fun l => l.take n) (hflat.symm.trans hfl)
    have h2 : (ct_fl B L ++ ct_ls B 64 pa ++ ct_ls B 64 ot).length = n := by
      rw [List.length_append, List.length_append, hlenL]; omega
    simp only [List.take_take, show min n (n + 1) = n by omega] at h1
    rw [← h1, List.take_append_of_le_length (by omega), ← h2, List.take_length]
  have hSat : T.getD n 0 = S := by
    have h2 : (ct_fl B L ++ ct_ls B 64 pa ++ ct_ls B 64 ot).length = n := by
      rw [List.length_append, List.length_append, hlenL]; omega
    have h1 : (T.take (n + 1))[n]? = some S := by
      rw [← hfl, hflat, List.getElem?_append_right (by omega), h2]
      simp
    rw [List.getElem?_take_of_lt (by omega)] at h1
    simp [List.getD, h1]
  refine ⟨fun h2 => by have := q2.1.mp h2; omega, fun h1 => by have := q1.1.mp h1; omega, ?_⟩
  have hdone2 : ∀ i, n ≤ i → i < T.length → ct_wr B g n S i = nI (T.getD i 0) := by
    intro i h1 h2
    rw [hge i h1]
    by_cases hi : i = n
    · subst hi
      rw [hSat]
      exact hg
    · exact hdone i (by omega) h2
  have hpd2 := ct_pend_congr L _ hlo hpd
  have eot : ∀ i, ct_wr B g n S i = ct_wr B g n S i := fun _ => rfl
  cases h1 : ct_sev pa with
  | true =>
    have k1 := q1.1.mp h1
    have vpa : ct_wr B g n S (n - ct_pop ot) = nI pa := by rw [hwr, if_pos h1]; exact pk_us
    have base : ct_pend B (ct_wr B g n S) (n - (ct_ls B 64 ot).length) (pa :: L) := by
      refine ⟨h1, by omega, by omega, ?_, ?_⟩
      · rw [show n - (ct_ls B 64 ot).length - 1 = n - ct_pop ot by omega]; exact vpa
      · rw [show n - (ct_ls B 64 ot).length - (ct_ls B 64 pa).length = n + 1 - (ct_ls B 64 S).length by omega]; exact hpd2
    cases h2 : ct_sev ot with
    | true =>
      have k2 := q2.1.mp h2
      have vot : ct_wr B g n S (n - 1) = nI ot := by rw [hwr, if_pos h1, if_pos h2, pk_un (by omega)]; exact pk_us
      exact ⟨ot :: pa :: L, ⟨h2, by omega, by omega, vot, base⟩, hrest, by omega, hdone2⟩
    | false =>
      have e0 : ct_ls B 64 ot = [] := ct_ls_one h2
      refine ⟨pa :: L, ?_, ?_, by omega, hdone2⟩
      · have := base
        rw [e0] at this
        exact this
      · rw [← hrest, e0, List.append_nil]; rfl
  | false =>
    have e1 : ct_ls B 64 pa = [] := ct_ls_one h1
    cases h2 : ct_sev ot with
    | true =>
      have k2 := q2.1.mp h2
      have vot : ct_wr B g n S (n - 1) = nI ot := by rw [hwr, if_neg (by rw [h1]; exact Bool.false_ne_true), if_pos h2]; exact pk_us
      refine ⟨ot :: L, ⟨h2, by omega, by omega, vot, ?_⟩, ?_, by omega, hdone2⟩
      · rw [show n - (ct_ls B 64 ot).length = n + 1 - (ct_ls B 64 S).length by rw [elen, e1]; show _ = n + 1 - (0 + _ + 1); omega]; exact hpd2
      · rw [← hrest, e1, List.append_nil]; rfl
    | false =>
      have e0 : ct_ls B 64 ot = [] := ct_ls_one h2
      refine ⟨L, ?_, ?_, by omega, hdone2⟩
      · have h9 : n + 1 - (ct_ls B 64 S).length = n := by rw [elen, e1, e0]; show n + 1 - (0 + 0 + 1) = n; omega
        rw [h9] at hpd2
        exact hpd2
      · rw [← hrest, e1, e0, List.append_nil, List.append_nil]
theorem ct_inv_0 {B : Nat → Nat × Nat} (hB : ct_okB B) {S : Nat} {g : Nat → Int32} (hS : S < 64) (hs : ct_sev S = true) : ct_inv B (ct_ls B 64 S) (upd g ((ct_ls B 64 S).length - 1) (nI S)) (ct_ls B 64 S).length [S] := by
  refine ⟨⟨hs, hS, Nat.le_refl _, pk_us, Nat.sub_self _⟩, ?_, Nat.le_refl _, fun i h1 h2 => by omega⟩
  rw [List.take_length]
  rfl
end
section
theorem d_I_bitCount_0 : decode b_I_bitCount 0 = .ok (.iload_n 0, 1) := by decide +kernel
theorem d_I_bitCount_1 : decode b_I_bitCount 1 = .ok (.iload_n 0, 1) := by decide +kernel
theorem d_I_bitCount_2 : decode b_I_bitCount 2 = .ok (.iconst 1, 1) := by decide +kernel
theorem d_I_bitCount_3 : decode b_I_bitCount 3 = .ok (.iushr, 1) := by decide +kernel
theorem d_I_bitCount_4 : decode b_I_bitCount 4 = .ok (.ldc_w 265, 3) := by decide +kernel
theorem d_I_bitCount_7 : decode b_I_bitCount 7 = .ok (.iand, 1) := by decide +kernel
theorem d_I_bitCount_8 : decode b_I_bitCount 8 = .ok (.isub, 1) := by decide +kernel
theorem d_I_bitCount_9 : decode b_I_bitCount 9 = .ok (.istore_n 0, 1) := by decide +kernel
theorem d_I_bitCount_10 : decode b_I_bitCount 10 = .ok (.iload_n 0, 1) := by decide +kernel
theorem d_I_bitCount_11 : decode b_I_bitCount 11 = .ok (.ldc_w 266, 3) := by decide +kernel
theorem d_I_bitCount_14 : decode b_I_bitCount 14 = .ok (.iand, 1) := by decide +kernel
theorem d_I_bitCount_15 : decode b_I_bitCount 15 = .ok (.iload_n 0, 1) := by decide +kernel
theorem d_I_bitCount_16 : decode b_I_bitCount 16 = .ok (.iconst 2, 1) := by decide +kernel
theorem d_I_bitCount_17 : decode b_I_bitCount 17 = .ok (.iushr, 1) := by decide +kernel
theorem d_I_bitCount_18 : decode b_I_bitCount 18 = .ok (.ldc_w 266, 3) := by decide +kernel
theorem d_I_bitCount_21 : decode b_I_bitCount 21 = .ok (.iand, 1) := by decide +kernel
theorem d_I_bitCount_22 : decode b_I_bitCount 22 = .ok (.iadd, 1) := by decide +kernel
theorem d_I_bitCount_23 : decode b_I_bitCount 23 = .ok (.istore_n 0, 1) := by decide +kernel
theorem d_I_bitCount_24 : decode b_I_bitCount 24 = .ok (.iload_n 0, 1) := by decide +kernel
theorem d_I_bitCount_25 : decode b_I_bitCount 25 = .ok (.iload_n 0, 1) := by decide +kernel
theorem d_I_bitCount_26 : decode b_I_bitCount 26 = .ok (.iconst 4, 1) := by decide +kernel
theorem d_I_bitCount_27 : decode b_I_bitCount 27 = .ok (.iushr, 1) := by decide +kernel
theorem d_I_bitCount_28 : decode b_I_bitCount 28 = .ok (.iadd, 1) := by decide +kernel
theorem d_I_bitCount_29 : decode b_I_bitCount 29 = .ok (.ldc_w 267, 3) := by decide +kernel
theorem d_I_bitCount_32 : decode b_I_bitCount 32 = .ok (.iand, 1) := by decide +kernel
theorem d_I_bitCount_33 : decode b_I_bitCount 33 = .ok (.istore_n 0, 1) := by decide +kernel
theorem d_I_bitCount_34 : decode b_I_bitCount 34 = .ok (.iload_n 0, 1) := by decide +kernel
theorem d_I_bitCount_35 : decode b_I_bitCount 35 = .ok (.iload_n 0, 1) := by decide +kernel
theorem d_I_bitCount_36 : decode b_I_bitCount 36 = .ok (.bipush 8, 2) := by decide +kernel
theorem d_I_bitCount_38 : decode b_I_bitCount 38 = .ok (.iushr, 1) := by decide +kernel
theorem d_I_bitCount_39 : decode b_I_bitCount 39 = .ok (.iadd, 1) := by decide +kernel
theorem d_I_bitCount_40 : decode b_I_bitCount 40 = .ok (.istore_n 0, 1) := by decide +kernel
theorem d_I_bitCount_41 : decode b_I_bitCount 41 = .ok (.iload_n 0, 1) := by decide +kernel
theorem d_I_bitCount_42 : decode b_I_bitCount 42 = .ok (.iload_n 0, 1) := by decide +kernel
theorem d_I_bitCount_43 : decode b_I_bitCount 43 = .ok (.bipush 16, 2) := by decide +kernel
theorem d_I_bitCount_45 : decode b_I_bitCount 45 = .ok (.iushr, 1) := by decide +kernel
theorem d_I_bitCount_46 : decode b_I_bitCount 46 = .ok (.iadd, 1) := by decide +kernel
theorem d_I_bitCount_47 : decode b_I_bitCount 47 = .ok (.istore_n 0, 1) := by decide +kernel
theorem d_I_bitCount_48 : decode b_I_bitCount 48 = .ok (.iload_n 0, 1) := by decide +kernel
theorem d_I_bitCount_49 : decode b_I_bitCount 49 = .ok (.bipush 63, 2) := by decide +kernel
theorem d_I_bitCount_51 : decode b_I_bitCount 51 = .ok (.iand, 1) := by decide +kernel
theorem d_I_bitCount_52 : decode b_I_bitCount 52 = .ok (.ireturn, 1) := by decide +kernel
theorem d_P_listSteps_0 : decode b_P_listSteps 0 = .ok (.aload_n 0, 1) := by decide +kernel
theorem d_P_listSteps_1 : decode b_P_listSteps 1 = .ok (.getfield 28, 3) := by decide +kernel
theorem d_P_listSteps_4 : decode b_P_listSteps 4 = .ok (.iload_n 2, 1) := by decide +kernel
theorem d_P_listSteps_5 : decode b_P_listSteps 5 = .ok (.iconst 1, 1) := by decide +kernel
theorem d_P_listSteps_6 : decode b_P_listSteps 6 = .ok (.isub, 1) := by decide +kernel
theorem d_P_listSteps_7 : decode b_P_listSteps 7 = .ok (.iload_n 1, 1) := by decide +kernel
theorem d_P_listSteps_8 : decode b_P_listSteps 8 = .ok (.iastore, 1) := by decide +kernel
theorem d_P_listSteps_9 : decode b_P_listSteps 9 = .ok (.iload_n 2, 1) := by decide +kernel
theorem d_P_listSteps_10 : decode b_P_listSteps 10 = .ok (.iconst 1, 1) := by decide +kernel
theorem d_P_listSteps_11 : decode b_P_listSteps 11 = .ok (.isub, 1) := by decide +kernel
theorem d_P_listSteps_12 : decode b_P_listSteps 12 = .ok (.istore_n 3, 1) := by decide +kernel
theorem d_P_listSteps_13 : decode b_P_listSteps 13 = .ok (.iload_n 3, 1) := by decide +kernel
theorem d_P_listSteps_14 : decode b_P_listSteps 14 = .ok (.ifCond .lt 73, 3) := by decide +kernel
theorem d_P_listSteps_17 : decode b_P_listSteps 17 = .ok (.aload_n 0, 1) := by decide +kernel
theorem d_P_listSteps_18 : decode b_P_listSteps 18 = .ok (.getfield 25, 3) := by decide +kernel
theorem d_P_listSteps_21 : decode b_P_listSteps 21 = .ok (.aload_n 0, 1) := by decide +kernel
theorem d_P_listSteps_22 : decode b_P_listSteps 22 = .ok (.getfield 28, 3) := by decide +kernel
theorem d_P_listSteps_25 : decode b_P_listSteps 25 = .ok (.iload_n 3, 1) := by decide +kernel
theorem d_P_listSteps_26 : decode b_P_listSteps 26 = .ok (.iaload, 1) := by decide +kernel
theorem d_P_listSteps_27 : decode b_P_listSteps 27 = .ok (.iaload, 1) := by decide +kernel
theorem d_P_listSteps_28 : decode b_P_listSteps 28 = .ok (.istore 4, 2) := by decide +kernel
theorem d_P_listSteps_30 : decode b_P_listSteps 30 = .ok (.aload_n 0, 1) := by decide +kernel
theorem d_P_listSteps_31 : decode b_P_listSteps 31 = .ok (.getfield 28, 3) := by decide +kernel
theorem d_P_listSteps_34 : decode b_P_listSteps 34 = .ok (.iload_n 3, 1) := by decide +kernel
theorem d_P_listSteps_35 : decode b_P_listSteps 35 = .ok (.iaload, 1) := by decide +kernel
theorem d_P_listSteps_36 : decode b_P_listSteps 36 = .ok (.iload 4, 2) := by decide +kernel
theorem d_P_listSteps_38 : decode b_P_listSteps 38 = .ok (.ixor, 1) := by decide +kernel
theorem d_P_listSteps_39 : decode b_P_listSteps 39 = .ok (.istore 5, 2) := by decide +kernel
theorem d_P_listSteps_41 : decode b_P_listSteps 41 = .ok (.iload 5, 2) := by decide +kernel
theorem d_P_listSteps_43 : decode b_P_listSteps 43 = .ok (.invokestatic 49, 3) := by decide +kernel
theorem d_P_listSteps_46 : decode b_P_listSteps 46 = .ok (.ifCond .eq 13, 3) := by decide +kernel
theorem d_P_listSteps_49 : decode b_P_listSteps 49 = .ok (.aload_n 0, 1) := by decide +kernel
theorem d_P_listSteps_50 : decode b_P_listSteps 50 = .ok (.getfield 28, 3) := by decide +kernel
theorem d_P_listSteps_53 : decode b_P_listSteps 53 = .ok (.iload_n 3, 1) := by decide +kernel
theorem d_P_listSteps_54 : decode b_P_listSteps 54 = .ok (.iconst 1, 1) := by decide +kernel
theorem d_P_listSteps_55 : decode b_P_listSteps 55 = .ok (.isub, 1) := by decide +kernel
theorem d_P_listSteps_56 : decode b_P_listSteps 56 = .ok (.iload 5, 2) := by decide +kernel
theorem d_P_listSteps_58 : decode b_P_listSteps 58 = .ok (.iastore, 1) := by decide +kernel
theorem d_P_listSteps_59 : decode b_P_listSteps 59 = .ok (.iload 4, 2) := by decide +kernel
theorem d_P_listSteps_61 : decode b_P_listSteps 61 = .ok (.invokestatic 49, 3) := by decide +kernel
theorem d_P_listSteps_64 : decode b_P_listSteps 64 = .ok (.ifCond .eq 17, 3) := by decide +kernel
theorem d_P_listSteps_67 : decode b_P_listSteps 67 = .ok (.aload_n 0, 1) := by decide +kernel
theorem d_P_listSteps_68 : decode b_P_listSteps 68 = .ok (.getfield 28, 3) := by decide +kernel
theorem d_P_listSteps_71 : decode b_P_listSteps 71 = .ok (.iload_n 3, 1) := by decide +kernel
theorem d_P_listSteps_72 : decode b_P_listSteps 72 = .ok (.iload 5, 2) := by decide +kernel
theorem d_P_listSteps_74 : decode b_P_listSteps 74 = .ok (.invokestatic 64, 3) := by decide +kernel
theorem d_P_listSteps_77 : decode b_P_listSteps 77 = .ok (.isub, 1) := by decide +kernel
theorem d_P_listSteps_78 : decode b_P_listSteps 78 = .ok (.iload 4, 2) := by decide +kernel
theorem d_P_listSteps_80 : decode b_P_listSteps 80 = .ok (.iastore, 1) := by decide +kernel
theorem d_P_listSteps_81 : decode b_P_listSteps 81 = .ok (.iinc 3 (-1), 3) := by decide +kernel
theorem d_P_listSteps_84 : decode b_P_listSteps 84 = .ok (.goto (-71), 3) := by decide +kernel
theorem d_P_listSteps_87 : decode b_P_listSteps 87 = .ok (.return_, 1) := by decide +kernel
theorem d_P_make_0 : decode b_P_make 0 = .ok (.iconst 1, 1) := by decide +kernel
theorem d_P_make_1 : decode b_P_make 1 = .ok (.iload_n 2, 1) := by decide +kernel
theorem d_P_make_2 : decode b_P_make 2 = .ok (.ishl, 1) := by decide +kernel
theorem d_P_make_3 : decode b_P_make 3 = .ok (.iconst 1, 1) := by decide +kernel
theorem d_P_make_4 : decode b_P_make 4 = .ok (.isub, 1) := by decide +kernel
theorem d_P_make_5 : decode b_P_make 5 = .ok (.istore 4, 2) := by decide +kernel
theorem d_P_make_7 : decode b_P_make 7 = .ok (.aload_n 0, 1) := by decide +kernel
theorem d_P_make_8 : decode b_P_make 8 = .ok (.aload_n 1, 1) := by decide +kernel
theorem d_P_make_9 : decode b_P_make 9 = .ok (.iload_n 2, 1) := by decide +kernel
theorem d_P_make_10 : decode b_P_make 10 = .ok (.invokevirtual 41, 3) := by decide +kernel
theorem d_P_make_13 : decode b_P_make 13 = .ok (.iconst 1, 1) := by decide +kernel
theorem d_P_make_14 : decode b_P_make 14 = .ok (.istore 5, 2) := by decide +kernel
theorem d_P_make_16 : decode b_P_make 16 = .ok (.iload 5, 2) := by decide +kernel
theorem d_P_make_18 : decode b_P_make 18 = .ok (.iload 4, 2) := by decide +kernel
theorem d_P_make_20 : decode b_P_make 20 = .ok (.if_icmp .gt 18, 3) := by decide +kernel
theorem d_P_make_23 : decode b_P_make 23 = .ok (.aload_n 0, 1) := by decide +kernel
theorem d_P_make_24 : decode b_P_make 24 = .ok (.iload 5, 2) := by decide +kernel
theorem d_P_make_26 : decode b_P_make 26 = .ok (.iload 4, 2) := by decide +kernel
theorem d_P_make_28 : decode b_P_make 28 = .ok (.iload_n 3, 1) := by decide +kernel
theorem d_P_make_29 : decode b_P_make 29 = .ok (.invokevirtual 45, 3) := by decide +kernel
theorem d_P_make_32 : decode b_P_make 32 = .ok (.iinc 5 1, 3) := by decide +kernel
theorem d_P_make_35 : decode b_P_make 35 = .ok (.goto (-19), 3) := by decide +kernel
theorem d_P_make_38 : decode b_P_make 38 = .ok (.iconst 1, 1) := by decide +kernel
theorem d_P_make_39 : decode b_P_make 39 = .ok (.istore 5, 2) := by decide +kernel
theorem d_P_make_41 : decode b_P_make 41 = .ok (.iload 5, 2) := by decide +kernel
theorem d_P_make_43 : decode b_P_make 43 = .ok (.iload 4, 2) := by decide +kernel
theorem d_P_make_45 : decode b_P_make 45 = .ok (.if_icmp .gt 23, 3) := by decide +kernel
theorem d_P_make_48 : decode b_P_make 48 = .ok (.iload 5, 2) := by decide +kernel
theorem d_P_make_50 : decode b_P_make 50 = .ok (.invokestatic 49, 3) := by decide +kernel
theorem d_P_make_53 : decode b_P_make 53 = .ok (.ifCond .eq 9, 3) := by decide +kernel
theorem d_P_make_56 : decode b_P_make 56 = .ok (.aload_n 0, 1) := by decide +kernel
theorem d_P_make_57 : decode b_P_make 57 = .ok (.iload 5, 2) := by decide +kernel
theorem d_P_make_59 : decode b_P_make 59 = .ok (.invokevirtual 53, 3) := by decide +kernel
theorem d_P_make_62 : decode b_P_make 62 = .ok (.iinc 5 1, 3) := by decide +kernel
theorem d_P_make_65 : decode b_P_make 65 = .ok (.goto (-24), 3) := by decide +kernel
theorem d_P_make_68 : decode b_P_make 68 = .ok (.aload_n 0, 1) := by decide +kernel
theorem d_P_make_69 : decode b_P_make 69 = .ok (.iload 4, 2) := by decide +kernel
theorem d_P_make_71 : decode b_P_make 71 = .ok (.iload_n 2, 1) := by decide +kernel
theorem d_P_make_72 : decode b_P_make 72 = .ok (.iconst 1, 1) := by decide +kernel
theorem d_P_make_73 : decode b_P_make 73 = .ok (.isub, 1) := by decide +kernel
theorem d_P_make_74 : decode b_P_make 74 = .ok (.invokevirtual 57, 3) := by decide +kernel
theorem d_P_make_77 : decode b_P_make 77 = .ok (.return_, 1) := by decide +kernel
theorem ct_pop_I : ∀ a, a < 64 → (((((((((nI a) - ((((nI a)).toUInt32 >>> (((nI 1)).toUInt32 &&& Int32.toUInt32 31)).toInt32 &&& (1431655765))) &&& (858993459)) + (((((nI a) - ((((nI a)).toUInt32 >>> (((nI 1)).toUInt32 &&& Int32.toUInt32 31)).toInt32 &&& (1431655765)))).toUInt32 >>> (((nI 2)).toUInt32 &&& Int32.toUInt32 31)).toInt32 &&& (858993459))) + ((((((nI a) - ((((nI a)).toUInt32 >>> (((nI 1)).toUInt32 &&& Int32.toUInt32 31)).toInt32 &&& (1431655765))) &&& (858993459)) + (((((nI a) - ((((nI a)).toUInt32 >>> (((nI 1)).toUInt32 &&& Int32.toUInt32 31)).toInt32 &&& (1431655765)))).toUInt32 >>> (((nI 2)).toUInt32 &&& Int32.toUInt32 31)).toInt32 &&& (858993459)))).toUInt32 >>> (((nI 4)).toUInt32 &&& Int32.toUInt32 31)).toInt32) &&& (252645135)) + ((((((((nI a) - ((((nI a)).toUInt32 >>> (((nI 1)).toUInt32 &&& Int32.toUInt32 31)).toInt32 &&& (1431655765))) &&& (858993459)) + (((((nI a) - ((((nI a)).toUInt32 >>> (((nI 1)).toUInt32 &&& Int32.toUInt32 31)).toInt32 &&& (1431655765)))).toUInt32 >>> (((nI 2)).toUInt32 &&& Int32.toUInt32 31)).toInt32 &&& (858993459))) + ((((((nI a) - ((((nI a)).toUInt32 >>> (((nI 1)).toUInt32 &&& Int32.toUInt32 31)).toInt32 &&& (1431655765))) &&& (858993459)) + (((((nI a) - ((((nI a)).toUInt32 >>> (((nI 1)).toUInt32 &&& Int32.toUInt32 31)).toInt32 &&& (1431655765)))).toUInt32 >>> (((nI 2)).toUInt32 &&& Int32.toUInt32 31)).toInt32 &&& (858993459)))).toUInt32 >>> (((nI 4)).toUInt32 &&& Int32.toUInt32 31)).toInt32) &&& (252645135))).toUInt32 >>> (((nI 8)).toUInt32 &&& Int32.toUInt32 31)).toInt32) + (((((((((nI a) - ((((nI a)).toUInt32 >>> (((nI 1)).toUInt32 &&& Int32.toUInt32 31)).toInt32 &&& (1431655765))) &&& (858993459)) + (((((nI a) - ((((nI a)).toUInt32 >>> (((nI 1)).toUInt32 &&& Int32.toUInt32 31)).toInt32 &&& (1431655765)))).toUInt32 >>> (((nI 2)).toUInt32 &&& Int32.toUInt32 31)).toInt32 &&& (858993459))) + ((((((nI a) - ((((nI a)).toUInt32 >>> (((nI 1)).toUInt32 &&& Int32.toUInt32 31)).toInt32 &&& (1431655765))) &&& (858993459)) + (((((nI a) - ((((nI a)).toUInt32 >>> (((nI 1)).toUInt32 &&& Int32.toUInt32 31)).toInt32 &&& (1431655765)))).toUInt32 >>> (((nI 2)).toUInt32 &&& Int32.toUInt32 31)).toInt32 &&& (858993459)))).toUInt32 >>> (((nI 4)).toUInt32 &&& Int32.toUInt32 31)).toInt32) &&& (252645135)) + ((((((((nI a) - ((((nI a)).toUInt32 >>> (((nI 1)).toUInt32 &&& Int32.toUInt32 31)).toInt32 &&& (1431655765))) &&& (858993459)) + (((((nI a) - ((((nI a)).toUInt32 >>> (((nI 1)).toUInt32 &&& Int32.toUInt32 31)).toInt32 &&& (1431655765)))).toUInt32 >>> (((nI 2)).toUInt32 &&& Int32.toUInt32 31)).toInt32 &&& (858993459))) + ((((((nI a) - ((((nI a)).toUInt32 >>> (((nI 1)).toUInt32 &&& Int32.toUInt32 31)).toInt32 &&& (1431655765))) &&& (858993459)) + (((((nI a) - ((((nI a)).toUInt32 >>> (((nI 1)).toUInt32 &&& Int32.toUInt32 31)).toInt32 &&& (1431655765)))).toUInt32 >>> (((nI 2)).toUInt32 &&& Int32.toUInt32 31)).toInt32 &&& (858993459)))).toUInt32 >>> (((nI 4)).toUInt32 &&& Int32.toUInt32 31)).toInt32) &&& (252645135))).toUInt32 >>> (((nI 8)).toUInt32 &&& Int32.toUInt32 31)).toInt32)).toUInt32 >>> (((nI 16)).toUInt32 &&& Int32.toUInt32 31)).toInt32) &&& (nI 63)) = nI (ct_pop a) := by decide +kernel
set_option maxHeartbeats 4000000 in
set_option maxRecDepth 100000 in
theorem c_I_bitCount (l : Launch) (dC : Nat → ClassId) (dI : Nat → Nat → Nat) (cI : ClassId) (a : Nat) (ha : a < 64) : Met l y_I_bitCount w_I_bitCount ({ frames := 0, cells := 0, slots := 0, locals := 0 }) (va_Pc [.int (nI a)] (ct_ro (dC, dI) ct_cl [] [(cI, .int)])) (ct_qi (fun r => r = nI (ct_pop a))) 0 0 (fun _ => False) := by
  refine Met.ofW (cc := b_I_bitCount) (maxL := 1) (ret := (some .int)) (by decide) rfl ?_
  intro p e s m args below meth c s₁ Bd hml hv
  obtain ⟨hargs, hP, hK⟩ := hv
  have hx := Bd.exec
  have hb := Bd.bytes
  have hr := Bd.returns
  have hts : ∀ w ∈ k_I_bitCount :: ct_tb, w.before args s = true := atoms_spec (ws := w_I_bitCount) Bd.pre
  have hown : s.vm.findClass R_I = some m.cls := findClass_of_methodNamed Bd.named
  have hlocks := Bd.notSynchronized
  have hS : va_S (fun _ => False) s.heap s.heap [] := va_S.rf
  have hl := lv_entry ([.int (nI a)]) (n := 1) (Nat.le_of_ble_eq_true rfl)
  rw [show entryFrame m args 1 = entryFrame m (([.int (nI a)] : List Value)).toArray 1 by rw [hargs], lg_entry_eq]
  generalize (lg_sl ([.int (nI a)]) ++ List.replicate (1 - (lg_sl ([.int (nI a)])).length) Slot.unset).toArray = ls at hl ⊢
  have hl : lv_has ls 1 [(0, .int (nI a))] := hl
  refine lv_iload_n hx hb d_I_bitCount_0 rfl (lv_at hl 0 rfl) ?_
  refine lv_iload_n hx hb d_I_bitCount_1 rfl (lv_at hl 0 rfl) ?_
  refine lv_iconst (v := (nI 1)) hx hb d_I_bitCount_2 (by decide) ?_
  refine lv_iushr hx hb d_I_bitCount_3 rfl ?_
  refine lv_ldcw hx hb hown (hts _ (ct_tl kw_205)) d_I_bitCount_4 ?_
  refine lv_iand hx hb d_I_bitCount_7 ?_
  refine lv_isub hx hb d_I_bitCount_8 ?_
  refine lv_topi (fun v1 ev1 => ?_)
  refine lv_istore_n (lv' := [(0, .int v1)]) hx hb d_I_bitCount_9 rfl hl (by decide) rfl (fun ls hl => ?_)
  refine lv_iload_n hx hb d_I_bitCount_10 rfl (lv_at hl 0 rfl) ?_
  refine lv_ldcw hx hb hown (hts _ (ct_tl kw_206)) d_I_bitCount_11 ?_
  refine lv_iand hx hb d_I_bitCount_14 ?_
  refine lv_iload_n hx hb d_I_bitCount_15 rfl (lv_at hl 0 rfl) ?_
  refine lv_iconst (v := (nI 2)) hx hb d_I_bitCount_16 (by decide) ?_
  refine lv_iushr hx hb d_I_bitCount_17 rfl ?_
  refine lv_ldcw hx hb hown (hts _ (ct_tl kw_206)) d_I_bitCount_18 ?_
  refine lv_iand hx hb d_I_bitCount_21 ?_
  refine lv_iadd hx hb d_I_bitCount_22 ?_
  refine lv_topi (fun v2 ev2 => ?_)
  refine lv_istore_n (lv' := [(0, .int v2)]) hx hb d_I_bitCount_23 rfl hl (by decide) rfl (fun ls hl => ?_)
  refine lv_iload_n hx hb d_I_bitCount_24 rfl (lv_at hl 0 rfl) ?_
  refine lv_iload_n hx hb d_I_bitCount_25 rfl (lv_at hl 0 rfl) ?_
  refine lv_iconst (v := (nI 4)) hx hb d_I_bitCount_26 (by decide) ?_
  refine lv_iushr hx hb d_I_bitCount_27 rfl ?_
  refine lv_iadd hx hb d_I_bitCount_28 ?_
  refine lv_ldcw hx hb hown (hts _ (ct_tl kw_207)) d_I_bitCount_29 ?_
  refine lv_iand hx hb d_I_bitCount_32 ?_
  refine lv_topi (fun v3 ev3 => ?_)
  refine lv_istore_n (lv' := [(0, .int v3)]) hx hb d_I_bitCount_33 rfl hl (by decide) rfl (fun ls hl => ?_)
  refine lv_iload_n hx hb d_I_bitCount_34 rfl (lv_at hl 0 rfl) ?_
  refine lv_iload_n hx hb d_I_bitCount_35 rfl (lv_at hl 0 rfl) ?_
  refine lv_bipush (v := (nI 8)) hx hb d_I_bitCount_36 (by decide) ?_
  refine lv_iushr hx hb d_I_bitCount_38 rfl ?_
  refine lv_iadd hx hb d_I_bitCount_39 ?_
  refine lv_topi (fun v4 ev4 => ?_)
  refine lv_istore_n (lv' := [(0, .int v4)]) hx hb d_I_bitCount_40 rfl hl (by decide) rfl (fun ls hl => ?_)
  refine lv_iload_n hx hb d_I_bitCount_41 rfl (lv_at hl 0 rfl) ?_
  refine lv_iload_n hx hb d_I_bitCount_42 rfl (lv_at hl 0 rfl) ?_
  refine lv_bipush (v := (nI 16)) hx hb d_I_bitCount_43 (by decide) ?_
  refine lv_iushr hx hb d_I_bitCount_45 rfl ?_
  refine lv_iadd hx hb d_I_bitCount_46 ?_
  refine lv_topi (fun v5 ev5 => ?_)
  refine lv_istore_n (lv' := [(0, .int v5)]) hx hb d_I_bitCount_47 rfl hl (by decide) rfl (fun ls hl => ?_)
  refine lv_iload_n hx hb d_I_bitCount_48 rfl (lv_at hl 0 rfl) ?_
  refine lv_bipush (v := (nI 63)) hx hb d_I_bitCount_49 (by decide) ?_
  refine lv_iand hx hb d_I_bitCount_51 ?_
  refine lv_topi (fun v6 ev6 => ?_)
  exact W.iret (v := v6) hx hb hr (fun tS ht hW => ⟨⟨v6, (), rfl, by rw [ev6, ev5, ev4, ev3, ev2, ev1]; exact ct_pop_I a ha, trivial⟩, hS.F ht⟩) hS.2.2 d_I_bitCount_52
theorem ct_mem_lt {B : Nat → Nat × Nat} (hB : ct_okB B) {K : Nat} : ∀ (n S : Nat), S < n → S < 64 → S < 2 ^ K → ∀ x ∈ ct_ls B 64 S, x < 2 ^ K := by
  intro n
  induction n with
  | zero => intro S h; omega
  | succ n ih =>
    intro S h hS hK x hx
    cases hs : ct_sev S with
    | false => rw [ct_ls_one hs] at hx; cases hx
    | true =>
      have hp := hB S hS hs
      have hc := ct_pt_co S hS _ hp.1 hp.2
      rw [ct_ls_sev hB hS hs] at hx
      rcases List.mem_append.mp hx with h1 | h1
      · rcases List.mem_append.mp h1 with h2 | h2
        · exact ih _ (by omega) (by omega) (by omega) x h2
        · exact ih _ (by omega) (by omega) (by omega) x h2
      · rw [List.mem_singleton.mp h1]; exact hK
theorem ct_pend_lt {B : Nat → Nat × Nat} (hB : ct_okB B) {T : List Nat} {g : Nat → Int32} {n S K : Nat} {L : List Nat} (hK : K ≤ 6) (hT : ct_ls B 64 (2 ^ K - 1) = T) (h : ct_inv B T g (n + 1) (S :: L)) : S < 2 ^ K := by
  have h2K := ct_2K K (by omega)
  have h1 : S ∈ ct_ls B 64 S := by rw [ct_ls_sev hB h.1.2.1 h.1.1]; simp
  have h2 : S ∈ ct_fl B (S :: L) := List.mem_append.mpr (Or.inr h1)
  rw [h.2.1] at h2
  have h3 := List.mem_of_mem_take h2
  rw [← hT] at h3
  exact ct_mem_lt hB 64 (2 ^ K - 1) (by omega) (by omega) (by omega) S h3
set_option maxHeartbeats 4000000 in
set_option maxRecDepth 100000 in
theorem c_P_listSteps (l : Launch) (dC : Nat → ClassId) (dI : Nat → Nat → Nat) (cI : ClassId) (z0 p0 p1 p2 p3 p4 p5 : Nat) (fp fj : Nat → Int32) (B : Nat → Nat × Nat) (K : Nat) (hK6 : K ≤ 6) (hK2 : 2 ≤ K) (hB : ct_okB B) (hfp : ∀ S, S < 2 ^ K → ct_sev S = true → fp S = nI (B S).2) (sz0 : Nat) : Met l y_P_listSteps w_P_listSteps ({ frames := 1, cells := 0, slots := 0, locals := 20 }) (va_Pc [.ref p0, .int (nI (2 ^ K - 1)), .int (nI (K - 1))] (ct_rw (dC, dI) ct_cl [(p0, .inr (2, [.ref z0, .ref p1, .ref p2, .ref p3, .ref p4, .ref p5])), (p4, .inl (cI, 64, .inl fp)), (p5, .inl (cI, 5, .inl fj))] [(cI, .int)] sz0)) (va_Qv (fun (u : Nat → Int32) => ∀ k, k < K - 1 → u k = nI ((ct_ls B 64 (2 ^ K - 1)).getD k 0)) (fun (u : Nat → Int32) t => ct_at (dC, dI) ct_cl [(cI, .int)] (va_A [(p0, .inr (2, [.ref z0, .ref p1, .ref p2, .ref p3, .ref p4, .ref p5])), (p4, .inl (cI, 64, .inl fp)), (p5, .inl (cI, 5, .inl fj))] sz0) [(p0, .inr (2, [.ref z0, .ref p1, .ref p2, .ref p3, .ref p4, .ref p5])), (p4, .inl (cI, 64, .inl fp)), (p5, .inl (cI, 5, .inl u))] t) (va_A [(p0, .inr (2, [.ref z0, .ref p1, .ref p2, .ref p3, .ref p4, .ref p5])), (p4, .inl (cI, 64, .inl fp)), (p5, .inl (cI, 5, .inl fj))] sz0)) 0 0 (va_A [(p0, .inr (2, [.ref z0, .ref p1, .ref p2, .ref p3, .ref p4, .ref p5])), (p4, .inl (cI, 64, .inl fp)), (p5, .inl (cI, 5, .inl fj))] sz0) := by
  refine Met.ofW (cc := b_P_listSteps) (maxL := 6) (ret := none) (by decide) rfl ?_
  intro p e s m args below meth c s₁ Bd hml hv
  obtain ⟨hargs, hsz, hP, hK, hD0⟩ := hv
  have hx := Bd.exec
  have hb := Bd.bytes
  have hr := Bd.returns
  have hts : ∀ w ∈ k_P_listSteps :: ct_tb, w.before args s = true := atoms_spec (ws := w_P_listSteps) Bd.pre
  have hown : s.vm.findClass R_P = some m.cls := findClass_of_methodNamed Bd.named
  have hlocks := Bd.notSynchronized
  subst hsz
  have hD := hD0.self (sz := s.heap.size)
  generalize hAe : va_A [(p0, .inr (2, [.ref z0, .ref p1, .ref p2, .ref p3, .ref p4, .ref p5])), (p4, .inl (cI, 64, .inl fp)), (p5, .inl (cI, 5, .inl fj))] s.heap.size = A at hD ⊢
  have hA : ∀ q : Nat, s.heap.size ≤ q → A q := fun q h => by rw [← hAe]; exact Or.inr h
  have hS : va_S A s.heap s.heap [] := va_S.rf
  have hl := lv_entry ([.ref p0, .int (nI (2 ^ K - 1)), .int (nI (K - 1))]) (n := 6) (Nat.le_of_ble_eq_true rfl)
  rw [show entryFrame m args 6 = entryFrame m (([.ref p0, .int (nI (2 ^ K - 1)), .int (nI (K - 1))] : List Value)).toArray 6 by rw [hargs], lg_entry_eq]
  generalize (lg_sl ([.ref p0, .int (nI (2 ^ K - 1)), .int (nI (K - 1))]) ++ List.replicate (6 - (lg_sl ([.ref p0, .int (nI (2 ^ K - 1)), .int (nI (K - 1))])).length) Slot.unset).toArray = ls at hl ⊢
  have hl : lv_has ls 6 [(0, .ref p0), (1, .int (nI (2 ^ K - 1))), (2, .int (nI (K - 1)))] := hl
  have h2K := ct_2K K (by omega)
  have hsall := ct_sev_all K (by omega) hK2
  have hall0 := ct_sev0 hsall
  have hlen : (ct_ls B 64 (2 ^ K - 1)).length = K - 1 := by have h9 := ct_ls_len hB 64 (2 ^ K - 1) (by omega) (by omega) hall0; rw [ct_pop_all K (by omega)] at h9; omega
  generalize hT : ct_ls B 64 (2 ^ K - 1) = T at hlen ⊢
  have hTm : ∀ S L n, ct_inv B T L n S → ∀ k, k < T.length → True := fun _ _ _ _ _ _ => trivial
  have loop : ∀ (n : Nat) (g : Nat → Int32) (L : List Nat), n ≤ K - 1 → ct_inv B T g n L → ∀ (H : Heap) (locs : List Loc), va_P (dC, dI) ct_cl [(p0, .inr (2, [.ref z0, .ref p1, .ref p2, .ref p3, .ref p4, .ref p5])), (p4, .inl (cI, 64, .inl fp)), (p5, .inl (cI, 5, .inl g))] H → va_D A [(p0, .inr (2, [.ref z0, .ref p1, .ref p2, .ref p3, .ref p4, .ref p5])), (p4, .inl (cI, 64, .inl fp)), (p5, .inl (cI, 5, .inl g))] → va_S A s.heap H locs → ∀ (ls : Array Slot), lv_has ls 6 [(0, .ref p0), (1, .int (nI (2 ^ K - 1))), (2, .int (nI (K - 1))), (3, .int (nI n - 1))] → W p l e (headSpec w_P_listSteps ({ frames := 1, cells := 0, slots := 0, locals := 20 } : Room)).room s m args below meth c H locs 0 0 (MQ below (va_Qv (fun (u : Nat → Int32) => ∀ k, k < K - 1 → u k = nI (T.getD k 0)) (fun (u : Nat → Int32) t => ct_at (dC, dI) ct_cl [(cI, .int)] (A) [(p0, .inr (2, [.ref z0, .ref p1, .ref p2, .ref p3, .ref p4, .ref p5])), (p4, .inl (cI, 64, .inl fp)), (p5, .inl (cI, 5, .inl u))] t) (A)) args s 0 0 A) (F0 m 13 ls []) := by
    intro n
    induction n with
    | zero =>
      intro g L hnK hinv H locs hP hD hS ls hl
      refine lv_iload_n hx hb d_P_listSteps_13 rfl (lv_at hl 3 rfl) ?_
      refine lv_if_lt (tgt := 87) hx hb d_P_listSteps_14 (by decide) (fun _ => ?_) (fun hc9 => absurd (by decide) hc9)
      have hP9 := hP.sub [0, 1, 2] rfl
      exact W.vret hx hb hr (fun tS ht hW => ⟨⟨g, rfl, fun k h9 => hinv.2.2.2 k (Nat.zero_le k) (by omega), by rw [ht]; exact hP9, va_K.moved hW.alike hK, hD.sub [0, 1, 2] (by decide) rfl⟩, hS.F ht⟩) hS.2.2 d_P_listSteps_87
    | succ n ih =>
      intro g L hnK hinv H locs hP hD hS ls hl
      rw [show nI (n + 1) - 1 = nI n from nI_pred n] at hl
      have htop := ct_inv_top hinv
      obtain ⟨S, L, rfl, hs, hS6, hgn⟩ := htop
      obtain ⟨hw1, hw2, L2, hinv2⟩ := ct_inv_step hB hinv
      have hSK : S < 2 ^ K := ct_pend_lt hB (T := T) (K := K) (by omega) hT hinv
      have hp := hB S hS6 hs
      have hpc := ct_pt_co S hS6 _ hp.1 hp.2
      have hp0 := ct_pt_pos hp.2
      refine lv_iload_n hx hb d_P_listSteps_13 rfl (lv_at hl 3 rfl) ?_
      refine lv_if_lt (tgt := 87) hx hb d_P_listSteps_14 (by decide) (fun hc9 => absurd hc9 (nI_pos (by omega))) (fun _ => ?_)
      refine lv_aload_n hx hb d_P_listSteps_17 rfl (lv_at hl 0 rfl) ?_
      refine va_get (D := (dC, dI)) (ci := 2) (v := .ref p4) (C := R_P) (T := T_P) (N := 6) hx hb hts (fun w h9 => ct_tl (ki_P w h9)) hown hK hP 0 rfl rfl 4 (by decide) (hts _ (ct_tl kw_71)) (fun _ h9 => h9) rfl d_P_listSteps_18 ?_
      refine lv_aload_n hx hb d_P_listSteps_21 rfl (lv_at hl 0 rfl) ?_
      refine va_get (D := (dC, dI)) (ci := 2) (v := .ref p5) (C := R_P) (T := T_P) (N := 6) hx hb hts (fun w h9 => ct_tl (ki_P w h9)) hown hK hP 0 rfl rfl 5 (by decide) (hts _ (ct_tl kw_72)) (fun _ h9 => h9) rfl d_P_listSteps_22 ?_
      refine lv_iload_n hx hb d_P_listSteps_25 rfl (lv_at hl 3 rfl) ?_
      refine ct_iald hx hb hK hP 2 0 rfl rfl (j := n) (by omega) (by omega) d_P_listSteps_26 ?_
      refine ct_val (y := nI S) (hgn) ?_
      refine ct_iald hx hb hK hP 1 0 rfl rfl (j := S) (by omega) (by omega) d_P_listSteps_27 ?_
      refine ct_val (y := nI (B S).2) (hfp S hSK hs) ?_
      refine lv_istore (lv' := [(4, .int (nI (B S).2)), (0, .ref p0), (1, .int (nI (2 ^ K - 1))), (2, .int (nI (K - 1))), (3, .int (nI n))]) hx hb d_P_listSteps_28 hl (by decide) rfl (fun ls hl => ?_)
      refine lv_aload_n hx hb d_P_listSteps_30 rfl (lv_at hl 1 rfl) ?_
      refine va_get (D := (dC, dI)) (ci := 2) (v := .ref p5) (C := R_P) (T := T_P) (N := 6) hx hb hts (fun w h9 => ct_tl (ki_P w h9)) hown hK hP 0 rfl rfl 5 (by decide) (hts _ (ct_tl kw_72)) (fun _ h9 => h9) rfl d_P_listSteps_31 ?_
      refine lv_iload_n hx hb d_P_listSteps_34 rfl (lv_at hl 4 rfl) ?_
      refine ct_iald hx hb hK hP 2 0 rfl rfl (j := n) (by omega) (by omega) d_P_listSteps_35 ?_
      refine ct_val (y := nI S) (hgn) ?_
      refine lv_iload hx hb d_P_listSteps_36 (lv_at hl 0 rfl) ?_
      refine lv_ixor hx hb d_P_listSteps_38 ?_
      refine ct_val (y := nI (S ^^^ (B S).2)) (ct_xor _ _) ?_
      refine lv_istore (lv' := [(5, .int (nI (S ^^^ (B S).2))), (4, .int (nI (B S).2)), (0, .ref p0), (1, .int (nI (2 ^ K - 1))), (2, .int (nI (K - 1))), (3, .int (nI n))]) hx hb d_P_listSteps_39 hl (by decide) rfl (fun ls hl => ?_)
      refine lv_iload hx hb d_P_listSteps_41 (lv_at hl 0 rfl) ?_
      refine va_calli (va_runS (As := [.int (nI (S ^^^ (B S).2))]) (rest := []) ⟨hx, hb, hml, hown, hts⟩ (c_P_isSeveral l dC dI cI (S ^^^ (B S).2) (by omega) hpc.1) (va_cwS 1 hts (ct_giT (fun w h9 => ct_tl h9) kw_179 kw_180 kw_28 kw_181) rfl rfl rfl (by decide +kernel) ⟨Nat.le_of_ble_eq_true rfl, Nat.le_of_ble_eq_true rfl⟩) ⟨ct_ro_blind, ct_ro_pre (hP.sub [] rfl) hK⟩ rfl rfl hl.1 rfl (lv_room (Nat.le_of_ble_eq_true rfl)) d_P_listSteps_43 ⟨Nat.le_of_ble_eq_true rfl, Nat.le_of_ble_eq_true rfl⟩) hS (fun q _ h9 => h9.elim) (fun q h9 => h9.elim) (fun ans1 uS tS H locs ht hvm hwans1 hB hz1 hk1 hS => ?_)
      have hP := ct_keep hP hk1
      refine ct_val (y := nI (if ct_sev (S ^^^ (B S).2) = true then 1 else 0)) (hwans1) ?_
      by_cases h3 : ct_sev (S ^^^ (B S).2) = true
      · rw [if_pos h3]
        refine lv_if_eq (tgt := 59) hx hb d_P_listSteps_46 (by decide) (fun hc9 => absurd hc9 (nI_ne0 (by omega) (by omega))) (fun _ => ?_)
        have hw4 := hw1 h3
        refine lv_aload_n hx hb d_P_listSteps_49 rfl (lv_at hl 2 rfl) ?_
        refine va_get (D := (dC, dI)) (ci := 2) (v := .ref p5) (C := R_P) (T := T_P) (N := 6) hx hb hts (fun w h9 => ct_tl (ki_P w h9)) hown hK hP 0 rfl rfl 5 (by decide) (hts _ (ct_tl kw_72)) (fun _ h9 => h9) rfl d_P_listSteps_50 ?_
        refine lv_iload_n hx hb d_P_listSteps_53 rfl (lv_at hl 5 rfl) ?_
        refine lv_iconst (v := (nI 1)) hx hb d_P_listSteps_54 (by decide) ?_
        refine lv_isub hx hb d_P_listSteps_55 ?_
        refine ct_val (y := nI (n - 1)) (pk_sub hw4) ?_
        refine lv_iload hx hb d_P_listSteps_56 (lv_at hl 0 rfl) ?_
        refine ct_iast hx hb hK hP hD hS 2 0 rfl rfl (j := n - 1) (by omega) (by omega) d_P_listSteps_58 (fun H locs hP hD hS => ?_)
        have hP : va_P (dC, dI) ct_cl [(p0, .inr (2, [.ref z0, .ref p1, .ref p2, .ref p3, .ref p4, .ref p5])), (p4, .inl (cI, 64, .inl fp)), (p5, .inl (cI, 5, .inl (upd g (n - 1) (nI (S ^^^ (B S).2)))))] H := hP
        have hD : va_D A [(p0, .inr (2, [.ref z0, .ref p1, .ref p2, .ref p3, .ref p4, .ref p5])), (p4, .inl (cI, 64, .inl fp)), (p5, .inl (cI, 5, .inl (upd g (n - 1) (nI (S ^^^ (B S).2)))))] := hD
        refine lv_iload hx hb d_P_listSteps_59 (lv_at hl 1 rfl) ?_
        refine va_calli (va_runS (As := [.int (nI (B S).2)]) (rest := []) ⟨hx, hb, hml, hown, hts⟩ (c_P_isSeveral l dC dI cI (B S).2 (by omega) hp0) (va_cwS 1 hts (ct_giT (fun w h9 => ct_tl h9) kw_179 kw_180 kw_28 kw_181) rfl rfl rfl (by decide +kernel) ⟨Nat.le_of_ble_eq_true rfl, Nat.le_of_ble_eq_true rfl⟩) ⟨ct_ro_blind, ct_ro_pre (hP.sub [] rfl) hK⟩ rfl rfl hl.1 rfl (lv_room (Nat.le_of_ble_eq_true rfl)) d_P_listSteps_61 ⟨Nat.le_of_ble_eq_true rfl, Nat.le_of_ble_eq_true rfl⟩) hS (fun q _ h9 => h9.elim) (fun q h9 => h9.elim) (fun ans102 uS tS H locs ht hvm hwans102 hB hz1 hk1 hS => ?_)
        have hP := ct_keep hP hk1
        refine ct_val (y := nI (if ct_sev ((B S).2) = true then 1 else 0)) (hwans102) ?_
        by_cases h4 : ct_sev (B S).2 = true
        · rw [if_pos h4]
          refine lv_if_eq (tgt := 81) hx hb d_P_listSteps_64 (by decide) (fun hc9 => absurd hc9 (nI_ne0 (by omega) (by omega))) (fun _ => ?_)
          refine lv_aload_n hx hb d_P_listSteps_67 rfl (lv_at hl 2 rfl) ?_
          refine va_get (D := (dC, dI)) (ci := 2) (v := .ref p5) (C := R_P) (T := T_P) (N := 6) hx hb hts (fun w h9 => ct_tl (ki_P w h9)) hown hK hP 0 rfl rfl 5 (by decide) (hts _ (ct_tl kw_72)) (fun _ h9 => h9) rfl d_P_listSteps_68 ?_
          refine lv_iload_n hx hb d_P_listSteps_71 rfl (lv_at hl 5 rfl) ?_
          refine lv_iload hx hb d_P_listSteps_72 (lv_at hl 0 rfl) ?_
          refine va_calli (va_runS (As := [.int (nI (S ^^^ (B S).2))]) (rest := [.int (nI n), .ref p5]) ⟨hx, hb, hml, hown, hts⟩ (c_I_bitCount l dC dI cI (S ^^^ (B S).2) (by omega)) (va_cwS 1 hts (ct_giT (fun w h9 => ct_tl h9) kw_202 kw_203 kw_38 kw_204) rfl rfl rfl (by decide +kernel) ⟨Nat.le_of_ble_eq_true rfl, Nat.le_of_ble_eq_true rfl⟩) ⟨ct_ro_blind, ct_ro_pre (hP.sub [] rfl) hK⟩ rfl rfl hl.1 rfl (lv_room (Nat.le_of_ble_eq_true rfl)) d_P_listSteps_74 ⟨Nat.le_of_ble_eq_true rfl, Nat.le_of_ble_eq_true rfl⟩) hS (fun q _ h9 => h9.elim) (fun q h9 => h9.elim) (fun ans203 uS tS H locs ht hvm hwans203 hB hz1 hk1 hS => ?_)
          have hP := ct_keep hP hk1
          refine ct_val (y := nI (ct_pop (S ^^^ (B S).2))) (hwans203) ?_
          have hw3 := hw2 h4
          refine lv_isub hx hb d_P_listSteps_77 ?_
          refine ct_val (y := nI (n - ct_pop (S ^^^ (B S).2))) (pk_sub hw3) ?_
          refine lv_iload hx hb d_P_listSteps_78 (lv_at hl 1 rfl) ?_
          refine ct_iast hx hb hK hP hD hS 2 0 rfl rfl (j := n - ct_pop (S ^^^ (B S).2)) (by omega) (by omega) d_P_listSteps_80 (fun H locs hP hD hS => ?_)
          have hP : va_P (dC, dI) ct_cl [(p0, .inr (2, [.ref z0, .ref p1, .ref p2, .ref p3, .ref p4, .ref p5])), (p4, .inl (cI, 64, .inl fp)), (p5, .inl (cI, 5, .inl (upd (upd g (n - 1) (nI (S ^^^ (B S).2))) (n - ct_pop (S ^^^ (B S).2)) (nI (B S).2))))] H := hP
          have hD : va_D A [(p0, .inr (2, [.ref z0, .ref p1, .ref p2, .ref p3, .ref p4, .ref p5])), (p4, .inl (cI, 64, .inl fp)), (p5, .inl (cI, 5, .inl (upd (upd g (n - 1) (nI (S ^^^ (B S).2))) (n - ct_pop (S ^^^ (B S).2)) (nI (B S).2))))] := hD
          have eg : ct_wr B g n S = (upd (upd g (n - 1) (nI (S ^^^ (B S).2))) (n - ct_pop (S ^^^ (B S).2)) (nI (B S).2)) := by rw [ct_wr]; simp only [if_pos h3, if_pos h4]
          rw [← eg] at hP hD
          refine lv_iinc (v := (nI n - 1)) (lv' := [(3, .int (nI n - 1)), (5, .int (nI (S ^^^ (B S).2))), (4, .int (nI (B S).2)), (0, .ref p0), (1, .int (nI (2 ^ K - 1))), (2, .int (nI (K - 1)))]) hx hb d_P_listSteps_81 hl (k := 5) rfl (by rw [Int32.sub_eq_add_neg]; rfl) (by decide) rfl (fun ls hl => ?_)
          refine lv_goto (tgt := 13) hx hb d_P_listSteps_84 (by decide) ?_
          exact ih (ct_wr B g n S) L2 (by omega) hinv2 H locs hP hD hS ls (lv_sub hl [3, 4, 5, 0] rfl)
        · rw [if_neg h4]
          refine lv_if_eq (tgt := 81) hx hb d_P_listSteps_64 (by decide) (fun _ => ?_) (fun hc9 => absurd (nI_0) hc9)
          have eg : ct_wr B g n S = (upd g (n - 1) (nI (S ^^^ (B S).2))) := by rw [ct_wr]; simp only [if_pos h3, if_neg h4]
          rw [← eg] at hP hD
          refine lv_iinc (v := (nI n - 1)) (lv' := [(3, .int (nI n - 1)), (5, .int (nI (S ^^^ (B S).2))), (4, .int (nI (B S).2)), (0, .ref p0), (1, .int (nI (2 ^ K - 1))), (2, .int (nI (K - 1)))]) hx hb d_P_listSteps_81 hl (k := 5) rfl (by rw [Int32.sub_eq_add_neg]; rfl) (by decide) rfl (fun ls hl => ?_)
          refine lv_goto (tgt := 13) hx hb d_P_listSteps_84 (by decide) ?_
          exact ih (ct_wr B g n S) L2 (by omega) hinv2 H locs hP hD hS ls (lv_sub hl [3, 4, 5, 0] rfl)
      · rw [if_neg h3]
        refine lv_if_eq (tgt := 59) hx hb d_P_listSteps_46 (by decide) (fun _ => ?_) (fun hc9 => absurd (nI_0) hc9)
        refine lv_iload hx hb d_P_listSteps_59 (lv_at hl 1 rfl) ?_
        refine va_calli (va_runS (As := [.int (nI (B S).2)]) (rest := []) ⟨hx, hb, hml, hown, hts⟩ (c_P_isSeveral l dC dI cI (B S).2 (by omega) hp0) (va_cwS 1 hts (ct_giT (fun w h9 => ct_tl h9) kw_179 kw_180 kw_28 kw_181) rfl rfl rfl (by decide +kernel) ⟨Nat.le_of_ble_eq_true rfl, Nat.le_of_ble_eq_true rfl⟩) ⟨ct_ro_blind, ct_ro_pre (hP.sub [] rfl) hK⟩ rfl rfl hl.1 rfl (lv_room (Nat.le_of_ble_eq_true rfl)) d_P_listSteps_61 ⟨Nat.le_of_ble_eq_true rfl, Nat.le_of_ble_eq_true rfl⟩) hS (fun q _ h9 => h9.elim) (fun q h9 => h9.elim) (fun ans102 uS tS H locs ht hvm hwans102 hB hz1 hk1 hS => ?_)
        have hP := ct_keep hP hk1
        refine ct_val (y := nI (if ct_sev ((B S).2) = true then 1 else 0)) (hwans102) ?_
        by_cases h4 : ct_sev (B S).2 = true
        · rw [if_pos h4]
          refine lv_if_eq (tgt := 81) hx hb d_P_listSteps_64 (by decide) (fun hc9 => absurd hc9 (nI_ne0 (by omega) (by omega))) (fun _ => ?_)
          refine lv_aload_n hx hb d_P_listSteps_67 rfl (lv_at hl 2 rfl) ?_
          refine va_get (D := (dC, dI)) (ci := 2) (v := .ref p5) (C := R_P) (T := T_P) (N := 6) hx hb hts (fun w h9 => ct_tl (ki_P w h9)) hown hK hP 0 rfl rfl 5 (by decide) (hts _ (ct_tl kw_72)) (fun _ h9 => h9) rfl d_P_listSteps_68 ?_
          refine lv_iload_n hx hb d_P_listSteps_71 rfl (lv_at hl 5 rfl) ?_
          refine lv_iload hx hb d_P_listSteps_72 (lv_at hl 0 rfl) ?_
          refine va_calli (va_runS (As := [.int (nI (S ^^^ (B S).2))]) (rest := [.int (nI n), .ref p5]) ⟨hx, hb, hml, hown, hts⟩ (c_I_bitCount l dC dI cI (S ^^^ (B S).2) (by omega)) (va_cwS 1 hts (ct_giT (fun w h9 => ct_tl h9) kw_202 kw_203 kw_38 kw_204) rfl rfl rfl (by decide +kernel) ⟨Nat.le_of_ble_eq_true rfl, Nat.le_of_ble_eq_true rfl⟩) ⟨ct_ro_blind, ct_ro_pre (hP.sub [] rfl) hK⟩ rfl rfl hl.1 rfl (lv_room (Nat.le_of_ble_eq_true rfl)) d_P_listSteps_74 ⟨Nat.le_of_ble_eq_true rfl, Nat.le_of_ble_eq_true rfl⟩) hS (fun q _ h9 => h9.elim) (fun q h9 => h9.elim) (fun ans203 uS tS H locs ht hvm hwans203 hB hz1 hk1 hS => ?_)
          have hP := ct_keep hP hk1
          refine ct_val (y := nI (ct_pop (S ^^^ (B S).2))) (hwans203) ?_
          have hw3 := hw2 h4
          refine lv_isub hx hb d_P_listSteps_77 ?_
          refine ct_val (y := nI (n - ct_pop (S ^^^ (B S).2))) (pk_sub hw3) ?_
          refine lv_iload hx hb d_P_listSteps_78 (lv_at hl 1 rfl) ?_
          refine ct_iast hx hb hK hP hD hS 2 0 rfl rfl (j := n - ct_pop (S ^^^ (B S).2)) (by omega) (by omega) d_P_listSteps_80 (fun H locs hP hD hS => ?_)
          have hP : va_P (dC, dI) ct_cl [(p0, .inr (2, [.ref z0, .ref p1, .ref p2, .ref p3, .ref p4, .ref p5])), (p4, .inl (cI, 64, .inl fp)), (p5, .inl (cI, 5, .inl (upd g (n - ct_pop (S ^^^ (B S).2)) (nI (B S).2))))] H := hP
          have hD : va_D A [(p0, .inr (2, [.ref z0, .ref p1, .ref p2, .ref p3, .ref p4, .ref p5])), (p4, .inl (cI, 64, .inl fp)), (p5, .inl (cI, 5, .inl (upd g (n - ct_pop (S ^^^ (B S).2)) (nI (B S).2))))] := hD
          have eg : ct_wr B g n S = (upd g (n - ct_pop (S ^^^ (B S).2)) (nI (B S).2)) := by rw [ct_wr]; simp only [if_neg h3, if_pos h4]
          rw [← eg] at hP hD
          refine lv_iinc (v := (nI n - 1)) (lv' := [(3, .int (nI n - 1)), (5, .int (nI (S ^^^ (B S).2))), (4, .int (nI (B S).2)), (0, .ref p0), (1, .int (nI (2 ^ K - 1))), (2, .int (nI (K - 1)))]) hx hb d_P_listSteps_81 hl (k := 5) rfl (by rw [Int32.sub_eq_add_neg]; rfl) (by decide) rfl (fun ls hl => ?_)
          refine lv_goto (tgt := 13) hx hb d_P_listSteps_84 (by decide) ?_
          exact ih (ct_wr B g n S) L2 (by omega) hinv2 H locs hP hD hS ls (lv_sub hl [3, 4, 5, 0] rfl)
        · rw [if_neg h4]
          refine lv_if_eq (tgt := 81) hx hb d_P_listSteps_64 (by decide) (fun _ => ?_) (fun hc9 => absurd (nI_0) hc9)
          have eg : ct_wr B g n S = g := by rw [ct_wr]; simp only [if_neg h3, if_neg h4]
          rw [← eg] at hP hD
          refine lv_iinc (v := (nI n - 1)) (lv' := [(3, .int (nI n - 1)), (5, .int (nI (S ^^^ (B S).2))), (4, .int (nI (B S).2)), (0, .ref p0), (1, .int (nI (2 ^ K - 1))), (2, .int (nI (K - 1)))]) hx hb d_P_listSteps_81 hl (k := 5) rfl (by rw [Int32.sub_eq_add_neg]; rfl) (by decide) rfl (fun ls hl => ?_)
          refine lv_goto (tgt := 13) hx hb d_P_listSteps_84 (by decide) ?_
          exact ih (ct_wr B g n S) L2 (by omega) hinv2 H locs hP hD hS ls (lv_sub hl [3, 4, 5, 0] rfl)
  refine lv_aload_n hx hb d_P_listSteps_0 rfl (lv_at hl 0 rfl) ?_
  refine va_get (D := (dC, dI)) (ci := 2) (v := .ref p5) (C := R_P) (T := T_P) (N := 6) hx hb hts (fun w h9 => ct_tl (ki_P w h9)) hown hK hP 0 rfl rfl 5 (by decide) (hts _ (ct_tl kw_72)) (fun _ h9 => h9) rfl d_P_listSteps_1 ?_
  refine lv_iload_n hx hb d_P_listSteps_4 rfl (lv_at hl 2 rfl) ?_
  refine lv_iconst (v := (nI 1)) hx hb d_P_listSteps_5 (by decide) ?_
  refine lv_isub hx hb d_P_listSteps_6 ?_
  refine ct_val (y := nI (K - 1 - 1)) (pk_sub (by omega)) ?_
  refine lv_iload_n hx hb d_P_listSteps_7 rfl (lv_at hl 1 rfl) ?_
  refine ct_iast hx hb hK hP hD hS 2 0 rfl rfl (j := K - 1 - 1) (by omega) (by omega) d_P_listSteps_8 (fun H locs hP hD hS => ?_)
  have hP : va_P (dC, dI) ct_cl [(p0, .inr (2, [.ref z0, .ref p1, .ref p2, .ref p3, .ref p4, .ref p5])), (p4, .inl (cI, 64, .inl fp)), (p5, .inl (cI, 5, .inl (upd fj (K - 1 - 1) (nI (2 ^ K - 1)))))] H := hP
  have hD : va_D A [(p0, .inr (2, [.ref z0, .ref p1, .ref p2, .ref p3, .ref p4, .ref p5])), (p4, .inl (cI, 64, .inl fp)), (p5, .inl (cI, 5, .inl (upd fj (K - 1 - 1) (nI (2 ^ K - 1)))))] := hD
  refine lv_iload_n hx hb d_P_listSteps_9 rfl (lv_at hl 2 rfl) ?_
  refine lv_iconst (v := (nI 1)) hx hb d_P_listSteps_10 (by decide) ?_
  refine lv_isub hx hb d_P_listSteps_11 ?_
  refine ct_val (y := nI (K - 1) - 1) (rfl) ?_
  refine lv_istore_n (lv' := [(3, .int (nI (K - 1) - 1)), (0, .ref p0), (1, .int (nI (2 ^ K - 1))), (2, .int (nI (K - 1)))]) hx hb d_P_listSteps_12 rfl hl (by decide) rfl (fun ls hl => ?_)
  have h0 := ct_inv_0 (B := B) (g := fj) hB (S := 2 ^ K - 1) (by omega) hsall
  rw [hT, hlen] at h0
  exact loop (K - 1) _ _ (Nat.le_refl _) h0 _ _ hP hD hS ls (lv_sub hl [1, 2, 3, 0] rfl)
end
section
/-- the plan's arrays hold the plan -/
def ct_plok (sz la : Nat → Nat) (K R : Nat) (fh fl fc fp fj : Nat → Int32) : Prop := (∀ S, S < 2 ^ K → fh S = nI (ct_has la S K)) ∧ (∀ S, 0 < S → S < 2 ^ K → fl S = nI (ct_lv la K R S)) ∧ (∀ S, 0 < S → S < 2 ^ K → fc S = nI (ct_B (ct_jc sz la K R) S).1) ∧ (∀ S, S < 2 ^ K → ct_sev S = true → fp S = nI (ct_B (ct_jc sz la K R) S).2) ∧ (∀ k, k < K - 1 → fj k = nI ((ct_ls (ct_B (ct_jc sz la K R)) 64 (2 ^ K - 1)).getD k 0))
/-- what the plan's arrays always keep -/
def ct_plk (fh fc : Nat → Int32) : Prop := fh 0 = nI 0 ∧ ∀ S, S < 64 → 0 < S → ct_sev S = false → fc S = nI 0
theorem ct_okB_B (jc : Nat → Nat → Nat) : ct_okB (ct_B jc) := fun S hS hs => ⟨(ct_B_part hS hs).1, (ct_B_part hS hs).2.1⟩
theorem ct_has_0 (la : Nat → Nat) (n : Nat) : ct_has la 0 n = 0 := by
  induction n with
  | zero => rfl
  | succ n ih => rw [ct_has_out (by simp)]; exact ih
set_option maxHeartbeats 4000000 in
set_option maxRecDepth 100000 in
theorem c_P_make (l : Launch) (dC : Nat → ClassId) (dI : Nat → Nat → Nat) (cI : ClassId) (z1 : Nat) (sz : Nat → Nat) (z0 p0 p1 p2 p3 p4 p5 : Nat) (o1 : Nat) (fh fl fc fp fj fo : Nat → Int32) (la : Nat → Nat) (K R : Nat) (hK6 : K ≤ 6) (hK2 : 2 ≤ K) (hsz : ∀ k, k < 8 → sz k ≤ 3) (hla : ∀ k, k < K → la k < 256) (hfo : ∀ j, j < K → fo j = nI (la j)) (hk0 : ct_plk fh fc) (sz0 : Nat) : Met l y_P_make w_P_make ({ frames := 3, cells := 0, slots := 0, locals := 72 }) (va_Pc [.ref p0, .ref o1, .int (nI K), .int (nI R)] (ct_rw (dC, dI) ct_cl [(p0, .inr (2, [.ref z0, .ref p1, .ref p2, .ref p3, .ref p4, .ref p5])), (p1, .inl (cI, 64, .inl fh)), (p2, .inl (cI, 64, .inl fl)), (p3, .inl (cI, 64, .inl fc)), (p4, .inl (cI, 64, .inl fp)), (p5, .inl (cI, 5, .inl fj)), (z0, .inr (1, [.ref z1])), (z1, .inl (cI, 8, .inl (fun j => nI (sz j)))), (o1, .inl (cI, 6, .inl fo))] [(cI, .int)] sz0)) (va_Qv (fun (u : (Nat → Int32) × (Nat → Int32) × (Nat → Int32) × (Nat → Int32) × (Nat → Int32)) => ct_plok sz la K R u.1 u.2.1 u.2.2.1 u.2.2.2.1 u.2.2.2.2 ∧ ct_plk u.1 u.2.2.1) (fun (u : (Nat → Int32) × (Nat → Int32) × (Nat → Int32) × (Nat → Int32) × (Nat → Int32)) t => ct_at (dC, dI) ct_cl [(cI, .int)] (va_A [(p0, .inr (2, [.ref z0, .ref p1, .ref p2, .ref p3, .ref p4, .ref p5])), (p1, .inl (cI, 64, .inl fh)), (p2, .inl (cI, 64, .inl fl)), (p3, .inl (cI, 64, .inl fc)), (p4, .inl (cI, 64, .inl fp)), (p5, .inl (cI, 5, .inl fj)), (z0, .inr (1, [.ref z1])), (z1, .inl (cI, 8, .inl (fun j => nI (sz j)))), (o1, .inl (cI, 6, .inl fo))] sz0) [(p0, .inr (2, [.ref z0, .ref p1, .ref p2, .ref p3, .ref p4, .ref p5])), (p1, .inl (cI, 64, .inl (u.1))), (p2, .inl (cI, 64, .inl (u.2.1))), (p3, .inl (cI, 64, .inl (u.2.2.1))), (p4, .inl (cI, 64, .inl (u.2.2.2.1))), (p5, .inl (cI, 5, .inl (u.2.2.2.2))), (z0, .inr (1, [.ref z1])), (z1, .inl (cI, 8, .inl (fun j => nI (sz j)))), (o1, .inl (cI, 6, .inl fo))] t) (va_A [(p0, .inr (2, [.ref z0, .ref p1, .ref p2, .ref p3, .ref p4, .ref p5])), (p1, .inl (cI, 64, .inl fh)), (p2, .inl (cI, 64, .inl fl)), (p3, .inl (cI, 64, .inl fc)), (p4, .inl (cI, 64, .inl fp)), (p5, .inl (cI, 5, .inl fj)), (z0, .inr (1, [.ref z1])), (z1, .inl (cI, 8, .inl (fun j => nI (sz j)))), (o1, .inl (cI, 6, .inl fo))] sz0)) 0 0 (va_A [(p0, .inr (2, [.ref z0, .ref p1, .ref p2, .ref p3, .ref p4, .ref p5])), (p1, .inl (cI, 64, .inl fh)), (p2, .inl (cI, 64, .inl fl)), (p3, .inl (cI, 64, .inl fc)), (p4, .inl (cI, 64, .inl fp)), (p5, .inl (cI, 5, .inl fj)), (z0, .inr (1, [.ref z1])), (z1, .inl (cI, 8, .inl (fun j => nI (sz j)))), (o1, .inl (cI, 6, .inl fo))] sz0) := by
  refine Met.ofW (cc := b_P_make) (maxL := 6) (ret := none) (by decide) rfl ?_
  intro p e s m args below meth c s₁ Bd hml hv
  obtain ⟨hargs, hsz, hP, hK, hD0⟩ := hv
  have hx := Bd.exec
  have hb := Bd.bytes
  have hr := Bd.returns
  have hts : ∀ w ∈ k_P_make :: ct_tb, w.before args s = true := atoms_spec (ws := w_P_make) Bd.pre
  have hown : s.vm.findClass R_P = some m.cls := findClass_of_methodNamed Bd.named
  have hlocks := Bd.notSynchronized
  subst hsz
  have hD := hD0.self (sz := s.heap.size)
  generalize hAe : va_A [(p0, .inr (2, [.ref z0, .ref p1, .ref p2, .ref p3, .ref p4, .ref p5])), (p1, .inl (cI, 64, .inl fh)), (p2, .inl (cI, 64, .inl fl)), (p3, .inl (cI, 64, .inl fc)), (p4, .inl (cI, 64, .inl fp)), (p5, .inl (cI, 5, .inl fj)), (z0, .inr (1, [.ref z1])), (z1, .inl (cI, 8, .inl (fun j => nI (sz j)))), (o1, .inl (cI, 6, .inl fo))] s.heap.size = A at hD ⊢
  have hA : ∀ q : Nat, s.heap.size ≤ q → A q := fun q h => by rw [← hAe]; exact Or.inr h
  have hS : va_S A s.heap s.heap [] := va_S.rf
  have hl := lv_entry ([.ref p0, .ref o1, .int (nI K), .int (nI R)]) (n := 6) (Nat.le_of_ble_eq_true rfl)
  rw [show entryFrame m args 6 = entryFrame m (([.ref p0, .ref o1, .int (nI K), .int (nI R)] : List Value)).toArray 6 by rw [hargs], lg_entry_eq]
  generalize (lg_sl ([.ref p0, .ref o1, .int (nI K), .int (nI R)]) ++ List.replicate (6 - (lg_sl ([.ref p0, .ref o1, .int (nI K), .int (nI R)])).length) Slot.unset).toArray = ls at hl ⊢
  have hl : lv_has ls 6 [(0, .ref p0), (1, .ref o1), (2, .int (nI K)), (3, .int (nI R))] := hl
  have h2K := ct_2K K (by omega)
  have loop2 : ∀ (gh gl : Nat → Int32), (∀ S, S < 2 ^ K → gh S = nI (ct_has la S K)) → (∀ S, 0 < S → S < 2 ^ K → gl S = nI (ct_lv la K R S)) → ∀ (n i : Nat), i + n = 2 ^ K → 0 < i → ∀ (gc gp : Nat → Int32), (∀ S, 0 < S → S < i → gc S = nI (ct_B (ct_jc sz la K R) S).1) → (∀ S, S < i → ct_sev S = true → gp S = nI (ct_B (ct_jc sz la K R) S).2) → (∀ S, S < 64 → 0 < S → ct_sev S = false → gc S = nI 0) → ∀ (H : Heap) (locs : List Loc), va_P (dC, dI) ct_cl [(p0, .inr (2, [.ref z0, .ref p1, .ref p2, .ref p3, .ref p4, .ref p5])), (p1, .inl (cI, 64, .inl gh)), (p2, .inl (cI, 64, .inl gl)), (p3, .inl (cI, 64, .inl gc)), (p4, .inl (cI, 64, .inl gp)), (p5, .inl (cI, 5, .inl fj)), (z0, .inr (1, [.ref z1])), (z1, .inl (cI, 8, .inl (fun j => nI (sz j)))), (o1, .inl (cI, 6, .inl fo))] H → va_D A [(p0, .inr (2, [.ref z0, .ref p1, .ref p2, .ref p3, .ref p4, .ref p5])), (p1, .inl (cI, 64, .inl gh)), (p2, .inl (cI, 64, .inl gl)), (p3, .inl (cI, 64, .inl gc)), (p4, .inl (cI, 64, .inl gp)), (p5, .inl (cI, 5, .inl fj)), (z0, .inr (1, [.ref z1])), (z1, .inl (cI, 8, .inl (fun j => nI (sz j)))), (o1, .inl (cI, 6, .inl fo))] → va_S A s.heap H locs → ∀ (ls : Array Slot), lv_has ls 6 [(0, .ref p0), (1, .ref o1), (2, .int (nI K)), (3, .int (nI R)), (4, .int (nI (2 ^ K - 1))), (5, .int (nI i))] → W p l e (headSpec w_P_make ({ frames := 3, cells := 0, slots := 0, locals := 72 } : Room)).room s m args below meth c H locs 0 0 (MQ below (va_Qv (fun (u : (Nat → Int32) × (Nat → Int32) × (Nat → Int32) × (Nat → Int32) × (Nat → Int32)) => ct_plok sz la K R u.1 u.2.1 u.2.2.1 u.2.2.2.1 u.2.2.2.2 ∧ ct_plk u.1 u.2.2.1) (fun (u : (Nat → Int32) × (Nat → Int32) × (Nat → Int32) × (Nat → Int32) × (Nat → Int32)) t => ct_at (dC, dI) ct_cl [(cI, .int)] (A) [(p0, .inr (2, [.ref z0, .ref p1, .ref p2, .ref p3, .ref p4, .ref p5])), (p1, .inl (cI, 64, .inl (u.1))), (p2, .inl (cI, 64, .inl (u.2.1))), (p3, .inl (cI, 64, .inl (u.2.2.1))), (p4, .inl (cI, 64, .inl (u.2.2.2.1))), (p5, .inl (cI, 5, .inl (u.2.2.2.2))), (z0, .inr (1, [.ref z1])), (z1, .inl (cI, 8, .inl (fun j => nI (sz j)))), (o1, .inl (cI, 6, .inl fo))] t) (A)) args s 0 0 A) (F0 m 41 ls []) := by
    intro gh gl hgh hgl
    intro n
    induction n with
    | zero =>
      intro i hi hi0 gc gp hgc hgp hg0 H locs hP hD hS ls hl
      refine lv_iload hx hb d_P_make_41 (lv_at hl 5 rfl) ?_
      refine lv_iload hx hb d_P_make_43 (lv_at hl 4 rfl) ?_
      refine lv_icmp_gt (tgt := 68) hx hb d_P_make_45 (by decide) (fun _ => ?_) (fun hc9 => absurd (nI_lt (by omega) (by omega)) hc9)
      refine lv_aload_n hx hb d_P_make_68 rfl (lv_at hl 0 rfl) ?_
      refine lv_iload hx hb d_P_make_69 (lv_at hl 4 rfl) ?_
      refine lv_iload_n hx hb d_P_make_71 rfl (lv_at hl 2 rfl) ?_
      refine lv_iconst (v := (nI 1)) hx hb d_P_make_72 (by decide) ?_
      refine lv_isub hx hb d_P_make_73 ?_
      refine ct_val (y := nI (K - 1)) (pk_sub (by omega)) ?_
      have hPc := hP.sub (ws' := [(p0, .inr (2, [.ref z0, .ref p1, .ref p2, .ref p3, .ref p4, .ref p5])), (p4, .inl (cI, 64, .inl gp)), (p5, .inl (cI, 5, .inl fj))]) [0, 4, 5] rfl
      have hDc := hD.sub (ws' := [(p0, .inr (2, [.ref z0, .ref p1, .ref p2, .ref p3, .ref p4, .ref p5])), (p4, .inl (cI, 64, .inl gp)), (p5, .inl (cI, 5, .inl fj))]) [0, 4, 5] (by decide) rfl
      have hFc := va_free (wc := [(p0, .inr (2, [.ref z0, .ref p1, .ref p2, .ref p3, .ref p4, .ref p5])), (p4, .inl (cI, 64, .inl gp)), (p5, .inl (cI, 5, .inl fj))]) hD hS hA [0, 4, 5] rfl
      refine va_callv (va_runV (As := [.int (nI (2 ^ K - 1)), .int (nI (K - 1))]) (rest := []) ⟨hx, hb, hml, hown, hts⟩ (c_P_listSteps l dC dI cI z0 p0 p1 p2 p3 p4 p5 gp fj (ct_B (ct_jc sz la K R)) K hK6 hK2 (ct_okB_B _) (fun S h9 h8 => hgp S (by omega) h8) H.size) (cwV 2 hts (ct_giV (fun w h9 => ct_tl h9) kw_198 kw_200 kw_5 kw_28 kw_201) rfl rfl rfl (by decide +kernel) ⟨Nat.le_of_ble_eq_true rfl, Nat.le_of_ble_eq_true rfl⟩) ⟨ct_rw_blind, va_recv hK hP (ci := 2) (q0 := 0) rfl rfl, ct_rw_pre hPc hK hDc⟩ rfl rfl hl.1 rfl (lv_room (Nat.le_of_ble_eq_true rfl)) d_P_make_74 ⟨Nat.le_of_ble_eq_true rfl, Nat.le_of_ble_eq_true rfl⟩) hS (fun q _ h9 => hFc q h9) hFc (fun fj2 tS H1 locs ht hvm hw9 hB hz1 hk1 hS => ?_)
      obtain ⟨hP1, -, hD1⟩ := hB
      rw [ht] at hP1
      obtain ⟨hP, hD⟩ := va_join (wr := [(p1, .inl (cI, 64, .inl gh)), (p2, .inl (cI, 64, .inl gl)), (p3, .inl (cI, 64, .inl gc)), (z0, .inr (1, [.ref z1])), (z1, .inl (cI, 8, .inl (fun j => nI (sz j)))), (o1, .inl (cI, 6, .inl fo))]) (w1 := [(p0, .inr (2, [.ref z0, .ref p1, .ref p2, .ref p3, .ref p4, .ref p5])), (p4, .inl (cI, 64, .inl gp)), (p5, .inl (cI, 5, .inl fj2))]) hP hD [0, 4, 5] [1, 2, 3, 6, 7, 8] rfl rfl (by decide) (by decide) hk1 hFc hP1 hD1
      generalize H1 = H at hP hS ⊢
      have hP : va_P (dC, dI) ct_cl [(p1, .inl (cI, 64, .inl gh)), (p2, .inl (cI, 64, .inl gl)), (p3, .inl (cI, 64, .inl gc)), (z0, .inr (1, [.ref z1])), (z1, .inl (cI, 8, .inl (fun j => nI (sz j)))), (o1, .inl (cI, 6, .inl fo)), (p0, .inr (2, [.ref z0, .ref p1, .ref p2, .ref p3, .ref p4, .ref p5])), (p4, .inl (cI, 64, .inl gp)), (p5, .inl (cI, 5, .inl fj2))] H := hP
      have hD : va_D A [(p1, .inl (cI, 64, .inl gh)), (p2, .inl (cI, 64, .inl gl)), (p3, .inl (cI, 64, .inl gc)), (z0, .inr (1, [.ref z1])), (z1, .inl (cI, 8, .inl (fun j => nI (sz j)))), (o1, .inl (cI, 6, .inl fo)), (p0, .inr (2, [.ref z0, .ref p1, .ref p2, .ref p3, .ref p4, .ref p5])), (p4, .inl (cI, 64, .inl gp)), (p5, .inl (cI, 5, .inl fj2))] := hD
      have hP9 := hP.sub [6, 0, 1, 2, 7, 8, 3, 4, 5] rfl
      exact W.vret hx hb hr (fun tS ht hW => ⟨⟨(gh, gl, gc, gp, fj2), rfl, ⟨⟨hgh, hgl, fun S h8 h9 => hgc S h8 (by omega), fun S h9 h8 => hgp S (by omega) h8, hw9⟩, by show gh 0 = nI 0; rw [hgh 0 (by omega), ct_has_0], hg0⟩, by rw [ht]; exact hP9, va_K.moved hW.alike hK, hD.sub [6, 0, 1, 2, 7, 8, 3, 4, 5] (by decide) rfl⟩, hS.F ht⟩) hS.2.2 d_P_make_77
    | succ n ih =>
      intro i hi hi0 gc gp hgc hgp hg0 H locs hP hD hS ls hl
      refine lv_iload hx hb d_P_make_41 (lv_at hl 5 rfl) ?_
      refine lv_iload hx hb d_P_make_43 (lv_at hl 4 rfl) ?_
      refine lv_icmp_gt (tgt := 68) hx hb d_P_make_45 (by decide) (fun hc9 => absurd hc9 (nI_nlt (by omega) (by omega))) (fun _ => ?_)
      refine lv_iload hx hb d_P_make_48 (lv_at hl 5 rfl) ?_
      refine va_calli (va_runS (As := [.int (nI i)]) (rest := []) ⟨hx, hb, hml, hown, hts⟩ (c_P_isSeveral l dC dI cI i (by omega) hi0) (va_cwS 1 hts (ct_giT (fun w h9 => ct_tl h9) kw_179 kw_180 kw_28 kw_181) rfl rfl rfl (by decide +kernel) ⟨Nat.le_of_ble_eq_true rfl, Nat.le_of_ble_eq_true rfl⟩) ⟨ct_ro_blind, ct_ro_pre (hP.sub [] rfl) hK⟩ rfl rfl hl.1 rfl (lv_room (Nat.le_of_ble_eq_true rfl)) d_P_make_50 ⟨Nat.le_of_ble_eq_true rfl, Nat.le_of_ble_eq_true rfl⟩) hS (fun q _ h9 => h9.elim) (fun q h9 => h9.elim) (fun ans1 uS tS H locs ht hvm hwans1 hB hz1 hk1 hS => ?_)
      have hP := ct_keep hP hk1
      refine ct_val (y := nI (if ct_sev i = true then 1 else 0)) (hwans1) ?_
      by_cases hs : ct_sev i = true
      · rw [if_pos hs]
        refine lv_if_eq (tgt := 62) hx hb d_P_make_53 (by decide) (fun hc9 => absurd hc9 (nI_ne0 (by omega) (by omega))) (fun _ => ?_)
        refine lv_aload_n hx hb d_P_make_56 rfl (lv_at hl 0 rfl) ?_
        refine lv_iload hx hb d_P_make_57 (lv_at hl 5 rfl) ?_
        have hcb : ∀ a, a < i → ct_pt i a = true → (fun a => (ct_B (ct_jc sz la K R) a).1 + (ct_B (ct_jc sz la K R) (i ^^^ a)).1 + ct_jc sz la K R a (i ^^^ a)) a < 2 ^ 31 := fun a h8 h9 => by
            have q1 := ct_pt_co i (by omega) a h8 h9
            have q2 := ct_B_le (jc := (ct_jc sz la K R)) (ct_jc_le hsz) 64 a (by omega) (by omega) (ct_pt_pos h9)
            have q3 := ct_B_le (jc := (ct_jc sz la K R)) (ct_jc_le hsz) 64 (i ^^^ a) (by omega) (by omega) q1.1
            have q4 := ct_jc_le (la := la) (K := K) (R := R) hsz a (i ^^^ a)
            show (ct_B (ct_jc sz la K R) a).1 + (ct_B (ct_jc sz la K R) (i ^^^ a)).1 + ct_jc sz la K R a (i ^^^ a) < _
            omega
        have hPc := hP.sub (ws' := [(p0, .inr (2, [.ref z0, .ref p1, .ref p2, .ref p3, .ref p4, .ref p5])), (p2, .inl (cI, 64, .inl gl)), (p3, .inl (cI, 64, .inl gc)), (p4, .inl (cI, 64, .inl gp)), (z0, .inr (1, [.ref z1])), (z1, .inl (cI, 8, .inl (fun j => nI (sz j))))]) [0, 2, 3, 4, 6, 7] rfl
        have hDc := hD.sub (ws' := [(p0, .inr (2, [.ref z0, .ref p1, .ref p2, .ref p3, .ref p4, .ref p5])), (p2, .inl (cI, 64, .inl gl)), (p3, .inl (cI, 64, .inl gc)), (p4, .inl (cI, 64, .inl gp)), (z0, .inr (1, [.ref z1])), (z1, .inl (cI, 8, .inl (fun j => nI (sz j))))]) [0, 2, 3, 4, 6, 7] (by decide) rfl
        have hFc := va_free (wc := [(p0, .inr (2, [.ref z0, .ref p1, .ref p2, .ref p3, .ref p4, .ref p5])), (p2, .inl (cI, 64, .inl gl)), (p3, .inl (cI, 64, .inl gc)), (p4, .inl (cI, 64, .inl gp)), (z0, .inr (1, [.ref z1])), (z1, .inl (cI, 8, .inl (fun j => nI (sz j))))]) hD hS hA [0, 2, 3, 4, 6, 7] rfl
        refine va_callv (va_runV (As := [.int (nI i)]) (rest := []) ⟨hx, hb, hml, hown, hts⟩ (c_P_choosePart l dC dI cI z1 sz z0 p0 p1 p2 p3 p4 p5 gl gc gp (ct_lv la K R) (fun a => (ct_B (ct_jc sz la K R) a).1) (fun a => (ct_B (ct_jc sz la K R) a).1 + (ct_B (ct_jc sz la K R) (i ^^^ a)).1 + ct_jc sz la K R a (i ^^^ a)) i (by omega) hs (fun a h8 h9 => hgl a h8 (by omega)) (fun a h8 h9 => hgc a h8 h9) (fun a => ct_lv_lt hla) (fun a h8 h9 => rfl) hcb H.size) (cwV 1 hts (ct_giV (fun w h9 => ct_tl h9) kw_182 kw_184 kw_4 kw_28 kw_185) rfl rfl rfl (by decide +kernel) ⟨Nat.le_of_ble_eq_true rfl, Nat.le_of_ble_eq_true rfl⟩) ⟨ct_rw_blind, va_recv hK hP (ci := 2) (q0 := 0) rfl rfl, ct_rw_pre hPc hK hDc⟩ rfl rfl hl.1 rfl (lv_room (Nat.le_of_ble_eq_true rfl)) d_P_make_59 ⟨Nat.le_of_ble_eq_true rfl, Nat.le_of_ble_eq_true rfl⟩) hS (fun q _ h9 => hFc q h9) hFc (fun u tS H1 locs ht hvm hw102 hB hz1 hk1 hS => ?_)
        obtain ⟨hP1, -, hD1⟩ := hB
        rw [ht] at hP1
        obtain ⟨hP, hD⟩ := va_join (wr := [(p1, .inl (cI, 64, .inl gh)), (p5, .inl (cI, 5, .inl fj)), (o1, .inl (cI, 6, .inl fo))]) (w1 := [(p0, .inr (2, [.ref z0, .ref p1, .ref p2, .ref p3, .ref p4, .ref p5])), (p2, .inl (cI, 64, .inl gl)), (p3, .inl (cI, 64, .inl (upd gc i (nI (ct_sc (fun a => (ct_B (ct_jc sz la K R) a).1 + (ct_B (ct_jc sz la K R) (i ^^^ a)).1 + ct_jc sz la K R a (i ^^^ a)) i i).1)))), (p4, .inl (cI, 64, .inl (upd gp i (nI (ct_sc (fun a => (ct_B (ct_jc sz la K R) a).1 + (ct_B (ct_jc sz la K R) (i ^^^ a)).1 + ct_jc sz la K R a (i ^^^ a)) i i).2)))), (z0, .inr (1, [.ref z1])), (z1, .inl (cI, 8, .inl (fun j => nI (sz j))))]) hP hD [0, 2, 3, 4, 6, 7] [1, 5, 8] rfl rfl (by decide) (by decide) hk1 hFc hP1 hD1
        generalize H1 = H at hP hS ⊢
        have hP : va_P (dC, dI) ct_cl [(p1, .inl (cI, 64, .inl gh)), (p5, .inl (cI, 5, .inl fj)), (o1, .inl (cI, 6, .inl fo)), (p0, .inr (2, [.ref z0, .ref p1, .ref p2, .ref p3, .ref p4, .ref p5])), (p2, .inl (cI, 64, .inl gl)), (p3, .inl (cI, 64, .inl (upd gc i (nI (ct_sc (fun a => (ct_B (ct_jc sz la K R) a).1 + (ct_B (ct_jc sz la K R) (i ^^^ a)).1 + ct_jc sz la K R a (i ^^^ a)) i i).1)))), (p4, .inl (cI, 64, .inl (upd gp i (nI (ct_sc (fun a => (ct_B (ct_jc sz la K R) a).1 + (ct_B (ct_jc sz la K R) (i ^^^ a)).1 + ct_jc sz la K R a (i ^^^ a)) i i).2)))), (z0, .inr (1, [.ref z1])), (z1, .inl (cI, 8, .inl (fun j => nI (sz j))))] H := hP
        have hD : va_D A [(p1, .inl (cI, 64, .inl gh)), (p5, .inl (cI, 5, .inl fj)), (o1, .inl (cI, 6, .inl fo)), (p0, .inr (2, [.ref z0, .ref p1, .ref p2, .ref p3, .ref p4, .ref p5])), (p2, .inl (cI, 64, .inl gl)), (p3, .inl (cI, 64, .inl (upd gc i (nI (ct_sc (fun a => (ct_B (ct_jc sz la K R) a).1 + (ct_B (ct_jc sz la K R) (i ^^^ a)).1 + ct_jc sz la K R a (i ^^^ a)) i i).1)))), (p4, .inl (cI, 64, .inl (upd gp i (nI (ct_sc (fun a => (ct_B (ct_jc sz la K R) a).1 + (ct_B (ct_jc sz la K R) (i ^^^ a)).1 + ct_jc sz la K R a (i ^^^ a)) i i).2)))), (z0, .inr (1, [.ref z1])), (z1, .inl (cI, 8, .inl (fun j => nI (sz j))))] := hD
        refine lv_iinc (v := (nI (i + 1))) (lv' := [(5, .int (nI (i + 1))), (0, .ref p0), (1, .ref o1), (2, .int (nI K)), (3, .int (nI R)), (4, .int (nI (2 ^ K - 1)))]) hx hb d_P_make_62 hl (k := 5) rfl (nI_1 _) (by decide) rfl (fun ls hl => ?_)
        refine lv_goto (tgt := 41) hx hb d_P_make_65 (by decide) ?_
        refine ih (i + 1) (by omega) (by omega) _ _ ?_ ?_ ?_ H locs (hP.sub [3, 0, 4, 5, 6, 1, 7, 8, 2] rfl) (hD.sub [3, 0, 4, 5, 6, 1, 7, 8, 2] (by decide) rfl) hS ls (lv_sub hl [1, 2, 3, 4, 5, 0] rfl)
        · intro S h8 h9
          by_cases h7 : S = i
          · rw [h7, pk_us, ct_B_sev (by omega) hs]
          · rw [pk_un h7]; exact hgc S h8 (by omega)
        · intro S h9 h8
          by_cases h7 : S = i
          · rw [h7, pk_us, ct_B_sev (by omega) hs]
          · rw [pk_un h7]; exact hgp S (by omega) h8
        · intro S h7 h8 h9
          rw [pk_un (fun z => by rw [z, hs] at h9; cases h9)]; exact hg0 S h7 h8 h9
      · rw [if_neg hs]
        refine lv_if_eq (tgt := 62) hx hb d_P_make_53 (by decide) (fun _ => ?_) (fun hc9 => absurd (nI_0) hc9)
        have hsf : ct_sev i = false := by simpa using hs
        refine lv_iinc (v := (nI (i + 1))) (lv' := [(5, .int (nI (i + 1))), (0, .ref p0), (1, .ref o1), (2, .int (nI K)), (3, .int (nI R)), (4, .int (nI (2 ^ K - 1)))]) hx hb d_P_make_62 hl (k := 5) rfl (nI_1 _) (by decide) rfl (fun ls hl => ?_)
        refine lv_goto (tgt := 41) hx hb d_P_make_65 (by decide) ?_
        refine ih (i + 1) (by omega) (by omega) gc gp ?_ ?_ ?_ H locs (hP.sub [0, 1, 2, 3, 4, 5, 6, 7, 8] rfl) (hD.sub [0, 1, 2, 3, 4, 5, 6, 7, 8] (by decide) rfl) hS ls (lv_sub hl [1, 2, 3, 4, 5, 0] rfl)
        · intro S h8 h9
          by_cases h7 : S = i
          · rw [h7, hg0 i (by omega) hi0 hsf, ct_B_one (by omega) hsf]
          · exact hgc S h8 (by omega)
        · intro S h9 h8
          by_cases h7 : S = i
          · rw [h7, hsf] at h8; cases h8
          · exact hgp S (by omega) h8
        · exact hg0
  have loop1 : ∀ (gh : Nat → Int32), (∀ S, S < 2 ^ K → gh S = nI (ct_has la S K)) → ∀ (n i : Nat), i + n = 2 ^ K → 0 < i → ∀ (gl : Nat → Int32), (∀ S, 0 < S → S < i → gl S = nI (ct_lv la K R S)) → ∀ (H : Heap) (locs : List Loc), va_P (dC, dI) ct_cl [(p0, .inr (2, [.ref z0, .ref p1, .ref p2, .ref p3, .ref p4, .ref p5])), (p1, .inl (cI, 64, .inl gh)), (p2, .inl (cI, 64, .inl gl)), (p3, .inl (cI, 64, .inl fc)), (p4, .inl (cI, 64, .inl fp)), (p5, .inl (cI, 5, .inl fj)), (z0, .inr (1, [.ref z1])), (z1, .inl (cI, 8, .inl (fun j => nI (sz j)))), (o1, .inl (cI, 6, .inl fo))] H → va_D A [(p0, .inr (2, [.ref z0, .ref p1, .ref p2, .ref p3, .ref p4, .ref p5])), (p1, .inl (cI, 64, .inl gh)), (p2, .inl (cI, 64, .inl gl)), (p3, .inl (cI, 64, .inl fc)), (p4, .inl (cI, 64, .inl fp)), (p5, .inl (cI, 5, .inl fj)), (z0, .inr (1, [.ref z1])), (z1, .inl (cI, 8, .inl (fun j => nI (sz j)))), (o1, .inl (cI, 6, .inl fo))] → va_S A s.heap H locs → ∀ (ls : Array Slot), lv_has ls 6 [(0, .ref p0), (1, .ref o1), (2, .int (nI K)), (3, .int (nI R)), (4, .int (nI (2 ^ K - 1))), (5, .int (nI i))] → W p l e (headSpec w_P_make ({ frames := 3, cells := 0, slots := 0, locals := 72 } : Room)).room s m args below meth c H locs 0 0 (MQ below (va_Qv (fun (u : (Nat → Int32) × (Nat → Int32) × (Nat → Int32) × (Nat → Int32) × (Nat → Int32)) => ct_plok sz la K R u.1 u.2.1 u.2.2.1 u.2.2.2.1 u.2.2.2.2 ∧ ct_plk u.1 u.2.2.1) (fun (u : (Nat → Int32) × (Nat → Int32) × (Nat → Int32) × (Nat → Int32) × (Nat → Int32)) t => ct_at (dC, dI) ct_cl [(cI, .int)] (A) [(p0, .inr (2, [.ref z0, .ref p1, .ref p2, .ref p3, .ref p4, .ref p5])), (p1, .inl (cI, 64, .inl (u.1))), (p2, .inl (cI, 64, .inl (u.2.1))), (p3, .inl (cI, 64, .inl (u.2.2.1))), (p4, .inl (cI, 64, .inl (u.2.2.2.1))), (p5, .inl (cI, 5, .inl (u.2.2.2.2))), (z0, .inr (1, [.ref z1])), (z1, .inl (cI, 8, .inl (fun j => nI (sz j)))), (o1, .inl (cI, 6, .inl fo))] t) (A)) args s 0 0 A) (F0 m 16 ls []) := by
    intro gh hgh
    intro n
    induction n with
    | zero =>
      intro i hi hi0 gl hgl H locs hP hD hS ls hl
      refine lv_iload hx hb d_P_make_16 (lv_at hl 5 rfl) ?_
      refine lv_iload hx hb d_P_make_18 (lv_at hl 4 rfl) ?_
      refine lv_icmp_gt (tgt := 38) hx hb d_P_make_20 (by decide) (fun _ => ?_) (fun hc9 => absurd (nI_lt (by omega) (by omega)) hc9)
      refine lv_iconst (v := (nI 1)) hx hb d_P_make_38 (by decide) ?_
      refine lv_istore (lv' := [(5, .int (nI 1)), (0, .ref p0), (1, .ref o1), (2, .int (nI K)), (3, .int (nI R)), (4, .int (nI (2 ^ K - 1)))]) hx hb d_P_make_39 hl (by decide) rfl (fun ls hl => ?_)
      refine loop2 gh gl hgh (fun S h8 h9 => hgl S h8 (by omega)) (2 ^ K - 1) 1 (by omega) (by omega) fc fp ?_ ?_ hk0.2 H locs (hP.sub [0, 1, 2, 3, 4, 5, 6, 7, 8] rfl) (hD.sub [0, 1, 2, 3, 4, 5, 6, 7, 8] (by decide) rfl) hS ls (lv_sub hl [1, 2, 3, 4, 5, 0] rfl)
      · intro S h8 h9; omega
      · intro S h9 h8; rw [show S = 0 by omega] at h8; exact absurd h8 (by decide)
    | succ n ih =>
      intro i hi hi0 gl hgl H locs hP hD hS ls hl
      refine lv_iload hx hb d_P_make_16 (lv_at hl 5 rfl) ?_
      refine lv_iload hx hb d_P_make_18 (lv_at hl 4 rfl) ?_
      refine lv_icmp_gt (tgt := 38) hx hb d_P_make_20 (by decide) (fun hc9 => absurd hc9 (nI_nlt (by omega) (by omega))) (fun _ => ?_)
      refine lv_aload_n hx hb d_P_make_23 rfl (lv_at hl 0 rfl) ?_
      refine lv_iload hx hb d_P_make_24 (lv_at hl 5 rfl) ?_
      refine lv_iload hx hb d_P_make_26 (lv_at hl 4 rfl) ?_
      refine lv_iload_n hx hb d_P_make_28 rfl (lv_at hl 3 rfl) ?_
      have hPc := hP.sub (ws' := [(p0, .inr (2, [.ref z0, .ref p1, .ref p2, .ref p3, .ref p4, .ref p5])), (p1, .inl (cI, 64, .inl gh)), (p2, .inl (cI, 64, .inl gl))]) [0, 1, 2] rfl
      have hDc := hD.sub (ws' := [(p0, .inr (2, [.ref z0, .ref p1, .ref p2, .ref p3, .ref p4, .ref p5])), (p1, .inl (cI, 64, .inl gh)), (p2, .inl (cI, 64, .inl gl))]) [0, 1, 2] (by decide) rfl
      have hFc := va_free (wc := [(p0, .inr (2, [.ref z0, .ref p1, .ref p2, .ref p3, .ref p4, .ref p5])), (p1, .inl (cI, 64, .inl gh)), (p2, .inl (cI, 64, .inl gl))]) hD hS hA [0, 1, 2] rfl
      refine va_callv (va_runV (As := [.int (nI i), .int (nI (2 ^ K - 1)), .int (nI R)]) (rest := []) ⟨hx, hb, hml, hown, hts⟩ (c_P_noteLeaves l dC dI cI z0 p0 p1 p2 p3 p4 p5 gh gl la K R i hK6 hi0 (by omega) hgh H.size) (cwV 3 hts (ct_giV (fun w h9 => ct_tl h9) kw_175 kw_177 kw_3 kw_28 kw_178) rfl rfl rfl (by decide +kernel) ⟨Nat.le_of_ble_eq_true rfl, Nat.le_of_ble_eq_true rfl⟩) ⟨ct_rw_blind, va_recv hK hP (ci := 2) (q0 := 0) rfl rfl, ct_rw_pre hPc hK hDc⟩ rfl rfl hl.1 rfl (lv_room (Nat.le_of_ble_eq_true rfl)) d_P_make_29 ⟨Nat.le_of_ble_eq_true rfl, Nat.le_of_ble_eq_true rfl⟩) hS (fun q _ h9 => hFc q h9) hFc (fun u tS H1 locs ht hvm hw1 hB hz1 hk1 hS => ?_)
      obtain ⟨hP1, -, hD1⟩ := hB
      rw [ht] at hP1
      obtain ⟨hP, hD⟩ := va_join (wr := [(p3, .inl (cI, 64, .inl fc)), (p4, .inl (cI, 64, .inl fp)), (p5, .inl (cI, 5, .inl fj)), (z0, .inr (1, [.ref z1])), (z1, .inl (cI, 8, .inl (fun j => nI (sz j)))), (o1, .inl (cI, 6, .inl fo))]) (w1 := [(p0, .inr (2, [.ref z0, .ref p1, .ref p2, .ref p3, .ref p4, .ref p5])), (p1, .inl (cI, 64, .inl gh)), (p2, .inl (cI, 64, .inl (upd gl i (nI (ct_lv la K R i)))))]) hP hD [0, 1, 2] [3, 4, 5, 6, 7, 8] rfl rfl (by decide) (by decide) hk1 hFc hP1 hD1
      generalize H1 = H at hP hS ⊢
      have hP : va_P (dC, dI) ct_cl [(p3, .inl (cI, 64, .inl fc)), (p4, .inl (cI, 64, .inl fp)), (p5, .inl (cI, 5, .inl fj)), (z0, .inr (1, [.ref z1])), (z1, .inl (cI, 8, .inl (fun j => nI (sz j)))), (o1, .inl (cI, 6, .inl fo)), (p0, .inr (2, [.ref z0, .ref p1, .ref p2, .ref p3, .ref p4, .ref p5])), (p1, .inl (cI, 64, .inl gh)), (p2, .inl (cI, 64, .inl (upd gl i (nI (ct_lv la K R i)))))] H := hP
      have hD : va_D A [(p3, .inl (cI, 64, .inl fc)), (p4, .inl (cI, 64, .inl fp)), (p5, .inl (cI, 5, .inl fj)), (z0, .inr (1, [.ref z1])), (z1, .inl (cI, 8, .inl (fun j => nI (sz j)))), (o1, .inl (cI, 6, .inl fo)), (p0, .inr (2, [.ref z0, .ref p1, .ref p2, .ref p3, .ref p4, .ref p5])), (p1, .inl (cI, 64, .inl gh)), (p2, .inl (cI, 64, .inl (upd gl i (nI (ct_lv la K R i)))))] := hD
      refine lv_iinc (v := (nI (i + 1))) (lv' := [(5, .int (nI (i + 1))), (0, .ref p0), (1, .ref o1), (2, .int (nI K)), (3, .int (nI R)), (4, .int (nI (2 ^ K - 1)))]) hx hb d_P_make_32 hl (k := 5) rfl (nI_1 _) (by decide) rfl (fun ls hl => ?_)
      refine lv_goto (tgt := 16) hx hb d_P_make_35 (by decide) ?_
      refine ih (i + 1) (by omega) (by omega) _ (fun S h8 h9 => ?_) H locs (hP.sub [6, 7, 8, 0, 1, 2, 3, 4, 5] rfl) (hD.sub [6, 7, 8, 0, 1, 2, 3, 4, 5] (by decide) rfl) hS ls (lv_sub hl [1, 2, 3, 4, 5, 0] rfl)
      by_cases h7 : S = i
      · rw [h7, pk_us]
      · rw [pk_un h7]; exact hgl S h8 (by omega)
  refine lv_iconst (v := (nI 1)) hx hb d_P_make_0 (by decide) ?_
  refine lv_iload_n hx hb d_P_make_1 rfl (lv_at hl 2 rfl) ?_
  refine lv_ishl hx hb d_P_make_2 ?_
  refine ct_val (y := nI (2 ^ K)) ((ct_shl 1 (by omega) (by omega)).trans (by rw [Nat.one_mul])) ?_
  refine lv_iconst (v := (nI 1)) hx hb d_P_make_3 (by decide) ?_
  refine lv_isub hx hb d_P_make_4 ?_
  refine ct_val (y := nI (2 ^ K - 1)) (pk_sub (by omega)) ?_
  refine lv_istore (lv' := [(4, .int (nI (2 ^ K - 1))), (0, .ref p0), (1, .ref o1), (2, .int (nI K)), (3, .int (nI R))]) hx hb d_P_make_5 hl (by decide) rfl (fun ls hl => ?_)
  refine lv_aload_n hx hb d_P_make_7 rfl (lv_at hl 1 rfl) ?_
  refine lv_aload_n hx hb d_P_make_8 rfl (lv_at hl 2 rfl) ?_
  refine lv_iload_n hx hb d_P_make_9 rfl (lv_at hl 3 rfl) ?_
  have hPc := hP.sub (ws' := [(p0, .inr (2, [.ref z0, .ref p1, .ref p2, .ref p3, .ref p4, .ref p5])), (p1, .inl (cI, 64, .inl fh)), (o1, .inl (cI, 6, .inl fo))]) [0, 1, 8] rfl
  have hDc := hD.sub (ws' := [(p0, .inr (2, [.ref z0, .ref p1, .ref p2, .ref p3, .ref p4, .ref p5])), (p1, .inl (cI, 64, .inl fh)), (o1, .inl (cI, 6, .inl fo))]) [0, 1, 8] (by decide) rfl
  have hFc := va_free (wc := [(p0, .inr (2, [.ref z0, .ref p1, .ref p2, .ref p3, .ref p4, .ref p5])), (p1, .inl (cI, 64, .inl fh)), (o1, .inl (cI, 6, .inl fo))]) hD hS hA [0, 1, 8] rfl
  refine va_callv (va_runV (As := [.ref o1, .int (nI K)]) (rest := []) ⟨hx, hb, hml, hown, hts⟩ (c_P_noteLabels l dC dI cI z0 p0 p1 p2 p3 p4 p5 o1 fh fo la K hK6 hfo hk0.1 s.heap.size) (cwV 2 hts (ct_giV (fun w h9 => ct_tl h9) kw_171 kw_173 kw_2 kw_28 kw_174) rfl rfl rfl (by decide +kernel) ⟨Nat.le_of_ble_eq_true rfl, Nat.le_of_ble_eq_true rfl⟩) ⟨ct_rw_blind, va_recv hK hP (ci := 2) (q0 := 0) rfl rfl, ct_rw_pre hPc hK hDc⟩ rfl rfl hl.1 rfl (lv_room (Nat.le_of_ble_eq_true rfl)) d_P_make_10 ⟨Nat.le_of_ble_eq_true rfl, Nat.le_of_ble_eq_true rfl⟩) hS (fun q _ h9 => hFc q h9) hFc (fun gh tS H1 locs ht hvm hgh hB hz1 hk1 hS => ?_)
  obtain ⟨hP1, -, hD1⟩ := hB
  rw [ht] at hP1
  obtain ⟨hP, hD⟩ := va_join (wr := [(p2, .inl (cI, 64, .inl fl)), (p3, .inl (cI, 64, .inl fc)), (p4, .inl (cI, 64, .inl fp)), (p5, .inl (cI, 5, .inl fj)), (z0, .inr (1, [.ref z1])), (z1, .inl (cI, 8, .inl (fun j => nI (sz j))))]) (w1 := [(p0, .inr (2, [.ref z0, .ref p1, .ref p2, .ref p3, .ref p4, .ref p5])), (p1, .inl (cI, 64, .inl gh)), (o1, .inl (cI, 6, .inl fo))]) hP hD [0, 1, 8] [2, 3, 4, 5, 6, 7] rfl rfl (by decide) (by decide) hk1 hFc hP1 hD1
  generalize H1 = H at hP hS ⊢
  have hP : va_P (dC, dI) ct_cl [(p2, .inl (cI, 64, .inl fl)), (p3, .inl (cI, 64, .inl fc)), (p4, .inl (cI, 64, .inl fp)), (p5, .inl (cI, 5, .inl fj)), (z0, .inr (1, [.ref z1])), (z1, .inl (cI, 8, .inl (fun j => nI (sz j)))), (p0, .inr (2, [.ref z0, .ref p1, .ref p2, .ref p3, .ref p4, .ref p5])), (p1, .inl (cI, 64, .inl gh)), (o1, .inl (cI, 6, .inl fo))] H := hP
  have hD : va_D A [(p2, .inl (cI, 64, .inl fl)), (p3, .inl (cI, 64, .inl fc)), (p4, .inl (cI, 64, .inl fp)), (p5, .inl (cI, 5, .inl fj)), (z0, .inr (1, [.ref z1])), (z1, .inl (cI, 8, .inl (fun j => nI (sz j)))), (p0, .inr (2, [.ref z0, .ref p1, .ref p2, .ref p3, .ref p4, .ref p5])), (p1, .inl (cI, 64, .inl gh)), (o1, .inl (cI, 6, .inl fo))] := hD
  refine lv_iconst (v := (nI 1)) hx hb d_P_make_13 (by decide) ?_
  refine lv_istore (lv' := [(5, .int (nI 1)), (4, .int (nI (2 ^ K - 1))), (0, .ref p0), (1, .ref o1), (2, .int (nI K)), (3, .int (nI R))]) hx hb d_P_make_14 hl (by decide) rfl (fun ls hl => ?_)
  exact loop1 gh hgh (2 ^ K - 1) 1 (by omega) (by omega) fl (fun S h8 h9 => by omega) H locs (hP.sub [6, 7, 0, 1, 2, 3, 4, 5, 8] rfl) (hD.sub [6, 7, 0, 1, 2, 3, 4, 5, 8] (by decide) rfl) hS ls (lv_sub hl [2, 3, 4, 5, 1, 0] rfl)
end
section
/-- the labels that a join goes through, rising: those of U with more than one index -/
def ct_us (sz : Nat → Nat) (U : Nat) : Nat → List Nat
  | 0 => []
  | n + 1 => if U.testBit n = true ∧ 1 < sz n then ct_us sz U n ++ [n] else ct_us sz U n
theorem ct_us_in {sz : Nat → Nat} {U n : Nat} (h : U.testBit n = true ∧ 1 < sz n) : ct_us sz U (n + 1) = ct_us sz U n ++ [n] := if_pos h
theorem ct_us_out {sz : Nat → Nat} {U n : Nat} (h : ¬ (U.testBit n = true ∧ 1 < sz n)) : ct_us sz U (n + 1) = ct_us sz U n := if_neg h
theorem ct_us_len {sz : Nat → Nat} {U : Nat} (n : Nat) : (ct_us sz U n).length ≤ n := by
  induction n with
  | zero => exact Nat.le_refl 0
  | succ n ih =>
    by_cases h : U.testBit n = true ∧ 1 < sz n
    · rw [ct_us_in h, List.length_append]; show _ + 1 ≤ _; omega
    · rw [ct_us_out h]; omega
theorem ct_gd_l {l : List Nat} {x d : Nat} (h : d < l.length) : (l ++ [x]).getD d 0 = l.getD d 0 := by
  simp [List.getD, List.getElem?_append_left h]
theorem ct_gd_r {l : List Nat} {x : Nat} : (l ++ [x]).getD l.length 0 = x := by
  simp [List.getD]
theorem d_R_read_0 : decode b_R_read 0 = .ok (.aload_n 0, 1) := by decide +kernel
theorem d_R_read_1 : decode b_R_read 1 = .ok (.getfield 15, 3) := by decide +kernel
theorem d_R_read_4 : decode b_R_read 4 = .ok (.iload_n 1, 1) := by decide +kernel
theorem d_R_read_5 : decode b_R_read 5 = .ok (.iaload, 1) := by decide +kernel
theorem d_R_read_6 : decode b_R_read 6 = .ok (.ireturn, 1) := by decide +kernel
theorem d_R_write_0 : decode b_R_write 0 = .ok (.aload_n 0, 1) := by decide +kernel
theorem d_R_write_1 : decode b_R_write 1 = .ok (.getfield 15, 3) := by decide +kernel
theorem d_R_write_4 : decode b_R_write 4 = .ok (.iload_n 1, 1) := by decide +kernel
theorem d_R_write_5 : decode b_R_write 5 = .ok (.iload_n 2, 1) := by decide +kernel
theorem d_R_write_6 : decode b_R_write 6 = .ok (.iastore, 1) := by decide +kernel
theorem d_R_write_7 : decode b_R_write 7 = .ok (.return_, 1) := by decide +kernel
theorem d_R_layOut_0 : decode b_R_layOut 0 = .ok (.iload_n 1, 1) := by decide +kernel
theorem d_R_layOut_1 : decode b_R_layOut 1 = .ok (.iload_n 2, 1) := by decide +kernel
theorem d_R_layOut_2 : decode b_R_layOut 2 = .ok (.ior, 1) := by decide +kernel
theorem d_R_layOut_3 : decode b_R_layOut 3 = .ok (.iload_n 3, 1) := by decide +kernel
theorem d_R_layOut_4 : decode b_R_layOut 4 = .ok (.ior, 1) := by decide +kernel
theorem d_R_layOut_5 : decode b_R_layOut 5 = .ok (.istore 4, 2) := by decide +kernel
theorem d_R_layOut_7 : decode b_R_layOut 7 = .ok (.iconst 0, 1) := by decide +kernel
theorem d_R_layOut_8 : decode b_R_layOut 8 = .ok (.istore 5, 2) := by decide +kernel
theorem d_R_layOut_10 : decode b_R_layOut 10 = .ok (.iconst 0, 1) := by decide +kernel
theorem d_R_layOut_11 : decode b_R_layOut 11 = .ok (.istore 6, 2) := by decide +kernel
theorem d_R_layOut_13 : decode b_R_layOut 13 = .ok (.iload 6, 2) := by decide +kernel
theorem d_R_layOut_15 : decode b_R_layOut 15 = .ok (.bipush 8, 2) := by decide +kernel
theorem d_R_layOut_17 : decode b_R_layOut 17 = .ok (.if_icmp .ge 110, 3) := by decide +kernel
theorem d_R_layOut_20 : decode b_R_layOut 20 = .ok (.iload 4, 2) := by decide +kernel
theorem d_R_layOut_22 : decode b_R_layOut 22 = .ok (.iload 6, 2) := by decide +kernel
theorem d_R_layOut_24 : decode b_R_layOut 24 = .ok (.ishr, 1) := by decide +kernel
theorem d_R_layOut_25 : decode b_R_layOut 25 = .ok (.iconst 1, 1) := by decide +kernel
theorem d_R_layOut_26 : decode b_R_layOut 26 = .ok (.iand, 1) := by decide +kernel
theorem d_R_layOut_27 : decode b_R_layOut 27 = .ok (.ifCond .eq 94, 3) := by decide +kernel
theorem d_R_layOut_30 : decode b_R_layOut 30 = .ok (.aload_n 0, 1) := by decide +kernel
theorem d_R_layOut_31 : decode b_R_layOut 31 = .ok (.getfield 9, 3) := by decide +kernel
theorem d_R_layOut_34 : decode b_R_layOut 34 = .ok (.iload 6, 2) := by decide +kernel
theorem d_R_layOut_36 : decode b_R_layOut 36 = .ok (.invokevirtual 56, 3) := by decide +kernel
theorem d_R_layOut_39 : decode b_R_layOut 39 = .ok (.iconst 1, 1) := by decide +kernel
theorem d_R_layOut_40 : decode b_R_layOut 40 = .ok (.if_icmp .le 81, 3) := by decide +kernel
theorem d_R_layOut_43 : decode b_R_layOut 43 = .ok (.aload_n 0, 1) := by decide +kernel
theorem d_R_layOut_44 : decode b_R_layOut 44 = .ok (.getfield 19, 3) := by decide +kernel
theorem d_R_layOut_47 : decode b_R_layOut 47 = .ok (.iload 5, 2) := by decide +kernel
theorem d_R_layOut_49 : decode b_R_layOut 49 = .ok (.aload_n 0, 1) := by decide +kernel
theorem d_R_layOut_50 : decode b_R_layOut 50 = .ok (.getfield 9, 3) := by decide +kernel
theorem d_R_layOut_53 : decode b_R_layOut 53 = .ok (.iload 6, 2) := by decide +kernel
theorem d_R_layOut_55 : decode b_R_layOut 55 = .ok (.invokevirtual 56, 3) := by decide +kernel
theorem d_R_layOut_58 : decode b_R_layOut 58 = .ok (.iastore, 1) := by decide +kernel
theorem d_R_layOut_59 : decode b_R_layOut 59 = .ok (.aload_n 0, 1) := by decide +kernel
theorem d_R_layOut_60 : decode b_R_layOut 60 = .ok (.getfield 22, 3) := by decide +kernel
theorem d_R_layOut_63 : decode b_R_layOut 63 = .ok (.iload 5, 2) := by decide +kernel
theorem d_R_layOut_65 : decode b_R_layOut 65 = .ok (.iconst 0, 1) := by decide +kernel
theorem d_R_layOut_66 : decode b_R_layOut 66 = .ok (.iastore, 1) := by decide +kernel
theorem d_R_layOut_67 : decode b_R_layOut 67 = .ok (.aload_n 0, 1) := by decide +kernel
theorem d_R_layOut_68 : decode b_R_layOut 68 = .ok (.getfield 25, 3) := by decide +kernel
theorem d_R_layOut_71 : decode b_R_layOut 71 = .ok (.iload 5, 2) := by decide +kernel
theorem d_R_layOut_73 : decode b_R_layOut 73 = .ok (.aload_n 0, 1) := by decide +kernel
theorem d_R_layOut_74 : decode b_R_layOut 74 = .ok (.getfield 9, 3) := by decide +kernel
theorem d_R_layOut_77 : decode b_R_layOut 77 = .ok (.iload_n 1, 1) := by decide +kernel
theorem d_R_layOut_78 : decode b_R_layOut 78 = .ok (.iload 6, 2) := by decide +kernel
theorem d_R_layOut_80 : decode b_R_layOut 80 = .ok (.invokevirtual 59, 3) := by decide +kernel
theorem d_R_layOut_83 : decode b_R_layOut 83 = .ok (.iastore, 1) := by decide +kernel
theorem d_R_layOut_84 : decode b_R_layOut 84 = .ok (.aload_n 0, 1) := by decide +kernel
theorem d_R_layOut_85 : decode b_R_layOut 85 = .ok (.getfield 28, 3) := by decide +kernel
theorem d_R_layOut_88 : decode b_R_layOut 88 = .ok (.iload 5, 2) := by decide +kernel
theorem d_R_layOut_90 : decode b_R_layOut 90 = .ok (.aload_n 0, 1) := by decide +kernel
theorem d_R_layOut_91 : decode b_R_layOut 91 = .ok (.getfield 9, 3) := by decide +kernel
theorem d_R_layOut_94 : decode b_R_layOut 94 = .ok (.iload_n 2, 1) := by decide +kernel
theorem d_R_layOut_95 : decode b_R_layOut 95 = .ok (.iload 6, 2) := by decide +kernel
theorem d_R_layOut_97 : decode b_R_layOut 97 = .ok (.invokevirtual 59, 3) := by decide +kernel
theorem d_R_layOut_100 : decode b_R_layOut 100 = .ok (.iastore, 1) := by decide +kernel
theorem d_R_layOut_101 : decode b_R_layOut 101 = .ok (.aload_n 0, 1) := by decide +kernel
theorem d_R_layOut_102 : decode b_R_layOut 102 = .ok (.getfield 31, 3) := by decide +kernel
theorem d_R_layOut_105 : decode b_R_layOut 105 = .ok (.iload 5, 2) := by decide +kernel
theorem d_R_layOut_107 : decode b_R_layOut 107 = .ok (.aload_n 0, 1) := by decide +kernel
theorem d_R_layOut_108 : decode b_R_layOut 108 = .ok (.getfield 9, 3) := by decide +kernel
theorem d_R_layOut_111 : decode b_R_layOut 111 = .ok (.iload_n 3, 1) := by decide +kernel
theorem d_R_layOut_112 : decode b_R_layOut 112 = .ok (.iload 6, 2) := by decide +kernel
theorem d_R_layOut_114 : decode b_R_layOut 114 = .ok (.invokevirtual 59, 3) := by decide +kernel
theorem d_R_layOut_117 : decode b_R_layOut 117 = .ok (.iastore, 1) := by decide +kernel
theorem d_R_layOut_118 : decode b_R_layOut 118 = .ok (.iinc 5 1, 3) := by decide +kernel
theorem d_R_layOut_121 : decode b_R_layOut 121 = .ok (.iinc 6 1, 3) := by decide +kernel
theorem d_R_layOut_124 : decode b_R_layOut 124 = .ok (.goto (-111), 3) := by decide +kernel
theorem d_R_layOut_127 : decode b_R_layOut 127 = .ok (.iload 5, 2) := by decide +kernel
theorem d_R_layOut_129 : decode b_R_layOut 129 = .ok (.ireturn, 1) := by decide +kernel
set_option maxHeartbeats 4000000 in
set_option maxRecDepth 100000 in
theorem c_R_read (l : Launch) (dC : Nat → ClassId) (dI : Nat → Nat → Nat) (cI : ClassId) (z0 r0 r1 r2 r3 r4 r5 r6 : Nat) (N : Nat) (f : Nat → Int32) (j : Nat) (hj : j < N) (hN : N < 2 ^ 31) : Met l y_R_read w_R_read ({ frames := 0, cells := 0, slots := 0, locals := 0 }) (va_Pc [.ref r0, .int (nI j)] (ct_ro (dC, dI) ct_cl [(r0, .inr (3, [.ref z0, .ref r1, .ref r2, .ref r3, .ref r4, .ref r5, .ref r6])), (r1, .inl (cI, N, .inl f))] [(cI, .int)])) (ct_qi (fun r => r = f j)) 0 0 (fun _ => False) := by
  refine Met.ofW (cc := b_R_read) (maxL := 2) (ret := (some .int)) (by decide) rfl ?_
  intro p e s m args below meth c s₁ Bd hml hv
  obtain ⟨hargs, hP, hK⟩ := hv
  have hx := Bd.exec
  have hb := Bd.bytes
  have hr := Bd.returns
  have hts : ∀ w ∈ k_R_read :: ct_tb, w.before args s = true := atoms_spec (ws := w_R_read) Bd.pre
  have hown : s.vm.findClass R_R = some m.cls := findClass_of_methodNamed Bd.named
  have hlocks := Bd.notSynchronized
  have hS : va_S (fun _ => False) s.heap s.heap [] := va_S.rf
  have hl := lv_entry ([.ref r0, .int (nI j)]) (n := 2) (Nat.le_of_ble_eq_true rfl)
  rw [show entryFrame m args 2 = entryFrame m (([.ref r0, .int (nI j)] : List Value)).toArray 2 by rw [hargs], lg_entry_eq]
  generalize (lg_sl ([.ref r0, .int (nI j)]) ++ List.replicate (2 - (lg_sl ([.ref r0, .int (nI j)])).length) Slot.unset).toArray = ls at hl ⊢
  have hl : lv_has ls 2 [(0, .ref r0), (1, .int (nI j))] := hl
  refine lv_aload_n hx hb d_R_read_0 rfl (lv_at hl 0 rfl) ?_
  refine va_get (D := (dC, dI)) (ci := 3) (v := .ref r1) (C := R_R) (T := T_R) (N := 7) hx hb hts (fun w h9 => ct_tl (ki_R w h9)) hown hK hP 0 rfl rfl 1 (by decide) (hts _ (ct_tl kw_93)) (fun _ h9 => h9) rfl d_R_read_1 ?_
  refine lv_iload_n hx hb d_R_read_4 rfl (lv_at hl 1 rfl) ?_
  refine ct_iald hx hb hK hP 1 0 rfl rfl (j := j) (by omega) (by omega) d_R_read_5 ?_
  exact W.iret (v := (f j)) hx hb hr (fun tS ht hW => ⟨⟨(f j), (), rfl, rfl, trivial⟩, hS.F ht⟩) hS.2.2 d_R_read_6
set_option maxHeartbeats 4000000 in
set_option maxRecDepth 100000 in
theorem c_R_write (l : Launch) (dC : Nat → ClassId) (dI : Nat → Nat → Nat) (cI : ClassId) (z0 r0 r1 r2 r3 r4 r5 r6 : Nat) (N : Nat) (f : Nat → Int32) (j : Nat) (v : Int32) (hj : j < N) (hN : N < 2 ^ 31) (sz0 : Nat) : Met l y_R_write w_R_write ({ frames := 0, cells := 0, slots := 0, locals := 0 }) (va_Pc [.ref r0, .int (nI j), .int v] (ct_rw (dC, dI) ct_cl [(r0, .inr (3, [.ref z0, .ref r1, .ref r2, .ref r3, .ref r4, .ref r5, .ref r6])), (r1, .inl (cI, N, .inl f))] [(cI, .int)] sz0)) (va_Qv (fun (u : Unit) => True) (fun (u : Unit) t => ct_at (dC, dI) ct_cl [(cI, .int)] (va_A [(r0, .inr (3, [.ref z0, .ref r1, .ref r2, .ref r3, .ref r4, .ref r5, .ref r6])), (r1, .inl (cI, N, .inl f))] sz0) [(r0, .inr (3, [.ref z0, .ref r1, .ref r2, .ref r3, .ref r4, .ref r5, .ref r6])), (r1, .inl (cI, N, .inl (upd f j v)))] t) (va_A [(r0, .inr (3, [.ref z0, .ref r1, .ref r2, .ref r3, .ref r4, .ref r5, .ref r6])), (r1, .inl (cI, N, .inl f))] sz0)) 0 0 (va_A [(r0, .inr (3, [.ref z0, .ref r1, .ref r2, .ref r3, .ref r4, .ref r5, .ref r6])), (r1, .inl (cI, N, .inl f))] sz0) := by
  refine Met.ofW (cc := b_R_write) (maxL := 3) (ret := none) (by decide) rfl ?_
  intro p e s m args below meth c s₁ Bd hml hv
  obtain ⟨hargs, hsz, hP, hK, hD0⟩ := hv
  have hx := Bd.exec
  have hb := Bd.bytes
  have hr := Bd.returns
  have hts : ∀ w ∈ k_R_write :: ct_tb, w.before args s = true := atoms_spec (ws := w_R_write) Bd.pre
  have hown : s.vm.findClass R_R = some m.cls := findClass_of_methodNamed Bd.named
  have hlocks := Bd.notSynchronized
  subst hsz
  have hD := hD0.self (sz := s.heap.size)
  generalize hAe : va_A [(r0, .inr (3, [.ref z0, .ref r1, .ref r2, .ref r3, .ref r4, .ref r5, .ref r6])), (r1, .inl (cI, N, .inl f))] s.heap.size = A at hD ⊢
  have hA : ∀ q : Nat, s.heap.size ≤ q → A q := fun q h => by rw [← hAe]; exact Or.inr h
  have hS : va_S A s.heap s.heap [] := va_S.rf
  have hl := lv_entry ([.ref r0, .int (nI j), .int v]) (n := 3) (Nat.le_of_ble_eq_true rfl)
  rw [show entryFrame m args 3 = entryFrame m (([.ref r0, .int (nI j), .int v] : List Value)).toArray 3 by rw [hargs], lg_entry_eq]
  generalize (lg_sl ([.ref r0, .int (nI j), .int v]) ++ List.replicate (3 - (lg_sl ([.ref r0, .int (nI j), .int v])).length) Slot.unset).toArray = ls at hl ⊢
  have hl : lv_has ls 3 [(0, .ref r0), (1, .int (nI j)), (2, .int v)] := hl
  refine lv_aload_n hx hb d_R_write_0 rfl (lv_at hl 0 rfl) ?_
  refine va_get (D := (dC, dI)) (ci := 3) (v := .ref r1) (C := R_R) (T := T_R) (N := 7) hx hb hts (fun w h9 => ct_tl (ki_R w h9)) hown hK hP 0 rfl rfl 1 (by decide) (hts _ (ct_tl kw_93)) (fun _ h9 => h9) rfl d_R_write_1 ?_
  refine lv_iload_n hx hb d_R_write_4 rfl (lv_at hl 1 rfl) ?_
  refine lv_iload_n hx hb d_R_write_5 rfl (lv_at hl 2 rfl) ?_
  refine ct_iast hx hb hK hP hD hS 1 0 rfl rfl (j := j) (by omega) (by omega) d_R_write_6 (fun H locs hP hD hS => ?_)
  have hP : va_P (dC, dI) ct_cl [(r0, .inr (3, [.ref z0, .ref r1, .ref r2, .ref r3, .ref r4, .ref r5, .ref r6])), (r1, .inl (cI, N, .inl (upd f j v)))] H := hP
  have hD : va_D A [(r0, .inr (3, [.ref z0, .ref r1, .ref r2, .ref r3, .ref r4, .ref r5, .ref r6])), (r1, .inl (cI, N, .inl (upd f j v)))] := hD
  have hP9 := hP.sub [0, 1] rfl
  exact W.vret hx hb hr (fun tS ht hW => ⟨⟨(), rfl, trivial, by rw [ht]; exact hP9, va_K.moved hW.alike hK, hD.sub [0, 1] (by decide) rfl⟩, hS.F ht⟩) hS.2.2 d_R_write_7
/-- the odometer's rows: ends, indexes, strides -/
def ct_lay (sz : Nat → Nat) (us : List Nat) (L R T : Nat) (fe fi fa fb ft : Nat → Int32) : Prop := ∀ d, d < us.length → fe d = nI (sz (us.getD d 0)) ∧ fi d = nI 0 ∧ fa d = nI (ct_sr sz L (us.getD d 0)) ∧ fb d = nI (ct_sr sz R (us.getD d 0)) ∧ ft d = nI (ct_sr sz T (us.getD d 0))
theorem ct_lay_step {sz : Nat → Nat} {us : List Nat} {L R T k : Nat} {fe fi fa fb ft : Nat → Int32} (h : ct_lay sz us L R T fe fi fa fb ft) : ct_lay sz (us ++ [k]) L R T (upd fe us.length (nI (sz k))) (upd fi us.length (nI 0)) (upd fa us.length (nI (ct_sr sz L k))) (upd fb us.length (nI (ct_sr sz R k))) (upd ft us.length (nI (ct_sr sz T k))) := by
  intro d hd
  rw [List.length_append] at hd
  have hd : d < us.length + 1 := hd
  by_cases h9 : d = us.length
  · subst h9
    rw [ct_gd_r]
    exact ⟨pk_us, pk_us, pk_us, pk_us, pk_us⟩
  · rw [ct_gd_l (by omega), pk_un h9, pk_un h9, pk_un h9, pk_un h9, pk_un h9]
    exact h d (by omega)
set_option maxHeartbeats 4000000 in
set_option maxRecDepth 100000 in
theorem c_R_layOut (l : Launch) (dC : Nat → ClassId) (dI : Nat → Nat → Nat) (cI : ClassId) (z1 : Nat) (sz : Nat → Nat) (r1 : Nat) (z0 r0 r2 r3 r4 r5 r6 : Nat) (fe fi fa fb ft : Nat → Int32) (L R T : Nat) (hL : L < 256) (hR : R < 256) (hT : T < 256)  (hsz : ∀ k, k < 8 → sz k < 4) (sz0 : Nat) : Met l y_R_layOut w_R_layOut ({ frames := 2, cells := 0, slots := 0, locals := 46 }) (va_Pc [.ref r0, .int (nI L), .int (nI R), .int (nI T)] (ct_rw (dC, dI) ct_cl [(r0, .inr (3, [.ref z0, .ref r1, .ref r2, .ref r3, .ref r4, .ref r5, .ref r6])), (r2, .inl (cI, 8, .inl fe)), (r3, .inl (cI, 8, .inl fi)), (r4, .inl (cI, 8, .inl fa)), (r5, .inl (cI, 8, .inl fb)), (r6, .inl (cI, 8, .inl ft)), (z0, .inr (1, [.ref z1])), (z1, .inl (cI, 8, .inl (fun j => nI (sz j))))] [(cI, .int)] sz0)) (va_Qi (fun (r : Int32) (u : (Nat → Int32) × (Nat → Int32) × (Nat → Int32) × (Nat → Int32) × (Nat → Int32)) => r = nI (ct_us sz (L ||| R ||| T) 8).length ∧ ct_lay sz (ct_us sz (L ||| R ||| T) 8) L R T u.1 u.2.1 u.2.2.1 u.2.2.2.1 u.2.2.2.2) (fun (u : (Nat → Int32) × (Nat → Int32) × (Nat → Int32) × (Nat → Int32) × (Nat → Int32)) t => ct_at (dC, dI) ct_cl [(cI, .int)] (va_A [(r0, .inr (3, [.ref z0, .ref r1, .ref r2, .ref r3, .ref r4, .ref r5, .ref r6])), (r2, .inl (cI, 8, .inl fe)), (r3, .inl (cI, 8, .inl fi)), (r4, .inl (cI, 8, .inl fa)), (r5, .inl (cI, 8, .inl fb)), (r6, .inl (cI, 8, .inl ft)), (z0, .inr (1, [.ref z1])), (z1, .inl (cI, 8, .inl (fun j => nI (sz j))))] sz0) [(r0, .inr (3, [.ref z0, .ref r1, .ref r2, .ref r3, .ref r4, .ref r5, .ref r6])), (r2, .inl (cI, 8, .inl (u.1))), (r3, .inl (cI, 8, .inl (u.2.1))), (r4, .inl (cI, 8, .inl (u.2.2.1))), (r5, .inl (cI, 8, .inl (u.2.2.2.1))), (r6, .inl (cI, 8, .inl (u.2.2.2.2))), (z0, .inr (1, [.ref z1])), (z1, .inl (cI, 8, .inl (fun j => nI (sz j))))] t) (va_A [(r0, .inr (3, [.ref z0, .ref r1, .ref r2, .ref r3, .ref r4, .ref r5, .ref r6])), (r2, .inl (cI, 8, .inl fe)), (r3, .inl (cI, 8, .inl fi)), (r4, .inl (cI, 8, .inl fa)), (r5, .inl (cI, 8, .inl fb)), (r6, .inl (cI, 8, .inl ft)), (z0, .inr (1, [.ref z1])), (z1, .inl (cI, 8, .inl (fun j => nI (sz j))))] sz0)) 0 0 (va_A [(r0, .inr (3, [.ref z0, .ref r1, .ref r2, .ref r3, .ref r4, .ref r5, .ref r6])), (r2, .inl (cI, 8, .inl fe)), (r3, .inl (cI, 8, .inl fi)), (r4, .inl (cI, 8, .inl fa)), (r5, .inl (cI, 8, .inl fb)), (r6, .inl (cI, 8, .inl ft)), (z0, .inr (1, [.ref z1])), (z1, .inl (cI, 8, .inl (fun j => nI (sz j))))] sz0) := by
  refine Met.ofW (cc := b_R_layOut) (maxL := 7) (ret := (some .int)) (by decide) rfl ?_
  intro p e s m args below meth c s₁ Bd hml hv
  obtain ⟨hargs, hsz, hP, hK, hD0⟩ := hv
  have hx := Bd.exec
  have hb := Bd.bytes
  have hr := Bd.returns
  have hts : ∀ w ∈ k_R_layOut :: ct_tb, w.before args s = true := atoms_spec (ws := w_R_layOut) Bd.pre
  have hown : s.vm.findClass R_R = some m.cls := findClass_of_methodNamed Bd.named
  have hlocks := Bd.notSynchronized
  subst hsz
  have hD := hD0.self (sz := s.heap.size)
  generalize hAe : va_A [(r0, .inr (3, [.ref z0, .ref r1, .ref r2, .ref r3, .ref r4, .ref r5, .ref r6])), (r2, .inl (cI, 8, .inl fe)), (r3, .inl (cI, 8, .inl fi)), (r4, .inl (cI, 8, .inl fa)), (r5, .inl (cI, 8, .inl fb)), (r6, .inl (cI, 8, .inl ft)), (z0, .inr (1, [.ref z1])), (z1, .inl (cI, 8, .inl (fun j => nI (sz j))))] s.heap.size = A at hD ⊢
  have hA : ∀ q : Nat, s.heap.size ≤ q → A q := fun q h => by rw [← hAe]; exact Or.inr h
  have hS : va_S A s.heap s.heap [] := va_S.rf
  have hl := lv_entry ([.ref r0, .int (nI L), .int (nI R), .int (nI T)]) (n := 7) (Nat.le_of_ble_eq_true rfl)
  rw [show entryFrame m args 7 = entryFrame m (([.ref r0, .int (nI L), .int (nI R), .int (nI T)] : List Value)).toArray 7 by rw [hargs], lg_entry_eq]
  generalize (lg_sl ([.ref r0, .int (nI L), .int (nI R), .int (nI T)]) ++ List.replicate (7 - (lg_sl ([.ref r0, .int (nI L), .int (nI R), .int (nI T)])).length) Slot.unset).toArray = ls at hl ⊢
  have hl : lv_has ls 7 [(0, .ref r0), (1, .int (nI L)), (2, .int (nI R)), (3, .int (nI T))] := hl
  have hU : (L ||| R ||| T) < 256 := Nat.or_lt_two_pow (n := 8) (Nat.or_lt_two_pow (n := 8) hL hR) hT
  have loop : ∀ (n k : Nat), k + n = 8 → ∀ (ge gi ga gb gt : Nat → Int32), ct_lay sz (ct_us sz (L ||| R ||| T) k) L R T ge gi ga gb gt → ∀ (H : Heap) (locs : List Loc), va_P (dC, dI) ct_cl [(r0, .inr (3, [.ref z0, .ref r1, .ref r2, .ref r3, .ref r4, .ref r5, .ref r6])), (r2, .inl (cI, 8, .inl ge)), (r3, .inl (cI, 8, .inl gi)), (r4, .inl (cI, 8, .inl ga)), (r5, .inl (cI, 8, .inl gb)), (r6, .inl (cI, 8, .inl gt)), (z0, .inr (1, [.ref z1])), (z1, .inl (cI, 8, .inl (fun j => nI (sz j))))] H → va_D A [(r0, .inr (3, [.ref z0, .ref r1, .ref r2, .ref r3, .ref r4, .ref r5, .ref r6])), (r2, .inl (cI, 8, .inl ge)), (r3, .inl (cI, 8, .inl gi)), (r4, .inl (cI, 8, .inl ga)), (r5, .inl (cI, 8, .inl gb)), (r6, .inl (cI, 8, .inl gt)), (z0, .inr (1, [.ref z1])), (z1, .inl (cI, 8, .inl (fun j => nI (sz j))))] → va_S A s.heap H locs → ∀ (ls : Array Slot), lv_has ls 7 [(0, .ref r0), (1, .int (nI L)), (2, .int (nI R)), (3, .int (nI T)), (4, .int (nI (L ||| R ||| T))), (5, .int (nI (ct_us sz (L ||| R ||| T) k).length)), (6, .int (nI k))] → W p l e (headSpec w_R_layOut ({ frames := 2, cells := 0, slots := 0, locals := 46 } : Room)).room s m args below meth c H locs 0 0 (MQ below (va_Qi (fun (r : Int32) (u : (Nat → Int32) × (Nat → Int32) × (Nat → Int32) × (Nat → Int32) × (Nat → Int32)) => r = nI (ct_us sz (L ||| R ||| T) 8).length ∧ ct_lay sz (ct_us sz (L ||| R ||| T) 8) L R T u.1 u.2.1 u.2.2.1 u.2.2.2.1 u.2.2.2.2) (fun (u : (Nat → Int32) × (Nat → Int32) × (Nat → Int32) × (Nat → Int32) × (Nat → Int32)) t => ct_at (dC, dI) ct_cl [(cI, .int)] (A) [(r0, .inr (3, [.ref z0, .ref r1, .ref r2, .ref r3, .ref r4, .ref r5, .ref r6])), (r2, .inl (cI, 8, .inl (u.1))), (r3, .inl (cI, 8, .inl (u.2.1))), (r4, .inl (cI, 8, .inl (u.2.2.1))), (r5, .inl (cI, 8, .inl (u.2.2.2.1))), (r6, .inl (cI, 8, .inl (u.2.2.2.2))), (z0, .inr (1, [.ref z1])), (z1, .inl (cI, 8, .inl (fun j => nI (sz j))))] t) (A)) args s 0 0 A) (F0 m 13 ls []) := by
    intro n
    induction n with
    | zero =>
      intro k hk ge gi ga gb gt hlay H locs hP hD hS ls hl
      refine lv_iload hx hb d_R_layOut_13 (lv_at hl 6 rfl) ?_
      refine lv_bipush (v := (nI 8)) hx hb d_R_layOut_15 (by decide) ?_
      refine lv_icmp_ge (tgt := 127) hx hb d_R_layOut_17 (by decide) (fun _ => ?_) (fun hc9 => absurd (nI_le (by omega) (by omega)) hc9)
      refine lv_iload hx hb d_R_layOut_127 (lv_at hl 5 rfl) ?_
      have hP9 := hP.sub [0, 1, 2, 3, 4, 5, 6, 7] rfl
      exact W.iret (v := (nI (ct_us sz (L ||| R ||| T) k).length)) hx hb hr (fun tS ht hW => ⟨⟨(nI (ct_us sz (L ||| R ||| T) k).length), (ge, gi, ga, gb, gt), rfl, ⟨by rw [show k = 8 by omega], by rw [show k = 8 by omega] at hlay; exact hlay⟩, by rw [ht]; exact hP9, va_K.moved hW.alike hK, hD.sub [0, 1, 2, 3, 4, 5, 6, 7] (by decide) rfl⟩, hS.F ht⟩) hS.2.2 d_R_layOut_129
    | succ n ih =>
      intro k hk ge gi ga gb gt hlay H locs hP hD hS ls hl
      refine lv_iload hx hb d_R_layOut_13 (lv_at hl 6 rfl) ?_
      refine lv_bipush (v := (nI 8)) hx hb d_R_layOut_15 (by decide) ?_
      refine lv_icmp_ge (tgt := 127) hx hb d_R_layOut_17 (by decide) (fun hc9 => absurd hc9 (nI_ge (by omega) (by omega))) (fun _ => ?_)
      have hlen := ct_us_len (sz := sz) (U := (L ||| R ||| T)) k
      refine lv_iload hx hb d_R_layOut_20 (lv_at hl 4 rfl) ?_
      refine lv_iload hx hb d_R_layOut_22 (lv_at hl 6 rfl) ?_
      refine lv_ishr hx hb d_R_layOut_24 ?_
      refine lv_iconst (v := (nI 1)) hx hb d_R_layOut_25 (by decide) ?_
      by_cases hbt : ((L ||| R ||| T)).testBit k = true
      · refine lv_iand hx hb d_R_layOut_26 ?_
        refine ct_val (y := nI 1) (by rw [ct_bit (by omega) (by omega), if_pos hbt]) ?_
        refine lv_if_eq (tgt := 121) hx hb d_R_layOut_27 (by decide) (fun hc9 => absurd hc9 (nI_ne0 (by omega) (by omega))) (fun _ => ?_)
        refine lv_aload_n hx hb d_R_layOut_30 rfl (lv_at hl 0 rfl) ?_
        refine va_get (D := (dC, dI)) (ci := 3) (v := .ref z0) (C := R_R) (T := T_R) (N := 7) hx hb hts (fun w h9 => ct_tl (ki_R w h9)) hown hK hP 0 rfl rfl 0 (by decide) (hts _ (ct_tl kw_92)) (fun _ h9 => h9) rfl d_R_layOut_31 ?_
        refine lv_iload hx hb d_R_layOut_34 (lv_at hl 6 rfl) ?_
        refine va_calli (va_runV (As := [.int (nI k)]) (rest := []) ⟨hx, hb, hml, hown, hts⟩ (c_S_sizeOf l dC dI cI z0 z1 sz k (by omega)) (cwV 1 hts (ct_giV (fun w h9 => ct_tl h9) kw_458 kw_459 kw_460 kw_27 kw_461) rfl rfl rfl (by decide +kernel) ⟨Nat.le_of_ble_eq_true rfl, Nat.le_of_ble_eq_true rfl⟩) ⟨ct_ro_blind, va_recv hK hP (ci := 1) (q0 := 6) rfl rfl, ct_ro_pre (hP.sub [6, 7] rfl) hK⟩ rfl rfl hl.1 rfl (lv_room (Nat.le_of_ble_eq_true rfl)) d_R_layOut_36 ⟨Nat.le_of_ble_eq_true rfl, Nat.le_of_ble_eq_true rfl⟩) hS (fun q _ h9 => h9.elim) (fun q h9 => h9.elim) (fun ans101 uS tS H locs ht hvm hwans101 hB hz1 hk1 hS => ?_)
        have hP := ct_keep hP hk1
        refine ct_val (y := nI (sz k)) (hwans101) ?_
        refine lv_iconst (v := (nI 1)) hx hb d_R_layOut_39 (by decide) ?_
        by_cases hb1 : 1 < sz k
        · have hz4 := hsz k (by omega)
          refine lv_icmp_le (tgt := 121) hx hb d_R_layOut_40 (by decide) (fun hc9 => absurd hc9 (fun z9 => absurd ((nI_leI (by omega) (by omega)).mp z9) (by omega))) (fun _ => ?_)
          refine lv_aload_n hx hb d_R_layOut_43 rfl (lv_at hl 0 rfl) ?_
          refine va_get (D := (dC, dI)) (ci := 3) (v := .ref r2) (C := R_R) (T := T_R) (N := 7) hx hb hts (fun w h9 => ct_tl (ki_R w h9)) hown hK hP 0 rfl rfl 2 (by decide) (hts _ (ct_tl kw_94)) (fun _ h9 => h9) rfl d_R_layOut_44 ?_
          refine lv_iload hx hb d_R_layOut_47 (lv_at hl 5 rfl) ?_
          refine lv_aload_n hx hb d_R_layOut_49 rfl (lv_at hl 0 rfl) ?_
          refine va_get (D := (dC, dI)) (ci := 3) (v := .ref z0) (C := R_R) (T := T_R) (N := 7) hx hb hts (fun w h9 => ct_tl (ki_R w h9)) hown hK hP 0 rfl rfl 0 (by decide) (hts _ (ct_tl kw_92)) (fun _ h9 => h9) rfl d_R_layOut_50 ?_
          refine lv_iload hx hb d_R_layOut_53 (lv_at hl 6 rfl) ?_
          refine va_calli (va_runV (As := [.int (nI k)]) (rest := [.int (nI (ct_us sz (L ||| R ||| T) k).length), .ref r2]) ⟨hx, hb, hml, hown, hts⟩ (c_S_sizeOf l dC dI cI z0 z1 sz k (by omega)) (cwV 1 hts (ct_giV (fun w h9 => ct_tl h9) kw_458 kw_459 kw_460 kw_27 kw_461) rfl rfl rfl (by decide +kernel) ⟨Nat.le_of_ble_eq_true rfl, Nat.le_of_ble_eq_true rfl⟩) ⟨ct_ro_blind, va_recv hK hP (ci := 1) (q0 := 6) rfl rfl, ct_ro_pre (hP.sub [6, 7] rfl) hK⟩ rfl rfl hl.1 rfl (lv_room (Nat.le_of_ble_eq_true rfl)) d_R_layOut_55 ⟨Nat.le_of_ble_eq_true rfl, Nat.le_of_ble_eq_true rfl⟩) hS (fun q _ h9 => h9.elim) (fun q h9 => h9.elim) (fun ans202 uS tS H locs ht hvm hwans202 hB hz1 hk1 hS => ?_)
          have hP := ct_keep hP hk1
          refine ct_val (y := nI (sz k)) (hwans202) ?_
          refine ct_iast hx hb hK hP hD hS 1 0 rfl rfl (j := (ct_us sz (L ||| R ||| T) k).length) (by omega) (by omega) d_R_layOut_58 (fun H locs hP hD hS => ?_)
          have hP : va_P (dC, dI) ct_cl [(r0, .inr (3, [.ref z0, .ref r1, .ref r2, .ref r3, .ref r4, .ref r5, .ref r6])), (r2, .inl (cI, 8, .inl (upd ge ((ct_us sz (L ||| R ||| T) k).length) (nI (sz k))))), (r3, .inl (cI, 8, .inl gi)), (r4, .inl (cI, 8, .inl ga)), (r5, .inl (cI, 8, .inl gb)), (r6, .inl (cI, 8, .inl gt)), (z0, .inr (1, [.ref z1])), (z1, .inl (cI, 8, .inl (fun j => nI (sz j))))] H := hP
          have hD : va_D A [(r0, .inr (3, [.ref z0, .ref r1, .ref r2, .ref r3, .ref r4, .ref r5, .ref r6])), (r2, .inl (cI, 8, .inl (upd ge ((ct_us sz (L ||| R ||| T) k).length) (nI (sz k))))), (r3, .inl (cI, 8, .inl gi)), (r4, .inl (cI, 8, .inl ga)), (r5, .inl (cI, 8, .inl gb)), (r6, .inl (cI, 8, .inl gt)), (z0, .inr (1, [.ref z1])), (z1, .inl (cI, 8, .inl (fun j => nI (sz j))))] := hD
          refine lv_aload_n hx hb d_R_layOut_59 rfl (lv_at hl 0 rfl) ?_
          refine va_get (D := (dC, dI)) (ci := 3) (v := .ref r3) (C := R_R) (T := T_R) (N := 7) hx hb hts (fun w h9 => ct_tl (ki_R w h9)) hown hK hP 0 rfl rfl 3 (by decide) (hts _ (ct_tl kw_95)) (fun _ h9 => h9) rfl d_R_layOut_60 ?_
          refine lv_iload hx hb d_R_layOut_63 (lv_at hl 5 rfl) ?_
          refine lv_iconst (v := (nI 0)) hx hb d_R_layOut_65 (by decide) ?_
          refine ct_iast hx hb hK hP hD hS 2 0 rfl rfl (j := (ct_us sz (L ||| R ||| T) k).length) (by omega) (by omega) d_R_layOut_66 (fun H locs hP hD hS => ?_)
          have hP : va_P (dC, dI) ct_cl [(r0, .inr (3, [.ref z0, .ref r1, .ref r2, .ref r3, .ref r4, .ref r5, .ref r6])), (r2, .inl (cI, 8, .inl (upd ge ((ct_us sz (L ||| R ||| T) k).length) (nI (sz k))))), (r3, .inl (cI, 8, .inl (upd gi ((ct_us sz (L ||| R ||| T) k).length) (nI 0)))), (r4, .inl (cI, 8, .inl ga)), (r5, .inl (cI, 8, .inl gb)), (r6, .inl (cI, 8, .inl gt)), (z0, .inr (1, [.ref z1])), (z1, .inl (cI, 8, .inl (fun j => nI (sz j))))] H := hP
          have hD : va_D A [(r0, .inr (3, [.ref z0, .ref r1, .ref r2, .ref r3, .ref r4, .ref r5, .ref r6])), (r2, .inl (cI, 8, .inl (upd ge ((ct_us sz (L ||| R ||| T) k).length) (nI (sz k))))), (r3, .inl (cI, 8, .inl (upd gi ((ct_us sz (L ||| R ||| T) k).length) (nI 0)))), (r4, .inl (cI, 8, .inl ga)), (r5, .inl (cI, 8, .inl gb)), (r6, .inl (cI, 8, .inl gt)), (z0, .inr (1, [.ref z1])), (z1, .inl (cI, 8, .inl (fun j => nI (sz j))))] := hD
          refine lv_aload_n hx hb d_R_layOut_67 rfl (lv_at hl 0 rfl) ?_
          refine va_get (D := (dC, dI)) (ci := 3) (v := .ref r4) (C := R_R) (T := T_R) (N := 7) hx hb hts (fun w h9 => ct_tl (ki_R w h9)) hown hK hP 0 rfl rfl 4 (by decide) (hts _ (ct_tl kw_96)) (fun _ h9 => h9) rfl d_R_layOut_68 ?_
          refine lv_iload hx hb d_R_layOut_71 (lv_at hl 5 rfl) ?_
          refine lv_aload_n hx hb d_R_layOut_73 rfl (lv_at hl 0 rfl) ?_
          refine va_get (D := (dC, dI)) (ci := 3) (v := .ref z0) (C := R_R) (T := T_R) (N := 7) hx hb hts (fun w h9 => ct_tl (ki_R w h9)) hown hK hP 0 rfl rfl 0 (by decide) (hts _ (ct_tl kw_92)) (fun _ h9 => h9) rfl d_R_layOut_74 ?_
          refine lv_iload_n hx hb d_R_layOut_77 rfl (lv_at hl 1 rfl) ?_
          refine lv_iload hx hb d_R_layOut_78 (lv_at hl 6 rfl) ?_
          refine va_calli (va_runV (As := [.int (nI L), .int (nI k)]) (rest := [.int (nI (ct_us sz (L ||| R ||| T) k).length), .ref r4]) ⟨hx, hb, hml, hown, hts⟩ (c_S_stride l dC dI cI z0 z1 sz L k hL (by omega)) (cwV 2 hts (ct_giV (fun w h9 => ct_tl h9) kw_462 kw_463 kw_464 kw_27 kw_465) rfl rfl rfl (by decide +kernel) ⟨Nat.le_of_ble_eq_true rfl, Nat.le_of_ble_eq_true rfl⟩) ⟨ct_ro_blind, va_recv hK hP (ci := 1) (q0 := 6) rfl rfl, ct_ro_pre (hP.sub [6, 7] rfl) hK⟩ rfl rfl hl.1 rfl (lv_room (Nat.le_of_ble_eq_true rfl)) d_R_layOut_80 ⟨Nat.le_of_ble_eq_true rfl, Nat.le_of_ble_eq_true rfl⟩) hS (fun q _ h9 => h9.elim) (fun q h9 => h9.elim) (fun ans203 uS tS H locs ht hvm hwans203 hB hz1 hk1 hS => ?_)
          have hP := ct_keep hP hk1
          refine ct_val (y := nI (ct_sr sz L k)) (hwans203) ?_
          refine ct_iast hx hb hK hP hD hS 3 0 rfl rfl (j := (ct_us sz (L ||| R ||| T) k).length) (by omega) (by omega) d_R_layOut_83 (fun H locs hP hD hS => ?_)
          have hP : va_P (dC, dI) ct_cl [(r0, .inr (3, [.ref z0, .ref r1, .ref r2, .ref r3, .ref r4, .ref r5, .ref r6])), (r2, .inl (cI, 8, .inl (upd ge ((ct_us sz (L ||| R ||| T) k).length) (nI (sz k))))), (r3, .inl (cI, 8, .inl (upd gi ((ct_us sz (L ||| R ||| T) k).length) (nI 0)))), (r4, .inl (cI, 8, .inl (upd ga ((ct_us sz (L ||| R ||| T) k).length) (nI (ct_sr sz L k))))), (r5, .inl (cI, 8, .inl gb)), (r6, .inl (cI, 8, .inl gt)), (z0, .inr (1, [.ref z1])), (z1, .inl (cI, 8, .inl (fun j => nI (sz j))))] H := hP
          have hD : va_D A [(r0, .inr (3, [.ref z0, .ref r1, .ref r2, .ref r3, .ref r4, .ref r5, .ref r6])), (r2, .inl (cI, 8, .inl (upd ge ((ct_us sz (L ||| R ||| T) k).length) (nI (sz k))))), (r3, .inl (cI, 8, .inl (upd gi ((ct_us sz (L ||| R ||| T) k).length) (nI 0)))), (r4, .inl (cI, 8, .inl (upd ga ((ct_us sz (L ||| R ||| T) k).length) (nI (ct_sr sz L k))))), (r5, .inl (cI, 8, .inl gb)), (r6, .inl (cI, 8, .inl gt)), (z0, .inr (1, [.ref z1])), (z1, .inl (cI, 8, .inl (fun j => nI (sz j))))] := hD
          refine lv_aload_n hx hb d_R_layOut_84 rfl (lv_at hl 0 rfl) ?_
          refine va_get (D := (dC, dI)) (ci := 3) (v := .ref r5) (C := R_R) (T := T_R) (N := 7) hx hb hts (fun w h9 => ct_tl (ki_R w h9)) hown hK hP 0 rfl rfl 5 (by decide) (hts _ (ct_tl kw_97)) (fun _ h9 => h9) rfl d_R_layOut_85 ?_
          refine lv_iload hx hb d_R_layOut_88 (lv_at hl 5 rfl) ?_
          refine lv_aload_n hx hb d_R_layOut_90 rfl (lv_at hl 0 rfl) ?_
          refine va_get (D := (dC, dI)) (ci := 3) (v := .ref z0) (C := R_R) (T := T_R) (N := 7) hx hb hts (fun w h9 => ct_tl (ki_R w h9)) hown hK hP 0 rfl rfl 0 (by decide) (hts _ (ct_tl kw_92)) (fun _ h9 => h9) rfl d_R_layOut_91 ?_
          refine lv_iload_n hx hb d_R_layOut_94 rfl (lv_at hl 2 rfl) ?_
          refine lv_iload hx hb d_R_layOut_95 (lv_at hl 6 rfl) ?_
          refine va_calli (va_runV (As := [.int (nI R), .int (nI k)]) (rest := [.int (nI (ct_us sz (L ||| R ||| T) k).length), .ref r5]) ⟨hx, hb, hml, hown, hts⟩ (c_S_stride l dC dI cI z0 z1 sz R k hR (by omega)) (cwV 2 hts (ct_giV (fun w h9 => ct_tl h9) kw_462 kw_463 kw_464 kw_27 kw_465) rfl rfl rfl (by decide +kernel) ⟨Nat.le_of_ble_eq_true rfl, Nat.le_of_ble_eq_true rfl⟩) ⟨ct_ro_blind, va_recv hK hP (ci := 1) (q0 := 6) rfl rfl, ct_ro_pre (hP.sub [6, 7] rfl) hK⟩ rfl rfl hl.1 rfl (lv_room (Nat.le_of_ble_eq_true rfl)) d_R_layOut_97 ⟨Nat.le_of_ble_eq_true rfl, Nat.le_of_ble_eq_true rfl⟩) hS (fun q _ h9 => h9.elim) (fun q h9 => h9.elim) (fun ans204 uS tS H locs ht hvm hwans204 hB hz1 hk1 hS => ?_)
          have hP := ct_keep hP hk1
          refine ct_val (y := nI (ct_sr sz R k)) (hwans204) ?_
          refine ct_iast hx hb hK hP hD hS 4 0 rfl rfl (j := (ct_us sz (L ||| R ||| T) k).length) (by omega) (by omega) d_R_layOut_100 (fun H locs hP hD hS => ?_)
          have hP : va_P (dC, dI) ct_cl [(r0, .inr (3, [.ref z0, .ref r1, .ref r2, .ref r3, .ref r4, .ref r5, .ref r6])), (r2, .inl (cI, 8, .inl (upd ge ((ct_us sz (L ||| R ||| T) k).length) (nI (sz k))))), (r3, .inl (cI, 8, .inl (upd gi ((ct_us sz (L ||| R ||| T) k).length) (nI 0)))), (r4, .inl (cI, 8, .inl (upd ga ((ct_us sz (L ||| R ||| T) k).length) (nI (ct_sr sz L k))))), (r5, .inl (cI, 8, .inl (upd gb ((ct_us sz (L ||| R ||| T) k).length) (nI (ct_sr sz R k))))), (r6, .inl (cI, 8, .inl gt)), (z0, .inr (1, [.ref z1])), (z1, .inl (cI, 8, .inl (fun j => nI (sz j))))] H := hP
          have hD : va_D A [(r0, .inr (3, [.ref z0, .ref r1, .ref r2, .ref r3, .ref r4, .ref r5, .ref r6])), (r2, .inl (cI, 8, .inl (upd ge ((ct_us sz (L ||| R ||| T) k).length) (nI (sz k))))), (r3, .inl (cI, 8, .inl (upd gi ((ct_us sz (L ||| R ||| T) k).length) (nI 0)))), (r4, .inl (cI, 8, .inl (upd ga ((ct_us sz (L ||| R ||| T) k).length) (nI (ct_sr sz L k))))), (r5, .inl (cI, 8, .inl (upd gb ((ct_us sz (L ||| R ||| T) k).length) (nI (ct_sr sz R k))))), (r6, .inl (cI, 8, .inl gt)), (z0, .inr (1, [.ref z1])), (z1, .inl (cI, 8, .inl (fun j => nI (sz j))))] := hD
          refine lv_aload_n hx hb d_R_layOut_101 rfl (lv_at hl 0 rfl) ?_
          refine va_get (D := (dC, dI)) (ci := 3) (v := .ref r6) (C := R_R) (T := T_R) (N := 7) hx hb hts (fun w h9 => ct_tl (ki_R w h9)) hown hK hP 0 rfl rfl 6 (by decide) (hts _ (ct_tl kw_98)) (fun _ h9 => h9) rfl d_R_layOut_102 ?_
          refine lv_iload hx hb d_R_layOut_105 (lv_at hl 5 rfl) ?_
          refine lv_aload_n hx hb d_R_layOut_107 rfl (lv_at hl 0 rfl) ?_
          refine va_get (D := (dC, dI)) (ci := 3) (v := .ref z0) (C := R_R) (T := T_R) (N := 7) hx hb hts (fun w h9 => ct_tl (ki_R w h9)) hown hK hP 0 rfl rfl 0 (by decide) (hts _ (ct_tl kw_92)) (fun _ h9 => h9) rfl d_R_layOut_108 ?_
          refine lv_iload_n hx hb d_R_layOut_111 rfl (lv_at hl 3 rfl) ?_
          refine lv_iload hx hb d_R_layOut_112 (lv_at hl 6 rfl) ?_
          refine va_calli (va_runV (As := [.int (nI T), .int (nI k)]) (rest := [.int (nI (ct_us sz (L ||| R ||| T) k).length), .ref r6]) ⟨hx, hb, hml, hown, hts⟩ (c_S_stride l dC dI cI z0 z1 sz T k hT (by omega)) (cwV 2 hts (ct_giV (fun w h9 => ct_tl h9) kw_462 kw_463 kw_464 kw_27 kw_465) rfl rfl rfl (by decide +kernel) ⟨Nat.le_of_ble_eq_true rfl, Nat.le_of_ble_eq_true rfl⟩) ⟨ct_ro_blind, va_recv hK hP (ci := 1) (q0 := 6) rfl rfl, ct_ro_pre (hP.sub [6, 7] rfl) hK⟩ rfl rfl hl.1 rfl (lv_room (Nat.le_of_ble_eq_true rfl)) d_R_layOut_114 ⟨Nat.le_of_ble_eq_true rfl, Nat.le_of_ble_eq_true rfl⟩) hS (fun q _ h9 => h9.elim) (fun q h9 => h9.elim) (fun ans205 uS tS H locs ht hvm hwans205 hB hz1 hk1 hS => ?_)
          have hP := ct_keep hP hk1
          refine ct_val (y := nI (ct_sr sz T k)) (hwans205) ?_
          refine ct_iast hx hb hK hP hD hS 5 0 rfl rfl (j := (ct_us sz (L ||| R ||| T) k).length) (by omega) (by omega) d_R_layOut_117 (fun H locs hP hD hS => ?_)
          have hP : va_P (dC, dI) ct_cl [(r0, .inr (3, [.ref z0, .ref r1, .ref r2, .ref r3, .ref r4, .ref r5, .ref r6])), (r2, .inl (cI, 8, .inl (upd ge ((ct_us sz (L ||| R ||| T) k).length) (nI (sz k))))), (r3, .inl (cI, 8, .inl (upd gi ((ct_us sz (L ||| R ||| T) k).length) (nI 0)))), (r4, .inl (cI, 8, .inl (upd ga ((ct_us sz (L ||| R ||| T) k).length) (nI (ct_sr sz L k))))), (r5, .inl (cI, 8, .inl (upd gb ((ct_us sz (L ||| R ||| T) k).length) (nI (ct_sr sz R k))))), (r6, .inl (cI, 8, .inl (upd gt ((ct_us sz (L ||| R ||| T) k).length) (nI (ct_sr sz T k))))), (z0, .inr (1, [.ref z1])), (z1, .inl (cI, 8, .inl (fun j => nI (sz j))))] H := hP
          have hD : va_D A [(r0, .inr (3, [.ref z0, .ref r1, .ref r2, .ref r3, .ref r4, .ref r5, .ref r6])), (r2, .inl (cI, 8, .inl (upd ge ((ct_us sz (L ||| R ||| T) k).length) (nI (sz k))))), (r3, .inl (cI, 8, .inl (upd gi ((ct_us sz (L ||| R ||| T) k).length) (nI 0)))), (r4, .inl (cI, 8, .inl (upd ga ((ct_us sz (L ||| R ||| T) k).length) (nI (ct_sr sz L k))))), (r5, .inl (cI, 8, .inl (upd gb ((ct_us sz (L ||| R ||| T) k).length) (nI (ct_sr sz R k))))), (r6, .inl (cI, 8, .inl (upd gt ((ct_us sz (L ||| R ||| T) k).length) (nI (ct_sr sz T k))))), (z0, .inr (1, [.ref z1])), (z1, .inl (cI, 8, .inl (fun j => nI (sz j))))] := hD
          have e8 : (ct_us sz (L ||| R ||| T) (k + 1)).length = (ct_us sz (L ||| R ||| T) k).length + 1 := by rw [ct_us_in ⟨hbt, hb1⟩, List.length_append]; rfl
          refine lv_iinc (v := (nI (ct_us sz (L ||| R ||| T) (k + 1)).length)) (lv' := [(5, .int (nI (ct_us sz (L ||| R ||| T) (k + 1)).length)), (0, .ref r0), (1, .int (nI L)), (2, .int (nI R)), (3, .int (nI T)), (4, .int (nI (L ||| R ||| T))), (6, .int (nI k))]) hx hb d_R_layOut_118 hl (k := 5) rfl (by rw [e8]; exact nI_1 _) (by decide) rfl (fun ls hl => ?_)
          refine lv_iinc (v := (nI (k + 1))) (lv' := [(6, .int (nI (k + 1))), (5, .int (nI (ct_us sz (L ||| R ||| T) (k + 1)).length)), (0, .ref r0), (1, .int (nI L)), (2, .int (nI R)), (3, .int (nI T)), (4, .int (nI (L ||| R ||| T)))]) hx hb d_R_layOut_121 hl (k := 6) rfl (nI_1 _) (by decide) rfl (fun ls hl => ?_)
          refine lv_goto (tgt := 13) hx hb d_R_layOut_124 (by decide) ?_
          exact ih (k + 1) (by omega) _ _ _ _ _ (by rw [ct_us_in ⟨hbt, hb1⟩]; exact ct_lay_step hlay) H locs hP hD hS ls (lv_sub hl [2, 3, 4, 5, 6, 1, 0] rfl)
        · refine lv_icmp_le (tgt := 121) hx hb d_R_layOut_40 (by decide) (fun _ => ?_) (fun hc9 => absurd (nI_le (by omega) (by omega)) hc9)
          have hno : ¬ (((L ||| R ||| T)).testBit k = true ∧ 1 < sz k) := fun z9 => hb1 z9.2
          refine lv_iinc (v := (nI (k + 1))) (lv' := [(6, .int (nI (k + 1))), (0, .ref r0), (1, .int (nI L)), (2, .int (nI R)), (3, .int (nI T)), (4, .int (nI (L ||| R ||| T))), (5, .int (nI (ct_us sz (L ||| R ||| T) k).length))]) hx hb d_R_layOut_121 hl (k := 6) rfl (nI_1 _) (by decide) rfl (fun ls hl => ?_)
          refine lv_goto (tgt := 13) hx hb d_R_layOut_124 (by decide) ?_
          exact ih (k + 1) (by omega) ge gi ga gb gt (by rw [ct_us_out hno]; exact hlay) H locs hP hD hS ls (by rw [ct_us_out hno]; exact lv_sub hl [1, 2, 3, 4, 5, 6, 0] rfl)
      · refine lv_iand hx hb d_R_layOut_26 ?_
        refine ct_val (y := nI 0) (by rw [ct_bit (by omega) (by omega), if_neg hbt]) ?_
        refine lv_if_eq (tgt := 121) hx hb d_R_layOut_27 (by decide) (fun _ => ?_) (fun hc9 => absurd (nI_0) hc9)
        have hno : ¬ (((L ||| R ||| T)).testBit k = true ∧ 1 < sz k) := fun z9 => hbt z9.1
        refine lv_iinc (v := (nI (k + 1))) (lv' := [(6, .int (nI (k + 1))), (0, .ref r0), (1, .int (nI L)), (2, .int (nI R)), (3, .int (nI T)), (4, .int (nI (L ||| R ||| T))), (5, .int (nI (ct_us sz (L ||| R ||| T) k).length))]) hx hb d_R_layOut_121 hl (k := 6) rfl (nI_1 _) (by decide) rfl (fun ls hl => ?_)
        refine lv_goto (tgt := 13) hx hb d_R_layOut_124 (by decide) ?_
        exact ih (k + 1) (by omega) ge gi ga gb gt (by rw [ct_us_out hno]; exact hlay) H locs hP hD hS ls (by rw [ct_us_out hno]; exact lv_sub hl [1, 2, 3, 4, 5, 6, 0] rfl)
  refine lv_iload_n hx hb d_R_layOut_0 rfl (lv_at hl 1 rfl) ?_
  refine lv_iload_n hx hb d_R_layOut_1 rfl (lv_at hl 2 rfl) ?_
  refine lv_ior hx hb d_R_layOut_2 ?_
  refine ct_val (y := nI (L ||| R)) (ct_or _ _) ?_
  refine lv_iload_n hx hb d_R_layOut_3 rfl (lv_at hl 3 rfl) ?_
  refine lv_ior hx hb d_R_layOut_4 ?_
  refine ct_val (y := nI (L ||| R ||| T)) (ct_or _ _) ?_
  refine lv_istore (lv' := [(4, .int (nI (L ||| R ||| T))), (0, .ref r0), (1, .int (nI L)), (2, .int (nI R)), (3, .int (nI T))]) hx hb d_R_layOut_5 hl (by decide) rfl (fun ls hl => ?_)
  refine lv_iconst (v := (nI 0)) hx hb d_R_layOut_7 (by decide) ?_
  refine lv_istore (lv' := [(5, .int (nI 0)), (4, .int (nI (L ||| R ||| T))), (0, .ref r0), (1, .int (nI L)), (2, .int (nI R)), (3, .int (nI T))]) hx hb d_R_layOut_8 hl (by decide) rfl (fun ls hl => ?_)
  refine lv_iconst (v := (nI 0)) hx hb d_R_layOut_10 (by decide) ?_
  refine lv_istore (lv' := [(6, .int (nI 0)), (5, .int (nI 0)), (4, .int (nI (L ||| R ||| T))), (0, .ref r0), (1, .int (nI L)), (2, .int (nI R)), (3, .int (nI T))]) hx hb d_R_layOut_11 hl (by decide) rfl (fun ls hl => ?_)
  exact loop 8 0 rfl fe fi fa fb ft (fun d h9 => absurd h9 (Nat.not_lt_zero d)) s.heap [] hP hD hS ls (lv_sub hl [3, 4, 5, 6, 2, 1, 0] rfl)
end
section
/-! the odometer over the labels with more than one index -/
def ct_kk (us : List Nat) (n d : Nat) : Nat := if d < us.length then us.getD d 0 else n
theorem ct_kk_in {us : List Nat} {n d : Nat} (h : d < us.length) : ct_kk us n d = us.getD d 0 := if_pos h
theorem ct_kk_out {us : List Nat} {n d : Nat} (h : us.length ≤ d) : ct_kk us n d = n := if_neg (by omega)
theorem ct_kk_app {us : List Nat} {n d : Nat} (h : d ≤ us.length) : ct_kk (us ++ [n]) (n + 1) d = ct_kk us n d := by
  have hl : (us ++ [n]).length = us.length + 1 := by rw [List.length_append]; rfl
  by_cases h1 : d < us.length
  · rw [ct_kk_in (by omega), ct_kk_in h1, ct_gd_l h1]
  · rw [ct_kk_in (by omega), ct_kk_out (by omega), show d = us.length by omega, ct_gd_r]
def ct_skip (sz : Nat → Nat) (U j : Nat) : Prop := U.testBit j = false ∨ sz j = 1
theorem ct_us_ok {sz : Nat → Nat} {U : Nat} (n : Nat) (hs : ∀ k, k < n → 0 < sz k) :
    (∀ d, d < (ct_us sz U n).length → (ct_us sz U n).getD d 0 < ct_kk (ct_us sz U n) n (d + 1) ∧ (ct_us sz U n).getD d 0 < n ∧ U.testBit ((ct_us sz U n).getD d 0) = true ∧ 1 < sz ((ct_us sz U n).getD d 0) ∧ ∀ j, (ct_us sz U n).getD d 0 < j → j < ct_kk (ct_us sz U n) n (d + 1) → ct_skip sz U j) ∧
    (∀ j, j < ct_kk (ct_us sz U n) n 0 → ct_skip sz U j) ∧ (∀ d, ct_kk (ct_us sz U n) n d ≤ n) ∧ (∀ d1 d2, d1 < (ct_us sz U n).length → d2 < (ct_us sz U n).length → (ct_us sz U n).getD d1 0 = (ct_us sz U n).getD d2 0 → d1 = d2) := by
  induction n with
  | zero =>
    refine ⟨fun d h => absurd h (Nat.not_lt_zero d), fun j h => ?_, fun d => ?_, fun d1 d2 h => absurd h (Nat.not_lt_zero d1)⟩
    · rw [ct_kk_out (Nat.zero_le _)] at h; omega
    · rw [ct_kk_out (Nat.zero_le _)]; exact Nat.le_refl 0
  | succ n ih =>
    obtain ⟨h1, h2, h3, h4⟩ := ih (fun k hk => hs k (by omega))
    by_cases hv : U.testBit n = true ∧ 1 < sz n
    · rw [ct_us_in hv]
      generalize ct_us sz U n = us at h1 h2 h3 h4 ⊢
      have hl : (us ++ [n]).length = us.length + 1 := by rw [List.length_append]; rfl
      refine ⟨fun d hd => ?_, fun j hj => ?_, fun d => ?_, fun d1 d2 e1 e2 e3 => ?_⟩
      · by_cases h9 : d < us.length
        · rw [ct_gd_l h9, ct_kk_app (by omega)]
          obtain ⟨a1, a2, a3, a4, a5⟩ := h1 d h9
          exact ⟨a1, by omega, a3, a4, a5⟩
        · rw [show d = us.length by omega, ct_gd_r, ct_kk_out (by omega)]
          exact ⟨by omega, by omega, hv.1, hv.2, fun j b1 b2 => by omega⟩
      · rw [ct_kk_app (Nat.zero_le _)] at hj
        exact h2 j hj
      · by_cases h9 : d ≤ us.length
        · rw [ct_kk_app h9]; have := h3 d; omega
        · rw [ct_kk_out (by omega)]; exact Nat.le_refl _
      · by_cases f1 : d1 < us.length
        · by_cases f2 : d2 < us.length
          · rw [ct_gd_l f1, ct_gd_l f2] at e3
            exact h4 d1 d2 f1 f2 e3
          · rw [ct_gd_l f1, show d2 = us.length by omega, ct_gd_r] at e3
            have := (h1 d1 f1).2.1
            omega
        · by_cases f2 : d2 < us.length
          · rw [ct_gd_l f2, show d1 = us.length by omega, ct_gd_r] at e3
            have := (h1 d2 f2).2.1
            omega
          · omega
    · rw [ct_us_out hv]
      have hsk : ct_skip sz U n := by
        cases hb : U.testBit n with
        | false => exact Or.inl hb
        | true =>
          have h0 := hs n (by omega)
          have : ¬ 1 < sz n := fun z => hv ⟨hb, z⟩
          exact Or.inr (by omega)
      generalize ct_us sz U n = us at h1 h2 h3 h4 ⊢
      have hk : ∀ d, ct_kk us (n + 1) d = if d < us.length then ct_kk us n d else n + 1 := by
        intro d
        by_cases h9 : d < us.length
        · rw [if_pos h9, ct_kk_in h9, ct_kk_in h9]
        · rw [if_neg h9, ct_kk_out (by omega)]
      refine ⟨fun d hd => ?_, fun j hj => ?_, fun d => ?_, h4⟩
      · obtain ⟨a1, a2, a3, a4, a5⟩ := h1 d hd
        rw [hk]
        by_cases h9 : d + 1 < us.length
        · rw [if_pos h9]; exact ⟨a1, by omega, a3, a4, a5⟩
        · rw [if_neg h9]
          rw [ct_kk_out (by omega)] at a5
          refine ⟨by omega, by omega, a3, a4, fun j b1 b2 => ?_⟩
          by_cases hj : j = n
          · rw [hj]; exact hsk
          · exact a5 j b1 (by omega)
      · rw [hk] at hj
        by_cases h9 : 0 < us.length
        · rw [if_pos h9] at hj; exact h2 j hj
        · rw [if_neg h9] at hj
          rw [ct_kk_out (by omega)] at h2
          by_cases hjn : j = n
          · rw [hjn]; exact hsk
          · exact h2 j (by omega)
      · rw [hk]
        by_cases h9 : d < us.length
        · rw [if_pos h9]; have := h3 d; omega
        · rw [if_neg h9]; exact Nat.le_refl _
theorem ct_ix_zero {sz : Nat → Nat} {M k : Nat} {t : Nat → Nat} (hk : k < 8) (h : t k + 1 = sz k) : ct_ix sz M.testBit 8 (ct_st t k 0) + (sz k - 1) * ct_sr sz M k = ct_ix sz M.testBit 8 t := by
  unfold ct_sr
  by_cases hb : M.testBit k = true
  · rw [if_pos hb, ← h, Nat.add_sub_cancel, ct_ix_st t 0 hb 8 hk]; omega
  · rw [if_neg hb, ct_ix_no t 0 (by simpa using hb)]; omega
theorem ct_ix_inc {sz : Nat → Nat} {M k : Nat} (t : Nat → Nat) (hk : k < 8) : ct_ix sz M.testBit 8 (ct_st t k (t k + 1)) = ct_ix sz M.testBit 8 t + ct_sr sz M k := by
  unfold ct_sr
  by_cases hb : M.testBit k = true
  · rw [if_pos hb]
    have h := ct_ix_st (sz := sz) t (t k + 1) hb 8 hk
    rw [Nat.add_mul, Nat.one_mul] at h
    omega
  · rw [if_neg hb, ct_ix_no t _ (by simpa using hb)]; omega
theorem ct_pos_wrap {a x A z u : Nat} (hz : 1 ≤ z) (h : A + (z - 1) * u = x) : nI (a + x) + (nI 1 - nI z) * nI u = nI (a + A) := by
  obtain ⟨y, rfl⟩ : ∃ y, z = y + 1 := ⟨z - 1, by omega⟩
  rw [← h, Nat.add_sub_cancel, ← Nat.add_assoc, ← nI_add (a + A), ← pk_mul, ← nI_1 y]
  have e : nI 1 - (nI y + 1) = -(nI y) := by
    show (1 : Int32) - (nI y + 1) = -(nI y)
    rw [Int32.add_comm, ← Int32.sub_sub, Int32.sub_self, Int32.zero_sub]
  rw [e, Int32.neg_mul, Int32.add_neg_eq_sub, Int32.add_sub_cancel]
theorem ct_pos_inc {a x u : Nat} : nI (a + x) + nI 1 * nI u = nI (a + (x + u)) := by
  rw [pk_mul, Nat.one_mul, nI_add, Nat.add_assoc]
theorem ct_by_ne {z : Nat} (h1 : 1 < z) (h2 : z < 4) : ¬ (nI 1 - nI z = nI 1) := by
  rcases (show z = 2 ∨ z = 3 by omega) with rfl | rfl <;> decide
theorem ct_car_lt {sz : Nat → Nat} {U : Nat → Bool} {n k : Nat} {t : Nat → Nat} (h : ct_car sz U n (k + 1) t) (hU : U k = true) (hz : 0 < sz k) : t k < sz k := by
  obtain ⟨q, -, h2⟩ := h
  rw [h2, ct_de_in hU, ct_st_at]
  exact Nat.mod_lt _ hz
/-- what a join leaves: elsewhere all stays; at each choice of the labels T the sum -/
def ct_joined (sz : Nat → Nat) (f : Nat → Int32) (a L b R t T : Nat) (f' : Nat → Int32) : Prop := (∀ i, (i < t ∨ t + ct_pr sz T.testBit 8 ≤ i) → f' i = f i) ∧ ∀ r : Nat → Nat, (∀ k, k < 8 → T.testBit k = true → r k < sz k) → f' (t + ct_ix sz T.testBit 8 r) = ct_sm sz (fun k => (L ||| R ||| T).testBit k && !T.testBit k) 8 (fun t => f (a + ct_ix sz L.testBit 8 t) * f (b + ct_ix sz R.testBit 8 t)) r
/-- the sum so far, at cell j of the third table -/
def ct_acc (sz : Nat → Nat) (f : Nat → Int32) (a L b R T : Nat) (n j : Nat) : Int32 := ct_sum (fun q => if ct_ix sz T.testBit 8 (ct_de sz (L ||| R ||| T).testBit 8 q) = j then f (a + ct_ix sz L.testBit 8 (ct_de sz (L ||| R ||| T).testBit 8 q)) * f (b + ct_ix sz R.testBit 8 (ct_de sz (L ||| R ||| T).testBit 8 q)) else 0) n
theorem ct_acc_at {sz : Nat → Nat} {f : Nat → Int32} {a L b R T n j : Nat} (h : ct_ix sz T.testBit 8 (ct_de sz (L ||| R ||| T).testBit 8 n) = j) : ct_acc sz f a L b R T (n + 1) j = ct_acc sz f a L b R T n j + f (a + ct_ix sz L.testBit 8 (ct_de sz (L ||| R ||| T).testBit 8 n)) * f (b + ct_ix sz R.testBit 8 (ct_de sz (L ||| R ||| T).testBit 8 n)) := by
  show ct_acc sz f a L b R T n j + (if _ then _ else _) = _
  rw [if_pos h]
theorem ct_acc_no {sz : Nat → Nat} {f : Nat → Int32} {a L b R T n j : Nat} (h : ct_ix sz T.testBit 8 (ct_de sz (L ||| R ||| T).testBit 8 n) ≠ j) : ct_acc sz f a L b R T (n + 1) j = ct_acc sz f a L b R T n j := by
  show ct_acc sz f a L b R T n j + (if _ then _ else _) = _
  rw [if_neg h, Int32.add_zero]
theorem ct_dep_ix (sz : Nat → Nat) (M : Nat) (f : Nat → Int32) (a : Nat) : ct_dep (fun t => f (a + ct_ix sz M.testBit 8 t)) (fun k => decide (k < 8) && M.testBit k) := by
  intro t u h
  show f (a + ct_ix sz M.testBit 8 t) = f (a + ct_ix sz M.testBit 8 u)
  rw [ct_ix_congr (t' := u) 8 (fun _ _ => rfl) (fun _ _ _ => rfl) (fun k hk hb => h k (by simp [hk, hb]))]
theorem ct_acc_end {sz : Nat → Nat} {f f' : Nat → Int32} {a L b R t T : Nat} (hs : ∀ j, j < 8 → 0 < sz j) (h1 : ∀ i, (i < t ∨ t + ct_pr sz T.testBit 8 ≤ i) → f' i = f i) (h2 : ∀ j, j < ct_pr sz T.testBit 8 → f' (t + j) = ct_acc sz f a L b R T (ct_pr sz (L ||| R ||| T).testBit 8) j) : ct_joined sz f a L b R t T f' := by
  refine ⟨h1, fun r hr => ?_⟩
  rw [h2 _ (ct_ix_lt 8 hr)]
  refine ct_join_sum (U := (L ||| R ||| T).testBit) (T := T.testBit) (f := fun t => f (a + ct_ix sz L.testBit 8 t) * f (b + ct_ix sz R.testBit 8 t)) hs (fun k _ hT => by simp [Nat.testBit_or, hT]) hr ?_
  refine ct_dep_mono (ct_dep_mul (ct_dep_ix sz L f a) (ct_dep_ix sz R f b)) (fun k hk => ?_)
  simp only [Bool.or_eq_true, Bool.and_eq_true, decide_eq_true_eq, Nat.testBit_or] at hk ⊢
  rcases hk with h | h
  · exact ⟨h.1, Or.inl (Or.inl h.2)⟩
  · exact ⟨h.1, Or.inl (Or.inr h.2)⟩
end
section
theorem d_R_join_0 : decode b_R_join 0 = .ok (.iload 5, 2) := by decide +kernel
theorem d_R_join_2 : decode b_R_join 2 = .ok (.aload_n 0, 1) := by decide +kernel
theorem d_R_join_3 : decode b_R_join 3 = .ok (.getfield 9, 3) := by decide +kernel
theorem d_R_join_6 : decode b_R_join 6 = .ok (.iload 6, 2) := by decide +kernel
theorem d_R_join_8 : decode b_R_join 8 = .ok (.invokevirtual 46, 3) := by decide +kernel
theorem d_R_join_11 : decode b_R_join 11 = .ok (.iadd, 1) := by decide +kernel
theorem d_R_join_12 : decode b_R_join 12 = .ok (.istore 7, 2) := by decide +kernel
theorem d_R_join_14 : decode b_R_join 14 = .ok (.iload 5, 2) := by decide +kernel
theorem d_R_join_16 : decode b_R_join 16 = .ok (.istore 8, 2) := by decide +kernel
theorem d_R_join_18 : decode b_R_join 18 = .ok (.iload 8, 2) := by decide +kernel
theorem d_R_join_20 : decode b_R_join 20 = .ok (.iload 7, 2) := by decide +kernel
theorem d_R_join_22 : decode b_R_join 22 = .ok (.if_icmp .ge 17, 3) := by decide +kernel
theorem d_R_join_25 : decode b_R_join 25 = .ok (.aload_n 0, 1) := by decide +kernel
theorem d_R_join_26 : decode b_R_join 26 = .ok (.getfield 15, 3) := by decide +kernel
theorem d_R_join_29 : decode b_R_join 29 = .ok (.iload 8, 2) := by decide +kernel
theorem d_R_join_31 : decode b_R_join 31 = .ok (.iconst 0, 1) := by decide +kernel
theorem d_R_join_32 : decode b_R_join 32 = .ok (.iastore, 1) := by decide +kernel
theorem d_R_join_33 : decode b_R_join 33 = .ok (.iinc 8 1, 3) := by decide +kernel
theorem d_R_join_36 : decode b_R_join 36 = .ok (.goto (-18), 3) := by decide +kernel
theorem d_R_join_39 : decode b_R_join 39 = .ok (.aload_n 0, 1) := by decide +kernel
theorem d_R_join_40 : decode b_R_join 40 = .ok (.iload_n 2, 1) := by decide +kernel
theorem d_R_join_41 : decode b_R_join 41 = .ok (.iload 4, 2) := by decide +kernel
theorem d_R_join_43 : decode b_R_join 43 = .ok (.iload 6, 2) := by decide +kernel
theorem d_R_join_45 : decode b_R_join 45 = .ok (.invokevirtual 52, 3) := by decide +kernel
theorem d_R_join_48 : decode b_R_join 48 = .ok (.istore 8, 2) := by decide +kernel
theorem d_R_join_50 : decode b_R_join 50 = .ok (.aload_n 0, 1) := by decide +kernel
theorem d_R_join_51 : decode b_R_join 51 = .ok (.getfield 9, 3) := by decide +kernel
theorem d_R_join_54 : decode b_R_join 54 = .ok (.iload_n 2, 1) := by decide +kernel
theorem d_R_join_55 : decode b_R_join 55 = .ok (.iload 4, 2) := by decide +kernel
theorem d_R_join_57 : decode b_R_join 57 = .ok (.ior, 1) := by decide +kernel
theorem d_R_join_58 : decode b_R_join 58 = .ok (.iload 6, 2) := by decide +kernel
theorem d_R_join_60 : decode b_R_join 60 = .ok (.ior, 1) := by decide +kernel
theorem d_R_join_61 : decode b_R_join 61 = .ok (.invokevirtual 46, 3) := by decide +kernel
theorem d_R_join_64 : decode b_R_join 64 = .ok (.istore 9, 2) := by decide +kernel
theorem d_R_join_66 : decode b_R_join 66 = .ok (.iload_n 1, 1) := by decide +kernel
theorem d_R_join_67 : decode b_R_join 67 = .ok (.istore 10, 2) := by decide +kernel
theorem d_R_join_69 : decode b_R_join 69 = .ok (.iload_n 3, 1) := by decide +kernel
theorem d_R_join_70 : decode b_R_join 70 = .ok (.istore 11, 2) := by decide +kernel
theorem d_R_join_72 : decode b_R_join 72 = .ok (.iload 5, 2) := by decide +kernel
theorem d_R_join_74 : decode b_R_join 74 = .ok (.istore 12, 2) := by decide +kernel
theorem d_R_join_76 : decode b_R_join 76 = .ok (.iconst 0, 1) := by decide +kernel
theorem d_R_join_77 : decode b_R_join 77 = .ok (.istore 13, 2) := by decide +kernel
theorem d_R_join_79 : decode b_R_join 79 = .ok (.iload 13, 2) := by decide +kernel
theorem d_R_join_81 : decode b_R_join 81 = .ok (.iload 9, 2) := by decide +kernel
theorem d_R_join_83 : decode b_R_join 83 = .ok (.if_icmp .ge 155, 3) := by decide +kernel
theorem d_R_join_86 : decode b_R_join 86 = .ok (.aload_n 0, 1) := by decide +kernel
theorem d_R_join_87 : decode b_R_join 87 = .ok (.getfield 15, 3) := by decide +kernel
theorem d_R_join_90 : decode b_R_join 90 = .ok (.iload 12, 2) := by decide +kernel
theorem d_R_join_92 : decode b_R_join 92 = .ok (.dup2, 1) := by decide +kernel
theorem d_R_join_93 : decode b_R_join 93 = .ok (.iaload, 1) := by decide +kernel
theorem d_R_join_94 : decode b_R_join 94 = .ok (.aload_n 0, 1) := by decide +kernel
theorem d_R_join_95 : decode b_R_join 95 = .ok (.getfield 15, 3) := by decide +kernel
theorem d_R_join_98 : decode b_R_join 98 = .ok (.iload 10, 2) := by decide +kernel
theorem d_R_join_100 : decode b_R_join 100 = .ok (.iaload, 1) := by decide +kernel
theorem d_R_join_101 : decode b_R_join 101 = .ok (.aload_n 0, 1) := by decide +kernel
theorem d_R_join_102 : decode b_R_join 102 = .ok (.getfield 15, 3) := by decide +kernel
theorem d_R_join_105 : decode b_R_join 105 = .ok (.iload 11, 2) := by decide +kernel
theorem d_R_join_107 : decode b_R_join 107 = .ok (.iaload, 1) := by decide +kernel
theorem d_R_join_108 : decode b_R_join 108 = .ok (.imul, 1) := by decide +kernel
theorem d_R_join_109 : decode b_R_join 109 = .ok (.iadd, 1) := by decide +kernel
theorem d_R_join_110 : decode b_R_join 110 = .ok (.iastore, 1) := by decide +kernel
theorem d_R_join_111 : decode b_R_join 111 = .ok (.iload 8, 2) := by decide +kernel
theorem d_R_join_113 : decode b_R_join 113 = .ok (.iconst 1, 1) := by decide +kernel
theorem d_R_join_114 : decode b_R_join 114 = .ok (.isub, 1) := by decide +kernel
theorem d_R_join_115 : decode b_R_join 115 = .ok (.istore 14, 2) := by decide +kernel
theorem d_R_join_117 : decode b_R_join 117 = .ok (.iload 14, 2) := by decide +kernel
theorem d_R_join_119 : decode b_R_join 119 = .ok (.ifCond .lt 113, 3) := by decide +kernel
theorem d_R_join_122 : decode b_R_join 122 = .ok (.aload_n 0, 1) := by decide +kernel
theorem d_R_join_123 : decode b_R_join 123 = .ok (.getfield 22, 3) := by decide +kernel
theorem d_R_join_126 : decode b_R_join 126 = .ok (.iload 14, 2) := by decide +kernel
theorem d_R_join_128 : decode b_R_join 128 = .ok (.dup2, 1) := by decide +kernel
theorem d_R_join_129 : decode b_R_join 129 = .ok (.iaload, 1) := by decide +kernel
theorem d_R_join_130 : decode b_R_join 130 = .ok (.iconst 1, 1) := by decide +kernel
theorem d_R_join_131 : decode b_R_join 131 = .ok (.iadd, 1) := by decide +kernel
theorem d_R_join_132 : decode b_R_join 132 = .ok (.iastore, 1) := by decide +kernel
theorem d_R_join_133 : decode b_R_join 133 = .ok (.iconst 1, 1) := by decide +kernel
theorem d_R_join_134 : decode b_R_join 134 = .ok (.istore 15, 2) := by decide +kernel
theorem d_R_join_136 : decode b_R_join 136 = .ok (.aload_n 0, 1) := by decide +kernel
theorem d_R_join_137 : decode b_R_join 137 = .ok (.getfield 22, 3) := by decide +kernel
theorem d_R_join_140 : decode b_R_join 140 = .ok (.iload 14, 2) := by decide +kernel
theorem d_R_join_142 : decode b_R_join 142 = .ok (.iaload, 1) := by decide +kernel
theorem d_R_join_143 : decode b_R_join 143 = .ok (.aload_n 0, 1) := by decide +kernel
theorem d_R_join_144 : decode b_R_join 144 = .ok (.getfield 19, 3) := by decide +kernel
theorem d_R_join_147 : decode b_R_join 147 = .ok (.iload 14, 2) := by decide +kernel
theorem d_R_join_149 : decode b_R_join 149 = .ok (.iaload, 1) := by decide +kernel
theorem d_R_join_150 : decode b_R_join 150 = .ok (.if_icmp .ne 22, 3) := by decide +kernel
theorem d_R_join_153 : decode b_R_join 153 = .ok (.aload_n 0, 1) := by decide +kernel
theorem d_R_join_154 : decode b_R_join 154 = .ok (.getfield 22, 3) := by decide +kernel
theorem d_R_join_157 : decode b_R_join 157 = .ok (.iload 14, 2) := by decide +kernel
theorem d_R_join_159 : decode b_R_join 159 = .ok (.iconst 0, 1) := by decide +kernel
theorem d_R_join_160 : decode b_R_join 160 = .ok (.iastore, 1) := by decide +kernel
theorem d_R_join_161 : decode b_R_join 161 = .ok (.iconst 1, 1) := by decide +kernel
theorem d_R_join_162 : decode b_R_join 162 = .ok (.aload_n 0, 1) := by decide +kernel
theorem d_R_join_163 : decode b_R_join 163 = .ok (.getfield 19, 3) := by decide +kernel
theorem d_R_join_166 : decode b_R_join 166 = .ok (.iload 14, 2) := by decide +kernel
theorem d_R_join_168 : decode b_R_join 168 = .ok (.iaload, 1) := by decide +kernel
theorem d_R_join_169 : decode b_R_join 169 = .ok (.isub, 1) := by decide +kernel
theorem d_R_join_170 : decode b_R_join 170 = .ok (.istore 15, 2) := by decide +kernel
theorem d_R_join_172 : decode b_R_join 172 = .ok (.iload 10, 2) := by decide +kernel
theorem d_R_join_174 : decode b_R_join 174 = .ok (.iload 15, 2) := by decide +kernel
theorem d_R_join_176 : decode b_R_join 176 = .ok (.aload_n 0, 1) := by decide +kernel
theorem d_R_join_177 : decode b_R_join 177 = .ok (.getfield 25, 3) := by decide +kernel
theorem d_R_join_180 : decode b_R_join 180 = .ok (.iload 14, 2) := by decide +kernel
theorem d_R_join_182 : decode b_R_join 182 = .ok (.iaload, 1) := by decide +kernel
theorem d_R_join_183 : decode b_R_join 183 = .ok (.imul, 1) := by decide +kernel
theorem d_R_join_184 : decode b_R_join 184 = .ok (.iadd, 1) := by decide +kernel
theorem d_R_join_185 : decode b_R_join 185 = .ok (.istore 10, 2) := by decide +kernel
theorem d_R_join_187 : decode b_R_join 187 = .ok (.iload 11, 2) := by decide +kernel
theorem d_R_join_189 : decode b_R_join 189 = .ok (.iload 15, 2) := by decide +kernel
theorem d_R_join_191 : decode b_R_join 191 = .ok (.aload_n 0, 1) := by decide +kernel
theorem d_R_join_192 : decode b_R_join 192 = .ok (.getfield 28, 3) := by decide +kernel
theorem d_R_join_195 : decode b_R_join 195 = .ok (.iload 14, 2) := by decide +kernel
theorem d_R_join_197 : decode b_R_join 197 = .ok (.iaload, 1) := by decide +kernel
theorem d_R_join_198 : decode b_R_join 198 = .ok (.imul, 1) := by decide +kernel
theorem d_R_join_199 : decode b_R_join 199 = .ok (.iadd, 1) := by decide +kernel
theorem d_R_join_200 : decode b_R_join 200 = .ok (.istore 11, 2) := by decide +kernel
theorem d_R_join_202 : decode b_R_join 202 = .ok (.iload 12, 2) := by decide +kernel
theorem d_R_join_204 : decode b_R_join 204 = .ok (.iload 15, 2) := by decide +kernel
theorem d_R_join_206 : decode b_R_join 206 = .ok (.aload_n 0, 1) := by decide +kernel
theorem d_R_join_207 : decode b_R_join 207 = .ok (.getfield 31, 3) := by decide +kernel
theorem d_R_join_210 : decode b_R_join 210 = .ok (.iload 14, 2) := by decide +kernel
theorem d_R_join_212 : decode b_R_join 212 = .ok (.iaload, 1) := by decide +kernel
theorem d_R_join_213 : decode b_R_join 213 = .ok (.imul, 1) := by decide +kernel
theorem d_R_join_214 : decode b_R_join 214 = .ok (.iadd, 1) := by decide +kernel
theorem d_R_join_215 : decode b_R_join 215 = .ok (.istore 12, 2) := by decide +kernel
theorem d_R_join_217 : decode b_R_join 217 = .ok (.iload 15, 2) := by decide +kernel
theorem d_R_join_219 : decode b_R_join 219 = .ok (.iconst 1, 1) := by decide +kernel
theorem d_R_join_220 : decode b_R_join 220 = .ok (.if_icmp .ne 6, 3) := by decide +kernel
theorem d_R_join_223 : decode b_R_join 223 = .ok (.goto 9, 3) := by decide +kernel
theorem d_R_join_226 : decode b_R_join 226 = .ok (.iinc 14 (-1), 3) := by decide +kernel
theorem d_R_join_229 : decode b_R_join 229 = .ok (.goto (-112), 3) := by decide +kernel
theorem d_R_join_232 : decode b_R_join 232 = .ok (.iinc 13 1, 3) := by decide +kernel
theorem d_R_join_235 : decode b_R_join 235 = .ok (.goto (-156), 3) := by decide +kernel
theorem d_R_join_238 : decode b_R_join 238 = .ok (.return_, 1) := by decide +kernel
theorem ct_ix_0 (sz : Nat → Nat) (P : Nat → Bool) (n : Nat) : ct_ix sz P n (fun _ => 0) = 0 := by
  induction n with
  | zero => rfl
  | succ n ih =>
    cases hp : P n with
    | true => rw [ct_ix_in hp, ih, Nat.zero_mul]
    | false => rw [ct_ix_out hp]; exact ih
set_option maxHeartbeats 4000000 in
set_option maxRecDepth 100000 in
theorem c_R_join (l : Launch) (dC : Nat → ClassId) (dI : Nat → Nat → Nat) (cI : ClassId) (z1 : Nat) (sz : Nat → Nat) (z0 r0 r1 r2 r3 r4 r5 r6 : Nat) (N : Nat) (f fe fi fa fb ft : Nat → Int32) (a0 L b0 R t0 T : Nat) (hL : L < 256) (hR : R < 256) (hT : T < 256) (hsz : ∀ k, k < 8 → 0 < sz k ∧ sz k < 4) (hN : N < 2 ^ 31) (hA0 : a0 + (ct_pr sz L.testBit 8) ≤ N) (hB0 : b0 + (ct_pr sz R.testBit 8) ≤ N) (hT0 : t0 + (ct_pr sz T.testBit 8) ≤ N) (hdA : a0 + (ct_pr sz L.testBit 8) ≤ t0 ∨ t0 + (ct_pr sz T.testBit 8) ≤ a0) (hdB : b0 + (ct_pr sz R.testBit 8) ≤ t0 ∨ t0 + (ct_pr sz T.testBit 8) ≤ b0) (sz0 : Nat) : Met l y_R_join w_R_join ({ frames := 3, cells := 0, slots := 0, locals := 72 }) (va_Pc [.ref r0, .int (nI a0), .int (nI L), .int (nI b0), .int (nI R), .int (nI t0), .int (nI T)] (ct_rw (dC, dI) ct_cl [(r0, .inr (3, [.ref z0, .ref r1, .ref r2, .ref r3, .ref r4, .ref r5, .ref r6])), (r1, .inl (cI, N, .inl f)), (r2, .inl (cI, 8, .inl fe)), (r3, .inl (cI, 8, .inl fi)), (r4, .inl (cI, 8, .inl fa)), (r5, .inl (cI, 8, .inl fb)), (r6, .inl (cI, 8, .inl ft)), (z0, .inr (1, [.ref z1])), (z1, .inl (cI, 8, .inl (fun j => nI (sz j))))] [(cI, .int)] sz0)) (va_Qv (fun (u : (Nat → Int32) × (Nat → Int32) × (Nat → Int32) × (Nat → Int32) × (Nat → Int32) × (Nat → Int32)) => ct_joined sz f a0 L b0 R t0 T u.1) (fun (u : (Nat → Int32) × (Nat → Int32) × (Nat → Int32) × (Nat → Int32) × (Nat → Int32) × (Nat → Int32)) t => ct_at (dC, dI) ct_cl [(cI, .int)] (va_A [(r0, .inr (3, [.ref z0, .ref r1, .ref r2, .ref r3, .ref r4, .ref r5, .ref r6])), (r1, .inl (cI, N, .inl f)), (r2, .inl (cI, 8, .inl fe)), (r3, .inl (cI, 8, .inl fi)), (r4, .inl (cI, 8, .inl fa)), (r5, .inl (cI, 8, .inl fb)), (r6, .inl (cI, 8, .inl ft)), (z0, .inr (1, [.ref z1])), (z1, .inl (cI, 8, .inl (fun j => nI (sz j))))] sz0) [(r0, .inr (3, [.ref z0, .ref r1, .ref r2, .ref r3, .ref r4, .ref r5, .ref r6])), (r1, .inl (cI, N, .inl (u.1))), (r2, .inl (cI, 8, .inl (u.2.1))), (r3, .inl (cI, 8, .inl (u.2.2.1))), (r4, .inl (cI, 8, .inl (u.2.2.2.1))), (r5, .inl (cI, 8, .inl (u.2.2.2.2.1))), (r6, .inl (cI, 8, .inl (u.2.2.2.2.2))), (z0, .inr (1, [.ref z1])), (z1, .inl (cI, 8, .inl (fun j => nI (sz j))))] t) (va_A [(r0, .inr (3, [.ref z0, .ref r1, .ref r2, .ref r3, .ref r4, .ref r5, .ref r6])), (r1, .inl (cI, N, .inl f)), (r2, .inl (cI, 8, .inl fe)), (r3, .inl (cI, 8, .inl fi)), (r4, .inl (cI, 8, .inl fa)), (r5, .inl (cI, 8, .inl fb)), (r6, .inl (cI, 8, .inl ft)), (z0, .inr (1, [.ref z1])), (z1, .inl (cI, 8, .inl (fun j => nI (sz j))))] sz0)) 0 0 (va_A [(r0, .inr (3, [.ref z0, .ref r1, .ref r2, .ref r3, .ref r4, .ref r5, .ref r6])), (r1, .inl (cI, N, .inl f)), (r2, .inl (cI, 8, .inl fe)), (r3, .inl (cI, 8, .inl fi)), (r4, .inl (cI, 8, .inl fa)), (r5, .inl (cI, 8, .inl fb)), (r6, .inl (cI, 8, .inl ft)), (z0, .inr (1, [.ref z1])), (z1, .inl (cI, 8, .inl (fun j => nI (sz j))))] sz0) := by
  refine Met.ofW (cc := b_R_join) (maxL := 16) (ret := none) (by decide) rfl ?_
  intro p e s m args below meth c s₁ Bd hml hv
  obtain ⟨hargs, hsz, hP, hK, hD0⟩ := hv
  have hx := Bd.exec
  have hb := Bd.bytes
  have hr := Bd.returns
  have hts : ∀ w ∈ k_R_join :: ct_tb, w.before args s = true := atoms_spec (ws := w_R_join) Bd.pre
  have hown : s.vm.findClass R_R = some m.cls := findClass_of_methodNamed Bd.named
  have hlocks := Bd.notSynchronized
  subst hsz
  have hD := hD0.self (sz := s.heap.size)
  generalize hAe : va_A [(r0, .inr (3, [.ref z0, .ref r1, .ref r2, .ref r3, .ref r4, .ref r5, .ref r6])), (r1, .inl (cI, N, .inl f)), (r2, .inl (cI, 8, .inl fe)), (r3, .inl (cI, 8, .inl fi)), (r4, .inl (cI, 8, .inl fa)), (r5, .inl (cI, 8, .inl fb)), (r6, .inl (cI, 8, .inl ft)), (z0, .inr (1, [.ref z1])), (z1, .inl (cI, 8, .inl (fun j => nI (sz j))))] s.heap.size = A at hD ⊢
  have hA : ∀ q : Nat, s.heap.size ≤ q → A q := fun q h => by rw [← hAe]; exact Or.inr h
  have hS : va_S A s.heap s.heap [] := va_S.rf
  have hl := lv_entry ([.ref r0, .int (nI a0), .int (nI L), .int (nI b0), .int (nI R), .int (nI t0), .int (nI T)]) (n := 16) (Nat.le_of_ble_eq_true rfl)
  rw [show entryFrame m args 16 = entryFrame m (([.ref r0, .int (nI a0), .int (nI L), .int (nI b0), .int (nI R), .int (nI t0), .int (nI T)] : List Value)).toArray 16 by rw [hargs], lg_entry_eq]
  generalize (lg_sl ([.ref r0, .int (nI a0), .int (nI L), .int (nI b0), .int (nI R), .int (nI t0), .int (nI T)]) ++ List.replicate (16 - (lg_sl ([.ref r0, .int (nI a0), .int (nI L), .int (nI b0), .int (nI R), .int (nI t0), .int (nI T)])).length) Slot.unset).toArray = ls at hl ⊢
  have hl : lv_has ls 16 [(0, .ref r0), (1, .int (nI a0)), (2, .int (nI L)), (3, .int (nI b0)), (4, .int (nI R)), (5, .int (nI t0)), (6, .int (nI T))] := hl
  have hs0 : ∀ k, k < 8 → 0 < sz k := fun k hk => (hsz k hk).1
  have hU : (L ||| R ||| T) < 256 := Nat.or_lt_two_pow (n := 8) (Nat.or_lt_two_pow (n := 8) hL hR) hT
  have hok := ct_us_ok (sz := sz) (U := (L ||| R ||| T)) 8 hs0
  have hlen := ct_us_len (sz := sz) (U := (L ||| R ||| T)) 8
  have h38 : (ct_pr sz (L ||| R ||| T).testBit 8) ≤ 3 ^ 8 := ct_pr_le 8 (fun k hk => by have := (hsz k hk).2; omega)
  have h38v : (3 : Nat) ^ 8 = 6561 := rfl
  have outer : ∀ (ge ga gb gt gi0 : Nat → Int32), ct_lay sz (ct_us sz (L ||| R ||| T) 8) L R T ge gi0 ga gb gt → ∀ (fu n : Nat), n + fu = (ct_pr sz (L ||| R ||| T).testBit 8) → ∀ (g gi : Nat → Int32) (x10 x11 x12 : Int32), (∀ i, (i < t0 ∨ t0 + (ct_pr sz T.testBit 8) ≤ i) → g i = f i) → (∀ j, j < (ct_pr sz T.testBit 8) → g (t0 + j) = ct_acc sz f a0 L b0 R T n j) → (n < (ct_pr sz (L ||| R ||| T).testBit 8) → x10 = nI (a0 + (ct_ix sz L.testBit 8 (ct_de sz (L ||| R ||| T).testBit 8 n))) ∧ x11 = nI (b0 + (ct_ix sz R.testBit 8 (ct_de sz (L ||| R ||| T).testBit 8 n))) ∧ x12 = nI (t0 + (ct_ix sz T.testBit 8 (ct_de sz (L ||| R ||| T).testBit 8 n))) ∧ ∀ d, d < (ct_us sz (L ||| R ||| T) 8).length → gi d = nI ((ct_de sz (L ||| R ||| T).testBit 8 n) ((ct_us sz (L ||| R ||| T) 8).getD d 0))) → ∀ (H : Heap) (locs : List Loc), va_P (dC, dI) ct_cl [(r0, .inr (3, [.ref z0, .ref r1, .ref r2, .ref r3, .ref r4, .ref r5, .ref r6])), (r1, .inl (cI, N, .inl g)), (r2, .inl (cI, 8, .inl ge)), (r3, .inl (cI, 8, .inl gi)), (r4, .inl (cI, 8, .inl ga)), (r5, .inl (cI, 8, .inl gb)), (r6, .inl (cI, 8, .inl gt)), (z0, .inr (1, [.ref z1])), (z1, .inl (cI, 8, .inl (fun j => nI (sz j))))] H → va_D A [(r0, .inr (3, [.ref z0, .ref r1, .ref r2, .ref r3, .ref r4, .ref r5, .ref r6])), (r1, .inl (cI, N, .inl g)), (r2, .inl (cI, 8, .inl ge)), (r3, .inl (cI, 8, .inl gi)), (r4, .inl (cI, 8, .inl ga)), (r5, .inl (cI, 8, .inl gb)), (r6, .inl (cI, 8, .inl gt)), (z0, .inr (1, [.ref z1])), (z1, .inl (cI, 8, .inl (fun j => nI (sz j))))] → va_S A s.heap H locs → ∀ (ls : Array Slot), lv_has ls 16 [(0, .ref r0), (1, .int (nI a0)), (2, .int (nI L)), (3, .int (nI b0)), (4, .int (nI R)), (5, .int (nI t0)), (6, .int (nI T)), (8, .int (nI (ct_us sz (L ||| R ||| T) 8).length)), (9, .int (nI (ct_pr sz (L ||| R ||| T).testBit 8))), (10, .int x10), (11, .int x11), (12, .int x12), (13, .int (nI n))] → W p l e (headSpec w_R_join ({ frames := 3, cells := 0, slots := 0, locals := 72 } : Room)).room s m args below meth c H locs 0 0 (MQ below (va_Qv (fun (u : (Nat → Int32) × (Nat → Int32) × (Nat → Int32) × (Nat → Int32) × (Nat → Int32) × (Nat → Int32)) => ct_joined sz f a0 L b0 R t0 T u.1) (fun (u : (Nat → Int32) × (Nat → Int32) × (Nat → Int32) × (Nat → Int32) × (Nat → Int32) × (Nat → Int32)) t => ct_at (dC, dI) ct_cl [(cI, .int)] (A) [(r0, .inr (3, [.ref z0, .ref r1, .ref r2, .ref r3, .ref r4, .ref r5, .ref r6])), (r1, .inl (cI, N, .inl (u.1))), (r2, .inl (cI, 8, .inl (u.2.1))), (r3, .inl (cI, 8, .inl (u.2.2.1))), (r4, .inl (cI, 8, .inl (u.2.2.2.1))), (r5, .inl (cI, 8, .inl (u.2.2.2.2.1))), (r6, .inl (cI, 8, .inl (u.2.2.2.2.2))), (z0, .inr (1, [.ref z1])), (z1, .inl (cI, 8, .inl (fun j => nI (sz j))))] t) (A)) args s 0 0 A) (F0 m 79 ls []) := by
    intro ge ga gb gt gi0 hlay
    intro fu
    induction fu with
    | zero =>
      intro n hn g gi x10 x11 x12 hg1 hg2 hpos H locs hP hD hS ls hl
      refine lv_iload hx hb d_R_join_79 (lv_at hl 12 rfl) ?_
      refine lv_iload hx hb d_R_join_81 (lv_at hl 8 rfl) ?_
      refine lv_icmp_ge (tgt := 238) hx hb d_R_join_83 (by decide) (fun _ => ?_) (fun hc9 => absurd (nI_le (by omega) (by omega)) hc9)
      have hP9 := hP.sub [0, 1, 2, 3, 4, 5, 6, 7, 8] rfl
      exact W.vret hx hb hr (fun tS ht hW => ⟨⟨(g, ge, gi, ga, gb, gt), rfl, ct_acc_end hs0 hg1 (fun j h9 => by rw [← show n = (ct_pr sz (L ||| R ||| T).testBit 8) by omega]; exact hg2 j h9), by rw [ht]; exact hP9, va_K.moved hW.alike hK, hD.sub [0, 1, 2, 3, 4, 5, 6, 7, 8] (by decide) rfl⟩, hS.F ht⟩) hS.2.2 d_R_join_238
    | succ fu ih =>
      intro n hn g gi x10 x11 x12 hg1 hg2 hpos H locs hP hD hS ls hl
      refine lv_iload hx hb d_R_join_79 (lv_at hl 12 rfl) ?_
      refine lv_iload hx hb d_R_join_81 (lv_at hl 8 rfl) ?_
      refine lv_icmp_ge (tgt := 238) hx hb d_R_join_83 (by decide) (fun hc9 => absurd hc9 (nI_ge (by omega) (by omega))) (fun _ => ?_)
      obtain ⟨e10, e11, e12, hgi⟩ := hpos (by omega)
      subst e10
      subst e11
      subst e12
      generalize hde : (ct_de sz (L ||| R ||| T).testBit 8 n) = t at hgi hl
      have htl : ∀ k, k < 8 → t k < sz k := fun k hk => by rw [← hde]; exact ct_de_lt 8 n k hs0 hk
      have hiL := ct_ix_lt (sz := sz) (P := L.testBit) (t := t) 8 (fun k hk _ => htl k hk)
      have hiR := ct_ix_lt (sz := sz) (P := R.testBit) (t := t) 8 (fun k hk _ => htl k hk)
      have hiT := ct_ix_lt (sz := sz) (P := T.testBit) (t := t) 8 (fun k hk _ => htl k hk)
      have hg1b : ∀ i, (i < t0 ∨ t0 + (ct_pr sz T.testBit 8) ≤ i) → (upd g (t0 + (ct_ix sz T.testBit 8 t)) (g (t0 + (ct_ix sz T.testBit 8 t)) + f (a0 + (ct_ix sz L.testBit 8 t)) * f (b0 + (ct_ix sz R.testBit 8 t)))) i = f i := fun i h9 => by
          rw [pk_un (by omega)]; exact hg1 i h9
      have hg2b : ∀ j, j < (ct_pr sz T.testBit 8) → (upd g (t0 + (ct_ix sz T.testBit 8 t)) (g (t0 + (ct_ix sz T.testBit 8 t)) + f (a0 + (ct_ix sz L.testBit 8 t)) * f (b0 + (ct_ix sz R.testBit 8 t)))) (t0 + j) = ct_acc sz f a0 L b0 R T (n + 1) j := fun j h9 => by
          by_cases h8 : (ct_ix sz T.testBit 8 t) = j
          · rw [ct_acc_at (by rw [hde]; exact h8), hde, ← h8, pk_us, hg2 _ hiT]
          · rw [ct_acc_no (by rw [hde]; exact h8), pk_un (by omega)]; exact hg2 j h9
      have inner : ∀ (g2 : Nat → Int32), (∀ i, (i < t0 ∨ t0 + (ct_pr sz T.testBit 8) ≤ i) → g2 i = f i) → (∀ j, j < (ct_pr sz T.testBit 8) → g2 (t0 + j) = ct_acc sz f a0 L b0 R T (n + 1) j) → ∀ (dd : Nat), dd ≤ (ct_us sz (L ||| R ||| T) 8).length → ∀ (tt : Nat → Nat) (gi : Nat → Int32), ct_car sz (L ||| R ||| T).testBit n (ct_kk (ct_us sz (L ||| R ||| T) 8) 8 dd) tt → (∀ d, d < (ct_us sz (L ||| R ||| T) 8).length → gi d = nI (tt ((ct_us sz (L ||| R ||| T) 8).getD d 0))) → ∀ (H : Heap) (locs : List Loc), va_P (dC, dI) ct_cl [(r0, .inr (3, [.ref z0, .ref r1, .ref r2, .ref r3, .ref r4, .ref r5, .ref r6])), (r1, .inl (cI, N, .inl g2)), (r2, .inl (cI, 8, .inl ge)), (r3, .inl (cI, 8, .inl gi)), (r4, .inl (cI, 8, .inl ga)), (r5, .inl (cI, 8, .inl gb)), (r6, .inl (cI, 8, .inl gt)), (z0, .inr (1, [.ref z1])), (z1, .inl (cI, 8, .inl (fun j => nI (sz j))))] H → va_D A [(r0, .inr (3, [.ref z0, .ref r1, .ref r2, .ref r3, .ref r4, .ref r5, .ref r6])), (r1, .inl (cI, N, .inl g2)), (r2, .inl (cI, 8, .inl ge)), (r3, .inl (cI, 8, .inl gi)), (r4, .inl (cI, 8, .inl ga)), (r5, .inl (cI, 8, .inl gb)), (r6, .inl (cI, 8, .inl gt)), (z0, .inr (1, [.ref z1])), (z1, .inl (cI, 8, .inl (fun j => nI (sz j))))] → va_S A s.heap H locs → ∀ (ls : Array Slot), lv_has ls 16 [(0, .ref r0), (1, .int (nI a0)), (2, .int (nI L)), (3, .int (nI b0)), (4, .int (nI R)), (5, .int (nI t0)), (6, .int (nI T)), (8, .int (nI (ct_us sz (L ||| R ||| T) 8).length)), (9, .int (nI (ct_pr sz (L ||| R ||| T).testBit 8))), (10, .int (nI (a0 + (ct_ix sz L.testBit 8 tt)))), (11, .int (nI (b0 + (ct_ix sz R.testBit 8 tt)))), (12, .int (nI (t0 + (ct_ix sz T.testBit 8 tt)))), (13, .int (nI n)), (14, .int (nI dd - 1))] → W p l e (headSpec w_R_join ({ frames := 3, cells := 0, slots := 0, locals := 72 } : Room)).room s m args below meth c H locs 0 0 (MQ below (va_Qv (fun (u : (Nat → Int32) × (Nat → Int32) × (Nat → Int32) × (Nat → Int32) × (Nat → Int32) × (Nat → Int32)) => ct_joined sz f a0 L b0 R t0 T u.1) (fun (u : (Nat → Int32) × (Nat → Int32) × (Nat → Int32) × (Nat → Int32) × (Nat → Int32) × (Nat → Int32)) t => ct_at (dC, dI) ct_cl [(cI, .int)] (A) [(r0, .inr (3, [.ref z0, .ref r1, .ref r2, .ref r3, .ref r4, .ref r5, .ref r6])), (r1, .inl (cI, N, .inl (u.1))), (r2, .inl (cI, 8, .inl (u.2.1))), (r3, .inl (cI, 8, .inl (u.2.2.1))), (r4, .inl (cI, 8, .inl (u.2.2.2.1))), (r5, .inl (cI, 8, .inl (u.2.2.2.2.1))), (r6, .inl (cI, 8, .inl (u.2.2.2.2.2))), (z0, .inr (1, [.ref z1])), (z1, .inl (cI, 8, .inl (fun j => nI (sz j))))] t) (A)) args s 0 0 A) (F0 m 117 ls []) := by
        intro g2 hg1c hg2c
        intro dd
        induction dd with
        | zero =>
          intro hdd tt gi hcar hgi2 H locs hP hD hS ls hl
          refine lv_iload hx hb d_R_join_117 (lv_at hl 13 rfl) ?_
          refine lv_if_lt (tgt := 232) hx hb d_R_join_119 (by decide) (fun _ => ?_) (fun hc9 => absurd (by decide) hc9)
          refine lv_iinc (v := (nI (n + 1))) (lv' := [(13, .int (nI (n + 1))), (0, .ref r0), (1, .int (nI a0)), (2, .int (nI L)), (3, .int (nI b0)), (4, .int (nI R)), (5, .int (nI t0)), (6, .int (nI T)), (8, .int (nI (ct_us sz (L ||| R ||| T) 8).length)), (9, .int (nI (ct_pr sz (L ||| R ||| T).testBit 8))), (10, .int (nI (a0 + (ct_ix sz L.testBit 8 tt)))), (11, .int (nI (b0 + (ct_ix sz R.testBit 8 tt)))), (12, .int (nI (t0 + (ct_ix sz T.testBit 8 tt)))), (14, .int (nI 0 - 1))]) hx hb d_R_join_232 hl (k := 12) rfl (nI_1 _) (by decide) rfl (fun ls hl => ?_)
          refine lv_goto (tgt := 79) hx hb d_R_join_235 (by decide) ?_
          exact ih (n + 1) (by omega) g2 gi _ _ _ hg1c hg2c (fun z9 => absurd (ct_car_end hcar (hok.2.2.1 0) (fun i h9 => hok.2.1 i h9)) (by omega)) H locs hP hD hS ls (lv_sub hl [1, 2, 3, 4, 5, 6, 7, 8, 9, 10, 11, 12, 0] rfl)
        | succ dd ih2 =>
          intro hdd tt gi hcar hgi2 H locs hP hD hS ls hl
          rw [show nI (dd + 1) - 1 = nI dd from nI_pred dd] at hl
          have hd := hok.1 dd (by omega)
          have hld := hlay dd (by omega)
          generalize hlb : (ct_us sz (L ||| R ||| T) 8).getD dd 0 = lb at hd hld
          have hzb := hsz lb hd.2.1
          have hcar2 : ct_car sz (L ||| R ||| T).testBit n (lb + 1) tt := ct_car_down hcar (lb + 1) (by omega) (hok.2.2.1 _) (fun i h8 h9 => hd.2.2.2.2 i (by omega) h9)
          have htb := ct_car_lt hcar2 hd.2.2.1 hzb.1
          have hgd : gi dd = nI (tt lb) := by rw [hgi2 dd (by omega), hlb]
          refine lv_iload hx hb d_R_join_117 (lv_at hl 13 rfl) ?_
          refine lv_if_lt (tgt := 232) hx hb d_R_join_119 (by decide) (fun hc9 => absurd hc9 (nI_pos (by omega))) (fun _ => ?_)
          refine lv_aload_n hx hb d_R_join_122 rfl (lv_at hl 0 rfl) ?_
          refine va_get (D := (dC, dI)) (ci := 3) (v := .ref r3) (C := R_R) (T := T_R) (N := 7) hx hb hts (fun w h9 => ct_tl (ki_R w h9)) hown hK hP 0 rfl rfl 3 (by decide) (hts _ (ct_tl kw_95)) (fun _ h9 => h9) rfl d_R_join_123 ?_
          refine lv_iload hx hb d_R_join_126 (lv_at hl 13 rfl) ?_
          refine lv_dup2_11 hx hb d_R_join_128 rfl rfl ?_
          refine ct_iald hx hb hK hP 3 0 rfl rfl (j := dd) (by omega) (by omega) d_R_join_129 ?_
          refine ct_val (y := nI (tt lb)) (hgd) ?_
          refine lv_iconst (v := (nI 1)) hx hb d_R_join_130 (by decide) ?_
          refine lv_iadd hx hb d_R_join_131 ?_
          refine ct_val (y := nI (tt lb + 1)) (nI_1 _) ?_
          refine ct_iast hx hb hK hP hD hS 3 0 rfl rfl (j := dd) (by omega) (by omega) d_R_join_132 (fun H locs hP hD hS => ?_)
          have hP : va_P (dC, dI) ct_cl [(r0, .inr (3, [.ref z0, .ref r1, .ref r2, .ref r3, .ref r4, .ref r5, .ref r6])), (r1, .inl (cI, N, .inl g2)), (r2, .inl (cI, 8, .inl ge)), (r3, .inl (cI, 8, .inl (upd gi dd (nI (tt lb + 1))))), (r4, .inl (cI, 8, .inl ga)), (r5, .inl (cI, 8, .inl gb)), (r6, .inl (cI, 8, .inl gt)), (z0, .inr (1, [.ref z1])), (z1, .inl (cI, 8, .inl (fun j => nI (sz j))))] H := hP
          have hD : va_D A [(r0, .inr (3, [.ref z0, .ref r1, .ref r2, .ref r3, .ref r4, .ref r5, .ref r6])), (r1, .inl (cI, N, .inl g2)), (r2, .inl (cI, 8, .inl ge)), (r3, .inl (cI, 8, .inl (upd gi dd (nI (tt lb + 1))))), (r4, .inl (cI, 8, .inl ga)), (r5, .inl (cI, 8, .inl gb)), (r6, .inl (cI, 8, .inl gt)), (z0, .inr (1, [.ref z1])), (z1, .inl (cI, 8, .inl (fun j => nI (sz j))))] := hD
          refine lv_iconst (v := (nI 1)) hx hb d_R_join_133 (by decide) ?_
          refine lv_istore (lv' := [(15, .int (nI 1)), (0, .ref r0), (1, .int (nI a0)), (2, .int (nI L)), (3, .int (nI b0)), (4, .int (nI R)), (5, .int (nI t0)), (6, .int (nI T)), (8, .int (nI (ct_us sz (L ||| R ||| T) 8).length)), (9, .int (nI (ct_pr sz (L ||| R ||| T).testBit 8))), (10, .int (nI (a0 + (ct_ix sz L.testBit 8 tt)))), (11, .int (nI (b0 + (ct_ix sz R.testBit 8 tt)))), (12, .int (nI (t0 + (ct_ix sz T.testBit 8 tt)))), (13, .int (nI n)), (14, .int (nI dd))]) hx hb d_R_join_134 hl (by decide) rfl (fun ls hl => ?_)
          refine lv_aload_n hx hb d_R_join_136 rfl (lv_at hl 1 rfl) ?_
          refine va_get (D := (dC, dI)) (ci := 3) (v := .ref r3) (C := R_R) (T := T_R) (N := 7) hx hb hts (fun w h9 => ct_tl (ki_R w h9)) hown hK hP 0 rfl rfl 3 (by decide) (hts _ (ct_tl kw_95)) (fun _ h9 => h9) rfl d_R_join_137 ?_
          refine lv_iload hx hb d_R_join_140 (lv_at hl 14 rfl) ?_
          refine ct_iald hx hb hK hP 3 0 rfl rfl (j := dd) (by omega) (by omega) d_R_join_142 ?_
          refine ct_val (y := nI (tt lb + 1)) (pk_us) ?_
          refine lv_aload_n hx hb d_R_join_143 rfl (lv_at hl 1 rfl) ?_
          refine va_get (D := (dC, dI)) (ci := 3) (v := .ref r2) (C := R_R) (T := T_R) (N := 7) hx hb hts (fun w h9 => ct_tl (ki_R w h9)) hown hK hP 0 rfl rfl 2 (by decide) (hts _ (ct_tl kw_94)) (fun _ h9 => h9) rfl d_R_join_144 ?_
          refine lv_iload hx hb d_R_join_147 (lv_at hl 14 rfl) ?_
          refine ct_iald hx hb hK hP 2 0 rfl rfl (j := dd) (by omega) (by omega) d_R_join_149 ?_
          refine ct_val (y := nI (sz lb)) (hld.1) ?_
          by_cases hw9 : tt lb + 1 = sz lb
          · refine lv_icmp_ne (tgt := 172) hx hb d_R_join_150 (by decide) (fun hc9 => absurd (by rw [hw9]) hc9) (fun _ => ?_)
            refine lv_aload_n hx hb d_R_join_153 rfl (lv_at hl 1 rfl) ?_
            refine va_get (D := (dC, dI)) (ci := 3) (v := .ref r3) (C := R_R) (T := T_R) (N := 7) hx hb hts (fun w h9 => ct_tl (ki_R w h9)) hown hK hP 0 rfl rfl 3 (by decide) (hts _ (ct_tl kw_95)) (fun _ h9 => h9) rfl d_R_join_154 ?_
            refine lv_iload hx hb d_R_join_157 (lv_at hl 14 rfl) ?_
            refine lv_iconst (v := (nI 0)) hx hb d_R_join_159 (by decide) ?_
            refine ct_iast hx hb hK hP hD hS 3 0 rfl rfl (j := dd) (by omega) (by omega) d_R_join_160 (fun H locs hP hD hS => ?_)
            have hP : va_P (dC, dI) ct_cl [(r0, .inr (3, [.ref z0, .ref r1, .ref r2, .ref r3, .ref r4, .ref r5, .ref r6])), (r1, .inl (cI, N, .inl g2)), (r2, .inl (cI, 8, .inl ge)), (r3, .inl (cI, 8, .inl (upd (upd gi dd (nI (tt lb + 1))) dd (nI 0)))), (r4, .inl (cI, 8, .inl ga)), (r5, .inl (cI, 8, .inl gb)), (r6, .inl (cI, 8, .inl gt)), (z0, .inr (1, [.ref z1])), (z1, .inl (cI, 8, .inl (fun j => nI (sz j))))] H := hP
            have hD : va_D A [(r0, .inr (3, [.ref z0, .ref r1, .ref r2, .ref r3, .ref r4, .ref r5, .ref r6])), (r1, .inl (cI, N, .inl g2)), (r2, .inl (cI, 8, .inl ge)), (r3, .inl (cI, 8, .inl (upd (upd gi dd (nI (tt lb + 1))) dd (nI 0)))), (r4, .inl (cI, 8, .inl ga)), (r5, .inl (cI, 8, .inl gb)), (r6, .inl (cI, 8, .inl gt)), (z0, .inr (1, [.ref z1])), (z1, .inl (cI, 8, .inl (fun j => nI (sz j))))] := hD
            refine lv_iconst (v := (nI 1)) hx hb d_R_join_161 (by decide) ?_
            refine lv_aload_n hx hb d_R_join_162 rfl (lv_at hl 1 rfl) ?_
            refine va_get (D := (dC, dI)) (ci := 3) (v := .ref r2) (C := R_R) (T := T_R) (N := 7) hx hb hts (fun w h9 => ct_tl (ki_R w h9)) hown hK hP 0 rfl rfl 2 (by decide) (hts _ (ct_tl kw_94)) (fun _ h9 => h9) rfl d_R_join_163 ?_
            refine lv_iload hx hb d_R_join_166 (lv_at hl 14 rfl) ?_
            refine ct_iald hx hb hK hP 2 0 rfl rfl (j := dd) (by omega) (by omega) d_R_join_168 ?_
            refine ct_val (y := nI (sz lb)) (hld.1) ?_
            refine lv_isub hx hb d_R_join_169 ?_
            refine lv_istore (lv' := [(15, .int ((nI 1) - (nI (sz lb)))), (0, .ref r0), (1, .int (nI a0)), (2, .int (nI L)), (3, .int (nI b0)), (4, .int (nI R)), (5, .int (nI t0)), (6, .int (nI T)), (8, .int (nI (ct_us sz (L ||| R ||| T) 8).length)), (9, .int (nI (ct_pr sz (L ||| R ||| T).testBit 8))), (10, .int (nI (a0 + (ct_ix sz L.testBit 8 tt)))), (11, .int (nI (b0 + (ct_ix sz R.testBit 8 tt)))), (12, .int (nI (t0 + (ct_ix sz T.testBit 8 tt)))), (13, .int (nI n)), (14, .int (nI dd))]) hx hb d_R_join_170 hl (by decide) rfl (fun ls hl => ?_)
            refine lv_iload hx hb d_R_join_172 (lv_at hl 10 rfl) ?_
            refine lv_iload hx hb d_R_join_174 (lv_at hl 0 rfl) ?_
            refine lv_aload_n hx hb d_R_join_176 rfl (lv_at hl 1 rfl) ?_
            refine va_get (D := (dC, dI)) (ci := 3) (v := .ref r4) (C := R_R) (T := T_R) (N := 7) hx hb hts (fun w h9 => ct_tl (ki_R w h9)) hown hK hP 0 rfl rfl 4 (by decide) (hts _ (ct_tl kw_96)) (fun _ h9 => h9) rfl d_R_join_177 ?_
            refine lv_iload hx hb d_R_join_180 (lv_at hl 14 rfl) ?_
            refine ct_iald hx hb hK hP 4 0 rfl rfl (j := dd) (by omega) (by omega) d_R_join_182 ?_
            refine ct_val (y := nI (ct_sr sz L lb)) (hld.2.2.1) ?_
            refine lv_imul hx hb d_R_join_183 ?_
            refine lv_iadd hx hb d_R_join_184 ?_
            refine ct_val (y := nI (a0 + (ct_ix sz L.testBit 8 (ct_st tt lb 0)))) (ct_pos_wrap hzb.1 (ct_ix_zero hd.2.1 hw9)) ?_
            refine lv_istore (lv' := [(10, .int (nI (a0 + (ct_ix sz L.testBit 8 (ct_st tt lb 0))))), (15, .int ((nI 1) - (nI (sz lb)))), (0, .ref r0), (1, .int (nI a0)), (2, .int (nI L)), (3, .int (nI b0)), (4, .int (nI R)), (5, .int (nI t0)), (6, .int (nI T)), (8, .int (nI (ct_us sz (L ||| R ||| T) 8).length)), (9, .int (nI (ct_pr sz (L ||| R ||| T).testBit 8))), (11, .int (nI (b0 + (ct_ix sz R.testBit 8 tt)))), (12, .int (nI (t0 + (ct_ix sz T.testBit 8 tt)))), (13, .int (nI n)), (14, .int (nI dd))]) hx hb d_R_join_185 hl (by decide) rfl (fun ls hl => ?_)
            refine lv_iload hx hb d_R_join_187 (lv_at hl 11 rfl) ?_
            refine lv_iload hx hb d_R_join_189 (lv_at hl 1 rfl) ?_
            refine lv_aload_n hx hb d_R_join_191 rfl (lv_at hl 2 rfl) ?_
            refine va_get (D := (dC, dI)) (ci := 3) (v := .ref r5) (C := R_R) (T := T_R) (N := 7) hx hb hts (fun w h9 => ct_tl (ki_R w h9)) hown hK hP 0 rfl rfl 5 (by decide) (hts _ (ct_tl kw_97)) (fun _ h9 => h9) rfl d_R_join_192 ?_
            refine lv_iload hx hb d_R_join_195 (lv_at hl 14 rfl) ?_
            refine ct_iald hx hb hK hP 5 0 rfl rfl (j := dd) (by omega) (by omega) d_R_join_197 ?_
            refine ct_val (y := nI (ct_sr sz R lb)) (hld.2.2.2.1) ?_
            refine lv_imul hx hb d_R_join_198 ?_
            refine lv_iadd hx hb d_R_join_199 ?_
            refine ct_val (y := nI (b0 + (ct_ix sz R.testBit 8 (ct_st tt lb 0)))) (ct_pos_wrap hzb.1 (ct_ix_zero hd.2.1 hw9)) ?_
            refine lv_istore (lv' := [(11, .int (nI (b0 + (ct_ix sz R.testBit 8 (ct_st tt lb 0))))), (10, .int (nI (a0 + (ct_ix sz L.testBit 8 (ct_st tt lb 0))))), (15, .int ((nI 1) - (nI (sz lb)))), (0, .ref r0), (1, .int (nI a0)), (2, .int (nI L)), (3, .int (nI b0)), (4, .int (nI R)), (5, .int (nI t0)), (6, .int (nI T)), (8, .int (nI (ct_us sz (L ||| R ||| T) 8).length)), (9, .int (nI (ct_pr sz (L ||| R ||| T).testBit 8))), (12, .int (nI (t0 + (ct_ix sz T.testBit 8 tt)))), (13, .int (nI n)), (14, .int (nI dd))]) hx hb d_R_join_200 hl (by decide) rfl (fun ls hl => ?_)
            refine lv_iload hx hb d_R_join_202 (lv_at hl 12 rfl) ?_
            refine lv_iload hx hb d_R_join_204 (lv_at hl 2 rfl) ?_
            refine lv_aload_n hx hb d_R_join_206 rfl (lv_at hl 3 rfl) ?_
            refine va_get (D := (dC, dI)) (ci := 3) (v := .ref r6) (C := R_R) (T := T_R) (N := 7) hx hb hts (fun w h9 => ct_tl (ki_R w h9)) hown hK hP 0 rfl rfl 6 (by decide) (hts _ (ct_tl kw_98)) (fun _ h9 => h9) rfl d_R_join_207 ?_
            refine lv_iload hx hb d_R_join_210 (lv_at hl 14 rfl) ?_
            refine ct_iald hx hb hK hP 6 0 rfl rfl (j := dd) (by omega) (by omega) d_R_join_212 ?_
            refine ct_val (y := nI (ct_sr sz T lb)) (hld.2.2.2.2) ?_
            refine lv_imul hx hb d_R_join_213 ?_
            refine lv_iadd hx hb d_R_join_214 ?_
            refine ct_val (y := nI (t0 + (ct_ix sz T.testBit 8 (ct_st tt lb 0)))) (ct_pos_wrap hzb.1 (ct_ix_zero hd.2.1 hw9)) ?_
            refine lv_istore (lv' := [(12, .int (nI (t0 + (ct_ix sz T.testBit 8 (ct_st tt lb 0))))), (11, .int (nI (b0 + (ct_ix sz R.testBit 8 (ct_st tt lb 0))))), (10, .int (nI (a0 + (ct_ix sz L.testBit 8 (ct_st tt lb 0))))), (15, .int ((nI 1) - (nI (sz lb)))), (0, .ref r0), (1, .int (nI a0)), (2, .int (nI L)), (3, .int (nI b0)), (4, .int (nI R)), (5, .int (nI t0)), (6, .int (nI T)), (8, .int (nI (ct_us sz (L ||| R ||| T) 8).length)), (9, .int (nI (ct_pr sz (L ||| R ||| T).testBit 8))), (13, .int (nI n)), (14, .int (nI dd))]) hx hb d_R_join_215 hl (by decide) rfl (fun ls hl => ?_)
            refine lv_iload hx hb d_R_join_217 (lv_at hl 3 rfl) ?_
            refine lv_iconst (v := (nI 1)) hx hb d_R_join_219 (by decide) ?_
            refine lv_icmp_ne (tgt := 226) hx hb d_R_join_220 (by decide) (fun _ => ?_) (fun hc9 => absurd hc9 (ct_by_ne hd.2.2.2.1 hzb.2))
            refine lv_iinc (v := (nI dd - 1)) (lv' := [(14, .int (nI dd - 1)), (12, .int (nI (t0 + (ct_ix sz T.testBit 8 (ct_st tt lb 0))))), (11, .int (nI (b0 + (ct_ix sz R.testBit 8 (ct_st tt lb 0))))), (10, .int (nI (a0 + (ct_ix sz L.testBit 8 (ct_st tt lb 0))))), (15, .int ((nI 1) - (nI (sz lb)))), (0, .ref r0), (1, .int (nI a0)), (2, .int (nI L)), (3, .int (nI b0)), (4, .int (nI R)), (5, .int (nI t0)), (6, .int (nI T)), (8, .int (nI (ct_us sz (L ||| R ||| T) 8).length)), (9, .int (nI (ct_pr sz (L ||| R ||| T).testBit 8))), (13, .int (nI n))]) hx hb d_R_join_226 hl (k := 14) rfl (by rw [Int32.sub_eq_add_neg]; rfl) (by decide) rfl (fun ls hl => ?_)
            refine lv_goto (tgt := 117) hx hb d_R_join_229 (by decide) ?_
            have hcar3 := ct_car_wrap hcar2 hd.2.1 hd.2.2.1 hzb.1 hw9
            refine ih2 (by omega) (ct_st tt lb 0) _ (by rw [ct_kk_in (by omega), hlb]; exact hcar3) (fun d h9 => ?_) H locs hP hD hS ls (lv_sub hl [5, 6, 7, 8, 9, 10, 11, 12, 13, 3, 2, 1, 14, 0] rfl)
            by_cases h8 : d = dd
            · rw [h8, pk_us, hlb, ct_st_at]
            · rw [pk_un h8, pk_un h8, ct_st_ne _ _ (fun z => h8 (hok.2.2.2 d dd h9 (by omega) (z.trans hlb.symm)))]
              exact hgi2 d h9
          · refine lv_icmp_ne (tgt := 172) hx hb d_R_join_150 (by decide) (fun _ => ?_) (fun hc9 => absurd hc9 (fun z => hw9 ((nI_eq (by omega) (by omega)).mp z)))
            refine lv_iload hx hb d_R_join_172 (lv_at hl 10 rfl) ?_
            refine lv_iload hx hb d_R_join_174 (lv_at hl 0 rfl) ?_
            refine lv_aload_n hx hb d_R_join_176 rfl (lv_at hl 1 rfl) ?_
            refine va_get (D := (dC, dI)) (ci := 3) (v := .ref r4) (C := R_R) (T := T_R) (N := 7) hx hb hts (fun w h9 => ct_tl (ki_R w h9)) hown hK hP 0 rfl rfl 4 (by decide) (hts _ (ct_tl kw_96)) (fun _ h9 => h9) rfl d_R_join_177 ?_
            refine lv_iload hx hb d_R_join_180 (lv_at hl 14 rfl) ?_
            refine ct_iald hx hb hK hP 4 0 rfl rfl (j := dd) (by omega) (by omega) d_R_join_182 ?_
            refine ct_val (y := nI (ct_sr sz L lb)) (hld.2.2.1) ?_
            refine lv_imul hx hb d_R_join_183 ?_
            refine lv_iadd hx hb d_R_join_184 ?_
            refine ct_val (y := nI (a0 + (ct_ix sz L.testBit 8 (ct_st tt lb (tt lb + 1))))) (by rw [ct_ix_inc tt hd.2.1]; exact ct_pos_inc) ?_
            refine lv_istore (lv' := [(10, .int (nI (a0 + (ct_ix sz L.testBit 8 (ct_st tt lb (tt lb + 1)))))), (15, .int (nI 1)), (0, .ref r0), (1, .int (nI a0)), (2, .int (nI L)), (3, .int (nI b0)), (4, .int (nI R)), (5, .int (nI t0)), (6, .int (nI T)), (8, .int (nI (ct_us sz (L ||| R ||| T) 8).length)), (9, .int (nI (ct_pr sz (L ||| R ||| T).testBit 8))), (11, .int (nI (b0 + (ct_ix sz R.testBit 8 tt)))), (12, .int (nI (t0 + (ct_ix sz T.testBit 8 tt)))), (13, .int (nI n)), (14, .int (nI dd))]) hx hb d_R_join_185 hl (by decide) rfl (fun ls hl => ?_)
            refine lv_iload hx hb d_R_join_187 (lv_at hl 11 rfl) ?_
            refine lv_iload hx hb d_R_join_189 (lv_at hl 1 rfl) ?_
            refine lv_aload_n hx hb d_R_join_191 rfl (lv_at hl 2 rfl) ?_
            refine va_get (D := (dC, dI)) (ci := 3) (v := .ref r5) (C := R_R) (T := T_R) (N := 7) hx hb hts (fun w h9 => ct_tl (ki_R w h9)) hown hK hP 0 rfl rfl 5 (by decide) (hts _ (ct_tl kw_97)) (fun _ h9 => h9) rfl d_R_join_192 ?_
            refine lv_iload hx hb d_R_join_195 (lv_at hl 14 rfl) ?_
            refine ct_iald hx hb hK hP 5 0 rfl rfl (j := dd) (by omega) (by omega) d_R_join_197 ?_
            refine ct_val (y := nI (ct_sr sz R lb)) (hld.2.2.2.1) ?_
            refine lv_imul hx hb d_R_join_198 ?_
            refine lv_iadd hx hb d_R_join_199 ?_
            refine ct_val (y := nI (b0 + (ct_ix sz R.testBit 8 (ct_st tt lb (tt lb + 1))))) (by rw [ct_ix_inc tt hd.2.1]; exact ct_pos_inc) ?_
            refine lv_istore (lv' := [(11, .int (nI (b0 + (ct_ix sz R.testBit 8 (ct_st tt lb (tt lb + 1)))))), (10, .int (nI (a0 + (ct_ix sz L.testBit 8 (ct_st tt lb (tt lb + 1)))))), (15, .int (nI 1)), (0, .ref r0), (1, .int (nI a0)), (2, .int (nI L)), (3, .int (nI b0)), (4, .int (nI R)), (5, .int (nI t0)), (6, .int (nI T)), (8, .int (nI (ct_us sz (L ||| R ||| T) 8).length)), (9, .int (nI (ct_pr sz (L ||| R ||| T).testBit 8))), (12, .int (nI (t0 + (ct_ix sz T.testBit 8 tt)))), (13, .int (nI n)), (14, .int (nI dd))]) hx hb d_R_join_200 hl (by decide) rfl (fun ls hl => ?_)
            refine lv_iload hx hb d_R_join_202 (lv_at hl 12 rfl) ?_
            refine lv_iload hx hb d_R_join_204 (lv_at hl 2 rfl) ?_
            refine lv_aload_n hx hb d_R_join_206 rfl (lv_at hl 3 rfl) ?_
            refine va_get (D := (dC, dI)) (ci := 3) (v := .ref r6) (C := R_R) (T := T_R) (N := 7) hx hb hts (fun w h9 => ct_tl (ki_R w h9)) hown hK hP 0 rfl rfl 6 (by decide) (hts _ (ct_tl kw_98)) (fun _ h9 => h9) rfl d_R_join_207 ?_
            refine lv_iload hx hb d_R_join_210 (lv_at hl 14 rfl) ?_
            refine ct_iald hx hb hK hP 6 0 rfl rfl (j := dd) (by omega) (by omega) d_R_join_212 ?_
            refine ct_val (y := nI (ct_sr sz T lb)) (hld.2.2.2.2) ?_
            refine lv_imul hx hb d_R_join_213 ?_
            refine lv_iadd hx hb d_R_join_214 ?_
            refine ct_val (y := nI (t0 + (ct_ix sz T.testBit 8 (ct_st tt lb (tt lb + 1))))) (by rw [ct_ix_inc tt hd.2.1]; exact ct_pos_inc) ?_
            refine lv_istore (lv' := [(12, .int (nI (t0 + (ct_ix sz T.testBit 8 (ct_st tt lb (tt lb + 1)))))), (11, .int (nI (b0 + (ct_ix sz R.testBit 8 (ct_st tt lb (tt lb + 1)))))), (10, .int (nI (a0 + (ct_ix sz L.testBit 8 (ct_st tt lb (tt lb + 1)))))), (15, .int (nI 1)), (0, .ref r0), (1, .int (nI a0)), (2, .int (nI L)), (3, .int (nI b0)), (4, .int (nI R)), (5, .int (nI t0)), (6, .int (nI T)), (8, .int (nI (ct_us sz (L ||| R ||| T) 8).length)), (9, .int (nI (ct_pr sz (L ||| R ||| T).testBit 8))), (13, .int (nI n)), (14, .int (nI dd))]) hx hb d_R_join_215 hl (by decide) rfl (fun ls hl => ?_)
            refine lv_iload hx hb d_R_join_217 (lv_at hl 3 rfl) ?_
            refine lv_iconst (v := (nI 1)) hx hb d_R_join_219 (by decide) ?_
            refine lv_icmp_ne (tgt := 226) hx hb d_R_join_220 (by decide) (fun hc9 => absurd (rfl) hc9) (fun _ => ?_)
            refine lv_goto (tgt := 232) hx hb d_R_join_223 (by decide) ?_
            refine lv_iinc (v := (nI (n + 1))) (lv' := [(13, .int (nI (n + 1))), (12, .int (nI (t0 + (ct_ix sz T.testBit 8 (ct_st tt lb (tt lb + 1)))))), (11, .int (nI (b0 + (ct_ix sz R.testBit 8 (ct_st tt lb (tt lb + 1)))))), (10, .int (nI (a0 + (ct_ix sz L.testBit 8 (ct_st tt lb (tt lb + 1)))))), (15, .int (nI 1)), (0, .ref r0), (1, .int (nI a0)), (2, .int (nI L)), (3, .int (nI b0)), (4, .int (nI R)), (5, .int (nI t0)), (6, .int (nI T)), (8, .int (nI (ct_us sz (L ||| R ||| T) 8).length)), (9, .int (nI (ct_pr sz (L ||| R ||| T).testBit 8))), (14, .int (nI dd))]) hx hb d_R_join_232 hl (k := 13) rfl (nI_1 _) (by decide) rfl (fun ls hl => ?_)
            refine lv_goto (tgt := 79) hx hb d_R_join_235 (by decide) ?_
            have hst := ct_car_stop hcar2 hs0 hd.2.1 hd.2.2.1 hw9
            refine ih (n + 1) (by omega) g2 _ _ _ _ hg1c hg2c (fun _ => ⟨by rw [hst], by rw [hst], by rw [hst], fun d h9 => ?_⟩) H locs hP hD hS ls (lv_sub hl [5, 6, 7, 8, 9, 10, 11, 12, 13, 3, 2, 1, 0] rfl)
            rw [← hst]
            by_cases h8 : d = dd
            · rw [h8, pk_us, hlb, ct_st_at]
            · rw [pk_un h8, ct_st_ne _ _ (fun z => h8 (hok.2.2.2 d dd h9 (by omega) (z.trans hlb.symm)))]
              exact hgi2 d h9
      refine lv_aload_n hx hb d_R_join_86 rfl (lv_at hl 0 rfl) ?_
      refine va_get (D := (dC, dI)) (ci := 3) (v := .ref r1) (C := R_R) (T := T_R) (N := 7) hx hb hts (fun w h9 => ct_tl (ki_R w h9)) hown hK hP 0 rfl rfl 1 (by decide) (hts _ (ct_tl kw_93)) (fun _ h9 => h9) rfl d_R_join_87 ?_
      refine lv_iload hx hb d_R_join_90 (lv_at hl 11 rfl) ?_
      refine lv_dup2_11 hx hb d_R_join_92 rfl rfl ?_
      refine ct_iald hx hb hK hP 1 0 rfl rfl (j := t0 + (ct_ix sz T.testBit 8 t)) (by omega) (hN) d_R_join_93 ?_
      refine lv_aload_n hx hb d_R_join_94 rfl (lv_at hl 0 rfl) ?_
      refine va_get (D := (dC, dI)) (ci := 3) (v := .ref r1) (C := R_R) (T := T_R) (N := 7) hx hb hts (fun w h9 => ct_tl (ki_R w h9)) hown hK hP 0 rfl rfl 1 (by decide) (hts _ (ct_tl kw_93)) (fun _ h9 => h9) rfl d_R_join_95 ?_
      refine lv_iload hx hb d_R_join_98 (lv_at hl 9 rfl) ?_
      refine ct_iald hx hb hK hP 1 0 rfl rfl (j := a0 + (ct_ix sz L.testBit 8 t)) (by omega) (hN) d_R_join_100 ?_
      refine ct_val (y := f (a0 + (ct_ix sz L.testBit 8 t))) (hg1 _ (by omega)) ?_
      refine lv_aload_n hx hb d_R_join_101 rfl (lv_at hl 0 rfl) ?_
      refine va_get (D := (dC, dI)) (ci := 3) (v := .ref r1) (C := R_R) (T := T_R) (N := 7) hx hb hts (fun w h9 => ct_tl (ki_R w h9)) hown hK hP 0 rfl rfl 1 (by decide) (hts _ (ct_tl kw_93)) (fun _ h9 => h9) rfl d_R_join_102 ?_
      refine lv_iload hx hb d_R_join_105 (lv_at hl 10 rfl) ?_
      refine ct_iald hx hb hK hP 1 0 rfl rfl (j := b0 + (ct_ix sz R.testBit 8 t)) (by omega) (hN) d_R_join_107 ?_
      refine ct_val (y := f (b0 + (ct_ix sz R.testBit 8 t))) (hg1 _ (by omega)) ?_
      refine lv_imul hx hb d_R_join_108 ?_
      refine lv_iadd hx hb d_R_join_109 ?_
      refine ct_iast hx hb hK hP hD hS 1 0 rfl rfl (j := t0 + (ct_ix sz T.testBit 8 t)) (by omega) (hN) d_R_join_110 (fun H locs hP hD hS => ?_)
      have hP : va_P (dC, dI) ct_cl [(r0, .inr (3, [.ref z0, .ref r1, .ref r2, .ref r3, .ref r4, .ref r5, .ref r6])), (r1, .inl (cI, N, .inl (upd g (t0 + (ct_ix sz T.testBit 8 t)) ((g (t0 + (ct_ix sz T.testBit 8 t))) + ((f (a0 + (ct_ix sz L.testBit 8 t))) * (f (b0 + (ct_ix sz R.testBit 8 t)))))))), (r2, .inl (cI, 8, .inl ge)), (r3, .inl (cI, 8, .inl gi)), (r4, .inl (cI, 8, .inl ga)), (r5, .inl (cI, 8, .inl gb)), (r6, .inl (cI, 8, .inl gt)), (z0, .inr (1, [.ref z1])), (z1, .inl (cI, 8, .inl (fun j => nI (sz j))))] H := hP
      have hD : va_D A [(r0, .inr (3, [.ref z0, .ref r1, .ref r2, .ref r3, .ref r4, .ref r5, .ref r6])), (r1, .inl (cI, N, .inl (upd g (t0 + (ct_ix sz T.testBit 8 t)) ((g (t0 + (ct_ix sz T.testBit 8 t))) + ((f (a0 + (ct_ix sz L.testBit 8 t))) * (f (b0 + (ct_ix sz R.testBit 8 t)))))))), (r2, .inl (cI, 8, .inl ge)), (r3, .inl (cI, 8, .inl gi)), (r4, .inl (cI, 8, .inl ga)), (r5, .inl (cI, 8, .inl gb)), (r6, .inl (cI, 8, .inl gt)), (z0, .inr (1, [.ref z1])), (z1, .inl (cI, 8, .inl (fun j => nI (sz j))))] := hD
      refine lv_iload hx hb d_R_join_111 (lv_at hl 7 rfl) ?_
      refine lv_iconst (v := (nI 1)) hx hb d_R_join_113 (by decide) ?_
      refine lv_isub hx hb d_R_join_114 ?_
      refine ct_val (y := (nI (ct_us sz (L ||| R ||| T) 8).length - 1)) (rfl) ?_
      refine lv_istore (lv' := [(14, .int (nI (ct_us sz (L ||| R ||| T) 8).length - 1)), (0, .ref r0), (1, .int (nI a0)), (2, .int (nI L)), (3, .int (nI b0)), (4, .int (nI R)), (5, .int (nI t0)), (6, .int (nI T)), (8, .int (nI (ct_us sz (L ||| R ||| T) 8).length)), (9, .int (nI (ct_pr sz (L ||| R ||| T).testBit 8))), (10, .int (nI (a0 + (ct_ix sz L.testBit 8 t)))), (11, .int (nI (b0 + (ct_ix sz R.testBit 8 t)))), (12, .int (nI (t0 + (ct_ix sz T.testBit 8 t)))), (13, .int (nI n))]) hx hb d_R_join_115 hl (by decide) rfl (fun ls hl => ?_)
      exact inner _ hg1b hg2b (ct_us sz (L ||| R ||| T) 8).length (Nat.le_refl _) t gi (by rw [ct_kk_out (Nat.le_refl _), ← hde]; exact ct_car_0 sz (L ||| R ||| T).testBit n) hgi H locs hP hD hS ls (lv_sub hl [1, 2, 3, 4, 5, 6, 7, 8, 9, 10, 11, 12, 13, 0] rfl)
  have clean : ∀ (fu j : Nat), j + fu = (ct_pr sz T.testBit 8) → ∀ (g : Nat → Int32), (∀ i, (i < t0 ∨ t0 + (ct_pr sz T.testBit 8) ≤ i) → g i = f i) → (∀ i, i < j → g (t0 + i) = 0) → ∀ (H : Heap) (locs : List Loc), va_P (dC, dI) ct_cl [(r0, .inr (3, [.ref z0, .ref r1, .ref r2, .ref r3, .ref r4, .ref r5, .ref r6])), (r1, .inl (cI, N, .inl g)), (r2, .inl (cI, 8, .inl fe)), (r3, .inl (cI, 8, .inl fi)), (r4, .inl (cI, 8, .inl fa)), (r5, .inl (cI, 8, .inl fb)), (r6, .inl (cI, 8, .inl ft)), (z0, .inr (1, [.ref z1])), (z1, .inl (cI, 8, .inl (fun j => nI (sz j))))] H → va_D A [(r0, .inr (3, [.ref z0, .ref r1, .ref r2, .ref r3, .ref r4, .ref r5, .ref r6])), (r1, .inl (cI, N, .inl g)), (r2, .inl (cI, 8, .inl fe)), (r3, .inl (cI, 8, .inl fi)), (r4, .inl (cI, 8, .inl fa)), (r5, .inl (cI, 8, .inl fb)), (r6, .inl (cI, 8, .inl ft)), (z0, .inr (1, [.ref z1])), (z1, .inl (cI, 8, .inl (fun j => nI (sz j))))] → va_S A s.heap H locs → ∀ (ls : Array Slot), lv_has ls 16 [(0, .ref r0), (1, .int (nI a0)), (2, .int (nI L)), (3, .int (nI b0)), (4, .int (nI R)), (5, .int (nI t0)), (6, .int (nI T)), (7, .int (nI (t0 + (ct_pr sz T.testBit 8)))), (8, .int (nI (t0 + j)))] → W p l e (headSpec w_R_join ({ frames := 3, cells := 0, slots := 0, locals := 72 } : Room)).room s m args below meth c H locs 0 0 (MQ below (va_Qv (fun (u : (Nat → Int32) × (Nat → Int32) × (Nat → Int32) × (Nat → Int32) × (Nat → Int32) × (Nat → Int32)) => ct_joined sz f a0 L b0 R t0 T u.1) (fun (u : (Nat → Int32) × (Nat → Int32) × (Nat → Int32) × (Nat → Int32) × (Nat → Int32) × (Nat → Int32)) t => ct_at (dC, dI) ct_cl [(cI, .int)] (A) [(r0, .inr (3, [.ref z0, .ref r1, .ref r2, .ref r3, .ref r4, .ref r5, .ref r6])), (r1, .inl (cI, N, .inl (u.1))), (r2, .inl (cI, 8, .inl (u.2.1))), (r3, .inl (cI, 8, .inl (u.2.2.1))), (r4, .inl (cI, 8, .inl (u.2.2.2.1))), (r5, .inl (cI, 8, .inl (u.2.2.2.2.1))), (r6, .inl (cI, 8, .inl (u.2.2.2.2.2))), (z0, .inr (1, [.ref z1])), (z1, .inl (cI, 8, .inl (fun j => nI (sz j))))] t) (A)) args s 0 0 A) (F0 m 18 ls []) := by
    intro fu
    induction fu with
    | zero =>
      intro j hj g hg1 hg2 H locs hP hD hS ls hl
      refine lv_iload hx hb d_R_join_18 (lv_at hl 8 rfl) ?_
      refine lv_iload hx hb d_R_join_20 (lv_at hl 7 rfl) ?_
      refine lv_icmp_ge (tgt := 39) hx hb d_R_join_22 (by decide) (fun _ => ?_) (fun hc9 => absurd (nI_le (by omega) (by omega)) hc9)
      refine lv_aload_n hx hb d_R_join_39 rfl (lv_at hl 0 rfl) ?_
      refine lv_iload_n hx hb d_R_join_40 rfl (lv_at hl 2 rfl) ?_
      refine lv_iload hx hb d_R_join_41 (lv_at hl 4 rfl) ?_
      refine lv_iload hx hb d_R_join_43 (lv_at hl 6 rfl) ?_
      have hPc := hP.sub (ws' := [(r0, .inr (3, [.ref z0, .ref r1, .ref r2, .ref r3, .ref r4, .ref r5, .ref r6])), (r2, .inl (cI, 8, .inl fe)), (r3, .inl (cI, 8, .inl fi)), (r4, .inl (cI, 8, .inl fa)), (r5, .inl (cI, 8, .inl fb)), (r6, .inl (cI, 8, .inl ft)), (z0, .inr (1, [.ref z1])), (z1, .inl (cI, 8, .inl (fun j => nI (sz j))))]) [0, 2, 3, 4, 5, 6, 7, 8] rfl
      have hDc := hD.sub (ws' := [(r0, .inr (3, [.ref z0, .ref r1, .ref r2, .ref r3, .ref r4, .ref r5, .ref r6])), (r2, .inl (cI, 8, .inl fe)), (r3, .inl (cI, 8, .inl fi)), (r4, .inl (cI, 8, .inl fa)), (r5, .inl (cI, 8, .inl fb)), (r6, .inl (cI, 8, .inl ft)), (z0, .inr (1, [.ref z1])), (z1, .inl (cI, 8, .inl (fun j => nI (sz j))))]) [0, 2, 3, 4, 5, 6, 7, 8] (by decide) rfl
      have hFc := va_free (wc := [(r0, .inr (3, [.ref z0, .ref r1, .ref r2, .ref r3, .ref r4, .ref r5, .ref r6])), (r2, .inl (cI, 8, .inl fe)), (r3, .inl (cI, 8, .inl fi)), (r4, .inl (cI, 8, .inl fa)), (r5, .inl (cI, 8, .inl fb)), (r6, .inl (cI, 8, .inl ft)), (z0, .inr (1, [.ref z1])), (z1, .inl (cI, 8, .inl (fun j => nI (sz j))))]) hD hS hA [0, 2, 3, 4, 5, 6, 7, 8] rfl
      refine va_calli (va_runV (As := [.int (nI L), .int (nI R), .int (nI T)]) (rest := []) ⟨hx, hb, hml, hown, hts⟩ (c_R_layOut l dC dI cI z1 sz r1 z0 r0 r2 r3 r4 r5 r6 fe fi fa fb ft L R T hL hR hT (fun k hk => (hsz k hk).2) H.size) (cwV 3 hts (ct_giV (fun w h9 => ct_tl h9) kw_454 kw_456 kw_12 kw_29 kw_457) rfl rfl rfl (by decide +kernel) ⟨Nat.le_of_ble_eq_true rfl, Nat.le_of_ble_eq_true rfl⟩) ⟨ct_rw_blind, va_recv hK hP (ci := 3) (q0 := 0) rfl rfl, ct_rw_pre hPc hK hDc⟩ rfl rfl hl.1 rfl (lv_room (Nat.le_of_ble_eq_true rfl)) d_R_join_45 ⟨Nat.le_of_ble_eq_true rfl, Nat.le_of_ble_eq_true rfl⟩) hS (fun q _ h9 => hFc q h9) hFc (fun ans1 ⟨ge, gi, ga, gb, gt⟩ tS H1 locs ht hvm hly hB hz1 hk1 hS => ?_)
      obtain ⟨hP1, -, hD1⟩ := hB
      rw [ht] at hP1
      obtain ⟨hP, hD⟩ := va_join (wr := [(r1, .inl (cI, N, .inl g))]) (w1 := [(r0, .inr (3, [.ref z0, .ref r1, .ref r2, .ref r3, .ref r4, .ref r5, .ref r6])), (r2, .inl (cI, 8, .inl ge)), (r3, .inl (cI, 8, .inl gi)), (r4, .inl (cI, 8, .inl ga)), (r5, .inl (cI, 8, .inl gb)), (r6, .inl (cI, 8, .inl gt)), (z0, .inr (1, [.ref z1])), (z1, .inl (cI, 8, .inl (fun j => nI (sz j))))]) hP hD [0, 2, 3, 4, 5, 6, 7, 8] [1] rfl rfl (by decide) (by decide) hk1 hFc hP1 hD1
      generalize H1 = H at hP hS ⊢
      have hP : va_P (dC, dI) ct_cl [(r1, .inl (cI, N, .inl g)), (r0, .inr (3, [.ref z0, .ref r1, .ref r2, .ref r3, .ref r4, .ref r5, .ref r6])), (r2, .inl (cI, 8, .inl ge)), (r3, .inl (cI, 8, .inl gi)), (r4, .inl (cI, 8, .inl ga)), (r5, .inl (cI, 8, .inl gb)), (r6, .inl (cI, 8, .inl gt)), (z0, .inr (1, [.ref z1])), (z1, .inl (cI, 8, .inl (fun j => nI (sz j))))] H := hP
      have hD : va_D A [(r1, .inl (cI, N, .inl g)), (r0, .inr (3, [.ref z0, .ref r1, .ref r2, .ref r3, .ref r4, .ref r5, .ref r6])), (r2, .inl (cI, 8, .inl ge)), (r3, .inl (cI, 8, .inl gi)), (r4, .inl (cI, 8, .inl ga)), (r5, .inl (cI, 8, .inl gb)), (r6, .inl (cI, 8, .inl gt)), (z0, .inr (1, [.ref z1])), (z1, .inl (cI, 8, .inl (fun j => nI (sz j))))] := hD
      dsimp only at hly
      refine ct_val (y := nI (ct_us sz (L ||| R ||| T) 8).length) hly.1 ?_
      refine lv_istore (lv' := [(8, .int (nI (ct_us sz (L ||| R ||| T) 8).length)), (0, .ref r0), (1, .int (nI a0)), (2, .int (nI L)), (3, .int (nI b0)), (4, .int (nI R)), (5, .int (nI t0)), (6, .int (nI T)), (7, .int (nI (t0 + (ct_pr sz T.testBit 8))))]) hx hb d_R_join_48 hl (by decide) rfl (fun ls hl => ?_)
      refine lv_aload_n hx hb d_R_join_50 rfl (lv_at hl 1 rfl) ?_
      refine va_get (D := (dC, dI)) (ci := 3) (v := .ref z0) (C := R_R) (T := T_R) (N := 7) hx hb hts (fun w h9 => ct_tl (ki_R w h9)) hown hK hP 1 rfl rfl 0 (by decide) (hts _ (ct_tl kw_92)) (fun _ h9 => h9) rfl d_R_join_51 ?_
      refine lv_iload_n hx hb d_R_join_54 rfl (lv_at hl 3 rfl) ?_
      refine lv_iload hx hb d_R_join_55 (lv_at hl 5 rfl) ?_
      refine lv_ior hx hb d_R_join_57 ?_
      refine ct_val (y := nI (L ||| R)) (ct_or _ _) ?_
      refine lv_iload hx hb d_R_join_58 (lv_at hl 7 rfl) ?_
      refine lv_ior hx hb d_R_join_60 ?_
      refine ct_val (y := nI (L ||| R ||| T)) (ct_or _ _) ?_
      refine va_calli (va_runV (As := [.int (nI (L ||| R ||| T))]) (rest := []) ⟨hx, hb, hml, hown, hts⟩ (c_S_choices l dC dI cI z0 z1 sz (L ||| R ||| T) (by omega)) (cwV 1 hts (ct_giV (fun w h9 => ct_tl h9) kw_453 kw_195 kw_196 kw_27 kw_197) rfl rfl rfl (by decide +kernel) ⟨Nat.le_of_ble_eq_true rfl, Nat.le_of_ble_eq_true rfl⟩) ⟨ct_ro_blind, va_recv hK hP (ci := 1) (q0 := 7) rfl rfl, ct_ro_pre (hP.sub [7, 8] rfl) hK⟩ rfl rfl hl.1 rfl (lv_room (Nat.le_of_ble_eq_true rfl)) d_R_join_61 ⟨Nat.le_of_ble_eq_true rfl, Nat.le_of_ble_eq_true rfl⟩) hS (fun q _ h9 => h9.elim) (fun q h9 => h9.elim) (fun ans2 uS tS H locs ht hvm hwans2 hB hz1 hk1 hS => ?_)
      have hP := ct_keep hP hk1
      refine ct_val (y := nI (ct_pr sz (L ||| R ||| T).testBit 8)) (hwans2) ?_
      refine lv_istore (lv' := [(9, .int (nI (ct_pr sz (L ||| R ||| T).testBit 8))), (8, .int (nI (ct_us sz (L ||| R ||| T) 8).length)), (0, .ref r0), (1, .int (nI a0)), (2, .int (nI L)), (3, .int (nI b0)), (4, .int (nI R)), (5, .int (nI t0)), (6, .int (nI T)), (7, .int (nI (t0 + (ct_pr sz T.testBit 8))))]) hx hb d_R_join_64 hl (by decide) rfl (fun ls hl => ?_)
      refine lv_iload_n hx hb d_R_join_66 rfl (lv_at hl 3 rfl) ?_
      refine lv_istore (lv' := [(10, .int (nI a0)), (9, .int (nI (ct_pr sz (L ||| R ||| T).testBit 8))), (8, .int (nI (ct_us sz (L ||| R ||| T) 8).length)), (0, .ref r0), (1, .int (nI a0)), (2, .int (nI L)), (3, .int (nI b0)), (4, .int (nI R)), (5, .int (nI t0)), (6, .int (nI T)), (7, .int (nI (t0 + (ct_pr sz T.testBit 8))))]) hx hb d_R_join_67 hl (by decide) rfl (fun ls hl => ?_)
      refine lv_iload_n hx hb d_R_join_69 rfl (lv_at hl 6 rfl) ?_
      refine lv_istore (lv' := [(11, .int (nI b0)), (10, .int (nI a0)), (9, .int (nI (ct_pr sz (L ||| R ||| T).testBit 8))), (8, .int (nI (ct_us sz (L ||| R ||| T) 8).length)), (0, .ref r0), (1, .int (nI a0)), (2, .int (nI L)), (3, .int (nI b0)), (4, .int (nI R)), (5, .int (nI t0)), (6, .int (nI T)), (7, .int (nI (t0 + (ct_pr sz T.testBit 8))))]) hx hb d_R_join_70 hl (by decide) rfl (fun ls hl => ?_)
      refine lv_iload hx hb d_R_join_72 (lv_at hl 9 rfl) ?_
      refine lv_istore (lv' := [(12, .int (nI t0)), (11, .int (nI b0)), (10, .int (nI a0)), (9, .int (nI (ct_pr sz (L ||| R ||| T).testBit 8))), (8, .int (nI (ct_us sz (L ||| R ||| T) 8).length)), (0, .ref r0), (1, .int (nI a0)), (2, .int (nI L)), (3, .int (nI b0)), (4, .int (nI R)), (5, .int (nI t0)), (6, .int (nI T)), (7, .int (nI (t0 + (ct_pr sz T.testBit 8))))]) hx hb d_R_join_74 hl (by decide) rfl (fun ls hl => ?_)
      refine lv_iconst (v := (nI 0)) hx hb d_R_join_76 (by decide) ?_
      refine lv_istore (lv' := [(13, .int (nI 0)), (12, .int (nI t0)), (11, .int (nI b0)), (10, .int (nI a0)), (9, .int (nI (ct_pr sz (L ||| R ||| T).testBit 8))), (8, .int (nI (ct_us sz (L ||| R ||| T) 8).length)), (0, .ref r0), (1, .int (nI a0)), (2, .int (nI L)), (3, .int (nI b0)), (4, .int (nI R)), (5, .int (nI t0)), (6, .int (nI T)), (7, .int (nI (t0 + (ct_pr sz T.testBit 8))))]) hx hb d_R_join_77 hl (by decide) rfl (fun ls hl => ?_)
      have hpr0 := ct_pr_pos (sz := sz) (P := (L ||| R ||| T).testBit) 8 hs0
      refine outer ge ga gb gt gi hly.2 (ct_pr sz (L ||| R ||| T).testBit 8) 0 (by omega) g gi _ _ _ hg1 (fun j h9 => hg2 j (by omega)) (fun _ => ?_) H locs (hP.sub [1, 0, 2, 3, 4, 5, 6, 7, 8] rfl) (hD.sub [1, 0, 2, 3, 4, 5, 6, 7, 8] (by decide) rfl) hS ls (lv_sub hl [6, 7, 8, 9, 10, 11, 12, 5, 4, 3, 2, 1, 0] rfl)
      have z0L : ∀ M : Nat, ct_ix sz M.testBit 8 (fun _ => 0) = 0 := fun M => ct_ix_0 sz M.testBit 8
      rw [ct_de_0]
      exact ⟨by rw [z0L, Nat.add_zero], by rw [z0L, Nat.add_zero], by rw [z0L, Nat.add_zero], fun d h9 => (hly.2 d h9).2.1⟩
    | succ fu ih =>
      intro j hj g hg1 hg2 H locs hP hD hS ls hl
      refine lv_iload hx hb d_R_join_18 (lv_at hl 8 rfl) ?_
      refine lv_iload hx hb d_R_join_20 (lv_at hl 7 rfl) ?_
      refine lv_icmp_ge (tgt := 39) hx hb d_R_join_22 (by decide) (fun hc9 => absurd hc9 (nI_ge (by omega) (by omega))) (fun _ => ?_)
      refine lv_aload_n hx hb d_R_join_25 rfl (lv_at hl 0 rfl) ?_
      refine va_get (D := (dC, dI)) (ci := 3) (v := .ref r1) (C := R_R) (T := T_R) (N := 7) hx hb hts (fun w h9 => ct_tl (ki_R w h9)) hown hK hP 0 rfl rfl 1 (by decide) (hts _ (ct_tl kw_93)) (fun _ h9 => h9) rfl d_R_join_26 ?_
      refine lv_iload hx hb d_R_join_29 (lv_at hl 8 rfl) ?_
      refine lv_iconst (v := (nI 0)) hx hb d_R_join_31 (by decide) ?_
      refine ct_iast hx hb hK hP hD hS 1 0 rfl rfl (j := t0 + j) (by omega) (hN) d_R_join_32 (fun H locs hP hD hS => ?_)
      have hP : va_P (dC, dI) ct_cl [(r0, .inr (3, [.ref z0, .ref r1, .ref r2, .ref r3, .ref r4, .ref r5, .ref r6])), (r1, .inl (cI, N, .inl (upd g (t0 + j) (nI 0)))), (r2, .inl (cI, 8, .inl fe)), (r3, .inl (cI, 8, .inl fi)), (r4, .inl (cI, 8, .inl fa)), (r5, .inl (cI, 8, .inl fb)), (r6, .inl (cI, 8, .inl ft)), (z0, .inr (1, [.ref z1])), (z1, .inl (cI, 8, .inl (fun j => nI (sz j))))] H := hP
      have hD : va_D A [(r0, .inr (3, [.ref z0, .ref r1, .ref r2, .ref r3, .ref r4, .ref r5, .ref r6])), (r1, .inl (cI, N, .inl (upd g (t0 + j) (nI 0)))), (r2, .inl (cI, 8, .inl fe)), (r3, .inl (cI, 8, .inl fi)), (r4, .inl (cI, 8, .inl fa)), (r5, .inl (cI, 8, .inl fb)), (r6, .inl (cI, 8, .inl ft)), (z0, .inr (1, [.ref z1])), (z1, .inl (cI, 8, .inl (fun j => nI (sz j))))] := hD
      refine lv_iinc (v := (nI (t0 + (j + 1)))) (lv' := [(8, .int (nI (t0 + (j + 1)))), (0, .ref r0), (1, .int (nI a0)), (2, .int (nI L)), (3, .int (nI b0)), (4, .int (nI R)), (5, .int (nI t0)), (6, .int (nI T)), (7, .int (nI (t0 + (ct_pr sz T.testBit 8))))]) hx hb d_R_join_33 hl (k := 8) rfl (by rw [← Nat.add_assoc]; exact nI_1 _) (by decide) rfl (fun ls hl => ?_)
      refine lv_goto (tgt := 18) hx hb d_R_join_36 (by decide) ?_
      refine ih (j + 1) (by omega) _ (fun i h9 => ?_) (fun i h9 => ?_) H locs hP hD hS ls (lv_sub hl [1, 2, 3, 4, 5, 6, 7, 8, 0] rfl)
      · rw [pk_un (by omega)]; exact hg1 i h9
      · by_cases h8 : i = j
        · rw [h8, pk_us]; exact nI_0
        · rw [pk_un (by omega)]; exact hg2 i (by omega)
  refine lv_iload hx hb d_R_join_0 (lv_at hl 5 rfl) ?_
  refine lv_aload_n hx hb d_R_join_2 rfl (lv_at hl 0 rfl) ?_
  refine va_get (D := (dC, dI)) (ci := 3) (v := .ref z0) (C := R_R) (T := T_R) (N := 7) hx hb hts (fun w h9 => ct_tl (ki_R w h9)) hown hK hP 0 rfl rfl 0 (by decide) (hts _ (ct_tl kw_92)) (fun _ h9 => h9) rfl d_R_join_3 ?_
  refine lv_iload hx hb d_R_join_6 (lv_at hl 6 rfl) ?_
  refine va_calli (va_runV (As := [.int (nI T)]) (rest := [.int (nI t0)]) ⟨hx, hb, hml, hown, hts⟩ (c_S_choices l dC dI cI z0 z1 sz T (by omega)) (cwV 1 hts (ct_giV (fun w h9 => ct_tl h9) kw_453 kw_195 kw_196 kw_27 kw_197) rfl rfl rfl (by decide +kernel) ⟨Nat.le_of_ble_eq_true rfl, Nat.le_of_ble_eq_true rfl⟩) ⟨ct_ro_blind, va_recv hK hP (ci := 1) (q0 := 7) rfl rfl, ct_ro_pre (hP.sub [7, 8] rfl) hK⟩ rfl rfl hl.1 rfl (lv_room (Nat.le_of_ble_eq_true rfl)) d_R_join_8 ⟨Nat.le_of_ble_eq_true rfl, Nat.le_of_ble_eq_true rfl⟩) hS (fun q _ h9 => h9.elim) (fun q h9 => h9.elim) (fun ans1 uS tS H locs ht hvm hwans1 hB hz1 hk1 hS => ?_)
  have hP := ct_keep hP hk1
  refine ct_val (y := nI (ct_pr sz (T).testBit 8)) (hwans1) ?_
  refine lv_iadd hx hb d_R_join_11 ?_
  refine ct_val (y := nI (t0 + (ct_pr sz T.testBit 8))) (nI_add _ _) ?_
  refine lv_istore (lv' := [(7, .int (nI (t0 + (ct_pr sz T.testBit 8)))), (0, .ref r0), (1, .int (nI a0)), (2, .int (nI L)), (3, .int (nI b0)), (4, .int (nI R)), (5, .int (nI t0)), (6, .int (nI T))]) hx hb d_R_join_12 hl (by decide) rfl (fun ls hl => ?_)
  refine lv_iload hx hb d_R_join_14 (lv_at hl 6 rfl) ?_
  refine lv_istore (lv' := [(8, .int (nI t0)), (7, .int (nI (t0 + (ct_pr sz T.testBit 8)))), (0, .ref r0), (1, .int (nI a0)), (2, .int (nI L)), (3, .int (nI b0)), (4, .int (nI R)), (5, .int (nI t0)), (6, .int (nI T))]) hx hb d_R_join_16 hl (by decide) rfl (fun ls hl => ?_)
  exact clean (ct_pr sz T.testBit 8) 0 (by omega) f (fun i _ => rfl) (fun i h9 => absurd h9 (Nat.not_lt_zero i)) H locs hP hD hS ls (lv_sub hl [2, 3, 4, 5, 6, 7, 8, 1, 0] rfl)
end
section
theorem ct_cA {D : va_G} {cl : List vw_C} {cI cA : ClassId} {s : State} (h : va_K D cl ([(cI, .int)] ++ [(cA, .int)]) s) : cA = cI := by
  have h1 := (h.2 0 _ rfl).2
  have h2 := (h.2 1 _ rfl).2
  exact (Option.some.inj ((show s.vm.findClass _ = some cI from h1).symm.trans (show s.vm.findClass _ = some cA from h2))).symm
theorem d_Ar_copyOf_0 : decode b_Ar_copyOf 0 = .ok (.iload_n 1, 1) := by decide +kernel
theorem d_Ar_copyOf_1 : decode b_Ar_copyOf 1 = .ok (.aload_n 0, 1) := by decide +kernel
theorem d_Ar_copyOf_2 : decode b_Ar_copyOf 2 = .ok (.arraylength, 1) := by decide +kernel
theorem d_Ar_copyOf_3 : decode b_Ar_copyOf 3 = .ok (.if_icmp .ne 11, 3) := by decide +kernel
theorem d_Ar_copyOf_14 : decode b_Ar_copyOf 14 = .ok (.iload_n 1, 1) := by decide +kernel
theorem d_Ar_copyOf_15 : decode b_Ar_copyOf 15 = .ok (.newarray .int, 2) := by decide +kernel
theorem d_Ar_copyOf_17 : decode b_Ar_copyOf 17 = .ok (.astore_n 2, 1) := by decide +kernel
theorem d_Ar_copyOf_18 : decode b_Ar_copyOf 18 = .ok (.aload_n 0, 1) := by decide +kernel
theorem d_Ar_copyOf_19 : decode b_Ar_copyOf 19 = .ok (.iconst 0, 1) := by decide +kernel
theorem d_Ar_copyOf_20 : decode b_Ar_copyOf 20 = .ok (.aload_n 2, 1) := by decide +kernel
theorem d_Ar_copyOf_21 : decode b_Ar_copyOf 21 = .ok (.iconst 0, 1) := by decide +kernel
theorem d_Ar_copyOf_22 : decode b_Ar_copyOf 22 = .ok (.aload_n 0, 1) := by decide +kernel
theorem d_Ar_copyOf_23 : decode b_Ar_copyOf 23 = .ok (.arraylength, 1) := by decide +kernel
theorem d_Ar_copyOf_24 : decode b_Ar_copyOf 24 = .ok (.iload_n 1, 1) := by decide +kernel
theorem d_Ar_copyOf_25 : decode b_Ar_copyOf 25 = .ok (.invokestatic 304, 3) := by decide +kernel
theorem d_Ar_copyOf_28 : decode b_Ar_copyOf 28 = .ok (.invokestatic 150, 3) := by decide +kernel
theorem d_Ar_copyOf_31 : decode b_Ar_copyOf 31 = .ok (.aload_n 2, 1) := by decide +kernel
theorem d_Ar_copyOf_32 : decode b_Ar_copyOf 32 = .ok (.areturn, 1) := by decide +kernel
theorem d_R_reserve_0 : decode b_R_reserve 0 = .ok (.aload_n 0, 1) := by decide +kernel
theorem d_R_reserve_1 : decode b_R_reserve 1 = .ok (.getfield 15, 3) := by decide +kernel
theorem d_R_reserve_4 : decode b_R_reserve 4 = .ok (.arraylength, 1) := by decide +kernel
theorem d_R_reserve_5 : decode b_R_reserve 5 = .ok (.iload_n 1, 1) := by decide +kernel
theorem d_R_reserve_6 : decode b_R_reserve 6 = .ok (.if_icmp .ge 25, 3) := by decide +kernel
theorem d_R_reserve_9 : decode b_R_reserve 9 = .ok (.aload_n 0, 1) := by decide +kernel
theorem d_R_reserve_10 : decode b_R_reserve 10 = .ok (.aload_n 0, 1) := by decide +kernel
theorem d_R_reserve_11 : decode b_R_reserve 11 = .ok (.getfield 15, 3) := by decide +kernel
theorem d_R_reserve_14 : decode b_R_reserve 14 = .ok (.iload_n 1, 1) := by decide +kernel
theorem d_R_reserve_15 : decode b_R_reserve 15 = .ok (.iconst 2, 1) := by decide +kernel
theorem d_R_reserve_16 : decode b_R_reserve 16 = .ok (.aload_n 0, 1) := by decide +kernel
theorem d_R_reserve_17 : decode b_R_reserve 17 = .ok (.getfield 15, 3) := by decide +kernel
theorem d_R_reserve_20 : decode b_R_reserve 20 = .ok (.arraylength, 1) := by decide +kernel
theorem d_R_reserve_21 : decode b_R_reserve 21 = .ok (.imul, 1) := by decide +kernel
theorem d_R_reserve_22 : decode b_R_reserve 22 = .ok (.invokestatic 34, 3) := by decide +kernel
theorem d_R_reserve_25 : decode b_R_reserve 25 = .ok (.invokestatic 40, 3) := by decide +kernel
theorem d_R_reserve_28 : decode b_R_reserve 28 = .ok (.putfield 15, 3) := by decide +kernel
theorem d_R_reserve_31 : decode b_R_reserve 31 = .ok (.return_, 1) := by decide +kernel
set_option maxHeartbeats 4000000 in
set_option maxRecDepth 100000 in
theorem c_Ar_copyOf (l : Launch) (dC : Nat → ClassId) (dI : Nat → Nat → Nat) (cI : ClassId) (o n0 n : Nat) (f : Nat → Int32) (h0 : n0 < n) (hn : n < 2 ^ 27) (sz0 : Nat) : Met l y_Ar_copyOf w_Ar_copyOf ({ frames := 1, cells := 1, slots := n, locals := 60 }) (va_Pc [.ref o, .int (nI n)] (ct_rw (dC, dI) ct_cl [(o, .inl (cI, n0, .inl f))] [(cI, .int)] sz0)) (va_Qr (fun (u : Nat → Int32) => ∀ i, i < n0 → u i = f i) (fun (u : Nat → Int32) (a : Nat) t => ct_at (dC, dI) ct_cl [(cI, .int)] (va_A [(o, .inl (cI, n0, .inl f))] sz0) [(o, .inl (cI, n0, .inl f)), (a, .inl (cI, n, .inl u))] t) (va_A [(o, .inl (cI, n0, .inl f))] sz0)) 1 n (va_A [(o, .inl (cI, n0, .inl f))] sz0) := by
  refine Met.ofW (cc := b_Ar_copyOf) (maxL := 3) (ret := (some (.array .int))) (by decide) rfl ?_
  intro p e s m args below meth c s₁ Bd hml hv
  obtain ⟨hargs, hsz, hP, hK, hD0⟩ := hv
  have hx := Bd.exec
  have hb := Bd.bytes
  have hr := Bd.returns
  have hts : ∀ w ∈ k_Ar_copyOf :: ct_tb, w.before args s = true := atoms_spec (ws := w_Ar_copyOf) Bd.pre
  have hown : s.vm.findClass R_Ar = some m.cls := findClass_of_methodNamed Bd.named
  have hlocks := Bd.notSynchronized
  subst hsz
  have hD := hD0.self (sz := s.heap.size)
  generalize hAe : va_A [(o, .inl (cI, n0, .inl f))] s.heap.size = A at hD ⊢
  have hA : ∀ q : Nat, s.heap.size ≤ q → A q := fun q h => by rw [← hAe]; exact Or.inr h
  have hS : va_S A s.heap s.heap [] := va_S.rf
  have hl := lv_entry ([.ref o, .int (nI n)]) (n := 3) (Nat.le_of_ble_eq_true rfl)
  rw [show entryFrame m args 3 = entryFrame m (([.ref o, .int (nI n)] : List Value)).toArray 3 by rw [hargs], lg_entry_eq]
  generalize (lg_sl ([.ref o, .int (nI n)]) ++ List.replicate (3 - (lg_sl ([.ref o, .int (nI n)])).length) Slot.unset).toArray = ls at hl ⊢
  have hl : lv_has ls 3 [(0, .ref o), (1, .int (nI n))] := hl
  refine lv_iload_n hx hb d_Ar_copyOf_0 rfl (lv_at hl 1 rfl) ?_
  refine lv_aload_n hx hb d_Ar_copyOf_1 rfl (lv_at hl 0 rfl) ?_
  refine va_alen hx hb hK hP 0 0 (v := nI n0) rfl rfl rfl d_Ar_copyOf_2 ?_
  refine lv_icmp_ne (tgt := 14) hx hb d_Ar_copyOf_3 (by decide) (fun _ => ?_) (fun hc9 => absurd hc9 (fun z9 => absurd ((nI_eq (by omega) (by omega)).mp z9) (by omega)))
  refine lv_iload_n hx hb d_Ar_copyOf_14 rfl (lv_at hl 1 rfl) ?_
  refine va_newa (atype := .int) (ty := .int) (a0 := (n, .inl (fun _ => 0))) hx hb (hts _ (ct_tl kw_60)) rfl hK hP hD hS hA (fun _ => rfl) (nI_pos (by omega)) (nI_clamp (by omega)) (by show n * 4 ≤ 536870912; omega) (Nat.le_refl _) (by show 0 + n ≤ n; omega) d_Ar_copyOf_15 (fun q cA H hK9 hP hD hS => ?_)
  rw [ct_cA hK9] at hP hD
  have hP : va_P (dC, dI) ct_cl [(o, .inl (cI, n0, .inl f)), (q, .inl (cI, n, .inl (fun _ => 0)))] H := hP
  have hD : va_D A [(o, .inl (cI, n0, .inl f)), (q, .inl (cI, n, .inl (fun _ => 0)))] := hD
  refine lv_astore_n (lv' := [(2, .ref q), (0, .ref o), (1, .int (nI n))]) hx hb d_Ar_copyOf_17 rfl hl (by decide) rfl (fun ls hl => ?_)
  refine lv_aload_n hx hb d_Ar_copyOf_18 rfl (lv_at hl 1 rfl) ?_
  refine lv_iconst (v := (nI 0)) hx hb d_Ar_copyOf_19 (by decide) ?_
  refine lv_aload_n hx hb d_Ar_copyOf_20 rfl (lv_at hl 0 rfl) ?_
  refine lv_iconst (v := (nI 0)) hx hb d_Ar_copyOf_21 (by decide) ?_
  refine lv_aload_n hx hb d_Ar_copyOf_22 rfl (lv_at hl 1 rfl) ?_
  refine va_alen hx hb hK hP 0 0 (v := nI n0) rfl rfl rfl d_Ar_copyOf_23 ?_
  refine lv_iload_n hx hb d_Ar_copyOf_24 rfl (lv_at hl 2 rfl) ?_
  refine va_mmin hx hb (by rw [hml]; exact hl.1.symm) hown (hts _ (ct_tl kw_492)) (hts _ (ct_tl kw_493)) (hts _ (ct_tl kw_39)) (hts _ (ct_tl kw_494)) (Nat.le_refl _) (Nat.le_of_ble_eq_true rfl) (Nat.le_refl _) (by show 0 + n ≤ n; omega) d_Ar_copyOf_25 ?_
  refine ct_val (y := nI n0) (if_neg (nI_nlt (by omega) (by omega))) ?_
  refine va_copyi (ty := .int) hx hb (by rw [hml]; exact hl.1.symm) hown (hts _ (ct_tl kw_495)) (hts _ (ct_tl kw_497)) (hts _ (ct_tl kw_496)) (hts _ (ct_tl kw_41)) hK hP hD hS 0 1 0 0 rfl rfl rfl rfl rfl (nI_pos (by omega)) (nI_pos (by omega)) (nI_pos (by omega)) (by rw [nI_clamp (by omega), nI_clamp (by omega)]; omega) (by rw [nI_clamp (by omega), nI_clamp (by omega)]; omega) (fun i _ => rfl) (Nat.le_refl _) (show (0 : Nat) + (nativeFrameWords "java/lang/System" "arraycopy" 5 + 11) ≤ 60 by decide +kernel) d_Ar_copyOf_28 (fun H locs hP hD hS => ?_)
  have hP : va_P (dC, dI) ct_cl [(o, .inl (cI, n0, .inl f)), (q, .inl (cI, n, .inl (va_cpy f (fun _ => 0) (nI 0).toNatClampNeg (nI 0).toNatClampNeg (nI n0).toNatClampNeg)))] H := hP
  have hD : va_D A [(o, .inl (cI, n0, .inl f)), (q, .inl (cI, n, .inl (va_cpy f (fun _ => 0) (nI 0).toNatClampNeg (nI 0).toNatClampNeg (nI n0).toNatClampNeg)))] := hD
  refine lv_aload_n hx hb d_Ar_copyOf_31 rfl (lv_at hl 0 rfl) ?_
  refine W.cs (cells' := 1) (slots' := n) rfl (Nat.zero_add n) ?_
  have hP9 := hP.sub [0, 1] rfl
  exact W.aret (v := .ref q) hx hb hr (Or.inr ⟨_, rfl⟩) (Or.inr ⟨q, rfl⟩) (fun tS ht hW => ⟨⟨(va_cpy f (fun _ => 0) (nI 0).toNatClampNeg (nI 0).toNatClampNeg (nI n0).toNatClampNeg), q, rfl, (fun i h9 => by rw [nI_clamp (by omega), nI_clamp (by omega), pk_cpy_in (Nat.zero_le i) (by omega)]; simp), by rw [ht]; exact hP9, va_K.moved hW.alike hK, hD.sub [0, 1] (by decide) rfl⟩, hS.F ht⟩) hS.2.2 d_Ar_copyOf_32
set_option maxHeartbeats 4000000 in
set_option maxRecDepth 100000 in
theorem c_R_reserve_no (l : Launch) (dC : Nat → ClassId) (dI : Nat → Nat → Nat) (cI : ClassId) (z0 r0 r1 r2 r3 r4 r5 r6 : Nat) (N : Nat) (f : Nat → Int32) (len : Nat) (hN : N < 2 ^ 31) (hle : len ≤ N) (sz0 : Nat) : Met l y_R_reserve w_R_reserve ({ frames := 0, cells := 0, slots := 0, locals := 0 }) (va_Pc [.ref r0, .int (nI len)] (ct_rw (dC, dI) ct_cl [(r0, .inr (3, [.ref z0, .ref r1, .ref r2, .ref r3, .ref r4, .ref r5, .ref r6])), (r1, .inl (cI, N, .inl f))] [(cI, .int)] sz0)) (va_Qv (fun (u : Unit) => True) (fun (u : Unit) t => ct_at (dC, dI) ct_cl [(cI, .int)] (va_A [(r0, .inr (3, [.ref z0, .ref r1, .ref r2, .ref r3, .ref r4, .ref r5, .ref r6])), (r1, .inl (cI, N, .inl f))] sz0) [(r0, .inr (3, [.ref z0, .ref r1, .ref r2, .ref r3, .ref r4, .ref r5, .ref r6])), (r1, .inl (cI, N, .inl f))] t) (va_A [(r0, .inr (3, [.ref z0, .ref r1, .ref r2, .ref r3, .ref r4, .ref r5, .ref r6])), (r1, .inl (cI, N, .inl f))] sz0)) 0 0 (va_A [(r0, .inr (3, [.ref z0, .ref r1, .ref r2, .ref r3, .ref r4, .ref r5, .ref r6])), (r1, .inl (cI, N, .inl f))] sz0) := by
  refine Met.ofW (cc := b_R_reserve) (maxL := 2) (ret := none) (by decide) rfl ?_
  intro p e s m args below meth c s₁ Bd hml hv
  obtain ⟨hargs, hsz, hP, hK, hD0⟩ := hv
  have hx := Bd.exec
  have hb := Bd.bytes
  have hr := Bd.returns
  have hts : ∀ w ∈ k_R_reserve :: ct_tb, w.before args s = true := atoms_spec (ws := w_R_reserve) Bd.pre
  have hown : s.vm.findClass R_R = some m.cls := findClass_of_methodNamed Bd.named
  have hlocks := Bd.notSynchronized
  subst hsz
  have hD := hD0.self (sz := s.heap.size)
  generalize hAe : va_A [(r0, .inr (3, [.ref z0, .ref r1, .ref r2, .ref r3, .ref r4, .ref r5, .ref r6])), (r1, .inl (cI, N, .inl f))] s.heap.size = A at hD ⊢
  have hA : ∀ q : Nat, s.heap.size ≤ q → A q := fun q h => by rw [← hAe]; exact Or.inr h
  have hS : va_S A s.heap s.heap [] := va_S.rf
  have hl := lv_entry ([.ref r0, .int (nI len)]) (n := 2) (Nat.le_of_ble_eq_true rfl)
  rw [show entryFrame m args 2 = entryFrame m (([.ref r0, .int (nI len)] : List Value)).toArray 2 by rw [hargs], lg_entry_eq]
  generalize (lg_sl ([.ref r0, .int (nI len)]) ++ List.replicate (2 - (lg_sl ([.ref r0, .int (nI len)])).length) Slot.unset).toArray = ls at hl ⊢
  have hl : lv_has ls 2 [(0, .ref r0), (1, .int (nI len))] := hl
  refine lv_aload_n hx hb d_R_reserve_0 rfl (lv_at hl 0 rfl) ?_
  refine va_get (D := (dC, dI)) (ci := 3) (v := .ref r1) (C := R_R) (T := T_R) (N := 7) hx hb hts (fun w h9 => ct_tl (ki_R w h9)) hown hK hP 0 rfl rfl 1 (by decide) (hts _ (ct_tl kw_93)) (fun _ h9 => h9) rfl d_R_reserve_1 ?_
  refine va_alen hx hb hK hP 1 0 (v := nI N) rfl rfl rfl d_R_reserve_4 ?_
  refine lv_iload_n hx hb d_R_reserve_5 rfl (lv_at hl 1 rfl) ?_
  refine lv_icmp_ge (tgt := 31) hx hb d_R_reserve_6 (by decide) (fun _ => ?_) (fun hc9 => absurd (nI_le hle (by omega)) hc9)
  have hP9 := hP.sub [0, 1] rfl
  exact W.vret hx hb hr (fun tS ht hW => ⟨⟨(), rfl, trivial, by rw [ht]; exact hP9, va_K.moved hW.alike hK, hD.sub [0, 1] (by decide) rfl⟩, hS.F ht⟩) hS.2.2 d_R_reserve_31
theorem ct_max {a b : Nat} (ha : a < 2 ^ 31) (hb : b < 2 ^ 31) : (if nI a < nI b then nI b else nI a) = nI (if a < b then b else a) := by
  by_cases h : a < b
  · rw [if_pos h, if_pos (nI_lt h hb)]
  · rw [if_neg h, if_neg (nI_nlt (by omega) ha)]
set_option maxHeartbeats 4000000 in
set_option maxRecDepth 100000 in
theorem c_R_reserve_up (l : Launch) (dC : Nat → ClassId) (dI : Nat → Nat → Nat) (cI : ClassId) (z0 r0 r1 r2 r3 r4 r5 r6 : Nat) (N : Nat) (f : Nat → Int32) (len M : Nat) (hN : N < 2 ^ 25) (hlt : N < len) (hlen : len < 2 ^ 26) (hM : M = if len < 2 * N then 2 * N else len) (sz0 : Nat) : Met l y_R_reserve w_R_reserve ({ frames := 2, cells := 1, slots := M, locals := 90 }) (va_Pc [.ref r0, .int (nI len)] (ct_rw (dC, dI) ct_cl [(r0, .inr (3, [.ref z0, .ref r1, .ref r2, .ref r3, .ref r4, .ref r5, .ref r6])), (r1, .inl (cI, N, .inl f))] [(cI, .int)] sz0)) (va_Qv (fun (u : Nat × (Nat → Int32)) => ∀ i, i < N → u.2 i = f i) (fun (u : Nat × (Nat → Int32)) t => ct_at (dC, dI) ct_cl [(cI, .int)] (va_A [(r0, .inr (3, [.ref z0, .ref r1, .ref r2, .ref r3, .ref r4, .ref r5, .ref r6])), (r1, .inl (cI, N, .inl f))] sz0) [(r0, .inr (3, [.ref z0, .ref u.1, .ref r2, .ref r3, .ref r4, .ref r5, .ref r6])), (u.1, .inl (cI, M, .inl (u.2)))] t) (va_A [(r0, .inr (3, [.ref z0, .ref r1, .ref r2, .ref r3, .ref r4, .ref r5, .ref r6])), (r1, .inl (cI, N, .inl f))] sz0)) 1 M (va_A [(r0, .inr (3, [.ref z0, .ref r1, .ref r2, .ref r3, .ref r4, .ref r5, .ref r6])), (r1, .inl (cI, N, .inl f))] sz0) := by
  refine Met.ofW (cc := b_R_reserve) (maxL := 2) (ret := none) (by decide) rfl ?_
  intro p e s m args below meth c s₁ Bd hml hv
  obtain ⟨hargs, hsz, hP, hK, hD0⟩ := hv
  have hx := Bd.exec
  have hb := Bd.bytes
  have hr := Bd.returns
  have hts : ∀ w ∈ k_R_reserve :: ct_tb, w.before args s = true := atoms_spec (ws := w_R_reserve) Bd.pre
  have hown : s.vm.findClass R_R = some m.cls := findClass_of_methodNamed Bd.named
  have hlocks := Bd.notSynchronized
  subst hsz
  have hD := hD0.self (sz := s.heap.size)
  generalize hAe : va_A [(r0, .inr (3, [.ref z0, .ref r1, .ref r2, .ref r3, .ref r4, .ref r5, .ref r6])), (r1, .inl (cI, N, .inl f))] s.heap.size = A at hD ⊢
  have hA : ∀ q : Nat, s.heap.size ≤ q → A q := fun q h => by rw [← hAe]; exact Or.inr h
  have hS : va_S A s.heap s.heap [] := va_S.rf
  have hl := lv_entry ([.ref r0, .int (nI len)]) (n := 2) (Nat.le_of_ble_eq_true rfl)
  rw [show entryFrame m args 2 = entryFrame m (([.ref r0, .int (nI len)] : List Value)).toArray 2 by rw [hargs], lg_entry_eq]
  generalize (lg_sl ([.ref r0, .int (nI len)]) ++ List.replicate (2 - (lg_sl ([.ref r0, .int (nI len)])).length) Slot.unset).toArray = ls at hl ⊢
  have hl : lv_has ls 2 [(0, .ref r0), (1, .int (nI len))] := hl
  have hMN : N < M ∧ M < 2 ^ 27 := by
    rw [hM]
    by_cases h9 : len < 2 * N
    · rw [if_pos h9]; omega
    · rw [if_neg h9]; omega
  refine lv_aload_n hx hb d_R_reserve_0 rfl (lv_at hl 0 rfl) ?_
  refine va_get (D := (dC, dI)) (ci := 3) (v := .ref r1) (C := R_R) (T := T_R) (N := 7) hx hb hts (fun w h9 => ct_tl (ki_R w h9)) hown hK hP 0 rfl rfl 1 (by decide) (hts _ (ct_tl kw_93)) (fun _ h9 => h9) rfl d_R_reserve_1 ?_
  refine va_alen hx hb hK hP 1 0 (v := nI N) rfl rfl rfl d_R_reserve_4 ?_
  refine lv_iload_n hx hb d_R_reserve_5 rfl (lv_at hl 1 rfl) ?_
  refine lv_icmp_ge (tgt := 31) hx hb d_R_reserve_6 (by decide) (fun hc9 => absurd hc9 (nI_ge hlt (by omega))) (fun _ => ?_)
  refine lv_aload_n hx hb d_R_reserve_9 rfl (lv_at hl 0 rfl) ?_
  refine lv_aload_n hx hb d_R_reserve_10 rfl (lv_at hl 0 rfl) ?_
  refine va_get (D := (dC, dI)) (ci := 3) (v := .ref r1) (C := R_R) (T := T_R) (N := 7) hx hb hts (fun w h9 => ct_tl (ki_R w h9)) hown hK hP 0 rfl rfl 1 (by decide) (hts _ (ct_tl kw_93)) (fun _ h9 => h9) rfl d_R_reserve_11 ?_
  refine lv_iload_n hx hb d_R_reserve_14 rfl (lv_at hl 1 rfl) ?_
  refine lv_iconst (v := (nI 2)) hx hb d_R_reserve_15 (by decide) ?_
  refine lv_aload_n hx hb d_R_reserve_16 rfl (lv_at hl 0 rfl) ?_
  refine va_get (D := (dC, dI)) (ci := 3) (v := .ref r1) (C := R_R) (T := T_R) (N := 7) hx hb hts (fun w h9 => ct_tl (ki_R w h9)) hown hK hP 0 rfl rfl 1 (by decide) (hts _ (ct_tl kw_93)) (fun _ h9 => h9) rfl d_R_reserve_17 ?_
  refine va_alen hx hb hK hP 1 0 (v := nI N) rfl rfl rfl d_R_reserve_20 ?_
  refine lv_imul hx hb d_R_reserve_21 ?_
  refine ct_val (y := nI (2 * N)) (pk_mul _ _) ?_
  refine va_mmax hx hb (by rw [hml]; exact hl.1.symm) hown (hts _ (ct_tl kw_479)) (hts _ (ct_tl kw_480)) (hts _ (ct_tl kw_39)) (hts _ (ct_tl kw_481)) (Nat.le_of_ble_eq_true rfl) (Nat.le_of_ble_eq_true rfl) (Nat.zero_le _) (Nat.zero_le _) d_R_reserve_22 ?_
  refine ct_val (y := nI M) (by rw [hM]; exact ct_max (by omega) (by omega)) ?_
  have hPc := hP.sub (ws' := [(r1, .inl (cI, N, .inl f))]) [1] rfl
  have hDc := hD.sub (ws' := [(r1, .inl (cI, N, .inl f))]) [1] (by decide) rfl
  have hFc := va_free (wc := [(r1, .inl (cI, N, .inl f))]) hD hS hA [1] rfl
  refine va_callr (va_runS (As := [.ref r1, .int (nI M)]) (rest := [.ref r0]) ⟨hx, hb, hml, hown, hts⟩ (c_Ar_copyOf l dC dI cI r1 N M f hMN.1 hMN.2 s.heap.size) (va_cwS 2 hts (ct_giT (fun w h9 => ct_tl h9) kw_482 kw_483 kw_40 kw_484) rfl rfl rfl (by decide +kernel) ⟨Nat.le_of_ble_eq_true rfl, Nat.le_of_ble_eq_true rfl⟩) ⟨ct_rw_blind, ct_rw_pre hPc hK hDc⟩ rfl rfl hl.1 rfl (lv_room (Nat.le_of_ble_eq_true rfl)) d_R_reserve_25 ⟨Nat.le_refl _, by show 0 + M ≤ M; omega⟩) hS (fun q _ h9 => hFc q h9) hFc (fun f2 q t H1 locs ht hvm hw hB hz1 hk1 hS => ?_)
  obtain ⟨hP1, -, hD1⟩ := hB
  rw [ht] at hP1
  obtain ⟨hP, hD⟩ := va_join (wr := [(r0, .inr (3, [.ref z0, .ref r1, .ref r2, .ref r3, .ref r4, .ref r5, .ref r6]))]) (w1 := [(r1, .inl (cI, N, .inl f)), (q, .inl (cI, M, .inl f2))]) hP hD [1] [0] rfl rfl (by decide) (by decide) hk1 hFc hP1 hD1
  generalize H1 = H at hP hS ⊢
  have hP : va_P (dC, dI) ct_cl [(r0, .inr (3, [.ref z0, .ref r1, .ref r2, .ref r3, .ref r4, .ref r5, .ref r6])), (r1, .inl (cI, N, .inl f)), (q, .inl (cI, M, .inl f2))] H := hP
  have hD : va_D A [(r0, .inr (3, [.ref z0, .ref r1, .ref r2, .ref r3, .ref r4, .ref r5, .ref r6])), (r1, .inl (cI, N, .inl f)), (q, .inl (cI, M, .inl f2))] := hD
  refine va_put (D := (dC, dI)) (ci := 3) (v := .ref q) (ty := .array .int) (C := R_R) (T := T_R) (N := 7) hx hb hts (fun w h9 => ct_tl (ki_R w h9)) ty_R ok_R nm_R hown hK hP hD hS 0 rfl rfl 1 (by decide) (hts _ (ct_tl kw_93)) (fun _ h9 => h9) rfl (by decide +kernel) rfl rfl (Nat.le_of_ble_eq_true rfl) d_R_reserve_28 (fun H locs hP hD hS => ?_)
  have hP : va_P (dC, dI) ct_cl [(r0, .inr (3, [.ref z0, .ref q, .ref r2, .ref r3, .ref r4, .ref r5, .ref r6])), (r1, .inl (cI, N, .inl f)), (q, .inl (cI, M, .inl f2))] H := hP
  have hD : va_D A [(r0, .inr (3, [.ref z0, .ref q, .ref r2, .ref r3, .ref r4, .ref r5, .ref r6])), (r1, .inl (cI, N, .inl f)), (q, .inl (cI, M, .inl f2))] := hD
  refine W.cs (cells' := 1) (slots' := M) rfl (Nat.zero_add M) ?_
  have hP9 := hP.sub [0, 2] rfl
  exact W.vret hx hb hr (fun tS ht hW => ⟨⟨(q, f2), rfl, hw, by rw [ht]; exact hP9, va_K.moved hW.alike hK, hD.sub [0, 2] (by decide) rfl⟩, hS.F ht⟩) hS.2.2 d_R_reserve_31
end
section
theorem ct_nm1 : ∀ k, k < 8 → ¬ (nI k = -1) := by decide +kernel
theorem ct_2lt : ∀ k, k < 8 → 2 ^ k < 256 := by decide +kernel
def ct_mf (x y : Int32) : Bool := decide (y = -1) || (!decide (x = -1) && !decide (y ≤ x) && !decide (nI 8 ≤ y))
def ct_al (a b d : Int32) : Bool := !decide (a < -1) && !decide (nI 8 ≤ a) && ct_mf a b && ct_mf b d
/-- a label as a bit, none as 0 -/
def ct_lb (x : Int32) : Nat := if x = -1 then 0 else 2 ^ x.toNatClampNeg
def ct_isl (x : Int32) : Prop := x = -1 ∨ ∃ k : Nat, k < 8 ∧ x = nI k
theorem ct_lb_lt {x : Int32} (h : ct_isl x) : ct_lb x < 256 := by
  rcases h with h | ⟨k, hk, h⟩
  · rw [ct_lb, if_pos h]; omega
  · rw [ct_lb, if_neg (by rw [h]; exact ct_nm1 k hk), h, nI_clamp (by omega)]
    exact ct_2lt k hk
theorem ct_isl_of {x : Int32} (h1 : ¬ x < -1) (h2 : ¬ nI 8 ≤ x) : ct_isl x := by
  by_cases h0 : x < 0
  · left
    have e1 := Int32.lt_iff_toInt_lt.mp h0
    have e2 : ¬ x.toInt < (-1 : Int32).toInt := fun z => h1 (Int32.lt_iff_toInt_lt.mpr z)
    apply Int32.toInt_inj.mp
    have e3 : (-1 : Int32).toInt = -1 := by decide
    have e4 : (0 : Int32).toInt = 0 := by decide
    omega
  · right
    obtain ⟨j, hj, rfl⟩ := nI_of h0
    refine ⟨j, ?_, rfl⟩
    rcases Nat.lt_or_ge j 8 with h | h
    · exact h
    · exact absurd (nI_le h (by omega)) h2
theorem ct_mf_isl {x y : Int32} (hx : ct_isl x) (h : ct_mf x y = true) : ct_isl y := by
  by_cases h1 : y = -1
  · exact Or.inl h1
  · have h : (¬ x = -1 ∧ ¬ y ≤ x) ∧ ¬ nI 8 ≤ y := by simpa [ct_mf, h1] using h
    refine ct_isl_of (fun z => ?_) h.2
    rcases hx with hx | ⟨k, hk, hx⟩
    · exact h.1.1 hx
    · refine h.1.2 ?_
      rw [hx]
      apply Int32.le_iff_toInt_le.mpr
      have e1 := Int32.lt_iff_toInt_lt.mp z
      have e3 : (-1 : Int32).toInt = -1 := by decide
      rw [nI_toInt (by omega)]
      omega
theorem ct_al_isl {a b d : Int32} (h : ct_al a b d = true) : ct_isl a ∧ ct_isl b ∧ ct_isl d := by
  have h : ((¬ a < -1 ∧ ¬ nI 8 ≤ a) ∧ ct_mf a b = true) ∧ ct_mf b d = true := by simpa [ct_al] using h
  have h1 := ct_isl_of h.1.1.1 h.1.1.2
  have h2 := ct_mf_isl h1 h.1.2
  exact ⟨h1, h2, ct_mf_isl h2 h.2⟩
def ct_lbs (a b d : Int32) : Nat := ct_lb a ||| ct_lb b ||| ct_lb d
theorem ct_lbs_lt {a b d : Int32} (h : ct_al a b d = true) : ct_lbs a b d < 256 := Nat.or_lt_two_pow (n := 8) (Nat.or_lt_two_pow (n := 8) (ct_lb_lt (ct_al_isl h).1) (ct_lb_lt (ct_al_isl h).2.1)) (ct_lb_lt (ct_al_isl h).2.2)
/-- x is the number of one of the first n -/
def ct_isn (n : Nat) (x : Int32) : Bool := !decide (x < 0) && !decide (nI n ≤ x)
theorem ct_isn_of {n : Nat} {x : Int32} (hn : n < 2 ^ 31) (h : ct_isn n x = true) : ∃ j : Nat, j < n ∧ x = nI j := by
  have h : ¬ x < 0 ∧ ¬ nI n ≤ x := by simpa [ct_isn] using h
  rcases pk_ix x hn with h1 | h1 | h1
  · exact absurd h1 h.1
  · exact absurd h1 h.2
  · exact h1
theorem ct_isn_nI {n j : Nat} (hn : n < 2 ^ 31) (h : j < n) : ct_isn n (nI j) = true := by
  have h1 := nI_pos (n := j) (by omega)
  have h2 := nI_ge h hn
  simp [ct_isn, h1, h2]
/-- one of the first n tables has label k -/
def ct_any (lab : Nat → Nat) (k : Nat) : Nat → Bool
  | 0 => false
  | n + 1 => ct_any lab k n || (lab n).testBit k
theorem d_H_mayFollow_0 : decode b_H_mayFollow 0 = .ok (.iload_n 1, 1) := by decide +kernel
theorem d_H_mayFollow_1 : decode b_H_mayFollow 1 = .ok (.iconst (-1), 1) := by decide +kernel
theorem d_H_mayFollow_2 : decode b_H_mayFollow 2 = .ok (.if_icmp .eq 19, 3) := by decide +kernel
theorem d_H_mayFollow_5 : decode b_H_mayFollow 5 = .ok (.iload_n 0, 1) := by decide +kernel
theorem d_H_mayFollow_6 : decode b_H_mayFollow 6 = .ok (.iconst (-1), 1) := by decide +kernel
theorem d_H_mayFollow_7 : decode b_H_mayFollow 7 = .ok (.if_icmp .eq 18, 3) := by decide +kernel
theorem d_H_mayFollow_10 : decode b_H_mayFollow 10 = .ok (.iload_n 1, 1) := by decide +kernel
theorem d_H_mayFollow_11 : decode b_H_mayFollow 11 = .ok (.iload_n 0, 1) := by decide +kernel
theorem d_H_mayFollow_12 : decode b_H_mayFollow 12 = .ok (.if_icmp .le 13, 3) := by decide +kernel
theorem d_H_mayFollow_15 : decode b_H_mayFollow 15 = .ok (.iload_n 1, 1) := by decide +kernel
theorem d_H_mayFollow_16 : decode b_H_mayFollow 16 = .ok (.bipush 8, 2) := by decide +kernel
theorem d_H_mayFollow_18 : decode b_H_mayFollow 18 = .ok (.if_icmp .ge 7, 3) := by decide +kernel
theorem d_H_mayFollow_21 : decode b_H_mayFollow 21 = .ok (.iconst 1, 1) := by decide +kernel
theorem d_H_mayFollow_22 : decode b_H_mayFollow 22 = .ok (.goto 4, 3) := by decide +kernel
theorem d_H_mayFollow_25 : decode b_H_mayFollow 25 = .ok (.iconst 0, 1) := by decide +kernel
theorem d_H_mayFollow_26 : decode b_H_mayFollow 26 = .ok (.ireturn, 1) := by decide +kernel
theorem d_H_areLabels_0 : decode b_H_areLabels 0 = .ok (.iload_n 0, 1) := by decide +kernel
theorem d_H_areLabels_1 : decode b_H_areLabels 1 = .ok (.iconst (-1), 1) := by decide +kernel
theorem d_H_areLabels_2 : decode b_H_areLabels 2 = .ok (.if_icmp .lt 29, 3) := by decide +kernel
theorem d_H_areLabels_5 : decode b_H_areLabels 5 = .ok (.iload_n 0, 1) := by decide +kernel
theorem d_H_areLabels_6 : decode b_H_areLabels 6 = .ok (.bipush 8, 2) := by decide +kernel
theorem d_H_areLabels_8 : decode b_H_areLabels 8 = .ok (.if_icmp .ge 23, 3) := by decide +kernel
theorem d_H_areLabels_11 : decode b_H_areLabels 11 = .ok (.iload_n 0, 1) := by decide +kernel
theorem d_H_areLabels_12 : decode b_H_areLabels 12 = .ok (.iload_n 1, 1) := by decide +kernel
theorem d_H_areLabels_13 : decode b_H_areLabels 13 = .ok (.invokestatic 160, 3) := by decide +kernel
theorem d_H_areLabels_16 : decode b_H_areLabels 16 = .ok (.ifCond .eq 15, 3) := by decide +kernel
theorem d_H_areLabels_19 : decode b_H_areLabels 19 = .ok (.iload_n 1, 1) := by decide +kernel
theorem d_H_areLabels_20 : decode b_H_areLabels 20 = .ok (.iload_n 2, 1) := by decide +kernel
theorem d_H_areLabels_21 : decode b_H_areLabels 21 = .ok (.invokestatic 160, 3) := by decide +kernel
theorem d_H_areLabels_24 : decode b_H_areLabels 24 = .ok (.ifCond .eq 7, 3) := by decide +kernel
theorem d_H_areLabels_27 : decode b_H_areLabels 27 = .ok (.iconst 1, 1) := by decide +kernel
theorem d_H_areLabels_28 : decode b_H_areLabels 28 = .ok (.goto 4, 3) := by decide +kernel
theorem d_H_areLabels_31 : decode b_H_areLabels 31 = .ok (.iconst 0, 1) := by decide +kernel
theorem d_H_areLabels_32 : decode b_H_areLabels 32 = .ok (.ireturn, 1) := by decide +kernel
theorem d_H_labelBit_0 : decode b_H_labelBit 0 = .ok (.iload_n 0, 1) := by decide +kernel
theorem d_H_labelBit_1 : decode b_H_labelBit 1 = .ok (.iconst (-1), 1) := by decide +kernel
theorem d_H_labelBit_2 : decode b_H_labelBit 2 = .ok (.if_icmp .ne 7, 3) := by decide +kernel
theorem d_H_labelBit_5 : decode b_H_labelBit 5 = .ok (.iconst 0, 1) := by decide +kernel
theorem d_H_labelBit_6 : decode b_H_labelBit 6 = .ok (.goto 6, 3) := by decide +kernel
theorem d_H_labelBit_9 : decode b_H_labelBit 9 = .ok (.iconst 1, 1) := by decide +kernel
theorem d_H_labelBit_10 : decode b_H_labelBit 10 = .ok (.iload_n 0, 1) := by decide +kernel
theorem d_H_labelBit_11 : decode b_H_labelBit 11 = .ok (.ishl, 1) := by decide +kernel
theorem d_H_labelBit_12 : decode b_H_labelBit 12 = .ok (.ireturn, 1) := by decide +kernel
theorem d_H_labelBits_0 : decode b_H_labelBits 0 = .ok (.iload_n 0, 1) := by decide +kernel
theorem d_H_labelBits_1 : decode b_H_labelBits 1 = .ok (.invokestatic 164, 3) := by decide +kernel
theorem d_H_labelBits_4 : decode b_H_labelBits 4 = .ok (.iload_n 1, 1) := by decide +kernel
theorem d_H_labelBits_5 : decode b_H_labelBits 5 = .ok (.invokestatic 164, 3) := by decide +kernel
theorem d_H_labelBits_8 : decode b_H_labelBits 8 = .ok (.ior, 1) := by decide +kernel
theorem d_H_labelBits_9 : decode b_H_labelBits 9 = .ok (.iload_n 2, 1) := by decide +kernel
theorem d_H_labelBits_10 : decode b_H_labelBits 10 = .ok (.invokestatic 164, 3) := by decide +kernel
theorem d_H_labelBits_13 : decode b_H_labelBits 13 = .ok (.ior, 1) := by decide +kernel
theorem d_H_labelBits_14 : decode b_H_labelBits 14 = .ok (.ireturn, 1) := by decide +kernel
theorem d_H_homeOfTable_0 : decode b_H_homeOfTable 0 = .ok (.iload_n 0, 1) := by decide +kernel
theorem d_H_homeOfTable_1 : decode b_H_homeOfTable 1 = .ok (.bipush 27, 2) := by decide +kernel
theorem d_H_homeOfTable_3 : decode b_H_homeOfTable 3 = .ok (.imul, 1) := by decide +kernel
theorem d_H_homeOfTable_4 : decode b_H_homeOfTable 4 = .ok (.ireturn, 1) := by decide +kernel
theorem d_H_isTable_0 : decode b_H_isTable 0 = .ok (.iload_n 1, 1) := by decide +kernel
theorem d_H_isTable_1 : decode b_H_isTable 1 = .ok (.ifCond .lt 15, 3) := by decide +kernel
theorem d_H_isTable_4 : decode b_H_isTable 4 = .ok (.iload_n 1, 1) := by decide +kernel
theorem d_H_isTable_5 : decode b_H_isTable 5 = .ok (.aload_n 0, 1) := by decide +kernel
theorem d_H_isTable_6 : decode b_H_isTable 6 = .ok (.getfield 77, 3) := by decide +kernel
theorem d_H_isTable_9 : decode b_H_isTable 9 = .ok (.if_icmp .ge 7, 3) := by decide +kernel
theorem d_H_isTable_12 : decode b_H_isTable 12 = .ok (.iconst 1, 1) := by decide +kernel
theorem d_H_isTable_13 : decode b_H_isTable 13 = .ok (.goto 4, 3) := by decide +kernel
theorem d_H_isTable_16 : decode b_H_isTable 16 = .ok (.iconst 0, 1) := by decide +kernel
theorem d_H_isTable_17 : decode b_H_isTable 17 = .ok (.ireturn, 1) := by decide +kernel
theorem d_H_aTableHas_0 : decode b_H_aTableHas 0 = .ok (.iconst 0, 1) := by decide +kernel
theorem d_H_aTableHas_1 : decode b_H_aTableHas 1 = .ok (.istore_n 2, 1) := by decide +kernel
theorem d_H_aTableHas_2 : decode b_H_aTableHas 2 = .ok (.iload_n 2, 1) := by decide +kernel
theorem d_H_aTableHas_3 : decode b_H_aTableHas 3 = .ok (.aload_n 0, 1) := by decide +kernel
theorem d_H_aTableHas_4 : decode b_H_aTableHas 4 = .ok (.getfield 77, 3) := by decide +kernel
theorem d_H_aTableHas_7 : decode b_H_aTableHas 7 = .ok (.if_icmp .ge 25, 3) := by decide +kernel
theorem d_H_aTableHas_10 : decode b_H_aTableHas 10 = .ok (.aload_n 0, 1) := by decide +kernel
theorem d_H_aTableHas_11 : decode b_H_aTableHas 11 = .ok (.getfield 32, 3) := by decide +kernel
theorem d_H_aTableHas_14 : decode b_H_aTableHas 14 = .ok (.iload_n 2, 1) := by decide +kernel
theorem d_H_aTableHas_15 : decode b_H_aTableHas 15 = .ok (.iaload, 1) := by decide +kernel
theorem d_H_aTableHas_16 : decode b_H_aTableHas 16 = .ok (.iload_n 1, 1) := by decide +kernel
theorem d_H_aTableHas_17 : decode b_H_aTableHas 17 = .ok (.invokestatic 164, 3) := by decide +kernel
theorem d_H_aTableHas_20 : decode b_H_aTableHas 20 = .ok (.iand, 1) := by decide +kernel
theorem d_H_aTableHas_21 : decode b_H_aTableHas 21 = .ok (.ifCond .eq 5, 3) := by decide +kernel
theorem d_H_aTableHas_24 : decode b_H_aTableHas 24 = .ok (.iconst 1, 1) := by decide +kernel
theorem d_H_aTableHas_25 : decode b_H_aTableHas 25 = .ok (.ireturn, 1) := by decide +kernel
theorem d_H_aTableHas_26 : decode b_H_aTableHas 26 = .ok (.iinc 2 1, 3) := by decide +kernel
theorem d_H_aTableHas_29 : decode b_H_aTableHas 29 = .ok (.goto (-27), 3) := by decide +kernel
theorem d_H_aTableHas_32 : decode b_H_aTableHas 32 = .ok (.iconst 0, 1) := by decide +kernel
theorem d_H_aTableHas_33 : decode b_H_aTableHas 33 = .ok (.ireturn, 1) := by decide +kernel
theorem d_H_allOperands_0 : decode b_H_allOperands 0 = .ok (.iconst 1, 1) := by decide +kernel
theorem d_H_allOperands_1 : decode b_H_allOperands 1 = .ok (.aload_n 0, 1) := by decide +kernel
theorem d_H_allOperands_2 : decode b_H_allOperands 2 = .ok (.getfield 110, 3) := by decide +kernel
theorem d_H_allOperands_5 : decode b_H_allOperands 5 = .ok (.ishl, 1) := by decide +kernel
theorem d_H_allOperands_6 : decode b_H_allOperands 6 = .ok (.iconst 1, 1) := by decide +kernel
theorem d_H_allOperands_7 : decode b_H_allOperands 7 = .ok (.isub, 1) := by decide +kernel
theorem d_H_allOperands_8 : decode b_H_allOperands 8 = .ok (.ireturn, 1) := by decide +kernel
theorem d_H_countSteps_0 : decode b_H_countSteps 0 = .ok (.aload_n 0, 1) := by decide +kernel
theorem d_H_countSteps_1 : decode b_H_countSteps 1 = .ok (.getfield 110, 3) := by decide +kernel
theorem d_H_countSteps_4 : decode b_H_countSteps 4 = .ok (.iconst 2, 1) := by decide +kernel
theorem d_H_countSteps_5 : decode b_H_countSteps 5 = .ok (.if_icmp .ge 7, 3) := by decide +kernel
theorem d_H_countSteps_8 : decode b_H_countSteps 8 = .ok (.iconst 0, 1) := by decide +kernel
theorem d_H_countSteps_9 : decode b_H_countSteps 9 = .ok (.goto 9, 3) := by decide +kernel
theorem d_H_countSteps_12 : decode b_H_countSteps 12 = .ok (.aload_n 0, 1) := by decide +kernel
theorem d_H_countSteps_13 : decode b_H_countSteps 13 = .ok (.getfield 110, 3) := by decide +kernel
theorem d_H_countSteps_16 : decode b_H_countSteps 16 = .ok (.iconst 1, 1) := by decide +kernel
theorem d_H_countSteps_17 : decode b_H_countSteps 17 = .ok (.isub, 1) := by decide +kernel
theorem d_H_countSteps_18 : decode b_H_countSteps 18 = .ok (.ireturn, 1) := by decide +kernel
theorem d_H_forgetPlan_0 : decode b_H_forgetPlan 0 = .ok (.aload_n 0, 1) := by decide +kernel
theorem d_H_forgetPlan_1 : decode b_H_forgetPlan 1 = .ok (.iconst 0, 1) := by decide +kernel
theorem d_H_forgetPlan_2 : decode b_H_forgetPlan 2 = .ok (.putfield 167, 3) := by decide +kernel
theorem d_H_forgetPlan_5 : decode b_H_forgetPlan 5 = .ok (.aload_n 0, 1) := by decide +kernel
theorem d_H_forgetPlan_6 : decode b_H_forgetPlan 6 = .ok (.iconst 0, 1) := by decide +kernel
theorem d_H_forgetPlan_7 : decode b_H_forgetPlan 7 = .ok (.putfield 67, 3) := by decide +kernel
theorem d_H_forgetPlan_10 : decode b_H_forgetPlan 10 = .ok (.return_, 1) := by decide +kernel
set_option maxHeartbeats 4000000 in
set_option maxRecDepth 100000 in
theorem c_H_mayFollow (l : Launch) (dC : Nat → ClassId) (dI : Nat → Nat → Nat) (cI : ClassId) (x y : Int32) : Met l y_H_mayFollow w_H_mayFollow ({ frames := 0, cells := 0, slots := 0, locals := 0 }) (va_Pc [.int x, .int y] (ct_ro (dC, dI) ct_cl [] [(cI, .int)])) (ct_qi (fun r => r = nI (if ct_mf x y = true then 1 else 0))) 0 0 (fun _ => False) := by
  refine Met.ofW (cc := b_H_mayFollow) (maxL := 2) (ret := (some .boolean)) (by decide) rfl ?_
  intro p e s m args below meth c s₁ Bd hml hv
  obtain ⟨hargs, hP, hK⟩ := hv
  have hx := Bd.exec
  have hb := Bd.bytes
  have hr := Bd.returns
  have hts : ∀ w ∈ k_H_mayFollow :: ct_tb, w.before args s = true := atoms_spec (ws := w_H_mayFollow) Bd.pre
  have hown : s.vm.findClass R_H = some m.cls := findClass_of_methodNamed Bd.named
  have hlocks := Bd.notSynchronized
  have hS : va_S (fun _ => False) s.heap s.heap [] := va_S.rf
  have hl := lv_entry ([.int x, .int y]) (n := 2) (Nat.le_of_ble_eq_true rfl)
  rw [show entryFrame m args 2 = entryFrame m (([.int x, .int y] : List Value)).toArray 2 by rw [hargs], lg_entry_eq]
  generalize (lg_sl ([.int x, .int y]) ++ List.replicate (2 - (lg_sl ([.int x, .int y])).length) Slot.unset).toArray = ls at hl ⊢
  have hl : lv_has ls 2 [(0, .int x), (1, .int y)] := hl
  by_cases h1 : y = -1
  · refine lv_iload_n hx hb d_H_mayFollow_0 rfl (lv_at hl 1 rfl) ?_
    refine lv_iconst (v := (-1)) hx hb d_H_mayFollow_1 (by decide) ?_
    refine lv_icmp_eq (tgt := 21) hx hb d_H_mayFollow_2 (by decide) (fun _ => ?_) (fun hc9 => absurd (h1) hc9)
    refine lv_iconst (v := (nI 1)) hx hb d_H_mayFollow_21 (by decide) ?_
    refine lv_goto (tgt := 26) hx hb d_H_mayFollow_22 (by decide) ?_
    exact W.zret (v := (nI 1)) hx hb hr (by first | rfl | decide) (fun tS ht hW => ⟨⟨(nI 1), (), rfl, by rw [if_pos (by simp [ct_mf, h1])], trivial⟩, hS.F ht⟩) hS.2.2 d_H_mayFollow_26
  · refine lv_iload_n hx hb d_H_mayFollow_0 rfl (lv_at hl 1 rfl) ?_
    refine lv_iconst (v := (-1)) hx hb d_H_mayFollow_1 (by decide) ?_
    refine lv_icmp_eq (tgt := 21) hx hb d_H_mayFollow_2 (by decide) (fun hc9 => absurd hc9 (h1)) (fun _ => ?_)
    by_cases h2 : x = -1
    · refine lv_iload_n hx hb d_H_mayFollow_5 rfl (lv_at hl 0 rfl) ?_
      refine lv_iconst (v := (-1)) hx hb d_H_mayFollow_6 (by decide) ?_
      refine lv_icmp_eq (tgt := 25) hx hb d_H_mayFollow_7 (by decide) (fun _ => ?_) (fun hc9 => absurd (h2) hc9)
      refine lv_iconst (v := (nI 0)) hx hb d_H_mayFollow_25 (by decide) ?_
      exact W.zret (v := (nI 0)) hx hb hr (by first | rfl | decide) (fun tS ht hW => ⟨⟨(nI 0), (), rfl, by rw [if_neg (by simp [ct_mf, h1, h2])], trivial⟩, hS.F ht⟩) hS.2.2 d_H_mayFollow_26
    · refine lv_iload_n hx hb d_H_mayFollow_5 rfl (lv_at hl 0 rfl) ?_
      refine lv_iconst (v := (-1)) hx hb d_H_mayFollow_6 (by decide) ?_
      refine lv_icmp_eq (tgt := 25) hx hb d_H_mayFollow_7 (by decide) (fun hc9 => absurd hc9 (h2)) (fun _ => ?_)
      by_cases h3 : y ≤ x
      · refine lv_iload_n hx hb d_H_mayFollow_10 rfl (lv_at hl 1 rfl) ?_
        refine lv_iload_n hx hb d_H_mayFollow_11 rfl (lv_at hl 0 rfl) ?_
        refine lv_icmp_le (tgt := 25) hx hb d_H_mayFollow_12 (by decide) (fun _ => ?_) (fun hc9 => absurd (h3) hc9)
        refine lv_iconst (v := (nI 0)) hx hb d_H_mayFollow_25 (by decide) ?_
        exact W.zret (v := (nI 0)) hx hb hr (by first | rfl | decide) (fun tS ht hW => ⟨⟨(nI 0), (), rfl, by rw [if_neg (by simp [ct_mf, h1, h2, h3])], trivial⟩, hS.F ht⟩) hS.2.2 d_H_mayFollow_26
      · refine lv_iload_n hx hb d_H_mayFollow_10 rfl (lv_at hl 1 rfl) ?_
        refine lv_iload_n hx hb d_H_mayFollow_11 rfl (lv_at hl 0 rfl) ?_
        refine lv_icmp_le (tgt := 25) hx hb d_H_mayFollow_12 (by decide) (fun hc9 => absurd hc9 (h3)) (fun _ => ?_)
        by_cases h4 : nI 8 ≤ y
        · refine lv_iload_n hx hb d_H_mayFollow_15 rfl (lv_at hl 1 rfl) ?_
          refine lv_bipush (v := (nI 8)) hx hb d_H_mayFollow_16 (by decide) ?_
          refine lv_icmp_ge (tgt := 25) hx hb d_H_mayFollow_18 (by decide) (fun _ => ?_) (fun hc9 => absurd (h4) hc9)
          refine lv_iconst (v := (nI 0)) hx hb d_H_mayFollow_25 (by decide) ?_
          exact W.zret (v := (nI 0)) hx hb hr (by first | rfl | decide) (fun tS ht hW => ⟨⟨(nI 0), (), rfl, by rw [if_neg (by simp [ct_mf, h1, h2, h3, h4])], trivial⟩, hS.F ht⟩) hS.2.2 d_H_mayFollow_26
        · refine lv_iload_n hx hb d_H_mayFollow_15 rfl (lv_at hl 1 rfl) ?_
          refine lv_bipush (v := (nI 8)) hx hb d_H_mayFollow_16 (by decide) ?_
          refine lv_icmp_ge (tgt := 25) hx hb d_H_mayFollow_18 (by decide) (fun hc9 => absurd hc9 (h4)) (fun _ => ?_)
          refine lv_iconst (v := (nI 1)) hx hb d_H_mayFollow_21 (by decide) ?_
          refine lv_goto (tgt := 26) hx hb d_H_mayFollow_22 (by decide) ?_
          exact W.zret (v := (nI 1)) hx hb hr (by first | rfl | decide) (fun tS ht hW => ⟨⟨(nI 1), (), rfl, by rw [if_pos (by simp [ct_mf, h1, h2, h3, h4])], trivial⟩, hS.F ht⟩) hS.2.2 d_H_mayFollow_26
set_option maxHeartbeats 4000000 in
set_option maxRecDepth 100000 in
theorem c_H_areLabels (l : Launch) (dC : Nat → ClassId) (dI : Nat → Nat → Nat) (cI : ClassId) (a b d : Int32) : Met l y_H_areLabels w_H_areLabels ({ frames := 1, cells := 0, slots := 0, locals := 21 }) (va_Pc [.int a, .int b, .int d] (ct_ro (dC, dI) ct_cl [] [(cI, .int)])) (ct_qi (fun r => r = nI (if ct_al a b d = true then 1 else 0))) 0 0 (fun _ => False) := by
  refine Met.ofW (cc := b_H_areLabels) (maxL := 3) (ret := (some .boolean)) (by decide) rfl ?_
  intro p e s m args below meth c s₁ Bd hml hv
  obtain ⟨hargs, hP, hK⟩ := hv
  have hx := Bd.exec
  have hb := Bd.bytes
  have hr := Bd.returns
  have hts : ∀ w ∈ k_H_areLabels :: ct_tb, w.before args s = true := atoms_spec (ws := w_H_areLabels) Bd.pre
  have hown : s.vm.findClass R_H = some m.cls := findClass_of_methodNamed Bd.named
  have hlocks := Bd.notSynchronized
  have hS : va_S (fun _ => False) s.heap s.heap [] := va_S.rf
  have hl := lv_entry ([.int a, .int b, .int d]) (n := 3) (Nat.le_of_ble_eq_true rfl)
  rw [show entryFrame m args 3 = entryFrame m (([.int a, .int b, .int d] : List Value)).toArray 3 by rw [hargs], lg_entry_eq]
  generalize (lg_sl ([.int a, .int b, .int d]) ++ List.replicate (3 - (lg_sl ([.int a, .int b, .int d])).length) Slot.unset).toArray = ls at hl ⊢
  have hl : lv_has ls 3 [(0, .int a), (1, .int b), (2, .int d)] := hl
  by_cases h1 : a < -1
  · refine lv_iload_n hx hb d_H_areLabels_0 rfl (lv_at hl 0 rfl) ?_
    refine lv_iconst (v := (-1)) hx hb d_H_areLabels_1 (by decide) ?_
    refine lv_icmp_lt (tgt := 31) hx hb d_H_areLabels_2 (by decide) (fun _ => ?_) (fun hc9 => absurd (h1) hc9)
    refine lv_iconst (v := (nI 0)) hx hb d_H_areLabels_31 (by decide) ?_
    exact W.zret (v := (nI 0)) hx hb hr (by first | rfl | decide) (fun tS ht hW => ⟨⟨(nI 0), (), rfl, by rw [if_neg (by simp [ct_al, h1])], trivial⟩, hS.F ht⟩) hS.2.2 d_H_areLabels_32
  · refine lv_iload_n hx hb d_H_areLabels_0 rfl (lv_at hl 0 rfl) ?_
    refine lv_iconst (v := (-1)) hx hb d_H_areLabels_1 (by decide) ?_
    refine lv_icmp_lt (tgt := 31) hx hb d_H_areLabels_2 (by decide) (fun hc9 => absurd hc9 (h1)) (fun _ => ?_)
    by_cases h2 : nI 8 ≤ a
    · refine lv_iload_n hx hb d_H_areLabels_5 rfl (lv_at hl 0 rfl) ?_
      refine lv_bipush (v := (nI 8)) hx hb d_H_areLabels_6 (by decide) ?_
      refine lv_icmp_ge (tgt := 31) hx hb d_H_areLabels_8 (by decide) (fun _ => ?_) (fun hc9 => absurd (h2) hc9)
      refine lv_iconst (v := (nI 0)) hx hb d_H_areLabels_31 (by decide) ?_
      exact W.zret (v := (nI 0)) hx hb hr (by first | rfl | decide) (fun tS ht hW => ⟨⟨(nI 0), (), rfl, by rw [if_neg (by simp [ct_al, h2])], trivial⟩, hS.F ht⟩) hS.2.2 d_H_areLabels_32
    · refine lv_iload_n hx hb d_H_areLabels_5 rfl (lv_at hl 0 rfl) ?_
      refine lv_bipush (v := (nI 8)) hx hb d_H_areLabels_6 (by decide) ?_
      refine lv_icmp_ge (tgt := 31) hx hb d_H_areLabels_8 (by decide) (fun hc9 => absurd hc9 (h2)) (fun _ => ?_)
      refine lv_iload_n hx hb d_H_areLabels_11 rfl (lv_at hl 0 rfl) ?_
      refine lv_iload_n hx hb d_H_areLabels_12 rfl (lv_at hl 1 rfl) ?_
      refine va_calli (va_runS (As := [.int a, .int b]) (rest := []) ⟨hx, hb, hml, hown, hts⟩ (c_H_mayFollow l dC dI cI a b) (va_cwS 2 hts (ct_giT (fun w h9 => ct_tl h9) kw_333 kw_334 kw_26 kw_335) rfl rfl rfl (by decide +kernel) ⟨Nat.le_of_ble_eq_true rfl, Nat.le_of_ble_eq_true rfl⟩) ⟨ct_ro_blind, ct_ro_pre (hP.sub [] rfl) hK⟩ rfl rfl hl.1 rfl (lv_room (Nat.le_of_ble_eq_true rfl)) d_H_areLabels_13 ⟨Nat.le_of_ble_eq_true rfl, Nat.le_of_ble_eq_true rfl⟩) hS (fun q _ h9 => h9.elim) (fun q h9 => h9.elim) (fun ans201 uS tS H locs ht hvm hwans201 hB hz1 hk1 hS => ?_)
      have hP := ct_keep hP hk1
      refine ct_val (y := nI (if ct_mf a b = true then 1 else 0)) (hwans201) ?_
      by_cases h3 : ct_mf a b = true
      · rw [if_pos h3]
        refine lv_if_eq (tgt := 31) hx hb d_H_areLabels_16 (by decide) (fun hc9 => absurd hc9 (nI_ne0 (by omega) (by omega))) (fun _ => ?_)
        refine lv_iload_n hx hb d_H_areLabels_19 rfl (lv_at hl 1 rfl) ?_
        refine lv_iload_n hx hb d_H_areLabels_20 rfl (lv_at hl 2 rfl) ?_
        refine va_calli (va_runS (As := [.int b, .int d]) (rest := []) ⟨hx, hb, hml, hown, hts⟩ (c_H_mayFollow l dC dI cI b d) (va_cwS 2 hts (ct_giT (fun w h9 => ct_tl h9) kw_333 kw_334 kw_26 kw_335) rfl rfl rfl (by decide +kernel) ⟨Nat.le_of_ble_eq_true rfl, Nat.le_of_ble_eq_true rfl⟩) ⟨ct_ro_blind, ct_ro_pre (hP.sub [] rfl) hK⟩ rfl rfl hl.1 rfl (lv_room (Nat.le_of_ble_eq_true rfl)) d_H_areLabels_21 ⟨Nat.le_of_ble_eq_true rfl, Nat.le_of_ble_eq_true rfl⟩) hS (fun q _ h9 => h9.elim) (fun q h9 => h9.elim) (fun ans302 uS tS H locs ht hvm hwans302 hB hz1 hk1 hS => ?_)
        have hP := ct_keep hP hk1
        refine ct_val (y := nI (if ct_mf b d = true then 1 else 0)) (hwans302) ?_
        by_cases h4 : ct_mf b d = true
        · rw [if_pos h4]
          refine lv_if_eq (tgt := 31) hx hb d_H_areLabels_24 (by decide) (fun hc9 => absurd hc9 (nI_ne0 (by omega) (by omega))) (fun _ => ?_)
          refine lv_iconst (v := (nI 1)) hx hb d_H_areLabels_27 (by decide) ?_
          refine lv_goto (tgt := 32) hx hb d_H_areLabels_28 (by decide) ?_
          exact W.zret (v := (nI 1)) hx hb hr (by first | rfl | decide) (fun tS ht hW => ⟨⟨(nI 1), (), rfl, by rw [if_pos (by simp [ct_al, h1, h2, h3, h4])], trivial⟩, hS.F ht⟩) hS.2.2 d_H_areLabels_32
        · rw [if_neg h4]
          refine lv_if_eq (tgt := 31) hx hb d_H_areLabels_24 (by decide) (fun _ => ?_) (fun hc9 => absurd (nI_0) hc9)
          refine lv_iconst (v := (nI 0)) hx hb d_H_areLabels_31 (by decide) ?_
          exact W.zret (v := (nI 0)) hx hb hr (by first | rfl | decide) (fun tS ht hW => ⟨⟨(nI 0), (), rfl, by rw [if_neg (by simp [ct_al, h4])], trivial⟩, hS.F ht⟩) hS.2.2 d_H_areLabels_32
      · rw [if_neg h3]
        refine lv_if_eq (tgt := 31) hx hb d_H_areLabels_16 (by decide) (fun _ => ?_) (fun hc9 => absurd (nI_0) hc9)
        refine lv_iconst (v := (nI 0)) hx hb d_H_areLabels_31 (by decide) ?_
        exact W.zret (v := (nI 0)) hx hb hr (by first | rfl | decide) (fun tS ht hW => ⟨⟨(nI 0), (), rfl, by rw [if_neg (by simp [ct_al, h3])], trivial⟩, hS.F ht⟩) hS.2.2 d_H_areLabels_32
set_option maxHeartbeats 4000000 in
set_option maxRecDepth 100000 in
theorem c_H_labelBit (l : Launch) (dC : Nat → ClassId) (dI : Nat → Nat → Nat) (cI : ClassId) (x : Int32) (hxl : ct_isl x) : Met l y_H_labelBit w_H_labelBit ({ frames := 0, cells := 0, slots := 0, locals := 0 }) (va_Pc [.int x] (ct_ro (dC, dI) ct_cl [] [(cI, .int)])) (ct_qi (fun r => r = nI (ct_lb x))) 0 0 (fun _ => False) := by
  refine Met.ofW (cc := b_H_labelBit) (maxL := 1) (ret := (some .int)) (by decide) rfl ?_
  intro p e s m args below meth c s₁ Bd hml hv
  obtain ⟨hargs, hP, hK⟩ := hv
  have hx := Bd.exec
  have hb := Bd.bytes
  have hr := Bd.returns
  have hts : ∀ w ∈ k_H_labelBit :: ct_tb, w.before args s = true := atoms_spec (ws := w_H_labelBit) Bd.pre
  have hown : s.vm.findClass R_H = some m.cls := findClass_of_methodNamed Bd.named
  have hlocks := Bd.notSynchronized
  have hS : va_S (fun _ => False) s.heap s.heap [] := va_S.rf
  have hl := lv_entry ([.int x]) (n := 1) (Nat.le_of_ble_eq_true rfl)
  rw [show entryFrame m args 1 = entryFrame m (([.int x] : List Value)).toArray 1 by rw [hargs], lg_entry_eq]
  generalize (lg_sl ([.int x]) ++ List.replicate (1 - (lg_sl ([.int x])).length) Slot.unset).toArray = ls at hl ⊢
  have hl : lv_has ls 1 [(0, .int x)] := hl
  by_cases h1 : x = -1
  · refine lv_iload_n hx hb d_H_labelBit_0 rfl (lv_at hl 0 rfl) ?_
    refine lv_iconst (v := (-1)) hx hb d_H_labelBit_1 (by decide) ?_
    refine lv_icmp_ne (tgt := 9) hx hb d_H_labelBit_2 (by decide) (fun hc9 => absurd (h1) hc9) (fun _ => ?_)
    refine lv_iconst (v := (nI 0)) hx hb d_H_labelBit_5 (by decide) ?_
    refine lv_goto (tgt := 12) hx hb d_H_labelBit_6 (by decide) ?_
    exact W.iret (v := (nI 0)) hx hb hr (fun tS ht hW => ⟨⟨(nI 0), (), rfl, by rw [ct_lb, if_pos h1], trivial⟩, hS.F ht⟩) hS.2.2 d_H_labelBit_12
  · obtain ⟨k, hk, rfl⟩ := hxl.resolve_left h1
    refine lv_iload_n hx hb d_H_labelBit_0 rfl (lv_at hl 0 rfl) ?_
    refine lv_iconst (v := (-1)) hx hb d_H_labelBit_1 (by decide) ?_
    refine lv_icmp_ne (tgt := 9) hx hb d_H_labelBit_2 (by decide) (fun _ => ?_) (fun hc9 => absurd hc9 (h1))
    refine lv_iconst (v := (nI 1)) hx hb d_H_labelBit_9 (by decide) ?_
    refine lv_iload_n hx hb d_H_labelBit_10 rfl (lv_at hl 0 rfl) ?_
    refine lv_ishl hx hb d_H_labelBit_11 ?_
    refine ct_val (y := nI (2 ^ k)) ((ct_shl 1 (by omega) (by have := ct_2lt k hk; omega)).trans (by rw [Nat.one_mul])) ?_
    exact W.iret (v := (nI (2 ^ k))) hx hb hr (fun tS ht hW => ⟨⟨(nI (2 ^ k)), (), rfl, by rw [ct_lb, if_neg h1, nI_clamp (by omega)], trivial⟩, hS.F ht⟩) hS.2.2 d_H_labelBit_12
set_option maxHeartbeats 4000000 in
set_option maxRecDepth 100000 in
theorem c_H_labelBits (l : Launch) (dC : Nat → ClassId) (dI : Nat → Nat → Nat) (cI : ClassId) (a b d : Int32) (ha : ct_isl a) (hb1 : ct_isl b) (hd : ct_isl d) : Met l y_H_labelBits w_H_labelBits ({ frames := 1, cells := 0, slots := 0, locals := 20 }) (va_Pc [.int a, .int b, .int d] (ct_ro (dC, dI) ct_cl [] [(cI, .int)])) (ct_qi (fun r => r = nI (ct_lbs a b d))) 0 0 (fun _ => False) := by
  refine Met.ofW (cc := b_H_labelBits) (maxL := 3) (ret := (some .int)) (by decide) rfl ?_
  intro p e s m args below meth c s₁ Bd hml hv
  obtain ⟨hargs, hP, hK⟩ := hv
  have hx := Bd.exec
  have hb := Bd.bytes
  have hr := Bd.returns
  have hts : ∀ w ∈ k_H_labelBits :: ct_tb, w.before args s = true := atoms_spec (ws := w_H_labelBits) Bd.pre
  have hown : s.vm.findClass R_H = some m.cls := findClass_of_methodNamed Bd.named
  have hlocks := Bd.notSynchronized
  have hS : va_S (fun _ => False) s.heap s.heap [] := va_S.rf
  have hl := lv_entry ([.int a, .int b, .int d]) (n := 3) (Nat.le_of_ble_eq_true rfl)
  rw [show entryFrame m args 3 = entryFrame m (([.int a, .int b, .int d] : List Value)).toArray 3 by rw [hargs], lg_entry_eq]
  generalize (lg_sl ([.int a, .int b, .int d]) ++ List.replicate (3 - (lg_sl ([.int a, .int b, .int d])).length) Slot.unset).toArray = ls at hl ⊢
  have hl : lv_has ls 3 [(0, .int a), (1, .int b), (2, .int d)] := hl
  refine lv_iload_n hx hb d_H_labelBits_0 rfl (lv_at hl 0 rfl) ?_
  refine va_calli (va_runS (As := [.int a]) (rest := []) ⟨hx, hb, hml, hown, hts⟩ (c_H_labelBit l dC dI cI a ha) (va_cwS 1 hts (ct_giT (fun w h9 => ct_tl h9) kw_299 kw_300 kw_26 kw_301) rfl rfl rfl (by decide +kernel) ⟨Nat.le_of_ble_eq_true rfl, Nat.le_of_ble_eq_true rfl⟩) ⟨ct_ro_blind, ct_ro_pre (hP.sub [] rfl) hK⟩ rfl rfl hl.1 rfl (lv_room (Nat.le_of_ble_eq_true rfl)) d_H_labelBits_1 ⟨Nat.le_of_ble_eq_true rfl, Nat.le_of_ble_eq_true rfl⟩) hS (fun q _ h9 => h9.elim) (fun q h9 => h9.elim) (fun ans1 uS tS H locs ht hvm hwans1 hB hz1 hk1 hS => ?_)
  have hP := ct_keep hP hk1
  refine ct_val (y := nI (ct_lb a)) (hwans1) ?_
  refine lv_iload_n hx hb d_H_labelBits_4 rfl (lv_at hl 1 rfl) ?_
  refine va_calli (va_runS (As := [.int b]) (rest := [.int (nI (ct_lb a))]) ⟨hx, hb, hml, hown, hts⟩ (c_H_labelBit l dC dI cI b hb1) (va_cwS 1 hts (ct_giT (fun w h9 => ct_tl h9) kw_299 kw_300 kw_26 kw_301) rfl rfl rfl (by decide +kernel) ⟨Nat.le_of_ble_eq_true rfl, Nat.le_of_ble_eq_true rfl⟩) ⟨ct_ro_blind, ct_ro_pre (hP.sub [] rfl) hK⟩ rfl rfl hl.1 rfl (lv_room (Nat.le_of_ble_eq_true rfl)) d_H_labelBits_5 ⟨Nat.le_of_ble_eq_true rfl, Nat.le_of_ble_eq_true rfl⟩) hS (fun q _ h9 => h9.elim) (fun q h9 => h9.elim) (fun ans2 uS tS H locs ht hvm hwans2 hB hz1 hk1 hS => ?_)
  have hP := ct_keep hP hk1
  refine ct_val (y := nI (ct_lb b)) (hwans2) ?_
  refine lv_ior hx hb d_H_labelBits_8 ?_
  refine ct_val (y := nI (ct_lb a ||| ct_lb b)) (ct_or _ _) ?_
  refine lv_iload_n hx hb d_H_labelBits_9 rfl (lv_at hl 2 rfl) ?_
  refine va_calli (va_runS (As := [.int d]) (rest := [.int (nI (ct_lb a ||| ct_lb b))]) ⟨hx, hb, hml, hown, hts⟩ (c_H_labelBit l dC dI cI d hd) (va_cwS 1 hts (ct_giT (fun w h9 => ct_tl h9) kw_299 kw_300 kw_26 kw_301) rfl rfl rfl (by decide +kernel) ⟨Nat.le_of_ble_eq_true rfl, Nat.le_of_ble_eq_true rfl⟩) ⟨ct_ro_blind, ct_ro_pre (hP.sub [] rfl) hK⟩ rfl rfl hl.1 rfl (lv_room (Nat.le_of_ble_eq_true rfl)) d_H_labelBits_10 ⟨Nat.le_of_ble_eq_true rfl, Nat.le_of_ble_eq_true rfl⟩) hS (fun q _ h9 => h9.elim) (fun q h9 => h9.elim) (fun ans3 uS tS H locs ht hvm hwans3 hB hz1 hk1 hS => ?_)
  have hP := ct_keep hP hk1
  refine ct_val (y := nI (ct_lb d)) (hwans3) ?_
  refine lv_ior hx hb d_H_labelBits_13 ?_
  refine ct_val (y := nI (ct_lbs a b d)) (ct_or _ _) ?_
  exact W.iret (v := (nI (ct_lbs a b d))) hx hb hr (fun tS ht hW => ⟨⟨(nI (ct_lbs a b d)), (), rfl, rfl, trivial⟩, hS.F ht⟩) hS.2.2 d_H_labelBits_14
set_option maxHeartbeats 4000000 in
set_option maxRecDepth 100000 in
theorem c_H_homeOfTable (l : Launch) (dC : Nat → ClassId) (dI : Nat → Nat → Nat) (cI : ClassId) (t : Nat) : Met l y_H_homeOfTable w_H_homeOfTable ({ frames := 0, cells := 0, slots := 0, locals := 0 }) (va_Pc [.int (nI t)] (ct_ro (dC, dI) ct_cl [] [(cI, .int)])) (ct_qi (fun r => r = nI (t * 27))) 0 0 (fun _ => False) := by
  refine Met.ofW (cc := b_H_homeOfTable) (maxL := 1) (ret := (some .int)) (by decide) rfl ?_
  intro p e s m args below meth c s₁ Bd hml hv
  obtain ⟨hargs, hP, hK⟩ := hv
  have hx := Bd.exec
  have hb := Bd.bytes
  have hr := Bd.returns
  have hts : ∀ w ∈ k_H_homeOfTable :: ct_tb, w.before args s = true := atoms_spec (ws := w_H_homeOfTable) Bd.pre
  have hown : s.vm.findClass R_H = some m.cls := findClass_of_methodNamed Bd.named
  have hlocks := Bd.notSynchronized
  have hS : va_S (fun _ => False) s.heap s.heap [] := va_S.rf
  have hl := lv_entry ([.int (nI t)]) (n := 1) (Nat.le_of_ble_eq_true rfl)
  rw [show entryFrame m args 1 = entryFrame m (([.int (nI t)] : List Value)).toArray 1 by rw [hargs], lg_entry_eq]
  generalize (lg_sl ([.int (nI t)]) ++ List.replicate (1 - (lg_sl ([.int (nI t)])).length) Slot.unset).toArray = ls at hl ⊢
  have hl : lv_has ls 1 [(0, .int (nI t))] := hl
  refine lv_iload_n hx hb d_H_homeOfTable_0 rfl (lv_at hl 0 rfl) ?_
  refine lv_bipush (v := (nI 27)) hx hb d_H_homeOfTable_1 (by decide) ?_
  refine lv_imul hx hb d_H_homeOfTable_3 ?_
  refine ct_val (y := nI (t * 27)) (pk_mul _ _) ?_
  exact W.iret (v := (nI (t * 27))) hx hb hr (fun tS ht hW => ⟨⟨(nI (t * 27)), (), rfl, rfl, trivial⟩, hS.F ht⟩) hS.2.2 d_H_homeOfTable_4
set_option maxHeartbeats 4000000 in
set_option maxRecDepth 100000 in
theorem c_H_isTable (l : Launch) (dC : Nat → ClassId) (dI : Nat → Nat → Nat) (cI : ClassId) (h0 z0 p0 r0 h1 h2 h3 h4 : Nat) (T : Nat) (ops res pl sm : Int32) (x : Int32) : Met l y_H_isTable w_H_isTable ({ frames := 0, cells := 0, slots := 0, locals := 0 }) (va_Pc [.ref h0, .int x] (ct_ro (dC, dI) ct_cl [(h0, .inr (0, [.ref z0, .ref p0, .ref r0, .int (nI T), .ref h1, .int ops, .ref h2, .ref h3, .int res, .ref h4, .int pl, .int sm]))] [(cI, .int)])) (ct_qi (fun r => r = nI (if ct_isn T x = true then 1 else 0))) 0 0 (fun _ => False) := by
  refine Met.ofW (cc := b_H_isTable) (maxL := 2) (ret := (some .boolean)) (by decide) rfl ?_
  intro p e s m args below meth c s₁ Bd hml hv
  obtain ⟨hargs, hP, hK⟩ := hv
  have hx := Bd.exec
  have hb := Bd.bytes
  have hr := Bd.returns
  have hts : ∀ w ∈ k_H_isTable :: ct_tb, w.before args s = true := atoms_spec (ws := w_H_isTable) Bd.pre
  have hown : s.vm.findClass R_H = some m.cls := findClass_of_methodNamed Bd.named
  have hlocks := Bd.notSynchronized
  have hS : va_S (fun _ => False) s.heap s.heap [] := va_S.rf
  have hl := lv_entry ([.ref h0, .int x]) (n := 2) (Nat.le_of_ble_eq_true rfl)
  rw [show entryFrame m args 2 = entryFrame m (([.ref h0, .int x] : List Value)).toArray 2 by rw [hargs], lg_entry_eq]
  generalize (lg_sl ([.ref h0, .int x]) ++ List.replicate (2 - (lg_sl ([.ref h0, .int x])).length) Slot.unset).toArray = ls at hl ⊢
  have hl : lv_has ls 2 [(0, .ref h0), (1, .int x)] := hl
  by_cases h1 : x < 0
  · refine lv_iload_n hx hb d_H_isTable_0 rfl (lv_at hl 1 rfl) ?_
    refine lv_if_lt (tgt := 16) hx hb d_H_isTable_1 (by decide) (fun _ => ?_) (fun hc9 => absurd (h1) hc9)
    refine lv_iconst (v := (nI 0)) hx hb d_H_isTable_16 (by decide) ?_
    exact W.zret (v := (nI 0)) hx hb hr (by first | rfl | decide) (fun tS ht hW => ⟨⟨(nI 0), (), rfl, by rw [if_neg (by simp [ct_isn, h1])], trivial⟩, hS.F ht⟩) hS.2.2 d_H_isTable_17
  · refine lv_iload_n hx hb d_H_isTable_0 rfl (lv_at hl 1 rfl) ?_
    refine lv_if_lt (tgt := 16) hx hb d_H_isTable_1 (by decide) (fun hc9 => absurd hc9 (h1)) (fun _ => ?_)
    refine lv_iload_n hx hb d_H_isTable_4 rfl (lv_at hl 1 rfl) ?_
    refine lv_aload_n hx hb d_H_isTable_5 rfl (lv_at hl 0 rfl) ?_
    refine va_get (D := (dC, dI)) (ci := 0) (v := .int (nI T)) (C := R_H) (T := T_H) (N := 12) hx hb hts (fun w h9 => ct_tl (ki_H w h9)) hown hK hP 0 rfl rfl 3 (by decide) (hts _ (ct_tl kw_117)) (fun _ h9 => h9) rfl d_H_isTable_6 ?_
    by_cases h2 : nI T ≤ x
    · refine lv_icmp_ge (tgt := 16) hx hb d_H_isTable_9 (by decide) (fun _ => ?_) (fun hc9 => absurd (h2) hc9)
      refine lv_iconst (v := (nI 0)) hx hb d_H_isTable_16 (by decide) ?_
      exact W.zret (v := (nI 0)) hx hb hr (by first | rfl | decide) (fun tS ht hW => ⟨⟨(nI 0), (), rfl, by rw [if_neg (by simp [ct_isn, h2])], trivial⟩, hS.F ht⟩) hS.2.2 d_H_isTable_17
    · refine lv_icmp_ge (tgt := 16) hx hb d_H_isTable_9 (by decide) (fun hc9 => absurd hc9 (h2)) (fun _ => ?_)
      refine lv_iconst (v := (nI 1)) hx hb d_H_isTable_12 (by decide) ?_
      refine lv_goto (tgt := 17) hx hb d_H_isTable_13 (by decide) ?_
      exact W.zret (v := (nI 1)) hx hb hr (by first | rfl | decide) (fun tS ht hW => ⟨⟨(nI 1), (), rfl, by rw [if_pos (by simp [ct_isn, h1, h2])], trivial⟩, hS.F ht⟩) hS.2.2 d_H_isTable_17
theorem ct_and2 : ∀ k, k < 8 → ∀ M, M < 256 → (M &&& 2 ^ k = 0 ↔ M.testBit k = false) := by decide +kernel
theorem ct_lb_nI {k : Nat} (hk : k < 8) : ct_lb (nI k) = 2 ^ k := by rw [ct_lb, if_neg (ct_nm1 k hk), nI_clamp (by omega)]
theorem ct_any_up {lab : Nat → Nat} {k t : Nat} (n : Nat) (h : t < n) (hb : (lab t).testBit k = true) : ct_any lab k n = true := by
  induction n with
  | zero => omega
  | succ n ih =>
    show (ct_any lab k n || (lab n).testBit k) = true
    by_cases ht : t = n
    · rw [← ht, hb, Bool.or_true]
    · rw [ih (by omega), Bool.true_or]
set_option maxHeartbeats 4000000 in
set_option maxRecDepth 100000 in
theorem c_H_aTableHas (l : Launch) (dC : Nat → ClassId) (dI : Nat → Nat → Nat) (cI : ClassId) (h0 z0 p0 r0 h1 h2 h3 h4 : Nat) (T : Nat) (ops res pl sm : Int32) (f : Nat → Int32) (lab : Nat → Nat) (k : Nat) (hk : k < 8) (hT8 : T ≤ 8) (hf : ∀ t, t < T → f t = nI (lab t)) (hlab : ∀ t, t < T → lab t < 256) : Met l y_H_aTableHas w_H_aTableHas ({ frames := 1, cells := 0, slots := 0, locals := 20 }) (va_Pc [.ref h0, .int (nI k)] (ct_ro (dC, dI) ct_cl [(h0, .inr (0, [.ref z0, .ref p0, .ref r0, .int (nI T), .ref h1, .int ops, .ref h2, .ref h3, .int res, .ref h4, .int pl, .int sm])), (h1, .inl (cI, 8, .inl f))] [(cI, .int)])) (ct_qi (fun r => r = nI (if ct_any lab k T = true then 1 else 0))) 0 0 (fun _ => False) := by
  refine Met.ofW (cc := b_H_aTableHas) (maxL := 3) (ret := (some .boolean)) (by decide) rfl ?_
  intro p e s m args below meth c s₁ Bd hml hv
  obtain ⟨hargs, hP, hK⟩ := hv
  have hx := Bd.exec
  have hb := Bd.bytes
  have hr := Bd.returns
  have hts : ∀ w ∈ k_H_aTableHas :: ct_tb, w.before args s = true := atoms_spec (ws := w_H_aTableHas) Bd.pre
  have hown : s.vm.findClass R_H = some m.cls := findClass_of_methodNamed Bd.named
  have hlocks := Bd.notSynchronized
  have hS : va_S (fun _ => False) s.heap s.heap [] := va_S.rf
  have hl := lv_entry ([.ref h0, .int (nI k)]) (n := 3) (Nat.le_of_ble_eq_true rfl)
  rw [show entryFrame m args 3 = entryFrame m (([.ref h0, .int (nI k)] : List Value)).toArray 3 by rw [hargs], lg_entry_eq]
  generalize (lg_sl ([.ref h0, .int (nI k)]) ++ List.replicate (3 - (lg_sl ([.ref h0, .int (nI k)])).length) Slot.unset).toArray = ls at hl ⊢
  have hl : lv_has ls 3 [(0, .ref h0), (1, .int (nI k))] := hl
  have loop : ∀ (n t : Nat), t + n = T → ct_any lab k t = false → ∀ (H : Heap) (locs : List Loc), va_P (dC, dI) ct_cl [(h0, .inr (0, [.ref z0, .ref p0, .ref r0, .int (nI T), .ref h1, .int ops, .ref h2, .ref h3, .int res, .ref h4, .int pl, .int sm])), (h1, .inl (cI, 8, .inl f))] H → va_S (fun _ => False) s.heap H locs → ∀ (ls : Array Slot), lv_has ls 3 [(0, .ref h0), (1, .int (nI k)), (2, .int (nI t))] → W p l e (headSpec w_H_aTableHas ({ frames := 1, cells := 0, slots := 0, locals := 20 } : Room)).room s m args below meth c H locs 0 0 (MQ below (ct_qi (fun r => r = nI (if ct_any lab k T = true then 1 else 0))) args s 0 0 (fun _ => False)) (F0 m 2 ls []) := by
    intro n
    induction n with
    | zero =>
      intro t ht hno H locs hP hS ls hl
      refine lv_iload_n hx hb d_H_aTableHas_2 rfl (lv_at hl 2 rfl) ?_
      refine lv_aload_n hx hb d_H_aTableHas_3 rfl (lv_at hl 0 rfl) ?_
      refine va_get (D := (dC, dI)) (ci := 0) (v := .int (nI T)) (C := R_H) (T := T_H) (N := 12) hx hb hts (fun w h9 => ct_tl (ki_H w h9)) hown hK hP 0 rfl rfl 3 (by decide) (hts _ (ct_tl kw_117)) (fun _ h9 => h9) rfl d_H_aTableHas_4 ?_
      refine lv_icmp_ge (tgt := 32) hx hb d_H_aTableHas_7 (by decide) (fun _ => ?_) (fun hc9 => absurd (nI_le (by omega) (by omega)) hc9)
      refine lv_iconst (v := (nI 0)) hx hb d_H_aTableHas_32 (by decide) ?_
      exact W.zret (v := (nI 0)) hx hb hr (by first | rfl | decide) (fun tS ht hW => ⟨⟨(nI 0), (), rfl, by rw [if_neg (by rw [← show t = T by omega, hno]; exact Bool.false_ne_true)], trivial⟩, hS.F ht⟩) hS.2.2 d_H_aTableHas_33
    | succ n ih =>
      intro t ht hno H locs hP hS ls hl
      refine lv_iload_n hx hb d_H_aTableHas_2 rfl (lv_at hl 2 rfl) ?_
      refine lv_aload_n hx hb d_H_aTableHas_3 rfl (lv_at hl 0 rfl) ?_
      refine va_get (D := (dC, dI)) (ci := 0) (v := .int (nI T)) (C := R_H) (T := T_H) (N := 12) hx hb hts (fun w h9 => ct_tl (ki_H w h9)) hown hK hP 0 rfl rfl 3 (by decide) (hts _ (ct_tl kw_117)) (fun _ h9 => h9) rfl d_H_aTableHas_4 ?_
      refine lv_icmp_ge (tgt := 32) hx hb d_H_aTableHas_7 (by decide) (fun hc9 => absurd hc9 (nI_ge (by omega) (by omega))) (fun _ => ?_)
      refine lv_aload_n hx hb d_H_aTableHas_10 rfl (lv_at hl 0 rfl) ?_
      refine va_get (D := (dC, dI)) (ci := 0) (v := .ref h1) (C := R_H) (T := T_H) (N := 12) hx hb hts (fun w h9 => ct_tl (ki_H w h9)) hown hK hP 0 rfl rfl 4 (by decide) (hts _ (ct_tl kw_118)) (fun _ h9 => h9) rfl d_H_aTableHas_11 ?_
      refine lv_iload_n hx hb d_H_aTableHas_14 rfl (lv_at hl 2 rfl) ?_
      refine ct_iald hx hb hK hP 1 0 rfl rfl (j := t) (by omega) (by omega) d_H_aTableHas_15 ?_
      refine ct_val (y := nI (lab t)) (hf t (by omega)) ?_
      refine lv_iload_n hx hb d_H_aTableHas_16 rfl (lv_at hl 1 rfl) ?_
      refine va_calli (va_runS (As := [.int (nI k)]) (rest := [.int (nI (lab t))]) ⟨hx, hb, hml, hown, hts⟩ (c_H_labelBit l dC dI cI (nI k) (Or.inr ⟨k, hk, rfl⟩)) (va_cwS 1 hts (ct_giT (fun w h9 => ct_tl h9) kw_299 kw_300 kw_26 kw_301) rfl rfl rfl (by decide +kernel) ⟨Nat.le_of_ble_eq_true rfl, Nat.le_of_ble_eq_true rfl⟩) ⟨ct_ro_blind, ct_ro_pre (hP.sub [] rfl) hK⟩ rfl rfl hl.1 rfl (lv_room (Nat.le_of_ble_eq_true rfl)) d_H_aTableHas_17 ⟨Nat.le_of_ble_eq_true rfl, Nat.le_of_ble_eq_true rfl⟩) hS (fun q _ h9 => h9.elim) (fun q h9 => h9.elim) (fun ans1 uS tS H locs ht hvm hwans1 hB hz1 hk1 hS => ?_)
      have hP := ct_keep hP hk1
      refine ct_val (y := nI (ct_lb (nI k))) (hwans1) ?_
      refine ct_val (y := nI (2 ^ k)) (by rw [ct_lb_nI hk]) ?_
      refine lv_iand hx hb d_H_aTableHas_20 ?_
      refine ct_val (y := nI (lab t &&& 2 ^ k)) (ct_and _ _) ?_
      have hlt := hlab t (by omega)
      have h2 := ct_and2 k hk (lab t) hlt
      have h3 : lab t &&& 2 ^ k ≤ lab t := Nat.and_le_left
      by_cases hbt : (lab t).testBit k = false
      · refine lv_if_eq (tgt := 26) hx hb d_H_aTableHas_21 (by decide) (fun _ => ?_) (fun hc9 => absurd (by rw [h2.mpr hbt]; exact nI_0) hc9)
        refine lv_iinc (v := (nI (t + 1))) (lv' := [(2, .int (nI (t + 1))), (0, .ref h0), (1, .int (nI k))]) hx hb d_H_aTableHas_26 hl (k := 2) rfl (nI_1 _) (by decide) rfl (fun ls hl => ?_)
        refine lv_goto (tgt := 2) hx hb d_H_aTableHas_29 (by decide) ?_
        exact ih (t + 1) (by omega) (by show (ct_any lab k t || (lab t).testBit k) = false; rw [hno, hbt]; rfl) H locs hP hS ls (lv_sub hl [1, 2, 0] rfl)
      · refine lv_if_eq (tgt := 26) hx hb d_H_aTableHas_21 (by decide) (fun hc9 => absurd hc9 (fun z => hbt (h2.mp ((nI_eq (by omega) (by omega)).mp (z.trans nI_0.symm))))) (fun _ => ?_)
        refine lv_iconst (v := (nI 1)) hx hb d_H_aTableHas_24 (by decide) ?_
        exact W.zret (v := (nI 1)) hx hb hr (by first | rfl | decide) (fun tS ht hW => ⟨⟨(nI 1), (), rfl, by rw [if_pos (ct_any_up T (show t < T by omega) (by simpa using hbt))], trivial⟩, hS.F ht⟩) hS.2.2 d_H_aTableHas_25
  refine lv_iconst (v := (nI 0)) hx hb d_H_aTableHas_0 (by decide) ?_
  refine lv_istore_n (lv' := [(2, .int (nI 0)), (0, .ref h0), (1, .int (nI k))]) hx hb d_H_aTableHas_1 rfl hl (by decide) rfl (fun ls hl => ?_)
  exact loop T 0 (by omega) rfl s.heap [] hP hS ls (lv_sub hl [1, 2, 0] rfl)
set_option maxHeartbeats 4000000 in
set_option maxRecDepth 100000 in
theorem c_H_allOperands (l : Launch) (dC : Nat → ClassId) (dI : Nat → Nat → Nat) (cI : ClassId) (h0 z0 p0 r0 h1 h2 h3 h4 : Nat) (tab : Int32) (K : Nat) (res pl sm : Int32) (hK6 : K ≤ 6) : Met l y_H_allOperands w_H_allOperands ({ frames := 0, cells := 0, slots := 0, locals := 0 }) (va_Pc [.ref h0] (ct_ro (dC, dI) ct_cl [(h0, .inr (0, [.ref z0, .ref p0, .ref r0, .int tab, .ref h1, .int (nI K), .ref h2, .ref h3, .int res, .ref h4, .int pl, .int sm]))] [(cI, .int)])) (ct_qi (fun r => r = nI (2 ^ K - 1))) 0 0 (fun _ => False) := by
  refine Met.ofW (cc := b_H_allOperands) (maxL := 1) (ret := (some .int)) (by decide) rfl ?_
  intro p e s m args below meth c s₁ Bd hml hv
  obtain ⟨hargs, hP, hK⟩ := hv
  have hx := Bd.exec
  have hb := Bd.bytes
  have hr := Bd.returns
  have hts : ∀ w ∈ k_H_allOperands :: ct_tb, w.before args s = true := atoms_spec (ws := w_H_allOperands) Bd.pre
  have hown : s.vm.findClass R_H = some m.cls := findClass_of_methodNamed Bd.named
  have hlocks := Bd.notSynchronized
  have hS : va_S (fun _ => False) s.heap s.heap [] := va_S.rf
  have hl := lv_entry ([.ref h0]) (n := 1) (Nat.le_of_ble_eq_true rfl)
  rw [show entryFrame m args 1 = entryFrame m (([.ref h0] : List Value)).toArray 1 by rw [hargs], lg_entry_eq]
  generalize (lg_sl ([.ref h0]) ++ List.replicate (1 - (lg_sl ([.ref h0])).length) Slot.unset).toArray = ls at hl ⊢
  have hl : lv_has ls 1 [(0, .ref h0)] := hl
  have h2K := ct_2K K (by omega)
  refine lv_iconst (v := (nI 1)) hx hb d_H_allOperands_0 (by decide) ?_
  refine lv_aload_n hx hb d_H_allOperands_1 rfl (lv_at hl 0 rfl) ?_
  refine va_get (D := (dC, dI)) (ci := 0) (v := .int (nI K)) (C := R_H) (T := T_H) (N := 12) hx hb hts (fun w h9 => ct_tl (ki_H w h9)) hown hK hP 0 rfl rfl 5 (by decide) (hts _ (ct_tl kw_119)) (fun _ h9 => h9) rfl d_H_allOperands_2 ?_
  refine lv_ishl hx hb d_H_allOperands_5 ?_
  refine ct_val (y := nI (2 ^ K)) ((ct_shl 1 (by omega) (by omega)).trans (by rw [Nat.one_mul])) ?_
  refine lv_iconst (v := (nI 1)) hx hb d_H_allOperands_6 (by decide) ?_
  refine lv_isub hx hb d_H_allOperands_7 ?_
  refine ct_val (y := nI (2 ^ K - 1)) (pk_sub (by omega)) ?_
  exact W.iret (v := (nI (2 ^ K - 1))) hx hb hr (fun tS ht hW => ⟨⟨(nI (2 ^ K - 1)), (), rfl, rfl, trivial⟩, hS.F ht⟩) hS.2.2 d_H_allOperands_8
set_option maxHeartbeats 4000000 in
set_option maxRecDepth 100000 in
theorem c_H_countSteps (l : Launch) (dC : Nat → ClassId) (dI : Nat → Nat → Nat) (cI : ClassId) (h0 z0 p0 r0 h1 h2 h3 h4 : Nat) (tab : Int32) (K : Nat) (res pl sm : Int32) (hK6 : K ≤ 6) : Met l y_H_countSteps w_H_countSteps ({ frames := 0, cells := 0, slots := 0, locals := 0 }) (va_Pc [.ref h0] (ct_ro (dC, dI) ct_cl [(h0, .inr (0, [.ref z0, .ref p0, .ref r0, .int tab, .ref h1, .int (nI K), .ref h2, .ref h3, .int res, .ref h4, .int pl, .int sm]))] [(cI, .int)])) (ct_qi (fun r => r = nI (K - 1))) 0 0 (fun _ => False) := by
  refine Met.ofW (cc := b_H_countSteps) (maxL := 1) (ret := (some .int)) (by decide) rfl ?_
  intro p e s m args below meth c s₁ Bd hml hv
  obtain ⟨hargs, hP, hK⟩ := hv
  have hx := Bd.exec
  have hb := Bd.bytes
  have hr := Bd.returns
  have hts : ∀ w ∈ k_H_countSteps :: ct_tb, w.before args s = true := atoms_spec (ws := w_H_countSteps) Bd.pre
  have hown : s.vm.findClass R_H = some m.cls := findClass_of_methodNamed Bd.named
  have hlocks := Bd.notSynchronized
  have hS : va_S (fun _ => False) s.heap s.heap [] := va_S.rf
  have hl := lv_entry ([.ref h0]) (n := 1) (Nat.le_of_ble_eq_true rfl)
  rw [show entryFrame m args 1 = entryFrame m (([.ref h0] : List Value)).toArray 1 by rw [hargs], lg_entry_eq]
  generalize (lg_sl ([.ref h0]) ++ List.replicate (1 - (lg_sl ([.ref h0])).length) Slot.unset).toArray = ls at hl ⊢
  have hl : lv_has ls 1 [(0, .ref h0)] := hl
  refine lv_aload_n hx hb d_H_countSteps_0 rfl (lv_at hl 0 rfl) ?_
  refine va_get (D := (dC, dI)) (ci := 0) (v := .int (nI K)) (C := R_H) (T := T_H) (N := 12) hx hb hts (fun w h9 => ct_tl (ki_H w h9)) hown hK hP 0 rfl rfl 5 (by decide) (hts _ (ct_tl kw_119)) (fun _ h9 => h9) rfl d_H_countSteps_1 ?_
  refine lv_iconst (v := (nI 2)) hx hb d_H_countSteps_4 (by decide) ?_
  by_cases h9 : 2 ≤ K
  · refine lv_icmp_ge (tgt := 12) hx hb d_H_countSteps_5 (by decide) (fun _ => ?_) (fun hc9 => absurd (nI_le h9 (by omega)) hc9)
    refine lv_aload_n hx hb d_H_countSteps_12 rfl (lv_at hl 0 rfl) ?_
    refine va_get (D := (dC, dI)) (ci := 0) (v := .int (nI K)) (C := R_H) (T := T_H) (N := 12) hx hb hts (fun w h9 => ct_tl (ki_H w h9)) hown hK hP 0 rfl rfl 5 (by decide) (hts _ (ct_tl kw_119)) (fun _ h9 => h9) rfl d_H_countSteps_13 ?_
    refine lv_iconst (v := (nI 1)) hx hb d_H_countSteps_16 (by decide) ?_
    refine lv_isub hx hb d_H_countSteps_17 ?_
    refine ct_val (y := nI (K - 1)) (pk_sub (by omega)) ?_
    exact W.iret (v := (nI (K - 1))) hx hb hr (fun tS ht hW => ⟨⟨(nI (K - 1)), (), rfl, rfl, trivial⟩, hS.F ht⟩) hS.2.2 d_H_countSteps_18
  · refine lv_icmp_ge (tgt := 12) hx hb d_H_countSteps_5 (by decide) (fun hc9 => absurd hc9 (nI_ge (by omega) (by omega))) (fun _ => ?_)
    refine lv_iconst (v := (nI 0)) hx hb d_H_countSteps_8 (by decide) ?_
    refine lv_goto (tgt := 18) hx hb d_H_countSteps_9 (by decide) ?_
    exact W.iret (v := (nI 0)) hx hb hr (fun tS ht hW => ⟨⟨(nI 0), (), rfl, by rw [show K - 1 = 0 by omega], trivial⟩, hS.F ht⟩) hS.2.2 d_H_countSteps_18
set_option maxHeartbeats 4000000 in
set_option maxRecDepth 100000 in
theorem c_H_forgetPlan (l : Launch) (dC : Nat → ClassId) (dI : Nat → Nat → Nat) (cI : ClassId) (h0 z0 p0 r0 h1 h2 h3 h4 : Nat) (tab ops res pl sm : Int32) (sz0 : Nat) : Met l y_H_forgetPlan w_H_forgetPlan ({ frames := 0, cells := 0, slots := 0, locals := 0 }) (va_Pc [.ref h0] (ct_rw (dC, dI) ct_cl [(h0, .inr (0, [.ref z0, .ref p0, .ref r0, .int tab, .ref h1, .int ops, .ref h2, .ref h3, .int res, .ref h4, .int pl, .int sm]))] [(cI, .int)] sz0)) (va_Qv (fun (u : Unit) => True) (fun (u : Unit) t => ct_at (dC, dI) ct_cl [(cI, .int)] (va_A [(h0, .inr (0, [.ref z0, .ref p0, .ref r0, .int tab, .ref h1, .int ops, .ref h2, .ref h3, .int res, .ref h4, .int pl, .int sm]))] sz0) [(h0, .inr (0, [.ref z0, .ref p0, .ref r0, .int tab, .ref h1, .int ops, .ref h2, .ref h3, .int res, .ref h4, .int (nI 0), .int (nI 0)]))] t) (va_A [(h0, .inr (0, [.ref z0, .ref p0, .ref r0, .int tab, .ref h1, .int ops, .ref h2, .ref h3, .int res, .ref h4, .int pl, .int sm]))] sz0)) 0 0 (va_A [(h0, .inr (0, [.ref z0, .ref p0, .ref r0, .int tab, .ref h1, .int ops, .ref h2, .ref h3, .int res, .ref h4, .int pl, .int sm]))] sz0) := by
  refine Met.ofW (cc := b_H_forgetPlan) (maxL := 1) (ret := none) (by decide) rfl ?_
  intro p e s m args below meth c s₁ Bd hml hv
  obtain ⟨hargs, hsz, hP, hK, hD0⟩ := hv
  have hx := Bd.exec
  have hb := Bd.bytes
  have hr := Bd.returns
  have hts : ∀ w ∈ k_H_forgetPlan :: ct_tb, w.before args s = true := atoms_spec (ws := w_H_forgetPlan) Bd.pre
  have hown : s.vm.findClass R_H = some m.cls := findClass_of_methodNamed Bd.named
  have hlocks := Bd.notSynchronized
  subst hsz
  have hD := hD0.self (sz := s.heap.size)
  generalize hAe : va_A [(h0, .inr (0, [.ref z0, .ref p0, .ref r0, .int tab, .ref h1, .int ops, .ref h2, .ref h3, .int res, .ref h4, .int pl, .int sm]))] s.heap.size = A at hD ⊢
  have hA : ∀ q : Nat, s.heap.size ≤ q → A q := fun q h => by rw [← hAe]; exact Or.inr h
  have hS : va_S A s.heap s.heap [] := va_S.rf
  have hl := lv_entry ([.ref h0]) (n := 1) (Nat.le_of_ble_eq_true rfl)
  rw [show entryFrame m args 1 = entryFrame m (([.ref h0] : List Value)).toArray 1 by rw [hargs], lg_entry_eq]
  generalize (lg_sl ([.ref h0]) ++ List.replicate (1 - (lg_sl ([.ref h0])).length) Slot.unset).toArray = ls at hl ⊢
  have hl : lv_has ls 1 [(0, .ref h0)] := hl
  refine lv_aload_n hx hb d_H_forgetPlan_0 rfl (lv_at hl 0 rfl) ?_
  refine lv_iconst (v := (nI 0)) hx hb d_H_forgetPlan_1 (by decide) ?_
  refine va_put (D := (dC, dI)) (ci := 0) (v := .int (nI 0)) (ty := .boolean) (C := R_H) (T := T_H) (N := 12) hx hb hts (fun w h9 => ct_tl (ki_H w h9)) ty_H ok_H nm_H hown hK hP hD hS 0 rfl rfl 10 (by decide) (hts _ (ct_tl kw_124)) (fun _ h9 => h9) rfl (by decide +kernel) rfl rfl (Nat.le_of_ble_eq_true rfl) d_H_forgetPlan_2 (fun H locs hP hD hS => ?_)
  have hP : va_P (dC, dI) ct_cl [(h0, .inr (0, [.ref z0, .ref p0, .ref r0, .int tab, .ref h1, .int ops, .ref h2, .ref h3, .int res, .ref h4, .int (nI 0), .int sm]))] H := hP
  have hD : va_D A [(h0, .inr (0, [.ref z0, .ref p0, .ref r0, .int tab, .ref h1, .int ops, .ref h2, .ref h3, .int res, .ref h4, .int (nI 0), .int sm]))] := hD
  refine lv_aload_n hx hb d_H_forgetPlan_5 rfl (lv_at hl 0 rfl) ?_
  refine lv_iconst (v := (nI 0)) hx hb d_H_forgetPlan_6 (by decide) ?_
  refine va_put (D := (dC, dI)) (ci := 0) (v := .int (nI 0)) (ty := .boolean) (C := R_H) (T := T_H) (N := 12) hx hb hts (fun w h9 => ct_tl (ki_H w h9)) ty_H ok_H nm_H hown hK hP hD hS 0 rfl rfl 11 (by decide) (hts _ (ct_tl kw_125)) (fun _ h9 => h9) rfl (by decide +kernel) rfl rfl (Nat.le_of_ble_eq_true rfl) d_H_forgetPlan_7 (fun H locs hP hD hS => ?_)
  have hP : va_P (dC, dI) ct_cl [(h0, .inr (0, [.ref z0, .ref p0, .ref r0, .int tab, .ref h1, .int ops, .ref h2, .ref h3, .int res, .ref h4, .int (nI 0), .int (nI 0)]))] H := hP
  have hD : va_D A [(h0, .inr (0, [.ref z0, .ref p0, .ref r0, .int tab, .ref h1, .int ops, .ref h2, .ref h3, .int res, .ref h4, .int (nI 0), .int (nI 0)]))] := hD
  have hP9 := hP.sub [0] rfl
  exact W.vret hx hb hr (fun tS ht hW => ⟨⟨(), rfl, trivial, by rw [ht]; exact hP9, va_K.moved hW.alike hK, hD.sub [0] (by decide) rfl⟩, hS.F ht⟩) hS.2.2 d_H_forgetPlan_10
end
section
/-! what comes of a set of operands, and of a join of two -/
/-- the product of the cells of the operands below n that are in S -/
def ct_pd (v : Nat → (Nat → Nat) → Int32) (S : Nat) : Nat → (Nat → Nat) → Int32
  | 0, _ => 1
  | n + 1, t => if S.testBit n = true then ct_pd v S n t * v n t else ct_pd v S n t
theorem ct_pd_in {v : Nat → (Nat → Nat) → Int32} {S n : Nat} (h : S.testBit n = true) (t : Nat → Nat) : ct_pd v S (n + 1) t = ct_pd v S n t * v n t := if_pos h
theorem ct_pd_out {v : Nat → (Nat → Nat) → Int32} {S n : Nat} (h : S.testBit n = false) (t : Nat → Nat) : ct_pd v S (n + 1) t = ct_pd v S n t := if_neg (by rw [h]; exact Bool.false_ne_true)
theorem ct_pd_dep {v : Nat → (Nat → Nat) → Int32} {la : Nat → Nat} {S : Nat} (n : Nat) (hv : ∀ o, o < n → ct_dep (v o) (fun k => decide (k < 8) && (la o).testBit k)) : ct_dep (ct_pd v S n) (fun k => decide (k < 8) && (ct_has la S n).testBit k) := by
  induction n with
  | zero => exact fun t u _ => rfl
  | succ n ih =>
    have ih := ih (fun o ho => hv o (by omega))
    cases hp : S.testBit n with
    | true =>
      intro t u h
      rw [ct_pd_in hp, ct_pd_in hp]
      rw [ct_has_in hp] at h
      rw [ih t u (fun k hk => h k (by simp only [Bool.and_eq_true, decide_eq_true_eq, Nat.testBit_or, Bool.or_eq_true] at hk ⊢; exact ⟨hk.1, Or.inl hk.2⟩)),
        hv n (by omega) t u (fun k hk => h k (by simp only [Bool.and_eq_true, decide_eq_true_eq, Nat.testBit_or, Bool.or_eq_true] at hk ⊢; exact ⟨hk.1, Or.inr hk.2⟩))]
    | false =>
      intro t u h
      rw [ct_pd_out hp, ct_pd_out hp]
      rw [ct_has_out hp] at h
      exact ih t u h
theorem ct_pd_mul {v : Nat → (Nat → Nat) → Int32} {S a b : Nat} (n : Nat) (h : ∀ k, k < n → S.testBit k = (a.testBit k || b.testBit k)) (hd : ∀ k, k < n → a.testBit k = true → b.testBit k = false) (t : Nat → Nat) : ct_pd v a n t * ct_pd v b n t = ct_pd v S n t := by
  induction n with
  | zero => exact Int32.mul_one 1
  | succ n ih =>
    have ih := ih (fun k hk => h k (by omega)) (fun k hk => hd k (by omega))
    have hS := h n (by omega)
    cases ha : a.testBit n with
    | true =>
      have hb := hd n (by omega) ha
      rw [ha, Bool.true_or] at hS
      rw [ct_pd_in ha, ct_pd_out hb, ct_pd_in hS, ← ih]
      ac_rfl
    | false =>
      cases hb : b.testBit n with
      | true =>
        rw [ha, hb, Bool.or_true] at hS
        rw [ct_pd_out ha, ct_pd_in hb, ct_pd_in hS, ← ih]
        ac_rfl
      | false =>
        rw [ha, hb, Bool.or_false] at hS
        rw [ct_pd_out ha, ct_pd_out hb, ct_pd_out hS, ih]
theorem ct_pd_none {v : Nat → (Nat → Nat) → Int32} {S : Nat} (n : Nat) (h : ∀ k, k < n → S.testBit k = false) (t : Nat → Nat) : ct_pd v S n t = 1 := by
  induction n with
  | zero => rfl
  | succ n ih => rw [ct_pd_out (h n (by omega))]; exact ih (fun k hk => h k (by omega))
theorem ct_pd_one {v : Nat → (Nat → Nat) → Int32} {S o : Nat} (n : Nat) (ho : o < n) (hS : S.testBit o = true) (h : ∀ k, k < n → k ≠ o → S.testBit k = false) (t : Nat → Nat) : ct_pd v S n t = v o t := by
  induction n with
  | zero => omega
  | succ n ih =>
    by_cases hn : o = n
    · subst hn
      rw [ct_pd_in hS, ct_pd_none o (fun k hk => h k (by omega) (by omega)), Int32.one_mul]
    · rw [ct_pd_out (h n (by omega) (fun z => hn z.symm))]
      exact ih (by omega) (fun k hk => h k (by omega))
/-- the labels that a set has and doesn't leave -/
def ct_inn (la : Nat → Nat) (K R S k : Nat) : Bool := (ct_has la S K).testBit k && !(ct_lv la K R S).testBit k
/-- what comes of a set -/
def ct_vs (sz la : Nat → Nat) (K R : Nat) (v : Nat → (Nat → Nat) → Int32) (S : Nat) (t : Nat → Nat) : Int32 := ct_sm sz (ct_inn la K R S) 8 (ct_pd v S K) t
theorem ct_sm_none {sz : Nat → Nat} {P : Nat → Bool} {F : (Nat → Nat) → Int32} (n : Nat) (h : ∀ k, k < n → P k = false) (t : Nat → Nat) : ct_sm sz P n F t = F t := by
  induction n with
  | zero => rfl
  | succ n ih => rw [ct_sm_out (h n (by omega))]; exact ih (fun k hk => h k (by omega))
theorem ct_lv_sub {la : Nat → Nat} {K R S k : Nat} (h : (ct_lv la K R S).testBit k = true) : (ct_has la S K).testBit k = true := by
  unfold ct_lv at h
  by_cases hs : ct_sev S = true
  · rw [if_pos hs, Nat.testBit_and, Bool.and_eq_true] at h; exact h.1
  · rw [if_neg hs] at h; exact h
theorem ct_inn_is {la : Nat → Nat} {K R S k : Nat} (h : ct_inn la K R S k = true) : (ct_has la S K).testBit k = true ∧ R.testBit k = false ∧ (ct_has la (ct_co K S) K).testBit k = false := by
  unfold ct_inn at h
  rw [Bool.and_eq_true] at h
  obtain ⟨h1, h2⟩ := h
  refine ⟨h1, ?_⟩
  unfold ct_lv at h2
  by_cases hs : ct_sev S = true
  · rw [if_pos hs, Nat.testBit_and, Nat.testBit_or, h1, Bool.true_and] at h2
    cases hr : R.testBit k with
    | true => rw [hr] at h2; simp at h2
    | false =>
      rw [hr] at h2
      exact ⟨rfl, by simpa using h2⟩
  · rw [if_neg hs, h1] at h2; simp at h2
theorem ct_vs_one {sz la : Nat → Nat} {K R : Nat} {v : Nat → (Nat → Nat) → Int32} {S : Nat} (hs : ct_sev S = false) (t : Nat → Nat) : ct_vs sz la K R v S t = ct_pd v S K t := by
  refine ct_sm_none 8 (fun k _ => ?_) t
  unfold ct_inn ct_lv
  rw [if_neg (by rw [hs]; exact Bool.false_ne_true)]
  simp
theorem ct_vs_dep {sz la : Nat → Nat} {K R S : Nat} {v : Nat → (Nat → Nat) → Int32} (hv : ∀ o, o < K → ct_dep (v o) (fun k => decide (k < 8) && (la o).testBit k)) : ct_dep (ct_vs sz la K R v S) (fun k => decide (k < 8) && (ct_lv la K R S).testBit k) := by
  refine ct_dep_mono (ct_sm_dep (ct_pd_dep K hv) 8) (fun k hk => ?_)
  simp only [Bool.and_eq_true, decide_eq_true_eq, Bool.not_eq_true', ct_inn, Bool.and_eq_false_iff] at hk ⊢
  obtain ⟨⟨h1, h2⟩, h3⟩ := hk
  refine ⟨h1, ?_⟩
  rcases h3 with h3 | h3
  · exact absurd h1 (by simpa using h3)
  · rcases h3 with h3 | h3
    · rw [h2] at h3; cases h3
    · simpa using h3
/-- a join of two parts into the labels T -/
theorem ct_vs_join {sz la : Nat → Nat} {K R S a b T : Nat} {v : Nat → (Nat → Nat) → Int32} (hv : ∀ o, o < K → ct_dep (v o) (fun k => decide (k < 8) && (la o).testBit k))
    (hS : ∀ k, k < K → S.testBit k = (a.testBit k || b.testBit k)) (hd : ∀ k, k < K → a.testBit k = true → b.testBit k = false)
    (hab : ∀ k, (ct_has la b K).testBit k = true → (ct_has la (ct_co K a) K).testBit k = true) (hba : ∀ k, (ct_has la a K).testBit k = true → (ct_has la (ct_co K b) K).testBit k = true)
    (hTa : ∀ k, ct_inn la K R a k = true → T.testBit k = false) (hTb : ∀ k, ct_inn la K R b k = true → T.testBit k = false) (t : Nat → Nat) :
    ct_sm sz (fun k => (ct_lv la K R a ||| ct_lv la K R b ||| T).testBit k && !T.testBit k) 8 (fun u => ct_vs sz la K R v a u * ct_vs sz la K R v b u) t = ct_sm sz (fun k => (ct_has la S K).testBit k && !T.testBit k) 8 (ct_pd v S K) t := by
  have hhas : ∀ k, (ct_has la S K).testBit k = ((ct_has la a K).testBit k || (ct_has la b K).testBit k) := by
    intro k
    apply Bool.eq_iff_iff.mpr
    rw [Bool.or_eq_true, ct_has_bit, ct_has_bit, ct_has_bit]
    constructor
    · rintro ⟨o, h1, h2, h3⟩
      rw [hS o h1, Bool.or_eq_true] at h2
      rcases h2 with h2 | h2
      · exact Or.inl ⟨o, h1, h2, h3⟩
      · exact Or.inr ⟨o, h1, h2, h3⟩
    · rintro (⟨o, h1, h2, h3⟩ | ⟨o, h1, h2, h3⟩)
      · exact ⟨o, h1, by rw [hS o h1, h2, Bool.true_or], h3⟩
      · exact ⟨o, h1, by rw [hS o h1, h2, Bool.or_true], h3⟩
  have eab : ∀ k, ct_inn la K R a k = true → (ct_has la b K).testBit k = false := by
    intro k hk
    cases hb : (ct_has la b K).testBit k with
    | false => rfl
    | true => have := (ct_inn_is hk).2.2; rw [hab k hb] at this; cases this
  have eba : ∀ k, ct_inn la K R b k = true → (ct_has la a K).testBit k = false := by
    intro k hk
    cases hb : (ct_has la a K).testBit k with
    | false => rfl
    | true => have := (ct_inn_is hk).2.2; rw [hba k hb] at this; cases this
  have e1 : ∀ u, ct_vs sz la K R v a u * ct_vs sz la K R v b u = ct_sm sz (ct_inn la K R a) 8 (ct_sm sz (ct_inn la K R b) 8 (ct_pd v S K)) u := by
    intro u
    have h1 : ct_sm sz (ct_inn la K R a) 8 (fun w => ct_pd v a K w * ct_vs sz la K R v b w) u = ct_vs sz la K R v a u * ct_vs sz la K R v b u :=
      ct_sm_mul (ct_pd v a K) (ct_vs_dep hv) 8 (fun k hk hp => by
        have h2 := eab k hp
        cases hl : (ct_lv la K R b).testBit k with
        | false => simp [hl]
        | true => rw [ct_lv_sub hl] at h2; cases h2) u
    rw [← h1]
    refine ct_sm_congr 8 (fun _ _ => rfl) (fun w => ?_) u
    have h3 : ct_sm sz (ct_inn la K R b) 8 (fun x => ct_pd v b K x * ct_pd v a K x) w = ct_vs sz la K R v b w * ct_pd v a K w :=
      ct_sm_mul (ct_pd v b K) (ct_pd_dep K hv) 8 (fun k hk hp => by rw [eba k hp]; simp) w
    rw [Int32.mul_comm, ← h3]
    exact ct_sm_congr 8 (fun _ _ => rfl) (fun x => by rw [Int32.mul_comm]; exact ct_pd_mul K hS hd x) w
  rw [ct_sm_congr 8 (fun _ _ => rfl) e1 t, ← ct_sm_split _ 8 (fun k _ h1 => ?_), ← ct_sm_split _ 8 (fun k _ h1 => ?_)]
  · refine ct_sm_congr 8 (fun k _ => ?_) (fun _ => rfl) t
    apply Bool.eq_iff_iff.mpr
    rw [hhas k]
    constructor
    · intro h
      simp only [Bool.or_eq_true, Bool.and_eq_true, Nat.testBit_or, Bool.not_eq_true'] at h ⊢
      rcases h with (⟨(h | h) | h, h0⟩ | h) | h
      · exact ⟨Or.inl (ct_lv_sub h), h0⟩
      · exact ⟨Or.inr (ct_lv_sub h), h0⟩
      · rw [h] at h0; cases h0
      · exact ⟨Or.inl (ct_inn_is h).1, hTa k h⟩
      · exact ⟨Or.inr (ct_inn_is h).1, hTb k h⟩
    · intro h
      simp only [Bool.or_eq_true, Bool.and_eq_true, Nat.testBit_or, Bool.not_eq_true'] at h ⊢
      obtain ⟨h1, h0⟩ := h
      rcases h1 with h1 | h1
      · cases hl : (ct_lv la K R a).testBit k with
        | true => exact Or.inl (Or.inl ⟨Or.inl (Or.inl rfl), h0⟩)
        | false => exact Or.inl (Or.inr (by simp [ct_inn, h1, hl]))
      · cases hl : (ct_lv la K R b).testBit k with
        | true => exact Or.inl (Or.inl ⟨Or.inl (Or.inr rfl), h0⟩)
        | false => exact Or.inr (by simp [ct_inn, h1, hl])
  · -- X ∪ A apart from B
    cases hb : ct_inn la K R b k with
    | false => rfl
    | true =>
      exfalso
      simp only [Bool.or_eq_true, Bool.and_eq_true, Nat.testBit_or, Bool.not_eq_true'] at h1
      have hb1 := ct_inn_is hb
      have hb2 : (ct_lv la K R b).testBit k = false := by
        have := hb
        unfold ct_inn at this
        rw [Bool.and_eq_true] at this
        simpa using this.2
      rcases h1 with ⟨(h | h) | h, h0⟩ | h
      · have := ct_lv_sub h; rw [eba k hb] at this; cases this
      · rw [hb2] at h; cases h
      · rw [h] at h0; cases h0
      · have := (ct_inn_is h).1; rw [eba k hb] at this; cases this
  · cases ha : ct_inn la K R a k with
    | false => rfl
    | true =>
      exfalso
      simp only [Bool.or_eq_true, Bool.and_eq_true, Nat.testBit_or, Bool.not_eq_true'] at h1
      have ha2 : (ct_lv la K R a).testBit k = false := by
        have := ha
        unfold ct_inn at this
        rw [Bool.and_eq_true] at this
        simpa using this.2
      obtain ⟨h | h, h0⟩ := h1
      · rcases h with h | h
        · rw [ha2] at h; cases h
        · have := ct_lv_sub h; rw [eab k ha] at this; cases this
      · rw [h] at h0; cases h0
end
section
/-! parts of a set, the steps' order, sums over choices in range -/
theorem ct_bit_all : ∀ K, K < 7 → ∀ k, k < 8 → (2 ^ K - 1).testBit k = decide (k < K) := by decide +kernel
theorem ct_co_bit {K S k : Nat} (hK : K ≤ 6) (hk : k < K) : (ct_co K S).testBit k = !S.testBit k := by
  rw [ct_co, Nat.testBit_xor, ct_bit_all K (by omega) k (by omega)]
  simp [hk]
theorem ct_sub_bits {S a : Nat} (h : a &&& S = a) (k : Nat) : (S ^^^ a).testBit k = (S.testBit k && !a.testBit k) ∧ (a.testBit k = true → S.testBit k = true) := by
  have h1 : a.testBit k = (a.testBit k && S.testBit k) := by
    rw [← Nat.testBit_and, h]
  rw [Nat.testBit_xor]
  cases h2 : a.testBit k <;> cases h3 : S.testBit k <;> simp_all
theorem ct_has_mono {la : Nat → Nat} {S S' : Nat} (n : Nat) (h : ∀ k, k < n → S.testBit k = true → S'.testBit k = true) (j : Nat) (hj : (ct_has la S n).testBit j = true) : (ct_has la S' n).testBit j = true := by
  rw [ct_has_bit] at hj ⊢
  obtain ⟨k, h1, h2, h3⟩ := hj
  exact ⟨k, h1, h k h1 h2, h3⟩
section VSS
variable {sz la : Nat → Nat} {K R S a : Nat} {v : Nat → (Nat → Nat) → Int32}
theorem ct_vs_with (hK : K ≤ 6) (hv : ∀ o, o < K → ct_dep (v o) (fun k => decide (k < 8) && (la o).testBit k)) (ha : a &&& S = a) (T : Nat) (hTa : ∀ k, ct_inn la K R a k = true → T.testBit k = false) (hTb : ∀ k, ct_inn la K R (S ^^^ a) k = true → T.testBit k = false) (t : Nat → Nat) :
    ct_sm sz (fun k => (ct_lv la K R a ||| ct_lv la K R (S ^^^ a) ||| T).testBit k && !T.testBit k) 8 (fun u => ct_vs sz la K R v a u * ct_vs sz la K R v (S ^^^ a) u) t = ct_sm sz (fun k => (ct_has la S K).testBit k && !T.testBit k) 8 (ct_pd v S K) t := by
  refine ct_vs_join hv (fun k hk => ?_) (fun k hk h => ?_) (fun k hk => ?_) (fun k hk => ?_) hTa hTb t
  · have h := ct_sub_bits ha k
    rw [h.1]
    cases h2 : a.testBit k with
    | true => rw [h.2 h2]; rfl
    | false => simp
  · have h1 := (ct_sub_bits ha k).1
    rw [h1, h]; simp
  · refine ct_has_mono K (fun o ho h => ?_) k hk
    rw [ct_co_bit hK ho]
    have h1 := (ct_sub_bits ha o).1
    rw [h1] at h
    simp at h
    simp [h.2]
  · refine ct_has_mono K (fun o ho h => ?_) k hk
    rw [ct_co_bit hK ho, (ct_sub_bits ha o).1, h]
    simp
theorem ct_vs_step (hK : K ≤ 6) (hv : ∀ o, o < K → ct_dep (v o) (fun k => decide (k < 8) && (la o).testBit k)) (ha : a &&& S = a) (hs : ct_sev S = true) (t : Nat → Nat) :
    ct_sm sz (fun k => (ct_lv la K R a ||| ct_lv la K R (S ^^^ a) ||| ct_lv la K R S).testBit k && !(ct_lv la K R S).testBit k) 8 (fun u => ct_vs sz la K R v a u * ct_vs sz la K R v (S ^^^ a) u) t = ct_vs sz la K R v S t := by
  have key : ∀ x, (∀ o, o < K → (ct_co K S).testBit o = true → (ct_co K x).testBit o = true) → ∀ k, ct_inn la K R x k = true → (ct_lv la K R S).testBit k = false := by
    intro x hx k hk
    have h1 := ct_inn_is hk
    cases hl : (ct_lv la K R S).testBit k with
    | false => rfl
    | true =>
      exfalso
      unfold ct_lv at hl
      rw [if_pos hs, Nat.testBit_and, Nat.testBit_or, Bool.and_eq_true, Bool.or_eq_true] at hl
      rcases hl.2 with h | h
      · rw [h1.2.1] at h; cases h
      · have := ct_has_mono K hx k h
        rw [h1.2.2] at this; cases this
  refine ct_vs_with hK hv ha _ (key a (fun o ho h => ?_)) (key _ (fun o ho h => ?_)) t
  · rw [ct_co_bit hK ho] at h ⊢
    have h1 := (ct_sub_bits ha o).2
    cases h2 : a.testBit o with
    | false => rfl
    | true => rw [h1 h2] at h; cases h
  · rw [ct_co_bit hK ho] at h ⊢
    rw [(ct_sub_bits ha o).1]
    simp at h
    simp [h]
theorem ct_vs_last (hK : K ≤ 6) (hv : ∀ o, o < K → ct_dep (v o) (fun k => decide (k < 8) && (la o).testBit k)) (ha : a &&& S = a) (t : Nat → Nat) :
    ct_sm sz (fun k => (ct_lv la K R a ||| ct_lv la K R (S ^^^ a) ||| R).testBit k && !R.testBit k) 8 (fun u => ct_vs sz la K R v a u * ct_vs sz la K R v (S ^^^ a) u) t = ct_sm sz (fun k => (ct_has la S K).testBit k && !R.testBit k) 8 (ct_pd v S K) t :=
  ct_vs_with hK hv ha R (fun k h => (ct_inn_is h).2.1) (fun k h => (ct_inn_is h).2.1) t
end VSS
theorem ct_sm_congrV {sz : Nat → Nat} {P V : Nat → Bool} {F F' : (Nat → Nat) → Int32} (hF : ∀ t : Nat → Nat, (∀ k, k < 8 → V k = true → t k < sz k) → F t = F' t) (n : Nat) : ∀ t : Nat → Nat, (∀ k, k < 8 → V k = true → (k < n ∧ P k = true) ∨ t k < sz k) → ct_sm sz P n F t = ct_sm sz P n F' t := by
  induction n with
  | zero => exact fun t h => hF t (fun k hk hV => (h k hk hV).resolve_left (fun z => by omega))
  | succ n ih =>
    intro t h
    cases hp : P n with
    | true =>
      rw [ct_sm_in hp, ct_sm_in hp]
      refine ct_sum_congr fun i hi => ih _ (fun k hk hV => ?_)
      by_cases hn : k = n
      · right; rw [hn, ct_st_at]; exact hi
      · rw [ct_st_ne _ _ hn]
        rcases h k hk hV with h1 | h1
        · exact Or.inl ⟨by omega, h1.2⟩
        · exact Or.inr h1
    | false =>
      rw [ct_sm_out hp, ct_sm_out hp]
      refine ih _ (fun k hk hV => ?_)
      rcases h k hk hV with h1 | h1
      · left
        refine ⟨?_, h1.2⟩
        by_cases hn : k = n
        · rw [hn, hp] at h1; cases h1.2
        · omega
      · exact Or.inr h1
theorem ct_ls_end {B : Nat → Nat × Nat} (hB : ct_okB B) {S : Nat} (hS : S < 64) (hs : ct_sev S = true) : 0 < (ct_ls B 64 S).length ∧ (ct_ls B 64 S).getD ((ct_ls B 64 S).length - 1) 0 = S := by
  rw [ct_ls_sev hB hS hs]
  generalize ct_ls B 64 (B S).2 ++ ct_ls B 64 (S ^^^ (B S).2) = l
  have hl : (l ++ [S]).length = l.length + 1 := by rw [List.length_append]; rfl
  rw [hl]
  exact ⟨by omega, ct_gd_r⟩
theorem ct_gd_app1 {l r : List Nat} {d : Nat} (h : d < l.length) : (l ++ r).getD d 0 = l.getD d 0 := by
  simp [List.getD, List.getElem?_append_left h]
theorem ct_gd_app2 {l r : List Nat} {d : Nat} (h : l.length ≤ d) : (l ++ r).getD d 0 = r.getD (d - l.length) 0 := by
  simp [List.getD, List.getElem?_append_right h]
/-- a step's parts of several operands came before -/
def ct_prev (B : Nat → Nat × Nat) (T : List Nat) : Prop := ∀ k, k < T.length → ct_sev (T.getD k 0) = true ∧ T.getD k 0 < 64 ∧ (ct_sev (B (T.getD k 0)).2 = true → ∃ j, j < k ∧ T.getD j 0 = (B (T.getD k 0)).2) ∧ (ct_sev (T.getD k 0 ^^^ (B (T.getD k 0)).2) = true → ∃ j, j < k ∧ T.getD j 0 = T.getD k 0 ^^^ (B (T.getD k 0)).2)
theorem ct_ls_prev {B : Nat → Nat × Nat} (hB : ct_okB B) : ∀ (n S : Nat), S < n → S < 64 → ct_prev B (ct_ls B 64 S) := by
  intro n
  induction n with
  | zero => intro S h; omega
  | succ n ih =>
    intro S h hS
    cases hs : ct_sev S with
    | false => rw [ct_ls_one hs]; exact fun k hk => absurd hk (Nat.not_lt_zero k)
    | true =>
      have hp := hB S hS hs
      have hc := ct_pt_co S hS _ hp.1 hp.2
      have ia := ih (B S).2 (by omega) (by omega)
      have ib := ih (S ^^^ (B S).2) (by omega) (by omega)
      have ea := fun z => ct_ls_end hB (S := (B S).2) (by omega) z
      have eb := fun z => ct_ls_end hB (S := S ^^^ (B S).2) (by omega) z
      rw [ct_ls_sev hB hS hs]
      generalize hpa : (B S).2 = pa at *
      generalize hot : S ^^^ pa = ot at *
      generalize ct_ls B 64 pa = l1 at *
      generalize ct_ls B 64 ot = l2 at *
      intro k hk
      have hl : (l1 ++ l2 ++ [S]).length = l1.length + l2.length + 1 := by rw [List.length_append, List.length_append]; rfl
      have hl2 : (l1 ++ l2).length = l1.length + l2.length := List.length_append
      by_cases h1 : k < l1.length
      · have e : ∀ j, j ≤ k → (l1 ++ l2 ++ [S]).getD j 0 = l1.getD j 0 := fun j hj => by rw [ct_gd_app1 (by omega), ct_gd_app1 (by omega)]
        rw [e k (Nat.le_refl k)]
        obtain ⟨q1, q2, q3, q4⟩ := ia k h1
        exact ⟨q1, q2, fun z => by obtain ⟨j, j1, j2⟩ := q3 z; exact ⟨j, j1, by rw [e j (by omega)]; exact j2⟩, fun z => by obtain ⟨j, j1, j2⟩ := q4 z; exact ⟨j, j1, by rw [e j (by omega)]; exact j2⟩⟩
      · by_cases h2 : k < l1.length + l2.length
        · have e : ∀ j, j < l2.length → (l1 ++ l2 ++ [S]).getD (l1.length + j) 0 = l2.getD j 0 := fun j hj => by rw [ct_gd_app1 (by omega), ct_gd_app2 (by omega), Nat.add_sub_cancel_left]
          obtain ⟨i, rfl⟩ : ∃ i, k = l1.length + i := ⟨k - l1.length, by omega⟩
          rw [e i (by omega)]
          obtain ⟨q1, q2, q3, q4⟩ := ib i (by omega)
          exact ⟨q1, q2, fun z => by obtain ⟨j, j1, j2⟩ := q3 z; exact ⟨l1.length + j, by omega, by rw [e j (by omega)]; exact j2⟩, fun z => by obtain ⟨j, j1, j2⟩ := q4 z; exact ⟨l1.length + j, by omega, by rw [e j (by omega)]; exact j2⟩⟩
        · have hk2 : k = (l1 ++ l2).length := by omega
          rw [hk2, ct_gd_r, hpa, hot]
          refine ⟨hs, hS, fun z => ⟨l1.length - 1, by have := (ea z).1; omega, ?_⟩, fun z => ⟨l1.length + (l2.length - 1), by have := (eb z).1; omega, ?_⟩⟩
          · have := (ea z).1
            rw [ct_gd_app1 (by omega), ct_gd_app1 (by omega)]; exact (ea z).2
          · have := (eb z).1
            rw [ct_gd_app1 (by omega), ct_gd_app2 (by omega), Nat.add_sub_cancel_left]; exact (eb z).2
end
section
theorem d_H_makePlan_0 : decode b_H_makePlan 0 = .ok (.aload_n 0, 1) := by decide +kernel
theorem d_H_makePlan_1 : decode b_H_makePlan 1 = .ok (.getfield 167, 3) := by decide +kernel
theorem d_H_makePlan_4 : decode b_H_makePlan 4 = .ok (.ifCond .ne 27, 3) := by decide +kernel
theorem d_H_makePlan_7 : decode b_H_makePlan 7 = .ok (.aload_n 0, 1) := by decide +kernel
theorem d_H_makePlan_8 : decode b_H_makePlan 8 = .ok (.getfield 21, 3) := by decide +kernel
theorem d_H_makePlan_11 : decode b_H_makePlan 11 = .ok (.aload_n 0, 1) := by decide +kernel
theorem d_H_makePlan_12 : decode b_H_makePlan 12 = .ok (.getfield 39, 3) := by decide +kernel
theorem d_H_makePlan_15 : decode b_H_makePlan 15 = .ok (.aload_n 0, 1) := by decide +kernel
theorem d_H_makePlan_16 : decode b_H_makePlan 16 = .ok (.getfield 110, 3) := by decide +kernel
theorem d_H_makePlan_19 : decode b_H_makePlan 19 = .ok (.aload_n 0, 1) := by decide +kernel
theorem d_H_makePlan_20 : decode b_H_makePlan 20 = .ok (.getfield 113, 3) := by decide +kernel
theorem d_H_makePlan_23 : decode b_H_makePlan 23 = .ok (.invokevirtual 170, 3) := by decide +kernel
theorem d_H_makePlan_26 : decode b_H_makePlan 26 = .ok (.aload_n 0, 1) := by decide +kernel
theorem d_H_makePlan_27 : decode b_H_makePlan 27 = .ok (.iconst 1, 1) := by decide +kernel
theorem d_H_makePlan_28 : decode b_H_makePlan 28 = .ok (.putfield 167, 3) := by decide +kernel
theorem d_H_makePlan_31 : decode b_H_makePlan 31 = .ok (.return_, 1) := by decide +kernel
theorem d_H_joinParts_0 : decode b_H_joinParts 0 = .ok (.aload_n 0, 1) := by decide +kernel
theorem d_H_joinParts_1 : decode b_H_joinParts 1 = .ok (.getfield 21, 3) := by decide +kernel
theorem d_H_joinParts_4 : decode b_H_joinParts 4 = .ok (.iload_n 1, 1) := by decide +kernel
theorem d_H_joinParts_5 : decode b_H_joinParts 5 = .ok (.invokevirtual 141, 3) := by decide +kernel
theorem d_H_joinParts_8 : decode b_H_joinParts 8 = .ok (.istore 4, 2) := by decide +kernel
theorem d_H_joinParts_10 : decode b_H_joinParts 10 = .ok (.iload_n 1, 1) := by decide +kernel
theorem d_H_joinParts_11 : decode b_H_joinParts 11 = .ok (.iload 4, 2) := by decide +kernel
theorem d_H_joinParts_13 : decode b_H_joinParts 13 = .ok (.ixor, 1) := by decide +kernel
theorem d_H_joinParts_14 : decode b_H_joinParts 14 = .ok (.istore 5, 2) := by decide +kernel
theorem d_H_joinParts_16 : decode b_H_joinParts 16 = .ok (.aload_n 0, 1) := by decide +kernel
theorem d_H_joinParts_17 : decode b_H_joinParts 17 = .ok (.getfield 28, 3) := by decide +kernel
theorem d_H_joinParts_20 : decode b_H_joinParts 20 = .ok (.aload_n 0, 1) := by decide +kernel
theorem d_H_joinParts_21 : decode b_H_joinParts 21 = .ok (.getfield 42, 3) := by decide +kernel
theorem d_H_joinParts_24 : decode b_H_joinParts 24 = .ok (.iload 4, 2) := by decide +kernel
theorem d_H_joinParts_26 : decode b_H_joinParts 26 = .ok (.iaload, 1) := by decide +kernel
theorem d_H_joinParts_27 : decode b_H_joinParts 27 = .ok (.aload_n 0, 1) := by decide +kernel
theorem d_H_joinParts_28 : decode b_H_joinParts 28 = .ok (.getfield 21, 3) := by decide +kernel
theorem d_H_joinParts_31 : decode b_H_joinParts 31 = .ok (.iload 4, 2) := by decide +kernel
theorem d_H_joinParts_33 : decode b_H_joinParts 33 = .ok (.invokevirtual 178, 3) := by decide +kernel
theorem d_H_joinParts_36 : decode b_H_joinParts 36 = .ok (.aload_n 0, 1) := by decide +kernel
theorem d_H_joinParts_37 : decode b_H_joinParts 37 = .ok (.getfield 42, 3) := by decide +kernel
theorem d_H_joinParts_40 : decode b_H_joinParts 40 = .ok (.iload 5, 2) := by decide +kernel
theorem d_H_joinParts_42 : decode b_H_joinParts 42 = .ok (.iaload, 1) := by decide +kernel
theorem d_H_joinParts_43 : decode b_H_joinParts 43 = .ok (.aload_n 0, 1) := by decide +kernel
theorem d_H_joinParts_44 : decode b_H_joinParts 44 = .ok (.getfield 21, 3) := by decide +kernel
theorem d_H_joinParts_47 : decode b_H_joinParts 47 = .ok (.iload 5, 2) := by decide +kernel
theorem d_H_joinParts_49 : decode b_H_joinParts 49 = .ok (.invokevirtual 178, 3) := by decide +kernel
theorem d_H_joinParts_52 : decode b_H_joinParts 52 = .ok (.iload_n 2, 1) := by decide +kernel
theorem d_H_joinParts_53 : decode b_H_joinParts 53 = .ok (.iload_n 3, 1) := by decide +kernel
theorem d_H_joinParts_54 : decode b_H_joinParts 54 = .ok (.invokevirtual 174, 3) := by decide +kernel
theorem d_H_joinParts_57 : decode b_H_joinParts 57 = .ok (.aload_n 0, 1) := by decide +kernel
theorem d_H_joinParts_58 : decode b_H_joinParts 58 = .ok (.getfield 42, 3) := by decide +kernel
theorem d_H_joinParts_61 : decode b_H_joinParts 61 = .ok (.iload_n 1, 1) := by decide +kernel
theorem d_H_joinParts_62 : decode b_H_joinParts 62 = .ok (.iload_n 2, 1) := by decide +kernel
theorem d_H_joinParts_63 : decode b_H_joinParts 63 = .ok (.iastore, 1) := by decide +kernel
theorem d_H_joinParts_64 : decode b_H_joinParts 64 = .ok (.return_, 1) := by decide +kernel
theorem d_H_sumAlone_0 : decode b_H_sumAlone 0 = .ok (.aload_n 0, 1) := by decide +kernel
theorem d_H_sumAlone_1 : decode b_H_sumAlone 1 = .ok (.getfield 110, 3) := by decide +kernel
theorem d_H_sumAlone_4 : decode b_H_sumAlone 4 = .ok (.ifCond .ne 9, 3) := by decide +kernel
theorem d_H_sumAlone_7 : decode b_H_sumAlone 7 = .ok (.sipush 243, 3) := by decide +kernel
theorem d_H_sumAlone_10 : decode b_H_sumAlone 10 = .ok (.goto 12, 3) := by decide +kernel
theorem d_H_sumAlone_13 : decode b_H_sumAlone 13 = .ok (.aload_n 0, 1) := by decide +kernel
theorem d_H_sumAlone_14 : decode b_H_sumAlone 14 = .ok (.getfield 36, 3) := by decide +kernel
theorem d_H_sumAlone_17 : decode b_H_sumAlone 17 = .ok (.iconst 0, 1) := by decide +kernel
theorem d_H_sumAlone_18 : decode b_H_sumAlone 18 = .ok (.iaload, 1) := by decide +kernel
theorem d_H_sumAlone_19 : decode b_H_sumAlone 19 = .ok (.invokestatic 104, 3) := by decide +kernel
theorem d_H_sumAlone_22 : decode b_H_sumAlone 22 = .ok (.istore_n 1, 1) := by decide +kernel
theorem d_H_sumAlone_23 : decode b_H_sumAlone 23 = .ok (.aload_n 0, 1) := by decide +kernel
theorem d_H_sumAlone_24 : decode b_H_sumAlone 24 = .ok (.getfield 110, 3) := by decide +kernel
theorem d_H_sumAlone_27 : decode b_H_sumAlone 27 = .ok (.ifCond .ne 7, 3) := by decide +kernel
theorem d_H_sumAlone_30 : decode b_H_sumAlone 30 = .ok (.iconst 0, 1) := by decide +kernel
theorem d_H_sumAlone_31 : decode b_H_sumAlone 31 = .ok (.goto 9, 3) := by decide +kernel
theorem d_H_sumAlone_34 : decode b_H_sumAlone 34 = .ok (.aload_n 0, 1) := by decide +kernel
theorem d_H_sumAlone_35 : decode b_H_sumAlone 35 = .ok (.getfield 39, 3) := by decide +kernel
theorem d_H_sumAlone_38 : decode b_H_sumAlone 38 = .ok (.iconst 0, 1) := by decide +kernel
theorem d_H_sumAlone_39 : decode b_H_sumAlone 39 = .ok (.iaload, 1) := by decide +kernel
theorem d_H_sumAlone_40 : decode b_H_sumAlone 40 = .ok (.istore_n 2, 1) := by decide +kernel
theorem d_H_sumAlone_41 : decode b_H_sumAlone 41 = .ok (.aload_n 0, 1) := by decide +kernel
theorem d_H_sumAlone_42 : decode b_H_sumAlone 42 = .ok (.getfield 28, 3) := by decide +kernel
theorem d_H_sumAlone_45 : decode b_H_sumAlone 45 = .ok (.iload_n 1, 1) := by decide +kernel
theorem d_H_sumAlone_46 : decode b_H_sumAlone 46 = .ok (.iload_n 2, 1) := by decide +kernel
theorem d_H_sumAlone_47 : decode b_H_sumAlone 47 = .ok (.sipush 243, 3) := by decide +kernel
theorem d_H_sumAlone_50 : decode b_H_sumAlone 50 = .ok (.iconst 0, 1) := by decide +kernel
theorem d_H_sumAlone_51 : decode b_H_sumAlone 51 = .ok (.sipush 216, 3) := by decide +kernel
theorem d_H_sumAlone_54 : decode b_H_sumAlone 54 = .ok (.aload_n 0, 1) := by decide +kernel
theorem d_H_sumAlone_55 : decode b_H_sumAlone 55 = .ok (.getfield 113, 3) := by decide +kernel
theorem d_H_sumAlone_58 : decode b_H_sumAlone 58 = .ok (.invokevirtual 174, 3) := by decide +kernel
theorem d_H_sumAlone_61 : decode b_H_sumAlone 61 = .ok (.return_, 1) := by decide +kernel
set_option maxHeartbeats 4000000 in
set_option maxRecDepth 100000 in
theorem c_H_makePlan (l : Launch) (dC : Nat → ClassId) (dI : Nat → Nat → Nat) (cI : ClassId) (z1 : Nat) (sz : Nat → Nat) (p1 p2 p3 p4 p5 : Nat) (h0 z0 p0 r0 k1 k2 k3 k4 : Nat) (tab sm : Int32) (K R pf : Nat) (fh fl fc fp fj fo : Nat → Int32) (la : Nat → Nat) (hK6 : K ≤ 6) (hK2 : 2 ≤ K) (hsz : ∀ k, k < 8 → sz k ≤ 3) (hla : ∀ k, k < K → la k < 256) (hfo : ∀ j, j < K → fo j = nI (la j)) (hk0 : ct_plk fh fc) (hpf : pf = 0 ∨ pf = 1) (hok : pf = 1 → ct_plok sz la K R fh fl fc fp fj) (sz0 : Nat) : Met l y_H_makePlan w_H_makePlan ({ frames := 4, cells := 0, slots := 0, locals := 97 }) (va_Pc [.ref h0] (ct_rw (dC, dI) ct_cl [(h0, .inr (0, [.ref z0, .ref p0, .ref r0, .int tab, .ref k1, .int (nI K), .ref k2, .ref k3, .int (nI R), .ref k4, .int (nI pf), .int sm])), (p0, .inr (2, [.ref z0, .ref p1, .ref p2, .ref p3, .ref p4, .ref p5])), (p1, .inl (cI, 64, .inl fh)), (p2, .inl (cI, 64, .inl fl)), (p3, .inl (cI, 64, .inl fc)), (p4, .inl (cI, 64, .inl fp)), (p5, .inl (cI, 5, .inl fj)), (z0, .inr (1, [.ref z1])), (z1, .inl (cI, 8, .inl (fun j => nI (sz j)))), (k3, .inl (cI, 6, .inl fo))] [(cI, .int)] sz0)) (va_Qv (fun (u : (Nat → Int32) × (Nat → Int32) × (Nat → Int32) × (Nat → Int32) × (Nat → Int32)) => ct_plok sz la K R u.1 u.2.1 u.2.2.1 u.2.2.2.1 u.2.2.2.2 ∧ ct_plk u.1 u.2.2.1) (fun (u : (Nat → Int32) × (Nat → Int32) × (Nat → Int32) × (Nat → Int32) × (Nat → Int32)) t => ct_at (dC, dI) ct_cl [(cI, .int)] (va_A [(h0, .inr (0, [.ref z0, .ref p0, .ref r0, .int tab, .ref k1, .int (nI K), .ref k2, .ref k3, .int (nI R), .ref k4, .int (nI pf), .int sm])), (p0, .inr (2, [.ref z0, .ref p1, .ref p2, .ref p3, .ref p4, .ref p5])), (p1, .inl (cI, 64, .inl fh)), (p2, .inl (cI, 64, .inl fl)), (p3, .inl (cI, 64, .inl fc)), (p4, .inl (cI, 64, .inl fp)), (p5, .inl (cI, 5, .inl fj)), (z0, .inr (1, [.ref z1])), (z1, .inl (cI, 8, .inl (fun j => nI (sz j)))), (k3, .inl (cI, 6, .inl fo))] sz0) [(h0, .inr (0, [.ref z0, .ref p0, .ref r0, .int tab, .ref k1, .int (nI K), .ref k2, .ref k3, .int (nI R), .ref k4, .int (nI 1), .int sm])), (p0, .inr (2, [.ref z0, .ref p1, .ref p2, .ref p3, .ref p4, .ref p5])), (p1, .inl (cI, 64, .inl (u.1))), (p2, .inl (cI, 64, .inl (u.2.1))), (p3, .inl (cI, 64, .inl (u.2.2.1))), (p4, .inl (cI, 64, .inl (u.2.2.2.1))), (p5, .inl (cI, 5, .inl (u.2.2.2.2))), (z0, .inr (1, [.ref z1])), (z1, .inl (cI, 8, .inl (fun j => nI (sz j)))), (k3, .inl (cI, 6, .inl fo))] t) (va_A [(h0, .inr (0, [.ref z0, .ref p0, .ref r0, .int tab, .ref k1, .int (nI K), .ref k2, .ref k3, .int (nI R), .ref k4, .int (nI pf), .int sm])), (p0, .inr (2, [.ref z0, .ref p1, .ref p2, .ref p3, .ref p4, .ref p5])), (p1, .inl (cI, 64, .inl fh)), (p2, .inl (cI, 64, .inl fl)), (p3, .inl (cI, 64, .inl fc)), (p4, .inl (cI, 64, .inl fp)), (p5, .inl (cI, 5, .inl fj)), (z0, .inr (1, [.ref z1])), (z1, .inl (cI, 8, .inl (fun j => nI (sz j)))), (k3, .inl (cI, 6, .inl fo))] sz0)) 0 0 (va_A [(h0, .inr (0, [.ref z0, .ref p0, .ref r0, .int tab, .ref k1, .int (nI K), .ref k2, .ref k3, .int (nI R), .ref k4, .int (nI pf), .int sm])), (p0, .inr (2, [.ref z0, .ref p1, .ref p2, .ref p3, .ref p4, .ref p5])), (p1, .inl (cI, 64, .inl fh)), (p2, .inl (cI, 64, .inl fl)), (p3, .inl (cI, 64, .inl fc)), (p4, .inl (cI, 64, .inl fp)), (p5, .inl (cI, 5, .inl fj)), (z0, .inr (1, [.ref z1])), (z1, .inl (cI, 8, .inl (fun j => nI (sz j)))), (k3, .inl (cI, 6, .inl fo))] sz0) := by
  refine Met.ofW (cc := b_H_makePlan) (maxL := 1) (ret := none) (by decide) rfl ?_
  intro p e s m args below meth c s₁ Bd hml hv
  obtain ⟨hargs, hsz, hP, hK, hD0⟩ := hv
  have hx := Bd.exec
  have hb := Bd.bytes
  have hr := Bd.returns
  have hts : ∀ w ∈ k_H_makePlan :: ct_tb, w.before args s = true := atoms_spec (ws := w_H_makePlan) Bd.pre
  have hown : s.vm.findClass R_H = some m.cls := findClass_of_methodNamed Bd.named
  have hlocks := Bd.notSynchronized
  subst hsz
  have hD := hD0.self (sz := s.heap.size)
  generalize hAe : va_A [(h0, .inr (0, [.ref z0, .ref p0, .ref r0, .int tab, .ref k1, .int (nI K), .ref k2, .ref k3, .int (nI R), .ref k4, .int (nI pf), .int sm])), (p0, .inr (2, [.ref z0, .ref p1, .ref p2, .ref p3, .ref p4, .ref p5])), (p1, .inl (cI, 64, .inl fh)), (p2, .inl (cI, 64, .inl fl)), (p3, .inl (cI, 64, .inl fc)), (p4, .inl (cI, 64, .inl fp)), (p5, .inl (cI, 5, .inl fj)), (z0, .inr (1, [.ref z1])), (z1, .inl (cI, 8, .inl (fun j => nI (sz j)))), (k3, .inl (cI, 6, .inl fo))] s.heap.size = A at hD ⊢
  have hA : ∀ q : Nat, s.heap.size ≤ q → A q := fun q h => by rw [← hAe]; exact Or.inr h
  have hS : va_S A s.heap s.heap [] := va_S.rf
  have hl := lv_entry ([.ref h0]) (n := 1) (Nat.le_of_ble_eq_true rfl)
  rw [show entryFrame m args 1 = entryFrame m (([.ref h0] : List Value)).toArray 1 by rw [hargs], lg_entry_eq]
  generalize (lg_sl ([.ref h0]) ++ List.replicate (1 - (lg_sl ([.ref h0])).length) Slot.unset).toArray = ls at hl ⊢
  have hl : lv_has ls 1 [(0, .ref h0)] := hl
  refine lv_aload_n hx hb d_H_makePlan_0 rfl (lv_at hl 0 rfl) ?_
  refine va_get (D := (dC, dI)) (ci := 0) (v := .int (nI pf)) (C := R_H) (T := T_H) (N := 12) hx hb hts (fun w h9 => ct_tl (ki_H w h9)) hown hK hP 0 rfl rfl 10 (by decide) (hts _ (ct_tl kw_124)) (fun _ h9 => h9) rfl d_H_makePlan_1 ?_
  by_cases hq : pf = 1
  · subst hq
    refine lv_if_ne (tgt := 31) hx hb d_H_makePlan_4 (by decide) (fun _ => ?_) (fun hc9 => absurd hc9 (nI_ne0 (by omega) (by omega)))
    have hP9 := hP.sub [0, 1, 2, 3, 4, 5, 6, 7, 8, 9] rfl
    exact W.vret hx hb hr (fun tS ht hW => ⟨⟨(fh, fl, fc, fp, fj), rfl, ⟨hok rfl, hk0⟩, by rw [ht]; exact hP9, va_K.moved hW.alike hK, hD.sub [0, 1, 2, 3, 4, 5, 6, 7, 8, 9] (by decide) rfl⟩, hS.F ht⟩) hS.2.2 d_H_makePlan_31
  · obtain rfl : pf = 0 := hpf.resolve_right hq
    refine lv_if_ne (tgt := 31) hx hb d_H_makePlan_4 (by decide) (fun hc9 => absurd (nI_0) hc9) (fun _ => ?_)
    refine lv_aload_n hx hb d_H_makePlan_7 rfl (lv_at hl 0 rfl) ?_
    refine va_get (D := (dC, dI)) (ci := 0) (v := .ref p0) (C := R_H) (T := T_H) (N := 12) hx hb hts (fun w h9 => ct_tl (ki_H w h9)) hown hK hP 0 rfl rfl 1 (by decide) (hts _ (ct_tl kw_115)) (fun _ h9 => h9) rfl d_H_makePlan_8 ?_
    refine lv_aload_n hx hb d_H_makePlan_11 rfl (lv_at hl 0 rfl) ?_
    refine va_get (D := (dC, dI)) (ci := 0) (v := .ref k3) (C := R_H) (T := T_H) (N := 12) hx hb hts (fun w h9 => ct_tl (ki_H w h9)) hown hK hP 0 rfl rfl 7 (by decide) (hts _ (ct_tl kw_121)) (fun _ h9 => h9) rfl d_H_makePlan_12 ?_
    refine lv_aload_n hx hb d_H_makePlan_15 rfl (lv_at hl 0 rfl) ?_
    refine va_get (D := (dC, dI)) (ci := 0) (v := .int (nI K)) (C := R_H) (T := T_H) (N := 12) hx hb hts (fun w h9 => ct_tl (ki_H w h9)) hown hK hP 0 rfl rfl 5 (by decide) (hts _ (ct_tl kw_119)) (fun _ h9 => h9) rfl d_H_makePlan_16 ?_
    refine lv_aload_n hx hb d_H_makePlan_19 rfl (lv_at hl 0 rfl) ?_
    refine va_get (D := (dC, dI)) (ci := 0) (v := .int (nI R)) (C := R_H) (T := T_H) (N := 12) hx hb hts (fun w h9 => ct_tl (ki_H w h9)) hown hK hP 0 rfl rfl 8 (by decide) (hts _ (ct_tl kw_122)) (fun _ h9 => h9) rfl d_H_makePlan_20 ?_
    have hPc := hP.sub (ws' := [(p0, .inr (2, [.ref z0, .ref p1, .ref p2, .ref p3, .ref p4, .ref p5])), (p1, .inl (cI, 64, .inl fh)), (p2, .inl (cI, 64, .inl fl)), (p3, .inl (cI, 64, .inl fc)), (p4, .inl (cI, 64, .inl fp)), (p5, .inl (cI, 5, .inl fj)), (z0, .inr (1, [.ref z1])), (z1, .inl (cI, 8, .inl (fun j => nI (sz j)))), (k3, .inl (cI, 6, .inl fo))]) [1, 2, 3, 4, 5, 6, 7, 8, 9] rfl
    have hDc := hD.sub (ws' := [(p0, .inr (2, [.ref z0, .ref p1, .ref p2, .ref p3, .ref p4, .ref p5])), (p1, .inl (cI, 64, .inl fh)), (p2, .inl (cI, 64, .inl fl)), (p3, .inl (cI, 64, .inl fc)), (p4, .inl (cI, 64, .inl fp)), (p5, .inl (cI, 5, .inl fj)), (z0, .inr (1, [.ref z1])), (z1, .inl (cI, 8, .inl (fun j => nI (sz j)))), (k3, .inl (cI, 6, .inl fo))]) [1, 2, 3, 4, 5, 6, 7, 8, 9] (by decide) rfl
    have hFc := va_free (wc := [(p0, .inr (2, [.ref z0, .ref p1, .ref p2, .ref p3, .ref p4, .ref p5])), (p1, .inl (cI, 64, .inl fh)), (p2, .inl (cI, 64, .inl fl)), (p3, .inl (cI, 64, .inl fc)), (p4, .inl (cI, 64, .inl fp)), (p5, .inl (cI, 5, .inl fj)), (z0, .inr (1, [.ref z1])), (z1, .inl (cI, 8, .inl (fun j => nI (sz j)))), (k3, .inl (cI, 6, .inl fo))]) hD hS hA [1, 2, 3, 4, 5, 6, 7, 8, 9] rfl
    refine va_callv (va_runV (As := [.ref k3, .int (nI K), .int (nI R)]) (rest := []) ⟨hx, hb, hml, hown, hts⟩ (c_P_make l dC dI cI z1 sz z0 p0 p1 p2 p3 p4 p5 k3 fh fl fc fp fj fo la K R hK6 hK2 hsz hla hfo hk0 s.heap.size) (cwV 3 hts (ct_giV (fun w h9 => ct_tl h9) kw_167 kw_168 kw_169 kw_28 kw_170) rfl rfl rfl (by decide +kernel) ⟨Nat.le_of_ble_eq_true rfl, Nat.le_of_ble_eq_true rfl⟩) ⟨ct_rw_blind, va_recv hK hP (ci := 2) (q0 := 1) rfl rfl, ct_rw_pre hPc hK hDc⟩ rfl rfl hl.1 rfl (lv_room (Nat.le_of_ble_eq_true rfl)) d_H_makePlan_23 ⟨Nat.le_of_ble_eq_true rfl, Nat.le_of_ble_eq_true rfl⟩) hS (fun q _ h9 => hFc q h9) hFc (fun ⟨gh, gl, gc, gp, gj⟩ tS H1 locs ht hvm hmk hB hz1 hk1 hS => ?_)
    obtain ⟨hP1, -, hD1⟩ := hB
    rw [ht] at hP1
    obtain ⟨hP, hD⟩ := va_join (wr := [(h0, .inr (0, [.ref z0, .ref p0, .ref r0, .int tab, .ref k1, .int (nI K), .ref k2, .ref k3, .int (nI R), .ref k4, .int (nI 0), .int sm]))]) (w1 := [(p0, .inr (2, [.ref z0, .ref p1, .ref p2, .ref p3, .ref p4, .ref p5])), (p1, .inl (cI, 64, .inl gh)), (p2, .inl (cI, 64, .inl gl)), (p3, .inl (cI, 64, .inl gc)), (p4, .inl (cI, 64, .inl gp)), (p5, .inl (cI, 5, .inl gj)), (z0, .inr (1, [.ref z1])), (z1, .inl (cI, 8, .inl (fun j => nI (sz j)))), (k3, .inl (cI, 6, .inl fo))]) hP hD [1, 2, 3, 4, 5, 6, 7, 8, 9] [0] rfl rfl (by decide) (by decide) hk1 hFc hP1 hD1
    generalize H1 = H at hP hS ⊢
    have hP : va_P (dC, dI) ct_cl [(h0, .inr (0, [.ref z0, .ref p0, .ref r0, .int tab, .ref k1, .int (nI K), .ref k2, .ref k3, .int (nI R), .ref k4, .int (nI 0), .int sm])), (p0, .inr (2, [.ref z0, .ref p1, .ref p2, .ref p3, .ref p4, .ref p5])), (p1, .inl (cI, 64, .inl gh)), (p2, .inl (cI, 64, .inl gl)), (p3, .inl (cI, 64, .inl gc)), (p4, .inl (cI, 64, .inl gp)), (p5, .inl (cI, 5, .inl gj)), (z0, .inr (1, [.ref z1])), (z1, .inl (cI, 8, .inl (fun j => nI (sz j)))), (k3, .inl (cI, 6, .inl fo))] H := hP
    have hD : va_D A [(h0, .inr (0, [.ref z0, .ref p0, .ref r0, .int tab, .ref k1, .int (nI K), .ref k2, .ref k3, .int (nI R), .ref k4, .int (nI 0), .int sm])), (p0, .inr (2, [.ref z0, .ref p1, .ref p2, .ref p3, .ref p4, .ref p5])), (p1, .inl (cI, 64, .inl gh)), (p2, .inl (cI, 64, .inl gl)), (p3, .inl (cI, 64, .inl gc)), (p4, .inl (cI, 64, .inl gp)), (p5, .inl (cI, 5, .inl gj)), (z0, .inr (1, [.ref z1])), (z1, .inl (cI, 8, .inl (fun j => nI (sz j)))), (k3, .inl (cI, 6, .inl fo))] := hD
    refine lv_aload_n hx hb d_H_makePlan_26 rfl (lv_at hl 0 rfl) ?_
    refine lv_iconst (v := (nI 1)) hx hb d_H_makePlan_27 (by decide) ?_
    refine va_put (D := (dC, dI)) (ci := 0) (v := .int (nI 1)) (ty := .boolean) (C := R_H) (T := T_H) (N := 12) hx hb hts (fun w h9 => ct_tl (ki_H w h9)) ty_H ok_H nm_H hown hK hP hD hS 0 rfl rfl 10 (by decide) (hts _ (ct_tl kw_124)) (fun _ h9 => h9) rfl (by decide +kernel) rfl rfl (Nat.le_of_ble_eq_true rfl) d_H_makePlan_28 (fun H locs hP hD hS => ?_)
    have hP : va_P (dC, dI) ct_cl [(h0, .inr (0, [.ref z0, .ref p0, .ref r0, .int tab, .ref k1, .int (nI K), .ref k2, .ref k3, .int (nI R), .ref k4, .int (nI 1), .int sm])), (p0, .inr (2, [.ref z0, .ref p1, .ref p2, .ref p3, .ref p4, .ref p5])), (p1, .inl (cI, 64, .inl gh)), (p2, .inl (cI, 64, .inl gl)), (p3, .inl (cI, 64, .inl gc)), (p4, .inl (cI, 64, .inl gp)), (p5, .inl (cI, 5, .inl gj)), (z0, .inr (1, [.ref z1])), (z1, .inl (cI, 8, .inl (fun j => nI (sz j)))), (k3, .inl (cI, 6, .inl fo))] H := hP
    have hD : va_D A [(h0, .inr (0, [.ref z0, .ref p0, .ref r0, .int tab, .ref k1, .int (nI K), .ref k2, .ref k3, .int (nI R), .ref k4, .int (nI 1), .int sm])), (p0, .inr (2, [.ref z0, .ref p1, .ref p2, .ref p3, .ref p4, .ref p5])), (p1, .inl (cI, 64, .inl gh)), (p2, .inl (cI, 64, .inl gl)), (p3, .inl (cI, 64, .inl gc)), (p4, .inl (cI, 64, .inl gp)), (p5, .inl (cI, 5, .inl gj)), (z0, .inr (1, [.ref z1])), (z1, .inl (cI, 8, .inl (fun j => nI (sz j)))), (k3, .inl (cI, 6, .inl fo))] := hD
    have hP9 := hP.sub [0, 1, 2, 3, 4, 5, 6, 7, 8, 9] rfl
    exact W.vret hx hb hr (fun tS ht hW => ⟨⟨(gh, gl, gc, gp, gj), rfl, hmk, by rw [ht]; exact hP9, va_K.moved hW.alike hK, hD.sub [0, 1, 2, 3, 4, 5, 6, 7, 8, 9] (by decide) rfl⟩, hS.F ht⟩) hS.2.2 d_H_makePlan_31
set_option maxHeartbeats 4000000 in
set_option maxRecDepth 100000 in
theorem c_H_joinParts (l : Launch) (dC : Nat → ClassId) (dI : Nat → Nat → Nat) (cI : ClassId) (z1 : Nat) (sz : Nat → Nat) (p1 p2 p3 p4 p5 : Nat) (h0 z0 p0 r0 k1 k2 k3 k4 : Nat) (r1 r2 r3 r4 r5 r6 : Nat) (tab ops res pl sm : Int32) (N : Nat) (hm fl fp f fe fi fa fb ft : Nat → Int32) (S a to T xa xb ha hb1 : Nat) (hS6 : S < 64) (ha6 : a < 64) (hb6 : S ^^^ a < 64) (hfp : fp S = nI a) (hfa : fl a = nI xa) (hfb : fl (S ^^^ a) = nI xb) (hma : hm a = nI ha) (hmb : hm (S ^^^ a) = nI hb1) (hxa : xa < 256) (hxb : xb < 256) (hT : T < 256) (hsz : ∀ k, k < 8 → 0 < sz k ∧ sz k < 4) (hN : N < 2 ^ 31) (hA0 : ha + (ct_pr sz xa.testBit 8) ≤ N) (hB0 : hb1 + (ct_pr sz xb.testBit 8) ≤ N) (hT0 : to + (ct_pr sz T.testBit 8) ≤ N) (hdA : ha + (ct_pr sz xa.testBit 8) ≤ to ∨ to + (ct_pr sz T.testBit 8) ≤ ha) (hdB : hb1 + (ct_pr sz xb.testBit 8) ≤ to ∨ to + (ct_pr sz T.testBit 8) ≤ hb1) (sz0 : Nat) : Met l y_H_joinParts w_H_joinParts ({ frames := 4, cells := 0, slots := 0, locals := 107 }) (va_Pc [.ref h0, .int (nI S), .int (nI to), .int (nI T)] (ct_rw (dC, dI) ct_cl [(h0, .inr (0, [.ref z0, .ref p0, .ref r0, .int tab, .ref k1, .int ops, .ref k2, .ref k3, .int res, .ref k4, .int pl, .int sm])), (k4, .inl (cI, 64, .inl hm)), (p0, .inr (2, [.ref z0, .ref p1, .ref p2, .ref p3, .ref p4, .ref p5])), (p2, .inl (cI, 64, .inl fl)), (p4, .inl (cI, 64, .inl fp)), (r0, .inr (3, [.ref z0, .ref r1, .ref r2, .ref r3, .ref r4, .ref r5, .ref r6])), (r1, .inl (cI, N, .inl f)), (r2, .inl (cI, 8, .inl fe)), (r3, .inl (cI, 8, .inl fi)), (r4, .inl (cI, 8, .inl fa)), (r5, .inl (cI, 8, .inl fb)), (r6, .inl (cI, 8, .inl ft)), (z0, .inr (1, [.ref z1])), (z1, .inl (cI, 8, .inl (fun j => nI (sz j))))] [(cI, .int)] sz0)) (va_Qv (fun (u : (Nat → Int32) × (Nat → Int32) × (Nat → Int32) × (Nat → Int32) × (Nat → Int32) × (Nat → Int32)) => ct_joined sz f ha xa hb1 xb to T u.1) (fun (u : (Nat → Int32) × (Nat → Int32) × (Nat → Int32) × (Nat → Int32) × (Nat → Int32) × (Nat → Int32)) t => ct_at (dC, dI) ct_cl [(cI, .int)] (va_A [(h0, .inr (0, [.ref z0, .ref p0, .ref r0, .int tab, .ref k1, .int ops, .ref k2, .ref k3, .int res, .ref k4, .int pl, .int sm])), (k4, .inl (cI, 64, .inl hm)), (p0, .inr (2, [.ref z0, .ref p1, .ref p2, .ref p3, .ref p4, .ref p5])), (p2, .inl (cI, 64, .inl fl)), (p4, .inl (cI, 64, .inl fp)), (r0, .inr (3, [.ref z0, .ref r1, .ref r2, .ref r3, .ref r4, .ref r5, .ref r6])), (r1, .inl (cI, N, .inl f)), (r2, .inl (cI, 8, .inl fe)), (r3, .inl (cI, 8, .inl fi)), (r4, .inl (cI, 8, .inl fa)), (r5, .inl (cI, 8, .inl fb)), (r6, .inl (cI, 8, .inl ft)), (z0, .inr (1, [.ref z1])), (z1, .inl (cI, 8, .inl (fun j => nI (sz j))))] sz0) [(h0, .inr (0, [.ref z0, .ref p0, .ref r0, .int tab, .ref k1, .int ops, .ref k2, .ref k3, .int res, .ref k4, .int pl, .int sm])), (k4, .inl (cI, 64, .inl (upd hm S (nI to)))), (p0, .inr (2, [.ref z0, .ref p1, .ref p2, .ref p3, .ref p4, .ref p5])), (p2, .inl (cI, 64, .inl fl)), (p4, .inl (cI, 64, .inl fp)), (r0, .inr (3, [.ref z0, .ref r1, .ref r2, .ref r3, .ref r4, .ref r5, .ref r6])), (r1, .inl (cI, N, .inl (u.1))), (r2, .inl (cI, 8, .inl (u.2.1))), (r3, .inl (cI, 8, .inl (u.2.2.1))), (r4, .inl (cI, 8, .inl (u.2.2.2.1))), (r5, .inl (cI, 8, .inl (u.2.2.2.2.1))), (r6, .inl (cI, 8, .inl (u.2.2.2.2.2))), (z0, .inr (1, [.ref z1])), (z1, .inl (cI, 8, .inl (fun j => nI (sz j))))] t) (va_A [(h0, .inr (0, [.ref z0, .ref p0, .ref r0, .int tab, .ref k1, .int ops, .ref k2, .ref k3, .int res, .ref k4, .int pl, .int sm])), (k4, .inl (cI, 64, .inl hm)), (p0, .inr (2, [.ref z0, .ref p1, .ref p2, .ref p3, .ref p4, .ref p5])), (p2, .inl (cI, 64, .inl fl)), (p4, .inl (cI, 64, .inl fp)), (r0, .inr (3, [.ref z0, .ref r1, .ref r2, .ref r3, .ref r4, .ref r5, .ref r6])), (r1, .inl (cI, N, .inl f)), (r2, .inl (cI, 8, .inl fe)), (r3, .inl (cI, 8, .inl fi)), (r4, .inl (cI, 8, .inl fa)), (r5, .inl (cI, 8, .inl fb)), (r6, .inl (cI, 8, .inl ft)), (z0, .inr (1, [.ref z1])), (z1, .inl (cI, 8, .inl (fun j => nI (sz j))))] sz0)) 0 0 (va_A [(h0, .inr (0, [.ref z0, .ref p0, .ref r0, .int tab, .ref k1, .int ops, .ref k2, .ref k3, .int res, .ref k4, .int pl, .int sm])), (k4, .inl (cI, 64, .inl hm)), (p0, .inr (2, [.ref z0, .ref p1, .ref p2, .ref p3, .ref p4, .ref p5])), (p2, .inl (cI, 64, .inl fl)), (p4, .inl (cI, 64, .inl fp)), (r0, .inr (3, [.ref z0, .ref r1, .ref r2, .ref r3, .ref r4, .ref r5, .ref r6])), (r1, .inl (cI, N, .inl f)), (r2, .inl (cI, 8, .inl fe)), (r3, .inl (cI, 8, .inl fi)), (r4, .inl (cI, 8, .inl fa)), (r5, .inl (cI, 8, .inl fb)), (r6, .inl (cI, 8, .inl ft)), (z0, .inr (1, [.ref z1])), (z1, .inl (cI, 8, .inl (fun j => nI (sz j))))] sz0) := by
  refine Met.ofW (cc := b_H_joinParts) (maxL := 6) (ret := none) (by decide) rfl ?_
  intro p e s m args below meth c s₁ Bd hml hv
  obtain ⟨hargs, hsz, hP, hK, hD0⟩ := hv
  have hx := Bd.exec
  have hb := Bd.bytes
  have hr := Bd.returns
  have hts : ∀ w ∈ k_H_joinParts :: ct_tb, w.before args s = true := atoms_spec (ws := w_H_joinParts) Bd.pre
  have hown : s.vm.findClass R_H = some m.cls := findClass_of_methodNamed Bd.named
  have hlocks := Bd.notSynchronized
  subst hsz
  have hD := hD0.self (sz := s.heap.size)
  generalize hAe : va_A [(h0, .inr (0, [.ref z0, .ref p0, .ref r0, .int tab, .ref k1, .int ops, .ref k2, .ref k3, .int res, .ref k4, .int pl, .int sm])), (k4, .inl (cI, 64, .inl hm)), (p0, .inr (2, [.ref z0, .ref p1, .ref p2, .ref p3, .ref p4, .ref p5])), (p2, .inl (cI, 64, .inl fl)), (p4, .inl (cI, 64, .inl fp)), (r0, .inr (3, [.ref z0, .ref r1, .ref r2, .ref r3, .ref r4, .ref r5, .ref r6])), (r1, .inl (cI, N, .inl f)), (r2, .inl (cI, 8, .inl fe)), (r3, .inl (cI, 8, .inl fi)), (r4, .inl (cI, 8, .inl fa)), (r5, .inl (cI, 8, .inl fb)), (r6, .inl (cI, 8, .inl ft)), (z0, .inr (1, [.ref z1])), (z1, .inl (cI, 8, .inl (fun j => nI (sz j))))] s.heap.size = A at hD ⊢
  have hA : ∀ q : Nat, s.heap.size ≤ q → A q := fun q h => by rw [← hAe]; exact Or.inr h
  have hS : va_S A s.heap s.heap [] := va_S.rf
  have hl := lv_entry ([.ref h0, .int (nI S), .int (nI to), .int (nI T)]) (n := 6) (Nat.le_of_ble_eq_true rfl)
  rw [show entryFrame m args 6 = entryFrame m (([.ref h0, .int (nI S), .int (nI to), .int (nI T)] : List Value)).toArray 6 by rw [hargs], lg_entry_eq]
  generalize (lg_sl ([.ref h0, .int (nI S), .int (nI to), .int (nI T)]) ++ List.replicate (6 - (lg_sl ([.ref h0, .int (nI S), .int (nI to), .int (nI T)])).length) Slot.unset).toArray = ls at hl ⊢
  have hl : lv_has ls 6 [(0, .ref h0), (1, .int (nI S)), (2, .int (nI to)), (3, .int (nI T))] := hl
  refine lv_aload_n hx hb d_H_joinParts_0 rfl (lv_at hl 0 rfl) ?_
  refine va_get (D := (dC, dI)) (ci := 0) (v := .ref p0) (C := R_H) (T := T_H) (N := 12) hx hb hts (fun w h9 => ct_tl (ki_H w h9)) hown hK hP 0 rfl rfl 1 (by decide) (hts _ (ct_tl kw_115)) (fun _ h9 => h9) rfl d_H_joinParts_1 ?_
  refine lv_iload_n hx hb d_H_joinParts_4 rfl (lv_at hl 1 rfl) ?_
  refine va_calli (va_runV (As := [.int (nI S)]) (rest := []) ⟨hx, hb, hml, hown, hts⟩ (c_P_partOf l dC dI cI z0 p0 p1 p2 p3 p4 p5 fp S hS6) (cwV 1 hts (ct_giV (fun w h9 => ct_tl h9) kw_432 kw_433 kw_434 kw_28 kw_435) rfl rfl rfl (by decide +kernel) ⟨Nat.le_of_ble_eq_true rfl, Nat.le_of_ble_eq_true rfl⟩) ⟨ct_ro_blind, va_recv hK hP (ci := 2) (q0 := 2) rfl rfl, ct_ro_pre (hP.sub [2, 4] rfl) hK⟩ rfl rfl hl.1 rfl (lv_room (Nat.le_of_ble_eq_true rfl)) d_H_joinParts_5 ⟨Nat.le_of_ble_eq_true rfl, Nat.le_of_ble_eq_true rfl⟩) hS (fun q _ h9 => h9.elim) (fun q h9 => h9.elim) (fun ans1 uS tS H locs ht hvm hwans1 hB hz1 hk1 hS => ?_)
  have hP := ct_keep hP hk1
  refine ct_val (y := fp S) (hwans1) ?_
  refine ct_val (y := nI a) hfp ?_
  refine lv_istore (lv' := [(4, .int (nI a)), (0, .ref h0), (1, .int (nI S)), (2, .int (nI to)), (3, .int (nI T))]) hx hb d_H_joinParts_8 hl (by decide) rfl (fun ls hl => ?_)
  refine lv_iload_n hx hb d_H_joinParts_10 rfl (lv_at hl 2 rfl) ?_
  refine lv_iload hx hb d_H_joinParts_11 (lv_at hl 0 rfl) ?_
  refine lv_ixor hx hb d_H_joinParts_13 ?_
  refine ct_val (y := nI (S ^^^ a)) (ct_xor _ _) ?_
  refine lv_istore (lv' := [(5, .int (nI (S ^^^ a))), (4, .int (nI a)), (0, .ref h0), (1, .int (nI S)), (2, .int (nI to)), (3, .int (nI T))]) hx hb d_H_joinParts_14 hl (by decide) rfl (fun ls hl => ?_)
  refine lv_aload_n hx hb d_H_joinParts_16 rfl (lv_at hl 2 rfl) ?_
  refine va_get (D := (dC, dI)) (ci := 0) (v := .ref r0) (C := R_H) (T := T_H) (N := 12) hx hb hts (fun w h9 => ct_tl (ki_H w h9)) hown hK hP 0 rfl rfl 2 (by decide) (hts _ (ct_tl kw_116)) (fun _ h9 => h9) rfl d_H_joinParts_17 ?_
  refine lv_aload_n hx hb d_H_joinParts_20 rfl (lv_at hl 2 rfl) ?_
  refine va_get (D := (dC, dI)) (ci := 0) (v := .ref k4) (C := R_H) (T := T_H) (N := 12) hx hb hts (fun w h9 => ct_tl (ki_H w h9)) hown hK hP 0 rfl rfl 9 (by decide) (hts _ (ct_tl kw_123)) (fun _ h9 => h9) rfl d_H_joinParts_21 ?_
  refine lv_iload hx hb d_H_joinParts_24 (lv_at hl 1 rfl) ?_
  refine ct_iald hx hb hK hP 1 0 rfl rfl (j := a) (by omega) (by omega) d_H_joinParts_26 ?_
  refine ct_val (y := nI ha) (hma) ?_
  refine lv_aload_n hx hb d_H_joinParts_27 rfl (lv_at hl 2 rfl) ?_
  refine va_get (D := (dC, dI)) (ci := 0) (v := .ref p0) (C := R_H) (T := T_H) (N := 12) hx hb hts (fun w h9 => ct_tl (ki_H w h9)) hown hK hP 0 rfl rfl 1 (by decide) (hts _ (ct_tl kw_115)) (fun _ h9 => h9) rfl d_H_joinParts_28 ?_
  refine lv_iload hx hb d_H_joinParts_31 (lv_at hl 1 rfl) ?_
  refine va_calli (va_runV (As := [.int (nI a)]) (rest := [.int (nI ha), .ref r0]) ⟨hx, hb, hml, hown, hts⟩ (c_P_leavesOf l dC dI cI z0 p0 p1 p2 p3 p4 p5 fl a ha6) (cwV 1 hts (ct_giV (fun w h9 => ct_tl h9) kw_471 kw_472 kw_473 kw_28 kw_474) rfl rfl rfl (by decide +kernel) ⟨Nat.le_of_ble_eq_true rfl, Nat.le_of_ble_eq_true rfl⟩) ⟨ct_ro_blind, va_recv hK hP (ci := 2) (q0 := 2) rfl rfl, ct_ro_pre (hP.sub [2, 3] rfl) hK⟩ rfl rfl hl.1 rfl (lv_room (Nat.le_of_ble_eq_true rfl)) d_H_joinParts_33 ⟨Nat.le_of_ble_eq_true rfl, Nat.le_of_ble_eq_true rfl⟩) hS (fun q _ h9 => h9.elim) (fun q h9 => h9.elim) (fun ans2 uS tS H locs ht hvm hwans2 hB hz1 hk1 hS => ?_)
  have hP := ct_keep hP hk1
  refine ct_val (y := fl a) (hwans2) ?_
  refine ct_val (y := nI xa) hfa ?_
  refine lv_aload_n hx hb d_H_joinParts_36 rfl (lv_at hl 2 rfl) ?_
  refine va_get (D := (dC, dI)) (ci := 0) (v := .ref k4) (C := R_H) (T := T_H) (N := 12) hx hb hts (fun w h9 => ct_tl (ki_H w h9)) hown hK hP 0 rfl rfl 9 (by decide) (hts _ (ct_tl kw_123)) (fun _ h9 => h9) rfl d_H_joinParts_37 ?_
  refine lv_iload hx hb d_H_joinParts_40 (lv_at hl 0 rfl) ?_
  refine ct_iald hx hb hK hP 1 0 rfl rfl (j := S ^^^ a) (by omega) (by omega) d_H_joinParts_42 ?_
  refine ct_val (y := nI hb1) (hmb) ?_
  refine lv_aload_n hx hb d_H_joinParts_43 rfl (lv_at hl 2 rfl) ?_
  refine va_get (D := (dC, dI)) (ci := 0) (v := .ref p0) (C := R_H) (T := T_H) (N := 12) hx hb hts (fun w h9 => ct_tl (ki_H w h9)) hown hK hP 0 rfl rfl 1 (by decide) (hts _ (ct_tl kw_115)) (fun _ h9 => h9) rfl d_H_joinParts_44 ?_
  refine lv_iload hx hb d_H_joinParts_47 (lv_at hl 0 rfl) ?_
  refine va_calli (va_runV (As := [.int (nI (S ^^^ a))]) (rest := [.int (nI hb1), .int (nI xa), .int (nI ha), .ref r0]) ⟨hx, hb, hml, hown, hts⟩ (c_P_leavesOf l dC dI cI z0 p0 p1 p2 p3 p4 p5 fl (S ^^^ a) hb6) (cwV 1 hts (ct_giV (fun w h9 => ct_tl h9) kw_471 kw_472 kw_473 kw_28 kw_474) rfl rfl rfl (by decide +kernel) ⟨Nat.le_of_ble_eq_true rfl, Nat.le_of_ble_eq_true rfl⟩) ⟨ct_ro_blind, va_recv hK hP (ci := 2) (q0 := 2) rfl rfl, ct_ro_pre (hP.sub [2, 3] rfl) hK⟩ rfl rfl hl.1 rfl (lv_room (Nat.le_of_ble_eq_true rfl)) d_H_joinParts_49 ⟨Nat.le_of_ble_eq_true rfl, Nat.le_of_ble_eq_true rfl⟩) hS (fun q _ h9 => h9.elim) (fun q h9 => h9.elim) (fun ans3 uS tS H locs ht hvm hwans3 hB hz1 hk1 hS => ?_)
  have hP := ct_keep hP hk1
  refine ct_val (y := fl (S ^^^ a)) (hwans3) ?_
  refine ct_val (y := nI xb) hfb ?_
  refine lv_iload_n hx hb d_H_joinParts_52 rfl (lv_at hl 4 rfl) ?_
  refine lv_iload_n hx hb d_H_joinParts_53 rfl (lv_at hl 5 rfl) ?_
  have hPc := hP.sub (ws' := [(r0, .inr (3, [.ref z0, .ref r1, .ref r2, .ref r3, .ref r4, .ref r5, .ref r6])), (r1, .inl (cI, N, .inl f)), (r2, .inl (cI, 8, .inl fe)), (r3, .inl (cI, 8, .inl fi)), (r4, .inl (cI, 8, .inl fa)), (r5, .inl (cI, 8, .inl fb)), (r6, .inl (cI, 8, .inl ft)), (z0, .inr (1, [.ref z1])), (z1, .inl (cI, 8, .inl (fun j => nI (sz j))))]) [5, 6, 7, 8, 9, 10, 11, 12, 13] rfl
  have hDc := hD.sub (ws' := [(r0, .inr (3, [.ref z0, .ref r1, .ref r2, .ref r3, .ref r4, .ref r5, .ref r6])), (r1, .inl (cI, N, .inl f)), (r2, .inl (cI, 8, .inl fe)), (r3, .inl (cI, 8, .inl fi)), (r4, .inl (cI, 8, .inl fa)), (r5, .inl (cI, 8, .inl fb)), (r6, .inl (cI, 8, .inl ft)), (z0, .inr (1, [.ref z1])), (z1, .inl (cI, 8, .inl (fun j => nI (sz j))))]) [5, 6, 7, 8, 9, 10, 11, 12, 13] (by decide) rfl
  have hFc := va_free (wc := [(r0, .inr (3, [.ref z0, .ref r1, .ref r2, .ref r3, .ref r4, .ref r5, .ref r6])), (r1, .inl (cI, N, .inl f)), (r2, .inl (cI, 8, .inl fe)), (r3, .inl (cI, 8, .inl fi)), (r4, .inl (cI, 8, .inl fa)), (r5, .inl (cI, 8, .inl fb)), (r6, .inl (cI, 8, .inl ft)), (z0, .inr (1, [.ref z1])), (z1, .inl (cI, 8, .inl (fun j => nI (sz j))))]) hD hS hA [5, 6, 7, 8, 9, 10, 11, 12, 13] rfl
  refine va_callv (va_runV (As := [.int (nI ha), .int (nI xa), .int (nI hb1), .int (nI xb), .int (nI to), .int (nI T)]) (rest := []) ⟨hx, hb, hml, hown, hts⟩ (c_R_join l dC dI cI z1 sz z0 r0 r1 r2 r3 r4 r5 r6 N f fe fi fa fb ft ha xa hb1 xb to T hxa hxb hT hsz hN hA0 hB0 hT0 hdA hdB H.size) (cwV 6 hts (ct_giV (fun w h9 => ct_tl h9) kw_449 kw_450 kw_451 kw_29 kw_452) rfl rfl rfl (by decide +kernel) ⟨Nat.le_of_ble_eq_true rfl, Nat.le_of_ble_eq_true rfl⟩) ⟨ct_rw_blind, va_recv hK hP (ci := 3) (q0 := 5) rfl rfl, ct_rw_pre hPc hK hDc⟩ rfl rfl hl.1 rfl (lv_room (Nat.le_of_ble_eq_true rfl)) d_H_joinParts_54 ⟨Nat.le_of_ble_eq_true rfl, Nat.le_of_ble_eq_true rfl⟩) hS (fun q _ h9 => hFc q h9) hFc (fun ⟨f2, ge, gi, ga, gb, gt⟩ tS H1 locs ht hvm hj hB hz1 hk1 hS => ?_)
  obtain ⟨hP1, -, hD1⟩ := hB
  rw [ht] at hP1
  obtain ⟨hP, hD⟩ := va_join (wr := [(h0, .inr (0, [.ref z0, .ref p0, .ref r0, .int tab, .ref k1, .int ops, .ref k2, .ref k3, .int res, .ref k4, .int pl, .int sm])), (k4, .inl (cI, 64, .inl hm)), (p0, .inr (2, [.ref z0, .ref p1, .ref p2, .ref p3, .ref p4, .ref p5])), (p2, .inl (cI, 64, .inl fl)), (p4, .inl (cI, 64, .inl fp))]) (w1 := [(r0, .inr (3, [.ref z0, .ref r1, .ref r2, .ref r3, .ref r4, .ref r5, .ref r6])), (r1, .inl (cI, N, .inl f2)), (r2, .inl (cI, 8, .inl ge)), (r3, .inl (cI, 8, .inl gi)), (r4, .inl (cI, 8, .inl ga)), (r5, .inl (cI, 8, .inl gb)), (r6, .inl (cI, 8, .inl gt)), (z0, .inr (1, [.ref z1])), (z1, .inl (cI, 8, .inl (fun j => nI (sz j))))]) hP hD [5, 6, 7, 8, 9, 10, 11, 12, 13] [0, 1, 2, 3, 4] rfl rfl (by decide) (by decide) hk1 hFc hP1 hD1
  generalize H1 = H at hP hS ⊢
  have hP : va_P (dC, dI) ct_cl [(h0, .inr (0, [.ref z0, .ref p0, .ref r0, .int tab, .ref k1, .int ops, .ref k2, .ref k3, .int res, .ref k4, .int pl, .int sm])), (k4, .inl (cI, 64, .inl hm)), (p0, .inr (2, [.ref z0, .ref p1, .ref p2, .ref p3, .ref p4, .ref p5])), (p2, .inl (cI, 64, .inl fl)), (p4, .inl (cI, 64, .inl fp)), (r0, .inr (3, [.ref z0, .ref r1, .ref r2, .ref r3, .ref r4, .ref r5, .ref r6])), (r1, .inl (cI, N, .inl f2)), (r2, .inl (cI, 8, .inl ge)), (r3, .inl (cI, 8, .inl gi)), (r4, .inl (cI, 8, .inl ga)), (r5, .inl (cI, 8, .inl gb)), (r6, .inl (cI, 8, .inl gt)), (z0, .inr (1, [.ref z1])), (z1, .inl (cI, 8, .inl (fun j => nI (sz j))))] H := hP
  have hD : va_D A [(h0, .inr (0, [.ref z0, .ref p0, .ref r0, .int tab, .ref k1, .int ops, .ref k2, .ref k3, .int res, .ref k4, .int pl, .int sm])), (k4, .inl (cI, 64, .inl hm)), (p0, .inr (2, [.ref z0, .ref p1, .ref p2, .ref p3, .ref p4, .ref p5])), (p2, .inl (cI, 64, .inl fl)), (p4, .inl (cI, 64, .inl fp)), (r0, .inr (3, [.ref z0, .ref r1, .ref r2, .ref r3, .ref r4, .ref r5, .ref r6])), (r1, .inl (cI, N, .inl f2)), (r2, .inl (cI, 8, .inl ge)), (r3, .inl (cI, 8, .inl gi)), (r4, .inl (cI, 8, .inl ga)), (r5, .inl (cI, 8, .inl gb)), (r6, .inl (cI, 8, .inl gt)), (z0, .inr (1, [.ref z1])), (z1, .inl (cI, 8, .inl (fun j => nI (sz j))))] := hD
  refine lv_aload_n hx hb d_H_joinParts_57 rfl (lv_at hl 2 rfl) ?_
  refine va_get (D := (dC, dI)) (ci := 0) (v := .ref k4) (C := R_H) (T := T_H) (N := 12) hx hb hts (fun w h9 => ct_tl (ki_H w h9)) hown hK hP 0 rfl rfl 9 (by decide) (hts _ (ct_tl kw_123)) (fun _ h9 => h9) rfl d_H_joinParts_58 ?_
  refine lv_iload_n hx hb d_H_joinParts_61 rfl (lv_at hl 3 rfl) ?_
  refine lv_iload_n hx hb d_H_joinParts_62 rfl (lv_at hl 4 rfl) ?_
  refine ct_iast hx hb hK hP hD hS 1 0 rfl rfl (j := S) (by omega) (by omega) d_H_joinParts_63 (fun H locs hP hD hS => ?_)
  have hP : va_P (dC, dI) ct_cl [(h0, .inr (0, [.ref z0, .ref p0, .ref r0, .int tab, .ref k1, .int ops, .ref k2, .ref k3, .int res, .ref k4, .int pl, .int sm])), (k4, .inl (cI, 64, .inl (upd hm S (nI to)))), (p0, .inr (2, [.ref z0, .ref p1, .ref p2, .ref p3, .ref p4, .ref p5])), (p2, .inl (cI, 64, .inl fl)), (p4, .inl (cI, 64, .inl fp)), (r0, .inr (3, [.ref z0, .ref r1, .ref r2, .ref r3, .ref r4, .ref r5, .ref r6])), (r1, .inl (cI, N, .inl f2)), (r2, .inl (cI, 8, .inl ge)), (r3, .inl (cI, 8, .inl gi)), (r4, .inl (cI, 8, .inl ga)), (r5, .inl (cI, 8, .inl gb)), (r6, .inl (cI, 8, .inl gt)), (z0, .inr (1, [.ref z1])), (z1, .inl (cI, 8, .inl (fun j => nI (sz j))))] H := hP
  have hD : va_D A [(h0, .inr (0, [.ref z0, .ref p0, .ref r0, .int tab, .ref k1, .int ops, .ref k2, .ref k3, .int res, .ref k4, .int pl, .int sm])), (k4, .inl (cI, 64, .inl (upd hm S (nI to)))), (p0, .inr (2, [.ref z0, .ref p1, .ref p2, .ref p3, .ref p4, .ref p5])), (p2, .inl (cI, 64, .inl fl)), (p4, .inl (cI, 64, .inl fp)), (r0, .inr (3, [.ref z0, .ref r1, .ref r2, .ref r3, .ref r4, .ref r5, .ref r6])), (r1, .inl (cI, N, .inl f2)), (r2, .inl (cI, 8, .inl ge)), (r3, .inl (cI, 8, .inl gi)), (r4, .inl (cI, 8, .inl ga)), (r5, .inl (cI, 8, .inl gb)), (r6, .inl (cI, 8, .inl gt)), (z0, .inr (1, [.ref z1])), (z1, .inl (cI, 8, .inl (fun j => nI (sz j))))] := hD
  have hP9 := hP.sub [0, 1, 2, 3, 4, 5, 6, 7, 8, 9, 10, 11, 12, 13] rfl
  exact W.vret hx hb hr (fun tS ht hW => ⟨⟨(f2, ge, gi, ga, gb, gt), rfl, hj, by rw [ht]; exact hP9, va_K.moved hW.alike hK, hD.sub [0, 1, 2, 3, 4, 5, 6, 7, 8, 9, 10, 11, 12, 13] (by decide) rfl⟩, hS.F ht⟩) hS.2.2 d_H_joinParts_64
theorem ct_pr_none (sz : Nat → Nat) : ct_pr sz (0 : Nat).testBit 8 = 1 := by
  have h : ∀ n, ct_pr sz (0 : Nat).testBit n = 1 := by
    intro n
    induction n with
    | zero => rfl
    | succ n ih => rw [ct_pr_out (by simp)]; exact ih
  exact h 8
set_option maxHeartbeats 4000000 in
set_option maxRecDepth 100000 in
theorem c_H_sumAlone (l : Launch) (dC : Nat → ClassId) (dI : Nat → Nat → Nat) (cI : ClassId) (z1 : Nat) (sz : Nat → Nat) (h0 z0 p0 r0 k1 k2 k3 k4 : Nat) (r1 r2 r3 r4 r5 r6 : Nat) (tab pl sm : Int32) (N K R ot la home lab : Nat) (fot fo f fe fi fa fb ft : Nat → Int32) (hK : K < 2) (hot : K ≠ 0 → fot 0 = nI ot) (hfo : K ≠ 0 → fo 0 = nI la) (hhome : home = (if K = 0 then 243 else ot * 27)) (hlab : lab = (if K = 0 then 0 else la)) (hl6 : lab < 256) (hR : R < 256) (hsz : ∀ k, k < 8 → 0 < sz k ∧ sz k < 4) (hN : N < 2 ^ 31) (hA0 : home + (ct_pr sz lab.testBit 8) ≤ N) (hN4 : 244 ≤ N) (hR27 : (ct_pr sz R.testBit 8) ≤ 27) (hdA : home + (ct_pr sz lab.testBit 8) ≤ 216 ∨ 243 ≤ home) (sz0 : Nat) : Met l y_H_sumAlone w_H_sumAlone ({ frames := 4, cells := 0, slots := 0, locals := 107 }) (va_Pc [.ref h0] (ct_rw (dC, dI) ct_cl [(h0, .inr (0, [.ref z0, .ref p0, .ref r0, .int tab, .ref k1, .int (nI K), .ref k2, .ref k3, .int (nI R), .ref k4, .int pl, .int sm])), (k2, .inl (cI, 6, .inl fot)), (k3, .inl (cI, 6, .inl fo)), (r0, .inr (3, [.ref z0, .ref r1, .ref r2, .ref r3, .ref r4, .ref r5, .ref r6])), (r1, .inl (cI, N, .inl f)), (r2, .inl (cI, 8, .inl fe)), (r3, .inl (cI, 8, .inl fi)), (r4, .inl (cI, 8, .inl fa)), (r5, .inl (cI, 8, .inl fb)), (r6, .inl (cI, 8, .inl ft)), (z0, .inr (1, [.ref z1])), (z1, .inl (cI, 8, .inl (fun j => nI (sz j))))] [(cI, .int)] sz0)) (va_Qv (fun (u : (Nat → Int32) × (Nat → Int32) × (Nat → Int32) × (Nat → Int32) × (Nat → Int32) × (Nat → Int32)) => ct_joined sz f home lab 243 0 216 R u.1) (fun (u : (Nat → Int32) × (Nat → Int32) × (Nat → Int32) × (Nat → Int32) × (Nat → Int32) × (Nat → Int32)) t => ct_at (dC, dI) ct_cl [(cI, .int)] (va_A [(h0, .inr (0, [.ref z0, .ref p0, .ref r0, .int tab, .ref k1, .int (nI K), .ref k2, .ref k3, .int (nI R), .ref k4, .int pl, .int sm])), (k2, .inl (cI, 6, .inl fot)), (k3, .inl (cI, 6, .inl fo)), (r0, .inr (3, [.ref z0, .ref r1, .ref r2, .ref r3, .ref r4, .ref r5, .ref r6])), (r1, .inl (cI, N, .inl f)), (r2, .inl (cI, 8, .inl fe)), (r3, .inl (cI, 8, .inl fi)), (r4, .inl (cI, 8, .inl fa)), (r5, .inl (cI, 8, .inl fb)), (r6, .inl (cI, 8, .inl ft)), (z0, .inr (1, [.ref z1])), (z1, .inl (cI, 8, .inl (fun j => nI (sz j))))] sz0) [(h0, .inr (0, [.ref z0, .ref p0, .ref r0, .int tab, .ref k1, .int (nI K), .ref k2, .ref k3, .int (nI R), .ref k4, .int pl, .int sm])), (k2, .inl (cI, 6, .inl fot)), (k3, .inl (cI, 6, .inl fo)), (r0, .inr (3, [.ref z0, .ref r1, .ref r2, .ref r3, .ref r4, .ref r5, .ref r6])), (r1, .inl (cI, N, .inl (u.1))), (r2, .inl (cI, 8, .inl (u.2.1))), (r3, .inl (cI, 8, .inl (u.2.2.1))), (r4, .inl (cI, 8, .inl (u.2.2.2.1))), (r5, .inl (cI, 8, .inl (u.2.2.2.2.1))), (r6, .inl (cI, 8, .inl (u.2.2.2.2.2))), (z0, .inr (1, [.ref z1])), (z1, .inl (cI, 8, .inl (fun j => nI (sz j))))] t) (va_A [(h0, .inr (0, [.ref z0, .ref p0, .ref r0, .int tab, .ref k1, .int (nI K), .ref k2, .ref k3, .int (nI R), .ref k4, .int pl, .int sm])), (k2, .inl (cI, 6, .inl fot)), (k3, .inl (cI, 6, .inl fo)), (r0, .inr (3, [.ref z0, .ref r1, .ref r2, .ref r3, .ref r4, .ref r5, .ref r6])), (r1, .inl (cI, N, .inl f)), (r2, .inl (cI, 8, .inl fe)), (r3, .inl (cI, 8, .inl fi)), (r4, .inl (cI, 8, .inl fa)), (r5, .inl (cI, 8, .inl fb)), (r6, .inl (cI, 8, .inl ft)), (z0, .inr (1, [.ref z1])), (z1, .inl (cI, 8, .inl (fun j => nI (sz j))))] sz0)) 0 0 (va_A [(h0, .inr (0, [.ref z0, .ref p0, .ref r0, .int tab, .ref k1, .int (nI K), .ref k2, .ref k3, .int (nI R), .ref k4, .int pl, .int sm])), (k2, .inl (cI, 6, .inl fot)), (k3, .inl (cI, 6, .inl fo)), (r0, .inr (3, [.ref z0, .ref r1, .ref r2, .ref r3, .ref r4, .ref r5, .ref r6])), (r1, .inl (cI, N, .inl f)), (r2, .inl (cI, 8, .inl fe)), (r3, .inl (cI, 8, .inl fi)), (r4, .inl (cI, 8, .inl fa)), (r5, .inl (cI, 8, .inl fb)), (r6, .inl (cI, 8, .inl ft)), (z0, .inr (1, [.ref z1])), (z1, .inl (cI, 8, .inl (fun j => nI (sz j))))] sz0) := by
  refine Met.ofW (cc := b_H_sumAlone) (maxL := 3) (ret := none) (by decide) rfl ?_
  intro p e s m args below meth c s₁ Bd hml hv
  obtain ⟨hargs, hsz, hP, hK, hD0⟩ := hv
  have hx := Bd.exec
  have hb := Bd.bytes
  have hr := Bd.returns
  have hts : ∀ w ∈ k_H_sumAlone :: ct_tb, w.before args s = true := atoms_spec (ws := w_H_sumAlone) Bd.pre
  have hown : s.vm.findClass R_H = some m.cls := findClass_of_methodNamed Bd.named
  have hlocks := Bd.notSynchronized
  subst hsz
  have hD := hD0.self (sz := s.heap.size)
  generalize hAe : va_A [(h0, .inr (0, [.ref z0, .ref p0, .ref r0, .int tab, .ref k1, .int (nI K), .ref k2, .ref k3, .int (nI R), .ref k4, .int pl, .int sm])), (k2, .inl (cI, 6, .inl fot)), (k3, .inl (cI, 6, .inl fo)), (r0, .inr (3, [.ref z0, .ref r1, .ref r2, .ref r3, .ref r4, .ref r5, .ref r6])), (r1, .inl (cI, N, .inl f)), (r2, .inl (cI, 8, .inl fe)), (r3, .inl (cI, 8, .inl fi)), (r4, .inl (cI, 8, .inl fa)), (r5, .inl (cI, 8, .inl fb)), (r6, .inl (cI, 8, .inl ft)), (z0, .inr (1, [.ref z1])), (z1, .inl (cI, 8, .inl (fun j => nI (sz j))))] s.heap.size = A at hD ⊢
  have hA : ∀ q : Nat, s.heap.size ≤ q → A q := fun q h => by rw [← hAe]; exact Or.inr h
  have hS : va_S A s.heap s.heap [] := va_S.rf
  have hl := lv_entry ([.ref h0]) (n := 3) (Nat.le_of_ble_eq_true rfl)
  rw [show entryFrame m args 3 = entryFrame m (([.ref h0] : List Value)).toArray 3 by rw [hargs], lg_entry_eq]
  generalize (lg_sl ([.ref h0]) ++ List.replicate (3 - (lg_sl ([.ref h0])).length) Slot.unset).toArray = ls at hl ⊢
  have hl : lv_has ls 3 [(0, .ref h0)] := hl
  refine lv_aload_n hx hb d_H_sumAlone_0 rfl (lv_at hl 0 rfl) ?_
  refine va_get (D := (dC, dI)) (ci := 0) (v := .int (nI K)) (C := R_H) (T := T_H) (N := 12) hx hb hts (fun w h9 => ct_tl (ki_H w h9)) hown hK hP 0 rfl rfl 5 (by decide) (hts _ (ct_tl kw_119)) (fun _ h9 => h9) rfl d_H_sumAlone_1 ?_
  by_cases hq : K = 0
  · rw [if_pos hq] at hhome hlab
    refine lv_if_ne (tgt := 13) hx hb d_H_sumAlone_4 (by decide) (fun hc9 => absurd (by rw [hq]; exact nI_0) hc9) (fun _ => ?_)
    refine lv_sipush (v := (nI 243)) hx hb d_H_sumAlone_7 (by decide) ?_
    refine ct_val (y := nI home) (by rw [hhome]) ?_
    refine lv_goto (tgt := 22) hx hb d_H_sumAlone_10 (by decide) ?_
    refine lv_istore_n (lv' := [(1, .int (nI home)), (0, .ref h0)]) hx hb d_H_sumAlone_22 rfl hl (by decide) rfl (fun ls hl => ?_)
    refine lv_aload_n hx hb d_H_sumAlone_23 rfl (lv_at hl 1 rfl) ?_
    refine va_get (D := (dC, dI)) (ci := 0) (v := .int (nI K)) (C := R_H) (T := T_H) (N := 12) hx hb hts (fun w h9 => ct_tl (ki_H w h9)) hown hK hP 0 rfl rfl 5 (by decide) (hts _ (ct_tl kw_119)) (fun _ h9 => h9) rfl d_H_sumAlone_24 ?_
    refine lv_if_ne (tgt := 34) hx hb d_H_sumAlone_27 (by decide) (fun hc9 => absurd (by rw [hq]; exact nI_0) hc9) (fun _ => ?_)
    refine lv_iconst (v := (nI 0)) hx hb d_H_sumAlone_30 (by decide) ?_
    refine ct_val (y := nI lab) (by rw [hlab]) ?_
    refine lv_goto (tgt := 40) hx hb d_H_sumAlone_31 (by decide) ?_
    refine lv_istore_n (lv' := [(2, .int (nI lab)), (1, .int (nI home)), (0, .ref h0)]) hx hb d_H_sumAlone_40 rfl hl (by decide) rfl (fun ls hl => ?_)
    refine lv_aload_n hx hb d_H_sumAlone_41 rfl (lv_at hl 2 rfl) ?_
    refine va_get (D := (dC, dI)) (ci := 0) (v := .ref r0) (C := R_H) (T := T_H) (N := 12) hx hb hts (fun w h9 => ct_tl (ki_H w h9)) hown hK hP 0 rfl rfl 2 (by decide) (hts _ (ct_tl kw_116)) (fun _ h9 => h9) rfl d_H_sumAlone_42 ?_
    refine lv_iload_n hx hb d_H_sumAlone_45 rfl (lv_at hl 1 rfl) ?_
    refine lv_iload_n hx hb d_H_sumAlone_46 rfl (lv_at hl 0 rfl) ?_
    refine lv_sipush (v := (nI 243)) hx hb d_H_sumAlone_47 (by decide) ?_
    refine lv_iconst (v := (nI 0)) hx hb d_H_sumAlone_50 (by decide) ?_
    refine lv_sipush (v := (nI 216)) hx hb d_H_sumAlone_51 (by decide) ?_
    refine lv_aload_n hx hb d_H_sumAlone_54 rfl (lv_at hl 2 rfl) ?_
    refine va_get (D := (dC, dI)) (ci := 0) (v := .int (nI R)) (C := R_H) (T := T_H) (N := 12) hx hb hts (fun w h9 => ct_tl (ki_H w h9)) hown hK hP 0 rfl rfl 8 (by decide) (hts _ (ct_tl kw_122)) (fun _ h9 => h9) rfl d_H_sumAlone_55 ?_
    have hp0 : ct_pr sz (0 : Nat).testBit 8 = 1 := ct_pr_none sz
    have hPc := hP.sub (ws' := [(r0, .inr (3, [.ref z0, .ref r1, .ref r2, .ref r3, .ref r4, .ref r5, .ref r6])), (r1, .inl (cI, N, .inl f)), (r2, .inl (cI, 8, .inl fe)), (r3, .inl (cI, 8, .inl fi)), (r4, .inl (cI, 8, .inl fa)), (r5, .inl (cI, 8, .inl fb)), (r6, .inl (cI, 8, .inl ft)), (z0, .inr (1, [.ref z1])), (z1, .inl (cI, 8, .inl (fun j => nI (sz j))))]) [3, 4, 5, 6, 7, 8, 9, 10, 11] rfl
    have hDc := hD.sub (ws' := [(r0, .inr (3, [.ref z0, .ref r1, .ref r2, .ref r3, .ref r4, .ref r5, .ref r6])), (r1, .inl (cI, N, .inl f)), (r2, .inl (cI, 8, .inl fe)), (r3, .inl (cI, 8, .inl fi)), (r4, .inl (cI, 8, .inl fa)), (r5, .inl (cI, 8, .inl fb)), (r6, .inl (cI, 8, .inl ft)), (z0, .inr (1, [.ref z1])), (z1, .inl (cI, 8, .inl (fun j => nI (sz j))))]) [3, 4, 5, 6, 7, 8, 9, 10, 11] (by decide) rfl
    have hFc := va_free (wc := [(r0, .inr (3, [.ref z0, .ref r1, .ref r2, .ref r3, .ref r4, .ref r5, .ref r6])), (r1, .inl (cI, N, .inl f)), (r2, .inl (cI, 8, .inl fe)), (r3, .inl (cI, 8, .inl fi)), (r4, .inl (cI, 8, .inl fa)), (r5, .inl (cI, 8, .inl fb)), (r6, .inl (cI, 8, .inl ft)), (z0, .inr (1, [.ref z1])), (z1, .inl (cI, 8, .inl (fun j => nI (sz j))))]) hD hS hA [3, 4, 5, 6, 7, 8, 9, 10, 11] rfl
    refine va_callv (va_runV (As := [.int (nI home), .int (nI lab), .int (nI 243), .int (nI 0), .int (nI 216), .int (nI R)]) (rest := []) ⟨hx, hb, hml, hown, hts⟩ (c_R_join l dC dI cI z1 sz z0 r0 r1 r2 r3 r4 r5 r6 N f fe fi fa fb ft home lab 243 0 216 R hl6 (by omega) hR hsz hN hA0 (by omega) (by omega) (by omega) (by omega) s.heap.size) (cwV 6 hts (ct_giV (fun w h9 => ct_tl h9) kw_449 kw_450 kw_451 kw_29 kw_452) rfl rfl rfl (by decide +kernel) ⟨Nat.le_of_ble_eq_true rfl, Nat.le_of_ble_eq_true rfl⟩) ⟨ct_rw_blind, va_recv hK hP (ci := 3) (q0 := 3) rfl rfl, ct_rw_pre hPc hK hDc⟩ rfl rfl hl.1 rfl (lv_room (Nat.le_of_ble_eq_true rfl)) d_H_sumAlone_58 ⟨Nat.le_of_ble_eq_true rfl, Nat.le_of_ble_eq_true rfl⟩) hS (fun q _ h9 => hFc q h9) hFc (fun ⟨f2, ge, gi, ga, gb, gt⟩ tS H1 locs ht hvm hj hB hz1 hk1 hS => ?_)
    obtain ⟨hP1, -, hD1⟩ := hB
    rw [ht] at hP1
    obtain ⟨hP, hD⟩ := va_join (wr := [(h0, .inr (0, [.ref z0, .ref p0, .ref r0, .int tab, .ref k1, .int (nI K), .ref k2, .ref k3, .int (nI R), .ref k4, .int pl, .int sm])), (k2, .inl (cI, 6, .inl fot)), (k3, .inl (cI, 6, .inl fo))]) (w1 := [(r0, .inr (3, [.ref z0, .ref r1, .ref r2, .ref r3, .ref r4, .ref r5, .ref r6])), (r1, .inl (cI, N, .inl f2)), (r2, .inl (cI, 8, .inl ge)), (r3, .inl (cI, 8, .inl gi)), (r4, .inl (cI, 8, .inl ga)), (r5, .inl (cI, 8, .inl gb)), (r6, .inl (cI, 8, .inl gt)), (z0, .inr (1, [.ref z1])), (z1, .inl (cI, 8, .inl (fun j => nI (sz j))))]) hP hD [3, 4, 5, 6, 7, 8, 9, 10, 11] [0, 1, 2] rfl rfl (by decide) (by decide) hk1 hFc hP1 hD1
    generalize H1 = H at hP hS ⊢
    have hP : va_P (dC, dI) ct_cl [(h0, .inr (0, [.ref z0, .ref p0, .ref r0, .int tab, .ref k1, .int (nI K), .ref k2, .ref k3, .int (nI R), .ref k4, .int pl, .int sm])), (k2, .inl (cI, 6, .inl fot)), (k3, .inl (cI, 6, .inl fo)), (r0, .inr (3, [.ref z0, .ref r1, .ref r2, .ref r3, .ref r4, .ref r5, .ref r6])), (r1, .inl (cI, N, .inl f2)), (r2, .inl (cI, 8, .inl ge)), (r3, .inl (cI, 8, .inl gi)), (r4, .inl (cI, 8, .inl ga)), (r5, .inl (cI, 8, .inl gb)), (r6, .inl (cI, 8, .inl gt)), (z0, .inr (1, [.ref z1])), (z1, .inl (cI, 8, .inl (fun j => nI (sz j))))] H := hP
    have hD : va_D A [(h0, .inr (0, [.ref z0, .ref p0, .ref r0, .int tab, .ref k1, .int (nI K), .ref k2, .ref k3, .int (nI R), .ref k4, .int pl, .int sm])), (k2, .inl (cI, 6, .inl fot)), (k3, .inl (cI, 6, .inl fo)), (r0, .inr (3, [.ref z0, .ref r1, .ref r2, .ref r3, .ref r4, .ref r5, .ref r6])), (r1, .inl (cI, N, .inl f2)), (r2, .inl (cI, 8, .inl ge)), (r3, .inl (cI, 8, .inl gi)), (r4, .inl (cI, 8, .inl ga)), (r5, .inl (cI, 8, .inl gb)), (r6, .inl (cI, 8, .inl gt)), (z0, .inr (1, [.ref z1])), (z1, .inl (cI, 8, .inl (fun j => nI (sz j))))] := hD
    have hP9 := hP.sub [0, 1, 2, 3, 4, 5, 6, 7, 8, 9, 10, 11] rfl
    exact W.vret hx hb hr (fun tS ht hW => ⟨⟨(f2, ge, gi, ga, gb, gt), rfl, hj, by rw [ht]; exact hP9, va_K.moved hW.alike hK, hD.sub [0, 1, 2, 3, 4, 5, 6, 7, 8, 9, 10, 11] (by decide) rfl⟩, hS.F ht⟩) hS.2.2 d_H_sumAlone_61
  · rw [if_neg hq] at hhome hlab
    refine lv_if_ne (tgt := 13) hx hb d_H_sumAlone_4 (by decide) (fun _ => ?_) (fun hc9 => absurd hc9 (nI_ne0 (by omega) (by omega)))
    refine lv_aload_n hx hb d_H_sumAlone_13 rfl (lv_at hl 0 rfl) ?_
    refine va_get (D := (dC, dI)) (ci := 0) (v := .ref k2) (C := R_H) (T := T_H) (N := 12) hx hb hts (fun w h9 => ct_tl (ki_H w h9)) hown hK hP 0 rfl rfl 6 (by decide) (hts _ (ct_tl kw_120)) (fun _ h9 => h9) rfl d_H_sumAlone_14 ?_
    refine lv_iconst (v := (nI 0)) hx hb d_H_sumAlone_17 (by decide) ?_
    refine ct_iald hx hb hK hP 1 0 rfl rfl (j := 0) (by omega) (by omega) d_H_sumAlone_18 ?_
    refine ct_val (y := nI ot) (hot hq) ?_
    refine va_calli (va_runS (As := [.int (nI ot)]) (rest := []) ⟨hx, hb, hml, hown, hts⟩ (c_H_homeOfTable l dC dI cI ot) (va_cwS 1 hts (ct_giT (fun w h9 => ct_tl h9) kw_386 kw_387 kw_26 kw_388) rfl rfl rfl (by decide +kernel) ⟨Nat.le_of_ble_eq_true rfl, Nat.le_of_ble_eq_true rfl⟩) ⟨ct_ro_blind, ct_ro_pre (hP.sub [] rfl) hK⟩ rfl rfl hl.1 rfl (lv_room (Nat.le_of_ble_eq_true rfl)) d_H_sumAlone_19 ⟨Nat.le_of_ble_eq_true rfl, Nat.le_of_ble_eq_true rfl⟩) hS (fun q _ h9 => h9.elim) (fun q h9 => h9.elim) (fun ans101 uS tS H locs ht hvm hwans101 hB hz1 hk1 hS => ?_)
    have hP := ct_keep hP hk1
    refine ct_val (y := nI (ot * 27)) (hwans101) ?_
    refine ct_val (y := nI home) (by rw [hhome]) ?_
    refine lv_istore_n (lv' := [(1, .int (nI home)), (0, .ref h0)]) hx hb d_H_sumAlone_22 rfl hl (by decide) rfl (fun ls hl => ?_)
    refine lv_aload_n hx hb d_H_sumAlone_23 rfl (lv_at hl 1 rfl) ?_
    refine va_get (D := (dC, dI)) (ci := 0) (v := .int (nI K)) (C := R_H) (T := T_H) (N := 12) hx hb hts (fun w h9 => ct_tl (ki_H w h9)) hown hK hP 0 rfl rfl 5 (by decide) (hts _ (ct_tl kw_119)) (fun _ h9 => h9) rfl d_H_sumAlone_24 ?_
    refine lv_if_ne (tgt := 34) hx hb d_H_sumAlone_27 (by decide) (fun _ => ?_) (fun hc9 => absurd hc9 (nI_ne0 (by omega) (by omega)))
    refine lv_aload_n hx hb d_H_sumAlone_34 rfl (lv_at hl 1 rfl) ?_
    refine va_get (D := (dC, dI)) (ci := 0) (v := .ref k3) (C := R_H) (T := T_H) (N := 12) hx hb hts (fun w h9 => ct_tl (ki_H w h9)) hown hK hP 0 rfl rfl 7 (by decide) (hts _ (ct_tl kw_121)) (fun _ h9 => h9) rfl d_H_sumAlone_35 ?_
    refine lv_iconst (v := (nI 0)) hx hb d_H_sumAlone_38 (by decide) ?_
    refine ct_iald hx hb hK hP 2 0 rfl rfl (j := 0) (by omega) (by omega) d_H_sumAlone_39 ?_
    refine ct_val (y := nI lab) (by rw [hlab]; exact hfo hq) ?_
    refine lv_istore_n (lv' := [(2, .int (nI lab)), (1, .int (nI home)), (0, .ref h0)]) hx hb d_H_sumAlone_40 rfl hl (by decide) rfl (fun ls hl => ?_)
    refine lv_aload_n hx hb d_H_sumAlone_41 rfl (lv_at hl 2 rfl) ?_
    refine va_get (D := (dC, dI)) (ci := 0) (v := .ref r0) (C := R_H) (T := T_H) (N := 12) hx hb hts (fun w h9 => ct_tl (ki_H w h9)) hown hK hP 0 rfl rfl 2 (by decide) (hts _ (ct_tl kw_116)) (fun _ h9 => h9) rfl d_H_sumAlone_42 ?_
    refine lv_iload_n hx hb d_H_sumAlone_45 rfl (lv_at hl 1 rfl) ?_
    refine lv_iload_n hx hb d_H_sumAlone_46 rfl (lv_at hl 0 rfl) ?_
    refine lv_sipush (v := (nI 243)) hx hb d_H_sumAlone_47 (by decide) ?_
    refine lv_iconst (v := (nI 0)) hx hb d_H_sumAlone_50 (by decide) ?_
    refine lv_sipush (v := (nI 216)) hx hb d_H_sumAlone_51 (by decide) ?_
    refine lv_aload_n hx hb d_H_sumAlone_54 rfl (lv_at hl 2 rfl) ?_
    refine va_get (D := (dC, dI)) (ci := 0) (v := .int (nI R)) (C := R_H) (T := T_H) (N := 12) hx hb hts (fun w h9 => ct_tl (ki_H w h9)) hown hK hP 0 rfl rfl 8 (by decide) (hts _ (ct_tl kw_122)) (fun _ h9 => h9) rfl d_H_sumAlone_55 ?_
    have hp0 : ct_pr sz (0 : Nat).testBit 8 = 1 := ct_pr_none sz
    have hPc := hP.sub (ws' := [(r0, .inr (3, [.ref z0, .ref r1, .ref r2, .ref r3, .ref r4, .ref r5, .ref r6])), (r1, .inl (cI, N, .inl f)), (r2, .inl (cI, 8, .inl fe)), (r3, .inl (cI, 8, .inl fi)), (r4, .inl (cI, 8, .inl fa)), (r5, .inl (cI, 8, .inl fb)), (r6, .inl (cI, 8, .inl ft)), (z0, .inr (1, [.ref z1])), (z1, .inl (cI, 8, .inl (fun j => nI (sz j))))]) [3, 4, 5, 6, 7, 8, 9, 10, 11] rfl
    have hDc := hD.sub (ws' := [(r0, .inr (3, [.ref z0, .ref r1, .ref r2, .ref r3, .ref r4, .ref r5, .ref r6])), (r1, .inl (cI, N, .inl f)), (r2, .inl (cI, 8, .inl fe)), (r3, .inl (cI, 8, .inl fi)), (r4, .inl (cI, 8, .inl fa)), (r5, .inl (cI, 8, .inl fb)), (r6, .inl (cI, 8, .inl ft)), (z0, .inr (1, [.ref z1])), (z1, .inl (cI, 8, .inl (fun j => nI (sz j))))]) [3, 4, 5, 6, 7, 8, 9, 10, 11] (by decide) rfl
    have hFc := va_free (wc := [(r0, .inr (3, [.ref z0, .ref r1, .ref r2, .ref r3, .ref r4, .ref r5, .ref r6])), (r1, .inl (cI, N, .inl f)), (r2, .inl (cI, 8, .inl fe)), (r3, .inl (cI, 8, .inl fi)), (r4, .inl (cI, 8, .inl fa)), (r5, .inl (cI, 8, .inl fb)), (r6, .inl (cI, 8, .inl ft)), (z0, .inr (1, [.ref z1])), (z1, .inl (cI, 8, .inl (fun j => nI (sz j))))]) hD hS hA [3, 4, 5, 6, 7, 8, 9, 10, 11] rfl
    refine va_callv (va_runV (As := [.int (nI home), .int (nI lab), .int (nI 243), .int (nI 0), .int (nI 216), .int (nI R)]) (rest := []) ⟨hx, hb, hml, hown, hts⟩ (c_R_join l dC dI cI z1 sz z0 r0 r1 r2 r3 r4 r5 r6 N f fe fi fa fb ft home lab 243 0 216 R hl6 (by omega) hR hsz hN hA0 (by omega) (by omega) (by omega) (by omega) H.size) (cwV 6 hts (ct_giV (fun w h9 => ct_tl h9) kw_449 kw_450 kw_451 kw_29 kw_452) rfl rfl rfl (by decide +kernel) ⟨Nat.le_of_ble_eq_true rfl, Nat.le_of_ble_eq_true rfl⟩) ⟨ct_rw_blind, va_recv hK hP (ci := 3) (q0 := 3) rfl rfl, ct_rw_pre hPc hK hDc⟩ rfl rfl hl.1 rfl (lv_room (Nat.le_of_ble_eq_true rfl)) d_H_sumAlone_58 ⟨Nat.le_of_ble_eq_true rfl, Nat.le_of_ble_eq_true rfl⟩) hS (fun q _ h9 => hFc q h9) hFc (fun ⟨f2, ge, gi, ga, gb, gt⟩ tS H1 locs ht hvm hj hB hz1 hk1 hS => ?_)
    obtain ⟨hP1, -, hD1⟩ := hB
    rw [ht] at hP1
    obtain ⟨hP, hD⟩ := va_join (wr := [(h0, .inr (0, [.ref z0, .ref p0, .ref r0, .int tab, .ref k1, .int (nI K), .ref k2, .ref k3, .int (nI R), .ref k4, .int pl, .int sm])), (k2, .inl (cI, 6, .inl fot)), (k3, .inl (cI, 6, .inl fo))]) (w1 := [(r0, .inr (3, [.ref z0, .ref r1, .ref r2, .ref r3, .ref r4, .ref r5, .ref r6])), (r1, .inl (cI, N, .inl f2)), (r2, .inl (cI, 8, .inl ge)), (r3, .inl (cI, 8, .inl gi)), (r4, .inl (cI, 8, .inl ga)), (r5, .inl (cI, 8, .inl gb)), (r6, .inl (cI, 8, .inl gt)), (z0, .inr (1, [.ref z1])), (z1, .inl (cI, 8, .inl (fun j => nI (sz j))))]) hP hD [3, 4, 5, 6, 7, 8, 9, 10, 11] [0, 1, 2] rfl rfl (by decide) (by decide) hk1 hFc hP1 hD1
    generalize H1 = H at hP hS ⊢
    have hP : va_P (dC, dI) ct_cl [(h0, .inr (0, [.ref z0, .ref p0, .ref r0, .int tab, .ref k1, .int (nI K), .ref k2, .ref k3, .int (nI R), .ref k4, .int pl, .int sm])), (k2, .inl (cI, 6, .inl fot)), (k3, .inl (cI, 6, .inl fo)), (r0, .inr (3, [.ref z0, .ref r1, .ref r2, .ref r3, .ref r4, .ref r5, .ref r6])), (r1, .inl (cI, N, .inl f2)), (r2, .inl (cI, 8, .inl ge)), (r3, .inl (cI, 8, .inl gi)), (r4, .inl (cI, 8, .inl ga)), (r5, .inl (cI, 8, .inl gb)), (r6, .inl (cI, 8, .inl gt)), (z0, .inr (1, [.ref z1])), (z1, .inl (cI, 8, .inl (fun j => nI (sz j))))] H := hP
    have hD : va_D A [(h0, .inr (0, [.ref z0, .ref p0, .ref r0, .int tab, .ref k1, .int (nI K), .ref k2, .ref k3, .int (nI R), .ref k4, .int pl, .int sm])), (k2, .inl (cI, 6, .inl fot)), (k3, .inl (cI, 6, .inl fo)), (r0, .inr (3, [.ref z0, .ref r1, .ref r2, .ref r3, .ref r4, .ref r5, .ref r6])), (r1, .inl (cI, N, .inl f2)), (r2, .inl (cI, 8, .inl ge)), (r3, .inl (cI, 8, .inl gi)), (r4, .inl (cI, 8, .inl ga)), (r5, .inl (cI, 8, .inl gb)), (r6, .inl (cI, 8, .inl gt)), (z0, .inr (1, [.ref z1])), (z1, .inl (cI, 8, .inl (fun j => nI (sz j))))] := hD
    have hP9 := hP.sub [0, 1, 2, 3, 4, 5, 6, 7, 8, 9, 10, 11] rfl
    exact W.vret hx hb hr (fun tS ht hW => ⟨⟨(f2, ge, gi, ga, gb, gt), rfl, hj, by rw [ht]; exact hP9, va_K.moved hW.alike hK, hD.sub [0, 1, 2, 3, 4, 5, 6, 7, 8, 9, 10, 11] (by decide) rfl⟩, hS.F ht⟩) hS.2.2 d_H_sumAlone_61
end
section
/-! following the plan: where the sets' cells stand -/
theorem ct_single : ∀ S, S < 64 → 0 < S → ct_sev S = false → ∃ o, o < 6 ∧ S = 2 ^ o := by
  intro S hS h0 hs
  have h : ∀ S, S < 64 → 0 < S → ct_sev S = false → (S = 1 ∨ S = 2 ∨ S = 4 ∨ S = 8 ∨ S = 16 ∨ S = 32) := by decide +kernel
  rcases h S hS h0 hs with h | h | h | h | h | h
  · exact ⟨0, by omega, h⟩
  · exact ⟨1, by omega, h⟩
  · exact ⟨2, by omega, h⟩
  · exact ⟨3, by omega, h⟩
  · exact ⟨4, by omega, h⟩
  · exact ⟨5, by omega, h⟩
theorem ct_pow_bit : ∀ o, o < 6 → ∀ k, k < 6 → (2 ^ o).testBit k = decide (k = o) := by decide +kernel
theorem ct_pow_lt : ∀ o, o < 6 → ∀ K, K < 7 → (2 ^ o < 2 ^ K ↔ o < K) := by decide +kernel
theorem ct_pow_inj : ∀ o, o < 6 → ∀ k, k < 6 → (2 ^ o = 2 ^ k ↔ o = k) := by decide +kernel
theorem ct_sev_pow : ∀ o, o < 6 → ct_sev (2 ^ o) = false := by decide +kernel
theorem ct_has_none {la : Nat → Nat} {S : Nat} (n : Nat) (h : ∀ k, k < n → S.testBit k = false) : ct_has la S n = 0 := by
  induction n with
  | zero => rfl
  | succ n ih => rw [ct_has_out (h n (by omega))]; exact ih (fun k hk => h k (by omega))
theorem ct_has_one {la : Nat → Nat} {S o : Nat} (n : Nat) (ho : o < n) (hS : S.testBit o = true) (h : ∀ k, k < n → k ≠ o → S.testBit k = false) : ct_has la S n = la o := by
  induction n with
  | zero => omega
  | succ n ih =>
    by_cases hn : o = n
    · subst hn
      rw [ct_has_in hS, ct_has_none o (fun k hk => h k (by omega) (by omega)), Nat.zero_or]
    · rw [ct_has_out (h n (by omega) (fun z => hn z.symm))]
      exact ih (by omega) (fun k hk => h k (by omega))
theorem ct_lv_one {la : Nat → Nat} {K R o : Nat} (hK : K ≤ 6) (ho : o < K) : ct_lv la K R (2 ^ o) = la o := by
  rw [ct_lv, if_neg (by rw [ct_sev_pow o (by omega)]; exact Bool.false_ne_true)]
  exact ct_has_one K ho (by rw [ct_pow_bit o (by omega) o (by omega)]; simp) (fun k hk hn => by rw [ct_pow_bit o (by omega) k (by omega)]; simpa using hn)
theorem ct_vs_pow {sz la : Nat → Nat} {K R o : Nat} {v : Nat → (Nat → Nat) → Int32} (hK : K ≤ 6) (ho : o < K) (t : Nat → Nat) : ct_vs sz la K R v (2 ^ o) t = v o t := by
  rw [ct_vs_one (ct_sev_pow o (by omega))]
  exact ct_pd_one K ho (by rw [ct_pow_bit o (by omega) o (by omega)]; simp) (fun k hk hn => by rw [ct_pow_bit o (by omega) k (by omega)]; simpa using hn) t
def ct_pl (sz la : Nat → Nat) (K R S : Nat) : Nat := ct_pr sz (ct_lv la K R S).testBit 8
/-- each set that is made has its cells somewhere below fr -/
def ct_pi (sz la : Nat → Nat) (K R : Nat) (v : Nat → (Nat → Nat) → Int32) (hm g : Nat → Int32) (fr : Nat) (T : List Nat) (k : Nat) : Prop :=
  ∀ S, 0 < S → S < 2 ^ K → (ct_sev S = false ∨ ∃ j, j < k ∧ T.getD j 0 = S) → ∃ x : Nat, hm S = nI x ∧ (x + ct_pl sz la K R S ≤ 216 ∨ (244 ≤ x ∧ x + ct_pl sz la K R S ≤ fr)) ∧ ∀ t : Nat → Nat, (∀ j, j < 8 → (ct_lv la K R S).testBit j = true → t j < sz j) → g (x + ct_ix sz (ct_lv la K R S).testBit 8 t) = ct_vs sz la K R v S t
theorem ct_pi_cells {sz la : Nat → Nat} {K R : Nat} {v : Nat → (Nat → Nat) → Int32} {hm g g2 : Nat → Int32} {fr k : Nat} {T : List Nat} (h : ct_pi sz la K R v hm g fr T k) (hg : ∀ i, (i < 216 ∨ (244 ≤ i ∧ i < fr)) → g2 i = g i) : ct_pi sz la K R v hm g2 fr T k := by
  intro S h0 hS hd
  obtain ⟨x, h1, h2, h3⟩ := h S h0 hS hd
  refine ⟨x, h1, h2, fun t ht => ?_⟩
  have hi := ct_ix_lt (sz := sz) (P := (ct_lv la K R S).testBit) (t := t) 8 ht
  have e : ct_pl sz la K R S = ct_pr sz (ct_lv la K R S).testBit 8 := rfl
  rw [hg _ (by omega)]
  exact h3 t ht
/-- two sets with their cells, joined -/
theorem ct_join_vs {sz la : Nat → Nat} {K R : Nat} {v : Nat → (Nat → Nat) → Int32} {g g2 : Nat → Int32} {a b xa xb to T : Nat} (hj : ct_joined sz g xa (ct_lv la K R a) xb (ct_lv la K R b) to T g2)
    (h1 : ∀ t : Nat → Nat, (∀ j, j < 8 → (ct_lv la K R a).testBit j = true → t j < sz j) → g (xa + ct_ix sz (ct_lv la K R a).testBit 8 t) = ct_vs sz la K R v a t)
    (h2 : ∀ t : Nat → Nat, (∀ j, j < 8 → (ct_lv la K R b).testBit j = true → t j < sz j) → g (xb + ct_ix sz (ct_lv la K R b).testBit 8 t) = ct_vs sz la K R v b t)
    (r : Nat → Nat) (hr : ∀ k, k < 8 → T.testBit k = true → r k < sz k) : g2 (to + ct_ix sz T.testBit 8 r) = ct_sm sz (fun k => (ct_lv la K R a ||| ct_lv la K R b ||| T).testBit k && !T.testBit k) 8 (fun u => ct_vs sz la K R v a u * ct_vs sz la K R v b u) r := by
  rw [hj.2 r hr]
  refine ct_sm_congrV (V := (ct_lv la K R a ||| ct_lv la K R b ||| T).testBit) (fun t ht => ?_) 8 r (fun k hk hV => ?_)
  · rw [h1 t (fun j hj hb => ht j hj (by simp [Nat.testBit_or, hb])), h2 t (fun j hj hb => ht j hj (by simp [Nat.testBit_or, hb]))]
  · cases hT : T.testBit k with
    | true => exact Or.inr (hr k hk hT)
    | false => exact Or.inl ⟨hk, by simp [hV]⟩
theorem ct_pi_step {sz la : Nat → Nat} {K R : Nat} {v : Nat → (Nat → Nat) → Int32} {hm g g2 : Nat → Int32} {fr k : Nat} {T : List Nat} (hK : K ≤ 6) (hv : ∀ o, o < K → ct_dep (v o) (fun k => decide (k < 8) && (la o).testBit k)) (h : ct_pi sz la K R v hm g fr T k) (hfr : 244 ≤ fr)
    {S a xa xb : Nat} (hT : T.getD k 0 = S) (hs : ct_sev S = true) (ha : a &&& S = a)
    (hj : ct_joined sz g xa (ct_lv la K R a) xb (ct_lv la K R (S ^^^ a)) fr (ct_lv la K R S) g2)
    (h1 : ∀ t : Nat → Nat, (∀ j, j < 8 → (ct_lv la K R a).testBit j = true → t j < sz j) → g (xa + ct_ix sz (ct_lv la K R a).testBit 8 t) = ct_vs sz la K R v a t)
    (h2 : ∀ t : Nat → Nat, (∀ j, j < 8 → (ct_lv la K R (S ^^^ a)).testBit j = true → t j < sz j) → g (xb + ct_ix sz (ct_lv la K R (S ^^^ a)).testBit 8 t) = ct_vs sz la K R v (S ^^^ a) t) :
    ct_pi sz la K R v (upd hm S (nI fr)) g2 (fr + ct_pl sz la K R S) T (k + 1) := by
  intro S' h0 hS' hd
  by_cases he : S' = S
  · subst he
    refine ⟨fr, pk_us, Or.inr ⟨hfr, Nat.le_refl _⟩, fun t ht => ?_⟩
    rw [ct_join_vs hj h1 h2 t ht]
    exact ct_vs_step hK hv ha hs t
  · have hd : ct_sev S' = false ∨ ∃ j, j < k ∧ T.getD j 0 = S' := by
      rcases hd with hd | ⟨j, j1, j2⟩
      · exact Or.inl hd
      · right
        by_cases hjk : j = k
        · rw [hjk, hT] at j2; exact absurd j2.symm he
        · exact ⟨j, by omega, j2⟩
    obtain ⟨x, q1, q2, q3⟩ := h S' h0 hS' hd
    refine ⟨x, by rw [pk_un he]; exact q1, ?_, fun t ht => ?_⟩
    · rcases q2 with q2 | q2
      · exact Or.inl q2
      · exact Or.inr ⟨q2.1, by omega⟩
    · have hi := ct_ix_lt (sz := sz) (P := (ct_lv la K R S').testBit) (t := t) 8 ht
      have e : ct_pl sz la K R S' = ct_pr sz (ct_lv la K R S').testBit 8 := rfl
      rw [hj.1 _ (by omega)]
      exact q3 t ht
/-- how far the cells reach before step k -/
def ct_fr (pl : Nat → Nat) : Nat → Nat
  | 0 => 244
  | k + 1 => ct_fr pl k + pl k
/-- how long the row is before step k -/
def ct_Nk (N : Nat) (pl : Nat → Nat) : Nat → Nat
  | 0 => N
  | k + 1 => if ct_fr pl (k + 1) ≤ ct_Nk N pl k then ct_Nk N pl k else (if ct_fr pl (k + 1) < 2 * ct_Nk N pl k then 2 * ct_Nk N pl k else ct_fr pl (k + 1))
theorem ct_Nk_le {N : Nat} {pl : Nat → Nat} (k : Nat) : ct_Nk N pl k ≤ ct_Nk N pl (k + 1) ∧ ct_fr pl (k + 1) ≤ ct_Nk N pl (k + 1) := by
  show ct_Nk N pl k ≤ (if _ then _ else _) ∧ ct_fr pl (k + 1) ≤ (if _ then _ else _)
  by_cases h : ct_fr pl (k + 1) ≤ ct_Nk N pl k
  · rw [if_pos h]; exact ⟨Nat.le_refl _, h⟩
  · rw [if_neg h]
    by_cases h2 : ct_fr pl (k + 1) < 2 * ct_Nk N pl k
    · rw [if_pos h2]; exact ⟨by omega, by omega⟩
    · rw [if_neg h2]; exact ⟨by omega, Nat.le_refl _⟩
theorem ct_Nk_mono {N : Nat} {pl : Nat → Nat} {k : Nat} (j : Nat) (h : k ≤ j) : ct_Nk N pl k ≤ ct_Nk N pl j := by
  induction j with
  | zero => rw [show k = 0 by omega]; exact Nat.le_refl _
  | succ j ih =>
    by_cases hk : k = j + 1
    · rw [hk]; exact Nat.le_refl _
    · exact Nat.le_trans (ih (by omega)) (ct_Nk_le j).1
theorem ct_fr_ge {pl : Nat → Nat} (k : Nat) : 244 ≤ ct_fr pl k := by
  induction k with
  | zero => exact Nat.le_refl _
  | succ k ih => show 244 ≤ ct_fr pl k + pl k; omega
theorem ct_fr_le {pl : Nat → Nat} (k : Nat) (h : ∀ j, j < k → pl j ≤ 6561) : ct_fr pl k ≤ 244 + 6561 * k := by
  induction k with
  | zero => exact Nat.le_refl _
  | succ k ih =>
    have := ih (fun j hj => h j (by omega))
    have := h k (by omega)
    show ct_fr pl k + pl k ≤ _
    omega
theorem ct_Nk_max {N : Nat} {pl : Nat → Nat} (hN : N ≤ 60000) (k : Nat) (h : ∀ j, j < k → pl j ≤ 6561) (hk : k ≤ 4) : ct_Nk N pl k ≤ 60000 := by
  induction k with
  | zero => exact hN
  | succ k ih =>
    have ih := ih (fun j hj => h j (by omega)) (by omega)
    have hf := ct_fr_le (k + 1) h
    show (if _ then _ else _) ≤ 60000
    by_cases h1 : ct_fr pl (k + 1) ≤ ct_Nk N pl k
    · rw [if_pos h1]; exact ih
    · rw [if_neg h1]
      by_cases h2 : ct_fr pl (k + 1) < 2 * ct_Nk N pl k
      · rw [if_pos h2]
        have h3 : 244 + 6561 * (k + 1) ≤ 30000 := by omega
        exact Nat.le_trans (Nat.mul_le_mul_left 2 (show ct_Nk N pl k ≤ 30000 by omega)) (Nat.le_refl _)
      · rw [if_neg h2]
        exact Nat.le_trans hf (show 244 + 6561 * (k + 1) ≤ 60000 by omega)
end
section
theorem d_H_followPlan_0 : decode b_H_followPlan 0 = .ok (.iconst 0, 1) := by decide +kernel
theorem d_H_followPlan_1 : decode b_H_followPlan 1 = .ok (.istore_n 1, 1) := by decide +kernel
theorem d_H_followPlan_2 : decode b_H_followPlan 2 = .ok (.iload_n 1, 1) := by decide +kernel
theorem d_H_followPlan_3 : decode b_H_followPlan 3 = .ok (.aload_n 0, 1) := by decide +kernel
theorem d_H_followPlan_4 : decode b_H_followPlan 4 = .ok (.getfield 110, 3) := by decide +kernel
theorem d_H_followPlan_7 : decode b_H_followPlan 7 = .ok (.if_icmp .ge 26, 3) := by decide +kernel
theorem d_H_followPlan_10 : decode b_H_followPlan 10 = .ok (.aload_n 0, 1) := by decide +kernel
theorem d_H_followPlan_11 : decode b_H_followPlan 11 = .ok (.getfield 42, 3) := by decide +kernel
theorem d_H_followPlan_14 : decode b_H_followPlan 14 = .ok (.iconst 1, 1) := by decide +kernel
theorem d_H_followPlan_15 : decode b_H_followPlan 15 = .ok (.iload_n 1, 1) := by decide +kernel
theorem d_H_followPlan_16 : decode b_H_followPlan 16 = .ok (.ishl, 1) := by decide +kernel
theorem d_H_followPlan_17 : decode b_H_followPlan 17 = .ok (.aload_n 0, 1) := by decide +kernel
theorem d_H_followPlan_18 : decode b_H_followPlan 18 = .ok (.getfield 36, 3) := by decide +kernel
theorem d_H_followPlan_21 : decode b_H_followPlan 21 = .ok (.iload_n 1, 1) := by decide +kernel
theorem d_H_followPlan_22 : decode b_H_followPlan 22 = .ok (.iaload, 1) := by decide +kernel
theorem d_H_followPlan_23 : decode b_H_followPlan 23 = .ok (.invokestatic 104, 3) := by decide +kernel
theorem d_H_followPlan_26 : decode b_H_followPlan 26 = .ok (.iastore, 1) := by decide +kernel
theorem d_H_followPlan_27 : decode b_H_followPlan 27 = .ok (.iinc 1 1, 3) := by decide +kernel
theorem d_H_followPlan_30 : decode b_H_followPlan 30 = .ok (.goto (-28), 3) := by decide +kernel
theorem d_H_followPlan_33 : decode b_H_followPlan 33 = .ok (.aload_n 0, 1) := by decide +kernel
theorem d_H_followPlan_34 : decode b_H_followPlan 34 = .ok (.invokevirtual 131, 3) := by decide +kernel
theorem d_H_followPlan_37 : decode b_H_followPlan 37 = .ok (.iconst 1, 1) := by decide +kernel
theorem d_H_followPlan_38 : decode b_H_followPlan 38 = .ok (.isub, 1) := by decide +kernel
theorem d_H_followPlan_39 : decode b_H_followPlan 39 = .ok (.istore_n 1, 1) := by decide +kernel
theorem d_H_followPlan_40 : decode b_H_followPlan 40 = .ok (.sipush 244, 3) := by decide +kernel
theorem d_H_followPlan_43 : decode b_H_followPlan 43 = .ok (.istore_n 2, 1) := by decide +kernel
theorem d_H_followPlan_44 : decode b_H_followPlan 44 = .ok (.iconst 0, 1) := by decide +kernel
theorem d_H_followPlan_45 : decode b_H_followPlan 45 = .ok (.istore_n 3, 1) := by decide +kernel
theorem d_H_followPlan_46 : decode b_H_followPlan 46 = .ok (.iload_n 3, 1) := by decide +kernel
theorem d_H_followPlan_47 : decode b_H_followPlan 47 = .ok (.iload_n 1, 1) := by decide +kernel
theorem d_H_followPlan_48 : decode b_H_followPlan 48 = .ok (.if_icmp .ge 67, 3) := by decide +kernel
theorem d_H_followPlan_51 : decode b_H_followPlan 51 = .ok (.aload_n 0, 1) := by decide +kernel
theorem d_H_followPlan_52 : decode b_H_followPlan 52 = .ok (.getfield 21, 3) := by decide +kernel
theorem d_H_followPlan_55 : decode b_H_followPlan 55 = .ok (.iload_n 3, 1) := by decide +kernel
theorem d_H_followPlan_56 : decode b_H_followPlan 56 = .ok (.invokevirtual 138, 3) := by decide +kernel
theorem d_H_followPlan_59 : decode b_H_followPlan 59 = .ok (.istore 4, 2) := by decide +kernel
theorem d_H_followPlan_61 : decode b_H_followPlan 61 = .ok (.iload_n 2, 1) := by decide +kernel
theorem d_H_followPlan_62 : decode b_H_followPlan 62 = .ok (.aload_n 0, 1) := by decide +kernel
theorem d_H_followPlan_63 : decode b_H_followPlan 63 = .ok (.getfield 12, 3) := by decide +kernel
theorem d_H_followPlan_66 : decode b_H_followPlan 66 = .ok (.aload_n 0, 1) := by decide +kernel
theorem d_H_followPlan_67 : decode b_H_followPlan 67 = .ok (.getfield 21, 3) := by decide +kernel
theorem d_H_followPlan_70 : decode b_H_followPlan 70 = .ok (.iload 4, 2) := by decide +kernel
theorem d_H_followPlan_72 : decode b_H_followPlan 72 = .ok (.invokevirtual 178, 3) := by decide +kernel
theorem d_H_followPlan_75 : decode b_H_followPlan 75 = .ok (.invokevirtual 98, 3) := by decide +kernel
theorem d_H_followPlan_78 : decode b_H_followPlan 78 = .ok (.iadd, 1) := by decide +kernel
theorem d_H_followPlan_79 : decode b_H_followPlan 79 = .ok (.istore 5, 2) := by decide +kernel
theorem d_H_followPlan_81 : decode b_H_followPlan 81 = .ok (.aload_n 0, 1) := by decide +kernel
theorem d_H_followPlan_82 : decode b_H_followPlan 82 = .ok (.getfield 28, 3) := by decide +kernel
theorem d_H_followPlan_85 : decode b_H_followPlan 85 = .ok (.iload 5, 2) := by decide +kernel
theorem d_H_followPlan_87 : decode b_H_followPlan 87 = .ok (.invokevirtual 181, 3) := by decide +kernel
theorem d_H_followPlan_90 : decode b_H_followPlan 90 = .ok (.aload_n 0, 1) := by decide +kernel
theorem d_H_followPlan_91 : decode b_H_followPlan 91 = .ok (.iload 4, 2) := by decide +kernel
theorem d_H_followPlan_93 : decode b_H_followPlan 93 = .ok (.iload_n 2, 1) := by decide +kernel
theorem d_H_followPlan_94 : decode b_H_followPlan 94 = .ok (.aload_n 0, 1) := by decide +kernel
theorem d_H_followPlan_95 : decode b_H_followPlan 95 = .ok (.getfield 21, 3) := by decide +kernel
theorem d_H_followPlan_98 : decode b_H_followPlan 98 = .ok (.iload 4, 2) := by decide +kernel
theorem d_H_followPlan_100 : decode b_H_followPlan 100 = .ok (.invokevirtual 178, 3) := by decide +kernel
theorem d_H_followPlan_103 : decode b_H_followPlan 103 = .ok (.invokevirtual 185, 3) := by decide +kernel
theorem d_H_followPlan_106 : decode b_H_followPlan 106 = .ok (.iload 5, 2) := by decide +kernel
theorem d_H_followPlan_108 : decode b_H_followPlan 108 = .ok (.istore_n 2, 1) := by decide +kernel
theorem d_H_followPlan_109 : decode b_H_followPlan 109 = .ok (.iinc 3 1, 3) := by decide +kernel
theorem d_H_followPlan_112 : decode b_H_followPlan 112 = .ok (.goto (-66), 3) := by decide +kernel
theorem d_H_followPlan_115 : decode b_H_followPlan 115 = .ok (.aload_n 0, 1) := by decide +kernel
theorem d_H_followPlan_116 : decode b_H_followPlan 116 = .ok (.aload_n 0, 1) := by decide +kernel
theorem d_H_followPlan_117 : decode b_H_followPlan 117 = .ok (.getfield 21, 3) := by decide +kernel
theorem d_H_followPlan_120 : decode b_H_followPlan 120 = .ok (.iload_n 1, 1) := by decide +kernel
theorem d_H_followPlan_121 : decode b_H_followPlan 121 = .ok (.invokevirtual 138, 3) := by decide +kernel
theorem d_H_followPlan_124 : decode b_H_followPlan 124 = .ok (.sipush 216, 3) := by decide +kernel
theorem d_H_followPlan_127 : decode b_H_followPlan 127 = .ok (.aload_n 0, 1) := by decide +kernel
theorem d_H_followPlan_128 : decode b_H_followPlan 128 = .ok (.getfield 113, 3) := by decide +kernel
theorem d_H_followPlan_131 : decode b_H_followPlan 131 = .ok (.invokevirtual 185, 3) := by decide +kernel
theorem d_H_followPlan_134 : decode b_H_followPlan 134 = .ok (.return_, 1) := by decide +kernel
set_option maxHeartbeats 4000000 in
set_option maxRecDepth 100000 in
theorem c_H_followPlan (l : Launch) (dC : Nat → ClassId) (dI : Nat → Nat → Nat) (cI : ClassId) (z1 : Nat) (sz : Nat → Nat) (p1 p2 p3 p4 p5 : Nat) (h0 z0 p0 r0 k1 k2 k3 k4 : Nat) (r1 r2 r3 r4 r5 r6 : Nat) (tab pl sm : Int32) (N M K R : Nat) (la ot : Nat → Nat) (TT : List Nat) (fot hm fl fp fj f fe fi fa fb ft : Nat → Int32) (hK6 : K ≤ 6) (hK2 : 2 ≤ K) (hsz : ∀ k, k < 8 → 0 < sz k ∧ sz k < 4) (hla : ∀ k, k < K → la k < 256) (hR : R < 256) (hTT : TT = (ct_ls (ct_B (ct_jc sz la K R)) 64 (2 ^ K - 1))) (hM : M = ct_Nk N (fun k => ct_pl sz la K R (TT.getD k 0)) (K - 2)) (hN0 : 244 ≤ N) (hN6 : N ≤ 60000) (hfl : ∀ S, 0 < S → S < 2 ^ K → fl S = nI (ct_lv la K R S)) (hfp : ∀ S, S < 2 ^ K → ct_sev S = true → fp S = nI (ct_B (ct_jc sz la K R) S).2) (hfj : ∀ k, k < K - 1 → fj k = nI (TT.getD k 0)) (hot : ∀ o, o < K → fot o = nI (ot o) ∧ ot o < 8) (hp27 : ∀ o, o < K → ct_pr sz (la o).testBit 8 ≤ 27) (hR27 : (ct_pr sz R.testBit 8) ≤ 27) (sz0 : Nat) : Met l y_H_followPlan w_H_followPlan ({ frames := 5, cells := (M - N), slots := (2 * (M - N)), locals := 132 }) (va_Pc [.ref h0] (ct_rw (dC, dI) ct_cl [(h0, .inr (0, [.ref z0, .ref p0, .ref r0, .int tab, .ref k1, .int (nI K), .ref k2, .ref k3, .int (nI R), .ref k4, .int pl, .int sm])), (k2, .inl (cI, 6, .inl fot)), (k4, .inl (cI, 64, .inl hm)), (p0, .inr (2, [.ref z0, .ref p1, .ref p2, .ref p3, .ref p4, .ref p5])), (p2, .inl (cI, 64, .inl fl)), (p4, .inl (cI, 64, .inl fp)), (p5, .inl (cI, 5, .inl fj)), (r0, .inr (3, [.ref z0, .ref r1, .ref r2, .ref r3, .ref r4, .ref r5, .ref r6])), (r1, .inl (cI, N, .inl f)), (r2, .inl (cI, 8, .inl fe)), (r3, .inl (cI, 8, .inl fi)), (r4, .inl (cI, 8, .inl fa)), (r5, .inl (cI, 8, .inl fb)), (r6, .inl (cI, 8, .inl ft)), (z0, .inr (1, [.ref z1])), (z1, .inl (cI, 8, .inl (fun j => nI (sz j))))] [(cI, .int)] sz0)) (va_Qv (fun (u : Nat × (Nat → Int32) × (Nat → Int32) × (Nat → Int32) × (Nat → Int32) × (Nat → Int32) × (Nat → Int32) × (Nat → Int32)) => (∀ i, i < 216 → u.2.2.1 i = f i) ∧ u.2.2.1 243 = f 243 ∧ ∀ r : Nat → Nat, (∀ k, k < 8 → R.testBit k = true → r k < sz k) → u.2.2.1 (216 + ct_ix sz R.testBit 8 r) = ct_sm sz (fun k => (ct_has la (2 ^ K - 1) K).testBit k && !R.testBit k) 8 (ct_pd (fun o t => f (ot o * 27 + ct_ix sz (la o).testBit 8 t)) (2 ^ K - 1) K) r) (fun (u : Nat × (Nat → Int32) × (Nat → Int32) × (Nat → Int32) × (Nat → Int32) × (Nat → Int32) × (Nat → Int32) × (Nat → Int32)) t => ct_at (dC, dI) ct_cl [(cI, .int)] (va_A [(h0, .inr (0, [.ref z0, .ref p0, .ref r0, .int tab, .ref k1, .int (nI K), .ref k2, .ref k3, .int (nI R), .ref k4, .int pl, .int sm])), (k2, .inl (cI, 6, .inl fot)), (k4, .inl (cI, 64, .inl hm)), (p0, .inr (2, [.ref z0, .ref p1, .ref p2, .ref p3, .ref p4, .ref p5])), (p2, .inl (cI, 64, .inl fl)), (p4, .inl (cI, 64, .inl fp)), (p5, .inl (cI, 5, .inl fj)), (r0, .inr (3, [.ref z0, .ref r1, .ref r2, .ref r3, .ref r4, .ref r5, .ref r6])), (r1, .inl (cI, N, .inl f)), (r2, .inl (cI, 8, .inl fe)), (r3, .inl (cI, 8, .inl fi)), (r4, .inl (cI, 8, .inl fa)), (r5, .inl (cI, 8, .inl fb)), (r6, .inl (cI, 8, .inl ft)), (z0, .inr (1, [.ref z1])), (z1, .inl (cI, 8, .inl (fun j => nI (sz j))))] sz0) [(h0, .inr (0, [.ref z0, .ref p0, .ref r0, .int tab, .ref k1, .int (nI K), .ref k2, .ref k3, .int (nI R), .ref k4, .int pl, .int sm])), (k2, .inl (cI, 6, .inl fot)), (k4, .inl (cI, 64, .inl (u.2.1))), (p0, .inr (2, [.ref z0, .ref p1, .ref p2, .ref p3, .ref p4, .ref p5])), (p2, .inl (cI, 64, .inl fl)), (p4, .inl (cI, 64, .inl fp)), (p5, .inl (cI, 5, .inl fj)), (r0, .inr (3, [.ref z0, .ref u.1, .ref r2, .ref r3, .ref r4, .ref r5, .ref r6])), (u.1, .inl (cI, M, .inl (u.2.2.1))), (r2, .inl (cI, 8, .inl (u.2.2.2.1))), (r3, .inl (cI, 8, .inl (u.2.2.2.2.1))), (r4, .inl (cI, 8, .inl (u.2.2.2.2.2.1))), (r5, .inl (cI, 8, .inl (u.2.2.2.2.2.2.1))), (r6, .inl (cI, 8, .inl (u.2.2.2.2.2.2.2))), (z0, .inr (1, [.ref z1])), (z1, .inl (cI, 8, .inl (fun j => nI (sz j))))] t) (va_A [(h0, .inr (0, [.ref z0, .ref p0, .ref r0, .int tab, .ref k1, .int (nI K), .ref k2, .ref k3, .int (nI R), .ref k4, .int pl, .int sm])), (k2, .inl (cI, 6, .inl fot)), (k4, .inl (cI, 64, .inl hm)), (p0, .inr (2, [.ref z0, .ref p1, .ref p2, .ref p3, .ref p4, .ref p5])), (p2, .inl (cI, 64, .inl fl)), (p4, .inl (cI, 64, .inl fp)), (p5, .inl (cI, 5, .inl fj)), (r0, .inr (3, [.ref z0, .ref r1, .ref r2, .ref r3, .ref r4, .ref r5, .ref r6])), (r1, .inl (cI, N, .inl f)), (r2, .inl (cI, 8, .inl fe)), (r3, .inl (cI, 8, .inl fi)), (r4, .inl (cI, 8, .inl fa)), (r5, .inl (cI, 8, .inl fb)), (r6, .inl (cI, 8, .inl ft)), (z0, .inr (1, [.ref z1])), (z1, .inl (cI, 8, .inl (fun j => nI (sz j))))] sz0)) (M - N) (2 * (M - N)) (va_A [(h0, .inr (0, [.ref z0, .ref p0, .ref r0, .int tab, .ref k1, .int (nI K), .ref k2, .ref k3, .int (nI R), .ref k4, .int pl, .int sm])), (k2, .inl (cI, 6, .inl fot)), (k4, .inl (cI, 64, .inl hm)), (p0, .inr (2, [.ref z0, .ref p1, .ref p2, .ref p3, .ref p4, .ref p5])), (p2, .inl (cI, 64, .inl fl)), (p4, .inl (cI, 64, .inl fp)), (p5, .inl (cI, 5, .inl fj)), (r0, .inr (3, [.ref z0, .ref r1, .ref r2, .ref r3, .ref r4, .ref r5, .ref r6])), (r1, .inl (cI, N, .inl f)), (r2, .inl (cI, 8, .inl fe)), (r3, .inl (cI, 8, .inl fi)), (r4, .inl (cI, 8, .inl fa)), (r5, .inl (cI, 8, .inl fb)), (r6, .inl (cI, 8, .inl ft)), (z0, .inr (1, [.ref z1])), (z1, .inl (cI, 8, .inl (fun j => nI (sz j))))] sz0) := by
  refine Met.ofW (cc := b_H_followPlan) (maxL := 6) (ret := none) (by decide) rfl ?_
  intro p e s m args below meth c s₁ Bd hml hv
  obtain ⟨hargs, hsz, hP, hK, hD0⟩ := hv
  have hx := Bd.exec
  have hb := Bd.bytes
  have hr := Bd.returns
  have hts : ∀ w ∈ k_H_followPlan :: ct_tb, w.before args s = true := atoms_spec (ws := w_H_followPlan) Bd.pre
  have hown : s.vm.findClass R_H = some m.cls := findClass_of_methodNamed Bd.named
  have hlocks := Bd.notSynchronized
  subst hsz
  have hD := hD0.self (sz := s.heap.size)
  generalize hAe : va_A [(h0, .inr (0, [.ref z0, .ref p0, .ref r0, .int tab, .ref k1, .int (nI K), .ref k2, .ref k3, .int (nI R), .ref k4, .int pl, .int sm])), (k2, .inl (cI, 6, .inl fot)), (k4, .inl (cI, 64, .inl hm)), (p0, .inr (2, [.ref z0, .ref p1, .ref p2, .ref p3, .ref p4, .ref p5])), (p2, .inl (cI, 64, .inl fl)), (p4, .inl (cI, 64, .inl fp)), (p5, .inl (cI, 5, .inl fj)), (r0, .inr (3, [.ref z0, .ref r1, .ref r2, .ref r3, .ref r4, .ref r5, .ref r6])), (r1, .inl (cI, N, .inl f)), (r2, .inl (cI, 8, .inl fe)), (r3, .inl (cI, 8, .inl fi)), (r4, .inl (cI, 8, .inl fa)), (r5, .inl (cI, 8, .inl fb)), (r6, .inl (cI, 8, .inl ft)), (z0, .inr (1, [.ref z1])), (z1, .inl (cI, 8, .inl (fun j => nI (sz j))))] s.heap.size = A at hD ⊢
  have hA : ∀ q : Nat, s.heap.size ≤ q → A q := fun q h => by rw [← hAe]; exact Or.inr h
  have hS : va_S A s.heap s.heap [] := va_S.rf
  have hl := lv_entry ([.ref h0]) (n := 6) (Nat.le_of_ble_eq_true rfl)
  rw [show entryFrame m args 6 = entryFrame m (([.ref h0] : List Value)).toArray 6 by rw [hargs], lg_entry_eq]
  generalize (lg_sl ([.ref h0]) ++ List.replicate (6 - (lg_sl ([.ref h0])).length) Slot.unset).toArray = ls at hl ⊢
  have hl : lv_has ls 6 [(0, .ref h0)] := hl
  have h2K := ct_2K K (by omega)
  have hsall := ct_sev_all K (by omega) hK2
  have hokB := ct_okB_B (ct_jc sz la K R)
  have hlen : TT.length = K - 1 := by rw [hTT]; have h9 := ct_ls_len hokB 64 (2 ^ K - 1) (by omega) (by omega) (ct_sev0 hsall); rw [ct_pop_all K (by omega)] at h9; omega
  have hprev : ct_prev (ct_B (ct_jc sz la K R)) TT := by rw [hTT]; exact ct_ls_prev hokB 64 _ (by omega) (by omega)
  have hlast : TT.getD (K - 2) 0 = 2 ^ K - 1 := by have h9 := (ct_ls_end hokB (S := 2 ^ K - 1) (by omega) hsall).2; rw [← hTT, hlen] at h9; exact h9
  have hmem : ∀ k, k < K - 1 → TT.getD k 0 < 2 ^ K := fun k hk => by
      have h9 : TT.getD k 0 ∈ TT := by
        rw [List.getD_eq_getElem?_getD, List.getElem?_eq_getElem (by omega)]; exact List.getElem_mem _
      rw [hTT] at h9
      exact ct_mem_lt hokB 64 (2 ^ K - 1) (by omega) (by omega) (by omega) _ (by rw [← hTT] at h9 ⊢; exact h9)
  generalize hv : (fun o t => f (ot o * 27 + ct_ix sz (la o).testBit 8 t)) = v
  have hvd : ∀ o, o < K → ct_dep (v o) (fun k => decide (k < 8) && (la o).testBit k) := fun o _ => by rw [← hv]; exact ct_dep_ix sz (la o) f (ot o * 27)
  have hpl : ∀ S, ct_pl sz la K R S ≤ 6561 := fun S => ct_pr_le 8 (fun k hk => by have := (hsz k hk).2; omega)
  have hlv : ∀ S, ct_lv la K R S < 256 := fun S => ct_lv_lt hla
  have hpe : ∀ S, ct_pl sz la K R S = ct_pr sz (ct_lv la K R S).testBit 8 := fun S => rfl
  have loop2 : ∀ (n k : Nat), k + n = K - 2 → ∀ (q : Nat) (gm g ge gi ga gb gt : Nat → Int32), (∀ i, i < 216 → g i = f i) → g 243 = f 243 → ct_pi sz la K R v gm g (ct_fr (fun k => ct_pl sz la K R (TT.getD k 0)) k) TT k → (ct_fr (fun k => ct_pl sz la K R (TT.getD k 0)) k) ≤ (ct_Nk N (fun k => ct_pl sz la K R (TT.getD k 0)) k) → ∀ (H : Heap) (locs : List Loc), va_P (dC, dI) ct_cl [(h0, .inr (0, [.ref z0, .ref p0, .ref r0, .int tab, .ref k1, .int (nI K), .ref k2, .ref k3, .int (nI R), .ref k4, .int pl, .int sm])), (k2, .inl (cI, 6, .inl fot)), (k4, .inl (cI, 64, .inl gm)), (p0, .inr (2, [.ref z0, .ref p1, .ref p2, .ref p3, .ref p4, .ref p5])), (p2, .inl (cI, 64, .inl fl)), (p4, .inl (cI, 64, .inl fp)), (p5, .inl (cI, 5, .inl fj)), (r0, .inr (3, [.ref z0, .ref q, .ref r2, .ref r3, .ref r4, .ref r5, .ref r6])), (q, .inl (cI, (ct_Nk N (fun k => ct_pl sz la K R (TT.getD k 0)) k), .inl g)), (r2, .inl (cI, 8, .inl ge)), (r3, .inl (cI, 8, .inl gi)), (r4, .inl (cI, 8, .inl ga)), (r5, .inl (cI, 8, .inl gb)), (r6, .inl (cI, 8, .inl gt)), (z0, .inr (1, [.ref z1])), (z1, .inl (cI, 8, .inl (fun j => nI (sz j))))] H → va_D A [(h0, .inr (0, [.ref z0, .ref p0, .ref r0, .int tab, .ref k1, .int (nI K), .ref k2, .ref k3, .int (nI R), .ref k4, .int pl, .int sm])), (k2, .inl (cI, 6, .inl fot)), (k4, .inl (cI, 64, .inl gm)), (p0, .inr (2, [.ref z0, .ref p1, .ref p2, .ref p3, .ref p4, .ref p5])), (p2, .inl (cI, 64, .inl fl)), (p4, .inl (cI, 64, .inl fp)), (p5, .inl (cI, 5, .inl fj)), (r0, .inr (3, [.ref z0, .ref q, .ref r2, .ref r3, .ref r4, .ref r5, .ref r6])), (q, .inl (cI, (ct_Nk N (fun k => ct_pl sz la K R (TT.getD k 0)) k), .inl g)), (r2, .inl (cI, 8, .inl ge)), (r3, .inl (cI, 8, .inl gi)), (r4, .inl (cI, 8, .inl ga)), (r5, .inl (cI, 8, .inl gb)), (r6, .inl (cI, 8, .inl gt)), (z0, .inr (1, [.ref z1])), (z1, .inl (cI, 8, .inl (fun j => nI (sz j))))] → va_S A s.heap H locs → ∀ (ls : Array Slot), lv_has ls 6 [(0, .ref h0), (1, .int (nI (K - 2))), (2, .int (nI (ct_fr (fun k => ct_pl sz la K R (TT.getD k 0)) k))), (3, .int (nI k))] → W p l e (headSpec w_H_followPlan ({ frames := 5, cells := (M - N), slots := (2 * (M - N)), locals := 132 } : Room)).room s m args below meth c H locs ((ct_Nk N (fun k => ct_pl sz la K R (TT.getD k 0)) k) - N) (2 * ((ct_Nk N (fun k => ct_pl sz la K R (TT.getD k 0)) k) - N)) (MQ below (va_Qv (fun (u : Nat × (Nat → Int32) × (Nat → Int32) × (Nat → Int32) × (Nat → Int32) × (Nat → Int32) × (Nat → Int32) × (Nat → Int32)) => (∀ i, i < 216 → u.2.2.1 i = f i) ∧ u.2.2.1 243 = f 243 ∧ ∀ r : Nat → Nat, (∀ k, k < 8 → R.testBit k = true → r k < sz k) → u.2.2.1 (216 + ct_ix sz R.testBit 8 r) = ct_sm sz (fun k => (ct_has la (2 ^ K - 1) K).testBit k && !R.testBit k) 8 (ct_pd v (2 ^ K - 1) K) r) (fun (u : Nat × (Nat → Int32) × (Nat → Int32) × (Nat → Int32) × (Nat → Int32) × (Nat → Int32) × (Nat → Int32) × (Nat → Int32)) t => ct_at (dC, dI) ct_cl [(cI, .int)] (A) [(h0, .inr (0, [.ref z0, .ref p0, .ref r0, .int tab, .ref k1, .int (nI K), .ref k2, .ref k3, .int (nI R), .ref k4, .int pl, .int sm])), (k2, .inl (cI, 6, .inl fot)), (k4, .inl (cI, 64, .inl (u.2.1))), (p0, .inr (2, [.ref z0, .ref p1, .ref p2, .ref p3, .ref p4, .ref p5])), (p2, .inl (cI, 64, .inl fl)), (p4, .inl (cI, 64, .inl fp)), (p5, .inl (cI, 5, .inl fj)), (r0, .inr (3, [.ref z0, .ref u.1, .ref r2, .ref r3, .ref r4, .ref r5, .ref r6])), (u.1, .inl (cI, M, .inl (u.2.2.1))), (r2, .inl (cI, 8, .inl (u.2.2.2.1))), (r3, .inl (cI, 8, .inl (u.2.2.2.2.1))), (r4, .inl (cI, 8, .inl (u.2.2.2.2.2.1))), (r5, .inl (cI, 8, .inl (u.2.2.2.2.2.2.1))), (r6, .inl (cI, 8, .inl (u.2.2.2.2.2.2.2))), (z0, .inr (1, [.ref z1])), (z1, .inl (cI, 8, .inl (fun j => nI (sz j))))] t) (A)) args s (M - N) (2 * (M - N)) A) (F0 m 46 ls []) := by
    intro n
    induction n with
    | zero =>
      intro k hk q gm g ge gi ga gb gt hg1 hg3 hpi hfN H locs hP hD hS ls hl
      refine lv_iload_n hx hb d_H_followPlan_46 rfl (lv_at hl 3 rfl) ?_
      refine lv_iload_n hx hb d_H_followPlan_47 rfl (lv_at hl 1 rfl) ?_
      have hNkM : (ct_Nk N (fun k => ct_pl sz la K R (TT.getD k 0)) k) ≤ M := by rw [hM]; exact ct_Nk_mono (K - 2) (by omega)
      have hNk := ct_Nk_max (N := N) (pl := (fun k => ct_pl sz la K R (TT.getD k 0))) hN6 k (fun j _ => hpl _) (by omega)
      have hfr := ct_fr_ge (pl := (fun k => ct_pl sz la K R (TT.getD k 0))) k
      have hNm := ct_Nk_mono (N := N) (pl := (fun k => ct_pl sz la K R (TT.getD k 0))) (k := 0) k (Nat.zero_le k)
      have hN00 : ct_Nk N (fun k => ct_pl sz la K R (TT.getD k 0)) 0 = N := rfl
      have hfj9 := hfj k (by omega)
      have hpv := hprev k (by omega)
      have hmm := hmem k (by omega)
      have hk2 : k = K - 2 := by omega
      have hkl : TT.getD k 0 = 2 ^ K - 1 := by rw [hk2]; exact hlast
      obtain ⟨hs, hS6, hpr1, hpr2⟩ := hpv
      rw [hkl] at hs hS6 hpr1 hpr2 hfj9 hmm
      have hp := hokB (2 ^ K - 1) hS6 hs
      have hpc := ct_pt_co (2 ^ K - 1) hS6 _ hp.1 hp.2
      have hp0 := ct_pt_pos hp.2
      have hpa := (ct_pt_1 hp.2).1
      refine lv_icmp_ge (tgt := 115) hx hb d_H_followPlan_48 (by decide) (fun _ => ?_) (fun hc9 => absurd (nI_le (by omega) (by omega)) hc9)
      refine lv_aload_n hx hb d_H_followPlan_115 rfl (lv_at hl 0 rfl) ?_
      refine lv_aload_n hx hb d_H_followPlan_116 rfl (lv_at hl 0 rfl) ?_
      refine va_get (D := (dC, dI)) (ci := 0) (v := .ref p0) (C := R_H) (T := T_H) (N := 12) hx hb hts (fun w h9 => ct_tl (ki_H w h9)) hown hK hP 0 rfl rfl 1 (by decide) (hts _ (ct_tl kw_115)) (fun _ h9 => h9) rfl d_H_followPlan_117 ?_
      refine lv_iload_n hx hb d_H_followPlan_120 rfl (lv_at hl 1 rfl) ?_
      refine va_calli (va_runV (As := [.int (nI (K - 2))]) (rest := [.ref h0]) ⟨hx, hb, hml, hown, hts⟩ (c_P_joinedBy l dC dI cI z0 p0 p1 p2 p3 p4 p5 fj (K - 2) (by omega)) (cwV 1 hts (ct_giV (fun w h9 => ct_tl h9) kw_428 kw_429 kw_430 kw_28 kw_431) rfl rfl rfl (by decide +kernel) ⟨Nat.le_of_ble_eq_true rfl, Nat.le_of_ble_eq_true rfl⟩) ⟨ct_ro_blind, va_recv hK hP (ci := 2) (q0 := 3) rfl rfl, ct_ro_pre (hP.sub [3, 6] rfl) hK⟩ rfl rfl hl.1 rfl (lv_room (Nat.le_of_ble_eq_true rfl)) d_H_followPlan_121 ⟨by show (ct_Nk N (fun k => ct_pl sz la K R (TT.getD k 0)) k) - N + 0 ≤ M - N; omega, by show 2 * ((ct_Nk N (fun k => ct_pl sz la K R (TT.getD k 0)) k) - N) + 0 ≤ 2 * (M - N); omega⟩) hS (fun q _ h9 => h9.elim) (fun q h9 => h9.elim) (fun ans1 uS tS H locs ht hvm hwans1 hB hz1 hk1 hS => ?_)
      have hP := ct_keep hP hk1
      refine ct_val (y := fj (K - 2)) (hwans1) ?_
      refine ct_val (y := nI (2 ^ K - 1)) (by rw [← hk2]; exact hfj9) ?_
      refine lv_sipush (v := (nI 216)) hx hb d_H_followPlan_124 (by decide) ?_
      refine lv_aload_n hx hb d_H_followPlan_127 rfl (lv_at hl 0 rfl) ?_
      refine va_get (D := (dC, dI)) (ci := 0) (v := .int (nI R)) (C := R_H) (T := T_H) (N := 12) hx hb hts (fun w h9 => ct_tl (ki_H w h9)) hown hK hP 0 rfl rfl 8 (by decide) (hts _ (ct_tl kw_122)) (fun _ h9 => h9) rfl d_H_followPlan_128 ?_
      obtain ⟨xa, hxa1, hxa2, hxa3⟩ := hpi (ct_B (ct_jc sz la K R) (2 ^ K - 1)).2 hp0 (by omega) (by
            cases hq : ct_sev (ct_B (ct_jc sz la K R) (2 ^ K - 1)).2 with
            | false => exact Or.inl rfl
            | true => exact Or.inr (hpr1 hq))
      obtain ⟨xb, hxb1, hxb2, hxb3⟩ := hpi ((2 ^ K - 1) ^^^ (ct_B (ct_jc sz la K R) (2 ^ K - 1)).2) hpc.1 (by omega) (by
            cases hq : ct_sev ((2 ^ K - 1) ^^^ (ct_B (ct_jc sz la K R) (2 ^ K - 1)).2) with
            | false => exact Or.inl rfl
            | true => exact Or.inr (hpr2 hq))
      have hMk : (ct_Nk N (fun k => ct_pl sz la K R (TT.getD k 0)) k) = M := by rw [hM, hk2]
      have hPc := hP.sub (ws' := [(h0, .inr (0, [.ref z0, .ref p0, .ref r0, .int tab, .ref k1, .int (nI K), .ref k2, .ref k3, .int (nI R), .ref k4, .int pl, .int sm])), (k4, .inl (cI, 64, .inl gm)), (p0, .inr (2, [.ref z0, .ref p1, .ref p2, .ref p3, .ref p4, .ref p5])), (p2, .inl (cI, 64, .inl fl)), (p4, .inl (cI, 64, .inl fp)), (r0, .inr (3, [.ref z0, .ref q, .ref r2, .ref r3, .ref r4, .ref r5, .ref r6])), (q, .inl (cI, (ct_Nk N (fun k => ct_pl sz la K R (TT.getD k 0)) k), .inl g)), (r2, .inl (cI, 8, .inl ge)), (r3, .inl (cI, 8, .inl gi)), (r4, .inl (cI, 8, .inl ga)), (r5, .inl (cI, 8, .inl gb)), (r6, .inl (cI, 8, .inl gt)), (z0, .inr (1, [.ref z1])), (z1, .inl (cI, 8, .inl (fun j => nI (sz j))))]) [0, 2, 3, 4, 5, 7, 8, 9, 10, 11, 12, 13, 14, 15] rfl
      have hDc := hD.sub (ws' := [(h0, .inr (0, [.ref z0, .ref p0, .ref r0, .int tab, .ref k1, .int (nI K), .ref k2, .ref k3, .int (nI R), .ref k4, .int pl, .int sm])), (k4, .inl (cI, 64, .inl gm)), (p0, .inr (2, [.ref z0, .ref p1, .ref p2, .ref p3, .ref p4, .ref p5])), (p2, .inl (cI, 64, .inl fl)), (p4, .inl (cI, 64, .inl fp)), (r0, .inr (3, [.ref z0, .ref q, .ref r2, .ref r3, .ref r4, .ref r5, .ref r6])), (q, .inl (cI, (ct_Nk N (fun k => ct_pl sz la K R (TT.getD k 0)) k), .inl g)), (r2, .inl (cI, 8, .inl ge)), (r3, .inl (cI, 8, .inl gi)), (r4, .inl (cI, 8, .inl ga)), (r5, .inl (cI, 8, .inl gb)), (r6, .inl (cI, 8, .inl gt)), (z0, .inr (1, [.ref z1])), (z1, .inl (cI, 8, .inl (fun j => nI (sz j))))]) [0, 2, 3, 4, 5, 7, 8, 9, 10, 11, 12, 13, 14, 15] (by decide) rfl
      have hFc := va_free (wc := [(h0, .inr (0, [.ref z0, .ref p0, .ref r0, .int tab, .ref k1, .int (nI K), .ref k2, .ref k3, .int (nI R), .ref k4, .int pl, .int sm])), (k4, .inl (cI, 64, .inl gm)), (p0, .inr (2, [.ref z0, .ref p1, .ref p2, .ref p3, .ref p4, .ref p5])), (p2, .inl (cI, 64, .inl fl)), (p4, .inl (cI, 64, .inl fp)), (r0, .inr (3, [.ref z0, .ref q, .ref r2, .ref r3, .ref r4, .ref r5, .ref r6])), (q, .inl (cI, (ct_Nk N (fun k => ct_pl sz la K R (TT.getD k 0)) k), .inl g)), (r2, .inl (cI, 8, .inl ge)), (r3, .inl (cI, 8, .inl gi)), (r4, .inl (cI, 8, .inl ga)), (r5, .inl (cI, 8, .inl gb)), (r6, .inl (cI, 8, .inl gt)), (z0, .inr (1, [.ref z1])), (z1, .inl (cI, 8, .inl (fun j => nI (sz j))))]) hD hS hA [0, 2, 3, 4, 5, 7, 8, 9, 10, 11, 12, 13, 14, 15] rfl
      refine va_callv (va_runV (As := [.int (nI (2 ^ K - 1)), .int (nI 216), .int (nI R)]) (rest := []) ⟨hx, hb, hml, hown, hts⟩ (c_H_joinParts l dC dI cI z1 sz p1 p2 p3 p4 p5 h0 z0 p0 r0 k1 k2 k3 k4 q r2 r3 r4 r5 r6 tab (nI K) (nI R) pl sm (ct_Nk N (fun k => ct_pl sz la K R (TT.getD k 0)) k) gm fl fp g ge gi ga gb gt (2 ^ K - 1) (ct_B (ct_jc sz la K R) (2 ^ K - 1)).2 216 R (ct_lv la K R (ct_B (ct_jc sz la K R) (2 ^ K - 1)).2) (ct_lv la K R ((2 ^ K - 1) ^^^ (ct_B (ct_jc sz la K R) (2 ^ K - 1)).2)) xa xb hS6 (by omega) (by omega) (hfp _ (by omega) hs) (hfl _ hp0 (by omega)) (hfl _ hpc.1 (by omega)) hxa1 hxb1 (hlv _) (hlv _) hR hsz (by omega) (by have := hpe (ct_B (ct_jc sz la K R) (2 ^ K - 1)).2; omega) (by have := hpe ((2 ^ K - 1) ^^^ (ct_B (ct_jc sz la K R) (2 ^ K - 1)).2); omega) (by omega) (by have := hpe (ct_B (ct_jc sz la K R) (2 ^ K - 1)).2; omega) (by have := hpe ((2 ^ K - 1) ^^^ (ct_B (ct_jc sz la K R) (2 ^ K - 1)).2); omega) H.size) (cwV 3 hts (ct_giV (fun w h9 => ct_tl h9) kw_498 kw_500 kw_14 kw_26 kw_501) rfl rfl rfl (by decide +kernel) ⟨Nat.le_of_ble_eq_true rfl, Nat.le_of_ble_eq_true rfl⟩) ⟨ct_rw_blind, va_recv hK hP (ci := 0) (q0 := 0) rfl rfl, ct_rw_pre hPc hK hDc⟩ rfl rfl hl.1 rfl (lv_room (Nat.le_of_ble_eq_true rfl)) d_H_followPlan_131 ⟨by show (ct_Nk N (fun k => ct_pl sz la K R (TT.getD k 0)) k) - N + 0 ≤ M - N; omega, by show 2 * ((ct_Nk N (fun k => ct_pl sz la K R (TT.getD k 0)) k) - N) + 0 ≤ 2 * (M - N); omega⟩) hS (fun q _ h9 => hFc q h9) hFc (fun ⟨g2, ge2, gi2, ga2, gb2, gt2⟩ tS H1 locs ht hvm hj hB hz1 hk1 hS => ?_)
      obtain ⟨hP1, -, hD1⟩ := hB
      rw [ht] at hP1
      obtain ⟨hP, hD⟩ := va_join (wr := [(k2, .inl (cI, 6, .inl fot)), (p5, .inl (cI, 5, .inl fj))]) (w1 := [(h0, .inr (0, [.ref z0, .ref p0, .ref r0, .int tab, .ref k1, .int (nI K), .ref k2, .ref k3, .int (nI R), .ref k4, .int pl, .int sm])), (k4, .inl (cI, 64, .inl (upd gm (2 ^ K - 1) (nI 216)))), (p0, .inr (2, [.ref z0, .ref p1, .ref p2, .ref p3, .ref p4, .ref p5])), (p2, .inl (cI, 64, .inl fl)), (p4, .inl (cI, 64, .inl fp)), (r0, .inr (3, [.ref z0, .ref q, .ref r2, .ref r3, .ref r4, .ref r5, .ref r6])), (q, .inl (cI, (ct_Nk N (fun k => ct_pl sz la K R (TT.getD k 0)) k), .inl g2)), (r2, .inl (cI, 8, .inl ge2)), (r3, .inl (cI, 8, .inl gi2)), (r4, .inl (cI, 8, .inl ga2)), (r5, .inl (cI, 8, .inl gb2)), (r6, .inl (cI, 8, .inl gt2)), (z0, .inr (1, [.ref z1])), (z1, .inl (cI, 8, .inl (fun j => nI (sz j))))]) hP hD [0, 2, 3, 4, 5, 7, 8, 9, 10, 11, 12, 13, 14, 15] [1, 6] rfl rfl (by decide) (by decide) hk1 hFc hP1 hD1
      generalize H1 = H at hP hS ⊢
      have hP : va_P (dC, dI) ct_cl [(k2, .inl (cI, 6, .inl fot)), (p5, .inl (cI, 5, .inl fj)), (h0, .inr (0, [.ref z0, .ref p0, .ref r0, .int tab, .ref k1, .int (nI K), .ref k2, .ref k3, .int (nI R), .ref k4, .int pl, .int sm])), (k4, .inl (cI, 64, .inl (upd gm (2 ^ K - 1) (nI 216)))), (p0, .inr (2, [.ref z0, .ref p1, .ref p2, .ref p3, .ref p4, .ref p5])), (p2, .inl (cI, 64, .inl fl)), (p4, .inl (cI, 64, .inl fp)), (r0, .inr (3, [.ref z0, .ref q, .ref r2, .ref r3, .ref r4, .ref r5, .ref r6])), (q, .inl (cI, (ct_Nk N (fun k => ct_pl sz la K R (TT.getD k 0)) k), .inl g2)), (r2, .inl (cI, 8, .inl ge2)), (r3, .inl (cI, 8, .inl gi2)), (r4, .inl (cI, 8, .inl ga2)), (r5, .inl (cI, 8, .inl gb2)), (r6, .inl (cI, 8, .inl gt2)), (z0, .inr (1, [.ref z1])), (z1, .inl (cI, 8, .inl (fun j => nI (sz j))))] H := hP
      have hD : va_D A [(k2, .inl (cI, 6, .inl fot)), (p5, .inl (cI, 5, .inl fj)), (h0, .inr (0, [.ref z0, .ref p0, .ref r0, .int tab, .ref k1, .int (nI K), .ref k2, .ref k3, .int (nI R), .ref k4, .int pl, .int sm])), (k4, .inl (cI, 64, .inl (upd gm (2 ^ K - 1) (nI 216)))), (p0, .inr (2, [.ref z0, .ref p1, .ref p2, .ref p3, .ref p4, .ref p5])), (p2, .inl (cI, 64, .inl fl)), (p4, .inl (cI, 64, .inl fp)), (r0, .inr (3, [.ref z0, .ref q, .ref r2, .ref r3, .ref r4, .ref r5, .ref r6])), (q, .inl (cI, (ct_Nk N (fun k => ct_pl sz la K R (TT.getD k 0)) k), .inl g2)), (r2, .inl (cI, 8, .inl ge2)), (r3, .inl (cI, 8, .inl gi2)), (r4, .inl (cI, 8, .inl ga2)), (r5, .inl (cI, 8, .inl gb2)), (r6, .inl (cI, 8, .inl gt2)), (z0, .inr (1, [.ref z1])), (z1, .inl (cI, 8, .inl (fun j => nI (sz j))))] := hD
      rw [hMk] at hP hD ⊢
      have hP9 := hP.sub [2, 0, 3, 4, 5, 6, 1, 7, 8, 9, 10, 11, 12, 13, 14, 15] rfl
      exact W.vret hx hb hr (fun tS ht hW => ⟨⟨(q, upd gm (2 ^ K - 1) (nI 216), g2, ge2, gi2, ga2, gb2, gt2), rfl, ⟨fun i h9 => by rw [← hg1 i h9]; exact hj.1 i (by omega), by rw [← hg3]; exact hj.1 243 (by omega), fun r hr => by rw [ct_join_vs hj hxa3 hxb3 r hr]; exact ct_vs_last hK6 hvd hpa r⟩, by rw [ht]; exact hP9, va_K.moved hW.alike hK, hD.sub [2, 0, 3, 4, 5, 6, 1, 7, 8, 9, 10, 11, 12, 13, 14, 15] (by decide) rfl⟩, hS.F ht⟩) hS.2.2 d_H_followPlan_134
    | succ n ih =>
      intro k hk q gm g ge gi ga gb gt hg1 hg3 hpi hfN H locs hP hD hS ls hl
      refine lv_iload_n hx hb d_H_followPlan_46 rfl (lv_at hl 3 rfl) ?_
      refine lv_iload_n hx hb d_H_followPlan_47 rfl (lv_at hl 1 rfl) ?_
      have hNkM : (ct_Nk N (fun k => ct_pl sz la K R (TT.getD k 0)) k) ≤ M := by rw [hM]; exact ct_Nk_mono (K - 2) (by omega)
      have hNk := ct_Nk_max (N := N) (pl := (fun k => ct_pl sz la K R (TT.getD k 0))) hN6 k (fun j _ => hpl _) (by omega)
      have hfr := ct_fr_ge (pl := (fun k => ct_pl sz la K R (TT.getD k 0))) k
      have hNm := ct_Nk_mono (N := N) (pl := (fun k => ct_pl sz la K R (TT.getD k 0))) (k := 0) k (Nat.zero_le k)
      have hN00 : ct_Nk N (fun k => ct_pl sz la K R (TT.getD k 0)) 0 = N := rfl
      have hfj9 := hfj k (by omega)
      have hpv := hprev k (by omega)
      have hmm := hmem k (by omega)
      have hkl : ∃ S, TT.getD k 0 = S := ⟨_, rfl⟩
      obtain ⟨S, hkl⟩ := hkl
      obtain ⟨hs, hS6, hpr1, hpr2⟩ := hpv
      rw [hkl] at hs hS6 hpr1 hpr2 hfj9 hmm
      have hp := hokB S hS6 hs
      have hpc := ct_pt_co S hS6 _ hp.1 hp.2
      have hp0 := ct_pt_pos hp.2
      have hpa := (ct_pt_1 hp.2).1
      have hfs : (ct_fr (fun k => ct_pl sz la K R (TT.getD k 0)) (k + 1)) = (ct_fr (fun k => ct_pl sz la K R (TT.getD k 0)) k) + ct_pl sz la K R S := by show (ct_fr (fun k => ct_pl sz la K R (TT.getD k 0)) k) + ct_pl sz la K R (TT.getD k 0) = _; rw [hkl]
      have hNk1 := ct_Nk_max (N := N) (pl := (fun k => ct_pl sz la K R (TT.getD k 0))) hN6 (k + 1) (fun j _ => hpl _) (by omega)
      have hNl := ct_Nk_le (N := N) (pl := (fun k => ct_pl sz la K R (TT.getD k 0))) k
      have hNM := ct_Nk_mono (N := N) (pl := (fun k => ct_pl sz la K R (TT.getD k 0))) (k := k + 1) (K - 2) (by omega)
      rw [← hM] at hNM
      have hfl4 := ct_fr_le (pl := (fun k => ct_pl sz la K R (TT.getD k 0))) (k + 1) (fun j _ => hpl _)
      refine lv_icmp_ge (tgt := 115) hx hb d_H_followPlan_48 (by decide) (fun hc9 => absurd hc9 (nI_ge (by omega) (by omega))) (fun _ => ?_)
      refine lv_aload_n hx hb d_H_followPlan_51 rfl (lv_at hl 0 rfl) ?_
      refine va_get (D := (dC, dI)) (ci := 0) (v := .ref p0) (C := R_H) (T := T_H) (N := 12) hx hb hts (fun w h9 => ct_tl (ki_H w h9)) hown hK hP 0 rfl rfl 1 (by decide) (hts _ (ct_tl kw_115)) (fun _ h9 => h9) rfl d_H_followPlan_52 ?_
      refine lv_iload_n hx hb d_H_followPlan_55 rfl (lv_at hl 3 rfl) ?_
      refine va_calli (va_runV (As := [.int (nI k)]) (rest := []) ⟨hx, hb, hml, hown, hts⟩ (c_P_joinedBy l dC dI cI z0 p0 p1 p2 p3 p4 p5 fj k (by omega)) (cwV 1 hts (ct_giV (fun w h9 => ct_tl h9) kw_428 kw_429 kw_430 kw_28 kw_431) rfl rfl rfl (by decide +kernel) ⟨Nat.le_of_ble_eq_true rfl, Nat.le_of_ble_eq_true rfl⟩) ⟨ct_ro_blind, va_recv hK hP (ci := 2) (q0 := 3) rfl rfl, ct_ro_pre (hP.sub [3, 6] rfl) hK⟩ rfl rfl hl.1 rfl (lv_room (Nat.le_of_ble_eq_true rfl)) d_H_followPlan_56 ⟨by show (ct_Nk N (fun k => ct_pl sz la K R (TT.getD k 0)) k) - N + 0 ≤ M - N; omega, by show 2 * ((ct_Nk N (fun k => ct_pl sz la K R (TT.getD k 0)) k) - N) + 0 ≤ 2 * (M - N); omega⟩) hS (fun q _ h9 => h9.elim) (fun q h9 => h9.elim) (fun ans1 uS tS H locs ht hvm hwans1 hB hz1 hk1 hS => ?_)
      have hP := ct_keep hP hk1
      refine ct_val (y := fj k) (hwans1) ?_
      refine ct_val (y := nI S) hfj9 ?_
      refine lv_istore (lv' := [(4, .int (nI S)), (0, .ref h0), (1, .int (nI (K - 2))), (2, .int (nI (ct_fr (fun k => ct_pl sz la K R (TT.getD k 0)) k))), (3, .int (nI k))]) hx hb d_H_followPlan_59 hl (by decide) rfl (fun ls hl => ?_)
      refine lv_iload_n hx hb d_H_followPlan_61 rfl (lv_at hl 3 rfl) ?_
      refine lv_aload_n hx hb d_H_followPlan_62 rfl (lv_at hl 1 rfl) ?_
      refine va_get (D := (dC, dI)) (ci := 0) (v := .ref z0) (C := R_H) (T := T_H) (N := 12) hx hb hts (fun w h9 => ct_tl (ki_H w h9)) hown hK hP 0 rfl rfl 0 (by decide) (hts _ (ct_tl kw_114)) (fun _ h9 => h9) rfl d_H_followPlan_63 ?_
      refine lv_aload_n hx hb d_H_followPlan_66 rfl (lv_at hl 1 rfl) ?_
      refine va_get (D := (dC, dI)) (ci := 0) (v := .ref p0) (C := R_H) (T := T_H) (N := 12) hx hb hts (fun w h9 => ct_tl (ki_H w h9)) hown hK hP 0 rfl rfl 1 (by decide) (hts _ (ct_tl kw_115)) (fun _ h9 => h9) rfl d_H_followPlan_67 ?_
      refine lv_iload hx hb d_H_followPlan_70 (lv_at hl 0 rfl) ?_
      refine va_calli (va_runV (As := [.int (nI S)]) (rest := [.ref z0, .int (nI (ct_fr (fun k => ct_pl sz la K R (TT.getD k 0)) k))]) ⟨hx, hb, hml, hown, hts⟩ (c_P_leavesOf l dC dI cI z0 p0 p1 p2 p3 p4 p5 fl S hS6) (cwV 1 hts (ct_giV (fun w h9 => ct_tl h9) kw_471 kw_472 kw_473 kw_28 kw_474) rfl rfl rfl (by decide +kernel) ⟨Nat.le_of_ble_eq_true rfl, Nat.le_of_ble_eq_true rfl⟩) ⟨ct_ro_blind, va_recv hK hP (ci := 2) (q0 := 3) rfl rfl, ct_ro_pre (hP.sub [3, 4] rfl) hK⟩ rfl rfl hl.1 rfl (lv_room (Nat.le_of_ble_eq_true rfl)) d_H_followPlan_72 ⟨by show (ct_Nk N (fun k => ct_pl sz la K R (TT.getD k 0)) k) - N + 0 ≤ M - N; omega, by show 2 * ((ct_Nk N (fun k => ct_pl sz la K R (TT.getD k 0)) k) - N) + 0 ≤ 2 * (M - N); omega⟩) hS (fun q _ h9 => h9.elim) (fun q h9 => h9.elim) (fun ans2 uS tS H locs ht hvm hwans2 hB hz1 hk1 hS => ?_)
      have hP := ct_keep hP hk1
      refine ct_val (y := fl S) (hwans2) ?_
      refine ct_val (y := nI (ct_lv la K R S)) (hfl S (by omega) hmm) ?_
      refine va_calli (va_runV (As := [.int (nI (ct_lv la K R S))]) (rest := [.int (nI (ct_fr (fun k => ct_pl sz la K R (TT.getD k 0)) k))]) ⟨hx, hb, hml, hown, hts⟩ (c_S_choices l dC dI cI z0 z1 sz (ct_lv la K R S) (Nat.lt_trans (hlv S) (by omega))) (cwV 1 hts (ct_giV (fun w h9 => ct_tl h9) kw_384 kw_195 kw_196 kw_27 kw_197) rfl rfl rfl (by decide +kernel) ⟨Nat.le_of_ble_eq_true rfl, Nat.le_of_ble_eq_true rfl⟩) ⟨ct_ro_blind, va_recv hK hP (ci := 1) (q0 := 14) rfl rfl, ct_ro_pre (hP.sub [14, 15] rfl) hK⟩ rfl rfl hl.1 rfl (lv_room (Nat.le_of_ble_eq_true rfl)) d_H_followPlan_75 ⟨by show (ct_Nk N (fun k => ct_pl sz la K R (TT.getD k 0)) k) - N + 0 ≤ M - N; omega, by show 2 * ((ct_Nk N (fun k => ct_pl sz la K R (TT.getD k 0)) k) - N) + 0 ≤ 2 * (M - N); omega⟩) hS (fun q _ h9 => h9.elim) (fun q h9 => h9.elim) (fun ans3 uS tS H locs ht hvm hwans3 hB hz1 hk1 hS => ?_)
      have hP := ct_keep hP hk1
      refine ct_val (y := nI (ct_pr sz ((ct_lv la K R S)).testBit 8)) (hwans3) ?_
      refine lv_iadd hx hb d_H_followPlan_78 ?_
      refine ct_val (y := nI (ct_fr (fun k => ct_pl sz la K R (TT.getD k 0)) (k + 1))) (by rw [hfs]; exact nI_add _ _) ?_
      refine lv_istore (lv' := [(5, .int (nI (ct_fr (fun k => ct_pl sz la K R (TT.getD k 0)) (k + 1)))), (4, .int (nI S)), (0, .ref h0), (1, .int (nI (K - 2))), (2, .int (nI (ct_fr (fun k => ct_pl sz la K R (TT.getD k 0)) k))), (3, .int (nI k))]) hx hb d_H_followPlan_79 hl (by decide) rfl (fun ls hl => ?_)
      refine lv_aload_n hx hb d_H_followPlan_81 rfl (lv_at hl 2 rfl) ?_
      refine va_get (D := (dC, dI)) (ci := 0) (v := .ref r0) (C := R_H) (T := T_H) (N := 12) hx hb hts (fun w h9 => ct_tl (ki_H w h9)) hown hK hP 0 rfl rfl 2 (by decide) (hts _ (ct_tl kw_116)) (fun _ h9 => h9) rfl d_H_followPlan_82 ?_
      refine lv_iload hx hb d_H_followPlan_85 (lv_at hl 0 rfl) ?_
      by_cases hst9 : (ct_fr (fun k => ct_pl sz la K R (TT.getD k 0)) (k + 1)) ≤ (ct_Nk N (fun k => ct_pl sz la K R (TT.getD k 0)) k)
      · have hPc := hP.sub (ws' := [(r0, .inr (3, [.ref z0, .ref q, .ref r2, .ref r3, .ref r4, .ref r5, .ref r6])), (q, .inl (cI, (ct_Nk N (fun k => ct_pl sz la K R (TT.getD k 0)) k), .inl g))]) [7, 8] rfl
        have hDc := hD.sub (ws' := [(r0, .inr (3, [.ref z0, .ref q, .ref r2, .ref r3, .ref r4, .ref r5, .ref r6])), (q, .inl (cI, (ct_Nk N (fun k => ct_pl sz la K R (TT.getD k 0)) k), .inl g))]) [7, 8] (by decide) rfl
        have hFc := va_free (wc := [(r0, .inr (3, [.ref z0, .ref q, .ref r2, .ref r3, .ref r4, .ref r5, .ref r6])), (q, .inl (cI, (ct_Nk N (fun k => ct_pl sz la K R (TT.getD k 0)) k), .inl g))]) hD hS hA [7, 8] rfl
        refine va_callv (va_runV (As := [.int (nI (ct_fr (fun k => ct_pl sz la K R (TT.getD k 0)) (k + 1)))]) (rest := []) ⟨hx, hb, hml, hown, hts⟩ (c_R_reserve_no l dC dI cI z0 r0 q r2 r3 r4 r5 r6 (ct_Nk N (fun k => ct_pl sz la K R (TT.getD k 0)) k) g (ct_fr (fun k => ct_pl sz la K R (TT.getD k 0)) (k + 1)) (by omega) hst9 H.size) (cwV 1 hts (ct_giV (fun w h9 => ct_tl h9) kw_475 kw_476 kw_477 kw_29 kw_478) rfl rfl rfl (by decide +kernel) ⟨Nat.le_of_ble_eq_true rfl, Nat.le_of_ble_eq_true rfl⟩) ⟨ct_rw_blind, va_recv hK hP (ci := 3) (q0 := 7) rfl rfl, ct_rw_pre hPc hK hDc⟩ rfl rfl hl.1 rfl (lv_room (Nat.le_of_ble_eq_true rfl)) d_H_followPlan_87 ⟨by show (ct_Nk N (fun k => ct_pl sz la K R (TT.getD k 0)) k) - N + 0 ≤ M - N; omega, by show 2 * ((ct_Nk N (fun k => ct_pl sz la K R (TT.getD k 0)) k) - N) + 0 ≤ 2 * (M - N); omega⟩) hS (fun q _ h9 => hFc q h9) hFc (fun u tS H1 locs ht hvm hw104 hB hz1 hk1 hS => ?_)
        obtain ⟨hP1, -, hD1⟩ := hB
        rw [ht] at hP1
        obtain ⟨hP, hD⟩ := va_join (wr := [(h0, .inr (0, [.ref z0, .ref p0, .ref r0, .int tab, .ref k1, .int (nI K), .ref k2, .ref k3, .int (nI R), .ref k4, .int pl, .int sm])), (k2, .inl (cI, 6, .inl fot)), (k4, .inl (cI, 64, .inl gm)), (p0, .inr (2, [.ref z0, .ref p1, .ref p2, .ref p3, .ref p4, .ref p5])), (p2, .inl (cI, 64, .inl fl)), (p4, .inl (cI, 64, .inl fp)), (p5, .inl (cI, 5, .inl fj)), (r2, .inl (cI, 8, .inl ge)), (r3, .inl (cI, 8, .inl gi)), (r4, .inl (cI, 8, .inl ga)), (r5, .inl (cI, 8, .inl gb)), (r6, .inl (cI, 8, .inl gt)), (z0, .inr (1, [.ref z1])), (z1, .inl (cI, 8, .inl (fun j => nI (sz j))))]) (w1 := [(r0, .inr (3, [.ref z0, .ref q, .ref r2, .ref r3, .ref r4, .ref r5, .ref r6])), (q, .inl (cI, (ct_Nk N (fun k => ct_pl sz la K R (TT.getD k 0)) k), .inl g))]) hP hD [7, 8] [0, 1, 2, 3, 4, 5, 6, 9, 10, 11, 12, 13, 14, 15] rfl rfl (by decide) (by decide) hk1 hFc hP1 hD1
        generalize H1 = H at hP hS ⊢
        have hP : va_P (dC, dI) ct_cl [(h0, .inr (0, [.ref z0, .ref p0, .ref r0, .int tab, .ref k1, .int (nI K), .ref k2, .ref k3, .int (nI R), .ref k4, .int pl, .int sm])), (k2, .inl (cI, 6, .inl fot)), (k4, .inl (cI, 64, .inl gm)), (p0, .inr (2, [.ref z0, .ref p1, .ref p2, .ref p3, .ref p4, .ref p5])), (p2, .inl (cI, 64, .inl fl)), (p4, .inl (cI, 64, .inl fp)), (p5, .inl (cI, 5, .inl fj)), (r2, .inl (cI, 8, .inl ge)), (r3, .inl (cI, 8, .inl gi)), (r4, .inl (cI, 8, .inl ga)), (r5, .inl (cI, 8, .inl gb)), (r6, .inl (cI, 8, .inl gt)), (z0, .inr (1, [.ref z1])), (z1, .inl (cI, 8, .inl (fun j => nI (sz j)))), (r0, .inr (3, [.ref z0, .ref q, .ref r2, .ref r3, .ref r4, .ref r5, .ref r6])), (q, .inl (cI, (ct_Nk N (fun k => ct_pl sz la K R (TT.getD k 0)) k), .inl g))] H := hP
        have hD : va_D A [(h0, .inr (0, [.ref z0, .ref p0, .ref r0, .int tab, .ref k1, .int (nI K), .ref k2, .ref k3, .int (nI R), .ref k4, .int pl, .int sm])), (k2, .inl (cI, 6, .inl fot)), (k4, .inl (cI, 64, .inl gm)), (p0, .inr (2, [.ref z0, .ref p1, .ref p2, .ref p3, .ref p4, .ref p5])), (p2, .inl (cI, 64, .inl fl)), (p4, .inl (cI, 64, .inl fp)), (p5, .inl (cI, 5, .inl fj)), (r2, .inl (cI, 8, .inl ge)), (r3, .inl (cI, 8, .inl gi)), (r4, .inl (cI, 8, .inl ga)), (r5, .inl (cI, 8, .inl gb)), (r6, .inl (cI, 8, .inl gt)), (z0, .inr (1, [.ref z1])), (z1, .inl (cI, 8, .inl (fun j => nI (sz j)))), (r0, .inr (3, [.ref z0, .ref q, .ref r2, .ref r3, .ref r4, .ref r5, .ref r6])), (q, .inl (cI, (ct_Nk N (fun k => ct_pl sz la K R (TT.getD k 0)) k), .inl g))] := hD
        have hNe : (ct_Nk N (fun k => ct_pl sz la K R (TT.getD k 0)) (k + 1)) = (ct_Nk N (fun k => ct_pl sz la K R (TT.getD k 0)) k) := if_pos hst9
        have hg9 : ∀ i, (i < 216 ∨ (244 ≤ i ∧ i < (ct_fr (fun k => ct_pl sz la K R (TT.getD k 0)) k))) → g i = g i := fun _ _ => rfl
        have hgg1 := hg1
        have hgg3 := hg3
        rw [← hNe] at hP hD ⊢
        have hpi2 : ct_pi sz la K R v gm g (ct_fr (fun k => ct_pl sz la K R (TT.getD k 0)) k) TT k := ct_pi_cells hpi hg9
        clear hpi
        have hpi := hpi2
        refine lv_aload_n hx hb d_H_followPlan_90 rfl (lv_at hl 2 rfl) ?_
        refine lv_iload hx hb d_H_followPlan_91 (lv_at hl 1 rfl) ?_
        refine lv_iload_n hx hb d_H_followPlan_93 rfl (lv_at hl 4 rfl) ?_
        refine lv_aload_n hx hb d_H_followPlan_94 rfl (lv_at hl 2 rfl) ?_
        refine va_get (D := (dC, dI)) (ci := 0) (v := .ref p0) (C := R_H) (T := T_H) (N := 12) hx hb hts (fun w h9 => ct_tl (ki_H w h9)) hown hK hP 0 rfl rfl 1 (by decide) (hts _ (ct_tl kw_115)) (fun _ h9 => h9) rfl d_H_followPlan_95 ?_
        refine lv_iload hx hb d_H_followPlan_98 (lv_at hl 1 rfl) ?_
        refine va_calli (va_runV (As := [.int (nI S)]) (rest := [.int (nI (ct_fr (fun k => ct_pl sz la K R (TT.getD k 0)) k)), .int (nI S), .ref h0]) ⟨hx, hb, hml, hown, hts⟩ (c_P_leavesOf l dC dI cI z0 p0 p1 p2 p3 p4 p5 fl S hS6) (cwV 1 hts (ct_giV (fun w h9 => ct_tl h9) kw_471 kw_472 kw_473 kw_28 kw_474) rfl rfl rfl (by decide +kernel) ⟨Nat.le_of_ble_eq_true rfl, Nat.le_of_ble_eq_true rfl⟩) ⟨ct_ro_blind, va_recv hK hP (ci := 2) (q0 := 3) rfl rfl, ct_ro_pre (hP.sub [3, 4] rfl) hK⟩ rfl rfl hl.1 rfl (lv_room (Nat.le_of_ble_eq_true rfl)) d_H_followPlan_100 ⟨by show (ct_Nk N (fun k => ct_pl sz la K R (TT.getD k 0)) (k + 1)) - N + 0 ≤ M - N; omega, by show 2 * ((ct_Nk N (fun k => ct_pl sz la K R (TT.getD k 0)) (k + 1)) - N) + 0 ≤ 2 * (M - N); omega⟩) hS (fun q _ h9 => h9.elim) (fun q h9 => h9.elim) (fun ans105 uS tS H locs ht hvm hwans105 hB hz1 hk1 hS => ?_)
        have hP := ct_keep hP hk1
        refine ct_val (y := fl S) (hwans105) ?_
        refine ct_val (y := nI (ct_lv la K R S)) (hfl S (by omega) hmm) ?_
        obtain ⟨xa, hxa1, hxa2, hxa3⟩ := hpi (ct_B (ct_jc sz la K R) S).2 hp0 (by omega) (by
              cases hq : ct_sev (ct_B (ct_jc sz la K R) S).2 with
              | false => exact Or.inl rfl
              | true => exact Or.inr (hpr1 hq))
        obtain ⟨xb, hxb1, hxb2, hxb3⟩ := hpi (S ^^^ (ct_B (ct_jc sz la K R) S).2) hpc.1 (by omega) (by
              cases hq : ct_sev (S ^^^ (ct_B (ct_jc sz la K R) S).2) with
              | false => exact Or.inl rfl
              | true => exact Or.inr (hpr2 hq))
        have hpS := hpe S
        have hPc := hP.sub (ws' := [(h0, .inr (0, [.ref z0, .ref p0, .ref r0, .int tab, .ref k1, .int (nI K), .ref k2, .ref k3, .int (nI R), .ref k4, .int pl, .int sm])), (k4, .inl (cI, 64, .inl gm)), (p0, .inr (2, [.ref z0, .ref p1, .ref p2, .ref p3, .ref p4, .ref p5])), (p2, .inl (cI, 64, .inl fl)), (p4, .inl (cI, 64, .inl fp)), (r0, .inr (3, [.ref z0, .ref q, .ref r2, .ref r3, .ref r4, .ref r5, .ref r6])), (q, .inl (cI, (ct_Nk N (fun k => ct_pl sz la K R (TT.getD k 0)) (k + 1)), .inl g)), (r2, .inl (cI, 8, .inl ge)), (r3, .inl (cI, 8, .inl gi)), (r4, .inl (cI, 8, .inl ga)), (r5, .inl (cI, 8, .inl gb)), (r6, .inl (cI, 8, .inl gt)), (z0, .inr (1, [.ref z1])), (z1, .inl (cI, 8, .inl (fun j => nI (sz j))))]) [0, 2, 3, 4, 5, 14, 15, 7, 8, 9, 10, 11, 12, 13] rfl
        have hDc := hD.sub (ws' := [(h0, .inr (0, [.ref z0, .ref p0, .ref r0, .int tab, .ref k1, .int (nI K), .ref k2, .ref k3, .int (nI R), .ref k4, .int pl, .int sm])), (k4, .inl (cI, 64, .inl gm)), (p0, .inr (2, [.ref z0, .ref p1, .ref p2, .ref p3, .ref p4, .ref p5])), (p2, .inl (cI, 64, .inl fl)), (p4, .inl (cI, 64, .inl fp)), (r0, .inr (3, [.ref z0, .ref q, .ref r2, .ref r3, .ref r4, .ref r5, .ref r6])), (q, .inl (cI, (ct_Nk N (fun k => ct_pl sz la K R (TT.getD k 0)) (k + 1)), .inl g)), (r2, .inl (cI, 8, .inl ge)), (r3, .inl (cI, 8, .inl gi)), (r4, .inl (cI, 8, .inl ga)), (r5, .inl (cI, 8, .inl gb)), (r6, .inl (cI, 8, .inl gt)), (z0, .inr (1, [.ref z1])), (z1, .inl (cI, 8, .inl (fun j => nI (sz j))))]) [0, 2, 3, 4, 5, 14, 15, 7, 8, 9, 10, 11, 12, 13] (by decide) rfl
        have hFc := va_free (wc := [(h0, .inr (0, [.ref z0, .ref p0, .ref r0, .int tab, .ref k1, .int (nI K), .ref k2, .ref k3, .int (nI R), .ref k4, .int pl, .int sm])), (k4, .inl (cI, 64, .inl gm)), (p0, .inr (2, [.ref z0, .ref p1, .ref p2, .ref p3, .ref p4, .ref p5])), (p2, .inl (cI, 64, .inl fl)), (p4, .inl (cI, 64, .inl fp)), (r0, .inr (3, [.ref z0, .ref q, .ref r2, .ref r3, .ref r4, .ref r5, .ref r6])), (q, .inl (cI, (ct_Nk N (fun k => ct_pl sz la K R (TT.getD k 0)) (k + 1)), .inl g)), (r2, .inl (cI, 8, .inl ge)), (r3, .inl (cI, 8, .inl gi)), (r4, .inl (cI, 8, .inl ga)), (r5, .inl (cI, 8, .inl gb)), (r6, .inl (cI, 8, .inl gt)), (z0, .inr (1, [.ref z1])), (z1, .inl (cI, 8, .inl (fun j => nI (sz j))))]) hD hS hA [0, 2, 3, 4, 5, 14, 15, 7, 8, 9, 10, 11, 12, 13] rfl
        refine va_callv (va_runV (As := [.int (nI S), .int (nI (ct_fr (fun k => ct_pl sz la K R (TT.getD k 0)) k)), .int (nI (ct_lv la K R S))]) (rest := []) ⟨hx, hb, hml, hown, hts⟩ (c_H_joinParts l dC dI cI z1 sz p1 p2 p3 p4 p5 h0 z0 p0 r0 k1 k2 k3 k4 q r2 r3 r4 r5 r6 tab (nI K) (nI R) pl sm (ct_Nk N (fun k => ct_pl sz la K R (TT.getD k 0)) (k + 1)) gm fl fp g ge gi ga gb gt S (ct_B (ct_jc sz la K R) S).2 (ct_fr (fun k => ct_pl sz la K R (TT.getD k 0)) k) (ct_lv la K R S) (ct_lv la K R (ct_B (ct_jc sz la K R) S).2) (ct_lv la K R (S ^^^ (ct_B (ct_jc sz la K R) S).2)) xa xb hS6 (by omega) (by omega) (hfp _ (by omega) hs) (hfl _ hp0 (by omega)) (hfl _ hpc.1 (by omega)) hxa1 hxb1 (hlv _) (hlv _) (hlv S) hsz (by omega) (by have := hpe (ct_B (ct_jc sz la K R) S).2; omega) (by have := hpe (S ^^^ (ct_B (ct_jc sz la K R) S).2); omega) (by omega) (by have := hpe (ct_B (ct_jc sz la K R) S).2; omega) (by have := hpe (S ^^^ (ct_B (ct_jc sz la K R) S).2); omega) H.size) (cwV 3 hts (ct_giV (fun w h9 => ct_tl h9) kw_498 kw_500 kw_14 kw_26 kw_501) rfl rfl rfl (by decide +kernel) ⟨Nat.le_of_ble_eq_true rfl, Nat.le_of_ble_eq_true rfl⟩) ⟨ct_rw_blind, va_recv hK hP (ci := 0) (q0 := 0) rfl rfl, ct_rw_pre hPc hK hDc⟩ rfl rfl hl.1 rfl (lv_room (Nat.le_of_ble_eq_true rfl)) d_H_followPlan_103 ⟨by show (ct_Nk N (fun k => ct_pl sz la K R (TT.getD k 0)) (k + 1)) - N + 0 ≤ M - N; omega, by show 2 * ((ct_Nk N (fun k => ct_pl sz la K R (TT.getD k 0)) (k + 1)) - N) + 0 ≤ 2 * (M - N); omega⟩) hS (fun q _ h9 => hFc q h9) hFc (fun ⟨g3, ge2, gi2, ga2, gb2, gt2⟩ tS H1 locs ht hvm hj hB hz1 hk1 hS => ?_)
        obtain ⟨hP1, -, hD1⟩ := hB
        rw [ht] at hP1
        obtain ⟨hP, hD⟩ := va_join (wr := [(k2, .inl (cI, 6, .inl fot)), (p5, .inl (cI, 5, .inl fj))]) (w1 := [(h0, .inr (0, [.ref z0, .ref p0, .ref r0, .int tab, .ref k1, .int (nI K), .ref k2, .ref k3, .int (nI R), .ref k4, .int pl, .int sm])), (k4, .inl (cI, 64, .inl (upd gm S (nI (ct_fr (fun k => ct_pl sz la K R (TT.getD k 0)) k))))), (p0, .inr (2, [.ref z0, .ref p1, .ref p2, .ref p3, .ref p4, .ref p5])), (p2, .inl (cI, 64, .inl fl)), (p4, .inl (cI, 64, .inl fp)), (r0, .inr (3, [.ref z0, .ref q, .ref r2, .ref r3, .ref r4, .ref r5, .ref r6])), (q, .inl (cI, (ct_Nk N (fun k => ct_pl sz la K R (TT.getD k 0)) (k + 1)), .inl g3)), (r2, .inl (cI, 8, .inl ge2)), (r3, .inl (cI, 8, .inl gi2)), (r4, .inl (cI, 8, .inl ga2)), (r5, .inl (cI, 8, .inl gb2)), (r6, .inl (cI, 8, .inl gt2)), (z0, .inr (1, [.ref z1])), (z1, .inl (cI, 8, .inl (fun j => nI (sz j))))]) hP hD [0, 2, 3, 4, 5, 14, 15, 7, 8, 9, 10, 11, 12, 13] [1, 6] rfl rfl (by decide) (by decide) hk1 hFc hP1 hD1
        generalize H1 = H at hP hS ⊢
        have hP : va_P (dC, dI) ct_cl [(k2, .inl (cI, 6, .inl fot)), (p5, .inl (cI, 5, .inl fj)), (h0, .inr (0, [.ref z0, .ref p0, .ref r0, .int tab, .ref k1, .int (nI K), .ref k2, .ref k3, .int (nI R), .ref k4, .int pl, .int sm])), (k4, .inl (cI, 64, .inl (upd gm S (nI (ct_fr (fun k => ct_pl sz la K R (TT.getD k 0)) k))))), (p0, .inr (2, [.ref z0, .ref p1, .ref p2, .ref p3, .ref p4, .ref p5])), (p2, .inl (cI, 64, .inl fl)), (p4, .inl (cI, 64, .inl fp)), (r0, .inr (3, [.ref z0, .ref q, .ref r2, .ref r3, .ref r4, .ref r5, .ref r6])), (q, .inl (cI, (ct_Nk N (fun k => ct_pl sz la K R (TT.getD k 0)) (k + 1)), .inl g3)), (r2, .inl (cI, 8, .inl ge2)), (r3, .inl (cI, 8, .inl gi2)), (r4, .inl (cI, 8, .inl ga2)), (r5, .inl (cI, 8, .inl gb2)), (r6, .inl (cI, 8, .inl gt2)), (z0, .inr (1, [.ref z1])), (z1, .inl (cI, 8, .inl (fun j => nI (sz j))))] H := hP
        have hD : va_D A [(k2, .inl (cI, 6, .inl fot)), (p5, .inl (cI, 5, .inl fj)), (h0, .inr (0, [.ref z0, .ref p0, .ref r0, .int tab, .ref k1, .int (nI K), .ref k2, .ref k3, .int (nI R), .ref k4, .int pl, .int sm])), (k4, .inl (cI, 64, .inl (upd gm S (nI (ct_fr (fun k => ct_pl sz la K R (TT.getD k 0)) k))))), (p0, .inr (2, [.ref z0, .ref p1, .ref p2, .ref p3, .ref p4, .ref p5])), (p2, .inl (cI, 64, .inl fl)), (p4, .inl (cI, 64, .inl fp)), (r0, .inr (3, [.ref z0, .ref q, .ref r2, .ref r3, .ref r4, .ref r5, .ref r6])), (q, .inl (cI, (ct_Nk N (fun k => ct_pl sz la K R (TT.getD k 0)) (k + 1)), .inl g3)), (r2, .inl (cI, 8, .inl ge2)), (r3, .inl (cI, 8, .inl gi2)), (r4, .inl (cI, 8, .inl ga2)), (r5, .inl (cI, 8, .inl gb2)), (r6, .inl (cI, 8, .inl gt2)), (z0, .inr (1, [.ref z1])), (z1, .inl (cI, 8, .inl (fun j => nI (sz j))))] := hD
        refine lv_iload hx hb d_H_followPlan_106 (lv_at hl 0 rfl) ?_
        refine lv_istore_n (lv' := [(2, .int (nI (ct_fr (fun k => ct_pl sz la K R (TT.getD k 0)) (k + 1)))), (5, .int (nI (ct_fr (fun k => ct_pl sz la K R (TT.getD k 0)) (k + 1)))), (4, .int (nI S)), (0, .ref h0), (1, .int (nI (K - 2))), (3, .int (nI k))]) hx hb d_H_followPlan_108 rfl hl (by decide) rfl (fun ls hl => ?_)
        refine lv_iinc (v := (nI (k + 1))) (lv' := [(3, .int (nI (k + 1))), (2, .int (nI (ct_fr (fun k => ct_pl sz la K R (TT.getD k 0)) (k + 1)))), (5, .int (nI (ct_fr (fun k => ct_pl sz la K R (TT.getD k 0)) (k + 1)))), (4, .int (nI S)), (0, .ref h0), (1, .int (nI (K - 2)))]) hx hb d_H_followPlan_109 hl (k := 5) rfl (nI_1 _) (by decide) rfl (fun ls hl => ?_)
        refine lv_goto (tgt := 46) hx hb d_H_followPlan_112 (by decide) ?_
        have hst := ct_pi_step hK6 hvd hpi hfr hkl hs hpa hj hxa3 hxb3
        exact ih (k + 1) (by omega) q _ g3 ge2 gi2 ga2 gb2 gt2 (fun i h9 => by rw [← hgg1 i h9]; exact hj.1 i (by omega)) (by rw [← hgg3]; exact hj.1 243 (by omega)) (by rw [hfs]; exact hst) (by omega) H locs (hP.sub [2, 0, 3, 4, 5, 6, 1, 7, 8, 9, 10, 11, 12, 13, 14, 15] rfl) (hD.sub [2, 0, 3, 4, 5, 6, 1, 7, 8, 9, 10, 11, 12, 13, 14, 15] (by decide) rfl) hS ls (lv_sub hl [4, 5, 1, 0] rfl)
      · have hNe : (ct_Nk N (fun k => ct_pl sz la K R (TT.getD k 0)) (k + 1)) = (if (ct_fr (fun k => ct_pl sz la K R (TT.getD k 0)) (k + 1)) < 2 * (ct_Nk N (fun k => ct_pl sz la K R (TT.getD k 0)) k) then 2 * (ct_Nk N (fun k => ct_pl sz la K R (TT.getD k 0)) k) else (ct_fr (fun k => ct_pl sz la K R (TT.getD k 0)) (k + 1))) := if_neg hst9
        have hup : (ct_Nk N (fun k => ct_pl sz la K R (TT.getD k 0)) k) + 1 ≤ (ct_Nk N (fun k => ct_pl sz la K R (TT.getD k 0)) (k + 1)) ∧ 2 * (ct_Nk N (fun k => ct_pl sz la K R (TT.getD k 0)) k) ≤ (ct_Nk N (fun k => ct_pl sz la K R (TT.getD k 0)) (k + 1)) := by
            rw [hNe]
            by_cases h9 : (ct_fr (fun k => ct_pl sz la K R (TT.getD k 0)) (k + 1)) < 2 * (ct_Nk N (fun k => ct_pl sz la K R (TT.getD k 0)) k)
            · rw [if_pos h9]; omega
            · rw [if_neg h9]; omega
        have hPc := hP.sub (ws' := [(r0, .inr (3, [.ref z0, .ref q, .ref r2, .ref r3, .ref r4, .ref r5, .ref r6])), (q, .inl (cI, (ct_Nk N (fun k => ct_pl sz la K R (TT.getD k 0)) k), .inl g))]) [7, 8] rfl
        have hDc := hD.sub (ws' := [(r0, .inr (3, [.ref z0, .ref q, .ref r2, .ref r3, .ref r4, .ref r5, .ref r6])), (q, .inl (cI, (ct_Nk N (fun k => ct_pl sz la K R (TT.getD k 0)) k), .inl g))]) [7, 8] (by decide) rfl
        have hFc := va_free (wc := [(r0, .inr (3, [.ref z0, .ref q, .ref r2, .ref r3, .ref r4, .ref r5, .ref r6])), (q, .inl (cI, (ct_Nk N (fun k => ct_pl sz la K R (TT.getD k 0)) k), .inl g))]) hD hS hA [7, 8] rfl
        refine va_callv (va_runV (As := [.int (nI (ct_fr (fun k => ct_pl sz la K R (TT.getD k 0)) (k + 1)))]) (rest := []) ⟨hx, hb, hml, hown, hts⟩ (c_R_reserve_up l dC dI cI z0 r0 q r2 r3 r4 r5 r6 (ct_Nk N (fun k => ct_pl sz la K R (TT.getD k 0)) k) g (ct_fr (fun k => ct_pl sz la K R (TT.getD k 0)) (k + 1)) (ct_Nk N (fun k => ct_pl sz la K R (TT.getD k 0)) (k + 1)) (by omega) (by omega) (by omega) hNe H.size) (cwV 1 hts (ct_giV (fun w h9 => ct_tl h9) kw_475 kw_476 kw_477 kw_29 kw_478) rfl rfl rfl (by decide +kernel) ⟨Nat.le_of_ble_eq_true rfl, Nat.le_of_ble_eq_true rfl⟩) ⟨ct_rw_blind, va_recv hK hP (ci := 3) (q0 := 7) rfl rfl, ct_rw_pre hPc hK hDc⟩ rfl rfl hl.1 rfl (lv_room (Nat.le_of_ble_eq_true rfl)) d_H_followPlan_87 ⟨by show (ct_Nk N (fun k => ct_pl sz la K R (TT.getD k 0)) k) - N + 1 ≤ M - N; omega, by show 2 * ((ct_Nk N (fun k => ct_pl sz la K R (TT.getD k 0)) k) - N) + (ct_Nk N (fun k => ct_pl sz la K R (TT.getD k 0)) (k + 1)) ≤ 2 * (M - N); omega⟩) hS (fun q _ h9 => hFc q h9) hFc (fun ⟨q2, g2⟩ tS H1 locs ht hvm hgr hB hz1 hk1 hS => ?_)
        obtain ⟨hP1, -, hD1⟩ := hB
        rw [ht] at hP1
        obtain ⟨hP, hD⟩ := va_join (wr := [(h0, .inr (0, [.ref z0, .ref p0, .ref r0, .int tab, .ref k1, .int (nI K), .ref k2, .ref k3, .int (nI R), .ref k4, .int pl, .int sm])), (k2, .inl (cI, 6, .inl fot)), (k4, .inl (cI, 64, .inl gm)), (p0, .inr (2, [.ref z0, .ref p1, .ref p2, .ref p3, .ref p4, .ref p5])), (p2, .inl (cI, 64, .inl fl)), (p4, .inl (cI, 64, .inl fp)), (p5, .inl (cI, 5, .inl fj)), (r2, .inl (cI, 8, .inl ge)), (r3, .inl (cI, 8, .inl gi)), (r4, .inl (cI, 8, .inl ga)), (r5, .inl (cI, 8, .inl gb)), (r6, .inl (cI, 8, .inl gt)), (z0, .inr (1, [.ref z1])), (z1, .inl (cI, 8, .inl (fun j => nI (sz j))))]) (w1 := [(r0, .inr (3, [.ref z0, .ref q2, .ref r2, .ref r3, .ref r4, .ref r5, .ref r6])), (q2, .inl (cI, (ct_Nk N (fun k => ct_pl sz la K R (TT.getD k 0)) (k + 1)), .inl g2))]) hP hD [7, 8] [0, 1, 2, 3, 4, 5, 6, 9, 10, 11, 12, 13, 14, 15] rfl rfl (by decide) (by decide) hk1 hFc hP1 hD1
        generalize H1 = H at hP hS ⊢
        have hP : va_P (dC, dI) ct_cl [(h0, .inr (0, [.ref z0, .ref p0, .ref r0, .int tab, .ref k1, .int (nI K), .ref k2, .ref k3, .int (nI R), .ref k4, .int pl, .int sm])), (k2, .inl (cI, 6, .inl fot)), (k4, .inl (cI, 64, .inl gm)), (p0, .inr (2, [.ref z0, .ref p1, .ref p2, .ref p3, .ref p4, .ref p5])), (p2, .inl (cI, 64, .inl fl)), (p4, .inl (cI, 64, .inl fp)), (p5, .inl (cI, 5, .inl fj)), (r2, .inl (cI, 8, .inl ge)), (r3, .inl (cI, 8, .inl gi)), (r4, .inl (cI, 8, .inl ga)), (r5, .inl (cI, 8, .inl gb)), (r6, .inl (cI, 8, .inl gt)), (z0, .inr (1, [.ref z1])), (z1, .inl (cI, 8, .inl (fun j => nI (sz j)))), (r0, .inr (3, [.ref z0, .ref q2, .ref r2, .ref r3, .ref r4, .ref r5, .ref r6])), (q2, .inl (cI, (ct_Nk N (fun k => ct_pl sz la K R (TT.getD k 0)) (k + 1)), .inl g2))] H := hP
        have hD : va_D A [(h0, .inr (0, [.ref z0, .ref p0, .ref r0, .int tab, .ref k1, .int (nI K), .ref k2, .ref k3, .int (nI R), .ref k4, .int pl, .int sm])), (k2, .inl (cI, 6, .inl fot)), (k4, .inl (cI, 64, .inl gm)), (p0, .inr (2, [.ref z0, .ref p1, .ref p2, .ref p3, .ref p4, .ref p5])), (p2, .inl (cI, 64, .inl fl)), (p4, .inl (cI, 64, .inl fp)), (p5, .inl (cI, 5, .inl fj)), (r2, .inl (cI, 8, .inl ge)), (r3, .inl (cI, 8, .inl gi)), (r4, .inl (cI, 8, .inl ga)), (r5, .inl (cI, 8, .inl gb)), (r6, .inl (cI, 8, .inl gt)), (z0, .inr (1, [.ref z1])), (z1, .inl (cI, 8, .inl (fun j => nI (sz j)))), (r0, .inr (3, [.ref z0, .ref q2, .ref r2, .ref r3, .ref r4, .ref r5, .ref r6])), (q2, .inl (cI, (ct_Nk N (fun k => ct_pl sz la K R (TT.getD k 0)) (k + 1)), .inl g2))] := hD
        refine W.widen (k := (ct_Nk N (fun k => ct_pl sz la K R (TT.getD k 0)) (k + 1)) - N) (n := 2 * ((ct_Nk N (fun k => ct_pl sz la K R (TT.getD k 0)) (k + 1)) - N)) (by omega) (by omega) ?_
        have hg9 : ∀ i, (i < 216 ∨ (244 ≤ i ∧ i < (ct_fr (fun k => ct_pl sz la K R (TT.getD k 0)) k))) → g2 i = g i := fun i h9 => hgr i (by omega)
        have hgg1 : ∀ i, i < 216 → g2 i = f i := fun i h9 => (hgr i (by omega)).trans (hg1 i h9)
        have hgg3 : g2 243 = f 243 := (hgr 243 (by omega)).trans hg3
        have hpi2 : ct_pi sz la K R v gm g2 (ct_fr (fun k => ct_pl sz la K R (TT.getD k 0)) k) TT k := ct_pi_cells hpi hg9
        clear hpi
        have hpi := hpi2
        refine lv_aload_n hx hb d_H_followPlan_90 rfl (lv_at hl 2 rfl) ?_
        refine lv_iload hx hb d_H_followPlan_91 (lv_at hl 1 rfl) ?_
        refine lv_iload_n hx hb d_H_followPlan_93 rfl (lv_at hl 4 rfl) ?_
        refine lv_aload_n hx hb d_H_followPlan_94 rfl (lv_at hl 2 rfl) ?_
        refine va_get (D := (dC, dI)) (ci := 0) (v := .ref p0) (C := R_H) (T := T_H) (N := 12) hx hb hts (fun w h9 => ct_tl (ki_H w h9)) hown hK hP 0 rfl rfl 1 (by decide) (hts _ (ct_tl kw_115)) (fun _ h9 => h9) rfl d_H_followPlan_95 ?_
        refine lv_iload hx hb d_H_followPlan_98 (lv_at hl 1 rfl) ?_
        refine va_calli (va_runV (As := [.int (nI S)]) (rest := [.int (nI (ct_fr (fun k => ct_pl sz la K R (TT.getD k 0)) k)), .int (nI S), .ref h0]) ⟨hx, hb, hml, hown, hts⟩ (c_P_leavesOf l dC dI cI z0 p0 p1 p2 p3 p4 p5 fl S hS6) (cwV 1 hts (ct_giV (fun w h9 => ct_tl h9) kw_471 kw_472 kw_473 kw_28 kw_474) rfl rfl rfl (by decide +kernel) ⟨Nat.le_of_ble_eq_true rfl, Nat.le_of_ble_eq_true rfl⟩) ⟨ct_ro_blind, va_recv hK hP (ci := 2) (q0 := 3) rfl rfl, ct_ro_pre (hP.sub [3, 4] rfl) hK⟩ rfl rfl hl.1 rfl (lv_room (Nat.le_of_ble_eq_true rfl)) d_H_followPlan_100 ⟨by show (ct_Nk N (fun k => ct_pl sz la K R (TT.getD k 0)) (k + 1)) - N + 0 ≤ M - N; omega, by show 2 * ((ct_Nk N (fun k => ct_pl sz la K R (TT.getD k 0)) (k + 1)) - N) + 0 ≤ 2 * (M - N); omega⟩) hS (fun q _ h9 => h9.elim) (fun q h9 => h9.elim) (fun ans104 uS tS H locs ht hvm hwans104 hB hz1 hk1 hS => ?_)
        have hP := ct_keep hP hk1
        refine ct_val (y := fl S) (hwans104) ?_
        refine ct_val (y := nI (ct_lv la K R S)) (hfl S (by omega) hmm) ?_
        obtain ⟨xa, hxa1, hxa2, hxa3⟩ := hpi (ct_B (ct_jc sz la K R) S).2 hp0 (by omega) (by
              cases hq : ct_sev (ct_B (ct_jc sz la K R) S).2 with
              | false => exact Or.inl rfl
              | true => exact Or.inr (hpr1 hq))
        obtain ⟨xb, hxb1, hxb2, hxb3⟩ := hpi (S ^^^ (ct_B (ct_jc sz la K R) S).2) hpc.1 (by omega) (by
              cases hq : ct_sev (S ^^^ (ct_B (ct_jc sz la K R) S).2) with
              | false => exact Or.inl rfl
              | true => exact Or.inr (hpr2 hq))
        have hpS := hpe S
        have hPc := hP.sub (ws' := [(h0, .inr (0, [.ref z0, .ref p0, .ref r0, .int tab, .ref k1, .int (nI K), .ref k2, .ref k3, .int (nI R), .ref k4, .int pl, .int sm])), (k4, .inl (cI, 64, .inl gm)), (p0, .inr (2, [.ref z0, .ref p1, .ref p2, .ref p3, .ref p4, .ref p5])), (p2, .inl (cI, 64, .inl fl)), (p4, .inl (cI, 64, .inl fp)), (r0, .inr (3, [.ref z0, .ref q2, .ref r2, .ref r3, .ref r4, .ref r5, .ref r6])), (q2, .inl (cI, (ct_Nk N (fun k => ct_pl sz la K R (TT.getD k 0)) (k + 1)), .inl g2)), (r2, .inl (cI, 8, .inl ge)), (r3, .inl (cI, 8, .inl gi)), (r4, .inl (cI, 8, .inl ga)), (r5, .inl (cI, 8, .inl gb)), (r6, .inl (cI, 8, .inl gt)), (z0, .inr (1, [.ref z1])), (z1, .inl (cI, 8, .inl (fun j => nI (sz j))))]) [0, 2, 3, 4, 5, 14, 15, 7, 8, 9, 10, 11, 12, 13] rfl
        have hDc := hD.sub (ws' := [(h0, .inr (0, [.ref z0, .ref p0, .ref r0, .int tab, .ref k1, .int (nI K), .ref k2, .ref k3, .int (nI R), .ref k4, .int pl, .int sm])), (k4, .inl (cI, 64, .inl gm)), (p0, .inr (2, [.ref z0, .ref p1, .ref p2, .ref p3, .ref p4, .ref p5])), (p2, .inl (cI, 64, .inl fl)), (p4, .inl (cI, 64, .inl fp)), (r0, .inr (3, [.ref z0, .ref q2, .ref r2, .ref r3, .ref r4, .ref r5, .ref r6])), (q2, .inl (cI, (ct_Nk N (fun k => ct_pl sz la K R (TT.getD k 0)) (k + 1)), .inl g2)), (r2, .inl (cI, 8, .inl ge)), (r3, .inl (cI, 8, .inl gi)), (r4, .inl (cI, 8, .inl ga)), (r5, .inl (cI, 8, .inl gb)), (r6, .inl (cI, 8, .inl gt)), (z0, .inr (1, [.ref z1])), (z1, .inl (cI, 8, .inl (fun j => nI (sz j))))]) [0, 2, 3, 4, 5, 14, 15, 7, 8, 9, 10, 11, 12, 13] (by decide) rfl
        have hFc := va_free (wc := [(h0, .inr (0, [.ref z0, .ref p0, .ref r0, .int tab, .ref k1, .int (nI K), .ref k2, .ref k3, .int (nI R), .ref k4, .int pl, .int sm])), (k4, .inl (cI, 64, .inl gm)), (p0, .inr (2, [.ref z0, .ref p1, .ref p2, .ref p3, .ref p4, .ref p5])), (p2, .inl (cI, 64, .inl fl)), (p4, .inl (cI, 64, .inl fp)), (r0, .inr (3, [.ref z0, .ref q2, .ref r2, .ref r3, .ref r4, .ref r5, .ref r6])), (q2, .inl (cI, (ct_Nk N (fun k => ct_pl sz la K R (TT.getD k 0)) (k + 1)), .inl g2)), (r2, .inl (cI, 8, .inl ge)), (r3, .inl (cI, 8, .inl gi)), (r4, .inl (cI, 8, .inl ga)), (r5, .inl (cI, 8, .inl gb)), (r6, .inl (cI, 8, .inl gt)), (z0, .inr (1, [.ref z1])), (z1, .inl (cI, 8, .inl (fun j => nI (sz j))))]) hD hS hA [0, 2, 3, 4, 5, 14, 15, 7, 8, 9, 10, 11, 12, 13] rfl
        refine va_callv (va_runV (As := [.int (nI S), .int (nI (ct_fr (fun k => ct_pl sz la K R (TT.getD k 0)) k)), .int (nI (ct_lv la K R S))]) (rest := []) ⟨hx, hb, hml, hown, hts⟩ (c_H_joinParts l dC dI cI z1 sz p1 p2 p3 p4 p5 h0 z0 p0 r0 k1 k2 k3 k4 q2 r2 r3 r4 r5 r6 tab (nI K) (nI R) pl sm (ct_Nk N (fun k => ct_pl sz la K R (TT.getD k 0)) (k + 1)) gm fl fp g2 ge gi ga gb gt S (ct_B (ct_jc sz la K R) S).2 (ct_fr (fun k => ct_pl sz la K R (TT.getD k 0)) k) (ct_lv la K R S) (ct_lv la K R (ct_B (ct_jc sz la K R) S).2) (ct_lv la K R (S ^^^ (ct_B (ct_jc sz la K R) S).2)) xa xb hS6 (by omega) (by omega) (hfp _ (by omega) hs) (hfl _ hp0 (by omega)) (hfl _ hpc.1 (by omega)) hxa1 hxb1 (hlv _) (hlv _) (hlv S) hsz (by omega) (by have := hpe (ct_B (ct_jc sz la K R) S).2; omega) (by have := hpe (S ^^^ (ct_B (ct_jc sz la K R) S).2); omega) (by omega) (by have := hpe (ct_B (ct_jc sz la K R) S).2; omega) (by have := hpe (S ^^^ (ct_B (ct_jc sz la K R) S).2); omega) H.size) (cwV 3 hts (ct_giV (fun w h9 => ct_tl h9) kw_498 kw_500 kw_14 kw_26 kw_501) rfl rfl rfl (by decide +kernel) ⟨Nat.le_of_ble_eq_true rfl, Nat.le_of_ble_eq_true rfl⟩) ⟨ct_rw_blind, va_recv hK hP (ci := 0) (q0 := 0) rfl rfl, ct_rw_pre hPc hK hDc⟩ rfl rfl hl.1 rfl (lv_room (Nat.le_of_ble_eq_true rfl)) d_H_followPlan_103 ⟨by show (ct_Nk N (fun k => ct_pl sz la K R (TT.getD k 0)) (k + 1)) - N + 0 ≤ M - N; omega, by show 2 * ((ct_Nk N (fun k => ct_pl sz la K R (TT.getD k 0)) (k + 1)) - N) + 0 ≤ 2 * (M - N); omega⟩) hS (fun q _ h9 => hFc q h9) hFc (fun ⟨g3, ge2, gi2, ga2, gb2, gt2⟩ tS H1 locs ht hvm hj hB hz1 hk1 hS => ?_)
        obtain ⟨hP1, -, hD1⟩ := hB
        rw [ht] at hP1
        obtain ⟨hP, hD⟩ := va_join (wr := [(k2, .inl (cI, 6, .inl fot)), (p5, .inl (cI, 5, .inl fj))]) (w1 := [(h0, .inr (0, [.ref z0, .ref p0, .ref r0, .int tab, .ref k1, .int (nI K), .ref k2, .ref k3, .int (nI R), .ref k4, .int pl, .int sm])), (k4, .inl (cI, 64, .inl (upd gm S (nI (ct_fr (fun k => ct_pl sz la K R (TT.getD k 0)) k))))), (p0, .inr (2, [.ref z0, .ref p1, .ref p2, .ref p3, .ref p4, .ref p5])), (p2, .inl (cI, 64, .inl fl)), (p4, .inl (cI, 64, .inl fp)), (r0, .inr (3, [.ref z0, .ref q2, .ref r2, .ref r3, .ref r4, .ref r5, .ref r6])), (q2, .inl (cI, (ct_Nk N (fun k => ct_pl sz la K R (TT.getD k 0)) (k + 1)), .inl g3)), (r2, .inl (cI, 8, .inl ge2)), (r3, .inl (cI, 8, .inl gi2)), (r4, .inl (cI, 8, .inl ga2)), (r5, .inl (cI, 8, .inl gb2)), (r6, .inl (cI, 8, .inl gt2)), (z0, .inr (1, [.ref z1])), (z1, .inl (cI, 8, .inl (fun j => nI (sz j))))]) hP hD [0, 2, 3, 4, 5, 14, 15, 7, 8, 9, 10, 11, 12, 13] [1, 6] rfl rfl (by decide) (by decide) hk1 hFc hP1 hD1
        generalize H1 = H at hP hS ⊢
        have hP : va_P (dC, dI) ct_cl [(k2, .inl (cI, 6, .inl fot)), (p5, .inl (cI, 5, .inl fj)), (h0, .inr (0, [.ref z0, .ref p0, .ref r0, .int tab, .ref k1, .int (nI K), .ref k2, .ref k3, .int (nI R), .ref k4, .int pl, .int sm])), (k4, .inl (cI, 64, .inl (upd gm S (nI (ct_fr (fun k => ct_pl sz la K R (TT.getD k 0)) k))))), (p0, .inr (2, [.ref z0, .ref p1, .ref p2, .ref p3, .ref p4, .ref p5])), (p2, .inl (cI, 64, .inl fl)), (p4, .inl (cI, 64, .inl fp)), (r0, .inr (3, [.ref z0, .ref q2, .ref r2, .ref r3, .ref r4, .ref r5, .ref r6])), (q2, .inl (cI, (ct_Nk N (fun k => ct_pl sz la K R (TT.getD k 0)) (k + 1)), .inl g3)), (r2, .inl (cI, 8, .inl ge2)), (r3, .inl (cI, 8, .inl gi2)), (r4, .inl (cI, 8, .inl ga2)), (r5, .inl (cI, 8, .inl gb2)), (r6, .inl (cI, 8, .inl gt2)), (z0, .inr (1, [.ref z1])), (z1, .inl (cI, 8, .inl (fun j => nI (sz j))))] H := hP
        have hD : va_D A [(k2, .inl (cI, 6, .inl fot)), (p5, .inl (cI, 5, .inl fj)), (h0, .inr (0, [.ref z0, .ref p0, .ref r0, .int tab, .ref k1, .int (nI K), .ref k2, .ref k3, .int (nI R), .ref k4, .int pl, .int sm])), (k4, .inl (cI, 64, .inl (upd gm S (nI (ct_fr (fun k => ct_pl sz la K R (TT.getD k 0)) k))))), (p0, .inr (2, [.ref z0, .ref p1, .ref p2, .ref p3, .ref p4, .ref p5])), (p2, .inl (cI, 64, .inl fl)), (p4, .inl (cI, 64, .inl fp)), (r0, .inr (3, [.ref z0, .ref q2, .ref r2, .ref r3, .ref r4, .ref r5, .ref r6])), (q2, .inl (cI, (ct_Nk N (fun k => ct_pl sz la K R (TT.getD k 0)) (k + 1)), .inl g3)), (r2, .inl (cI, 8, .inl ge2)), (r3, .inl (cI, 8, .inl gi2)), (r4, .inl (cI, 8, .inl ga2)), (r5, .inl (cI, 8, .inl gb2)), (r6, .inl (cI, 8, .inl gt2)), (z0, .inr (1, [.ref z1])), (z1, .inl (cI, 8, .inl (fun j => nI (sz j))))] := hD
        refine lv_iload hx hb d_H_followPlan_106 (lv_at hl 0 rfl) ?_
        refine lv_istore_n (lv' := [(2, .int (nI (ct_fr (fun k => ct_pl sz la K R (TT.getD k 0)) (k + 1)))), (5, .int (nI (ct_fr (fun k => ct_pl sz la K R (TT.getD k 0)) (k + 1)))), (4, .int (nI S)), (0, .ref h0), (1, .int (nI (K - 2))), (3, .int (nI k))]) hx hb d_H_followPlan_108 rfl hl (by decide) rfl (fun ls hl => ?_)
        refine lv_iinc (v := (nI (k + 1))) (lv' := [(3, .int (nI (k + 1))), (2, .int (nI (ct_fr (fun k => ct_pl sz la K R (TT.getD k 0)) (k + 1)))), (5, .int (nI (ct_fr (fun k => ct_pl sz la K R (TT.getD k 0)) (k + 1)))), (4, .int (nI S)), (0, .ref h0), (1, .int (nI (K - 2)))]) hx hb d_H_followPlan_109 hl (k := 5) rfl (nI_1 _) (by decide) rfl (fun ls hl => ?_)
        refine lv_goto (tgt := 46) hx hb d_H_followPlan_112 (by decide) ?_
        have hst := ct_pi_step hK6 hvd hpi hfr hkl hs hpa hj hxa3 hxb3
        exact ih (k + 1) (by omega) q2 _ g3 ge2 gi2 ga2 gb2 gt2 (fun i h9 => by rw [← hgg1 i h9]; exact hj.1 i (by omega)) (by rw [← hgg3]; exact hj.1 243 (by omega)) (by rw [hfs]; exact hst) (by omega) H locs (hP.sub [2, 0, 3, 4, 5, 6, 1, 7, 8, 9, 10, 11, 12, 13, 14, 15] rfl) (hD.sub [2, 0, 3, 4, 5, 6, 1, 7, 8, 9, 10, 11, 12, 13, 14, 15] (by decide) rfl) hS ls (lv_sub hl [4, 5, 1, 0] rfl)
  have loop1 : ∀ (n o : Nat), o + n = K → ∀ (gm : Nat → Int32), (∀ j, j < o → gm (2 ^ j) = nI (ot j * 27)) → ∀ (H : Heap) (locs : List Loc), va_P (dC, dI) ct_cl [(h0, .inr (0, [.ref z0, .ref p0, .ref r0, .int tab, .ref k1, .int (nI K), .ref k2, .ref k3, .int (nI R), .ref k4, .int pl, .int sm])), (k2, .inl (cI, 6, .inl fot)), (k4, .inl (cI, 64, .inl gm)), (p0, .inr (2, [.ref z0, .ref p1, .ref p2, .ref p3, .ref p4, .ref p5])), (p2, .inl (cI, 64, .inl fl)), (p4, .inl (cI, 64, .inl fp)), (p5, .inl (cI, 5, .inl fj)), (r0, .inr (3, [.ref z0, .ref r1, .ref r2, .ref r3, .ref r4, .ref r5, .ref r6])), (r1, .inl (cI, N, .inl f)), (r2, .inl (cI, 8, .inl fe)), (r3, .inl (cI, 8, .inl fi)), (r4, .inl (cI, 8, .inl fa)), (r5, .inl (cI, 8, .inl fb)), (r6, .inl (cI, 8, .inl ft)), (z0, .inr (1, [.ref z1])), (z1, .inl (cI, 8, .inl (fun j => nI (sz j))))] H → va_D A [(h0, .inr (0, [.ref z0, .ref p0, .ref r0, .int tab, .ref k1, .int (nI K), .ref k2, .ref k3, .int (nI R), .ref k4, .int pl, .int sm])), (k2, .inl (cI, 6, .inl fot)), (k4, .inl (cI, 64, .inl gm)), (p0, .inr (2, [.ref z0, .ref p1, .ref p2, .ref p3, .ref p4, .ref p5])), (p2, .inl (cI, 64, .inl fl)), (p4, .inl (cI, 64, .inl fp)), (p5, .inl (cI, 5, .inl fj)), (r0, .inr (3, [.ref z0, .ref r1, .ref r2, .ref r3, .ref r4, .ref r5, .ref r6])), (r1, .inl (cI, N, .inl f)), (r2, .inl (cI, 8, .inl fe)), (r3, .inl (cI, 8, .inl fi)), (r4, .inl (cI, 8, .inl fa)), (r5, .inl (cI, 8, .inl fb)), (r6, .inl (cI, 8, .inl ft)), (z0, .inr (1, [.ref z1])), (z1, .inl (cI, 8, .inl (fun j => nI (sz j))))] → va_S A s.heap H locs → ∀ (ls : Array Slot), lv_has ls 6 [(0, .ref h0), (1, .int (nI o))] → W p l e (headSpec w_H_followPlan ({ frames := 5, cells := (M - N), slots := (2 * (M - N)), locals := 132 } : Room)).room s m args below meth c H locs 0 0 (MQ below (va_Qv (fun (u : Nat × (Nat → Int32) × (Nat → Int32) × (Nat → Int32) × (Nat → Int32) × (Nat → Int32) × (Nat → Int32) × (Nat → Int32)) => (∀ i, i < 216 → u.2.2.1 i = f i) ∧ u.2.2.1 243 = f 243 ∧ ∀ r : Nat → Nat, (∀ k, k < 8 → R.testBit k = true → r k < sz k) → u.2.2.1 (216 + ct_ix sz R.testBit 8 r) = ct_sm sz (fun k => (ct_has la (2 ^ K - 1) K).testBit k && !R.testBit k) 8 (ct_pd v (2 ^ K - 1) K) r) (fun (u : Nat × (Nat → Int32) × (Nat → Int32) × (Nat → Int32) × (Nat → Int32) × (Nat → Int32) × (Nat → Int32) × (Nat → Int32)) t => ct_at (dC, dI) ct_cl [(cI, .int)] (A) [(h0, .inr (0, [.ref z0, .ref p0, .ref r0, .int tab, .ref k1, .int (nI K), .ref k2, .ref k3, .int (nI R), .ref k4, .int pl, .int sm])), (k2, .inl (cI, 6, .inl fot)), (k4, .inl (cI, 64, .inl (u.2.1))), (p0, .inr (2, [.ref z0, .ref p1, .ref p2, .ref p3, .ref p4, .ref p5])), (p2, .inl (cI, 64, .inl fl)), (p4, .inl (cI, 64, .inl fp)), (p5, .inl (cI, 5, .inl fj)), (r0, .inr (3, [.ref z0, .ref u.1, .ref r2, .ref r3, .ref r4, .ref r5, .ref r6])), (u.1, .inl (cI, M, .inl (u.2.2.1))), (r2, .inl (cI, 8, .inl (u.2.2.2.1))), (r3, .inl (cI, 8, .inl (u.2.2.2.2.1))), (r4, .inl (cI, 8, .inl (u.2.2.2.2.2.1))), (r5, .inl (cI, 8, .inl (u.2.2.2.2.2.2.1))), (r6, .inl (cI, 8, .inl (u.2.2.2.2.2.2.2))), (z0, .inr (1, [.ref z1])), (z1, .inl (cI, 8, .inl (fun j => nI (sz j))))] t) (A)) args s (M - N) (2 * (M - N)) A) (F0 m 2 ls []) := by
    intro n
    induction n with
    | zero =>
      intro o ho gm hgm H locs hP hD hS ls hl
      refine lv_iload_n hx hb d_H_followPlan_2 rfl (lv_at hl 1 rfl) ?_
      refine lv_aload_n hx hb d_H_followPlan_3 rfl (lv_at hl 0 rfl) ?_
      refine va_get (D := (dC, dI)) (ci := 0) (v := .int (nI K)) (C := R_H) (T := T_H) (N := 12) hx hb hts (fun w h9 => ct_tl (ki_H w h9)) hown hK hP 0 rfl rfl 5 (by decide) (hts _ (ct_tl kw_119)) (fun _ h9 => h9) rfl d_H_followPlan_4 ?_
      refine lv_icmp_ge (tgt := 33) hx hb d_H_followPlan_7 (by decide) (fun _ => ?_) (fun hc9 => absurd (nI_le (by omega) (by omega)) hc9)
      refine lv_aload_n hx hb d_H_followPlan_33 rfl (lv_at hl 0 rfl) ?_
      refine va_calli (va_runV (As := []) (rest := []) ⟨hx, hb, hml, hown, hts⟩ (c_H_countSteps l dC dI cI h0 z0 p0 r0 k1 k2 k3 k4 tab K (nI R) pl sm hK6) (cwV 0 hts (ct_giV (fun w h9 => ct_tl h9) kw_422 kw_424 kw_10 kw_26 kw_425) rfl rfl rfl (by decide +kernel) ⟨Nat.le_of_ble_eq_true rfl, Nat.le_of_ble_eq_true rfl⟩) ⟨ct_ro_blind, va_recv hK hP (ci := 0) (q0 := 0) rfl rfl, ct_ro_pre (hP.sub [0] rfl) hK⟩ rfl rfl hl.1 rfl (lv_room (Nat.le_of_ble_eq_true rfl)) d_H_followPlan_34 ⟨Nat.zero_le _, Nat.zero_le _⟩) hS (fun q _ h9 => h9.elim) (fun q h9 => h9.elim) (fun ans1 uS tS H locs ht hvm hwans1 hB hz1 hk1 hS => ?_)
      have hP := ct_keep hP hk1
      refine ct_val (y := nI (K - 1)) (hwans1) ?_
      refine lv_iconst (v := (nI 1)) hx hb d_H_followPlan_37 (by decide) ?_
      refine lv_isub hx hb d_H_followPlan_38 ?_
      refine ct_val (y := nI (K - 2)) (pk_sub (by omega)) ?_
      refine lv_istore_n (lv' := [(1, .int (nI (K - 2))), (0, .ref h0)]) hx hb d_H_followPlan_39 rfl hl (by decide) rfl (fun ls hl => ?_)
      refine lv_sipush (v := (nI 244)) hx hb d_H_followPlan_40 (by decide) ?_
      refine lv_istore_n (lv' := [(2, .int (nI 244)), (1, .int (nI (K - 2))), (0, .ref h0)]) hx hb d_H_followPlan_43 rfl hl (by decide) rfl (fun ls hl => ?_)
      refine lv_iconst (v := (nI 0)) hx hb d_H_followPlan_44 (by decide) ?_
      refine lv_istore_n (lv' := [(3, .int (nI 0)), (2, .int (nI 244)), (1, .int (nI (K - 2))), (0, .ref h0)]) hx hb d_H_followPlan_45 rfl hl (by decide) rfl (fun ls hl => ?_)
      refine W.widen (k := (ct_Nk N (fun k => ct_pl sz la K R (TT.getD k 0)) 0) - N) (n := 2 * ((ct_Nk N (fun k => ct_pl sz la K R (TT.getD k 0)) 0) - N)) (Nat.zero_le _) (Nat.zero_le _) ?_
      refine loop2 (K - 2) 0 (by omega) r1 gm f fe fi fa fb ft (fun _ _ => rfl) rfl ?_ hN0 H locs hP hD hS ls (lv_sub hl [3, 2, 1, 0] rfl)
      intro S h0 hS hd
      obtain ⟨j, hj6, rfl⟩ := ct_single S (by omega) h0 (by
            rcases hd with hd | ⟨j, j1, j2⟩
            · exact hd
            · omega)
      have hjK : j < K := (ct_pow_lt j hj6 K (by omega)).mp hS
      have hj27 := hp27 j hjK
      have hj8 := (hot j hjK).2
      refine ⟨ot j * 27, hgm j (by omega), Or.inl ?_, fun t ht => ?_⟩
      · rw [ct_pl, ct_lv_one hK6 hjK]; omega
      · rw [ct_vs_pow hK6 hjK, ct_lv_one hK6 hjK, ← hv]
    | succ n ih =>
      intro o ho gm hgm H locs hP hD hS ls hl
      refine lv_iload_n hx hb d_H_followPlan_2 rfl (lv_at hl 1 rfl) ?_
      refine lv_aload_n hx hb d_H_followPlan_3 rfl (lv_at hl 0 rfl) ?_
      refine va_get (D := (dC, dI)) (ci := 0) (v := .int (nI K)) (C := R_H) (T := T_H) (N := 12) hx hb hts (fun w h9 => ct_tl (ki_H w h9)) hown hK hP 0 rfl rfl 5 (by decide) (hts _ (ct_tl kw_119)) (fun _ h9 => h9) rfl d_H_followPlan_4 ?_
      have h2o := ct_2o o (by omega)
      have hoo := hot o (by omega)
      refine lv_icmp_ge (tgt := 33) hx hb d_H_followPlan_7 (by decide) (fun hc9 => absurd hc9 (nI_ge (by omega) (by omega))) (fun _ => ?_)
      refine lv_aload_n hx hb d_H_followPlan_10 rfl (lv_at hl 0 rfl) ?_
      refine va_get (D := (dC, dI)) (ci := 0) (v := .ref k4) (C := R_H) (T := T_H) (N := 12) hx hb hts (fun w h9 => ct_tl (ki_H w h9)) hown hK hP 0 rfl rfl 9 (by decide) (hts _ (ct_tl kw_123)) (fun _ h9 => h9) rfl d_H_followPlan_11 ?_
      refine lv_iconst (v := (nI 1)) hx hb d_H_followPlan_14 (by decide) ?_
      refine lv_iload_n hx hb d_H_followPlan_15 rfl (lv_at hl 1 rfl) ?_
      refine lv_ishl hx hb d_H_followPlan_16 ?_
      refine ct_val (y := nI (2 ^ o)) ((ct_shl 1 (by omega) (by omega)).trans (by rw [Nat.one_mul])) ?_
      refine lv_aload_n hx hb d_H_followPlan_17 rfl (lv_at hl 0 rfl) ?_
      refine va_get (D := (dC, dI)) (ci := 0) (v := .ref k2) (C := R_H) (T := T_H) (N := 12) hx hb hts (fun w h9 => ct_tl (ki_H w h9)) hown hK hP 0 rfl rfl 6 (by decide) (hts _ (ct_tl kw_120)) (fun _ h9 => h9) rfl d_H_followPlan_18 ?_
      refine lv_iload_n hx hb d_H_followPlan_21 rfl (lv_at hl 1 rfl) ?_
      refine ct_iald hx hb hK hP 1 0 rfl rfl (j := o) (by omega) (by omega) d_H_followPlan_22 ?_
      refine ct_val (y := nI (ot o)) (hoo.1) ?_
      refine va_calli (va_runS (As := [.int (nI (ot o))]) (rest := [.int (nI (2 ^ o)), .ref k4]) ⟨hx, hb, hml, hown, hts⟩ (c_H_homeOfTable l dC dI cI (ot o)) (va_cwS 1 hts (ct_giT (fun w h9 => ct_tl h9) kw_386 kw_387 kw_26 kw_388) rfl rfl rfl (by decide +kernel) ⟨Nat.le_of_ble_eq_true rfl, Nat.le_of_ble_eq_true rfl⟩) ⟨ct_ro_blind, ct_ro_pre (hP.sub [] rfl) hK⟩ rfl rfl hl.1 rfl (lv_room (Nat.le_of_ble_eq_true rfl)) d_H_followPlan_23 ⟨Nat.zero_le _, Nat.zero_le _⟩) hS (fun q _ h9 => h9.elim) (fun q h9 => h9.elim) (fun ans1 uS tS H locs ht hvm hwans1 hB hz1 hk1 hS => ?_)
      have hP := ct_keep hP hk1
      refine ct_val (y := nI (ot o * 27)) (hwans1) ?_
      refine ct_iast hx hb hK hP hD hS 2 0 rfl rfl (j := 2 ^ o) (by omega) (by omega) d_H_followPlan_26 (fun H locs hP hD hS => ?_)
      have hP : va_P (dC, dI) ct_cl [(h0, .inr (0, [.ref z0, .ref p0, .ref r0, .int tab, .ref k1, .int (nI K), .ref k2, .ref k3, .int (nI R), .ref k4, .int pl, .int sm])), (k2, .inl (cI, 6, .inl fot)), (k4, .inl (cI, 64, .inl (upd gm (2 ^ o) (nI (ot o * 27))))), (p0, .inr (2, [.ref z0, .ref p1, .ref p2, .ref p3, .ref p4, .ref p5])), (p2, .inl (cI, 64, .inl fl)), (p4, .inl (cI, 64, .inl fp)), (p5, .inl (cI, 5, .inl fj)), (r0, .inr (3, [.ref z0, .ref r1, .ref r2, .ref r3, .ref r4, .ref r5, .ref r6])), (r1, .inl (cI, N, .inl f)), (r2, .inl (cI, 8, .inl fe)), (r3, .inl (cI, 8, .inl fi)), (r4, .inl (cI, 8, .inl fa)), (r5, .inl (cI, 8, .inl fb)), (r6, .inl (cI, 8, .inl ft)), (z0, .inr (1, [.ref z1])), (z1, .inl (cI, 8, .inl (fun j => nI (sz j))))] H := hP
      have hD : va_D A [(h0, .inr (0, [.ref z0, .ref p0, .ref r0, .int tab, .ref k1, .int (nI K), .ref k2, .ref k3, .int (nI R), .ref k4, .int pl, .int sm])), (k2, .inl (cI, 6, .inl fot)), (k4, .inl (cI, 64, .inl (upd gm (2 ^ o) (nI (ot o * 27))))), (p0, .inr (2, [.ref z0, .ref p1, .ref p2, .ref p3, .ref p4, .ref p5])), (p2, .inl (cI, 64, .inl fl)), (p4, .inl (cI, 64, .inl fp)), (p5, .inl (cI, 5, .inl fj)), (r0, .inr (3, [.ref z0, .ref r1, .ref r2, .ref r3, .ref r4, .ref r5, .ref r6])), (r1, .inl (cI, N, .inl f)), (r2, .inl (cI, 8, .inl fe)), (r3, .inl (cI, 8, .inl fi)), (r4, .inl (cI, 8, .inl fa)), (r5, .inl (cI, 8, .inl fb)), (r6, .inl (cI, 8, .inl ft)), (z0, .inr (1, [.ref z1])), (z1, .inl (cI, 8, .inl (fun j => nI (sz j))))] := hD
      refine lv_iinc (v := (nI (o + 1))) (lv' := [(1, .int (nI (o + 1))), (0, .ref h0)]) hx hb d_H_followPlan_27 hl (k := 1) rfl (nI_1 _) (by decide) rfl (fun ls hl => ?_)
      refine lv_goto (tgt := 2) hx hb d_H_followPlan_30 (by decide) ?_
      refine ih (o + 1) (by omega) _ (fun j h9 => ?_) H locs hP hD hS ls (lv_sub hl [1, 0] rfl)
      by_cases h8 : j = o
      · rw [h8, pk_us]
      · rw [pk_un (fun z => h8 ((ct_pow_inj j (by omega) o (by omega)).mp z))]; exact hgm j (by omega)
  refine lv_iconst (v := (nI 0)) hx hb d_H_followPlan_0 (by decide) ?_
  refine lv_istore_n (lv' := [(1, .int (nI 0)), (0, .ref h0)]) hx hb d_H_followPlan_1 rfl hl (by decide) rfl (fun ls hl => ?_)
  exact loop1 K 0 (by omega) hm (fun j h9 => absurd h9 (Nat.not_lt_zero j)) s.heap [] hP hD hS ls (lv_sub hl [1, 0] rfl)
end
section
def R_IAE : String := "java/lang/IllegalArgumentException"
def R_ISE : String := "java/lang/IllegalStateException"
def R_UOE : String := "java/lang/UnsupportedOperationException"
def R_IOE : String := "java/lang/IndexOutOfBoundsException"
abbrev ct_sup : List String := ["java/lang/RuntimeException", "java/lang/Exception"]
abbrev ct_bad : List Cond := [.castable "java/lang/IllegalArgumentException" "java/lang/IllegalArgumentException", .castable "java/lang/IllegalStateException" "java/lang/IllegalStateException", .castable "java/lang/UnsupportedOperationException" "java/lang/UnsupportedOperationException", .castable "java/lang/IndexOutOfBoundsException" "java/lang/IndexOutOfBoundsException", .declares ⟨"java/lang/RuntimeException", "<init>", "(Ljava/lang/String;)V"⟩, .declares ⟨"java/lang/Exception", "<init>", "(Ljava/lang/String;)V"⟩, .declares ⟨"java/lang/Throwable", "<init>", "(Ljava/lang/String;)V"⟩]
abbrev ct_strs : List (Nat × String) := [(47, "no such label"), (52, "no such size"), (60, "a table has the label"), (75, "labels must rise, with NONE behind the last one"), (83, "there are eight tables"), (95, "no such table"), (102, "no such cell"), (119, "there are six operands"), (134, "no such step"), (136, "what is 0 to 3")]
theorem ct_bad_ot : ∀ w ∈ ct_bad, w.onTables = true := by decide +kernel
/-- what a throw asks of the state beyond the tables' good words -/
def ct_X (A : Nat → Prop) (U : State) (H : Heap) : Prop := (∀ w ∈ ct_bad, va_Nw w U) ∧ (∀ q ∈ ct_strs, ∃ sa : Nat, vk_R R_H q.1 q.2 sa U) ∧ vx_Zq Bundle.tN "UNASSIGNED_STACK" Bundle.steD A U H ∧ vx_Zq Bundle.tN "SUPPRESSED_SENTINEL" Bundle.listD A U H
theorem ct_bad_warm {s U : State} (hW : s.WarmedH U.vm) : ∀ w ∈ ct_bad, va_Nw w s → va_Nw w U := by
  intro w hw h
  simp only [ct_bad, List.mem_cons, List.not_mem_nil, or_false] at hw
  rcases hw with rfl | rfl | rfl | rfl | rfl | rfl | rfl
  · exact va_Nw.warmC hW h
  · exact va_Nw.warmC hW h
  · exact va_Nw.warmC hW h
  · exact va_Nw.warmC hW h
  · exact va_Nw.warmD hW h
  · exact va_Nw.warmD hW h
  · exact va_Nw.warmD hW h
theorem ct_X.warm {A : Nat → Prop} {s U : State} {H : Heap} (hW : s.WarmedH U.vm) (h : ct_X A s H) : ct_X A U H := ⟨fun w hw => ct_bad_warm hW w hw (h.1 w hw), fun q hq => by
  obtain ⟨sa, hs⟩ := h.2.1 q hq
  exact ⟨sa, vk_R.warm hW hs⟩, vx_Zq.moved hW.alike h.2.2.1, vx_Zq.moved hW.alike h.2.2.2⟩
theorem ct_X.kept {A : Nat → Prop} {U : State} {H H1 : Heap} (h : ct_X A U H) (hq : ∀ a : Nat, a < H.size → ¬ A a → H1[a]? = H[a]?) : ct_X A U H1 := ⟨h.1, h.2.1, h.2.2.1.kept hq, h.2.2.2.kept hq⟩
theorem ct_X.narrow {A B : Nat → Prop} {U : State} {H : Heap} (h : ct_X A U H) (hAB : ∀ q, B q → A q) : ct_X B U H := ⟨h.1, h.2.1, h.2.2.1.narrow hAB, h.2.2.2.narrow hAB⟩
theorem ct_thr {D : va_G} {cl : List vw_C} {tys : List (ClassId × FieldType)} {A : Nat → Prop} {ws : va_W} {s t : State} {H : Heap} {locs : List Loc} (hP : va_P D cl ws H) (hK : va_K D cl tys s) (hD : va_D A ws) (hS : va_S A s.heap H locs) (hal : s.vm.Alike t.vm) (hz : H.size ≤ t.heap.size) (hk : ∀ q : Nat, q < H.size → t.heap[q]? = H[q]?) : ct_at D cl tys A ws t ∧ va_F A s t :=
  ⟨⟨hP.kept (fun k q h => hk q.1 ((hP k q h).lt)), va_K.moved hal hK, hD⟩, Nat.le_trans hS.1 hz, fun q h1 h2 => (hk q (Nat.lt_of_lt_of_le h1 hS.1)).trans (hS.2.1 q h1 h2)⟩
def ct_rx (D : va_G) (cl : List vw_C) (ws : va_W) (tys : List (ClassId × FieldType)) (sz : Nat) (U : State) : Prop := ct_rw D cl ws tys sz U ∧ ct_X (va_A ws sz) U U.heap
theorem ct_rx_blind {av : List Value} {D : va_G} {cl : List vw_C} {ws : va_W} {tys : List (ClassId × FieldType)} {sz : Nat} : FrameBlind (va_Pc av (ct_rx D cl ws tys sz)) := fun a U g mk q => ⟨q.1, ⟨q.2.1.1, q.2.1.2.1, va_K.moved (u := U) (U := U.calling g mk a) (Vm.Alike.refl U.vm) q.2.1.2.2.1, q.2.1.2.2.2⟩, ct_X.warm (s := U) (U := U.calling g mk a) (State.WarmedH.refl U) q.2.2⟩
theorem ct_rx_pre {av : List Value} {D : va_G} {cl : List vw_C} {ws : va_W} {tys : List (ClassId × FieldType)} {A A0 : Nat → Prop} {s : State} {H : Heap} (hP : va_P D cl ws H) (hK : va_K D cl tys s) (hD : va_D A ws) (hX : ct_X A0 s H) (hA : ∀ q, va_A ws H.size q → A0 q) : ∀ U : State, U.heap = H → s.WarmedH U.vm → va_Pc av (ct_rx D cl ws tys H.size) av.toArray U := fun U hU hW => ⟨rfl, (ct_rw_pre (av := av) hP hK hD U hU hW).2, by rw [hU]; exact (hX.narrow hA).warm hW⟩
theorem kx_IAE : ∀ w ∈ (vx_atS R_H 49 R_IAE ct_sup).filter goodWord, w ∈ ct_tb := by decide +kernel
theorem kb_IAE : ∀ w ∈ (vx_atS R_H 49 R_IAE ct_sup).filter (fun w => !goodWord w), w ∈ ct_bad := by decide +kernel
theorem kg_IAE : ∀ w ∈ Cond.classLink R_H 45 R_IAE :: Cond.initialized R_IAE :: vx_atS R_H 49 R_IAE ct_sup, vx_ot w = true := by decide +kernel
theorem kt_IAE {args : Array Value} {s : State} {b : Cond} {A : Nat → Prop} {H : Heap} (hts : ∀ w ∈ b :: ct_tb, w.before args s = true) (hX : ct_X A s H) : ∀ w ∈ vx_atS R_H 49 R_IAE ct_sup, w.before args s = true := vx_hat (fun w hw => hts w (ct_tl (kx_IAE w hw))) kb_IAE (fun w hw => va_Nw.use (ct_bad_ot w hw) (hX.1 w hw))
theorem kf_IAE : Bundle.fit R_IAE = true ∧ ∀ n ∈ ct_sup, Bundle.fit n = true := by decide +kernel
theorem kl_IAE : Cond.classLink R_H 45 R_IAE ∈ ct_tb := ct_in (i := 225) (by decide +kernel) rfl
theorem kn_IAE : Cond.initialized R_IAE ∈ ct_tb := ct_in (i := 34) (by decide +kernel) rfl
theorem kx_ISE : ∀ w ∈ (vx_atS R_H 62 R_ISE ct_sup).filter goodWord, w ∈ ct_tb := by decide +kernel
theorem kb_ISE : ∀ w ∈ (vx_atS R_H 62 R_ISE ct_sup).filter (fun w => !goodWord w), w ∈ ct_bad := by decide +kernel
theorem kg_ISE : ∀ w ∈ Cond.classLink R_H 58 R_ISE :: Cond.initialized R_ISE :: vx_atS R_H 62 R_ISE ct_sup, vx_ot w = true := by decide +kernel
theorem kt_ISE {args : Array Value} {s : State} {b : Cond} {A : Nat → Prop} {H : Heap} (hts : ∀ w ∈ b :: ct_tb, w.before args s = true) (hX : ct_X A s H) : ∀ w ∈ vx_atS R_H 62 R_ISE ct_sup, w.before args s = true := vx_hat (fun w hw => hts w (ct_tl (kx_ISE w hw))) kb_ISE (fun w hw => va_Nw.use (ct_bad_ot w hw) (hX.1 w hw))
theorem kf_ISE : Bundle.fit R_ISE = true ∧ ∀ n ∈ ct_sup, Bundle.fit n = true := by decide +kernel
theorem kl_ISE : Cond.classLink R_H 58 R_ISE ∈ ct_tb := ct_in (i := 302) (by decide +kernel) rfl
theorem kn_ISE : Cond.initialized R_ISE ∈ ct_tb := ct_in (i := 35) (by decide +kernel) rfl
theorem kx_UOE : ∀ w ∈ (vx_atS R_H 85 R_UOE ct_sup).filter goodWord, w ∈ ct_tb := by decide +kernel
theorem kb_UOE : ∀ w ∈ (vx_atS R_H 85 R_UOE ct_sup).filter (fun w => !goodWord w), w ∈ ct_bad := by decide +kernel
theorem kg_UOE : ∀ w ∈ Cond.classLink R_H 81 R_UOE :: Cond.initialized R_UOE :: vx_atS R_H 85 R_UOE ct_sup, vx_ot w = true := by decide +kernel
theorem kt_UOE {args : Array Value} {s : State} {b : Cond} {A : Nat → Prop} {H : Heap} (hts : ∀ w ∈ b :: ct_tb, w.before args s = true) (hX : ct_X A s H) : ∀ w ∈ vx_atS R_H 85 R_UOE ct_sup, w.before args s = true := vx_hat (fun w hw => hts w (ct_tl (kx_UOE w hw))) kb_UOE (fun w hw => va_Nw.use (ct_bad_ot w hw) (hX.1 w hw))
theorem kf_UOE : Bundle.fit R_UOE = true ∧ ∀ n ∈ ct_sup, Bundle.fit n = true := by decide +kernel
theorem kl_UOE : Cond.classLink R_H 81 R_UOE ∈ ct_tb := ct_in (i := 337) (by decide +kernel) rfl
theorem kn_UOE : Cond.initialized R_UOE ∈ ct_tb := ct_in (i := 36) (by decide +kernel) rfl
theorem kx_IOE : ∀ w ∈ (vx_atS R_H 97 R_IOE ct_sup).filter goodWord, w ∈ ct_tb := by decide +kernel
theorem kb_IOE : ∀ w ∈ (vx_atS R_H 97 R_IOE ct_sup).filter (fun w => !goodWord w), w ∈ ct_bad := by decide +kernel
theorem kg_IOE : ∀ w ∈ Cond.classLink R_H 93 R_IOE :: Cond.initialized R_IOE :: vx_atS R_H 97 R_IOE ct_sup, vx_ot w = true := by decide +kernel
theorem kt_IOE {args : Array Value} {s : State} {b : Cond} {A : Nat → Prop} {H : Heap} (hts : ∀ w ∈ b :: ct_tb, w.before args s = true) (hX : ct_X A s H) : ∀ w ∈ vx_atS R_H 97 R_IOE ct_sup, w.before args s = true := vx_hat (fun w hw => hts w (ct_tl (kx_IOE w hw))) kb_IOE (fun w hw => va_Nw.use (ct_bad_ot w hw) (hX.1 w hw))
theorem kf_IOE : Bundle.fit R_IOE = true ∧ ∀ n ∈ ct_sup, Bundle.fit n = true := by decide +kernel
theorem kl_IOE : Cond.classLink R_H 93 R_IOE ∈ ct_tb := ct_in (i := 368) (by decide +kernel) rfl
theorem kn_IOE : Cond.initialized R_IOE ∈ ct_tb := ct_in (i := 37) (by decide +kernel) rfl
end
section
def ct_sok (x y : Int32) : Bool := ct_isn 8 x && (!decide (y < nI 1) && decide (y ≤ nI 3))
theorem ct_sok_of {x y : Int32} (h : ct_sok x y = true) : ∃ k v : Nat, k < 8 ∧ x = nI k ∧ y = nI v ∧ 0 < v ∧ v < 4 := by
  have h : ct_isn 8 x = true ∧ (¬ y < nI 1 ∧ y ≤ nI 3) := by simpa [ct_sok] using h
  obtain ⟨k, hk, h1⟩ := ct_isn_of (by omega) h.1
  have h0 : ¬ y < 0 := fun z => h.2.1 (Int32.lt_iff_toInt_lt.mpr (by
    have e1 := Int32.lt_iff_toInt_lt.mp z
    have e2 : (0 : Int32).toInt = 0 := by decide
    have e3 : (nI 1).toInt = 1 := by decide
    omega))
  obtain ⟨v, hv, rfl⟩ := nI_of h0
  refine ⟨k, v, hk, h1, rfl, ?_, ?_⟩
  · rcases Nat.eq_zero_or_pos v with h9 | h9
    · exact absurd (nI_lt (a := v) (b := 1) (by omega) (by omega)) h.2.1
    · exact h9
  · have := (nI_leI hv (by omega)).mp h.2.2
    omega
theorem d_H_size_0 : decode b_H_size 0 = .ok (.iload_n 1, 1) := by decide +kernel
theorem d_H_size_1 : decode b_H_size 1 = .ok (.ifCond .lt 9, 3) := by decide +kernel
theorem d_H_size_4 : decode b_H_size 4 = .ok (.iload_n 1, 1) := by decide +kernel
theorem d_H_size_5 : decode b_H_size 5 = .ok (.bipush 8, 2) := by decide +kernel
theorem d_H_size_7 : decode b_H_size 7 = .ok (.if_icmp .lt 13, 3) := by decide +kernel
theorem d_H_size_10 : decode b_H_size 10 = .ok (.new 45, 3) := by decide +kernel
theorem d_H_size_13 : decode b_H_size 13 = .ok (.dup, 1) := by decide +kernel
theorem d_H_size_14 : decode b_H_size 14 = .ok (.ldc 47, 2) := by decide +kernel
theorem d_H_size_16 : decode b_H_size 16 = .ok (.invokespecial 49, 3) := by decide +kernel
theorem d_H_size_19 : decode b_H_size 19 = .ok (.athrow, 1) := by decide +kernel
theorem d_H_size_20 : decode b_H_size 20 = .ok (.iload_n 2, 1) := by decide +kernel
theorem d_H_size_21 : decode b_H_size 21 = .ok (.iconst 1, 1) := by decide +kernel
theorem d_H_size_22 : decode b_H_size 22 = .ok (.if_icmp .lt 8, 3) := by decide +kernel
theorem d_H_size_25 : decode b_H_size 25 = .ok (.iload_n 2, 1) := by decide +kernel
theorem d_H_size_26 : decode b_H_size 26 = .ok (.iconst 3, 1) := by decide +kernel
theorem d_H_size_27 : decode b_H_size 27 = .ok (.if_icmp .le 13, 3) := by decide +kernel
theorem d_H_size_30 : decode b_H_size 30 = .ok (.new 45, 3) := by decide +kernel
theorem d_H_size_33 : decode b_H_size 33 = .ok (.dup, 1) := by decide +kernel
theorem d_H_size_34 : decode b_H_size 34 = .ok (.ldc 52, 2) := by decide +kernel
theorem d_H_size_36 : decode b_H_size 36 = .ok (.invokespecial 49, 3) := by decide +kernel
theorem d_H_size_39 : decode b_H_size 39 = .ok (.athrow, 1) := by decide +kernel
theorem d_H_size_40 : decode b_H_size 40 = .ok (.aload_n 0, 1) := by decide +kernel
theorem d_H_size_41 : decode b_H_size 41 = .ok (.iload_n 1, 1) := by decide +kernel
theorem d_H_size_42 : decode b_H_size 42 = .ok (.invokevirtual 54, 3) := by decide +kernel
theorem d_H_size_45 : decode b_H_size 45 = .ok (.ifCond .eq 13, 3) := by decide +kernel
theorem d_H_size_48 : decode b_H_size 48 = .ok (.new 58, 3) := by decide +kernel
theorem d_H_size_51 : decode b_H_size 51 = .ok (.dup, 1) := by decide +kernel
theorem d_H_size_52 : decode b_H_size 52 = .ok (.ldc 60, 2) := by decide +kernel
theorem d_H_size_54 : decode b_H_size 54 = .ok (.invokespecial 62, 3) := by decide +kernel
theorem d_H_size_57 : decode b_H_size 57 = .ok (.athrow, 1) := by decide +kernel
theorem d_H_size_58 : decode b_H_size 58 = .ok (.aload_n 0, 1) := by decide +kernel
theorem d_H_size_59 : decode b_H_size 59 = .ok (.getfield 12, 3) := by decide +kernel
theorem d_H_size_62 : decode b_H_size 62 = .ok (.iload_n 1, 1) := by decide +kernel
theorem d_H_size_63 : decode b_H_size 63 = .ok (.iload_n 2, 1) := by decide +kernel
theorem d_H_size_64 : decode b_H_size 64 = .ok (.invokevirtual 63, 3) := by decide +kernel
theorem d_H_size_67 : decode b_H_size 67 = .ok (.aload_n 0, 1) := by decide +kernel
theorem d_H_size_68 : decode b_H_size 68 = .ok (.iconst 0, 1) := by decide +kernel
theorem d_H_size_69 : decode b_H_size 69 = .ok (.putfield 67, 3) := by decide +kernel
theorem d_H_size_72 : decode b_H_size 72 = .ok (.return_, 1) := by decide +kernel
theorem d_H_table_0 : decode b_H_table 0 = .ok (.iload_n 1, 1) := by decide +kernel
theorem d_H_table_1 : decode b_H_table 1 = .ok (.iload_n 2, 1) := by decide +kernel
theorem d_H_table_2 : decode b_H_table 2 = .ok (.iload_n 3, 1) := by decide +kernel
theorem d_H_table_3 : decode b_H_table 3 = .ok (.invokestatic 71, 3) := by decide +kernel
theorem d_H_table_6 : decode b_H_table 6 = .ok (.ifCond .ne 13, 3) := by decide +kernel
theorem d_H_table_9 : decode b_H_table 9 = .ok (.new 45, 3) := by decide +kernel
theorem d_H_table_12 : decode b_H_table 12 = .ok (.dup, 1) := by decide +kernel
theorem d_H_table_13 : decode b_H_table 13 = .ok (.ldc 75, 2) := by decide +kernel
theorem d_H_table_15 : decode b_H_table 15 = .ok (.invokespecial 49, 3) := by decide +kernel
theorem d_H_table_18 : decode b_H_table 18 = .ok (.athrow, 1) := by decide +kernel
theorem d_H_table_19 : decode b_H_table 19 = .ok (.aload_n 0, 1) := by decide +kernel
theorem d_H_table_20 : decode b_H_table 20 = .ok (.getfield 77, 3) := by decide +kernel
theorem d_H_table_23 : decode b_H_table 23 = .ok (.bipush 8, 2) := by decide +kernel
theorem d_H_table_25 : decode b_H_table 25 = .ok (.if_icmp .lt 13, 3) := by decide +kernel
theorem d_H_table_28 : decode b_H_table 28 = .ok (.new 81, 3) := by decide +kernel
theorem d_H_table_31 : decode b_H_table 31 = .ok (.dup, 1) := by decide +kernel
theorem d_H_table_32 : decode b_H_table 32 = .ok (.ldc 83, 2) := by decide +kernel
theorem d_H_table_34 : decode b_H_table 34 = .ok (.invokespecial 85, 3) := by decide +kernel
theorem d_H_table_37 : decode b_H_table 37 = .ok (.athrow, 1) := by decide +kernel
theorem d_H_table_38 : decode b_H_table 38 = .ok (.aload_n 0, 1) := by decide +kernel
theorem d_H_table_39 : decode b_H_table 39 = .ok (.getfield 32, 3) := by decide +kernel
theorem d_H_table_42 : decode b_H_table 42 = .ok (.aload_n 0, 1) := by decide +kernel
theorem d_H_table_43 : decode b_H_table 43 = .ok (.getfield 77, 3) := by decide +kernel
theorem d_H_table_46 : decode b_H_table 46 = .ok (.iload_n 1, 1) := by decide +kernel
theorem d_H_table_47 : decode b_H_table 47 = .ok (.iload_n 2, 1) := by decide +kernel
theorem d_H_table_48 : decode b_H_table 48 = .ok (.iload_n 3, 1) := by decide +kernel
theorem d_H_table_49 : decode b_H_table 49 = .ok (.invokestatic 86, 3) := by decide +kernel
theorem d_H_table_52 : decode b_H_table 52 = .ok (.iastore, 1) := by decide +kernel
theorem d_H_table_53 : decode b_H_table 53 = .ok (.aload_n 0, 1) := by decide +kernel
theorem d_H_table_54 : decode b_H_table 54 = .ok (.dup, 1) := by decide +kernel
theorem d_H_table_55 : decode b_H_table 55 = .ok (.getfield 77, 3) := by decide +kernel
theorem d_H_table_58 : decode b_H_table 58 = .ok (.iconst 1, 1) := by decide +kernel
theorem d_H_table_59 : decode b_H_table 59 = .ok (.iadd, 1) := by decide +kernel
theorem d_H_table_60 : decode b_H_table 60 = .ok (.putfield 77, 3) := by decide +kernel
theorem d_H_table_63 : decode b_H_table 63 = .ok (.aload_n 0, 1) := by decide +kernel
theorem d_H_table_64 : decode b_H_table 64 = .ok (.getfield 77, 3) := by decide +kernel
theorem d_H_table_67 : decode b_H_table 67 = .ok (.iconst 1, 1) := by decide +kernel
theorem d_H_table_68 : decode b_H_table 68 = .ok (.isub, 1) := by decide +kernel
theorem d_H_table_69 : decode b_H_table 69 = .ok (.ireturn, 1) := by decide +kernel
theorem d_H_extent_0 : decode b_H_extent 0 = .ok (.aload_n 0, 1) := by decide +kernel
theorem d_H_extent_1 : decode b_H_extent 1 = .ok (.iload_n 1, 1) := by decide +kernel
theorem d_H_extent_2 : decode b_H_extent 2 = .ok (.invokevirtual 90, 3) := by decide +kernel
theorem d_H_extent_5 : decode b_H_extent 5 = .ok (.ifCond .ne 13, 3) := by decide +kernel
theorem d_H_extent_8 : decode b_H_extent 8 = .ok (.new 93, 3) := by decide +kernel
theorem d_H_extent_11 : decode b_H_extent 11 = .ok (.dup, 1) := by decide +kernel
theorem d_H_extent_12 : decode b_H_extent 12 = .ok (.ldc 95, 2) := by decide +kernel
theorem d_H_extent_14 : decode b_H_extent 14 = .ok (.invokespecial 97, 3) := by decide +kernel
theorem d_H_extent_17 : decode b_H_extent 17 = .ok (.athrow, 1) := by decide +kernel
theorem d_H_extent_18 : decode b_H_extent 18 = .ok (.aload_n 0, 1) := by decide +kernel
theorem d_H_extent_19 : decode b_H_extent 19 = .ok (.getfield 12, 3) := by decide +kernel
theorem d_H_extent_22 : decode b_H_extent 22 = .ok (.aload_n 0, 1) := by decide +kernel
theorem d_H_extent_23 : decode b_H_extent 23 = .ok (.getfield 32, 3) := by decide +kernel
theorem d_H_extent_26 : decode b_H_extent 26 = .ok (.iload_n 1, 1) := by decide +kernel
theorem d_H_extent_27 : decode b_H_extent 27 = .ok (.iaload, 1) := by decide +kernel
theorem d_H_extent_28 : decode b_H_extent 28 = .ok (.invokevirtual 98, 3) := by decide +kernel
theorem d_H_extent_31 : decode b_H_extent 31 = .ok (.ireturn, 1) := by decide +kernel
theorem d_H_operand_0 : decode b_H_operand 0 = .ok (.aload_n 0, 1) := by decide +kernel
theorem d_H_operand_1 : decode b_H_operand 1 = .ok (.iload_n 1, 1) := by decide +kernel
theorem d_H_operand_2 : decode b_H_operand 2 = .ok (.invokevirtual 90, 3) := by decide +kernel
theorem d_H_operand_5 : decode b_H_operand 5 = .ok (.ifCond .ne 13, 3) := by decide +kernel
theorem d_H_operand_8 : decode b_H_operand 8 = .ok (.new 93, 3) := by decide +kernel
theorem d_H_operand_11 : decode b_H_operand 11 = .ok (.dup, 1) := by decide +kernel
theorem d_H_operand_12 : decode b_H_operand 12 = .ok (.ldc 95, 2) := by decide +kernel
theorem d_H_operand_14 : decode b_H_operand 14 = .ok (.invokespecial 97, 3) := by decide +kernel
theorem d_H_operand_17 : decode b_H_operand 17 = .ok (.athrow, 1) := by decide +kernel
theorem d_H_operand_18 : decode b_H_operand 18 = .ok (.aload_n 0, 1) := by decide +kernel
theorem d_H_operand_19 : decode b_H_operand 19 = .ok (.getfield 110, 3) := by decide +kernel
theorem d_H_operand_22 : decode b_H_operand 22 = .ok (.bipush 6, 2) := by decide +kernel
theorem d_H_operand_24 : decode b_H_operand 24 = .ok (.if_icmp .lt 13, 3) := by decide +kernel
theorem d_H_operand_27 : decode b_H_operand 27 = .ok (.new 81, 3) := by decide +kernel
theorem d_H_operand_30 : decode b_H_operand 30 = .ok (.dup, 1) := by decide +kernel
theorem d_H_operand_31 : decode b_H_operand 31 = .ok (.ldc 119, 2) := by decide +kernel
theorem d_H_operand_33 : decode b_H_operand 33 = .ok (.invokespecial 85, 3) := by decide +kernel
theorem d_H_operand_36 : decode b_H_operand 36 = .ok (.athrow, 1) := by decide +kernel
theorem d_H_operand_37 : decode b_H_operand 37 = .ok (.aload_n 0, 1) := by decide +kernel
theorem d_H_operand_38 : decode b_H_operand 38 = .ok (.getfield 36, 3) := by decide +kernel
theorem d_H_operand_41 : decode b_H_operand 41 = .ok (.aload_n 0, 1) := by decide +kernel
theorem d_H_operand_42 : decode b_H_operand 42 = .ok (.getfield 110, 3) := by decide +kernel
theorem d_H_operand_45 : decode b_H_operand 45 = .ok (.iload_n 1, 1) := by decide +kernel
theorem d_H_operand_46 : decode b_H_operand 46 = .ok (.iastore, 1) := by decide +kernel
theorem d_H_operand_47 : decode b_H_operand 47 = .ok (.aload_n 0, 1) := by decide +kernel
theorem d_H_operand_48 : decode b_H_operand 48 = .ok (.getfield 39, 3) := by decide +kernel
theorem d_H_operand_51 : decode b_H_operand 51 = .ok (.aload_n 0, 1) := by decide +kernel
theorem d_H_operand_52 : decode b_H_operand 52 = .ok (.getfield 110, 3) := by decide +kernel
theorem d_H_operand_55 : decode b_H_operand 55 = .ok (.aload_n 0, 1) := by decide +kernel
theorem d_H_operand_56 : decode b_H_operand 56 = .ok (.getfield 32, 3) := by decide +kernel
theorem d_H_operand_59 : decode b_H_operand 59 = .ok (.iload_n 1, 1) := by decide +kernel
theorem d_H_operand_60 : decode b_H_operand 60 = .ok (.iaload, 1) := by decide +kernel
theorem d_H_operand_61 : decode b_H_operand 61 = .ok (.iastore, 1) := by decide +kernel
theorem d_H_operand_62 : decode b_H_operand 62 = .ok (.aload_n 0, 1) := by decide +kernel
theorem d_H_operand_63 : decode b_H_operand 63 = .ok (.dup, 1) := by decide +kernel
theorem d_H_operand_64 : decode b_H_operand 64 = .ok (.getfield 110, 3) := by decide +kernel
theorem d_H_operand_67 : decode b_H_operand 67 = .ok (.iconst 1, 1) := by decide +kernel
theorem d_H_operand_68 : decode b_H_operand 68 = .ok (.iadd, 1) := by decide +kernel
theorem d_H_operand_69 : decode b_H_operand 69 = .ok (.putfield 110, 3) := by decide +kernel
theorem d_H_operand_72 : decode b_H_operand 72 = .ok (.aload_n 0, 1) := by decide +kernel
theorem d_H_operand_73 : decode b_H_operand 73 = .ok (.invokevirtual 116, 3) := by decide +kernel
theorem d_H_operand_76 : decode b_H_operand 76 = .ok (.aload_n 0, 1) := by decide +kernel
theorem d_H_operand_77 : decode b_H_operand 77 = .ok (.getfield 110, 3) := by decide +kernel
theorem d_H_operand_80 : decode b_H_operand 80 = .ok (.iconst 1, 1) := by decide +kernel
theorem d_H_operand_81 : decode b_H_operand 81 = .ok (.isub, 1) := by decide +kernel
theorem d_H_operand_82 : decode b_H_operand 82 = .ok (.ireturn, 1) := by decide +kernel
theorem d_H_result_0 : decode b_H_result 0 = .ok (.iload_n 1, 1) := by decide +kernel
theorem d_H_result_1 : decode b_H_result 1 = .ok (.iload_n 2, 1) := by decide +kernel
theorem d_H_result_2 : decode b_H_result 2 = .ok (.iload_n 3, 1) := by decide +kernel
theorem d_H_result_3 : decode b_H_result 3 = .ok (.invokestatic 71, 3) := by decide +kernel
theorem d_H_result_6 : decode b_H_result 6 = .ok (.ifCond .ne 13, 3) := by decide +kernel
theorem d_H_result_9 : decode b_H_result 9 = .ok (.new 45, 3) := by decide +kernel
theorem d_H_result_12 : decode b_H_result 12 = .ok (.dup, 1) := by decide +kernel
theorem d_H_result_13 : decode b_H_result 13 = .ok (.ldc 75, 2) := by decide +kernel
theorem d_H_result_15 : decode b_H_result 15 = .ok (.invokespecial 49, 3) := by decide +kernel
theorem d_H_result_18 : decode b_H_result 18 = .ok (.athrow, 1) := by decide +kernel
theorem d_H_result_19 : decode b_H_result 19 = .ok (.aload_n 0, 1) := by decide +kernel
theorem d_H_result_20 : decode b_H_result 20 = .ok (.iload_n 1, 1) := by decide +kernel
theorem d_H_result_21 : decode b_H_result 21 = .ok (.iload_n 2, 1) := by decide +kernel
theorem d_H_result_22 : decode b_H_result 22 = .ok (.iload_n 3, 1) := by decide +kernel
theorem d_H_result_23 : decode b_H_result 23 = .ok (.invokestatic 86, 3) := by decide +kernel
theorem d_H_result_26 : decode b_H_result 26 = .ok (.putfield 113, 3) := by decide +kernel
theorem d_H_result_29 : decode b_H_result 29 = .ok (.aload_n 0, 1) := by decide +kernel
theorem d_H_result_30 : decode b_H_result 30 = .ok (.invokevirtual 116, 3) := by decide +kernel
theorem d_H_result_33 : decode b_H_result 33 = .ok (.aload_n 0, 1) := by decide +kernel
theorem d_H_result_34 : decode b_H_result 34 = .ok (.getfield 12, 3) := by decide +kernel
theorem d_H_result_37 : decode b_H_result 37 = .ok (.aload_n 0, 1) := by decide +kernel
theorem d_H_result_38 : decode b_H_result 38 = .ok (.getfield 113, 3) := by decide +kernel
theorem d_H_result_41 : decode b_H_result 41 = .ok (.invokevirtual 98, 3) := by decide +kernel
theorem d_H_result_44 : decode b_H_result 44 = .ok (.ireturn, 1) := by decide +kernel
theorem d_H_about_0 : decode b_H_about 0 = .ok (.iload_n 1, 1) := by decide +kernel
theorem d_H_about_1 : decode b_H_about 1 = .ok (.tableswitch 51 0 3 #[31, 36, 41, 46], 31) := by decide +kernel
theorem d_H_about_32 : decode b_H_about 32 = .ok (.aload_n 0, 1) := by decide +kernel
theorem d_H_about_33 : decode b_H_about 33 = .ok (.getfield 77, 3) := by decide +kernel
theorem d_H_about_36 : decode b_H_about 36 = .ok (.ireturn, 1) := by decide +kernel
theorem d_H_about_37 : decode b_H_about 37 = .ok (.aload_n 0, 1) := by decide +kernel
theorem d_H_about_38 : decode b_H_about 38 = .ok (.getfield 110, 3) := by decide +kernel
theorem d_H_about_41 : decode b_H_about 41 = .ok (.ireturn, 1) := by decide +kernel
theorem d_H_about_42 : decode b_H_about 42 = .ok (.aload_n 0, 1) := by decide +kernel
theorem d_H_about_43 : decode b_H_about 43 = .ok (.getfield 113, 3) := by decide +kernel
theorem d_H_about_46 : decode b_H_about 46 = .ok (.ireturn, 1) := by decide +kernel
theorem d_H_about_47 : decode b_H_about 47 = .ok (.aload_n 0, 1) := by decide +kernel
theorem d_H_about_48 : decode b_H_about 48 = .ok (.invokevirtual 131, 3) := by decide +kernel
theorem d_H_about_51 : decode b_H_about 51 = .ok (.ireturn, 1) := by decide +kernel
theorem d_H_about_52 : decode b_H_about 52 = .ok (.new 45, 3) := by decide +kernel
theorem d_H_about_55 : decode b_H_about 55 = .ok (.dup, 1) := by decide +kernel
theorem d_H_about_56 : decode b_H_about 56 = .ok (.ldc 136, 2) := by decide +kernel
theorem d_H_about_58 : decode b_H_about 58 = .ok (.invokespecial 49, 3) := by decide +kernel
theorem d_H_about_61 : decode b_H_about 61 = .ok (.athrow, 1) := by decide +kernel
theorem d_H_set_0 : decode b_H_set 0 = .ok (.aload_n 0, 1) := by decide +kernel
theorem d_H_set_1 : decode b_H_set 1 = .ok (.iload_n 1, 1) := by decide +kernel
theorem d_H_set_2 : decode b_H_set 2 = .ok (.invokevirtual 90, 3) := by decide +kernel
theorem d_H_set_5 : decode b_H_set 5 = .ok (.ifCond .ne 13, 3) := by decide +kernel
theorem d_H_set_8 : decode b_H_set 8 = .ok (.new 93, 3) := by decide +kernel
theorem d_H_set_11 : decode b_H_set 11 = .ok (.dup, 1) := by decide +kernel
theorem d_H_set_12 : decode b_H_set 12 = .ok (.ldc 95, 2) := by decide +kernel
theorem d_H_set_14 : decode b_H_set 14 = .ok (.invokespecial 97, 3) := by decide +kernel
theorem d_H_set_17 : decode b_H_set 17 = .ok (.athrow, 1) := by decide +kernel
theorem d_H_set_18 : decode b_H_set 18 = .ok (.iload_n 2, 1) := by decide +kernel
theorem d_H_set_19 : decode b_H_set 19 = .ok (.ifCond .lt 20, 3) := by decide +kernel
theorem d_H_set_22 : decode b_H_set 22 = .ok (.iload_n 2, 1) := by decide +kernel
theorem d_H_set_23 : decode b_H_set 23 = .ok (.aload_n 0, 1) := by decide +kernel
theorem d_H_set_24 : decode b_H_set 24 = .ok (.getfield 12, 3) := by decide +kernel
theorem d_H_set_27 : decode b_H_set 27 = .ok (.aload_n 0, 1) := by decide +kernel
theorem d_H_set_28 : decode b_H_set 28 = .ok (.getfield 32, 3) := by decide +kernel
theorem d_H_set_31 : decode b_H_set 31 = .ok (.iload_n 1, 1) := by decide +kernel
theorem d_H_set_32 : decode b_H_set 32 = .ok (.iaload, 1) := by decide +kernel
theorem d_H_set_33 : decode b_H_set 33 = .ok (.invokevirtual 98, 3) := by decide +kernel
theorem d_H_set_36 : decode b_H_set 36 = .ok (.if_icmp .lt 13, 3) := by decide +kernel
theorem d_H_set_39 : decode b_H_set 39 = .ok (.new 93, 3) := by decide +kernel
theorem d_H_set_42 : decode b_H_set 42 = .ok (.dup, 1) := by decide +kernel
theorem d_H_set_43 : decode b_H_set 43 = .ok (.ldc 102, 2) := by decide +kernel
theorem d_H_set_45 : decode b_H_set 45 = .ok (.invokespecial 97, 3) := by decide +kernel
theorem d_H_set_48 : decode b_H_set 48 = .ok (.athrow, 1) := by decide +kernel
theorem d_H_set_49 : decode b_H_set 49 = .ok (.aload_n 0, 1) := by decide +kernel
theorem d_H_set_50 : decode b_H_set 50 = .ok (.getfield 28, 3) := by decide +kernel
theorem d_H_set_53 : decode b_H_set 53 = .ok (.iload_n 1, 1) := by decide +kernel
theorem d_H_set_54 : decode b_H_set 54 = .ok (.invokestatic 104, 3) := by decide +kernel
theorem d_H_set_57 : decode b_H_set 57 = .ok (.iload_n 2, 1) := by decide +kernel
theorem d_H_set_58 : decode b_H_set 58 = .ok (.iadd, 1) := by decide +kernel
theorem d_H_set_59 : decode b_H_set 59 = .ok (.iload_n 3, 1) := by decide +kernel
theorem d_H_set_60 : decode b_H_set 60 = .ok (.invokevirtual 107, 3) := by decide +kernel
theorem d_H_set_63 : decode b_H_set 63 = .ok (.aload_n 0, 1) := by decide +kernel
theorem d_H_set_64 : decode b_H_set 64 = .ok (.iconst 0, 1) := by decide +kernel
theorem d_H_set_65 : decode b_H_set 65 = .ok (.putfield 67, 3) := by decide +kernel
theorem d_H_set_68 : decode b_H_set 68 = .ok (.return_, 1) := by decide +kernel
theorem d_H_clear_0 : decode b_H_clear 0 = .ok (.aload_n 0, 1) := by decide +kernel
theorem d_H_clear_1 : decode b_H_clear 1 = .ok (.iconst 0, 1) := by decide +kernel
theorem d_H_clear_2 : decode b_H_clear 2 = .ok (.putfield 110, 3) := by decide +kernel
theorem d_H_clear_5 : decode b_H_clear 5 = .ok (.aload_n 0, 1) := by decide +kernel
theorem d_H_clear_6 : decode b_H_clear 6 = .ok (.iconst 0, 1) := by decide +kernel
theorem d_H_clear_7 : decode b_H_clear 7 = .ok (.putfield 113, 3) := by decide +kernel
theorem d_H_clear_10 : decode b_H_clear 10 = .ok (.aload_n 0, 1) := by decide +kernel
theorem d_H_clear_11 : decode b_H_clear 11 = .ok (.invokevirtual 116, 3) := by decide +kernel
theorem d_H_clear_14 : decode b_H_clear 14 = .ok (.return_, 1) := by decide +kernel
set_option maxHeartbeats 4000000 in
set_option maxRecDepth 100000 in
theorem c_H_size (l : Launch) (hst : l.stackTraces = false) (dC : Nat → ClassId) (dI : Nat → Nat → Nat) (cI : ClassId) (z1 : Nat) (sz : Nat → Nat) (h0 z0 p0 r0 k1 k2 k3 k4 : Nat) (T : Nat) (ops res pl sm : Int32) (f : Nat → Int32) (lab : Nat → Nat) (hT8 : T ≤ 8) (hf : ∀ t, t < T → f t = nI (lab t)) (hlab : ∀ t, t < T → lab t < 256) (x y : Int32) (sz0 : Nat) : vx_Met l y_H_size w_H_size ({ frames := 6, cells := 1, slots := 6, locals := 90 }) (va_Pc [.ref h0, .int x, .int y] (ct_rx (dC, dI) ct_cl [(h0, .inr (0, [.ref z0, .ref p0, .ref r0, .int (nI T), .ref k1, .int ops, .ref k2, .ref k3, .int res, .ref k4, .int pl, .int sm])), (k1, .inl (cI, 8, .inl f)), (z0, .inr (1, [.ref z1])), (z1, .inl (cI, 8, .inl (fun j => nI (sz j))))] [(cI, .int)] sz0)) (va_Qv (fun (u : Nat → Nat) => ∃ k v : Nat, k < 8 ∧ x = nI k ∧ y = nI v ∧ 0 < v ∧ v < 4 ∧ ct_any lab k T = false ∧ ct_sok x y = true ∧ u = ct_st sz k v) (fun (u : Nat → Nat) t => ct_at (dC, dI) ct_cl [(cI, .int)] (va_A [(h0, .inr (0, [.ref z0, .ref p0, .ref r0, .int (nI T), .ref k1, .int ops, .ref k2, .ref k3, .int res, .ref k4, .int pl, .int sm])), (k1, .inl (cI, 8, .inl f)), (z0, .inr (1, [.ref z1])), (z1, .inl (cI, 8, .inl (fun j => nI (sz j))))] sz0) [(h0, .inr (0, [.ref z0, .ref p0, .ref r0, .int (nI T), .ref k1, .int ops, .ref k2, .ref k3, .int res, .ref k4, .int pl, .int (nI 0)])), (k1, .inl (cI, 8, .inl f)), (z0, .inr (1, [.ref z1])), (z1, .inl (cI, 8, .inl (fun j => nI (u j))))] t) (va_A [(h0, .inr (0, [.ref z0, .ref p0, .ref r0, .int (nI T), .ref k1, .int ops, .ref k2, .ref k3, .int res, .ref k4, .int pl, .int sm])), (k1, .inl (cI, 8, .inl f)), (z0, .inr (1, [.ref z1])), (z1, .inl (cI, 8, .inl (fun j => nI (sz j))))] sz0)) (vx_X (fun (_ : Unit) => True) (fun (E : String) (_ : Unit) t => ((ct_sok x y = false ∧ E = R_IAE) ∨ (ct_sok x y = true ∧ E = R_ISE ∧ ∃ k : Nat, k < 8 ∧ x = nI k ∧ ct_any lab k T = true)) ∧ ct_at (dC, dI) ct_cl [(cI, .int)] (va_A [(h0, .inr (0, [.ref z0, .ref p0, .ref r0, .int (nI T), .ref k1, .int ops, .ref k2, .ref k3, .int res, .ref k4, .int pl, .int sm])), (k1, .inl (cI, 8, .inl f)), (z0, .inr (1, [.ref z1])), (z1, .inl (cI, 8, .inl (fun j => nI (sz j))))] sz0) [(h0, .inr (0, [.ref z0, .ref p0, .ref r0, .int (nI T), .ref k1, .int ops, .ref k2, .ref k3, .int res, .ref k4, .int pl, .int sm])), (k1, .inl (cI, 8, .inl f)), (z0, .inr (1, [.ref z1])), (z1, .inl (cI, 8, .inl (fun j => nI (sz j))))] t) (va_A [(h0, .inr (0, [.ref z0, .ref p0, .ref r0, .int (nI T), .ref k1, .int ops, .ref k2, .ref k3, .int res, .ref k4, .int pl, .int sm])), (k1, .inl (cI, 8, .inl f)), (z0, .inr (1, [.ref z1])), (z1, .inl (cI, 8, .inl (fun j => nI (sz j))))] sz0)) 1 6 (va_A [(h0, .inr (0, [.ref z0, .ref p0, .ref r0, .int (nI T), .ref k1, .int ops, .ref k2, .ref k3, .int res, .ref k4, .int pl, .int sm])), (k1, .inl (cI, 8, .inl f)), (z0, .inr (1, [.ref z1])), (z1, .inl (cI, 8, .inl (fun j => nI (sz j))))] sz0) := by
  refine vx_ofW (cc := b_H_size) (maxL := 3) (ret := none) (by decide) rfl ?_
  intro p e s m args below meth c s₁ Bd hml htab hv
  obtain ⟨hargs, ⟨hsz, hP, hK, hD0⟩, hXw⟩ := hv
  have hx := Bd.exec
  have hb := Bd.bytes
  have hr := Bd.returns
  have hts : ∀ w ∈ k_H_size :: ct_tb, w.before args s = true := atoms_spec (ws := w_H_size) Bd.pre
  have hown : s.vm.findClass R_H = some m.cls := findClass_of_methodNamed Bd.named
  have hlocks := Bd.notSynchronized
  subst hsz
  have hD := hD0.self (sz := s.heap.size)
  generalize hAe : va_A [(h0, .inr (0, [.ref z0, .ref p0, .ref r0, .int (nI T), .ref k1, .int ops, .ref k2, .ref k3, .int res, .ref k4, .int pl, .int sm])), (k1, .inl (cI, 8, .inl f)), (z0, .inr (1, [.ref z1])), (z1, .inl (cI, 8, .inl (fun j => nI (sz j))))] s.heap.size = A at hD hXw ⊢
  have hA : ∀ q : Nat, s.heap.size ≤ q → A q := fun q h => by rw [← hAe]; exact Or.inr h
  have hS : va_S A s.heap s.heap [] := va_S.rf
  have hl := lv_entry ([.ref h0, .int x, .int y]) (n := 3) (Nat.le_of_ble_eq_true rfl)
  rw [show entryFrame m args 3 = entryFrame m (([.ref h0, .int x, .int y] : List Value)).toArray 3 by rw [hargs], lg_entry_eq]
  generalize (lg_sl ([.ref h0, .int x, .int y]) ++ List.replicate (3 - (lg_sl ([.ref h0, .int x, .int y])).length) Slot.unset).toArray = ls at hl ⊢
  have hl : lv_has ls 3 [(0, .ref h0), (1, .int x), (2, .int y)] := hl
  by_cases c1 : x < 0
  · refine lv_iload_n hx hb d_H_size_0 rfl (lv_at hl 1 rfl) ?_
    refine lv_if_lt (tgt := 10) hx hb d_H_size_1 (by decide) (fun _ => ?_) (fun hc9 => absurd (c1) hc9)
    obtain ⟨sa, hstr⟩ := hXw.2.1 (47, "no such label") (by decide)
    exact vx_throwS (own := R_H) (cls := R_IAE) (text := "no such label") (names := ct_sup) (sa := sa) hx hb hst hown kf_IAE.1 kf_IAE.2 (hts _ (ct_tl kl_IAE)) (hts _ (ct_tl kn_IAE)) hstr (kt_IAE hts hXw) kg_IAE hXw.2.2.1 hXw.2.2.2 hS (hl.1.trans hml.symm) d_H_size_10 d_H_size_13 d_H_size_14 d_H_size_16 d_H_size_19 (fun x hx9 => (htab x hx9).elim) (Nat.le_of_ble_eq_true rfl) (Nat.le_of_ble_eq_true rfl) (Nat.le_of_ble_eq_true rfl) (Nat.le_of_ble_eq_true rfl) hlocks (fun tS hal9 hz9 hk9 => ⟨(), trivial, ⟨Or.inl ⟨by simp [ct_sok, ct_isn, c1], rfl⟩, (ct_thr (hP.sub [0, 1, 2, 3] rfl) hK (hD.sub [0, 1, 2, 3] (by decide) rfl) hS hal9 hz9 hk9).1⟩, (ct_thr hP hK hD hS hal9 hz9 hk9).2⟩) hS.2.2 (Nat.le_of_ble_eq_true rfl) (Nat.le_of_ble_eq_true rfl)
  · refine lv_iload_n hx hb d_H_size_0 rfl (lv_at hl 1 rfl) ?_
    refine lv_if_lt (tgt := 10) hx hb d_H_size_1 (by decide) (fun hc9 => absurd hc9 (c1)) (fun _ => ?_)
    refine lv_iload_n hx hb d_H_size_4 rfl (lv_at hl 1 rfl) ?_
    refine lv_bipush (v := (nI 8)) hx hb d_H_size_5 (by decide) ?_
    by_cases c2 : x < nI 8
    · have c2n : ¬ nI 8 ≤ x := Int32.not_le.mpr c2
      refine lv_icmp_lt (tgt := 20) hx hb d_H_size_7 (by decide) (fun _ => ?_) (fun hc9 => absurd (c2) hc9)
      refine lv_iload_n hx hb d_H_size_20 rfl (lv_at hl 2 rfl) ?_
      refine lv_iconst (v := (nI 1)) hx hb d_H_size_21 (by decide) ?_
      by_cases c3 : y < nI 1
      · refine lv_icmp_lt (tgt := 30) hx hb d_H_size_22 (by decide) (fun _ => ?_) (fun hc9 => absurd (c3) hc9)
        obtain ⟨sa, hstr⟩ := hXw.2.1 (52, "no such size") (by decide)
        exact vx_throwS (own := R_H) (cls := R_IAE) (text := "no such size") (names := ct_sup) (sa := sa) hx hb hst hown kf_IAE.1 kf_IAE.2 (hts _ (ct_tl kl_IAE)) (hts _ (ct_tl kn_IAE)) hstr (kt_IAE hts hXw) kg_IAE hXw.2.2.1 hXw.2.2.2 hS (hl.1.trans hml.symm) d_H_size_30 d_H_size_33 d_H_size_34 d_H_size_36 d_H_size_39 (fun x hx9 => (htab x hx9).elim) (Nat.le_of_ble_eq_true rfl) (Nat.le_of_ble_eq_true rfl) (Nat.le_of_ble_eq_true rfl) (Nat.le_of_ble_eq_true rfl) hlocks (fun tS hal9 hz9 hk9 => ⟨(), trivial, ⟨Or.inl ⟨by simp [ct_sok, ct_isn, c3], rfl⟩, (ct_thr (hP.sub [0, 1, 2, 3] rfl) hK (hD.sub [0, 1, 2, 3] (by decide) rfl) hS hal9 hz9 hk9).1⟩, (ct_thr hP hK hD hS hal9 hz9 hk9).2⟩) hS.2.2 (Nat.le_of_ble_eq_true rfl) (Nat.le_of_ble_eq_true rfl)
      · refine lv_icmp_lt (tgt := 30) hx hb d_H_size_22 (by decide) (fun hc9 => absurd hc9 (c3)) (fun _ => ?_)
        refine lv_iload_n hx hb d_H_size_25 rfl (lv_at hl 2 rfl) ?_
        refine lv_iconst (v := (nI 3)) hx hb d_H_size_26 (by decide) ?_
        by_cases c4 : y ≤ nI 3
        · refine lv_icmp_le (tgt := 40) hx hb d_H_size_27 (by decide) (fun _ => ?_) (fun hc9 => absurd (c4) hc9)
          have hok : ct_sok x y = true := by simp [ct_sok, ct_isn, c1, c2n, c3, c4]
          obtain ⟨k, v, hk, hxk, hyv, hv0, hv4⟩ := ct_sok_of hok
          rw [hxk, hyv] at hl
          refine lv_aload_n hx hb d_H_size_40 rfl (lv_at hl 0 rfl) ?_
          refine lv_iload_n hx hb d_H_size_41 rfl (lv_at hl 1 rfl) ?_
          refine va_calli (va_runV (As := [.int (nI k)]) (rest := []) ⟨hx, hb, hml, hown, hts⟩ (c_H_aTableHas l dC dI cI h0 z0 p0 r0 k1 k2 k3 k4 T ops res pl sm f lab k hk hT8 hf hlab) (cwV 1 hts (ct_giV (fun w h9 => ct_tl h9) kw_295 kw_297 kw_8 kw_26 kw_298) rfl rfl rfl (by decide +kernel) ⟨Nat.le_of_ble_eq_true rfl, Nat.le_of_ble_eq_true rfl⟩) ⟨ct_ro_blind, va_recv hK hP (ci := 0) (q0 := 0) rfl rfl, ct_ro_pre (hP.sub [0, 1] rfl) hK⟩ rfl rfl hl.1 rfl (lv_room (Nat.le_of_ble_eq_true rfl)) d_H_size_42 ⟨Nat.zero_le _, Nat.zero_le _⟩) hS (fun q _ h9 => h9.elim) (fun q h9 => h9.elim) (fun ans401 uS tS H locs ht hvm hwans401 hB hz1 hk1 hS => ?_)
          have hP := ct_keep hP hk1
          refine ct_val (y := nI (if ct_any lab k T = true then 1 else 0)) (hwans401) ?_
          by_cases ha : ct_any lab k T = true
          · rw [if_pos ha]
            refine lv_if_eq (tgt := 58) hx hb d_H_size_45 (by decide) (fun hc9 => absurd hc9 (nI_ne0 (by omega) (by omega))) (fun _ => ?_)
            obtain ⟨sa, hstr⟩ := hXw.2.1 (60, "a table has the label") (by decide)
            exact vx_throwS (own := R_H) (cls := R_ISE) (text := "a table has the label") (names := ct_sup) (sa := sa) hx hb hst hown kf_ISE.1 kf_ISE.2 (hts _ (ct_tl kl_ISE)) (hts _ (ct_tl kn_ISE)) hstr (kt_ISE hts hXw) kg_ISE hXw.2.2.1 hXw.2.2.2 hS (hl.1.trans hml.symm) d_H_size_48 d_H_size_51 d_H_size_52 d_H_size_54 d_H_size_57 (fun x hx9 => (htab x hx9).elim) (Nat.le_of_ble_eq_true rfl) (Nat.le_of_ble_eq_true rfl) (Nat.le_of_ble_eq_true rfl) (Nat.le_of_ble_eq_true rfl) hlocks (fun tS hal9 hz9 hk9 => ⟨(), trivial, ⟨Or.inr ⟨hok, rfl, k, hk, hxk, ha⟩, (ct_thr (hP.sub [0, 1, 2, 3] rfl) hK (hD.sub [0, 1, 2, 3] (by decide) rfl) hS hal9 hz9 hk9).1⟩, (ct_thr hP hK hD hS hal9 hz9 hk9).2⟩) hS.2.2 (Nat.le_of_ble_eq_true rfl) (Nat.le_of_ble_eq_true rfl)
          · rw [if_neg ha]
            refine lv_if_eq (tgt := 58) hx hb d_H_size_45 (by decide) (fun _ => ?_) (fun hc9 => absurd (nI_0) hc9)
            refine lv_aload_n hx hb d_H_size_58 rfl (lv_at hl 0 rfl) ?_
            refine va_get (D := (dC, dI)) (ci := 0) (v := .ref z0) (C := R_H) (T := T_H) (N := 12) hx hb hts (fun w h9 => ct_tl (ki_H w h9)) hown hK hP 0 rfl rfl 0 (by decide) (hts _ (ct_tl kw_114)) (fun _ h9 => h9) rfl d_H_size_59 ?_
            refine lv_iload_n hx hb d_H_size_62 rfl (lv_at hl 1 rfl) ?_
            refine lv_iload_n hx hb d_H_size_63 rfl (lv_at hl 2 rfl) ?_
            have hPc := hP.sub (ws' := [(z0, .inr (1, [.ref z1])), (z1, .inl (cI, 8, .inl (fun j => nI (sz j))))]) [2, 3] rfl
            have hDc := hD.sub (ws' := [(z0, .inr (1, [.ref z1])), (z1, .inl (cI, 8, .inl (fun j => nI (sz j))))]) [2, 3] (by decide) rfl
            have hFc := va_free (wc := [(z0, .inr (1, [.ref z1])), (z1, .inl (cI, 8, .inl (fun j => nI (sz j))))]) hD hS hA [2, 3] rfl
            refine va_callv (va_runV (As := [.int (nI k), .int (nI v)]) (rest := []) ⟨hx, hb, hml, hown, hts⟩ (c_S_change l dC dI cI z0 z1 sz k v hk H.size) (cwV 2 hts (ct_giV (fun w h9 => ct_tl h9) kw_318 kw_319 kw_320 kw_27 kw_321) rfl rfl rfl (by decide +kernel) ⟨Nat.le_of_ble_eq_true rfl, Nat.le_of_ble_eq_true rfl⟩) ⟨ct_rw_blind, va_recv hK hP (ci := 1) (q0 := 2) rfl rfl, ct_rw_pre hPc hK hDc⟩ rfl rfl hl.1 rfl (lv_room (Nat.le_of_ble_eq_true rfl)) d_H_size_64 ⟨Nat.zero_le _, Nat.zero_le _⟩) hS (fun q _ h9 => hFc q h9) hFc (fun u tS H1 locs ht hvm hw502 hB hz1 hk1 hS => ?_)
            obtain ⟨hP1, -, hD1⟩ := hB
            rw [ht] at hP1
            obtain ⟨hP, hD⟩ := va_join (wr := [(h0, .inr (0, [.ref z0, .ref p0, .ref r0, .int (nI T), .ref k1, .int ops, .ref k2, .ref k3, .int res, .ref k4, .int pl, .int sm])), (k1, .inl (cI, 8, .inl f))]) (w1 := [(z0, .inr (1, [.ref z1])), (z1, .inl (cI, 8, .inl (fun j => nI (ct_st sz k v j))))]) hP hD [2, 3] [0, 1] rfl rfl (by decide) (by decide) hk1 hFc hP1 hD1
            generalize H1 = H at hP hS ⊢
            have hP : va_P (dC, dI) ct_cl [(h0, .inr (0, [.ref z0, .ref p0, .ref r0, .int (nI T), .ref k1, .int ops, .ref k2, .ref k3, .int res, .ref k4, .int pl, .int sm])), (k1, .inl (cI, 8, .inl f)), (z0, .inr (1, [.ref z1])), (z1, .inl (cI, 8, .inl (fun j => nI (ct_st sz k v j))))] H := hP
            have hD : va_D A [(h0, .inr (0, [.ref z0, .ref p0, .ref r0, .int (nI T), .ref k1, .int ops, .ref k2, .ref k3, .int res, .ref k4, .int pl, .int sm])), (k1, .inl (cI, 8, .inl f)), (z0, .inr (1, [.ref z1])), (z1, .inl (cI, 8, .inl (fun j => nI (ct_st sz k v j))))] := hD
            refine lv_aload_n hx hb d_H_size_67 rfl (lv_at hl 0 rfl) ?_
            refine lv_iconst (v := (nI 0)) hx hb d_H_size_68 (by decide) ?_
            refine va_put (D := (dC, dI)) (ci := 0) (v := .int (nI 0)) (ty := .boolean) (C := R_H) (T := T_H) (N := 12) hx hb hts (fun w h9 => ct_tl (ki_H w h9)) ty_H ok_H nm_H hown hK hP hD hS 0 rfl rfl 11 (by decide) (hts _ (ct_tl kw_125)) (fun _ h9 => h9) rfl (by decide +kernel) rfl rfl (Nat.le_of_ble_eq_true rfl) d_H_size_69 (fun H locs hP hD hS => ?_)
            have hP : va_P (dC, dI) ct_cl [(h0, .inr (0, [.ref z0, .ref p0, .ref r0, .int (nI T), .ref k1, .int ops, .ref k2, .ref k3, .int res, .ref k4, .int pl, .int (nI 0)])), (k1, .inl (cI, 8, .inl f)), (z0, .inr (1, [.ref z1])), (z1, .inl (cI, 8, .inl (fun j => nI (ct_st sz k v j))))] H := hP
            have hD : va_D A [(h0, .inr (0, [.ref z0, .ref p0, .ref r0, .int (nI T), .ref k1, .int ops, .ref k2, .ref k3, .int res, .ref k4, .int pl, .int (nI 0)])), (k1, .inl (cI, 8, .inl f)), (z0, .inr (1, [.ref z1])), (z1, .inl (cI, 8, .inl (fun j => nI (ct_st sz k v j))))] := hD
            refine vx_ret ?_
            refine W.widen (k := 1) (n := 6) (Nat.zero_le _) (Nat.zero_le _) ?_
            have hP9 := hP.sub [0, 1, 2, 3] rfl
            exact W.vret hx hb hr (fun tS ht hW => ⟨⟨(ct_st sz k v), rfl, ⟨k, v, hk, hxk, hyv, hv0, hv4, by simpa using ha, hok, rfl⟩, by rw [ht]; exact hP9, va_K.moved hW.alike hK, hD.sub [0, 1, 2, 3] (by decide) rfl⟩, hS.F ht⟩) hS.2.2 d_H_size_72
        · refine lv_icmp_le (tgt := 40) hx hb d_H_size_27 (by decide) (fun hc9 => absurd hc9 (c4)) (fun _ => ?_)
          obtain ⟨sa, hstr⟩ := hXw.2.1 (52, "no such size") (by decide)
          exact vx_throwS (own := R_H) (cls := R_IAE) (text := "no such size") (names := ct_sup) (sa := sa) hx hb hst hown kf_IAE.1 kf_IAE.2 (hts _ (ct_tl kl_IAE)) (hts _ (ct_tl kn_IAE)) hstr (kt_IAE hts hXw) kg_IAE hXw.2.2.1 hXw.2.2.2 hS (hl.1.trans hml.symm) d_H_size_30 d_H_size_33 d_H_size_34 d_H_size_36 d_H_size_39 (fun x hx9 => (htab x hx9).elim) (Nat.le_of_ble_eq_true rfl) (Nat.le_of_ble_eq_true rfl) (Nat.le_of_ble_eq_true rfl) (Nat.le_of_ble_eq_true rfl) hlocks (fun tS hal9 hz9 hk9 => ⟨(), trivial, ⟨Or.inl ⟨by simp [ct_sok, ct_isn, c4], rfl⟩, (ct_thr (hP.sub [0, 1, 2, 3] rfl) hK (hD.sub [0, 1, 2, 3] (by decide) rfl) hS hal9 hz9 hk9).1⟩, (ct_thr hP hK hD hS hal9 hz9 hk9).2⟩) hS.2.2 (Nat.le_of_ble_eq_true rfl) (Nat.le_of_ble_eq_true rfl)
    · have c2n : nI 8 ≤ x := Int32.not_lt.mp c2
      refine lv_icmp_lt (tgt := 20) hx hb d_H_size_7 (by decide) (fun hc9 => absurd hc9 (c2)) (fun _ => ?_)
      obtain ⟨sa, hstr⟩ := hXw.2.1 (47, "no such label") (by decide)
      exact vx_throwS (own := R_H) (cls := R_IAE) (text := "no such label") (names := ct_sup) (sa := sa) hx hb hst hown kf_IAE.1 kf_IAE.2 (hts _ (ct_tl kl_IAE)) (hts _ (ct_tl kn_IAE)) hstr (kt_IAE hts hXw) kg_IAE hXw.2.2.1 hXw.2.2.2 hS (hl.1.trans hml.symm) d_H_size_10 d_H_size_13 d_H_size_14 d_H_size_16 d_H_size_19 (fun x hx9 => (htab x hx9).elim) (Nat.le_of_ble_eq_true rfl) (Nat.le_of_ble_eq_true rfl) (Nat.le_of_ble_eq_true rfl) (Nat.le_of_ble_eq_true rfl) hlocks (fun tS hal9 hz9 hk9 => ⟨(), trivial, ⟨Or.inl ⟨by simp [ct_sok, ct_isn, c2n], rfl⟩, (ct_thr (hP.sub [0, 1, 2, 3] rfl) hK (hD.sub [0, 1, 2, 3] (by decide) rfl) hS hal9 hz9 hk9).1⟩, (ct_thr hP hK hD hS hal9 hz9 hk9).2⟩) hS.2.2 (Nat.le_of_ble_eq_true rfl) (Nat.le_of_ble_eq_true rfl)
set_option maxHeartbeats 4000000 in
set_option maxRecDepth 100000 in
theorem c_H_table (l : Launch) (hst : l.stackTraces = false) (dC : Nat → ClassId) (dI : Nat → Nat → Nat) (cI : ClassId) (h0 z0 p0 r0 k1 k2 k3 k4 : Nat) (T : Nat) (ops res pl sm : Int32) (f : Nat → Int32) (hT8 : T ≤ 8) (a b d : Int32) (sz0 : Nat) : vx_Met l y_H_table w_H_table ({ frames := 6, cells := 1, slots := 6, locals := 90 }) (va_Pc [.ref h0, .int a, .int b, .int d] (ct_rx (dC, dI) ct_cl [(h0, .inr (0, [.ref z0, .ref p0, .ref r0, .int (nI T), .ref k1, .int ops, .ref k2, .ref k3, .int res, .ref k4, .int pl, .int sm])), (k1, .inl (cI, 8, .inl f))] [(cI, .int)] sz0)) (va_Qi (fun (r : Int32) (u : Unit) => r = nI T ∧ T < 8 ∧ ct_al a b d = true) (fun (u : Unit) t => ct_at (dC, dI) ct_cl [(cI, .int)] (va_A [(h0, .inr (0, [.ref z0, .ref p0, .ref r0, .int (nI T), .ref k1, .int ops, .ref k2, .ref k3, .int res, .ref k4, .int pl, .int sm])), (k1, .inl (cI, 8, .inl f))] sz0) [(h0, .inr (0, [.ref z0, .ref p0, .ref r0, .int (nI (T + 1)), .ref k1, .int ops, .ref k2, .ref k3, .int res, .ref k4, .int pl, .int sm])), (k1, .inl (cI, 8, .inl (upd f T (nI (ct_lbs a b d)))))] t) (va_A [(h0, .inr (0, [.ref z0, .ref p0, .ref r0, .int (nI T), .ref k1, .int ops, .ref k2, .ref k3, .int res, .ref k4, .int pl, .int sm])), (k1, .inl (cI, 8, .inl f))] sz0)) (vx_X (fun (_ : Unit) => True) (fun (E : String) (_ : Unit) t => ((ct_al a b d = false ∧ E = R_IAE) ∨ (ct_al a b d = true ∧ T = 8 ∧ E = R_UOE)) ∧ ct_at (dC, dI) ct_cl [(cI, .int)] (va_A [(h0, .inr (0, [.ref z0, .ref p0, .ref r0, .int (nI T), .ref k1, .int ops, .ref k2, .ref k3, .int res, .ref k4, .int pl, .int sm])), (k1, .inl (cI, 8, .inl f))] sz0) [(h0, .inr (0, [.ref z0, .ref p0, .ref r0, .int (nI T), .ref k1, .int ops, .ref k2, .ref k3, .int res, .ref k4, .int pl, .int sm])), (k1, .inl (cI, 8, .inl f))] t) (va_A [(h0, .inr (0, [.ref z0, .ref p0, .ref r0, .int (nI T), .ref k1, .int ops, .ref k2, .ref k3, .int res, .ref k4, .int pl, .int sm])), (k1, .inl (cI, 8, .inl f))] sz0)) 1 6 (va_A [(h0, .inr (0, [.ref z0, .ref p0, .ref r0, .int (nI T), .ref k1, .int ops, .ref k2, .ref k3, .int res, .ref k4, .int pl, .int sm])), (k1, .inl (cI, 8, .inl f))] sz0) := by
  refine vx_ofW (cc := b_H_table) (maxL := 4) (ret := (some .int)) (by decide) rfl ?_
  intro p e s m args below meth c s₁ Bd hml htab hv
  obtain ⟨hargs, ⟨hsz, hP, hK, hD0⟩, hXw⟩ := hv
  have hx := Bd.exec
  have hb := Bd.bytes
  have hr := Bd.returns
  have hts : ∀ w ∈ k_H_table :: ct_tb, w.before args s = true := atoms_spec (ws := w_H_table) Bd.pre
  have hown : s.vm.findClass R_H = some m.cls := findClass_of_methodNamed Bd.named
  have hlocks := Bd.notSynchronized
  subst hsz
  have hD := hD0.self (sz := s.heap.size)
  generalize hAe : va_A [(h0, .inr (0, [.ref z0, .ref p0, .ref r0, .int (nI T), .ref k1, .int ops, .ref k2, .ref k3, .int res, .ref k4, .int pl, .int sm])), (k1, .inl (cI, 8, .inl f))] s.heap.size = A at hD hXw ⊢
  have hA : ∀ q : Nat, s.heap.size ≤ q → A q := fun q h => by rw [← hAe]; exact Or.inr h
  have hS : va_S A s.heap s.heap [] := va_S.rf
  have hl := lv_entry ([.ref h0, .int a, .int b, .int d]) (n := 4) (Nat.le_of_ble_eq_true rfl)
  rw [show entryFrame m args 4 = entryFrame m (([.ref h0, .int a, .int b, .int d] : List Value)).toArray 4 by rw [hargs], lg_entry_eq]
  generalize (lg_sl ([.ref h0, .int a, .int b, .int d]) ++ List.replicate (4 - (lg_sl ([.ref h0, .int a, .int b, .int d])).length) Slot.unset).toArray = ls at hl ⊢
  have hl : lv_has ls 4 [(0, .ref h0), (1, .int a), (2, .int b), (3, .int d)] := hl
  refine lv_iload_n hx hb d_H_table_0 rfl (lv_at hl 1 rfl) ?_
  refine lv_iload_n hx hb d_H_table_1 rfl (lv_at hl 2 rfl) ?_
  refine lv_iload_n hx hb d_H_table_2 rfl (lv_at hl 3 rfl) ?_
  refine va_calli (va_runS (As := [.int a, .int b, .int d]) (rest := []) ⟨hx, hb, hml, hown, hts⟩ (c_H_areLabels l dC dI cI a b d) (va_cwS 3 hts (ct_giT (fun w h9 => ct_tl h9) kw_330 kw_331 kw_26 kw_332) rfl rfl rfl (by decide +kernel) ⟨Nat.le_of_ble_eq_true rfl, Nat.le_of_ble_eq_true rfl⟩) ⟨ct_ro_blind, ct_ro_pre (hP.sub [] rfl) hK⟩ rfl rfl hl.1 rfl (lv_room (Nat.le_of_ble_eq_true rfl)) d_H_table_3 ⟨Nat.zero_le _, Nat.zero_le _⟩) hS (fun q _ h9 => h9.elim) (fun q h9 => h9.elim) (fun ans1 uS tS H locs ht hvm hwans1 hB hz1 hk1 hS => ?_)
  have hP := ct_keep hP hk1
  refine ct_val (y := nI (if ct_al a b d = true then 1 else 0)) (hwans1) ?_
  by_cases hq : ct_al a b d = true
  · rw [if_pos hq]
    refine lv_if_ne (tgt := 19) hx hb d_H_table_6 (by decide) (fun _ => ?_) (fun hc9 => absurd hc9 (nI_ne0 (by omega) (by omega)))
    refine lv_aload_n hx hb d_H_table_19 rfl (lv_at hl 0 rfl) ?_
    refine va_get (D := (dC, dI)) (ci := 0) (v := .int (nI T)) (C := R_H) (T := T_H) (N := 12) hx hb hts (fun w h9 => ct_tl (ki_H w h9)) hown hK hP 0 rfl rfl 3 (by decide) (hts _ (ct_tl kw_117)) (fun _ h9 => h9) rfl d_H_table_20 ?_
    refine lv_bipush (v := (nI 8)) hx hb d_H_table_23 (by decide) ?_
    by_cases h8 : T < 8
    · refine lv_icmp_lt (tgt := 38) hx hb d_H_table_25 (by decide) (fun _ => ?_) (fun hc9 => absurd (nI_lt h8 (by omega)) hc9)
      refine lv_aload_n hx hb d_H_table_38 rfl (lv_at hl 0 rfl) ?_
      refine va_get (D := (dC, dI)) (ci := 0) (v := .ref k1) (C := R_H) (T := T_H) (N := 12) hx hb hts (fun w h9 => ct_tl (ki_H w h9)) hown hK hP 0 rfl rfl 4 (by decide) (hts _ (ct_tl kw_118)) (fun _ h9 => h9) rfl d_H_table_39 ?_
      refine lv_aload_n hx hb d_H_table_42 rfl (lv_at hl 0 rfl) ?_
      refine va_get (D := (dC, dI)) (ci := 0) (v := .int (nI T)) (C := R_H) (T := T_H) (N := 12) hx hb hts (fun w h9 => ct_tl (ki_H w h9)) hown hK hP 0 rfl rfl 3 (by decide) (hts _ (ct_tl kw_117)) (fun _ h9 => h9) rfl d_H_table_43 ?_
      refine lv_iload_n hx hb d_H_table_46 rfl (lv_at hl 1 rfl) ?_
      refine lv_iload_n hx hb d_H_table_47 rfl (lv_at hl 2 rfl) ?_
      refine lv_iload_n hx hb d_H_table_48 rfl (lv_at hl 3 rfl) ?_
      have hisl := ct_al_isl hq
      refine va_calli (va_runS (As := [.int a, .int b, .int d]) (rest := [.int (nI T), .ref k1]) ⟨hx, hb, hml, hown, hts⟩ (c_H_labelBits l dC dI cI a b d hisl.1 hisl.2.1 hisl.2.2) (va_cwS 3 hts (ct_giT (fun w h9 => ct_tl h9) kw_353 kw_354 kw_26 kw_355) rfl rfl rfl (by decide +kernel) ⟨Nat.le_of_ble_eq_true rfl, Nat.le_of_ble_eq_true rfl⟩) ⟨ct_ro_blind, ct_ro_pre (hP.sub [] rfl) hK⟩ rfl rfl hl.1 rfl (lv_room (Nat.le_of_ble_eq_true rfl)) d_H_table_49 ⟨Nat.zero_le _, Nat.zero_le _⟩) hS (fun q _ h9 => h9.elim) (fun q h9 => h9.elim) (fun ans202 uS tS H locs ht hvm hwans202 hB hz1 hk1 hS => ?_)
      have hP := ct_keep hP hk1
      refine ct_val (y := nI (ct_lbs a b d)) (hwans202) ?_
      refine ct_iast hx hb hK hP hD hS 1 0 rfl rfl (j := T) (by omega) (by omega) d_H_table_52 (fun H locs hP hD hS => ?_)
      have hP : va_P (dC, dI) ct_cl [(h0, .inr (0, [.ref z0, .ref p0, .ref r0, .int (nI T), .ref k1, .int ops, .ref k2, .ref k3, .int res, .ref k4, .int pl, .int sm])), (k1, .inl (cI, 8, .inl (upd f T (nI (ct_lbs a b d)))))] H := hP
      have hD : va_D A [(h0, .inr (0, [.ref z0, .ref p0, .ref r0, .int (nI T), .ref k1, .int ops, .ref k2, .ref k3, .int res, .ref k4, .int pl, .int sm])), (k1, .inl (cI, 8, .inl (upd f T (nI (ct_lbs a b d)))))] := hD
      refine lv_aload_n hx hb d_H_table_53 rfl (lv_at hl 0 rfl) ?_
      refine lv_dup hx hb d_H_table_54 rfl ?_
      refine va_get (D := (dC, dI)) (ci := 0) (v := .int (nI T)) (C := R_H) (T := T_H) (N := 12) hx hb hts (fun w h9 => ct_tl (ki_H w h9)) hown hK hP 0 rfl rfl 3 (by decide) (hts _ (ct_tl kw_117)) (fun _ h9 => h9) rfl d_H_table_55 ?_
      refine lv_iconst (v := (nI 1)) hx hb d_H_table_58 (by decide) ?_
      refine lv_iadd hx hb d_H_table_59 ?_
      refine ct_val (y := nI (T + 1)) (nI_1 _) ?_
      refine va_put (D := (dC, dI)) (ci := 0) (v := .int (nI (T + 1))) (ty := .int) (C := R_H) (T := T_H) (N := 12) hx hb hts (fun w h9 => ct_tl (ki_H w h9)) ty_H ok_H nm_H hown hK hP hD hS 0 rfl rfl 3 (by decide) (hts _ (ct_tl kw_117)) (fun _ h9 => h9) rfl (by decide +kernel) rfl rfl (Nat.le_of_ble_eq_true rfl) d_H_table_60 (fun H locs hP hD hS => ?_)
      have hP : va_P (dC, dI) ct_cl [(h0, .inr (0, [.ref z0, .ref p0, .ref r0, .int (nI (T + 1)), .ref k1, .int ops, .ref k2, .ref k3, .int res, .ref k4, .int pl, .int sm])), (k1, .inl (cI, 8, .inl (upd f T (nI (ct_lbs a b d)))))] H := hP
      have hD : va_D A [(h0, .inr (0, [.ref z0, .ref p0, .ref r0, .int (nI (T + 1)), .ref k1, .int ops, .ref k2, .ref k3, .int res, .ref k4, .int pl, .int sm])), (k1, .inl (cI, 8, .inl (upd f T (nI (ct_lbs a b d)))))] := hD
      refine lv_aload_n hx hb d_H_table_63 rfl (lv_at hl 0 rfl) ?_
      refine va_get (D := (dC, dI)) (ci := 0) (v := .int (nI (T + 1))) (C := R_H) (T := T_H) (N := 12) hx hb hts (fun w h9 => ct_tl (ki_H w h9)) hown hK hP 0 rfl rfl 3 (by decide) (hts _ (ct_tl kw_117)) (fun _ h9 => h9) rfl d_H_table_64 ?_
      refine lv_iconst (v := (nI 1)) hx hb d_H_table_67 (by decide) ?_
      refine lv_isub hx hb d_H_table_68 ?_
      refine ct_val (y := nI T) (nI_pred T) ?_
      refine vx_ret ?_
      refine W.widen (k := 1) (n := 6) (Nat.zero_le _) (Nat.zero_le _) ?_
      have hP9 := hP.sub [0, 1] rfl
      exact W.iret (v := (nI T)) hx hb hr (fun tS ht hW => ⟨⟨(nI T), (), rfl, ⟨rfl, h8, hq⟩, by rw [ht]; exact hP9, va_K.moved hW.alike hK, hD.sub [0, 1] (by decide) rfl⟩, hS.F ht⟩) hS.2.2 d_H_table_69
    · refine lv_icmp_lt (tgt := 38) hx hb d_H_table_25 (by decide) (fun hc9 => absurd hc9 (nI_nlt (by omega) (by omega))) (fun _ => ?_)
      obtain ⟨sa, hstr⟩ := hXw.2.1 (83, "there are eight tables") (by decide)
      exact vx_throwS (own := R_H) (cls := R_UOE) (text := "there are eight tables") (names := ct_sup) (sa := sa) hx hb hst hown kf_UOE.1 kf_UOE.2 (hts _ (ct_tl kl_UOE)) (hts _ (ct_tl kn_UOE)) hstr (kt_UOE hts hXw) kg_UOE hXw.2.2.1 hXw.2.2.2 hS (hl.1.trans hml.symm) d_H_table_28 d_H_table_31 d_H_table_32 d_H_table_34 d_H_table_37 (fun x hx9 => (htab x hx9).elim) (Nat.le_of_ble_eq_true rfl) (Nat.le_of_ble_eq_true rfl) (Nat.le_of_ble_eq_true rfl) (Nat.le_of_ble_eq_true rfl) hlocks (fun tS hal9 hz9 hk9 => ⟨(), trivial, ⟨Or.inr ⟨hq, by omega, rfl⟩, (ct_thr (hP.sub [0, 1] rfl) hK (hD.sub [0, 1] (by decide) rfl) hS hal9 hz9 hk9).1⟩, (ct_thr hP hK hD hS hal9 hz9 hk9).2⟩) hS.2.2 (Nat.le_of_ble_eq_true rfl) (Nat.le_of_ble_eq_true rfl)
  · rw [if_neg hq]
    refine lv_if_ne (tgt := 19) hx hb d_H_table_6 (by decide) (fun hc9 => absurd (nI_0) hc9) (fun _ => ?_)
    obtain ⟨sa, hstr⟩ := hXw.2.1 (75, "labels must rise, with NONE behind the last one") (by decide)
    exact vx_throwS (own := R_H) (cls := R_IAE) (text := "labels must rise, with NONE behind the last one") (names := ct_sup) (sa := sa) hx hb hst hown kf_IAE.1 kf_IAE.2 (hts _ (ct_tl kl_IAE)) (hts _ (ct_tl kn_IAE)) hstr (kt_IAE hts hXw) kg_IAE hXw.2.2.1 hXw.2.2.2 hS (hl.1.trans hml.symm) d_H_table_9 d_H_table_12 d_H_table_13 d_H_table_15 d_H_table_18 (fun x hx9 => (htab x hx9).elim) (Nat.le_of_ble_eq_true rfl) (Nat.le_of_ble_eq_true rfl) (Nat.le_of_ble_eq_true rfl) (Nat.le_of_ble_eq_true rfl) hlocks (fun tS hal9 hz9 hk9 => ⟨(), trivial, ⟨Or.inl ⟨by simpa using hq, rfl⟩, (ct_thr (hP.sub [0, 1] rfl) hK (hD.sub [0, 1] (by decide) rfl) hS hal9 hz9 hk9).1⟩, (ct_thr hP hK hD hS hal9 hz9 hk9).2⟩) hS.2.2 (Nat.le_of_ble_eq_true rfl) (Nat.le_of_ble_eq_true rfl)
set_option maxHeartbeats 4000000 in
set_option maxRecDepth 100000 in
theorem c_H_extent (l : Launch) (hst : l.stackTraces = false) (dC : Nat → ClassId) (dI : Nat → Nat → Nat) (cI : ClassId) (z1 : Nat) (sz : Nat → Nat) (h0 z0 p0 r0 k1 k2 k3 k4 : Nat) (T : Nat) (ops res pl sm : Int32) (f : Nat → Int32) (lab : Nat → Nat) (hT8 : T ≤ 8) (hf : ∀ t, t < T → f t = nI (lab t)) (hlab : ∀ t, t < T → lab t < 256) (x : Int32) (sz0 : Nat) : vx_Met l y_H_extent w_H_extent ({ frames := 6, cells := 1, slots := 6, locals := 90 }) (va_Pc [.ref h0, .int x] (ct_rx (dC, dI) ct_cl [(h0, .inr (0, [.ref z0, .ref p0, .ref r0, .int (nI T), .ref k1, .int ops, .ref k2, .ref k3, .int res, .ref k4, .int pl, .int sm])), (k1, .inl (cI, 8, .inl f)), (z0, .inr (1, [.ref z1])), (z1, .inl (cI, 8, .inl (fun j => nI (sz j))))] [(cI, .int)] sz0)) (va_Qi (fun (r : Int32) (u : Unit) => ∃ j : Nat, j < T ∧ x = nI j ∧ r = nI (ct_pr sz (lab j).testBit 8)) (fun (u : Unit) t => ct_at (dC, dI) ct_cl [(cI, .int)] (va_A [(h0, .inr (0, [.ref z0, .ref p0, .ref r0, .int (nI T), .ref k1, .int ops, .ref k2, .ref k3, .int res, .ref k4, .int pl, .int sm])), (k1, .inl (cI, 8, .inl f)), (z0, .inr (1, [.ref z1])), (z1, .inl (cI, 8, .inl (fun j => nI (sz j))))] sz0) [(h0, .inr (0, [.ref z0, .ref p0, .ref r0, .int (nI T), .ref k1, .int ops, .ref k2, .ref k3, .int res, .ref k4, .int pl, .int sm])), (k1, .inl (cI, 8, .inl f)), (z0, .inr (1, [.ref z1])), (z1, .inl (cI, 8, .inl (fun j => nI (sz j))))] t) (va_A [(h0, .inr (0, [.ref z0, .ref p0, .ref r0, .int (nI T), .ref k1, .int ops, .ref k2, .ref k3, .int res, .ref k4, .int pl, .int sm])), (k1, .inl (cI, 8, .inl f)), (z0, .inr (1, [.ref z1])), (z1, .inl (cI, 8, .inl (fun j => nI (sz j))))] sz0)) (vx_X (fun (_ : Unit) => True) (fun (E : String) (_ : Unit) t => (ct_isn T x = false ∧ E = R_IOE) ∧ ct_at (dC, dI) ct_cl [(cI, .int)] (va_A [(h0, .inr (0, [.ref z0, .ref p0, .ref r0, .int (nI T), .ref k1, .int ops, .ref k2, .ref k3, .int res, .ref k4, .int pl, .int sm])), (k1, .inl (cI, 8, .inl f)), (z0, .inr (1, [.ref z1])), (z1, .inl (cI, 8, .inl (fun j => nI (sz j))))] sz0) [(h0, .inr (0, [.ref z0, .ref p0, .ref r0, .int (nI T), .ref k1, .int ops, .ref k2, .ref k3, .int res, .ref k4, .int pl, .int sm])), (k1, .inl (cI, 8, .inl f)), (z0, .inr (1, [.ref z1])), (z1, .inl (cI, 8, .inl (fun j => nI (sz j))))] t) (va_A [(h0, .inr (0, [.ref z0, .ref p0, .ref r0, .int (nI T), .ref k1, .int ops, .ref k2, .ref k3, .int res, .ref k4, .int pl, .int sm])), (k1, .inl (cI, 8, .inl f)), (z0, .inr (1, [.ref z1])), (z1, .inl (cI, 8, .inl (fun j => nI (sz j))))] sz0)) 1 6 (va_A [(h0, .inr (0, [.ref z0, .ref p0, .ref r0, .int (nI T), .ref k1, .int ops, .ref k2, .ref k3, .int res, .ref k4, .int pl, .int sm])), (k1, .inl (cI, 8, .inl f)), (z0, .inr (1, [.ref z1])), (z1, .inl (cI, 8, .inl (fun j => nI (sz j))))] sz0) := by
  refine vx_ofW (cc := b_H_extent) (maxL := 2) (ret := (some .int)) (by decide) rfl ?_
  intro p e s m args below meth c s₁ Bd hml htab hv
  obtain ⟨hargs, ⟨hsz, hP, hK, hD0⟩, hXw⟩ := hv
  have hx := Bd.exec
  have hb := Bd.bytes
  have hr := Bd.returns
  have hts : ∀ w ∈ k_H_extent :: ct_tb, w.before args s = true := atoms_spec (ws := w_H_extent) Bd.pre
  have hown : s.vm.findClass R_H = some m.cls := findClass_of_methodNamed Bd.named
  have hlocks := Bd.notSynchronized
  subst hsz
  have hD := hD0.self (sz := s.heap.size)
  generalize hAe : va_A [(h0, .inr (0, [.ref z0, .ref p0, .ref r0, .int (nI T), .ref k1, .int ops, .ref k2, .ref k3, .int res, .ref k4, .int pl, .int sm])), (k1, .inl (cI, 8, .inl f)), (z0, .inr (1, [.ref z1])), (z1, .inl (cI, 8, .inl (fun j => nI (sz j))))] s.heap.size = A at hD hXw ⊢
  have hA : ∀ q : Nat, s.heap.size ≤ q → A q := fun q h => by rw [← hAe]; exact Or.inr h
  have hS : va_S A s.heap s.heap [] := va_S.rf
  have hl := lv_entry ([.ref h0, .int x]) (n := 2) (Nat.le_of_ble_eq_true rfl)
  rw [show entryFrame m args 2 = entryFrame m (([.ref h0, .int x] : List Value)).toArray 2 by rw [hargs], lg_entry_eq]
  generalize (lg_sl ([.ref h0, .int x]) ++ List.replicate (2 - (lg_sl ([.ref h0, .int x])).length) Slot.unset).toArray = ls at hl ⊢
  have hl : lv_has ls 2 [(0, .ref h0), (1, .int x)] := hl
  refine lv_aload_n hx hb d_H_extent_0 rfl (lv_at hl 0 rfl) ?_
  refine lv_iload_n hx hb d_H_extent_1 rfl (lv_at hl 1 rfl) ?_
  refine va_calli (va_runV (As := [.int x]) (rest := []) ⟨hx, hb, hml, hown, hts⟩ (c_H_isTable l dC dI cI h0 z0 p0 r0 k1 k2 k3 k4 T ops res pl sm x) (cwV 1 hts (ct_giV (fun w h9 => ct_tl h9) kw_364 kw_366 kw_9 kw_26 kw_367) rfl rfl rfl (by decide +kernel) ⟨Nat.le_of_ble_eq_true rfl, Nat.le_of_ble_eq_true rfl⟩) ⟨ct_ro_blind, va_recv hK hP (ci := 0) (q0 := 0) rfl rfl, ct_ro_pre (hP.sub [0] rfl) hK⟩ rfl rfl hl.1 rfl (lv_room (Nat.le_of_ble_eq_true rfl)) d_H_extent_2 ⟨Nat.zero_le _, Nat.zero_le _⟩) hS (fun q _ h9 => h9.elim) (fun q h9 => h9.elim) (fun ans1 uS tS H locs ht hvm hwans1 hB hz1 hk1 hS => ?_)
  have hP := ct_keep hP hk1
  refine ct_val (y := nI (if ct_isn T x = true then 1 else 0)) (hwans1) ?_
  by_cases hq : ct_isn T x = true
  · rw [if_pos hq]
    refine lv_if_ne (tgt := 18) hx hb d_H_extent_5 (by decide) (fun _ => ?_) (fun hc9 => absurd hc9 (nI_ne0 (by omega) (by omega)))
    obtain ⟨j, hj, rfl⟩ := ct_isn_of (by omega) hq
    refine lv_aload_n hx hb d_H_extent_18 rfl (lv_at hl 0 rfl) ?_
    refine va_get (D := (dC, dI)) (ci := 0) (v := .ref z0) (C := R_H) (T := T_H) (N := 12) hx hb hts (fun w h9 => ct_tl (ki_H w h9)) hown hK hP 0 rfl rfl 0 (by decide) (hts _ (ct_tl kw_114)) (fun _ h9 => h9) rfl d_H_extent_19 ?_
    refine lv_aload_n hx hb d_H_extent_22 rfl (lv_at hl 0 rfl) ?_
    refine va_get (D := (dC, dI)) (ci := 0) (v := .ref k1) (C := R_H) (T := T_H) (N := 12) hx hb hts (fun w h9 => ct_tl (ki_H w h9)) hown hK hP 0 rfl rfl 4 (by decide) (hts _ (ct_tl kw_118)) (fun _ h9 => h9) rfl d_H_extent_23 ?_
    refine lv_iload_n hx hb d_H_extent_26 rfl (lv_at hl 1 rfl) ?_
    refine ct_iald hx hb hK hP 1 0 rfl rfl (j := j) (by omega) (by omega) d_H_extent_27 ?_
    refine ct_val (y := nI (lab j)) (hf j hj) ?_
    have hlj := hlab j hj
    refine va_calli (va_runV (As := [.int (nI (lab j))]) (rest := []) ⟨hx, hb, hml, hown, hts⟩ (c_S_choices l dC dI cI z0 z1 sz (lab j) (by omega)) (cwV 1 hts (ct_giV (fun w h9 => ct_tl h9) kw_384 kw_195 kw_196 kw_27 kw_197) rfl rfl rfl (by decide +kernel) ⟨Nat.le_of_ble_eq_true rfl, Nat.le_of_ble_eq_true rfl⟩) ⟨ct_ro_blind, va_recv hK hP (ci := 1) (q0 := 2) rfl rfl, ct_ro_pre (hP.sub [2, 3] rfl) hK⟩ rfl rfl hl.1 rfl (lv_room (Nat.le_of_ble_eq_true rfl)) d_H_extent_28 ⟨Nat.zero_le _, Nat.zero_le _⟩) hS (fun q _ h9 => h9.elim) (fun q h9 => h9.elim) (fun ans102 uS tS H locs ht hvm hwans102 hB hz1 hk1 hS => ?_)
    have hP := ct_keep hP hk1
    refine ct_val (y := nI (ct_pr sz (lab j).testBit 8)) (hwans102) ?_
    refine vx_ret ?_
    refine W.widen (k := 1) (n := 6) (Nat.zero_le _) (Nat.zero_le _) ?_
    have hP9 := hP.sub [0, 1, 2, 3] rfl
    exact W.iret (v := (nI (ct_pr sz (lab j).testBit 8))) hx hb hr (fun tS ht hW => ⟨⟨(nI (ct_pr sz (lab j).testBit 8)), (), rfl, ⟨j, hj, rfl, rfl⟩, by rw [ht]; exact hP9, va_K.moved hW.alike hK, hD.sub [0, 1, 2, 3] (by decide) rfl⟩, hS.F ht⟩) hS.2.2 d_H_extent_31
  · rw [if_neg hq]
    refine lv_if_ne (tgt := 18) hx hb d_H_extent_5 (by decide) (fun hc9 => absurd (nI_0) hc9) (fun _ => ?_)
    obtain ⟨sa, hstr⟩ := hXw.2.1 (95, "no such table") (by decide)
    exact vx_throwS (own := R_H) (cls := R_IOE) (text := "no such table") (names := ct_sup) (sa := sa) hx hb hst hown kf_IOE.1 kf_IOE.2 (hts _ (ct_tl kl_IOE)) (hts _ (ct_tl kn_IOE)) hstr (kt_IOE hts hXw) kg_IOE hXw.2.2.1 hXw.2.2.2 hS (hl.1.trans hml.symm) d_H_extent_8 d_H_extent_11 d_H_extent_12 d_H_extent_14 d_H_extent_17 (fun x hx9 => (htab x hx9).elim) (Nat.le_of_ble_eq_true rfl) (Nat.le_of_ble_eq_true rfl) (Nat.le_of_ble_eq_true rfl) (Nat.le_of_ble_eq_true rfl) hlocks (fun tS hal9 hz9 hk9 => ⟨(), trivial, ⟨⟨by simpa using hq, rfl⟩, (ct_thr (hP.sub [0, 1, 2, 3] rfl) hK (hD.sub [0, 1, 2, 3] (by decide) rfl) hS hal9 hz9 hk9).1⟩, (ct_thr hP hK hD hS hal9 hz9 hk9).2⟩) hS.2.2 (Nat.le_of_ble_eq_true rfl) (Nat.le_of_ble_eq_true rfl)
set_option maxHeartbeats 4000000 in
set_option maxRecDepth 100000 in
theorem c_H_set (l : Launch) (hst : l.stackTraces = false) (dC : Nat → ClassId) (dI : Nat → Nat → Nat) (cI : ClassId) (z1 : Nat) (sz : Nat → Nat) (h0 z0 p0 r0 k1 k2 k3 k4 : Nat) (T : Nat) (ops res pl sm : Int32) (f : Nat → Int32) (lab : Nat → Nat) (hT8 : T ≤ 8) (hf : ∀ t, t < T → f t = nI (lab t)) (hlab : ∀ t, t < T → lab t < 256) (r1 r2 r3 r4 r5 r6 N : Nat) (g : Nat → Int32) (h27 : ∀ t, t < T → ct_pr sz (lab t).testBit 8 ≤ 27) (hN : 244 ≤ N) (hN6 : N ≤ 60000) (x y v : Int32) (sz0 : Nat) : vx_Met l y_H_set w_H_set ({ frames := 6, cells := 1, slots := 6, locals := 90 }) (va_Pc [.ref h0, .int x, .int y, .int v] (ct_rx (dC, dI) ct_cl [(h0, .inr (0, [.ref z0, .ref p0, .ref r0, .int (nI T), .ref k1, .int ops, .ref k2, .ref k3, .int res, .ref k4, .int pl, .int sm])), (k1, .inl (cI, 8, .inl f)), (z0, .inr (1, [.ref z1])), (z1, .inl (cI, 8, .inl (fun j => nI (sz j)))), (r0, .inr (3, [.ref z0, .ref r1, .ref r2, .ref r3, .ref r4, .ref r5, .ref r6])), (r1, .inl (cI, N, .inl g))] [(cI, .int)] sz0)) (va_Qv (fun (u : Nat → Int32) => ∃ j i : Nat, j < T ∧ x = nI j ∧ i < ct_pr sz (lab j).testBit 8 ∧ y = nI i ∧ u = upd g (j * 27 + i) v) (fun (u : Nat → Int32) t => ct_at (dC, dI) ct_cl [(cI, .int)] (va_A [(h0, .inr (0, [.ref z0, .ref p0, .ref r0, .int (nI T), .ref k1, .int ops, .ref k2, .ref k3, .int res, .ref k4, .int pl, .int sm])), (k1, .inl (cI, 8, .inl f)), (z0, .inr (1, [.ref z1])), (z1, .inl (cI, 8, .inl (fun j => nI (sz j)))), (r0, .inr (3, [.ref z0, .ref r1, .ref r2, .ref r3, .ref r4, .ref r5, .ref r6])), (r1, .inl (cI, N, .inl g))] sz0) [(h0, .inr (0, [.ref z0, .ref p0, .ref r0, .int (nI T), .ref k1, .int ops, .ref k2, .ref k3, .int res, .ref k4, .int pl, .int (nI 0)])), (k1, .inl (cI, 8, .inl f)), (z0, .inr (1, [.ref z1])), (z1, .inl (cI, 8, .inl (fun j => nI (sz j)))), (r0, .inr (3, [.ref z0, .ref r1, .ref r2, .ref r3, .ref r4, .ref r5, .ref r6])), (r1, .inl (cI, N, .inl u))] t) (va_A [(h0, .inr (0, [.ref z0, .ref p0, .ref r0, .int (nI T), .ref k1, .int ops, .ref k2, .ref k3, .int res, .ref k4, .int pl, .int sm])), (k1, .inl (cI, 8, .inl f)), (z0, .inr (1, [.ref z1])), (z1, .inl (cI, 8, .inl (fun j => nI (sz j)))), (r0, .inr (3, [.ref z0, .ref r1, .ref r2, .ref r3, .ref r4, .ref r5, .ref r6])), (r1, .inl (cI, N, .inl g))] sz0)) (vx_X (fun (_ : Unit) => True) (fun (E : String) (_ : Unit) t => (E = R_IOE ∧ (ct_isn T x = false ∨ ∃ j : Nat, j < T ∧ x = nI j ∧ ct_isn (ct_pr sz (lab j).testBit 8) y = false)) ∧ ct_at (dC, dI) ct_cl [(cI, .int)] (va_A [(h0, .inr (0, [.ref z0, .ref p0, .ref r0, .int (nI T), .ref k1, .int ops, .ref k2, .ref k3, .int res, .ref k4, .int pl, .int sm])), (k1, .inl (cI, 8, .inl f)), (z0, .inr (1, [.ref z1])), (z1, .inl (cI, 8, .inl (fun j => nI (sz j)))), (r0, .inr (3, [.ref z0, .ref r1, .ref r2, .ref r3, .ref r4, .ref r5, .ref r6])), (r1, .inl (cI, N, .inl g))] sz0) [(h0, .inr (0, [.ref z0, .ref p0, .ref r0, .int (nI T), .ref k1, .int ops, .ref k2, .ref k3, .int res, .ref k4, .int pl, .int sm])), (k1, .inl (cI, 8, .inl f)), (z0, .inr (1, [.ref z1])), (z1, .inl (cI, 8, .inl (fun j => nI (sz j)))), (r0, .inr (3, [.ref z0, .ref r1, .ref r2, .ref r3, .ref r4, .ref r5, .ref r6])), (r1, .inl (cI, N, .inl g))] t) (va_A [(h0, .inr (0, [.ref z0, .ref p0, .ref r0, .int (nI T), .ref k1, .int ops, .ref k2, .ref k3, .int res, .ref k4, .int pl, .int sm])), (k1, .inl (cI, 8, .inl f)), (z0, .inr (1, [.ref z1])), (z1, .inl (cI, 8, .inl (fun j => nI (sz j)))), (r0, .inr (3, [.ref z0, .ref r1, .ref r2, .ref r3, .ref r4, .ref r5, .ref r6])), (r1, .inl (cI, N, .inl g))] sz0)) 1 6 (va_A [(h0, .inr (0, [.ref z0, .ref p0, .ref r0, .int (nI T), .ref k1, .int ops, .ref k2, .ref k3, .int res, .ref k4, .int pl, .int sm])), (k1, .inl (cI, 8, .inl f)), (z0, .inr (1, [.ref z1])), (z1, .inl (cI, 8, .inl (fun j => nI (sz j)))), (r0, .inr (3, [.ref z0, .ref r1, .ref r2, .ref r3, .ref r4, .ref r5, .ref r6])), (r1, .inl (cI, N, .inl g))] sz0) := by
  refine vx_ofW (cc := b_H_set) (maxL := 4) (ret := none) (by decide) rfl ?_
  intro p e s m args below meth c s₁ Bd hml htab hv
  obtain ⟨hargs, ⟨hsz, hP, hK, hD0⟩, hXw⟩ := hv
  have hx := Bd.exec
  have hb := Bd.bytes
  have hr := Bd.returns
  have hts : ∀ w ∈ k_H_set :: ct_tb, w.before args s = true := atoms_spec (ws := w_H_set) Bd.pre
  have hown : s.vm.findClass R_H = some m.cls := findClass_of_methodNamed Bd.named
  have hlocks := Bd.notSynchronized
  subst hsz
  have hD := hD0.self (sz := s.heap.size)
  generalize hAe : va_A [(h0, .inr (0, [.ref z0, .ref p0, .ref r0, .int (nI T), .ref k1, .int ops, .ref k2, .ref k3, .int res, .ref k4, .int pl, .int sm])), (k1, .inl (cI, 8, .inl f)), (z0, .inr (1, [.ref z1])), (z1, .inl (cI, 8, .inl (fun j => nI (sz j)))), (r0, .inr (3, [.ref z0, .ref r1, .ref r2, .ref r3, .ref r4, .ref r5, .ref r6])), (r1, .inl (cI, N, .inl g))] s.heap.size = A at hD hXw ⊢
  have hA : ∀ q : Nat, s.heap.size ≤ q → A q := fun q h => by rw [← hAe]; exact Or.inr h
  have hS : va_S A s.heap s.heap [] := va_S.rf
  have hl := lv_entry ([.ref h0, .int x, .int y, .int v]) (n := 4) (Nat.le_of_ble_eq_true rfl)
  rw [show entryFrame m args 4 = entryFrame m (([.ref h0, .int x, .int y, .int v] : List Value)).toArray 4 by rw [hargs], lg_entry_eq]
  generalize (lg_sl ([.ref h0, .int x, .int y, .int v]) ++ List.replicate (4 - (lg_sl ([.ref h0, .int x, .int y, .int v])).length) Slot.unset).toArray = ls at hl ⊢
  have hl : lv_has ls 4 [(0, .ref h0), (1, .int x), (2, .int y), (3, .int v)] := hl
  refine lv_aload_n hx hb d_H_set_0 rfl (lv_at hl 0 rfl) ?_
  refine lv_iload_n hx hb d_H_set_1 rfl (lv_at hl 1 rfl) ?_
  refine va_calli (va_runV (As := [.int x]) (rest := []) ⟨hx, hb, hml, hown, hts⟩ (c_H_isTable l dC dI cI h0 z0 p0 r0 k1 k2 k3 k4 T ops res pl sm x) (cwV 1 hts (ct_giV (fun w h9 => ct_tl h9) kw_364 kw_366 kw_9 kw_26 kw_367) rfl rfl rfl (by decide +kernel) ⟨Nat.le_of_ble_eq_true rfl, Nat.le_of_ble_eq_true rfl⟩) ⟨ct_ro_blind, va_recv hK hP (ci := 0) (q0 := 0) rfl rfl, ct_ro_pre (hP.sub [0] rfl) hK⟩ rfl rfl hl.1 rfl (lv_room (Nat.le_of_ble_eq_true rfl)) d_H_set_2 ⟨Nat.zero_le _, Nat.zero_le _⟩) hS (fun q _ h9 => h9.elim) (fun q h9 => h9.elim) (fun ans1 uS tS H locs ht hvm hwans1 hB hz1 hk1 hS => ?_)
  have hP := ct_keep hP hk1
  refine ct_val (y := nI (if ct_isn T x = true then 1 else 0)) (hwans1) ?_
  by_cases hq : ct_isn T x = true
  · rw [if_pos hq]
    refine lv_if_ne (tgt := 18) hx hb d_H_set_5 (by decide) (fun _ => ?_) (fun hc9 => absurd hc9 (nI_ne0 (by omega) (by omega)))
    obtain ⟨j, hj, rfl⟩ := ct_isn_of (by omega) hq
    have hlj := hlab j hj
    have h27j := h27 j hj
    refine lv_iload_n hx hb d_H_set_18 rfl (lv_at hl 2 rfl) ?_
    by_cases c1 : y < 0
    · refine lv_if_lt (tgt := 39) hx hb d_H_set_19 (by decide) (fun _ => ?_) (fun hc9 => absurd (c1) hc9)
      obtain ⟨sa, hstr⟩ := hXw.2.1 (102, "no such cell") (by decide)
      exact vx_throwS (own := R_H) (cls := R_IOE) (text := "no such cell") (names := ct_sup) (sa := sa) hx hb hst hown kf_IOE.1 kf_IOE.2 (hts _ (ct_tl kl_IOE)) (hts _ (ct_tl kn_IOE)) hstr (kt_IOE hts hXw) kg_IOE hXw.2.2.1 hXw.2.2.2 hS (hl.1.trans hml.symm) d_H_set_39 d_H_set_42 d_H_set_43 d_H_set_45 d_H_set_48 (fun x hx9 => (htab x hx9).elim) (Nat.le_of_ble_eq_true rfl) (Nat.le_of_ble_eq_true rfl) (Nat.le_of_ble_eq_true rfl) (Nat.le_of_ble_eq_true rfl) hlocks (fun tS hal9 hz9 hk9 => ⟨(), trivial, ⟨⟨rfl, Or.inr ⟨j, hj, rfl, by simp [ct_isn, c1]⟩⟩, (ct_thr (hP.sub [0, 1, 2, 3, 4, 5] rfl) hK (hD.sub [0, 1, 2, 3, 4, 5] (by decide) rfl) hS hal9 hz9 hk9).1⟩, (ct_thr hP hK hD hS hal9 hz9 hk9).2⟩) hS.2.2 (Nat.le_of_ble_eq_true rfl) (Nat.le_of_ble_eq_true rfl)
    · refine lv_if_lt (tgt := 39) hx hb d_H_set_19 (by decide) (fun hc9 => absurd hc9 (c1)) (fun _ => ?_)
      refine lv_iload_n hx hb d_H_set_22 rfl (lv_at hl 2 rfl) ?_
      refine lv_aload_n hx hb d_H_set_23 rfl (lv_at hl 0 rfl) ?_
      refine va_get (D := (dC, dI)) (ci := 0) (v := .ref z0) (C := R_H) (T := T_H) (N := 12) hx hb hts (fun w h9 => ct_tl (ki_H w h9)) hown hK hP 0 rfl rfl 0 (by decide) (hts _ (ct_tl kw_114)) (fun _ h9 => h9) rfl d_H_set_24 ?_
      refine lv_aload_n hx hb d_H_set_27 rfl (lv_at hl 0 rfl) ?_
      refine va_get (D := (dC, dI)) (ci := 0) (v := .ref k1) (C := R_H) (T := T_H) (N := 12) hx hb hts (fun w h9 => ct_tl (ki_H w h9)) hown hK hP 0 rfl rfl 4 (by decide) (hts _ (ct_tl kw_118)) (fun _ h9 => h9) rfl d_H_set_28 ?_
      refine lv_iload_n hx hb d_H_set_31 rfl (lv_at hl 1 rfl) ?_
      refine ct_iald hx hb hK hP 1 0 rfl rfl (j := j) (by omega) (by omega) d_H_set_32 ?_
      refine ct_val (y := nI (lab j)) (hf j hj) ?_
      refine va_calli (va_runV (As := [.int (nI (lab j))]) (rest := [.int y]) ⟨hx, hb, hml, hown, hts⟩ (c_S_choices l dC dI cI z0 z1 sz (lab j) (by omega)) (cwV 1 hts (ct_giV (fun w h9 => ct_tl h9) kw_384 kw_195 kw_196 kw_27 kw_197) rfl rfl rfl (by decide +kernel) ⟨Nat.le_of_ble_eq_true rfl, Nat.le_of_ble_eq_true rfl⟩) ⟨ct_ro_blind, va_recv hK hP (ci := 1) (q0 := 2) rfl rfl, ct_ro_pre (hP.sub [2, 3] rfl) hK⟩ rfl rfl hl.1 rfl (lv_room (Nat.le_of_ble_eq_true rfl)) d_H_set_33 ⟨Nat.zero_le _, Nat.zero_le _⟩) hS (fun q _ h9 => h9.elim) (fun q h9 => h9.elim) (fun ans202 uS tS H locs ht hvm hwans202 hB hz1 hk1 hS => ?_)
      have hP := ct_keep hP hk1
      refine ct_val (y := nI (ct_pr sz (lab j).testBit 8)) (hwans202) ?_
      by_cases c2 : y < nI (ct_pr sz (lab j).testBit 8)
      · refine lv_icmp_lt (tgt := 49) hx hb d_H_set_36 (by decide) (fun _ => ?_) (fun hc9 => absurd (c2) hc9)
        obtain ⟨i, hi, rfl⟩ := ct_isn_of (n := ct_pr sz (lab j).testBit 8) (by omega) (x := y) (by simp [ct_isn, c1, Int32.not_le.mpr c2])
        refine lv_aload_n hx hb d_H_set_49 rfl (lv_at hl 0 rfl) ?_
        refine va_get (D := (dC, dI)) (ci := 0) (v := .ref r0) (C := R_H) (T := T_H) (N := 12) hx hb hts (fun w h9 => ct_tl (ki_H w h9)) hown hK hP 0 rfl rfl 2 (by decide) (hts _ (ct_tl kw_116)) (fun _ h9 => h9) rfl d_H_set_50 ?_
        refine lv_iload_n hx hb d_H_set_53 rfl (lv_at hl 1 rfl) ?_
        refine va_calli (va_runS (As := [.int (nI j)]) (rest := [.ref r0]) ⟨hx, hb, hml, hown, hts⟩ (c_H_homeOfTable l dC dI cI j) (va_cwS 1 hts (ct_giT (fun w h9 => ct_tl h9) kw_386 kw_387 kw_26 kw_388) rfl rfl rfl (by decide +kernel) ⟨Nat.le_of_ble_eq_true rfl, Nat.le_of_ble_eq_true rfl⟩) ⟨ct_ro_blind, ct_ro_pre (hP.sub [] rfl) hK⟩ rfl rfl hl.1 rfl (lv_room (Nat.le_of_ble_eq_true rfl)) d_H_set_54 ⟨Nat.zero_le _, Nat.zero_le _⟩) hS (fun q _ h9 => h9.elim) (fun q h9 => h9.elim) (fun ans303 uS tS H locs ht hvm hwans303 hB hz1 hk1 hS => ?_)
        have hP := ct_keep hP hk1
        refine ct_val (y := nI (j * 27)) (hwans303) ?_
        refine lv_iload_n hx hb d_H_set_57 rfl (lv_at hl 2 rfl) ?_
        refine lv_iadd hx hb d_H_set_58 ?_
        refine ct_val (y := nI (j * 27 + i)) (nI_add _ _) ?_
        refine lv_iload_n hx hb d_H_set_59 rfl (lv_at hl 3 rfl) ?_
        have hPc := hP.sub (ws' := [(r0, .inr (3, [.ref z0, .ref r1, .ref r2, .ref r3, .ref r4, .ref r5, .ref r6])), (r1, .inl (cI, N, .inl g))]) [4, 5] rfl
        have hDc := hD.sub (ws' := [(r0, .inr (3, [.ref z0, .ref r1, .ref r2, .ref r3, .ref r4, .ref r5, .ref r6])), (r1, .inl (cI, N, .inl g))]) [4, 5] (by decide) rfl
        have hFc := va_free (wc := [(r0, .inr (3, [.ref z0, .ref r1, .ref r2, .ref r3, .ref r4, .ref r5, .ref r6])), (r1, .inl (cI, N, .inl g))]) hD hS hA [4, 5] rfl
        refine va_callv (va_runV (As := [.int (nI (j * 27 + i)), .int v]) (rest := []) ⟨hx, hb, hml, hown, hts⟩ (c_R_write l dC dI cI z0 r0 r1 r2 r3 r4 r5 r6 N g (j * 27 + i) v (by omega) (by omega) H.size) (cwV 2 hts (ct_giV (fun w h9 => ct_tl h9) kw_389 kw_390 kw_391 kw_29 kw_392) rfl rfl rfl (by decide +kernel) ⟨Nat.le_of_ble_eq_true rfl, Nat.le_of_ble_eq_true rfl⟩) ⟨ct_rw_blind, va_recv hK hP (ci := 3) (q0 := 4) rfl rfl, ct_rw_pre hPc hK hDc⟩ rfl rfl hl.1 rfl (lv_room (Nat.le_of_ble_eq_true rfl)) d_H_set_60 ⟨Nat.zero_le _, Nat.zero_le _⟩) hS (fun q _ h9 => hFc q h9) hFc (fun u tS H1 locs ht hvm hw304 hB hz1 hk1 hS => ?_)
        obtain ⟨hP1, -, hD1⟩ := hB
        rw [ht] at hP1
        obtain ⟨hP, hD⟩ := va_join (wr := [(h0, .inr (0, [.ref z0, .ref p0, .ref r0, .int (nI T), .ref k1, .int ops, .ref k2, .ref k3, .int res, .ref k4, .int pl, .int sm])), (k1, .inl (cI, 8, .inl f)), (z0, .inr (1, [.ref z1])), (z1, .inl (cI, 8, .inl (fun j => nI (sz j))))]) (w1 := [(r0, .inr (3, [.ref z0, .ref r1, .ref r2, .ref r3, .ref r4, .ref r5, .ref r6])), (r1, .inl (cI, N, .inl (upd g (j * 27 + i) v)))]) hP hD [4, 5] [0, 1, 2, 3] rfl rfl (by decide) (by decide) hk1 hFc hP1 hD1
        generalize H1 = H at hP hS ⊢
        have hP : va_P (dC, dI) ct_cl [(h0, .inr (0, [.ref z0, .ref p0, .ref r0, .int (nI T), .ref k1, .int ops, .ref k2, .ref k3, .int res, .ref k4, .int pl, .int sm])), (k1, .inl (cI, 8, .inl f)), (z0, .inr (1, [.ref z1])), (z1, .inl (cI, 8, .inl (fun j => nI (sz j)))), (r0, .inr (3, [.ref z0, .ref r1, .ref r2, .ref r3, .ref r4, .ref r5, .ref r6])), (r1, .inl (cI, N, .inl (upd g (j * 27 + i) v)))] H := hP
        have hD : va_D A [(h0, .inr (0, [.ref z0, .ref p0, .ref r0, .int (nI T), .ref k1, .int ops, .ref k2, .ref k3, .int res, .ref k4, .int pl, .int sm])), (k1, .inl (cI, 8, .inl f)), (z0, .inr (1, [.ref z1])), (z1, .inl (cI, 8, .inl (fun j => nI (sz j)))), (r0, .inr (3, [.ref z0, .ref r1, .ref r2, .ref r3, .ref r4, .ref r5, .ref r6])), (r1, .inl (cI, N, .inl (upd g (j * 27 + i) v)))] := hD
        refine lv_aload_n hx hb d_H_set_63 rfl (lv_at hl 0 rfl) ?_
        refine lv_iconst (v := (nI 0)) hx hb d_H_set_64 (by decide) ?_
        refine va_put (D := (dC, dI)) (ci := 0) (v := .int (nI 0)) (ty := .boolean) (C := R_H) (T := T_H) (N := 12) hx hb hts (fun w h9 => ct_tl (ki_H w h9)) ty_H ok_H nm_H hown hK hP hD hS 0 rfl rfl 11 (by decide) (hts _ (ct_tl kw_125)) (fun _ h9 => h9) rfl (by decide +kernel) rfl rfl (Nat.le_of_ble_eq_true rfl) d_H_set_65 (fun H locs hP hD hS => ?_)
        have hP : va_P (dC, dI) ct_cl [(h0, .inr (0, [.ref z0, .ref p0, .ref r0, .int (nI T), .ref k1, .int ops, .ref k2, .ref k3, .int res, .ref k4, .int pl, .int (nI 0)])), (k1, .inl (cI, 8, .inl f)), (z0, .inr (1, [.ref z1])), (z1, .inl (cI, 8, .inl (fun j => nI (sz j)))), (r0, .inr (3, [.ref z0, .ref r1, .ref r2, .ref r3, .ref r4, .ref r5, .ref r6])), (r1, .inl (cI, N, .inl (upd g (j * 27 + i) v)))] H := hP
        have hD : va_D A [(h0, .inr (0, [.ref z0, .ref p0, .ref r0, .int (nI T), .ref k1, .int ops, .ref k2, .ref k3, .int res, .ref k4, .int pl, .int (nI 0)])), (k1, .inl (cI, 8, .inl f)), (z0, .inr (1, [.ref z1])), (z1, .inl (cI, 8, .inl (fun j => nI (sz j)))), (r0, .inr (3, [.ref z0, .ref r1, .ref r2, .ref r3, .ref r4, .ref r5, .ref r6])), (r1, .inl (cI, N, .inl (upd g (j * 27 + i) v)))] := hD
        refine vx_ret ?_
        refine W.widen (k := 1) (n := 6) (Nat.zero_le _) (Nat.zero_le _) ?_
        have hP9 := hP.sub [0, 1, 2, 3, 4, 5] rfl
        exact W.vret hx hb hr (fun tS ht hW => ⟨⟨(upd g (j * 27 + i) v), rfl, ⟨j, i, hj, rfl, hi, rfl, rfl⟩, by rw [ht]; exact hP9, va_K.moved hW.alike hK, hD.sub [0, 1, 2, 3, 4, 5] (by decide) rfl⟩, hS.F ht⟩) hS.2.2 d_H_set_68
      · refine lv_icmp_lt (tgt := 49) hx hb d_H_set_36 (by decide) (fun hc9 => absurd hc9 (c2)) (fun _ => ?_)
        obtain ⟨sa, hstr⟩ := hXw.2.1 (102, "no such cell") (by decide)
        exact vx_throwS (own := R_H) (cls := R_IOE) (text := "no such cell") (names := ct_sup) (sa := sa) hx hb hst hown kf_IOE.1 kf_IOE.2 (hts _ (ct_tl kl_IOE)) (hts _ (ct_tl kn_IOE)) hstr (kt_IOE hts hXw) kg_IOE hXw.2.2.1 hXw.2.2.2 hS (hl.1.trans hml.symm) d_H_set_39 d_H_set_42 d_H_set_43 d_H_set_45 d_H_set_48 (fun x hx9 => (htab x hx9).elim) (Nat.le_of_ble_eq_true rfl) (Nat.le_of_ble_eq_true rfl) (Nat.le_of_ble_eq_true rfl) (Nat.le_of_ble_eq_true rfl) hlocks (fun tS hal9 hz9 hk9 => ⟨(), trivial, ⟨⟨rfl, Or.inr ⟨j, hj, rfl, by simp [ct_isn, Int32.not_lt.mp c2]⟩⟩, (ct_thr (hP.sub [0, 1, 2, 3, 4, 5] rfl) hK (hD.sub [0, 1, 2, 3, 4, 5] (by decide) rfl) hS hal9 hz9 hk9).1⟩, (ct_thr hP hK hD hS hal9 hz9 hk9).2⟩) hS.2.2 (Nat.le_of_ble_eq_true rfl) (Nat.le_of_ble_eq_true rfl)
  · rw [if_neg hq]
    refine lv_if_ne (tgt := 18) hx hb d_H_set_5 (by decide) (fun hc9 => absurd (nI_0) hc9) (fun _ => ?_)
    obtain ⟨sa, hstr⟩ := hXw.2.1 (95, "no such table") (by decide)
    exact vx_throwS (own := R_H) (cls := R_IOE) (text := "no such table") (names := ct_sup) (sa := sa) hx hb hst hown kf_IOE.1 kf_IOE.2 (hts _ (ct_tl kl_IOE)) (hts _ (ct_tl kn_IOE)) hstr (kt_IOE hts hXw) kg_IOE hXw.2.2.1 hXw.2.2.2 hS (hl.1.trans hml.symm) d_H_set_8 d_H_set_11 d_H_set_12 d_H_set_14 d_H_set_17 (fun x hx9 => (htab x hx9).elim) (Nat.le_of_ble_eq_true rfl) (Nat.le_of_ble_eq_true rfl) (Nat.le_of_ble_eq_true rfl) (Nat.le_of_ble_eq_true rfl) hlocks (fun tS hal9 hz9 hk9 => ⟨(), trivial, ⟨⟨rfl, Or.inl (by simpa using hq)⟩, (ct_thr (hP.sub [0, 1, 2, 3, 4, 5] rfl) hK (hD.sub [0, 1, 2, 3, 4, 5] (by decide) rfl) hS hal9 hz9 hk9).1⟩, (ct_thr hP hK hD hS hal9 hz9 hk9).2⟩) hS.2.2 (Nat.le_of_ble_eq_true rfl) (Nat.le_of_ble_eq_true rfl)
set_option maxHeartbeats 4000000 in
set_option maxRecDepth 100000 in
theorem c_H_clear (l : Launch) (dC : Nat → ClassId) (dI : Nat → Nat → Nat) (cI : ClassId) (h0 z0 p0 r0 k1 k2 k3 k4 : Nat) (tab ops res pl sm : Int32) (sz0 : Nat) : Met l y_H_clear w_H_clear ({ frames := 1, cells := 0, slots := 0, locals := 20 }) (va_Pc [.ref h0] (ct_rw (dC, dI) ct_cl [(h0, .inr (0, [.ref z0, .ref p0, .ref r0, .int tab, .ref k1, .int ops, .ref k2, .ref k3, .int res, .ref k4, .int pl, .int sm]))] [(cI, .int)] sz0)) (va_Qv (fun (u : Unit) => True) (fun (u : Unit) t => ct_at (dC, dI) ct_cl [(cI, .int)] (va_A [(h0, .inr (0, [.ref z0, .ref p0, .ref r0, .int tab, .ref k1, .int ops, .ref k2, .ref k3, .int res, .ref k4, .int pl, .int sm]))] sz0) [(h0, .inr (0, [.ref z0, .ref p0, .ref r0, .int tab, .ref k1, .int (nI 0), .ref k2, .ref k3, .int (nI 0), .ref k4, .int (nI 0), .int (nI 0)]))] t) (va_A [(h0, .inr (0, [.ref z0, .ref p0, .ref r0, .int tab, .ref k1, .int ops, .ref k2, .ref k3, .int res, .ref k4, .int pl, .int sm]))] sz0)) 0 0 (va_A [(h0, .inr (0, [.ref z0, .ref p0, .ref r0, .int tab, .ref k1, .int ops, .ref k2, .ref k3, .int res, .ref k4, .int pl, .int sm]))] sz0) := by
  refine Met.ofW (cc := b_H_clear) (maxL := 1) (ret := none) (by decide) rfl ?_
  intro p e s m args below meth c s₁ Bd hml hv
  obtain ⟨hargs, hsz, hP, hK, hD0⟩ := hv
  have hx := Bd.exec
  have hb := Bd.bytes
  have hr := Bd.returns
  have hts : ∀ w ∈ k_H_clear :: ct_tb, w.before args s = true := atoms_spec (ws := w_H_clear) Bd.pre
  have hown : s.vm.findClass R_H = some m.cls := findClass_of_methodNamed Bd.named
  have hlocks := Bd.notSynchronized
  subst hsz
  have hD := hD0.self (sz := s.heap.size)
  generalize hAe : va_A [(h0, .inr (0, [.ref z0, .ref p0, .ref r0, .int tab, .ref k1, .int ops, .ref k2, .ref k3, .int res, .ref k4, .int pl, .int sm]))] s.heap.size = A at hD ⊢
  have hA : ∀ q : Nat, s.heap.size ≤ q → A q := fun q h => by rw [← hAe]; exact Or.inr h
  have hS : va_S A s.heap s.heap [] := va_S.rf
  have hl := lv_entry ([.ref h0]) (n := 1) (Nat.le_of_ble_eq_true rfl)
  rw [show entryFrame m args 1 = entryFrame m (([.ref h0] : List Value)).toArray 1 by rw [hargs], lg_entry_eq]
  generalize (lg_sl ([.ref h0]) ++ List.replicate (1 - (lg_sl ([.ref h0])).length) Slot.unset).toArray = ls at hl ⊢
  have hl : lv_has ls 1 [(0, .ref h0)] := hl
  refine lv_aload_n hx hb d_H_clear_0 rfl (lv_at hl 0 rfl) ?_
  refine lv_iconst (v := (nI 0)) hx hb d_H_clear_1 (by decide) ?_
  refine va_put (D := (dC, dI)) (ci := 0) (v := .int (nI 0)) (ty := .int) (C := R_H) (T := T_H) (N := 12) hx hb hts (fun w h9 => ct_tl (ki_H w h9)) ty_H ok_H nm_H hown hK hP hD hS 0 rfl rfl 5 (by decide) (hts _ (ct_tl kw_119)) (fun _ h9 => h9) rfl (by decide +kernel) rfl rfl (Nat.le_of_ble_eq_true rfl) d_H_clear_2 (fun H locs hP hD hS => ?_)
  have hP : va_P (dC, dI) ct_cl [(h0, .inr (0, [.ref z0, .ref p0, .ref r0, .int tab, .ref k1, .int (nI 0), .ref k2, .ref k3, .int res, .ref k4, .int pl, .int sm]))] H := hP
  have hD : va_D A [(h0, .inr (0, [.ref z0, .ref p0, .ref r0, .int tab, .ref k1, .int (nI 0), .ref k2, .ref k3, .int res, .ref k4, .int pl, .int sm]))] := hD
  refine lv_aload_n hx hb d_H_clear_5 rfl (lv_at hl 0 rfl) ?_
  refine lv_iconst (v := (nI 0)) hx hb d_H_clear_6 (by decide) ?_
  refine va_put (D := (dC, dI)) (ci := 0) (v := .int (nI 0)) (ty := .int) (C := R_H) (T := T_H) (N := 12) hx hb hts (fun w h9 => ct_tl (ki_H w h9)) ty_H ok_H nm_H hown hK hP hD hS 0 rfl rfl 8 (by decide) (hts _ (ct_tl kw_122)) (fun _ h9 => h9) rfl (by decide +kernel) rfl rfl (Nat.le_of_ble_eq_true rfl) d_H_clear_7 (fun H locs hP hD hS => ?_)
  have hP : va_P (dC, dI) ct_cl [(h0, .inr (0, [.ref z0, .ref p0, .ref r0, .int tab, .ref k1, .int (nI 0), .ref k2, .ref k3, .int (nI 0), .ref k4, .int pl, .int sm]))] H := hP
  have hD : va_D A [(h0, .inr (0, [.ref z0, .ref p0, .ref r0, .int tab, .ref k1, .int (nI 0), .ref k2, .ref k3, .int (nI 0), .ref k4, .int pl, .int sm]))] := hD
  refine lv_aload_n hx hb d_H_clear_10 rfl (lv_at hl 0 rfl) ?_
  have hPc := hP.sub (ws' := [(h0, .inr (0, [.ref z0, .ref p0, .ref r0, .int tab, .ref k1, .int (nI 0), .ref k2, .ref k3, .int (nI 0), .ref k4, .int pl, .int sm]))]) [0] rfl
  have hDc := hD.sub (ws' := [(h0, .inr (0, [.ref z0, .ref p0, .ref r0, .int tab, .ref k1, .int (nI 0), .ref k2, .ref k3, .int (nI 0), .ref k4, .int pl, .int sm]))]) [0] (by decide) rfl
  have hFc := va_free (wc := [(h0, .inr (0, [.ref z0, .ref p0, .ref r0, .int tab, .ref k1, .int (nI 0), .ref k2, .ref k3, .int (nI 0), .ref k4, .int pl, .int sm]))]) hD hS hA [0] rfl
  refine va_callv (va_runV (As := []) (rest := []) ⟨hx, hb, hml, hown, hts⟩ (c_H_forgetPlan l dC dI cI h0 z0 p0 r0 k1 k2 k3 k4 tab (nI 0) (nI 0) pl sm H.size) (cwV 0 hts (ct_giV (fun w h9 => ct_tl h9) kw_155 kw_157 kw_0 kw_26 kw_158) rfl rfl rfl (by decide +kernel) ⟨Nat.le_of_ble_eq_true rfl, Nat.le_of_ble_eq_true rfl⟩) ⟨ct_rw_blind, va_recv hK hP (ci := 0) (q0 := 0) rfl rfl, ct_rw_pre hPc hK hDc⟩ rfl rfl hl.1 rfl (lv_room (Nat.le_of_ble_eq_true rfl)) d_H_clear_11 ⟨Nat.le_of_ble_eq_true rfl, Nat.le_of_ble_eq_true rfl⟩) hS (fun q _ h9 => hFc q h9) hFc (fun u tS H1 locs ht hvm hw1 hB hz1 hk1 hS => ?_)
  obtain ⟨hP1, -, hD1⟩ := hB
  rw [ht] at hP1
  obtain ⟨hP, hD⟩ := va_join (wr := []) (w1 := [(h0, .inr (0, [.ref z0, .ref p0, .ref r0, .int tab, .ref k1, .int (nI 0), .ref k2, .ref k3, .int (nI 0), .ref k4, .int (nI 0), .int (nI 0)]))]) hP hD [0] [] rfl rfl (by decide) (by decide) hk1 hFc hP1 hD1
  generalize H1 = H at hP hS ⊢
  have hP : va_P (dC, dI) ct_cl [(h0, .inr (0, [.ref z0, .ref p0, .ref r0, .int tab, .ref k1, .int (nI 0), .ref k2, .ref k3, .int (nI 0), .ref k4, .int (nI 0), .int (nI 0)]))] H := hP
  have hD : va_D A [(h0, .inr (0, [.ref z0, .ref p0, .ref r0, .int tab, .ref k1, .int (nI 0), .ref k2, .ref k3, .int (nI 0), .ref k4, .int (nI 0), .int (nI 0)]))] := hD
  have hP9 := hP.sub [0] rfl
  exact W.vret hx hb hr (fun tS ht hW => ⟨⟨(), rfl, trivial, by rw [ht]; exact hP9, va_K.moved hW.alike hK, hD.sub [0] (by decide) rfl⟩, hS.F ht⟩) hS.2.2 d_H_clear_14
set_option maxHeartbeats 4000000 in
set_option maxRecDepth 100000 in
theorem c_H_operand (l : Launch) (hst : l.stackTraces = false) (dC : Nat → ClassId) (dI : Nat → Nat → Nat) (cI : ClassId) (h0 z0 p0 r0 k1 k2 k3 k4 : Nat) (T K : Nat) (res pl sm : Int32) (f fot fol : Nat → Int32) (lab : Nat → Nat) (hT8 : T ≤ 8) (hK6 : K ≤ 6) (hf : ∀ t, t < T → f t = nI (lab t)) (x : Int32) (sz0 : Nat) : vx_Met l y_H_operand w_H_operand ({ frames := 6, cells := 1, slots := 6, locals := 90 }) (va_Pc [.ref h0, .int x] (ct_rx (dC, dI) ct_cl [(h0, .inr (0, [.ref z0, .ref p0, .ref r0, .int (nI T), .ref k1, .int (nI K), .ref k2, .ref k3, .int res, .ref k4, .int pl, .int sm])), (k1, .inl (cI, 8, .inl f)), (k2, .inl (cI, 6, .inl fot)), (k3, .inl (cI, 6, .inl fol))] [(cI, .int)] sz0)) (va_Qi (fun (r : Int32) (u : Nat) => u < T ∧ x = nI u ∧ K < 6 ∧ r = nI K) (fun (u : Nat) t => ct_at (dC, dI) ct_cl [(cI, .int)] (va_A [(h0, .inr (0, [.ref z0, .ref p0, .ref r0, .int (nI T), .ref k1, .int (nI K), .ref k2, .ref k3, .int res, .ref k4, .int pl, .int sm])), (k1, .inl (cI, 8, .inl f)), (k2, .inl (cI, 6, .inl fot)), (k3, .inl (cI, 6, .inl fol))] sz0) [(h0, .inr (0, [.ref z0, .ref p0, .ref r0, .int (nI T), .ref k1, .int (nI (K + 1)), .ref k2, .ref k3, .int res, .ref k4, .int (nI 0), .int (nI 0)])), (k1, .inl (cI, 8, .inl f)), (k2, .inl (cI, 6, .inl (upd fot K (nI u)))), (k3, .inl (cI, 6, .inl (upd fol K (nI (lab u)))))] t) (va_A [(h0, .inr (0, [.ref z0, .ref p0, .ref r0, .int (nI T), .ref k1, .int (nI K), .ref k2, .ref k3, .int res, .ref k4, .int pl, .int sm])), (k1, .inl (cI, 8, .inl f)), (k2, .inl (cI, 6, .inl fot)), (k3, .inl (cI, 6, .inl fol))] sz0)) (vx_X (fun (_ : Unit) => True) (fun (E : String) (_ : Unit) t => ((ct_isn T x = false ∧ E = R_IOE) ∨ (ct_isn T x = true ∧ K = 6 ∧ E = R_UOE)) ∧ ct_at (dC, dI) ct_cl [(cI, .int)] (va_A [(h0, .inr (0, [.ref z0, .ref p0, .ref r0, .int (nI T), .ref k1, .int (nI K), .ref k2, .ref k3, .int res, .ref k4, .int pl, .int sm])), (k1, .inl (cI, 8, .inl f)), (k2, .inl (cI, 6, .inl fot)), (k3, .inl (cI, 6, .inl fol))] sz0) [(h0, .inr (0, [.ref z0, .ref p0, .ref r0, .int (nI T), .ref k1, .int (nI K), .ref k2, .ref k3, .int res, .ref k4, .int pl, .int sm])), (k1, .inl (cI, 8, .inl f)), (k2, .inl (cI, 6, .inl fot)), (k3, .inl (cI, 6, .inl fol))] t) (va_A [(h0, .inr (0, [.ref z0, .ref p0, .ref r0, .int (nI T), .ref k1, .int (nI K), .ref k2, .ref k3, .int res, .ref k4, .int pl, .int sm])), (k1, .inl (cI, 8, .inl f)), (k2, .inl (cI, 6, .inl fot)), (k3, .inl (cI, 6, .inl fol))] sz0)) 1 6 (va_A [(h0, .inr (0, [.ref z0, .ref p0, .ref r0, .int (nI T), .ref k1, .int (nI K), .ref k2, .ref k3, .int res, .ref k4, .int pl, .int sm])), (k1, .inl (cI, 8, .inl f)), (k2, .inl (cI, 6, .inl fot)), (k3, .inl (cI, 6, .inl fol))] sz0) := by
  refine vx_ofW (cc := b_H_operand) (maxL := 2) (ret := (some .int)) (by decide) rfl ?_
  intro p e s m args below meth c s₁ Bd hml htab hv
  obtain ⟨hargs, ⟨hsz, hP, hK, hD0⟩, hXw⟩ := hv
  have hx := Bd.exec
  have hb := Bd.bytes
  have hr := Bd.returns
  have hts : ∀ w ∈ k_H_operand :: ct_tb, w.before args s = true := atoms_spec (ws := w_H_operand) Bd.pre
  have hown : s.vm.findClass R_H = some m.cls := findClass_of_methodNamed Bd.named
  have hlocks := Bd.notSynchronized
  subst hsz
  have hD := hD0.self (sz := s.heap.size)
  generalize hAe : va_A [(h0, .inr (0, [.ref z0, .ref p0, .ref r0, .int (nI T), .ref k1, .int (nI K), .ref k2, .ref k3, .int res, .ref k4, .int pl, .int sm])), (k1, .inl (cI, 8, .inl f)), (k2, .inl (cI, 6, .inl fot)), (k3, .inl (cI, 6, .inl fol))] s.heap.size = A at hD hXw ⊢
  have hA : ∀ q : Nat, s.heap.size ≤ q → A q := fun q h => by rw [← hAe]; exact Or.inr h
  have hS : va_S A s.heap s.heap [] := va_S.rf
  have hl := lv_entry ([.ref h0, .int x]) (n := 2) (Nat.le_of_ble_eq_true rfl)
  rw [show entryFrame m args 2 = entryFrame m (([.ref h0, .int x] : List Value)).toArray 2 by rw [hargs], lg_entry_eq]
  generalize (lg_sl ([.ref h0, .int x]) ++ List.replicate (2 - (lg_sl ([.ref h0, .int x])).length) Slot.unset).toArray = ls at hl ⊢
  have hl : lv_has ls 2 [(0, .ref h0), (1, .int x)] := hl
  refine lv_aload_n hx hb d_H_operand_0 rfl (lv_at hl 0 rfl) ?_
  refine lv_iload_n hx hb d_H_operand_1 rfl (lv_at hl 1 rfl) ?_
  refine va_calli (va_runV (As := [.int x]) (rest := []) ⟨hx, hb, hml, hown, hts⟩ (c_H_isTable l dC dI cI h0 z0 p0 r0 k1 k2 k3 k4 T (nI K) res pl sm x) (cwV 1 hts (ct_giV (fun w h9 => ct_tl h9) kw_364 kw_366 kw_9 kw_26 kw_367) rfl rfl rfl (by decide +kernel) ⟨Nat.le_of_ble_eq_true rfl, Nat.le_of_ble_eq_true rfl⟩) ⟨ct_ro_blind, va_recv hK hP (ci := 0) (q0 := 0) rfl rfl, ct_ro_pre (hP.sub [0] rfl) hK⟩ rfl rfl hl.1 rfl (lv_room (Nat.le_of_ble_eq_true rfl)) d_H_operand_2 ⟨Nat.zero_le _, Nat.zero_le _⟩) hS (fun q _ h9 => h9.elim) (fun q h9 => h9.elim) (fun ans1 uS tS H locs ht hvm hwans1 hB hz1 hk1 hS => ?_)
  have hP := ct_keep hP hk1
  refine ct_val (y := nI (if ct_isn T x = true then 1 else 0)) (hwans1) ?_
  by_cases hq : ct_isn T x = true
  · rw [if_pos hq]
    refine lv_if_ne (tgt := 18) hx hb d_H_operand_5 (by decide) (fun _ => ?_) (fun hc9 => absurd hc9 (nI_ne0 (by omega) (by omega)))
    refine lv_aload_n hx hb d_H_operand_18 rfl (lv_at hl 0 rfl) ?_
    refine va_get (D := (dC, dI)) (ci := 0) (v := .int (nI K)) (C := R_H) (T := T_H) (N := 12) hx hb hts (fun w h9 => ct_tl (ki_H w h9)) hown hK hP 0 rfl rfl 5 (by decide) (hts _ (ct_tl kw_119)) (fun _ h9 => h9) rfl d_H_operand_19 ?_
    refine lv_bipush (v := (nI 6)) hx hb d_H_operand_22 (by decide) ?_
    by_cases h8 : K < 6
    · refine lv_icmp_lt (tgt := 37) hx hb d_H_operand_24 (by decide) (fun _ => ?_) (fun hc9 => absurd (nI_lt h8 (by omega)) hc9)
      obtain ⟨j, hj, rfl⟩ := ct_isn_of (by omega) hq
      refine lv_aload_n hx hb d_H_operand_37 rfl (lv_at hl 0 rfl) ?_
      refine va_get (D := (dC, dI)) (ci := 0) (v := .ref k2) (C := R_H) (T := T_H) (N := 12) hx hb hts (fun w h9 => ct_tl (ki_H w h9)) hown hK hP 0 rfl rfl 6 (by decide) (hts _ (ct_tl kw_120)) (fun _ h9 => h9) rfl d_H_operand_38 ?_
      refine lv_aload_n hx hb d_H_operand_41 rfl (lv_at hl 0 rfl) ?_
      refine va_get (D := (dC, dI)) (ci := 0) (v := .int (nI K)) (C := R_H) (T := T_H) (N := 12) hx hb hts (fun w h9 => ct_tl (ki_H w h9)) hown hK hP 0 rfl rfl 5 (by decide) (hts _ (ct_tl kw_119)) (fun _ h9 => h9) rfl d_H_operand_42 ?_
      refine lv_iload_n hx hb d_H_operand_45 rfl (lv_at hl 1 rfl) ?_
      refine ct_iast hx hb hK hP hD hS 2 0 rfl rfl (j := K) (by omega) (by omega) d_H_operand_46 (fun H locs hP hD hS => ?_)
      have hP : va_P (dC, dI) ct_cl [(h0, .inr (0, [.ref z0, .ref p0, .ref r0, .int (nI T), .ref k1, .int (nI K), .ref k2, .ref k3, .int res, .ref k4, .int pl, .int sm])), (k1, .inl (cI, 8, .inl f)), (k2, .inl (cI, 6, .inl (upd fot K (nI j)))), (k3, .inl (cI, 6, .inl fol))] H := hP
      have hD : va_D A [(h0, .inr (0, [.ref z0, .ref p0, .ref r0, .int (nI T), .ref k1, .int (nI K), .ref k2, .ref k3, .int res, .ref k4, .int pl, .int sm])), (k1, .inl (cI, 8, .inl f)), (k2, .inl (cI, 6, .inl (upd fot K (nI j)))), (k3, .inl (cI, 6, .inl fol))] := hD
      refine lv_aload_n hx hb d_H_operand_47 rfl (lv_at hl 0 rfl) ?_
      refine va_get (D := (dC, dI)) (ci := 0) (v := .ref k3) (C := R_H) (T := T_H) (N := 12) hx hb hts (fun w h9 => ct_tl (ki_H w h9)) hown hK hP 0 rfl rfl 7 (by decide) (hts _ (ct_tl kw_121)) (fun _ h9 => h9) rfl d_H_operand_48 ?_
      refine lv_aload_n hx hb d_H_operand_51 rfl (lv_at hl 0 rfl) ?_
      refine va_get (D := (dC, dI)) (ci := 0) (v := .int (nI K)) (C := R_H) (T := T_H) (N := 12) hx hb hts (fun w h9 => ct_tl (ki_H w h9)) hown hK hP 0 rfl rfl 5 (by decide) (hts _ (ct_tl kw_119)) (fun _ h9 => h9) rfl d_H_operand_52 ?_
      refine lv_aload_n hx hb d_H_operand_55 rfl (lv_at hl 0 rfl) ?_
      refine va_get (D := (dC, dI)) (ci := 0) (v := .ref k1) (C := R_H) (T := T_H) (N := 12) hx hb hts (fun w h9 => ct_tl (ki_H w h9)) hown hK hP 0 rfl rfl 4 (by decide) (hts _ (ct_tl kw_118)) (fun _ h9 => h9) rfl d_H_operand_56 ?_
      refine lv_iload_n hx hb d_H_operand_59 rfl (lv_at hl 1 rfl) ?_
      refine ct_iald hx hb hK hP 1 0 rfl rfl (j := j) (by omega) (by omega) d_H_operand_60 ?_
      refine ct_val (y := nI (lab j)) (hf j hj) ?_
      refine ct_iast hx hb hK hP hD hS 3 0 rfl rfl (j := K) (by omega) (by omega) d_H_operand_61 (fun H locs hP hD hS => ?_)
      have hP : va_P (dC, dI) ct_cl [(h0, .inr (0, [.ref z0, .ref p0, .ref r0, .int (nI T), .ref k1, .int (nI K), .ref k2, .ref k3, .int res, .ref k4, .int pl, .int sm])), (k1, .inl (cI, 8, .inl f)), (k2, .inl (cI, 6, .inl (upd fot K (nI j)))), (k3, .inl (cI, 6, .inl (upd fol K (nI (lab j)))))] H := hP
      have hD : va_D A [(h0, .inr (0, [.ref z0, .ref p0, .ref r0, .int (nI T), .ref k1, .int (nI K), .ref k2, .ref k3, .int res, .ref k4, .int pl, .int sm])), (k1, .inl (cI, 8, .inl f)), (k2, .inl (cI, 6, .inl (upd fot K (nI j)))), (k3, .inl (cI, 6, .inl (upd fol K (nI (lab j)))))] := hD
      refine lv_aload_n hx hb d_H_operand_62 rfl (lv_at hl 0 rfl) ?_
      refine lv_dup hx hb d_H_operand_63 rfl ?_
      refine va_get (D := (dC, dI)) (ci := 0) (v := .int (nI K)) (C := R_H) (T := T_H) (N := 12) hx hb hts (fun w h9 => ct_tl (ki_H w h9)) hown hK hP 0 rfl rfl 5 (by decide) (hts _ (ct_tl kw_119)) (fun _ h9 => h9) rfl d_H_operand_64 ?_
      refine lv_iconst (v := (nI 1)) hx hb d_H_operand_67 (by decide) ?_
      refine lv_iadd hx hb d_H_operand_68 ?_
      refine ct_val (y := nI (K + 1)) (nI_1 _) ?_
      refine va_put (D := (dC, dI)) (ci := 0) (v := .int (nI (K + 1))) (ty := .int) (C := R_H) (T := T_H) (N := 12) hx hb hts (fun w h9 => ct_tl (ki_H w h9)) ty_H ok_H nm_H hown hK hP hD hS 0 rfl rfl 5 (by decide) (hts _ (ct_tl kw_119)) (fun _ h9 => h9) rfl (by decide +kernel) rfl rfl (Nat.le_of_ble_eq_true rfl) d_H_operand_69 (fun H locs hP hD hS => ?_)
      have hP : va_P (dC, dI) ct_cl [(h0, .inr (0, [.ref z0, .ref p0, .ref r0, .int (nI T), .ref k1, .int (nI (K + 1)), .ref k2, .ref k3, .int res, .ref k4, .int pl, .int sm])), (k1, .inl (cI, 8, .inl f)), (k2, .inl (cI, 6, .inl (upd fot K (nI j)))), (k3, .inl (cI, 6, .inl (upd fol K (nI (lab j)))))] H := hP
      have hD : va_D A [(h0, .inr (0, [.ref z0, .ref p0, .ref r0, .int (nI T), .ref k1, .int (nI (K + 1)), .ref k2, .ref k3, .int res, .ref k4, .int pl, .int sm])), (k1, .inl (cI, 8, .inl f)), (k2, .inl (cI, 6, .inl (upd fot K (nI j)))), (k3, .inl (cI, 6, .inl (upd fol K (nI (lab j)))))] := hD
      refine lv_aload_n hx hb d_H_operand_72 rfl (lv_at hl 0 rfl) ?_
      have hPc := hP.sub (ws' := [(h0, .inr (0, [.ref z0, .ref p0, .ref r0, .int (nI T), .ref k1, .int (nI (K + 1)), .ref k2, .ref k3, .int res, .ref k4, .int pl, .int sm]))]) [0] rfl
      have hDc := hD.sub (ws' := [(h0, .inr (0, [.ref z0, .ref p0, .ref r0, .int (nI T), .ref k1, .int (nI (K + 1)), .ref k2, .ref k3, .int res, .ref k4, .int pl, .int sm]))]) [0] (by decide) rfl
      have hFc := va_free (wc := [(h0, .inr (0, [.ref z0, .ref p0, .ref r0, .int (nI T), .ref k1, .int (nI (K + 1)), .ref k2, .ref k3, .int res, .ref k4, .int pl, .int sm]))]) hD hS hA [0] rfl
      refine va_callv (va_runV (As := []) (rest := []) ⟨hx, hb, hml, hown, hts⟩ (c_H_forgetPlan l dC dI cI h0 z0 p0 r0 k1 k2 k3 k4 (nI T) (nI (K + 1)) res pl sm H.size) (cwV 0 hts (ct_giV (fun w h9 => ct_tl h9) kw_155 kw_157 kw_0 kw_26 kw_158) rfl rfl rfl (by decide +kernel) ⟨Nat.le_of_ble_eq_true rfl, Nat.le_of_ble_eq_true rfl⟩) ⟨ct_rw_blind, va_recv hK hP (ci := 0) (q0 := 0) rfl rfl, ct_rw_pre hPc hK hDc⟩ rfl rfl hl.1 rfl (lv_room (Nat.le_of_ble_eq_true rfl)) d_H_operand_73 ⟨Nat.zero_le _, Nat.zero_le _⟩) hS (fun q _ h9 => hFc q h9) hFc (fun u tS H1 locs ht hvm hw202 hB hz1 hk1 hS => ?_)
      obtain ⟨hP1, -, hD1⟩ := hB
      rw [ht] at hP1
      obtain ⟨hP, hD⟩ := va_join (wr := [(k1, .inl (cI, 8, .inl f)), (k2, .inl (cI, 6, .inl (upd fot K (nI j)))), (k3, .inl (cI, 6, .inl (upd fol K (nI (lab j)))))]) (w1 := [(h0, .inr (0, [.ref z0, .ref p0, .ref r0, .int (nI T), .ref k1, .int (nI (K + 1)), .ref k2, .ref k3, .int res, .ref k4, .int (nI 0), .int (nI 0)]))]) hP hD [0] [1, 2, 3] rfl rfl (by decide) (by decide) hk1 hFc hP1 hD1
      generalize H1 = H at hP hS ⊢
      have hP : va_P (dC, dI) ct_cl [(k1, .inl (cI, 8, .inl f)), (k2, .inl (cI, 6, .inl (upd fot K (nI j)))), (k3, .inl (cI, 6, .inl (upd fol K (nI (lab j))))), (h0, .inr (0, [.ref z0, .ref p0, .ref r0, .int (nI T), .ref k1, .int (nI (K + 1)), .ref k2, .ref k3, .int res, .ref k4, .int (nI 0), .int (nI 0)]))] H := hP
      have hD : va_D A [(k1, .inl (cI, 8, .inl f)), (k2, .inl (cI, 6, .inl (upd fot K (nI j)))), (k3, .inl (cI, 6, .inl (upd fol K (nI (lab j))))), (h0, .inr (0, [.ref z0, .ref p0, .ref r0, .int (nI T), .ref k1, .int (nI (K + 1)), .ref k2, .ref k3, .int res, .ref k4, .int (nI 0), .int (nI 0)]))] := hD
      refine lv_aload_n hx hb d_H_operand_76 rfl (lv_at hl 0 rfl) ?_
      refine va_get (D := (dC, dI)) (ci := 0) (v := .int (nI (K + 1))) (C := R_H) (T := T_H) (N := 12) hx hb hts (fun w h9 => ct_tl (ki_H w h9)) hown hK hP 3 rfl rfl 5 (by decide) (hts _ (ct_tl kw_119)) (fun _ h9 => h9) rfl d_H_operand_77 ?_
      refine lv_iconst (v := (nI 1)) hx hb d_H_operand_80 (by decide) ?_
      refine lv_isub hx hb d_H_operand_81 ?_
      refine ct_val (y := nI K) (nI_pred K) ?_
      refine vx_ret ?_
      refine W.widen (k := 1) (n := 6) (Nat.zero_le _) (Nat.zero_le _) ?_
      have hP9 := hP.sub [3, 0, 1, 2] rfl
      exact W.iret (v := (nI K)) hx hb hr (fun tS ht hW => ⟨⟨(nI K), j, rfl, ⟨hj, rfl, h8, rfl⟩, by rw [ht]; exact hP9, va_K.moved hW.alike hK, hD.sub [3, 0, 1, 2] (by decide) rfl⟩, hS.F ht⟩) hS.2.2 d_H_operand_82
    · refine lv_icmp_lt (tgt := 37) hx hb d_H_operand_24 (by decide) (fun hc9 => absurd hc9 (nI_nlt (by omega) (by omega))) (fun _ => ?_)
      obtain ⟨sa, hstr⟩ := hXw.2.1 (119, "there are six operands") (by decide)
      exact vx_throwS (own := R_H) (cls := R_UOE) (text := "there are six operands") (names := ct_sup) (sa := sa) hx hb hst hown kf_UOE.1 kf_UOE.2 (hts _ (ct_tl kl_UOE)) (hts _ (ct_tl kn_UOE)) hstr (kt_UOE hts hXw) kg_UOE hXw.2.2.1 hXw.2.2.2 hS (hl.1.trans hml.symm) d_H_operand_27 d_H_operand_30 d_H_operand_31 d_H_operand_33 d_H_operand_36 (fun x hx9 => (htab x hx9).elim) (Nat.le_of_ble_eq_true rfl) (Nat.le_of_ble_eq_true rfl) (Nat.le_of_ble_eq_true rfl) (Nat.le_of_ble_eq_true rfl) hlocks (fun tS hal9 hz9 hk9 => ⟨(), trivial, ⟨Or.inr ⟨hq, by omega, rfl⟩, (ct_thr (hP.sub [0, 1, 2, 3] rfl) hK (hD.sub [0, 1, 2, 3] (by decide) rfl) hS hal9 hz9 hk9).1⟩, (ct_thr hP hK hD hS hal9 hz9 hk9).2⟩) hS.2.2 (Nat.le_of_ble_eq_true rfl) (Nat.le_of_ble_eq_true rfl)
  · rw [if_neg hq]
    refine lv_if_ne (tgt := 18) hx hb d_H_operand_5 (by decide) (fun hc9 => absurd (nI_0) hc9) (fun _ => ?_)
    obtain ⟨sa, hstr⟩ := hXw.2.1 (95, "no such table") (by decide)
    exact vx_throwS (own := R_H) (cls := R_IOE) (text := "no such table") (names := ct_sup) (sa := sa) hx hb hst hown kf_IOE.1 kf_IOE.2 (hts _ (ct_tl kl_IOE)) (hts _ (ct_tl kn_IOE)) hstr (kt_IOE hts hXw) kg_IOE hXw.2.2.1 hXw.2.2.2 hS (hl.1.trans hml.symm) d_H_operand_8 d_H_operand_11 d_H_operand_12 d_H_operand_14 d_H_operand_17 (fun x hx9 => (htab x hx9).elim) (Nat.le_of_ble_eq_true rfl) (Nat.le_of_ble_eq_true rfl) (Nat.le_of_ble_eq_true rfl) (Nat.le_of_ble_eq_true rfl) hlocks (fun tS hal9 hz9 hk9 => ⟨(), trivial, ⟨Or.inl ⟨by simpa using hq, rfl⟩, (ct_thr (hP.sub [0, 1, 2, 3] rfl) hK (hD.sub [0, 1, 2, 3] (by decide) rfl) hS hal9 hz9 hk9).1⟩, (ct_thr hP hK hD hS hal9 hz9 hk9).2⟩) hS.2.2 (Nat.le_of_ble_eq_true rfl) (Nat.le_of_ble_eq_true rfl)
set_option maxHeartbeats 4000000 in
set_option maxRecDepth 100000 in
theorem c_H_result (l : Launch) (hst : l.stackTraces = false) (dC : Nat → ClassId) (dI : Nat → Nat → Nat) (cI : ClassId) (z1 : Nat) (sz : Nat → Nat) (h0 z0 p0 r0 k1 k2 k3 k4 : Nat) (tab ops res pl sm : Int32) (a b d : Int32) (sz0 : Nat) : vx_Met l y_H_result w_H_result ({ frames := 6, cells := 1, slots := 6, locals := 90 }) (va_Pc [.ref h0, .int a, .int b, .int d] (ct_rx (dC, dI) ct_cl [(h0, .inr (0, [.ref z0, .ref p0, .ref r0, .int tab, .ref k1, .int ops, .ref k2, .ref k3, .int res, .ref k4, .int pl, .int sm])), (z0, .inr (1, [.ref z1])), (z1, .inl (cI, 8, .inl (fun j => nI (sz j))))] [(cI, .int)] sz0)) (va_Qi (fun (r : Int32) (u : Unit) => r = nI (ct_pr sz (ct_lbs a b d).testBit 8) ∧ ct_al a b d = true) (fun (u : Unit) t => ct_at (dC, dI) ct_cl [(cI, .int)] (va_A [(h0, .inr (0, [.ref z0, .ref p0, .ref r0, .int tab, .ref k1, .int ops, .ref k2, .ref k3, .int res, .ref k4, .int pl, .int sm])), (z0, .inr (1, [.ref z1])), (z1, .inl (cI, 8, .inl (fun j => nI (sz j))))] sz0) [(h0, .inr (0, [.ref z0, .ref p0, .ref r0, .int tab, .ref k1, .int ops, .ref k2, .ref k3, .int (nI (ct_lbs a b d)), .ref k4, .int (nI 0), .int (nI 0)])), (z0, .inr (1, [.ref z1])), (z1, .inl (cI, 8, .inl (fun j => nI (sz j))))] t) (va_A [(h0, .inr (0, [.ref z0, .ref p0, .ref r0, .int tab, .ref k1, .int ops, .ref k2, .ref k3, .int res, .ref k4, .int pl, .int sm])), (z0, .inr (1, [.ref z1])), (z1, .inl (cI, 8, .inl (fun j => nI (sz j))))] sz0)) (vx_X (fun (_ : Unit) => True) (fun (E : String) (_ : Unit) t => (ct_al a b d = false ∧ E = R_IAE) ∧ ct_at (dC, dI) ct_cl [(cI, .int)] (va_A [(h0, .inr (0, [.ref z0, .ref p0, .ref r0, .int tab, .ref k1, .int ops, .ref k2, .ref k3, .int res, .ref k4, .int pl, .int sm])), (z0, .inr (1, [.ref z1])), (z1, .inl (cI, 8, .inl (fun j => nI (sz j))))] sz0) [(h0, .inr (0, [.ref z0, .ref p0, .ref r0, .int tab, .ref k1, .int ops, .ref k2, .ref k3, .int res, .ref k4, .int pl, .int sm])), (z0, .inr (1, [.ref z1])), (z1, .inl (cI, 8, .inl (fun j => nI (sz j))))] t) (va_A [(h0, .inr (0, [.ref z0, .ref p0, .ref r0, .int tab, .ref k1, .int ops, .ref k2, .ref k3, .int res, .ref k4, .int pl, .int sm])), (z0, .inr (1, [.ref z1])), (z1, .inl (cI, 8, .inl (fun j => nI (sz j))))] sz0)) 1 6 (va_A [(h0, .inr (0, [.ref z0, .ref p0, .ref r0, .int tab, .ref k1, .int ops, .ref k2, .ref k3, .int res, .ref k4, .int pl, .int sm])), (z0, .inr (1, [.ref z1])), (z1, .inl (cI, 8, .inl (fun j => nI (sz j))))] sz0) := by
  refine vx_ofW (cc := b_H_result) (maxL := 4) (ret := (some .int)) (by decide) rfl ?_
  intro p e s m args below meth c s₁ Bd hml htab hv
  obtain ⟨hargs, ⟨hsz, hP, hK, hD0⟩, hXw⟩ := hv
  have hx := Bd.exec
  have hb := Bd.bytes
  have hr := Bd.returns
  have hts : ∀ w ∈ k_H_result :: ct_tb, w.before args s = true := atoms_spec (ws := w_H_result) Bd.pre
  have hown : s.vm.findClass R_H = some m.cls := findClass_of_methodNamed Bd.named
  have hlocks := Bd.notSynchronized
  subst hsz
  have hD := hD0.self (sz := s.heap.size)
  generalize hAe : va_A [(h0, .inr (0, [.ref z0, .ref p0, .ref r0, .int tab, .ref k1, .int ops, .ref k2, .ref k3, .int res, .ref k4, .int pl, .int sm])), (z0, .inr (1, [.ref z1])), (z1, .inl (cI, 8, .inl (fun j => nI (sz j))))] s.heap.size = A at hD hXw ⊢
  have hA : ∀ q : Nat, s.heap.size ≤ q → A q := fun q h => by rw [← hAe]; exact Or.inr h
  have hS : va_S A s.heap s.heap [] := va_S.rf
  have hl := lv_entry ([.ref h0, .int a, .int b, .int d]) (n := 4) (Nat.le_of_ble_eq_true rfl)
  rw [show entryFrame m args 4 = entryFrame m (([.ref h0, .int a, .int b, .int d] : List Value)).toArray 4 by rw [hargs], lg_entry_eq]
  generalize (lg_sl ([.ref h0, .int a, .int b, .int d]) ++ List.replicate (4 - (lg_sl ([.ref h0, .int a, .int b, .int d])).length) Slot.unset).toArray = ls at hl ⊢
  have hl : lv_has ls 4 [(0, .ref h0), (1, .int a), (2, .int b), (3, .int d)] := hl
  refine lv_iload_n hx hb d_H_result_0 rfl (lv_at hl 1 rfl) ?_
  refine lv_iload_n hx hb d_H_result_1 rfl (lv_at hl 2 rfl) ?_
  refine lv_iload_n hx hb d_H_result_2 rfl (lv_at hl 3 rfl) ?_
  refine va_calli (va_runS (As := [.int a, .int b, .int d]) (rest := []) ⟨hx, hb, hml, hown, hts⟩ (c_H_areLabels l dC dI cI a b d) (va_cwS 3 hts (ct_giT (fun w h9 => ct_tl h9) kw_330 kw_331 kw_26 kw_332) rfl rfl rfl (by decide +kernel) ⟨Nat.le_of_ble_eq_true rfl, Nat.le_of_ble_eq_true rfl⟩) ⟨ct_ro_blind, ct_ro_pre (hP.sub [] rfl) hK⟩ rfl rfl hl.1 rfl (lv_room (Nat.le_of_ble_eq_true rfl)) d_H_result_3 ⟨Nat.zero_le _, Nat.zero_le _⟩) hS (fun q _ h9 => h9.elim) (fun q h9 => h9.elim) (fun ans1 uS tS H locs ht hvm hwans1 hB hz1 hk1 hS => ?_)
  have hP := ct_keep hP hk1
  refine ct_val (y := nI (if ct_al a b d = true then 1 else 0)) (hwans1) ?_
  by_cases hq : ct_al a b d = true
  · rw [if_pos hq]
    refine lv_if_ne (tgt := 19) hx hb d_H_result_6 (by decide) (fun _ => ?_) (fun hc9 => absurd hc9 (nI_ne0 (by omega) (by omega)))
    have hisl := ct_al_isl hq
    have hlt := ct_lbs_lt hq
    refine lv_aload_n hx hb d_H_result_19 rfl (lv_at hl 0 rfl) ?_
    refine lv_iload_n hx hb d_H_result_20 rfl (lv_at hl 1 rfl) ?_
    refine lv_iload_n hx hb d_H_result_21 rfl (lv_at hl 2 rfl) ?_
    refine lv_iload_n hx hb d_H_result_22 rfl (lv_at hl 3 rfl) ?_
    refine va_calli (va_runS (As := [.int a, .int b, .int d]) (rest := [.ref h0]) ⟨hx, hb, hml, hown, hts⟩ (c_H_labelBits l dC dI cI a b d hisl.1 hisl.2.1 hisl.2.2) (va_cwS 3 hts (ct_giT (fun w h9 => ct_tl h9) kw_353 kw_354 kw_26 kw_355) rfl rfl rfl (by decide +kernel) ⟨Nat.le_of_ble_eq_true rfl, Nat.le_of_ble_eq_true rfl⟩) ⟨ct_ro_blind, ct_ro_pre (hP.sub [] rfl) hK⟩ rfl rfl hl.1 rfl (lv_room (Nat.le_of_ble_eq_true rfl)) d_H_result_23 ⟨Nat.zero_le _, Nat.zero_le _⟩) hS (fun q _ h9 => h9.elim) (fun q h9 => h9.elim) (fun ans102 uS tS H locs ht hvm hwans102 hB hz1 hk1 hS => ?_)
    have hP := ct_keep hP hk1
    refine ct_val (y := nI (ct_lbs a b d)) (hwans102) ?_
    refine va_put (D := (dC, dI)) (ci := 0) (v := .int (nI (ct_lbs a b d))) (ty := .int) (C := R_H) (T := T_H) (N := 12) hx hb hts (fun w h9 => ct_tl (ki_H w h9)) ty_H ok_H nm_H hown hK hP hD hS 0 rfl rfl 8 (by decide) (hts _ (ct_tl kw_122)) (fun _ h9 => h9) rfl (by decide +kernel) rfl rfl (Nat.le_of_ble_eq_true rfl) d_H_result_26 (fun H locs hP hD hS => ?_)
    have hP : va_P (dC, dI) ct_cl [(h0, .inr (0, [.ref z0, .ref p0, .ref r0, .int tab, .ref k1, .int ops, .ref k2, .ref k3, .int (nI (ct_lbs a b d)), .ref k4, .int pl, .int sm])), (z0, .inr (1, [.ref z1])), (z1, .inl (cI, 8, .inl (fun j => nI (sz j))))] H := hP
    have hD : va_D A [(h0, .inr (0, [.ref z0, .ref p0, .ref r0, .int tab, .ref k1, .int ops, .ref k2, .ref k3, .int (nI (ct_lbs a b d)), .ref k4, .int pl, .int sm])), (z0, .inr (1, [.ref z1])), (z1, .inl (cI, 8, .inl (fun j => nI (sz j))))] := hD
    refine lv_aload_n hx hb d_H_result_29 rfl (lv_at hl 0 rfl) ?_
    have hPc := hP.sub (ws' := [(h0, .inr (0, [.ref z0, .ref p0, .ref r0, .int tab, .ref k1, .int ops, .ref k2, .ref k3, .int (nI (ct_lbs a b d)), .ref k4, .int pl, .int sm]))]) [0] rfl
    have hDc := hD.sub (ws' := [(h0, .inr (0, [.ref z0, .ref p0, .ref r0, .int tab, .ref k1, .int ops, .ref k2, .ref k3, .int (nI (ct_lbs a b d)), .ref k4, .int pl, .int sm]))]) [0] (by decide) rfl
    have hFc := va_free (wc := [(h0, .inr (0, [.ref z0, .ref p0, .ref r0, .int tab, .ref k1, .int ops, .ref k2, .ref k3, .int (nI (ct_lbs a b d)), .ref k4, .int pl, .int sm]))]) hD hS hA [0] rfl
    refine va_callv (va_runV (As := []) (rest := []) ⟨hx, hb, hml, hown, hts⟩ (c_H_forgetPlan l dC dI cI h0 z0 p0 r0 k1 k2 k3 k4 tab ops (nI (ct_lbs a b d)) pl sm H.size) (cwV 0 hts (ct_giV (fun w h9 => ct_tl h9) kw_155 kw_157 kw_0 kw_26 kw_158) rfl rfl rfl (by decide +kernel) ⟨Nat.le_of_ble_eq_true rfl, Nat.le_of_ble_eq_true rfl⟩) ⟨ct_rw_blind, va_recv hK hP (ci := 0) (q0 := 0) rfl rfl, ct_rw_pre hPc hK hDc⟩ rfl rfl hl.1 rfl (lv_room (Nat.le_of_ble_eq_true rfl)) d_H_result_30 ⟨Nat.zero_le _, Nat.zero_le _⟩) hS (fun q _ h9 => hFc q h9) hFc (fun u tS H1 locs ht hvm hw103 hB hz1 hk1 hS => ?_)
    obtain ⟨hP1, -, hD1⟩ := hB
    rw [ht] at hP1
    obtain ⟨hP, hD⟩ := va_join (wr := [(z0, .inr (1, [.ref z1])), (z1, .inl (cI, 8, .inl (fun j => nI (sz j))))]) (w1 := [(h0, .inr (0, [.ref z0, .ref p0, .ref r0, .int tab, .ref k1, .int ops, .ref k2, .ref k3, .int (nI (ct_lbs a b d)), .ref k4, .int (nI 0), .int (nI 0)]))]) hP hD [0] [1, 2] rfl rfl (by decide) (by decide) hk1 hFc hP1 hD1
    generalize H1 = H at hP hS ⊢
    have hP : va_P (dC, dI) ct_cl [(z0, .inr (1, [.ref z1])), (z1, .inl (cI, 8, .inl (fun j => nI (sz j)))), (h0, .inr (0, [.ref z0, .ref p0, .ref r0, .int tab, .ref k1, .int ops, .ref k2, .ref k3, .int (nI (ct_lbs a b d)), .ref k4, .int (nI 0), .int (nI 0)]))] H := hP
    have hD : va_D A [(z0, .inr (1, [.ref z1])), (z1, .inl (cI, 8, .inl (fun j => nI (sz j)))), (h0, .inr (0, [.ref z0, .ref p0, .ref r0, .int tab, .ref k1, .int ops, .ref k2, .ref k3, .int (nI (ct_lbs a b d)), .ref k4, .int (nI 0), .int (nI 0)]))] := hD
    refine lv_aload_n hx hb d_H_result_33 rfl (lv_at hl 0 rfl) ?_
    refine va_get (D := (dC, dI)) (ci := 0) (v := .ref z0) (C := R_H) (T := T_H) (N := 12) hx hb hts (fun w h9 => ct_tl (ki_H w h9)) hown hK hP 2 rfl rfl 0 (by decide) (hts _ (ct_tl kw_114)) (fun _ h9 => h9) rfl d_H_result_34 ?_
    refine lv_aload_n hx hb d_H_result_37 rfl (lv_at hl 0 rfl) ?_
    refine va_get (D := (dC, dI)) (ci := 0) (v := .int (nI (ct_lbs a b d))) (C := R_H) (T := T_H) (N := 12) hx hb hts (fun w h9 => ct_tl (ki_H w h9)) hown hK hP 2 rfl rfl 8 (by decide) (hts _ (ct_tl kw_122)) (fun _ h9 => h9) rfl d_H_result_38 ?_
    refine va_calli (va_runV (As := [.int (nI (ct_lbs a b d))]) (rest := []) ⟨hx, hb, hml, hown, hts⟩ (c_S_choices l dC dI cI z0 z1 sz (ct_lbs a b d) (by omega)) (cwV 1 hts (ct_giV (fun w h9 => ct_tl h9) kw_384 kw_195 kw_196 kw_27 kw_197) rfl rfl rfl (by decide +kernel) ⟨Nat.le_of_ble_eq_true rfl, Nat.le_of_ble_eq_true rfl⟩) ⟨ct_ro_blind, va_recv hK hP (ci := 1) (q0 := 0) rfl rfl, ct_ro_pre (hP.sub [0, 1] rfl) hK⟩ rfl rfl hl.1 rfl (lv_room (Nat.le_of_ble_eq_true rfl)) d_H_result_41 ⟨Nat.zero_le _, Nat.zero_le _⟩) hS (fun q _ h9 => h9.elim) (fun q h9 => h9.elim) (fun ans104 uS tS H locs ht hvm hwans104 hB hz1 hk1 hS => ?_)
    have hP := ct_keep hP hk1
    refine ct_val (y := nI (ct_pr sz (ct_lbs a b d).testBit 8)) (hwans104) ?_
    refine vx_ret ?_
    refine W.widen (k := 1) (n := 6) (Nat.zero_le _) (Nat.zero_le _) ?_
    have hP9 := hP.sub [2, 0, 1] rfl
    exact W.iret (v := (nI (ct_pr sz (ct_lbs a b d).testBit 8))) hx hb hr (fun tS ht hW => ⟨⟨(nI (ct_pr sz (ct_lbs a b d).testBit 8)), (), rfl, ⟨rfl, hq⟩, by rw [ht]; exact hP9, va_K.moved hW.alike hK, hD.sub [2, 0, 1] (by decide) rfl⟩, hS.F ht⟩) hS.2.2 d_H_result_44
  · rw [if_neg hq]
    refine lv_if_ne (tgt := 19) hx hb d_H_result_6 (by decide) (fun hc9 => absurd (nI_0) hc9) (fun _ => ?_)
    obtain ⟨sa, hstr⟩ := hXw.2.1 (75, "labels must rise, with NONE behind the last one") (by decide)
    exact vx_throwS (own := R_H) (cls := R_IAE) (text := "labels must rise, with NONE behind the last one") (names := ct_sup) (sa := sa) hx hb hst hown kf_IAE.1 kf_IAE.2 (hts _ (ct_tl kl_IAE)) (hts _ (ct_tl kn_IAE)) hstr (kt_IAE hts hXw) kg_IAE hXw.2.2.1 hXw.2.2.2 hS (hl.1.trans hml.symm) d_H_result_9 d_H_result_12 d_H_result_13 d_H_result_15 d_H_result_18 (fun x hx9 => (htab x hx9).elim) (Nat.le_of_ble_eq_true rfl) (Nat.le_of_ble_eq_true rfl) (Nat.le_of_ble_eq_true rfl) (Nat.le_of_ble_eq_true rfl) hlocks (fun tS hal9 hz9 hk9 => ⟨(), trivial, ⟨⟨by simpa using hq, rfl⟩, (ct_thr (hP.sub [0, 1, 2] rfl) hK (hD.sub [0, 1, 2] (by decide) rfl) hS hal9 hz9 hk9).1⟩, (ct_thr hP hK hD hS hal9 hz9 hk9).2⟩) hS.2.2 (Nat.le_of_ble_eq_true rfl) (Nat.le_of_ble_eq_true rfl)
theorem ct_out {n : Nat} {x : Int32} (hn : n < 2 ^ 31) (h : ¬ ct_isn n x = true) : x.toInt < 0 ∨ (n : Int) ≤ x.toInt := by
  by_cases h0 : x < 0
  · left
    have e1 := Int32.lt_iff_toInt_lt.mp h0
    have e2 : (0 : Int32).toInt = 0 := by decide
    omega
  · by_cases h1 : nI n ≤ x
    · right
      have e1 := Int32.le_iff_toInt_le.mp h1
      rw [nI_toInt hn] at e1
      exact e1
    · exact absurd (by simp [ct_isn, h0, h1]) h
theorem ct_out4 {x : Int32} (h : ¬ ct_isn 4 x = true) : x.toInt < 0 ∨ 3 < x.toInt := by
  rcases ct_out (by omega) h with h | h
  · exact Or.inl h
  · exact Or.inr (by omega)
set_option maxHeartbeats 4000000 in
set_option maxRecDepth 100000 in
theorem c_H_about (l : Launch) (hst : l.stackTraces = false) (dC : Nat → ClassId) (dI : Nat → Nat → Nat) (cI : ClassId) (h0 z0 p0 r0 k1 k2 k3 k4 : Nat) (T K R : Nat) (pl sm : Int32) (hK6 : K ≤ 6) (x : Int32) (sz0 : Nat) : vx_Met l y_H_about w_H_about ({ frames := 6, cells := 1, slots := 6, locals := 90 }) (va_Pc [.ref h0, .int x] (ct_rx (dC, dI) ct_cl [(h0, .inr (0, [.ref z0, .ref p0, .ref r0, .int (nI T), .ref k1, .int (nI K), .ref k2, .ref k3, .int (nI R), .ref k4, .int pl, .int sm]))] [(cI, .int)] sz0)) (va_Qi (fun (r : Int32) (u : Unit) => ∃ j : Nat, j < 4 ∧ x = nI j ∧ r = nI (if j = 0 then T else if j = 1 then K else if j = 2 then R else K - 1)) (fun (u : Unit) t => ct_at (dC, dI) ct_cl [(cI, .int)] (va_A [(h0, .inr (0, [.ref z0, .ref p0, .ref r0, .int (nI T), .ref k1, .int (nI K), .ref k2, .ref k3, .int (nI R), .ref k4, .int pl, .int sm]))] sz0) [(h0, .inr (0, [.ref z0, .ref p0, .ref r0, .int (nI T), .ref k1, .int (nI K), .ref k2, .ref k3, .int (nI R), .ref k4, .int pl, .int sm]))] t) (va_A [(h0, .inr (0, [.ref z0, .ref p0, .ref r0, .int (nI T), .ref k1, .int (nI K), .ref k2, .ref k3, .int (nI R), .ref k4, .int pl, .int sm]))] sz0)) (vx_X (fun (_ : Unit) => True) (fun (E : String) (_ : Unit) t => (ct_isn 4 x = false ∧ E = R_IAE) ∧ ct_at (dC, dI) ct_cl [(cI, .int)] (va_A [(h0, .inr (0, [.ref z0, .ref p0, .ref r0, .int (nI T), .ref k1, .int (nI K), .ref k2, .ref k3, .int (nI R), .ref k4, .int pl, .int sm]))] sz0) [(h0, .inr (0, [.ref z0, .ref p0, .ref r0, .int (nI T), .ref k1, .int (nI K), .ref k2, .ref k3, .int (nI R), .ref k4, .int pl, .int sm]))] t) (va_A [(h0, .inr (0, [.ref z0, .ref p0, .ref r0, .int (nI T), .ref k1, .int (nI K), .ref k2, .ref k3, .int (nI R), .ref k4, .int pl, .int sm]))] sz0)) 1 6 (va_A [(h0, .inr (0, [.ref z0, .ref p0, .ref r0, .int (nI T), .ref k1, .int (nI K), .ref k2, .ref k3, .int (nI R), .ref k4, .int pl, .int sm]))] sz0) := by
  refine vx_ofW (cc := b_H_about) (maxL := 2) (ret := (some .int)) (by decide) rfl ?_
  intro p e s m args below meth c s₁ Bd hml htab hv
  obtain ⟨hargs, ⟨hsz, hP, hK, hD0⟩, hXw⟩ := hv
  have hx := Bd.exec
  have hb := Bd.bytes
  have hr := Bd.returns
  have hts : ∀ w ∈ k_H_about :: ct_tb, w.before args s = true := atoms_spec (ws := w_H_about) Bd.pre
  have hown : s.vm.findClass R_H = some m.cls := findClass_of_methodNamed Bd.named
  have hlocks := Bd.notSynchronized
  subst hsz
  have hD := hD0.self (sz := s.heap.size)
  generalize hAe : va_A [(h0, .inr (0, [.ref z0, .ref p0, .ref r0, .int (nI T), .ref k1, .int (nI K), .ref k2, .ref k3, .int (nI R), .ref k4, .int pl, .int sm]))] s.heap.size = A at hD hXw ⊢
  have hA : ∀ q : Nat, s.heap.size ≤ q → A q := fun q h => by rw [← hAe]; exact Or.inr h
  have hS : va_S A s.heap s.heap [] := va_S.rf
  have hl := lv_entry ([.ref h0, .int x]) (n := 2) (Nat.le_of_ble_eq_true rfl)
  rw [show entryFrame m args 2 = entryFrame m (([.ref h0, .int x] : List Value)).toArray 2 by rw [hargs], lg_entry_eq]
  generalize (lg_sl ([.ref h0, .int x]) ++ List.replicate (2 - (lg_sl ([.ref h0, .int x])).length) Slot.unset).toArray = ls at hl ⊢
  have hl : lv_has ls 2 [(0, .ref h0), (1, .int x)] := hl
  refine lv_iload_n hx hb d_H_about_0 rfl (lv_at hl 1 rfl) ?_
  by_cases hq : ct_isn 4 x = true
  · obtain ⟨j, hj, rfl⟩ := ct_isn_of (by omega) hq
    rcases (show j = 0 ∨ j = 1 ∨ j = 2 ∨ j = 3 by omega) with rfl | rfl | rfl | rfl
    · refine lv_tableIn (x := nI 0) (off := 31) (tgt := 32) hx hb d_H_about_1 (by decide) (by decide) (by decide) (by decide) ?_
      refine lv_aload_n hx hb d_H_about_32 rfl (lv_at hl 0 rfl) ?_
      refine va_get (D := (dC, dI)) (ci := 0) (v := .int (nI T)) (C := R_H) (T := T_H) (N := 12) hx hb hts (fun w h9 => ct_tl (ki_H w h9)) hown hK hP 0 rfl rfl 3 (by decide) (hts _ (ct_tl kw_117)) (fun _ h9 => h9) rfl d_H_about_33 ?_
      refine vx_ret ?_
      refine W.widen (k := 1) (n := 6) (Nat.zero_le _) (Nat.zero_le _) ?_
      have hP9 := hP.sub [0] rfl
      exact W.iret (v := (nI T)) hx hb hr (fun tS ht hW => ⟨⟨(nI T), (), rfl, ⟨0, by omega, rfl, rfl⟩, by rw [ht]; exact hP9, va_K.moved hW.alike hK, hD.sub [0] (by decide) rfl⟩, hS.F ht⟩) hS.2.2 d_H_about_36
    · refine lv_tableIn (x := nI 1) (off := 36) (tgt := 37) hx hb d_H_about_1 (by decide) (by decide) (by decide) (by decide) ?_
      refine lv_aload_n hx hb d_H_about_37 rfl (lv_at hl 0 rfl) ?_
      refine va_get (D := (dC, dI)) (ci := 0) (v := .int (nI K)) (C := R_H) (T := T_H) (N := 12) hx hb hts (fun w h9 => ct_tl (ki_H w h9)) hown hK hP 0 rfl rfl 5 (by decide) (hts _ (ct_tl kw_119)) (fun _ h9 => h9) rfl d_H_about_38 ?_
      refine vx_ret ?_
      refine W.widen (k := 1) (n := 6) (Nat.zero_le _) (Nat.zero_le _) ?_
      have hP9 := hP.sub [0] rfl
      exact W.iret (v := (nI K)) hx hb hr (fun tS ht hW => ⟨⟨(nI K), (), rfl, ⟨1, by omega, rfl, rfl⟩, by rw [ht]; exact hP9, va_K.moved hW.alike hK, hD.sub [0] (by decide) rfl⟩, hS.F ht⟩) hS.2.2 d_H_about_41
    · refine lv_tableIn (x := nI 2) (off := 41) (tgt := 42) hx hb d_H_about_1 (by decide) (by decide) (by decide) (by decide) ?_
      refine lv_aload_n hx hb d_H_about_42 rfl (lv_at hl 0 rfl) ?_
      refine va_get (D := (dC, dI)) (ci := 0) (v := .int (nI R)) (C := R_H) (T := T_H) (N := 12) hx hb hts (fun w h9 => ct_tl (ki_H w h9)) hown hK hP 0 rfl rfl 8 (by decide) (hts _ (ct_tl kw_122)) (fun _ h9 => h9) rfl d_H_about_43 ?_
      refine vx_ret ?_
      refine W.widen (k := 1) (n := 6) (Nat.zero_le _) (Nat.zero_le _) ?_
      have hP9 := hP.sub [0] rfl
      exact W.iret (v := (nI R)) hx hb hr (fun tS ht hW => ⟨⟨(nI R), (), rfl, ⟨2, by omega, rfl, rfl⟩, by rw [ht]; exact hP9, va_K.moved hW.alike hK, hD.sub [0] (by decide) rfl⟩, hS.F ht⟩) hS.2.2 d_H_about_46
    · refine lv_tableIn (x := nI 3) (off := 46) (tgt := 47) hx hb d_H_about_1 (by decide) (by decide) (by decide) (by decide) ?_
      refine lv_aload_n hx hb d_H_about_47 rfl (lv_at hl 0 rfl) ?_
      refine va_calli (va_runV (As := []) (rest := []) ⟨hx, hb, hml, hown, hts⟩ (c_H_countSteps l dC dI cI h0 z0 p0 r0 k1 k2 k3 k4 (nI T) K (nI R) pl sm hK6) (cwV 0 hts (ct_giV (fun w h9 => ct_tl h9) kw_422 kw_424 kw_10 kw_26 kw_425) rfl rfl rfl (by decide +kernel) ⟨Nat.le_of_ble_eq_true rfl, Nat.le_of_ble_eq_true rfl⟩) ⟨ct_ro_blind, va_recv hK hP (ci := 0) (q0 := 0) rfl rfl, ct_ro_pre (hP.sub [0] rfl) hK⟩ rfl rfl hl.1 rfl (lv_room (Nat.le_of_ble_eq_true rfl)) d_H_about_48 ⟨Nat.zero_le _, Nat.zero_le _⟩) hS (fun q _ h9 => h9.elim) (fun q h9 => h9.elim) (fun ans201 uS tS H locs ht hvm hwans201 hB hz1 hk1 hS => ?_)
      have hP := ct_keep hP hk1
      refine ct_val (y := nI (K - 1)) (hwans201) ?_
      refine vx_ret ?_
      refine W.widen (k := 1) (n := 6) (Nat.zero_le _) (Nat.zero_le _) ?_
      have hP9 := hP.sub [0] rfl
      exact W.iret (v := (nI (K - 1))) hx hb hr (fun tS ht hW => ⟨⟨(nI (K - 1)), (), rfl, ⟨3, by omega, rfl, rfl⟩, by rw [ht]; exact hP9, va_K.moved hW.alike hK, hD.sub [0] (by decide) rfl⟩, hS.F ht⟩) hS.2.2 d_H_about_51
  · refine lv_tableOut (tgt := 52) hx hb d_H_about_1 (ct_out4 hq) (by decide) ?_
    obtain ⟨sa, hstr⟩ := hXw.2.1 (136, "what is 0 to 3") (by decide)
    exact vx_throwS (own := R_H) (cls := R_IAE) (text := "what is 0 to 3") (names := ct_sup) (sa := sa) hx hb hst hown kf_IAE.1 kf_IAE.2 (hts _ (ct_tl kl_IAE)) (hts _ (ct_tl kn_IAE)) hstr (kt_IAE hts hXw) kg_IAE hXw.2.2.1 hXw.2.2.2 hS (hl.1.trans hml.symm) d_H_about_52 d_H_about_55 d_H_about_56 d_H_about_58 d_H_about_61 (fun x hx9 => (htab x hx9).elim) (Nat.le_of_ble_eq_true rfl) (Nat.le_of_ble_eq_true rfl) (Nat.le_of_ble_eq_true rfl) (Nat.le_of_ble_eq_true rfl) hlocks (fun tS hal9 hz9 hk9 => ⟨(), trivial, ⟨⟨by simpa using hq, rfl⟩, (ct_thr (hP.sub [0] rfl) hK (hD.sub [0] (by decide) rfl) hS hal9 hz9 hk9).1⟩, (ct_thr hP hK hD hS hal9 hz9 hk9).2⟩) hS.2.2 (Nat.le_of_ble_eq_true rfl) (Nat.le_of_ble_eq_true rfl)
end
section
theorem d_H_cost_0 : decode b_H_cost 0 = .ok (.aload_n 0, 1) := by decide +kernel
theorem d_H_cost_1 : decode b_H_cost 1 = .ok (.getfield 110, 3) := by decide +kernel
theorem d_H_cost_4 : decode b_H_cost 4 = .ok (.iconst 2, 1) := by decide +kernel
theorem d_H_cost_5 : decode b_H_cost 5 = .ok (.if_icmp .ge 5, 3) := by decide +kernel
theorem d_H_cost_8 : decode b_H_cost 8 = .ok (.iconst 0, 1) := by decide +kernel
theorem d_H_cost_9 : decode b_H_cost 9 = .ok (.ireturn, 1) := by decide +kernel
theorem d_H_cost_10 : decode b_H_cost 10 = .ok (.aload_n 0, 1) := by decide +kernel
theorem d_H_cost_11 : decode b_H_cost 11 = .ok (.invokevirtual 121, 3) := by decide +kernel
theorem d_H_cost_14 : decode b_H_cost 14 = .ok (.aload_n 0, 1) := by decide +kernel
theorem d_H_cost_15 : decode b_H_cost 15 = .ok (.getfield 21, 3) := by decide +kernel
theorem d_H_cost_18 : decode b_H_cost 18 = .ok (.aload_n 0, 1) := by decide +kernel
theorem d_H_cost_19 : decode b_H_cost 19 = .ok (.invokevirtual 124, 3) := by decide +kernel
theorem d_H_cost_22 : decode b_H_cost 22 = .ok (.invokevirtual 128, 3) := by decide +kernel
theorem d_H_cost_25 : decode b_H_cost 25 = .ok (.ireturn, 1) := by decide +kernel
theorem d_H_step_0 : decode b_H_step 0 = .ok (.iload_n 1, 1) := by decide +kernel
theorem d_H_step_1 : decode b_H_step 1 = .ok (.ifCond .lt 11, 3) := by decide +kernel
theorem d_H_step_4 : decode b_H_step 4 = .ok (.iload_n 1, 1) := by decide +kernel
theorem d_H_step_5 : decode b_H_step 5 = .ok (.aload_n 0, 1) := by decide +kernel
theorem d_H_step_6 : decode b_H_step 6 = .ok (.invokevirtual 131, 3) := by decide +kernel
theorem d_H_step_9 : decode b_H_step 9 = .ok (.if_icmp .lt 13, 3) := by decide +kernel
theorem d_H_step_12 : decode b_H_step 12 = .ok (.new 93, 3) := by decide +kernel
theorem d_H_step_15 : decode b_H_step 15 = .ok (.dup, 1) := by decide +kernel
theorem d_H_step_16 : decode b_H_step 16 = .ok (.ldc 134, 2) := by decide +kernel
theorem d_H_step_18 : decode b_H_step 18 = .ok (.invokespecial 97, 3) := by decide +kernel
theorem d_H_step_21 : decode b_H_step 21 = .ok (.athrow, 1) := by decide +kernel
theorem d_H_step_22 : decode b_H_step 22 = .ok (.iload_n 2, 1) := by decide +kernel
theorem d_H_step_23 : decode b_H_step 23 = .ok (.ifCond .lt 8, 3) := by decide +kernel
theorem d_H_step_26 : decode b_H_step 26 = .ok (.iload_n 2, 1) := by decide +kernel
theorem d_H_step_27 : decode b_H_step 27 = .ok (.iconst 3, 1) := by decide +kernel
theorem d_H_step_28 : decode b_H_step 28 = .ok (.if_icmp .le 13, 3) := by decide +kernel
theorem d_H_step_31 : decode b_H_step 31 = .ok (.new 45, 3) := by decide +kernel
theorem d_H_step_34 : decode b_H_step 34 = .ok (.dup, 1) := by decide +kernel
theorem d_H_step_35 : decode b_H_step 35 = .ok (.ldc 136, 2) := by decide +kernel
theorem d_H_step_37 : decode b_H_step 37 = .ok (.invokespecial 49, 3) := by decide +kernel
theorem d_H_step_40 : decode b_H_step 40 = .ok (.athrow, 1) := by decide +kernel
theorem d_H_step_41 : decode b_H_step 41 = .ok (.aload_n 0, 1) := by decide +kernel
theorem d_H_step_42 : decode b_H_step 42 = .ok (.invokevirtual 121, 3) := by decide +kernel
theorem d_H_step_45 : decode b_H_step 45 = .ok (.aload_n 0, 1) := by decide +kernel
theorem d_H_step_46 : decode b_H_step 46 = .ok (.getfield 21, 3) := by decide +kernel
theorem d_H_step_49 : decode b_H_step 49 = .ok (.iload_n 1, 1) := by decide +kernel
theorem d_H_step_50 : decode b_H_step 50 = .ok (.invokevirtual 138, 3) := by decide +kernel
theorem d_H_step_53 : decode b_H_step 53 = .ok (.istore_n 3, 1) := by decide +kernel
theorem d_H_step_54 : decode b_H_step 54 = .ok (.aload_n 0, 1) := by decide +kernel
theorem d_H_step_55 : decode b_H_step 55 = .ok (.getfield 21, 3) := by decide +kernel
theorem d_H_step_58 : decode b_H_step 58 = .ok (.iload_n 3, 1) := by decide +kernel
theorem d_H_step_59 : decode b_H_step 59 = .ok (.invokevirtual 141, 3) := by decide +kernel
theorem d_H_step_62 : decode b_H_step 62 = .ok (.istore 4, 2) := by decide +kernel
theorem d_H_step_64 : decode b_H_step 64 = .ok (.iload_n 3, 1) := by decide +kernel
theorem d_H_step_65 : decode b_H_step 65 = .ok (.iload 4, 2) := by decide +kernel
theorem d_H_step_67 : decode b_H_step 67 = .ok (.ixor, 1) := by decide +kernel
theorem d_H_step_68 : decode b_H_step 68 = .ok (.istore 5, 2) := by decide +kernel
theorem d_H_step_70 : decode b_H_step 70 = .ok (.iload_n 2, 1) := by decide +kernel
theorem d_H_step_71 : decode b_H_step 71 = .ok (.tableswitch 43 0 2 #[25, 28, 31], 25) := by decide +kernel
theorem d_H_step_96 : decode b_H_step 96 = .ok (.iload 4, 2) := by decide +kernel
theorem d_H_step_98 : decode b_H_step 98 = .ok (.ireturn, 1) := by decide +kernel
theorem d_H_step_99 : decode b_H_step 99 = .ok (.iload 5, 2) := by decide +kernel
theorem d_H_step_101 : decode b_H_step 101 = .ok (.ireturn, 1) := by decide +kernel
theorem d_H_step_102 : decode b_H_step 102 = .ok (.aload_n 0, 1) := by decide +kernel
theorem d_H_step_103 : decode b_H_step 103 = .ok (.getfield 21, 3) := by decide +kernel
theorem d_H_step_106 : decode b_H_step 106 = .ok (.iload 4, 2) := by decide +kernel
theorem d_H_step_108 : decode b_H_step 108 = .ok (.iload 5, 2) := by decide +kernel
theorem d_H_step_110 : decode b_H_step 110 = .ok (.invokevirtual 144, 3) := by decide +kernel
theorem d_H_step_113 : decode b_H_step 113 = .ok (.ireturn, 1) := by decide +kernel
theorem d_H_step_114 : decode b_H_step 114 = .ok (.aload_n 0, 1) := by decide +kernel
theorem d_H_step_115 : decode b_H_step 115 = .ok (.getfield 21, 3) := by decide +kernel
theorem d_H_step_118 : decode b_H_step 118 = .ok (.iload 4, 2) := by decide +kernel
theorem d_H_step_120 : decode b_H_step 120 = .ok (.iload 5, 2) := by decide +kernel
theorem d_H_step_122 : decode b_H_step 122 = .ok (.invokevirtual 148, 3) := by decide +kernel
theorem d_H_step_125 : decode b_H_step 125 = .ok (.ireturn, 1) := by decide +kernel
theorem d_H_value_0 : decode b_H_value 0 = .ok (.iload_n 1, 1) := by decide +kernel
theorem d_H_value_1 : decode b_H_value 1 = .ok (.ifCond .lt 18, 3) := by decide +kernel
theorem d_H_value_4 : decode b_H_value 4 = .ok (.iload_n 1, 1) := by decide +kernel
theorem d_H_value_5 : decode b_H_value 5 = .ok (.aload_n 0, 1) := by decide +kernel
theorem d_H_value_6 : decode b_H_value 6 = .ok (.getfield 12, 3) := by decide +kernel
theorem d_H_value_9 : decode b_H_value 9 = .ok (.aload_n 0, 1) := by decide +kernel
theorem d_H_value_10 : decode b_H_value 10 = .ok (.getfield 113, 3) := by decide +kernel
theorem d_H_value_13 : decode b_H_value 13 = .ok (.invokevirtual 98, 3) := by decide +kernel
theorem d_H_value_16 : decode b_H_value 16 = .ok (.if_icmp .lt 13, 3) := by decide +kernel
theorem d_H_value_19 : decode b_H_value 19 = .ok (.new 93, 3) := by decide +kernel
theorem d_H_value_22 : decode b_H_value 22 = .ok (.dup, 1) := by decide +kernel
theorem d_H_value_23 : decode b_H_value 23 = .ok (.ldc 102, 2) := by decide +kernel
theorem d_H_value_25 : decode b_H_value 25 = .ok (.invokespecial 97, 3) := by decide +kernel
theorem d_H_value_28 : decode b_H_value 28 = .ok (.athrow, 1) := by decide +kernel
theorem d_H_value_29 : decode b_H_value 29 = .ok (.aload_n 0, 1) := by decide +kernel
theorem d_H_value_30 : decode b_H_value 30 = .ok (.getfield 67, 3) := by decide +kernel
theorem d_H_value_33 : decode b_H_value 33 = .ok (.ifCond .ne 31, 3) := by decide +kernel
theorem d_H_value_36 : decode b_H_value 36 = .ok (.aload_n 0, 1) := by decide +kernel
theorem d_H_value_37 : decode b_H_value 37 = .ok (.getfield 110, 3) := by decide +kernel
theorem d_H_value_40 : decode b_H_value 40 = .ok (.iconst 2, 1) := by decide +kernel
theorem d_H_value_41 : decode b_H_value 41 = .ok (.if_icmp .ge 10, 3) := by decide +kernel
theorem d_H_value_44 : decode b_H_value 44 = .ok (.aload_n 0, 1) := by decide +kernel
theorem d_H_value_45 : decode b_H_value 45 = .ok (.invokevirtual 151, 3) := by decide +kernel
theorem d_H_value_48 : decode b_H_value 48 = .ok (.goto 11, 3) := by decide +kernel
theorem d_H_value_51 : decode b_H_value 51 = .ok (.aload_n 0, 1) := by decide +kernel
theorem d_H_value_52 : decode b_H_value 52 = .ok (.invokevirtual 121, 3) := by decide +kernel
theorem d_H_value_55 : decode b_H_value 55 = .ok (.aload_n 0, 1) := by decide +kernel
theorem d_H_value_56 : decode b_H_value 56 = .ok (.invokevirtual 154, 3) := by decide +kernel
theorem d_H_value_59 : decode b_H_value 59 = .ok (.aload_n 0, 1) := by decide +kernel
theorem d_H_value_60 : decode b_H_value 60 = .ok (.iconst 1, 1) := by decide +kernel
theorem d_H_value_61 : decode b_H_value 61 = .ok (.putfield 67, 3) := by decide +kernel
theorem d_H_value_64 : decode b_H_value 64 = .ok (.aload_n 0, 1) := by decide +kernel
theorem d_H_value_65 : decode b_H_value 65 = .ok (.getfield 28, 3) := by decide +kernel
theorem d_H_value_68 : decode b_H_value 68 = .ok (.sipush 216, 3) := by decide +kernel
theorem d_H_value_71 : decode b_H_value 71 = .ok (.iload_n 1, 1) := by decide +kernel
theorem d_H_value_72 : decode b_H_value 72 = .ok (.iadd, 1) := by decide +kernel
theorem d_H_value_73 : decode b_H_value 73 = .ok (.invokevirtual 157, 3) := by decide +kernel
theorem d_H_value_76 : decode b_H_value 76 = .ok (.ireturn, 1) := by decide +kernel
set_option maxHeartbeats 4000000 in
set_option maxRecDepth 100000 in
theorem c_H_cost (l : Launch) (dC : Nat → ClassId) (dI : Nat → Nat → Nat) (cI : ClassId) (z1 : Nat) (sz : Nat → Nat) (p1 p2 p3 p4 p5 : Nat) (h0 z0 p0 r0 k1 k2 k3 k4 : Nat) (tab sm : Int32) (K R pf : Nat) (fh fl fc fp fj fo : Nat → Int32) (la : Nat → Nat) (hK6 : K ≤ 6) (hsz : ∀ k, k < 8 → sz k ≤ 3) (hla : ∀ k, k < K → la k < 256) (hfo : ∀ j, j < K → fo j = nI (la j)) (hk0 : ct_plk fh fc) (hpf : pf = 0 ∨ pf = 1) (hok : pf = 1 → 2 ≤ K ∧ ct_plok sz la K R fh fl fc fp fj) (sz0 : Nat) : Met l y_H_cost w_H_cost ({ frames := 5, cells := 0, slots := 0, locals := 117 }) (va_Pc [.ref h0] (ct_rw (dC, dI) ct_cl [(h0, .inr (0, [.ref z0, .ref p0, .ref r0, .int tab, .ref k1, .int (nI K), .ref k2, .ref k3, .int (nI R), .ref k4, .int (nI pf), .int sm])), (p0, .inr (2, [.ref z0, .ref p1, .ref p2, .ref p3, .ref p4, .ref p5])), (p1, .inl (cI, 64, .inl fh)), (p2, .inl (cI, 64, .inl fl)), (p3, .inl (cI, 64, .inl fc)), (p4, .inl (cI, 64, .inl fp)), (p5, .inl (cI, 5, .inl fj)), (z0, .inr (1, [.ref z1])), (z1, .inl (cI, 8, .inl (fun j => nI (sz j)))), (k3, .inl (cI, 6, .inl fo))] [(cI, .int)] sz0)) (va_Qi (fun (r : Int32) (u : Nat × (Nat → Int32) × (Nat → Int32) × (Nat → Int32) × (Nat → Int32) × (Nat → Int32)) => ((u.1 = 0 ∨ u.1 = 1) ∧ (u.1 = 1 → 2 ≤ K ∧ ct_plok sz la K R u.2.1 u.2.2.1 u.2.2.2.1 u.2.2.2.2.1 u.2.2.2.2.2) ∧ ct_plk u.2.1 u.2.2.2.1) ∧ r = nI (if 2 ≤ K then (ct_B (ct_jc sz la K R) (2 ^ K - 1)).1 else 0)) (fun (u : Nat × (Nat → Int32) × (Nat → Int32) × (Nat → Int32) × (Nat → Int32) × (Nat → Int32)) t => ct_at (dC, dI) ct_cl [(cI, .int)] (va_A [(h0, .inr (0, [.ref z0, .ref p0, .ref r0, .int tab, .ref k1, .int (nI K), .ref k2, .ref k3, .int (nI R), .ref k4, .int (nI pf), .int sm])), (p0, .inr (2, [.ref z0, .ref p1, .ref p2, .ref p3, .ref p4, .ref p5])), (p1, .inl (cI, 64, .inl fh)), (p2, .inl (cI, 64, .inl fl)), (p3, .inl (cI, 64, .inl fc)), (p4, .inl (cI, 64, .inl fp)), (p5, .inl (cI, 5, .inl fj)), (z0, .inr (1, [.ref z1])), (z1, .inl (cI, 8, .inl (fun j => nI (sz j)))), (k3, .inl (cI, 6, .inl fo))] sz0) [(h0, .inr (0, [.ref z0, .ref p0, .ref r0, .int tab, .ref k1, .int (nI K), .ref k2, .ref k3, .int (nI R), .ref k4, .int (nI (u.1)), .int sm])), (p0, .inr (2, [.ref z0, .ref p1, .ref p2, .ref p3, .ref p4, .ref p5])), (p1, .inl (cI, 64, .inl (u.2.1))), (p2, .inl (cI, 64, .inl (u.2.2.1))), (p3, .inl (cI, 64, .inl (u.2.2.2.1))), (p4, .inl (cI, 64, .inl (u.2.2.2.2.1))), (p5, .inl (cI, 5, .inl (u.2.2.2.2.2))), (z0, .inr (1, [.ref z1])), (z1, .inl (cI, 8, .inl (fun j => nI (sz j)))), (k3, .inl (cI, 6, .inl fo))] t) (va_A [(h0, .inr (0, [.ref z0, .ref p0, .ref r0, .int tab, .ref k1, .int (nI K), .ref k2, .ref k3, .int (nI R), .ref k4, .int (nI pf), .int sm])), (p0, .inr (2, [.ref z0, .ref p1, .ref p2, .ref p3, .ref p4, .ref p5])), (p1, .inl (cI, 64, .inl fh)), (p2, .inl (cI, 64, .inl fl)), (p3, .inl (cI, 64, .inl fc)), (p4, .inl (cI, 64, .inl fp)), (p5, .inl (cI, 5, .inl fj)), (z0, .inr (1, [.ref z1])), (z1, .inl (cI, 8, .inl (fun j => nI (sz j)))), (k3, .inl (cI, 6, .inl fo))] sz0)) 0 0 (va_A [(h0, .inr (0, [.ref z0, .ref p0, .ref r0, .int tab, .ref k1, .int (nI K), .ref k2, .ref k3, .int (nI R), .ref k4, .int (nI pf), .int sm])), (p0, .inr (2, [.ref z0, .ref p1, .ref p2, .ref p3, .ref p4, .ref p5])), (p1, .inl (cI, 64, .inl fh)), (p2, .inl (cI, 64, .inl fl)), (p3, .inl (cI, 64, .inl fc)), (p4, .inl (cI, 64, .inl fp)), (p5, .inl (cI, 5, .inl fj)), (z0, .inr (1, [.ref z1])), (z1, .inl (cI, 8, .inl (fun j => nI (sz j)))), (k3, .inl (cI, 6, .inl fo))] sz0) := by
  refine Met.ofW (cc := b_H_cost) (maxL := 1) (ret := (some .int)) (by decide) rfl ?_
  intro p e s m args below meth c s₁ Bd hml hv
  obtain ⟨hargs, hsz, hP, hK, hD0⟩ := hv
  have hx := Bd.exec
  have hb := Bd.bytes
  have hr := Bd.returns
  have hts : ∀ w ∈ k_H_cost :: ct_tb, w.before args s = true := atoms_spec (ws := w_H_cost) Bd.pre
  have hown : s.vm.findClass R_H = some m.cls := findClass_of_methodNamed Bd.named
  have hlocks := Bd.notSynchronized
  subst hsz
  have hD := hD0.self (sz := s.heap.size)
  generalize hAe : va_A [(h0, .inr (0, [.ref z0, .ref p0, .ref r0, .int tab, .ref k1, .int (nI K), .ref k2, .ref k3, .int (nI R), .ref k4, .int (nI pf), .int sm])), (p0, .inr (2, [.ref z0, .ref p1, .ref p2, .ref p3, .ref p4, .ref p5])), (p1, .inl (cI, 64, .inl fh)), (p2, .inl (cI, 64, .inl fl)), (p3, .inl (cI, 64, .inl fc)), (p4, .inl (cI, 64, .inl fp)), (p5, .inl (cI, 5, .inl fj)), (z0, .inr (1, [.ref z1])), (z1, .inl (cI, 8, .inl (fun j => nI (sz j)))), (k3, .inl (cI, 6, .inl fo))] s.heap.size = A at hD ⊢
  have hA : ∀ q : Nat, s.heap.size ≤ q → A q := fun q h => by rw [← hAe]; exact Or.inr h
  have hS : va_S A s.heap s.heap [] := va_S.rf
  have hl := lv_entry ([.ref h0]) (n := 1) (Nat.le_of_ble_eq_true rfl)
  rw [show entryFrame m args 1 = entryFrame m (([.ref h0] : List Value)).toArray 1 by rw [hargs], lg_entry_eq]
  generalize (lg_sl ([.ref h0]) ++ List.replicate (1 - (lg_sl ([.ref h0])).length) Slot.unset).toArray = ls at hl ⊢
  have hl : lv_has ls 1 [(0, .ref h0)] := hl
  refine lv_aload_n hx hb d_H_cost_0 rfl (lv_at hl 0 rfl) ?_
  refine va_get (D := (dC, dI)) (ci := 0) (v := .int (nI K)) (C := R_H) (T := T_H) (N := 12) hx hb hts (fun w h9 => ct_tl (ki_H w h9)) hown hK hP 0 rfl rfl 5 (by decide) (hts _ (ct_tl kw_119)) (fun _ h9 => h9) rfl d_H_cost_1 ?_
  refine lv_iconst (v := (nI 2)) hx hb d_H_cost_4 (by decide) ?_
  by_cases hK2 : 2 ≤ K
  · refine lv_icmp_ge (tgt := 10) hx hb d_H_cost_5 (by decide) (fun _ => ?_) (fun hc9 => absurd (nI_le hK2 (by omega)) hc9)
    have h2K := ct_2K K (by omega)
    refine lv_aload_n hx hb d_H_cost_10 rfl (lv_at hl 0 rfl) ?_
    have hPc := hP.sub (ws' := [(h0, .inr (0, [.ref z0, .ref p0, .ref r0, .int tab, .ref k1, .int (nI K), .ref k2, .ref k3, .int (nI R), .ref k4, .int (nI pf), .int sm])), (p0, .inr (2, [.ref z0, .ref p1, .ref p2, .ref p3, .ref p4, .ref p5])), (p1, .inl (cI, 64, .inl fh)), (p2, .inl (cI, 64, .inl fl)), (p3, .inl (cI, 64, .inl fc)), (p4, .inl (cI, 64, .inl fp)), (p5, .inl (cI, 5, .inl fj)), (z0, .inr (1, [.ref z1])), (z1, .inl (cI, 8, .inl (fun j => nI (sz j)))), (k3, .inl (cI, 6, .inl fo))]) [0, 1, 2, 3, 4, 5, 6, 7, 8, 9] rfl
    have hDc := hD.sub (ws' := [(h0, .inr (0, [.ref z0, .ref p0, .ref r0, .int tab, .ref k1, .int (nI K), .ref k2, .ref k3, .int (nI R), .ref k4, .int (nI pf), .int sm])), (p0, .inr (2, [.ref z0, .ref p1, .ref p2, .ref p3, .ref p4, .ref p5])), (p1, .inl (cI, 64, .inl fh)), (p2, .inl (cI, 64, .inl fl)), (p3, .inl (cI, 64, .inl fc)), (p4, .inl (cI, 64, .inl fp)), (p5, .inl (cI, 5, .inl fj)), (z0, .inr (1, [.ref z1])), (z1, .inl (cI, 8, .inl (fun j => nI (sz j)))), (k3, .inl (cI, 6, .inl fo))]) [0, 1, 2, 3, 4, 5, 6, 7, 8, 9] (by decide) rfl
    have hFc := va_free (wc := [(h0, .inr (0, [.ref z0, .ref p0, .ref r0, .int tab, .ref k1, .int (nI K), .ref k2, .ref k3, .int (nI R), .ref k4, .int (nI pf), .int sm])), (p0, .inr (2, [.ref z0, .ref p1, .ref p2, .ref p3, .ref p4, .ref p5])), (p1, .inl (cI, 64, .inl fh)), (p2, .inl (cI, 64, .inl fl)), (p3, .inl (cI, 64, .inl fc)), (p4, .inl (cI, 64, .inl fp)), (p5, .inl (cI, 5, .inl fj)), (z0, .inr (1, [.ref z1])), (z1, .inl (cI, 8, .inl (fun j => nI (sz j)))), (k3, .inl (cI, 6, .inl fo))]) hD hS hA [0, 1, 2, 3, 4, 5, 6, 7, 8, 9] rfl
    refine va_callv (va_runV (As := []) (rest := []) ⟨hx, hb, hml, hown, hts⟩ (c_H_makePlan l dC dI cI z1 sz p1 p2 p3 p4 p5 h0 z0 p0 r0 k1 k2 k3 k4 tab sm K R pf fh fl fc fp fj fo la hK6 hK2 hsz hla hfo hk0 hpf (fun z => (hok z).2) s.heap.size) (cwV 0 hts (ct_giV (fun w h9 => ct_tl h9) kw_163 kw_165 kw_1 kw_26 kw_166) rfl rfl rfl (by decide +kernel) ⟨Nat.le_of_ble_eq_true rfl, Nat.le_of_ble_eq_true rfl⟩) ⟨ct_rw_blind, va_recv hK hP (ci := 0) (q0 := 0) rfl rfl, ct_rw_pre hPc hK hDc⟩ rfl rfl hl.1 rfl (lv_room (Nat.le_of_ble_eq_true rfl)) d_H_cost_11 ⟨Nat.le_of_ble_eq_true rfl, Nat.le_of_ble_eq_true rfl⟩) hS (fun q _ h9 => hFc q h9) hFc (fun ⟨gh, gl, gc, gp, gj⟩ tS H1 locs ht hvm hmk hB hz1 hk1 hS => ?_)
    obtain ⟨hP1, -, hD1⟩ := hB
    rw [ht] at hP1
    obtain ⟨hP, hD⟩ := va_join (wr := []) (w1 := [(h0, .inr (0, [.ref z0, .ref p0, .ref r0, .int tab, .ref k1, .int (nI K), .ref k2, .ref k3, .int (nI R), .ref k4, .int (nI 1), .int sm])), (p0, .inr (2, [.ref z0, .ref p1, .ref p2, .ref p3, .ref p4, .ref p5])), (p1, .inl (cI, 64, .inl gh)), (p2, .inl (cI, 64, .inl gl)), (p3, .inl (cI, 64, .inl gc)), (p4, .inl (cI, 64, .inl gp)), (p5, .inl (cI, 5, .inl gj)), (z0, .inr (1, [.ref z1])), (z1, .inl (cI, 8, .inl (fun j => nI (sz j)))), (k3, .inl (cI, 6, .inl fo))]) hP hD [0, 1, 2, 3, 4, 5, 6, 7, 8, 9] [] rfl rfl (by decide) (by decide) hk1 hFc hP1 hD1
    generalize H1 = H at hP hS ⊢
    have hP : va_P (dC, dI) ct_cl [(h0, .inr (0, [.ref z0, .ref p0, .ref r0, .int tab, .ref k1, .int (nI K), .ref k2, .ref k3, .int (nI R), .ref k4, .int (nI 1), .int sm])), (p0, .inr (2, [.ref z0, .ref p1, .ref p2, .ref p3, .ref p4, .ref p5])), (p1, .inl (cI, 64, .inl gh)), (p2, .inl (cI, 64, .inl gl)), (p3, .inl (cI, 64, .inl gc)), (p4, .inl (cI, 64, .inl gp)), (p5, .inl (cI, 5, .inl gj)), (z0, .inr (1, [.ref z1])), (z1, .inl (cI, 8, .inl (fun j => nI (sz j)))), (k3, .inl (cI, 6, .inl fo))] H := hP
    have hD : va_D A [(h0, .inr (0, [.ref z0, .ref p0, .ref r0, .int tab, .ref k1, .int (nI K), .ref k2, .ref k3, .int (nI R), .ref k4, .int (nI 1), .int sm])), (p0, .inr (2, [.ref z0, .ref p1, .ref p2, .ref p3, .ref p4, .ref p5])), (p1, .inl (cI, 64, .inl gh)), (p2, .inl (cI, 64, .inl gl)), (p3, .inl (cI, 64, .inl gc)), (p4, .inl (cI, 64, .inl gp)), (p5, .inl (cI, 5, .inl gj)), (z0, .inr (1, [.ref z1])), (z1, .inl (cI, 8, .inl (fun j => nI (sz j)))), (k3, .inl (cI, 6, .inl fo))] := hD
    refine lv_aload_n hx hb d_H_cost_14 rfl (lv_at hl 0 rfl) ?_
    refine va_get (D := (dC, dI)) (ci := 0) (v := .ref p0) (C := R_H) (T := T_H) (N := 12) hx hb hts (fun w h9 => ct_tl (ki_H w h9)) hown hK hP 0 rfl rfl 1 (by decide) (hts _ (ct_tl kw_115)) (fun _ h9 => h9) rfl d_H_cost_15 ?_
    refine lv_aload_n hx hb d_H_cost_18 rfl (lv_at hl 0 rfl) ?_
    refine va_calli (va_runV (As := []) (rest := [.ref p0]) ⟨hx, hb, hml, hown, hts⟩ (c_H_allOperands l dC dI cI h0 z0 p0 r0 k1 k2 k3 k4 tab K (nI R) (nI 1) sm hK6) (cwV 0 hts (ct_giV (fun w h9 => ct_tl h9) kw_208 kw_210 kw_6 kw_26 kw_211) rfl rfl rfl (by decide +kernel) ⟨Nat.le_of_ble_eq_true rfl, Nat.le_of_ble_eq_true rfl⟩) ⟨ct_ro_blind, va_recv hK hP (ci := 0) (q0 := 0) rfl rfl, ct_ro_pre (hP.sub [0] rfl) hK⟩ rfl rfl hl.1 rfl (lv_room (Nat.le_of_ble_eq_true rfl)) d_H_cost_19 ⟨Nat.le_of_ble_eq_true rfl, Nat.le_of_ble_eq_true rfl⟩) hS (fun q _ h9 => h9.elim) (fun q h9 => h9.elim) (fun ans101 uS tS H locs ht hvm hwans101 hB hz1 hk1 hS => ?_)
    have hP := ct_keep hP hk1
    refine ct_val (y := nI (2 ^ K - 1)) (hwans101) ?_
    refine va_calli (va_runV (As := [.int (nI (2 ^ K - 1))]) (rest := []) ⟨hx, hb, hml, hown, hts⟩ (c_P_costOf l dC dI cI z0 p0 p1 p2 p3 p4 p5 gc (2 ^ K - 1) (by omega)) (cwV 1 hts (ct_giV (fun w h9 => ct_tl h9) kw_212 kw_213 kw_214 kw_28 kw_215) rfl rfl rfl (by decide +kernel) ⟨Nat.le_of_ble_eq_true rfl, Nat.le_of_ble_eq_true rfl⟩) ⟨ct_ro_blind, va_recv hK hP (ci := 2) (q0 := 1) rfl rfl, ct_ro_pre (hP.sub [1, 4] rfl) hK⟩ rfl rfl hl.1 rfl (lv_room (Nat.le_of_ble_eq_true rfl)) d_H_cost_22 ⟨Nat.le_of_ble_eq_true rfl, Nat.le_of_ble_eq_true rfl⟩) hS (fun q _ h9 => h9.elim) (fun q h9 => h9.elim) (fun ans102 uS tS H locs ht hvm hwans102 hB hz1 hk1 hS => ?_)
    have hP := ct_keep hP hk1
    refine ct_val (y := gc (2 ^ K - 1)) (hwans102) ?_
    have hsall := ct_sev0 (ct_sev_all K (by omega) hK2)
    have hP9 := hP.sub [0, 1, 2, 3, 4, 5, 6, 7, 8, 9] rfl
    exact W.iret (v := (gc (2 ^ K - 1))) hx hb hr (fun tS ht hW => ⟨⟨(gc (2 ^ K - 1)), (1, gh, gl, gc, gp, gj), rfl, ⟨⟨Or.inr rfl, fun _ => ⟨hK2, hmk.1⟩, hmk.2⟩, by rw [if_pos hK2]; exact hmk.1.2.2.1 _ hsall (by omega)⟩, by rw [ht]; exact hP9, va_K.moved hW.alike hK, hD.sub [0, 1, 2, 3, 4, 5, 6, 7, 8, 9] (by decide) rfl⟩, hS.F ht⟩) hS.2.2 d_H_cost_25
  · refine lv_icmp_ge (tgt := 10) hx hb d_H_cost_5 (by decide) (fun hc9 => absurd hc9 (nI_ge (by omega) (by omega))) (fun _ => ?_)
    refine lv_iconst (v := (nI 0)) hx hb d_H_cost_8 (by decide) ?_
    have hP9 := hP.sub [0, 1, 2, 3, 4, 5, 6, 7, 8, 9] rfl
    exact W.iret (v := (nI 0)) hx hb hr (fun tS ht hW => ⟨⟨(nI 0), (pf, fh, fl, fc, fp, fj), rfl, ⟨⟨hpf, hok, hk0⟩, by rw [if_neg hK2]⟩, by rw [ht]; exact hP9, va_K.moved hW.alike hK, hD.sub [0, 1, 2, 3, 4, 5, 6, 7, 8, 9] (by decide) rfl⟩, hS.F ht⟩) hS.2.2 d_H_cost_9
/-- what step k of the plan says -/
def ct_stv (sz la : Nat → Nat) (K R k j : Nat) : Nat :=
  let S := (ct_ls (ct_B (ct_jc sz la K R)) 64 (2 ^ K - 1)).getD k 0
  let a := (ct_B (ct_jc sz la K R) S).2
  if j = 0 then a else if j = 1 then S ^^^ a else if j = 2 then ct_jc sz la K R a (S ^^^ a) else ct_lv la K R a ||| ct_lv la K R (S ^^^ a)
theorem ct_isn4 {y : Int32} : ct_isn 4 y = (!decide (y < 0) && decide (y ≤ nI 3)) := by
  unfold ct_isn
  congr 1
  by_cases h : nI 4 ≤ y
  · have h1 : ¬ y ≤ nI 3 := fun z => by
      have e1 := Int32.le_iff_toInt_le.mp h
      have e2 := Int32.le_iff_toInt_le.mp z
      have e3 : (nI 4).toInt = 4 := by decide
      have e4 : (nI 3).toInt = 3 := by decide
      omega
    simp [h, h1]
  · have h1 : y ≤ nI 3 := Int32.le_iff_toInt_le.mpr (by
      have e1 : ¬ (nI 4).toInt ≤ y.toInt := fun z => h (Int32.le_iff_toInt_le.mpr z)
      have e3 : (nI 4).toInt = 4 := by decide
      have e4 : (nI 3).toInt = 3 := by decide
      omega)
    simp [h, h1]
set_option maxHeartbeats 4000000 in
set_option maxRecDepth 100000 in
theorem c_H_step (l : Launch) (hst : l.stackTraces = false) (dC : Nat → ClassId) (dI : Nat → Nat → Nat) (cI : ClassId) (z1 : Nat) (sz : Nat → Nat) (p1 p2 p3 p4 p5 : Nat) (h0 z0 p0 r0 k1 k2 k3 k4 : Nat) (tab sm : Int32) (K R pf : Nat) (fh fl fc fp fj fo : Nat → Int32) (la : Nat → Nat) (hK6 : K ≤ 6) (hsz : ∀ k, k < 8 → sz k ≤ 3) (hla : ∀ k, k < K → la k < 256) (hfo : ∀ j, j < K → fo j = nI (la j)) (hk0 : ct_plk fh fc) (hpf : pf = 0 ∨ pf = 1) (hok : pf = 1 → 2 ≤ K ∧ ct_plok sz la K R fh fl fc fp fj) (x y : Int32) (sz0 : Nat) : vx_Met l y_H_step w_H_step ({ frames := 6, cells := 1, slots := 6, locals := 117 }) (va_Pc [.ref h0, .int x, .int y] (ct_rx (dC, dI) ct_cl [(h0, .inr (0, [.ref z0, .ref p0, .ref r0, .int tab, .ref k1, .int (nI K), .ref k2, .ref k3, .int (nI R), .ref k4, .int (nI pf), .int sm])), (p0, .inr (2, [.ref z0, .ref p1, .ref p2, .ref p3, .ref p4, .ref p5])), (p1, .inl (cI, 64, .inl fh)), (p2, .inl (cI, 64, .inl fl)), (p3, .inl (cI, 64, .inl fc)), (p4, .inl (cI, 64, .inl fp)), (p5, .inl (cI, 5, .inl fj)), (z0, .inr (1, [.ref z1])), (z1, .inl (cI, 8, .inl (fun j => nI (sz j)))), (k3, .inl (cI, 6, .inl fo))] [(cI, .int)] sz0)) (va_Qi (fun (r : Int32) (u : Nat × (Nat → Int32) × (Nat → Int32) × (Nat → Int32) × (Nat → Int32) × (Nat → Int32)) => ((u.1 = 0 ∨ u.1 = 1) ∧ (u.1 = 1 → 2 ≤ K ∧ ct_plok sz la K R u.2.1 u.2.2.1 u.2.2.2.1 u.2.2.2.2.1 u.2.2.2.2.2) ∧ ct_plk u.2.1 u.2.2.2.1) ∧ ∃ k j : Nat, x = nI k ∧ k < K - 1 ∧ y = nI j ∧ j < 4 ∧ r = nI (ct_stv sz la K R k j)) (fun (u : Nat × (Nat → Int32) × (Nat → Int32) × (Nat → Int32) × (Nat → Int32) × (Nat → Int32)) t => ct_at (dC, dI) ct_cl [(cI, .int)] (va_A [(h0, .inr (0, [.ref z0, .ref p0, .ref r0, .int tab, .ref k1, .int (nI K), .ref k2, .ref k3, .int (nI R), .ref k4, .int (nI pf), .int sm])), (p0, .inr (2, [.ref z0, .ref p1, .ref p2, .ref p3, .ref p4, .ref p5])), (p1, .inl (cI, 64, .inl fh)), (p2, .inl (cI, 64, .inl fl)), (p3, .inl (cI, 64, .inl fc)), (p4, .inl (cI, 64, .inl fp)), (p5, .inl (cI, 5, .inl fj)), (z0, .inr (1, [.ref z1])), (z1, .inl (cI, 8, .inl (fun j => nI (sz j)))), (k3, .inl (cI, 6, .inl fo))] sz0) [(h0, .inr (0, [.ref z0, .ref p0, .ref r0, .int tab, .ref k1, .int (nI K), .ref k2, .ref k3, .int (nI R), .ref k4, .int (nI (u.1)), .int sm])), (p0, .inr (2, [.ref z0, .ref p1, .ref p2, .ref p3, .ref p4, .ref p5])), (p1, .inl (cI, 64, .inl (u.2.1))), (p2, .inl (cI, 64, .inl (u.2.2.1))), (p3, .inl (cI, 64, .inl (u.2.2.2.1))), (p4, .inl (cI, 64, .inl (u.2.2.2.2.1))), (p5, .inl (cI, 5, .inl (u.2.2.2.2.2))), (z0, .inr (1, [.ref z1])), (z1, .inl (cI, 8, .inl (fun j => nI (sz j)))), (k3, .inl (cI, 6, .inl fo))] t) (va_A [(h0, .inr (0, [.ref z0, .ref p0, .ref r0, .int tab, .ref k1, .int (nI K), .ref k2, .ref k3, .int (nI R), .ref k4, .int (nI pf), .int sm])), (p0, .inr (2, [.ref z0, .ref p1, .ref p2, .ref p3, .ref p4, .ref p5])), (p1, .inl (cI, 64, .inl fh)), (p2, .inl (cI, 64, .inl fl)), (p3, .inl (cI, 64, .inl fc)), (p4, .inl (cI, 64, .inl fp)), (p5, .inl (cI, 5, .inl fj)), (z0, .inr (1, [.ref z1])), (z1, .inl (cI, 8, .inl (fun j => nI (sz j)))), (k3, .inl (cI, 6, .inl fo))] sz0)) (vx_X (fun (_ : Unit) => True) (fun (E : String) (_ : Unit) t => ((ct_isn (K - 1) x = false ∧ E = R_IOE) ∨ (ct_isn (K - 1) x = true ∧ ct_isn 4 y = false ∧ E = R_IAE)) ∧ ct_at (dC, dI) ct_cl [(cI, .int)] (va_A [(h0, .inr (0, [.ref z0, .ref p0, .ref r0, .int tab, .ref k1, .int (nI K), .ref k2, .ref k3, .int (nI R), .ref k4, .int (nI pf), .int sm])), (p0, .inr (2, [.ref z0, .ref p1, .ref p2, .ref p3, .ref p4, .ref p5])), (p1, .inl (cI, 64, .inl fh)), (p2, .inl (cI, 64, .inl fl)), (p3, .inl (cI, 64, .inl fc)), (p4, .inl (cI, 64, .inl fp)), (p5, .inl (cI, 5, .inl fj)), (z0, .inr (1, [.ref z1])), (z1, .inl (cI, 8, .inl (fun j => nI (sz j)))), (k3, .inl (cI, 6, .inl fo))] sz0) [(h0, .inr (0, [.ref z0, .ref p0, .ref r0, .int tab, .ref k1, .int (nI K), .ref k2, .ref k3, .int (nI R), .ref k4, .int (nI pf), .int sm])), (p0, .inr (2, [.ref z0, .ref p1, .ref p2, .ref p3, .ref p4, .ref p5])), (p1, .inl (cI, 64, .inl fh)), (p2, .inl (cI, 64, .inl fl)), (p3, .inl (cI, 64, .inl fc)), (p4, .inl (cI, 64, .inl fp)), (p5, .inl (cI, 5, .inl fj)), (z0, .inr (1, [.ref z1])), (z1, .inl (cI, 8, .inl (fun j => nI (sz j)))), (k3, .inl (cI, 6, .inl fo))] t) (va_A [(h0, .inr (0, [.ref z0, .ref p0, .ref r0, .int tab, .ref k1, .int (nI K), .ref k2, .ref k3, .int (nI R), .ref k4, .int (nI pf), .int sm])), (p0, .inr (2, [.ref z0, .ref p1, .ref p2, .ref p3, .ref p4, .ref p5])), (p1, .inl (cI, 64, .inl fh)), (p2, .inl (cI, 64, .inl fl)), (p3, .inl (cI, 64, .inl fc)), (p4, .inl (cI, 64, .inl fp)), (p5, .inl (cI, 5, .inl fj)), (z0, .inr (1, [.ref z1])), (z1, .inl (cI, 8, .inl (fun j => nI (sz j)))), (k3, .inl (cI, 6, .inl fo))] sz0)) 1 6 (va_A [(h0, .inr (0, [.ref z0, .ref p0, .ref r0, .int tab, .ref k1, .int (nI K), .ref k2, .ref k3, .int (nI R), .ref k4, .int (nI pf), .int sm])), (p0, .inr (2, [.ref z0, .ref p1, .ref p2, .ref p3, .ref p4, .ref p5])), (p1, .inl (cI, 64, .inl fh)), (p2, .inl (cI, 64, .inl fl)), (p3, .inl (cI, 64, .inl fc)), (p4, .inl (cI, 64, .inl fp)), (p5, .inl (cI, 5, .inl fj)), (z0, .inr (1, [.ref z1])), (z1, .inl (cI, 8, .inl (fun j => nI (sz j)))), (k3, .inl (cI, 6, .inl fo))] sz0) := by
  refine vx_ofW (cc := b_H_step) (maxL := 6) (ret := (some .int)) (by decide) rfl ?_
  intro p e s m args below meth c s₁ Bd hml htab hv
  obtain ⟨hargs, ⟨hsz, hP, hK, hD0⟩, hXw⟩ := hv
  have hx := Bd.exec
  have hb := Bd.bytes
  have hr := Bd.returns
  have hts : ∀ w ∈ k_H_step :: ct_tb, w.before args s = true := atoms_spec (ws := w_H_step) Bd.pre
  have hown : s.vm.findClass R_H = some m.cls := findClass_of_methodNamed Bd.named
  have hlocks := Bd.notSynchronized
  subst hsz
  have hD := hD0.self (sz := s.heap.size)
  generalize hAe : va_A [(h0, .inr (0, [.ref z0, .ref p0, .ref r0, .int tab, .ref k1, .int (nI K), .ref k2, .ref k3, .int (nI R), .ref k4, .int (nI pf), .int sm])), (p0, .inr (2, [.ref z0, .ref p1, .ref p2, .ref p3, .ref p4, .ref p5])), (p1, .inl (cI, 64, .inl fh)), (p2, .inl (cI, 64, .inl fl)), (p3, .inl (cI, 64, .inl fc)), (p4, .inl (cI, 64, .inl fp)), (p5, .inl (cI, 5, .inl fj)), (z0, .inr (1, [.ref z1])), (z1, .inl (cI, 8, .inl (fun j => nI (sz j)))), (k3, .inl (cI, 6, .inl fo))] s.heap.size = A at hD hXw ⊢
  have hA : ∀ q : Nat, s.heap.size ≤ q → A q := fun q h => by rw [← hAe]; exact Or.inr h
  have hS : va_S A s.heap s.heap [] := va_S.rf
  have hl := lv_entry ([.ref h0, .int x, .int y]) (n := 6) (Nat.le_of_ble_eq_true rfl)
  rw [show entryFrame m args 6 = entryFrame m (([.ref h0, .int x, .int y] : List Value)).toArray 6 by rw [hargs], lg_entry_eq]
  generalize (lg_sl ([.ref h0, .int x, .int y]) ++ List.replicate (6 - (lg_sl ([.ref h0, .int x, .int y])).length) Slot.unset).toArray = ls at hl ⊢
  have hl : lv_has ls 6 [(0, .ref h0), (1, .int x), (2, .int y)] := hl
  by_cases c1 : x < 0
  · refine lv_iload_n hx hb d_H_step_0 rfl (lv_at hl 1 rfl) ?_
    refine lv_if_lt (tgt := 12) hx hb d_H_step_1 (by decide) (fun _ => ?_) (fun hc9 => absurd (c1) hc9)
    obtain ⟨sa, hstr⟩ := hXw.2.1 (134, "no such step") (by decide)
    exact vx_throwS (own := R_H) (cls := R_IOE) (text := "no such step") (names := ct_sup) (sa := sa) hx hb hst hown kf_IOE.1 kf_IOE.2 (hts _ (ct_tl kl_IOE)) (hts _ (ct_tl kn_IOE)) hstr (kt_IOE hts hXw) kg_IOE hXw.2.2.1 hXw.2.2.2 hS (hl.1.trans hml.symm) d_H_step_12 d_H_step_15 d_H_step_16 d_H_step_18 d_H_step_21 (fun x hx9 => (htab x hx9).elim) (Nat.le_of_ble_eq_true rfl) (Nat.le_of_ble_eq_true rfl) (Nat.le_of_ble_eq_true rfl) (Nat.le_of_ble_eq_true rfl) hlocks (fun tS hal9 hz9 hk9 => ⟨(), trivial, ⟨Or.inl ⟨by simp [ct_isn, c1], rfl⟩, (ct_thr (hP.sub [0, 1, 2, 3, 4, 5, 6, 7, 8, 9] rfl) hK (hD.sub [0, 1, 2, 3, 4, 5, 6, 7, 8, 9] (by decide) rfl) hS hal9 hz9 hk9).1⟩, (ct_thr hP hK hD hS hal9 hz9 hk9).2⟩) hS.2.2 (Nat.le_of_ble_eq_true rfl) (Nat.le_of_ble_eq_true rfl)
  · refine lv_iload_n hx hb d_H_step_0 rfl (lv_at hl 1 rfl) ?_
    refine lv_if_lt (tgt := 12) hx hb d_H_step_1 (by decide) (fun hc9 => absurd hc9 (c1)) (fun _ => ?_)
    refine lv_iload_n hx hb d_H_step_4 rfl (lv_at hl 1 rfl) ?_
    refine lv_aload_n hx hb d_H_step_5 rfl (lv_at hl 0 rfl) ?_
    refine va_calli (va_runV (As := []) (rest := [.int x]) ⟨hx, hb, hml, hown, hts⟩ (c_H_countSteps l dC dI cI h0 z0 p0 r0 k1 k2 k3 k4 tab K (nI R) (nI pf) sm hK6) (cwV 0 hts (ct_giV (fun w h9 => ct_tl h9) kw_422 kw_424 kw_10 kw_26 kw_425) rfl rfl rfl (by decide +kernel) ⟨Nat.le_of_ble_eq_true rfl, Nat.le_of_ble_eq_true rfl⟩) ⟨ct_ro_blind, va_recv hK hP (ci := 0) (q0 := 0) rfl rfl, ct_ro_pre (hP.sub [0] rfl) hK⟩ rfl rfl hl.1 rfl (lv_room (Nat.le_of_ble_eq_true rfl)) d_H_step_6 ⟨Nat.zero_le _, Nat.zero_le _⟩) hS (fun q _ h9 => h9.elim) (fun q h9 => h9.elim) (fun ans101 uS tS H locs ht hvm hwans101 hB hz1 hk1 hS => ?_)
    have hP := ct_keep hP hk1
    refine ct_val (y := nI (K - 1)) (hwans101) ?_
    by_cases c2 : x < nI (K - 1)
    · refine lv_icmp_lt (tgt := 22) hx hb d_H_step_9 (by decide) (fun _ => ?_) (fun hc9 => absurd (c2) hc9)
      have hqx : ct_isn (K - 1) x = true := by simp [ct_isn, c1, Int32.not_le.mpr c2]
      refine lv_iload_n hx hb d_H_step_22 rfl (lv_at hl 2 rfl) ?_
      by_cases c3 : y < 0
      · refine lv_if_lt (tgt := 31) hx hb d_H_step_23 (by decide) (fun _ => ?_) (fun hc9 => absurd (c3) hc9)
        obtain ⟨sa, hstr⟩ := hXw.2.1 (136, "what is 0 to 3") (by decide)
        exact vx_throwS (own := R_H) (cls := R_IAE) (text := "what is 0 to 3") (names := ct_sup) (sa := sa) hx hb hst hown kf_IAE.1 kf_IAE.2 (hts _ (ct_tl kl_IAE)) (hts _ (ct_tl kn_IAE)) hstr (kt_IAE hts hXw) kg_IAE hXw.2.2.1 hXw.2.2.2 hS (hl.1.trans hml.symm) d_H_step_31 d_H_step_34 d_H_step_35 d_H_step_37 d_H_step_40 (fun x hx9 => (htab x hx9).elim) (Nat.le_of_ble_eq_true rfl) (Nat.le_of_ble_eq_true rfl) (Nat.le_of_ble_eq_true rfl) (Nat.le_of_ble_eq_true rfl) hlocks (fun tS hal9 hz9 hk9 => ⟨(), trivial, ⟨Or.inr ⟨hqx, by simp [ct_isn, c3], rfl⟩, (ct_thr (hP.sub [0, 1, 2, 3, 4, 5, 6, 7, 8, 9] rfl) hK (hD.sub [0, 1, 2, 3, 4, 5, 6, 7, 8, 9] (by decide) rfl) hS hal9 hz9 hk9).1⟩, (ct_thr hP hK hD hS hal9 hz9 hk9).2⟩) hS.2.2 (Nat.le_of_ble_eq_true rfl) (Nat.le_of_ble_eq_true rfl)
      · refine lv_if_lt (tgt := 31) hx hb d_H_step_23 (by decide) (fun hc9 => absurd hc9 (c3)) (fun _ => ?_)
        refine lv_iload_n hx hb d_H_step_26 rfl (lv_at hl 2 rfl) ?_
        refine lv_iconst (v := (nI 3)) hx hb d_H_step_27 (by decide) ?_
        by_cases c4 : y ≤ nI 3
        · refine lv_icmp_le (tgt := 41) hx hb d_H_step_28 (by decide) (fun _ => ?_) (fun hc9 => absurd (c4) hc9)
          obtain ⟨k, hk, rfl⟩ := ct_isn_of (by omega) hqx
          obtain ⟨j, hj, rfl⟩ := ct_isn_of (n := 4) (by omega) (x := y) (by rw [ct_isn4]; simp [c3, c4])
          have hK2 : 2 ≤ K := by omega
          have h2K := ct_2K K (by omega)
          refine lv_aload_n hx hb d_H_step_41 rfl (lv_at hl 0 rfl) ?_
          have hPc := hP.sub (ws' := [(h0, .inr (0, [.ref z0, .ref p0, .ref r0, .int tab, .ref k1, .int (nI K), .ref k2, .ref k3, .int (nI R), .ref k4, .int (nI pf), .int sm])), (p0, .inr (2, [.ref z0, .ref p1, .ref p2, .ref p3, .ref p4, .ref p5])), (p1, .inl (cI, 64, .inl fh)), (p2, .inl (cI, 64, .inl fl)), (p3, .inl (cI, 64, .inl fc)), (p4, .inl (cI, 64, .inl fp)), (p5, .inl (cI, 5, .inl fj)), (z0, .inr (1, [.ref z1])), (z1, .inl (cI, 8, .inl (fun j => nI (sz j)))), (k3, .inl (cI, 6, .inl fo))]) [0, 1, 2, 3, 4, 5, 6, 7, 8, 9] rfl
          have hDc := hD.sub (ws' := [(h0, .inr (0, [.ref z0, .ref p0, .ref r0, .int tab, .ref k1, .int (nI K), .ref k2, .ref k3, .int (nI R), .ref k4, .int (nI pf), .int sm])), (p0, .inr (2, [.ref z0, .ref p1, .ref p2, .ref p3, .ref p4, .ref p5])), (p1, .inl (cI, 64, .inl fh)), (p2, .inl (cI, 64, .inl fl)), (p3, .inl (cI, 64, .inl fc)), (p4, .inl (cI, 64, .inl fp)), (p5, .inl (cI, 5, .inl fj)), (z0, .inr (1, [.ref z1])), (z1, .inl (cI, 8, .inl (fun j => nI (sz j)))), (k3, .inl (cI, 6, .inl fo))]) [0, 1, 2, 3, 4, 5, 6, 7, 8, 9] (by decide) rfl
          have hFc := va_free (wc := [(h0, .inr (0, [.ref z0, .ref p0, .ref r0, .int tab, .ref k1, .int (nI K), .ref k2, .ref k3, .int (nI R), .ref k4, .int (nI pf), .int sm])), (p0, .inr (2, [.ref z0, .ref p1, .ref p2, .ref p3, .ref p4, .ref p5])), (p1, .inl (cI, 64, .inl fh)), (p2, .inl (cI, 64, .inl fl)), (p3, .inl (cI, 64, .inl fc)), (p4, .inl (cI, 64, .inl fp)), (p5, .inl (cI, 5, .inl fj)), (z0, .inr (1, [.ref z1])), (z1, .inl (cI, 8, .inl (fun j => nI (sz j)))), (k3, .inl (cI, 6, .inl fo))]) hD hS hA [0, 1, 2, 3, 4, 5, 6, 7, 8, 9] rfl
          refine va_callv (va_runV (As := []) (rest := []) ⟨hx, hb, hml, hown, hts⟩ (c_H_makePlan l dC dI cI z1 sz p1 p2 p3 p4 p5 h0 z0 p0 r0 k1 k2 k3 k4 tab sm K R pf fh fl fc fp fj fo la hK6 hK2 hsz hla hfo hk0 hpf (fun z => (hok z).2) H.size) (cwV 0 hts (ct_giV (fun w h9 => ct_tl h9) kw_163 kw_165 kw_1 kw_26 kw_166) rfl rfl rfl (by decide +kernel) ⟨Nat.le_of_ble_eq_true rfl, Nat.le_of_ble_eq_true rfl⟩) ⟨ct_rw_blind, va_recv hK hP (ci := 0) (q0 := 0) rfl rfl, ct_rw_pre hPc hK hDc⟩ rfl rfl hl.1 rfl (lv_room (Nat.le_of_ble_eq_true rfl)) d_H_step_42 ⟨Nat.zero_le _, Nat.zero_le _⟩) hS (fun q _ h9 => hFc q h9) hFc (fun ⟨gh, gl, gc, gp, gj⟩ tS H1 locs ht hvm hmk hB hz1 hk1 hS => ?_)
          obtain ⟨hP1, -, hD1⟩ := hB
          rw [ht] at hP1
          obtain ⟨hP, hD⟩ := va_join (wr := []) (w1 := [(h0, .inr (0, [.ref z0, .ref p0, .ref r0, .int tab, .ref k1, .int (nI K), .ref k2, .ref k3, .int (nI R), .ref k4, .int (nI 1), .int sm])), (p0, .inr (2, [.ref z0, .ref p1, .ref p2, .ref p3, .ref p4, .ref p5])), (p1, .inl (cI, 64, .inl gh)), (p2, .inl (cI, 64, .inl gl)), (p3, .inl (cI, 64, .inl gc)), (p4, .inl (cI, 64, .inl gp)), (p5, .inl (cI, 5, .inl gj)), (z0, .inr (1, [.ref z1])), (z1, .inl (cI, 8, .inl (fun j => nI (sz j)))), (k3, .inl (cI, 6, .inl fo))]) hP hD [0, 1, 2, 3, 4, 5, 6, 7, 8, 9] [] rfl rfl (by decide) (by decide) hk1 hFc hP1 hD1
          generalize H1 = H at hP hS ⊢
          have hP : va_P (dC, dI) ct_cl [(h0, .inr (0, [.ref z0, .ref p0, .ref r0, .int tab, .ref k1, .int (nI K), .ref k2, .ref k3, .int (nI R), .ref k4, .int (nI 1), .int sm])), (p0, .inr (2, [.ref z0, .ref p1, .ref p2, .ref p3, .ref p4, .ref p5])), (p1, .inl (cI, 64, .inl gh)), (p2, .inl (cI, 64, .inl gl)), (p3, .inl (cI, 64, .inl gc)), (p4, .inl (cI, 64, .inl gp)), (p5, .inl (cI, 5, .inl gj)), (z0, .inr (1, [.ref z1])), (z1, .inl (cI, 8, .inl (fun j => nI (sz j)))), (k3, .inl (cI, 6, .inl fo))] H := hP
          have hD : va_D A [(h0, .inr (0, [.ref z0, .ref p0, .ref r0, .int tab, .ref k1, .int (nI K), .ref k2, .ref k3, .int (nI R), .ref k4, .int (nI 1), .int sm])), (p0, .inr (2, [.ref z0, .ref p1, .ref p2, .ref p3, .ref p4, .ref p5])), (p1, .inl (cI, 64, .inl gh)), (p2, .inl (cI, 64, .inl gl)), (p3, .inl (cI, 64, .inl gc)), (p4, .inl (cI, 64, .inl gp)), (p5, .inl (cI, 5, .inl gj)), (z0, .inr (1, [.ref z1])), (z1, .inl (cI, 8, .inl (fun j => nI (sz j)))), (k3, .inl (cI, 6, .inl fo))] := hD
          have hokB := ct_okB_B (ct_jc sz la K R)
          have hsall := ct_sev_all K (by omega) hK2
          have hlen : (ct_ls (ct_B (ct_jc sz la K R)) 64 (2 ^ K - 1)).length = K - 1 := by have h9 := ct_ls_len hokB 64 (2 ^ K - 1) (by omega) (by omega) (ct_sev0 hsall); rw [ct_pop_all K (by omega)] at h9; omega
          have hprev := ct_ls_prev hokB 64 (2 ^ K - 1) (by omega) (by omega) k (by omega)
          have hSK := ct_mem_lt (K := K) hokB 64 (2 ^ K - 1) (by omega) (by omega) (by omega) ((ct_ls (ct_B (ct_jc sz la K R)) 64 (2 ^ K - 1)).getD k 0) (by rw [List.getD_eq_getElem?_getD, List.getElem?_eq_getElem (by omega)]; exact List.getElem_mem _)
          have hgj := hmk.1.2.2.2.2 k hk
          have hstv : ∀ j, ct_stv sz la K R k j = ct_stv sz la K R k j := fun _ => rfl
          have eS : ∃ S, ((ct_ls (ct_B (ct_jc sz la K R)) 64 (2 ^ K - 1)).getD k 0) = S := ⟨_, rfl⟩
          obtain ⟨S, eS⟩ := eS
          rw [eS] at hprev hSK hgj
          obtain ⟨hs, hS6, -, -⟩ := hprev
          have hp := hokB S hS6 hs
          have hpc := ct_pt_co S hS6 _ hp.1 hp.2
          have hp0 := ct_pt_pos hp.2
          have hgp := hmk.1.2.2.2.1 S hSK hs
          have ha : ∃ a, (ct_B (ct_jc sz la K R) S).2 = a := ⟨_, rfl⟩
          obtain ⟨a, ha⟩ := ha
          rw [ha] at hgp hp hpc hp0
          have hla1 := hmk.1.2.1 a hp0 (by omega)
          have hlb1 := hmk.1.2.1 (S ^^^ a) hpc.1 (by omega)
          have hval : ct_stv sz la K R k j = if j = 0 then a else if j = 1 then S ^^^ a else if j = 2 then ct_jc sz la K R a (S ^^^ a) else ct_lv la K R a ||| ct_lv la K R (S ^^^ a) := by unfold ct_stv; rw [eS]; dsimp only; rw [ha]
          refine lv_aload_n hx hb d_H_step_45 rfl (lv_at hl 0 rfl) ?_
          refine va_get (D := (dC, dI)) (ci := 0) (v := .ref p0) (C := R_H) (T := T_H) (N := 12) hx hb hts (fun w h9 => ct_tl (ki_H w h9)) hown hK hP 0 rfl rfl 1 (by decide) (hts _ (ct_tl kw_115)) (fun _ h9 => h9) rfl d_H_step_46 ?_
          refine lv_iload_n hx hb d_H_step_49 rfl (lv_at hl 1 rfl) ?_
          refine va_calli (va_runV (As := [.int (nI k)]) (rest := []) ⟨hx, hb, hml, hown, hts⟩ (c_P_joinedBy l dC dI cI z0 p0 p1 p2 p3 p4 p5 gj k (by omega)) (cwV 1 hts (ct_giV (fun w h9 => ct_tl h9) kw_428 kw_429 kw_430 kw_28 kw_431) rfl rfl rfl (by decide +kernel) ⟨Nat.le_of_ble_eq_true rfl, Nat.le_of_ble_eq_true rfl⟩) ⟨ct_ro_blind, va_recv hK hP (ci := 2) (q0 := 1) rfl rfl, ct_ro_pre (hP.sub [1, 6] rfl) hK⟩ rfl rfl hl.1 rfl (lv_room (Nat.le_of_ble_eq_true rfl)) d_H_step_50 ⟨Nat.zero_le _, Nat.zero_le _⟩) hS (fun q _ h9 => h9.elim) (fun q h9 => h9.elim) (fun ans402 uS tS H locs ht hvm hwans402 hB hz1 hk1 hS => ?_)
          have hP := ct_keep hP hk1
          refine ct_val (y := gj k) (hwans402) ?_
          refine ct_val (y := nI S) hgj ?_
          refine lv_istore_n (lv' := [(3, .int (nI S)), (0, .ref h0), (1, .int (nI k)), (2, .int (nI j))]) hx hb d_H_step_53 rfl hl (by decide) rfl (fun ls hl => ?_)
          refine lv_aload_n hx hb d_H_step_54 rfl (lv_at hl 1 rfl) ?_
          refine va_get (D := (dC, dI)) (ci := 0) (v := .ref p0) (C := R_H) (T := T_H) (N := 12) hx hb hts (fun w h9 => ct_tl (ki_H w h9)) hown hK hP 0 rfl rfl 1 (by decide) (hts _ (ct_tl kw_115)) (fun _ h9 => h9) rfl d_H_step_55 ?_
          refine lv_iload_n hx hb d_H_step_58 rfl (lv_at hl 0 rfl) ?_
          refine va_calli (va_runV (As := [.int (nI S)]) (rest := []) ⟨hx, hb, hml, hown, hts⟩ (c_P_partOf l dC dI cI z0 p0 p1 p2 p3 p4 p5 gp S hS6) (cwV 1 hts (ct_giV (fun w h9 => ct_tl h9) kw_432 kw_433 kw_434 kw_28 kw_435) rfl rfl rfl (by decide +kernel) ⟨Nat.le_of_ble_eq_true rfl, Nat.le_of_ble_eq_true rfl⟩) ⟨ct_ro_blind, va_recv hK hP (ci := 2) (q0 := 1) rfl rfl, ct_ro_pre (hP.sub [1, 5] rfl) hK⟩ rfl rfl hl.1 rfl (lv_room (Nat.le_of_ble_eq_true rfl)) d_H_step_59 ⟨Nat.zero_le _, Nat.zero_le _⟩) hS (fun q _ h9 => h9.elim) (fun q h9 => h9.elim) (fun ans403 uS tS H locs ht hvm hwans403 hB hz1 hk1 hS => ?_)
          have hP := ct_keep hP hk1
          refine ct_val (y := gp S) (hwans403) ?_
          refine ct_val (y := nI a) hgp ?_
          refine lv_istore (lv' := [(4, .int (nI a)), (3, .int (nI S)), (0, .ref h0), (1, .int (nI k)), (2, .int (nI j))]) hx hb d_H_step_62 hl (by decide) rfl (fun ls hl => ?_)
          refine lv_iload_n hx hb d_H_step_64 rfl (lv_at hl 1 rfl) ?_
          refine lv_iload hx hb d_H_step_65 (lv_at hl 0 rfl) ?_
          refine lv_ixor hx hb d_H_step_67 ?_
          refine ct_val (y := nI (S ^^^ a)) (ct_xor _ _) ?_
          refine lv_istore (lv' := [(5, .int (nI (S ^^^ a))), (4, .int (nI a)), (3, .int (nI S)), (0, .ref h0), (1, .int (nI k)), (2, .int (nI j))]) hx hb d_H_step_68 hl (by decide) rfl (fun ls hl => ?_)
          refine lv_iload_n hx hb d_H_step_70 rfl (lv_at hl 5 rfl) ?_
          rcases (show j = 0 ∨ j = 1 ∨ j = 2 ∨ j = 3 by omega) with rfl | rfl | rfl | rfl
          · refine lv_tableIn (x := nI 0) (off := 25) (tgt := 96) hx hb d_H_step_71 (by decide) (by decide) (by decide) (by decide) ?_
            refine lv_iload hx hb d_H_step_96 (lv_at hl 1 rfl) ?_
            refine vx_ret ?_
            refine W.widen (k := 1) (n := 6) (Nat.zero_le _) (Nat.zero_le _) ?_
            have hP9 := hP.sub [0, 1, 2, 3, 4, 5, 6, 7, 8, 9] rfl
            exact W.iret (v := (nI a)) hx hb hr (fun tS ht hW => ⟨⟨(nI a), (1, gh, gl, gc, gp, gj), rfl, ⟨⟨Or.inr rfl, fun _ => ⟨hK2, hmk.1⟩, hmk.2⟩, k, 0, rfl, hk, rfl, by omega, by rw [hval]; rfl⟩, by rw [ht]; exact hP9, va_K.moved hW.alike hK, hD.sub [0, 1, 2, 3, 4, 5, 6, 7, 8, 9] (by decide) rfl⟩, hS.F ht⟩) hS.2.2 d_H_step_98
          · refine lv_tableIn (x := nI 1) (off := 28) (tgt := 99) hx hb d_H_step_71 (by decide) (by decide) (by decide) (by decide) ?_
            refine lv_iload hx hb d_H_step_99 (lv_at hl 0 rfl) ?_
            refine vx_ret ?_
            refine W.widen (k := 1) (n := 6) (Nat.zero_le _) (Nat.zero_le _) ?_
            have hP9 := hP.sub [0, 1, 2, 3, 4, 5, 6, 7, 8, 9] rfl
            exact W.iret (v := (nI (S ^^^ a))) hx hb hr (fun tS ht hW => ⟨⟨(nI (S ^^^ a)), (1, gh, gl, gc, gp, gj), rfl, ⟨⟨Or.inr rfl, fun _ => ⟨hK2, hmk.1⟩, hmk.2⟩, k, 1, rfl, hk, rfl, by omega, by rw [hval]; rfl⟩, by rw [ht]; exact hP9, va_K.moved hW.alike hK, hD.sub [0, 1, 2, 3, 4, 5, 6, 7, 8, 9] (by decide) rfl⟩, hS.F ht⟩) hS.2.2 d_H_step_101
          · refine lv_tableIn (x := nI 2) (off := 31) (tgt := 102) hx hb d_H_step_71 (by decide) (by decide) (by decide) (by decide) ?_
            refine lv_aload_n hx hb d_H_step_102 rfl (lv_at hl 3 rfl) ?_
            refine va_get (D := (dC, dI)) (ci := 0) (v := .ref p0) (C := R_H) (T := T_H) (N := 12) hx hb hts (fun w h9 => ct_tl (ki_H w h9)) hown hK hP 0 rfl rfl 1 (by decide) (hts _ (ct_tl kw_115)) (fun _ h9 => h9) rfl d_H_step_103 ?_
            refine lv_iload hx hb d_H_step_106 (lv_at hl 1 rfl) ?_
            refine lv_iload hx hb d_H_step_108 (lv_at hl 0 rfl) ?_
            refine va_calli (va_runV (As := [.int (nI a), .int (nI (S ^^^ a))]) (rest := []) ⟨hx, hb, hml, hown, hts⟩ (c_P_joinCost l dC dI cI z1 sz z0 p0 p1 p2 p3 p4 p5 gl a (S ^^^ a) (ct_lv la K R a) (ct_lv la K R (S ^^^ a)) (by omega) (by omega) hla1 hlb1 (Nat.lt_trans (Nat.or_lt_two_pow (n := 8) (ct_lv_lt hla) (ct_lv_lt hla)) (by omega))) (cwV 2 hts (ct_giV (fun w h9 => ct_tl h9) kw_436 kw_187 kw_188 kw_28 kw_189) rfl rfl rfl (by decide +kernel) ⟨Nat.le_of_ble_eq_true rfl, Nat.le_of_ble_eq_true rfl⟩) ⟨ct_ro_blind, va_recv hK hP (ci := 2) (q0 := 1) rfl rfl, ct_ro_pre (hP.sub [1, 3, 7, 8] rfl) hK⟩ rfl rfl hl.1 rfl (lv_room (Nat.le_of_ble_eq_true rfl)) d_H_step_110 ⟨Nat.zero_le _, Nat.zero_le _⟩) hS (fun q _ h9 => h9.elim) (fun q h9 => h9.elim) (fun ans504 uS tS H locs ht hvm hwans504 hB hz1 hk1 hS => ?_)
            have hP := ct_keep hP hk1
            refine ct_val (y := nI (ct_pr sz (ct_lv la K R a ||| ct_lv la K R (S ^^^ a)).testBit 8)) (hwans504) ?_
            refine vx_ret ?_
            refine W.widen (k := 1) (n := 6) (Nat.zero_le _) (Nat.zero_le _) ?_
            have hP9 := hP.sub [0, 1, 2, 3, 4, 5, 6, 7, 8, 9] rfl
            exact W.iret (v := (nI (ct_pr sz (ct_lv la K R a ||| ct_lv la K R (S ^^^ a)).testBit 8))) hx hb hr (fun tS ht hW => ⟨⟨(nI (ct_pr sz (ct_lv la K R a ||| ct_lv la K R (S ^^^ a)).testBit 8)), (1, gh, gl, gc, gp, gj), rfl, ⟨⟨Or.inr rfl, fun _ => ⟨hK2, hmk.1⟩, hmk.2⟩, k, 2, rfl, hk, rfl, by omega, by rw [hval]; rfl⟩, by rw [ht]; exact hP9, va_K.moved hW.alike hK, hD.sub [0, 1, 2, 3, 4, 5, 6, 7, 8, 9] (by decide) rfl⟩, hS.F ht⟩) hS.2.2 d_H_step_113
          · refine lv_tableOut (x := nI 3) (tgt := 114) hx hb d_H_step_71 (Or.inr (by decide)) (by decide) ?_
            refine lv_aload_n hx hb d_H_step_114 rfl (lv_at hl 3 rfl) ?_
            refine va_get (D := (dC, dI)) (ci := 0) (v := .ref p0) (C := R_H) (T := T_H) (N := 12) hx hb hts (fun w h9 => ct_tl (ki_H w h9)) hown hK hP 0 rfl rfl 1 (by decide) (hts _ (ct_tl kw_115)) (fun _ h9 => h9) rfl d_H_step_115 ?_
            refine lv_iload hx hb d_H_step_118 (lv_at hl 1 rfl) ?_
            refine lv_iload hx hb d_H_step_120 (lv_at hl 0 rfl) ?_
            refine va_calli (va_runV (As := [.int (nI a), .int (nI (S ^^^ a))]) (rest := []) ⟨hx, hb, hml, hown, hts⟩ (c_P_joinLabels l dC dI cI z0 p0 p1 p2 p3 p4 p5 gl a (S ^^^ a) (ct_lv la K R a) (ct_lv la K R (S ^^^ a)) (by omega) (by omega) hla1 hlb1) (cwV 2 hts (ct_giV (fun w h9 => ct_tl h9) kw_437 kw_191 kw_192 kw_28 kw_193) rfl rfl rfl (by decide +kernel) ⟨Nat.le_of_ble_eq_true rfl, Nat.le_of_ble_eq_true rfl⟩) ⟨ct_ro_blind, va_recv hK hP (ci := 2) (q0 := 1) rfl rfl, ct_ro_pre (hP.sub [1, 3] rfl) hK⟩ rfl rfl hl.1 rfl (lv_room (Nat.le_of_ble_eq_true rfl)) d_H_step_122 ⟨Nat.zero_le _, Nat.zero_le _⟩) hS (fun q _ h9 => h9.elim) (fun q h9 => h9.elim) (fun ans504 uS tS H locs ht hvm hwans504 hB hz1 hk1 hS => ?_)
            have hP := ct_keep hP hk1
            refine ct_val (y := nI (ct_lv la K R a ||| ct_lv la K R (S ^^^ a))) (hwans504) ?_
            refine vx_ret ?_
            refine W.widen (k := 1) (n := 6) (Nat.zero_le _) (Nat.zero_le _) ?_
            have hP9 := hP.sub [0, 1, 2, 3, 4, 5, 6, 7, 8, 9] rfl
            exact W.iret (v := (nI (ct_lv la K R a ||| ct_lv la K R (S ^^^ a)))) hx hb hr (fun tS ht hW => ⟨⟨(nI (ct_lv la K R a ||| ct_lv la K R (S ^^^ a))), (1, gh, gl, gc, gp, gj), rfl, ⟨⟨Or.inr rfl, fun _ => ⟨hK2, hmk.1⟩, hmk.2⟩, k, 3, rfl, hk, rfl, by omega, by rw [hval]; rfl⟩, by rw [ht]; exact hP9, va_K.moved hW.alike hK, hD.sub [0, 1, 2, 3, 4, 5, 6, 7, 8, 9] (by decide) rfl⟩, hS.F ht⟩) hS.2.2 d_H_step_125
        · refine lv_icmp_le (tgt := 41) hx hb d_H_step_28 (by decide) (fun hc9 => absurd hc9 (c4)) (fun _ => ?_)
          obtain ⟨sa, hstr⟩ := hXw.2.1 (136, "what is 0 to 3") (by decide)
          exact vx_throwS (own := R_H) (cls := R_IAE) (text := "what is 0 to 3") (names := ct_sup) (sa := sa) hx hb hst hown kf_IAE.1 kf_IAE.2 (hts _ (ct_tl kl_IAE)) (hts _ (ct_tl kn_IAE)) hstr (kt_IAE hts hXw) kg_IAE hXw.2.2.1 hXw.2.2.2 hS (hl.1.trans hml.symm) d_H_step_31 d_H_step_34 d_H_step_35 d_H_step_37 d_H_step_40 (fun x hx9 => (htab x hx9).elim) (Nat.le_of_ble_eq_true rfl) (Nat.le_of_ble_eq_true rfl) (Nat.le_of_ble_eq_true rfl) (Nat.le_of_ble_eq_true rfl) hlocks (fun tS hal9 hz9 hk9 => ⟨(), trivial, ⟨Or.inr ⟨hqx, by rw [ct_isn4]; simp [c4], rfl⟩, (ct_thr (hP.sub [0, 1, 2, 3, 4, 5, 6, 7, 8, 9] rfl) hK (hD.sub [0, 1, 2, 3, 4, 5, 6, 7, 8, 9] (by decide) rfl) hS hal9 hz9 hk9).1⟩, (ct_thr hP hK hD hS hal9 hz9 hk9).2⟩) hS.2.2 (Nat.le_of_ble_eq_true rfl) (Nat.le_of_ble_eq_true rfl)
    · refine lv_icmp_lt (tgt := 22) hx hb d_H_step_9 (by decide) (fun hc9 => absurd hc9 (c2)) (fun _ => ?_)
      obtain ⟨sa, hstr⟩ := hXw.2.1 (134, "no such step") (by decide)
      exact vx_throwS (own := R_H) (cls := R_IOE) (text := "no such step") (names := ct_sup) (sa := sa) hx hb hst hown kf_IOE.1 kf_IOE.2 (hts _ (ct_tl kl_IOE)) (hts _ (ct_tl kn_IOE)) hstr (kt_IOE hts hXw) kg_IOE hXw.2.2.1 hXw.2.2.2 hS (hl.1.trans hml.symm) d_H_step_12 d_H_step_15 d_H_step_16 d_H_step_18 d_H_step_21 (fun x hx9 => (htab x hx9).elim) (Nat.le_of_ble_eq_true rfl) (Nat.le_of_ble_eq_true rfl) (Nat.le_of_ble_eq_true rfl) (Nat.le_of_ble_eq_true rfl) hlocks (fun tS hal9 hz9 hk9 => ⟨(), trivial, ⟨Or.inl ⟨by simp [ct_isn, Int32.not_lt.mp c2], rfl⟩, (ct_thr (hP.sub [0, 1, 2, 3, 4, 5, 6, 7, 8, 9] rfl) hK (hD.sub [0, 1, 2, 3, 4, 5, 6, 7, 8, 9] (by decide) rfl) hS hal9 hz9 hk9).1⟩, (ct_thr hP hK hD hS hal9 hz9 hk9).2⟩) hS.2.2 (Nat.le_of_ble_eq_true rfl) (Nat.le_of_ble_eq_true rfl)
end
section
/-- the cells of the operands -/
def ct_vv (sz la ot : Nat → Nat) (f : Nat → Int32) : Nat → (Nat → Nat) → Int32 := fun o t => f (ot o * 27 + ct_ix sz (la o).testBit 8 t)
/-- what comes of the expression -/
def ct_spec (sz la ot : Nat → Nat) (K R : Nat) (f : Nat → Int32) (r : Nat → Nat) : Int32 := ct_sm sz (fun k => (ct_has la (2 ^ K - 1) K).testBit k && !R.testBit k) 8 (ct_pd (ct_vv sz la ot f) (2 ^ K - 1) K) r
def ct_sumok (sz la ot : Nat → Nat) (K R : Nat) (f : Nat → Int32) : Prop := ∀ r : Nat → Nat, (∀ k, k < 8 → R.testBit k = true → r k < sz k) → f (216 + ct_ix sz R.testBit 8 r) = ct_spec sz la ot K R f r
theorem ct_spec_congrV {sz la ot : Nat → Nat} {K R : Nat} {f g : Nat → Int32} (hK : K ≤ 6) (hot : ∀ o, o < K → ot o < 8) (h27 : ∀ o, o < K → ct_pr sz (la o).testBit 8 ≤ 27) (h : ∀ i, i < 216 → g i = f i) (r : Nat → Nat) (hr : ∀ k, k < 8 → R.testBit k = true → r k < sz k) : ct_spec sz la ot K R g r = ct_spec sz la ot K R f r := by
  refine ct_sm_congrV (V := (ct_has la (2 ^ K - 1) K).testBit) (fun t ht => ?_) 8 r (fun k hk hV => ?_)
  · have key : ∀ n, n ≤ K → ct_pd (ct_vv sz la ot g) (2 ^ K - 1) n t = ct_pd (ct_vv sz la ot f) (2 ^ K - 1) n t := by
      intro n
      induction n with
      | zero => exact fun _ => rfl
      | succ n ih =>
        intro hn
        have hb : (2 ^ K - 1).testBit n = true := by rw [ct_bit_all K (by omega) n (by omega)]; exact decide_eq_true hn
        rw [ct_pd_in hb, ct_pd_in hb, ih (by omega)]
        congr 1
        have h1 := hot n (by omega)
        have h2 := h27 n (by omega)
        have h3 := ct_ix_lt (sz := sz) (P := (la n).testBit) (t := t) 8 (fun k hk hl => ht k hk ((ct_has_bit K k).mpr ⟨n, by omega, hb, hl⟩))
        exact h _ (by omega)
    exact key K (Nat.le_refl K)
  · cases hR : R.testBit k with
    | true => exact Or.inr (hr k hk hR)
    | false => exact Or.inl ⟨hk, by simp [hV]⟩
theorem ct_alone {sz la ot : Nat → Nat} {K R home lab : Nat} {f g : Nat → Int32} (hK : K < 2) (h1 : f 243 = 1) (hh : home = if K = 0 then 243 else ot 0 * 27) (hl : lab = if K = 0 then 0 else la 0) (hj : ct_joined sz f home lab 243 0 216 R g) (r : Nat → Nat) (hr : ∀ k, k < 8 → R.testBit k = true → r k < sz k) : g (216 + ct_ix sz R.testBit 8 r) = ct_spec sz la ot K R f r := by
  rw [hj.2 r hr]
  have hz : ∀ t : Nat → Nat, ct_ix sz (0 : Nat).testBit 8 t = 0 := by
    intro t
    have : ∀ n, ct_ix sz (0 : Nat).testBit n t = 0 := by
      intro n
      induction n with
      | zero => rfl
      | succ n ih => rw [ct_ix_out (by simp)]; exact ih
    exact this 8
  rcases (show K = 0 ∨ K = 1 by omega) with rfl | rfl
  · rw [if_pos rfl] at hh hl
    subst hh; subst hl
    refine ct_sm_congr 8 (fun k _ => ?_) (fun t => ?_) r
    · show ((0 ||| 0 ||| R).testBit k && !R.testBit k) = ((0 : Nat).testBit k && !R.testBit k)
      cases hR : R.testBit k <;> simp [hR]
    · show f (243 + ct_ix sz (0 : Nat).testBit 8 t) * f (243 + ct_ix sz (0 : Nat).testBit 8 t) = 1
      rw [hz, Nat.add_zero, h1, Int32.mul_one]
  · rw [if_neg (by omega)] at hh hl
    subst hh; subst hl
    refine ct_sm_congr 8 (fun k _ => ?_) (fun t => ?_) r
    · have e : ct_has la (2 ^ 1 - 1) 1 = la 0 := ct_has_one 1 (by omega) (by decide) (fun k hk hn => by omega)
      rw [e]
      cases hR : R.testBit k <;> simp [Nat.testBit_or, hR]
    · show f (ot 0 * 27 + ct_ix sz (la 0).testBit 8 t) * f (243 + ct_ix sz (0 : Nat).testBit 8 t) = ct_pd (ct_vv sz la ot f) (2 ^ 1 - 1) 1 t
      rw [hz, Nat.add_zero, h1, Int32.mul_one, ct_pd_one 1 (o := 0) (by omega) (by decide) (fun k hk hn => by omega)]
      rfl
set_option maxHeartbeats 4000000 in
set_option maxRecDepth 100000 in
theorem c_H_value (l : Launch) (hst : l.stackTraces = false) (dC : Nat → ClassId) (dI : Nat → Nat → Nat) (cI : ClassId) (z1 : Nat) (sz : Nat → Nat) (p1 p2 p3 p4 p5 : Nat) (h0 z0 p0 r0 k1 k2 k3 k4 : Nat) (r1 r2 r3 r4 r5 r6 : Nat) (tab : Int32) (N M K R pf sf : Nat) (la ot : Nat → Nat) (fot fo hm fh fl fc fp fj f fe fi fa fb ft : Nat → Int32) (hK6 : K ≤ 6) (hsz : ∀ k, k < 8 → 0 < sz k ∧ sz k < 4) (hla : ∀ k, k < K → la k < 256) (hR : R < 256) (hM : M = if sf = 1 ∨ K < 2 then N else ct_Nk N (fun k => ct_pl sz la K R ((ct_ls (ct_B (ct_jc sz la K R)) 64 (2 ^ K - 1)).getD k 0)) (K - 2)) (hN0 : 244 ≤ N) (hN6 : N ≤ 60000) (hot : ∀ o, o < K → fot o = nI (ot o) ∧ ot o < 8) (hfo : ∀ o, o < K → fo o = nI (la o)) (hp27 : ∀ o, o < K → ct_pr sz (la o).testBit 8 ≤ 27) (hR27 : (ct_pr sz R.testBit 8) ≤ 27) (h1 : f 243 = 1) (hk0 : ct_plk fh fc) (hpf : pf = 0 ∨ pf = 1) (hok : pf = 1 → 2 ≤ K ∧ ct_plok sz la K R fh fl fc fp fj) (hsf : sf = 0 ∨ sf = 1) (hsum : sf = 1 → ct_sumok sz la ot K R f) (x : Int32) (sz0 : Nat) : vx_Met l y_H_value w_H_value ({ frames := 6, cells := (1 + (M - N)), slots := (6 + 2 * (M - N)), locals := 157 }) (va_Pc [.ref h0, .int x] (ct_rx (dC, dI) ct_cl [(h0, .inr (0, [.ref z0, .ref p0, .ref r0, .int tab, .ref k1, .int (nI K), .ref k2, .ref k3, .int (nI R), .ref k4, .int (nI pf), .int (nI sf)])), (k2, .inl (cI, 6, .inl fot)), (k3, .inl (cI, 6, .inl fo)), (k4, .inl (cI, 64, .inl hm)), (p0, .inr (2, [.ref z0, .ref p1, .ref p2, .ref p3, .ref p4, .ref p5])), (p1, .inl (cI, 64, .inl fh)), (p2, .inl (cI, 64, .inl fl)), (p3, .inl (cI, 64, .inl fc)), (p4, .inl (cI, 64, .inl fp)), (p5, .inl (cI, 5, .inl fj)), (r0, .inr (3, [.ref z0, .ref r1, .ref r2, .ref r3, .ref r4, .ref r5, .ref r6])), (r1, .inl (cI, N, .inl f)), (r2, .inl (cI, 8, .inl fe)), (r3, .inl (cI, 8, .inl fi)), (r4, .inl (cI, 8, .inl fa)), (r5, .inl (cI, 8, .inl fb)), (r6, .inl (cI, 8, .inl ft)), (z0, .inr (1, [.ref z1])), (z1, .inl (cI, 8, .inl (fun j => nI (sz j))))] [(cI, .int)] sz0)) (va_Qi (fun (r : Int32) (u : Nat × Nat × (Nat → Int32) × (Nat → Int32) × (Nat → Int32) × (Nat → Int32) × (Nat → Int32) × (Nat → Int32) × (Nat → Int32) × (Nat → Int32) × (Nat → Int32) × (Nat → Int32) × (Nat → Int32) × (Nat → Int32)) => ((u.2.1 = 0 ∨ u.2.1 = 1) ∧ (u.2.1 = 1 → 2 ≤ K ∧ ct_plok sz la K R (u.2.2.2.1) (u.2.2.2.2.1) (u.2.2.2.2.2.1) (u.2.2.2.2.2.2.1) (u.2.2.2.2.2.2.2.1)) ∧ ct_plk (u.2.2.2.1) (u.2.2.2.2.2.1)) ∧ (∀ i, i < 216 → (u.2.2.2.2.2.2.2.2.1) i = f i) ∧ (u.2.2.2.2.2.2.2.2.1) 243 = f 243 ∧ ct_sumok sz la ot K R (u.2.2.2.2.2.2.2.2.1) ∧ ∃ i : Nat, i < (ct_pr sz R.testBit 8) ∧ x = nI i ∧ r = (u.2.2.2.2.2.2.2.2.1) (216 + i)) (fun (u : Nat × Nat × (Nat → Int32) × (Nat → Int32) × (Nat → Int32) × (Nat → Int32) × (Nat → Int32) × (Nat → Int32) × (Nat → Int32) × (Nat → Int32) × (Nat → Int32) × (Nat → Int32) × (Nat → Int32) × (Nat → Int32)) t => ct_at (dC, dI) ct_cl [(cI, .int)] (va_A [(h0, .inr (0, [.ref z0, .ref p0, .ref r0, .int tab, .ref k1, .int (nI K), .ref k2, .ref k3, .int (nI R), .ref k4, .int (nI pf), .int (nI sf)])), (k2, .inl (cI, 6, .inl fot)), (k3, .inl (cI, 6, .inl fo)), (k4, .inl (cI, 64, .inl hm)), (p0, .inr (2, [.ref z0, .ref p1, .ref p2, .ref p3, .ref p4, .ref p5])), (p1, .inl (cI, 64, .inl fh)), (p2, .inl (cI, 64, .inl fl)), (p3, .inl (cI, 64, .inl fc)), (p4, .inl (cI, 64, .inl fp)), (p5, .inl (cI, 5, .inl fj)), (r0, .inr (3, [.ref z0, .ref r1, .ref r2, .ref r3, .ref r4, .ref r5, .ref r6])), (r1, .inl (cI, N, .inl f)), (r2, .inl (cI, 8, .inl fe)), (r3, .inl (cI, 8, .inl fi)), (r4, .inl (cI, 8, .inl fa)), (r5, .inl (cI, 8, .inl fb)), (r6, .inl (cI, 8, .inl ft)), (z0, .inr (1, [.ref z1])), (z1, .inl (cI, 8, .inl (fun j => nI (sz j))))] sz0) [(h0, .inr (0, [.ref z0, .ref p0, .ref r0, .int tab, .ref k1, .int (nI K), .ref k2, .ref k3, .int (nI R), .ref k4, .int (nI (u.2.1)), .int (nI 1)])), (k2, .inl (cI, 6, .inl fot)), (k3, .inl (cI, 6, .inl fo)), (k4, .inl (cI, 64, .inl (u.2.2.1))), (p0, .inr (2, [.ref z0, .ref p1, .ref p2, .ref p3, .ref p4, .ref p5])), (p1, .inl (cI, 64, .inl (u.2.2.2.1))), (p2, .inl (cI, 64, .inl (u.2.2.2.2.1))), (p3, .inl (cI, 64, .inl (u.2.2.2.2.2.1))), (p4, .inl (cI, 64, .inl (u.2.2.2.2.2.2.1))), (p5, .inl (cI, 5, .inl (u.2.2.2.2.2.2.2.1))), (r0, .inr (3, [.ref z0, .ref u.1, .ref r2, .ref r3, .ref r4, .ref r5, .ref r6])), (u.1, .inl (cI, M, .inl (u.2.2.2.2.2.2.2.2.1))), (r2, .inl (cI, 8, .inl (u.2.2.2.2.2.2.2.2.2.1))), (r3, .inl (cI, 8, .inl (u.2.2.2.2.2.2.2.2.2.2.1))), (r4, .inl (cI, 8, .inl (u.2.2.2.2.2.2.2.2.2.2.2.1))), (r5, .inl (cI, 8, .inl (u.2.2.2.2.2.2.2.2.2.2.2.2.1))), (r6, .inl (cI, 8, .inl (u.2.2.2.2.2.2.2.2.2.2.2.2.2))), (z0, .inr (1, [.ref z1])), (z1, .inl (cI, 8, .inl (fun j => nI (sz j))))] t) (va_A [(h0, .inr (0, [.ref z0, .ref p0, .ref r0, .int tab, .ref k1, .int (nI K), .ref k2, .ref k3, .int (nI R), .ref k4, .int (nI pf), .int (nI sf)])), (k2, .inl (cI, 6, .inl fot)), (k3, .inl (cI, 6, .inl fo)), (k4, .inl (cI, 64, .inl hm)), (p0, .inr (2, [.ref z0, .ref p1, .ref p2, .ref p3, .ref p4, .ref p5])), (p1, .inl (cI, 64, .inl fh)), (p2, .inl (cI, 64, .inl fl)), (p3, .inl (cI, 64, .inl fc)), (p4, .inl (cI, 64, .inl fp)), (p5, .inl (cI, 5, .inl fj)), (r0, .inr (3, [.ref z0, .ref r1, .ref r2, .ref r3, .ref r4, .ref r5, .ref r6])), (r1, .inl (cI, N, .inl f)), (r2, .inl (cI, 8, .inl fe)), (r3, .inl (cI, 8, .inl fi)), (r4, .inl (cI, 8, .inl fa)), (r5, .inl (cI, 8, .inl fb)), (r6, .inl (cI, 8, .inl ft)), (z0, .inr (1, [.ref z1])), (z1, .inl (cI, 8, .inl (fun j => nI (sz j))))] sz0)) (vx_X (fun (_ : Unit) => True) (fun (E : String) (_ : Unit) t => (ct_isn (ct_pr sz R.testBit 8) x = false ∧ E = R_IOE) ∧ ct_at (dC, dI) ct_cl [(cI, .int)] (va_A [(h0, .inr (0, [.ref z0, .ref p0, .ref r0, .int tab, .ref k1, .int (nI K), .ref k2, .ref k3, .int (nI R), .ref k4, .int (nI pf), .int (nI sf)])), (k2, .inl (cI, 6, .inl fot)), (k3, .inl (cI, 6, .inl fo)), (k4, .inl (cI, 64, .inl hm)), (p0, .inr (2, [.ref z0, .ref p1, .ref p2, .ref p3, .ref p4, .ref p5])), (p1, .inl (cI, 64, .inl fh)), (p2, .inl (cI, 64, .inl fl)), (p3, .inl (cI, 64, .inl fc)), (p4, .inl (cI, 64, .inl fp)), (p5, .inl (cI, 5, .inl fj)), (r0, .inr (3, [.ref z0, .ref r1, .ref r2, .ref r3, .ref r4, .ref r5, .ref r6])), (r1, .inl (cI, N, .inl f)), (r2, .inl (cI, 8, .inl fe)), (r3, .inl (cI, 8, .inl fi)), (r4, .inl (cI, 8, .inl fa)), (r5, .inl (cI, 8, .inl fb)), (r6, .inl (cI, 8, .inl ft)), (z0, .inr (1, [.ref z1])), (z1, .inl (cI, 8, .inl (fun j => nI (sz j))))] sz0) [(h0, .inr (0, [.ref z0, .ref p0, .ref r0, .int tab, .ref k1, .int (nI K), .ref k2, .ref k3, .int (nI R), .ref k4, .int (nI pf), .int (nI sf)])), (k2, .inl (cI, 6, .inl fot)), (k3, .inl (cI, 6, .inl fo)), (k4, .inl (cI, 64, .inl hm)), (p0, .inr (2, [.ref z0, .ref p1, .ref p2, .ref p3, .ref p4, .ref p5])), (p1, .inl (cI, 64, .inl fh)), (p2, .inl (cI, 64, .inl fl)), (p3, .inl (cI, 64, .inl fc)), (p4, .inl (cI, 64, .inl fp)), (p5, .inl (cI, 5, .inl fj)), (r0, .inr (3, [.ref z0, .ref r1, .ref r2, .ref r3, .ref r4, .ref r5, .ref r6])), (r1, .inl (cI, N, .inl f)), (r2, .inl (cI, 8, .inl fe)), (r3, .inl (cI, 8, .inl fi)), (r4, .inl (cI, 8, .inl fa)), (r5, .inl (cI, 8, .inl fb)), (r6, .inl (cI, 8, .inl ft)), (z0, .inr (1, [.ref z1])), (z1, .inl (cI, 8, .inl (fun j => nI (sz j))))] t) (va_A [(h0, .inr (0, [.ref z0, .ref p0, .ref r0, .int tab, .ref k1, .int (nI K), .ref k2, .ref k3, .int (nI R), .ref k4, .int (nI pf), .int (nI sf)])), (k2, .inl (cI, 6, .inl fot)), (k3, .inl (cI, 6, .inl fo)), (k4, .inl (cI, 64, .inl hm)), (p0, .inr (2, [.ref z0, .ref p1, .ref p2, .ref p3, .ref p4, .ref p5])), (p1, .inl (cI, 64, .inl fh)), (p2, .inl (cI, 64, .inl fl)), (p3, .inl (cI, 64, .inl fc)), (p4, .inl (cI, 64, .inl fp)), (p5, .inl (cI, 5, .inl fj)), (r0, .inr (3, [.ref z0, .ref r1, .ref r2, .ref r3, .ref r4, .ref r5, .ref r6])), (r1, .inl (cI, N, .inl f)), (r2, .inl (cI, 8, .inl fe)), (r3, .inl (cI, 8, .inl fi)), (r4, .inl (cI, 8, .inl fa)), (r5, .inl (cI, 8, .inl fb)), (r6, .inl (cI, 8, .inl ft)), (z0, .inr (1, [.ref z1])), (z1, .inl (cI, 8, .inl (fun j => nI (sz j))))] sz0)) (1 + (M - N)) (6 + 2 * (M - N)) (va_A [(h0, .inr (0, [.ref z0, .ref p0, .ref r0, .int tab, .ref k1, .int (nI K), .ref k2, .ref k3, .int (nI R), .ref k4, .int (nI pf), .int (nI sf)])), (k2, .inl (cI, 6, .inl fot)), (k3, .inl (cI, 6, .inl fo)), (k4, .inl (cI, 64, .inl hm)), (p0, .inr (2, [.ref z0, .ref p1, .ref p2, .ref p3, .ref p4, .ref p5])), (p1, .inl (cI, 64, .inl fh)), (p2, .inl (cI, 64, .inl fl)), (p3, .inl (cI, 64, .inl fc)), (p4, .inl (cI, 64, .inl fp)), (p5, .inl (cI, 5, .inl fj)), (r0, .inr (3, [.ref z0, .ref r1, .ref r2, .ref r3, .ref r4, .ref r5, .ref r6])), (r1, .inl (cI, N, .inl f)), (r2, .inl (cI, 8, .inl fe)), (r3, .inl (cI, 8, .inl fi)), (r4, .inl (cI, 8, .inl fa)), (r5, .inl (cI, 8, .inl fb)), (r6, .inl (cI, 8, .inl ft)), (z0, .inr (1, [.ref z1])), (z1, .inl (cI, 8, .inl (fun j => nI (sz j))))] sz0) := by
  refine vx_ofW (cc := b_H_value) (maxL := 2) (ret := (some .int)) (by decide) rfl ?_
  intro p e s m args below meth c s₁ Bd hml htab hv
  obtain ⟨hargs, ⟨hsz, hP, hK, hD0⟩, hXw⟩ := hv
  have hx := Bd.exec
  have hb := Bd.bytes
  have hr := Bd.returns
  have hts : ∀ w ∈ k_H_value :: ct_tb, w.before args s = true := atoms_spec (ws := w_H_value) Bd.pre
  have hown : s.vm.findClass R_H = some m.cls := findClass_of_methodNamed Bd.named
  have hlocks := Bd.notSynchronized
  subst hsz
  have hD := hD0.self (sz := s.heap.size)
  generalize hAe : va_A [(h0, .inr (0, [.ref z0, .ref p0, .ref r0, .int tab, .ref k1, .int (nI K), .ref k2, .ref k3, .int (nI R), .ref k4, .int (nI pf), .int (nI sf)])), (k2, .inl (cI, 6, .inl fot)), (k3, .inl (cI, 6, .inl fo)), (k4, .inl (cI, 64, .inl hm)), (p0, .inr (2, [.ref z0, .ref p1, .ref p2, .ref p3, .ref p4, .ref p5])), (p1, .inl (cI, 64, .inl fh)), (p2, .inl (cI, 64, .inl fl)), (p3, .inl (cI, 64, .inl fc)), (p4, .inl (cI, 64, .inl fp)), (p5, .inl (cI, 5, .inl fj)), (r0, .inr (3, [.ref z0, .ref r1, .ref r2, .ref r3, .ref r4, .ref r5, .ref r6])), (r1, .inl (cI, N, .inl f)), (r2, .inl (cI, 8, .inl fe)), (r3, .inl (cI, 8, .inl fi)), (r4, .inl (cI, 8, .inl fa)), (r5, .inl (cI, 8, .inl fb)), (r6, .inl (cI, 8, .inl ft)), (z0, .inr (1, [.ref z1])), (z1, .inl (cI, 8, .inl (fun j => nI (sz j))))] s.heap.size = A at hD hXw ⊢
  have hA : ∀ q : Nat, s.heap.size ≤ q → A q := fun q h => by rw [← hAe]; exact Or.inr h
  have hS : va_S A s.heap s.heap [] := va_S.rf
  have hl := lv_entry ([.ref h0, .int x]) (n := 2) (Nat.le_of_ble_eq_true rfl)
  rw [show entryFrame m args 2 = entryFrame m (([.ref h0, .int x] : List Value)).toArray 2 by rw [hargs], lg_entry_eq]
  generalize (lg_sl ([.ref h0, .int x]) ++ List.replicate (2 - (lg_sl ([.ref h0, .int x])).length) Slot.unset).toArray = ls at hl ⊢
  have hl : lv_has ls 2 [(0, .ref h0), (1, .int x)] := hl
  have hsz3 : ∀ k, k < 8 → sz k ≤ 3 := fun k hk => by have := (hsz k hk).2; omega
  have hprR := ct_pr_pos (sz := sz) (P := R.testBit) 8 (fun k hk => (hsz k hk).1)
  by_cases c1 : x < 0
  · refine lv_iload_n hx hb d_H_value_0 rfl (lv_at hl 1 rfl) ?_
    refine lv_if_lt (tgt := 19) hx hb d_H_value_1 (by decide) (fun _ => ?_) (fun hc9 => absurd (c1) hc9)
    obtain ⟨sa, hstr⟩ := hXw.2.1 (102, "no such cell") (by decide)
    exact vx_throwS (own := R_H) (cls := R_IOE) (text := "no such cell") (names := ct_sup) (sa := sa) hx hb hst hown kf_IOE.1 kf_IOE.2 (hts _ (ct_tl kl_IOE)) (hts _ (ct_tl kn_IOE)) hstr (kt_IOE hts hXw) kg_IOE hXw.2.2.1 hXw.2.2.2 hS (hl.1.trans hml.symm) d_H_value_19 d_H_value_22 d_H_value_23 d_H_value_25 d_H_value_28 (fun x hx9 => (htab x hx9).elim) (Nat.le_of_ble_eq_true rfl) (Nat.le_of_ble_eq_true rfl) (by show 0 + 1 ≤ 1 + (M - N); omega) (by show 0 + 6 ≤ 6 + 2 * (M - N); omega) hlocks (fun tS hal9 hz9 hk9 => ⟨(), trivial, ⟨⟨by simp [ct_isn, c1], rfl⟩, (ct_thr (hP.sub [0, 1, 2, 3, 4, 5, 6, 7, 8, 9, 10, 11, 12, 13, 14, 15, 16, 17, 18] rfl) hK (hD.sub [0, 1, 2, 3, 4, 5, 6, 7, 8, 9, 10, 11, 12, 13, 14, 15, 16, 17, 18] (by decide) rfl) hS hal9 hz9 hk9).1⟩, (ct_thr hP hK hD hS hal9 hz9 hk9).2⟩) hS.2.2 (by show 0 + 1 ≤ 1 + (M - N); omega) (by show 0 + 6 ≤ 6 + 2 * (M - N); omega)
  · refine lv_iload_n hx hb d_H_value_0 rfl (lv_at hl 1 rfl) ?_
    refine lv_if_lt (tgt := 19) hx hb d_H_value_1 (by decide) (fun hc9 => absurd hc9 (c1)) (fun _ => ?_)
    refine lv_iload_n hx hb d_H_value_4 rfl (lv_at hl 1 rfl) ?_
    refine lv_aload_n hx hb d_H_value_5 rfl (lv_at hl 0 rfl) ?_
    refine va_get (D := (dC, dI)) (ci := 0) (v := .ref z0) (C := R_H) (T := T_H) (N := 12) hx hb hts (fun w h9 => ct_tl (ki_H w h9)) hown hK hP 0 rfl rfl 0 (by decide) (hts _ (ct_tl kw_114)) (fun _ h9 => h9) rfl d_H_value_6 ?_
    refine lv_aload_n hx hb d_H_value_9 rfl (lv_at hl 0 rfl) ?_
    refine va_get (D := (dC, dI)) (ci := 0) (v := .int (nI R)) (C := R_H) (T := T_H) (N := 12) hx hb hts (fun w h9 => ct_tl (ki_H w h9)) hown hK hP 0 rfl rfl 8 (by decide) (hts _ (ct_tl kw_122)) (fun _ h9 => h9) rfl d_H_value_10 ?_
    refine va_calli (va_runV (As := [.int (nI R)]) (rest := [.int x]) ⟨hx, hb, hml, hown, hts⟩ (c_S_choices l dC dI cI z0 z1 sz R (by omega)) (cwV 1 hts (ct_giV (fun w h9 => ct_tl h9) kw_384 kw_195 kw_196 kw_27 kw_197) rfl rfl rfl (by decide +kernel) ⟨Nat.le_of_ble_eq_true rfl, Nat.le_of_ble_eq_true rfl⟩) ⟨ct_ro_blind, va_recv hK hP (ci := 1) (q0 := 17) rfl rfl, ct_ro_pre (hP.sub [17, 18] rfl) hK⟩ rfl rfl hl.1 rfl (lv_room (Nat.le_of_ble_eq_true rfl)) d_H_value_13 ⟨Nat.zero_le _, Nat.zero_le _⟩) hS (fun q _ h9 => h9.elim) (fun q h9 => h9.elim) (fun ans101 uS tS H locs ht hvm hwans101 hB hz1 hk1 hS => ?_)
    have hP := ct_keep hP hk1
    refine ct_val (y := nI (ct_pr sz (R).testBit 8)) (hwans101) ?_
    by_cases c2 : x < nI (ct_pr sz R.testBit 8)
    · refine lv_icmp_lt (tgt := 29) hx hb d_H_value_16 (by decide) (fun _ => ?_) (fun hc9 => absurd (c2) hc9)
      obtain ⟨i, hi, rfl⟩ := ct_isn_of (n := (ct_pr sz R.testBit 8)) (by omega) (x := x) (by simp [ct_isn, c1, Int32.not_le.mpr c2])
      refine lv_aload_n hx hb d_H_value_29 rfl (lv_at hl 0 rfl) ?_
      refine va_get (D := (dC, dI)) (ci := 0) (v := .int (nI sf)) (C := R_H) (T := T_H) (N := 12) hx hb hts (fun w h9 => ct_tl (ki_H w h9)) hown hK hP 0 rfl rfl 11 (by decide) (hts _ (ct_tl kw_125)) (fun _ h9 => h9) rfl d_H_value_30 ?_
      by_cases hs1 : sf = 1
      · have hMN : M = N := by rw [hM, if_pos (Or.inl hs1)]
        subst hs1
        refine lv_if_ne (tgt := 64) hx hb d_H_value_33 (by decide) (fun _ => ?_) (fun hc9 => absurd hc9 (nI_ne0 (by omega) (by omega)))
        refine lv_aload_n hx hb d_H_value_64 rfl (lv_at hl 0 rfl) ?_
        refine va_get (D := (dC, dI)) (ci := 0) (v := .ref r0) (C := R_H) (T := T_H) (N := 12) hx hb hts (fun w h9 => ct_tl (ki_H w h9)) hown hK hP 0 rfl rfl 2 (by decide) (hts _ (ct_tl kw_116)) (fun _ h9 => h9) rfl d_H_value_65 ?_
        refine lv_sipush (v := (nI 216)) hx hb d_H_value_68 (by decide) ?_
        refine lv_iload_n hx hb d_H_value_71 rfl (lv_at hl 1 rfl) ?_
        refine lv_iadd hx hb d_H_value_72 ?_
        refine ct_val (y := nI (216 + i)) (nI_add _ _) ?_
        refine va_calli (va_runV (As := [.int (nI (216 + i))]) (rest := []) ⟨hx, hb, hml, hown, hts⟩ (c_R_read l dC dI cI z0 r0 r1 r2 r3 r4 r5 r6 N f (216 + i) (by omega) (by omega)) (cwV 1 hts (ct_giV (fun w h9 => ct_tl h9) kw_502 kw_503 kw_504 kw_29 kw_505) rfl rfl rfl (by decide +kernel) ⟨Nat.le_of_ble_eq_true rfl, Nat.le_of_ble_eq_true rfl⟩) ⟨ct_ro_blind, va_recv hK hP (ci := 3) (q0 := 10) rfl rfl, ct_ro_pre (hP.sub [10, 11] rfl) hK⟩ rfl rfl hl.1 rfl (lv_room (Nat.le_of_ble_eq_true rfl)) d_H_value_73 ⟨Nat.zero_le _, Nat.zero_le _⟩) hS (fun q _ h9 => h9.elim) (fun q h9 => h9.elim) (fun ans302 uS tS H locs ht hvm hwans302 hB hz1 hk1 hS => ?_)
        have hP := ct_keep hP hk1
        refine ct_val (y := f (216 + i)) (hwans302) ?_
        rw [← hMN] at hP hD
        refine vx_ret ?_
        refine W.widen (k := (1 + (M - N))) (n := (6 + 2 * (M - N))) (Nat.zero_le _) (Nat.zero_le _) ?_
        have hP9 := hP.sub [0, 1, 2, 3, 4, 5, 6, 7, 8, 9, 10, 11, 12, 13, 14, 15, 16, 17, 18] rfl
        exact W.iret (v := (f (216 + i))) hx hb hr (fun tS ht hW => ⟨⟨(f (216 + i)), (r1, pf, hm, fh, fl, fc, fp, fj, f, fe, fi, fa, fb, ft), rfl, ⟨⟨hpf, hok, hk0⟩, fun _ _ => rfl, rfl, hsum rfl, i, hi, rfl, rfl⟩, by rw [ht]; exact hP9, va_K.moved hW.alike hK, hD.sub [0, 1, 2, 3, 4, 5, 6, 7, 8, 9, 10, 11, 12, 13, 14, 15, 16, 17, 18] (by decide) rfl⟩, hS.F ht⟩) hS.2.2 d_H_value_76
      · obtain rfl : sf = 0 := hsf.resolve_right hs1
        refine lv_if_ne (tgt := 64) hx hb d_H_value_33 (by decide) (fun hc9 => absurd (nI_0) hc9) (fun _ => ?_)
        refine lv_aload_n hx hb d_H_value_36 rfl (lv_at hl 0 rfl) ?_
        refine va_get (D := (dC, dI)) (ci := 0) (v := .int (nI K)) (C := R_H) (T := T_H) (N := 12) hx hb hts (fun w h9 => ct_tl (ki_H w h9)) hown hK hP 0 rfl rfl 5 (by decide) (hts _ (ct_tl kw_119)) (fun _ h9 => h9) rfl d_H_value_37 ?_
        refine lv_iconst (v := (nI 2)) hx hb d_H_value_40 (by decide) ?_
        by_cases hK2 : 2 ≤ K
        · have hM2 : M = ct_Nk N (fun k => ct_pl sz la K R ((ct_ls (ct_B (ct_jc sz la K R)) 64 (2 ^ K - 1)).getD k 0)) (K - 2) := by rw [hM, if_neg (by omega)]
          have hNM := ct_Nk_mono (N := N) (pl := (fun k => ct_pl sz la K R ((ct_ls (ct_B (ct_jc sz la K R)) 64 (2 ^ K - 1)).getD k 0))) (k := 0) (K - 2) (Nat.zero_le _)
          have hNk := ct_Nk_max (N := N) (pl := (fun k => ct_pl sz la K R ((ct_ls (ct_B (ct_jc sz la K R)) 64 (2 ^ K - 1)).getD k 0))) hN6 (K - 2) (fun j _ => ct_pr_le 8 hsz3) (by omega)
          have hN00 : ct_Nk N (fun k => ct_pl sz la K R ((ct_ls (ct_B (ct_jc sz la K R)) 64 (2 ^ K - 1)).getD k 0)) 0 = N := rfl
          rw [← hM2] at hNM hNk
          refine lv_icmp_ge (tgt := 51) hx hb d_H_value_41 (by decide) (fun _ => ?_) (fun hc9 => absurd (nI_le hK2 (by omega)) hc9)
          refine lv_aload_n hx hb d_H_value_51 rfl (lv_at hl 0 rfl) ?_
          have hPc := hP.sub (ws' := [(h0, .inr (0, [.ref z0, .ref p0, .ref r0, .int tab, .ref k1, .int (nI K), .ref k2, .ref k3, .int (nI R), .ref k4, .int (nI pf), .int (nI 0)])), (p0, .inr (2, [.ref z0, .ref p1, .ref p2, .ref p3, .ref p4, .ref p5])), (p1, .inl (cI, 64, .inl fh)), (p2, .inl (cI, 64, .inl fl)), (p3, .inl (cI, 64, .inl fc)), (p4, .inl (cI, 64, .inl fp)), (p5, .inl (cI, 5, .inl fj)), (z0, .inr (1, [.ref z1])), (z1, .inl (cI, 8, .inl (fun j => nI (sz j)))), (k3, .inl (cI, 6, .inl fo))]) [0, 4, 5, 6, 7, 8, 9, 17, 18, 2] rfl
          have hDc := hD.sub (ws' := [(h0, .inr (0, [.ref z0, .ref p0, .ref r0, .int tab, .ref k1, .int (nI K), .ref k2, .ref k3, .int (nI R), .ref k4, .int (nI pf), .int (nI 0)])), (p0, .inr (2, [.ref z0, .ref p1, .ref p2, .ref p3, .ref p4, .ref p5])), (p1, .inl (cI, 64, .inl fh)), (p2, .inl (cI, 64, .inl fl)), (p3, .inl (cI, 64, .inl fc)), (p4, .inl (cI, 64, .inl fp)), (p5, .inl (cI, 5, .inl fj)), (z0, .inr (1, [.ref z1])), (z1, .inl (cI, 8, .inl (fun j => nI (sz j)))), (k3, .inl (cI, 6, .inl fo))]) [0, 4, 5, 6, 7, 8, 9, 17, 18, 2] (by decide) rfl
          have hFc := va_free (wc := [(h0, .inr (0, [.ref z0, .ref p0, .ref r0, .int tab, .ref k1, .int (nI K), .ref k2, .ref k3, .int (nI R), .ref k4, .int (nI pf), .int (nI 0)])), (p0, .inr (2, [.ref z0, .ref p1, .ref p2, .ref p3, .ref p4, .ref p5])), (p1, .inl (cI, 64, .inl fh)), (p2, .inl (cI, 64, .inl fl)), (p3, .inl (cI, 64, .inl fc)), (p4, .inl (cI, 64, .inl fp)), (p5, .inl (cI, 5, .inl fj)), (z0, .inr (1, [.ref z1])), (z1, .inl (cI, 8, .inl (fun j => nI (sz j)))), (k3, .inl (cI, 6, .inl fo))]) hD hS hA [0, 4, 5, 6, 7, 8, 9, 17, 18, 2] rfl
          refine va_callv (va_runV (As := []) (rest := []) ⟨hx, hb, hml, hown, hts⟩ (c_H_makePlan l dC dI cI z1 sz p1 p2 p3 p4 p5 h0 z0 p0 r0 k1 k2 k3 k4 tab (nI 0) K R pf fh fl fc fp fj fo la hK6 hK2 hsz3 hla hfo hk0 hpf (fun z => (hok z).2) H.size) (cwV 0 hts (ct_giV (fun w h9 => ct_tl h9) kw_163 kw_165 kw_1 kw_26 kw_166) rfl rfl rfl (by decide +kernel) ⟨Nat.le_of_ble_eq_true rfl, Nat.le_of_ble_eq_true rfl⟩) ⟨ct_rw_blind, va_recv hK hP (ci := 0) (q0 := 0) rfl rfl, ct_rw_pre hPc hK hDc⟩ rfl rfl hl.1 rfl (lv_room (Nat.le_of_ble_eq_true rfl)) d_H_value_52 ⟨Nat.zero_le _, Nat.zero_le _⟩) hS (fun q _ h9 => hFc q h9) hFc (fun ⟨gh, gl, gc, gp, gj⟩ tS H1 locs ht hvm hmk hB hz1 hk1 hS => ?_)
          obtain ⟨hP1, -, hD1⟩ := hB
          rw [ht] at hP1
          obtain ⟨hP, hD⟩ := va_join (wr := [(k2, .inl (cI, 6, .inl fot)), (k4, .inl (cI, 64, .inl hm)), (r0, .inr (3, [.ref z0, .ref r1, .ref r2, .ref r3, .ref r4, .ref r5, .ref r6])), (r1, .inl (cI, N, .inl f)), (r2, .inl (cI, 8, .inl fe)), (r3, .inl (cI, 8, .inl fi)), (r4, .inl (cI, 8, .inl fa)), (r5, .inl (cI, 8, .inl fb)), (r6, .inl (cI, 8, .inl ft))]) (w1 := [(h0, .inr (0, [.ref z0, .ref p0, .ref r0, .int tab, .ref k1, .int (nI K), .ref k2, .ref k3, .int (nI R), .ref k4, .int (nI 1), .int (nI 0)])), (p0, .inr (2, [.ref z0, .ref p1, .ref p2, .ref p3, .ref p4, .ref p5])), (p1, .inl (cI, 64, .inl gh)), (p2, .inl (cI, 64, .inl gl)), (p3, .inl (cI, 64, .inl gc)), (p4, .inl (cI, 64, .inl gp)), (p5, .inl (cI, 5, .inl gj)), (z0, .inr (1, [.ref z1])), (z1, .inl (cI, 8, .inl (fun j => nI (sz j)))), (k3, .inl (cI, 6, .inl fo))]) hP hD [0, 4, 5, 6, 7, 8, 9, 17, 18, 2] [1, 3, 10, 11, 12, 13, 14, 15, 16] rfl rfl (by decide) (by decide) hk1 hFc hP1 hD1
          generalize H1 = H at hP hS ⊢
          have hP : va_P (dC, dI) ct_cl [(k2, .inl (cI, 6, .inl fot)), (k4, .inl (cI, 64, .inl hm)), (r0, .inr (3, [.ref z0, .ref r1, .ref r2, .ref r3, .ref r4, .ref r5, .ref r6])), (r1, .inl (cI, N, .inl f)), (r2, .inl (cI, 8, .inl fe)), (r3, .inl (cI, 8, .inl fi)), (r4, .inl (cI, 8, .inl fa)), (r5, .inl (cI, 8, .inl fb)), (r6, .inl (cI, 8, .inl ft)), (h0, .inr (0, [.ref z0, .ref p0, .ref r0, .int tab, .ref k1, .int (nI K), .ref k2, .ref k3, .int (nI R), .ref k4, .int (nI 1), .int (nI 0)])), (p0, .inr (2, [.ref z0, .ref p1, .ref p2, .ref p3, .ref p4, .ref p5])), (p1, .inl (cI, 64, .inl gh)), (p2, .inl (cI, 64, .inl gl)), (p3, .inl (cI, 64, .inl gc)), (p4, .inl (cI, 64, .inl gp)), (p5, .inl (cI, 5, .inl gj)), (z0, .inr (1, [.ref z1])), (z1, .inl (cI, 8, .inl (fun j => nI (sz j)))), (k3, .inl (cI, 6, .inl fo))] H := hP
          have hD : va_D A [(k2, .inl (cI, 6, .inl fot)), (k4, .inl (cI, 64, .inl hm)), (r0, .inr (3, [.ref z0, .ref r1, .ref r2, .ref r3, .ref r4, .ref r5, .ref r6])), (r1, .inl (cI, N, .inl f)), (r2, .inl (cI, 8, .inl fe)), (r3, .inl (cI, 8, .inl fi)), (r4, .inl (cI, 8, .inl fa)), (r5, .inl (cI, 8, .inl fb)), (r6, .inl (cI, 8, .inl ft)), (h0, .inr (0, [.ref z0, .ref p0, .ref r0, .int tab, .ref k1, .int (nI K), .ref k2, .ref k3, .int (nI R), .ref k4, .int (nI 1), .int (nI 0)])), (p0, .inr (2, [.ref z0, .ref p1, .ref p2, .ref p3, .ref p4, .ref p5])), (p1, .inl (cI, 64, .inl gh)), (p2, .inl (cI, 64, .inl gl)), (p3, .inl (cI, 64, .inl gc)), (p4, .inl (cI, 64, .inl gp)), (p5, .inl (cI, 5, .inl gj)), (z0, .inr (1, [.ref z1])), (z1, .inl (cI, 8, .inl (fun j => nI (sz j)))), (k3, .inl (cI, 6, .inl fo))] := hD
          dsimp only at hmk
          refine lv_aload_n hx hb d_H_value_55 rfl (lv_at hl 0 rfl) ?_
          have hPc := hP.sub (ws' := [(h0, .inr (0, [.ref z0, .ref p0, .ref r0, .int tab, .ref k1, .int (nI K), .ref k2, .ref k3, .int (nI R), .ref k4, .int (nI 1), .int (nI 0)])), (k2, .inl (cI, 6, .inl fot)), (k4, .inl (cI, 64, .inl hm)), (p0, .inr (2, [.ref z0, .ref p1, .ref p2, .ref p3, .ref p4, .ref p5])), (p2, .inl (cI, 64, .inl gl)), (p4, .inl (cI, 64, .inl gp)), (p5, .inl (cI, 5, .inl gj)), (r0, .inr (3, [.ref z0, .ref r1, .ref r2, .ref r3, .ref r4, .ref r5, .ref r6])), (r1, .inl (cI, N, .inl f)), (r2, .inl (cI, 8, .inl fe)), (r3, .inl (cI, 8, .inl fi)), (r4, .inl (cI, 8, .inl fa)), (r5, .inl (cI, 8, .inl fb)), (r6, .inl (cI, 8, .inl ft)), (z0, .inr (1, [.ref z1])), (z1, .inl (cI, 8, .inl (fun j => nI (sz j))))]) [9, 0, 1, 10, 12, 14, 15, 2, 3, 4, 5, 6, 7, 8, 16, 17] rfl
          have hDc := hD.sub (ws' := [(h0, .inr (0, [.ref z0, .ref p0, .ref r0, .int tab, .ref k1, .int (nI K), .ref k2, .ref k3, .int (nI R), .ref k4, .int (nI 1), .int (nI 0)])), (k2, .inl (cI, 6, .inl fot)), (k4, .inl (cI, 64, .inl hm)), (p0, .inr (2, [.ref z0, .ref p1, .ref p2, .ref p3, .ref p4, .ref p5])), (p2, .inl (cI, 64, .inl gl)), (p4, .inl (cI, 64, .inl gp)), (p5, .inl (cI, 5, .inl gj)), (r0, .inr (3, [.ref z0, .ref r1, .ref r2, .ref r3, .ref r4, .ref r5, .ref r6])), (r1, .inl (cI, N, .inl f)), (r2, .inl (cI, 8, .inl fe)), (r3, .inl (cI, 8, .inl fi)), (r4, .inl (cI, 8, .inl fa)), (r5, .inl (cI, 8, .inl fb)), (r6, .inl (cI, 8, .inl ft)), (z0, .inr (1, [.ref z1])), (z1, .inl (cI, 8, .inl (fun j => nI (sz j))))]) [9, 0, 1, 10, 12, 14, 15, 2, 3, 4, 5, 6, 7, 8, 16, 17] (by decide) rfl
          have hFc := va_free (wc := [(h0, .inr (0, [.ref z0, .ref p0, .ref r0, .int tab, .ref k1, .int (nI K), .ref k2, .ref k3, .int (nI R), .ref k4, .int (nI 1), .int (nI 0)])), (k2, .inl (cI, 6, .inl fot)), (k4, .inl (cI, 64, .inl hm)), (p0, .inr (2, [.ref z0, .ref p1, .ref p2, .ref p3, .ref p4, .ref p5])), (p2, .inl (cI, 64, .inl gl)), (p4, .inl (cI, 64, .inl gp)), (p5, .inl (cI, 5, .inl gj)), (r0, .inr (3, [.ref z0, .ref r1, .ref r2, .ref r3, .ref r4, .ref r5, .ref r6])), (r1, .inl (cI, N, .inl f)), (r2, .inl (cI, 8, .inl fe)), (r3, .inl (cI, 8, .inl fi)), (r4, .inl (cI, 8, .inl fa)), (r5, .inl (cI, 8, .inl fb)), (r6, .inl (cI, 8, .inl ft)), (z0, .inr (1, [.ref z1])), (z1, .inl (cI, 8, .inl (fun j => nI (sz j))))]) hD hS hA [9, 0, 1, 10, 12, 14, 15, 2, 3, 4, 5, 6, 7, 8, 16, 17] rfl
          refine va_callv (va_runV (As := []) (rest := []) ⟨hx, hb, hml, hown, hts⟩ (c_H_followPlan l dC dI cI z1 sz p1 p2 p3 p4 p5 h0 z0 p0 r0 k1 k2 k3 k4 r1 r2 r3 r4 r5 r6 tab (nI 1) (nI 0) N M K R la ot _ fot hm gl gp gj f fe fi fa fb ft hK6 hK2 hsz hla hR rfl hM2 hN0 hN6 hmk.1.2.1 hmk.1.2.2.2.1 hmk.1.2.2.2.2 hot hp27 hR27 H.size) (cwV 0 hts (ct_giV (fun w h9 => ct_tl h9) kw_467 kw_469 kw_13 kw_26 kw_470) rfl rfl rfl (by decide +kernel) ⟨Nat.le_of_ble_eq_true rfl, Nat.le_of_ble_eq_true rfl⟩) ⟨ct_rw_blind, va_recv hK hP (ci := 0) (q0 := 9) rfl rfl, ct_rw_pre hPc hK hDc⟩ rfl rfl hl.1 rfl (lv_room (Nat.le_of_ble_eq_true rfl)) d_H_value_56 ⟨by show 0 + (M - N) ≤ 1 + (M - N); omega, by show 0 + 2 * (M - N) ≤ 6 + 2 * (M - N); omega⟩) hS (fun q _ h9 => hFc q h9) hFc (fun ⟨q, hm2, g, ge, gi, ga, gb, gt⟩ tS H1 locs ht hvm hfo2 hB hz1 hk1 hS => ?_)
          obtain ⟨hP1, -, hD1⟩ := hB
          rw [ht] at hP1
          obtain ⟨hP, hD⟩ := va_join (wr := [(p1, .inl (cI, 64, .inl gh)), (p3, .inl (cI, 64, .inl gc)), (k3, .inl (cI, 6, .inl fo))]) (w1 := [(h0, .inr (0, [.ref z0, .ref p0, .ref r0, .int tab, .ref k1, .int (nI K), .ref k2, .ref k3, .int (nI R), .ref k4, .int (nI 1), .int (nI 0)])), (k2, .inl (cI, 6, .inl fot)), (k4, .inl (cI, 64, .inl hm2)), (p0, .inr (2, [.ref z0, .ref p1, .ref p2, .ref p3, .ref p4, .ref p5])), (p2, .inl (cI, 64, .inl gl)), (p4, .inl (cI, 64, .inl gp)), (p5, .inl (cI, 5, .inl gj)), (r0, .inr (3, [.ref z0, .ref q, .ref r2, .ref r3, .ref r4, .ref r5, .ref r6])), (q, .inl (cI, M, .inl g)), (r2, .inl (cI, 8, .inl ge)), (r3, .inl (cI, 8, .inl gi)), (r4, .inl (cI, 8, .inl ga)), (r5, .inl (cI, 8, .inl gb)), (r6, .inl (cI, 8, .inl gt)), (z0, .inr (1, [.ref z1])), (z1, .inl (cI, 8, .inl (fun j => nI (sz j))))]) hP hD [9, 0, 1, 10, 12, 14, 15, 2, 3, 4, 5, 6, 7, 8, 16, 17] [11, 13, 18] rfl rfl (by decide) (by decide) hk1 hFc hP1 hD1
          generalize H1 = H at hP hS ⊢
          have hP : va_P (dC, dI) ct_cl [(p1, .inl (cI, 64, .inl gh)), (p3, .inl (cI, 64, .inl gc)), (k3, .inl (cI, 6, .inl fo)), (h0, .inr (0, [.ref z0, .ref p0, .ref r0, .int tab, .ref k1, .int (nI K), .ref k2, .ref k3, .int (nI R), .ref k4, .int (nI 1), .int (nI 0)])), (k2, .inl (cI, 6, .inl fot)), (k4, .inl (cI, 64, .inl hm2)), (p0, .inr (2, [.ref z0, .ref p1, .ref p2, .ref p3, .ref p4, .ref p5])), (p2, .inl (cI, 64, .inl gl)), (p4, .inl (cI, 64, .inl gp)), (p5, .inl (cI, 5, .inl gj)), (r0, .inr (3, [.ref z0, .ref q, .ref r2, .ref r3, .ref r4, .ref r5, .ref r6])), (q, .inl (cI, M, .inl g)), (r2, .inl (cI, 8, .inl ge)), (r3, .inl (cI, 8, .inl gi)), (r4, .inl (cI, 8, .inl ga)), (r5, .inl (cI, 8, .inl gb)), (r6, .inl (cI, 8, .inl gt)), (z0, .inr (1, [.ref z1])), (z1, .inl (cI, 8, .inl (fun j => nI (sz j))))] H := hP
          have hD : va_D A [(p1, .inl (cI, 64, .inl gh)), (p3, .inl (cI, 64, .inl gc)), (k3, .inl (cI, 6, .inl fo)), (h0, .inr (0, [.ref z0, .ref p0, .ref r0, .int tab, .ref k1, .int (nI K), .ref k2, .ref k3, .int (nI R), .ref k4, .int (nI 1), .int (nI 0)])), (k2, .inl (cI, 6, .inl fot)), (k4, .inl (cI, 64, .inl hm2)), (p0, .inr (2, [.ref z0, .ref p1, .ref p2, .ref p3, .ref p4, .ref p5])), (p2, .inl (cI, 64, .inl gl)), (p4, .inl (cI, 64, .inl gp)), (p5, .inl (cI, 5, .inl gj)), (r0, .inr (3, [.ref z0, .ref q, .ref r2, .ref r3, .ref r4, .ref r5, .ref r6])), (q, .inl (cI, M, .inl g)), (r2, .inl (cI, 8, .inl ge)), (r3, .inl (cI, 8, .inl gi)), (r4, .inl (cI, 8, .inl ga)), (r5, .inl (cI, 8, .inl gb)), (r6, .inl (cI, 8, .inl gt)), (z0, .inr (1, [.ref z1])), (z1, .inl (cI, 8, .inl (fun j => nI (sz j))))] := hD
          dsimp only at hfo2
          refine lv_aload_n hx hb d_H_value_59 rfl (lv_at hl 0 rfl) ?_
          refine lv_iconst (v := (nI 1)) hx hb d_H_value_60 (by decide) ?_
          refine va_put (D := (dC, dI)) (ci := 0) (v := .int (nI 1)) (ty := .boolean) (C := R_H) (T := T_H) (N := 12) hx hb hts (fun w h9 => ct_tl (ki_H w h9)) ty_H ok_H nm_H hown hK hP hD hS 3 rfl rfl 11 (by decide) (hts _ (ct_tl kw_125)) (fun _ h9 => h9) rfl (by decide +kernel) rfl rfl (Nat.le_of_ble_eq_true rfl) d_H_value_61 (fun H locs hP hD hS => ?_)
          have hP : va_P (dC, dI) ct_cl [(p1, .inl (cI, 64, .inl gh)), (p3, .inl (cI, 64, .inl gc)), (k3, .inl (cI, 6, .inl fo)), (h0, .inr (0, [.ref z0, .ref p0, .ref r0, .int tab, .ref k1, .int (nI K), .ref k2, .ref k3, .int (nI R), .ref k4, .int (nI 1), .int (nI 1)])), (k2, .inl (cI, 6, .inl fot)), (k4, .inl (cI, 64, .inl hm2)), (p0, .inr (2, [.ref z0, .ref p1, .ref p2, .ref p3, .ref p4, .ref p5])), (p2, .inl (cI, 64, .inl gl)), (p4, .inl (cI, 64, .inl gp)), (p5, .inl (cI, 5, .inl gj)), (r0, .inr (3, [.ref z0, .ref q, .ref r2, .ref r3, .ref r4, .ref r5, .ref r6])), (q, .inl (cI, M, .inl g)), (r2, .inl (cI, 8, .inl ge)), (r3, .inl (cI, 8, .inl gi)), (r4, .inl (cI, 8, .inl ga)), (r5, .inl (cI, 8, .inl gb)), (r6, .inl (cI, 8, .inl gt)), (z0, .inr (1, [.ref z1])), (z1, .inl (cI, 8, .inl (fun j => nI (sz j))))] H := hP
          have hD : va_D A [(p1, .inl (cI, 64, .inl gh)), (p3, .inl (cI, 64, .inl gc)), (k3, .inl (cI, 6, .inl fo)), (h0, .inr (0, [.ref z0, .ref p0, .ref r0, .int tab, .ref k1, .int (nI K), .ref k2, .ref k3, .int (nI R), .ref k4, .int (nI 1), .int (nI 1)])), (k2, .inl (cI, 6, .inl fot)), (k4, .inl (cI, 64, .inl hm2)), (p0, .inr (2, [.ref z0, .ref p1, .ref p2, .ref p3, .ref p4, .ref p5])), (p2, .inl (cI, 64, .inl gl)), (p4, .inl (cI, 64, .inl gp)), (p5, .inl (cI, 5, .inl gj)), (r0, .inr (3, [.ref z0, .ref q, .ref r2, .ref r3, .ref r4, .ref r5, .ref r6])), (q, .inl (cI, M, .inl g)), (r2, .inl (cI, 8, .inl ge)), (r3, .inl (cI, 8, .inl gi)), (r4, .inl (cI, 8, .inl ga)), (r5, .inl (cI, 8, .inl gb)), (r6, .inl (cI, 8, .inl gt)), (z0, .inr (1, [.ref z1])), (z1, .inl (cI, 8, .inl (fun j => nI (sz j))))] := hD
          refine lv_aload_n hx hb d_H_value_64 rfl (lv_at hl 0 rfl) ?_
          refine va_get (D := (dC, dI)) (ci := 0) (v := .ref r0) (C := R_H) (T := T_H) (N := 12) hx hb hts (fun w h9 => ct_tl (ki_H w h9)) hown hK hP 3 rfl rfl 2 (by decide) (hts _ (ct_tl kw_116)) (fun _ h9 => h9) rfl d_H_value_65 ?_
          refine lv_sipush (v := (nI 216)) hx hb d_H_value_68 (by decide) ?_
          refine lv_iload_n hx hb d_H_value_71 rfl (lv_at hl 1 rfl) ?_
          refine lv_iadd hx hb d_H_value_72 ?_
          refine ct_val (y := nI (216 + i)) (nI_add _ _) ?_
          refine va_calli (va_runV (As := [.int (nI (216 + i))]) (rest := []) ⟨hx, hb, hml, hown, hts⟩ (c_R_read l dC dI cI z0 r0 q r2 r3 r4 r5 r6 M g (216 + i) (by omega) (by omega)) (cwV 1 hts (ct_giV (fun w h9 => ct_tl h9) kw_502 kw_503 kw_504 kw_29 kw_505) rfl rfl rfl (by decide +kernel) ⟨Nat.le_of_ble_eq_true rfl, Nat.le_of_ble_eq_true rfl⟩) ⟨ct_ro_blind, va_recv hK hP (ci := 3) (q0 := 10) rfl rfl, ct_ro_pre (hP.sub [10, 11] rfl) hK⟩ rfl rfl hl.1 rfl (lv_room (Nat.le_of_ble_eq_true rfl)) d_H_value_73 ⟨by show 0 + (M - N) + 0 ≤ 1 + (M - N); omega, by show 0 + 2 * (M - N) + 0 ≤ 6 + 2 * (M - N); omega⟩) hS (fun q _ h9 => h9.elim) (fun q h9 => h9.elim) (fun ans402 uS tS H locs ht hvm hwans402 hB hz1 hk1 hS => ?_)
          have hP := ct_keep hP hk1
          refine ct_val (y := g (216 + i)) (hwans402) ?_
          refine vx_ret ?_
          refine W.widen (k := (1 + (M - N))) (n := (6 + 2 * (M - N))) (by omega) (by omega) ?_
          have hP9 := hP.sub [3, 4, 2, 5, 6, 0, 7, 1, 8, 9, 10, 11, 12, 13, 14, 15, 16, 17, 18] rfl
          exact W.iret (v := (g (216 + i))) hx hb hr (fun tS ht hW => ⟨⟨(g (216 + i)), (q, 1, hm2, gh, gl, gc, gp, gj, g, ge, gi, ga, gb, gt), rfl, ⟨⟨Or.inr rfl, fun _ => ⟨hK2, hmk.1⟩, hmk.2⟩, hfo2.1, hfo2.2.1, fun r hr => by rw [ct_spec_congrV hK6 (fun o ho => (hot o ho).2) hp27 hfo2.1 r hr]; exact hfo2.2.2 r hr, i, hi, rfl, rfl⟩, by rw [ht]; exact hP9, va_K.moved hW.alike hK, hD.sub [3, 4, 2, 5, 6, 0, 7, 1, 8, 9, 10, 11, 12, 13, 14, 15, 16, 17, 18] (by decide) rfl⟩, hS.F ht⟩) hS.2.2 d_H_value_76
        · have hMN : M = N := by rw [hM, if_pos (Or.inr (by omega))]
          refine lv_icmp_ge (tgt := 51) hx hb d_H_value_41 (by decide) (fun hc9 => absurd hc9 (nI_ge (by omega) (by omega))) (fun _ => ?_)
          refine lv_aload_n hx hb d_H_value_44 rfl (lv_at hl 0 rfl) ?_
          have hhl : (if K = 0 then 0 else la 0) < 256 ∧ (if K = 0 then 243 else ot 0 * 27) + ct_pr sz ((if K = 0 then 0 else la 0)).testBit 8 ≤ N ∧ ((if K = 0 then 243 else ot 0 * 27) + ct_pr sz ((if K = 0 then 0 else la 0)).testBit 8 ≤ 216 ∨ 243 ≤ (if K = 0 then 243 else ot 0 * 27)) := by
              by_cases h0 : K = 0
              · rw [if_pos h0, if_pos h0, ct_pr_none]; omega
              · rw [if_neg h0, if_neg h0]
                have e1 := hot 0 (by omega)
                have e2 := hp27 0 (by omega)
                have e3 := hla 0 (by omega)
                omega
          have hPc := hP.sub (ws' := [(h0, .inr (0, [.ref z0, .ref p0, .ref r0, .int tab, .ref k1, .int (nI K), .ref k2, .ref k3, .int (nI R), .ref k4, .int (nI pf), .int (nI 0)])), (k2, .inl (cI, 6, .inl fot)), (k3, .inl (cI, 6, .inl fo)), (r0, .inr (3, [.ref z0, .ref r1, .ref r2, .ref r3, .ref r4, .ref r5, .ref r6])), (r1, .inl (cI, N, .inl f)), (r2, .inl (cI, 8, .inl fe)), (r3, .inl (cI, 8, .inl fi)), (r4, .inl (cI, 8, .inl fa)), (r5, .inl (cI, 8, .inl fb)), (r6, .inl (cI, 8, .inl ft)), (z0, .inr (1, [.ref z1])), (z1, .inl (cI, 8, .inl (fun j => nI (sz j))))]) [0, 1, 2, 10, 11, 12, 13, 14, 15, 16, 17, 18] rfl
          have hDc := hD.sub (ws' := [(h0, .inr (0, [.ref z0, .ref p0, .ref r0, .int tab, .ref k1, .int (nI K), .ref k2, .ref k3, .int (nI R), .ref k4, .int (nI pf), .int (nI 0)])), (k2, .inl (cI, 6, .inl fot)), (k3, .inl (cI, 6, .inl fo)), (r0, .inr (3, [.ref z0, .ref r1, .ref r2, .ref r3, .ref r4, .ref r5, .ref r6])), (r1, .inl (cI, N, .inl f)), (r2, .inl (cI, 8, .inl fe)), (r3, .inl (cI, 8, .inl fi)), (r4, .inl (cI, 8, .inl fa)), (r5, .inl (cI, 8, .inl fb)), (r6, .inl (cI, 8, .inl ft)), (z0, .inr (1, [.ref z1])), (z1, .inl (cI, 8, .inl (fun j => nI (sz j))))]) [0, 1, 2, 10, 11, 12, 13, 14, 15, 16, 17, 18] (by decide) rfl
          have hFc := va_free (wc := [(h0, .inr (0, [.ref z0, .ref p0, .ref r0, .int tab, .ref k1, .int (nI K), .ref k2, .ref k3, .int (nI R), .ref k4, .int (nI pf), .int (nI 0)])), (k2, .inl (cI, 6, .inl fot)), (k3, .inl (cI, 6, .inl fo)), (r0, .inr (3, [.ref z0, .ref r1, .ref r2, .ref r3, .ref r4, .ref r5, .ref r6])), (r1, .inl (cI, N, .inl f)), (r2, .inl (cI, 8, .inl fe)), (r3, .inl (cI, 8, .inl fi)), (r4, .inl (cI, 8, .inl fa)), (r5, .inl (cI, 8, .inl fb)), (r6, .inl (cI, 8, .inl ft)), (z0, .inr (1, [.ref z1])), (z1, .inl (cI, 8, .inl (fun j => nI (sz j))))]) hD hS hA [0, 1, 2, 10, 11, 12, 13, 14, 15, 16, 17, 18] rfl
          refine va_callv (va_runV (As := []) (rest := []) ⟨hx, hb, hml, hown, hts⟩ (c_H_sumAlone l dC dI cI z1 sz h0 z0 p0 r0 k1 k2 k3 k4 r1 r2 r3 r4 r5 r6 tab (nI pf) (nI 0) N K R (ot 0) (la 0) (if K = 0 then 243 else ot 0 * 27) (if K = 0 then 0 else la 0) fot fo f fe fi fa fb ft (by omega) (fun z => (hot 0 (by omega)).1) (fun z => hfo 0 (by omega)) rfl rfl hhl.1 hR hsz (by omega) hhl.2.1 hN0 hR27 hhl.2.2 H.size) (cwV 0 hts (ct_giV (fun w h9 => ct_tl h9) kw_445 kw_447 kw_11 kw_26 kw_448) rfl rfl rfl (by decide +kernel) ⟨Nat.le_of_ble_eq_true rfl, Nat.le_of_ble_eq_true rfl⟩) ⟨ct_rw_blind, va_recv hK hP (ci := 0) (q0 := 0) rfl rfl, ct_rw_pre hPc hK hDc⟩ rfl rfl hl.1 rfl (lv_room (Nat.le_of_ble_eq_true rfl)) d_H_value_45 ⟨Nat.zero_le _, Nat.zero_le _⟩) hS (fun q _ h9 => hFc q h9) hFc (fun ⟨g, ge, gi, ga, gb, gt⟩ tS H1 locs ht hvm hj hB hz1 hk1 hS => ?_)
          obtain ⟨hP1, -, hD1⟩ := hB
          rw [ht] at hP1
          obtain ⟨hP, hD⟩ := va_join (wr := [(k4, .inl (cI, 64, .inl hm)), (p0, .inr (2, [.ref z0, .ref p1, .ref p2, .ref p3, .ref p4, .ref p5])), (p1, .inl (cI, 64, .inl fh)), (p2, .inl (cI, 64, .inl fl)), (p3, .inl (cI, 64, .inl fc)), (p4, .inl (cI, 64, .inl fp)), (p5, .inl (cI, 5, .inl fj))]) (w1 := [(h0, .inr (0, [.ref z0, .ref p0, .ref r0, .int tab, .ref k1, .int (nI K), .ref k2, .ref k3, .int (nI R), .ref k4, .int (nI pf), .int (nI 0)])), (k2, .inl (cI, 6, .inl fot)), (k3, .inl (cI, 6, .inl fo)), (r0, .inr (3, [.ref z0, .ref r1, .ref r2, .ref r3, .ref r4, .ref r5, .ref r6])), (r1, .inl (cI, N, .inl g)), (r2, .inl (cI, 8, .inl ge)), (r3, .inl (cI, 8, .inl gi)), (r4, .inl (cI, 8, .inl ga)), (r5, .inl (cI, 8, .inl gb)), (r6, .inl (cI, 8, .inl gt)), (z0, .inr (1, [.ref z1])), (z1, .inl (cI, 8, .inl (fun j => nI (sz j))))]) hP hD [0, 1, 2, 10, 11, 12, 13, 14, 15, 16, 17, 18] [3, 4, 5, 6, 7, 8, 9] rfl rfl (by decide) (by decide) hk1 hFc hP1 hD1
          generalize H1 = H at hP hS ⊢
          have hP : va_P (dC, dI) ct_cl [(k4, .inl (cI, 64, .inl hm)), (p0, .inr (2, [.ref z0, .ref p1, .ref p2, .ref p3, .ref p4, .ref p5])), (p1, .inl (cI, 64, .inl fh)), (p2, .inl (cI, 64, .inl fl)), (p3, .inl (cI, 64, .inl fc)), (p4, .inl (cI, 64, .inl fp)), (p5, .inl (cI, 5, .inl fj)), (h0, .inr (0, [.ref z0, .ref p0, .ref r0, .int tab, .ref k1, .int (nI K), .ref k2, .ref k3, .int (nI R), .ref k4, .int (nI pf), .int (nI 0)])), (k2, .inl (cI, 6, .inl fot)), (k3, .inl (cI, 6, .inl fo)), (r0, .inr (3, [.ref z0, .ref r1, .ref r2, .ref r3, .ref r4, .ref r5, .ref r6])), (r1, .inl (cI, N, .inl g)), (r2, .inl (cI, 8, .inl ge)), (r3, .inl (cI, 8, .inl gi)), (r4, .inl (cI, 8, .inl ga)), (r5, .inl (cI, 8, .inl gb)), (r6, .inl (cI, 8, .inl gt)), (z0, .inr (1, [.ref z1])), (z1, .inl (cI, 8, .inl (fun j => nI (sz j))))] H := hP
          have hD : va_D A [(k4, .inl (cI, 64, .inl hm)), (p0, .inr (2, [.ref z0, .ref p1, .ref p2, .ref p3, .ref p4, .ref p5])), (p1, .inl (cI, 64, .inl fh)), (p2, .inl (cI, 64, .inl fl)), (p3, .inl (cI, 64, .inl fc)), (p4, .inl (cI, 64, .inl fp)), (p5, .inl (cI, 5, .inl fj)), (h0, .inr (0, [.ref z0, .ref p0, .ref r0, .int tab, .ref k1, .int (nI K), .ref k2, .ref k3, .int (nI R), .ref k4, .int (nI pf), .int (nI 0)])), (k2, .inl (cI, 6, .inl fot)), (k3, .inl (cI, 6, .inl fo)), (r0, .inr (3, [.ref z0, .ref r1, .ref r2, .ref r3, .ref r4, .ref r5, .ref r6])), (r1, .inl (cI, N, .inl g)), (r2, .inl (cI, 8, .inl ge)), (r3, .inl (cI, 8, .inl gi)), (r4, .inl (cI, 8, .inl ga)), (r5, .inl (cI, 8, .inl gb)), (r6, .inl (cI, 8, .inl gt)), (z0, .inr (1, [.ref z1])), (z1, .inl (cI, 8, .inl (fun j => nI (sz j))))] := hD
          dsimp only at hj
          have hlow : ∀ i, i < 216 → g i = f i := fun i h9 => hj.1 i (by omega)
          refine lv_goto (tgt := 59) hx hb d_H_value_48 (by decide) ?_
          refine lv_aload_n hx hb d_H_value_59 rfl (lv_at hl 0 rfl) ?_
          refine lv_iconst (v := (nI 1)) hx hb d_H_value_60 (by decide) ?_
          refine va_put (D := (dC, dI)) (ci := 0) (v := .int (nI 1)) (ty := .boolean) (C := R_H) (T := T_H) (N := 12) hx hb hts (fun w h9 => ct_tl (ki_H w h9)) ty_H ok_H nm_H hown hK hP hD hS 7 rfl rfl 11 (by decide) (hts _ (ct_tl kw_125)) (fun _ h9 => h9) rfl (by decide +kernel) rfl rfl (Nat.le_of_ble_eq_true rfl) d_H_value_61 (fun H locs hP hD hS => ?_)
          have hP : va_P (dC, dI) ct_cl [(k4, .inl (cI, 64, .inl hm)), (p0, .inr (2, [.ref z0, .ref p1, .ref p2, .ref p3, .ref p4, .ref p5])), (p1, .inl (cI, 64, .inl fh)), (p2, .inl (cI, 64, .inl fl)), (p3, .inl (cI, 64, .inl fc)), (p4, .inl (cI, 64, .inl fp)), (p5, .inl (cI, 5, .inl fj)), (h0, .inr (0, [.ref z0, .ref p0, .ref r0, .int tab, .ref k1, .int (nI K), .ref k2, .ref k3, .int (nI R), .ref k4, .int (nI pf), .int (nI 1)])), (k2, .inl (cI, 6, .inl fot)), (k3, .inl (cI, 6, .inl fo)), (r0, .inr (3, [.ref z0, .ref r1, .ref r2, .ref r3, .ref r4, .ref r5, .ref r6])), (r1, .inl (cI, N, .inl g)), (r2, .inl (cI, 8, .inl ge)), (r3, .inl (cI, 8, .inl gi)), (r4, .inl (cI, 8, .inl ga)), (r5, .inl (cI, 8, .inl gb)), (r6, .inl (cI, 8, .inl gt)), (z0, .inr (1, [.ref z1])), (z1, .inl (cI, 8, .inl (fun j => nI (sz j))))] H := hP
          have hD : va_D A [(k4, .inl (cI, 64, .inl hm)), (p0, .inr (2, [.ref z0, .ref p1, .ref p2, .ref p3, .ref p4, .ref p5])), (p1, .inl (cI, 64, .inl fh)), (p2, .inl (cI, 64, .inl fl)), (p3, .inl (cI, 64, .inl fc)), (p4, .inl (cI, 64, .inl fp)), (p5, .inl (cI, 5, .inl fj)), (h0, .inr (0, [.ref z0, .ref p0, .ref r0, .int tab, .ref k1, .int (nI K), .ref k2, .ref k3, .int (nI R), .ref k4, .int (nI pf), .int (nI 1)])), (k2, .inl (cI, 6, .inl fot)), (k3, .inl (cI, 6, .inl fo)), (r0, .inr (3, [.ref z0, .ref r1, .ref r2, .ref r3, .ref r4, .ref r5, .ref r6])), (r1, .inl (cI, N, .inl g)), (r2, .inl (cI, 8, .inl ge)), (r3, .inl (cI, 8, .inl gi)), (r4, .inl (cI, 8, .inl ga)), (r5, .inl (cI, 8, .inl gb)), (r6, .inl (cI, 8, .inl gt)), (z0, .inr (1, [.ref z1])), (z1, .inl (cI, 8, .inl (fun j => nI (sz j))))] := hD
          refine lv_aload_n hx hb d_H_value_64 rfl (lv_at hl 0 rfl) ?_
          refine va_get (D := (dC, dI)) (ci := 0) (v := .ref r0) (C := R_H) (T := T_H) (N := 12) hx hb hts (fun w h9 => ct_tl (ki_H w h9)) hown hK hP 7 rfl rfl 2 (by decide) (hts _ (ct_tl kw_116)) (fun _ h9 => h9) rfl d_H_value_65 ?_
          refine lv_sipush (v := (nI 216)) hx hb d_H_value_68 (by decide) ?_
          refine lv_iload_n hx hb d_H_value_71 rfl (lv_at hl 1 rfl) ?_
          refine lv_iadd hx hb d_H_value_72 ?_
          refine ct_val (y := nI (216 + i)) (nI_add _ _) ?_
          refine va_calli (va_runV (As := [.int (nI (216 + i))]) (rest := []) ⟨hx, hb, hml, hown, hts⟩ (c_R_read l dC dI cI z0 r0 r1 r2 r3 r4 r5 r6 N g (216 + i) (by omega) (by omega)) (cwV 1 hts (ct_giV (fun w h9 => ct_tl h9) kw_502 kw_503 kw_504 kw_29 kw_505) rfl rfl rfl (by decide +kernel) ⟨Nat.le_of_ble_eq_true rfl, Nat.le_of_ble_eq_true rfl⟩) ⟨ct_ro_blind, va_recv hK hP (ci := 3) (q0 := 10) rfl rfl, ct_ro_pre (hP.sub [10, 11] rfl) hK⟩ rfl rfl hl.1 rfl (lv_room (Nat.le_of_ble_eq_true rfl)) d_H_value_73 ⟨Nat.zero_le _, Nat.zero_le _⟩) hS (fun q _ h9 => h9.elim) (fun q h9 => h9.elim) (fun ans402 uS tS H locs ht hvm hwans402 hB hz1 hk1 hS => ?_)
          have hP := ct_keep hP hk1
          refine ct_val (y := g (216 + i)) (hwans402) ?_
          rw [← hMN] at hP hD
          refine vx_ret ?_
          refine W.widen (k := (1 + (M - N))) (n := (6 + 2 * (M - N))) (Nat.zero_le _) (Nat.zero_le _) ?_
          have hP9 := hP.sub [7, 8, 9, 0, 1, 2, 3, 4, 5, 6, 10, 11, 12, 13, 14, 15, 16, 17, 18] rfl
          exact W.iret (v := (g (216 + i))) hx hb hr (fun tS ht hW => ⟨⟨(g (216 + i)), (r1, pf, hm, fh, fl, fc, fp, fj, g, ge, gi, ga, gb, gt), rfl, ⟨⟨hpf, hok, hk0⟩, hlow, hj.1 243 (by omega), fun r hr => by rw [ct_spec_congrV hK6 (fun o ho => (hot o ho).2) hp27 hlow r hr]; exact ct_alone (by omega) h1 rfl rfl hj r hr, i, hi, rfl, rfl⟩, by rw [ht]; exact hP9, va_K.moved hW.alike hK, hD.sub [7, 8, 9, 0, 1, 2, 3, 4, 5, 6, 10, 11, 12, 13, 14, 15, 16, 17, 18] (by decide) rfl⟩, hS.F ht⟩) hS.2.2 d_H_value_76
    · refine lv_icmp_lt (tgt := 29) hx hb d_H_value_16 (by decide) (fun hc9 => absurd hc9 (c2)) (fun _ => ?_)
      obtain ⟨sa, hstr⟩ := hXw.2.1 (102, "no such cell") (by decide)
      exact vx_throwS (own := R_H) (cls := R_IOE) (text := "no such cell") (names := ct_sup) (sa := sa) hx hb hst hown kf_IOE.1 kf_IOE.2 (hts _ (ct_tl kl_IOE)) (hts _ (ct_tl kn_IOE)) hstr (kt_IOE hts hXw) kg_IOE hXw.2.2.1 hXw.2.2.2 hS (hl.1.trans hml.symm) d_H_value_19 d_H_value_22 d_H_value_23 d_H_value_25 d_H_value_28 (fun x hx9 => (htab x hx9).elim) (Nat.le_of_ble_eq_true rfl) (Nat.le_of_ble_eq_true rfl) (by show 0 + 1 ≤ 1 + (M - N); omega) (by show 0 + 6 ≤ 6 + 2 * (M - N); omega) hlocks (fun tS hal9 hz9 hk9 => ⟨(), trivial, ⟨⟨by simp [ct_isn, Int32.not_lt.mp c2], rfl⟩, (ct_thr (hP.sub [0, 1, 2, 3, 4, 5, 6, 7, 8, 9, 10, 11, 12, 13, 14, 15, 16, 17, 18] rfl) hK (hD.sub [0, 1, 2, 3, 4, 5, 6, 7, 8, 9, 10, 11, 12, 13, 14, 15, 16, 17, 18] (by decide) rfl) hS hal9 hz9 hk9).1⟩, (ct_thr hP hK hD hS hal9 hz9 hk9).2⟩) hS.2.2 (by show 0 + 1 ≤ 1 + (M - N); omega) (by show 0 + 6 ≤ 6 + 2 * (M - N); omega)
end
