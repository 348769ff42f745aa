/-! the steps of a plan, from the last one down -/
def ct_pop (S : Nat) : Nat := (if S.testBit 0 = true then 1 else 0) + (if S.testBit 1 = true then 1 else 0) + (if S.testBit 2 = true then 1 else 0) + (if S.testBit 3 = true then 1 else 0) + (if S.testBit 4 = true then 1 else 0) + (if S.testBit 5 = true then 1 else 0)
theorem ct_pop_pt : ∀ S, S < 64 → ∀ a, a < S → ct_pt S a = true → ct_pop a + ct_pop (S ^^^ a) = ct_pop S := by decide +kernel
theorem ct_pop_1 : ∀ S, S < 64 → 0 < S → (ct_sev S = true ↔ 2 ≤ ct_pop S) ∧ 1 ≤ ct_pop S := by decide +kernel
theorem ct_pop_all : ∀ K, K < 7 → ct_pop (2 ^ K - 1) = K := by decide +kernel
theorem ct_sev_all : ∀ K, K < 7 → 2 ≤ K → ct_sev (2 ^ K - 1) = true := by decide +kernel
/-- what the plan's table promises: parts are parts -/
def ct_okB (B : Nat → Nat × Nat) : Prop := ∀ S, S < 64 → ct_sev S = true → (B S).2 < S ∧ ct_pt S (B S).2 = true
theorem ct_ls_fuel {B : Nat → Nat × Nat} (hB : ct_okB B) : ∀ (n k S : Nat), S < n → S < k → S < 64 → ct_ls B n S = ct_ls B k S := by
  intro n
  induction n with
  | zero => intro k S h; omega
  | succ n ih =>
    intro k S h1 h2 h3
    obtain ⟨k, rfl⟩ : ∃ j, k = j + 1 := ⟨k - 1, by omega⟩
    show (if ct_sev S = true then _ else _) = (if ct_sev S = true then _ else _)
    by_cases hs : ct_sev S = true
    · rw [if_pos hs, if_pos hs]
      have hp := hB S h3 hs
      have hc := ct_pt_co S h3 _ hp.1 hp.2
      rw [ih k _ (by omega) (by omega) (by omega), ih k (S ^^^ (B S).2) (by omega) (by omega) (by omega)]
    · rw [if_neg hs, if_neg hs]
theorem ct_ls_one {B : Nat → Nat × Nat} {S : Nat} (hs : ct_sev S = false) : ct_ls B 64 S = [] := by
  show (if ct_sev S = true then _ else _) = _
  rw [if_neg (by rw [hs]; exact Bool.false_ne_true)]
theorem ct_ls_sev {B : Nat → Nat × Nat} (hB : ct_okB B) {S : Nat} (hS : S < 64) (hs : ct_sev S = true) : ct_ls B 64 S = ct_ls B 64 (B S).2 ++ ct_ls B 64 (S ^^^ (B S).2) ++ [S] := by
  have hp := hB S hS hs
  have hc := ct_pt_co S hS _ hp.1 hp.2
  have e : ct_ls B 64 S = ct_ls B 63 (B S).2 ++ ct_ls B 63 (S ^^^ (B S).2) ++ [S] := by
    show (if ct_sev S = true then _ else _) = _
    rw [if_pos hs]
  rw [e, ct_ls_fuel hB 63 64 _ (by omega) (by omega) (by omega), ct_ls_fuel hB 63 64 (S ^^^ (B S).2) (by omega) (by omega) (by omega)]
theorem ct_ls_len {B : Nat → Nat × Nat} (hB : ct_okB B) : ∀ (n S : Nat), S < n → S < 64 → 0 < S → (ct_ls B 64 S).length + 1 = ct_pop S := by
  intro n
  induction n with
  | zero => intro S h; omega
  | succ n ih =>
    intro S h hS h0
    have hq := ct_pop_1 S hS h0
    cases hs : ct_sev S with
    | false =>
      rw [ct_ls_one hs]
      have : ¬ 2 ≤ ct_pop S := fun z => by rw [hq.1.mpr z] at hs; cases hs
      show 0 + 1 = _
      omega
    | true =>
      have hp := hB S hS hs
      have hc := ct_pt_co S hS _ hp.1 hp.2
      have h1 := ih (B S).2 (by omega) (by omega) (ct_pt_pos hp.2)
      have h2 := ih (S ^^^ (B S).2) (by omega) (by omega) hc.1
      have h3 := ct_pop_pt S hS _ hp.1 hp.2
      rw [ct_ls_sev hB hS hs, List.length_append, List.length_append]
      show _ + _ + 1 + 1 = _
      omega
/-- blocks that wait: the last one first; each has its set at its end -/
def ct_pend (B : Nat → Nat × Nat) (g : Nat → Int32) : Nat → List Nat → Prop
  | n, [] => n = 0
  | n, S :: L => ct_sev S = true ∧ S < 64 ∧ (ct_ls B 64 S).length ≤ n ∧ g (n - 1) = nI S ∧ ct_pend B g (n - (ct_ls B 64 S).length) L
def ct_fl (B : Nat → Nat × Nat) : List Nat → List Nat
  | [] => []
  | S :: L => ct_fl B L ++ ct_ls B 64 S
theorem ct_pend_congr {B : Nat → Nat × Nat} {g g' : Nat → Int32} : ∀ (L : List Nat) (n : Nat), (∀ i, i < n → g i = g' i) → ct_pend B g n L → ct_pend B g' n L := by
  intro L
  induction L with
  | nil => intro n _ h; exact h
  | cons S L ih =>
    intro n hg h
    obtain ⟨h1, h2, h3, h4, h5⟩ := h
    have h6 : 0 < (ct_ls B 64 S).length := by
      have e : ct_ls B 64 S = ct_ls B 63 (B S).2 ++ ct_ls B 63 (S ^^^ (B S).2) ++ [S] := by
        show (if ct_sev S = true then _ else _) = _
        rw [if_pos h1]
      rw [e, List.length_append]
      show 0 < _ + 1
      omega
    exact ⟨h1, h2, h3, by rw [← hg (n - 1) (by omega)]; exact h4, ih _ (fun i hi => hg i (by omega)) h5⟩
theorem ct_pend_len {B : Nat → Nat × Nat} {g : Nat → Int32} : ∀ (L : List Nat) (n : Nat), ct_pend B g n L → (ct_fl B L).length = n := by
  intro L
  induction L with
  | nil => intro n h; exact (show n = 0 from h).symm
  | cons S L ih =>
    intro n h
    obtain ⟨h1, h2, h3, h4, h5⟩ := h
    show (ct_fl B L ++ ct_ls B 64 S).length = n
    rw [List.length_append, ih _ h5]
    omega
/-- the state of the list at place n -/
def ct_inv (B : Nat → Nat × Nat) (T : List Nat) (g : Nat → Int32) (n : Nat) (L : List Nat) : Prop := ct_pend B g n L ∧ ct_fl B L = T.take n ∧ n ≤ T.length ∧ ∀ i, n ≤ i → i < T.length → g i = nI (T.getD i 0)
theorem ct_inv_top {B : Nat → Nat × Nat} {T : List Nat} {g : Nat → Int32} {n : Nat} {L : List Nat} (h : ct_inv B T g (n + 1) L) : ∃ S L', L = S :: L' ∧ ct_sev S = true ∧ S < 64 ∧ g n = nI S := by
  obtain ⟨h1, -⟩ := h
  cases L with
  | nil => exact absurd (show n + 1 = 0 from h1) (by omega)
  | cons S L => exact ⟨S, L, rfl, h1.1, h1.2.1, h1.2.2.2.1⟩
/-- the two writes of a round -/
def ct_wr (B : Nat → Nat × Nat) (g : Nat → Int32) (n S : Nat) : Nat → Int32 :=
  let g1 := if ct_sev (S ^^^ (B S).2) = true then upd g (n - 1) (nI (S ^^^ (B S).2)) else g
  if ct_sev (B S).2 = true then upd g1 (n - ct_pop (S ^^^ (B S).2)) (nI (B S).2) else g1
theorem ct_inv_step {B : Nat → Nat × Nat} (hB : ct_okB B) {T : List Nat} {g : Nat → Int32} {n S : Nat} {L : List Nat} (h : ct_inv B T g (n + 1) (S :: L)) :
    (ct_sev (S ^^^ (B S).2) = true → 1 ≤ n) ∧ (ct_sev (B S).2 = true → ct_pop (S ^^^ (B S).2) ≤ n) ∧ ∃ L', ct_inv B T (ct_wr B g n S) n L' := by
  obtain ⟨⟨hs, hS, hle, hg, hpd⟩, hfl, hn, hdone⟩ := h
  have hp := hB S hS hs
  have hc := ct_pt_co S hS _ hp.1 hp.2
  have hp0 := ct_pt_pos hp.2
  have l1 := ct_ls_len hB (S + 1) (B S).2 (by omega) (by omega) hp0
  have l2 := ct_ls_len hB (S + 1) (S ^^^ (B S).2) (by omega) (by omega) hc.1
  have q1 := ct_pop_1 (B S).2 (by omega) hp0
  have q2 := ct_pop_1 (S ^^^ (B S).2) (by omega) hc.1
  have e := ct_ls_sev hB hS hs
  generalize hpa : (B S).2 = pa at *
  generalize hot : S ^^^ pa = ot at *
  have elen : (ct_ls B 64 S).length = (ct_ls B 64 pa).length + (ct_ls B 64 ot).length + 1 := by
    rw [e, List.length_append, List.length_append]; rfl
  have hwr : ct_wr B g n S = (if ct_sev pa = true then upd (if ct_sev ot = true then upd g (n - 1) (nI ot) else g) (n - ct_pop ot) (nI pa) else (if ct_sev ot = true then upd g (n - 1) (nI ot) else g)) := by
    unfold ct_wr
    rw [hpa, hot]
  have hge : ∀ i, n ≤ i → ct_wr B g n S i = g i := by
    intro i hi
    rw [hwr]
    by_cases h1 : ct_sev pa = true
    · have := q1.1.mp h1
      rw [if_pos h1, pk_un (by omega)]
      by_cases h2 : ct_sev ot = true
      · have := q2.1.mp h2
        rw [if_pos h2, pk_un (by omega)]
      · rw [if_neg h2]
    · rw [if_neg h1]
      by_cases h2 : ct_sev ot = true
      · have := q2.1.mp h2
        rw [if_pos h2, pk_un (by omega)]
      · rw [if_neg h2]
  have hlo : ∀ i, i < n + 1 - (ct_ls B 64 S).length → g i = ct_wr B g n S i := by
    intro i hi
    rw [hwr]
    by_cases h1 : ct_sev pa = true
    · have := q1.1.mp h1
      rw [if_pos h1, pk_un (by omega)]
      by_cases h2 : ct_sev ot = true
      · have := q2.1.mp h2
        rw [if_pos h2, pk_un (by omega)]
      · rw [if_neg h2]
    · rw [if_neg h1]
      by_cases h2 : ct_sev ot = true
      · have := q2.1.mp h2
        rw [if_pos h2, pk_un (by omega)]
      · rw [if_neg h2]
  have hflat : ct_fl B (S :: L) = (ct_fl B L ++ ct_ls B 64 pa ++ ct_ls B 64 ot) ++ [S] := by
    show ct_fl B L ++ ct_ls B 64 S = _
    rw [e]; simp
  have hlenL := ct_pend_len L _ hpd
  have hrest : ct_fl B L ++ ct_ls B 64 pa ++ ct_ls B 64 ot = T.take n := by
    have h1 := congrArg (fun l => l.take n) (hflat.symm.trans hfl)
    have h2 : (ct_fl B L ++ ct_ls B 64 pa ++ ct_ls B 64 ot).length = n := by
      rw [List.length_append, List.length_append, hlenL]; omega
    simp only [List.take_take, show min n (n + 1) = n by omega] at h1
    rw [← h1, List.take_append_of_le_length (by omega), ← h2, List.take_length]
  have hSat : T.getD n 0 = S := by
    have h2 : (ct_fl B L ++ ct_ls B 64 pa ++ ct_ls B 64 ot).length = n := by
      rw [List.length_append, List.length_append, hlenL]; omega
    have h1 : (T.take (n + 1))[n]? = some S := by
      rw [← hfl, hflat, List.getElem?_append_right (by omega), h2]
      simp
    rw [List.getElem?_take_of_lt (by omega)] at h1
    simp [List.getD, h1]
  refine ⟨fun h2 => by have := q2.1.mp h2; omega, fun h1 => by have := q1.1.mp h1; omega, ?_⟩
  have hdone2 : ∀ i, n ≤ i → i < T.length → ct_wr B g n S i = nI (T.getD i 0) := by
    intro i h1 h2
    rw [hge i h1]
    by_cases hi : i = n
    · subst hi
      rw [hSat]
      exact hg
    · exact hdone i (by omega) h2
  have hpd2 := ct_pend_congr L _ hlo hpd
  have eot : ∀ i, ct_wr B g n S i = ct_wr B g n S i := fun _ => rfl
  cases h1 : ct_sev pa with
  | true =>
    have k1 := q1.1.mp h1
    have vpa : ct_wr B g n S (n - ct_pop ot) = nI pa := by rw [hwr, if_pos h1]; exact pk_us
    have base : ct_pend B (ct_wr B g n S) (n - (ct_ls B 64 ot).length) (pa :: L) := by
      refine ⟨h1, by omega, by omega, ?_, ?_⟩
      · rw [show n - (ct_ls B 64 ot).length - 1 = n - ct_pop ot by omega]; exact vpa
      · rw [show n - (ct_ls B 64 ot).length - (ct_ls B 64 pa).length = n + 1 - (ct_ls B 64 S).length by omega]; exact hpd2
    cases h2 : ct_sev ot with
    | true =>
      have k2 := q2.1.mp h2
      have vot : ct_wr B g n S (n - 1) = nI ot := by rw [hwr, if_pos h1, if_pos h2, pk_un (by omega)]; exact pk_us
      exact ⟨ot :: pa :: L, ⟨h2, by omega, by omega, vot, base⟩, hrest, by omega, hdone2⟩
    | false =>
      have e0 : ct_ls B 64 ot = [] := ct_ls_one h2
      refine ⟨pa :: L, ?_, ?_, by omega, hdone2⟩
      · have := base
        rw [e0] at this
        exact this
      · rw [← hrest, e0, List.append_nil]; rfl
  | false =>
    have e1 : ct_ls B 64 pa = [] := ct_ls_one h1
    cases h2 : ct_sev ot with
    | true =>
      have k2 := q2.1.mp h2
      have vot : ct_wr B g n S (n - 1) = nI ot := by rw [hwr, if_neg (by rw [h1]; exact Bool.false_ne_true), if_pos h2]; exact pk_us
      refine ⟨ot :: L, ⟨h2, by omega, by omega, vot, ?_⟩, ?_, by omega, hdone2⟩
      · rw [show n - (ct_ls B 64 ot).length = n + 1 - (ct_ls B 64 S).length by rw [elen, e1]; show _ = n + 1 - (0 + _ + 1); omega]; exact hpd2
      · rw [← hrest, e1, List.append_nil]; rfl
    | false =>
      have e0 : ct_ls B 64 ot = [] := ct_ls_one h2
      refine ⟨L, ?_, ?_, by omega, hdone2⟩
      · have h9 : n + 1 - (ct_ls B 64 S).length = n := by rw [elen, e1, e0]; show n + 1 - (0 + 0 + 1) = n; omega
        rw [h9] at hpd2
        exact hpd2
      · rw [← hrest, e1, e0, List.append_nil, List.append_nil]
theorem ct_inv_0 {B : Nat → Nat × Nat} (hB : ct_okB B) {S : Nat} {g : Nat → Int32} (hS : S < 64) (hs : ct_sev S = true) : ct_inv B (ct_ls B 64 S) (upd g ((ct_ls B 64 S).length - 1) (nI S)) (ct_ls B 64 S).length [S] := by
  refine ⟨⟨hs, hS, Nat.le_refl _, pk_us, Nat.sub_self _⟩, ?_, Nat.le_refl _, fun i h1 h2 => by omega⟩
  rw [List.take_length]
  rfl
