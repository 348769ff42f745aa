theorem ct_giT {big : List Cond} {b : Cond} {own : String} {idx : Nat} {y : MethodName} (hbig : ∀ w ∈ ct_tb, w ∈ big) (h1 : Cond.methodLink own idx y ∈ ct_tb) (h2 : Cond.static y ∈ ct_tb) (h4 : Cond.initialized y.cls ∈ ct_tb) (hb : b ∈ ct_tb) : GoodIn big (va_wsS own idx y (b :: ct_tb)) := fun w h => by
  have h : w = Cond.methodLink own idx y ∨ w = Cond.static y ∨ w = Cond.initialized y.cls ∨ w ∈ b :: ct_tb := by simpa [va_wsS] using h
  rcases h with rfl | rfl | rfl | h
  · exact ⟨hbig _ h1, ct_tb_good h1⟩
  · exact ⟨hbig _ h2, ct_tb_good h2⟩
  · exact ⟨hbig _ h4, ct_tb_good h4⟩
  · exact ct_gi hbig hb w h
