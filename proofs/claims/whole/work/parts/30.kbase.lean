theorem kNe {Y : hY} {ad : Nat → Nat → Nat} {s : zS} {x : kX} {t : Bool} {f : hw_F} (P : kPic Y ad s x t f) {a i b j : Nat} (ha : kV s a i) (hb : kV s b j) (h : a ≠ b) : ad a i ≠ ad b j := fun e => h (P.2 a i b j ha hb e).1
theorem kNi {Y : hY} {ad : Nat → Nat → Nat} {s : zS} {x : kX} {t : Bool} {f : hw_F} (P : kPic Y ad s x t f) {a i j : Nat} (ha : kV s a i) (hb : kV s a j) (h : i ≠ j) : ad a i ≠ ad a j := fun e => h (P.2 a i a j ha hb e).2
theorem z_at_case (y : Int32) {n : Nat} (hn : n < 2 ^ 31) : (z_at y n = none ∧ ¬ ∃ i, i < n ∧ y = nI i) ∨ ∃ i, i < n ∧ y = nI i ∧ z_at y n = some i := by
  cases h : z_at y n with
  | none => exact Or.inl ⟨rfl, fun ⟨i, hi, e⟩ => by rw [e, z_at_nI hn hi] at h; cases h⟩
  | some i =>
    obtain ⟨a, b⟩ := z_at_some hn h
    exact Or.inr ⟨i, a, b, rfl⟩
