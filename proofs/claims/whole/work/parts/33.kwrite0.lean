/-! the class's picture behind writes -/
def ov (E : Nat → Nat → va_E) (k0 i0 : Nat) (e : va_E) : Nat → Nat → va_E := fun k i => if k = k0 ∧ i = i0 then e else E k i
theorem ov_s (E : Nat → Nat → va_E) (k0 i0 : Nat) (e : va_E) : ov E k0 i0 e k0 i0 = e := by simp [ov]
theorem ov_n {E : Nat → Nat → va_E} {k0 i0 k i : Nat} (e : va_E) (h : ¬ (k = k0 ∧ i = i0)) : ov E k0 i0 e k i = E k i := by simp [ov, h]
theorem ov_k {E : Nat → Nat → va_E} {k0 i0 k i : Nat} (e : va_E) (h : k ≠ k0) : ov E k0 i0 e k i = E k i := by simp [ov, h]
theorem ov_i {E : Nat → Nat → va_E} {k0 i0 k i : Nat} (e : va_E) (h : i ≠ i0) : ov E k0 i0 e k i = E k i := by simp [ov, h]
theorem kPut {ad : Nat → Nat → Nat} {V : Nat → Nat → Prop} {E : Nat → Nat → va_E} {f : hw_F} (P : hPic ad V E f) {k0 i0 : Nat} (h : V k0 i0) (e : va_E) : hPic ad V (ov E k0 i0 e) (hw_u f (ad k0 i0) e) := by
  have := hPic.put (E' := ov E k0 i0 e) P h (fun k i _ hn => ov_n e hn)
  rw [ov_s] at this
  exact this
def oV (V : Nat → Nat → Prop) (k0 i0 : Nat) : Nat → Nat → Prop := fun k i => V k i ∨ (k = k0 ∧ i = i0)
theorem kAdd {ad : Nat → Nat → Nat} {V : Nat → Nat → Prop} {E : Nat → Nat → va_E} {f : hw_F} (P : hPic ad V E f) {k0 i0 q : Nat} (hq : f q = none) (h : ¬ V k0 i0) (e : va_E) : hPic (hAd ad k0 i0 q) (oV V k0 i0) (ov E k0 i0 e) (hw_u f q e) := by
  have := hPic.add (V' := oV V k0 i0) (E' := ov E k0 i0 e) P hq (fun k i hv => hv) h (fun k i hv _ => ov_n e (fun z => h (by rw [← z.1, ← z.2]; exact hv)))
  rw [ov_s] at this
  exact this
theorem kV_cases {s : zS} {R : Nat → Nat → Prop} (h0 : R 0 0) (h1 : R 1 0) (h2 : R 2 0) (h3 : R 3 0) (h4 : R 4 0) (h5 : R 5 0) (h6 : R 6 0) (h7 : R 7 0) (h8 : R 8 0) (h9 : R 9 0) (h10 : ∀ i, i < z_nL s → R 10 i) (h11 : ∀ i, i < z_nL s → R 11 i) (h12 : ∀ i, i < z_nL s → R 12 i) (h13 : ∀ i, i < z_nL s → R 13 i) (h14 : ∀ i, i < z_nB s → R 14 i) (h15 : ∀ i, i < z_nD s → R 15 i) (h16 : ∀ i, i < z_nP s → R 16 i) : ∀ k i, kV s k i → R k i := by
  intro k i hv
  rcases hv with ⟨h, rfl⟩ | ⟨ha, hb, h⟩ | ⟨rfl, h⟩ | ⟨rfl, h⟩ | ⟨rfl, h⟩
  · match k, h with
    | 0, _ => exact h0
    | 1, _ => exact h1
    | 2, _ => exact h2
    | 3, _ => exact h3
    | 4, _ => exact h4
    | 5, _ => exact h5
    | 6, _ => exact h6
    | 7, _ => exact h7
    | 8, _ => exact h8
    | 9, _ => exact h9
    | k + 10, h => exact absurd h (by omega)
  · match k, ha, hb with
    | 10, _, _ => exact h10 i h
    | 11, _, _ => exact h11 i h
    | 12, _, _ => exact h12 i h
    | 13, _, _ => exact h13 i h
    | k + 14, _, hb => exact absurd hb (by omega)
  · exact h14 i h
  · exact h15 i h
  · exact h16 i h
/-- the picture at the end of a method that wrote -/
theorem kEnd {Y : hY} {ad : Nat → Nat → Nat} {V : Nat → Nat → Prop} {E : Nat → Nat → va_E} {f : hw_F} {s : zS} {x : kX} {t : Bool} (P : hPic ad V E f) (h : ∀ k i, kV s k i → V k i ∧ kE Y ad s x t k i = E k i) : kPic Y ad s x t f := hPic.same P (fun k i hv => (h k i hv).1) (fun k i hv => (h k i hv).2)
theorem hw_uu (f : hw_F) (a : Nat) (e e' : va_E) : hw_u (hw_u f a e) a e' = hw_u f a e' := by
  funext q
  simp only [hw_u]
  split <;> rfl
/-- the first bid, the winner, behind a number -/
def z_win (s : zS) (y : Int32) : Option Nat := match z_at y (z_nD s) with
  | some k => bif z_w s k then some k else none
  | none => none
/-- the search's winners are the state's -/
def kW (s : zS) (x : kX) : Prop := ∀ k, k < 12 → k_bt x.2.2.2.2.1 (nI k) = z_w s k
def kT (s : zS) (t : Bool) : Prop := z_pv s = (z_fd s && !t)
/-- the class at a: its picture, told by its own flag -/
def kOut (Y : hY) (a : Nat) (s : zS) (x : kX) (f : hw_F) : Prop := ∃ ad t, ad 0 0 = a ∧ kPic Y ad s x t f ∧ kT s t
theorem kT_t (s : zS) (h : z_pv s = false) : kT s true := by
  unfold kT
  rw [h]
  simp
theorem unop_case {s : zS} (N : zN s) (y : Int32) : za_unop s y = none ∨ ∃ i, i < z_nB s ∧ y = nI i ∧ za_unop s y = some i ∧ z_o s i = false := by
  unfold za_unop
  rcases z_at_case y (n := z_nB s) (by have := N.2.1; omega) with ⟨hz, -⟩ | ⟨i, hi, rfl, hz⟩
  · rw [hz]; exact Or.inl rfl
  · rw [hz]
    cases ho : z_o s i with
    | true => exact Or.inl (by simp [ho])
    | false => exact Or.inr ⟨i, hi, rfl, by simp [ho], ho⟩
