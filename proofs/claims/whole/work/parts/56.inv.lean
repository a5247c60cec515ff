/-! WHAT HOLDS between the calls -/
theorem zc_sum_ext {g : Nat → Nat} {n : Nat} (h : ∀ k, n ≤ k → g k = 0) : ∀ m, n ≤ m → zc_sum g m = zc_sum g n
  | 0, hm => by rw [show n = 0 by omega]
  | m + 1, hm => by
    rcases Nat.lt_or_ge n (m + 1) with c | c
    · unfold zc_sum
      rw [zc_sum_ext h m (by omega), h m (by omega)]
      cases n with
      | zero => rfl
      | succ n => rfl
    · rw [show n = m + 1 by omega]
theorem zc_sumL_ext {p : Nat → Bool} {g : Nat → Int64} {n : Nat} (h : ∀ k, n ≤ k → p k = false) : ∀ m, n ≤ m → zc_sumL p g m = zc_sumL p g n
  | 0, hm => by rw [show n = 0 by omega]
  | m + 1, hm => by
    rcases Nat.lt_or_ge n (m + 1) with c | c
    · have e : zc_sumL p g (m + 1) = zc_sumL p g m + (bif p m then g m else 0) := rfl
      rw [e, zc_sumL_ext h m (by omega), h m (by omega)]
      simp
    · rw [show n = m + 1 by omega]
theorem zc_sumL_0 {p : Nat → Bool} {g : Nat → Int64} (h : ∀ k, 0 ≤ (g k).toInt ∧ (g k).toInt ≤ 100000000) : ∀ n, n ≤ 12 → 0 ≤ (zc_sumL p g n).toInt ∧ (zc_sumL p g n).toInt ≤ 100000000 * n
  | 0, _ => by
    show 0 ≤ (0 : Int64).toInt ∧ (0 : Int64).toInt ≤ _
    rw [show (0 : Int64).toInt = 0 from rfl]
    omega
  | n + 1, hn => by
    have ih := zc_sumL_0 (p := p) h n (by omega)
    have h1 := h n
    have e : zc_sumL p g (n + 1) = zc_sumL p g n + (bif p n then g n else 0) := rfl
    rw [e, Int64.toInt_add]
    cases p n with
    | false =>
      show 0 ≤ ((zc_sumL p g n).toInt + (0 : Int64).toInt).bmod (2 ^ 64) ∧ ((zc_sumL p g n).toInt + (0 : Int64).toInt).bmod (2 ^ 64) ≤ _
      rw [show (0 : Int64).toInt = 0 from rfl, Int.bmod_eq_of_le (by omega) (by omega)]
      omega
    | true =>
      show 0 ≤ ((zc_sumL p g n).toInt + (g n).toInt).bmod (2 ^ 64) ∧ ((zc_sumL p g n).toInt + (g n).toInt).bmod (2 ^ 64) ≤ _
      rw [Int.bmod_eq_of_le (by omega) (by omega)]
      omega
/-- what holds of the state -/
def zJ (s : zS) : Prop := zN s ∧ zF s ∧ (∀ k l, l < 8 → z_nL s ≤ l → z_h s (8 * k + l) = false) ∧ (∀ m, z_hi s m = decide (0 < z_ib s m)) ∧ (∀ q, ∃ b, b < 256 ∧ z_sb s q = nI b) ∧ (∀ p, p < z_nP s → ∃ q, 1 ≤ q ∧ q ≤ 6 ∧ z_dr s p = nI q) ∧ (∀ b, 0 ≤ z_m s b) ∧ (∀ k, 0 ≤ (z_c s k).toInt ∧ (z_c s k).toInt ≤ 100000000) ∧ (∀ k, z_pl s k = true → k < z_nD s ∧ z_o s (z_ow s k) = true) ∧ (∀ k, z_w s k = true → k < z_nD s ∧ z_fd s = true) ∧ 0 ≤ z_fs s
/-- what holds between the state and the search -/
def kJ (s : zS) (x : kX) : Prop := (∀ p j, x.2.1 p = some j → j < z_nD s) ∧ kW s x ∧ x.2.2.2.1 = za_sum s ∧ (z_fd s = true → kFd s x) ∧ (z_fd s = false → ∀ k, k < 12 → k_bt x.2.2.2.2.2 (nI k) = false)
theorem zJ.N {s : zS} (J : zJ s) : zN s := J.1
theorem zJ.F {s : zS} (J : zJ s) : zF s := J.2.1
theorem zJ.G {s : zS} (J : zJ s) : ∀ k l, l < 8 → z_nL s ≤ l → z_h s (8 * k + l) = false := J.2.2.1
theorem zJ.I {s : zS} (J : zJ s) : ∀ m, z_hi s m = decide (0 < z_ib s m) := J.2.2.2.1
theorem zJ.B {s : zS} (J : zJ s) : ∀ q, ∃ b, b < 256 ∧ z_sb s q = nI b := J.2.2.2.2.1
theorem zJ.Q {s : zS} (J : zJ s) : ∀ p, p < z_nP s → ∃ q, 1 ≤ q ∧ q ≤ 6 ∧ z_dr s p = nI q := J.2.2.2.2.2.1
theorem zJ.M {s : zS} (J : zJ s) : ∀ b, 0 ≤ z_m s b := J.2.2.2.2.2.2.1
theorem zJ.C {s : zS} (J : zJ s) : ∀ k, 0 ≤ (z_c s k).toInt ∧ (z_c s k).toInt ≤ 100000000 := J.2.2.2.2.2.2.2.1
theorem zJ.P {s : zS} (J : zJ s) : ∀ k, z_pl s k = true → k < z_nD s ∧ z_o s (z_ow s k) = true := J.2.2.2.2.2.2.2.2.1
theorem zJ.W {s : zS} (J : zJ s) : ∀ k, z_w s k = true → k < z_nD s ∧ z_fd s = true := J.2.2.2.2.2.2.2.2.2.1
theorem zJ.S {s : zS} (J : zJ s) : 0 ≤ z_fs s := J.2.2.2.2.2.2.2.2.2.2
theorem zJ.B0 {s : zS} (J : zJ s) (u : Nat → Bool) : 0 ≤ zk_sum s u := by
  rw [Int64.le_iff_toInt_le]
  exact (zc_sumL_0 J.C (z_nD s) J.N.2.2.1).1
/-- something was told: the sales of the last run are the same -/
def zQ (s s' : zS) : Prop := z_pl s' = z_pl s ∧ z_w s' = z_w s ∧ z_fd s' = z_fd s ∧ z_fs s' = z_fs s ∧ z_nD s ≤ z_nD s' ∧ z_nL s ≤ z_nL s' ∧ z_nB s ≤ z_nB s' ∧ ∀ k, z_pl s k = true → z_ow s' k = z_ow s k ∧ z_c s' k = z_c s k ∧ (∀ l, l < 8 → z_h s' (8 * k + l) = z_h s (8 * k + l)) ∧ z_m s' (z_ow s k) = z_m s (z_ow s k)
theorem zQ_sum {s s' : zS} (q : zQ s s') {u : Nat → Bool} (h : zk_can s u) : zk_sum s' u = zk_sum s u := by
  have e : zk_sum s' u = zc_sumL u (z_c s') (z_nD s) := zc_sumL_ext (fun k hk => by
    cases hu : u k with
    | false => rfl
    | true => exact absurd (h k hu).1 (by omega)) _ q.2.2.2.2.1
  rw [e]
  unfold zk_sum
  have : ∀ n, zc_sumL u (z_c s') n = zc_sumL u (z_c s) n := by
    intro n
    induction n with
    | zero => rfl
    | succ n ih =>
      unfold zc_sumL
      rw [ih]
      cases hu : u n with
      | false => rfl
      | true => rw [(q.2.2.2.2.2.2.2 n (h n hu).2).2.1]
  exact this _
theorem zQ_can {s s' : zS} (J : zJ s) (q : zQ s s') (u : Nat → Bool) : zk_can s' u ↔ zk_can s u := by
  constructor
  · intro h k hk
    have h1 := (h k hk).2
    rw [q.1] at h1
    exact ⟨(J.P k h1).1, h1⟩
  · intro h k hk
    have h1 := h k hk
    exact ⟨by have := q.2.2.2.2.1; omega, by rw [q.1]; exact h1.2⟩
theorem zQ_sale {s s' : zS} (J : zJ s) (J' : zJ s') (q : zQ s s') {u : Nat → Bool} (h : zk_can s u) : zk_sale s' u ↔ zk_sale s u := by
  have hf : ∀ k, z_nD s ≤ k → u k = false := fun k hk => by
    cases hu : u k with
    | false => rfl
    | true => exact absurd (h k hu).1 (by omega)
  have hc : ∀ l, l < 8 → zc_cnt (fun k => u k && z_h s' (8 * k + l)) (z_nD s') = zc_cnt (fun k => u k && z_h s (8 * k + l)) (z_nD s) := fun l hl => by
    rw [zc_cnt_cg (q := fun k => u k && z_h s (8 * k + l)) (fun k hk => by
      cases hu : u k with
      | false => rfl
      | true => rw [(q.2.2.2.2.2.2.2 k (h k hu).2).2.2.1 l hl]), zc_cnt_sum, zc_cnt_sum]
    exact zc_sum_ext (fun k hk => by simp [hf k hk]) _ q.2.2.2.2.1
  have hs : ∀ b, zc_sum (fun k => bif u k && decide (z_ow s' k = b) then z_lots s' k else 0) (z_nD s') = zc_sum (fun k => bif u k && decide (z_ow s k = b) then z_lots s k else 0) (z_nD s) := fun b => by
    rw [zc_sum_cg (q := fun k => bif u k && decide (z_ow s k = b) then z_lots s k else 0) (fun k hk => by
      cases hu : u k with
      | false => rfl
      | true =>
        have h9 := q.2.2.2.2.2.2.2 k (h k hu).2
        rw [h9.1, show z_lots s' k = z_lots s k from zc_cnt_cg (fun l hl => h9.2.2.1 l hl)])]
    exact zc_sum_ext (fun k hk => by simp [hf k hk]) _ q.2.2.2.2.1
  have h0 : ∀ b, (¬ ∃ k, u k = true ∧ z_ow s k = b) → zc_sum (fun k => bif u k && decide (z_ow s k = b) then z_lots s k else 0) (z_nD s) = 0 := fun b hb => by
    rw [zc_sum_cg (q := fun _ => 0) (fun k hk => by
      cases hu : u k with
      | false => rfl
      | true => rw [decide_eq_false (fun e => hb ⟨k, hu, e⟩)]; rfl)]
    exact (zc_sum_ext (g := fun _ => 0) (n := 0) (fun _ _ => rfl) _ (Nat.zero_le _)).trans rfl
  constructor
  · intro S
    refine ⟨fun k hk hu => (h k hu).2, fun l hl => ?_, fun b hb => ?_⟩
    · rw [← hc l (by have := J.N.1; omega)]
      exact S.2.1 l (by have := q.2.2.2.2.2.1; omega)
    · by_cases e : ∃ k, u k = true ∧ z_ow s k = b
      · obtain ⟨k, hu, rfl⟩ := e
        rw [← hs, ← (q.2.2.2.2.2.2.2 k (h k hu).2).2.2.2]
        exact S.2.2 _ (by have := q.2.2.2.2.2.2.1; omega)
      · rw [h0 b e]
        exact J.M b
  · intro S
    refine ⟨fun k hk hu => by rw [q.1]; exact (h k hu).2, fun l hl => ?_, fun b hb => ?_⟩
    · have hl8 : l < 8 := by have := J'.N.1; omega
      rw [hc l hl8]
      rcases Nat.lt_or_ge l (z_nL s) with c | c
      · exact S.2.1 l c
      · rw [zc_cnt_0 (fun k hk => by rw [J.G k l hl8 c, Bool.and_false])]
        exact Nat.zero_le _
    · rw [hs]
      by_cases e : ∃ k, u k = true ∧ z_ow s k = b
      · obtain ⟨k, hu, rfl⟩ := e
        rw [(q.2.2.2.2.2.2.2 k (h k hu).2).2.2.2]
        exact S.2.2 _ (J.N.2.2.2.2.1 k (h k hu).1)
      · rw [h0 b e]
        exact J'.M b
theorem zQ_V {s s' : zS} (J : zJ s) (J' : zJ s') (q : zQ s s') (u : Nat → Bool) : zV s' u ↔ zV s u := by
  constructor
  · rintro ⟨h1, h2⟩
    have h3 := (zQ_can J q u).mp h2
    exact ⟨(zQ_sale J J' q h3).mp h1, h3⟩
  · rintro ⟨h1, h2⟩
    exact ⟨(zQ_sale J J' q h2).mpr h1, (zQ_can J q u).mpr h2⟩
theorem kJ_tell {s s' : zS} {x : kX} (J : zJ s) (J' : zJ s') (q : zQ s s') (K : kJ s x) : kJ s' x := by
  obtain ⟨k1, k2, k3, k4, k5⟩ := K
  refine ⟨fun p j h => by have := k1 p j h; have := q.2.2.2.2.1; omega, fun k hk => by rw [q.2.1]; exact k2 k hk, ?_, fun h => ?_, fun h => ?_⟩
  · rw [k3]
    unfold za_sum
    rw [q.2.2.1, q.2.2.2.1]
  · rw [q.2.2.1] at h
    obtain ⟨h1, h2⟩ := k4 h
    refine ⟨fun k hk => ⟨fun u hu h3 => ?_, ?_⟩, fun k hk => ?_⟩
    · have hu2 := (zQ_V J J' q u).mp hu
      rw [zQ_sum q hu2.2]
      exact (h1 k hk).1 u hu2 h3
    · rcases (h1 k hk).2 with e | ⟨u, hu, e1, e2⟩
      · exact Or.inl e
      · exact Or.inr ⟨u, (zQ_V J J' q u).mpr hu, e1, by rw [zQ_sum q hu.2]; exact e2⟩
    · rw [h2 k hk, q.2.2.2.1]
      constructor
      · rintro ⟨u, hu, e1, e2⟩
        exact ⟨u, (zQ_V J J' q u).mpr hu, by rw [zQ_sum q hu.2]; exact e1, e2⟩
      · rintro ⟨u, hu, e1, e2⟩
        have hu2 := (zQ_V J J' q u).mp hu
        exact ⟨u, hu2, by rw [← zQ_sum q hu2.2]; exact e1, e2⟩
  · rw [q.2.2.1] at h
    exact k5 h
