/-! THE SEARCH OF THE REFERENCE, by what it finds; and that both find the same -/
def oI (om : Nat → Nat) (i r : Nat) : Nat → Nat := fun p => if p < r then om p else if p = r then i else om (p - 1)
theorem oI_l {om : Nat → Nat} {i r p : Nat} (h : p < r) : oI om i r p = om p := if_pos h
theorem oI_e {om : Nat → Nat} {i r : Nat} : oI om i r r = i := (if_neg (Nat.lt_irrefl r)).trans (if_pos rfl)
theorem oI_g {om : Nat → Nat} {i r p : Nat} (h : r < p) : oI om i r p = om (p - 1) := (if_neg (by omega)).trans (if_neg (by omega))
theorem kOrd_ins {s : zS} {A : Nat → Prop} {om : Nat → Nat} {n : Nat} (O : kOrd s A om n) {i : Nat} (hi : ∀ k, A k → k < i) {r : Nat} (hr : r ≤ n) (h1 : ∀ q, q + 1 = r → ¬ z_t s (z_ow s i) < z_t s (z_ow s (om q))) (h2 : ∀ q, r ≤ q → q < n → z_t s (z_ow s i) < z_t s (z_ow s (om q))) : kOrd s (fun k => A k ∨ k = i) (oI om i r) (n + 1) := by
  have hle : ∀ q, q < r → zf_bef s (om q) i = true := fun q hq => by
    have hlt := hi _ (O.1 q (by omega))
    have h3 := h1 (r - 1) (by omega)
    rw [Int64.lt_iff_toInt_lt] at h3
    rw [zf_iff]
    rcases Nat.lt_or_ge q (r - 1) with c | c
    · have h4 := O.2.2 q (r - 1) c (by omega)
      rw [zf_iff] at h4
      omega
    · rw [show r - 1 = q by omega] at h3
      omega
  have hgt : ∀ q, r ≤ q → q < n → zf_bef s i (om q) = true := fun q a b => by
    have h3 := h2 q a b
    rw [Int64.lt_iff_toInt_lt] at h3
    rw [zf_iff]
    exact Or.inl h3
  refine ⟨fun p hp => ?_, fun k hk => ?_, fun p q hpq hq => ?_⟩
  · rcases Nat.lt_trichotomy p r with c | c | c
    · rw [oI_l c]; exact Or.inl (O.1 p (by omega))
    · subst c; rw [oI_e]; exact Or.inr rfl
    · rw [oI_g c]; exact Or.inl (O.1 (p - 1) (by omega))
  · rcases hk with hk | rfl
    · obtain ⟨p, hp, e⟩ := O.2.1 k hk
      rcases Nat.lt_or_ge p r with c | c
      · exact ⟨p, by omega, by rw [oI_l c, e]⟩
      · exact ⟨p + 1, by omega, by rw [oI_g (by omega), Nat.add_sub_cancel, e]⟩
    · exact ⟨r, by omega, oI_e⟩
  · rcases Nat.lt_trichotomy p r with c | c | c
    · rw [oI_l c]
      rcases Nat.lt_trichotomy q r with d | d | d
      · rw [oI_l d]; exact O.2.2 p q hpq (by omega)
      · subst d; rw [oI_e]; exact hle p c
      · rw [oI_g d]; exact O.2.2 p (q - 1) (by omega) (by omega)
    · subst c
      rw [oI_e, oI_g hpq]
      exact hgt (q - 1) (by omega) (by omega)
    · rw [oI_g c, oI_g (by omega)]
      exact O.2.2 (p - 1) (q - 1) (by omega) (by omega)
theorem zf_le_char (s : zS) (tk : Nat → Bool) : ∀ n, (zf_le s tk n = none ∧ ∀ k, k < n → tk k = z_w s k) ∨ ∃ k, zf_le s tk n = some k ∧ k < n ∧ tk k ≠ z_w s k ∧ ∀ j, j < n → zf_bef s j k = true → tk j = z_w s j
  | 0 => Or.inl ⟨rfl, fun k h => absurd h (Nat.not_lt_zero k)⟩
  | n + 1 => by
    have ih := zf_le_char s tk n
    by_cases e : tk n = z_w s n
    · have e2 : zf_le s tk (n + 1) = zf_le s tk n := if_pos e
      rw [e2]
      rcases ih with ⟨h1, h2⟩ | ⟨k, h1, h2, h3, h4⟩
      · refine Or.inl ⟨h1, fun k hk => ?_⟩
        rcases Nat.lt_or_ge k n with c | c
        · exact h2 k c
        · rw [show k = n by omega]; exact e
      · refine Or.inr ⟨k, h1, by omega, h3, fun j hj hb => ?_⟩
        rcases Nat.lt_or_ge j n with c | c
        · exact h4 j c hb
        · rw [show j = n by omega]; exact e
    · have e2 : zf_le s tk (n + 1) = (match zf_le s tk n with
        | none => some n
        | some j => bif zf_bef s n j then some n else some j) := if_neg e
      rcases ih with ⟨h1, h2⟩ | ⟨k, h1, h2, h3, h4⟩
      · rw [h1] at e2
        refine Or.inr ⟨n, e2, by omega, e, fun j hj hb => ?_⟩
        rcases Nat.lt_or_ge j n with c | c
        · exact h2 j c
        · rw [show j = n by omega, zf_irr] at hb; cases hb
      · rw [h1] at e2
        cases hb : zf_bef s n k with
        | true =>
          have e3 : zf_le s tk (n + 1) = some n := by rw [e2]; simp only [hb]; rfl
          refine Or.inr ⟨n, e3, by omega, e, fun j hj hb2 => ?_⟩
          rcases Nat.lt_or_ge j n with c | c
          · exact h4 j c (zf_tr hb2 hb)
          · rw [show j = n by omega, zf_irr] at hb2; cases hb2
        | false =>
          have e3 : zf_le s tk (n + 1) = some k := by rw [e2]; simp only [hb]; rfl
          refine Or.inr ⟨k, e3, by omega, h3, fun j hj hb2 => ?_⟩
          rcases Nat.lt_or_ge j n with c | c
          · exact h4 j c hb2
          · rw [show j = n by omega, hb] at hb2; cases hb2
theorem zf_first_T {s : zS} {tk : Nat → Bool} (h : zf_first s tk = true) : zLB s tk (z_w s) := by
  unfold zf_first at h
  rcases zf_le_char s tk (z_nD s) with ⟨h1, h2⟩ | ⟨k, h1, h2, h3, h4⟩
  · rw [h1] at h; cases h
  · rw [h1] at h
    have h : tk k = true := h
    refine ⟨k, h2, h, ?_, h4⟩
    cases hw : z_w s k with
    | false => rfl
    | true => rw [h, hw] at h3; exact absurd rfl h3
theorem zf_first_F {s : zS} {tk : Nat → Bool} (h : zf_first s tk = false) : (∀ k, k < z_nD s → tk k = z_w s k) ∨ zLB s (z_w s) tk := by
  unfold zf_first at h
  rcases zf_le_char s tk (z_nD s) with ⟨h1, h2⟩ | ⟨k, h1, h2, h3, h4⟩
  · exact Or.inl h2
  · rw [h1] at h
    have h : tk k = false := h
    refine Or.inr ⟨k, h2, ?_, h, fun j hj hb => (h4 j hj hb).symm⟩
    cases hw : z_w s k with
    | true => rfl
    | false => rw [h, hw] at h3; exact absurd rfl h3
theorem zLB_tr {s : zS} {a b c : Nat → Bool} (h1 : zLB s a b) (h2 : zLB s b c) : zLB s a c := by
  obtain ⟨k, a1, a2, a3, a4⟩ := h1
  obtain ⟨m, b1, b2, b3, b4⟩ := h2
  have hne : k ≠ m := fun e => by rw [e, b2] at a3; cases a3
  rcases zf_tot s hne with h | h
  · exact ⟨k, a1, a2, by rw [← b4 k a1 h, a3], fun j hj hb => (a4 j hj hb).trans (b4 j hj (zf_tr hb h))⟩
  · exact ⟨m, b1, by rw [a4 m b1 h, b2], b3, fun j hj hb => (a4 j hj (zf_tr hb h)).trans (b4 j hj hb)⟩
theorem zLB_cg {s : zS} {a a' b b' : Nat → Bool} (h : zLB s a b) (ha : ∀ k, k < z_nD s → a' k = a k) (hb : ∀ k, k < z_nD s → b' k = b k) : zLB s a' b' := by
  obtain ⟨k, h1, h2, h3, h4⟩ := h
  exact ⟨k, h1, by rw [ha k h1, h2], by rw [hb k h1, h3], fun j hj hj2 => by rw [ha j hj, hb j hj, h4 j hj hj2]⟩
theorem zLB_irr {s : zS} {a : Nat → Bool} (h : zLB s a a) : False := by
  obtain ⟨k, h1, h2, h3, h4⟩ := h
  rw [h2] at h3
  cases h3
/-- what the reference has found behind the sets below n -/
theorem zr_Z {s : zS} (N : zN s) (M0 : ∀ b, b < z_nB s → 0 ≤ z_m s b) : ∀ n, n ≤ 2 ^ z_nD s → ∃ v w, zr_go s n = zu_run s v (zr_pl s 12) w ∧ zk_sale (zr_go s 0) w ∧ zk_sum (zr_go s 0) w = v ∧ (∀ k, z_nD s ≤ k → k < 12 → w k = false) ∧ (∀ k, 12 ≤ k → w k = z_w s k) ∧ ∀ m, m < n → zk_sale (zr_go s 0) m.testBit → zk_sum (zr_go s 0) m.testBit ≤ v ∧ (zk_sum (zr_go s 0) m.testBit = v → (∀ k, k < z_nD s → m.testBit k = w k) ∨ zLB (zr_go s 0) w m.testBit)
  | 0, _ => by
    have hN := N.2.2.1
    have hz : ∀ k, k < z_nD s → zr_w0 s 12 k = false := fun k hk => if_pos (by omega)
    refine ⟨0, zr_w0 s 12, rfl, ?_, ?_, fun k _ hk => if_pos hk, fun k hk => if_neg (by omega), fun m hm => absurd hm (Nat.not_lt_zero m)⟩
    · exact (zk_sale_cg (s := zr_go s 0) (t1 := fun _ => false) (fun k hk => (hz k hk).symm)).mp (sale_0 M0)
    · rw [zk_sum_cg (s := zr_go s 0) (t2 := fun _ => false) (fun k hk => hz k hk)]
      exact zk_sum0 _
  | n + 1, hn => by
    obtain ⟨v, w, e, g1, g2, g3, g3b, g4⟩ := zr_Z N M0 n (by omega)
    have hN := N.2.2.1
    have e2 : zr_go s (n + 1) = bif zk_sb (zr_go s n) n.testBit && (decide (z_fs (zr_go s n) < zk_sum (zr_go s n) n.testBit) || (decide (zk_sum (zr_go s n) n.testBit = z_fs (zr_go s n)) && zf_first (zr_go s n) n.testBit)) then zu_run (zr_go s n) (zk_sum (zr_go s n) n.testBit) (z_pl (zr_go s n)) (zr_cp (zr_go s n) n.testBit 12) else zr_go s n := rfl
    rw [e] at e2
    have hcp : ∀ k, k < z_nD s → zr_cp (zu_run s v (zr_pl s 12) w) n.testBit 12 k = n.testBit k := fun k hk => if_pos (by omega)
    cases hb : (zk_sb (zu_run s v (zr_pl s 12) w) n.testBit && (decide (z_fs (zu_run s v (zr_pl s 12) w) < zk_sum (zu_run s v (zr_pl s 12) w) n.testBit) || (decide (zk_sum (zu_run s v (zr_pl s 12) w) n.testBit = z_fs (zu_run s v (zr_pl s 12) w)) && zf_first (zu_run s v (zr_pl s 12) w) n.testBit))) with
    | true =>
      rw [hb] at e2
      rw [Bool.and_eq_true, Bool.or_eq_true, Bool.and_eq_true, decide_eq_true_eq, decide_eq_true_eq] at hb
      obtain ⟨hs, ho⟩ := hb
      have hs1 : zk_sale (zr_go s 0) n.testBit := zk_sb_t.mp hs
      refine ⟨zk_sum (zr_go s 0) n.testBit, zr_cp (zu_run s v (zr_pl s 12) w) n.testBit 12, e2, ?_, ?_, fun k h1 h2 => ?_, fun k hk => ?_, fun m hm hms => ?_⟩
      · exact (zk_sale_cg (s := zr_go s 0) (t1 := n.testBit) (fun k hk => (hcp k hk).symm)).mp hs1
      · exact zk_sum_cg (s := zr_go s 0) (fun k hk => hcp k hk)
      · show (if k < 12 then n.testBit k else w k) = false
        rw [if_pos h2]
        exact Nat.testBit_lt_two_pow (Nat.lt_of_lt_of_le (by omega) (Nat.pow_le_pow_right (by decide) h1))
      · show (if k < 12 then n.testBit k else w k) = _
        rw [if_neg (by omega)]
        exact g3b k hk
      · rcases Nat.lt_or_ge m n with c | c
        · obtain ⟨a, b⟩ := g4 m c hms
          rcases ho with h | ⟨h, hf⟩
          · have h5 := Int64.lt_of_le_of_lt a h
            exact ⟨Int64.le_of_lt h5, fun e9 => absurd h5 (by rw [e9]; exact fun h => Int64.lt_irrefl h)⟩
          · have h5 : zLB (zr_go s 0) n.testBit w := zf_first_T hf
            have h6 : zk_sum (zr_go s 0) n.testBit = v := h
            rw [h6]
            refine ⟨a, fun e9 => Or.inr ?_⟩
            rcases b e9 with h7 | h7
            · exact zLB_cg h5 (fun k hk => hcp k hk) (fun k hk => h7 k hk)
            · exact zLB_cg (zLB_tr h5 h7) (fun k hk => hcp k hk) (fun k hk => rfl)
        · obtain rfl : m = n := by omega
          exact ⟨Int64.le_refl _, fun _ => Or.inl (fun k hk => (hcp k hk).symm)⟩
    | false =>
      rw [hb] at e2
      refine ⟨v, w, e2, g1, g2, g3, g3b, fun m hm hms => ?_⟩
      rcases Nat.lt_or_ge m n with c | c
      · exact g4 m c hms
      · obtain rfl : m = n := by omega
        rw [show zk_sb (zu_run s v (zr_pl s 12) w) m.testBit = true from zk_sb_t.mpr hms, Bool.true_and, Bool.or_eq_false_iff, decide_eq_false_iff_not] at hb
        refine ⟨Int64.not_lt.mp hb.1, fun e9 => ?_⟩
        have h5 := hb.2
        rw [decide_eq_true (show zk_sum (zu_run s v (zr_pl s 12) w) m.testBit = z_fs (zu_run s v (zr_pl s 12) w) from e9), Bool.true_and] at h5
        exact zf_first_F h5
/-- the sales -/
def zV (s : zS) (u : Nat → Bool) : Prop := zk_sale s u ∧ zk_can s u
theorem tb_of {s : zS} {u : Nat → Bool} (h : zk_can s u) : (zb_m u (z_nD s)).testBit = u := by
  funext k
  rw [zb_tb]
  cases hu : u k with
  | false => simp
  | true => simp [(h k hu).1]
theorem can_of {s : zS} {m : Nat} (h : m < 2 ^ z_nD s) (hs : zk_sale s m.testBit) : zk_can s m.testBit := fun k hk => by
  rcases Nat.lt_or_ge k (z_nD s) with c | c
  · exact ⟨c, hs.1 k c hk⟩
  · rw [Nat.testBit_lt_two_pow (Nat.lt_of_lt_of_le h (Nat.pow_le_pow_right (by decide) c))] at hk
    cases hk
theorem zs_gr_char (s : zS) (i : Nat) : ∀ n, (∀ m, m < n → m.testBit i = false → zk_sale s m.testBit → zk_sum s m.testBit ≤ zs_gr s i n) ∧ (zs_gr s i n = 0 ∨ ∃ m, m < n ∧ m.testBit i = false ∧ zk_sale s m.testBit ∧ zk_sum s m.testBit = zs_gr s i n)
  | 0 => ⟨fun m h => absurd h (Nat.not_lt_zero m), Or.inl rfl⟩
  | n + 1 => by
    obtain ⟨h1, h2⟩ := zs_gr_char s i n
    have e : zs_gr s i (n + 1) = bif !n.testBit i && zk_sb s n.testBit && decide (zs_gr s i n < zk_sum s n.testBit) then zk_sum s n.testBit else zs_gr s i n := rfl
    cases hb : (!n.testBit i && zk_sb s n.testBit && decide (zs_gr s i n < zk_sum s n.testBit)) with
    | true =>
      rw [hb] at e
      have e : zs_gr s i (n + 1) = zk_sum s n.testBit := e
      rw [Bool.and_eq_true, Bool.and_eq_true, decide_eq_true_eq, Bool.not_eq_true'] at hb
      rw [e]
      refine ⟨fun m hm ht hs => ?_, Or.inr ⟨n, by omega, hb.1.1, zk_sb_t.mp hb.1.2, rfl⟩⟩
      rcases Nat.lt_or_ge m n with c | c
      · exact Int64.le_of_lt (Int64.lt_of_le_of_lt (h1 m c ht hs) hb.2)
      · rw [show m = n by omega]; exact Int64.le_refl _
    | false =>
      rw [hb] at e
      have e : zs_gr s i (n + 1) = zs_gr s i n := e
      rw [e]
      refine ⟨fun m hm ht hs => ?_, ?_⟩
      · rcases Nat.lt_or_ge m n with c | c
        · exact h1 m c ht hs
        · obtain rfl : m = n := by omega
          rw [ht, zk_sb_t.mpr hs] at hb
          have hb : decide (zs_gr s i m < zk_sum s m.testBit) = false := hb
          rw [decide_eq_false_iff_not] at hb
          exact Int64.not_lt.mp hb
      · rcases h2 with h2 | ⟨m, a, b⟩
        · exact Or.inl h2
        · exact Or.inr ⟨m, by omega, b⟩
theorem gr_eq {s : zS} (B0 : ∀ u, 0 ≤ zk_sum s u) {k : Nat} {v : Int64} (I : kI_bw s (zV s) k v) : v = zs_gr s k (2 ^ z_nD s) := by
  obtain ⟨h1, h2⟩ := zs_gr_char s k (2 ^ z_nD s)
  have g0 : 0 ≤ zs_gr s k (2 ^ z_nD s) := by
    rcases h2 with e | ⟨m, _, _, _, e⟩
    · rw [e]; exact Int64.le_refl _
    · rw [← e]; exact B0 _
  have v0 : 0 ≤ v := by
    rcases I.2 with e | ⟨u, _, _, e⟩
    · rw [e]; exact Int64.le_refl _
    · rw [← e]; exact B0 _
  apply Int64.le_antisymm
  · rcases I.2 with e | ⟨u, hu, h3, e⟩
    · rw [e]; exact g0
    · have h4 := h1 (zb_m u (z_nD s)) (zb_lt u _)
      rw [tb_of hu.2] at h4
      rw [← e]
      exact h4 h3 hu.1
  · rcases h2 with e | ⟨m, a, b, c, e⟩
    · rw [e]; exact v0
    · rw [← e]; exact I.1 _ ⟨c, can_of a c⟩ b
theorem ti_iff {s : zS} {k : Nat} : zk_ti s k (2 ^ z_nD s) = true ↔ ∃ u, zV s u ∧ zk_sum s u = z_fs s ∧ u k = true := by
  unfold zk_ti
  rw [zc_any_iff]
  constructor
  · rintro ⟨m, hm, h⟩
    rw [Bool.and_eq_true, Bool.and_eq_true, decide_eq_true_eq, zk_sb_t] at h
    exact ⟨m.testBit, ⟨h.1.2, can_of hm h.1.2⟩, h.2, h.1.1⟩
  · rintro ⟨u, hu, h1, h2⟩
    refine ⟨zb_m u (z_nD s), zb_lt u _, ?_⟩
    rw [Bool.and_eq_true, Bool.and_eq_true, decide_eq_true_eq, zk_sb_t, tb_of hu.2]
    exact ⟨⟨h2, hu.1⟩, h1⟩
/-- what was found is what the state says -/
def kFd (s : zS) (x : kX) : Prop := (∀ k, k < 12 → kI_bw s (zV s) k (x.2.2.1 k)) ∧ ∀ k, k < 12 → (k_bt x.2.2.2.2.2 (nI k) = true ↔ ∃ u, zV s u ∧ zk_sum s u = z_fs s ∧ u k = true)
theorem run_found {s : zS} (N : zN s) (M0 : ∀ b, b < z_nB s → 0 ≤ z_m s b) (W0 : ∀ k, z_w s k = true → k < z_nD s) {x : kX} (I : kI (zr_go s 0) (zV (zr_go s 0)) x) : ∃ v w, zr_go s (2 ^ z_nD s) = zu_run s v (zr_pl s 12) w ∧ (∀ k, w k = true → k < z_nD s) ∧ x.2.2.2.1 = v ∧ (∃ u, zk_sum (zr_go s 0) u = v) ∧ (∀ k, k < 12 → k_bt x.2.2.2.2.1 (nI k) = w k) ∧ kFd (zr_go s (2 ^ z_nD s)) x ∧ k_bc x.2.2.2.2.1 = nI (zc_cnt w (z_nD s)) := by
  obtain ⟨v, w, e, g1, g2, g3, g3b, g4⟩ := zr_Z N M0 _ (Nat.le_refl _)
  have hN := N.2.2.1
  have hall : ∀ u, zV (zr_go s 0) u → zk_sum (zr_go s 0) u ≤ v ∧ (zk_sum (zr_go s 0) u = v → (∀ k, k < z_nD s → u k = w k) ∨ zLB (zr_go s 0) w u) := fun u hu => by
    have h := g4 (zb_m u (z_nD s)) (zb_lt u _)
    rw [show (zb_m u (z_nD s)).testBit = u from tb_of (s := zr_go s 0) hu.2] at h
    exact h hu.1
  let wr : Nat → Bool := fun k => decide (k < z_nD s) && w k
  have hwr : ∀ k, k < z_nD s → wr k = w k := fun k hk => by simp [wr, hk]
  have Vr : zV (zr_go s 0) wr := ⟨(zk_sale_cg (s := zr_go s 0) (t1 := w) (fun k hk => (hwr k hk).symm)).mp g1, fun k hk => by
    simp only [wr, Bool.and_eq_true, decide_eq_true_eq] at hk
    exact ⟨hk.1, g1.1 k hk.1 hk.2⟩⟩
  have sr : zk_sum (zr_go s 0) wr = v := (zk_sum_cg (s := zr_go s 0) (fun k hk => hwr k hk)).trans g2
  rcases I.2 with ⟨hno, -⟩ | ⟨wd, hd, d1, d2, d3, p, d4, d5⟩
  · exact absurd Vr (hno wr)
  have hbest : x.2.2.2.1 = v := Int64.le_antisymm (by rw [← d1]; exact (hall wd hd).1) (by rw [← sr]; exact (d3 wr Vr).1)
  have hw : wd = wr := by
    rcases (d3 wr Vr).2 (sr.trans hbest.symm) with h | h
    · exact h.symm
    · rcases (hall wd hd).2 (d1.trans hbest) with h2 | h2
      · funext k
        rcases Nat.lt_or_ge k (z_nD s) with c | c
        · rw [h2 k c, hwr k c]
        · have e1 : wd k = false := by
            cases h9 : wd k with
            | false => rfl
            | true => exact absurd (hd.2 k h9).1 (by show ¬ k < z_nD s; omega)
          rw [e1]
          simp [wr, show ¬ k < z_nD s by omega]
      · exact (zLB_irr (zLB_tr h (zLB_cg h2 (fun k hk => hwr k hk) (fun k hk => rfl)))).elim
  refine ⟨v, w, e, fun k hk => ?_, hbest, ⟨w, g2⟩, fun k hk => ?_, ?_, ?_⟩
  · rcases Nat.lt_or_ge k (z_nD s) with c | c
    · exact c
    · rcases Nat.lt_or_ge k 12 with d | d
      · rw [g3 k c d] at hk; cases hk
      · rw [g3b k d] at hk; exact W0 k hk
  · rw [d2, k_bt_m (by decide) hk, hw]
    rcases Nat.lt_or_ge k (z_nD s) with c | c
    · exact hwr k c
    · rw [g3 k c hk]; simp [wr, show ¬ k < z_nD s by omega]
  · rw [e]
    refine ⟨I.1, fun k hk => ?_⟩
    rw [d4, k_bt_m (by decide) hk, d5 k hk, hbest]
    exact Iff.rfl
  · rw [d2, k_bc_m (by decide), hw]
    congr 1
    exact zc_cut 12 hN
