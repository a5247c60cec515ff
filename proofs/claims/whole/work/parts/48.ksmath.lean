/-! THE SEARCH: sales, their order, and what a search keeps of those that it saw -/
theorem zc_sum_up {g h : Nat → Nat} {i v : Nat} (h0 : ∀ k, k ≠ i → h k = g k) (h1 : h i = g i + v) : ∀ n, zc_sum h n = zc_sum g n + (if i < n then v else 0)
  | 0 => by simp [zc_sum]
  | n + 1 => by
    have ih := zc_sum_up h0 h1 n
    unfold zc_sum
    rw [ih]
    rcases Nat.lt_trichotomy n i with c | c | c
    · rw [h0 n (by omega), if_neg (by omega), if_neg (by omega)]; omega
    · subst c; rw [h1, if_neg (by omega), if_pos (by omega)]; omega
    · rw [h0 n (by omega), if_pos c, if_pos (by omega)]; omega
theorem zc_cnt_sum (p : Nat → Bool) : ∀ n, zc_cnt p n = zc_sum (fun k => bif p k then 1 else 0) n
  | 0 => rfl
  | n + 1 => by
    unfold zc_cnt zc_sum
    rw [zc_cnt_sum p n]
theorem zc_cnt_up {p q : Nat → Bool} {i : Nat} (h0 : ∀ k, k ≠ i → q k = p k) (h1 : p i = false) (n : Nat) (hi : i < n) : zc_cnt q n = zc_cnt p n + (bif q i then 1 else 0) := by
  rw [zc_cnt_sum, zc_cnt_sum, zc_sum_up (g := fun k => bif p k then 1 else 0) (i := i) (v := bif q i then 1 else 0) (fun k hk => by simp only [h0 k hk]) (by simp only [h1]; cases q i <;> rfl), if_pos hi]
theorem zc_sum_mono {g h : Nat → Nat} : ∀ {n : Nat}, (∀ k, k < n → g k ≤ h k) → zc_sum g n ≤ zc_sum h n
  | 0, _ => Nat.le_refl _
  | n + 1, e => by
    have := zc_sum_mono (n := n) (fun k hk => e k (by omega))
    have := e n (by omega)
    unfold zc_sum
    omega
theorem zc_cnt_mono {p q : Nat → Bool} {n : Nat} (h : ∀ k, k < n → p k = true → q k = true) : zc_cnt p n ≤ zc_cnt q n := by
  rw [zc_cnt_sum, zc_cnt_sum]
  refine zc_sum_mono (fun k hk => ?_)
  cases hp : p k with
  | false => simp
  | true => rw [h k hk hp]; exact Nat.le_refl _
theorem zc_cnt_0 {p : Nat → Bool} : ∀ {n : Nat}, (∀ k, k < n → p k = false) → zc_cnt p n = 0
  | 0, _ => rfl
  | n + 1, h => by
    unfold zc_cnt
    rw [zc_cnt_0 (fun k hk => h k (by omega)), h n (by omega)]
    rfl
theorem zc_cnt_1 {p : Nat → Bool} {n i : Nat} (h : i < n) (hp : p i = true) : 1 ≤ zc_cnt p n := by
  have e := zc_cnt_up (p := hv_up p i false) (q := p) (i := i) (fun k hk => (hv_un _ hk).symm) (hv_us _ _ _) n h
  rw [e, hp]
  simp
theorem zc_sumL_up {p : Nat → Bool} (g : Nat → Int64) {i : Nat} (h : p i = false) : ∀ n, zc_sumL (hv_up p i true) g n = zc_sumL p g n + (if i < n then g i else 0)
  | 0 => by simp [zc_sumL]
  | n + 1 => by
    have ih := zc_sumL_up g h n
    unfold zc_sumL
    rw [ih]
    rcases Nat.lt_trichotomy n i with c | c | c
    · rw [hv_un _ (by omega), if_neg (by omega), if_neg (by omega)]; simp
    · subst c; rw [hv_us, h, if_neg (by omega), if_pos (by omega)]; simp
    · rw [hv_un _ (by omega), if_pos c, if_pos (by omega), Int64.add_assoc, Int64.add_assoc, Int64.add_comm (g i)]
def zk_can (s : zS) (u : Nat → Bool) : Prop := ∀ k, u k = true → k < z_nD s ∧ z_pl s k = true
/-- u comes before t -/
def zLB (s : zS) (u t : Nat → Bool) : Prop := ∃ k, k < z_nD s ∧ u k = true ∧ t k = false ∧ ∀ j, j < z_nD s → zf_bef s j k = true → u j = t j
theorem zg_le (s : zS) (t : Nat → Bool) (b n : Nat) (hn : n ≤ 12) : zc_sum (fun k => bif t k && decide (z_ow s k = b) then z_lots s k else 0) n ≤ 96 := by
  have := zc_sum_le (fun k => bif t k && decide (z_ow s k = b) then z_lots s k else 0) 8 (fun k => by
    cases (t k && decide (z_ow s k = b))
    · exact Nat.zero_le _
    · exact z_lots_le s k) n
  omega
theorem sale_mono {s : zS} (N : zN s) {u t : Nat → Bool} (h : ∀ k, k < z_nD s → t k = true → u k = true) (S : zk_sale s u) : zk_sale s t := by
  refine ⟨fun k hk ht => S.1 k hk (h k hk ht), fun l hl => Nat.le_trans (zc_cnt_mono (fun k hk hp => ?_)) (S.2.1 l hl), fun b hb => Int32.le_trans (nI_le (zc_sum_mono (fun k hk => ?_)) ?_) (S.2.2 b hb)⟩
  · rw [Bool.and_eq_true] at hp ⊢
    exact ⟨h k hk hp.1, hp.2⟩
  · cases ht : t k with
    | false => simp
    | true => rw [h k hk ht]; exact Nat.le_refl _
  · have := zg_le s u b (z_nD s) N.2.2.1
    omega
/-- the lots of the bids in t below n, as a number -/
def zt_or (s : zS) (t : Nat → Bool) : Nat → Nat
  | 0 => 0
  | n + 1 => bif t n then zt_or s t n ||| z_ls s n else zt_or s t n
theorem zt_or_tb (s : zS) (t : Nat → Bool) (l : Nat) : ∀ n, (zt_or s t n).testBit l = zc_any (fun j => t j && (z_ls s j).testBit l) n
  | 0 => by simp [zt_or, zc_any]
  | n + 1 => by
    show _ = (zc_any _ n || (t n && (z_ls s n).testBit l))
    rw [← zt_or_tb s t l n]
    have e : zt_or s t (n + 1) = bif t n then zt_or s t n ||| z_ls s n else zt_or s t n := rfl
    rw [e]
    cases t n with
    | false => simp
    | true => simp
theorem zt_or_lt (s : zS) (t : Nat → Bool) : ∀ n, zt_or s t n < 256
  | 0 => by simp [zt_or]
  | n + 1 => by
    have ih := zt_or_lt s t n
    unfold zt_or
    cases t n with
    | false => exact ih
    | true => exact Nat.or_lt_two_pow (n := 8) ih (z_ls_lt s n)
theorem zt_or_up (s : zS) {t : Nat → Bool} {b n : Nat} (hb : b < n) : zt_or s t n ||| z_ls s b = zt_or s (hv_up t b true) n := by
  apply Nat.eq_of_testBit_eq
  intro l
  rw [Nat.testBit_or, zt_or_tb, zt_or_tb]
  cases hl : (z_ls s b).testBit l with
  | true =>
    rw [Bool.or_true, zc_any_of (i := b) hb (by simp only [hv_us, hl]; rfl)]
  | false =>
    rw [Bool.or_false]
    congr 1
    funext k
    by_cases hk : k = b
    · subst hk; simp only [hl, Bool.and_false]
    · rw [hv_un _ hk]
theorem zt_or_0 (s : zS) (n : Nat) : zt_or s (fun _ => false) n = 0 := by
  induction n with
  | zero => rfl
  | succ n ih => exact ih
theorem sale_fit {s : zS} (N : zN s) (G : ∀ k l, l < 8 → z_nL s ≤ l → z_h s (8 * k + l) = false) {t : Nat → Bool} {b : Nat} (S : zk_sale s t) (hb : b < z_nD s) (hp : z_pl s b = true) (h0 : t b = false) : (z_ls s b &&& zt_or s t (z_nD s) = 0 ∧ nI (z_lots s b + zc_sum (fun k => bif t k && decide (z_ow s k = z_ow s b) then z_lots s k else 0) (z_nD s)) ≤ z_m s (z_ow s b)) ↔ zk_sale s (hv_up t b true) := by
  have hs : zc_sum (fun k => bif hv_up t b true k && decide (z_ow s k = z_ow s b) then z_lots s k else 0) (z_nD s) = zc_sum (fun k => bif t k && decide (z_ow s k = z_ow s b) then z_lots s k else 0) (z_nD s) + z_lots s b := by
    rw [zc_sum_up (g := fun k => bif t k && decide (z_ow s k = z_ow s b) then z_lots s k else 0) (i := b) (v := z_lots s b) (fun k hk => by simp only [hv_un _ hk]) (by simp [hv_us, h0]), if_pos hb]
  have hc : ∀ l, zc_cnt (fun k => hv_up t b true k && z_h s (8 * k + l)) (z_nD s) = zc_cnt (fun k => t k && z_h s (8 * k + l)) (z_nD s) + (bif z_h s (8 * b + l) then 1 else 0) := fun l => by
    rw [zc_cnt_up (p := fun k => t k && z_h s (8 * k + l)) (i := b) (fun k hk => by simp only [hv_un _ hk]) (by simp [h0]) _ hb]
    simp only [hv_us, Bool.true_and]
  constructor
  · rintro ⟨h1, h2⟩
    refine ⟨fun k hk ht => ?_, fun l hl => ?_, fun c hc2 => ?_⟩
    · by_cases e : k = b
      · rw [e]; exact hp
      · rw [hv_un _ e] at ht; exact S.1 k hk ht
    · rw [hc l]
      cases hl2 : z_h s (8 * b + l) with
      | false => exact S.2.1 l hl
      | true =>
        rw [zc_cnt_0 (fun k hk => ?_)]
        · simp
        · cases hz : (t k && z_h s (8 * k + l)) with
          | false => rfl
          | true =>
            exfalso
            rw [Bool.and_eq_true] at hz
            have hl8 : l < 8 := by have := N.1; omega
            have h3 : (z_ls s b &&& zt_or s t (z_nD s)).testBit l = true := by
              rw [Nat.testBit_and, zt_or_tb, zc_any_of (i := k) hk (by simp only [z_ls, zb_tb, hz.1, hz.2, hl8]; rfl)]
              simp only [z_ls, zb_tb, hl2, hl8]
              rfl
            rw [h1] at h3
            simp at h3
    · by_cases e : c = z_ow s b
      · subst e
        rw [hs, Nat.add_comm]
        exact h2
      · rw [zc_sum_cg (q := fun k => bif t k && decide (z_ow s k = c) then z_lots s k else 0) (fun k hk => ?_)]
        · exact S.2.2 c hc2
        · by_cases e2 : k = b
          · subst e2
            simp only [decide_eq_false (Ne.symm e), Bool.and_false]
          · rw [hv_un _ e2]
  · intro h
    refine ⟨?_, ?_⟩
    · apply Nat.eq_of_testBit_eq
      intro l
      rw [Nat.zero_testBit, Nat.testBit_and, zt_or_tb]
      cases hb2 : ((z_ls s b).testBit l && zc_any (fun j => t j && (z_ls s j).testBit l) (z_nD s)) with
      | false => rfl
      | true =>
        exfalso
        rw [Bool.and_eq_true] at hb2
        obtain ⟨j, hj, h3⟩ := zc_any_iff.mp hb2.2
        have h1 := hb2.1
        rw [Bool.and_eq_true] at h3
        simp only [z_ls, zb_tb, Bool.and_eq_true, decide_eq_true_eq] at h1 h3
        have hl2 : l < z_nL s := by
          rcases Nat.lt_or_ge l (z_nL s) with h4 | h4
          · exact h4
          · rw [G b l h1.1 h4] at h1; cases h1.2
        have h5 := h.2.1 l hl2
        rw [hc l, h1.2] at h5
        have h6 := zc_cnt_1 (p := fun k => t k && z_h s (8 * k + l)) hj (by simp [h3.1, h3.2.2])
        simp at h5
        omega
    · have := h.2.2 (z_ow s b) (N.2.2.2.2.1 b hb)
      rw [hs, Nat.add_comm] at this
      exact this
/-- a list of what is in A, in the order of the sales -/
def kOrd (s : zS) (A : Nat → Prop) (om : Nat → Nat) (n : Nat) : Prop := (∀ p, p < n → A (om p)) ∧ (∀ k, A k → ∃ p, p < n ∧ om p = k) ∧ ∀ p q, p < q → q < n → zf_bef s (om p) (om q) = true
theorem zf_irr (s : zS) (a : Nat) : zf_bef s a a = false := by
  unfold zf_bef
  rw [decide_eq_false (fun h => Int64.lt_irrefl h), decide_eq_false (Nat.lt_irrefl a)]
  simp
theorem zf_iff (s : zS) (a b : Nat) : zf_bef s a b = true ↔ ((z_t s (z_ow s a)).toInt < (z_t s (z_ow s b)).toInt ∨ ((z_t s (z_ow s a)).toInt = (z_t s (z_ow s b)).toInt ∧ a < b)) := by
  unfold zf_bef
  rw [Bool.or_eq_true, Bool.and_eq_true, decide_eq_true_eq, decide_eq_true_eq, decide_eq_true_eq, Int64.lt_iff_toInt_lt, ← Int64.toInt_inj]
theorem zf_asym {s : zS} {a b : Nat} (h : zf_bef s a b = true) : zf_bef s b a = false := by
  cases h2 : zf_bef s b a with
  | false => rfl
  | true =>
    rw [zf_iff] at h h2
    omega
theorem zf_tr {s : zS} {a b c : Nat} (h : zf_bef s a b = true) (h2 : zf_bef s b c = true) : zf_bef s a c = true := by
  rw [zf_iff] at h h2 ⊢
  omega
theorem zf_tot (s : zS) {a b : Nat} (h : a ≠ b) : zf_bef s a b = true ∨ zf_bef s b a = true := by
  rw [zf_iff, zf_iff]
  omega
theorem kOrd.inj {s : zS} {A : Nat → Prop} {om : Nat → Nat} {n : Nat} (O : kOrd s A om n) {p q : Nat} (hp : p < n) (hq : q < n) (h : om p = om q) : p = q := by
  rcases Nat.lt_trichotomy p q with c | c | c
  · have := O.2.2 p q c hq; rw [h, zf_irr] at this; cases this
  · exact c
  · have := O.2.2 q p c hp; rw [h, zf_irr] at this; cases this
theorem kOrd.bef {s : zS} {A : Nat → Prop} {om : Nat → Nat} {n : Nat} (O : kOrd s A om n) {p q : Nat} (hp : p < n) (hq : q < n) (h : zf_bef s (om p) (om q) = true) : p < q := by
  rcases Nat.lt_trichotomy p q with c | c | c
  · exact c
  · rw [c, zf_irr] at h; cases h
  · rw [zf_asym (O.2.2 q p c hp)] at h; cases h
theorem zc_any_no {p : Nat → Bool} {n : Nat} (h : ¬ ∃ k, k < n ∧ p k = true) : zc_any p n = false := by
  cases hz : zc_any p n with
  | false => rfl
  | true => exact absurd (zc_any_iff.mp hz) h
theorem zc_sum_re {om : Nat → Nat} {M : Nat} (g : Nat → Nat) : ∀ {n : Nat}, (∀ p, p < n → om p < M) → (∀ p q, p < n → q < n → om p = om q → p = q) → zc_sum (fun p => g (om p)) n = zc_sum (fun k => bif zc_any (fun p => decide (om p = k)) n then g k else 0) M
  | 0, _, _ => by
    have : ∀ M, zc_sum (fun k => bif zc_any (fun p => decide (om p = k)) 0 then g k else 0) M = 0 := by
      intro M
      induction M with
      | zero => rfl
      | succ M ih => unfold zc_sum; rw [ih]; rfl
    rw [this]
    rfl
  | n + 1, hM, hi => by
    have ih := zc_sum_re g (om := om) (M := M) (n := n) (fun p hp => hM p (by omega)) (fun p q hp hq => hi p q (by omega) (by omega))
    have hno : zc_any (fun p => decide (om p = om n)) n = false := zc_any_no (fun ⟨k, hk, h⟩ => by
      have := hi k n (by omega) (by omega) (by simpa using h)
      omega)
    rw [zc_sum_up (g := fun k => bif zc_any (fun p => decide (om p = k)) n then g k else 0) (h := fun k => bif zc_any (fun p => decide (om p = k)) (n + 1) then g k else 0) (i := om n) (v := g (om n)) (fun k hk => by
      show (bif (zc_any (fun p => decide (om p = k)) n || decide (om n = k)) then g k else 0) = _
      rw [decide_eq_false (Ne.symm hk), Bool.or_false]) (by
      show (bif (zc_any (fun p => decide (om p = om n)) n || decide (om n = om n)) then g (om n) else 0) = _
      simp only [hno]
      simp), if_pos (hM n (by omega)), ← ih]
    rfl
/-- what stands in the order counts as what is chosen of the bids -/
theorem kOrd.sum {s : zS} {om : Nat → Nat} {n : Nat} (O : kOrd s (fun k => k < z_nD s ∧ z_pl s k = true) om n) {t : Nat → Bool} (ht : zk_can s t) (b : Nat) : zc_sum (fun p => bif decide (z_ow s (om p) = b) && t (om p) then z_lots s (om p) else 0) n = zc_sum (fun k => bif t k && decide (z_ow s k = b) then z_lots s k else 0) (z_nD s) := by
  rw [zc_sum_re (fun k => bif decide (z_ow s k = b) && t k then z_lots s k else 0) (M := z_nD s) (fun p hp => (O.1 p hp).1) (fun p q hp hq h => O.inj hp hq h)]
  refine zc_sum_cg (fun k hk => ?_)
  cases h : t k with
  | false => simp
  | true =>
    obtain ⟨p, hp, e⟩ := O.2.1 k (ht k h)
    rw [zc_any_of (i := p) hp (by simp [e])]
    simp
