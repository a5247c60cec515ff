theorem zc_any_iff {p : Nat → Bool} : ∀ {n : Nat}, zc_any p n = true ↔ ∃ k, k < n ∧ p k = true
  | 0 => by simp [zc_any]
  | n + 1 => by
    show (zc_any p n || p n) = true ↔ _
    rw [Bool.or_eq_true, zc_any_iff]
    constructor
    · rintro (⟨k, h, hp⟩ | h)
      · exact ⟨k, by omega, hp⟩
      · exact ⟨n, by omega, h⟩
    · rintro ⟨k, h, hp⟩
      rcases Nat.lt_or_ge k n with h2 | h2
      · exact Or.inl ⟨k, h2, hp⟩
      · rw [show k = n by omega] at hp; exact Or.inr hp
theorem zw_or_tb (s : zS) (l : Nat) : ∀ n, (zw_or s n).testBit l = zc_any (fun j => z_w s j && (z_ls s j).testBit l) n
  | 0 => by simp [zw_or, zc_any]
  | n + 1 => by
    show _ = (zc_any _ n || (z_w s n && (z_ls s n).testBit l))
    rw [← zw_or_tb s l n]
    have e : zw_or s (n + 1) = bif z_w s n then zw_or s n ||| z_ls s n else zw_or s n := rfl
    rw [e]
    cases z_w s n with
    | false => simp
    | true => simp
theorem zh4_eq {s : zS} {i : Nat} (G : ∀ k l, l < 8 → z_nL s ≤ l → z_h s (8 * k + l) = false) (N : zN s) : nI (z_ls s i) &&& nI (zw_or s (z_nD s)) = 0 ↔ zh_4 s i = false := by
  have hw : ∀ n, zw_or s n < 256 := by
    intro n
    induction n with
    | zero => simp [zw_or]
    | succ n ih =>
      unfold zw_or
      cases z_w s n with
      | false => exact ih
      | true => exact Nat.or_lt_two_pow (n := 8) ih (z_ls_lt s n)
  have hl := z_ls_lt s i
  rw [nI_and, show (0 : Int32) = nI 0 from rfl, nI_eq (by have := Nat.and_le_left (n := z_ls s i) (m := zw_or s (z_nD s)); omega) (by decide)]
  constructor
  · intro h
    cases hz : zh_4 s i with
    | false => rfl
    | true =>
      exfalso
      unfold zh_4 at hz
      obtain ⟨j, hj, h1⟩ := zc_any_iff.mp hz
      obtain ⟨l, hl2, h2⟩ := zc_any_iff.mp h1
      simp only [Bool.and_eq_true] at h2
      have hl8 : l < 8 := by have := N.1; omega
      have h3 : (z_ls s i &&& zw_or s (z_nD s)).testBit l = true := by
        rw [Nat.testBit_and, zw_or_tb, zc_any_of (i := j) hj (by simp only [z_ls, zb_tb, h2.1.1, h2.1.2, hl8]; rfl)]
        simp only [z_ls, zb_tb, h2.2, hl8]
        rfl
      rw [h] at h3
      simp at h3
  · intro h
    apply Nat.eq_of_testBit_eq
    intro l
    rw [Nat.zero_testBit, Nat.testBit_and, zw_or_tb]
    cases hb : ((z_ls s i).testBit l && zc_any (fun j => z_w s j && (z_ls s j).testBit l) (z_nD s)) with
    | false => rfl
    | true =>
      exfalso
      rw [Bool.and_eq_true] at hb
      obtain ⟨h1, h2⟩ := hb
      obtain ⟨j, hj, h3⟩ := zc_any_iff.mp h2
      rw [Bool.and_eq_true] at h3
      simp only [z_ls, zb_tb, Bool.and_eq_true, decide_eq_true_eq] at h1 h3
      have hl2 : l < z_nL s := by
        rcases Nat.lt_or_ge l (z_nL s) with h4 | h4
        · exact h4
        · rw [G i l h1.1 h4] at h1; cases h1.2
      have : zh_4 s i = true := zc_any_of (i := j) hj (zc_any_of (i := l) hl2 (by simp [h1.2, h3.1, h3.2.2]))
      rw [h] at this
      cases this
theorem sub_0 {x y : Int32} : x - y = 0 ↔ y = x := by
  constructor
  · intro h
    have h2 : x - y + y = x := Int32.sub_add_cancel x y
    rw [h] at h2
    simpa using h2
  · rintro rfl
    simp
theorem sub_m1 (x : Int32) (n : Nat) : x - nI n + (-1) = x - nI (n + 1) := by
  rw [← nI_1]
  apply Int32.toBitVec_inj.mp
  simp only [Int32.toBitVec_add, Int32.toBitVec_sub, Int32.toBitVec_neg]
  rw [BitVec.sub_eq_add_neg, BitVec.sub_eq_add_neg, BitVec.neg_add, BitVec.sub_eq_add_neg, BitVec.add_assoc]
theorem zt_neg {s : zS} {x y : Int32} (h : x < 0) (hn : z_nD s ≤ 12) : ∀ d b, b + d = z_nD s → zt_go s x y d b = -1
  | 0, b, _ => rfl
  | d + 1, b, e => by
    have h1 : zk_tn s b ≤ b := zc_le _ b
    have h2 : ¬ nI (zk_tn s b) = x := fun q => by rw [← q] at h; exact absurd h (nI_pos (by omega))
    show (bif zk_td s b && decide (nI (zk_tn s b) = x) then _ else _) = _
    rw [decide_eq_false h2, Bool.and_false]
    exact zt_neg h hn d (b + 1) (by omega)
theorem zt_bad {s : zS} {x y : Int32} (h0 : ¬ y = 0) (h1 : ¬ y = 1) : ∀ d b, zt_go s x y d b = -1
  | 0, b => rfl
  | d + 1, b => by
    show (bif zk_td s b && decide (nI (zk_tn s b) = x) then zt_w s b y else zt_go s x y d (b + 1)) = _
    rw [zt_bad h0 h1 d (b + 1), show zt_w s b y = -1 by simp [zt_w, h0, h1]]
    cases (zk_td s b && decide (nI (zk_tn s b) = x)) <;> rfl
theorem in01 {y : Int32} (h : k_in y.toInt64 0 1 = true) : y = 0 ∨ y = 1 := by
  rw [show k_in y.toInt64 0 1 = _ from k_in32 (v := y) (a := 0) (b := 1), Bool.and_eq_true, decide_eq_true_eq, decide_eq_true_eq, Int32.le_iff_toInt_le, Int32.le_iff_toInt_le, show (0 : Int32).toInt = 0 from rfl, show (1 : Int32).toInt = 1 from rfl] at h
  rcases (show y.toInt = 0 ∨ y.toInt = 1 by omega) with e | e
  · exact Or.inl (Int32.toInt_inj.mp e)
  · exact Or.inr (Int32.toInt_inj.mp e)
theorem out01 {y : Int32} (h : k_in y.toInt64 0 1 = false) : ¬ y = 0 ∧ ¬ y = 1 := ⟨fun e => by rw [e] at h; exact absurd h (by decide), fun e => by rw [e] at h; exact absurd h (by decide)⟩
