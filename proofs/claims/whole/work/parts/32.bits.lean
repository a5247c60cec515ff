/-! rows of flags as numbers -/
theorem zb_lt (p : Nat → Bool) : ∀ n, zb_m p n < 2 ^ n
  | 0 => by simp [zb_m]
  | n + 1 => by
    have := zb_lt p n
    unfold zb_m
    rw [Nat.pow_succ]
    cases p n <;> simp <;> omega
theorem zb_tb (p : Nat → Bool) : ∀ n i, (zb_m p n).testBit i = (decide (i < n) && p i)
  | 0, i => by simp [zb_m]
  | n + 1, i => by
    have ih := zb_tb p n i
    have hl := zb_lt p n
    unfold zb_m
    cases hp : p n with
    | false =>
      simp only [cond_false, Nat.add_zero, ih]
      by_cases h : i = n
      · subst h; simp [hp]
      · by_cases h2 : i < n
        · simp [h2, Nat.lt_succ_of_lt h2]
        · simp [h2, show ¬ i < n + 1 by omega]
    | true =>
      simp only [cond_true]
      rw [Nat.add_comm]
      rcases Nat.lt_trichotomy i n with h | h | h
      · rw [Nat.testBit_two_pow_add_gt h, ih]
        simp [h, Nat.lt_succ_of_lt h]
      · subst h
        rw [Nat.testBit_two_pow_add_eq, Nat.testBit_lt_two_pow hl]
        simp [hp]
      · rw [Nat.testBit_lt_two_pow]
        · simp [show ¬ i < n + 1 by omega]
        · have : 2 ^ (n + 1) ≤ 2 ^ i := Nat.pow_le_pow_right (by decide) (by omega)
          rw [Nat.pow_succ] at this
          omega
theorem zb_us : ∀ n, n < 32 → (((nI n).toUInt32 &&& Int32.toUInt32 31).toBitVec % 32).toNat = n := by decide +kernel
theorem k_bt_nI {k j : Nat} (hk : k < 65536) (hj : j < 32) : k_bt (nI k) (nI j) = k.testBit j := by
  have h1 : k_us (nI k) (nI j) &&& 1 = nI (k / 2 ^ j % 2) := by
    unfold k_us
    rw [pk_ushrN (by omega) _ j (zb_us j hj), pk_andN (k := 1) (by have := Nat.div_le_self k (2 ^ j); omega) rfl]
  have h2 : k / 2 ^ j % 2 < 2 := Nat.mod_lt _ (by decide)
  rw [Nat.testBit_eq_decide_div_mod_eq]
  unfold k_bt
  rw [h1]
  rcases (show k / 2 ^ j % 2 = 0 ∨ k / 2 ^ j % 2 = 1 by omega) with h | h <;> rw [h] <;> decide
theorem k_bt_m {p : Nat → Bool} {n j : Nat} (hn : n ≤ 12) (hj : j < n) : k_bt (nI (zb_m p n)) (nI j) = p j := by
  have := zb_lt p n
  have h2 : 2 ^ n ≤ 4096 := Nat.pow_le_pow_right (by decide) hn
  rw [k_bt_nI (by omega) (by omega), zb_tb]
  simp [hj]
theorem zb_0 (p : Nat → Bool) : ∀ n, zb_m p n = 0 ↔ zc_cnt p n = 0
  | 0 => by simp [zb_m, zc_cnt]
  | n + 1 => by
    have ih := zb_0 p n
    have h2 : 0 < 2 ^ n := Nat.pow_pos (by decide)
    unfold zb_m zc_cnt
    cases p n <;> simp <;> omega
theorem nI_or (a b : Nat) : nI a ||| nI b = nI (a ||| b) := by
  apply Int32.toBitVec_inj.mp
  simp [nI, BitVec.ofNat_or]
theorem nI_and (a b : Nat) : nI a &&& nI b = nI (a &&& b) := by
  apply Int32.toBitVec_inj.mp
  simp [nI, BitVec.ofNat_and]
theorem z_1s : ∀ n, n < 31 → (1 : Int32) <<< (nI n &&& 31) = nI (2 ^ n) := by decide +kernel
theorem zb_set {p : Nat → Bool} {n j : Nat} (hj : j < n) (hn : n ≤ 12) : nI (zb_m p n) ||| ((1 : Int32) <<< (nI j &&& 31)) = nI (zb_m (hv_up p j true) n) := by
  rw [z_1s j (by omega), nI_or]
  congr 1
  apply Nat.eq_of_testBit_eq
  intro i
  rw [Nat.testBit_or, zb_tb, zb_tb, Nat.testBit_two_pow]
  unfold hv_up
  by_cases h : i = j
  · subst h; simp [hj]
  · simp [h, Ne.symm h]
theorem zc_cut {p : Nat → Bool} {n : Nat} : ∀ m, n ≤ m → zc_cnt (fun i => decide (i < n) && p i) m = zc_cnt p n
  | 0, h => by rw [show n = 0 by omega]; rfl
  | m + 1, h => by
    rcases Nat.lt_or_ge m n with h2 | h2
    · have : n = m + 1 := by omega
      subst this
      exact zc_cnt_cg (fun k hk => by simp [hk])
    · have e : zc_cnt (fun i => decide (i < n) && p i) (m + 1) = zc_cnt (fun i => decide (i < n) && p i) m + (bif (decide (m < n) && p m) then 1 else 0) := rfl
      rw [e, zc_cut m h2]
      simp [show ¬ m < n by omega]
theorem k_bc_m {p : Nat → Bool} {n : Nat} (hn : n ≤ 12) : k_bc (nI (zb_m p n)) = nI (zc_cnt p n) := by
  have := zb_lt p n
  have h2 : 2 ^ n ≤ 4096 := Nat.pow_le_pow_right (by decide) hn
  rw [k_bc_all _ (by omega), ← zc_cut (p := p) 12 hn]
  congr 1
  exact zc_cnt_cg (fun k _ => zb_tb p n k)
theorem z_ls_lt (s : zS) (k : Nat) : z_ls s k < 256 := zb_lt _ 8
theorem z_ls_0 (s : zS) (k : Nat) : nI (z_ls s k) = 0 ↔ ¬ 0 < z_lots s k := by
  have h := z_ls_lt s k
  rw [show (0 : Int32) = nI 0 from rfl, nI_eq (by omega) (by decide)]
  unfold z_ls z_lots
  rw [zb_0]
  omega
