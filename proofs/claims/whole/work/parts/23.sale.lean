/-! sales: sets of bids as flags -/
def zk_sale (s : zS) (tk : Nat → Bool) : Prop := (∀ k, k < z_nD s → tk k = true → z_pl s k = true) ∧ (∀ l, l < z_nL s → zc_cnt (fun k => tk k && z_h s (8 * k + l)) (z_nD s) ≤ 1) ∧ ∀ b, b < z_nB s → nI (zc_sum (fun k => bif tk k && decide (z_ow s k = b) then z_lots s k else 0) (z_nD s)) ≤ z_m s b
def zk_sum (s : zS) (tk : Nat → Bool) : Int64 := zc_sumL tk (z_c s) (z_nD s)
def zf_bef (s : zS) (a b : Nat) : Bool := decide (z_t s (z_ow s a) < z_t s (z_ow s b)) || (decide (z_t s (z_ow s a) = z_t s (z_ow s b)) && decide (a < b))
def zf_le (s : zS) (tk : Nat → Bool) : Nat → Option Nat
  | 0 => none
  | k + 1 => if tk k = z_w s k then zf_le s tk k else match zf_le s tk k with
    | none => some k
    | some j => bif zf_bef s k j then some k else some j
def zf_i : Option Nat → Int32
  | none => -1
  | some k => nI k
def zf_first (s : zS) (tk : Nat → Bool) : Bool := match zf_le s tk (z_nD s) with
  | none => false
  | some k => tk k
theorem zf_le_lt (s : zS) (tk : Nat → Bool) : ∀ n k, zf_le s tk n = some k → k < n
  | 0, k, h => by cases h
  | n + 1, k, h => by
    unfold zf_le at h
    split at h
    · have := zf_le_lt s tk n k h
      omega
    · split at h
      · cases h; omega
      · rename_i j hj
        have := zf_le_lt s tk n j hj
        cases hb : zf_bef s n j <;> rw [hb] at h <;> cases h <;> omega
/-- the first j flags are the bits of S -/
def zt (S : Nat) (tk : Nat → Bool) (j : Nat) : Nat → Bool := fun k => if k < j then S.testBit k else tk k
theorem zt_0 (S : Nat) (tk : Nat → Bool) : zt S tk 0 = tk := by
  funext k
  simp [zt]
theorem zt_s (S : Nat) (tk : Nat → Bool) (j : Nat) : zt S tk (j + 1) = hv_up (zt S tk j) j (S.testBit j) := by
  funext k
  unfold zt hv_up
  by_cases h : k = j
  · subst h; simp
  · by_cases h2 : k < j
    · simp [h, h2, Nat.lt_succ_of_lt h2]
    · simp [h, h2, show ¬ k < j + 1 by omega]
theorem zt_sh : ∀ n, n < 32 → ((nI n &&& 31).toBitVec.smod 32).toNat = n := by decide +kernel
theorem zt_bit {S k : Nat} (hS : S < 2 ^ 31) (hk : k < 32) : (nI S >>> (nI k &&& 31)) &&& 1 = 1 ↔ S.testBit k = true := by
  rw [pk_shrN hS _ k (zt_sh k hk), pk_andN (k := 1) (by have := Nat.div_le_self S (2 ^ k); omega) rfl, Nat.testBit_eq_decide_div_mod_eq, decide_eq_true_eq]
  have h2 : S / 2 ^ k % 2 ^ 1 < 2 := Nat.mod_lt _ (by decide)
  exact nI_eq (b := 1) (by omega) (by decide)
theorem zc_sum_le (g : Nat → Nat) (B : Nat) (h : ∀ k, g k ≤ B) : ∀ n, zc_sum g n ≤ B * n
  | 0 => by simp [zc_sum]
  | n + 1 => by
    have := zc_sum_le g B h n
    have := h n
    simp only [zc_sum, Nat.mul_add]
    omega
theorem z_lots_le (s : zS) (k : Nat) : z_lots s k ≤ 8 := zc_le _ 8
