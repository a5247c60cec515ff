/-! bytes: seals and digests -/
theorem z_at_is (y : Int32) (n : Nat) : (z_at y n).isSome = (decide (0 ≤ y) && decide (y < nI n)) := by
  unfold z_at
  by_cases h1 : 0 ≤ y <;> by_cases h2 : y < nI n <;> simp [h1, h2]
theorem seal_ix (y : Int32) : k_in y.toInt64 0 7 = (z_at y 8).isSome := by
  rw [z_at_is, show k_in y.toInt64 0 7 = _ from k_in32 (v := y) (a := 0) (b := 7)]
  congr 1
  rw [decide_eq_decide, Int32.le_iff_toInt_le, Int32.lt_iff_toInt_lt, nI_toInt (by decide), show (7 : Int32).toInt = 7 from rfl]
  omega
theorem month_ix (y : Int32) : k_in y.toInt64 0 59 = (z_at y 60).isSome := by
  rw [z_at_is, show k_in y.toInt64 0 59 = _ from k_in32 (v := y) (a := 0) (b := 59)]
  congr 1
  rw [decide_eq_decide, Int32.le_iff_toInt_le, Int32.lt_iff_toInt_lt, nI_toInt (by decide), show (59 : Int32).toInt = 59 from rfl]
  omega
theorem z_sh8 : ∀ j, j < 8 → (8 : Int32) * (7 - nI j) = nI (8 * (7 - j)) ∧ (56 : Int32) - 8 * nI j = nI (8 * (7 - j)) := by decide +kernel
theorem z_and255 (x : Int64) : x.toInt32 &&& 255 = (x &&& 255).toInt32 := by
  apply Int32.toBitVec_inj.mp
  simp
theorem z_digit {n k : Nat} (hn : n < 2 ^ 64) (hk : k < 64) : (zl_us (lN n) (nI k) &&& 255).toInt32 = nI (n / 2 ^ k % 256) := by
  unfold zl_us
  rw [wb_shr hn hk, show (255 : Int64) = lN (2 ^ 8 - 1) from rfl, wb_mask (by have := Nat.div_le_self n (2 ^ k); omega) (by decide), lN_i]
/-- the told bytes as one number -/
def zb_n (b : Nat → Nat) : Nat → Nat
  | 0 => 0
  | n + 1 => zb_n b n * 256 + b n
theorem zb_n_lt (b : Nat → Nat) (h : ∀ j, b j < 256) : ∀ n, zb_n b n < 256 ^ n
  | 0 => by simp [zb_n]
  | n + 1 => by
    have := zb_n_lt b h n
    have := h n
    unfold zb_n
    rw [Nat.pow_succ]
    omega
theorem zb_sh (A b m : Nat) (hb : b < 256) : A * 2 ^ (m + 8) ||| b * 2 ^ m = (A * 256 + b) * 2 ^ m := by
  have h1 : A * 2 ^ (m + 8) = (A <<< 8) <<< m := by
    rw [Nat.shiftLeft_eq, Nat.shiftLeft_eq, Nat.pow_add, Nat.mul_assoc, Nat.mul_comm (2 ^ 8)]
  have h2 : b * 2 ^ m = b <<< m := (Nat.shiftLeft_eq _ _).symm
  rw [h1, h2, ← Nat.shiftLeft_or_distrib, ← Nat.shiftLeft_add_eq_or_of_lt (show b < 2 ^ 8 from hb), Nat.shiftLeft_eq, Nat.shiftLeft_eq]
theorem zb_or_n {s : zS} {i : Nat} {b : Nat → Nat} (hb : ∀ j, b j < 256) (hs : ∀ j, j < 8 → zb_by s i j = lN (b j * 2 ^ (8 * (7 - j)))) : ∀ n, n ≤ 8 → zb_or s i n = lN (zb_n b n * 2 ^ (8 * (8 - n)))
  | 0, _ => by simp [zb_or, zb_n]; rfl
  | n + 1, hn => by
    have ih := zb_or_n hb hs n (by omega)
    have h1 := zb_n_lt b hb n
    have h2 : 256 ^ n * 2 ^ (8 * (8 - n)) = 2 ^ 64 := by
      rw [show (256 : Nat) = 2 ^ 8 from rfl, ← Nat.pow_mul, ← Nat.pow_add]
      congr 1
      omega
    have h3 : zb_n b n * 2 ^ (8 * (8 - n)) < 2 ^ 64 := by
      rw [← h2]
      exact Nat.mul_lt_mul_of_pos_right h1 (Nat.pow_pos (by decide))
    have h4 : b n * 2 ^ (8 * (7 - n)) < 2 ^ 64 := by
      have h5 : b n * 2 ^ (8 * (7 - n)) < 256 * 2 ^ (8 * (7 - n)) := Nat.mul_lt_mul_of_pos_right (hb n) (Nat.pow_pos (by decide))
      have h6 : 256 * 2 ^ (8 * (7 - n)) ≤ 2 ^ 64 := by
        rw [show (256 : Nat) = 2 ^ 8 from rfl, ← Nat.pow_add]
        exact Nat.pow_le_pow_right (by decide) (by omega)
      omega
    show zb_or s i n ||| zb_by s i n = _
    rw [ih, hs n (by omega), wb_or h3 h4, show 8 * (8 - n) = 8 * (7 - n) + 8 by omega, zb_sh _ _ _ (hb n), show 8 * (8 - (n + 1)) = 8 * (7 - n) by omega]
    rfl
theorem zb_by_n {s : zS} {i j b : Nat} (hj : j < 8) (hd : z_sd s (8 * i + j) = true) (hb : z_sb s (8 * i + j) = nI b) (h : b < 256) : zb_by s i j = lN (b * 2 ^ (8 * (7 - j))) := by
  unfold zb_by
  rw [hd, cond_true, hb, (z_sh8 j hj).1, nI_l (by omega), wb_shl b (by omega)]
theorem zc_full {p : Nat → Bool} : ∀ {n : Nat}, zc_cnt p n = n → ∀ k, k < n → p k = true
  | 0, _, k, h => absurd h (by omega)
  | n + 1, e, k, h => by
    have hl := zc_le p n
    have e2 : zc_cnt p n + (bif p n then 1 else 0) = n + 1 := e
    cases hp : p n with
    | false => rw [hp] at e2; simp at e2; omega
    | true =>
      rw [hp] at e2
      simp at e2
      rcases Nat.lt_or_ge k n with h2 | h2
      · exact zc_full e2 k h2
      · rw [show k = n by omega]; exact hp
set_option maxHeartbeats 4000000 in
theorem zb_digits (b : Nat → Nat) (hb : ∀ j, b j < 256) (m : Nat) (hm : m < 2 ^ 64) : zb_n b 8 = m ↔ ∀ j, j < 8 → b j = m / 2 ^ (8 * (7 - j)) % 256 := by
  have h0 := hb 0
  have h1 := hb 1
  have h2 := hb 2
  have h3 := hb 3
  have h4 := hb 4
  have h5 := hb 5
  have h6 := hb 6
  have h7 := hb 7
  simp only [zb_n]
  constructor
  · intro e j hj
    match j, hj with
    | 0, _ => show b 0 = m / 2 ^ 56 % 256; omega
    | 1, _ => show b 1 = m / 2 ^ 48 % 256; omega
    | 2, _ => show b 2 = m / 2 ^ 40 % 256; omega
    | 3, _ => show b 3 = m / 2 ^ 32 % 256; omega
    | 4, _ => show b 4 = m / 2 ^ 24 % 256; omega
    | 5, _ => show b 5 = m / 2 ^ 16 % 256; omega
    | 6, _ => show b 6 = m / 2 ^ 8 % 256; omega
    | 7, _ => show b 7 = m / 2 ^ 0 % 256; omega
  · intro e
    have e0 : b 0 = m / 2 ^ 56 % 256 := e 0 (by decide)
    have e1 : b 1 = m / 2 ^ 48 % 256 := e 1 (by decide)
    have e2 : b 2 = m / 2 ^ 40 % 256 := e 2 (by decide)
    have e3 : b 3 = m / 2 ^ 32 % 256 := e 3 (by decide)
    have e4 : b 4 = m / 2 ^ 24 % 256 := e 4 (by decide)
    have e5 : b 5 = m / 2 ^ 16 % 256 := e 5 (by decide)
    have e6 : b 6 = m / 2 ^ 8 % 256 := e 6 (by decide)
    have e7 : b 7 = m / 2 ^ 0 % 256 := e 7 (by decide)
    omega
theorem open_eq {s : zS} {i : Nat} (v : Int64) (ht : z_told s i = 8) (B : ∀ q, ∃ b, b < 256 ∧ z_sb s q = nI b) : zb_or s i 8 = zd_x s i v (z_nD s) ↔ ∀ j, j < 8 → z_sb s (8 * i + j) = zd_by s i v j := by
  have hb : ∀ j, (B (8 * i + j)).choose < 256 := fun j => (B (8 * i + j)).choose_spec.1
  have he : ∀ j, z_sb s (8 * i + j) = nI (B (8 * i + j)).choose := fun j => (B (8 * i + j)).choose_spec.2
  generalize hbe : (fun j => (B (8 * i + j)).choose) = b at *
  have hb' : ∀ j, b j < 256 := fun j => by rw [← hbe]; exact hb j
  have he' : ∀ j, z_sb s (8 * i + j) = nI (b j) := fun j => by rw [← hbe]; exact he j
  obtain ⟨m, hm, hx⟩ := wb_of (zd_x s i v (z_nD s))
  have h8 := zb_or_n hb' (fun j hj => zb_by_n hj (zc_full ht j hj) (he' j) (hb' j)) 8 (Nat.le_refl 8)
  rw [h8, hx, Nat.sub_self, Nat.mul_zero, Nat.pow_zero, Nat.mul_one]
  have hl := zb_n_lt b hb' 8
  have hl2 : zb_n b 8 < 2 ^ 64 := hl
  have e1 : lN (zb_n b 8) = lN m ↔ zb_n b 8 = m := ⟨fun e => by rw [← wb_tn hl2, ← wb_tn hm, e], fun e => by rw [e]⟩
  rw [e1, zb_digits b hb' m hm]
  refine forall_congr' fun j => forall_congr' fun hj => ?_
  rw [he' j]
  unfold zd_by
  rw [hx, (z_sh8 j hj).2, z_digit hm (by omega)]
  exact (nI_eq (by have := hb' j; omega) (by have := Nat.mod_lt (m / 2 ^ (8 * (7 - j))) (show 0 < 256 by decide); omega)).symm
