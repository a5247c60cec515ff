/-! the search as the reference does it: set by set -/
theorem zc_cnt_cg {p q : Nat → Bool} : ∀ {n : Nat}, (∀ k, k < n → p k = q k) → zc_cnt p n = zc_cnt q n
  | 0, _ => rfl
  | n + 1, h => by
    unfold zc_cnt
    rw [zc_cnt_cg (fun k hk => h k (Nat.lt_succ_of_lt hk)), h n (Nat.lt_succ_self n)]
theorem zc_sum_cg {p q : Nat → Nat} : ∀ {n : Nat}, (∀ k, k < n → p k = q k) → zc_sum p n = zc_sum q n
  | 0, _ => rfl
  | n + 1, h => by
    unfold zc_sum
    rw [zc_sum_cg (fun k hk => h k (Nat.lt_succ_of_lt hk)), h n (Nat.lt_succ_self n)]
theorem zc_sumL_cg {p q : Nat → Bool} {g h : Nat → Int64} : ∀ {n : Nat}, (∀ k, k < n → p k = q k ∧ g k = h k) → zc_sumL p g n = zc_sumL q h n
  | 0, _ => rfl
  | n + 1, e => by
    unfold zc_sumL
    rw [zc_sumL_cg (fun k hk => e k (Nat.lt_succ_of_lt hk)), (e n (Nat.lt_succ_self n)).1, (e n (Nat.lt_succ_self n)).2]
theorem zk_sale_cg {s : zS} {t1 t2 : Nat → Bool} (h : ∀ k, k < z_nD s → t1 k = t2 k) : zk_sale s t1 ↔ zk_sale s t2 := by
  unfold zk_sale
  refine and_congr ?_ (and_congr ?_ ?_)
  · exact ⟨fun a k hk ht => a k hk (by rw [h k hk]; exact ht), fun a k hk ht => a k hk (by rw [← h k hk]; exact ht)⟩
  · constructor
    · intro a l hl
      rw [zc_cnt_cg (q := fun k => t1 k && z_h s (8 * k + l)) (fun k hk => by rw [h k hk])]
      exact a l hl
    · intro a l hl
      rw [zc_cnt_cg (q := fun k => t2 k && z_h s (8 * k + l)) (fun k hk => by rw [h k hk])]
      exact a l hl
  · constructor
    · intro a b hb
      rw [zc_sum_cg (q := fun k => bif t1 k && decide (z_ow s k = b) then z_lots s k else 0) (fun k hk => by rw [h k hk])]
      exact a b hb
    · intro a b hb
      rw [zc_sum_cg (q := fun k => bif t2 k && decide (z_ow s k = b) then z_lots s k else 0) (fun k hk => by rw [h k hk])]
      exact a b hb
theorem zk_sum_cg {s : zS} {t1 t2 : Nat → Bool} (h : ∀ k, k < z_nD s → t1 k = t2 k) : zk_sum s t1 = zk_sum s t2 := zc_sumL_cg (fun k hk => ⟨h k hk, rfl⟩)
theorem zf_le_cg {s : zS} {t1 t2 : Nat → Bool} : ∀ {n : Nat}, (∀ k, k < n → t1 k = t2 k) → zf_le s t1 n = zf_le s t2 n
  | 0, _ => rfl
  | n + 1, h => by
    unfold zf_le
    rw [zf_le_cg (fun k hk => h k (Nat.lt_succ_of_lt hk)), h n (Nat.lt_succ_self n)]
theorem zf_first_cg {s : zS} {t1 t2 : Nat → Bool} (h : ∀ k, k < z_nD s → t1 k = t2 k) : zf_first s t1 = zf_first s t2 := by
  unfold zf_first
  rw [zf_le_cg h]
  split
  · rfl
  · exact h _ (zf_le_lt s t2 _ _ (by assumption))
theorem zt_12 {s : zS} (N : zN s) (n : Nat) (tk : Nat → Bool) : ∀ k, k < z_nD s → zt n tk 12 k = n.testBit k := fun k hk => by
  have := N.2.2.1
  simp [zt, show k < 12 by omega]
noncomputable def zk_sb (s : zS) (tk : Nat → Bool) : Bool := @decide (zk_sale s tk) (Classical.propDecidable _)
theorem zk_sb_t {s : zS} {tk : Nat → Bool} : zk_sb s tk = true ↔ zk_sale s tk := by
  unfold zk_sb
  exact @decide_eq_true_iff _ (Classical.propDecidable _)
theorem zk_sb_of {s : zS} (N : zN s) {n : Nat} {tk : Nat → Bool} {b : Bool} (h : b = true ↔ zk_sale s (zt n tk 12)) : zk_sb s n.testBit = b := by
  have h2 : zk_sb s n.testBit = true ↔ b = true := by rw [zk_sb_t, h]; exact (zk_sale_cg (zt_12 N n tk)).symm
  cases b <;> cases hz : zk_sb s n.testBit <;> rw [hz] at h2 <;> simp at h2 ⊢
/-- the greatest sum of a sale without i, of the sets below n -/
noncomputable def zs_gr (s : zS) (i : Nat) : Nat → Int64
  | 0 => 0
  | n + 1 => bif !n.testBit i && zk_sb s n.testBit && decide (zs_gr s i n < zk_sum s n.testBit) then zk_sum s n.testBit else zs_gr s i n
noncomputable def za_second (s : zS) (x : Int32) : Int64 := match z_at x (z_nD s) with
  | some k => bif z_w s k then z_c s k - z_fs s + zs_gr s k (2 ^ z_nD s) else -1
  | none => -1
noncomputable def zk_ti (s : zS) (i : Nat) : Nat → Bool := zc_any (fun n => n.testBit i && zk_sb s n.testBit && decide (zk_sum s n.testBit = z_fs s))
noncomputable def zk_td (s : zS) (i : Nat) : Bool := !z_w s i && z_pl s i && zk_ti s i (2 ^ z_nD s)
noncomputable def zk_tn (s : zS) : Nat → Nat := zc_cnt (zk_td s)
def zt_w (s : zS) (b : Nat) (y : Int32) : Int32 := if y = 0 then nI b else if y = 1 then nI (z_ow s b) else -1
/-- the first bid from b on, of those that tie, that is the x-th -/
noncomputable def zt_go (s : zS) (x y : Int32) : Nat → Nat → Int32
  | 0, _ => -1
  | d + 1, b => bif zk_td s b && decide (nI (zk_tn s b) = x) then zt_w s b y else zt_go s x y d (b + 1)
noncomputable def za_tie (s : zS) (x y : Int32) : Int32 := bif z_fd s then zt_go s x y (z_nD s) 0 else -1
-- run
def zs_pw (s : zS) (pl w : Nat → Bool) : zS := (s.1, s.2.1, s.2.2.1, s.2.2.2.1, (pl, w), s.2.2.2.2.2)
def zr_pl (s : zS) (j : Nat) : Nat → Bool := fun k => if k < j then decide (k < z_nD s) && z_play s k else z_pl s k
def zr_w0 (s : zS) (j : Nat) : Nat → Bool := fun k => if k < j then false else z_w s k
def zr_cp (s : zS) (tk : Nat → Bool) (j : Nat) : Nat → Bool := fun k => if k < j then tk k else z_w s k
theorem up_lt {α : Type} (a b : Nat → α) (j : Nat) : (fun k => if k < j + 1 then a k else b k) = hv_up (fun k => if k < j then a k else b k) j (a j) := by
  funext k
  unfold hv_up
  by_cases h : k = j
  · subst h; simp
  · by_cases h2 : k < j
    · simp [h, h2, Nat.lt_succ_of_lt h2]
    · simp [h, h2, show ¬ k < j + 1 by omega]
noncomputable def zr_go (s : zS) : Nat → zS
  | 0 => zu_run s 0 (zr_pl s 12) (zr_w0 s 12)
  | n + 1 => bif zk_sb (zr_go s n) n.testBit && (decide (z_fs (zr_go s n) < zk_sum (zr_go s n) n.testBit) || (decide (zk_sum (zr_go s n) n.testBit = z_fs (zr_go s n)) && zf_first (zr_go s n) n.testBit)) then zu_run (zr_go s n) (zk_sum (zr_go s n) n.testBit) (z_pl (zr_go s n)) (zr_cp (zr_go s n) n.testBit 12) else zr_go s n
noncomputable def za_run (s : zS) (v : Int64) : Int32 × zS := if (1 : Int64) <<< ((nI (zc_cnt (z_play s) (z_nD s))).toInt64 &&& 63) ≤ v then (nI (zc_cnt (z_w (zr_go s (2 ^ z_nD s))) (z_nD s)), zr_go s (2 ^ z_nD s)) else (-1, s)
theorem zr_go_1 (s : zS) : ∀ n, (zr_go s n).1 = s.1 ∧ (zr_go s n).2.2.1 = s.2.2.1 ∧ (zr_go s n).2.2.2.1 = s.2.2.2.1 ∧ (zr_go s n).2.2.2.2.2 = s.2.2.2.2.2
  | 0 => ⟨rfl, rfl, rfl, rfl⟩
  | n + 1 => by
    have h := zr_go_1 s n
    unfold zr_go
    cases hb : (zk_sb (zr_go s n) n.testBit && (decide (z_fs (zr_go s n) < zk_sum (zr_go s n) n.testBit) || (decide (zk_sum (zr_go s n) n.testBit = z_fs (zr_go s n)) && zf_first (zr_go s n) n.testBit))) with
    | true => exact h
    | false => exact h
theorem zN_eq {s t : zS} (h1 : t.1 = s.1) (h3 : t.2.2.2.1 = s.2.2.2.1) (h4 : t.2.2.2.2.2 = s.2.2.2.2.2) (N : zN s) : zN t := by
  unfold zN z_nL z_nB z_nD z_nP z_ow z_sn z_db at *
  rw [h1, h3, h4]
  exact N
theorem zr_N {s : zS} (N : zN s) (n : Nat) : zN (zr_go s n) := zN_eq (zr_go_1 s n).1 (zr_go_1 s n).2.2.1 (zr_go_1 s n).2.2.2 N
theorem zr_nD (s : zS) (n : Nat) : z_nD (zr_go s n) = z_nD s := by
  unfold z_nD
  rw [(zr_go_1 s n).1]
theorem z_pow {n : Nat} (h : n ≤ 12) : 2 ^ n ≤ 4096 := Nat.pow_le_pow_right (by decide) h
theorem z_shl1 {n : Nat} (h : n ≤ 12) : (1 : Int32) <<< (nI n &&& 31) = nI (2 ^ n) := by
  have h2 : ∀ n, n < 13 → (1 : Int32) <<< (nI n &&& 31) = nI (2 ^ n) := by decide +kernel
  exact h2 n (by omega)
