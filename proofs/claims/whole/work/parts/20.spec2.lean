/-! the prices, the disputes, the sales: what is answered -/
def za_step (s : zS) (x : Int32) (a b c : Int64) : Bool × zS := match z_at x (z_nL s) with
  | some l => if k_share a b = true ∧ k_in c (-1000000) 1000000 = true ∧ z_sn s l < 6 ∧ (z_sn s l = 0 ∨ z_sa s (6 * l + z_sn s l - 1) * b < a * z_sl s (6 * l + z_sn s l - 1)) then (true, zu_step s l a b c) else (false, s)
  | none => (false, s)
def zp_ch (s : zS) (l : Nat) (a b : Int64) : Nat → Int64
  | 0 => 0
  | j + 1 => if z_sa s (6 * l + j) * b ≤ a * z_sl s (6 * l + j) then z_sc s (6 * l + j) else zp_ch s l a b j
def zp_pr (s : zS) (k : Nat) (a b : Int64) : Nat → Int64
  | 0 => z_c s k
  | l + 1 => bif z_h s (8 * k + l) then zp_pr s k a b l + zp_ch s l a b (z_sn s l) else zp_pr s k a b l
def za_price (s : zS) (x : Int32) (a b : Int64) : Int64 := match z_at x (z_nD s) with
  | some k => bif z_w s k && k_share a b then (if 0 ≤ zp_pr s k a b (z_nL s) then zp_pr s k a b (z_nL s) else 0) else -1
  | none => -1
def za_index (s : zS) (x : Int32) (a b : Int64) : Bool × zS := match z_at x 60 with
  | some m => if z_hi s m = false ∧ k_in a 1 1000 = true ∧ k_in b 1 1000 = true then (true, zu_index s m a b) else (false, s)
  | none => (false, s)
def zm_1 (s : zS) (m : Nat) (v : Int64) : Int64 := v * z_ia s m / z_ib s m
def zm_v (s : zS) (k : Nat) : Nat → Int64
  | 0 => z_c s k
  | m + 1 => bif z_hi s m then (if zm_1 s m (zm_v s k m) ≤ 1000000000000 then zm_1 s m (zm_v s k m) else 1000000000000) else zm_v s k m
def za_month (s : zS) (x y : Int32) : Int64 := match z_at x (z_nD s), z_at y 60 with
  | some k, some m => bif z_w s k then zm_v s k (m + 1) else -1
  | _, _ => -1
def za_disp (s : zS) (x r : Int32) : Int32 × zS := match z_at x (z_nD s) with
  | some k => if z_nP s < 20 ∧ k_in r.toInt64 1 6 = true then (nI (z_nP s), zu_disp s k r) else (-1, s)
  | none => (-1, s)
def zc_any (p : Nat → Bool) : Nat → Bool
  | 0 => false
  | n + 1 => zc_any p n || p n
def zh_4 (s : zS) (k : Nat) : Bool := zc_any (fun j => zc_any (fun l => z_w s j && z_h s (8 * j + l) && z_h s (8 * k + l)) (z_nL s)) (z_nD s)
def zh_n (s : zS) (k : Nat) : Nat → Nat := zc_sum (fun j => bif z_w s j && decide (z_ow s j = z_ow s k) then z_lots s j else 0)
def zh_5 (s : zS) (k : Nat) : Bool := decide (z_m s (z_ow s k) < nI (z_lots s k + zh_n s k (z_nD s)))
def zh (s : zS) (k : Nat) (r : Int32) : Bool := if r = 1 then !z_q s (z_ow s k) else if r = 2 then !z_o s (z_ow s k) else if r = 3 then decide (z_lots s k = 0) else if r = 4 then zh_4 s k else zh_5 s k
def za_verd (s : zS) (x : Int32) : Int32 := match z_at x (z_nP s) with
  | some p => bif z_w s (z_db s p) then 2 else if z_dr s p < 6 then bI (zh s (z_db s p) (z_dr s p)) else bI (!zc_any (fun r => zh s (z_db s p) (nI (r + 1))) 5)
  | none => -1
def zb_gr (s : zS) (l : Nat) : Nat → Int64
  | 0 => 0
  | k + 1 => if z_play s k = true ∧ z_h s (8 * k + l) = true ∧ zb_gr s l k < z_c s k then z_c s k else zb_gr s l k
def zb_sm (s : zS) : Nat → Int64
  | 0 => 0
  | l + 1 => zb_sm s l + zb_gr s l (z_nD s)
def za_bound (s : zS) : Int64 := zb_sm s (z_nL s)
theorem za_wins_t {s : zS} {x : Int32} (h : ¬ bI (za_wins s x) = 0) : ∃ k, z_at x (z_nD s) = some k ∧ z_w s k = true := by
  rw [bI_n0] at h
  unfold za_wins at h
  split at h
  · exact ⟨_, by assumption, h⟩
  · cases h
theorem za_wins_f {s : zS} {x : Int32} (h : bI (za_wins s x) = 0) : z_at x (z_nD s) = none ∨ ∃ k, z_at x (z_nD s) = some k ∧ z_w s k = false := by
  rw [bI_0] at h
  unfold za_wins at h
  split at h
  · exact Or.inr ⟨_, by assumption, h⟩
  · exact Or.inl (by assumption)
