/-! THE STATE that both sides have: the reference's numbers, without its scratch row -/
abbrev zS : Type := (Nat × Nat × Nat × Nat) × (Bool × Bool × Int64) × ((Nat → Bool) × (Nat → Bool) × (Nat → Int64) × (Nat → Int32) × (Nat → Int32) × (Nat → Bool)) × ((Nat → Nat) × (Nat → Int64) × (Nat → Bool)) × ((Nat → Bool) × (Nat → Bool)) × ((Nat → Nat) × (Nat → Int64) × (Nat → Int64) × (Nat → Int64)) × ((Nat → Bool) × (Nat → Int64) × (Nat → Int64)) × ((Nat → Nat) × (Nat → Int32))
def z_nL (s : zS) : Nat := s.1.1
def z_nB (s : zS) : Nat := s.1.2.1
def z_nD (s : zS) : Nat := s.1.2.2.1
def z_nP (s : zS) : Nat := s.1.2.2.2
def z_fd (s : zS) : Bool := s.2.1.1
def z_pv (s : zS) : Bool := s.2.1.2.1
def z_fs (s : zS) : Int64 := s.2.1.2.2
def z_q (s : zS) : Nat → Bool := s.2.2.1.1
def z_o (s : zS) : Nat → Bool := s.2.2.1.2.1
def z_t (s : zS) : Nat → Int64 := s.2.2.1.2.2.1
def z_m (s : zS) : Nat → Int32 := s.2.2.1.2.2.2.1
def z_sb (s : zS) : Nat → Int32 := s.2.2.1.2.2.2.2.1
def z_sd (s : zS) : Nat → Bool := s.2.2.1.2.2.2.2.2
def z_ow (s : zS) : Nat → Nat := s.2.2.2.1.1
def z_c (s : zS) : Nat → Int64 := s.2.2.2.1.2.1
def z_h (s : zS) : Nat → Bool := s.2.2.2.1.2.2
def z_pl (s : zS) : Nat → Bool := s.2.2.2.2.1.1
def z_w (s : zS) : Nat → Bool := s.2.2.2.2.1.2
def z_sn (s : zS) : Nat → Nat := s.2.2.2.2.2.1.1
def z_sa (s : zS) : Nat → Int64 := s.2.2.2.2.2.1.2.1
def z_sl (s : zS) : Nat → Int64 := s.2.2.2.2.2.1.2.2.1
def z_sc (s : zS) : Nat → Int64 := s.2.2.2.2.2.1.2.2.2
def z_hi (s : zS) : Nat → Bool := s.2.2.2.2.2.2.1.1
def z_ia (s : zS) : Nat → Int64 := s.2.2.2.2.2.2.1.2.1
def z_ib (s : zS) : Nat → Int64 := s.2.2.2.2.2.2.1.2.2
def z_db (s : zS) : Nat → Nat := s.2.2.2.2.2.2.2.1
def z_dr (s : zS) : Nat → Int32 := s.2.2.2.2.2.2.2.2
/-- something was told: nothing is proved any more -/
def z_nd (s : zS) : Bool × Bool × Int64 := (z_fd s, false, z_fs s)
def zu_lot (s : zS) : zS := ((z_nL s + 1, z_nB s, z_nD s, z_nP s), z_nd s, s.2.2)
def zu_bdr (s : zS) (b : Bool) : zS := ((z_nL s, z_nB s + 1, z_nD s, z_nP s), z_nd s, (hv_up (z_q s) (z_nB s) b, z_o s, z_t s, hv_up (z_m s) (z_nB s) 8, z_sb s, z_sd s), s.2.2.2)
def zu_time (s : zS) (i : Nat) (v : Int64) : zS := (s.1, z_nd s, (z_q s, z_o s, hv_up (z_t s) i v, z_m s, z_sb s, z_sd s), s.2.2.2)
def zu_most (s : zS) (i : Nat) (v : Int32) : zS := (s.1, z_nd s, (z_q s, z_o s, z_t s, hv_up (z_m s) i v, z_sb s, z_sd s), s.2.2.2)
def zu_bid (s : zS) (i : Nat) (v : Int64) : zS := ((z_nL s, z_nB s, z_nD s + 1, z_nP s), z_nd s, s.2.2.1, (hv_up (z_ow s) (z_nD s) i, hv_up (z_c s) (z_nD s) v, z_h s), s.2.2.2.2)
def zu_on (s : zS) (k l : Nat) : zS := (s.1, z_nd s, s.2.2.1, (z_ow s, z_c s, hv_up (z_h s) (8 * k + l) true), s.2.2.2.2)
def zu_seal (s : zS) (i j : Nat) (v : Int32) : zS := (s.1, z_nd s, (z_q s, z_o s, z_t s, z_m s, hv_up (z_sb s) (8 * i + j) v, hv_up (z_sd s) (8 * i + j) true), s.2.2.2)
def zu_open (s : zS) (i : Nat) : zS := (s.1, z_nd s, (z_q s, hv_up (z_o s) i true, z_t s, z_m s, z_sb s, z_sd s), s.2.2.2)
def zu_run (s : zS) (v : Int64) (pl w : Nat → Bool) : zS := (s.1, (true, true, v), s.2.2.1, s.2.2.2.1, (pl, w), s.2.2.2.2.2)
def zu_step (s : zS) (l : Nat) (a b c : Int64) : zS := (s.1, z_nd s, s.2.2.1, s.2.2.2.1, s.2.2.2.2.1, (hv_up (z_sn s) l (z_sn s l + 1), hv_up (z_sa s) (6 * l + z_sn s l) a, hv_up (z_sl s) (6 * l + z_sn s l) b, hv_up (z_sc s) (6 * l + z_sn s l) c), s.2.2.2.2.2.2)
def zu_index (s : zS) (m : Nat) (a b : Int64) : zS := (s.1, z_nd s, s.2.2.1, s.2.2.2.1, s.2.2.2.2.1, s.2.2.2.2.2.1, (hv_up (z_hi s) m true, hv_up (z_ia s) m a, hv_up (z_ib s) m b), s.2.2.2.2.2.2.2)
def zu_disp (s : zS) (k : Nat) (r : Int32) : zS := ((z_nL s, z_nB s, z_nD s, z_nP s + 1), z_nd s, s.2.2.1, s.2.2.2.1, s.2.2.2.2.1, s.2.2.2.2.2.1, s.2.2.2.2.2.2.1, (hv_up (z_db s) (z_nP s) k, hv_up (z_dr s) (z_nP s) r))
def z_0 : zS := ((0, 0, 0, 0), (false, false, 0), (fun _ => false, fun _ => false, fun _ => 0, fun _ => 0, fun _ => 0, fun _ => false), (fun _ => 0, fun _ => 0, fun _ => false), (fun _ => false, fun _ => false), (fun _ => 0, fun _ => 0, fun _ => 0, fun _ => 0), (fun _ => false, fun _ => 0, fun _ => 0), (fun _ => 0, fun _ => 0))
-- counting
def zc_cnt (p : Nat → Bool) : Nat → Nat
  | 0 => 0
  | n + 1 => zc_cnt p n + (bif p n then 1 else 0)
def zc_sum (g : Nat → Nat) : Nat → Nat
  | 0 => 0
  | n + 1 => zc_sum g n + g n
def zc_sumL (p : Nat → Bool) (g : Nat → Int64) : Nat → Int64
  | 0 => 0
  | n + 1 => zc_sumL p g n + (bif p n then g n else 0)
/-- a number x of one of n things -/
def z_at (x : Int32) (n : Nat) : Option Nat := if 0 ≤ x ∧ x < nI n then some x.toNatClampNeg else none
theorem z_at_some {x : Int32} {n i : Nat} (hn : n < 2 ^ 31) (h : z_at x n = some i) : i < n ∧ x = nI i := by
  unfold z_at at h
  split at h
  · rename_i hc
    cases h
    obtain ⟨j, hj, rfl⟩ := nI_of (x := x) (Int32.not_lt.mpr hc.1)
    rw [nI_clamp hj]
    exact ⟨(nI_ltI hj hn).mp hc.2, rfl⟩
  · cases h
theorem z_at_nI {n i : Nat} (hn : n < 2 ^ 31) (h : i < n) : z_at (nI i) n = some i := by
  unfold z_at
  rw [if_pos ⟨nI_pos' (by omega), nI_lt h hn⟩, nI_clamp (by omega)]
theorem z_at_neg {x : Int32} {n : Nat} (h : x < 0) : z_at x n = none := by
  unfold z_at
  rw [if_neg (fun q => absurd h (Int32.not_lt.mpr q.1))]
theorem z_at_big {x : Int32} {n : Nat} (h : ¬ x < nI n) : z_at x n = none := by
  unfold z_at
  rw [if_neg (fun q => h q.2)]
def z_lots (s : zS) (k : Nat) : Nat := zc_cnt (fun l => z_h s (8 * k + l)) 8
def z_told (s : zS) (i : Nat) : Nat := zc_cnt (fun j => z_sd s (8 * i + j)) 8
