def zs_st (s : zS) (l : Nat) (a b c : Int64) : zS := (s.1, s.2.1, s.2.2.1, s.2.2.2.1, s.2.2.2.2.1, (hv_up (z_sn s) l (z_sn s l + 1), hv_up (z_sa s) (6 * l + z_sn s l) a, hv_up (z_sl s) (6 * l + z_sn s l) b, hv_up (z_sc s) (6 * l + z_sn s l) c), s.2.2.2.2.2.2)
def zs_ok (s : zS) (l : Nat) (a b : Int64) : Prop := z_sn s l < 6 ∧ (z_sn s l = 0 ∨ z_sa s (6 * l + z_sn s l - 1) * b < a * z_sl s (6 * l + z_sn s l - 1))
theorem st_row (g : Nat → Int64) {i n : Nat} (v : Int64) (hn : n < 6) : (fun q => if q < 6 then hv_up g (6 * i + n) v (6 * i + q) else 0) = hv_up (fun q => if q < 6 then g (6 * i + q) else 0) n v := by
  funext q
  unfold hv_up
  by_cases h : q = n
  · subst h; simp [hn]
  · by_cases h2 : q < 6
    · simp [h, h2]
    · simp [h, h2]
theorem st_row_ne (g : Nat → Int64) {i j n : Nat} (v : Int64) (hn : n < 6) (h : j ≠ i) : (fun q => if q < 6 then hv_up g (6 * i + n) v (6 * j + q) else 0) = fun q => if q < 6 then g (6 * j + q) else 0 := by
  funext q
  by_cases h2 : q < 6
  · simp only [h2, if_true]
    exact hv_un _ (by omega)
  · simp [h2]
