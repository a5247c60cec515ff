theorem in_b {v : Int32} (h : k_in v.toInt64 0 255 = true) : ∃ b, b < 256 ∧ v = nI b := by
  rw [show k_in v.toInt64 0 255 = _ from k_in32 (v := v) (a := 0) (b := 255), Bool.and_eq_true, decide_eq_true_eq, decide_eq_true_eq] at h
  obtain ⟨j, hj, rfl⟩ := nI_of (Int32.not_lt.mpr h.1)
  refine ⟨j, ?_, rfl⟩
  rcases Nat.lt_or_ge j 256 with c | c
  · exact c
  · exact absurd h.2 (nI_ge (a := 255) (b := j) (by omega) hj)
theorem in_r {v : Int32} (h : k_in v.toInt64 1 6 = true) : ∃ q, 1 ≤ q ∧ q ≤ 6 ∧ v = nI q := by
  rw [show k_in v.toInt64 1 6 = _ from k_in32 (v := v) (a := 1) (b := 6), Bool.and_eq_true, decide_eq_true_eq, decide_eq_true_eq] at h
  obtain ⟨j, hj, rfl⟩ := nI_of (x := v) (fun c => by
    have h1 := h.1
    rw [Int32.le_iff_toInt_le, show (1 : Int32).toInt = 1 from rfl] at h1
    rw [Int32.lt_iff_toInt_lt, show (0 : Int32).toInt = 0 from rfl] at c
    omega)
  refine ⟨j, ?_, ?_, rfl⟩
  · rcases Nat.lt_or_ge j 1 with c | c
    · exact absurd h.1 (nI_ge (a := j) (b := 1) c (by decide))
    · exact c
  · rcases Nat.lt_or_ge j 7 with c | c
    · omega
    · exact absurd h.2 (nI_ge (a := 6) (b := j) (by omega) hj)
theorem in_m {v : Int32} (h : k_in v.toInt64 0 8 = true) : 0 ≤ v := by
  rw [show k_in v.toInt64 0 8 = _ from k_in32 (v := v) (a := 0) (b := 8), Bool.and_eq_true, decide_eq_true_eq] at h
  exact h.1
theorem in_c {v : Int64} (h : k_in v 0 100000000 = true) : 0 ≤ v.toInt ∧ v.toInt ≤ 100000000 := by
  unfold k_in at h
  rw [Bool.and_eq_true, decide_eq_true_eq, decide_eq_true_eq, Int64.le_iff_toInt_le, Int64.le_iff_toInt_le] at h
  exact h
theorem in_p {v : Int64} (h : k_in v 1 1000 = true) : 0 < v := by
  unfold k_in at h
  rw [Bool.and_eq_true, decide_eq_true_eq] at h
  exact Int64.lt_of_lt_of_le (by decide) h.1
section TELL
variable {s : zS}
theorem j_lot (J : zJ s) (h : z_nL s < 8) : zJ (zu_lot s) ∧ zQ s (zu_lot s) := ⟨⟨⟨by show z_nL s + 1 ≤ 8; omega, J.N.2⟩, ⟨J.F.1, J.F.2.1, fun l hl => J.F.2.2 l (by have : z_nL s + 1 ≤ l := hl; omega)⟩, fun k l h1 h2 => J.G k l h1 (by have : z_nL s + 1 ≤ l := h2; omega), J.I, J.B, J.Q, J.M, J.C, J.P, J.W, J.S⟩, rfl, rfl, rfl, rfl, Nat.le_refl _, Nat.le_succ _, Nat.le_refl _, fun k _ => ⟨rfl, rfl, fun _ _ => rfl, rfl⟩⟩
theorem j_bdr (J : zJ s) (h : z_nB s < 6) (b : Bool) : zJ (zu_bdr s b) ∧ zQ s (zu_bdr s b) := ⟨⟨⟨J.N.1, by show z_nB s + 1 ≤ 6; omega, J.N.2.2.1, J.N.2.2.2.1, fun k hk => by have := J.N.2.2.2.2.1 k hk; show z_ow s k < z_nB s + 1; omega, J.N.2.2.2.2.2⟩, ⟨fun i hi => J.F.1 i (by have : z_nB s + 1 ≤ i := hi; omega), J.F.2⟩, J.G, J.I, J.B, J.Q, fun c => by
    show 0 ≤ hv_up (z_m s) (z_nB s) 8 c
    by_cases e : c = z_nB s
    · rw [e, hv_us]; decide
    · rw [hv_un _ e]; exact J.M c, J.C, J.P, J.W, J.S⟩, rfl, rfl, rfl, rfl, Nat.le_refl _, Nat.le_refl _, Nat.le_succ _, fun k h => ⟨rfl, rfl, fun _ _ => rfl, hv_un _ (Nat.ne_of_lt (J.N.2.2.2.2.1 k (J.P k h).1))⟩⟩
theorem j_time (J : zJ s) {i : Nat} (hi : i < z_nB s) (v : Int64) : zJ (zu_time s i v) ∧ zQ s (zu_time s i v) := ⟨⟨J.N, ⟨fun j hj => ⟨(J.F.1 j hj).1, by
    have h9 : z_nB s ≤ j := hj
    show hv_up (z_t s) i v j = 0
    rw [hv_un _ (by omega)]
    exact (J.F.1 j hj).2.1, (J.F.1 j hj).2.2⟩, J.F.2⟩, J.G, J.I, J.B, J.Q, J.M, J.C, J.P, J.W, J.S⟩, rfl, rfl, rfl, rfl, Nat.le_refl _, Nat.le_refl _, Nat.le_refl _, fun k _ => ⟨rfl, rfl, fun _ _ => rfl, rfl⟩⟩
theorem j_most (J : zJ s) {i : Nat} (ho : z_o s i = false) {v : Int32} (hv : 0 ≤ v) : zJ (zu_most s i v) ∧ zQ s (zu_most s i v) := ⟨⟨J.N, J.F, J.G, J.I, J.B, J.Q, fun c => by
    show 0 ≤ hv_up (z_m s) i v c
    by_cases e : c = i
    · rw [e, hv_us]; exact hv
    · rw [hv_un _ e]; exact J.M c, J.C, J.P, J.W, J.S⟩, rfl, rfl, rfl, rfl, Nat.le_refl _, Nat.le_refl _, Nat.le_refl _, fun k h => ⟨rfl, rfl, fun _ _ => rfl, hv_un _ (fun e => by have h9 := (J.P k h).2; rw [e, ho] at h9; cases h9)⟩⟩
theorem j_bid (J : zJ s) {i : Nat} (hi : i < z_nB s) (h : z_nD s < 12) {v : Int64} (hv : 0 ≤ v.toInt ∧ v.toInt ≤ 100000000) : zJ (zu_bid s i v) ∧ zQ s (zu_bid s i v) := ⟨⟨⟨J.N.1, J.N.2.1, by show z_nD s + 1 ≤ 12; omega, J.N.2.2.2.1, fun k hk => by
    have h9 : k < z_nD s + 1 := hk
    show hv_up (z_ow s) (z_nD s) i k < z_nB s
    by_cases e : k = z_nD s
    · rw [e, hv_us]; exact hi
    · rw [hv_un _ e]; exact J.N.2.2.2.2.1 k (by omega), J.N.2.2.2.2.2.1, fun p hp => by have := J.N.2.2.2.2.2.2 p hp; show z_db s p < z_nD s + 1; omega⟩, ⟨J.F.1, fun k l hl hk => J.F.2.1 k l hl (by have : z_nD s + 1 ≤ k := hk; omega), J.F.2.2⟩, J.G, J.I, J.B, J.Q, J.M, fun k => by
    show 0 ≤ (hv_up (z_c s) (z_nD s) v k).toInt ∧ (hv_up (z_c s) (z_nD s) v k).toInt ≤ 100000000
    by_cases e : k = z_nD s
    · rw [e, hv_us]; exact hv
    · rw [hv_un _ e]; exact J.C k, fun k hk => by
    have h9 := J.P k hk
    refine ⟨by show k < z_nD s + 1; omega, ?_⟩
    show z_o s (hv_up (z_ow s) (z_nD s) i k) = true
    rw [hv_un _ (by omega)]
    exact h9.2, fun k hk => ⟨by have := (J.W k hk).1; show k < z_nD s + 1; omega, (J.W k hk).2⟩, J.S⟩, rfl, rfl, rfl, rfl, Nat.le_succ _, Nat.le_refl _, Nat.le_refl _, fun k h => by
    have h9 := (J.P k h).1
    exact ⟨hv_un _ (by omega), hv_un _ (by omega), fun _ _ => rfl, rfl⟩⟩
theorem j_on (J : zJ s) {k l : Nat} (hk : k < z_nD s) (hl : l < z_nL s) (ho : z_o s (z_ow s k) = false) : zJ (zu_on s k l) ∧ zQ s (zu_on s k l) := by
  have h8 := J.N.1
  refine ⟨⟨J.N, ⟨J.F.1, fun k2 l2 h1 h2 => ?_, J.F.2.2⟩, fun k2 l2 h1 h2 => ?_, J.I, J.B, J.Q, J.M, J.C, J.P, J.W, J.S⟩, rfl, rfl, rfl, rfl, Nat.le_refl _, Nat.le_refl _, Nat.le_refl _, fun k2 h => ⟨rfl, rfl, fun l2 h2 => hv_un _ (fun e => ?_), rfl⟩⟩
  · have h3 : z_nD s ≤ k2 := h2
    show hv_up (z_h s) (8 * k + l) true (8 * k2 + l2) = false
    rw [hv_un _ (by omega)]
    exact J.F.2.1 k2 l2 h1 h2
  · have h3 : z_nL s ≤ l2 := h2
    show hv_up (z_h s) (8 * k + l) true (8 * k2 + l2) = false
    rw [hv_un _ (by omega)]
    exact J.G k2 l2 h1 h2
  · have h3 := (J.P k2 h).2
    rw [show k2 = k by omega, ho] at h3
    cases h3
theorem j_seal (J : zJ s) {i j : Nat} (hi : i < z_nB s) (hj : j < 8) {v : Int32} (hv : ∃ b, b < 256 ∧ v = nI b) : zJ (zu_seal s i j v) ∧ zQ s (zu_seal s i j v) := ⟨⟨J.N, ⟨fun i2 h2 => ⟨(J.F.1 i2 h2).1, (J.F.1 i2 h2).2.1, fun j2 h3 => by
    have h9 : z_nB s ≤ i2 := h2
    show hv_up (z_sd s) (8 * i + j) true (8 * i2 + j2) = false
    rw [hv_un _ (by omega)]
    exact (J.F.1 i2 h2).2.2 j2 h3⟩, J.F.2⟩, J.G, J.I, fun q => by
    show ∃ b, b < 256 ∧ hv_up (z_sb s) (8 * i + j) v q = nI b
    by_cases e : q = 8 * i + j
    · rw [e, hv_us]; exact hv
    · rw [hv_un _ e]; exact J.B q, J.Q, J.M, J.C, J.P, J.W, J.S⟩, rfl, rfl, rfl, rfl, Nat.le_refl _, Nat.le_refl _, Nat.le_refl _, fun k _ => ⟨rfl, rfl, fun _ _ => rfl, rfl⟩⟩
theorem j_open (J : zJ s) {i : Nat} (hi : i < z_nB s) : zJ (zu_open s i) ∧ zQ s (zu_open s i) := ⟨⟨J.N, ⟨fun i2 h2 => ⟨by
    have h9 : z_nB s ≤ i2 := h2
    show hv_up (z_o s) i true i2 = false
    rw [hv_un _ (by omega)]
    exact (J.F.1 i2 h2).1, (J.F.1 i2 h2).2⟩, J.F.2⟩, J.G, J.I, J.B, J.Q, J.M, J.C, fun k hk => ⟨(J.P k hk).1, by
    show hv_up (z_o s) i true (z_ow s k) = true
    by_cases e : z_ow s k = i
    · rw [e, hv_us]
    · rw [hv_un _ e]; exact (J.P k hk).2⟩, J.W, J.S⟩, rfl, rfl, rfl, rfl, Nat.le_refl _, Nat.le_refl _, Nat.le_refl _, fun k _ => ⟨rfl, rfl, fun _ _ => rfl, rfl⟩⟩
theorem j_step (J : zJ s) {l : Nat} (hl : l < z_nL s) (h : z_sn s l < 6) (a b c : Int64) : zJ (zu_step s l a b c) ∧ zQ s (zu_step s l a b c) := ⟨⟨⟨J.N.1, J.N.2.1, J.N.2.2.1, J.N.2.2.2.1, J.N.2.2.2.2.1, fun q => by
    show hv_up (z_sn s) l (z_sn s l + 1) q ≤ 6
    by_cases e : q = l
    · rw [e, hv_us]; omega
    · rw [hv_un _ e]; exact J.N.2.2.2.2.2.1 q, J.N.2.2.2.2.2.2⟩, ⟨J.F.1, J.F.2.1, fun q hq => by
    have h9 : z_nL s ≤ q := hq
    refine ⟨?_, fun j hj => ⟨?_, ?_, ?_⟩⟩
    · show hv_up (z_sn s) l (z_sn s l + 1) q = 0
      rw [hv_un _ (by omega)]
      exact (J.F.2.2 q hq).1
    · show hv_up (z_sa s) (6 * l + z_sn s l) a (6 * q + j) = 0
      rw [hv_un _ (by omega)]
      exact ((J.F.2.2 q hq).2 j hj).1
    · show hv_up (z_sl s) (6 * l + z_sn s l) b (6 * q + j) = 0
      rw [hv_un _ (by omega)]
      exact ((J.F.2.2 q hq).2 j hj).2.1
    · show hv_up (z_sc s) (6 * l + z_sn s l) c (6 * q + j) = 0
      rw [hv_un _ (by omega)]
      exact ((J.F.2.2 q hq).2 j hj).2.2⟩, J.G, J.I, J.B, J.Q, J.M, J.C, J.P, J.W, J.S⟩, rfl, rfl, rfl, rfl, Nat.le_refl _, Nat.le_refl _, Nat.le_refl _, fun k _ => ⟨rfl, rfl, fun _ _ => rfl, rfl⟩⟩
theorem j_index (J : zJ s) {m : Nat} {a b : Int64} (hb : 0 < b) : zJ (zu_index s m a b) ∧ zQ s (zu_index s m a b) := ⟨⟨J.N, J.F, J.G, fun q => by
    show hv_up (z_hi s) m true q = decide (0 < hv_up (z_ib s) m b q)
    by_cases e : q = m
    · rw [e, hv_us, hv_us, decide_eq_true hb]
    · rw [hv_un _ e, hv_un _ e]; exact J.I q, J.B, J.Q, J.M, J.C, J.P, J.W, J.S⟩, rfl, rfl, rfl, rfl, Nat.le_refl _, Nat.le_refl _, Nat.le_refl _, fun k _ => ⟨rfl, rfl, fun _ _ => rfl, rfl⟩⟩
theorem j_disp (J : zJ s) {k : Nat} (hk : k < z_nD s) (h : z_nP s < 20) {r : Int32} (hr : ∃ q, 1 ≤ q ∧ q ≤ 6 ∧ r = nI q) : zJ (zu_disp s k r) ∧ zQ s (zu_disp s k r) := ⟨⟨⟨J.N.1, J.N.2.1, J.N.2.2.1, by show z_nP s + 1 ≤ 20; omega, J.N.2.2.2.2.1, J.N.2.2.2.2.2.1, fun p hp => by
    have h9 : p < z_nP s + 1 := hp
    show hv_up (z_db s) (z_nP s) k p < z_nD s
    by_cases e : p = z_nP s
    · rw [e, hv_us]; exact hk
    · rw [hv_un _ e]; exact J.N.2.2.2.2.2.2 p (by omega)⟩, J.F, J.G, J.I, J.B, fun p hp => by
    have h9 : p < z_nP s + 1 := hp
    show ∃ q, 1 ≤ q ∧ q ≤ 6 ∧ hv_up (z_dr s) (z_nP s) r p = nI q
    by_cases e : p = z_nP s
    · rw [e, hv_us]; exact hr
    · rw [hv_un _ e]; exact J.Q p (by omega), J.M, J.C, J.P, J.W, J.S⟩, rfl, rfl, rfl, rfl, Nat.le_refl _, Nat.le_refl _, Nat.le_refl _, fun k _ => ⟨rfl, rfl, fun _ _ => rfl, rfl⟩⟩
theorem j_go {s' : zS} {x : kX} (J : zJ s) (K : kJ s x) (h : zJ s' ∧ zQ s s') : zJ s' ∧ kJ s' x := ⟨h.1, kJ_tell J h.1 h.2 K⟩
theorem jt_lot {x : kX} (J : zJ s) (K : kJ s x) (g : Int64) : zJ (za_lot s g).2 ∧ kJ (za_lot s g).2 x := by
  unfold za_lot
  split
  · rename_i h
    exact j_go J K (j_lot J h.1)
  · exact ⟨J, K⟩
theorem jt_bdr {x : kX} (J : zJ s) (K : kJ s x) (b : Bool) : zJ (za_bdr s b).2 ∧ kJ (za_bdr s b).2 x := by
  unfold za_bdr
  split
  · rename_i h
    exact j_go J K (j_bdr J h b)
  · exact ⟨J, K⟩
theorem jt_time {x : kX} (J : zJ s) (K : kJ s x) (y : Int32) (v : Int64) : zJ (za_time s y v).2 ∧ kJ (za_time s y v).2 x := by
  unfold za_time
  rcases unop_case J.N y with hz | ⟨i, hi, -, hz, ho⟩
  · rw [hz]; exact ⟨J, K⟩
  · rw [hz]
    show zJ (if k_in v 0 1000000000 = true then (true, zu_time s i v) else (false, s)).2 ∧ kJ (if k_in v 0 1000000000 = true then (true, zu_time s i v) else (false, s)).2 x
    split
    · exact j_go J K (j_time J hi v)
    · exact ⟨J, K⟩
theorem jt_most {x : kX} (J : zJ s) (K : kJ s x) (y v : Int32) : zJ (za_most s y v).2 ∧ kJ (za_most s y v).2 x := by
  unfold za_most
  rcases unop_case J.N y with hz | ⟨i, hi, -, hz, ho⟩
  · rw [hz]; exact ⟨J, K⟩
  · rw [hz]
    show zJ (if k_in v.toInt64 0 8 = true then (true, zu_most s i v) else (false, s)).2 ∧ kJ (if k_in v.toInt64 0 8 = true then (true, zu_most s i v) else (false, s)).2 x
    split
    · rename_i h
      exact j_go J K (j_most J ho (in_m h))
    · exact ⟨J, K⟩
theorem jt_bid {x : kX} (J : zJ s) (K : kJ s x) (y : Int32) (v : Int64) : zJ (za_bid s y v).2 ∧ kJ (za_bid s y v).2 x := by
  unfold za_bid
  rcases unop_case J.N y with hz | ⟨i, hi, -, hz, ho⟩
  · rw [hz]; exact ⟨J, K⟩
  · rw [hz]
    show zJ (if z_nD s < 12 ∧ k_in v 0 100000000 = true then (nI (z_nD s), zu_bid s i v) else (-1, s)).2 ∧ kJ (if z_nD s < 12 ∧ k_in v 0 100000000 = true then (nI (z_nD s), zu_bid s i v) else (-1, s)).2 x
    split
    · rename_i h
      exact j_go J K (j_bid J hi h.1 (in_c h.2))
    · exact ⟨J, K⟩
theorem jt_on {x : kX} (J : zJ s) (K : kJ s x) (y w : Int32) : zJ (za_on s y w).2 ∧ kJ (za_on s y w).2 x := by
  unfold za_on
  rcases z_at_case y (n := z_nD s) (by have := J.N.2.2.1; omega) with ⟨hz, -⟩ | ⟨k, hk, -, hz⟩
  · rw [hz]; exact ⟨J, K⟩
  · rw [hz]
    rcases z_at_case w (n := z_nL s) (by have := J.N.1; omega) with ⟨hw, -⟩ | ⟨l, hl, -, hw⟩
    · rw [hw]; exact ⟨J, K⟩
    · rw [hw]
      show zJ (bif z_o s (z_ow s k) || z_h s (8 * k + l) then (false, s) else (true, zu_on s k l)).2 ∧ kJ (bif z_o s (z_ow s k) || z_h s (8 * k + l) then (false, s) else (true, zu_on s k l)).2 x
      cases ho : z_o s (z_ow s k) with
      | true => exact ⟨J, K⟩
      | false =>
        cases z_h s (8 * k + l) with
        | true => exact ⟨J, K⟩
        | false => exact j_go J K (j_on J hk hl ho)
theorem jt_seal {x : kX} (J : zJ s) (K : kJ s x) (y w b : Int32) : zJ (za_seal s y w b).2 ∧ kJ (za_seal s y w b).2 x := by
  unfold za_seal
  rcases unop_case J.N y with hz | ⟨i, hi, -, hz, ho⟩
  · rw [hz]; exact ⟨J, K⟩
  · rw [hz]
    rcases z_at_case w (n := 8) (by decide) with ⟨hw, -⟩ | ⟨j, hj, -, hw⟩
    · rw [hw]; exact ⟨J, K⟩
    · rw [hw]
      show zJ (if k_in b.toInt64 0 255 = true ∧ z_sd s (8 * i + j) = false then (nI (z_told (zu_seal s i j b) i), zu_seal s i j b) else (-1, s)).2 ∧ kJ (if k_in b.toInt64 0 255 = true ∧ z_sd s (8 * i + j) = false then (nI (z_told (zu_seal s i j b) i), zu_seal s i j b) else (-1, s)).2 x
      split
      · rename_i h
        exact j_go J K (j_seal J hi hj (in_b h.1))
      · exact ⟨J, K⟩
theorem jt_open {x : kX} (J : zJ s) (K : kJ s x) (y : Int32) (v : Int64) : zJ (za_open s y v).2 ∧ kJ (za_open s y v).2 x := by
  unfold za_open
  rcases unop_case J.N y with hz | ⟨i, hi, -, hz, ho⟩
  · rw [hz]; exact ⟨J, K⟩
  · rw [hz]
    by_cases h : z_told s i = 8 ∧ ∀ j, j < 8 → z_sb s (8 * i + j) = zd_by s i v j
    · simp only [if_pos h]
      exact j_go J K (j_open J hi)
    · simp only [if_neg h]
      exact ⟨J, K⟩
theorem jt_step {x : kX} (J : zJ s) (K : kJ s x) (y : Int32) (a b c : Int64) : zJ (za_step s y a b c).2 ∧ kJ (za_step s y a b c).2 x := by
  unfold za_step
  rcases z_at_case y (n := z_nL s) (by have := J.N.1; omega) with ⟨hz, -⟩ | ⟨l, hl, -, hz⟩
  · rw [hz]; exact ⟨J, K⟩
  · rw [hz]
    by_cases h : k_share a b = true ∧ k_in c (-1000000) 1000000 = true ∧ z_sn s l < 6 ∧ (z_sn s l = 0 ∨ z_sa s (6 * l + z_sn s l - 1) * b < a * z_sl s (6 * l + z_sn s l - 1))
    · simp only [if_pos h]
      exact j_go J K (j_step J hl h.2.2.1 a b c)
    · simp only [if_neg h]
      exact ⟨J, K⟩
theorem jt_index {x : kX} (J : zJ s) (K : kJ s x) (y : Int32) (a b : Int64) : zJ (za_index s y a b).2 ∧ kJ (za_index s y a b).2 x := by
  unfold za_index
  rcases z_at_case y (n := 60) (by decide) with ⟨hz, -⟩ | ⟨m, hm, -, hz⟩
  · rw [hz]; exact ⟨J, K⟩
  · rw [hz]
    by_cases h : z_hi s m = false ∧ k_in a 1 1000 = true ∧ k_in b 1 1000 = true
    · simp only [if_pos h]
      exact j_go J K (j_index J (in_p h.2.2))
    · simp only [if_neg h]
      exact ⟨J, K⟩
theorem jt_disp {x : kX} (J : zJ s) (K : kJ s x) (y r : Int32) : zJ (za_disp s y r).2 ∧ kJ (za_disp s y r).2 x := by
  unfold za_disp
  rcases z_at_case y (n := z_nD s) (by have := J.N.2.2.1; omega) with ⟨hz, -⟩ | ⟨k, hk, -, hz⟩
  · rw [hz]; exact ⟨J, K⟩
  · rw [hz]
    by_cases h : z_nP s < 20 ∧ k_in r.toInt64 1 6 = true
    · simp only [if_pos h]
      exact j_go J K (j_disp J hk h.1 (in_r h.2))
    · simp only [if_neg h]
      exact ⟨J, K⟩
theorem jt_run {x : kX} (J : zJ s) (I : kI (zr_go s 0) (zV (zr_go s 0)) x) (O : ∀ p j, x.2.1 p = some j → j < z_nD s) : zJ (zr_go s (2 ^ z_nD s)) ∧ kJ (zr_go s (2 ^ z_nD s)) x := by
  obtain ⟨v, w, e, h1, h2, ⟨u, h3⟩, h4, h5, -⟩ := run_found J.N (fun b _ => J.M b) (fun k hk => (J.W k hk).1) I
  rw [e] at h5 ⊢
  refine ⟨⟨J.N, J.F, J.G, J.I, J.B, J.Q, J.M, J.C, fun k hk => ?_, fun k hk => ⟨h1 k hk, rfl⟩, ?_⟩, O, h4, h2, fun _ => h5, fun h => by cases h⟩
  · have hk : (if k < 12 then decide (k < z_nD s) && z_play s k else z_pl s k) = true := hk
    split at hk
    · rw [Bool.and_eq_true, decide_eq_true_eq] at hk
      refine ⟨hk.1, ?_⟩
      have h9 := hk.2
      unfold z_play at h9
      rw [Bool.and_eq_true, Bool.and_eq_true] at h9
      exact h9.1.2
    · exact J.P k hk
  · show 0 ≤ v
    rw [← h3]
    exact J.B0 u
end TELL
theorem k_bt0 : ∀ k, k < 12 → k_bt 0 (nI k) = false := by decide +kernel
theorem j_0 : zJ z_0 ∧ kJ z_0 kx_0 := by
  refine ⟨⟨⟨by decide, by decide, by decide, by decide, fun k hk => absurd hk (Nat.not_lt_zero k), fun l => Nat.zero_le _, fun p hp => absurd hp (Nat.not_lt_zero p)⟩, ⟨fun i _ => ⟨rfl, rfl, fun _ _ => rfl⟩, fun _ _ _ _ => rfl, fun _ _ => ⟨rfl, fun _ _ => ⟨rfl, rfl, rfl⟩⟩⟩, fun _ _ _ _ => rfl, fun _ => (show false = decide ((0 : Int64) < 0) by decide), fun _ => ⟨0, by decide, rfl⟩, fun p hp => absurd hp (Nat.not_lt_zero p), fun _ => Int32.le_refl _, fun _ => (show 0 ≤ (0 : Int64).toInt ∧ (0 : Int64).toInt ≤ 100000000 by decide), fun k hk => (by cases hk), fun k hk => (by cases hk), Int64.le_refl _⟩, fun p j h => (by cases h), fun k hk => k_bt0 k hk, rfl, fun h => (by cases h), fun _ k hk => k_bt0 k hk⟩
theorem kJ_T3 {s : zS} {x : kX} (J : zJ s) (K : kJ s x) : ∀ k, k < z_nD s → (k_bt x.2.2.2.2.2 (nI k) && !k_bt x.2.2.2.2.1 (nI k)) = (z_fd s && zk_td s k) := fun k hk => by
  have h12 : k < 12 := by have := J.N.2.2.1; omega
  rw [K.2.1 k h12]
  cases hf : z_fd s with
  | false => rw [K.2.2.2.2 hf k h12]; rfl
  | true =>
    have h1 := (K.2.2.2.1 hf).2 k h12
    have h2 := ti_iff (s := s) (k := k)
    unfold zk_td
    cases hw : z_w s k with
    | true => simp
    | false =>
      cases hb : k_bt x.2.2.2.2.2 (nI k) with
      | true =>
        have h3 := h1.mp hb
        obtain ⟨u, hu, -, hk2⟩ := id h3
        rw [h2.mpr h3, (hu.2 k hk2).2]
        rfl
      | false =>
        have h3 : zk_ti s k (2 ^ z_nD s) = false := by
          cases ht : zk_ti s k (2 ^ z_nD s) with
          | false => rfl
          | true => rw [h1.mpr (h2.mp ht)] at hb; cases hb
        rw [h3]
        simp
theorem kJ_R {s : zS} {x : kX} (J : zJ s) (K : kJ s x) : ∀ k, k < 12 → z_w s k = true → x.2.2.1 k = zs_gr s k (2 ^ z_nD s) := fun k hk hw => gr_eq J.B0 ((K.2.2.2.1 (J.W k hw).2).1 k hk)
