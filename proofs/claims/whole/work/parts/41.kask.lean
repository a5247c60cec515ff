theorem zm_min {s : zS} (i : Nat) {j : Nat} (h : z_hi s j = true) : (if (1000000000000 : Int64) < zm_v s i j * z_ia s j / z_ib s j then 1000000000000 else zm_v s i j * z_ia s j / z_ib s j) = zm_v s i (j + 1) := by
  have e : zm_v s i (j + 1) = if zm_1 s j (zm_v s i j) ≤ 1000000000000 then zm_1 s j (zm_v s i j) else 1000000000000 := by simp [zm_v, h]
  rw [e]
  show (if (1000000000000 : Int64) < zm_1 s j (zm_v s i j) then 1000000000000 else zm_1 s j (zm_v s i j)) = _
  by_cases h2 : (1000000000000 : Int64) < zm_1 s j (zm_v s i j)
  · rw [if_pos h2, if_neg (Int64.not_le.mpr h2)]
  · rw [if_neg h2, if_pos (Int64.not_lt.mp h2)]
theorem zb_max {s : zS} {e j : Nat} (h1 : z_play s j = true) (h2 : z_h s (8 * j + e) = true) : (if z_c s j < zb_gr s e j then zb_gr s e j else z_c s j) = zb_gr s e (j + 1) := by
  have e1 : zb_gr s e (j + 1) = if zb_gr s e j < z_c s j then z_c s j else zb_gr s e j := by simp [zb_gr, h1, h2]
  rw [e1]
  by_cases h : zb_gr s e j < z_c s j
  · rw [if_pos h]
    by_cases h3 : z_c s j < zb_gr s e j
    · exact absurd h3 (Int64.lt_asymm h)
    · rw [if_neg h3]
  · rw [if_neg h]
    by_cases h3 : z_c s j < zb_gr s e j
    · rw [if_pos h3]
    · rw [if_neg h3]
      exact Int64.le_antisymm (Int64.not_lt.mp h) (Int64.not_lt.mp h3)
theorem win_case {s : zS} (N : zN s) (y : Int32) : z_win s y = none ∨ ∃ i, i < z_nD s ∧ y = nI i ∧ z_win s y = some i ∧ z_w s i = true := by
  unfold z_win
  rcases z_at_case y (n := z_nD s) (by have := N.2.2.1; omega) with ⟨hz, -⟩ | ⟨i, hi, rfl, hz⟩
  · rw [hz]; exact Or.inl rfl
  · rw [hz]
    cases ho : z_w s i with
    | false => exact Or.inl (by simp [ho])
    | true => exact Or.inr ⟨i, hi, rfl, by simp [ho], ho⟩
theorem win_none {s : zS} {y : Int32} (h : z_win s y = none) : z_at y (z_nD s) = none ∨ ∃ k, z_at y (z_nD s) = some k ∧ z_w s k = false := by
  unfold z_win at h
  split at h
  · rename_i k hk
    cases hw : z_w s k with
    | false => exact Or.inr ⟨k, hk, hw⟩
    | true => rw [hw] at h; cases h
  · exact Or.inl (by assumption)
theorem win_some {s : zS} {y : Int32} {i : Nat} (h : z_win s y = some i) : z_at y (z_nD s) = some i := by
  unfold z_win at h
  split at h
  · rename_i k hk
    cases hw : z_w s k with
    | false => rw [hw] at h; cases h
    | true => rw [hw] at h; cases h; exact hk
  · cases h
set_option maxHeartbeats 4000000 in
set_option maxRecDepth 100000 in
theorem k_BT_wins (Y : hY) (l : Launch) {ad : Nat → Nat → Nat} {s : zS} {x : kX} {t : Bool} {f : hw_F} (P : kPic Y ad s x t f) (N : zN s) (W : kW s x) (y : Int32) : hM Y l y_BT_wins S_BT_wins (some .boolean) [.ref (ad 0 0), .int y] f (fun r f' => r = some (.int (bI (za_wins s y))) ∧ f' = f) := by
  refine hM.of (by decide) rfl (Nat.le_of_ble_eq_true rfl) ?_
  intro X hl hnm C E
  show hG Y X S_BT_wins 0 0 f [(0, .ref (ad 0 0)), (1, .int y)] [] 0
  refine r_aload_n C d_BT_wins_0 rfl rfl ?_
  refine r_iload_n C d_BT_wins_1 rfl rfl ?_
  refine r_callV C (k_BT_winnerAt Y _ P N W _) mQ_BT_winnerAt d_BT_wins_2 ml_BT_170 mi_BT_winnerAt mv_BT_winnerAt (kp_0 P) rfl rfl rfl rfl (Nat.le_of_ble_eq_true rfl) ⟨⟨Nat.le_of_ble_eq_true rfl, Nat.le_of_ble_eq_true rfl⟩, Nat.le_of_ble_eq_true rfl, Nat.le_of_ble_eq_true rfl⟩ (fun v f' hp => ?_)
  obtain ⟨rfl, hf⟩ := hp
  replace hf := hf.symm
  subst hf
  rcases win_case N y with hz | ⟨i, hi, rfl, hz, hw⟩
  · rw [hz]
    refine r_ifnullN (tgt := 12) C d_BT_wins_5 rfl ?_
    refine r_iconst (v := 0) C d_BT_wins_12 rfl ?_
    refine r_zret C E rfl d_BT_wins_13 (rfl) (Nat.le_of_ble_eq_true rfl) (Nat.le_of_ble_eq_true rfl) ?_
    refine ⟨?_, rfl⟩
    rw [show za_wins s y = false by
      rcases win_none hz with h | ⟨k, h, h2⟩
      · simp [za_wins, h]
      · simp [za_wins, h, h2]]
    rfl
  · rw [hz]
    refine r_ifnull C d_BT_wins_5 ?_
    refine r_iconst (v := 1) C d_BT_wins_8 rfl ?_
    refine r_goto (tgt := 13) C d_BT_wins_9 rfl ?_
    refine r_zret C E rfl d_BT_wins_13 (rfl) (Nat.le_of_ble_eq_true rfl) (Nat.le_of_ble_eq_true rfl) ?_
    exact ⟨by rw [show za_wins s (nI i) = true by simp [za_wins, win_some hz, hw]]; rfl, rfl⟩

set_option maxHeartbeats 4000000 in
set_option maxRecDepth 100000 in
theorem k_BT_sum (Y : hY) (l : Launch) {ad : Nat → Nat → Nat} {s : zS} {x : kX} {t : Bool} {f : hw_F} (P : kPic Y ad s x t f) (U : x.2.2.2.1 = za_sum s) : hM Y l y_BT_sum S_BT_sum (some .long) [.ref (ad 0 0)] f (fun r f' => r = some (.long (za_sum s)) ∧ f' = f) := by
  refine hM.of (by decide) rfl (Nat.le_of_ble_eq_true rfl) ?_
  intro X hl hnm C E
  show hG Y X S_BT_sum 0 0 f [(0, .ref (ad 0 0))] [] 0
  refine r_aload_n C d_BT_sum_0 rfl rfl ?_
  refine r_get C hq_BT d_BT_sum_1 (j := 6) (Nat.le_of_ble_eq_true rfl) mf_BT_43 (kp_0 P) rfl ?_
  refine r_getN C hq_Sea d_BT_sum_4 (j := 3) (Nat.le_of_ble_eq_true rfl) mf_BT_173 (kp_7 P) rfl ?_
  refine r_lret C E rfl d_BT_sum_7 (Nat.le_of_ble_eq_true rfl) (Nat.le_of_ble_eq_true rfl) ?_
  exact ⟨by rw [U], rfl⟩

set_option maxHeartbeats 4000000 in
set_option maxRecDepth 100000 in
theorem k_BT_proved (Y : hY) (l : Launch) {ad : Nat → Nat → Nat} {s : zS} {x : kX} {t : Bool} {f : hw_F} (P : kPic Y ad s x t f) (U : x.2.2.2.1 = za_sum s) (T : kT s t) (G : 0 ≤ z_fs s) : hM Y l y_BT_proved S_BT_proved (some .boolean) [.ref (ad 0 0)] f (fun r f' => r = some (.int (bI (z_pv s))) ∧ f' = f) := by
  refine hM.of (by decide) rfl (Nat.le_of_ble_eq_true rfl) ?_
  intro X hl hnm C E
  show hG Y X S_BT_proved 0 0 f [(0, .ref (ad 0 0))] [] 0
  refine r_aload_n C d_BT_proved_0 rfl rfl ?_
  refine r_get C hq_BT d_BT_proved_1 (j := 6) (Nat.le_of_ble_eq_true rfl) mf_BT_43 (kp_0 P) rfl ?_
  refine r_getN C hq_Sea d_BT_proved_4 (j := 3) (Nat.le_of_ble_eq_true rfl) mf_BT_173 (kp_7 P) rfl ?_
  refine r_ldc2 C d_BT_proved_7 mn_BT_180 ?_
  refine r_lcmp C d_BT_proved_10 ?_
  refine r_if_eq (tgt := 25) C d_BT_proved_11 rfl (fun c_11 => ?_) (fun c_11 => ?_)
  · skip
    rw [lg_cmp_eq, U] at c_11
    have hfd : z_fd s = false := by
      cases h : z_fd s with
      | false => rfl
      | true =>
        unfold za_sum at c_11
        rw [h] at c_11
        have c12 : z_fs s = -1 := c_11
        rw [c12] at G
        exact absurd G (by decide)
    refine r_iconst (v := 0) C d_BT_proved_25 rfl ?_
    refine r_zret C E rfl d_BT_proved_26 (rfl) (Nat.le_of_ble_eq_true rfl) (Nat.le_of_ble_eq_true rfl) ?_
    refine ⟨?_, rfl⟩
    unfold kT at T
    first | (rw [T, hfd]; rfl) | (rw [T, hfd, c_18]; rfl)
  · skip
    rw [lg_cmp_eq, U] at c_11
    have hfd : z_fd s = true := by
      cases h : z_fd s with
      | true => rfl
      | false => exact absurd (by unfold za_sum; rw [h]; rfl) c_11
    refine r_aload_n C d_BT_proved_14 rfl rfl ?_
    refine r_get C hq_BT d_BT_proved_15 (j := 11) (Nat.le_of_ble_eq_true rfl) mf_BT_58 (kp_0 P) rfl ?_
    refine r_if_ne (tgt := 25) C d_BT_proved_18 rfl (fun c_18 => ?_) (fun c_18 => ?_)
    · skip
      rw [bI_n0] at c_18
      refine r_iconst (v := 0) C d_BT_proved_25 rfl ?_
      refine r_zret C E rfl d_BT_proved_26 (rfl) (Nat.le_of_ble_eq_true rfl) (Nat.le_of_ble_eq_true rfl) ?_
      refine ⟨?_, rfl⟩
      unfold kT at T
      first | (rw [T, hfd]; rfl) | (rw [T, hfd, c_18]; rfl)
    · skip
      rw [bI_0] at c_18
      refine r_iconst (v := 1) C d_BT_proved_21 rfl ?_
      refine r_goto (tgt := 26) C d_BT_proved_22 rfl ?_
      refine r_zret C E rfl d_BT_proved_26 (rfl) (Nat.le_of_ble_eq_true rfl) (Nat.le_of_ble_eq_true rfl) ?_
      refine ⟨?_, rfl⟩
      unfold kT at T
      first | (rw [T, hfd]; rfl) | (rw [T, hfd, c_18]; rfl)

set_option maxHeartbeats 4000000 in
set_option maxRecDepth 100000 in
theorem k_BT_index (Y : hY) (l : Launch) {ad : Nat → Nat → Nat} {s : zS} {x : kX} {t : Bool} {f : hw_F} (P : kPic Y ad s x t f) (N : zN s) (T : kT s t) (I : ∀ m, z_hi s m = decide (0 < z_ib s m)) (y : Int32) (a b : Int64) : hM Y l y_BT_index S_BT_index (some .boolean) [.ref (ad 0 0), .int y, .long a, .long b] f (fun r f' => r = some (.int (bI (za_index s y a b).1)) ∧ kOut Y (ad 0 0) (za_index s y a b).2 x f') := by
  refine hM.of (by decide) rfl (Nat.le_of_ble_eq_true rfl) ?_
  intro X hl hnm C E
  show hG Y X S_BT_index 0 0 f [(0, .ref (ad 0 0)), (1, .int y), (2, .long a), (4, .long b)] [] 0
  refine r_iload_n C d_BT_index_0 rfl rfl ?_
  refine r_callS C (k_BT_isMonth Y _ _ _) mQ_BT_isMonth d_BT_index_1 ml_BT_215 mt_BT_isMonth rfl rfl (Nat.le_of_ble_eq_true rfl) ⟨⟨Nat.le_of_ble_eq_true rfl, Nat.le_of_ble_eq_true rfl⟩, Nat.le_of_ble_eq_true rfl, Nat.le_of_ble_eq_true rfl⟩ (fun v f' hp => ?_)
  obtain ⟨rfl, hf⟩ := hp
  replace hf := hf.symm
  subst hf
  refine r_if_eq (tgt := 38) C d_BT_index_4 rfl (fun c_4 => ?_) (fun c_4 => ?_)
  · skip
    rw [bI_0, month_ix] at c_4
    have hz : z_at y 60 = none := by cases h : z_at y 60 with
      | none => rfl
      | some j => rw [h] at c_4; cases c_4
    have hq : za_index s y a b = (false, s) := by simp [za_index, hz]
    refine r_iconst (v := 0) C d_BT_index_38 rfl ?_
    refine r_zret C E rfl d_BT_index_39 (rfl) (Nat.le_of_ble_eq_true rfl) (Nat.le_of_ble_eq_true rfl) ?_
    rw [hq]
    exact ⟨rfl, ad, t, rfl, P, T⟩
  · skip
    rw [bI_n0, month_ix] at c_4
    obtain ⟨i, hz⟩ : ∃ j, z_at y 60 = some j := Option.isSome_iff_exists.mp c_4
    obtain ⟨hi, rfl⟩ := z_at_some (by decide) hz
    refine r_aload_n C d_BT_index_7 rfl rfl ?_
    refine r_iload_n C d_BT_index_8 rfl rfl ?_
    refine r_callV C (k_BT_hasIndex Y _ P hi) mQ_BT_hasIndex d_BT_index_9 ml_BT_218 mi_BT_hasIndex mv_BT_hasIndex (kp_0 P) rfl rfl rfl rfl (Nat.le_of_ble_eq_true rfl) ⟨⟨Nat.le_of_ble_eq_true rfl, Nat.le_of_ble_eq_true rfl⟩, Nat.le_of_ble_eq_true rfl, Nat.le_of_ble_eq_true rfl⟩ (fun v f' hp => ?_)
    obtain ⟨rfl, hf⟩ := hp
    replace hf := hf.symm
    subst hf
    refine r_if_ne (tgt := 38) C d_BT_index_12 rfl (fun c_12 => ?_) (fun c_12 => ?_)
    · skip
      rw [bI_n0, ← I] at c_12
      have hq : za_index s (nI i) a b = (false, s) := by
        simp only [za_index, hz]
        exact if_neg (fun h => by rw [c_12] at h; cases h.1)
      refine r_iconst (v := 0) C d_BT_index_38 rfl ?_
      refine r_zret C E rfl d_BT_index_39 (rfl) (Nat.le_of_ble_eq_true rfl) (Nat.le_of_ble_eq_true rfl) ?_
      rw [hq]
      exact ⟨rfl, ad, t, rfl, P, T⟩
    · skip
      rw [bI_0, ← I] at c_12
      refine r_lload_n C d_BT_index_15 rfl rfl ?_
      refine r_lconst (v := 1) C d_BT_index_16 rfl ?_
      refine r_ldc2 C d_BT_index_17 mn_BT_221 ?_
      refine r_callS C (k_BT_within Y _ _ _ _ _) mQ_BT_within d_BT_index_20 ml_BT_53 mt_BT_within rfl rfl (Nat.le_of_ble_eq_true rfl) ⟨⟨Nat.le_of_ble_eq_true rfl, Nat.le_of_ble_eq_true rfl⟩, Nat.le_of_ble_eq_true rfl, Nat.le_of_ble_eq_true rfl⟩ (fun v f' hp => ?_)
      obtain ⟨rfl, hf⟩ := hp
      replace hf := hf.symm
      subst hf
      refine r_if_eq (tgt := 38) C d_BT_index_23 rfl (fun c_23 => ?_) (fun c_23 => ?_)
      · skip
        rw [bI_0] at c_23
        have hq : za_index s (nI i) a b = (false, s) := by
          simp only [za_index, hz]
          exact if_neg (fun h => by rw [c_23] at h; cases h.2.1)
        refine r_iconst (v := 0) C d_BT_index_38 rfl ?_
        refine r_zret C E rfl d_BT_index_39 (rfl) (Nat.le_of_ble_eq_true rfl) (Nat.le_of_ble_eq_true rfl) ?_
        rw [hq]
        exact ⟨rfl, ad, t, rfl, P, T⟩
      · skip
        rw [bI_n0] at c_23
        refine r_lload C d_BT_index_26 rfl ?_
        refine r_lconst (v := 1) C d_BT_index_28 rfl ?_
        refine r_ldc2 C d_BT_index_29 mn_BT_221 ?_
        refine r_callS C (k_BT_within Y _ _ _ _ _) mQ_BT_within d_BT_index_32 ml_BT_53 mt_BT_within rfl rfl (Nat.le_of_ble_eq_true rfl) ⟨⟨Nat.le_of_ble_eq_true rfl, Nat.le_of_ble_eq_true rfl⟩, Nat.le_of_ble_eq_true rfl, Nat.le_of_ble_eq_true rfl⟩ (fun v f' hp => ?_)
        obtain ⟨rfl, hf⟩ := hp
        replace hf := hf.symm
        subst hf
        refine r_if_ne (tgt := 40) C d_BT_index_35 rfl (fun c_35 => ?_) (fun c_35 => ?_)
        · skip
          rw [bI_n0] at c_35
          have hq : za_index s (nI i) a b = (true, zu_index s i a b) := by
            simp only [za_index, hz]
            exact if_pos ⟨c_12, c_23, c_35⟩
          refine r_aload_n C d_BT_index_40 rfl rfl ?_
          refine r_get C hq_BT d_BT_index_41 (j := 4) (Nat.le_of_ble_eq_true rfl) mf_BT_33 (kp_0 P) rfl ?_
          refine r_iload_n C d_BT_index_44 rfl rfl ?_
          refine r_lload_n C d_BT_index_45 rfl rfl ?_
          refine r_last (t0 := 0) C d_BT_index_46 (kp_5 P) rfl (rfl) (hi) (by decide) ?_
          refine r_aload_n C d_BT_index_47 rfl rfl ?_
          refine r_get C hq_BT d_BT_index_48 (j := 5) (Nat.le_of_ble_eq_true rfl) mf_BT_37 ((hw_un _ (kNe P (Or.inl ⟨by decide, rfl⟩) (Or.inl ⟨by decide, rfl⟩) (by decide))).trans (kp_0 P)) rfl ?_
          refine r_iload_n C d_BT_index_51 rfl rfl ?_
          refine r_lload C d_BT_index_52 rfl ?_
          refine r_last (t0 := 0) C d_BT_index_54 ((hw_un _ (kNe P (Or.inl ⟨by decide, rfl⟩) (Or.inl ⟨by decide, rfl⟩) (by decide))).trans (kp_6 P)) rfl (rfl) (hi) (by decide) ?_
          refine r_aload_n C d_BT_index_55 rfl rfl ?_
          refine r_iconst (v := 1) C d_BT_index_56 rfl ?_
          refine r_put C hq_BT d_BT_index_57 (j := 11) (fs' := [_, _, _, _, _, _, _, _, _, _, _, _]) (Nat.le_of_ble_eq_true rfl) mf_BT_58 rfl rfl rfl rfl ((hw_un _ (kNe P (Or.inl ⟨by decide, rfl⟩) (Or.inl ⟨by decide, rfl⟩) (by decide))).trans ((hw_un _ (kNe P (Or.inl ⟨by decide, rfl⟩) (Or.inl ⟨by decide, rfl⟩) (by decide))).trans (kp_0 P))) (Nat.le_of_ble_eq_true rfl) rfl ?_
          refine r_iconst (v := 1) C d_BT_index_60 rfl ?_
          refine r_zret C E rfl d_BT_index_61 (rfl) (Nat.le_of_ble_eq_true rfl) (Nat.le_of_ble_eq_true rfl) ?_
          rw [hq]
          exact ⟨rfl, ad, true, rfl, kEnd2 (kPut (kPut (kPut P (Or.inl ⟨by decide, rfl⟩) _) (Or.inl ⟨by decide, rfl⟩) _) (Or.inl ⟨by decide, rfl⟩) _) (fun _ _ h => h) (kV_cases rfl rfl rfl rfl rfl rfl rfl rfl rfl rfl (fun _ _ => rfl) (fun _ _ => rfl) (fun _ _ => rfl) (fun _ _ => rfl) (fun _ _ => rfl) (fun _ _ => rfl) (fun _ _ => rfl)), kT_t _ rfl⟩
        · skip
          rw [bI_0] at c_35
          have hq : za_index s (nI i) a b = (false, s) := by
            simp only [za_index, hz]
            exact if_neg (fun h => by rw [c_35] at h; cases h.2.2)
          refine r_iconst (v := 0) C d_BT_index_38 rfl ?_
          refine r_zret C E rfl d_BT_index_39 (rfl) (Nat.le_of_ble_eq_true rfl) (Nat.le_of_ble_eq_true rfl) ?_
          rw [hq]
          exact ⟨rfl, ad, t, rfl, P, T⟩

set_option maxHeartbeats 4000000 in
set_option maxRecDepth 100000 in
theorem k_BT_monthly (Y : hY) (l : Launch) {ad : Nat → Nat → Nat} {s : zS} {x : kX} {t : Bool} {f : hw_F} (P : kPic Y ad s x t f) (N : zN s) (W : kW s x) (I : ∀ m, z_hi s m = decide (0 < z_ib s m)) (y w : Int32) : hM Y l y_BT_monthly S_BT_monthly (some .long) [.ref (ad 0 0), .int y, .int w] f (fun r f' => r = some (.long (za_month s y w)) ∧ f' = f) := by
  refine hM.of (by decide) rfl (Nat.le_of_ble_eq_true rfl) ?_
  intro X hl hnm C E
  show hG Y X S_BT_monthly 0 0 f [(0, .ref (ad 0 0)), (1, .int y), (2, .int w)] [] 0
  refine r_aload_n C d_BT_monthly_0 rfl rfl ?_
  refine r_iload_n C d_BT_monthly_1 rfl rfl ?_
  refine r_callV C (k_BT_winnerAt Y _ P N W _) mQ_BT_winnerAt d_BT_monthly_2 ml_BT_170 mi_BT_winnerAt mv_BT_winnerAt (kp_0 P) rfl rfl rfl rfl (Nat.le_of_ble_eq_true rfl) ⟨⟨Nat.le_of_ble_eq_true rfl, Nat.le_of_ble_eq_true rfl⟩, Nat.le_of_ble_eq_true rfl, Nat.le_of_ble_eq_true rfl⟩ (fun v f' hp => ?_)
  obtain ⟨rfl, hf⟩ := hp
  replace hf := hf.symm
  subst hf
  rcases win_case N y with hz | ⟨i, hi, rfl, hz, hw⟩
  · rw [hz]
    refine r_astore_nN (lv' := [(3, _), (0, _), (1, _), (2, _)]) C d_BT_monthly_5 rfl (Nat.le_of_ble_eq_true rfl) rfl ?_
    refine r_aload_nN C d_BT_monthly_6 rfl rfl ?_
    refine r_ifnullN (tgt := 17) C d_BT_monthly_7 rfl ?_
    refine r_ldc2 C d_BT_monthly_17 mn_BT_180 ?_
    refine r_lret C E rfl d_BT_monthly_20 (Nat.le_of_ble_eq_true rfl) (Nat.le_of_ble_eq_true rfl) ?_
    refine ⟨?_, rfl⟩
    rw [show za_month s y w = -1 by
      rcases win_none hz with h | ⟨k, h, h2⟩
      · simp [za_month, h]
      · unfold za_month
        rw [h]
        split
        · rename_i h3 h4
          cases h3
          simp [h2]
        · rfl]
  · rw [hz]
    refine r_astore_n (lv' := [(3, _), (0, _), (1, _), (2, _)]) C d_BT_monthly_5 rfl (Nat.le_of_ble_eq_true rfl) rfl ?_
    refine r_aload_n C d_BT_monthly_6 rfl rfl ?_
    refine r_ifnull C d_BT_monthly_7 ?_
    refine r_iload_n C d_BT_monthly_10 rfl rfl ?_
    refine r_callS C (k_BT_isMonth Y _ _ _) mQ_BT_isMonth d_BT_monthly_11 ml_BT_215 mt_BT_isMonth rfl rfl (Nat.le_of_ble_eq_true rfl) ⟨⟨Nat.le_of_ble_eq_true rfl, Nat.le_of_ble_eq_true rfl⟩, Nat.le_of_ble_eq_true rfl, Nat.le_of_ble_eq_true rfl⟩ (fun v f' hp => ?_)
    obtain ⟨rfl, hf⟩ := hp
    replace hf := hf.symm
    subst hf
    refine r_if_ne (tgt := 21) C d_BT_monthly_14 rfl (fun c_14 => ?_) (fun c_14 => ?_)
    · skip
      rw [bI_n0, month_ix] at c_14
      obtain ⟨e, hz2⟩ : ∃ j, z_at w 60 = some j := Option.isSome_iff_exists.mp c_14
      obtain ⟨he, rfl⟩ := z_at_some (by decide) hz2
      have hq : za_month s (nI i) (nI e) = zm_v s i (e + 1) := by simp [za_month, win_some hz, hz2, hw]
      have L : ∀ d j, j + d = e + 1 → hG Y X S_BT_monthly 0 0 f [(6, .int (nI (j))), (4, .long (zm_v s i (j))), (3, .ref (ad 15 i)), (0, .ref (ad 0 0)), (1, .int (nI i)), (2, .int (nI e))] [] 30 := by
        intro d
        induction d with
        | zero =>
          intro j hj
          obtain rfl : j = e + 1 := by omega
          refine r_iload C d_BT_monthly_30 rfl ?_
          refine r_iload_n C d_BT_monthly_32 rfl rfl ?_
          refine r_icmp_gt (tgt := 77) C d_BT_monthly_33 rfl (fun _ => ?_) (fun hz => absurd (nI_lt (a := e) (b := e + 1) (by omega) (by omega)) hz)
          refine r_lload C d_BT_monthly_77 rfl ?_
          refine r_lret C E rfl d_BT_monthly_79 (Nat.le_of_ble_eq_true rfl) (Nat.le_of_ble_eq_true rfl) ?_
          exact ⟨by rw [hq], rfl⟩
        | succ d ih =>
          intro j hj
          have hj60 : j < 60 := by omega
          refine r_iload C d_BT_monthly_30 rfl ?_
          refine r_iload_n C d_BT_monthly_32 rfl rfl ?_
          refine r_icmp_gt (tgt := 77) C d_BT_monthly_33 rfl (fun hz => absurd hz (nI_nlt (a := e) (b := j) (by omega) (by omega))) (fun _ => ?_)
          refine r_aload_n C d_BT_monthly_36 rfl rfl ?_
          refine r_iload C d_BT_monthly_37 rfl ?_
          refine r_callV C (k_BT_hasIndex Y _ P hj60) mQ_BT_hasIndex d_BT_monthly_39 ml_BT_218 mi_BT_hasIndex mv_BT_hasIndex (kp_0 P) rfl rfl rfl rfl (Nat.le_of_ble_eq_true rfl) ⟨⟨Nat.le_of_ble_eq_true rfl, Nat.le_of_ble_eq_true rfl⟩, Nat.le_of_ble_eq_true rfl, Nat.le_of_ble_eq_true rfl⟩ (fun v f' hp => ?_)
          obtain ⟨rfl, hf⟩ := hp
          replace hf := hf.symm
          subst hf
          refine r_if_eq (tgt := 71) C d_BT_monthly_42 rfl (fun c_42 => ?_) (fun c_42 => ?_)
          · skip
            rw [bI_0, ← I] at c_42
            rw [show zm_v s i j = zm_v s i (j + 1) by simp [zm_v, c_42]]
            refine r_iinc (v := nI (j + 1)) (lv' := [(6, _), (4, _), (3, _), (0, _), (1, _), (2, _)]) C d_BT_monthly_71 rfl (nI_1 j) (Nat.le_of_ble_eq_true rfl) rfl ?_
            refine r_goto (tgt := 30) C d_BT_monthly_74 rfl ?_
            refine r_sub [0, 1, 2, 3, 4, 5] rfl ?_
            exact ih (j + 1) (by omega)
          · skip
            rw [bI_n0] at c_42
            have c43 := c_42
            rw [← I] at c_42
            have c44 : ¬ z_ib s j = 0 := fun h => by rw [h] at c43; exact absurd c43 (by decide)
            refine r_lload C d_BT_monthly_45 rfl ?_
            refine r_aload_n C d_BT_monthly_47 rfl rfl ?_
            refine r_get C hq_BT d_BT_monthly_48 (j := 4) (Nat.le_of_ble_eq_true rfl) mf_BT_33 (kp_0 P) rfl ?_
            refine r_iload C d_BT_monthly_51 rfl ?_
            refine r_lald (t0 := 0) C d_BT_monthly_53 (kp_5 P) rfl (rfl) (hj60) (by decide) (rfl) ?_
            refine r_lmul C d_BT_monthly_54 ?_
            refine r_aload_n C d_BT_monthly_55 rfl rfl ?_
            refine r_get C hq_BT d_BT_monthly_56 (j := 5) (Nat.le_of_ble_eq_true rfl) mf_BT_37 (kp_0 P) rfl ?_
            refine r_iload C d_BT_monthly_59 rfl ?_
            refine r_lald (t0 := 0) C d_BT_monthly_61 (kp_6 P) rfl (rfl) (hj60) (by decide) (rfl) ?_
            refine r_ldiv C d_BT_monthly_62 (c44) ?_
            refine r_ldc2 C d_BT_monthly_63 mn_BT_223 ?_
            refine r_mminl C d_BT_monthly_66 ml_BT_225 mt_mmin mz_Jma mo_mmin (Nat.le_of_ble_eq_true rfl) (Nat.le_of_ble_eq_true rfl) (Nat.le_of_ble_eq_true rfl) (Nat.le_of_ble_eq_true rfl) ?_
            refine r_lstore (lv' := [(4, _), (6, _), (3, _), (0, _), (1, _), (2, _)]) C d_BT_monthly_69 (Nat.le_of_ble_eq_true rfl) rfl ?_
            rw [zm_min i c_42]
            refine r_iinc (v := nI (j + 1)) (lv' := [(6, _), (4, _), (3, _), (0, _), (1, _), (2, _)]) C d_BT_monthly_71 rfl (nI_1 j) (Nat.le_of_ble_eq_true rfl) rfl ?_
            refine r_goto (tgt := 30) C d_BT_monthly_74 rfl ?_
            refine r_sub [0, 1, 2, 3, 4, 5] rfl ?_
            exact ih (j + 1) (by omega)
      refine r_aload_n C d_BT_monthly_21 rfl rfl ?_
      refine r_getN C hq_Bid d_BT_monthly_22 (j := 2) (Nat.le_of_ble_eq_true rfl) mf_BT_182 (kp_15 P (hi)) rfl ?_
      refine r_lstore (lv' := [(4, _), (3, _), (0, _), (1, _), (2, _)]) C d_BT_monthly_25 (Nat.le_of_ble_eq_true rfl) rfl ?_
      refine r_iconst (v := 0) C d_BT_monthly_27 rfl ?_
      refine r_istore (lv' := [(6, _), (4, _), (3, _), (0, _), (1, _), (2, _)]) C d_BT_monthly_28 (Nat.le_of_ble_eq_true rfl) rfl ?_
      exact L (e + 1) 0 (by omega)
    · skip
      rw [bI_0, month_ix] at c_14
      have hz2 : z_at w 60 = none := by cases h : z_at w 60 with
        | none => rfl
        | some j => rw [h] at c_14; cases c_14
      refine r_ldc2 C d_BT_monthly_17 mn_BT_180 ?_
      refine r_lret C E rfl d_BT_monthly_20 (Nat.le_of_ble_eq_true rfl) (Nat.le_of_ble_eq_true rfl) ?_
      exact ⟨by simp [za_month, win_some hz, hz2], rfl⟩

set_option maxHeartbeats 4000000 in
set_option maxRecDepth 100000 in
theorem k_BT_second (Y : hY) (l : Launch) {ad : Nat → Nat → Nat} {s : zS} {x : kX} {t : Bool} {f : hw_F} (P : kPic Y ad s x t f) (N : zN s) (W : kW s x) (U : x.2.2.2.1 = za_sum s) (D : ∀ k, z_w s k = true → z_fd s = true) (R : ∀ k, k < 12 → z_w s k = true → x.2.2.1 k = zs_gr s k (2 ^ z_nD s)) (y : Int32) : hM Y l y_BT_second S_BT_second (some .long) [.ref (ad 0 0), .int y] f (fun r f' => r = some (.long (za_second s y)) ∧ f' = f) := by
  refine hM.of (by decide) rfl (Nat.le_of_ble_eq_true rfl) ?_
  intro X hl hnm C E
  show hG Y X S_BT_second 0 0 f [(0, .ref (ad 0 0)), (1, .int y)] [] 0
  refine r_aload_n C d_BT_second_0 rfl rfl ?_
  refine r_iload_n C d_BT_second_1 rfl rfl ?_
  refine r_callV C (k_BT_winnerAt Y _ P N W _) mQ_BT_winnerAt d_BT_second_2 ml_BT_170 mi_BT_winnerAt mv_BT_winnerAt (kp_0 P) rfl rfl rfl rfl (Nat.le_of_ble_eq_true rfl) ⟨⟨Nat.le_of_ble_eq_true rfl, Nat.le_of_ble_eq_true rfl⟩, Nat.le_of_ble_eq_true rfl, Nat.le_of_ble_eq_true rfl⟩ (fun v f' hp => ?_)
  obtain ⟨rfl, hf⟩ := hp
  replace hf := hf.symm
  subst hf
  rcases win_case N y with hz | ⟨i, hi, rfl, hz, hw⟩
  · rw [hz]
    refine r_astore_nN (lv' := [(2, _), (0, _), (1, _)]) C d_BT_second_5 rfl (Nat.le_of_ble_eq_true rfl) rfl ?_
    refine r_aload_nN C d_BT_second_6 rfl rfl ?_
    refine r_ifnonnullN C d_BT_second_7 ?_
    refine r_ldc2 C d_BT_second_10 mn_BT_180 ?_
    refine r_lret C E rfl d_BT_second_13 (Nat.le_of_ble_eq_true rfl) (Nat.le_of_ble_eq_true rfl) ?_
    refine ⟨?_, rfl⟩
    rw [show za_second s y = -1 by
      rcases win_none hz with h | ⟨k, h, h2⟩
      · simp [za_second, h]
      · simp [za_second, h, h2]]
  · rw [hz]
    refine r_astore_n (lv' := [(2, _), (0, _), (1, _)]) C d_BT_second_5 rfl (Nat.le_of_ble_eq_true rfl) rfl ?_
    refine r_aload_n C d_BT_second_6 rfl rfl ?_
    refine r_ifnonnull (tgt := 14) C d_BT_second_7 rfl ?_
    refine r_aload_n C d_BT_second_14 rfl rfl ?_
    refine r_getN C hq_Bid d_BT_second_15 (j := 2) (Nat.le_of_ble_eq_true rfl) mf_BT_182 (kp_15 P (hi)) rfl ?_
    refine r_aload_n C d_BT_second_18 rfl rfl ?_
    refine r_get C hq_BT d_BT_second_19 (j := 6) (Nat.le_of_ble_eq_true rfl) mf_BT_43 (kp_0 P) rfl ?_
    refine r_getN C hq_Sea d_BT_second_22 (j := 3) (Nat.le_of_ble_eq_true rfl) mf_BT_173 (kp_7 P) rfl ?_
    refine r_lsub C d_BT_second_25 ?_
    refine r_aload_n C d_BT_second_26 rfl rfl ?_
    refine r_get C hq_BT d_BT_second_27 (j := 6) (Nat.le_of_ble_eq_true rfl) mf_BT_43 (kp_0 P) rfl ?_
    refine r_getN C hq_Sea d_BT_second_30 (j := 1) (Nat.le_of_ble_eq_true rfl) mf_BT_185 (kp_7 P) rfl ?_
    refine r_aload_n C d_BT_second_33 rfl rfl ?_
    refine r_getN C hq_Bid d_BT_second_34 (j := 0) (Nat.le_of_ble_eq_true rfl) mf_BT_188 (kp_15 P (hi)) rfl ?_
    refine r_lald (t0 := 0) C d_BT_second_37 (kp_9 P) rfl (rfl) (by have := N.2.2.1; omega) (by decide) (rfl) ?_
    refine r_ladd C d_BT_second_38 ?_
    refine r_lret C E rfl d_BT_second_39 (Nat.le_of_ble_eq_true rfl) (Nat.le_of_ble_eq_true rfl) ?_
    refine ⟨?_, rfl⟩
    rw [show za_second s (nI i) = z_c s i - z_fs s + zs_gr s i (2 ^ z_nD s) by simp [za_second, win_some hz, hw], U, show za_sum s = z_fs s by unfold za_sum; rw [D i hw]; rfl, R i (by have := N.2.2.1; omega) hw]

set_option maxHeartbeats 4000000 in
set_option maxRecDepth 100000 in
theorem k_BT_greatestCentsOn (Y : hY) (l : Launch) {ad : Nat → Nat → Nat} {s : zS} {x : kX} {t : Bool} {f : hw_F} (P : kPic Y ad s x t f) (N : zN s) {e : Nat} (he : e < 8) : hM Y l y_BT_greatestCentsOn S_BT_greatestCentsOn (some .long) [.ref (ad 0 0), .int (nI e)] f (fun r f' => r = some (.long (zb_gr s e (z_nD s))) ∧ f' = f) := by
  refine hM.of (by decide) rfl (Nat.le_of_ble_eq_true rfl) ?_
  intro X hl hnm C E
  show hG Y X S_BT_greatestCentsOn 0 0 f [(0, .ref (ad 0 0)), (1, .int (nI e))] [] 0
  have L : ∀ d j, j + d = 12 → hG Y X S_BT_greatestCentsOn 0 0 f [(6, .int (nI (j))), (5, .int 12), (4, .ref (ad 3 0)), (2, .long (zb_gr s e (min (j) (z_nD s)))), (0, .ref (ad 0 0)), (1, .int (nI e))] [] 16 := by
    intro d
    induction d with
    | zero =>
      intro j hj
      obtain rfl : j = 12 := by omega
      rw [show min 12 (z_nD s) = z_nD s by have := N.2.2.1; omega]
      refine r_iload C d_BT_greatestCentsOn_16 rfl ?_
      refine r_iload C d_BT_greatestCentsOn_18 rfl ?_
      refine r_icmp_ge (tgt := 63) C d_BT_greatestCentsOn_20 rfl (fun _ => ?_) (fun hz => absurd (show (12 : Int32) ≤ nI 12 by decide) hz)
      refine r_lload_n C d_BT_greatestCentsOn_63 rfl rfl ?_
      refine r_lret C E rfl d_BT_greatestCentsOn_64 (Nat.le_of_ble_eq_true rfl) (Nat.le_of_ble_eq_true rfl) ?_
      exact ⟨rfl, rfl⟩
    | succ d ih =>
      intro j hj
      rcases Nat.lt_or_ge j (z_nD s) with hn | hn
      · rw [show min j (z_nD s) = j by omega]
        refine r_iload C d_BT_greatestCentsOn_16 rfl ?_
        refine r_iload C d_BT_greatestCentsOn_18 rfl ?_
        refine r_icmp_ge (tgt := 63) C d_BT_greatestCentsOn_20 rfl (fun hz => absurd hz (nI_ge (a := j) (b := 12) (by omega) (by decide))) (fun _ => ?_)
        refine r_aload C d_BT_greatestCentsOn_23 rfl ?_
        refine r_iload C d_BT_greatestCentsOn_25 rfl ?_
        refine r_aald (t0 := 5) C d_BT_greatestCentsOn_27 (kp_3 P) rfl (rfl) (by omega) (by decide) (if_pos hn) ?_
        refine r_astore (lv' := [(7, _), (6, _), (5, _), (4, _), (2, _), (0, _), (1, _)]) C d_BT_greatestCentsOn_28 (Nat.le_of_ble_eq_true rfl) rfl ?_
        refine r_aload C d_BT_greatestCentsOn_30 rfl ?_
        refine r_callS C (k_BT_inPlay Y _ P hn (N.2.2.2.2.1 j hn)) mQ_BT_inPlay d_BT_greatestCentsOn_32 ml_BT_151 mt_BT_inPlay rfl rfl (Nat.le_of_ble_eq_true rfl) ⟨⟨Nat.le_of_ble_eq_true rfl, Nat.le_of_ble_eq_true rfl⟩, Nat.le_of_ble_eq_true rfl, Nat.le_of_ble_eq_true rfl⟩ (fun v f' hp => ?_)
        obtain ⟨rfl, hf⟩ := hp
        replace hf := hf.symm
        subst hf
        refine r_if_eq (tgt := 57) C d_BT_greatestCentsOn_35 rfl (fun c_35 => ?_) (fun c_35 => ?_)
        · skip
          rw [bI_0] at c_35
          rw [show zb_gr s e j = zb_gr s e (j + 1) from (if_neg (fun h => by rw [c_35] at h; cases h.1)).symm]
          refine r_iinc (v := nI (j + 1)) (lv' := [(6, _), (7, _), (5, _), (4, _), (2, _), (0, _), (1, _)]) C d_BT_greatestCentsOn_57 rfl (nI_1 j) (Nat.le_of_ble_eq_true rfl) rfl ?_
          refine r_goto (tgt := 16) C d_BT_greatestCentsOn_60 rfl ?_
          refine r_sub [0, 2, 3, 4, 5, 6] rfl ?_
          have h9 := ih (j + 1) (by omega)
          rw [show min (j + 1) (z_nD s) = j + 1 by omega] at h9
          exact h9
        · skip
          rw [bI_n0] at c_35
          refine r_aload C d_BT_greatestCentsOn_38 rfl ?_
          refine r_iload_n C d_BT_greatestCentsOn_40 rfl rfl ?_
          refine r_callV C (k_Bid_has Y _ _ _ _ _ _ _ (kp_15 P hn) _) mQ_Bid_has d_BT_greatestCentsOn_41 ml_BT_104 mi_Bid_has mv_Bid_has (kp_15 P hn) rfl rfl rfl rfl (Nat.le_of_ble_eq_true rfl) ⟨⟨Nat.le_of_ble_eq_true rfl, Nat.le_of_ble_eq_true rfl⟩, Nat.le_of_ble_eq_true rfl, Nat.le_of_ble_eq_true rfl⟩ (fun v f' hp => ?_)
          obtain ⟨rfl, hf⟩ := hp
          replace hf := hf.symm
          subst hf
          refine r_if_eq (tgt := 57) C d_BT_greatestCentsOn_44 rfl (fun c_44 => ?_) (fun c_44 => ?_)
          · skip
            rw [bI_0, show z_ls s j = zb_m _ 8 from rfl, k_bt_m (by decide) he] at c_44
            rw [show zb_gr s e j = zb_gr s e (j + 1) from (if_neg (fun h => by rw [c_44] at h; cases h.2.1)).symm]
            refine r_iinc (v := nI (j + 1)) (lv' := [(6, _), (7, _), (5, _), (4, _), (2, _), (0, _), (1, _)]) C d_BT_greatestCentsOn_57 rfl (nI_1 j) (Nat.le_of_ble_eq_true rfl) rfl ?_
            refine r_goto (tgt := 16) C d_BT_greatestCentsOn_60 rfl ?_
            refine r_sub [0, 2, 3, 4, 5, 6] rfl ?_
            have h9 := ih (j + 1) (by omega)
            rw [show min (j + 1) (z_nD s) = j + 1 by omega] at h9
            exact h9
          · skip
            rw [bI_n0, show z_ls s j = zb_m _ 8 from rfl, k_bt_m (by decide) he] at c_44
            refine r_lload_n C d_BT_greatestCentsOn_47 rfl rfl ?_
            refine r_aload C d_BT_greatestCentsOn_48 rfl ?_
            refine r_getN C hq_Bid d_BT_greatestCentsOn_50 (j := 2) (Nat.le_of_ble_eq_true rfl) mf_BT_182 (kp_15 P (hn)) rfl ?_
            refine r_mmaxl C d_BT_greatestCentsOn_53 ml_BT_210 mt_mmax mz_Jma mo_mmax (Nat.le_of_ble_eq_true rfl) (Nat.le_of_ble_eq_true rfl) (Nat.le_of_ble_eq_true rfl) (Nat.le_of_ble_eq_true rfl) ?_
            refine r_lstore_n (lv' := [(2, _), (7, _), (6, _), (5, _), (4, _), (0, _), (1, _)]) C d_BT_greatestCentsOn_56 rfl (Nat.le_of_ble_eq_true rfl) rfl ?_
            rw [zb_max c_35 c_44]
            refine r_iinc (v := nI (j + 1)) (lv' := [(6, _), (2, _), (7, _), (5, _), (4, _), (0, _), (1, _)]) C d_BT_greatestCentsOn_57 rfl (nI_1 j) (Nat.le_of_ble_eq_true rfl) rfl ?_
            refine r_goto (tgt := 16) C d_BT_greatestCentsOn_60 rfl ?_
            refine r_sub [0, 3, 4, 1, 5, 6] rfl ?_
            have h9 := ih (j + 1) (by omega)
            rw [show min (j + 1) (z_nD s) = j + 1 by omega] at h9
            exact h9
      · rw [show min j (z_nD s) = z_nD s by omega]
        refine r_iload C d_BT_greatestCentsOn_16 rfl ?_
        refine r_iload C d_BT_greatestCentsOn_18 rfl ?_
        refine r_icmp_ge (tgt := 63) C d_BT_greatestCentsOn_20 rfl (fun hz => absurd hz (nI_ge (a := j) (b := 12) (by omega) (by decide))) (fun _ => ?_)
        refine r_aload C d_BT_greatestCentsOn_23 rfl ?_
        refine r_iload C d_BT_greatestCentsOn_25 rfl ?_
        refine r_aald (t0 := 5) C d_BT_greatestCentsOn_27 (kp_3 P) rfl (rfl) (by omega) (by decide) (if_neg (by omega)) ?_
        refine r_astoreN (lv' := [(7, _), (6, _), (5, _), (4, _), (2, _), (0, _), (1, _)]) C d_BT_greatestCentsOn_28 (Nat.le_of_ble_eq_true rfl) rfl ?_
        refine r_aloadN C d_BT_greatestCentsOn_30 rfl ?_
        refine r_callS C (k_BT_inPlay0 Y _) mQ_BT_inPlay d_BT_greatestCentsOn_32 ml_BT_151 mt_BT_inPlay rfl rfl (Nat.le_of_ble_eq_true rfl) ⟨⟨Nat.le_of_ble_eq_true rfl, Nat.le_of_ble_eq_true rfl⟩, Nat.le_of_ble_eq_true rfl, Nat.le_of_ble_eq_true rfl⟩ (fun v f' hp => ?_)
        obtain ⟨rfl, hf⟩ := hp
        replace hf := hf.symm
        subst hf
        refine r_if_eq (tgt := 57) C d_BT_greatestCentsOn_35 rfl (fun _ => ?_) (fun hz => absurd (show (0 : Int32) = 0 from rfl) hz)
        refine r_iinc (v := nI (j + 1)) (lv' := [(6, _), (7, _), (5, _), (4, _), (2, _), (0, _), (1, _)]) C d_BT_greatestCentsOn_57 rfl (nI_1 j) (Nat.le_of_ble_eq_true rfl) rfl ?_
        refine r_goto (tgt := 16) C d_BT_greatestCentsOn_60 rfl ?_
        refine r_sub [0, 2, 3, 4, 5, 6] rfl ?_
        have h9 := ih (j + 1) (by omega)
        rw [show min (j + 1) (z_nD s) = z_nD s by omega] at h9
        exact h9
  refine r_lconst (v := 0) C d_BT_greatestCentsOn_0 rfl ?_
  refine r_lstore_n (lv' := [(2, _), (0, _), (1, _)]) C d_BT_greatestCentsOn_1 rfl (Nat.le_of_ble_eq_true rfl) rfl ?_
  refine r_aload_n C d_BT_greatestCentsOn_2 rfl rfl ?_
  refine r_get C hq_BT d_BT_greatestCentsOn_3 (j := 2) (Nat.le_of_ble_eq_true rfl) mf_BT_23 (kp_0 P) rfl ?_
  refine r_astore (lv' := [(4, _), (2, _), (0, _), (1, _)]) C d_BT_greatestCentsOn_6 (Nat.le_of_ble_eq_true rfl) rfl ?_
  refine r_aload C d_BT_greatestCentsOn_8 rfl ?_
  refine r_alen (t0 := 5) (v := 12) C d_BT_greatestCentsOn_10 (kp_3 P) rfl rfl ?_
  refine r_istore (lv' := [(5, _), (4, _), (2, _), (0, _), (1, _)]) C d_BT_greatestCentsOn_11 (Nat.le_of_ble_eq_true rfl) rfl ?_
  refine r_iconst (v := 0) C d_BT_greatestCentsOn_13 rfl ?_
  refine r_istore (lv' := [(6, _), (5, _), (4, _), (2, _), (0, _), (1, _)]) C d_BT_greatestCentsOn_14 (Nat.le_of_ble_eq_true rfl) rfl ?_
  have h9 := L 12 0 rfl
  rw [show min 0 (z_nD s) = 0 by omega] at h9
  exact h9

theorem zb_gr0 {s : zS} {l : Nat} (h : ∀ k, z_h s (8 * k + l) = false) : ∀ n, zb_gr s l n = 0
  | 0 => rfl
  | n + 1 => by
    show (if _ ∧ _ ∧ _ then _ else _) = _
    rw [if_neg (fun q => by rw [h n] at q; cases q.2.1), zb_gr0 h n]
set_option maxHeartbeats 4000000 in
set_option maxRecDepth 100000 in
theorem k_BT_bound (Y : hY) (l : Launch) {ad : Nat → Nat → Nat} {s : zS} {x : kX} {t : Bool} {f : hw_F} (P : kPic Y ad s x t f) (N : zN s) (G : ∀ k l, l < 8 → z_nL s ≤ l → z_h s (8 * k + l) = false) : hM Y l y_BT_bound S_BT_bound (some .long) [.ref (ad 0 0)] f (fun r f' => r = some (.long (za_bound s)) ∧ f' = f) := by
  refine hM.of (by decide) rfl (Nat.le_of_ble_eq_true rfl) ?_
  intro X hl hnm C E
  show hG Y X S_BT_bound 0 0 f [(0, .ref (ad 0 0))] [] 0
  have L : ∀ d j, j + d = 8 → hG Y X S_BT_bound 0 0 f [(3, .int (nI (j))), (1, .long (zb_sm s (min (j) (z_nL s)))), (0, .ref (ad 0 0))] [] 4 := by
    intro d
    induction d with
    | zero =>
      intro j hj
      obtain rfl : j = 8 := by omega
      rw [show min 8 (z_nL s) = z_nL s by have := N.1; omega]
      refine r_iload_n C d_BT_bound_4 rfl rfl ?_
      refine r_bipush (v := 8) C d_BT_bound_5 rfl ?_
      refine r_icmp_ge (tgt := 24) C d_BT_bound_7 rfl (fun _ => ?_) (fun hz => absurd (show (8 : Int32) ≤ nI 8 by decide) hz)
      refine r_lload_n C d_BT_bound_24 rfl rfl ?_
      refine r_lret C E rfl d_BT_bound_25 (Nat.le_of_ble_eq_true rfl) (Nat.le_of_ble_eq_true rfl) ?_
      exact ⟨rfl, rfl⟩
    | succ d ih =>
      intro j hj
      refine r_iload_n C d_BT_bound_4 rfl rfl ?_
      refine r_bipush (v := 8) C d_BT_bound_5 rfl ?_
      refine r_icmp_ge (tgt := 24) C d_BT_bound_7 rfl (fun hz => absurd hz (nI_ge (a := j) (b := 8) (by omega) (by decide))) (fun _ => ?_)
      refine r_lload_n C d_BT_bound_10 rfl rfl ?_
      refine r_aload_n C d_BT_bound_11 rfl rfl ?_
      refine r_iload_n C d_BT_bound_12 rfl rfl ?_
      refine r_callV C (k_BT_greatestCentsOn Y _ P N (e := j) (by omega)) mQ_BT_greatestCentsOn d_BT_bound_13 ml_BT_176 mi_BT_greatestCentsOn mv_BT_greatestCentsOn (kp_0 P) rfl rfl rfl rfl (Nat.le_of_ble_eq_true rfl) ⟨⟨Nat.le_of_ble_eq_true rfl, Nat.le_of_ble_eq_true rfl⟩, Nat.le_of_ble_eq_true rfl, Nat.le_of_ble_eq_true rfl⟩ (fun v f' hp => ?_)
      obtain ⟨rfl, hf⟩ := hp
      replace hf := hf.symm
      subst hf
      refine r_ladd C d_BT_bound_16 ?_
      refine r_lstore_n (lv' := [(1, _), (3, _), (0, _)]) C d_BT_bound_17 rfl (Nat.le_of_ble_eq_true rfl) rfl ?_
      rw [show zb_sm s (min j (z_nL s)) + zb_gr s j (z_nD s) = zb_sm s (min (j + 1) (z_nL s)) by
        rcases Nat.lt_or_ge j (z_nL s) with h | h
        · rw [show min j (z_nL s) = j by omega, show min (j + 1) (z_nL s) = j + 1 by omega]
          rfl
        · rw [show min j (z_nL s) = z_nL s by omega, show min (j + 1) (z_nL s) = z_nL s by omega, zb_gr0 (fun k => G k j (by omega) h)]
          simp]
      refine r_iinc (v := nI (j + 1)) (lv' := [(3, _), (1, _), (0, _)]) C d_BT_bound_18 rfl (nI_1 j) (Nat.le_of_ble_eq_true rfl) rfl ?_
      refine r_goto (tgt := 4) C d_BT_bound_21 rfl ?_
      refine r_sub [0, 1, 2] rfl ?_
      exact ih (j + 1) (by omega)
  refine r_lconst (v := 0) C d_BT_bound_0 rfl ?_
  refine r_lstore_n (lv' := [(1, _), (0, _)]) C d_BT_bound_1 rfl (Nat.le_of_ble_eq_true rfl) rfl ?_
  refine r_iconst (v := 0) C d_BT_bound_2 rfl ?_
  refine r_istore_n (lv' := [(3, _), (1, _), (0, _)]) C d_BT_bound_3 rfl (Nat.le_of_ble_eq_true rfl) rfl ?_
  have h9 := L 8 0 rfl
  rw [show min 0 (z_nL s) = 0 by omega] at h9
  exact h9

