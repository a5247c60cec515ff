set_option maxHeartbeats 4000000 in
set_option maxRecDepth 100000 in
theorem k_BT_winnerAt (Y : hY) (l : Launch) {ad : Nat → Nat → Nat} {s : zS} {x : kX} {t : Bool} {f : hw_F} (P : kPic Y ad s x t f) (N : zN s) (W : kW s x) (y : Int32) : hM Y l y_BT_winnerAt S_BT_winnerAt (some (.object "BaleTenders$Bid")) [.ref (ad 0 0), .int y] f (fun r f' => r = some (va_rf ((z_win s y).map (ad 15))) ∧ f' = f) := by
  refine hM.of (by decide) rfl (Nat.le_of_ble_eq_true rfl) ?_
  intro X hl hnm C E
  show hG Y X S_BT_winnerAt 0 0 f [(0, .ref (ad 0 0)), (1, .int y)] [] 0
  refine r_aload_n C d_BT_winnerAt_0 rfl rfl ?_
  refine r_iload_n C d_BT_winnerAt_1 rfl rfl ?_
  refine r_callV C (k_BT_bidAt Y _ P N _) mQ_BT_bidAt d_BT_winnerAt_2 ml_BT_89 mi_BT_bidAt mv_BT_bidAt (kp_0 P) rfl rfl rfl rfl (Nat.le_of_ble_eq_true rfl) ⟨⟨Nat.le_of_ble_eq_true rfl, Nat.le_of_ble_eq_true rfl⟩, Nat.le_of_ble_eq_true rfl, Nat.le_of_ble_eq_true rfl⟩ (fun v f' hp => ?_)
  obtain ⟨rfl, hf⟩ := hp
  replace hf := hf.symm
  subst hf
  rcases z_at_case y (n := z_nD s) (by have := N.2.2.1; omega) with ⟨hz, -⟩ | ⟨i, hi, rfl, hz⟩
  · rw [hz]
    refine r_astore_nN (lv' := [(2, _), (0, _), (1, _)]) C d_BT_winnerAt_5 rfl (Nat.le_of_ble_eq_true rfl) rfl ?_
    refine r_aload_nN C d_BT_winnerAt_6 rfl rfl ?_
    refine r_ifnullN (tgt := 25) C d_BT_winnerAt_7 rfl ?_
    refine r_null C d_BT_winnerAt_25 ?_
    refine r_aret C E rfl (Or.inl rfl) d_BT_winnerAt_26 (Nat.le_of_ble_eq_true rfl) (Nat.le_of_ble_eq_true rfl) ?_
    exact ⟨by simp [z_win, hz, va_rf], rfl⟩
  · rw [hz]
    refine r_astore_n (lv' := [(2, _), (0, _), (1, _)]) C d_BT_winnerAt_5 rfl (Nat.le_of_ble_eq_true rfl) rfl ?_
    refine r_aload_n C d_BT_winnerAt_6 rfl rfl ?_
    refine r_ifnull C d_BT_winnerAt_7 ?_
    refine r_aload_n C d_BT_winnerAt_10 rfl rfl ?_
    refine r_get C hq_BT d_BT_winnerAt_11 (j := 6) (Nat.le_of_ble_eq_true rfl) mf_BT_43 (kp_0 P) rfl ?_
    refine r_aload_n C d_BT_winnerAt_14 rfl rfl ?_
    refine r_callV C (k_Sea_hasWinner Y _ _ _ _ _ _ _ _ (kp_7 P) _ _ _ _ _ (kp_15 P hi)) mQ_Sea_hasWinner d_BT_winnerAt_15 ml_BT_244 mi_Sea_hasWinner mv_Sea_hasWinner (kp_7 P) rfl rfl rfl rfl (Nat.le_of_ble_eq_true rfl) ⟨⟨Nat.le_of_ble_eq_true rfl, Nat.le_of_ble_eq_true rfl⟩, Nat.le_of_ble_eq_true rfl, Nat.le_of_ble_eq_true rfl⟩ (fun v f' hp => ?_)
    obtain ⟨rfl, hf⟩ := hp
    replace hf := hf.symm
    subst hf
    refine r_if_eq (tgt := 25) C d_BT_winnerAt_18 rfl (fun c_18 => ?_) (fun c_18 => ?_)
    · skip
      rw [bI_0, W i (by have := N.2.2.1; omega)] at c_18
      refine r_null C d_BT_winnerAt_25 ?_
      refine r_aret C E rfl (Or.inl rfl) d_BT_winnerAt_26 (Nat.le_of_ble_eq_true rfl) (Nat.le_of_ble_eq_true rfl) ?_
      exact ⟨by simp [z_win, hz, c_18, va_rf], rfl⟩
    · skip
      rw [bI_n0, W i (by have := N.2.2.1; omega)] at c_18
      refine r_aload_n C d_BT_winnerAt_21 rfl rfl ?_
      refine r_goto (tgt := 26) C d_BT_winnerAt_22 rfl ?_
      refine r_aret C E rfl (Or.inr ⟨_, rfl⟩) d_BT_winnerAt_26 (Nat.le_of_ble_eq_true rfl) (Nat.le_of_ble_eq_true rfl) ?_
      exact ⟨by simp [z_win, hz, c_18, va_rf], rfl⟩

set_option maxHeartbeats 4000000 in
set_option maxRecDepth 100000 in
theorem k_BT_inPlay0 (Y : hY) (l : Launch) {f : hw_F}  : hM Y l y_BT_inPlay S_BT_inPlay (some .boolean) [.null] f (fun r f' => r = some (.int 0) ∧ f' = f) := by
  refine hM.of (by decide) rfl (Nat.le_of_ble_eq_true rfl) ?_
  intro X hl hnm C E
  show hG Y X S_BT_inPlay 0 0 f [(0, .null)] [] 0
  refine r_aload_nN C d_BT_inPlay_0 rfl rfl ?_
  refine r_ifnullN (tgt := 35) C d_BT_inPlay_1 rfl ?_
  refine r_iconst (v := 0) C d_BT_inPlay_35 rfl ?_
  refine r_zret C E rfl d_BT_inPlay_36 (rfl) (Nat.le_of_ble_eq_true rfl) (Nat.le_of_ble_eq_true rfl) ?_
  exact ⟨rfl, rfl⟩

set_option maxHeartbeats 4000000 in
set_option maxRecDepth 100000 in
theorem k_BT_inPlay (Y : hY) (l : Launch) {ad : Nat → Nat → Nat} {s : zS} {x : kX} {t : Bool} {f : hw_F} (P : kPic Y ad s x t f) {i : Nat} (hi : i < z_nD s) (how : z_ow s i < z_nB s) : hM Y l y_BT_inPlay S_BT_inPlay (some .boolean) [.ref (ad 15 i)] f (fun r f' => r = some (.int (bI (z_play s i))) ∧ f' = f) := by
  refine hM.of (by decide) rfl (Nat.le_of_ble_eq_true rfl) ?_
  intro X hl hnm C E
  show hG Y X S_BT_inPlay 0 0 f [(0, .ref (ad 15 i))] [] 0
  refine r_aload_n C d_BT_inPlay_0 rfl rfl ?_
  refine r_ifnull C d_BT_inPlay_1 ?_
  refine r_aload_n C d_BT_inPlay_4 rfl rfl ?_
  refine r_getN C hq_Bid d_BT_inPlay_5 (j := 3) (Nat.le_of_ble_eq_true rfl) mf_BT_108 (kp_15 P (hi)) rfl ?_
  refine r_if_eq (tgt := 35) C d_BT_inPlay_8 rfl (fun c_8 => ?_) (fun c_8 => ?_)
  · skip
    rw [z_ls_0] at c_8
    have e9 : z_play s i = false := by simp [z_play, c_8]
    refine r_iconst (v := 0) C d_BT_inPlay_35 rfl ?_
    refine r_zret C E rfl d_BT_inPlay_36 (rfl) (Nat.le_of_ble_eq_true rfl) (Nat.le_of_ble_eq_true rfl) ?_
    exact ⟨by rw [e9]; rfl, rfl⟩
  · skip
    rw [z_ls_0] at c_8
    refine r_aload_n C d_BT_inPlay_11 rfl rfl ?_
    refine r_getN C hq_Bid d_BT_inPlay_12 (j := 1) (Nat.le_of_ble_eq_true rfl) mf_BT_97 (kp_15 P (hi)) rfl ?_
    refine r_getN C hq_Bdr d_BT_inPlay_15 (j := 1) (Nat.le_of_ble_eq_true rfl) mf_BT_258 (kp_14 P (how)) rfl ?_
    refine r_if_eq (tgt := 35) C d_BT_inPlay_18 rfl (fun c_18 => ?_) (fun c_18 => ?_)
    · skip
      rw [bI_0] at c_18
      have e9 : z_play s i = false := by simp [z_play, c_18]
      refine r_iconst (v := 0) C d_BT_inPlay_35 rfl ?_
      refine r_zret C E rfl d_BT_inPlay_36 (rfl) (Nat.le_of_ble_eq_true rfl) (Nat.le_of_ble_eq_true rfl) ?_
      exact ⟨by rw [e9]; rfl, rfl⟩
    · skip
      rw [bI_n0] at c_18
      refine r_aload_n C d_BT_inPlay_21 rfl rfl ?_
      refine r_getN C hq_Bid d_BT_inPlay_22 (j := 1) (Nat.le_of_ble_eq_true rfl) mf_BT_97 (kp_15 P (hi)) rfl ?_
      refine r_getN C hq_Bdr d_BT_inPlay_25 (j := 2) (Nat.le_of_ble_eq_true rfl) mf_BT_101 (kp_14 P (how)) rfl ?_
      refine r_if_eq (tgt := 35) C d_BT_inPlay_28 rfl (fun c_28 => ?_) (fun c_28 => ?_)
      · skip
        rw [bI_0] at c_28
        have e9 : z_play s i = false := by simp [z_play, c_28]
        refine r_iconst (v := 0) C d_BT_inPlay_35 rfl ?_
        refine r_zret C E rfl d_BT_inPlay_36 (rfl) (Nat.le_of_ble_eq_true rfl) (Nat.le_of_ble_eq_true rfl) ?_
        exact ⟨by rw [e9]; rfl, rfl⟩
      · skip
        rw [bI_n0] at c_28
        have e9 : z_play s i = true := by simp [z_play, c_18, c_28]; omega
        refine r_iconst (v := 1) C d_BT_inPlay_31 rfl ?_
        refine r_goto (tgt := 36) C d_BT_inPlay_32 rfl ?_
        refine r_zret C E rfl d_BT_inPlay_36 (rfl) (Nat.le_of_ble_eq_true rfl) (Nat.le_of_ble_eq_true rfl) ?_
        exact ⟨by rw [e9]; rfl, rfl⟩

set_option maxHeartbeats 4000000 in
set_option maxRecDepth 100000 in
theorem k_BT_hasIndex (Y : hY) (l : Launch) {ad : Nat → Nat → Nat} {s : zS} {x : kX} {t : Bool} {f : hw_F} (P : kPic Y ad s x t f) {j : Nat} (hj : j < 60) : hM Y l y_BT_hasIndex S_BT_hasIndex (some .boolean) [.ref (ad 0 0), .int (nI j)] f (fun r f' => r = some (.int (bI (decide (0 < z_ib s j)))) ∧ f' = f) := by
  refine hM.of (by decide) rfl (Nat.le_of_ble_eq_true rfl) ?_
  intro X hl hnm C E
  show hG Y X S_BT_hasIndex 0 0 f [(0, .ref (ad 0 0)), (1, .int (nI j))] [] 0
  refine r_aload_n C d_BT_hasIndex_0 rfl rfl ?_
  refine r_get C hq_BT d_BT_hasIndex_1 (j := 5) (Nat.le_of_ble_eq_true rfl) mf_BT_37 (kp_0 P) rfl ?_
  refine r_iload_n C d_BT_hasIndex_4 rfl rfl ?_
  refine r_lald (t0 := 0) C d_BT_hasIndex_5 (kp_6 P) rfl (rfl) (hj) (by decide) (rfl) ?_
  refine r_lconst (v := 0) C d_BT_hasIndex_6 rfl ?_
  refine r_lcmp C d_BT_hasIndex_7 ?_
  refine r_if_le (tgt := 15) C d_BT_hasIndex_8 rfl (fun c_8 => ?_) (fun c_8 => ?_)
  · skip
    rw [lg_cmp_le] at c_8
    refine r_iconst (v := 0) C d_BT_hasIndex_15 rfl ?_
    refine r_zret C E rfl d_BT_hasIndex_16 (rfl) (Nat.le_of_ble_eq_true rfl) (Nat.le_of_ble_eq_true rfl) ?_
    exact ⟨by first | (rw [decide_eq_false (Int64.not_lt.mpr c_8)]; rfl) | (rw [decide_eq_true (Int64.not_le.mp c_8)]; rfl), rfl⟩
  · skip
    rw [lg_cmp_le] at c_8
    refine r_iconst (v := 1) C d_BT_hasIndex_11 rfl ?_
    refine r_goto (tgt := 16) C d_BT_hasIndex_12 rfl ?_
    refine r_zret C E rfl d_BT_hasIndex_16 (rfl) (Nat.le_of_ble_eq_true rfl) (Nat.le_of_ble_eq_true rfl) ?_
    exact ⟨by first | (rw [decide_eq_false (Int64.not_lt.mpr c_8)]; rfl) | (rw [decide_eq_true (Int64.not_le.mp c_8)]; rfl), rfl⟩

set_option maxHeartbeats 4000000 in
set_option maxRecDepth 100000 in
theorem k_Bid_init (Y : hY) (l : Launch) {f : hw_F} {b : Nat} (h0 : f b = some (.inr (3, [.int 0, .null, .long 0, .int 0]))) (n : Int32) (w : Nat) (c : Int64) : hM Y l y_Bid_init S_Bid_init (none) [.ref b, .int n, .ref w, .long c] f (fun r f' => r = none ∧ f' = hw_u f b (.inr (3, [.int n, .ref w, .long c, .int 0]))) := by
  refine hM.of (by decide) rfl (Nat.le_of_ble_eq_true rfl) ?_
  intro X hl hnm C E
  show hG Y X S_Bid_init 0 0 f [(0, .ref b), (1, .int n), (2, .ref w), (3, .long c)] [] 0
  refine r_aload_n C d_Bid_init_0 rfl rfl ?_
  refine r_objInit C d_Bid_init_1 ml_Bid_1 mi_obj mo_obj (Nat.le_of_ble_eq_true rfl) (Nat.le_of_ble_eq_true rfl) ?_
  refine r_aload_n C d_Bid_init_4 rfl rfl ?_
  refine r_iload_n C d_Bid_init_5 rfl rfl ?_
  refine r_putF C hq_Bid d_Bid_init_6 (j := 0) (fs' := [_, _, _, _]) (Nat.le_of_ble_eq_true rfl) mf_Bid_7 rfl hnm rfl rfl rfl rfl (h0) (Nat.le_of_ble_eq_true rfl) rfl ?_
  refine r_aload_n C d_Bid_init_9 rfl rfl ?_
  refine r_aload_n C d_Bid_init_10 rfl rfl ?_
  refine r_putF C hq_Bid d_Bid_init_11 (j := 1) (fs' := [_, _, _, _]) (Nat.le_of_ble_eq_true rfl) mf_Bid_13 rfl hnm rfl rfl rfl rfl (hw_us _ _ _) (Nat.le_of_ble_eq_true rfl) rfl ?_
  refine r_aload_n C d_Bid_init_14 rfl rfl ?_
  refine r_lload_n C d_Bid_init_15 rfl rfl ?_
  refine r_putF C hq_Bid d_Bid_init_16 (j := 2) (fs' := [_, _, _, _]) (Nat.le_of_ble_eq_true rfl) mf_Bid_17 rfl hnm rfl rfl rfl rfl (hw_us _ _ _) (Nat.le_of_ble_eq_true rfl) rfl ?_
  refine r_vret C E rfl d_Bid_init_19 (Nat.le_of_ble_eq_true rfl) (Nat.le_of_ble_eq_true rfl) ?_
  exact ⟨rfl, by rw [hw_uu, hw_uu]⟩

set_option maxHeartbeats 4000000 in
set_option maxRecDepth 100000 in
theorem k_Bdr_init (Y : hY) (l : Launch) {f : hw_F} {b : Nat} (h0 : f b = some (.inr (2, [.int 0, .int 0, .int 0, .long 0, .int 0, .long 0, .int 0]))) (n : Int32) (q : Bool) : hM Y l y_Bdr_init S_Bdr_init (none) [.ref b, .int n, .int (bI q)] f (fun r f' => r = none ∧ f' = hw_u f b (.inr (2, [.int n, .int (bI q), .int 0, .long 0, .int 8, .long 0, .int 0]))) := by
  refine hM.of (by decide) rfl (Nat.le_of_ble_eq_true rfl) ?_
  intro X hl hnm C E
  show hG Y X S_Bdr_init 0 0 f [(0, .ref b), (1, .int n), (2, .int (bI q))] [] 0
  refine r_aload_n C d_Bdr_init_0 rfl rfl ?_
  refine r_objInit C d_Bdr_init_1 ml_Bdr_3 mi_obj mo_obj (Nat.le_of_ble_eq_true rfl) (Nat.le_of_ble_eq_true rfl) ?_
  refine r_aload_n C d_Bdr_init_4 rfl rfl ?_
  refine r_iload_n C d_Bdr_init_5 rfl rfl ?_
  refine r_putF C hq_Bdr d_Bdr_init_6 (j := 0) (fs' := [_, _, _, _, _, _, _]) (Nat.le_of_ble_eq_true rfl) mf_Bdr_9 rfl hnm rfl rfl rfl rfl (h0) (Nat.le_of_ble_eq_true rfl) rfl ?_
  refine r_aload_n C d_Bdr_init_9 rfl rfl ?_
  refine r_iload_n C d_Bdr_init_10 rfl rfl ?_
  refine r_putF C hq_Bdr d_Bdr_init_11 (j := 1) (fs' := [_, _, _, _, _, _, _]) (Nat.le_of_ble_eq_true rfl) mf_Bdr_15 rfl hnm rfl rfl (bI_nar q) (bI_fit q) (hw_us _ _ _) (Nat.le_of_ble_eq_true rfl) rfl ?_
  refine r_aload_n C d_Bdr_init_14 rfl rfl ?_
  refine r_bipush (v := 8) C d_Bdr_init_15 rfl ?_
  refine r_put C hq_Bdr d_Bdr_init_17 (j := 4) (fs' := [_, _, _, _, _, _, _]) (Nat.le_of_ble_eq_true rfl) mf_Bdr_19 rfl rfl rfl rfl (hw_us _ _ _) (Nat.le_of_ble_eq_true rfl) rfl ?_
  refine r_vret C E rfl d_Bdr_init_20 (Nat.le_of_ble_eq_true rfl) (Nat.le_of_ble_eq_true rfl) ?_
  exact ⟨rfl, by rw [hw_uu, hw_uu]⟩

set_option maxHeartbeats 4000000 in
set_option maxRecDepth 100000 in
theorem k_Dis_init (Y : hY) (l : Launch) {f : hw_F} {b : Nat} (h0 : f b = some (.inr (4, [.null, .int 0]))) (w : Nat) (r : Int32) : hM Y l y_Dis_init S_Dis_init (none) [.ref b, .ref w, .int r] f (fun v f' => v = none ∧ f' = hw_u f b (.inr (4, [.ref w, .int r]))) := by
  refine hM.of (by decide) rfl (Nat.le_of_ble_eq_true rfl) ?_
  intro X hl hnm C E
  show hG Y X S_Dis_init 0 0 f [(0, .ref b), (1, .ref w), (2, .int r)] [] 0
  refine r_aload_n C d_Dis_init_0 rfl rfl ?_
  refine r_objInit C d_Dis_init_1 ml_Dis_1 mi_obj mo_obj (Nat.le_of_ble_eq_true rfl) (Nat.le_of_ble_eq_true rfl) ?_
  refine r_aload_n C d_Dis_init_4 rfl rfl ?_
  refine r_aload_n C d_Dis_init_5 rfl rfl ?_
  refine r_putF C hq_Dis d_Dis_init_6 (j := 0) (fs' := [_, _]) (Nat.le_of_ble_eq_true rfl) mf_Dis_7 rfl hnm rfl rfl rfl rfl (h0) (Nat.le_of_ble_eq_true rfl) rfl ?_
  refine r_aload_n C d_Dis_init_9 rfl rfl ?_
  refine r_iload_n C d_Dis_init_10 rfl rfl ?_
  refine r_putF C hq_Dis d_Dis_init_11 (j := 1) (fs' := [_, _]) (Nat.le_of_ble_eq_true rfl) mf_Dis_13 rfl hnm rfl rfl rfl rfl (hw_us _ _ _) (Nat.le_of_ble_eq_true rfl) rfl ?_
  refine r_vret C E rfl d_Dis_init_14 (Nat.le_of_ble_eq_true rfl) (Nat.le_of_ble_eq_true rfl) ?_
  exact ⟨rfl, by rw [hw_uu]⟩

