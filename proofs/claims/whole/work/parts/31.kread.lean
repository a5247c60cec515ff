set_option maxHeartbeats 4000000 in
set_option maxRecDepth 100000 in
theorem k_BT_lotAt (Y : hY) (l : Launch) {ad : Nat → Nat → Nat} {s : zS} {x : kX} {t : Bool} {f : hw_F} (P : kPic Y ad s x t f) (N : zN s) (y : Int32) : hM Y l y_BT_lotAt S_BT_lotAt (some (.object "BaleTenders$Lot")) [.ref (ad 0 0), .int y] f (fun r f' => r = some (va_rf ((z_at y (z_nL s)).map (ad 10))) ∧ f' = f) := by
  refine hM.of (by decide) rfl (Nat.le_of_ble_eq_true rfl) ?_
  intro X hl hnm C E
  show hG Y X S_BT_lotAt 0 0 f [(0, .ref (ad 0 0)), (1, .int y)] [] 0
  refine r_iload_n C d_BT_lotAt_0 rfl rfl ?_
  refine r_if_lt (tgt := 21) C d_BT_lotAt_1 rfl (fun c_1 => ?_) (fun c_1 => ?_)
  · skip
    have hz := z_at_neg (n := z_nL s) c_1
    refine r_null C d_BT_lotAt_21 ?_
    refine r_aret C E rfl (Or.inl rfl) d_BT_lotAt_22 (Nat.le_of_ble_eq_true rfl) (Nat.le_of_ble_eq_true rfl) ?_
    exact ⟨by rw [hz]; rfl, rfl⟩
  · skip
    refine r_iload_n C d_BT_lotAt_4 rfl rfl ?_
    refine r_aload_n C d_BT_lotAt_5 rfl rfl ?_
    refine r_get C hq_BT d_BT_lotAt_6 (j := 7) (Nat.le_of_ble_eq_true rfl) mf_BT_47 (kp_0 P) rfl ?_
    refine r_icmp_ge (tgt := 21) C d_BT_lotAt_9 rfl (fun c_9 => ?_) (fun c_9 => ?_)
    · skip
      have hz := z_at_big (n := z_nL s) (Int32.not_lt.mpr c_9)
      refine r_null C d_BT_lotAt_21 ?_
      refine r_aret C E rfl (Or.inl rfl) d_BT_lotAt_22 (Nat.le_of_ble_eq_true rfl) (Nat.le_of_ble_eq_true rfl) ?_
      exact ⟨by rw [hz]; rfl, rfl⟩
    · skip
      obtain ⟨i, hz⟩ : ∃ i, z_at y (z_nL s) = some i := ⟨_, by unfold z_at; exact if_pos ⟨Int32.not_lt.mp c_1, Int32.not_le.mp c_9⟩⟩
      obtain ⟨hi, rfl⟩ := z_at_some (by have := N.1; omega) hz
      refine r_aload_n C d_BT_lotAt_12 rfl rfl ?_
      refine r_get C hq_BT d_BT_lotAt_13 (j := 0) (Nat.le_of_ble_eq_true rfl) mf_BT_11 (kp_0 P) rfl ?_
      refine r_iload_n C d_BT_lotAt_16 rfl rfl ?_
      refine r_aald (t0 := 3) C d_BT_lotAt_17 (kp_1 P) rfl (rfl) (by have := N.1; omega) (by decide) (if_pos hi) ?_
      refine r_goto (tgt := 22) C d_BT_lotAt_18 rfl ?_
      refine r_aret C E rfl (Or.inr ⟨_, rfl⟩) d_BT_lotAt_22 (Nat.le_of_ble_eq_true rfl) (Nat.le_of_ble_eq_true rfl) ?_
      exact ⟨by rw [hz]; rfl, rfl⟩

set_option maxHeartbeats 4000000 in
set_option maxRecDepth 100000 in
theorem k_BT_bidderAt (Y : hY) (l : Launch) {ad : Nat → Nat → Nat} {s : zS} {x : kX} {t : Bool} {f : hw_F} (P : kPic Y ad s x t f) (N : zN s) (y : Int32) : hM Y l y_BT_bidderAt S_BT_bidderAt (some (.object "BaleTenders$Bidder")) [.ref (ad 0 0), .int y] f (fun r f' => r = some (va_rf ((z_at y (z_nB s)).map (ad 14))) ∧ f' = f) := by
  refine hM.of (by decide) rfl (Nat.le_of_ble_eq_true rfl) ?_
  intro X hl hnm C E
  show hG Y X S_BT_bidderAt 0 0 f [(0, .ref (ad 0 0)), (1, .int y)] [] 0
  refine r_iload_n C d_BT_bidderAt_0 rfl rfl ?_
  refine r_if_lt (tgt := 21) C d_BT_bidderAt_1 rfl (fun c_1 => ?_) (fun c_1 => ?_)
  · skip
    have hz := z_at_neg (n := z_nB s) c_1
    refine r_null C d_BT_bidderAt_21 ?_
    refine r_aret C E rfl (Or.inl rfl) d_BT_bidderAt_22 (Nat.le_of_ble_eq_true rfl) (Nat.le_of_ble_eq_true rfl) ?_
    exact ⟨by rw [hz]; rfl, rfl⟩
  · skip
    refine r_iload_n C d_BT_bidderAt_4 rfl rfl ?_
    refine r_aload_n C d_BT_bidderAt_5 rfl rfl ?_
    refine r_get C hq_BT d_BT_bidderAt_6 (j := 8) (Nat.le_of_ble_eq_true rfl) mf_BT_62 (kp_0 P) rfl ?_
    refine r_icmp_ge (tgt := 21) C d_BT_bidderAt_9 rfl (fun c_9 => ?_) (fun c_9 => ?_)
    · skip
      have hz := z_at_big (n := z_nB s) (Int32.not_lt.mpr c_9)
      refine r_null C d_BT_bidderAt_21 ?_
      refine r_aret C E rfl (Or.inl rfl) d_BT_bidderAt_22 (Nat.le_of_ble_eq_true rfl) (Nat.le_of_ble_eq_true rfl) ?_
      exact ⟨by rw [hz]; rfl, rfl⟩
    · skip
      obtain ⟨i, hz⟩ : ∃ i, z_at y (z_nB s) = some i := ⟨_, by unfold z_at; exact if_pos ⟨Int32.not_lt.mp c_1, Int32.not_le.mp c_9⟩⟩
      obtain ⟨hi, rfl⟩ := z_at_some (by have := N.2.1; omega) hz
      refine r_aload_n C d_BT_bidderAt_12 rfl rfl ?_
      refine r_get C hq_BT d_BT_bidderAt_13 (j := 1) (Nat.le_of_ble_eq_true rfl) mf_BT_17 (kp_0 P) rfl ?_
      refine r_iload_n C d_BT_bidderAt_16 rfl rfl ?_
      refine r_aald (t0 := 4) C d_BT_bidderAt_17 (kp_2 P) rfl (rfl) (by have := N.2.1; omega) (by decide) (if_pos hi) ?_
      refine r_goto (tgt := 22) C d_BT_bidderAt_18 rfl ?_
      refine r_aret C E rfl (Or.inr ⟨_, rfl⟩) d_BT_bidderAt_22 (Nat.le_of_ble_eq_true rfl) (Nat.le_of_ble_eq_true rfl) ?_
      exact ⟨by rw [hz]; rfl, rfl⟩

set_option maxHeartbeats 4000000 in
set_option maxRecDepth 100000 in
theorem k_BT_bidAt (Y : hY) (l : Launch) {ad : Nat → Nat → Nat} {s : zS} {x : kX} {t : Bool} {f : hw_F} (P : kPic Y ad s x t f) (N : zN s) (y : Int32) : hM Y l y_BT_bidAt S_BT_bidAt (some (.object "BaleTenders$Bid")) [.ref (ad 0 0), .int y] f (fun r f' => r = some (va_rf ((z_at y (z_nD s)).map (ad 15))) ∧ f' = f) := by
  refine hM.of (by decide) rfl (Nat.le_of_ble_eq_true rfl) ?_
  intro X hl hnm C E
  show hG Y X S_BT_bidAt 0 0 f [(0, .ref (ad 0 0)), (1, .int y)] [] 0
  refine r_iload_n C d_BT_bidAt_0 rfl rfl ?_
  refine r_if_lt (tgt := 21) C d_BT_bidAt_1 rfl (fun c_1 => ?_) (fun c_1 => ?_)
  · skip
    have hz := z_at_neg (n := z_nD s) c_1
    refine r_null C d_BT_bidAt_21 ?_
    refine r_aret C E rfl (Or.inl rfl) d_BT_bidAt_22 (Nat.le_of_ble_eq_true rfl) (Nat.le_of_ble_eq_true rfl) ?_
    exact ⟨by rw [hz]; rfl, rfl⟩
  · skip
    refine r_iload_n C d_BT_bidAt_4 rfl rfl ?_
    refine r_aload_n C d_BT_bidAt_5 rfl rfl ?_
    refine r_get C hq_BT d_BT_bidAt_6 (j := 9) (Nat.le_of_ble_eq_true rfl) mf_BT_81 (kp_0 P) rfl ?_
    refine r_icmp_ge (tgt := 21) C d_BT_bidAt_9 rfl (fun c_9 => ?_) (fun c_9 => ?_)
    · skip
      have hz := z_at_big (n := z_nD s) (Int32.not_lt.mpr c_9)
      refine r_null C d_BT_bidAt_21 ?_
      refine r_aret C E rfl (Or.inl rfl) d_BT_bidAt_22 (Nat.le_of_ble_eq_true rfl) (Nat.le_of_ble_eq_true rfl) ?_
      exact ⟨by rw [hz]; rfl, rfl⟩
    · skip
      obtain ⟨i, hz⟩ : ∃ i, z_at y (z_nD s) = some i := ⟨_, by unfold z_at; exact if_pos ⟨Int32.not_lt.mp c_1, Int32.not_le.mp c_9⟩⟩
      obtain ⟨hi, rfl⟩ := z_at_some (by have := N.2.2.1; omega) hz
      refine r_aload_n C d_BT_bidAt_12 rfl rfl ?_
      refine r_get C hq_BT d_BT_bidAt_13 (j := 2) (Nat.le_of_ble_eq_true rfl) mf_BT_23 (kp_0 P) rfl ?_
      refine r_iload_n C d_BT_bidAt_16 rfl rfl ?_
      refine r_aald (t0 := 5) C d_BT_bidAt_17 (kp_3 P) rfl (rfl) (by have := N.2.2.1; omega) (by decide) (if_pos hi) ?_
      refine r_goto (tgt := 22) C d_BT_bidAt_18 rfl ?_
      refine r_aret C E rfl (Or.inr ⟨_, rfl⟩) d_BT_bidAt_22 (Nat.le_of_ble_eq_true rfl) (Nat.le_of_ble_eq_true rfl) ?_
      exact ⟨by rw [hz]; rfl, rfl⟩

set_option maxHeartbeats 4000000 in
set_option maxRecDepth 100000 in
theorem k_BT_disputeAt (Y : hY) (l : Launch) {ad : Nat → Nat → Nat} {s : zS} {x : kX} {t : Bool} {f : hw_F} (P : kPic Y ad s x t f) (N : zN s) (y : Int32) : hM Y l y_BT_disputeAt S_BT_disputeAt (some (.object "BaleTenders$Dispute")) [.ref (ad 0 0), .int y] f (fun r f' => r = some (va_rf ((z_at y (z_nP s)).map (ad 16))) ∧ f' = f) := by
  refine hM.of (by decide) rfl (Nat.le_of_ble_eq_true rfl) ?_
  intro X hl hnm C E
  show hG Y X S_BT_disputeAt 0 0 f [(0, .ref (ad 0 0)), (1, .int y)] [] 0
  refine r_iload_n C d_BT_disputeAt_0 rfl rfl ?_
  refine r_if_lt (tgt := 21) C d_BT_disputeAt_1 rfl (fun c_1 => ?_) (fun c_1 => ?_)
  · skip
    have hz := z_at_neg (n := z_nP s) c_1
    refine r_null C d_BT_disputeAt_21 ?_
    refine r_aret C E rfl (Or.inl rfl) d_BT_disputeAt_22 (Nat.le_of_ble_eq_true rfl) (Nat.le_of_ble_eq_true rfl) ?_
    exact ⟨by rw [hz]; rfl, rfl⟩
  · skip
    refine r_iload_n C d_BT_disputeAt_4 rfl rfl ?_
    refine r_aload_n C d_BT_disputeAt_5 rfl rfl ?_
    refine r_get C hq_BT d_BT_disputeAt_6 (j := 10) (Nat.le_of_ble_eq_true rfl) mf_BT_228 (kp_0 P) rfl ?_
    refine r_icmp_ge (tgt := 21) C d_BT_disputeAt_9 rfl (fun c_9 => ?_) (fun c_9 => ?_)
    · skip
      have hz := z_at_big (n := z_nP s) (Int32.not_lt.mpr c_9)
      refine r_null C d_BT_disputeAt_21 ?_
      refine r_aret C E rfl (Or.inl rfl) d_BT_disputeAt_22 (Nat.le_of_ble_eq_true rfl) (Nat.le_of_ble_eq_true rfl) ?_
      exact ⟨by rw [hz]; rfl, rfl⟩
    · skip
      obtain ⟨i, hz⟩ : ∃ i, z_at y (z_nP s) = some i := ⟨_, by unfold z_at; exact if_pos ⟨Int32.not_lt.mp c_1, Int32.not_le.mp c_9⟩⟩
      obtain ⟨hi, rfl⟩ := z_at_some (by have := N.2.2.2.1; omega) hz
      refine r_aload_n C d_BT_disputeAt_12 rfl rfl ?_
      refine r_get C hq_BT d_BT_disputeAt_13 (j := 3) (Nat.le_of_ble_eq_true rfl) mf_BT_29 (kp_0 P) rfl ?_
      refine r_iload_n C d_BT_disputeAt_16 rfl rfl ?_
      refine r_aald (t0 := 6) C d_BT_disputeAt_17 (kp_4 P) rfl (rfl) (by have := N.2.2.2.1; omega) (by decide) (if_pos hi) ?_
      refine r_goto (tgt := 22) C d_BT_disputeAt_18 rfl ?_
      refine r_aret C E rfl (Or.inr ⟨_, rfl⟩) d_BT_disputeAt_22 (Nat.le_of_ble_eq_true rfl) (Nat.le_of_ble_eq_true rfl) ?_
      exact ⟨by rw [hz]; rfl, rfl⟩

set_option maxHeartbeats 4000000 in
set_option maxRecDepth 100000 in
theorem k_BT_unopenedAt (Y : hY) (l : Launch) {ad : Nat → Nat → Nat} {s : zS} {x : kX} {t : Bool} {f : hw_F} (P : kPic Y ad s x t f) (N : zN s) (y : Int32) : hM Y l y_BT_unopenedAt S_BT_unopenedAt (some (.object "BaleTenders$Bidder")) [.ref (ad 0 0), .int y] f (fun r f' => r = some (va_rf ((za_unop s y).map (ad 14))) ∧ f' = f) := by
  refine hM.of (by decide) rfl (Nat.le_of_ble_eq_true rfl) ?_
  intro X hl hnm C E
  show hG Y X S_BT_unopenedAt 0 0 f [(0, .ref (ad 0 0)), (1, .int y)] [] 0
  refine r_aload_n C d_BT_unopenedAt_0 rfl rfl ?_
  refine r_iload_n C d_BT_unopenedAt_1 rfl rfl ?_
  refine r_callV C (k_BT_bidderAt Y _ P N _) mQ_BT_bidderAt d_BT_unopenedAt_2 ml_BT_127 mi_BT_bidderAt mv_BT_bidderAt (kp_0 P) rfl rfl rfl rfl (Nat.le_of_ble_eq_true rfl) ⟨⟨Nat.le_of_ble_eq_true rfl, Nat.le_of_ble_eq_true rfl⟩, Nat.le_of_ble_eq_true rfl, Nat.le_of_ble_eq_true rfl⟩ (fun v f' hp => ?_)
  obtain ⟨rfl, hf⟩ := hp
  replace hf := hf.symm
  subst hf
  rcases z_at_case y (n := z_nB s) (by have := N.2.1; omega) with ⟨hz, -⟩ | ⟨i, hi, rfl, hz⟩
  · rw [hz]
    refine r_astore_nN (lv' := [(2, _), (0, _), (1, _)]) C d_BT_unopenedAt_5 rfl (Nat.le_of_ble_eq_true rfl) rfl ?_
    refine r_aload_nN C d_BT_unopenedAt_6 rfl rfl ?_
    refine r_ifnullN (tgt := 21) C d_BT_unopenedAt_7 rfl ?_
    refine r_null C d_BT_unopenedAt_21 ?_
    refine r_aret C E rfl (Or.inl rfl) d_BT_unopenedAt_22 (Nat.le_of_ble_eq_true rfl) (Nat.le_of_ble_eq_true rfl) ?_
    exact ⟨by simp [za_unop, hz, va_rf], rfl⟩
  · rw [hz]
    refine r_astore_n (lv' := [(2, _), (0, _), (1, _)]) C d_BT_unopenedAt_5 rfl (Nat.le_of_ble_eq_true rfl) rfl ?_
    refine r_aload_n C d_BT_unopenedAt_6 rfl rfl ?_
    refine r_ifnull C d_BT_unopenedAt_7 ?_
    refine r_aload_n C d_BT_unopenedAt_10 rfl rfl ?_
    refine r_getN C hq_Bdr d_BT_unopenedAt_11 (j := 2) (Nat.le_of_ble_eq_true rfl) mf_BT_101 (kp_14 P (hi)) rfl ?_
    refine r_if_ne (tgt := 21) C d_BT_unopenedAt_14 rfl (fun c_14 => ?_) (fun c_14 => ?_)
    · skip
      rw [bI_n0] at c_14
      refine r_null C d_BT_unopenedAt_21 ?_
      refine r_aret C E rfl (Or.inl rfl) d_BT_unopenedAt_22 (Nat.le_of_ble_eq_true rfl) (Nat.le_of_ble_eq_true rfl) ?_
      exact ⟨by simp [za_unop, hz, c_14, va_rf], rfl⟩
    · skip
      rw [bI_0] at c_14
      refine r_aload_n C d_BT_unopenedAt_17 rfl rfl ?_
      refine r_goto (tgt := 22) C d_BT_unopenedAt_18 rfl ?_
      refine r_aret C E rfl (Or.inr ⟨_, rfl⟩) d_BT_unopenedAt_22 (Nat.le_of_ble_eq_true rfl) (Nat.le_of_ble_eq_true rfl) ?_
      exact ⟨by simp [za_unop, hz, c_14, va_rf], rfl⟩

set_option maxHeartbeats 4000000 in
set_option maxRecDepth 100000 in
theorem k_Sea_hasWinner (Y : hY) (l : Launch) {f : hw_F} (a : Nat) (og bw : Value) (oc : Int32) (bs : Int64) (wi so : Int32) (hs : f a = some (.inr (5, [og, bw, .int oc, .long bs, .int wi, .int so]))) (b : Nat) (n : Int32) (ow : Value) (c : Int64) (ls : Int32) (he : f b = some (.inr (3, [.int n, ow, .long c, .int ls]))) : hM Y l y_Sea_hasWinner S_Sea_hasWinner (some .boolean) [.ref a, .ref b] f (fun r f' => r = some (.int (bI (k_bt wi n))) ∧ f' = f) := by
  refine hM.of (by decide) rfl (Nat.le_of_ble_eq_true rfl) ?_
  intro X hl hnm C E
  show hG Y X S_Sea_hasWinner 0 0 f [(0, .ref a), (1, .ref b)] [] 0
  refine r_aload_n C d_Sea_hasWinner_0 rfl rfl ?_
  refine r_get C hq_Sea d_Sea_hasWinner_1 (j := 4) (Nat.le_of_ble_eq_true rfl) mf_Sea_27 (hs) rfl ?_
  refine r_aload_n C d_Sea_hasWinner_4 rfl rfl ?_
  refine r_getN C hq_Bid d_Sea_hasWinner_5 (j := 0) (Nat.le_of_ble_eq_true rfl) mf_Sea_31 (he) rfl ?_
  refine r_iushr C d_Sea_hasWinner_8 ?_
  refine r_iconst (v := 1) C d_Sea_hasWinner_9 rfl ?_
  refine r_iand C d_Sea_hasWinner_10 ?_
  refine r_if_eq (tgt := 18) C d_Sea_hasWinner_11 rfl (fun c_11 => ?_) (fun c_11 => ?_)
  · skip
    have e9 : k_bt wi n = false := by simp [k_bt]; exact c_11
    refine r_iconst (v := 0) C d_Sea_hasWinner_18 rfl ?_
    refine r_zret C E rfl d_Sea_hasWinner_19 (rfl) (Nat.le_of_ble_eq_true rfl) (Nat.le_of_ble_eq_true rfl) ?_
    exact ⟨by rw [e9]; rfl, rfl⟩
  · skip
    have e9 : k_bt wi n = true := by simp [k_bt]; exact c_11
    refine r_iconst (v := 1) C d_Sea_hasWinner_14 rfl ?_
    refine r_goto (tgt := 19) C d_Sea_hasWinner_15 rfl ?_
    refine r_zret C E rfl d_Sea_hasWinner_19 (rfl) (Nat.le_of_ble_eq_true rfl) (Nat.le_of_ble_eq_true rfl) ?_
    exact ⟨by rw [e9]; rfl, rfl⟩

set_option maxHeartbeats 4000000 in
set_option maxRecDepth 100000 in
theorem k_Sea_ties (Y : hY) (l : Launch) {f : hw_F} (a : Nat) (og bw : Value) (oc : Int32) (bs : Int64) (wi so : Int32) (hs : f a = some (.inr (5, [og, bw, .int oc, .long bs, .int wi, .int so]))) (b : Nat) (n : Int32) (ow : Value) (c : Int64) (ls : Int32) (he : f b = some (.inr (3, [.int n, ow, .long c, .int ls]))) : hM Y l y_Sea_ties S_Sea_ties (some .boolean) [.ref a, .ref b] f (fun r f' => r = some (.int (bI (k_bt so n && !k_bt wi n))) ∧ f' = f) := by
  refine hM.of (by decide) rfl (Nat.le_of_ble_eq_true rfl) ?_
  intro X hl hnm C E
  show hG Y X S_Sea_ties 0 0 f [(0, .ref a), (1, .ref b)] [] 0
  refine r_aload_n C d_Sea_ties_0 rfl rfl ?_
  refine r_get C hq_Sea d_Sea_ties_1 (j := 5) (Nat.le_of_ble_eq_true rfl) mf_Sea_34 (hs) rfl ?_
  refine r_aload_n C d_Sea_ties_4 rfl rfl ?_
  refine r_getN C hq_Bid d_Sea_ties_5 (j := 0) (Nat.le_of_ble_eq_true rfl) mf_Sea_31 (he) rfl ?_
  refine r_iushr C d_Sea_ties_8 ?_
  refine r_iconst (v := 1) C d_Sea_ties_9 rfl ?_
  refine r_iand C d_Sea_ties_10 ?_
  refine r_if_eq (tgt := 26) C d_Sea_ties_11 rfl (fun c_11 => ?_) (fun c_11 => ?_)
  · skip
    have e9 : k_bt so n = false := by simp [k_bt]; exact c_11
    refine r_iconst (v := 0) C d_Sea_ties_26 rfl ?_
    refine r_zret C E rfl d_Sea_ties_27 (rfl) (Nat.le_of_ble_eq_true rfl) (Nat.le_of_ble_eq_true rfl) ?_
    exact ⟨by first | (rw [e9]; rfl) | (rw [e9, c_19]; rfl), rfl⟩
  · skip
    have e9 : k_bt so n = true := by simp [k_bt]; exact c_11
    refine r_aload_n C d_Sea_ties_14 rfl rfl ?_
    refine r_aload_n C d_Sea_ties_15 rfl rfl ?_
    refine r_callV C (k_Sea_hasWinner Y _ a og bw oc bs wi so hs b n ow c ls he) mQ_Sea_hasWinner d_Sea_ties_16 ml_Sea_37 mi_Sea_hasWinner mv_Sea_hasWinner (hs) rfl rfl rfl rfl (Nat.le_of_ble_eq_true rfl) ⟨⟨Nat.le_of_ble_eq_true rfl, Nat.le_of_ble_eq_true rfl⟩, Nat.le_of_ble_eq_true rfl, Nat.le_of_ble_eq_true rfl⟩ (fun v f' hp => ?_)
    obtain ⟨rfl, hf⟩ := hp
    replace hf := hf.symm
    subst hf
    refine r_if_ne (tgt := 26) C d_Sea_ties_19 rfl (fun c_19 => ?_) (fun c_19 => ?_)
    · skip
      rw [bI_n0] at c_19
      refine r_iconst (v := 0) C d_Sea_ties_26 rfl ?_
      refine r_zret C E rfl d_Sea_ties_27 (rfl) (Nat.le_of_ble_eq_true rfl) (Nat.le_of_ble_eq_true rfl) ?_
      exact ⟨by first | (rw [e9]; rfl) | (rw [e9, c_19]; rfl), rfl⟩
    · skip
      rw [bI_0] at c_19
      refine r_iconst (v := 1) C d_Sea_ties_22 rfl ?_
      refine r_goto (tgt := 27) C d_Sea_ties_23 rfl ?_
      refine r_zret C E rfl d_Sea_ties_27 (rfl) (Nat.le_of_ble_eq_true rfl) (Nat.le_of_ble_eq_true rfl) ?_
      exact ⟨by first | (rw [e9]; rfl) | (rw [e9, c_19]; rfl), rfl⟩

