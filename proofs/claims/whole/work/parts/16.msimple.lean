set_option maxHeartbeats 4000000 in
set_option maxRecDepth 100000 in
theorem m_isLot (Y : hY) (l : Launch) {ad : Nat → Nat → Nat} {s : zS} {tk : Nat → Bool} {f : hw_F} (P : mPic Y ad s tk f) (x : Int32) : hM Y l y_Mod_isLot S_Mod_isLot (some .boolean) [.ref (ad 0 0), .int x] f (fun r f' => r = some (.int (bI (z_at x (z_nL s)).isSome)) ∧ f' = f) := by
  refine hM.of (by decide) rfl (Nat.le_of_ble_eq_true rfl) ?_
  intro X hl hnm C E
  show hG Y X S_Mod_isLot 0 0 f [(0, .ref (ad 0 0)), (1, .int x)] [] 0
  refine r_iload_n C d_Mod_isLot_0 rfl rfl ?_
  refine r_if_lt (tgt := 16) C d_Mod_isLot_1 rfl (fun c_1 => ?_) (fun c_1 => ?_)
  · skip
    refine r_iconst (v := 0) C d_Mod_isLot_16 rfl ?_
    refine r_zret C E rfl d_Mod_isLot_17 (rfl) (Nat.le_of_ble_eq_true rfl) (Nat.le_of_ble_eq_true rfl) ?_
    refine ⟨?_, rfl⟩
    first | (rw [z_at_neg c_1]; rfl) | (rw [z_at_big (n := z_nL s) (Int32.not_lt.mpr c_9)]; rfl) | (unfold z_at; rw [if_pos ⟨Int32.not_lt.mp c_1, Int32.not_le.mp c_9⟩]; rfl)
  · skip
    refine r_iload_n C d_Mod_isLot_4 rfl rfl ?_
    refine r_aload_n C d_Mod_isLot_5 rfl rfl ?_
    refine r_get C hq_Mod d_Mod_isLot_6 (j := 0) (Nat.le_of_ble_eq_true rfl) mf_Mod_75 (mp_0 P) rfl ?_
    refine r_icmp_ge (tgt := 16) C d_Mod_isLot_9 rfl (fun c_9 => ?_) (fun c_9 => ?_)
    · skip
      refine r_iconst (v := 0) C d_Mod_isLot_16 rfl ?_
      refine r_zret C E rfl d_Mod_isLot_17 (rfl) (Nat.le_of_ble_eq_true rfl) (Nat.le_of_ble_eq_true rfl) ?_
      refine ⟨?_, rfl⟩
      first | (rw [z_at_neg c_1]; rfl) | (rw [z_at_big (n := z_nL s) (Int32.not_lt.mpr c_9)]; rfl) | (unfold z_at; rw [if_pos ⟨Int32.not_lt.mp c_1, Int32.not_le.mp c_9⟩]; rfl)
    · skip
      refine r_iconst (v := 1) C d_Mod_isLot_12 rfl ?_
      refine r_goto (tgt := 17) C d_Mod_isLot_13 rfl ?_
      refine r_zret C E rfl d_Mod_isLot_17 (rfl) (Nat.le_of_ble_eq_true rfl) (Nat.le_of_ble_eq_true rfl) ?_
      refine ⟨?_, rfl⟩
      first | (rw [z_at_neg c_1]; rfl) | (rw [z_at_big (n := z_nL s) (Int32.not_lt.mpr c_9)]; rfl) | (unfold z_at; rw [if_pos ⟨Int32.not_lt.mp c_1, Int32.not_le.mp c_9⟩]; rfl)

set_option maxHeartbeats 4000000 in
set_option maxRecDepth 100000 in
theorem m_isBidder (Y : hY) (l : Launch) {ad : Nat → Nat → Nat} {s : zS} {tk : Nat → Bool} {f : hw_F} (P : mPic Y ad s tk f) (x : Int32) : hM Y l y_Mod_isBidder S_Mod_isBidder (some .boolean) [.ref (ad 0 0), .int x] f (fun r f' => r = some (.int (bI (z_at x (z_nB s)).isSome)) ∧ f' = f) := by
  refine hM.of (by decide) rfl (Nat.le_of_ble_eq_true rfl) ?_
  intro X hl hnm C E
  show hG Y X S_Mod_isBidder 0 0 f [(0, .ref (ad 0 0)), (1, .int x)] [] 0
  refine r_iload_n C d_Mod_isBidder_0 rfl rfl ?_
  refine r_if_lt (tgt := 16) C d_Mod_isBidder_1 rfl (fun c_1 => ?_) (fun c_1 => ?_)
  · skip
    refine r_iconst (v := 0) C d_Mod_isBidder_16 rfl ?_
    refine r_zret C E rfl d_Mod_isBidder_17 (rfl) (Nat.le_of_ble_eq_true rfl) (Nat.le_of_ble_eq_true rfl) ?_
    refine ⟨?_, rfl⟩
    first | (rw [z_at_neg c_1]; rfl) | (rw [z_at_big (n := z_nB s) (Int32.not_lt.mpr c_9)]; rfl) | (unfold z_at; rw [if_pos ⟨Int32.not_lt.mp c_1, Int32.not_le.mp c_9⟩]; rfl)
  · skip
    refine r_iload_n C d_Mod_isBidder_4 rfl rfl ?_
    refine r_aload_n C d_Mod_isBidder_5 rfl rfl ?_
    refine r_get C hq_Mod d_Mod_isBidder_6 (j := 1) (Nat.le_of_ble_eq_true rfl) mf_Mod_79 (mp_0 P) rfl ?_
    refine r_icmp_ge (tgt := 16) C d_Mod_isBidder_9 rfl (fun c_9 => ?_) (fun c_9 => ?_)
    · skip
      refine r_iconst (v := 0) C d_Mod_isBidder_16 rfl ?_
      refine r_zret C E rfl d_Mod_isBidder_17 (rfl) (Nat.le_of_ble_eq_true rfl) (Nat.le_of_ble_eq_true rfl) ?_
      refine ⟨?_, rfl⟩
      first | (rw [z_at_neg c_1]; rfl) | (rw [z_at_big (n := z_nB s) (Int32.not_lt.mpr c_9)]; rfl) | (unfold z_at; rw [if_pos ⟨Int32.not_lt.mp c_1, Int32.not_le.mp c_9⟩]; rfl)
    · skip
      refine r_iconst (v := 1) C d_Mod_isBidder_12 rfl ?_
      refine r_goto (tgt := 17) C d_Mod_isBidder_13 rfl ?_
      refine r_zret C E rfl d_Mod_isBidder_17 (rfl) (Nat.le_of_ble_eq_true rfl) (Nat.le_of_ble_eq_true rfl) ?_
      refine ⟨?_, rfl⟩
      first | (rw [z_at_neg c_1]; rfl) | (rw [z_at_big (n := z_nB s) (Int32.not_lt.mpr c_9)]; rfl) | (unfold z_at; rw [if_pos ⟨Int32.not_lt.mp c_1, Int32.not_le.mp c_9⟩]; rfl)

set_option maxHeartbeats 4000000 in
set_option maxRecDepth 100000 in
theorem m_isBid (Y : hY) (l : Launch) {ad : Nat → Nat → Nat} {s : zS} {tk : Nat → Bool} {f : hw_F} (P : mPic Y ad s tk f) (x : Int32) : hM Y l y_Mod_isBid S_Mod_isBid (some .boolean) [.ref (ad 0 0), .int x] f (fun r f' => r = some (.int (bI (z_at x (z_nD s)).isSome)) ∧ f' = f) := by
  refine hM.of (by decide) rfl (Nat.le_of_ble_eq_true rfl) ?_
  intro X hl hnm C E
  show hG Y X S_Mod_isBid 0 0 f [(0, .ref (ad 0 0)), (1, .int x)] [] 0
  refine r_iload_n C d_Mod_isBid_0 rfl rfl ?_
  refine r_if_lt (tgt := 16) C d_Mod_isBid_1 rfl (fun c_1 => ?_) (fun c_1 => ?_)
  · skip
    refine r_iconst (v := 0) C d_Mod_isBid_16 rfl ?_
    refine r_zret C E rfl d_Mod_isBid_17 (rfl) (Nat.le_of_ble_eq_true rfl) (Nat.le_of_ble_eq_true rfl) ?_
    refine ⟨?_, rfl⟩
    first | (rw [z_at_neg c_1]; rfl) | (rw [z_at_big (n := z_nD s) (Int32.not_lt.mpr c_9)]; rfl) | (unfold z_at; rw [if_pos ⟨Int32.not_lt.mp c_1, Int32.not_le.mp c_9⟩]; rfl)
  · skip
    refine r_iload_n C d_Mod_isBid_4 rfl rfl ?_
    refine r_aload_n C d_Mod_isBid_5 rfl rfl ?_
    refine r_get C hq_Mod d_Mod_isBid_6 (j := 8) (Nat.le_of_ble_eq_true rfl) mf_Mod_82 (mp_0 P) rfl ?_
    refine r_icmp_ge (tgt := 16) C d_Mod_isBid_9 rfl (fun c_9 => ?_) (fun c_9 => ?_)
    · skip
      refine r_iconst (v := 0) C d_Mod_isBid_16 rfl ?_
      refine r_zret C E rfl d_Mod_isBid_17 (rfl) (Nat.le_of_ble_eq_true rfl) (Nat.le_of_ble_eq_true rfl) ?_
      refine ⟨?_, rfl⟩
      first | (rw [z_at_neg c_1]; rfl) | (rw [z_at_big (n := z_nD s) (Int32.not_lt.mpr c_9)]; rfl) | (unfold z_at; rw [if_pos ⟨Int32.not_lt.mp c_1, Int32.not_le.mp c_9⟩]; rfl)
    · skip
      refine r_iconst (v := 1) C d_Mod_isBid_12 rfl ?_
      refine r_goto (tgt := 17) C d_Mod_isBid_13 rfl ?_
      refine r_zret C E rfl d_Mod_isBid_17 (rfl) (Nat.le_of_ble_eq_true rfl) (Nat.le_of_ble_eq_true rfl) ?_
      refine ⟨?_, rfl⟩
      first | (rw [z_at_neg c_1]; rfl) | (rw [z_at_big (n := z_nD s) (Int32.not_lt.mpr c_9)]; rfl) | (unfold z_at; rw [if_pos ⟨Int32.not_lt.mp c_1, Int32.not_le.mp c_9⟩]; rfl)

set_option maxHeartbeats 4000000 in
set_option maxRecDepth 100000 in
theorem m_lot (Y : hY) (l : Launch) {ad : Nat → Nat → Nat} {s : zS} {tk : Nat → Bool} {f : hw_F} (P : mPic Y ad s tk f) (N : zN s) (g : Int64) : hM Y l y_Mod_lot S_Mod_lot (some .int) [.ref (ad 0 0), .long g] f (fun r f' => r = some (.int (za_lot s g).1) ∧ ∃ tk', mPic Y ad (za_lot s g).2 tk' f') := by
  refine hM.of (by decide) rfl (Nat.le_of_ble_eq_true rfl) ?_
  intro X hl hnm C E
  show hG Y X S_Mod_lot 0 0 f [(0, .ref (ad 0 0)), (1, .long g)] [] 0
  refine r_aload_n C d_Mod_lot_0 rfl rfl ?_
  refine r_get C hq_Mod d_Mod_lot_1 (j := 0) (Nat.le_of_ble_eq_true rfl) mf_Mod_75 (mp_0 P) rfl ?_
  refine r_bipush (v := 8) C d_Mod_lot_4 rfl ?_
  refine r_icmp_eq (tgt := 23) C d_Mod_lot_6 rfl (fun c_6 => ?_) (fun c_6 => ?_)
  · skip
    have hz : za_lot s g = (-1, s) := by
      have : z_nL s = 8 := (nI_eq (a := z_nL s) (b := 8) (by have := N.1; omega) (by decide)).mp c_6
      simp [za_lot, this]
    refine r_iconst (v := (-1)) C d_Mod_lot_23 rfl ?_
    refine r_iret C E rfl d_Mod_lot_24 (Nat.le_of_ble_eq_true rfl) (Nat.le_of_ble_eq_true rfl) ?_
    rw [hz]
    exact ⟨rfl, tk, P⟩
  · skip
    have c6 : z_nL s < 8 := by
      have h1 := N.1
      rcases Nat.lt_or_ge (z_nL s) 8 with h | h
      · exact h
      · exact absurd (show nI (z_nL s) = 8 by rw [show z_nL s = 8 by omega]; rfl) c_6
    refine r_lload_n C d_Mod_lot_9 rfl rfl ?_
    refine r_lconst (v := 1) C d_Mod_lot_10 rfl ?_
    refine r_lcmp C d_Mod_lot_11 ?_
    refine r_if_lt (tgt := 23) C d_Mod_lot_12 rfl (fun c_12 => ?_) (fun c_12 => ?_)
    · skip
      rw [lg_cmp_lt] at c_12
      have hz : za_lot s g = (-1, s) := by simp [za_lot, k_inF1 c_12]
      refine r_iconst (v := (-1)) C d_Mod_lot_23 rfl ?_
      refine r_iret C E rfl d_Mod_lot_24 (Nat.le_of_ble_eq_true rfl) (Nat.le_of_ble_eq_true rfl) ?_
      rw [hz]
      exact ⟨rfl, tk, P⟩
    · skip
      rw [lg_cmp_lt] at c_12
      refine r_lload_n C d_Mod_lot_15 rfl rfl ?_
      refine r_ldc2 C d_Mod_lot_16 mn_Mod_85 ?_
      refine r_lcmp C d_Mod_lot_19 ?_
      refine r_if_le (tgt := 25) C d_Mod_lot_20 rfl (fun c_20 => ?_) (fun c_20 => ?_)
      · skip
        rw [lg_cmp_le] at c_20
        have hz : za_lot s g = (nI (z_nL s), zu_lot s) := by simp [za_lot, k_inT c_12 c_20, c6]
        refine r_aload_n C d_Mod_lot_25 rfl rfl ?_
        refine r_dup C d_Mod_lot_26 rfl ?_
        refine r_get C hq_Mod d_Mod_lot_27 (j := 0) (Nat.le_of_ble_eq_true rfl) mf_Mod_75 (mp_0 P) rfl ?_
        refine r_iconst (v := 1) C d_Mod_lot_30 rfl ?_
        refine r_iadd C d_Mod_lot_31 ?_
        refine r_put C hq_Mod d_Mod_lot_32 (j := 0) (fs' := [_, _, _, _, _, _, _, _, _, _, _, _, _, _, _, _, _, _, _, _, _, _, _, _, _, _, _, _]) (Nat.le_of_ble_eq_true rfl) mf_Mod_75 rfl rfl rfl rfl (mp_0 P) (Nat.le_of_ble_eq_true rfl) rfl ?_
        refine r_aload_n C d_Mod_lot_35 rfl rfl ?_
        refine r_iconst (v := 0) C d_Mod_lot_36 rfl ?_
        refine r_put C hq_Mod d_Mod_lot_37 (j := 13) (fs' := [_, _, _, _, _, _, _, _, _, _, _, _, _, _, _, _, _, _, _, _, _, _, _, _, _, _, _, _]) (Nat.le_of_ble_eq_true rfl) mf_Mod_87 rfl rfl rfl rfl (hw_us _ _ _) (Nat.le_of_ble_eq_true rfl) rfl ?_
        refine r_aload_n C d_Mod_lot_40 rfl rfl ?_
        refine r_get C hq_Mod d_Mod_lot_41 (j := 0) (Nat.le_of_ble_eq_true rfl) mf_Mod_75 (hw_us _ _ _) rfl ?_
        refine r_iconst (v := 1) C d_Mod_lot_44 rfl ?_
        refine r_isub C d_Mod_lot_45 ?_
        refine r_iret C E rfl d_Mod_lot_46 (Nat.le_of_ble_eq_true rfl) (Nat.le_of_ble_eq_true rfl) ?_
        rw [hz]
        refine ⟨by rw [nI_1, nI_m1], tk, ?_⟩
        exact mEnd (mPut (mPut P 0 (by decide) _) 0 (by decide) _) (lt22 (by rw [nI_1]; rfl) rfl rfl rfl rfl rfl rfl rfl rfl rfl rfl rfl rfl rfl rfl rfl rfl rfl rfl rfl rfl rfl)
      · skip
        rw [lg_cmp_le] at c_20
        have hz : za_lot s g = (-1, s) := by simp [za_lot, k_inF2 c_20]
        refine r_iconst (v := (-1)) C d_Mod_lot_23 rfl ?_
        refine r_iret C E rfl d_Mod_lot_24 (Nat.le_of_ble_eq_true rfl) (Nat.le_of_ble_eq_true rfl) ?_
        rw [hz]
        exact ⟨rfl, tk, P⟩

