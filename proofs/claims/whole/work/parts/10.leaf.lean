theorem k_lnl {x y : Int64} (h : ¬ x < y) : y ≤ x := Int64.not_lt.mp h
theorem k_in_val (v a b : Int64) : k_in v a b = if v < a then false else if b < v then false else true := by
  unfold k_in
  by_cases h1 : v < a
  · simp [h1, Int64.not_le.mpr h1]
  · by_cases h2 : b < v
    · simp [h1, h2, Int64.not_le.mpr h2]
    · simp [h1, h2, Int64.not_lt.mp h1, Int64.not_lt.mp h2]
set_option maxHeartbeats 4000000 in
set_option maxRecDepth 100000 in
theorem k_BT_within (Y : hY) (l : Launch) (f : hw_F) (v a b : Int64) : hM Y l y_BT_within S_BT_within (some .boolean) [.long v, .long a, .long b] f (fun r f' => r = some (.int (bI (k_in v a b))) ∧ f' = f) := by
  refine hM.of (by decide) rfl (Nat.le_of_ble_eq_true rfl) ?_
  intro X hl hnm C E
  show hG Y X S_BT_within 0 0 f [(0, .long v), (2, .long a), (4, .long b)] [] 0
  refine r_lload_n C d_BT_within_0 rfl rfl ?_
  refine r_lload_n C d_BT_within_1 rfl rfl ?_
  refine r_lcmp C d_BT_within_2 ?_
  refine r_if_lt (tgt := 17) C d_BT_within_3 rfl (fun c_3 => ?_) (fun c_3 => ?_)
  · skip
    rw [lg_cmp_lt] at c_3
    refine r_iconst (v := 0) C d_BT_within_17 rfl ?_
    refine r_zret C E rfl d_BT_within_18 (rfl) (Nat.le_of_ble_eq_true rfl) (Nat.le_of_ble_eq_true rfl) ?_
    have e : k_in v a b = _ := k_in_val v a b
    exact ⟨by first | (rw [e, if_pos c_3]; rfl) | (rw [e, if_neg c_3, if_pos c_10]; rfl) | (rw [e, if_neg c_3, if_neg c_10]; rfl), rfl⟩
  · skip
    rw [lg_cmp_lt] at c_3
    refine r_lload_n C d_BT_within_6 rfl rfl ?_
    refine r_lload C d_BT_within_7 rfl ?_
    refine r_lcmp C d_BT_within_9 ?_
    refine r_if_gt (tgt := 17) C d_BT_within_10 rfl (fun c_10 => ?_) (fun c_10 => ?_)
    · skip
      rw [lg_cmp_gt] at c_10
      refine r_iconst (v := 0) C d_BT_within_17 rfl ?_
      refine r_zret C E rfl d_BT_within_18 (rfl) (Nat.le_of_ble_eq_true rfl) (Nat.le_of_ble_eq_true rfl) ?_
      have e : k_in v a b = _ := k_in_val v a b
      exact ⟨by first | (rw [e, if_pos c_3]; rfl) | (rw [e, if_neg c_3, if_pos c_10]; rfl) | (rw [e, if_neg c_3, if_neg c_10]; rfl), rfl⟩
    · skip
      rw [lg_cmp_gt] at c_10
      refine r_iconst (v := 1) C d_BT_within_13 rfl ?_
      refine r_goto (tgt := 18) C d_BT_within_14 rfl ?_
      refine r_zret C E rfl d_BT_within_18 (rfl) (Nat.le_of_ble_eq_true rfl) (Nat.le_of_ble_eq_true rfl) ?_
      have e : k_in v a b = _ := k_in_val v a b
      exact ⟨by first | (rw [e, if_pos c_3]; rfl) | (rw [e, if_neg c_3, if_pos c_10]; rfl) | (rw [e, if_neg c_3, if_neg c_10]; rfl), rfl⟩

set_option maxHeartbeats 4000000 in
set_option maxRecDepth 100000 in
theorem k_BT_isSealByte (Y : hY) (l : Launch) (f : hw_F) (i : Int32) : hM Y l y_BT_isSealByte S_BT_isSealByte (some .boolean) [.int i] f (fun r f' => r = some (.int (bI (k_in i.toInt64 0 7))) ∧ f' = f) := by
  refine hM.of (by decide) rfl (Nat.le_of_ble_eq_true rfl) ?_
  intro X hl hnm C E
  show hG Y X S_BT_isSealByte 0 0 f [(0, .int i)] [] 0
  refine r_iload_n C d_BT_isSealByte_0 rfl rfl ?_
  refine r_i2l C d_BT_isSealByte_1 ?_
  refine r_lconst (v := 0) C d_BT_isSealByte_2 rfl ?_
  refine r_ldc2 C d_BT_isSealByte_3 mn_BT_254 ?_
  refine r_callS C (k_BT_within Y _ _ _ _ _) mQ_BT_within d_BT_isSealByte_6 ml_BT_53 mt_BT_within rfl rfl (Nat.le_of_ble_eq_true rfl) ⟨⟨Nat.le_of_ble_eq_true rfl, Nat.le_of_ble_eq_true rfl⟩, Nat.le_of_ble_eq_true rfl, Nat.le_of_ble_eq_true rfl⟩ (fun v f' hp => ?_)
  obtain ⟨rfl, hf⟩ := hp
  replace hf := hf.symm
  subst hf
  refine r_zret C E rfl d_BT_isSealByte_9 (bI_nar _) (Nat.le_of_ble_eq_true rfl) (Nat.le_of_ble_eq_true rfl) ?_
  exact ⟨rfl, rfl⟩

set_option maxHeartbeats 4000000 in
set_option maxRecDepth 100000 in
theorem k_BT_isMonth (Y : hY) (l : Launch) (f : hw_F) (i : Int32) : hM Y l y_BT_isMonth S_BT_isMonth (some .boolean) [.int i] f (fun r f' => r = some (.int (bI (k_in i.toInt64 0 59))) ∧ f' = f) := by
  refine hM.of (by decide) rfl (Nat.le_of_ble_eq_true rfl) ?_
  intro X hl hnm C E
  show hG Y X S_BT_isMonth 0 0 f [(0, .int i)] [] 0
  refine r_iload_n C d_BT_isMonth_0 rfl rfl ?_
  refine r_i2l C d_BT_isMonth_1 ?_
  refine r_lconst (v := 0) C d_BT_isMonth_2 rfl ?_
  refine r_ldc2 C d_BT_isMonth_3 mn_BT_256 ?_
  refine r_callS C (k_BT_within Y _ _ _ _ _) mQ_BT_within d_BT_isMonth_6 ml_BT_53 mt_BT_within rfl rfl (Nat.le_of_ble_eq_true rfl) ⟨⟨Nat.le_of_ble_eq_true rfl, Nat.le_of_ble_eq_true rfl⟩, Nat.le_of_ble_eq_true rfl, Nat.le_of_ble_eq_true rfl⟩ (fun v f' hp => ?_)
  obtain ⟨rfl, hf⟩ := hp
  replace hf := hf.symm
  subst hf
  refine r_zret C E rfl d_BT_isMonth_9 (bI_nar _) (Nat.le_of_ble_eq_true rfl) (Nat.le_of_ble_eq_true rfl) ?_
  exact ⟨rfl, rfl⟩

set_option maxHeartbeats 4000000 in
set_option maxRecDepth 100000 in
theorem k_BT_isShare (Y : hY) (l : Launch) (f : hw_F) (a b : Int64) : hM Y l y_BT_isShare S_BT_isShare (some .boolean) [.long a, .long b] f (fun r f' => r = some (.int (bI (k_share a b))) ∧ f' = f) := by
  refine hM.of (by decide) rfl (Nat.le_of_ble_eq_true rfl) ?_
  intro X hl hnm C E
  show hG Y X S_BT_isShare 0 0 f [(0, .long a), (2, .long b)] [] 0
  refine r_lload_n C d_BT_isShare_0 rfl rfl ?_
  refine r_lconst (v := 1) C d_BT_isShare_1 rfl ?_
  refine r_ldc2 C d_BT_isShare_2 mn_BT_221 ?_
  refine r_callS C (k_BT_within Y _ _ _ _ _) mQ_BT_within d_BT_isShare_5 ml_BT_53 mt_BT_within rfl rfl (Nat.le_of_ble_eq_true rfl) ⟨⟨Nat.le_of_ble_eq_true rfl, Nat.le_of_ble_eq_true rfl⟩, Nat.le_of_ble_eq_true rfl, Nat.le_of_ble_eq_true rfl⟩ (fun v f' hp => ?_)
  obtain ⟨rfl, hf⟩ := hp
  replace hf := hf.symm
  subst hf
  refine r_if_eq (tgt := 24) C d_BT_isShare_8 rfl (fun c_8 => ?_) (fun c_8 => ?_)
  · skip
    rw [bI_0] at c_8
    refine r_iconst (v := 0) C d_BT_isShare_24 rfl ?_
    refine r_zret C E rfl d_BT_isShare_25 (rfl) (Nat.le_of_ble_eq_true rfl) (Nat.le_of_ble_eq_true rfl) ?_
    exact ⟨by simp_all [bI, k_share], rfl⟩
  · skip
    rw [bI_n0] at c_8
    refine r_lload_n C d_BT_isShare_11 rfl rfl ?_
    refine r_lconst (v := 0) C d_BT_isShare_12 rfl ?_
    refine r_lload_n C d_BT_isShare_13 rfl rfl ?_
    refine r_callS C (k_BT_within Y _ _ _ _ _) mQ_BT_within d_BT_isShare_14 ml_BT_53 mt_BT_within rfl rfl (Nat.le_of_ble_eq_true rfl) ⟨⟨Nat.le_of_ble_eq_true rfl, Nat.le_of_ble_eq_true rfl⟩, Nat.le_of_ble_eq_true rfl, Nat.le_of_ble_eq_true rfl⟩ (fun v f' hp => ?_)
    obtain ⟨rfl, hf⟩ := hp
    replace hf := hf.symm
    subst hf
    refine r_if_eq (tgt := 24) C d_BT_isShare_17 rfl (fun c_17 => ?_) (fun c_17 => ?_)
    · skip
      rw [bI_0] at c_17
      refine r_iconst (v := 0) C d_BT_isShare_24 rfl ?_
      refine r_zret C E rfl d_BT_isShare_25 (rfl) (Nat.le_of_ble_eq_true rfl) (Nat.le_of_ble_eq_true rfl) ?_
      exact ⟨by simp_all [bI, k_share], rfl⟩
    · skip
      rw [bI_n0] at c_17
      refine r_iconst (v := 1) C d_BT_isShare_20 rfl ?_
      refine r_goto (tgt := 25) C d_BT_isShare_21 rfl ?_
      refine r_zret C E rfl d_BT_isShare_25 (rfl) (Nat.le_of_ble_eq_true rfl) (Nat.le_of_ble_eq_true rfl) ?_
      exact ⟨by simp_all [bI, k_share], rfl⟩

set_option maxHeartbeats 4000000 in
set_option maxRecDepth 100000 in
theorem k_BT_shiftOfByte (Y : hY) (l : Launch) (f : hw_F) (i : Int32) : hM Y l y_BT_shiftOfByte S_BT_shiftOfByte (some .int) [.int i] f (fun r f' => r = some (.int (8 * (7 - i))) ∧ f' = f) := by
  refine hM.of (by decide) rfl (Nat.le_of_ble_eq_true rfl) ?_
  intro X hl hnm C E
  show hG Y X S_BT_shiftOfByte 0 0 f [(0, .int i)] [] 0
  refine r_bipush (v := 8) C d_BT_shiftOfByte_0 rfl ?_
  refine r_bipush (v := 7) C d_BT_shiftOfByte_2 rfl ?_
  refine r_iload_n C d_BT_shiftOfByte_4 rfl rfl ?_
  refine r_isub C d_BT_shiftOfByte_5 ?_
  refine r_imul C d_BT_shiftOfByte_6 ?_
  refine r_iret C E rfl d_BT_shiftOfByte_7 (Nat.le_of_ble_eq_true rfl) (Nat.le_of_ble_eq_true rfl) ?_
  exact ⟨rfl, rfl⟩

set_option maxHeartbeats 4000000 in
set_option maxRecDepth 100000 in
theorem k_Jin_bitCount (Y : hY) (l : Launch) (f : hw_F) (x : Int32) : hM Y l y_Jin_bitCount S_Jin_bitCount (some .int) [.int x] f (fun r f' => r = some (.int (k_bc x)) ∧ f' = f) := by
  refine hM.of (by decide) rfl (Nat.le_of_ble_eq_true rfl) ?_
  intro X hl hnm C E
  show hG Y X S_Jin_bitCount 0 0 f [(0, .int x)] [] 0
  refine r_iload_n C d_Jin_bitCount_0 rfl rfl ?_
  refine r_iload_n C d_Jin_bitCount_1 rfl rfl ?_
  refine r_iconst (v := 1) C d_Jin_bitCount_2 rfl ?_
  refine r_iushr C d_Jin_bitCount_3 ?_
  refine r_ldcw C d_Jin_bitCount_4 mn_Jin_265 ?_
  refine r_iand C d_Jin_bitCount_7 ?_
  refine r_isub C d_Jin_bitCount_8 ?_
  refine r_istore_n (lv' := [(0, _)]) C d_Jin_bitCount_9 rfl (Nat.le_of_ble_eq_true rfl) rfl ?_
  refine r_iload_n C d_Jin_bitCount_10 rfl rfl ?_
  refine r_ldcw C d_Jin_bitCount_11 mn_Jin_266 ?_
  refine r_iand C d_Jin_bitCount_14 ?_
  refine r_iload_n C d_Jin_bitCount_15 rfl rfl ?_
  refine r_iconst (v := 2) C d_Jin_bitCount_16 rfl ?_
  refine r_iushr C d_Jin_bitCount_17 ?_
  refine r_ldcw C d_Jin_bitCount_18 mn_Jin_266 ?_
  refine r_iand C d_Jin_bitCount_21 ?_
  refine r_iadd C d_Jin_bitCount_22 ?_
  refine r_istore_n (lv' := [(0, _)]) C d_Jin_bitCount_23 rfl (Nat.le_of_ble_eq_true rfl) rfl ?_
  refine r_iload_n C d_Jin_bitCount_24 rfl rfl ?_
  refine r_iload_n C d_Jin_bitCount_25 rfl rfl ?_
  refine r_iconst (v := 4) C d_Jin_bitCount_26 rfl ?_
  refine r_iushr C d_Jin_bitCount_27 ?_
  refine r_iadd C d_Jin_bitCount_28 ?_
  refine r_ldcw C d_Jin_bitCount_29 mn_Jin_267 ?_
  refine r_iand C d_Jin_bitCount_32 ?_
  refine r_istore_n (lv' := [(0, _)]) C d_Jin_bitCount_33 rfl (Nat.le_of_ble_eq_true rfl) rfl ?_
  refine r_iload_n C d_Jin_bitCount_34 rfl rfl ?_
  refine r_iload_n C d_Jin_bitCount_35 rfl rfl ?_
  refine r_bipush (v := 8) C d_Jin_bitCount_36 rfl ?_
  refine r_iushr C d_Jin_bitCount_38 ?_
  refine r_iadd C d_Jin_bitCount_39 ?_
  refine r_istore_n (lv' := [(0, _)]) C d_Jin_bitCount_40 rfl (Nat.le_of_ble_eq_true rfl) rfl ?_
  refine r_iload_n C d_Jin_bitCount_41 rfl rfl ?_
  refine r_iload_n C d_Jin_bitCount_42 rfl rfl ?_
  refine r_bipush (v := 16) C d_Jin_bitCount_43 rfl ?_
  refine r_iushr C d_Jin_bitCount_45 ?_
  refine r_iadd C d_Jin_bitCount_46 ?_
  refine r_istore_n (lv' := [(0, _)]) C d_Jin_bitCount_47 rfl (Nat.le_of_ble_eq_true rfl) rfl ?_
  refine r_iload_n C d_Jin_bitCount_48 rfl rfl ?_
  refine r_bipush (v := 63) C d_Jin_bitCount_49 rfl ?_
  refine r_iand C d_Jin_bitCount_51 ?_
  refine r_iret C E rfl d_Jin_bitCount_52 (Nat.le_of_ble_eq_true rfl) (Nat.le_of_ble_eq_true rfl) ?_
  exact ⟨rfl, rfl⟩

set_option maxHeartbeats 4000000 in
set_option maxRecDepth 100000 in
theorem k_Jlo_compare (Y : hY) (l : Launch) (f : hw_F) (x y : Int64) : hM Y l y_Jlo_compare S_Jlo_compare (some .int) [.long x, .long y] f (fun r f' => r = some (.int (lg_cmp x y)) ∧ f' = f) := by
  refine hM.of (by decide) rfl (Nat.le_of_ble_eq_true rfl) ?_
  intro X hl hnm C E
  show hG Y X S_Jlo_compare 0 0 f [(0, .long x), (2, .long y)] [] 0
  refine r_lload_n C d_Jlo_compare_0 rfl rfl ?_
  refine r_lload_n C d_Jlo_compare_1 rfl rfl ?_
  refine r_lcmp C d_Jlo_compare_2 ?_
  refine r_if_ge (tgt := 10) C d_Jlo_compare_3 rfl (fun c_3 => ?_) (fun c_3 => ?_)
  · skip
    rw [lg_cmp_ge] at c_3
    refine r_lload_n C d_Jlo_compare_10 rfl rfl ?_
    refine r_lload_n C d_Jlo_compare_11 rfl rfl ?_
    refine r_lcmp C d_Jlo_compare_12 ?_
    refine r_if_ne (tgt := 20) C d_Jlo_compare_13 rfl (fun c_13 => ?_) (fun c_13 => ?_)
    · skip
      rw [lg_cmp_eq] at c_13
      refine r_iconst (v := 1) C d_Jlo_compare_20 rfl ?_
      refine r_iret C E rfl d_Jlo_compare_21 (Nat.le_of_ble_eq_true rfl) (Nat.le_of_ble_eq_true rfl) ?_
      refine ⟨congrArg (fun q => some (Value.int q)) ?_, rfl⟩
      clear E
      unfold lg_cmp
      simp only [gt_iff_lt, Int64.lt_iff_toInt_lt, Int64.le_iff_toInt_le, ← Int64.toInt_inj] at *
      repeat' split
      all_goals first | rfl | omega
    · skip
      rw [lg_cmp_eq] at c_13
      refine r_iconst (v := 0) C d_Jlo_compare_16 rfl ?_
      refine r_goto (tgt := 21) C d_Jlo_compare_17 rfl ?_
      refine r_iret C E rfl d_Jlo_compare_21 (Nat.le_of_ble_eq_true rfl) (Nat.le_of_ble_eq_true rfl) ?_
      refine ⟨congrArg (fun q => some (Value.int q)) ?_, rfl⟩
      clear E
      unfold lg_cmp
      simp only [gt_iff_lt, Int64.lt_iff_toInt_lt, Int64.le_iff_toInt_le, ← Int64.toInt_inj] at *
      repeat' split
      all_goals first | rfl | omega
  · skip
    rw [lg_cmp_ge] at c_3
    refine r_iconst (v := (-1)) C d_Jlo_compare_6 rfl ?_
    refine r_goto (tgt := 21) C d_Jlo_compare_7 rfl ?_
    refine r_iret C E rfl d_Jlo_compare_21 (Nat.le_of_ble_eq_true rfl) (Nat.le_of_ble_eq_true rfl) ?_
    refine ⟨congrArg (fun q => some (Value.int q)) ?_, rfl⟩
    clear E
    unfold lg_cmp
    simp only [gt_iff_lt, Int64.lt_iff_toInt_lt, Int64.le_iff_toInt_le, ← Int64.toInt_inj] at *
    repeat' split
    all_goals first | rfl | omega

set_option maxHeartbeats 4000000 in
set_option maxRecDepth 100000 in
theorem k_Bid_has (Y : hY) (l : Launch) (f : hw_F) (b : Nat) (n : Int32) (ow : Value) (c : Int64) (ls : Int32) (he : f b = some (.inr (3, [.int n, ow, .long c, .int ls]))) (i : Int32) : hM Y l y_Bid_has S_Bid_has (some .boolean) [.ref b, .int i] f (fun r f' => r = some (.int (bI (k_bt ls i))) ∧ f' = f) := by
  refine hM.of (by decide) rfl (Nat.le_of_ble_eq_true rfl) ?_
  intro X hl hnm C E
  show hG Y X S_Bid_has 0 0 f [(0, .ref b), (1, .int i)] [] 0
  refine r_aload_n C d_Bid_has_0 rfl rfl ?_
  refine r_get C hq_Bid d_Bid_has_1 (j := 3) (Nat.le_of_ble_eq_true rfl) mf_Bid_21 (he) rfl ?_
  refine r_iload_n C d_Bid_has_4 rfl rfl ?_
  refine r_iushr C d_Bid_has_5 ?_
  refine r_iconst (v := 1) C d_Bid_has_6 rfl ?_
  refine r_iand C d_Bid_has_7 ?_
  refine r_if_eq (tgt := 15) C d_Bid_has_8 rfl (fun c_8 => ?_) (fun c_8 => ?_)
  · skip
    have e9 : k_bt ls i = false := by simp [k_bt]; exact c_8
    refine r_iconst (v := 0) C d_Bid_has_15 rfl ?_
    refine r_zret C E rfl d_Bid_has_16 (rfl) (Nat.le_of_ble_eq_true rfl) (Nat.le_of_ble_eq_true rfl) ?_
    exact ⟨by rw [e9]; rfl, rfl⟩
  · skip
    have e9 : k_bt ls i = true := by simp [k_bt]; exact c_8
    refine r_iconst (v := 1) C d_Bid_has_11 rfl ?_
    refine r_goto (tgt := 16) C d_Bid_has_12 rfl ?_
    refine r_zret C E rfl d_Bid_has_16 (rfl) (Nat.le_of_ble_eq_true rfl) (Nat.le_of_ble_eq_true rfl) ?_
    exact ⟨by rw [e9]; rfl, rfl⟩

set_option maxHeartbeats 4000000 in
set_option maxRecDepth 100000 in
theorem k_Bid_lotTally (Y : hY) (l : Launch) (f : hw_F) (b : Nat) (n : Int32) (ow : Value) (c : Int64) (ls : Int32) (he : f b = some (.inr (3, [.int n, ow, .long c, .int ls]))) : hM Y l y_Bid_lotTally S_Bid_lotTally (some .int) [.ref b] f (fun r f' => r = some (.int (k_bc ls)) ∧ f' = f) := by
  refine hM.of (by decide) rfl (Nat.le_of_ble_eq_true rfl) ?_
  intro X hl hnm C E
  show hG Y X S_Bid_lotTally 0 0 f [(0, .ref b)] [] 0
  refine r_aload_n C d_Bid_lotTally_0 rfl rfl ?_
  refine r_get C hq_Bid d_Bid_lotTally_1 (j := 3) (Nat.le_of_ble_eq_true rfl) mf_Bid_21 (he) rfl ?_
  refine r_callS C (k_Jin_bitCount Y _ _ _) mQ_Jin_bitCount d_Bid_lotTally_4 ml_Bid_24 mt_Jin_bitCount rfl rfl (Nat.le_of_ble_eq_true rfl) ⟨⟨Nat.le_of_ble_eq_true rfl, Nat.le_of_ble_eq_true rfl⟩, Nat.le_of_ble_eq_true rfl, Nat.le_of_ble_eq_true rfl⟩ (fun v f' hp => ?_)
  obtain ⟨rfl, hf⟩ := hp
  replace hf := hf.symm
  subst hf
  refine r_iret C E rfl d_Bid_lotTally_7 (Nat.le_of_ble_eq_true rfl) (Nat.le_of_ble_eq_true rfl) ?_
  exact ⟨rfl, rfl⟩

set_option maxHeartbeats 4000000 in
set_option maxRecDepth 100000 in
theorem k_Bdr_toldSealByte (Y : hY) (l : Launch) (f : hw_F) (b : Nat) (n : Int32) (qu op : Int32) (ms : Int64) (lim : Int32) (bits : Int64) (told : Int32) (he : f b = some (.inr (2, [.int n, .int qu, .int op, .long ms, .int lim, .long bits, .int told]))) (i : Int32) : hM Y l y_Bdr_toldSealByte S_Bdr_toldSealByte (some .boolean) [.ref b, .int i] f (fun r f' => r = some (.int (bI (k_bt told i))) ∧ f' = f) := by
  refine hM.of (by decide) rfl (Nat.le_of_ble_eq_true rfl) ?_
  intro X hl hnm C E
  show hG Y X S_Bdr_toldSealByte 0 0 f [(0, .ref b), (1, .int i)] [] 0
  refine r_aload_n C d_Bdr_toldSealByte_0 rfl rfl ?_
  refine r_get C hq_Bdr d_Bdr_toldSealByte_1 (j := 6) (Nat.le_of_ble_eq_true rfl) mf_Bdr_22 (he) rfl ?_
  refine r_iload_n C d_Bdr_toldSealByte_4 rfl rfl ?_
  refine r_iushr C d_Bdr_toldSealByte_5 ?_
  refine r_iconst (v := 1) C d_Bdr_toldSealByte_6 rfl ?_
  refine r_iand C d_Bdr_toldSealByte_7 ?_
  refine r_if_eq (tgt := 15) C d_Bdr_toldSealByte_8 rfl (fun c_8 => ?_) (fun c_8 => ?_)
  · skip
    have e9 : k_bt told i = false := by simp [k_bt]; exact c_8
    refine r_iconst (v := 0) C d_Bdr_toldSealByte_15 rfl ?_
    refine r_zret C E rfl d_Bdr_toldSealByte_16 (rfl) (Nat.le_of_ble_eq_true rfl) (Nat.le_of_ble_eq_true rfl) ?_
    exact ⟨by rw [e9]; rfl, rfl⟩
  · skip
    have e9 : k_bt told i = true := by simp [k_bt]; exact c_8
    refine r_iconst (v := 1) C d_Bdr_toldSealByte_11 rfl ?_
    refine r_goto (tgt := 16) C d_Bdr_toldSealByte_12 rfl ?_
    refine r_zret C E rfl d_Bdr_toldSealByte_16 (rfl) (Nat.le_of_ble_eq_true rfl) (Nat.le_of_ble_eq_true rfl) ?_
    exact ⟨by rw [e9]; rfl, rfl⟩

set_option maxHeartbeats 4000000 in
set_option maxRecDepth 100000 in
theorem k_Bdr_sealBytesTold (Y : hY) (l : Launch) (f : hw_F) (b : Nat) (n : Int32) (qu op : Int32) (ms : Int64) (lim : Int32) (bits : Int64) (told : Int32) (he : f b = some (.inr (2, [.int n, .int qu, .int op, .long ms, .int lim, .long bits, .int told]))) : hM Y l y_Bdr_sealBytesTold S_Bdr_sealBytesTold (some .int) [.ref b] f (fun r f' => r = some (.int (k_bc told)) ∧ f' = f) := by
  refine hM.of (by decide) rfl (Nat.le_of_ble_eq_true rfl) ?_
  intro X hl hnm C E
  show hG Y X S_Bdr_sealBytesTold 0 0 f [(0, .ref b)] [] 0
  refine r_aload_n C d_Bdr_sealBytesTold_0 rfl rfl ?_
  refine r_get C hq_Bdr d_Bdr_sealBytesTold_1 (j := 6) (Nat.le_of_ble_eq_true rfl) mf_Bdr_22 (he) rfl ?_
  refine r_callS C (k_Jin_bitCount Y _ _ _) mQ_Jin_bitCount d_Bdr_sealBytesTold_4 ml_Bdr_33 mt_Jin_bitCount rfl rfl (Nat.le_of_ble_eq_true rfl) ⟨⟨Nat.le_of_ble_eq_true rfl, Nat.le_of_ble_eq_true rfl⟩, Nat.le_of_ble_eq_true rfl, Nat.le_of_ble_eq_true rfl⟩ (fun v f' hp => ?_)
  obtain ⟨rfl, hf⟩ := hp
  replace hf := hf.symm
  subst hf
  refine r_iret C E rfl d_Bdr_sealBytesTold_7 (Nat.le_of_ble_eq_true rfl) (Nat.le_of_ble_eq_true rfl) ?_
  exact ⟨rfl, rfl⟩

set_option maxHeartbeats 4000000 in
set_option maxRecDepth 100000 in
theorem k_Bdr_keepSealByte (Y : hY) (l : Launch) (f : hw_F) (b : Nat) (n : Int32) (qu op : Int32) (ms : Int64) (lim : Int32) (bits : Int64) (told : Int32) (he : f b = some (.inr (2, [.int n, .int qu, .int op, .long ms, .int lim, .long bits, .int told]))) (i v : Int32) : hM Y l y_Bdr_keepSealByte S_Bdr_keepSealByte (none) [.ref b, .int i, .int v] f (fun r f' => r = none ∧ f' = hw_u f b (.inr (2, [.int n, .int qu, .int op, .long ms, .int lim, .long (bits ||| (v.toInt64 <<< ((8 * (7 - i)).toInt64 &&& 63))), .int (told ||| (1 <<< (i &&& 31)))]))) := by
  refine hM.of (by decide) rfl (Nat.le_of_ble_eq_true rfl) ?_
  intro X hl hnm C E
  show hG Y X S_Bdr_keepSealByte 0 0 f [(0, .ref b), (1, .int i), (2, .int v)] [] 0
  refine r_aload_n C d_Bdr_keepSealByte_0 rfl rfl ?_
  refine r_dup C d_Bdr_keepSealByte_1 rfl ?_
  refine r_get C hq_Bdr d_Bdr_keepSealByte_2 (j := 5) (Nat.le_of_ble_eq_true rfl) mf_Bdr_25 (he) rfl ?_
  refine r_iload_n C d_Bdr_keepSealByte_5 rfl rfl ?_
  refine r_i2l C d_Bdr_keepSealByte_6 ?_
  refine r_iload_n C d_Bdr_keepSealByte_7 rfl rfl ?_
  refine r_callSN C (k_BT_shiftOfByte Y _ _ _) mQ_BT_shiftOfByte d_Bdr_keepSealByte_8 ml_Bdr_29 mt_BT_shiftOfByte rfl rfl (Nat.le_of_ble_eq_true rfl) ⟨⟨Nat.le_of_ble_eq_true rfl, Nat.le_of_ble_eq_true rfl⟩, Nat.le_of_ble_eq_true rfl, Nat.le_of_ble_eq_true rfl⟩ (fun v f' hp => ?_)
  obtain ⟨rfl, hf⟩ := hp
  replace hf := hf.symm
  subst hf
  refine r_lshl C d_Bdr_keepSealByte_11 ?_
  refine r_lor C d_Bdr_keepSealByte_12 ?_
  refine r_put C hq_Bdr d_Bdr_keepSealByte_13 (j := 5) (fs' := [_, _, _, _, _, _, _]) (Nat.le_of_ble_eq_true rfl) mf_Bdr_25 rfl rfl rfl rfl (he) (Nat.le_of_ble_eq_true rfl) rfl ?_
  refine r_aload_n C d_Bdr_keepSealByte_16 rfl rfl ?_
  refine r_dup C d_Bdr_keepSealByte_17 rfl ?_
  refine r_get C hq_Bdr d_Bdr_keepSealByte_18 (j := 6) (Nat.le_of_ble_eq_true rfl) mf_Bdr_22 (hw_us _ _ _) rfl ?_
  refine r_iconst (v := 1) C d_Bdr_keepSealByte_21 rfl ?_
  refine r_iload_n C d_Bdr_keepSealByte_22 rfl rfl ?_
  refine r_ishl C d_Bdr_keepSealByte_23 ?_
  refine r_ior C d_Bdr_keepSealByte_24 ?_
  refine r_put C hq_Bdr d_Bdr_keepSealByte_25 (j := 6) (fs' := [_, _, _, _, _, _, _]) (Nat.le_of_ble_eq_true rfl) mf_Bdr_22 rfl rfl rfl rfl (hw_us _ _ _) (Nat.le_of_ble_eq_true rfl) rfl ?_
  refine r_vret C E rfl d_Bdr_keepSealByte_28 (Nat.le_of_ble_eq_true rfl) (Nat.le_of_ble_eq_true rfl) ?_
  exact ⟨rfl, by funext q; simp only [hw_u]; split <;> rfl⟩

