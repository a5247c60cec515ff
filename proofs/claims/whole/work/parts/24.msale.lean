set_option maxHeartbeats 4000000 in
set_option maxRecDepth 100000 in
theorem m_takenSum (Y : hY) (l : Launch) {ad : Nat → Nat → Nat} {s : zS} {tk : Nat → Bool} {f : hw_F} (P : mPic Y ad s tk f) (N : zN s) : hM Y l y_Mod_takenSum S_Mod_takenSum (some .long) [.ref (ad 0 0)] f (fun r f' => r = some (.long (zk_sum s tk)) ∧ f' = f) := by
  refine hM.of (by decide) rfl (Nat.le_of_ble_eq_true rfl) ?_
  intro X hl hnm C E
  show hG Y X S_Mod_takenSum 0 0 f [(0, .ref (ad 0 0))] [] 0
  have L : ∀ d j, j + d = z_nD s → hG Y X S_Mod_takenSum 0 0 f [(3, .int (nI (j))), (1, .long (zc_sumL tk (z_c s) (j))), (0, .ref (ad 0 0))] [] 4 := by
    intro d
    induction d with
    | zero =>
      intro j hj
      obtain rfl : j = z_nD s := by omega
      refine r_iload_n C d_Mod_takenSum_4 rfl rfl ?_
      refine r_aload_n C d_Mod_takenSum_5 rfl rfl ?_
      refine r_get C hq_Mod d_Mod_takenSum_6 (j := 8) (Nat.le_of_ble_eq_true rfl) mf_Mod_82 (mp_0 P) rfl ?_
      refine r_icmp_ge (tgt := 40) C d_Mod_takenSum_9 rfl (fun _ => ?_) (fun hz => absurd (nI_le (a := z_nD s) (Nat.le_refl _) (by have := N.2.2.1; omega)) hz)
      refine r_lload_n C d_Mod_takenSum_40 rfl rfl ?_
      refine r_lret C E rfl d_Mod_takenSum_41 (Nat.le_of_ble_eq_true rfl) (Nat.le_of_ble_eq_true rfl) ?_
      exact ⟨rfl, rfl⟩
    | succ d ih =>
      intro j hj
      have hj12 : j < 12 := by have := N.2.2.1; omega
      refine r_iload_n C d_Mod_takenSum_4 rfl rfl ?_
      refine r_aload_n C d_Mod_takenSum_5 rfl rfl ?_
      refine r_get C hq_Mod d_Mod_takenSum_6 (j := 8) (Nat.le_of_ble_eq_true rfl) mf_Mod_82 (mp_0 P) rfl ?_
      refine r_icmp_ge (tgt := 40) C d_Mod_takenSum_9 rfl (fun hz => absurd hz (nI_ge (a := j) (b := z_nD s) (by omega) (by have := N.2.2.1; omega))) (fun _ => ?_)
      refine r_lload_n C d_Mod_takenSum_12 rfl rfl ?_
      refine r_aload_n C d_Mod_takenSum_13 rfl rfl ?_
      refine r_get C hq_Mod d_Mod_takenSum_14 (j := 27) (Nat.le_of_ble_eq_true rfl) mf_Mod_72 (mp_0 P) rfl ?_
      refine r_iload_n C d_Mod_takenSum_17 rfl rfl ?_
      refine r_zald (t0 := 2) C d_Mod_takenSum_18 (mp_taken P) rfl (rfl) (hj12) (by decide) (rfl) ?_
      refine r_if_eq (tgt := 31) C d_Mod_takenSum_19 rfl (fun c_19 => ?_) (fun c_19 => ?_)
      · skip
        rw [bI_0] at c_19
        have e9 : zc_sumL tk (z_c s) j + 0 = zc_sumL tk (z_c s) (j + 1) := by simp [zc_sumL, c_19]
        refine r_lconst (v := 0) C d_Mod_takenSum_31 rfl ?_
        refine r_ladd C d_Mod_takenSum_32 ?_
        refine r_lstore_n (lv' := [(1, _), (3, _), (0, _)]) C d_Mod_takenSum_33 rfl (Nat.le_of_ble_eq_true rfl) rfl ?_
        rw [e9]
        refine r_iinc (v := nI (j + 1)) (lv' := [(3, _), (1, _), (0, _)]) C d_Mod_takenSum_34 rfl (nI_1 j) (Nat.le_of_ble_eq_true rfl) rfl ?_
        refine r_goto (tgt := 4) C d_Mod_takenSum_37 rfl ?_
        refine r_sub [0, 1, 2] rfl ?_
        exact ih (j + 1) (by omega)
      · skip
        rw [bI_n0] at c_19
        have e9 : zc_sumL tk (z_c s) j + z_c s j = zc_sumL tk (z_c s) (j + 1) := by simp [zc_sumL, c_19]
        refine r_aload_n C d_Mod_takenSum_22 rfl rfl ?_
        refine r_get C hq_Mod d_Mod_takenSum_23 (j := 10) (Nat.le_of_ble_eq_true rfl) mf_Mod_33 (mp_0 P) rfl ?_
        refine r_iload_n C d_Mod_takenSum_26 rfl rfl ?_
        refine r_lald (t0 := 0) C d_Mod_takenSum_27 (mp_cents P) rfl (rfl) (hj12) (by decide) (rfl) ?_
        refine r_goto (tgt := 32) C d_Mod_takenSum_28 rfl ?_
        refine r_ladd C d_Mod_takenSum_32 ?_
        refine r_lstore_n (lv' := [(1, _), (3, _), (0, _)]) C d_Mod_takenSum_33 rfl (Nat.le_of_ble_eq_true rfl) rfl ?_
        rw [e9]
        refine r_iinc (v := nI (j + 1)) (lv' := [(3, _), (1, _), (0, _)]) C d_Mod_takenSum_34 rfl (nI_1 j) (Nat.le_of_ble_eq_true rfl) rfl ?_
        refine r_goto (tgt := 4) C d_Mod_takenSum_37 rfl ?_
        refine r_sub [0, 1, 2] rfl ?_
        exact ih (j + 1) (by omega)
  refine r_lconst (v := 0) C d_Mod_takenSum_0 rfl ?_
  refine r_lstore_n (lv' := [(1, _), (0, _)]) C d_Mod_takenSum_1 rfl (Nat.le_of_ble_eq_true rfl) rfl ?_
  refine r_iconst (v := 0) C d_Mod_takenSum_2 rfl ?_
  refine r_istore_n (lv' := [(3, _), (1, _), (0, _)]) C d_Mod_takenSum_3 rfl (Nat.le_of_ble_eq_true rfl) rfl ?_
  exact L (z_nD s) 0 (by omega)

set_option maxHeartbeats 4000000 in
set_option maxRecDepth 100000 in
theorem m_take (Y : hY) (l : Launch) {ad : Nat → Nat → Nat} {s : zS} {tk : Nat → Bool} {f : hw_F} (P : mPic Y ad s tk f) {n : Nat} (hn : n < 4096) : hM Y l y_Mod_take S_Mod_take (none) [.ref (ad 0 0), .int (nI n)] f (fun r f' => r = none ∧ mPic Y ad s (zt n tk 12) f') := by
  refine hM.of (by decide) rfl (Nat.le_of_ble_eq_true rfl) ?_
  intro X hl hnm C E
  show hG Y X S_Mod_take 0 0 f [(0, .ref (ad 0 0)), (1, .int (nI n))] [] 0
  have L : ∀ d j, ∀ f2, j + d = 12 → mPic Y ad s (zt n tk j) f2 → hG Y X S_Mod_take 0 0 f2 [(2, .int (nI (j))), (0, .ref (ad 0 0)), (1, .int (nI n))] [] 2 := by
    intro d
    induction d with
    | zero =>
      intro j f2 hj P2
      obtain rfl : j = 12 := by omega
      refine r_iload_n C d_Mod_take_2 rfl rfl ?_
      refine r_bipush (v := 12) C d_Mod_take_3 rfl ?_
      refine r_icmp_ge (tgt := 34) C d_Mod_take_5 rfl (fun _ => ?_) (fun hz => absurd (show (12 : Int32) ≤ nI 12 by decide) hz)
      refine r_vret C E rfl d_Mod_take_34 (Nat.le_of_ble_eq_true rfl) (Nat.le_of_ble_eq_true rfl) ?_
      exact ⟨rfl, P2⟩
    | succ d ih =>
      intro j f2 hj P2
      have hj12 : j < 12 := by omega
      refine r_iload_n C d_Mod_take_2 rfl rfl ?_
      refine r_bipush (v := 12) C d_Mod_take_3 rfl ?_
      refine r_icmp_ge (tgt := 34) C d_Mod_take_5 rfl (fun hz => absurd hz (nI_ge (a := j) (b := 12) (by omega) (by decide))) (fun _ => ?_)
      refine r_aload_n C d_Mod_take_8 rfl rfl ?_
      refine r_get C hq_Mod d_Mod_take_9 (j := 27) (Nat.le_of_ble_eq_true rfl) mf_Mod_72 (mp_0 P2) rfl ?_
      refine r_iload_n C d_Mod_take_12 rfl rfl ?_
      refine r_iload_n C d_Mod_take_13 rfl rfl ?_
      refine r_iload_n C d_Mod_take_14 rfl rfl ?_
      refine r_ishr C d_Mod_take_15 ?_
      refine r_iconst (v := 1) C d_Mod_take_16 rfl ?_
      refine r_iand C d_Mod_take_17 ?_
      refine r_iconst (v := 1) C d_Mod_take_18 rfl ?_
      refine r_icmp_ne (tgt := 26) C d_Mod_take_19 rfl (fun c_19 => ?_) (fun c_19 => ?_)
      · skip
        have e9 : n.testBit j = false := by
          cases h : n.testBit j with
          | false => rfl
          | true => exact absurd ((zt_bit (by omega) (by omega)).mpr h) c_19
        refine r_iconst (v := 0) C d_Mod_take_26 rfl ?_
        refine r_zast (t0 := 2) C d_Mod_take_27 (mp_taken P2) rfl (rfl) (hj12) (by decide) (rfl) ?_
        refine r_nw (mPic Y ad s (zt n tk (j + 1))) (mEnd (mPut P2 21 (by decide) _) (lt22 rfl rfl rfl rfl rfl rfl rfl rfl rfl rfl rfl rfl rfl rfl rfl rfl rfl rfl rfl rfl rfl (by show eI (Y.2 2) 12 (fun i => bI (zt n tk (j + 1) i)) = _; rw [zt_s, e9]; exact congrArg (eI (Y.2 2) 12) (hv_bI _ _ _).symm))) (fun f3 P3 => ?_)
        refine r_iinc (v := nI (j + 1)) (lv' := [(2, _), (0, _), (1, _)]) C d_Mod_take_28 rfl (nI_1 j) (Nat.le_of_ble_eq_true rfl) rfl ?_
        refine r_goto (tgt := 2) C d_Mod_take_31 rfl ?_
        refine r_sub [0, 1, 2] rfl ?_
        exact ih (j + 1) f3 (by omega) P3
      · skip
        have e9 : n.testBit j = true := (zt_bit (by omega) (by omega)).mp c_19
        refine r_iconst (v := 1) C d_Mod_take_22 rfl ?_
        refine r_goto (tgt := 27) C d_Mod_take_23 rfl ?_
        refine r_zast (t0 := 2) C d_Mod_take_27 (mp_taken P2) rfl (rfl) (hj12) (by decide) (rfl) ?_
        refine r_nw (mPic Y ad s (zt n tk (j + 1))) (mEnd (mPut P2 21 (by decide) _) (lt22 rfl rfl rfl rfl rfl rfl rfl rfl rfl rfl rfl rfl rfl rfl rfl rfl rfl rfl rfl rfl rfl (by show eI (Y.2 2) 12 (fun i => bI (zt n tk (j + 1) i)) = _; rw [zt_s, e9]; exact congrArg (eI (Y.2 2) 12) (hv_bI _ _ _).symm))) (fun f3 P3 => ?_)
        refine r_iinc (v := nI (j + 1)) (lv' := [(2, _), (0, _), (1, _)]) C d_Mod_take_28 rfl (nI_1 j) (Nat.le_of_ble_eq_true rfl) rfl ?_
        refine r_goto (tgt := 2) C d_Mod_take_31 rfl ?_
        refine r_sub [0, 1, 2] rfl ?_
        exact ih (j + 1) f3 (by omega) P3
  refine r_iconst (v := 0) C d_Mod_take_0 rfl ?_
  refine r_istore_n (lv' := [(2, _), (0, _), (1, _)]) C d_Mod_take_1 rfl (Nat.le_of_ble_eq_true rfl) rfl ?_
  exact L 12 0 f (by omega) (by rw [zt_0]; exact P)

set_option maxHeartbeats 4000000 in
set_option maxRecDepth 100000 in
theorem m_isBefore (Y : hY) (l : Launch) {ad : Nat → Nat → Nat} {s : zS} {tk : Nat → Bool} {f : hw_F} (P : mPic Y ad s tk f) {a b : Nat} (ha : a < 12) (hb : b < 12) (hoa : z_ow s a < 6) (hob : z_ow s b < 6) : hM Y l y_Mod_isBefore S_Mod_isBefore (some .boolean) [.ref (ad 0 0), .int (nI a), .int (nI b)] f (fun r f' => r = some (.int (bI (zf_bef s a b))) ∧ f' = f) := by
  refine hM.of (by decide) rfl (Nat.le_of_ble_eq_true rfl) ?_
  intro X hl hnm C E
  show hG Y X S_Mod_isBefore 0 0 f [(0, .ref (ad 0 0)), (1, .int (nI a)), (2, .int (nI b))] [] 0
  refine r_aload_n C d_Mod_isBefore_0 rfl rfl ?_
  refine r_get C hq_Mod d_Mod_isBefore_1 (j := 4) (Nat.le_of_ble_eq_true rfl) mf_Mod_16 (mp_0 P) rfl ?_
  refine r_aload_n C d_Mod_isBefore_4 rfl rfl ?_
  refine r_get C hq_Mod d_Mod_isBefore_5 (j := 9) (Nat.le_of_ble_eq_true rfl) mf_Mod_30 (mp_0 P) rfl ?_
  refine r_iload_n C d_Mod_isBefore_8 rfl rfl ?_
  refine r_iald (t0 := 1) C d_Mod_isBefore_9 (mp_owners P) rfl (rfl) (ha) (by decide) (rfl) ?_
  refine r_lald (t0 := 0) C d_Mod_isBefore_10 (mp_times P) rfl (rfl) (hoa) (by decide) (rfl) ?_
  refine r_lstore_n (lv' := [(3, _), (0, _), (1, _), (2, _)]) C d_Mod_isBefore_11 rfl (Nat.le_of_ble_eq_true rfl) rfl ?_
  refine r_aload_n C d_Mod_isBefore_12 rfl rfl ?_
  refine r_get C hq_Mod d_Mod_isBefore_13 (j := 4) (Nat.le_of_ble_eq_true rfl) mf_Mod_16 (mp_0 P) rfl ?_
  refine r_aload_n C d_Mod_isBefore_16 rfl rfl ?_
  refine r_get C hq_Mod d_Mod_isBefore_17 (j := 9) (Nat.le_of_ble_eq_true rfl) mf_Mod_30 (mp_0 P) rfl ?_
  refine r_iload_n C d_Mod_isBefore_20 rfl rfl ?_
  refine r_iald (t0 := 1) C d_Mod_isBefore_21 (mp_owners P) rfl (rfl) (hb) (by decide) (rfl) ?_
  refine r_lald (t0 := 0) C d_Mod_isBefore_22 (mp_times P) rfl (rfl) (hob) (by decide) (rfl) ?_
  refine r_lstore (lv' := [(5, _), (3, _), (0, _), (1, _), (2, _)]) C d_Mod_isBefore_23 (Nat.le_of_ble_eq_true rfl) rfl ?_
  refine r_lload_n C d_Mod_isBefore_25 rfl rfl ?_
  refine r_lload C d_Mod_isBefore_26 rfl ?_
  refine r_lcmp C d_Mod_isBefore_28 ?_
  refine r_if_lt (tgt := 44) C d_Mod_isBefore_29 rfl (fun c_29 => ?_) (fun c_29 => ?_)
  · skip
    rw [lg_cmp_lt] at c_29
    have hz : zf_bef s a b = true := by simp [zf_bef, c_29]
    refine r_iconst (v := 1) C d_Mod_isBefore_44 rfl ?_
    refine r_goto (tgt := 49) C d_Mod_isBefore_45 rfl ?_
    refine r_zret C E rfl d_Mod_isBefore_49 (rfl) (Nat.le_of_ble_eq_true rfl) (Nat.le_of_ble_eq_true rfl) ?_
    exact ⟨by rw [hz]; rfl, rfl⟩
  · skip
    rw [lg_cmp_lt] at c_29
    refine r_lload_n C d_Mod_isBefore_32 rfl rfl ?_
    refine r_lload C d_Mod_isBefore_33 rfl ?_
    refine r_lcmp C d_Mod_isBefore_35 ?_
    refine r_if_ne (tgt := 48) C d_Mod_isBefore_36 rfl (fun c_36 => ?_) (fun c_36 => ?_)
    · skip
      rw [lg_cmp_eq] at c_36
      have hz : zf_bef s a b = false := by simp [zf_bef, c_29, c_36]
      refine r_iconst (v := 0) C d_Mod_isBefore_48 rfl ?_
      refine r_zret C E rfl d_Mod_isBefore_49 (rfl) (Nat.le_of_ble_eq_true rfl) (Nat.le_of_ble_eq_true rfl) ?_
      exact ⟨by rw [hz]; rfl, rfl⟩
    · skip
      rw [lg_cmp_eq] at c_36
      refine r_iload_n C d_Mod_isBefore_39 rfl rfl ?_
      refine r_iload_n C d_Mod_isBefore_40 rfl rfl ?_
      refine r_icmp_ge (tgt := 48) C d_Mod_isBefore_41 rfl (fun c_41 => ?_) (fun c_41 => ?_)
      · skip
        have hz : zf_bef s a b = false := by
          have : ¬ a < b := fun h => absurd c_41 (nI_ge h (by omega))
          simp [zf_bef, c_29, this]
        refine r_iconst (v := 0) C d_Mod_isBefore_48 rfl ?_
        refine r_zret C E rfl d_Mod_isBefore_49 (rfl) (Nat.le_of_ble_eq_true rfl) (Nat.le_of_ble_eq_true rfl) ?_
        exact ⟨by rw [hz]; rfl, rfl⟩
      · skip
        have hz : zf_bef s a b = true := by
          have : a < b := by
            rcases Nat.lt_or_ge a b with h | h
            · exact h
            · exact absurd (nI_le h (by omega)) c_41
          simp [zf_bef, c_36, this]
        refine r_iconst (v := 1) C d_Mod_isBefore_44 rfl ?_
        refine r_goto (tgt := 49) C d_Mod_isBefore_45 rfl ?_
        refine r_zret C E rfl d_Mod_isBefore_49 (rfl) (Nat.le_of_ble_eq_true rfl) (Nat.le_of_ble_eq_true rfl) ?_
        exact ⟨by rw [hz]; rfl, rfl⟩

set_option maxHeartbeats 4000000 in
set_option maxRecDepth 100000 in
theorem m_isFirst (Y : hY) (l : Launch) {ad : Nat → Nat → Nat} {s : zS} {tk : Nat → Bool} {f : hw_F} (P : mPic Y ad s tk f) (N : zN s) : hM Y l y_Mod_isFirst S_Mod_isFirst (some .boolean) [.ref (ad 0 0)] f (fun r f' => r = some (.int (bI (zf_first s tk))) ∧ f' = f) := by
  refine hM.of (by decide) rfl (Nat.le_of_ble_eq_true rfl) ?_
  intro X hl hnm C E
  show hG Y X S_Mod_isFirst 0 0 f [(0, .ref (ad 0 0))] [] 0
  have N6 : ∀ k, k < z_nD s → z_ow s k < 6 := fun k h => by have := N.2.2.2.2.1 k h; have := N.2.1; omega
  have L : ∀ d j, j + d = z_nD s → hG Y X S_Mod_isFirst 0 0 f [(2, .int (nI (j))), (1, .int (zf_i (zf_le s tk (j)))), (0, .ref (ad 0 0))] [] 4 := by
    intro d
    induction d with
    | zero =>
      intro j hj
      obtain rfl : j = z_nD s := by omega
      rcases hle : zf_le s tk (z_nD s) with _ | e
      · have hz : zf_first s tk = false := by simp [zf_first, hle]
        refine r_iload_n C d_Mod_isFirst_4 rfl rfl ?_
        refine r_aload_n C d_Mod_isFirst_5 rfl rfl ?_
        refine r_get C hq_Mod d_Mod_isFirst_6 (j := 8) (Nat.le_of_ble_eq_true rfl) mf_Mod_82 (mp_0 P) rfl ?_
        refine r_icmp_ge (tgt := 48) C d_Mod_isFirst_9 rfl (fun _ => ?_) (fun hz => absurd (nI_le (a := z_nD s) (Nat.le_refl _) (by have := N.2.2.1; omega)) hz)
        refine r_iload_n C d_Mod_isFirst_48 rfl rfl ?_
        refine r_if_lt (tgt := 65) C d_Mod_isFirst_49 rfl (fun _ => ?_) (fun hz => absurd (show zf_i none < 0 by decide) hz)
        refine r_iconst (v := 0) C d_Mod_isFirst_65 rfl ?_
        refine r_zret C E rfl d_Mod_isFirst_66 (rfl) (Nat.le_of_ble_eq_true rfl) (Nat.le_of_ble_eq_true rfl) ?_
        exact ⟨by rw [hz]; rfl, rfl⟩
      · have he := zf_le_lt s tk _ e hle
        have he12 : e < 12 := by have := N.2.2.1; omega
        refine r_iload_n C d_Mod_isFirst_4 rfl rfl ?_
        refine r_aload_n C d_Mod_isFirst_5 rfl rfl ?_
        refine r_get C hq_Mod d_Mod_isFirst_6 (j := 8) (Nat.le_of_ble_eq_true rfl) mf_Mod_82 (mp_0 P) rfl ?_
        refine r_icmp_ge (tgt := 48) C d_Mod_isFirst_9 rfl (fun _ => ?_) (fun hz => absurd (nI_le (a := z_nD s) (Nat.le_refl _) (by have := N.2.2.1; omega)) hz)
        refine r_iload_n C d_Mod_isFirst_48 rfl rfl ?_
        refine r_if_lt (tgt := 65) C d_Mod_isFirst_49 rfl (fun hz => absurd hz (nI_pos (n := e) (by omega))) (fun _ => ?_)
        refine r_aload_n C d_Mod_isFirst_52 rfl rfl ?_
        refine r_get C hq_Mod d_Mod_isFirst_53 (j := 27) (Nat.le_of_ble_eq_true rfl) mf_Mod_72 (mp_0 P) rfl ?_
        refine r_iload_n C d_Mod_isFirst_56 rfl rfl ?_
        refine r_zald (t0 := 2) C d_Mod_isFirst_57 (mp_taken P) rfl (rfl) (he12) (by decide) (rfl) ?_
        refine r_if_eq (tgt := 65) C d_Mod_isFirst_58 rfl (fun c_58 => ?_) (fun c_58 => ?_)
        · skip
          rw [bI_0] at c_58
          have hz : zf_first s tk = false := by simp [zf_first, hle, c_58]
          refine r_iconst (v := 0) C d_Mod_isFirst_65 rfl ?_
          refine r_zret C E rfl d_Mod_isFirst_66 (rfl) (Nat.le_of_ble_eq_true rfl) (Nat.le_of_ble_eq_true rfl) ?_
          exact ⟨by rw [hz]; rfl, rfl⟩
        · skip
          rw [bI_n0] at c_58
          have hz : zf_first s tk = true := by simp [zf_first, hle, c_58]
          refine r_iconst (v := 1) C d_Mod_isFirst_61 rfl ?_
          refine r_goto (tgt := 66) C d_Mod_isFirst_62 rfl ?_
          refine r_zret C E rfl d_Mod_isFirst_66 (rfl) (Nat.le_of_ble_eq_true rfl) (Nat.le_of_ble_eq_true rfl) ?_
          exact ⟨by rw [hz]; rfl, rfl⟩
    | succ d ih =>
      intro j hj
      have hj12 : j < 12 := by have := N.2.2.1; omega
      rcases hle : zf_le s tk j with _ | e
      · skip
        refine r_iload_n C d_Mod_isFirst_4 rfl rfl ?_
        refine r_aload_n C d_Mod_isFirst_5 rfl rfl ?_
        refine r_get C hq_Mod d_Mod_isFirst_6 (j := 8) (Nat.le_of_ble_eq_true rfl) mf_Mod_82 (mp_0 P) rfl ?_
        refine r_icmp_ge (tgt := 48) C d_Mod_isFirst_9 rfl (fun hz => absurd hz (nI_ge (a := j) (b := z_nD s) (by omega) (by have := N.2.2.1; omega))) (fun _ => ?_)
        refine r_aload_n C d_Mod_isFirst_12 rfl rfl ?_
        refine r_get C hq_Mod d_Mod_isFirst_13 (j := 27) (Nat.le_of_ble_eq_true rfl) mf_Mod_72 (mp_0 P) rfl ?_
        refine r_iload_n C d_Mod_isFirst_16 rfl rfl ?_
        refine r_zald (t0 := 2) C d_Mod_isFirst_17 (mp_taken P) rfl (rfl) (hj12) (by decide) (rfl) ?_
        refine r_aload_n C d_Mod_isFirst_18 rfl rfl ?_
        refine r_get C hq_Mod d_Mod_isFirst_19 (j := 15) (Nat.le_of_ble_eq_true rfl) mf_Mod_42 (mp_0 P) rfl ?_
        refine r_iload_n C d_Mod_isFirst_22 rfl rfl ?_
        refine r_zald (t0 := 2) C d_Mod_isFirst_23 (mp_winners P) rfl (rfl) (hj12) (by decide) (rfl) ?_
        refine r_icmp_eq (tgt := 42) C d_Mod_isFirst_24 rfl (fun c_24 => ?_) (fun c_24 => ?_)
        · skip
          have e9 : zf_le s tk (j + 1) = none := by
            have : tk j = z_w s j := by
              cases h1 : tk j <;> cases h2 : z_w s j <;> rw [h1, h2] at c_24 <;> first | rfl | exact absurd c_24 (by decide)
            simp [zf_le, this, hle]
          refine r_iinc (v := nI (j + 1)) (lv' := [(2, _), (1, _), (0, _)]) C d_Mod_isFirst_42 rfl (nI_1 j) (Nat.le_of_ble_eq_true rfl) rfl ?_
          refine r_goto (tgt := 4) C d_Mod_isFirst_45 rfl ?_
          refine r_sub [0, 1, 2] rfl ?_
          have h9 := ih (j + 1) (by omega)
          rw [e9] at h9
          exact h9
        · skip
          have c24 : ¬ tk j = z_w s j := fun h => c_24 (by rw [h])
          refine r_iload_n C d_Mod_isFirst_27 rfl rfl ?_
          refine r_if_lt (tgt := 40) C d_Mod_isFirst_28 rfl (fun _ => ?_) (fun hz => absurd (show zf_i none < 0 by decide) hz)
          have e9 : zf_le s tk (j + 1) = some j := by simp [zf_le, c24, hle]
          refine r_iload_n C d_Mod_isFirst_40 rfl rfl ?_
          refine r_istore_n (lv' := [(1, _), (2, _), (0, _)]) C d_Mod_isFirst_41 rfl (Nat.le_of_ble_eq_true rfl) rfl ?_
          refine r_iinc (v := nI (j + 1)) (lv' := [(2, _), (1, _), (0, _)]) C d_Mod_isFirst_42 rfl (nI_1 j) (Nat.le_of_ble_eq_true rfl) rfl ?_
          refine r_goto (tgt := 4) C d_Mod_isFirst_45 rfl ?_
          refine r_sub [0, 1, 2] rfl ?_
          have h9 := ih (j + 1) (by omega)
          rw [e9] at h9
          exact h9
      · have he := zf_le_lt s tk _ e hle
        have he12 : e < 12 := by omega
        refine r_iload_n C d_Mod_isFirst_4 rfl rfl ?_
        refine r_aload_n C d_Mod_isFirst_5 rfl rfl ?_
        refine r_get C hq_Mod d_Mod_isFirst_6 (j := 8) (Nat.le_of_ble_eq_true rfl) mf_Mod_82 (mp_0 P) rfl ?_
        refine r_icmp_ge (tgt := 48) C d_Mod_isFirst_9 rfl (fun hz => absurd hz (nI_ge (a := j) (b := z_nD s) (by omega) (by have := N.2.2.1; omega))) (fun _ => ?_)
        refine r_aload_n C d_Mod_isFirst_12 rfl rfl ?_
        refine r_get C hq_Mod d_Mod_isFirst_13 (j := 27) (Nat.le_of_ble_eq_true rfl) mf_Mod_72 (mp_0 P) rfl ?_
        refine r_iload_n C d_Mod_isFirst_16 rfl rfl ?_
        refine r_zald (t0 := 2) C d_Mod_isFirst_17 (mp_taken P) rfl (rfl) (hj12) (by decide) (rfl) ?_
        refine r_aload_n C d_Mod_isFirst_18 rfl rfl ?_
        refine r_get C hq_Mod d_Mod_isFirst_19 (j := 15) (Nat.le_of_ble_eq_true rfl) mf_Mod_42 (mp_0 P) rfl ?_
        refine r_iload_n C d_Mod_isFirst_22 rfl rfl ?_
        refine r_zald (t0 := 2) C d_Mod_isFirst_23 (mp_winners P) rfl (rfl) (hj12) (by decide) (rfl) ?_
        refine r_icmp_eq (tgt := 42) C d_Mod_isFirst_24 rfl (fun c_24 => ?_) (fun c_24 => ?_)
        · skip
          have e9 : zf_le s tk (j + 1) = some e := by
            have : tk j = z_w s j := by
              cases h1 : tk j <;> cases h2 : z_w s j <;> rw [h1, h2] at c_24 <;> first | rfl | exact absurd c_24 (by decide)
            simp [zf_le, this, hle]
          refine r_iinc (v := nI (j + 1)) (lv' := [(2, _), (1, _), (0, _)]) C d_Mod_isFirst_42 rfl (nI_1 j) (Nat.le_of_ble_eq_true rfl) rfl ?_
          refine r_goto (tgt := 4) C d_Mod_isFirst_45 rfl ?_
          refine r_sub [0, 1, 2] rfl ?_
          have h9 := ih (j + 1) (by omega)
          rw [e9] at h9
          exact h9
        · skip
          have c24 : ¬ tk j = z_w s j := fun h => c_24 (by rw [h])
          refine r_iload_n C d_Mod_isFirst_27 rfl rfl ?_
          refine r_if_lt (tgt := 40) C d_Mod_isFirst_28 rfl (fun hz => absurd hz (nI_pos (n := e) (by omega))) (fun _ => ?_)
          refine r_aload_n C d_Mod_isFirst_31 rfl rfl ?_
          refine r_iload_n C d_Mod_isFirst_32 rfl rfl ?_
          refine r_iload_n C d_Mod_isFirst_33 rfl rfl ?_
          refine r_callV C (m_isBefore Y _ P hj12 he12 (N6 j (by omega)) (N6 e (by omega))) mQ_Mod_isBefore d_Mod_isFirst_34 ml_Mod_126 mi_Mod_isBefore mv_Mod_isBefore (mp_0 P) rfl rfl rfl rfl (Nat.le_of_ble_eq_true rfl) ⟨⟨Nat.le_of_ble_eq_true rfl, Nat.le_of_ble_eq_true rfl⟩, Nat.le_of_ble_eq_true rfl, Nat.le_of_ble_eq_true rfl⟩ (fun v f' hp => ?_)
          obtain ⟨rfl, hf⟩ := hp
          replace hf := hf.symm
          subst hf
          refine r_if_eq (tgt := 42) C d_Mod_isFirst_37 rfl (fun c_37 => ?_) (fun c_37 => ?_)
          · skip
            rw [bI_0] at c_37
            have e9 : zf_le s tk (j + 1) = some e := by simp [zf_le, c24, hle, c_37]
            refine r_iinc (v := nI (j + 1)) (lv' := [(2, _), (1, _), (0, _)]) C d_Mod_isFirst_42 rfl (nI_1 j) (Nat.le_of_ble_eq_true rfl) rfl ?_
            refine r_goto (tgt := 4) C d_Mod_isFirst_45 rfl ?_
            refine r_sub [0, 1, 2] rfl ?_
            have h9 := ih (j + 1) (by omega)
            rw [e9] at h9
            exact h9
          · skip
            rw [bI_n0] at c_37
            have e9 : zf_le s tk (j + 1) = some j := by simp [zf_le, c24, hle, c_37]
            refine r_iload_n C d_Mod_isFirst_40 rfl rfl ?_
            refine r_istore_n (lv' := [(1, _), (2, _), (0, _)]) C d_Mod_isFirst_41 rfl (Nat.le_of_ble_eq_true rfl) rfl ?_
            refine r_iinc (v := nI (j + 1)) (lv' := [(2, _), (1, _), (0, _)]) C d_Mod_isFirst_42 rfl (nI_1 j) (Nat.le_of_ble_eq_true rfl) rfl ?_
            refine r_goto (tgt := 4) C d_Mod_isFirst_45 rfl ?_
            refine r_sub [0, 1, 2] rfl ?_
            have h9 := ih (j + 1) (by omega)
            rw [e9] at h9
            exact h9
  refine r_iconst (v := (-1)) C d_Mod_isFirst_0 rfl ?_
  refine r_istore_n (lv' := [(1, _), (0, _)]) C d_Mod_isFirst_1 rfl (Nat.le_of_ble_eq_true rfl) rfl ?_
  refine r_iconst (v := 0) C d_Mod_isFirst_2 rfl ?_
  refine r_istore_n (lv' := [(2, _), (1, _), (0, _)]) C d_Mod_isFirst_3 rfl (Nat.le_of_ble_eq_true rfl) rfl ?_
  exact L (z_nD s) 0 (by omega)

set_option maxHeartbeats 4000000 in
set_option maxRecDepth 100000 in
theorem m_isSale (Y : hY) (l : Launch) {ad : Nat → Nat → Nat} {s : zS} {tk : Nat → Bool} {f : hw_F} (P : mPic Y ad s tk f) (N : zN s) : hM Y l y_Mod_isSale S_Mod_isSale (some .boolean) [.ref (ad 0 0)] f (fun r f' => (∃ b : Bool, r = some (.int (bI b)) ∧ (b = true ↔ zk_sale s tk)) ∧ f' = f) := by
  refine hM.of (by decide) rfl (Nat.le_of_ble_eq_true rfl) ?_
  intro X hl hnm C E
  show hG Y X S_Mod_isSale 0 0 f [(0, .ref (ad 0 0))] [] 0
  have N6 : ∀ k, k < z_nD s → z_ow s k < 6 := fun k h => by have := N.2.2.2.2.1 k h; have := N.2.1; omega
  have L3 : (∀ k, k < z_nD s → tk k = true → z_pl s k = true) → (∀ l, l < z_nL s → zc_cnt (fun k => tk k && z_h s (8 * k + l)) (z_nD s) ≤ 1) → ∀ d j, j + d = z_nB s → (∀ b, b < j → nI (zc_sum (fun k => bif tk k && decide (z_ow s k = b) then z_lots s k else 0) (z_nD s)) ≤ z_m s b) → hG Y X S_Mod_isSale 0 0 f [(1, .int (nI (j))), (0, .ref (ad 0 0))] [] 110 := by
    intro h1 h2 d
    induction d with
    | zero =>
      intro j hj hal
      obtain rfl : j = z_nB s := by omega
      refine r_iload_n C d_Mod_isSale_110 rfl rfl ?_
      refine r_aload_n C d_Mod_isSale_111 rfl rfl ?_
      refine r_get C hq_Mod d_Mod_isSale_112 (j := 1) (Nat.le_of_ble_eq_true rfl) mf_Mod_79 (mp_0 P) rfl ?_
      refine r_icmp_ge (tgt := 185) C d_Mod_isSale_115 rfl (fun _ => ?_) (fun hz => absurd (nI_le (a := z_nB s) (Nat.le_refl _) (by have := N.2.1; omega)) hz)
      refine r_iconst (v := 1) C d_Mod_isSale_185 rfl ?_
      refine r_zret C E rfl d_Mod_isSale_186 (rfl) (Nat.le_of_ble_eq_true rfl) (Nat.le_of_ble_eq_true rfl) ?_
      have hz : zk_sale s tk := ⟨h1, h2, hal⟩
      exact ⟨⟨true, rfl, by simp [hz]⟩, rfl⟩
    | succ d ih =>
      intro j hj hal
      have hj6 : j < 6 := by have := N.2.1; omega
      have I : ∀ d q, q + d = z_nD s → hG Y X S_Mod_isSale 0 0 f [(3, .int (nI (q))), (2, .int (nI (zc_sum (fun k => bif tk k && decide (z_ow s k = j) then z_lots s k else 0) q))), (1, .int (nI (j))), (0, .ref (ad 0 0))] [] 122 := by
        intro d
        induction d with
        | zero =>
          intro q hq
          obtain rfl : q = z_nD s := by omega
          refine r_iload_n C d_Mod_isSale_122 rfl rfl ?_
          refine r_aload_n C d_Mod_isSale_123 rfl rfl ?_
          refine r_get C hq_Mod d_Mod_isSale_124 (j := 8) (Nat.le_of_ble_eq_true rfl) mf_Mod_82 (mp_0 P) rfl ?_
          refine r_icmp_ge (tgt := 167) C d_Mod_isSale_127 rfl (fun _ => ?_) (fun hz => absurd (nI_le (a := z_nD s) (Nat.le_refl _) (by have := N.2.2.1; omega)) hz)
          refine r_iload_n C d_Mod_isSale_167 rfl rfl ?_
          refine r_aload_n C d_Mod_isSale_168 rfl rfl ?_
          refine r_get C hq_Mod d_Mod_isSale_169 (j := 5) (Nat.le_of_ble_eq_true rfl) mf_Mod_20 (mp_0 P) rfl ?_
          refine r_iload_n C d_Mod_isSale_172 rfl rfl ?_
          refine r_iald (t0 := 1) C d_Mod_isSale_173 (mp_mosts P) rfl (rfl) (hj6) (by decide) (rfl) ?_
          refine r_icmp_le (tgt := 179) C d_Mod_isSale_174 rfl (fun c_174 => ?_) (fun c_174 => ?_)
          · skip
            refine r_iinc (v := nI (j + 1)) (lv' := [(1, _), (3, _), (2, _), (0, _)]) C d_Mod_isSale_179 rfl (nI_1 j) (Nat.le_of_ble_eq_true rfl) rfl ?_
            refine r_goto (tgt := 110) C d_Mod_isSale_182 rfl ?_
            refine r_sub [0, 3] rfl ?_
            exact ih (j + 1) (by omega) (fun b hb => by
              rcases Nat.lt_or_ge b j with h | h
              · exact hal b h
              · rw [show b = j by omega]; exact c_174)
          · skip
            have hz : ¬ zk_sale s tk := fun h => c_174 (h.2.2 j (by omega))
            refine r_iconst (v := 0) C d_Mod_isSale_177 rfl ?_
            refine r_zret C E rfl d_Mod_isSale_178 (rfl) (Nat.le_of_ble_eq_true rfl) (Nat.le_of_ble_eq_true rfl) ?_
            exact ⟨⟨false, rfl, by simp [hz]⟩, rfl⟩
        | succ d ih2 =>
          intro q hq
          have hq12 : q < 12 := by have := N.2.2.1; omega
          refine r_iload_n C d_Mod_isSale_122 rfl rfl ?_
          refine r_aload_n C d_Mod_isSale_123 rfl rfl ?_
          refine r_get C hq_Mod d_Mod_isSale_124 (j := 8) (Nat.le_of_ble_eq_true rfl) mf_Mod_82 (mp_0 P) rfl ?_
          refine r_icmp_ge (tgt := 167) C d_Mod_isSale_127 rfl (fun hz => absurd hz (nI_ge (a := q) (b := z_nD s) (by omega) (by have := N.2.2.1; omega))) (fun _ => ?_)
          refine r_iload_n C d_Mod_isSale_130 rfl rfl ?_
          refine r_aload_n C d_Mod_isSale_131 rfl rfl ?_
          refine r_get C hq_Mod d_Mod_isSale_132 (j := 27) (Nat.le_of_ble_eq_true rfl) mf_Mod_72 (mp_0 P) rfl ?_
          refine r_iload_n C d_Mod_isSale_135 rfl rfl ?_
          refine r_zald (t0 := 2) C d_Mod_isSale_136 (mp_taken P) rfl (rfl) (hq12) (by decide) (rfl) ?_
          refine r_if_eq (tgt := 158) C d_Mod_isSale_137 rfl (fun c_137 => ?_) (fun c_137 => ?_)
          · skip
            rw [bI_0] at c_137
            have e9 : nI (zc_sum (fun k => bif tk k && decide (z_ow s k = j) then z_lots s k else 0) q) + 0 = nI (zc_sum (fun k => bif tk k && decide (z_ow s k = j) then z_lots s k else 0) (q + 1)) := by simp [zc_sum, c_137]
            refine r_iconst (v := 0) C d_Mod_isSale_158 rfl ?_
            refine r_iadd C d_Mod_isSale_159 ?_
            refine r_istore_n (lv' := [(2, _), (3, _), (1, _), (0, _)]) C d_Mod_isSale_160 rfl (Nat.le_of_ble_eq_true rfl) rfl ?_
            rw [e9]
            refine r_iinc (v := nI (q + 1)) (lv' := [(3, _), (2, _), (1, _), (0, _)]) C d_Mod_isSale_161 rfl (nI_1 q) (Nat.le_of_ble_eq_true rfl) rfl ?_
            refine r_goto (tgt := 122) C d_Mod_isSale_164 rfl ?_
            refine r_sub [0, 1, 2, 3] rfl ?_
            exact ih2 (q + 1) (by omega)
          · skip
            rw [bI_n0] at c_137
            refine r_aload_n C d_Mod_isSale_140 rfl rfl ?_
            refine r_get C hq_Mod d_Mod_isSale_141 (j := 9) (Nat.le_of_ble_eq_true rfl) mf_Mod_30 (mp_0 P) rfl ?_
            refine r_iload_n C d_Mod_isSale_144 rfl rfl ?_
            refine r_iald (t0 := 1) C d_Mod_isSale_145 (mp_owners P) rfl (rfl) (hq12) (by decide) (rfl) ?_
            refine r_iload_n C d_Mod_isSale_146 rfl rfl ?_
            refine r_icmp_ne (tgt := 158) C d_Mod_isSale_147 rfl (fun c_147 => ?_) (fun c_147 => ?_)
            · skip
              have e9 : nI (zc_sum (fun k => bif tk k && decide (z_ow s k = j) then z_lots s k else 0) q) + 0 = nI (zc_sum (fun k => bif tk k && decide (z_ow s k = j) then z_lots s k else 0) (q + 1)) := by
                have : z_ow s q ≠ j := fun h => c_147 (by show nI (z_ow s q) = nI j; rw [h])
                simp [zc_sum, this]
              refine r_iconst (v := 0) C d_Mod_isSale_158 rfl ?_
              refine r_iadd C d_Mod_isSale_159 ?_
              refine r_istore_n (lv' := [(2, _), (3, _), (1, _), (0, _)]) C d_Mod_isSale_160 rfl (Nat.le_of_ble_eq_true rfl) rfl ?_
              rw [e9]
              refine r_iinc (v := nI (q + 1)) (lv' := [(3, _), (2, _), (1, _), (0, _)]) C d_Mod_isSale_161 rfl (nI_1 q) (Nat.le_of_ble_eq_true rfl) rfl ?_
              refine r_goto (tgt := 122) C d_Mod_isSale_164 rfl ?_
              refine r_sub [0, 1, 2, 3] rfl ?_
              exact ih2 (q + 1) (by omega)
            · skip
              have e9 : nI (zc_sum (fun k => bif tk k && decide (z_ow s k = j) then z_lots s k else 0) q) + nI (z_lots s q) = nI (zc_sum (fun k => bif tk k && decide (z_ow s k = j) then z_lots s k else 0) (q + 1)) := by
                have : z_ow s q = j := (nI_eq (by have := N6 q (by omega); omega) (by omega)).mp c_147
                simp [zc_sum, this, c_137, nI_add]
              refine r_aload_n C d_Mod_isSale_150 rfl rfl ?_
              refine r_iload_n C d_Mod_isSale_151 rfl rfl ?_
              refine r_callV C (m_lotsOf Y _ P hq12) mQ_Mod_lotsOf d_Mod_isSale_152 ml_Mod_123 mi_Mod_lotsOf mv_Mod_lotsOf (mp_0 P) rfl rfl rfl rfl (Nat.le_of_ble_eq_true rfl) ⟨⟨Nat.le_of_ble_eq_true rfl, Nat.le_of_ble_eq_true rfl⟩, Nat.le_of_ble_eq_true rfl, Nat.le_of_ble_eq_true rfl⟩ (fun v f' hp => ?_)
              obtain ⟨rfl, hf⟩ := hp
              replace hf := hf.symm
              subst hf
              refine r_goto (tgt := 159) C d_Mod_isSale_155 rfl ?_
              refine r_iadd C d_Mod_isSale_159 ?_
              refine r_istore_n (lv' := [(2, _), (3, _), (1, _), (0, _)]) C d_Mod_isSale_160 rfl (Nat.le_of_ble_eq_true rfl) rfl ?_
              rw [e9]
              refine r_iinc (v := nI (q + 1)) (lv' := [(3, _), (2, _), (1, _), (0, _)]) C d_Mod_isSale_161 rfl (nI_1 q) (Nat.le_of_ble_eq_true rfl) rfl ?_
              refine r_goto (tgt := 122) C d_Mod_isSale_164 rfl ?_
              refine r_sub [0, 1, 2, 3] rfl ?_
              exact ih2 (q + 1) (by omega)
      refine r_iload_n C d_Mod_isSale_110 rfl rfl ?_
      refine r_aload_n C d_Mod_isSale_111 rfl rfl ?_
      refine r_get C hq_Mod d_Mod_isSale_112 (j := 1) (Nat.le_of_ble_eq_true rfl) mf_Mod_79 (mp_0 P) rfl ?_
      refine r_icmp_ge (tgt := 185) C d_Mod_isSale_115 rfl (fun hz => absurd hz (nI_ge (a := j) (b := z_nB s) (by omega) (by have := N.2.1; omega))) (fun _ => ?_)
      refine r_iconst (v := 0) C d_Mod_isSale_118 rfl ?_
      refine r_istore_n (lv' := [(2, _), (1, _), (0, _)]) C d_Mod_isSale_119 rfl (Nat.le_of_ble_eq_true rfl) rfl ?_
      refine r_iconst (v := 0) C d_Mod_isSale_120 rfl ?_
      refine r_istore_n (lv' := [(3, _), (2, _), (1, _), (0, _)]) C d_Mod_isSale_121 rfl (Nat.le_of_ble_eq_true rfl) rfl ?_
      exact I (z_nD s) 0 (by omega)
  have L2 : (∀ k, k < z_nD s → tk k = true → z_pl s k = true) → ∀ d j, j + d = z_nL s → (∀ l, l < j → zc_cnt (fun k => tk k && z_h s (8 * k + l)) (z_nD s) ≤ 1) → hG Y X S_Mod_isSale 0 0 f [(1, .int (nI (j))), (0, .ref (ad 0 0))] [] 38 := by
    intro h1 d
    induction d with
    | zero =>
      intro j hj hal
      obtain rfl : j = z_nL s := by omega
      refine r_iload_n C d_Mod_isSale_38 rfl rfl ?_
      refine r_aload_n C d_Mod_isSale_39 rfl rfl ?_
      refine r_get C hq_Mod d_Mod_isSale_40 (j := 0) (Nat.le_of_ble_eq_true rfl) mf_Mod_75 (mp_0 P) rfl ?_
      refine r_icmp_ge (tgt := 108) C d_Mod_isSale_43 rfl (fun _ => ?_) (fun hz => absurd (nI_le (a := z_nL s) (Nat.le_refl _) (by have := N.1; omega)) hz)
      refine r_iconst (v := 0) C d_Mod_isSale_108 rfl ?_
      refine r_istore_n (lv' := [(1, _), (0, _)]) C d_Mod_isSale_109 rfl (Nat.le_of_ble_eq_true rfl) rfl ?_
      exact L3 h1 hal (z_nB s) 0 (by omega) (fun b hb => absurd hb (by omega))
    | succ d ih =>
      intro j hj hal
      have hj8 : j < 8 := by have := N.1; omega
      have I : ∀ d q, q + d = z_nD s → hG Y X S_Mod_isSale 0 0 f [(3, .int (nI (q))), (2, .int (nI (zc_cnt (fun k => tk k && z_h s (8 * k + j)) q))), (1, .int (nI (j))), (0, .ref (ad 0 0))] [] 50 := by
        intro d
        induction d with
        | zero =>
          intro q hq
          obtain rfl : q = z_nD s := by omega
          refine r_iload_n C d_Mod_isSale_50 rfl rfl ?_
          refine r_aload_n C d_Mod_isSale_51 rfl rfl ?_
          refine r_get C hq_Mod d_Mod_isSale_52 (j := 8) (Nat.le_of_ble_eq_true rfl) mf_Mod_82 (mp_0 P) rfl ?_
          refine r_icmp_ge (tgt := 95) C d_Mod_isSale_55 rfl (fun _ => ?_) (fun hz => absurd (nI_le (a := z_nD s) (Nat.le_refl _) (by have := N.2.2.1; omega)) hz)
          refine r_iload_n C d_Mod_isSale_95 rfl rfl ?_
          refine r_iconst (v := 1) C d_Mod_isSale_96 rfl ?_
          refine r_icmp_le (tgt := 102) C d_Mod_isSale_97 rfl (fun c_97 => ?_) (fun c_97 => ?_)
          · skip
            have c97 : zc_cnt (fun k => tk k && z_h s (8 * k + j)) (z_nD s) ≤ 1 := (nI_leI (by have := zc_le (fun k => tk k && z_h s (8 * k + j)) (z_nD s); have := N.2.2.1; omega) (by decide)).mp c_97
            refine r_iinc (v := nI (j + 1)) (lv' := [(1, _), (3, _), (2, _), (0, _)]) C d_Mod_isSale_102 rfl (nI_1 j) (Nat.le_of_ble_eq_true rfl) rfl ?_
            refine r_goto (tgt := 38) C d_Mod_isSale_105 rfl ?_
            refine r_sub [0, 3] rfl ?_
            exact ih (j + 1) (by omega) (fun b hb => by
              rcases Nat.lt_or_ge b j with h | h
              · exact hal b h
              · rw [show b = j by omega]; exact c97)
          · skip
            have hz : ¬ zk_sale s tk := fun h => c_97 (nI_le (b := 1) (h.2.1 j (by omega)) (by decide))
            refine r_iconst (v := 0) C d_Mod_isSale_100 rfl ?_
            refine r_zret C E rfl d_Mod_isSale_101 (rfl) (Nat.le_of_ble_eq_true rfl) (Nat.le_of_ble_eq_true rfl) ?_
            exact ⟨⟨false, rfl, by simp [hz]⟩, rfl⟩
        | succ d ih2 =>
          intro q hq
          have hq12 : q < 12 := by have := N.2.2.1; omega
          refine r_iload_n C d_Mod_isSale_50 rfl rfl ?_
          refine r_aload_n C d_Mod_isSale_51 rfl rfl ?_
          refine r_get C hq_Mod d_Mod_isSale_52 (j := 8) (Nat.le_of_ble_eq_true rfl) mf_Mod_82 (mp_0 P) rfl ?_
          refine r_icmp_ge (tgt := 95) C d_Mod_isSale_55 rfl (fun hz => absurd hz (nI_ge (a := q) (b := z_nD s) (by omega) (by have := N.2.2.1; omega))) (fun _ => ?_)
          refine r_iload_n C d_Mod_isSale_58 rfl rfl ?_
          refine r_aload_n C d_Mod_isSale_59 rfl rfl ?_
          refine r_get C hq_Mod d_Mod_isSale_60 (j := 27) (Nat.le_of_ble_eq_true rfl) mf_Mod_72 (mp_0 P) rfl ?_
          refine r_iload_n C d_Mod_isSale_63 rfl rfl ?_
          refine r_zald (t0 := 2) C d_Mod_isSale_64 (mp_taken P) rfl (rfl) (hq12) (by decide) (rfl) ?_
          refine r_if_eq (tgt := 86) C d_Mod_isSale_65 rfl (fun c_65 => ?_) (fun c_65 => ?_)
          · skip
            rw [bI_0] at c_65
            have e9 : nI (zc_cnt (fun k => tk k && z_h s (8 * k + j)) q) + 0 = nI (zc_cnt (fun k => tk k && z_h s (8 * k + j)) (q + 1)) := by simp [zc_cnt, c_65]
            refine r_iconst (v := 0) C d_Mod_isSale_86 rfl ?_
            refine r_iadd C d_Mod_isSale_87 ?_
            refine r_istore_n (lv' := [(2, _), (3, _), (1, _), (0, _)]) C d_Mod_isSale_88 rfl (Nat.le_of_ble_eq_true rfl) rfl ?_
            rw [e9]
            refine r_iinc (v := nI (q + 1)) (lv' := [(3, _), (2, _), (1, _), (0, _)]) C d_Mod_isSale_89 rfl (nI_1 q) (Nat.le_of_ble_eq_true rfl) rfl ?_
            refine r_goto (tgt := 50) C d_Mod_isSale_92 rfl ?_
            refine r_sub [0, 1, 2, 3] rfl ?_
            exact ih2 (q + 1) (by omega)
          · skip
            rw [bI_n0] at c_65
            refine r_aload_n C d_Mod_isSale_68 rfl rfl ?_
            refine r_get C hq_Mod d_Mod_isSale_69 (j := 11) (Nat.le_of_ble_eq_true rfl) mf_Mod_36 (mp_0 P) rfl ?_
            refine r_bipush (v := 8) C d_Mod_isSale_72 rfl ?_
            refine r_iload_n C d_Mod_isSale_74 rfl rfl ?_
            refine r_imul C d_Mod_isSale_75 ?_
            refine r_iload_n C d_Mod_isSale_76 rfl rfl ?_
            refine r_iadd C d_Mod_isSale_77 ?_
            refine r_zald (t0 := 2) C d_Mod_isSale_78 (mp_has P) rfl (ix8 q j) (by omega) (by decide) (rfl) ?_
            refine r_if_eq (tgt := 86) C d_Mod_isSale_79 rfl (fun c_79 => ?_) (fun c_79 => ?_)
            · skip
              rw [bI_0] at c_79
              have e9 : nI (zc_cnt (fun k => tk k && z_h s (8 * k + j)) q) + 0 = nI (zc_cnt (fun k => tk k && z_h s (8 * k + j)) (q + 1)) := by simp [zc_cnt, c_79]
              refine r_iconst (v := 0) C d_Mod_isSale_86 rfl ?_
              refine r_iadd C d_Mod_isSale_87 ?_
              refine r_istore_n (lv' := [(2, _), (3, _), (1, _), (0, _)]) C d_Mod_isSale_88 rfl (Nat.le_of_ble_eq_true rfl) rfl ?_
              rw [e9]
              refine r_iinc (v := nI (q + 1)) (lv' := [(3, _), (2, _), (1, _), (0, _)]) C d_Mod_isSale_89 rfl (nI_1 q) (Nat.le_of_ble_eq_true rfl) rfl ?_
              refine r_goto (tgt := 50) C d_Mod_isSale_92 rfl ?_
              refine r_sub [0, 1, 2, 3] rfl ?_
              exact ih2 (q + 1) (by omega)
            · skip
              rw [bI_n0] at c_79
              have e9 : nI (zc_cnt (fun k => tk k && z_h s (8 * k + j)) q) + 1 = nI (zc_cnt (fun k => tk k && z_h s (8 * k + j)) (q + 1)) := by simp [zc_cnt, c_79, c_65, nI_1]
              refine r_iconst (v := 1) C d_Mod_isSale_82 rfl ?_
              refine r_goto (tgt := 87) C d_Mod_isSale_83 rfl ?_
              refine r_iadd C d_Mod_isSale_87 ?_
              refine r_istore_n (lv' := [(2, _), (3, _), (1, _), (0, _)]) C d_Mod_isSale_88 rfl (Nat.le_of_ble_eq_true rfl) rfl ?_
              rw [e9]
              refine r_iinc (v := nI (q + 1)) (lv' := [(3, _), (2, _), (1, _), (0, _)]) C d_Mod_isSale_89 rfl (nI_1 q) (Nat.le_of_ble_eq_true rfl) rfl ?_
              refine r_goto (tgt := 50) C d_Mod_isSale_92 rfl ?_
              refine r_sub [0, 1, 2, 3] rfl ?_
              exact ih2 (q + 1) (by omega)
      refine r_iload_n C d_Mod_isSale_38 rfl rfl ?_
      refine r_aload_n C d_Mod_isSale_39 rfl rfl ?_
      refine r_get C hq_Mod d_Mod_isSale_40 (j := 0) (Nat.le_of_ble_eq_true rfl) mf_Mod_75 (mp_0 P) rfl ?_
      refine r_icmp_ge (tgt := 108) C d_Mod_isSale_43 rfl (fun hz => absurd hz (nI_ge (a := j) (b := z_nL s) (by omega) (by have := N.1; omega))) (fun _ => ?_)
      refine r_iconst (v := 0) C d_Mod_isSale_46 rfl ?_
      refine r_istore_n (lv' := [(2, _), (1, _), (0, _)]) C d_Mod_isSale_47 rfl (Nat.le_of_ble_eq_true rfl) rfl ?_
      refine r_iconst (v := 0) C d_Mod_isSale_48 rfl ?_
      refine r_istore_n (lv' := [(3, _), (2, _), (1, _), (0, _)]) C d_Mod_isSale_49 rfl (Nat.le_of_ble_eq_true rfl) rfl ?_
      exact I (z_nD s) 0 (by omega)
  have L1 : ∀ d j, j + d = z_nD s → (∀ k, k < j → tk k = true → z_pl s k = true) → hG Y X S_Mod_isSale 0 0 f [(1, .int (nI (j))), (0, .ref (ad 0 0))] [] 2 := by
    intro d
    induction d with
    | zero =>
      intro j hj hal
      obtain rfl : j = z_nD s := by omega
      refine r_iload_n C d_Mod_isSale_2 rfl rfl ?_
      refine r_aload_n C d_Mod_isSale_3 rfl rfl ?_
      refine r_get C hq_Mod d_Mod_isSale_4 (j := 8) (Nat.le_of_ble_eq_true rfl) mf_Mod_82 (mp_0 P) rfl ?_
      refine r_icmp_ge (tgt := 36) C d_Mod_isSale_7 rfl (fun _ => ?_) (fun hz => absurd (nI_le (a := z_nD s) (Nat.le_refl _) (by have := N.2.2.1; omega)) hz)
      refine r_iconst (v := 0) C d_Mod_isSale_36 rfl ?_
      refine r_istore_n (lv' := [(1, _), (0, _)]) C d_Mod_isSale_37 rfl (Nat.le_of_ble_eq_true rfl) rfl ?_
      exact L2 hal (z_nL s) 0 (by omega) (fun b hb => absurd hb (by omega))
    | succ d ih =>
      intro j hj hal
      have hj12 : j < 12 := by have := N.2.2.1; omega
      refine r_iload_n C d_Mod_isSale_2 rfl rfl ?_
      refine r_aload_n C d_Mod_isSale_3 rfl rfl ?_
      refine r_get C hq_Mod d_Mod_isSale_4 (j := 8) (Nat.le_of_ble_eq_true rfl) mf_Mod_82 (mp_0 P) rfl ?_
      refine r_icmp_ge (tgt := 36) C d_Mod_isSale_7 rfl (fun hz => absurd hz (nI_ge (a := j) (b := z_nD s) (by omega) (by have := N.2.2.1; omega))) (fun _ => ?_)
      refine r_aload_n C d_Mod_isSale_10 rfl rfl ?_
      refine r_get C hq_Mod d_Mod_isSale_11 (j := 27) (Nat.le_of_ble_eq_true rfl) mf_Mod_72 (mp_0 P) rfl ?_
      refine r_iload_n C d_Mod_isSale_14 rfl rfl ?_
      refine r_zald (t0 := 2) C d_Mod_isSale_15 (mp_taken P) rfl (rfl) (hj12) (by decide) (rfl) ?_
      refine r_if_eq (tgt := 30) C d_Mod_isSale_16 rfl (fun c_16 => ?_) (fun c_16 => ?_)
      · skip
        rw [bI_0] at c_16
        have e9 : tk j = true → z_pl s j = true := fun h => by rw [c_16] at h; cases h
        refine r_iinc (v := nI (j + 1)) (lv' := [(1, _), (0, _)]) C d_Mod_isSale_30 rfl (nI_1 j) (Nat.le_of_ble_eq_true rfl) rfl ?_
        refine r_goto (tgt := 2) C d_Mod_isSale_33 rfl ?_
        refine r_sub [0, 1] rfl ?_
        exact ih (j + 1) (by omega) (fun k hk ht => by
          rcases Nat.lt_or_ge k j with h | h
          · exact hal k h ht
          · rw [show k = j by omega] at ht ⊢; exact e9 ht)
      · skip
        rw [bI_n0] at c_16
        refine r_aload_n C d_Mod_isSale_19 rfl rfl ?_
        refine r_get C hq_Mod d_Mod_isSale_20 (j := 14) (Nat.le_of_ble_eq_true rfl) mf_Mod_39 (mp_0 P) rfl ?_
        refine r_iload_n C d_Mod_isSale_23 rfl rfl ?_
        refine r_zald (t0 := 2) C d_Mod_isSale_24 (mp_played P) rfl (rfl) (hj12) (by decide) (rfl) ?_
        refine r_if_ne (tgt := 30) C d_Mod_isSale_25 rfl (fun c_25 => ?_) (fun c_25 => ?_)
        · skip
          rw [bI_n0] at c_25
          have e9 : tk j = true → z_pl s j = true := fun _ => c_25
          refine r_iinc (v := nI (j + 1)) (lv' := [(1, _), (0, _)]) C d_Mod_isSale_30 rfl (nI_1 j) (Nat.le_of_ble_eq_true rfl) rfl ?_
          refine r_goto (tgt := 2) C d_Mod_isSale_33 rfl ?_
          refine r_sub [0, 1] rfl ?_
          exact ih (j + 1) (by omega) (fun k hk ht => by
            rcases Nat.lt_or_ge k j with h | h
            · exact hal k h ht
            · rw [show k = j by omega] at ht ⊢; exact e9 ht)
        · skip
          rw [bI_0] at c_25
          have hz : ¬ zk_sale s tk := fun h => by
            have := h.1 j (by omega) c_16
            rw [c_25] at this
            cases this
          refine r_iconst (v := 0) C d_Mod_isSale_28 rfl ?_
          refine r_zret C E rfl d_Mod_isSale_29 (rfl) (Nat.le_of_ble_eq_true rfl) (Nat.le_of_ble_eq_true rfl) ?_
          exact ⟨⟨false, rfl, by simp [hz]⟩, rfl⟩
  refine r_iconst (v := 0) C d_Mod_isSale_0 rfl ?_
  refine r_istore_n (lv' := [(1, _), (0, _)]) C d_Mod_isSale_1 rfl (Nat.le_of_ble_eq_true rfl) rfl ?_
  exact L1 (z_nD s) 0 (by omega) (fun k hk => absurd hk (by omega))

