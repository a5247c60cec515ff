set_option maxHeartbeats 4000000 in
set_option maxRecDepth 100000 in
theorem m_told (Y : hY) (l : Launch) {ad : Nat → Nat → Nat} {s : zS} {tk : Nat → Bool} {f : hw_F} (P : mPic Y ad s tk f) {i : Nat} (hi : i < 6) : hM Y l y_Mod_told S_Mod_told (some .int) [.ref (ad 0 0), .int (nI i)] f (fun r f' => r = some (.int (nI (z_told s i))) ∧ f' = f) := by
  refine hM.of (by decide) rfl (Nat.le_of_ble_eq_true rfl) ?_
  intro X hl hnm C E
  show hG Y X S_Mod_told 0 0 f [(0, .ref (ad 0 0)), (1, .int (nI i))] [] 0
  have L : ∀ d j, j + d = 8 → hG Y X S_Mod_told 0 0 f [(3, .int (nI j)), (2, .int (nI (zc_cnt (fun q => z_sd s (8 * i + q)) j))), (0, .ref (ad 0 0)), (1, .int (nI i))] [] 4 := by
    intro d
    induction d with
    | zero =>
      intro j hj
      obtain rfl : j = 8 := by omega
      refine r_iload_n C d_Mod_told_4 rfl rfl ?_
      refine r_bipush (v := 8) C d_Mod_told_5 rfl ?_
      refine r_icmp_ge (tgt := 38) C d_Mod_told_7 rfl (fun _ => ?_) (fun hz => absurd (show (8 : Int32) ≤ nI 8 by decide) hz)
      refine r_iload_n C d_Mod_told_38 rfl rfl ?_
      refine r_iret C E rfl d_Mod_told_39 (Nat.le_of_ble_eq_true rfl) (Nat.le_of_ble_eq_true rfl) ?_
      exact ⟨rfl, rfl⟩
    | succ d ih =>
      intro j hj
      refine r_iload_n C d_Mod_told_4 rfl rfl ?_
      refine r_bipush (v := 8) C d_Mod_told_5 rfl ?_
      refine r_icmp_ge (tgt := 38) C d_Mod_told_7 rfl (fun hz => absurd hz (nI_ge (a := j) (b := 8) (by omega) (by decide))) (fun _ => ?_)
      refine r_iload_n C d_Mod_told_10 rfl rfl ?_
      refine r_aload_n C d_Mod_told_11 rfl rfl ?_
      refine r_get C hq_Mod d_Mod_told_12 (j := 7) (Nat.le_of_ble_eq_true rfl) mf_Mod_27 (mp_0 P) rfl ?_
      refine r_bipush (v := 8) C d_Mod_told_15 rfl ?_
      refine r_iload_n C d_Mod_told_17 rfl rfl ?_
      refine r_imul C d_Mod_told_18 ?_
      refine r_iload_n C d_Mod_told_19 rfl rfl ?_
      refine r_iadd C d_Mod_told_20 ?_
      refine r_zald (t0 := 2) C d_Mod_told_21 (mp_sealed P) rfl (ix8 i j) (by omega) (by decide) (rfl) ?_
      refine r_if_eq (tgt := 29) C d_Mod_told_22 rfl (fun c_22 => ?_) (fun c_22 => ?_)
      · skip
        rw [bI_0] at c_22
        have e9 : nI (zc_cnt (fun q => z_sd s (8 * i + q)) j) + 0 = nI (zc_cnt (fun q => z_sd s (8 * i + q)) (j + 1)) := by simp [zc_cnt, c_22]
        refine r_iconst (v := 0) C d_Mod_told_29 rfl ?_
        refine r_iadd C d_Mod_told_30 ?_
        refine r_istore_n (lv' := [(2, _), (3, _), (0, _), (1, _)]) C d_Mod_told_31 rfl (Nat.le_of_ble_eq_true rfl) rfl ?_
        rw [e9]
        refine r_iinc (v := nI (j + 1)) (lv' := [(3, _), (2, _), (0, _), (1, _)]) C d_Mod_told_32 rfl (nI_1 j) (Nat.le_of_ble_eq_true rfl) rfl ?_
        refine r_goto (tgt := 4) C d_Mod_told_35 rfl ?_
        exact ih (j + 1) (by omega)
      · skip
        rw [bI_n0] at c_22
        have e9 : nI (zc_cnt (fun q => z_sd s (8 * i + q)) j) + 1 = nI (zc_cnt (fun q => z_sd s (8 * i + q)) (j + 1)) := by simp [zc_cnt, c_22, nI_1]
        refine r_iconst (v := 1) C d_Mod_told_25 rfl ?_
        refine r_goto (tgt := 30) C d_Mod_told_26 rfl ?_
        refine r_iadd C d_Mod_told_30 ?_
        refine r_istore_n (lv' := [(2, _), (3, _), (0, _), (1, _)]) C d_Mod_told_31 rfl (Nat.le_of_ble_eq_true rfl) rfl ?_
        rw [e9]
        refine r_iinc (v := nI (j + 1)) (lv' := [(3, _), (2, _), (0, _), (1, _)]) C d_Mod_told_32 rfl (nI_1 j) (Nat.le_of_ble_eq_true rfl) rfl ?_
        refine r_goto (tgt := 4) C d_Mod_told_35 rfl ?_
        exact ih (j + 1) (by omega)
  refine r_iconst (v := 0) C d_Mod_told_0 rfl ?_
  refine r_istore_n (lv' := [(2, _), (0, _), (1, _)]) C d_Mod_told_1 rfl (Nat.le_of_ble_eq_true rfl) rfl ?_
  refine r_iconst (v := 0) C d_Mod_told_2 rfl ?_
  refine r_istore_n (lv' := [(3, _), (2, _), (0, _), (1, _)]) C d_Mod_told_3 rfl (Nat.le_of_ble_eq_true rfl) rfl ?_
  exact L 8 0 rfl

set_option maxHeartbeats 4000000 in
set_option maxRecDepth 100000 in
theorem m_lotsOf (Y : hY) (l : Launch) {ad : Nat → Nat → Nat} {s : zS} {tk : Nat → Bool} {f : hw_F} (P : mPic Y ad s tk f) {i : Nat} (hi : i < 12) : hM Y l y_Mod_lotsOf S_Mod_lotsOf (some .int) [.ref (ad 0 0), .int (nI i)] f (fun r f' => r = some (.int (nI (z_lots s i))) ∧ f' = f) := by
  refine hM.of (by decide) rfl (Nat.le_of_ble_eq_true rfl) ?_
  intro X hl hnm C E
  show hG Y X S_Mod_lotsOf 0 0 f [(0, .ref (ad 0 0)), (1, .int (nI i))] [] 0
  have L : ∀ d j, j + d = 8 → hG Y X S_Mod_lotsOf 0 0 f [(3, .int (nI j)), (2, .int (nI (zc_cnt (fun q => z_h s (8 * i + q)) j))), (0, .ref (ad 0 0)), (1, .int (nI i))] [] 4 := by
    intro d
    induction d with
    | zero =>
      intro j hj
      obtain rfl : j = 8 := by omega
      refine r_iload_n C d_Mod_lotsOf_4 rfl rfl ?_
      refine r_bipush (v := 8) C d_Mod_lotsOf_5 rfl ?_
      refine r_icmp_ge (tgt := 38) C d_Mod_lotsOf_7 rfl (fun _ => ?_) (fun hz => absurd (show (8 : Int32) ≤ nI 8 by decide) hz)
      refine r_iload_n C d_Mod_lotsOf_38 rfl rfl ?_
      refine r_iret C E rfl d_Mod_lotsOf_39 (Nat.le_of_ble_eq_true rfl) (Nat.le_of_ble_eq_true rfl) ?_
      exact ⟨rfl, rfl⟩
    | succ d ih =>
      intro j hj
      refine r_iload_n C d_Mod_lotsOf_4 rfl rfl ?_
      refine r_bipush (v := 8) C d_Mod_lotsOf_5 rfl ?_
      refine r_icmp_ge (tgt := 38) C d_Mod_lotsOf_7 rfl (fun hz => absurd hz (nI_ge (a := j) (b := 8) (by omega) (by decide))) (fun _ => ?_)
      refine r_iload_n C d_Mod_lotsOf_10 rfl rfl ?_
      refine r_aload_n C d_Mod_lotsOf_11 rfl rfl ?_
      refine r_get C hq_Mod d_Mod_lotsOf_12 (j := 11) (Nat.le_of_ble_eq_true rfl) mf_Mod_36 (mp_0 P) rfl ?_
      refine r_bipush (v := 8) C d_Mod_lotsOf_15 rfl ?_
      refine r_iload_n C d_Mod_lotsOf_17 rfl rfl ?_
      refine r_imul C d_Mod_lotsOf_18 ?_
      refine r_iload_n C d_Mod_lotsOf_19 rfl rfl ?_
      refine r_iadd C d_Mod_lotsOf_20 ?_
      refine r_zald (t0 := 2) C d_Mod_lotsOf_21 (mp_has P) rfl (ix8 i j) (by omega) (by decide) (rfl) ?_
      refine r_if_eq (tgt := 29) C d_Mod_lotsOf_22 rfl (fun c_22 => ?_) (fun c_22 => ?_)
      · skip
        rw [bI_0] at c_22
        have e9 : nI (zc_cnt (fun q => z_h s (8 * i + q)) j) + 0 = nI (zc_cnt (fun q => z_h s (8 * i + q)) (j + 1)) := by simp [zc_cnt, c_22]
        refine r_iconst (v := 0) C d_Mod_lotsOf_29 rfl ?_
        refine r_iadd C d_Mod_lotsOf_30 ?_
        refine r_istore_n (lv' := [(2, _), (3, _), (0, _), (1, _)]) C d_Mod_lotsOf_31 rfl (Nat.le_of_ble_eq_true rfl) rfl ?_
        rw [e9]
        refine r_iinc (v := nI (j + 1)) (lv' := [(3, _), (2, _), (0, _), (1, _)]) C d_Mod_lotsOf_32 rfl (nI_1 j) (Nat.le_of_ble_eq_true rfl) rfl ?_
        refine r_goto (tgt := 4) C d_Mod_lotsOf_35 rfl ?_
        exact ih (j + 1) (by omega)
      · skip
        rw [bI_n0] at c_22
        have e9 : nI (zc_cnt (fun q => z_h s (8 * i + q)) j) + 1 = nI (zc_cnt (fun q => z_h s (8 * i + q)) (j + 1)) := by simp [zc_cnt, c_22, nI_1]
        refine r_iconst (v := 1) C d_Mod_lotsOf_25 rfl ?_
        refine r_goto (tgt := 30) C d_Mod_lotsOf_26 rfl ?_
        refine r_iadd C d_Mod_lotsOf_30 ?_
        refine r_istore_n (lv' := [(2, _), (3, _), (0, _), (1, _)]) C d_Mod_lotsOf_31 rfl (Nat.le_of_ble_eq_true rfl) rfl ?_
        rw [e9]
        refine r_iinc (v := nI (j + 1)) (lv' := [(3, _), (2, _), (0, _), (1, _)]) C d_Mod_lotsOf_32 rfl (nI_1 j) (Nat.le_of_ble_eq_true rfl) rfl ?_
        refine r_goto (tgt := 4) C d_Mod_lotsOf_35 rfl ?_
        exact ih (j + 1) (by omega)
  refine r_iconst (v := 0) C d_Mod_lotsOf_0 rfl ?_
  refine r_istore_n (lv' := [(2, _), (0, _), (1, _)]) C d_Mod_lotsOf_1 rfl (Nat.le_of_ble_eq_true rfl) rfl ?_
  refine r_iconst (v := 0) C d_Mod_lotsOf_2 rfl ?_
  refine r_istore_n (lv' := [(3, _), (2, _), (0, _), (1, _)]) C d_Mod_lotsOf_3 rfl (Nat.le_of_ble_eq_true rfl) rfl ?_
  exact L 8 0 rfl

