set_option maxHeartbeats 4000000 in
set_option maxRecDepth 100000 in
theorem k_BT_digestOf (Y : hY) (l : Launch) {ad : Nat → Nat → Nat} {s : zS} {x : kX} {t : Bool} {f : hw_F} (P : kPic Y ad s x t f) (N : zN s) {i : Nat} (hi : i < z_nB s) (v : Int64) : hM Y l y_BT_digestOf S_BT_digestOf (some .long) [.ref (ad 0 0), .ref (ad 14 i), .long v] f (fun r f' => r = some (.long (zd_x s i v (z_nD s))) ∧ f' = f) := by
  refine hM.of (by decide) rfl (Nat.le_of_ble_eq_true rfl) ?_
  intro X hl hnm C E
  show hG Y X S_BT_digestOf 0 0 f [(0, .ref (ad 0 0)), (1, .ref (ad 14 i)), (2, .long v)] [] 0
  have L : ∀ d j, j + d = 12 → hG Y X S_BT_digestOf 0 0 f [(8, .int (nI (j))), (7, .int 12), (6, .ref (ad 3 0)), (4, .long (zd_x s i v (min (j) (z_nD s)))), (0, .ref (ad 0 0)), (1, .ref (ad 14 i)), (2, .long v)] [] 17 := by
    intro d
    induction d with
    | zero =>
      intro j hj
      obtain rfl : j = 12 := by omega
      rw [show min 12 (z_nD s) = z_nD s by have := N.2.2.1; omega]
      refine r_iload C d_BT_digestOf_17 rfl ?_
      refine r_iload C d_BT_digestOf_19 rfl ?_
      refine r_icmp_ge (tgt := 104) C d_BT_digestOf_21 rfl (fun _ => ?_) (fun hz => absurd (show (12 : Int32) ≤ nI 12 by decide) hz)
      refine r_lload C d_BT_digestOf_104 rfl ?_
      refine r_lret C E rfl d_BT_digestOf_106 (Nat.le_of_ble_eq_true rfl) (Nat.le_of_ble_eq_true rfl) ?_
      exact ⟨rfl, rfl⟩
    | succ d ih =>
      intro j hj
      rcases Nat.lt_or_ge j (z_nD s) with hn | hn
      · rw [show min j (z_nD s) = j by omega]
        refine r_iload C d_BT_digestOf_17 rfl ?_
        refine r_iload C d_BT_digestOf_19 rfl ?_
        refine r_icmp_ge (tgt := 104) C d_BT_digestOf_21 rfl (fun hz => absurd hz (nI_ge (a := j) (b := 12) (by omega) (by decide))) (fun _ => ?_)
        refine r_aload C d_BT_digestOf_24 rfl ?_
        refine r_iload C d_BT_digestOf_26 rfl ?_
        refine r_aald (t0 := 5) C d_BT_digestOf_28 (kp_3 P) rfl (rfl) (by omega) (by decide) (if_pos hn) ?_
        refine r_astore (lv' := [(9, _), (8, _), (7, _), (6, _), (4, _), (0, _), (1, _), (2, _)]) C d_BT_digestOf_29 (Nat.le_of_ble_eq_true rfl) rfl ?_
        refine r_aload C d_BT_digestOf_31 rfl ?_
        refine r_ifnull C d_BT_digestOf_33 ?_
        refine r_aload C d_BT_digestOf_36 rfl ?_
        refine r_getN C hq_Bid d_BT_digestOf_38 (j := 1) (Nat.le_of_ble_eq_true rfl) mf_BT_97 (kp_15 P (hn)) rfl ?_
        refine r_aload_n C d_BT_digestOf_41 rfl rfl ?_
        refine r_acmp_ne (tgt := 98) C d_BT_digestOf_42 rfl (fun c_42 => ?_) (fun c_42 => ?_)
        · skip
          have c42 : z_ow s j ≠ i := fun h => c_42 (by rw [h])
          rw [show zd_x s i v j = zd_x s i v (j + 1) by simp [zd_x, c42]]
          refine r_iinc (v := nI (j + 1)) (lv' := [(8, _), (9, _), (7, _), (6, _), (4, _), (0, _), (1, _), (2, _)]) C d_BT_digestOf_98 rfl (nI_1 j) (Nat.le_of_ble_eq_true rfl) rfl ?_
          refine r_goto (tgt := 17) C d_BT_digestOf_101 rfl ?_
          refine r_sub [0, 2, 3, 4, 5, 6, 7] rfl ?_
          have h9 := ih (j + 1) (by omega)
          rw [show min (j + 1) (z_nD s) = j + 1 by omega] at h9
          exact h9
        · skip
          have c42 : z_ow s j = i := (P.2 14 _ 14 _ (Or.inr (Or.inr (Or.inl ⟨rfl, (N.2.2.2.2.1 j hn)⟩))) (Or.inr (Or.inr (Or.inl ⟨rfl, hi⟩))) c_42).2
          refine r_lload C d_BT_digestOf_45 rfl ?_
          refine r_aload C d_BT_digestOf_47 rfl ?_
          refine r_getN C hq_Bid d_BT_digestOf_49 (j := 2) (Nat.le_of_ble_eq_true rfl) mf_BT_182 (kp_15 P (hn)) rfl ?_
          refine r_ladd C d_BT_digestOf_52 ?_
          refine r_lconst (v := 1) C d_BT_digestOf_53 rfl ?_
          refine r_ladd C d_BT_digestOf_54 ?_
          refine r_ldc2 C d_BT_digestOf_55 mn_BT_261 ?_
          refine r_lmul C d_BT_digestOf_58 ?_
          refine r_lstore (lv' := [(4, _), (9, _), (8, _), (7, _), (6, _), (0, _), (1, _), (2, _)]) C d_BT_digestOf_59 (Nat.le_of_ble_eq_true rfl) rfl ?_
          refine r_lload C d_BT_digestOf_61 rfl ?_
          refine r_lload C d_BT_digestOf_63 rfl ?_
          refine r_bipush (v := 29) C d_BT_digestOf_65 rfl ?_
          refine r_lushr C d_BT_digestOf_67 ?_
          refine r_lxor C d_BT_digestOf_68 ?_
          refine r_lstore (lv' := [(4, _), (9, _), (8, _), (7, _), (6, _), (0, _), (1, _), (2, _)]) C d_BT_digestOf_69 (Nat.le_of_ble_eq_true rfl) rfl ?_
          refine r_lload C d_BT_digestOf_71 rfl ?_
          refine r_aload C d_BT_digestOf_73 rfl ?_
          refine r_getN C hq_Bid d_BT_digestOf_75 (j := 3) (Nat.le_of_ble_eq_true rfl) mf_BT_108 (kp_15 P (hn)) rfl ?_
          refine r_i2l C d_BT_digestOf_78 ?_
          rw [nI_l (by have := z_ls_lt s j; omega)]
          refine r_ladd C d_BT_digestOf_79 ?_
          refine r_lconst (v := 1) C d_BT_digestOf_80 rfl ?_
          refine r_ladd C d_BT_digestOf_81 ?_
          refine r_ldc2 C d_BT_digestOf_82 mn_BT_263 ?_
          refine r_lmul C d_BT_digestOf_85 ?_
          refine r_lstore (lv' := [(4, _), (9, _), (8, _), (7, _), (6, _), (0, _), (1, _), (2, _)]) C d_BT_digestOf_86 (Nat.le_of_ble_eq_true rfl) rfl ?_
          refine r_lload C d_BT_digestOf_88 rfl ?_
          refine r_lload C d_BT_digestOf_90 rfl ?_
          refine r_bipush (v := 31) C d_BT_digestOf_92 rfl ?_
          refine r_lushr C d_BT_digestOf_94 ?_
          refine r_lxor C d_BT_digestOf_95 ?_
          refine r_lstore (lv' := [(4, _), (9, _), (8, _), (7, _), (6, _), (0, _), (1, _), (2, _)]) C d_BT_digestOf_96 (Nat.le_of_ble_eq_true rfl) rfl ?_
          show hG Y X S_BT_digestOf 0 0 f [(4, .long (zd_e (zd_d s j (zd_b (zd_a s j (zd_x s i v j)))))), (9, .ref (ad 15 j)), (8, .int (nI j)), (7, .int 12), (6, .ref (ad 3 0)), (0, .ref (ad 0 0)), (1, .ref (ad 14 i)), (2, .long v)] [] 98
          rw [show zd_e (zd_d s j (zd_b (zd_a s j (zd_x s i v j)))) = zd_x s i v (j + 1) by simp [zd_x, c42]]
          refine r_iinc (v := nI (j + 1)) (lv' := [(8, _), (4, _), (9, _), (7, _), (6, _), (0, _), (1, _), (2, _)]) C d_BT_digestOf_98 rfl (nI_1 j) (Nat.le_of_ble_eq_true rfl) rfl ?_
          refine r_goto (tgt := 17) C d_BT_digestOf_101 rfl ?_
          refine r_sub [0, 3, 4, 1, 5, 6, 7] rfl ?_
          have h9 := ih (j + 1) (by omega)
          rw [show min (j + 1) (z_nD s) = j + 1 by omega] at h9
          exact h9
      · rw [show min j (z_nD s) = z_nD s by omega]
        refine r_iload C d_BT_digestOf_17 rfl ?_
        refine r_iload C d_BT_digestOf_19 rfl ?_
        refine r_icmp_ge (tgt := 104) C d_BT_digestOf_21 rfl (fun hz => absurd hz (nI_ge (a := j) (b := 12) (by omega) (by decide))) (fun _ => ?_)
        refine r_aload C d_BT_digestOf_24 rfl ?_
        refine r_iload C d_BT_digestOf_26 rfl ?_
        refine r_aald (t0 := 5) C d_BT_digestOf_28 (kp_3 P) rfl (rfl) (by omega) (by decide) (if_neg (by omega)) ?_
        refine r_astoreN (lv' := [(9, _), (8, _), (7, _), (6, _), (4, _), (0, _), (1, _), (2, _)]) C d_BT_digestOf_29 (Nat.le_of_ble_eq_true rfl) rfl ?_
        refine r_aloadN C d_BT_digestOf_31 rfl ?_
        refine r_ifnullN (tgt := 98) C d_BT_digestOf_33 rfl ?_
        refine r_iinc (v := nI (j + 1)) (lv' := [(8, _), (9, _), (7, _), (6, _), (4, _), (0, _), (1, _), (2, _)]) C d_BT_digestOf_98 rfl (nI_1 j) (Nat.le_of_ble_eq_true rfl) rfl ?_
        refine r_goto (tgt := 17) C d_BT_digestOf_101 rfl ?_
        refine r_sub [0, 2, 3, 4, 5, 6, 7] rfl ?_
        have h9 := ih (j + 1) (by omega)
        rw [show min (j + 1) (z_nD s) = z_nD s by omega] at h9
        exact h9
  refine r_lload_n C d_BT_digestOf_0 rfl rfl ?_
  refine r_lstore (lv' := [(4, _), (0, _), (1, _), (2, _)]) C d_BT_digestOf_1 (Nat.le_of_ble_eq_true rfl) rfl ?_
  refine r_aload_n C d_BT_digestOf_3 rfl rfl ?_
  refine r_get C hq_BT d_BT_digestOf_4 (j := 2) (Nat.le_of_ble_eq_true rfl) mf_BT_23 (kp_0 P) rfl ?_
  refine r_astore (lv' := [(6, _), (4, _), (0, _), (1, _), (2, _)]) C d_BT_digestOf_7 (Nat.le_of_ble_eq_true rfl) rfl ?_
  refine r_aload C d_BT_digestOf_9 rfl ?_
  refine r_alen (t0 := 5) (v := 12) C d_BT_digestOf_11 (kp_3 P) rfl rfl ?_
  refine r_istore (lv' := [(7, _), (6, _), (4, _), (0, _), (1, _), (2, _)]) C d_BT_digestOf_12 (Nat.le_of_ble_eq_true rfl) rfl ?_
  refine r_iconst (v := 0) C d_BT_digestOf_14 rfl ?_
  refine r_istore (lv' := [(8, _), (7, _), (6, _), (4, _), (0, _), (1, _), (2, _)]) C d_BT_digestOf_15 (Nat.le_of_ble_eq_true rfl) rfl ?_
  have h9 := L 12 0 rfl
  rw [show min 0 (z_nD s) = 0 by omega] at h9
  exact h9

set_option maxHeartbeats 4000000 in
set_option maxRecDepth 100000 in
theorem k_BT_bidsOf (Y : hY) (l : Launch) {ad : Nat → Nat → Nat} {s : zS} {x : kX} {t : Bool} {f : hw_F} (P : kPic Y ad s x t f) (N : zN s) {i : Nat} (hi : i < z_nB s) : hM Y l y_BT_bidsOf S_BT_bidsOf (some .int) [.ref (ad 0 0), .ref (ad 14 i)] f (fun r f' => r = some (.int (nI (zc_cnt (fun k => decide (z_ow s k = i)) (z_nD s)))) ∧ f' = f) := by
  refine hM.of (by decide) rfl (Nat.le_of_ble_eq_true rfl) ?_
  intro X hl hnm C E
  show hG Y X S_BT_bidsOf 0 0 f [(0, .ref (ad 0 0)), (1, .ref (ad 14 i))] [] 0
  have L : ∀ d j, j + d = 12 → hG Y X S_BT_bidsOf 0 0 f [(5, .int (nI (j))), (4, .int 12), (3, .ref (ad 3 0)), (2, .int (nI (zc_cnt (fun k => decide (z_ow s k = i)) (min (j) (z_nD s))))), (0, .ref (ad 0 0)), (1, .ref (ad 14 i))] [] 14 := by
    intro d
    induction d with
    | zero =>
      intro j hj
      obtain rfl : j = 12 := by omega
      rw [show min 12 (z_nD s) = z_nD s by have := N.2.2.1; omega]
      refine r_iload C d_BT_bidsOf_14 rfl ?_
      refine r_iload C d_BT_bidsOf_16 rfl ?_
      refine r_icmp_ge (tgt := 50) C d_BT_bidsOf_18 rfl (fun _ => ?_) (fun hz => absurd (show (12 : Int32) ≤ nI 12 by decide) hz)
      refine r_iload_n C d_BT_bidsOf_50 rfl rfl ?_
      refine r_iret C E rfl d_BT_bidsOf_51 (Nat.le_of_ble_eq_true rfl) (Nat.le_of_ble_eq_true rfl) ?_
      exact ⟨rfl, rfl⟩
    | succ d ih =>
      intro j hj
      rcases Nat.lt_or_ge j (z_nD s) with hn | hn
      · rw [show min j (z_nD s) = j by omega]
        refine r_iload C d_BT_bidsOf_14 rfl ?_
        refine r_iload C d_BT_bidsOf_16 rfl ?_
        refine r_icmp_ge (tgt := 50) C d_BT_bidsOf_18 rfl (fun hz => absurd hz (nI_ge (a := j) (b := 12) (by omega) (by decide))) (fun _ => ?_)
        refine r_aload_n C d_BT_bidsOf_21 rfl rfl ?_
        refine r_iload C d_BT_bidsOf_22 rfl ?_
        refine r_aald (t0 := 5) C d_BT_bidsOf_24 (kp_3 P) rfl (rfl) (by omega) (by decide) (if_pos hn) ?_
        refine r_astore (lv' := [(6, _), (5, _), (4, _), (3, _), (2, _), (0, _), (1, _)]) C d_BT_bidsOf_25 (Nat.le_of_ble_eq_true rfl) rfl ?_
        refine r_aload C d_BT_bidsOf_27 rfl ?_
        refine r_ifnull C d_BT_bidsOf_29 ?_
        refine r_aload C d_BT_bidsOf_32 rfl ?_
        refine r_getN C hq_Bid d_BT_bidsOf_34 (j := 1) (Nat.le_of_ble_eq_true rfl) mf_BT_97 (kp_15 P (hn)) rfl ?_
        refine r_aload_n C d_BT_bidsOf_37 rfl rfl ?_
        refine r_acmp_ne (tgt := 44) C d_BT_bidsOf_38 rfl (fun c_38 => ?_) (fun c_38 => ?_)
        · skip
          have c38 : z_ow s j ≠ i := fun h => c_38 (by rw [h])
          rw [show zc_cnt (fun k => decide (z_ow s k = i)) j = zc_cnt (fun k => decide (z_ow s k = i)) (j + 1) by simp [zc_cnt, c38]]
          refine r_iinc (v := nI (j + 1)) (lv' := [(5, _), (6, _), (4, _), (3, _), (2, _), (0, _), (1, _)]) C d_BT_bidsOf_44 rfl (nI_1 j) (Nat.le_of_ble_eq_true rfl) rfl ?_
          refine r_goto (tgt := 14) C d_BT_bidsOf_47 rfl ?_
          refine r_sub [0, 2, 3, 4, 5, 6] rfl ?_
          have h9 := ih (j + 1) (by omega)
          rw [show min (j + 1) (z_nD s) = j + 1 by omega] at h9
          exact h9
        · skip
          have c38 : z_ow s j = i := (P.2 14 _ 14 _ (Or.inr (Or.inr (Or.inl ⟨rfl, (N.2.2.2.2.1 j hn)⟩))) (Or.inr (Or.inr (Or.inl ⟨rfl, hi⟩))) c_38).2
          refine r_iinc (v := nI (zc_cnt (fun k => decide (z_ow s k = i)) (j + 1))) (lv' := [(2, _), (6, _), (5, _), (4, _), (3, _), (0, _), (1, _)]) C d_BT_bidsOf_41 rfl (by rw [show zc_cnt (fun k => decide (z_ow s k = i)) (j + 1) = zc_cnt (fun k => decide (z_ow s k = i)) j + 1 by simp [zc_cnt, c38]]; exact nI_1 _) (Nat.le_of_ble_eq_true rfl) rfl ?_
          refine r_iinc (v := nI (j + 1)) (lv' := [(5, _), (2, _), (6, _), (4, _), (3, _), (0, _), (1, _)]) C d_BT_bidsOf_44 rfl (nI_1 j) (Nat.le_of_ble_eq_true rfl) rfl ?_
          refine r_goto (tgt := 14) C d_BT_bidsOf_47 rfl ?_
          refine r_sub [0, 3, 4, 1, 5, 6] rfl ?_
          have h9 := ih (j + 1) (by omega)
          rw [show min (j + 1) (z_nD s) = j + 1 by omega] at h9
          exact h9
      · rw [show min j (z_nD s) = z_nD s by omega]
        refine r_iload C d_BT_bidsOf_14 rfl ?_
        refine r_iload C d_BT_bidsOf_16 rfl ?_
        refine r_icmp_ge (tgt := 50) C d_BT_bidsOf_18 rfl (fun hz => absurd hz (nI_ge (a := j) (b := 12) (by omega) (by decide))) (fun _ => ?_)
        refine r_aload_n C d_BT_bidsOf_21 rfl rfl ?_
        refine r_iload C d_BT_bidsOf_22 rfl ?_
        refine r_aald (t0 := 5) C d_BT_bidsOf_24 (kp_3 P) rfl (rfl) (by omega) (by decide) (if_neg (by omega)) ?_
        refine r_astoreN (lv' := [(6, _), (5, _), (4, _), (3, _), (2, _), (0, _), (1, _)]) C d_BT_bidsOf_25 (Nat.le_of_ble_eq_true rfl) rfl ?_
        refine r_aloadN C d_BT_bidsOf_27 rfl ?_
        refine r_ifnullN (tgt := 44) C d_BT_bidsOf_29 rfl ?_
        refine r_iinc (v := nI (j + 1)) (lv' := [(5, _), (6, _), (4, _), (3, _), (2, _), (0, _), (1, _)]) C d_BT_bidsOf_44 rfl (nI_1 j) (Nat.le_of_ble_eq_true rfl) rfl ?_
        refine r_goto (tgt := 14) C d_BT_bidsOf_47 rfl ?_
        refine r_sub [0, 2, 3, 4, 5, 6] rfl ?_
        have h9 := ih (j + 1) (by omega)
        rw [show min (j + 1) (z_nD s) = z_nD s by omega] at h9
        exact h9
  refine r_iconst (v := 0) C d_BT_bidsOf_0 rfl ?_
  refine r_istore_n (lv' := [(2, _), (0, _), (1, _)]) C d_BT_bidsOf_1 rfl (Nat.le_of_ble_eq_true rfl) rfl ?_
  refine r_aload_n C d_BT_bidsOf_2 rfl rfl ?_
  refine r_get C hq_BT d_BT_bidsOf_3 (j := 2) (Nat.le_of_ble_eq_true rfl) mf_BT_23 (kp_0 P) rfl ?_
  refine r_astore_n (lv' := [(3, _), (2, _), (0, _), (1, _)]) C d_BT_bidsOf_6 rfl (Nat.le_of_ble_eq_true rfl) rfl ?_
  refine r_aload_n C d_BT_bidsOf_7 rfl rfl ?_
  refine r_alen (t0 := 5) (v := 12) C d_BT_bidsOf_8 (kp_3 P) rfl rfl ?_
  refine r_istore (lv' := [(4, _), (3, _), (2, _), (0, _), (1, _)]) C d_BT_bidsOf_9 (Nat.le_of_ble_eq_true rfl) rfl ?_
  refine r_iconst (v := 0) C d_BT_bidsOf_11 rfl ?_
  refine r_istore (lv' := [(5, _), (4, _), (3, _), (2, _), (0, _), (1, _)]) C d_BT_bidsOf_12 (Nat.le_of_ble_eq_true rfl) rfl ?_
  have h9 := L 12 0 rfl
  rw [show min 0 (z_nD s) = 0 by omega] at h9
  exact h9

