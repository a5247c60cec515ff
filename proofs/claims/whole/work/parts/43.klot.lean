set_option maxHeartbeats 4000000 in
set_option maxRecDepth 100000 in
theorem k_Lot_comparedTo (Y : hY) (l : Launch) {ad : Nat → Nat → Nat} {s : zS} {x : kX} {t : Bool} {f : hw_F} (P : kPic Y ad s x t f) {i q : Nat} (hi : i < z_nL s) (hq : q < 6) (a b : Int64) : hM Y l y_Lot_comparedTo S_Lot_comparedTo (some .int) [.ref (ad 10 i), .int (nI q), .long a, .long b] f (fun r f' => r = some (.int (lg_cmp (z_sa s (6 * i + q) * b) (a * z_sl s (6 * i + q)))) ∧ f' = f) := by
  refine hM.of (by decide) rfl (Nat.le_of_ble_eq_true rfl) ?_
  intro X hl hnm C E
  show hG Y X S_Lot_comparedTo 0 0 f [(0, .ref (ad 10 i)), (1, .int (nI q)), (2, .long a), (4, .long b)] [] 0
  refine r_aload_n C d_Lot_comparedTo_0 rfl rfl ?_
  refine r_get C hq_Lot d_Lot_comparedTo_1 (j := 0) (Nat.le_of_ble_eq_true rfl) mf_Lot_9 (kp_10 P (hi)) rfl ?_
  refine r_iload_n C d_Lot_comparedTo_4 rfl rfl ?_
  refine r_lald (t0 := 0) C d_Lot_comparedTo_5 (kp_11 P (hi)) rfl (rfl) (hq) (by decide) (if_pos hq) ?_
  refine r_lload C d_Lot_comparedTo_6 rfl ?_
  refine r_lmul C d_Lot_comparedTo_8 ?_
  refine r_lload_n C d_Lot_comparedTo_9 rfl rfl ?_
  refine r_aload_n C d_Lot_comparedTo_10 rfl rfl ?_
  refine r_get C hq_Lot d_Lot_comparedTo_11 (j := 1) (Nat.le_of_ble_eq_true rfl) mf_Lot_15 (kp_10 P (hi)) rfl ?_
  refine r_iload_n C d_Lot_comparedTo_14 rfl rfl ?_
  refine r_lald (t0 := 0) C d_Lot_comparedTo_15 (kp_12 P (hi)) rfl (rfl) (hq) (by decide) (if_pos hq) ?_
  refine r_lmul C d_Lot_comparedTo_16 ?_
  refine r_callS C (k_Jlo_compare Y _ _ _ _) mQ_Jlo_compare d_Lot_comparedTo_17 ml_Lot_29 mt_Jlo_compare rfl rfl (Nat.le_of_ble_eq_true rfl) ⟨⟨Nat.le_of_ble_eq_true rfl, Nat.le_of_ble_eq_true rfl⟩, Nat.le_of_ble_eq_true rfl, Nat.le_of_ble_eq_true rfl⟩ (fun v f' hp => ?_)
  obtain ⟨rfl, hf⟩ := hp
  replace hf := hf.symm
  subst hf
  refine r_iret C E rfl d_Lot_comparedTo_20 (Nat.le_of_ble_eq_true rfl) (Nat.le_of_ble_eq_true rfl) ?_
  exact ⟨rfl, rfl⟩

set_option maxHeartbeats 4000000 in
set_option maxRecDepth 100000 in
theorem k_Lot_centsAt (Y : hY) (l : Launch) {ad : Nat → Nat → Nat} {s : zS} {x : kX} {t : Bool} {f : hw_F} (P : kPic Y ad s x t f) (N : zN s) {i : Nat} (hi : i < z_nL s) (a b : Int64) : hM Y l y_Lot_centsAt S_Lot_centsAt (some .long) [.ref (ad 10 i), .long a, .long b] f (fun r f' => r = some (.long (zp_ch s i a b (z_sn s i))) ∧ f' = f) := by
  refine hM.of (by decide) rfl (Nat.le_of_ble_eq_true rfl) ?_
  intro X hl hnm C E
  show hG Y X S_Lot_centsAt 0 0 f [(0, .ref (ad 10 i)), (1, .long a), (3, .long b)] [] 0
  have L : ∀ j, j ≤ 6 → zp_ch s i a b (z_sn s i) = zp_ch s i a b j → hG Y X S_Lot_centsAt 0 0 f [(5, .int (nI (j) - 1)), (0, .ref (ad 10 i)), (1, .long a), (3, .long b)] [] 8 := by
    intro j
    induction j with
    | zero =>
      intro hj he
      refine r_iload C d_Lot_centsAt_8 rfl ?_
      refine r_if_lt (tgt := 38) C d_Lot_centsAt_10 rfl (fun _ => ?_) (fun hz => absurd (show nI 0 - 1 < 0 by decide) hz)
      refine r_lconst (v := 0) C d_Lot_centsAt_38 rfl ?_
      refine r_lret C E rfl d_Lot_centsAt_39 (Nat.le_of_ble_eq_true rfl) (Nat.le_of_ble_eq_true rfl) ?_
      exact ⟨by rw [he]; rfl, rfl⟩
    | succ j ih =>
      intro hj he
      rw [nI_m1]
      refine r_iload C d_Lot_centsAt_8 rfl ?_
      refine r_if_lt (tgt := 38) C d_Lot_centsAt_10 rfl (fun hz => absurd hz (nI_pos (n := j) (by omega))) (fun _ => ?_)
      refine r_aload_n C d_Lot_centsAt_13 rfl rfl ?_
      refine r_iload C d_Lot_centsAt_14 rfl ?_
      refine r_lload_n C d_Lot_centsAt_16 rfl rfl ?_
      refine r_lload_n C d_Lot_centsAt_17 rfl rfl ?_
      refine r_callV C (k_Lot_comparedTo Y _ P hi (q := j) (by omega) _ _) mQ_Lot_comparedTo d_Lot_centsAt_18 ml_Lot_25 mi_Lot_comparedTo mv_Lot_comparedTo (kp_10 P hi) rfl rfl rfl rfl (Nat.le_of_ble_eq_true rfl) ⟨⟨Nat.le_of_ble_eq_true rfl, Nat.le_of_ble_eq_true rfl⟩, Nat.le_of_ble_eq_true rfl, Nat.le_of_ble_eq_true rfl⟩ (fun v f' hp => ?_)
      obtain ⟨rfl, hf⟩ := hp
      replace hf := hf.symm
      subst hf
      refine r_if_gt (tgt := 32) C d_Lot_centsAt_21 rfl (fun c_21 => ?_) (fun c_21 => ?_)
      · skip
        rw [lg_cmp_gt] at c_21
        refine r_iinc (v := nI j - 1) (lv' := [(5, _), (0, _), (1, _), (3, _)]) C d_Lot_centsAt_32 rfl (by rw [Int32.sub_eq_add_neg]; rfl) (Nat.le_of_ble_eq_true rfl) rfl ?_
        refine r_goto (tgt := 8) C d_Lot_centsAt_35 rfl ?_
        refine r_sub [0, 1, 2, 3] rfl ?_
        exact ih (by omega) (he.trans (by simp [zp_ch, Int64.not_le.mpr c_21]))
      · skip
        rw [lg_cmp_gt] at c_21
        refine r_aload_n C d_Lot_centsAt_24 rfl rfl ?_
        refine r_get C hq_Lot d_Lot_centsAt_25 (j := 2) (Nat.le_of_ble_eq_true rfl) mf_Lot_18 (kp_10 P (hi)) rfl ?_
        refine r_iload C d_Lot_centsAt_28 rfl ?_
        refine r_lald (t0 := 0) C d_Lot_centsAt_30 (kp_13 P (hi)) rfl (rfl) (by omega) (by decide) (if_pos (by omega)) ?_
        refine r_lret C E rfl d_Lot_centsAt_31 (Nat.le_of_ble_eq_true rfl) (Nat.le_of_ble_eq_true rfl) ?_
        exact ⟨by rw [he]; simp [zp_ch, Int64.not_lt.mp c_21], rfl⟩
  refine r_aload_n C d_Lot_centsAt_0 rfl rfl ?_
  refine r_get C hq_Lot d_Lot_centsAt_1 (j := 3) (Nat.le_of_ble_eq_true rfl) mf_Lot_21 (kp_10 P (hi)) rfl ?_
  refine r_iconst (v := 1) C d_Lot_centsAt_4 rfl ?_
  refine r_isub C d_Lot_centsAt_5 ?_
  refine r_istore (lv' := [(5, _), (0, _), (1, _), (3, _)]) C d_Lot_centsAt_6 (Nat.le_of_ble_eq_true rfl) rfl ?_
  exact L (z_sn s i) (N.2.2.2.2.2.1 i) rfl

set_option maxHeartbeats 4000000 in
set_option maxRecDepth 100000 in
theorem k_Lot_addStep (Y : hY) (l : Launch) {ad : Nat → Nat → Nat} {s : zS} {x : kX} {t : Bool} {f : hw_F} (P : kPic Y ad s x t f) (N : zN s) {i : Nat} (hi : i < z_nL s) (a b c : Int64) : hM Y l y_Lot_addStep S_Lot_addStep (some .boolean) [.ref (ad 10 i), .long a, .long b, .long c] f (fun r f' => (r = some (.int 0) ∧ ¬ zs_ok s i a b ∧ f' = f) ∨ (r = some (.int 1) ∧ zs_ok s i a b ∧ kPic Y ad (zs_st s i a b c) x t f')) := by
  refine hM.of (by decide) rfl (Nat.le_of_ble_eq_true rfl) ?_
  intro X hl hnm C E
  show hG Y X S_Lot_addStep 0 0 f [(0, .ref (ad 10 i)), (1, .long a), (3, .long b), (5, .long c)] [] 0
  refine r_aload_n C d_Lot_addStep_0 rfl rfl ?_
  refine r_get C hq_Lot d_Lot_addStep_1 (j := 3) (Nat.le_of_ble_eq_true rfl) mf_Lot_21 (kp_10 P (hi)) rfl ?_
  refine r_bipush (v := 6) C d_Lot_addStep_4 rfl ?_
  refine r_icmp_ge (tgt := 31) C d_Lot_addStep_6 rfl (fun c_6 => ?_) (fun c_6 => ?_)
  · skip
    have hno : ¬ zs_ok s i a b := fun h => absurd c_6 (nI_ge (b := 6) h.1 (by decide))
    refine r_iconst (v := 0) C d_Lot_addStep_31 rfl ?_
    refine r_zret C E rfl d_Lot_addStep_32 (rfl) (Nat.le_of_ble_eq_true rfl) (Nat.le_of_ble_eq_true rfl) ?_
    exact Or.inl ⟨rfl, hno, rfl⟩
  · skip
    have c43 : z_sn s i < 6 := by
      rcases Nat.lt_or_ge (z_sn s i) 6 with h | h
      · exact h
      · exact absurd (nI_le (a := 6) h (by have := N.2.2.2.2.2.1 i; omega)) c_6
    refine r_aload_n C d_Lot_addStep_9 rfl rfl ?_
    refine r_get C hq_Lot d_Lot_addStep_10 (j := 3) (Nat.le_of_ble_eq_true rfl) mf_Lot_21 (kp_10 P (hi)) rfl ?_
    refine r_if_le (tgt := 33) C d_Lot_addStep_13 rfl (fun c_13 => ?_) (fun c_13 => ?_)
    · skip
      have hok : zs_ok s i a b := ⟨c43, Or.inl (by
        rcases Nat.eq_zero_or_pos (z_sn s i) with h | h
        · exact h
        · exact absurd c_13 (nI_nle h (by omega)))⟩
      refine r_aload_n C d_Lot_addStep_33 rfl rfl ?_
      refine r_get C hq_Lot d_Lot_addStep_34 (j := 0) (Nat.le_of_ble_eq_true rfl) mf_Lot_9 (kp_10 P (hi)) rfl ?_
      refine r_aload_n C d_Lot_addStep_37 rfl rfl ?_
      refine r_get C hq_Lot d_Lot_addStep_38 (j := 3) (Nat.le_of_ble_eq_true rfl) mf_Lot_21 (kp_10 P (hi)) rfl ?_
      refine r_lload_n C d_Lot_addStep_41 rfl rfl ?_
      refine r_last (t0 := 0) C d_Lot_addStep_42 (kp_11 P (hi)) rfl (rfl) (c43) (by decide) ?_
      refine r_aload_n C d_Lot_addStep_43 rfl rfl ?_
      refine r_get C hq_Lot d_Lot_addStep_44 (j := 1) (Nat.le_of_ble_eq_true rfl) mf_Lot_15 ((hw_un _ (kNe P (Or.inr (Or.inl ⟨by decide, by decide, hi⟩)) (Or.inr (Or.inl ⟨by decide, by decide, hi⟩)) (by decide))).trans (kp_10 P (hi))) rfl ?_
      refine r_aload_n C d_Lot_addStep_47 rfl rfl ?_
      refine r_get C hq_Lot d_Lot_addStep_48 (j := 3) (Nat.le_of_ble_eq_true rfl) mf_Lot_21 ((hw_un _ (kNe P (Or.inr (Or.inl ⟨by decide, by decide, hi⟩)) (Or.inr (Or.inl ⟨by decide, by decide, hi⟩)) (by decide))).trans (kp_10 P (hi))) rfl ?_
      refine r_lload_n C d_Lot_addStep_51 rfl rfl ?_
      refine r_last (t0 := 0) C d_Lot_addStep_52 ((hw_un _ (kNe P (Or.inr (Or.inl ⟨by decide, by decide, hi⟩)) (Or.inr (Or.inl ⟨by decide, by decide, hi⟩)) (by decide))).trans (kp_12 P (hi))) rfl (rfl) (c43) (by decide) ?_
      refine r_aload_n C d_Lot_addStep_53 rfl rfl ?_
      refine r_get C hq_Lot d_Lot_addStep_54 (j := 2) (Nat.le_of_ble_eq_true rfl) mf_Lot_18 ((hw_un _ (kNe P (Or.inr (Or.inl ⟨by decide, by decide, hi⟩)) (Or.inr (Or.inl ⟨by decide, by decide, hi⟩)) (by decide))).trans ((hw_un _ (kNe P (Or.inr (Or.inl ⟨by decide, by decide, hi⟩)) (Or.inr (Or.inl ⟨by decide, by decide, hi⟩)) (by decide))).trans (kp_10 P (hi)))) rfl ?_
      refine r_aload_n C d_Lot_addStep_57 rfl rfl ?_
      refine r_get C hq_Lot d_Lot_addStep_58 (j := 3) (Nat.le_of_ble_eq_true rfl) mf_Lot_21 ((hw_un _ (kNe P (Or.inr (Or.inl ⟨by decide, by decide, hi⟩)) (Or.inr (Or.inl ⟨by decide, by decide, hi⟩)) (by decide))).trans ((hw_un _ (kNe P (Or.inr (Or.inl ⟨by decide, by decide, hi⟩)) (Or.inr (Or.inl ⟨by decide, by decide, hi⟩)) (by decide))).trans (kp_10 P (hi)))) rfl ?_
      refine r_lload C d_Lot_addStep_61 rfl ?_
      refine r_last (t0 := 0) C d_Lot_addStep_63 ((hw_un _ (kNe P (Or.inr (Or.inl ⟨by decide, by decide, hi⟩)) (Or.inr (Or.inl ⟨by decide, by decide, hi⟩)) (by decide))).trans ((hw_un _ (kNe P (Or.inr (Or.inl ⟨by decide, by decide, hi⟩)) (Or.inr (Or.inl ⟨by decide, by decide, hi⟩)) (by decide))).trans (kp_13 P (hi)))) rfl (rfl) (c43) (by decide) ?_
      refine r_aload_n C d_Lot_addStep_64 rfl rfl ?_
      refine r_dup C d_Lot_addStep_65 rfl ?_
      refine r_get C hq_Lot d_Lot_addStep_66 (j := 3) (Nat.le_of_ble_eq_true rfl) mf_Lot_21 ((hw_un _ (kNe P (Or.inr (Or.inl ⟨by decide, by decide, hi⟩)) (Or.inr (Or.inl ⟨by decide, by decide, hi⟩)) (by decide))).trans ((hw_un _ (kNe P (Or.inr (Or.inl ⟨by decide, by decide, hi⟩)) (Or.inr (Or.inl ⟨by decide, by decide, hi⟩)) (by decide))).trans ((hw_un _ (kNe P (Or.inr (Or.inl ⟨by decide, by decide, hi⟩)) (Or.inr (Or.inl ⟨by decide, by decide, hi⟩)) (by decide))).trans (kp_10 P (hi))))) rfl ?_
      refine r_iconst (v := 1) C d_Lot_addStep_69 rfl ?_
      refine r_iadd C d_Lot_addStep_70 ?_
      refine r_put C hq_Lot d_Lot_addStep_71 (j := 3) (fs' := [_, _, _, _]) (Nat.le_of_ble_eq_true rfl) mf_Lot_21 rfl rfl rfl rfl ((hw_un _ (kNe P (Or.inr (Or.inl ⟨by decide, by decide, hi⟩)) (Or.inr (Or.inl ⟨by decide, by decide, hi⟩)) (by decide))).trans ((hw_un _ (kNe P (Or.inr (Or.inl ⟨by decide, by decide, hi⟩)) (Or.inr (Or.inl ⟨by decide, by decide, hi⟩)) (by decide))).trans ((hw_un _ (kNe P (Or.inr (Or.inl ⟨by decide, by decide, hi⟩)) (Or.inr (Or.inl ⟨by decide, by decide, hi⟩)) (by decide))).trans (kp_10 P (hi))))) (Nat.le_of_ble_eq_true rfl) rfl ?_
      refine r_iconst (v := 1) C d_Lot_addStep_74 rfl ?_
      refine r_zret C E rfl d_Lot_addStep_75 (rfl) (Nat.le_of_ble_eq_true rfl) (Nat.le_of_ble_eq_true rfl) ?_
      exact Or.inr ⟨rfl, hok, kEnd2 (kPut (kPut (kPut (kPut P (Or.inr (Or.inl ⟨by decide, by decide, hi⟩)) _) (Or.inr (Or.inl ⟨by decide, by decide, hi⟩)) _) (Or.inr (Or.inl ⟨by decide, by decide, hi⟩)) _) (Or.inr (Or.inl ⟨by decide, by decide, hi⟩)) _) (fun _ _ h => h) (kV_cases rfl rfl rfl rfl rfl rfl rfl rfl rfl rfl (fun j hj => by
        by_cases h : j = i
        · subst h
          rw [ov_s]
          show (Sum.inr (1, [_, _, _, Value.int (nI (hv_up (z_sn s) _ (z_sn s _ + 1) j))]) : va_E) = _
          rw [hv_us, ← nI_1]
        · rw [ov_i _ h, ov_k _ (by decide), ov_k _ (by decide), ov_k _ (by decide)]
          show (Sum.inr (1, [_, _, _, Value.int (nI (hv_up (z_sn s) _ (z_sn s _ + 1) j))]) : va_E) = _
          rw [hv_un _ h]
          rfl) (fun j hj => by
        rw [ov_k _ (by decide), ov_k _ (by decide), ov_k _ (by decide)]
        by_cases h : j = i
        · subst h
          rw [ov_s]
          exact congrArg (eJ (Y.2 0) 6) (st_row (z_sa s) a c43)
        · rw [ov_i _ h]
          exact congrArg (eJ (Y.2 0) 6) (st_row_ne (z_sa s) a c43 h)) (fun j hj => by
        rw [ov_k _ (by decide), ov_k _ (by decide)]
        by_cases h : j = i
        · subst h
          rw [ov_s]
          exact congrArg (eJ (Y.2 0) 6) (st_row (z_sl s) b c43)
        · rw [ov_i _ h, ov_k _ (by decide)]
          exact congrArg (eJ (Y.2 0) 6) (st_row_ne (z_sl s) b c43 h)) (fun j hj => by
        rw [ov_k _ (by decide)]
        by_cases h : j = i
        · subst h
          rw [ov_s]
          exact congrArg (eJ (Y.2 0) 6) (st_row (z_sc s) c c43)
        · rw [ov_i _ h, ov_k _ (by decide), ov_k _ (by decide)]
          exact congrArg (eJ (Y.2 0) 6) (st_row_ne (z_sc s) c c43 h)) (fun _ _ => rfl) (fun _ _ => rfl) (fun _ _ => rfl))⟩
    · skip
      obtain ⟨w, hw⟩ : ∃ w, z_sn s i = w + 1 := ⟨z_sn s i - 1, by
        rcases Nat.eq_zero_or_pos (z_sn s i) with h | h
        · rw [h] at c_13; exact absurd (show nI 0 ≤ 0 by decide) c_13
        · omega⟩
      refine r_aload_n C d_Lot_addStep_16 rfl rfl ?_
      refine r_aload_n C d_Lot_addStep_17 rfl rfl ?_
      refine r_get C hq_Lot d_Lot_addStep_18 (j := 3) (Nat.le_of_ble_eq_true rfl) mf_Lot_21 (kp_10 P (hi)) rfl ?_
      refine r_iconst (v := 1) C d_Lot_addStep_21 rfl ?_
      refine r_isub C d_Lot_addStep_22 ?_
      rw [show nI (z_sn s i) - 1 = nI w by rw [hw, nI_m1]]
      refine r_lload_n C d_Lot_addStep_23 rfl rfl ?_
      refine r_lload_n C d_Lot_addStep_24 rfl rfl ?_
      refine r_callV C (k_Lot_comparedTo Y _ P hi (q := w) (by omega) _ _) mQ_Lot_comparedTo d_Lot_addStep_25 ml_Lot_25 mi_Lot_comparedTo mv_Lot_comparedTo (kp_10 P hi) rfl rfl rfl rfl (Nat.le_of_ble_eq_true rfl) ⟨⟨Nat.le_of_ble_eq_true rfl, Nat.le_of_ble_eq_true rfl⟩, Nat.le_of_ble_eq_true rfl, Nat.le_of_ble_eq_true rfl⟩ (fun v f' hp => ?_)
      obtain ⟨rfl, hf⟩ := hp
      replace hf := hf.symm
      subst hf
      refine r_if_lt (tgt := 33) C d_Lot_addStep_28 rfl (fun c_28 => ?_) (fun c_28 => ?_)
      · skip
        rw [lg_cmp_lt] at c_28
        have hok : zs_ok s i a b := ⟨c43, Or.inr (by rw [show 6 * i + z_sn s i - 1 = 6 * i + w by omega]; exact c_28)⟩
        refine r_aload_n C d_Lot_addStep_33 rfl rfl ?_
        refine r_get C hq_Lot d_Lot_addStep_34 (j := 0) (Nat.le_of_ble_eq_true rfl) mf_Lot_9 (kp_10 P (hi)) rfl ?_
        refine r_aload_n C d_Lot_addStep_37 rfl rfl ?_
        refine r_get C hq_Lot d_Lot_addStep_38 (j := 3) (Nat.le_of_ble_eq_true rfl) mf_Lot_21 (kp_10 P (hi)) rfl ?_
        refine r_lload_n C d_Lot_addStep_41 rfl rfl ?_
        refine r_last (t0 := 0) C d_Lot_addStep_42 (kp_11 P (hi)) rfl (rfl) (c43) (by decide) ?_
        refine r_aload_n C d_Lot_addStep_43 rfl rfl ?_
        refine r_get C hq_Lot d_Lot_addStep_44 (j := 1) (Nat.le_of_ble_eq_true rfl) mf_Lot_15 ((hw_un _ (kNe P (Or.inr (Or.inl ⟨by decide, by decide, hi⟩)) (Or.inr (Or.inl ⟨by decide, by decide, hi⟩)) (by decide))).trans (kp_10 P (hi))) rfl ?_
        refine r_aload_n C d_Lot_addStep_47 rfl rfl ?_
        refine r_get C hq_Lot d_Lot_addStep_48 (j := 3) (Nat.le_of_ble_eq_true rfl) mf_Lot_21 ((hw_un _ (kNe P (Or.inr (Or.inl ⟨by decide, by decide, hi⟩)) (Or.inr (Or.inl ⟨by decide, by decide, hi⟩)) (by decide))).trans (kp_10 P (hi))) rfl ?_
        refine r_lload_n C d_Lot_addStep_51 rfl rfl ?_
        refine r_last (t0 := 0) C d_Lot_addStep_52 ((hw_un _ (kNe P (Or.inr (Or.inl ⟨by decide, by decide, hi⟩)) (Or.inr (Or.inl ⟨by decide, by decide, hi⟩)) (by decide))).trans (kp_12 P (hi))) rfl (rfl) (c43) (by decide) ?_
        refine r_aload_n C d_Lot_addStep_53 rfl rfl ?_
        refine r_get C hq_Lot d_Lot_addStep_54 (j := 2) (Nat.le_of_ble_eq_true rfl) mf_Lot_18 ((hw_un _ (kNe P (Or.inr (Or.inl ⟨by decide, by decide, hi⟩)) (Or.inr (Or.inl ⟨by decide, by decide, hi⟩)) (by decide))).trans ((hw_un _ (kNe P (Or.inr (Or.inl ⟨by decide, by decide, hi⟩)) (Or.inr (Or.inl ⟨by decide, by decide, hi⟩)) (by decide))).trans (kp_10 P (hi)))) rfl ?_
        refine r_aload_n C d_Lot_addStep_57 rfl rfl ?_
        refine r_get C hq_Lot d_Lot_addStep_58 (j := 3) (Nat.le_of_ble_eq_true rfl) mf_Lot_21 ((hw_un _ (kNe P (Or.inr (Or.inl ⟨by decide, by decide, hi⟩)) (Or.inr (Or.inl ⟨by decide, by decide, hi⟩)) (by decide))).trans ((hw_un _ (kNe P (Or.inr (Or.inl ⟨by decide, by decide, hi⟩)) (Or.inr (Or.inl ⟨by decide, by decide, hi⟩)) (by decide))).trans (kp_10 P (hi)))) rfl ?_
        refine r_lload C d_Lot_addStep_61 rfl ?_
        refine r_last (t0 := 0) C d_Lot_addStep_63 ((hw_un _ (kNe P (Or.inr (Or.inl ⟨by decide, by decide, hi⟩)) (Or.inr (Or.inl ⟨by decide, by decide, hi⟩)) (by decide))).trans ((hw_un _ (kNe P (Or.inr (Or.inl ⟨by decide, by decide, hi⟩)) (Or.inr (Or.inl ⟨by decide, by decide, hi⟩)) (by decide))).trans (kp_13 P (hi)))) rfl (rfl) (c43) (by decide) ?_
        refine r_aload_n C d_Lot_addStep_64 rfl rfl ?_
        refine r_dup C d_Lot_addStep_65 rfl ?_
        refine r_get C hq_Lot d_Lot_addStep_66 (j := 3) (Nat.le_of_ble_eq_true rfl) mf_Lot_21 ((hw_un _ (kNe P (Or.inr (Or.inl ⟨by decide, by decide, hi⟩)) (Or.inr (Or.inl ⟨by decide, by decide, hi⟩)) (by decide))).trans ((hw_un _ (kNe P (Or.inr (Or.inl ⟨by decide, by decide, hi⟩)) (Or.inr (Or.inl ⟨by decide, by decide, hi⟩)) (by decide))).trans ((hw_un _ (kNe P (Or.inr (Or.inl ⟨by decide, by decide, hi⟩)) (Or.inr (Or.inl ⟨by decide, by decide, hi⟩)) (by decide))).trans (kp_10 P (hi))))) rfl ?_
        refine r_iconst (v := 1) C d_Lot_addStep_69 rfl ?_
        refine r_iadd C d_Lot_addStep_70 ?_
        refine r_put C hq_Lot d_Lot_addStep_71 (j := 3) (fs' := [_, _, _, _]) (Nat.le_of_ble_eq_true rfl) mf_Lot_21 rfl rfl rfl rfl ((hw_un _ (kNe P (Or.inr (Or.inl ⟨by decide, by decide, hi⟩)) (Or.inr (Or.inl ⟨by decide, by decide, hi⟩)) (by decide))).trans ((hw_un _ (kNe P (Or.inr (Or.inl ⟨by decide, by decide, hi⟩)) (Or.inr (Or.inl ⟨by decide, by decide, hi⟩)) (by decide))).trans ((hw_un _ (kNe P (Or.inr (Or.inl ⟨by decide, by decide, hi⟩)) (Or.inr (Or.inl ⟨by decide, by decide, hi⟩)) (by decide))).trans (kp_10 P (hi))))) (Nat.le_of_ble_eq_true rfl) rfl ?_
        refine r_iconst (v := 1) C d_Lot_addStep_74 rfl ?_
        refine r_zret C E rfl d_Lot_addStep_75 (rfl) (Nat.le_of_ble_eq_true rfl) (Nat.le_of_ble_eq_true rfl) ?_
        exact Or.inr ⟨rfl, hok, kEnd2 (kPut (kPut (kPut (kPut P (Or.inr (Or.inl ⟨by decide, by decide, hi⟩)) _) (Or.inr (Or.inl ⟨by decide, by decide, hi⟩)) _) (Or.inr (Or.inl ⟨by decide, by decide, hi⟩)) _) (Or.inr (Or.inl ⟨by decide, by decide, hi⟩)) _) (fun _ _ h => h) (kV_cases rfl rfl rfl rfl rfl rfl rfl rfl rfl rfl (fun j hj => by
          by_cases h : j = i
          · subst h
            rw [ov_s]
            show (Sum.inr (1, [_, _, _, Value.int (nI (hv_up (z_sn s) _ (z_sn s _ + 1) j))]) : va_E) = _
            rw [hv_us, ← nI_1]
          · rw [ov_i _ h, ov_k _ (by decide), ov_k _ (by decide), ov_k _ (by decide)]
            show (Sum.inr (1, [_, _, _, Value.int (nI (hv_up (z_sn s) _ (z_sn s _ + 1) j))]) : va_E) = _
            rw [hv_un _ h]
            rfl) (fun j hj => by
          rw [ov_k _ (by decide), ov_k _ (by decide), ov_k _ (by decide)]
          by_cases h : j = i
          · subst h
            rw [ov_s]
            exact congrArg (eJ (Y.2 0) 6) (st_row (z_sa s) a c43)
          · rw [ov_i _ h]
            exact congrArg (eJ (Y.2 0) 6) (st_row_ne (z_sa s) a c43 h)) (fun j hj => by
          rw [ov_k _ (by decide), ov_k _ (by decide)]
          by_cases h : j = i
          · subst h
            rw [ov_s]
            exact congrArg (eJ (Y.2 0) 6) (st_row (z_sl s) b c43)
          · rw [ov_i _ h, ov_k _ (by decide)]
            exact congrArg (eJ (Y.2 0) 6) (st_row_ne (z_sl s) b c43 h)) (fun j hj => by
          rw [ov_k _ (by decide)]
          by_cases h : j = i
          · subst h
            rw [ov_s]
            exact congrArg (eJ (Y.2 0) 6) (st_row (z_sc s) c c43)
          · rw [ov_i _ h, ov_k _ (by decide), ov_k _ (by decide)]
            exact congrArg (eJ (Y.2 0) 6) (st_row_ne (z_sc s) c c43 h)) (fun _ _ => rfl) (fun _ _ => rfl) (fun _ _ => rfl))⟩
      · skip
        rw [lg_cmp_lt] at c_28
        have hno : ¬ zs_ok s i a b := fun h => h.2.elim (fun q => by omega) (fun q => c_28 (by rw [show 6 * i + z_sn s i - 1 = 6 * i + w by omega] at q; exact q))
        refine r_iconst (v := 0) C d_Lot_addStep_31 rfl ?_
        refine r_zret C E rfl d_Lot_addStep_32 (rfl) (Nat.le_of_ble_eq_true rfl) (Nat.le_of_ble_eq_true rfl) ?_
        exact Or.inl ⟨rfl, hno, rfl⟩

