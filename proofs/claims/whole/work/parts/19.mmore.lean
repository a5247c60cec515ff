set_option maxHeartbeats 4000000 in
set_option maxRecDepth 100000 in
theorem m_setOf (Y : hY) (l : Launch) {ad : Nat → Nat → Nat} {s : zS} {tk : Nat → Bool} {f : hw_F} (P : mPic Y ad s tk f) {i : Nat} (hi : i < 12) : hM Y l y_Mod_setOf S_Mod_setOf (some .long) [.ref (ad 0 0), .int (nI i)] f (fun r f' => r = some (.long (lN (z_ls s i))) ∧ f' = f) := by
  refine hM.of (by decide) rfl (Nat.le_of_ble_eq_true rfl) ?_
  intro X hl hnm C E
  show hG Y X S_Mod_setOf 0 0 f [(0, .ref (ad 0 0)), (1, .int (nI i))] [] 0
  have L : ∀ j, j ≤ 8 → hG Y X S_Mod_setOf 0 0 f [(4, .int (nI (j) + (-1))), (2, .long (lN (zb_g (fun q => z_h s (8 * i + q)) (8 - (j))))), (0, .ref (ad 0 0)), (1, .int (nI i))] [] 6 := by
    intro j
    induction j with
    | zero =>
      intro hj
      refine r_iload C d_Mod_setOf_6 rfl ?_
      refine r_if_lt (tgt := 44) C d_Mod_setOf_8 rfl (fun _ => ?_) (fun hz => absurd (show nI 0 + (-1) < 0 by decide) hz)
      refine r_lload_n C d_Mod_setOf_44 rfl rfl ?_
      refine r_lret C E rfl d_Mod_setOf_45 (Nat.le_of_ble_eq_true rfl) (Nat.le_of_ble_eq_true rfl) ?_
      exact ⟨by rw [show 8 - 0 = 8 from rfl, zb_g8]; rfl, rfl⟩
    | succ j ih =>
      intro hj
      rw [pk_m1]
      refine r_iload C d_Mod_setOf_6 rfl ?_
      refine r_if_lt (tgt := 44) C d_Mod_setOf_8 rfl (fun hz => absurd hz (nI_pos (n := j) (by omega))) (fun _ => ?_)
      refine r_ldc2 C d_Mod_setOf_11 mn_Mod_107 ?_
      refine r_lload_n C d_Mod_setOf_14 rfl rfl ?_
      refine r_lmul C d_Mod_setOf_15 ?_
      refine r_aload_n C d_Mod_setOf_16 rfl rfl ?_
      refine r_get C hq_Mod d_Mod_setOf_17 (j := 11) (Nat.le_of_ble_eq_true rfl) mf_Mod_36 (mp_0 P) rfl ?_
      refine r_bipush (v := 8) C d_Mod_setOf_20 rfl ?_
      refine r_iload_n C d_Mod_setOf_22 rfl rfl ?_
      refine r_imul C d_Mod_setOf_23 ?_
      refine r_iload C d_Mod_setOf_24 rfl ?_
      refine r_iadd C d_Mod_setOf_26 ?_
      refine r_zald (t0 := 2) C d_Mod_setOf_27 (mp_has P) rfl (ix8 i j) (by omega) (by decide) (rfl) ?_
      refine r_if_eq (tgt := 35) C d_Mod_setOf_28 rfl (fun c_28 => ?_) (fun c_28 => ?_)
      · skip
        rw [bI_0] at c_28
        have e9 : (2 : Int64) * lN (zb_g (fun q => z_h s (8 * i + q)) (8 - (j + 1))) + 0 = lN (zb_g (fun q => z_h s (8 * i + q)) (8 - j)) := by
          rw [show 8 - j = (8 - (j + 1)) + 1 by omega]
          simp only [zb_g]
          rw [show 7 - (8 - (j + 1)) = j by omega, c_28, show (2 : Int64) = lN 2 from rfl, lN_mul]
          simp
        refine r_lconst (v := 0) C d_Mod_setOf_35 rfl ?_
        refine r_ladd C d_Mod_setOf_36 ?_
        refine r_lstore_n (lv' := [(2, _), (4, _), (0, _), (1, _)]) C d_Mod_setOf_37 rfl (Nat.le_of_ble_eq_true rfl) rfl ?_
        rw [e9]
        refine r_iinc (v := nI j + (-1)) (lv' := [(4, _), (2, _), (0, _), (1, _)]) C d_Mod_setOf_38 rfl (rfl) (Nat.le_of_ble_eq_true rfl) rfl ?_
        refine r_goto (tgt := 6) C d_Mod_setOf_41 rfl ?_
        exact ih (by omega)
      · skip
        rw [bI_n0] at c_28
        have e9 : (2 : Int64) * lN (zb_g (fun q => z_h s (8 * i + q)) (8 - (j + 1))) + 1 = lN (zb_g (fun q => z_h s (8 * i + q)) (8 - j)) := by
          rw [show 8 - j = (8 - (j + 1)) + 1 by omega]
          simp only [zb_g]
          rw [show 7 - (8 - (j + 1)) = j by omega, c_28, show (2 : Int64) = lN 2 from rfl, lN_mul, lN_1]
          simp
        refine r_lconst (v := 1) C d_Mod_setOf_31 rfl ?_
        refine r_goto (tgt := 36) C d_Mod_setOf_32 rfl ?_
        refine r_ladd C d_Mod_setOf_36 ?_
        refine r_lstore_n (lv' := [(2, _), (4, _), (0, _), (1, _)]) C d_Mod_setOf_37 rfl (Nat.le_of_ble_eq_true rfl) rfl ?_
        rw [e9]
        refine r_iinc (v := nI j + (-1)) (lv' := [(4, _), (2, _), (0, _), (1, _)]) C d_Mod_setOf_38 rfl (rfl) (Nat.le_of_ble_eq_true rfl) rfl ?_
        refine r_goto (tgt := 6) C d_Mod_setOf_41 rfl ?_
        exact ih (by omega)
  refine r_lconst (v := 0) C d_Mod_setOf_0 rfl ?_
  refine r_lstore_n (lv' := [(2, _), (0, _), (1, _)]) C d_Mod_setOf_1 rfl (Nat.le_of_ble_eq_true rfl) rfl ?_
  refine r_bipush (v := 7) C d_Mod_setOf_2 rfl ?_
  refine r_istore (lv' := [(4, _), (2, _), (0, _), (1, _)]) C d_Mod_setOf_4 (Nat.le_of_ble_eq_true rfl) rfl ?_
  exact L 8 (Nat.le_refl 8)

set_option maxHeartbeats 4000000 in
set_option maxRecDepth 100000 in
theorem m_isInPlay (Y : hY) (l : Launch) {ad : Nat → Nat → Nat} {s : zS} {tk : Nat → Bool} {f : hw_F} (P : mPic Y ad s tk f) {i : Nat} (hi : i < 12) (how : z_ow s i < 6) : hM Y l y_Mod_isInPlay S_Mod_isInPlay (some .boolean) [.ref (ad 0 0), .int (nI i)] f (fun r f' => r = some (.int (bI (z_play s i))) ∧ f' = f) := by
  refine hM.of (by decide) rfl (Nat.le_of_ble_eq_true rfl) ?_
  intro X hl hnm C E
  show hG Y X S_Mod_isInPlay 0 0 f [(0, .ref (ad 0 0)), (1, .int (nI i))] [] 0
  refine r_aload_n C d_Mod_isInPlay_0 rfl rfl ?_
  refine r_get C hq_Mod d_Mod_isInPlay_1 (j := 2) (Nat.le_of_ble_eq_true rfl) mf_Mod_7 (mp_0 P) rfl ?_
  refine r_aload_n C d_Mod_isInPlay_4 rfl rfl ?_
  refine r_get C hq_Mod d_Mod_isInPlay_5 (j := 9) (Nat.le_of_ble_eq_true rfl) mf_Mod_30 (mp_0 P) rfl ?_
  refine r_iload_n C d_Mod_isInPlay_8 rfl rfl ?_
  refine r_iald (t0 := 1) C d_Mod_isInPlay_9 (mp_owners P) rfl (rfl) (hi) (by decide) (rfl) ?_
  refine r_zald (t0 := 2) C d_Mod_isInPlay_10 (mp_qualified P) rfl (rfl) (how) (by decide) (rfl) ?_
  refine r_if_eq (tgt := 40) C d_Mod_isInPlay_11 rfl (fun c_11 => ?_) (fun c_11 => ?_)
  · skip
    rw [bI_0] at c_11
    refine r_iconst (v := 0) C d_Mod_isInPlay_40 rfl ?_
    refine r_zret C E rfl d_Mod_isInPlay_41 (rfl) (Nat.le_of_ble_eq_true rfl) (Nat.le_of_ble_eq_true rfl) ?_
    refine ⟨?_, rfl⟩
    first | (simp [z_play, c_11, bI]; done) | (simp [z_play, c_25, bI]; done) | (simp [z_play, c_11, c_25, c33, bI]; done)
  · skip
    rw [bI_n0] at c_11
    refine r_aload_n C d_Mod_isInPlay_14 rfl rfl ?_
    refine r_get C hq_Mod d_Mod_isInPlay_15 (j := 3) (Nat.le_of_ble_eq_true rfl) mf_Mod_13 (mp_0 P) rfl ?_
    refine r_aload_n C d_Mod_isInPlay_18 rfl rfl ?_
    refine r_get C hq_Mod d_Mod_isInPlay_19 (j := 9) (Nat.le_of_ble_eq_true rfl) mf_Mod_30 (mp_0 P) rfl ?_
    refine r_iload_n C d_Mod_isInPlay_22 rfl rfl ?_
    refine r_iald (t0 := 1) C d_Mod_isInPlay_23 (mp_owners P) rfl (rfl) (hi) (by decide) (rfl) ?_
    refine r_zald (t0 := 2) C d_Mod_isInPlay_24 (mp_opened P) rfl (rfl) (how) (by decide) (rfl) ?_
    refine r_if_eq (tgt := 40) C d_Mod_isInPlay_25 rfl (fun c_25 => ?_) (fun c_25 => ?_)
    · skip
      rw [bI_0] at c_25
      refine r_iconst (v := 0) C d_Mod_isInPlay_40 rfl ?_
      refine r_zret C E rfl d_Mod_isInPlay_41 (rfl) (Nat.le_of_ble_eq_true rfl) (Nat.le_of_ble_eq_true rfl) ?_
      refine ⟨?_, rfl⟩
      first | (simp [z_play, c_11, bI]; done) | (simp [z_play, c_25, bI]; done) | (simp [z_play, c_11, c_25, c33, bI]; done)
    · skip
      rw [bI_n0] at c_25
      refine r_aload_n C d_Mod_isInPlay_28 rfl rfl ?_
      refine r_iload_n C d_Mod_isInPlay_29 rfl rfl ?_
      refine r_callV C (m_lotsOf Y _ P hi) mQ_Mod_lotsOf d_Mod_isInPlay_30 ml_Mod_123 mi_Mod_lotsOf mv_Mod_lotsOf (mp_0 P) rfl rfl rfl rfl (Nat.le_of_ble_eq_true rfl) ⟨⟨Nat.le_of_ble_eq_true rfl, Nat.le_of_ble_eq_true rfl⟩, Nat.le_of_ble_eq_true rfl, Nat.le_of_ble_eq_true rfl⟩ (fun v f' hp => ?_)
      obtain ⟨rfl, hf⟩ := hp
      replace hf := hf.symm
      subst hf
      refine r_if_le (tgt := 40) C d_Mod_isInPlay_33 rfl (fun c_33 => ?_) (fun c_33 => ?_)
      · skip
        have c33 : ¬ 0 < z_lots s i := fun h => absurd c_33 (nI_nle h (by have := zc_le (fun l => z_h s (8 * i + l)) 8; unfold z_lots; omega))
        refine r_iconst (v := 0) C d_Mod_isInPlay_40 rfl ?_
        refine r_zret C E rfl d_Mod_isInPlay_41 (rfl) (Nat.le_of_ble_eq_true rfl) (Nat.le_of_ble_eq_true rfl) ?_
        refine ⟨?_, rfl⟩
        first | (simp [z_play, c_11, bI]; done) | (simp [z_play, c_25, bI]; done) | (simp [z_play, c_11, c_25, c33, bI]; done)
      · skip
        have c33 : 0 < z_lots s i := by
          rcases Nat.eq_zero_or_pos (z_lots s i) with h | h
          · rw [h] at c_33; exact absurd (show nI 0 ≤ 0 by decide) c_33
          · exact h
        refine r_iconst (v := 1) C d_Mod_isInPlay_36 rfl ?_
        refine r_goto (tgt := 41) C d_Mod_isInPlay_37 rfl ?_
        refine r_zret C E rfl d_Mod_isInPlay_41 (rfl) (Nat.le_of_ble_eq_true rfl) (Nat.le_of_ble_eq_true rfl) ?_
        refine ⟨?_, rfl⟩
        first | (simp [z_play, c_11, bI]; done) | (simp [z_play, c_25, bI]; done) | (simp [z_play, c_11, c_25, c33, bI]; done)

set_option maxHeartbeats 4000000 in
set_option maxRecDepth 100000 in
theorem m_wins (Y : hY) (l : Launch) {ad : Nat → Nat → Nat} {s : zS} {tk : Nat → Bool} {f : hw_F} (P : mPic Y ad s tk f) (N : zN s) (x : Int32) : hM Y l y_Mod_wins S_Mod_wins (some .boolean) [.ref (ad 0 0), .int x] f (fun r f' => r = some (.int (bI (za_wins s x))) ∧ f' = f) := by
  refine hM.of (by decide) rfl (Nat.le_of_ble_eq_true rfl) ?_
  intro X hl hnm C E
  show hG Y X S_Mod_wins 0 0 f [(0, .ref (ad 0 0)), (1, .int x)] [] 0
  refine r_aload_n C d_Mod_wins_0 rfl rfl ?_
  refine r_iload_n C d_Mod_wins_1 rfl rfl ?_
  refine r_callV C (m_isBid Y _ P _) mQ_Mod_isBid d_Mod_wins_2 ml_Mod_97 mi_Mod_isBid mv_Mod_isBid (mp_0 P) rfl rfl rfl rfl (Nat.le_of_ble_eq_true rfl) ⟨⟨Nat.le_of_ble_eq_true rfl, Nat.le_of_ble_eq_true rfl⟩, Nat.le_of_ble_eq_true rfl, Nat.le_of_ble_eq_true rfl⟩ (fun v f' hp => ?_)
  obtain ⟨rfl, hf⟩ := hp
  replace hf := hf.symm
  subst hf
  refine r_if_eq (tgt := 21) C d_Mod_wins_5 rfl (fun c_5 => ?_) (fun c_5 => ?_)
  · skip
    have hz : za_wins s x = false := by simp [za_wins, bS_none c_5]
    refine r_iconst (v := 0) C d_Mod_wins_21 rfl ?_
    refine r_zret C E rfl d_Mod_wins_22 (rfl) (Nat.le_of_ble_eq_true rfl) (Nat.le_of_ble_eq_true rfl) ?_
    exact ⟨by rw [hz]; rfl, rfl⟩
  · skip
    obtain ⟨i, hat⟩ := bS_some c_5
    obtain ⟨hi, rfl⟩ := z_at_some (by have := N.2.2.1; omega) hat
    have hi12 : i < 12 := by have := N.2.2.1; omega
    refine r_aload_n C d_Mod_wins_8 rfl rfl ?_
    refine r_get C hq_Mod d_Mod_wins_9 (j := 15) (Nat.le_of_ble_eq_true rfl) mf_Mod_42 (mp_0 P) rfl ?_
    refine r_iload_n C d_Mod_wins_12 rfl rfl ?_
    refine r_zald (t0 := 2) C d_Mod_wins_13 (mp_winners P) rfl (rfl) (hi12) (by decide) (rfl) ?_
    refine r_if_eq (tgt := 21) C d_Mod_wins_14 rfl (fun c_14 => ?_) (fun c_14 => ?_)
    · skip
      rw [bI_0] at c_14
      have hz : za_wins s (nI i) = false := by simp [za_wins, hat, c_14]
      refine r_iconst (v := 0) C d_Mod_wins_21 rfl ?_
      refine r_zret C E rfl d_Mod_wins_22 (rfl) (Nat.le_of_ble_eq_true rfl) (Nat.le_of_ble_eq_true rfl) ?_
      exact ⟨by rw [hz]; rfl, rfl⟩
    · skip
      rw [bI_n0] at c_14
      have hz : za_wins s (nI i) = true := by simp [za_wins, hat, c_14]
      refine r_iconst (v := 1) C d_Mod_wins_17 rfl ?_
      refine r_goto (tgt := 22) C d_Mod_wins_18 rfl ?_
      refine r_zret C E rfl d_Mod_wins_22 (rfl) (Nat.le_of_ble_eq_true rfl) (Nat.le_of_ble_eq_true rfl) ?_
      exact ⟨by rw [hz]; rfl, rfl⟩

set_option maxHeartbeats 4000000 in
set_option maxRecDepth 100000 in
theorem m_sum (Y : hY) (l : Launch) {ad : Nat → Nat → Nat} {s : zS} {tk : Nat → Bool} {f : hw_F} (P : mPic Y ad s tk f)  : hM Y l y_Mod_sum S_Mod_sum (some .long) [.ref (ad 0 0)] f (fun r f' => r = some (.long (za_sum s)) ∧ f' = f) := by
  refine hM.of (by decide) rfl (Nat.le_of_ble_eq_true rfl) ?_
  intro X hl hnm C E
  show hG Y X S_Mod_sum 0 0 f [(0, .ref (ad 0 0))] [] 0
  refine r_aload_n C d_Mod_sum_0 rfl rfl ?_
  refine r_get C hq_Mod d_Mod_sum_1 (j := 12) (Nat.le_of_ble_eq_true rfl) mf_Mod_133 (mp_0 P) rfl ?_
  refine r_if_eq (tgt := 14) C d_Mod_sum_4 rfl (fun c_4 => ?_) (fun c_4 => ?_)
  · skip
    rw [bI_0] at c_4
    refine r_ldc2 C d_Mod_sum_14 mn_Mod_155 ?_
    refine r_lret C E rfl d_Mod_sum_17 (Nat.le_of_ble_eq_true rfl) (Nat.le_of_ble_eq_true rfl) ?_
    exact ⟨by simp [za_sum, c_4], rfl⟩
  · skip
    rw [bI_n0] at c_4
    refine r_aload_n C d_Mod_sum_7 rfl rfl ?_
    refine r_get C hq_Mod d_Mod_sum_8 (j := 16) (Nat.le_of_ble_eq_true rfl) mf_Mod_136 (mp_0 P) rfl ?_
    refine r_goto (tgt := 17) C d_Mod_sum_11 rfl ?_
    refine r_lret C E rfl d_Mod_sum_17 (Nat.le_of_ble_eq_true rfl) (Nat.le_of_ble_eq_true rfl) ?_
    exact ⟨by simp [za_sum, c_4], rfl⟩

set_option maxHeartbeats 4000000 in
set_option maxRecDepth 100000 in
theorem m_proved (Y : hY) (l : Launch) {ad : Nat → Nat → Nat} {s : zS} {tk : Nat → Bool} {f : hw_F} (P : mPic Y ad s tk f)  : hM Y l y_Mod_proved S_Mod_proved (some .boolean) [.ref (ad 0 0)] f (fun r f' => r = some (.int (bI (z_pv s))) ∧ f' = f) := by
  refine hM.of (by decide) rfl (Nat.le_of_ble_eq_true rfl) ?_
  intro X hl hnm C E
  show hG Y X S_Mod_proved 0 0 f [(0, .ref (ad 0 0))] [] 0
  refine r_aload_n C d_Mod_proved_0 rfl rfl ?_
  refine r_get C hq_Mod d_Mod_proved_1 (j := 13) (Nat.le_of_ble_eq_true rfl) mf_Mod_87 (mp_0 P) rfl ?_
  refine r_zret C E rfl d_Mod_proved_4 (bI_nar _) (Nat.le_of_ble_eq_true rfl) (Nat.le_of_ble_eq_true rfl) ?_
  exact ⟨rfl, rfl⟩

set_option maxHeartbeats 4000000 in
set_option maxRecDepth 100000 in
theorem m_isShare (Y : hY) (l : Launch) (f : hw_F) (a b : Int64) : hM Y l y_Mod_isShare S_Mod_isShare (some .boolean) [.long a, .long b] f (fun r f' => r = some (.int (bI (k_share a b))) ∧ f' = f) := by
  refine hM.of (by decide) rfl (Nat.le_of_ble_eq_true rfl) ?_
  intro X hl hnm C E
  show hG Y X S_Mod_isShare 0 0 f [(0, .long a), (2, .long b)] [] 0
  refine r_lload_n C d_Mod_isShare_0 rfl rfl ?_
  refine r_lconst (v := 1) C d_Mod_isShare_1 rfl ?_
  refine r_lcmp C d_Mod_isShare_2 ?_
  refine r_if_lt (tgt := 30) C d_Mod_isShare_3 rfl (fun c_3 => ?_) (fun c_3 => ?_)
  · skip
    rw [lg_cmp_lt] at c_3
    refine r_iconst (v := 0) C d_Mod_isShare_30 rfl ?_
    refine r_zret C E rfl d_Mod_isShare_31 (rfl) (Nat.le_of_ble_eq_true rfl) (Nat.le_of_ble_eq_true rfl) ?_
    refine ⟨?_, rfl⟩
    unfold k_share
    first | (rw [k_inF1 c_3]; rfl) | (rw [k_inF2 (Int64.not_le.mpr c_11)]; rfl) | (rw [k_inF1 (a := 0) c_17, Bool.and_false]; rfl) | (rw [k_inF2 (v := a) (Int64.not_le.mpr c_23), Bool.and_false]; rfl) | (rw [k_inT c_3 (Int64.not_lt.mp c_11), k_inT c_17 (Int64.not_lt.mp c_23)]; rfl)
  · skip
    rw [lg_cmp_lt] at c_3
    refine r_lload_n C d_Mod_isShare_6 rfl rfl ?_
    refine r_ldc2 C d_Mod_isShare_7 mn_Mod_163 ?_
    refine r_lcmp C d_Mod_isShare_10 ?_
    refine r_if_gt (tgt := 30) C d_Mod_isShare_11 rfl (fun c_11 => ?_) (fun c_11 => ?_)
    · skip
      rw [lg_cmp_gt] at c_11
      refine r_iconst (v := 0) C d_Mod_isShare_30 rfl ?_
      refine r_zret C E rfl d_Mod_isShare_31 (rfl) (Nat.le_of_ble_eq_true rfl) (Nat.le_of_ble_eq_true rfl) ?_
      refine ⟨?_, rfl⟩
      unfold k_share
      first | (rw [k_inF1 c_3]; rfl) | (rw [k_inF2 (Int64.not_le.mpr c_11)]; rfl) | (rw [k_inF1 (a := 0) c_17, Bool.and_false]; rfl) | (rw [k_inF2 (v := a) (Int64.not_le.mpr c_23), Bool.and_false]; rfl) | (rw [k_inT c_3 (Int64.not_lt.mp c_11), k_inT c_17 (Int64.not_lt.mp c_23)]; rfl)
    · skip
      rw [lg_cmp_gt] at c_11
      refine r_lload_n C d_Mod_isShare_14 rfl rfl ?_
      refine r_lconst (v := 0) C d_Mod_isShare_15 rfl ?_
      refine r_lcmp C d_Mod_isShare_16 ?_
      refine r_if_lt (tgt := 30) C d_Mod_isShare_17 rfl (fun c_17 => ?_) (fun c_17 => ?_)
      · skip
        rw [lg_cmp_lt] at c_17
        refine r_iconst (v := 0) C d_Mod_isShare_30 rfl ?_
        refine r_zret C E rfl d_Mod_isShare_31 (rfl) (Nat.le_of_ble_eq_true rfl) (Nat.le_of_ble_eq_true rfl) ?_
        refine ⟨?_, rfl⟩
        unfold k_share
        first | (rw [k_inF1 c_3]; rfl) | (rw [k_inF2 (Int64.not_le.mpr c_11)]; rfl) | (rw [k_inF1 (a := 0) c_17, Bool.and_false]; rfl) | (rw [k_inF2 (v := a) (Int64.not_le.mpr c_23), Bool.and_false]; rfl) | (rw [k_inT c_3 (Int64.not_lt.mp c_11), k_inT c_17 (Int64.not_lt.mp c_23)]; rfl)
      · skip
        rw [lg_cmp_lt] at c_17
        refine r_lload_n C d_Mod_isShare_20 rfl rfl ?_
        refine r_lload_n C d_Mod_isShare_21 rfl rfl ?_
        refine r_lcmp C d_Mod_isShare_22 ?_
        refine r_if_gt (tgt := 30) C d_Mod_isShare_23 rfl (fun c_23 => ?_) (fun c_23 => ?_)
        · skip
          rw [lg_cmp_gt] at c_23
          refine r_iconst (v := 0) C d_Mod_isShare_30 rfl ?_
          refine r_zret C E rfl d_Mod_isShare_31 (rfl) (Nat.le_of_ble_eq_true rfl) (Nat.le_of_ble_eq_true rfl) ?_
          refine ⟨?_, rfl⟩
          unfold k_share
          first | (rw [k_inF1 c_3]; rfl) | (rw [k_inF2 (Int64.not_le.mpr c_11)]; rfl) | (rw [k_inF1 (a := 0) c_17, Bool.and_false]; rfl) | (rw [k_inF2 (v := a) (Int64.not_le.mpr c_23), Bool.and_false]; rfl) | (rw [k_inT c_3 (Int64.not_lt.mp c_11), k_inT c_17 (Int64.not_lt.mp c_23)]; rfl)
        · skip
          rw [lg_cmp_gt] at c_23
          refine r_iconst (v := 1) C d_Mod_isShare_26 rfl ?_
          refine r_goto (tgt := 31) C d_Mod_isShare_27 rfl ?_
          refine r_zret C E rfl d_Mod_isShare_31 (rfl) (Nat.le_of_ble_eq_true rfl) (Nat.le_of_ble_eq_true rfl) ?_
          refine ⟨?_, rfl⟩
          unfold k_share
          first | (rw [k_inF1 c_3]; rfl) | (rw [k_inF2 (Int64.not_le.mpr c_11)]; rfl) | (rw [k_inF1 (a := 0) c_17, Bool.and_false]; rfl) | (rw [k_inF2 (v := a) (Int64.not_le.mpr c_23), Bool.and_false]; rfl) | (rw [k_inT c_3 (Int64.not_lt.mp c_11), k_inT c_17 (Int64.not_lt.mp c_23)]; rfl)

set_option maxHeartbeats 4000000 in
set_option maxRecDepth 100000 in
theorem m_isMonth (Y : hY) (l : Launch) (f : hw_F) (x : Int32) : hM Y l y_Mod_isMonth S_Mod_isMonth (some .boolean) [.int x] f (fun r f' => r = some (.int (bI (z_at x 60).isSome)) ∧ f' = f) := by
  refine hM.of (by decide) rfl (Nat.le_of_ble_eq_true rfl) ?_
  intro X hl hnm C E
  show hG Y X S_Mod_isMonth 0 0 f [(0, .int x)] [] 0
  refine r_iload_n C d_Mod_isMonth_0 rfl rfl ?_
  refine r_if_lt (tgt := 14) C d_Mod_isMonth_1 rfl (fun c_1 => ?_) (fun c_1 => ?_)
  · skip
    refine r_iconst (v := 0) C d_Mod_isMonth_14 rfl ?_
    refine r_zret C E rfl d_Mod_isMonth_15 (rfl) (Nat.le_of_ble_eq_true rfl) (Nat.le_of_ble_eq_true rfl) ?_
    refine ⟨?_, rfl⟩
    first | (rw [z_at_neg c_1]; rfl) | (rw [z_at_big (n := 60) (Int32.not_lt.mpr c_7)]; rfl) | (unfold z_at; rw [if_pos ⟨Int32.not_lt.mp c_1, Int32.not_le.mp c_7⟩]; rfl)
  · skip
    refine r_iload_n C d_Mod_isMonth_4 rfl rfl ?_
    refine r_bipush (v := 60) C d_Mod_isMonth_5 rfl ?_
    refine r_icmp_ge (tgt := 14) C d_Mod_isMonth_7 rfl (fun c_7 => ?_) (fun c_7 => ?_)
    · skip
      refine r_iconst (v := 0) C d_Mod_isMonth_14 rfl ?_
      refine r_zret C E rfl d_Mod_isMonth_15 (rfl) (Nat.le_of_ble_eq_true rfl) (Nat.le_of_ble_eq_true rfl) ?_
      refine ⟨?_, rfl⟩
      first | (rw [z_at_neg c_1]; rfl) | (rw [z_at_big (n := 60) (Int32.not_lt.mpr c_7)]; rfl) | (unfold z_at; rw [if_pos ⟨Int32.not_lt.mp c_1, Int32.not_le.mp c_7⟩]; rfl)
    · skip
      refine r_iconst (v := 1) C d_Mod_isMonth_10 rfl ?_
      refine r_goto (tgt := 15) C d_Mod_isMonth_11 rfl ?_
      refine r_zret C E rfl d_Mod_isMonth_15 (rfl) (Nat.le_of_ble_eq_true rfl) (Nat.le_of_ble_eq_true rfl) ?_
      refine ⟨?_, rfl⟩
      first | (rw [z_at_neg c_1]; rfl) | (rw [z_at_big (n := 60) (Int32.not_lt.mpr c_7)]; rfl) | (unfold z_at; rw [if_pos ⟨Int32.not_lt.mp c_1, Int32.not_le.mp c_7⟩]; rfl)

set_option maxHeartbeats 4000000 in
set_option maxRecDepth 100000 in
theorem m_digest (Y : hY) (l : Launch) {ad : Nat → Nat → Nat} {s : zS} {tk : Nat → Bool} {f : hw_F} (P : mPic Y ad s tk f) (N : zN s) (x : Int32) (v : Int64) (y : Int32) : hM Y l y_Mod_digest S_Mod_digest (some .int) [.ref (ad 0 0), .int x, .long v, .int y] f (fun r f' => r = some (.int (za_digest s x v y)) ∧ f' = f) := by
  refine hM.of (by decide) rfl (Nat.le_of_ble_eq_true rfl) ?_
  intro X hl hnm C E
  show hG Y X S_Mod_digest 0 0 f [(0, .ref (ad 0 0)), (1, .int x), (2, .long v), (4, .int y)] [] 0
  refine r_aload_n C d_Mod_digest_0 rfl rfl ?_
  refine r_iload_n C d_Mod_digest_1 rfl rfl ?_
  refine r_callV C (m_isBidder Y _ P _) mQ_Mod_isBidder d_Mod_digest_2 ml_Mod_91 mi_Mod_isBidder mv_Mod_isBidder (mp_0 P) rfl rfl rfl rfl (Nat.le_of_ble_eq_true rfl) ⟨⟨Nat.le_of_ble_eq_true rfl, Nat.le_of_ble_eq_true rfl⟩, Nat.le_of_ble_eq_true rfl, Nat.le_of_ble_eq_true rfl⟩ (fun v f' hp => ?_)
  obtain ⟨rfl, hf⟩ := hp
  replace hf := hf.symm
  subst hf
  refine r_if_eq (tgt := 20) C d_Mod_digest_5 rfl (fun c_5 => ?_) (fun c_5 => ?_)
  · skip
    have hz : za_digest s x v y = -1 := by simp [za_digest, bS_none c_5]
    refine r_iconst (v := (-1)) C d_Mod_digest_20 rfl ?_
    refine r_iret C E rfl d_Mod_digest_21 (Nat.le_of_ble_eq_true rfl) (Nat.le_of_ble_eq_true rfl) ?_
    rw [hz]
    exact ⟨rfl, rfl⟩
  · skip
    obtain ⟨i, hat⟩ := bS_some c_5
    obtain ⟨hi, rfl⟩ := z_at_some (by have := N.2.1; omega) hat
    have hi6 : i < 6 := by have := N.2.1; omega
    refine r_iload C d_Mod_digest_8 rfl ?_
    refine r_if_lt (tgt := 20) C d_Mod_digest_10 rfl (fun c_10 => ?_) (fun c_10 => ?_)
    · skip
      have hz : za_digest s (nI i) v y = -1 := by simp [za_digest, hat, z_at_neg c_10]
      refine r_iconst (v := (-1)) C d_Mod_digest_20 rfl ?_
      refine r_iret C E rfl d_Mod_digest_21 (Nat.le_of_ble_eq_true rfl) (Nat.le_of_ble_eq_true rfl) ?_
      rw [hz]
      exact ⟨rfl, rfl⟩
    · skip
      refine r_iload C d_Mod_digest_13 rfl ?_
      refine r_bipush (v := 8) C d_Mod_digest_15 rfl ?_
      refine r_icmp_lt (tgt := 22) C d_Mod_digest_17 rfl (fun c_17 => ?_) (fun c_17 => ?_)
      · skip
        obtain ⟨q, hq⟩ : ∃ q, z_at y 8 = some q := ⟨_, by unfold z_at; exact if_pos ⟨Int32.not_lt.mp c_10, c_17⟩⟩
        obtain ⟨hq8, rfl⟩ := z_at_some (by decide) hq
        have hz : za_digest s (nI i) v (nI q) = zd_by s i v q := by simp [za_digest, hat, hq]
        have hn12 := N.2.2.1
        have L : ∀ d j, j + d = z_nD s → hG Y X S_Mod_digest 0 0 f [(7, .int (nI (j))), (5, .long (zd_x s i v j)), (0, .ref (ad 0 0)), (1, .int (nI i)), (2, .long v), (4, .int (nI q))] [] 28 := by
          intro d
          induction d with
          | zero =>
            intro j hj
            obtain rfl : j = z_nD s := by omega
            refine r_iload C d_Mod_digest_28 rfl ?_
            refine r_aload_n C d_Mod_digest_30 rfl rfl ?_
            refine r_get C hq_Mod d_Mod_digest_31 (j := 8) (Nat.le_of_ble_eq_true rfl) mf_Mod_82 (mp_0 P) rfl ?_
            refine r_icmp_ge (tgt := 117) C d_Mod_digest_34 rfl (fun _ => ?_) (fun hz => absurd (nI_le (a := z_nD s) (Nat.le_refl _) (by omega)) hz)
            refine r_lload C d_Mod_digest_117 rfl ?_
            refine r_bipush (v := 56) C d_Mod_digest_119 rfl ?_
            refine r_bipush (v := 8) C d_Mod_digest_121 rfl ?_
            refine r_iload C d_Mod_digest_123 rfl ?_
            refine r_imul C d_Mod_digest_125 ?_
            refine r_isub C d_Mod_digest_126 ?_
            refine r_lushr C d_Mod_digest_127 ?_
            refine r_ldc2 C d_Mod_digest_128 mn_Mod_117 ?_
            refine r_land C d_Mod_digest_131 ?_
            refine r_l2i C d_Mod_digest_132 ?_
            refine r_iret C E rfl d_Mod_digest_133 (Nat.le_of_ble_eq_true rfl) (Nat.le_of_ble_eq_true rfl) ?_
            rw [hz]
            exact ⟨rfl, rfl⟩
          | succ d ih =>
            intro j hj
            have hj12 : j < 12 := by omega
            refine r_iload C d_Mod_digest_28 rfl ?_
            refine r_aload_n C d_Mod_digest_30 rfl rfl ?_
            refine r_get C hq_Mod d_Mod_digest_31 (j := 8) (Nat.le_of_ble_eq_true rfl) mf_Mod_82 (mp_0 P) rfl ?_
            refine r_icmp_ge (tgt := 117) C d_Mod_digest_34 rfl (fun hz => absurd hz (nI_ge (a := j) (b := z_nD s) (by omega) (by omega))) (fun _ => ?_)
            refine r_aload_n C d_Mod_digest_37 rfl rfl ?_
            refine r_get C hq_Mod d_Mod_digest_38 (j := 9) (Nat.le_of_ble_eq_true rfl) mf_Mod_30 (mp_0 P) rfl ?_
            refine r_iload C d_Mod_digest_41 rfl ?_
            refine r_iald (t0 := 1) C d_Mod_digest_43 (mp_owners P) rfl (rfl) (hj12) (by decide) (rfl) ?_
            refine r_iload_n C d_Mod_digest_44 rfl rfl ?_
            refine r_icmp_ne (tgt := 111) C d_Mod_digest_45 rfl (fun c_45 => ?_) (fun c_45 => ?_)
            · skip
              have e9 : zd_x s i v j = zd_x s i v (j + 1) := by
                have : z_ow s j ≠ i := fun h => c_45 (by rw [h])
                simp [zd_x, this]
              first | (show hG Y X S_Mod_digest 0 0 f [(5, .long (zd_e (zd_d s j (zd_b (zd_a s j (zd_x s i v j)))))), (7, .int (nI (j))), (0, .ref (ad 0 0)), (1, .int (nI i)), (2, .long v), (4, .int (nI q))] [] 111; rw [e9]) | rw [e9]
              refine r_iinc (v := nI (j + 1)) (lv' := [(7, _), (5, _), (0, _), (1, _), (2, _), (4, _)]) C d_Mod_digest_111 rfl (nI_1 j) (Nat.le_of_ble_eq_true rfl) rfl ?_
              refine r_goto (tgt := 28) C d_Mod_digest_114 rfl ?_
              exact ih (j + 1) (by omega)
            · skip
              have e9 : zd_e (zd_d s j (zd_b (zd_a s j (zd_x s i v j)))) = zd_x s i v (j + 1) := by
                have : z_ow s j = i := (nI_eq (by have := N.2.2.2.2.1 j (by omega); have := N.2.1; omega) (by omega)).mp c_45
                simp [zd_x, this]
              refine r_lload C d_Mod_digest_48 rfl ?_
              refine r_aload_n C d_Mod_digest_50 rfl rfl ?_
              refine r_get C hq_Mod d_Mod_digest_51 (j := 10) (Nat.le_of_ble_eq_true rfl) mf_Mod_33 (mp_0 P) rfl ?_
              refine r_iload C d_Mod_digest_54 rfl ?_
              refine r_lald (t0 := 0) C d_Mod_digest_56 (mp_cents P) rfl (rfl) (hj12) (by decide) (rfl) ?_
              refine r_ladd C d_Mod_digest_57 ?_
              refine r_lconst (v := 1) C d_Mod_digest_58 rfl ?_
              refine r_ladd C d_Mod_digest_59 ?_
              refine r_lstore (lv' := [(5, _), (7, _), (0, _), (1, _), (2, _), (4, _)]) C d_Mod_digest_60 (Nat.le_of_ble_eq_true rfl) rfl ?_
              refine r_lload C d_Mod_digest_62 rfl ?_
              refine r_ldc2 C d_Mod_digest_64 mn_Mod_109 ?_
              refine r_lmul C d_Mod_digest_67 ?_
              refine r_lstore (lv' := [(5, _), (7, _), (0, _), (1, _), (2, _), (4, _)]) C d_Mod_digest_68 (Nat.le_of_ble_eq_true rfl) rfl ?_
              refine r_lload C d_Mod_digest_70 rfl ?_
              refine r_lload C d_Mod_digest_72 rfl ?_
              refine r_bipush (v := 29) C d_Mod_digest_74 rfl ?_
              refine r_lushr C d_Mod_digest_76 ?_
              refine r_lxor C d_Mod_digest_77 ?_
              refine r_lstore (lv' := [(5, _), (7, _), (0, _), (1, _), (2, _), (4, _)]) C d_Mod_digest_78 (Nat.le_of_ble_eq_true rfl) rfl ?_
              refine r_lload C d_Mod_digest_80 rfl ?_
              refine r_aload_n C d_Mod_digest_82 rfl rfl ?_
              refine r_iload C d_Mod_digest_83 rfl ?_
              refine r_callV C (m_setOf Y _ P hj12) mQ_Mod_setOf d_Mod_digest_85 ml_Mod_111 mi_Mod_setOf mv_Mod_setOf (mp_0 P) rfl rfl rfl rfl (Nat.le_of_ble_eq_true rfl) ⟨⟨Nat.le_of_ble_eq_true rfl, Nat.le_of_ble_eq_true rfl⟩, Nat.le_of_ble_eq_true rfl, Nat.le_of_ble_eq_true rfl⟩ (fun v f' hp => ?_)
              obtain ⟨rfl, hf⟩ := hp
              replace hf := hf.symm
              subst hf
              refine r_ladd C d_Mod_digest_88 ?_
              refine r_lconst (v := 1) C d_Mod_digest_89 rfl ?_
              refine r_ladd C d_Mod_digest_90 ?_
              refine r_lstore (lv' := [(5, _), (7, _), (0, _), (1, _), (2, _), (4, _)]) C d_Mod_digest_91 (Nat.le_of_ble_eq_true rfl) rfl ?_
              refine r_lload C d_Mod_digest_93 rfl ?_
              refine r_ldc2 C d_Mod_digest_95 mn_Mod_115 ?_
              refine r_lmul C d_Mod_digest_98 ?_
              refine r_lstore (lv' := [(5, _), (7, _), (0, _), (1, _), (2, _), (4, _)]) C d_Mod_digest_99 (Nat.le_of_ble_eq_true rfl) rfl ?_
              refine r_lload C d_Mod_digest_101 rfl ?_
              refine r_lload C d_Mod_digest_103 rfl ?_
              refine r_bipush (v := 31) C d_Mod_digest_105 rfl ?_
              refine r_lushr C d_Mod_digest_107 ?_
              refine r_lxor C d_Mod_digest_108 ?_
              refine r_lstore (lv' := [(5, _), (7, _), (0, _), (1, _), (2, _), (4, _)]) C d_Mod_digest_109 (Nat.le_of_ble_eq_true rfl) rfl ?_
              first | (show hG Y X S_Mod_digest 0 0 f [(5, .long (zd_e (zd_d s j (zd_b (zd_a s j (zd_x s i v j)))))), (7, .int (nI (j))), (0, .ref (ad 0 0)), (1, .int (nI i)), (2, .long v), (4, .int (nI q))] [] 111; rw [e9]) | rw [e9]
              refine r_iinc (v := nI (j + 1)) (lv' := [(7, _), (5, _), (0, _), (1, _), (2, _), (4, _)]) C d_Mod_digest_111 rfl (nI_1 j) (Nat.le_of_ble_eq_true rfl) rfl ?_
              refine r_goto (tgt := 28) C d_Mod_digest_114 rfl ?_
              exact ih (j + 1) (by omega)
        refine r_lload_n C d_Mod_digest_22 rfl rfl ?_
        refine r_lstore (lv' := [(5, _), (0, _), (1, _), (2, _), (4, _)]) C d_Mod_digest_23 (Nat.le_of_ble_eq_true rfl) rfl ?_
        refine r_iconst (v := 0) C d_Mod_digest_25 rfl ?_
        refine r_istore (lv' := [(7, _), (5, _), (0, _), (1, _), (2, _), (4, _)]) C d_Mod_digest_26 (Nat.le_of_ble_eq_true rfl) rfl ?_
        exact L (z_nD s) 0 (by omega)
      · skip
        have hz : za_digest s (nI i) v y = -1 := by simp [za_digest, hat, z_at_big (n := 8) c_17]
        refine r_iconst (v := (-1)) C d_Mod_digest_20 rfl ?_
        refine r_iret C E rfl d_Mod_digest_21 (Nat.le_of_ble_eq_true rfl) (Nat.le_of_ble_eq_true rfl) ?_
        rw [hz]
        exact ⟨rfl, rfl⟩

set_option maxHeartbeats 4000000 in
set_option maxRecDepth 100000 in
theorem m_open (Y : hY) (l : Launch) {ad : Nat → Nat → Nat} {s : zS} {tk : Nat → Bool} {f : hw_F} (P : mPic Y ad s tk f) (N : zN s) (x : Int32) (v : Int64) : hM Y l y_Mod_open S_Mod_open (some .int) [.ref (ad 0 0), .int x, .long v] f (fun r f' => r = some (.int (za_open s x v).1) ∧ ∃ tk', mPic Y ad (za_open s x v).2 tk' f') := by
  refine hM.of (by decide) rfl (Nat.le_of_ble_eq_true rfl) ?_
  intro X hl hnm C E
  show hG Y X S_Mod_open 0 0 f [(0, .ref (ad 0 0)), (1, .int x), (2, .long v)] [] 0
  refine r_aload_n C d_Mod_open_0 rfl rfl ?_
  refine r_iload_n C d_Mod_open_1 rfl rfl ?_
  refine r_callV C (m_isBidder Y _ P _) mQ_Mod_isBidder d_Mod_open_2 ml_Mod_91 mi_Mod_isBidder mv_Mod_isBidder (mp_0 P) rfl rfl rfl rfl (Nat.le_of_ble_eq_true rfl) ⟨⟨Nat.le_of_ble_eq_true rfl, Nat.le_of_ble_eq_true rfl⟩, Nat.le_of_ble_eq_true rfl, Nat.le_of_ble_eq_true rfl⟩ (fun v f' hp => ?_)
  obtain ⟨rfl, hf⟩ := hp
  replace hf := hf.symm
  subst hf
  refine r_if_eq (tgt := 27) C d_Mod_open_5 rfl (fun c_5 => ?_) (fun c_5 => ?_)
  · skip
    have hz : za_open s x v = (-1, s) := by simp [za_unop, bS_none c_5, za_open]
    refine r_iconst (v := (-1)) C d_Mod_open_27 rfl ?_
    refine r_iret C E rfl d_Mod_open_28 (Nat.le_of_ble_eq_true rfl) (Nat.le_of_ble_eq_true rfl) ?_
    rw [hz]
    exact ⟨rfl, tk, P⟩
  · skip
    obtain ⟨i, hat⟩ := bS_some c_5
    obtain ⟨hi, rfl⟩ := z_at_some (by have := N.2.1; omega) hat
    have hi6 : i < 6 := by have := N.2.1; omega
    refine r_aload_n C d_Mod_open_8 rfl rfl ?_
    refine r_get C hq_Mod d_Mod_open_9 (j := 3) (Nat.le_of_ble_eq_true rfl) mf_Mod_13 (mp_0 P) rfl ?_
    refine r_iload_n C d_Mod_open_12 rfl rfl ?_
    refine r_zald (t0 := 2) C d_Mod_open_13 (mp_opened P) rfl (rfl) (hi6) (by decide) (rfl) ?_
    refine r_if_ne (tgt := 27) C d_Mod_open_14 rfl (fun c_14 => ?_) (fun c_14 => ?_)
    · skip
      rw [bI_n0] at c_14
      have hz : za_open s (nI i) v = (-1, s) := by simp [za_unop, hat, c_14, za_open]
      refine r_iconst (v := (-1)) C d_Mod_open_27 rfl ?_
      refine r_iret C E rfl d_Mod_open_28 (Nat.le_of_ble_eq_true rfl) (Nat.le_of_ble_eq_true rfl) ?_
      rw [hz]
      exact ⟨rfl, tk, P⟩
    · skip
      rw [bI_0] at c_14
      have hun : za_unop s (nI i) = some i := by simp [za_unop, hat, c_14]
      refine r_aload_n C d_Mod_open_17 rfl rfl ?_
      refine r_iload_n C d_Mod_open_18 rfl rfl ?_
      refine r_callV C (m_told Y _ P hi6) mQ_Mod_told d_Mod_open_19 ml_Mod_103 mi_Mod_told mv_Mod_told (mp_0 P) rfl rfl rfl rfl (Nat.le_of_ble_eq_true rfl) ⟨⟨Nat.le_of_ble_eq_true rfl, Nat.le_of_ble_eq_true rfl⟩, Nat.le_of_ble_eq_true rfl, Nat.le_of_ble_eq_true rfl⟩ (fun v f' hp => ?_)
      obtain ⟨rfl, hf⟩ := hp
      replace hf := hf.symm
      subst hf
      refine r_bipush (v := 8) C d_Mod_open_22 rfl ?_
      refine r_icmp_ge (tgt := 29) C d_Mod_open_24 rfl (fun c_24 => ?_) (fun c_24 => ?_)
      · skip
        have ht8 : z_told s i = 8 := by
          have h9 := zc_le (fun j => z_sd s (8 * i + j)) 8
          rcases Nat.lt_or_ge (z_told s i) 8 with h | h
          · exact absurd c_24 (nI_ge h (by decide))
          · unfold z_told at *; omega
        have hn12 := N.2.2.1
        have L : ∀ d j, j + d = 8 → (∀ q, q < j → z_sb s (8 * i + q) = zd_by s i v q) → hG Y X S_Mod_open 0 0 f [(4, .int (nI (j))), (0, .ref (ad 0 0)), (1, .int (nI i)), (2, .long v)] [] 32 := by
          intro d
          induction d with
          | zero =>
            intro j hj hall
            obtain rfl : j = 8 := by omega
            have hz : za_open s (nI i) v = (nI (zc_cnt (fun k => decide (z_ow s k = i)) (z_nD s)), zu_open s i) := by
              simp only [za_open, hun]
              exact if_pos ⟨ht8, hall⟩
            refine r_iload C d_Mod_open_32 rfl ?_
            refine r_bipush (v := 8) C d_Mod_open_34 rfl ?_
            refine r_icmp_ge (tgt := 70) C d_Mod_open_36 rfl (fun _ => ?_) (fun hz => absurd (show (8 : Int32) ≤ nI 8 by decide) hz)
            refine r_aload_n C d_Mod_open_70 rfl rfl ?_
            refine r_get C hq_Mod d_Mod_open_71 (j := 3) (Nat.le_of_ble_eq_true rfl) mf_Mod_13 (mp_0 P) rfl ?_
            refine r_iload_n C d_Mod_open_74 rfl rfl ?_
            refine r_iconst (v := 1) C d_Mod_open_75 rfl ?_
            refine r_zast (t0 := 2) C d_Mod_open_76 (mp_opened P) rfl (rfl) (hi6) (by decide) (rfl) ?_
            refine r_aload_n C d_Mod_open_77 rfl rfl ?_
            refine r_iconst (v := 0) C d_Mod_open_78 rfl ?_
            refine r_put C hq_Mod d_Mod_open_79 (j := 13) (fs' := [_, _, _, _, _, _, _, _, _, _, _, _, _, _, _, _, _, _, _, _, _, _, _, _, _, _, _, _]) (Nat.le_of_ble_eq_true rfl) mf_Mod_87 rfl rfl rfl rfl ((hw_un _ (mNe P 0 2 (by decide) (by decide) (by decide))).trans (mp_0 P)) (Nat.le_of_ble_eq_true rfl) rfl ?_
            refine r_nw (mPic Y ad (zu_open s i) tk) (mEnd (mPut (mPut P 2 (by decide) _) 0 (by decide) _) (lt22 rfl rfl (congrArg (eI (Y.2 2) 6) (hv_bI _ _ true).symm) rfl rfl rfl rfl rfl rfl rfl rfl rfl rfl rfl rfl rfl rfl rfl rfl rfl rfl rfl)) (fun f2 P2 => ?_)
            have L2 : ∀ d j, j + d = z_nD s → hG Y X S_Mod_open 0 0 f2 [(5, .int (nI (j))), (4, .int (nI (zc_cnt (fun k => decide (z_ow s k = i)) (j)))), (0, .ref (ad 0 0)), (1, .int (nI i)), (2, .long v)] [] 88 := by
              intro d
              induction d with
              | zero =>
                intro j hj
                obtain rfl : j = z_nD s := by omega
                refine r_iload C d_Mod_open_88 rfl ?_
                refine r_aload_n C d_Mod_open_90 rfl rfl ?_
                refine r_get C hq_Mod d_Mod_open_91 (j := 8) (Nat.le_of_ble_eq_true rfl) mf_Mod_82 (mp_0 P2) rfl ?_
                refine r_icmp_ge (tgt := 124) C d_Mod_open_94 rfl (fun _ => ?_) (fun hz => absurd (nI_le (a := z_nD s) (Nat.le_refl _) (by omega)) hz)
                refine r_iload C d_Mod_open_124 rfl ?_
                refine r_iret C E rfl d_Mod_open_126 (Nat.le_of_ble_eq_true rfl) (Nat.le_of_ble_eq_true rfl) ?_
                rw [hz]
                exact ⟨rfl, tk, P2⟩
              | succ d ih =>
                intro j hj
                have hj12 : j < 12 := by omega
                refine r_iload C d_Mod_open_88 rfl ?_
                refine r_aload_n C d_Mod_open_90 rfl rfl ?_
                refine r_get C hq_Mod d_Mod_open_91 (j := 8) (Nat.le_of_ble_eq_true rfl) mf_Mod_82 (mp_0 P2) rfl ?_
                refine r_icmp_ge (tgt := 124) C d_Mod_open_94 rfl (fun hz => absurd hz (nI_ge (a := j) (b := z_nD s) (by omega) (by omega))) (fun _ => ?_)
                refine r_iload C d_Mod_open_97 rfl ?_
                refine r_aload_n C d_Mod_open_99 rfl rfl ?_
                refine r_get C hq_Mod d_Mod_open_100 (j := 9) (Nat.le_of_ble_eq_true rfl) mf_Mod_30 (mp_0 P2) rfl ?_
                refine r_iload C d_Mod_open_103 rfl ?_
                refine r_iald (t0 := 1) C d_Mod_open_105 (mp_owners P2) rfl (rfl) (hj12) (by decide) (rfl) ?_
                refine r_iload_n C d_Mod_open_106 rfl rfl ?_
                refine r_icmp_ne (tgt := 114) C d_Mod_open_107 rfl (fun c_107 => ?_) (fun c_107 => ?_)
                · skip
                  have e9 : nI (zc_cnt (fun k => decide (z_ow s k = i)) j) + 0 = nI (zc_cnt (fun k => decide (z_ow s k = i)) (j + 1)) := by
                    have : z_ow s j ≠ i := fun h => c_107 (by show nI (z_ow s j) = nI i; rw [h])
                    simp [zc_cnt, this]
                  refine r_iconst (v := 0) C d_Mod_open_114 rfl ?_
                  refine r_iadd C d_Mod_open_115 ?_
                  refine r_istore (lv' := [(4, _), (5, _), (0, _), (1, _), (2, _)]) C d_Mod_open_116 (Nat.le_of_ble_eq_true rfl) rfl ?_
                  rw [e9]
                  refine r_iinc (v := nI (j + 1)) (lv' := [(5, _), (4, _), (0, _), (1, _), (2, _)]) C d_Mod_open_118 rfl (nI_1 j) (Nat.le_of_ble_eq_true rfl) rfl ?_
                  refine r_goto (tgt := 88) C d_Mod_open_121 rfl ?_
                  exact ih (j + 1) (by omega)
                · skip
                  have e9 : nI (zc_cnt (fun k => decide (z_ow s k = i)) j) + 1 = nI (zc_cnt (fun k => decide (z_ow s k = i)) (j + 1)) := by
                    have : z_ow s j = i := (nI_eq (by have := N.2.2.2.2.1 j (by omega); have := N.2.1; omega) (by omega)).mp c_107
                    simp [zc_cnt, this, nI_1]
                  refine r_iconst (v := 1) C d_Mod_open_110 rfl ?_
                  refine r_goto (tgt := 115) C d_Mod_open_111 rfl ?_
                  refine r_iadd C d_Mod_open_115 ?_
                  refine r_istore (lv' := [(4, _), (5, _), (0, _), (1, _), (2, _)]) C d_Mod_open_116 (Nat.le_of_ble_eq_true rfl) rfl ?_
                  rw [e9]
                  refine r_iinc (v := nI (j + 1)) (lv' := [(5, _), (4, _), (0, _), (1, _), (2, _)]) C d_Mod_open_118 rfl (nI_1 j) (Nat.le_of_ble_eq_true rfl) rfl ?_
                  refine r_goto (tgt := 88) C d_Mod_open_121 rfl ?_
                  exact ih (j + 1) (by omega)
            refine r_iconst (v := 0) C d_Mod_open_82 rfl ?_
            refine r_istore (lv' := [(4, _), (0, _), (1, _), (2, _)]) C d_Mod_open_83 (Nat.le_of_ble_eq_true rfl) rfl ?_
            refine r_iconst (v := 0) C d_Mod_open_85 rfl ?_
            refine r_istore (lv' := [(5, _), (4, _), (0, _), (1, _), (2, _)]) C d_Mod_open_86 (Nat.le_of_ble_eq_true rfl) rfl ?_
            exact L2 (z_nD s) 0 (by omega)
          | succ d ih =>
            intro j hj hall
            refine r_iload C d_Mod_open_32 rfl ?_
            refine r_bipush (v := 8) C d_Mod_open_34 rfl ?_
            refine r_icmp_ge (tgt := 70) C d_Mod_open_36 rfl (fun hz => absurd hz (nI_ge (a := j) (b := 8) (by omega) (by decide))) (fun _ => ?_)
            refine r_aload_n C d_Mod_open_39 rfl rfl ?_
            refine r_get C hq_Mod d_Mod_open_40 (j := 6) (Nat.le_of_ble_eq_true rfl) mf_Mod_24 (mp_0 P) rfl ?_
            refine r_bipush (v := 8) C d_Mod_open_43 rfl ?_
            refine r_iload_n C d_Mod_open_45 rfl rfl ?_
            refine r_imul C d_Mod_open_46 ?_
            refine r_iload C d_Mod_open_47 rfl ?_
            refine r_iadd C d_Mod_open_49 ?_
            refine r_iald (t0 := 1) C d_Mod_open_50 (mp_seals P) rfl (ix8 i j) (by omega) (by decide) (rfl) ?_
            refine r_aload_n C d_Mod_open_51 rfl rfl ?_
            refine r_iload_n C d_Mod_open_52 rfl rfl ?_
            refine r_lload_n C d_Mod_open_53 rfl rfl ?_
            refine r_iload C d_Mod_open_54 rfl ?_
            refine r_callV C (m_digest Y _ P N _ _ _) mQ_Mod_digest d_Mod_open_56 ml_Mod_119 mi_Mod_digest mv_Mod_digest (mp_0 P) rfl rfl rfl rfl (Nat.le_of_ble_eq_true rfl) ⟨⟨Nat.le_of_ble_eq_true rfl, Nat.le_of_ble_eq_true rfl⟩, Nat.le_of_ble_eq_true rfl, Nat.le_of_ble_eq_true rfl⟩ (fun v f' hp => ?_)
            obtain ⟨rfl, hf⟩ := hp
            replace hf := hf.symm
            subst hf
            refine r_icmp_eq (tgt := 64) C d_Mod_open_59 rfl (fun c_59 => ?_) (fun c_59 => ?_)
            · skip
              have e9 : z_sb s (8 * i + j) = zd_by s i v j := by
                rw [c_59]
                simp [za_digest, hat, z_at_nI (n := 8) (by decide) (show j < 8 by omega)]
              refine r_iinc (v := nI (j + 1)) (lv' := [(4, _), (0, _), (1, _), (2, _)]) C d_Mod_open_64 rfl (nI_1 j) (Nat.le_of_ble_eq_true rfl) rfl ?_
              refine r_goto (tgt := 32) C d_Mod_open_67 rfl ?_
              exact ih (j + 1) (by omega) (fun q hq => by
                rcases Nat.lt_or_ge q j with h | h
                · exact hall q h
                · rw [show q = j by omega]; exact e9)
            · skip
              have hz : za_open s (nI i) v = (-1, s) := by
                simp only [za_open, hun]
                refine if_neg (fun h => c_59 ?_)
                have := h.2 j (by omega)
                rw [this]
                simp [za_digest, hat, z_at_nI (n := 8) (by decide) (show j < 8 by omega)]
              refine r_iconst (v := (-1)) C d_Mod_open_62 rfl ?_
              refine r_iret C E rfl d_Mod_open_63 (Nat.le_of_ble_eq_true rfl) (Nat.le_of_ble_eq_true rfl) ?_
              rw [hz]
              exact ⟨rfl, tk, P⟩
        refine r_iconst (v := 0) C d_Mod_open_29 rfl ?_
        refine r_istore (lv' := [(4, _), (0, _), (1, _), (2, _)]) C d_Mod_open_30 (Nat.le_of_ble_eq_true rfl) rfl ?_
        exact L 8 0 rfl (fun q hq => absurd hq (by omega))
      · skip
        have hz : za_open s (nI i) v = (-1, s) := by
          have : z_told s i ≠ 8 := fun h => c_24 (by rw [h]; decide)
          simp [za_open, hun, this]
        refine r_iconst (v := (-1)) C d_Mod_open_27 rfl ?_
        refine r_iret C E rfl d_Mod_open_28 (Nat.le_of_ble_eq_true rfl) (Nat.le_of_ble_eq_true rfl) ?_
        rw [hz]
        exact ⟨rfl, tk, P⟩

