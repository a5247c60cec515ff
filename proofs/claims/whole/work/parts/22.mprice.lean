set_option maxHeartbeats 4000000 in
set_option maxRecDepth 100000 in
theorem m_price (Y : hY) (l : Launch) {ad : Nat → Nat → Nat} {s : zS} {tk : Nat → Bool} {f : hw_F} (P : mPic Y ad s tk f) (N : zN s) (x : Int32) (a b : Int64) : hM Y l y_Mod_price S_Mod_price (some .long) [.ref (ad 0 0), .int x, .long a, .long b] f (fun r f' => r = some (.long (za_price s x a b)) ∧ f' = f) := by
  refine hM.of (by decide) rfl (Nat.le_of_ble_eq_true rfl) ?_
  intro X hl hnm C E
  show hG Y X S_Mod_price 0 0 f [(0, .ref (ad 0 0)), (1, .int x), (2, .long a), (4, .long b)] [] 0
  refine r_aload_n C d_Mod_price_0 rfl rfl ?_
  refine r_iload_n C d_Mod_price_1 rfl rfl ?_
  refine r_callV C (m_wins Y _ P N _) mQ_Mod_wins d_Mod_price_2 ml_Mod_157 mi_Mod_wins mv_Mod_wins (mp_0 P) rfl rfl rfl rfl (Nat.le_of_ble_eq_true rfl) ⟨⟨Nat.le_of_ble_eq_true rfl, Nat.le_of_ble_eq_true rfl⟩, Nat.le_of_ble_eq_true rfl, Nat.le_of_ble_eq_true rfl⟩ (fun v f' hp => ?_)
  obtain ⟨rfl, hf⟩ := hp
  replace hf := hf.symm
  subst hf
  refine r_if_eq (tgt := 17) C d_Mod_price_5 rfl (fun c_5 => ?_) (fun c_5 => ?_)
  · skip
    have hz : za_price s x a b = -1 := by
      rcases za_wins_f c_5 with h | ⟨k, h, h2⟩
      · simp [za_price, h]
      · simp [za_price, h, h2]
    refine r_ldc2 C d_Mod_price_17 mn_Mod_155 ?_
    refine r_lret C E rfl d_Mod_price_20 (Nat.le_of_ble_eq_true rfl) (Nat.le_of_ble_eq_true rfl) ?_
    rw [hz]
    exact ⟨rfl, rfl⟩
  · skip
    obtain ⟨i, hat, hw⟩ := za_wins_t c_5
    obtain ⟨hi, rfl⟩ := z_at_some (by have := N.2.2.1; omega) hat
    have hi12 : i < 12 := by have := N.2.2.1; omega
    refine r_lload_n C d_Mod_price_8 rfl rfl ?_
    refine r_lload C d_Mod_price_9 rfl ?_
    refine r_callS C (m_isShare Y _ _ _ _) mQ_Mod_isShare d_Mod_price_11 ml_Mod_165 mt_Mod_isShare rfl rfl (Nat.le_of_ble_eq_true rfl) ⟨⟨Nat.le_of_ble_eq_true rfl, Nat.le_of_ble_eq_true rfl⟩, Nat.le_of_ble_eq_true rfl, Nat.le_of_ble_eq_true rfl⟩ (fun v f' hp => ?_)
    obtain ⟨rfl, hf⟩ := hp
    replace hf := hf.symm
    subst hf
    refine r_if_ne (tgt := 21) C d_Mod_price_14 rfl (fun c_14 => ?_) (fun c_14 => ?_)
    · skip
      rw [bI_n0] at c_14
      have hz : za_price s (nI i) a b = if 0 ≤ zp_pr s i a b (z_nL s) then zp_pr s i a b (z_nL s) else 0 := by simp [za_price, hat, hw, c_14]
      have L : ∀ d j, j + d = z_nL s → hG Y X S_Mod_price 0 0 f [(8, .int (nI (j))), (6, .long (zp_pr s i a b j)), (0, .ref (ad 0 0)), (1, .int (nI i)), (2, .long a), (4, .long b)] [] 32 := by
        intro d
        induction d with
        | zero =>
          intro j hj
          obtain rfl : j = z_nL s := by omega
          refine r_iload C d_Mod_price_32 rfl ?_
          refine r_aload_n C d_Mod_price_34 rfl rfl ?_
          refine r_get C hq_Mod d_Mod_price_35 (j := 0) (Nat.le_of_ble_eq_true rfl) mf_Mod_75 (mp_0 P) rfl ?_
          refine r_icmp_ge (tgt := 140) C d_Mod_price_38 rfl (fun _ => ?_) (fun hz => absurd (nI_le (a := z_nL s) (Nat.le_refl _) (by have := N.1; omega)) hz)
          refine r_lload C d_Mod_price_140 rfl ?_
          refine r_lconst (v := 0) C d_Mod_price_142 rfl ?_
          refine r_lcmp C d_Mod_price_143 ?_
          refine r_if_ge (tgt := 151) C d_Mod_price_144 rfl (fun c_144 => ?_) (fun c_144 => ?_)
          · skip
            rw [lg_cmp_ge] at c_144
            refine r_lload C d_Mod_price_151 rfl ?_
            refine r_lret C E rfl d_Mod_price_153 (Nat.le_of_ble_eq_true rfl) (Nat.le_of_ble_eq_true rfl) ?_
            refine ⟨?_, rfl⟩
            rw [hz]
            first | rw [if_pos c_144] | rw [if_neg c_144]
          · skip
            rw [lg_cmp_ge] at c_144
            refine r_lconst (v := 0) C d_Mod_price_147 rfl ?_
            refine r_goto (tgt := 153) C d_Mod_price_148 rfl ?_
            refine r_lret C E rfl d_Mod_price_153 (Nat.le_of_ble_eq_true rfl) (Nat.le_of_ble_eq_true rfl) ?_
            refine ⟨?_, rfl⟩
            rw [hz]
            first | rw [if_pos c_144] | rw [if_neg c_144]
        | succ d ih =>
          intro j hj
          have hj8 : j < 8 := by have := N.1; omega
          have hs6 := N.2.2.2.2.2.1 j
          refine r_iload C d_Mod_price_32 rfl ?_
          refine r_aload_n C d_Mod_price_34 rfl rfl ?_
          refine r_get C hq_Mod d_Mod_price_35 (j := 0) (Nat.le_of_ble_eq_true rfl) mf_Mod_75 (mp_0 P) rfl ?_
          refine r_icmp_ge (tgt := 140) C d_Mod_price_38 rfl (fun hz => absurd hz (nI_ge (a := j) (b := z_nL s) (by omega) (by have := N.1; omega))) (fun _ => ?_)
          refine r_aload_n C d_Mod_price_41 rfl rfl ?_
          refine r_get C hq_Mod d_Mod_price_42 (j := 11) (Nat.le_of_ble_eq_true rfl) mf_Mod_36 (mp_0 P) rfl ?_
          refine r_bipush (v := 8) C d_Mod_price_45 rfl ?_
          refine r_iload_n C d_Mod_price_47 rfl rfl ?_
          refine r_imul C d_Mod_price_48 ?_
          refine r_iload C d_Mod_price_49 rfl ?_
          refine r_iadd C d_Mod_price_51 ?_
          refine r_zald (t0 := 2) C d_Mod_price_52 (mp_has P) rfl (ix8 i j) (by omega) (by decide) (rfl) ?_
          refine r_if_eq (tgt := 134) C d_Mod_price_53 rfl (fun c_53 => ?_) (fun c_53 => ?_)
          · skip
            rw [bI_0] at c_53
            rw [show zp_pr s i a b j = zp_pr s i a b (j + 1) by simp [zp_pr, c_53]]
            refine r_iinc (v := nI (j + 1)) (lv' := [(8, _), (6, _), (0, _), (1, _), (2, _), (4, _)]) C d_Mod_price_134 rfl (nI_1 j) (Nat.le_of_ble_eq_true rfl) rfl ?_
            refine r_goto (tgt := 32) C d_Mod_price_137 rfl ?_
            refine r_sub [0, 1, 2, 3, 4, 5] rfl ?_
            exact ih (j + 1) (by omega)
          · skip
            rw [bI_n0] at c_53
            have I : ∀ d q, q + d = z_sn s j → hG Y X S_Mod_price 0 0 f [(11, .int (nI (q))), (9, .long (zp_ch s j a b (q))), (8, .int (nI j)), (6, .long (zp_pr s i a b j)), (0, .ref (ad 0 0)), (1, .int (nI i)), (2, .long a), (4, .long b)] [] 62 := by
              intro d
              induction d with
              | zero =>
                intro q hq
                obtain rfl : q = z_sn s j := by omega
                refine r_iload C d_Mod_price_62 rfl ?_
                refine r_aload_n C d_Mod_price_64 rfl rfl ?_
                refine r_get C hq_Mod d_Mod_price_65 (j := 17) (Nat.le_of_ble_eq_true rfl) mf_Mod_45 (mp_0 P) rfl ?_
                refine r_iload C d_Mod_price_68 rfl ?_
                refine r_iald (t0 := 1) C d_Mod_price_70 (mp_stepCounts P) rfl (rfl) (hj8) (by decide) (rfl) ?_
                refine r_icmp_ge (tgt := 127) C d_Mod_price_71 rfl (fun _ => ?_) (fun hz => absurd (nI_le (a := z_sn s j) (Nat.le_refl _) (by omega)) hz)
                refine r_lload C d_Mod_price_127 rfl ?_
                refine r_lload C d_Mod_price_129 rfl ?_
                refine r_ladd C d_Mod_price_131 ?_
                refine r_lstore (lv' := [(6, _), (11, _), (9, _), (8, _), (0, _), (1, _), (2, _), (4, _)]) C d_Mod_price_132 (Nat.le_of_ble_eq_true rfl) rfl ?_
                rw [show zp_pr s i a b j + zp_ch s j a b (z_sn s j) = zp_pr s i a b (j + 1) by simp [zp_pr, c_53]]
                refine r_iinc (v := nI (j + 1)) (lv' := [(8, _), (6, _), (11, _), (9, _), (0, _), (1, _), (2, _), (4, _)]) C d_Mod_price_134 rfl (nI_1 j) (Nat.le_of_ble_eq_true rfl) rfl ?_
                refine r_goto (tgt := 32) C d_Mod_price_137 rfl ?_
                refine r_sub [0, 1, 4, 5, 6, 7] rfl ?_
                exact ih (j + 1) (by omega)
              | succ d ih2 =>
                intro q hq
                refine r_iload C d_Mod_price_62 rfl ?_
                refine r_aload_n C d_Mod_price_64 rfl rfl ?_
                refine r_get C hq_Mod d_Mod_price_65 (j := 17) (Nat.le_of_ble_eq_true rfl) mf_Mod_45 (mp_0 P) rfl ?_
                refine r_iload C d_Mod_price_68 rfl ?_
                refine r_iald (t0 := 1) C d_Mod_price_70 (mp_stepCounts P) rfl (rfl) (hj8) (by decide) (rfl) ?_
                refine r_icmp_ge (tgt := 127) C d_Mod_price_71 rfl (fun hz => absurd hz (nI_ge (a := q) (b := z_sn s j) (by omega) (by omega))) (fun _ => ?_)
                refine r_bipush (v := 6) C d_Mod_price_74 rfl ?_
                refine r_iload C d_Mod_price_76 rfl ?_
                refine r_imul C d_Mod_price_78 ?_
                refine r_iload C d_Mod_price_79 rfl ?_
                refine r_iadd C d_Mod_price_81 ?_
                rw [ix6]
                refine r_istore (lv' := [(12, _), (11, _), (9, _), (8, _), (6, _), (0, _), (1, _), (2, _), (4, _)]) C d_Mod_price_82 (Nat.le_of_ble_eq_true rfl) rfl ?_
                refine r_aload_n C d_Mod_price_84 rfl rfl ?_
                refine r_get C hq_Mod d_Mod_price_85 (j := 18) (Nat.le_of_ble_eq_true rfl) mf_Mod_48 (mp_0 P) rfl ?_
                refine r_iload C d_Mod_price_88 rfl ?_
                refine r_lald (t0 := 0) C d_Mod_price_90 (mp_stepAbove P) rfl (rfl) (by omega) (by decide) (rfl) ?_
                refine r_lload C d_Mod_price_91 rfl ?_
                refine r_lmul C d_Mod_price_93 ?_
                refine r_lload_n C d_Mod_price_94 rfl rfl ?_
                refine r_aload_n C d_Mod_price_95 rfl rfl ?_
                refine r_get C hq_Mod d_Mod_price_96 (j := 19) (Nat.le_of_ble_eq_true rfl) mf_Mod_51 (mp_0 P) rfl ?_
                refine r_iload C d_Mod_price_99 rfl ?_
                refine r_lald (t0 := 0) C d_Mod_price_101 (mp_stepBelow P) rfl (rfl) (by omega) (by decide) (rfl) ?_
                refine r_lmul C d_Mod_price_102 ?_
                refine r_lcmp C d_Mod_price_103 ?_
                refine r_if_gt (tgt := 117) C d_Mod_price_104 rfl (fun c_104 => ?_) (fun c_104 => ?_)
                · skip
                  rw [lg_cmp_gt] at c_104
                  have e9 : zp_ch s j a b q = zp_ch s j a b (q + 1) := by simp [zp_ch, Int64.not_le.mpr c_104]
                  refine r_lload C d_Mod_price_117 rfl ?_
                  refine r_lstore (lv' := [(9, _), (12, _), (11, _), (8, _), (6, _), (0, _), (1, _), (2, _), (4, _)]) C d_Mod_price_119 (Nat.le_of_ble_eq_true rfl) rfl ?_
                  rw [e9]
                  refine r_iinc (v := nI (q + 1)) (lv' := [(11, _), (9, _), (12, _), (8, _), (6, _), (0, _), (1, _), (2, _), (4, _)]) C d_Mod_price_121 rfl (nI_1 q) (Nat.le_of_ble_eq_true rfl) rfl ?_
                  refine r_goto (tgt := 62) C d_Mod_price_124 rfl ?_
                  refine r_sub [0, 1, 3, 4, 5, 6, 7, 8] rfl ?_
                  exact ih2 (q + 1) (by omega)
                · skip
                  rw [lg_cmp_gt] at c_104
                  have e9 : z_sc s (6 * j + q) = zp_ch s j a b (q + 1) := by simp [zp_ch, Int64.not_lt.mp c_104]
                  refine r_aload_n C d_Mod_price_107 rfl rfl ?_
                  refine r_get C hq_Mod d_Mod_price_108 (j := 20) (Nat.le_of_ble_eq_true rfl) mf_Mod_54 (mp_0 P) rfl ?_
                  refine r_iload C d_Mod_price_111 rfl ?_
                  refine r_lald (t0 := 0) C d_Mod_price_113 (mp_stepCents P) rfl (rfl) (by omega) (by decide) (rfl) ?_
                  refine r_goto (tgt := 119) C d_Mod_price_114 rfl ?_
                  refine r_lstore (lv' := [(9, _), (12, _), (11, _), (8, _), (6, _), (0, _), (1, _), (2, _), (4, _)]) C d_Mod_price_119 (Nat.le_of_ble_eq_true rfl) rfl ?_
                  rw [e9]
                  refine r_iinc (v := nI (q + 1)) (lv' := [(11, _), (9, _), (12, _), (8, _), (6, _), (0, _), (1, _), (2, _), (4, _)]) C d_Mod_price_121 rfl (nI_1 q) (Nat.le_of_ble_eq_true rfl) rfl ?_
                  refine r_goto (tgt := 62) C d_Mod_price_124 rfl ?_
                  refine r_sub [0, 1, 3, 4, 5, 6, 7, 8] rfl ?_
                  exact ih2 (q + 1) (by omega)
            refine r_lconst (v := 0) C d_Mod_price_56 rfl ?_
            refine r_lstore (lv' := [(9, _), (8, _), (6, _), (0, _), (1, _), (2, _), (4, _)]) C d_Mod_price_57 (Nat.le_of_ble_eq_true rfl) rfl ?_
            refine r_iconst (v := 0) C d_Mod_price_59 rfl ?_
            refine r_istore (lv' := [(11, _), (9, _), (8, _), (6, _), (0, _), (1, _), (2, _), (4, _)]) C d_Mod_price_60 (Nat.le_of_ble_eq_true rfl) rfl ?_
            exact I (z_sn s j) 0 (by omega)
      refine r_aload_n C d_Mod_price_21 rfl rfl ?_
      refine r_get C hq_Mod d_Mod_price_22 (j := 10) (Nat.le_of_ble_eq_true rfl) mf_Mod_33 (mp_0 P) rfl ?_
      refine r_iload_n C d_Mod_price_25 rfl rfl ?_
      refine r_lald (t0 := 0) C d_Mod_price_26 (mp_cents P) rfl (rfl) (hi12) (by decide) (rfl) ?_
      refine r_lstore (lv' := [(6, _), (0, _), (1, _), (2, _), (4, _)]) C d_Mod_price_27 (Nat.le_of_ble_eq_true rfl) rfl ?_
      refine r_iconst (v := 0) C d_Mod_price_29 rfl ?_
      refine r_istore (lv' := [(8, _), (6, _), (0, _), (1, _), (2, _), (4, _)]) C d_Mod_price_30 (Nat.le_of_ble_eq_true rfl) rfl ?_
      exact L (z_nL s) 0 (by omega)
    · skip
      rw [bI_0] at c_14
      have hz : za_price s (nI i) a b = -1 := by simp [za_price, hat, c_14]
      refine r_ldc2 C d_Mod_price_17 mn_Mod_155 ?_
      refine r_lret C E rfl d_Mod_price_20 (Nat.le_of_ble_eq_true rfl) (Nat.le_of_ble_eq_true rfl) ?_
      rw [hz]
      exact ⟨rfl, rfl⟩

set_option maxHeartbeats 4000000 in
set_option maxRecDepth 100000 in
theorem m_monthly (Y : hY) (l : Launch) {ad : Nat → Nat → Nat} {s : zS} {tk : Nat → Bool} {f : hw_F} (P : mPic Y ad s tk f) (N : zN s) (B : ∀ m, z_hi s m = true → ¬ z_ib s m = 0) (x y : Int32) : hM Y l y_Mod_monthly S_Mod_monthly (some .long) [.ref (ad 0 0), .int x, .int y] f (fun r f' => r = some (.long (za_month s x y)) ∧ f' = f) := by
  refine hM.of (by decide) rfl (Nat.le_of_ble_eq_true rfl) ?_
  intro X hl hnm C E
  show hG Y X S_Mod_monthly 0 0 f [(0, .ref (ad 0 0)), (1, .int x), (2, .int y)] [] 0
  refine r_aload_n C d_Mod_monthly_0 rfl rfl ?_
  refine r_iload_n C d_Mod_monthly_1 rfl rfl ?_
  refine r_callV C (m_wins Y _ P N _) mQ_Mod_wins d_Mod_monthly_2 ml_Mod_157 mi_Mod_wins mv_Mod_wins (mp_0 P) rfl rfl rfl rfl (Nat.le_of_ble_eq_true rfl) ⟨⟨Nat.le_of_ble_eq_true rfl, Nat.le_of_ble_eq_true rfl⟩, Nat.le_of_ble_eq_true rfl, Nat.le_of_ble_eq_true rfl⟩ (fun v f' hp => ?_)
  obtain ⟨rfl, hf⟩ := hp
  replace hf := hf.symm
  subst hf
  refine r_if_eq (tgt := 15) C d_Mod_monthly_5 rfl (fun c_5 => ?_) (fun c_5 => ?_)
  · skip
    have hz : za_month s x y = -1 := by
      rcases za_wins_f c_5 with h | ⟨k, h, h2⟩
      · simp [za_month, h]
      · unfold za_month
        rw [h]
        split
        · rename_i h3 h4
          cases h3
          simp [h2]
        · rfl
    refine r_ldc2 C d_Mod_monthly_15 mn_Mod_155 ?_
    refine r_lret C E rfl d_Mod_monthly_18 (Nat.le_of_ble_eq_true rfl) (Nat.le_of_ble_eq_true rfl) ?_
    rw [hz]
    exact ⟨rfl, rfl⟩
  · skip
    obtain ⟨i, hat, hw⟩ := za_wins_t c_5
    obtain ⟨hi, rfl⟩ := z_at_some (by have := N.2.2.1; omega) hat
    have hi12 : i < 12 := by have := N.2.2.1; omega
    refine r_iload_n C d_Mod_monthly_8 rfl rfl ?_
    refine r_callS C (m_isMonth Y _ _ _) mQ_Mod_isMonth d_Mod_monthly_9 ml_Mod_173 mt_Mod_isMonth rfl rfl (Nat.le_of_ble_eq_true rfl) ⟨⟨Nat.le_of_ble_eq_true rfl, Nat.le_of_ble_eq_true rfl⟩, Nat.le_of_ble_eq_true rfl, Nat.le_of_ble_eq_true rfl⟩ (fun v f' hp => ?_)
    obtain ⟨rfl, hf⟩ := hp
    replace hf := hf.symm
    subst hf
    refine r_if_ne (tgt := 19) C d_Mod_monthly_12 rfl (fun c_12 => ?_) (fun c_12 => ?_)
    · skip
      obtain ⟨w, hat2⟩ := bS_some c_12
      obtain ⟨hw60, rfl⟩ := z_at_some (by decide) hat2
      have hz : za_month s (nI i) (nI w) = zm_v s i (w + 1) := by simp [za_month, hat, hat2, hw]
      have L : ∀ d j, j + d = w + 1 → hG Y X S_Mod_monthly 0 0 f [(5, .int (nI (j))), (3, .long (zm_v s i (j))), (0, .ref (ad 0 0)), (1, .int (nI i)), (2, .int (nI w))] [] 29 := by
        intro d
        induction d with
        | zero =>
          intro j hj
          obtain rfl : j = w + 1 := by omega
          refine r_iload C d_Mod_monthly_29 rfl ?_
          refine r_iload_n C d_Mod_monthly_31 rfl rfl ?_
          refine r_icmp_gt (tgt := 85) C d_Mod_monthly_32 rfl (fun _ => ?_) (fun hz => absurd (nI_lt (a := w) (b := w + 1) (by omega) (by omega)) hz)
          refine r_lload_n C d_Mod_monthly_85 rfl rfl ?_
          refine r_lret C E rfl d_Mod_monthly_86 (Nat.le_of_ble_eq_true rfl) (Nat.le_of_ble_eq_true rfl) ?_
          rw [hz]
          exact ⟨rfl, rfl⟩
        | succ d ih =>
          intro j hj
          have hj60 : j < 60 := by omega
          refine r_iload C d_Mod_monthly_29 rfl ?_
          refine r_iload_n C d_Mod_monthly_31 rfl rfl ?_
          refine r_icmp_gt (tgt := 85) C d_Mod_monthly_32 rfl (fun hz => absurd hz (nI_nlt (a := w) (b := j) (by omega) (by omega))) (fun _ => ?_)
          refine r_aload_n C d_Mod_monthly_35 rfl rfl ?_
          refine r_get C hq_Mod d_Mod_monthly_36 (j := 21) (Nat.le_of_ble_eq_true rfl) mf_Mod_57 (mp_0 P) rfl ?_
          refine r_iload C d_Mod_monthly_39 rfl ?_
          refine r_zald (t0 := 2) C d_Mod_monthly_41 (mp_hasIndex P) rfl (rfl) (hj60) (by decide) (rfl) ?_
          refine r_if_eq (tgt := 79) C d_Mod_monthly_42 rfl (fun c_42 => ?_) (fun c_42 => ?_)
          · skip
            rw [bI_0] at c_42
            have e9 : zm_v s i j = zm_v s i (j + 1) := by simp [zm_v, c_42]
            rw [e9]
            try rw [e9]
            refine r_iinc (v := nI (j + 1)) (lv' := [(5, _), (3, _), (0, _), (1, _), (2, _)]) C d_Mod_monthly_79 rfl (nI_1 j) (Nat.le_of_ble_eq_true rfl) rfl ?_
            refine r_goto (tgt := 29) C d_Mod_monthly_82 rfl ?_
            refine r_sub [0, 1, 2, 3, 4] rfl ?_
            exact ih (j + 1) (by omega)
          · skip
            rw [bI_n0] at c_42
            refine r_lload_n C d_Mod_monthly_45 rfl rfl ?_
            refine r_aload_n C d_Mod_monthly_46 rfl rfl ?_
            refine r_get C hq_Mod d_Mod_monthly_47 (j := 22) (Nat.le_of_ble_eq_true rfl) mf_Mod_60 (mp_0 P) rfl ?_
            refine r_iload C d_Mod_monthly_50 rfl ?_
            refine r_lald (t0 := 0) C d_Mod_monthly_52 (mp_indexAbove P) rfl (rfl) (hj60) (by decide) (rfl) ?_
            refine r_lmul C d_Mod_monthly_53 ?_
            refine r_aload_n C d_Mod_monthly_54 rfl rfl ?_
            refine r_get C hq_Mod d_Mod_monthly_55 (j := 23) (Nat.le_of_ble_eq_true rfl) mf_Mod_63 (mp_0 P) rfl ?_
            refine r_iload C d_Mod_monthly_58 rfl ?_
            refine r_lald (t0 := 0) C d_Mod_monthly_60 (mp_indexBelow P) rfl (rfl) (hj60) (by decide) (rfl) ?_
            refine r_ldiv C d_Mod_monthly_61 (B j c_42) ?_
            refine r_lstore_n (lv' := [(3, _), (5, _), (0, _), (1, _), (2, _)]) C d_Mod_monthly_62 rfl (Nat.le_of_ble_eq_true rfl) rfl ?_
            refine r_lload_n C d_Mod_monthly_63 rfl rfl ?_
            refine r_ldc2 C d_Mod_monthly_64 mn_Mod_176 ?_
            refine r_lcmp C d_Mod_monthly_67 ?_
            refine r_if_le (tgt := 77) C d_Mod_monthly_68 rfl (fun c_68 => ?_) (fun c_68 => ?_)
            · skip
              rw [lg_cmp_le] at c_68
              have e9 : zm_v s i j * z_ia s j / z_ib s j = zm_v s i (j + 1) := by
                have : zm_1 s j (zm_v s i j) ≤ 1000000000000 := c_68
                simp [zm_v, c_42, this]
                rfl
              rw [e9]
              refine r_lload_n C d_Mod_monthly_77 rfl rfl ?_
              refine r_lstore_n (lv' := [(3, _), (5, _), (0, _), (1, _), (2, _)]) C d_Mod_monthly_78 rfl (Nat.le_of_ble_eq_true rfl) rfl ?_
              try rw [e9]
              refine r_iinc (v := nI (j + 1)) (lv' := [(5, _), (3, _), (0, _), (1, _), (2, _)]) C d_Mod_monthly_79 rfl (nI_1 j) (Nat.le_of_ble_eq_true rfl) rfl ?_
              refine r_goto (tgt := 29) C d_Mod_monthly_82 rfl ?_
              refine r_sub [0, 1, 2, 3, 4] rfl ?_
              exact ih (j + 1) (by omega)
            · skip
              rw [lg_cmp_le] at c_68
              have e9 : (1000000000000 : Int64) = zm_v s i (j + 1) := by
                have : ¬ zm_1 s j (zm_v s i j) ≤ 1000000000000 := c_68
                simp [zm_v, c_42, this]
              refine r_ldc2 C d_Mod_monthly_71 mn_Mod_176 ?_
              refine r_goto (tgt := 78) C d_Mod_monthly_74 rfl ?_
              refine r_lstore_n (lv' := [(3, _), (5, _), (0, _), (1, _), (2, _)]) C d_Mod_monthly_78 rfl (Nat.le_of_ble_eq_true rfl) rfl ?_
              try rw [e9]
              refine r_iinc (v := nI (j + 1)) (lv' := [(5, _), (3, _), (0, _), (1, _), (2, _)]) C d_Mod_monthly_79 rfl (nI_1 j) (Nat.le_of_ble_eq_true rfl) rfl ?_
              refine r_goto (tgt := 29) C d_Mod_monthly_82 rfl ?_
              refine r_sub [0, 1, 2, 3, 4] rfl ?_
              exact ih (j + 1) (by omega)
      refine r_aload_n C d_Mod_monthly_19 rfl rfl ?_
      refine r_get C hq_Mod d_Mod_monthly_20 (j := 10) (Nat.le_of_ble_eq_true rfl) mf_Mod_33 (mp_0 P) rfl ?_
      refine r_iload_n C d_Mod_monthly_23 rfl rfl ?_
      refine r_lald (t0 := 0) C d_Mod_monthly_24 (mp_cents P) rfl (rfl) (hi12) (by decide) (rfl) ?_
      refine r_lstore_n (lv' := [(3, _), (0, _), (1, _), (2, _)]) C d_Mod_monthly_25 rfl (Nat.le_of_ble_eq_true rfl) rfl ?_
      refine r_iconst (v := 0) C d_Mod_monthly_26 rfl ?_
      refine r_istore (lv' := [(5, _), (3, _), (0, _), (1, _), (2, _)]) C d_Mod_monthly_27 (Nat.le_of_ble_eq_true rfl) rfl ?_
      exact L (w + 1) 0 (by omega)
    · skip
      have hz : za_month s (nI i) y = -1 := by simp [za_month, hat, bS_none c_12]
      refine r_ldc2 C d_Mod_monthly_15 mn_Mod_155 ?_
      refine r_lret C E rfl d_Mod_monthly_18 (Nat.le_of_ble_eq_true rfl) (Nat.le_of_ble_eq_true rfl) ?_
      rw [hz]
      exact ⟨rfl, rfl⟩

