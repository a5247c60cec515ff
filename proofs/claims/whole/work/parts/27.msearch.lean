set_option maxHeartbeats 4000000 in
set_option maxRecDepth 100000 in
theorem m_isTied (Y : hY) (l : Launch) {ad : Nat → Nat → Nat} {s : zS} {tk : Nat → Bool} {f : hw_F} (P : mPic Y ad s tk f) (N : zN s) {i : Nat} (hi : i < z_nD s) : hM Y l y_Mod_isTied S_Mod_isTied (some .boolean) [.ref (ad 0 0), .int (nI i)] f (fun r f' => r = some (.int (bI (zk_ti s i (2 ^ z_nD s)))) ∧ ∃ tk', mPic Y ad s tk' f') := by
  refine hM.of (by decide) rfl (Nat.le_of_ble_eq_true rfl) ?_
  intro X hl hnm C E
  show hG Y X S_Mod_isTied 0 0 f [(0, .ref (ad 0 0)), (1, .int (nI i))] [] 0
  have hp4 := z_pow N.2.2.1
  have hi12 : i < 12 := by have := N.2.2.1; omega
  have L : ∀ d n f2 tk2, n + d = 2 ^ z_nD s → mPic Y ad s tk2 f2 → zk_ti s i n = false → hG Y X S_Mod_isTied 0 0 f2 [(2, .int (nI (n))), (0, .ref (ad 0 0)), (1, .int (nI i))] [] 2 := by
    intro d
    induction d with
    | zero =>
      intro n f2 tk2 hn P2 hno
      obtain rfl : n = 2 ^ z_nD s := by omega
      refine r_iload_n C d_Mod_isTied_2 rfl rfl ?_
      refine r_iconst (v := 1) C d_Mod_isTied_3 rfl ?_
      refine r_aload_n C d_Mod_isTied_4 rfl rfl ?_
      refine r_get C hq_Mod d_Mod_isTied_5 (j := 8) (Nat.le_of_ble_eq_true rfl) mf_Mod_82 (mp_0 P2) rfl ?_
      refine r_ishl C d_Mod_isTied_8 ?_
      rw [z_shl1 N.2.2.1]
      refine r_icmp_ge (tgt := 53) C d_Mod_isTied_9 rfl (fun _ => ?_) (fun hz => absurd (nI_le (a := 2 ^ z_nD s) (Nat.le_refl _) (by omega)) hz)
      refine r_iconst (v := 0) C d_Mod_isTied_53 rfl ?_
      refine r_zret C E rfl d_Mod_isTied_54 (rfl) (Nat.le_of_ble_eq_true rfl) (Nat.le_of_ble_eq_true rfl) ?_
      exact ⟨by rw [hno]; rfl, _, P2⟩
    | succ d ih =>
      intro n f2 tk2 hn P2 hno
      have hb := zt_12 N n tk2 i hi
      have hsm := zk_sum_cg (zt_12 N n tk2)
      refine r_iload_n C d_Mod_isTied_2 rfl rfl ?_
      refine r_iconst (v := 1) C d_Mod_isTied_3 rfl ?_
      refine r_aload_n C d_Mod_isTied_4 rfl rfl ?_
      refine r_get C hq_Mod d_Mod_isTied_5 (j := 8) (Nat.le_of_ble_eq_true rfl) mf_Mod_82 (mp_0 P2) rfl ?_
      refine r_ishl C d_Mod_isTied_8 ?_
      rw [z_shl1 N.2.2.1]
      refine r_icmp_ge (tgt := 53) C d_Mod_isTied_9 rfl (fun hz => absurd hz (nI_ge (a := n) (b := 2 ^ z_nD s) (by omega) (by omega))) (fun _ => ?_)
      refine r_aload_n C d_Mod_isTied_12 rfl rfl ?_
      refine r_iload_n C d_Mod_isTied_13 rfl rfl ?_
      refine r_callV C (m_take Y _ P2 (n := n) (by omega)) mQ_Mod_take d_Mod_isTied_14 ml_Mod_140 mi_Mod_take mv_Mod_take (mp_0 P2) rfl rfl rfl rfl (Nat.le_of_ble_eq_true rfl) ⟨⟨Nat.le_of_ble_eq_true rfl, Nat.le_of_ble_eq_true rfl⟩, Nat.le_of_ble_eq_true rfl, Nat.le_of_ble_eq_true rfl⟩ (fun v f3 hp => ?_)
      obtain ⟨rfl, P3⟩ := hp
      refine r_aload_n C d_Mod_isTied_17 rfl rfl ?_
      refine r_get C hq_Mod d_Mod_isTied_18 (j := 27) (Nat.le_of_ble_eq_true rfl) mf_Mod_72 (mp_0 P3) rfl ?_
      refine r_iload_n C d_Mod_isTied_21 rfl rfl ?_
      refine r_zald (t0 := 2) C d_Mod_isTied_22 (mp_taken P3) rfl (rfl) (hi12) (by decide) (rfl) ?_
      refine r_if_eq (tgt := 47) C d_Mod_isTied_23 rfl (fun c_23 => ?_) (fun c_23 => ?_)
      · skip
        rw [bI_0, hb] at c_23
        have e9 : (n.testBit i && zk_sb s n.testBit && decide (zk_sum s n.testBit = z_fs s)) = false := by simp [c_23]
        refine r_iinc (v := nI (n + 1)) (lv' := [(2, _), (0, _), (1, _)]) C d_Mod_isTied_47 rfl (nI_1 n) (Nat.le_of_ble_eq_true rfl) rfl ?_
        refine r_goto (tgt := 2) C d_Mod_isTied_50 rfl ?_
        refine r_sub [0, 1, 2] rfl ?_
        exact ih (n + 1) f3 _ (by omega) P3 (by show (zk_ti s i n || (n.testBit i && zk_sb s n.testBit && decide (zk_sum s n.testBit = z_fs s))) = false; rw [hno, e9]; rfl)
      · skip
        rw [bI_n0, hb] at c_23
        refine r_aload_n C d_Mod_isTied_26 rfl rfl ?_
        refine r_callV C (m_isSale Y _ P3 N) mQ_Mod_isSale d_Mod_isTied_27 ml_Mod_144 mi_Mod_isSale mv_Mod_isSale (mp_0 P3) rfl rfl rfl rfl (Nat.le_of_ble_eq_true rfl) ⟨⟨Nat.le_of_ble_eq_true rfl, Nat.le_of_ble_eq_true rfl⟩, Nat.le_of_ble_eq_true rfl, Nat.le_of_ble_eq_true rfl⟩ (fun v f' hp => ?_)
        obtain ⟨⟨sb, rfl, hsb⟩, hf⟩ := hp
        replace hf := hf.symm
        subst hf
        refine r_if_eq (tgt := 47) C d_Mod_isTied_30 rfl (fun c_30 => ?_) (fun c_30 => ?_)
        · skip
          rw [bI_0] at c_30
          have e9 : (n.testBit i && zk_sb s n.testBit && decide (zk_sum s n.testBit = z_fs s)) = false := by rw [zk_sb_of N hsb, c_30]; simp
          refine r_iinc (v := nI (n + 1)) (lv' := [(2, _), (0, _), (1, _)]) C d_Mod_isTied_47 rfl (nI_1 n) (Nat.le_of_ble_eq_true rfl) rfl ?_
          refine r_goto (tgt := 2) C d_Mod_isTied_50 rfl ?_
          refine r_sub [0, 1, 2] rfl ?_
          exact ih (n + 1) f3 _ (by omega) P3 (by show (zk_ti s i n || (n.testBit i && zk_sb s n.testBit && decide (zk_sum s n.testBit = z_fs s))) = false; rw [hno, e9]; rfl)
        · skip
          rw [bI_n0] at c_30
          refine r_aload_n C d_Mod_isTied_33 rfl rfl ?_
          refine r_callV C (m_takenSum Y _ P3 N) mQ_Mod_takenSum d_Mod_isTied_34 ml_Mod_148 mi_Mod_takenSum mv_Mod_takenSum (mp_0 P3) rfl rfl rfl rfl (Nat.le_of_ble_eq_true rfl) ⟨⟨Nat.le_of_ble_eq_true rfl, Nat.le_of_ble_eq_true rfl⟩, Nat.le_of_ble_eq_true rfl, Nat.le_of_ble_eq_true rfl⟩ (fun v f' hp => ?_)
          obtain ⟨rfl, hf⟩ := hp
          replace hf := hf.symm
          subst hf
          refine r_aload_n C d_Mod_isTied_37 rfl rfl ?_
          refine r_get C hq_Mod d_Mod_isTied_38 (j := 16) (Nat.le_of_ble_eq_true rfl) mf_Mod_136 (mp_0 P3) rfl ?_
          refine r_lcmp C d_Mod_isTied_41 ?_
          refine r_if_ne (tgt := 47) C d_Mod_isTied_42 rfl (fun c_42 => ?_) (fun c_42 => ?_)
          · skip
            rw [lg_cmp_eq, hsm] at c_42
            have e9 : (n.testBit i && zk_sb s n.testBit && decide (zk_sum s n.testBit = z_fs s)) = false := by simp [c_42]
            refine r_iinc (v := nI (n + 1)) (lv' := [(2, _), (0, _), (1, _)]) C d_Mod_isTied_47 rfl (nI_1 n) (Nat.le_of_ble_eq_true rfl) rfl ?_
            refine r_goto (tgt := 2) C d_Mod_isTied_50 rfl ?_
            refine r_sub [0, 1, 2] rfl ?_
            exact ih (n + 1) f3 _ (by omega) P3 (by show (zk_ti s i n || (n.testBit i && zk_sb s n.testBit && decide (zk_sum s n.testBit = z_fs s))) = false; rw [hno, e9]; rfl)
          · skip
            rw [lg_cmp_eq, hsm] at c_42
            have e9 : (n.testBit i && zk_sb s n.testBit && decide (zk_sum s n.testBit = z_fs s)) = true := by rw [zk_sb_of N hsb, c_30, c_23]; simp [c_42]
            have hy : zk_ti s i (2 ^ z_nD s) = true := zc_any_of (i := n) (by omega) e9
            refine r_iconst (v := 1) C d_Mod_isTied_45 rfl ?_
            refine r_zret C E rfl d_Mod_isTied_46 (rfl) (Nat.le_of_ble_eq_true rfl) (Nat.le_of_ble_eq_true rfl) ?_
            exact ⟨by rw [hy]; rfl, _, P3⟩
  refine r_iconst (v := 0) C d_Mod_isTied_0 rfl ?_
  refine r_istore_n (lv' := [(2, _), (0, _), (1, _)]) C d_Mod_isTied_1 rfl (Nat.le_of_ble_eq_true rfl) rfl ?_
  exact L (2 ^ z_nD s) 0 f tk (by omega) P rfl

set_option maxHeartbeats 4000000 in
set_option maxRecDepth 100000 in
theorem m_second (Y : hY) (l : Launch) {ad : Nat → Nat → Nat} {s : zS} {tk : Nat → Bool} {f : hw_F} (P : mPic Y ad s tk f) (N : zN s) (x : Int32) : hM Y l y_Mod_second S_Mod_second (some .long) [.ref (ad 0 0), .int x] f (fun r f' => r = some (.long (za_second s x)) ∧ ∃ tk', mPic Y ad s tk' f') := by
  refine hM.of (by decide) rfl (Nat.le_of_ble_eq_true rfl) ?_
  intro X hl hnm C E
  show hG Y X S_Mod_second 0 0 f [(0, .ref (ad 0 0)), (1, .int x)] [] 0
  refine r_aload_n C d_Mod_second_0 rfl rfl ?_
  refine r_iload_n C d_Mod_second_1 rfl rfl ?_
  refine r_callV C (m_wins Y _ P N _) mQ_Mod_wins d_Mod_second_2 ml_Mod_157 mi_Mod_wins mv_Mod_wins (mp_0 P) rfl rfl rfl rfl (Nat.le_of_ble_eq_true rfl) ⟨⟨Nat.le_of_ble_eq_true rfl, Nat.le_of_ble_eq_true rfl⟩, Nat.le_of_ble_eq_true rfl, Nat.le_of_ble_eq_true rfl⟩ (fun v f' hp => ?_)
  obtain ⟨rfl, hf⟩ := hp
  replace hf := hf.symm
  subst hf
  refine r_if_ne (tgt := 12) C d_Mod_second_5 rfl (fun c_5 => ?_) (fun c_5 => ?_)
  · skip
    obtain ⟨i, hat, hw⟩ := za_wins_t c_5
    obtain ⟨hi, rfl⟩ := z_at_some (by have := N.2.2.1; omega) hat
    have hi12 : i < 12 := by have := N.2.2.1; omega
    have hz : za_second s (nI i) = z_c s i - z_fs s + zs_gr s i (2 ^ z_nD s) := by simp [za_second, hat, hw]
    have hp4 := z_pow N.2.2.1
    have L : ∀ d n f2 tk2, n + d = 2 ^ z_nD s → mPic Y ad s tk2 f2 → hG Y X S_Mod_second 0 0 f2 [(4, .int (nI (n))), (2, .long (zs_gr s i (n))), (0, .ref (ad 0 0)), (1, .int (nI i))] [] 17 := by
      intro d
      induction d with
      | zero =>
        intro n f2 tk2 hn P2
        obtain rfl : n = 2 ^ z_nD s := by omega
        refine r_iload C d_Mod_second_17 rfl ?_
        refine r_iconst (v := 1) C d_Mod_second_19 rfl ?_
        refine r_aload_n C d_Mod_second_20 rfl rfl ?_
        refine r_get C hq_Mod d_Mod_second_21 (j := 8) (Nat.le_of_ble_eq_true rfl) mf_Mod_82 (mp_0 P2) rfl ?_
        refine r_ishl C d_Mod_second_24 ?_
        rw [z_shl1 N.2.2.1]
        refine r_icmp_ge (tgt := 70) C d_Mod_second_25 rfl (fun _ => ?_) (fun hz => absurd (nI_le (a := 2 ^ z_nD s) (Nat.le_refl _) (by omega)) hz)
        refine r_aload_n C d_Mod_second_70 rfl rfl ?_
        refine r_get C hq_Mod d_Mod_second_71 (j := 10) (Nat.le_of_ble_eq_true rfl) mf_Mod_33 (mp_0 P2) rfl ?_
        refine r_iload_n C d_Mod_second_74 rfl rfl ?_
        refine r_lald (t0 := 0) C d_Mod_second_75 (mp_cents P2) rfl (rfl) (hi12) (by decide) (rfl) ?_
        refine r_aload_n C d_Mod_second_76 rfl rfl ?_
        refine r_get C hq_Mod d_Mod_second_77 (j := 16) (Nat.le_of_ble_eq_true rfl) mf_Mod_136 (mp_0 P2) rfl ?_
        refine r_lsub C d_Mod_second_80 ?_
        refine r_lload_n C d_Mod_second_81 rfl rfl ?_
        refine r_ladd C d_Mod_second_82 ?_
        refine r_lret C E rfl d_Mod_second_83 (Nat.le_of_ble_eq_true rfl) (Nat.le_of_ble_eq_true rfl) ?_
        rw [hz]
        exact ⟨rfl, _, P2⟩
      | succ d ih =>
        intro n f2 tk2 hn P2
        have hb := zt_12 N n tk2 i hi
        have hsm := zk_sum_cg (zt_12 N n tk2)
        refine r_iload C d_Mod_second_17 rfl ?_
        refine r_iconst (v := 1) C d_Mod_second_19 rfl ?_
        refine r_aload_n C d_Mod_second_20 rfl rfl ?_
        refine r_get C hq_Mod d_Mod_second_21 (j := 8) (Nat.le_of_ble_eq_true rfl) mf_Mod_82 (mp_0 P2) rfl ?_
        refine r_ishl C d_Mod_second_24 ?_
        rw [z_shl1 N.2.2.1]
        refine r_icmp_ge (tgt := 70) C d_Mod_second_25 rfl (fun hz => absurd hz (nI_ge (a := n) (b := 2 ^ z_nD s) (by omega) (by omega))) (fun _ => ?_)
        refine r_aload_n C d_Mod_second_28 rfl rfl ?_
        refine r_iload C d_Mod_second_29 rfl ?_
        refine r_callV C (m_take Y _ P2 (n := n) (by omega)) mQ_Mod_take d_Mod_second_31 ml_Mod_140 mi_Mod_take mv_Mod_take (mp_0 P2) rfl rfl rfl rfl (Nat.le_of_ble_eq_true rfl) ⟨⟨Nat.le_of_ble_eq_true rfl, Nat.le_of_ble_eq_true rfl⟩, Nat.le_of_ble_eq_true rfl, Nat.le_of_ble_eq_true rfl⟩ (fun v f3 hp => ?_)
        obtain ⟨rfl, P3⟩ := hp
        refine r_aload_n C d_Mod_second_34 rfl rfl ?_
        refine r_get C hq_Mod d_Mod_second_35 (j := 27) (Nat.le_of_ble_eq_true rfl) mf_Mod_72 (mp_0 P3) rfl ?_
        refine r_iload_n C d_Mod_second_38 rfl rfl ?_
        refine r_zald (t0 := 2) C d_Mod_second_39 (mp_taken P3) rfl (rfl) (hi12) (by decide) (rfl) ?_
        refine r_if_ne (tgt := 64) C d_Mod_second_40 rfl (fun c_40 => ?_) (fun c_40 => ?_)
        · skip
          rw [bI_n0, hb] at c_40
          have e9 : zs_gr s i n = zs_gr s i (n + 1) := by
            show _ = (bif !n.testBit i && zk_sb s n.testBit && decide (zs_gr s i n < zk_sum s n.testBit) then zk_sum s n.testBit else zs_gr s i n)
            rw [show (!n.testBit i && zk_sb s n.testBit && decide (zs_gr s i n < zk_sum s n.testBit)) = false from (by simp [c_40])]
            rfl
          rw [e9]
          try rw [e9]
          refine r_iinc (v := nI (n + 1)) (lv' := [(4, _), (2, _), (0, _), (1, _)]) C d_Mod_second_64 rfl (nI_1 n) (Nat.le_of_ble_eq_true rfl) rfl ?_
          refine r_goto (tgt := 17) C d_Mod_second_67 rfl ?_
          refine r_sub [0, 1, 2, 3] rfl ?_
          exact ih (n + 1) f3 _ (by omega) P3
        · skip
          rw [bI_0, hb] at c_40
          refine r_aload_n C d_Mod_second_43 rfl rfl ?_
          refine r_callV C (m_isSale Y _ P3 N) mQ_Mod_isSale d_Mod_second_44 ml_Mod_144 mi_Mod_isSale mv_Mod_isSale (mp_0 P3) rfl rfl rfl rfl (Nat.le_of_ble_eq_true rfl) ⟨⟨Nat.le_of_ble_eq_true rfl, Nat.le_of_ble_eq_true rfl⟩, Nat.le_of_ble_eq_true rfl, Nat.le_of_ble_eq_true rfl⟩ (fun v f' hp => ?_)
          obtain ⟨⟨sb, rfl, hsb⟩, hf⟩ := hp
          replace hf := hf.symm
          subst hf
          refine r_if_eq (tgt := 64) C d_Mod_second_47 rfl (fun c_47 => ?_) (fun c_47 => ?_)
          · skip
            rw [bI_0] at c_47
            have e9 : zs_gr s i n = zs_gr s i (n + 1) := by
              show _ = (bif !n.testBit i && zk_sb s n.testBit && decide (zs_gr s i n < zk_sum s n.testBit) then zk_sum s n.testBit else zs_gr s i n)
              rw [show (!n.testBit i && zk_sb s n.testBit && decide (zs_gr s i n < zk_sum s n.testBit)) = false from (by rw [zk_sb_of N hsb, c_47]; simp)]
              rfl
            rw [e9]
            try rw [e9]
            refine r_iinc (v := nI (n + 1)) (lv' := [(4, _), (2, _), (0, _), (1, _)]) C d_Mod_second_64 rfl (nI_1 n) (Nat.le_of_ble_eq_true rfl) rfl ?_
            refine r_goto (tgt := 17) C d_Mod_second_67 rfl ?_
            refine r_sub [0, 1, 2, 3] rfl ?_
            exact ih (n + 1) f3 _ (by omega) P3
          · skip
            rw [bI_n0] at c_47
            refine r_aload_n C d_Mod_second_50 rfl rfl ?_
            refine r_callV C (m_takenSum Y _ P3 N) mQ_Mod_takenSum d_Mod_second_51 ml_Mod_148 mi_Mod_takenSum mv_Mod_takenSum (mp_0 P3) rfl rfl rfl rfl (Nat.le_of_ble_eq_true rfl) ⟨⟨Nat.le_of_ble_eq_true rfl, Nat.le_of_ble_eq_true rfl⟩, Nat.le_of_ble_eq_true rfl, Nat.le_of_ble_eq_true rfl⟩ (fun v f' hp => ?_)
            obtain ⟨rfl, hf⟩ := hp
            replace hf := hf.symm
            subst hf
            refine r_lload_n C d_Mod_second_54 rfl rfl ?_
            refine r_lcmp C d_Mod_second_55 ?_
            refine r_if_le (tgt := 64) C d_Mod_second_56 rfl (fun c_56 => ?_) (fun c_56 => ?_)
            · skip
              rw [lg_cmp_le, hsm] at c_56
              have e9 : zs_gr s i n = zs_gr s i (n + 1) := by
                show _ = (bif !n.testBit i && zk_sb s n.testBit && decide (zs_gr s i n < zk_sum s n.testBit) then zk_sum s n.testBit else zs_gr s i n)
                rw [show (!n.testBit i && zk_sb s n.testBit && decide (zs_gr s i n < zk_sum s n.testBit)) = false from (by simp [Int64.not_lt.mpr c_56])]
                rfl
              rw [e9]
              try rw [e9]
              refine r_iinc (v := nI (n + 1)) (lv' := [(4, _), (2, _), (0, _), (1, _)]) C d_Mod_second_64 rfl (nI_1 n) (Nat.le_of_ble_eq_true rfl) rfl ?_
              refine r_goto (tgt := 17) C d_Mod_second_67 rfl ?_
              refine r_sub [0, 1, 2, 3] rfl ?_
              exact ih (n + 1) f3 _ (by omega) P3
            · skip
              rw [lg_cmp_le, hsm] at c_56
              have e9 : zk_sum s (zt n tk2 12) = zs_gr s i (n + 1) := by
                rw [hsm]
                show _ = (bif !n.testBit i && zk_sb s n.testBit && decide (zs_gr s i n < zk_sum s n.testBit) then zk_sum s n.testBit else zs_gr s i n)
                rw [zk_sb_of N hsb, c_47, c_40]
                simp [Int64.not_le.mp c_56]
              refine r_aload_n C d_Mod_second_59 rfl rfl ?_
              refine r_callV C (m_takenSum Y _ P3 N) mQ_Mod_takenSum d_Mod_second_60 ml_Mod_148 mi_Mod_takenSum mv_Mod_takenSum (mp_0 P3) rfl rfl rfl rfl (Nat.le_of_ble_eq_true rfl) ⟨⟨Nat.le_of_ble_eq_true rfl, Nat.le_of_ble_eq_true rfl⟩, Nat.le_of_ble_eq_true rfl, Nat.le_of_ble_eq_true rfl⟩ (fun v f' hp => ?_)
              obtain ⟨rfl, hf⟩ := hp
              replace hf := hf.symm
              subst hf
              refine r_lstore_n (lv' := [(2, _), (4, _), (0, _), (1, _)]) C d_Mod_second_63 rfl (Nat.le_of_ble_eq_true rfl) rfl ?_
              try rw [e9]
              refine r_iinc (v := nI (n + 1)) (lv' := [(4, _), (2, _), (0, _), (1, _)]) C d_Mod_second_64 rfl (nI_1 n) (Nat.le_of_ble_eq_true rfl) rfl ?_
              refine r_goto (tgt := 17) C d_Mod_second_67 rfl ?_
              refine r_sub [0, 1, 2, 3] rfl ?_
              exact ih (n + 1) f3 _ (by omega) P3
    refine r_lconst (v := 0) C d_Mod_second_12 rfl ?_
    refine r_lstore_n (lv' := [(2, _), (0, _), (1, _)]) C d_Mod_second_13 rfl (Nat.le_of_ble_eq_true rfl) rfl ?_
    refine r_iconst (v := 0) C d_Mod_second_14 rfl ?_
    refine r_istore (lv' := [(4, _), (2, _), (0, _), (1, _)]) C d_Mod_second_15 (Nat.le_of_ble_eq_true rfl) rfl ?_
    exact L (2 ^ z_nD s) 0 f tk (by omega) P
  · skip
    have hz : za_second s x = -1 := by
      rcases za_wins_f c_5 with h | ⟨k, h, h2⟩
      · simp [za_second, h]
      · simp [za_second, h, h2]
    refine r_ldc2 C d_Mod_second_8 mn_Mod_155 ?_
    refine r_lret C E rfl d_Mod_second_11 (Nat.le_of_ble_eq_true rfl) (Nat.le_of_ble_eq_true rfl) ?_
    rw [hz]
    exact ⟨rfl, tk, P⟩

set_option maxHeartbeats 4000000 in
set_option maxRecDepth 100000 in
theorem m_tie (Y : hY) (l : Launch) {ad : Nat → Nat → Nat} {s : zS} {tk : Nat → Bool} {f : hw_F} (P : mPic Y ad s tk f) (N : zN s) (x y : Int32) : hM Y l y_Mod_tie S_Mod_tie (some .int) [.ref (ad 0 0), .int x, .int y] f (fun r f' => r = some (.int (za_tie s x y)) ∧ ∃ tk', mPic Y ad s tk' f') := by
  refine hM.of (by decide) rfl (Nat.le_of_ble_eq_true rfl) ?_
  intro X hl hnm C E
  show hG Y X S_Mod_tie 0 0 f [(0, .ref (ad 0 0)), (1, .int x), (2, .int y)] [] 0
  refine r_iconst (v := 0) C d_Mod_tie_0 rfl ?_
  refine r_istore_n (lv' := [(3, _), (0, _), (1, _), (2, _)]) C d_Mod_tie_1 rfl (Nat.le_of_ble_eq_true rfl) rfl ?_
  refine r_iconst (v := 0) C d_Mod_tie_2 rfl ?_
  refine r_istore (lv' := [(4, _), (3, _), (0, _), (1, _), (2, _)]) C d_Mod_tie_3 (Nat.le_of_ble_eq_true rfl) rfl ?_
  cases hfd : z_fd s with
  | false =>
      refine r_iload C d_Mod_tie_5 rfl ?_
      refine r_aload_n C d_Mod_tie_7 rfl rfl ?_
      refine r_get C hq_Mod d_Mod_tie_8 (j := 8) (Nat.le_of_ble_eq_true rfl) mf_Mod_82 (mp_0 P) rfl ?_
      refine r_icmp_ge (tgt := 90) C d_Mod_tie_11 rfl (fun c_11 => ?_) (fun c_11 => ?_)
      · skip
        refine r_iconst (v := (-1)) C d_Mod_tie_90 rfl ?_
        refine r_iret C E rfl d_Mod_tie_91 (Nat.le_of_ble_eq_true rfl) (Nat.le_of_ble_eq_true rfl) ?_
        exact ⟨by simp [za_tie, hfd], tk, P⟩
      · skip
        refine r_aload_n C d_Mod_tie_14 rfl rfl ?_
        refine r_get C hq_Mod d_Mod_tie_15 (j := 12) (Nat.le_of_ble_eq_true rfl) mf_Mod_133 (mp_0 P) rfl ?_
        refine r_if_eq (tgt := 90) C d_Mod_tie_18 rfl (fun _ => ?_) (fun hz => absurd (bI_0.mpr hfd) hz)
        refine r_iconst (v := (-1)) C d_Mod_tie_90 rfl ?_
        refine r_iret C E rfl d_Mod_tie_91 (Nat.le_of_ble_eq_true rfl) (Nat.le_of_ble_eq_true rfl) ?_
        exact ⟨by simp [za_tie, hfd], tk, P⟩
  | true =>
    have L : ∀ d b f2 tk2, b + d = z_nD s → mPic Y ad s tk2 f2 → za_tie s x y = zt_go s x y d b → hG Y X S_Mod_tie 0 0 f2 [(4, .int (nI (b))), (3, .int (nI (zk_tn s (b)))), (0, .ref (ad 0 0)), (1, .int x), (2, .int y)] [] 5 := by
      intro d
      induction d with
      | zero =>
        intro b f2 tk2 hb P2 hr
        obtain rfl : b = z_nD s := by omega
        refine r_iload C d_Mod_tie_5 rfl ?_
        refine r_aload_n C d_Mod_tie_7 rfl rfl ?_
        refine r_get C hq_Mod d_Mod_tie_8 (j := 8) (Nat.le_of_ble_eq_true rfl) mf_Mod_82 (mp_0 P2) rfl ?_
        refine r_icmp_ge (tgt := 90) C d_Mod_tie_11 rfl (fun _ => ?_) (fun hz => absurd (nI_le (a := z_nD s) (Nat.le_refl _) (by have := N.2.2.1; omega)) hz)
        refine r_iconst (v := (-1)) C d_Mod_tie_90 rfl ?_
        refine r_iret C E rfl d_Mod_tie_91 (Nat.le_of_ble_eq_true rfl) (Nat.le_of_ble_eq_true rfl) ?_
        rw [hr]
        exact ⟨rfl, _, P2⟩
      | succ d ih =>
        intro b f2 tk2 hb P2 hr
        have hb12 : b < 12 := by have := N.2.2.1; omega
        refine r_iload C d_Mod_tie_5 rfl ?_
        refine r_aload_n C d_Mod_tie_7 rfl rfl ?_
        refine r_get C hq_Mod d_Mod_tie_8 (j := 8) (Nat.le_of_ble_eq_true rfl) mf_Mod_82 (mp_0 P2) rfl ?_
        refine r_icmp_ge (tgt := 90) C d_Mod_tie_11 rfl (fun hz => absurd hz (nI_ge (a := b) (b := z_nD s) (by omega) (by have := N.2.2.1; omega))) (fun _ => ?_)
        refine r_aload_n C d_Mod_tie_14 rfl rfl ?_
        refine r_get C hq_Mod d_Mod_tie_15 (j := 12) (Nat.le_of_ble_eq_true rfl) mf_Mod_133 (mp_0 P2) rfl ?_
        refine r_if_eq (tgt := 90) C d_Mod_tie_18 rfl (fun hz => absurd hz (bI_n0.mpr hfd)) (fun _ => ?_)
        refine r_aload_n C d_Mod_tie_21 rfl rfl ?_
        refine r_get C hq_Mod d_Mod_tie_22 (j := 15) (Nat.le_of_ble_eq_true rfl) mf_Mod_42 (mp_0 P2) rfl ?_
        refine r_iload C d_Mod_tie_25 rfl ?_
        refine r_zald (t0 := 2) C d_Mod_tie_27 (mp_winners P2) rfl (rfl) (hb12) (by decide) (rfl) ?_
        refine r_if_ne (tgt := 84) C d_Mod_tie_28 rfl (fun c_28 => ?_) (fun c_28 => ?_)
        · skip
          rw [bI_n0] at c_28
          have e9 : zk_td s b = false := by simp [zk_td, c_28]
          have e8 : zk_tn s b = zk_tn s (b + 1) := by show _ = zk_tn s b + (bif zk_td s b then 1 else 0); rw [e9]; rfl
          have e7 : zt_go s x y (d + 1) b = zt_go s x y d (b + 1) := by
            show (bif zk_td s b && _ then _ else _) = _
            rw [e9]
            rfl
          rw [e8]
          refine r_iinc (v := nI (b + 1)) (lv' := [(4, _), (3, _), (0, _), (1, _), (2, _)]) C d_Mod_tie_84 rfl (nI_1 b) (Nat.le_of_ble_eq_true rfl) rfl ?_
          refine r_goto (tgt := 5) C d_Mod_tie_87 rfl ?_
          refine r_sub [0, 1, 2, 3, 4] rfl ?_
          exact ih (b + 1) f2 _ (by omega) P2 (hr.trans e7)
        · skip
          rw [bI_0] at c_28
          refine r_aload_n C d_Mod_tie_31 rfl rfl ?_
          refine r_get C hq_Mod d_Mod_tie_32 (j := 14) (Nat.le_of_ble_eq_true rfl) mf_Mod_39 (mp_0 P2) rfl ?_
          refine r_iload C d_Mod_tie_35 rfl ?_
          refine r_zald (t0 := 2) C d_Mod_tie_37 (mp_played P2) rfl (rfl) (hb12) (by decide) (rfl) ?_
          refine r_if_eq (tgt := 84) C d_Mod_tie_38 rfl (fun c_38 => ?_) (fun c_38 => ?_)
          · skip
            rw [bI_0] at c_38
            have e9 : zk_td s b = false := by simp [zk_td, c_38]
            have e8 : zk_tn s b = zk_tn s (b + 1) := by show _ = zk_tn s b + (bif zk_td s b then 1 else 0); rw [e9]; rfl
            have e7 : zt_go s x y (d + 1) b = zt_go s x y d (b + 1) := by
              show (bif zk_td s b && _ then _ else _) = _
              rw [e9]
              rfl
            rw [e8]
            refine r_iinc (v := nI (b + 1)) (lv' := [(4, _), (3, _), (0, _), (1, _), (2, _)]) C d_Mod_tie_84 rfl (nI_1 b) (Nat.le_of_ble_eq_true rfl) rfl ?_
            refine r_goto (tgt := 5) C d_Mod_tie_87 rfl ?_
            refine r_sub [0, 1, 2, 3, 4] rfl ?_
            exact ih (b + 1) f2 _ (by omega) P2 (hr.trans e7)
          · skip
            rw [bI_n0] at c_38
            refine r_aload_n C d_Mod_tie_41 rfl rfl ?_
            refine r_iload C d_Mod_tie_42 rfl ?_
            refine r_callV C (m_isTied Y _ P2 N (i := b) (by omega)) mQ_Mod_isTied d_Mod_tie_44 ml_Mod_160 mi_Mod_isTied mv_Mod_isTied (mp_0 P2) rfl rfl rfl rfl (Nat.le_of_ble_eq_true rfl) ⟨⟨Nat.le_of_ble_eq_true rfl, Nat.le_of_ble_eq_true rfl⟩, Nat.le_of_ble_eq_true rfl, Nat.le_of_ble_eq_true rfl⟩ (fun v f3 hp => ?_)
            obtain ⟨rfl, tk3, P3⟩ := hp
            refine r_if_eq (tgt := 84) C d_Mod_tie_47 rfl (fun c_47 => ?_) (fun c_47 => ?_)
            · skip
              rw [bI_0] at c_47
              have e9 : zk_td s b = false := by simp [zk_td, c_47]
              have e8 : zk_tn s b = zk_tn s (b + 1) := by show _ = zk_tn s b + (bif zk_td s b then 1 else 0); rw [e9]; rfl
              have e7 : zt_go s x y (d + 1) b = zt_go s x y d (b + 1) := by
                show (bif zk_td s b && _ then _ else _) = _
                rw [e9]
                rfl
              rw [e8]
              refine r_iinc (v := nI (b + 1)) (lv' := [(4, _), (3, _), (0, _), (1, _), (2, _)]) C d_Mod_tie_84 rfl (nI_1 b) (Nat.le_of_ble_eq_true rfl) rfl ?_
              refine r_goto (tgt := 5) C d_Mod_tie_87 rfl ?_
              refine r_sub [0, 1, 2, 3, 4] rfl ?_
              exact ih (b + 1) f3 _ (by omega) P3 (hr.trans e7)
            · skip
              rw [bI_n0] at c_47
              have e6 : zk_td s b = true := by simp [zk_td, c_28, c_38, c_47]
              refine r_iload_n C d_Mod_tie_50 rfl rfl ?_
              refine r_iload_n C d_Mod_tie_51 rfl rfl ?_
              refine r_icmp_ne (tgt := 81) C d_Mod_tie_52 rfl (fun c_52 => ?_) (fun c_52 => ?_)
              · skip
                have e8 : zk_tn s b + 1 = zk_tn s (b + 1) := by show _ = zk_tn s b + (bif zk_td s b then 1 else 0); rw [e6]; rfl
                have e7 : zt_go s x y (d + 1) b = zt_go s x y d (b + 1) := by
                  show (bif zk_td s b && _ then _ else _) = _
                  rw [e6, decide_eq_false c_52]
                  rfl
                refine r_iinc (v := nI (zk_tn s (b + 1))) (lv' := [(3, _), (4, _), (0, _), (1, _), (2, _)]) C d_Mod_tie_81 rfl (e8 ▸ nI_1 _) (Nat.le_of_ble_eq_true rfl) rfl ?_
                refine r_iinc (v := nI (b + 1)) (lv' := [(4, _), (3, _), (0, _), (1, _), (2, _)]) C d_Mod_tie_84 rfl (nI_1 b) (Nat.le_of_ble_eq_true rfl) rfl ?_
                refine r_goto (tgt := 5) C d_Mod_tie_87 rfl ?_
                refine r_sub [0, 1, 2, 3, 4] rfl ?_
                exact ih (b + 1) f3 _ (by omega) P3 (hr.trans e7)
              · skip
                have e7 : zt_go s x y (d + 1) b = zt_w s b y := by
                  show (bif zk_td s b && _ then _ else _) = _
                  rw [e6, decide_eq_true c_52]
                  rfl
                have hz := hr.trans e7
                refine r_iload_n C d_Mod_tie_55 rfl rfl ?_
                refine r_if_ne (tgt := 64) C d_Mod_tie_56 rfl (fun c_56 => ?_) (fun c_56 => ?_)
                · skip
                  refine r_iload_n C d_Mod_tie_64 rfl rfl ?_
                  refine r_iconst (v := 1) C d_Mod_tie_65 rfl ?_
                  refine r_icmp_ne (tgt := 79) C d_Mod_tie_66 rfl (fun c_66 => ?_) (fun c_66 => ?_)
                  · skip
                    have e5 : zt_w s b y = -1 := by simp [zt_w, c_56, c_66]
                    refine r_iconst (v := (-1)) C d_Mod_tie_79 rfl ?_
                    refine r_iret C E rfl d_Mod_tie_80 (Nat.le_of_ble_eq_true rfl) (Nat.le_of_ble_eq_true rfl) ?_
                    rw [hz, e5]
                    exact ⟨rfl, _, P3⟩
                  · skip
                    have e5 : zt_w s b y = nI (z_ow s b) := by simp [zt_w, c_66]
                    refine r_aload_n C d_Mod_tie_69 rfl rfl ?_
                    refine r_get C hq_Mod d_Mod_tie_70 (j := 9) (Nat.le_of_ble_eq_true rfl) mf_Mod_30 (mp_0 P3) rfl ?_
                    refine r_iload C d_Mod_tie_73 rfl ?_
                    refine r_iald (t0 := 1) C d_Mod_tie_75 (mp_owners P3) rfl (rfl) (hb12) (by decide) (rfl) ?_
                    refine r_goto (tgt := 80) C d_Mod_tie_76 rfl ?_
                    refine r_iret C E rfl d_Mod_tie_80 (Nat.le_of_ble_eq_true rfl) (Nat.le_of_ble_eq_true rfl) ?_
                    rw [hz, e5]
                    exact ⟨rfl, _, P3⟩
                · skip
                  have e5 : zt_w s b y = nI b := by simp [zt_w, c_56]
                  refine r_iload C d_Mod_tie_59 rfl ?_
                  refine r_goto (tgt := 80) C d_Mod_tie_61 rfl ?_
                  refine r_iret C E rfl d_Mod_tie_80 (Nat.le_of_ble_eq_true rfl) (Nat.le_of_ble_eq_true rfl) ?_
                  rw [hz, e5]
                  exact ⟨rfl, _, P3⟩
    exact L (z_nD s) 0 f tk (by omega) P (by simp [za_tie, hfd])

