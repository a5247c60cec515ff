theorem zr_fp (s : zS) : ∀ n, z_fd (zr_go s n) = true ∧ z_pv (zr_go s n) = true
  | 0 => ⟨rfl, rfl⟩
  | n + 1 => by
    have h := zr_fp s n
    unfold zr_go
    cases hb : (zk_sb (zr_go s n) n.testBit && (decide (z_fs (zr_go s n) < zk_sum (zr_go s n) n.testBit) || (decide (zk_sum (zr_go s n) n.testBit = z_fs (zr_go s n)) && zf_first (zr_go s n) n.testBit))) with
    | true => exact ⟨rfl, rfl⟩
    | false => exact h
theorem zr_cp12 (s : zS) (n : Nat) (tk : Nat → Bool) : zr_cp s (zt n tk 12) 12 = zr_cp s n.testBit 12 := by
  funext k
  unfold zr_cp zt
  by_cases h : k < 12 <;> simp [h]
theorem zr_cp0 (s : zS) (tk : Nat → Bool) : zr_cp s tk 0 = z_w s := by
  funext k
  simp [zr_cp]
theorem zs_pw0 (s : zS) : zs_pw s (zr_pl s 0) (zr_w0 s 0) = s := by
  have h1 : zr_pl s 0 = z_pl s := by funext k; simp [zr_pl]
  have h2 : zr_w0 s 0 = z_w s := by funext k; simp [zr_w0]
  rw [h1, h2]
  rfl
set_option maxHeartbeats 4000000 in
set_option maxRecDepth 100000 in
theorem m_run (Y : hY) (l : Launch) {ad : Nat → Nat → Nat} {s : zS} {tk : Nat → Bool} {f : hw_F} (P : mPic Y ad s tk f) (N : zN s) (v : Int64) : hM Y l y_Mod_run S_Mod_run (some .int) [.ref (ad 0 0), .long v] f (fun r f' => r = some (.int (za_run s v).1) ∧ ∃ tk', mPic Y ad (za_run s v).2 tk' f') := by
  refine hM.of (by decide) rfl (Nat.le_of_ble_eq_true rfl) ?_
  intro X hl hnm C E
  show hG Y X S_Mod_run 0 0 f [(0, .ref (ad 0 0)), (1, .long v)] [] 0
  have hp4 := z_pow N.2.2.1
  have LA : ∀ d j, j + d = z_nD s → hG Y X S_Mod_run 0 0 f [(4, .int (nI (j))), (3, .int (nI (zc_cnt (z_play s) (j)))), (0, .ref (ad 0 0)), (1, .long v)] [] 5 := by
    intro d
    induction d with
    | zero =>
      intro j hj
      obtain rfl : j = z_nD s := by omega
      refine r_iload C d_Mod_run_5 rfl ?_
      refine r_aload_n C d_Mod_run_7 rfl rfl ?_
      refine r_get C hq_Mod d_Mod_run_8 (j := 8) (Nat.le_of_ble_eq_true rfl) mf_Mod_82 (mp_0 P) rfl ?_
      refine r_icmp_ge (tgt := 37) C d_Mod_run_11 rfl (fun _ => ?_) (fun hz => absurd (nI_le (a := z_nD s) (Nat.le_refl _) (by have := N.2.2.1; omega)) hz)
      refine r_lconst (v := 1) C d_Mod_run_37 rfl ?_
      refine r_iload_n C d_Mod_run_38 rfl rfl ?_
      refine r_lshl C d_Mod_run_39 ?_
      refine r_lload_n C d_Mod_run_40 rfl rfl ?_
      refine r_lcmp C d_Mod_run_41 ?_
      refine r_if_le (tgt := 47) C d_Mod_run_42 rfl (fun c_42 => ?_) (fun c_42 => ?_)
      · skip
        rw [lg_cmp_le] at c_42
        have hz : za_run s v = (nI (zc_cnt (z_w (zr_go s (2 ^ z_nD s))) (z_nD s)), (zr_go s (2 ^ z_nD s))) := if_pos c_42
        have LF : ∀ f2 tk2, mPic Y ad (zr_go s (2 ^ z_nD s)) tk2 f2 → ∀ d j, j + d = z_nD s → hG Y X S_Mod_run 0 0 f2 [(5, .int (nI (j))), (4, .int (nI (zc_cnt (z_w (zr_go s (2 ^ z_nD s))) (j)))), (3, .int (nI (zc_cnt (z_play s) (z_nD s)))), (0, .ref (ad 0 0)), (1, .long v)] [] 224 := by
          intro f2 tk2 P2 d
          induction d with
          | zero =>
            intro j hj
            obtain rfl : j = z_nD s := by omega
            refine r_iload C d_Mod_run_224 rfl ?_
            refine r_aload_n C d_Mod_run_226 rfl rfl ?_
            refine r_get C hq_Mod d_Mod_run_227 (j := 8) (Nat.le_of_ble_eq_true rfl) mf_Mod_82 (mp_0 P2) rfl ?_
            rw [zr_nD]
            refine r_icmp_ge (tgt := 259) C d_Mod_run_230 rfl (fun _ => ?_) (fun hz => absurd (nI_le (a := z_nD s) (Nat.le_refl _) (by have := N.2.2.1; omega)) hz)
            refine r_iload C d_Mod_run_259 rfl ?_
            refine r_iret C E rfl d_Mod_run_261 (Nat.le_of_ble_eq_true rfl) (Nat.le_of_ble_eq_true rfl) ?_
            rw [hz]
            exact ⟨rfl, _, P2⟩
          | succ d ih =>
            intro j hj
            have hj12 : j < 12 := by have := N.2.2.1; omega
            refine r_iload C d_Mod_run_224 rfl ?_
            refine r_aload_n C d_Mod_run_226 rfl rfl ?_
            refine r_get C hq_Mod d_Mod_run_227 (j := 8) (Nat.le_of_ble_eq_true rfl) mf_Mod_82 (mp_0 P2) rfl ?_
            rw [zr_nD]
            refine r_icmp_ge (tgt := 259) C d_Mod_run_230 rfl (fun hz => absurd hz (nI_ge (a := j) (b := z_nD s) (by omega) (by have := N.2.2.1; omega))) (fun _ => ?_)
            refine r_iload C d_Mod_run_233 rfl ?_
            refine r_aload_n C d_Mod_run_235 rfl rfl ?_
            refine r_get C hq_Mod d_Mod_run_236 (j := 15) (Nat.le_of_ble_eq_true rfl) mf_Mod_42 (mp_0 P2) rfl ?_
            refine r_iload C d_Mod_run_239 rfl ?_
            refine r_zald (t0 := 2) C d_Mod_run_241 (mp_winners P2) rfl (rfl) (hj12) (by decide) (rfl) ?_
            refine r_if_eq (tgt := 249) C d_Mod_run_242 rfl (fun c_242 => ?_) (fun c_242 => ?_)
            · skip
              rw [bI_0] at c_242
              have e9 : nI (zc_cnt (z_w (zr_go s (2 ^ z_nD s))) j) + 0 = nI (zc_cnt (z_w (zr_go s (2 ^ z_nD s))) (j + 1)) := by simp [zc_cnt, c_242]
              refine r_iconst (v := 0) C d_Mod_run_249 rfl ?_
              refine r_iadd C d_Mod_run_250 ?_
              refine r_istore (lv' := [(4, _), (5, _), (3, _), (0, _), (1, _)]) C d_Mod_run_251 (Nat.le_of_ble_eq_true rfl) rfl ?_
              rw [e9]
              refine r_iinc (v := nI (j + 1)) (lv' := [(5, _), (4, _), (3, _), (0, _), (1, _)]) C d_Mod_run_253 rfl (nI_1 j) (Nat.le_of_ble_eq_true rfl) rfl ?_
              refine r_goto (tgt := 224) C d_Mod_run_256 rfl ?_
              refine r_sub [0, 1, 2, 3, 4] rfl ?_
              exact ih (j + 1) (by omega)
            · skip
              rw [bI_n0] at c_242
              have e9 : nI (zc_cnt (z_w (zr_go s (2 ^ z_nD s))) j) + 1 = nI (zc_cnt (z_w (zr_go s (2 ^ z_nD s))) (j + 1)) := by simp [zc_cnt, c_242, nI_1]
              refine r_iconst (v := 1) C d_Mod_run_245 rfl ?_
              refine r_goto (tgt := 250) C d_Mod_run_246 rfl ?_
              refine r_iadd C d_Mod_run_250 ?_
              refine r_istore (lv' := [(4, _), (5, _), (3, _), (0, _), (1, _)]) C d_Mod_run_251 (Nat.le_of_ble_eq_true rfl) rfl ?_
              rw [e9]
              refine r_iinc (v := nI (j + 1)) (lv' := [(5, _), (4, _), (3, _), (0, _), (1, _)]) C d_Mod_run_253 rfl (nI_1 j) (Nat.le_of_ble_eq_true rfl) rfl ?_
              refine r_goto (tgt := 224) C d_Mod_run_256 rfl ?_
              refine r_sub [0, 1, 2, 3, 4] rfl ?_
              exact ih (j + 1) (by omega)
        have LD : ∀ d n f2 tk2, n + d = 2 ^ z_nD s → mPic Y ad (zr_go s n) tk2 f2 → hG Y X S_Mod_run 0 0 f2 [(4, .int (nI (n))), (3, .int (nI (zc_cnt (z_play s) (z_nD s)))), (0, .ref (ad 0 0)), (1, .long v)] [] 119 := by
          intro d
          induction d with
          | zero =>
            intro n f2 tk2 hn P2
            obtain rfl : n = 2 ^ z_nD s := by omega
            have NN := zr_N N (2 ^ z_nD s)
            refine r_iload C d_Mod_run_119 rfl ?_
            refine r_iconst (v := 1) C d_Mod_run_121 rfl ?_
            refine r_aload_n C d_Mod_run_122 rfl rfl ?_
            refine r_get C hq_Mod d_Mod_run_123 (j := 8) (Nat.le_of_ble_eq_true rfl) mf_Mod_82 (mp_0 P2) rfl ?_
            refine r_ishl C d_Mod_run_126 ?_
            rw [z_shl1 NN.2.2.1, zr_nD]
            refine r_icmp_ge (tgt := 218) C d_Mod_run_127 rfl (fun _ => ?_) (fun hz => absurd (nI_le (a := 2 ^ z_nD s) (Nat.le_refl _) (by omega)) hz)
            refine r_iconst (v := 0) C d_Mod_run_218 rfl ?_
            refine r_istore (lv' := [(4, _), (3, _), (0, _), (1, _)]) C d_Mod_run_219 (Nat.le_of_ble_eq_true rfl) rfl ?_
            refine r_iconst (v := 0) C d_Mod_run_221 rfl ?_
            refine r_istore (lv' := [(5, _), (4, _), (3, _), (0, _), (1, _)]) C d_Mod_run_222 (Nat.le_of_ble_eq_true rfl) rfl ?_
            exact LF f2 tk2 P2 (z_nD s) 0 (by omega)
          | succ d ih =>
            intro n f2 tk2 hn P2
            have NN := zr_N N n
            have hsm : (zk_sum (zr_go s n) (zt n tk2 12)) = zk_sum (zr_go s n) n.testBit := zk_sum_cg (zt_12 NN n tk2)
            have hfi : zf_first (zr_go s n) (zt n tk2 12) = zf_first (zr_go s n) n.testBit := zf_first_cg (zt_12 NN n tk2)
            refine r_iload C d_Mod_run_119 rfl ?_
            refine r_iconst (v := 1) C d_Mod_run_121 rfl ?_
            refine r_aload_n C d_Mod_run_122 rfl rfl ?_
            refine r_get C hq_Mod d_Mod_run_123 (j := 8) (Nat.le_of_ble_eq_true rfl) mf_Mod_82 (mp_0 P2) rfl ?_
            refine r_ishl C d_Mod_run_126 ?_
            rw [z_shl1 NN.2.2.1, zr_nD]
            refine r_icmp_ge (tgt := 218) C d_Mod_run_127 rfl (fun hz => absurd hz (nI_ge (a := n) (b := 2 ^ z_nD s) (by omega) (by omega))) (fun _ => ?_)
            refine r_aload_n C d_Mod_run_130 rfl rfl ?_
            refine r_iload C d_Mod_run_131 rfl ?_
            refine r_callV C (m_take Y _ P2 (n := n) (by omega)) mQ_Mod_take d_Mod_run_133 ml_Mod_140 mi_Mod_take mv_Mod_take (mp_0 P2) rfl rfl rfl rfl (Nat.le_of_ble_eq_true rfl) ⟨⟨Nat.le_of_ble_eq_true rfl, Nat.le_of_ble_eq_true rfl⟩, Nat.le_of_ble_eq_true rfl, Nat.le_of_ble_eq_true rfl⟩ (fun v3 f3 hp => ?_)
            obtain ⟨rfl, P3⟩ := hp
            refine r_aload_n C d_Mod_run_136 rfl rfl ?_
            refine r_callV C (m_isSale Y _ P3 NN) mQ_Mod_isSale d_Mod_run_137 ml_Mod_144 mi_Mod_isSale mv_Mod_isSale (mp_0 P3) rfl rfl rfl rfl (Nat.le_of_ble_eq_true rfl) ⟨⟨Nat.le_of_ble_eq_true rfl, Nat.le_of_ble_eq_true rfl⟩, Nat.le_of_ble_eq_true rfl, Nat.le_of_ble_eq_true rfl⟩ (fun v f' hp => ?_)
            obtain ⟨⟨sb, rfl, hsb⟩, hf⟩ := hp
            replace hf := hf.symm
            subst hf
            have hsb2 := zk_sb_of NN hsb
            refine r_if_eq (tgt := 212) C d_Mod_run_140 rfl (fun c_140 => ?_) (fun c_140 => ?_)
            · skip
              rw [bI_0] at c_140
              have hnx : zr_go s (n + 1) = zr_go s n := by
                show (bif (zk_sb (zr_go s n) n.testBit && (decide (z_fs (zr_go s n) < zk_sum (zr_go s n) n.testBit) || (decide (zk_sum (zr_go s n) n.testBit = z_fs (zr_go s n)) && zf_first (zr_go s n) n.testBit))) then _ else _) = _
                rw [show (zk_sb (zr_go s n) n.testBit && (decide (z_fs (zr_go s n) < zk_sum (zr_go s n) n.testBit) || (decide (zk_sum (zr_go s n) n.testBit = z_fs (zr_go s n)) && zf_first (zr_go s n) n.testBit))) = false from (by rw [hsb2, c_140]; rfl)]
                rfl
              refine r_iinc (v := nI (n + 1)) (lv' := [(4, _), (3, _), (0, _), (1, _)]) C d_Mod_run_212 rfl (nI_1 n) (Nat.le_of_ble_eq_true rfl) rfl ?_
              refine r_goto (tgt := 119) C d_Mod_run_215 rfl ?_
              refine r_sub [0, 1, 2, 3] rfl ?_
              exact ih (n + 1) f3 _ (by omega) (by rw [hnx]; exact P3)
            · skip
              rw [bI_n0] at c_140
              refine r_aload_n C d_Mod_run_143 rfl rfl ?_
              refine r_callV C (m_takenSum Y _ P3 NN) mQ_Mod_takenSum d_Mod_run_144 ml_Mod_148 mi_Mod_takenSum mv_Mod_takenSum (mp_0 P3) rfl rfl rfl rfl (Nat.le_of_ble_eq_true rfl) ⟨⟨Nat.le_of_ble_eq_true rfl, Nat.le_of_ble_eq_true rfl⟩, Nat.le_of_ble_eq_true rfl, Nat.le_of_ble_eq_true rfl⟩ (fun v f' hp => ?_)
              obtain ⟨rfl, hf⟩ := hp
              replace hf := hf.symm
              subst hf
              refine r_aload_n C d_Mod_run_147 rfl rfl ?_
              refine r_get C hq_Mod d_Mod_run_148 (j := 16) (Nat.le_of_ble_eq_true rfl) mf_Mod_136 (mp_0 P3) rfl ?_
              refine r_lcmp C d_Mod_run_151 ?_
              refine r_if_gt (tgt := 174) C d_Mod_run_152 rfl (fun c_152 => ?_) (fun c_152 => ?_)
              · skip
                rw [lg_cmp_gt, hsm] at c_152
                have hnx : zr_go s (n + 1) = zu_run (zr_go s n) (zk_sum (zr_go s n) n.testBit) (z_pl (zr_go s n)) (zr_cp (zr_go s n) n.testBit 12) := by
                  show (bif (zk_sb (zr_go s n) n.testBit && (decide (z_fs (zr_go s n) < zk_sum (zr_go s n) n.testBit) || (decide (zk_sum (zr_go s n) n.testBit = z_fs (zr_go s n)) && zf_first (zr_go s n) n.testBit))) then _ else _) = _
                  rw [show (zk_sb (zr_go s n) n.testBit && (decide (z_fs (zr_go s n) < zk_sum (zr_go s n) n.testBit) || (decide (zk_sum (zr_go s n) n.testBit = z_fs (zr_go s n)) && zf_first (zr_go s n) n.testBit))) = true from (by rw [hsb2, c_140, decide_eq_true c_152]; rfl)]
                  rfl
                refine r_aload_n C d_Mod_run_174 rfl rfl ?_
                refine r_aload_n C d_Mod_run_175 rfl rfl ?_
                refine r_callV C (m_takenSum Y _ P3 NN) mQ_Mod_takenSum d_Mod_run_176 ml_Mod_148 mi_Mod_takenSum mv_Mod_takenSum (mp_0 P3) rfl rfl rfl rfl (Nat.le_of_ble_eq_true rfl) ⟨⟨Nat.le_of_ble_eq_true rfl, Nat.le_of_ble_eq_true rfl⟩, Nat.le_of_ble_eq_true rfl, Nat.le_of_ble_eq_true rfl⟩ (fun v f' hp => ?_)
                obtain ⟨rfl, hf⟩ := hp
                replace hf := hf.symm
                subst hf
                refine r_put C hq_Mod d_Mod_run_179 (j := 16) (fs' := [_, _, _, _, _, _, _, _, _, _, _, _, _, _, _, _, _, _, _, _, _, _, _, _, _, _, _, _]) (Nat.le_of_ble_eq_true rfl) mf_Mod_136 rfl rfl rfl rfl (mp_0 P3) (Nat.le_of_ble_eq_true rfl) rfl ?_
                have hfp := zr_fp s n
                refine r_nw (mPic Y ad (zu_run (zr_go s n) (zk_sum (zr_go s n) (zt n tk2 12)) (z_pl (zr_go s n)) (zr_cp (zr_go s n) (zt n tk2 12) (0))) (zt n tk2 12)) (mEnd (mPut P3 0 (by decide) _) (lt22 (by rw [hfp.1, hfp.2]; rfl) rfl rfl rfl rfl rfl rfl rfl rfl rfl rfl (by show eI (Y.2 2) 12 (fun i => bI (zr_cp (zr_go s n) (zt n tk2 12) 0 i)) = _; rw [zr_cp0]; rfl) rfl rfl rfl rfl rfl rfl rfl rfl rfl rfl)) (fun f4 P4 => ?_)
                have LE : ∀ d q f4, q + d = 12 → mPic Y ad (zu_run (zr_go s n) (zk_sum (zr_go s n) (zt n tk2 12)) (z_pl (zr_go s n)) (zr_cp (zr_go s n) (zt n tk2 12) (q))) (zt n tk2 12) f4 → hG Y X S_Mod_run 0 0 f4 [(5, .int (nI (q))), (4, .int (nI n)), (3, .int (nI (zc_cnt (z_play s) (z_nD s)))), (0, .ref (ad 0 0)), (1, .long v)] [] 185 := by
                  intro d
                  induction d with
                  | zero =>
                    intro q f4 hq P4
                    obtain rfl : q = 12 := by omega
                    refine r_iload C d_Mod_run_185 rfl ?_
                    refine r_bipush (v := 12) C d_Mod_run_187 rfl ?_
                    refine r_icmp_ge (tgt := 212) C d_Mod_run_189 rfl (fun _ => ?_) (fun hz => absurd (show (12 : Int32) ≤ nI 12 by decide) hz)
                    refine r_iinc (v := nI (n + 1)) (lv' := [(4, _), (5, _), (3, _), (0, _), (1, _)]) C d_Mod_run_212 rfl (nI_1 n) (Nat.le_of_ble_eq_true rfl) rfl ?_
                    refine r_goto (tgt := 119) C d_Mod_run_215 rfl ?_
                    refine r_sub [0, 2, 3, 4] rfl ?_
                    exact ih (n + 1) f4 _ (by omega) (by rw [hnx, ← zr_cp12 _ n tk2, ← hsm]; exact P4)
                  | succ d ihE =>
                    intro q f4 hq P4
                    have hq12 : q < 12 := by omega
                    refine r_iload C d_Mod_run_185 rfl ?_
                    refine r_bipush (v := 12) C d_Mod_run_187 rfl ?_
                    refine r_icmp_ge (tgt := 212) C d_Mod_run_189 rfl (fun hz => absurd hz (nI_ge (a := q) (b := 12) (by omega) (by decide))) (fun _ => ?_)
                    refine r_aload_n C d_Mod_run_192 rfl rfl ?_
                    refine r_get C hq_Mod d_Mod_run_193 (j := 15) (Nat.le_of_ble_eq_true rfl) mf_Mod_42 (mp_0 P4) rfl ?_
                    refine r_iload C d_Mod_run_196 rfl ?_
                    refine r_aload_n C d_Mod_run_198 rfl rfl ?_
                    refine r_get C hq_Mod d_Mod_run_199 (j := 27) (Nat.le_of_ble_eq_true rfl) mf_Mod_72 (mp_0 P4) rfl ?_
                    refine r_iload C d_Mod_run_202 rfl ?_
                    refine r_zald (t0 := 2) C d_Mod_run_204 (mp_taken P4) rfl (rfl) (hq12) (by decide) (rfl) ?_
                    refine r_zast (t0 := 2) C d_Mod_run_205 (mp_winners P4) rfl (rfl) (hq12) (by decide) (bI_nar _) ?_
                    refine r_nw (mPic Y ad (zu_run (zr_go s n) (zk_sum (zr_go s n) (zt n tk2 12)) (z_pl (zr_go s n)) (zr_cp (zr_go s n) (zt n tk2 12) (q + 1))) (zt n tk2 12)) (mEnd (mPut P4 11 (by decide) _) (lt22 rfl rfl rfl rfl rfl rfl rfl rfl rfl rfl rfl (by show eI (Y.2 2) 12 (fun i => bI (zr_cp (zr_go s n) (zt n tk2 12) (q + 1) i)) = _; rw [show zr_cp (zr_go s n) (zt n tk2 12) (q + 1) = hv_up (zr_cp (zr_go s n) (zt n tk2 12) q) q ((zt n tk2 12) q) from up_lt _ _ _]; exact congrArg (eI (Y.2 2) 12) (hv_bI _ _ _).symm) rfl rfl rfl rfl rfl rfl rfl rfl rfl rfl)) (fun f5 P5 => ?_)
                    refine r_iinc (v := nI (q + 1)) (lv' := [(5, _), (4, _), (3, _), (0, _), (1, _)]) C d_Mod_run_206 rfl (nI_1 q) (Nat.le_of_ble_eq_true rfl) rfl ?_
                    refine r_goto (tgt := 185) C d_Mod_run_209 rfl ?_
                    refine r_sub [0, 1, 2, 3, 4] rfl ?_
                    exact ihE (q + 1) f5 (by omega) P5
                refine r_iconst (v := 0) C d_Mod_run_182 rfl ?_
                refine r_istore (lv' := [(5, _), (4, _), (3, _), (0, _), (1, _)]) C d_Mod_run_183 (Nat.le_of_ble_eq_true rfl) rfl ?_
                exact LE 12 0 f4 (by omega) P4
              · skip
                rw [lg_cmp_gt, hsm] at c_152
                refine r_aload_n C d_Mod_run_155 rfl rfl ?_
                refine r_callV C (m_takenSum Y _ P3 NN) mQ_Mod_takenSum d_Mod_run_156 ml_Mod_148 mi_Mod_takenSum mv_Mod_takenSum (mp_0 P3) rfl rfl rfl rfl (Nat.le_of_ble_eq_true rfl) ⟨⟨Nat.le_of_ble_eq_true rfl, Nat.le_of_ble_eq_true rfl⟩, Nat.le_of_ble_eq_true rfl, Nat.le_of_ble_eq_true rfl⟩ (fun v f' hp => ?_)
                obtain ⟨rfl, hf⟩ := hp
                replace hf := hf.symm
                subst hf
                refine r_aload_n C d_Mod_run_159 rfl rfl ?_
                refine r_get C hq_Mod d_Mod_run_160 (j := 16) (Nat.le_of_ble_eq_true rfl) mf_Mod_136 (mp_0 P3) rfl ?_
                refine r_lcmp C d_Mod_run_163 ?_
                refine r_if_ne (tgt := 212) C d_Mod_run_164 rfl (fun c_164 => ?_) (fun c_164 => ?_)
                · skip
                  rw [lg_cmp_eq, hsm] at c_164
                  have hnx : zr_go s (n + 1) = zr_go s n := by
                    show (bif (zk_sb (zr_go s n) n.testBit && (decide (z_fs (zr_go s n) < zk_sum (zr_go s n) n.testBit) || (decide (zk_sum (zr_go s n) n.testBit = z_fs (zr_go s n)) && zf_first (zr_go s n) n.testBit))) then _ else _) = _
                    rw [show (zk_sb (zr_go s n) n.testBit && (decide (z_fs (zr_go s n) < zk_sum (zr_go s n) n.testBit) || (decide (zk_sum (zr_go s n) n.testBit = z_fs (zr_go s n)) && zf_first (zr_go s n) n.testBit))) = false from (by rw [decide_eq_false c_152, decide_eq_false c_164]; simp)]
                    rfl
                  refine r_iinc (v := nI (n + 1)) (lv' := [(4, _), (3, _), (0, _), (1, _)]) C d_Mod_run_212 rfl (nI_1 n) (Nat.le_of_ble_eq_true rfl) rfl ?_
                  refine r_goto (tgt := 119) C d_Mod_run_215 rfl ?_
                  refine r_sub [0, 1, 2, 3] rfl ?_
                  exact ih (n + 1) f3 _ (by omega) (by rw [hnx]; exact P3)
                · skip
                  rw [lg_cmp_eq, hsm] at c_164
                  refine r_aload_n C d_Mod_run_167 rfl rfl ?_
                  refine r_callV C (m_isFirst Y _ P3 NN) mQ_Mod_isFirst d_Mod_run_168 ml_Mod_152 mi_Mod_isFirst mv_Mod_isFirst (mp_0 P3) rfl rfl rfl rfl (Nat.le_of_ble_eq_true rfl) ⟨⟨Nat.le_of_ble_eq_true rfl, Nat.le_of_ble_eq_true rfl⟩, Nat.le_of_ble_eq_true rfl, Nat.le_of_ble_eq_true rfl⟩ (fun v f' hp => ?_)
                  obtain ⟨rfl, hf⟩ := hp
                  replace hf := hf.symm
                  subst hf
                  refine r_if_eq (tgt := 212) C d_Mod_run_171 rfl (fun c_171 => ?_) (fun c_171 => ?_)
                  · skip
                    rw [bI_0, hfi] at c_171
                    have hnx : zr_go s (n + 1) = zr_go s n := by
                      show (bif (zk_sb (zr_go s n) n.testBit && (decide (z_fs (zr_go s n) < zk_sum (zr_go s n) n.testBit) || (decide (zk_sum (zr_go s n) n.testBit = z_fs (zr_go s n)) && zf_first (zr_go s n) n.testBit))) then _ else _) = _
                      rw [show (zk_sb (zr_go s n) n.testBit && (decide (z_fs (zr_go s n) < zk_sum (zr_go s n) n.testBit) || (decide (zk_sum (zr_go s n) n.testBit = z_fs (zr_go s n)) && zf_first (zr_go s n) n.testBit))) = false from (by rw [decide_eq_false c_152, c_171]; simp)]
                      rfl
                    refine r_iinc (v := nI (n + 1)) (lv' := [(4, _), (3, _), (0, _), (1, _)]) C d_Mod_run_212 rfl (nI_1 n) (Nat.le_of_ble_eq_true rfl) rfl ?_
                    refine r_goto (tgt := 119) C d_Mod_run_215 rfl ?_
                    refine r_sub [0, 1, 2, 3] rfl ?_
                    exact ih (n + 1) f3 _ (by omega) (by rw [hnx]; exact P3)
                  · skip
                    rw [bI_n0, hfi] at c_171
                    have hnx : zr_go s (n + 1) = zu_run (zr_go s n) (zk_sum (zr_go s n) n.testBit) (z_pl (zr_go s n)) (zr_cp (zr_go s n) n.testBit 12) := by
                      show (bif (zk_sb (zr_go s n) n.testBit && (decide (z_fs (zr_go s n) < zk_sum (zr_go s n) n.testBit) || (decide (zk_sum (zr_go s n) n.testBit = z_fs (zr_go s n)) && zf_first (zr_go s n) n.testBit))) then _ else _) = _
                      rw [show (zk_sb (zr_go s n) n.testBit && (decide (z_fs (zr_go s n) < zk_sum (zr_go s n) n.testBit) || (decide (zk_sum (zr_go s n) n.testBit = z_fs (zr_go s n)) && zf_first (zr_go s n) n.testBit))) = true from (by rw [hsb2, c_140, decide_eq_true c_164, c_171]; simp)]
                      rfl
                    refine r_aload_n C d_Mod_run_174 rfl rfl ?_
                    refine r_aload_n C d_Mod_run_175 rfl rfl ?_
                    refine r_callV C (m_takenSum Y _ P3 NN) mQ_Mod_takenSum d_Mod_run_176 ml_Mod_148 mi_Mod_takenSum mv_Mod_takenSum (mp_0 P3) rfl rfl rfl rfl (Nat.le_of_ble_eq_true rfl) ⟨⟨Nat.le_of_ble_eq_true rfl, Nat.le_of_ble_eq_true rfl⟩, Nat.le_of_ble_eq_true rfl, Nat.le_of_ble_eq_true rfl⟩ (fun v f' hp => ?_)
                    obtain ⟨rfl, hf⟩ := hp
                    replace hf := hf.symm
                    subst hf
                    refine r_put C hq_Mod d_Mod_run_179 (j := 16) (fs' := [_, _, _, _, _, _, _, _, _, _, _, _, _, _, _, _, _, _, _, _, _, _, _, _, _, _, _, _]) (Nat.le_of_ble_eq_true rfl) mf_Mod_136 rfl rfl rfl rfl (mp_0 P3) (Nat.le_of_ble_eq_true rfl) rfl ?_
                    have hfp := zr_fp s n
                    refine r_nw (mPic Y ad (zu_run (zr_go s n) (zk_sum (zr_go s n) (zt n tk2 12)) (z_pl (zr_go s n)) (zr_cp (zr_go s n) (zt n tk2 12) (0))) (zt n tk2 12)) (mEnd (mPut P3 0 (by decide) _) (lt22 (by rw [hfp.1, hfp.2]; rfl) rfl rfl rfl rfl rfl rfl rfl rfl rfl rfl (by show eI (Y.2 2) 12 (fun i => bI (zr_cp (zr_go s n) (zt n tk2 12) 0 i)) = _; rw [zr_cp0]; rfl) rfl rfl rfl rfl rfl rfl rfl rfl rfl rfl)) (fun f4 P4 => ?_)
                    have LE : ∀ d q f4, q + d = 12 → mPic Y ad (zu_run (zr_go s n) (zk_sum (zr_go s n) (zt n tk2 12)) (z_pl (zr_go s n)) (zr_cp (zr_go s n) (zt n tk2 12) (q))) (zt n tk2 12) f4 → hG Y X S_Mod_run 0 0 f4 [(5, .int (nI (q))), (4, .int (nI n)), (3, .int (nI (zc_cnt (z_play s) (z_nD s)))), (0, .ref (ad 0 0)), (1, .long v)] [] 185 := by
                      intro d
                      induction d with
                      | zero =>
                        intro q f4 hq P4
                        obtain rfl : q = 12 := by omega
                        refine r_iload C d_Mod_run_185 rfl ?_
                        refine r_bipush (v := 12) C d_Mod_run_187 rfl ?_
                        refine r_icmp_ge (tgt := 212) C d_Mod_run_189 rfl (fun _ => ?_) (fun hz => absurd (show (12 : Int32) ≤ nI 12 by decide) hz)
                        refine r_iinc (v := nI (n + 1)) (lv' := [(4, _), (5, _), (3, _), (0, _), (1, _)]) C d_Mod_run_212 rfl (nI_1 n) (Nat.le_of_ble_eq_true rfl) rfl ?_
                        refine r_goto (tgt := 119) C d_Mod_run_215 rfl ?_
                        refine r_sub [0, 2, 3, 4] rfl ?_
                        exact ih (n + 1) f4 _ (by omega) (by rw [hnx, ← zr_cp12 _ n tk2, ← hsm]; exact P4)
                      | succ d ihE =>
                        intro q f4 hq P4
                        have hq12 : q < 12 := by omega
                        refine r_iload C d_Mod_run_185 rfl ?_
                        refine r_bipush (v := 12) C d_Mod_run_187 rfl ?_
                        refine r_icmp_ge (tgt := 212) C d_Mod_run_189 rfl (fun hz => absurd hz (nI_ge (a := q) (b := 12) (by omega) (by decide))) (fun _ => ?_)
                        refine r_aload_n C d_Mod_run_192 rfl rfl ?_
                        refine r_get C hq_Mod d_Mod_run_193 (j := 15) (Nat.le_of_ble_eq_true rfl) mf_Mod_42 (mp_0 P4) rfl ?_
                        refine r_iload C d_Mod_run_196 rfl ?_
                        refine r_aload_n C d_Mod_run_198 rfl rfl ?_
                        refine r_get C hq_Mod d_Mod_run_199 (j := 27) (Nat.le_of_ble_eq_true rfl) mf_Mod_72 (mp_0 P4) rfl ?_
                        refine r_iload C d_Mod_run_202 rfl ?_
                        refine r_zald (t0 := 2) C d_Mod_run_204 (mp_taken P4) rfl (rfl) (hq12) (by decide) (rfl) ?_
                        refine r_zast (t0 := 2) C d_Mod_run_205 (mp_winners P4) rfl (rfl) (hq12) (by decide) (bI_nar _) ?_
                        refine r_nw (mPic Y ad (zu_run (zr_go s n) (zk_sum (zr_go s n) (zt n tk2 12)) (z_pl (zr_go s n)) (zr_cp (zr_go s n) (zt n tk2 12) (q + 1))) (zt n tk2 12)) (mEnd (mPut P4 11 (by decide) _) (lt22 rfl rfl rfl rfl rfl rfl rfl rfl rfl rfl rfl (by show eI (Y.2 2) 12 (fun i => bI (zr_cp (zr_go s n) (zt n tk2 12) (q + 1) i)) = _; rw [show zr_cp (zr_go s n) (zt n tk2 12) (q + 1) = hv_up (zr_cp (zr_go s n) (zt n tk2 12) q) q ((zt n tk2 12) q) from up_lt _ _ _]; exact congrArg (eI (Y.2 2) 12) (hv_bI _ _ _).symm) rfl rfl rfl rfl rfl rfl rfl rfl rfl rfl)) (fun f5 P5 => ?_)
                        refine r_iinc (v := nI (q + 1)) (lv' := [(5, _), (4, _), (3, _), (0, _), (1, _)]) C d_Mod_run_206 rfl (nI_1 q) (Nat.le_of_ble_eq_true rfl) rfl ?_
                        refine r_goto (tgt := 185) C d_Mod_run_209 rfl ?_
                        refine r_sub [0, 1, 2, 3, 4] rfl ?_
                        exact ihE (q + 1) f5 (by omega) P5
                    refine r_iconst (v := 0) C d_Mod_run_182 rfl ?_
                    refine r_istore (lv' := [(5, _), (4, _), (3, _), (0, _), (1, _)]) C d_Mod_run_183 (Nat.le_of_ble_eq_true rfl) rfl ?_
                    exact LE 12 0 f4 (by omega) P4
        have LB : ∀ d j f2, j + d = 12 → mPic Y ad (zs_pw s (zr_pl s (j)) (zr_w0 s (j))) tk f2 → hG Y X S_Mod_run 0 0 f2 [(4, .int (nI (j))), (3, .int (nI (zc_cnt (z_play s) (z_nD s)))), (0, .ref (ad 0 0)), (1, .long v)] [] 50 := by
          intro d
          induction d with
          | zero =>
            intro j f2 hj P2
            obtain rfl : j = 12 := by omega
            refine r_iload C d_Mod_run_50 rfl ?_
            refine r_bipush (v := 12) C d_Mod_run_52 rfl ?_
            refine r_icmp_ge (tgt := 101) C d_Mod_run_54 rfl (fun _ => ?_) (fun hz => absurd (show (12 : Int32) ≤ nI 12 by decide) hz)
            refine r_aload_n C d_Mod_run_101 rfl rfl ?_
            refine r_iconst (v := 1) C d_Mod_run_102 rfl ?_
            refine r_put C hq_Mod d_Mod_run_103 (j := 12) (fs' := [_, _, _, _, _, _, _, _, _, _, _, _, _, _, _, _, _, _, _, _, _, _, _, _, _, _, _, _]) (Nat.le_of_ble_eq_true rfl) mf_Mod_133 rfl rfl rfl rfl (mp_0 P2) (Nat.le_of_ble_eq_true rfl) rfl ?_
            refine r_aload_n C d_Mod_run_106 rfl rfl ?_
            refine r_iconst (v := 1) C d_Mod_run_107 rfl ?_
            refine r_put C hq_Mod d_Mod_run_108 (j := 13) (fs' := [_, _, _, _, _, _, _, _, _, _, _, _, _, _, _, _, _, _, _, _, _, _, _, _, _, _, _, _]) (Nat.le_of_ble_eq_true rfl) mf_Mod_87 rfl rfl rfl rfl (hw_us _ _ _) (Nat.le_of_ble_eq_true rfl) rfl ?_
            refine r_aload_n C d_Mod_run_111 rfl rfl ?_
            refine r_lconst (v := 0) C d_Mod_run_112 rfl ?_
            refine r_put C hq_Mod d_Mod_run_113 (j := 16) (fs' := [_, _, _, _, _, _, _, _, _, _, _, _, _, _, _, _, _, _, _, _, _, _, _, _, _, _, _, _]) (Nat.le_of_ble_eq_true rfl) mf_Mod_136 rfl rfl rfl rfl (hw_us _ _ _) (Nat.le_of_ble_eq_true rfl) rfl ?_
            refine r_nw (mPic Y ad (zr_go s 0) tk) (mEnd (mPut (mPut (mPut P2 0 (by decide) _) 0 (by decide) _) 0 (by decide) _) (lt22 rfl rfl rfl rfl rfl rfl rfl rfl rfl rfl rfl rfl rfl rfl rfl rfl rfl rfl rfl rfl rfl rfl)) (fun f3 P3 => ?_)
            refine r_iconst (v := 0) C d_Mod_run_116 rfl ?_
            refine r_istore (lv' := [(4, _), (3, _), (0, _), (1, _)]) C d_Mod_run_117 (Nat.le_of_ble_eq_true rfl) rfl ?_
            exact LD (2 ^ z_nD s) 0 f3 tk (by omega) P3
          | succ d ih =>
            intro j f2 hj P2
            have hj12 : j < 12 := by omega
            refine r_iload C d_Mod_run_50 rfl ?_
            refine r_bipush (v := 12) C d_Mod_run_52 rfl ?_
            refine r_icmp_ge (tgt := 101) C d_Mod_run_54 rfl (fun hz => absurd hz (nI_ge (a := j) (b := 12) (by omega) (by decide))) (fun _ => ?_)
            refine r_aload_n C d_Mod_run_57 rfl rfl ?_
            refine r_get C hq_Mod d_Mod_run_58 (j := 14) (Nat.le_of_ble_eq_true rfl) mf_Mod_39 (mp_0 P2) rfl ?_
            refine r_iload C d_Mod_run_61 rfl ?_
            refine r_iload C d_Mod_run_63 rfl ?_
            refine r_aload_n C d_Mod_run_65 rfl rfl ?_
            refine r_get C hq_Mod d_Mod_run_66 (j := 8) (Nat.le_of_ble_eq_true rfl) mf_Mod_82 (mp_0 P2) rfl ?_
            refine r_icmp_ge (tgt := 85) C d_Mod_run_69 rfl (fun c_69 => ?_) (fun c_69 => ?_)
            · skip
              have c69 : ¬ j < z_nD s := fun h => absurd c_69 (nI_ge (a := j) (b := z_nD s) h (by have := N.2.2.1; omega))
              have e9 : (decide (j < z_nD s) && z_play s j) = false := by simp [c69]
              refine r_iconst (v := 0) C d_Mod_run_85 rfl ?_
              refine r_zast (t0 := 2) C d_Mod_run_86 (mp_played P2) rfl (rfl) (hj12) (by decide) (rfl) ?_
              refine r_aload_n C d_Mod_run_87 rfl rfl ?_
              refine r_get C hq_Mod d_Mod_run_88 (j := 15) (Nat.le_of_ble_eq_true rfl) mf_Mod_42 ((hw_un _ (mNe P2 0 10 (by decide) (by decide) (by decide))).trans (mp_0 P2)) rfl ?_
              refine r_iload C d_Mod_run_91 rfl ?_
              refine r_iconst (v := 0) C d_Mod_run_93 rfl ?_
              refine r_zast (t0 := 2) C d_Mod_run_94 ((hw_un _ (mNe P2 11 10 (by decide) (by decide) (by decide))).trans (mp_winners P2)) rfl (rfl) (hj12) (by decide) (rfl) ?_
              refine r_nw (mPic Y ad (zs_pw s (zr_pl s (j + 1)) (zr_w0 s (j + 1))) tk) (mEnd (mPut (mPut P2 10 (by decide) _) 11 (by decide) _) (lt22 rfl rfl rfl rfl rfl rfl rfl rfl rfl rfl (by show eI (Y.2 2) 12 (fun i => bI (zr_pl s (j + 1) i)) = _; rw [show zr_pl s (j + 1) = hv_up (zr_pl s j) j (decide (j < z_nD s) && z_play s j) from up_lt _ _ _, e9]; exact congrArg (eI (Y.2 2) 12) (hv_bI _ _ _).symm) (by show eI (Y.2 2) 12 (fun i => bI (zr_w0 s (j + 1) i)) = _; rw [show zr_w0 s (j + 1) = hv_up (zr_w0 s j) j false from up_lt _ _ _]; exact congrArg (eI (Y.2 2) 12) (hv_bI _ _ _).symm) rfl rfl rfl rfl rfl rfl rfl rfl rfl rfl)) (fun f3 P3 => ?_)
              refine r_iinc (v := nI (j + 1)) (lv' := [(4, _), (3, _), (0, _), (1, _)]) C d_Mod_run_95 rfl (nI_1 j) (Nat.le_of_ble_eq_true rfl) rfl ?_
              refine r_goto (tgt := 50) C d_Mod_run_98 rfl ?_
              refine r_sub [0, 1, 2, 3] rfl ?_
              exact ih (j + 1) f3 (by omega) P3
            · skip
              have c69 : j < z_nD s := by
                rcases Nat.lt_or_ge j (z_nD s) with h | h
                · exact h
                · exact absurd (nI_le (a := z_nD s) (b := j) h (by omega)) c_69
              refine r_aload_n C d_Mod_run_72 rfl rfl ?_
              refine r_iload C d_Mod_run_73 rfl ?_
              refine r_callV C (m_isInPlay Y _ P2 hj12 (by have := N.2.2.2.2.1 j c69; have := N.2.1; show z_ow s j < 6; omega)) mQ_Mod_isInPlay d_Mod_run_75 ml_Mod_130 mi_Mod_isInPlay mv_Mod_isInPlay (mp_0 P2) rfl rfl rfl rfl (Nat.le_of_ble_eq_true rfl) ⟨⟨Nat.le_of_ble_eq_true rfl, Nat.le_of_ble_eq_true rfl⟩, Nat.le_of_ble_eq_true rfl, Nat.le_of_ble_eq_true rfl⟩ (fun v f' hp => ?_)
              obtain ⟨rfl, hf⟩ := hp
              replace hf := hf.symm
              subst hf
              refine r_if_eq (tgt := 85) C d_Mod_run_78 rfl (fun c_78 => ?_) (fun c_78 => ?_)
              · skip
                have c78 : z_play s j = false := bI_0.mp c_78
                have e9 : (decide (j < z_nD s) && z_play s j) = false := by simp [c78]
                refine r_iconst (v := 0) C d_Mod_run_85 rfl ?_
                refine r_zast (t0 := 2) C d_Mod_run_86 (mp_played P2) rfl (rfl) (hj12) (by decide) (rfl) ?_
                refine r_aload_n C d_Mod_run_87 rfl rfl ?_
                refine r_get C hq_Mod d_Mod_run_88 (j := 15) (Nat.le_of_ble_eq_true rfl) mf_Mod_42 ((hw_un _ (mNe P2 0 10 (by decide) (by decide) (by decide))).trans (mp_0 P2)) rfl ?_
                refine r_iload C d_Mod_run_91 rfl ?_
                refine r_iconst (v := 0) C d_Mod_run_93 rfl ?_
                refine r_zast (t0 := 2) C d_Mod_run_94 ((hw_un _ (mNe P2 11 10 (by decide) (by decide) (by decide))).trans (mp_winners P2)) rfl (rfl) (hj12) (by decide) (rfl) ?_
                refine r_nw (mPic Y ad (zs_pw s (zr_pl s (j + 1)) (zr_w0 s (j + 1))) tk) (mEnd (mPut (mPut P2 10 (by decide) _) 11 (by decide) _) (lt22 rfl rfl rfl rfl rfl rfl rfl rfl rfl rfl (by show eI (Y.2 2) 12 (fun i => bI (zr_pl s (j + 1) i)) = _; rw [show zr_pl s (j + 1) = hv_up (zr_pl s j) j (decide (j < z_nD s) && z_play s j) from up_lt _ _ _, e9]; exact congrArg (eI (Y.2 2) 12) (hv_bI _ _ _).symm) (by show eI (Y.2 2) 12 (fun i => bI (zr_w0 s (j + 1) i)) = _; rw [show zr_w0 s (j + 1) = hv_up (zr_w0 s j) j false from up_lt _ _ _]; exact congrArg (eI (Y.2 2) 12) (hv_bI _ _ _).symm) rfl rfl rfl rfl rfl rfl rfl rfl rfl rfl)) (fun f3 P3 => ?_)
                refine r_iinc (v := nI (j + 1)) (lv' := [(4, _), (3, _), (0, _), (1, _)]) C d_Mod_run_95 rfl (nI_1 j) (Nat.le_of_ble_eq_true rfl) rfl ?_
                refine r_goto (tgt := 50) C d_Mod_run_98 rfl ?_
                refine r_sub [0, 1, 2, 3] rfl ?_
                exact ih (j + 1) f3 (by omega) P3
              · skip
                have c78 : z_play s j = true := bI_n0.mp c_78
                have e9 : (decide (j < z_nD s) && z_play s j) = true := by simp [c69, c78]
                refine r_iconst (v := 1) C d_Mod_run_81 rfl ?_
                refine r_goto (tgt := 86) C d_Mod_run_82 rfl ?_
                refine r_zast (t0 := 2) C d_Mod_run_86 (mp_played P2) rfl (rfl) (hj12) (by decide) (rfl) ?_
                refine r_aload_n C d_Mod_run_87 rfl rfl ?_
                refine r_get C hq_Mod d_Mod_run_88 (j := 15) (Nat.le_of_ble_eq_true rfl) mf_Mod_42 ((hw_un _ (mNe P2 0 10 (by decide) (by decide) (by decide))).trans (mp_0 P2)) rfl ?_
                refine r_iload C d_Mod_run_91 rfl ?_
                refine r_iconst (v := 0) C d_Mod_run_93 rfl ?_
                refine r_zast (t0 := 2) C d_Mod_run_94 ((hw_un _ (mNe P2 11 10 (by decide) (by decide) (by decide))).trans (mp_winners P2)) rfl (rfl) (hj12) (by decide) (rfl) ?_
                refine r_nw (mPic Y ad (zs_pw s (zr_pl s (j + 1)) (zr_w0 s (j + 1))) tk) (mEnd (mPut (mPut P2 10 (by decide) _) 11 (by decide) _) (lt22 rfl rfl rfl rfl rfl rfl rfl rfl rfl rfl (by show eI (Y.2 2) 12 (fun i => bI (zr_pl s (j + 1) i)) = _; rw [show zr_pl s (j + 1) = hv_up (zr_pl s j) j (decide (j < z_nD s) && z_play s j) from up_lt _ _ _, e9]; exact congrArg (eI (Y.2 2) 12) (hv_bI _ _ _).symm) (by show eI (Y.2 2) 12 (fun i => bI (zr_w0 s (j + 1) i)) = _; rw [show zr_w0 s (j + 1) = hv_up (zr_w0 s j) j false from up_lt _ _ _]; exact congrArg (eI (Y.2 2) 12) (hv_bI _ _ _).symm) rfl rfl rfl rfl rfl rfl rfl rfl rfl rfl)) (fun f3 P3 => ?_)
                refine r_iinc (v := nI (j + 1)) (lv' := [(4, _), (3, _), (0, _), (1, _)]) C d_Mod_run_95 rfl (nI_1 j) (Nat.le_of_ble_eq_true rfl) rfl ?_
                refine r_goto (tgt := 50) C d_Mod_run_98 rfl ?_
                refine r_sub [0, 1, 2, 3] rfl ?_
                exact ih (j + 1) f3 (by omega) P3
        refine r_iconst (v := 0) C d_Mod_run_47 rfl ?_
        refine r_istore (lv' := [(4, _), (3, _), (0, _), (1, _)]) C d_Mod_run_48 (Nat.le_of_ble_eq_true rfl) rfl ?_
        exact LB 12 0 f (by omega) (by rw [zs_pw0]; exact P)
      · skip
        rw [lg_cmp_le] at c_42
        have hz : za_run s v = (-1, s) := if_neg c_42
        refine r_iconst (v := (-1)) C d_Mod_run_45 rfl ?_
        refine r_iret C E rfl d_Mod_run_46 (Nat.le_of_ble_eq_true rfl) (Nat.le_of_ble_eq_true rfl) ?_
        rw [hz]
        exact ⟨rfl, tk, P⟩
    | succ d ih =>
      intro j hj
      have hj12 : j < 12 := by have := N.2.2.1; omega
      refine r_iload C d_Mod_run_5 rfl ?_
      refine r_aload_n C d_Mod_run_7 rfl rfl ?_
      refine r_get C hq_Mod d_Mod_run_8 (j := 8) (Nat.le_of_ble_eq_true rfl) mf_Mod_82 (mp_0 P) rfl ?_
      refine r_icmp_ge (tgt := 37) C d_Mod_run_11 rfl (fun hz => absurd hz (nI_ge (a := j) (b := z_nD s) (by omega) (by have := N.2.2.1; omega))) (fun _ => ?_)
      refine r_iload_n C d_Mod_run_14 rfl rfl ?_
      refine r_aload_n C d_Mod_run_15 rfl rfl ?_
      refine r_iload C d_Mod_run_16 rfl ?_
      refine r_callV C (m_isInPlay Y _ P hj12 (by have := N.2.2.2.2.1 j (by omega); have := N.2.1; omega)) mQ_Mod_isInPlay d_Mod_run_18 ml_Mod_130 mi_Mod_isInPlay mv_Mod_isInPlay (mp_0 P) rfl rfl rfl rfl (Nat.le_of_ble_eq_true rfl) ⟨⟨Nat.le_of_ble_eq_true rfl, Nat.le_of_ble_eq_true rfl⟩, Nat.le_of_ble_eq_true rfl, Nat.le_of_ble_eq_true rfl⟩ (fun v f' hp => ?_)
      obtain ⟨rfl, hf⟩ := hp
      replace hf := hf.symm
      subst hf
      refine r_if_eq (tgt := 28) C d_Mod_run_21 rfl (fun c_21 => ?_) (fun c_21 => ?_)
      · skip
        rw [bI_0] at c_21
        have e9 : nI (zc_cnt (z_play s) j) + 0 = nI (zc_cnt (z_play s) (j + 1)) := by simp [zc_cnt, c_21]
        refine r_iconst (v := 0) C d_Mod_run_28 rfl ?_
        refine r_iadd C d_Mod_run_29 ?_
        refine r_istore_n (lv' := [(3, _), (4, _), (0, _), (1, _)]) C d_Mod_run_30 rfl (Nat.le_of_ble_eq_true rfl) rfl ?_
        rw [e9]
        refine r_iinc (v := nI (j + 1)) (lv' := [(4, _), (3, _), (0, _), (1, _)]) C d_Mod_run_31 rfl (nI_1 j) (Nat.le_of_ble_eq_true rfl) rfl ?_
        refine r_goto (tgt := 5) C d_Mod_run_34 rfl ?_
        refine r_sub [0, 1, 2, 3] rfl ?_
        exact ih (j + 1) (by omega)
      · skip
        rw [bI_n0] at c_21
        have e9 : nI (zc_cnt (z_play s) j) + 1 = nI (zc_cnt (z_play s) (j + 1)) := by simp [zc_cnt, c_21, nI_1]
        refine r_iconst (v := 1) C d_Mod_run_24 rfl ?_
        refine r_goto (tgt := 29) C d_Mod_run_25 rfl ?_
        refine r_iadd C d_Mod_run_29 ?_
        refine r_istore_n (lv' := [(3, _), (4, _), (0, _), (1, _)]) C d_Mod_run_30 rfl (Nat.le_of_ble_eq_true rfl) rfl ?_
        rw [e9]
        refine r_iinc (v := nI (j + 1)) (lv' := [(4, _), (3, _), (0, _), (1, _)]) C d_Mod_run_31 rfl (nI_1 j) (Nat.le_of_ble_eq_true rfl) rfl ?_
        refine r_goto (tgt := 5) C d_Mod_run_34 rfl ?_
        refine r_sub [0, 1, 2, 3] rfl ?_
        exact ih (j + 1) (by omega)
  refine r_iconst (v := 0) C d_Mod_run_0 rfl ?_
  refine r_istore_n (lv' := [(3, _), (0, _), (1, _)]) C d_Mod_run_1 rfl (Nat.le_of_ble_eq_true rfl) rfl ?_
  refine r_iconst (v := 0) C d_Mod_run_2 rfl ?_
  refine r_istore (lv' := [(4, _), (3, _), (0, _), (1, _)]) C d_Mod_run_3 (Nat.le_of_ble_eq_true rfl) rfl ?_
  exact LA (z_nD s) 0 (by omega)

