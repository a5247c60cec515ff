set_option maxHeartbeats 4000000 in
set_option maxRecDepth 100000 in
theorem m_holds (Y : hY) (l : Launch) {ad : Nat → Nat → Nat} {s : zS} {tk : Nat → Bool} {f : hw_F} (P : mPic Y ad s tk f) (N : zN s) {i : Nat} (hi0 : i < z_nD s) (r : Int32) : hM Y l y_Mod_holds S_Mod_holds (some .boolean) [.ref (ad 0 0), .int (nI i), .int r] f (fun v f' => v = some (.int (bI (zh s i r))) ∧ f' = f) := by
  refine hM.of (by decide) rfl (Nat.le_of_ble_eq_true rfl) ?_
  intro X hl hnm C E
  show hG Y X S_Mod_holds 0 0 f [(0, .ref (ad 0 0)), (1, .int (nI i)), (2, .int r)] [] 0
  have hi : i < 12 := by have := N.2.2.1; omega
  have N6 : ∀ k, k < z_nD s → z_ow s k < 6 := fun k h => by have := N.2.2.2.2.1 k h; have := N.2.1; omega
  refine r_iload_n C d_Mod_holds_0 rfl rfl ?_
  refine r_iconst (v := 1) C d_Mod_holds_1 rfl ?_
  refine r_icmp_ne (tgt := 25) C d_Mod_holds_2 rfl (fun c_2 => ?_) (fun c_2 => ?_)
  · skip
    refine r_iload_n C d_Mod_holds_25 rfl rfl ?_
    refine r_iconst (v := 2) C d_Mod_holds_26 rfl ?_
    refine r_icmp_ne (tgt := 50) C d_Mod_holds_27 rfl (fun c_27 => ?_) (fun c_27 => ?_)
    · skip
      refine r_iload_n C d_Mod_holds_50 rfl rfl ?_
      refine r_iconst (v := 3) C d_Mod_holds_51 rfl ?_
      refine r_icmp_ne (tgt := 69) C d_Mod_holds_52 rfl (fun c_52 => ?_) (fun c_52 => ?_)
      · skip
        refine r_iload_n C d_Mod_holds_69 rfl rfl ?_
        refine r_iconst (v := 4) C d_Mod_holds_70 rfl ?_
        refine r_icmp_ne (tgt := 165) C d_Mod_holds_71 rfl (fun c_71 => ?_) (fun c_71 => ?_)
        · skip
          have hz : zh s i r = zh_5 s i := by simp [zh, c_2, c_27, c_52, c_71]
          have L5 : ∀ d j, j + d = z_nD s → hG Y X S_Mod_holds 0 0 f [(4, .int (nI (j))), (3, .int (nI (z_lots s i + zh_n s i (j)))), (0, .ref (ad 0 0)), (1, .int (nI i)), (2, .int r)] [] 174 := by
            intro d
            induction d with
            | zero =>
              intro j hj
              obtain rfl : j = z_nD s := by omega
              refine r_iload C d_Mod_holds_174 rfl ?_
              refine r_aload_n C d_Mod_holds_176 rfl rfl ?_
              refine r_get C hq_Mod d_Mod_holds_177 (j := 8) (Nat.le_of_ble_eq_true rfl) mf_Mod_82 (mp_0 P) rfl ?_
              refine r_icmp_ge (tgt := 228) C d_Mod_holds_180 rfl (fun _ => ?_) (fun hz => absurd (nI_le (a := z_nD s) (Nat.le_refl _) (by have := N.2.2.1; omega)) hz)
              refine r_iload_n C d_Mod_holds_228 rfl rfl ?_
              refine r_aload_n C d_Mod_holds_229 rfl rfl ?_
              refine r_get C hq_Mod d_Mod_holds_230 (j := 5) (Nat.le_of_ble_eq_true rfl) mf_Mod_20 (mp_0 P) rfl ?_
              refine r_aload_n C d_Mod_holds_233 rfl rfl ?_
              refine r_get C hq_Mod d_Mod_holds_234 (j := 9) (Nat.le_of_ble_eq_true rfl) mf_Mod_30 (mp_0 P) rfl ?_
              refine r_iload_n C d_Mod_holds_237 rfl rfl ?_
              refine r_iald (t0 := 1) C d_Mod_holds_238 (mp_owners P) rfl (rfl) (hi) (by decide) (rfl) ?_
              refine r_iald (t0 := 1) C d_Mod_holds_239 (mp_mosts P) rfl (rfl) (N6 i hi0) (by decide) (rfl) ?_
              refine r_icmp_le (tgt := 247) C d_Mod_holds_240 rfl (fun c_240 => ?_) (fun c_240 => ?_)
              · skip
                have e9 : zh_5 s i = false := by simp [zh_5, Int32.not_lt.mpr c_240]
                refine r_iconst (v := 0) C d_Mod_holds_247 rfl ?_
                refine r_zret C E rfl d_Mod_holds_248 (rfl) (Nat.le_of_ble_eq_true rfl) (Nat.le_of_ble_eq_true rfl) ?_
                exact ⟨by rw [hz, e9]; rfl, rfl⟩
              · skip
                have e9 : zh_5 s i = true := by simp [zh_5, Int32.not_le.mp c_240]
                refine r_iconst (v := 1) C d_Mod_holds_243 rfl ?_
                refine r_goto (tgt := 248) C d_Mod_holds_244 rfl ?_
                refine r_zret C E rfl d_Mod_holds_248 (rfl) (Nat.le_of_ble_eq_true rfl) (Nat.le_of_ble_eq_true rfl) ?_
                exact ⟨by rw [hz, e9]; rfl, rfl⟩
            | succ d ih =>
              intro j hj
              have hj12 : j < 12 := by have := N.2.2.1; omega
              refine r_iload C d_Mod_holds_174 rfl ?_
              refine r_aload_n C d_Mod_holds_176 rfl rfl ?_
              refine r_get C hq_Mod d_Mod_holds_177 (j := 8) (Nat.le_of_ble_eq_true rfl) mf_Mod_82 (mp_0 P) rfl ?_
              refine r_icmp_ge (tgt := 228) C d_Mod_holds_180 rfl (fun hz => absurd hz (nI_ge (a := j) (b := z_nD s) (by omega) (by have := N.2.2.1; omega))) (fun _ => ?_)
              refine r_iload_n C d_Mod_holds_183 rfl rfl ?_
              refine r_aload_n C d_Mod_holds_184 rfl rfl ?_
              refine r_get C hq_Mod d_Mod_holds_185 (j := 15) (Nat.le_of_ble_eq_true rfl) mf_Mod_42 (mp_0 P) rfl ?_
              refine r_iload C d_Mod_holds_188 rfl ?_
              refine r_zald (t0 := 2) C d_Mod_holds_190 (mp_winners P) rfl (rfl) (hj12) (by decide) (rfl) ?_
              refine r_if_eq (tgt := 219) C d_Mod_holds_191 rfl (fun c_191 => ?_) (fun c_191 => ?_)
              · skip
                rw [bI_0] at c_191
                have e9 : nI (z_lots s i + zh_n s i (j)) + 0 = nI (z_lots s i + zh_n s i (j + 1)) := by
                  simp [zh_n, zc_sum, c_191]
                refine r_iconst (v := 0) C d_Mod_holds_219 rfl ?_
                refine r_iadd C d_Mod_holds_220 ?_
                refine r_istore_n (lv' := [(3, _), (4, _), (0, _), (1, _), (2, _)]) C d_Mod_holds_221 rfl (Nat.le_of_ble_eq_true rfl) rfl ?_
                rw [e9]
                refine r_iinc (v := nI (j + 1)) (lv' := [(4, _), (3, _), (0, _), (1, _), (2, _)]) C d_Mod_holds_222 rfl (nI_1 j) (Nat.le_of_ble_eq_true rfl) rfl ?_
                refine r_goto (tgt := 174) C d_Mod_holds_225 rfl ?_
                refine r_sub [0, 1, 2, 3, 4] rfl ?_
                exact ih (j + 1) (by omega)
              · skip
                rw [bI_n0] at c_191
                refine r_aload_n C d_Mod_holds_194 rfl rfl ?_
                refine r_get C hq_Mod d_Mod_holds_195 (j := 9) (Nat.le_of_ble_eq_true rfl) mf_Mod_30 (mp_0 P) rfl ?_
                refine r_iload C d_Mod_holds_198 rfl ?_
                refine r_iald (t0 := 1) C d_Mod_holds_200 (mp_owners P) rfl (rfl) (hj12) (by decide) (rfl) ?_
                refine r_aload_n C d_Mod_holds_201 rfl rfl ?_
                refine r_get C hq_Mod d_Mod_holds_202 (j := 9) (Nat.le_of_ble_eq_true rfl) mf_Mod_30 (mp_0 P) rfl ?_
                refine r_iload_n C d_Mod_holds_205 rfl rfl ?_
                refine r_iald (t0 := 1) C d_Mod_holds_206 (mp_owners P) rfl (rfl) (hi) (by decide) (rfl) ?_
                refine r_icmp_ne (tgt := 219) C d_Mod_holds_207 rfl (fun c_207 => ?_) (fun c_207 => ?_)
                · skip
                  have e9 : nI (z_lots s i + zh_n s i (j)) + 0 = nI (z_lots s i + zh_n s i (j + 1)) := by
                    have : z_ow s j ≠ z_ow s i := fun h => c_207 (by show nI (z_ow s j) = nI (z_ow s i); rw [h])
                    simp [zh_n, zc_sum, this]
                  refine r_iconst (v := 0) C d_Mod_holds_219 rfl ?_
                  refine r_iadd C d_Mod_holds_220 ?_
                  refine r_istore_n (lv' := [(3, _), (4, _), (0, _), (1, _), (2, _)]) C d_Mod_holds_221 rfl (Nat.le_of_ble_eq_true rfl) rfl ?_
                  rw [e9]
                  refine r_iinc (v := nI (j + 1)) (lv' := [(4, _), (3, _), (0, _), (1, _), (2, _)]) C d_Mod_holds_222 rfl (nI_1 j) (Nat.le_of_ble_eq_true rfl) rfl ?_
                  refine r_goto (tgt := 174) C d_Mod_holds_225 rfl ?_
                  refine r_sub [0, 1, 2, 3, 4] rfl ?_
                  exact ih (j + 1) (by omega)
                · skip
                  have e9 : nI (z_lots s i + zh_n s i (j)) + nI (z_lots s j) = nI (z_lots s i + zh_n s i (j + 1)) := by
                    have : z_ow s j = z_ow s i := (nI_eq (by have := N6 j (by omega); omega) (by have := N6 i hi0; omega)).mp c_207
                    simp [zh_n, zc_sum, this, c_191, nI_add, Nat.add_assoc]
                  refine r_aload_n C d_Mod_holds_210 rfl rfl ?_
                  refine r_iload C d_Mod_holds_211 rfl ?_
                  refine r_callV C (m_lotsOf Y _ P hj12) mQ_Mod_lotsOf d_Mod_holds_213 ml_Mod_123 mi_Mod_lotsOf mv_Mod_lotsOf (mp_0 P) rfl rfl rfl rfl (Nat.le_of_ble_eq_true rfl) ⟨⟨Nat.le_of_ble_eq_true rfl, Nat.le_of_ble_eq_true rfl⟩, Nat.le_of_ble_eq_true rfl, Nat.le_of_ble_eq_true rfl⟩ (fun v f' hp => ?_)
                  obtain ⟨rfl, hf⟩ := hp
                  replace hf := hf.symm
                  subst hf
                  refine r_goto (tgt := 220) C d_Mod_holds_216 rfl ?_
                  refine r_iadd C d_Mod_holds_220 ?_
                  refine r_istore_n (lv' := [(3, _), (4, _), (0, _), (1, _), (2, _)]) C d_Mod_holds_221 rfl (Nat.le_of_ble_eq_true rfl) rfl ?_
                  rw [e9]
                  refine r_iinc (v := nI (j + 1)) (lv' := [(4, _), (3, _), (0, _), (1, _), (2, _)]) C d_Mod_holds_222 rfl (nI_1 j) (Nat.le_of_ble_eq_true rfl) rfl ?_
                  refine r_goto (tgt := 174) C d_Mod_holds_225 rfl ?_
                  refine r_sub [0, 1, 2, 3, 4] rfl ?_
                  exact ih (j + 1) (by omega)
          refine r_aload_n C d_Mod_holds_165 rfl rfl ?_
          refine r_iload_n C d_Mod_holds_166 rfl rfl ?_
          refine r_callV C (m_lotsOf Y _ P hi) mQ_Mod_lotsOf d_Mod_holds_167 ml_Mod_123 mi_Mod_lotsOf mv_Mod_lotsOf (mp_0 P) rfl rfl rfl rfl (Nat.le_of_ble_eq_true rfl) ⟨⟨Nat.le_of_ble_eq_true rfl, Nat.le_of_ble_eq_true rfl⟩, Nat.le_of_ble_eq_true rfl, Nat.le_of_ble_eq_true rfl⟩ (fun v f' hp => ?_)
          obtain ⟨rfl, hf⟩ := hp
          replace hf := hf.symm
          subst hf
          refine r_istore_n (lv' := [(3, _), (0, _), (1, _), (2, _)]) C d_Mod_holds_170 rfl (Nat.le_of_ble_eq_true rfl) rfl ?_
          refine r_iconst (v := 0) C d_Mod_holds_171 rfl ?_
          refine r_istore (lv' := [(4, _), (3, _), (0, _), (1, _), (2, _)]) C d_Mod_holds_172 (Nat.le_of_ble_eq_true rfl) rfl ?_
          exact L5 (z_nD s) 0 (by omega)
        · skip
          subst c_71
          have hz : zh s i 4 = zh_4 s i := by simp [zh]
          have L4 : ∀ d j, j + d = z_nD s → hG Y X S_Mod_holds 0 0 f [(4, .int (nI (j))), (3, .int (bI (zc_any (fun j => zc_any (fun l => z_w s j && z_h s (8 * j + l) && z_h s (8 * i + l)) (z_nL s)) (j)))), (0, .ref (ad 0 0)), (1, .int (nI i)), (2, .int 4)] [] 79 := by
            intro d
            induction d with
            | zero =>
              intro j hj
              obtain rfl : j = z_nD s := by omega
              refine r_iload C d_Mod_holds_79 rfl ?_
              refine r_aload_n C d_Mod_holds_81 rfl rfl ?_
              refine r_get C hq_Mod d_Mod_holds_82 (j := 8) (Nat.le_of_ble_eq_true rfl) mf_Mod_82 (mp_0 P) rfl ?_
              refine r_icmp_ge (tgt := 163) C d_Mod_holds_85 rfl (fun _ => ?_) (fun hz => absurd (nI_le (a := z_nD s) (Nat.le_refl _) (by have := N.2.2.1; omega)) hz)
              refine r_iload_n C d_Mod_holds_163 rfl rfl ?_
              refine r_zret C E rfl d_Mod_holds_164 (bI_nar _) (Nat.le_of_ble_eq_true rfl) (Nat.le_of_ble_eq_true rfl) ?_
              exact ⟨by rw [hz]; rfl, rfl⟩
            | succ d ih =>
              intro j hj
              have hj12 : j < 12 := by have := N.2.2.1; omega
              have I : ∀ d q, q + d = z_nL s → hG Y X S_Mod_holds 0 0 f [(5, .int (nI (q))), (4, .int (nI j)), (3, .int (bI (zc_any (fun j => zc_any (fun l => z_w s j && z_h s (8 * j + l) && z_h s (8 * i + l)) (z_nL s)) j || zc_any (fun l => z_w s j && z_h s (8 * j + l) && z_h s (8 * i + l)) (q)))), (0, .ref (ad 0 0)), (1, .int (nI i)), (2, .int 4)] [] 91 := by
                intro d
                induction d with
                | zero =>
                  intro q hq
                  obtain rfl : q = z_nL s := by omega
                  refine r_iload C d_Mod_holds_91 rfl ?_
                  refine r_aload_n C d_Mod_holds_93 rfl rfl ?_
                  refine r_get C hq_Mod d_Mod_holds_94 (j := 0) (Nat.le_of_ble_eq_true rfl) mf_Mod_75 (mp_0 P) rfl ?_
                  refine r_icmp_ge (tgt := 157) C d_Mod_holds_97 rfl (fun _ => ?_) (fun hz => absurd (nI_le (a := z_nL s) (Nat.le_refl _) (by have := N.1; omega)) hz)
                  refine r_iinc (v := nI (j + 1)) (lv' := [(4, _), (5, _), (3, _), (0, _), (1, _), (2, _)]) C d_Mod_holds_157 rfl (nI_1 j) (Nat.le_of_ble_eq_true rfl) rfl ?_
                  refine r_goto (tgt := 79) C d_Mod_holds_160 rfl ?_
                  refine r_sub [0, 2, 3, 4, 5] rfl ?_
                  exact ih (j + 1) (by omega)
                | succ d ih2 =>
                  intro q hq
                  have hq8 : q < 8 := by have := N.1; omega
                  refine r_iload C d_Mod_holds_91 rfl ?_
                  refine r_aload_n C d_Mod_holds_93 rfl rfl ?_
                  refine r_get C hq_Mod d_Mod_holds_94 (j := 0) (Nat.le_of_ble_eq_true rfl) mf_Mod_75 (mp_0 P) rfl ?_
                  refine r_icmp_ge (tgt := 157) C d_Mod_holds_97 rfl (fun hz => absurd hz (nI_ge (a := q) (b := z_nL s) (by omega) (by have := N.1; omega))) (fun _ => ?_)
                  refine r_iload_n C d_Mod_holds_100 rfl rfl ?_
                  refine r_if_ne (tgt := 145) C d_Mod_holds_101 rfl (fun c_101 => ?_) (fun c_101 => ?_)
                  · skip
                    rw [bI_n0] at c_101
                    have e9 : (1 : Int32) = bI (zc_any (fun j => zc_any (fun l => z_w s j && z_h s (8 * j + l) && z_h s (8 * i + l)) (z_nL s)) j || zc_any (fun l => z_w s j && z_h s (8 * j + l) && z_h s (8 * i + l)) (q + 1)) := by
                      rw [show zc_any (fun l => z_w s j && z_h s (8 * j + l) && z_h s (8 * i + l)) (q + 1) = (zc_any (fun l => z_w s j && z_h s (8 * j + l) && z_h s (8 * i + l)) q || (fun l => z_w s j && z_h s (8 * j + l) && z_h s (8 * i + l)) q) from rfl]
                      rw [← Bool.or_assoc, c_101]; rfl
                    refine r_iconst (v := 1) C d_Mod_holds_145 rfl ?_
                    refine r_goto (tgt := 150) C d_Mod_holds_146 rfl ?_
                    refine r_istore_n (lv' := [(3, _), (5, _), (4, _), (0, _), (1, _), (2, _)]) C d_Mod_holds_150 rfl (Nat.le_of_ble_eq_true rfl) rfl ?_
                    rw [e9]
                    refine r_iinc (v := nI (q + 1)) (lv' := [(5, _), (3, _), (4, _), (0, _), (1, _), (2, _)]) C d_Mod_holds_151 rfl (nI_1 q) (Nat.le_of_ble_eq_true rfl) rfl ?_
                    refine r_goto (tgt := 91) C d_Mod_holds_154 rfl ?_
                    refine r_sub [0, 2, 1, 3, 4, 5] rfl ?_
                    exact ih2 (q + 1) (by omega)
                  · skip
                    rw [bI_0] at c_101
                    refine r_aload_n C d_Mod_holds_104 rfl rfl ?_
                    refine r_get C hq_Mod d_Mod_holds_105 (j := 15) (Nat.le_of_ble_eq_true rfl) mf_Mod_42 (mp_0 P) rfl ?_
                    refine r_iload C d_Mod_holds_108 rfl ?_
                    refine r_zald (t0 := 2) C d_Mod_holds_110 (mp_winners P) rfl (rfl) (hj12) (by decide) (rfl) ?_
                    refine r_if_eq (tgt := 149) C d_Mod_holds_111 rfl (fun c_111 => ?_) (fun c_111 => ?_)
                    · skip
                      rw [bI_0] at c_111
                      have e9 : (0 : Int32) = bI (zc_any (fun j => zc_any (fun l => z_w s j && z_h s (8 * j + l) && z_h s (8 * i + l)) (z_nL s)) j || zc_any (fun l => z_w s j && z_h s (8 * j + l) && z_h s (8 * i + l)) (q + 1)) := by
                        rw [show zc_any (fun l => z_w s j && z_h s (8 * j + l) && z_h s (8 * i + l)) (q + 1) = (zc_any (fun l => z_w s j && z_h s (8 * j + l) && z_h s (8 * i + l)) q || (fun l => z_w s j && z_h s (8 * j + l) && z_h s (8 * i + l)) q) from rfl]
                        rw [← Bool.or_assoc, c_101]; simp [c_111, bI]
                      refine r_iconst (v := 0) C d_Mod_holds_149 rfl ?_
                      refine r_istore_n (lv' := [(3, _), (5, _), (4, _), (0, _), (1, _), (2, _)]) C d_Mod_holds_150 rfl (Nat.le_of_ble_eq_true rfl) rfl ?_
                      rw [e9]
                      refine r_iinc (v := nI (q + 1)) (lv' := [(5, _), (3, _), (4, _), (0, _), (1, _), (2, _)]) C d_Mod_holds_151 rfl (nI_1 q) (Nat.le_of_ble_eq_true rfl) rfl ?_
                      refine r_goto (tgt := 91) C d_Mod_holds_154 rfl ?_
                      refine r_sub [0, 2, 1, 3, 4, 5] rfl ?_
                      exact ih2 (q + 1) (by omega)
                    · skip
                      rw [bI_n0] at c_111
                      refine r_aload_n C d_Mod_holds_114 rfl rfl ?_
                      refine r_get C hq_Mod d_Mod_holds_115 (j := 11) (Nat.le_of_ble_eq_true rfl) mf_Mod_36 (mp_0 P) rfl ?_
                      refine r_bipush (v := 8) C d_Mod_holds_118 rfl ?_
                      refine r_iload C d_Mod_holds_120 rfl ?_
                      refine r_imul C d_Mod_holds_122 ?_
                      refine r_iload C d_Mod_holds_123 rfl ?_
                      refine r_iadd C d_Mod_holds_125 ?_
                      refine r_zald (t0 := 2) C d_Mod_holds_126 (mp_has P) rfl (ix8 j q) (by omega) (by decide) (rfl) ?_
                      refine r_if_eq (tgt := 149) C d_Mod_holds_127 rfl (fun c_127 => ?_) (fun c_127 => ?_)
                      · skip
                        rw [bI_0] at c_127
                        have e9 : (0 : Int32) = bI (zc_any (fun j => zc_any (fun l => z_w s j && z_h s (8 * j + l) && z_h s (8 * i + l)) (z_nL s)) j || zc_any (fun l => z_w s j && z_h s (8 * j + l) && z_h s (8 * i + l)) (q + 1)) := by
                          rw [show zc_any (fun l => z_w s j && z_h s (8 * j + l) && z_h s (8 * i + l)) (q + 1) = (zc_any (fun l => z_w s j && z_h s (8 * j + l) && z_h s (8 * i + l)) q || (fun l => z_w s j && z_h s (8 * j + l) && z_h s (8 * i + l)) q) from rfl]
                          rw [← Bool.or_assoc, c_101]; simp [c_127, bI]
                        refine r_iconst (v := 0) C d_Mod_holds_149 rfl ?_
                        refine r_istore_n (lv' := [(3, _), (5, _), (4, _), (0, _), (1, _), (2, _)]) C d_Mod_holds_150 rfl (Nat.le_of_ble_eq_true rfl) rfl ?_
                        rw [e9]
                        refine r_iinc (v := nI (q + 1)) (lv' := [(5, _), (3, _), (4, _), (0, _), (1, _), (2, _)]) C d_Mod_holds_151 rfl (nI_1 q) (Nat.le_of_ble_eq_true rfl) rfl ?_
                        refine r_goto (tgt := 91) C d_Mod_holds_154 rfl ?_
                        refine r_sub [0, 2, 1, 3, 4, 5] rfl ?_
                        exact ih2 (q + 1) (by omega)
                      · skip
                        rw [bI_n0] at c_127
                        refine r_aload_n C d_Mod_holds_130 rfl rfl ?_
                        refine r_get C hq_Mod d_Mod_holds_131 (j := 11) (Nat.le_of_ble_eq_true rfl) mf_Mod_36 (mp_0 P) rfl ?_
                        refine r_bipush (v := 8) C d_Mod_holds_134 rfl ?_
                        refine r_iload_n C d_Mod_holds_136 rfl rfl ?_
                        refine r_imul C d_Mod_holds_137 ?_
                        refine r_iload C d_Mod_holds_138 rfl ?_
                        refine r_iadd C d_Mod_holds_140 ?_
                        refine r_zald (t0 := 2) C d_Mod_holds_141 (mp_has P) rfl (ix8 i q) (by omega) (by decide) (rfl) ?_
                        refine r_if_eq (tgt := 149) C d_Mod_holds_142 rfl (fun c_142 => ?_) (fun c_142 => ?_)
                        · skip
                          rw [bI_0] at c_142
                          have e9 : (0 : Int32) = bI (zc_any (fun j => zc_any (fun l => z_w s j && z_h s (8 * j + l) && z_h s (8 * i + l)) (z_nL s)) j || zc_any (fun l => z_w s j && z_h s (8 * j + l) && z_h s (8 * i + l)) (q + 1)) := by
                            rw [show zc_any (fun l => z_w s j && z_h s (8 * j + l) && z_h s (8 * i + l)) (q + 1) = (zc_any (fun l => z_w s j && z_h s (8 * j + l) && z_h s (8 * i + l)) q || (fun l => z_w s j && z_h s (8 * j + l) && z_h s (8 * i + l)) q) from rfl]
                            rw [← Bool.or_assoc, c_101]; simp [c_142, bI]
                          refine r_iconst (v := 0) C d_Mod_holds_149 rfl ?_
                          refine r_istore_n (lv' := [(3, _), (5, _), (4, _), (0, _), (1, _), (2, _)]) C d_Mod_holds_150 rfl (Nat.le_of_ble_eq_true rfl) rfl ?_
                          rw [e9]
                          refine r_iinc (v := nI (q + 1)) (lv' := [(5, _), (3, _), (4, _), (0, _), (1, _), (2, _)]) C d_Mod_holds_151 rfl (nI_1 q) (Nat.le_of_ble_eq_true rfl) rfl ?_
                          refine r_goto (tgt := 91) C d_Mod_holds_154 rfl ?_
                          refine r_sub [0, 2, 1, 3, 4, 5] rfl ?_
                          exact ih2 (q + 1) (by omega)
                        · skip
                          rw [bI_n0] at c_142
                          have e9 : (1 : Int32) = bI (zc_any (fun j => zc_any (fun l => z_w s j && z_h s (8 * j + l) && z_h s (8 * i + l)) (z_nL s)) j || zc_any (fun l => z_w s j && z_h s (8 * j + l) && z_h s (8 * i + l)) (q + 1)) := by
                            rw [show zc_any (fun l => z_w s j && z_h s (8 * j + l) && z_h s (8 * i + l)) (q + 1) = (zc_any (fun l => z_w s j && z_h s (8 * j + l) && z_h s (8 * i + l)) q || (fun l => z_w s j && z_h s (8 * j + l) && z_h s (8 * i + l)) q) from rfl]
                            rw [← Bool.or_assoc, c_101]; simp [c_111, c_127, c_142, bI]
                          refine r_iconst (v := 1) C d_Mod_holds_145 rfl ?_
                          refine r_goto (tgt := 150) C d_Mod_holds_146 rfl ?_
                          refine r_istore_n (lv' := [(3, _), (5, _), (4, _), (0, _), (1, _), (2, _)]) C d_Mod_holds_150 rfl (Nat.le_of_ble_eq_true rfl) rfl ?_
                          rw [e9]
                          refine r_iinc (v := nI (q + 1)) (lv' := [(5, _), (3, _), (4, _), (0, _), (1, _), (2, _)]) C d_Mod_holds_151 rfl (nI_1 q) (Nat.le_of_ble_eq_true rfl) rfl ?_
                          refine r_goto (tgt := 91) C d_Mod_holds_154 rfl ?_
                          refine r_sub [0, 2, 1, 3, 4, 5] rfl ?_
                          exact ih2 (q + 1) (by omega)
              refine r_iload C d_Mod_holds_79 rfl ?_
              refine r_aload_n C d_Mod_holds_81 rfl rfl ?_
              refine r_get C hq_Mod d_Mod_holds_82 (j := 8) (Nat.le_of_ble_eq_true rfl) mf_Mod_82 (mp_0 P) rfl ?_
              refine r_icmp_ge (tgt := 163) C d_Mod_holds_85 rfl (fun hz => absurd hz (nI_ge (a := j) (b := z_nD s) (by omega) (by have := N.2.2.1; omega))) (fun _ => ?_)
              refine r_iconst (v := 0) C d_Mod_holds_88 rfl ?_
              refine r_istore (lv' := [(5, _), (4, _), (3, _), (0, _), (1, _), (2, _)]) C d_Mod_holds_89 (Nat.le_of_ble_eq_true rfl) rfl ?_
              have h9 := I (z_nL s) 0 (by omega)
              rw [show zc_any _ 0 = false from rfl, Bool.or_false] at h9
              exact h9
          refine r_iconst (v := 0) C d_Mod_holds_74 rfl ?_
          refine r_istore_n (lv' := [(3, _), (0, _), (1, _), (2, _)]) C d_Mod_holds_75 rfl (Nat.le_of_ble_eq_true rfl) rfl ?_
          refine r_iconst (v := 0) C d_Mod_holds_76 rfl ?_
          refine r_istore (lv' := [(4, _), (3, _), (0, _), (1, _), (2, _)]) C d_Mod_holds_77 (Nat.le_of_ble_eq_true rfl) rfl ?_
          exact L4 (z_nD s) 0 (by omega)
      · skip
        subst c_52
        refine r_aload_n C d_Mod_holds_55 rfl rfl ?_
        refine r_iload_n C d_Mod_holds_56 rfl rfl ?_
        refine r_callV C (m_lotsOf Y _ P hi) mQ_Mod_lotsOf d_Mod_holds_57 ml_Mod_123 mi_Mod_lotsOf mv_Mod_lotsOf (mp_0 P) rfl rfl rfl rfl (Nat.le_of_ble_eq_true rfl) ⟨⟨Nat.le_of_ble_eq_true rfl, Nat.le_of_ble_eq_true rfl⟩, Nat.le_of_ble_eq_true rfl, Nat.le_of_ble_eq_true rfl⟩ (fun v f' hp => ?_)
        obtain ⟨rfl, hf⟩ := hp
        replace hf := hf.symm
        subst hf
        refine r_if_ne (tgt := 67) C d_Mod_holds_60 rfl (fun c_60 => ?_) (fun c_60 => ?_)
        · skip
          have c60 : ¬ z_lots s i = 0 := fun h => c_60 (by rw [h]; rfl)
          refine r_iconst (v := 0) C d_Mod_holds_67 rfl ?_
          refine r_zret C E rfl d_Mod_holds_68 (rfl) (Nat.le_of_ble_eq_true rfl) (Nat.le_of_ble_eq_true rfl) ?_
          exact ⟨by simp [zh, c60, bI]; try decide, rfl⟩
        · skip
          have c60 : z_lots s i = 0 := (nI_eq (b := 0) (by have := z_lots_le s i; omega) (by decide)).mp c_60
          refine r_iconst (v := 1) C d_Mod_holds_63 rfl ?_
          refine r_goto (tgt := 68) C d_Mod_holds_64 rfl ?_
          refine r_zret C E rfl d_Mod_holds_68 (rfl) (Nat.le_of_ble_eq_true rfl) (Nat.le_of_ble_eq_true rfl) ?_
          exact ⟨by simp [zh, c60, bI]; try decide, rfl⟩
    · skip
      subst c_27
      refine r_aload_n C d_Mod_holds_30 rfl rfl ?_
      refine r_get C hq_Mod d_Mod_holds_31 (j := 3) (Nat.le_of_ble_eq_true rfl) mf_Mod_13 (mp_0 P) rfl ?_
      refine r_aload_n C d_Mod_holds_34 rfl rfl ?_
      refine r_get C hq_Mod d_Mod_holds_35 (j := 9) (Nat.le_of_ble_eq_true rfl) mf_Mod_30 (mp_0 P) rfl ?_
      refine r_iload_n C d_Mod_holds_38 rfl rfl ?_
      refine r_iald (t0 := 1) C d_Mod_holds_39 (mp_owners P) rfl (rfl) (hi) (by decide) (rfl) ?_
      refine r_zald (t0 := 2) C d_Mod_holds_40 (mp_opened P) rfl (rfl) (N6 i hi0) (by decide) (rfl) ?_
      refine r_if_ne (tgt := 48) C d_Mod_holds_41 rfl (fun c_41 => ?_) (fun c_41 => ?_)
      · skip
        rw [bI_n0] at c_41
        refine r_iconst (v := 0) C d_Mod_holds_48 rfl ?_
        refine r_zret C E rfl d_Mod_holds_49 (rfl) (Nat.le_of_ble_eq_true rfl) (Nat.le_of_ble_eq_true rfl) ?_
        exact ⟨by simp [zh, c_41, bI]; try decide, rfl⟩
      · skip
        rw [bI_0] at c_41
        refine r_iconst (v := 1) C d_Mod_holds_44 rfl ?_
        refine r_goto (tgt := 49) C d_Mod_holds_45 rfl ?_
        refine r_zret C E rfl d_Mod_holds_49 (rfl) (Nat.le_of_ble_eq_true rfl) (Nat.le_of_ble_eq_true rfl) ?_
        exact ⟨by simp [zh, c_41, bI]; try decide, rfl⟩
  · skip
    subst c_2
    refine r_aload_n C d_Mod_holds_5 rfl rfl ?_
    refine r_get C hq_Mod d_Mod_holds_6 (j := 2) (Nat.le_of_ble_eq_true rfl) mf_Mod_7 (mp_0 P) rfl ?_
    refine r_aload_n C d_Mod_holds_9 rfl rfl ?_
    refine r_get C hq_Mod d_Mod_holds_10 (j := 9) (Nat.le_of_ble_eq_true rfl) mf_Mod_30 (mp_0 P) rfl ?_
    refine r_iload_n C d_Mod_holds_13 rfl rfl ?_
    refine r_iald (t0 := 1) C d_Mod_holds_14 (mp_owners P) rfl (rfl) (hi) (by decide) (rfl) ?_
    refine r_zald (t0 := 2) C d_Mod_holds_15 (mp_qualified P) rfl (rfl) (N6 i hi0) (by decide) (rfl) ?_
    refine r_if_ne (tgt := 23) C d_Mod_holds_16 rfl (fun c_16 => ?_) (fun c_16 => ?_)
    · skip
      rw [bI_n0] at c_16
      refine r_iconst (v := 0) C d_Mod_holds_23 rfl ?_
      refine r_zret C E rfl d_Mod_holds_24 (rfl) (Nat.le_of_ble_eq_true rfl) (Nat.le_of_ble_eq_true rfl) ?_
      exact ⟨by simp [zh, c_16, bI], rfl⟩
    · skip
      rw [bI_0] at c_16
      refine r_iconst (v := 1) C d_Mod_holds_19 rfl ?_
      refine r_goto (tgt := 24) C d_Mod_holds_20 rfl ?_
      refine r_zret C E rfl d_Mod_holds_24 (rfl) (Nat.le_of_ble_eq_true rfl) (Nat.le_of_ble_eq_true rfl) ?_
      exact ⟨by simp [zh, c_16, bI], rfl⟩

theorem zc_any_of {p : Nat → Bool} {i : Nat} : ∀ {n : Nat}, i < n → p i = true → zc_any p n = true
  | 0, h, _ => absurd h (by omega)
  | n + 1, h, hp => by
    show (zc_any p n || p n) = true
    rcases Nat.lt_or_ge i n with h2 | h2
    · rw [zc_any_of h2 hp]; rfl
    · rw [show i = n by omega] at hp; rw [hp, Bool.or_true]
set_option maxHeartbeats 4000000 in
set_option maxRecDepth 100000 in
theorem m_verdict (Y : hY) (l : Launch) {ad : Nat → Nat → Nat} {s : zS} {tk : Nat → Bool} {f : hw_F} (P : mPic Y ad s tk f) (N : zN s) (x : Int32) : hM Y l y_Mod_verdict S_Mod_verdict (some .int) [.ref (ad 0 0), .int x] f (fun r f' => r = some (.int (za_verd s x)) ∧ f' = f) := by
  refine hM.of (by decide) rfl (Nat.le_of_ble_eq_true rfl) ?_
  intro X hl hnm C E
  show hG Y X S_Mod_verdict 0 0 f [(0, .ref (ad 0 0)), (1, .int x)] [] 0
  refine r_iload_n C d_Mod_verdict_0 rfl rfl ?_
  refine r_if_lt (tgt := 12) C d_Mod_verdict_1 rfl (fun c_1 => ?_) (fun c_1 => ?_)
  · skip
    have hz : za_verd s x = -1 := by simp [za_verd, z_at_neg c_1]
    refine r_iconst (v := (-1)) C d_Mod_verdict_12 rfl ?_
    refine r_iret C E rfl d_Mod_verdict_13 (Nat.le_of_ble_eq_true rfl) (Nat.le_of_ble_eq_true rfl) ?_
    exact ⟨by rw [hz], rfl⟩
  · skip
    refine r_iload_n C d_Mod_verdict_4 rfl rfl ?_
    refine r_aload_n C d_Mod_verdict_5 rfl rfl ?_
    refine r_get C hq_Mod d_Mod_verdict_6 (j := 24) (Nat.le_of_ble_eq_true rfl) mf_Mod_178 (mp_0 P) rfl ?_
    refine r_icmp_lt (tgt := 14) C d_Mod_verdict_9 rfl (fun c_9 => ?_) (fun c_9 => ?_)
    · skip
      obtain ⟨i, hat⟩ : ∃ i, z_at x (z_nP s) = some i := ⟨_, by unfold z_at; exact if_pos ⟨Int32.not_lt.mp c_1, c_9⟩⟩
      obtain ⟨hi, rfl⟩ := z_at_some (by have := N.2.2.2.1; omega) hat
      have hi20 : i < 20 := by have := N.2.2.2.1; omega
      have hd : z_db s i < z_nD s := N.2.2.2.2.2.2 i hi
      have hd12 : z_db s i < 12 := by have := N.2.2.1; omega
      refine r_aload_n C d_Mod_verdict_14 rfl rfl ?_
      refine r_get C hq_Mod d_Mod_verdict_15 (j := 25) (Nat.le_of_ble_eq_true rfl) mf_Mod_66 (mp_0 P) rfl ?_
      refine r_iload_n C d_Mod_verdict_18 rfl rfl ?_
      refine r_iald (t0 := 1) C d_Mod_verdict_19 (mp_disputed P) rfl (rfl) (hi20) (by decide) (rfl) ?_
      refine r_istore_n (lv' := [(2, _), (0, _), (1, _)]) C d_Mod_verdict_20 rfl (Nat.le_of_ble_eq_true rfl) rfl ?_
      refine r_aload_n C d_Mod_verdict_21 rfl rfl ?_
      refine r_get C hq_Mod d_Mod_verdict_22 (j := 15) (Nat.le_of_ble_eq_true rfl) mf_Mod_42 (mp_0 P) rfl ?_
      refine r_iload_n C d_Mod_verdict_25 rfl rfl ?_
      refine r_zald (t0 := 2) C d_Mod_verdict_26 (mp_winners P) rfl (rfl) (hd12) (by decide) (rfl) ?_
      refine r_if_eq (tgt := 32) C d_Mod_verdict_27 rfl (fun c_27 => ?_) (fun c_27 => ?_)
      · skip
        rw [bI_0] at c_27
        refine r_aload_n C d_Mod_verdict_32 rfl rfl ?_
        refine r_get C hq_Mod d_Mod_verdict_33 (j := 26) (Nat.le_of_ble_eq_true rfl) mf_Mod_69 (mp_0 P) rfl ?_
        refine r_iload_n C d_Mod_verdict_36 rfl rfl ?_
        refine r_iald (t0 := 1) C d_Mod_verdict_37 (mp_reasons P) rfl (rfl) (hi20) (by decide) (rfl) ?_
        refine r_bipush (v := 6) C d_Mod_verdict_38 rfl ?_
        refine r_icmp_ge (tgt := 63) C d_Mod_verdict_40 rfl (fun c_40 => ?_) (fun c_40 => ?_)
        · skip
          have hz : za_verd s (nI i) = bI (!zc_any (fun r => zh s (z_db s i) (nI (r + 1))) 5) := by simp [za_verd, hat, c_27, Int32.not_lt.mpr c_40]
          have L : ∀ d j, j + d = 5 → zc_any (fun r => zh s (z_db s i) (nI (r + 1))) j = false → hG Y X S_Mod_verdict 0 0 f [(3, .int (nI (j + 1))), (2, .int (nI (z_db s i))), (0, .ref (ad 0 0)), (1, .int (nI i))] [] 65 := by
            intro d
            induction d with
            | zero =>
              intro j hj hal
              obtain rfl : j = 5 := by omega
              refine r_iload_n C d_Mod_verdict_65 rfl rfl ?_
              refine r_bipush (v := 6) C d_Mod_verdict_66 rfl ?_
              refine r_icmp_ge (tgt := 88) C d_Mod_verdict_68 rfl (fun _ => ?_) (fun hz => absurd (show (6 : Int32) ≤ nI (5 + 1) by decide) hz)
              refine r_iconst (v := 1) C d_Mod_verdict_88 rfl ?_
              refine r_iret C E rfl d_Mod_verdict_89 (Nat.le_of_ble_eq_true rfl) (Nat.le_of_ble_eq_true rfl) ?_
              exact ⟨by rw [hz, hal]; rfl, rfl⟩
            | succ d ih =>
              intro j hj hal
              refine r_iload_n C d_Mod_verdict_65 rfl rfl ?_
              refine r_bipush (v := 6) C d_Mod_verdict_66 rfl ?_
              refine r_icmp_ge (tgt := 88) C d_Mod_verdict_68 rfl (fun hz => absurd hz (nI_ge (a := j + 1) (b := 6) (by omega) (by decide))) (fun _ => ?_)
              refine r_aload_n C d_Mod_verdict_71 rfl rfl ?_
              refine r_iload_n C d_Mod_verdict_72 rfl rfl ?_
              refine r_iload_n C d_Mod_verdict_73 rfl rfl ?_
              refine r_callV C (m_holds Y _ P N hd _) mQ_Mod_holds d_Mod_verdict_74 ml_Mod_181 mi_Mod_holds mv_Mod_holds (mp_0 P) rfl rfl rfl rfl (Nat.le_of_ble_eq_true rfl) ⟨⟨Nat.le_of_ble_eq_true rfl, Nat.le_of_ble_eq_true rfl⟩, Nat.le_of_ble_eq_true rfl, Nat.le_of_ble_eq_true rfl⟩ (fun v f' hp => ?_)
              obtain ⟨rfl, hf⟩ := hp
              replace hf := hf.symm
              subst hf
              refine r_if_eq (tgt := 82) C d_Mod_verdict_77 rfl (fun c_77 => ?_) (fun c_77 => ?_)
              · skip
                rw [bI_0] at c_77
                refine r_iinc (v := nI (j + 1 + 1)) (lv' := [(3, _), (2, _), (0, _), (1, _)]) C d_Mod_verdict_82 rfl (nI_1 (j + 1)) (Nat.le_of_ble_eq_true rfl) rfl ?_
                refine r_goto (tgt := 65) C d_Mod_verdict_85 rfl ?_
                refine r_sub [0, 1, 2, 3] rfl ?_
                exact ih (j + 1) (by omega) (by show (zc_any (fun r => zh s (z_db s i) (nI (r + 1))) j || (fun r => zh s (z_db s i) (nI (r + 1))) j) = false; rw [hal]; exact c_77)
              · skip
                rw [bI_n0] at c_77
                have e9 : zc_any (fun r => zh s (z_db s i) (nI (r + 1))) 5 = true := zc_any_of (i := j) (by omega) c_77
                refine r_iconst (v := 0) C d_Mod_verdict_80 rfl ?_
                refine r_iret C E rfl d_Mod_verdict_81 (Nat.le_of_ble_eq_true rfl) (Nat.le_of_ble_eq_true rfl) ?_
                exact ⟨by rw [hz, e9]; rfl, rfl⟩
          refine r_iconst (v := 1) C d_Mod_verdict_63 rfl ?_
          refine r_istore_n (lv' := [(3, _), (2, _), (0, _), (1, _)]) C d_Mod_verdict_64 rfl (Nat.le_of_ble_eq_true rfl) rfl ?_
          exact L 5 0 rfl rfl
        · skip
          have hz : za_verd s (nI i) = bI (zh s (z_db s i) (z_dr s i)) := by simp [za_verd, hat, c_27, Int32.not_le.mp c_40]
          refine r_aload_n C d_Mod_verdict_43 rfl rfl ?_
          refine r_iload_n C d_Mod_verdict_44 rfl rfl ?_
          refine r_aload_n C d_Mod_verdict_45 rfl rfl ?_
          refine r_get C hq_Mod d_Mod_verdict_46 (j := 26) (Nat.le_of_ble_eq_true rfl) mf_Mod_69 (mp_0 P) rfl ?_
          refine r_iload_n C d_Mod_verdict_49 rfl rfl ?_
          refine r_iald (t0 := 1) C d_Mod_verdict_50 (mp_reasons P) rfl (rfl) (hi20) (by decide) (rfl) ?_
          refine r_callV C (m_holds Y _ P N hd _) mQ_Mod_holds d_Mod_verdict_51 ml_Mod_181 mi_Mod_holds mv_Mod_holds (mp_0 P) rfl rfl rfl rfl (Nat.le_of_ble_eq_true rfl) ⟨⟨Nat.le_of_ble_eq_true rfl, Nat.le_of_ble_eq_true rfl⟩, Nat.le_of_ble_eq_true rfl, Nat.le_of_ble_eq_true rfl⟩ (fun v f' hp => ?_)
          obtain ⟨rfl, hf⟩ := hp
          replace hf := hf.symm
          subst hf
          refine r_if_eq (tgt := 61) C d_Mod_verdict_54 rfl (fun c_54 => ?_) (fun c_54 => ?_)
          · skip
            rw [bI_0] at c_54
            refine r_iconst (v := 0) C d_Mod_verdict_61 rfl ?_
            refine r_iret C E rfl d_Mod_verdict_62 (Nat.le_of_ble_eq_true rfl) (Nat.le_of_ble_eq_true rfl) ?_
            exact ⟨by rw [hz, c_54]; rfl, rfl⟩
          · skip
            rw [bI_n0] at c_54
            refine r_iconst (v := 1) C d_Mod_verdict_57 rfl ?_
            refine r_goto (tgt := 62) C d_Mod_verdict_58 rfl ?_
            refine r_iret C E rfl d_Mod_verdict_62 (Nat.le_of_ble_eq_true rfl) (Nat.le_of_ble_eq_true rfl) ?_
            exact ⟨by rw [hz, c_54]; rfl, rfl⟩
      · skip
        rw [bI_n0] at c_27
        have hz : za_verd s (nI i) = 2 := by simp [za_verd, hat, c_27]
        refine r_iconst (v := 2) C d_Mod_verdict_30 rfl ?_
        refine r_iret C E rfl d_Mod_verdict_31 (Nat.le_of_ble_eq_true rfl) (Nat.le_of_ble_eq_true rfl) ?_
        exact ⟨by rw [hz], rfl⟩
    · skip
      have hz : za_verd s x = -1 := by simp [za_verd, z_at_big c_9]
      refine r_iconst (v := (-1)) C d_Mod_verdict_12 rfl ?_
      refine r_iret C E rfl d_Mod_verdict_13 (Nat.le_of_ble_eq_true rfl) (Nat.le_of_ble_eq_true rfl) ?_
      exact ⟨by rw [hz], rfl⟩

set_option maxHeartbeats 4000000 in
set_option maxRecDepth 100000 in
theorem m_bound (Y : hY) (l : Launch) {ad : Nat → Nat → Nat} {s : zS} {tk : Nat → Bool} {f : hw_F} (P : mPic Y ad s tk f) (N : zN s) : hM Y l y_Mod_bound S_Mod_bound (some .long) [.ref (ad 0 0)] f (fun r f' => r = some (.long (za_bound s)) ∧ f' = f) := by
  refine hM.of (by decide) rfl (Nat.le_of_ble_eq_true rfl) ?_
  intro X hl hnm C E
  show hG Y X S_Mod_bound 0 0 f [(0, .ref (ad 0 0))] [] 0
  have L : ∀ d j, j + d = z_nL s → hG Y X S_Mod_bound 0 0 f [(3, .int (nI (j))), (1, .long (zb_sm s (j))), (0, .ref (ad 0 0))] [] 4 := by
    intro d
    induction d with
    | zero =>
      intro j hj
      obtain rfl : j = z_nL s := by omega
      refine r_iload_n C d_Mod_bound_4 rfl rfl ?_
      refine r_aload_n C d_Mod_bound_5 rfl rfl ?_
      refine r_get C hq_Mod d_Mod_bound_6 (j := 0) (Nat.le_of_ble_eq_true rfl) mf_Mod_75 (mp_0 P) rfl ?_
      refine r_icmp_ge (tgt := 107) C d_Mod_bound_9 rfl (fun _ => ?_) (fun hz => absurd (nI_le (a := z_nL s) (Nat.le_refl _) (by have := N.1; omega)) hz)
      refine r_lload_n C d_Mod_bound_107 rfl rfl ?_
      refine r_lret C E rfl d_Mod_bound_108 (Nat.le_of_ble_eq_true rfl) (Nat.le_of_ble_eq_true rfl) ?_
      exact ⟨rfl, rfl⟩
    | succ d ih =>
      intro j hj
      have hj8 : j < 8 := by have := N.1; omega
      have I : ∀ d q, q + d = z_nD s → hG Y X S_Mod_bound 0 0 f [(6, .int (nI (q))), (4, .long (zb_gr s j (q))), (3, .int (nI j)), (1, .long (zb_sm s j)), (0, .ref (ad 0 0))] [] 18 := by
        intro d
        induction d with
        | zero =>
          intro q hq
          obtain rfl : q = z_nD s := by omega
          refine r_iload C d_Mod_bound_18 rfl ?_
          refine r_aload_n C d_Mod_bound_20 rfl rfl ?_
          refine r_get C hq_Mod d_Mod_bound_21 (j := 8) (Nat.le_of_ble_eq_true rfl) mf_Mod_82 (mp_0 P) rfl ?_
          refine r_icmp_ge (tgt := 96) C d_Mod_bound_24 rfl (fun _ => ?_) (fun hz => absurd (nI_le (a := z_nD s) (Nat.le_refl _) (by have := N.2.2.1; omega)) hz)
          refine r_lload_n C d_Mod_bound_96 rfl rfl ?_
          refine r_lload C d_Mod_bound_97 rfl ?_
          refine r_ladd C d_Mod_bound_99 ?_
          refine r_lstore_n (lv' := [(1, _), (6, _), (4, _), (3, _), (0, _)]) C d_Mod_bound_100 rfl (Nat.le_of_ble_eq_true rfl) rfl ?_
          rw [show zb_sm s j + zb_gr s j (z_nD s) = zb_sm s (j + 1) from rfl]
          refine r_iinc (v := nI (j + 1)) (lv' := [(3, _), (1, _), (6, _), (4, _), (0, _)]) C d_Mod_bound_101 rfl (nI_1 j) (Nat.le_of_ble_eq_true rfl) rfl ?_
          refine r_goto (tgt := 4) C d_Mod_bound_104 rfl ?_
          refine r_sub [0, 1, 4] rfl ?_
          exact ih (j + 1) (by omega)
        | succ d ih2 =>
          intro q hq
          have hq12 : q < 12 := by have := N.2.2.1; omega
          have how : z_ow s q < 6 := by have := N.2.2.2.2.1 q (by omega); have := N.2.1; omega
          refine r_iload C d_Mod_bound_18 rfl ?_
          refine r_aload_n C d_Mod_bound_20 rfl rfl ?_
          refine r_get C hq_Mod d_Mod_bound_21 (j := 8) (Nat.le_of_ble_eq_true rfl) mf_Mod_82 (mp_0 P) rfl ?_
          refine r_icmp_ge (tgt := 96) C d_Mod_bound_24 rfl (fun hz => absurd hz (nI_ge (a := q) (b := z_nD s) (by omega) (by have := N.2.2.1; omega))) (fun _ => ?_)
          refine r_aload_n C d_Mod_bound_27 rfl rfl ?_
          refine r_iload C d_Mod_bound_28 rfl ?_
          refine r_callV C (m_isInPlay Y _ P hq12 how) mQ_Mod_isInPlay d_Mod_bound_30 ml_Mod_130 mi_Mod_isInPlay mv_Mod_isInPlay (mp_0 P) rfl rfl rfl rfl (Nat.le_of_ble_eq_true rfl) ⟨⟨Nat.le_of_ble_eq_true rfl, Nat.le_of_ble_eq_true rfl⟩, Nat.le_of_ble_eq_true rfl, Nat.le_of_ble_eq_true rfl⟩ (fun v f' hp => ?_)
          obtain ⟨rfl, hf⟩ := hp
          replace hf := hf.symm
          subst hf
          refine r_if_eq (tgt := 55) C d_Mod_bound_33 rfl (fun c_33 => ?_) (fun c_33 => ?_)
          · skip
            rw [bI_0] at c_33
            have w9 : ¬ (z_play s q = true ∧ z_h s (8 * q + j) = true) := fun h => by rw [c_33] at h; cases h.1
            refine r_iconst (v := 0) C d_Mod_bound_55 rfl ?_
            refine r_istore (lv' := [(7, _), (6, _), (4, _), (3, _), (1, _), (0, _)]) C d_Mod_bound_56 (Nat.le_of_ble_eq_true rfl) rfl ?_
            refine r_iload C d_Mod_bound_58 rfl ?_
            refine r_if_eq (tgt := 86) C d_Mod_bound_60 rfl (fun _ => ?_) (fun hz => absurd (show (0 : Int32) = 0 from rfl) hz)
            have e9 : zb_gr s j q = zb_gr s j (q + 1) := by
              exact (if_neg (fun h => w9 ⟨h.1, h.2.1⟩)).symm
            refine r_lload C d_Mod_bound_86 rfl ?_
            refine r_lstore (lv' := [(4, _), (7, _), (6, _), (3, _), (1, _), (0, _)]) C d_Mod_bound_88 (Nat.le_of_ble_eq_true rfl) rfl ?_
            rw [e9]
            refine r_iinc (v := nI (q + 1)) (lv' := [(6, _), (4, _), (7, _), (3, _), (1, _), (0, _)]) C d_Mod_bound_90 rfl (nI_1 q) (Nat.le_of_ble_eq_true rfl) rfl ?_
            refine r_goto (tgt := 18) C d_Mod_bound_93 rfl ?_
            refine r_sub [0, 1, 3, 4, 5] rfl ?_
            exact ih2 (q + 1) (by omega)
          · skip
            rw [bI_n0] at c_33
            refine r_aload_n C d_Mod_bound_36 rfl rfl ?_
            refine r_get C hq_Mod d_Mod_bound_37 (j := 11) (Nat.le_of_ble_eq_true rfl) mf_Mod_36 (mp_0 P) rfl ?_
            refine r_bipush (v := 8) C d_Mod_bound_40 rfl ?_
            refine r_iload C d_Mod_bound_42 rfl ?_
            refine r_imul C d_Mod_bound_44 ?_
            refine r_iload_n C d_Mod_bound_45 rfl rfl ?_
            refine r_iadd C d_Mod_bound_46 ?_
            refine r_zald (t0 := 2) C d_Mod_bound_47 (mp_has P) rfl (ix8 q j) (by omega) (by decide) (rfl) ?_
            refine r_if_eq (tgt := 55) C d_Mod_bound_48 rfl (fun c_48 => ?_) (fun c_48 => ?_)
            · skip
              rw [bI_0] at c_48
              have w9 : ¬ (z_play s q = true ∧ z_h s (8 * q + j) = true) := fun h => by rw [c_48] at h; cases h.2
              refine r_iconst (v := 0) C d_Mod_bound_55 rfl ?_
              refine r_istore (lv' := [(7, _), (6, _), (4, _), (3, _), (1, _), (0, _)]) C d_Mod_bound_56 (Nat.le_of_ble_eq_true rfl) rfl ?_
              refine r_iload C d_Mod_bound_58 rfl ?_
              refine r_if_eq (tgt := 86) C d_Mod_bound_60 rfl (fun _ => ?_) (fun hz => absurd (show (0 : Int32) = 0 from rfl) hz)
              have e9 : zb_gr s j q = zb_gr s j (q + 1) := by
                exact (if_neg (fun h => w9 ⟨h.1, h.2.1⟩)).symm
              refine r_lload C d_Mod_bound_86 rfl ?_
              refine r_lstore (lv' := [(4, _), (7, _), (6, _), (3, _), (1, _), (0, _)]) C d_Mod_bound_88 (Nat.le_of_ble_eq_true rfl) rfl ?_
              rw [e9]
              refine r_iinc (v := nI (q + 1)) (lv' := [(6, _), (4, _), (7, _), (3, _), (1, _), (0, _)]) C d_Mod_bound_90 rfl (nI_1 q) (Nat.le_of_ble_eq_true rfl) rfl ?_
              refine r_goto (tgt := 18) C d_Mod_bound_93 rfl ?_
              refine r_sub [0, 1, 3, 4, 5] rfl ?_
              exact ih2 (q + 1) (by omega)
            · skip
              rw [bI_n0] at c_48
              have w9 : z_play s q = true ∧ z_h s (8 * q + j) = true := ⟨c_33, c_48⟩
              refine r_iconst (v := 1) C d_Mod_bound_51 rfl ?_
              refine r_goto (tgt := 56) C d_Mod_bound_52 rfl ?_
              refine r_istore (lv' := [(7, _), (6, _), (4, _), (3, _), (1, _), (0, _)]) C d_Mod_bound_56 (Nat.le_of_ble_eq_true rfl) rfl ?_
              refine r_iload C d_Mod_bound_58 rfl ?_
              refine r_if_eq (tgt := 86) C d_Mod_bound_60 rfl (fun hz => absurd hz (show ¬ (1 : Int32) = 0 by decide)) (fun _ => ?_)
              refine r_aload_n C d_Mod_bound_63 rfl rfl ?_
              refine r_get C hq_Mod d_Mod_bound_64 (j := 10) (Nat.le_of_ble_eq_true rfl) mf_Mod_33 (mp_0 P) rfl ?_
              refine r_iload C d_Mod_bound_67 rfl ?_
              refine r_lald (t0 := 0) C d_Mod_bound_69 (mp_cents P) rfl (rfl) (hq12) (by decide) (rfl) ?_
              refine r_lload C d_Mod_bound_70 rfl ?_
              refine r_lcmp C d_Mod_bound_72 ?_
              refine r_if_le (tgt := 86) C d_Mod_bound_73 rfl (fun c_73 => ?_) (fun c_73 => ?_)
              · skip
                rw [lg_cmp_le] at c_73
                have e9 : zb_gr s j q = zb_gr s j (q + 1) := by
                  simp [zb_gr, Int64.not_lt.mpr c_73]
                refine r_lload C d_Mod_bound_86 rfl ?_
                refine r_lstore (lv' := [(4, _), (7, _), (6, _), (3, _), (1, _), (0, _)]) C d_Mod_bound_88 (Nat.le_of_ble_eq_true rfl) rfl ?_
                rw [e9]
                refine r_iinc (v := nI (q + 1)) (lv' := [(6, _), (4, _), (7, _), (3, _), (1, _), (0, _)]) C d_Mod_bound_90 rfl (nI_1 q) (Nat.le_of_ble_eq_true rfl) rfl ?_
                refine r_goto (tgt := 18) C d_Mod_bound_93 rfl ?_
                refine r_sub [0, 1, 3, 4, 5] rfl ?_
                exact ih2 (q + 1) (by omega)
              · skip
                rw [lg_cmp_le] at c_73
                have e9 : z_c s q = zb_gr s j (q + 1) := by
                  simp [zb_gr, w9.1, w9.2, Int64.not_le.mp c_73]
                refine r_aload_n C d_Mod_bound_76 rfl rfl ?_
                refine r_get C hq_Mod d_Mod_bound_77 (j := 10) (Nat.le_of_ble_eq_true rfl) mf_Mod_33 (mp_0 P) rfl ?_
                refine r_iload C d_Mod_bound_80 rfl ?_
                refine r_lald (t0 := 0) C d_Mod_bound_82 (mp_cents P) rfl (rfl) (hq12) (by decide) (rfl) ?_
                refine r_goto (tgt := 88) C d_Mod_bound_83 rfl ?_
                refine r_lstore (lv' := [(4, _), (7, _), (6, _), (3, _), (1, _), (0, _)]) C d_Mod_bound_88 (Nat.le_of_ble_eq_true rfl) rfl ?_
                rw [e9]
                refine r_iinc (v := nI (q + 1)) (lv' := [(6, _), (4, _), (7, _), (3, _), (1, _), (0, _)]) C d_Mod_bound_90 rfl (nI_1 q) (Nat.le_of_ble_eq_true rfl) rfl ?_
                refine r_goto (tgt := 18) C d_Mod_bound_93 rfl ?_
                refine r_sub [0, 1, 3, 4, 5] rfl ?_
                exact ih2 (q + 1) (by omega)
      refine r_iload_n C d_Mod_bound_4 rfl rfl ?_
      refine r_aload_n C d_Mod_bound_5 rfl rfl ?_
      refine r_get C hq_Mod d_Mod_bound_6 (j := 0) (Nat.le_of_ble_eq_true rfl) mf_Mod_75 (mp_0 P) rfl ?_
      refine r_icmp_ge (tgt := 107) C d_Mod_bound_9 rfl (fun hz => absurd hz (nI_ge (a := j) (b := z_nL s) (by omega) (by have := N.1; omega))) (fun _ => ?_)
      refine r_lconst (v := 0) C d_Mod_bound_12 rfl ?_
      refine r_lstore (lv' := [(4, _), (3, _), (1, _), (0, _)]) C d_Mod_bound_13 (Nat.le_of_ble_eq_true rfl) rfl ?_
      refine r_iconst (v := 0) C d_Mod_bound_15 rfl ?_
      refine r_istore (lv' := [(6, _), (4, _), (3, _), (1, _), (0, _)]) C d_Mod_bound_16 (Nat.le_of_ble_eq_true rfl) rfl ?_
      exact I (z_nD s) 0 (by omega)
  refine r_lconst (v := 0) C d_Mod_bound_0 rfl ?_
  refine r_lstore_n (lv' := [(1, _), (0, _)]) C d_Mod_bound_1 rfl (Nat.le_of_ble_eq_true rfl) rfl ?_
  refine r_iconst (v := 0) C d_Mod_bound_2 rfl ?_
  refine r_istore_n (lv' := [(3, _), (1, _), (0, _)]) C d_Mod_bound_3 rfl (Nat.le_of_ble_eq_true rfl) rfl ?_
  exact L (z_nL s) 0 (by omega)

