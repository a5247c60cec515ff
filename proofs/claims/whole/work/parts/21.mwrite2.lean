set_option maxHeartbeats 4000000 in
set_option maxRecDepth 100000 in
theorem m_step (Y : hY) (l : Launch) {ad : Nat → Nat → Nat} {s : zS} {tk : Nat → Bool} {f : hw_F} (P : mPic Y ad s tk f) (N : zN s) (x : Int32) (a b c : Int64) : hM Y l y_Mod_step S_Mod_step (some .boolean) [.ref (ad 0 0), .int x, .long a, .long b, .long c] f (fun r f' => r = some (.int (bI (za_step s x a b c).1)) ∧ ∃ tk', mPic Y ad (za_step s x a b c).2 tk' f') := by
  refine hM.of (by decide) rfl (Nat.le_of_ble_eq_true rfl) ?_
  intro X hl hnm C E
  show hG Y X S_Mod_step 0 0 f [(0, .ref (ad 0 0)), (1, .int x), (2, .long a), (4, .long b), (6, .long c)] [] 0
  refine r_aload_n C d_Mod_step_0 rfl rfl ?_
  refine r_iload_n C d_Mod_step_1 rfl rfl ?_
  refine r_callV C (m_isLot Y _ P _) mQ_Mod_isLot d_Mod_step_2 ml_Mod_100 mi_Mod_isLot mv_Mod_isLot (mp_0 P) rfl rfl rfl rfl (Nat.le_of_ble_eq_true rfl) ⟨⟨Nat.le_of_ble_eq_true rfl, Nat.le_of_ble_eq_true rfl⟩, Nat.le_of_ble_eq_true rfl, Nat.le_of_ble_eq_true rfl⟩ (fun v f' hp => ?_)
  obtain ⟨rfl, hf⟩ := hp
  replace hf := hf.symm
  subst hf
  refine r_if_eq (tgt := 46) C d_Mod_step_5 rfl (fun c_5 => ?_) (fun c_5 => ?_)
  · skip
    have hz : za_step s x a b c = (false, s) := by simp [za_step, bS_none c_5]
    refine r_iconst (v := 0) C d_Mod_step_46 rfl ?_
    refine r_zret C E rfl d_Mod_step_47 (rfl) (Nat.le_of_ble_eq_true rfl) (Nat.le_of_ble_eq_true rfl) ?_
    rw [hz]
    exact ⟨rfl, tk, P⟩
  · skip
    obtain ⟨i, hat⟩ := bS_some c_5
    obtain ⟨hi, rfl⟩ := z_at_some (by have := N.1; omega) hat
    have hi8 : i < 8 := by have := N.1; omega
    refine r_lload_n C d_Mod_step_8 rfl rfl ?_
    refine r_lload C d_Mod_step_9 rfl ?_
    refine r_callS C (m_isShare Y _ _ _ _) mQ_Mod_isShare d_Mod_step_11 ml_Mod_165 mt_Mod_isShare rfl rfl (Nat.le_of_ble_eq_true rfl) ⟨⟨Nat.le_of_ble_eq_true rfl, Nat.le_of_ble_eq_true rfl⟩, Nat.le_of_ble_eq_true rfl, Nat.le_of_ble_eq_true rfl⟩ (fun v f' hp => ?_)
    obtain ⟨rfl, hf⟩ := hp
    replace hf := hf.symm
    subst hf
    refine r_if_eq (tgt := 46) C d_Mod_step_14 rfl (fun c_14 => ?_) (fun c_14 => ?_)
    · skip
      rw [bI_0] at c_14
      have hz : za_step s (nI i) a b c = (false, s) := by
        simp only [za_step, hat]
        exact if_neg (fun h => by rw [c_14] at h; exact absurd h.1 (by decide))
      refine r_iconst (v := 0) C d_Mod_step_46 rfl ?_
      refine r_zret C E rfl d_Mod_step_47 (rfl) (Nat.le_of_ble_eq_true rfl) (Nat.le_of_ble_eq_true rfl) ?_
      rw [hz]
      exact ⟨rfl, tk, P⟩
    · skip
      rw [bI_n0] at c_14
      refine r_lload C d_Mod_step_17 rfl ?_
      refine r_ldc2 C d_Mod_step_19 mn_Mod_169 ?_
      refine r_lcmp C d_Mod_step_22 ?_
      refine r_if_lt (tgt := 46) C d_Mod_step_23 rfl (fun c_23 => ?_) (fun c_23 => ?_)
      · skip
        rw [lg_cmp_lt] at c_23
        have hz : za_step s (nI i) a b c = (false, s) := by
          simp only [za_step, hat]
          exact if_neg (fun h => by rw [k_inF1 c_23] at h; exact absurd h.2.1 (by decide))
        refine r_iconst (v := 0) C d_Mod_step_46 rfl ?_
        refine r_zret C E rfl d_Mod_step_47 (rfl) (Nat.le_of_ble_eq_true rfl) (Nat.le_of_ble_eq_true rfl) ?_
        rw [hz]
        exact ⟨rfl, tk, P⟩
      · skip
        rw [lg_cmp_lt] at c_23
        refine r_lload C d_Mod_step_26 rfl ?_
        refine r_ldc2 C d_Mod_step_28 mn_Mod_171 ?_
        refine r_lcmp C d_Mod_step_31 ?_
        refine r_if_gt (tgt := 46) C d_Mod_step_32 rfl (fun c_32 => ?_) (fun c_32 => ?_)
        · skip
          rw [lg_cmp_gt] at c_32
          have hz : za_step s (nI i) a b c = (false, s) := by
            simp only [za_step, hat]
            exact if_neg (fun h => by rw [k_inF2 (v := c) (Int64.not_le.mpr c_32)] at h; exact absurd h.2.1 (by decide))
          refine r_iconst (v := 0) C d_Mod_step_46 rfl ?_
          refine r_zret C E rfl d_Mod_step_47 (rfl) (Nat.le_of_ble_eq_true rfl) (Nat.le_of_ble_eq_true rfl) ?_
          rw [hz]
          exact ⟨rfl, tk, P⟩
        · skip
          rw [lg_cmp_gt] at c_32
          refine r_aload_n C d_Mod_step_35 rfl rfl ?_
          refine r_get C hq_Mod d_Mod_step_36 (j := 17) (Nat.le_of_ble_eq_true rfl) mf_Mod_45 (mp_0 P) rfl ?_
          refine r_iload_n C d_Mod_step_39 rfl rfl ?_
          refine r_iald (t0 := 1) C d_Mod_step_40 (mp_stepCounts P) rfl (rfl) (hi8) (by decide) (rfl) ?_
          refine r_bipush (v := 6) C d_Mod_step_41 rfl ?_
          refine r_icmp_ne (tgt := 48) C d_Mod_step_43 rfl (fun c_43 => ?_) (fun c_43 => ?_)
          · skip
            have c43 : z_sn s i < 6 := by
              have h1 := N.2.2.2.2.2.1 i
              rcases Nat.lt_or_ge (z_sn s i) 6 with h | h
              · exact h
              · exact absurd (show nI (z_sn s i) = 6 by rw [show z_sn s i = 6 by omega]; rfl) c_43
            refine r_bipush (v := 6) C d_Mod_step_48 rfl ?_
            refine r_iload_n C d_Mod_step_50 rfl rfl ?_
            refine r_imul C d_Mod_step_51 ?_
            refine r_aload_n C d_Mod_step_52 rfl rfl ?_
            refine r_get C hq_Mod d_Mod_step_53 (j := 17) (Nat.le_of_ble_eq_true rfl) mf_Mod_45 (mp_0 P) rfl ?_
            refine r_iload_n C d_Mod_step_56 rfl rfl ?_
            refine r_iald (t0 := 1) C d_Mod_step_57 (mp_stepCounts P) rfl (rfl) (hi8) (by decide) (rfl) ?_
            refine r_iadd C d_Mod_step_58 ?_
            rw [ix6]
            refine r_istore (lv' := [(8, _), (0, _), (1, _), (2, _), (4, _), (6, _)]) C d_Mod_step_59 (Nat.le_of_ble_eq_true rfl) rfl ?_
            refine r_aload_n C d_Mod_step_61 rfl rfl ?_
            refine r_get C hq_Mod d_Mod_step_62 (j := 17) (Nat.le_of_ble_eq_true rfl) mf_Mod_45 (mp_0 P) rfl ?_
            refine r_iload_n C d_Mod_step_65 rfl rfl ?_
            refine r_iald (t0 := 1) C d_Mod_step_66 (mp_stepCounts P) rfl (rfl) (hi8) (by decide) (rfl) ?_
            refine r_if_le (tgt := 99) C d_Mod_step_67 rfl (fun c_67 => ?_) (fun c_67 => ?_)
            · skip
              have c67 : z_sn s i = 0 := by
                rcases Nat.eq_zero_or_pos (z_sn s i) with h | h
                · exact h
                · exact absurd c_67 (nI_nle h (by omega))
              have hz : za_step s (nI i) a b c = (true, zu_step s i a b c) := by
                simp only [za_step, hat]
                exact if_pos ⟨c_14, k_inT c_23 (Int64.not_lt.mp c_32), c43, Or.inl c67⟩
              refine r_aload_n C d_Mod_step_99 rfl rfl ?_
              refine r_get C hq_Mod d_Mod_step_100 (j := 18) (Nat.le_of_ble_eq_true rfl) mf_Mod_48 (mp_0 P) rfl ?_
              refine r_iload C d_Mod_step_103 rfl ?_
              refine r_lload_n C d_Mod_step_105 rfl rfl ?_
              refine r_last (t0 := 0) C d_Mod_step_106 (mp_stepAbove P) rfl (rfl) (by omega) (by decide) ?_
              refine r_aload_n C d_Mod_step_107 rfl rfl ?_
              refine r_get C hq_Mod d_Mod_step_108 (j := 19) (Nat.le_of_ble_eq_true rfl) mf_Mod_51 ((hw_un _ (mNe P 0 13 (by decide) (by decide) (by decide))).trans (mp_0 P)) rfl ?_
              refine r_iload C d_Mod_step_111 rfl ?_
              refine r_lload C d_Mod_step_113 rfl ?_
              refine r_last (t0 := 0) C d_Mod_step_115 ((hw_un _ (mNe P 14 13 (by decide) (by decide) (by decide))).trans (mp_stepBelow P)) rfl (rfl) (by omega) (by decide) ?_
              refine r_aload_n C d_Mod_step_116 rfl rfl ?_
              refine r_get C hq_Mod d_Mod_step_117 (j := 20) (Nat.le_of_ble_eq_true rfl) mf_Mod_54 ((hw_un _ (mNe P 0 14 (by decide) (by decide) (by decide))).trans ((hw_un _ (mNe P 0 13 (by decide) (by decide) (by decide))).trans (mp_0 P))) rfl ?_
              refine r_iload C d_Mod_step_120 rfl ?_
              refine r_lload C d_Mod_step_122 rfl ?_
              refine r_last (t0 := 0) C d_Mod_step_124 ((hw_un _ (mNe P 15 14 (by decide) (by decide) (by decide))).trans ((hw_un _ (mNe P 15 13 (by decide) (by decide) (by decide))).trans (mp_stepCents P))) rfl (rfl) (by omega) (by decide) ?_
              refine r_aload_n C d_Mod_step_125 rfl rfl ?_
              refine r_get C hq_Mod d_Mod_step_126 (j := 17) (Nat.le_of_ble_eq_true rfl) mf_Mod_45 ((hw_un _ (mNe P 0 15 (by decide) (by decide) (by decide))).trans ((hw_un _ (mNe P 0 14 (by decide) (by decide) (by decide))).trans ((hw_un _ (mNe P 0 13 (by decide) (by decide) (by decide))).trans (mp_0 P)))) rfl ?_
              refine r_iload_n C d_Mod_step_129 rfl rfl ?_
              refine r_dup2_11 C d_Mod_step_130 rfl rfl ?_
              refine r_iald (t0 := 1) C d_Mod_step_131 ((hw_un _ (mNe P 12 15 (by decide) (by decide) (by decide))).trans ((hw_un _ (mNe P 12 14 (by decide) (by decide) (by decide))).trans ((hw_un _ (mNe P 12 13 (by decide) (by decide) (by decide))).trans (mp_stepCounts P)))) rfl (rfl) (hi8) (by decide) (rfl) ?_
              refine r_iconst (v := 1) C d_Mod_step_132 rfl ?_
              refine r_iadd C d_Mod_step_133 ?_
              rw [nI_1]
              refine r_iast (t0 := 1) C d_Mod_step_134 ((hw_un _ (mNe P 12 15 (by decide) (by decide) (by decide))).trans ((hw_un _ (mNe P 12 14 (by decide) (by decide) (by decide))).trans ((hw_un _ (mNe P 12 13 (by decide) (by decide) (by decide))).trans (mp_stepCounts P)))) rfl (rfl) (hi8) (by decide) ?_
              refine r_aload_n C d_Mod_step_135 rfl rfl ?_
              refine r_iconst (v := 0) C d_Mod_step_136 rfl ?_
              refine r_put C hq_Mod d_Mod_step_137 (j := 13) (fs' := [_, _, _, _, _, _, _, _, _, _, _, _, _, _, _, _, _, _, _, _, _, _, _, _, _, _, _, _]) (Nat.le_of_ble_eq_true rfl) mf_Mod_87 rfl rfl rfl rfl ((hw_un _ (mNe P 0 12 (by decide) (by decide) (by decide))).trans ((hw_un _ (mNe P 0 15 (by decide) (by decide) (by decide))).trans ((hw_un _ (mNe P 0 14 (by decide) (by decide) (by decide))).trans ((hw_un _ (mNe P 0 13 (by decide) (by decide) (by decide))).trans (mp_0 P))))) (Nat.le_of_ble_eq_true rfl) rfl ?_
              refine r_iconst (v := 1) C d_Mod_step_140 rfl ?_
              refine r_zret C E rfl d_Mod_step_141 (rfl) (Nat.le_of_ble_eq_true rfl) (Nat.le_of_ble_eq_true rfl) ?_
              rw [hz]
              exact ⟨rfl, tk, mEnd (mPut (mPut (mPut (mPut (mPut P 13 (by decide) _) 14 (by decide) _) 15 (by decide) _) 12 (by decide) _) 0 (by decide) _) (lt22 rfl rfl rfl rfl rfl rfl rfl rfl rfl rfl rfl rfl (congrArg (eI (Y.2 1) 8) (hv_nI _ _ _).symm) rfl rfl rfl rfl rfl rfl rfl rfl rfl)⟩
            · skip
              obtain ⟨w, hw⟩ : ∃ w, z_sn s i = w + 1 := ⟨z_sn s i - 1, by
                rcases Nat.eq_zero_or_pos (z_sn s i) with h | h
                · rw [h] at c_67; exact absurd (show nI 0 ≤ 0 by decide) c_67
                · omega⟩
              have e6 : nI (6 * i + z_sn s i) - 1 = nI (6 * i + z_sn s i - 1) := by rw [hw, ← Nat.add_assoc, nI_m1]; rfl
              refine r_lload_n C d_Mod_step_70 rfl rfl ?_
              refine r_aload_n C d_Mod_step_71 rfl rfl ?_
              refine r_get C hq_Mod d_Mod_step_72 (j := 19) (Nat.le_of_ble_eq_true rfl) mf_Mod_51 (mp_0 P) rfl ?_
              refine r_iload C d_Mod_step_75 rfl ?_
              refine r_iconst (v := 1) C d_Mod_step_77 rfl ?_
              refine r_isub C d_Mod_step_78 ?_
              refine r_lald (t0 := 0) C d_Mod_step_79 (mp_stepBelow P) rfl (e6) (by omega) (by decide) (rfl) ?_
              refine r_lmul C d_Mod_step_80 ?_
              refine r_aload_n C d_Mod_step_81 rfl rfl ?_
              refine r_get C hq_Mod d_Mod_step_82 (j := 18) (Nat.le_of_ble_eq_true rfl) mf_Mod_48 (mp_0 P) rfl ?_
              refine r_iload C d_Mod_step_85 rfl ?_
              refine r_iconst (v := 1) C d_Mod_step_87 rfl ?_
              refine r_isub C d_Mod_step_88 ?_
              refine r_lald (t0 := 0) C d_Mod_step_89 (mp_stepAbove P) rfl (e6) (by omega) (by decide) (rfl) ?_
              refine r_lload C d_Mod_step_90 rfl ?_
              refine r_lmul C d_Mod_step_92 ?_
              refine r_lcmp C d_Mod_step_93 ?_
              refine r_if_gt (tgt := 99) C d_Mod_step_94 rfl (fun c_94 => ?_) (fun c_94 => ?_)
              · skip
                rw [lg_cmp_gt] at c_94
                have hz : za_step s (nI i) a b c = (true, zu_step s i a b c) := by
                  simp only [za_step, hat]
                  exact if_pos ⟨c_14, k_inT c_23 (Int64.not_lt.mp c_32), c43, Or.inr c_94⟩
                refine r_aload_n C d_Mod_step_99 rfl rfl ?_
                refine r_get C hq_Mod d_Mod_step_100 (j := 18) (Nat.le_of_ble_eq_true rfl) mf_Mod_48 (mp_0 P) rfl ?_
                refine r_iload C d_Mod_step_103 rfl ?_
                refine r_lload_n C d_Mod_step_105 rfl rfl ?_
                refine r_last (t0 := 0) C d_Mod_step_106 (mp_stepAbove P) rfl (rfl) (by omega) (by decide) ?_
                refine r_aload_n C d_Mod_step_107 rfl rfl ?_
                refine r_get C hq_Mod d_Mod_step_108 (j := 19) (Nat.le_of_ble_eq_true rfl) mf_Mod_51 ((hw_un _ (mNe P 0 13 (by decide) (by decide) (by decide))).trans (mp_0 P)) rfl ?_
                refine r_iload C d_Mod_step_111 rfl ?_
                refine r_lload C d_Mod_step_113 rfl ?_
                refine r_last (t0 := 0) C d_Mod_step_115 ((hw_un _ (mNe P 14 13 (by decide) (by decide) (by decide))).trans (mp_stepBelow P)) rfl (rfl) (by omega) (by decide) ?_
                refine r_aload_n C d_Mod_step_116 rfl rfl ?_
                refine r_get C hq_Mod d_Mod_step_117 (j := 20) (Nat.le_of_ble_eq_true rfl) mf_Mod_54 ((hw_un _ (mNe P 0 14 (by decide) (by decide) (by decide))).trans ((hw_un _ (mNe P 0 13 (by decide) (by decide) (by decide))).trans (mp_0 P))) rfl ?_
                refine r_iload C d_Mod_step_120 rfl ?_
                refine r_lload C d_Mod_step_122 rfl ?_
                refine r_last (t0 := 0) C d_Mod_step_124 ((hw_un _ (mNe P 15 14 (by decide) (by decide) (by decide))).trans ((hw_un _ (mNe P 15 13 (by decide) (by decide) (by decide))).trans (mp_stepCents P))) rfl (rfl) (by omega) (by decide) ?_
                refine r_aload_n C d_Mod_step_125 rfl rfl ?_
                refine r_get C hq_Mod d_Mod_step_126 (j := 17) (Nat.le_of_ble_eq_true rfl) mf_Mod_45 ((hw_un _ (mNe P 0 15 (by decide) (by decide) (by decide))).trans ((hw_un _ (mNe P 0 14 (by decide) (by decide) (by decide))).trans ((hw_un _ (mNe P 0 13 (by decide) (by decide) (by decide))).trans (mp_0 P)))) rfl ?_
                refine r_iload_n C d_Mod_step_129 rfl rfl ?_
                refine r_dup2_11 C d_Mod_step_130 rfl rfl ?_
                refine r_iald (t0 := 1) C d_Mod_step_131 ((hw_un _ (mNe P 12 15 (by decide) (by decide) (by decide))).trans ((hw_un _ (mNe P 12 14 (by decide) (by decide) (by decide))).trans ((hw_un _ (mNe P 12 13 (by decide) (by decide) (by decide))).trans (mp_stepCounts P)))) rfl (rfl) (hi8) (by decide) (rfl) ?_
                refine r_iconst (v := 1) C d_Mod_step_132 rfl ?_
                refine r_iadd C d_Mod_step_133 ?_
                rw [nI_1]
                refine r_iast (t0 := 1) C d_Mod_step_134 ((hw_un _ (mNe P 12 15 (by decide) (by decide) (by decide))).trans ((hw_un _ (mNe P 12 14 (by decide) (by decide) (by decide))).trans ((hw_un _ (mNe P 12 13 (by decide) (by decide) (by decide))).trans (mp_stepCounts P)))) rfl (rfl) (hi8) (by decide) ?_
                refine r_aload_n C d_Mod_step_135 rfl rfl ?_
                refine r_iconst (v := 0) C d_Mod_step_136 rfl ?_
                refine r_put C hq_Mod d_Mod_step_137 (j := 13) (fs' := [_, _, _, _, _, _, _, _, _, _, _, _, _, _, _, _, _, _, _, _, _, _, _, _, _, _, _, _]) (Nat.le_of_ble_eq_true rfl) mf_Mod_87 rfl rfl rfl rfl ((hw_un _ (mNe P 0 12 (by decide) (by decide) (by decide))).trans ((hw_un _ (mNe P 0 15 (by decide) (by decide) (by decide))).trans ((hw_un _ (mNe P 0 14 (by decide) (by decide) (by decide))).trans ((hw_un _ (mNe P 0 13 (by decide) (by decide) (by decide))).trans (mp_0 P))))) (Nat.le_of_ble_eq_true rfl) rfl ?_
                refine r_iconst (v := 1) C d_Mod_step_140 rfl ?_
                refine r_zret C E rfl d_Mod_step_141 (rfl) (Nat.le_of_ble_eq_true rfl) (Nat.le_of_ble_eq_true rfl) ?_
                rw [hz]
                exact ⟨rfl, tk, mEnd (mPut (mPut (mPut (mPut (mPut P 13 (by decide) _) 14 (by decide) _) 15 (by decide) _) 12 (by decide) _) 0 (by decide) _) (lt22 rfl rfl rfl rfl rfl rfl rfl rfl rfl rfl rfl rfl (congrArg (eI (Y.2 1) 8) (hv_nI _ _ _).symm) rfl rfl rfl rfl rfl rfl rfl rfl rfl)⟩
              · skip
                rw [lg_cmp_gt] at c_94
                have hz : za_step s (nI i) a b c = (false, s) := by
                  simp only [za_step, hat]
                  exact if_neg (fun h => h.2.2.2.elim (fun q => by omega) (fun q => c_94 q))
                refine r_iconst (v := 0) C d_Mod_step_97 rfl ?_
                refine r_zret C E rfl d_Mod_step_98 (rfl) (Nat.le_of_ble_eq_true rfl) (Nat.le_of_ble_eq_true rfl) ?_
                rw [hz]
                exact ⟨rfl, tk, P⟩
          · skip
            have c43 : z_sn s i = 6 := (nI_eq (a := z_sn s i) (b := 6) (by have := N.2.2.2.2.2.1 i; omega) (by decide)).mp c_43
            have hz : za_step s (nI i) a b c = (false, s) := by
              simp only [za_step, hat]
              exact if_neg (fun h => absurd h.2.2.1 (by omega))
            refine r_iconst (v := 0) C d_Mod_step_46 rfl ?_
            refine r_zret C E rfl d_Mod_step_47 (rfl) (Nat.le_of_ble_eq_true rfl) (Nat.le_of_ble_eq_true rfl) ?_
            rw [hz]
            exact ⟨rfl, tk, P⟩

set_option maxHeartbeats 4000000 in
set_option maxRecDepth 100000 in
theorem m_index (Y : hY) (l : Launch) {ad : Nat → Nat → Nat} {s : zS} {tk : Nat → Bool} {f : hw_F} (P : mPic Y ad s tk f) (x : Int32) (a b : Int64) : hM Y l y_Mod_index S_Mod_index (some .boolean) [.ref (ad 0 0), .int x, .long a, .long b] f (fun r f' => r = some (.int (bI (za_index s x a b).1)) ∧ ∃ tk', mPic Y ad (za_index s x a b).2 tk' f') := by
  refine hM.of (by decide) rfl (Nat.le_of_ble_eq_true rfl) ?_
  intro X hl hnm C E
  show hG Y X S_Mod_index 0 0 f [(0, .ref (ad 0 0)), (1, .int x), (2, .long a), (4, .long b)] [] 0
  refine r_iload_n C d_Mod_index_0 rfl rfl ?_
  refine r_callS C (m_isMonth Y _ _ _) mQ_Mod_isMonth d_Mod_index_1 ml_Mod_173 mt_Mod_isMonth rfl rfl (Nat.le_of_ble_eq_true rfl) ⟨⟨Nat.le_of_ble_eq_true rfl, Nat.le_of_ble_eq_true rfl⟩, Nat.le_of_ble_eq_true rfl, Nat.le_of_ble_eq_true rfl⟩ (fun v f' hp => ?_)
  obtain ⟨rfl, hf⟩ := hp
  replace hf := hf.symm
  subst hf
  refine r_if_eq (tgt := 46) C d_Mod_index_4 rfl (fun c_4 => ?_) (fun c_4 => ?_)
  · skip
    have hz : za_index s x a b = (false, s) := by simp [za_index, bS_none c_4]
    refine r_iconst (v := 0) C d_Mod_index_46 rfl ?_
    refine r_zret C E rfl d_Mod_index_47 (rfl) (Nat.le_of_ble_eq_true rfl) (Nat.le_of_ble_eq_true rfl) ?_
    rw [hz]
    exact ⟨rfl, tk, P⟩
  · skip
    obtain ⟨i, hat⟩ := bS_some c_4
    obtain ⟨hi, rfl⟩ := z_at_some (by decide) hat
    refine r_aload_n C d_Mod_index_7 rfl rfl ?_
    refine r_get C hq_Mod d_Mod_index_8 (j := 21) (Nat.le_of_ble_eq_true rfl) mf_Mod_57 (mp_0 P) rfl ?_
    refine r_iload_n C d_Mod_index_11 rfl rfl ?_
    refine r_zald (t0 := 2) C d_Mod_index_12 (mp_hasIndex P) rfl (rfl) (hi) (by decide) (rfl) ?_
    refine r_if_ne (tgt := 46) C d_Mod_index_13 rfl (fun c_13 => ?_) (fun c_13 => ?_)
    · skip
      rw [bI_n0] at c_13
      have hz : za_index s (nI i) a b = (false, s) := by
        simp only [za_index, hat]
        exact if_neg (fun h => by rw [c_13] at h; exact absurd h.1 (by decide))
      refine r_iconst (v := 0) C d_Mod_index_46 rfl ?_
      refine r_zret C E rfl d_Mod_index_47 (rfl) (Nat.le_of_ble_eq_true rfl) (Nat.le_of_ble_eq_true rfl) ?_
      rw [hz]
      exact ⟨rfl, tk, P⟩
    · skip
      rw [bI_0] at c_13
      refine r_lload_n C d_Mod_index_16 rfl rfl ?_
      refine r_lconst (v := 1) C d_Mod_index_17 rfl ?_
      refine r_lcmp C d_Mod_index_18 ?_
      refine r_if_lt (tgt := 46) C d_Mod_index_19 rfl (fun c_19 => ?_) (fun c_19 => ?_)
      · skip
        rw [lg_cmp_lt] at c_19
        have hz : za_index s (nI i) a b = (false, s) := by
          simp only [za_index, hat]
          exact if_neg (fun h => by rw [k_inF1 c_19] at h; exact absurd h.2.1 (by decide))
        refine r_iconst (v := 0) C d_Mod_index_46 rfl ?_
        refine r_zret C E rfl d_Mod_index_47 (rfl) (Nat.le_of_ble_eq_true rfl) (Nat.le_of_ble_eq_true rfl) ?_
        rw [hz]
        exact ⟨rfl, tk, P⟩
      · skip
        rw [lg_cmp_lt] at c_19
        refine r_lload_n C d_Mod_index_22 rfl rfl ?_
        refine r_ldc2 C d_Mod_index_23 mn_Mod_163 ?_
        refine r_lcmp C d_Mod_index_26 ?_
        refine r_if_gt (tgt := 46) C d_Mod_index_27 rfl (fun c_27 => ?_) (fun c_27 => ?_)
        · skip
          rw [lg_cmp_gt] at c_27
          have hz : za_index s (nI i) a b = (false, s) := by
            simp only [za_index, hat]
            exact if_neg (fun h => by rw [k_inF2 (v := a) (Int64.not_le.mpr c_27)] at h; exact absurd h.2.1 (by decide))
          refine r_iconst (v := 0) C d_Mod_index_46 rfl ?_
          refine r_zret C E rfl d_Mod_index_47 (rfl) (Nat.le_of_ble_eq_true rfl) (Nat.le_of_ble_eq_true rfl) ?_
          rw [hz]
          exact ⟨rfl, tk, P⟩
        · skip
          rw [lg_cmp_gt] at c_27
          refine r_lload C d_Mod_index_30 rfl ?_
          refine r_lconst (v := 1) C d_Mod_index_32 rfl ?_
          refine r_lcmp C d_Mod_index_33 ?_
          refine r_if_lt (tgt := 46) C d_Mod_index_34 rfl (fun c_34 => ?_) (fun c_34 => ?_)
          · skip
            rw [lg_cmp_lt] at c_34
            have hz : za_index s (nI i) a b = (false, s) := by
              simp only [za_index, hat]
              exact if_neg (fun h => by rw [k_inF1 c_34] at h; exact absurd h.2.2 (by decide))
            refine r_iconst (v := 0) C d_Mod_index_46 rfl ?_
            refine r_zret C E rfl d_Mod_index_47 (rfl) (Nat.le_of_ble_eq_true rfl) (Nat.le_of_ble_eq_true rfl) ?_
            rw [hz]
            exact ⟨rfl, tk, P⟩
          · skip
            rw [lg_cmp_lt] at c_34
            refine r_lload C d_Mod_index_37 rfl ?_
            refine r_ldc2 C d_Mod_index_39 mn_Mod_163 ?_
            refine r_lcmp C d_Mod_index_42 ?_
            refine r_if_le (tgt := 48) C d_Mod_index_43 rfl (fun c_43 => ?_) (fun c_43 => ?_)
            · skip
              rw [lg_cmp_le] at c_43
              have hz : za_index s (nI i) a b = (true, zu_index s i a b) := by
                simp only [za_index, hat]
                exact if_pos ⟨c_13, k_inT c_19 (Int64.not_lt.mp c_27), k_inT c_34 c_43⟩
              refine r_aload_n C d_Mod_index_48 rfl rfl ?_
              refine r_get C hq_Mod d_Mod_index_49 (j := 21) (Nat.le_of_ble_eq_true rfl) mf_Mod_57 (mp_0 P) rfl ?_
              refine r_iload_n C d_Mod_index_52 rfl rfl ?_
              refine r_iconst (v := 1) C d_Mod_index_53 rfl ?_
              refine r_zast (t0 := 2) C d_Mod_index_54 (mp_hasIndex P) rfl (rfl) (hi) (by decide) (rfl) ?_
              refine r_aload_n C d_Mod_index_55 rfl rfl ?_
              refine r_get C hq_Mod d_Mod_index_56 (j := 22) (Nat.le_of_ble_eq_true rfl) mf_Mod_60 ((hw_un _ (mNe P 0 16 (by decide) (by decide) (by decide))).trans (mp_0 P)) rfl ?_
              refine r_iload_n C d_Mod_index_59 rfl rfl ?_
              refine r_lload_n C d_Mod_index_60 rfl rfl ?_
              refine r_last (t0 := 0) C d_Mod_index_61 ((hw_un _ (mNe P 17 16 (by decide) (by decide) (by decide))).trans (mp_indexAbove P)) rfl (rfl) (hi) (by decide) ?_
              refine r_aload_n C d_Mod_index_62 rfl rfl ?_
              refine r_get C hq_Mod d_Mod_index_63 (j := 23) (Nat.le_of_ble_eq_true rfl) mf_Mod_63 ((hw_un _ (mNe P 0 17 (by decide) (by decide) (by decide))).trans ((hw_un _ (mNe P 0 16 (by decide) (by decide) (by decide))).trans (mp_0 P))) rfl ?_
              refine r_iload_n C d_Mod_index_66 rfl rfl ?_
              refine r_lload C d_Mod_index_67 rfl ?_
              refine r_last (t0 := 0) C d_Mod_index_69 ((hw_un _ (mNe P 18 17 (by decide) (by decide) (by decide))).trans ((hw_un _ (mNe P 18 16 (by decide) (by decide) (by decide))).trans (mp_indexBelow P))) rfl (rfl) (hi) (by decide) ?_
              refine r_aload_n C d_Mod_index_70 rfl rfl ?_
              refine r_iconst (v := 0) C d_Mod_index_71 rfl ?_
              refine r_put C hq_Mod d_Mod_index_72 (j := 13) (fs' := [_, _, _, _, _, _, _, _, _, _, _, _, _, _, _, _, _, _, _, _, _, _, _, _, _, _, _, _]) (Nat.le_of_ble_eq_true rfl) mf_Mod_87 rfl rfl rfl rfl ((hw_un _ (mNe P 0 18 (by decide) (by decide) (by decide))).trans ((hw_un _ (mNe P 0 17 (by decide) (by decide) (by decide))).trans ((hw_un _ (mNe P 0 16 (by decide) (by decide) (by decide))).trans (mp_0 P)))) (Nat.le_of_ble_eq_true rfl) rfl ?_
              refine r_iconst (v := 1) C d_Mod_index_75 rfl ?_
              refine r_zret C E rfl d_Mod_index_76 (rfl) (Nat.le_of_ble_eq_true rfl) (Nat.le_of_ble_eq_true rfl) ?_
              rw [hz]
              exact ⟨rfl, tk, mEnd (mPut (mPut (mPut (mPut P 16 (by decide) _) 17 (by decide) _) 18 (by decide) _) 0 (by decide) _) (lt22 rfl rfl rfl rfl rfl rfl rfl rfl rfl rfl rfl rfl rfl rfl rfl rfl (congrArg (eI (Y.2 2) 60) (hv_bI _ _ true).symm) rfl rfl rfl rfl rfl)⟩
            · skip
              rw [lg_cmp_le] at c_43
              have hz : za_index s (nI i) a b = (false, s) := by
                simp only [za_index, hat]
                exact if_neg (fun h => by rw [k_inF2 (v := b) c_43] at h; exact absurd h.2.2 (by decide))
              refine r_iconst (v := 0) C d_Mod_index_46 rfl ?_
              refine r_zret C E rfl d_Mod_index_47 (rfl) (Nat.le_of_ble_eq_true rfl) (Nat.le_of_ble_eq_true rfl) ?_
              rw [hz]
              exact ⟨rfl, tk, P⟩

set_option maxHeartbeats 4000000 in
set_option maxRecDepth 100000 in
theorem m_dispute (Y : hY) (l : Launch) {ad : Nat → Nat → Nat} {s : zS} {tk : Nat → Bool} {f : hw_F} (P : mPic Y ad s tk f) (N : zN s) (x r : Int32) : hM Y l y_Mod_dispute S_Mod_dispute (some .int) [.ref (ad 0 0), .int x, .int r] f (fun v f' => v = some (.int (za_disp s x r).1) ∧ ∃ tk', mPic Y ad (za_disp s x r).2 tk' f') := by
  refine hM.of (by decide) rfl (Nat.le_of_ble_eq_true rfl) ?_
  intro X hl hnm C E
  show hG Y X S_Mod_dispute 0 0 f [(0, .ref (ad 0 0)), (1, .int x), (2, .int r)] [] 0
  refine r_aload_n C d_Mod_dispute_0 rfl rfl ?_
  refine r_get C hq_Mod d_Mod_dispute_1 (j := 24) (Nat.le_of_ble_eq_true rfl) mf_Mod_178 (mp_0 P) rfl ?_
  refine r_bipush (v := 20) C d_Mod_dispute_4 rfl ?_
  refine r_icmp_eq (tgt := 28) C d_Mod_dispute_6 rfl (fun c_6 => ?_) (fun c_6 => ?_)
  · skip
    have hz : za_disp s x r = (-1, s) := by
      have : z_nP s = 20 := (nI_eq (a := z_nP s) (b := 20) (by have := N.2.2.2.1; omega) (by decide)).mp c_6
      unfold za_disp
      split <;> simp [this]
    refine r_iconst (v := (-1)) C d_Mod_dispute_28 rfl ?_
    refine r_iret C E rfl d_Mod_dispute_29 (Nat.le_of_ble_eq_true rfl) (Nat.le_of_ble_eq_true rfl) ?_
    rw [hz]
    exact ⟨rfl, tk, P⟩
  · skip
    have c6 : z_nP s < 20 := by
      have h1 := N.2.2.2.1
      rcases Nat.lt_or_ge (z_nP s) 20 with h | h
      · exact h
      · exact absurd (show nI (z_nP s) = 20 by rw [show z_nP s = 20 by omega]; rfl) c_6
    refine r_aload_n C d_Mod_dispute_9 rfl rfl ?_
    refine r_iload_n C d_Mod_dispute_10 rfl rfl ?_
    refine r_callV C (m_isBid Y _ P _) mQ_Mod_isBid d_Mod_dispute_11 ml_Mod_97 mi_Mod_isBid mv_Mod_isBid (mp_0 P) rfl rfl rfl rfl (Nat.le_of_ble_eq_true rfl) ⟨⟨Nat.le_of_ble_eq_true rfl, Nat.le_of_ble_eq_true rfl⟩, Nat.le_of_ble_eq_true rfl, Nat.le_of_ble_eq_true rfl⟩ (fun v f' hp => ?_)
    obtain ⟨rfl, hf⟩ := hp
    replace hf := hf.symm
    subst hf
    refine r_if_eq (tgt := 28) C d_Mod_dispute_14 rfl (fun c_14 => ?_) (fun c_14 => ?_)
    · skip
      have hz : za_disp s x r = (-1, s) := by simp [za_disp, bS_none c_14]
      refine r_iconst (v := (-1)) C d_Mod_dispute_28 rfl ?_
      refine r_iret C E rfl d_Mod_dispute_29 (Nat.le_of_ble_eq_true rfl) (Nat.le_of_ble_eq_true rfl) ?_
      rw [hz]
      exact ⟨rfl, tk, P⟩
    · skip
      obtain ⟨i, hat⟩ := bS_some c_14
      obtain ⟨hi, rfl⟩ := z_at_some (by have := N.2.2.1; omega) hat
      have hi12 : i < 12 := by have := N.2.2.1; omega
      refine r_iload_n C d_Mod_dispute_17 rfl rfl ?_
      refine r_iconst (v := 1) C d_Mod_dispute_18 rfl ?_
      refine r_icmp_lt (tgt := 28) C d_Mod_dispute_19 rfl (fun c_19 => ?_) (fun c_19 => ?_)
      · skip
        have eb : k_in r.toInt64 1 6 = _ := k_in32 (v := r) (a := 1) (b := 6)
        have hz : za_disp s (nI i) r = (-1, s) := by simp [za_disp, hat, eb, Int32.not_le.mpr c_19]
        refine r_iconst (v := (-1)) C d_Mod_dispute_28 rfl ?_
        refine r_iret C E rfl d_Mod_dispute_29 (Nat.le_of_ble_eq_true rfl) (Nat.le_of_ble_eq_true rfl) ?_
        rw [hz]
        exact ⟨rfl, tk, P⟩
      · skip
        refine r_iload_n C d_Mod_dispute_22 rfl rfl ?_
        refine r_bipush (v := 6) C d_Mod_dispute_23 rfl ?_
        refine r_icmp_le (tgt := 30) C d_Mod_dispute_25 rfl (fun c_25 => ?_) (fun c_25 => ?_)
        · skip
          have eb : k_in r.toInt64 1 6 = _ := k_in32 (v := r) (a := 1) (b := 6)
          have hz : za_disp s (nI i) r = (nI (z_nP s), zu_disp s i r) := by simp [za_disp, hat, eb, Int32.not_lt.mp c_19, c_25, c6]
          refine r_aload_n C d_Mod_dispute_30 rfl rfl ?_
          refine r_get C hq_Mod d_Mod_dispute_31 (j := 25) (Nat.le_of_ble_eq_true rfl) mf_Mod_66 (mp_0 P) rfl ?_
          refine r_aload_n C d_Mod_dispute_34 rfl rfl ?_
          refine r_get C hq_Mod d_Mod_dispute_35 (j := 24) (Nat.le_of_ble_eq_true rfl) mf_Mod_178 (mp_0 P) rfl ?_
          refine r_iload_n C d_Mod_dispute_38 rfl rfl ?_
          refine r_iast (t0 := 1) C d_Mod_dispute_39 (mp_disputed P) rfl (rfl) (c6) (by decide) ?_
          refine r_aload_n C d_Mod_dispute_40 rfl rfl ?_
          refine r_get C hq_Mod d_Mod_dispute_41 (j := 26) (Nat.le_of_ble_eq_true rfl) mf_Mod_69 ((hw_un _ (mNe P 0 19 (by decide) (by decide) (by decide))).trans (mp_0 P)) rfl ?_
          refine r_aload_n C d_Mod_dispute_44 rfl rfl ?_
          refine r_get C hq_Mod d_Mod_dispute_45 (j := 24) (Nat.le_of_ble_eq_true rfl) mf_Mod_178 ((hw_un _ (mNe P 0 19 (by decide) (by decide) (by decide))).trans (mp_0 P)) rfl ?_
          refine r_iload_n C d_Mod_dispute_48 rfl rfl ?_
          refine r_iast (t0 := 1) C d_Mod_dispute_49 ((hw_un _ (mNe P 20 19 (by decide) (by decide) (by decide))).trans (mp_reasons P)) rfl (rfl) (c6) (by decide) ?_
          refine r_aload_n C d_Mod_dispute_50 rfl rfl ?_
          refine r_dup C d_Mod_dispute_51 rfl ?_
          refine r_get C hq_Mod d_Mod_dispute_52 (j := 24) (Nat.le_of_ble_eq_true rfl) mf_Mod_178 ((hw_un _ (mNe P 0 20 (by decide) (by decide) (by decide))).trans ((hw_un _ (mNe P 0 19 (by decide) (by decide) (by decide))).trans (mp_0 P))) rfl ?_
          refine r_iconst (v := 1) C d_Mod_dispute_55 rfl ?_
          refine r_iadd C d_Mod_dispute_56 ?_
          refine r_put C hq_Mod d_Mod_dispute_57 (j := 24) (fs' := [_, _, _, _, _, _, _, _, _, _, _, _, _, _, _, _, _, _, _, _, _, _, _, _, _, _, _, _]) (Nat.le_of_ble_eq_true rfl) mf_Mod_178 rfl rfl rfl rfl ((hw_un _ (mNe P 0 20 (by decide) (by decide) (by decide))).trans ((hw_un _ (mNe P 0 19 (by decide) (by decide) (by decide))).trans (mp_0 P))) (Nat.le_of_ble_eq_true rfl) rfl ?_
          refine r_aload_n C d_Mod_dispute_60 rfl rfl ?_
          refine r_iconst (v := 0) C d_Mod_dispute_61 rfl ?_
          refine r_put C hq_Mod d_Mod_dispute_62 (j := 13) (fs' := [_, _, _, _, _, _, _, _, _, _, _, _, _, _, _, _, _, _, _, _, _, _, _, _, _, _, _, _]) (Nat.le_of_ble_eq_true rfl) mf_Mod_87 rfl rfl rfl rfl (hw_us _ _ _) (Nat.le_of_ble_eq_true rfl) rfl ?_
          refine r_aload_n C d_Mod_dispute_65 rfl rfl ?_
          refine r_get C hq_Mod d_Mod_dispute_66 (j := 24) (Nat.le_of_ble_eq_true rfl) mf_Mod_178 (hw_us _ _ _) rfl ?_
          refine r_iconst (v := 1) C d_Mod_dispute_69 rfl ?_
          refine r_isub C d_Mod_dispute_70 ?_
          refine r_iret C E rfl d_Mod_dispute_71 (Nat.le_of_ble_eq_true rfl) (Nat.le_of_ble_eq_true rfl) ?_
          rw [hz]
          refine ⟨by rw [nI_1, nI_m1], tk, ?_⟩
          exact mEnd (mPut (mPut (mPut (mPut P 19 (by decide) _) 20 (by decide) _) 0 (by decide) _) 0 (by decide) _) (lt22 (by rw [nI_1]; rfl) rfl rfl rfl rfl rfl rfl rfl rfl rfl rfl rfl rfl rfl rfl rfl rfl rfl rfl (congrArg (eI (Y.2 1) 20) (hv_nI _ _ _).symm) rfl rfl)
        · skip
          have eb : k_in r.toInt64 1 6 = _ := k_in32 (v := r) (a := 1) (b := 6)
          have hz : za_disp s (nI i) r = (-1, s) := by simp [za_disp, hat, eb, c_25]
          refine r_iconst (v := (-1)) C d_Mod_dispute_28 rfl ?_
          refine r_iret C E rfl d_Mod_dispute_29 (Nat.le_of_ble_eq_true rfl) (Nat.le_of_ble_eq_true rfl) ?_
          rw [hz]
          exact ⟨rfl, tk, P⟩

