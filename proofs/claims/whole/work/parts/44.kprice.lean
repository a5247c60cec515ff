set_option maxHeartbeats 4000000 in
set_option maxRecDepth 100000 in
theorem k_BT_step (Y : hY) (l : Launch) {ad : Nat → Nat → Nat} {s : zS} {x : kX} {t : Bool} {f : hw_F} (P : kPic Y ad s x t f) (N : zN s) (T : kT s t) (y : Int32) (a b c : Int64) : hM Y l y_BT_step S_BT_step (some .boolean) [.ref (ad 0 0), .int y, .long a, .long b, .long c] f (fun r f' => r = some (.int (bI (za_step s y a b c).1)) ∧ kOut Y (ad 0 0) (za_step s y a b c).2 x f') := by
  refine hM.of (by decide) rfl (Nat.le_of_ble_eq_true rfl) ?_
  intro X hl hnm C E
  show hG Y X S_BT_step 0 0 f [(0, .ref (ad 0 0)), (1, .int y), (2, .long a), (4, .long b), (6, .long c)] [] 0
  refine r_aload_n C d_BT_step_0 rfl rfl ?_
  refine r_iload_n C d_BT_step_1 rfl rfl ?_
  refine r_callV C (k_BT_lotAt Y _ P N _) mQ_BT_lotAt d_BT_step_2 ml_BT_93 mi_BT_lotAt mv_BT_lotAt (kp_0 P) rfl rfl rfl rfl (Nat.le_of_ble_eq_true rfl) ⟨⟨Nat.le_of_ble_eq_true rfl, Nat.le_of_ble_eq_true rfl⟩, Nat.le_of_ble_eq_true rfl, Nat.le_of_ble_eq_true rfl⟩ (fun v f' hp => ?_)
  obtain ⟨rfl, hf⟩ := hp
  replace hf := hf.symm
  subst hf
  rcases z_at_case y (n := z_nL s) (by have := N.1; omega) with ⟨hz, -⟩ | ⟨i, hi, rfl, hz⟩
  · rw [hz]
    refine r_astoreN (lv' := [(8, _), (0, _), (1, _), (2, _), (4, _), (6, _)]) C d_BT_step_5 (Nat.le_of_ble_eq_true rfl) rfl ?_
    refine r_aloadN C d_BT_step_7 rfl ?_
    refine r_ifnullN (tgt := 48) C d_BT_step_9 rfl ?_
    refine r_iconst (v := 0) C d_BT_step_48 rfl ?_
    refine r_zret C E rfl d_BT_step_49 (rfl) (Nat.le_of_ble_eq_true rfl) (Nat.le_of_ble_eq_true rfl) ?_
    have hq : za_step s y a b c = (false, s) := by simp [za_step, hz]
    rw [hq]
    exact ⟨rfl, ad, t, rfl, P, T⟩
  · rw [hz]
    refine r_astore (lv' := [(8, _), (0, _), (1, _), (2, _), (4, _), (6, _)]) C d_BT_step_5 (Nat.le_of_ble_eq_true rfl) rfl ?_
    refine r_aload C d_BT_step_7 rfl ?_
    refine r_ifnull C d_BT_step_9 ?_
    refine r_lload_n C d_BT_step_12 rfl rfl ?_
    refine r_lload C d_BT_step_13 rfl ?_
    refine r_callS C (k_BT_isShare Y _ _ _ _) mQ_BT_isShare d_BT_step_15 ml_BT_195 mt_BT_isShare rfl rfl (Nat.le_of_ble_eq_true rfl) ⟨⟨Nat.le_of_ble_eq_true rfl, Nat.le_of_ble_eq_true rfl⟩, Nat.le_of_ble_eq_true rfl, Nat.le_of_ble_eq_true rfl⟩ (fun v f' hp => ?_)
    obtain ⟨rfl, hf⟩ := hp
    replace hf := hf.symm
    subst hf
    refine r_if_eq (tgt := 48) C d_BT_step_18 rfl (fun c_18 => ?_) (fun c_18 => ?_)
    · skip
      rw [bI_0] at c_18
      have hq : za_step s (nI i) a b c = (false, s) := by
        simp only [za_step, hz]
        exact if_neg (fun h => by rw [c_18] at h; cases h.1)
      refine r_iconst (v := 0) C d_BT_step_48 rfl ?_
      refine r_zret C E rfl d_BT_step_49 (rfl) (Nat.le_of_ble_eq_true rfl) (Nat.le_of_ble_eq_true rfl) ?_
      rw [hq]
      exact ⟨rfl, ad, t, rfl, P, T⟩
    · skip
      rw [bI_n0] at c_18
      refine r_lload C d_BT_step_21 rfl ?_
      refine r_ldc2 C d_BT_step_23 mn_BT_199 ?_
      refine r_ldc2 C d_BT_step_26 mn_BT_201 ?_
      refine r_callS C (k_BT_within Y _ _ _ _ _) mQ_BT_within d_BT_step_29 ml_BT_53 mt_BT_within rfl rfl (Nat.le_of_ble_eq_true rfl) ⟨⟨Nat.le_of_ble_eq_true rfl, Nat.le_of_ble_eq_true rfl⟩, Nat.le_of_ble_eq_true rfl, Nat.le_of_ble_eq_true rfl⟩ (fun v f' hp => ?_)
      obtain ⟨rfl, hf⟩ := hp
      replace hf := hf.symm
      subst hf
      refine r_if_eq (tgt := 48) C d_BT_step_32 rfl (fun c_32 => ?_) (fun c_32 => ?_)
      · skip
        rw [bI_0] at c_32
        have hq : za_step s (nI i) a b c = (false, s) := by
          simp only [za_step, hz]
          exact if_neg (fun h => by rw [c_32] at h; cases h.2.1)
        refine r_iconst (v := 0) C d_BT_step_48 rfl ?_
        refine r_zret C E rfl d_BT_step_49 (rfl) (Nat.le_of_ble_eq_true rfl) (Nat.le_of_ble_eq_true rfl) ?_
        rw [hq]
        exact ⟨rfl, ad, t, rfl, P, T⟩
      · skip
        rw [bI_n0] at c_32
        refine r_aload C d_BT_step_35 rfl ?_
        refine r_lload_n C d_BT_step_37 rfl rfl ?_
        refine r_lload C d_BT_step_38 rfl ?_
        refine r_lload C d_BT_step_40 rfl ?_
        refine r_callV C (k_Lot_addStep Y _ P N hi _ _ _) mQ_Lot_addStep d_BT_step_42 ml_BT_203 mi_Lot_addStep mv_Lot_addStep (kp_10 P hi) rfl rfl rfl rfl (Nat.le_of_ble_eq_true rfl) ⟨⟨Nat.le_of_ble_eq_true rfl, Nat.le_of_ble_eq_true rfl⟩, Nat.le_of_ble_eq_true rfl, Nat.le_of_ble_eq_true rfl⟩ (fun v f' hp => ?_)
        rcases hp with ⟨rfl, hno, hf⟩ | ⟨rfl, hok, P2⟩
        · replace hf := hf.symm
          subst hf
          have hq : za_step s (nI i) a b c = (false, s) := by
            simp only [za_step, hz]
            exact if_neg (fun h => hno h.2.2)
          refine r_if_ne (tgt := 50) C d_BT_step_45 rfl (fun hz => absurd hz (show ¬ ¬ (0 : Int32) = 0 from fun h => h rfl)) (fun _ => ?_)
          refine r_iconst (v := 0) C d_BT_step_48 rfl ?_
          refine r_zret C E rfl d_BT_step_49 (rfl) (Nat.le_of_ble_eq_true rfl) (Nat.le_of_ble_eq_true rfl) ?_
          rw [hq]
          exact ⟨rfl, ad, t, rfl, P, T⟩
        · have hq : za_step s (nI i) a b c = (true, zu_step s i a b c) := by
            simp only [za_step, hz]
            exact if_pos ⟨c_18, c_32, hok⟩
          refine r_if_ne (tgt := 50) C d_BT_step_45 rfl (fun _ => ?_) (fun hz => absurd hz (show ¬ (1 : Int32) = 0 by decide))
          refine r_aload_n C d_BT_step_50 rfl rfl ?_
          refine r_iconst (v := 1) C d_BT_step_51 rfl ?_
          refine r_put C hq_BT d_BT_step_52 (j := 11) (fs' := [_, _, _, _, _, _, _, _, _, _, _, _]) (Nat.le_of_ble_eq_true rfl) mf_BT_58 rfl rfl rfl rfl (kp_0 P2) (Nat.le_of_ble_eq_true rfl) rfl ?_
          refine r_iconst (v := 1) C d_BT_step_55 rfl ?_
          refine r_zret C E rfl d_BT_step_56 (rfl) (Nat.le_of_ble_eq_true rfl) (Nat.le_of_ble_eq_true rfl) ?_
          rw [hq]
          exact ⟨rfl, ad, true, rfl, kEnd2 (kPut P2 (Or.inl ⟨by decide, rfl⟩) _) (fun _ _ h => h) (kV_cases rfl rfl rfl rfl rfl rfl rfl rfl rfl rfl (fun _ _ => rfl) (fun _ _ => rfl) (fun _ _ => rfl) (fun _ _ => rfl) (fun _ _ => rfl) (fun _ _ => rfl) (fun _ _ => rfl)), kT_t _ rfl⟩

theorem max0 (v : Int64) : (if 0 ≤ v then v else 0) = if 0 < v then v else 0 := by
  by_cases h : 0 < v
  · rw [if_pos h, if_pos (Int64.le_of_lt h)]
  · rw [if_neg h]
    by_cases h2 : 0 ≤ v
    · rw [if_pos h2]; exact Int64.le_antisymm (Int64.not_lt.mp h) h2
    · rw [if_neg h2]
set_option maxHeartbeats 4000000 in
set_option maxRecDepth 100000 in
theorem k_BT_price (Y : hY) (l : Launch) {ad : Nat → Nat → Nat} {s : zS} {x : kX} {t : Bool} {f : hw_F} (P : kPic Y ad s x t f) (N : zN s) (W : kW s x) (y : Int32) (a b : Int64) : hM Y l y_BT_price S_BT_price (some .long) [.ref (ad 0 0), .int y, .long a, .long b] f (fun r f' => r = some (.long (za_price s y a b)) ∧ f' = f) := by
  refine hM.of (by decide) rfl (Nat.le_of_ble_eq_true rfl) ?_
  intro X hl hnm C E
  show hG Y X S_BT_price 0 0 f [(0, .ref (ad 0 0)), (1, .int y), (2, .long a), (4, .long b)] [] 0
  refine r_aload_n C d_BT_price_0 rfl rfl ?_
  refine r_iload_n C d_BT_price_1 rfl rfl ?_
  refine r_callV C (k_BT_winnerAt Y _ P N W _) mQ_BT_winnerAt d_BT_price_2 ml_BT_170 mi_BT_winnerAt mv_BT_winnerAt (kp_0 P) rfl rfl rfl rfl (Nat.le_of_ble_eq_true rfl) ⟨⟨Nat.le_of_ble_eq_true rfl, Nat.le_of_ble_eq_true rfl⟩, Nat.le_of_ble_eq_true rfl, Nat.le_of_ble_eq_true rfl⟩ (fun v f' hp => ?_)
  obtain ⟨rfl, hf⟩ := hp
  replace hf := hf.symm
  subst hf
  rcases win_case N y with hz | ⟨i, hi, rfl, hz, hw⟩
  · rw [hz]
    refine r_astoreN (lv' := [(6, _), (0, _), (1, _), (2, _), (4, _)]) C d_BT_price_5 (Nat.le_of_ble_eq_true rfl) rfl ?_
    refine r_aloadN C d_BT_price_7 rfl ?_
    refine r_ifnullN (tgt := 21) C d_BT_price_9 rfl ?_
    refine r_ldc2 C d_BT_price_21 mn_BT_180 ?_
    refine r_lret C E rfl d_BT_price_24 (Nat.le_of_ble_eq_true rfl) (Nat.le_of_ble_eq_true rfl) ?_
    refine ⟨?_, rfl⟩
    rw [show za_price s y a b = -1 by
      rcases win_none hz with h | ⟨k, h, h2⟩
      · simp [za_price, h]
      · simp [za_price, h, h2]]
  · rw [hz]
    refine r_astore (lv' := [(6, _), (0, _), (1, _), (2, _), (4, _)]) C d_BT_price_5 (Nat.le_of_ble_eq_true rfl) rfl ?_
    refine r_aload C d_BT_price_7 rfl ?_
    refine r_ifnull C d_BT_price_9 ?_
    refine r_lload_n C d_BT_price_12 rfl rfl ?_
    refine r_lload C d_BT_price_13 rfl ?_
    refine r_callS C (k_BT_isShare Y _ _ _ _) mQ_BT_isShare d_BT_price_15 ml_BT_195 mt_BT_isShare rfl rfl (Nat.le_of_ble_eq_true rfl) ⟨⟨Nat.le_of_ble_eq_true rfl, Nat.le_of_ble_eq_true rfl⟩, Nat.le_of_ble_eq_true rfl, Nat.le_of_ble_eq_true rfl⟩ (fun v f' hp => ?_)
    obtain ⟨rfl, hf⟩ := hp
    replace hf := hf.symm
    subst hf
    refine r_if_ne (tgt := 25) C d_BT_price_18 rfl (fun c_18 => ?_) (fun c_18 => ?_)
    · skip
      rw [bI_n0] at c_18
      have hq : za_price s (nI i) a b = if 0 ≤ zp_pr s i a b (z_nL s) then zp_pr s i a b (z_nL s) else 0 := by simp [za_price, win_some hz, hw, c_18]
      have L : ∀ d j, j + d = 8 → hG Y X S_BT_price 0 0 f [(9, .int (nI (j))), (7, .long (zp_pr s i a b (min (j) (z_nL s)))), (6, .ref (ad 15 i)), (0, .ref (ad 0 0)), (1, .int (nI i)), (2, .long a), (4, .long b)] [] 35 := by
        intro d
        induction d with
        | zero =>
          intro j hj
          obtain rfl : j = 8 := by omega
          rw [show min 8 (z_nL s) = z_nL s by have := N.1; omega]
          refine r_iload C d_BT_price_35 rfl ?_
          refine r_bipush (v := 8) C d_BT_price_37 rfl ?_
          refine r_icmp_ge (tgt := 85) C d_BT_price_39 rfl (fun _ => ?_) (fun hz => absurd (show (8 : Int32) ≤ nI 8 by decide) hz)
          refine r_lload C d_BT_price_85 rfl ?_
          refine r_lconst (v := 0) C d_BT_price_87 rfl ?_
          refine r_mmaxl C d_BT_price_88 ml_BT_210 mt_mmax mz_Jma mo_mmax (Nat.le_of_ble_eq_true rfl) (Nat.le_of_ble_eq_true rfl) (Nat.le_of_ble_eq_true rfl) (Nat.le_of_ble_eq_true rfl) ?_
          refine r_lret C E rfl d_BT_price_91 (Nat.le_of_ble_eq_true rfl) (Nat.le_of_ble_eq_true rfl) ?_
          exact ⟨by rw [hq, max0], rfl⟩
        | succ d ih =>
          intro j hj
          have hj8 : j < 8 := by omega
          rcases Nat.lt_or_ge j (z_nL s) with hn | hn
          · rw [show min j (z_nL s) = j by omega]
            refine r_iload C d_BT_price_35 rfl ?_
            refine r_bipush (v := 8) C d_BT_price_37 rfl ?_
            refine r_icmp_ge (tgt := 85) C d_BT_price_39 rfl (fun hz => absurd hz (nI_ge (a := j) (b := 8) (by omega) (by decide))) (fun _ => ?_)
            refine r_aload_n C d_BT_price_42 rfl rfl ?_
            refine r_get C hq_BT d_BT_price_43 (j := 0) (Nat.le_of_ble_eq_true rfl) mf_BT_11 (kp_0 P) rfl ?_
            refine r_iload C d_BT_price_46 rfl ?_
            refine r_aald (t0 := 3) C d_BT_price_48 (kp_1 P) rfl (rfl) (by omega) (by decide) (if_pos hn) ?_
            refine r_astore (lv' := [(10, _), (9, _), (7, _), (6, _), (0, _), (1, _), (2, _), (4, _)]) C d_BT_price_49 (Nat.le_of_ble_eq_true rfl) rfl ?_
            refine r_aload C d_BT_price_51 rfl ?_
            refine r_ifnull C d_BT_price_53 ?_
            refine r_aload C d_BT_price_56 rfl ?_
            refine r_iload C d_BT_price_58 rfl ?_
            refine r_callV C (k_Bid_has Y _ _ _ _ _ _ _ (kp_15 P hi) _) mQ_Bid_has d_BT_price_60 ml_BT_104 mi_Bid_has mv_Bid_has (kp_15 P hi) rfl rfl rfl rfl (Nat.le_of_ble_eq_true rfl) ⟨⟨Nat.le_of_ble_eq_true rfl, Nat.le_of_ble_eq_true rfl⟩, Nat.le_of_ble_eq_true rfl, Nat.le_of_ble_eq_true rfl⟩ (fun v f' hp => ?_)
            obtain ⟨rfl, hf⟩ := hp
            replace hf := hf.symm
            subst hf
            refine r_if_eq (tgt := 79) C d_BT_price_63 rfl (fun c_63 => ?_) (fun c_63 => ?_)
            · skip
              rw [bI_0, show z_ls s i = zb_m _ 8 from rfl, k_bt_m (by decide) hj8] at c_63
              rw [show zp_pr s i a b j = zp_pr s i a b (j + 1) by simp [zp_pr, c_63]]
              refine r_iinc (v := nI (j + 1)) (lv' := [(9, _), (10, _), (7, _), (6, _), (0, _), (1, _), (2, _), (4, _)]) C d_BT_price_79 rfl (nI_1 j) (Nat.le_of_ble_eq_true rfl) rfl ?_
              refine r_goto (tgt := 35) C d_BT_price_82 rfl ?_
              refine r_sub [0, 2, 3, 4, 5, 6, 7] rfl ?_
              have h9 := ih (j + 1) (by omega)
              rw [show min (j + 1) (z_nL s) = j + 1 by omega] at h9
              exact h9
            · skip
              rw [bI_n0, show z_ls s i = zb_m _ 8 from rfl, k_bt_m (by decide) hj8] at c_63
              refine r_lload C d_BT_price_66 rfl ?_
              refine r_aload C d_BT_price_68 rfl ?_
              refine r_lload_n C d_BT_price_70 rfl rfl ?_
              refine r_lload C d_BT_price_71 rfl ?_
              refine r_callV C (k_Lot_centsAt Y _ P N hn _ _) mQ_Lot_centsAt d_BT_price_73 ml_BT_206 mi_Lot_centsAt mv_Lot_centsAt (kp_10 P hn) rfl rfl rfl rfl (Nat.le_of_ble_eq_true rfl) ⟨⟨Nat.le_of_ble_eq_true rfl, Nat.le_of_ble_eq_true rfl⟩, Nat.le_of_ble_eq_true rfl, Nat.le_of_ble_eq_true rfl⟩ (fun v f' hp => ?_)
              obtain ⟨rfl, hf⟩ := hp
              replace hf := hf.symm
              subst hf
              refine r_ladd C d_BT_price_76 ?_
              refine r_lstore (lv' := [(7, _), (10, _), (9, _), (6, _), (0, _), (1, _), (2, _), (4, _)]) C d_BT_price_77 (Nat.le_of_ble_eq_true rfl) rfl ?_
              rw [show zp_pr s i a b j + zp_ch s j a b (z_sn s j) = zp_pr s i a b (j + 1) by simp [zp_pr, c_63]]
              refine r_iinc (v := nI (j + 1)) (lv' := [(9, _), (7, _), (10, _), (6, _), (0, _), (1, _), (2, _), (4, _)]) C d_BT_price_79 rfl (nI_1 j) (Nat.le_of_ble_eq_true rfl) rfl ?_
              refine r_goto (tgt := 35) C d_BT_price_82 rfl ?_
              refine r_sub [0, 1, 3, 4, 5, 6, 7] rfl ?_
              have h9 := ih (j + 1) (by omega)
              rw [show min (j + 1) (z_nL s) = j + 1 by omega] at h9
              exact h9
          · rw [show min j (z_nL s) = z_nL s by omega]
            refine r_iload C d_BT_price_35 rfl ?_
            refine r_bipush (v := 8) C d_BT_price_37 rfl ?_
            refine r_icmp_ge (tgt := 85) C d_BT_price_39 rfl (fun hz => absurd hz (nI_ge (a := j) (b := 8) (by omega) (by decide))) (fun _ => ?_)
            refine r_aload_n C d_BT_price_42 rfl rfl ?_
            refine r_get C hq_BT d_BT_price_43 (j := 0) (Nat.le_of_ble_eq_true rfl) mf_BT_11 (kp_0 P) rfl ?_
            refine r_iload C d_BT_price_46 rfl ?_
            refine r_aald (t0 := 3) C d_BT_price_48 (kp_1 P) rfl (rfl) (by omega) (by decide) (if_neg (by omega)) ?_
            refine r_astoreN (lv' := [(10, _), (9, _), (7, _), (6, _), (0, _), (1, _), (2, _), (4, _)]) C d_BT_price_49 (Nat.le_of_ble_eq_true rfl) rfl ?_
            refine r_aloadN C d_BT_price_51 rfl ?_
            refine r_ifnullN (tgt := 79) C d_BT_price_53 rfl ?_
            refine r_iinc (v := nI (j + 1)) (lv' := [(9, _), (10, _), (7, _), (6, _), (0, _), (1, _), (2, _), (4, _)]) C d_BT_price_79 rfl (nI_1 j) (Nat.le_of_ble_eq_true rfl) rfl ?_
            refine r_goto (tgt := 35) C d_BT_price_82 rfl ?_
            refine r_sub [0, 2, 3, 4, 5, 6, 7] rfl ?_
            have h9 := ih (j + 1) (by omega)
            rw [show min (j + 1) (z_nL s) = z_nL s by omega] at h9
            exact h9
      refine r_aload C d_BT_price_25 rfl ?_
      refine r_getN C hq_Bid d_BT_price_27 (j := 2) (Nat.le_of_ble_eq_true rfl) mf_BT_182 (kp_15 P (hi)) rfl ?_
      refine r_lstore (lv' := [(7, _), (6, _), (0, _), (1, _), (2, _), (4, _)]) C d_BT_price_30 (Nat.le_of_ble_eq_true rfl) rfl ?_
      refine r_iconst (v := 0) C d_BT_price_32 rfl ?_
      refine r_istore (lv' := [(9, _), (7, _), (6, _), (0, _), (1, _), (2, _), (4, _)]) C d_BT_price_33 (Nat.le_of_ble_eq_true rfl) rfl ?_
      have h9 := L 8 0 rfl
      rw [show min 0 (z_nL s) = 0 by omega] at h9
      exact h9
    · skip
      rw [bI_0] at c_18
      refine r_ldc2 C d_BT_price_21 mn_BT_180 ?_
      refine r_lret C E rfl d_BT_price_24 (Nat.le_of_ble_eq_true rfl) (Nat.le_of_ble_eq_true rfl) ?_
      exact ⟨by simp [za_price, win_some hz, c_18], rfl⟩

/-- the lots of the winners below n, as a number -/
def zw_or (s : zS) : Nat → Nat
  | 0 => 0
  | n + 1 => bif z_w s n then zw_or s n ||| z_ls s n else zw_or s n
def zw_ct (s : zS) (b : Nat) : Nat → Nat := zc_sum (fun j => bif z_w s j && decide (z_ow s j = b) then z_lots s j else 0)
set_option maxHeartbeats 4000000 in
set_option maxRecDepth 100000 in
theorem k_BT_lotsWon (Y : hY) (l : Launch) {ad : Nat → Nat → Nat} {s : zS} {x : kX} {t : Bool} {f : hw_F} (P : kPic Y ad s x t f) (N : zN s) (W : kW s x) : hM Y l y_BT_lotsWon S_BT_lotsWon (some .int) [.ref (ad 0 0)] f (fun r f' => r = some (.int (nI (zw_or s (z_nD s)))) ∧ f' = f) := by
  refine hM.of (by decide) rfl (Nat.le_of_ble_eq_true rfl) ?_
  intro X hl hnm C E
  show hG Y X S_BT_lotsWon 0 0 f [(0, .ref (ad 0 0))] [] 0
  have L : ∀ d j, j + d = 12 → hG Y X S_BT_lotsWon 0 0 f [(4, .int (nI (j))), (3, .int 12), (2, .ref (ad 3 0)), (1, .int (nI (zw_or s (min (j) (z_nD s))))), (0, .ref (ad 0 0))] [] 13 := by
    intro d
    induction d with
    | zero =>
      intro j hj
      obtain rfl : j = 12 := by omega
      rw [show min 12 (z_nD s) = z_nD s by have := N.2.2.1; omega]
      refine r_iload C d_BT_lotsWon_13 rfl ?_
      refine r_iload_n C d_BT_lotsWon_15 rfl rfl ?_
      refine r_icmp_ge (tgt := 56) C d_BT_lotsWon_16 rfl (fun _ => ?_) (fun hz => absurd (show (12 : Int32) ≤ nI 12 by decide) hz)
      refine r_iload_n C d_BT_lotsWon_56 rfl rfl ?_
      refine r_iret C E rfl d_BT_lotsWon_57 (Nat.le_of_ble_eq_true rfl) (Nat.le_of_ble_eq_true rfl) ?_
      exact ⟨rfl, rfl⟩
    | succ d ih =>
      intro j hj
      rcases Nat.lt_or_ge j (z_nD s) with hn | hn
      · rw [show min j (z_nD s) = j by omega]
        refine r_iload C d_BT_lotsWon_13 rfl ?_
        refine r_iload_n C d_BT_lotsWon_15 rfl rfl ?_
        refine r_icmp_ge (tgt := 56) C d_BT_lotsWon_16 rfl (fun hz => absurd hz (nI_ge (a := j) (b := 12) (by omega) (by decide))) (fun _ => ?_)
        refine r_aload_n C d_BT_lotsWon_19 rfl rfl ?_
        refine r_iload C d_BT_lotsWon_20 rfl ?_
        refine r_aald (t0 := 5) C d_BT_lotsWon_22 (kp_3 P) rfl (rfl) (by omega) (by decide) (if_pos hn) ?_
        refine r_astore (lv' := [(5, _), (4, _), (3, _), (2, _), (1, _), (0, _)]) C d_BT_lotsWon_23 (Nat.le_of_ble_eq_true rfl) rfl ?_
        refine r_aload C d_BT_lotsWon_25 rfl ?_
        refine r_ifnull C d_BT_lotsWon_27 ?_
        refine r_aload_n C d_BT_lotsWon_30 rfl rfl ?_
        refine r_get C hq_BT d_BT_lotsWon_31 (j := 6) (Nat.le_of_ble_eq_true rfl) mf_BT_43 (kp_0 P) rfl ?_
        refine r_aload C d_BT_lotsWon_34 rfl ?_
        refine r_callV C (k_Sea_hasWinner Y _ _ _ _ _ _ _ _ (kp_7 P) _ _ _ _ _ (kp_15 P hn)) mQ_Sea_hasWinner d_BT_lotsWon_36 ml_BT_244 mi_Sea_hasWinner mv_Sea_hasWinner (kp_7 P) rfl rfl rfl rfl (Nat.le_of_ble_eq_true rfl) ⟨⟨Nat.le_of_ble_eq_true rfl, Nat.le_of_ble_eq_true rfl⟩, Nat.le_of_ble_eq_true rfl, Nat.le_of_ble_eq_true rfl⟩ (fun v f' hp => ?_)
        obtain ⟨rfl, hf⟩ := hp
        replace hf := hf.symm
        subst hf
        refine r_if_eq (tgt := 50) C d_BT_lotsWon_39 rfl (fun c_39 => ?_) (fun c_39 => ?_)
        · skip
          rw [bI_0, W j (by omega)] at c_39
          rw [show zw_or s j = zw_or s (j + 1) by simp [zw_or, c_39]]
          refine r_iinc (v := nI (j + 1)) (lv' := [(4, _), (5, _), (3, _), (2, _), (1, _), (0, _)]) C d_BT_lotsWon_50 rfl (nI_1 j) (Nat.le_of_ble_eq_true rfl) rfl ?_
          refine r_goto (tgt := 13) C d_BT_lotsWon_53 rfl ?_
          refine r_sub [0, 2, 3, 4, 5] rfl ?_
          have h9 := ih (j + 1) (by omega)
          rw [show min (j + 1) (z_nD s) = j + 1 by omega] at h9
          exact h9
        · skip
          rw [bI_n0, W j (by omega)] at c_39
          refine r_iload_n C d_BT_lotsWon_42 rfl rfl ?_
          refine r_aload C d_BT_lotsWon_43 rfl ?_
          refine r_getN C hq_Bid d_BT_lotsWon_45 (j := 3) (Nat.le_of_ble_eq_true rfl) mf_BT_108 (kp_15 P (hn)) rfl ?_
          refine r_ior C d_BT_lotsWon_48 ?_
          refine r_istore_n (lv' := [(1, _), (5, _), (4, _), (3, _), (2, _), (0, _)]) C d_BT_lotsWon_49 rfl (Nat.le_of_ble_eq_true rfl) rfl ?_
          rw [nI_or, show zw_or s j ||| z_ls s j = zw_or s (j + 1) by simp [zw_or, c_39]]
          refine r_iinc (v := nI (j + 1)) (lv' := [(4, _), (1, _), (5, _), (3, _), (2, _), (0, _)]) C d_BT_lotsWon_50 rfl (nI_1 j) (Nat.le_of_ble_eq_true rfl) rfl ?_
          refine r_goto (tgt := 13) C d_BT_lotsWon_53 rfl ?_
          refine r_sub [0, 3, 4, 1, 5] rfl ?_
          have h9 := ih (j + 1) (by omega)
          rw [show min (j + 1) (z_nD s) = j + 1 by omega] at h9
          exact h9
      · rw [show min j (z_nD s) = z_nD s by omega]
        refine r_iload C d_BT_lotsWon_13 rfl ?_
        refine r_iload_n C d_BT_lotsWon_15 rfl rfl ?_
        refine r_icmp_ge (tgt := 56) C d_BT_lotsWon_16 rfl (fun hz => absurd hz (nI_ge (a := j) (b := 12) (by omega) (by decide))) (fun _ => ?_)
        refine r_aload_n C d_BT_lotsWon_19 rfl rfl ?_
        refine r_iload C d_BT_lotsWon_20 rfl ?_
        refine r_aald (t0 := 5) C d_BT_lotsWon_22 (kp_3 P) rfl (rfl) (by omega) (by decide) (if_neg (by omega)) ?_
        refine r_astoreN (lv' := [(5, _), (4, _), (3, _), (2, _), (1, _), (0, _)]) C d_BT_lotsWon_23 (Nat.le_of_ble_eq_true rfl) rfl ?_
        refine r_aloadN C d_BT_lotsWon_25 rfl ?_
        refine r_ifnullN (tgt := 50) C d_BT_lotsWon_27 rfl ?_
        refine r_iinc (v := nI (j + 1)) (lv' := [(4, _), (5, _), (3, _), (2, _), (1, _), (0, _)]) C d_BT_lotsWon_50 rfl (nI_1 j) (Nat.le_of_ble_eq_true rfl) rfl ?_
        refine r_goto (tgt := 13) C d_BT_lotsWon_53 rfl ?_
        refine r_sub [0, 2, 3, 4, 5] rfl ?_
        have h9 := ih (j + 1) (by omega)
        rw [show min (j + 1) (z_nD s) = z_nD s by omega] at h9
        exact h9
  refine r_iconst (v := 0) C d_BT_lotsWon_0 rfl ?_
  refine r_istore_n (lv' := [(1, _), (0, _)]) C d_BT_lotsWon_1 rfl (Nat.le_of_ble_eq_true rfl) rfl ?_
  refine r_aload_n C d_BT_lotsWon_2 rfl rfl ?_
  refine r_get C hq_BT d_BT_lotsWon_3 (j := 2) (Nat.le_of_ble_eq_true rfl) mf_BT_23 (kp_0 P) rfl ?_
  refine r_astore_n (lv' := [(2, _), (1, _), (0, _)]) C d_BT_lotsWon_6 rfl (Nat.le_of_ble_eq_true rfl) rfl ?_
  refine r_aload_n C d_BT_lotsWon_7 rfl rfl ?_
  refine r_alen (t0 := 5) (v := 12) C d_BT_lotsWon_8 (kp_3 P) rfl rfl ?_
  refine r_istore_n (lv' := [(3, _), (2, _), (1, _), (0, _)]) C d_BT_lotsWon_9 rfl (Nat.le_of_ble_eq_true rfl) rfl ?_
  refine r_iconst (v := 0) C d_BT_lotsWon_10 rfl ?_
  refine r_istore (lv' := [(4, _), (3, _), (2, _), (1, _), (0, _)]) C d_BT_lotsWon_11 (Nat.le_of_ble_eq_true rfl) rfl ?_
  have h9 := L 12 0 rfl
  rw [show min 0 (z_nD s) = 0 by omega] at h9
  exact h9

set_option maxHeartbeats 4000000 in
set_option maxRecDepth 100000 in
theorem k_BT_lotTallyWonBy (Y : hY) (l : Launch) {ad : Nat → Nat → Nat} {s : zS} {x : kX} {t : Bool} {f : hw_F} (P : kPic Y ad s x t f) (N : zN s) (W : kW s x) {i : Nat} (hi : i < z_nB s) : hM Y l y_BT_lotTallyWonBy S_BT_lotTallyWonBy (some .int) [.ref (ad 0 0), .ref (ad 14 i)] f (fun r f' => r = some (.int (nI (zw_ct s i (z_nD s)))) ∧ f' = f) := by
  refine hM.of (by decide) rfl (Nat.le_of_ble_eq_true rfl) ?_
  intro X hl hnm C E
  show hG Y X S_BT_lotTallyWonBy 0 0 f [(0, .ref (ad 0 0)), (1, .ref (ad 14 i))] [] 0
  have L : ∀ d j, j + d = 12 → hG Y X S_BT_lotTallyWonBy 0 0 f [(5, .int (nI (j))), (4, .int 12), (3, .ref (ad 3 0)), (2, .int (nI (zw_ct s i (min (j) (z_nD s))))), (0, .ref (ad 0 0)), (1, .ref (ad 14 i))] [] 14 := by
    intro d
    induction d with
    | zero =>
      intro j hj
      obtain rfl : j = 12 := by omega
      rw [show min 12 (z_nD s) = z_nD s by have := N.2.2.1; omega]
      refine r_iload C d_BT_lotTallyWonBy_14 rfl ?_
      refine r_iload C d_BT_lotTallyWonBy_16 rfl ?_
      refine r_icmp_ge (tgt := 67) C d_BT_lotTallyWonBy_18 rfl (fun _ => ?_) (fun hz => absurd (show (12 : Int32) ≤ nI 12 by decide) hz)
      refine r_iload_n C d_BT_lotTallyWonBy_67 rfl rfl ?_
      refine r_iret C E rfl d_BT_lotTallyWonBy_68 (Nat.le_of_ble_eq_true rfl) (Nat.le_of_ble_eq_true rfl) ?_
      exact ⟨rfl, rfl⟩
    | succ d ih =>
      intro j hj
      rcases Nat.lt_or_ge j (z_nD s) with hn | hn
      · rw [show min j (z_nD s) = j by omega]
        refine r_iload C d_BT_lotTallyWonBy_14 rfl ?_
        refine r_iload C d_BT_lotTallyWonBy_16 rfl ?_
        refine r_icmp_ge (tgt := 67) C d_BT_lotTallyWonBy_18 rfl (fun hz => absurd hz (nI_ge (a := j) (b := 12) (by omega) (by decide))) (fun _ => ?_)
        refine r_aload_n C d_BT_lotTallyWonBy_21 rfl rfl ?_
        refine r_iload C d_BT_lotTallyWonBy_22 rfl ?_
        refine r_aald (t0 := 5) C d_BT_lotTallyWonBy_24 (kp_3 P) rfl (rfl) (by omega) (by decide) (if_pos hn) ?_
        refine r_astore (lv' := [(6, _), (5, _), (4, _), (3, _), (2, _), (0, _), (1, _)]) C d_BT_lotTallyWonBy_25 (Nat.le_of_ble_eq_true rfl) rfl ?_
        refine r_aload C d_BT_lotTallyWonBy_27 rfl ?_
        refine r_ifnull C d_BT_lotTallyWonBy_29 ?_
        refine r_aload C d_BT_lotTallyWonBy_32 rfl ?_
        refine r_getN C hq_Bid d_BT_lotTallyWonBy_34 (j := 1) (Nat.le_of_ble_eq_true rfl) mf_BT_97 (kp_15 P (hn)) rfl ?_
        refine r_aload_n C d_BT_lotTallyWonBy_37 rfl rfl ?_
        refine r_acmp_ne (tgt := 61) C d_BT_lotTallyWonBy_38 rfl (fun c_38 => ?_) (fun c_38 => ?_)
        · skip
          have c38 : z_ow s j ≠ i := fun h => c_38 (by rw [h])
          rw [show zw_ct s i j = zw_ct s i (j + 1) by simp [zw_ct, zc_sum, c38]]
          refine r_iinc (v := nI (j + 1)) (lv' := [(5, _), (6, _), (4, _), (3, _), (2, _), (0, _), (1, _)]) C d_BT_lotTallyWonBy_61 rfl (nI_1 j) (Nat.le_of_ble_eq_true rfl) rfl ?_
          refine r_goto (tgt := 14) C d_BT_lotTallyWonBy_64 rfl ?_
          refine r_sub [0, 2, 3, 4, 5, 6] rfl ?_
          have h9 := ih (j + 1) (by omega)
          rw [show min (j + 1) (z_nD s) = j + 1 by omega] at h9
          exact h9
        · skip
          have c38 : z_ow s j = i := (P.2 14 _ 14 _ (Or.inr (Or.inr (Or.inl ⟨rfl, (N.2.2.2.2.1 j hn)⟩))) (Or.inr (Or.inr (Or.inl ⟨rfl, hi⟩))) c_38).2
          refine r_aload_n C d_BT_lotTallyWonBy_41 rfl rfl ?_
          refine r_get C hq_BT d_BT_lotTallyWonBy_42 (j := 6) (Nat.le_of_ble_eq_true rfl) mf_BT_43 (kp_0 P) rfl ?_
          refine r_aload C d_BT_lotTallyWonBy_45 rfl ?_
          refine r_callV C (k_Sea_hasWinner Y _ _ _ _ _ _ _ _ (kp_7 P) _ _ _ _ _ (kp_15 P hn)) mQ_Sea_hasWinner d_BT_lotTallyWonBy_47 ml_BT_244 mi_Sea_hasWinner mv_Sea_hasWinner (kp_7 P) rfl rfl rfl rfl (Nat.le_of_ble_eq_true rfl) ⟨⟨Nat.le_of_ble_eq_true rfl, Nat.le_of_ble_eq_true rfl⟩, Nat.le_of_ble_eq_true rfl, Nat.le_of_ble_eq_true rfl⟩ (fun v f' hp => ?_)
          obtain ⟨rfl, hf⟩ := hp
          replace hf := hf.symm
          subst hf
          refine r_if_eq (tgt := 61) C d_BT_lotTallyWonBy_50 rfl (fun c_50 => ?_) (fun c_50 => ?_)
          · skip
            rw [bI_0, W j (by omega)] at c_50
            rw [show zw_ct s i j = zw_ct s i (j + 1) by simp [zw_ct, zc_sum, c_50]]
            refine r_iinc (v := nI (j + 1)) (lv' := [(5, _), (6, _), (4, _), (3, _), (2, _), (0, _), (1, _)]) C d_BT_lotTallyWonBy_61 rfl (nI_1 j) (Nat.le_of_ble_eq_true rfl) rfl ?_
            refine r_goto (tgt := 14) C d_BT_lotTallyWonBy_64 rfl ?_
            refine r_sub [0, 2, 3, 4, 5, 6] rfl ?_
            have h9 := ih (j + 1) (by omega)
            rw [show min (j + 1) (z_nD s) = j + 1 by omega] at h9
            exact h9
          · skip
            rw [bI_n0, W j (by omega)] at c_50
            refine r_iload_n C d_BT_lotTallyWonBy_53 rfl rfl ?_
            refine r_aload C d_BT_lotTallyWonBy_54 rfl ?_
            refine r_callV C (k_Bid_lotTally Y _ _ _ _ _ _ _ (kp_15 P hn)) mQ_Bid_lotTally d_BT_lotTallyWonBy_56 ml_BT_271 mi_Bid_lotTally mv_Bid_lotTally (kp_15 P hn) rfl rfl rfl rfl (Nat.le_of_ble_eq_true rfl) ⟨⟨Nat.le_of_ble_eq_true rfl, Nat.le_of_ble_eq_true rfl⟩, Nat.le_of_ble_eq_true rfl, Nat.le_of_ble_eq_true rfl⟩ (fun v f' hp => ?_)
            obtain ⟨rfl, hf⟩ := hp
            replace hf := hf.symm
            subst hf
            refine r_iadd C d_BT_lotTallyWonBy_59 ?_
            refine r_istore_n (lv' := [(2, _), (6, _), (5, _), (4, _), (3, _), (0, _), (1, _)]) C d_BT_lotTallyWonBy_60 rfl (Nat.le_of_ble_eq_true rfl) rfl ?_
            rw [show z_ls s j = zb_m _ 8 from rfl, k_bc_m (by decide), nI_add, show zw_ct s i j + zc_cnt (fun l => z_h s (8 * j + l)) 8 = zw_ct s i (j + 1) by simp [zw_ct, zc_sum, c_50, c38, z_lots]]
            refine r_iinc (v := nI (j + 1)) (lv' := [(5, _), (2, _), (6, _), (4, _), (3, _), (0, _), (1, _)]) C d_BT_lotTallyWonBy_61 rfl (nI_1 j) (Nat.le_of_ble_eq_true rfl) rfl ?_
            refine r_goto (tgt := 14) C d_BT_lotTallyWonBy_64 rfl ?_
            refine r_sub [0, 3, 4, 1, 5, 6] rfl ?_
            have h9 := ih (j + 1) (by omega)
            rw [show min (j + 1) (z_nD s) = j + 1 by omega] at h9
            exact h9
      · rw [show min j (z_nD s) = z_nD s by omega]
        refine r_iload C d_BT_lotTallyWonBy_14 rfl ?_
        refine r_iload C d_BT_lotTallyWonBy_16 rfl ?_
        refine r_icmp_ge (tgt := 67) C d_BT_lotTallyWonBy_18 rfl (fun hz => absurd hz (nI_ge (a := j) (b := 12) (by omega) (by decide))) (fun _ => ?_)
        refine r_aload_n C d_BT_lotTallyWonBy_21 rfl rfl ?_
        refine r_iload C d_BT_lotTallyWonBy_22 rfl ?_
        refine r_aald (t0 := 5) C d_BT_lotTallyWonBy_24 (kp_3 P) rfl (rfl) (by omega) (by decide) (if_neg (by omega)) ?_
        refine r_astoreN (lv' := [(6, _), (5, _), (4, _), (3, _), (2, _), (0, _), (1, _)]) C d_BT_lotTallyWonBy_25 (Nat.le_of_ble_eq_true rfl) rfl ?_
        refine r_aloadN C d_BT_lotTallyWonBy_27 rfl ?_
        refine r_ifnullN (tgt := 61) C d_BT_lotTallyWonBy_29 rfl ?_
        refine r_iinc (v := nI (j + 1)) (lv' := [(5, _), (6, _), (4, _), (3, _), (2, _), (0, _), (1, _)]) C d_BT_lotTallyWonBy_61 rfl (nI_1 j) (Nat.le_of_ble_eq_true rfl) rfl ?_
        refine r_goto (tgt := 14) C d_BT_lotTallyWonBy_64 rfl ?_
        refine r_sub [0, 2, 3, 4, 5, 6] rfl ?_
        have h9 := ih (j + 1) (by omega)
        rw [show min (j + 1) (z_nD s) = z_nD s by omega] at h9
        exact h9
  refine r_iconst (v := 0) C d_BT_lotTallyWonBy_0 rfl ?_
  refine r_istore_n (lv' := [(2, _), (0, _), (1, _)]) C d_BT_lotTallyWonBy_1 rfl (Nat.le_of_ble_eq_true rfl) rfl ?_
  refine r_aload_n C d_BT_lotTallyWonBy_2 rfl rfl ?_
  refine r_get C hq_BT d_BT_lotTallyWonBy_3 (j := 2) (Nat.le_of_ble_eq_true rfl) mf_BT_23 (kp_0 P) rfl ?_
  refine r_astore_n (lv' := [(3, _), (2, _), (0, _), (1, _)]) C d_BT_lotTallyWonBy_6 rfl (Nat.le_of_ble_eq_true rfl) rfl ?_
  refine r_aload_n C d_BT_lotTallyWonBy_7 rfl rfl ?_
  refine r_alen (t0 := 5) (v := 12) C d_BT_lotTallyWonBy_8 (kp_3 P) rfl rfl ?_
  refine r_istore (lv' := [(4, _), (3, _), (2, _), (0, _), (1, _)]) C d_BT_lotTallyWonBy_9 (Nat.le_of_ble_eq_true rfl) rfl ?_
  refine r_iconst (v := 0) C d_BT_lotTallyWonBy_11 rfl ?_
  refine r_istore (lv' := [(5, _), (4, _), (3, _), (2, _), (0, _), (1, _)]) C d_BT_lotTallyWonBy_12 (Nat.le_of_ble_eq_true rfl) rfl ?_
  have h9 := L 12 0 rfl
  rw [show min 0 (z_nD s) = 0 by omega] at h9
  exact h9

