theorem df_Bdr : ∀ j, j < 7 → defaultValue (ty_Bdr j) = vp_V [.int 0, .int 0, .int 0, .long 0, .int 0, .long 0, .int 0] j := by decide +kernel
theorem df_Bid : ∀ j, j < 4 → defaultValue (ty_Bid j) = vp_V [.int 0, .null, .long 0, .int 0] j := by decide +kernel
theorem df_Dis : ∀ j, j < 2 → defaultValue (ty_Dis j) = vp_V [.null, .int 0] j := by decide +kernel
theorem df_Lot : ∀ j, j < 4 → defaultValue (ty_Lot j) = vp_V [.null, .null, .null, .int 0] j := by decide +kernel
set_option maxHeartbeats 4000000 in
set_option maxRecDepth 100000 in
theorem k_BT_bidder (Y : hY) (l : Launch) {ad : Nat → Nat → Nat} {s : zS} {x : kX} {t : Bool} {f : hw_F} (P : kPic Y ad s x t f) (N : zN s) (T : kT s t) (F : zF s) (b : Bool) : hM Y l y_BT_bidder S_BT_bidder (some .int) [.ref (ad 0 0), .int (bI b)] f (fun r f' => r = some (.int ((za_bdr s b).1)) ∧ kOut Y (ad 0 0) (za_bdr s b).2 x f') := by
  refine hM.of (by decide) rfl (Nat.le_of_ble_eq_true rfl) ?_
  intro X hl hnm C E
  show hG Y X S_BT_bidder 0 0 f [(0, .ref (ad 0 0)), (1, .int (bI b))] [] 0
  refine r_aload_n C d_BT_bidder_0 rfl rfl ?_
  refine r_get C hq_BT d_BT_bidder_1 (j := 8) (Nat.le_of_ble_eq_true rfl) mf_BT_62 (kp_0 P) rfl ?_
  refine r_bipush (v := 6) C d_BT_bidder_4 rfl ?_
  refine r_icmp_lt (tgt := 11) C d_BT_bidder_6 rfl (fun c_6 => ?_) (fun c_6 => ?_)
  · skip
    have c6 : z_nB s < 6 := (nI_ltI (by have := N.2.1; omega) (by decide)).mp c_6
    have hq9 : za_bdr s b = (nI (z_nB s), zu_bdr s b) := by simp [za_bdr, c6]
    refine r_aload_n C d_BT_bidder_11 rfl rfl ?_
    refine r_get C hq_BT d_BT_bidder_12 (j := 8) (Nat.le_of_ble_eq_true rfl) mf_BT_62 (kp_0 P) rfl ?_
    refine r_istore_n (lv' := [(2, _), (0, _), (1, _)]) C d_BT_bidder_15 rfl (Nat.le_of_ble_eq_true rfl) rfl ?_
    refine r_aload_n C d_BT_bidder_16 rfl rfl ?_
    refine r_get C hq_BT d_BT_bidder_17 (j := 1) (Nat.le_of_ble_eq_true rfl) mf_BT_17 (kp_0 P) rfl ?_
    refine r_iload_n C d_BT_bidder_20 rfl rfl ?_
    refine r_new C hq_Bdr d_BT_bidder_21 mk_BT_15 mb_Bdr mz_Bdr ty_Bdr_ok df_Bdr (Nat.le_of_ble_eq_true rfl) (Nat.le_of_ble_eq_true rfl) (fun q hq => ?_)
    have hne : ∀ k i, kV s k i → ad k i ≠ q := fun k i h => kFresh P hq h
    refine r_dup C d_BT_bidder_24 rfl ?_
    refine r_iload_n C d_BT_bidder_25 rfl rfl ?_
    refine r_iload_n C d_BT_bidder_26 rfl rfl ?_
    refine r_callI C (k_Bdr_init Y _ (hw_us _ _ _) _ b) mQ_Bdr_init d_BT_bidder_27 ml_BT_65 mi_Bdr_init rfl rfl rfl (Nat.le_of_ble_eq_true rfl) ⟨⟨Nat.le_of_ble_eq_true rfl, Nat.le_of_ble_eq_true rfl⟩, Nat.le_of_ble_eq_true rfl, Nat.le_of_ble_eq_true rfl⟩ (fun v f' hp => ?_)
    obtain ⟨rfl, rfl⟩ := hp
    rw [hw_uu]
    refine r_aast (t0 := 4) C d_BT_bidder_30 ((hw_un _ (hne 2 0 (Or.inl ⟨by decide, rfl⟩))).trans (kp_2 P)) rfl (hw_us _ _ _) rfl rfl (c6) (by decide) ?_
    refine r_aload_n C d_BT_bidder_31 rfl rfl ?_
    refine r_dup C d_BT_bidder_32 rfl ?_
    refine r_get C hq_BT d_BT_bidder_33 (j := 8) (Nat.le_of_ble_eq_true rfl) mf_BT_62 (((hw_un _ (kNe P (Or.inl ⟨by decide, rfl⟩) (Or.inl ⟨by decide, rfl⟩) (by decide))).trans ((hw_un _ (hne 0 0 (Or.inl ⟨by decide, rfl⟩))).trans (kp_0 P)))) rfl ?_
    refine r_iconst (v := 1) C d_BT_bidder_36 rfl ?_
    refine r_iadd C d_BT_bidder_37 ?_
    refine r_put C hq_BT d_BT_bidder_38 (j := 8) (fs' := [_, _, _, _, _, _, _, _, _, _, _, _]) (Nat.le_of_ble_eq_true rfl) mf_BT_62 rfl rfl rfl rfl (((hw_un _ (kNe P (Or.inl ⟨by decide, rfl⟩) (Or.inl ⟨by decide, rfl⟩) (by decide))).trans ((hw_un _ (hne 0 0 (Or.inl ⟨by decide, rfl⟩))).trans (kp_0 P)))) (Nat.le_of_ble_eq_true rfl) rfl ?_
    refine r_aload_n C d_BT_bidder_41 rfl rfl ?_
    refine r_iconst (v := 1) C d_BT_bidder_42 rfl ?_
    refine r_put C hq_BT d_BT_bidder_43 (j := 11) (fs' := [_, _, _, _, _, _, _, _, _, _, _, _]) (Nat.le_of_ble_eq_true rfl) mf_BT_58 rfl rfl rfl rfl (hw_us _ _ _) (Nat.le_of_ble_eq_true rfl) rfl ?_
    refine r_iload_n C d_BT_bidder_46 rfl rfl ?_
    refine r_iret C E rfl d_BT_bidder_47 (Nat.le_of_ble_eq_true rfl) (Nat.le_of_ble_eq_true rfl) ?_
    rw [hq9]
    refine ⟨rfl, hAd ad 14 (z_nB s) q, true, hAd_n q (by omega), ?_, kT_t _ rfl⟩
    rw [hw_uu, nI_1]
    exact kp_addB P N F hq b
  · skip
    have c6 : ¬ z_nB s < 6 := fun h => c_6 (nI_lt (b := 6) h (by decide))
    have hq9 : za_bdr s b = (-1, s) := by simp [za_bdr, c6]
    refine r_iconst (v := (-1)) C d_BT_bidder_9 rfl ?_
    refine r_iret C E rfl d_BT_bidder_10 (Nat.le_of_ble_eq_true rfl) (Nat.le_of_ble_eq_true rfl) ?_
    rw [hq9]
    exact ⟨rfl, ad, t, rfl, P, T⟩

set_option maxHeartbeats 4000000 in
set_option maxRecDepth 100000 in
theorem k_BT_bid (Y : hY) (l : Launch) {ad : Nat → Nat → Nat} {s : zS} {x : kX} {t : Bool} {f : hw_F} (P : kPic Y ad s x t f) (N : zN s) (T : kT s t) (F : zF s) (O : ∀ p j, x.2.1 p = some j → j < z_nD s) (y : Int32) (v : Int64) : hM Y l y_BT_bid S_BT_bid (some .int) [.ref (ad 0 0), .int y, .long v] f (fun r f' => r = some (.int ((za_bid s y v).1)) ∧ kOut Y (ad 0 0) (za_bid s y v).2 x f') := by
  refine hM.of (by decide) rfl (Nat.le_of_ble_eq_true rfl) ?_
  intro X hl hnm C E
  show hG Y X S_BT_bid 0 0 f [(0, .ref (ad 0 0)), (1, .int y), (2, .long v)] [] 0
  refine r_aload_n C d_BT_bid_0 rfl rfl ?_
  refine r_iload_n C d_BT_bid_1 rfl rfl ?_
  refine r_callV C (k_BT_unopenedAt Y _ P N _) mQ_BT_unopenedAt d_BT_bid_2 ml_BT_68 mi_BT_unopenedAt mv_BT_unopenedAt (kp_0 P) rfl rfl rfl rfl (Nat.le_of_ble_eq_true rfl) ⟨⟨Nat.le_of_ble_eq_true rfl, Nat.le_of_ble_eq_true rfl⟩, Nat.le_of_ble_eq_true rfl, Nat.le_of_ble_eq_true rfl⟩ (fun v f' hp => ?_)
  obtain ⟨rfl, hf⟩ := hp
  replace hf := hf.symm
  subst hf
  rcases unop_case N y with hz | ⟨i, hi, rfl, hz, ho⟩
  · rw [hz]
    refine r_astoreN (lv' := [(4, _), (0, _), (1, _), (2, _)]) C d_BT_bid_5 (Nat.le_of_ble_eq_true rfl) rfl ?_
    refine r_aloadN C d_BT_bid_7 rfl ?_
    refine r_ifnullN (tgt := 32) C d_BT_bid_9 rfl ?_
    refine r_iconst (v := (-1)) C d_BT_bid_32 rfl ?_
    refine r_iret C E rfl d_BT_bid_33 (Nat.le_of_ble_eq_true rfl) (Nat.le_of_ble_eq_true rfl) ?_
    have hq9 : za_bid s y v = (-1, s) := by simp [za_bid, hz]
    rw [hq9]
    exact ⟨rfl, ad, t, rfl, P, T⟩
  · rw [hz]
    refine r_astore (lv' := [(4, _), (0, _), (1, _), (2, _)]) C d_BT_bid_5 (Nat.le_of_ble_eq_true rfl) rfl ?_
    refine r_aload C d_BT_bid_7 rfl ?_
    refine r_ifnull C d_BT_bid_9 ?_
    refine r_aload_n C d_BT_bid_12 rfl rfl ?_
    refine r_get C hq_BT d_BT_bid_13 (j := 9) (Nat.le_of_ble_eq_true rfl) mf_BT_81 (kp_0 P) rfl ?_
    refine r_bipush (v := 12) C d_BT_bid_16 rfl ?_
    refine r_icmp_ge (tgt := 32) C d_BT_bid_18 rfl (fun c_18 => ?_) (fun c_18 => ?_)
    · skip
      have c18 : ¬ z_nD s < 12 := fun h => absurd c_18 (nI_ge (b := 12) h (by decide))
      have hq9 : za_bid s (nI i) v = (-1, s) := by simp [za_bid, hz, c18]
      refine r_iconst (v := (-1)) C d_BT_bid_32 rfl ?_
      refine r_iret C E rfl d_BT_bid_33 (Nat.le_of_ble_eq_true rfl) (Nat.le_of_ble_eq_true rfl) ?_
      rw [hq9]
      exact ⟨rfl, ad, t, rfl, P, T⟩
    · skip
      have c18 : z_nD s < 12 := by
        rcases Nat.lt_or_ge (z_nD s) 12 with h | h
        · exact h
        · exact absurd (nI_le (a := 12) h (by have := N.2.2.1; omega)) c_18
      refine r_lload_n C d_BT_bid_21 rfl rfl ?_
      refine r_lconst (v := 0) C d_BT_bid_22 rfl ?_
      refine r_ldc2 C d_BT_bid_23 mn_BT_84 ?_
      refine r_callS C (k_BT_within Y _ _ _ _ _) mQ_BT_within d_BT_bid_26 ml_BT_53 mt_BT_within rfl rfl (Nat.le_of_ble_eq_true rfl) ⟨⟨Nat.le_of_ble_eq_true rfl, Nat.le_of_ble_eq_true rfl⟩, Nat.le_of_ble_eq_true rfl, Nat.le_of_ble_eq_true rfl⟩ (fun v f' hp => ?_)
      obtain ⟨rfl, hf⟩ := hp
      replace hf := hf.symm
      subst hf
      refine r_if_ne (tgt := 34) C d_BT_bid_29 rfl (fun c_29 => ?_) (fun c_29 => ?_)
      · skip
        rw [bI_n0] at c_29
        have hq9 : za_bid s (nI i) v = (nI (z_nD s), zu_bid s i v) := by simp [za_bid, hz, c18, c_29]
        refine r_aload_n C d_BT_bid_34 rfl rfl ?_
        refine r_get C hq_BT d_BT_bid_35 (j := 9) (Nat.le_of_ble_eq_true rfl) mf_BT_81 (kp_0 P) rfl ?_
        refine r_istore (lv' := [(5, _), (4, _), (0, _), (1, _), (2, _)]) C d_BT_bid_38 (Nat.le_of_ble_eq_true rfl) rfl ?_
        refine r_aload_n C d_BT_bid_40 rfl rfl ?_
        refine r_get C hq_BT d_BT_bid_41 (j := 2) (Nat.le_of_ble_eq_true rfl) mf_BT_23 (kp_0 P) rfl ?_
        refine r_iload C d_BT_bid_44 rfl ?_
        refine r_new C hq_Bid d_BT_bid_46 mk_BT_21 mb_Bid mz_Bid ty_Bid_ok df_Bid (Nat.le_of_ble_eq_true rfl) (Nat.le_of_ble_eq_true rfl) (fun q hq => ?_)
        have hne : ∀ k i, kV s k i → ad k i ≠ q := fun k i h => kFresh P hq h
        refine r_dup C d_BT_bid_49 rfl ?_
        refine r_iload C d_BT_bid_50 rfl ?_
        refine r_aload C d_BT_bid_52 rfl ?_
        refine r_lload_n C d_BT_bid_54 rfl rfl ?_
        refine r_callI C (k_Bid_init Y _ (hw_us _ _ _) _ _ _) mQ_Bid_init d_BT_bid_55 ml_BT_86 mi_Bid_init rfl rfl rfl (Nat.le_of_ble_eq_true rfl) ⟨⟨Nat.le_of_ble_eq_true rfl, Nat.le_of_ble_eq_true rfl⟩, Nat.le_of_ble_eq_true rfl, Nat.le_of_ble_eq_true rfl⟩ (fun v f' hp => ?_)
        obtain ⟨rfl, rfl⟩ := hp
        rw [hw_uu]
        refine r_aast (t0 := 5) C d_BT_bid_58 ((hw_un _ (hne 3 0 (Or.inl ⟨by decide, rfl⟩))).trans (kp_3 P)) rfl (hw_us _ _ _) rfl rfl (c18) (by decide) ?_
        refine r_aload_n C d_BT_bid_59 rfl rfl ?_
        refine r_dup C d_BT_bid_60 rfl ?_
        refine r_get C hq_BT d_BT_bid_61 (j := 9) (Nat.le_of_ble_eq_true rfl) mf_BT_81 (((hw_un _ (kNe P (Or.inl ⟨by decide, rfl⟩) (Or.inl ⟨by decide, rfl⟩) (by decide))).trans ((hw_un _ (hne 0 0 (Or.inl ⟨by decide, rfl⟩))).trans (kp_0 P)))) rfl ?_
        refine r_iconst (v := 1) C d_BT_bid_64 rfl ?_
        refine r_iadd C d_BT_bid_65 ?_
        refine r_put C hq_BT d_BT_bid_66 (j := 9) (fs' := [_, _, _, _, _, _, _, _, _, _, _, _]) (Nat.le_of_ble_eq_true rfl) mf_BT_81 rfl rfl rfl rfl (((hw_un _ (kNe P (Or.inl ⟨by decide, rfl⟩) (Or.inl ⟨by decide, rfl⟩) (by decide))).trans ((hw_un _ (hne 0 0 (Or.inl ⟨by decide, rfl⟩))).trans (kp_0 P)))) (Nat.le_of_ble_eq_true rfl) rfl ?_
        refine r_aload_n C d_BT_bid_69 rfl rfl ?_
        refine r_iconst (v := 1) C d_BT_bid_70 rfl ?_
        refine r_put C hq_BT d_BT_bid_71 (j := 11) (fs' := [_, _, _, _, _, _, _, _, _, _, _, _]) (Nat.le_of_ble_eq_true rfl) mf_BT_58 rfl rfl rfl rfl (hw_us _ _ _) (Nat.le_of_ble_eq_true rfl) rfl ?_
        refine r_iload C d_BT_bid_74 rfl ?_
        refine r_iret C E rfl d_BT_bid_76 (Nat.le_of_ble_eq_true rfl) (Nat.le_of_ble_eq_true rfl) ?_
        rw [hq9]
        refine ⟨rfl, hAd ad 15 (z_nD s) q, true, hAd_n q (by omega), ?_, kT_t _ rfl⟩
        rw [hw_uu, nI_1]
        exact kp_addD P N F O hq v
      · skip
        rw [bI_0] at c_29
        have hq9 : za_bid s (nI i) v = (-1, s) := by simp [za_bid, hz, c_29]
        refine r_iconst (v := (-1)) C d_BT_bid_32 rfl ?_
        refine r_iret C E rfl d_BT_bid_33 (Nat.le_of_ble_eq_true rfl) (Nat.le_of_ble_eq_true rfl) ?_
        rw [hq9]
        exact ⟨rfl, ad, t, rfl, P, T⟩

set_option maxHeartbeats 4000000 in
set_option maxRecDepth 100000 in
theorem k_BT_dispute (Y : hY) (l : Launch) {ad : Nat → Nat → Nat} {s : zS} {x : kX} {t : Bool} {f : hw_F} (P : kPic Y ad s x t f) (N : zN s) (T : kT s t) (y w : Int32) : hM Y l y_BT_dispute S_BT_dispute (some .int) [.ref (ad 0 0), .int y, .int w] f (fun r f' => r = some (.int ((za_disp s y w).1)) ∧ kOut Y (ad 0 0) (za_disp s y w).2 x f') := by
  refine hM.of (by decide) rfl (Nat.le_of_ble_eq_true rfl) ?_
  intro X hl hnm C E
  show hG Y X S_BT_dispute 0 0 f [(0, .ref (ad 0 0)), (1, .int y), (2, .int w)] [] 0
  refine r_aload_n C d_BT_dispute_0 rfl rfl ?_
  refine r_iload_n C d_BT_dispute_1 rfl rfl ?_
  refine r_callV C (k_BT_bidAt Y _ P N _) mQ_BT_bidAt d_BT_dispute_2 ml_BT_89 mi_BT_bidAt mv_BT_bidAt (kp_0 P) rfl rfl rfl rfl (Nat.le_of_ble_eq_true rfl) ⟨⟨Nat.le_of_ble_eq_true rfl, Nat.le_of_ble_eq_true rfl⟩, Nat.le_of_ble_eq_true rfl, Nat.le_of_ble_eq_true rfl⟩ (fun v f' hp => ?_)
  obtain ⟨rfl, hf⟩ := hp
  replace hf := hf.symm
  subst hf
  rcases z_at_case y (n := z_nD s) (by have := N.2.2.1; omega) with ⟨hz, -⟩ | ⟨i, hi, rfl, hz⟩
  · rw [hz]
    refine r_astore_nN (lv' := [(3, _), (0, _), (1, _), (2, _)]) C d_BT_dispute_5 rfl (Nat.le_of_ble_eq_true rfl) rfl ?_
    refine r_aload_nN C d_BT_dispute_6 rfl rfl ?_
    refine r_ifnullN (tgt := 31) C d_BT_dispute_7 rfl ?_
    refine r_iconst (v := (-1)) C d_BT_dispute_31 rfl ?_
    refine r_iret C E rfl d_BT_dispute_32 (Nat.le_of_ble_eq_true rfl) (Nat.le_of_ble_eq_true rfl) ?_
    have hq9 : za_disp s y w = (-1, s) := by simp [za_disp, hz]
    rw [hq9]
    exact ⟨rfl, ad, t, rfl, P, T⟩
  · rw [hz]
    refine r_astore_n (lv' := [(3, _), (0, _), (1, _), (2, _)]) C d_BT_dispute_5 rfl (Nat.le_of_ble_eq_true rfl) rfl ?_
    refine r_aload_n C d_BT_dispute_6 rfl rfl ?_
    refine r_ifnull C d_BT_dispute_7 ?_
    refine r_aload_n C d_BT_dispute_10 rfl rfl ?_
    refine r_get C hq_BT d_BT_dispute_11 (j := 10) (Nat.le_of_ble_eq_true rfl) mf_BT_228 (kp_0 P) rfl ?_
    refine r_bipush (v := 20) C d_BT_dispute_14 rfl ?_
    refine r_icmp_ge (tgt := 31) C d_BT_dispute_16 rfl (fun c_16 => ?_) (fun c_16 => ?_)
    · skip
      have c16 : ¬ z_nP s < 20 := fun h => absurd c_16 (nI_ge (b := 20) h (by decide))
      have hq9 : za_disp s (nI i) w = (-1, s) := by simp [za_disp, hz, c16]
      refine r_iconst (v := (-1)) C d_BT_dispute_31 rfl ?_
      refine r_iret C E rfl d_BT_dispute_32 (Nat.le_of_ble_eq_true rfl) (Nat.le_of_ble_eq_true rfl) ?_
      rw [hq9]
      exact ⟨rfl, ad, t, rfl, P, T⟩
    · skip
      have c16 : z_nP s < 20 := by
        rcases Nat.lt_or_ge (z_nP s) 20 with h | h
        · exact h
        · exact absurd (nI_le (a := 20) h (by have := N.2.2.2.1; omega)) c_16
      refine r_iload_n C d_BT_dispute_19 rfl rfl ?_
      refine r_i2l C d_BT_dispute_20 ?_
      refine r_lconst (v := 1) C d_BT_dispute_21 rfl ?_
      refine r_ldc2 C d_BT_dispute_22 mn_BT_231 ?_
      refine r_callS C (k_BT_within Y _ _ _ _ _) mQ_BT_within d_BT_dispute_25 ml_BT_53 mt_BT_within rfl rfl (Nat.le_of_ble_eq_true rfl) ⟨⟨Nat.le_of_ble_eq_true rfl, Nat.le_of_ble_eq_true rfl⟩, Nat.le_of_ble_eq_true rfl, Nat.le_of_ble_eq_true rfl⟩ (fun v f' hp => ?_)
      obtain ⟨rfl, hf⟩ := hp
      replace hf := hf.symm
      subst hf
      refine r_if_ne (tgt := 33) C d_BT_dispute_28 rfl (fun c_28 => ?_) (fun c_28 => ?_)
      · skip
        rw [bI_n0] at c_28
        have hq9 : za_disp s (nI i) w = (nI (z_nP s), zu_disp s i w) := by simp [za_disp, hz, c16, c_28]
        refine r_aload_n C d_BT_dispute_33 rfl rfl ?_
        refine r_get C hq_BT d_BT_dispute_34 (j := 10) (Nat.le_of_ble_eq_true rfl) mf_BT_228 (kp_0 P) rfl ?_
        refine r_istore (lv' := [(4, _), (3, _), (0, _), (1, _), (2, _)]) C d_BT_dispute_37 (Nat.le_of_ble_eq_true rfl) rfl ?_
        refine r_aload_n C d_BT_dispute_39 rfl rfl ?_
        refine r_get C hq_BT d_BT_dispute_40 (j := 3) (Nat.le_of_ble_eq_true rfl) mf_BT_29 (kp_0 P) rfl ?_
        refine r_iload C d_BT_dispute_43 rfl ?_
        refine r_new C hq_Dis d_BT_dispute_45 mk_BT_27 mb_Dis mz_Dis ty_Dis_ok df_Dis (Nat.le_of_ble_eq_true rfl) (Nat.le_of_ble_eq_true rfl) (fun q hq => ?_)
        have hne : ∀ k i, kV s k i → ad k i ≠ q := fun k i h => kFresh P hq h
        refine r_dup C d_BT_dispute_48 rfl ?_
        refine r_aload_n C d_BT_dispute_49 rfl rfl ?_
        refine r_iload_n C d_BT_dispute_50 rfl rfl ?_
        refine r_callI C (k_Dis_init Y _ (hw_us _ _ _) _ _) mQ_Dis_init d_BT_dispute_51 ml_BT_233 mi_Dis_init rfl rfl rfl (Nat.le_of_ble_eq_true rfl) ⟨⟨Nat.le_of_ble_eq_true rfl, Nat.le_of_ble_eq_true rfl⟩, Nat.le_of_ble_eq_true rfl, Nat.le_of_ble_eq_true rfl⟩ (fun v f' hp => ?_)
        obtain ⟨rfl, rfl⟩ := hp
        rw [hw_uu]
        refine r_aast (t0 := 6) C d_BT_dispute_54 ((hw_un _ (hne 4 0 (Or.inl ⟨by decide, rfl⟩))).trans (kp_4 P)) rfl (hw_us _ _ _) rfl rfl (c16) (by decide) ?_
        refine r_aload_n C d_BT_dispute_55 rfl rfl ?_
        refine r_dup C d_BT_dispute_56 rfl ?_
        refine r_get C hq_BT d_BT_dispute_57 (j := 10) (Nat.le_of_ble_eq_true rfl) mf_BT_228 (((hw_un _ (kNe P (Or.inl ⟨by decide, rfl⟩) (Or.inl ⟨by decide, rfl⟩) (by decide))).trans ((hw_un _ (hne 0 0 (Or.inl ⟨by decide, rfl⟩))).trans (kp_0 P)))) rfl ?_
        refine r_iconst (v := 1) C d_BT_dispute_60 rfl ?_
        refine r_iadd C d_BT_dispute_61 ?_
        refine r_put C hq_BT d_BT_dispute_62 (j := 10) (fs' := [_, _, _, _, _, _, _, _, _, _, _, _]) (Nat.le_of_ble_eq_true rfl) mf_BT_228 rfl rfl rfl rfl (((hw_un _ (kNe P (Or.inl ⟨by decide, rfl⟩) (Or.inl ⟨by decide, rfl⟩) (by decide))).trans ((hw_un _ (hne 0 0 (Or.inl ⟨by decide, rfl⟩))).trans (kp_0 P)))) (Nat.le_of_ble_eq_true rfl) rfl ?_
        refine r_aload_n C d_BT_dispute_65 rfl rfl ?_
        refine r_iconst (v := 1) C d_BT_dispute_66 rfl ?_
        refine r_put C hq_BT d_BT_dispute_67 (j := 11) (fs' := [_, _, _, _, _, _, _, _, _, _, _, _]) (Nat.le_of_ble_eq_true rfl) mf_BT_58 rfl rfl rfl rfl (hw_us _ _ _) (Nat.le_of_ble_eq_true rfl) rfl ?_
        refine r_iload C d_BT_dispute_70 rfl ?_
        refine r_iret C E rfl d_BT_dispute_72 (Nat.le_of_ble_eq_true rfl) (Nat.le_of_ble_eq_true rfl) ?_
        rw [hq9]
        refine ⟨rfl, hAd ad 16 (z_nP s) q, true, hAd_n q (by omega), ?_, kT_t _ rfl⟩
        rw [hw_uu, nI_1]
        exact kp_addP P N hq w
      · skip
        rw [bI_0] at c_28
        have hq9 : za_disp s (nI i) w = (-1, s) := by simp [za_disp, hz, c_28]
        refine r_iconst (v := (-1)) C d_BT_dispute_31 rfl ?_
        refine r_iret C E rfl d_BT_dispute_32 (Nat.le_of_ble_eq_true rfl) (Nat.le_of_ble_eq_true rfl) ?_
        rw [hq9]
        exact ⟨rfl, ad, t, rfl, P, T⟩

theorem hw_cm {f : hw_F} {a b : Nat} (e e' : va_E) (h : a ≠ b) : hw_u (hw_u f a e) b e' = hw_u (hw_u f b e') a e := by
  funext q
  simp only [hw_u]
  by_cases h1 : q = a
  · subst h1; simp [h]
  · by_cases h2 : q = b
    · subst h2; simp [h1]
    · simp [h1, h2]
set_option maxHeartbeats 4000000 in
set_option maxRecDepth 100000 in
theorem k_Lot_init (Y : hY) (l : Launch) {f : hw_F} {b : Nat} (h0 : f b = some (.inr (1, [.null, .null, .null, .int 0]))) : hM Y l y_Lot_init S_Lot_init (none) [.ref b] f (fun r f' => r = none ∧ ∃ q1 q2 q3, f q1 = none ∧ hw_u f q1 (eJ (Y.2 0) 6 (fun _ => 0)) q2 = none ∧ hw_u (hw_u f q1 (eJ (Y.2 0) 6 (fun _ => 0))) q2 (eJ (Y.2 0) 6 (fun _ => 0)) q3 = none ∧ b ≠ q1 ∧ b ≠ q2 ∧ b ≠ q3 ∧ f' = hw_u (hw_u (hw_u (hw_u f q1 (eJ (Y.2 0) 6 (fun _ => 0))) q2 (eJ (Y.2 0) 6 (fun _ => 0))) q3 (eJ (Y.2 0) 6 (fun _ => 0))) b (.inr (1, [.ref q1, .ref q2, .ref q3, .int 0]))) := by
  refine hM.of (by decide) rfl (Nat.le_of_ble_eq_true rfl) ?_
  intro X hl hnm C E
  show hG Y X S_Lot_init 0 0 f [(0, .ref b)] [] 0
  refine r_aload_n C d_Lot_init_0 rfl rfl ?_
  refine r_objInit C d_Lot_init_1 ml_Lot_3 mi_obj mo_obj (Nat.le_of_ble_eq_true rfl) (Nat.le_of_ble_eq_true rfl) ?_
  refine r_aload_n C d_Lot_init_4 rfl rfl ?_
  refine r_bipush (v := 6) C d_Lot_init_5 rfl ?_
  refine r_newa (t0 := 0) (N := 6) (a0 := (6, .inr (.inl (fun _ => 0)))) C d_Lot_init_7 rfl ma_arrayClass_long rfl (fun _ h => h) (fun _ => rfl) rfl (by decide) (by decide) (Nat.le_of_ble_eq_true rfl) (Nat.le_of_ble_eq_true rfl) (fun q1 hq1 => ?_)
  have b1 : b ≠ q1 := fun e => by rw [← e, h0] at hq1; cases hq1
  refine r_putF C hq_Lot d_Lot_init_9 (j := 0) (fs' := [_, _, _, _]) (Nat.le_of_ble_eq_true rfl) mf_Lot_9 rfl hnm rfl rfl rfl rfl ((hw_un _ b1).trans h0) (Nat.le_of_ble_eq_true rfl) rfl ?_
  skip
  refine r_aload_n C d_Lot_init_12 rfl rfl ?_
  refine r_bipush (v := 6) C d_Lot_init_13 rfl ?_
  refine r_newa (t0 := 0) (N := 6) (a0 := (6, .inr (.inl (fun _ => 0)))) C d_Lot_init_15 rfl ma_arrayClass_long rfl (fun _ h => h) (fun _ => rfl) rfl (by decide) (by decide) (Nat.le_of_ble_eq_true rfl) (Nat.le_of_ble_eq_true rfl) (fun q2 hq2 => ?_)
  have b2 : b ≠ q2 := fun e => by rw [← e, hw_us] at hq2; cases hq2
  rw [hw_un _ (Ne.symm b2)] at hq2
  rw [hw_cm _ _ b2]
  refine r_putF C hq_Lot d_Lot_init_17 (j := 1) (fs' := [_, _, _, _]) (Nat.le_of_ble_eq_true rfl) mf_Lot_15 rfl hnm rfl rfl rfl rfl (hw_us _ _ _) (Nat.le_of_ble_eq_true rfl) rfl ?_
  rw [hw_uu]
  refine r_aload_n C d_Lot_init_20 rfl rfl ?_
  refine r_bipush (v := 6) C d_Lot_init_21 rfl ?_
  refine r_newa (t0 := 0) (N := 6) (a0 := (6, .inr (.inl (fun _ => 0)))) C d_Lot_init_23 rfl ma_arrayClass_long rfl (fun _ h => h) (fun _ => rfl) rfl (by decide) (by decide) (Nat.le_of_ble_eq_true rfl) (Nat.le_of_ble_eq_true rfl) (fun q3 hq3 => ?_)
  have b3 : b ≠ q3 := fun e => by rw [← e, hw_us] at hq3; cases hq3
  rw [hw_un _ (Ne.symm b3)] at hq3
  rw [hw_cm _ _ b3]
  refine r_putF C hq_Lot d_Lot_init_25 (j := 2) (fs' := [_, _, _, _]) (Nat.le_of_ble_eq_true rfl) mf_Lot_18 rfl hnm rfl rfl rfl rfl (hw_us _ _ _) (Nat.le_of_ble_eq_true rfl) rfl ?_
  rw [hw_uu]
  refine r_vret C E rfl d_Lot_init_28 (Nat.le_of_ble_eq_true rfl) (Nat.le_of_ble_eq_true rfl) ?_
  exact ⟨rfl, q1, q2, q3, hq1, hq2, hq3, b1, b2, b3, rfl⟩

theorem kp_addL {Y : hY} {ad : Nat → Nat → Nat} {s : zS} {x : kX} {t : Bool} {f : hw_F} {q q1 q2 q3 : Nat} (P : kPic Y ad s x t f) (Z : ∀ j, j < 6 → z_sn s (z_nL s) = 0 ∧ z_sa s (6 * z_nL s + j) = 0 ∧ z_sl s (6 * z_nL s + j) = 0 ∧ z_sc s (6 * z_nL s + j) = 0) (h1 : f q1 = none) (h2 : hw_u f q1 (eJ (Y.2 0) 6 (fun _ => 0)) q2 = none) (h3 : hw_u (hw_u f q1 (eJ (Y.2 0) 6 (fun _ => 0))) q2 (eJ (Y.2 0) 6 (fun _ => 0)) q3 = none) (h4 : (hw_u (hw_u (hw_u f q1 (eJ (Y.2 0) 6 (fun _ => 0))) q2 (eJ (Y.2 0) 6 (fun _ => 0))) q3 (eJ (Y.2 0) 6 (fun _ => 0))) q = none) : kPic Y (hAd (hAd (hAd (hAd ad 11 (z_nL s) q1) 12 (z_nL s) q2) 13 (z_nL s) q3) 10 (z_nL s) q) (zu_lot s) x true (hw_u (hw_u (hw_u (hw_u (hw_u (hw_u f q1 (eJ (Y.2 0) 6 (fun _ => 0))) q2 (eJ (Y.2 0) 6 (fun _ => 0))) q3 (eJ (Y.2 0) 6 (fun _ => 0))) q (.inr (1, [.ref q1, .ref q2, .ref q3, .int 0]))) (ad 1 0) (eQ (Y.2 3) 8 (hv_up (fun i => if i < z_nL s then some (ad 10 i) else none) (z_nL s) (some q)))) (ad 0 0) (.inr (0, [.ref (ad 1 0), .ref (ad 2 0), .ref (ad 3 0), .ref (ad 4 0), .ref (ad 5 0), .ref (ad 6 0), .ref (ad 7 0), .int (nI (z_nL s + 1)), .int (nI (z_nB s)), .int (nI (z_nD s)), .int (nI (z_nP s)), .int (bI true)]))) := by
  have nv : ∀ k, 10 ≤ k → k ≤ 13 → ¬ kV s k (z_nL s) := fun k a b h => by unfold kV at h; omega
  have P1 := kAdd P (k0 := 11) (i0 := z_nL s) h1 (nv 11 (by decide) (by decide)) (eJ (Y.2 0) 6 (fun _ => 0))
  have P2 := kAdd P1 (k0 := 12) (i0 := z_nL s) h2 (fun h => h.elim (nv 12 (by decide) (by decide)) (fun h => by omega)) (eJ (Y.2 0) 6 (fun _ => 0))
  have P3 := kAdd P2 (k0 := 13) (i0 := z_nL s) h3 (fun h => h.elim (fun h => h.elim (nv 13 (by decide) (by decide)) (fun h => by omega)) (fun h => by omega)) (eJ (Y.2 0) 6 (fun _ => 0))
  have P4 := kAdd P3 (k0 := 10) (i0 := z_nL s) h4 (fun h => h.elim (fun h => h.elim (fun h => h.elim (nv 10 (by decide) (by decide)) (fun h => by omega)) (fun h => by omega)) (fun h => by omega)) (.inr (1, [.ref q1, .ref q2, .ref q3, .int 0]))
  have P5 := kPut P4 (k0 := 1) (i0 := 0) (Or.inl (Or.inl (Or.inl (Or.inl (Or.inl ⟨by decide, rfl⟩))))) (eQ (Y.2 3) 8 (hv_up (fun i => if i < z_nL s then some (ad 10 i) else none) (z_nL s) (some q)))
  have P6 := kPut P5 (k0 := 0) (i0 := 0) (Or.inl (Or.inl (Or.inl (Or.inl (Or.inl ⟨by decide, rfl⟩))))) (.inr (0, [.ref (ad 1 0), .ref (ad 2 0), .ref (ad 3 0), .ref (ad 4 0), .ref (ad 5 0), .ref (ad 6 0), .ref (ad 7 0), .int (nI (z_nL s + 1)), .int (nI (z_nB s)), .int (nI (z_nD s)), .int (nI (z_nP s)), .int (bI true)]))
  refine kEnd2 P6 (fun k i h => ?_) (kV_cases rfl ?_ rfl rfl rfl rfl rfl rfl rfl rfl (fun i hi => ?_) (fun i hi => ?_) (fun i hi => ?_) (fun i hi => ?_) (fun _ _ => rfl) (fun _ _ => rfl) (fun _ _ => rfl))
  · show ((((kV s k i ∨ (k = 11 ∧ i = z_nL s)) ∨ (k = 12 ∧ i = z_nL s)) ∨ (k = 13 ∧ i = z_nL s)) ∨ (k = 10 ∧ i = z_nL s))
    have hh : kV (zu_lot s) k i := h
    unfold kV at hh ⊢
    rcases hh with h | ⟨ha, hb, h⟩ | h | h | h
    · exact Or.inl (Or.inl (Or.inl (Or.inl (Or.inl h))))
    · have h5 : i < z_nL s + 1 := h
      rcases Nat.lt_or_ge i (z_nL s) with h6 | h6
      · exact Or.inl (Or.inl (Or.inl (Or.inl (Or.inr (Or.inl ⟨ha, hb, h6⟩)))))
      · omega
    · exact Or.inl (Or.inl (Or.inl (Or.inl (Or.inr (Or.inr (Or.inl h))))))
    · exact Or.inl (Or.inl (Or.inl (Or.inl (Or.inr (Or.inr (Or.inr (Or.inl h)))))))
    · exact Or.inl (Or.inl (Or.inl (Or.inl (Or.inr (Or.inr (Or.inr (Or.inr h)))))))
  · show eQ (Y.2 3) 8 (fun i => if i < z_nL s + 1 then some ((hAd (hAd (hAd (hAd ad 11 (z_nL s) q1) 12 (z_nL s) q2) 13 (z_nL s) q3) 10 (z_nL s) q) 10 i) else none) = _
    rw [up_if (g := ad 10) (g' := (hAd (hAd (hAd (hAd ad 11 (z_nL s) q1) 12 (z_nL s) q2) 13 (z_nL s) q3) 10 (z_nL s) q) 10) (n := z_nL s) (q := q) (fun i hi => (hAd_n q (by omega)).trans rfl) (hAd_s _ _ _ _)]
    rfl
  · have h5 : i < z_nL s + 1 := hi
    rw [ov_k _ (by decide), ov_k _ (by decide)]
    by_cases h : i = z_nL s
    · subst h
      rw [ov_s]
      show (Sum.inr (1, [Value.ref (hAd ad 11 (z_nL s) q1 11 (z_nL s)), Value.ref (hAd (hAd ad 11 (z_nL s) q1) 12 (z_nL s) q2 12 (z_nL s)), Value.ref (hAd (hAd (hAd ad 11 (z_nL s) q1) 12 (z_nL s) q2) 13 (z_nL s) q3 13 (z_nL s)), Value.int (nI (z_sn s (z_nL s)))]) : va_E) = _
      rw [hAd_s, hAd_s, hAd_s, (Z 0 (by decide)).1]
      rfl
    · rw [ov_i _ h, ov_i _ h, ov_i _ h, ov_i _ h]
      show (Sum.inr (1, [Value.ref (hAd ad 11 (z_nL s) q1 11 i), Value.ref (hAd (hAd ad 11 (z_nL s) q1) 12 (z_nL s) q2 12 i), Value.ref (hAd (hAd (hAd ad 11 (z_nL s) q1) 12 (z_nL s) q2) 13 (z_nL s) q3 13 i), _]) : va_E) = _
      rw [hAd_n q1 (by omega), hAd_n q2 (by omega), hAd_n q3 (by omega)]
      rfl
  · rw [ov_k _ (by decide), ov_k _ (by decide), ov_k _ (by decide), ov_k _ (by decide), ov_k _ (by decide)]
    by_cases h : i = z_nL s
    · subst h
      rw [ov_s]
      exact congrArg (eJ (Y.2 0) 6) (funext fun j => by
        by_cases h : j < 6
        · exact (if_pos h).trans (Z j h).2.1
        · exact if_neg h)
    · rw [ov_i _ h]
      rfl
  · rw [ov_k _ (by decide), ov_k _ (by decide), ov_k _ (by decide), ov_k _ (by decide)]
    by_cases h : i = z_nL s
    · subst h
      rw [ov_s]
      exact congrArg (eJ (Y.2 0) 6) (funext fun j => by
        by_cases h : j < 6
        · exact (if_pos h).trans (Z j h).2.2.1
        · exact if_neg h)
    · rw [ov_i _ h, ov_k _ (by decide)]
      rfl
  · rw [ov_k _ (by decide), ov_k _ (by decide), ov_k _ (by decide)]
    by_cases h : i = z_nL s
    · subst h
      rw [ov_s]
      exact congrArg (eJ (Y.2 0) 6) (funext fun j => by
        by_cases h : j < 6
        · exact (if_pos h).trans (Z j h).2.2.2
        · exact if_neg h)
    · rw [ov_i _ h, ov_k _ (by decide), ov_k _ (by decide)]
      rfl
set_option maxHeartbeats 4000000 in
set_option maxRecDepth 100000 in
theorem k_BT_lot (Y : hY) (l : Launch) {ad : Nat → Nat → Nat} {s : zS} {x : kX} {t : Bool} {f : hw_F} (P : kPic Y ad s x t f) (N : zN s) (T : kT s t) (Z : z_nL s < 8 → ∀ j, j < 6 → z_sn s (z_nL s) = 0 ∧ z_sa s (6 * z_nL s + j) = 0 ∧ z_sl s (6 * z_nL s + j) = 0 ∧ z_sc s (6 * z_nL s + j) = 0) (g : Int64) : hM Y l y_BT_lot S_BT_lot (some .int) [.ref (ad 0 0), .long g] f (fun r f' => r = some (.int ((za_lot s g).1)) ∧ kOut Y (ad 0 0) (za_lot s g).2 x f') := by
  refine hM.of (by decide) rfl (Nat.le_of_ble_eq_true rfl) ?_
  intro X hl hnm C E
  show hG Y X S_BT_lot 0 0 f [(0, .ref (ad 0 0)), (1, .long g)] [] 0
  refine r_aload_n C d_BT_lot_0 rfl rfl ?_
  refine r_get C hq_BT d_BT_lot_1 (j := 7) (Nat.le_of_ble_eq_true rfl) mf_BT_47 (kp_0 P) rfl ?_
  refine r_bipush (v := 8) C d_BT_lot_4 rfl ?_
  refine r_icmp_ge (tgt := 20) C d_BT_lot_6 rfl (fun c_6 => ?_) (fun c_6 => ?_)
  · skip
    have c6 : ¬ z_nL s < 8 := fun h => absurd c_6 (nI_ge (b := 8) h (by decide))
    have hq9 : za_lot s g = (-1, s) := by simp [za_lot, c6]
    refine r_iconst (v := (-1)) C d_BT_lot_20 rfl ?_
    refine r_iret C E rfl d_BT_lot_21 (Nat.le_of_ble_eq_true rfl) (Nat.le_of_ble_eq_true rfl) ?_
    rw [hq9]
    exact ⟨rfl, ad, t, rfl, P, T⟩
  · skip
    have c6 : z_nL s < 8 := by
      rcases Nat.lt_or_ge (z_nL s) 8 with h | h
      · exact h
      · exact absurd (nI_le (a := 8) h (by have := N.1; omega)) c_6
    refine r_lload_n C d_BT_lot_9 rfl rfl ?_
    refine r_lconst (v := 1) C d_BT_lot_10 rfl ?_
    refine r_ldc2 C d_BT_lot_11 mn_BT_51 ?_
    refine r_callS C (k_BT_within Y _ _ _ _ _) mQ_BT_within d_BT_lot_14 ml_BT_53 mt_BT_within rfl rfl (Nat.le_of_ble_eq_true rfl) ⟨⟨Nat.le_of_ble_eq_true rfl, Nat.le_of_ble_eq_true rfl⟩, Nat.le_of_ble_eq_true rfl, Nat.le_of_ble_eq_true rfl⟩ (fun v f' hp => ?_)
    obtain ⟨rfl, hf⟩ := hp
    replace hf := hf.symm
    subst hf
    refine r_if_ne (tgt := 22) C d_BT_lot_17 rfl (fun c_17 => ?_) (fun c_17 => ?_)
    · skip
      rw [bI_n0] at c_17
      have hq9 : za_lot s g = (nI (z_nL s), zu_lot s) := by simp [za_lot, c6, c_17]
      refine r_aload_n C d_BT_lot_22 rfl rfl ?_
      refine r_get C hq_BT d_BT_lot_23 (j := 7) (Nat.le_of_ble_eq_true rfl) mf_BT_47 (kp_0 P) rfl ?_
      refine r_istore_n (lv' := [(3, _), (0, _), (1, _)]) C d_BT_lot_26 rfl (Nat.le_of_ble_eq_true rfl) rfl ?_
      refine r_aload_n C d_BT_lot_27 rfl rfl ?_
      refine r_get C hq_BT d_BT_lot_28 (j := 0) (Nat.le_of_ble_eq_true rfl) mf_BT_11 (kp_0 P) rfl ?_
      refine r_iload_n C d_BT_lot_31 rfl rfl ?_
      refine r_new C hq_Lot d_BT_lot_32 mk_BT_9 mb_Lot mz_Lot ty_Lot_ok df_Lot (Nat.le_of_ble_eq_true rfl) (Nat.le_of_ble_eq_true rfl) (fun q hq => ?_)
      have hne : ∀ k i, kV s k i → ad k i ≠ q := fun k i h => kFresh P hq h
      refine r_dup C d_BT_lot_35 rfl ?_
      refine r_callI C (k_Lot_init Y _ (hw_us _ _ _)) mQ_Lot_init d_BT_lot_36 ml_BT_57 mi_Lot_init rfl rfl rfl (Nat.le_of_ble_eq_true rfl) ⟨⟨Nat.le_of_ble_eq_true rfl, Nat.le_of_ble_eq_true rfl⟩, Nat.le_of_ble_eq_true rfl, Nat.le_of_ble_eq_true rfl⟩ (fun v f' hp => ?_)
      obtain ⟨rfl, q1, q2, q3, h1, h2, h3, b1, b2, b3, rfl⟩ := hp
      rw [hw_un _ (Ne.symm b1)] at h1
      rw [hw_cm _ _ b1, hw_un _ (Ne.symm b2)] at h2
      rw [hw_cm _ _ b1, hw_cm _ _ b2, hw_un _ (Ne.symm b3)] at h3
      rw [hw_cm _ _ b1, hw_cm _ _ b2, hw_cm _ _ b3, hw_uu]
      have h4 : hw_u (hw_u (hw_u f q1 (eJ (Y.2 0) 6 (fun _ => 0))) q2 (eJ (Y.2 0) 6 (fun _ => 0))) q3 (eJ (Y.2 0) 6 (fun _ => 0)) q = none := by rw [hw_un _ b3, hw_un _ b2, hw_un _ b1]; exact hq
      have n1 : ad 1 0 ≠ q1 := kFresh P h1 (Or.inl ⟨by decide, rfl⟩)
      have n2 : ad 1 0 ≠ q2 := fun e => by rw [← e, hw_un _ n1, kp_1 P] at h2; cases h2
      have n3 : ad 1 0 ≠ q3 := fun e => by rw [← e, hw_un _ n2, hw_un _ n1, kp_1 P] at h3; cases h3
      have m1 : ad 0 0 ≠ q1 := kFresh P h1 (Or.inl ⟨by decide, rfl⟩)
      have m2 : ad 0 0 ≠ q2 := fun e => by rw [← e, hw_un _ m1, kp_0 P] at h2; cases h2
      have m3 : ad 0 0 ≠ q3 := fun e => by rw [← e, hw_un _ m2, hw_un _ m1, kp_0 P] at h3; cases h3
      refine r_aast (t0 := 3) C d_BT_lot_39 ((hw_un _ (hne 1 0 (Or.inl ⟨by decide, rfl⟩))).trans ((hw_un _ n3).trans ((hw_un _ n2).trans ((hw_un _ n1).trans (kp_1 P))))) rfl (hw_us _ _ _) rfl rfl (c6) (by decide) ?_
      refine r_aload_n C d_BT_lot_40 rfl rfl ?_
      refine r_dup C d_BT_lot_41 rfl ?_
      refine r_get C hq_BT d_BT_lot_42 (j := 7) (Nat.le_of_ble_eq_true rfl) mf_BT_47 (((hw_un _ (kNe P (Or.inl ⟨by decide, rfl⟩) (Or.inl ⟨by decide, rfl⟩) (by decide))).trans ((hw_un _ (hne 0 0 (Or.inl ⟨by decide, rfl⟩))).trans ((hw_un _ m3).trans ((hw_un _ m2).trans ((hw_un _ m1).trans (kp_0 P))))))) rfl ?_
      refine r_iconst (v := 1) C d_BT_lot_45 rfl ?_
      refine r_iadd C d_BT_lot_46 ?_
      refine r_put C hq_BT d_BT_lot_47 (j := 7) (fs' := [_, _, _, _, _, _, _, _, _, _, _, _]) (Nat.le_of_ble_eq_true rfl) mf_BT_47 rfl rfl rfl rfl (((hw_un _ (kNe P (Or.inl ⟨by decide, rfl⟩) (Or.inl ⟨by decide, rfl⟩) (by decide))).trans ((hw_un _ (hne 0 0 (Or.inl ⟨by decide, rfl⟩))).trans ((hw_un _ m3).trans ((hw_un _ m2).trans ((hw_un _ m1).trans (kp_0 P))))))) (Nat.le_of_ble_eq_true rfl) rfl ?_
      refine r_aload_n C d_BT_lot_50 rfl rfl ?_
      refine r_iconst (v := 1) C d_BT_lot_51 rfl ?_
      refine r_put C hq_BT d_BT_lot_52 (j := 11) (fs' := [_, _, _, _, _, _, _, _, _, _, _, _]) (Nat.le_of_ble_eq_true rfl) mf_BT_58 rfl rfl rfl rfl (hw_us _ _ _) (Nat.le_of_ble_eq_true rfl) rfl ?_
      refine r_iload_n C d_BT_lot_55 rfl rfl ?_
      refine r_iret C E rfl d_BT_lot_56 (Nat.le_of_ble_eq_true rfl) (Nat.le_of_ble_eq_true rfl) ?_
      rw [hq9]
      refine ⟨rfl, (hAd (hAd (hAd (hAd ad 11 (z_nL s) q1) 12 (z_nL s) q2) 13 (z_nL s) q3) 10 (z_nL s) q), true, rfl, ?_, kT_t _ rfl⟩
      rw [hw_uu, nI_1]
      exact kp_addL P (Z c6) h1 h2 h3 h4
    · skip
      rw [bI_0] at c_17
      have hq9 : za_lot s g = (-1, s) := by simp [za_lot, c_17]
      refine r_iconst (v := (-1)) C d_BT_lot_20 rfl ?_
      refine r_iret C E rfl d_BT_lot_21 (Nat.le_of_ble_eq_true rfl) (Nat.le_of_ble_eq_true rfl) ?_
      rw [hq9]
      exact ⟨rfl, ad, t, rfl, P, T⟩

