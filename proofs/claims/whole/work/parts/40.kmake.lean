theorem df_Bdr : ∀ j, j < 7 → defaultValue (ty_Bdr j) = vp_V [.int 0, .int 0, .int 0, .long 0, .int 0, .long 0, .int 0] j := by decide +kernel
theorem df_Bid : ∀ j, j < 4 → defaultValue (ty_Bid j) = vp_V [.int 0, .null, .long 0, .int 0] j := by decide +kernel
theorem df_Dis : ∀ j, j < 2 → defaultValue (ty_Dis j) = vp_V [.null, .int 0] j := by decide +kernel
theorem df_Lot : ∀ j, j < 4 → defaultValue (ty_Lot j) = vp_V [.null, .null, .null, .int 0] j := by decide +kernel
set_option maxHeartbeats 4000000 in
set_option maxRecDepth 100000 in
theorem k_BT_bidder (Y : hY) (l : Launch) {ad : Nat → Nat → Nat} {s : zS} {x : kX} {t : Bool} {f : hw_F} (P : kPic Y ad s x t f) (N : zN s) (T : kT s t) (F : zF s) (b : Bool) : hM Y l y_BT_bidder S_BT_bidder (some .int) [.ref (ad 0 0), .int (bI b)] f (fun r f' => r = some (.int ((za_bdr s b).1)) ∧ kOut Y (ad 0 0) (za_bdr s b).2 x f') := by
  refine hM.of (by decide) rfl (Nat.le_of_ble_eq_true rfl) ?_
  intro X hl hnm C E
  show hG Y X S_BT_bidder 0 0 f [(0, .ref (ad 0 0)), (1, .int (bI b))] [] 0
  refine r_aload_n C d_BT_bidder_0 rfl rfl ?_
  refine r_get C hq_BT d_BT_bidder_1 (j := 8) (Nat.le_of_ble_eq_true rfl) mf_BT_62 (kp_0 P) rfl ?_
  refine r_bipush (v := 6) C d_BT_bidder_4 rfl ?_
  refine r_icmp_lt (tgt := 11) C d_BT_bidder_6 rfl (fun c_6 => ?_) (fun c_6 => ?_)
  · skip
    have c6 : z_nB s < 6 := (nI_ltI (by have := N.2.1; omega) (by decide)).mp c_6
    have hq9 : za_bdr s b = (nI (z_nB s), zu_bdr s b) := by simp [za_bdr, c6]
    refine r_aload_n C d_BT_bidder_11 rfl rfl ?_
    refine r_get C hq_BT d_BT_bidder_12 (j := 8) (Nat.le_of_ble_eq_true rfl) mf_BT_62 (kp_0 P) rfl ?_
    refine r_istore_n (lv' := [(2, _), (0, _), (1, _)]) C d_BT_bidder_15 rfl (Nat.le_of_ble_eq_true rfl) rfl ?_
    refine r_aload_n C d_BT_bidder_16 rfl rfl ?_
    refine r_get C hq_BT d_BT_bidder_17 (j := 1) (Nat.le_of_ble_eq_true rfl) mf_BT_17 (kp_0 P) rfl ?_
    refine r_iload_n C d_BT_bidder_20 rfl rfl ?_
    refine r_new C hq_Bdr d_BT_bidder_21 mk_BT_15 mb_Bdr mz_Bdr ty_Bdr_ok df_Bdr (Nat.le_of_ble_eq_true rfl) (Nat.le_of_ble_eq_true rfl) (fun q hq => ?_)
    have hne : ∀ k i, kV s k i → ad k i ≠ q := fun k i h => kFresh P hq h
    refine r_dup C d_BT_bidder_24 rfl ?_
    refine r_iload_n C d_BT_bidder_25 rfl rfl ?_
    refine r_iload_n C d_BT_bidder_26 rfl rfl ?_
    refine r_callI C (k_Bdr_init Y _ (hw_us _ _ _) _ b) mQ_Bdr_init d_BT_bidder_27 ml_BT_65 mi_Bdr_init rfl rfl rfl (Nat.le_of_ble_eq_true rfl) ⟨⟨Nat.le_of_ble_eq_true rfl, Nat.le_of_ble_eq_true rfl⟩, Nat.le_of_ble_eq_true rfl, Nat.le_of_ble_eq_true rfl⟩ (fun v f' hp => ?_)
    obtain ⟨rfl, rfl⟩ := hp
    rw [hw_uu]
    refine r_aast (t0 := 4) C d_BT_bidder_30 ((hw_un _ (hne 2 0 (Or.inl ⟨by decide, rfl⟩))).trans (kp_2 P)) rfl (hw_us _ _ _) rfl rfl (c6) (by decide) ?_
    refine r_aload_n C d_BT_bidder_31 rfl rfl ?_
    refine r_dup C d_BT_bidder_32 rfl ?_
    refine r_get C hq_BT d_BT_bidder_33 (j := 8) (Nat.le_of_ble_eq_true rfl) mf_BT_62 (((hw_un _ (kNe P (Or.inl ⟨by decide, rfl⟩) (Or.inl ⟨by decide, rfl⟩) (by decide))).trans ((hw_un _ (hne 0 0 (Or.inl ⟨by decide, rfl⟩))).trans (kp_0 P)))) rfl ?_
    refine r_iconst (v := 1) C d_BT_bidder_36 rfl ?_
    refine r_iadd C d_BT_bidder_37 ?_
    refine r_put C hq_BT d_BT_bidder_38 (j := 8) (fs' := [_, _, _, _, _, _, _, _, _, _, _, _]) (Nat.le_of_ble_eq_true rfl) mf_BT_62 rfl rfl rfl rfl (((hw_un _ (kNe P (Or.inl ⟨by decide, rfl⟩) (Or.inl ⟨by decide, rfl⟩) (by decide))).trans ((hw_un _ (hne 0 0 (Or.inl ⟨by decide, rfl⟩))).trans (kp_0 P)))) (Nat.le_of_ble_eq_true rfl) rfl ?_
    refine r_aload_n C d_BT_bidder_41 rfl rfl ?_
    refine r_iconst (v := 1) C d_BT_bidder_42 rfl ?_
    refine r_put C hq_BT d_BT_bidder_43 (j := 11) (fs' := [_, _, _, _, _, _, _, _, _, _, _, _]) (Nat.le_of_ble_eq_true rfl) mf_BT_58 rfl rfl rfl rfl (hw_us _ _ _) (Nat.le_of_ble_eq_true rfl) rfl ?_
    refine r_iload_n C d_BT_bidder_46 rfl rfl ?_
    refine r_iret C E rfl d_BT_bidder_47 (Nat.le_of_ble_eq_true rfl) (Nat.le_of_ble_eq_true rfl) ?_
    rw [hq9]
    refine ⟨rfl, hAd ad 14 (z_nB s) q, true, hAd_n q (by omega), ?_, kT_t _ rfl⟩
    rw [hw_uu, nI_1]
    exact kp_addB P N F hq b
  · skip
    have c6 : ¬ z_nB s < 6 := fun h => c_6 (nI_lt (b := 6) h (by decide))
    have hq9 : za_bdr s b = (-1, s) := by simp [za_bdr, c6]
    refine r_iconst (v := (-1)) C d_BT_bidder_9 rfl ?_
    refine r_iret C E rfl d_BT_bidder_10 (Nat.le_of_ble_eq_true rfl) (Nat.le_of_ble_eq_true rfl) ?_
    rw [hq9]
    exact ⟨rfl, ad, t, rfl, P, T⟩

set_option maxHeartbeats 4000000 in
set_option maxRecDepth 100000 in
theorem k_BT_bid (Y : hY) (l : Launch) {ad : Nat → Nat → Nat} {s : zS} {x : kX} {t : Bool} {f : hw_F} (P : kPic Y ad s x t f) (N : zN s) (T : kT s t) (F : zF s) (O : ∀ p j, x.2.1 p = some j → j < z_nD s) (y : Int32) (v : Int64) : hM Y l y_BT_bid S_BT_bid (some .int) [.ref (ad 0 0), .int y, .long v] f (fun r f' => r = some (.int ((za_bid s y v).1)) ∧ kOut Y (ad 0 0) (za_bid s y v).2 x f') := by
  refine hM.of (by decide) rfl (Nat.le_of_ble_eq_true rfl) ?_
  intro X hl hnm C E
  show hG Y X S_BT_bid 0 0 f [(0, .ref (ad 0 0)), (1, .int y), (2, .long v)] [] 0
  refine r_aload_n C d_BT_bid_0 rfl rfl ?_
  refine r_iload_n C d_BT_bid_1 rfl rfl ?_
  refine r_callV C (k_BT_unopenedAt Y _ P N _) mQ_BT_unopenedAt d_BT_bid_2 ml_BT_68 mi_BT_unopenedAt mv_BT_unopenedAt (kp_0 P) rfl rfl rfl rfl (Nat.le_of_ble_eq_true rfl) ⟨⟨Nat.le_of_ble_eq_true rfl, Nat.le_of_ble_eq_true rfl⟩, Nat.le_of_ble_eq_true rfl, Nat.le_of_ble_eq_true rfl⟩ (fun v f' hp => ?_)
  obtain ⟨rfl, hf⟩ := hp
  replace hf := hf.symm
  subst hf
  rcases unop_case N y with hz | ⟨i, hi, rfl, hz, ho⟩
  · rw [hz]
    refine r_astoreN (lv' := [(4, _), (0, _), (1, _), (2, _)]) C d_BT_bid_5 (Nat.le_of_ble_eq_true rfl) rfl ?_
    refine r_aloadN C d_BT_bid_7 rfl ?_
    refine r_ifnullN (tgt := 32) C d_BT_bid_9 rfl ?_
    refine r_iconst (v := (-1)) C d_BT_bid_32 rfl ?_
    refine r_iret C E rfl d_BT_bid_33 (Nat.le_of_ble_eq_true rfl) (Nat.le_of_ble_eq_true rfl) ?_
    have hq9 : za_bid s y v = (-1, s) := by simp [za_bid, hz]
    rw [hq9]
    exact ⟨rfl, ad, t, rfl, P, T⟩
  · rw [hz]
    refine r_astore (lv' := [(4, _), (0, _), (1, _), (2, _)]) C d_BT_bid_5 (Nat.le_of_ble_eq_true rfl) rfl ?_
    refine r_aload C d_BT_bid_7 rfl ?_
    refine r_ifnull C d_BT_bid_9 ?_
    refine r_aload_n C d_BT_bid_12 rfl rfl ?_
    refine r_get C hq_BT d_BT_bid_13 (j := 9) (Nat.le_of_ble_eq_true rfl) mf_BT_81 (kp_0 P) rfl ?_
    refine r_bipush (v := 12) C d_BT_bid_16 rfl ?_
    refine r_icmp_ge (tgt := 32) C d_BT_bid_18 rfl (fun c_18 => ?_) (fun c_18 => ?_)
    · skip
      have c18 : ¬ z_nD s < 12 := fun h => absurd c_18 (nI_ge (b := 12) h (by decide))
      have hq9 : za_bid s (nI i) v = (-1, s) := by simp [za_bid, hz, c18]
      refine r_iconst (v := (-1)) C d_BT_bid_32 rfl ?_
      refine r_iret C E rfl d_BT_bid_33 (Nat.le_of_ble_eq_true rfl) (Nat.le_of_ble_eq_true rfl) ?_
      rw [hq9]
      exact ⟨rfl, ad, t, rfl, P, T⟩
    · skip
      have c18 : z_nD s < 12 := by
        rcases Nat.lt_or_ge (z_nD s) 12 with h | h
        · exact h
        · exact absurd (nI_le (a := 12) h (by have := N.2.2.1; omega)) c_18
      refine r_lload_n C d_BT_bid_21 rfl rfl ?_
      refine r_lconst (v := 0) C d_BT_bid_22 rfl ?_
      refine r_ldc2 C d_BT_bid_23 mn_BT_84 ?_
      refine r_callS C (k_BT_within Y _ _ _ _ _) mQ_BT_within d_BT_bid_26 ml_BT_53 mt_BT_within rfl rfl (Nat.le_of_ble_eq_true rfl) ⟨⟨Nat.le_of_ble_eq_true rfl, Nat.le_of_ble_eq_true rfl⟩, Nat.le_of_ble_eq_true rfl, Nat.le_of_ble_eq_true rfl⟩ (fun v f' hp => ?_)
      obtain ⟨rfl, hf⟩ := hp
      replace hf := hf.symm
      subst hf
      refine r_if_ne (tgt := 34) C d_BT_bid_29 rfl (fun c_29 => ?_) (fun c_29 => ?_)
      · skip
        rw [bI_n0] at c_29
        have hq9 : za_bid s (nI i) v = (nI (z_nD s), zu_bid s i v) := by simp [za_bid, hz, c18, c_29]
        refine r_aload_n C d_BT_bid_34 rfl rfl ?_
        refine r_get C hq_BT d_BT_bid_35 (j := 9) (Nat.le_of_ble_eq_true rfl) mf_BT_81 (kp_0 P) rfl ?_
        refine r_istore (lv' := [(5, _), (4, _), (0, _), (1, _), (2, _)]) C d_BT_bid_38 (Nat.le_of_ble_eq_true rfl) rfl ?_
        refine r_aload_n C d_BT_bid_40 rfl rfl ?_
        refine r_get C hq_BT d_BT_bid_41 (j := 2) (Nat.le_of_ble_eq_true rfl) mf_BT_23 (kp_0 P) rfl ?_
        refine r_iload C d_BT_bid_44 rfl ?_
        refine r_new C hq_Bid d_BT_bid_46 mk_BT_21 mb_Bid mz_Bid ty_Bid_ok df_Bid (Nat.le_of_ble_eq_true rfl) (Nat.le_of_ble_eq_true rfl) (fun q hq => ?_)
        have hne : ∀ k i, kV s k i → ad k i ≠ q := fun k i h => kFresh P hq h
        refine r_dup C d_BT_bid_49 rfl ?_
        refine r_iload C d_BT_bid_50 rfl ?_
        refine r_aload C d_BT_bid_52 rfl ?_
        refine r_lload_n C d_BT_bid_54 rfl rfl ?_
        refine r_callI C (k_Bid_init Y _ (hw_us _ _ _) _ _ _) mQ_Bid_init d_BT_bid_55 ml_BT_86 mi_Bid_init rfl rfl rfl (Nat.le_of_ble_eq_true rfl) ⟨⟨Nat.le_of_ble_eq_true rfl, Nat.le_of_ble_eq_true rfl⟩, Nat.le_of_ble_eq_true rfl, Nat.le_of_ble_eq_true rfl⟩ (fun v f' hp => ?_)
        obtain ⟨rfl, rfl⟩ := hp
        rw [hw_uu]
        refine r_aast (t0 := 5) C d_BT_bid_58 ((hw_un _ (hne 3 0 (Or.inl ⟨by decide, rfl⟩))).trans (kp_3 P)) rfl (hw_us _ _ _) rfl rfl (c18) (by decide) ?_
        refine r_aload_n C d_BT_bid_59 rfl rfl ?_
        refine r_dup C d_BT_bid_60 rfl ?_
        refine r_get C hq_BT d_BT_bid_61 (j := 9) (Nat.le_of_ble_eq_true rfl) mf_BT_81 (((hw_un _ (kNe P (Or.inl ⟨by decide, rfl⟩) (Or.inl ⟨by decide, rfl⟩) (by decide))).trans ((hw_un _ (hne 0 0 (Or.inl ⟨by decide, rfl⟩))).trans (kp_0 P)))) rfl ?_
        refine r_iconst (v := 1) C d_BT_bid_64 rfl ?_
        refine r_iadd C d_BT_bid_65 ?_
        refine r_put C hq_BT d_BT_bid_66 (j := 9) (fs' := [_, _, _, _, _, _, _, _, _, _, _, _]) (Nat.le_of_ble_eq_true rfl) mf_BT_81 rfl rfl rfl rfl (((hw_un _ (kNe P (Or.inl ⟨by decide, rfl⟩) (Or.inl ⟨by decide, rfl⟩) (by decide))).trans ((hw_un _ (hne 0 0 (Or.inl ⟨by decide, rfl⟩))).trans (kp_0 P)))) (Nat.le_of_ble_eq_true rfl) rfl ?_
        refine r_aload_n C d_BT_bid_69 rfl rfl ?_
        refine r_iconst (v := 1) C d_BT_bid_70 rfl ?_
        refine r_put C hq_BT d_BT_bid_71 (j := 11) (fs' := [_, _, _, _, _, _, _, _, _, _, _, _]) (Nat.le_of_ble_eq_true rfl) mf_BT_58 rfl rfl rfl rfl (hw_us _ _ _) (Nat.le_of_ble_eq_true rfl) rfl ?_
        refine r_iload C d_BT_bid_74 rfl ?_
        refine r_iret C E rfl d_BT_bid_76 (Nat.le_of_ble_eq_true rfl) (Nat.le_of_ble_eq_true rfl) ?_
        rw [hq9]
        refine ⟨rfl, hAd ad 15 (z_nD s) q, true, hAd_n q (by omega), ?_, kT_t _ rfl⟩
        rw [hw_uu, nI_1]
        exact kp_addD P N F O hq v
      · skip
        rw [bI_0] at c_29
        have hq9 : za_bid s (nI i) v = (-1, s) := by simp [za_bid, hz, c_29]
        refine r_iconst (v := (-1)) C d_BT_bid_32 rfl ?_
        refine r_iret C E rfl d_BT_bid_33 (Nat.le_of_ble_eq_true rfl) (Nat.le_of_ble_eq_true rfl) ?_
        rw [hq9]
        exact ⟨rfl, ad, t, rfl, P, T⟩

