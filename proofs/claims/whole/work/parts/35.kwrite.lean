theorem kEnd2 {Y : hY} {ad : Nat → Nat → Nat} {V : Nat → Nat → Prop} {E : Nat → Nat → va_E} {f : hw_F} {s : zS} {x : kX} {t : Bool} (P : hPic ad V E f) (hV : ∀ k i, kV s k i → V k i) (h : ∀ k i, kV s k i → kE Y ad s x t k i = E k i) : kPic Y ad s x t f := hPic.same P hV h
set_option maxHeartbeats 4000000 in
set_option maxRecDepth 100000 in
theorem k_BT_time (Y : hY) (l : Launch) {ad : Nat → Nat → Nat} {s : zS} {x : kX} {t : Bool} {f : hw_F} (P : kPic Y ad s x t f) (N : zN s) (T : kT s t) (y : Int32) (v : Int64) : hM Y l y_BT_time S_BT_time (some .boolean) [.ref (ad 0 0), .int y, .long v] f (fun r f' => r = some (.int (bI (za_time s y v).1)) ∧ kOut Y (ad 0 0) (za_time s y v).2 x f') := by
  refine hM.of (by decide) rfl (Nat.le_of_ble_eq_true rfl) ?_
  intro X hl hnm C E
  show hG Y X S_BT_time 0 0 f [(0, .ref (ad 0 0)), (1, .int y), (2, .long v)] [] 0
  refine r_aload_n C d_BT_time_0 rfl rfl ?_
  refine r_iload_n C d_BT_time_1 rfl rfl ?_
  refine r_callV C (k_BT_unopenedAt Y _ P N _) mQ_BT_unopenedAt d_BT_time_2 ml_BT_68 mi_BT_unopenedAt mv_BT_unopenedAt (kp_0 P) rfl rfl rfl rfl (Nat.le_of_ble_eq_true rfl) ⟨⟨Nat.le_of_ble_eq_true rfl, Nat.le_of_ble_eq_true rfl⟩, Nat.le_of_ble_eq_true rfl, Nat.le_of_ble_eq_true rfl⟩ (fun v f' hp => ?_)
  obtain ⟨rfl, hf⟩ := hp
  replace hf := hf.symm
  subst hf
  rcases unop_case N y with hz | ⟨i, hi, rfl, hz, ho⟩
  · rw [hz]
    refine r_astoreN (lv' := [(4, _), (0, _), (1, _), (2, _)]) C d_BT_time_5 (Nat.le_of_ble_eq_true rfl) rfl ?_
    refine r_aloadN C d_BT_time_7 rfl ?_
    refine r_ifnullN (tgt := 23) C d_BT_time_9 rfl ?_
    refine r_iconst (v := 0) C d_BT_time_23 rfl ?_
    refine r_zret C E rfl d_BT_time_24 (rfl) (Nat.le_of_ble_eq_true rfl) (Nat.le_of_ble_eq_true rfl) ?_
    have hq : za_time s y v = (false, s) := by simp [za_time, hz]
    rw [hq]
    exact ⟨rfl, ad, t, rfl, P, T⟩
  · rw [hz]
    refine r_astore (lv' := [(4, _), (0, _), (1, _), (2, _)]) C d_BT_time_5 (Nat.le_of_ble_eq_true rfl) rfl ?_
    refine r_aload C d_BT_time_7 rfl ?_
    refine r_ifnull C d_BT_time_9 ?_
    refine r_lload_n C d_BT_time_12 rfl rfl ?_
    refine r_lconst (v := 0) C d_BT_time_13 rfl ?_
    refine r_ldc2 C d_BT_time_14 mn_BT_51 ?_
    refine r_callS C (k_BT_within Y _ _ _ _ _) mQ_BT_within d_BT_time_17 ml_BT_53 mt_BT_within rfl rfl (Nat.le_of_ble_eq_true rfl) ⟨⟨Nat.le_of_ble_eq_true rfl, Nat.le_of_ble_eq_true rfl⟩, Nat.le_of_ble_eq_true rfl, Nat.le_of_ble_eq_true rfl⟩ (fun v f' hp => ?_)
    obtain ⟨rfl, hf⟩ := hp
    replace hf := hf.symm
    subst hf
    refine r_if_ne (tgt := 25) C d_BT_time_20 rfl (fun c_20 => ?_) (fun c_20 => ?_)
    · skip
      rw [bI_n0] at c_20
      have hq : za_time s (nI i) v = (true, zu_time s i v) := by simp [za_time, hz, c_20]
      refine r_aload C d_BT_time_25 rfl ?_
      refine r_lload_n C d_BT_time_27 rfl rfl ?_
      refine r_putN C hq_Bdr d_BT_time_28 (j := 3) (fs' := [_, _, _, _, _, _, _]) (Nat.le_of_ble_eq_true rfl) mf_BT_72 rfl rfl rfl rfl (kp_14 P (hi)) (Nat.le_of_ble_eq_true rfl) rfl ?_
      refine r_aload_n C d_BT_time_31 rfl rfl ?_
      refine r_iconst (v := 1) C d_BT_time_32 rfl ?_
      refine r_put C hq_BT d_BT_time_33 (j := 11) (fs' := [_, _, _, _, _, _, _, _, _, _, _, _]) (Nat.le_of_ble_eq_true rfl) mf_BT_58 rfl rfl rfl rfl ((hw_un _ (kNe P (Or.inl ⟨by decide, rfl⟩) (Or.inr (Or.inr (Or.inl ⟨rfl, hi⟩))) (by decide))).trans (kp_0 P)) (Nat.le_of_ble_eq_true rfl) rfl ?_
      refine r_iconst (v := 1) C d_BT_time_36 rfl ?_
      refine r_zret C E rfl d_BT_time_37 (rfl) (Nat.le_of_ble_eq_true rfl) (Nat.le_of_ble_eq_true rfl) ?_
      rw [hq]
      exact ⟨rfl, ad, true, rfl, kEnd2 (kPut (kPut P (Or.inr (Or.inr (Or.inl ⟨rfl, hi⟩))) _) (Or.inl ⟨by decide, rfl⟩) _) (fun _ _ h => h) (kV_cases rfl rfl rfl rfl rfl rfl rfl rfl rfl rfl (fun _ _ => rfl) (fun _ _ => rfl) (fun _ _ => rfl) (fun _ _ => rfl) (fun j hj => by
        by_cases h : j = i
        · subst h
          rw [ov_k _ (by decide), ov_s]
          show (Sum.inr (2, [_, _, _, Value.long (hv_up (z_t s) _ v j), _, _, _]) : va_E) = _
          rw [hv_us]
          rfl
        · rw [ov_k _ (by decide), ov_i _ h]
          show (Sum.inr (2, [_, _, _, Value.long (hv_up (z_t s) _ v j), _, _, _]) : va_E) = _
          rw [hv_un _ h]
          rfl) (fun _ _ => rfl) (fun _ _ => rfl)), kT_t _ rfl⟩
    · skip
      rw [bI_0] at c_20
      have hq : za_time s (nI i) v = (false, s) := by simp [za_time, hz, c_20]
      refine r_iconst (v := 0) C d_BT_time_23 rfl ?_
      refine r_zret C E rfl d_BT_time_24 (rfl) (Nat.le_of_ble_eq_true rfl) (Nat.le_of_ble_eq_true rfl) ?_
      rw [hq]
      exact ⟨rfl, ad, t, rfl, P, T⟩

set_option maxHeartbeats 4000000 in
set_option maxRecDepth 100000 in
theorem k_BT_most (Y : hY) (l : Launch) {ad : Nat → Nat → Nat} {s : zS} {x : kX} {t : Bool} {f : hw_F} (P : kPic Y ad s x t f) (N : zN s) (T : kT s t) (y : Int32) (v : Int32) : hM Y l y_BT_most S_BT_most (some .boolean) [.ref (ad 0 0), .int y, .int v] f (fun r f' => r = some (.int (bI (za_most s y v).1)) ∧ kOut Y (ad 0 0) (za_most s y v).2 x f') := by
  refine hM.of (by decide) rfl (Nat.le_of_ble_eq_true rfl) ?_
  intro X hl hnm C E
  show hG Y X S_BT_most 0 0 f [(0, .ref (ad 0 0)), (1, .int y), (2, .int v)] [] 0
  refine r_aload_n C d_BT_most_0 rfl rfl ?_
  refine r_iload_n C d_BT_most_1 rfl rfl ?_
  refine r_callV C (k_BT_unopenedAt Y _ P N _) mQ_BT_unopenedAt d_BT_most_2 ml_BT_68 mi_BT_unopenedAt mv_BT_unopenedAt (kp_0 P) rfl rfl rfl rfl (Nat.le_of_ble_eq_true rfl) ⟨⟨Nat.le_of_ble_eq_true rfl, Nat.le_of_ble_eq_true rfl⟩, Nat.le_of_ble_eq_true rfl, Nat.le_of_ble_eq_true rfl⟩ (fun v f' hp => ?_)
  obtain ⟨rfl, hf⟩ := hp
  replace hf := hf.symm
  subst hf
  rcases unop_case N y with hz | ⟨i, hi, rfl, hz, ho⟩
  · rw [hz]
    refine r_astore_nN (lv' := [(3, _), (0, _), (1, _), (2, _)]) C d_BT_most_5 rfl (Nat.le_of_ble_eq_true rfl) rfl ?_
    refine r_aload_nN C d_BT_most_6 rfl rfl ?_
    refine r_ifnullN (tgt := 22) C d_BT_most_7 rfl ?_
    refine r_iconst (v := 0) C d_BT_most_22 rfl ?_
    refine r_zret C E rfl d_BT_most_23 (rfl) (Nat.le_of_ble_eq_true rfl) (Nat.le_of_ble_eq_true rfl) ?_
    have hq : za_most s y v = (false, s) := by simp [za_most, hz]
    rw [hq]
    exact ⟨rfl, ad, t, rfl, P, T⟩
  · rw [hz]
    refine r_astore_n (lv' := [(3, _), (0, _), (1, _), (2, _)]) C d_BT_most_5 rfl (Nat.le_of_ble_eq_true rfl) rfl ?_
    refine r_aload_n C d_BT_most_6 rfl rfl ?_
    refine r_ifnull C d_BT_most_7 ?_
    refine r_iload_n C d_BT_most_10 rfl rfl ?_
    refine r_i2l C d_BT_most_11 ?_
    refine r_lconst (v := 0) C d_BT_most_12 rfl ?_
    refine r_ldc2 C d_BT_most_13 mn_BT_76 ?_
    refine r_callS C (k_BT_within Y _ _ _ _ _) mQ_BT_within d_BT_most_16 ml_BT_53 mt_BT_within rfl rfl (Nat.le_of_ble_eq_true rfl) ⟨⟨Nat.le_of_ble_eq_true rfl, Nat.le_of_ble_eq_true rfl⟩, Nat.le_of_ble_eq_true rfl, Nat.le_of_ble_eq_true rfl⟩ (fun v f' hp => ?_)
    obtain ⟨rfl, hf⟩ := hp
    replace hf := hf.symm
    subst hf
    refine r_if_ne (tgt := 24) C d_BT_most_19 rfl (fun c_19 => ?_) (fun c_19 => ?_)
    · skip
      rw [bI_n0] at c_19
      have hq : za_most s (nI i) v = (true, zu_most s i v) := by simp [za_most, hz, c_19]
      refine r_aload_n C d_BT_most_24 rfl rfl ?_
      refine r_iload_n C d_BT_most_25 rfl rfl ?_
      refine r_putN C hq_Bdr d_BT_most_26 (j := 4) (fs' := [_, _, _, _, _, _, _]) (Nat.le_of_ble_eq_true rfl) mf_BT_78 rfl rfl rfl rfl (kp_14 P (hi)) (Nat.le_of_ble_eq_true rfl) rfl ?_
      refine r_aload_n C d_BT_most_29 rfl rfl ?_
      refine r_iconst (v := 1) C d_BT_most_30 rfl ?_
      refine r_put C hq_BT d_BT_most_31 (j := 11) (fs' := [_, _, _, _, _, _, _, _, _, _, _, _]) (Nat.le_of_ble_eq_true rfl) mf_BT_58 rfl rfl rfl rfl ((hw_un _ (kNe P (Or.inl ⟨by decide, rfl⟩) (Or.inr (Or.inr (Or.inl ⟨rfl, hi⟩))) (by decide))).trans (kp_0 P)) (Nat.le_of_ble_eq_true rfl) rfl ?_
      refine r_iconst (v := 1) C d_BT_most_34 rfl ?_
      refine r_zret C E rfl d_BT_most_35 (rfl) (Nat.le_of_ble_eq_true rfl) (Nat.le_of_ble_eq_true rfl) ?_
      rw [hq]
      exact ⟨rfl, ad, true, rfl, kEnd2 (kPut (kPut P (Or.inr (Or.inr (Or.inl ⟨rfl, hi⟩))) _) (Or.inl ⟨by decide, rfl⟩) _) (fun _ _ h => h) (kV_cases rfl rfl rfl rfl rfl rfl rfl rfl rfl rfl (fun _ _ => rfl) (fun _ _ => rfl) (fun _ _ => rfl) (fun _ _ => rfl) (fun j hj => by
        by_cases h : j = i
        · subst h
          rw [ov_k _ (by decide), ov_s]
          show (Sum.inr (2, [_, _, _, _, Value.int (hv_up (z_m s) _ v j), _, _]) : va_E) = _
          rw [hv_us]
          rfl
        · rw [ov_k _ (by decide), ov_i _ h]
          show (Sum.inr (2, [_, _, _, _, Value.int (hv_up (z_m s) _ v j), _, _]) : va_E) = _
          rw [hv_un _ h]
          rfl) (fun _ _ => rfl) (fun _ _ => rfl)), kT_t _ rfl⟩
    · skip
      rw [bI_0] at c_19
      have hq : za_most s (nI i) v = (false, s) := by simp [za_most, hz, c_19]
      refine r_iconst (v := 0) C d_BT_most_22 rfl ?_
      refine r_zret C E rfl d_BT_most_23 (rfl) (Nat.le_of_ble_eq_true rfl) (Nat.le_of_ble_eq_true rfl) ?_
      rw [hq]
      exact ⟨rfl, ad, t, rfl, P, T⟩

