set_option maxHeartbeats 4000000 in
set_option maxRecDepth 100000 in
theorem m_bidder (Y : hY) (l : Launch) {ad : Nat → Nat → Nat} {s : zS} {tk : Nat → Bool} {f : hw_F} (P : mPic Y ad s tk f) (N : zN s) (b : Bool) : hM Y l y_Mod_bidder S_Mod_bidder (some .int) [.ref (ad 0 0), .int (bI b)] f (fun r f' => r = some (.int (za_bdr s b).1) ∧ ∃ tk', mPic Y ad (za_bdr s b).2 tk' f') := by
  refine hM.of (by decide) rfl (Nat.le_of_ble_eq_true rfl) ?_
  intro X hl hnm C E
  show hG Y X S_Mod_bidder 0 0 f [(0, .ref (ad 0 0)), (1, .int (bI b))] [] 0
  refine r_aload_n C d_Mod_bidder_0 rfl rfl ?_
  refine r_get C hq_Mod d_Mod_bidder_1 (j := 1) (Nat.le_of_ble_eq_true rfl) mf_Mod_79 (mp_0 P) rfl ?_
  refine r_bipush (v := 6) C d_Mod_bidder_4 rfl ?_
  refine r_icmp_ne (tgt := 11) C d_Mod_bidder_6 rfl (fun c_6 => ?_) (fun c_6 => ?_)
  · skip
    have c6 : z_nB s < 6 := by
      have h1 := N.2.1
      rcases Nat.lt_or_ge (z_nB s) 6 with h | h
      · exact h
      · exact absurd (show nI (z_nB s) = 6 by rw [show z_nB s = 6 by omega]; rfl) c_6
    have hz : za_bdr s b = (nI (z_nB s), zu_bdr s b) := by simp [za_bdr, c6]
    refine r_aload_n C d_Mod_bidder_11 rfl rfl ?_
    refine r_get C hq_Mod d_Mod_bidder_12 (j := 2) (Nat.le_of_ble_eq_true rfl) mf_Mod_7 (mp_0 P) rfl ?_
    refine r_aload_n C d_Mod_bidder_15 rfl rfl ?_
    refine r_get C hq_Mod d_Mod_bidder_16 (j := 1) (Nat.le_of_ble_eq_true rfl) mf_Mod_79 (mp_0 P) rfl ?_
    refine r_iload_n C d_Mod_bidder_19 rfl rfl ?_
    refine r_zast (t0 := 2) C d_Mod_bidder_20 (mp_qualified P) rfl (rfl) (c6) (by decide) (bI_nar b) ?_
    refine r_aload_n C d_Mod_bidder_21 rfl rfl ?_
    refine r_get C hq_Mod d_Mod_bidder_22 (j := 5) (Nat.le_of_ble_eq_true rfl) mf_Mod_20 ((hw_un _ (mNe P 0 1 (by decide) (by decide) (by decide))).trans (mp_0 P)) rfl ?_
    refine r_aload_n C d_Mod_bidder_25 rfl rfl ?_
    refine r_get C hq_Mod d_Mod_bidder_26 (j := 1) (Nat.le_of_ble_eq_true rfl) mf_Mod_79 ((hw_un _ (mNe P 0 1 (by decide) (by decide) (by decide))).trans (mp_0 P)) rfl ?_
    refine r_bipush (v := 8) C d_Mod_bidder_29 rfl ?_
    refine r_iast (t0 := 1) C d_Mod_bidder_31 ((hw_un _ (mNe P 4 1 (by decide) (by decide) (by decide))).trans (mp_mosts P)) rfl (rfl) (c6) (by decide) ?_
    refine r_aload_n C d_Mod_bidder_32 rfl rfl ?_
    refine r_dup C d_Mod_bidder_33 rfl ?_
    refine r_get C hq_Mod d_Mod_bidder_34 (j := 1) (Nat.le_of_ble_eq_true rfl) mf_Mod_79 ((hw_un _ (mNe P 0 4 (by decide) (by decide) (by decide))).trans ((hw_un _ (mNe P 0 1 (by decide) (by decide) (by decide))).trans (mp_0 P))) rfl ?_
    refine r_iconst (v := 1) C d_Mod_bidder_37 rfl ?_
    refine r_iadd C d_Mod_bidder_38 ?_
    refine r_put C hq_Mod d_Mod_bidder_39 (j := 1) (fs' := [_, _, _, _, _, _, _, _, _, _, _, _, _, _, _, _, _, _, _, _, _, _, _, _, _, _, _, _]) (Nat.le_of_ble_eq_true rfl) mf_Mod_79 rfl rfl rfl rfl ((hw_un _ (mNe P 0 4 (by decide) (by decide) (by decide))).trans ((hw_un _ (mNe P 0 1 (by decide) (by decide) (by decide))).trans (mp_0 P))) (Nat.le_of_ble_eq_true rfl) rfl ?_
    refine r_aload_n C d_Mod_bidder_42 rfl rfl ?_
    refine r_iconst (v := 0) C d_Mod_bidder_43 rfl ?_
    refine r_put C hq_Mod d_Mod_bidder_44 (j := 13) (fs' := [_, _, _, _, _, _, _, _, _, _, _, _, _, _, _, _, _, _, _, _, _, _, _, _, _, _, _, _]) (Nat.le_of_ble_eq_true rfl) mf_Mod_87 rfl rfl rfl rfl (hw_us _ _ _) (Nat.le_of_ble_eq_true rfl) rfl ?_
    refine r_aload_n C d_Mod_bidder_47 rfl rfl ?_
    refine r_get C hq_Mod d_Mod_bidder_48 (j := 1) (Nat.le_of_ble_eq_true rfl) mf_Mod_79 (hw_us _ _ _) rfl ?_
    refine r_iconst (v := 1) C d_Mod_bidder_51 rfl ?_
    refine r_isub C d_Mod_bidder_52 ?_
    refine r_iret C E rfl d_Mod_bidder_53 (Nat.le_of_ble_eq_true rfl) (Nat.le_of_ble_eq_true rfl) ?_
    rw [hz]
    refine ⟨by rw [nI_1, nI_m1], tk, ?_⟩
    exact mEnd (mPut (mPut (mPut (mPut P 1 (by decide) _) 4 (by decide) _) 0 (by decide) _) 0 (by decide) _) (lt22 (by rw [nI_1]; rfl) (congrArg (eI (Y.2 2) 6) (hv_bI _ _ _).symm) rfl rfl rfl rfl rfl rfl rfl rfl rfl rfl rfl rfl rfl rfl rfl rfl rfl rfl rfl rfl)
  · skip
    have hz : za_bdr s b = (-1, s) := by
      have : z_nB s = 6 := (nI_eq (a := z_nB s) (b := 6) (by have := N.2.1; omega) (by decide)).mp c_6
      simp [za_bdr, this]
    refine r_iconst (v := (-1)) C d_Mod_bidder_9 rfl ?_
    refine r_iret C E rfl d_Mod_bidder_10 (Nat.le_of_ble_eq_true rfl) (Nat.le_of_ble_eq_true rfl) ?_
    rw [hz]
    exact ⟨rfl, tk, P⟩

set_option maxHeartbeats 4000000 in
set_option maxRecDepth 100000 in
theorem m_time (Y : hY) (l : Launch) {ad : Nat → Nat → Nat} {s : zS} {tk : Nat → Bool} {f : hw_F} (P : mPic Y ad s tk f) (N : zN s) (x : Int32) (v : Int64) : hM Y l y_Mod_time S_Mod_time (some .boolean) [.ref (ad 0 0), .int x, .long v] f (fun r f' => r = some (.int (bI (za_time s x v).1)) ∧ ∃ tk', mPic Y ad (za_time s x v).2 tk' f') := by
  refine hM.of (by decide) rfl (Nat.le_of_ble_eq_true rfl) ?_
  intro X hl hnm C E
  show hG Y X S_Mod_time 0 0 f [(0, .ref (ad 0 0)), (1, .int x), (2, .long v)] [] 0
  refine r_aload_n C d_Mod_time_0 rfl rfl ?_
  refine r_iload_n C d_Mod_time_1 rfl rfl ?_
  refine r_callV C (m_isBidder Y _ P _) mQ_Mod_isBidder d_Mod_time_2 ml_Mod_91 mi_Mod_isBidder mv_Mod_isBidder (mp_0 P) rfl rfl rfl rfl (Nat.le_of_ble_eq_true rfl) ⟨⟨Nat.le_of_ble_eq_true rfl, Nat.le_of_ble_eq_true rfl⟩, Nat.le_of_ble_eq_true rfl, Nat.le_of_ble_eq_true rfl⟩ (fun v f' hp => ?_)
  obtain ⟨rfl, hf⟩ := hp
  replace hf := hf.symm
  subst hf
  refine r_if_eq (tgt := 31) C d_Mod_time_5 rfl (fun c_5 => ?_) (fun c_5 => ?_)
  · skip
    have hz : za_time s x v = (false, s) := by simp [za_unop, bS_none c_5, za_time]
    refine r_iconst (v := 0) C d_Mod_time_31 rfl ?_
    refine r_zret C E rfl d_Mod_time_32 (rfl) (Nat.le_of_ble_eq_true rfl) (Nat.le_of_ble_eq_true rfl) ?_
    rw [hz]
    exact ⟨rfl, tk, P⟩
  · skip
    obtain ⟨i, hat⟩ := bS_some c_5
    obtain ⟨hi, rfl⟩ := z_at_some (by have := N.2.1; omega) hat
    have hi6 : i < 6 := by have := N.2.1; omega
    refine r_aload_n C d_Mod_time_8 rfl rfl ?_
    refine r_get C hq_Mod d_Mod_time_9 (j := 3) (Nat.le_of_ble_eq_true rfl) mf_Mod_13 (mp_0 P) rfl ?_
    refine r_iload_n C d_Mod_time_12 rfl rfl ?_
    refine r_zald (t0 := 2) C d_Mod_time_13 (mp_opened P) rfl (rfl) (hi6) (by decide) (rfl) ?_
    refine r_if_ne (tgt := 31) C d_Mod_time_14 rfl (fun c_14 => ?_) (fun c_14 => ?_)
    · skip
      rw [bI_n0] at c_14
      have hz : za_time s (nI i) v = (false, s) := by simp [za_unop, hat, c_14, za_time]
      refine r_iconst (v := 0) C d_Mod_time_31 rfl ?_
      refine r_zret C E rfl d_Mod_time_32 (rfl) (Nat.le_of_ble_eq_true rfl) (Nat.le_of_ble_eq_true rfl) ?_
      rw [hz]
      exact ⟨rfl, tk, P⟩
    · skip
      rw [bI_0] at c_14
      have hun : za_unop s (nI i) = some i := by simp [za_unop, hat, c_14]
      refine r_lload_n C d_Mod_time_17 rfl rfl ?_
      refine r_lconst (v := 0) C d_Mod_time_18 rfl ?_
      refine r_lcmp C d_Mod_time_19 ?_
      refine r_if_lt (tgt := 31) C d_Mod_time_20 rfl (fun c_20 => ?_) (fun c_20 => ?_)
      · skip
        rw [lg_cmp_lt] at c_20
        have hz : za_time s (nI i) v = (false, s) := by simp [za_time, hun, k_inF1 c_20]
        refine r_iconst (v := 0) C d_Mod_time_31 rfl ?_
        refine r_zret C E rfl d_Mod_time_32 (rfl) (Nat.le_of_ble_eq_true rfl) (Nat.le_of_ble_eq_true rfl) ?_
        rw [hz]
        exact ⟨rfl, tk, P⟩
      · skip
        rw [lg_cmp_lt] at c_20
        refine r_lload_n C d_Mod_time_23 rfl rfl ?_
        refine r_ldc2 C d_Mod_time_24 mn_Mod_85 ?_
        refine r_lcmp C d_Mod_time_27 ?_
        refine r_if_le (tgt := 33) C d_Mod_time_28 rfl (fun c_28 => ?_) (fun c_28 => ?_)
        · skip
          rw [lg_cmp_le] at c_28
          have hz : za_time s (nI i) v = (true, zu_time s i v) := by simp [za_time, hun, k_inT c_20 c_28]
          refine r_aload_n C d_Mod_time_33 rfl rfl ?_
          refine r_get C hq_Mod d_Mod_time_34 (j := 4) (Nat.le_of_ble_eq_true rfl) mf_Mod_16 (mp_0 P) rfl ?_
          refine r_iload_n C d_Mod_time_37 rfl rfl ?_
          refine r_lload_n C d_Mod_time_38 rfl rfl ?_
          refine r_last (t0 := 0) C d_Mod_time_39 (mp_times P) rfl (rfl) (hi6) (by decide) ?_
          refine r_aload_n C d_Mod_time_40 rfl rfl ?_
          refine r_iconst (v := 0) C d_Mod_time_41 rfl ?_
          refine r_put C hq_Mod d_Mod_time_42 (j := 13) (fs' := [_, _, _, _, _, _, _, _, _, _, _, _, _, _, _, _, _, _, _, _, _, _, _, _, _, _, _, _]) (Nat.le_of_ble_eq_true rfl) mf_Mod_87 rfl rfl rfl rfl ((hw_un _ (mNe P 0 3 (by decide) (by decide) (by decide))).trans (mp_0 P)) (Nat.le_of_ble_eq_true rfl) rfl ?_
          refine r_iconst (v := 1) C d_Mod_time_45 rfl ?_
          refine r_zret C E rfl d_Mod_time_46 (rfl) (Nat.le_of_ble_eq_true rfl) (Nat.le_of_ble_eq_true rfl) ?_
          rw [hz]
          exact ⟨rfl, tk, mEnd (mPut (mPut P 3 (by decide) _) 0 (by decide) _) (lt22 rfl rfl rfl rfl rfl rfl rfl rfl rfl rfl rfl rfl rfl rfl rfl rfl rfl rfl rfl rfl rfl rfl)⟩
        · skip
          rw [lg_cmp_le] at c_28
          have hz : za_time s (nI i) v = (false, s) := by simp [za_time, hun, k_inF2 c_28]
          refine r_iconst (v := 0) C d_Mod_time_31 rfl ?_
          refine r_zret C E rfl d_Mod_time_32 (rfl) (Nat.le_of_ble_eq_true rfl) (Nat.le_of_ble_eq_true rfl) ?_
          rw [hz]
          exact ⟨rfl, tk, P⟩

set_option maxHeartbeats 4000000 in
set_option maxRecDepth 100000 in
theorem m_most (Y : hY) (l : Launch) {ad : Nat → Nat → Nat} {s : zS} {tk : Nat → Bool} {f : hw_F} (P : mPic Y ad s tk f) (N : zN s) (x v : Int32) : hM Y l y_Mod_most S_Mod_most (some .boolean) [.ref (ad 0 0), .int x, .int v] f (fun r f' => r = some (.int (bI (za_most s x v).1)) ∧ ∃ tk', mPic Y ad (za_most s x v).2 tk' f') := by
  refine hM.of (by decide) rfl (Nat.le_of_ble_eq_true rfl) ?_
  intro X hl hnm C E
  show hG Y X S_Mod_most 0 0 f [(0, .ref (ad 0 0)), (1, .int x), (2, .int v)] [] 0
  refine r_aload_n C d_Mod_most_0 rfl rfl ?_
  refine r_iload_n C d_Mod_most_1 rfl rfl ?_
  refine r_callV C (m_isBidder Y _ P _) mQ_Mod_isBidder d_Mod_most_2 ml_Mod_91 mi_Mod_isBidder mv_Mod_isBidder (mp_0 P) rfl rfl rfl rfl (Nat.le_of_ble_eq_true rfl) ⟨⟨Nat.le_of_ble_eq_true rfl, Nat.le_of_ble_eq_true rfl⟩, Nat.le_of_ble_eq_true rfl, Nat.le_of_ble_eq_true rfl⟩ (fun v f' hp => ?_)
  obtain ⟨rfl, hf⟩ := hp
  replace hf := hf.symm
  subst hf
  refine r_if_eq (tgt := 27) C d_Mod_most_5 rfl (fun c_5 => ?_) (fun c_5 => ?_)
  · skip
    have hz : za_most s x v = (false, s) := by simp [za_unop, bS_none c_5, za_most]
    refine r_iconst (v := 0) C d_Mod_most_27 rfl ?_
    refine r_zret C E rfl d_Mod_most_28 (rfl) (Nat.le_of_ble_eq_true rfl) (Nat.le_of_ble_eq_true rfl) ?_
    rw [hz]
    exact ⟨rfl, tk, P⟩
  · skip
    obtain ⟨i, hat⟩ := bS_some c_5
    obtain ⟨hi, rfl⟩ := z_at_some (by have := N.2.1; omega) hat
    have hi6 : i < 6 := by have := N.2.1; omega
    refine r_aload_n C d_Mod_most_8 rfl rfl ?_
    refine r_get C hq_Mod d_Mod_most_9 (j := 3) (Nat.le_of_ble_eq_true rfl) mf_Mod_13 (mp_0 P) rfl ?_
    refine r_iload_n C d_Mod_most_12 rfl rfl ?_
    refine r_zald (t0 := 2) C d_Mod_most_13 (mp_opened P) rfl (rfl) (hi6) (by decide) (rfl) ?_
    refine r_if_ne (tgt := 27) C d_Mod_most_14 rfl (fun c_14 => ?_) (fun c_14 => ?_)
    · skip
      rw [bI_n0] at c_14
      have hz : za_most s (nI i) v = (false, s) := by simp [za_unop, hat, c_14, za_most]
      refine r_iconst (v := 0) C d_Mod_most_27 rfl ?_
      refine r_zret C E rfl d_Mod_most_28 (rfl) (Nat.le_of_ble_eq_true rfl) (Nat.le_of_ble_eq_true rfl) ?_
      rw [hz]
      exact ⟨rfl, tk, P⟩
    · skip
      rw [bI_0] at c_14
      have hun : za_unop s (nI i) = some i := by simp [za_unop, hat, c_14]
      refine r_iload_n C d_Mod_most_17 rfl rfl ?_
      refine r_if_lt (tgt := 27) C d_Mod_most_18 rfl (fun c_18 => ?_) (fun c_18 => ?_)
      · skip
        have e8 : k_in v.toInt64 0 8 = _ := k_in32 (v := v) (a := 0) (b := 8)
        have hz : za_most s (nI i) v = (false, s) := by simp [za_most, hun, e8, Int32.not_le.mpr c_18]
        refine r_iconst (v := 0) C d_Mod_most_27 rfl ?_
        refine r_zret C E rfl d_Mod_most_28 (rfl) (Nat.le_of_ble_eq_true rfl) (Nat.le_of_ble_eq_true rfl) ?_
        rw [hz]
        exact ⟨rfl, tk, P⟩
      · skip
        refine r_iload_n C d_Mod_most_21 rfl rfl ?_
        refine r_bipush (v := 8) C d_Mod_most_22 rfl ?_
        refine r_icmp_le (tgt := 29) C d_Mod_most_24 rfl (fun c_24 => ?_) (fun c_24 => ?_)
        · skip
          have e8 : k_in v.toInt64 0 8 = _ := k_in32 (v := v) (a := 0) (b := 8)
          have hz : za_most s (nI i) v = (true, zu_most s i v) := by simp [za_most, hun, e8, Int32.not_lt.mp c_18, c_24]
          refine r_aload_n C d_Mod_most_29 rfl rfl ?_
          refine r_get C hq_Mod d_Mod_most_30 (j := 5) (Nat.le_of_ble_eq_true rfl) mf_Mod_20 (mp_0 P) rfl ?_
          refine r_iload_n C d_Mod_most_33 rfl rfl ?_
          refine r_iload_n C d_Mod_most_34 rfl rfl ?_
          refine r_iast (t0 := 1) C d_Mod_most_35 (mp_mosts P) rfl (rfl) (hi6) (by decide) ?_
          refine r_aload_n C d_Mod_most_36 rfl rfl ?_
          refine r_iconst (v := 0) C d_Mod_most_37 rfl ?_
          refine r_put C hq_Mod d_Mod_most_38 (j := 13) (fs' := [_, _, _, _, _, _, _, _, _, _, _, _, _, _, _, _, _, _, _, _, _, _, _, _, _, _, _, _]) (Nat.le_of_ble_eq_true rfl) mf_Mod_87 rfl rfl rfl rfl ((hw_un _ (mNe P 0 4 (by decide) (by decide) (by decide))).trans (mp_0 P)) (Nat.le_of_ble_eq_true rfl) rfl ?_
          refine r_iconst (v := 1) C d_Mod_most_41 rfl ?_
          refine r_zret C E rfl d_Mod_most_42 (rfl) (Nat.le_of_ble_eq_true rfl) (Nat.le_of_ble_eq_true rfl) ?_
          rw [hz]
          exact ⟨rfl, tk, mEnd (mPut (mPut P 4 (by decide) _) 0 (by decide) _) (lt22 rfl rfl rfl rfl rfl rfl rfl rfl rfl rfl rfl rfl rfl rfl rfl rfl rfl rfl rfl rfl rfl rfl)⟩
        · skip
          have e8 : k_in v.toInt64 0 8 = _ := k_in32 (v := v) (a := 0) (b := 8)
          have hz : za_most s (nI i) v = (false, s) := by simp [za_most, hun, e8, c_24]
          refine r_iconst (v := 0) C d_Mod_most_27 rfl ?_
          refine r_zret C E rfl d_Mod_most_28 (rfl) (Nat.le_of_ble_eq_true rfl) (Nat.le_of_ble_eq_true rfl) ?_
          rw [hz]
          exact ⟨rfl, tk, P⟩

set_option maxHeartbeats 4000000 in
set_option maxRecDepth 100000 in
theorem m_bid (Y : hY) (l : Launch) {ad : Nat → Nat → Nat} {s : zS} {tk : Nat → Bool} {f : hw_F} (P : mPic Y ad s tk f) (N : zN s) (x : Int32) (v : Int64) : hM Y l y_Mod_bid S_Mod_bid (some .int) [.ref (ad 0 0), .int x, .long v] f (fun r f' => r = some (.int (za_bid s x v).1) ∧ ∃ tk', mPic Y ad (za_bid s x v).2 tk' f') := by
  refine hM.of (by decide) rfl (Nat.le_of_ble_eq_true rfl) ?_
  intro X hl hnm C E
  show hG Y X S_Mod_bid 0 0 f [(0, .ref (ad 0 0)), (1, .int x), (2, .long v)] [] 0
  refine r_aload_n C d_Mod_bid_0 rfl rfl ?_
  refine r_get C hq_Mod d_Mod_bid_1 (j := 8) (Nat.le_of_ble_eq_true rfl) mf_Mod_82 (mp_0 P) rfl ?_
  refine r_bipush (v := 12) C d_Mod_bid_4 rfl ?_
  refine r_icmp_eq (tgt := 40) C d_Mod_bid_6 rfl (fun c_6 => ?_) (fun c_6 => ?_)
  · skip
    have hz : za_bid s x v = (-1, s) := by
      have : z_nD s = 12 := (nI_eq (a := z_nD s) (b := 12) (by have := N.2.2.1; omega) (by decide)).mp c_6
      unfold za_bid
      split <;> simp [this]
    refine r_iconst (v := (-1)) C d_Mod_bid_40 rfl ?_
    refine r_iret C E rfl d_Mod_bid_41 (Nat.le_of_ble_eq_true rfl) (Nat.le_of_ble_eq_true rfl) ?_
    rw [hz]
    exact ⟨rfl, tk, P⟩
  · skip
    have c6 : z_nD s < 12 := by
      have h1 := N.2.2.1
      rcases Nat.lt_or_ge (z_nD s) 12 with h | h
      · exact h
      · exact absurd (show nI (z_nD s) = 12 by rw [show z_nD s = 12 by omega]; rfl) c_6
    refine r_aload_n C d_Mod_bid_9 rfl rfl ?_
    refine r_iload_n C d_Mod_bid_10 rfl rfl ?_
    refine r_callV C (m_isBidder Y _ P _) mQ_Mod_isBidder d_Mod_bid_11 ml_Mod_91 mi_Mod_isBidder mv_Mod_isBidder (mp_0 P) rfl rfl rfl rfl (Nat.le_of_ble_eq_true rfl) ⟨⟨Nat.le_of_ble_eq_true rfl, Nat.le_of_ble_eq_true rfl⟩, Nat.le_of_ble_eq_true rfl, Nat.le_of_ble_eq_true rfl⟩ (fun v f' hp => ?_)
    obtain ⟨rfl, hf⟩ := hp
    replace hf := hf.symm
    subst hf
    refine r_if_eq (tgt := 40) C d_Mod_bid_14 rfl (fun c_14 => ?_) (fun c_14 => ?_)
    · skip
      have hz : za_bid s x v = (-1, s) := by simp [za_unop, bS_none c_14, za_bid]
      refine r_iconst (v := (-1)) C d_Mod_bid_40 rfl ?_
      refine r_iret C E rfl d_Mod_bid_41 (Nat.le_of_ble_eq_true rfl) (Nat.le_of_ble_eq_true rfl) ?_
      rw [hz]
      exact ⟨rfl, tk, P⟩
    · skip
      obtain ⟨i, hat⟩ := bS_some c_14
      obtain ⟨hi, rfl⟩ := z_at_some (by have := N.2.1; omega) hat
      have hi6 : i < 6 := by have := N.2.1; omega
      refine r_aload_n C d_Mod_bid_17 rfl rfl ?_
      refine r_get C hq_Mod d_Mod_bid_18 (j := 3) (Nat.le_of_ble_eq_true rfl) mf_Mod_13 (mp_0 P) rfl ?_
      refine r_iload_n C d_Mod_bid_21 rfl rfl ?_
      refine r_zald (t0 := 2) C d_Mod_bid_22 (mp_opened P) rfl (rfl) (hi6) (by decide) (rfl) ?_
      refine r_if_ne (tgt := 40) C d_Mod_bid_23 rfl (fun c_23 => ?_) (fun c_23 => ?_)
      · skip
        rw [bI_n0] at c_23
        have hz : za_bid s (nI i) v = (-1, s) := by simp [za_unop, hat, c_23, za_bid]
        refine r_iconst (v := (-1)) C d_Mod_bid_40 rfl ?_
        refine r_iret C E rfl d_Mod_bid_41 (Nat.le_of_ble_eq_true rfl) (Nat.le_of_ble_eq_true rfl) ?_
        rw [hz]
        exact ⟨rfl, tk, P⟩
      · skip
        rw [bI_0] at c_23
        have hun : za_unop s (nI i) = some i := by simp [za_unop, hat, c_23]
        refine r_lload_n C d_Mod_bid_26 rfl rfl ?_
        refine r_lconst (v := 0) C d_Mod_bid_27 rfl ?_
        refine r_lcmp C d_Mod_bid_28 ?_
        refine r_if_lt (tgt := 40) C d_Mod_bid_29 rfl (fun c_29 => ?_) (fun c_29 => ?_)
        · skip
          rw [lg_cmp_lt] at c_29
          have hz : za_bid s (nI i) v = (-1, s) := by simp [za_bid, hun, k_inF1 c_29]
          refine r_iconst (v := (-1)) C d_Mod_bid_40 rfl ?_
          refine r_iret C E rfl d_Mod_bid_41 (Nat.le_of_ble_eq_true rfl) (Nat.le_of_ble_eq_true rfl) ?_
          rw [hz]
          exact ⟨rfl, tk, P⟩
        · skip
          rw [lg_cmp_lt] at c_29
          refine r_lload_n C d_Mod_bid_32 rfl rfl ?_
          refine r_ldc2 C d_Mod_bid_33 mn_Mod_95 ?_
          refine r_lcmp C d_Mod_bid_36 ?_
          refine r_if_le (tgt := 42) C d_Mod_bid_37 rfl (fun c_37 => ?_) (fun c_37 => ?_)
          · skip
            rw [lg_cmp_le] at c_37
            have hz : za_bid s (nI i) v = (nI (z_nD s), zu_bid s i v) := by simp [za_bid, hun, k_inT c_29 c_37, c6]
            refine r_aload_n C d_Mod_bid_42 rfl rfl ?_
            refine r_get C hq_Mod d_Mod_bid_43 (j := 9) (Nat.le_of_ble_eq_true rfl) mf_Mod_30 (mp_0 P) rfl ?_
            refine r_aload_n C d_Mod_bid_46 rfl rfl ?_
            refine r_get C hq_Mod d_Mod_bid_47 (j := 8) (Nat.le_of_ble_eq_true rfl) mf_Mod_82 (mp_0 P) rfl ?_
            refine r_iload_n C d_Mod_bid_50 rfl rfl ?_
            refine r_iast (t0 := 1) C d_Mod_bid_51 (mp_owners P) rfl (rfl) (c6) (by decide) ?_
            refine r_aload_n C d_Mod_bid_52 rfl rfl ?_
            refine r_get C hq_Mod d_Mod_bid_53 (j := 10) (Nat.le_of_ble_eq_true rfl) mf_Mod_33 ((hw_un _ (mNe P 0 7 (by decide) (by decide) (by decide))).trans (mp_0 P)) rfl ?_
            refine r_aload_n C d_Mod_bid_56 rfl rfl ?_
            refine r_get C hq_Mod d_Mod_bid_57 (j := 8) (Nat.le_of_ble_eq_true rfl) mf_Mod_82 ((hw_un _ (mNe P 0 7 (by decide) (by decide) (by decide))).trans (mp_0 P)) rfl ?_
            refine r_lload_n C d_Mod_bid_60 rfl rfl ?_
            refine r_last (t0 := 0) C d_Mod_bid_61 ((hw_un _ (mNe P 8 7 (by decide) (by decide) (by decide))).trans (mp_cents P)) rfl (rfl) (c6) (by decide) ?_
            refine r_aload_n C d_Mod_bid_62 rfl rfl ?_
            refine r_dup C d_Mod_bid_63 rfl ?_
            refine r_get C hq_Mod d_Mod_bid_64 (j := 8) (Nat.le_of_ble_eq_true rfl) mf_Mod_82 ((hw_un _ (mNe P 0 8 (by decide) (by decide) (by decide))).trans ((hw_un _ (mNe P 0 7 (by decide) (by decide) (by decide))).trans (mp_0 P))) rfl ?_
            refine r_iconst (v := 1) C d_Mod_bid_67 rfl ?_
            refine r_iadd C d_Mod_bid_68 ?_
            refine r_put C hq_Mod d_Mod_bid_69 (j := 8) (fs' := [_, _, _, _, _, _, _, _, _, _, _, _, _, _, _, _, _, _, _, _, _, _, _, _, _, _, _, _]) (Nat.le_of_ble_eq_true rfl) mf_Mod_82 rfl rfl rfl rfl ((hw_un _ (mNe P 0 8 (by decide) (by decide) (by decide))).trans ((hw_un _ (mNe P 0 7 (by decide) (by decide) (by decide))).trans (mp_0 P))) (Nat.le_of_ble_eq_true rfl) rfl ?_
            refine r_aload_n C d_Mod_bid_72 rfl rfl ?_
            refine r_iconst (v := 0) C d_Mod_bid_73 rfl ?_
            refine r_put C hq_Mod d_Mod_bid_74 (j := 13) (fs' := [_, _, _, _, _, _, _, _, _, _, _, _, _, _, _, _, _, _, _, _, _, _, _, _, _, _, _, _]) (Nat.le_of_ble_eq_true rfl) mf_Mod_87 rfl rfl rfl rfl (hw_us _ _ _) (Nat.le_of_ble_eq_true rfl) rfl ?_
            refine r_aload_n C d_Mod_bid_77 rfl rfl ?_
            refine r_get C hq_Mod d_Mod_bid_78 (j := 8) (Nat.le_of_ble_eq_true rfl) mf_Mod_82 (hw_us _ _ _) rfl ?_
            refine r_iconst (v := 1) C d_Mod_bid_81 rfl ?_
            refine r_isub C d_Mod_bid_82 ?_
            refine r_iret C E rfl d_Mod_bid_83 (Nat.le_of_ble_eq_true rfl) (Nat.le_of_ble_eq_true rfl) ?_
            rw [hz]
            refine ⟨by rw [nI_1, nI_m1], tk, ?_⟩
            exact mEnd (mPut (mPut (mPut (mPut P 7 (by decide) _) 8 (by decide) _) 0 (by decide) _) 0 (by decide) _) (lt22 (by rw [nI_1]; rfl) rfl rfl rfl rfl rfl rfl (congrArg (eI (Y.2 1) 12) (hv_nI _ _ _).symm) rfl rfl rfl rfl rfl rfl rfl rfl rfl rfl rfl rfl rfl rfl)
          · skip
            rw [lg_cmp_le] at c_37
            have hz : za_bid s (nI i) v = (-1, s) := by simp [za_bid, hun, k_inF2 c_37]
            refine r_iconst (v := (-1)) C d_Mod_bid_40 rfl ?_
            refine r_iret C E rfl d_Mod_bid_41 (Nat.le_of_ble_eq_true rfl) (Nat.le_of_ble_eq_true rfl) ?_
            rw [hz]
            exact ⟨rfl, tk, P⟩

set_option maxHeartbeats 4000000 in
set_option maxRecDepth 100000 in
theorem m_on (Y : hY) (l : Launch) {ad : Nat → Nat → Nat} {s : zS} {tk : Nat → Bool} {f : hw_F} (P : mPic Y ad s tk f) (N : zN s) (x y : Int32) : hM Y l y_Mod_on S_Mod_on (some .boolean) [.ref (ad 0 0), .int x, .int y] f (fun r f' => r = some (.int (bI (za_on s x y).1)) ∧ ∃ tk', mPic Y ad (za_on s x y).2 tk' f') := by
  refine hM.of (by decide) rfl (Nat.le_of_ble_eq_true rfl) ?_
  intro X hl hnm C E
  show hG Y X S_Mod_on 0 0 f [(0, .ref (ad 0 0)), (1, .int x), (2, .int y)] [] 0
  refine r_aload_n C d_Mod_on_0 rfl rfl ?_
  refine r_iload_n C d_Mod_on_1 rfl rfl ?_
  refine r_callV C (m_isBid Y _ P _) mQ_Mod_isBid d_Mod_on_2 ml_Mod_97 mi_Mod_isBid mv_Mod_isBid (mp_0 P) rfl rfl rfl rfl (Nat.le_of_ble_eq_true rfl) ⟨⟨Nat.le_of_ble_eq_true rfl, Nat.le_of_ble_eq_true rfl⟩, Nat.le_of_ble_eq_true rfl, Nat.le_of_ble_eq_true rfl⟩ (fun v f' hp => ?_)
  obtain ⟨rfl, hf⟩ := hp
  replace hf := hf.symm
  subst hf
  refine r_if_eq (tgt := 44) C d_Mod_on_5 rfl (fun c_5 => ?_) (fun c_5 => ?_)
  · skip
    have hz : za_on s x y = (false, s) := by simp [za_on, bS_none c_5]
    refine r_iconst (v := 0) C d_Mod_on_44 rfl ?_
    refine r_zret C E rfl d_Mod_on_45 (rfl) (Nat.le_of_ble_eq_true rfl) (Nat.le_of_ble_eq_true rfl) ?_
    rw [hz]
    exact ⟨rfl, tk, P⟩
  · skip
    obtain ⟨i, hat⟩ := bS_some c_5
    obtain ⟨hi, rfl⟩ := z_at_some (by have := N.2.2.1; omega) hat
    have hi12 : i < 12 := by have := N.2.2.1; omega
    have how : z_ow s i < 6 := by have := N.2.2.2.2.1 i hi; have := N.2.1; omega
    refine r_aload_n C d_Mod_on_8 rfl rfl ?_
    refine r_iload_n C d_Mod_on_9 rfl rfl ?_
    refine r_callV C (m_isLot Y _ P _) mQ_Mod_isLot d_Mod_on_10 ml_Mod_100 mi_Mod_isLot mv_Mod_isLot (mp_0 P) rfl rfl rfl rfl (Nat.le_of_ble_eq_true rfl) ⟨⟨Nat.le_of_ble_eq_true rfl, Nat.le_of_ble_eq_true rfl⟩, Nat.le_of_ble_eq_true rfl, Nat.le_of_ble_eq_true rfl⟩ (fun v f' hp => ?_)
    obtain ⟨rfl, hf⟩ := hp
    replace hf := hf.symm
    subst hf
    refine r_if_eq (tgt := 44) C d_Mod_on_13 rfl (fun c_13 => ?_) (fun c_13 => ?_)
    · skip
      have hz : za_on s (nI i) y = (false, s) := by simp [za_on, hat, bS_none c_13]
      refine r_iconst (v := 0) C d_Mod_on_44 rfl ?_
      refine r_zret C E rfl d_Mod_on_45 (rfl) (Nat.le_of_ble_eq_true rfl) (Nat.le_of_ble_eq_true rfl) ?_
      rw [hz]
      exact ⟨rfl, tk, P⟩
    · skip
      obtain ⟨j, hat2⟩ := bS_some c_13
      obtain ⟨hj, rfl⟩ := z_at_some (by have := N.1; omega) hat2
      have hj8 : j < 8 := by have := N.1; omega
      refine r_aload_n C d_Mod_on_16 rfl rfl ?_
      refine r_get C hq_Mod d_Mod_on_17 (j := 3) (Nat.le_of_ble_eq_true rfl) mf_Mod_13 (mp_0 P) rfl ?_
      refine r_aload_n C d_Mod_on_20 rfl rfl ?_
      refine r_get C hq_Mod d_Mod_on_21 (j := 9) (Nat.le_of_ble_eq_true rfl) mf_Mod_30 (mp_0 P) rfl ?_
      refine r_iload_n C d_Mod_on_24 rfl rfl ?_
      refine r_iald (t0 := 1) C d_Mod_on_25 (mp_owners P) rfl (rfl) (hi12) (by decide) (rfl) ?_
      refine r_zald (t0 := 2) C d_Mod_on_26 (mp_opened P) rfl (rfl) (how) (by decide) (rfl) ?_
      refine r_if_ne (tgt := 44) C d_Mod_on_27 rfl (fun c_27 => ?_) (fun c_27 => ?_)
      · skip
        rw [bI_n0] at c_27
        have hz : za_on s (nI i) (nI j) = (false, s) := by simp [za_on, hat, hat2, c_27]
        refine r_iconst (v := 0) C d_Mod_on_44 rfl ?_
        refine r_zret C E rfl d_Mod_on_45 (rfl) (Nat.le_of_ble_eq_true rfl) (Nat.le_of_ble_eq_true rfl) ?_
        rw [hz]
        exact ⟨rfl, tk, P⟩
      · skip
        rw [bI_0] at c_27
        refine r_aload_n C d_Mod_on_30 rfl rfl ?_
        refine r_get C hq_Mod d_Mod_on_31 (j := 11) (Nat.le_of_ble_eq_true rfl) mf_Mod_36 (mp_0 P) rfl ?_
        refine r_bipush (v := 8) C d_Mod_on_34 rfl ?_
        refine r_iload_n C d_Mod_on_36 rfl rfl ?_
        refine r_imul C d_Mod_on_37 ?_
        refine r_iload_n C d_Mod_on_38 rfl rfl ?_
        refine r_iadd C d_Mod_on_39 ?_
        refine r_zald (t0 := 2) C d_Mod_on_40 (mp_has P) rfl (ix8 i j) (by omega) (by decide) (rfl) ?_
        refine r_if_eq (tgt := 46) C d_Mod_on_41 rfl (fun c_41 => ?_) (fun c_41 => ?_)
        · skip
          rw [bI_0] at c_41
          have hz : za_on s (nI i) (nI j) = (true, zu_on s i j) := by simp [za_on, hat, hat2, c_27, c_41]
          refine r_aload_n C d_Mod_on_46 rfl rfl ?_
          refine r_get C hq_Mod d_Mod_on_47 (j := 11) (Nat.le_of_ble_eq_true rfl) mf_Mod_36 (mp_0 P) rfl ?_
          refine r_bipush (v := 8) C d_Mod_on_50 rfl ?_
          refine r_iload_n C d_Mod_on_52 rfl rfl ?_
          refine r_imul C d_Mod_on_53 ?_
          refine r_iload_n C d_Mod_on_54 rfl rfl ?_
          refine r_iadd C d_Mod_on_55 ?_
          refine r_iconst (v := 1) C d_Mod_on_56 rfl ?_
          refine r_zast (t0 := 2) C d_Mod_on_57 (mp_has P) rfl (ix8 i j) (by omega) (by decide) (rfl) ?_
          refine r_aload_n C d_Mod_on_58 rfl rfl ?_
          refine r_iconst (v := 0) C d_Mod_on_59 rfl ?_
          refine r_put C hq_Mod d_Mod_on_60 (j := 13) (fs' := [_, _, _, _, _, _, _, _, _, _, _, _, _, _, _, _, _, _, _, _, _, _, _, _, _, _, _, _]) (Nat.le_of_ble_eq_true rfl) mf_Mod_87 rfl rfl rfl rfl ((hw_un _ (mNe P 0 9 (by decide) (by decide) (by decide))).trans (mp_0 P)) (Nat.le_of_ble_eq_true rfl) rfl ?_
          refine r_iconst (v := 1) C d_Mod_on_63 rfl ?_
          refine r_zret C E rfl d_Mod_on_64 (rfl) (Nat.le_of_ble_eq_true rfl) (Nat.le_of_ble_eq_true rfl) ?_
          rw [hz]
          exact ⟨rfl, tk, mEnd (mPut (mPut P 9 (by decide) _) 0 (by decide) _) (lt22 rfl rfl rfl rfl rfl rfl rfl rfl rfl (congrArg (eI (Y.2 2) 96) (hv_bI _ _ true).symm) rfl rfl rfl rfl rfl rfl rfl rfl rfl rfl rfl rfl)⟩
        · skip
          rw [bI_n0] at c_41
          have hz : za_on s (nI i) (nI j) = (false, s) := by simp [za_on, hat, hat2, c_41]
          refine r_iconst (v := 0) C d_Mod_on_44 rfl ?_
          refine r_zret C E rfl d_Mod_on_45 (rfl) (Nat.le_of_ble_eq_true rfl) (Nat.le_of_ble_eq_true rfl) ?_
          rw [hz]
          exact ⟨rfl, tk, P⟩

set_option maxHeartbeats 4000000 in
set_option maxRecDepth 100000 in
theorem m_seal (Y : hY) (l : Launch) {ad : Nat → Nat → Nat} {s : zS} {tk : Nat → Bool} {f : hw_F} (P : mPic Y ad s tk f) (N : zN s) (x y b : Int32) : hM Y l y_Mod_seal S_Mod_seal (some .int) [.ref (ad 0 0), .int x, .int y, .int b] f (fun r f' => r = some (.int (za_seal s x y b).1) ∧ ∃ tk', mPic Y ad (za_seal s x y b).2 tk' f') := by
  refine hM.of (by decide) rfl (Nat.le_of_ble_eq_true rfl) ?_
  intro X hl hnm C E
  show hG Y X S_Mod_seal 0 0 f [(0, .ref (ad 0 0)), (1, .int x), (2, .int y), (3, .int b)] [] 0
  refine r_aload_n C d_Mod_seal_0 rfl rfl ?_
  refine r_iload_n C d_Mod_seal_1 rfl rfl ?_
  refine r_callV C (m_isBidder Y _ P _) mQ_Mod_isBidder d_Mod_seal_2 ml_Mod_91 mi_Mod_isBidder mv_Mod_isBidder (mp_0 P) rfl rfl rfl rfl (Nat.le_of_ble_eq_true rfl) ⟨⟨Nat.le_of_ble_eq_true rfl, Nat.le_of_ble_eq_true rfl⟩, Nat.le_of_ble_eq_true rfl, Nat.le_of_ble_eq_true rfl⟩ (fun v f' hp => ?_)
  obtain ⟨rfl, hf⟩ := hp
  replace hf := hf.symm
  subst hf
  refine r_if_eq (tgt := 52) C d_Mod_seal_5 rfl (fun c_5 => ?_) (fun c_5 => ?_)
  · skip
    have hz : za_seal s x y b = (-1, s) := by simp [za_unop, bS_none c_5, za_seal]
    refine r_iconst (v := (-1)) C d_Mod_seal_52 rfl ?_
    refine r_iret C E rfl d_Mod_seal_53 (Nat.le_of_ble_eq_true rfl) (Nat.le_of_ble_eq_true rfl) ?_
    rw [hz]
    exact ⟨rfl, tk, P⟩
  · skip
    obtain ⟨i, hat⟩ := bS_some c_5
    obtain ⟨hi, rfl⟩ := z_at_some (by have := N.2.1; omega) hat
    have hi6 : i < 6 := by have := N.2.1; omega
    refine r_aload_n C d_Mod_seal_8 rfl rfl ?_
    refine r_get C hq_Mod d_Mod_seal_9 (j := 3) (Nat.le_of_ble_eq_true rfl) mf_Mod_13 (mp_0 P) rfl ?_
    refine r_iload_n C d_Mod_seal_12 rfl rfl ?_
    refine r_zald (t0 := 2) C d_Mod_seal_13 (mp_opened P) rfl (rfl) (hi6) (by decide) (rfl) ?_
    refine r_if_ne (tgt := 52) C d_Mod_seal_14 rfl (fun c_14 => ?_) (fun c_14 => ?_)
    · skip
      rw [bI_n0] at c_14
      have hz : za_seal s (nI i) y b = (-1, s) := by simp [za_unop, hat, c_14, za_seal]
      refine r_iconst (v := (-1)) C d_Mod_seal_52 rfl ?_
      refine r_iret C E rfl d_Mod_seal_53 (Nat.le_of_ble_eq_true rfl) (Nat.le_of_ble_eq_true rfl) ?_
      rw [hz]
      exact ⟨rfl, tk, P⟩
    · skip
      rw [bI_0] at c_14
      have hun : za_unop s (nI i) = some i := by simp [za_unop, hat, c_14]
      refine r_iload_n C d_Mod_seal_17 rfl rfl ?_
      refine r_if_lt (tgt := 52) C d_Mod_seal_18 rfl (fun c_18 => ?_) (fun c_18 => ?_)
      · skip
        have e8 : z_at y 8 = none := z_at_neg c_18
        have hz : za_seal s (nI i) y b = (-1, s) := by simp [za_seal, hun, e8]
        refine r_iconst (v := (-1)) C d_Mod_seal_52 rfl ?_
        refine r_iret C E rfl d_Mod_seal_53 (Nat.le_of_ble_eq_true rfl) (Nat.le_of_ble_eq_true rfl) ?_
        rw [hz]
        exact ⟨rfl, tk, P⟩
      · skip
        refine r_iload_n C d_Mod_seal_21 rfl rfl ?_
        refine r_bipush (v := 8) C d_Mod_seal_22 rfl ?_
        refine r_icmp_ge (tgt := 52) C d_Mod_seal_24 rfl (fun c_24 => ?_) (fun c_24 => ?_)
        · skip
          have e8 : z_at y 8 = none := z_at_big (n := 8) (Int32.not_lt.mpr c_24)
          have hz : za_seal s (nI i) y b = (-1, s) := by simp [za_seal, hun, e8]
          refine r_iconst (v := (-1)) C d_Mod_seal_52 rfl ?_
          refine r_iret C E rfl d_Mod_seal_53 (Nat.le_of_ble_eq_true rfl) (Nat.le_of_ble_eq_true rfl) ?_
          rw [hz]
          exact ⟨rfl, tk, P⟩
        · skip
          obtain ⟨j, hj⟩ : ∃ j, z_at y 8 = some j := ⟨_, by unfold z_at; exact if_pos ⟨Int32.not_lt.mp c_18, Int32.not_le.mp c_24⟩⟩
          obtain ⟨hj8, rfl⟩ := z_at_some (by decide) hj
          refine r_iload_n C d_Mod_seal_27 rfl rfl ?_
          refine r_if_lt (tgt := 52) C d_Mod_seal_28 rfl (fun c_28 => ?_) (fun c_28 => ?_)
          · skip
            have eb : k_in b.toInt64 0 255 = _ := k_in32 (v := b) (a := 0) (b := 255)
            have hz : za_seal s (nI i) (nI j) b = (-1, s) := by simp [za_seal, hun, hj, eb, Int32.not_le.mpr c_28]
            refine r_iconst (v := (-1)) C d_Mod_seal_52 rfl ?_
            refine r_iret C E rfl d_Mod_seal_53 (Nat.le_of_ble_eq_true rfl) (Nat.le_of_ble_eq_true rfl) ?_
            rw [hz]
            exact ⟨rfl, tk, P⟩
          · skip
            refine r_iload_n C d_Mod_seal_31 rfl rfl ?_
            refine r_sipush (v := 255) C d_Mod_seal_32 rfl ?_
            refine r_icmp_gt (tgt := 52) C d_Mod_seal_35 rfl (fun c_35 => ?_) (fun c_35 => ?_)
            · skip
              have eb : k_in b.toInt64 0 255 = _ := k_in32 (v := b) (a := 0) (b := 255)
              have hz : za_seal s (nI i) (nI j) b = (-1, s) := by simp [za_seal, hun, hj, eb, Int32.not_le.mpr c_35]
              refine r_iconst (v := (-1)) C d_Mod_seal_52 rfl ?_
              refine r_iret C E rfl d_Mod_seal_53 (Nat.le_of_ble_eq_true rfl) (Nat.le_of_ble_eq_true rfl) ?_
              rw [hz]
              exact ⟨rfl, tk, P⟩
            · skip
              refine r_aload_n C d_Mod_seal_38 rfl rfl ?_
              refine r_get C hq_Mod d_Mod_seal_39 (j := 7) (Nat.le_of_ble_eq_true rfl) mf_Mod_27 (mp_0 P) rfl ?_
              refine r_bipush (v := 8) C d_Mod_seal_42 rfl ?_
              refine r_iload_n C d_Mod_seal_44 rfl rfl ?_
              refine r_imul C d_Mod_seal_45 ?_
              refine r_iload_n C d_Mod_seal_46 rfl rfl ?_
              refine r_iadd C d_Mod_seal_47 ?_
              refine r_zald (t0 := 2) C d_Mod_seal_48 (mp_sealed P) rfl (ix8 i j) (by omega) (by decide) (rfl) ?_
              refine r_if_eq (tgt := 54) C d_Mod_seal_49 rfl (fun c_49 => ?_) (fun c_49 => ?_)
              · skip
                rw [bI_0] at c_49
                have eb : k_in b.toInt64 0 255 = _ := k_in32 (v := b) (a := 0) (b := 255)
                have hz : za_seal s (nI i) (nI j) b = (nI (z_told (zu_seal s i j b) i), zu_seal s i j b) := by simp [za_seal, hun, hj, eb, Int32.not_lt.mp c_28, Int32.not_lt.mp c_35, c_49]
                refine r_aload_n C d_Mod_seal_54 rfl rfl ?_
                refine r_get C hq_Mod d_Mod_seal_55 (j := 6) (Nat.le_of_ble_eq_true rfl) mf_Mod_24 (mp_0 P) rfl ?_
                refine r_bipush (v := 8) C d_Mod_seal_58 rfl ?_
                refine r_iload_n C d_Mod_seal_60 rfl rfl ?_
                refine r_imul C d_Mod_seal_61 ?_
                refine r_iload_n C d_Mod_seal_62 rfl rfl ?_
                refine r_iadd C d_Mod_seal_63 ?_
                refine r_iload_n C d_Mod_seal_64 rfl rfl ?_
                refine r_iast (t0 := 1) C d_Mod_seal_65 (mp_seals P) rfl (ix8 i j) (by omega) (by decide) ?_
                refine r_aload_n C d_Mod_seal_66 rfl rfl ?_
                refine r_get C hq_Mod d_Mod_seal_67 (j := 7) (Nat.le_of_ble_eq_true rfl) mf_Mod_27 ((hw_un _ (mNe P 0 5 (by decide) (by decide) (by decide))).trans (mp_0 P)) rfl ?_
                refine r_bipush (v := 8) C d_Mod_seal_70 rfl ?_
                refine r_iload_n C d_Mod_seal_72 rfl rfl ?_
                refine r_imul C d_Mod_seal_73 ?_
                refine r_iload_n C d_Mod_seal_74 rfl rfl ?_
                refine r_iadd C d_Mod_seal_75 ?_
                refine r_iconst (v := 1) C d_Mod_seal_76 rfl ?_
                refine r_zast (t0 := 2) C d_Mod_seal_77 ((hw_un _ (mNe P 6 5 (by decide) (by decide) (by decide))).trans (mp_sealed P)) rfl (ix8 i j) (by omega) (by decide) (rfl) ?_
                refine r_aload_n C d_Mod_seal_78 rfl rfl ?_
                refine r_iconst (v := 0) C d_Mod_seal_79 rfl ?_
                refine r_put C hq_Mod d_Mod_seal_80 (j := 13) (fs' := [_, _, _, _, _, _, _, _, _, _, _, _, _, _, _, _, _, _, _, _, _, _, _, _, _, _, _, _]) (Nat.le_of_ble_eq_true rfl) mf_Mod_87 rfl rfl rfl rfl ((hw_un _ (mNe P 0 6 (by decide) (by decide) (by decide))).trans ((hw_un _ (mNe P 0 5 (by decide) (by decide) (by decide))).trans (mp_0 P))) (Nat.le_of_ble_eq_true rfl) rfl ?_
                have P2 : mPic Y ad (zu_seal s i j b) tk _ := mEnd (mPut (mPut (mPut P 5 (by decide) _) 6 (by decide) _) 0 (by decide) _) (lt22 rfl rfl rfl rfl rfl rfl (congrArg (eI (Y.2 2) 48) (hv_bI _ _ true).symm) rfl rfl rfl rfl rfl rfl rfl rfl rfl rfl rfl rfl rfl rfl rfl)
                refine r_aload_n C d_Mod_seal_83 rfl rfl ?_
                refine r_iload_n C d_Mod_seal_84 rfl rfl ?_
                refine r_callV C (m_told Y _ P2 hi6) mQ_Mod_told d_Mod_seal_85 ml_Mod_103 mi_Mod_told mv_Mod_told (mp_0 P2) rfl rfl rfl rfl (Nat.le_of_ble_eq_true rfl) ⟨⟨Nat.le_of_ble_eq_true rfl, Nat.le_of_ble_eq_true rfl⟩, Nat.le_of_ble_eq_true rfl, Nat.le_of_ble_eq_true rfl⟩ (fun v f' hp => ?_)
                obtain ⟨rfl, hf⟩ := hp
                replace hf := hf.symm
                subst hf
                refine r_iret C E rfl d_Mod_seal_88 (Nat.le_of_ble_eq_true rfl) (Nat.le_of_ble_eq_true rfl) ?_
                rw [hz]
                exact ⟨rfl, tk, P2⟩
              · skip
                rw [bI_n0] at c_49
                have hz : za_seal s (nI i) (nI j) b = (-1, s) := by simp [za_seal, hun, hj, c_49]
                refine r_iconst (v := (-1)) C d_Mod_seal_52 rfl ?_
                refine r_iret C E rfl d_Mod_seal_53 (Nat.le_of_ble_eq_true rfl) (Nat.le_of_ble_eq_true rfl) ?_
                rw [hz]
                exact ⟨rfl, tk, P⟩

