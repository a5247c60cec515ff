theorem lw_lt {L j : Nat} (hL : L ≤ 4096) (hj : 8 * j ≤ L) (h : ¬ nI L - 8 < nI (8 * j)) : 8 * j + 8 ≤ L := by
  rw [Int32.lt_iff_toInt_lt, Int32.toInt_sub, nI_toInt (by omega), nI_toInt (by omega), show (8 : Int32).toInt = 8 from rfl, Int.bmod_eq_of_le (by omega) (by omega)] at h
  omega
theorem lw_ti {t : Nat} (ht : t < 32) : (nI t).toInt = t := nI_toInt (by omega)
set_option maxHeartbeats 4000000 in
set_option maxRecDepth 100000 in
theorem law_loop {Y : hY} {X : hX} {b L : Nat} {xs : Nat → Int32} (E : lCx Y X b L xs) (hL : L ≤ 4096) {q1 q2 : Nat} (Z : ∀ k n f lv, k ≤ 600000 → n ≤ 7302250 → hG Y X S_law k n f lv [] 1223) : ∀ d j, j + d = 513 → 8 * j ≤ L → ∀ s f, lSt Y q1 q2 s s f → hG Y X S_law (32 + 4 * j) (884 + 22 * j) f [(3, .int (nI (8 * j))), (2, .ref q2), (1, .ref q1), (0, .ref b)] [] 18 := by
  have C := E.1
  intro d
  induction d with
  | zero =>
    intro j h1 h2
    omega
  | succ d ih =>
    intro j h1 h2 s f L0
    refine r_iload_n C d_Law_law_18 rfl rfl ?_
    refine r_aload_n C d_Law_law_19 rfl rfl ?_
    refine r_slen E d_Law_law_20 ?_
    refine r_bipush (v := 8) C d_Law_law_21 rfl ?_
    refine r_isub C d_Law_law_23 ?_
    refine r_icmp_gt (tgt := 1223) C d_Law_law_24 rfl (fun _ => Z _ _ _ _ (by omega) (by omega)) (fun c_24 => ?_)
    have h8 := lw_lt hL h2 c_24
    have KK : ∀ s' f', lSt Y q1 q2 s' s' f' → hG Y X S_law (32 + 4 * j + 4) (884 + 22 * j + 22) f' [(3, .int (nI (8 * j))), (2, .ref q2), (1, .ref q1), (0, .ref b)] [] 1217 := by
      intro s' f' L9
      refine r_iinc (v := nI (8 * (j + 1))) (lv' := [(3, .int (nI (8 * (j + 1)))), (2, .ref q2), (1, .ref q1), (0, .ref b)]) C d_Law_law_1217 rfl (by rw [show 8 * (j + 1) = 8 * j + 8 by omega, ← nI_add]; rfl) (Nat.le_of_ble_eq_true rfl) rfl ?_
      refine r_goto (tgt := 18) C d_Law_law_1220 rfl ?_
      have h9 := ih (j + 1) (by omega) (by omega) s' f' L9
      rw [show 32 + 4 * (j + 1) = 32 + 4 * j + 4 by omega, show 884 + 22 * (j + 1) = 884 + 22 * j + 22 by omega] at h9
      exact h9
    refine r_aload_n C d_Law_law_27 rfl rfl ?_
    refine r_iload_n C d_Law_law_28 rfl rfl ?_
    refine r_sld E d_Law_law_29 (vp_in_nI (by omega) (by omega)) rfl ?_
    refine r_bipush (v := 31) C d_Law_law_30 rfl ?_
    refine r_iand C d_Law_law_32 ?_
    obtain ⟨t, ht, et⟩ := lw_and (xs (nI (8 * j)).toNatClampNeg)
    rw [et]
    rcases Nat.lt_or_ge t 22 with c | c
    · match t, c with
      | 0, _ => exact r_tableIn (off := 103) (tgt := 136) C d_Law_law_33 (by decide) (by decide) rfl rfl (lc_lot E hL h8 (by omega) (by omega) L0 KK)
      | 1, _ => exact r_tableIn (off := 156) (tgt := 189) C d_Law_law_33 (by decide) (by decide) rfl rfl (lc_bidder E hL h8 (by omega) (by omega) L0 KK)
      | 2, _ => exact r_tableIn (off := 195) (tgt := 228) C d_Law_law_33 (by decide) (by decide) rfl rfl (lc_time E hL h8 (by omega) (by omega) L0 KK)
      | 3, _ => exact r_tableIn (off := 258) (tgt := 291) C d_Law_law_33 (by decide) (by decide) rfl rfl (lc_most E hL h8 (by omega) (by omega) L0 KK)
      | 4, _ => exact r_tableIn (off := 291) (tgt := 324) C d_Law_law_33 (by decide) (by decide) rfl rfl (lc_bid E hL h8 (by omega) (by omega) L0 KK)
      | 5, _ => exact r_tableIn (off := 354) (tgt := 387) C d_Law_law_33 (by decide) (by decide) rfl rfl (lc_on E hL h8 (by omega) (by omega) L0 KK)
      | 6, _ => exact r_tableIn (off := 387) (tgt := 420) C d_Law_law_33 (by decide) (by decide) rfl rfl (lc_seal E hL h8 (by omega) (by omega) L0 KK)
      | 7, _ => exact r_tableIn (off := 430) (tgt := 463) C d_Law_law_33 (by decide) (by decide) rfl rfl (lc_digest E hL h8 (by omega) (by omega) L0 KK)
      | 8, _ => exact r_tableIn (off := 503) (tgt := 536) C d_Law_law_33 (by decide) (by decide) rfl rfl (lc_open E hL h8 (by omega) (by omega) L0 KK)
      | 9, _ => exact r_tableIn (off := 566) (tgt := 599) C d_Law_law_33 (by decide) (by decide) rfl rfl (lc_run E hL h8 (by omega) (by omega) L0 KK)
      | 10, _ => exact r_tableIn (off := 619) (tgt := 652) C d_Law_law_33 (by decide) (by decide) rfl rfl (lc_wins E hL h8 (by omega) (by omega) L0 KK)
      | 11, _ => exact r_tableIn (off := 642) (tgt := 675) C d_Law_law_33 (by decide) (by decide) rfl rfl (lc_sum E hL h8 (by omega) (by omega) L0 KK)
      | 12, _ => exact r_tableIn (off := 656) (tgt := 689) C d_Law_law_33 (by decide) (by decide) rfl rfl (lc_bound E hL h8 (by omega) (by omega) L0 KK)
      | 13, _ => exact r_tableIn (off := 670) (tgt := 703) C d_Law_law_33 (by decide) (by decide) rfl rfl (lc_proved E hL h8 (by omega) (by omega) L0 KK)
      | 14, _ => exact r_tableIn (off := 683) (tgt := 716) C d_Law_law_33 (by decide) (by decide) rfl rfl (lc_second E hL h8 (by omega) (by omega) L0 KK)
      | 15, _ => exact r_tableIn (off := 707) (tgt := 740) C d_Law_law_33 (by decide) (by decide) rfl rfl (lc_tie E hL h8 (by omega) (by omega) L0 KK)
      | 16, _ => exact r_tableIn (off := 740) (tgt := 773) C d_Law_law_33 (by decide) (by decide) rfl rfl (lc_step E hL h8 (by omega) (by omega) L0 KK)
      | 17, _ => exact r_tableIn (off := 887) (tgt := 920) C d_Law_law_33 (by decide) (by decide) rfl rfl (lc_price E hL h8 (by omega) (by omega) L0 KK)
      | 18, _ => exact r_tableIn (off := 991) (tgt := 1024) C d_Law_law_33 (by decide) (by decide) rfl rfl (lc_index E hL h8 (by omega) (by omega) L0 KK)
      | 19, _ => exact r_tableIn (off := 1094) (tgt := 1127) C d_Law_law_33 (by decide) (by decide) rfl rfl (lc_monthly E hL h8 (by omega) (by omega) L0 KK)
      | 20, _ => exact r_tableIn (off := 1128) (tgt := 1161) C d_Law_law_33 (by decide) (by decide) rfl rfl (lc_dispute E hL h8 (by omega) (by omega) L0 KK)
      | 21, _ => exact r_tableIn (off := 1161) (tgt := 1194) C d_Law_law_33 (by decide) (by decide) rfl rfl (lc_verdict E hL h8 (by omega) (by omega) L0 KK)
      | t + 22, c => exact absurd c (by omega)
    · exact r_tableOut (tgt := 1217) C d_Law_law_33 (Or.inr (by rw [lw_ti ht]; omega)) rfl (r_wide (by omega) (by omega) (KK s f L0))
theorem df_BT : ∀ j, j < 12 → defaultValue (ty_BT j) = vp_V [.null, .null, .null, .null, .null, .null, .null, .int 0, .int 0, .int 0, .int 0, .int 0] j := by decide +kernel
theorem df_Mod : ∀ j, j < 28 → defaultValue (ty_Mod j) = vp_V [.int 0, .int 0, .null, .null, .null, .null, .null, .null, .int 0, .null, .null, .null, .int 0, .int 0, .null, .null, .long 0, .null, .null, .null, .null, .null, .null, .null, .int 0, .null, .null, .null] j := by decide +kernel
/-- a world of one cell -/
def hw_1 (q : Nat) (e : va_E) : hw_F := fun a => if a = q then some e else none
theorem hw_1s (q : Nat) (e : va_E) : hw_1 q e q = some e := if_pos rfl
theorem hw_1u (f : hw_F) (q : Nat) (e : va_E) : hw_u f q e = hU (hw_1 q e) f := by
  funext a
  unfold hw_u hU hw_1
  by_cases h : a = q
  · simp [h]
  · simp [h]
theorem hw_1d {f : hw_F} {q : Nat} (h : f q = none) (e : va_E) : hDj (hw_1 q e) f := fun a x hx => by
  unfold hw_1 at hx
  split at hx
  · rename_i c; rw [c]; exact h
  · cases hx
set_option maxHeartbeats 4000000 in
set_option maxRecDepth 100000 in
theorem law_start {Y : hY} {X : hX} {b L : Nat} {xs : Nat → Int32} (E : lCx Y X b L xs) (hL : L ≤ 4096) (Z : ∀ k n f lv, k ≤ 600000 → n ≤ 7302250 → hG Y X S_law k n f lv [] 1223) : hG Y X S_law 0 0 (fun _ => none) [(0, .ref b)] [] 0 := by
  have C := E.1
  refine r_new C hq_BT d_Law_law_0 mk_Law_7 mb_BT mz_BT ty_BT_ok df_BT (Nat.le_of_ble_eq_true rfl) (Nat.le_of_ble_eq_true rfl) (fun q1 hq1 => ?_)
  refine r_dup C d_Law_law_3 rfl ?_
  refine r_callI C (k_BT_init Y _ (hw_us _ _ _)) mQ_BT_init d_Law_law_4 ml_Law_9 mi_BT_init rfl rfl rfl (Nat.le_of_ble_eq_true rfl) ⟨⟨Nat.le_of_ble_eq_true rfl, Nat.le_of_ble_eq_true rfl⟩, Nat.le_of_ble_eq_true rfl, Nat.le_of_ble_eq_true rfl⟩ (fun v f1 hp => ?_)
  obtain ⟨rfl, ad, ha, P⟩ := hp
  have hk : kSt Y q1 z_0 f1 := ⟨ad, false, kx_0, ha, P, rfl, j_0⟩
  clear P
  refine r_astore_n (lv' := [(1, .ref q1), (0, .ref b)]) C d_Law_law_7 rfl (Nat.le_of_ble_eq_true rfl) rfl ?_
  refine r_new C hq_Mod d_Law_law_8 mk_Law_10 mb_Mod mz_Mod ty_Mod_ok df_Mod (Nat.le_of_ble_eq_true rfl) (Nat.le_of_ble_eq_true rfl) (fun q2 hq2 => ?_)
  refine r_dup C d_Law_law_11 rfl ?_
  rw [hw_1u]
  refine r_callI C ((m_init Y _ (hw_1s q2 _)).frame (hw_1d hq2 _)) mQ_Mod_init d_Law_law_12 ml_Law_12 mi_Mod_init rfl rfl rfl (Nat.le_of_ble_eq_true rfl) ⟨⟨Nat.le_of_ble_eq_true rfl, Nat.le_of_ble_eq_true rfl⟩, Nat.le_of_ble_eq_true rfl, Nat.le_of_ble_eq_true rfl⟩ (fun v f2 hp => ?_)
  obtain ⟨g, rfl, d, rfl, ad2, ha2, P2⟩ := hp
  have L0 : lSt Y q1 q2 z_0 z_0 (hU g f1) := ⟨f1, g, hU_comm d, d.symm, hk, ad2, _, ha2, P2⟩
  refine r_astore_n (lv' := [(2, .ref q2), (1, .ref q1), (0, .ref b)]) C d_Law_law_15 rfl (Nat.le_of_ble_eq_true rfl) rfl ?_
  refine r_iconst (v := 0) C d_Law_law_16 rfl ?_
  refine r_istore_n (lv' := [(3, .int 0), (2, .ref q2), (1, .ref q1), (0, .ref b)]) C d_Law_law_17 rfl (Nat.le_of_ble_eq_true rfl) rfl ?_
  exact law_loop E hL Z 513 0 rfl (Nat.zero_le _) z_0 _ L0
