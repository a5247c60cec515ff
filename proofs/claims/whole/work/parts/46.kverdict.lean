set_option maxHeartbeats 4000000 in
set_option maxRecDepth 100000 in
theorem k_BT_ownReasonHolds (Y : hY) (l : Launch) {ad : Nat → Nat → Nat} {s : zS} {x : kX} {t : Bool} {f : hw_F} (P : kPic Y ad s x t f) (N : zN s) (W : kW s x) (G : ∀ k l, l < 8 → z_nL s ≤ l → z_h s (8 * k + l) = false) {i q : Nat} (hi : i < z_nD s) (h1 : 1 ≤ q) (h5 : q ≤ 5) : hM Y l y_BT_ownReasonHolds S_BT_ownReasonHolds (some .boolean) [.ref (ad 0 0), .ref (ad 15 i), .int (nI q)] f (fun r f' => r = some (.int (bI (zh s i (nI q)))) ∧ f' = f) := by
  refine hM.of (by decide) rfl (Nat.le_of_ble_eq_true rfl) ?_
  intro X hl hnm C E
  show hG Y X S_BT_ownReasonHolds 0 0 f [(0, .ref (ad 0 0)), (1, .ref (ad 15 i)), (2, .int (nI q))] [] 0
  refine r_iload_n C d_BT_ownReasonHolds_0 rfl rfl ?_
  rcases (show q = 1 ∨ q = 2 ∨ q = 3 ∨ q = 4 ∨ q = 5 by omega) with rfl | rfl | rfl | rfl | rfl
  · refine r_tableIn (tgt := 36) C d_BT_ownReasonHolds_1 (by decide) (by decide) rfl rfl ?_
    refine r_aload_n C d_BT_ownReasonHolds_36 rfl rfl ?_
    refine r_getN C hq_Bid d_BT_ownReasonHolds_37 (j := 1) (Nat.le_of_ble_eq_true rfl) mf_BT_97 (kp_15 P (hi)) rfl ?_
    refine r_getN C hq_Bdr d_BT_ownReasonHolds_40 (j := 1) (Nat.le_of_ble_eq_true rfl) mf_BT_258 (kp_14 P ((N.2.2.2.2.1 i hi))) rfl ?_
    refine r_if_ne (tgt := 50) C d_BT_ownReasonHolds_43 rfl (fun c_43 => ?_) (fun c_43 => ?_)
    · skip
      rw [bI_n0] at c_43
      refine r_iconst (v := 0) C d_BT_ownReasonHolds_50 rfl ?_
      refine r_zret C E rfl d_BT_ownReasonHolds_51 (rfl) (Nat.le_of_ble_eq_true rfl) (Nat.le_of_ble_eq_true rfl) ?_
      exact ⟨by rw [show zh s i (nI 1) = !z_q s (z_ow s i) from rfl, c_43]; rfl, rfl⟩
    · skip
      rw [bI_0] at c_43
      refine r_iconst (v := 1) C d_BT_ownReasonHolds_46 rfl ?_
      refine r_goto (tgt := 51) C d_BT_ownReasonHolds_47 rfl ?_
      refine r_zret C E rfl d_BT_ownReasonHolds_51 (rfl) (Nat.le_of_ble_eq_true rfl) (Nat.le_of_ble_eq_true rfl) ?_
      exact ⟨by rw [show zh s i (nI 1) = !z_q s (z_ow s i) from rfl, c_43]; rfl, rfl⟩
  · refine r_tableIn (tgt := 52) C d_BT_ownReasonHolds_1 (by decide) (by decide) rfl rfl ?_
    refine r_aload_n C d_BT_ownReasonHolds_52 rfl rfl ?_
    refine r_getN C hq_Bid d_BT_ownReasonHolds_53 (j := 1) (Nat.le_of_ble_eq_true rfl) mf_BT_97 (kp_15 P (hi)) rfl ?_
    refine r_getN C hq_Bdr d_BT_ownReasonHolds_56 (j := 2) (Nat.le_of_ble_eq_true rfl) mf_BT_101 (kp_14 P ((N.2.2.2.2.1 i hi))) rfl ?_
    refine r_if_ne (tgt := 66) C d_BT_ownReasonHolds_59 rfl (fun c_59 => ?_) (fun c_59 => ?_)
    · skip
      rw [bI_n0] at c_59
      refine r_iconst (v := 0) C d_BT_ownReasonHolds_66 rfl ?_
      refine r_zret C E rfl d_BT_ownReasonHolds_67 (rfl) (Nat.le_of_ble_eq_true rfl) (Nat.le_of_ble_eq_true rfl) ?_
      exact ⟨by rw [show zh s i (nI 2) = !z_o s (z_ow s i) from rfl, c_59]; rfl, rfl⟩
    · skip
      rw [bI_0] at c_59
      refine r_iconst (v := 1) C d_BT_ownReasonHolds_62 rfl ?_
      refine r_goto (tgt := 67) C d_BT_ownReasonHolds_63 rfl ?_
      refine r_zret C E rfl d_BT_ownReasonHolds_67 (rfl) (Nat.le_of_ble_eq_true rfl) (Nat.le_of_ble_eq_true rfl) ?_
      exact ⟨by rw [show zh s i (nI 2) = !z_o s (z_ow s i) from rfl, c_59]; rfl, rfl⟩
  · refine r_tableIn (tgt := 68) C d_BT_ownReasonHolds_1 (by decide) (by decide) rfl rfl ?_
    refine r_aload_n C d_BT_ownReasonHolds_68 rfl rfl ?_
    refine r_getN C hq_Bid d_BT_ownReasonHolds_69 (j := 3) (Nat.le_of_ble_eq_true rfl) mf_BT_108 (kp_15 P (hi)) rfl ?_
    refine r_if_ne (tgt := 79) C d_BT_ownReasonHolds_72 rfl (fun c_72 => ?_) (fun c_72 => ?_)
    · skip
      have c72 : ¬ z_lots s i = 0 := fun h => c_72 ((z_ls_0 s i).mpr (by omega))
      refine r_iconst (v := 0) C d_BT_ownReasonHolds_79 rfl ?_
      refine r_zret C E rfl d_BT_ownReasonHolds_80 (rfl) (Nat.le_of_ble_eq_true rfl) (Nat.le_of_ble_eq_true rfl) ?_
      exact ⟨by rw [show zh s i (nI 3) = decide (z_lots s i = 0) from rfl]; simp [c72, bI], rfl⟩
    · skip
      have c72 : z_lots s i = 0 := by have := (z_ls_0 s i).mp c_72; omega
      refine r_iconst (v := 1) C d_BT_ownReasonHolds_75 rfl ?_
      refine r_goto (tgt := 80) C d_BT_ownReasonHolds_76 rfl ?_
      refine r_zret C E rfl d_BT_ownReasonHolds_80 (rfl) (Nat.le_of_ble_eq_true rfl) (Nat.le_of_ble_eq_true rfl) ?_
      exact ⟨by rw [show zh s i (nI 3) = decide (z_lots s i = 0) from rfl]; simp [c72, bI], rfl⟩
  · refine r_tableIn (tgt := 81) C d_BT_ownReasonHolds_1 (by decide) (by decide) rfl rfl ?_
    refine r_aload_n C d_BT_ownReasonHolds_81 rfl rfl ?_
    refine r_getN C hq_Bid d_BT_ownReasonHolds_82 (j := 3) (Nat.le_of_ble_eq_true rfl) mf_BT_108 (kp_15 P (hi)) rfl ?_
    refine r_aload_n C d_BT_ownReasonHolds_85 rfl rfl ?_
    refine r_callV C (k_BT_lotsWon Y _ P N W) mQ_BT_lotsWon d_BT_ownReasonHolds_86 ml_BT_268 mi_BT_lotsWon mv_BT_lotsWon (kp_0 P) rfl rfl rfl rfl (Nat.le_of_ble_eq_true rfl) ⟨⟨Nat.le_of_ble_eq_true rfl, Nat.le_of_ble_eq_true rfl⟩, Nat.le_of_ble_eq_true rfl, Nat.le_of_ble_eq_true rfl⟩ (fun v f' hp => ?_)
    obtain ⟨rfl, hf⟩ := hp
    replace hf := hf.symm
    subst hf
    refine r_iand C d_BT_ownReasonHolds_89 ?_
    refine r_if_eq (tgt := 97) C d_BT_ownReasonHolds_90 rfl (fun c_90 => ?_) (fun c_90 => ?_)
    · skip
      rw [zh4_eq G N] at c_90
      have e9 : zh_4 s i = false := c_90
      refine r_iconst (v := 0) C d_BT_ownReasonHolds_97 rfl ?_
      refine r_zret C E rfl d_BT_ownReasonHolds_98 (rfl) (Nat.le_of_ble_eq_true rfl) (Nat.le_of_ble_eq_true rfl) ?_
      exact ⟨by rw [show zh s i (nI 4) = zh_4 s i from rfl, e9]; rfl, rfl⟩
    · skip
      rw [zh4_eq G N] at c_90
      have e9 : zh_4 s i = true := by
        cases h : zh_4 s i with
        | true => rfl
        | false => exact absurd h c_90
      refine r_iconst (v := 1) C d_BT_ownReasonHolds_93 rfl ?_
      refine r_goto (tgt := 98) C d_BT_ownReasonHolds_94 rfl ?_
      refine r_zret C E rfl d_BT_ownReasonHolds_98 (rfl) (Nat.le_of_ble_eq_true rfl) (Nat.le_of_ble_eq_true rfl) ?_
      exact ⟨by rw [show zh s i (nI 4) = zh_4 s i from rfl, e9]; rfl, rfl⟩
  · refine r_tableIn (tgt := 99) C d_BT_ownReasonHolds_1 (by decide) (by decide) rfl rfl ?_
    refine r_aload_n C d_BT_ownReasonHolds_99 rfl rfl ?_
    refine r_callV C (k_Bid_lotTally Y _ _ _ _ _ _ _ (kp_15 P hi)) mQ_Bid_lotTally d_BT_ownReasonHolds_100 ml_BT_271 mi_Bid_lotTally mv_Bid_lotTally (kp_15 P hi) rfl rfl rfl rfl (Nat.le_of_ble_eq_true rfl) ⟨⟨Nat.le_of_ble_eq_true rfl, Nat.le_of_ble_eq_true rfl⟩, Nat.le_of_ble_eq_true rfl, Nat.le_of_ble_eq_true rfl⟩ (fun v f' hp => ?_)
    obtain ⟨rfl, hf⟩ := hp
    replace hf := hf.symm
    subst hf
    refine r_aload_n C d_BT_ownReasonHolds_103 rfl rfl ?_
    refine r_aload_n C d_BT_ownReasonHolds_104 rfl rfl ?_
    refine r_getN C hq_Bid d_BT_ownReasonHolds_105 (j := 1) (Nat.le_of_ble_eq_true rfl) mf_BT_97 (kp_15 P (hi)) rfl ?_
    refine r_callV C (k_BT_lotTallyWonBy Y _ P N W (N.2.2.2.2.1 i hi)) mQ_BT_lotTallyWonBy d_BT_ownReasonHolds_108 ml_BT_274 mi_BT_lotTallyWonBy mv_BT_lotTallyWonBy (kp_0 P) rfl rfl rfl rfl (Nat.le_of_ble_eq_true rfl) ⟨⟨Nat.le_of_ble_eq_true rfl, Nat.le_of_ble_eq_true rfl⟩, Nat.le_of_ble_eq_true rfl, Nat.le_of_ble_eq_true rfl⟩ (fun v f' hp => ?_)
    obtain ⟨rfl, hf⟩ := hp
    replace hf := hf.symm
    subst hf
    refine r_iadd C d_BT_ownReasonHolds_111 ?_
    refine r_aload_n C d_BT_ownReasonHolds_112 rfl rfl ?_
    refine r_getN C hq_Bid d_BT_ownReasonHolds_113 (j := 1) (Nat.le_of_ble_eq_true rfl) mf_BT_97 (kp_15 P (hi)) rfl ?_
    refine r_getN C hq_Bdr d_BT_ownReasonHolds_116 (j := 4) (Nat.le_of_ble_eq_true rfl) mf_BT_78 (kp_14 P ((N.2.2.2.2.1 i hi))) rfl ?_
    refine r_icmp_le (tgt := 126) C d_BT_ownReasonHolds_119 rfl (fun c_119 => ?_) (fun c_119 => ?_)
    · skip
      rw [show z_ls s i = zb_m _ 8 from rfl, k_bc_m (by decide), nI_add] at c_119
      have e9 : zh_5 s i = false := by
        have c9 : nI (z_lots s i + zh_n s i (z_nD s)) ≤ z_m s (z_ow s i) := c_119
        simp [zh_5, Int32.not_lt.mpr c9]
      refine r_iconst (v := 0) C d_BT_ownReasonHolds_126 rfl ?_
      refine r_zret C E rfl d_BT_ownReasonHolds_127 (rfl) (Nat.le_of_ble_eq_true rfl) (Nat.le_of_ble_eq_true rfl) ?_
      exact ⟨by rw [show zh s i (nI 5) = zh_5 s i from rfl, e9]; rfl, rfl⟩
    · skip
      rw [show z_ls s i = zb_m _ 8 from rfl, k_bc_m (by decide), nI_add] at c_119
      have e9 : zh_5 s i = true := by
        have c9 : ¬ nI (z_lots s i + zh_n s i (z_nD s)) ≤ z_m s (z_ow s i) := c_119
        simp [zh_5, Int32.not_le.mp c9]
      refine r_iconst (v := 1) C d_BT_ownReasonHolds_122 rfl ?_
      refine r_goto (tgt := 127) C d_BT_ownReasonHolds_123 rfl ?_
      refine r_zret C E rfl d_BT_ownReasonHolds_127 (rfl) (Nat.le_of_ble_eq_true rfl) (Nat.le_of_ble_eq_true rfl) ?_
      exact ⟨by rw [show zh s i (nI 5) = zh_5 s i from rfl, e9]; rfl, rfl⟩

set_option maxHeartbeats 4000000 in
set_option maxRecDepth 100000 in
theorem k_BT_reasonHolds6 (Y : hY) (l : Launch) {ad : Nat → Nat → Nat} {s : zS} {x : kX} {t : Bool} {f : hw_F} (P : kPic Y ad s x t f) (N : zN s) (W : kW s x) (G : ∀ k l, l < 8 → z_nL s ≤ l → z_h s (8 * k + l) = false) {i : Nat} (hi : i < z_nD s) : hM Y l y_BT_reasonHolds S_BT_reasonHolds (some .boolean) [.ref (ad 0 0), .ref (ad 15 i), .int (nI 6)] f (fun r f' => r = some (.int (bI (!zc_any (fun r => zh s i (nI (r + 1))) 5))) ∧ f' = f) := by
  refine hM.of (by decide) rfl (Nat.le_of_ble_eq_true rfl) ?_
  intro X hl hnm C E
  show hG Y X S_BT_reasonHolds 0 0 f [(0, .ref (ad 0 0)), (1, .ref (ad 15 i)), (2, .int (nI 6))] [] 0
  have L : ∀ d j, j + d = 5 → zc_any (fun r => zh s i (nI (r + 1))) j = false → hG Y X S_BT_reasonHolds 0 0 f [(3, .int (nI (j + 1))), (0, .ref (ad 0 0)), (1, .ref (ad 15 i)), (2, .int (nI 6))] [] 15 := by
    intro d
    induction d with
    | zero =>
      intro j hj hal
      obtain rfl : j = 5 := by omega
      refine r_iload_n C d_BT_reasonHolds_15 rfl rfl ?_
      refine r_bipush (v := 6) C d_BT_reasonHolds_16 rfl ?_
      refine r_icmp_ge (tgt := 38) C d_BT_reasonHolds_18 rfl (fun _ => ?_) (fun hz => absurd (show (6 : Int32) ≤ nI (5 + 1) by decide) hz)
      refine r_iconst (v := 1) C d_BT_reasonHolds_38 rfl ?_
      refine r_zret C E rfl d_BT_reasonHolds_39 (rfl) (Nat.le_of_ble_eq_true rfl) (Nat.le_of_ble_eq_true rfl) ?_
      exact ⟨by rw [hal]; rfl, rfl⟩
    | succ d ih =>
      intro j hj hal
      refine r_iload_n C d_BT_reasonHolds_15 rfl rfl ?_
      refine r_bipush (v := 6) C d_BT_reasonHolds_16 rfl ?_
      refine r_icmp_ge (tgt := 38) C d_BT_reasonHolds_18 rfl (fun hz => absurd hz (nI_ge (a := j + 1) (b := 6) (by omega) (by decide))) (fun _ => ?_)
      refine r_aload_n C d_BT_reasonHolds_21 rfl rfl ?_
      refine r_aload_n C d_BT_reasonHolds_22 rfl rfl ?_
      refine r_iload_n C d_BT_reasonHolds_23 rfl rfl ?_
      refine r_callV C (k_BT_ownReasonHolds Y _ P N W G (q := j + 1) hi (by omega) (by omega)) mQ_BT_ownReasonHolds d_BT_reasonHolds_24 ml_BT_265 mi_BT_ownReasonHolds mv_BT_ownReasonHolds (kp_0 P) rfl rfl rfl rfl (Nat.le_of_ble_eq_true rfl) ⟨⟨Nat.le_of_ble_eq_true rfl, Nat.le_of_ble_eq_true rfl⟩, Nat.le_of_ble_eq_true rfl, Nat.le_of_ble_eq_true rfl⟩ (fun v f' hp => ?_)
      obtain ⟨rfl, hf⟩ := hp
      replace hf := hf.symm
      subst hf
      refine r_if_eq (tgt := 32) C d_BT_reasonHolds_27 rfl (fun c_27 => ?_) (fun c_27 => ?_)
      · skip
        rw [bI_0] at c_27
        refine r_iinc (v := nI (j + 1 + 1)) (lv' := [(3, _), (0, _), (1, _), (2, _)]) C d_BT_reasonHolds_32 rfl (nI_1 (j + 1)) (Nat.le_of_ble_eq_true rfl) rfl ?_
        refine r_goto (tgt := 15) C d_BT_reasonHolds_35 rfl ?_
        refine r_sub [0, 1, 2, 3] rfl ?_
        exact ih (j + 1) (by omega) (by show (zc_any (fun r => zh s i (nI (r + 1))) j || (fun r => zh s i (nI (r + 1))) j) = false; rw [hal]; exact c_27)
      · skip
        rw [bI_n0] at c_27
        have e9 : zc_any (fun r => zh s i (nI (r + 1))) 5 = true := zc_any_of (i := j) (by omega) c_27
        refine r_iconst (v := 0) C d_BT_reasonHolds_30 rfl ?_
        refine r_zret C E rfl d_BT_reasonHolds_31 (rfl) (Nat.le_of_ble_eq_true rfl) (Nat.le_of_ble_eq_true rfl) ?_
        exact ⟨by rw [e9]; rfl, rfl⟩
  refine r_iload_n C d_BT_reasonHolds_0 rfl rfl ?_
  refine r_bipush (v := 6) C d_BT_reasonHolds_1 rfl ?_
  refine r_icmp_eq (tgt := 13) C d_BT_reasonHolds_3 rfl (fun _ => ?_) (fun hz => absurd (show nI 6 = 6 from rfl) hz)
  refine r_iconst (v := 1) C d_BT_reasonHolds_13 rfl ?_
  refine r_istore_n (lv' := [(3, _), (0, _), (1, _), (2, _)]) C d_BT_reasonHolds_14 rfl (Nat.le_of_ble_eq_true rfl) rfl ?_
  exact L 5 0 rfl rfl

set_option maxHeartbeats 4000000 in
set_option maxRecDepth 100000 in
theorem k_BT_reasonHolds (Y : hY) (l : Launch) {ad : Nat → Nat → Nat} {s : zS} {x : kX} {t : Bool} {f : hw_F} (P : kPic Y ad s x t f) (N : zN s) (W : kW s x) (G : ∀ k l, l < 8 → z_nL s ≤ l → z_h s (8 * k + l) = false) {i q : Nat} (hi : i < z_nD s) (h1 : 1 ≤ q) (h5 : q ≤ 5) : hM Y l y_BT_reasonHolds S_BT_reasonHolds (some .boolean) [.ref (ad 0 0), .ref (ad 15 i), .int (nI q)] f (fun r f' => r = some (.int (bI (zh s i (nI q)))) ∧ f' = f) := by
  refine hM.of (by decide) rfl (Nat.le_of_ble_eq_true rfl) ?_
  intro X hl hnm C E
  show hG Y X S_BT_reasonHolds 0 0 f [(0, .ref (ad 0 0)), (1, .ref (ad 15 i)), (2, .int (nI q))] [] 0
  refine r_iload_n C d_BT_reasonHolds_0 rfl rfl ?_
  refine r_bipush (v := 6) C d_BT_reasonHolds_1 rfl ?_
  refine r_icmp_eq (tgt := 13) C d_BT_reasonHolds_3 rfl (fun hz => absurd hz (fun h => absurd ((nI_eq (b := 6) (by omega) (by decide)).mp h) (by omega))) (fun _ => ?_)
  refine r_aload_n C d_BT_reasonHolds_6 rfl rfl ?_
  refine r_aload_n C d_BT_reasonHolds_7 rfl rfl ?_
  refine r_iload_n C d_BT_reasonHolds_8 rfl rfl ?_
  refine r_callV C (k_BT_ownReasonHolds Y _ P N W G hi h1 h5) mQ_BT_ownReasonHolds d_BT_reasonHolds_9 ml_BT_265 mi_BT_ownReasonHolds mv_BT_ownReasonHolds (kp_0 P) rfl rfl rfl rfl (Nat.le_of_ble_eq_true rfl) ⟨⟨Nat.le_of_ble_eq_true rfl, Nat.le_of_ble_eq_true rfl⟩, Nat.le_of_ble_eq_true rfl, Nat.le_of_ble_eq_true rfl⟩ (fun v f' hp => ?_)
  obtain ⟨rfl, hf⟩ := hp
  replace hf := hf.symm
  subst hf
  refine r_zret C E rfl d_BT_reasonHolds_12 (bI_nar _) (Nat.le_of_ble_eq_true rfl) (Nat.le_of_ble_eq_true rfl) ?_
  exact ⟨rfl, rfl⟩

set_option maxHeartbeats 4000000 in
set_option maxRecDepth 100000 in
theorem k_BT_verdict (Y : hY) (l : Launch) {ad : Nat → Nat → Nat} {s : zS} {x : kX} {t : Bool} {f : hw_F} (P : kPic Y ad s x t f) (N : zN s) (W : kW s x) (G : ∀ k l, l < 8 → z_nL s ≤ l → z_h s (8 * k + l) = false) (Q : ∀ p, p < z_nP s → ∃ q, 1 ≤ q ∧ q ≤ 6 ∧ z_dr s p = nI q) (y : Int32) : hM Y l y_BT_verdict S_BT_verdict (some .int) [.ref (ad 0 0), .int y] f (fun r f' => r = some (.int (za_verd s y)) ∧ f' = f) := by
  refine hM.of (by decide) rfl (Nat.le_of_ble_eq_true rfl) ?_
  intro X hl hnm C E
  show hG Y X S_BT_verdict 0 0 f [(0, .ref (ad 0 0)), (1, .int y)] [] 0
  refine r_aload_n C d_BT_verdict_0 rfl rfl ?_
  refine r_iload_n C d_BT_verdict_1 rfl rfl ?_
  refine r_callV C (k_BT_disputeAt Y _ P N _) mQ_BT_disputeAt d_BT_verdict_2 ml_BT_236 mi_BT_disputeAt mv_BT_disputeAt (kp_0 P) rfl rfl rfl rfl (Nat.le_of_ble_eq_true rfl) ⟨⟨Nat.le_of_ble_eq_true rfl, Nat.le_of_ble_eq_true rfl⟩, Nat.le_of_ble_eq_true rfl, Nat.le_of_ble_eq_true rfl⟩ (fun v f' hp => ?_)
  obtain ⟨rfl, hf⟩ := hp
  replace hf := hf.symm
  subst hf
  rcases z_at_case y (n := z_nP s) (by have := N.2.2.2.1; omega) with ⟨hz, -⟩ | ⟨i, hi, rfl, hz⟩
  · rw [hz]
    refine r_astore_nN (lv' := [(2, _), (0, _), (1, _)]) C d_BT_verdict_5 rfl (Nat.le_of_ble_eq_true rfl) rfl ?_
    refine r_aload_nN C d_BT_verdict_6 rfl rfl ?_
    refine r_ifnonnullN C d_BT_verdict_7 ?_
    refine r_iconst (v := (-1)) C d_BT_verdict_10 rfl ?_
    refine r_iret C E rfl d_BT_verdict_11 (Nat.le_of_ble_eq_true rfl) (Nat.le_of_ble_eq_true rfl) ?_
    exact ⟨by simp [za_verd, hz], rfl⟩
  · rw [hz]
    have hd : z_db s i < z_nD s := N.2.2.2.2.2.2 i hi
    refine r_astore_n (lv' := [(2, _), (0, _), (1, _)]) C d_BT_verdict_5 rfl (Nat.le_of_ble_eq_true rfl) rfl ?_
    refine r_aload_n C d_BT_verdict_6 rfl rfl ?_
    refine r_ifnonnull (tgt := 12) C d_BT_verdict_7 rfl ?_
    refine r_aload_n C d_BT_verdict_12 rfl rfl ?_
    refine r_get C hq_BT d_BT_verdict_13 (j := 6) (Nat.le_of_ble_eq_true rfl) mf_BT_43 (kp_0 P) rfl ?_
    refine r_aload_n C d_BT_verdict_16 rfl rfl ?_
    refine r_getN C hq_Dis d_BT_verdict_17 (j := 0) (Nat.le_of_ble_eq_true rfl) mf_BT_240 (kp_16 P (hi)) rfl ?_
    refine r_callV C (k_Sea_hasWinner Y _ _ _ _ _ _ _ _ (kp_7 P) _ _ _ _ _ (kp_15 P hd)) mQ_Sea_hasWinner d_BT_verdict_20 ml_BT_244 mi_Sea_hasWinner mv_Sea_hasWinner (kp_7 P) rfl rfl rfl rfl (Nat.le_of_ble_eq_true rfl) ⟨⟨Nat.le_of_ble_eq_true rfl, Nat.le_of_ble_eq_true rfl⟩, Nat.le_of_ble_eq_true rfl, Nat.le_of_ble_eq_true rfl⟩ (fun v f' hp => ?_)
    obtain ⟨rfl, hf⟩ := hp
    replace hf := hf.symm
    subst hf
    refine r_if_eq (tgt := 28) C d_BT_verdict_23 rfl (fun c_23 => ?_) (fun c_23 => ?_)
    · skip
      rw [bI_0, W _ (by have := N.2.2.1; omega)] at c_23
      refine r_aload_n C d_BT_verdict_28 rfl rfl ?_
      refine r_aload_n C d_BT_verdict_29 rfl rfl ?_
      refine r_getN C hq_Dis d_BT_verdict_30 (j := 0) (Nat.le_of_ble_eq_true rfl) mf_BT_240 (kp_16 P (hi)) rfl ?_
      refine r_aload_n C d_BT_verdict_33 rfl rfl ?_
      refine r_getN C hq_Dis d_BT_verdict_34 (j := 1) (Nat.le_of_ble_eq_true rfl) mf_BT_247 (kp_16 P (hi)) rfl ?_
      obtain ⟨q, h1, h6, hr⟩ := Q i hi
      rcases Nat.lt_or_ge q 6 with h5 | h5
      · have hq : za_verd s (nI i) = bI (zh s (z_db s i) (nI q)) := by
          have : nI q < 6 := nI_lt (b := 6) h5 (by decide)
          simp [za_verd, hz, c_23, hr, this]
        rw [hr]
        refine r_callV C (k_BT_reasonHolds Y _ P N W G hd h1 (by omega)) mQ_BT_reasonHolds d_BT_verdict_37 ml_BT_250 mi_BT_reasonHolds mv_BT_reasonHolds (kp_0 P) rfl rfl rfl rfl (Nat.le_of_ble_eq_true rfl) ⟨⟨Nat.le_of_ble_eq_true rfl, Nat.le_of_ble_eq_true rfl⟩, Nat.le_of_ble_eq_true rfl, Nat.le_of_ble_eq_true rfl⟩ (fun v f' hp => ?_)
        obtain ⟨rfl, hf⟩ := hp
        replace hf := hf.symm
        subst hf
        refine r_if_eq (tgt := 47) C d_BT_verdict_40 rfl (fun c_40 => ?_) (fun c_40 => ?_)
        · skip
          rw [bI_0] at c_40
          refine r_iconst (v := 0) C d_BT_verdict_47 rfl ?_
          refine r_iret C E rfl d_BT_verdict_48 (Nat.le_of_ble_eq_true rfl) (Nat.le_of_ble_eq_true rfl) ?_
          exact ⟨by rw [hq, c_40]; rfl, rfl⟩
        · skip
          rw [bI_n0] at c_40
          refine r_iconst (v := 1) C d_BT_verdict_43 rfl ?_
          refine r_goto (tgt := 48) C d_BT_verdict_44 rfl ?_
          refine r_iret C E rfl d_BT_verdict_48 (Nat.le_of_ble_eq_true rfl) (Nat.le_of_ble_eq_true rfl) ?_
          exact ⟨by rw [hq, c_40]; rfl, rfl⟩
      · obtain rfl : q = 6 := by omega
        have hq : za_verd s (nI i) = bI (!zc_any (fun r => zh s (z_db s i) (nI (r + 1))) 5) := by
          have : ¬ nI 6 < 6 := by decide
          simp [za_verd, hz, c_23, hr, this]
        rw [hr]
        refine r_callV C (k_BT_reasonHolds6 Y _ P N W G hd) mQ_BT_reasonHolds d_BT_verdict_37 ml_BT_250 mi_BT_reasonHolds mv_BT_reasonHolds (kp_0 P) rfl rfl rfl rfl (Nat.le_of_ble_eq_true rfl) ⟨⟨Nat.le_of_ble_eq_true rfl, Nat.le_of_ble_eq_true rfl⟩, Nat.le_of_ble_eq_true rfl, Nat.le_of_ble_eq_true rfl⟩ (fun v f' hp => ?_)
        obtain ⟨rfl, hf⟩ := hp
        replace hf := hf.symm
        subst hf
        refine r_if_eq (tgt := 47) C d_BT_verdict_40 rfl (fun c_40 => ?_) (fun c_40 => ?_)
        · skip
          rw [bI_0] at c_40
          refine r_iconst (v := 0) C d_BT_verdict_47 rfl ?_
          refine r_iret C E rfl d_BT_verdict_48 (Nat.le_of_ble_eq_true rfl) (Nat.le_of_ble_eq_true rfl) ?_
          exact ⟨by rw [hq, c_40]; rfl, rfl⟩
        · skip
          rw [bI_n0] at c_40
          refine r_iconst (v := 1) C d_BT_verdict_43 rfl ?_
          refine r_goto (tgt := 48) C d_BT_verdict_44 rfl ?_
          refine r_iret C E rfl d_BT_verdict_48 (Nat.le_of_ble_eq_true rfl) (Nat.le_of_ble_eq_true rfl) ?_
          exact ⟨by rw [hq, c_40]; rfl, rfl⟩
    · skip
      rw [bI_n0, W _ (by have := N.2.2.1; omega)] at c_23
      refine r_iconst (v := 2) C d_BT_verdict_26 rfl ?_
      refine r_iret C E rfl d_BT_verdict_27 (Nat.le_of_ble_eq_true rfl) (Nat.le_of_ble_eq_true rfl) ?_
      exact ⟨by simp [za_verd, hz, c_23], rfl⟩

