set_option maxHeartbeats 4000000 in
set_option maxRecDepth 100000 in
theorem k_Sea_forget (Y : hY) (l : Launch) {ad : Nat → Nat → Nat} {s : zS} {x : kX} {t : Bool} {f : hw_F} (P : kPic Y ad s x t f)  : hM Y l y_Sea_forget S_Sea_forget (none) [.ref (ad 7 0)] f (fun r f' => r = none ∧ kPic Y ad s (0, x.2.1, (fun k => if k < 12 then 0 else x.2.2.1 k), -1, 0, 0) t f') := by
  refine hM.of (by decide) rfl (Nat.le_of_ble_eq_true rfl) ?_
  intro X hl hnm C E
  show hG Y X S_Sea_forget 0 0 f [(0, .ref (ad 7 0))] [] 0
  have L : ∀ d j, j + d = 12 → ∀ f2, kPic Y ad s (x.1, x.2.1, (fun k => if k < j then 0 else x.2.2.1 k), x.2.2.2) t f2 → hG Y X S_Sea_forget 0 0 f2 [(1, .int (nI (j))), (0, .ref (ad 7 0))] [] 2 := by
    intro d
    induction d with
    | zero =>
      intro j hj f2 P2
      obtain rfl : j = 12 := by omega
      refine r_iload_n C d_Sea_forget_2 rfl rfl ?_
      refine r_bipush (v := 12) C d_Sea_forget_3 rfl ?_
      refine r_icmp_ge (tgt := 21) C d_Sea_forget_5 rfl (fun _ => ?_) (fun hz => absurd (show (12 : Int32) ≤ nI 12 by decide) hz)
      refine r_aload_n C d_Sea_forget_21 rfl rfl ?_
      refine r_iconst (v := 0) C d_Sea_forget_22 rfl ?_
      refine r_put C hq_Sea d_Sea_forget_23 (j := 2) (fs' := [_, _, _, _, _, _]) (Nat.le_of_ble_eq_true rfl) mf_Sea_41 rfl rfl rfl rfl (kp_7 P2) (Nat.le_of_ble_eq_true rfl) rfl ?_
      refine r_aload_n C d_Sea_forget_26 rfl rfl ?_
      refine r_ldc2 C d_Sea_forget_27 mn_Sea_21 ?_
      refine r_put C hq_Sea d_Sea_forget_30 (j := 3) (fs' := [_, _, _, _, _, _]) (Nat.le_of_ble_eq_true rfl) mf_Sea_23 rfl rfl rfl rfl (hw_us _ _ _) (Nat.le_of_ble_eq_true rfl) rfl ?_
      refine r_aload_n C d_Sea_forget_33 rfl rfl ?_
      refine r_iconst (v := 0) C d_Sea_forget_34 rfl ?_
      refine r_put C hq_Sea d_Sea_forget_35 (j := 4) (fs' := [_, _, _, _, _, _]) (Nat.le_of_ble_eq_true rfl) mf_Sea_27 rfl rfl rfl rfl (hw_us _ _ _) (Nat.le_of_ble_eq_true rfl) rfl ?_
      refine r_aload_n C d_Sea_forget_38 rfl rfl ?_
      refine r_iconst (v := 0) C d_Sea_forget_39 rfl ?_
      refine r_put C hq_Sea d_Sea_forget_40 (j := 5) (fs' := [_, _, _, _, _, _]) (Nat.le_of_ble_eq_true rfl) mf_Sea_34 rfl rfl rfl rfl (hw_us _ _ _) (Nat.le_of_ble_eq_true rfl) rfl ?_
      refine r_vret C E rfl d_Sea_forget_43 (Nat.le_of_ble_eq_true rfl) (Nat.le_of_ble_eq_true rfl) ?_
      exact ⟨rfl, kEnd2 (kPut (kPut (kPut (kPut P2 (Or.inl ⟨by decide, rfl⟩) _) (Or.inl ⟨by decide, rfl⟩) _) (Or.inl ⟨by decide, rfl⟩) _) (Or.inl ⟨by decide, rfl⟩) _) (fun _ _ h => h) (kV_cases rfl rfl rfl rfl rfl rfl rfl rfl rfl rfl (fun _ _ => rfl) (fun _ _ => rfl) (fun _ _ => rfl) (fun _ _ => rfl) (fun _ _ => rfl) (fun _ _ => rfl) (fun _ _ => rfl))⟩
    | succ d ih =>
      intro j hj f2 P2
      refine r_iload_n C d_Sea_forget_2 rfl rfl ?_
      refine r_bipush (v := 12) C d_Sea_forget_3 rfl ?_
      refine r_icmp_ge (tgt := 21) C d_Sea_forget_5 rfl (fun hz => absurd hz (nI_ge (a := j) (b := 12) (by omega) (by decide))) (fun _ => ?_)
      refine r_aload_n C d_Sea_forget_8 rfl rfl ?_
      refine r_get C hq_Sea d_Sea_forget_9 (j := 1) (Nat.le_of_ble_eq_true rfl) mf_Sea_17 (kp_7 P2) rfl ?_
      refine r_iload_n C d_Sea_forget_12 rfl rfl ?_
      refine r_lconst (v := 0) C d_Sea_forget_13 rfl ?_
      refine r_last (t0 := 0) C d_Sea_forget_14 (kp_9 P2) rfl (rfl) (by omega) (by decide) ?_
      refine r_iinc (v := nI (j + 1)) (lv' := [(1, _), (0, _)]) C d_Sea_forget_15 rfl (nI_1 j) (Nat.le_of_ble_eq_true rfl) rfl ?_
      refine r_goto (tgt := 2) C d_Sea_forget_18 rfl ?_
      refine r_sub [0, 1] rfl ?_
      exact ih (j + 1) (by omega) _ (kEnd2 (kPut P2 (Or.inl ⟨by decide, rfl⟩) _) (fun _ _ h => h) (kV_cases rfl rfl rfl rfl rfl rfl rfl rfl rfl (congrArg (eJ (Y.2 0) 12) (up_lt (fun _ => 0) x.2.2.1 j)) (fun _ _ => rfl) (fun _ _ => rfl) (fun _ _ => rfl) (fun _ _ => rfl) (fun _ _ => rfl) (fun _ _ => rfl) (fun _ _ => rfl)))
  refine r_iconst (v := 0) C d_Sea_forget_0 rfl ?_
  refine r_istore_n (lv' := [(1, _), (0, _)]) C d_Sea_forget_1 rfl (Nat.le_of_ble_eq_true rfl) rfl ?_
  refine L 12 0 rfl f (kEnd2 P (fun _ _ h => h) (kV_cases rfl rfl rfl rfl rfl rfl rfl rfl rfl rfl (fun _ _ => rfl) (fun _ _ => rfl) (fun _ _ => rfl) (fun _ _ => rfl) (fun _ _ => rfl) (fun _ _ => rfl) (fun _ _ => rfl)))

theorem kk_bw_s (x : kX) (c : Int32) (v : Int64) (j : Nat) : kk_bw x c v (j + 1) = hv_up (kk_bw x c v j) j (if k_bt c (nI j) = false ∧ x.2.2.1 j < v then v else x.2.2.1 j) := up_lt (fun i => if k_bt c (nI i) = false ∧ x.2.2.1 i < v then v else x.2.2.1 i) x.2.2.1 j
theorem kk_bw_at (x : kX) (c : Int32) (v : Int64) (j : Nat) : kk_bw x c v j j = x.2.2.1 j := if_neg (Nat.lt_irrefl j)
theorem kk_bw_no {x : kX} {c : Int32} {v : Int64} {j : Nat} (h : ¬ (k_bt c (nI j) = false ∧ x.2.2.1 j < v)) : kk_bw x c v (j + 1) = kk_bw x c v j := by
  rw [kk_bw_s, if_neg h]
  funext q
  unfold hv_up
  split
  · rename_i e
    rw [e, kk_bw_at]
  · rfl
set_option maxHeartbeats 4000000 in
set_option maxRecDepth 100000 in
theorem k_Sea_keepSale (Y : hY) (l : Launch) {ad : Nat → Nat → Nat} {s : zS} {x : kX} {t : Bool} {f : hw_F} (P : kPic Y ad s x t f) (c : Int32) (v : Int64) : hM Y l y_Sea_keepSale S_Sea_keepSale (none) [.ref (ad 7 0), .int c, .long v] f (fun r f' => r = none ∧ kPic Y ad s (kKeep x c v) t f') := by
  refine hM.of (by decide) rfl (Nat.le_of_ble_eq_true rfl) ?_
  intro X hl hnm C E
  show hG Y X S_Sea_keepSale 0 0 f [(0, .ref (ad 7 0)), (1, .int c), (2, .long v)] [] 0
  have L : ∀ d j, j + d = 12 → ∀ f2, kPic Y ad s (x.1, x.2.1, kk_bw x c v j, kk3 x c v) t f2 → hG Y X S_Sea_keepSale 0 0 f2 [(4, .int (nI (j))), (0, .ref (ad 7 0)), (1, .int c), (2, .long v)] [] 49 := by
    intro d
    induction d with
    | zero =>
      intro j hj f2 P2
      obtain rfl : j = 12 := by omega
      refine r_iload C d_Sea_keepSale_49 rfl ?_
      refine r_bipush (v := 12) C d_Sea_keepSale_51 rfl ?_
      refine r_icmp_ge (tgt := 91) C d_Sea_keepSale_53 rfl (fun _ => ?_) (fun hz => absurd (show (12 : Int32) ≤ nI 12 by decide) hz)
      refine r_vret C E rfl d_Sea_keepSale_91 (Nat.le_of_ble_eq_true rfl) (Nat.le_of_ble_eq_true rfl) ?_
      exact ⟨rfl, P2⟩
    | succ d ih =>
      intro j hj f2 P2
      refine r_iload C d_Sea_keepSale_49 rfl ?_
      refine r_bipush (v := 12) C d_Sea_keepSale_51 rfl ?_
      refine r_icmp_ge (tgt := 91) C d_Sea_keepSale_53 rfl (fun hz => absurd hz (nI_ge (a := j) (b := 12) (by omega) (by decide))) (fun _ => ?_)
      refine r_iload_n C d_Sea_keepSale_56 rfl rfl ?_
      refine r_iload C d_Sea_keepSale_57 rfl ?_
      refine r_iushr C d_Sea_keepSale_59 ?_
      refine r_iconst (v := 1) C d_Sea_keepSale_60 rfl ?_
      refine r_iand C d_Sea_keepSale_61 ?_
      refine r_if_ne (tgt := 85) C d_Sea_keepSale_62 rfl (fun c_62 => ?_) (fun c_62 => ?_)
      · skip
        have hno : ¬ (k_bt c (nI j) = false ∧ x.2.2.1 j < v) := fun h => by
          have h2 : k_bt c (nI j) = true := decide_eq_true c_62
          rw [h2] at h
          cases h.1
        refine r_iinc (v := nI (j + 1)) (lv' := [(4, _), (0, _), (1, _), (2, _)]) C d_Sea_keepSale_85 rfl (nI_1 j) (Nat.le_of_ble_eq_true rfl) rfl ?_
        refine r_goto (tgt := 49) C d_Sea_keepSale_88 rfl ?_
        refine r_sub [0, 1, 2, 3] rfl ?_
        exact ih (j + 1) (by omega) _ (by rw [kk_bw_no hno]; exact P2)
      · skip
        have hb : k_bt c (nI j) = false := decide_eq_false (fun h => h c_62)
        refine r_lload_n C d_Sea_keepSale_65 rfl rfl ?_
        refine r_aload_n C d_Sea_keepSale_66 rfl rfl ?_
        refine r_get C hq_Sea d_Sea_keepSale_67 (j := 1) (Nat.le_of_ble_eq_true rfl) mf_Sea_17 (kp_7 P2) rfl ?_
        refine r_iload C d_Sea_keepSale_70 rfl ?_
        refine r_lald (t0 := 0) C d_Sea_keepSale_72 (kp_9 P2) rfl (rfl) (by omega) (by decide) (kk_bw_at x c v j) ?_
        refine r_lcmp C d_Sea_keepSale_73 ?_
        refine r_if_le (tgt := 85) C d_Sea_keepSale_74 rfl (fun c_74 => ?_) (fun c_74 => ?_)
        · skip
          rw [lg_cmp_le] at c_74
          have hno : ¬ (k_bt c (nI j) = false ∧ x.2.2.1 j < v) := fun h => absurd h.2 (Int64.not_lt.mpr c_74)
          refine r_iinc (v := nI (j + 1)) (lv' := [(4, _), (0, _), (1, _), (2, _)]) C d_Sea_keepSale_85 rfl (nI_1 j) (Nat.le_of_ble_eq_true rfl) rfl ?_
          refine r_goto (tgt := 49) C d_Sea_keepSale_88 rfl ?_
          refine r_sub [0, 1, 2, 3] rfl ?_
          exact ih (j + 1) (by omega) _ (by rw [kk_bw_no hno]; exact P2)
        · skip
          rw [lg_cmp_le, Int64.not_le] at c_74
          refine r_aload_n C d_Sea_keepSale_77 rfl rfl ?_
          refine r_get C hq_Sea d_Sea_keepSale_78 (j := 1) (Nat.le_of_ble_eq_true rfl) mf_Sea_17 (kp_7 P2) rfl ?_
          refine r_iload C d_Sea_keepSale_81 rfl ?_
          refine r_lload_n C d_Sea_keepSale_83 rfl rfl ?_
          refine r_last (t0 := 0) C d_Sea_keepSale_84 (kp_9 P2) rfl (rfl) (by omega) (by decide) ?_
          refine r_iinc (v := nI (j + 1)) (lv' := [(4, _), (0, _), (1, _), (2, _)]) C d_Sea_keepSale_85 rfl (nI_1 j) (Nat.le_of_ble_eq_true rfl) rfl ?_
          refine r_goto (tgt := 49) C d_Sea_keepSale_88 rfl ?_
          refine r_sub [0, 1, 2, 3] rfl ?_
          exact ih (j + 1) (by omega) _ (by rw [kk_bw_s, if_pos ⟨hb, c_74⟩]; exact kEnd2 (kPut P2 (Or.inl ⟨by decide, rfl⟩) _) (fun _ _ h => h) (kV_cases rfl rfl rfl rfl rfl rfl rfl rfl rfl rfl (fun _ _ => rfl) (fun _ _ => rfl) (fun _ _ => rfl) (fun _ _ => rfl) (fun _ _ => rfl) (fun _ _ => rfl) (fun _ _ => rfl)))
  have L0 : ∀ f2, kPic Y ad s (x.1, x.2.1, x.2.2.1, kk3 x c v) t f2 → hG Y X S_Sea_keepSale 0 0 f2 [(0, .ref (ad 7 0)), (1, .int c), (2, .long v)] [] 46 := by
    intro f2 P2
    refine r_iconst (v := 0) C d_Sea_keepSale_46 rfl ?_
    refine r_istore (lv' := [(4, _), (0, _), (1, _), (2, _)]) C d_Sea_keepSale_47 (Nat.le_of_ble_eq_true rfl) rfl ?_
    exact L 12 0 rfl f2 P2
  refine r_lload_n C d_Sea_keepSale_0 rfl rfl ?_
  refine r_aload_n C d_Sea_keepSale_1 rfl rfl ?_
  refine r_get C hq_Sea d_Sea_keepSale_2 (j := 3) (Nat.le_of_ble_eq_true rfl) mf_Sea_23 (kp_7 P) rfl ?_
  refine r_lcmp C d_Sea_keepSale_5 ?_
  refine r_if_le (tgt := 27) C d_Sea_keepSale_6 rfl (fun c_6 => ?_) (fun c_6 => ?_)
  · skip
    rw [lg_cmp_le] at c_6
    refine r_lload_n C d_Sea_keepSale_27 rfl rfl ?_
    refine r_aload_n C d_Sea_keepSale_28 rfl rfl ?_
    refine r_get C hq_Sea d_Sea_keepSale_29 (j := 3) (Nat.le_of_ble_eq_true rfl) mf_Sea_23 (kp_7 P) rfl ?_
    refine r_lcmp C d_Sea_keepSale_32 ?_
    refine r_if_ne (tgt := 46) C d_Sea_keepSale_33 rfl (fun c_33 => ?_) (fun c_33 => ?_)
    · skip
      rw [lg_cmp_eq] at c_33
      have hq : kk3 x c v = x.2.2.2 := (if_neg (Int64.not_lt.mpr c_6)).trans (if_neg c_33)
      refine L0 _ ?_
      rw [hq]
      exact kEnd2 P (fun _ _ h => h) (kV_cases rfl rfl rfl rfl rfl rfl rfl rfl rfl rfl (fun _ _ => rfl) (fun _ _ => rfl) (fun _ _ => rfl) (fun _ _ => rfl) (fun _ _ => rfl) (fun _ _ => rfl) (fun _ _ => rfl))
    · skip
      rw [lg_cmp_eq] at c_33
      have hq : kk3 x c v = (x.2.2.2.1, x.2.2.2.2.1, x.2.2.2.2.2 ||| c) := (if_neg (Int64.not_lt.mpr c_6)).trans (if_pos c_33)
      refine r_aload_n C d_Sea_keepSale_36 rfl rfl ?_
      refine r_dup C d_Sea_keepSale_37 rfl ?_
      refine r_get C hq_Sea d_Sea_keepSale_38 (j := 5) (Nat.le_of_ble_eq_true rfl) mf_Sea_34 (kp_7 P) rfl ?_
      refine r_iload_n C d_Sea_keepSale_41 rfl rfl ?_
      refine r_ior C d_Sea_keepSale_42 ?_
      refine r_put C hq_Sea d_Sea_keepSale_43 (j := 5) (fs' := [_, _, _, _, _, _]) (Nat.le_of_ble_eq_true rfl) mf_Sea_34 rfl rfl rfl rfl (kp_7 P) (Nat.le_of_ble_eq_true rfl) rfl ?_
      refine L0 _ ?_
      rw [hq]
      exact kEnd2 (kPut P (Or.inl ⟨by decide, rfl⟩) _) (fun _ _ h => h) (kV_cases rfl rfl rfl rfl rfl rfl rfl rfl rfl rfl (fun _ _ => rfl) (fun _ _ => rfl) (fun _ _ => rfl) (fun _ _ => rfl) (fun _ _ => rfl) (fun _ _ => rfl) (fun _ _ => rfl))
  · skip
    rw [lg_cmp_le, Int64.not_le] at c_6
    have hq : kk3 x c v = (v, c, c) := if_pos c_6
    refine r_aload_n C d_Sea_keepSale_9 rfl rfl ?_
    refine r_lload_n C d_Sea_keepSale_10 rfl rfl ?_
    refine r_put C hq_Sea d_Sea_keepSale_11 (j := 3) (fs' := [_, _, _, _, _, _]) (Nat.le_of_ble_eq_true rfl) mf_Sea_23 rfl rfl rfl rfl (kp_7 P) (Nat.le_of_ble_eq_true rfl) rfl ?_
    refine r_aload_n C d_Sea_keepSale_14 rfl rfl ?_
    refine r_iload_n C d_Sea_keepSale_15 rfl rfl ?_
    refine r_put C hq_Sea d_Sea_keepSale_16 (j := 4) (fs' := [_, _, _, _, _, _]) (Nat.le_of_ble_eq_true rfl) mf_Sea_27 rfl rfl rfl rfl (hw_us _ _ _) (Nat.le_of_ble_eq_true rfl) rfl ?_
    refine r_aload_n C d_Sea_keepSale_19 rfl rfl ?_
    refine r_iload_n C d_Sea_keepSale_20 rfl rfl ?_
    refine r_put C hq_Sea d_Sea_keepSale_21 (j := 5) (fs' := [_, _, _, _, _, _]) (Nat.le_of_ble_eq_true rfl) mf_Sea_34 rfl rfl rfl rfl (hw_us _ _ _) (Nat.le_of_ble_eq_true rfl) rfl ?_
    refine r_goto (tgt := 46) C d_Sea_keepSale_24 rfl ?_
    refine L0 _ ?_
    rw [hq]
    exact kEnd2 (kPut (kPut (kPut P (Or.inl ⟨by decide, rfl⟩) _) (Or.inl ⟨by decide, rfl⟩) _) (Or.inl ⟨by decide, rfl⟩) _) (fun _ _ h => h) (kV_cases rfl rfl rfl rfl rfl rfl rfl rfl rfl rfl (fun _ _ => rfl) (fun _ _ => rfl) (fun _ _ => rfl) (fun _ _ => rfl) (fun _ _ => rfl) (fun _ _ => rfl) (fun _ _ => rfl))

def ko (s : zS) (om : Nat → Nat) (c : Int32) (i : Nat) : Nat → Nat := zc_sum (fun p => bif decide (z_ow s (om p) = z_ow s i) && k_bt c (nI (om p)) then z_lots s (om p) else 0)
set_option maxHeartbeats 4000000 in
set_option maxRecDepth 100000 in
theorem k_Sea_staysWithinLimit (Y : hY) (l : Launch) {ad : Nat → Nat → Nat} {s : zS} {x : kX} {t : Bool} {f : hw_F} (P : kPic Y ad s x t f) (N : zN s) (n12 : x.1 ≤ 12) {om : Nat → Nat} (hO : ∀ p, p < x.1 → x.2.1 p = some (om p) ∧ om p < z_nD s) {i : Nat} (hi : i < z_nD s) (c : Int32) : hM Y l y_Sea_staysWithinLimit S_Sea_staysWithinLimit (some .boolean) [.ref (ad 7 0), .ref (ad 15 i), .int c] f (fun r f' => r = some (.int (bI (decide (nI (z_lots s i + ko s om c i x.1) ≤ z_m s (z_ow s i))))) ∧ f' = f) := by
  refine hM.of (by decide) rfl (Nat.le_of_ble_eq_true rfl) ?_
  intro X hl hnm C E
  show hG Y X S_Sea_staysWithinLimit 0 0 f [(0, .ref (ad 7 0)), (1, .ref (ad 15 i)), (2, .int c)] [] 0
  have L : ∀ d j, j + d = x.1 → hG Y X S_Sea_staysWithinLimit 0 0 f [(4, .int (nI (j))), (3, .int (nI (z_lots s i + ko s om c i (j)))), (0, .ref (ad 7 0)), (1, .ref (ad 15 i)), (2, .int c)] [] 8 := by
    intro d
    induction d with
    | zero =>
      intro j hj
      obtain rfl : j = x.1 := by omega
      refine r_iload C d_Sea_staysWithinLimit_8 rfl ?_
      refine r_aload_n C d_Sea_staysWithinLimit_10 rfl rfl ?_
      refine r_get C hq_Sea d_Sea_staysWithinLimit_11 (j := 2) (Nat.le_of_ble_eq_true rfl) mf_Sea_41 (kp_7 P) rfl ?_
      refine r_icmp_ge (tgt := 64) C d_Sea_staysWithinLimit_14 rfl (fun _ => ?_) (fun hz => absurd (Int32.le_refl _) hz)
      refine r_iload_n C d_Sea_staysWithinLimit_64 rfl rfl ?_
      refine r_aload_n C d_Sea_staysWithinLimit_65 rfl rfl ?_
      refine r_getN C hq_Bid d_Sea_staysWithinLimit_66 (j := 1) (Nat.le_of_ble_eq_true rfl) mf_Sea_44 (kp_15 P (hi)) rfl ?_
      refine r_getN C hq_Bdr d_Sea_staysWithinLimit_69 (j := 4) (Nat.le_of_ble_eq_true rfl) mf_Sea_75 (kp_14 P ((N.2.2.2.2.1 i hi))) rfl ?_
      refine r_icmp_gt (tgt := 79) C d_Sea_staysWithinLimit_72 rfl (fun c_72 => ?_) (fun c_72 => ?_)
      · skip
        have e9 : decide (nI (z_lots s i + ko s om c i x.1) ≤ z_m s (z_ow s i)) = false := decide_eq_false (Int32.not_le.mpr c_72)
        refine r_iconst (v := 0) C d_Sea_staysWithinLimit_79 rfl ?_
        refine r_zret C E rfl d_Sea_staysWithinLimit_80 (rfl) (Nat.le_of_ble_eq_true rfl) (Nat.le_of_ble_eq_true rfl) ?_
        exact ⟨by rw [e9]; rfl, rfl⟩
      · skip
        have e9 : decide (nI (z_lots s i + ko s om c i x.1) ≤ z_m s (z_ow s i)) = true := decide_eq_true (Int32.not_lt.mp c_72)
        refine r_iconst (v := 1) C d_Sea_staysWithinLimit_75 rfl ?_
        refine r_goto (tgt := 80) C d_Sea_staysWithinLimit_76 rfl ?_
        refine r_zret C E rfl d_Sea_staysWithinLimit_80 (rfl) (Nat.le_of_ble_eq_true rfl) (Nat.le_of_ble_eq_true rfl) ?_
        exact ⟨by rw [e9]; rfl, rfl⟩
    | succ d ih =>
      intro j hj
      have hom := (hO j (by omega)).2
      refine r_iload C d_Sea_staysWithinLimit_8 rfl ?_
      refine r_aload_n C d_Sea_staysWithinLimit_10 rfl rfl ?_
      refine r_get C hq_Sea d_Sea_staysWithinLimit_11 (j := 2) (Nat.le_of_ble_eq_true rfl) mf_Sea_41 (kp_7 P) rfl ?_
      refine r_icmp_ge (tgt := 64) C d_Sea_staysWithinLimit_14 rfl (fun hz => absurd hz (nI_ge (a := j) (b := x.1) (by omega) (by omega))) (fun _ => ?_)
      refine r_aload_n C d_Sea_staysWithinLimit_17 rfl rfl ?_
      refine r_get C hq_Sea d_Sea_staysWithinLimit_18 (j := 0) (Nat.le_of_ble_eq_true rfl) mf_Sea_11 (kp_7 P) rfl ?_
      refine r_iload C d_Sea_staysWithinLimit_21 rfl ?_
      refine r_aald (t0 := 5) C d_Sea_staysWithinLimit_23 (kp_8 P) rfl (rfl) (by omega) (by decide) (show (x.2.1 j).map (ad 15) = some (ad 15 (om j)) by rw [(hO j (by omega)).1]; rfl) ?_
      refine r_astore (lv' := [(5, _), (4, _), (3, _), (0, _), (1, _), (2, _)]) C d_Sea_staysWithinLimit_24 (Nat.le_of_ble_eq_true rfl) rfl ?_
      refine r_aload C d_Sea_staysWithinLimit_26 rfl ?_
      refine r_getN C hq_Bid d_Sea_staysWithinLimit_28 (j := 1) (Nat.le_of_ble_eq_true rfl) mf_Sea_44 (kp_15 P (hom)) rfl ?_
      refine r_aload_n C d_Sea_staysWithinLimit_31 rfl rfl ?_
      refine r_getN C hq_Bid d_Sea_staysWithinLimit_32 (j := 1) (Nat.le_of_ble_eq_true rfl) mf_Sea_44 (kp_15 P (hi)) rfl ?_
      refine r_acmp_ne (tgt := 58) C d_Sea_staysWithinLimit_35 rfl (fun c_35 => ?_) (fun c_35 => ?_)
      · skip
        have c35 : z_ow s (om j) ≠ z_ow s i := fun h => c_35 (by rw [h])
        rw [show ko s om c i j = ko s om c i (j + 1) by simp [ko, zc_sum, c35]]
        refine r_iinc (v := nI (j + 1)) (lv' := [(4, _), (5, _), (3, _), (0, _), (1, _), (2, _)]) C d_Sea_staysWithinLimit_58 rfl (nI_1 j) (Nat.le_of_ble_eq_true rfl) rfl ?_
        refine r_goto (tgt := 8) C d_Sea_staysWithinLimit_61 rfl ?_
        refine r_sub [0, 2, 3, 4, 5] rfl ?_
        exact ih (j + 1) (by omega)
      · skip
        have c35 : z_ow s (om j) = z_ow s i := (P.2 14 _ 14 _ (Or.inr (Or.inr (Or.inl ⟨rfl, (N.2.2.2.2.1 _ hom)⟩))) (Or.inr (Or.inr (Or.inl ⟨rfl, (N.2.2.2.2.1 i hi)⟩))) c_35).2
        refine r_iload_n C d_Sea_staysWithinLimit_38 rfl rfl ?_
        refine r_aload C d_Sea_staysWithinLimit_39 rfl ?_
        refine r_getN C hq_Bid d_Sea_staysWithinLimit_41 (j := 0) (Nat.le_of_ble_eq_true rfl) mf_Sea_31 (kp_15 P (hom)) rfl ?_
        refine r_iushr C d_Sea_staysWithinLimit_44 ?_
        refine r_iconst (v := 1) C d_Sea_staysWithinLimit_45 rfl ?_
        refine r_iand C d_Sea_staysWithinLimit_46 ?_
        refine r_if_eq (tgt := 58) C d_Sea_staysWithinLimit_47 rfl (fun c_47 => ?_) (fun c_47 => ?_)
        · skip
          have hb : k_bt c (nI (om j)) = false := decide_eq_false (fun h => h c_47)
          rw [show ko s om c i j = ko s om c i (j + 1) by simp [ko, zc_sum, hb]]
          refine r_iinc (v := nI (j + 1)) (lv' := [(4, _), (5, _), (3, _), (0, _), (1, _), (2, _)]) C d_Sea_staysWithinLimit_58 rfl (nI_1 j) (Nat.le_of_ble_eq_true rfl) rfl ?_
          refine r_goto (tgt := 8) C d_Sea_staysWithinLimit_61 rfl ?_
          refine r_sub [0, 2, 3, 4, 5] rfl ?_
          exact ih (j + 1) (by omega)
        · skip
          have hb : k_bt c (nI (om j)) = true := decide_eq_true c_47
          refine r_iload_n C d_Sea_staysWithinLimit_50 rfl rfl ?_
          refine r_aload C d_Sea_staysWithinLimit_51 rfl ?_
          refine r_callV C (k_Bid_lotTally Y _ _ _ _ _ _ _ (kp_15 P hom)) mQ_Bid_lotTally d_Sea_staysWithinLimit_53 ml_Sea_71 mi_Bid_lotTally mv_Bid_lotTally (kp_15 P hom) rfl rfl rfl rfl (Nat.le_of_ble_eq_true rfl) ⟨⟨Nat.le_of_ble_eq_true rfl, Nat.le_of_ble_eq_true rfl⟩, Nat.le_of_ble_eq_true rfl, Nat.le_of_ble_eq_true rfl⟩ (fun v f' hp => ?_)
          obtain ⟨rfl, hf⟩ := hp
          replace hf := hf.symm
          subst hf
          refine r_iadd C d_Sea_staysWithinLimit_56 ?_
          refine r_istore_n (lv' := [(3, _), (5, _), (4, _), (0, _), (1, _), (2, _)]) C d_Sea_staysWithinLimit_57 rfl (Nat.le_of_ble_eq_true rfl) rfl ?_
          rw [show z_ls s (om j) = zb_m _ 8 from rfl, k_bc_m (by decide), nI_add, Nat.add_assoc, show ko s om c i j + zc_cnt (fun l => z_h s (8 * om j + l)) 8 = ko s om c i (j + 1) by simp [ko, zc_sum, hb, c35, z_lots]]
          refine r_iinc (v := nI (j + 1)) (lv' := [(4, _), (3, _), (5, _), (0, _), (1, _), (2, _)]) C d_Sea_staysWithinLimit_58 rfl (nI_1 j) (Nat.le_of_ble_eq_true rfl) rfl ?_
          refine r_goto (tgt := 8) C d_Sea_staysWithinLimit_61 rfl ?_
          refine r_sub [0, 1, 3, 4, 5] rfl ?_
          exact ih (j + 1) (by omega)
  refine r_aload_n C d_Sea_staysWithinLimit_0 rfl rfl ?_
  refine r_callV C (k_Bid_lotTally Y _ _ _ _ _ _ _ (kp_15 P hi)) mQ_Bid_lotTally d_Sea_staysWithinLimit_1 ml_Sea_71 mi_Bid_lotTally mv_Bid_lotTally (kp_15 P hi) rfl rfl rfl rfl (Nat.le_of_ble_eq_true rfl) ⟨⟨Nat.le_of_ble_eq_true rfl, Nat.le_of_ble_eq_true rfl⟩, Nat.le_of_ble_eq_true rfl, Nat.le_of_ble_eq_true rfl⟩ (fun v f' hp => ?_)
  obtain ⟨rfl, hf⟩ := hp
  replace hf := hf.symm
  subst hf
  rw [show z_ls s i = zb_m _ 8 from rfl, k_bc_m (by decide)]
  refine r_istore_n (lv' := [(3, _), (0, _), (1, _), (2, _)]) C d_Sea_staysWithinLimit_4 rfl (Nat.le_of_ble_eq_true rfl) rfl ?_
  refine r_iconst (v := 0) C d_Sea_staysWithinLimit_5 rfl ?_
  refine r_istore (lv' := [(4, _), (3, _), (0, _), (1, _), (2, _)]) C d_Sea_staysWithinLimit_6 (Nat.le_of_ble_eq_true rfl) rfl ?_
  exact L x.1 0 (Nat.zero_add _)

