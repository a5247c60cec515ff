noncomputable def zD (s : zS) (k : Nat) : Bool := z_fd s && zk_td s k
noncomputable def zM (s : zS) : Nat → Nat := zc_cnt (zD s)
noncomputable def zA (s : zS) (y w : Int32) (j : Nat) : Int32 := bif z_fd s then zt_go s y w (z_nD s - j) j else -1
theorem tie_M {s : zS} (h : z_fd s = true) (j : Nat) : zM s j = zk_tn s j := zc_cnt_cg (fun k _ => by simp [zD, h])
theorem tie_st {s : zS} {y w : Int32} {j : Nat} (hn : j < z_nD s) : zt_go s y w (z_nD s - j) j = bif zk_td s j && decide (nI (zk_tn s j) = y) then zt_w s j w else zt_go s y w (z_nD s - (j + 1)) (j + 1) := by
  rw [show z_nD s - j = (z_nD s - (j + 1)) + 1 by omega]
  rfl
theorem tie_T {s : zS} {y w : Int32} {j : Nat} (hn : j < z_nD s) (h1 : zD s j = true) (h2 : nI (zM s j) = y) : zA s y w j = zt_w s j w := by
  unfold zD at h1
  rw [Bool.and_eq_true] at h1
  rw [tie_M h1.1] at h2
  unfold zA
  rw [h1.1, tie_st hn, h1.2, h2]
  simp
theorem tie_F {s : zS} {y w : Int32} {j : Nat} (hn : j < z_nD s) (h : zD s j = false ∨ ¬ nI (zM s j) = y) : zA s y w j = zA s y w (j + 1) := by
  unfold zA
  cases hf : z_fd s with
  | false => rfl
  | true =>
    rw [tie_st hn]
    rcases h with h | h
    · unfold zD at h
      rw [hf, Bool.true_and] at h
      rw [h]
      rfl
    · rw [tie_M hf] at h
      rw [decide_eq_false h, Bool.and_false]
      rfl
theorem tie_E (s : zS) (y w : Int32) : zA s y w (z_nD s) = -1 := by
  unfold zA
  rw [Nat.sub_self]
  cases z_fd s <;> rfl
set_option maxHeartbeats 4000000 in
set_option maxRecDepth 100000 in
theorem k_BT_tie (Y : hY) (l : Launch) {ad : Nat → Nat → Nat} {s : zS} {x : kX} {t : Bool} {f : hw_F} (P : kPic Y ad s x t f) (N : zN s) (T3 : ∀ k, k < z_nD s → (k_bt x.2.2.2.2.2 (nI k) && !k_bt x.2.2.2.2.1 (nI k)) = (z_fd s && zk_td s k)) (y w : Int32) : hM Y l y_BT_tie S_BT_tie (some .int) [.ref (ad 0 0), .int y, .int w] f (fun r f' => r = some (.int (za_tie s y w)) ∧ f' = f) := by
  refine hM.of (by decide) rfl (Nat.le_of_ble_eq_true rfl) ?_
  intro X hl hnm C E
  show hG Y X S_BT_tie 0 0 f [(0, .ref (ad 0 0)), (1, .int y), (2, .int w)] [] 0
  have L : (w = 0 ∨ w = 1) → ∀ d j, j + d = 12 → za_tie s y w = zA s y w (min (j) (z_nD s)) → hG Y X S_BT_tie 0 0 f [(6, .int (nI (j))), (5, .int 12), (4, .ref (ad 3 0)), (3, .int (y - nI (zM s (min (j) (z_nD s))))), (0, .ref (ad 0 0)), (1, .int y), (2, .int w)] [] 32 := by
    intro hw d
    induction d with
    | zero =>
      intro j hj hA
      obtain rfl : j = 12 := by omega
      rw [show min 12 (z_nD s) = z_nD s by have := N.2.2.1; omega] at hA
      refine r_iload C d_BT_tie_32 rfl ?_
      refine r_iload C d_BT_tie_34 rfl ?_
      refine r_icmp_ge (tgt := 97) C d_BT_tie_36 rfl (fun _ => ?_) (fun hz => absurd (show (12 : Int32) ≤ nI 12 by decide) hz)
      refine r_iconst (v := (-1)) C d_BT_tie_97 rfl ?_
      refine r_iret C E rfl d_BT_tie_98 (Nat.le_of_ble_eq_true rfl) (Nat.le_of_ble_eq_true rfl) ?_
      exact ⟨by rw [hA, tie_E], rfl⟩
    | succ d ih =>
      intro j hj hA
      rcases Nat.lt_or_ge j (z_nD s) with hn | hn
      · rw [show min j (z_nD s) = j by omega] at hA ⊢
        refine r_iload C d_BT_tie_32 rfl ?_
        refine r_iload C d_BT_tie_34 rfl ?_
        refine r_icmp_ge (tgt := 97) C d_BT_tie_36 rfl (fun hz => absurd hz (nI_ge (a := j) (b := 12) (by omega) (by decide))) (fun _ => ?_)
        refine r_aload C d_BT_tie_39 rfl ?_
        refine r_iload C d_BT_tie_41 rfl ?_
        refine r_aald (t0 := 5) C d_BT_tie_43 (kp_3 P) rfl (rfl) (by omega) (by decide) (if_pos hn) ?_
        refine r_astore (lv' := [(7, _), (6, _), (5, _), (4, _), (3, _), (0, _), (1, _), (2, _)]) C d_BT_tie_44 (Nat.le_of_ble_eq_true rfl) rfl ?_
        refine r_aload C d_BT_tie_46 rfl ?_
        refine r_ifnull C d_BT_tie_48 ?_
        refine r_aload_n C d_BT_tie_51 rfl rfl ?_
        refine r_get C hq_BT d_BT_tie_52 (j := 6) (Nat.le_of_ble_eq_true rfl) mf_BT_43 (kp_0 P) rfl ?_
        refine r_aload C d_BT_tie_55 rfl ?_
        refine r_callV C (k_Sea_ties Y _ _ _ _ _ _ _ _ (kp_7 P) _ _ _ _ _ (kp_15 P hn)) mQ_Sea_ties d_BT_tie_57 ml_BT_191 mi_Sea_ties mv_Sea_ties (kp_7 P) rfl rfl rfl rfl (Nat.le_of_ble_eq_true rfl) ⟨⟨Nat.le_of_ble_eq_true rfl, Nat.le_of_ble_eq_true rfl⟩, Nat.le_of_ble_eq_true rfl, Nat.le_of_ble_eq_true rfl⟩ (fun v f' hp => ?_)
        obtain ⟨rfl, hf⟩ := hp
        replace hf := hf.symm
        subst hf
        refine r_if_eq (tgt := 91) C d_BT_tie_60 rfl (fun c_60 => ?_) (fun c_60 => ?_)
        · skip
          rw [bI_0, T3 j hn] at c_60
          have hA2 := hA.trans (tie_F hn (Or.inl c_60))
          rw [show zM s j = zM s (j + 1) by simp [zM, zc_cnt, zD, c_60]]
          refine r_iinc (v := nI (j + 1)) (lv' := [(6, _), (7, _), (5, _), (4, _), (3, _), (0, _), (1, _), (2, _)]) C d_BT_tie_91 rfl (nI_1 j) (Nat.le_of_ble_eq_true rfl) rfl ?_
          refine r_goto (tgt := 32) C d_BT_tie_94 rfl ?_
          refine r_sub [0, 2, 3, 4, 5, 6, 7] rfl ?_
          have h9 := ih (j + 1) (by omega)
          rw [show min (j + 1) (z_nD s) = j + 1 by omega] at h9
          exact h9 hA2
        · skip
          rw [bI_n0, T3 j hn] at c_60
          refine r_iload_n C d_BT_tie_63 rfl rfl ?_
          refine r_if_ne (tgt := 88) C d_BT_tie_64 rfl (fun c_64 => ?_) (fun c_64 => ?_)
          · skip
            have hA2 := hA.trans (tie_F hn (Or.inr (fun h => c_64 (sub_0.mpr h))))
            refine r_iinc (v := y - nI (zM s (j + 1))) (lv' := [(3, _), (7, _), (6, _), (5, _), (4, _), (0, _), (1, _), (2, _)]) C d_BT_tie_88 rfl (by rw [show zM s (j + 1) = zM s j + 1 by simp [zM, zc_cnt, zD, c_60]]; exact sub_m1 _ _) (Nat.le_of_ble_eq_true rfl) rfl ?_
            refine r_iinc (v := nI (j + 1)) (lv' := [(6, _), (3, _), (7, _), (5, _), (4, _), (0, _), (1, _), (2, _)]) C d_BT_tie_91 rfl (nI_1 j) (Nat.le_of_ble_eq_true rfl) rfl ?_
            refine r_goto (tgt := 32) C d_BT_tie_94 rfl ?_
            refine r_sub [0, 3, 4, 1, 5, 6, 7] rfl ?_
            have h9 := ih (j + 1) (by omega)
            rw [show min (j + 1) (z_nD s) = j + 1 by omega] at h9
            exact h9 hA2
          · skip
            have hA3 := hA.trans (tie_T hn c_60 (sub_0.mp c_64))
            refine r_iload_n C d_BT_tie_67 rfl rfl ?_
            refine r_if_ne (tgt := 79) C d_BT_tie_68 rfl (fun c_68 => ?_) (fun c_68 => ?_)
            · skip
              have hw1 : w = 1 := hw.resolve_left c_68
              refine r_aload C d_BT_tie_79 rfl ?_
              refine r_getN C hq_Bid d_BT_tie_81 (j := 1) (Nat.le_of_ble_eq_true rfl) mf_BT_97 (kp_15 P (hn)) rfl ?_
              refine r_getN C hq_Bdr d_BT_tie_84 (j := 0) (Nat.le_of_ble_eq_true rfl) mf_BT_194 (kp_14 P ((N.2.2.2.2.1 j hn))) rfl ?_
              refine r_iret C E rfl d_BT_tie_87 (Nat.le_of_ble_eq_true rfl) (Nat.le_of_ble_eq_true rfl) ?_
              exact ⟨by rw [hA3]; simp [zt_w, c_68, hw1], rfl⟩
            · skip
              have hw1 : w = 0 := c_68
              refine r_aload C d_BT_tie_71 rfl ?_
              refine r_getN C hq_Bid d_BT_tie_73 (j := 0) (Nat.le_of_ble_eq_true rfl) mf_BT_188 (kp_15 P (hn)) rfl ?_
              refine r_goto (tgt := 87) C d_BT_tie_76 rfl ?_
              refine r_iret C E rfl d_BT_tie_87 (Nat.le_of_ble_eq_true rfl) (Nat.le_of_ble_eq_true rfl) ?_
              exact ⟨by rw [hA3]; simp [zt_w, c_68, hw1], rfl⟩
      · rw [show min j (z_nD s) = z_nD s by omega] at hA ⊢
        refine r_iload C d_BT_tie_32 rfl ?_
        refine r_iload C d_BT_tie_34 rfl ?_
        refine r_icmp_ge (tgt := 97) C d_BT_tie_36 rfl (fun hz => absurd hz (nI_ge (a := j) (b := 12) (by omega) (by decide))) (fun _ => ?_)
        refine r_aload C d_BT_tie_39 rfl ?_
        refine r_iload C d_BT_tie_41 rfl ?_
        refine r_aald (t0 := 5) C d_BT_tie_43 (kp_3 P) rfl (rfl) (by omega) (by decide) (if_neg (by omega)) ?_
        refine r_astoreN (lv' := [(7, _), (6, _), (5, _), (4, _), (3, _), (0, _), (1, _), (2, _)]) C d_BT_tie_44 (Nat.le_of_ble_eq_true rfl) rfl ?_
        refine r_aloadN C d_BT_tie_46 rfl ?_
        refine r_ifnullN (tgt := 91) C d_BT_tie_48 rfl ?_
        refine r_iinc (v := nI (j + 1)) (lv' := [(6, _), (7, _), (5, _), (4, _), (3, _), (0, _), (1, _), (2, _)]) C d_BT_tie_91 rfl (nI_1 j) (Nat.le_of_ble_eq_true rfl) rfl ?_
        refine r_goto (tgt := 32) C d_BT_tie_94 rfl ?_
        refine r_sub [0, 2, 3, 4, 5, 6, 7] rfl ?_
        have h9 := ih (j + 1) (by omega)
        rw [show min (j + 1) (z_nD s) = z_nD s by omega] at h9
        exact h9 hA
  refine r_iload_n C d_BT_tie_0 rfl rfl ?_
  refine r_if_lt (tgt := 14) C d_BT_tie_1 rfl (fun c_1 => ?_) (fun c_1 => ?_)
  · skip
    have e9 : za_tie s y w = -1 := by
      unfold za_tie
      rw [zt_neg c_1 N.2.2.1 _ _ (Nat.zero_add _)]
      cases z_fd s <;> rfl
    refine r_iconst (v := (-1)) C d_BT_tie_14 rfl ?_
    refine r_iret C E rfl d_BT_tie_15 (Nat.le_of_ble_eq_true rfl) (Nat.le_of_ble_eq_true rfl) ?_
    exact ⟨by rw [e9], rfl⟩
  · skip
    refine r_iload_n C d_BT_tie_4 rfl rfl ?_
    refine r_i2l C d_BT_tie_5 ?_
    refine r_lconst (v := 0) C d_BT_tie_6 rfl ?_
    refine r_lconst (v := 1) C d_BT_tie_7 rfl ?_
    refine r_callS C (k_BT_within Y _ _ _ _ _) mQ_BT_within d_BT_tie_8 ml_BT_53 mt_BT_within rfl rfl (Nat.le_of_ble_eq_true rfl) ⟨⟨Nat.le_of_ble_eq_true rfl, Nat.le_of_ble_eq_true rfl⟩, Nat.le_of_ble_eq_true rfl, Nat.le_of_ble_eq_true rfl⟩ (fun v f' hp => ?_)
    obtain ⟨rfl, hf⟩ := hp
    replace hf := hf.symm
    subst hf
    refine r_if_ne (tgt := 16) C d_BT_tie_11 rfl (fun c_11 => ?_) (fun c_11 => ?_)
    · skip
      rw [bI_n0] at c_11
      refine r_iload_n C d_BT_tie_16 rfl rfl ?_
      refine r_istore_n (lv' := [(3, _), (0, _), (1, _), (2, _)]) C d_BT_tie_17 rfl (Nat.le_of_ble_eq_true rfl) rfl ?_
      refine r_aload_n C d_BT_tie_18 rfl rfl ?_
      refine r_get C hq_BT d_BT_tie_19 (j := 2) (Nat.le_of_ble_eq_true rfl) mf_BT_23 (kp_0 P) rfl ?_
      refine r_astore (lv' := [(4, _), (3, _), (0, _), (1, _), (2, _)]) C d_BT_tie_22 (Nat.le_of_ble_eq_true rfl) rfl ?_
      refine r_aload C d_BT_tie_24 rfl ?_
      refine r_alen (t0 := 5) (v := 12) C d_BT_tie_26 (kp_3 P) rfl rfl ?_
      refine r_istore (lv' := [(5, _), (4, _), (3, _), (0, _), (1, _), (2, _)]) C d_BT_tie_27 (Nat.le_of_ble_eq_true rfl) rfl ?_
      refine r_iconst (v := 0) C d_BT_tie_29 rfl ?_
      refine r_istore (lv' := [(6, _), (5, _), (4, _), (3, _), (0, _), (1, _), (2, _)]) C d_BT_tie_30 (Nat.le_of_ble_eq_true rfl) rfl ?_
      have h9 := L (in01 c_11) 12 0 rfl
      rw [show min 0 (z_nD s) = 0 by omega, show y - nI (zM s 0) = y by simp [zM, zc_cnt]; exact Int32.sub_zero y] at h9
      exact h9 rfl
    · skip
      rw [bI_0] at c_11
      have e9 : za_tie s y w = -1 := by
        unfold za_tie
        rw [zt_bad (out01 c_11).1 (out01 c_11).2]
        cases z_fd s <;> rfl
      refine r_iconst (v := (-1)) C d_BT_tie_14 rfl ?_
      refine r_iret C E rfl d_BT_tie_15 (Nat.le_of_ble_eq_true rfl) (Nat.le_of_ble_eq_true rfl) ?_
      exact ⟨by rw [e9], rfl⟩

