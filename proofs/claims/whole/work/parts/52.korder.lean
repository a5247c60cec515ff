set_option maxHeartbeats 4000000 in
set_option maxRecDepth 100000 in
theorem k_BT_bidsInPlay (Y : hY) (l : Launch) {ad : Nat → Nat → Nat} {s : zS} {x : kX} {t : Bool} {f : hw_F} (P : kPic Y ad s x t f) (N : zN s) : hM Y l y_BT_bidsInPlay S_BT_bidsInPlay (some .int) [.ref (ad 0 0)] f (fun r f' => r = some (.int (nI (zc_cnt (z_play s) (z_nD s)))) ∧ f' = f) := by
  refine hM.of (by decide) rfl (Nat.le_of_ble_eq_true rfl) ?_
  intro X hl hnm C E
  show hG Y X S_BT_bidsInPlay 0 0 f [(0, .ref (ad 0 0))] [] 0
  have L : ∀ d j, j + d = 12 → hG Y X S_BT_bidsInPlay 0 0 f [(4, .int (nI (j))), (3, .int 12), (2, .ref (ad 3 0)), (1, .int (nI (zc_cnt (z_play s) (min (j) (z_nD s))))), (0, .ref (ad 0 0))] [] 13 := by
    intro d
    induction d with
    | zero =>
      intro j hj
      obtain rfl : j = 12 := by omega
      rw [show min 12 (z_nD s) = z_nD s by have := N.2.2.1; omega]
      refine r_iload C d_BT_bidsInPlay_13 rfl ?_
      refine r_iload_n C d_BT_bidsInPlay_15 rfl rfl ?_
      refine r_icmp_ge (tgt := 42) C d_BT_bidsInPlay_16 rfl (fun _ => ?_) (fun hz => absurd (show (12 : Int32) ≤ nI 12 by decide) hz)
      refine r_iload_n C d_BT_bidsInPlay_42 rfl rfl ?_
      refine r_iret C E rfl d_BT_bidsInPlay_43 (Nat.le_of_ble_eq_true rfl) (Nat.le_of_ble_eq_true rfl) ?_
      exact ⟨rfl, rfl⟩
    | succ d ih =>
      intro j hj
      rcases Nat.lt_or_ge j (z_nD s) with hn | hn
      · rw [show min j (z_nD s) = j by omega]
        refine r_iload C d_BT_bidsInPlay_13 rfl ?_
        refine r_iload_n C d_BT_bidsInPlay_15 rfl rfl ?_
        refine r_icmp_ge (tgt := 42) C d_BT_bidsInPlay_16 rfl (fun hz => absurd hz (nI_ge (a := j) (b := 12) (by omega) (by decide))) (fun _ => ?_)
        refine r_aload_n C d_BT_bidsInPlay_19 rfl rfl ?_
        refine r_iload C d_BT_bidsInPlay_20 rfl ?_
        refine r_aald (t0 := 5) C d_BT_bidsInPlay_22 (kp_3 P) rfl (rfl) (by omega) (by decide) (if_pos hn) ?_
        refine r_astore (lv' := [(5, _), (4, _), (3, _), (2, _), (1, _), (0, _)]) C d_BT_bidsInPlay_23 (Nat.le_of_ble_eq_true rfl) rfl ?_
        refine r_aload C d_BT_bidsInPlay_25 rfl ?_
        refine r_callS C (k_BT_inPlay Y _ P hn (N.2.2.2.2.1 j hn)) mQ_BT_inPlay d_BT_bidsInPlay_27 ml_BT_151 mt_BT_inPlay rfl rfl (Nat.le_of_ble_eq_true rfl) ⟨⟨Nat.le_of_ble_eq_true rfl, Nat.le_of_ble_eq_true rfl⟩, Nat.le_of_ble_eq_true rfl, Nat.le_of_ble_eq_true rfl⟩ (fun v f' hp => ?_)
        obtain ⟨rfl, hf⟩ := hp
        replace hf := hf.symm
        subst hf
        refine r_if_eq (tgt := 36) C d_BT_bidsInPlay_30 rfl (fun c_30 => ?_) (fun c_30 => ?_)
        · skip
          rw [bI_0] at c_30
          rw [show zc_cnt (z_play s) j = zc_cnt (z_play s) (j + 1) by simp [zc_cnt, c_30]]
          refine r_iinc (v := nI (j + 1)) (lv' := [(4, _), (5, _), (3, _), (2, _), (1, _), (0, _)]) C d_BT_bidsInPlay_36 rfl (nI_1 j) (Nat.le_of_ble_eq_true rfl) rfl ?_
          refine r_goto (tgt := 13) C d_BT_bidsInPlay_39 rfl ?_
          refine r_sub [0, 2, 3, 4, 5] rfl ?_
          have h9 := ih (j + 1) (by omega)
          rw [show min (j + 1) (z_nD s) = j + 1 by omega] at h9
          exact h9
        · skip
          rw [bI_n0] at c_30
          refine r_iinc (v := nI (zc_cnt (z_play s) (j + 1))) (lv' := [(1, _), (5, _), (4, _), (3, _), (2, _), (0, _)]) C d_BT_bidsInPlay_33 rfl (by rw [show zc_cnt (z_play s) (j + 1) = zc_cnt (z_play s) j + 1 by simp [zc_cnt, c_30]]; exact nI_1 _) (Nat.le_of_ble_eq_true rfl) rfl ?_
          refine r_iinc (v := nI (j + 1)) (lv' := [(4, _), (1, _), (5, _), (3, _), (2, _), (0, _)]) C d_BT_bidsInPlay_36 rfl (nI_1 j) (Nat.le_of_ble_eq_true rfl) rfl ?_
          refine r_goto (tgt := 13) C d_BT_bidsInPlay_39 rfl ?_
          refine r_sub [0, 3, 4, 1, 5] rfl ?_
          have h9 := ih (j + 1) (by omega)
          rw [show min (j + 1) (z_nD s) = j + 1 by omega] at h9
          exact h9
      · rw [show min j (z_nD s) = z_nD s by omega]
        refine r_iload C d_BT_bidsInPlay_13 rfl ?_
        refine r_iload_n C d_BT_bidsInPlay_15 rfl rfl ?_
        refine r_icmp_ge (tgt := 42) C d_BT_bidsInPlay_16 rfl (fun hz => absurd hz (nI_ge (a := j) (b := 12) (by omega) (by decide))) (fun _ => ?_)
        refine r_aload_n C d_BT_bidsInPlay_19 rfl rfl ?_
        refine r_iload C d_BT_bidsInPlay_20 rfl ?_
        refine r_aald (t0 := 5) C d_BT_bidsInPlay_22 (kp_3 P) rfl (rfl) (by omega) (by decide) (if_neg (by omega)) ?_
        refine r_astoreN (lv' := [(5, _), (4, _), (3, _), (2, _), (1, _), (0, _)]) C d_BT_bidsInPlay_23 (Nat.le_of_ble_eq_true rfl) rfl ?_
        refine r_aloadN C d_BT_bidsInPlay_25 rfl ?_
        refine r_callS C (k_BT_inPlay0 Y _) mQ_BT_inPlay d_BT_bidsInPlay_27 ml_BT_151 mt_BT_inPlay rfl rfl (Nat.le_of_ble_eq_true rfl) ⟨⟨Nat.le_of_ble_eq_true rfl, Nat.le_of_ble_eq_true rfl⟩, Nat.le_of_ble_eq_true rfl, Nat.le_of_ble_eq_true rfl⟩ (fun v f' hp => ?_)
        obtain ⟨rfl, hf⟩ := hp
        replace hf := hf.symm
        subst hf
        refine r_if_eq (tgt := 36) C d_BT_bidsInPlay_30 rfl (fun _ => ?_) (fun hz => absurd (show (0 : Int32) = 0 from rfl) hz)
        refine r_iinc (v := nI (j + 1)) (lv' := [(4, _), (5, _), (3, _), (2, _), (1, _), (0, _)]) C d_BT_bidsInPlay_36 rfl (nI_1 j) (Nat.le_of_ble_eq_true rfl) rfl ?_
        refine r_goto (tgt := 13) C d_BT_bidsInPlay_39 rfl ?_
        refine r_sub [0, 2, 3, 4, 5] rfl ?_
        have h9 := ih (j + 1) (by omega)
        rw [show min (j + 1) (z_nD s) = z_nD s by omega] at h9
        exact h9
  refine r_iconst (v := 0) C d_BT_bidsInPlay_0 rfl ?_
  refine r_istore_n (lv' := [(1, _), (0, _)]) C d_BT_bidsInPlay_1 rfl (Nat.le_of_ble_eq_true rfl) rfl ?_
  refine r_aload_n C d_BT_bidsInPlay_2 rfl rfl ?_
  refine r_get C hq_BT d_BT_bidsInPlay_3 (j := 2) (Nat.le_of_ble_eq_true rfl) mf_BT_23 (kp_0 P) rfl ?_
  refine r_astore_n (lv' := [(2, _), (1, _), (0, _)]) C d_BT_bidsInPlay_6 rfl (Nat.le_of_ble_eq_true rfl) rfl ?_
  refine r_aload_n C d_BT_bidsInPlay_7 rfl rfl ?_
  refine r_alen (t0 := 5) (v := 12) C d_BT_bidsInPlay_8 (kp_3 P) rfl rfl ?_
  refine r_istore_n (lv' := [(3, _), (2, _), (1, _), (0, _)]) C d_BT_bidsInPlay_9 rfl (Nat.le_of_ble_eq_true rfl) rfl ?_
  refine r_iconst (v := 0) C d_BT_bidsInPlay_10 rfl ?_
  refine r_istore (lv' := [(4, _), (3, _), (2, _), (1, _), (0, _)]) C d_BT_bidsInPlay_11 (Nat.le_of_ble_eq_true rfl) rfl ?_
  have h9 := L 12 0 rfl
  rw [show min 0 (z_nD s) = 0 by omega] at h9
  exact h9

/-- the order, with what stands from r on one place further -/
def oR (x : kX) (r : Nat) : Nat → Option Nat := fun p => if r < p ∧ p ≤ x.1 then x.2.1 (p - 1) else x.2.1 p
theorem oR_n (x : kX) : oR x x.1 = x.2.1 := by
  funext p
  unfold oR
  rw [if_neg (by omega)]
theorem oR_at (x : kX) (r : Nat) : oR x (r + 1) r = x.2.1 r := by
  unfold oR
  rw [if_neg (by omega)]
theorem oR_s (x : kX) {r : Nat} (h : r + 1 ≤ x.1) {o : Option Nat} (ho : x.2.1 r = o) : oR x r = hv_up (oR x (r + 1)) (r + 1) o := by
  funext p
  unfold hv_up
  by_cases e : p = r + 1
  · subst e
    rw [if_pos rfl]
    unfold oR
    rw [if_pos ⟨by omega, h⟩, Nat.add_sub_cancel, ho]
  · rw [if_neg e]
    unfold oR
    by_cases e2 : r < p ∧ p ≤ x.1
    · rw [if_pos e2, if_pos (by omega)]
    · rw [if_neg e2, if_neg (by omega)]
theorem hv_map (o : Nat → Option Nat) (g : Nat → Nat) (j k : Nat) : (fun p => (hv_up o j (some k) p).map g) = hv_up (fun p => (o p).map g) j (some (g k)) := by
  funext p
  unfold hv_up
  split <;> rfl
theorem nI_dec (r : Nat) : nI (r + 1) + (-1) = nI r := by
  rw [← nI_m1 r, Int32.sub_eq_add_neg]
set_option maxHeartbeats 4000000 in
set_option maxRecDepth 100000 in
theorem k_Sea_addInOrder (Y : hY) (l : Launch) {ad : Nat → Nat → Nat} {s : zS} {x : kX} {t : Bool} {f : hw_F} (P : kPic Y ad s x t f) (N : zN s) (n12 : x.1 < 12) {om : Nat → Nat} (hO : ∀ p, p < x.1 → x.2.1 p = some (om p) ∧ om p < z_nD s) {i : Nat} (hi : i < z_nD s) : hM Y l y_Sea_addInOrder S_Sea_addInOrder (none) [.ref (ad 7 0), .ref (ad 15 i)] f (fun q f' => q = none ∧ ∃ r, r ≤ x.1 ∧ (∀ q, q + 1 = r → ¬ z_t s (z_ow s i) < z_t s (z_ow s (om q))) ∧ (∀ q, r ≤ q → q < x.1 → z_t s (z_ow s i) < z_t s (z_ow s (om q))) ∧ kPic Y ad s (x.1 + 1, hv_up (oR x r) r (some i), x.2.2) t f') := by
  refine hM.of (by decide) rfl (Nat.le_of_ble_eq_true rfl) ?_
  intro X hl hnm C E
  show hG Y X S_Sea_addInOrder 0 0 f [(0, .ref (ad 7 0)), (1, .ref (ad 15 i))] [] 0
  have L : ∀ r, r ≤ x.1 → (∀ q, r ≤ q → q < x.1 → z_t s (z_ow s i) < z_t s (z_ow s (om q))) → ∀ f2, kPic Y ad s (x.1, oR x r, x.2.2) t f2 → hG Y X S_Sea_addInOrder 0 0 f2 [(2, .int (nI r)), (0, .ref (ad 7 0)), (1, .ref (ad 15 i))] [] 15 := by
    intro r
    induction r with
    | zero =>
      intro hr hq f2 P2
      refine r_iload_n C d_Sea_addInOrder_15 rfl rfl ?_
      refine r_if_le (tgt := 64) C d_Sea_addInOrder_16 rfl (fun _ => ?_) (fun hz => absurd (show nI 0 ≤ 0 by decide) hz)
      refine r_aload_n C d_Sea_addInOrder_64 rfl rfl ?_
      refine r_get C hq_Sea d_Sea_addInOrder_65 (j := 0) (Nat.le_of_ble_eq_true rfl) mf_Sea_11 (kp_7 P2) rfl ?_
      refine r_iload_n C d_Sea_addInOrder_68 rfl rfl ?_
      refine r_aload_n C d_Sea_addInOrder_69 rfl rfl ?_
      refine r_aast (t0 := 5) C d_Sea_addInOrder_70 (kp_8 P2) rfl (kp_15 P2 hi) rfl rfl (by omega) (by decide) ?_
      refine r_aload_n C d_Sea_addInOrder_71 rfl rfl ?_
      refine r_dup C d_Sea_addInOrder_72 rfl ?_
      refine r_get C hq_Sea d_Sea_addInOrder_73 (j := 2) (Nat.le_of_ble_eq_true rfl) mf_Sea_41 ((hw_un _ (kNe P2 (Or.inl ⟨by decide, rfl⟩) (Or.inl ⟨by decide, rfl⟩) (by decide))).trans (kp_7 P2)) rfl ?_
      refine r_iconst (v := 1) C d_Sea_addInOrder_76 rfl ?_
      refine r_iadd C d_Sea_addInOrder_77 ?_
      rw [nI_1]
      refine r_put C hq_Sea d_Sea_addInOrder_78 (j := 2) (fs' := [_, _, _, _, _, _]) (Nat.le_of_ble_eq_true rfl) mf_Sea_41 rfl rfl rfl rfl ((hw_un _ (kNe P2 (Or.inl ⟨by decide, rfl⟩) (Or.inl ⟨by decide, rfl⟩) (by decide))).trans (kp_7 P2)) (Nat.le_of_ble_eq_true rfl) rfl ?_
      refine r_vret C E rfl d_Sea_addInOrder_81 (Nat.le_of_ble_eq_true rfl) (Nat.le_of_ble_eq_true rfl) ?_
      exact ⟨rfl, 0, hr, (fun q h => absurd h (by omega)), hq, kEnd2 (kPut (kPut P2 (Or.inl ⟨by decide, rfl⟩) _) (Or.inl ⟨by decide, rfl⟩) _) (fun _ _ h => h) (kV_cases rfl rfl rfl rfl rfl rfl rfl rfl (congrArg (eQ (Y.2 5) 12) (hv_map (oR x 0) (ad 15) 0 i)) rfl (fun _ _ => rfl) (fun _ _ => rfl) (fun _ _ => rfl) (fun _ _ => rfl) (fun _ _ => rfl) (fun _ _ => rfl) (fun _ _ => rfl))⟩
    | succ r ih =>
      intro hr hq f2 P2
      have hom := (hO r (by omega)).2
      refine r_iload_n C d_Sea_addInOrder_15 rfl rfl ?_
      refine r_if_le (tgt := 64) C d_Sea_addInOrder_16 rfl (fun hz => absurd hz (nI_nle (by omega) (by omega))) (fun _ => ?_)
      refine r_aload_n C d_Sea_addInOrder_19 rfl rfl ?_
      refine r_get C hq_Sea d_Sea_addInOrder_20 (j := 0) (Nat.le_of_ble_eq_true rfl) mf_Sea_11 (kp_7 P2) rfl ?_
      refine r_iload_n C d_Sea_addInOrder_23 rfl rfl ?_
      refine r_iconst (v := 1) C d_Sea_addInOrder_24 rfl ?_
      refine r_isub C d_Sea_addInOrder_25 ?_
      refine r_aald (t0 := 5) C d_Sea_addInOrder_26 (kp_8 P2) rfl (nI_m1 r) (by omega) (by decide) (show (oR x (r + 1) r).map (ad 15) = some (ad 15 (om r)) by rw [oR_at, (hO r (by omega)).1]; rfl) ?_
      refine r_getN C hq_Bid d_Sea_addInOrder_27 (j := 1) (Nat.le_of_ble_eq_true rfl) mf_Sea_44 (kp_15 P2 (hom)) rfl ?_
      refine r_getN C hq_Bdr d_Sea_addInOrder_30 (j := 3) (Nat.le_of_ble_eq_true rfl) mf_Sea_48 (kp_14 P2 ((N.2.2.2.2.1 _ hom))) rfl ?_
      refine r_aload_n C d_Sea_addInOrder_33 rfl rfl ?_
      refine r_getN C hq_Bid d_Sea_addInOrder_34 (j := 1) (Nat.le_of_ble_eq_true rfl) mf_Sea_44 (kp_15 P2 (hi)) rfl ?_
      refine r_getN C hq_Bdr d_Sea_addInOrder_37 (j := 3) (Nat.le_of_ble_eq_true rfl) mf_Sea_48 (kp_14 P2 ((N.2.2.2.2.1 i hi))) rfl ?_
      refine r_lcmp C d_Sea_addInOrder_40 ?_
      refine r_if_le (tgt := 64) C d_Sea_addInOrder_41 rfl (fun c_41 => ?_) (fun c_41 => ?_)
      · skip
        rw [lg_cmp_le] at c_41
        refine r_aload_n C d_Sea_addInOrder_64 rfl rfl ?_
        refine r_get C hq_Sea d_Sea_addInOrder_65 (j := 0) (Nat.le_of_ble_eq_true rfl) mf_Sea_11 (kp_7 P2) rfl ?_
        refine r_iload_n C d_Sea_addInOrder_68 rfl rfl ?_
        refine r_aload_n C d_Sea_addInOrder_69 rfl rfl ?_
        refine r_aast (t0 := 5) C d_Sea_addInOrder_70 (kp_8 P2) rfl (kp_15 P2 hi) rfl rfl (by omega) (by decide) ?_
        refine r_aload_n C d_Sea_addInOrder_71 rfl rfl ?_
        refine r_dup C d_Sea_addInOrder_72 rfl ?_
        refine r_get C hq_Sea d_Sea_addInOrder_73 (j := 2) (Nat.le_of_ble_eq_true rfl) mf_Sea_41 ((hw_un _ (kNe P2 (Or.inl ⟨by decide, rfl⟩) (Or.inl ⟨by decide, rfl⟩) (by decide))).trans (kp_7 P2)) rfl ?_
        refine r_iconst (v := 1) C d_Sea_addInOrder_76 rfl ?_
        refine r_iadd C d_Sea_addInOrder_77 ?_
        rw [nI_1]
        refine r_put C hq_Sea d_Sea_addInOrder_78 (j := 2) (fs' := [_, _, _, _, _, _]) (Nat.le_of_ble_eq_true rfl) mf_Sea_41 rfl rfl rfl rfl ((hw_un _ (kNe P2 (Or.inl ⟨by decide, rfl⟩) (Or.inl ⟨by decide, rfl⟩) (by decide))).trans (kp_7 P2)) (Nat.le_of_ble_eq_true rfl) rfl ?_
        refine r_vret C E rfl d_Sea_addInOrder_81 (Nat.le_of_ble_eq_true rfl) (Nat.le_of_ble_eq_true rfl) ?_
        exact ⟨rfl, (r + 1), hr, (fun q h => by rw [show q = r by omega]; exact Int64.not_lt.mpr c_41), hq, kEnd2 (kPut (kPut P2 (Or.inl ⟨by decide, rfl⟩) _) (Or.inl ⟨by decide, rfl⟩) _) (fun _ _ h => h) (kV_cases rfl rfl rfl rfl rfl rfl rfl rfl (congrArg (eQ (Y.2 5) 12) (hv_map (oR x (r + 1)) (ad 15) (r + 1) i)) rfl (fun _ _ => rfl) (fun _ _ => rfl) (fun _ _ => rfl) (fun _ _ => rfl) (fun _ _ => rfl) (fun _ _ => rfl) (fun _ _ => rfl))⟩
      · skip
        rw [lg_cmp_le, Int64.not_le] at c_41
        refine r_aload_n C d_Sea_addInOrder_44 rfl rfl ?_
        refine r_get C hq_Sea d_Sea_addInOrder_45 (j := 0) (Nat.le_of_ble_eq_true rfl) mf_Sea_11 (kp_7 P2) rfl ?_
        refine r_iload_n C d_Sea_addInOrder_48 rfl rfl ?_
        refine r_aload_n C d_Sea_addInOrder_49 rfl rfl ?_
        refine r_get C hq_Sea d_Sea_addInOrder_50 (j := 0) (Nat.le_of_ble_eq_true rfl) mf_Sea_11 (kp_7 P2) rfl ?_
        refine r_iload_n C d_Sea_addInOrder_53 rfl rfl ?_
        refine r_iconst (v := 1) C d_Sea_addInOrder_54 rfl ?_
        refine r_isub C d_Sea_addInOrder_55 ?_
        refine r_aald (t0 := 5) C d_Sea_addInOrder_56 (kp_8 P2) rfl (nI_m1 r) (by omega) (by decide) (show (oR x (r + 1) r).map (ad 15) = some (ad 15 (om r)) by rw [oR_at, (hO r (by omega)).1]; rfl) ?_
        refine r_aast (t0 := 5) C d_Sea_addInOrder_57 (kp_8 P2) rfl (kp_15 P2 hom) rfl rfl (by omega) (by decide) ?_
        refine r_iinc (v := nI r) (lv' := [(2, _), (0, _), (1, _)]) C d_Sea_addInOrder_58 rfl (nI_dec r) (Nat.le_of_ble_eq_true rfl) rfl ?_
        refine r_goto (tgt := 15) C d_Sea_addInOrder_61 rfl ?_
        refine r_sub [0, 1, 2] rfl ?_
        refine ih (by omega) (fun q h1 h2 => ?_) _ ?_
        · rcases Nat.lt_or_ge r q with c | c
          · exact hq q c h2
          · obtain rfl : q = r := by omega
            exact c_41
        · rw [oR_s x (by omega) (hO r (by omega)).1]
          exact kEnd2 (kPut P2 (Or.inl ⟨by decide, rfl⟩) _) (fun _ _ h => h) (kV_cases rfl rfl rfl rfl rfl rfl rfl rfl (congrArg (eQ (Y.2 5) 12) (hv_map (oR x (r + 1)) (ad 15) (r + 1) (om r))) rfl (fun _ _ => rfl) (fun _ _ => rfl) (fun _ _ => rfl) (fun _ _ => rfl) (fun _ _ => rfl) (fun _ _ => rfl) (fun _ _ => rfl))
  refine r_aload_n C d_Sea_addInOrder_0 rfl rfl ?_
  refine r_get C hq_Sea d_Sea_addInOrder_1 (j := 2) (Nat.le_of_ble_eq_true rfl) mf_Sea_41 (kp_7 P) rfl ?_
  refine r_bipush (v := 12) C d_Sea_addInOrder_4 rfl ?_
  refine r_icmp_lt (tgt := 10) C d_Sea_addInOrder_6 rfl (fun _ => ?_) (fun hz => absurd (show nI x.1 < nI 12 from nI_lt n12 (by decide)) hz)
  refine r_aload_n C d_Sea_addInOrder_10 rfl rfl ?_
  refine r_get C hq_Sea d_Sea_addInOrder_11 (j := 2) (Nat.le_of_ble_eq_true rfl) mf_Sea_41 (kp_7 P) rfl ?_
  refine r_istore_n (lv' := [(2, _), (0, _), (1, _)]) C d_Sea_addInOrder_14 rfl (Nat.le_of_ble_eq_true rfl) rfl ?_
  exact L x.1 (Nat.le_refl _) (fun q h1 h2 => absurd h2 (by omega)) f (by rw [oR_n]; exact P)

