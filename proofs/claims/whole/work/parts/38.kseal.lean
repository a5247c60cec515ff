set_option maxHeartbeats 4000000 in
set_option maxRecDepth 100000 in
theorem k_BT_digest (Y : hY) (l : Launch) {ad : Nat → Nat → Nat} {s : zS} {x : kX} {t : Bool} {f : hw_F} (P : kPic Y ad s x t f) (N : zN s) (y : Int32) (v : Int64) (w : Int32) : hM Y l y_BT_digest S_BT_digest (some .int) [.ref (ad 0 0), .int y, .long v, .int w] f (fun r f' => r = some (.int (za_digest s y v w)) ∧ f' = f) := by
  refine hM.of (by decide) rfl (Nat.le_of_ble_eq_true rfl) ?_
  intro X hl hnm C E
  show hG Y X S_BT_digest 0 0 f [(0, .ref (ad 0 0)), (1, .int y), (2, .long v), (4, .int w)] [] 0
  refine r_aload_n C d_BT_digest_0 rfl rfl ?_
  refine r_iload_n C d_BT_digest_1 rfl rfl ?_
  refine r_callV C (k_BT_bidderAt Y _ P N _) mQ_BT_bidderAt d_BT_digest_2 ml_BT_127 mi_BT_bidderAt mv_BT_bidderAt (kp_0 P) rfl rfl rfl rfl (Nat.le_of_ble_eq_true rfl) ⟨⟨Nat.le_of_ble_eq_true rfl, Nat.le_of_ble_eq_true rfl⟩, Nat.le_of_ble_eq_true rfl, Nat.le_of_ble_eq_true rfl⟩ (fun v f' hp => ?_)
  obtain ⟨rfl, hf⟩ := hp
  replace hf := hf.symm
  subst hf
  rcases z_at_case y (n := z_nB s) (by have := N.2.1; omega) with ⟨hz, -⟩ | ⟨i, hi, rfl, hz⟩
  · rw [hz]
    refine r_astoreN (lv' := [(5, _), (0, _), (1, _), (2, _), (4, _)]) C d_BT_digest_5 (Nat.le_of_ble_eq_true rfl) rfl ?_
    refine r_aloadN C d_BT_digest_7 rfl ?_
    refine r_ifnullN (tgt := 20) C d_BT_digest_9 rfl ?_
    refine r_iconst (v := (-1)) C d_BT_digest_20 rfl ?_
    refine r_iret C E rfl d_BT_digest_21 (Nat.le_of_ble_eq_true rfl) (Nat.le_of_ble_eq_true rfl) ?_
    exact ⟨by simp [za_digest, hz], rfl⟩
  · rw [hz]
    refine r_astore (lv' := [(5, _), (0, _), (1, _), (2, _), (4, _)]) C d_BT_digest_5 (Nat.le_of_ble_eq_true rfl) rfl ?_
    refine r_aload C d_BT_digest_7 rfl ?_
    refine r_ifnull C d_BT_digest_9 ?_
    refine r_iload C d_BT_digest_12 rfl ?_
    refine r_callS C (k_BT_isSealByte Y _ _ _) mQ_BT_isSealByte d_BT_digest_14 ml_BT_111 mt_BT_isSealByte rfl rfl (Nat.le_of_ble_eq_true rfl) ⟨⟨Nat.le_of_ble_eq_true rfl, Nat.le_of_ble_eq_true rfl⟩, Nat.le_of_ble_eq_true rfl, Nat.le_of_ble_eq_true rfl⟩ (fun v f' hp => ?_)
    obtain ⟨rfl, hf⟩ := hp
    replace hf := hf.symm
    subst hf
    refine r_if_ne (tgt := 22) C d_BT_digest_17 rfl (fun c_17 => ?_) (fun c_17 => ?_)
    · skip
      rw [bI_n0, seal_ix] at c_17
      obtain ⟨j, hj⟩ : ∃ j, z_at w 8 = some j := Option.isSome_iff_exists.mp c_17
      obtain ⟨hj8, rfl⟩ := z_at_some (by decide) hj
      refine r_aload_n C d_BT_digest_22 rfl rfl ?_
      refine r_aload C d_BT_digest_23 rfl ?_
      refine r_lload_n C d_BT_digest_25 rfl rfl ?_
      refine r_callV C (k_BT_digestOf Y _ P N hi _) mQ_BT_digestOf d_BT_digest_26 ml_BT_130 mi_BT_digestOf mv_BT_digestOf (kp_0 P) rfl rfl rfl rfl (Nat.le_of_ble_eq_true rfl) ⟨⟨Nat.le_of_ble_eq_true rfl, Nat.le_of_ble_eq_true rfl⟩, Nat.le_of_ble_eq_true rfl, Nat.le_of_ble_eq_true rfl⟩ (fun v f' hp => ?_)
      obtain ⟨rfl, hf⟩ := hp
      replace hf := hf.symm
      subst hf
      refine r_iload C d_BT_digest_29 rfl ?_
      refine r_callS C (k_BT_shiftOfByte Y _ _ _) mQ_BT_shiftOfByte d_BT_digest_31 ml_BT_134 mt_BT_shiftOfByte rfl rfl (Nat.le_of_ble_eq_true rfl) ⟨⟨Nat.le_of_ble_eq_true rfl, Nat.le_of_ble_eq_true rfl⟩, Nat.le_of_ble_eq_true rfl, Nat.le_of_ble_eq_true rfl⟩ (fun v f' hp => ?_)
      obtain ⟨rfl, hf⟩ := hp
      replace hf := hf.symm
      subst hf
      refine r_lushr C d_BT_digest_34 ?_
      refine r_l2i C d_BT_digest_35 ?_
      refine r_sipush (v := 255) C d_BT_digest_36 rfl ?_
      refine r_iand C d_BT_digest_39 ?_
      refine r_iret C E rfl d_BT_digest_40 (Nat.le_of_ble_eq_true rfl) (Nat.le_of_ble_eq_true rfl) ?_
      refine ⟨?_, rfl⟩
      rw [show za_digest s (nI i) v (nI j) = zd_by s i v j by simp [za_digest, hz, hj]]
      unfold zd_by
      rw [(z_sh8 j hj8).2, ← (z_sh8 j hj8).1]
      exact congrArg (fun q => some (Value.int q)) (z_and255 _)
    · skip
      rw [bI_0, seal_ix] at c_17
      have hj : z_at w 8 = none := by cases h : z_at w 8 with
        | none => rfl
        | some j => rw [h] at c_17; cases c_17
      refine r_iconst (v := (-1)) C d_BT_digest_20 rfl ?_
      refine r_iret C E rfl d_BT_digest_21 (Nat.le_of_ble_eq_true rfl) (Nat.le_of_ble_eq_true rfl) ?_
      exact ⟨by simp [za_digest, hz, hj], rfl⟩

set_option maxHeartbeats 4000000 in
set_option maxRecDepth 100000 in
theorem k_BT_open (Y : hY) (l : Launch) {ad : Nat → Nat → Nat} {s : zS} {x : kX} {t : Bool} {f : hw_F} (P : kPic Y ad s x t f) (N : zN s) (T : kT s t) (B : ∀ q, ∃ b, b < 256 ∧ z_sb s q = nI b) (y : Int32) (v : Int64) : hM Y l y_BT_open S_BT_open (some .int) [.ref (ad 0 0), .int y, .long v] f (fun r f' => r = some (.int ((za_open s y v).1)) ∧ kOut Y (ad 0 0) (za_open s y v).2 x f') := by
  refine hM.of (by decide) rfl (Nat.le_of_ble_eq_true rfl) ?_
  intro X hl hnm C E
  show hG Y X S_BT_open 0 0 f [(0, .ref (ad 0 0)), (1, .int y), (2, .long v)] [] 0
  have N2 : ∀ i, zN (zu_open s i) := fun i => N
  refine r_aload_n C d_BT_open_0 rfl rfl ?_
  refine r_iload_n C d_BT_open_1 rfl rfl ?_
  refine r_callV C (k_BT_unopenedAt Y _ P N _) mQ_BT_unopenedAt d_BT_open_2 ml_BT_68 mi_BT_unopenedAt mv_BT_unopenedAt (kp_0 P) rfl rfl rfl rfl (Nat.le_of_ble_eq_true rfl) ⟨⟨Nat.le_of_ble_eq_true rfl, Nat.le_of_ble_eq_true rfl⟩, Nat.le_of_ble_eq_true rfl, Nat.le_of_ble_eq_true rfl⟩ (fun v f' hp => ?_)
  obtain ⟨rfl, hf⟩ := hp
  replace hf := hf.symm
  subst hf
  rcases unop_case N y with hz | ⟨i, hi, rfl, hz, ho⟩
  · rw [hz]
    refine r_astoreN (lv' := [(4, _), (0, _), (1, _), (2, _)]) C d_BT_open_5 (Nat.le_of_ble_eq_true rfl) rfl ?_
    refine r_aloadN C d_BT_open_7 rfl ?_
    refine r_ifnullN (tgt := 38) C d_BT_open_9 rfl ?_
    refine r_iconst (v := (-1)) C d_BT_open_38 rfl ?_
    refine r_iret C E rfl d_BT_open_39 (Nat.le_of_ble_eq_true rfl) (Nat.le_of_ble_eq_true rfl) ?_
    have hq : za_open s y v = (-1, s) := by simp [za_open, hz]
    rw [hq]
    exact ⟨rfl, ad, t, rfl, P, T⟩
  · rw [hz]
    refine r_astore (lv' := [(4, _), (0, _), (1, _), (2, _)]) C d_BT_open_5 (Nat.le_of_ble_eq_true rfl) rfl ?_
    refine r_aload C d_BT_open_7 rfl ?_
    refine r_ifnull C d_BT_open_9 ?_
    refine r_aload C d_BT_open_12 rfl ?_
    refine r_callV C (k_Bdr_sealBytesTold Y _ _ _ _ _ _ _ _ _ _ (kp_14 P hi)) mQ_Bdr_sealBytesTold d_BT_open_14 ml_BT_123 mi_Bdr_sealBytesTold mv_Bdr_sealBytesTold (kp_14 P hi) rfl rfl rfl rfl (Nat.le_of_ble_eq_true rfl) ⟨⟨Nat.le_of_ble_eq_true rfl, Nat.le_of_ble_eq_true rfl⟩, Nat.le_of_ble_eq_true rfl, Nat.le_of_ble_eq_true rfl⟩ (fun v f' hp => ?_)
    obtain ⟨rfl, hf⟩ := hp
    replace hf := hf.symm
    subst hf
    refine r_bipush (v := 8) C d_BT_open_17 rfl ?_
    refine r_icmp_lt (tgt := 38) C d_BT_open_19 rfl (fun c_19 => ?_) (fun c_19 => ?_)
    · skip
      rw [k_bc_m (by decide)] at c_19
      have c19 : z_told s i ≠ 8 := fun h => by unfold z_told at h; rw [h] at c_19; exact absurd c_19 (by decide)
      have hq : za_open s (nI i) v = (-1, s) := by simp [za_open, hz, c19]
      refine r_iconst (v := (-1)) C d_BT_open_38 rfl ?_
      refine r_iret C E rfl d_BT_open_39 (Nat.le_of_ble_eq_true rfl) (Nat.le_of_ble_eq_true rfl) ?_
      rw [hq]
      exact ⟨rfl, ad, t, rfl, P, T⟩
    · skip
      rw [k_bc_m (by decide)] at c_19
      have c19 : z_told s i = 8 := by
        have h9 := zc_le (fun j => z_sd s (8 * i + j)) 8
        rcases Nat.lt_or_ge (z_told s i) 8 with h | h
        · exact absurd (nI_lt (b := 8) h (by decide)) c_19
        · unfold z_told at *; omega
      refine r_aload C d_BT_open_22 rfl ?_
      refine r_getN C hq_Bdr d_BT_open_24 (j := 5) (Nat.le_of_ble_eq_true rfl) mf_BT_138 (kp_14 P (hi)) rfl ?_
      refine r_aload_n C d_BT_open_27 rfl rfl ?_
      refine r_aload C d_BT_open_28 rfl ?_
      refine r_lload_n C d_BT_open_30 rfl rfl ?_
      refine r_callV C (k_BT_digestOf Y _ P N hi _) mQ_BT_digestOf d_BT_open_31 ml_BT_130 mi_BT_digestOf mv_BT_digestOf (kp_0 P) rfl rfl rfl rfl (Nat.le_of_ble_eq_true rfl) ⟨⟨Nat.le_of_ble_eq_true rfl, Nat.le_of_ble_eq_true rfl⟩, Nat.le_of_ble_eq_true rfl, Nat.le_of_ble_eq_true rfl⟩ (fun v f' hp => ?_)
      obtain ⟨rfl, hf⟩ := hp
      replace hf := hf.symm
      subst hf
      refine r_lcmp C d_BT_open_34 ?_
      refine r_if_eq (tgt := 40) C d_BT_open_35 rfl (fun c_35 => ?_) (fun c_35 => ?_)
      · skip
        rw [lg_cmp_eq, open_eq v c19 B] at c_35
        have hq : za_open s (nI i) v = (nI (zc_cnt (fun k => decide (z_ow s k = i)) (z_nD s)), zu_open s i) := by
          simp only [za_open, hz]
          exact if_pos ⟨c19, c_35⟩
        refine r_aload C d_BT_open_40 rfl ?_
        refine r_iconst (v := 1) C d_BT_open_42 rfl ?_
        refine r_putN C hq_Bdr d_BT_open_43 (j := 2) (fs' := [_, _, _, _, _, _, _]) (Nat.le_of_ble_eq_true rfl) mf_BT_101 rfl rfl rfl rfl (kp_14 P (hi)) (Nat.le_of_ble_eq_true rfl) rfl ?_
        refine r_aload_n C d_BT_open_46 rfl rfl ?_
        refine r_iconst (v := 1) C d_BT_open_47 rfl ?_
        refine r_put C hq_BT d_BT_open_48 (j := 11) (fs' := [_, _, _, _, _, _, _, _, _, _, _, _]) (Nat.le_of_ble_eq_true rfl) mf_BT_58 rfl rfl rfl rfl ((hw_un _ (kNe P (Or.inl ⟨by decide, rfl⟩) (Or.inr (Or.inr (Or.inl ⟨rfl, hi⟩))) (by decide))).trans (kp_0 P)) (Nat.le_of_ble_eq_true rfl) rfl ?_
        refine r_nw (kPic Y ad (zu_open s i) x true) (kEnd2 (kPut (kPut P (Or.inr (Or.inr (Or.inl ⟨rfl, hi⟩))) _) (Or.inl ⟨by decide, rfl⟩) _) (fun _ _ h => h) (kV_cases rfl rfl rfl rfl rfl rfl rfl rfl rfl rfl (fun _ _ => rfl) (fun _ _ => rfl) (fun _ _ => rfl) (fun _ _ => rfl) (fun j hj => by
          by_cases h : j = i
          · subst h
            rw [ov_k _ (by decide), ov_s]
            show (Sum.inr (2, [_, _, Value.int (bI (hv_up (z_o s) _ true j)), _, _, _, _]) : va_E) = _
            rw [hv_us]
            rfl
          · rw [ov_k _ (by decide), ov_i _ h]
            show (Sum.inr (2, [_, _, Value.int (bI (hv_up (z_o s) _ true j)), _, _, _, _]) : va_E) = _
            rw [hv_un _ h]
            rfl) (fun _ _ => rfl) (fun _ _ => rfl))) (fun f2 P2 => ?_)
        refine r_aload_n C d_BT_open_51 rfl rfl ?_
        refine r_aload C d_BT_open_52 rfl ?_
        refine r_callV C (k_BT_bidsOf Y _ P2 (N2 i) (i := i) hi) mQ_BT_bidsOf d_BT_open_54 ml_BT_141 mi_BT_bidsOf mv_BT_bidsOf (kp_0 P2) rfl rfl rfl rfl (Nat.le_of_ble_eq_true rfl) ⟨⟨Nat.le_of_ble_eq_true rfl, Nat.le_of_ble_eq_true rfl⟩, Nat.le_of_ble_eq_true rfl, Nat.le_of_ble_eq_true rfl⟩ (fun v f' hp => ?_)
        obtain ⟨rfl, hf⟩ := hp
        replace hf := hf.symm
        subst hf
        refine r_iret C E rfl d_BT_open_57 (Nat.le_of_ble_eq_true rfl) (Nat.le_of_ble_eq_true rfl) ?_
        rw [hq]
        exact ⟨rfl, ad, true, rfl, P2, kT_t _ rfl⟩
      · skip
        rw [lg_cmp_eq, open_eq v c19 B] at c_35
        have hq : za_open s (nI i) v = (-1, s) := by
          simp only [za_open, hz]
          exact if_neg (fun h => c_35 h.2)
        refine r_iconst (v := (-1)) C d_BT_open_38 rfl ?_
        refine r_iret C E rfl d_BT_open_39 (Nat.le_of_ble_eq_true rfl) (Nat.le_of_ble_eq_true rfl) ?_
        rw [hq]
        exact ⟨rfl, ad, t, rfl, P, T⟩

theorem hv_ne8 {i j q e : Nat} (hj : j < 8) (he : e < 8) (h : q ≠ i ∨ e ≠ j) : 8 * q + e ≠ 8 * i + j := by omega
theorem zb_by_eq {s : zS} {i j q e : Nat} {b : Int32} (hj : j < 8) (he : e < 8) (h : q ≠ i ∨ e ≠ j) : zb_by (zu_seal s i j b) q e = zb_by s q e := by
  unfold zb_by
  rw [show z_sd (zu_seal s i j b) (8 * q + e) = z_sd s (8 * q + e) from hv_un _ (hv_ne8 hj he h), show z_sb (zu_seal s i j b) (8 * q + e) = z_sb s (8 * q + e) from hv_un _ (hv_ne8 hj he h)]
theorem zb_or_ne {s : zS} {i j q : Nat} {b : Int32} (hj : j < 8) (h : q ≠ i) : zb_or (zu_seal s i j b) q 8 = zb_or s q 8 := by
  have : ∀ n, n ≤ 8 → zb_or (zu_seal s i j b) q n = zb_or s q n := by
    intro n
    induction n with
    | zero => intro _; rfl
    | succ n ih =>
      intro hn
      show zb_or _ q n ||| zb_by _ q n = zb_or s q n ||| zb_by s q n
      rw [ih (by omega), zb_by_eq hj (by omega) (Or.inl h)]
  exact this 8 (Nat.le_refl 8)
theorem zb_or_set {s : zS} {i j : Nat} {b : Int32} (hj : j < 8) (h0 : z_sd s (8 * i + j) = false) : zb_or (zu_seal s i j b) i 8 = zb_or s i 8 ||| (b.toInt64 <<< ((8 * (7 - nI j)).toInt64 &&& 63)) := by
  have hb : zb_by (zu_seal s i j b) i j = b.toInt64 <<< ((8 * (7 - nI j)).toInt64 &&& 63) := by
    unfold zb_by
    rw [show z_sd (zu_seal s i j b) (8 * i + j) = true from hv_us _ _ _, show z_sb (zu_seal s i j b) (8 * i + j) = b from hv_us _ _ _]
    rfl
  have hb0 : zb_by s i j = 0 := by
    unfold zb_by
    rw [h0]
    rfl
  have : ∀ n, n ≤ 8 → zb_or (zu_seal s i j b) i n = if j < n then zb_or s i n ||| (b.toInt64 <<< ((8 * (7 - nI j)).toInt64 &&& 63)) else zb_or s i n := by
    intro n
    induction n with
    | zero => intro _; rfl
    | succ n ih =>
      intro hn
      show zb_or _ i n ||| zb_by _ i n = _
      rw [ih (by omega)]
      show _ = if j < n + 1 then (zb_or s i n ||| zb_by s i n) ||| _ else zb_or s i n ||| zb_by s i n
      by_cases h : n = j
      · subst h
        rw [if_neg (Nat.lt_irrefl n), if_pos (Nat.lt_succ_self n), hb, hb0]
        simp
      · rw [zb_by_eq hj (by omega) (Or.inr h)]
        by_cases h2 : j < n
        · rw [if_pos h2, if_pos (by omega)]
          rw [Int64.or_assoc, Int64.or_assoc, Int64.or_comm (zb_by s i n)]
        · rw [if_neg h2, if_neg (by omega)]
  rw [this 8 (Nat.le_refl 8), if_pos hj]
theorem zb_sd_set {s : zS} {i j : Nat} {b : Int32} (hj : j < 8) : nI (zb_m (fun e => z_sd (zu_seal s i j b) (8 * i + e)) 8) = nI (zb_m (fun e => z_sd s (8 * i + e)) 8) ||| ((1 : Int32) <<< (nI j &&& 31)) := by
  rw [zb_set hj (by decide)]
  congr 2
  funext e
  unfold hv_up
  by_cases h : e = j
  · subst h; rw [if_pos rfl]; exact hv_us _ _ _
  · rw [if_neg h]; exact hv_un _ (by omega)
theorem zb_cg {p q : Nat → Bool} : ∀ {n : Nat}, (∀ k, k < n → p k = q k) → zb_m p n = zb_m q n
  | 0, _ => rfl
  | n + 1, h => by
    unfold zb_m
    rw [zb_cg (fun k hk => h k (Nat.lt_succ_of_lt hk)), h n (Nat.lt_succ_self n)]
theorem zb_sd_ne {s : zS} {i j q : Nat} {b : Int32} (hj : j < 8) (h : q ≠ i) : zb_m (fun e => z_sd (zu_seal s i j b) (8 * q + e)) 8 = zb_m (fun e => z_sd s (8 * q + e)) 8 := zb_cg (fun e he => hv_un _ (by omega))
set_option maxHeartbeats 4000000 in
set_option maxRecDepth 100000 in
theorem k_BT_seal (Y : hY) (l : Launch) {ad : Nat → Nat → Nat} {s : zS} {x : kX} {t : Bool} {f : hw_F} (P : kPic Y ad s x t f) (N : zN s) (T : kT s t) (y w b : Int32) : hM Y l y_BT_seal S_BT_seal (some .int) [.ref (ad 0 0), .int y, .int w, .int b] f (fun r f' => r = some (.int ((za_seal s y w b).1)) ∧ kOut Y (ad 0 0) (za_seal s y w b).2 x f') := by
  refine hM.of (by decide) rfl (Nat.le_of_ble_eq_true rfl) ?_
  intro X hl hnm C E
  show hG Y X S_BT_seal 0 0 f [(0, .ref (ad 0 0)), (1, .int y), (2, .int w), (3, .int b)] [] 0
  refine r_aload_n C d_BT_seal_0 rfl rfl ?_
  refine r_iload_n C d_BT_seal_1 rfl rfl ?_
  refine r_callV C (k_BT_unopenedAt Y _ P N _) mQ_BT_unopenedAt d_BT_seal_2 ml_BT_68 mi_BT_unopenedAt mv_BT_unopenedAt (kp_0 P) rfl rfl rfl rfl (Nat.le_of_ble_eq_true rfl) ⟨⟨Nat.le_of_ble_eq_true rfl, Nat.le_of_ble_eq_true rfl⟩, Nat.le_of_ble_eq_true rfl, Nat.le_of_ble_eq_true rfl⟩ (fun v f' hp => ?_)
  obtain ⟨rfl, hf⟩ := hp
  replace hf := hf.symm
  subst hf
  rcases unop_case N y with hz | ⟨i, hi, rfl, hz, ho⟩
  · rw [hz]
    refine r_astoreN (lv' := [(4, _), (0, _), (1, _), (2, _), (3, _)]) C d_BT_seal_5 (Nat.le_of_ble_eq_true rfl) rfl ?_
    refine r_aloadN C d_BT_seal_7 rfl ?_
    refine r_ifnullN (tgt := 40) C d_BT_seal_9 rfl ?_
    refine r_iconst (v := (-1)) C d_BT_seal_40 rfl ?_
    refine r_iret C E rfl d_BT_seal_41 (Nat.le_of_ble_eq_true rfl) (Nat.le_of_ble_eq_true rfl) ?_
    have hq : za_seal s y w b = (-1, s) := by simp [za_seal, hz]
    rw [hq]
    exact ⟨rfl, ad, t, rfl, P, T⟩
  · rw [hz]
    refine r_astore (lv' := [(4, _), (0, _), (1, _), (2, _), (3, _)]) C d_BT_seal_5 (Nat.le_of_ble_eq_true rfl) rfl ?_
    refine r_aload C d_BT_seal_7 rfl ?_
    refine r_ifnull C d_BT_seal_9 ?_
    refine r_iload_n C d_BT_seal_12 rfl rfl ?_
    refine r_callS C (k_BT_isSealByte Y _ _ _) mQ_BT_isSealByte d_BT_seal_13 ml_BT_111 mt_BT_isSealByte rfl rfl (Nat.le_of_ble_eq_true rfl) ⟨⟨Nat.le_of_ble_eq_true rfl, Nat.le_of_ble_eq_true rfl⟩, Nat.le_of_ble_eq_true rfl, Nat.le_of_ble_eq_true rfl⟩ (fun v f' hp => ?_)
    obtain ⟨rfl, hf⟩ := hp
    replace hf := hf.symm
    subst hf
    refine r_if_eq (tgt := 40) C d_BT_seal_16 rfl (fun c_16 => ?_) (fun c_16 => ?_)
    · skip
      rw [bI_0, seal_ix] at c_16
      have hj : z_at w 8 = none := by cases h : z_at w 8 with
        | none => rfl
        | some j => rw [h] at c_16; cases c_16
      have hq : za_seal s (nI i) w b = (-1, s) := by simp [za_seal, hz, hj]
      refine r_iconst (v := (-1)) C d_BT_seal_40 rfl ?_
      refine r_iret C E rfl d_BT_seal_41 (Nat.le_of_ble_eq_true rfl) (Nat.le_of_ble_eq_true rfl) ?_
      rw [hq]
      exact ⟨rfl, ad, t, rfl, P, T⟩
    · skip
      rw [bI_n0, seal_ix] at c_16
      obtain ⟨j, hj⟩ : ∃ j, z_at w 8 = some j := Option.isSome_iff_exists.mp c_16
      obtain ⟨hj8, rfl⟩ := z_at_some (by decide) hj
      refine r_iload_n C d_BT_seal_19 rfl rfl ?_
      refine r_i2l C d_BT_seal_20 ?_
      refine r_lconst (v := 0) C d_BT_seal_21 rfl ?_
      refine r_ldc2 C d_BT_seal_22 mn_BT_114 ?_
      refine r_callS C (k_BT_within Y _ _ _ _ _) mQ_BT_within d_BT_seal_25 ml_BT_53 mt_BT_within rfl rfl (Nat.le_of_ble_eq_true rfl) ⟨⟨Nat.le_of_ble_eq_true rfl, Nat.le_of_ble_eq_true rfl⟩, Nat.le_of_ble_eq_true rfl, Nat.le_of_ble_eq_true rfl⟩ (fun v f' hp => ?_)
      obtain ⟨rfl, hf⟩ := hp
      replace hf := hf.symm
      subst hf
      refine r_if_eq (tgt := 40) C d_BT_seal_28 rfl (fun c_28 => ?_) (fun c_28 => ?_)
      · skip
        rw [bI_0] at c_28
        have hq : za_seal s (nI i) (nI j) b = (-1, s) := by simp [za_seal, hz, hj, c_28]
        refine r_iconst (v := (-1)) C d_BT_seal_40 rfl ?_
        refine r_iret C E rfl d_BT_seal_41 (Nat.le_of_ble_eq_true rfl) (Nat.le_of_ble_eq_true rfl) ?_
        rw [hq]
        exact ⟨rfl, ad, t, rfl, P, T⟩
      · skip
        rw [bI_n0] at c_28
        refine r_aload C d_BT_seal_31 rfl ?_
        refine r_iload_n C d_BT_seal_33 rfl rfl ?_
        refine r_callV C (k_Bdr_toldSealByte Y _ _ _ _ _ _ _ _ _ _ (kp_14 P hi) _) mQ_Bdr_toldSealByte d_BT_seal_34 ml_BT_116 mi_Bdr_toldSealByte mv_Bdr_toldSealByte (kp_14 P hi) rfl rfl rfl rfl (Nat.le_of_ble_eq_true rfl) ⟨⟨Nat.le_of_ble_eq_true rfl, Nat.le_of_ble_eq_true rfl⟩, Nat.le_of_ble_eq_true rfl, Nat.le_of_ble_eq_true rfl⟩ (fun v f' hp => ?_)
        obtain ⟨rfl, hf⟩ := hp
        replace hf := hf.symm
        subst hf
        refine r_if_eq (tgt := 42) C d_BT_seal_37 rfl (fun c_37 => ?_) (fun c_37 => ?_)
        · skip
          rw [bI_0, k_bt_m (by decide) hj8] at c_37
          have c37 : z_sd s (8 * i + j) = false := c_37
          have hq : za_seal s (nI i) (nI j) b = (nI (z_told (zu_seal s i j b) i), (zu_seal s i j b)) := by simp [za_seal, hz, hj, c_28, c37]
          refine r_aload C d_BT_seal_42 rfl ?_
          refine r_iload_n C d_BT_seal_44 rfl rfl ?_
          refine r_iload_n C d_BT_seal_45 rfl rfl ?_
          refine r_callV C (k_Bdr_keepSealByte Y _ _ _ _ _ _ _ _ _ _ (kp_14 P hi) _ _) mQ_Bdr_keepSealByte d_BT_seal_46 ml_BT_119 mi_Bdr_keepSealByte mv_Bdr_keepSealByte (kp_14 P hi) rfl rfl rfl rfl (Nat.le_of_ble_eq_true rfl) ⟨⟨Nat.le_of_ble_eq_true rfl, Nat.le_of_ble_eq_true rfl⟩, Nat.le_of_ble_eq_true rfl, Nat.le_of_ble_eq_true rfl⟩ (fun v f' hp => ?_)
          obtain ⟨rfl, rfl⟩ := hp
          refine r_aload_n C d_BT_seal_49 rfl rfl ?_
          refine r_iconst (v := 1) C d_BT_seal_50 rfl ?_
          refine r_put C hq_BT d_BT_seal_51 (j := 11) (fs' := [_, _, _, _, _, _, _, _, _, _, _, _]) (Nat.le_of_ble_eq_true rfl) mf_BT_58 rfl rfl rfl rfl ((hw_un _ (kNe P (Or.inl ⟨by decide, rfl⟩) (Or.inr (Or.inr (Or.inl ⟨rfl, hi⟩))) (by decide))).trans (kp_0 P)) (Nat.le_of_ble_eq_true rfl) rfl ?_
          refine r_nw (kPic Y ad (zu_seal s i j b) x true) (kEnd2 (kPut (kPut P (Or.inr (Or.inr (Or.inl ⟨rfl, hi⟩))) _) (Or.inl ⟨by decide, rfl⟩) _) (fun _ _ h => h) (kV_cases rfl rfl rfl rfl rfl rfl rfl rfl rfl rfl (fun _ _ => rfl) (fun _ _ => rfl) (fun _ _ => rfl) (fun _ _ => rfl) (fun q hq => by
            by_cases h : q = i
            · subst h
              rw [ov_k _ (by decide), ov_s]
              show (Sum.inr (2, [_, _, _, _, _, Value.long (zb_or (zu_seal s q j b) q 8), Value.int (nI (zb_m (fun e => z_sd (zu_seal s q j b) (8 * q + e)) 8))]) : va_E) = _
              rw [zb_or_set hj8 c37, zb_sd_set hj8]
              rfl
            · rw [ov_k _ (by decide), ov_i _ h]
              show (Sum.inr (2, [_, _, _, _, _, Value.long (zb_or (zu_seal s i j b) q 8), Value.int (nI (zb_m (fun e => z_sd (zu_seal s i j b) (8 * q + e)) 8))]) : va_E) = _
              rw [zb_or_ne hj8 h, zb_sd_ne hj8 h]
              rfl) (fun _ _ => rfl) (fun _ _ => rfl))) (fun f2 P2 => ?_)
          refine r_aload C d_BT_seal_54 rfl ?_
          refine r_callV C (k_Bdr_sealBytesTold Y _ _ _ _ _ _ _ _ _ _ (kp_14 P2 (i := i) hi)) mQ_Bdr_sealBytesTold d_BT_seal_56 ml_BT_123 mi_Bdr_sealBytesTold mv_Bdr_sealBytesTold (kp_14 P2 (i := i) hi) rfl rfl rfl rfl (Nat.le_of_ble_eq_true rfl) ⟨⟨Nat.le_of_ble_eq_true rfl, Nat.le_of_ble_eq_true rfl⟩, Nat.le_of_ble_eq_true rfl, Nat.le_of_ble_eq_true rfl⟩ (fun v f' hp => ?_)
          obtain ⟨rfl, hf⟩ := hp
          replace hf := hf.symm
          subst hf
          refine r_iret C E rfl d_BT_seal_59 (Nat.le_of_ble_eq_true rfl) (Nat.le_of_ble_eq_true rfl) ?_
          rw [hq, k_bc_m (by decide)]
          exact ⟨rfl, ad, true, rfl, P2, kT_t _ rfl⟩
        · skip
          rw [bI_n0, k_bt_m (by decide) hj8] at c_37
          have c37 : z_sd s (8 * i + j) = true := c_37
          have hq : za_seal s (nI i) (nI j) b = (-1, s) := by simp [za_seal, hz, hj, c37]
          refine r_iconst (v := (-1)) C d_BT_seal_40 rfl ?_
          refine r_iret C E rfl d_BT_seal_41 (Nat.le_of_ble_eq_true rfl) (Nat.le_of_ble_eq_true rfl) ?_
          rw [hq]
          exact ⟨rfl, ad, t, rfl, P, T⟩

theorem z_ls_set {s : zS} {k l : Nat} (hl : l < 8) : nI (z_ls (zu_on s k l) k) = nI (z_ls s k) ||| ((1 : Int32) <<< (nI l &&& 31)) := by
  unfold z_ls
  rw [zb_set hl (by decide)]
  congr 2
  funext e
  unfold hv_up
  by_cases h : e = l
  · subst h; rw [if_pos rfl]; exact hv_us _ _ _
  · rw [if_neg h]; exact hv_un _ (by omega)
theorem z_ls_ne {s : zS} {k l q : Nat} (hl : l < 8) (h : q ≠ k) : z_ls (zu_on s k l) q = z_ls s q := zb_cg (fun e he => hv_un _ (by omega))
set_option maxHeartbeats 4000000 in
set_option maxRecDepth 100000 in
theorem k_BT_on (Y : hY) (l : Launch) {ad : Nat → Nat → Nat} {s : zS} {x : kX} {t : Bool} {f : hw_F} (P : kPic Y ad s x t f) (N : zN s) (T : kT s t) (y w : Int32) : hM Y l y_BT_on S_BT_on (some .boolean) [.ref (ad 0 0), .int y, .int w] f (fun r f' => r = some (.int (bI (za_on s y w).1)) ∧ kOut Y (ad 0 0) (za_on s y w).2 x f') := by
  refine hM.of (by decide) rfl (Nat.le_of_ble_eq_true rfl) ?_
  intro X hl hnm C E
  show hG Y X S_BT_on 0 0 f [(0, .ref (ad 0 0)), (1, .int y), (2, .int w)] [] 0
  refine r_aload_n C d_BT_on_0 rfl rfl ?_
  refine r_iload_n C d_BT_on_1 rfl rfl ?_
  refine r_callV C (k_BT_bidAt Y _ P N _) mQ_BT_bidAt d_BT_on_2 ml_BT_89 mi_BT_bidAt mv_BT_bidAt (kp_0 P) rfl rfl rfl rfl (Nat.le_of_ble_eq_true rfl) ⟨⟨Nat.le_of_ble_eq_true rfl, Nat.le_of_ble_eq_true rfl⟩, Nat.le_of_ble_eq_true rfl, Nat.le_of_ble_eq_true rfl⟩ (fun v f' hp => ?_)
  obtain ⟨rfl, hf⟩ := hp
  replace hf := hf.symm
  subst hf
  rcases z_at_case y (n := z_nD s) (by have := N.2.2.1; omega) with ⟨hz, -⟩ | ⟨i, hi, rfl, hz⟩
  · rw [hz]
    refine r_astore_nN (lv' := [(3, _), (0, _), (1, _), (2, _)]) C d_BT_on_5 rfl (Nat.le_of_ble_eq_true rfl) rfl ?_
    refine r_aload_nN C d_BT_on_6 rfl rfl ?_
    refine r_ifnullN (tgt := 36) C d_BT_on_7 rfl ?_
    refine r_iconst (v := 0) C d_BT_on_36 rfl ?_
    refine r_zret C E rfl d_BT_on_37 (rfl) (Nat.le_of_ble_eq_true rfl) (Nat.le_of_ble_eq_true rfl) ?_
    have hq : za_on s y w = (false, s) := by simp [za_on, hz]
    rw [hq]
    exact ⟨rfl, ad, t, rfl, P, T⟩
  · rw [hz]
    refine r_astore_n (lv' := [(3, _), (0, _), (1, _), (2, _)]) C d_BT_on_5 rfl (Nat.le_of_ble_eq_true rfl) rfl ?_
    refine r_aload_n C d_BT_on_6 rfl rfl ?_
    refine r_ifnull C d_BT_on_7 ?_
    refine r_aload_n C d_BT_on_10 rfl rfl ?_
    refine r_iload_n C d_BT_on_11 rfl rfl ?_
    refine r_callV C (k_BT_lotAt Y _ P N _) mQ_BT_lotAt d_BT_on_12 ml_BT_93 mi_BT_lotAt mv_BT_lotAt (kp_0 P) rfl rfl rfl rfl (Nat.le_of_ble_eq_true rfl) ⟨⟨Nat.le_of_ble_eq_true rfl, Nat.le_of_ble_eq_true rfl⟩, Nat.le_of_ble_eq_true rfl, Nat.le_of_ble_eq_true rfl⟩ (fun v f' hp => ?_)
    obtain ⟨rfl, hf⟩ := hp
    replace hf := hf.symm
    subst hf
    rcases z_at_case w (n := z_nL s) (by have := N.1; omega) with ⟨hz2, -⟩ | ⟨j, hj, rfl, hz2⟩
    · rw [hz2]
      refine r_ifnullN (tgt := 36) C d_BT_on_15 rfl ?_
      refine r_iconst (v := 0) C d_BT_on_36 rfl ?_
      refine r_zret C E rfl d_BT_on_37 (rfl) (Nat.le_of_ble_eq_true rfl) (Nat.le_of_ble_eq_true rfl) ?_
      have hq : za_on s (nI i) w = (false, s) := by simp [za_on, hz, hz2]
      rw [hq]
      exact ⟨rfl, ad, t, rfl, P, T⟩
    · rw [hz2]
      have hj8 : j < 8 := by have := N.1; omega
      refine r_ifnull C d_BT_on_15 ?_
      refine r_aload_n C d_BT_on_18 rfl rfl ?_
      refine r_getN C hq_Bid d_BT_on_19 (j := 1) (Nat.le_of_ble_eq_true rfl) mf_BT_97 (kp_15 P (hi)) rfl ?_
      refine r_getN C hq_Bdr d_BT_on_22 (j := 2) (Nat.le_of_ble_eq_true rfl) mf_BT_101 (kp_14 P ((N.2.2.2.2.1 i hi))) rfl ?_
      refine r_if_ne (tgt := 36) C d_BT_on_25 rfl (fun c_25 => ?_) (fun c_25 => ?_)
      · skip
        rw [bI_n0] at c_25
        have hq : za_on s (nI i) (nI j) = (false, s) := by simp [za_on, hz, hz2, c_25]
        refine r_iconst (v := 0) C d_BT_on_36 rfl ?_
        refine r_zret C E rfl d_BT_on_37 (rfl) (Nat.le_of_ble_eq_true rfl) (Nat.le_of_ble_eq_true rfl) ?_
        rw [hq]
        exact ⟨rfl, ad, t, rfl, P, T⟩
      · skip
        rw [bI_0] at c_25
        refine r_aload_n C d_BT_on_28 rfl rfl ?_
        refine r_iload_n C d_BT_on_29 rfl rfl ?_
        refine r_callV C (k_Bid_has Y _ _ _ _ _ _ _ (kp_15 P hi) _) mQ_Bid_has d_BT_on_30 ml_BT_104 mi_Bid_has mv_Bid_has (kp_15 P hi) rfl rfl rfl rfl (Nat.le_of_ble_eq_true rfl) ⟨⟨Nat.le_of_ble_eq_true rfl, Nat.le_of_ble_eq_true rfl⟩, Nat.le_of_ble_eq_true rfl, Nat.le_of_ble_eq_true rfl⟩ (fun v f' hp => ?_)
        obtain ⟨rfl, hf⟩ := hp
        replace hf := hf.symm
        subst hf
        refine r_if_eq (tgt := 38) C d_BT_on_33 rfl (fun c_33 => ?_) (fun c_33 => ?_)
        · skip
          rw [bI_0, show z_ls s i = zb_m _ 8 from rfl, k_bt_m (by decide) hj8] at c_33
          have hq : za_on s (nI i) (nI j) = (true, zu_on s i j) := by simp [za_on, hz, hz2, c_25, c_33]
          refine r_aload_n C d_BT_on_38 rfl rfl ?_
          refine r_dup C d_BT_on_39 rfl ?_
          refine r_getN C hq_Bid d_BT_on_40 (j := 3) (Nat.le_of_ble_eq_true rfl) mf_BT_108 (kp_15 P (hi)) rfl ?_
          refine r_iconst (v := 1) C d_BT_on_43 rfl ?_
          refine r_iload_n C d_BT_on_44 rfl rfl ?_
          refine r_ishl C d_BT_on_45 ?_
          refine r_ior C d_BT_on_46 ?_
          refine r_putN C hq_Bid d_BT_on_47 (j := 3) (fs' := [_, _, _, _]) (Nat.le_of_ble_eq_true rfl) mf_BT_108 rfl rfl rfl rfl (kp_15 P (hi)) (Nat.le_of_ble_eq_true rfl) rfl ?_
          refine r_aload_n C d_BT_on_50 rfl rfl ?_
          refine r_iconst (v := 1) C d_BT_on_51 rfl ?_
          refine r_put C hq_BT d_BT_on_52 (j := 11) (fs' := [_, _, _, _, _, _, _, _, _, _, _, _]) (Nat.le_of_ble_eq_true rfl) mf_BT_58 rfl rfl rfl rfl ((hw_un _ (kNe P (Or.inl ⟨by decide, rfl⟩) (Or.inr (Or.inr (Or.inr (Or.inl ⟨rfl, hi⟩)))) (by decide))).trans (kp_0 P)) (Nat.le_of_ble_eq_true rfl) rfl ?_
          refine r_iconst (v := 1) C d_BT_on_55 rfl ?_
          refine r_zret C E rfl d_BT_on_56 (rfl) (Nat.le_of_ble_eq_true rfl) (Nat.le_of_ble_eq_true rfl) ?_
          rw [hq]
          exact ⟨rfl, ad, true, rfl, kEnd2 (kPut (kPut P (Or.inr (Or.inr (Or.inr (Or.inl ⟨rfl, hi⟩)))) _) (Or.inl ⟨by decide, rfl⟩) _) (fun _ _ h => h) (kV_cases rfl rfl rfl rfl rfl rfl rfl rfl rfl rfl (fun _ _ => rfl) (fun _ _ => rfl) (fun _ _ => rfl) (fun _ _ => rfl) (fun _ _ => rfl) (fun q hq => by
            by_cases h : q = i
            · subst h
              rw [ov_k _ (by decide), ov_s]
              show (Sum.inr (3, [_, _, _, Value.int (nI (z_ls (zu_on s q j) q))]) : va_E) = _
              rw [z_ls_set hj8]
              rfl
            · rw [ov_k _ (by decide), ov_i _ h]
              show (Sum.inr (3, [_, _, _, Value.int (nI (z_ls (zu_on s i j) q))]) : va_E) = _
              rw [z_ls_ne hj8 h]
              rfl) (fun _ _ => rfl)), kT_t _ rfl⟩
        · skip
          rw [bI_n0, show z_ls s i = zb_m _ 8 from rfl, k_bt_m (by decide) hj8] at c_33
          have hq : za_on s (nI i) (nI j) = (false, s) := by simp [za_on, hz, hz2, c_33]
          refine r_iconst (v := 0) C d_BT_on_36 rfl ?_
          refine r_zret C E rfl d_BT_on_37 (rfl) (Nat.le_of_ble_eq_true rfl) (Nat.le_of_ble_eq_true rfl) ?_
          rw [hq]
          exact ⟨rfl, ad, t, rfl, P, T⟩

