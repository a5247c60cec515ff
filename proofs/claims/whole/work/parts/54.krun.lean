theorem kPic_eq {Y : hY} {ad : Nat → Nat → Nat} {s s' : zS} {x : kX} {t : Bool} {f : hw_F} (h1 : s'.1 = s.1) (h2 : s'.2.2.1 = s.2.2.1) (h3 : s'.2.2.2.1 = s.2.2.2.1) (h4 : s'.2.2.2.2.2 = s.2.2.2.2.2) (P : kPic Y ad s x t f) : kPic Y ad s' x t f := by
  have e : s' = (s.1, s'.2.1, s.2.2.1, s.2.2.2.1, s'.2.2.2.2.1, s.2.2.2.2.2) := by rw [← h1, ← h2, ← h3, ← h4]
  rw [e]
  exact P
theorem zr_plk {s : zS} (N : zN s) {k : Nat} (h : k < z_nD s) : z_pl (zr_go s 0) k = z_play s k := by
  show (if k < 12 then decide (k < z_nD s) && z_play s k else z_pl s k) = _
  rw [if_pos (by have := N.2.2.1; omega), decide_eq_true h]
  rfl
/-- the search behind the bids below j -/
def kAd (s : zS) (j : Nat) (x : kX) : Prop := x.1 ≤ j ∧ (∀ p k, x.2.1 p = some k → k < z_nD s) ∧ (∀ k, k < 12 → x.2.2.1 k = 0) ∧ x.2.2.2.1 = -1 ∧ ∃ om, kOrd s (fun k => k < j ∧ z_play s k = true) om x.1 ∧ ∀ p, p < x.1 → x.2.1 p = some (om p)
theorem kAd_no {s : zS} {j : Nat} {x : kX} (h : kAd s j x) (hp : z_play s j = false) : kAd s (j + 1) x := by
  obtain ⟨h1, h2, h3, h4, om, h5, h6⟩ := h
  refine ⟨by omega, h2, h3, h4, om, ?_, h6⟩
  rw [show (fun k => k < j + 1 ∧ z_play s k = true) = (fun k => k < j ∧ z_play s k = true) from funext (fun k => propext ⟨fun h => ⟨?_, h.2⟩, fun h => ⟨by omega, h.2⟩⟩)]
  · exact h5
  · rcases Nat.lt_or_ge k j with c | c
    · exact c
    · rw [show k = j by omega, hp] at h
      cases h.2
theorem kAd_ins {s : zS} {j : Nat} {x : kX} (h : kAd s j x) (hj : j < z_nD s) (hp : z_play s j = true) {om : Nat → Nat} (O : kOrd s (fun k => k < j ∧ z_play s k = true) om x.1) (h6 : ∀ p, p < x.1 → x.2.1 p = some (om p)) {r : Nat} (hr : r ≤ x.1) (g1 : ∀ q, q + 1 = r → ¬ z_t s (z_ow s j) < z_t s (z_ow s (om q))) (g2 : ∀ q, r ≤ q → q < x.1 → z_t s (z_ow s j) < z_t s (z_ow s (om q))) : kAd s (j + 1) (x.1 + 1, hv_up (oR x r) r (some j), x.2.2) := by
  obtain ⟨h1, h2, h3, h4, -⟩ := h
  refine ⟨by show x.1 + 1 ≤ _; omega, fun p k e => ?_, h3, h4, oI om j r, ?_, fun p hp2 => ?_⟩
  · have e : hv_up (oR x r) r (some j) p = some k := e
    by_cases c : p = r
    · rw [c, hv_us] at e; cases e; exact hj
    · rw [hv_un _ c] at e
      unfold oR at e
      split at e
      · exact h2 _ k e
      · exact h2 _ k e
  · have h7 := kOrd_ins O (i := j) (fun k hk => hk.1) hr g1 g2
    rw [show (fun k => k < j + 1 ∧ z_play s k = true) = (fun k => (k < j ∧ z_play s k = true) ∨ k = j) from funext (fun k => propext ⟨fun h => ?_, fun h => ?_⟩)]
    · exact h7
    · rcases Nat.lt_or_ge k j with c | c
      · exact Or.inl ⟨c, h.2⟩
      · exact Or.inr (by omega)
    · rcases h with h | rfl
      · exact ⟨by omega, h.2⟩
      · exact ⟨by omega, hp⟩
  · have hp2 : p < x.1 + 1 := hp2
    show hv_up (oR x r) r (some j) p = some (oI om j r p)
    rcases Nat.lt_trichotomy p r with c | c | c
    · rw [hv_un _ (by omega), oI_l c]
      unfold oR
      rw [if_neg (by omega)]
      exact h6 p (by omega)
    · subst c; rw [hv_us, oI_e]
    · rw [hv_un _ (by omega), oI_g c]
      unfold oR
      rw [if_pos (by omega)]
      exact h6 (p - 1) (by omega)
set_option maxHeartbeats 4000000 in
set_option maxRecDepth 100000 in
theorem k_BT_run (Y : hY) (l : Launch) {ad : Nat → Nat → Nat} {s : zS} {x : kX} {t : Bool} {f : hw_F} (P : kPic Y ad s x t f) (N : zN s) (T : kT s t) (G : ∀ k l, l < 8 → z_nL s ≤ l → z_h s (8 * k + l) = false) (B0 : ∀ u, 0 ≤ zk_sum s u) (M0 : ∀ b, b < z_nB s → 0 ≤ z_m s b) (W0 : ∀ k, z_w s k = true → k < z_nD s) (O : ∀ p j, x.2.1 p = some j → j < z_nD s) (v : Int64) : hM Y l y_BT_run S_BT_run (some .int) [.ref (ad 0 0), .long v] f (fun r f' => r = some (.int (za_run s v).1) ∧ ∃ x', kOut Y (ad 0 0) (za_run s v).2 x' f' ∧ ((x' = x ∧ za_run s v = (-1, s)) ∨ (kI (zr_go s 0) (zV (zr_go s 0)) x' ∧ (∀ p j, x'.2.1 p = some j → j < z_nD s) ∧ za_run s v = (nI (zc_cnt (z_w (zr_go s (2 ^ z_nD s))) (z_nD s)), zr_go s (2 ^ z_nD s))))) := by
  refine hM.of (by decide) rfl (Nat.le_of_ble_eq_true rfl) ?_
  intro X hl hnm C E
  show hG Y X S_BT_run 0 0 f [(0, .ref (ad 0 0)), (1, .long v)] [] 0
  refine r_lconst (v := 1) C d_BT_run_0 rfl ?_
  refine r_aload_n C d_BT_run_1 rfl rfl ?_
  refine r_callV C (k_BT_bidsInPlay Y _ P N) mQ_BT_bidsInPlay d_BT_run_2 ml_BT_145 mi_BT_bidsInPlay mv_BT_bidsInPlay (kp_0 P) rfl rfl rfl rfl (Nat.le_of_ble_eq_true rfl) ⟨⟨Nat.le_of_ble_eq_true rfl, Nat.le_of_ble_eq_true rfl⟩, Nat.le_of_ble_eq_true rfl, Nat.le_of_ble_eq_true rfl⟩ (fun v9 f' hp => ?_)
  obtain ⟨rfl, hf⟩ := hp
  replace hf := hf.symm
  subst hf
  refine r_lshl C d_BT_run_5 ?_
  refine r_lload_n C d_BT_run_6 rfl rfl ?_
  refine r_lcmp C d_BT_run_7 ?_
  refine r_if_le (tgt := 13) C d_BT_run_8 rfl (fun c_8 => ?_) (fun c_8 => ?_)
  · skip
    rw [lg_cmp_le] at c_8
    have L : ∀ d j, j + d = 12 → ∀ x2 f2, kPic Y ad s x2 t f2 → kAd s (min (j) (z_nD s)) x2 → hG Y X S_BT_run 0 0 f2 [(5, .int (nI (j))), (4, .int 12), (3, .ref (ad 3 0)), (0, .ref (ad 0 0)), (1, .long v)] [] 32 := by
      intro d
      induction d with
      | zero =>
        intro j hj x2 f2 P2 hA
        obtain rfl : j = 12 := by omega
        rw [show min 12 (z_nD s) = z_nD s by have := N.2.2.1; omega] at hA
        have hA2 := hA
        obtain ⟨h1, O2, bw0, b1, om, Oo, hO⟩ := hA2
        have h12 := N.2.2.1
        have P3 : kPic Y ad (zr_go s 0) x2 t f2 := kPic_eq (zr_go_1 s 0).1 (zr_go_1 s 0).2.1 (zr_go_1 s 0).2.2.1 (zr_go_1 s 0).2.2.2 P2
        have O9 : kOrd (zr_go s 0) (fun k => k < z_nD (zr_go s 0) ∧ z_pl (zr_go s 0) k = true) om x2.1 := by
          rw [show (fun k => k < z_nD (zr_go s 0) ∧ z_pl (zr_go s 0) k = true) = (fun k => k < z_nD s ∧ z_play s k = true) from funext (fun k => propext ⟨fun h => ⟨h.1, (zr_plk N h.1).symm.trans h.2⟩, fun h => ⟨h.1, (zr_plk N h.1).trans h.2⟩⟩)]
          exact Oo
        have I0 : kI (zr_go s 0) (fun _ => False) x2 := ⟨fun k hk => ⟨fun u h => h.elim, Or.inl (bw0 k hk)⟩, Or.inl ⟨fun u h => h, b1⟩⟩
        refine r_iload C d_BT_run_32 rfl ?_
        refine r_iload C d_BT_run_34 rfl ?_
        refine r_icmp_ge (tgt := 68) C d_BT_run_36 rfl (fun _ => ?_) (fun hz => absurd (show (12 : Int32) ≤ nI 12 by decide) hz)
        refine r_aload_n C d_BT_run_68 rfl rfl ?_
        refine r_get C hq_BT d_BT_run_69 (j := 6) (Nat.le_of_ble_eq_true rfl) mf_BT_43 (kp_0 P2) rfl ?_
        refine r_callV C (k_Sea_find Y _ P3 (zr_N N 0) G B0 M0 O9 (by omega) rfl hO I0) mQ_Sea_find d_BT_run_72 ml_BT_159 mi_Sea_find mv_Sea_find (kp_7 P2) rfl rfl rfl rfl (Nat.le_of_ble_eq_true rfl) ⟨⟨Nat.le_of_ble_eq_true rfl, Nat.le_of_ble_eq_true rfl⟩, Nat.le_of_ble_eq_true rfl, Nat.le_of_ble_eq_true rfl⟩ (fun v9 f' h9 => ?_)
        obtain ⟨rfl, x3, P4, g1, g2, I3⟩ := h9
        have P5 : kPic Y ad (zr_go s (2 ^ z_nD s)) x3 t f' := kPic_eq (zr_go_1 s _).1 (zr_go_1 s _).2.1 (zr_go_1 s _).2.2.1 (zr_go_1 s _).2.2.2 P4
        refine r_aload_n C d_BT_run_75 rfl rfl ?_
        refine r_iconst (v := 0) C d_BT_run_76 rfl ?_
        refine r_put C hq_BT d_BT_run_77 (j := 11) (fs' := [_, _, _, _, _, _, _, _, _, _, _, _]) (Nat.le_of_ble_eq_true rfl) mf_BT_58 rfl rfl rfl rfl (kp_0 P5) (Nat.le_of_ble_eq_true rfl) rfl ?_
        refine r_aload_n C d_BT_run_80 rfl rfl ?_
        refine r_get C hq_BT d_BT_run_81 (j := 6) (Nat.le_of_ble_eq_true rfl) mf_BT_43 (hw_us _ _ _) rfl ?_
        refine r_getN C hq_Sea d_BT_run_84 (j := 4) (Nat.le_of_ble_eq_true rfl) mf_BT_162 ((hw_un _ (kNe P5 (Or.inl ⟨by decide, rfl⟩) (Or.inl ⟨by decide, rfl⟩) (by decide))).trans (kp_7 P5)) rfl ?_
        refine r_callS C (k_Jin_bitCount Y _ _ _) mQ_Jin_bitCount d_BT_run_87 ml_BT_165 mt_Jin_bitCount rfl rfl (Nat.le_of_ble_eq_true rfl) ⟨⟨Nat.le_of_ble_eq_true rfl, Nat.le_of_ble_eq_true rfl⟩, Nat.le_of_ble_eq_true rfl, Nat.le_of_ble_eq_true rfl⟩ (fun v9 f' h9 => ?_)
        obtain ⟨rfl, hf⟩ := h9
        replace hf := hf.symm
        subst hf
        refine r_iret C E rfl d_BT_run_90 (Nat.le_of_ble_eq_true rfl) (Nat.le_of_ble_eq_true rfl) ?_
        obtain ⟨v9, w9, e9, -, -, -, -, -, hbc⟩ := run_found N M0 W0 I3
        have hq : za_run s v = (nI (zc_cnt (z_w (zr_go s (2 ^ z_nD s))) (z_nD s)), zr_go s (2 ^ z_nD s)) := if_pos c_8
        refine ⟨?_, x3, ⟨ad, false, rfl, ?_, ?_⟩, Or.inr ⟨I3, ?_, hq⟩⟩
        · rw [hq, hbc, e9]
          rfl
        · rw [hq]
          exact kEnd2 (kPut P5 (Or.inl ⟨by decide, rfl⟩) _) (fun _ _ h => h) (kV_cases rfl rfl rfl rfl rfl rfl rfl rfl rfl rfl (fun _ _ => rfl) (fun _ _ => rfl) (fun _ _ => rfl) (fun _ _ => rfl) (fun _ _ => rfl) (fun _ _ => rfl) (fun _ _ => rfl))
        · rw [hq, show (nI (zc_cnt (z_w (zr_go s (2 ^ z_nD s))) (z_nD s)), zr_go s (2 ^ z_nD s)).2 = zr_go s (2 ^ z_nD s) from rfl, e9]
          rfl
        · rw [g2]
          exact O2
      | succ d ih =>
        intro j hj x2 f2 P2 hA
        rcases Nat.lt_or_ge j (z_nD s) with hn | hn
        · rw [show min j (z_nD s) = j by omega] at hA
          refine r_iload C d_BT_run_32 rfl ?_
          refine r_iload C d_BT_run_34 rfl ?_
          refine r_icmp_ge (tgt := 68) C d_BT_run_36 rfl (fun hz => absurd hz (nI_ge (a := j) (b := 12) (by omega) (by decide))) (fun _ => ?_)
          refine r_aload_n C d_BT_run_39 rfl rfl ?_
          refine r_iload C d_BT_run_40 rfl ?_
          refine r_aald (t0 := 5) C d_BT_run_42 (kp_3 P2) rfl (rfl) (by omega) (by decide) (if_pos hn) ?_
          refine r_astore (lv' := [(6, _), (5, _), (4, _), (3, _), (0, _), (1, _)]) C d_BT_run_43 (Nat.le_of_ble_eq_true rfl) rfl ?_
          refine r_aload C d_BT_run_45 rfl ?_
          refine r_callS C (k_BT_inPlay Y _ P2 hn (N.2.2.2.2.1 j hn)) mQ_BT_inPlay d_BT_run_47 ml_BT_151 mt_BT_inPlay rfl rfl (Nat.le_of_ble_eq_true rfl) ⟨⟨Nat.le_of_ble_eq_true rfl, Nat.le_of_ble_eq_true rfl⟩, Nat.le_of_ble_eq_true rfl, Nat.le_of_ble_eq_true rfl⟩ (fun v9 f' hp => ?_)
          obtain ⟨rfl, hf⟩ := hp
          replace hf := hf.symm
          subst hf
          refine r_if_eq (tgt := 62) C d_BT_run_50 rfl (fun c_50 => ?_) (fun c_50 => ?_)
          · skip
            rw [bI_0] at c_50
            refine r_iinc (v := nI (j + 1)) (lv' := [(5, _), (6, _), (4, _), (3, _), (0, _), (1, _)]) C d_BT_run_62 rfl (nI_1 j) (Nat.le_of_ble_eq_true rfl) rfl ?_
            refine r_goto (tgt := 32) C d_BT_run_65 rfl ?_
            refine r_sub [0, 2, 3, 4, 5] rfl ?_
            have h9 := ih (j + 1) (by omega)
            rw [show min (j + 1) (z_nD s) = j + 1 by omega] at h9
            exact h9 _ _ P2 (kAd_no hA c_50)
          · skip
            rw [bI_n0] at c_50
            have hA2 := hA
            obtain ⟨h1, O2, bw0, b1, om, Oo, hO⟩ := hA2
            have h12 := N.2.2.1
            refine r_aload_n C d_BT_run_53 rfl rfl ?_
            refine r_get C hq_BT d_BT_run_54 (j := 6) (Nat.le_of_ble_eq_true rfl) mf_BT_43 (kp_0 P2) rfl ?_
            refine r_aload C d_BT_run_57 rfl ?_
            refine r_callV C (k_Sea_addInOrder Y _ P2 N (by omega) (om := om) (fun q hq => ⟨hO q hq, O2 q _ (hO q hq)⟩) hn) mQ_Sea_addInOrder d_BT_run_59 ml_BT_155 mi_Sea_addInOrder mv_Sea_addInOrder (kp_7 P2) rfl rfl rfl rfl (Nat.le_of_ble_eq_true rfl) ⟨⟨Nat.le_of_ble_eq_true rfl, Nat.le_of_ble_eq_true rfl⟩, Nat.le_of_ble_eq_true rfl, Nat.le_of_ble_eq_true rfl⟩ (fun v9 f' h9 => ?_)
            obtain ⟨rfl, r, hr, q1, q2, P3⟩ := h9
            refine r_iinc (v := nI (j + 1)) (lv' := [(5, _), (6, _), (4, _), (3, _), (0, _), (1, _)]) C d_BT_run_62 rfl (nI_1 j) (Nat.le_of_ble_eq_true rfl) rfl ?_
            refine r_goto (tgt := 32) C d_BT_run_65 rfl ?_
            refine r_sub [0, 2, 3, 4, 5] rfl ?_
            have h9 := ih (j + 1) (by omega)
            rw [show min (j + 1) (z_nD s) = j + 1 by omega] at h9
            exact h9 _ _ P3 (kAd_ins hA hn c_50 Oo hO hr q1 q2)
        · rw [show min j (z_nD s) = z_nD s by omega] at hA
          refine r_iload C d_BT_run_32 rfl ?_
          refine r_iload C d_BT_run_34 rfl ?_
          refine r_icmp_ge (tgt := 68) C d_BT_run_36 rfl (fun hz => absurd hz (nI_ge (a := j) (b := 12) (by omega) (by decide))) (fun _ => ?_)
          refine r_aload_n C d_BT_run_39 rfl rfl ?_
          refine r_iload C d_BT_run_40 rfl ?_
          refine r_aald (t0 := 5) C d_BT_run_42 (kp_3 P2) rfl (rfl) (by omega) (by decide) (if_neg (by omega)) ?_
          refine r_astoreN (lv' := [(6, _), (5, _), (4, _), (3, _), (0, _), (1, _)]) C d_BT_run_43 (Nat.le_of_ble_eq_true rfl) rfl ?_
          refine r_aloadN C d_BT_run_45 rfl ?_
          refine r_callS C (k_BT_inPlay0 Y _) mQ_BT_inPlay d_BT_run_47 ml_BT_151 mt_BT_inPlay rfl rfl (Nat.le_of_ble_eq_true rfl) ⟨⟨Nat.le_of_ble_eq_true rfl, Nat.le_of_ble_eq_true rfl⟩, Nat.le_of_ble_eq_true rfl, Nat.le_of_ble_eq_true rfl⟩ (fun v9 f' hp => ?_)
          obtain ⟨rfl, hf⟩ := hp
          replace hf := hf.symm
          subst hf
          refine r_if_eq (tgt := 62) C d_BT_run_50 rfl (fun _ => ?_) (fun hz => absurd (show (0 : Int32) = 0 from rfl) hz)
          refine r_iinc (v := nI (j + 1)) (lv' := [(5, _), (6, _), (4, _), (3, _), (0, _), (1, _)]) C d_BT_run_62 rfl (nI_1 j) (Nat.le_of_ble_eq_true rfl) rfl ?_
          refine r_goto (tgt := 32) C d_BT_run_65 rfl ?_
          refine r_sub [0, 2, 3, 4, 5] rfl ?_
          have h9 := ih (j + 1) (by omega)
          rw [show min (j + 1) (z_nD s) = z_nD s by omega] at h9
          exact h9 _ _ P2 hA
    refine r_aload_n C d_BT_run_13 rfl rfl ?_
    refine r_get C hq_BT d_BT_run_14 (j := 6) (Nat.le_of_ble_eq_true rfl) mf_BT_43 (kp_0 P) rfl ?_
    refine r_callV C (k_Sea_forget Y _ P) mQ_Sea_forget d_BT_run_17 ml_BT_148 mi_Sea_forget mv_Sea_forget (kp_7 P) rfl rfl rfl rfl (Nat.le_of_ble_eq_true rfl) ⟨⟨Nat.le_of_ble_eq_true rfl, Nat.le_of_ble_eq_true rfl⟩, Nat.le_of_ble_eq_true rfl, Nat.le_of_ble_eq_true rfl⟩ (fun v9 f' h9 => ?_)
    obtain ⟨rfl, P1⟩ := h9
    refine r_aload_n C d_BT_run_20 rfl rfl ?_
    refine r_get C hq_BT d_BT_run_21 (j := 2) (Nat.le_of_ble_eq_true rfl) mf_BT_23 (kp_0 P1) rfl ?_
    refine r_astore_n (lv' := [(3, _), (0, _), (1, _)]) C d_BT_run_24 rfl (Nat.le_of_ble_eq_true rfl) rfl ?_
    refine r_aload_n C d_BT_run_25 rfl rfl ?_
    refine r_alen (t0 := 5) (v := 12) C d_BT_run_26 (kp_3 P1) rfl rfl ?_
    refine r_istore (lv' := [(4, _), (3, _), (0, _), (1, _)]) C d_BT_run_27 (Nat.le_of_ble_eq_true rfl) rfl ?_
    refine r_iconst (v := 0) C d_BT_run_29 rfl ?_
    refine r_istore (lv' := [(5, _), (4, _), (3, _), (0, _), (1, _)]) C d_BT_run_30 (Nat.le_of_ble_eq_true rfl) rfl ?_
    refine L 12 0 rfl _ _ P1 ⟨Nat.zero_le _, O, fun k hk => if_pos hk, rfl, fun _ => 0, ⟨fun p h => absurd h (Nat.not_lt_zero p), fun k h => absurd h.1 (by omega), fun p q _ h => absurd h (Nat.not_lt_zero q)⟩, fun p h => absurd h (Nat.not_lt_zero p)⟩
  · skip
    rw [lg_cmp_le] at c_8
    have hq : za_run s v = (-1, s) := if_neg c_8
    refine r_iconst (v := (-1)) C d_BT_run_11 rfl ?_
    refine r_iret C E rfl d_BT_run_12 (Nat.le_of_ble_eq_true rfl) (Nat.le_of_ble_eq_true rfl) ?_
    exact ⟨by rw [hq], x, by rw [hq]; exact ⟨ad, t, rfl, P, T⟩, Or.inl ⟨rfl, hq⟩⟩

