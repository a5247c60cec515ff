theorem rTry (d : Nat) : hRm (S_Sea_tryFrom (d + 1)) (S_Sea_tryFrom d) 0 0 := ⟨⟨by show d + 4 + 1 ≤ d + 1 + 4; omega, by show 8 + (7 + 11) + 64 * (d + 4) ≤ 64 * (d + 1 + 4); omega⟩, Nat.le_refl 0, Nat.le_refl 0⟩
theorem rStay (d : Nat) : hRm (S_Sea_tryFrom (d + 1)) S_Sea_staysWithinLimit 0 0 := ⟨⟨by show 3 + 1 ≤ d + 1 + 4; omega, by show 8 + (6 + 11) + 64 * 3 ≤ 64 * (d + 1 + 4); omega⟩, Nat.le_refl 0, Nat.le_refl 0⟩
theorem ko_eq {s : zS} (N : zN s) {om : Nat → Nat} {n : Nat} (O : kOrd s (fun k => k < z_nD s ∧ z_pl s k = true) om n) {t : Nat → Bool} (T : zk_can s t) (i : Nat) : ko s om (nI (zb_m t 12)) i n = zc_sum (fun k => bif t k && decide (z_ow s k = z_ow s i) then z_lots s k else 0) (z_nD s) := by
  rw [← O.sum T (z_ow s i)]
  unfold ko
  refine zc_sum_cg (fun q hq => ?_)
  rw [k_bt_m (by decide) (by have := (O.1 q hq).1; have := N.2.2.1; omega)]
set_option maxHeartbeats 4000000 in
set_option maxRecDepth 100000 in
theorem k_Sea_tryFrom (Y : hY) {ad : Nat → Nat → Nat} {s : zS} {t : Bool} (N : zN s) (G : ∀ k l, l < 8 → z_nL s ≤ l → z_h s (8 * k + l) = false) (B0 : ∀ u, 0 ≤ zk_sum s u) {om : Nat → Nat} {n : Nat} (O : kOrd s (fun k => k < z_nD s ∧ z_pl s k = true) om n) (n12 : n ≤ 12) : ∀ (d : Nat) (l : Launch) {x : kX} {f : hw_F} (_ : kPic Y ad s x t f) (_ : x.1 = n) (_ : ∀ p, p < n → x.2.1 p = some (om p)) {V : (Nat → Bool) → Prop} (_ : kI s V x) {p : Nat} (_ : p + d = n) {tk : Nat → Bool} (_ : zk_sale s tk) (_ : ∀ k, tk k = true → ∃ q, q < p ∧ om q = k) (_ : ∀ u v, V u → kExt s om p tk v → zLB s u v), hM Y l y_Sea_tryFrom (S_Sea_tryFrom d) none [.ref (ad 7 0), .int (nI p), .int (nI (zb_m tk 12)), .int (nI (zt_or s tk (z_nD s))), .long (zk_sum s tk)] f (fun r f' => r = none ∧ ∃ x', kPic Y ad s x' t f' ∧ x'.1 = x.1 ∧ x'.2.1 = x.2.1 ∧ kI s (fun u => V u ∨ kExt s om p tk u) x') := by
  intro d
  induction d with
  | zero =>
    intro l x f P hx hO V I p hpd tk S T hV
    have TC : zk_can s tk := fun k h => by
      obtain ⟨q, hq, e⟩ := T k h
      rw [← e]
      exact O.1 q (by omega)
    refine hM.of (by decide) rfl (Nat.le_of_ble_eq_true rfl) ?_
    intro X hl hnm C E
    show hG Y X (S_Sea_tryFrom 0) 0 0 f [(0, .ref (ad 7 0)), (1, .int (nI p)), (2, .int (nI (zb_m tk 12))), (3, .int (nI (zt_or s tk (z_nD s)))), (4, .long (zk_sum s tk))] [] 0
    refine r_iload_n C d_Sea_tryFrom_0 rfl rfl ?_
    refine r_aload_n C d_Sea_tryFrom_1 rfl rfl ?_
    refine r_get C hq_Sea d_Sea_tryFrom_2 (j := 2) (Nat.le_of_ble_eq_true rfl) mf_Sea_41 (kp_7 P) rfl ?_
    refine r_icmp_lt (tgt := 16) C d_Sea_tryFrom_5 rfl (fun hz => absurd hz (by rw [hx, show p = n by omega]; exact fun h => Int32.lt_irrefl h)) (fun _ => ?_)
    refine r_aload_n C d_Sea_tryFrom_8 rfl rfl ?_
    refine r_iload_n C d_Sea_tryFrom_9 rfl rfl ?_
    refine r_lload C d_Sea_tryFrom_10 rfl ?_
    refine r_callV C (k_Sea_keepSale Y _ P _ _) mQ_Sea_keepSale d_Sea_tryFrom_12 ml_Sea_57 mi_Sea_keepSale mv_Sea_keepSale (kp_7 P) rfl rfl rfl rfl (Nat.le_of_ble_eq_true rfl) ⟨⟨Nat.le_of_ble_eq_true rfl, Nat.le_of_ble_eq_true rfl⟩, Nat.le_of_ble_eq_true rfl, Nat.le_of_ble_eq_true rfl⟩ (fun v f' h9 => ?_)
    obtain ⟨rfl, P2⟩ := h9
    refine r_vret C E rfl d_Sea_tryFrom_15 (Nat.le_of_ble_eq_true rfl) (Nat.le_of_ble_eq_true rfl) ?_
    obtain rfl : p = n := by omega
    exact ⟨rfl, _, P2, rfl, rfl, kI_cg (fun u => by rw [kExt_leaf O S TC u]) (kI_keep I (B0 tk) (fun u hu => hV u tk hu ((kExt_leaf O S TC tk).mpr rfl)))⟩
  | succ d ih =>
    intro l x f P hx hO V I p hpd tk S T hV
    have TC : zk_can s tk := fun k h => by
      obtain ⟨q, hq, e⟩ := T k h
      rw [← e]
      exact O.1 q (by omega)
    have hpn : p < n := by omega
    have hb := O.1 p hpn
    have h0 : tk (om p) = false := by
      cases h : tk (om p) with
      | false => rfl
      | true =>
        obtain ⟨q, hq, e⟩ := T _ h
        have := O.inj (by omega) hpn e
        omega
    have hb12 := N.2.2.1
    have hb1 := hb.1
    have fit := sale_fit N G S hb.1 hb.2 h0
    have e31 : nI (z_ls s (om p)) &&& nI (zt_or s tk (z_nD s)) = 0 ↔ z_ls s (om p) &&& zt_or s tk (z_nD s) = 0 := by
      have h1 := z_ls_lt s (om p)
      have h2 := Nat.and_le_left (n := z_ls s (om p)) (m := zt_or s tk (z_nD s))
      rw [nI_and, show (0 : Int32) = nI 0 from rfl, nI_eq (by omega) (by decide)]
    have eS : zk_sum s (hv_up tk (om p) true) = zk_sum s tk + z_c s (om p) := by
      unfold zk_sum
      rw [zc_sumL_up _ h0, if_pos hb.1]
    refine hM.of (by decide) rfl (Nat.le_of_ble_eq_true rfl) ?_
    intro X hl hnm C E
    show hG Y X (S_Sea_tryFrom (d + 1)) 0 0 f [(0, .ref (ad 7 0)), (1, .int (nI p)), (2, .int (nI (zb_m tk 12))), (3, .int (nI (zt_or s tk (z_nD s)))), (4, .long (zk_sum s tk))] [] 0
    refine r_iload_n C d_Sea_tryFrom_0 rfl rfl ?_
    refine r_aload_n C d_Sea_tryFrom_1 rfl rfl ?_
    refine r_get C hq_Sea d_Sea_tryFrom_2 (j := 2) (Nat.le_of_ble_eq_true rfl) mf_Sea_41 (kp_7 P) rfl ?_
    refine r_icmp_lt (tgt := 16) C d_Sea_tryFrom_5 rfl (fun _ => ?_) (fun hz => absurd (by rw [hx]; exact nI_lt (by omega) (by omega)) hz)
    refine r_aload_n C d_Sea_tryFrom_16 rfl rfl ?_
    refine r_get C hq_Sea d_Sea_tryFrom_17 (j := 0) (Nat.le_of_ble_eq_true rfl) mf_Sea_11 (kp_7 P) rfl ?_
    refine r_iload_n C d_Sea_tryFrom_20 rfl rfl ?_
    refine r_aald (t0 := 5) C d_Sea_tryFrom_21 (kp_8 P) rfl (rfl) (by omega) (by decide) (show (x.2.1 p).map (ad 15) = some (ad 15 (om p)) by rw [hO p (by omega)]; rfl) ?_
    refine r_astore (lv' := [(6, _), (0, _), (1, _), (2, _), (3, _), (4, _)]) C d_Sea_tryFrom_22 (Nat.le_of_ble_eq_true rfl) rfl ?_
    refine r_aload C d_Sea_tryFrom_24 rfl ?_
    refine r_getN C hq_Bid d_Sea_tryFrom_26 (j := 3) (Nat.le_of_ble_eq_true rfl) mf_Sea_61 (kp_15 P (hb.1)) rfl ?_
    refine r_iload_n C d_Sea_tryFrom_29 rfl rfl ?_
    refine r_iand C d_Sea_tryFrom_30 ?_
    refine r_if_ne (tgt := 75) C d_Sea_tryFrom_31 rfl (fun c_31 => ?_) (fun c_31 => ?_)
    · skip
      have hns : ¬ zk_sale s (hv_up tk (om p) true) := fun h => c_31 (e31.mpr (fit.mpr h).1)
      refine r_aload_n C d_Sea_tryFrom_75 rfl rfl ?_
      refine r_iload_n C d_Sea_tryFrom_76 rfl rfl ?_
      refine r_iconst (v := 1) C d_Sea_tryFrom_77 rfl ?_
      refine r_iadd C d_Sea_tryFrom_78 ?_
      refine r_iload_n C d_Sea_tryFrom_79 rfl rfl ?_
      refine r_iload_n C d_Sea_tryFrom_80 rfl rfl ?_
      refine r_lload C d_Sea_tryFrom_81 rfl ?_
      rw [nI_1]
      refine r_callV C (ih _ P hx hO I (p := p + 1) (by omega) S (fun k h => (T k h).imp (fun q hq => ⟨by omega, hq.2⟩)) (fun u v hu hv => hV u v hu ((kExt_split O hpn h0 v).mpr (Or.inr hv)))) (mQ_Sea_tryFrom _) d_Sea_tryFrom_83 ml_Sea_53 mi_Sea_tryFrom mv_Sea_tryFrom (kp_7 P) rfl rfl rfl rfl (Nat.le_of_ble_eq_true rfl) (rTry d) (fun v f' h9 => ?_)
      obtain ⟨rfl, x3, P3, g1, g2, I3⟩ := h9
      refine r_vret C E rfl d_Sea_tryFrom_86 (Nat.le_of_ble_eq_true rfl) (Nat.le_of_ble_eq_true rfl) ?_
      exact ⟨rfl, x3, P3, g1, g2, kI_cg (fun u => by rw [kExt_split O hpn h0 u]; exact ⟨fun h => h.elim Or.inl (fun h => Or.inr (Or.inr h)), fun h => h.elim Or.inl (fun h => h.elim (fun h => absurd h (kExt_none N T O hpn hns u)) Or.inr)⟩) I3⟩
    · skip
  
      refine r_aload_n C d_Sea_tryFrom_34 rfl rfl ?_
      refine r_aload C d_Sea_tryFrom_35 rfl ?_
      refine r_iload_n C d_Sea_tryFrom_37 rfl rfl ?_
      refine r_callV C (k_Sea_staysWithinLimit Y _ P N (by omega) (om := om) (fun q hq => ⟨hO q (by omega), (O.1 q (by omega)).1⟩) hb.1 _) mQ_Sea_staysWithinLimit d_Sea_tryFrom_38 ml_Sea_64 mi_Sea_staysWithinLimit mv_Sea_staysWithinLimit (kp_7 P) rfl rfl rfl rfl (Nat.le_of_ble_eq_true rfl) (rStay d) (fun v f' hp => ?_)
      obtain ⟨rfl, hf⟩ := hp
      replace hf := hf.symm
      subst hf
      refine r_if_eq (tgt := 75) C d_Sea_tryFrom_41 rfl (fun c_41 => ?_) (fun c_41 => ?_)
      · skip
        rw [bI_0, hx, ko_eq N O TC, decide_eq_false_iff_not] at c_41
        have hns : ¬ zk_sale s (hv_up tk (om p) true) := fun h => c_41 (fit.mpr h).2
        refine r_aload_n C d_Sea_tryFrom_75 rfl rfl ?_
        refine r_iload_n C d_Sea_tryFrom_76 rfl rfl ?_
        refine r_iconst (v := 1) C d_Sea_tryFrom_77 rfl ?_
        refine r_iadd C d_Sea_tryFrom_78 ?_
        refine r_iload_n C d_Sea_tryFrom_79 rfl rfl ?_
        refine r_iload_n C d_Sea_tryFrom_80 rfl rfl ?_
        refine r_lload C d_Sea_tryFrom_81 rfl ?_
        rw [nI_1]
        refine r_callV C (ih _ P hx hO I (p := p + 1) (by omega) S (fun k h => (T k h).imp (fun q hq => ⟨by omega, hq.2⟩)) (fun u v hu hv => hV u v hu ((kExt_split O hpn h0 v).mpr (Or.inr hv)))) (mQ_Sea_tryFrom _) d_Sea_tryFrom_83 ml_Sea_53 mi_Sea_tryFrom mv_Sea_tryFrom (kp_7 P) rfl rfl rfl rfl (Nat.le_of_ble_eq_true rfl) (rTry d) (fun v f' h9 => ?_)
        obtain ⟨rfl, x3, P3, g1, g2, I3⟩ := h9
        refine r_vret C E rfl d_Sea_tryFrom_86 (Nat.le_of_ble_eq_true rfl) (Nat.le_of_ble_eq_true rfl) ?_
        exact ⟨rfl, x3, P3, g1, g2, kI_cg (fun u => by rw [kExt_split O hpn h0 u]; exact ⟨fun h => h.elim Or.inl (fun h => Or.inr (Or.inr h)), fun h => h.elim Or.inl (fun h => h.elim (fun h => absurd h (kExt_none N T O hpn hns u)) Or.inr)⟩) I3⟩
      · skip
        rw [bI_n0, hx, ko_eq N O TC, decide_eq_true_eq] at c_41
        have hS : zk_sale s (hv_up tk (om p) true) := fit.mp ⟨e31.mp c_31, c_41⟩
        refine r_aload_n C d_Sea_tryFrom_44 rfl rfl ?_
        refine r_iload_n C d_Sea_tryFrom_45 rfl rfl ?_
        refine r_iconst (v := 1) C d_Sea_tryFrom_46 rfl ?_
        refine r_iadd C d_Sea_tryFrom_47 ?_
        refine r_iload_n C d_Sea_tryFrom_48 rfl rfl ?_
        refine r_iconst (v := 1) C d_Sea_tryFrom_49 rfl ?_
        refine r_aload C d_Sea_tryFrom_50 rfl ?_
        refine r_getN C hq_Bid d_Sea_tryFrom_52 (j := 0) (Nat.le_of_ble_eq_true rfl) mf_Sea_31 (kp_15 P (hb.1)) rfl ?_
        refine r_ishl C d_Sea_tryFrom_55 ?_
        refine r_ior C d_Sea_tryFrom_56 ?_
        refine r_iload_n C d_Sea_tryFrom_57 rfl rfl ?_
        refine r_aload C d_Sea_tryFrom_58 rfl ?_
        refine r_getN C hq_Bid d_Sea_tryFrom_60 (j := 3) (Nat.le_of_ble_eq_true rfl) mf_Sea_61 (kp_15 P (hb.1)) rfl ?_
        refine r_ior C d_Sea_tryFrom_63 ?_
        refine r_lload C d_Sea_tryFrom_64 rfl ?_
        refine r_aload C d_Sea_tryFrom_66 rfl ?_
        refine r_getN C hq_Bid d_Sea_tryFrom_68 (j := 2) (Nat.le_of_ble_eq_true rfl) mf_Sea_68 (kp_15 P (hb.1)) rfl ?_
        refine r_ladd C d_Sea_tryFrom_71 ?_
        rw [nI_1, zb_set (by omega) (by decide), nI_or, zt_or_up s hb.1, ← eS]
        refine r_callV C (ih _ P hx hO I (p := p + 1) (by omega) (tk := hv_up tk (om p) true) hS (fun k h => by
          by_cases e : k = om p
          · exact ⟨p, by omega, e.symm⟩
          · rw [hv_un _ e] at h
            exact (T k h).imp (fun q hq => ⟨by omega, hq.2⟩)) (fun u v hu hv => hV u v hu ((kExt_split O hpn h0 v).mpr (Or.inl hv)))) (mQ_Sea_tryFrom _) d_Sea_tryFrom_72 ml_Sea_53 mi_Sea_tryFrom mv_Sea_tryFrom (kp_7 P) rfl rfl rfl rfl (Nat.le_of_ble_eq_true rfl) (rTry d) (fun v f' h9 => ?_)
        obtain ⟨rfl, x2, P2, e1, e2, I2⟩ := h9
        refine r_aload_n C d_Sea_tryFrom_75 rfl rfl ?_
        refine r_iload_n C d_Sea_tryFrom_76 rfl rfl ?_
        refine r_iconst (v := 1) C d_Sea_tryFrom_77 rfl ?_
        refine r_iadd C d_Sea_tryFrom_78 ?_
        refine r_iload_n C d_Sea_tryFrom_79 rfl rfl ?_
        refine r_iload_n C d_Sea_tryFrom_80 rfl rfl ?_
        refine r_lload C d_Sea_tryFrom_81 rfl ?_
        rw [nI_1]
        refine r_callV C (ih _ P2 (e1.trans hx) (fun q hq => by rw [e2]; exact hO q hq) I2 (p := p + 1) (by omega) S (fun k h => (T k h).imp (fun q hq => ⟨by omega, hq.2⟩)) (fun u v hu hv => hu.elim (fun h => hV u v h ((kExt_split O hpn h0 v).mpr (Or.inr hv))) (fun h => kExt_LB O hpn h0 h hv))) (mQ_Sea_tryFrom _) d_Sea_tryFrom_83 ml_Sea_53 mi_Sea_tryFrom mv_Sea_tryFrom (kp_7 P2) rfl rfl rfl rfl (Nat.le_of_ble_eq_true rfl) (rTry d) (fun v f' h9 => ?_)
        obtain ⟨rfl, x3, P3, g1, g2, I3⟩ := h9
        refine r_vret C E rfl d_Sea_tryFrom_86 (Nat.le_of_ble_eq_true rfl) (Nat.le_of_ble_eq_true rfl) ?_
        exact ⟨rfl, x3, P3, g1.trans e1, g2.trans e2, kI_cg (fun u => by rw [kExt_split O hpn h0 u, or_assoc]) I3⟩

theorem sale_0 {s : zS} (M0 : ∀ b, b < z_nB s → 0 ≤ z_m s b) : zk_sale s (fun _ => false) := by
  refine ⟨fun k hk h => (by cases h), fun l hl => by rw [zc_cnt_0 (fun k hk => by simp)]; exact Nat.zero_le _, fun b hb => ?_⟩
  rw [zc_sum_cg (q := fun _ => 0) (fun k hk => by simp)]
  have : ∀ n, zc_sum (fun _ => 0) n = 0 := fun n => by
    induction n with
    | zero => rfl
    | succ n ih => unfold zc_sum; rw [ih]
  rw [this]
  exact M0 b hb
theorem zb_m00 : zb_m (fun _ => false) 12 = 0 := rfl
theorem zk_sum0 (s : zS) : zk_sum s (fun _ => false) = 0 := by
  unfold zk_sum
  induction z_nD s with
  | zero => rfl
  | succ n ih => unfold zc_sumL; rw [ih]; rfl
set_option maxHeartbeats 4000000 in
set_option maxRecDepth 100000 in
theorem k_Sea_find (Y : hY) (l : Launch) {ad : Nat → Nat → Nat} {s : zS} {x : kX} {t : Bool} {f : hw_F} (P : kPic Y ad s x t f) (N : zN s) (G : ∀ k l, l < 8 → z_nL s ≤ l → z_h s (8 * k + l) = false) (B0 : ∀ u, 0 ≤ zk_sum s u) (M0 : ∀ b, b < z_nB s → 0 ≤ z_m s b) {om : Nat → Nat} {n : Nat} (O : kOrd s (fun k => k < z_nD s ∧ z_pl s k = true) om n) (n12 : n ≤ 12) (hx : x.1 = n) (hO : ∀ p, p < n → x.2.1 p = some (om p)) (I : kI s (fun _ => False) x) : hM Y l y_Sea_find S_Sea_find (none) [.ref (ad 7 0)] f (fun r f' => r = none ∧ ∃ x', kPic Y ad s x' t f' ∧ x'.1 = x.1 ∧ x'.2.1 = x.2.1 ∧ kI s (fun u => zk_sale s u ∧ zk_can s u) x') := by
  refine hM.of (by decide) rfl (Nat.le_of_ble_eq_true rfl) ?_
  intro X hl hnm C E
  show hG Y X S_Sea_find 0 0 f [(0, .ref (ad 7 0))] [] 0
  refine r_aload_n C d_Sea_find_0 rfl rfl ?_
  refine r_iconst (v := 0) C d_Sea_find_1 rfl ?_
  refine r_iconst (v := 0) C d_Sea_find_2 rfl ?_
  refine r_iconst (v := 0) C d_Sea_find_3 rfl ?_
  refine r_lconst (v := 0) C d_Sea_find_4 rfl ?_
  have M9 := k_Sea_tryFrom Y N G B0 O n12 n X.1.2.1 P hx hO I (p := 0) (Nat.zero_add _) (tk := fun _ => false) (sale_0 M0) (fun k h => by cases h) (fun u v hu _ => absurd hu (fun h => h))
  rw [zt_or_0, zk_sum0] at M9
  refine r_callV C (M9) (mQ_Sea_tryFrom _) d_Sea_find_5 ml_Sea_53 mi_Sea_tryFrom mv_Sea_tryFrom (kp_7 P) rfl rfl rfl rfl (Nat.le_of_ble_eq_true rfl) ⟨⟨by show n + 4 + 1 ≤ 18; omega, by show 8 + (7 + 11) + 64 * (n + 4) ≤ 64 * 18; omega⟩, Nat.le_refl 0, Nat.le_refl 0⟩ (fun v f' h9 => ?_)
  obtain ⟨rfl, x2, P2, e1, e2, I2⟩ := h9
  refine r_vret C E rfl d_Sea_find_8 (Nat.le_of_ble_eq_true rfl) (Nat.le_of_ble_eq_true rfl) ?_
  exact ⟨rfl, x2, P2, e1, e2, kI_cg (fun u => ⟨fun h => h.elim (fun h => h.elim) (fun h => ⟨h.1, h.2.1⟩), fun h => Or.inr ⟨h.1, h.2, fun q hq => absurd hq (Nat.not_lt_zero q)⟩⟩) I2⟩

