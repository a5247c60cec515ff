theorem df_Sea : ∀ j, j < 6 → defaultValue (ty_Sea j) = vp_V [.null, .null, .int 0, .long 0, .int 0, .int 0] j := by decide +kernel
set_option maxHeartbeats 4000000 in
set_option maxRecDepth 100000 in
theorem k_Sea_init (Y : hY) (l : Launch) {f : hw_F} {b : Nat} (h0 : f b = some (.inr (5, [.null, .null, .int 0, .long 0, .int 0, .int 0]))) : hM Y l y_Sea_init S_Sea_init (none) [.ref b] f (fun r f' => r = none ∧ ∃ q1 q2, f q1 = none ∧ hw_u f q1 (eQ (Y.2 5) 12 (fun _ => none)) q2 = none ∧ b ≠ q1 ∧ b ≠ q2 ∧ f' = hw_u (hw_u (hw_u f q1 (eQ (Y.2 5) 12 (fun _ => none))) q2 (eJ (Y.2 0) 12 (fun _ => 0))) b (.inr (5, [.ref q1, .ref q2, .int 0, .long (-1), .int 0, .int 0]))) := by
  refine hM.of (by decide) rfl (Nat.le_of_ble_eq_true rfl) ?_
  intro X hl hnm C E
  show hG Y X S_Sea_init 0 0 f [(0, .ref b)] [] 0
  refine r_aload_n C d_Sea_init_0 rfl rfl ?_
  refine r_objInit C d_Sea_init_1 ml_Sea_3 mi_obj mo_obj (Nat.le_of_ble_eq_true rfl) (Nat.le_of_ble_eq_true rfl) ?_
  refine r_aload_n C d_Sea_init_4 rfl rfl ?_
  refine r_bipush (v := 12) C d_Sea_init_5 rfl ?_
  refine r_newq (t0 := 5) (N := 12) C d_Sea_init_7 mk_Sea_9 (by decide +kernel) rfl rfl (by decide) (Nat.le_of_ble_eq_true rfl) (Nat.le_of_ble_eq_true rfl) (fun q1 hq1 => ?_)
  have b1 : b ≠ q1 := fun e => by rw [← e, h0] at hq1; cases hq1
  refine r_putF C hq_Sea d_Sea_init_10 (j := 0) (fs' := [_, _, _, _, _, _]) (Nat.le_of_ble_eq_true rfl) mf_Sea_11 rfl hnm rfl rfl rfl rfl ((hw_un _ b1).trans h0) (Nat.le_of_ble_eq_true rfl) rfl ?_
  refine r_aload_n C d_Sea_init_13 rfl rfl ?_
  refine r_bipush (v := 12) C d_Sea_init_14 rfl ?_
  refine r_newa (t0 := 0) (N := 12) (a0 := (12, .inr (.inl (fun _ => 0)))) C d_Sea_init_16 rfl ma_arrayClass_long rfl (fun _ h => h) (fun _ => rfl) rfl (by decide) (by decide) (Nat.le_of_ble_eq_true rfl) (Nat.le_of_ble_eq_true rfl) (fun q2 hq2 => ?_)
  have b2 : b ≠ q2 := fun e => by rw [← e, hw_us] at hq2; cases hq2
  rw [hw_un _ (Ne.symm b2)] at hq2
  rw [hw_cm _ _ b2]
  refine r_putF C hq_Sea d_Sea_init_18 (j := 1) (fs' := [_, _, _, _, _, _]) (Nat.le_of_ble_eq_true rfl) mf_Sea_17 rfl hnm rfl rfl rfl rfl (hw_us _ _ _) (Nat.le_of_ble_eq_true rfl) rfl ?_
  rw [hw_uu]
  refine r_aload_n C d_Sea_init_21 rfl rfl ?_
  refine r_ldc2 C d_Sea_init_22 mn_Sea_21 ?_
  refine r_put C hq_Sea d_Sea_init_25 (j := 3) (fs' := [_, _, _, _, _, _]) (Nat.le_of_ble_eq_true rfl) mf_Sea_23 rfl rfl rfl rfl (hw_us _ _ _) (Nat.le_of_ble_eq_true rfl) rfl ?_
  rw [hw_uu]
  refine r_vret C E rfl d_Sea_init_28 (Nat.le_of_ble_eq_true rfl) (Nat.le_of_ble_eq_true rfl) ?_
  exact ⟨rfl, q1, q2, hq1, hq2, b1, b2, rfl⟩

/-- the search of a new object -/
def kx_0 : kX := ((0, fun _ => none, fun _ => 0, -1, 0, 0) : kX)
def jA (Y : hY) (k : Nat) : va_E := match k with
  | 1 => eQ (Y.2 3) 8 (fun _ => none)
  | 2 => eQ (Y.2 4) 6 (fun _ => none)
  | 3 => eQ (Y.2 5) 12 (fun _ => none)
  | 4 => eQ (Y.2 6) 20 (fun _ => none)
  | _ => eJ (Y.2 0) 60 (fun _ => 0)
def jF (ad : Nat → Nat → Nat) (n : Nat) : List Value := [(if 1 ≤ n then Value.ref (ad 1 0) else .null), (if 2 ≤ n then Value.ref (ad 2 0) else .null), (if 3 ≤ n then Value.ref (ad 3 0) else .null), (if 4 ≤ n then Value.ref (ad 4 0) else .null), (if 5 ≤ n then Value.ref (ad 5 0) else .null), (if 6 ≤ n then Value.ref (ad 6 0) else .null), .null, .int 0, .int 0, .int 0, .int 0, .int 0]
def jE (Y : hY) (ad : Nat → Nat → Nat) (n : Nat) : Nat → Nat → va_E := fun k _ => match k with
  | 0 => .inr (0, jF ad n)
  | k + 1 => jA Y (k + 1)
def jP (Y : hY) (a n : Nat) (f : hw_F) : Prop := ∃ ad, ad 0 0 = a ∧ hPic ad (iV n) (jE Y ad n) f
theorem jObj {Y : hY} {a n : Nat} {f : hw_F} {ad : Nat → Nat → Nat} (ha : ad 0 0 = a) (P : hPic ad (iV n) (jE Y ad n) f) : f a = some (.inr (0, jF ad n)) := by
  rw [← ha]
  exact P.1 0 0 ⟨Nat.zero_le _, rfl⟩
theorem jStep {Y : hY} {a n q : Nat} {f : hw_F} {ad : Nat → Nat → Nat} (ha : ad 0 0 = a) (P : hPic ad (iV n) (jE Y ad n) f) (hq : f q = none) : hAd ad (n + 1) 0 q 0 0 = a ∧ hPic (hAd ad (n + 1) 0 q) (iV (n + 1)) (jE Y (hAd ad (n + 1) 0 q) (n + 1)) (hw_u (hw_u f q (jA Y (n + 1))) a (.inr (0, jF (hAd ad (n + 1) 0 q) (n + 1)))) := by
  have h0 : hAd ad (n + 1) 0 q 0 0 = a := by rw [hAd_n q (by omega), ha]
  refine ⟨h0, ?_⟩
  have P1 := P.add (k0 := n + 1) (i0 := 0) (q := q) (V' := iV (n + 1)) (E' := fun k i => if k = n + 1 then jA Y (n + 1) else jE Y ad n k i) hq (fun k i hv => by
    rcases Nat.lt_or_ge k (n + 1) with h | h
    · exact Or.inl ⟨by omega, hv.2⟩
    · exact Or.inr ⟨by have := hv.1; omega, hv.2⟩) (fun h => absurd h.1 (by omega)) (fun k i hv _ => by
    have : k ≠ n + 1 := by have := hv.1; omega
    simp [this])
  have P2 := P1.put (k0 := 0) (i0 := 0) (E' := jE Y (hAd ad (n + 1) 0 q) (n + 1)) ⟨Nat.zero_le _, rfl⟩ (fun k i hv hn => by
    match k with
    | 0 => exact absurd ⟨rfl, hv.2⟩ hn
    | k + 1 =>
      show jA Y (k + 1) = if k + 1 = n + 1 then jA Y (n + 1) else jA Y (k + 1)
      split
      · rename_i h; rw [h]
      · rfl)
  rw [h0] at P2
  simp only [if_true] at P2
  exact P2
theorem if_none0 (g : Nat → Nat) : (fun i => if i < 0 then some (g i) else none) = fun _ => (none : Option Nat) := funext (fun i => if_neg (Nat.not_lt_zero i))
set_option maxHeartbeats 4000000 in
set_option maxRecDepth 100000 in
theorem k_BT_init (Y : hY) (l : Launch) {a : Nat} {f : hw_F} (h0 : f a = some (.inr (0, [.null, .null, .null, .null, .null, .null, .null, .int 0, .int 0, .int 0, .int 0, .int 0]))) : hM Y l y_BT_init S_BT_init (none) [.ref a] f (fun r f' => r = none ∧ ∃ ad, ad 0 0 = a ∧ kPic Y ad z_0 kx_0 false f') := by
  refine hM.of (by decide) rfl (Nat.le_of_ble_eq_true rfl) ?_
  intro X hl hnm C E
  show hG Y X S_BT_init 0 0 f [(0, .ref a)] [] 0
  refine r_aload_n C d_BT_init_0 rfl rfl ?_
  refine r_objInit C d_BT_init_1 ml_BT_1 mi_obj mo_obj (Nat.le_of_ble_eq_true rfl) (Nat.le_of_ble_eq_true rfl) ?_
  refine r_nw (jP Y a 0) ⟨fun _ _ => a, rfl, fun k i hv => by
    obtain ⟨hk, rfl⟩ := hv
    obtain rfl : k = 0 := by omega
    exact h0, fun k i k' i' h1 h2 _ => ⟨by have := h1.1; have := h2.1; omega, by rw [h1.2, h2.2]⟩⟩ (fun f2 ⟨ad, ha, P⟩ => ?_)
  clear h0
  refine r_aload_n C d_BT_init_4 rfl rfl ?_
  refine r_bipush (v := 8) C d_BT_init_5 rfl ?_
  refine r_newq (t0 := 3) (N := 8) C d_BT_init_7 mk_BT_9 (by decide +kernel) rfl rfl (by decide) (Nat.le_of_ble_eq_true rfl) (Nat.le_of_ble_eq_true rfl) (fun q hq => ?_)
  refine r_putF C hq_BT d_BT_init_10 (j := 0) (fs' := [_, _, _, _, _, _, _, _, _, _, _, _]) (Nat.le_of_ble_eq_true rfl) mf_BT_11 rfl hnm rfl rfl rfl rfl ((hw_un _ (fun e => by rw [← e, jObj ha P] at hq; cases hq)).trans (jObj ha P)) (Nat.le_of_ble_eq_true rfl) rfl ?_
  refine r_nw (jP Y a 1) ⟨_, jStep ha P hq⟩ (fun f2 ⟨ad, ha, P⟩ => ?_)
  clear hq
  refine r_aload_n C d_BT_init_13 rfl rfl ?_
  refine r_bipush (v := 6) C d_BT_init_14 rfl ?_
  refine r_newq (t0 := 4) (N := 6) C d_BT_init_16 mk_BT_15 (by decide +kernel) rfl rfl (by decide) (Nat.le_of_ble_eq_true rfl) (Nat.le_of_ble_eq_true rfl) (fun q hq => ?_)
  refine r_putF C hq_BT d_BT_init_19 (j := 1) (fs' := [_, _, _, _, _, _, _, _, _, _, _, _]) (Nat.le_of_ble_eq_true rfl) mf_BT_17 rfl hnm rfl rfl rfl rfl ((hw_un _ (fun e => by rw [← e, jObj ha P] at hq; cases hq)).trans (jObj ha P)) (Nat.le_of_ble_eq_true rfl) rfl ?_
  refine r_nw (jP Y a 2) ⟨_, jStep ha P hq⟩ (fun f2 ⟨ad, ha, P⟩ => ?_)
  clear hq
  refine r_aload_n C d_BT_init_22 rfl rfl ?_
  refine r_bipush (v := 12) C d_BT_init_23 rfl ?_
  refine r_newq (t0 := 5) (N := 12) C d_BT_init_25 mk_BT_21 (by decide +kernel) rfl rfl (by decide) (Nat.le_of_ble_eq_true rfl) (Nat.le_of_ble_eq_true rfl) (fun q hq => ?_)
  refine r_putF C hq_BT d_BT_init_28 (j := 2) (fs' := [_, _, _, _, _, _, _, _, _, _, _, _]) (Nat.le_of_ble_eq_true rfl) mf_BT_23 rfl hnm rfl rfl rfl rfl ((hw_un _ (fun e => by rw [← e, jObj ha P] at hq; cases hq)).trans (jObj ha P)) (Nat.le_of_ble_eq_true rfl) rfl ?_
  refine r_nw (jP Y a 3) ⟨_, jStep ha P hq⟩ (fun f2 ⟨ad, ha, P⟩ => ?_)
  clear hq
  refine r_aload_n C d_BT_init_31 rfl rfl ?_
  refine r_bipush (v := 20) C d_BT_init_32 rfl ?_
  refine r_newq (t0 := 6) (N := 20) C d_BT_init_34 mk_BT_27 (by decide +kernel) rfl rfl (by decide) (Nat.le_of_ble_eq_true rfl) (Nat.le_of_ble_eq_true rfl) (fun q hq => ?_)
  refine r_putF C hq_BT d_BT_init_37 (j := 3) (fs' := [_, _, _, _, _, _, _, _, _, _, _, _]) (Nat.le_of_ble_eq_true rfl) mf_BT_29 rfl hnm rfl rfl rfl rfl ((hw_un _ (fun e => by rw [← e, jObj ha P] at hq; cases hq)).trans (jObj ha P)) (Nat.le_of_ble_eq_true rfl) rfl ?_
  refine r_nw (jP Y a 4) ⟨_, jStep ha P hq⟩ (fun f2 ⟨ad, ha, P⟩ => ?_)
  clear hq
  refine r_aload_n C d_BT_init_40 rfl rfl ?_
  refine r_bipush (v := 60) C d_BT_init_41 rfl ?_
  refine r_newa (t0 := 0) (N := 60) (a0 := (60, .inr (.inl (fun _ => 0)))) C d_BT_init_43 rfl ma_arrayClass_long rfl (fun _ h => h) (fun _ => rfl) rfl (by decide) (by decide) (Nat.le_of_ble_eq_true rfl) (Nat.le_of_ble_eq_true rfl) (fun q hq => ?_)
  refine r_putF C hq_BT d_BT_init_45 (j := 4) (fs' := [_, _, _, _, _, _, _, _, _, _, _, _]) (Nat.le_of_ble_eq_true rfl) mf_BT_33 rfl hnm rfl rfl rfl rfl ((hw_un _ (fun e => by rw [← e, jObj ha P] at hq; cases hq)).trans (jObj ha P)) (Nat.le_of_ble_eq_true rfl) rfl ?_
  refine r_nw (jP Y a 5) ⟨_, jStep ha P hq⟩ (fun f2 ⟨ad, ha, P⟩ => ?_)
  clear hq
  refine r_aload_n C d_BT_init_48 rfl rfl ?_
  refine r_bipush (v := 60) C d_BT_init_49 rfl ?_
  refine r_newa (t0 := 0) (N := 60) (a0 := (60, .inr (.inl (fun _ => 0)))) C d_BT_init_51 rfl ma_arrayClass_long rfl (fun _ h => h) (fun _ => rfl) rfl (by decide) (by decide) (Nat.le_of_ble_eq_true rfl) (Nat.le_of_ble_eq_true rfl) (fun q hq => ?_)
  refine r_putF C hq_BT d_BT_init_53 (j := 5) (fs' := [_, _, _, _, _, _, _, _, _, _, _, _]) (Nat.le_of_ble_eq_true rfl) mf_BT_37 rfl hnm rfl rfl rfl rfl ((hw_un _ (fun e => by rw [← e, jObj ha P] at hq; cases hq)).trans (jObj ha P)) (Nat.le_of_ble_eq_true rfl) rfl ?_
  refine r_nw (jP Y a 6) ⟨_, jStep ha P hq⟩ (fun f2 ⟨ad, ha, P⟩ => ?_)
  clear hq
  refine r_aload_n C d_BT_init_56 rfl rfl ?_
  refine r_new C hq_Sea d_BT_init_57 mk_BT_40 mb_Sea mz_Sea ty_Sea_ok df_Sea (Nat.le_of_ble_eq_true rfl) (Nat.le_of_ble_eq_true rfl) (fun q hq => ?_)
  refine r_dup C d_BT_init_60 rfl ?_
  refine r_callI C (k_Sea_init Y _ (hw_us _ _ _)) mQ_Sea_init d_BT_init_61 ml_BT_42 mi_Sea_init rfl rfl rfl (Nat.le_of_ble_eq_true rfl) ⟨⟨Nat.le_of_ble_eq_true rfl, Nat.le_of_ble_eq_true rfl⟩, Nat.le_of_ble_eq_true rfl, Nat.le_of_ble_eq_true rfl⟩ (fun v f' hp => ?_)
  obtain ⟨rfl, q1, q2, h1, h2, b1, b2, rfl⟩ := hp
  rw [hw_un _ (Ne.symm b1)] at h1
  rw [hw_cm _ _ b1, hw_un _ (Ne.symm b2)] at h2
  rw [hw_cm _ _ b1, hw_cm _ _ b2, hw_uu]
  have h4 : hw_u (hw_u f2 q1 (eQ (Y.2 5) 12 (fun _ => none))) q2 (eJ (Y.2 0) 12 (fun _ => 0)) q = none := by rw [hw_un _ b2, hw_un _ b1]; exact hq
  have hO := jObj ha P
  have n1 : a ≠ q1 := fun e => by rw [← e, hO] at h1; cases h1
  have n2 : a ≠ q2 := fun e => by rw [← e, hw_un _ n1, hO] at h2; cases h2
  have n3 : a ≠ q := fun e => by rw [← e, hO] at hq; cases hq
  refine r_putF C hq_BT d_BT_init_64 (j := 6) (fs' := [_, _, _, _, _, _, _, _, _, _, _, _]) (Nat.le_of_ble_eq_true rfl) mf_BT_43 rfl hnm rfl rfl rfl rfl ((hw_un _ n3).trans ((hw_un _ n2).trans ((hw_un _ n1).trans hO))) (Nat.le_of_ble_eq_true rfl) rfl ?_
  refine r_vret C E rfl d_BT_init_67 (Nat.le_of_ble_eq_true rfl) (Nat.le_of_ble_eq_true rfl) ?_
  have P1 := kAdd P (k0 := 8) (i0 := 0) h1 (fun h => absurd h.1 (by omega)) (eQ (Y.2 5) 12 (fun _ => none))
  have P2 := kAdd P1 (k0 := 9) (i0 := 0) h2 (fun h => h.elim (fun h => absurd h.1 (by omega)) (fun h => by omega)) (eJ (Y.2 0) 12 (fun _ => 0))
  have P3 := kAdd P2 (k0 := 7) (i0 := 0) h4 (fun h => h.elim (fun h => h.elim (fun h => absurd h.1 (by omega)) (fun h => by omega)) (fun h => by omega)) (.inr (5, [.ref q1, .ref q2, .int 0, .long (-1), .int 0, .int 0]))
  have P4 := kPut P3 (k0 := 0) (i0 := 0) (Or.inl (Or.inl (Or.inl ⟨by decide, rfl⟩))) (.inr (0, [.ref (ad 1 0), .ref (ad 2 0), .ref (ad 3 0), .ref (ad 4 0), .ref (ad 5 0), .ref (ad 6 0), .ref q, .int 0, .int 0, .int 0, .int 0, .int 0]))
  have e0 : (hAd (hAd (hAd ad 8 0 q1) 9 0 q2) 7 0 q) 0 0 = a := ha
  rw [e0] at P4
  refine ⟨rfl, (hAd (hAd (hAd ad 8 0 q1) 9 0 q2) 7 0 q), e0, kEnd2 P4 (fun k i h => ?_) (kV_cases rfl ?_ ?_ ?_ ?_ rfl rfl rfl rfl rfl (fun i h => absurd h (Nat.not_lt_zero i)) (fun i h => absurd h (Nat.not_lt_zero i)) (fun i h => absurd h (Nat.not_lt_zero i)) (fun i h => absurd h (Nat.not_lt_zero i)) (fun i h => absurd h (Nat.not_lt_zero i)) (fun i h => absurd h (Nat.not_lt_zero i)) (fun i h => absurd h (Nat.not_lt_zero i)))⟩
  · show (((k ≤ 6 ∧ i = 0) ∨ (k = 8 ∧ i = 0)) ∨ (k = 9 ∧ i = 0)) ∨ (k = 7 ∧ i = 0)
    rcases h with h | h | h | h | h
    · omega
    · exact absurd h.2.2 (Nat.not_lt_zero i)
    · exact absurd h.2 (Nat.not_lt_zero i)
    · exact absurd h.2 (Nat.not_lt_zero i)
    · exact absurd h.2 (Nat.not_lt_zero i)
  · exact congrArg (eQ (Y.2 3) 8) (if_none0 _)
  · exact congrArg (eQ (Y.2 4) 6) (if_none0 _)
  · exact congrArg (eQ (Y.2 5) 12) (if_none0 _)
  · exact congrArg (eQ (Y.2 6) 20) (if_none0 _)
