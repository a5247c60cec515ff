/-! the reference's constructor: its rows come one by one -/
def mArr (Y : hY) (k : Nat) : va_E := mE Y (fun _ _ => 0) z_0 (fun _ => false) k 0
def iF (ad : Nat → Nat → Nat) (n : Nat) : List Value := [.int 0, .int 0, (if 1 ≤ n then Value.ref (ad 1 0) else .null), (if 2 ≤ n then Value.ref (ad 2 0) else .null), (if 3 ≤ n then Value.ref (ad 3 0) else .null), (if 4 ≤ n then Value.ref (ad 4 0) else .null), (if 5 ≤ n then Value.ref (ad 5 0) else .null), (if 6 ≤ n then Value.ref (ad 6 0) else .null), .int 0, (if 7 ≤ n then Value.ref (ad 7 0) else .null), (if 8 ≤ n then Value.ref (ad 8 0) else .null), (if 9 ≤ n then Value.ref (ad 9 0) else .null), .int 0, .int 0, (if 10 ≤ n then Value.ref (ad 10 0) else .null), (if 11 ≤ n then Value.ref (ad 11 0) else .null), .long 0, (if 12 ≤ n then Value.ref (ad 12 0) else .null), (if 13 ≤ n then Value.ref (ad 13 0) else .null), (if 14 ≤ n then Value.ref (ad 14 0) else .null), (if 15 ≤ n then Value.ref (ad 15 0) else .null), (if 16 ≤ n then Value.ref (ad 16 0) else .null), (if 17 ≤ n then Value.ref (ad 17 0) else .null), (if 18 ≤ n then Value.ref (ad 18 0) else .null), .int 0, (if 19 ≤ n then Value.ref (ad 19 0) else .null), (if 20 ≤ n then Value.ref (ad 20 0) else .null), (if 21 ≤ n then Value.ref (ad 21 0) else .null)]
def iE (Y : hY) (ad : Nat → Nat → Nat) (n : Nat) : Nat → Nat → va_E := fun k _ => match k with
  | 0 => .inr (6, iF ad n)
  | k + 1 => mArr Y (k + 1)
def iV (n : Nat) : Nat → Nat → Prop := fun k i => k ≤ n ∧ i = 0
def iP (Y : hY) (a n : Nat) (f : hw_F) : Prop := ∃ ad, ad 0 0 = a ∧ hPic ad (iV n) (iE Y ad n) f
theorem iObj {Y : hY} {a n : Nat} {f : hw_F} {ad : Nat → Nat → Nat} (ha : ad 0 0 = a) (P : hPic ad (iV n) (iE Y ad n) f) : f a = some (.inr (6, iF ad n)) := by
  rw [← ha]
  exact P.1 0 0 ⟨Nat.zero_le _, rfl⟩
theorem iStep {Y : hY} {a n q : Nat} {f : hw_F} {ad : Nat → Nat → Nat} (ha : ad 0 0 = a) (P : hPic ad (iV n) (iE Y ad n) f) (hq : f q = none) : hAd ad (n + 1) 0 q 0 0 = a ∧ hPic (hAd ad (n + 1) 0 q) (iV (n + 1)) (iE Y (hAd ad (n + 1) 0 q) (n + 1)) (hw_u (hw_u f q (mArr Y (n + 1))) a (.inr (6, iF (hAd ad (n + 1) 0 q) (n + 1)))) := by
  have h0 : hAd ad (n + 1) 0 q 0 0 = a := by rw [hAd_n q (by omega), ha]
  refine ⟨h0, ?_⟩
  have P1 := P.add (k0 := n + 1) (i0 := 0) (q := q) (V' := iV (n + 1)) (E' := fun k i => if k = n + 1 then mArr Y (n + 1) else iE Y ad n k i) hq (fun k i hv => by
    rcases Nat.lt_or_ge k (n + 1) with h | h
    · exact Or.inl ⟨by omega, hv.2⟩
    · exact Or.inr ⟨by have := hv.1; omega, hv.2⟩) (fun h => absurd h.1 (by omega)) (fun k i hv _ => by
    have : k ≠ n + 1 := by have := hv.1; omega
    simp [this])
  have P2 := P1.put (k0 := 0) (i0 := 0) (E' := iE Y (hAd ad (n + 1) 0 q) (n + 1)) ⟨Nat.zero_le _, rfl⟩ (fun k i hv hn => by
    match k with
    | 0 => exact absurd ⟨rfl, hv.2⟩ hn
    | k + 1 =>
      show mArr Y (k + 1) = if k + 1 = n + 1 then mArr Y (n + 1) else mArr Y (k + 1)
      split
      · rename_i h; rw [h]
      · rfl)
  rw [h0] at P2
  simp only [if_true] at P2
  exact P2
set_option maxHeartbeats 4000000 in
set_option maxRecDepth 100000 in
theorem m_init (Y : hY) (l : Launch) {a : Nat} {f : hw_F} (h0 : f a = some (.inr (6, [.int 0, .int 0, .null, .null, .null, .null, .null, .null, .int 0, .null, .null, .null, .int 0, .int 0, .null, .null, .long 0, .null, .null, .null, .null, .null, .null, .null, .int 0, .null, .null, .null]))) : hM Y l y_Mod_init S_Mod_init (none) [.ref a] f (fun r f' => r = none ∧ ∃ ad, ad 0 0 = a ∧ mPic Y ad z_0 (fun _ => false) f') := by
  refine hM.of (by decide) rfl (Nat.le_of_ble_eq_true rfl) ?_
  intro X hl hnm C E
  show hG Y X S_Mod_init 0 0 f [(0, .ref a)] [] 0
  refine r_aload_n C d_Mod_init_0 rfl rfl ?_
  refine r_objInit C d_Mod_init_1 ml_Mod_1 mi_obj mo_obj (Nat.le_of_ble_eq_true rfl) (Nat.le_of_ble_eq_true rfl) ?_
  refine r_nw (iP Y a 0) ⟨fun _ _ => a, rfl, fun k i hv => by
    obtain ⟨hk, rfl⟩ := hv
    obtain rfl : k = 0 := by omega
    exact h0, fun k i k' i' h1 h2 _ => ⟨by have := h1.1; have := h2.1; omega, by rw [h1.2, h2.2]⟩⟩ (fun f2 ⟨ad, ha, P⟩ => ?_)
  clear h0
  refine r_aload_n C d_Mod_init_4 rfl rfl ?_
  refine r_bipush (v := 6) C d_Mod_init_5 rfl ?_
  refine r_newa (t0 := 2) (N := 6) (a0 := (6, .inl (fun _ => 0))) C d_Mod_init_7 rfl ma_arrayClass_boolean rfl (fun _ h => h) (fun _ => rfl) rfl (by decide) (by decide) (Nat.le_of_ble_eq_true rfl) (Nat.le_of_ble_eq_true rfl) (fun q hq => ?_)
  refine r_putF C hq_Mod d_Mod_init_9 (j := 2) (fs' := [_, _, _, _, _, _, _, _, _, _, _, _, _, _, _, _, _, _, _, _, _, _, _, _, _, _, _, _]) (Nat.le_of_ble_eq_true rfl) mf_Mod_7 rfl hnm rfl rfl rfl rfl ((hw_un _ (fun e => by rw [← e, iObj ha P] at hq; cases hq)).trans (iObj ha P)) (Nat.le_of_ble_eq_true rfl) rfl ?_
  refine r_nw (iP Y a 1) ⟨_, iStep ha P hq⟩ (fun f2 ⟨ad, ha, P⟩ => ?_)
  clear hq
  refine r_aload_n C d_Mod_init_12 rfl rfl ?_
  refine r_bipush (v := 6) C d_Mod_init_13 rfl ?_
  refine r_newa (t0 := 2) (N := 6) (a0 := (6, .inl (fun _ => 0))) C d_Mod_init_15 rfl ma_arrayClass_boolean rfl (fun _ h => h) (fun _ => rfl) rfl (by decide) (by decide) (Nat.le_of_ble_eq_true rfl) (Nat.le_of_ble_eq_true rfl) (fun q hq => ?_)
  refine r_putF C hq_Mod d_Mod_init_17 (j := 3) (fs' := [_, _, _, _, _, _, _, _, _, _, _, _, _, _, _, _, _, _, _, _, _, _, _, _, _, _, _, _]) (Nat.le_of_ble_eq_true rfl) mf_Mod_13 rfl hnm rfl rfl rfl rfl ((hw_un _ (fun e => by rw [← e, iObj ha P] at hq; cases hq)).trans (iObj ha P)) (Nat.le_of_ble_eq_true rfl) rfl ?_
  refine r_nw (iP Y a 2) ⟨_, iStep ha P hq⟩ (fun f2 ⟨ad, ha, P⟩ => ?_)
  clear hq
  refine r_aload_n C d_Mod_init_20 rfl rfl ?_
  refine r_bipush (v := 6) C d_Mod_init_21 rfl ?_
  refine r_newa (t0 := 0) (N := 6) (a0 := (6, .inr (.inl (fun _ => 0)))) C d_Mod_init_23 rfl ma_arrayClass_long rfl (fun _ h => h) (fun _ => rfl) rfl (by decide) (by decide) (Nat.le_of_ble_eq_true rfl) (Nat.le_of_ble_eq_true rfl) (fun q hq => ?_)
  refine r_putF C hq_Mod d_Mod_init_25 (j := 4) (fs' := [_, _, _, _, _, _, _, _, _, _, _, _, _, _, _, _, _, _, _, _, _, _, _, _, _, _, _, _]) (Nat.le_of_ble_eq_true rfl) mf_Mod_16 rfl hnm rfl rfl rfl rfl ((hw_un _ (fun e => by rw [← e, iObj ha P] at hq; cases hq)).trans (iObj ha P)) (Nat.le_of_ble_eq_true rfl) rfl ?_
  refine r_nw (iP Y a 3) ⟨_, iStep ha P hq⟩ (fun f2 ⟨ad, ha, P⟩ => ?_)
  clear hq
  refine r_aload_n C d_Mod_init_28 rfl rfl ?_
  refine r_bipush (v := 6) C d_Mod_init_29 rfl ?_
  refine r_newa (t0 := 1) (N := 6) (a0 := (6, .inl (fun _ => 0))) C d_Mod_init_31 rfl ma_arrayClass_int rfl (fun _ h => h) (fun _ => rfl) rfl (by decide) (by decide) (Nat.le_of_ble_eq_true rfl) (Nat.le_of_ble_eq_true rfl) (fun q hq => ?_)
  refine r_putF C hq_Mod d_Mod_init_33 (j := 5) (fs' := [_, _, _, _, _, _, _, _, _, _, _, _, _, _, _, _, _, _, _, _, _, _, _, _, _, _, _, _]) (Nat.le_of_ble_eq_true rfl) mf_Mod_20 rfl hnm rfl rfl rfl rfl ((hw_un _ (fun e => by rw [← e, iObj ha P] at hq; cases hq)).trans (iObj ha P)) (Nat.le_of_ble_eq_true rfl) rfl ?_
  refine r_nw (iP Y a 4) ⟨_, iStep ha P hq⟩ (fun f2 ⟨ad, ha, P⟩ => ?_)
  clear hq
  refine r_aload_n C d_Mod_init_36 rfl rfl ?_
  refine r_bipush (v := 48) C d_Mod_init_37 rfl ?_
  refine r_newa (t0 := 1) (N := 48) (a0 := (48, .inl (fun _ => 0))) C d_Mod_init_39 rfl ma_arrayClass_int rfl (fun _ h => h) (fun _ => rfl) rfl (by decide) (by decide) (Nat.le_of_ble_eq_true rfl) (Nat.le_of_ble_eq_true rfl) (fun q hq => ?_)
  refine r_putF C hq_Mod d_Mod_init_41 (j := 6) (fs' := [_, _, _, _, _, _, _, _, _, _, _, _, _, _, _, _, _, _, _, _, _, _, _, _, _, _, _, _]) (Nat.le_of_ble_eq_true rfl) mf_Mod_24 rfl hnm rfl rfl rfl rfl ((hw_un _ (fun e => by rw [← e, iObj ha P] at hq; cases hq)).trans (iObj ha P)) (Nat.le_of_ble_eq_true rfl) rfl ?_
  refine r_nw (iP Y a 5) ⟨_, iStep ha P hq⟩ (fun f2 ⟨ad, ha, P⟩ => ?_)
  clear hq
  refine r_aload_n C d_Mod_init_44 rfl rfl ?_
  refine r_bipush (v := 48) C d_Mod_init_45 rfl ?_
  refine r_newa (t0 := 2) (N := 48) (a0 := (48, .inl (fun _ => 0))) C d_Mod_init_47 rfl ma_arrayClass_boolean rfl (fun _ h => h) (fun _ => rfl) rfl (by decide) (by decide) (Nat.le_of_ble_eq_true rfl) (Nat.le_of_ble_eq_true rfl) (fun q hq => ?_)
  refine r_putF C hq_Mod d_Mod_init_49 (j := 7) (fs' := [_, _, _, _, _, _, _, _, _, _, _, _, _, _, _, _, _, _, _, _, _, _, _, _, _, _, _, _]) (Nat.le_of_ble_eq_true rfl) mf_Mod_27 rfl hnm rfl rfl rfl rfl ((hw_un _ (fun e => by rw [← e, iObj ha P] at hq; cases hq)).trans (iObj ha P)) (Nat.le_of_ble_eq_true rfl) rfl ?_
  refine r_nw (iP Y a 6) ⟨_, iStep ha P hq⟩ (fun f2 ⟨ad, ha, P⟩ => ?_)
  clear hq
  refine r_aload_n C d_Mod_init_52 rfl rfl ?_
  refine r_bipush (v := 12) C d_Mod_init_53 rfl ?_
  refine r_newa (t0 := 1) (N := 12) (a0 := (12, .inl (fun _ => 0))) C d_Mod_init_55 rfl ma_arrayClass_int rfl (fun _ h => h) (fun _ => rfl) rfl (by decide) (by decide) (Nat.le_of_ble_eq_true rfl) (Nat.le_of_ble_eq_true rfl) (fun q hq => ?_)
  refine r_putF C hq_Mod d_Mod_init_57 (j := 9) (fs' := [_, _, _, _, _, _, _, _, _, _, _, _, _, _, _, _, _, _, _, _, _, _, _, _, _, _, _, _]) (Nat.le_of_ble_eq_true rfl) mf_Mod_30 rfl hnm rfl rfl rfl rfl ((hw_un _ (fun e => by rw [← e, iObj ha P] at hq; cases hq)).trans (iObj ha P)) (Nat.le_of_ble_eq_true rfl) rfl ?_
  refine r_nw (iP Y a 7) ⟨_, iStep ha P hq⟩ (fun f2 ⟨ad, ha, P⟩ => ?_)
  clear hq
  refine r_aload_n C d_Mod_init_60 rfl rfl ?_
  refine r_bipush (v := 12) C d_Mod_init_61 rfl ?_
  refine r_newa (t0 := 0) (N := 12) (a0 := (12, .inr (.inl (fun _ => 0)))) C d_Mod_init_63 rfl ma_arrayClass_long rfl (fun _ h => h) (fun _ => rfl) rfl (by decide) (by decide) (Nat.le_of_ble_eq_true rfl) (Nat.le_of_ble_eq_true rfl) (fun q hq => ?_)
  refine r_putF C hq_Mod d_Mod_init_65 (j := 10) (fs' := [_, _, _, _, _, _, _, _, _, _, _, _, _, _, _, _, _, _, _, _, _, _, _, _, _, _, _, _]) (Nat.le_of_ble_eq_true rfl) mf_Mod_33 rfl hnm rfl rfl rfl rfl ((hw_un _ (fun e => by rw [← e, iObj ha P] at hq; cases hq)).trans (iObj ha P)) (Nat.le_of_ble_eq_true rfl) rfl ?_
  refine r_nw (iP Y a 8) ⟨_, iStep ha P hq⟩ (fun f2 ⟨ad, ha, P⟩ => ?_)
  clear hq
  refine r_aload_n C d_Mod_init_68 rfl rfl ?_
  refine r_bipush (v := 96) C d_Mod_init_69 rfl ?_
  refine r_newa (t0 := 2) (N := 96) (a0 := (96, .inl (fun _ => 0))) C d_Mod_init_71 rfl ma_arrayClass_boolean rfl (fun _ h => h) (fun _ => rfl) rfl (by decide) (by decide) (Nat.le_of_ble_eq_true rfl) (Nat.le_of_ble_eq_true rfl) (fun q hq => ?_)
  refine r_putF C hq_Mod d_Mod_init_73 (j := 11) (fs' := [_, _, _, _, _, _, _, _, _, _, _, _, _, _, _, _, _, _, _, _, _, _, _, _, _, _, _, _]) (Nat.le_of_ble_eq_true rfl) mf_Mod_36 rfl hnm rfl rfl rfl rfl ((hw_un _ (fun e => by rw [← e, iObj ha P] at hq; cases hq)).trans (iObj ha P)) (Nat.le_of_ble_eq_true rfl) rfl ?_
  refine r_nw (iP Y a 9) ⟨_, iStep ha P hq⟩ (fun f2 ⟨ad, ha, P⟩ => ?_)
  clear hq
  refine r_aload_n C d_Mod_init_76 rfl rfl ?_
  refine r_bipush (v := 12) C d_Mod_init_77 rfl ?_
  refine r_newa (t0 := 2) (N := 12) (a0 := (12, .inl (fun _ => 0))) C d_Mod_init_79 rfl ma_arrayClass_boolean rfl (fun _ h => h) (fun _ => rfl) rfl (by decide) (by decide) (Nat.le_of_ble_eq_true rfl) (Nat.le_of_ble_eq_true rfl) (fun q hq => ?_)
  refine r_putF C hq_Mod d_Mod_init_81 (j := 14) (fs' := [_, _, _, _, _, _, _, _, _, _, _, _, _, _, _, _, _, _, _, _, _, _, _, _, _, _, _, _]) (Nat.le_of_ble_eq_true rfl) mf_Mod_39 rfl hnm rfl rfl rfl rfl ((hw_un _ (fun e => by rw [← e, iObj ha P] at hq; cases hq)).trans (iObj ha P)) (Nat.le_of_ble_eq_true rfl) rfl ?_
  refine r_nw (iP Y a 10) ⟨_, iStep ha P hq⟩ (fun f2 ⟨ad, ha, P⟩ => ?_)
  clear hq
  refine r_aload_n C d_Mod_init_84 rfl rfl ?_
  refine r_bipush (v := 12) C d_Mod_init_85 rfl ?_
  refine r_newa (t0 := 2) (N := 12) (a0 := (12, .inl (fun _ => 0))) C d_Mod_init_87 rfl ma_arrayClass_boolean rfl (fun _ h => h) (fun _ => rfl) rfl (by decide) (by decide) (Nat.le_of_ble_eq_true rfl) (Nat.le_of_ble_eq_true rfl) (fun q hq => ?_)
  refine r_putF C hq_Mod d_Mod_init_89 (j := 15) (fs' := [_, _, _, _, _, _, _, _, _, _, _, _, _, _, _, _, _, _, _, _, _, _, _, _, _, _, _, _]) (Nat.le_of_ble_eq_true rfl) mf_Mod_42 rfl hnm rfl rfl rfl rfl ((hw_un _ (fun e => by rw [← e, iObj ha P] at hq; cases hq)).trans (iObj ha P)) (Nat.le_of_ble_eq_true rfl) rfl ?_
  refine r_nw (iP Y a 11) ⟨_, iStep ha P hq⟩ (fun f2 ⟨ad, ha, P⟩ => ?_)
  clear hq
  refine r_aload_n C d_Mod_init_92 rfl rfl ?_
  refine r_bipush (v := 8) C d_Mod_init_93 rfl ?_
  refine r_newa (t0 := 1) (N := 8) (a0 := (8, .inl (fun _ => 0))) C d_Mod_init_95 rfl ma_arrayClass_int rfl (fun _ h => h) (fun _ => rfl) rfl (by decide) (by decide) (Nat.le_of_ble_eq_true rfl) (Nat.le_of_ble_eq_true rfl) (fun q hq => ?_)
  refine r_putF C hq_Mod d_Mod_init_97 (j := 17) (fs' := [_, _, _, _, _, _, _, _, _, _, _, _, _, _, _, _, _, _, _, _, _, _, _, _, _, _, _, _]) (Nat.le_of_ble_eq_true rfl) mf_Mod_45 rfl hnm rfl rfl rfl rfl ((hw_un _ (fun e => by rw [← e, iObj ha P] at hq; cases hq)).trans (iObj ha P)) (Nat.le_of_ble_eq_true rfl) rfl ?_
  refine r_nw (iP Y a 12) ⟨_, iStep ha P hq⟩ (fun f2 ⟨ad, ha, P⟩ => ?_)
  clear hq
  refine r_aload_n C d_Mod_init_100 rfl rfl ?_
  refine r_bipush (v := 48) C d_Mod_init_101 rfl ?_
  refine r_newa (t0 := 0) (N := 48) (a0 := (48, .inr (.inl (fun _ => 0)))) C d_Mod_init_103 rfl ma_arrayClass_long rfl (fun _ h => h) (fun _ => rfl) rfl (by decide) (by decide) (Nat.le_of_ble_eq_true rfl) (Nat.le_of_ble_eq_true rfl) (fun q hq => ?_)
  refine r_putF C hq_Mod d_Mod_init_105 (j := 18) (fs' := [_, _, _, _, _, _, _, _, _, _, _, _, _, _, _, _, _, _, _, _, _, _, _, _, _, _, _, _]) (Nat.le_of_ble_eq_true rfl) mf_Mod_48 rfl hnm rfl rfl rfl rfl ((hw_un _ (fun e => by rw [← e, iObj ha P] at hq; cases hq)).trans (iObj ha P)) (Nat.le_of_ble_eq_true rfl) rfl ?_
  refine r_nw (iP Y a 13) ⟨_, iStep ha P hq⟩ (fun f2 ⟨ad, ha, P⟩ => ?_)
  clear hq
  refine r_aload_n C d_Mod_init_108 rfl rfl ?_
  refine r_bipush (v := 48) C d_Mod_init_109 rfl ?_
  refine r_newa (t0 := 0) (N := 48) (a0 := (48, .inr (.inl (fun _ => 0)))) C d_Mod_init_111 rfl ma_arrayClass_long rfl (fun _ h => h) (fun _ => rfl) rfl (by decide) (by decide) (Nat.le_of_ble_eq_true rfl) (Nat.le_of_ble_eq_true rfl) (fun q hq => ?_)
  refine r_putF C hq_Mod d_Mod_init_113 (j := 19) (fs' := [_, _, _, _, _, _, _, _, _, _, _, _, _, _, _, _, _, _, _, _, _, _, _, _, _, _, _, _]) (Nat.le_of_ble_eq_true rfl) mf_Mod_51 rfl hnm rfl rfl rfl rfl ((hw_un _ (fun e => by rw [← e, iObj ha P] at hq; cases hq)).trans (iObj ha P)) (Nat.le_of_ble_eq_true rfl) rfl ?_
  refine r_nw (iP Y a 14) ⟨_, iStep ha P hq⟩ (fun f2 ⟨ad, ha, P⟩ => ?_)
  clear hq
  refine r_aload_n C d_Mod_init_116 rfl rfl ?_
  refine r_bipush (v := 48) C d_Mod_init_117 rfl ?_
  refine r_newa (t0 := 0) (N := 48) (a0 := (48, .inr (.inl (fun _ => 0)))) C d_Mod_init_119 rfl ma_arrayClass_long rfl (fun _ h => h) (fun _ => rfl) rfl (by decide) (by decide) (Nat.le_of_ble_eq_true rfl) (Nat.le_of_ble_eq_true rfl) (fun q hq => ?_)
  refine r_putF C hq_Mod d_Mod_init_121 (j := 20) (fs' := [_, _, _, _, _, _, _, _, _, _, _, _, _, _, _, _, _, _, _, _, _, _, _, _, _, _, _, _]) (Nat.le_of_ble_eq_true rfl) mf_Mod_54 rfl hnm rfl rfl rfl rfl ((hw_un _ (fun e => by rw [← e, iObj ha P] at hq; cases hq)).trans (iObj ha P)) (Nat.le_of_ble_eq_true rfl) rfl ?_
  refine r_nw (iP Y a 15) ⟨_, iStep ha P hq⟩ (fun f2 ⟨ad, ha, P⟩ => ?_)
  clear hq
  refine r_aload_n C d_Mod_init_124 rfl rfl ?_
  refine r_bipush (v := 60) C d_Mod_init_125 rfl ?_
  refine r_newa (t0 := 2) (N := 60) (a0 := (60, .inl (fun _ => 0))) C d_Mod_init_127 rfl ma_arrayClass_boolean rfl (fun _ h => h) (fun _ => rfl) rfl (by decide) (by decide) (Nat.le_of_ble_eq_true rfl) (Nat.le_of_ble_eq_true rfl) (fun q hq => ?_)
  refine r_putF C hq_Mod d_Mod_init_129 (j := 21) (fs' := [_, _, _, _, _, _, _, _, _, _, _, _, _, _, _, _, _, _, _, _, _, _, _, _, _, _, _, _]) (Nat.le_of_ble_eq_true rfl) mf_Mod_57 rfl hnm rfl rfl rfl rfl ((hw_un _ (fun e => by rw [← e, iObj ha P] at hq; cases hq)).trans (iObj ha P)) (Nat.le_of_ble_eq_true rfl) rfl ?_
  refine r_nw (iP Y a 16) ⟨_, iStep ha P hq⟩ (fun f2 ⟨ad, ha, P⟩ => ?_)
  clear hq
  refine r_aload_n C d_Mod_init_132 rfl rfl ?_
  refine r_bipush (v := 60) C d_Mod_init_133 rfl ?_
  refine r_newa (t0 := 0) (N := 60) (a0 := (60, .inr (.inl (fun _ => 0)))) C d_Mod_init_135 rfl ma_arrayClass_long rfl (fun _ h => h) (fun _ => rfl) rfl (by decide) (by decide) (Nat.le_of_ble_eq_true rfl) (Nat.le_of_ble_eq_true rfl) (fun q hq => ?_)
  refine r_putF C hq_Mod d_Mod_init_137 (j := 22) (fs' := [_, _, _, _, _, _, _, _, _, _, _, _, _, _, _, _, _, _, _, _, _, _, _, _, _, _, _, _]) (Nat.le_of_ble_eq_true rfl) mf_Mod_60 rfl hnm rfl rfl rfl rfl ((hw_un _ (fun e => by rw [← e, iObj ha P] at hq; cases hq)).trans (iObj ha P)) (Nat.le_of_ble_eq_true rfl) rfl ?_
  refine r_nw (iP Y a 17) ⟨_, iStep ha P hq⟩ (fun f2 ⟨ad, ha, P⟩ => ?_)
  clear hq
  refine r_aload_n C d_Mod_init_140 rfl rfl ?_
  refine r_bipush (v := 60) C d_Mod_init_141 rfl ?_
  refine r_newa (t0 := 0) (N := 60) (a0 := (60, .inr (.inl (fun _ => 0)))) C d_Mod_init_143 rfl ma_arrayClass_long rfl (fun _ h => h) (fun _ => rfl) rfl (by decide) (by decide) (Nat.le_of_ble_eq_true rfl) (Nat.le_of_ble_eq_true rfl) (fun q hq => ?_)
  refine r_putF C hq_Mod d_Mod_init_145 (j := 23) (fs' := [_, _, _, _, _, _, _, _, _, _, _, _, _, _, _, _, _, _, _, _, _, _, _, _, _, _, _, _]) (Nat.le_of_ble_eq_true rfl) mf_Mod_63 rfl hnm rfl rfl rfl rfl ((hw_un _ (fun e => by rw [← e, iObj ha P] at hq; cases hq)).trans (iObj ha P)) (Nat.le_of_ble_eq_true rfl) rfl ?_
  refine r_nw (iP Y a 18) ⟨_, iStep ha P hq⟩ (fun f2 ⟨ad, ha, P⟩ => ?_)
  clear hq
  refine r_aload_n C d_Mod_init_148 rfl rfl ?_
  refine r_bipush (v := 20) C d_Mod_init_149 rfl ?_
  refine r_newa (t0 := 1) (N := 20) (a0 := (20, .inl (fun _ => 0))) C d_Mod_init_151 rfl ma_arrayClass_int rfl (fun _ h => h) (fun _ => rfl) rfl (by decide) (by decide) (Nat.le_of_ble_eq_true rfl) (Nat.le_of_ble_eq_true rfl) (fun q hq => ?_)
  refine r_putF C hq_Mod d_Mod_init_153 (j := 25) (fs' := [_, _, _, _, _, _, _, _, _, _, _, _, _, _, _, _, _, _, _, _, _, _, _, _, _, _, _, _]) (Nat.le_of_ble_eq_true rfl) mf_Mod_66 rfl hnm rfl rfl rfl rfl ((hw_un _ (fun e => by rw [← e, iObj ha P] at hq; cases hq)).trans (iObj ha P)) (Nat.le_of_ble_eq_true rfl) rfl ?_
  refine r_nw (iP Y a 19) ⟨_, iStep ha P hq⟩ (fun f2 ⟨ad, ha, P⟩ => ?_)
  clear hq
  refine r_aload_n C d_Mod_init_156 rfl rfl ?_
  refine r_bipush (v := 20) C d_Mod_init_157 rfl ?_
  refine r_newa (t0 := 1) (N := 20) (a0 := (20, .inl (fun _ => 0))) C d_Mod_init_159 rfl ma_arrayClass_int rfl (fun _ h => h) (fun _ => rfl) rfl (by decide) (by decide) (Nat.le_of_ble_eq_true rfl) (Nat.le_of_ble_eq_true rfl) (fun q hq => ?_)
  refine r_putF C hq_Mod d_Mod_init_161 (j := 26) (fs' := [_, _, _, _, _, _, _, _, _, _, _, _, _, _, _, _, _, _, _, _, _, _, _, _, _, _, _, _]) (Nat.le_of_ble_eq_true rfl) mf_Mod_69 rfl hnm rfl rfl rfl rfl ((hw_un _ (fun e => by rw [← e, iObj ha P] at hq; cases hq)).trans (iObj ha P)) (Nat.le_of_ble_eq_true rfl) rfl ?_
  refine r_nw (iP Y a 20) ⟨_, iStep ha P hq⟩ (fun f2 ⟨ad, ha, P⟩ => ?_)
  clear hq
  refine r_aload_n C d_Mod_init_164 rfl rfl ?_
  refine r_bipush (v := 12) C d_Mod_init_165 rfl ?_
  refine r_newa (t0 := 2) (N := 12) (a0 := (12, .inl (fun _ => 0))) C d_Mod_init_167 rfl ma_arrayClass_boolean rfl (fun _ h => h) (fun _ => rfl) rfl (by decide) (by decide) (Nat.le_of_ble_eq_true rfl) (Nat.le_of_ble_eq_true rfl) (fun q hq => ?_)
  refine r_putF C hq_Mod d_Mod_init_169 (j := 27) (fs' := [_, _, _, _, _, _, _, _, _, _, _, _, _, _, _, _, _, _, _, _, _, _, _, _, _, _, _, _]) (Nat.le_of_ble_eq_true rfl) mf_Mod_72 rfl hnm rfl rfl rfl rfl ((hw_un _ (fun e => by rw [← e, iObj ha P] at hq; cases hq)).trans (iObj ha P)) (Nat.le_of_ble_eq_true rfl) rfl ?_
  refine r_nw (iP Y a 21) ⟨_, iStep ha P hq⟩ (fun f2 ⟨ad, ha, P⟩ => ?_)
  clear hq
  refine r_vret C E rfl d_Mod_init_172 (Nat.le_of_ble_eq_true rfl) (Nat.le_of_ble_eq_true rfl) ?_
  exact ⟨rfl, ad, ha, hPic.same P (fun k i hv => ⟨by have := hv.1; omega, hv.2⟩) (fun k i hv => by
    obtain ⟨hk, rfl⟩ := hv
    exact lt22 (P := fun k => mE Y ad z_0 (fun _ => false) k 0 = iE Y ad 21 k 0) rfl rfl rfl rfl rfl rfl rfl rfl rfl rfl rfl rfl rfl rfl rfl rfl rfl rfl rfl rfl rfl rfl k hk)⟩
