/-! new bidders, bids, disputes in the class's picture -/
theorem kFresh {Y : hY} {ad : Nat → Nat → Nat} {s : zS} {x : kX} {t : Bool} {f : hw_F} (P : kPic Y ad s x t f) {q : Nat} (hq : f q = none) {k i : Nat} (h : kV s k i) : ad k i ≠ q := fun e => by
  have := P.1 k i h
  rw [e, hq] at this
  cases this
theorem up_if {n q : Nat} {g : Nat → Nat} {g' : Nat → Nat} (h : ∀ i, i < n → g' i = g i) (hn : g' n = q) : (fun i => if i < n + 1 then some (g' i) else none) = hv_up (fun i => if i < n then some (g i) else none) n (some q) := by
  funext i
  unfold hv_up
  by_cases h1 : i = n
  · subst h1; simp [hn]
  · by_cases h2 : i < n
    · simp [h1, h2, Nat.lt_succ_of_lt h2, h i h2]
    · simp [h1, h2, show ¬ i < n + 1 by omega]
theorem zb_m0 {p : Nat → Bool} : ∀ {n : Nat}, (∀ k, k < n → p k = false) → zb_m p n = 0
  | 0, _ => rfl
  | n + 1, h => by
    unfold zb_m
    rw [zb_m0 (fun k hk => h k (Nat.lt_succ_of_lt hk)), h n (Nat.lt_succ_self n)]
    rfl
theorem zb_or0 {s : zS} {i : Nat} (h : ∀ j, j < 8 → z_sd s (8 * i + j) = false) : zb_or s i 8 = 0 := by
  have : ∀ n, n ≤ 8 → zb_or s i n = 0 := by
    intro n
    induction n with
    | zero => intro _; rfl
    | succ n ih =>
      intro hn
      show zb_or s i n ||| zb_by s i n = 0
      rw [ih (by omega), show zb_by s i n = 0 by unfold zb_by; rw [h n (by omega)]; rfl]
      rfl
  exact this 8 (Nat.le_refl 8)
/-- what is not told yet is as at first -/
def zF (s : zS) : Prop := (∀ i, z_nB s ≤ i → z_o s i = false ∧ z_t s i = 0 ∧ ∀ j, j < 8 → z_sd s (8 * i + j) = false) ∧ (∀ k l, l < 8 → z_nD s ≤ k → z_h s (8 * k + l) = false) ∧ (∀ l, z_nL s ≤ l → z_sn s l = 0 ∧ ∀ j, j < 6 → z_sa s (6 * l + j) = 0 ∧ z_sl s (6 * l + j) = 0 ∧ z_sc s (6 * l + j) = 0)
section KADD
variable {Y : hY} {ad : Nat → Nat → Nat} {s : zS} {x : kX} {t : Bool} {f : hw_F} {q : Nat}
theorem kp_addB (P : kPic Y ad s x t f) (N : zN s) (F : zF s) (hq : f q = none) (b : Bool) : kPic Y (hAd ad 14 (z_nB s) q) (zu_bdr s b) x true (hw_u (hw_u (hw_u f q (.inr (2, [.int (nI (z_nB s)), .int (bI b), .int 0, .long 0, .int 8, .long 0, .int 0]))) (ad 2 0) (eQ (Y.2 4) 6 (hv_up (fun i => if i < z_nB s then some (ad 14 i) else none) (z_nB s) (some q)))) (ad 0 0) (.inr (0, [.ref (ad 1 0), .ref (ad 2 0), .ref (ad 3 0), .ref (ad 4 0), .ref (ad 5 0), .ref (ad 6 0), .ref (ad 7 0), .int (nI (z_nL s)), .int (nI (z_nB s + 1)), .int (nI (z_nD s)), .int (nI (z_nP s)), .int (bI true)]))) := by
  have P1 := kAdd P (k0 := 14) (i0 := z_nB s) hq (fun h => by unfold kV at h; omega) (.inr (2, [.int (nI (z_nB s)), .int (bI b), .int 0, .long 0, .int 8, .long 0, .int 0]))
  have P2 := kPut P1 (k0 := 2) (i0 := 0) (Or.inl (Or.inl ⟨by decide, rfl⟩)) (eQ (Y.2 4) 6 (hv_up (fun i => if i < z_nB s then some (ad 14 i) else none) (z_nB s) (some q)))
  have P3 := kPut P2 (k0 := 0) (i0 := 0) (Or.inl (Or.inl ⟨by decide, rfl⟩)) (.inr (0, [.ref (ad 1 0), .ref (ad 2 0), .ref (ad 3 0), .ref (ad 4 0), .ref (ad 5 0), .ref (ad 6 0), .ref (ad 7 0), .int (nI (z_nL s)), .int (nI (z_nB s + 1)), .int (nI (z_nD s)), .int (nI (z_nP s)), .int (bI true)]))
  refine kEnd2 P3 (fun k i h => ?_) (kV_cases rfl rfl ?_ rfl rfl rfl rfl rfl rfl rfl (fun _ _ => rfl) (fun _ _ => rfl) (fun _ _ => rfl) (fun _ _ => rfl) (fun i hi => ?_) (fun i hi => ?_) (fun _ _ => rfl))
  · show kV s k i ∨ (k = 14 ∧ i = z_nB s)
    have hh : kV (zu_bdr s b) k i := h
    unfold kV at hh ⊢
    rcases hh with h | h | ⟨h1, h2⟩ | h | h
    · exact Or.inl (Or.inl h)
    · exact Or.inl (Or.inr (Or.inl h))
    · have h3 : i < z_nB s + 1 := h2
      rcases Nat.lt_or_ge i (z_nB s) with h4 | h4
      · exact Or.inl (Or.inr (Or.inr (Or.inl ⟨h1, h4⟩)))
      · exact Or.inr ⟨h1, by omega⟩
    · exact Or.inl (Or.inr (Or.inr (Or.inr (Or.inl h))))
    · exact Or.inl (Or.inr (Or.inr (Or.inr (Or.inr h))))
  · show eQ (Y.2 4) 6 (fun i => if i < z_nB s + 1 then some (hAd ad 14 (z_nB s) q 14 i) else none) = _
    rw [up_if (g := ad 14) (q := q) (fun i hi => hAd_n q (by omega)) (hAd_s _ _ _ _)]
    rfl
  · have h3 : i < z_nB s + 1 := hi
    rw [ov_k _ (by decide), ov_k _ (by decide)]
    by_cases h : i = z_nB s
    · subst h
      obtain ⟨f1, f2, f3⟩ := F.1 (z_nB s) (Nat.le_refl _)
      rw [ov_s]
      show (Sum.inr (2, [_, Value.int (bI (hv_up (z_q s) (z_nB s) b (z_nB s))), Value.int (bI (z_o s (z_nB s))), Value.long (z_t s (z_nB s)), Value.int (hv_up (z_m s) (z_nB s) 8 (z_nB s)), Value.long (zb_or s (z_nB s) 8), Value.int (nI (zb_m (fun j => z_sd s (8 * z_nB s + j)) 8))]) : va_E) = _
      rw [hv_us, hv_us, f1, f2, zb_or0 f3, zb_m0 f3]
      rfl
    · rw [ov_i _ h]
      show (Sum.inr (2, [_, Value.int (bI (hv_up (z_q s) (z_nB s) b i)), _, _, Value.int (hv_up (z_m s) (z_nB s) 8 i), _, _]) : va_E) = _
      rw [hv_un _ h, hv_un _ h]
      rfl
  · rw [ov_k _ (by decide), ov_k _ (by decide), ov_k _ (by decide)]
    have h1 : z_ow s i < z_nB s := N.2.2.2.2.1 i hi
    show (Sum.inr (3, [_, Value.ref (hAd ad 14 (z_nB s) q 14 (z_ow s i)), _, _]) : va_E) = _
    rw [hAd_n q (by omega)]
    rfl
theorem kp_addD (P : kPic Y ad s x t f) (N : zN s) (F : zF s) (O : ∀ p j, x.2.1 p = some j → j < z_nD s) (hq : f q = none) {i : Nat} (v : Int64) : kPic Y (hAd ad 15 (z_nD s) q) (zu_bid s i v) x true (hw_u (hw_u (hw_u f q (.inr (3, [.int (nI (z_nD s)), .ref (ad 14 i), .long v, .int 0]))) (ad 3 0) (eQ (Y.2 5) 12 (hv_up (fun i => if i < z_nD s then some (ad 15 i) else none) (z_nD s) (some q)))) (ad 0 0) (.inr (0, [.ref (ad 1 0), .ref (ad 2 0), .ref (ad 3 0), .ref (ad 4 0), .ref (ad 5 0), .ref (ad 6 0), .ref (ad 7 0), .int (nI (z_nL s)), .int (nI (z_nB s)), .int (nI (z_nD s + 1)), .int (nI (z_nP s)), .int (bI true)]))) := by
  have P1 := kAdd P (k0 := 15) (i0 := z_nD s) hq (fun h => by unfold kV at h; omega) (.inr (3, [.int (nI (z_nD s)), .ref (ad 14 i), .long v, .int 0]))
  have P2 := kPut P1 (k0 := 3) (i0 := 0) (Or.inl (Or.inl ⟨by decide, rfl⟩)) (eQ (Y.2 5) 12 (hv_up (fun i => if i < z_nD s then some (ad 15 i) else none) (z_nD s) (some q)))
  have P3 := kPut P2 (k0 := 0) (i0 := 0) (Or.inl (Or.inl ⟨by decide, rfl⟩)) (.inr (0, [.ref (ad 1 0), .ref (ad 2 0), .ref (ad 3 0), .ref (ad 4 0), .ref (ad 5 0), .ref (ad 6 0), .ref (ad 7 0), .int (nI (z_nL s)), .int (nI (z_nB s)), .int (nI (z_nD s + 1)), .int (nI (z_nP s)), .int (bI true)]))
  refine kEnd2 P3 (fun k j h => ?_) (kV_cases rfl rfl rfl ?_ rfl rfl rfl rfl ?_ rfl (fun _ _ => rfl) (fun _ _ => rfl) (fun _ _ => rfl) (fun _ _ => rfl) (fun _ _ => rfl) (fun j hj => ?_) (fun j hj => ?_))
  · show kV s k j ∨ (k = 15 ∧ j = z_nD s)
    have hh : kV (zu_bid s i v) k j := h
    unfold kV at hh ⊢
    rcases hh with h | h | h | ⟨h1, h2⟩ | h
    · exact Or.inl (Or.inl h)
    · exact Or.inl (Or.inr (Or.inl h))
    · exact Or.inl (Or.inr (Or.inr (Or.inl h)))
    · have h3 : j < z_nD s + 1 := h2
      rcases Nat.lt_or_ge j (z_nD s) with h4 | h4
      · exact Or.inl (Or.inr (Or.inr (Or.inr (Or.inl ⟨h1, h4⟩))))
      · exact Or.inr ⟨h1, by omega⟩
    · exact Or.inl (Or.inr (Or.inr (Or.inr (Or.inr h))))
  · show eQ (Y.2 5) 12 (fun j => if j < z_nD s + 1 then some (hAd ad 15 (z_nD s) q 15 j) else none) = _
    rw [up_if (g := ad 15) (q := q) (fun j hj => hAd_n q (by omega)) (hAd_s _ _ _ _)]
    rfl
  · rw [ov_k _ (by decide), ov_k _ (by decide), ov_k _ (by decide)]
    show eQ (Y.2 5) 12 (fun p => (x.2.1 p).map (hAd ad 15 (z_nD s) q 15)) = eQ (Y.2 5) 12 (fun p => (x.2.1 p).map (ad 15))
    refine congrArg (eQ (Y.2 5) 12) (funext fun p => ?_)
    cases h : x.2.1 p with
    | none => rfl
    | some j =>
      have := O p j h
      show some (hAd ad 15 (z_nD s) q 15 j) = some (ad 15 j)
      rw [hAd_n q (by omega)]
  · have h3 : j < z_nD s + 1 := hj
    rw [ov_k _ (by decide), ov_k _ (by decide)]
    by_cases h : j = z_nD s
    · subst h
      rw [ov_s]
      show (Sum.inr (3, [_, Value.ref (ad 14 (hv_up (z_ow s) (z_nD s) i (z_nD s))), Value.long (hv_up (z_c s) (z_nD s) v (z_nD s)), Value.int (nI (zb_m (fun l => z_h s (8 * z_nD s + l)) 8))]) : va_E) = _
      rw [hv_us, hv_us, zb_m0 (fun l hl => F.2.1 (z_nD s) l hl (Nat.le_refl _))]
      rfl
    · rw [ov_i _ h]
      show (Sum.inr (3, [_, Value.ref (ad 14 (hv_up (z_ow s) (z_nD s) i j)), Value.long (hv_up (z_c s) (z_nD s) v j), _]) : va_E) = _
      rw [hv_un _ h, hv_un _ h]
      rfl
  · rw [ov_k _ (by decide), ov_k _ (by decide), ov_k _ (by decide)]
    have h1 : z_db s j < z_nD s := N.2.2.2.2.2.2 j hj
    show (Sum.inr (4, [Value.ref (hAd ad 15 (z_nD s) q 15 (z_db s j)), _]) : va_E) = _
    rw [hAd_n q (by omega)]
    rfl
theorem kp_addP (P : kPic Y ad s x t f) (N : zN s) (hq : f q = none) {i : Nat} (r : Int32) : kPic Y (hAd ad 16 (z_nP s) q) (zu_disp s i r) x true (hw_u (hw_u (hw_u f q (.inr (4, [.ref (ad 15 i), .int r]))) (ad 4 0) (eQ (Y.2 6) 20 (hv_up (fun i => if i < z_nP s then some (ad 16 i) else none) (z_nP s) (some q)))) (ad 0 0) (.inr (0, [.ref (ad 1 0), .ref (ad 2 0), .ref (ad 3 0), .ref (ad 4 0), .ref (ad 5 0), .ref (ad 6 0), .ref (ad 7 0), .int (nI (z_nL s)), .int (nI (z_nB s)), .int (nI (z_nD s)), .int (nI (z_nP s + 1)), .int (bI true)]))) := by
  have P1 := kAdd P (k0 := 16) (i0 := z_nP s) hq (fun h => by unfold kV at h; omega) (.inr (4, [.ref (ad 15 i), .int r]))
  have P2 := kPut P1 (k0 := 4) (i0 := 0) (Or.inl (Or.inl ⟨by decide, rfl⟩)) (eQ (Y.2 6) 20 (hv_up (fun i => if i < z_nP s then some (ad 16 i) else none) (z_nP s) (some q)))
  have P3 := kPut P2 (k0 := 0) (i0 := 0) (Or.inl (Or.inl ⟨by decide, rfl⟩)) (.inr (0, [.ref (ad 1 0), .ref (ad 2 0), .ref (ad 3 0), .ref (ad 4 0), .ref (ad 5 0), .ref (ad 6 0), .ref (ad 7 0), .int (nI (z_nL s)), .int (nI (z_nB s)), .int (nI (z_nD s)), .int (nI (z_nP s + 1)), .int (bI true)]))
  refine kEnd2 P3 (fun k j h => ?_) (kV_cases rfl rfl rfl rfl ?_ rfl rfl rfl rfl rfl (fun _ _ => rfl) (fun _ _ => rfl) (fun _ _ => rfl) (fun _ _ => rfl) (fun _ _ => rfl) (fun _ _ => rfl) (fun j hj => ?_))
  · show kV s k j ∨ (k = 16 ∧ j = z_nP s)
    have hh : kV (zu_disp s i r) k j := h
    unfold kV at hh ⊢
    rcases hh with h | h | h | h | ⟨h1, h2⟩
    · exact Or.inl (Or.inl h)
    · exact Or.inl (Or.inr (Or.inl h))
    · exact Or.inl (Or.inr (Or.inr (Or.inl h)))
    · exact Or.inl (Or.inr (Or.inr (Or.inr (Or.inl h))))
    · have h3 : j < z_nP s + 1 := h2
      rcases Nat.lt_or_ge j (z_nP s) with h4 | h4
      · exact Or.inl (Or.inr (Or.inr (Or.inr (Or.inr ⟨h1, h4⟩))))
      · exact Or.inr ⟨h1, by omega⟩
  · show eQ (Y.2 6) 20 (fun j => if j < z_nP s + 1 then some (hAd ad 16 (z_nP s) q 16 j) else none) = _
    rw [up_if (g := ad 16) (q := q) (fun j hj => hAd_n q (by omega)) (hAd_s _ _ _ _)]
    rfl
  · have h3 : j < z_nP s + 1 := hj
    rw [ov_k _ (by decide), ov_k _ (by decide)]
    by_cases h : j = z_nP s
    · subst h
      rw [ov_s]
      show (Sum.inr (4, [Value.ref (ad 15 (hv_up (z_db s) (z_nP s) i (z_nP s))), Value.int (hv_up (z_dr s) (z_nP s) r (z_nP s))]) : va_E) = _
      rw [hv_us, hv_us]
    · rw [ov_i _ h]
      show (Sum.inr (4, [Value.ref (ad 15 (hv_up (z_db s) (z_nP s) i j)), Value.int (hv_up (z_dr s) (z_nP s) r j)]) : va_E) = _
      rw [hv_un _ h, hv_un _ h]
      rfl
end KADD
