/-! THE CALLS, each side over the one state -/
def kSt (Y : hY) (a : Nat) (s : zS) (f : hw_F) : Prop := ∃ ad t x, ad 0 0 = a ∧ kPic Y ad s x t f ∧ kT s t ∧ zJ s ∧ kJ s x
def mSt (Y : hY) (a : Nat) (s : zS) (f : hw_F) : Prop := ∃ ad tk, ad 0 0 = a ∧ mPic Y ad s tk f
/-- both sides' worlds, side by side -/
def lSt (Y : hY) (a b : Nat) (s1 s2 : zS) (f : hw_F) : Prop := ∃ fk fm, f = hU fk fm ∧ hDj fk fm ∧ kSt Y a s1 fk ∧ mSt Y b s2 fm
theorem lSt.k {Y : hY} {l : Launch} {y : MethodName} {S : hS} {ret : Option FieldType} {av : List Value} {a b : Nat} {s1 s1' s2 : zS} {f : hw_F} {R : Option Value} (L : lSt Y a b s1 s2 f) (h : ∀ fk, kSt Y a s1 fk → hM Y l y S ret av fk (fun r f' => r = R ∧ kSt Y a s1' f')) : hM Y l y S ret av f (fun r f' => r = R ∧ lSt Y a b s1' s2 f') := by
  obtain ⟨fk, fm, rfl, d, hk, hm⟩ := L
  refine ((h fk hk).frame d).post (fun r f' hp => ?_)
  obtain ⟨f1, rfl, d1, e, hk1⟩ := hp
  exact ⟨e, f1, fm, rfl, d1, hk1, hm⟩
theorem lSt.m {Y : hY} {l : Launch} {y : MethodName} {S : hS} {ret : Option FieldType} {av : List Value} {a b : Nat} {s1 s2 s2' : zS} {f : hw_F} {R : Option Value} (L : lSt Y a b s1 s2 f) (h : ∀ fm, mSt Y b s2 fm → hM Y l y S ret av fm (fun r f' => r = R ∧ mSt Y b s2' f')) : hM Y l y S ret av f (fun r f' => r = R ∧ lSt Y a b s1 s2' f') := by
  obtain ⟨fk, fm, rfl, d, hk, hm⟩ := L
  rw [hU_comm d]
  refine ((h fm hm).frame d.symm).post (fun r f' hp => ?_)
  obtain ⟨f1, rfl, d1, e, hm1⟩ := hp
  exact ⟨e, fk, f1, hU_comm d1, d1.symm, hk, hm1⟩
theorem lSt.ka {Y : hY} {a b : Nat} {s1 s2 : zS} {f : hw_F} (L : lSt Y a b s1 s2 f) : ∃ fs, f a = some (.inr (0, fs)) := by
  obtain ⟨fk, fm, rfl, d, ⟨ad, t, x, rfl, P, -⟩, hm⟩ := L
  exact ⟨_, hU_l (kp_0 P)⟩
theorem lSt.ma {Y : hY} {a b : Nat} {s1 s2 : zS} {f : hw_F} (L : lSt Y a b s1 s2 f) : ∃ fs, f b = some (.inr (6, fs)) := by
  obtain ⟨fk, fm, rfl, d, hk, ⟨ad, tk, rfl, P⟩⟩ := L
  exact ⟨_, hU_r d (P.1 0 0 ⟨by decide, rfl⟩)⟩
theorem lSt.J {Y : hY} {a b : Nat} {s1 s2 : zS} {f : hw_F} (L : lSt Y a b s1 s2 f) : zJ s1 := by
  obtain ⟨fk, fm, -, -, ⟨ad, t, x, -, -, -, J, -⟩, -⟩ := L
  exact J
theorem zJ.Z {s : zS} (J : zJ s) : z_nL s < 8 → ∀ j, j < 6 → z_sn s (z_nL s) = 0 ∧ z_sa s (6 * z_nL s + j) = 0 ∧ z_sl s (6 * z_nL s + j) = 0 ∧ z_sc s (6 * z_nL s + j) = 0 := fun _ j hj => ⟨(J.F.2.2 _ (Nat.le_refl _)).1, (J.F.2.2 _ (Nat.le_refl _)).2 j hj⟩
theorem zJ.ib {s : zS} (J : zJ s) : ∀ m, z_hi s m = true → ¬ z_ib s m = 0 := fun m h e => by
  rw [J.I m, decide_eq_true_eq, e] at h
  exact Int64.lt_irrefl h
theorem kc_lot (Y : hY) (l : Launch) {q : Nat} {s : zS} {f : hw_F} (h : kSt Y q s f) (g : Int64) : hM Y l y_BT_lot S_BT_lot (some .int) [.ref q, .long g] f (fun r f' => r = some (.int (za_lot s g).1) ∧ kSt Y q (za_lot s g).2 f') := by
  obtain ⟨ad, t, x, rfl, P, T, J, K⟩ := h
  refine (k_BT_lot Y l P J.N T J.Z g).post (fun r f' hp => ?_)
  obtain ⟨e, ad', t', ea, P', T'⟩ := hp
  exact ⟨e, ad', t', x, ea, P', T', jt_lot J K g⟩
theorem mc_lot (Y : hY) (l : Launch) {q : Nat} {s : zS} (J : zJ s) {f : hw_F} (h : mSt Y q s f) (g : Int64) : hM Y l y_Mod_lot S_Mod_lot (some .int) [.ref q, .long g] f (fun r f' => r = some (.int (za_lot s g).1) ∧ mSt Y q (za_lot s g).2 f') := by
  obtain ⟨ad, tk, rfl, P⟩ := h
  refine (m_lot Y l P J.N g).post (fun r f' hp => ?_)
  obtain ⟨e, tk', P'⟩ := hp
  exact ⟨e, ad, tk', rfl, P'⟩
theorem kc_bidder (Y : hY) (l : Launch) {q : Nat} {s : zS} {f : hw_F} (h : kSt Y q s f) (b : Bool) : hM Y l y_BT_bidder S_BT_bidder (some .int) [.ref q, .int (bI b)] f (fun r f' => r = some (.int (za_bdr s b).1) ∧ kSt Y q (za_bdr s b).2 f') := by
  obtain ⟨ad, t, x, rfl, P, T, J, K⟩ := h
  refine (k_BT_bidder Y l P J.N T J.F b).post (fun r f' hp => ?_)
  obtain ⟨e, ad', t', ea, P', T'⟩ := hp
  exact ⟨e, ad', t', x, ea, P', T', jt_bdr J K b⟩
theorem mc_bidder (Y : hY) (l : Launch) {q : Nat} {s : zS} (J : zJ s) {f : hw_F} (h : mSt Y q s f) (b : Bool) : hM Y l y_Mod_bidder S_Mod_bidder (some .int) [.ref q, .int (bI b)] f (fun r f' => r = some (.int (za_bdr s b).1) ∧ mSt Y q (za_bdr s b).2 f') := by
  obtain ⟨ad, tk, rfl, P⟩ := h
  refine (m_bidder Y l P J.N b).post (fun r f' hp => ?_)
  obtain ⟨e, tk', P'⟩ := hp
  exact ⟨e, ad, tk', rfl, P'⟩
theorem kc_time (Y : hY) (l : Launch) {q : Nat} {s : zS} {f : hw_F} (h : kSt Y q s f) (y : Int32) (v : Int64) : hM Y l y_BT_time S_BT_time (some .boolean) [.ref q, .int y, .long v] f (fun r f' => r = some (.int (bI (za_time s y v).1)) ∧ kSt Y q (za_time s y v).2 f') := by
  obtain ⟨ad, t, x, rfl, P, T, J, K⟩ := h
  refine (k_BT_time Y l P J.N T y v).post (fun r f' hp => ?_)
  obtain ⟨e, ad', t', ea, P', T'⟩ := hp
  exact ⟨e, ad', t', x, ea, P', T', jt_time J K y v⟩
theorem mc_time (Y : hY) (l : Launch) {q : Nat} {s : zS} (J : zJ s) {f : hw_F} (h : mSt Y q s f) (y : Int32) (v : Int64) : hM Y l y_Mod_time S_Mod_time (some .boolean) [.ref q, .int y, .long v] f (fun r f' => r = some (.int (bI (za_time s y v).1)) ∧ mSt Y q (za_time s y v).2 f') := by
  obtain ⟨ad, tk, rfl, P⟩ := h
  refine (m_time Y l P J.N y v).post (fun r f' hp => ?_)
  obtain ⟨e, tk', P'⟩ := hp
  exact ⟨e, ad, tk', rfl, P'⟩
theorem kc_most (Y : hY) (l : Launch) {q : Nat} {s : zS} {f : hw_F} (h : kSt Y q s f) (y v : Int32) : hM Y l y_BT_most S_BT_most (some .boolean) [.ref q, .int y, .int v] f (fun r f' => r = some (.int (bI (za_most s y v).1)) ∧ kSt Y q (za_most s y v).2 f') := by
  obtain ⟨ad, t, x, rfl, P, T, J, K⟩ := h
  refine (k_BT_most Y l P J.N T y v).post (fun r f' hp => ?_)
  obtain ⟨e, ad', t', ea, P', T'⟩ := hp
  exact ⟨e, ad', t', x, ea, P', T', jt_most J K y v⟩
theorem mc_most (Y : hY) (l : Launch) {q : Nat} {s : zS} (J : zJ s) {f : hw_F} (h : mSt Y q s f) (y v : Int32) : hM Y l y_Mod_most S_Mod_most (some .boolean) [.ref q, .int y, .int v] f (fun r f' => r = some (.int (bI (za_most s y v).1)) ∧ mSt Y q (za_most s y v).2 f') := by
  obtain ⟨ad, tk, rfl, P⟩ := h
  refine (m_most Y l P J.N y v).post (fun r f' hp => ?_)
  obtain ⟨e, tk', P'⟩ := hp
  exact ⟨e, ad, tk', rfl, P'⟩
theorem kc_bid (Y : hY) (l : Launch) {q : Nat} {s : zS} {f : hw_F} (h : kSt Y q s f) (y : Int32) (v : Int64) : hM Y l y_BT_bid S_BT_bid (some .int) [.ref q, .int y, .long v] f (fun r f' => r = some (.int (za_bid s y v).1) ∧ kSt Y q (za_bid s y v).2 f') := by
  obtain ⟨ad, t, x, rfl, P, T, J, K⟩ := h
  refine (k_BT_bid Y l P J.N T J.F K.1 y v).post (fun r f' hp => ?_)
  obtain ⟨e, ad', t', ea, P', T'⟩ := hp
  exact ⟨e, ad', t', x, ea, P', T', jt_bid J K y v⟩
theorem mc_bid (Y : hY) (l : Launch) {q : Nat} {s : zS} (J : zJ s) {f : hw_F} (h : mSt Y q s f) (y : Int32) (v : Int64) : hM Y l y_Mod_bid S_Mod_bid (some .int) [.ref q, .int y, .long v] f (fun r f' => r = some (.int (za_bid s y v).1) ∧ mSt Y q (za_bid s y v).2 f') := by
  obtain ⟨ad, tk, rfl, P⟩ := h
  refine (m_bid Y l P J.N y v).post (fun r f' hp => ?_)
  obtain ⟨e, tk', P'⟩ := hp
  exact ⟨e, ad, tk', rfl, P'⟩
theorem kc_on (Y : hY) (l : Launch) {q : Nat} {s : zS} {f : hw_F} (h : kSt Y q s f) (y w : Int32) : hM Y l y_BT_on S_BT_on (some .boolean) [.ref q, .int y, .int w] f (fun r f' => r = some (.int (bI (za_on s y w).1)) ∧ kSt Y q (za_on s y w).2 f') := by
  obtain ⟨ad, t, x, rfl, P, T, J, K⟩ := h
  refine (k_BT_on Y l P J.N T y w).post (fun r f' hp => ?_)
  obtain ⟨e, ad', t', ea, P', T'⟩ := hp
  exact ⟨e, ad', t', x, ea, P', T', jt_on J K y w⟩
theorem mc_on (Y : hY) (l : Launch) {q : Nat} {s : zS} (J : zJ s) {f : hw_F} (h : mSt Y q s f) (y w : Int32) : hM Y l y_Mod_on S_Mod_on (some .boolean) [.ref q, .int y, .int w] f (fun r f' => r = some (.int (bI (za_on s y w).1)) ∧ mSt Y q (za_on s y w).2 f') := by
  obtain ⟨ad, tk, rfl, P⟩ := h
  refine (m_on Y l P J.N y w).post (fun r f' hp => ?_)
  obtain ⟨e, tk', P'⟩ := hp
  exact ⟨e, ad, tk', rfl, P'⟩
theorem kc_seal (Y : hY) (l : Launch) {q : Nat} {s : zS} {f : hw_F} (h : kSt Y q s f) (y w b : Int32) : hM Y l y_BT_seal S_BT_seal (some .int) [.ref q, .int y, .int w, .int b] f (fun r f' => r = some (.int (za_seal s y w b).1) ∧ kSt Y q (za_seal s y w b).2 f') := by
  obtain ⟨ad, t, x, rfl, P, T, J, K⟩ := h
  refine (k_BT_seal Y l P J.N T y w b).post (fun r f' hp => ?_)
  obtain ⟨e, ad', t', ea, P', T'⟩ := hp
  exact ⟨e, ad', t', x, ea, P', T', jt_seal J K y w b⟩
theorem mc_seal (Y : hY) (l : Launch) {q : Nat} {s : zS} (J : zJ s) {f : hw_F} (h : mSt Y q s f) (y w b : Int32) : hM Y l y_Mod_seal S_Mod_seal (some .int) [.ref q, .int y, .int w, .int b] f (fun r f' => r = some (.int (za_seal s y w b).1) ∧ mSt Y q (za_seal s y w b).2 f') := by
  obtain ⟨ad, tk, rfl, P⟩ := h
  refine (m_seal Y l P J.N y w b).post (fun r f' hp => ?_)
  obtain ⟨e, tk', P'⟩ := hp
  exact ⟨e, ad, tk', rfl, P'⟩
theorem kc_digest (Y : hY) (l : Launch) {q : Nat} {s : zS} {f : hw_F} (h : kSt Y q s f) (y : Int32) (v : Int64) (w : Int32) : hM Y l y_BT_digest S_BT_digest (some .int) [.ref q, .int y, .long v, .int w] f (fun r f' => r = some (.int (za_digest s y v w)) ∧ kSt Y q s f') := by
  obtain ⟨ad, t, x, rfl, P, T, J, K⟩ := h
  refine (k_BT_digest Y l P J.N y v w).post (fun r f' hp => ?_)
  obtain ⟨e, rfl⟩ := hp
  exact ⟨e, ad, t, x, rfl, P, T, J, K⟩
theorem mc_digest (Y : hY) (l : Launch) {q : Nat} {s : zS} (J : zJ s) {f : hw_F} (h : mSt Y q s f) (y : Int32) (v : Int64) (w : Int32) : hM Y l y_Mod_digest S_Mod_digest (some .int) [.ref q, .int y, .long v, .int w] f (fun r f' => r = some (.int (za_digest s y v w)) ∧ mSt Y q s f') := by
  obtain ⟨ad, tk, rfl, P⟩ := h
  refine (m_digest Y l P J.N y v w).post (fun r f' hp => ?_)
  obtain ⟨e, rfl⟩ := hp
  exact ⟨e, ad, tk, rfl, P⟩
theorem kc_open (Y : hY) (l : Launch) {q : Nat} {s : zS} {f : hw_F} (h : kSt Y q s f) (y : Int32) (v : Int64) : hM Y l y_BT_open S_BT_open (some .int) [.ref q, .int y, .long v] f (fun r f' => r = some (.int (za_open s y v).1) ∧ kSt Y q (za_open s y v).2 f') := by
  obtain ⟨ad, t, x, rfl, P, T, J, K⟩ := h
  refine (k_BT_open Y l P J.N T J.B y v).post (fun r f' hp => ?_)
  obtain ⟨e, ad', t', ea, P', T'⟩ := hp
  exact ⟨e, ad', t', x, ea, P', T', jt_open J K y v⟩
theorem mc_open (Y : hY) (l : Launch) {q : Nat} {s : zS} (J : zJ s) {f : hw_F} (h : mSt Y q s f) (y : Int32) (v : Int64) : hM Y l y_Mod_open S_Mod_open (some .int) [.ref q, .int y, .long v] f (fun r f' => r = some (.int (za_open s y v).1) ∧ mSt Y q (za_open s y v).2 f') := by
  obtain ⟨ad, tk, rfl, P⟩ := h
  refine (m_open Y l P J.N y v).post (fun r f' hp => ?_)
  obtain ⟨e, tk', P'⟩ := hp
  exact ⟨e, ad, tk', rfl, P'⟩
theorem kc_run (Y : hY) (l : Launch) {q : Nat} {s : zS} {f : hw_F} (h : kSt Y q s f) (v : Int64) : hM Y l y_BT_run S_BT_run (some .int) [.ref q, .long v] f (fun r f' => r = some (.int (za_run s v).1) ∧ kSt Y q (za_run s v).2 f') := by
  obtain ⟨ad, t, x, rfl, P, T, J, K⟩ := h
  refine (k_BT_run Y l P J.N T J.G J.B0 (fun b _ => J.M b) (fun k hk => (J.W k hk).1) K.1 v).post (fun r f' hp => ?_)
  obtain ⟨e, x', ⟨ad', t', ea, P', T'⟩, h9⟩ := hp
  refine ⟨e, ad', t', x', ea, P', T', ?_⟩
  rcases h9 with ⟨rfl, e9⟩ | ⟨I9, O9, e9⟩
  · rw [e9]; exact ⟨J, K⟩
  · rw [e9]; exact jt_run J I9 O9
theorem mc_run (Y : hY) (l : Launch) {q : Nat} {s : zS} (J : zJ s) {f : hw_F} (h : mSt Y q s f) (v : Int64) : hM Y l y_Mod_run S_Mod_run (some .int) [.ref q, .long v] f (fun r f' => r = some (.int (za_run s v).1) ∧ mSt Y q (za_run s v).2 f') := by
  obtain ⟨ad, tk, rfl, P⟩ := h
  refine (m_run Y l P J.N v).post (fun r f' hp => ?_)
  obtain ⟨e, tk', P'⟩ := hp
  exact ⟨e, ad, tk', rfl, P'⟩
theorem kc_wins (Y : hY) (l : Launch) {q : Nat} {s : zS} {f : hw_F} (h : kSt Y q s f) (y : Int32) : hM Y l y_BT_wins S_BT_wins (some .boolean) [.ref q, .int y] f (fun r f' => r = some (.int (bI (za_wins s y))) ∧ kSt Y q s f') := by
  obtain ⟨ad, t, x, rfl, P, T, J, K⟩ := h
  refine (k_BT_wins Y l P J.N K.2.1 y).post (fun r f' hp => ?_)
  obtain ⟨e, rfl⟩ := hp
  exact ⟨e, ad, t, x, rfl, P, T, J, K⟩
theorem mc_wins (Y : hY) (l : Launch) {q : Nat} {s : zS} (J : zJ s) {f : hw_F} (h : mSt Y q s f) (y : Int32) : hM Y l y_Mod_wins S_Mod_wins (some .boolean) [.ref q, .int y] f (fun r f' => r = some (.int (bI (za_wins s y))) ∧ mSt Y q s f') := by
  obtain ⟨ad, tk, rfl, P⟩ := h
  refine (m_wins Y l P J.N y).post (fun r f' hp => ?_)
  obtain ⟨e, rfl⟩ := hp
  exact ⟨e, ad, tk, rfl, P⟩
theorem kc_sum (Y : hY) (l : Launch) {q : Nat} {s : zS} {f : hw_F} (h : kSt Y q s f)  : hM Y l y_BT_sum S_BT_sum (some .long) [.ref q] f (fun r f' => r = some (.long (za_sum s)) ∧ kSt Y q s f') := by
  obtain ⟨ad, t, x, rfl, P, T, J, K⟩ := h
  refine (k_BT_sum Y l P K.2.2.1).post (fun r f' hp => ?_)
  obtain ⟨e, rfl⟩ := hp
  exact ⟨e, ad, t, x, rfl, P, T, J, K⟩
theorem mc_sum (Y : hY) (l : Launch) {q : Nat} {s : zS} (J : zJ s) {f : hw_F} (h : mSt Y q s f)  : hM Y l y_Mod_sum S_Mod_sum (some .long) [.ref q] f (fun r f' => r = some (.long (za_sum s)) ∧ mSt Y q s f') := by
  obtain ⟨ad, tk, rfl, P⟩ := h
  refine (m_sum Y l P ).post (fun r f' hp => ?_)
  obtain ⟨e, rfl⟩ := hp
  exact ⟨e, ad, tk, rfl, P⟩
theorem kc_bound (Y : hY) (l : Launch) {q : Nat} {s : zS} {f : hw_F} (h : kSt Y q s f)  : hM Y l y_BT_bound S_BT_bound (some .long) [.ref q] f (fun r f' => r = some (.long (za_bound s)) ∧ kSt Y q s f') := by
  obtain ⟨ad, t, x, rfl, P, T, J, K⟩ := h
  refine (k_BT_bound Y l P J.N J.G).post (fun r f' hp => ?_)
  obtain ⟨e, rfl⟩ := hp
  exact ⟨e, ad, t, x, rfl, P, T, J, K⟩
theorem mc_bound (Y : hY) (l : Launch) {q : Nat} {s : zS} (J : zJ s) {f : hw_F} (h : mSt Y q s f)  : hM Y l y_Mod_bound S_Mod_bound (some .long) [.ref q] f (fun r f' => r = some (.long (za_bound s)) ∧ mSt Y q s f') := by
  obtain ⟨ad, tk, rfl, P⟩ := h
  refine (m_bound Y l P J.N).post (fun r f' hp => ?_)
  obtain ⟨e, rfl⟩ := hp
  exact ⟨e, ad, tk, rfl, P⟩
theorem kc_proved (Y : hY) (l : Launch) {q : Nat} {s : zS} {f : hw_F} (h : kSt Y q s f)  : hM Y l y_BT_proved S_BT_proved (some .boolean) [.ref q] f (fun r f' => r = some (.int (bI (z_pv s))) ∧ kSt Y q s f') := by
  obtain ⟨ad, t, x, rfl, P, T, J, K⟩ := h
  refine (k_BT_proved Y l P K.2.2.1 T J.S).post (fun r f' hp => ?_)
  obtain ⟨e, rfl⟩ := hp
  exact ⟨e, ad, t, x, rfl, P, T, J, K⟩
theorem mc_proved (Y : hY) (l : Launch) {q : Nat} {s : zS} (J : zJ s) {f : hw_F} (h : mSt Y q s f)  : hM Y l y_Mod_proved S_Mod_proved (some .boolean) [.ref q] f (fun r f' => r = some (.int (bI (z_pv s))) ∧ mSt Y q s f') := by
  obtain ⟨ad, tk, rfl, P⟩ := h
  refine (m_proved Y l P ).post (fun r f' hp => ?_)
  obtain ⟨e, rfl⟩ := hp
  exact ⟨e, ad, tk, rfl, P⟩
theorem kc_second (Y : hY) (l : Launch) {q : Nat} {s : zS} {f : hw_F} (h : kSt Y q s f) (y : Int32) : hM Y l y_BT_second S_BT_second (some .long) [.ref q, .int y] f (fun r f' => r = some (.long (za_second s y)) ∧ kSt Y q s f') := by
  obtain ⟨ad, t, x, rfl, P, T, J, K⟩ := h
  refine (k_BT_second Y l P J.N K.2.1 K.2.2.1 (fun k h => (J.W k h).2) (kJ_R J K) y).post (fun r f' hp => ?_)
  obtain ⟨e, rfl⟩ := hp
  exact ⟨e, ad, t, x, rfl, P, T, J, K⟩
theorem mc_second (Y : hY) (l : Launch) {q : Nat} {s : zS} (J : zJ s) {f : hw_F} (h : mSt Y q s f) (y : Int32) : hM Y l y_Mod_second S_Mod_second (some .long) [.ref q, .int y] f (fun r f' => r = some (.long (za_second s y)) ∧ mSt Y q s f') := by
  obtain ⟨ad, tk, rfl, P⟩ := h
  refine (m_second Y l P J.N y).post (fun r f' hp => ?_)
  obtain ⟨e, tk', P'⟩ := hp
  exact ⟨e, ad, tk', rfl, P'⟩
theorem kc_tie (Y : hY) (l : Launch) {q : Nat} {s : zS} {f : hw_F} (h : kSt Y q s f) (y w : Int32) : hM Y l y_BT_tie S_BT_tie (some .int) [.ref q, .int y, .int w] f (fun r f' => r = some (.int (za_tie s y w)) ∧ kSt Y q s f') := by
  obtain ⟨ad, t, x, rfl, P, T, J, K⟩ := h
  refine (k_BT_tie Y l P J.N (kJ_T3 J K) y w).post (fun r f' hp => ?_)
  obtain ⟨e, rfl⟩ := hp
  exact ⟨e, ad, t, x, rfl, P, T, J, K⟩
theorem mc_tie (Y : hY) (l : Launch) {q : Nat} {s : zS} (J : zJ s) {f : hw_F} (h : mSt Y q s f) (y w : Int32) : hM Y l y_Mod_tie S_Mod_tie (some .int) [.ref q, .int y, .int w] f (fun r f' => r = some (.int (za_tie s y w)) ∧ mSt Y q s f') := by
  obtain ⟨ad, tk, rfl, P⟩ := h
  refine (m_tie Y l P J.N y w).post (fun r f' hp => ?_)
  obtain ⟨e, tk', P'⟩ := hp
  exact ⟨e, ad, tk', rfl, P'⟩
theorem kc_step (Y : hY) (l : Launch) {q : Nat} {s : zS} {f : hw_F} (h : kSt Y q s f) (y : Int32) (a b c : Int64) : hM Y l y_BT_step S_BT_step (some .boolean) [.ref q, .int y, .long a, .long b, .long c] f (fun r f' => r = some (.int (bI (za_step s y a b c).1)) ∧ kSt Y q (za_step s y a b c).2 f') := by
  obtain ⟨ad, t, x, rfl, P, T, J, K⟩ := h
  refine (k_BT_step Y l P J.N T y a b c).post (fun r f' hp => ?_)
  obtain ⟨e, ad', t', ea, P', T'⟩ := hp
  exact ⟨e, ad', t', x, ea, P', T', jt_step J K y a b c⟩
theorem mc_step (Y : hY) (l : Launch) {q : Nat} {s : zS} (J : zJ s) {f : hw_F} (h : mSt Y q s f) (y : Int32) (a b c : Int64) : hM Y l y_Mod_step S_Mod_step (some .boolean) [.ref q, .int y, .long a, .long b, .long c] f (fun r f' => r = some (.int (bI (za_step s y a b c).1)) ∧ mSt Y q (za_step s y a b c).2 f') := by
  obtain ⟨ad, tk, rfl, P⟩ := h
  refine (m_step Y l P J.N y a b c).post (fun r f' hp => ?_)
  obtain ⟨e, tk', P'⟩ := hp
  exact ⟨e, ad, tk', rfl, P'⟩
theorem kc_price (Y : hY) (l : Launch) {q : Nat} {s : zS} {f : hw_F} (h : kSt Y q s f) (y : Int32) (a b : Int64) : hM Y l y_BT_price S_BT_price (some .long) [.ref q, .int y, .long a, .long b] f (fun r f' => r = some (.long (za_price s y a b)) ∧ kSt Y q s f') := by
  obtain ⟨ad, t, x, rfl, P, T, J, K⟩ := h
  refine (k_BT_price Y l P J.N K.2.1 y a b).post (fun r f' hp => ?_)
  obtain ⟨e, rfl⟩ := hp
  exact ⟨e, ad, t, x, rfl, P, T, J, K⟩
theorem mc_price (Y : hY) (l : Launch) {q : Nat} {s : zS} (J : zJ s) {f : hw_F} (h : mSt Y q s f) (y : Int32) (a b : Int64) : hM Y l y_Mod_price S_Mod_price (some .long) [.ref q, .int y, .long a, .long b] f (fun r f' => r = some (.long (za_price s y a b)) ∧ mSt Y q s f') := by
  obtain ⟨ad, tk, rfl, P⟩ := h
  refine (m_price Y l P J.N y a b).post (fun r f' hp => ?_)
  obtain ⟨e, rfl⟩ := hp
  exact ⟨e, ad, tk, rfl, P⟩
theorem kc_index (Y : hY) (l : Launch) {q : Nat} {s : zS} {f : hw_F} (h : kSt Y q s f) (y : Int32) (a b : Int64) : hM Y l y_BT_index S_BT_index (some .boolean) [.ref q, .int y, .long a, .long b] f (fun r f' => r = some (.int (bI (za_index s y a b).1)) ∧ kSt Y q (za_index s y a b).2 f') := by
  obtain ⟨ad, t, x, rfl, P, T, J, K⟩ := h
  refine (k_BT_index Y l P J.N T J.I y a b).post (fun r f' hp => ?_)
  obtain ⟨e, ad', t', ea, P', T'⟩ := hp
  exact ⟨e, ad', t', x, ea, P', T', jt_index J K y a b⟩
theorem mc_index (Y : hY) (l : Launch) {q : Nat} {s : zS} (J : zJ s) {f : hw_F} (h : mSt Y q s f) (y : Int32) (a b : Int64) : hM Y l y_Mod_index S_Mod_index (some .boolean) [.ref q, .int y, .long a, .long b] f (fun r f' => r = some (.int (bI (za_index s y a b).1)) ∧ mSt Y q (za_index s y a b).2 f') := by
  obtain ⟨ad, tk, rfl, P⟩ := h
  refine (m_index Y l P y a b).post (fun r f' hp => ?_)
  obtain ⟨e, tk', P'⟩ := hp
  exact ⟨e, ad, tk', rfl, P'⟩
theorem kc_monthly (Y : hY) (l : Launch) {q : Nat} {s : zS} {f : hw_F} (h : kSt Y q s f) (y w : Int32) : hM Y l y_BT_monthly S_BT_monthly (some .long) [.ref q, .int y, .int w] f (fun r f' => r = some (.long (za_month s y w)) ∧ kSt Y q s f') := by
  obtain ⟨ad, t, x, rfl, P, T, J, K⟩ := h
  refine (k_BT_monthly Y l P J.N K.2.1 J.I y w).post (fun r f' hp => ?_)
  obtain ⟨e, rfl⟩ := hp
  exact ⟨e, ad, t, x, rfl, P, T, J, K⟩
theorem mc_monthly (Y : hY) (l : Launch) {q : Nat} {s : zS} (J : zJ s) {f : hw_F} (h : mSt Y q s f) (y w : Int32) : hM Y l y_Mod_monthly S_Mod_monthly (some .long) [.ref q, .int y, .int w] f (fun r f' => r = some (.long (za_month s y w)) ∧ mSt Y q s f') := by
  obtain ⟨ad, tk, rfl, P⟩ := h
  refine (m_monthly Y l P J.N J.ib y w).post (fun r f' hp => ?_)
  obtain ⟨e, rfl⟩ := hp
  exact ⟨e, ad, tk, rfl, P⟩
theorem kc_dispute (Y : hY) (l : Launch) {q : Nat} {s : zS} {f : hw_F} (h : kSt Y q s f) (y w : Int32) : hM Y l y_BT_dispute S_BT_dispute (some .int) [.ref q, .int y, .int w] f (fun r f' => r = some (.int (za_disp s y w).1) ∧ kSt Y q (za_disp s y w).2 f') := by
  obtain ⟨ad, t, x, rfl, P, T, J, K⟩ := h
  refine (k_BT_dispute Y l P J.N T y w).post (fun r f' hp => ?_)
  obtain ⟨e, ad', t', ea, P', T'⟩ := hp
  exact ⟨e, ad', t', x, ea, P', T', jt_disp J K y w⟩
theorem mc_dispute (Y : hY) (l : Launch) {q : Nat} {s : zS} (J : zJ s) {f : hw_F} (h : mSt Y q s f) (y w : Int32) : hM Y l y_Mod_dispute S_Mod_dispute (some .int) [.ref q, .int y, .int w] f (fun r f' => r = some (.int (za_disp s y w).1) ∧ mSt Y q (za_disp s y w).2 f') := by
  obtain ⟨ad, tk, rfl, P⟩ := h
  refine (m_dispute Y l P J.N y w).post (fun r f' hp => ?_)
  obtain ⟨e, tk', P'⟩ := hp
  exact ⟨e, ad, tk', rfl, P'⟩
theorem kc_verdict (Y : hY) (l : Launch) {q : Nat} {s : zS} {f : hw_F} (h : kSt Y q s f) (y : Int32) : hM Y l y_BT_verdict S_BT_verdict (some .int) [.ref q, .int y] f (fun r f' => r = some (.int (za_verd s y)) ∧ kSt Y q s f') := by
  obtain ⟨ad, t, x, rfl, P, T, J, K⟩ := h
  refine (k_BT_verdict Y l P J.N K.2.1 J.G J.Q y).post (fun r f' hp => ?_)
  obtain ⟨e, rfl⟩ := hp
  exact ⟨e, ad, t, x, rfl, P, T, J, K⟩
theorem mc_verdict (Y : hY) (l : Launch) {q : Nat} {s : zS} (J : zJ s) {f : hw_F} (h : mSt Y q s f) (y : Int32) : hM Y l y_Mod_verdict S_Mod_verdict (some .int) [.ref q, .int y] f (fun r f' => r = some (.int (za_verd s y)) ∧ mSt Y q s f') := by
  obtain ⟨ad, tk, rfl, P⟩ := h
  refine (m_verdict Y l P J.N y).post (fun r f' hp => ?_)
  obtain ⟨e, rfl⟩ := hp
  exact ⟨e, ad, tk, rfl, P⟩
