/-! THE REFERENCE's cells -/
def mV : Nat → Nat → Prop := fun k i => k < 22 ∧ i = 0
def mE (Y : hY) (ad : Nat → Nat → Nat) (s : zS) (tk : Nat → Bool) : Nat → Nat → va_E := fun k _ => match k with
  | 0 => .inr (6, [.int (nI (z_nL s)), .int (nI (z_nB s)), .ref (ad 1 0), .ref (ad 2 0), .ref (ad 3 0), .ref (ad 4 0), .ref (ad 5 0), .ref (ad 6 0), .int (nI (z_nD s)), .ref (ad 7 0), .ref (ad 8 0), .ref (ad 9 0), .int (bI (z_fd s)), .int (bI (z_pv s)), .ref (ad 10 0), .ref (ad 11 0), .long (z_fs s), .ref (ad 12 0), .ref (ad 13 0), .ref (ad 14 0), .ref (ad 15 0), .ref (ad 16 0), .ref (ad 17 0), .ref (ad 18 0), .int (nI (z_nP s)), .ref (ad 19 0), .ref (ad 20 0), .ref (ad 21 0)])
  | 1 => eI (Y.2 2) 6 (fun i => bI (z_q s i))
  | 2 => eI (Y.2 2) 6 (fun i => bI (z_o s i))
  | 3 => eJ (Y.2 0) 6 (z_t s)
  | 4 => eI (Y.2 1) 6 (z_m s)
  | 5 => eI (Y.2 1) 48 (z_sb s)
  | 6 => eI (Y.2 2) 48 (fun i => bI (z_sd s i))
  | 7 => eI (Y.2 1) 12 (fun i => nI (z_ow s i))
  | 8 => eJ (Y.2 0) 12 (z_c s)
  | 9 => eI (Y.2 2) 96 (fun i => bI (z_h s i))
  | 10 => eI (Y.2 2) 12 (fun i => bI (z_pl s i))
  | 11 => eI (Y.2 2) 12 (fun i => bI (z_w s i))
  | 12 => eI (Y.2 1) 8 (fun i => nI (z_sn s i))
  | 13 => eJ (Y.2 0) 48 (z_sa s)
  | 14 => eJ (Y.2 0) 48 (z_sl s)
  | 15 => eJ (Y.2 0) 48 (z_sc s)
  | 16 => eI (Y.2 2) 60 (fun i => bI (z_hi s i))
  | 17 => eJ (Y.2 0) 60 (z_ia s)
  | 18 => eJ (Y.2 0) 60 (z_ib s)
  | 19 => eI (Y.2 1) 20 (fun i => nI (z_db s i))
  | 20 => eI (Y.2 1) 20 (z_dr s)
  | _ => eI (Y.2 2) 12 (fun i => bI (tk i))
abbrev mPic (Y : hY) (ad : Nat → Nat → Nat) (s : zS) (tk : Nat → Bool) (f : hw_F) : Prop := hPic ad mV (mE Y ad s tk) f
section MP
variable {Y : hY} {ad : Nat → Nat → Nat} {s : zS} {tk : Nat → Bool} {f : hw_F}
theorem mp_0 (P : mPic Y ad s tk f) : f (ad 0 0) = some (.inr (6, [.int (nI (z_nL s)), .int (nI (z_nB s)), .ref (ad 1 0), .ref (ad 2 0), .ref (ad 3 0), .ref (ad 4 0), .ref (ad 5 0), .ref (ad 6 0), .int (nI (z_nD s)), .ref (ad 7 0), .ref (ad 8 0), .ref (ad 9 0), .int (bI (z_fd s)), .int (bI (z_pv s)), .ref (ad 10 0), .ref (ad 11 0), .long (z_fs s), .ref (ad 12 0), .ref (ad 13 0), .ref (ad 14 0), .ref (ad 15 0), .ref (ad 16 0), .ref (ad 17 0), .ref (ad 18 0), .int (nI (z_nP s)), .ref (ad 19 0), .ref (ad 20 0), .ref (ad 21 0)])) := P.1 0 0 ⟨by decide, rfl⟩
theorem mp_qualified (P : mPic Y ad s tk f) : f (ad 1 0) = some (eI (Y.2 2) 6 (fun i => bI (z_q s i))) := P.1 1 0 ⟨by decide, rfl⟩
theorem mp_opened (P : mPic Y ad s tk f) : f (ad 2 0) = some (eI (Y.2 2) 6 (fun i => bI (z_o s i))) := P.1 2 0 ⟨by decide, rfl⟩
theorem mp_times (P : mPic Y ad s tk f) : f (ad 3 0) = some (eJ (Y.2 0) 6 (z_t s)) := P.1 3 0 ⟨by decide, rfl⟩
theorem mp_mosts (P : mPic Y ad s tk f) : f (ad 4 0) = some (eI (Y.2 1) 6 (z_m s)) := P.1 4 0 ⟨by decide, rfl⟩
theorem mp_seals (P : mPic Y ad s tk f) : f (ad 5 0) = some (eI (Y.2 1) 48 (z_sb s)) := P.1 5 0 ⟨by decide, rfl⟩
theorem mp_sealed (P : mPic Y ad s tk f) : f (ad 6 0) = some (eI (Y.2 2) 48 (fun i => bI (z_sd s i))) := P.1 6 0 ⟨by decide, rfl⟩
theorem mp_owners (P : mPic Y ad s tk f) : f (ad 7 0) = some (eI (Y.2 1) 12 (fun i => nI (z_ow s i))) := P.1 7 0 ⟨by decide, rfl⟩
theorem mp_cents (P : mPic Y ad s tk f) : f (ad 8 0) = some (eJ (Y.2 0) 12 (z_c s)) := P.1 8 0 ⟨by decide, rfl⟩
theorem mp_has (P : mPic Y ad s tk f) : f (ad 9 0) = some (eI (Y.2 2) 96 (fun i => bI (z_h s i))) := P.1 9 0 ⟨by decide, rfl⟩
theorem mp_played (P : mPic Y ad s tk f) : f (ad 10 0) = some (eI (Y.2 2) 12 (fun i => bI (z_pl s i))) := P.1 10 0 ⟨by decide, rfl⟩
theorem mp_winners (P : mPic Y ad s tk f) : f (ad 11 0) = some (eI (Y.2 2) 12 (fun i => bI (z_w s i))) := P.1 11 0 ⟨by decide, rfl⟩
theorem mp_stepCounts (P : mPic Y ad s tk f) : f (ad 12 0) = some (eI (Y.2 1) 8 (fun i => nI (z_sn s i))) := P.1 12 0 ⟨by decide, rfl⟩
theorem mp_stepAbove (P : mPic Y ad s tk f) : f (ad 13 0) = some (eJ (Y.2 0) 48 (z_sa s)) := P.1 13 0 ⟨by decide, rfl⟩
theorem mp_stepBelow (P : mPic Y ad s tk f) : f (ad 14 0) = some (eJ (Y.2 0) 48 (z_sl s)) := P.1 14 0 ⟨by decide, rfl⟩
theorem mp_stepCents (P : mPic Y ad s tk f) : f (ad 15 0) = some (eJ (Y.2 0) 48 (z_sc s)) := P.1 15 0 ⟨by decide, rfl⟩
theorem mp_hasIndex (P : mPic Y ad s tk f) : f (ad 16 0) = some (eI (Y.2 2) 60 (fun i => bI (z_hi s i))) := P.1 16 0 ⟨by decide, rfl⟩
theorem mp_indexAbove (P : mPic Y ad s tk f) : f (ad 17 0) = some (eJ (Y.2 0) 60 (z_ia s)) := P.1 17 0 ⟨by decide, rfl⟩
theorem mp_indexBelow (P : mPic Y ad s tk f) : f (ad 18 0) = some (eJ (Y.2 0) 60 (z_ib s)) := P.1 18 0 ⟨by decide, rfl⟩
theorem mp_disputed (P : mPic Y ad s tk f) : f (ad 19 0) = some (eI (Y.2 1) 20 (fun i => nI (z_db s i))) := P.1 19 0 ⟨by decide, rfl⟩
theorem mp_reasons (P : mPic Y ad s tk f) : f (ad 20 0) = some (eI (Y.2 1) 20 (z_dr s)) := P.1 20 0 ⟨by decide, rfl⟩
theorem mp_taken (P : mPic Y ad s tk f) : f (ad 21 0) = some (eI (Y.2 2) 12 (fun i => bI (tk i))) := P.1 21 0 ⟨by decide, rfl⟩
end MP
