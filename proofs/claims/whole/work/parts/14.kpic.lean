/-! THE CLASS's cells -/
/-- a row of flags as a number -/
def zb_m (p : Nat → Bool) : Nat → Nat
  | 0 => 0
  | n + 1 => zb_m p n + (bif p n then 2 ^ n else 0)
def z_ls (s : zS) (k : Nat) : Nat := zb_m (fun l => z_h s (8 * k + l)) 8
def zb_by (s : zS) (i j : Nat) : Int64 := bif z_sd s (8 * i + j) then (z_sb s (8 * i + j)).toInt64 <<< ((8 * (7 - nI j)).toInt64 &&& 63) else 0
def zb_or (s : zS) (i : Nat) : Nat → Int64
  | 0 => 0
  | n + 1 => zb_or s i n ||| zb_by s i n
/-- the search: how many stand in the order, the order, best without each, the best sum, winners, in some best sale -/
abbrev kX : Type := Nat × (Nat → Option Nat) × (Nat → Int64) × Int64 × Int32 × Int32
def kV (s : zS) : Nat → Nat → Prop := fun k i => (k ≤ 9 ∧ i = 0) ∨ (10 ≤ k ∧ k ≤ 13 ∧ i < z_nL s) ∨ (k = 14 ∧ i < z_nB s) ∨ (k = 15 ∧ i < z_nD s) ∨ (k = 16 ∧ i < z_nP s)
def kE (Y : hY) (ad : Nat → Nat → Nat) (s : zS) (x : kX) (t : Bool) : Nat → Nat → va_E := fun k i => match k with
  | 0 => .inr (0, [.ref (ad 1 0), .ref (ad 2 0), .ref (ad 3 0), .ref (ad 4 0), .ref (ad 5 0), .ref (ad 6 0), .ref (ad 7 0), .int (nI (z_nL s)), .int (nI (z_nB s)), .int (nI (z_nD s)), .int (nI (z_nP s)), .int (bI t)])
  | 1 => eQ (Y.2 3) 8 (fun i => if i < z_nL s then some (ad 10 i) else none)
  | 2 => eQ (Y.2 4) 6 (fun i => if i < z_nB s then some (ad 14 i) else none)
  | 3 => eQ (Y.2 5) 12 (fun i => if i < z_nD s then some (ad 15 i) else none)
  | 4 => eQ (Y.2 6) 20 (fun i => if i < z_nP s then some (ad 16 i) else none)
  | 5 => eJ (Y.2 0) 60 (z_ia s)
  | 6 => eJ (Y.2 0) 60 (z_ib s)
  | 7 => .inr (5, [.ref (ad 8 0), .ref (ad 9 0), .int (nI x.1), .long x.2.2.2.1, .int x.2.2.2.2.1, .int x.2.2.2.2.2])
  | 8 => eQ (Y.2 5) 12 (fun p => (x.2.1 p).map (ad 15))
  | 9 => eJ (Y.2 0) 12 x.2.2.1
  | 10 => .inr (1, [.ref (ad 11 i), .ref (ad 12 i), .ref (ad 13 i), .int (nI (z_sn s i))])
  | 11 => eJ (Y.2 0) 6 (fun j => if j < 6 then z_sa s (6 * i + j) else 0)
  | 12 => eJ (Y.2 0) 6 (fun j => if j < 6 then z_sl s (6 * i + j) else 0)
  | 13 => eJ (Y.2 0) 6 (fun j => if j < 6 then z_sc s (6 * i + j) else 0)
  | 14 => .inr (2, [.int (nI i), .int (bI (z_q s i)), .int (bI (z_o s i)), .long (z_t s i), .int (z_m s i), .long (zb_or s i 8), .int (nI (zb_m (fun j => z_sd s (8 * i + j)) 8))])
  | 15 => .inr (3, [.int (nI i), .ref (ad 14 (z_ow s i)), .long (z_c s i), .int (nI (z_ls s i))])
  | _ => .inr (4, [.ref (ad 15 (z_db s i)), .int (z_dr s i)])
abbrev kPic (Y : hY) (ad : Nat → Nat → Nat) (s : zS) (x : kX) (t : Bool) (f : hw_F) : Prop := hPic ad (kV s) (kE Y ad s x t) f
section KP
variable {Y : hY} {ad : Nat → Nat → Nat} {s : zS} {x : kX} {t : Bool} {f : hw_F}
theorem kp_0 (P : kPic Y ad s x t f) : f (ad 0 0) = some (.inr (0, [.ref (ad 1 0), .ref (ad 2 0), .ref (ad 3 0), .ref (ad 4 0), .ref (ad 5 0), .ref (ad 6 0), .ref (ad 7 0), .int (nI (z_nL s)), .int (nI (z_nB s)), .int (nI (z_nD s)), .int (nI (z_nP s)), .int (bI t)])) := P.1 0 0 (Or.inl ⟨by decide, rfl⟩)
theorem kp_1 (P : kPic Y ad s x t f) : f (ad 1 0) = some (eQ (Y.2 3) 8 (fun i => if i < z_nL s then some (ad 10 i) else none)) := P.1 1 0 (Or.inl ⟨by decide, rfl⟩)
theorem kp_2 (P : kPic Y ad s x t f) : f (ad 2 0) = some (eQ (Y.2 4) 6 (fun i => if i < z_nB s then some (ad 14 i) else none)) := P.1 2 0 (Or.inl ⟨by decide, rfl⟩)
theorem kp_3 (P : kPic Y ad s x t f) : f (ad 3 0) = some (eQ (Y.2 5) 12 (fun i => if i < z_nD s then some (ad 15 i) else none)) := P.1 3 0 (Or.inl ⟨by decide, rfl⟩)
theorem kp_4 (P : kPic Y ad s x t f) : f (ad 4 0) = some (eQ (Y.2 6) 20 (fun i => if i < z_nP s then some (ad 16 i) else none)) := P.1 4 0 (Or.inl ⟨by decide, rfl⟩)
theorem kp_5 (P : kPic Y ad s x t f) : f (ad 5 0) = some (eJ (Y.2 0) 60 (z_ia s)) := P.1 5 0 (Or.inl ⟨by decide, rfl⟩)
theorem kp_6 (P : kPic Y ad s x t f) : f (ad 6 0) = some (eJ (Y.2 0) 60 (z_ib s)) := P.1 6 0 (Or.inl ⟨by decide, rfl⟩)
theorem kp_7 (P : kPic Y ad s x t f) : f (ad 7 0) = some (.inr (5, [.ref (ad 8 0), .ref (ad 9 0), .int (nI x.1), .long x.2.2.2.1, .int x.2.2.2.2.1, .int x.2.2.2.2.2])) := P.1 7 0 (Or.inl ⟨by decide, rfl⟩)
theorem kp_8 (P : kPic Y ad s x t f) : f (ad 8 0) = some (eQ (Y.2 5) 12 (fun p => (x.2.1 p).map (ad 15))) := P.1 8 0 (Or.inl ⟨by decide, rfl⟩)
theorem kp_9 (P : kPic Y ad s x t f) : f (ad 9 0) = some (eJ (Y.2 0) 12 x.2.2.1) := P.1 9 0 (Or.inl ⟨by decide, rfl⟩)
theorem kp_10 (P : kPic Y ad s x t f) {i : Nat} (h : i < z_nL s) : f (ad 10 i) = some (.inr (1, [.ref (ad 11 i), .ref (ad 12 i), .ref (ad 13 i), .int (nI (z_sn s i))])) := P.1 10 i (Or.inr (Or.inl ⟨by decide, by decide, h⟩))
theorem kp_11 (P : kPic Y ad s x t f) {i : Nat} (h : i < z_nL s) : f (ad 11 i) = some (eJ (Y.2 0) 6 (fun j => if j < 6 then z_sa s (6 * i + j) else 0)) := P.1 11 i (Or.inr (Or.inl ⟨by decide, by decide, h⟩))
theorem kp_12 (P : kPic Y ad s x t f) {i : Nat} (h : i < z_nL s) : f (ad 12 i) = some (eJ (Y.2 0) 6 (fun j => if j < 6 then z_sl s (6 * i + j) else 0)) := P.1 12 i (Or.inr (Or.inl ⟨by decide, by decide, h⟩))
theorem kp_13 (P : kPic Y ad s x t f) {i : Nat} (h : i < z_nL s) : f (ad 13 i) = some (eJ (Y.2 0) 6 (fun j => if j < 6 then z_sc s (6 * i + j) else 0)) := P.1 13 i (Or.inr (Or.inl ⟨by decide, by decide, h⟩))
theorem kp_14 (P : kPic Y ad s x t f) {i : Nat} (h : i < z_nB s) : f (ad 14 i) = some (.inr (2, [.int (nI i), .int (bI (z_q s i)), .int (bI (z_o s i)), .long (z_t s i), .int (z_m s i), .long (zb_or s i 8), .int (nI (zb_m (fun j => z_sd s (8 * i + j)) 8))])) := P.1 14 i (Or.inr (Or.inr (Or.inl ⟨rfl, h⟩)))
theorem kp_15 (P : kPic Y ad s x t f) {i : Nat} (h : i < z_nD s) : f (ad 15 i) = some (.inr (3, [.int (nI i), .ref (ad 14 (z_ow s i)), .long (z_c s i), .int (nI (z_ls s i))])) := P.1 15 i (Or.inr (Or.inr (Or.inr (Or.inl ⟨rfl, h⟩))))
theorem kp_16 (P : kPic Y ad s x t f) {i : Nat} (h : i < z_nP s) : f (ad 16 i) = some (.inr (4, [.ref (ad 15 (z_db s i)), .int (z_dr s i)])) := P.1 16 i (Or.inr (Or.inr (Or.inr (Or.inr ⟨rfl, h⟩))))
end KP
