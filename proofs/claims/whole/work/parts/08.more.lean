theorem r_ldcw {Y : hY} {X : hX} {S : hS} {k n : Nat} {f : hw_F} {lv : List (Nat × Value)} {st : List Value} {pc : Nat} (C : hC Y X S) {ix : Nat} {v : Int32} (hd : decode S.1 pc = .ok (.ldc_w ix, 3)) (hm : Cond.constant S.2.1 ix v ∈ hTB) (K : hG Y X S k n f lv (.int v :: st) (pc + 3)) : hG Y X S k n f lv st pc := fun H locs ls h1 h2 h3 => lv_ldcw C.1 C.2.1 C.2.2.2.1 (C.2.2.2.2.1 _ hm) hd (K H locs ls h1 h2 h3)
def k_us (x y : Int32) : Int32 := (x.toUInt32 >>> (y.toUInt32 &&& Int32.toUInt32 31)).toInt32
def k_bcA (x : Int32) : Int32 := x - (k_us x 1 &&& 1431655765)
def k_bcB (x : Int32) : Int32 := (x &&& 858993459) + (k_us x 2 &&& 858993459)
def k_bcC (x : Int32) : Int32 := (x + k_us x 4) &&& 252645135
def k_bcD (x : Int32) : Int32 := x + k_us x 8
def k_bcE (x : Int32) : Int32 := x + k_us x 16
/-- Integer.bitCount, as its bytes have it -/
def k_bc (x : Int32) : Int32 := k_bcE (k_bcD (k_bcC (k_bcB (k_bcA x)))) &&& 63
def k_bt (m i : Int32) : Bool := decide (¬ (k_us m i &&& 1) = 0)
def k_in (v a b : Int64) : Bool := decide (a ≤ v) && decide (v ≤ b)
def k_share (a b : Int64) : Bool := k_in b 1 1000 && k_in a 0 b
theorem bI_true : bI true = 1 := rfl
theorem bI_false : bI false = 0 := rfl
theorem r_sub {Y : hY} {X : hX} {S : hS} {k n : Nat} {f : hw_F} {lv lv' : List (Nat × Value)} {st : List Value} {pc : Nat} (ks : List Nat) (hl : lv_pick lv ks = lv') (K : hG Y X S k n f lv' st pc) : hG Y X S k n f lv st pc := fun H locs ls h1 h2 h3 => K H locs ls h1 h2 (lv_sub h3 ks hl)
/-- a world gets a name, by what it holds -/
theorem r_nw {Y : hY} {X : hX} {S : hS} {k n : Nat} {f : hw_F} {lv : List (Nat × Value)} {st : List Value} {pc : Nat} (R : hw_F → Prop) (h : R f) (K : ∀ f2, R f2 → hG Y X S k n f2 lv st pc) : hG Y X S k n f lv st pc := K f h
