-- ===== PART A: goes FIRST, ahead of the names: the tables' words, and 'selects' of the private methods out of them =====
/-- a private method of a class that the tables say can be made, by its rows of tables_1 -/
def lw_okq (q : MethodName × Nat) : Prop := (q.1.cls ≠ "java/lang/invoke/MethodHandle" ∧ q.1.cls ≠ "java/lang/invoke/VarHandle") ∧ Cond.instantiable q.1.cls q.2 ∈ tables_1 ∧ Cond.privateMethod q.1 ∈ tables_1 ∧ Cond.instanceMethod q.1 ∈ tables_1
theorem lw_p0 : lw_okq (⟨"BaleTenders", "unopenedAt", "(I)LBaleTenders$Bidder;"⟩, 12) := ⟨⟨by decide +kernel, by decide +kernel⟩, List.mem_of_getElem? (i := 12) (by decide +kernel), List.mem_of_getElem? (i := 163) (by decide +kernel), List.mem_of_getElem? (i := 164) (by decide +kernel)⟩
theorem lw_p1 : lw_okq (⟨"BaleTenders", "bidderAt", "(I)LBaleTenders$Bidder;"⟩, 12) := ⟨⟨by decide +kernel, by decide +kernel⟩, List.mem_of_getElem? (i := 12) (by decide +kernel), List.mem_of_getElem? (i := 167) (by decide +kernel), List.mem_of_getElem? (i := 168) (by decide +kernel)⟩
theorem lw_p2 : lw_okq (⟨"BaleTenders", "bidAt", "(I)LBaleTenders$Bid;"⟩, 12) := ⟨⟨by decide +kernel, by decide +kernel⟩, List.mem_of_getElem? (i := 12) (by decide +kernel), List.mem_of_getElem? (i := 211) (by decide +kernel), List.mem_of_getElem? (i := 212) (by decide +kernel)⟩
theorem lw_p3 : lw_okq (⟨"BaleTenders", "lotAt", "(I)LBaleTenders$Lot;"⟩, 12) := ⟨⟨by decide +kernel, by decide +kernel⟩, List.mem_of_getElem? (i := 12) (by decide +kernel), List.mem_of_getElem? (i := 215) (by decide +kernel), List.mem_of_getElem? (i := 216) (by decide +kernel)⟩
theorem lw_p4 : lw_okq (⟨"BaleTenders", "digestOf", "(LBaleTenders$Bidder;J)J"⟩, 12) := ⟨⟨by decide +kernel, by decide +kernel⟩, List.mem_of_getElem? (i := 12) (by decide +kernel), List.mem_of_getElem? (i := 257) (by decide +kernel), List.mem_of_getElem? (i := 258) (by decide +kernel)⟩
theorem lw_p5 : lw_okq (⟨"BaleTenders", "bidsOf", "(LBaleTenders$Bidder;)I"⟩, 12) := ⟨⟨by decide +kernel, by decide +kernel⟩, List.mem_of_getElem? (i := 12) (by decide +kernel), List.mem_of_getElem? (i := 268) (by decide +kernel), List.mem_of_getElem? (i := 269) (by decide +kernel)⟩
theorem lw_p6 : lw_okq (⟨"BaleTenders", "bidsInPlay", "()I"⟩, 12) := ⟨⟨by decide +kernel, by decide +kernel⟩, List.mem_of_getElem? (i := 12) (by decide +kernel), List.mem_of_getElem? (i := 276) (by decide +kernel), List.mem_of_getElem? (i := 277) (by decide +kernel)⟩
theorem lw_p7 : lw_okq (⟨"BaleTenders$SaleSearch", "tryFrom", "(IIIJ)V"⟩, 6) := ⟨⟨by decide +kernel, by decide +kernel⟩, List.mem_of_getElem? (i := 28) (by decide +kernel), List.mem_of_getElem? (i := 295) (by decide +kernel), List.mem_of_getElem? (i := 296) (by decide +kernel)⟩
theorem lw_p8 : lw_okq (⟨"BaleTenders$SaleSearch", "keepSale", "(IJ)V"⟩, 6) := ⟨⟨by decide +kernel, by decide +kernel⟩, List.mem_of_getElem? (i := 28) (by decide +kernel), List.mem_of_getElem? (i := 299) (by decide +kernel), List.mem_of_getElem? (i := 300) (by decide +kernel)⟩
theorem lw_p9 : lw_okq (⟨"BaleTenders$SaleSearch", "staysWithinLimit", "(LBaleTenders$Bid;I)Z"⟩, 6) := ⟨⟨by decide +kernel, by decide +kernel⟩, List.mem_of_getElem? (i := 28) (by decide +kernel), List.mem_of_getElem? (i := 303) (by decide +kernel), List.mem_of_getElem? (i := 304) (by decide +kernel)⟩
theorem lw_p10 : lw_okq (⟨"BaleTenders", "winnerAt", "(I)LBaleTenders$Bid;"⟩, 12) := ⟨⟨by decide +kernel, by decide +kernel⟩, List.mem_of_getElem? (i := 12) (by decide +kernel), List.mem_of_getElem? (i := 317) (by decide +kernel), List.mem_of_getElem? (i := 318) (by decide +kernel)⟩
theorem lw_p11 : lw_okq (⟨"BaleTenders", "greatestCentsOn", "(I)J"⟩, 12) := ⟨⟨by decide +kernel, by decide +kernel⟩, List.mem_of_getElem? (i := 12) (by decide +kernel), List.mem_of_getElem? (i := 333) (by decide +kernel), List.mem_of_getElem? (i := 334) (by decide +kernel)⟩
theorem lw_p12 : lw_okq (⟨"BaleTenders$Lot", "comparedTo", "(IJJ)I"⟩, 4) := ⟨⟨by decide +kernel, by decide +kernel⟩, List.mem_of_getElem? (i := 103) (by decide +kernel), List.mem_of_getElem? (i := 372) (by decide +kernel), List.mem_of_getElem? (i := 373) (by decide +kernel)⟩
theorem lw_p13 : lw_okq (⟨"BaleTenders", "hasIndex", "(I)Z"⟩, 12) := ⟨⟨by decide +kernel, by decide +kernel⟩, List.mem_of_getElem? (i := 12) (by decide +kernel), List.mem_of_getElem? (i := 395) (by decide +kernel), List.mem_of_getElem? (i := 396) (by decide +kernel)⟩
theorem lw_p14 : lw_okq (⟨"BaleTenders", "disputeAt", "(I)LBaleTenders$Dispute;"⟩, 12) := ⟨⟨by decide +kernel, by decide +kernel⟩, List.mem_of_getElem? (i := 12) (by decide +kernel), List.mem_of_getElem? (i := 430) (by decide +kernel), List.mem_of_getElem? (i := 431) (by decide +kernel)⟩
theorem lw_p15 : lw_okq (⟨"BaleTenders", "reasonHolds", "(LBaleTenders$Bid;I)Z"⟩, 12) := ⟨⟨by decide +kernel, by decide +kernel⟩, List.mem_of_getElem? (i := 12) (by decide +kernel), List.mem_of_getElem? (i := 434) (by decide +kernel), List.mem_of_getElem? (i := 435) (by decide +kernel)⟩
def lw_privs_1 : List (MethodName × Nat) := [(⟨"BaleTenders", "unopenedAt", "(I)LBaleTenders$Bidder;"⟩, 12), (⟨"BaleTenders", "bidderAt", "(I)LBaleTenders$Bidder;"⟩, 12), (⟨"BaleTenders", "bidAt", "(I)LBaleTenders$Bid;"⟩, 12), (⟨"BaleTenders", "lotAt", "(I)LBaleTenders$Lot;"⟩, 12), (⟨"BaleTenders", "digestOf", "(LBaleTenders$Bidder;J)J"⟩, 12), (⟨"BaleTenders", "bidsOf", "(LBaleTenders$Bidder;)I"⟩, 12), (⟨"BaleTenders", "bidsInPlay", "()I"⟩, 12), (⟨"BaleTenders$SaleSearch", "tryFrom", "(IIIJ)V"⟩, 6), (⟨"BaleTenders$SaleSearch", "keepSale", "(IJ)V"⟩, 6), (⟨"BaleTenders$SaleSearch", "staysWithinLimit", "(LBaleTenders$Bid;I)Z"⟩, 6), (⟨"BaleTenders", "winnerAt", "(I)LBaleTenders$Bid;"⟩, 12), (⟨"BaleTenders", "greatestCentsOn", "(I)J"⟩, 12), (⟨"BaleTenders$Lot", "comparedTo", "(IJJ)I"⟩, 4), (⟨"BaleTenders", "hasIndex", "(I)Z"⟩, 12), (⟨"BaleTenders", "disputeAt", "(I)LBaleTenders$Dispute;"⟩, 12), (⟨"BaleTenders", "reasonHolds", "(LBaleTenders$Bid;I)Z"⟩, 12)]
theorem lw_r1 : ∀ q ∈ lw_privs_1, lw_okq q := List.forall_mem_cons.mpr ⟨lw_p0, List.forall_mem_cons.mpr ⟨lw_p1, List.forall_mem_cons.mpr ⟨lw_p2, List.forall_mem_cons.mpr ⟨lw_p3, List.forall_mem_cons.mpr ⟨lw_p4, List.forall_mem_cons.mpr ⟨lw_p5, List.forall_mem_cons.mpr ⟨lw_p6, List.forall_mem_cons.mpr ⟨lw_p7, List.forall_mem_cons.mpr ⟨lw_p8, List.forall_mem_cons.mpr ⟨lw_p9, List.forall_mem_cons.mpr ⟨lw_p10, List.forall_mem_cons.mpr ⟨lw_p11, List.forall_mem_cons.mpr ⟨lw_p12, List.forall_mem_cons.mpr ⟨lw_p13, List.forall_mem_cons.mpr ⟨lw_p14, List.forall_mem_cons.mpr ⟨lw_p15, fun _ h => absurd h List.not_mem_nil⟩⟩⟩⟩⟩⟩⟩⟩⟩⟩⟩⟩⟩⟩⟩⟩
theorem lw_p16 : lw_okq (⟨"BaleTenders", "ownReasonHolds", "(LBaleTenders$Bid;I)Z"⟩, 12) := ⟨⟨by decide +kernel, by decide +kernel⟩, List.mem_of_getElem? (i := 12) (by decide +kernel), List.mem_of_getElem? (i := 438) (by decide +kernel), List.mem_of_getElem? (i := 439) (by decide +kernel)⟩
theorem lw_p17 : lw_okq (⟨"BaleTenders", "lotsWon", "()I"⟩, 12) := ⟨⟨by decide +kernel, by decide +kernel⟩, List.mem_of_getElem? (i := 12) (by decide +kernel), List.mem_of_getElem? (i := 442) (by decide +kernel), List.mem_of_getElem? (i := 443) (by decide +kernel)⟩
theorem lw_p18 : lw_okq (⟨"BaleTenders", "lotTallyWonBy", "(LBaleTenders$Bidder;)I"⟩, 12) := ⟨⟨by decide +kernel, by decide +kernel⟩, List.mem_of_getElem? (i := 12) (by decide +kernel), List.mem_of_getElem? (i := 447) (by decide +kernel), List.mem_of_getElem? (i := 448) (by decide +kernel)⟩
theorem lw_p19 : lw_okq (⟨"BaleTendersModel", "isBidder", "(I)Z"⟩, 28) := ⟨⟨by decide +kernel, by decide +kernel⟩, List.mem_of_getElem? (i := 451) (by decide +kernel), List.mem_of_getElem? (i := 557) (by decide +kernel), List.mem_of_getElem? (i := 558) (by decide +kernel)⟩
theorem lw_p20 : lw_okq (⟨"BaleTendersModel", "isBid", "(I)Z"⟩, 28) := ⟨⟨by decide +kernel, by decide +kernel⟩, List.mem_of_getElem? (i := 451) (by decide +kernel), List.mem_of_getElem? (i := 574) (by decide +kernel), List.mem_of_getElem? (i := 575) (by decide +kernel)⟩
theorem lw_p21 : lw_okq (⟨"BaleTendersModel", "isLot", "(I)Z"⟩, 28) := ⟨⟨by decide +kernel, by decide +kernel⟩, List.mem_of_getElem? (i := 451) (by decide +kernel), List.mem_of_getElem? (i := 578) (by decide +kernel), List.mem_of_getElem? (i := 579) (by decide +kernel)⟩
theorem lw_p22 : lw_okq (⟨"BaleTendersModel", "told", "(I)I"⟩, 28) := ⟨⟨by decide +kernel, by decide +kernel⟩, List.mem_of_getElem? (i := 451) (by decide +kernel), List.mem_of_getElem? (i := 586) (by decide +kernel), List.mem_of_getElem? (i := 587) (by decide +kernel)⟩
theorem lw_p23 : lw_okq (⟨"BaleTendersModel", "setOf", "(I)J"⟩, 28) := ⟨⟨by decide +kernel, by decide +kernel⟩, List.mem_of_getElem? (i := 451) (by decide +kernel), List.mem_of_getElem? (i := 595) (by decide +kernel), List.mem_of_getElem? (i := 596) (by decide +kernel)⟩
theorem lw_p24 : lw_okq (⟨"BaleTendersModel", "isInPlay", "(I)Z"⟩, 28) := ⟨⟨by decide +kernel, by decide +kernel⟩, List.mem_of_getElem? (i := 451) (by decide +kernel), List.mem_of_getElem? (i := 611) (by decide +kernel), List.mem_of_getElem? (i := 612) (by decide +kernel)⟩
theorem lw_p25 : lw_okq (⟨"BaleTendersModel", "lotsOf", "(I)I"⟩, 28) := ⟨⟨by decide +kernel, by decide +kernel⟩, List.mem_of_getElem? (i := 451) (by decide +kernel), List.mem_of_getElem? (i := 615) (by decide +kernel), List.mem_of_getElem? (i := 616) (by decide +kernel)⟩
theorem lw_p26 : lw_okq (⟨"BaleTendersModel", "take", "(I)V"⟩, 28) := ⟨⟨by decide +kernel, by decide +kernel⟩, List.mem_of_getElem? (i := 451) (by decide +kernel), List.mem_of_getElem? (i := 619) (by decide +kernel), List.mem_of_getElem? (i := 620) (by decide +kernel)⟩
theorem lw_p27 : lw_okq (⟨"BaleTendersModel", "isSale", "()Z"⟩, 28) := ⟨⟨by decide +kernel, by decide +kernel⟩, List.mem_of_getElem? (i := 451) (by decide +kernel), List.mem_of_getElem? (i := 623) (by decide +kernel), List.mem_of_getElem? (i := 624) (by decide +kernel)⟩
theorem lw_p28 : lw_okq (⟨"BaleTendersModel", "takenSum", "()J"⟩, 28) := ⟨⟨by decide +kernel, by decide +kernel⟩, List.mem_of_getElem? (i := 451) (by decide +kernel), List.mem_of_getElem? (i := 627) (by decide +kernel), List.mem_of_getElem? (i := 628) (by decide +kernel)⟩
theorem lw_p29 : lw_okq (⟨"BaleTendersModel", "isFirst", "()Z"⟩, 28) := ⟨⟨by decide +kernel, by decide +kernel⟩, List.mem_of_getElem? (i := 451) (by decide +kernel), List.mem_of_getElem? (i := 631) (by decide +kernel), List.mem_of_getElem? (i := 632) (by decide +kernel)⟩
theorem lw_p30 : lw_okq (⟨"BaleTendersModel", "isBefore", "(II)Z"⟩, 28) := ⟨⟨by decide +kernel, by decide +kernel⟩, List.mem_of_getElem? (i := 451) (by decide +kernel), List.mem_of_getElem? (i := 635) (by decide +kernel), List.mem_of_getElem? (i := 636) (by decide +kernel)⟩
theorem lw_p31 : lw_okq (⟨"BaleTendersModel", "isTied", "(I)Z"⟩, 28) := ⟨⟨by decide +kernel, by decide +kernel⟩, List.mem_of_getElem? (i := 451) (by decide +kernel), List.mem_of_getElem? (i := 665) (by decide +kernel), List.mem_of_getElem? (i := 666) (by decide +kernel)⟩
def lw_privs_2 : List (MethodName × Nat) := [(⟨"BaleTenders", "ownReasonHolds", "(LBaleTenders$Bid;I)Z"⟩, 12), (⟨"BaleTenders", "lotsWon", "()I"⟩, 12), (⟨"BaleTenders", "lotTallyWonBy", "(LBaleTenders$Bidder;)I"⟩, 12), (⟨"BaleTendersModel", "isBidder", "(I)Z"⟩, 28), (⟨"BaleTendersModel", "isBid", "(I)Z"⟩, 28), (⟨"BaleTendersModel", "isLot", "(I)Z"⟩, 28), (⟨"BaleTendersModel", "told", "(I)I"⟩, 28), (⟨"BaleTendersModel", "setOf", "(I)J"⟩, 28), (⟨"BaleTendersModel", "isInPlay", "(I)Z"⟩, 28), (⟨"BaleTendersModel", "lotsOf", "(I)I"⟩, 28), (⟨"BaleTendersModel", "take", "(I)V"⟩, 28), (⟨"BaleTendersModel", "isSale", "()Z"⟩, 28), (⟨"BaleTendersModel", "takenSum", "()J"⟩, 28), (⟨"BaleTendersModel", "isFirst", "()Z"⟩, 28), (⟨"BaleTendersModel", "isBefore", "(II)Z"⟩, 28), (⟨"BaleTendersModel", "isTied", "(I)Z"⟩, 28)]
theorem lw_r2 : ∀ q ∈ lw_privs_2, lw_okq q := List.forall_mem_cons.mpr ⟨lw_p16, List.forall_mem_cons.mpr ⟨lw_p17, List.forall_mem_cons.mpr ⟨lw_p18, List.forall_mem_cons.mpr ⟨lw_p19, List.forall_mem_cons.mpr ⟨lw_p20, List.forall_mem_cons.mpr ⟨lw_p21, List.forall_mem_cons.mpr ⟨lw_p22, List.forall_mem_cons.mpr ⟨lw_p23, List.forall_mem_cons.mpr ⟨lw_p24, List.forall_mem_cons.mpr ⟨lw_p25, List.forall_mem_cons.mpr ⟨lw_p26, List.forall_mem_cons.mpr ⟨lw_p27, List.forall_mem_cons.mpr ⟨lw_p28, List.forall_mem_cons.mpr ⟨lw_p29, List.forall_mem_cons.mpr ⟨lw_p30, List.forall_mem_cons.mpr ⟨lw_p31, fun _ h => absurd h List.not_mem_nil⟩⟩⟩⟩⟩⟩⟩⟩⟩⟩⟩⟩⟩⟩⟩⟩
theorem lw_p32 : lw_okq (⟨"BaleTendersModel", "holds", "(II)Z"⟩, 28) := ⟨⟨by decide +kernel, by decide +kernel⟩, List.mem_of_getElem? (i := 451) (by decide +kernel), List.mem_of_getElem? (i := 703) (by decide +kernel), List.mem_of_getElem? (i := 704) (by decide +kernel)⟩
def lw_privs_3 : List (MethodName × Nat) := [(⟨"BaleTendersModel", "holds", "(II)Z"⟩, 28)]
theorem lw_r3 : ∀ q ∈ lw_privs_3, lw_okq q := List.forall_mem_cons.mpr ⟨lw_p32, fun _ h => absurd h List.not_mem_nil⟩
def lw_privs : List (MethodName × Nat) := lw_privs_1 ++ (lw_privs_2 ++ (lw_privs_3))
def lw_tbl : List Cond := k2_sels lw_privs ++ tables_1
theorem lw_privs_ok : ∀ q ∈ lw_privs, lw_okq q := by
  show ∀ q ∈ lw_privs_1 ++ (lw_privs_2 ++ (lw_privs_3)), lw_okq q
  exact List.forall_mem_append.mpr ⟨lw_r1, List.forall_mem_append.mpr ⟨lw_r2, lw_r3⟩⟩
-- NAMES, by program out of the Statement's tables
def T_BT : u_T := fun k => match k with
  | 0 => ("BaleTenders", "lots", "[LBaleTenders$Lot;", true)
  | 1 => ("BaleTenders", "bidders", "[LBaleTenders$Bidder;", true)
  | 2 => ("BaleTenders", "bids", "[LBaleTenders$Bid;", true)
  | 3 => ("BaleTenders", "disputes", "[LBaleTenders$Dispute;", true)
  | 4 => ("BaleTenders", "indexAbove", "[J", true)
  | 5 => ("BaleTenders", "indexBelow", "[J", true)
  | 6 => ("BaleTenders", "search", "LBaleTenders$SaleSearch;", true)
  | 7 => ("BaleTenders", "lotCount", "I", false)
  | 8 => ("BaleTenders", "bidderCount", "I", false)
  | 9 => ("BaleTenders", "bidCount", "I", false)
  | 10 => ("BaleTenders", "disputeCount", "I", false)
  | _ => ("BaleTenders", "toldSinceFound", "Z", false)
def ty_BT : Nat → FieldType := fun k => match k with
  | 0 => .array (.object "BaleTenders$Lot")
  | 1 => .array (.object "BaleTenders$Bidder")
  | 2 => .array (.object "BaleTenders$Bid")
  | 3 => .array (.object "BaleTenders$Dispute")
  | 4 => .array (.long)
  | 5 => .array (.long)
  | 6 => .object "BaleTenders$SaleSearch"
  | 7 => .int
  | 8 => .int
  | 9 => .int
  | 10 => .int
  | _ => .boolean
theorem nm_BT : ∀ a, a < 12 → ∀ b, b < 12 → a ≠ b → (T_BT a).2.1 ≠ (T_BT b).2.1 := by decide +kernel
theorem ty_BT_ok : ∀ k, k < 12 → parseFieldDescriptor (T_BT k).2.2.1 = some (ty_BT k) := by decide +kernel
def T_Lot : u_T := fun k => match k with
  | 0 => ("BaleTenders$Lot", "above", "[J", true)
  | 1 => ("BaleTenders$Lot", "below", "[J", true)
  | 2 => ("BaleTenders$Lot", "cents", "[J", true)
  | _ => ("BaleTenders$Lot", "stepCount", "I", false)
def ty_Lot : Nat → FieldType := fun k => match k with
  | 0 => .array (.long)
  | 1 => .array (.long)
  | 2 => .array (.long)
  | _ => .int
theorem nm_Lot : ∀ a, a < 4 → ∀ b, b < 4 → a ≠ b → (T_Lot a).2.1 ≠ (T_Lot b).2.1 := by decide +kernel
theorem ty_Lot_ok : ∀ k, k < 4 → parseFieldDescriptor (T_Lot k).2.2.1 = some (ty_Lot k) := by decide +kernel
def T_Bdr : u_T := fun k => match k with
  | 0 => ("BaleTenders$Bidder", "number", "I", true)
  | 1 => ("BaleTenders$Bidder", "qualified", "Z", true)
  | 2 => ("BaleTenders$Bidder", "opened", "Z", false)
  | 3 => ("BaleTenders$Bidder", "sealMs", "J", false)
  | 4 => ("BaleTenders$Bidder", "lotLimit", "I", false)
  | 5 => ("BaleTenders$Bidder", "sealBits", "J", false)
  | _ => ("BaleTenders$Bidder", "sealToldSet", "I", false)
def ty_Bdr : Nat → FieldType := fun k => match k with
  | 0 => .int
  | 1 => .boolean
  | 2 => .boolean
  | 3 => .long
  | 4 => .int
  | 5 => .long
  | _ => .int
theorem nm_Bdr : ∀ a, a < 7 → ∀ b, b < 7 → a ≠ b → (T_Bdr a).2.1 ≠ (T_Bdr b).2.1 := by decide +kernel
theorem ty_Bdr_ok : ∀ k, k < 7 → parseFieldDescriptor (T_Bdr k).2.2.1 = some (ty_Bdr k) := by decide +kernel
def T_Bid : u_T := fun k => match k with
  | 0 => ("BaleTenders$Bid", "number", "I", true)
  | 1 => ("BaleTenders$Bid", "owner", "LBaleTenders$Bidder;", true)
  | 2 => ("BaleTenders$Bid", "cents", "J", true)
  | _ => ("BaleTenders$Bid", "lotSet", "I", false)
def ty_Bid : Nat → FieldType := fun k => match k with
  | 0 => .int
  | 1 => .object "BaleTenders$Bidder"
  | 2 => .long
  | _ => .int
theorem nm_Bid : ∀ a, a < 4 → ∀ b, b < 4 → a ≠ b → (T_Bid a).2.1 ≠ (T_Bid b).2.1 := by decide +kernel
theorem ty_Bid_ok : ∀ k, k < 4 → parseFieldDescriptor (T_Bid k).2.2.1 = some (ty_Bid k) := by decide +kernel
def T_Dis : u_T := fun k => match k with
  | 0 => ("BaleTenders$Dispute", "claimed", "LBaleTenders$Bid;", true)
  | _ => ("BaleTenders$Dispute", "reason", "I", true)
def ty_Dis : Nat → FieldType := fun k => match k with
  | 0 => .object "BaleTenders$Bid"
  | _ => .int
theorem nm_Dis : ∀ a, a < 2 → ∀ b, b < 2 → a ≠ b → (T_Dis a).2.1 ≠ (T_Dis b).2.1 := by decide +kernel
theorem ty_Dis_ok : ∀ k, k < 2 → parseFieldDescriptor (T_Dis k).2.2.1 = some (ty_Dis k) := by decide +kernel
def T_Sea : u_T := fun k => match k with
  | 0 => ("BaleTenders$SaleSearch", "order", "[LBaleTenders$Bid;", true)
  | 1 => ("BaleTenders$SaleSearch", "bestWithout", "[J", true)
  | 2 => ("BaleTenders$SaleSearch", "orderCount", "I", false)
  | 3 => ("BaleTenders$SaleSearch", "bestSum", "J", false)
  | 4 => ("BaleTenders$SaleSearch", "winners", "I", false)
  | _ => ("BaleTenders$SaleSearch", "inSomeBest", "I", false)
def ty_Sea : Nat → FieldType := fun k => match k with
  | 0 => .array (.object "BaleTenders$Bid")
  | 1 => .array (.long)
  | 2 => .int
  | 3 => .long
  | 4 => .int
  | _ => .int
theorem nm_Sea : ∀ a, a < 6 → ∀ b, b < 6 → a ≠ b → (T_Sea a).2.1 ≠ (T_Sea b).2.1 := by decide +kernel
theorem ty_Sea_ok : ∀ k, k < 6 → parseFieldDescriptor (T_Sea k).2.2.1 = some (ty_Sea k) := by decide +kernel
def T_Mod : u_T := fun k => match k with
  | 0 => ("BaleTendersModel", "lots", "I", false)
  | 1 => ("BaleTendersModel", "bidders", "I", false)
  | 2 => ("BaleTendersModel", "qualified", "[Z", true)
  | 3 => ("BaleTendersModel", "opened", "[Z", true)
  | 4 => ("BaleTendersModel", "times", "[J", true)
  | 5 => ("BaleTendersModel", "mosts", "[I", true)
  | 6 => ("BaleTendersModel", "seals", "[I", true)
  | 7 => ("BaleTendersModel", "sealed", "[Z", true)
  | 8 => ("BaleTendersModel", "bids", "I", false)
  | 9 => ("BaleTendersModel", "owners", "[I", true)
  | 10 => ("BaleTendersModel", "cents", "[J", true)
  | 11 => ("BaleTendersModel", "has", "[Z", true)
  | 12 => ("BaleTendersModel", "isFound", "Z", false)
  | 13 => ("BaleTendersModel", "isProved", "Z", false)
  | 14 => ("BaleTendersModel", "played", "[Z", true)
  | 15 => ("BaleTendersModel", "winners", "[Z", true)
  | 16 => ("BaleTendersModel", "found", "J", false)
  | 17 => ("BaleTendersModel", "stepCounts", "[I", true)
  | 18 => ("BaleTendersModel", "stepAbove", "[J", true)
  | 19 => ("BaleTendersModel", "stepBelow", "[J", true)
  | 20 => ("BaleTendersModel", "stepCents", "[J", true)
  | 21 => ("BaleTendersModel", "hasIndex", "[Z", true)
  | 22 => ("BaleTendersModel", "indexAbove", "[J", true)
  | 23 => ("BaleTendersModel", "indexBelow", "[J", true)
  | 24 => ("BaleTendersModel", "disputes", "I", false)
  | 25 => ("BaleTendersModel", "disputed", "[I", true)
  | 26 => ("BaleTendersModel", "reasons", "[I", true)
  | _ => ("BaleTendersModel", "taken", "[Z", true)
def ty_Mod : Nat → FieldType := fun k => match k with
  | 0 => .int
  | 1 => .int
  | 2 => .array (.boolean)
  | 3 => .array (.boolean)
  | 4 => .array (.long)
  | 5 => .array (.int)
  | 6 => .array (.int)
  | 7 => .array (.boolean)
  | 8 => .int
  | 9 => .array (.int)
  | 10 => .array (.long)
  | 11 => .array (.boolean)
  | 12 => .boolean
  | 13 => .boolean
  | 14 => .array (.boolean)
  | 15 => .array (.boolean)
  | 16 => .long
  | 17 => .array (.int)
  | 18 => .array (.long)
  | 19 => .array (.long)
  | 20 => .array (.long)
  | 21 => .array (.boolean)
  | 22 => .array (.long)
  | 23 => .array (.long)
  | 24 => .int
  | 25 => .array (.int)
  | 26 => .array (.int)
  | _ => .array (.boolean)
theorem nm_Mod : ∀ a, a < 28 → ∀ b, b < 28 → a ≠ b → (T_Mod a).2.1 ≠ (T_Mod b).2.1 := by decide +kernel
theorem ty_Mod_ok : ∀ k, k < 28 → parseFieldDescriptor (T_Mod k).2.2.1 = some (ty_Mod k) := by decide +kernel
abbrev vwCl : List vw_C := [("BaleTenders", T_BT, 12), ("BaleTenders$Lot", T_Lot, 4), ("BaleTenders$Bidder", T_Bdr, 7), ("BaleTenders$Bid", T_Bid, 4), ("BaleTenders$Dispute", T_Dis, 2), ("BaleTenders$SaleSearch", T_Sea, 6), ("BaleTendersModel", T_Mod, 28)]
/-- the words of the tables that stay -/
def hTB : List Cond := lw_tbl.filter goodWord
theorem hTB_good : ∀ w ∈ hTB, (w.onTables && w.keeps) = true ∨ ∃ ty, w = .arrayClass ty := fun w h => good_of_word (List.mem_filter.mp h).2
theorem hTB_in : ∀ w ∈ hTB, w ∈ lw_tbl := fun w h => (List.mem_filter.mp h).1
theorem hm_ {w : Cond} (p : Nat) (h : tables_1[p]? = some w) (hg : goodWord w = true) : w ∈ hTB := List.mem_filter.mpr ⟨List.mem_append_right _ (List.mem_of_getElem? h), hg⟩
theorem hs_ {w : Cond} (p : Nat) (h : (k2_sels lw_privs)[p]? = some w) (hg : goodWord w = true) : w ∈ hTB := List.mem_filter.mpr ⟨List.mem_append_left _ (List.mem_of_getElem? h), hg⟩
def hIsN : Cond → Bool
  | .fieldLinkNest .. => true
  | .methodLinkNest .. => true
  | _ => false
/-- the words of nest mates, and the classes that arrays are made of: they move with the tables -/
def hNB : List Cond := tables_1.filter hIsN
def hAB : List String := ["BaleTenders$Lot", "BaleTenders$Bidder", "BaleTenders$Bid", "BaleTenders$Dispute"]
def hNst (U : State) : Prop := (∀ w ∈ hNB, va_Nw w U) ∧ ∀ C ∈ hAB, va_AO C U
theorem hNst.warm {s U : State} (h : hNst s) (hW : s.WarmedH U.vm) : hNst U := ⟨fun w hw => by
  have h1 := h.1 w hw
  have hn := (List.mem_filter.mp hw).2
  cases w <;> first | exact va_Nw.warmF hW h1 | exact va_Nw.warmM hW h1 | (simp [hIsN] at hn; done), fun C hC => (h.2 C hC).moved hW.alike⟩
theorem hNst.same {s U : State} (h : hNst s) (e : s.vm = U.vm) : hNst U := ⟨fun w hw => by
  have h1 := h.1 w hw
  have hn := (List.mem_filter.mp hw).2
  cases w <;> first | exact va_Nw.same rfl e h1 | (simp [hIsN] at hn; done), fun C hC => (h.2 C hC).moved (by rw [e]; exact Vm.Alike.refl _)⟩
theorem hn_ {w : Cond} (p : Nat) (h : tables_1[p]? = some w) (hg : hIsN w = true) : w ∈ hNB := List.mem_filter.mpr ⟨List.mem_of_getElem? h, hg⟩
/-- the array classes: long, int, boolean, and those of the four kinds of object -/
def hTy (Z : Nat → ClassId) : List (ClassId × FieldType) := [(Z 0, .long), (Z 1, .int), (Z 2, .boolean), (Z 3, .object "BaleTenders$Lot"), (Z 4, .object "BaleTenders$Bidder"), (Z 5, .object "BaleTenders$Bid"), (Z 6, .object "BaleTenders$Dispute")]
abbrev c_BT_init : ByteArray := prog_1_method_1_code
def y_BT_init : MethodName := ⟨"BaleTenders", "<init>", "()V"⟩
abbrev c_Sea_init : ByteArray := prog_6_method_1_code
def y_Sea_init : MethodName := ⟨"BaleTenders$SaleSearch", "<init>", "()V"⟩
abbrev c_BT_lot : ByteArray := prog_1_method_2_code
def y_BT_lot : MethodName := ⟨"BaleTenders", "lot", "(J)I"⟩
abbrev c_BT_within : ByteArray := prog_1_method_24_code
def y_BT_within : MethodName := ⟨"BaleTenders", "within", "(JJJ)Z"⟩
abbrev c_Lot_init : ByteArray := prog_5_method_1_code
def y_Lot_init : MethodName := ⟨"BaleTenders$Lot", "<init>", "()V"⟩
abbrev c_BT_bidder : ByteArray := prog_1_method_3_code
def y_BT_bidder : MethodName := ⟨"BaleTenders", "bidder", "(Z)I"⟩
abbrev c_Bdr_init : ByteArray := prog_3_method_1_code
def y_Bdr_init : MethodName := ⟨"BaleTenders$Bidder", "<init>", "(IZ)V"⟩
abbrev c_BT_time : ByteArray := prog_1_method_4_code
def y_BT_time : MethodName := ⟨"BaleTenders", "time", "(IJ)Z"⟩
abbrev c_BT_unopenedAt : ByteArray := prog_1_method_31_code
def y_BT_unopenedAt : MethodName := ⟨"BaleTenders", "unopenedAt", "(I)LBaleTenders$Bidder;"⟩
abbrev c_BT_bidderAt : ByteArray := prog_1_method_30_code
def y_BT_bidderAt : MethodName := ⟨"BaleTenders", "bidderAt", "(I)LBaleTenders$Bidder;"⟩
abbrev c_BT_most : ByteArray := prog_1_method_5_code
def y_BT_most : MethodName := ⟨"BaleTenders", "most", "(II)Z"⟩
abbrev c_BT_bid : ByteArray := prog_1_method_6_code
def y_BT_bid : MethodName := ⟨"BaleTenders", "bid", "(IJ)I"⟩
abbrev c_Bid_init : ByteArray := prog_2_method_1_code
def y_Bid_init : MethodName := ⟨"BaleTenders$Bid", "<init>", "(ILBaleTenders$Bidder;J)V"⟩
abbrev c_BT_on : ByteArray := prog_1_method_7_code
def y_BT_on : MethodName := ⟨"BaleTenders", "on", "(II)Z"⟩
abbrev c_BT_bidAt : ByteArray := prog_1_method_32_code
def y_BT_bidAt : MethodName := ⟨"BaleTenders", "bidAt", "(I)LBaleTenders$Bid;"⟩
abbrev c_BT_lotAt : ByteArray := prog_1_method_29_code
def y_BT_lotAt : MethodName := ⟨"BaleTenders", "lotAt", "(I)LBaleTenders$Lot;"⟩
abbrev c_Bid_has : ByteArray := prog_2_method_2_code
def y_Bid_has : MethodName := ⟨"BaleTenders$Bid", "has", "(I)Z"⟩
abbrev c_BT_seal : ByteArray := prog_1_method_8_code
def y_BT_seal : MethodName := ⟨"BaleTenders", "seal", "(III)I"⟩
abbrev c_BT_isSealByte : ByteArray := prog_1_method_25_code
def y_BT_isSealByte : MethodName := ⟨"BaleTenders", "isSealByte", "(I)Z"⟩
abbrev c_Bdr_toldSealByte : ByteArray := prog_3_method_2_code
def y_Bdr_toldSealByte : MethodName := ⟨"BaleTenders$Bidder", "toldSealByte", "(I)Z"⟩
abbrev c_Bdr_keepSealByte : ByteArray := prog_3_method_3_code
def y_Bdr_keepSealByte : MethodName := ⟨"BaleTenders$Bidder", "keepSealByte", "(II)V"⟩
abbrev c_BT_shiftOfByte : ByteArray := prog_1_method_28_code
def y_BT_shiftOfByte : MethodName := ⟨"BaleTenders", "shiftOfByte", "(I)I"⟩
abbrev c_Bdr_sealBytesTold : ByteArray := prog_3_method_4_code
def y_Bdr_sealBytesTold : MethodName := ⟨"BaleTenders$Bidder", "sealBytesTold", "()I"⟩
abbrev c_Jin_bitCount : ByteArray := prog_9_method_49_code
def y_Jin_bitCount : MethodName := ⟨"java/lang/Integer", "bitCount", "(I)I"⟩
abbrev c_BT_digest : ByteArray := prog_1_method_9_code
def y_BT_digest : MethodName := ⟨"BaleTenders", "digest", "(IJI)I"⟩
abbrev c_BT_digestOf : ByteArray := prog_1_method_40_code
def y_BT_digestOf : MethodName := ⟨"BaleTenders", "digestOf", "(LBaleTenders$Bidder;J)J"⟩
abbrev c_BT_open : ByteArray := prog_1_method_10_code
def y_BT_open : MethodName := ⟨"BaleTenders", "open", "(IJ)I"⟩
abbrev c_BT_bidsOf : ByteArray := prog_1_method_38_code
def y_BT_bidsOf : MethodName := ⟨"BaleTenders", "bidsOf", "(LBaleTenders$Bidder;)I"⟩
abbrev c_BT_run : ByteArray := prog_1_method_11_code
def y_BT_run : MethodName := ⟨"BaleTenders", "run", "(J)I"⟩
abbrev c_BT_bidsInPlay : ByteArray := prog_1_method_37_code
def y_BT_bidsInPlay : MethodName := ⟨"BaleTenders", "bidsInPlay", "()I"⟩
abbrev c_BT_inPlay : ByteArray := prog_1_method_36_code
def y_BT_inPlay : MethodName := ⟨"BaleTenders", "inPlay", "(LBaleTenders$Bid;)Z"⟩
abbrev c_Sea_forget : ByteArray := prog_6_method_4_code
def y_Sea_forget : MethodName := ⟨"BaleTenders$SaleSearch", "forget", "()V"⟩
abbrev c_Sea_addInOrder : ByteArray := prog_6_method_5_code
def y_Sea_addInOrder : MethodName := ⟨"BaleTenders$SaleSearch", "addInOrder", "(LBaleTenders$Bid;)V"⟩
abbrev c_Sea_find : ByteArray := prog_6_method_6_code
def y_Sea_find : MethodName := ⟨"BaleTenders$SaleSearch", "find", "()V"⟩
abbrev c_Sea_tryFrom : ByteArray := prog_6_method_7_code
def y_Sea_tryFrom : MethodName := ⟨"BaleTenders$SaleSearch", "tryFrom", "(IIIJ)V"⟩
abbrev c_Sea_keepSale : ByteArray := prog_6_method_9_code
def y_Sea_keepSale : MethodName := ⟨"BaleTenders$SaleSearch", "keepSale", "(IJ)V"⟩
abbrev c_Sea_staysWithinLimit : ByteArray := prog_6_method_8_code
def y_Sea_staysWithinLimit : MethodName := ⟨"BaleTenders$SaleSearch", "staysWithinLimit", "(LBaleTenders$Bid;I)Z"⟩
abbrev c_Bid_lotTally : ByteArray := prog_2_method_3_code
def y_Bid_lotTally : MethodName := ⟨"BaleTenders$Bid", "lotTally", "()I"⟩
abbrev c_BT_wins : ByteArray := prog_1_method_12_code
def y_BT_wins : MethodName := ⟨"BaleTenders", "wins", "(I)Z"⟩
abbrev c_BT_winnerAt : ByteArray := prog_1_method_34_code
def y_BT_winnerAt : MethodName := ⟨"BaleTenders", "winnerAt", "(I)LBaleTenders$Bid;"⟩
abbrev c_Sea_hasWinner : ByteArray := prog_6_method_2_code
def y_Sea_hasWinner : MethodName := ⟨"BaleTenders$SaleSearch", "hasWinner", "(LBaleTenders$Bid;)Z"⟩
abbrev c_BT_sum : ByteArray := prog_1_method_13_code
def y_BT_sum : MethodName := ⟨"BaleTenders", "sum", "()J"⟩
abbrev c_BT_bound : ByteArray := prog_1_method_14_code
def y_BT_bound : MethodName := ⟨"BaleTenders", "bound", "()J"⟩
abbrev c_BT_greatestCentsOn : ByteArray := prog_1_method_39_code
def y_BT_greatestCentsOn : MethodName := ⟨"BaleTenders", "greatestCentsOn", "(I)J"⟩
abbrev c_BT_proved : ByteArray := prog_1_method_15_code
def y_BT_proved : MethodName := ⟨"BaleTenders", "proved", "()Z"⟩
abbrev c_BT_second : ByteArray := prog_1_method_16_code
def y_BT_second : MethodName := ⟨"BaleTenders", "second", "(I)J"⟩
abbrev c_BT_tie : ByteArray := prog_1_method_17_code
def y_BT_tie : MethodName := ⟨"BaleTenders", "tie", "(II)I"⟩
abbrev c_Sea_ties : ByteArray := prog_6_method_3_code
def y_Sea_ties : MethodName := ⟨"BaleTenders$SaleSearch", "ties", "(LBaleTenders$Bid;)Z"⟩
abbrev c_BT_step : ByteArray := prog_1_method_18_code
def y_BT_step : MethodName := ⟨"BaleTenders", "step", "(IJJJ)Z"⟩
abbrev c_BT_isShare : ByteArray := prog_1_method_27_code
def y_BT_isShare : MethodName := ⟨"BaleTenders", "isShare", "(JJ)Z"⟩
abbrev c_Lot_addStep : ByteArray := prog_5_method_2_code
def y_Lot_addStep : MethodName := ⟨"BaleTenders$Lot", "addStep", "(JJJ)Z"⟩
abbrev c_Lot_comparedTo : ByteArray := prog_5_method_4_code
def y_Lot_comparedTo : MethodName := ⟨"BaleTenders$Lot", "comparedTo", "(IJJ)I"⟩
abbrev c_Jlo_compare : ByteArray := prog_10_method_42_code
def y_Jlo_compare : MethodName := ⟨"java/lang/Long", "compare", "(JJ)I"⟩
abbrev c_BT_price : ByteArray := prog_1_method_19_code
def y_BT_price : MethodName := ⟨"BaleTenders", "price", "(IJJ)J"⟩
abbrev c_Lot_centsAt : ByteArray := prog_5_method_3_code
def y_Lot_centsAt : MethodName := ⟨"BaleTenders$Lot", "centsAt", "(JJ)J"⟩
abbrev c_BT_index : ByteArray := prog_1_method_20_code
def y_BT_index : MethodName := ⟨"BaleTenders", "index", "(IJJ)Z"⟩
abbrev c_BT_isMonth : ByteArray := prog_1_method_26_code
def y_BT_isMonth : MethodName := ⟨"BaleTenders", "isMonth", "(I)Z"⟩
abbrev c_BT_hasIndex : ByteArray := prog_1_method_35_code
def y_BT_hasIndex : MethodName := ⟨"BaleTenders", "hasIndex", "(I)Z"⟩
abbrev c_BT_monthly : ByteArray := prog_1_method_21_code
def y_BT_monthly : MethodName := ⟨"BaleTenders", "monthly", "(II)J"⟩
abbrev c_BT_dispute : ByteArray := prog_1_method_22_code
def y_BT_dispute : MethodName := ⟨"BaleTenders", "dispute", "(II)I"⟩
abbrev c_Dis_init : ByteArray := prog_4_method_1_code
def y_Dis_init : MethodName := ⟨"BaleTenders$Dispute", "<init>", "(LBaleTenders$Bid;I)V"⟩
abbrev c_BT_verdict : ByteArray := prog_1_method_23_code
def y_BT_verdict : MethodName := ⟨"BaleTenders", "verdict", "(I)I"⟩
abbrev c_BT_disputeAt : ByteArray := prog_1_method_33_code
def y_BT_disputeAt : MethodName := ⟨"BaleTenders", "disputeAt", "(I)LBaleTenders$Dispute;"⟩
abbrev c_BT_reasonHolds : ByteArray := prog_1_method_41_code
def y_BT_reasonHolds : MethodName := ⟨"BaleTenders", "reasonHolds", "(LBaleTenders$Bid;I)Z"⟩
abbrev c_BT_ownReasonHolds : ByteArray := prog_1_method_42_code
def y_BT_ownReasonHolds : MethodName := ⟨"BaleTenders", "ownReasonHolds", "(LBaleTenders$Bid;I)Z"⟩
abbrev c_BT_lotsWon : ByteArray := prog_1_method_43_code
def y_BT_lotsWon : MethodName := ⟨"BaleTenders", "lotsWon", "()I"⟩
abbrev c_BT_lotTallyWonBy : ByteArray := prog_1_method_44_code
def y_BT_lotTallyWonBy : MethodName := ⟨"BaleTenders", "lotTallyWonBy", "(LBaleTenders$Bidder;)I"⟩
abbrev c_Mod_init : ByteArray := prog_8_method_1_code
def y_Mod_init : MethodName := ⟨"BaleTendersModel", "<init>", "()V"⟩
abbrev c_Mod_lot : ByteArray := prog_8_method_6_code
def y_Mod_lot : MethodName := ⟨"BaleTendersModel", "lot", "(J)I"⟩
abbrev c_Mod_bidder : ByteArray := prog_8_method_7_code
def y_Mod_bidder : MethodName := ⟨"BaleTendersModel", "bidder", "(Z)I"⟩
abbrev c_Mod_time : ByteArray := prog_8_method_8_code
def y_Mod_time : MethodName := ⟨"BaleTendersModel", "time", "(IJ)Z"⟩
abbrev c_Mod_isBidder : ByteArray := prog_8_method_4_code
def y_Mod_isBidder : MethodName := ⟨"BaleTendersModel", "isBidder", "(I)Z"⟩
abbrev c_Mod_most : ByteArray := prog_8_method_9_code
def y_Mod_most : MethodName := ⟨"BaleTendersModel", "most", "(II)Z"⟩
abbrev c_Mod_bid : ByteArray := prog_8_method_10_code
def y_Mod_bid : MethodName := ⟨"BaleTendersModel", "bid", "(IJ)I"⟩
abbrev c_Mod_on : ByteArray := prog_8_method_11_code
def y_Mod_on : MethodName := ⟨"BaleTendersModel", "on", "(II)Z"⟩
abbrev c_Mod_isBid : ByteArray := prog_8_method_5_code
def y_Mod_isBid : MethodName := ⟨"BaleTendersModel", "isBid", "(I)Z"⟩
abbrev c_Mod_isLot : ByteArray := prog_8_method_3_code
def y_Mod_isLot : MethodName := ⟨"BaleTendersModel", "isLot", "(I)Z"⟩
abbrev c_Mod_seal : ByteArray := prog_8_method_12_code
def y_Mod_seal : MethodName := ⟨"BaleTendersModel", "seal", "(III)I"⟩
abbrev c_Mod_told : ByteArray := prog_8_method_13_code
def y_Mod_told : MethodName := ⟨"BaleTendersModel", "told", "(I)I"⟩
abbrev c_Mod_digest : ByteArray := prog_8_method_16_code
def y_Mod_digest : MethodName := ⟨"BaleTendersModel", "digest", "(IJI)I"⟩
abbrev c_Mod_setOf : ByteArray := prog_8_method_15_code
def y_Mod_setOf : MethodName := ⟨"BaleTendersModel", "setOf", "(I)J"⟩
abbrev c_Mod_open : ByteArray := prog_8_method_17_code
def y_Mod_open : MethodName := ⟨"BaleTendersModel", "open", "(IJ)I"⟩
abbrev c_Mod_run : ByteArray := prog_8_method_24_code
def y_Mod_run : MethodName := ⟨"BaleTendersModel", "run", "(J)I"⟩
abbrev c_Mod_isInPlay : ByteArray := prog_8_method_18_code
def y_Mod_isInPlay : MethodName := ⟨"BaleTendersModel", "isInPlay", "(I)Z"⟩
abbrev c_Mod_lotsOf : ByteArray := prog_8_method_14_code
def y_Mod_lotsOf : MethodName := ⟨"BaleTendersModel", "lotsOf", "(I)I"⟩
abbrev c_Mod_take : ByteArray := prog_8_method_21_code
def y_Mod_take : MethodName := ⟨"BaleTendersModel", "take", "(I)V"⟩
abbrev c_Mod_isSale : ByteArray := prog_8_method_19_code
def y_Mod_isSale : MethodName := ⟨"BaleTendersModel", "isSale", "()Z"⟩
abbrev c_Mod_takenSum : ByteArray := prog_8_method_20_code
def y_Mod_takenSum : MethodName := ⟨"BaleTendersModel", "takenSum", "()J"⟩
abbrev c_Mod_isFirst : ByteArray := prog_8_method_23_code
def y_Mod_isFirst : MethodName := ⟨"BaleTendersModel", "isFirst", "()Z"⟩
abbrev c_Mod_isBefore : ByteArray := prog_8_method_22_code
def y_Mod_isBefore : MethodName := ⟨"BaleTendersModel", "isBefore", "(II)Z"⟩
abbrev c_Mod_wins : ByteArray := prog_8_method_25_code
def y_Mod_wins : MethodName := ⟨"BaleTendersModel", "wins", "(I)Z"⟩
abbrev c_Mod_sum : ByteArray := prog_8_method_26_code
def y_Mod_sum : MethodName := ⟨"BaleTendersModel", "sum", "()J"⟩
abbrev c_Mod_bound : ByteArray := prog_8_method_27_code
def y_Mod_bound : MethodName := ⟨"BaleTendersModel", "bound", "()J"⟩
abbrev c_Mod_proved : ByteArray := prog_8_method_28_code
def y_Mod_proved : MethodName := ⟨"BaleTendersModel", "proved", "()Z"⟩
abbrev c_Mod_second : ByteArray := prog_8_method_29_code
def y_Mod_second : MethodName := ⟨"BaleTendersModel", "second", "(I)J"⟩
abbrev c_Mod_tie : ByteArray := prog_8_method_31_code
def y_Mod_tie : MethodName := ⟨"BaleTendersModel", "tie", "(II)I"⟩
abbrev c_Mod_isTied : ByteArray := prog_8_method_30_code
def y_Mod_isTied : MethodName := ⟨"BaleTendersModel", "isTied", "(I)Z"⟩
abbrev c_Mod_step : ByteArray := prog_8_method_33_code
def y_Mod_step : MethodName := ⟨"BaleTendersModel", "step", "(IJJJ)Z"⟩
abbrev c_Mod_isShare : ByteArray := prog_8_method_32_code
def y_Mod_isShare : MethodName := ⟨"BaleTendersModel", "isShare", "(JJ)Z"⟩
abbrev c_Mod_price : ByteArray := prog_8_method_34_code
def y_Mod_price : MethodName := ⟨"BaleTendersModel", "price", "(IJJ)J"⟩
abbrev c_Mod_index : ByteArray := prog_8_method_36_code
def y_Mod_index : MethodName := ⟨"BaleTendersModel", "index", "(IJJ)Z"⟩
abbrev c_Mod_isMonth : ByteArray := prog_8_method_35_code
def y_Mod_isMonth : MethodName := ⟨"BaleTendersModel", "isMonth", "(I)Z"⟩
abbrev c_Mod_monthly : ByteArray := prog_8_method_37_code
def y_Mod_monthly : MethodName := ⟨"BaleTendersModel", "monthly", "(II)J"⟩
abbrev c_Mod_dispute : ByteArray := prog_8_method_38_code
def y_Mod_dispute : MethodName := ⟨"BaleTendersModel", "dispute", "(II)I"⟩
abbrev c_Mod_verdict : ByteArray := prog_8_method_40_code
def y_Mod_verdict : MethodName := ⟨"BaleTendersModel", "verdict", "(I)I"⟩
abbrev c_Mod_holds : ByteArray := prog_8_method_39_code
def y_Mod_holds : MethodName := ⟨"BaleTendersModel", "holds", "(II)Z"⟩
