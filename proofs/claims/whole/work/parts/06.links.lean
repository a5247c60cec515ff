theorem in_BT : ∀ j, j < 12 → u_lay "BaleTenders" T_BT j ∈ hTB := by
  intro j hj
  match j, hj with
  | 0, _ => exact hm_ 70 (by decide +kernel) (by decide +kernel)
  | 1, _ => exact hm_ 72 (by decide +kernel) (by decide +kernel)
  | 2, _ => exact hm_ 74 (by decide +kernel) (by decide +kernel)
  | 3, _ => exact hm_ 76 (by decide +kernel) (by decide +kernel)
  | 4, _ => exact hm_ 78 (by decide +kernel) (by decide +kernel)
  | 5, _ => exact hm_ 80 (by decide +kernel) (by decide +kernel)
  | 6, _ => exact hm_ 82 (by decide +kernel) (by decide +kernel)
  | 7, _ => exact hm_ 84 (by decide +kernel) (by decide +kernel)
  | 8, _ => exact hm_ 86 (by decide +kernel) (by decide +kernel)
  | 9, _ => exact hm_ 88 (by decide +kernel) (by decide +kernel)
  | 10, _ => exact hm_ 90 (by decide +kernel) (by decide +kernel)
  | 11, _ => exact hm_ 92 (by decide +kernel) (by decide +kernel)
  | k + 12, h => exact absurd h (by omega)
theorem hq_BT : hCl 0 "BaleTenders" T_BT 12 := ⟨rfl, fun w hw => by
  obtain ⟨j, hj, rfl⟩ := List.mem_map.mp hw
  exact in_BT j (List.mem_range.mp hj), ty_BT, ty_BT_ok, nm_BT⟩
theorem in_Lot : ∀ j, j < 4 → u_lay "BaleTenders$Lot" T_Lot j ∈ hTB := by
  intro j hj
  match j, hj with
  | 0, _ => exact hm_ 112 (by decide +kernel) (by decide +kernel)
  | 1, _ => exact hm_ 114 (by decide +kernel) (by decide +kernel)
  | 2, _ => exact hm_ 116 (by decide +kernel) (by decide +kernel)
  | 3, _ => exact hm_ 118 (by decide +kernel) (by decide +kernel)
  | k + 4, h => exact absurd h (by omega)
theorem hq_Lot : hCl 1 "BaleTenders$Lot" T_Lot 4 := ⟨rfl, fun w hw => by
  obtain ⟨j, hj, rfl⟩ := List.mem_map.mp hw
  exact in_Lot j (List.mem_range.mp hj), ty_Lot, ty_Lot_ok, nm_Lot⟩
theorem in_Bdr : ∀ j, j < 7 → u_lay "BaleTenders$Bidder" T_Bdr j ∈ hTB := by
  intro j hj
  match j, hj with
  | 0, _ => exact hm_ 143 (by decide +kernel) (by decide +kernel)
  | 1, _ => exact hm_ 145 (by decide +kernel) (by decide +kernel)
  | 2, _ => exact hm_ 147 (by decide +kernel) (by decide +kernel)
  | 3, _ => exact hm_ 149 (by decide +kernel) (by decide +kernel)
  | 4, _ => exact hm_ 151 (by decide +kernel) (by decide +kernel)
  | 5, _ => exact hm_ 153 (by decide +kernel) (by decide +kernel)
  | 6, _ => exact hm_ 155 (by decide +kernel) (by decide +kernel)
  | k + 7, h => exact absurd h (by omega)
theorem hq_Bdr : hCl 2 "BaleTenders$Bidder" T_Bdr 7 := ⟨rfl, fun w hw => by
  obtain ⟨j, hj, rfl⟩ := List.mem_map.mp hw
  exact in_Bdr j (List.mem_range.mp hj), ty_Bdr, ty_Bdr_ok, nm_Bdr⟩
theorem in_Bid : ∀ j, j < 4 → u_lay "BaleTenders$Bid" T_Bid j ∈ hTB := by
  intro j hj
  match j, hj with
  | 0, _ => exact hm_ 197 (by decide +kernel) (by decide +kernel)
  | 1, _ => exact hm_ 199 (by decide +kernel) (by decide +kernel)
  | 2, _ => exact hm_ 201 (by decide +kernel) (by decide +kernel)
  | 3, _ => exact hm_ 203 (by decide +kernel) (by decide +kernel)
  | k + 4, h => exact absurd h (by omega)
theorem hq_Bid : hCl 3 "BaleTenders$Bid" T_Bid 4 := ⟨rfl, fun w hw => by
  obtain ⟨j, hj, rfl⟩ := List.mem_map.mp hw
  exact in_Bid j (List.mem_range.mp hj), ty_Bid, ty_Bid_ok, nm_Bid⟩
theorem in_Dis : ∀ j, j < 2 → u_lay "BaleTenders$Dispute" T_Dis j ∈ hTB := by
  intro j hj
  match j, hj with
  | 0, _ => exact hm_ 420 (by decide +kernel) (by decide +kernel)
  | 1, _ => exact hm_ 422 (by decide +kernel) (by decide +kernel)
  | k + 2, h => exact absurd h (by omega)
theorem hq_Dis : hCl 4 "BaleTenders$Dispute" T_Dis 2 := ⟨rfl, fun w hw => by
  obtain ⟨j, hj, rfl⟩ := List.mem_map.mp hw
  exact in_Dis j (List.mem_range.mp hj), ty_Dis, ty_Dis_ok, nm_Dis⟩
theorem in_Sea : ∀ j, j < 6 → u_lay "BaleTenders$SaleSearch" T_Sea j ∈ hTB := by
  intro j hj
  match j, hj with
  | 0, _ => exact hm_ 44 (by decide +kernel) (by decide +kernel)
  | 1, _ => exact hm_ 46 (by decide +kernel) (by decide +kernel)
  | 2, _ => exact hm_ 48 (by decide +kernel) (by decide +kernel)
  | 3, _ => exact hm_ 50 (by decide +kernel) (by decide +kernel)
  | 4, _ => exact hm_ 52 (by decide +kernel) (by decide +kernel)
  | 5, _ => exact hm_ 54 (by decide +kernel) (by decide +kernel)
  | k + 6, h => exact absurd h (by omega)
theorem hq_Sea : hCl 5 "BaleTenders$SaleSearch" T_Sea 6 := ⟨rfl, fun w hw => by
  obtain ⟨j, hj, rfl⟩ := List.mem_map.mp hw
  exact in_Sea j (List.mem_range.mp hj), ty_Sea, ty_Sea_ok, nm_Sea⟩
theorem in_Mod : ∀ j, j < 28 → u_lay "BaleTendersModel" T_Mod j ∈ hTB := by
  intro j hj
  match j, hj with
  | 0, _ => exact hm_ 484 (by decide +kernel) (by decide +kernel)
  | 1, _ => exact hm_ 486 (by decide +kernel) (by decide +kernel)
  | 2, _ => exact hm_ 488 (by decide +kernel) (by decide +kernel)
  | 3, _ => exact hm_ 490 (by decide +kernel) (by decide +kernel)
  | 4, _ => exact hm_ 492 (by decide +kernel) (by decide +kernel)
  | 5, _ => exact hm_ 494 (by decide +kernel) (by decide +kernel)
  | 6, _ => exact hm_ 496 (by decide +kernel) (by decide +kernel)
  | 7, _ => exact hm_ 498 (by decide +kernel) (by decide +kernel)
  | 8, _ => exact hm_ 500 (by decide +kernel) (by decide +kernel)
  | 9, _ => exact hm_ 502 (by decide +kernel) (by decide +kernel)
  | 10, _ => exact hm_ 504 (by decide +kernel) (by decide +kernel)
  | 11, _ => exact hm_ 506 (by decide +kernel) (by decide +kernel)
  | 12, _ => exact hm_ 508 (by decide +kernel) (by decide +kernel)
  | 13, _ => exact hm_ 510 (by decide +kernel) (by decide +kernel)
  | 14, _ => exact hm_ 512 (by decide +kernel) (by decide +kernel)
  | 15, _ => exact hm_ 514 (by decide +kernel) (by decide +kernel)
  | 16, _ => exact hm_ 516 (by decide +kernel) (by decide +kernel)
  | 17, _ => exact hm_ 518 (by decide +kernel) (by decide +kernel)
  | 18, _ => exact hm_ 520 (by decide +kernel) (by decide +kernel)
  | 19, _ => exact hm_ 522 (by decide +kernel) (by decide +kernel)
  | 20, _ => exact hm_ 524 (by decide +kernel) (by decide +kernel)
  | 21, _ => exact hm_ 526 (by decide +kernel) (by decide +kernel)
  | 22, _ => exact hm_ 528 (by decide +kernel) (by decide +kernel)
  | 23, _ => exact hm_ 530 (by decide +kernel) (by decide +kernel)
  | 24, _ => exact hm_ 532 (by decide +kernel) (by decide +kernel)
  | 25, _ => exact hm_ 534 (by decide +kernel) (by decide +kernel)
  | 26, _ => exact hm_ 536 (by decide +kernel) (by decide +kernel)
  | 27, _ => exact hm_ 538 (by decide +kernel) (by decide +kernel)
  | k + 28, h => exact absurd h (by omega)
theorem hq_Mod : hCl 6 "BaleTendersModel" T_Mod 28 := ⟨rfl, fun w hw => by
  obtain ⟨j, hj, rfl⟩ := List.mem_map.mp hw
  exact in_Mod j (List.mem_range.mp hj), ty_Mod, ty_Mod_ok, nm_Mod⟩
theorem mf_BT_11 : Cond.fieldLink "BaleTenders" 11 (T_BT 0).1 (T_BT 0).2.1 (T_BT 0).2.2.1 ∈ hTB := hm_ 58 (by decide +kernel) (by decide +kernel)
theorem mf_BT_17 : Cond.fieldLink "BaleTenders" 17 (T_BT 1).1 (T_BT 1).2.1 (T_BT 1).2.2.1 ∈ hTB := hm_ 59 (by decide +kernel) (by decide +kernel)
theorem mf_BT_23 : Cond.fieldLink "BaleTenders" 23 (T_BT 2).1 (T_BT 2).2.1 (T_BT 2).2.2.1 ∈ hTB := hm_ 60 (by decide +kernel) (by decide +kernel)
theorem mf_BT_29 : Cond.fieldLink "BaleTenders" 29 (T_BT 3).1 (T_BT 3).2.1 (T_BT 3).2.2.1 ∈ hTB := hm_ 61 (by decide +kernel) (by decide +kernel)
theorem mf_BT_33 : Cond.fieldLink "BaleTenders" 33 (T_BT 4).1 (T_BT 4).2.1 (T_BT 4).2.2.1 ∈ hTB := hm_ 62 (by decide +kernel) (by decide +kernel)
theorem mf_BT_37 : Cond.fieldLink "BaleTenders" 37 (T_BT 5).1 (T_BT 5).2.1 (T_BT 5).2.2.1 ∈ hTB := hm_ 63 (by decide +kernel) (by decide +kernel)
theorem mf_BT_43 : Cond.fieldLink "BaleTenders" 43 (T_BT 6).1 (T_BT 6).2.1 (T_BT 6).2.2.1 ∈ hTB := hm_ 64 (by decide +kernel) (by decide +kernel)
theorem mf_BT_47 : Cond.fieldLink "BaleTenders" 47 (T_BT 7).1 (T_BT 7).2.1 (T_BT 7).2.2.1 ∈ hTB := hm_ 65 (by decide +kernel) (by decide +kernel)
theorem mf_BT_58 : Cond.fieldLink "BaleTenders" 58 (T_BT 11).1 (T_BT 11).2.1 (T_BT 11).2.2.1 ∈ hTB := hm_ 69 (by decide +kernel) (by decide +kernel)
theorem mf_BT_62 : Cond.fieldLink "BaleTenders" 62 (T_BT 8).1 (T_BT 8).2.1 (T_BT 8).2.2.1 ∈ hTB := hm_ 66 (by decide +kernel) (by decide +kernel)
theorem mf_BT_72 : Cond.fieldLinkNest "BaleTenders" 72 (T_Bdr 3).1 (T_Bdr 3).2.1 (T_Bdr 3).2.2.1 "BaleTenders" ∈ hNB := hn_ 135 (by decide +kernel) rfl
theorem mf_BT_78 : Cond.fieldLinkNest "BaleTenders" 78 (T_Bdr 4).1 (T_Bdr 4).2.1 (T_Bdr 4).2.2.1 "BaleTenders" ∈ hNB := hn_ 138 (by decide +kernel) rfl
theorem mf_BT_81 : Cond.fieldLink "BaleTenders" 81 (T_BT 9).1 (T_BT 9).2.1 (T_BT 9).2.2.1 ∈ hTB := hm_ 67 (by decide +kernel) (by decide +kernel)
theorem mf_BT_97 : Cond.fieldLinkNest "BaleTenders" 97 (T_Bid 1).1 (T_Bid 1).2.1 (T_Bid 1).2.2.1 "BaleTenders" ∈ hNB := hn_ 190 (by decide +kernel) rfl
theorem mf_BT_101 : Cond.fieldLinkNest "BaleTenders" 101 (T_Bdr 2).1 (T_Bdr 2).2.1 (T_Bdr 2).2.2.1 "BaleTenders" ∈ hNB := hn_ 134 (by decide +kernel) rfl
theorem mf_BT_108 : Cond.fieldLinkNest "BaleTenders" 108 (T_Bid 3).1 (T_Bid 3).2.1 (T_Bid 3).2.2.1 "BaleTenders" ∈ hNB := hn_ 196 (by decide +kernel) rfl
theorem mf_BT_138 : Cond.fieldLinkNest "BaleTenders" 138 (T_Bdr 5).1 (T_Bdr 5).2.1 (T_Bdr 5).2.2.1 "BaleTenders" ∈ hNB := hn_ 141 (by decide +kernel) rfl
theorem mf_BT_162 : Cond.fieldLinkNest "BaleTenders" 162 (T_Sea 4).1 (T_Sea 4).2.1 (T_Sea 4).2.2.1 "BaleTenders" ∈ hNB := hn_ 42 (by decide +kernel) rfl
theorem mf_BT_173 : Cond.fieldLinkNest "BaleTenders" 173 (T_Sea 3).1 (T_Sea 3).2.1 (T_Sea 3).2.2.1 "BaleTenders" ∈ hNB := hn_ 40 (by decide +kernel) rfl
theorem mf_BT_182 : Cond.fieldLinkNest "BaleTenders" 182 (T_Bid 2).1 (T_Bid 2).2.1 (T_Bid 2).2.2.1 "BaleTenders" ∈ hNB := hn_ 193 (by decide +kernel) rfl
theorem mf_BT_185 : Cond.fieldLinkNest "BaleTenders" 185 (T_Sea 1).1 (T_Sea 1).2.1 (T_Sea 1).2.2.1 "BaleTenders" ∈ hNB := hn_ 37 (by decide +kernel) rfl
theorem mf_BT_188 : Cond.fieldLinkNest "BaleTenders" 188 (T_Bid 0).1 (T_Bid 0).2.1 (T_Bid 0).2.2.1 "BaleTenders" ∈ hNB := hn_ 187 (by decide +kernel) rfl
theorem mf_BT_194 : Cond.fieldLinkNest "BaleTenders" 194 (T_Bdr 0).1 (T_Bdr 0).2.1 (T_Bdr 0).2.2.1 "BaleTenders" ∈ hNB := hn_ 131 (by decide +kernel) rfl
theorem mf_BT_228 : Cond.fieldLink "BaleTenders" 228 (T_BT 10).1 (T_BT 10).2.1 (T_BT 10).2.2.1 ∈ hTB := hm_ 68 (by decide +kernel) (by decide +kernel)
theorem mf_BT_240 : Cond.fieldLinkNest "BaleTenders" 240 (T_Dis 0).1 (T_Dis 0).2.1 (T_Dis 0).2.2.1 "BaleTenders" ∈ hNB := hn_ 417 (by decide +kernel) rfl
theorem mf_BT_247 : Cond.fieldLinkNest "BaleTenders" 247 (T_Dis 1).1 (T_Dis 1).2.1 (T_Dis 1).2.2.1 "BaleTenders" ∈ hNB := hn_ 419 (by decide +kernel) rfl
theorem mf_BT_258 : Cond.fieldLinkNest "BaleTenders" 258 (T_Bdr 1).1 (T_Bdr 1).2.1 (T_Bdr 1).2.2.1 "BaleTenders" ∈ hNB := hn_ 133 (by decide +kernel) rfl
theorem mf_Bid_7 : Cond.fieldLink "BaleTenders$Bid" 7 (T_Bid 0).1 (T_Bid 0).2.1 (T_Bid 0).2.2.1 ∈ hTB := hm_ 185 (by decide +kernel) (by decide +kernel)
theorem mf_Bid_13 : Cond.fieldLink "BaleTenders$Bid" 13 (T_Bid 1).1 (T_Bid 1).2.1 (T_Bid 1).2.2.1 ∈ hTB := hm_ 188 (by decide +kernel) (by decide +kernel)
theorem mf_Bid_17 : Cond.fieldLink "BaleTenders$Bid" 17 (T_Bid 2).1 (T_Bid 2).2.1 (T_Bid 2).2.2.1 ∈ hTB := hm_ 191 (by decide +kernel) (by decide +kernel)
theorem mf_Bid_21 : Cond.fieldLink "BaleTenders$Bid" 21 (T_Bid 3).1 (T_Bid 3).2.1 (T_Bid 3).2.2.1 ∈ hTB := hm_ 194 (by decide +kernel) (by decide +kernel)
theorem mf_Bdr_9 : Cond.fieldLink "BaleTenders$Bidder" 9 (T_Bdr 0).1 (T_Bdr 0).2.1 (T_Bdr 0).2.2.1 ∈ hTB := hm_ 130 (by decide +kernel) (by decide +kernel)
theorem mf_Bdr_15 : Cond.fieldLink "BaleTenders$Bidder" 15 (T_Bdr 1).1 (T_Bdr 1).2.1 (T_Bdr 1).2.2.1 ∈ hTB := hm_ 132 (by decide +kernel) (by decide +kernel)
theorem mf_Bdr_19 : Cond.fieldLink "BaleTenders$Bidder" 19 (T_Bdr 4).1 (T_Bdr 4).2.1 (T_Bdr 4).2.2.1 ∈ hTB := hm_ 137 (by decide +kernel) (by decide +kernel)
theorem mf_Bdr_22 : Cond.fieldLink "BaleTenders$Bidder" 22 (T_Bdr 6).1 (T_Bdr 6).2.1 (T_Bdr 6).2.2.1 ∈ hTB := hm_ 142 (by decide +kernel) (by decide +kernel)
theorem mf_Bdr_25 : Cond.fieldLink "BaleTenders$Bidder" 25 (T_Bdr 5).1 (T_Bdr 5).2.1 (T_Bdr 5).2.2.1 ∈ hTB := hm_ 140 (by decide +kernel) (by decide +kernel)
theorem mf_Dis_7 : Cond.fieldLink "BaleTenders$Dispute" 7 (T_Dis 0).1 (T_Dis 0).2.1 (T_Dis 0).2.2.1 ∈ hTB := hm_ 416 (by decide +kernel) (by decide +kernel)
theorem mf_Dis_13 : Cond.fieldLink "BaleTenders$Dispute" 13 (T_Dis 1).1 (T_Dis 1).2.1 (T_Dis 1).2.2.1 ∈ hTB := hm_ 418 (by decide +kernel) (by decide +kernel)
theorem mf_Lot_9 : Cond.fieldLink "BaleTenders$Lot" 9 (T_Lot 0).1 (T_Lot 0).2.1 (T_Lot 0).2.2.1 ∈ hTB := hm_ 108 (by decide +kernel) (by decide +kernel)
theorem mf_Lot_15 : Cond.fieldLink "BaleTenders$Lot" 15 (T_Lot 1).1 (T_Lot 1).2.1 (T_Lot 1).2.2.1 ∈ hTB := hm_ 109 (by decide +kernel) (by decide +kernel)
theorem mf_Lot_18 : Cond.fieldLink "BaleTenders$Lot" 18 (T_Lot 2).1 (T_Lot 2).2.1 (T_Lot 2).2.2.1 ∈ hTB := hm_ 110 (by decide +kernel) (by decide +kernel)
theorem mf_Lot_21 : Cond.fieldLink "BaleTenders$Lot" 21 (T_Lot 3).1 (T_Lot 3).2.1 (T_Lot 3).2.2.1 ∈ hTB := hm_ 111 (by decide +kernel) (by decide +kernel)
theorem mf_Sea_11 : Cond.fieldLink "BaleTenders$SaleSearch" 11 (T_Sea 0).1 (T_Sea 0).2.1 (T_Sea 0).2.2.1 ∈ hTB := hm_ 35 (by decide +kernel) (by decide +kernel)
theorem mf_Sea_17 : Cond.fieldLink "BaleTenders$SaleSearch" 17 (T_Sea 1).1 (T_Sea 1).2.1 (T_Sea 1).2.2.1 ∈ hTB := hm_ 36 (by decide +kernel) (by decide +kernel)
theorem mf_Sea_23 : Cond.fieldLink "BaleTenders$SaleSearch" 23 (T_Sea 3).1 (T_Sea 3).2.1 (T_Sea 3).2.2.1 ∈ hTB := hm_ 39 (by decide +kernel) (by decide +kernel)
theorem mf_Sea_27 : Cond.fieldLink "BaleTenders$SaleSearch" 27 (T_Sea 4).1 (T_Sea 4).2.1 (T_Sea 4).2.2.1 ∈ hTB := hm_ 41 (by decide +kernel) (by decide +kernel)
theorem mf_Sea_31 : Cond.fieldLinkNest "BaleTenders$SaleSearch" 31 (T_Bid 0).1 (T_Bid 0).2.1 (T_Bid 0).2.2.1 "BaleTenders" ∈ hNB := hn_ 186 (by decide +kernel) rfl
theorem mf_Sea_34 : Cond.fieldLink "BaleTenders$SaleSearch" 34 (T_Sea 5).1 (T_Sea 5).2.1 (T_Sea 5).2.2.1 ∈ hTB := hm_ 43 (by decide +kernel) (by decide +kernel)
theorem mf_Sea_41 : Cond.fieldLink "BaleTenders$SaleSearch" 41 (T_Sea 2).1 (T_Sea 2).2.1 (T_Sea 2).2.2.1 ∈ hTB := hm_ 38 (by decide +kernel) (by decide +kernel)
theorem mf_Sea_44 : Cond.fieldLinkNest "BaleTenders$SaleSearch" 44 (T_Bid 1).1 (T_Bid 1).2.1 (T_Bid 1).2.2.1 "BaleTenders" ∈ hNB := hn_ 189 (by decide +kernel) rfl
theorem mf_Sea_48 : Cond.fieldLinkNest "BaleTenders$SaleSearch" 48 (T_Bdr 3).1 (T_Bdr 3).2.1 (T_Bdr 3).2.2.1 "BaleTenders" ∈ hNB := hn_ 136 (by decide +kernel) rfl
theorem mf_Sea_61 : Cond.fieldLinkNest "BaleTenders$SaleSearch" 61 (T_Bid 3).1 (T_Bid 3).2.1 (T_Bid 3).2.2.1 "BaleTenders" ∈ hNB := hn_ 195 (by decide +kernel) rfl
theorem mf_Sea_68 : Cond.fieldLinkNest "BaleTenders$SaleSearch" 68 (T_Bid 2).1 (T_Bid 2).2.1 (T_Bid 2).2.2.1 "BaleTenders" ∈ hNB := hn_ 192 (by decide +kernel) rfl
theorem mf_Sea_75 : Cond.fieldLinkNest "BaleTenders$SaleSearch" 75 (T_Bdr 4).1 (T_Bdr 4).2.1 (T_Bdr 4).2.2.1 "BaleTenders" ∈ hNB := hn_ 139 (by decide +kernel) rfl
theorem mf_Mod_7 : Cond.fieldLink "BaleTendersModel" 7 (T_Mod 2).1 (T_Mod 2).2.1 (T_Mod 2).2.2.1 ∈ hTB := hm_ 458 (by decide +kernel) (by decide +kernel)
theorem mf_Mod_13 : Cond.fieldLink "BaleTendersModel" 13 (T_Mod 3).1 (T_Mod 3).2.1 (T_Mod 3).2.2.1 ∈ hTB := hm_ 459 (by decide +kernel) (by decide +kernel)
theorem mf_Mod_16 : Cond.fieldLink "BaleTendersModel" 16 (T_Mod 4).1 (T_Mod 4).2.1 (T_Mod 4).2.2.1 ∈ hTB := hm_ 460 (by decide +kernel) (by decide +kernel)
theorem mf_Mod_20 : Cond.fieldLink "BaleTendersModel" 20 (T_Mod 5).1 (T_Mod 5).2.1 (T_Mod 5).2.2.1 ∈ hTB := hm_ 461 (by decide +kernel) (by decide +kernel)
theorem mf_Mod_24 : Cond.fieldLink "BaleTendersModel" 24 (T_Mod 6).1 (T_Mod 6).2.1 (T_Mod 6).2.2.1 ∈ hTB := hm_ 462 (by decide +kernel) (by decide +kernel)
theorem mf_Mod_27 : Cond.fieldLink "BaleTendersModel" 27 (T_Mod 7).1 (T_Mod 7).2.1 (T_Mod 7).2.2.1 ∈ hTB := hm_ 463 (by decide +kernel) (by decide +kernel)
theorem mf_Mod_30 : Cond.fieldLink "BaleTendersModel" 30 (T_Mod 9).1 (T_Mod 9).2.1 (T_Mod 9).2.2.1 ∈ hTB := hm_ 465 (by decide +kernel) (by decide +kernel)
theorem mf_Mod_33 : Cond.fieldLink "BaleTendersModel" 33 (T_Mod 10).1 (T_Mod 10).2.1 (T_Mod 10).2.2.1 ∈ hTB := hm_ 466 (by decide +kernel) (by decide +kernel)
theorem mf_Mod_36 : Cond.fieldLink "BaleTendersModel" 36 (T_Mod 11).1 (T_Mod 11).2.1 (T_Mod 11).2.2.1 ∈ hTB := hm_ 467 (by decide +kernel) (by decide +kernel)
theorem mf_Mod_39 : Cond.fieldLink "BaleTendersModel" 39 (T_Mod 14).1 (T_Mod 14).2.1 (T_Mod 14).2.2.1 ∈ hTB := hm_ 470 (by decide +kernel) (by decide +kernel)
theorem mf_Mod_42 : Cond.fieldLink "BaleTendersModel" 42 (T_Mod 15).1 (T_Mod 15).2.1 (T_Mod 15).2.2.1 ∈ hTB := hm_ 471 (by decide +kernel) (by decide +kernel)
theorem mf_Mod_45 : Cond.fieldLink "BaleTendersModel" 45 (T_Mod 17).1 (T_Mod 17).2.1 (T_Mod 17).2.2.1 ∈ hTB := hm_ 473 (by decide +kernel) (by decide +kernel)
theorem mf_Mod_48 : Cond.fieldLink "BaleTendersModel" 48 (T_Mod 18).1 (T_Mod 18).2.1 (T_Mod 18).2.2.1 ∈ hTB := hm_ 474 (by decide +kernel) (by decide +kernel)
theorem mf_Mod_51 : Cond.fieldLink "BaleTendersModel" 51 (T_Mod 19).1 (T_Mod 19).2.1 (T_Mod 19).2.2.1 ∈ hTB := hm_ 475 (by decide +kernel) (by decide +kernel)
theorem mf_Mod_54 : Cond.fieldLink "BaleTendersModel" 54 (T_Mod 20).1 (T_Mod 20).2.1 (T_Mod 20).2.2.1 ∈ hTB := hm_ 476 (by decide +kernel) (by decide +kernel)
theorem mf_Mod_57 : Cond.fieldLink "BaleTendersModel" 57 (T_Mod 21).1 (T_Mod 21).2.1 (T_Mod 21).2.2.1 ∈ hTB := hm_ 477 (by decide +kernel) (by decide +kernel)
theorem mf_Mod_60 : Cond.fieldLink "BaleTendersModel" 60 (T_Mod 22).1 (T_Mod 22).2.1 (T_Mod 22).2.2.1 ∈ hTB := hm_ 478 (by decide +kernel) (by decide +kernel)
theorem mf_Mod_63 : Cond.fieldLink "BaleTendersModel" 63 (T_Mod 23).1 (T_Mod 23).2.1 (T_Mod 23).2.2.1 ∈ hTB := hm_ 479 (by decide +kernel) (by decide +kernel)
theorem mf_Mod_66 : Cond.fieldLink "BaleTendersModel" 66 (T_Mod 25).1 (T_Mod 25).2.1 (T_Mod 25).2.2.1 ∈ hTB := hm_ 481 (by decide +kernel) (by decide +kernel)
theorem mf_Mod_69 : Cond.fieldLink "BaleTendersModel" 69 (T_Mod 26).1 (T_Mod 26).2.1 (T_Mod 26).2.2.1 ∈ hTB := hm_ 482 (by decide +kernel) (by decide +kernel)
theorem mf_Mod_72 : Cond.fieldLink "BaleTendersModel" 72 (T_Mod 27).1 (T_Mod 27).2.1 (T_Mod 27).2.2.1 ∈ hTB := hm_ 483 (by decide +kernel) (by decide +kernel)
theorem mf_Mod_75 : Cond.fieldLink "BaleTendersModel" 75 (T_Mod 0).1 (T_Mod 0).2.1 (T_Mod 0).2.2.1 ∈ hTB := hm_ 456 (by decide +kernel) (by decide +kernel)
theorem mf_Mod_79 : Cond.fieldLink "BaleTendersModel" 79 (T_Mod 1).1 (T_Mod 1).2.1 (T_Mod 1).2.2.1 ∈ hTB := hm_ 457 (by decide +kernel) (by decide +kernel)
theorem mf_Mod_82 : Cond.fieldLink "BaleTendersModel" 82 (T_Mod 8).1 (T_Mod 8).2.1 (T_Mod 8).2.2.1 ∈ hTB := hm_ 464 (by decide +kernel) (by decide +kernel)
theorem mf_Mod_87 : Cond.fieldLink "BaleTendersModel" 87 (T_Mod 13).1 (T_Mod 13).2.1 (T_Mod 13).2.2.1 ∈ hTB := hm_ 469 (by decide +kernel) (by decide +kernel)
theorem mf_Mod_133 : Cond.fieldLink "BaleTendersModel" 133 (T_Mod 12).1 (T_Mod 12).2.1 (T_Mod 12).2.2.1 ∈ hTB := hm_ 468 (by decide +kernel) (by decide +kernel)
theorem mf_Mod_136 : Cond.fieldLink "BaleTendersModel" 136 (T_Mod 16).1 (T_Mod 16).2.1 (T_Mod 16).2.2.1 ∈ hTB := hm_ 472 (by decide +kernel) (by decide +kernel)
theorem mf_Mod_178 : Cond.fieldLink "BaleTendersModel" 178 (T_Mod 24).1 (T_Mod 24).2.1 (T_Mod 24).2.2.1 ∈ hTB := hm_ 480 (by decide +kernel) (by decide +kernel)
theorem ml_BT_1 : Cond.methodLink "BaleTenders" 1 objectInit ∈ hTB := hm_ 16 (by decide +kernel) (by decide +kernel)
theorem ml_BT_42 : Cond.methodLink "BaleTenders" 42 y_Sea_init ∈ hTB := hm_ 29 (by decide +kernel) (by decide +kernel)
theorem ml_BT_53 : Cond.methodLink "BaleTenders" 53 y_BT_within ∈ hTB := hm_ 100 (by decide +kernel) (by decide +kernel)
theorem ml_BT_57 : Cond.methodLink "BaleTenders" 57 y_Lot_init ∈ hTB := hm_ 104 (by decide +kernel) (by decide +kernel)
theorem ml_BT_65 : Cond.methodLink "BaleTenders" 65 y_Bdr_init ∈ hTB := hm_ 126 (by decide +kernel) (by decide +kernel)
theorem ml_BT_68 : Cond.methodLink "BaleTenders" 68 y_BT_unopenedAt ∈ hTB := hm_ 162 (by decide +kernel) (by decide +kernel)
theorem ml_BT_86 : Cond.methodLink "BaleTenders" 86 y_Bid_init ∈ hTB := hm_ 181 (by decide +kernel) (by decide +kernel)
theorem ml_BT_89 : Cond.methodLink "BaleTenders" 89 y_BT_bidAt ∈ hTB := hm_ 210 (by decide +kernel) (by decide +kernel)
theorem ml_BT_93 : Cond.methodLink "BaleTenders" 93 y_BT_lotAt ∈ hTB := hm_ 214 (by decide +kernel) (by decide +kernel)
theorem ml_BT_104 : Cond.methodLink "BaleTenders" 104 y_Bid_has ∈ hTB := hm_ 218 (by decide +kernel) (by decide +kernel)
theorem ml_BT_111 : Cond.methodLink "BaleTenders" 111 y_BT_isSealByte ∈ hTB := hm_ 226 (by decide +kernel) (by decide +kernel)
theorem ml_BT_116 : Cond.methodLink "BaleTenders" 116 y_Bdr_toldSealByte ∈ hTB := hm_ 231 (by decide +kernel) (by decide +kernel)
theorem ml_BT_119 : Cond.methodLink "BaleTenders" 119 y_Bdr_keepSealByte ∈ hTB := hm_ 235 (by decide +kernel) (by decide +kernel)
theorem ml_BT_123 : Cond.methodLink "BaleTenders" 123 y_Bdr_sealBytesTold ∈ hTB := hm_ 242 (by decide +kernel) (by decide +kernel)
theorem ml_BT_127 : Cond.methodLink "BaleTenders" 127 y_BT_bidderAt ∈ hTB := hm_ 166 (by decide +kernel) (by decide +kernel)
theorem ml_BT_130 : Cond.methodLink "BaleTenders" 130 y_BT_digestOf ∈ hTB := hm_ 256 (by decide +kernel) (by decide +kernel)
theorem ml_BT_134 : Cond.methodLink "BaleTenders" 134 y_BT_shiftOfByte ∈ hTB := hm_ 262 (by decide +kernel) (by decide +kernel)
theorem ml_BT_141 : Cond.methodLink "BaleTenders" 141 y_BT_bidsOf ∈ hTB := hm_ 267 (by decide +kernel) (by decide +kernel)
theorem ml_BT_145 : Cond.methodLink "BaleTenders" 145 y_BT_bidsInPlay ∈ hTB := hm_ 275 (by decide +kernel) (by decide +kernel)
theorem ml_BT_148 : Cond.methodLink "BaleTenders" 148 y_Sea_forget ∈ hTB := hm_ 282 (by decide +kernel) (by decide +kernel)
theorem ml_BT_151 : Cond.methodLink "BaleTenders" 151 y_BT_inPlay ∈ hTB := hm_ 279 (by decide +kernel) (by decide +kernel)
theorem ml_BT_155 : Cond.methodLink "BaleTenders" 155 y_Sea_addInOrder ∈ hTB := hm_ 286 (by decide +kernel) (by decide +kernel)
theorem ml_BT_159 : Cond.methodLink "BaleTenders" 159 y_Sea_find ∈ hTB := hm_ 290 (by decide +kernel) (by decide +kernel)
theorem ml_BT_165 : Cond.methodLink "BaleTenders" 165 y_Jin_bitCount ∈ hTB := hm_ 311 (by decide +kernel) (by decide +kernel)
theorem ml_BT_170 : Cond.methodLink "BaleTenders" 170 y_BT_winnerAt ∈ hTB := hm_ 316 (by decide +kernel) (by decide +kernel)
theorem ml_BT_176 : Cond.methodLink "BaleTenders" 176 y_BT_greatestCentsOn ∈ hTB := hm_ 332 (by decide +kernel) (by decide +kernel)
theorem ml_BT_191 : Cond.methodLink "BaleTenders" 191 y_Sea_ties ∈ hTB := hm_ 352 (by decide +kernel) (by decide +kernel)
theorem ml_BT_195 : Cond.methodLink "BaleTenders" 195 y_BT_isShare ∈ hTB := hm_ 361 (by decide +kernel) (by decide +kernel)
theorem ml_BT_203 : Cond.methodLink "BaleTenders" 203 y_Lot_addStep ∈ hTB := hm_ 367 (by decide +kernel) (by decide +kernel)
theorem ml_BT_206 : Cond.methodLink "BaleTenders" 206 y_Lot_centsAt ∈ hTB := hm_ 382 (by decide +kernel) (by decide +kernel)
theorem ml_BT_210 : Cond.methodLink "BaleTenders" 210 Lib.MathLoose.max_long.x ∈ hTB := hm_ 336 (by decide +kernel) (by decide +kernel)
theorem ml_BT_215 : Cond.methodLink "BaleTenders" 215 y_BT_isMonth ∈ hTB := hm_ 390 (by decide +kernel) (by decide +kernel)
theorem ml_BT_218 : Cond.methodLink "BaleTenders" 218 y_BT_hasIndex ∈ hTB := hm_ 394 (by decide +kernel) (by decide +kernel)
theorem ml_BT_225 : Cond.methodLink "BaleTenders" 225 Lib.MathLoose.min_long.x ∈ hTB := hm_ 403 (by decide +kernel) (by decide +kernel)
theorem ml_BT_233 : Cond.methodLink "BaleTenders" 233 y_Dis_init ∈ hTB := hm_ 412 (by decide +kernel) (by decide +kernel)
theorem ml_BT_236 : Cond.methodLink "BaleTenders" 236 y_BT_disputeAt ∈ hTB := hm_ 429 (by decide +kernel) (by decide +kernel)
theorem ml_BT_244 : Cond.methodLink "BaleTenders" 244 y_Sea_hasWinner ∈ hTB := hm_ 320 (by decide +kernel) (by decide +kernel)
theorem ml_BT_250 : Cond.methodLink "BaleTenders" 250 y_BT_reasonHolds ∈ hTB := hm_ 433 (by decide +kernel) (by decide +kernel)
theorem ml_BT_265 : Cond.methodLink "BaleTenders" 265 y_BT_ownReasonHolds ∈ hTB := hm_ 437 (by decide +kernel) (by decide +kernel)
theorem ml_BT_268 : Cond.methodLink "BaleTenders" 268 y_BT_lotsWon ∈ hTB := hm_ 441 (by decide +kernel) (by decide +kernel)
theorem ml_BT_271 : Cond.methodLink "BaleTenders" 271 y_Bid_lotTally ∈ hTB := hm_ 445 (by decide +kernel) (by decide +kernel)
theorem ml_BT_274 : Cond.methodLink "BaleTenders" 274 y_BT_lotTallyWonBy ∈ hTB := hm_ 446 (by decide +kernel) (by decide +kernel)
theorem ml_Bid_1 : Cond.methodLink "BaleTenders$Bid" 1 objectInit ∈ hTB := hm_ 184 (by decide +kernel) (by decide +kernel)
theorem ml_Bid_24 : Cond.methodLink "BaleTenders$Bid" 24 y_Jin_bitCount ∈ hTB := hm_ 310 (by decide +kernel) (by decide +kernel)
theorem ml_Bdr_3 : Cond.methodLink "BaleTenders$Bidder" 3 objectInit ∈ hTB := hm_ 129 (by decide +kernel) (by decide +kernel)
theorem ml_Bdr_29 : Cond.methodLinkNest "BaleTenders$Bidder" 29 y_BT_shiftOfByte "BaleTenders" ∈ hNB := hn_ 239 (by decide +kernel) rfl
theorem ml_Bdr_33 : Cond.methodLink "BaleTenders$Bidder" 33 y_Jin_bitCount ∈ hTB := hm_ 246 (by decide +kernel) (by decide +kernel)
theorem ml_Dis_1 : Cond.methodLink "BaleTenders$Dispute" 1 objectInit ∈ hTB := hm_ 415 (by decide +kernel) (by decide +kernel)
theorem ml_Lot_3 : Cond.methodLink "BaleTenders$Lot" 3 objectInit ∈ hTB := hm_ 107 (by decide +kernel) (by decide +kernel)
theorem ml_Lot_25 : Cond.methodLink "BaleTenders$Lot" 25 y_Lot_comparedTo ∈ hTB := hm_ 371 (by decide +kernel) (by decide +kernel)
theorem ml_Lot_29 : Cond.methodLink "BaleTenders$Lot" 29 y_Jlo_compare ∈ hTB := hm_ 375 (by decide +kernel) (by decide +kernel)
theorem ml_Sea_3 : Cond.methodLink "BaleTenders$SaleSearch" 3 objectInit ∈ hTB := hm_ 32 (by decide +kernel) (by decide +kernel)
theorem ml_Sea_37 : Cond.methodLink "BaleTenders$SaleSearch" 37 y_Sea_hasWinner ∈ hTB := hm_ 356 (by decide +kernel) (by decide +kernel)
theorem ml_Sea_53 : Cond.methodLink "BaleTenders$SaleSearch" 53 y_Sea_tryFrom ∈ hTB := hm_ 294 (by decide +kernel) (by decide +kernel)
theorem ml_Sea_57 : Cond.methodLink "BaleTenders$SaleSearch" 57 y_Sea_keepSale ∈ hTB := hm_ 298 (by decide +kernel) (by decide +kernel)
theorem ml_Sea_64 : Cond.methodLink "BaleTenders$SaleSearch" 64 y_Sea_staysWithinLimit ∈ hTB := hm_ 302 (by decide +kernel) (by decide +kernel)
theorem ml_Sea_71 : Cond.methodLink "BaleTenders$SaleSearch" 71 y_Bid_lotTally ∈ hTB := hm_ 306 (by decide +kernel) (by decide +kernel)
theorem ml_Law_9 : Cond.methodLink "BaleTendersLaw" 9 y_BT_init ∈ hTB := hm_ 13 (by decide +kernel) (by decide +kernel)
theorem ml_Law_12 : Cond.methodLink "BaleTendersLaw" 12 y_Mod_init ∈ hTB := hm_ 452 (by decide +kernel) (by decide +kernel)
theorem ml_Law_15 : Cond.methodLink "BaleTendersLaw" 15 y_BT_lot ∈ hTB := hm_ 95 (by decide +kernel) (by decide +kernel)
theorem ml_Law_19 : Cond.methodLink "BaleTendersLaw" 19 y_Mod_lot ∈ hTB := hm_ 543 (by decide +kernel) (by decide +kernel)
theorem ml_Law_20 : Cond.methodLink "BaleTendersLaw" 20 y_BT_bidder ∈ hTB := hm_ 121 (by decide +kernel) (by decide +kernel)
theorem ml_Law_24 : Cond.methodLink "BaleTendersLaw" 24 y_Mod_bidder ∈ hTB := hm_ 548 (by decide +kernel) (by decide +kernel)
theorem ml_Law_25 : Cond.methodLink "BaleTendersLaw" 25 y_BT_time ∈ hTB := hm_ 158 (by decide +kernel) (by decide +kernel)
theorem ml_Law_29 : Cond.methodLink "BaleTendersLaw" 29 y_Mod_time ∈ hTB := hm_ 552 (by decide +kernel) (by decide +kernel)
theorem ml_Law_30 : Cond.methodLink "BaleTendersLaw" 30 y_BT_most ∈ hTB := hm_ 170 (by decide +kernel) (by decide +kernel)
theorem ml_Law_34 : Cond.methodLink "BaleTendersLaw" 34 y_Mod_most ∈ hTB := hm_ 560 (by decide +kernel) (by decide +kernel)
theorem ml_Law_35 : Cond.methodLink "BaleTendersLaw" 35 y_BT_bid ∈ hTB := hm_ 175 (by decide +kernel) (by decide +kernel)
theorem ml_Law_39 : Cond.methodLink "BaleTendersLaw" 39 y_Mod_bid ∈ hTB := hm_ 564 (by decide +kernel) (by decide +kernel)
theorem ml_Law_40 : Cond.methodLink "BaleTendersLaw" 40 y_BT_on ∈ hTB := hm_ 206 (by decide +kernel) (by decide +kernel)
theorem ml_Law_43 : Cond.methodLink "BaleTendersLaw" 43 y_Mod_on ∈ hTB := hm_ 569 (by decide +kernel) (by decide +kernel)
theorem ml_Law_44 : Cond.methodLink "BaleTendersLaw" 44 y_BT_seal ∈ hTB := hm_ 222 (by decide +kernel) (by decide +kernel)
theorem ml_Law_48 : Cond.methodLink "BaleTendersLaw" 48 y_Mod_seal ∈ hTB := hm_ 581 (by decide +kernel) (by decide +kernel)
theorem ml_Law_49 : Cond.methodLink "BaleTendersLaw" 49 y_BT_digest ∈ hTB := hm_ 252 (by decide +kernel) (by decide +kernel)
theorem ml_Law_53 : Cond.methodLink "BaleTendersLaw" 53 y_Mod_digest ∈ hTB := hm_ 589 (by decide +kernel) (by decide +kernel)
theorem ml_Law_54 : Cond.methodLink "BaleTendersLaw" 54 y_BT_open ∈ hTB := hm_ 263 (by decide +kernel) (by decide +kernel)
theorem ml_Law_57 : Cond.methodLink "BaleTendersLaw" 57 y_Mod_open ∈ hTB := hm_ 601 (by decide +kernel) (by decide +kernel)
theorem ml_Law_58 : Cond.methodLink "BaleTendersLaw" 58 y_BT_run ∈ hTB := hm_ 271 (by decide +kernel) (by decide +kernel)
theorem ml_Law_61 : Cond.methodLink "BaleTendersLaw" 61 y_Mod_run ∈ hTB := hm_ 606 (by decide +kernel) (by decide +kernel)
theorem ml_Law_62 : Cond.methodLink "BaleTendersLaw" 62 y_BT_wins ∈ hTB := hm_ 312 (by decide +kernel) (by decide +kernel)
theorem ml_Law_66 : Cond.methodLink "BaleTendersLaw" 66 y_Mod_wins ∈ hTB := hm_ 638 (by decide +kernel) (by decide +kernel)
theorem ml_Law_67 : Cond.methodLink "BaleTendersLaw" 67 y_BT_sum ∈ hTB := hm_ 324 (by decide +kernel) (by decide +kernel)
theorem ml_Law_71 : Cond.methodLink "BaleTendersLaw" 71 y_Mod_sum ∈ hTB := hm_ 642 (by decide +kernel) (by decide +kernel)
theorem ml_Law_72 : Cond.methodLink "BaleTendersLaw" 72 y_BT_bound ∈ hTB := hm_ 328 (by decide +kernel) (by decide +kernel)
theorem ml_Law_75 : Cond.methodLink "BaleTendersLaw" 75 y_Mod_bound ∈ hTB := hm_ 647 (by decide +kernel) (by decide +kernel)
theorem ml_Law_76 : Cond.methodLink "BaleTendersLaw" 76 y_BT_proved ∈ hTB := hm_ 339 (by decide +kernel) (by decide +kernel)
theorem ml_Law_80 : Cond.methodLink "BaleTendersLaw" 80 y_Mod_proved ∈ hTB := hm_ 651 (by decide +kernel) (by decide +kernel)
theorem ml_Law_81 : Cond.methodLink "BaleTendersLaw" 81 y_BT_second ∈ hTB := hm_ 344 (by decide +kernel) (by decide +kernel)
theorem ml_Law_85 : Cond.methodLink "BaleTendersLaw" 85 y_Mod_second ∈ hTB := hm_ 655 (by decide +kernel) (by decide +kernel)
theorem ml_Law_86 : Cond.methodLink "BaleTendersLaw" 86 y_BT_tie ∈ hTB := hm_ 348 (by decide +kernel) (by decide +kernel)
theorem ml_Law_90 : Cond.methodLink "BaleTendersLaw" 90 y_Mod_tie ∈ hTB := hm_ 660 (by decide +kernel) (by decide +kernel)
theorem ml_Law_91 : Cond.methodLink "BaleTendersLaw" 91 y_BT_step ∈ hTB := hm_ 357 (by decide +kernel) (by decide +kernel)
theorem ml_Law_95 : Cond.methodLink "BaleTendersLaw" 95 y_Mod_step ∈ hTB := hm_ 668 (by decide +kernel) (by decide +kernel)
theorem ml_Law_96 : Cond.methodLink "BaleTendersLaw" 96 y_BT_price ∈ hTB := hm_ 378 (by decide +kernel) (by decide +kernel)
theorem ml_Law_100 : Cond.methodLink "BaleTendersLaw" 100 y_Mod_price ∈ hTB := hm_ 678 (by decide +kernel) (by decide +kernel)
theorem ml_Law_101 : Cond.methodLink "BaleTendersLaw" 101 y_BT_index ∈ hTB := hm_ 386 (by decide +kernel) (by decide +kernel)
theorem ml_Law_105 : Cond.methodLink "BaleTendersLaw" 105 y_Mod_index ∈ hTB := hm_ 682 (by decide +kernel) (by decide +kernel)
theorem ml_Law_106 : Cond.methodLink "BaleTendersLaw" 106 y_BT_monthly ∈ hTB := hm_ 398 (by decide +kernel) (by decide +kernel)
theorem ml_Law_110 : Cond.methodLink "BaleTendersLaw" 110 y_Mod_monthly ∈ hTB := hm_ 689 (by decide +kernel) (by decide +kernel)
theorem ml_Law_111 : Cond.methodLink "BaleTendersLaw" 111 y_BT_dispute ∈ hTB := hm_ 406 (by decide +kernel) (by decide +kernel)
theorem ml_Law_114 : Cond.methodLink "BaleTendersLaw" 114 y_Mod_dispute ∈ hTB := hm_ 694 (by decide +kernel) (by decide +kernel)
theorem ml_Law_115 : Cond.methodLink "BaleTendersLaw" 115 y_BT_verdict ∈ hTB := hm_ 425 (by decide +kernel) (by decide +kernel)
theorem ml_Law_119 : Cond.methodLink "BaleTendersLaw" 119 y_Mod_verdict ∈ hTB := hm_ 698 (by decide +kernel) (by decide +kernel)
theorem ml_Mod_1 : Cond.methodLink "BaleTendersModel" 1 objectInit ∈ hTB := hm_ 455 (by decide +kernel) (by decide +kernel)
theorem ml_Mod_91 : Cond.methodLink "BaleTendersModel" 91 y_Mod_isBidder ∈ hTB := hm_ 556 (by decide +kernel) (by decide +kernel)
theorem ml_Mod_97 : Cond.methodLink "BaleTendersModel" 97 y_Mod_isBid ∈ hTB := hm_ 573 (by decide +kernel) (by decide +kernel)
theorem ml_Mod_100 : Cond.methodLink "BaleTendersModel" 100 y_Mod_isLot ∈ hTB := hm_ 577 (by decide +kernel) (by decide +kernel)
theorem ml_Mod_103 : Cond.methodLink "BaleTendersModel" 103 y_Mod_told ∈ hTB := hm_ 585 (by decide +kernel) (by decide +kernel)
theorem ml_Mod_111 : Cond.methodLink "BaleTendersModel" 111 y_Mod_setOf ∈ hTB := hm_ 594 (by decide +kernel) (by decide +kernel)
theorem ml_Mod_119 : Cond.methodLink "BaleTendersModel" 119 y_Mod_digest ∈ hTB := hm_ 605 (by decide +kernel) (by decide +kernel)
theorem ml_Mod_123 : Cond.methodLink "BaleTendersModel" 123 y_Mod_lotsOf ∈ hTB := hm_ 614 (by decide +kernel) (by decide +kernel)
theorem ml_Mod_126 : Cond.methodLink "BaleTendersModel" 126 y_Mod_isBefore ∈ hTB := hm_ 634 (by decide +kernel) (by decide +kernel)
theorem ml_Mod_130 : Cond.methodLink "BaleTendersModel" 130 y_Mod_isInPlay ∈ hTB := hm_ 610 (by decide +kernel) (by decide +kernel)
theorem ml_Mod_140 : Cond.methodLink "BaleTendersModel" 140 y_Mod_take ∈ hTB := hm_ 618 (by decide +kernel) (by decide +kernel)
theorem ml_Mod_144 : Cond.methodLink "BaleTendersModel" 144 y_Mod_isSale ∈ hTB := hm_ 622 (by decide +kernel) (by decide +kernel)
theorem ml_Mod_148 : Cond.methodLink "BaleTendersModel" 148 y_Mod_takenSum ∈ hTB := hm_ 626 (by decide +kernel) (by decide +kernel)
theorem ml_Mod_152 : Cond.methodLink "BaleTendersModel" 152 y_Mod_isFirst ∈ hTB := hm_ 630 (by decide +kernel) (by decide +kernel)
theorem ml_Mod_157 : Cond.methodLink "BaleTendersModel" 157 y_Mod_wins ∈ hTB := hm_ 659 (by decide +kernel) (by decide +kernel)
theorem ml_Mod_160 : Cond.methodLink "BaleTendersModel" 160 y_Mod_isTied ∈ hTB := hm_ 664 (by decide +kernel) (by decide +kernel)
theorem ml_Mod_165 : Cond.methodLink "BaleTendersModel" 165 y_Mod_isShare ∈ hTB := hm_ 672 (by decide +kernel) (by decide +kernel)
theorem ml_Mod_173 : Cond.methodLink "BaleTendersModel" 173 y_Mod_isMonth ∈ hTB := hm_ 686 (by decide +kernel) (by decide +kernel)
theorem ml_Mod_181 : Cond.methodLink "BaleTendersModel" 181 y_Mod_holds ∈ hTB := hm_ 702 (by decide +kernel) (by decide +kernel)
theorem mk_BT_9 : Cond.classLink "BaleTenders" 9 "BaleTenders$Lot" ∈ hTB := hm_ 19 (by decide +kernel) (by decide +kernel)
theorem mk_BT_15 : Cond.classLink "BaleTenders" 15 "BaleTenders$Bidder" ∈ hTB := hm_ 21 (by decide +kernel) (by decide +kernel)
theorem mk_BT_21 : Cond.classLink "BaleTenders" 21 "BaleTenders$Bid" ∈ hTB := hm_ 23 (by decide +kernel) (by decide +kernel)
theorem mk_BT_27 : Cond.classLink "BaleTenders" 27 "BaleTenders$Dispute" ∈ hTB := hm_ 25 (by decide +kernel) (by decide +kernel)
theorem mk_BT_40 : Cond.classLink "BaleTenders" 40 "BaleTenders$SaleSearch" ∈ hTB := hm_ 27 (by decide +kernel) (by decide +kernel)
theorem mk_Sea_9 : Cond.classLink "BaleTenders$SaleSearch" 9 "BaleTenders$Bid" ∈ hTB := hm_ 33 (by decide +kernel) (by decide +kernel)
theorem mk_Law_7 : Cond.classLink "BaleTendersLaw" 7 "BaleTenders" ∈ hTB := hm_ 11 (by decide +kernel) (by decide +kernel)
theorem mk_Law_10 : Cond.classLink "BaleTendersLaw" 10 "BaleTendersModel" ∈ hTB := hm_ 450 (by decide +kernel) (by decide +kernel)
theorem mn_BT_51 : Cond.constantLong "BaleTenders" 51 (1000000000) ∈ hTB := hm_ 99 (by decide +kernel) (by decide +kernel)
theorem mn_BT_76 : Cond.constantLong "BaleTenders" 76 (8) ∈ hTB := hm_ 174 (by decide +kernel) (by decide +kernel)
theorem mn_BT_84 : Cond.constantLong "BaleTenders" 84 (100000000) ∈ hTB := hm_ 179 (by decide +kernel) (by decide +kernel)
theorem mn_BT_114 : Cond.constantLong "BaleTenders" 114 (255) ∈ hTB := hm_ 230 (by decide +kernel) (by decide +kernel)
theorem mn_BT_180 : Cond.constantLong "BaleTenders" 180 (-1) ∈ hTB := hm_ 343 (by decide +kernel) (by decide +kernel)
theorem mn_BT_199 : Cond.constantLong "BaleTenders" 199 (-1000000) ∈ hTB := hm_ 365 (by decide +kernel) (by decide +kernel)
theorem mn_BT_201 : Cond.constantLong "BaleTenders" 201 (1000000) ∈ hTB := hm_ 366 (by decide +kernel) (by decide +kernel)
theorem mn_BT_221 : Cond.constantLong "BaleTenders" 221 (1000) ∈ hTB := hm_ 364 (by decide +kernel) (by decide +kernel)
theorem mn_BT_223 : Cond.constantLong "BaleTenders" 223 (1000000000000) ∈ hTB := hm_ 402 (by decide +kernel) (by decide +kernel)
theorem mn_BT_231 : Cond.constantLong "BaleTenders" 231 (6) ∈ hTB := hm_ 410 (by decide +kernel) (by decide +kernel)
theorem mn_BT_254 : Cond.constantLong "BaleTenders" 254 (7) ∈ hTB := hm_ 229 (by decide +kernel) (by decide +kernel)
theorem mn_BT_256 : Cond.constantLong "BaleTenders" 256 (59) ∈ hTB := hm_ 393 (by decide +kernel) (by decide +kernel)
theorem mn_BT_261 : Cond.constantLong "BaleTenders" 261 (6364136223846793005) ∈ hTB := hm_ 260 (by decide +kernel) (by decide +kernel)
theorem mn_BT_263 : Cond.constantLong "BaleTenders" 263 (1442695040888963407) ∈ hTB := hm_ 261 (by decide +kernel) (by decide +kernel)
theorem mn_Sea_21 : Cond.constantLong "BaleTenders$SaleSearch" 21 (-1) ∈ hTB := hm_ 34 (by decide +kernel) (by decide +kernel)
theorem mn_Law_13 : Cond.constantLong "BaleTendersLaw" 13 (4294967295) ∈ hTB := hm_ 706 (by decide +kernel) (by decide +kernel)
theorem mn_Mod_85 : Cond.constantLong "BaleTendersModel" 85 (1000000000) ∈ hTB := hm_ 547 (by decide +kernel) (by decide +kernel)
theorem mn_Mod_95 : Cond.constantLong "BaleTendersModel" 95 (100000000) ∈ hTB := hm_ 568 (by decide +kernel) (by decide +kernel)
theorem mn_Mod_107 : Cond.constantLong "BaleTendersModel" 107 (2) ∈ hTB := hm_ 598 (by decide +kernel) (by decide +kernel)
theorem mn_Mod_109 : Cond.constantLong "BaleTendersModel" 109 (6364136223846793005) ∈ hTB := hm_ 593 (by decide +kernel) (by decide +kernel)
theorem mn_Mod_115 : Cond.constantLong "BaleTendersModel" 115 (1442695040888963407) ∈ hTB := hm_ 599 (by decide +kernel) (by decide +kernel)
theorem mn_Mod_117 : Cond.constantLong "BaleTendersModel" 117 (255) ∈ hTB := hm_ 600 (by decide +kernel) (by decide +kernel)
theorem mn_Mod_155 : Cond.constantLong "BaleTendersModel" 155 (-1) ∈ hTB := hm_ 646 (by decide +kernel) (by decide +kernel)
theorem mn_Mod_163 : Cond.constantLong "BaleTendersModel" 163 (1000) ∈ hTB := hm_ 675 (by decide +kernel) (by decide +kernel)
theorem mn_Mod_169 : Cond.constantLong "BaleTendersModel" 169 (-1000000) ∈ hTB := hm_ 676 (by decide +kernel) (by decide +kernel)
theorem mn_Mod_171 : Cond.constantLong "BaleTendersModel" 171 (1000000) ∈ hTB := hm_ 677 (by decide +kernel) (by decide +kernel)
theorem mn_Mod_176 : Cond.constantLong "BaleTendersModel" 176 (1000000000000) ∈ hTB := hm_ 693 (by decide +kernel) (by decide +kernel)
theorem mn_Jin_265 : Cond.constant "java/lang/Integer" 265 (1431655765) ∈ hTB := hm_ 249 (by decide +kernel) (by decide +kernel)
theorem mn_Jin_266 : Cond.constant "java/lang/Integer" 266 (858993459) ∈ hTB := hm_ 250 (by decide +kernel) (by decide +kernel)
theorem mn_Jin_267 : Cond.constant "java/lang/Integer" 267 (252645135) ∈ hTB := hm_ 251 (by decide +kernel) (by decide +kernel)
theorem mb_BT : Cond.instantiable "BaleTenders" 12 ∈ hTB := hm_ 12 (by decide +kernel) (by decide +kernel)
theorem mb_Sea : Cond.instantiable "BaleTenders$SaleSearch" 6 ∈ hTB := hm_ 28 (by decide +kernel) (by decide +kernel)
theorem mb_Lot : Cond.instantiable "BaleTenders$Lot" 4 ∈ hTB := hm_ 103 (by decide +kernel) (by decide +kernel)
theorem mb_Bdr : Cond.instantiable "BaleTenders$Bidder" 7 ∈ hTB := hm_ 125 (by decide +kernel) (by decide +kernel)
theorem mb_Bid : Cond.instantiable "BaleTenders$Bid" 4 ∈ hTB := hm_ 180 (by decide +kernel) (by decide +kernel)
theorem mb_Dis : Cond.instantiable "BaleTenders$Dispute" 2 ∈ hTB := hm_ 411 (by decide +kernel) (by decide +kernel)
theorem mb_Mod : Cond.instantiable "BaleTendersModel" 28 ∈ hTB := hm_ 451 (by decide +kernel) (by decide +kernel)
theorem mz_Law : Cond.initialized "BaleTendersLaw" ∈ hTB := hm_ 0 (by decide +kernel) (by decide +kernel)
theorem mz_BT : Cond.initialized "BaleTenders" ∈ hTB := hm_ 1 (by decide +kernel) (by decide +kernel)
theorem mz_Sea : Cond.initialized "BaleTenders$SaleSearch" ∈ hTB := hm_ 2 (by decide +kernel) (by decide +kernel)
theorem mz_Mod : Cond.initialized "BaleTendersModel" ∈ hTB := hm_ 3 (by decide +kernel) (by decide +kernel)
theorem mz_Lot : Cond.initialized "BaleTenders$Lot" ∈ hTB := hm_ 4 (by decide +kernel) (by decide +kernel)
theorem mz_Bdr : Cond.initialized "BaleTenders$Bidder" ∈ hTB := hm_ 5 (by decide +kernel) (by decide +kernel)
theorem mz_Bid : Cond.initialized "BaleTenders$Bid" ∈ hTB := hm_ 6 (by decide +kernel) (by decide +kernel)
theorem mz_Jin : Cond.initialized "java/lang/Integer" ∈ hTB := hm_ 7 (by decide +kernel) (by decide +kernel)
theorem mz_Jma : Cond.initialized "java/lang/Math" ∈ hTB := hm_ 8 (by decide +kernel) (by decide +kernel)
theorem mz_Jlo : Cond.initialized "java/lang/Long" ∈ hTB := hm_ 9 (by decide +kernel) (by decide +kernel)
theorem mz_Dis : Cond.initialized "BaleTenders$Dispute" ∈ hTB := hm_ 10 (by decide +kernel) (by decide +kernel)
theorem ma_arrayClass_long : Cond.arrayClass .long ∈ hTB := hm_ 57 (by decide +kernel) (by decide +kernel)
theorem ma_arrayClass_boolean : Cond.arrayClass .boolean ∈ hTB := hm_ 541 (by decide +kernel) (by decide +kernel)
theorem ma_arrayClass_int : Cond.arrayClass .int ∈ hTB := hm_ 542 (by decide +kernel) (by decide +kernel)
theorem mi_BT_init : Cond.instanceMethod y_BT_init ∈ hTB := hm_ 14 (by decide +kernel) (by decide +kernel)
theorem mi_Sea_init : Cond.instanceMethod y_Sea_init ∈ hTB := hm_ 30 (by decide +kernel) (by decide +kernel)
theorem mi_BT_lot : Cond.instanceMethod y_BT_lot ∈ hTB := hm_ 96 (by decide +kernel) (by decide +kernel)
theorem mv_BT_lot : Cond.selects y_BT_lot.cls y_BT_lot y_BT_lot ∈ hTB := hm_ 97 (by decide +kernel) (by decide +kernel)
theorem mt_BT_within : Cond.static y_BT_within ∈ hTB := hm_ 101 (by decide +kernel) (by decide +kernel)
theorem mi_Lot_init : Cond.instanceMethod y_Lot_init ∈ hTB := hm_ 105 (by decide +kernel) (by decide +kernel)
theorem mi_BT_bidder : Cond.instanceMethod y_BT_bidder ∈ hTB := hm_ 122 (by decide +kernel) (by decide +kernel)
theorem mv_BT_bidder : Cond.selects y_BT_bidder.cls y_BT_bidder y_BT_bidder ∈ hTB := hm_ 123 (by decide +kernel) (by decide +kernel)
theorem mi_Bdr_init : Cond.instanceMethod y_Bdr_init ∈ hTB := hm_ 127 (by decide +kernel) (by decide +kernel)
theorem mi_BT_time : Cond.instanceMethod y_BT_time ∈ hTB := hm_ 159 (by decide +kernel) (by decide +kernel)
theorem mv_BT_time : Cond.selects y_BT_time.cls y_BT_time y_BT_time ∈ hTB := hm_ 160 (by decide +kernel) (by decide +kernel)
theorem mi_BT_unopenedAt : Cond.instanceMethod y_BT_unopenedAt ∈ hTB := hm_ 164 (by decide +kernel) (by decide +kernel)
theorem mv_BT_unopenedAt : Cond.selects y_BT_unopenedAt.cls y_BT_unopenedAt y_BT_unopenedAt ∈ hTB := hs_ 0 (by decide +kernel) (by decide +kernel)
theorem mi_BT_bidderAt : Cond.instanceMethod y_BT_bidderAt ∈ hTB := hm_ 168 (by decide +kernel) (by decide +kernel)
theorem mv_BT_bidderAt : Cond.selects y_BT_bidderAt.cls y_BT_bidderAt y_BT_bidderAt ∈ hTB := hs_ 1 (by decide +kernel) (by decide +kernel)
theorem mi_BT_most : Cond.instanceMethod y_BT_most ∈ hTB := hm_ 171 (by decide +kernel) (by decide +kernel)
theorem mv_BT_most : Cond.selects y_BT_most.cls y_BT_most y_BT_most ∈ hTB := hm_ 172 (by decide +kernel) (by decide +kernel)
theorem mi_BT_bid : Cond.instanceMethod y_BT_bid ∈ hTB := hm_ 176 (by decide +kernel) (by decide +kernel)
theorem mv_BT_bid : Cond.selects y_BT_bid.cls y_BT_bid y_BT_bid ∈ hTB := hm_ 177 (by decide +kernel) (by decide +kernel)
theorem mi_Bid_init : Cond.instanceMethod y_Bid_init ∈ hTB := hm_ 182 (by decide +kernel) (by decide +kernel)
theorem mi_BT_on : Cond.instanceMethod y_BT_on ∈ hTB := hm_ 207 (by decide +kernel) (by decide +kernel)
theorem mv_BT_on : Cond.selects y_BT_on.cls y_BT_on y_BT_on ∈ hTB := hm_ 208 (by decide +kernel) (by decide +kernel)
theorem mi_BT_bidAt : Cond.instanceMethod y_BT_bidAt ∈ hTB := hm_ 212 (by decide +kernel) (by decide +kernel)
theorem mv_BT_bidAt : Cond.selects y_BT_bidAt.cls y_BT_bidAt y_BT_bidAt ∈ hTB := hs_ 2 (by decide +kernel) (by decide +kernel)
theorem mi_BT_lotAt : Cond.instanceMethod y_BT_lotAt ∈ hTB := hm_ 216 (by decide +kernel) (by decide +kernel)
theorem mv_BT_lotAt : Cond.selects y_BT_lotAt.cls y_BT_lotAt y_BT_lotAt ∈ hTB := hs_ 3 (by decide +kernel) (by decide +kernel)
theorem mi_Bid_has : Cond.instanceMethod y_Bid_has ∈ hTB := hm_ 219 (by decide +kernel) (by decide +kernel)
theorem mv_Bid_has : Cond.selects y_Bid_has.cls y_Bid_has y_Bid_has ∈ hTB := hm_ 220 (by decide +kernel) (by decide +kernel)
theorem mi_BT_seal : Cond.instanceMethod y_BT_seal ∈ hTB := hm_ 223 (by decide +kernel) (by decide +kernel)
theorem mv_BT_seal : Cond.selects y_BT_seal.cls y_BT_seal y_BT_seal ∈ hTB := hm_ 224 (by decide +kernel) (by decide +kernel)
theorem mt_BT_isSealByte : Cond.static y_BT_isSealByte ∈ hTB := hm_ 227 (by decide +kernel) (by decide +kernel)
theorem mi_Bdr_toldSealByte : Cond.instanceMethod y_Bdr_toldSealByte ∈ hTB := hm_ 232 (by decide +kernel) (by decide +kernel)
theorem mv_Bdr_toldSealByte : Cond.selects y_Bdr_toldSealByte.cls y_Bdr_toldSealByte y_Bdr_toldSealByte ∈ hTB := hm_ 233 (by decide +kernel) (by decide +kernel)
theorem mi_Bdr_keepSealByte : Cond.instanceMethod y_Bdr_keepSealByte ∈ hTB := hm_ 236 (by decide +kernel) (by decide +kernel)
theorem mv_Bdr_keepSealByte : Cond.selects y_Bdr_keepSealByte.cls y_Bdr_keepSealByte y_Bdr_keepSealByte ∈ hTB := hm_ 237 (by decide +kernel) (by decide +kernel)
theorem mt_BT_shiftOfByte : Cond.static y_BT_shiftOfByte ∈ hTB := hm_ 240 (by decide +kernel) (by decide +kernel)
theorem mi_Bdr_sealBytesTold : Cond.instanceMethod y_Bdr_sealBytesTold ∈ hTB := hm_ 243 (by decide +kernel) (by decide +kernel)
theorem mv_Bdr_sealBytesTold : Cond.selects y_Bdr_sealBytesTold.cls y_Bdr_sealBytesTold y_Bdr_sealBytesTold ∈ hTB := hm_ 244 (by decide +kernel) (by decide +kernel)
theorem mt_Jin_bitCount : Cond.static y_Jin_bitCount ∈ hTB := hm_ 247 (by decide +kernel) (by decide +kernel)
theorem mi_BT_digest : Cond.instanceMethod y_BT_digest ∈ hTB := hm_ 253 (by decide +kernel) (by decide +kernel)
theorem mv_BT_digest : Cond.selects y_BT_digest.cls y_BT_digest y_BT_digest ∈ hTB := hm_ 254 (by decide +kernel) (by decide +kernel)
theorem mi_BT_digestOf : Cond.instanceMethod y_BT_digestOf ∈ hTB := hm_ 258 (by decide +kernel) (by decide +kernel)
theorem mv_BT_digestOf : Cond.selects y_BT_digestOf.cls y_BT_digestOf y_BT_digestOf ∈ hTB := hs_ 4 (by decide +kernel) (by decide +kernel)
theorem mi_BT_open : Cond.instanceMethod y_BT_open ∈ hTB := hm_ 264 (by decide +kernel) (by decide +kernel)
theorem mv_BT_open : Cond.selects y_BT_open.cls y_BT_open y_BT_open ∈ hTB := hm_ 265 (by decide +kernel) (by decide +kernel)
theorem mi_BT_bidsOf : Cond.instanceMethod y_BT_bidsOf ∈ hTB := hm_ 269 (by decide +kernel) (by decide +kernel)
theorem mv_BT_bidsOf : Cond.selects y_BT_bidsOf.cls y_BT_bidsOf y_BT_bidsOf ∈ hTB := hs_ 5 (by decide +kernel) (by decide +kernel)
theorem mi_BT_run : Cond.instanceMethod y_BT_run ∈ hTB := hm_ 272 (by decide +kernel) (by decide +kernel)
theorem mv_BT_run : Cond.selects y_BT_run.cls y_BT_run y_BT_run ∈ hTB := hm_ 273 (by decide +kernel) (by decide +kernel)
theorem mi_BT_bidsInPlay : Cond.instanceMethod y_BT_bidsInPlay ∈ hTB := hm_ 277 (by decide +kernel) (by decide +kernel)
theorem mv_BT_bidsInPlay : Cond.selects y_BT_bidsInPlay.cls y_BT_bidsInPlay y_BT_bidsInPlay ∈ hTB := hs_ 6 (by decide +kernel) (by decide +kernel)
theorem mt_BT_inPlay : Cond.static y_BT_inPlay ∈ hTB := hm_ 280 (by decide +kernel) (by decide +kernel)
theorem mi_Sea_forget : Cond.instanceMethod y_Sea_forget ∈ hTB := hm_ 283 (by decide +kernel) (by decide +kernel)
theorem mv_Sea_forget : Cond.selects y_Sea_forget.cls y_Sea_forget y_Sea_forget ∈ hTB := hm_ 284 (by decide +kernel) (by decide +kernel)
theorem mi_Sea_addInOrder : Cond.instanceMethod y_Sea_addInOrder ∈ hTB := hm_ 287 (by decide +kernel) (by decide +kernel)
theorem mv_Sea_addInOrder : Cond.selects y_Sea_addInOrder.cls y_Sea_addInOrder y_Sea_addInOrder ∈ hTB := hm_ 288 (by decide +kernel) (by decide +kernel)
theorem mi_Sea_find : Cond.instanceMethod y_Sea_find ∈ hTB := hm_ 291 (by decide +kernel) (by decide +kernel)
theorem mv_Sea_find : Cond.selects y_Sea_find.cls y_Sea_find y_Sea_find ∈ hTB := hm_ 292 (by decide +kernel) (by decide +kernel)
theorem mi_Sea_tryFrom : Cond.instanceMethod y_Sea_tryFrom ∈ hTB := hm_ 296 (by decide +kernel) (by decide +kernel)
theorem mv_Sea_tryFrom : Cond.selects y_Sea_tryFrom.cls y_Sea_tryFrom y_Sea_tryFrom ∈ hTB := hs_ 7 (by decide +kernel) (by decide +kernel)
theorem mi_Sea_keepSale : Cond.instanceMethod y_Sea_keepSale ∈ hTB := hm_ 300 (by decide +kernel) (by decide +kernel)
theorem mv_Sea_keepSale : Cond.selects y_Sea_keepSale.cls y_Sea_keepSale y_Sea_keepSale ∈ hTB := hs_ 8 (by decide +kernel) (by decide +kernel)
theorem mi_Sea_staysWithinLimit : Cond.instanceMethod y_Sea_staysWithinLimit ∈ hTB := hm_ 304 (by decide +kernel) (by decide +kernel)
theorem mv_Sea_staysWithinLimit : Cond.selects y_Sea_staysWithinLimit.cls y_Sea_staysWithinLimit y_Sea_staysWithinLimit ∈ hTB := hs_ 9 (by decide +kernel) (by decide +kernel)
theorem mi_Bid_lotTally : Cond.instanceMethod y_Bid_lotTally ∈ hTB := hm_ 307 (by decide +kernel) (by decide +kernel)
theorem mv_Bid_lotTally : Cond.selects y_Bid_lotTally.cls y_Bid_lotTally y_Bid_lotTally ∈ hTB := hm_ 308 (by decide +kernel) (by decide +kernel)
theorem mi_BT_wins : Cond.instanceMethod y_BT_wins ∈ hTB := hm_ 313 (by decide +kernel) (by decide +kernel)
theorem mv_BT_wins : Cond.selects y_BT_wins.cls y_BT_wins y_BT_wins ∈ hTB := hm_ 314 (by decide +kernel) (by decide +kernel)
theorem mi_BT_winnerAt : Cond.instanceMethod y_BT_winnerAt ∈ hTB := hm_ 318 (by decide +kernel) (by decide +kernel)
theorem mv_BT_winnerAt : Cond.selects y_BT_winnerAt.cls y_BT_winnerAt y_BT_winnerAt ∈ hTB := hs_ 10 (by decide +kernel) (by decide +kernel)
theorem mi_Sea_hasWinner : Cond.instanceMethod y_Sea_hasWinner ∈ hTB := hm_ 321 (by decide +kernel) (by decide +kernel)
theorem mv_Sea_hasWinner : Cond.selects y_Sea_hasWinner.cls y_Sea_hasWinner y_Sea_hasWinner ∈ hTB := hm_ 322 (by decide +kernel) (by decide +kernel)
theorem mi_BT_sum : Cond.instanceMethod y_BT_sum ∈ hTB := hm_ 325 (by decide +kernel) (by decide +kernel)
theorem mv_BT_sum : Cond.selects y_BT_sum.cls y_BT_sum y_BT_sum ∈ hTB := hm_ 326 (by decide +kernel) (by decide +kernel)
theorem mi_BT_bound : Cond.instanceMethod y_BT_bound ∈ hTB := hm_ 329 (by decide +kernel) (by decide +kernel)
theorem mv_BT_bound : Cond.selects y_BT_bound.cls y_BT_bound y_BT_bound ∈ hTB := hm_ 330 (by decide +kernel) (by decide +kernel)
theorem mi_BT_greatestCentsOn : Cond.instanceMethod y_BT_greatestCentsOn ∈ hTB := hm_ 334 (by decide +kernel) (by decide +kernel)
theorem mv_BT_greatestCentsOn : Cond.selects y_BT_greatestCentsOn.cls y_BT_greatestCentsOn y_BT_greatestCentsOn ∈ hTB := hs_ 11 (by decide +kernel) (by decide +kernel)
theorem mi_BT_proved : Cond.instanceMethod y_BT_proved ∈ hTB := hm_ 340 (by decide +kernel) (by decide +kernel)
theorem mv_BT_proved : Cond.selects y_BT_proved.cls y_BT_proved y_BT_proved ∈ hTB := hm_ 341 (by decide +kernel) (by decide +kernel)
theorem mi_BT_second : Cond.instanceMethod y_BT_second ∈ hTB := hm_ 345 (by decide +kernel) (by decide +kernel)
theorem mv_BT_second : Cond.selects y_BT_second.cls y_BT_second y_BT_second ∈ hTB := hm_ 346 (by decide +kernel) (by decide +kernel)
theorem mi_BT_tie : Cond.instanceMethod y_BT_tie ∈ hTB := hm_ 349 (by decide +kernel) (by decide +kernel)
theorem mv_BT_tie : Cond.selects y_BT_tie.cls y_BT_tie y_BT_tie ∈ hTB := hm_ 350 (by decide +kernel) (by decide +kernel)
theorem mi_Sea_ties : Cond.instanceMethod y_Sea_ties ∈ hTB := hm_ 353 (by decide +kernel) (by decide +kernel)
theorem mv_Sea_ties : Cond.selects y_Sea_ties.cls y_Sea_ties y_Sea_ties ∈ hTB := hm_ 354 (by decide +kernel) (by decide +kernel)
theorem mi_BT_step : Cond.instanceMethod y_BT_step ∈ hTB := hm_ 358 (by decide +kernel) (by decide +kernel)
theorem mv_BT_step : Cond.selects y_BT_step.cls y_BT_step y_BT_step ∈ hTB := hm_ 359 (by decide +kernel) (by decide +kernel)
theorem mt_BT_isShare : Cond.static y_BT_isShare ∈ hTB := hm_ 362 (by decide +kernel) (by decide +kernel)
theorem mi_Lot_addStep : Cond.instanceMethod y_Lot_addStep ∈ hTB := hm_ 368 (by decide +kernel) (by decide +kernel)
theorem mv_Lot_addStep : Cond.selects y_Lot_addStep.cls y_Lot_addStep y_Lot_addStep ∈ hTB := hm_ 369 (by decide +kernel) (by decide +kernel)
theorem mi_Lot_comparedTo : Cond.instanceMethod y_Lot_comparedTo ∈ hTB := hm_ 373 (by decide +kernel) (by decide +kernel)
theorem mv_Lot_comparedTo : Cond.selects y_Lot_comparedTo.cls y_Lot_comparedTo y_Lot_comparedTo ∈ hTB := hs_ 12 (by decide +kernel) (by decide +kernel)
theorem mt_Jlo_compare : Cond.static y_Jlo_compare ∈ hTB := hm_ 376 (by decide +kernel) (by decide +kernel)
theorem mi_BT_price : Cond.instanceMethod y_BT_price ∈ hTB := hm_ 379 (by decide +kernel) (by decide +kernel)
theorem mv_BT_price : Cond.selects y_BT_price.cls y_BT_price y_BT_price ∈ hTB := hm_ 380 (by decide +kernel) (by decide +kernel)
theorem mi_Lot_centsAt : Cond.instanceMethod y_Lot_centsAt ∈ hTB := hm_ 383 (by decide +kernel) (by decide +kernel)
theorem mv_Lot_centsAt : Cond.selects y_Lot_centsAt.cls y_Lot_centsAt y_Lot_centsAt ∈ hTB := hm_ 384 (by decide +kernel) (by decide +kernel)
theorem mi_BT_index : Cond.instanceMethod y_BT_index ∈ hTB := hm_ 387 (by decide +kernel) (by decide +kernel)
theorem mv_BT_index : Cond.selects y_BT_index.cls y_BT_index y_BT_index ∈ hTB := hm_ 388 (by decide +kernel) (by decide +kernel)
theorem mt_BT_isMonth : Cond.static y_BT_isMonth ∈ hTB := hm_ 391 (by decide +kernel) (by decide +kernel)
theorem mi_BT_hasIndex : Cond.instanceMethod y_BT_hasIndex ∈ hTB := hm_ 396 (by decide +kernel) (by decide +kernel)
theorem mv_BT_hasIndex : Cond.selects y_BT_hasIndex.cls y_BT_hasIndex y_BT_hasIndex ∈ hTB := hs_ 13 (by decide +kernel) (by decide +kernel)
theorem mi_BT_monthly : Cond.instanceMethod y_BT_monthly ∈ hTB := hm_ 399 (by decide +kernel) (by decide +kernel)
theorem mv_BT_monthly : Cond.selects y_BT_monthly.cls y_BT_monthly y_BT_monthly ∈ hTB := hm_ 400 (by decide +kernel) (by decide +kernel)
theorem mi_BT_dispute : Cond.instanceMethod y_BT_dispute ∈ hTB := hm_ 407 (by decide +kernel) (by decide +kernel)
theorem mv_BT_dispute : Cond.selects y_BT_dispute.cls y_BT_dispute y_BT_dispute ∈ hTB := hm_ 408 (by decide +kernel) (by decide +kernel)
theorem mi_Dis_init : Cond.instanceMethod y_Dis_init ∈ hTB := hm_ 413 (by decide +kernel) (by decide +kernel)
theorem mi_BT_verdict : Cond.instanceMethod y_BT_verdict ∈ hTB := hm_ 426 (by decide +kernel) (by decide +kernel)
theorem mv_BT_verdict : Cond.selects y_BT_verdict.cls y_BT_verdict y_BT_verdict ∈ hTB := hm_ 427 (by decide +kernel) (by decide +kernel)
theorem mi_BT_disputeAt : Cond.instanceMethod y_BT_disputeAt ∈ hTB := hm_ 431 (by decide +kernel) (by decide +kernel)
theorem mv_BT_disputeAt : Cond.selects y_BT_disputeAt.cls y_BT_disputeAt y_BT_disputeAt ∈ hTB := hs_ 14 (by decide +kernel) (by decide +kernel)
theorem mi_BT_reasonHolds : Cond.instanceMethod y_BT_reasonHolds ∈ hTB := hm_ 435 (by decide +kernel) (by decide +kernel)
theorem mv_BT_reasonHolds : Cond.selects y_BT_reasonHolds.cls y_BT_reasonHolds y_BT_reasonHolds ∈ hTB := hs_ 15 (by decide +kernel) (by decide +kernel)
theorem mi_BT_ownReasonHolds : Cond.instanceMethod y_BT_ownReasonHolds ∈ hTB := hm_ 439 (by decide +kernel) (by decide +kernel)
theorem mv_BT_ownReasonHolds : Cond.selects y_BT_ownReasonHolds.cls y_BT_ownReasonHolds y_BT_ownReasonHolds ∈ hTB := hs_ 16 (by decide +kernel) (by decide +kernel)
theorem mi_BT_lotsWon : Cond.instanceMethod y_BT_lotsWon ∈ hTB := hm_ 443 (by decide +kernel) (by decide +kernel)
theorem mv_BT_lotsWon : Cond.selects y_BT_lotsWon.cls y_BT_lotsWon y_BT_lotsWon ∈ hTB := hs_ 17 (by decide +kernel) (by decide +kernel)
theorem mi_BT_lotTallyWonBy : Cond.instanceMethod y_BT_lotTallyWonBy ∈ hTB := hm_ 448 (by decide +kernel) (by decide +kernel)
theorem mv_BT_lotTallyWonBy : Cond.selects y_BT_lotTallyWonBy.cls y_BT_lotTallyWonBy y_BT_lotTallyWonBy ∈ hTB := hs_ 18 (by decide +kernel) (by decide +kernel)
theorem mi_Mod_init : Cond.instanceMethod y_Mod_init ∈ hTB := hm_ 453 (by decide +kernel) (by decide +kernel)
theorem mi_Mod_lot : Cond.instanceMethod y_Mod_lot ∈ hTB := hm_ 544 (by decide +kernel) (by decide +kernel)
theorem mv_Mod_lot : Cond.selects y_Mod_lot.cls y_Mod_lot y_Mod_lot ∈ hTB := hm_ 545 (by decide +kernel) (by decide +kernel)
theorem mi_Mod_bidder : Cond.instanceMethod y_Mod_bidder ∈ hTB := hm_ 549 (by decide +kernel) (by decide +kernel)
theorem mv_Mod_bidder : Cond.selects y_Mod_bidder.cls y_Mod_bidder y_Mod_bidder ∈ hTB := hm_ 550 (by decide +kernel) (by decide +kernel)
theorem mi_Mod_time : Cond.instanceMethod y_Mod_time ∈ hTB := hm_ 553 (by decide +kernel) (by decide +kernel)
theorem mv_Mod_time : Cond.selects y_Mod_time.cls y_Mod_time y_Mod_time ∈ hTB := hm_ 554 (by decide +kernel) (by decide +kernel)
theorem mi_Mod_isBidder : Cond.instanceMethod y_Mod_isBidder ∈ hTB := hm_ 558 (by decide +kernel) (by decide +kernel)
theorem mv_Mod_isBidder : Cond.selects y_Mod_isBidder.cls y_Mod_isBidder y_Mod_isBidder ∈ hTB := hs_ 19 (by decide +kernel) (by decide +kernel)
theorem mi_Mod_most : Cond.instanceMethod y_Mod_most ∈ hTB := hm_ 561 (by decide +kernel) (by decide +kernel)
theorem mv_Mod_most : Cond.selects y_Mod_most.cls y_Mod_most y_Mod_most ∈ hTB := hm_ 562 (by decide +kernel) (by decide +kernel)
theorem mi_Mod_bid : Cond.instanceMethod y_Mod_bid ∈ hTB := hm_ 565 (by decide +kernel) (by decide +kernel)
theorem mv_Mod_bid : Cond.selects y_Mod_bid.cls y_Mod_bid y_Mod_bid ∈ hTB := hm_ 566 (by decide +kernel) (by decide +kernel)
theorem mi_Mod_on : Cond.instanceMethod y_Mod_on ∈ hTB := hm_ 570 (by decide +kernel) (by decide +kernel)
theorem mv_Mod_on : Cond.selects y_Mod_on.cls y_Mod_on y_Mod_on ∈ hTB := hm_ 571 (by decide +kernel) (by decide +kernel)
theorem mi_Mod_isBid : Cond.instanceMethod y_Mod_isBid ∈ hTB := hm_ 575 (by decide +kernel) (by decide +kernel)
theorem mv_Mod_isBid : Cond.selects y_Mod_isBid.cls y_Mod_isBid y_Mod_isBid ∈ hTB := hs_ 20 (by decide +kernel) (by decide +kernel)
theorem mi_Mod_isLot : Cond.instanceMethod y_Mod_isLot ∈ hTB := hm_ 579 (by decide +kernel) (by decide +kernel)
theorem mv_Mod_isLot : Cond.selects y_Mod_isLot.cls y_Mod_isLot y_Mod_isLot ∈ hTB := hs_ 21 (by decide +kernel) (by decide +kernel)
theorem mi_Mod_seal : Cond.instanceMethod y_Mod_seal ∈ hTB := hm_ 582 (by decide +kernel) (by decide +kernel)
theorem mv_Mod_seal : Cond.selects y_Mod_seal.cls y_Mod_seal y_Mod_seal ∈ hTB := hm_ 583 (by decide +kernel) (by decide +kernel)
theorem mi_Mod_told : Cond.instanceMethod y_Mod_told ∈ hTB := hm_ 587 (by decide +kernel) (by decide +kernel)
theorem mv_Mod_told : Cond.selects y_Mod_told.cls y_Mod_told y_Mod_told ∈ hTB := hs_ 22 (by decide +kernel) (by decide +kernel)
theorem mi_Mod_digest : Cond.instanceMethod y_Mod_digest ∈ hTB := hm_ 590 (by decide +kernel) (by decide +kernel)
theorem mv_Mod_digest : Cond.selects y_Mod_digest.cls y_Mod_digest y_Mod_digest ∈ hTB := hm_ 591 (by decide +kernel) (by decide +kernel)
theorem mi_Mod_setOf : Cond.instanceMethod y_Mod_setOf ∈ hTB := hm_ 596 (by decide +kernel) (by decide +kernel)
theorem mv_Mod_setOf : Cond.selects y_Mod_setOf.cls y_Mod_setOf y_Mod_setOf ∈ hTB := hs_ 23 (by decide +kernel) (by decide +kernel)
theorem mi_Mod_open : Cond.instanceMethod y_Mod_open ∈ hTB := hm_ 602 (by decide +kernel) (by decide +kernel)
theorem mv_Mod_open : Cond.selects y_Mod_open.cls y_Mod_open y_Mod_open ∈ hTB := hm_ 603 (by decide +kernel) (by decide +kernel)
theorem mi_Mod_run : Cond.instanceMethod y_Mod_run ∈ hTB := hm_ 607 (by decide +kernel) (by decide +kernel)
theorem mv_Mod_run : Cond.selects y_Mod_run.cls y_Mod_run y_Mod_run ∈ hTB := hm_ 608 (by decide +kernel) (by decide +kernel)
theorem mi_Mod_isInPlay : Cond.instanceMethod y_Mod_isInPlay ∈ hTB := hm_ 612 (by decide +kernel) (by decide +kernel)
theorem mv_Mod_isInPlay : Cond.selects y_Mod_isInPlay.cls y_Mod_isInPlay y_Mod_isInPlay ∈ hTB := hs_ 24 (by decide +kernel) (by decide +kernel)
theorem mi_Mod_lotsOf : Cond.instanceMethod y_Mod_lotsOf ∈ hTB := hm_ 616 (by decide +kernel) (by decide +kernel)
theorem mv_Mod_lotsOf : Cond.selects y_Mod_lotsOf.cls y_Mod_lotsOf y_Mod_lotsOf ∈ hTB := hs_ 25 (by decide +kernel) (by decide +kernel)
theorem mi_Mod_take : Cond.instanceMethod y_Mod_take ∈ hTB := hm_ 620 (by decide +kernel) (by decide +kernel)
theorem mv_Mod_take : Cond.selects y_Mod_take.cls y_Mod_take y_Mod_take ∈ hTB := hs_ 26 (by decide +kernel) (by decide +kernel)
theorem mi_Mod_isSale : Cond.instanceMethod y_Mod_isSale ∈ hTB := hm_ 624 (by decide +kernel) (by decide +kernel)
theorem mv_Mod_isSale : Cond.selects y_Mod_isSale.cls y_Mod_isSale y_Mod_isSale ∈ hTB := hs_ 27 (by decide +kernel) (by decide +kernel)
theorem mi_Mod_takenSum : Cond.instanceMethod y_Mod_takenSum ∈ hTB := hm_ 628 (by decide +kernel) (by decide +kernel)
theorem mv_Mod_takenSum : Cond.selects y_Mod_takenSum.cls y_Mod_takenSum y_Mod_takenSum ∈ hTB := hs_ 28 (by decide +kernel) (by decide +kernel)
theorem mi_Mod_isFirst : Cond.instanceMethod y_Mod_isFirst ∈ hTB := hm_ 632 (by decide +kernel) (by decide +kernel)
theorem mv_Mod_isFirst : Cond.selects y_Mod_isFirst.cls y_Mod_isFirst y_Mod_isFirst ∈ hTB := hs_ 29 (by decide +kernel) (by decide +kernel)
theorem mi_Mod_isBefore : Cond.instanceMethod y_Mod_isBefore ∈ hTB := hm_ 636 (by decide +kernel) (by decide +kernel)
theorem mv_Mod_isBefore : Cond.selects y_Mod_isBefore.cls y_Mod_isBefore y_Mod_isBefore ∈ hTB := hs_ 30 (by decide +kernel) (by decide +kernel)
theorem mi_Mod_wins : Cond.instanceMethod y_Mod_wins ∈ hTB := hm_ 639 (by decide +kernel) (by decide +kernel)
theorem mv_Mod_wins : Cond.selects y_Mod_wins.cls y_Mod_wins y_Mod_wins ∈ hTB := hm_ 640 (by decide +kernel) (by decide +kernel)
theorem mi_Mod_sum : Cond.instanceMethod y_Mod_sum ∈ hTB := hm_ 643 (by decide +kernel) (by decide +kernel)
theorem mv_Mod_sum : Cond.selects y_Mod_sum.cls y_Mod_sum y_Mod_sum ∈ hTB := hm_ 644 (by decide +kernel) (by decide +kernel)
theorem mi_Mod_bound : Cond.instanceMethod y_Mod_bound ∈ hTB := hm_ 648 (by decide +kernel) (by decide +kernel)
theorem mv_Mod_bound : Cond.selects y_Mod_bound.cls y_Mod_bound y_Mod_bound ∈ hTB := hm_ 649 (by decide +kernel) (by decide +kernel)
theorem mi_Mod_proved : Cond.instanceMethod y_Mod_proved ∈ hTB := hm_ 652 (by decide +kernel) (by decide +kernel)
theorem mv_Mod_proved : Cond.selects y_Mod_proved.cls y_Mod_proved y_Mod_proved ∈ hTB := hm_ 653 (by decide +kernel) (by decide +kernel)
theorem mi_Mod_second : Cond.instanceMethod y_Mod_second ∈ hTB := hm_ 656 (by decide +kernel) (by decide +kernel)
theorem mv_Mod_second : Cond.selects y_Mod_second.cls y_Mod_second y_Mod_second ∈ hTB := hm_ 657 (by decide +kernel) (by decide +kernel)
theorem mi_Mod_tie : Cond.instanceMethod y_Mod_tie ∈ hTB := hm_ 661 (by decide +kernel) (by decide +kernel)
theorem mv_Mod_tie : Cond.selects y_Mod_tie.cls y_Mod_tie y_Mod_tie ∈ hTB := hm_ 662 (by decide +kernel) (by decide +kernel)
theorem mi_Mod_isTied : Cond.instanceMethod y_Mod_isTied ∈ hTB := hm_ 666 (by decide +kernel) (by decide +kernel)
theorem mv_Mod_isTied : Cond.selects y_Mod_isTied.cls y_Mod_isTied y_Mod_isTied ∈ hTB := hs_ 31 (by decide +kernel) (by decide +kernel)
theorem mi_Mod_step : Cond.instanceMethod y_Mod_step ∈ hTB := hm_ 669 (by decide +kernel) (by decide +kernel)
theorem mv_Mod_step : Cond.selects y_Mod_step.cls y_Mod_step y_Mod_step ∈ hTB := hm_ 670 (by decide +kernel) (by decide +kernel)
theorem mt_Mod_isShare : Cond.static y_Mod_isShare ∈ hTB := hm_ 673 (by decide +kernel) (by decide +kernel)
theorem mi_Mod_price : Cond.instanceMethod y_Mod_price ∈ hTB := hm_ 679 (by decide +kernel) (by decide +kernel)
theorem mv_Mod_price : Cond.selects y_Mod_price.cls y_Mod_price y_Mod_price ∈ hTB := hm_ 680 (by decide +kernel) (by decide +kernel)
theorem mi_Mod_index : Cond.instanceMethod y_Mod_index ∈ hTB := hm_ 683 (by decide +kernel) (by decide +kernel)
theorem mv_Mod_index : Cond.selects y_Mod_index.cls y_Mod_index y_Mod_index ∈ hTB := hm_ 684 (by decide +kernel) (by decide +kernel)
theorem mt_Mod_isMonth : Cond.static y_Mod_isMonth ∈ hTB := hm_ 687 (by decide +kernel) (by decide +kernel)
theorem mi_Mod_monthly : Cond.instanceMethod y_Mod_monthly ∈ hTB := hm_ 690 (by decide +kernel) (by decide +kernel)
theorem mv_Mod_monthly : Cond.selects y_Mod_monthly.cls y_Mod_monthly y_Mod_monthly ∈ hTB := hm_ 691 (by decide +kernel) (by decide +kernel)
theorem mi_Mod_dispute : Cond.instanceMethod y_Mod_dispute ∈ hTB := hm_ 695 (by decide +kernel) (by decide +kernel)
theorem mv_Mod_dispute : Cond.selects y_Mod_dispute.cls y_Mod_dispute y_Mod_dispute ∈ hTB := hm_ 696 (by decide +kernel) (by decide +kernel)
theorem mi_Mod_verdict : Cond.instanceMethod y_Mod_verdict ∈ hTB := hm_ 699 (by decide +kernel) (by decide +kernel)
theorem mv_Mod_verdict : Cond.selects y_Mod_verdict.cls y_Mod_verdict y_Mod_verdict ∈ hTB := hm_ 700 (by decide +kernel) (by decide +kernel)
theorem mi_Mod_holds : Cond.instanceMethod y_Mod_holds ∈ hTB := hm_ 704 (by decide +kernel) (by decide +kernel)
theorem mv_Mod_holds : Cond.selects y_Mod_holds.cls y_Mod_holds y_Mod_holds ∈ hTB := hs_ 32 (by decide +kernel) (by decide +kernel)
theorem mi_obj : Cond.instanceMethod objectInit ∈ hTB := hm_ 17 (by decide +kernel) (by decide +kernel)
set_option maxRecDepth 100000 in
theorem mo_obj : Cond.code objectInit ⟨#[0xb1]⟩ 1 none ∈ hTB := hm_ 18 rfl rfl
set_option maxRecDepth 100000 in
theorem mo_mmax : Cond.code Lib.MathLoose.max_long.x Lib.MathLoose.max_long.code 4 (some .long) ∈ hTB := hm_ 338 (by first | rfl | decide +kernel) rfl
theorem mt_mmax : Cond.static Lib.MathLoose.max_long.x ∈ hTB := hm_ 337 (by decide +kernel) (by decide +kernel)
set_option maxRecDepth 100000 in
theorem mo_mmin : Cond.code Lib.MathLoose.min_long.x Lib.MathLoose.min_long.code 4 (some .long) ∈ hTB := hm_ 405 (by first | rfl | decide +kernel) rfl
theorem mt_mmin : Cond.static Lib.MathLoose.min_long.x ∈ hTB := hm_ 404 (by decide +kernel) (by decide +kernel)
set_option maxRecDepth 100000 in
theorem mo_BT_init : Cond.code y_BT_init c_BT_init 1 (none) ∈ hTB := hm_ 15 rfl rfl
set_option maxRecDepth 100000 in
theorem mo_Sea_init : Cond.code y_Sea_init c_Sea_init 1 (none) ∈ hTB := hm_ 31 rfl rfl
set_option maxRecDepth 100000 in
theorem mo_BT_lot : Cond.code y_BT_lot c_BT_lot 4 (some .int) ∈ hTB := hm_ 98 rfl rfl
set_option maxRecDepth 100000 in
theorem mo_BT_within : Cond.code y_BT_within c_BT_within 6 (some .boolean) ∈ hTB := hm_ 102 rfl rfl
set_option maxRecDepth 100000 in
theorem mo_Lot_init : Cond.code y_Lot_init c_Lot_init 1 (none) ∈ hTB := hm_ 106 rfl rfl
set_option maxRecDepth 100000 in
theorem mo_BT_bidder : Cond.code y_BT_bidder c_BT_bidder 3 (some .int) ∈ hTB := hm_ 124 rfl rfl
set_option maxRecDepth 100000 in
theorem mo_Bdr_init : Cond.code y_Bdr_init c_Bdr_init 3 (none) ∈ hTB := hm_ 128 rfl rfl
set_option maxRecDepth 100000 in
theorem mo_BT_time : Cond.code y_BT_time c_BT_time 5 (some .boolean) ∈ hTB := hm_ 161 rfl rfl
set_option maxRecDepth 100000 in
theorem mo_BT_unopenedAt : Cond.code y_BT_unopenedAt c_BT_unopenedAt 3 (some (.object "BaleTenders$Bidder")) ∈ hTB := hm_ 165 rfl rfl
set_option maxRecDepth 100000 in
theorem mo_BT_bidderAt : Cond.code y_BT_bidderAt c_BT_bidderAt 2 (some (.object "BaleTenders$Bidder")) ∈ hTB := hm_ 169 rfl rfl
set_option maxRecDepth 100000 in
theorem mo_BT_most : Cond.code y_BT_most c_BT_most 4 (some .boolean) ∈ hTB := hm_ 173 rfl rfl
set_option maxRecDepth 100000 in
theorem mo_BT_bid : Cond.code y_BT_bid c_BT_bid 6 (some .int) ∈ hTB := hm_ 178 rfl rfl
set_option maxRecDepth 100000 in
theorem mo_Bid_init : Cond.code y_Bid_init c_Bid_init 5 (none) ∈ hTB := hm_ 183 rfl rfl
set_option maxRecDepth 100000 in
theorem mo_BT_on : Cond.code y_BT_on c_BT_on 4 (some .boolean) ∈ hTB := hm_ 209 rfl rfl
set_option maxRecDepth 100000 in
theorem mo_BT_bidAt : Cond.code y_BT_bidAt c_BT_bidAt 2 (some (.object "BaleTenders$Bid")) ∈ hTB := hm_ 213 rfl rfl
set_option maxRecDepth 100000 in
theorem mo_BT_lotAt : Cond.code y_BT_lotAt c_BT_lotAt 2 (some (.object "BaleTenders$Lot")) ∈ hTB := hm_ 217 rfl rfl
set_option maxRecDepth 100000 in
theorem mo_Bid_has : Cond.code y_Bid_has c_Bid_has 2 (some .boolean) ∈ hTB := hm_ 221 rfl rfl
set_option maxRecDepth 100000 in
theorem mo_BT_seal : Cond.code y_BT_seal c_BT_seal 5 (some .int) ∈ hTB := hm_ 225 rfl rfl
set_option maxRecDepth 100000 in
theorem mo_BT_isSealByte : Cond.code y_BT_isSealByte c_BT_isSealByte 1 (some .boolean) ∈ hTB := hm_ 228 rfl rfl
set_option maxRecDepth 100000 in
theorem mo_Bdr_toldSealByte : Cond.code y_Bdr_toldSealByte c_Bdr_toldSealByte 2 (some .boolean) ∈ hTB := hm_ 234 rfl rfl
set_option maxRecDepth 100000 in
theorem mo_Bdr_keepSealByte : Cond.code y_Bdr_keepSealByte c_Bdr_keepSealByte 3 (none) ∈ hTB := hm_ 238 rfl rfl
set_option maxRecDepth 100000 in
theorem mo_BT_shiftOfByte : Cond.code y_BT_shiftOfByte c_BT_shiftOfByte 1 (some .int) ∈ hTB := hm_ 241 rfl rfl
set_option maxRecDepth 100000 in
theorem mo_Bdr_sealBytesTold : Cond.code y_Bdr_sealBytesTold c_Bdr_sealBytesTold 1 (some .int) ∈ hTB := hm_ 245 rfl rfl
set_option maxRecDepth 100000 in
theorem mo_Jin_bitCount : Cond.code y_Jin_bitCount c_Jin_bitCount 1 (some .int) ∈ hTB := hm_ 248 rfl rfl
set_option maxRecDepth 100000 in
theorem mo_BT_digest : Cond.code y_BT_digest c_BT_digest 6 (some .int) ∈ hTB := hm_ 255 rfl rfl
set_option maxRecDepth 100000 in
theorem mo_BT_digestOf : Cond.code y_BT_digestOf c_BT_digestOf 10 (some .long) ∈ hTB := hm_ 259 rfl rfl
set_option maxRecDepth 100000 in
theorem mo_BT_open : Cond.code y_BT_open c_BT_open 5 (some .int) ∈ hTB := hm_ 266 rfl rfl
set_option maxRecDepth 100000 in
theorem mo_BT_bidsOf : Cond.code y_BT_bidsOf c_BT_bidsOf 7 (some .int) ∈ hTB := hm_ 270 rfl rfl
set_option maxRecDepth 100000 in
theorem mo_BT_run : Cond.code y_BT_run c_BT_run 7 (some .int) ∈ hTB := hm_ 274 rfl rfl
set_option maxRecDepth 100000 in
theorem mo_BT_bidsInPlay : Cond.code y_BT_bidsInPlay c_BT_bidsInPlay 6 (some .int) ∈ hTB := hm_ 278 rfl rfl
set_option maxRecDepth 100000 in
theorem mo_BT_inPlay : Cond.code y_BT_inPlay c_BT_inPlay 1 (some .boolean) ∈ hTB := hm_ 281 rfl rfl
set_option maxRecDepth 100000 in
theorem mo_Sea_forget : Cond.code y_Sea_forget c_Sea_forget 2 (none) ∈ hTB := hm_ 285 rfl rfl
set_option maxRecDepth 100000 in
theorem mo_Sea_addInOrder : Cond.code y_Sea_addInOrder c_Sea_addInOrder 3 (none) ∈ hTB := hm_ 289 rfl rfl
set_option maxRecDepth 100000 in
theorem mo_Sea_find : Cond.code y_Sea_find c_Sea_find 1 (none) ∈ hTB := hm_ 293 rfl rfl
set_option maxRecDepth 100000 in
theorem mo_Sea_tryFrom : Cond.code y_Sea_tryFrom c_Sea_tryFrom 7 (none) ∈ hTB := hm_ 297 rfl rfl
set_option maxRecDepth 100000 in
theorem mo_Sea_keepSale : Cond.code y_Sea_keepSale c_Sea_keepSale 5 (none) ∈ hTB := hm_ 301 rfl rfl
set_option maxRecDepth 100000 in
theorem mo_Sea_staysWithinLimit : Cond.code y_Sea_staysWithinLimit c_Sea_staysWithinLimit 6 (some .boolean) ∈ hTB := hm_ 305 rfl rfl
set_option maxRecDepth 100000 in
theorem mo_Bid_lotTally : Cond.code y_Bid_lotTally c_Bid_lotTally 1 (some .int) ∈ hTB := hm_ 309 rfl rfl
set_option maxRecDepth 100000 in
theorem mo_BT_wins : Cond.code y_BT_wins c_BT_wins 2 (some .boolean) ∈ hTB := hm_ 315 rfl rfl
set_option maxRecDepth 100000 in
theorem mo_BT_winnerAt : Cond.code y_BT_winnerAt c_BT_winnerAt 3 (some (.object "BaleTenders$Bid")) ∈ hTB := hm_ 319 rfl rfl
set_option maxRecDepth 100000 in
theorem mo_Sea_hasWinner : Cond.code y_Sea_hasWinner c_Sea_hasWinner 2 (some .boolean) ∈ hTB := hm_ 323 rfl rfl
set_option maxRecDepth 100000 in
theorem mo_BT_sum : Cond.code y_BT_sum c_BT_sum 1 (some .long) ∈ hTB := hm_ 327 rfl rfl
set_option maxRecDepth 100000 in
theorem mo_BT_bound : Cond.code y_BT_bound c_BT_bound 4 (some .long) ∈ hTB := hm_ 331 rfl rfl
set_option maxRecDepth 100000 in
theorem mo_BT_greatestCentsOn : Cond.code y_BT_greatestCentsOn c_BT_greatestCentsOn 8 (some .long) ∈ hTB := hm_ 335 rfl rfl
set_option maxRecDepth 100000 in
theorem mo_BT_proved : Cond.code y_BT_proved c_BT_proved 1 (some .boolean) ∈ hTB := hm_ 342 rfl rfl
set_option maxRecDepth 100000 in
theorem mo_BT_second : Cond.code y_BT_second c_BT_second 3 (some .long) ∈ hTB := hm_ 347 rfl rfl
set_option maxRecDepth 100000 in
theorem mo_BT_tie : Cond.code y_BT_tie c_BT_tie 8 (some .int) ∈ hTB := hm_ 351 rfl rfl
set_option maxRecDepth 100000 in
theorem mo_Sea_ties : Cond.code y_Sea_ties c_Sea_ties 2 (some .boolean) ∈ hTB := hm_ 355 rfl rfl
set_option maxRecDepth 100000 in
theorem mo_BT_step : Cond.code y_BT_step c_BT_step 9 (some .boolean) ∈ hTB := hm_ 360 rfl rfl
set_option maxRecDepth 100000 in
theorem mo_BT_isShare : Cond.code y_BT_isShare c_BT_isShare 4 (some .boolean) ∈ hTB := hm_ 363 rfl rfl
set_option maxRecDepth 100000 in
theorem mo_Lot_addStep : Cond.code y_Lot_addStep c_Lot_addStep 7 (some .boolean) ∈ hTB := hm_ 370 rfl rfl
set_option maxRecDepth 100000 in
theorem mo_Lot_comparedTo : Cond.code y_Lot_comparedTo c_Lot_comparedTo 6 (some .int) ∈ hTB := hm_ 374 rfl rfl
set_option maxRecDepth 100000 in
theorem mo_Jlo_compare : Cond.code y_Jlo_compare c_Jlo_compare 4 (some .int) ∈ hTB := hm_ 377 rfl rfl
set_option maxRecDepth 100000 in
theorem mo_BT_price : Cond.code y_BT_price c_BT_price 11 (some .long) ∈ hTB := hm_ 381 rfl rfl
set_option maxRecDepth 100000 in
theorem mo_Lot_centsAt : Cond.code y_Lot_centsAt c_Lot_centsAt 6 (some .long) ∈ hTB := hm_ 385 rfl rfl
set_option maxRecDepth 100000 in
theorem mo_BT_index : Cond.code y_BT_index c_BT_index 6 (some .boolean) ∈ hTB := hm_ 389 rfl rfl
set_option maxRecDepth 100000 in
theorem mo_BT_isMonth : Cond.code y_BT_isMonth c_BT_isMonth 1 (some .boolean) ∈ hTB := hm_ 392 rfl rfl
set_option maxRecDepth 100000 in
theorem mo_BT_hasIndex : Cond.code y_BT_hasIndex c_BT_hasIndex 2 (some .boolean) ∈ hTB := hm_ 397 rfl rfl
set_option maxRecDepth 100000 in
theorem mo_BT_monthly : Cond.code y_BT_monthly c_BT_monthly 7 (some .long) ∈ hTB := hm_ 401 rfl rfl
set_option maxRecDepth 100000 in
theorem mo_BT_dispute : Cond.code y_BT_dispute c_BT_dispute 5 (some .int) ∈ hTB := hm_ 409 rfl rfl
set_option maxRecDepth 100000 in
theorem mo_Dis_init : Cond.code y_Dis_init c_Dis_init 3 (none) ∈ hTB := hm_ 414 rfl rfl
set_option maxRecDepth 100000 in
theorem mo_BT_verdict : Cond.code y_BT_verdict c_BT_verdict 3 (some .int) ∈ hTB := hm_ 428 rfl rfl
set_option maxRecDepth 100000 in
theorem mo_BT_disputeAt : Cond.code y_BT_disputeAt c_BT_disputeAt 2 (some (.object "BaleTenders$Dispute")) ∈ hTB := hm_ 432 rfl rfl
set_option maxRecDepth 100000 in
theorem mo_BT_reasonHolds : Cond.code y_BT_reasonHolds c_BT_reasonHolds 4 (some .boolean) ∈ hTB := hm_ 436 rfl rfl
set_option maxRecDepth 100000 in
theorem mo_BT_ownReasonHolds : Cond.code y_BT_ownReasonHolds c_BT_ownReasonHolds 3 (some .boolean) ∈ hTB := hm_ 440 rfl rfl
set_option maxRecDepth 100000 in
theorem mo_BT_lotsWon : Cond.code y_BT_lotsWon c_BT_lotsWon 6 (some .int) ∈ hTB := hm_ 444 rfl rfl
set_option maxRecDepth 100000 in
theorem mo_BT_lotTallyWonBy : Cond.code y_BT_lotTallyWonBy c_BT_lotTallyWonBy 7 (some .int) ∈ hTB := hm_ 449 rfl rfl
set_option maxRecDepth 100000 in
theorem mo_Mod_init : Cond.code y_Mod_init c_Mod_init 1 (none) ∈ hTB := hm_ 454 rfl rfl
set_option maxRecDepth 100000 in
theorem mo_Mod_lot : Cond.code y_Mod_lot c_Mod_lot 3 (some .int) ∈ hTB := hm_ 546 rfl rfl
set_option maxRecDepth 100000 in
theorem mo_Mod_bidder : Cond.code y_Mod_bidder c_Mod_bidder 2 (some .int) ∈ hTB := hm_ 551 rfl rfl
set_option maxRecDepth 100000 in
theorem mo_Mod_time : Cond.code y_Mod_time c_Mod_time 4 (some .boolean) ∈ hTB := hm_ 555 rfl rfl
set_option maxRecDepth 100000 in
theorem mo_Mod_isBidder : Cond.code y_Mod_isBidder c_Mod_isBidder 2 (some .boolean) ∈ hTB := hm_ 559 rfl rfl
set_option maxRecDepth 100000 in
theorem mo_Mod_most : Cond.code y_Mod_most c_Mod_most 3 (some .boolean) ∈ hTB := hm_ 563 rfl rfl
set_option maxRecDepth 100000 in
theorem mo_Mod_bid : Cond.code y_Mod_bid c_Mod_bid 4 (some .int) ∈ hTB := hm_ 567 rfl rfl
set_option maxRecDepth 100000 in
theorem mo_Mod_on : Cond.code y_Mod_on c_Mod_on 3 (some .boolean) ∈ hTB := hm_ 572 rfl rfl
set_option maxRecDepth 100000 in
theorem mo_Mod_isBid : Cond.code y_Mod_isBid c_Mod_isBid 2 (some .boolean) ∈ hTB := hm_ 576 rfl rfl
set_option maxRecDepth 100000 in
theorem mo_Mod_isLot : Cond.code y_Mod_isLot c_Mod_isLot 2 (some .boolean) ∈ hTB := hm_ 580 rfl rfl
set_option maxRecDepth 100000 in
theorem mo_Mod_seal : Cond.code y_Mod_seal c_Mod_seal 4 (some .int) ∈ hTB := hm_ 584 rfl rfl
set_option maxRecDepth 100000 in
theorem mo_Mod_told : Cond.code y_Mod_told c_Mod_told 4 (some .int) ∈ hTB := hm_ 588 rfl rfl
set_option maxRecDepth 100000 in
theorem mo_Mod_digest : Cond.code y_Mod_digest c_Mod_digest 8 (some .int) ∈ hTB := hm_ 592 rfl rfl
set_option maxRecDepth 100000 in
theorem mo_Mod_setOf : Cond.code y_Mod_setOf c_Mod_setOf 5 (some .long) ∈ hTB := hm_ 597 rfl rfl
set_option maxRecDepth 100000 in
theorem mo_Mod_open : Cond.code y_Mod_open c_Mod_open 6 (some .int) ∈ hTB := hm_ 604 rfl rfl
set_option maxRecDepth 100000 in
theorem mo_Mod_run : Cond.code y_Mod_run c_Mod_run 6 (some .int) ∈ hTB := hm_ 609 rfl rfl
set_option maxRecDepth 100000 in
theorem mo_Mod_isInPlay : Cond.code y_Mod_isInPlay c_Mod_isInPlay 2 (some .boolean) ∈ hTB := hm_ 613 rfl rfl
set_option maxRecDepth 100000 in
theorem mo_Mod_lotsOf : Cond.code y_Mod_lotsOf c_Mod_lotsOf 4 (some .int) ∈ hTB := hm_ 617 rfl rfl
set_option maxRecDepth 100000 in
theorem mo_Mod_take : Cond.code y_Mod_take c_Mod_take 3 (none) ∈ hTB := hm_ 621 rfl rfl
set_option maxRecDepth 100000 in
theorem mo_Mod_isSale : Cond.code y_Mod_isSale c_Mod_isSale 4 (some .boolean) ∈ hTB := hm_ 625 rfl rfl
set_option maxRecDepth 100000 in
theorem mo_Mod_takenSum : Cond.code y_Mod_takenSum c_Mod_takenSum 4 (some .long) ∈ hTB := hm_ 629 rfl rfl
set_option maxRecDepth 100000 in
theorem mo_Mod_isFirst : Cond.code y_Mod_isFirst c_Mod_isFirst 3 (some .boolean) ∈ hTB := hm_ 633 rfl rfl
set_option maxRecDepth 100000 in
theorem mo_Mod_isBefore : Cond.code y_Mod_isBefore c_Mod_isBefore 7 (some .boolean) ∈ hTB := hm_ 637 rfl rfl
set_option maxRecDepth 100000 in
theorem mo_Mod_wins : Cond.code y_Mod_wins c_Mod_wins 2 (some .boolean) ∈ hTB := hm_ 641 rfl rfl
set_option maxRecDepth 100000 in
theorem mo_Mod_sum : Cond.code y_Mod_sum c_Mod_sum 1 (some .long) ∈ hTB := hm_ 645 rfl rfl
set_option maxRecDepth 100000 in
theorem mo_Mod_bound : Cond.code y_Mod_bound c_Mod_bound 8 (some .long) ∈ hTB := hm_ 650 rfl rfl
set_option maxRecDepth 100000 in
theorem mo_Mod_proved : Cond.code y_Mod_proved c_Mod_proved 1 (some .boolean) ∈ hTB := hm_ 654 rfl rfl
set_option maxRecDepth 100000 in
theorem mo_Mod_second : Cond.code y_Mod_second c_Mod_second 5 (some .long) ∈ hTB := hm_ 658 rfl rfl
set_option maxRecDepth 100000 in
theorem mo_Mod_tie : Cond.code y_Mod_tie c_Mod_tie 5 (some .int) ∈ hTB := hm_ 663 rfl rfl
set_option maxRecDepth 100000 in
theorem mo_Mod_isTied : Cond.code y_Mod_isTied c_Mod_isTied 3 (some .boolean) ∈ hTB := hm_ 667 rfl rfl
set_option maxRecDepth 100000 in
theorem mo_Mod_step : Cond.code y_Mod_step c_Mod_step 9 (some .boolean) ∈ hTB := hm_ 671 rfl rfl
set_option maxRecDepth 100000 in
theorem mo_Mod_isShare : Cond.code y_Mod_isShare c_Mod_isShare 4 (some .boolean) ∈ hTB := hm_ 674 rfl rfl
set_option maxRecDepth 100000 in
theorem mo_Mod_price : Cond.code y_Mod_price c_Mod_price 13 (some .long) ∈ hTB := hm_ 681 rfl rfl
set_option maxRecDepth 100000 in
theorem mo_Mod_index : Cond.code y_Mod_index c_Mod_index 6 (some .boolean) ∈ hTB := hm_ 685 rfl rfl
set_option maxRecDepth 100000 in
theorem mo_Mod_isMonth : Cond.code y_Mod_isMonth c_Mod_isMonth 1 (some .boolean) ∈ hTB := hm_ 688 rfl rfl
set_option maxRecDepth 100000 in
theorem mo_Mod_monthly : Cond.code y_Mod_monthly c_Mod_monthly 6 (some .long) ∈ hTB := hm_ 692 rfl rfl
set_option maxRecDepth 100000 in
theorem mo_Mod_dispute : Cond.code y_Mod_dispute c_Mod_dispute 3 (some .int) ∈ hTB := hm_ 697 rfl rfl
set_option maxRecDepth 100000 in
theorem mo_Mod_verdict : Cond.code y_Mod_verdict c_Mod_verdict 4 (some .int) ∈ hTB := hm_ 701 rfl rfl
set_option maxRecDepth 100000 in
theorem mo_Mod_holds : Cond.code y_Mod_holds c_Mod_holds 6 (some .boolean) ∈ hTB := hm_ 705 rfl rfl
