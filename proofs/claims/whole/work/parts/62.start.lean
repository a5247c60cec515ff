/-! THE ENTRY: classes, array classes, nest mates, and the first frame -/
theorem ar_p {s : State} {args : Array Value} {ty : FieldType} (h : (Cond.arrayClass ty).before args s = true) : ∃ cA, ArrOfT s cA ty ∧ s.vm.findClass ("[" ++ ty.toString) = some cA := by
  obtain ⟨cA, kA, comp, h1, h2, h3⟩ := Cond.arrayClass_spec h
  exact ⟨cA, fun n z => ⟨fun k h => (by cases h), kA, h2, comp, h3⟩, h1⟩
theorem ar_o {s : State} {args : Array Value} {C : String} (h : (Cond.arrayOver (.object C)).before args s = true) : ∃ cA, ArrOfT s cA (.object C) ∧ va_RA s cA (.object C) := by
  obtain ⟨comp, cA, kA, h1, h2, h3, h4, h5⟩ := Cond.arrayOver_spec h
  exact ⟨cA, fun n z => ⟨fun k h => (by cases h), kA, h3, comp, h4⟩, kA, comp, h3, h4, h1, h5⟩
theorem hIsN_on {w : Cond} (h : hIsN w = true) : w.onTables = true := by
  cases w <;> first | rfl | (simp [hIsN] at h; done)
theorem law_K {s : State} {b : Nat} (hts : ∀ w ∈ lw_tbl, w.before #[Value.ref b] s = true) : ∃ Y : hY, va_K Y.1 vwCl (hTy Y.2) s := by
  have htb : ∀ w ∈ hTB, w.before #[Value.ref b] s = true := fun w h => hts w (hTB_in w h)
  obtain ⟨c0, i0, k0⟩ := u_known (C := "BaleTenders") (T := T_BT) (N := 12) (n := 12) htb hq_BT.2.1 (htb _ mb_BT)
  obtain ⟨c1, i1, k1⟩ := u_known (C := "BaleTenders$Lot") (T := T_Lot) (N := 4) (n := 4) htb hq_Lot.2.1 (htb _ mb_Lot)
  obtain ⟨c2, i2, k2⟩ := u_known (C := "BaleTenders$Bidder") (T := T_Bdr) (N := 7) (n := 7) htb hq_Bdr.2.1 (htb _ mb_Bdr)
  obtain ⟨c3, i3, k3⟩ := u_known (C := "BaleTenders$Bid") (T := T_Bid) (N := 4) (n := 4) htb hq_Bid.2.1 (htb _ mb_Bid)
  obtain ⟨c4, i4, k4⟩ := u_known (C := "BaleTenders$Dispute") (T := T_Dis) (N := 2) (n := 2) htb hq_Dis.2.1 (htb _ mb_Dis)
  obtain ⟨c5, i5, k5⟩ := u_known (C := "BaleTenders$SaleSearch") (T := T_Sea) (N := 6) (n := 6) htb hq_Sea.2.1 (htb _ mb_Sea)
  obtain ⟨c6, i6, k6⟩ := u_known (C := "BaleTendersModel") (T := T_Mod) (N := 28) (n := 28) htb hq_Mod.2.1 (htb _ mb_Mod)
  obtain ⟨z0, a0, r0⟩ := ar_p (htb _ ma_arrayClass_long)
  obtain ⟨z1, a1, r1⟩ := ar_p (htb _ ma_arrayClass_int)
  obtain ⟨z2, a2, r2⟩ := ar_p (htb _ ma_arrayClass_boolean)
  obtain ⟨z3, a3, r3⟩ := ar_o (hts (.arrayOver (.object "BaleTenders$Lot")) (List.mem_append_right _ (List.mem_of_getElem? (i := 20) (by decide +kernel))))
  obtain ⟨z4, a4, r4⟩ := ar_o (hts (.arrayOver (.object "BaleTenders$Bidder")) (List.mem_append_right _ (List.mem_of_getElem? (i := 22) (by decide +kernel))))
  obtain ⟨z5, a5, r5⟩ := ar_o (hts (.arrayOver (.object "BaleTenders$Bid")) (List.mem_append_right _ (List.mem_of_getElem? (i := 24) (by decide +kernel))))
  obtain ⟨z6, a6, r6⟩ := ar_o (hts (.arrayOver (.object "BaleTenders$Dispute")) (List.mem_append_right _ (List.mem_of_getElem? (i := 26) (by decide +kernel))))
  refine ⟨((fun k => match k with
    | 0 => c0
    | 1 => c1
    | 2 => c2
    | 3 => c3
    | 4 => c4
    | 5 => c5
    | _ => c6, fun k => match k with
    | 0 => i0
    | 1 => i1
    | 2 => i2
    | 3 => i3
    | 4 => i4
    | 5 => i5
    | _ => i6), fun k => match k with
    | 0 => z0
    | 1 => z1
    | 2 => z2
    | 3 => z3
    | 4 => z4
    | 5 => z5
    | _ => z6), fun k q hq => ?_, fun k q hq => ?_⟩
  · match k, hq with
    | 0, hq => cases hq; exact k0
    | 1, hq => cases hq; exact k1
    | 2, hq => cases hq; exact k2
    | 3, hq => cases hq; exact k3
    | 4, hq => cases hq; exact k4
    | 5, hq => cases hq; exact k5
    | 6, hq => cases hq; exact k6
    | k + 7, hq => simp [vwCl] at hq
  · match k, hq with
    | 0, hq => cases hq; exact ⟨a0, r0⟩
    | 1, hq => cases hq; exact ⟨a1, r1⟩
    | 2, hq => cases hq; exact ⟨a2, r2⟩
    | 3, hq => cases hq; exact ⟨a3, r3⟩
    | 4, hq => cases hq; exact ⟨a4, r4⟩
    | 5, hq => cases hq; exact ⟨a5, r5⟩
    | 6, hq => cases hq; exact ⟨a6, r6⟩
    | k + 7, hq => simp [hTy] at hq
theorem law_N {s : State} {b : Nat} (hts : ∀ w ∈ lw_tbl, w.before #[Value.ref b] s = true) : hNst s := by
  have ht : ∀ w ∈ tables_1, w.before #[Value.ref b] s = true := fun w h => hts w (List.mem_append_right _ h)
  refine ⟨fun w hw => va_Nw.of (hIsN_on (List.mem_filter.mp hw).2) (ht w (List.mem_filter.mp hw).1), ?_⟩
  refine List.forall_mem_cons.mpr ⟨va_AO.of (ht _ (List.mem_of_getElem? (i := 20) (by decide +kernel))), List.forall_mem_cons.mpr ⟨va_AO.of (ht _ (List.mem_of_getElem? (i := 22) (by decide +kernel))), List.forall_mem_cons.mpr ⟨va_AO.of (ht _ (List.mem_of_getElem? (i := 24) (by decide +kernel))), List.forall_mem_cons.mpr ⟨va_AO.of (ht _ (List.mem_of_getElem? (i := 26) (by decide +kernel))), fun _ h => absurd h List.not_mem_nil⟩⟩⟩⟩
set_option maxHeartbeats 4000000 in
set_option maxRecDepth 100000 in
/-- from the entry, for every script of at most 4096 ints, the law comes to its end with true -/
theorem whole_start {p : Program} {e : Env} {s : State} {m : MethodId} {below : List Frame} {meth : Method} {c : Code} (l : Launch) {b L : Nat} {xs : Nat → Int32} (hL : L ≤ 4096) (C0 : lw_At p s m meth c b L xs) : W p l e room_1 s m #[Value.ref b] below meth c s.heap [] 0 0 (lw_Z below #[Value.ref b] s) (entryFrame m ([Value.ref b] : List Value).toArray 4) := by
  obtain ⟨hx, hb, hr, hml, hown, hts, hX, hbl, hlocks, hgv⟩ := id C0
  obtain ⟨Y, hK⟩ := law_K hts
  have E : lCx Y ((p, l, e, s, m), (#[Value.ref b], below, meth, c), ((fun q : Nat => s.heap.size ≤ q), lw_Z below #[Value.ref b] s)) b L xs := ⟨⟨hx, hb, hml, hown, fun w h => hts w (hTB_in w h), hK, fun _ h => h, law_N hts⟩, hX, hbl, Nat.not_le.mpr hbl⟩
  have hl := lv_entry ([.ref b]) (n := 4) (Nat.le_of_ble_eq_true rfl)
  rw [lg_entry_eq]
  generalize (lg_sl ([.ref b]) ++ List.replicate (4 - (lg_sl ([.ref b])).length) Slot.unset).toArray = ls at hl ⊢
  have hl : lv_has ls 4 [(0, .ref b)] := hl
  refine law_start E hL (fun k n f lv hk hn => ?_) s.heap [] ls (fun a e h => by cases h) va_S.rf hl
  exact r_iconst (v := 1) E.1 d_Law_law_1223 rfl (fun H locs ls h1 h2 h3 => va_forget (fun q hq => h2.2.2 q hq) (W.widen hk hn (lw_ret hx hb hr hlocks d_Law_law_1224)))
