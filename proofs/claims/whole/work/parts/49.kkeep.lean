/-- what the search keeps, of the sales V that it saw -/
def kI_bw (s : zS) (V : (Nat → Bool) → Prop) (k : Nat) (v : Int64) : Prop := (∀ u, V u → u k = false → zk_sum s u ≤ v) ∧ (v = 0 ∨ ∃ u, V u ∧ u k = false ∧ zk_sum s u = v)
def kI_b (s : zS) (V : (Nat → Bool) → Prop) (y : Int64 × Int32 × Int32) : Prop := ∃ w, V w ∧ zk_sum s w = y.1 ∧ y.2.1 = nI (zb_m w 12) ∧ (∀ u, V u → zk_sum s u ≤ y.1 ∧ (zk_sum s u = y.1 → u = w ∨ zLB s w u)) ∧ ∃ p, y.2.2 = nI (zb_m p 12) ∧ ∀ k, k < 12 → (p k = true ↔ ∃ u, V u ∧ zk_sum s u = y.1 ∧ u k = true)
def kI (s : zS) (V : (Nat → Bool) → Prop) (x : kX) : Prop := (∀ k, k < 12 → kI_bw s V k (x.2.2.1 k)) ∧ (((∀ u, ¬ V u) ∧ x.2.2.2.1 = -1) ∨ kI_b s V x.2.2.2)
theorem kI_cg {s : zS} {V V' : (Nat → Bool) → Prop} {x : kX} (h : ∀ u, V u ↔ V' u) (I : kI s V x) : kI s V' x := by
  rw [show V' = V from funext (fun u => propext (h u).symm)]
  exact I
def kk_bw (x : kX) (c : Int32) (v : Int64) (j : Nat) : Nat → Int64 := fun i => if i < j then (if k_bt c (nI i) = false ∧ x.2.2.1 i < v then v else x.2.2.1 i) else x.2.2.1 i
def kk3 (x : kX) (c : Int32) (v : Int64) : Int64 × Int32 × Int32 := if x.2.2.2.1 < v then (v, c, c) else if v = x.2.2.2.1 then (x.2.2.2.1, x.2.2.2.2.1, x.2.2.2.2.2 ||| c) else x.2.2.2
def kKeep (x : kX) (c : Int32) (v : Int64) : kX := (x.1, x.2.1, kk_bw x c v 12, kk3 x c v)
theorem kb_keep {s : zS} {V : (Nat → Bool) → Prop} {k : Nat} {v : Int64} {t : Nat → Bool} (I : kI_bw s V k v) : kI_bw s (fun u => V u ∨ u = t) k (if t k = false ∧ v < zk_sum s t then zk_sum s t else v) := by
  by_cases h : t k = false ∧ v < zk_sum s t
  · rw [if_pos h]
    refine ⟨fun u hu h2 => ?_, Or.inr ⟨t, Or.inr rfl, h.1, rfl⟩⟩
    rcases hu with hu | rfl
    · exact Int64.le_trans (I.1 u hu h2) (Int64.le_of_lt h.2)
    · exact Int64.le_refl _
  · rw [if_neg h]
    refine ⟨fun u hu h2 => ?_, ?_⟩
    · rcases hu with hu | rfl
      · exact I.1 u hu h2
      · exact Int64.not_lt.mp (fun h3 => h ⟨h2, h3⟩)
    · rcases I.2 with e | ⟨u, hu, e⟩
      · exact Or.inl e
      · exact Or.inr ⟨u, Or.inl hu, e⟩
theorem zb_orm (p q : Nat → Bool) : nI (zb_m p 12) ||| nI (zb_m q 12) = nI (zb_m (fun k => p k || q k) 12) := by
  rw [nI_or]
  congr 1
  apply Nat.eq_of_testBit_eq
  intro i
  rw [Nat.testBit_or, zb_tb, zb_tb, zb_tb]
  cases decide (i < 12) <;> simp
theorem kI_keep {s : zS} {V : (Nat → Bool) → Prop} {x : kX} {t : Nat → Bool} (I : kI s V x) (h0 : 0 ≤ zk_sum s t) (hL : ∀ u, V u → zLB s u t) : kI s (fun u => V u ∨ u = t) (kKeep x (nI (zb_m t 12)) (zk_sum s t)) := by
  refine ⟨fun k hk => ?_, Or.inr ?_⟩
  · show kI_bw s _ k (kk_bw x (nI (zb_m t 12)) (zk_sum s t) 12 k)
    unfold kk_bw
    rw [if_pos hk, k_bt_m (by decide) hk]
    exact kb_keep (I.1 k hk)
  · show kI_b s _ (kk3 x (nI (zb_m t 12)) (zk_sum s t))
    have hnew : (∀ u, V u → zk_sum s u < zk_sum s t) → kI_b s (fun u => V u ∨ u = t) (zk_sum s t, nI (zb_m t 12), nI (zb_m t 12)) := fun h => by
      refine ⟨t, Or.inr rfl, rfl, rfl, fun u hu => ?_, t, rfl, fun k hk => ⟨fun e => ⟨t, Or.inr rfl, rfl, e⟩, ?_⟩⟩
      · rcases hu with hu | rfl
        · exact ⟨Int64.le_of_lt (h u hu), fun e => absurd (h u hu) (by rw [e]; exact fun h => Int64.lt_irrefl h)⟩
        · exact ⟨Int64.le_refl _, fun _ => Or.inl rfl⟩
      · rintro ⟨u, hu | rfl, e, e2⟩
        · exact absurd (h u hu) (by rw [show zk_sum s u = zk_sum s t from e]; exact fun h => Int64.lt_irrefl h)
        · exact e2
    rcases I.2 with ⟨hno, hb⟩ | ⟨w, hw, e1, e2, hall, p, e3, hp⟩
    · unfold kk3
      rw [if_pos (by rw [hb]; exact Int64.lt_of_lt_of_le (by decide) h0)]
      exact hnew (fun u hu => absurd hu (hno u))
    · unfold kk3
      by_cases c1 : x.2.2.2.1 < zk_sum s t
      · rw [if_pos c1]
        exact hnew (fun u hu => Int64.lt_of_le_of_lt (hall u hu).1 c1)
      · rw [if_neg c1]
        by_cases c2 : zk_sum s t = x.2.2.2.1
        · rw [if_pos c2]
          refine ⟨w, Or.inl hw, e1, e2, fun u hu => ?_, fun k => p k || t k, ?_, fun k hk => ?_⟩
          · rcases hu with hu | rfl
            · exact hall u hu
            · exact ⟨Int64.not_lt.mp c1, fun _ => Or.inr (hL w hw)⟩
          · show x.2.2.2.2.2 ||| nI (zb_m t 12) = _
            rw [e3, zb_orm]
          · rw [Bool.or_eq_true, hp k hk]
            constructor
            · rintro (⟨u, hu, e⟩ | e)
              · exact ⟨u, Or.inl hu, e⟩
              · exact ⟨t, Or.inr rfl, c2, e⟩
            · rintro ⟨u, hu | rfl, e⟩
              · exact Or.inl ⟨u, hu, e⟩
              · exact Or.inr e.2
        · rw [if_neg c2]
          refine ⟨w, Or.inl hw, e1, e2, fun u hu => ?_, p, e3, fun k hk => ?_⟩
          · rcases hu with hu | rfl
            · exact hall u hu
            · exact ⟨Int64.not_lt.mp c1, fun e => absurd e c2⟩
          · rw [hp k hk]
            constructor
            · rintro ⟨u, hu, e⟩
              exact ⟨u, Or.inl hu, e⟩
            · rintro ⟨u, hu | rfl, e⟩
              · exact ⟨u, hu, e⟩
              · exact absurd e.1 c2
/-- the sales that go on from t, of which the first p places are settled -/
def kExt (s : zS) (om : Nat → Nat) (p : Nat) (t u : Nat → Bool) : Prop := zk_sale s u ∧ zk_can s u ∧ ∀ q, q < p → u (om q) = t (om q)
section KEXT
variable {s : zS} {om : Nat → Nat} {n p : Nat} {t : Nat → Bool}
theorem kExt_leaf (O : kOrd s (fun k => k < z_nD s ∧ z_pl s k = true) om n) (S : zk_sale s t) (T : zk_can s t) (u : Nat → Bool) : kExt s om n t u ↔ u = t := by
  constructor
  · rintro ⟨h1, h2, h3⟩
    funext k
    by_cases hk : k < z_nD s ∧ z_pl s k = true
    · obtain ⟨q, hq, e⟩ := O.2.1 k hk
      rw [← e]
      exact h3 q hq
    · have e1 : u k = false := by
        cases h : u k with
        | false => rfl
        | true => exact absurd (h2 k h) hk
      have e2 : t k = false := by
        cases h : t k with
        | false => rfl
        | true => exact absurd (T k h) hk
      rw [e1, e2]
  · rintro rfl
    exact ⟨S, T, fun _ _ => rfl⟩
theorem kExt_split (O : kOrd s (fun k => k < z_nD s ∧ z_pl s k = true) om n) (hp : p < n) (h0 : t (om p) = false) (u : Nat → Bool) : kExt s om p t u ↔ kExt s om (p + 1) (hv_up t (om p) true) u ∨ kExt s om (p + 1) t u := by
  have hne : ∀ q, q < p → om q ≠ om p := fun q hq e => by have := O.inj (by omega) hp e; omega
  constructor
  · rintro ⟨h1, h2, h3⟩
    cases h : u (om p) with
    | true =>
      refine Or.inl ⟨h1, h2, fun q hq => ?_⟩
      rcases Nat.lt_or_ge q p with c | c
      · rw [hv_un _ (hne q c)]; exact h3 q c
      · rw [show q = p by omega, hv_us]; exact h
    | false =>
      refine Or.inr ⟨h1, h2, fun q hq => ?_⟩
      rcases Nat.lt_or_ge q p with c | c
      · exact h3 q c
      · rw [show q = p by omega, h, h0]
  · rintro (⟨h1, h2, h3⟩ | ⟨h1, h2, h3⟩)
    · refine ⟨h1, h2, fun q hq => ?_⟩
      have := h3 q (by omega)
      rw [hv_un _ (hne q hq)] at this
      exact this
    · exact ⟨h1, h2, fun q hq => h3 q (by omega)⟩
theorem kExt_LB (O : kOrd s (fun k => k < z_nD s ∧ z_pl s k = true) om n) (hp : p < n) (h0 : t (om p) = false) {u v : Nat → Bool} (hu : kExt s om (p + 1) (hv_up t (om p) true) u) (hv : kExt s om (p + 1) t v) : zLB s u v := by
  have hne : ∀ q, q < p → om q ≠ om p := fun q hq e => by have := O.inj (by omega) hp e; omega
  refine ⟨om p, (O.1 p hp).1, by rw [hu.2.2 p (by omega), hv_us], by rw [hv.2.2 p (by omega), h0], fun j hj hb => ?_⟩
  by_cases hk : z_pl s j = true
  · obtain ⟨q, hq, e⟩ := O.2.1 j ⟨hj, hk⟩
    subst e
    have := O.bef hq hp hb
    rw [hu.2.2 q (by omega), hv.2.2 q (by omega), hv_un _ (hne q this)]
  · have e1 : u j = false := by
      cases h : u j with
      | false => rfl
      | true => exact absurd (hu.2.1 j h).2 hk
    have e2 : v j = false := by
      cases h : v j with
      | false => rfl
      | true => exact absurd (hv.2.1 j h).2 hk
    rw [e1, e2]
theorem kExt_none (N : zN s) (T : ∀ k, t k = true → ∃ q, q < p ∧ om q = k) (O : kOrd s (fun k => k < z_nD s ∧ z_pl s k = true) om n) (hp : p < n) (h : ¬ zk_sale s (hv_up t (om p) true)) (u : Nat → Bool) : ¬ kExt s om (p + 1) (hv_up t (om p) true) u := by
  rintro ⟨h1, h2, h3⟩
  refine h (sale_mono N (fun k hk ht => ?_) h1)
  by_cases e : k = om p
  · rw [e, h3 p (by omega), hv_us]
  · have ht2 := ht
    rw [hv_un _ e] at ht2
    obtain ⟨q, hq, e2⟩ := T k ht2
    subst e2
    rw [h3 q (by omega)]
    exact ht
end KEXT
