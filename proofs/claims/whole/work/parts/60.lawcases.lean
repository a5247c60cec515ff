/-! THE LAW: its script, and its cases -/
abbrev S_law : hS := (code, "BaleTendersLaw", 4, room_1)
/-- the law's script of L ints xs lies at b, out of the worlds -/
def lCx (Y : hY) (X : hX) (b L : Nat) (xs : Nat → Int32) : Prop := hC Y X S_law ∧ va_X b L xs X.1.2.2.2.1 X.1.2.2.2.1.heap ∧ b < X.1.2.2.2.1.heap.size ∧ ¬ X.2.2.1 b
section LROWS
variable {Y : hY} {X : hX} {k n : Nat} {f : hw_F} {lv : List (Nat × Value)} {st : List Value} {pc b L : Nat} {xs : Nat → Int32}
theorem r_sld (E : lCx Y X b L xs) {i v : Int32} (hd : decode code pc = .ok (.iaload, 1)) (hin : vp_in i L) (hv : xs i.toNatClampNeg = v) (K : hG Y X S_law k n f lv (.int v :: st) (pc + 1)) : hG Y X S_law k n f lv (.int i :: .ref b :: st) pc := fun H locs ls h1 h2 h3 => va_sld E.1.1 E.1.2.1 E.2.1 E.2.2.1 E.2.2.2 h2 hin hd (by rw [hv]; exact K H locs ls h1 h2 h3)
theorem r_slen (E : lCx Y X b L xs) (hd : decode code pc = .ok (.arraylength, 1)) (K : hG Y X S_law k n f lv (.int (nI L) :: st) (pc + 1)) : hG Y X S_law k n f lv (.ref b :: st) pc := fun H locs ls h1 h2 h3 => va_slen E.1.1 E.1.2.1 E.2.1 E.2.2.1 E.2.2.2 h2 hd (K H locs ls h1 h2 h3)
theorem r_wide {k' n' : Nat} {S : hS} (h1 : k ≤ k') (h2 : n ≤ n') (K : hG Y X S k' n' f lv st pc) : hG Y X S k n f lv st pc := fun H locs ls g1 g2 g3 => W.widen h1 h2 (K H locs ls g1 g2 g3)
end LROWS
theorem lw_in {L j : Nat} (c : Nat) (h : 8 * j + 8 ≤ L) (hL : L ≤ 4096) (hc : c < 8) : vp_in (nI (8 * j) + nI c) L := by
  rw [nI_add]
  exact vp_in_nI (by omega) (by omega)
theorem lw_and (x : Int32) : ∃ t, t < 32 ∧ x &&& 31 = nI t := by
  refine ⟨(x.toBitVec &&& 31#32).toNat, ?_, ?_⟩
  · rw [BitVec.toNat_and]
    exact Nat.lt_of_le_of_lt Nat.and_le_right (by decide)
  · apply Int32.toBitVec_inj.mp
    show x.toBitVec &&& 31#32 = BitVec.ofNat 32 _
    rw [BitVec.ofNat_toNat, BitVec.setWidth_eq]
set_option maxHeartbeats 4000000 in
set_option maxRecDepth 100000 in
theorem lc_lot {Y : hY} {X : hX} {b L : Nat} {xs : Nat → Int32} (E : lCx Y X b L xs) (hL : L ≤ 4096) {j k n q1 q2 : Nat} (hj : 8 * j + 8 ≤ L) (hk : k + 4 ≤ 600000) (hn : n + 22 ≤ 7302250) {s : zS} {f : hw_F} (L0 : lSt Y q1 q2 s s f) (K : ∀ s' f', lSt Y q1 q2 s' s' f' → hG Y X S_law (k + 4) (n + 22) f' [(3, .int (nI (8 * j))), (2, .ref q2), (1, .ref q1), (0, .ref b)] [] 1217) : hG Y X S_law k n f [(3, .int (nI (8 * j))), (2, .ref q2), (1, .ref q1), (0, .ref b)] [] 136 := by
  have C := E.1
  have J := L0.J
  obtain ⟨fs0, hk0⟩ := L0.ka
  refine r_aload_n C d_Law_law_136 rfl rfl ?_
  refine r_aload_n C d_Law_law_137 rfl rfl ?_
  refine r_iload_n C d_Law_law_138 rfl rfl ?_
  refine r_iconst (v := 1) C d_Law_law_139 rfl ?_
  refine r_iadd C d_Law_law_140 ?_
  refine r_sld E d_Law_law_141 (lw_in 1 hj hL (by decide)) rfl ?_
  refine r_i2l C d_Law_law_142 ?_
  refine r_bipush (v := 32) C d_Law_law_143 rfl ?_
  refine r_lshl C d_Law_law_145 ?_
  refine r_aload_n C d_Law_law_146 rfl rfl ?_
  refine r_iload_n C d_Law_law_147 rfl rfl ?_
  refine r_iconst (v := 2) C d_Law_law_148 rfl ?_
  refine r_iadd C d_Law_law_149 ?_
  refine r_sld E d_Law_law_150 (lw_in 2 hj hL (by decide)) rfl ?_
  refine r_i2l C d_Law_law_151 ?_
  refine r_ldc2 C d_Law_law_152 mn_Law_13 ?_
  refine r_land C d_Law_law_155 ?_
  refine r_lor C d_Law_law_156 ?_
  refine r_callV C (L0.k (fun fk h => kc_lot Y _ h _)) mQ_BT_lot d_Law_law_157 ml_Law_15 mi_BT_lot mv_BT_lot hk0 rfl rfl rfl rfl (Nat.le_of_ble_eq_true rfl) ⟨⟨Nat.le_of_ble_eq_true rfl, Nat.le_of_ble_eq_true rfl⟩, by show k + 4 ≤ 600000; omega, by show n + 22 ≤ 7302250; omega⟩ (fun v f1 hp => ?_)
  obtain ⟨rfl, L1⟩ := hp
  obtain ⟨fs1, hm1⟩ := L1.ma
  refine r_aload_n C d_Law_law_160 rfl rfl ?_
  refine r_aload_n C d_Law_law_161 rfl rfl ?_
  refine r_iload_n C d_Law_law_162 rfl rfl ?_
  refine r_iconst (v := 1) C d_Law_law_163 rfl ?_
  refine r_iadd C d_Law_law_164 ?_
  refine r_sld E d_Law_law_165 (lw_in 1 hj hL (by decide)) rfl ?_
  refine r_i2l C d_Law_law_166 ?_
  refine r_bipush (v := 32) C d_Law_law_167 rfl ?_
  refine r_lshl C d_Law_law_169 ?_
  refine r_aload_n C d_Law_law_170 rfl rfl ?_
  refine r_iload_n C d_Law_law_171 rfl rfl ?_
  refine r_iconst (v := 2) C d_Law_law_172 rfl ?_
  refine r_iadd C d_Law_law_173 ?_
  refine r_sld E d_Law_law_174 (lw_in 2 hj hL (by decide)) rfl ?_
  refine r_i2l C d_Law_law_175 ?_
  refine r_ldc2 C d_Law_law_176 mn_Law_13 ?_
  refine r_land C d_Law_law_179 ?_
  refine r_lor C d_Law_law_180 ?_
  refine r_callV C (L1.m (fun fm h => mc_lot Y _ J h _)) mQ_Mod_lot d_Law_law_181 ml_Law_19 mi_Mod_lot mv_Mod_lot hm1 rfl rfl rfl rfl (Nat.le_of_ble_eq_true rfl) ⟨⟨Nat.le_of_ble_eq_true rfl, Nat.le_of_ble_eq_true rfl⟩, by show k + 4 + 0 ≤ 600000; omega, by show n + 22 + 0 ≤ 7302250; omega⟩ (fun v f2 hp => ?_)
  obtain ⟨rfl, L2⟩ := hp
  refine r_icmp_eq (tgt := 1217) C d_Law_law_184 rfl (fun _ => ?_) (fun hz => absurd rfl hz)
  exact r_wide (by show k + 4 + 0 ≤ k + 4; omega) (by show n + 22 + 0 ≤ n + 22; omega) (K _ _ L2)
set_option maxHeartbeats 4000000 in
set_option maxRecDepth 100000 in
theorem lc_bidder {Y : hY} {X : hX} {b L : Nat} {xs : Nat → Int32} (E : lCx Y X b L xs) (hL : L ≤ 4096) {j k n q1 q2 : Nat} (hj : 8 * j + 8 ≤ L) (hk : k + 4 ≤ 600000) (hn : n + 22 ≤ 7302250) {s : zS} {f : hw_F} (L0 : lSt Y q1 q2 s s f) (K : ∀ s' f', lSt Y q1 q2 s' s' f' → hG Y X S_law (k + 4) (n + 22) f' [(3, .int (nI (8 * j))), (2, .ref q2), (1, .ref q1), (0, .ref b)] [] 1217) : hG Y X S_law k n f [(3, .int (nI (8 * j))), (2, .ref q2), (1, .ref q1), (0, .ref b)] [] 189 := by
  have C := E.1
  have J := L0.J
  obtain ⟨fs0, hk0⟩ := L0.ka
  refine r_aload_n C d_Law_law_189 rfl rfl ?_
  refine r_aload_n C d_Law_law_190 rfl rfl ?_
  refine r_iload_n C d_Law_law_191 rfl rfl ?_
  refine r_iconst (v := 1) C d_Law_law_192 rfl ?_
  refine r_iadd C d_Law_law_193 ?_
  refine r_sld E d_Law_law_194 (lw_in 1 hj hL (by decide)) rfl ?_
  refine r_if_eq (tgt := 202) C d_Law_law_195 rfl (fun cz => ?_) (fun cz => ?_)
  · skip
    refine r_iconst (v := 0) C d_Law_law_202 rfl ?_
    refine r_callV C (L0.k (fun fk h => kc_bidder Y _ h false)) mQ_BT_bidder d_Law_law_203 ml_Law_20 mi_BT_bidder mv_BT_bidder hk0 rfl rfl rfl rfl (Nat.le_of_ble_eq_true rfl) ⟨⟨Nat.le_of_ble_eq_true rfl, Nat.le_of_ble_eq_true rfl⟩, by show k + 1 ≤ 600000; omega, by show n + 7 ≤ 7302250; omega⟩ (fun v f1 hp => ?_)
    obtain ⟨rfl, L1⟩ := hp
    obtain ⟨fs1, hm1⟩ := L1.ma
    refine r_aload_n C d_Law_law_206 rfl rfl ?_
    refine r_aload_n C d_Law_law_207 rfl rfl ?_
    refine r_iload_n C d_Law_law_208 rfl rfl ?_
    refine r_iconst (v := 1) C d_Law_law_209 rfl ?_
    refine r_iadd C d_Law_law_210 ?_
    refine r_sld E d_Law_law_211 (lw_in 1 hj hL (by decide)) rfl ?_
    refine r_if_eq (tgt := 219) C d_Law_law_212 rfl (fun _ => ?_) (fun hz => absurd cz hz)
    refine r_iconst (v := 0) C d_Law_law_219 rfl ?_
    refine r_callV C (L1.m (fun fm h => mc_bidder Y _ J h false)) mQ_Mod_bidder d_Law_law_220 ml_Law_24 mi_Mod_bidder mv_Mod_bidder hm1 rfl rfl rfl rfl (Nat.le_of_ble_eq_true rfl) ⟨⟨Nat.le_of_ble_eq_true rfl, Nat.le_of_ble_eq_true rfl⟩, by show k + 1 + 0 ≤ 600000; omega, by show n + 7 + 0 ≤ 7302250; omega⟩ (fun v f2 hp => ?_)
    obtain ⟨rfl, L2⟩ := hp
    refine r_icmp_eq (tgt := 1217) C d_Law_law_223 rfl (fun _ => ?_) (fun hz => absurd rfl hz)
    exact r_wide (by show k + 1 + 0 ≤ k + 4; omega) (by show n + 7 + 0 ≤ n + 22; omega) (K _ _ L2)
  · skip
    refine r_iconst (v := 1) C d_Law_law_198 rfl ?_
    refine r_goto (tgt := 203) C d_Law_law_199 rfl ?_
    refine r_callV C (L0.k (fun fk h => kc_bidder Y _ h true)) mQ_BT_bidder d_Law_law_203 ml_Law_20 mi_BT_bidder mv_BT_bidder hk0 rfl rfl rfl rfl (Nat.le_of_ble_eq_true rfl) ⟨⟨Nat.le_of_ble_eq_true rfl, Nat.le_of_ble_eq_true rfl⟩, by show k + 1 ≤ 600000; omega, by show n + 7 ≤ 7302250; omega⟩ (fun v f1 hp => ?_)
    obtain ⟨rfl, L1⟩ := hp
    obtain ⟨fs1, hm1⟩ := L1.ma
    refine r_aload_n C d_Law_law_206 rfl rfl ?_
    refine r_aload_n C d_Law_law_207 rfl rfl ?_
    refine r_iload_n C d_Law_law_208 rfl rfl ?_
    refine r_iconst (v := 1) C d_Law_law_209 rfl ?_
    refine r_iadd C d_Law_law_210 ?_
    refine r_sld E d_Law_law_211 (lw_in 1 hj hL (by decide)) rfl ?_
    refine r_if_eq (tgt := 219) C d_Law_law_212 rfl (fun hz => absurd hz cz) (fun _ => ?_)
    refine r_iconst (v := 1) C d_Law_law_215 rfl ?_
    refine r_goto (tgt := 220) C d_Law_law_216 rfl ?_
    refine r_callV C (L1.m (fun fm h => mc_bidder Y _ J h true)) mQ_Mod_bidder d_Law_law_220 ml_Law_24 mi_Mod_bidder mv_Mod_bidder hm1 rfl rfl rfl rfl (Nat.le_of_ble_eq_true rfl) ⟨⟨Nat.le_of_ble_eq_true rfl, Nat.le_of_ble_eq_true rfl⟩, by show k + 1 + 0 ≤ 600000; omega, by show n + 7 + 0 ≤ 7302250; omega⟩ (fun v f2 hp => ?_)
    obtain ⟨rfl, L2⟩ := hp
    refine r_icmp_eq (tgt := 1217) C d_Law_law_223 rfl (fun _ => ?_) (fun hz => absurd rfl hz)
    exact r_wide (by show k + 1 + 0 ≤ k + 4; omega) (by show n + 7 + 0 ≤ n + 22; omega) (K _ _ L2)
set_option maxHeartbeats 4000000 in
set_option maxRecDepth 100000 in
theorem lc_time {Y : hY} {X : hX} {b L : Nat} {xs : Nat → Int32} (E : lCx Y X b L xs) (hL : L ≤ 4096) {j k n q1 q2 : Nat} (hj : 8 * j + 8 ≤ L) (hk : k + 4 ≤ 600000) (hn : n + 22 ≤ 7302250) {s : zS} {f : hw_F} (L0 : lSt Y q1 q2 s s f) (K : ∀ s' f', lSt Y q1 q2 s' s' f' → hG Y X S_law (k + 4) (n + 22) f' [(3, .int (nI (8 * j))), (2, .ref q2), (1, .ref q1), (0, .ref b)] [] 1217) : hG Y X S_law k n f [(3, .int (nI (8 * j))), (2, .ref q2), (1, .ref q1), (0, .ref b)] [] 228 := by
  have C := E.1
  have J := L0.J
  obtain ⟨fs0, hk0⟩ := L0.ka
  refine r_aload_n C d_Law_law_228 rfl rfl ?_
  refine r_aload_n C d_Law_law_229 rfl rfl ?_
  refine r_iload_n C d_Law_law_230 rfl rfl ?_
  refine r_iconst (v := 1) C d_Law_law_231 rfl ?_
  refine r_iadd C d_Law_law_232 ?_
  refine r_sld E d_Law_law_233 (lw_in 1 hj hL (by decide)) rfl ?_
  refine r_aload_n C d_Law_law_234 rfl rfl ?_
  refine r_iload_n C d_Law_law_235 rfl rfl ?_
  refine r_iconst (v := 2) C d_Law_law_236 rfl ?_
  refine r_iadd C d_Law_law_237 ?_
  refine r_sld E d_Law_law_238 (lw_in 2 hj hL (by decide)) rfl ?_
  refine r_i2l C d_Law_law_239 ?_
  refine r_bipush (v := 32) C d_Law_law_240 rfl ?_
  refine r_lshl C d_Law_law_242 ?_
  refine r_aload_n C d_Law_law_243 rfl rfl ?_
  refine r_iload_n C d_Law_law_244 rfl rfl ?_
  refine r_iconst (v := 3) C d_Law_law_245 rfl ?_
  refine r_iadd C d_Law_law_246 ?_
  refine r_sld E d_Law_law_247 (lw_in 3 hj hL (by decide)) rfl ?_
  refine r_i2l C d_Law_law_248 ?_
  refine r_ldc2 C d_Law_law_249 mn_Law_13 ?_
  refine r_land C d_Law_law_252 ?_
  refine r_lor C d_Law_law_253 ?_
  refine r_callV C (L0.k (fun fk h => kc_time Y _ h _ _)) mQ_BT_time d_Law_law_254 ml_Law_25 mi_BT_time mv_BT_time hk0 rfl rfl rfl rfl (Nat.le_of_ble_eq_true rfl) ⟨⟨Nat.le_of_ble_eq_true rfl, Nat.le_of_ble_eq_true rfl⟩, by show k + 0 ≤ 600000; omega, by show n + 0 ≤ 7302250; omega⟩ (fun v f1 hp => ?_)
  obtain ⟨rfl, L1⟩ := hp
  obtain ⟨fs1, hm1⟩ := L1.ma
  refine r_aload_n C d_Law_law_257 rfl rfl ?_
  refine r_aload_n C d_Law_law_258 rfl rfl ?_
  refine r_iload_n C d_Law_law_259 rfl rfl ?_
  refine r_iconst (v := 1) C d_Law_law_260 rfl ?_
  refine r_iadd C d_Law_law_261 ?_
  refine r_sld E d_Law_law_262 (lw_in 1 hj hL (by decide)) rfl ?_
  refine r_aload_n C d_Law_law_263 rfl rfl ?_
  refine r_iload_n C d_Law_law_264 rfl rfl ?_
  refine r_iconst (v := 2) C d_Law_law_265 rfl ?_
  refine r_iadd C d_Law_law_266 ?_
  refine r_sld E d_Law_law_267 (lw_in 2 hj hL (by decide)) rfl ?_
  refine r_i2l C d_Law_law_268 ?_
  refine r_bipush (v := 32) C d_Law_law_269 rfl ?_
  refine r_lshl C d_Law_law_271 ?_
  refine r_aload_n C d_Law_law_272 rfl rfl ?_
  refine r_iload_n C d_Law_law_273 rfl rfl ?_
  refine r_iconst (v := 3) C d_Law_law_274 rfl ?_
  refine r_iadd C d_Law_law_275 ?_
  refine r_sld E d_Law_law_276 (lw_in 3 hj hL (by decide)) rfl ?_
  refine r_i2l C d_Law_law_277 ?_
  refine r_ldc2 C d_Law_law_278 mn_Law_13 ?_
  refine r_land C d_Law_law_281 ?_
  refine r_lor C d_Law_law_282 ?_
  refine r_callV C (L1.m (fun fm h => mc_time Y _ J h _ _)) mQ_Mod_time d_Law_law_283 ml_Law_29 mi_Mod_time mv_Mod_time hm1 rfl rfl rfl rfl (Nat.le_of_ble_eq_true rfl) ⟨⟨Nat.le_of_ble_eq_true rfl, Nat.le_of_ble_eq_true rfl⟩, by show k + 0 + 0 ≤ 600000; omega, by show n + 0 + 0 ≤ 7302250; omega⟩ (fun v f2 hp => ?_)
  obtain ⟨rfl, L2⟩ := hp
  refine r_icmp_eq (tgt := 1217) C d_Law_law_286 rfl (fun _ => ?_) (fun hz => absurd rfl hz)
  exact r_wide (by show k + 0 + 0 ≤ k + 4; omega) (by show n + 0 + 0 ≤ n + 22; omega) (K _ _ L2)
set_option maxHeartbeats 4000000 in
set_option maxRecDepth 100000 in
theorem lc_most {Y : hY} {X : hX} {b L : Nat} {xs : Nat → Int32} (E : lCx Y X b L xs) (hL : L ≤ 4096) {j k n q1 q2 : Nat} (hj : 8 * j + 8 ≤ L) (hk : k + 4 ≤ 600000) (hn : n + 22 ≤ 7302250) {s : zS} {f : hw_F} (L0 : lSt Y q1 q2 s s f) (K : ∀ s' f', lSt Y q1 q2 s' s' f' → hG Y X S_law (k + 4) (n + 22) f' [(3, .int (nI (8 * j))), (2, .ref q2), (1, .ref q1), (0, .ref b)] [] 1217) : hG Y X S_law k n f [(3, .int (nI (8 * j))), (2, .ref q2), (1, .ref q1), (0, .ref b)] [] 291 := by
  have C := E.1
  have J := L0.J
  obtain ⟨fs0, hk0⟩ := L0.ka
  refine r_aload_n C d_Law_law_291 rfl rfl ?_
  refine r_aload_n C d_Law_law_292 rfl rfl ?_
  refine r_iload_n C d_Law_law_293 rfl rfl ?_
  refine r_iconst (v := 1) C d_Law_law_294 rfl ?_
  refine r_iadd C d_Law_law_295 ?_
  refine r_sld E d_Law_law_296 (lw_in 1 hj hL (by decide)) rfl ?_
  refine r_aload_n C d_Law_law_297 rfl rfl ?_
  refine r_iload_n C d_Law_law_298 rfl rfl ?_
  refine r_iconst (v := 2) C d_Law_law_299 rfl ?_
  refine r_iadd C d_Law_law_300 ?_
  refine r_sld E d_Law_law_301 (lw_in 2 hj hL (by decide)) rfl ?_
  refine r_callV C (L0.k (fun fk h => kc_most Y _ h _ _)) mQ_BT_most d_Law_law_302 ml_Law_30 mi_BT_most mv_BT_most hk0 rfl rfl rfl rfl (Nat.le_of_ble_eq_true rfl) ⟨⟨Nat.le_of_ble_eq_true rfl, Nat.le_of_ble_eq_true rfl⟩, by show k + 0 ≤ 600000; omega, by show n + 0 ≤ 7302250; omega⟩ (fun v f1 hp => ?_)
  obtain ⟨rfl, L1⟩ := hp
  obtain ⟨fs1, hm1⟩ := L1.ma
  refine r_aload_n C d_Law_law_305 rfl rfl ?_
  refine r_aload_n C d_Law_law_306 rfl rfl ?_
  refine r_iload_n C d_Law_law_307 rfl rfl ?_
  refine r_iconst (v := 1) C d_Law_law_308 rfl ?_
  refine r_iadd C d_Law_law_309 ?_
  refine r_sld E d_Law_law_310 (lw_in 1 hj hL (by decide)) rfl ?_
  refine r_aload_n C d_Law_law_311 rfl rfl ?_
  refine r_iload_n C d_Law_law_312 rfl rfl ?_
  refine r_iconst (v := 2) C d_Law_law_313 rfl ?_
  refine r_iadd C d_Law_law_314 ?_
  refine r_sld E d_Law_law_315 (lw_in 2 hj hL (by decide)) rfl ?_
  refine r_callV C (L1.m (fun fm h => mc_most Y _ J h _ _)) mQ_Mod_most d_Law_law_316 ml_Law_34 mi_Mod_most mv_Mod_most hm1 rfl rfl rfl rfl (Nat.le_of_ble_eq_true rfl) ⟨⟨Nat.le_of_ble_eq_true rfl, Nat.le_of_ble_eq_true rfl⟩, by show k + 0 + 0 ≤ 600000; omega, by show n + 0 + 0 ≤ 7302250; omega⟩ (fun v f2 hp => ?_)
  obtain ⟨rfl, L2⟩ := hp
  refine r_icmp_eq (tgt := 1217) C d_Law_law_319 rfl (fun _ => ?_) (fun hz => absurd rfl hz)
  exact r_wide (by show k + 0 + 0 ≤ k + 4; omega) (by show n + 0 + 0 ≤ n + 22; omega) (K _ _ L2)
set_option maxHeartbeats 4000000 in
set_option maxRecDepth 100000 in
theorem lc_bid {Y : hY} {X : hX} {b L : Nat} {xs : Nat → Int32} (E : lCx Y X b L xs) (hL : L ≤ 4096) {j k n q1 q2 : Nat} (hj : 8 * j + 8 ≤ L) (hk : k + 4 ≤ 600000) (hn : n + 22 ≤ 7302250) {s : zS} {f : hw_F} (L0 : lSt Y q1 q2 s s f) (K : ∀ s' f', lSt Y q1 q2 s' s' f' → hG Y X S_law (k + 4) (n + 22) f' [(3, .int (nI (8 * j))), (2, .ref q2), (1, .ref q1), (0, .ref b)] [] 1217) : hG Y X S_law k n f [(3, .int (nI (8 * j))), (2, .ref q2), (1, .ref q1), (0, .ref b)] [] 324 := by
  have C := E.1
  have J := L0.J
  obtain ⟨fs0, hk0⟩ := L0.ka
  refine r_aload_n C d_Law_law_324 rfl rfl ?_
  refine r_aload_n C d_Law_law_325 rfl rfl ?_
  refine r_iload_n C d_Law_law_326 rfl rfl ?_
  refine r_iconst (v := 1) C d_Law_law_327 rfl ?_
  refine r_iadd C d_Law_law_328 ?_
  refine r_sld E d_Law_law_329 (lw_in 1 hj hL (by decide)) rfl ?_
  refine r_aload_n C d_Law_law_330 rfl rfl ?_
  refine r_iload_n C d_Law_law_331 rfl rfl ?_
  refine r_iconst (v := 2) C d_Law_law_332 rfl ?_
  refine r_iadd C d_Law_law_333 ?_
  refine r_sld E d_Law_law_334 (lw_in 2 hj hL (by decide)) rfl ?_
  refine r_i2l C d_Law_law_335 ?_
  refine r_bipush (v := 32) C d_Law_law_336 rfl ?_
  refine r_lshl C d_Law_law_338 ?_
  refine r_aload_n C d_Law_law_339 rfl rfl ?_
  refine r_iload_n C d_Law_law_340 rfl rfl ?_
  refine r_iconst (v := 3) C d_Law_law_341 rfl ?_
  refine r_iadd C d_Law_law_342 ?_
  refine r_sld E d_Law_law_343 (lw_in 3 hj hL (by decide)) rfl ?_
  refine r_i2l C d_Law_law_344 ?_
  refine r_ldc2 C d_Law_law_345 mn_Law_13 ?_
  refine r_land C d_Law_law_348 ?_
  refine r_lor C d_Law_law_349 ?_
  refine r_callV C (L0.k (fun fk h => kc_bid Y _ h _ _)) mQ_BT_bid d_Law_law_350 ml_Law_35 mi_BT_bid mv_BT_bid hk0 rfl rfl rfl rfl (Nat.le_of_ble_eq_true rfl) ⟨⟨Nat.le_of_ble_eq_true rfl, Nat.le_of_ble_eq_true rfl⟩, by show k + 1 ≤ 600000; omega, by show n + 4 ≤ 7302250; omega⟩ (fun v f1 hp => ?_)
  obtain ⟨rfl, L1⟩ := hp
  obtain ⟨fs1, hm1⟩ := L1.ma
  refine r_aload_n C d_Law_law_353 rfl rfl ?_
  refine r_aload_n C d_Law_law_354 rfl rfl ?_
  refine r_iload_n C d_Law_law_355 rfl rfl ?_
  refine r_iconst (v := 1) C d_Law_law_356 rfl ?_
  refine r_iadd C d_Law_law_357 ?_
  refine r_sld E d_Law_law_358 (lw_in 1 hj hL (by decide)) rfl ?_
  refine r_aload_n C d_Law_law_359 rfl rfl ?_
  refine r_iload_n C d_Law_law_360 rfl rfl ?_
  refine r_iconst (v := 2) C d_Law_law_361 rfl ?_
  refine r_iadd C d_Law_law_362 ?_
  refine r_sld E d_Law_law_363 (lw_in 2 hj hL (by decide)) rfl ?_
  refine r_i2l C d_Law_law_364 ?_
  refine r_bipush (v := 32) C d_Law_law_365 rfl ?_
  refine r_lshl C d_Law_law_367 ?_
  refine r_aload_n C d_Law_law_368 rfl rfl ?_
  refine r_iload_n C d_Law_law_369 rfl rfl ?_
  refine r_iconst (v := 3) C d_Law_law_370 rfl ?_
  refine r_iadd C d_Law_law_371 ?_
  refine r_sld E d_Law_law_372 (lw_in 3 hj hL (by decide)) rfl ?_
  refine r_i2l C d_Law_law_373 ?_
  refine r_ldc2 C d_Law_law_374 mn_Law_13 ?_
  refine r_land C d_Law_law_377 ?_
  refine r_lor C d_Law_law_378 ?_
  refine r_callV C (L1.m (fun fm h => mc_bid Y _ J h _ _)) mQ_Mod_bid d_Law_law_379 ml_Law_39 mi_Mod_bid mv_Mod_bid hm1 rfl rfl rfl rfl (Nat.le_of_ble_eq_true rfl) ⟨⟨Nat.le_of_ble_eq_true rfl, Nat.le_of_ble_eq_true rfl⟩, by show k + 1 + 0 ≤ 600000; omega, by show n + 4 + 0 ≤ 7302250; omega⟩ (fun v f2 hp => ?_)
  obtain ⟨rfl, L2⟩ := hp
  refine r_icmp_eq (tgt := 1217) C d_Law_law_382 rfl (fun _ => ?_) (fun hz => absurd rfl hz)
  exact r_wide (by show k + 1 + 0 ≤ k + 4; omega) (by show n + 4 + 0 ≤ n + 22; omega) (K _ _ L2)
set_option maxHeartbeats 4000000 in
set_option maxRecDepth 100000 in
theorem lc_on {Y : hY} {X : hX} {b L : Nat} {xs : Nat → Int32} (E : lCx Y X b L xs) (hL : L ≤ 4096) {j k n q1 q2 : Nat} (hj : 8 * j + 8 ≤ L) (hk : k + 4 ≤ 600000) (hn : n + 22 ≤ 7302250) {s : zS} {f : hw_F} (L0 : lSt Y q1 q2 s s f) (K : ∀ s' f', lSt Y q1 q2 s' s' f' → hG Y X S_law (k + 4) (n + 22) f' [(3, .int (nI (8 * j))), (2, .ref q2), (1, .ref q1), (0, .ref b)] [] 1217) : hG Y X S_law k n f [(3, .int (nI (8 * j))), (2, .ref q2), (1, .ref q1), (0, .ref b)] [] 387 := by
  have C := E.1
  have J := L0.J
  obtain ⟨fs0, hk0⟩ := L0.ka
  refine r_aload_n C d_Law_law_387 rfl rfl ?_
  refine r_aload_n C d_Law_law_388 rfl rfl ?_
  refine r_iload_n C d_Law_law_389 rfl rfl ?_
  refine r_iconst (v := 1) C d_Law_law_390 rfl ?_
  refine r_iadd C d_Law_law_391 ?_
  refine r_sld E d_Law_law_392 (lw_in 1 hj hL (by decide)) rfl ?_
  refine r_aload_n C d_Law_law_393 rfl rfl ?_
  refine r_iload_n C d_Law_law_394 rfl rfl ?_
  refine r_iconst (v := 2) C d_Law_law_395 rfl ?_
  refine r_iadd C d_Law_law_396 ?_
  refine r_sld E d_Law_law_397 (lw_in 2 hj hL (by decide)) rfl ?_
  refine r_callV C (L0.k (fun fk h => kc_on Y _ h _ _)) mQ_BT_on d_Law_law_398 ml_Law_40 mi_BT_on mv_BT_on hk0 rfl rfl rfl rfl (Nat.le_of_ble_eq_true rfl) ⟨⟨Nat.le_of_ble_eq_true rfl, Nat.le_of_ble_eq_true rfl⟩, by show k + 0 ≤ 600000; omega, by show n + 0 ≤ 7302250; omega⟩ (fun v f1 hp => ?_)
  obtain ⟨rfl, L1⟩ := hp
  obtain ⟨fs1, hm1⟩ := L1.ma
  refine r_aload_n C d_Law_law_401 rfl rfl ?_
  refine r_aload_n C d_Law_law_402 rfl rfl ?_
  refine r_iload_n C d_Law_law_403 rfl rfl ?_
  refine r_iconst (v := 1) C d_Law_law_404 rfl ?_
  refine r_iadd C d_Law_law_405 ?_
  refine r_sld E d_Law_law_406 (lw_in 1 hj hL (by decide)) rfl ?_
  refine r_aload_n C d_Law_law_407 rfl rfl ?_
  refine r_iload_n C d_Law_law_408 rfl rfl ?_
  refine r_iconst (v := 2) C d_Law_law_409 rfl ?_
  refine r_iadd C d_Law_law_410 ?_
  refine r_sld E d_Law_law_411 (lw_in 2 hj hL (by decide)) rfl ?_
  refine r_callV C (L1.m (fun fm h => mc_on Y _ J h _ _)) mQ_Mod_on d_Law_law_412 ml_Law_43 mi_Mod_on mv_Mod_on hm1 rfl rfl rfl rfl (Nat.le_of_ble_eq_true rfl) ⟨⟨Nat.le_of_ble_eq_true rfl, Nat.le_of_ble_eq_true rfl⟩, by show k + 0 + 0 ≤ 600000; omega, by show n + 0 + 0 ≤ 7302250; omega⟩ (fun v f2 hp => ?_)
  obtain ⟨rfl, L2⟩ := hp
  refine r_icmp_eq (tgt := 1217) C d_Law_law_415 rfl (fun _ => ?_) (fun hz => absurd rfl hz)
  exact r_wide (by show k + 0 + 0 ≤ k + 4; omega) (by show n + 0 + 0 ≤ n + 22; omega) (K _ _ L2)
set_option maxHeartbeats 4000000 in
set_option maxRecDepth 100000 in
theorem lc_seal {Y : hY} {X : hX} {b L : Nat} {xs : Nat → Int32} (E : lCx Y X b L xs) (hL : L ≤ 4096) {j k n q1 q2 : Nat} (hj : 8 * j + 8 ≤ L) (hk : k + 4 ≤ 600000) (hn : n + 22 ≤ 7302250) {s : zS} {f : hw_F} (L0 : lSt Y q1 q2 s s f) (K : ∀ s' f', lSt Y q1 q2 s' s' f' → hG Y X S_law (k + 4) (n + 22) f' [(3, .int (nI (8 * j))), (2, .ref q2), (1, .ref q1), (0, .ref b)] [] 1217) : hG Y X S_law k n f [(3, .int (nI (8 * j))), (2, .ref q2), (1, .ref q1), (0, .ref b)] [] 420 := by
  have C := E.1
  have J := L0.J
  obtain ⟨fs0, hk0⟩ := L0.ka
  refine r_aload_n C d_Law_law_420 rfl rfl ?_
  refine r_aload_n C d_Law_law_421 rfl rfl ?_
  refine r_iload_n C d_Law_law_422 rfl rfl ?_
  refine r_iconst (v := 1) C d_Law_law_423 rfl ?_
  refine r_iadd C d_Law_law_424 ?_
  refine r_sld E d_Law_law_425 (lw_in 1 hj hL (by decide)) rfl ?_
  refine r_aload_n C d_Law_law_426 rfl rfl ?_
  refine r_iload_n C d_Law_law_427 rfl rfl ?_
  refine r_iconst (v := 2) C d_Law_law_428 rfl ?_
  refine r_iadd C d_Law_law_429 ?_
  refine r_sld E d_Law_law_430 (lw_in 2 hj hL (by decide)) rfl ?_
  refine r_aload_n C d_Law_law_431 rfl rfl ?_
  refine r_iload_n C d_Law_law_432 rfl rfl ?_
  refine r_iconst (v := 3) C d_Law_law_433 rfl ?_
  refine r_iadd C d_Law_law_434 ?_
  refine r_sld E d_Law_law_435 (lw_in 3 hj hL (by decide)) rfl ?_
  refine r_callV C (L0.k (fun fk h => kc_seal Y _ h _ _ _)) mQ_BT_seal d_Law_law_436 ml_Law_44 mi_BT_seal mv_BT_seal hk0 rfl rfl rfl rfl (Nat.le_of_ble_eq_true rfl) ⟨⟨Nat.le_of_ble_eq_true rfl, Nat.le_of_ble_eq_true rfl⟩, by show k + 0 ≤ 600000; omega, by show n + 0 ≤ 7302250; omega⟩ (fun v f1 hp => ?_)
  obtain ⟨rfl, L1⟩ := hp
  obtain ⟨fs1, hm1⟩ := L1.ma
  refine r_aload_n C d_Law_law_439 rfl rfl ?_
  refine r_aload_n C d_Law_law_440 rfl rfl ?_
  refine r_iload_n C d_Law_law_441 rfl rfl ?_
  refine r_iconst (v := 1) C d_Law_law_442 rfl ?_
  refine r_iadd C d_Law_law_443 ?_
  refine r_sld E d_Law_law_444 (lw_in 1 hj hL (by decide)) rfl ?_
  refine r_aload_n C d_Law_law_445 rfl rfl ?_
  refine r_iload_n C d_Law_law_446 rfl rfl ?_
  refine r_iconst (v := 2) C d_Law_law_447 rfl ?_
  refine r_iadd C d_Law_law_448 ?_
  refine r_sld E d_Law_law_449 (lw_in 2 hj hL (by decide)) rfl ?_
  refine r_aload_n C d_Law_law_450 rfl rfl ?_
  refine r_iload_n C d_Law_law_451 rfl rfl ?_
  refine r_iconst (v := 3) C d_Law_law_452 rfl ?_
  refine r_iadd C d_Law_law_453 ?_
  refine r_sld E d_Law_law_454 (lw_in 3 hj hL (by decide)) rfl ?_
  refine r_callV C (L1.m (fun fm h => mc_seal Y _ J h _ _ _)) mQ_Mod_seal d_Law_law_455 ml_Law_48 mi_Mod_seal mv_Mod_seal hm1 rfl rfl rfl rfl (Nat.le_of_ble_eq_true rfl) ⟨⟨Nat.le_of_ble_eq_true rfl, Nat.le_of_ble_eq_true rfl⟩, by show k + 0 + 0 ≤ 600000; omega, by show n + 0 + 0 ≤ 7302250; omega⟩ (fun v f2 hp => ?_)
  obtain ⟨rfl, L2⟩ := hp
  refine r_icmp_eq (tgt := 1217) C d_Law_law_458 rfl (fun _ => ?_) (fun hz => absurd rfl hz)
  exact r_wide (by show k + 0 + 0 ≤ k + 4; omega) (by show n + 0 + 0 ≤ n + 22; omega) (K _ _ L2)
set_option maxHeartbeats 4000000 in
set_option maxRecDepth 100000 in
theorem lc_digest {Y : hY} {X : hX} {b L : Nat} {xs : Nat → Int32} (E : lCx Y X b L xs) (hL : L ≤ 4096) {j k n q1 q2 : Nat} (hj : 8 * j + 8 ≤ L) (hk : k + 4 ≤ 600000) (hn : n + 22 ≤ 7302250) {s : zS} {f : hw_F} (L0 : lSt Y q1 q2 s s f) (K : ∀ s' f', lSt Y q1 q2 s' s' f' → hG Y X S_law (k + 4) (n + 22) f' [(3, .int (nI (8 * j))), (2, .ref q2), (1, .ref q1), (0, .ref b)] [] 1217) : hG Y X S_law k n f [(3, .int (nI (8 * j))), (2, .ref q2), (1, .ref q1), (0, .ref b)] [] 463 := by
  have C := E.1
  have J := L0.J
  obtain ⟨fs0, hk0⟩ := L0.ka
  refine r_aload_n C d_Law_law_463 rfl rfl ?_
  refine r_aload_n C d_Law_law_464 rfl rfl ?_
  refine r_iload_n C d_Law_law_465 rfl rfl ?_
  refine r_iconst (v := 1) C d_Law_law_466 rfl ?_
  refine r_iadd C d_Law_law_467 ?_
  refine r_sld E d_Law_law_468 (lw_in 1 hj hL (by decide)) rfl ?_
  refine r_aload_n C d_Law_law_469 rfl rfl ?_
  refine r_iload_n C d_Law_law_470 rfl rfl ?_
  refine r_iconst (v := 2) C d_Law_law_471 rfl ?_
  refine r_iadd C d_Law_law_472 ?_
  refine r_sld E d_Law_law_473 (lw_in 2 hj hL (by decide)) rfl ?_
  refine r_i2l C d_Law_law_474 ?_
  refine r_bipush (v := 32) C d_Law_law_475 rfl ?_
  refine r_lshl C d_Law_law_477 ?_
  refine r_aload_n C d_Law_law_478 rfl rfl ?_
  refine r_iload_n C d_Law_law_479 rfl rfl ?_
  refine r_iconst (v := 3) C d_Law_law_480 rfl ?_
  refine r_iadd C d_Law_law_481 ?_
  refine r_sld E d_Law_law_482 (lw_in 3 hj hL (by decide)) rfl ?_
  refine r_i2l C d_Law_law_483 ?_
  refine r_ldc2 C d_Law_law_484 mn_Law_13 ?_
  refine r_land C d_Law_law_487 ?_
  refine r_lor C d_Law_law_488 ?_
  refine r_aload_n C d_Law_law_489 rfl rfl ?_
  refine r_iload_n C d_Law_law_490 rfl rfl ?_
  refine r_iconst (v := 4) C d_Law_law_491 rfl ?_
  refine r_iadd C d_Law_law_492 ?_
  refine r_sld E d_Law_law_493 (lw_in 4 hj hL (by decide)) rfl ?_
  refine r_callV C (L0.k (fun fk h => kc_digest Y _ h _ _ _)) mQ_BT_digest d_Law_law_494 ml_Law_49 mi_BT_digest mv_BT_digest hk0 rfl rfl rfl rfl (Nat.le_of_ble_eq_true rfl) ⟨⟨Nat.le_of_ble_eq_true rfl, Nat.le_of_ble_eq_true rfl⟩, by show k + 0 ≤ 600000; omega, by show n + 0 ≤ 7302250; omega⟩ (fun v f1 hp => ?_)
  obtain ⟨rfl, L1⟩ := hp
  obtain ⟨fs1, hm1⟩ := L1.ma
  refine r_aload_n C d_Law_law_497 rfl rfl ?_
  refine r_aload_n C d_Law_law_498 rfl rfl ?_
  refine r_iload_n C d_Law_law_499 rfl rfl ?_
  refine r_iconst (v := 1) C d_Law_law_500 rfl ?_
  refine r_iadd C d_Law_law_501 ?_
  refine r_sld E d_Law_law_502 (lw_in 1 hj hL (by decide)) rfl ?_
  refine r_aload_n C d_Law_law_503 rfl rfl ?_
  refine r_iload_n C d_Law_law_504 rfl rfl ?_
  refine r_iconst (v := 2) C d_Law_law_505 rfl ?_
  refine r_iadd C d_Law_law_506 ?_
  refine r_sld E d_Law_law_507 (lw_in 2 hj hL (by decide)) rfl ?_
  refine r_i2l C d_Law_law_508 ?_
  refine r_bipush (v := 32) C d_Law_law_509 rfl ?_
  refine r_lshl C d_Law_law_511 ?_
  refine r_aload_n C d_Law_law_512 rfl rfl ?_
  refine r_iload_n C d_Law_law_513 rfl rfl ?_
  refine r_iconst (v := 3) C d_Law_law_514 rfl ?_
  refine r_iadd C d_Law_law_515 ?_
  refine r_sld E d_Law_law_516 (lw_in 3 hj hL (by decide)) rfl ?_
  refine r_i2l C d_Law_law_517 ?_
  refine r_ldc2 C d_Law_law_518 mn_Law_13 ?_
  refine r_land C d_Law_law_521 ?_
  refine r_lor C d_Law_law_522 ?_
  refine r_aload_n C d_Law_law_523 rfl rfl ?_
  refine r_iload_n C d_Law_law_524 rfl rfl ?_
  refine r_iconst (v := 4) C d_Law_law_525 rfl ?_
  refine r_iadd C d_Law_law_526 ?_
  refine r_sld E d_Law_law_527 (lw_in 4 hj hL (by decide)) rfl ?_
  refine r_callV C (L1.m (fun fm h => mc_digest Y _ J h _ _ _)) mQ_Mod_digest d_Law_law_528 ml_Law_53 mi_Mod_digest mv_Mod_digest hm1 rfl rfl rfl rfl (Nat.le_of_ble_eq_true rfl) ⟨⟨Nat.le_of_ble_eq_true rfl, Nat.le_of_ble_eq_true rfl⟩, by show k + 0 + 0 ≤ 600000; omega, by show n + 0 + 0 ≤ 7302250; omega⟩ (fun v f2 hp => ?_)
  obtain ⟨rfl, L2⟩ := hp
  refine r_icmp_eq (tgt := 1217) C d_Law_law_531 rfl (fun _ => ?_) (fun hz => absurd rfl hz)
  exact r_wide (by show k + 0 + 0 ≤ k + 4; omega) (by show n + 0 + 0 ≤ n + 22; omega) (K _ _ L2)
set_option maxHeartbeats 4000000 in
set_option maxRecDepth 100000 in
theorem lc_open {Y : hY} {X : hX} {b L : Nat} {xs : Nat → Int32} (E : lCx Y X b L xs) (hL : L ≤ 4096) {j k n q1 q2 : Nat} (hj : 8 * j + 8 ≤ L) (hk : k + 4 ≤ 600000) (hn : n + 22 ≤ 7302250) {s : zS} {f : hw_F} (L0 : lSt Y q1 q2 s s f) (K : ∀ s' f', lSt Y q1 q2 s' s' f' → hG Y X S_law (k + 4) (n + 22) f' [(3, .int (nI (8 * j))), (2, .ref q2), (1, .ref q1), (0, .ref b)] [] 1217) : hG Y X S_law k n f [(3, .int (nI (8 * j))), (2, .ref q2), (1, .ref q1), (0, .ref b)] [] 536 := by
  have C := E.1
  have J := L0.J
  obtain ⟨fs0, hk0⟩ := L0.ka
  refine r_aload_n C d_Law_law_536 rfl rfl ?_
  refine r_aload_n C d_Law_law_537 rfl rfl ?_
  refine r_iload_n C d_Law_law_538 rfl rfl ?_
  refine r_iconst (v := 1) C d_Law_law_539 rfl ?_
  refine r_iadd C d_Law_law_540 ?_
  refine r_sld E d_Law_law_541 (lw_in 1 hj hL (by decide)) rfl ?_
  refine r_aload_n C d_Law_law_542 rfl rfl ?_
  refine r_iload_n C d_Law_law_543 rfl rfl ?_
  refine r_iconst (v := 2) C d_Law_law_544 rfl ?_
  refine r_iadd C d_Law_law_545 ?_
  refine r_sld E d_Law_law_546 (lw_in 2 hj hL (by decide)) rfl ?_
  refine r_i2l C d_Law_law_547 ?_
  refine r_bipush (v := 32) C d_Law_law_548 rfl ?_
  refine r_lshl C d_Law_law_550 ?_
  refine r_aload_n C d_Law_law_551 rfl rfl ?_
  refine r_iload_n C d_Law_law_552 rfl rfl ?_
  refine r_iconst (v := 3) C d_Law_law_553 rfl ?_
  refine r_iadd C d_Law_law_554 ?_
  refine r_sld E d_Law_law_555 (lw_in 3 hj hL (by decide)) rfl ?_
  refine r_i2l C d_Law_law_556 ?_
  refine r_ldc2 C d_Law_law_557 mn_Law_13 ?_
  refine r_land C d_Law_law_560 ?_
  refine r_lor C d_Law_law_561 ?_
  refine r_callV C (L0.k (fun fk h => kc_open Y _ h _ _)) mQ_BT_open d_Law_law_562 ml_Law_54 mi_BT_open mv_BT_open hk0 rfl rfl rfl rfl (Nat.le_of_ble_eq_true rfl) ⟨⟨Nat.le_of_ble_eq_true rfl, Nat.le_of_ble_eq_true rfl⟩, by show k + 0 ≤ 600000; omega, by show n + 0 ≤ 7302250; omega⟩ (fun v f1 hp => ?_)
  obtain ⟨rfl, L1⟩ := hp
  obtain ⟨fs1, hm1⟩ := L1.ma
  refine r_aload_n C d_Law_law_565 rfl rfl ?_
  refine r_aload_n C d_Law_law_566 rfl rfl ?_
  refine r_iload_n C d_Law_law_567 rfl rfl ?_
  refine r_iconst (v := 1) C d_Law_law_568 rfl ?_
  refine r_iadd C d_Law_law_569 ?_
  refine r_sld E d_Law_law_570 (lw_in 1 hj hL (by decide)) rfl ?_
  refine r_aload_n C d_Law_law_571 rfl rfl ?_
  refine r_iload_n C d_Law_law_572 rfl rfl ?_
  refine r_iconst (v := 2) C d_Law_law_573 rfl ?_
  refine r_iadd C d_Law_law_574 ?_
  refine r_sld E d_Law_law_575 (lw_in 2 hj hL (by decide)) rfl ?_
  refine r_i2l C d_Law_law_576 ?_
  refine r_bipush (v := 32) C d_Law_law_577 rfl ?_
  refine r_lshl C d_Law_law_579 ?_
  refine r_aload_n C d_Law_law_580 rfl rfl ?_
  refine r_iload_n C d_Law_law_581 rfl rfl ?_
  refine r_iconst (v := 3) C d_Law_law_582 rfl ?_
  refine r_iadd C d_Law_law_583 ?_
  refine r_sld E d_Law_law_584 (lw_in 3 hj hL (by decide)) rfl ?_
  refine r_i2l C d_Law_law_585 ?_
  refine r_ldc2 C d_Law_law_586 mn_Law_13 ?_
  refine r_land C d_Law_law_589 ?_
  refine r_lor C d_Law_law_590 ?_
  refine r_callV C (L1.m (fun fm h => mc_open Y _ J h _ _)) mQ_Mod_open d_Law_law_591 ml_Law_57 mi_Mod_open mv_Mod_open hm1 rfl rfl rfl rfl (Nat.le_of_ble_eq_true rfl) ⟨⟨Nat.le_of_ble_eq_true rfl, Nat.le_of_ble_eq_true rfl⟩, by show k + 0 + 0 ≤ 600000; omega, by show n + 0 + 0 ≤ 7302250; omega⟩ (fun v f2 hp => ?_)
  obtain ⟨rfl, L2⟩ := hp
  refine r_icmp_eq (tgt := 1217) C d_Law_law_594 rfl (fun _ => ?_) (fun hz => absurd rfl hz)
  exact r_wide (by show k + 0 + 0 ≤ k + 4; omega) (by show n + 0 + 0 ≤ n + 22; omega) (K _ _ L2)
set_option maxHeartbeats 4000000 in
set_option maxRecDepth 100000 in
theorem lc_run {Y : hY} {X : hX} {b L : Nat} {xs : Nat → Int32} (E : lCx Y X b L xs) (hL : L ≤ 4096) {j k n q1 q2 : Nat} (hj : 8 * j + 8 ≤ L) (hk : k + 4 ≤ 600000) (hn : n + 22 ≤ 7302250) {s : zS} {f : hw_F} (L0 : lSt Y q1 q2 s s f) (K : ∀ s' f', lSt Y q1 q2 s' s' f' → hG Y X S_law (k + 4) (n + 22) f' [(3, .int (nI (8 * j))), (2, .ref q2), (1, .ref q1), (0, .ref b)] [] 1217) : hG Y X S_law k n f [(3, .int (nI (8 * j))), (2, .ref q2), (1, .ref q1), (0, .ref b)] [] 599 := by
  have C := E.1
  have J := L0.J
  obtain ⟨fs0, hk0⟩ := L0.ka
  refine r_aload_n C d_Law_law_599 rfl rfl ?_
  refine r_aload_n C d_Law_law_600 rfl rfl ?_
  refine r_iload_n C d_Law_law_601 rfl rfl ?_
  refine r_iconst (v := 1) C d_Law_law_602 rfl ?_
  refine r_iadd C d_Law_law_603 ?_
  refine r_sld E d_Law_law_604 (lw_in 1 hj hL (by decide)) rfl ?_
  refine r_i2l C d_Law_law_605 ?_
  refine r_bipush (v := 32) C d_Law_law_606 rfl ?_
  refine r_lshl C d_Law_law_608 ?_
  refine r_aload_n C d_Law_law_609 rfl rfl ?_
  refine r_iload_n C d_Law_law_610 rfl rfl ?_
  refine r_iconst (v := 2) C d_Law_law_611 rfl ?_
  refine r_iadd C d_Law_law_612 ?_
  refine r_sld E d_Law_law_613 (lw_in 2 hj hL (by decide)) rfl ?_
  refine r_i2l C d_Law_law_614 ?_
  refine r_ldc2 C d_Law_law_615 mn_Law_13 ?_
  refine r_land C d_Law_law_618 ?_
  refine r_lor C d_Law_law_619 ?_
  refine r_callV C (L0.k (fun fk h => kc_run Y _ h _)) mQ_BT_run d_Law_law_620 ml_Law_58 mi_BT_run mv_BT_run hk0 rfl rfl rfl rfl (Nat.le_of_ble_eq_true rfl) ⟨⟨Nat.le_of_ble_eq_true rfl, Nat.le_of_ble_eq_true rfl⟩, by show k + 0 ≤ 600000; omega, by show n + 0 ≤ 7302250; omega⟩ (fun v f1 hp => ?_)
  obtain ⟨rfl, L1⟩ := hp
  obtain ⟨fs1, hm1⟩ := L1.ma
  refine r_aload_n C d_Law_law_623 rfl rfl ?_
  refine r_aload_n C d_Law_law_624 rfl rfl ?_
  refine r_iload_n C d_Law_law_625 rfl rfl ?_
  refine r_iconst (v := 1) C d_Law_law_626 rfl ?_
  refine r_iadd C d_Law_law_627 ?_
  refine r_sld E d_Law_law_628 (lw_in 1 hj hL (by decide)) rfl ?_
  refine r_i2l C d_Law_law_629 ?_
  refine r_bipush (v := 32) C d_Law_law_630 rfl ?_
  refine r_lshl C d_Law_law_632 ?_
  refine r_aload_n C d_Law_law_633 rfl rfl ?_
  refine r_iload_n C d_Law_law_634 rfl rfl ?_
  refine r_iconst (v := 2) C d_Law_law_635 rfl ?_
  refine r_iadd C d_Law_law_636 ?_
  refine r_sld E d_Law_law_637 (lw_in 2 hj hL (by decide)) rfl ?_
  refine r_i2l C d_Law_law_638 ?_
  refine r_ldc2 C d_Law_law_639 mn_Law_13 ?_
  refine r_land C d_Law_law_642 ?_
  refine r_lor C d_Law_law_643 ?_
  refine r_callV C (L1.m (fun fm h => mc_run Y _ J h _)) mQ_Mod_run d_Law_law_644 ml_Law_61 mi_Mod_run mv_Mod_run hm1 rfl rfl rfl rfl (Nat.le_of_ble_eq_true rfl) ⟨⟨Nat.le_of_ble_eq_true rfl, Nat.le_of_ble_eq_true rfl⟩, by show k + 0 + 0 ≤ 600000; omega, by show n + 0 + 0 ≤ 7302250; omega⟩ (fun v f2 hp => ?_)
  obtain ⟨rfl, L2⟩ := hp
  refine r_icmp_eq (tgt := 1217) C d_Law_law_647 rfl (fun _ => ?_) (fun hz => absurd rfl hz)
  exact r_wide (by show k + 0 + 0 ≤ k + 4; omega) (by show n + 0 + 0 ≤ n + 22; omega) (K _ _ L2)
set_option maxHeartbeats 4000000 in
set_option maxRecDepth 100000 in
theorem lc_wins {Y : hY} {X : hX} {b L : Nat} {xs : Nat → Int32} (E : lCx Y X b L xs) (hL : L ≤ 4096) {j k n q1 q2 : Nat} (hj : 8 * j + 8 ≤ L) (hk : k + 4 ≤ 600000) (hn : n + 22 ≤ 7302250) {s : zS} {f : hw_F} (L0 : lSt Y q1 q2 s s f) (K : ∀ s' f', lSt Y q1 q2 s' s' f' → hG Y X S_law (k + 4) (n + 22) f' [(3, .int (nI (8 * j))), (2, .ref q2), (1, .ref q1), (0, .ref b)] [] 1217) : hG Y X S_law k n f [(3, .int (nI (8 * j))), (2, .ref q2), (1, .ref q1), (0, .ref b)] [] 652 := by
  have C := E.1
  have J := L0.J
  obtain ⟨fs0, hk0⟩ := L0.ka
  refine r_aload_n C d_Law_law_652 rfl rfl ?_
  refine r_aload_n C d_Law_law_653 rfl rfl ?_
  refine r_iload_n C d_Law_law_654 rfl rfl ?_
  refine r_iconst (v := 1) C d_Law_law_655 rfl ?_
  refine r_iadd C d_Law_law_656 ?_
  refine r_sld E d_Law_law_657 (lw_in 1 hj hL (by decide)) rfl ?_
  refine r_callV C (L0.k (fun fk h => kc_wins Y _ h _)) mQ_BT_wins d_Law_law_658 ml_Law_62 mi_BT_wins mv_BT_wins hk0 rfl rfl rfl rfl (Nat.le_of_ble_eq_true rfl) ⟨⟨Nat.le_of_ble_eq_true rfl, Nat.le_of_ble_eq_true rfl⟩, by show k + 0 ≤ 600000; omega, by show n + 0 ≤ 7302250; omega⟩ (fun v f1 hp => ?_)
  obtain ⟨rfl, L1⟩ := hp
  obtain ⟨fs1, hm1⟩ := L1.ma
  refine r_aload_n C d_Law_law_661 rfl rfl ?_
  refine r_aload_n C d_Law_law_662 rfl rfl ?_
  refine r_iload_n C d_Law_law_663 rfl rfl ?_
  refine r_iconst (v := 1) C d_Law_law_664 rfl ?_
  refine r_iadd C d_Law_law_665 ?_
  refine r_sld E d_Law_law_666 (lw_in 1 hj hL (by decide)) rfl ?_
  refine r_callV C (L1.m (fun fm h => mc_wins Y _ J h _)) mQ_Mod_wins d_Law_law_667 ml_Law_66 mi_Mod_wins mv_Mod_wins hm1 rfl rfl rfl rfl (Nat.le_of_ble_eq_true rfl) ⟨⟨Nat.le_of_ble_eq_true rfl, Nat.le_of_ble_eq_true rfl⟩, by show k + 0 + 0 ≤ 600000; omega, by show n + 0 + 0 ≤ 7302250; omega⟩ (fun v f2 hp => ?_)
  obtain ⟨rfl, L2⟩ := hp
  refine r_icmp_eq (tgt := 1217) C d_Law_law_670 rfl (fun _ => ?_) (fun hz => absurd rfl hz)
  exact r_wide (by show k + 0 + 0 ≤ k + 4; omega) (by show n + 0 + 0 ≤ n + 22; omega) (K _ _ L2)
set_option maxHeartbeats 4000000 in
set_option maxRecDepth 100000 in
theorem lc_sum {Y : hY} {X : hX} {b L : Nat} {xs : Nat → Int32} (E : lCx Y X b L xs) (hL : L ≤ 4096) {j k n q1 q2 : Nat} (hj : 8 * j + 8 ≤ L) (hk : k + 4 ≤ 600000) (hn : n + 22 ≤ 7302250) {s : zS} {f : hw_F} (L0 : lSt Y q1 q2 s s f) (K : ∀ s' f', lSt Y q1 q2 s' s' f' → hG Y X S_law (k + 4) (n + 22) f' [(3, .int (nI (8 * j))), (2, .ref q2), (1, .ref q1), (0, .ref b)] [] 1217) : hG Y X S_law k n f [(3, .int (nI (8 * j))), (2, .ref q2), (1, .ref q1), (0, .ref b)] [] 675 := by
  have C := E.1
  have J := L0.J
  obtain ⟨fs0, hk0⟩ := L0.ka
  refine r_aload_n C d_Law_law_675 rfl rfl ?_
  refine r_callV C (L0.k (fun fk h => kc_sum Y _ h )) mQ_BT_sum d_Law_law_676 ml_Law_67 mi_BT_sum mv_BT_sum hk0 rfl rfl rfl rfl (Nat.le_of_ble_eq_true rfl) ⟨⟨Nat.le_of_ble_eq_true rfl, Nat.le_of_ble_eq_true rfl⟩, by show k + 0 ≤ 600000; omega, by show n + 0 ≤ 7302250; omega⟩ (fun v f1 hp => ?_)
  obtain ⟨rfl, L1⟩ := hp
  obtain ⟨fs1, hm1⟩ := L1.ma
  refine r_aload_n C d_Law_law_679 rfl rfl ?_
  refine r_callV C (L1.m (fun fm h => mc_sum Y _ J h )) mQ_Mod_sum d_Law_law_680 ml_Law_71 mi_Mod_sum mv_Mod_sum hm1 rfl rfl rfl rfl (Nat.le_of_ble_eq_true rfl) ⟨⟨Nat.le_of_ble_eq_true rfl, Nat.le_of_ble_eq_true rfl⟩, by show k + 0 + 0 ≤ 600000; omega, by show n + 0 + 0 ≤ 7302250; omega⟩ (fun v f2 hp => ?_)
  obtain ⟨rfl, L2⟩ := hp
  refine r_lcmp C d_Law_law_683 ?_
  refine r_if_eq (tgt := 1217) C d_Law_law_684 rfl (fun _ => ?_) (fun hz => absurd ((lg_cmp_eq _ _).mpr rfl) hz)
  exact r_wide (by show k + 0 + 0 ≤ k + 4; omega) (by show n + 0 + 0 ≤ n + 22; omega) (K _ _ L2)
set_option maxHeartbeats 4000000 in
set_option maxRecDepth 100000 in
theorem lc_bound {Y : hY} {X : hX} {b L : Nat} {xs : Nat → Int32} (E : lCx Y X b L xs) (hL : L ≤ 4096) {j k n q1 q2 : Nat} (hj : 8 * j + 8 ≤ L) (hk : k + 4 ≤ 600000) (hn : n + 22 ≤ 7302250) {s : zS} {f : hw_F} (L0 : lSt Y q1 q2 s s f) (K : ∀ s' f', lSt Y q1 q2 s' s' f' → hG Y X S_law (k + 4) (n + 22) f' [(3, .int (nI (8 * j))), (2, .ref q2), (1, .ref q1), (0, .ref b)] [] 1217) : hG Y X S_law k n f [(3, .int (nI (8 * j))), (2, .ref q2), (1, .ref q1), (0, .ref b)] [] 689 := by
  have C := E.1
  have J := L0.J
  obtain ⟨fs0, hk0⟩ := L0.ka
  refine r_aload_n C d_Law_law_689 rfl rfl ?_
  refine r_callV C (L0.k (fun fk h => kc_bound Y _ h )) mQ_BT_bound d_Law_law_690 ml_Law_72 mi_BT_bound mv_BT_bound hk0 rfl rfl rfl rfl (Nat.le_of_ble_eq_true rfl) ⟨⟨Nat.le_of_ble_eq_true rfl, Nat.le_of_ble_eq_true rfl⟩, by show k + 0 ≤ 600000; omega, by show n + 0 ≤ 7302250; omega⟩ (fun v f1 hp => ?_)
  obtain ⟨rfl, L1⟩ := hp
  obtain ⟨fs1, hm1⟩ := L1.ma
  refine r_aload_n C d_Law_law_693 rfl rfl ?_
  refine r_callV C (L1.m (fun fm h => mc_bound Y _ J h )) mQ_Mod_bound d_Law_law_694 ml_Law_75 mi_Mod_bound mv_Mod_bound hm1 rfl rfl rfl rfl (Nat.le_of_ble_eq_true rfl) ⟨⟨Nat.le_of_ble_eq_true rfl, Nat.le_of_ble_eq_true rfl⟩, by show k + 0 + 0 ≤ 600000; omega, by show n + 0 + 0 ≤ 7302250; omega⟩ (fun v f2 hp => ?_)
  obtain ⟨rfl, L2⟩ := hp
  refine r_lcmp C d_Law_law_697 ?_
  refine r_if_eq (tgt := 1217) C d_Law_law_698 rfl (fun _ => ?_) (fun hz => absurd ((lg_cmp_eq _ _).mpr rfl) hz)
  exact r_wide (by show k + 0 + 0 ≤ k + 4; omega) (by show n + 0 + 0 ≤ n + 22; omega) (K _ _ L2)
set_option maxHeartbeats 4000000 in
set_option maxRecDepth 100000 in
theorem lc_proved {Y : hY} {X : hX} {b L : Nat} {xs : Nat → Int32} (E : lCx Y X b L xs) (hL : L ≤ 4096) {j k n q1 q2 : Nat} (hj : 8 * j + 8 ≤ L) (hk : k + 4 ≤ 600000) (hn : n + 22 ≤ 7302250) {s : zS} {f : hw_F} (L0 : lSt Y q1 q2 s s f) (K : ∀ s' f', lSt Y q1 q2 s' s' f' → hG Y X S_law (k + 4) (n + 22) f' [(3, .int (nI (8 * j))), (2, .ref q2), (1, .ref q1), (0, .ref b)] [] 1217) : hG Y X S_law k n f [(3, .int (nI (8 * j))), (2, .ref q2), (1, .ref q1), (0, .ref b)] [] 703 := by
  have C := E.1
  have J := L0.J
  obtain ⟨fs0, hk0⟩ := L0.ka
  refine r_aload_n C d_Law_law_703 rfl rfl ?_
  refine r_callV C (L0.k (fun fk h => kc_proved Y _ h )) mQ_BT_proved d_Law_law_704 ml_Law_76 mi_BT_proved mv_BT_proved hk0 rfl rfl rfl rfl (Nat.le_of_ble_eq_true rfl) ⟨⟨Nat.le_of_ble_eq_true rfl, Nat.le_of_ble_eq_true rfl⟩, by show k + 0 ≤ 600000; omega, by show n + 0 ≤ 7302250; omega⟩ (fun v f1 hp => ?_)
  obtain ⟨rfl, L1⟩ := hp
  obtain ⟨fs1, hm1⟩ := L1.ma
  refine r_aload_n C d_Law_law_707 rfl rfl ?_
  refine r_callV C (L1.m (fun fm h => mc_proved Y _ J h )) mQ_Mod_proved d_Law_law_708 ml_Law_80 mi_Mod_proved mv_Mod_proved hm1 rfl rfl rfl rfl (Nat.le_of_ble_eq_true rfl) ⟨⟨Nat.le_of_ble_eq_true rfl, Nat.le_of_ble_eq_true rfl⟩, by show k + 0 + 0 ≤ 600000; omega, by show n + 0 + 0 ≤ 7302250; omega⟩ (fun v f2 hp => ?_)
  obtain ⟨rfl, L2⟩ := hp
  refine r_icmp_eq (tgt := 1217) C d_Law_law_711 rfl (fun _ => ?_) (fun hz => absurd rfl hz)
  exact r_wide (by show k + 0 + 0 ≤ k + 4; omega) (by show n + 0 + 0 ≤ n + 22; omega) (K _ _ L2)
set_option maxHeartbeats 4000000 in
set_option maxRecDepth 100000 in
theorem lc_second {Y : hY} {X : hX} {b L : Nat} {xs : Nat → Int32} (E : lCx Y X b L xs) (hL : L ≤ 4096) {j k n q1 q2 : Nat} (hj : 8 * j + 8 ≤ L) (hk : k + 4 ≤ 600000) (hn : n + 22 ≤ 7302250) {s : zS} {f : hw_F} (L0 : lSt Y q1 q2 s s f) (K : ∀ s' f', lSt Y q1 q2 s' s' f' → hG Y X S_law (k + 4) (n + 22) f' [(3, .int (nI (8 * j))), (2, .ref q2), (1, .ref q1), (0, .ref b)] [] 1217) : hG Y X S_law k n f [(3, .int (nI (8 * j))), (2, .ref q2), (1, .ref q1), (0, .ref b)] [] 716 := by
  have C := E.1
  have J := L0.J
  obtain ⟨fs0, hk0⟩ := L0.ka
  refine r_aload_n C d_Law_law_716 rfl rfl ?_
  refine r_aload_n C d_Law_law_717 rfl rfl ?_
  refine r_iload_n C d_Law_law_718 rfl rfl ?_
  refine r_iconst (v := 1) C d_Law_law_719 rfl ?_
  refine r_iadd C d_Law_law_720 ?_
  refine r_sld E d_Law_law_721 (lw_in 1 hj hL (by decide)) rfl ?_
  refine r_callV C (L0.k (fun fk h => kc_second Y _ h _)) mQ_BT_second d_Law_law_722 ml_Law_81 mi_BT_second mv_BT_second hk0 rfl rfl rfl rfl (Nat.le_of_ble_eq_true rfl) ⟨⟨Nat.le_of_ble_eq_true rfl, Nat.le_of_ble_eq_true rfl⟩, by show k + 0 ≤ 600000; omega, by show n + 0 ≤ 7302250; omega⟩ (fun v f1 hp => ?_)
  obtain ⟨rfl, L1⟩ := hp
  obtain ⟨fs1, hm1⟩ := L1.ma
  refine r_aload_n C d_Law_law_725 rfl rfl ?_
  refine r_aload_n C d_Law_law_726 rfl rfl ?_
  refine r_iload_n C d_Law_law_727 rfl rfl ?_
  refine r_iconst (v := 1) C d_Law_law_728 rfl ?_
  refine r_iadd C d_Law_law_729 ?_
  refine r_sld E d_Law_law_730 (lw_in 1 hj hL (by decide)) rfl ?_
  refine r_callV C (L1.m (fun fm h => mc_second Y _ J h _)) mQ_Mod_second d_Law_law_731 ml_Law_85 mi_Mod_second mv_Mod_second hm1 rfl rfl rfl rfl (Nat.le_of_ble_eq_true rfl) ⟨⟨Nat.le_of_ble_eq_true rfl, Nat.le_of_ble_eq_true rfl⟩, by show k + 0 + 0 ≤ 600000; omega, by show n + 0 + 0 ≤ 7302250; omega⟩ (fun v f2 hp => ?_)
  obtain ⟨rfl, L2⟩ := hp
  refine r_lcmp C d_Law_law_734 ?_
  refine r_if_eq (tgt := 1217) C d_Law_law_735 rfl (fun _ => ?_) (fun hz => absurd ((lg_cmp_eq _ _).mpr rfl) hz)
  exact r_wide (by show k + 0 + 0 ≤ k + 4; omega) (by show n + 0 + 0 ≤ n + 22; omega) (K _ _ L2)
set_option maxHeartbeats 4000000 in
set_option maxRecDepth 100000 in
theorem lc_tie {Y : hY} {X : hX} {b L : Nat} {xs : Nat → Int32} (E : lCx Y X b L xs) (hL : L ≤ 4096) {j k n q1 q2 : Nat} (hj : 8 * j + 8 ≤ L) (hk : k + 4 ≤ 600000) (hn : n + 22 ≤ 7302250) {s : zS} {f : hw_F} (L0 : lSt Y q1 q2 s s f) (K : ∀ s' f', lSt Y q1 q2 s' s' f' → hG Y X S_law (k + 4) (n + 22) f' [(3, .int (nI (8 * j))), (2, .ref q2), (1, .ref q1), (0, .ref b)] [] 1217) : hG Y X S_law k n f [(3, .int (nI (8 * j))), (2, .ref q2), (1, .ref q1), (0, .ref b)] [] 740 := by
  have C := E.1
  have J := L0.J
  obtain ⟨fs0, hk0⟩ := L0.ka
  refine r_aload_n C d_Law_law_740 rfl rfl ?_
  refine r_aload_n C d_Law_law_741 rfl rfl ?_
  refine r_iload_n C d_Law_law_742 rfl rfl ?_
  refine r_iconst (v := 1) C d_Law_law_743 rfl ?_
  refine r_iadd C d_Law_law_744 ?_
  refine r_sld E d_Law_law_745 (lw_in 1 hj hL (by decide)) rfl ?_
  refine r_aload_n C d_Law_law_746 rfl rfl ?_
  refine r_iload_n C d_Law_law_747 rfl rfl ?_
  refine r_iconst (v := 2) C d_Law_law_748 rfl ?_
  refine r_iadd C d_Law_law_749 ?_
  refine r_sld E d_Law_law_750 (lw_in 2 hj hL (by decide)) rfl ?_
  refine r_callV C (L0.k (fun fk h => kc_tie Y _ h _ _)) mQ_BT_tie d_Law_law_751 ml_Law_86 mi_BT_tie mv_BT_tie hk0 rfl rfl rfl rfl (Nat.le_of_ble_eq_true rfl) ⟨⟨Nat.le_of_ble_eq_true rfl, Nat.le_of_ble_eq_true rfl⟩, by show k + 0 ≤ 600000; omega, by show n + 0 ≤ 7302250; omega⟩ (fun v f1 hp => ?_)
  obtain ⟨rfl, L1⟩ := hp
  obtain ⟨fs1, hm1⟩ := L1.ma
  refine r_aload_n C d_Law_law_754 rfl rfl ?_
  refine r_aload_n C d_Law_law_755 rfl rfl ?_
  refine r_iload_n C d_Law_law_756 rfl rfl ?_
  refine r_iconst (v := 1) C d_Law_law_757 rfl ?_
  refine r_iadd C d_Law_law_758 ?_
  refine r_sld E d_Law_law_759 (lw_in 1 hj hL (by decide)) rfl ?_
  refine r_aload_n C d_Law_law_760 rfl rfl ?_
  refine r_iload_n C d_Law_law_761 rfl rfl ?_
  refine r_iconst (v := 2) C d_Law_law_762 rfl ?_
  refine r_iadd C d_Law_law_763 ?_
  refine r_sld E d_Law_law_764 (lw_in 2 hj hL (by decide)) rfl ?_
  refine r_callV C (L1.m (fun fm h => mc_tie Y _ J h _ _)) mQ_Mod_tie d_Law_law_765 ml_Law_90 mi_Mod_tie mv_Mod_tie hm1 rfl rfl rfl rfl (Nat.le_of_ble_eq_true rfl) ⟨⟨Nat.le_of_ble_eq_true rfl, Nat.le_of_ble_eq_true rfl⟩, by show k + 0 + 0 ≤ 600000; omega, by show n + 0 + 0 ≤ 7302250; omega⟩ (fun v f2 hp => ?_)
  obtain ⟨rfl, L2⟩ := hp
  refine r_icmp_eq (tgt := 1217) C d_Law_law_768 rfl (fun _ => ?_) (fun hz => absurd rfl hz)
  exact r_wide (by show k + 0 + 0 ≤ k + 4; omega) (by show n + 0 + 0 ≤ n + 22; omega) (K _ _ L2)
set_option maxHeartbeats 4000000 in
set_option maxRecDepth 100000 in
theorem lc_step {Y : hY} {X : hX} {b L : Nat} {xs : Nat → Int32} (E : lCx Y X b L xs) (hL : L ≤ 4096) {j k n q1 q2 : Nat} (hj : 8 * j + 8 ≤ L) (hk : k + 4 ≤ 600000) (hn : n + 22 ≤ 7302250) {s : zS} {f : hw_F} (L0 : lSt Y q1 q2 s s f) (K : ∀ s' f', lSt Y q1 q2 s' s' f' → hG Y X S_law (k + 4) (n + 22) f' [(3, .int (nI (8 * j))), (2, .ref q2), (1, .ref q1), (0, .ref b)] [] 1217) : hG Y X S_law k n f [(3, .int (nI (8 * j))), (2, .ref q2), (1, .ref q1), (0, .ref b)] [] 773 := by
  have C := E.1
  have J := L0.J
  obtain ⟨fs0, hk0⟩ := L0.ka
  refine r_aload_n C d_Law_law_773 rfl rfl ?_
  refine r_aload_n C d_Law_law_774 rfl rfl ?_
  refine r_iload_n C d_Law_law_775 rfl rfl ?_
  refine r_iconst (v := 1) C d_Law_law_776 rfl ?_
  refine r_iadd C d_Law_law_777 ?_
  refine r_sld E d_Law_law_778 (lw_in 1 hj hL (by decide)) rfl ?_
  refine r_aload_n C d_Law_law_779 rfl rfl ?_
  refine r_iload_n C d_Law_law_780 rfl rfl ?_
  refine r_iconst (v := 2) C d_Law_law_781 rfl ?_
  refine r_iadd C d_Law_law_782 ?_
  refine r_sld E d_Law_law_783 (lw_in 2 hj hL (by decide)) rfl ?_
  refine r_i2l C d_Law_law_784 ?_
  refine r_bipush (v := 32) C d_Law_law_785 rfl ?_
  refine r_lshl C d_Law_law_787 ?_
  refine r_aload_n C d_Law_law_788 rfl rfl ?_
  refine r_iload_n C d_Law_law_789 rfl rfl ?_
  refine r_iconst (v := 3) C d_Law_law_790 rfl ?_
  refine r_iadd C d_Law_law_791 ?_
  refine r_sld E d_Law_law_792 (lw_in 3 hj hL (by decide)) rfl ?_
  refine r_i2l C d_Law_law_793 ?_
  refine r_ldc2 C d_Law_law_794 mn_Law_13 ?_
  refine r_land C d_Law_law_797 ?_
  refine r_lor C d_Law_law_798 ?_
  refine r_aload_n C d_Law_law_799 rfl rfl ?_
  refine r_iload_n C d_Law_law_800 rfl rfl ?_
  refine r_iconst (v := 4) C d_Law_law_801 rfl ?_
  refine r_iadd C d_Law_law_802 ?_
  refine r_sld E d_Law_law_803 (lw_in 4 hj hL (by decide)) rfl ?_
  refine r_i2l C d_Law_law_804 ?_
  refine r_bipush (v := 32) C d_Law_law_805 rfl ?_
  refine r_lshl C d_Law_law_807 ?_
  refine r_aload_n C d_Law_law_808 rfl rfl ?_
  refine r_iload_n C d_Law_law_809 rfl rfl ?_
  refine r_iconst (v := 5) C d_Law_law_810 rfl ?_
  refine r_iadd C d_Law_law_811 ?_
  refine r_sld E d_Law_law_812 (lw_in 5 hj hL (by decide)) rfl ?_
  refine r_i2l C d_Law_law_813 ?_
  refine r_ldc2 C d_Law_law_814 mn_Law_13 ?_
  refine r_land C d_Law_law_817 ?_
  refine r_lor C d_Law_law_818 ?_
  refine r_aload_n C d_Law_law_819 rfl rfl ?_
  refine r_iload_n C d_Law_law_820 rfl rfl ?_
  refine r_bipush (v := 6) C d_Law_law_821 rfl ?_
  refine r_iadd C d_Law_law_823 ?_
  refine r_sld E d_Law_law_824 (lw_in 6 hj hL (by decide)) rfl ?_
  refine r_i2l C d_Law_law_825 ?_
  refine r_bipush (v := 32) C d_Law_law_826 rfl ?_
  refine r_lshl C d_Law_law_828 ?_
  refine r_aload_n C d_Law_law_829 rfl rfl ?_
  refine r_iload_n C d_Law_law_830 rfl rfl ?_
  refine r_bipush (v := 7) C d_Law_law_831 rfl ?_
  refine r_iadd C d_Law_law_833 ?_
  refine r_sld E d_Law_law_834 (lw_in 7 hj hL (by decide)) rfl ?_
  refine r_i2l C d_Law_law_835 ?_
  refine r_ldc2 C d_Law_law_836 mn_Law_13 ?_
  refine r_land C d_Law_law_839 ?_
  refine r_lor C d_Law_law_840 ?_
  refine r_callV C (L0.k (fun fk h => kc_step Y _ h _ _ _ _)) mQ_BT_step d_Law_law_841 ml_Law_91 mi_BT_step mv_BT_step hk0 rfl rfl rfl rfl (Nat.le_of_ble_eq_true rfl) ⟨⟨Nat.le_of_ble_eq_true rfl, Nat.le_of_ble_eq_true rfl⟩, by show k + 0 ≤ 600000; omega, by show n + 0 ≤ 7302250; omega⟩ (fun v f1 hp => ?_)
  obtain ⟨rfl, L1⟩ := hp
  obtain ⟨fs1, hm1⟩ := L1.ma
  refine r_aload_n C d_Law_law_844 rfl rfl ?_
  refine r_aload_n C d_Law_law_845 rfl rfl ?_
  refine r_iload_n C d_Law_law_846 rfl rfl ?_
  refine r_iconst (v := 1) C d_Law_law_847 rfl ?_
  refine r_iadd C d_Law_law_848 ?_
  refine r_sld E d_Law_law_849 (lw_in 1 hj hL (by decide)) rfl ?_
  refine r_aload_n C d_Law_law_850 rfl rfl ?_
  refine r_iload_n C d_Law_law_851 rfl rfl ?_
  refine r_iconst (v := 2) C d_Law_law_852 rfl ?_
  refine r_iadd C d_Law_law_853 ?_
  refine r_sld E d_Law_law_854 (lw_in 2 hj hL (by decide)) rfl ?_
  refine r_i2l C d_Law_law_855 ?_
  refine r_bipush (v := 32) C d_Law_law_856 rfl ?_
  refine r_lshl C d_Law_law_858 ?_
  refine r_aload_n C d_Law_law_859 rfl rfl ?_
  refine r_iload_n C d_Law_law_860 rfl rfl ?_
  refine r_iconst (v := 3) C d_Law_law_861 rfl ?_
  refine r_iadd C d_Law_law_862 ?_
  refine r_sld E d_Law_law_863 (lw_in 3 hj hL (by decide)) rfl ?_
  refine r_i2l C d_Law_law_864 ?_
  refine r_ldc2 C d_Law_law_865 mn_Law_13 ?_
  refine r_land C d_Law_law_868 ?_
  refine r_lor C d_Law_law_869 ?_
  refine r_aload_n C d_Law_law_870 rfl rfl ?_
  refine r_iload_n C d_Law_law_871 rfl rfl ?_
  refine r_iconst (v := 4) C d_Law_law_872 rfl ?_
  refine r_iadd C d_Law_law_873 ?_
  refine r_sld E d_Law_law_874 (lw_in 4 hj hL (by decide)) rfl ?_
  refine r_i2l C d_Law_law_875 ?_
  refine r_bipush (v := 32) C d_Law_law_876 rfl ?_
  refine r_lshl C d_Law_law_878 ?_
  refine r_aload_n C d_Law_law_879 rfl rfl ?_
  refine r_iload_n C d_Law_law_880 rfl rfl ?_
  refine r_iconst (v := 5) C d_Law_law_881 rfl ?_
  refine r_iadd C d_Law_law_882 ?_
  refine r_sld E d_Law_law_883 (lw_in 5 hj hL (by decide)) rfl ?_
  refine r_i2l C d_Law_law_884 ?_
  refine r_ldc2 C d_Law_law_885 mn_Law_13 ?_
  refine r_land C d_Law_law_888 ?_
  refine r_lor C d_Law_law_889 ?_
  refine r_aload_n C d_Law_law_890 rfl rfl ?_
  refine r_iload_n C d_Law_law_891 rfl rfl ?_
  refine r_bipush (v := 6) C d_Law_law_892 rfl ?_
  refine r_iadd C d_Law_law_894 ?_
  refine r_sld E d_Law_law_895 (lw_in 6 hj hL (by decide)) rfl ?_
  refine r_i2l C d_Law_law_896 ?_
  refine r_bipush (v := 32) C d_Law_law_897 rfl ?_
  refine r_lshl C d_Law_law_899 ?_
  refine r_aload_n C d_Law_law_900 rfl rfl ?_
  refine r_iload_n C d_Law_law_901 rfl rfl ?_
  refine r_bipush (v := 7) C d_Law_law_902 rfl ?_
  refine r_iadd C d_Law_law_904 ?_
  refine r_sld E d_Law_law_905 (lw_in 7 hj hL (by decide)) rfl ?_
  refine r_i2l C d_Law_law_906 ?_
  refine r_ldc2 C d_Law_law_907 mn_Law_13 ?_
  refine r_land C d_Law_law_910 ?_
  refine r_lor C d_Law_law_911 ?_
  refine r_callV C (L1.m (fun fm h => mc_step Y _ J h _ _ _ _)) mQ_Mod_step d_Law_law_912 ml_Law_95 mi_Mod_step mv_Mod_step hm1 rfl rfl rfl rfl (Nat.le_of_ble_eq_true rfl) ⟨⟨Nat.le_of_ble_eq_true rfl, Nat.le_of_ble_eq_true rfl⟩, by show k + 0 + 0 ≤ 600000; omega, by show n + 0 + 0 ≤ 7302250; omega⟩ (fun v f2 hp => ?_)
  obtain ⟨rfl, L2⟩ := hp
  refine r_icmp_eq (tgt := 1217) C d_Law_law_915 rfl (fun _ => ?_) (fun hz => absurd rfl hz)
  exact r_wide (by show k + 0 + 0 ≤ k + 4; omega) (by show n + 0 + 0 ≤ n + 22; omega) (K _ _ L2)
set_option maxHeartbeats 4000000 in
set_option maxRecDepth 100000 in
theorem lc_price {Y : hY} {X : hX} {b L : Nat} {xs : Nat → Int32} (E : lCx Y X b L xs) (hL : L ≤ 4096) {j k n q1 q2 : Nat} (hj : 8 * j + 8 ≤ L) (hk : k + 4 ≤ 600000) (hn : n + 22 ≤ 7302250) {s : zS} {f : hw_F} (L0 : lSt Y q1 q2 s s f) (K : ∀ s' f', lSt Y q1 q2 s' s' f' → hG Y X S_law (k + 4) (n + 22) f' [(3, .int (nI (8 * j))), (2, .ref q2), (1, .ref q1), (0, .ref b)] [] 1217) : hG Y X S_law k n f [(3, .int (nI (8 * j))), (2, .ref q2), (1, .ref q1), (0, .ref b)] [] 920 := by
  have C := E.1
  have J := L0.J
  obtain ⟨fs0, hk0⟩ := L0.ka
  refine r_aload_n C d_Law_law_920 rfl rfl ?_
  refine r_aload_n C d_Law_law_921 rfl rfl ?_
  refine r_iload_n C d_Law_law_922 rfl rfl ?_
  refine r_iconst (v := 1) C d_Law_law_923 rfl ?_
  refine r_iadd C d_Law_law_924 ?_
  refine r_sld E d_Law_law_925 (lw_in 1 hj hL (by decide)) rfl ?_
  refine r_aload_n C d_Law_law_926 rfl rfl ?_
  refine r_iload_n C d_Law_law_927 rfl rfl ?_
  refine r_iconst (v := 2) C d_Law_law_928 rfl ?_
  refine r_iadd C d_Law_law_929 ?_
  refine r_sld E d_Law_law_930 (lw_in 2 hj hL (by decide)) rfl ?_
  refine r_i2l C d_Law_law_931 ?_
  refine r_bipush (v := 32) C d_Law_law_932 rfl ?_
  refine r_lshl C d_Law_law_934 ?_
  refine r_aload_n C d_Law_law_935 rfl rfl ?_
  refine r_iload_n C d_Law_law_936 rfl rfl ?_
  refine r_iconst (v := 3) C d_Law_law_937 rfl ?_
  refine r_iadd C d_Law_law_938 ?_
  refine r_sld E d_Law_law_939 (lw_in 3 hj hL (by decide)) rfl ?_
  refine r_i2l C d_Law_law_940 ?_
  refine r_ldc2 C d_Law_law_941 mn_Law_13 ?_
  refine r_land C d_Law_law_944 ?_
  refine r_lor C d_Law_law_945 ?_
  refine r_aload_n C d_Law_law_946 rfl rfl ?_
  refine r_iload_n C d_Law_law_947 rfl rfl ?_
  refine r_iconst (v := 4) C d_Law_law_948 rfl ?_
  refine r_iadd C d_Law_law_949 ?_
  refine r_sld E d_Law_law_950 (lw_in 4 hj hL (by decide)) rfl ?_
  refine r_i2l C d_Law_law_951 ?_
  refine r_bipush (v := 32) C d_Law_law_952 rfl ?_
  refine r_lshl C d_Law_law_954 ?_
  refine r_aload_n C d_Law_law_955 rfl rfl ?_
  refine r_iload_n C d_Law_law_956 rfl rfl ?_
  refine r_iconst (v := 5) C d_Law_law_957 rfl ?_
  refine r_iadd C d_Law_law_958 ?_
  refine r_sld E d_Law_law_959 (lw_in 5 hj hL (by decide)) rfl ?_
  refine r_i2l C d_Law_law_960 ?_
  refine r_ldc2 C d_Law_law_961 mn_Law_13 ?_
  refine r_land C d_Law_law_964 ?_
  refine r_lor C d_Law_law_965 ?_
  refine r_callV C (L0.k (fun fk h => kc_price Y _ h _ _ _)) mQ_BT_price d_Law_law_966 ml_Law_96 mi_BT_price mv_BT_price hk0 rfl rfl rfl rfl (Nat.le_of_ble_eq_true rfl) ⟨⟨Nat.le_of_ble_eq_true rfl, Nat.le_of_ble_eq_true rfl⟩, by show k + 0 ≤ 600000; omega, by show n + 0 ≤ 7302250; omega⟩ (fun v f1 hp => ?_)
  obtain ⟨rfl, L1⟩ := hp
  obtain ⟨fs1, hm1⟩ := L1.ma
  refine r_aload_n C d_Law_law_969 rfl rfl ?_
  refine r_aload_n C d_Law_law_970 rfl rfl ?_
  refine r_iload_n C d_Law_law_971 rfl rfl ?_
  refine r_iconst (v := 1) C d_Law_law_972 rfl ?_
  refine r_iadd C d_Law_law_973 ?_
  refine r_sld E d_Law_law_974 (lw_in 1 hj hL (by decide)) rfl ?_
  refine r_aload_n C d_Law_law_975 rfl rfl ?_
  refine r_iload_n C d_Law_law_976 rfl rfl ?_
  refine r_iconst (v := 2) C d_Law_law_977 rfl ?_
  refine r_iadd C d_Law_law_978 ?_
  refine r_sld E d_Law_law_979 (lw_in 2 hj hL (by decide)) rfl ?_
  refine r_i2l C d_Law_law_980 ?_
  refine r_bipush (v := 32) C d_Law_law_981 rfl ?_
  refine r_lshl C d_Law_law_983 ?_
  refine r_aload_n C d_Law_law_984 rfl rfl ?_
  refine r_iload_n C d_Law_law_985 rfl rfl ?_
  refine r_iconst (v := 3) C d_Law_law_986 rfl ?_
  refine r_iadd C d_Law_law_987 ?_
  refine r_sld E d_Law_law_988 (lw_in 3 hj hL (by decide)) rfl ?_
  refine r_i2l C d_Law_law_989 ?_
  refine r_ldc2 C d_Law_law_990 mn_Law_13 ?_
  refine r_land C d_Law_law_993 ?_
  refine r_lor C d_Law_law_994 ?_
  refine r_aload_n C d_Law_law_995 rfl rfl ?_
  refine r_iload_n C d_Law_law_996 rfl rfl ?_
  refine r_iconst (v := 4) C d_Law_law_997 rfl ?_
  refine r_iadd C d_Law_law_998 ?_
  refine r_sld E d_Law_law_999 (lw_in 4 hj hL (by decide)) rfl ?_
  refine r_i2l C d_Law_law_1000 ?_
  refine r_bipush (v := 32) C d_Law_law_1001 rfl ?_
  refine r_lshl C d_Law_law_1003 ?_
  refine r_aload_n C d_Law_law_1004 rfl rfl ?_
  refine r_iload_n C d_Law_law_1005 rfl rfl ?_
  refine r_iconst (v := 5) C d_Law_law_1006 rfl ?_
  refine r_iadd C d_Law_law_1007 ?_
  refine r_sld E d_Law_law_1008 (lw_in 5 hj hL (by decide)) rfl ?_
  refine r_i2l C d_Law_law_1009 ?_
  refine r_ldc2 C d_Law_law_1010 mn_Law_13 ?_
  refine r_land C d_Law_law_1013 ?_
  refine r_lor C d_Law_law_1014 ?_
  refine r_callV C (L1.m (fun fm h => mc_price Y _ J h _ _ _)) mQ_Mod_price d_Law_law_1015 ml_Law_100 mi_Mod_price mv_Mod_price hm1 rfl rfl rfl rfl (Nat.le_of_ble_eq_true rfl) ⟨⟨Nat.le_of_ble_eq_true rfl, Nat.le_of_ble_eq_true rfl⟩, by show k + 0 + 0 ≤ 600000; omega, by show n + 0 + 0 ≤ 7302250; omega⟩ (fun v f2 hp => ?_)
  obtain ⟨rfl, L2⟩ := hp
  refine r_lcmp C d_Law_law_1018 ?_
  refine r_if_eq (tgt := 1217) C d_Law_law_1019 rfl (fun _ => ?_) (fun hz => absurd ((lg_cmp_eq _ _).mpr rfl) hz)
  exact r_wide (by show k + 0 + 0 ≤ k + 4; omega) (by show n + 0 + 0 ≤ n + 22; omega) (K _ _ L2)
set_option maxHeartbeats 4000000 in
set_option maxRecDepth 100000 in
theorem lc_index {Y : hY} {X : hX} {b L : Nat} {xs : Nat → Int32} (E : lCx Y X b L xs) (hL : L ≤ 4096) {j k n q1 q2 : Nat} (hj : 8 * j + 8 ≤ L) (hk : k + 4 ≤ 600000) (hn : n + 22 ≤ 7302250) {s : zS} {f : hw_F} (L0 : lSt Y q1 q2 s s f) (K : ∀ s' f', lSt Y q1 q2 s' s' f' → hG Y X S_law (k + 4) (n + 22) f' [(3, .int (nI (8 * j))), (2, .ref q2), (1, .ref q1), (0, .ref b)] [] 1217) : hG Y X S_law k n f [(3, .int (nI (8 * j))), (2, .ref q2), (1, .ref q1), (0, .ref b)] [] 1024 := by
  have C := E.1
  have J := L0.J
  obtain ⟨fs0, hk0⟩ := L0.ka
  refine r_aload_n C d_Law_law_1024 rfl rfl ?_
  refine r_aload_n C d_Law_law_1025 rfl rfl ?_
  refine r_iload_n C d_Law_law_1026 rfl rfl ?_
  refine r_iconst (v := 1) C d_Law_law_1027 rfl ?_
  refine r_iadd C d_Law_law_1028 ?_
  refine r_sld E d_Law_law_1029 (lw_in 1 hj hL (by decide)) rfl ?_
  refine r_aload_n C d_Law_law_1030 rfl rfl ?_
  refine r_iload_n C d_Law_law_1031 rfl rfl ?_
  refine r_iconst (v := 2) C d_Law_law_1032 rfl ?_
  refine r_iadd C d_Law_law_1033 ?_
  refine r_sld E d_Law_law_1034 (lw_in 2 hj hL (by decide)) rfl ?_
  refine r_i2l C d_Law_law_1035 ?_
  refine r_bipush (v := 32) C d_Law_law_1036 rfl ?_
  refine r_lshl C d_Law_law_1038 ?_
  refine r_aload_n C d_Law_law_1039 rfl rfl ?_
  refine r_iload_n C d_Law_law_1040 rfl rfl ?_
  refine r_iconst (v := 3) C d_Law_law_1041 rfl ?_
  refine r_iadd C d_Law_law_1042 ?_
  refine r_sld E d_Law_law_1043 (lw_in 3 hj hL (by decide)) rfl ?_
  refine r_i2l C d_Law_law_1044 ?_
  refine r_ldc2 C d_Law_law_1045 mn_Law_13 ?_
  refine r_land C d_Law_law_1048 ?_
  refine r_lor C d_Law_law_1049 ?_
  refine r_aload_n C d_Law_law_1050 rfl rfl ?_
  refine r_iload_n C d_Law_law_1051 rfl rfl ?_
  refine r_iconst (v := 4) C d_Law_law_1052 rfl ?_
  refine r_iadd C d_Law_law_1053 ?_
  refine r_sld E d_Law_law_1054 (lw_in 4 hj hL (by decide)) rfl ?_
  refine r_i2l C d_Law_law_1055 ?_
  refine r_bipush (v := 32) C d_Law_law_1056 rfl ?_
  refine r_lshl C d_Law_law_1058 ?_
  refine r_aload_n C d_Law_law_1059 rfl rfl ?_
  refine r_iload_n C d_Law_law_1060 rfl rfl ?_
  refine r_iconst (v := 5) C d_Law_law_1061 rfl ?_
  refine r_iadd C d_Law_law_1062 ?_
  refine r_sld E d_Law_law_1063 (lw_in 5 hj hL (by decide)) rfl ?_
  refine r_i2l C d_Law_law_1064 ?_
  refine r_ldc2 C d_Law_law_1065 mn_Law_13 ?_
  refine r_land C d_Law_law_1068 ?_
  refine r_lor C d_Law_law_1069 ?_
  refine r_callV C (L0.k (fun fk h => kc_index Y _ h _ _ _)) mQ_BT_index d_Law_law_1070 ml_Law_101 mi_BT_index mv_BT_index hk0 rfl rfl rfl rfl (Nat.le_of_ble_eq_true rfl) ⟨⟨Nat.le_of_ble_eq_true rfl, Nat.le_of_ble_eq_true rfl⟩, by show k + 0 ≤ 600000; omega, by show n + 0 ≤ 7302250; omega⟩ (fun v f1 hp => ?_)
  obtain ⟨rfl, L1⟩ := hp
  obtain ⟨fs1, hm1⟩ := L1.ma
  refine r_aload_n C d_Law_law_1073 rfl rfl ?_
  refine r_aload_n C d_Law_law_1074 rfl rfl ?_
  refine r_iload_n C d_Law_law_1075 rfl rfl ?_
  refine r_iconst (v := 1) C d_Law_law_1076 rfl ?_
  refine r_iadd C d_Law_law_1077 ?_
  refine r_sld E d_Law_law_1078 (lw_in 1 hj hL (by decide)) rfl ?_
  refine r_aload_n C d_Law_law_1079 rfl rfl ?_
  refine r_iload_n C d_Law_law_1080 rfl rfl ?_
  refine r_iconst (v := 2) C d_Law_law_1081 rfl ?_
  refine r_iadd C d_Law_law_1082 ?_
  refine r_sld E d_Law_law_1083 (lw_in 2 hj hL (by decide)) rfl ?_
  refine r_i2l C d_Law_law_1084 ?_
  refine r_bipush (v := 32) C d_Law_law_1085 rfl ?_
  refine r_lshl C d_Law_law_1087 ?_
  refine r_aload_n C d_Law_law_1088 rfl rfl ?_
  refine r_iload_n C d_Law_law_1089 rfl rfl ?_
  refine r_iconst (v := 3) C d_Law_law_1090 rfl ?_
  refine r_iadd C d_Law_law_1091 ?_
  refine r_sld E d_Law_law_1092 (lw_in 3 hj hL (by decide)) rfl ?_
  refine r_i2l C d_Law_law_1093 ?_
  refine r_ldc2 C d_Law_law_1094 mn_Law_13 ?_
  refine r_land C d_Law_law_1097 ?_
  refine r_lor C d_Law_law_1098 ?_
  refine r_aload_n C d_Law_law_1099 rfl rfl ?_
  refine r_iload_n C d_Law_law_1100 rfl rfl ?_
  refine r_iconst (v := 4) C d_Law_law_1101 rfl ?_
  refine r_iadd C d_Law_law_1102 ?_
  refine r_sld E d_Law_law_1103 (lw_in 4 hj hL (by decide)) rfl ?_
  refine r_i2l C d_Law_law_1104 ?_
  refine r_bipush (v := 32) C d_Law_law_1105 rfl ?_
  refine r_lshl C d_Law_law_1107 ?_
  refine r_aload_n C d_Law_law_1108 rfl rfl ?_
  refine r_iload_n C d_Law_law_1109 rfl rfl ?_
  refine r_iconst (v := 5) C d_Law_law_1110 rfl ?_
  refine r_iadd C d_Law_law_1111 ?_
  refine r_sld E d_Law_law_1112 (lw_in 5 hj hL (by decide)) rfl ?_
  refine r_i2l C d_Law_law_1113 ?_
  refine r_ldc2 C d_Law_law_1114 mn_Law_13 ?_
  refine r_land C d_Law_law_1117 ?_
  refine r_lor C d_Law_law_1118 ?_
  refine r_callV C (L1.m (fun fm h => mc_index Y _ J h _ _ _)) mQ_Mod_index d_Law_law_1119 ml_Law_105 mi_Mod_index mv_Mod_index hm1 rfl rfl rfl rfl (Nat.le_of_ble_eq_true rfl) ⟨⟨Nat.le_of_ble_eq_true rfl, Nat.le_of_ble_eq_true rfl⟩, by show k + 0 + 0 ≤ 600000; omega, by show n + 0 + 0 ≤ 7302250; omega⟩ (fun v f2 hp => ?_)
  obtain ⟨rfl, L2⟩ := hp
  refine r_icmp_eq (tgt := 1217) C d_Law_law_1122 rfl (fun _ => ?_) (fun hz => absurd rfl hz)
  exact r_wide (by show k + 0 + 0 ≤ k + 4; omega) (by show n + 0 + 0 ≤ n + 22; omega) (K _ _ L2)
set_option maxHeartbeats 4000000 in
set_option maxRecDepth 100000 in
theorem lc_monthly {Y : hY} {X : hX} {b L : Nat} {xs : Nat → Int32} (E : lCx Y X b L xs) (hL : L ≤ 4096) {j k n q1 q2 : Nat} (hj : 8 * j + 8 ≤ L) (hk : k + 4 ≤ 600000) (hn : n + 22 ≤ 7302250) {s : zS} {f : hw_F} (L0 : lSt Y q1 q2 s s f) (K : ∀ s' f', lSt Y q1 q2 s' s' f' → hG Y X S_law (k + 4) (n + 22) f' [(3, .int (nI (8 * j))), (2, .ref q2), (1, .ref q1), (0, .ref b)] [] 1217) : hG Y X S_law k n f [(3, .int (nI (8 * j))), (2, .ref q2), (1, .ref q1), (0, .ref b)] [] 1127 := by
  have C := E.1
  have J := L0.J
  obtain ⟨fs0, hk0⟩ := L0.ka
  refine r_aload_n C d_Law_law_1127 rfl rfl ?_
  refine r_aload_n C d_Law_law_1128 rfl rfl ?_
  refine r_iload_n C d_Law_law_1129 rfl rfl ?_
  refine r_iconst (v := 1) C d_Law_law_1130 rfl ?_
  refine r_iadd C d_Law_law_1131 ?_
  refine r_sld E d_Law_law_1132 (lw_in 1 hj hL (by decide)) rfl ?_
  refine r_aload_n C d_Law_law_1133 rfl rfl ?_
  refine r_iload_n C d_Law_law_1134 rfl rfl ?_
  refine r_iconst (v := 2) C d_Law_law_1135 rfl ?_
  refine r_iadd C d_Law_law_1136 ?_
  refine r_sld E d_Law_law_1137 (lw_in 2 hj hL (by decide)) rfl ?_
  refine r_callV C (L0.k (fun fk h => kc_monthly Y _ h _ _)) mQ_BT_monthly d_Law_law_1138 ml_Law_106 mi_BT_monthly mv_BT_monthly hk0 rfl rfl rfl rfl (Nat.le_of_ble_eq_true rfl) ⟨⟨Nat.le_of_ble_eq_true rfl, Nat.le_of_ble_eq_true rfl⟩, by show k + 0 ≤ 600000; omega, by show n + 0 ≤ 7302250; omega⟩ (fun v f1 hp => ?_)
  obtain ⟨rfl, L1⟩ := hp
  obtain ⟨fs1, hm1⟩ := L1.ma
  refine r_aload_n C d_Law_law_1141 rfl rfl ?_
  refine r_aload_n C d_Law_law_1142 rfl rfl ?_
  refine r_iload_n C d_Law_law_1143 rfl rfl ?_
  refine r_iconst (v := 1) C d_Law_law_1144 rfl ?_
  refine r_iadd C d_Law_law_1145 ?_
  refine r_sld E d_Law_law_1146 (lw_in 1 hj hL (by decide)) rfl ?_
  refine r_aload_n C d_Law_law_1147 rfl rfl ?_
  refine r_iload_n C d_Law_law_1148 rfl rfl ?_
  refine r_iconst (v := 2) C d_Law_law_1149 rfl ?_
  refine r_iadd C d_Law_law_1150 ?_
  refine r_sld E d_Law_law_1151 (lw_in 2 hj hL (by decide)) rfl ?_
  refine r_callV C (L1.m (fun fm h => mc_monthly Y _ J h _ _)) mQ_Mod_monthly d_Law_law_1152 ml_Law_110 mi_Mod_monthly mv_Mod_monthly hm1 rfl rfl rfl rfl (Nat.le_of_ble_eq_true rfl) ⟨⟨Nat.le_of_ble_eq_true rfl, Nat.le_of_ble_eq_true rfl⟩, by show k + 0 + 0 ≤ 600000; omega, by show n + 0 + 0 ≤ 7302250; omega⟩ (fun v f2 hp => ?_)
  obtain ⟨rfl, L2⟩ := hp
  refine r_lcmp C d_Law_law_1155 ?_
  refine r_if_eq (tgt := 1217) C d_Law_law_1156 rfl (fun _ => ?_) (fun hz => absurd ((lg_cmp_eq _ _).mpr rfl) hz)
  exact r_wide (by show k + 0 + 0 ≤ k + 4; omega) (by show n + 0 + 0 ≤ n + 22; omega) (K _ _ L2)
set_option maxHeartbeats 4000000 in
set_option maxRecDepth 100000 in
theorem lc_dispute {Y : hY} {X : hX} {b L : Nat} {xs : Nat → Int32} (E : lCx Y X b L xs) (hL : L ≤ 4096) {j k n q1 q2 : Nat} (hj : 8 * j + 8 ≤ L) (hk : k + 4 ≤ 600000) (hn : n + 22 ≤ 7302250) {s : zS} {f : hw_F} (L0 : lSt Y q1 q2 s s f) (K : ∀ s' f', lSt Y q1 q2 s' s' f' → hG Y X S_law (k + 4) (n + 22) f' [(3, .int (nI (8 * j))), (2, .ref q2), (1, .ref q1), (0, .ref b)] [] 1217) : hG Y X S_law k n f [(3, .int (nI (8 * j))), (2, .ref q2), (1, .ref q1), (0, .ref b)] [] 1161 := by
  have C := E.1
  have J := L0.J
  obtain ⟨fs0, hk0⟩ := L0.ka
  refine r_aload_n C d_Law_law_1161 rfl rfl ?_
  refine r_aload_n C d_Law_law_1162 rfl rfl ?_
  refine r_iload_n C d_Law_law_1163 rfl rfl ?_
  refine r_iconst (v := 1) C d_Law_law_1164 rfl ?_
  refine r_iadd C d_Law_law_1165 ?_
  refine r_sld E d_Law_law_1166 (lw_in 1 hj hL (by decide)) rfl ?_
  refine r_aload_n C d_Law_law_1167 rfl rfl ?_
  refine r_iload_n C d_Law_law_1168 rfl rfl ?_
  refine r_iconst (v := 2) C d_Law_law_1169 rfl ?_
  refine r_iadd C d_Law_law_1170 ?_
  refine r_sld E d_Law_law_1171 (lw_in 2 hj hL (by decide)) rfl ?_
  refine r_callV C (L0.k (fun fk h => kc_dispute Y _ h _ _)) mQ_BT_dispute d_Law_law_1172 ml_Law_111 mi_BT_dispute mv_BT_dispute hk0 rfl rfl rfl rfl (Nat.le_of_ble_eq_true rfl) ⟨⟨Nat.le_of_ble_eq_true rfl, Nat.le_of_ble_eq_true rfl⟩, by show k + 1 ≤ 600000; omega, by show n + 2 ≤ 7302250; omega⟩ (fun v f1 hp => ?_)
  obtain ⟨rfl, L1⟩ := hp
  obtain ⟨fs1, hm1⟩ := L1.ma
  refine r_aload_n C d_Law_law_1175 rfl rfl ?_
  refine r_aload_n C d_Law_law_1176 rfl rfl ?_
  refine r_iload_n C d_Law_law_1177 rfl rfl ?_
  refine r_iconst (v := 1) C d_Law_law_1178 rfl ?_
  refine r_iadd C d_Law_law_1179 ?_
  refine r_sld E d_Law_law_1180 (lw_in 1 hj hL (by decide)) rfl ?_
  refine r_aload_n C d_Law_law_1181 rfl rfl ?_
  refine r_iload_n C d_Law_law_1182 rfl rfl ?_
  refine r_iconst (v := 2) C d_Law_law_1183 rfl ?_
  refine r_iadd C d_Law_law_1184 ?_
  refine r_sld E d_Law_law_1185 (lw_in 2 hj hL (by decide)) rfl ?_
  refine r_callV C (L1.m (fun fm h => mc_dispute Y _ J h _ _)) mQ_Mod_dispute d_Law_law_1186 ml_Law_114 mi_Mod_dispute mv_Mod_dispute hm1 rfl rfl rfl rfl (Nat.le_of_ble_eq_true rfl) ⟨⟨Nat.le_of_ble_eq_true rfl, Nat.le_of_ble_eq_true rfl⟩, by show k + 1 + 0 ≤ 600000; omega, by show n + 2 + 0 ≤ 7302250; omega⟩ (fun v f2 hp => ?_)
  obtain ⟨rfl, L2⟩ := hp
  refine r_icmp_eq (tgt := 1217) C d_Law_law_1189 rfl (fun _ => ?_) (fun hz => absurd rfl hz)
  exact r_wide (by show k + 1 + 0 ≤ k + 4; omega) (by show n + 2 + 0 ≤ n + 22; omega) (K _ _ L2)
set_option maxHeartbeats 4000000 in
set_option maxRecDepth 100000 in
theorem lc_verdict {Y : hY} {X : hX} {b L : Nat} {xs : Nat → Int32} (E : lCx Y X b L xs) (hL : L ≤ 4096) {j k n q1 q2 : Nat} (hj : 8 * j + 8 ≤ L) (hk : k + 4 ≤ 600000) (hn : n + 22 ≤ 7302250) {s : zS} {f : hw_F} (L0 : lSt Y q1 q2 s s f) (K : ∀ s' f', lSt Y q1 q2 s' s' f' → hG Y X S_law (k + 4) (n + 22) f' [(3, .int (nI (8 * j))), (2, .ref q2), (1, .ref q1), (0, .ref b)] [] 1217) : hG Y X S_law k n f [(3, .int (nI (8 * j))), (2, .ref q2), (1, .ref q1), (0, .ref b)] [] 1194 := by
  have C := E.1
  have J := L0.J
  obtain ⟨fs0, hk0⟩ := L0.ka
  refine r_aload_n C d_Law_law_1194 rfl rfl ?_
  refine r_aload_n C d_Law_law_1195 rfl rfl ?_
  refine r_iload_n C d_Law_law_1196 rfl rfl ?_
  refine r_iconst (v := 1) C d_Law_law_1197 rfl ?_
  refine r_iadd C d_Law_law_1198 ?_
  refine r_sld E d_Law_law_1199 (lw_in 1 hj hL (by decide)) rfl ?_
  refine r_callV C (L0.k (fun fk h => kc_verdict Y _ h _)) mQ_BT_verdict d_Law_law_1200 ml_Law_115 mi_BT_verdict mv_BT_verdict hk0 rfl rfl rfl rfl (Nat.le_of_ble_eq_true rfl) ⟨⟨Nat.le_of_ble_eq_true rfl, Nat.le_of_ble_eq_true rfl⟩, by show k + 0 ≤ 600000; omega, by show n + 0 ≤ 7302250; omega⟩ (fun v f1 hp => ?_)
  obtain ⟨rfl, L1⟩ := hp
  obtain ⟨fs1, hm1⟩ := L1.ma
  refine r_aload_n C d_Law_law_1203 rfl rfl ?_
  refine r_aload_n C d_Law_law_1204 rfl rfl ?_
  refine r_iload_n C d_Law_law_1205 rfl rfl ?_
  refine r_iconst (v := 1) C d_Law_law_1206 rfl ?_
  refine r_iadd C d_Law_law_1207 ?_
  refine r_sld E d_Law_law_1208 (lw_in 1 hj hL (by decide)) rfl ?_
  refine r_callV C (L1.m (fun fm h => mc_verdict Y _ J h _)) mQ_Mod_verdict d_Law_law_1209 ml_Law_119 mi_Mod_verdict mv_Mod_verdict hm1 rfl rfl rfl rfl (Nat.le_of_ble_eq_true rfl) ⟨⟨Nat.le_of_ble_eq_true rfl, Nat.le_of_ble_eq_true rfl⟩, by show k + 0 + 0 ≤ 600000; omega, by show n + 0 + 0 ≤ 7302250; omega⟩ (fun v f2 hp => ?_)
  obtain ⟨rfl, L2⟩ := hp
  refine r_icmp_eq (tgt := 1217) C d_Law_law_1212 rfl (fun _ => ?_) (fun hz => absurd rfl hz)
  exact r_wide (by show k + 0 + 0 ≤ k + 4; omega) (by show n + 0 + 0 ≤ n + 22; omega) (K _ _ L2)
