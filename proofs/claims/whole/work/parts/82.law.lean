/-! the law: its segments, its loop, by program (wip/whole/m_law2.py) -/
theorem lg_self (x : Int64) : lg_cmp x x = 0 := by
  unfold lg_cmp
  simp
theorem sw31 (a : Int32) : ∃ k : Nat, k < 32 ∧ (a &&& iI 31) = iI (k : Int) := by
  refine ⟨(a.toBitVec &&& 31#32).toNat, ?_, ?_⟩
  · rw [BitVec.toNat_and]
    exact Nat.lt_of_le_of_lt (Nat.and_le_right) (by decide)
  · apply Int32.toBitVec_inj.mp
    rw [Int32.toBitVec_and]
    have e : (iI 31).toBitVec = 31#32 := by decide
    rw [e]
    show _ = BitVec.ofInt 32 _
    apply BitVec.eq_of_toInt_eq
    simp
set_option maxHeartbeats 1000000 in
set_option maxRecDepth 20000 in
theorem sg_lot {N : Nat} {f : Nat → Int32} {i : Nat} {c : cS} {m : mS} {o : Nat → Int64} {n cu su : Nat} {l5 l6 : Option Value} {Q : am_O → am_H → Nat → Prop} (h : rel c m) (hi : i + 4 < N) (hN : N < 2147483648) (hcu : cu + 8 ≤ 648338) (hsu : su + 48 ≤ 7151090) (kk : ∀ (c' : cS) (m' : mS) (o' : Nat → Int64) (n' : Nat) (l5' l6' : Option Value), rel c' m' → am_W 20 km_L_law 1111 [some (.ref 0), some (.ref 4), some (.ref 50), some (.ref 68), some (.int (iI (i : Int))), l5', l6'] [] (hC (am_ia N f) c' (hM m' [am_la 1 o'])) n' (cu + 8) (su + 48) Q) : am_W 20 km_L_law 124 [some (.ref 0), some (.ref 4), some (.ref 50), some (.ref 68), some (.int (iI (i : Int))), l5, l6] [] (hC (am_ia N f) c (hM m [am_la 1 o])) n cu su Q := by
  obtain ⟨r, c', o', n', hr, hw, hm⟩ := op_lot (x := am_ia N f) (o := o) (n := n) h (f (i + 1)) (f (i + 2)) (f (i + 3)) (f (i + 4))
  refine ar_aload_n kd_L_law_124 rfl ?_
  refine ar_aload_n kd_L_law_125 rfl ?_
  refine ar_iload kd_L_law_126 rfl ?_
  refine ar_iconst kd_L_law_128 ?_
  refine az_iadd kd_L_law_129 ?_
  refine az_ialdR kd_L_law_130 rfl (k := i + 1) (by omega) (by omega) ?_
  refine ar_aload_n kd_L_law_131 rfl ?_
  refine ar_iload kd_L_law_132 rfl ?_
  refine ar_iconst kd_L_law_134 ?_
  refine az_iadd kd_L_law_135 ?_
  refine az_ialdR kd_L_law_136 rfl (k := i + 2) (by omega) (by omega) ?_
  refine ar_aload_n kd_L_law_137 rfl ?_
  refine ar_iload kd_L_law_138 rfl ?_
  refine ar_iconst kd_L_law_140 ?_
  refine az_iadd kd_L_law_141 ?_
  refine az_ialdR kd_L_law_142 rfl (k := i + 3) (by omega) (by omega) ?_
  refine ar_aload_n kd_L_law_143 rfl ?_
  refine ar_iload kd_L_law_144 rfl ?_
  refine ar_iconst kd_L_law_146 ?_
  refine az_iadd kd_L_law_147 ?_
  refine az_ialdR kd_L_law_148 rfl (k := i + 4) (by omega) (by omega) ?_
  refine ar_aload_n kd_L_law_149 rfl ?_
  refine az_calls (z := km_L_lot) (As := [_, _, _, _, _, _]) kd_L_law_150 kw_248 kw_249 kw_0 kz_L_lot rfl rfl rfl rfl hcu hsu rfl hw ?_
  refine ar_istore kd_L_law_153 (Nat.le_of_ble_eq_true rfl) rfl ?_
  dsimp only [List.set]
  refine ar_aload_n kd_L_law_155 rfl ?_
  refine ar_aload_n kd_L_law_156 rfl ?_
  refine ar_iload kd_L_law_157 rfl ?_
  refine ar_iconst kd_L_law_159 ?_
  refine az_iadd kd_L_law_160 ?_
  refine az_ialdR kd_L_law_161 rfl (k := i + 1) (by omega) (by omega) ?_
  refine ar_aload_n kd_L_law_162 rfl ?_
  refine ar_iload kd_L_law_163 rfl ?_
  refine ar_iconst kd_L_law_165 ?_
  refine az_iadd kd_L_law_166 ?_
  refine az_ialdR kd_L_law_167 rfl (k := i + 2) (by omega) (by omega) ?_
  refine ar_aload_n kd_L_law_168 rfl ?_
  refine ar_iload kd_L_law_169 rfl ?_
  refine ar_iconst kd_L_law_171 ?_
  refine az_iadd kd_L_law_172 ?_
  refine az_ialdR kd_L_law_173 rfl (k := i + 3) (by omega) (by omega) ?_
  refine ar_aload_n kd_L_law_174 rfl ?_
  refine ar_iload kd_L_law_175 rfl ?_
  refine ar_iconst kd_L_law_177 ?_
  refine az_iadd kd_L_law_178 ?_
  refine az_ialdR kd_L_law_179 rfl (k := i + 4) (by omega) (by omega) ?_
  refine ar_callv (z := km_M_lot) (As := [_, _, _, _]) (ci := 5) kd_L_law_180 kw_688 kw_689 rfl ks_M_lot kz_M_lot rfl rfl (Nat.le_of_ble_eq_true rfl) (am_c1 rfl) (Nat.le_of_ble_eq_true rfl) hcu hsu rfl hm (fun v2 h2 n2 hq => ?_) (fun k2 i2 h2 n2 hq => by obtain ⟨_, _, e, _⟩ := hq; cases e)
  obtain ⟨v1, m', e1, rfl, rfl, hrel, hco, hv⟩ := hq
  cases e1
  refine ar_istore kd_L_law_183 (Nat.le_of_ble_eq_true rfl) rfl ?_
  dsimp only [List.set]
  refine ar_aload_n kd_L_law_185 rfl ?_
  refine az_callv (z := km_M_thrown) (As := []) (ci := 5) kd_L_law_186 kw_684 kw_685 rfl ks_M_thrown kz_M_thrown rfl rfl rfl rfl rfl hcu hsu rfl sp_M_thrown ?_
  refine ar_iload kd_L_law_189 rfl ?_
  refine ar_icmp_eq (tg := 196) kd_L_law_191 (by decide) (fun _ => ?_) (fun e => absurd (congrArg iI hco) e)
  refine ar_iload kd_L_law_196 rfl ?_
  refine ar_if_ne (tg := 213) kd_L_law_198 (by decide) (fun _ => ?_) (fun e => ?_)
  · refine ar_goto (tg := 1111) kd_L_law_213 (by decide) ?_
    exact kk _ _ _ _ _ _ hrel
  · have e0 : r = 0 := (ii_eq (by omega) (by decide)).mp e
    refine ar_aload_n kd_L_law_201 rfl ?_
    refine ar_iconst kd_L_law_202 ?_
    refine az_lald0 kd_L_law_203 ?_
    refine ar_iload kd_L_law_204 rfl ?_
    refine ar_i2l kd_L_law_206 ?_
    refine ar_lcmp kd_L_law_207 ?_
    refine ar_if_eq (tg := 213) kd_L_law_208 (by decide) (fun _ => ?_) (fun q => absurd (by rw [hv e0]; exact lg_self _) q)
    refine ar_goto (tg := 1111) kd_L_law_213 (by decide) ?_
    exact kk _ _ _ _ _ _ hrel
set_option maxHeartbeats 1000000 in
set_option maxRecDepth 20000 in
theorem sg_line {N : Nat} {f : Nat → Int32} {i : Nat} {c : cS} {m : mS} {o : Nat → Int64} {n cu su : Nat} {l5 l6 : Option Value} {Q : am_O → am_H → Nat → Prop} (h : rel c m) (hi : i + 4 < N) (hN : N < 2147483648) (hcu : cu + 8 ≤ 648338) (hsu : su + 48 ≤ 7151090) (kk : ∀ (c' : cS) (m' : mS) (o' : Nat → Int64) (n' : Nat) (l5' l6' : Option Value), rel c' m' → am_W 20 km_L_law 1111 [some (.ref 0), some (.ref 4), some (.ref 50), some (.ref 68), some (.int (iI (i : Int))), l5', l6'] [] (hC (am_ia N f) c' (hM m' [am_la 1 o'])) n' (cu + 8) (su + 48) Q) : am_W 20 km_L_law 216 [some (.ref 0), some (.ref 4), some (.ref 50), some (.ref 68), some (.int (iI (i : Int))), l5, l6] [] (hC (am_ia N f) c (hM m [am_la 1 o])) n cu su Q := by
  obtain ⟨r, c', o', n', hr, hw, hm⟩ := op_line (x := am_ia N f) (o := o) (n := n) h (f (i + 1)) (f (i + 2))
  refine ar_aload_n kd_L_law_216 rfl ?_
  refine ar_aload_n kd_L_law_217 rfl ?_
  refine ar_iload kd_L_law_218 rfl ?_
  refine ar_iconst kd_L_law_220 ?_
  refine az_iadd kd_L_law_221 ?_
  refine az_ialdR kd_L_law_222 rfl (k := i + 1) (by omega) (by omega) ?_
  refine ar_aload_n kd_L_law_223 rfl ?_
  refine ar_iload kd_L_law_224 rfl ?_
  refine ar_iconst kd_L_law_226 ?_
  refine az_iadd kd_L_law_227 ?_
  refine az_ialdR kd_L_law_228 rfl (k := i + 2) (by omega) (by omega) ?_
  refine ar_aload_n kd_L_law_229 rfl ?_
  refine az_calls (z := km_L_line) (As := [_, _, _, _]) kd_L_law_230 kw_358 kw_359 kw_0 kz_L_line rfl rfl rfl rfl hcu hsu rfl hw ?_
  refine ar_istore kd_L_law_233 (Nat.le_of_ble_eq_true rfl) rfl ?_
  dsimp only [List.set]
  refine ar_aload_n kd_L_law_235 rfl ?_
  refine ar_aload_n kd_L_law_236 rfl ?_
  refine ar_iload kd_L_law_237 rfl ?_
  refine ar_iconst kd_L_law_239 ?_
  refine az_iadd kd_L_law_240 ?_
  refine az_ialdR kd_L_law_241 rfl (k := i + 1) (by omega) (by omega) ?_
  refine ar_aload_n kd_L_law_242 rfl ?_
  refine ar_iload kd_L_law_243 rfl ?_
  refine ar_iconst kd_L_law_245 ?_
  refine az_iadd kd_L_law_246 ?_
  refine az_ialdR kd_L_law_247 rfl (k := i + 2) (by omega) (by omega) ?_
  refine ar_callv (z := km_M_line) (As := [_, _]) (ci := 5) kd_L_law_248 kw_695 kw_696 rfl ks_M_line kz_M_line rfl rfl (Nat.le_of_ble_eq_true rfl) (am_c1 rfl) (Nat.le_of_ble_eq_true rfl) hcu hsu rfl hm (fun v2 h2 n2 hq => ?_) (fun k2 i2 h2 n2 hq => by obtain ⟨_, _, e, _⟩ := hq; cases e)
  obtain ⟨v1, m', e1, rfl, rfl, hrel, hco, hv⟩ := hq
  cases e1
  refine ar_istore kd_L_law_251 (Nat.le_of_ble_eq_true rfl) rfl ?_
  dsimp only [List.set]
  refine ar_aload_n kd_L_law_253 rfl ?_
  refine az_callv (z := km_M_thrown) (As := []) (ci := 5) kd_L_law_254 kw_684 kw_685 rfl ks_M_thrown kz_M_thrown rfl rfl rfl rfl rfl hcu hsu rfl sp_M_thrown ?_
  refine ar_iload kd_L_law_257 rfl ?_
  refine ar_icmp_eq (tg := 264) kd_L_law_259 (by decide) (fun _ => ?_) (fun e => absurd (congrArg iI hco) e)
  refine ar_iload kd_L_law_264 rfl ?_
  refine ar_if_ne (tg := 281) kd_L_law_266 (by decide) (fun _ => ?_) (fun e => ?_)
  · refine ar_goto (tg := 1111) kd_L_law_281 (by decide) ?_
    exact kk _ _ _ _ _ _ hrel
  · have e0 : r = 0 := (ii_eq (by omega) (by decide)).mp e
    refine ar_aload_n kd_L_law_269 rfl ?_
    refine ar_iconst kd_L_law_270 ?_
    refine az_lald0 kd_L_law_271 ?_
    refine ar_iload kd_L_law_272 rfl ?_
    refine ar_i2l kd_L_law_274 ?_
    refine ar_lcmp kd_L_law_275 ?_
    refine ar_if_eq (tg := 281) kd_L_law_276 (by decide) (fun _ => ?_) (fun q => absurd (by rw [hv e0]; exact lg_self _) q)
    refine ar_goto (tg := 1111) kd_L_law_281 (by decide) ?_
    exact kk _ _ _ _ _ _ hrel
set_option maxHeartbeats 1000000 in
set_option maxRecDepth 20000 in
theorem sg_rule {N : Nat} {f : Nat → Int32} {i : Nat} {c : cS} {m : mS} {o : Nat → Int64} {n cu su : Nat} {l5 l6 : Option Value} {Q : am_O → am_H → Nat → Prop} (h : rel c m) (hi : i + 4 < N) (hN : N < 2147483648) (hcu : cu + 8 ≤ 648338) (hsu : su + 48 ≤ 7151090) (kk : ∀ (c' : cS) (m' : mS) (o' : Nat → Int64) (n' : Nat) (l5' l6' : Option Value), rel c' m' → am_W 20 km_L_law 1111 [some (.ref 0), some (.ref 4), some (.ref 50), some (.ref 68), some (.int (iI (i : Int))), l5', l6'] [] (hC (am_ia N f) c' (hM m' [am_la 1 o'])) n' (cu + 8) (su + 48) Q) : am_W 20 km_L_law 284 [some (.ref 0), some (.ref 4), some (.ref 50), some (.ref 68), some (.int (iI (i : Int))), l5, l6] [] (hC (am_ia N f) c (hM m [am_la 1 o])) n cu su Q := by
  obtain ⟨r, c', o', n', hr, hw, hm⟩ := op_rule (x := am_ia N f) (o := o) (n := n) h (f (i + 1)) (f (i + 2)) (f (i + 3))
  refine ar_aload_n kd_L_law_284 rfl ?_
  refine ar_aload_n kd_L_law_285 rfl ?_
  refine ar_iload kd_L_law_286 rfl ?_
  refine ar_iconst kd_L_law_288 ?_
  refine az_iadd kd_L_law_289 ?_
  refine az_ialdR kd_L_law_290 rfl (k := i + 1) (by omega) (by omega) ?_
  refine ar_aload_n kd_L_law_291 rfl ?_
  refine ar_iload kd_L_law_292 rfl ?_
  refine ar_iconst kd_L_law_294 ?_
  refine az_iadd kd_L_law_295 ?_
  refine az_ialdR kd_L_law_296 rfl (k := i + 2) (by omega) (by omega) ?_
  refine ar_aload_n kd_L_law_297 rfl ?_
  refine ar_iload kd_L_law_298 rfl ?_
  refine ar_iconst kd_L_law_300 ?_
  refine az_iadd kd_L_law_301 ?_
  refine az_ialdR kd_L_law_302 rfl (k := i + 3) (by omega) (by omega) ?_
  refine az_calls (z := km_L_rule) (As := [_, _, _, _]) kd_L_law_303 kw_372 kw_373 kw_0 kz_L_rule rfl rfl rfl rfl hcu hsu rfl hw ?_
  refine ar_istore kd_L_law_306 (Nat.le_of_ble_eq_true rfl) rfl ?_
  dsimp only [List.set]
  refine ar_aload_n kd_L_law_308 rfl ?_
  refine ar_aload_n kd_L_law_309 rfl ?_
  refine ar_iload kd_L_law_310 rfl ?_
  refine ar_iconst kd_L_law_312 ?_
  refine az_iadd kd_L_law_313 ?_
  refine az_ialdR kd_L_law_314 rfl (k := i + 1) (by omega) (by omega) ?_
  refine ar_aload_n kd_L_law_315 rfl ?_
  refine ar_iload kd_L_law_316 rfl ?_
  refine ar_iconst kd_L_law_318 ?_
  refine az_iadd kd_L_law_319 ?_
  refine az_ialdR kd_L_law_320 rfl (k := i + 2) (by omega) (by omega) ?_
  refine ar_aload_n kd_L_law_321 rfl ?_
  refine ar_iload kd_L_law_322 rfl ?_
  refine ar_iconst kd_L_law_324 ?_
  refine az_iadd kd_L_law_325 ?_
  refine az_ialdR kd_L_law_326 rfl (k := i + 3) (by omega) (by omega) ?_
  refine ar_callv (z := km_M_rule) (As := [_, _, _]) (ci := 5) kd_L_law_327 kw_699 kw_700 rfl ks_M_rule kz_M_rule rfl rfl (Nat.le_of_ble_eq_true rfl) (am_c1 rfl) (Nat.le_of_ble_eq_true rfl) hcu hsu rfl hm (fun v2 h2 n2 hq => ?_) (fun k2 i2 h2 n2 hq => by obtain ⟨_, e, _⟩ := hq; cases e)
  obtain ⟨m', e1, rfl, rfl, hrel, hco⟩ := hq
  cases e1
  refine ar_aload_n kd_L_law_330 rfl ?_
  refine az_callv (z := km_M_thrown) (As := []) (ci := 5) kd_L_law_331 kw_684 kw_685 rfl ks_M_thrown kz_M_thrown rfl rfl rfl rfl rfl hcu hsu rfl sp_M_thrown ?_
  refine ar_iload kd_L_law_334 rfl ?_
  refine ar_icmp_eq (tg := 341) kd_L_law_336 (by decide) (fun _ => ?_) (fun e => absurd (congrArg iI hco) e)
  refine ar_goto (tg := 1111) kd_L_law_341 (by decide) ?_
  exact kk _ _ _ _ _ _ hrel
set_option maxHeartbeats 1000000 in
set_option maxRecDepth 20000 in
theorem sg_cost {N : Nat} {f : Nat → Int32} {i : Nat} {c : cS} {m : mS} {o : Nat → Int64} {n cu su : Nat} {l5 l6 : Option Value} {Q : am_O → am_H → Nat → Prop} (h : rel c m) (hi : i + 4 < N) (hN : N < 2147483648) (hcu : cu + 8 ≤ 648338) (hsu : su + 48 ≤ 7151090) (kk : ∀ (c' : cS) (m' : mS) (o' : Nat → Int64) (n' : Nat) (l5' l6' : Option Value), rel c' m' → am_W 20 km_L_law 1111 [some (.ref 0), some (.ref 4), some (.ref 50), some (.ref 68), some (.int (iI (i : Int))), l5', l6'] [] (hC (am_ia N f) c' (hM m' [am_la 1 o'])) n' (cu + 8) (su + 48) Q) : am_W 20 km_L_law 344 [some (.ref 0), some (.ref 4), some (.ref 50), some (.ref 68), some (.int (iI (i : Int))), l5, l6] [] (hC (am_ia N f) c (hM m [am_la 1 o])) n cu su Q := by
  obtain ⟨r, c', o', n', hr, hw, hm⟩ := op_cost (x := am_ia N f) (o := o) (n := n) h (f (i + 1)) (f (i + 2)) (f (i + 3))
  refine ar_aload_n kd_L_law_344 rfl ?_
  refine ar_aload_n kd_L_law_345 rfl ?_
  refine ar_iload kd_L_law_346 rfl ?_
  refine ar_iconst kd_L_law_348 ?_
  refine az_iadd kd_L_law_349 ?_
  refine az_ialdR kd_L_law_350 rfl (k := i + 1) (by omega) (by omega) ?_
  refine ar_aload_n kd_L_law_351 rfl ?_
  refine ar_iload kd_L_law_352 rfl ?_
  refine ar_iconst kd_L_law_354 ?_
  refine az_iadd kd_L_law_355 ?_
  refine az_ialdR kd_L_law_356 rfl (k := i + 2) (by omega) (by omega) ?_
  refine ar_aload_n kd_L_law_357 rfl ?_
  refine ar_iload kd_L_law_358 rfl ?_
  refine ar_iconst kd_L_law_360 ?_
  refine az_iadd kd_L_law_361 ?_
  refine az_ialdR kd_L_law_362 rfl (k := i + 3) (by omega) (by omega) ?_
  refine az_calls (z := km_L_cost) (As := [_, _, _, _]) kd_L_law_363 kw_404 kw_405 kw_0 kz_L_cost rfl rfl rfl rfl hcu hsu rfl hw ?_
  refine ar_istore kd_L_law_366 (Nat.le_of_ble_eq_true rfl) rfl ?_
  dsimp only [List.set]
  refine ar_aload_n kd_L_law_368 rfl ?_
  refine ar_aload_n kd_L_law_369 rfl ?_
  refine ar_iload kd_L_law_370 rfl ?_
  refine ar_iconst kd_L_law_372 ?_
  refine az_iadd kd_L_law_373 ?_
  refine az_ialdR kd_L_law_374 rfl (k := i + 1) (by omega) (by omega) ?_
  refine ar_aload_n kd_L_law_375 rfl ?_
  refine ar_iload kd_L_law_376 rfl ?_
  refine ar_iconst kd_L_law_378 ?_
  refine az_iadd kd_L_law_379 ?_
  refine az_ialdR kd_L_law_380 rfl (k := i + 2) (by omega) (by omega) ?_
  refine ar_aload_n kd_L_law_381 rfl ?_
  refine ar_iload kd_L_law_382 rfl ?_
  refine ar_iconst kd_L_law_384 ?_
  refine az_iadd kd_L_law_385 ?_
  refine az_ialdR kd_L_law_386 rfl (k := i + 3) (by omega) (by omega) ?_
  refine ar_callv (z := km_M_cost) (As := [_, _, _]) (ci := 5) kd_L_law_387 kw_710 kw_711 rfl ks_M_cost kz_M_cost rfl rfl (Nat.le_of_ble_eq_true rfl) (am_c1 rfl) (Nat.le_of_ble_eq_true rfl) hcu hsu rfl hm (fun v2 h2 n2 hq => ?_) (fun k2 i2 h2 n2 hq => by obtain ⟨_, e, _⟩ := hq; cases e)
  obtain ⟨m', e1, rfl, rfl, hrel, hco⟩ := hq
  cases e1
  refine ar_aload_n kd_L_law_390 rfl ?_
  refine az_callv (z := km_M_thrown) (As := []) (ci := 5) kd_L_law_391 kw_684 kw_685 rfl ks_M_thrown kz_M_thrown rfl rfl rfl rfl rfl hcu hsu rfl sp_M_thrown ?_
  refine ar_iload kd_L_law_394 rfl ?_
  refine ar_icmp_eq (tg := 401) kd_L_law_396 (by decide) (fun _ => ?_) (fun e => absurd (congrArg iI hco) e)
  refine ar_goto (tg := 1111) kd_L_law_401 (by decide) ?_
  exact kk _ _ _ _ _ _ hrel
set_option maxHeartbeats 1000000 in
set_option maxRecDepth 20000 in
theorem sg_may {N : Nat} {f : Nat → Int32} {i : Nat} {c : cS} {m : mS} {o : Nat → Int64} {n cu su : Nat} {l5 l6 : Option Value} {Q : am_O → am_H → Nat → Prop} (h : rel c m) (hi : i + 4 < N) (hN : N < 2147483648) (hcu : cu + 8 ≤ 648338) (hsu : su + 48 ≤ 7151090) (kk : ∀ (c' : cS) (m' : mS) (o' : Nat → Int64) (n' : Nat) (l5' l6' : Option Value), rel c' m' → am_W 20 km_L_law 1111 [some (.ref 0), some (.ref 4), some (.ref 50), some (.ref 68), some (.int (iI (i : Int))), l5', l6'] [] (hC (am_ia N f) c' (hM m' [am_la 1 o'])) n' (cu + 8) (su + 48) Q) : am_W 20 km_L_law 404 [some (.ref 0), some (.ref 4), some (.ref 50), some (.ref 68), some (.int (iI (i : Int))), l5, l6] [] (hC (am_ia N f) c (hM m [am_la 1 o])) n cu su Q := by
  by_cases hb : f (i + 3) = 0
  · obtain ⟨r, c', o', n', hr, hw, hm⟩ := op_may (x := am_ia N f) (o := o) (n := n) h (f (i + 1)) (f (i + 2)) (v := 0) (by decide)
    refine ar_aload_n kd_L_law_404 rfl ?_
    refine ar_aload_n kd_L_law_405 rfl ?_
    refine ar_iload kd_L_law_406 rfl ?_
    refine ar_iconst kd_L_law_408 ?_
    refine az_iadd kd_L_law_409 ?_
    refine az_ialdR kd_L_law_410 rfl (k := i + 1) (by omega) (by omega) ?_
    refine ar_aload_n kd_L_law_411 rfl ?_
    refine ar_iload kd_L_law_412 rfl ?_
    refine ar_iconst kd_L_law_414 ?_
    refine az_iadd kd_L_law_415 ?_
    refine az_ialdR kd_L_law_416 rfl (k := i + 2) (by omega) (by omega) ?_
    refine ar_aload_n kd_L_law_417 rfl ?_
    refine ar_iload kd_L_law_418 rfl ?_
    refine ar_iconst kd_L_law_420 ?_
    refine az_iadd kd_L_law_421 ?_
    refine az_ialdR kd_L_law_422 rfl (k := i + 3) (by omega) (by omega) ?_
    refine ar_if_eq (tg := 430) kd_L_law_423 (by decide) (fun _ => ?_) (fun e => absurd hb e)
    refine ar_iconst kd_L_law_430 ?_
    refine ar_aload_n kd_L_law_431 rfl ?_
    refine az_calls (z := km_L_may) (As := [_, _, _, _, _]) kd_L_law_432 kw_416 kw_417 kw_0 kz_L_may rfl rfl rfl rfl hcu hsu rfl hw ?_
    refine ar_istore kd_L_law_435 (Nat.le_of_ble_eq_true rfl) rfl ?_
    dsimp only [List.set]
    refine ar_aload_n kd_L_law_437 rfl ?_
    refine ar_aload_n kd_L_law_438 rfl ?_
    refine ar_iload kd_L_law_439 rfl ?_
    refine ar_iconst kd_L_law_441 ?_
    refine az_iadd kd_L_law_442 ?_
    refine az_ialdR kd_L_law_443 rfl (k := i + 1) (by omega) (by omega) ?_
    refine ar_aload_n kd_L_law_444 rfl ?_
    refine ar_iload kd_L_law_445 rfl ?_
    refine ar_iconst kd_L_law_447 ?_
    refine az_iadd kd_L_law_448 ?_
    refine az_ialdR kd_L_law_449 rfl (k := i + 2) (by omega) (by omega) ?_
    refine ar_aload_n kd_L_law_450 rfl ?_
    refine ar_iload kd_L_law_451 rfl ?_
    refine ar_iconst kd_L_law_453 ?_
    refine az_iadd kd_L_law_454 ?_
    refine az_ialdR kd_L_law_455 rfl (k := i + 3) (by omega) (by omega) ?_
    refine ar_if_eq (tg := 463) kd_L_law_456 (by decide) (fun _ => ?_) (fun e => absurd hb e)
    refine ar_iconst kd_L_law_463 ?_
    refine ar_callv (z := km_M_may) (As := [_, _, _]) (ci := 5) kd_L_law_464 kw_718 kw_719 rfl ks_M_may kz_M_may rfl rfl (Nat.le_of_ble_eq_true rfl) (am_c1 rfl) (Nat.le_of_ble_eq_true rfl) hcu hsu rfl hm (fun v2 h2 n2 hq => ?_) (fun k2 i2 h2 n2 hq => by obtain ⟨_, _, e, _⟩ := hq; cases e)
    obtain ⟨v1, m', e1, rfl, rfl, hrel, hco, hv⟩ := hq
    cases e1
    refine ar_istore kd_L_law_467 (Nat.le_of_ble_eq_true rfl) rfl ?_
    dsimp only [List.set]
    refine ar_aload_n kd_L_law_469 rfl ?_
    refine az_callv (z := km_M_thrown) (As := []) (ci := 5) kd_L_law_470 kw_684 kw_685 rfl ks_M_thrown kz_M_thrown rfl rfl rfl rfl rfl hcu hsu rfl sp_M_thrown ?_
    refine ar_iload kd_L_law_473 rfl ?_
    refine ar_icmp_eq (tg := 480) kd_L_law_475 (by decide) (fun _ => ?_) (fun e => absurd (congrArg iI hco) e)
    refine ar_iload kd_L_law_480 rfl ?_
    refine ar_if_ne (tg := 504) kd_L_law_482 (by decide) (fun _ => ?_) (fun e => ?_)
    · refine ar_goto (tg := 1111) kd_L_law_504 (by decide) ?_
      exact kk _ _ _ _ _ _ hrel
    · have e0 : r = 0 := (ii_eq (by omega) (by decide)).mp e
      refine ar_aload_n kd_L_law_485 rfl ?_
      refine ar_iconst kd_L_law_486 ?_
      refine az_lald0 kd_L_law_487 ?_
      refine ar_iload kd_L_law_488 rfl ?_
      refine ar_if_eq (tg := 497) kd_L_law_490 (by decide) (fun ez => ?_) (fun ez => ?_)
      · refine ar_lconst kd_L_law_497 ?_
        refine ar_lcmp kd_L_law_498 ?_
        refine ar_if_eq (tg := 504) kd_L_law_499 (by decide) (fun _ => ?_) (fun q => absurd (by rw [hv e0, if_pos ez]; exact lg_self _) q)
        refine ar_goto (tg := 1111) kd_L_law_504 (by decide) ?_
        exact kk _ _ _ _ _ _ hrel
      · refine ar_lconst kd_L_law_493 ?_
        refine ar_goto (tg := 498) kd_L_law_494 (by decide) ?_
        refine ar_lcmp kd_L_law_498 ?_
        refine ar_if_eq (tg := 504) kd_L_law_499 (by decide) (fun _ => ?_) (fun q => absurd (by rw [hv e0, if_neg ez]; exact lg_self _) q)
        refine ar_goto (tg := 1111) kd_L_law_504 (by decide) ?_
        exact kk _ _ _ _ _ _ hrel
  · obtain ⟨r, c', o', n', hr, hw, hm⟩ := op_may (x := am_ia N f) (o := o) (n := n) h (f (i + 1)) (f (i + 2)) (v := 1) (by decide)
    refine ar_aload_n kd_L_law_404 rfl ?_
    refine ar_aload_n kd_L_law_405 rfl ?_
    refine ar_iload kd_L_law_406 rfl ?_
    refine ar_iconst kd_L_law_408 ?_
    refine az_iadd kd_L_law_409 ?_
    refine az_ialdR kd_L_law_410 rfl (k := i + 1) (by omega) (by omega) ?_
    refine ar_aload_n kd_L_law_411 rfl ?_
    refine ar_iload kd_L_law_412 rfl ?_
    refine ar_iconst kd_L_law_414 ?_
    refine az_iadd kd_L_law_415 ?_
    refine az_ialdR kd_L_law_416 rfl (k := i + 2) (by omega) (by omega) ?_
    refine ar_aload_n kd_L_law_417 rfl ?_
    refine ar_iload kd_L_law_418 rfl ?_
    refine ar_iconst kd_L_law_420 ?_
    refine az_iadd kd_L_law_421 ?_
    refine az_ialdR kd_L_law_422 rfl (k := i + 3) (by omega) (by omega) ?_
    refine ar_if_eq (tg := 430) kd_L_law_423 (by decide) (fun e => absurd e hb) (fun _ => ?_)
    refine ar_iconst kd_L_law_426 ?_
    refine ar_goto (tg := 431) kd_L_law_427 (by decide) ?_
    refine ar_aload_n kd_L_law_431 rfl ?_
    refine az_calls (z := km_L_may) (As := [_, _, _, _, _]) kd_L_law_432 kw_416 kw_417 kw_0 kz_L_may rfl rfl rfl rfl hcu hsu rfl hw ?_
    refine ar_istore kd_L_law_435 (Nat.le_of_ble_eq_true rfl) rfl ?_
    dsimp only [List.set]
    refine ar_aload_n kd_L_law_437 rfl ?_
    refine ar_aload_n kd_L_law_438 rfl ?_
    refine ar_iload kd_L_law_439 rfl ?_
    refine ar_iconst kd_L_law_441 ?_
    refine az_iadd kd_L_law_442 ?_
    refine az_ialdR kd_L_law_443 rfl (k := i + 1) (by omega) (by omega) ?_
    refine ar_aload_n kd_L_law_444 rfl ?_
    refine ar_iload kd_L_law_445 rfl ?_
    refine ar_iconst kd_L_law_447 ?_
    refine az_iadd kd_L_law_448 ?_
    refine az_ialdR kd_L_law_449 rfl (k := i + 2) (by omega) (by omega) ?_
    refine ar_aload_n kd_L_law_450 rfl ?_
    refine ar_iload kd_L_law_451 rfl ?_
    refine ar_iconst kd_L_law_453 ?_
    refine az_iadd kd_L_law_454 ?_
    refine az_ialdR kd_L_law_455 rfl (k := i + 3) (by omega) (by omega) ?_
    refine ar_if_eq (tg := 463) kd_L_law_456 (by decide) (fun e => absurd e hb) (fun _ => ?_)
    refine ar_iconst kd_L_law_459 ?_
    refine ar_goto (tg := 464) kd_L_law_460 (by decide) ?_
    refine ar_callv (z := km_M_may) (As := [_, _, _]) (ci := 5) kd_L_law_464 kw_718 kw_719 rfl ks_M_may kz_M_may rfl rfl (Nat.le_of_ble_eq_true rfl) (am_c1 rfl) (Nat.le_of_ble_eq_true rfl) hcu hsu rfl hm (fun v2 h2 n2 hq => ?_) (fun k2 i2 h2 n2 hq => by obtain ⟨_, _, e, _⟩ := hq; cases e)
    obtain ⟨v1, m', e1, rfl, rfl, hrel, hco, hv⟩ := hq
    cases e1
    refine ar_istore kd_L_law_467 (Nat.le_of_ble_eq_true rfl) rfl ?_
    dsimp only [List.set]
    refine ar_aload_n kd_L_law_469 rfl ?_
    refine az_callv (z := km_M_thrown) (As := []) (ci := 5) kd_L_law_470 kw_684 kw_685 rfl ks_M_thrown kz_M_thrown rfl rfl rfl rfl rfl hcu hsu rfl sp_M_thrown ?_
    refine ar_iload kd_L_law_473 rfl ?_
    refine ar_icmp_eq (tg := 480) kd_L_law_475 (by decide) (fun _ => ?_) (fun e => absurd (congrArg iI hco) e)
    refine ar_iload kd_L_law_480 rfl ?_
    refine ar_if_ne (tg := 504) kd_L_law_482 (by decide) (fun _ => ?_) (fun e => ?_)
    · refine ar_goto (tg := 1111) kd_L_law_504 (by decide) ?_
      exact kk _ _ _ _ _ _ hrel
    · have e0 : r = 0 := (ii_eq (by omega) (by decide)).mp e
      refine ar_aload_n kd_L_law_485 rfl ?_
      refine ar_iconst kd_L_law_486 ?_
      refine az_lald0 kd_L_law_487 ?_
      refine ar_iload kd_L_law_488 rfl ?_
      refine ar_if_eq (tg := 497) kd_L_law_490 (by decide) (fun ez => ?_) (fun ez => ?_)
      · refine ar_lconst kd_L_law_497 ?_
        refine ar_lcmp kd_L_law_498 ?_
        refine ar_if_eq (tg := 504) kd_L_law_499 (by decide) (fun _ => ?_) (fun q => absurd (by rw [hv e0, if_pos ez]; exact lg_self _) q)
        refine ar_goto (tg := 1111) kd_L_law_504 (by decide) ?_
        exact kk _ _ _ _ _ _ hrel
      · refine ar_lconst kd_L_law_493 ?_
        refine ar_goto (tg := 498) kd_L_law_494 (by decide) ?_
        refine ar_lcmp kd_L_law_498 ?_
        refine ar_if_eq (tg := 504) kd_L_law_499 (by decide) (fun _ => ?_) (fun q => absurd (by rw [hv e0, if_neg ez]; exact lg_self _) q)
        refine ar_goto (tg := 1111) kd_L_law_504 (by decide) ?_
        exact kk _ _ _ _ _ _ hrel
set_option maxHeartbeats 1000000 in
set_option maxRecDepth 20000 in
theorem sg_solve {N : Nat} {f : Nat → Int32} {i : Nat} {c : cS} {m : mS} {o : Nat → Int64} {n cu su : Nat} {l5 l6 : Option Value} {Q : am_O → am_H → Nat → Prop} (h : rel c m) (hi : i + 4 < N) (hN : N < 2147483648) (hcu : cu + 8 ≤ 648338) (hsu : su + 48 ≤ 7151090) (kk : ∀ (c' : cS) (m' : mS) (o' : Nat → Int64) (n' : Nat) (l5' l6' : Option Value), rel c' m' → am_W 20 km_L_law 1111 [some (.ref 0), some (.ref 4), some (.ref 50), some (.ref 68), some (.int (iI (i : Int))), l5', l6'] [] (hC (am_ia N f) c' (hM m' [am_la 1 o'])) n' (cu + 8) (su + 48) Q) : am_W 20 km_L_law 507 [some (.ref 0), some (.ref 4), some (.ref 50), some (.ref 68), some (.int (iI (i : Int))), l5, l6] [] (hC (am_ia N f) c (hM m [am_la 1 o])) n cu su Q := by
  obtain ⟨r, c', o', n', hr, hw, hm⟩ := op_solve (x := am_ia N f) (o := o) (n := n) h (f (i + 1))
  refine ar_aload_n kd_L_law_507 rfl ?_
  refine ar_aload_n kd_L_law_508 rfl ?_
  refine ar_iload kd_L_law_509 rfl ?_
  refine ar_iconst kd_L_law_511 ?_
  refine az_iadd kd_L_law_512 ?_
  refine az_ialdR kd_L_law_513 rfl (k := i + 1) (by omega) (by omega) ?_
  refine ar_aload_n kd_L_law_514 rfl ?_
  refine az_calls (z := km_L_solve) (As := [_, _, _]) kd_L_law_515 kw_428 kw_429 kw_0 kz_L_solve rfl rfl rfl rfl hcu hsu rfl hw ?_
  refine ar_istore kd_L_law_518 (Nat.le_of_ble_eq_true rfl) rfl ?_
  dsimp only [List.set]
  refine ar_aload_n kd_L_law_520 rfl ?_
  refine ar_aload_n kd_L_law_521 rfl ?_
  refine ar_iload kd_L_law_522 rfl ?_
  refine ar_iconst kd_L_law_524 ?_
  refine az_iadd kd_L_law_525 ?_
  refine az_ialdR kd_L_law_526 rfl (k := i + 1) (by omega) (by omega) ?_
  refine ar_callv (z := km_M_solve) (As := [_]) (ci := 5) kd_L_law_527 kw_730 kw_731 rfl ks_M_solve kz_M_solve rfl rfl (Nat.le_of_ble_eq_true rfl) (am_c1 rfl) (Nat.le_of_ble_eq_true rfl) hcu hsu rfl hm (fun v2 h2 n2 hq => ?_) (fun k2 i2 h2 n2 hq => by obtain ⟨_, _, e, _⟩ := hq; cases e)
  obtain ⟨v1, m', e1, rfl, rfl, hrel, hco, hv⟩ := hq
  cases e1
  refine ar_istore kd_L_law_530 (Nat.le_of_ble_eq_true rfl) rfl ?_
  dsimp only [List.set]
  refine ar_aload_n kd_L_law_532 rfl ?_
  refine az_callv (z := km_M_thrown) (As := []) (ci := 5) kd_L_law_533 kw_684 kw_685 rfl ks_M_thrown kz_M_thrown rfl rfl rfl rfl rfl hcu hsu rfl sp_M_thrown ?_
  refine ar_iload kd_L_law_536 rfl ?_
  refine ar_icmp_eq (tg := 543) kd_L_law_538 (by decide) (fun _ => ?_) (fun e => absurd (congrArg iI hco) e)
  refine ar_iload kd_L_law_543 rfl ?_
  refine ar_if_ne (tg := 560) kd_L_law_545 (by decide) (fun _ => ?_) (fun e => ?_)
  · refine ar_goto (tg := 1111) kd_L_law_560 (by decide) ?_
    exact kk _ _ _ _ _ _ hrel
  · have e0 : r = 0 := (ii_eq (by omega) (by decide)).mp e
    refine ar_aload_n kd_L_law_548 rfl ?_
    refine ar_iconst kd_L_law_549 ?_
    refine az_lald0 kd_L_law_550 ?_
    refine ar_iload kd_L_law_551 rfl ?_
    refine ar_i2l kd_L_law_553 ?_
    refine ar_lcmp kd_L_law_554 ?_
    refine ar_if_eq (tg := 560) kd_L_law_555 (by decide) (fun _ => ?_) (fun q => absurd (by rw [hv e0]; exact lg_self _) q)
    refine ar_goto (tg := 1111) kd_L_law_560 (by decide) ?_
    exact kk _ _ _ _ _ _ hrel
set_option maxHeartbeats 1000000 in
set_option maxRecDepth 20000 in
theorem sg_exact {N : Nat} {f : Nat → Int32} {i : Nat} {c : cS} {m : mS} {o : Nat → Int64} {n cu su : Nat} {l5 l6 : Option Value} {Q : am_O → am_H → Nat → Prop} (h : rel c m) (hi : i + 4 < N) (hN : N < 2147483648) (hcu : cu + 8 ≤ 648338) (hsu : su + 48 ≤ 7151090) (kk : ∀ (c' : cS) (m' : mS) (o' : Nat → Int64) (n' : Nat) (l5' l6' : Option Value), rel c' m' → am_W 20 km_L_law 1111 [some (.ref 0), some (.ref 4), some (.ref 50), some (.ref 68), some (.int (iI (i : Int))), l5', l6'] [] (hC (am_ia N f) c' (hM m' [am_la 1 o'])) n' (cu + 8) (su + 48) Q) : am_W 20 km_L_law 563 [some (.ref 0), some (.ref 4), some (.ref 50), some (.ref 68), some (.int (iI (i : Int))), l5, l6] [] (hC (am_ia N f) c (hM m [am_la 1 o])) n cu su Q := by
  have hx : ∀ v : Int, v = 0 ∨ v = 1 → narrow .boolean (.int (iI v)) = .int (iI v) := fun v hv => by
    rcases hv with rfl | rfl <;> rfl
  refine ar_aload_n kd_L_law_563 rfl ?_
  refine az_callv (z := km_A_exact) (As := []) (ci := 0) kd_L_law_564 kw_180 kw_181 rfl ks_A_exact kz_A_exact rfl rfl rfl rfl rfl (show cu + 0 ≤ 648338 by omega) (show su + 0 ≤ 7151090 by omega) rfl (am_deep (sp_A_exact (d := 0) (hx _ h.ex.2)) (by decide)) ?_
  refine ar_aload_n kd_L_law_567 rfl ?_
  refine az_callv (z := km_M_exact) (As := []) (ci := 5) kd_L_law_568 kw_779 kw_780 rfl ks_M_exact kz_M_exact rfl rfl rfl rfl rfl (show cu + 0 ≤ 648338 by omega) (show su + 0 ≤ 7151090 by omega) rfl (am_deep (sp_M_exact (d := 0) (hx _ (by rw [h.ex.1]; exact h.ex.2))) (by decide)) ?_
  refine ar_icmp_eq (tg := 1111) kd_L_law_571 (by decide) (fun _ => ?_) (fun e => absurd (congrArg iI h.ex.1.symm) e)
  exact (kk c (ms_co m 0) o n l5 l6 (rel_co h 0)).wide (show cu + 0 + 0 ≤ cu + 8 by omega) (show su + 0 + 0 ≤ su + 48 by omega)
set_option maxHeartbeats 1000000 in
set_option maxRecDepth 20000 in
theorem sg_choices {N : Nat} {f : Nat → Int32} {i : Nat} {c : cS} {m : mS} {o : Nat → Int64} {n cu su : Nat} {l5 l6 : Option Value} {Q : am_O → am_H → Nat → Prop} (h : rel c m) (hi : i + 4 < N) (hN : N < 2147483648) (hcu : cu + 8 ≤ 648338) (hsu : su + 48 ≤ 7151090) (kk : ∀ (c' : cS) (m' : mS) (o' : Nat → Int64) (n' : Nat) (l5' l6' : Option Value), rel c' m' → am_W 20 km_L_law 1111 [some (.ref 0), some (.ref 4), some (.ref 50), some (.ref 68), some (.int (iI (i : Int))), l5', l6'] [] (hC (am_ia N f) c' (hM m' [am_la 1 o'])) n' (cu + 8) (su + 48) Q) : am_W 20 km_L_law 576 [some (.ref 0), some (.ref 4), some (.ref 50), some (.ref 68), some (.int (iI (i : Int))), l5, l6] [] (hC (am_ia N f) c (hM m [am_la 1 o])) n cu su Q := by
  refine ar_aload_n kd_L_law_576 rfl ?_
  refine az_callv (z := km_A_choices) (As := []) (ci := 0) kd_L_law_577 kw_184 kw_185 rfl ks_A_choices kz_A_choices rfl rfl rfl rfl rfl (show cu + 0 ≤ 648338 by omega) (show su + 0 ≤ 7151090 by omega) rfl (am_deep (sp_A_choices (d := 0) h.cK h.cG) (by decide)) ?_
  refine ar_aload_n kd_L_law_580 rfl ?_
  refine az_callv (z := km_M_choices) (As := []) (ci := 5) kd_L_law_581 kw_783 kw_784 rfl ks_M_choices kz_M_choices rfl rfl rfl rfl rfl (show cu + 0 ≤ 648338 by omega) (show su + 0 ≤ 7151090 by omega) rfl (am_deep (sp_M_choices (d := 0) h.mK) (by decide)) ?_
  refine ar_icmp_eq (tg := 1111) kd_L_law_584 (by decide) (fun _ => ?_) (fun e => absurd (congrArg iI h.ch) e)
  exact (kk c (ms_co m 0) o n l5 l6 (rel_co h 0)).wide (show cu + 0 + 0 ≤ cu + 8 by omega) (show su + 0 + 0 ≤ su + 48 by omega)
set_option maxHeartbeats 1000000 in
set_option maxRecDepth 20000 in
theorem sg_bound {N : Nat} {f : Nat → Int32} {i : Nat} {c : cS} {m : mS} {o : Nat → Int64} {n cu su : Nat} {l5 l6 : Option Value} {Q : am_O → am_H → Nat → Prop} (h : rel c m) (hi : i + 4 < N) (hN : N < 2147483648) (hcu : cu + 8 ≤ 648338) (hsu : su + 48 ≤ 7151090) (kk : ∀ (c' : cS) (m' : mS) (o' : Nat → Int64) (n' : Nat) (l5' l6' : Option Value), rel c' m' → am_W 20 km_L_law 1111 [some (.ref 0), some (.ref 4), some (.ref 50), some (.ref 68), some (.int (iI (i : Int))), l5', l6'] [] (hC (am_ia N f) c' (hM m' [am_la 1 o'])) n' (cu + 8) (su + 48) Q) : am_W 20 km_L_law 589 [some (.ref 0), some (.ref 4), some (.ref 50), some (.ref 68), some (.int (iI (i : Int))), l5, l6] [] (hC (am_ia N f) c (hM m [am_la 1 o])) n cu su Q := by
  refine ar_aload_n kd_L_law_589 rfl ?_
  refine az_callv (z := km_A_bound) (As := []) (ci := 0) kd_L_law_590 kw_205 kw_206 rfl ks_A_bound kz_A_bound rfl rfl rfl rfl rfl (show cu + 0 ≤ 648338 by omega) (show su + 0 ≤ 7151090 by omega) rfl (am_deep (sp_A_bound (d := 0) h.cK h.cG) (by decide)) ?_
  refine ar_aload_n kd_L_law_593 rfl ?_
  refine az_callv (z := km_M_bound) (As := []) (ci := 5) kd_L_law_594 kw_788 kw_789 rfl ks_M_bound kz_M_bound rfl rfl rfl rfl rfl (show cu + 0 ≤ 648338 by omega) (show su + 0 ≤ 7151090 by omega) rfl (am_deep (sp_M_bound (d := 0) h.mK) (by decide)) ?_
  refine ar_icmp_eq (tg := 1111) kd_L_law_597 (by decide) (fun _ => ?_) (fun e => absurd (congrArg iI h.bd) e)
  exact (kk c (ms_co m 0) o n l5 l6 (rel_co h 0)).wide (show cu + 0 + 0 ≤ cu + 8 by omega) (show su + 0 + 0 ≤ su + 48 by omega)
set_option maxHeartbeats 1000000 in
set_option maxRecDepth 20000 in
theorem sg_give {N : Nat} {f : Nat → Int32} {i : Nat} {c : cS} {m : mS} {o : Nat → Int64} {n cu su : Nat} {l5 l6 : Option Value} {Q : am_O → am_H → Nat → Prop} (h : rel c m) (hi : i + 4 < N) (hN : N < 2147483648) (hcu : cu + 8 ≤ 648338) (hsu : su + 48 ≤ 7151090) (kk : ∀ (c' : cS) (m' : mS) (o' : Nat → Int64) (n' : Nat) (l5' l6' : Option Value), rel c' m' → am_W 20 km_L_law 1111 [some (.ref 0), some (.ref 4), some (.ref 50), some (.ref 68), some (.int (iI (i : Int))), l5', l6'] [] (hC (am_ia N f) c' (hM m' [am_la 1 o'])) n' (cu + 8) (su + 48) Q) : am_W 20 km_L_law 602 [some (.ref 0), some (.ref 4), some (.ref 50), some (.ref 68), some (.int (iI (i : Int))), l5, l6] [] (hC (am_ia N f) c (hM m [am_la 1 o])) n cu su Q := by
  obtain ⟨r, c', o', n', hr, hw, hm⟩ := op_give (x := am_ia N f) (o := o) (n := n) h (f (i + 1)) (f (i + 2)) (f (i + 3))
  refine ar_aload_n kd_L_law_602 rfl ?_
  refine ar_aload_n kd_L_law_603 rfl ?_
  refine ar_iload kd_L_law_604 rfl ?_
  refine ar_iconst kd_L_law_606 ?_
  refine az_iadd kd_L_law_607 ?_
  refine az_ialdR kd_L_law_608 rfl (k := i + 1) (by omega) (by omega) ?_
  refine ar_aload_n kd_L_law_609 rfl ?_
  refine ar_iload kd_L_law_610 rfl ?_
  refine ar_iconst kd_L_law_612 ?_
  refine az_iadd kd_L_law_613 ?_
  refine az_ialdR kd_L_law_614 rfl (k := i + 2) (by omega) (by omega) ?_
  refine ar_aload_n kd_L_law_615 rfl ?_
  refine ar_iload kd_L_law_616 rfl ?_
  refine ar_iconst kd_L_law_618 ?_
  refine az_iadd kd_L_law_619 ?_
  refine az_ialdR kd_L_law_620 rfl (k := i + 3) (by omega) (by omega) ?_
  refine ar_aload_n kd_L_law_621 rfl ?_
  refine az_calls (z := km_L_give) (As := [_, _, _, _, _]) kd_L_law_622 kw_496 kw_497 kw_0 kz_L_give rfl rfl rfl rfl hcu hsu rfl hw ?_
  refine ar_istore kd_L_law_625 (Nat.le_of_ble_eq_true rfl) rfl ?_
  dsimp only [List.set]
  refine ar_aload_n kd_L_law_627 rfl ?_
  refine ar_aload_n kd_L_law_628 rfl ?_
  refine ar_iload kd_L_law_629 rfl ?_
  refine ar_iconst kd_L_law_631 ?_
  refine az_iadd kd_L_law_632 ?_
  refine az_ialdR kd_L_law_633 rfl (k := i + 1) (by omega) (by omega) ?_
  refine ar_aload_n kd_L_law_634 rfl ?_
  refine ar_iload kd_L_law_635 rfl ?_
  refine ar_iconst kd_L_law_637 ?_
  refine az_iadd kd_L_law_638 ?_
  refine az_ialdR kd_L_law_639 rfl (k := i + 2) (by omega) (by omega) ?_
  refine ar_aload_n kd_L_law_640 rfl ?_
  refine ar_iload kd_L_law_641 rfl ?_
  refine ar_iconst kd_L_law_643 ?_
  refine az_iadd kd_L_law_644 ?_
  refine az_ialdR kd_L_law_645 rfl (k := i + 3) (by omega) (by omega) ?_
  refine ar_callv (z := km_M_give) (As := [_, _, _]) (ci := 5) kd_L_law_646 kw_792 kw_793 rfl ks_M_give kz_M_give rfl rfl (Nat.le_of_ble_eq_true rfl) (am_c1 rfl) (Nat.le_of_ble_eq_true rfl) hcu hsu rfl hm (fun v2 h2 n2 hq => ?_) (fun k2 i2 h2 n2 hq => by obtain ⟨_, _, e, _⟩ := hq; cases e)
  obtain ⟨v1, m', e1, rfl, rfl, hrel, hco, hv⟩ := hq
  cases e1
  refine ar_istore kd_L_law_649 (Nat.le_of_ble_eq_true rfl) rfl ?_
  dsimp only [List.set]
  refine ar_aload_n kd_L_law_651 rfl ?_
  refine az_callv (z := km_M_thrown) (As := []) (ci := 5) kd_L_law_652 kw_684 kw_685 rfl ks_M_thrown kz_M_thrown rfl rfl rfl rfl rfl hcu hsu rfl sp_M_thrown ?_
  refine ar_iload kd_L_law_655 rfl ?_
  refine ar_icmp_eq (tg := 662) kd_L_law_657 (by decide) (fun _ => ?_) (fun e => absurd (congrArg iI hco) e)
  refine ar_iload kd_L_law_662 rfl ?_
  refine ar_if_ne (tg := 679) kd_L_law_664 (by decide) (fun _ => ?_) (fun e => ?_)
  · refine ar_goto (tg := 1111) kd_L_law_679 (by decide) ?_
    exact kk _ _ _ _ _ _ hrel
  · have e0 : r = 0 := (ii_eq (by omega) (by decide)).mp e
    refine ar_aload_n kd_L_law_667 rfl ?_
    refine ar_iconst kd_L_law_668 ?_
    refine az_lald0 kd_L_law_669 ?_
    refine ar_iload kd_L_law_670 rfl ?_
    refine ar_i2l kd_L_law_672 ?_
    refine ar_lcmp kd_L_law_673 ?_
    refine ar_if_eq (tg := 679) kd_L_law_674 (by decide) (fun _ => ?_) (fun q => absurd (by rw [hv e0]; exact lg_self _) q)
    refine ar_goto (tg := 1111) kd_L_law_679 (by decide) ?_
    exact kk _ _ _ _ _ _ hrel
set_option maxHeartbeats 1000000 in
set_option maxRecDepth 20000 in
theorem sg_held {N : Nat} {f : Nat → Int32} {i : Nat} {c : cS} {m : mS} {o : Nat → Int64} {n cu su : Nat} {l5 l6 : Option Value} {Q : am_O → am_H → Nat → Prop} (h : rel c m) (hi : i + 4 < N) (hN : N < 2147483648) (hcu : cu + 8 ≤ 648338) (hsu : su + 48 ≤ 7151090) (kk : ∀ (c' : cS) (m' : mS) (o' : Nat → Int64) (n' : Nat) (l5' l6' : Option Value), rel c' m' → am_W 20 km_L_law 1111 [some (.ref 0), some (.ref 4), some (.ref 50), some (.ref 68), some (.int (iI (i : Int))), l5', l6'] [] (hC (am_ia N f) c' (hM m' [am_la 1 o'])) n' (cu + 8) (su + 48) Q) : am_W 20 km_L_law 682 [some (.ref 0), some (.ref 4), some (.ref 50), some (.ref 68), some (.int (iI (i : Int))), l5, l6] [] (hC (am_ia N f) c (hM m [am_la 1 o])) n cu su Q := by
  obtain ⟨r, c', o', n', hr, hw, hm⟩ := op_held (x := am_ia N f) (o := o) (n := n) h (f (i + 1))
  refine ar_aload_n kd_L_law_682 rfl ?_
  refine ar_aload_n kd_L_law_683 rfl ?_
  refine ar_iload kd_L_law_684 rfl ?_
  refine ar_iconst kd_L_law_686 ?_
  refine az_iadd kd_L_law_687 ?_
  refine az_ialdR kd_L_law_688 rfl (k := i + 1) (by omega) (by omega) ?_
  refine ar_aload_n kd_L_law_689 rfl ?_
  refine az_calls (z := km_L_held) (As := [_, _, _]) kd_L_law_690 kw_509 kw_510 kw_0 kz_L_held rfl rfl rfl rfl hcu hsu rfl hw ?_
  refine ar_istore kd_L_law_693 (Nat.le_of_ble_eq_true rfl) rfl ?_
  dsimp only [List.set]
  refine ar_aload_n kd_L_law_695 rfl ?_
  refine ar_aload_n kd_L_law_696 rfl ?_
  refine ar_iload kd_L_law_697 rfl ?_
  refine ar_iconst kd_L_law_699 ?_
  refine az_iadd kd_L_law_700 ?_
  refine az_ialdR kd_L_law_701 rfl (k := i + 1) (by omega) (by omega) ?_
  refine ar_callv (z := km_M_held) (As := [_]) (ci := 5) kd_L_law_702 kw_800 kw_801 rfl ks_M_held kz_M_held rfl rfl (Nat.le_of_ble_eq_true rfl) (am_c1 rfl) (Nat.le_of_ble_eq_true rfl) hcu hsu rfl hm (fun v2 h2 n2 hq => ?_) (fun k2 i2 h2 n2 hq => by obtain ⟨_, _, e, _⟩ := hq; cases e)
  obtain ⟨v1, m', e1, rfl, rfl, hrel, hco, hv⟩ := hq
  cases e1
  refine ar_istore kd_L_law_705 (Nat.le_of_ble_eq_true rfl) rfl ?_
  dsimp only [List.set]
  refine ar_aload_n kd_L_law_707 rfl ?_
  refine az_callv (z := km_M_thrown) (As := []) (ci := 5) kd_L_law_708 kw_684 kw_685 rfl ks_M_thrown kz_M_thrown rfl rfl rfl rfl rfl hcu hsu rfl sp_M_thrown ?_
  refine ar_iload kd_L_law_711 rfl ?_
  refine ar_icmp_eq (tg := 718) kd_L_law_713 (by decide) (fun _ => ?_) (fun e => absurd (congrArg iI hco) e)
  refine ar_iload kd_L_law_718 rfl ?_
  refine ar_if_ne (tg := 735) kd_L_law_720 (by decide) (fun _ => ?_) (fun e => ?_)
  · refine ar_goto (tg := 1111) kd_L_law_735 (by decide) ?_
    exact kk _ _ _ _ _ _ hrel
  · have e0 : r = 0 := (ii_eq (by omega) (by decide)).mp e
    refine ar_aload_n kd_L_law_723 rfl ?_
    refine ar_iconst kd_L_law_724 ?_
    refine az_lald0 kd_L_law_725 ?_
    refine ar_iload kd_L_law_726 rfl ?_
    refine ar_i2l kd_L_law_728 ?_
    refine ar_lcmp kd_L_law_729 ?_
    refine ar_if_eq (tg := 735) kd_L_law_730 (by decide) (fun _ => ?_) (fun q => absurd (by rw [hv e0]; exact lg_self _) q)
    refine ar_goto (tg := 1111) kd_L_law_735 (by decide) ?_
    exact kk _ _ _ _ _ _ hrel
set_option maxHeartbeats 1000000 in
set_option maxRecDepth 20000 in
theorem sg_left {N : Nat} {f : Nat → Int32} {i : Nat} {c : cS} {m : mS} {o : Nat → Int64} {n cu su : Nat} {l5 l6 : Option Value} {Q : am_O → am_H → Nat → Prop} (h : rel c m) (hi : i + 4 < N) (hN : N < 2147483648) (hcu : cu + 8 ≤ 648338) (hsu : su + 48 ≤ 7151090) (kk : ∀ (c' : cS) (m' : mS) (o' : Nat → Int64) (n' : Nat) (l5' l6' : Option Value), rel c' m' → am_W 20 km_L_law 1111 [some (.ref 0), some (.ref 4), some (.ref 50), some (.ref 68), some (.int (iI (i : Int))), l5', l6'] [] (hC (am_ia N f) c' (hM m' [am_la 1 o'])) n' (cu + 8) (su + 48) Q) : am_W 20 km_L_law 738 [some (.ref 0), some (.ref 4), some (.ref 50), some (.ref 68), some (.int (iI (i : Int))), l5, l6] [] (hC (am_ia N f) c (hM m [am_la 1 o])) n cu su Q := by
  obtain ⟨r, c', o', n', hr, hw, hm⟩ := op_left (x := am_ia N f) (o := o) (n := n) h (f (i + 1))
  refine ar_aload_n kd_L_law_738 rfl ?_
  refine ar_aload_n kd_L_law_739 rfl ?_
  refine ar_iload kd_L_law_740 rfl ?_
  refine ar_iconst kd_L_law_742 ?_
  refine az_iadd kd_L_law_743 ?_
  refine az_ialdR kd_L_law_744 rfl (k := i + 1) (by omega) (by omega) ?_
  refine ar_aload_n kd_L_law_745 rfl ?_
  refine az_calls (z := km_L_left) (As := [_, _, _]) kd_L_law_746 kw_516 kw_517 kw_0 kz_L_left rfl rfl rfl rfl hcu hsu rfl hw ?_
  refine ar_istore kd_L_law_749 (Nat.le_of_ble_eq_true rfl) rfl ?_
  dsimp only [List.set]
  refine ar_aload_n kd_L_law_751 rfl ?_
  refine ar_aload_n kd_L_law_752 rfl ?_
  refine ar_iload kd_L_law_753 rfl ?_
  refine ar_iconst kd_L_law_755 ?_
  refine az_iadd kd_L_law_756 ?_
  refine az_ialdR kd_L_law_757 rfl (k := i + 1) (by omega) (by omega) ?_
  refine ar_callv (z := km_M_left) (As := [_]) (ci := 5) kd_L_law_758 kw_808 kw_809 rfl ks_M_left kz_M_left rfl rfl (Nat.le_of_ble_eq_true rfl) (am_c1 rfl) (Nat.le_of_ble_eq_true rfl) hcu hsu rfl hm (fun v2 h2 n2 hq => ?_) (fun k2 i2 h2 n2 hq => by obtain ⟨_, _, e, _⟩ := hq; cases e)
  obtain ⟨v1, m', e1, rfl, rfl, hrel, hco, hv⟩ := hq
  cases e1
  refine ar_istore kd_L_law_761 (Nat.le_of_ble_eq_true rfl) rfl ?_
  dsimp only [List.set]
  refine ar_aload_n kd_L_law_763 rfl ?_
  refine az_callv (z := km_M_thrown) (As := []) (ci := 5) kd_L_law_764 kw_684 kw_685 rfl ks_M_thrown kz_M_thrown rfl rfl rfl rfl rfl hcu hsu rfl sp_M_thrown ?_
  refine ar_iload kd_L_law_767 rfl ?_
  refine ar_icmp_eq (tg := 774) kd_L_law_769 (by decide) (fun _ => ?_) (fun e => absurd (congrArg iI hco) e)
  refine ar_iload kd_L_law_774 rfl ?_
  refine ar_if_ne (tg := 791) kd_L_law_776 (by decide) (fun _ => ?_) (fun e => ?_)
  · refine ar_goto (tg := 1111) kd_L_law_791 (by decide) ?_
    exact kk _ _ _ _ _ _ hrel
  · have e0 : r = 0 := (ii_eq (by omega) (by decide)).mp e
    refine ar_aload_n kd_L_law_779 rfl ?_
    refine ar_iconst kd_L_law_780 ?_
    refine az_lald0 kd_L_law_781 ?_
    refine ar_iload kd_L_law_782 rfl ?_
    refine ar_i2l kd_L_law_784 ?_
    refine ar_lcmp kd_L_law_785 ?_
    refine ar_if_eq (tg := 791) kd_L_law_786 (by decide) (fun _ => ?_) (fun q => absurd (by rw [hv e0]; exact lg_self _) q)
    refine ar_goto (tg := 1111) kd_L_law_791 (by decide) ?_
    exact kk _ _ _ _ _ _ hrel
set_option maxHeartbeats 1000000 in
set_option maxRecDepth 20000 in
theorem sg_bar {N : Nat} {f : Nat → Int32} {i : Nat} {c : cS} {m : mS} {o : Nat → Int64} {n cu su : Nat} {l5 l6 : Option Value} {Q : am_O → am_H → Nat → Prop} (h : rel c m) (hi : i + 4 < N) (hN : N < 2147483648) (hcu : cu + 8 ≤ 648338) (hsu : su + 48 ≤ 7151090) (kk : ∀ (c' : cS) (m' : mS) (o' : Nat → Int64) (n' : Nat) (l5' l6' : Option Value), rel c' m' → am_W 20 km_L_law 1111 [some (.ref 0), some (.ref 4), some (.ref 50), some (.ref 68), some (.int (iI (i : Int))), l5', l6'] [] (hC (am_ia N f) c' (hM m' [am_la 1 o'])) n' (cu + 8) (su + 48) Q) : am_W 20 km_L_law 794 [some (.ref 0), some (.ref 4), some (.ref 50), some (.ref 68), some (.int (iI (i : Int))), l5, l6] [] (hC (am_ia N f) c (hM m [am_la 1 o])) n cu su Q := by
  obtain ⟨r, c', o', n', hr, hw, hm⟩ := op_bar (x := am_ia N f) (o := o) (n := n) h (f (i + 1))
  refine ar_aload_n kd_L_law_794 rfl ?_
  refine ar_aload_n kd_L_law_795 rfl ?_
  refine ar_iload kd_L_law_796 rfl ?_
  refine ar_iconst kd_L_law_798 ?_
  refine az_iadd kd_L_law_799 ?_
  refine az_ialdR kd_L_law_800 rfl (k := i + 1) (by omega) (by omega) ?_
  refine ar_aload_n kd_L_law_801 rfl ?_
  refine az_calls (z := km_L_bar) (As := [_, _, _]) kd_L_law_802 kw_523 kw_524 kw_0 kz_L_bar rfl rfl rfl rfl hcu hsu rfl hw ?_
  refine ar_istore kd_L_law_805 (Nat.le_of_ble_eq_true rfl) rfl ?_
  dsimp only [List.set]
  refine ar_aload_n kd_L_law_807 rfl ?_
  refine ar_aload_n kd_L_law_808 rfl ?_
  refine ar_iload kd_L_law_809 rfl ?_
  refine ar_iconst kd_L_law_811 ?_
  refine az_iadd kd_L_law_812 ?_
  refine az_ialdR kd_L_law_813 rfl (k := i + 1) (by omega) (by omega) ?_
  refine ar_callv (z := km_M_bar) (As := [_]) (ci := 5) kd_L_law_814 kw_812 kw_813 rfl ks_M_bar kz_M_bar rfl rfl (Nat.le_of_ble_eq_true rfl) (am_c1 rfl) (Nat.le_of_ble_eq_true rfl) hcu hsu rfl hm (fun v2 h2 n2 hq => ?_) (fun k2 i2 h2 n2 hq => by obtain ⟨_, _, e, _⟩ := hq; cases e)
  obtain ⟨v1, m', e1, rfl, rfl, hrel, hco, hv⟩ := hq
  cases e1
  refine ar_istore kd_L_law_817 (Nat.le_of_ble_eq_true rfl) rfl ?_
  dsimp only [List.set]
  refine ar_aload_n kd_L_law_819 rfl ?_
  refine az_callv (z := km_M_thrown) (As := []) (ci := 5) kd_L_law_820 kw_684 kw_685 rfl ks_M_thrown kz_M_thrown rfl rfl rfl rfl rfl hcu hsu rfl sp_M_thrown ?_
  refine ar_iload kd_L_law_823 rfl ?_
  refine ar_icmp_eq (tg := 830) kd_L_law_825 (by decide) (fun _ => ?_) (fun e => absurd (congrArg iI hco) e)
  refine ar_iload kd_L_law_830 rfl ?_
  refine ar_if_ne (tg := 847) kd_L_law_832 (by decide) (fun _ => ?_) (fun e => ?_)
  · refine ar_goto (tg := 1111) kd_L_law_847 (by decide) ?_
    exact kk _ _ _ _ _ _ hrel
  · have e0 : r = 0 := (ii_eq (by omega) (by decide)).mp e
    refine ar_aload_n kd_L_law_835 rfl ?_
    refine ar_iconst kd_L_law_836 ?_
    refine az_lald0 kd_L_law_837 ?_
    refine ar_iload kd_L_law_838 rfl ?_
    refine ar_i2l kd_L_law_840 ?_
    refine ar_lcmp kd_L_law_841 ?_
    refine ar_if_eq (tg := 847) kd_L_law_842 (by decide) (fun _ => ?_) (fun q => absurd (by rw [hv e0]; exact lg_self _) q)
    refine ar_goto (tg := 1111) kd_L_law_847 (by decide) ?_
    exact kk _ _ _ _ _ _ hrel
set_option maxHeartbeats 1000000 in
set_option maxRecDepth 20000 in
theorem sg_change {N : Nat} {f : Nat → Int32} {i : Nat} {c : cS} {m : mS} {o : Nat → Int64} {n cu su : Nat} {l5 l6 : Option Value} {Q : am_O → am_H → Nat → Prop} (h : rel c m) (hi : i + 4 < N) (hN : N < 2147483648) (hcu : cu + 8 ≤ 648338) (hsu : su + 48 ≤ 7151090) (kk : ∀ (c' : cS) (m' : mS) (o' : Nat → Int64) (n' : Nat) (l5' l6' : Option Value), rel c' m' → am_W 20 km_L_law 1111 [some (.ref 0), some (.ref 4), some (.ref 50), some (.ref 68), some (.int (iI (i : Int))), l5', l6'] [] (hC (am_ia N f) c' (hM m' [am_la 1 o'])) n' (cu + 8) (su + 48) Q) : am_W 20 km_L_law 850 [some (.ref 0), some (.ref 4), some (.ref 50), some (.ref 68), some (.int (iI (i : Int))), l5, l6] [] (hC (am_ia N f) c (hM m [am_la 1 o])) n cu su Q := by
  obtain ⟨r, c', o', n', hr, hw, hm⟩ := op_change (x := am_ia N f) (o := o) (n := n) h (f (i + 1)) (f (i + 2))
  refine ar_aload_n kd_L_law_850 rfl ?_
  refine ar_aload_n kd_L_law_851 rfl ?_
  refine ar_iload kd_L_law_852 rfl ?_
  refine ar_iconst kd_L_law_854 ?_
  refine az_iadd kd_L_law_855 ?_
  refine az_ialdR kd_L_law_856 rfl (k := i + 1) (by omega) (by omega) ?_
  refine ar_aload_n kd_L_law_857 rfl ?_
  refine ar_iload kd_L_law_858 rfl ?_
  refine ar_iconst kd_L_law_860 ?_
  refine az_iadd kd_L_law_861 ?_
  refine az_ialdR kd_L_law_862 rfl (k := i + 2) (by omega) (by omega) ?_
  refine ar_aload_n kd_L_law_863 rfl ?_
  refine az_calls (z := km_L_change) (As := [_, _, _, _]) kd_L_law_864 kw_537 kw_538 kw_0 kz_L_change rfl rfl rfl rfl hcu hsu rfl hw ?_
  refine ar_istore kd_L_law_867 (Nat.le_of_ble_eq_true rfl) rfl ?_
  dsimp only [List.set]
  refine ar_aload_n kd_L_law_869 rfl ?_
  refine ar_aload_n kd_L_law_870 rfl ?_
  refine ar_iload kd_L_law_871 rfl ?_
  refine ar_iconst kd_L_law_873 ?_
  refine az_iadd kd_L_law_874 ?_
  refine az_ialdR kd_L_law_875 rfl (k := i + 1) (by omega) (by omega) ?_
  refine ar_aload_n kd_L_law_876 rfl ?_
  refine ar_iload kd_L_law_877 rfl ?_
  refine ar_iconst kd_L_law_879 ?_
  refine az_iadd kd_L_law_880 ?_
  refine az_ialdR kd_L_law_881 rfl (k := i + 2) (by omega) (by omega) ?_
  refine ar_callv (z := km_M_change) (As := [_, _]) (ci := 5) kd_L_law_882 kw_816 kw_817 rfl ks_M_change kz_M_change rfl rfl (Nat.le_of_ble_eq_true rfl) (am_c1 rfl) (Nat.le_of_ble_eq_true rfl) hcu hsu rfl hm (fun v2 h2 n2 hq => ?_) (fun k2 i2 h2 n2 hq => by obtain ⟨_, _, e, _⟩ := hq; cases e)
  obtain ⟨v1, m', e1, rfl, rfl, hrel, hco, hv⟩ := hq
  cases e1
  refine ar_istore kd_L_law_885 (Nat.le_of_ble_eq_true rfl) rfl ?_
  dsimp only [List.set]
  refine ar_aload_n kd_L_law_887 rfl ?_
  refine az_callv (z := km_M_thrown) (As := []) (ci := 5) kd_L_law_888 kw_684 kw_685 rfl ks_M_thrown kz_M_thrown rfl rfl rfl rfl rfl hcu hsu rfl sp_M_thrown ?_
  refine ar_iload kd_L_law_891 rfl ?_
  refine ar_icmp_eq (tg := 898) kd_L_law_893 (by decide) (fun _ => ?_) (fun e => absurd (congrArg iI hco) e)
  refine ar_iload kd_L_law_898 rfl ?_
  refine ar_if_ne (tg := 915) kd_L_law_900 (by decide) (fun _ => ?_) (fun e => ?_)
  · refine ar_goto (tg := 1111) kd_L_law_915 (by decide) ?_
    exact kk _ _ _ _ _ _ hrel
  · have e0 : r = 0 := (ii_eq (by omega) (by decide)).mp e
    refine ar_aload_n kd_L_law_903 rfl ?_
    refine ar_iconst kd_L_law_904 ?_
    refine az_lald0 kd_L_law_905 ?_
    refine ar_iload kd_L_law_906 rfl ?_
    refine ar_i2l kd_L_law_908 ?_
    refine ar_lcmp kd_L_law_909 ?_
    refine ar_if_eq (tg := 915) kd_L_law_910 (by decide) (fun _ => ?_) (fun q => absurd (by rw [hv e0]; exact lg_self _) q)
    refine ar_goto (tg := 1111) kd_L_law_915 (by decide) ?_
    exact kk _ _ _ _ _ _ hrel
set_option maxHeartbeats 1000000 in
set_option maxRecDepth 20000 in
theorem sg_undo {N : Nat} {f : Nat → Int32} {i : Nat} {c : cS} {m : mS} {o : Nat → Int64} {n cu su : Nat} {l5 l6 : Option Value} {Q : am_O → am_H → Nat → Prop} (h : rel c m) (hi : i + 4 < N) (hN : N < 2147483648) (hcu : cu + 8 ≤ 648338) (hsu : su + 48 ≤ 7151090) (kk : ∀ (c' : cS) (m' : mS) (o' : Nat → Int64) (n' : Nat) (l5' l6' : Option Value), rel c' m' → am_W 20 km_L_law 1111 [some (.ref 0), some (.ref 4), some (.ref 50), some (.ref 68), some (.int (iI (i : Int))), l5', l6'] [] (hC (am_ia N f) c' (hM m' [am_la 1 o'])) n' (cu + 8) (su + 48) Q) : am_W 20 km_L_law 918 [some (.ref 0), some (.ref 4), some (.ref 50), some (.ref 68), some (.int (iI (i : Int))), l5, l6] [] (hC (am_ia N f) c (hM m [am_la 1 o])) n cu su Q := by
  obtain ⟨r, c', o', n', hr, hw, hm⟩ := op_undo (x := am_ia N f) (o := o) (n := n) h (f (i + 1))
  refine ar_aload_n kd_L_law_918 rfl ?_
  refine ar_aload_n kd_L_law_919 rfl ?_
  refine ar_iload kd_L_law_920 rfl ?_
  refine ar_iconst kd_L_law_922 ?_
  refine az_iadd kd_L_law_923 ?_
  refine az_ialdR kd_L_law_924 rfl (k := i + 1) (by omega) (by omega) ?_
  refine ar_aload_n kd_L_law_925 rfl ?_
  refine az_calls (z := km_L_undo) (As := [_, _, _]) kd_L_law_926 kw_552 kw_553 kw_0 kz_L_undo rfl rfl rfl rfl hcu hsu rfl hw ?_
  refine ar_istore kd_L_law_929 (Nat.le_of_ble_eq_true rfl) rfl ?_
  dsimp only [List.set]
  refine ar_aload_n kd_L_law_931 rfl ?_
  refine ar_aload_n kd_L_law_932 rfl ?_
  refine ar_iload kd_L_law_933 rfl ?_
  refine ar_iconst kd_L_law_935 ?_
  refine az_iadd kd_L_law_936 ?_
  refine az_ialdR kd_L_law_937 rfl (k := i + 1) (by omega) (by omega) ?_
  refine ar_callv (z := km_M_undo) (As := [_]) (ci := 5) kd_L_law_938 kw_820 kw_821 rfl ks_M_undo kz_M_undo rfl rfl (Nat.le_of_ble_eq_true rfl) (am_c1 rfl) (Nat.le_of_ble_eq_true rfl) hcu hsu rfl hm (fun v2 h2 n2 hq => ?_) (fun k2 i2 h2 n2 hq => by obtain ⟨_, _, e, _⟩ := hq; cases e)
  obtain ⟨v1, m', e1, rfl, rfl, hrel, hco, hv⟩ := hq
  cases e1
  refine ar_istore kd_L_law_941 (Nat.le_of_ble_eq_true rfl) rfl ?_
  dsimp only [List.set]
  refine ar_aload_n kd_L_law_943 rfl ?_
  refine az_callv (z := km_M_thrown) (As := []) (ci := 5) kd_L_law_944 kw_684 kw_685 rfl ks_M_thrown kz_M_thrown rfl rfl rfl rfl rfl hcu hsu rfl sp_M_thrown ?_
  refine ar_iload kd_L_law_947 rfl ?_
  refine ar_icmp_eq (tg := 954) kd_L_law_949 (by decide) (fun _ => ?_) (fun e => absurd (congrArg iI hco) e)
  refine ar_iload kd_L_law_954 rfl ?_
  refine ar_if_ne (tg := 971) kd_L_law_956 (by decide) (fun _ => ?_) (fun e => ?_)
  · refine ar_goto (tg := 1111) kd_L_law_971 (by decide) ?_
    exact kk _ _ _ _ _ _ hrel
  · have e0 : r = 0 := (ii_eq (by omega) (by decide)).mp e
    refine ar_aload_n kd_L_law_959 rfl ?_
    refine ar_iconst kd_L_law_960 ?_
    refine az_lald0 kd_L_law_961 ?_
    refine ar_iload kd_L_law_962 rfl ?_
    refine ar_i2l kd_L_law_964 ?_
    refine ar_lcmp kd_L_law_965 ?_
    refine ar_if_eq (tg := 971) kd_L_law_966 (by decide) (fun _ => ?_) (fun q => absurd (by rw [hv e0]; exact lg_self _) q)
    refine ar_goto (tg := 1111) kd_L_law_971 (by decide) ?_
    exact kk _ _ _ _ _ _ hrel
set_option maxHeartbeats 1000000 in
set_option maxRecDepth 20000 in
theorem sg_refused {N : Nat} {f : Nat → Int32} {i : Nat} {c : cS} {m : mS} {o : Nat → Int64} {n cu su : Nat} {l5 l6 : Option Value} {Q : am_O → am_H → Nat → Prop} (h : rel c m) (hi : i + 4 < N) (hN : N < 2147483648) (hcu : cu + 8 ≤ 648338) (hsu : su + 48 ≤ 7151090) (kk : ∀ (c' : cS) (m' : mS) (o' : Nat → Int64) (n' : Nat) (l5' l6' : Option Value), rel c' m' → am_W 20 km_L_law 1111 [some (.ref 0), some (.ref 4), some (.ref 50), some (.ref 68), some (.int (iI (i : Int))), l5', l6'] [] (hC (am_ia N f) c' (hM m' [am_la 1 o'])) n' (cu + 8) (su + 48) Q) : am_W 20 km_L_law 974 [some (.ref 0), some (.ref 4), some (.ref 50), some (.ref 68), some (.int (iI (i : Int))), l5, l6] [] (hC (am_ia N f) c (hM m [am_la 1 o])) n cu su Q := by
  obtain ⟨r, c', o', n', hr, hw, hm⟩ := op_refused (x := am_ia N f) (o := o) (n := n) h (f (i + 1))
  refine ar_aload_n kd_L_law_974 rfl ?_
  refine ar_aload_n kd_L_law_975 rfl ?_
  refine ar_iload kd_L_law_976 rfl ?_
  refine ar_iconst kd_L_law_978 ?_
  refine az_iadd kd_L_law_979 ?_
  refine az_ialdR kd_L_law_980 rfl (k := i + 1) (by omega) (by omega) ?_
  refine ar_aload_n kd_L_law_981 rfl ?_
  refine az_calls (z := km_L_refused) (As := [_, _, _]) kd_L_law_982 kw_578 kw_579 kw_0 kz_L_refused rfl rfl rfl rfl hcu hsu rfl hw ?_
  refine ar_istore kd_L_law_985 (Nat.le_of_ble_eq_true rfl) rfl ?_
  dsimp only [List.set]
  refine ar_aload_n kd_L_law_987 rfl ?_
  refine ar_aload_n kd_L_law_988 rfl ?_
  refine ar_iload kd_L_law_989 rfl ?_
  refine ar_iconst kd_L_law_991 ?_
  refine az_iadd kd_L_law_992 ?_
  refine az_ialdR kd_L_law_993 rfl (k := i + 1) (by omega) (by omega) ?_
  refine ar_callv (z := km_M_refused) (As := [_]) (ci := 5) kd_L_law_994 kw_828 kw_829 rfl ks_M_refused kz_M_refused rfl rfl (Nat.le_of_ble_eq_true rfl) (am_c1 rfl) (Nat.le_of_ble_eq_true rfl) hcu hsu rfl hm (fun v2 h2 n2 hq => ?_) (fun k2 i2 h2 n2 hq => by obtain ⟨_, _, e, _⟩ := hq; cases e)
  obtain ⟨v1, m', e1, rfl, rfl, hrel, hco, hv⟩ := hq
  cases e1
  refine ar_istore kd_L_law_997 (Nat.le_of_ble_eq_true rfl) rfl ?_
  dsimp only [List.set]
  refine ar_aload_n kd_L_law_999 rfl ?_
  refine az_callv (z := km_M_thrown) (As := []) (ci := 5) kd_L_law_1000 kw_684 kw_685 rfl ks_M_thrown kz_M_thrown rfl rfl rfl rfl rfl hcu hsu rfl sp_M_thrown ?_
  refine ar_iload kd_L_law_1003 rfl ?_
  refine ar_icmp_eq (tg := 1010) kd_L_law_1005 (by decide) (fun _ => ?_) (fun e => absurd (congrArg iI hco) e)
  refine ar_iload kd_L_law_1010 rfl ?_
  refine ar_if_ne (tg := 1027) kd_L_law_1012 (by decide) (fun _ => ?_) (fun e => ?_)
  · refine ar_goto (tg := 1111) kd_L_law_1027 (by decide) ?_
    exact kk _ _ _ _ _ _ hrel
  · have e0 : r = 0 := (ii_eq (by omega) (by decide)).mp e
    refine ar_aload_n kd_L_law_1015 rfl ?_
    refine ar_iconst kd_L_law_1016 ?_
    refine az_lald0 kd_L_law_1017 ?_
    refine ar_iload kd_L_law_1018 rfl ?_
    refine ar_i2l kd_L_law_1020 ?_
    refine ar_lcmp kd_L_law_1021 ?_
    refine ar_if_eq (tg := 1027) kd_L_law_1022 (by decide) (fun _ => ?_) (fun q => absurd (by rw [hv e0]; exact lg_self _) q)
    refine ar_goto (tg := 1111) kd_L_law_1027 (by decide) ?_
    exact kk _ _ _ _ _ _ hrel
set_option maxHeartbeats 1000000 in
set_option maxRecDepth 20000 in
theorem sg_average {N : Nat} {f : Nat → Int32} {i : Nat} {c : cS} {m : mS} {o : Nat → Int64} {n cu su : Nat} {l5 l6 : Option Value} {Q : am_O → am_H → Nat → Prop} (h : rel c m) (hi : i + 4 < N) (hN : N < 2147483648) (hcu : cu + 8 ≤ 648338) (hsu : su + 48 ≤ 7151090) (kk : ∀ (c' : cS) (m' : mS) (o' : Nat → Int64) (n' : Nat) (l5' l6' : Option Value), rel c' m' → am_W 20 km_L_law 1111 [some (.ref 0), some (.ref 4), some (.ref 50), some (.ref 68), some (.int (iI (i : Int))), l5', l6'] [] (hC (am_ia N f) c' (hM m' [am_la 1 o'])) n' (cu + 8) (su + 48) Q) : am_W 20 km_L_law 1030 [some (.ref 0), some (.ref 4), some (.ref 50), some (.ref 68), some (.int (iI (i : Int))), l5, l6] [] (hC (am_ia N f) c (hM m [am_la 1 o])) n cu su Q := by
  obtain ⟨r, c', o', n', hr, hw, hm⟩ := op_average (x := am_ia N f) (o := o) (n := n) h (f (i + 1))
  refine ar_aload_n kd_L_law_1030 rfl ?_
  refine ar_aload_n kd_L_law_1031 rfl ?_
  refine ar_iload kd_L_law_1032 rfl ?_
  refine ar_iconst kd_L_law_1034 ?_
  refine az_iadd kd_L_law_1035 ?_
  refine az_ialdR kd_L_law_1036 rfl (k := i + 1) (by omega) (by omega) ?_
  refine ar_aload_n kd_L_law_1037 rfl ?_
  refine az_calls (z := km_L_average) (As := [_, _, _]) kd_L_law_1038 kw_585 kw_586 kw_0 kz_L_average rfl rfl rfl rfl hcu hsu rfl hw ?_
  refine ar_istore kd_L_law_1041 (Nat.le_of_ble_eq_true rfl) rfl ?_
  dsimp only [List.set]
  refine ar_aload_n kd_L_law_1043 rfl ?_
  refine ar_aload_n kd_L_law_1044 rfl ?_
  refine ar_iload kd_L_law_1045 rfl ?_
  refine ar_iconst kd_L_law_1047 ?_
  refine az_iadd kd_L_law_1048 ?_
  refine az_ialdR kd_L_law_1049 rfl (k := i + 1) (by omega) (by omega) ?_
  refine ar_callv (z := km_M_average) (As := [_]) (ci := 5) kd_L_law_1050 kw_832 kw_833 rfl ks_M_average kz_M_average rfl rfl (Nat.le_of_ble_eq_true rfl) (am_c1 rfl) (Nat.le_of_ble_eq_true rfl) hcu hsu rfl hm (fun v2 h2 n2 hq => ?_) (fun k2 i2 h2 n2 hq => by obtain ⟨_, _, e, _⟩ := hq; cases e)
  obtain ⟨v1, m', e1, rfl, rfl, hrel, hco, hv⟩ := hq
  cases e1
  refine ar_istore kd_L_law_1053 (Nat.le_of_ble_eq_true rfl) rfl ?_
  dsimp only [List.set]
  refine ar_aload_n kd_L_law_1055 rfl ?_
  refine az_callv (z := km_M_thrown) (As := []) (ci := 5) kd_L_law_1056 kw_684 kw_685 rfl ks_M_thrown kz_M_thrown rfl rfl rfl rfl rfl hcu hsu rfl sp_M_thrown ?_
  refine ar_iload kd_L_law_1059 rfl ?_
  refine ar_icmp_eq (tg := 1066) kd_L_law_1061 (by decide) (fun _ => ?_) (fun e => absurd (congrArg iI hco) e)
  refine ar_iload kd_L_law_1066 rfl ?_
  refine ar_if_ne (tg := 1083) kd_L_law_1068 (by decide) (fun _ => ?_) (fun e => ?_)
  · refine ar_goto (tg := 1111) kd_L_law_1083 (by decide) ?_
    exact kk _ _ _ _ _ _ hrel
  · have e0 : r = 0 := (ii_eq (by omega) (by decide)).mp e
    refine ar_aload_n kd_L_law_1071 rfl ?_
    refine ar_iconst kd_L_law_1072 ?_
    refine az_lald0 kd_L_law_1073 ?_
    refine ar_iload kd_L_law_1074 rfl ?_
    refine ar_i2l kd_L_law_1076 ?_
    refine ar_lcmp kd_L_law_1077 ?_
    refine ar_if_eq (tg := 1083) kd_L_law_1078 (by decide) (fun _ => ?_) (fun q => absurd (by rw [hv e0]; exact lg_self _) q)
    refine ar_goto (tg := 1111) kd_L_law_1083 (by decide) ?_
    exact kk _ _ _ _ _ _ hrel
set_option maxHeartbeats 1000000 in
set_option maxRecDepth 20000 in
theorem sg_count {N : Nat} {f : Nat → Int32} {i : Nat} {c : cS} {m : mS} {o : Nat → Int64} {n cu su : Nat} {l5 l6 : Option Value} {Q : am_O → am_H → Nat → Prop} (h : rel c m) (hi : i + 4 < N) (hN : N < 2147483648) (hcu : cu + 8 ≤ 648338) (hsu : su + 48 ≤ 7151090) (kk : ∀ (c' : cS) (m' : mS) (o' : Nat → Int64) (n' : Nat) (l5' l6' : Option Value), rel c' m' → am_W 20 km_L_law 1111 [some (.ref 0), some (.ref 4), some (.ref 50), some (.ref 68), some (.int (iI (i : Int))), l5', l6'] [] (hC (am_ia N f) c' (hM m' [am_la 1 o'])) n' (cu + 8) (su + 48) Q) : am_W 20 km_L_law 1086 [some (.ref 0), some (.ref 4), some (.ref 50), some (.ref 68), some (.int (iI (i : Int))), l5, l6] [] (hC (am_ia N f) c (hM m [am_la 1 o])) n cu su Q := by
  obtain ⟨z, ez, hz⟩ := ii_of (f (i + 1))
  refine ar_aload_n kd_L_law_1086 rfl ?_
  refine ar_aload_n kd_L_law_1087 rfl ?_
  refine ar_iload kd_L_law_1088 rfl ?_
  refine ar_iconst kd_L_law_1090 ?_
  refine az_iadd kd_L_law_1091 ?_
  refine az_ialdR kd_L_law_1092 rfl (k := i + 1) (by omega) (by omega) ?_
  rw [ez]
  refine az_callv (z := km_A_count) (As := [_]) (ci := 0) kd_L_law_1093 kw_220 kw_221 rfl ks_A_count kz_A_count rfl rfl rfl rfl rfl (show cu + 0 ≤ 648338 by omega) (show su + 0 ≤ 7151090 by omega) rfl (am_deep (sp_A_count (d := 0) h.cK h.cG hz) (by decide)) ?_
  refine ar_aload_n kd_L_law_1096 rfl ?_
  refine ar_aload_n kd_L_law_1097 rfl ?_
  refine ar_iload kd_L_law_1098 rfl ?_
  refine ar_iconst kd_L_law_1100 ?_
  refine az_iadd kd_L_law_1101 ?_
  refine az_ialdR kd_L_law_1102 rfl (k := i + 1) (by omega) (by omega) ?_
  rw [ez]
  refine az_callv (z := km_M_count) (As := [_]) (ci := 5) kd_L_law_1103 kw_836 kw_837 rfl ks_M_count kz_M_count rfl rfl rfl rfl rfl (show cu + 0 ≤ 648338 by omega) (show su + 0 ≤ 7151090 by omega) rfl (am_deep (sp_M_count (d := 0) hz h.mK) (by decide)) ?_
  refine ar_icmp_eq (tg := 1111) kd_L_law_1106 (by decide) (fun _ => ?_) (fun e => absurd (congrArg iI (h.count z)) e)
  exact (kk c (ms_co m 0) o n l5 l6 (rel_co h 0)).wide (show cu + 0 + 0 ≤ cu + 8 by omega) (show su + 0 + 0 ≤ su + 48 by omega)
/-- the law answers true -/
def lawQ : am_O → am_H → Nat → Prop := fun q _ _ => q = .inl (some (.int (iI 1)))
set_option maxHeartbeats 1000000 in
set_option maxRecDepth 20000 in
theorem law_loop {N : Nat} {f : Nat → Int32} (hN : N ≤ 2560) : ∀ (g j : Nat), N + 5 - 5 * j < g → ∀ (c : cS) (m : mS) (o : Nat → Int64) (n cu su : Nat) (l5 l6 : Option Value), rel c m → j ≤ 512 → cu ≤ 1000 + 8 * j → su ≤ 10000 + 48 * j → am_W 20 km_L_law 23 [some (.ref 0), some (.ref 4), some (.ref 50), some (.ref 68), some (.int (iI ((5 * j : Nat) : Int))), l5, l6] [] (hC (am_ia N f) c (hM m [am_la 1 o])) n cu su lawQ := by
  intro g
  induction g with
  | zero => intro j hj; omega
  | succ g ih =>
    intro j hj c m o n cu su l5 l6 h hj2 hcu hsu
    refine ar_iload kd_L_law_23 rfl ?_
    refine ar_aload_n kd_L_law_25 rfl ?_
    refine ar_alen kd_L_law_26 rfl ?_
    rw [← ii_nat N]
    refine ar_iconst kd_L_law_27 ?_
    refine az_isub kd_L_law_28 ?_
    refine az_icmp_gt (tg := 1117) kd_L_law_29 (by decide) (fun q => ?_) (fun q => ?_) (by omega) (by omega)
    · refine ar_iconst kd_L_law_1117 ?_
      exact ar_zreturn kd_L_law_1118 rfl rfl (show cu ≤ 648338 by omega) (show su ≤ 7151090 by omega) rfl
    · have kk : ∀ (c' : cS) (m' : mS) (o' : Nat → Int64) (n' : Nat) (l5' l6' : Option Value), rel c' m' → am_W 20 km_L_law 1111 [some (.ref 0), some (.ref 4), some (.ref 50), some (.ref 68), some (.int (iI ((5 * j : Nat) : Int))), l5', l6'] [] (hC (am_ia N f) c' (hM m' [am_la 1 o'])) n' (cu + 8) (su + 48) lawQ := by
        intro c' m' o' n' l5' l6' hr
        refine az_iinc kd_L_law_1111 rfl rfl ?_
        dsimp only [List.set]
        rw [show ((5 * j : Nat) : Int) + 5 = ((5 * (j + 1) : Nat) : Int) by omega]
        refine ar_goto (tg := 23) kd_L_law_1114 (by decide) ?_
        exact ih (j + 1) (by omega) c' m' o' n' (cu + 8) (su + 48) l5' l6' hr (by omega) (by omega) (by omega)
      have b1 : 5 * j + 4 < N := by omega
      have b2 : N < 2147483648 := by omega
      have b3 : cu + 8 ≤ 648338 := by omega
      have b4 : su + 48 ≤ 7151090 := by omega
      refine ar_aload_n kd_L_law_32 rfl ?_
      refine ar_iload kd_L_law_33 rfl ?_
      refine az_ialdR kd_L_law_35 rfl (k := 5 * j) rfl (by omega) ?_
      refine az_bipush kd_L_law_36 rfl ?_
      refine ar_iand kd_L_law_38 ?_
      obtain ⟨w, hw, ew⟩ := sw31 (f (5 * j))
      rw [ew]
      by_cases hw2 : w < 18
      · rcases (show w = 0 ∨ w = 1 ∨ w = 2 ∨ w = 3 ∨ w = 4 ∨ w = 5 ∨ w = 6 ∨ w = 7 ∨ w = 8 ∨ w = 9 ∨ w = 10 ∨ w = 11 ∨ w = 12 ∨ w = 13 ∨ w = 14 ∨ w = 15 ∨ w = 16 ∨ w = 17 by omega) with rfl | rfl | rfl | rfl | rfl | rfl | rfl | rfl | rfl | rfl | rfl | rfl | rfl | rfl | rfl | rfl | rfl | rfl
        · exact ar_swIn (f := 85) (tg := 124) kd_L_law_39 (by decide) (by decide) (by decide) (by decide) (sg_lot h b1 b2 b3 b4 kk)
        · exact ar_swIn (f := 177) (tg := 216) kd_L_law_39 (by decide) (by decide) (by decide) (by decide) (sg_line h b1 b2 b3 b4 kk)
        · exact ar_swIn (f := 245) (tg := 284) kd_L_law_39 (by decide) (by decide) (by decide) (by decide) (sg_rule h b1 b2 b3 b4 kk)
        · exact ar_swIn (f := 305) (tg := 344) kd_L_law_39 (by decide) (by decide) (by decide) (by decide) (sg_cost h b1 b2 b3 b4 kk)
        · exact ar_swIn (f := 365) (tg := 404) kd_L_law_39 (by decide) (by decide) (by decide) (by decide) (sg_may h b1 b2 b3 b4 kk)
        · exact ar_swIn (f := 468) (tg := 507) kd_L_law_39 (by decide) (by decide) (by decide) (by decide) (sg_solve h b1 b2 b3 b4 kk)
        · exact ar_swIn (f := 524) (tg := 563) kd_L_law_39 (by decide) (by decide) (by decide) (by decide) (sg_exact h b1 b2 b3 b4 kk)
        · exact ar_swIn (f := 537) (tg := 576) kd_L_law_39 (by decide) (by decide) (by decide) (by decide) (sg_choices h b1 b2 b3 b4 kk)
        · exact ar_swIn (f := 550) (tg := 589) kd_L_law_39 (by decide) (by decide) (by decide) (by decide) (sg_bound h b1 b2 b3 b4 kk)
        · exact ar_swIn (f := 563) (tg := 602) kd_L_law_39 (by decide) (by decide) (by decide) (by decide) (sg_give h b1 b2 b3 b4 kk)
        · exact ar_swIn (f := 643) (tg := 682) kd_L_law_39 (by decide) (by decide) (by decide) (by decide) (sg_held h b1 b2 b3 b4 kk)
        · exact ar_swIn (f := 699) (tg := 738) kd_L_law_39 (by decide) (by decide) (by decide) (by decide) (sg_left h b1 b2 b3 b4 kk)
        · exact ar_swIn (f := 755) (tg := 794) kd_L_law_39 (by decide) (by decide) (by decide) (by decide) (sg_bar h b1 b2 b3 b4 kk)
        · exact ar_swIn (f := 811) (tg := 850) kd_L_law_39 (by decide) (by decide) (by decide) (by decide) (sg_change h b1 b2 b3 b4 kk)
        · exact ar_swIn (f := 879) (tg := 918) kd_L_law_39 (by decide) (by decide) (by decide) (by decide) (sg_undo h b1 b2 b3 b4 kk)
        · exact ar_swIn (f := 935) (tg := 974) kd_L_law_39 (by decide) (by decide) (by decide) (by decide) (sg_refused h b1 b2 b3 b4 kk)
        · exact ar_swIn (f := 991) (tg := 1030) kd_L_law_39 (by decide) (by decide) (by decide) (by decide) (sg_average h b1 b2 b3 b4 kk)
        · exact ar_swIn (f := 1047) (tg := 1086) kd_L_law_39 (by decide) (by decide) (by decide) (by decide) (sg_count h b1 b2 b3 b4 kk)
      · refine ar_swOut (tg := 1111) kd_L_law_39 (Or.inr ?_) (by decide) ?_
        · rw [ii_toInt (by omega) (by omega)]
          omega
        · exact (kk c m o n l5 l6 h).wide (by omega) (by omega)
set_option maxHeartbeats 1000000 in
set_option maxRecDepth 20000 in
theorem sp_L_law {N : Nat} {f : Nat → Int32} (hN : N ≤ 2560) : am_W 20 km_L_law 0 [some (.ref 0), none, none, none, none, none, none] [] [am_ia N f, am_ia 4 (fun j => iI (hs_least j)), am_ia 4 (fun j => iI (hs_most j)), am_ia 4 (fun j => iI (hs_first j))] 4 0 0 lawQ := by
  refine ar_new (ci := 0) (fs := [.null, .null, .null, .null, .int 0]) kd_L_law_0 rfl kw_17 kw_18 kw_1 rfl (Nat.le_of_ble_eq_true rfl) (Nat.le_of_ble_eq_true rfl) (fun k hk => hf_0 hk) ?_
  refine ar_heap (h' := [am_ia N f, am_ia 4 (fun j => iI (hs_least j)), am_ia 4 (fun j => iI (hs_most j)), am_ia 4 (fun j => iI (hs_first j)), am_ob 0 [.null, .null, .null, .null, .int 0]]) rfl ?_
  refine ar_dup kd_L_law_3 rfl ?_
  refine az_init (z := km_A_init) (As := []) kd_L_law_4 rfl (Or.inl kw_19) kw_20 kw_21 kz_A_init rfl rfl rfl rfl (Nat.le_of_ble_eq_true rfl) (Nat.le_of_ble_eq_true rfl) rfl (am_deep (sp_A_new (d := 0)) (by decide)) ?_
  refine ar_astore_n kd_L_law_7 (Nat.le_of_ble_eq_true rfl) rfl ?_
  dsimp only [List.set]
  refine ar_new (ci := 5) (fs := [.int 0, .int 0, .null, .null, .null, .null, .int 0, .null, .null, .null, .null, .null, .null, .int 0, .null, .null, .null, .null, .null, .null, .null]) kd_L_law_8 rfl kw_613 kw_614 kw_6 rfl (Nat.le_of_ble_eq_true rfl) (Nat.le_of_ble_eq_true rfl) (fun k hk => hf_5 hk) ?_
  refine ar_heap (h' := hC (am_ia N f) c00 [am_ob 5 [.int 0, .int 0, .null, .null, .null, .null, .int 0, .null, .null, .null, .null, .null, .null, .int 0, .null, .null, .null, .null, .null, .null, .null]]) rfl ?_
  refine ar_dup kd_L_law_11 rfl ?_
  refine az_init (z := km_M_init) (As := []) kd_L_law_12 rfl (Or.inl kw_615) kw_616 kw_617 kz_M_init rfl rfl rfl rfl (Nat.le_of_ble_eq_true rfl) (Nat.le_of_ble_eq_true rfl) rfl sp_M_init ?_
  refine ar_astore_n kd_L_law_15 (Nat.le_of_ble_eq_true rfl) rfl ?_
  dsimp only [List.set]
  refine ar_iconst kd_L_law_16 ?_
  refine ar_newl (N := 1) kd_L_law_17 (by decide) (by decide) (by decide) rfl (Nat.le_of_ble_eq_true rfl) (Nat.le_of_ble_eq_true rfl) ?_
  refine ar_heap (h' := hC (am_ia N f) c00 (hM (m00 48) [am_la 1 (fun _ => 0)])) rfl ?_
  refine ar_astore_n kd_L_law_19 (Nat.le_of_ble_eq_true rfl) rfl ?_
  dsimp only [List.set]
  refine ar_iconst kd_L_law_20 ?_
  refine ar_istore kd_L_law_21 (Nat.le_of_ble_eq_true rfl) rfl ?_
  dsimp only [List.set]
  exact law_loop hN (N + 6) 0 (by omega) c00 (m00 48) (fun _ => 0) 69 _ _ none none rel0 (by omega) (by decide) (by decide)
