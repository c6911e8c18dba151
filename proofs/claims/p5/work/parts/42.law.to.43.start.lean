section
section
variable {p : Program} {l : Launch} {e : Env} {s : State} {m : MethodId} {below : List Frame} {meth : Method} {c : Code} {b L : Nat} {xs : Nat → Int32} {D : va_G} {cy : Nat → ClassId} {ax ay : Nat → Nat} {cells slots pc : Nat} {lv : List (Nat × Value)} {st : List Value} {MX MY : Mem}
def stp0 (n0 : Nat) (a : Nat → Int32) (MX MY : Mem) : Option (Mem × Mem) := (fX11_feed n0 (a 1) (a 2) (a 3) (a 4) (a 5) MX).bind fun zx => (fX12_feed n0 (a 1) (a 2) (a 3) (a 4) (a 5) MY).bind fun zy => some (zx.2, zy.2)
theorem cas0 (n0 : Nat) {j : Nat} (hO : OKl p s m meth c b L xs D cy ax ay) (hj : j + 6 ≤ L) (hL : L ≤ 3072) (hcs : cells ≤ 600000) (hsl : slots ≤ 7302250) {Z : Mem × Mem} (h : stp0 n0 (fun t => xs (j + t)) MX MY = some Z) (K : LB p l e s m below meth c b D cy ax ay cells slots 1072 [(0, .ref b), (1, .ref (ax 0)), (2, .ref (ay 0)), (3, .int (nI j))] [] Z.1 Z.2) : LB p l e s m below meth c b D cy ax ay cells slots 176 [(0, .ref b), (1, .ref (ax 0)), (2, .ref (ay 0)), (3, .int (nI j))] [] MX MY := by
  obtain ⟨zx, hX, h⟩ := Option.bind_eq_some_iff.mp h
  obtain ⟨zy, hY, h⟩ := Option.bind_eq_some_iff.mp h
  cases h
  refine l_aload_n hO dL_law_176 1 rfl rfl ?_
  refine l_aload_n hO dL_law_177 0 rfl rfl ?_
  refine l_iload_n hO dL_law_178 3 rfl rfl ?_
  refine l_iconst hO dL_law_179 ic_i_1 ?_
  refine l_iadd hO dL_law_180 (v := nI (j + 1)) (nI_add j 1) ?_
  refine l_sld hO (n := j + 1) (by omega) (by omega) rfl dL_law_181 ?_
  refine l_aload_n hO dL_law_182 0 rfl rfl ?_
  refine l_iload_n hO dL_law_183 3 rfl rfl ?_
  refine l_iconst hO dL_law_184 ic_i_2 ?_
  refine l_iadd hO dL_law_185 (v := nI (j + 2)) (nI_add j 2) ?_
  refine l_sld hO (n := j + 2) (by omega) (by omega) rfl dL_law_186 ?_
  refine l_aload_n hO dL_law_187 0 rfl rfl ?_
  refine l_iload_n hO dL_law_188 3 rfl rfl ?_
  refine l_iconst hO dL_law_189 ic_i_3 ?_
  refine l_iadd hO dL_law_190 (v := nI (j + 3)) (nI_add j 3) ?_
  refine l_sld hO (n := j + 3) (by omega) (by omega) rfl dL_law_191 ?_
  refine l_aload_n hO dL_law_192 0 rfl rfl ?_
  refine l_iload_n hO dL_law_193 3 rfl rfl ?_
  refine l_iconst hO dL_law_194 ic_i_4 ?_
  refine l_iadd hO dL_law_195 (v := nI (j + 4)) (nI_add j 4) ?_
  refine l_sld hO (n := j + 4) (by omega) (by omega) rfl dL_law_196 ?_
  refine l_aload_n hO dL_law_197 0 rfl rfl ?_
  refine l_iload_n hO dL_law_198 3 rfl rfl ?_
  refine l_iconst hO dL_law_199 ic_i_5 ?_
  refine l_iadd hO dL_law_200 (v := nI (j + 5)) (nI_add j 5) ?_
  refine l_sld hO (n := j + 5) (by omega) (by omega) rfl dL_law_201 ?_
  refine l_callXI hO hX mdX11_feed mvX11_feed rfl w663 (As := [.int _, .int _, .int _, .int _, .int _]) (st := []) (ctX11_feed n0 hO.2.2.2.2.2.2.1 _ _ _ _ _ _) (Nat.le_of_ble_eq_true rfl) rfl rfl (Nat.le_of_ble_eq_true rfl) hcs hsl dL_law_202 ?_
  refine l_pop hO dL_law_205 ?_
  refine l_aload_n hO dL_law_206 2 rfl rfl ?_
  refine l_aload_n hO dL_law_207 0 rfl rfl ?_
  refine l_iload_n hO dL_law_208 3 rfl rfl ?_
  refine l_iconst hO dL_law_209 ic_i_1 ?_
  refine l_iadd hO dL_law_210 (v := nI (j + 1)) (nI_add j 1) ?_
  refine l_sld hO (n := j + 1) (by omega) (by omega) rfl dL_law_211 ?_
  refine l_aload_n hO dL_law_212 0 rfl rfl ?_
  refine l_iload_n hO dL_law_213 3 rfl rfl ?_
  refine l_iconst hO dL_law_214 ic_i_2 ?_
  refine l_iadd hO dL_law_215 (v := nI (j + 2)) (nI_add j 2) ?_
  refine l_sld hO (n := j + 2) (by omega) (by omega) rfl dL_law_216 ?_
  refine l_aload_n hO dL_law_217 0 rfl rfl ?_
  refine l_iload_n hO dL_law_218 3 rfl rfl ?_
  refine l_iconst hO dL_law_219 ic_i_3 ?_
  refine l_iadd hO dL_law_220 (v := nI (j + 3)) (nI_add j 3) ?_
  refine l_sld hO (n := j + 3) (by omega) (by omega) rfl dL_law_221 ?_
  refine l_aload_n hO dL_law_222 0 rfl rfl ?_
  refine l_iload_n hO dL_law_223 3 rfl rfl ?_
  refine l_iconst hO dL_law_224 ic_i_4 ?_
  refine l_iadd hO dL_law_225 (v := nI (j + 4)) (nI_add j 4) ?_
  refine l_sld hO (n := j + 4) (by omega) (by omega) rfl dL_law_226 ?_
  refine l_aload_n hO dL_law_227 0 rfl rfl ?_
  refine l_iload_n hO dL_law_228 3 rfl rfl ?_
  refine l_iconst hO dL_law_229 ic_i_5 ?_
  refine l_iadd hO dL_law_230 (v := nI (j + 5)) (nI_add j 5) ?_
  refine l_sld hO (n := j + 5) (by omega) (by omega) rfl dL_law_231 ?_
  refine l_callYI hO hY mdX12_feed mvX12_feed rfl w1449 (As := [.int _, .int _, .int _, .int _, .int _]) (st := []) (ctX12_feed n0 hO.2.2.2.2.2.2.2.1 _ _ _ _ _ _) (Nat.le_of_ble_eq_true rfl) rfl rfl (Nat.le_of_ble_eq_true rfl) hcs hsl dL_law_232 ?_
  refine l_pop hO dL_law_235 ?_
  refine l_goto (pc := 236) hO dL_law_236 (tgt := 1072) (by decide) ?_
  exact K
def stp1 (n0 : Nat) (a : Nat → Int32) (MX MY : Mem) : Option (Mem × Mem) := (fX11_end n0 (a 1) MX).bind fun zx => (fX12_end n0 (a 1) MY).bind fun zy => some (zx.2, zy.2)
theorem cas1 (n0 : Nat) {j : Nat} (hO : OKl p s m meth c b L xs D cy ax ay) (hj : j + 6 ≤ L) (hL : L ≤ 3072) (hcs : cells ≤ 600000) (hsl : slots ≤ 7302250) {Z : Mem × Mem} (h : stp1 n0 (fun t => xs (j + t)) MX MY = some Z) (K : LB p l e s m below meth c b D cy ax ay cells slots 1072 [(0, .ref b), (1, .ref (ax 0)), (2, .ref (ay 0)), (3, .int (nI j))] [] Z.1 Z.2) : LB p l e s m below meth c b D cy ax ay cells slots 239 [(0, .ref b), (1, .ref (ax 0)), (2, .ref (ay 0)), (3, .int (nI j))] [] MX MY := by
  obtain ⟨zx, hX, h⟩ := Option.bind_eq_some_iff.mp h
  obtain ⟨zy, hY, h⟩ := Option.bind_eq_some_iff.mp h
  cases h
  refine l_aload_n hO dL_law_239 1 rfl rfl ?_
  refine l_aload_n hO dL_law_240 0 rfl rfl ?_
  refine l_iload_n hO dL_law_241 3 rfl rfl ?_
  refine l_iconst hO dL_law_242 ic_i_1 ?_
  refine l_iadd hO dL_law_243 (v := nI (j + 1)) (nI_add j 1) ?_
  refine l_sld hO (n := j + 1) (by omega) (by omega) rfl dL_law_244 ?_
  refine l_callXI hO hX mdX11_end mvX11_end rfl w679 (As := [.int _]) (st := []) (ctX11_end n0 hO.2.2.2.2.2.2.1 _ _) (Nat.le_of_ble_eq_true rfl) rfl rfl (Nat.le_of_ble_eq_true rfl) hcs hsl dL_law_245 ?_
  refine l_pop hO dL_law_248 ?_
  refine l_aload_n hO dL_law_249 2 rfl rfl ?_
  refine l_aload_n hO dL_law_250 0 rfl rfl ?_
  refine l_iload_n hO dL_law_251 3 rfl rfl ?_
  refine l_iconst hO dL_law_252 ic_i_1 ?_
  refine l_iadd hO dL_law_253 (v := nI (j + 1)) (nI_add j 1) ?_
  refine l_sld hO (n := j + 1) (by omega) (by omega) rfl dL_law_254 ?_
  refine l_callYI hO hY mdX12_end mvX12_end rfl w1461 (As := [.int _]) (st := []) (ctX12_end n0 hO.2.2.2.2.2.2.2.1 _ _) (Nat.le_of_ble_eq_true rfl) rfl rfl (Nat.le_of_ble_eq_true rfl) hcs hsl dL_law_255 ?_
  refine l_pop hO dL_law_258 ?_
  refine l_goto (pc := 259) hO dL_law_259 (tgt := 1072) (by decide) ?_
  exact K
def stp2 (n0 : Nat) (a : Nat → Int32) (MX MY : Mem) : Option (Mem × Mem) := (fX11_town n0 MX).bind fun zx => (fX12_town n0 MY).bind fun zy => some (zx.2, zy.2)
theorem cas2 (n0 : Nat) {j : Nat} (hO : OKl p s m meth c b L xs D cy ax ay) (hj : j + 6 ≤ L) (hL : L ≤ 3072) (hcs : cells ≤ 600000) (hsl : slots ≤ 7302250) {Z : Mem × Mem} (h : stp2 n0 (fun t => xs (j + t)) MX MY = some Z) (K : LB p l e s m below meth c b D cy ax ay cells slots 1072 [(0, .ref b), (1, .ref (ax 0)), (2, .ref (ay 0)), (3, .int (nI j))] [] Z.1 Z.2) : LB p l e s m below meth c b D cy ax ay cells slots 262 [(0, .ref b), (1, .ref (ax 0)), (2, .ref (ay 0)), (3, .int (nI j))] [] MX MY := by
  obtain ⟨zx, hX, h⟩ := Option.bind_eq_some_iff.mp h
  obtain ⟨zy, hY, h⟩ := Option.bind_eq_some_iff.mp h
  cases h
  refine l_aload_n hO dL_law_262 1 rfl rfl ?_
  refine l_callXI hO hX mdX11_town mvX11_town rfl w683 (As := []) (st := []) (ctX11_town n0 hO.2.2.2.2.2.2.1 _) (Nat.le_of_ble_eq_true rfl) rfl rfl (Nat.le_of_ble_eq_true rfl) hcs hsl dL_law_263 ?_
  refine l_pop hO dL_law_266 ?_
  refine l_aload_n hO dL_law_267 2 rfl rfl ?_
  refine l_callYI hO hY mdX12_town mvX12_town rfl w1465 (As := []) (st := []) (ctX12_town n0 hO.2.2.2.2.2.2.2.1 _) (Nat.le_of_ble_eq_true rfl) rfl rfl (Nat.le_of_ble_eq_true rfl) hcs hsl dL_law_268 ?_
  refine l_pop hO dL_law_271 ?_
  refine l_goto (pc := 272) hO dL_law_272 (tgt := 1072) (by decide) ?_
  exact K
def stp3 (n0 : Nat) (a : Nat → Int32) (MX MY : Mem) : Option (Mem × Mem) := (fX11_fault n0 (a 1) MX).bind fun zx => (fX12_fault n0 (a 1) MY).bind fun zy => if zx.1 = zy.1 then some (zx.2, zy.2) else none
theorem cas3 (n0 : Nat) {j : Nat} (hO : OKl p s m meth c b L xs D cy ax ay) (hj : j + 6 ≤ L) (hL : L ≤ 3072) (hcs : cells ≤ 600000) (hsl : slots ≤ 7302250) {Z : Mem × Mem} (h : stp3 n0 (fun t => xs (j + t)) MX MY = some Z) (K : LB p l e s m below meth c b D cy ax ay cells slots 1072 [(0, .ref b), (1, .ref (ax 0)), (2, .ref (ay 0)), (3, .int (nI j))] [] Z.1 Z.2) : LB p l e s m below meth c b D cy ax ay cells slots 275 [(0, .ref b), (1, .ref (ax 0)), (2, .ref (ay 0)), (3, .int (nI j))] [] MX MY := by
  obtain ⟨zx, hX, h⟩ := Option.bind_eq_some_iff.mp h
  obtain ⟨zy, hY, h⟩ := Option.bind_eq_some_iff.mp h
  have hE : zx.1 = zy.1 := by
    by_cases q : zx.1 = zy.1
    · exact q
    · rw [if_neg q] at h; cases h
  rw [if_pos hE] at h
  cases h
  refine l_aload_n hO dL_law_275 1 rfl rfl ?_
  refine l_aload_n hO dL_law_276 0 rfl rfl ?_
  refine l_iload_n hO dL_law_277 3 rfl rfl ?_
  refine l_iconst hO dL_law_278 ic_i_1 ?_
  refine l_iadd hO dL_law_279 (v := nI (j + 1)) (nI_add j 1) ?_
  refine l_sld hO (n := j + 1) (by omega) (by omega) rfl dL_law_280 ?_
  refine l_callXI hO hX mdX11_fault mvX11_fault rfl w904 (As := [.int _]) (st := []) (ctX11_fault n0 hO.2.2.2.2.2.2.1 _ _) (Nat.le_of_ble_eq_true rfl) rfl rfl (Nat.le_of_ble_eq_true rfl) hcs hsl dL_law_281 ?_
  refine l_aload_n hO dL_law_284 2 rfl rfl ?_
  refine l_aload_n hO dL_law_285 0 rfl rfl ?_
  refine l_iload_n hO dL_law_286 3 rfl rfl ?_
  refine l_iconst hO dL_law_287 ic_i_1 ?_
  refine l_iadd hO dL_law_288 (v := nI (j + 1)) (nI_add j 1) ?_
  refine l_sld hO (n := j + 1) (by omega) (by omega) rfl dL_law_289 ?_
  refine l_callYI hO hY mdX12_fault mvX12_fault rfl w1689 (As := [.int _]) (st := [.int _]) (ctX12_fault n0 hO.2.2.2.2.2.2.2.1 _ _) (Nat.le_of_ble_eq_true rfl) rfl rfl (Nat.le_of_ble_eq_true rfl) hcs hsl dL_law_290 ?_
  refine l_icmpeq (pc := 293) hO dL_law_293 (tgt := 1072) (by decide) hE ?_
  exact K
def stp4 (n0 : Nat) (a : Nat → Int32) (MX MY : Mem) : Option (Mem × Mem) := (fX11_has n0 (a 1) MX).bind fun zx => (fX12_has n0 (a 1) MY).bind fun zy => some (zx.2, zy.2)
theorem cas4 (n0 : Nat) {j : Nat} (hO : OKl p s m meth c b L xs D cy ax ay) (hj : j + 6 ≤ L) (hL : L ≤ 3072) (hcs : cells ≤ 600000) (hsl : slots ≤ 7302250) {Z : Mem × Mem} (h : stp4 n0 (fun t => xs (j + t)) MX MY = some Z) (K : LB p l e s m below meth c b D cy ax ay cells slots 1072 [(0, .ref b), (1, .ref (ax 0)), (2, .ref (ay 0)), (3, .int (nI j))] [] Z.1 Z.2) : LB p l e s m below meth c b D cy ax ay cells slots 298 [(0, .ref b), (1, .ref (ax 0)), (2, .ref (ay 0)), (3, .int (nI j))] [] MX MY := by
  obtain ⟨zx, hX, h⟩ := Option.bind_eq_some_iff.mp h
  obtain ⟨zy, hY, h⟩ := Option.bind_eq_some_iff.mp h
  cases h
  refine l_aload_n hO dL_law_298 1 rfl rfl ?_
  refine l_aload_n hO dL_law_299 0 rfl rfl ?_
  refine l_iload_n hO dL_law_300 3 rfl rfl ?_
  refine l_iconst hO dL_law_301 ic_i_1 ?_
  refine l_iadd hO dL_law_302 (v := nI (j + 1)) (nI_add j 1) ?_
  refine l_sld hO (n := j + 1) (by omega) (by omega) rfl dL_law_303 ?_
  refine l_callXI hO hX mdX11_has mvX11_has rfl w908 (As := [.int _]) (st := []) (ctX11_has n0 hO.2.2.2.2.2.2.1 _ _) (Nat.le_of_ble_eq_true rfl) rfl rfl (Nat.le_of_ble_eq_true rfl) hcs hsl dL_law_304 ?_
  refine l_pop hO dL_law_307 ?_
  refine l_aload_n hO dL_law_308 2 rfl rfl ?_
  refine l_aload_n hO dL_law_309 0 rfl rfl ?_
  refine l_iload_n hO dL_law_310 3 rfl rfl ?_
  refine l_iconst hO dL_law_311 ic_i_1 ?_
  refine l_iadd hO dL_law_312 (v := nI (j + 1)) (nI_add j 1) ?_
  refine l_sld hO (n := j + 1) (by omega) (by omega) rfl dL_law_313 ?_
  refine l_callYI hO hY mdX12_has mvX12_has rfl w1709 (As := [.int _]) (st := []) (ctX12_has n0 hO.2.2.2.2.2.2.2.1 _ _) (Nat.le_of_ble_eq_true rfl) rfl rfl (Nat.le_of_ble_eq_true rfl) hcs hsl dL_law_314 ?_
  refine l_pop hO dL_law_317 ?_
  refine l_goto (pc := 318) hO dL_law_318 (tgt := 1072) (by decide) ?_
  exact K
def stp5 (n0 : Nat) (a : Nat → Int32) (MX MY : Mem) : Option (Mem × Mem) := (fX11_letter n0 (a 1) (a 2) (a 3) MX).bind fun zx => (fX12_letter n0 (a 1) (a 2) (a 3) MY).bind fun zy => some (zx.2, zy.2)
theorem cas5 (n0 : Nat) {j : Nat} (hO : OKl p s m meth c b L xs D cy ax ay) (hj : j + 6 ≤ L) (hL : L ≤ 3072) (hcs : cells ≤ 600000) (hsl : slots ≤ 7302250) {Z : Mem × Mem} (h : stp5 n0 (fun t => xs (j + t)) MX MY = some Z) (K : LB p l e s m below meth c b D cy ax ay cells slots 1072 [(0, .ref b), (1, .ref (ax 0)), (2, .ref (ay 0)), (3, .int (nI j))] [] Z.1 Z.2) : LB p l e s m below meth c b D cy ax ay cells slots 321 [(0, .ref b), (1, .ref (ax 0)), (2, .ref (ay 0)), (3, .int (nI j))] [] MX MY := by
  obtain ⟨zx, hX, h⟩ := Option.bind_eq_some_iff.mp h
  obtain ⟨zy, hY, h⟩ := Option.bind_eq_some_iff.mp h
  cases h
  refine l_aload_n hO dL_law_321 1 rfl rfl ?_
  refine l_aload_n hO dL_law_322 0 rfl rfl ?_
  refine l_iload_n hO dL_law_323 3 rfl rfl ?_
  refine l_iconst hO dL_law_324 ic_i_1 ?_
  refine l_iadd hO dL_law_325 (v := nI (j + 1)) (nI_add j 1) ?_
  refine l_sld hO (n := j + 1) (by omega) (by omega) rfl dL_law_326 ?_
  refine l_aload_n hO dL_law_327 0 rfl rfl ?_
  refine l_iload_n hO dL_law_328 3 rfl rfl ?_
  refine l_iconst hO dL_law_329 ic_i_2 ?_
  refine l_iadd hO dL_law_330 (v := nI (j + 2)) (nI_add j 2) ?_
  refine l_sld hO (n := j + 2) (by omega) (by omega) rfl dL_law_331 ?_
  refine l_aload_n hO dL_law_332 0 rfl rfl ?_
  refine l_iload_n hO dL_law_333 3 rfl rfl ?_
  refine l_iconst hO dL_law_334 ic_i_3 ?_
  refine l_iadd hO dL_law_335 (v := nI (j + 3)) (nI_add j 3) ?_
  refine l_sld hO (n := j + 3) (by omega) (by omega) rfl dL_law_336 ?_
  refine l_callXI hO hX mdX11_letter mvX11_letter rfl w920 (As := [.int _, .int _, .int _]) (st := []) (ctX11_letter n0 hO.2.2.2.2.2.2.1 _ _ _ _) (Nat.le_of_ble_eq_true rfl) rfl rfl (Nat.le_of_ble_eq_true rfl) hcs hsl dL_law_337 ?_
  refine l_pop hO dL_law_340 ?_
  refine l_aload_n hO dL_law_341 2 rfl rfl ?_
  refine l_aload_n hO dL_law_342 0 rfl rfl ?_
  refine l_iload_n hO dL_law_343 3 rfl rfl ?_
  refine l_iconst hO dL_law_344 ic_i_1 ?_
  refine l_iadd hO dL_law_345 (v := nI (j + 1)) (nI_add j 1) ?_
  refine l_sld hO (n := j + 1) (by omega) (by omega) rfl dL_law_346 ?_
  refine l_aload_n hO dL_law_347 0 rfl rfl ?_
  refine l_iload_n hO dL_law_348 3 rfl rfl ?_
  refine l_iconst hO dL_law_349 ic_i_2 ?_
  refine l_iadd hO dL_law_350 (v := nI (j + 2)) (nI_add j 2) ?_
  refine l_sld hO (n := j + 2) (by omega) (by omega) rfl dL_law_351 ?_
  refine l_aload_n hO dL_law_352 0 rfl rfl ?_
  refine l_iload_n hO dL_law_353 3 rfl rfl ?_
  refine l_iconst hO dL_law_354 ic_i_3 ?_
  refine l_iadd hO dL_law_355 (v := nI (j + 3)) (nI_add j 3) ?_
  refine l_sld hO (n := j + 3) (by omega) (by omega) rfl dL_law_356 ?_
  refine l_callYI hO hY mdX12_letter mvX12_letter rfl w1716 (As := [.int _, .int _, .int _]) (st := []) (ctX12_letter n0 hO.2.2.2.2.2.2.2.1 _ _ _ _) (Nat.le_of_ble_eq_true rfl) rfl rfl (Nat.le_of_ble_eq_true rfl) hcs hsl dL_law_357 ?_
  refine l_pop hO dL_law_360 ?_
  refine l_goto (pc := 361) hO dL_law_361 (tgt := 1072) (by decide) ?_
  exact K
def stp6 (n0 : Nat) (a : Nat → Int32) (MX MY : Mem) : Option (Mem × Mem) := (fX11_thing n0 (a 1) (a 2) MX).bind fun zx => (fX12_thing n0 (a 1) (a 2) MY).bind fun zy => some (zx.2, zy.2)
theorem cas6 (n0 : Nat) {j : Nat} (hO : OKl p s m meth c b L xs D cy ax ay) (hj : j + 6 ≤ L) (hL : L ≤ 3072) (hcs : cells ≤ 600000) (hsl : slots ≤ 7302250) {Z : Mem × Mem} (h : stp6 n0 (fun t => xs (j + t)) MX MY = some Z) (K : LB p l e s m below meth c b D cy ax ay cells slots 1072 [(0, .ref b), (1, .ref (ax 0)), (2, .ref (ay 0)), (3, .int (nI j))] [] Z.1 Z.2) : LB p l e s m below meth c b D cy ax ay cells slots 364 [(0, .ref b), (1, .ref (ax 0)), (2, .ref (ay 0)), (3, .int (nI j))] [] MX MY := by
  obtain ⟨zx, hX, h⟩ := Option.bind_eq_some_iff.mp h
  obtain ⟨zy, hY, h⟩ := Option.bind_eq_some_iff.mp h
  cases h
  refine l_aload_n hO dL_law_364 1 rfl rfl ?_
  refine l_aload_n hO dL_law_365 0 rfl rfl ?_
  refine l_iload_n hO dL_law_366 3 rfl rfl ?_
  refine l_iconst hO dL_law_367 ic_i_1 ?_
  refine l_iadd hO dL_law_368 (v := nI (j + 1)) (nI_add j 1) ?_
  refine l_sld hO (n := j + 1) (by omega) (by omega) rfl dL_law_369 ?_
  refine l_aload_n hO dL_law_370 0 rfl rfl ?_
  refine l_iload_n hO dL_law_371 3 rfl rfl ?_
  refine l_iconst hO dL_law_372 ic_i_2 ?_
  refine l_iadd hO dL_law_373 (v := nI (j + 2)) (nI_add j 2) ?_
  refine l_sld hO (n := j + 2) (by omega) (by omega) rfl dL_law_374 ?_
  refine l_callXI hO hX mdX11_thing mvX11_thing rfl w936 (As := [.int _, .int _]) (st := []) (ctX11_thing n0 hO.2.2.2.2.2.2.1 _ _ _) (Nat.le_of_ble_eq_true rfl) rfl rfl (Nat.le_of_ble_eq_true rfl) hcs hsl dL_law_375 ?_
  refine l_pop hO dL_law_378 ?_
  refine l_aload_n hO dL_law_379 2 rfl rfl ?_
  refine l_aload_n hO dL_law_380 0 rfl rfl ?_
  refine l_iload_n hO dL_law_381 3 rfl rfl ?_
  refine l_iconst hO dL_law_382 ic_i_1 ?_
  refine l_iadd hO dL_law_383 (v := nI (j + 1)) (nI_add j 1) ?_
  refine l_sld hO (n := j + 1) (by omega) (by omega) rfl dL_law_384 ?_
  refine l_aload_n hO dL_law_385 0 rfl rfl ?_
  refine l_iload_n hO dL_law_386 3 rfl rfl ?_
  refine l_iconst hO dL_law_387 ic_i_2 ?_
  refine l_iadd hO dL_law_388 (v := nI (j + 2)) (nI_add j 2) ?_
  refine l_sld hO (n := j + 2) (by omega) (by omega) rfl dL_law_389 ?_
  refine l_callYI hO hY mdX12_thing mvX12_thing rfl w1721 (As := [.int _, .int _]) (st := []) (ctX12_thing n0 hO.2.2.2.2.2.2.2.1 _ _ _) (Nat.le_of_ble_eq_true rfl) rfl rfl (Nat.le_of_ble_eq_true rfl) hcs hsl dL_law_390 ?_
  refine l_pop hO dL_law_393 ?_
  refine l_goto (pc := 394) hO dL_law_394 (tgt := 1072) (by decide) ?_
  exact K
def stp7 (n0 : Nat) (a : Nat → Int32) (MX MY : Mem) : Option (Mem × Mem) := (fX11_corner n0 (a 1) (a 2) MX).bind fun zx => (fX12_corner n0 (a 1) (a 2) MY).bind fun zy => some (zx.2, zy.2)
theorem cas7 (n0 : Nat) {j : Nat} (hO : OKl p s m meth c b L xs D cy ax ay) (hj : j + 6 ≤ L) (hL : L ≤ 3072) (hcs : cells ≤ 600000) (hsl : slots ≤ 7302250) {Z : Mem × Mem} (h : stp7 n0 (fun t => xs (j + t)) MX MY = some Z) (K : LB p l e s m below meth c b D cy ax ay cells slots 1072 [(0, .ref b), (1, .ref (ax 0)), (2, .ref (ay 0)), (3, .int (nI j))] [] Z.1 Z.2) : LB p l e s m below meth c b D cy ax ay cells slots 397 [(0, .ref b), (1, .ref (ax 0)), (2, .ref (ay 0)), (3, .int (nI j))] [] MX MY := by
  obtain ⟨zx, hX, h⟩ := Option.bind_eq_some_iff.mp h
  obtain ⟨zy, hY, h⟩ := Option.bind_eq_some_iff.mp h
  cases h
  refine l_aload_n hO dL_law_397 1 rfl rfl ?_
  refine l_aload_n hO dL_law_398 0 rfl rfl ?_
  refine l_iload_n hO dL_law_399 3 rfl rfl ?_
  refine l_iconst hO dL_law_400 ic_i_1 ?_
  refine l_iadd hO dL_law_401 (v := nI (j + 1)) (nI_add j 1) ?_
  refine l_sld hO (n := j + 1) (by omega) (by omega) rfl dL_law_402 ?_
  refine l_aload_n hO dL_law_403 0 rfl rfl ?_
  refine l_iload_n hO dL_law_404 3 rfl rfl ?_
  refine l_iconst hO dL_law_405 ic_i_2 ?_
  refine l_iadd hO dL_law_406 (v := nI (j + 2)) (nI_add j 2) ?_
  refine l_sld hO (n := j + 2) (by omega) (by omega) rfl dL_law_407 ?_
  refine l_callXI hO hX mdX11_corner mvX11_corner rfl w940 (As := [.int _, .int _]) (st := []) (ctX11_corner n0 hO.2.2.2.2.2.2.1 _ _ _) (Nat.le_of_ble_eq_true rfl) rfl rfl (Nat.le_of_ble_eq_true rfl) hcs hsl dL_law_408 ?_
  refine l_pop hO dL_law_411 ?_
  refine l_aload_n hO dL_law_412 2 rfl rfl ?_
  refine l_aload_n hO dL_law_413 0 rfl rfl ?_
  refine l_iload_n hO dL_law_414 3 rfl rfl ?_
  refine l_iconst hO dL_law_415 ic_i_1 ?_
  refine l_iadd hO dL_law_416 (v := nI (j + 1)) (nI_add j 1) ?_
  refine l_sld hO (n := j + 1) (by omega) (by omega) rfl dL_law_417 ?_
  refine l_aload_n hO dL_law_418 0 rfl rfl ?_
  refine l_iload_n hO dL_law_419 3 rfl rfl ?_
  refine l_iconst hO dL_law_420 ic_i_2 ?_
  refine l_iadd hO dL_law_421 (v := nI (j + 2)) (nI_add j 2) ?_
  refine l_sld hO (n := j + 2) (by omega) (by omega) rfl dL_law_422 ?_
  refine l_callYI hO hY mdX12_corner mvX12_corner rfl w1729 (As := [.int _, .int _]) (st := []) (ctX12_corner n0 hO.2.2.2.2.2.2.2.1 _ _ _) (Nat.le_of_ble_eq_true rfl) rfl rfl (Nat.le_of_ble_eq_true rfl) hcs hsl dL_law_423 ?_
  refine l_pop hO dL_law_426 ?_
  refine l_goto (pc := 427) hO dL_law_427 (tgt := 1072) (by decide) ?_
  exact K
def stp8 (n0 : Nat) (a : Nat → Int32) (MX MY : Mem) : Option (Mem × Mem) := (fX11_doing n0 (a 1) (a 2) MX).bind fun zx => (fX12_doing n0 (a 1) (a 2) MY).bind fun zy => some (zx.2, zy.2)
theorem cas8 (n0 : Nat) {j : Nat} (hO : OKl p s m meth c b L xs D cy ax ay) (hj : j + 6 ≤ L) (hL : L ≤ 3072) (hcs : cells ≤ 600000) (hsl : slots ≤ 7302250) {Z : Mem × Mem} (h : stp8 n0 (fun t => xs (j + t)) MX MY = some Z) (K : LB p l e s m below meth c b D cy ax ay cells slots 1072 [(0, .ref b), (1, .ref (ax 0)), (2, .ref (ay 0)), (3, .int (nI j))] [] Z.1 Z.2) : LB p l e s m below meth c b D cy ax ay cells slots 430 [(0, .ref b), (1, .ref (ax 0)), (2, .ref (ay 0)), (3, .int (nI j))] [] MX MY := by
  obtain ⟨zx, hX, h⟩ := Option.bind_eq_some_iff.mp h
  obtain ⟨zy, hY, h⟩ := Option.bind_eq_some_iff.mp h
  cases h
  refine l_aload_n hO dL_law_430 1 rfl rfl ?_
  refine l_aload_n hO dL_law_431 0 rfl rfl ?_
  refine l_iload_n hO dL_law_432 3 rfl rfl ?_
  refine l_iconst hO dL_law_433 ic_i_1 ?_
  refine l_iadd hO dL_law_434 (v := nI (j + 1)) (nI_add j 1) ?_
  refine l_sld hO (n := j + 1) (by omega) (by omega) rfl dL_law_435 ?_
  refine l_aload_n hO dL_law_436 0 rfl rfl ?_
  refine l_iload_n hO dL_law_437 3 rfl rfl ?_
  refine l_iconst hO dL_law_438 ic_i_2 ?_
  refine l_iadd hO dL_law_439 (v := nI (j + 2)) (nI_add j 2) ?_
  refine l_sld hO (n := j + 2) (by omega) (by omega) rfl dL_law_440 ?_
  refine l_callXI hO hX mdX11_doing mvX11_doing rfl w954 (As := [.int _, .int _]) (st := []) (ctX11_doing n0 hO.2.2.2.2.2.2.1 _ _ _) (Nat.le_of_ble_eq_true rfl) rfl rfl (Nat.le_of_ble_eq_true rfl) hcs hsl dL_law_441 ?_
  refine l_pop hO dL_law_444 ?_
  refine l_aload_n hO dL_law_445 2 rfl rfl ?_
  refine l_aload_n hO dL_law_446 0 rfl rfl ?_
  refine l_iload_n hO dL_law_447 3 rfl rfl ?_
  refine l_iconst hO dL_law_448 ic_i_1 ?_
  refine l_iadd hO dL_law_449 (v := nI (j + 1)) (nI_add j 1) ?_
  refine l_sld hO (n := j + 1) (by omega) (by omega) rfl dL_law_450 ?_
  refine l_aload_n hO dL_law_451 0 rfl rfl ?_
  refine l_iload_n hO dL_law_452 3 rfl rfl ?_
  refine l_iconst hO dL_law_453 ic_i_2 ?_
  refine l_iadd hO dL_law_454 (v := nI (j + 2)) (nI_add j 2) ?_
  refine l_sld hO (n := j + 2) (by omega) (by omega) rfl dL_law_455 ?_
  refine l_callYI hO hY mdX12_doing mvX12_doing rfl w1737 (As := [.int _, .int _]) (st := []) (ctX12_doing n0 hO.2.2.2.2.2.2.2.1 _ _ _) (Nat.le_of_ble_eq_true rfl) rfl rfl (Nat.le_of_ble_eq_true rfl) hcs hsl dL_law_456 ?_
  refine l_pop hO dL_law_459 ?_
  refine l_goto (pc := 460) hO dL_law_460 (tgt := 1072) (by decide) ?_
  exact K
def stp9 (n0 : Nat) (a : Nat → Int32) (MX MY : Mem) : Option (Mem × Mem) := (fX11_later n0 (a 1) (a 2) MX).bind fun zx => (fX12_later n0 (a 1) (a 2) MY).bind fun zy => some (zx.2, zy.2)
theorem cas9 (n0 : Nat) {j : Nat} (hO : OKl p s m meth c b L xs D cy ax ay) (hj : j + 6 ≤ L) (hL : L ≤ 3072) (hcs : cells ≤ 600000) (hsl : slots ≤ 7302250) {Z : Mem × Mem} (h : stp9 n0 (fun t => xs (j + t)) MX MY = some Z) (K : LB p l e s m below meth c b D cy ax ay cells slots 1072 [(0, .ref b), (1, .ref (ax 0)), (2, .ref (ay 0)), (3, .int (nI j))] [] Z.1 Z.2) : LB p l e s m below meth c b D cy ax ay cells slots 463 [(0, .ref b), (1, .ref (ax 0)), (2, .ref (ay 0)), (3, .int (nI j))] [] MX MY := by
  obtain ⟨zx, hX, h⟩ := Option.bind_eq_some_iff.mp h
  obtain ⟨zy, hY, h⟩ := Option.bind_eq_some_iff.mp h
  cases h
  refine l_aload_n hO dL_law_463 1 rfl rfl ?_
  refine l_aload_n hO dL_law_464 0 rfl rfl ?_
  refine l_iload_n hO dL_law_465 3 rfl rfl ?_
  refine l_iconst hO dL_law_466 ic_i_1 ?_
  refine l_iadd hO dL_law_467 (v := nI (j + 1)) (nI_add j 1) ?_
  refine l_sld hO (n := j + 1) (by omega) (by omega) rfl dL_law_468 ?_
  refine l_aload_n hO dL_law_469 0 rfl rfl ?_
  refine l_iload_n hO dL_law_470 3 rfl rfl ?_
  refine l_iconst hO dL_law_471 ic_i_2 ?_
  refine l_iadd hO dL_law_472 (v := nI (j + 2)) (nI_add j 2) ?_
  refine l_sld hO (n := j + 2) (by omega) (by omega) rfl dL_law_473 ?_
  refine l_callXI hO hX mdX11_later mvX11_later rfl w958 (As := [.int _, .int _]) (st := []) (ctX11_later n0 hO.2.2.2.2.2.2.1 _ _ _) (Nat.le_of_ble_eq_true rfl) rfl rfl (Nat.le_of_ble_eq_true rfl) hcs hsl dL_law_474 ?_
  refine l_pop hO dL_law_477 ?_
  refine l_aload_n hO dL_law_478 2 rfl rfl ?_
  refine l_aload_n hO dL_law_479 0 rfl rfl ?_
  refine l_iload_n hO dL_law_480 3 rfl rfl ?_
  refine l_iconst hO dL_law_481 ic_i_1 ?_
  refine l_iadd hO dL_law_482 (v := nI (j + 1)) (nI_add j 1) ?_
  refine l_sld hO (n := j + 1) (by omega) (by omega) rfl dL_law_483 ?_
  refine l_aload_n hO dL_law_484 0 rfl rfl ?_
  refine l_iload_n hO dL_law_485 3 rfl rfl ?_
  refine l_iconst hO dL_law_486 ic_i_2 ?_
  refine l_iadd hO dL_law_487 (v := nI (j + 2)) (nI_add j 2) ?_
  refine l_sld hO (n := j + 2) (by omega) (by omega) rfl dL_law_488 ?_
  refine l_callYI hO hY mdX12_later mvX12_later rfl w1745 (As := [.int _, .int _]) (st := []) (ctX12_later n0 hO.2.2.2.2.2.2.2.1 _ _ _) (Nat.le_of_ble_eq_true rfl) rfl rfl (Nat.le_of_ble_eq_true rfl) hcs hsl dL_law_489 ?_
  refine l_pop hO dL_law_492 ?_
  refine l_goto (pc := 493) hO dL_law_493 (tgt := 1072) (by decide) ?_
  exact K
def stp10 (n0 : Nat) (a : Nat → Int32) (MX MY : Mem) : Option (Mem × Mem) := (fX11_when n0 (a 1) MX).bind fun zx => (fX12_when n0 (a 1) MY).bind fun zy => some (zx.2, zy.2)
theorem cas10 (n0 : Nat) {j : Nat} (hO : OKl p s m meth c b L xs D cy ax ay) (hj : j + 6 ≤ L) (hL : L ≤ 3072) (hcs : cells ≤ 600000) (hsl : slots ≤ 7302250) {Z : Mem × Mem} (h : stp10 n0 (fun t => xs (j + t)) MX MY = some Z) (K : LB p l e s m below meth c b D cy ax ay cells slots 1072 [(0, .ref b), (1, .ref (ax 0)), (2, .ref (ay 0)), (3, .int (nI j))] [] Z.1 Z.2) : LB p l e s m below meth c b D cy ax ay cells slots 496 [(0, .ref b), (1, .ref (ax 0)), (2, .ref (ay 0)), (3, .int (nI j))] [] MX MY := by
  obtain ⟨zx, hX, h⟩ := Option.bind_eq_some_iff.mp h
  obtain ⟨zy, hY, h⟩ := Option.bind_eq_some_iff.mp h
  cases h
  refine l_aload_n hO dL_law_496 1 rfl rfl ?_
  refine l_aload_n hO dL_law_497 0 rfl rfl ?_
  refine l_iload_n hO dL_law_498 3 rfl rfl ?_
  refine l_iconst hO dL_law_499 ic_i_1 ?_
  refine l_iadd hO dL_law_500 (v := nI (j + 1)) (nI_add j 1) ?_
  refine l_sld hO (n := j + 1) (by omega) (by omega) rfl dL_law_501 ?_
  refine l_callXI hO hX mdX11_when mvX11_when rfl w979 (As := [.int _]) (st := []) (ctX11_when n0 hO.2.2.2.2.2.2.1 _ _) (Nat.le_of_ble_eq_true rfl) rfl rfl (Nat.le_of_ble_eq_true rfl) hcs hsl dL_law_502 ?_
  refine l_pop hO dL_law_505 ?_
  refine l_aload_n hO dL_law_506 2 rfl rfl ?_
  refine l_aload_n hO dL_law_507 0 rfl rfl ?_
  refine l_iload_n hO dL_law_508 3 rfl rfl ?_
  refine l_iconst hO dL_law_509 ic_i_1 ?_
  refine l_iadd hO dL_law_510 (v := nI (j + 1)) (nI_add j 1) ?_
  refine l_sld hO (n := j + 1) (by omega) (by omega) rfl dL_law_511 ?_
  refine l_callYI hO hY mdX12_when mvX12_when rfl w1769 (As := [.int _]) (st := []) (ctX12_when n0 hO.2.2.2.2.2.2.2.1 _ _) (Nat.le_of_ble_eq_true rfl) rfl rfl (Nat.le_of_ble_eq_true rfl) hcs hsl dL_law_512 ?_
  refine l_pop hO dL_law_515 ?_
  refine l_goto (pc := 516) hO dL_law_516 (tgt := 1072) (by decide) ?_
  exact K
def stp11 (n0 : Nat) (a : Nat → Int32) (MX MY : Mem) : Option (Mem × Mem) := (fX11_alike n0 (a 1) (a 2) MX).bind fun zx => (fX12_alike n0 (a 1) (a 2) MY).bind fun zy => some (zx.2, zy.2)
theorem cas11 (n0 : Nat) {j : Nat} (hO : OKl p s m meth c b L xs D cy ax ay) (hj : j + 6 ≤ L) (hL : L ≤ 3072) (hcs : cells ≤ 600000) (hsl : slots ≤ 7302250) {Z : Mem × Mem} (h : stp11 n0 (fun t => xs (j + t)) MX MY = some Z) (K : LB p l e s m below meth c b D cy ax ay cells slots 1072 [(0, .ref b), (1, .ref (ax 0)), (2, .ref (ay 0)), (3, .int (nI j))] [] Z.1 Z.2) : LB p l e s m below meth c b D cy ax ay cells slots 519 [(0, .ref b), (1, .ref (ax 0)), (2, .ref (ay 0)), (3, .int (nI j))] [] MX MY := by
  obtain ⟨zx, hX, h⟩ := Option.bind_eq_some_iff.mp h
  obtain ⟨zy, hY, h⟩ := Option.bind_eq_some_iff.mp h
  cases h
  refine l_aload_n hO dL_law_519 1 rfl rfl ?_
  refine l_aload_n hO dL_law_520 0 rfl rfl ?_
  refine l_iload_n hO dL_law_521 3 rfl rfl ?_
  refine l_iconst hO dL_law_522 ic_i_1 ?_
  refine l_iadd hO dL_law_523 (v := nI (j + 1)) (nI_add j 1) ?_
  refine l_sld hO (n := j + 1) (by omega) (by omega) rfl dL_law_524 ?_
  refine l_aload_n hO dL_law_525 0 rfl rfl ?_
  refine l_iload_n hO dL_law_526 3 rfl rfl ?_
  refine l_iconst hO dL_law_527 ic_i_2 ?_
  refine l_iadd hO dL_law_528 (v := nI (j + 2)) (nI_add j 2) ?_
  refine l_sld hO (n := j + 2) (by omega) (by omega) rfl dL_law_529 ?_
  refine l_callXI hO hX mdX11_alike mvX11_alike rfl w983 (As := [.int _, .int _]) (st := []) (ctX11_alike n0 hO.2.2.2.2.2.2.1 _ _ _) (Nat.le_of_ble_eq_true rfl) rfl rfl (Nat.le_of_ble_eq_true rfl) hcs hsl dL_law_530 ?_
  refine l_pop hO dL_law_533 ?_
  refine l_aload_n hO dL_law_534 2 rfl rfl ?_
  refine l_aload_n hO dL_law_535 0 rfl rfl ?_
  refine l_iload_n hO dL_law_536 3 rfl rfl ?_
  refine l_iconst hO dL_law_537 ic_i_1 ?_
  refine l_iadd hO dL_law_538 (v := nI (j + 1)) (nI_add j 1) ?_
  refine l_sld hO (n := j + 1) (by omega) (by omega) rfl dL_law_539 ?_
  refine l_aload_n hO dL_law_540 0 rfl rfl ?_
  refine l_iload_n hO dL_law_541 3 rfl rfl ?_
  refine l_iconst hO dL_law_542 ic_i_2 ?_
  refine l_iadd hO dL_law_543 (v := nI (j + 2)) (nI_add j 2) ?_
  refine l_sld hO (n := j + 2) (by omega) (by omega) rfl dL_law_544 ?_
  refine l_callYI hO hY mdX12_alike mvX12_alike rfl w1773 (As := [.int _, .int _]) (st := []) (ctX12_alike n0 hO.2.2.2.2.2.2.2.1 _ _ _) (Nat.le_of_ble_eq_true rfl) rfl rfl (Nat.le_of_ble_eq_true rfl) hcs hsl dL_law_545 ?_
  refine l_pop hO dL_law_548 ?_
  refine l_goto (pc := 549) hO dL_law_549 (tgt := 1072) (by decide) ?_
  exact K
def stp12 (n0 : Nat) (a : Nat → Int32) (MX MY : Mem) : Option (Mem × Mem) := (fX11_plan n0 (a 1) (a 2) (a 3) MX).bind fun zx => (fX12_plan n0 (a 1) (a 2) (a 3) MY).bind fun zy => some (zx.2, zy.2)
theorem cas12 (n0 : Nat) {j : Nat} (hO : OKl p s m meth c b L xs D cy ax ay) (hj : j + 6 ≤ L) (hL : L ≤ 3072) (hcs : cells ≤ 600000) (hsl : slots ≤ 7302250) {Z : Mem × Mem} (h : stp12 n0 (fun t => xs (j + t)) MX MY = some Z) (K : LB p l e s m below meth c b D cy ax ay cells slots 1072 [(0, .ref b), (1, .ref (ax 0)), (2, .ref (ay 0)), (3, .int (nI j))] [] Z.1 Z.2) : LB p l e s m below meth c b D cy ax ay cells slots 552 [(0, .ref b), (1, .ref (ax 0)), (2, .ref (ay 0)), (3, .int (nI j))] [] MX MY := by
  obtain ⟨zx, hX, h⟩ := Option.bind_eq_some_iff.mp h
  obtain ⟨zy, hY, h⟩ := Option.bind_eq_some_iff.mp h
  cases h
  refine l_aload_n hO dL_law_552 1 rfl rfl ?_
  refine l_aload_n hO dL_law_553 0 rfl rfl ?_
  refine l_iload_n hO dL_law_554 3 rfl rfl ?_
  refine l_iconst hO dL_law_555 ic_i_1 ?_
  refine l_iadd hO dL_law_556 (v := nI (j + 1)) (nI_add j 1) ?_
  refine l_sld hO (n := j + 1) (by omega) (by omega) rfl dL_law_557 ?_
  refine l_aload_n hO dL_law_558 0 rfl rfl ?_
  refine l_iload_n hO dL_law_559 3 rfl rfl ?_
  refine l_iconst hO dL_law_560 ic_i_2 ?_
  refine l_iadd hO dL_law_561 (v := nI (j + 2)) (nI_add j 2) ?_
  refine l_sld hO (n := j + 2) (by omega) (by omega) rfl dL_law_562 ?_
  refine l_aload_n hO dL_law_563 0 rfl rfl ?_
  refine l_iload_n hO dL_law_564 3 rfl rfl ?_
  refine l_iconst hO dL_law_565 ic_i_3 ?_
  refine l_iadd hO dL_law_566 (v := nI (j + 3)) (nI_add j 3) ?_
  refine l_sld hO (n := j + 3) (by omega) (by omega) rfl dL_law_567 ?_
  refine l_callXI hO hX mdX11_plan mvX11_plan rfl w987 (As := [.int _, .int _, .int _]) (st := []) (ctX11_plan n0 hO.2.2.2.2.2.2.1 _ _ _ _) (Nat.le_of_ble_eq_true rfl) rfl rfl (Nat.le_of_ble_eq_true rfl) hcs hsl dL_law_568 ?_
  refine l_pop hO dL_law_571 ?_
  refine l_aload_n hO dL_law_572 2 rfl rfl ?_
  refine l_aload_n hO dL_law_573 0 rfl rfl ?_
  refine l_iload_n hO dL_law_574 3 rfl rfl ?_
  refine l_iconst hO dL_law_575 ic_i_1 ?_
  refine l_iadd hO dL_law_576 (v := nI (j + 1)) (nI_add j 1) ?_
  refine l_sld hO (n := j + 1) (by omega) (by omega) rfl dL_law_577 ?_
  refine l_aload_n hO dL_law_578 0 rfl rfl ?_
  refine l_iload_n hO dL_law_579 3 rfl rfl ?_
  refine l_iconst hO dL_law_580 ic_i_2 ?_
  refine l_iadd hO dL_law_581 (v := nI (j + 2)) (nI_add j 2) ?_
  refine l_sld hO (n := j + 2) (by omega) (by omega) rfl dL_law_582 ?_
  refine l_aload_n hO dL_law_583 0 rfl rfl ?_
  refine l_iload_n hO dL_law_584 3 rfl rfl ?_
  refine l_iconst hO dL_law_585 ic_i_3 ?_
  refine l_iadd hO dL_law_586 (v := nI (j + 3)) (nI_add j 3) ?_
  refine l_sld hO (n := j + 3) (by omega) (by omega) rfl dL_law_587 ?_
  refine l_callYI hO hY mdX12_plan mvX12_plan rfl w1777 (As := [.int _, .int _, .int _]) (st := []) (ctX12_plan n0 hO.2.2.2.2.2.2.2.1 _ _ _ _) (Nat.le_of_ble_eq_true rfl) rfl rfl (Nat.le_of_ble_eq_true rfl) hcs hsl dL_law_588 ?_
  refine l_pop hO dL_law_591 ?_
  refine l_goto (pc := 592) hO dL_law_592 (tgt := 1072) (by decide) ?_
  exact K
def stp13 (n0 : Nat) (a : Nat → Int32) (MX MY : Mem) : Option (Mem × Mem) := (fX11_evening n0 (a 1) (a 2) MX).bind fun zx => (fX12_evening n0 (a 1) (a 2) MY).bind fun zy => some (zx.2, zy.2)
theorem cas13 (n0 : Nat) {j : Nat} (hO : OKl p s m meth c b L xs D cy ax ay) (hj : j + 6 ≤ L) (hL : L ≤ 3072) (hcs : cells ≤ 600000) (hsl : slots ≤ 7302250) {Z : Mem × Mem} (h : stp13 n0 (fun t => xs (j + t)) MX MY = some Z) (K : LB p l e s m below meth c b D cy ax ay cells slots 1072 [(0, .ref b), (1, .ref (ax 0)), (2, .ref (ay 0)), (3, .int (nI j))] [] Z.1 Z.2) : LB p l e s m below meth c b D cy ax ay cells slots 595 [(0, .ref b), (1, .ref (ax 0)), (2, .ref (ay 0)), (3, .int (nI j))] [] MX MY := by
  obtain ⟨zx, hX, h⟩ := Option.bind_eq_some_iff.mp h
  obtain ⟨zy, hY, h⟩ := Option.bind_eq_some_iff.mp h
  cases h
  refine l_aload_n hO dL_law_595 1 rfl rfl ?_
  refine l_aload_n hO dL_law_596 0 rfl rfl ?_
  refine l_iload_n hO dL_law_597 3 rfl rfl ?_
  refine l_iconst hO dL_law_598 ic_i_1 ?_
  refine l_iadd hO dL_law_599 (v := nI (j + 1)) (nI_add j 1) ?_
  refine l_sld hO (n := j + 1) (by omega) (by omega) rfl dL_law_600 ?_
  refine l_aload_n hO dL_law_601 0 rfl rfl ?_
  refine l_iload_n hO dL_law_602 3 rfl rfl ?_
  refine l_iconst hO dL_law_603 ic_i_2 ?_
  refine l_iadd hO dL_law_604 (v := nI (j + 2)) (nI_add j 2) ?_
  refine l_sld hO (n := j + 2) (by omega) (by omega) rfl dL_law_605 ?_
  refine l_callXI hO hX mdX11_evening mvX11_evening rfl w1023 (As := [.int _, .int _]) (st := []) (ctX11_evening n0 hO.2.2.2.2.2.2.1 _ _ _) (Nat.le_of_ble_eq_true rfl) rfl rfl (Nat.le_of_ble_eq_true rfl) hcs hsl dL_law_606 ?_
  refine l_pop hO dL_law_609 ?_
  refine l_aload_n hO dL_law_610 2 rfl rfl ?_
  refine l_aload_n hO dL_law_611 0 rfl rfl ?_
  refine l_iload_n hO dL_law_612 3 rfl rfl ?_
  refine l_iconst hO dL_law_613 ic_i_1 ?_
  refine l_iadd hO dL_law_614 (v := nI (j + 1)) (nI_add j 1) ?_
  refine l_sld hO (n := j + 1) (by omega) (by omega) rfl dL_law_615 ?_
  refine l_aload_n hO dL_law_616 0 rfl rfl ?_
  refine l_iload_n hO dL_law_617 3 rfl rfl ?_
  refine l_iconst hO dL_law_618 ic_i_2 ?_
  refine l_iadd hO dL_law_619 (v := nI (j + 2)) (nI_add j 2) ?_
  refine l_sld hO (n := j + 2) (by omega) (by omega) rfl dL_law_620 ?_
  refine l_callYI hO hY mdX12_evening mvX12_evening rfl w1785 (As := [.int _, .int _]) (st := []) (ctX12_evening n0 hO.2.2.2.2.2.2.2.1 _ _ _) (Nat.le_of_ble_eq_true rfl) rfl rfl (Nat.le_of_ble_eq_true rfl) hcs hsl dL_law_621 ?_
  refine l_pop hO dL_law_624 ?_
  refine l_goto (pc := 625) hO dL_law_625 (tgt := 1072) (by decide) ?_
  exact K
def stp14 (n0 : Nat) (a : Nat → Int32) (MX MY : Mem) : Option (Mem × Mem) := (fX11_odds n0 (a 1) (a 2) (a 3) MX).bind fun zx => (fX12_odds n0 (a 1) (a 2) (a 3) MY).bind fun zy => some (zx.2, zy.2)
theorem cas14 (n0 : Nat) {j : Nat} (hO : OKl p s m meth c b L xs D cy ax ay) (hj : j + 6 ≤ L) (hL : L ≤ 3072) (hcs : cells ≤ 600000) (hsl : slots ≤ 7302250) {Z : Mem × Mem} (h : stp14 n0 (fun t => xs (j + t)) MX MY = some Z) (K : LB p l e s m below meth c b D cy ax ay cells slots 1072 [(0, .ref b), (1, .ref (ax 0)), (2, .ref (ay 0)), (3, .int (nI j))] [] Z.1 Z.2) : LB p l e s m below meth c b D cy ax ay cells slots 628 [(0, .ref b), (1, .ref (ax 0)), (2, .ref (ay 0)), (3, .int (nI j))] [] MX MY := by
  obtain ⟨zx, hX, h⟩ := Option.bind_eq_some_iff.mp h
  obtain ⟨zy, hY, h⟩ := Option.bind_eq_some_iff.mp h
  cases h
  refine l_aload_n hO dL_law_628 1 rfl rfl ?_
  refine l_aload_n hO dL_law_629 0 rfl rfl ?_
  refine l_iload_n hO dL_law_630 3 rfl rfl ?_
  refine l_iconst hO dL_law_631 ic_i_1 ?_
  refine l_iadd hO dL_law_632 (v := nI (j + 1)) (nI_add j 1) ?_
  refine l_sld hO (n := j + 1) (by omega) (by omega) rfl dL_law_633 ?_
  refine l_aload_n hO dL_law_634 0 rfl rfl ?_
  refine l_iload_n hO dL_law_635 3 rfl rfl ?_
  refine l_iconst hO dL_law_636 ic_i_2 ?_
  refine l_iadd hO dL_law_637 (v := nI (j + 2)) (nI_add j 2) ?_
  refine l_sld hO (n := j + 2) (by omega) (by omega) rfl dL_law_638 ?_
  refine l_aload_n hO dL_law_639 0 rfl rfl ?_
  refine l_iload_n hO dL_law_640 3 rfl rfl ?_
  refine l_iconst hO dL_law_641 ic_i_3 ?_
  refine l_iadd hO dL_law_642 (v := nI (j + 3)) (nI_add j 3) ?_
  refine l_sld hO (n := j + 3) (by omega) (by omega) rfl dL_law_643 ?_
  refine l_callXL hO hX mdX11_odds mvX11_odds rfl w1031 (As := [.int _, .int _, .int _]) (st := []) (ctX11_odds n0 hO.2.2.2.2.2.2.1 _ _ _ _) (Nat.le_of_ble_eq_true rfl) rfl rfl (Nat.le_of_ble_eq_true rfl) hcs hsl dL_law_644 ?_
  refine l_pop2 hO dL_law_647 ?_
  refine l_aload_n hO dL_law_648 2 rfl rfl ?_
  refine l_aload_n hO dL_law_649 0 rfl rfl ?_
  refine l_iload_n hO dL_law_650 3 rfl rfl ?_
  refine l_iconst hO dL_law_651 ic_i_1 ?_
  refine l_iadd hO dL_law_652 (v := nI (j + 1)) (nI_add j 1) ?_
  refine l_sld hO (n := j + 1) (by omega) (by omega) rfl dL_law_653 ?_
  refine l_aload_n hO dL_law_654 0 rfl rfl ?_
  refine l_iload_n hO dL_law_655 3 rfl rfl ?_
  refine l_iconst hO dL_law_656 ic_i_2 ?_
  refine l_iadd hO dL_law_657 (v := nI (j + 2)) (nI_add j 2) ?_
  refine l_sld hO (n := j + 2) (by omega) (by omega) rfl dL_law_658 ?_
  refine l_aload_n hO dL_law_659 0 rfl rfl ?_
  refine l_iload_n hO dL_law_660 3 rfl rfl ?_
  refine l_iconst hO dL_law_661 ic_i_3 ?_
  refine l_iadd hO dL_law_662 (v := nI (j + 3)) (nI_add j 3) ?_
  refine l_sld hO (n := j + 3) (by omega) (by omega) rfl dL_law_663 ?_
  refine l_callYL hO hY mdX12_odds mvX12_odds rfl w1789 (As := [.int _, .int _, .int _]) (st := []) (ctX12_odds n0 hO.2.2.2.2.2.2.2.1 _ _ _ _) (Nat.le_of_ble_eq_true rfl) rfl rfl (Nat.le_of_ble_eq_true rfl) hcs hsl dL_law_664 ?_
  refine l_pop2 hO dL_law_667 ?_
  refine l_goto (pc := 668) hO dL_law_668 (tgt := 1072) (by decide) ?_
  exact K
def stp15 (n0 : Nat) (a : Nat → Int32) (MX MY : Mem) : Option (Mem × Mem) := (fX11_way n0 (a 1) (a 2) MX).bind fun zx => (fX12_way n0 (a 1) (a 2) MY).bind fun zy => some (zx.2, zy.2)
theorem cas15 (n0 : Nat) {j : Nat} (hO : OKl p s m meth c b L xs D cy ax ay) (hj : j + 6 ≤ L) (hL : L ≤ 3072) (hcs : cells ≤ 600000) (hsl : slots ≤ 7302250) {Z : Mem × Mem} (h : stp15 n0 (fun t => xs (j + t)) MX MY = some Z) (K : LB p l e s m below meth c b D cy ax ay cells slots 1072 [(0, .ref b), (1, .ref (ax 0)), (2, .ref (ay 0)), (3, .int (nI j))] [] Z.1 Z.2) : LB p l e s m below meth c b D cy ax ay cells slots 671 [(0, .ref b), (1, .ref (ax 0)), (2, .ref (ay 0)), (3, .int (nI j))] [] MX MY := by
  obtain ⟨zx, hX, h⟩ := Option.bind_eq_some_iff.mp h
  obtain ⟨zy, hY, h⟩ := Option.bind_eq_some_iff.mp h
  cases h
  refine l_aload_n hO dL_law_671 1 rfl rfl ?_
  refine l_aload_n hO dL_law_672 0 rfl rfl ?_
  refine l_iload_n hO dL_law_673 3 rfl rfl ?_
  refine l_iconst hO dL_law_674 ic_i_1 ?_
  refine l_iadd hO dL_law_675 (v := nI (j + 1)) (nI_add j 1) ?_
  refine l_sld hO (n := j + 1) (by omega) (by omega) rfl dL_law_676 ?_
  refine l_aload_n hO dL_law_677 0 rfl rfl ?_
  refine l_iload_n hO dL_law_678 3 rfl rfl ?_
  refine l_iconst hO dL_law_679 ic_i_2 ?_
  refine l_iadd hO dL_law_680 (v := nI (j + 2)) (nI_add j 2) ?_
  refine l_sld hO (n := j + 2) (by omega) (by omega) rfl dL_law_681 ?_
  refine l_callXI hO hX mdX11_way mvX11_way rfl w1050 (As := [.int _, .int _]) (st := []) (ctX11_way n0 hO.2.2.2.2.2.2.1 _ _ _) (Nat.le_of_ble_eq_true rfl) rfl rfl (Nat.le_of_ble_eq_true rfl) hcs hsl dL_law_682 ?_
  refine l_pop hO dL_law_685 ?_
  refine l_aload_n hO dL_law_686 2 rfl rfl ?_
  refine l_aload_n hO dL_law_687 0 rfl rfl ?_
  refine l_iload_n hO dL_law_688 3 rfl rfl ?_
  refine l_iconst hO dL_law_689 ic_i_1 ?_
  refine l_iadd hO dL_law_690 (v := nI (j + 1)) (nI_add j 1) ?_
  refine l_sld hO (n := j + 1) (by omega) (by omega) rfl dL_law_691 ?_
  refine l_aload_n hO dL_law_692 0 rfl rfl ?_
  refine l_iload_n hO dL_law_693 3 rfl rfl ?_
  refine l_iconst hO dL_law_694 ic_i_2 ?_
  refine l_iadd hO dL_law_695 (v := nI (j + 2)) (nI_add j 2) ?_
  refine l_sld hO (n := j + 2) (by omega) (by omega) rfl dL_law_696 ?_
  refine l_callYI hO hY mdX12_way mvX12_way rfl w1794 (As := [.int _, .int _]) (st := []) (ctX12_way n0 hO.2.2.2.2.2.2.2.1 _ _ _) (Nat.le_of_ble_eq_true rfl) rfl rfl (Nat.le_of_ble_eq_true rfl) hcs hsl dL_law_697 ?_
  refine l_pop hO dL_law_700 ?_
  refine l_goto (pc := 701) hO dL_law_701 (tgt := 1072) (by decide) ?_
  exact K
def stp16 (n0 : Nat) (a : Nat → Int32) (MX MY : Mem) : Option (Mem × Mem) := (fX11_arrive n0 (a 1) (a 2) MX).bind fun zx => (fX12_arrive n0 (a 1) (a 2) MY).bind fun zy => some (zx.2, zy.2)
theorem cas16 (n0 : Nat) {j : Nat} (hO : OKl p s m meth c b L xs D cy ax ay) (hj : j + 6 ≤ L) (hL : L ≤ 3072) (hcs : cells ≤ 600000) (hsl : slots ≤ 7302250) {Z : Mem × Mem} (h : stp16 n0 (fun t => xs (j + t)) MX MY = some Z) (K : LB p l e s m below meth c b D cy ax ay cells slots 1072 [(0, .ref b), (1, .ref (ax 0)), (2, .ref (ay 0)), (3, .int (nI j))] [] Z.1 Z.2) : LB p l e s m below meth c b D cy ax ay cells slots 704 [(0, .ref b), (1, .ref (ax 0)), (2, .ref (ay 0)), (3, .int (nI j))] [] MX MY := by
  obtain ⟨zx, hX, h⟩ := Option.bind_eq_some_iff.mp h
  obtain ⟨zy, hY, h⟩ := Option.bind_eq_some_iff.mp h
  cases h
  refine l_aload_n hO dL_law_704 1 rfl rfl ?_
  refine l_aload_n hO dL_law_705 0 rfl rfl ?_
  refine l_iload_n hO dL_law_706 3 rfl rfl ?_
  refine l_iconst hO dL_law_707 ic_i_1 ?_
  refine l_iadd hO dL_law_708 (v := nI (j + 1)) (nI_add j 1) ?_
  refine l_sld hO (n := j + 1) (by omega) (by omega) rfl dL_law_709 ?_
  refine l_aload_n hO dL_law_710 0 rfl rfl ?_
  refine l_iload_n hO dL_law_711 3 rfl rfl ?_
  refine l_iconst hO dL_law_712 ic_i_2 ?_
  refine l_iadd hO dL_law_713 (v := nI (j + 2)) (nI_add j 2) ?_
  refine l_sld hO (n := j + 2) (by omega) (by omega) rfl dL_law_714 ?_
  refine l_callXI hO hX mdX11_arrive mvX11_arrive rfl w1065 (As := [.int _, .int _]) (st := []) (ctX11_arrive n0 hO.2.2.2.2.2.2.1 _ _ _) (Nat.le_of_ble_eq_true rfl) rfl rfl (Nat.le_of_ble_eq_true rfl) hcs hsl dL_law_715 ?_
  refine l_pop hO dL_law_718 ?_
  refine l_aload_n hO dL_law_719 2 rfl rfl ?_
  refine l_aload_n hO dL_law_720 0 rfl rfl ?_
  refine l_iload_n hO dL_law_721 3 rfl rfl ?_
  refine l_iconst hO dL_law_722 ic_i_1 ?_
  refine l_iadd hO dL_law_723 (v := nI (j + 1)) (nI_add j 1) ?_
  refine l_sld hO (n := j + 1) (by omega) (by omega) rfl dL_law_724 ?_
  refine l_aload_n hO dL_law_725 0 rfl rfl ?_
  refine l_iload_n hO dL_law_726 3 rfl rfl ?_
  refine l_iconst hO dL_law_727 ic_i_2 ?_
  refine l_iadd hO dL_law_728 (v := nI (j + 2)) (nI_add j 2) ?_
  refine l_sld hO (n := j + 2) (by omega) (by omega) rfl dL_law_729 ?_
  refine l_callYI hO hY mdX12_arrive mvX12_arrive rfl w1798 (As := [.int _, .int _]) (st := []) (ctX12_arrive n0 hO.2.2.2.2.2.2.2.1 _ _ _) (Nat.le_of_ble_eq_true rfl) rfl rfl (Nat.le_of_ble_eq_true rfl) hcs hsl dL_law_730 ?_
  refine l_pop hO dL_law_733 ?_
  refine l_goto (pc := 734) hO dL_law_734 (tgt := 1072) (by decide) ?_
  exact K
def stp17 (n0 : Nat) (a : Nat → Int32) (MX MY : Mem) : Option (Mem × Mem) := (fX11_early n0 (a 1) MX).bind fun zx => (fX12_early n0 (a 1) MY).bind fun zy => some (zx.2, zy.2)
theorem cas17 (n0 : Nat) {j : Nat} (hO : OKl p s m meth c b L xs D cy ax ay) (hj : j + 6 ≤ L) (hL : L ≤ 3072) (hcs : cells ≤ 600000) (hsl : slots ≤ 7302250) {Z : Mem × Mem} (h : stp17 n0 (fun t => xs (j + t)) MX MY = some Z) (K : LB p l e s m below meth c b D cy ax ay cells slots 1072 [(0, .ref b), (1, .ref (ax 0)), (2, .ref (ay 0)), (3, .int (nI j))] [] Z.1 Z.2) : LB p l e s m below meth c b D cy ax ay cells slots 737 [(0, .ref b), (1, .ref (ax 0)), (2, .ref (ay 0)), (3, .int (nI j))] [] MX MY := by
  obtain ⟨zx, hX, h⟩ := Option.bind_eq_some_iff.mp h
  obtain ⟨zy, hY, h⟩ := Option.bind_eq_some_iff.mp h
  cases h
  refine l_aload_n hO dL_law_737 1 rfl rfl ?_
  refine l_aload_n hO dL_law_738 0 rfl rfl ?_
  refine l_iload_n hO dL_law_739 3 rfl rfl ?_
  refine l_iconst hO dL_law_740 ic_i_1 ?_
  refine l_iadd hO dL_law_741 (v := nI (j + 1)) (nI_add j 1) ?_
  refine l_sld hO (n := j + 1) (by omega) (by omega) rfl dL_law_742 ?_
  refine l_callXI hO hX mdX11_early mvX11_early rfl w1069 (As := [.int _]) (st := []) (ctX11_early n0 hO.2.2.2.2.2.2.1 _ _) (Nat.le_of_ble_eq_true rfl) rfl rfl (Nat.le_of_ble_eq_true rfl) hcs hsl dL_law_743 ?_
  refine l_pop hO dL_law_746 ?_
  refine l_aload_n hO dL_law_747 2 rfl rfl ?_
  refine l_aload_n hO dL_law_748 0 rfl rfl ?_
  refine l_iload_n hO dL_law_749 3 rfl rfl ?_
  refine l_iconst hO dL_law_750 ic_i_1 ?_
  refine l_iadd hO dL_law_751 (v := nI (j + 1)) (nI_add j 1) ?_
  refine l_sld hO (n := j + 1) (by omega) (by omega) rfl dL_law_752 ?_
  refine l_callYI hO hY mdX12_early mvX12_early rfl w1804 (As := [.int _]) (st := []) (ctX12_early n0 hO.2.2.2.2.2.2.2.1 _ _) (Nat.le_of_ble_eq_true rfl) rfl rfl (Nat.le_of_ble_eq_true rfl) hcs hsl dL_law_753 ?_
  refine l_pop hO dL_law_756 ?_
  refine l_goto (pc := 757) hO dL_law_757 (tgt := 1072) (by decide) ?_
  exact K
def stp18 (n0 : Nat) (a : Nat → Int32) (MX MY : Mem) : Option (Mem × Mem) := (fX11_see n0 MX).bind fun zx => (fX12_see n0 MY).bind fun zy => some (zx.2, zy.2)
theorem cas18 (n0 : Nat) {j : Nat} (hO : OKl p s m meth c b L xs D cy ax ay) (hj : j + 6 ≤ L) (hL : L ≤ 3072) (hcs : cells ≤ 600000) (hsl : slots ≤ 7302250) {Z : Mem × Mem} (h : stp18 n0 (fun t => xs (j + t)) MX MY = some Z) (K : LB p l e s m below meth c b D cy ax ay cells slots 1072 [(0, .ref b), (1, .ref (ax 0)), (2, .ref (ay 0)), (3, .int (nI j))] [] Z.1 Z.2) : LB p l e s m below meth c b D cy ax ay cells slots 760 [(0, .ref b), (1, .ref (ax 0)), (2, .ref (ay 0)), (3, .int (nI j))] [] MX MY := by
  obtain ⟨zx, hX, h⟩ := Option.bind_eq_some_iff.mp h
  obtain ⟨zy, hY, h⟩ := Option.bind_eq_some_iff.mp h
  cases h
  refine l_aload_n hO dL_law_760 1 rfl rfl ?_
  refine l_callXI hO hX mdX11_see mvX11_see rfl w1084 (As := []) (st := []) (ctX11_see n0 hO.2.2.2.2.2.2.1 _) (Nat.le_of_ble_eq_true rfl) rfl rfl (Nat.le_of_ble_eq_true rfl) hcs hsl dL_law_761 ?_
  refine l_pop hO dL_law_764 ?_
  refine l_aload_n hO dL_law_765 2 rfl rfl ?_
  refine l_callYI hO hY mdX12_see mvX12_see rfl w1808 (As := []) (st := []) (ctX12_see n0 hO.2.2.2.2.2.2.2.1 _) (Nat.le_of_ble_eq_true rfl) rfl rfl (Nat.le_of_ble_eq_true rfl) hcs hsl dL_law_766 ?_
  refine l_pop hO dL_law_769 ?_
  refine l_goto (pc := 770) hO dL_law_770 (tgt := 1072) (by decide) ?_
  exact K
def stp19 (n0 : Nat) (a : Nat → Int32) (MX MY : Mem) : Option (Mem × Mem) := (fX11_held n0 (a 1) MX).bind fun zx => (fX12_held n0 (a 1) MY).bind fun zy => some (zx.2, zy.2)
theorem cas19 (n0 : Nat) {j : Nat} (hO : OKl p s m meth c b L xs D cy ax ay) (hj : j + 6 ≤ L) (hL : L ≤ 3072) (hcs : cells ≤ 600000) (hsl : slots ≤ 7302250) {Z : Mem × Mem} (h : stp19 n0 (fun t => xs (j + t)) MX MY = some Z) (K : LB p l e s m below meth c b D cy ax ay cells slots 1072 [(0, .ref b), (1, .ref (ax 0)), (2, .ref (ay 0)), (3, .int (nI j))] [] Z.1 Z.2) : LB p l e s m below meth c b D cy ax ay cells slots 773 [(0, .ref b), (1, .ref (ax 0)), (2, .ref (ay 0)), (3, .int (nI j))] [] MX MY := by
  obtain ⟨zx, hX, h⟩ := Option.bind_eq_some_iff.mp h
  obtain ⟨zy, hY, h⟩ := Option.bind_eq_some_iff.mp h
  cases h
  refine l_aload_n hO dL_law_773 1 rfl rfl ?_
  refine l_aload_n hO dL_law_774 0 rfl rfl ?_
  refine l_iload_n hO dL_law_775 3 rfl rfl ?_
  refine l_iconst hO dL_law_776 ic_i_1 ?_
  refine l_iadd hO dL_law_777 (v := nI (j + 1)) (nI_add j 1) ?_
  refine l_sld hO (n := j + 1) (by omega) (by omega) rfl dL_law_778 ?_
  refine l_callXI hO hX mdX11_held mvX11_held rfl w1094 (As := [.int _]) (st := []) (ctX11_held n0 hO.2.2.2.2.2.2.1 _ _) (Nat.le_of_ble_eq_true rfl) rfl rfl (Nat.le_of_ble_eq_true rfl) hcs hsl dL_law_779 ?_
  refine l_pop hO dL_law_782 ?_
  refine l_aload_n hO dL_law_783 2 rfl rfl ?_
  refine l_aload_n hO dL_law_784 0 rfl rfl ?_
  refine l_iload_n hO dL_law_785 3 rfl rfl ?_
  refine l_iconst hO dL_law_786 ic_i_1 ?_
  refine l_iadd hO dL_law_787 (v := nI (j + 1)) (nI_add j 1) ?_
  refine l_sld hO (n := j + 1) (by omega) (by omega) rfl dL_law_788 ?_
  refine l_callYI hO hY mdX12_held mvX12_held rfl w1812 (As := [.int _]) (st := []) (ctX12_held n0 hO.2.2.2.2.2.2.2.1 _ _) (Nat.le_of_ble_eq_true rfl) rfl rfl (Nat.le_of_ble_eq_true rfl) hcs hsl dL_law_789 ?_
  refine l_pop hO dL_law_792 ?_
  refine l_goto (pc := 793) hO dL_law_793 (tgt := 1072) (by decide) ?_
  exact K
def stp20 (n0 : Nat) (a : Nat → Int32) (MX MY : Mem) : Option (Mem × Mem) := (fX11_tells n0 (a 1) (a 2) MX).bind fun zx => (fX12_tells n0 (a 1) (a 2) MY).bind fun zy => some (zx.2, zy.2)
theorem cas20 (n0 : Nat) {j : Nat} (hO : OKl p s m meth c b L xs D cy ax ay) (hj : j + 6 ≤ L) (hL : L ≤ 3072) (hcs : cells ≤ 600000) (hsl : slots ≤ 7302250) {Z : Mem × Mem} (h : stp20 n0 (fun t => xs (j + t)) MX MY = some Z) (K : LB p l e s m below meth c b D cy ax ay cells slots 1072 [(0, .ref b), (1, .ref (ax 0)), (2, .ref (ay 0)), (3, .int (nI j))] [] Z.1 Z.2) : LB p l e s m below meth c b D cy ax ay cells slots 796 [(0, .ref b), (1, .ref (ax 0)), (2, .ref (ay 0)), (3, .int (nI j))] [] MX MY := by
  obtain ⟨zx, hX, h⟩ := Option.bind_eq_some_iff.mp h
  obtain ⟨zy, hY, h⟩ := Option.bind_eq_some_iff.mp h
  cases h
  refine l_aload_n hO dL_law_796 1 rfl rfl ?_
  refine l_aload_n hO dL_law_797 0 rfl rfl ?_
  refine l_iload_n hO dL_law_798 3 rfl rfl ?_
  refine l_iconst hO dL_law_799 ic_i_1 ?_
  refine l_iadd hO dL_law_800 (v := nI (j + 1)) (nI_add j 1) ?_
  refine l_sld hO (n := j + 1) (by omega) (by omega) rfl dL_law_801 ?_
  refine l_aload_n hO dL_law_802 0 rfl rfl ?_
  refine l_iload_n hO dL_law_803 3 rfl rfl ?_
  refine l_iconst hO dL_law_804 ic_i_2 ?_
  refine l_iadd hO dL_law_805 (v := nI (j + 2)) (nI_add j 2) ?_
  refine l_sld hO (n := j + 2) (by omega) (by omega) rfl dL_law_806 ?_
  refine l_callXI hO hX mdX11_tells mvX11_tells rfl w1114 (As := [.int _, .int _]) (st := []) (ctX11_tells n0 hO.2.2.2.2.2.2.1 _ _ _) (Nat.le_of_ble_eq_true rfl) rfl rfl (Nat.le_of_ble_eq_true rfl) hcs hsl dL_law_807 ?_
  refine l_pop hO dL_law_810 ?_
  refine l_aload_n hO dL_law_811 2 rfl rfl ?_
  refine l_aload_n hO dL_law_812 0 rfl rfl ?_
  refine l_iload_n hO dL_law_813 3 rfl rfl ?_
  refine l_iconst hO dL_law_814 ic_i_1 ?_
  refine l_iadd hO dL_law_815 (v := nI (j + 1)) (nI_add j 1) ?_
  refine l_sld hO (n := j + 1) (by omega) (by omega) rfl dL_law_816 ?_
  refine l_aload_n hO dL_law_817 0 rfl rfl ?_
  refine l_iload_n hO dL_law_818 3 rfl rfl ?_
  refine l_iconst hO dL_law_819 ic_i_2 ?_
  refine l_iadd hO dL_law_820 (v := nI (j + 2)) (nI_add j 2) ?_
  refine l_sld hO (n := j + 2) (by omega) (by omega) rfl dL_law_821 ?_
  refine l_callYI hO hY mdX12_tells mvX12_tells rfl w1820 (As := [.int _, .int _]) (st := []) (ctX12_tells n0 hO.2.2.2.2.2.2.2.1 _ _ _) (Nat.le_of_ble_eq_true rfl) rfl rfl (Nat.le_of_ble_eq_true rfl) hcs hsl dL_law_822 ?_
  refine l_pop hO dL_law_825 ?_
  refine l_goto (pc := 826) hO dL_law_826 (tgt := 1072) (by decide) ?_
  exact K
def stp21 (n0 : Nat) (a : Nat → Int32) (MX MY : Mem) : Option (Mem × Mem) := (fX11_minutes n0 (a 1) MX).bind fun zx => (fX12_minutes n0 (a 1) MY).bind fun zy => some (zx.2, zy.2)
theorem cas21 (n0 : Nat) {j : Nat} (hO : OKl p s m meth c b L xs D cy ax ay) (hj : j + 6 ≤ L) (hL : L ≤ 3072) (hcs : cells ≤ 600000) (hsl : slots ≤ 7302250) {Z : Mem × Mem} (h : stp21 n0 (fun t => xs (j + t)) MX MY = some Z) (K : LB p l e s m below meth c b D cy ax ay cells slots 1072 [(0, .ref b), (1, .ref (ax 0)), (2, .ref (ay 0)), (3, .int (nI j))] [] Z.1 Z.2) : LB p l e s m below meth c b D cy ax ay cells slots 829 [(0, .ref b), (1, .ref (ax 0)), (2, .ref (ay 0)), (3, .int (nI j))] [] MX MY := by
  obtain ⟨zx, hX, h⟩ := Option.bind_eq_some_iff.mp h
  obtain ⟨zy, hY, h⟩ := Option.bind_eq_some_iff.mp h
  cases h
  refine l_aload_n hO dL_law_829 1 rfl rfl ?_
  refine l_aload_n hO dL_law_830 0 rfl rfl ?_
  refine l_iload_n hO dL_law_831 3 rfl rfl ?_
  refine l_iconst hO dL_law_832 ic_i_1 ?_
  refine l_iadd hO dL_law_833 (v := nI (j + 1)) (nI_add j 1) ?_
  refine l_sld hO (n := j + 1) (by omega) (by omega) rfl dL_law_834 ?_
  refine l_callXI hO hX mdX11_minutes mvX11_minutes rfl w1124 (As := [.int _]) (st := []) (ctX11_minutes n0 hO.2.2.2.2.2.2.1 _ _) (Nat.le_of_ble_eq_true rfl) rfl rfl (Nat.le_of_ble_eq_true rfl) hcs hsl dL_law_835 ?_
  refine l_pop hO dL_law_838 ?_
  refine l_aload_n hO dL_law_839 2 rfl rfl ?_
  refine l_aload_n hO dL_law_840 0 rfl rfl ?_
  refine l_iload_n hO dL_law_841 3 rfl rfl ?_
  refine l_iconst hO dL_law_842 ic_i_1 ?_
  refine l_iadd hO dL_law_843 (v := nI (j + 1)) (nI_add j 1) ?_
  refine l_sld hO (n := j + 1) (by omega) (by omega) rfl dL_law_844 ?_
  refine l_callYI hO hY mdX12_minutes mvX12_minutes rfl w1824 (As := [.int _]) (st := []) (ctX12_minutes n0 hO.2.2.2.2.2.2.2.1 _ _) (Nat.le_of_ble_eq_true rfl) rfl rfl (Nat.le_of_ble_eq_true rfl) hcs hsl dL_law_845 ?_
  refine l_pop hO dL_law_848 ?_
  refine l_goto (pc := 849) hO dL_law_849 (tgt := 1072) (by decide) ?_
  exact K
def stp22 (n0 : Nat) (a : Nat → Int32) (MX MY : Mem) : Option (Mem × Mem) := (fX11_chance n0 (a 1) MX).bind fun zx => (fX12_chance n0 (a 1) MY).bind fun zy => some (zx.2, zy.2)
theorem cas22 (n0 : Nat) {j : Nat} (hO : OKl p s m meth c b L xs D cy ax ay) (hj : j + 6 ≤ L) (hL : L ≤ 3072) (hcs : cells ≤ 600000) (hsl : slots ≤ 7302250) {Z : Mem × Mem} (h : stp22 n0 (fun t => xs (j + t)) MX MY = some Z) (K : LB p l e s m below meth c b D cy ax ay cells slots 1072 [(0, .ref b), (1, .ref (ax 0)), (2, .ref (ay 0)), (3, .int (nI j))] [] Z.1 Z.2) : LB p l e s m below meth c b D cy ax ay cells slots 852 [(0, .ref b), (1, .ref (ax 0)), (2, .ref (ay 0)), (3, .int (nI j))] [] MX MY := by
  obtain ⟨zx, hX, h⟩ := Option.bind_eq_some_iff.mp h
  obtain ⟨zy, hY, h⟩ := Option.bind_eq_some_iff.mp h
  cases h
  refine l_aload_n hO dL_law_852 1 rfl rfl ?_
  refine l_aload_n hO dL_law_853 0 rfl rfl ?_
  refine l_iload_n hO dL_law_854 3 rfl rfl ?_
  refine l_iconst hO dL_law_855 ic_i_1 ?_
  refine l_iadd hO dL_law_856 (v := nI (j + 1)) (nI_add j 1) ?_
  refine l_sld hO (n := j + 1) (by omega) (by omega) rfl dL_law_857 ?_
  refine l_callXI hO hX mdX11_chance mvX11_chance rfl w1146 (As := [.int _]) (st := []) (ctX11_chance n0 hO.2.2.2.2.2.2.1 _ _) (Nat.le_of_ble_eq_true rfl) rfl rfl (Nat.le_of_ble_eq_true rfl) hcs hsl dL_law_858 ?_
  refine l_pop hO dL_law_861 ?_
  refine l_aload_n hO dL_law_862 2 rfl rfl ?_
  refine l_aload_n hO dL_law_863 0 rfl rfl ?_
  refine l_iload_n hO dL_law_864 3 rfl rfl ?_
  refine l_iconst hO dL_law_865 ic_i_1 ?_
  refine l_iadd hO dL_law_866 (v := nI (j + 1)) (nI_add j 1) ?_
  refine l_sld hO (n := j + 1) (by omega) (by omega) rfl dL_law_867 ?_
  refine l_callYI hO hY mdX12_chance mvX12_chance rfl w1832 (As := [.int _]) (st := []) (ctX12_chance n0 hO.2.2.2.2.2.2.2.1 _ _) (Nat.le_of_ble_eq_true rfl) rfl rfl (Nat.le_of_ble_eq_true rfl) hcs hsl dL_law_868 ?_
  refine l_pop hO dL_law_871 ?_
  refine l_goto (pc := 872) hO dL_law_872 (tgt := 1072) (by decide) ?_
  exact K
def stp23 (n0 : Nat) (a : Nat → Int32) (MX MY : Mem) : Option (Mem × Mem) := (fX11_give n0 (a 1) (a 2) MX).bind fun zx => (fX12_give n0 (a 1) (a 2) MY).bind fun zy => some (zx.2, zy.2)
theorem cas23 (n0 : Nat) {j : Nat} (hO : OKl p s m meth c b L xs D cy ax ay) (hj : j + 6 ≤ L) (hL : L ≤ 3072) (hcs : cells ≤ 600000) (hsl : slots ≤ 7302250) {Z : Mem × Mem} (h : stp23 n0 (fun t => xs (j + t)) MX MY = some Z) (K : LB p l e s m below meth c b D cy ax ay cells slots 1072 [(0, .ref b), (1, .ref (ax 0)), (2, .ref (ay 0)), (3, .int (nI j))] [] Z.1 Z.2) : LB p l e s m below meth c b D cy ax ay cells slots 875 [(0, .ref b), (1, .ref (ax 0)), (2, .ref (ay 0)), (3, .int (nI j))] [] MX MY := by
  obtain ⟨zx, hX, h⟩ := Option.bind_eq_some_iff.mp h
  obtain ⟨zy, hY, h⟩ := Option.bind_eq_some_iff.mp h
  cases h
  refine l_aload_n hO dL_law_875 1 rfl rfl ?_
  refine l_aload_n hO dL_law_876 0 rfl rfl ?_
  refine l_iload_n hO dL_law_877 3 rfl rfl ?_
  refine l_iconst hO dL_law_878 ic_i_1 ?_
  refine l_iadd hO dL_law_879 (v := nI (j + 1)) (nI_add j 1) ?_
  refine l_sld hO (n := j + 1) (by omega) (by omega) rfl dL_law_880 ?_
  refine l_aload_n hO dL_law_881 0 rfl rfl ?_
  refine l_iload_n hO dL_law_882 3 rfl rfl ?_
  refine l_iconst hO dL_law_883 ic_i_2 ?_
  refine l_iadd hO dL_law_884 (v := nI (j + 2)) (nI_add j 2) ?_
  refine l_sld hO (n := j + 2) (by omega) (by omega) rfl dL_law_885 ?_
  refine l_callXI hO hX mdX11_give mvX11_give rfl w1162 (As := [.int _, .int _]) (st := []) (ctX11_give n0 hO.2.2.2.2.2.2.1 _ _ _) (Nat.le_of_ble_eq_true rfl) rfl rfl (Nat.le_of_ble_eq_true rfl) hcs hsl dL_law_886 ?_
  refine l_pop hO dL_law_889 ?_
  refine l_aload_n hO dL_law_890 2 rfl rfl ?_
  refine l_aload_n hO dL_law_891 0 rfl rfl ?_
  refine l_iload_n hO dL_law_892 3 rfl rfl ?_
  refine l_iconst hO dL_law_893 ic_i_1 ?_
  refine l_iadd hO dL_law_894 (v := nI (j + 1)) (nI_add j 1) ?_
  refine l_sld hO (n := j + 1) (by omega) (by omega) rfl dL_law_895 ?_
  refine l_aload_n hO dL_law_896 0 rfl rfl ?_
  refine l_iload_n hO dL_law_897 3 rfl rfl ?_
  refine l_iconst hO dL_law_898 ic_i_2 ?_
  refine l_iadd hO dL_law_899 (v := nI (j + 2)) (nI_add j 2) ?_
  refine l_sld hO (n := j + 2) (by omega) (by omega) rfl dL_law_900 ?_
  refine l_callYI hO hY mdX12_give mvX12_give rfl w1844 (As := [.int _, .int _]) (st := []) (ctX12_give n0 hO.2.2.2.2.2.2.2.1 _ _ _) (Nat.le_of_ble_eq_true rfl) rfl rfl (Nat.le_of_ble_eq_true rfl) hcs hsl dL_law_901 ?_
  refine l_pop hO dL_law_904 ?_
  refine l_goto (pc := 905) hO dL_law_905 (tgt := 1072) (by decide) ?_
  exact K
def stp24 (n0 : Nat) (a : Nat → Int32) (MX MY : Mem) : Option (Mem × Mem) := (fX11_take n0 (a 1) MX).bind fun zx => (fX12_take n0 (a 1) MY).bind fun zy => some (zx.2, zy.2)
theorem cas24 (n0 : Nat) {j : Nat} (hO : OKl p s m meth c b L xs D cy ax ay) (hj : j + 6 ≤ L) (hL : L ≤ 3072) (hcs : cells ≤ 600000) (hsl : slots ≤ 7302250) {Z : Mem × Mem} (h : stp24 n0 (fun t => xs (j + t)) MX MY = some Z) (K : LB p l e s m below meth c b D cy ax ay cells slots 1072 [(0, .ref b), (1, .ref (ax 0)), (2, .ref (ay 0)), (3, .int (nI j))] [] Z.1 Z.2) : LB p l e s m below meth c b D cy ax ay cells slots 908 [(0, .ref b), (1, .ref (ax 0)), (2, .ref (ay 0)), (3, .int (nI j))] [] MX MY := by
  obtain ⟨zx, hX, h⟩ := Option.bind_eq_some_iff.mp h
  obtain ⟨zy, hY, h⟩ := Option.bind_eq_some_iff.mp h
  cases h
  refine l_aload_n hO dL_law_908 1 rfl rfl ?_
  refine l_aload_n hO dL_law_909 0 rfl rfl ?_
  refine l_iload_n hO dL_law_910 3 rfl rfl ?_
  refine l_iconst hO dL_law_911 ic_i_1 ?_
  refine l_iadd hO dL_law_912 (v := nI (j + 1)) (nI_add j 1) ?_
  refine l_sld hO (n := j + 1) (by omega) (by omega) rfl dL_law_913 ?_
  refine l_callXI hO hX mdX11_take mvX11_take rfl w1170 (As := [.int _]) (st := []) (ctX11_take n0 hO.2.2.2.2.2.2.1 _ _) (Nat.le_of_ble_eq_true rfl) rfl rfl (Nat.le_of_ble_eq_true rfl) hcs hsl dL_law_914 ?_
  refine l_pop hO dL_law_917 ?_
  refine l_aload_n hO dL_law_918 2 rfl rfl ?_
  refine l_aload_n hO dL_law_919 0 rfl rfl ?_
  refine l_iload_n hO dL_law_920 3 rfl rfl ?_
  refine l_iconst hO dL_law_921 ic_i_1 ?_
  refine l_iadd hO dL_law_922 (v := nI (j + 1)) (nI_add j 1) ?_
  refine l_sld hO (n := j + 1) (by omega) (by omega) rfl dL_law_923 ?_
  refine l_callYI hO hY mdX12_take mvX12_take rfl w1848 (As := [.int _]) (st := []) (ctX12_take n0 hO.2.2.2.2.2.2.2.1 _ _) (Nat.le_of_ble_eq_true rfl) rfl rfl (Nat.le_of_ble_eq_true rfl) hcs hsl dL_law_924 ?_
  refine l_pop hO dL_law_927 ?_
  refine l_goto (pc := 928) hO dL_law_928 (tgt := 1072) (by decide) ?_
  exact K
def stp25 (n0 : Nat) (a : Nat → Int32) (MX MY : Mem) : Option (Mem × Mem) := (fX11_undo n0 MX).bind fun zx => (fX12_undo n0 MY).bind fun zy => some (zx.2, zy.2)
theorem cas25 (n0 : Nat) {j : Nat} (hO : OKl p s m meth c b L xs D cy ax ay) (hj : j + 6 ≤ L) (hL : L ≤ 3072) (hcs : cells ≤ 600000) (hsl : slots ≤ 7302250) {Z : Mem × Mem} (h : stp25 n0 (fun t => xs (j + t)) MX MY = some Z) (K : LB p l e s m below meth c b D cy ax ay cells slots 1072 [(0, .ref b), (1, .ref (ax 0)), (2, .ref (ay 0)), (3, .int (nI j))] [] Z.1 Z.2) : LB p l e s m below meth c b D cy ax ay cells slots 931 [(0, .ref b), (1, .ref (ax 0)), (2, .ref (ay 0)), (3, .int (nI j))] [] MX MY := by
  obtain ⟨zx, hX, h⟩ := Option.bind_eq_some_iff.mp h
  obtain ⟨zy, hY, h⟩ := Option.bind_eq_some_iff.mp h
  cases h
  refine l_aload_n hO dL_law_931 1 rfl rfl ?_
  refine l_callXI hO hX mdX11_undo mvX11_undo rfl w1174 (As := []) (st := []) (ctX11_undo n0 hO.2.2.2.2.2.2.1 _) (Nat.le_of_ble_eq_true rfl) rfl rfl (Nat.le_of_ble_eq_true rfl) hcs hsl dL_law_932 ?_
  refine l_pop hO dL_law_935 ?_
  refine l_aload_n hO dL_law_936 2 rfl rfl ?_
  refine l_callYI hO hY mdX12_undo mvX12_undo rfl w1697 (As := []) (st := []) (ctX12_undo n0 hO.2.2.2.2.2.2.2.1 _) (Nat.le_of_ble_eq_true rfl) rfl rfl (Nat.le_of_ble_eq_true rfl) hcs hsl dL_law_937 ?_
  refine l_pop hO dL_law_940 ?_
  refine l_goto (pc := 941) hO dL_law_941 (tgt := 1072) (by decide) ?_
  exact K
def stp26 (n0 : Nat) (a : Nat → Int32) (MX MY : Mem) : Option (Mem × Mem) := (fX11_seed n0 (a 1) MX).bind fun zx => (fX12_seed n0 (a 1) MY).bind fun zy => some (zx.2, zy.2)
theorem cas26 (n0 : Nat) {j : Nat} (hO : OKl p s m meth c b L xs D cy ax ay) (hj : j + 6 ≤ L) (hL : L ≤ 3072) (hcs : cells ≤ 600000) (hsl : slots ≤ 7302250) {Z : Mem × Mem} (h : stp26 n0 (fun t => xs (j + t)) MX MY = some Z) (K : LB p l e s m below meth c b D cy ax ay cells slots 1072 [(0, .ref b), (1, .ref (ax 0)), (2, .ref (ay 0)), (3, .int (nI j))] [] Z.1 Z.2) : LB p l e s m below meth c b D cy ax ay cells slots 944 [(0, .ref b), (1, .ref (ax 0)), (2, .ref (ay 0)), (3, .int (nI j))] [] MX MY := by
  obtain ⟨zx, hX, h⟩ := Option.bind_eq_some_iff.mp h
  obtain ⟨zy, hY, h⟩ := Option.bind_eq_some_iff.mp h
  cases h
  refine l_aload_n hO dL_law_944 1 rfl rfl ?_
  refine l_aload_n hO dL_law_945 0 rfl rfl ?_
  refine l_iload_n hO dL_law_946 3 rfl rfl ?_
  refine l_iconst hO dL_law_947 ic_i_1 ?_
  refine l_iadd hO dL_law_948 (v := nI (j + 1)) (nI_add j 1) ?_
  refine l_sld hO (n := j + 1) (by omega) (by omega) rfl dL_law_949 ?_
  refine l_callXI hO hX mdX11_seed mvX11_seed rfl w1186 (As := [.int _]) (st := []) (ctX11_seed n0 hO.2.2.2.2.2.2.1 _ _) (Nat.le_of_ble_eq_true rfl) rfl rfl (Nat.le_of_ble_eq_true rfl) hcs hsl dL_law_950 ?_
  refine l_pop hO dL_law_953 ?_
  refine l_aload_n hO dL_law_954 2 rfl rfl ?_
  refine l_aload_n hO dL_law_955 0 rfl rfl ?_
  refine l_iload_n hO dL_law_956 3 rfl rfl ?_
  refine l_iconst hO dL_law_957 ic_i_1 ?_
  refine l_iadd hO dL_law_958 (v := nI (j + 1)) (nI_add j 1) ?_
  refine l_sld hO (n := j + 1) (by omega) (by omega) rfl dL_law_959 ?_
  refine l_callYI hO hY mdX12_seed mvX12_seed rfl w1852 (As := [.int _]) (st := []) (ctX12_seed n0 hO.2.2.2.2.2.2.2.1 _ _) (Nat.le_of_ble_eq_true rfl) rfl rfl (Nat.le_of_ble_eq_true rfl) hcs hsl dL_law_960 ?_
  refine l_pop hO dL_law_963 ?_
  refine l_goto (pc := 964) hO dL_law_964 (tgt := 1072) (by decide) ?_
  exact K
def stp27 (n0 : Nat) (a : Nat → Int32) (MX MY : Mem) : Option (Mem × Mem) := (fX11_kept n0 (a 1) (a 2) MX).bind fun zx => (fX12_kept n0 (a 1) (a 2) MY).bind fun zy => some (zx.2, zy.2)
theorem cas27 (n0 : Nat) {j : Nat} (hO : OKl p s m meth c b L xs D cy ax ay) (hj : j + 6 ≤ L) (hL : L ≤ 3072) (hcs : cells ≤ 600000) (hsl : slots ≤ 7302250) {Z : Mem × Mem} (h : stp27 n0 (fun t => xs (j + t)) MX MY = some Z) (K : LB p l e s m below meth c b D cy ax ay cells slots 1072 [(0, .ref b), (1, .ref (ax 0)), (2, .ref (ay 0)), (3, .int (nI j))] [] Z.1 Z.2) : LB p l e s m below meth c b D cy ax ay cells slots 967 [(0, .ref b), (1, .ref (ax 0)), (2, .ref (ay 0)), (3, .int (nI j))] [] MX MY := by
  obtain ⟨zx, hX, h⟩ := Option.bind_eq_some_iff.mp h
  obtain ⟨zy, hY, h⟩ := Option.bind_eq_some_iff.mp h
  cases h
  refine l_aload_n hO dL_law_967 1 rfl rfl ?_
  refine l_aload_n hO dL_law_968 0 rfl rfl ?_
  refine l_iload_n hO dL_law_969 3 rfl rfl ?_
  refine l_iconst hO dL_law_970 ic_i_1 ?_
  refine l_iadd hO dL_law_971 (v := nI (j + 1)) (nI_add j 1) ?_
  refine l_sld hO (n := j + 1) (by omega) (by omega) rfl dL_law_972 ?_
  refine l_aload_n hO dL_law_973 0 rfl rfl ?_
  refine l_iload_n hO dL_law_974 3 rfl rfl ?_
  refine l_iconst hO dL_law_975 ic_i_2 ?_
  refine l_iadd hO dL_law_976 (v := nI (j + 2)) (nI_add j 2) ?_
  refine l_sld hO (n := j + 2) (by omega) (by omega) rfl dL_law_977 ?_
  refine l_callXI hO hX mdX11_kept mvX11_kept rfl w1190 (As := [.int _, .int _]) (st := []) (ctX11_kept n0 hO.2.2.2.2.2.2.1 _ _ _) (Nat.le_of_ble_eq_true rfl) rfl rfl (Nat.le_of_ble_eq_true rfl) hcs hsl dL_law_978 ?_
  refine l_pop hO dL_law_981 ?_
  refine l_aload_n hO dL_law_982 2 rfl rfl ?_
  refine l_aload_n hO dL_law_983 0 rfl rfl ?_
  refine l_iload_n hO dL_law_984 3 rfl rfl ?_
  refine l_iconst hO dL_law_985 ic_i_1 ?_
  refine l_iadd hO dL_law_986 (v := nI (j + 1)) (nI_add j 1) ?_
  refine l_sld hO (n := j + 1) (by omega) (by omega) rfl dL_law_987 ?_
  refine l_aload_n hO dL_law_988 0 rfl rfl ?_
  refine l_iload_n hO dL_law_989 3 rfl rfl ?_
  refine l_iconst hO dL_law_990 ic_i_2 ?_
  refine l_iadd hO dL_law_991 (v := nI (j + 2)) (nI_add j 2) ?_
  refine l_sld hO (n := j + 2) (by omega) (by omega) rfl dL_law_992 ?_
  refine l_callYI hO hY mdX12_kept mvX12_kept rfl w1856 (As := [.int _, .int _]) (st := []) (ctX12_kept n0 hO.2.2.2.2.2.2.2.1 _ _ _) (Nat.le_of_ble_eq_true rfl) rfl rfl (Nat.le_of_ble_eq_true rfl) hcs hsl dL_law_993 ?_
  refine l_pop hO dL_law_996 ?_
  refine l_goto (pc := 997) hO dL_law_997 (tgt := 1072) (by decide) ?_
  exact K
def stp28 (n0 : Nat) (a : Nat → Int32) (MX MY : Mem) : Option (Mem × Mem) := (fX11_image n0 MX).bind fun zx => (fX12_image n0 MY).bind fun zy => some (zx.2, zy.2)
theorem cas28 (n0 : Nat) {j : Nat} (hO : OKl p s m meth c b L xs D cy ax ay) (hj : j + 6 ≤ L) (hL : L ≤ 3072) (hcs : cells ≤ 600000) (hsl : slots ≤ 7302250) {Z : Mem × Mem} (h : stp28 n0 (fun t => xs (j + t)) MX MY = some Z) (K : LB p l e s m below meth c b D cy ax ay cells slots 1072 [(0, .ref b), (1, .ref (ax 0)), (2, .ref (ay 0)), (3, .int (nI j))] [] Z.1 Z.2) : LB p l e s m below meth c b D cy ax ay cells slots 1000 [(0, .ref b), (1, .ref (ax 0)), (2, .ref (ay 0)), (3, .int (nI j))] [] MX MY := by
  obtain ⟨zx, hX, h⟩ := Option.bind_eq_some_iff.mp h
  obtain ⟨zy, hY, h⟩ := Option.bind_eq_some_iff.mp h
  cases h
  refine l_aload_n hO dL_law_1000 1 rfl rfl ?_
  refine l_callXI hO hX mdX11_image mvX11_image rfl w1194 (As := []) (st := []) (ctX11_image n0 hO.2.2.2.2.2.2.1 _) (Nat.le_of_ble_eq_true rfl) rfl rfl (Nat.le_of_ble_eq_true rfl) hcs hsl dL_law_1001 ?_
  refine l_pop hO dL_law_1004 ?_
  refine l_aload_n hO dL_law_1005 2 rfl rfl ?_
  refine l_callYI hO hY mdX12_image mvX12_image rfl w1860 (As := []) (st := []) (ctX12_image n0 hO.2.2.2.2.2.2.2.1 _) (Nat.le_of_ble_eq_true rfl) rfl rfl (Nat.le_of_ble_eq_true rfl) hcs hsl dL_law_1006 ?_
  refine l_pop hO dL_law_1009 ?_
  refine l_goto (pc := 1010) hO dL_law_1010 (tgt := 1072) (by decide) ?_
  exact K
def stp29 (n0 : Nat) (a : Nat → Int32) (MX MY : Mem) : Option (Mem × Mem) := (fX11_octet n0 (a 1) MX).bind fun zx => (fX12_octet n0 (a 1) MY).bind fun zy => some (zx.2, zy.2)
theorem cas29 (n0 : Nat) {j : Nat} (hO : OKl p s m meth c b L xs D cy ax ay) (hj : j + 6 ≤ L) (hL : L ≤ 3072) (hcs : cells ≤ 600000) (hsl : slots ≤ 7302250) {Z : Mem × Mem} (h : stp29 n0 (fun t => xs (j + t)) MX MY = some Z) (K : LB p l e s m below meth c b D cy ax ay cells slots 1072 [(0, .ref b), (1, .ref (ax 0)), (2, .ref (ay 0)), (3, .int (nI j))] [] Z.1 Z.2) : LB p l e s m below meth c b D cy ax ay cells slots 1013 [(0, .ref b), (1, .ref (ax 0)), (2, .ref (ay 0)), (3, .int (nI j))] [] MX MY := by
  obtain ⟨zx, hX, h⟩ := Option.bind_eq_some_iff.mp h
  obtain ⟨zy, hY, h⟩ := Option.bind_eq_some_iff.mp h
  cases h
  refine l_aload_n hO dL_law_1013 1 rfl rfl ?_
  refine l_aload_n hO dL_law_1014 0 rfl rfl ?_
  refine l_iload_n hO dL_law_1015 3 rfl rfl ?_
  refine l_iconst hO dL_law_1016 ic_i_1 ?_
  refine l_iadd hO dL_law_1017 (v := nI (j + 1)) (nI_add j 1) ?_
  refine l_sld hO (n := j + 1) (by omega) (by omega) rfl dL_law_1018 ?_
  refine l_callXI hO hX mdX11_octet mvX11_octet rfl w1209 (As := [.int _]) (st := []) (ctX11_octet n0 hO.2.2.2.2.2.2.1 _ _) (Nat.le_of_ble_eq_true rfl) rfl rfl (Nat.le_of_ble_eq_true rfl) hcs hsl dL_law_1019 ?_
  refine l_pop hO dL_law_1022 ?_
  refine l_aload_n hO dL_law_1023 2 rfl rfl ?_
  refine l_aload_n hO dL_law_1024 0 rfl rfl ?_
  refine l_iload_n hO dL_law_1025 3 rfl rfl ?_
  refine l_iconst hO dL_law_1026 ic_i_1 ?_
  refine l_iadd hO dL_law_1027 (v := nI (j + 1)) (nI_add j 1) ?_
  refine l_sld hO (n := j + 1) (by omega) (by omega) rfl dL_law_1028 ?_
  refine l_callYI hO hY mdX12_octet mvX12_octet rfl w1868 (As := [.int _]) (st := []) (ctX12_octet n0 hO.2.2.2.2.2.2.2.1 _ _) (Nat.le_of_ble_eq_true rfl) rfl rfl (Nat.le_of_ble_eq_true rfl) hcs hsl dL_law_1029 ?_
  refine l_pop hO dL_law_1032 ?_
  refine l_goto (pc := 1033) hO dL_law_1033 (tgt := 1072) (by decide) ?_
  exact K
def stp30 (n0 : Nat) (a : Nat → Int32) (MX MY : Mem) : Option (Mem × Mem) := (fX11_on n0 MX).bind fun zx => (fX12_on n0 MY).bind fun zy => some (zx.2, zy.2)
theorem cas30 (n0 : Nat) {j : Nat} (hO : OKl p s m meth c b L xs D cy ax ay) (hj : j + 6 ≤ L) (hL : L ≤ 3072) (hcs : cells ≤ 600000) (hsl : slots ≤ 7302250) {Z : Mem × Mem} (h : stp30 n0 (fun t => xs (j + t)) MX MY = some Z) (K : LB p l e s m below meth c b D cy ax ay cells slots 1072 [(0, .ref b), (1, .ref (ax 0)), (2, .ref (ay 0)), (3, .int (nI j))] [] Z.1 Z.2) : LB p l e s m below meth c b D cy ax ay cells slots 1036 [(0, .ref b), (1, .ref (ax 0)), (2, .ref (ay 0)), (3, .int (nI j))] [] MX MY := by
  obtain ⟨zx, hX, h⟩ := Option.bind_eq_some_iff.mp h
  obtain ⟨zy, hY, h⟩ := Option.bind_eq_some_iff.mp h
  cases h
  refine l_aload_n hO dL_law_1036 1 rfl rfl ?_
  refine l_callXI hO hX mdX11_on mvX11_on rfl w1213 (As := []) (st := []) (ctX11_on n0 hO.2.2.2.2.2.2.1 _) (Nat.le_of_ble_eq_true rfl) rfl rfl (Nat.le_of_ble_eq_true rfl) hcs hsl dL_law_1037 ?_
  refine l_pop hO dL_law_1040 ?_
  refine l_aload_n hO dL_law_1041 2 rfl rfl ?_
  refine l_callYI hO hY mdX12_on mvX12_on rfl w1872 (As := []) (st := []) (ctX12_on n0 hO.2.2.2.2.2.2.2.1 _) (Nat.le_of_ble_eq_true rfl) rfl rfl (Nat.le_of_ble_eq_true rfl) hcs hsl dL_law_1042 ?_
  refine l_pop hO dL_law_1045 ?_
  refine l_goto (pc := 1046) hO dL_law_1046 (tgt := 1072) (by decide) ?_
  exact K
def stp31 (n0 : Nat) (a : Nat → Int32) (MX MY : Mem) : Option (Mem × Mem) := (fX11_status n0 (a 1) MX).bind fun zx => (fX12_status n0 (a 1) MY).bind fun zy => some (zx.2, zy.2)
theorem cas31 (n0 : Nat) {j : Nat} (hO : OKl p s m meth c b L xs D cy ax ay) (hj : j + 6 ≤ L) (hL : L ≤ 3072) (hcs : cells ≤ 600000) (hsl : slots ≤ 7302250) {Z : Mem × Mem} (h : stp31 n0 (fun t => xs (j + t)) MX MY = some Z) (K : LB p l e s m below meth c b D cy ax ay cells slots 1072 [(0, .ref b), (1, .ref (ax 0)), (2, .ref (ay 0)), (3, .int (nI j))] [] Z.1 Z.2) : LB p l e s m below meth c b D cy ax ay cells slots 1049 [(0, .ref b), (1, .ref (ax 0)), (2, .ref (ay 0)), (3, .int (nI j))] [] MX MY := by
  obtain ⟨zx, hX, h⟩ := Option.bind_eq_some_iff.mp h
  obtain ⟨zy, hY, h⟩ := Option.bind_eq_some_iff.mp h
  cases h
  refine l_aload_n hO dL_law_1049 1 rfl rfl ?_
  refine l_aload_n hO dL_law_1050 0 rfl rfl ?_
  refine l_iload_n hO dL_law_1051 3 rfl rfl ?_
  refine l_iconst hO dL_law_1052 ic_i_1 ?_
  refine l_iadd hO dL_law_1053 (v := nI (j + 1)) (nI_add j 1) ?_
  refine l_sld hO (n := j + 1) (by omega) (by omega) rfl dL_law_1054 ?_
  refine l_callXI hO hX mdX11_status mvX11_status rfl w1232 (As := [.int _]) (st := []) (ctX11_status n0 hO.2.2.2.2.2.2.1 _ _) (Nat.le_of_ble_eq_true rfl) rfl rfl (Nat.le_of_ble_eq_true rfl) hcs hsl dL_law_1055 ?_
  refine l_pop hO dL_law_1058 ?_
  refine l_aload_n hO dL_law_1059 2 rfl rfl ?_
  refine l_aload_n hO dL_law_1060 0 rfl rfl ?_
  refine l_iload_n hO dL_law_1061 3 rfl rfl ?_
  refine l_iconst hO dL_law_1062 ic_i_1 ?_
  refine l_iadd hO dL_law_1063 (v := nI (j + 1)) (nI_add j 1) ?_
  refine l_sld hO (n := j + 1) (by omega) (by omega) rfl dL_law_1064 ?_
  refine l_callYI hO hY mdX12_status mvX12_status rfl w1693 (As := [.int _]) (st := []) (ctX12_status n0 hO.2.2.2.2.2.2.2.1 _ _) (Nat.le_of_ble_eq_true rfl) rfl rfl (Nat.le_of_ble_eq_true rfl) hcs hsl dL_law_1065 ?_
  refine l_pop hO dL_law_1068 ?_
  refine l_goto (pc := 1069) hO dL_law_1069 (tgt := 1072) (by decide) ?_
  exact K
def stepL (n0 : Nat) (k : Nat) (a : Nat → Int32) (MX MY : Mem) : Option (Mem × Mem) := match k with
  | 0 => stp0 n0 a MX MY
  | 1 => stp1 n0 a MX MY
  | 2 => stp2 n0 a MX MY
  | 3 => stp3 n0 a MX MY
  | 4 => stp4 n0 a MX MY
  | 5 => stp5 n0 a MX MY
  | 6 => stp6 n0 a MX MY
  | 7 => stp7 n0 a MX MY
  | 8 => stp8 n0 a MX MY
  | 9 => stp9 n0 a MX MY
  | 10 => stp10 n0 a MX MY
  | 11 => stp11 n0 a MX MY
  | 12 => stp12 n0 a MX MY
  | 13 => stp13 n0 a MX MY
  | 14 => stp14 n0 a MX MY
  | 15 => stp15 n0 a MX MY
  | 16 => stp16 n0 a MX MY
  | 17 => stp17 n0 a MX MY
  | 18 => stp18 n0 a MX MY
  | 19 => stp19 n0 a MX MY
  | 20 => stp20 n0 a MX MY
  | 21 => stp21 n0 a MX MY
  | 22 => stp22 n0 a MX MY
  | 23 => stp23 n0 a MX MY
  | 24 => stp24 n0 a MX MY
  | 25 => stp25 n0 a MX MY
  | 26 => stp26 n0 a MX MY
  | 27 => stp27 n0 a MX MY
  | 28 => stp28 n0 a MX MY
  | 29 => stp29 n0 a MX MY
  | 30 => stp30 n0 a MX MY
  | 31 => stp31 n0 a MX MY
  | _ => none
/-- the law, as a function: w calls at most, j ints read -/
def lawF (n0 L : Nat) (xs : Nat → Int32) : Nat → Nat → Mem → Mem → Option Unit
  | 0, _, _, _ => none
  | w + 1, j, MX, MY => if j + 6 ≤ L then (stepL n0 ((xs j).toBitVec.toNat % 32) (fun t => xs (j + t)) MX MY).bind fun z => lawF n0 L xs w (j + 6) z.1 z.2 else some ()
theorem law_loop (n0 : Nat) (hO : OKl p s m meth c b L xs D cy ax ay) (hL : L ≤ 3072) (hcs : cells ≤ 600000) (hsl : slots ≤ 7302250) : ∀ (w j : Nat) (MX MY : Mem), j ≤ L → lawF n0 L xs w j MX MY = some () → LB p l e s m below meth c b D cy ax ay cells slots 18 [(0, .ref b), (1, .ref (ax 0)), (2, .ref (ay 0)), (3, .int (nI j))] [] MX MY := by
  intro w
  induction w with
  | zero => intro j MX MY _ h; cases h
  | succ w ih =>
  intro j MX MY hjL h
  rw [lawF] at h
  refine l_iload_n hO dL_law_18 3 rfl rfl ?_
  refine l_aload_n hO dL_law_19 0 rfl rfl ?_
  refine l_slen hO dL_law_20 ?_
  refine l_bipush hO dL_law_21 ic_b_6 ?_
  refine l_isub hO dL_law_23 rfl ?_
  refine l_icmpgt (pc := 24) hO dL_law_24 (tgt := 1078) (by decide) (fun hgt => ?_) (fun hgt => ?_)
  · refine l_iconst hO dL_law_1078 ic_i_1 ?_
    exact l_ret hO hcs hsl dL_law_1079
  have hj : j + 6 ≤ L := by
    rcases Nat.lt_or_ge L (j + 6) with q | q
    · refine absurd ?_ hgt
      have e6 : (6 : Int32) = nI 6 := rfl
      rw [Int32.lt_iff_toInt_lt, e6, pk_sub_toInt (by omega) (by decide), nI_toInt (by omega)]
      omega
    · exact q
  rw [if_pos hj] at h
  obtain ⟨Z, hz, h⟩ := Option.bind_eq_some_iff.mp h
  refine l_aload_n hO dL_law_27 0 rfl rfl ?_
  refine l_iload_n hO dL_law_28 3 rfl rfl ?_
  refine l_sld hO (n := j) (by omega) (by omega) rfl dL_law_29 ?_
  refine l_bipush hO dL_law_30 ic_b_31 ?_
  refine l_iand hO dL_law_32 (pk_and (xs j) (m := 31) 5 (by decide)) ?_
  have K : LB p l e s m below meth c b D cy ax ay cells slots 1072 [(0, .ref b), (1, .ref (ax 0)), (2, .ref (ay 0)), (3, .int (nI j))] [] Z.1 Z.2 := by
    refine l_iinc hO dL_law_1072 3 rfl (v := nI (j + 6)) (nI_add j 6) (by decide) (lv' := [(3, .int (nI (j + 6))), (0, .ref b), (1, .ref (ax 0)), (2, .ref (ay 0))]) rfl ?_
    refine l_goto (pc := 1075) hO dL_law_1075 (tgt := 18) (by decide) ?_
    refine l_sub [1, 2, 3, 0] rfl ?_
    exact ih (j + 6) Z.1 Z.2 hj h
  have hk32 : (xs j).toBitVec.toNat % 2 ^ 5 < 32 := Nat.mod_lt _ (by decide)
  have hz : stepL n0 ((xs j).toBitVec.toNat % 2 ^ 5) (fun t => xs (j + t)) MX MY = some Z := hz
  revert hz hk32
  generalize (xs j).toBitVec.toNat % 2 ^ 5 = k
  intro hk32 hz
  rcases (show k = 0 ∨ k = 1 ∨ k = 2 ∨ k = 3 ∨ k = 4 ∨ k = 5 ∨ k = 6 ∨ k = 7 ∨ k = 8 ∨ k = 9 ∨ k = 10 ∨ k = 11 ∨ k = 12 ∨ k = 13 ∨ k = 14 ∨ k = 15 ∨ k = 16 ∨ k = 17 ∨ k = 18 ∨ k = 19 ∨ k = 20 ∨ k = 21 ∨ k = 22 ∨ k = 23 ∨ k = 24 ∨ k = 25 ∨ k = 26 ∨ k = 27 ∨ k = 28 ∨ k = 29 ∨ k = 30 ∨ k = 31 by omega) with rfl | rfl | rfl | rfl | rfl | rfl | rfl | rfl | rfl | rfl | rfl | rfl | rfl | rfl | rfl | rfl | rfl | rfl | rfl | rfl | rfl | rfl | rfl | rfl | rfl | rfl | rfl | rfl | rfl | rfl | rfl | rfl
  · exact l_tab (pc := 33) hO dL_law_33 (off := 143) (tgt := 176) (by decide) (by decide) (by decide) (by decide) (cas0 n0 hO hj hL hcs hsl hz K)
  · exact l_tab (pc := 33) hO dL_law_33 (off := 206) (tgt := 239) (by decide) (by decide) (by decide) (by decide) (cas1 n0 hO hj hL hcs hsl hz K)
  · exact l_tab (pc := 33) hO dL_law_33 (off := 229) (tgt := 262) (by decide) (by decide) (by decide) (by decide) (cas2 n0 hO hj hL hcs hsl hz K)
  · exact l_tab (pc := 33) hO dL_law_33 (off := 242) (tgt := 275) (by decide) (by decide) (by decide) (by decide) (cas3 n0 hO hj hL hcs hsl hz K)
  · exact l_tab (pc := 33) hO dL_law_33 (off := 265) (tgt := 298) (by decide) (by decide) (by decide) (by decide) (cas4 n0 hO hj hL hcs hsl hz K)
  · exact l_tab (pc := 33) hO dL_law_33 (off := 288) (tgt := 321) (by decide) (by decide) (by decide) (by decide) (cas5 n0 hO hj hL hcs hsl hz K)
  · exact l_tab (pc := 33) hO dL_law_33 (off := 331) (tgt := 364) (by decide) (by decide) (by decide) (by decide) (cas6 n0 hO hj hL hcs hsl hz K)
  · exact l_tab (pc := 33) hO dL_law_33 (off := 364) (tgt := 397) (by decide) (by decide) (by decide) (by decide) (cas7 n0 hO hj hL hcs hsl hz K)
  · exact l_tab (pc := 33) hO dL_law_33 (off := 397) (tgt := 430) (by decide) (by decide) (by decide) (by decide) (cas8 n0 hO hj hL hcs hsl hz K)
  · exact l_tab (pc := 33) hO dL_law_33 (off := 430) (tgt := 463) (by decide) (by decide) (by decide) (by decide) (cas9 n0 hO hj hL hcs hsl hz K)
  · exact l_tab (pc := 33) hO dL_law_33 (off := 463) (tgt := 496) (by decide) (by decide) (by decide) (by decide) (cas10 n0 hO hj hL hcs hsl hz K)
  · exact l_tab (pc := 33) hO dL_law_33 (off := 486) (tgt := 519) (by decide) (by decide) (by decide) (by decide) (cas11 n0 hO hj hL hcs hsl hz K)
  · exact l_tab (pc := 33) hO dL_law_33 (off := 519) (tgt := 552) (by decide) (by decide) (by decide) (by decide) (cas12 n0 hO hj hL hcs hsl hz K)
  · exact l_tab (pc := 33) hO dL_law_33 (off := 562) (tgt := 595) (by decide) (by decide) (by decide) (by decide) (cas13 n0 hO hj hL hcs hsl hz K)
  · exact l_tab (pc := 33) hO dL_law_33 (off := 595) (tgt := 628) (by decide) (by decide) (by decide) (by decide) (cas14 n0 hO hj hL hcs hsl hz K)
  · exact l_tab (pc := 33) hO dL_law_33 (off := 638) (tgt := 671) (by decide) (by decide) (by decide) (by decide) (cas15 n0 hO hj hL hcs hsl hz K)
  · exact l_tab (pc := 33) hO dL_law_33 (off := 671) (tgt := 704) (by decide) (by decide) (by decide) (by decide) (cas16 n0 hO hj hL hcs hsl hz K)
  · exact l_tab (pc := 33) hO dL_law_33 (off := 704) (tgt := 737) (by decide) (by decide) (by decide) (by decide) (cas17 n0 hO hj hL hcs hsl hz K)
  · exact l_tab (pc := 33) hO dL_law_33 (off := 727) (tgt := 760) (by decide) (by decide) (by decide) (by decide) (cas18 n0 hO hj hL hcs hsl hz K)
  · exact l_tab (pc := 33) hO dL_law_33 (off := 740) (tgt := 773) (by decide) (by decide) (by decide) (by decide) (cas19 n0 hO hj hL hcs hsl hz K)
  · exact l_tab (pc := 33) hO dL_law_33 (off := 763) (tgt := 796) (by decide) (by decide) (by decide) (by decide) (cas20 n0 hO hj hL hcs hsl hz K)
  · exact l_tab (pc := 33) hO dL_law_33 (off := 796) (tgt := 829) (by decide) (by decide) (by decide) (by decide) (cas21 n0 hO hj hL hcs hsl hz K)
  · exact l_tab (pc := 33) hO dL_law_33 (off := 819) (tgt := 852) (by decide) (by decide) (by decide) (by decide) (cas22 n0 hO hj hL hcs hsl hz K)
  · exact l_tab (pc := 33) hO dL_law_33 (off := 842) (tgt := 875) (by decide) (by decide) (by decide) (by decide) (cas23 n0 hO hj hL hcs hsl hz K)
  · exact l_tab (pc := 33) hO dL_law_33 (off := 875) (tgt := 908) (by decide) (by decide) (by decide) (by decide) (cas24 n0 hO hj hL hcs hsl hz K)
  · exact l_tab (pc := 33) hO dL_law_33 (off := 898) (tgt := 931) (by decide) (by decide) (by decide) (by decide) (cas25 n0 hO hj hL hcs hsl hz K)
  · exact l_tab (pc := 33) hO dL_law_33 (off := 911) (tgt := 944) (by decide) (by decide) (by decide) (by decide) (cas26 n0 hO hj hL hcs hsl hz K)
  · exact l_tab (pc := 33) hO dL_law_33 (off := 934) (tgt := 967) (by decide) (by decide) (by decide) (by decide) (cas27 n0 hO hj hL hcs hsl hz K)
  · exact l_tab (pc := 33) hO dL_law_33 (off := 967) (tgt := 1000) (by decide) (by decide) (by decide) (by decide) (cas28 n0 hO hj hL hcs hsl hz K)
  · exact l_tab (pc := 33) hO dL_law_33 (off := 980) (tgt := 1013) (by decide) (by decide) (by decide) (by decide) (cas29 n0 hO hj hL hcs hsl hz K)
  · exact l_tab (pc := 33) hO dL_law_33 (off := 1003) (tgt := 1036) (by decide) (by decide) (by decide) (by decide) (cas30 n0 hO hj hL hcs hsl hz K)
  · exact l_tab (pc := 33) hO dL_law_33 (off := 1016) (tgt := 1049) (by decide) (by decide) (by decide) (by decide) (cas31 n0 hO hj hL hcs hsl hz K)
end
end
section
theorem bzw0 : (okW 141 (Cond.methodLink "PalmHoursLaw" 9 ⟨"PalmHours", "<init>", "()V"⟩) && (okW 142 (Cond.instanceMethod ⟨"PalmHours", "<init>", "()V"⟩) && (okW 1238 (Cond.methodLink "PalmHoursLaw" 12 ⟨"PalmHoursModel", "<init>", "()V"⟩) && (okW 1239 (Cond.instanceMethod ⟨"PalmHoursModel", "<init>", "()V"⟩) && (true))))) = true := by decide +kernel
theorem w141 : Cond.methodLink "PalmHoursLaw" 9 ⟨"PalmHours", "<init>", "()V"⟩ ∈ lw_g := okW_g (an1 bzw0)
theorem w142 : Cond.instanceMethod ⟨"PalmHours", "<init>", "()V"⟩ ∈ lw_g := okW_g (an1 (an2 bzw0))
theorem w1238 : Cond.methodLink "PalmHoursLaw" 12 ⟨"PalmHoursModel", "<init>", "()V"⟩ ∈ lw_g := okW_g (an1 (an2 (an2 bzw0)))
theorem w1239 : Cond.instanceMethod ⟨"PalmHoursModel", "<init>", "()V"⟩ ∈ lw_g := okW_g (an1 (an2 (an2 (an2 bzw0))))
theorem bzw1 : (wdC 143 ⟨"PalmHours", "<init>", "()V"⟩ cX11_init 1 none && (wdC 1240 ⟨"PalmHoursModel", "<init>", "()V"⟩ cX12_init 2 none && (true))) = true := by decide +kernel
theorem w143 : Cond.code ⟨"PalmHours", "<init>", "()V"⟩ cX11_init 1 none ∈ lw_g := wdC_g (an1 bzw1)
theorem w1240 : Cond.code ⟨"PalmHoursModel", "<init>", "()V"⟩ cX12_init 2 none ∈ lw_g := wdC_g (an1 (an2 bzw1))
theorem mdX11_init : MD yX11_init cX11_init 1 none 0 := ⟨w143, w120, by decide +kernel, by decide⟩
theorem mdX12_init : MD yX12_init cX12_init 2 none 0 := ⟨w1240, w137, by decide +kernel, by decide⟩
theorem bzw2 : (okW 140 (Cond.instantiable "PalmHours" 18) && (okW 1237 (Cond.instantiable "PalmHoursModel" 68) && (okW 139 (Cond.classLink "PalmHoursLaw" 7 "PalmHours") && (true)))) = true := by decide +kernel
theorem xw140 : Cond.instantiable "PalmHours" 18 ∈ lw_g := okW_g (an1 bzw2)
theorem xw1237 : Cond.instantiable "PalmHoursModel" 68 ∈ lw_g := okW_g (an1 (an2 bzw2))
theorem xw139 : Cond.classLink "PalmHoursLaw" 7 "PalmHours" ∈ lw_g := okW_g (an1 (an2 (an2 bzw2)))
theorem nlL_7 : NL RL 7 11 RX11 TX11 18 tyX11 := ⟨rfl, inX11, xw139, xw140, w120, tyX11_ok⟩
theorem bzw3 : (okW 1236 (Cond.classLink "PalmHoursLaw" 10 "PalmHoursModel") && (true)) = true := by decide +kernel
theorem xw1236 : Cond.classLink "PalmHoursLaw" 10 "PalmHoursModel" ∈ lw_g := okW_g (an1 bzw3)
theorem nlL_10 : NL RL 10 12 RX12 TX12 68 tyX12 := ⟨rfl, inX12, xw1236, xw1237, w137, tyX12_ok⟩
theorem fsX11 : ∀ j, j < 18 → defaultValue (tyX11 j) = vp_V [.null, .null, .null, .null, .null, .null, .null, .null, .null, .null, .null, .null, .null, .null, .int 0, .int 0, .int 0, .int 0] j := fun j hj => by rcases (show j = 0 ∨ j = 1 ∨ j = 2 ∨ j = 3 ∨ j = 4 ∨ j = 5 ∨ j = 6 ∨ j = 7 ∨ j = 8 ∨ j = 9 ∨ j = 10 ∨ j = 11 ∨ j = 12 ∨ j = 13 ∨ j = 14 ∨ j = 15 ∨ j = 16 ∨ j = 17 by omega) with rfl | rfl | rfl | rfl | rfl | rfl | rfl | rfl | rfl | rfl | rfl | rfl | rfl | rfl | rfl | rfl | rfl | rfl <;> rfl
theorem fsX12 : ∀ j, j < 68 → defaultValue (tyX12 j) = vp_V [.null, .int 0, .int 0, .int 0, .int 0, .int 0, .int 0, .long 0, .int 0, .int 0, .int 0, .int 0, .int 0, .int 0, .null, .null, .null, .null, .null, .null, .null, .null, .null, .null, .null, .null, .null, .null, .null, .null, .null, .null, .null, .int 0, .int 0, .int 0, .null, .null, .null, .null, .null, .int 0, .int 0, .null, .int 0, .int 0, .null, .null, .null, .null, .null, .null, .null, .int 0, .int 0, .long 0, .null, .null, .null, .null, .null, .int 0, .null, .null, .null, .null, .null, .int 0] j := fun j hj => by rcases (show j = 0 ∨ j = 1 ∨ j = 2 ∨ j = 3 ∨ j = 4 ∨ j = 5 ∨ j = 6 ∨ j = 7 ∨ j = 8 ∨ j = 9 ∨ j = 10 ∨ j = 11 ∨ j = 12 ∨ j = 13 ∨ j = 14 ∨ j = 15 ∨ j = 16 ∨ j = 17 ∨ j = 18 ∨ j = 19 ∨ j = 20 ∨ j = 21 ∨ j = 22 ∨ j = 23 ∨ j = 24 ∨ j = 25 ∨ j = 26 ∨ j = 27 ∨ j = 28 ∨ j = 29 ∨ j = 30 ∨ j = 31 ∨ j = 32 ∨ j = 33 ∨ j = 34 ∨ j = 35 ∨ j = 36 ∨ j = 37 ∨ j = 38 ∨ j = 39 ∨ j = 40 ∨ j = 41 ∨ j = 42 ∨ j = 43 ∨ j = 44 ∨ j = 45 ∨ j = 46 ∨ j = 47 ∨ j = 48 ∨ j = 49 ∨ j = 50 ∨ j = 51 ∨ j = 52 ∨ j = 53 ∨ j = 54 ∨ j = 55 ∨ j = 56 ∨ j = 57 ∨ j = 58 ∨ j = 59 ∨ j = 60 ∨ j = 61 ∨ j = 62 ∨ j = 63 ∨ j = 64 ∨ j = 65 ∨ j = 66 ∨ j = 67 by omega) with rfl | rfl | rfl | rfl | rfl | rfl | rfl | rfl | rfl | rfl | rfl | rfl | rfl | rfl | rfl | rfl | rfl | rfl | rfl | rfl | rfl | rfl | rfl | rfl | rfl | rfl | rfl | rfl | rfl | rfl | rfl | rfl | rfl | rfl | rfl | rfl | rfl | rfl | rfl | rfl | rfl | rfl | rfl | rfl | rfl | rfl | rfl | rfl | rfl | rfl | rfl | rfl | rfl | rfl | rfl | rfl | rfl | rfl | rfl | rfl | rfl | rfl | rfl | rfl | rfl | rfl | rfl | rfl <;> rfl
theorem ao_spec {args : Array Value} {s : State} (h : (Cond.arrayOver (.array .int)).before args s = true) : ∃ (comp c : ClassId) (k : Class), s.vm.findClass "[I" = some comp ∧ s.vm.classes[c]? = some k ∧ k.kind = .array comp (.array .int) ∧ s.vm.findClass "[[I" = some c := by
  have h : (Cond.arrayOver (.array .int)).holds args s none s [] = true := h
  simp only [Cond.holds, Cond.value, beq_iff_eq] at h
  cases hc : s.vm.findClass (FieldType.array .int).toString with
  | none => simp [hc] at h
  | some comp =>
    simp only [hc, Option.bind_some, Option.bind_eq_some_iff, Option.map_eq_some_iff] at h
    obtain ⟨c, hi, k, hk, hb⟩ := h
    obtain ⟨hlt, hp, -⟩ := Array.findIdx?_eq_some_iff_getElem.mp hi
    have hkk : s.vm.classes[c] = k := (Array.getElem?_eq_some_iff.mp hk).2
    rw [hkk] at hp
    cases hkind : k.kind with
    | array component ty =>
      rw [hkind] at hb hp
      simp at hb hp
      exact ⟨comp, c, k, hc, hk, by rw [hkind, hp, hb.1], hb.2⟩
    | _ => rw [hkind] at hb; simp at hb
/-- what the reference's cells hold at first -/
def MY0 : Mem := (fun k => if k = 9 then (-1) else if k = 11 then (-1) else if k = 12 then (-1) else if k = 34 then 1 else 0, fun p => if p = 14 then (upd (upd (upd (upd (fun _ => 0) 0 (-1)) 1 (-1)) 2 (-1)) 3 (-1)) else (fun _ => 0), fun _ => 0, fun k => if k = 55 then 1 else 0, fun _ _ => 0)
theorem MY0_wf : WFm LY MY0 := fun k hk => absurd hk (by show ¬ (99 : Nat) < 99; decide)
theorem nestW_in : ∀ w ∈ nestW, w ∈ lw_tbl := fun w hw => by
  have hp : nestW = [149, 168, 174, 486, 505, 518].filterMap (fun i => lw_tbl[i]?) := by decide +kernel
  rw [hp] at hw
  obtain ⟨i, -, hi⟩ := List.mem_filterMap.mp hw
  exact List.mem_of_getElem? hi
def pkO (f : Nat → Cond) (N : Nat) : List Cond → Nat → Bool
  | [], j => decide (N ≤ j)
  | t :: ts, j => if N ≤ j then true else if t = f j then pkO f N ts (j + 1) else pkO f N ts j
theorem pkO_s {f : Nat → Cond} {N : Nat} : ∀ (ts : List Cond) (j : Nat), pkO f N ts j = true → ∀ k, j ≤ k → k < N → f k ∈ ts
  | [], j, h => fun k h1 h2 => by
    have : N ≤ j := of_decide_eq_true h
    omega
  | t :: ts, j, h => fun k h1 h2 => by
    have h' : (if N ≤ j then true else if t = f j then pkO f N ts (j + 1) else pkO f N ts j) = true := h
    rw [if_neg (by omega)] at h'
    by_cases g : t = f j
    · rw [if_pos g] at h'
      by_cases e : k = j
      · rw [e, ← g]
        exact List.mem_cons_self
      · exact List.mem_cons_of_mem _ (pkO_s ts (j + 1) h' k (by omega) h2)
    · rw [if_neg g] at h'
      exact List.mem_cons_of_mem _ (pkO_s ts j h' k h1 h2)
theorem owB_k : pkO (fun j => Cond.eq (.elem (.field (.string "PalmHours$Tokens" 41) "java/lang/String" "value" "[B") (.int (Int32.ofNat j))) (.int (owB.getD j 0))) 121 (flatC (Jvm.Cond.and given_1 narrow_1)) 0 = true := by decide +kernel
theorem owB_in : ∀ j, j < 121 → Cond.eq (.elem (.field (.string "PalmHours$Tokens" 41) "java/lang/String" "value" "[B") (.int (Int32.ofNat j))) (.int (owB.getD j 0)) ∈ flatC (Jvm.Cond.and given_1 narrow_1) := fun j hj => pkO_s _ 0 owB_k j (Nat.zero_le j) hj
/-- what lies below the law's start -/
theorem law_EX {p : Program} {s : State} {m : MethodId} {meth : Method} {c : Code} {b L : Nat} {xs : Nat → Int32} (C0 : lw_At p s m meth c b L xs) : ∃ (D : va_G) (cy : Nat → ClassId) (ka va : Nat), va_K D vwCl (tyl cy) s ∧ EX cy s.heap.size ka va s := by
  obtain ⟨hx, hb, hr, hml, hown, hts, hX, hbl, hlocks, hgv⟩ := C0
  have htg : ∀ w ∈ lw_g, w.before #[Value.ref b] s = true := fun w h => hts w (sub_g h)
  have hs := flat_of_before _ hgv
  obtain ⟨c0, i0, hk0⟩ := u_known (C := RX0) (T := TX0) (N := 2) (n := 2) htg inX0 (htg _ xw173)
  obtain ⟨c1, i1, hk1⟩ := u_known (C := RX1) (T := TX1) (N := 8) (n := 8) htg inX1 (htg _ xw411)
  obtain ⟨c2, i2, hk2⟩ := u_known (C := RX2) (T := TX2) (N := 3) (n := 3) htg inX2 (htg _ xw485)
  obtain ⟨c3, i3, hk3⟩ := u_known (C := RX3) (T := TX3) (N := 3) (n := 3) htg inX3 (htg _ xw384)
  obtain ⟨c4, i4, hk4⟩ := u_known (C := RX4) (T := TX4) (N := 3) (n := 3) htg inX4 (htg _ xw283)
  obtain ⟨c5, i5, hk5⟩ := u_known (C := RX5) (T := TX5) (N := 5) (n := 5) htg inX5 (htg _ xw517)
  obtain ⟨c6, i6, hk6⟩ := u_known (C := RX6) (T := TX6) (N := 8) (n := 8) htg inX6 (htg _ xw447)
  obtain ⟨c7, i7, hk7⟩ := u_known (C := RX7) (T := TX7) (N := 2) (n := 2) htg inX7 (htg _ xw148)
  obtain ⟨c8, i8, hk8⟩ := u_known (C := RX8) (T := TX8) (N := 9) (n := 9) htg inX8 (htg _ xw289)
  obtain ⟨c9, i9, hk9⟩ := u_known (C := RX9) (T := TX9) (N := 19) (n := 19) htg inX9 (htg _ xw167)
  obtain ⟨c10, i10, hk10⟩ := u_known (C := RX10) (T := TX10) (N := 2) (n := 2) htg inX10 (htg _ xw504)
  obtain ⟨c11, i11, hk11⟩ := u_known (C := RX11) (T := TX11) (N := 18) (n := 18) htg inX11 (htg _ xw140)
  obtain ⟨c12, i12, hk12⟩ := u_known (C := RX12) (T := TX12) (N := 68) (n := 68) htg inX12 (htg _ xw1237)
  obtain ⟨ci, kI, bI, hfI, hkI, hdI⟩ := Cond.arrayClass_spec (htg _ xw165)
  obtain ⟨cl, kL, bL, hfL, hkL, hdL⟩ := Cond.arrayClass_spec (htg _ xw1447)
  obtain ⟨cz, kZ, bZ, hfZ, hkZ, hdZ⟩ := Cond.arrayClass_spec (htg _ xw1448)
  obtain ⟨c1', c33, kA, hfc, hkA, hdA, hfA⟩ := ao_spec (hts (Cond.arrayOver (.array .int)) (List.mem_of_getElem? (i := 491) (by decide +kernel)))
  have e1 : c1' = ci := Option.some.inj (hfc.symm.trans hfI)
  subst e1
  obtain ⟨adK, adV, hvS, hvE⟩ := vk_Sof (args := #[Value.ref b]) (s := s) (N := 1) (tm := fun _ => .string "PalmHours$Tokens" 41) (len := [121]) (byt := [owB]) (A := fun q => s.heap.size ≤ q)
    (fun i hi => by rw [show i = 0 by omega]; decide) (fun i hi => hs _ (by decide +kernel)) (fun i hi => hs _ (by decide +kernel)) (fun i hi => hs _ (by decide +kernel))
    (fun i hi => by rw [show i = 0 by omega]; exact hs _ (by decide +kernel)) (fun i hi j hj => by rw [show i = 0 by omega] at hj ⊢; exact hs _ (owB_in j hj)) (fun i j hi hj h => absurd (show i = j by omega) h) (fun a ha => Nat.not_le.mpr ha)
  refine ⟨(fun k => [c0, c1, c2, c3, c4, c5, c6, c7, c8, c9, c10, c11, c12].getD k c0, fun k => [i0, i1, i2, i3, i4, i5, i6, i7, i8, i9, i10, i11, i12].getD k i0), fun k => [c1', cl, cz, c33].getD k c1', adK 0, adV 0, ⟨?_, ?_⟩, ?_⟩
  · intro k q hq
    match k, hq with
    | 0, hq => cases hq; exact hk0
    | 1, hq => cases hq; exact hk1
    | 2, hq => cases hq; exact hk2
    | 3, hq => cases hq; exact hk3
    | 4, hq => cases hq; exact hk4
    | 5, hq => cases hq; exact hk5
    | 6, hq => cases hq; exact hk6
    | 7, hq => cases hq; exact hk7
    | 8, hq => cases hq; exact hk8
    | 9, hq => cases hq; exact hk9
    | 10, hq => cases hq; exact hk10
    | 11, hq => cases hq; exact hk11
    | 12, hq => cases hq; exact hk12
    | k + 13, hq => simp [vwCl] at hq
  · intro k q hq
    match k, hq with
    | 0, hq => cases hq; exact ⟨fun n z => ⟨(fun q hq => by cases hq), kI, hkI, bI, hdI⟩, hfI⟩
    | 1, hq => cases hq; exact ⟨fun n z => ⟨(fun q hq => by cases hq), kL, hkL, bL, hdL⟩, hfL⟩
    | 2, hq => cases hq; exact ⟨fun n z => ⟨(fun q hq => by cases hq), kZ, hkZ, bZ, hdZ⟩, hfZ⟩
    | 3, hq => cases hq; exact ⟨fun n z => ⟨(fun q hq => by cases hq), kA, hkA, c1', hdA⟩, hfA⟩
    | k + 4, hq => simp [tyl] at hq
  · refine ⟨⟨⟨kA, hkA, hdA⟩, kI, bI, hkI, hdI⟩, fun w hw => ?_, vk_R.of (hts _ (List.mem_of_getElem? (i := 294) (by decide +kernel))) (hvE 0 (by decide)), ?_, va_Zof (hts _ (List.mem_of_getElem? (i := 304) (by decide +kernel))) (htg _ w126) (va_eqt (hs _ (by decide +kernel))) (fun a ha => Nat.not_le.mpr ha), va_Zqof (hts _ (List.mem_of_getElem? (i := 320) (by decide +kernel))) (htg _ w128) (hs _ (by decide +kernel)) (fun a ha => Nat.not_le.mpr ha)⟩
    · have h9 := hts w (nestW_in w hw)
      obtain ⟨a, i, x, h, rfl⟩ := nestW_M w hw
      exact va_Nw.of rfl h9
    · refine ⟨fun i hi => ?_, fun i j hi hj _ => by omega⟩
      have h9 := hvS.1 0 (by decide)
      rw [show i = 0 by omega]
      exact h9
set_option maxHeartbeats 4000000 in
set_option maxRecDepth 20000 in
theorem start_gen {p : Program} {e : Env} {s : State} {m : MethodId} {below : List Frame} {meth : Method} {c : Code} (l : Launch) {b L : Nat} {xs : Nat → Int32} (hL : L ≤ 3072) (C0 : lw_At p s m meth c b L xs) {n0 w : Nat} {M1 : Mem} (hbeg : fX11_begin n0 MX0 = some M1) (hlaw : lawF n0 L xs w 0 M1 MY0 = some ()) : W p l e room_1 s m #[Value.ref b] below meth c s.heap [] 0 0 (lw_Z below #[Value.ref b] s) (entryFrame m ([Value.ref b] : List Value).toArray 4) := by
  obtain ⟨D, cy, ka, va, hK, hE⟩ := law_EX C0
  obtain ⟨hx, hb, hr, hml, hown, hts, hX, hbl, hlocks, hgv⟩ := C0
  have htg : ∀ w ∈ lw_g, w.before #[Value.ref b] s = true := fun w h => hts w (sub_g h)
  have hA : ∀ q : Nat, s.heap.size ≤ q → (fun q : Nat => s.heap.size ≤ q) q := fun _ h => h
  have hS : va_S (fun q : Nat => s.heap.size ≤ q) s.heap s.heap [] := va_S.rf
  have hP : va_P D vwCl [] s.heap := fun k q h => by simp at h
  have hD : va_D (fun q : Nat => s.heap.size ≤ q) [] := ⟨fun i j p q h => by simp at h, fun k q h => by simp at h⟩
  have hl := lv_entry ([.ref b]) (n := 4) (Nat.le_of_ble_eq_true rfl)
  rw [lg_entry_eq]
  generalize (lg_sl ([.ref b]) ++ List.replicate (4 - (lg_sl ([.ref b])).length) Slot.unset).toArray = ls at hl ⊢
  have hl : lv_has ls 4 [(0, .ref b)] := hl
  have nX := nlL_7
  have nY := nlL_10
  refine va_new (ci := 11) (fs := [.null, .null, .null, .null, .null, .null, .null, .null, .null, .null, .null, .null, .null, .null, .int 0, .int 0, .int 0, .int 0]) (C := RX11) (T := TX11) (N := 18) hx hb htg inX11 tyX11 tyX11_ok hown (htg _ nX.2.2.1) (htg _ nX.2.2.2.1) (htg _ nX.2.2.2.2.1) hK hP hD hS hA rfl fsX11 (Nat.le_of_ble_eq_true rfl) (Nat.le_of_ble_eq_true rfl) dL_law_0 (fun q0v H hP hD hS => ?_)
  have hP : va_P D vwCl [(q0v, .inr (11, [.null, .null, .null, .null, .null, .null, .null, .null, .null, .null, .null, .null, .null, .null, .int 0, .int 0, .int 0, .int 0]))] H := hP
  have hD : va_D (fun q : Nat => s.heap.size ≤ q) [(q0v, .inr (11, [.null, .null, .null, .null, .null, .null, .null, .null, .null, .null, .null, .null, .null, .null, .int 0, .int 0, .int 0, .int 0]))] := hD
  refine lv_dup hx hb dL_law_3 rfl ?_
  have hFc := va_free (wc := [(q0v, .inr (11, [.null, .null, .null, .null, .null, .null, .null, .null, .null, .null, .null, .null, .null, .null, .int 0, .int 0, .int 0, .int 0]))]) hD hS hA [0] rfl
  refine va_callv (va_runI (As := []) (rest := [.ref q0v]) ⟨hx, hb, hml, hown, htg⟩ (ccX11_init (l := l) (D := D) (cy := cy) (B0 := s.heap.size) (ka := ka) (va := va) q0v hbeg H.size) ⟨callB_of 0 htg (gd_all mdX11_init) rfl rfl rfl (htg _ w120) (htg _ w141) mdX11_init.2.2.1 ⟨(Nat.le_of_ble_eq_true rfl), (Nat.le_of_ble_eq_true rfl)⟩, rfl, htg _ w142⟩ ⟨CC_blind, fun U hU hW => ⟨rfl, by rw [hU], by rw [hU]; exact hP, va_K.moved hW.alike hK, hD.weaken (fun _ _ _ _ => trivial), EX.st hW (fun a h1 h2 => by rw [hU]; exact hS.2.1 a h1 h2) hE, fun q h => hFc q h⟩⟩ rfl rfl hl.1 rfl (lv_room (Nat.le_of_ble_eq_true rfl)) dL_law_4 ⟨(Nat.le_of_ble_eq_true rfl), (Nat.le_of_ble_eq_true rfl)⟩) hS (fun q _ h => hFc q h) hFc (fun ax t H1 locs ht hvm hw hB hz1 hk1 hS => ?_)
  obtain ⟨hax0, hIX, haxA⟩ := hw
  have hWX : WD LX D cy ax M1 H1 := ⟨by have := hB.1.1; rw [ht] at this; exact this, hB.1.2⟩
  have haxs : ∀ k, k < 90 → s.heap.size ≤ ax k := fun k hk => hFc _ (haxA k hk)
  refine lv_astore_n (lv' := [(1, .ref q0v), (0, .ref b)]) hx hb dL_law_7 rfl hl (by decide) rfl (fun ls hl => ?_)
  have hDX : va_D (fun q : Nat => s.heap.size ≤ q) (wl LX cy ax M1) := ⟨(wl_D hIX M1).1, fun k q hk => by
    obtain ⟨h1, rfl⟩ := wl_at hk
    exact haxs k h1⟩
  refine va_new (ci := 12) (fs := [.null, .int 0, .int 0, .int 0, .int 0, .int 0, .int 0, .long 0, .int 0, .int 0, .int 0, .int 0, .int 0, .int 0, .null, .null, .null, .null, .null, .null, .null, .null, .null, .null, .null, .null, .null, .null, .null, .null, .null, .null, .null, .int 0, .int 0, .int 0, .null, .null, .null, .null, .null, .int 0, .int 0, .null, .int 0, .int 0, .null, .null, .null, .null, .null, .null, .null, .int 0, .int 0, .long 0, .null, .null, .null, .null, .null, .int 0, .null, .null, .null, .null, .null, .int 0]) (C := RX12) (T := TX12) (N := 68) hx hb htg inX12 tyX12 tyX12_ok hown (htg _ nY.2.2.1) (htg _ nY.2.2.2.1) (htg _ nY.2.2.2.2.1) hK hWX.1 hDX hS hA rfl fsX12 (Nat.le_of_ble_eq_true rfl) (Nat.le_of_ble_eq_true rfl) dL_law_8 (fun q8v H2 hP2 hD2 hS => ?_)
  have hlen : (wl LX cy ax M1).length = 90 := by unfold wl; rw [List.length_map, List.length_range]; rfl
  have hlast : (wl LX cy ax M1 ++ [(q8v, .inr (12, [.null, .int 0, .int 0, .int 0, .int 0, .int 0, .int 0, .long 0, .int 0, .int 0, .int 0, .int 0, .int 0, .int 0, .null, .null, .null, .null, .null, .null, .null, .null, .null, .null, .null, .null, .null, .null, .null, .null, .null, .null, .null, .int 0, .int 0, .int 0, .null, .null, .null, .null, .null, .int 0, .int 0, .null, .int 0, .int 0, .null, .null, .null, .null, .null, .null, .null, .int 0, .int 0, .long 0, .null, .null, .null, .null, .null, .int 0, .null, .null, .null, .null, .null, .int 0]))])[90]? = some (q8v, .inr (12, [.null, .int 0, .int 0, .int 0, .int 0, .int 0, .int 0, .long 0, .int 0, .int 0, .int 0, .int 0, .int 0, .int 0, .null, .null, .null, .null, .null, .null, .null, .null, .null, .null, .null, .null, .null, .null, .null, .null, .null, .null, .null, .int 0, .int 0, .int 0, .null, .null, .null, .null, .null, .int 0, .int 0, .null, .int 0, .int 0, .null, .null, .null, .null, .null, .null, .null, .int 0, .int 0, .long 0, .null, .null, .null, .null, .null, .int 0, .null, .null, .null, .null, .null, .int 0])) := by rw [List.getElem?_append_right (by rw [hlen]; exact Nat.le_refl _), hlen]; rfl
  have hfirst : ∀ (k : Nat) (q : Nat × va_E), (wl LX cy ax M1)[k]? = some q → (wl LX cy ax M1 ++ [(q8v, .inr (12, [.null, .int 0, .int 0, .int 0, .int 0, .int 0, .int 0, .long 0, .int 0, .int 0, .int 0, .int 0, .int 0, .int 0, .null, .null, .null, .null, .null, .null, .null, .null, .null, .null, .null, .null, .null, .null, .null, .null, .null, .null, .null, .int 0, .int 0, .int 0, .null, .null, .null, .null, .null, .int 0, .int 0, .null, .int 0, .int 0, .null, .null, .null, .null, .null, .null, .null, .int 0, .int 0, .long 0, .null, .null, .null, .null, .null, .int 0, .null, .null, .null, .null, .null, .int 0]))])[k]? = some q := fun k q hk => by
    rw [List.getElem?_append_left (List.getElem?_eq_some_iff.mp hk).1]; exact hk
  have hPX2 : va_P D vwCl (wl LX cy ax M1) H2 := fun k q hk => hP2 k q (hfirst k q hk)
  have hPY : va_P D vwCl [(q8v, .inr (12, [.null, .int 0, .int 0, .int 0, .int 0, .int 0, .int 0, .long 0, .int 0, .int 0, .int 0, .int 0, .int 0, .int 0, .null, .null, .null, .null, .null, .null, .null, .null, .null, .null, .null, .null, .null, .null, .null, .null, .null, .null, .null, .int 0, .int 0, .int 0, .null, .null, .null, .null, .null, .int 0, .int 0, .null, .int 0, .int 0, .null, .null, .null, .null, .null, .null, .null, .int 0, .int 0, .long 0, .null, .null, .null, .null, .null, .int 0, .null, .null, .null, .null, .null, .int 0]))] H2 := fun k q hk => by
    have hz : k < 1 := (List.getElem?_eq_some_iff.mp hk).1
    rw [show k = 0 by omega] at hk
    cases hk
    exact hP2 90 _ hlast
  have hq8 : s.heap.size ≤ q8v := hD2.2 90 _ hlast
  have hDY : va_D (fun q : Nat => s.heap.size ≤ q) [(q8v, .inr (12, [.null, .int 0, .int 0, .int 0, .int 0, .int 0, .int 0, .long 0, .int 0, .int 0, .int 0, .int 0, .int 0, .int 0, .null, .null, .null, .null, .null, .null, .null, .null, .null, .null, .null, .null, .null, .null, .null, .null, .null, .null, .null, .int 0, .int 0, .int 0, .null, .null, .null, .null, .null, .int 0, .int 0, .null, .int 0, .int 0, .null, .null, .null, .null, .null, .null, .null, .int 0, .int 0, .long 0, .null, .null, .null, .null, .null, .int 0, .null, .null, .null, .null, .null, .int 0]))] := ⟨fun i j p q hi hj _ => by
    have h1 : i < 1 := (List.getElem?_eq_some_iff.mp hi).1
    have h2 : j < 1 := (List.getElem?_eq_some_iff.mp hj).1
    omega, fun k q hk => by
    have hz : k < 1 := (List.getElem?_eq_some_iff.mp hk).1
    rw [show k = 0 by omega] at hk
    cases hk
    exact hq8⟩
  have hxq : ∀ i, i < 90 → ax i ≠ q8v := fun i hi h => by
    have h9 := hD2.1 i 90 _ _ (hfirst i _ (wl_get (G := LX) hi)) hlast h
    omega
  have hxl : ∀ i, i < 90 → ax i < H2.size := fun i hi => (hPX2 i _ (wl_get (G := LX) hi)).lt
  refine lv_dup hx hb dL_law_11 rfl ?_
  have hFy := va_free (wc := [(q8v, .inr (12, [.null, .int 0, .int 0, .int 0, .int 0, .int 0, .int 0, .long 0, .int 0, .int 0, .int 0, .int 0, .int 0, .int 0, .null, .null, .null, .null, .null, .null, .null, .null, .null, .null, .null, .null, .null, .null, .null, .null, .null, .null, .null, .int 0, .int 0, .int 0, .null, .null, .null, .null, .null, .int 0, .int 0, .null, .int 0, .int 0, .null, .null, .null, .null, .null, .null, .null, .int 0, .int 0, .long 0, .null, .null, .null, .null, .null, .int 0, .null, .null, .null, .null, .null, .int 0]))]) hDY hS hA [0] rfl
  refine va_callv (va_runI (As := []) (rest := [.ref q8v]) ⟨hx, hb, hml, hown, htg⟩ (ccX12_init (l := l) (D := D) (cy := cy) (B0 := s.heap.size) (ka := ka) (va := va) q8v H2.size) ⟨callB_of 0 htg (gd_all mdX12_init) rfl rfl rfl (htg _ w137) (htg _ w1238) mdX12_init.2.2.1 ⟨(Nat.le_of_ble_eq_true rfl), (Nat.le_of_ble_eq_true rfl)⟩, rfl, htg _ w1239⟩ ⟨CC_blind, fun U hU hW => ⟨rfl, by rw [hU], by rw [hU]; exact hPY, va_K.moved hW.alike hK, hDY.weaken (fun _ _ _ _ => trivial), EX.st hW (fun a h1 h2 => by rw [hU]; exact hS.2.1 a h1 h2) hE, fun q h => hFy q h⟩⟩ rfl rfl hl.1 rfl (lv_room (Nat.le_of_ble_eq_true rfl)) dL_law_12 ⟨(Nat.le_of_ble_eq_true rfl), (Nat.le_of_ble_eq_true rfl)⟩) hS (fun q _ h => hFy q h) hFy (fun u t2 H3 locs3 ht2 hvm2 hw2 hB2 hz2 hk2 hS => ?_)
  obtain ⟨hP3, hK3, hD3⟩ := hB2
  rw [ht2] at hP3
  have ey : [(q8v, .inr (12, [.ref (u 0), .int 0, .int 0, .int 0, .int 0, .int 0, .int 0, .long 0, .int 0, .int (-1), .int 0, .int (-1), .int (-1), .int 0, .ref (u 1), .ref (u 2), .ref (u 3), .ref (u 4), .ref (u 5), .ref (u 6), .ref (u 7), .ref (u 8), .ref (u 9), .ref (u 10), .ref (u 11), .ref (u 12), .ref (u 13), .ref (u 14), .ref (u 15), .ref (u 16), .ref (u 17), .ref (u 18), .ref (u 19), .int 0, .int 1, .int 0, .ref (u 20), .ref (u 21), .ref (u 22), .ref (u 23), .ref (u 24), .int 0, .int 0, .ref (u 25), .int 0, .int 0, .ref (u 26), .ref (u 27), .ref (u 28), .ref (u 29), .ref (u 30), .ref (u 31), .ref (u 32), .int 0, .int 0, .long 1, .ref (u 33), .ref (u 34), .ref (u 35), .ref (u 36), .ref (u 37), .int 0, .ref (u 38), .ref (u 39), .ref (u 40), .ref (u 41), .ref (u 42), .int 0])), ((u 0), .inl (cy 0, 1800, .inl (fun _ => 0))), ((u 1), .inl (cy 0, 2, .inl (fun _ => 0))), ((u 2), .inl (cy 0, 12, .inl (fun _ => 0))), ((u 3), .inl (cy 0, 12, .inl (fun _ => 0))), ((u 4), .inl (cy 0, 2, .inl (fun _ => 0))), ((u 5), .inl (cy 0, 10, .inl (fun _ => 0))), ((u 6), .inl (cy 0, 2, .inl (fun _ => 0))), ((u 7), .inl (cy 0, 50, .inl (fun _ => 0))), ((u 8), .inl (cy 0, 50, .inl (fun _ => 0))), ((u 9), .inl (cy 0, 2, .inl (fun _ => 0))), ((u 10), .inl (cy 0, 12, .inl (fun _ => 0))), ((u 11), .inl (cy 0, 12, .inl (fun _ => 0))), ((u 12), .inl (cy 0, 2, .inl (fun _ => 0))), ((u 13), .inl (cy 0, 4, .inl (upd (upd (upd (upd (fun _ => 0) 0 (-1)) 1 (-1)) 2 (-1)) 3 (-1)))), ((u 14), .inl (cy 0, 4, .inl (fun _ => 0))), ((u 15), .inl (cy 0, 3200, .inl (fun _ => 0))), ((u 16), .inl (cy 0, 3200, .inl (fun _ => 0))), ((u 17), .inl (cy 1, 12, .inr (.inl (fun _ => 0)))), ((u 18), .inl (cy 1, 10, .inr (.inl (fun _ => 0)))), ((u 19), .inl (cy 1, 12, .inr (.inl (fun _ => 0)))), ((u 20), .inl (cy 0, 20, .inl (fun _ => 0))), ((u 21), .inl (cy 0, 20, .inl (fun _ => 0))), ((u 22), .inl (cy 2, 20, .inl (fun _ => 0))), ((u 23), .inl (cy 0, 20, .inl (fun _ => 0))), ((u 24), .inl (cy 0, 20, .inl (fun _ => 0))), ((u 25), .inl (cy 0, 500, .inl (fun _ => 0))), ((u 26), .inl (cy 0, 6, .inl (fun _ => 0))), ((u 27), .inl (cy 0, 22, .inl (fun _ => 0))), ((u 28), .inl (cy 0, 110, .inl (fun _ => 0))), ((u 29), .inl (cy 0, 110, .inl (fun _ => 0))), ((u 30), .inl (cy 0, 22, .inl (fun _ => 0))), ((u 31), .inl (cy 0, 22, .inl (fun _ => 0))), ((u 32), .inl (cy 0, 1760, .inl (fun _ => 0))), ((u 33), .inl (cy 1, 500, .inr (.inl (fun _ => 0)))), ((u 34), .inl (cy 0, 10, .inl (fun _ => 0))), ((u 35), .inl (cy 0, 5, .inl (fun _ => 0))), ((u 36), .inl (cy 0, 5, .inl (fun _ => 0))), ((u 37), .inl (cy 0, 61, .inl (fun _ => 0))), ((u 38), .inl (cy 0, 16, .inl (fun _ => 0))), ((u 39), .inl (cy 0, 16, .inl (fun _ => 0))), ((u 40), .inl (cy 0, 16, .inl (fun _ => 0))), ((u 41), .inl (cy 0, 287, .inl (fun _ => 0))), ((u 42), .inl (cy 0, 40, .inl (fun _ => 0)))] = wl LY cy (fun k => match k with | 0 => q8v | k + 1 => u k) MY0 := rfl
  generalize hay : (fun k : Nat => match k with | 0 => q8v | k + 1 => u k) = ay at ey
  have hP3 : va_P D vwCl (wl LY cy ay MY0) H3 := by rw [← ey]; exact hP3
  have hD3 : va_D (va_A [(q8v, .inr (12, [.null, .int 0, .int 0, .int 0, .int 0, .int 0, .int 0, .long 0, .int 0, .int 0, .int 0, .int 0, .int 0, .int 0, .null, .null, .null, .null, .null, .null, .null, .null, .null, .null, .null, .null, .null, .null, .null, .null, .null, .null, .null, .int 0, .int 0, .int 0, .null, .null, .null, .null, .null, .int 0, .int 0, .null, .int 0, .int 0, .null, .null, .null, .null, .null, .null, .null, .int 0, .int 0, .long 0, .null, .null, .null, .null, .null, .int 0, .null, .null, .null, .null, .null, .int 0]))] H2.size) (wl LY cy ay MY0) := by rw [← ey]; exact hD3
  have hay0 : ay 0 = q8v := by rw [← hay]
  have hIY : Inj LY ay := fun i j hi hj h => hD3.1 i j _ _ (wl_get hi) (wl_get hj) h
  have hayA : ∀ k, k < 44 → va_A [(q8v, .inr (12, [.null, .int 0, .int 0, .int 0, .int 0, .int 0, .int 0, .long 0, .int 0, .int 0, .int 0, .int 0, .int 0, .int 0, .null, .null, .null, .null, .null, .null, .null, .null, .null, .null, .null, .null, .null, .null, .null, .null, .null, .null, .null, .int 0, .int 0, .int 0, .null, .null, .null, .null, .null, .int 0, .int 0, .null, .int 0, .int 0, .null, .null, .null, .null, .null, .null, .null, .int 0, .int 0, .long 0, .null, .null, .null, .null, .null, .int 0, .null, .null, .null, .null, .null, .int 0]))] H2.size (ay k) := fun k hk => hD3.2 k _ (wl_get (G := LY) hk)
  have hyq : ∀ q, va_A [(q8v, .inr (12, [.null, .int 0, .int 0, .int 0, .int 0, .int 0, .int 0, .long 0, .int 0, .int 0, .int 0, .int 0, .int 0, .int 0, .null, .null, .null, .null, .null, .null, .null, .null, .null, .null, .null, .null, .null, .null, .null, .null, .null, .null, .null, .int 0, .int 0, .int 0, .null, .null, .null, .null, .null, .int 0, .int 0, .null, .int 0, .int 0, .null, .null, .null, .null, .null, .null, .null, .int 0, .int 0, .long 0, .null, .null, .null, .null, .null, .int 0, .null, .null, .null, .null, .null, .int 0]))] H2.size q → q = q8v ∨ H2.size ≤ q := fun q h => by
    rcases h with ⟨k, e9, hk⟩ | h
    · have hz : k < 1 := (List.getElem?_eq_some_iff.mp hk).1
      rw [show k = 0 by omega] at hk
      cases hk
      exact Or.inl rfl
    · exact Or.inr h
  have hdis : ∀ i j, i < 90 → j < 44 → ax i ≠ ay j := fun i j hi hj h => by
    have h1 := hxl i hi
    rcases hyq _ (hayA j hj) with h9 | h9
    · exact hxq i hi (h.trans h9)
    · rw [h] at h1; omega
  have hWX3 : WD LX D cy ax M1 H3 := ⟨hPX2.kept (fun k q hk => by
    obtain ⟨h1, rfl⟩ := wl_at hk
    refine hk2 _ (hxl k h1) (fun h9 => ?_)
    rcases hyq _ h9 with h8 | h8
    · exact hxq k h1 h8
    · have := hxl k h1; omega), hWX.2⟩
  refine lv_astore_n (lv' := [(2, .ref q8v), (1, .ref q0v), (0, .ref b)]) hx hb dL_law_15 rfl hl (by decide) rfl (fun ls hl => ?_)
  refine lv_iconst (v := 0) hx hb dL_law_16 (by decide) ?_
  refine lv_istore_n (lv' := [(3, .int 0), (2, .ref q8v), (1, .ref q0v), (0, .ref b)]) hx hb dL_law_17 rfl hl (by decide) rfl (fun ls hl => ?_)
  have hO : OKl p s m meth c b L xs D cy ax ay := ⟨hx, hb, hml, hown, htg, hK, hIX, hIY, hdis, haxs, fun j hj => hFy _ (hayA j hj), hX, hbl, hlocks, hr⟩
  have hgo := law_loop (l := l) (e := e) (below := below) (cells := 134) (slots := 21413) n0 hO hL (Nat.le_of_ble_eq_true rfl) (Nat.le_of_ble_eq_true rfl) w 0 M1 MY0 (Nat.zero_le _) hlaw
  rw [hax0, hay0] at hgo
  exact hgo H3 _ ls hWX3 ⟨hP3, MY0_wf⟩ hS (lv_sub hl [3, 2, 1, 0] rfl)
end
