section
variable {p : Program} {l : Launch} {e : Env} {s : State} {m : MethodId} {below : List Frame} {meth : Method} {c : Code} {b L : Nat} {xs : Nat → Int32} {D : va_G} {cy : Nat → ClassId} {ax ay : Nat → Nat} {cells slots pc : Nat} {lv : List (Nat × Value)} {st : List Value} {MX MY : Mem}
def stp0 (n0 : Nat) (a : Nat → Int32) (MX MY : Mem) : Option (Mem × Mem) := (fX11_feed n0 (a 1) (a 2) (a 3) (a 4) (a 5) MX).bind fun zx => (fX12_feed n0 (a 1) (a 2) (a 3) (a 4) (a 5) MY).bind fun zy => some (zx.2, zy.2)
theorem cas0 (n0 : Nat) {j : Nat} (hO : OKl p s m meth c b L xs D cy ax ay) (hj : j + 6 ≤ L) (hL : L ≤ 3072) (hcs : cells ≤ 600000) (hsl : slots ≤ 7302250) {Z : Mem × Mem} (h : stp0 n0 (fun t => xs (j + t)) MX MY = some Z) (K : LB p l e s m below meth c b D cy ax ay cells slots 1072 [(0, .ref b), (1, .ref (ax 0)), (2, .ref (ay 0)), (3, .int (nI j))] [] Z.1 Z.2) : LB p l e s m below meth c b D cy ax ay cells slots 176 [(0, .ref b), (1, .ref (ax 0)), (2, .ref (ay 0)), (3, .int (nI j))] [] MX MY := by
  obtain ⟨zx, hX, h⟩ := Option.bind_eq_some_iff.mp h
  obtain ⟨zy, hY, h⟩ := Option.bind_eq_some_iff.mp h
  cases h
  refine l_aload_n hO dL_law_176 1 rfl rfl ?_
  refine l_aload_n hO dL_law_177 0 rfl rfl ?_
  refine l_iload_n hO dL_law_178 3 rfl rfl ?_
  refine l_iconst hO dL_law_179 ic_i_1 ?_
  refine l_iadd hO dL_law_180 (v := nI (j + 1)) (nI_add j 1) ?_
  refine l_sld hO (n := j + 1) (by omega) (by omega) rfl dL_law_181 ?_
  refine l_aload_n hO dL_law_182 0 rfl rfl ?_
  refine l_iload_n hO dL_law_183 3 rfl rfl ?_
  refine l_iconst hO dL_law_184 ic_i_2 ?_
  refine l_iadd hO dL_law_185 (v := nI (j + 2)) (nI_add j 2) ?_
  refine l_sld hO (n := j + 2) (by omega) (by omega) rfl dL_law_186 ?_
  refine l_aload_n hO dL_law_187 0 rfl rfl ?_
  refine l_iload_n hO dL_law_188 3 rfl rfl ?_
  refine l_iconst hO dL_law_189 ic_i_3 ?_
  refine l_iadd hO dL_law_190 (v := nI (j + 3)) (nI_add j 3) ?_
  refine l_sld hO (n := j + 3) (by omega) (by omega) rfl dL_law_191 ?_
  refine l_aload_n hO dL_law_192 0 rfl rfl ?_
  refine l_iload_n hO dL_law_193 3 rfl rfl ?_
  refine l_iconst hO dL_law_194 ic_i_4 ?_
  refine l_iadd hO dL_law_195 (v := nI (j + 4)) (nI_add j 4) ?_
  refine l_sld hO (n := j + 4) (by omega) (by omega) rfl dL_law_196 ?_
  refine l_aload_n hO dL_law_197 0 rfl rfl ?_
  refine l_iload_n hO dL_law_198 3 rfl rfl ?_
  refine l_iconst hO dL_law_199 ic_i_5 ?_
  refine l_iadd hO dL_law_200 (v := nI (j + 5)) (nI_add j 5) ?_
  refine l_sld hO (n := j + 5) (by omega) (by omega) rfl dL_law_201 ?_
  refine l_callXI hO hX mdX11_feed mvX11_feed rfl w663 (As := [.int _, .int _, .int _, .int _, .int _]) (st := []) (ctX11_feed n0 hO.2.2.2.2.2.2.1 _ _ _ _ _ _) (Nat.le_of_ble_eq_true rfl) rfl rfl (Nat.le_of_ble_eq_true rfl) hcs hsl dL_law_202 ?_
  refine l_pop hO dL_law_205 ?_
  refine l_aload_n hO dL_law_206 2 rfl rfl ?_
  refine l_aload_n hO dL_law_207 0 rfl rfl ?_
  refine l_iload_n hO dL_law_208 3 rfl rfl ?_
  refine l_iconst hO dL_law_209 ic_i_1 ?_
  refine l_iadd hO dL_law_210 (v := nI (j + 1)) (nI_add j 1) ?_
  refine l_sld hO (n := j + 1) (by omega) (by omega) rfl dL_law_211 ?_
  refine l_aload_n hO dL_law_212 0 rfl rfl ?_
  refine l_iload_n hO dL_law_213 3 rfl rfl ?_
  refine l_iconst hO dL_law_214 ic_i_2 ?_
  refine l_iadd hO dL_law_215 (v := nI (j + 2)) (nI_add j 2) ?_
  refine l_sld hO (n := j + 2) (by omega) (by omega) rfl dL_law_216 ?_
  refine l_aload_n hO dL_law_217 0 rfl rfl ?_
  refine l_iload_n hO dL_law_218 3 rfl rfl ?_
  refine l_iconst hO dL_law_219 ic_i_3 ?_
  refine l_iadd hO dL_law_220 (v := nI (j + 3)) (nI_add j 3) ?_
  refine l_sld hO (n := j + 3) (by omega) (by omega) rfl dL_law_221 ?_
  refine l_aload_n hO dL_law_222 0 rfl rfl ?_
  refine l_iload_n hO dL_law_223 3 rfl rfl ?_
  refine l_iconst hO dL_law_224 ic_i_4 ?_
  refine l_iadd hO dL_law_225 (v := nI (j + 4)) (nI_add j 4) ?_
  refine l_sld hO (n := j + 4) (by omega) (by omega) rfl dL_law_226 ?_
  refine l_aload_n hO dL_law_227 0 rfl rfl ?_
  refine l_iload_n hO dL_law_228 3 rfl rfl ?_
  refine l_iconst hO dL_law_229 ic_i_5 ?_
  refine l_iadd hO dL_law_230 (v := nI (j + 5)) (nI_add j 5) ?_
  refine l_sld hO (n := j + 5) (by omega) (by omega) rfl dL_law_231 ?_
  refine l_callYI hO hY mdX12_feed mvX12_feed rfl w1449 (As := [.int _, .int _, .int _, .int _, .int _]) (st := []) (ctX12_feed n0 hO.2.2.2.2.2.2.2.1 _ _ _ _ _ _) (Nat.le_of_ble_eq_true rfl) rfl rfl (Nat.le_of_ble_eq_true rfl) hcs hsl dL_law_232 ?_
  refine l_pop hO dL_law_235 ?_
  refine l_goto (pc := 236) hO dL_law_236 (tgt := 1072) (by decide) ?_
  exact K
def stp1 (n0 : Nat) (a : Nat → Int32) (MX MY : Mem) : Option (Mem × Mem) := (fX11_end n0 (a 1) MX).bind fun zx => (fX12_end n0 (a 1) MY).bind fun zy => some (zx.2, zy.2)
theorem cas1 (n0 : Nat) {j : Nat} (hO : OKl p s m meth c b L xs D cy ax ay) (hj : j + 6 ≤ L) (hL : L ≤ 3072) (hcs : cells ≤ 600000) (hsl : slots ≤ 7302250) {Z : Mem × Mem} (h : stp1 n0 (fun t => xs (j + t)) MX MY = some Z) (K : LB p l e s m below meth c b D cy ax ay cells slots 1072 [(0, .ref b), (1, .ref (ax 0)), (2, .ref (ay 0)), (3, .int (nI j))] [] Z.1 Z.2) : LB p l e s m below meth c b D cy ax ay cells slots 239 [(0, .ref b), (1, .ref (ax 0)), (2, .ref (ay 0)), (3, .int (nI j))] [] MX MY := by
  obtain ⟨zx, hX, h⟩ := Option.bind_eq_some_iff.mp h
  obtain ⟨zy, hY, h⟩ := Option.bind_eq_some_iff.mp h
  cases h
  refine l_aload_n hO dL_law_239 1 rfl rfl ?_
  refine l_aload_n hO dL_law_240 0 rfl rfl ?_
  refine l_iload_n hO dL_law_241 3 rfl rfl ?_
  refine l_iconst hO dL_law_242 ic_i_1 ?_
  refine l_iadd hO dL_law_243 (v := nI (j + 1)) (nI_add j 1) ?_
  refine l_sld hO (n := j + 1) (by omega) (by omega) rfl dL_law_244 ?_
  refine l_callXI hO hX mdX11_end mvX11_end rfl w679 (As := [.int _]) (st := []) (ctX11_end n0 hO.2.2.2.2.2.2.1 _ _) (Nat.le_of_ble_eq_true rfl) rfl rfl (Nat.le_of_ble_eq_true rfl) hcs hsl dL_law_245 ?_
  refine l_pop hO dL_law_248 ?_
  refine l_aload_n hO dL_law_249 2 rfl rfl ?_
  refine l_aload_n hO dL_law_250 0 rfl rfl ?_
  refine l_iload_n hO dL_law_251 3 rfl rfl ?_
  refine l_iconst hO dL_law_252 ic_i_1 ?_
  refine l_iadd hO dL_law_253 (v := nI (j + 1)) (nI_add j 1) ?_
  refine l_sld hO (n := j + 1) (by omega) (by omega) rfl dL_law_254 ?_
  refine l_callYI hO hY mdX12_end mvX12_end rfl w1461 (As := [.int _]) (st := []) (ctX12_end n0 hO.2.2.2.2.2.2.2.1 _ _) (Nat.le_of_ble_eq_true rfl) rfl rfl (Nat.le_of_ble_eq_true rfl) hcs hsl dL_law_255 ?_
  refine l_pop hO dL_law_258 ?_
  refine l_goto (pc := 259) hO dL_law_259 (tgt := 1072) (by decide) ?_
  exact K
def stp2 (n0 : Nat) (a : Nat → Int32) (MX MY : Mem) : Option (Mem × Mem) := (fX11_town n0 MX).bind fun zx => (fX12_town n0 MY).bind fun zy => if zx.1 = zy.1 then some (zx.2, zy.2) else none
theorem cas2 (n0 : Nat) {j : Nat} (hO : OKl p s m meth c b L xs D cy ax ay) (hj : j + 6 ≤ L) (hL : L ≤ 3072) (hcs : cells ≤ 600000) (hsl : slots ≤ 7302250) {Z : Mem × Mem} (h : stp2 n0 (fun t => xs (j + t)) MX MY = some Z) (K : LB p l e s m below meth c b D cy ax ay cells slots 1072 [(0, .ref b), (1, .ref (ax 0)), (2, .ref (ay 0)), (3, .int (nI j))] [] Z.1 Z.2) : LB p l e s m below meth c b D cy ax ay cells slots 262 [(0, .ref b), (1, .ref (ax 0)), (2, .ref (ay 0)), (3, .int (nI j))] [] MX MY := by
  obtain ⟨zx, hX, h⟩ := Option.bind_eq_some_iff.mp h
  obtain ⟨zy, hY, h⟩ := Option.bind_eq_some_iff.mp h
  have hE : zx.1 = zy.1 := by
    by_cases q : zx.1 = zy.1
    · exact q
    · rw [if_neg q] at h; cases h
  rw [if_pos hE] at h
  cases h
  refine l_aload_n hO dL_law_262 1 rfl rfl ?_
  refine l_callXI hO hX mdX11_town mvX11_town rfl w683 (As := []) (st := []) (ctX11_town n0 hO.2.2.2.2.2.2.1 _) (Nat.le_of_ble_eq_true rfl) rfl rfl (Nat.le_of_ble_eq_true rfl) hcs hsl dL_law_263 ?_
  refine l_aload_n hO dL_law_266 2 rfl rfl ?_
  refine l_callYI hO hY mdX12_town mvX12_town rfl w1465 (As := []) (st := [.int _]) (ctX12_town n0 hO.2.2.2.2.2.2.2.1 _) (Nat.le_of_ble_eq_true rfl) rfl rfl (Nat.le_of_ble_eq_true rfl) hcs hsl dL_law_267 ?_
  refine l_icmpeq (pc := 270) hO dL_law_270 (tgt := 1072) (by decide) hE ?_
  exact K
def stp3 (n0 : Nat) (a : Nat → Int32) (MX MY : Mem) : Option (Mem × Mem) := (fX11_fault n0 (a 1) MX).bind fun zx => (fX12_fault n0 (a 1) MY).bind fun zy => some (zx.2, zy.2)
theorem cas3 (n0 : Nat) {j : Nat} (hO : OKl p s m meth c b L xs D cy ax ay) (hj : j + 6 ≤ L) (hL : L ≤ 3072) (hcs : cells ≤ 600000) (hsl : slots ≤ 7302250) {Z : Mem × Mem} (h : stp3 n0 (fun t => xs (j + t)) MX MY = some Z) (K : LB p l e s m below meth c b D cy ax ay cells slots 1072 [(0, .ref b), (1, .ref (ax 0)), (2, .ref (ay 0)), (3, .int (nI j))] [] Z.1 Z.2) : LB p l e s m below meth c b D cy ax ay cells slots 275 [(0, .ref b), (1, .ref (ax 0)), (2, .ref (ay 0)), (3, .int (nI j))] [] MX MY := by
  obtain ⟨zx, hX, h⟩ := Option.bind_eq_some_iff.mp h
  obtain ⟨zy, hY, h⟩ := Option.bind_eq_some_iff.mp h
  cases h
  refine l_aload_n hO dL_law_275 1 rfl rfl ?_
  refine l_aload_n hO dL_law_276 0 rfl rfl ?_
  refine l_iload_n hO dL_law_277 3 rfl rfl ?_
  refine l_iconst hO dL_law_278 ic_i_1 ?_
  refine l_iadd hO dL_law_279 (v := nI (j + 1)) (nI_add j 1) ?_
  refine l_sld hO (n := j + 1) (by omega) (by omega) rfl dL_law_280 ?_
  refine l_callXI hO hX mdX11_fault mvX11_fault rfl w904 (As := [.int _]) (st := []) (ctX11_fault n0 hO.2.2.2.2.2.2.1 _ _) (Nat.le_of_ble_eq_true rfl) rfl rfl (Nat.le_of_ble_eq_true rfl) hcs hsl dL_law_281 ?_
  refine l_pop hO dL_law_284 ?_
  refine l_aload_n hO dL_law_285 2 rfl rfl ?_
  refine l_aload_n hO dL_law_286 0 rfl rfl ?_
  refine l_iload_n hO dL_law_287 3 rfl rfl ?_
  refine l_iconst hO dL_law_288 ic_i_1 ?_
  refine l_iadd hO dL_law_289 (v := nI (j + 1)) (nI_add j 1) ?_
  refine l_sld hO (n := j + 1) (by omega) (by omega) rfl dL_law_290 ?_
  refine l_callYI hO hY mdX12_fault mvX12_fault rfl w1689 (As := [.int _]) (st := []) (ctX12_fault n0 hO.2.2.2.2.2.2.2.1 _ _) (Nat.le_of_ble_eq_true rfl) rfl rfl (Nat.le_of_ble_eq_true rfl) hcs hsl dL_law_291 ?_
  refine l_pop hO dL_law_294 ?_
  refine l_goto (pc := 295) hO dL_law_295 (tgt := 1072) (by decide) ?_
  exact K
def stp4 (n0 : Nat) (a : Nat → Int32) (MX MY : Mem) : Option (Mem × Mem) := (fX11_has n0 (a 1) MX).bind fun zx => (fX12_has n0 (a 1) MY).bind fun zy => some (zx.2, zy.2)
theorem cas4 (n0 : Nat) {j : Nat} (hO : OKl p s m meth c b L xs D cy ax ay) (hj : j + 6 ≤ L) (hL : L ≤ 3072) (hcs : cells ≤ 600000) (hsl : slots ≤ 7302250) {Z : Mem × Mem} (h : stp4 n0 (fun t => xs (j + t)) MX MY = some Z) (K : LB p l e s m below meth c b D cy ax ay cells slots 1072 [(0, .ref b), (1, .ref (ax 0)), (2, .ref (ay 0)), (3, .int (nI j))] [] Z.1 Z.2) : LB p l e s m below meth c b D cy ax ay cells slots 298 [(0, .ref b), (1, .ref (ax 0)), (2, .ref (ay 0)), (3, .int (nI j))] [] MX MY := by
  obtain ⟨zx, hX, h⟩ := Option.bind_eq_some_iff.mp h
  obtain ⟨zy, hY, h⟩ := Option.bind_eq_some_iff.mp h
  cases h
  refine l_aload_n hO dL_law_298 1 rfl rfl ?_
  refine l_aload_n hO dL_law_299 0 rfl rfl ?_
  refine l_iload_n hO dL_law_300 3 rfl rfl ?_
  refine l_iconst hO dL_law_301 ic_i_1 ?_
  refine l_iadd hO dL_law_302 (v := nI (j + 1)) (nI_add j 1) ?_
  refine l_sld hO (n := j + 1) (by omega) (by omega) rfl dL_law_303 ?_
  refine l_callXI hO hX mdX11_has mvX11_has rfl w908 (As := [.int _]) (st := []) (ctX11_has n0 hO.2.2.2.2.2.2.1 _ _) (Nat.le_of_ble_eq_true rfl) rfl rfl (Nat.le_of_ble_eq_true rfl) hcs hsl dL_law_304 ?_
  refine l_pop hO dL_law_307 ?_
  refine l_aload_n hO dL_law_308 2 rfl rfl ?_
  refine l_aload_n hO dL_law_309 0 rfl rfl ?_
  refine l_iload_n hO dL_law_310 3 rfl rfl ?_
  refine l_iconst hO dL_law_311 ic_i_1 ?_
  refine l_iadd hO dL_law_312 (v := nI (j + 1)) (nI_add j 1) ?_
  refine l_sld hO (n := j + 1) (by omega) (by omega) rfl dL_law_313 ?_
  refine l_callYI hO hY mdX12_has mvX12_has rfl w1709 (As := [.int _]) (st := []) (ctX12_has n0 hO.2.2.2.2.2.2.2.1 _ _) (Nat.le_of_ble_eq_true rfl) rfl rfl (Nat.le_of_ble_eq_true rfl) hcs hsl dL_law_314 ?_
  refine l_pop hO dL_law_317 ?_
  refine l_goto (pc := 318) hO dL_law_318 (tgt := 1072) (by decide) ?_
  exact K
def stp5 (n0 : Nat) (a : Nat → Int32) (MX MY : Mem) : Option (Mem × Mem) := (fX11_letter n0 (a 1) (a 2) (a 3) MX).bind fun zx => (fX12_letter n0 (a 1) (a 2) (a 3) MY).bind fun zy => some (zx.2, zy.2)
theorem cas5 (n0 : Nat) {j : Nat} (hO : OKl p s m meth c b L xs D cy ax ay) (hj : j + 6 ≤ L) (hL : L ≤ 3072) (hcs : cells ≤ 600000) (hsl : slots ≤ 7302250) {Z : Mem × Mem} (h : stp5 n0 (fun t => xs (j + t)) MX MY = some Z) (K : LB p l e s m below meth c b D cy ax ay cells slots 1072 [(0, .ref b), (1, .ref (ax 0)), (2, .ref (ay 0)), (3, .int (nI j))] [] Z.1 Z.2) : LB p l e s m below meth c b D cy ax ay cells slots 321 [(0, .ref b), (1, .ref (ax 0)), (2, .ref (ay 0)), (3, .int (nI j))] [] MX MY := by
  obtain ⟨zx, hX, h⟩ := Option.bind_eq_some_iff.mp h
  obtain ⟨zy, hY, h⟩ := Option.bind_eq_some_iff.mp h
  cases h
  refine l_aload_n hO dL_law_321 1 rfl rfl ?_
  refine l_aload_n hO dL_law_322 0 rfl rfl ?_
  refine l_iload_n hO dL_law_323 3 rfl rfl ?_
  refine l_iconst hO dL_law_324 ic_i_1 ?_
  refine l_iadd hO dL_law_325 (v := nI (j + 1)) (nI_add j 1) ?_
  refine l_sld hO (n := j + 1) (by omega) (by omega) rfl dL_law_326 ?_
  refine l_aload_n hO dL_law_327 0 rfl rfl ?_
  refine l_iload_n hO dL_law_328 3 rfl rfl ?_
  refine l_iconst hO dL_law_329 ic_i_2 ?_
  refine l_iadd hO dL_law_330 (v := nI (j + 2)) (nI_add j 2) ?_
  refine l_sld hO (n := j + 2) (by omega) (by omega) rfl dL_law_331 ?_
  refine l_aload_n hO dL_law_332 0 rfl rfl ?_
  refine l_iload_n hO dL_law_333 3 rfl rfl ?_
  refine l_iconst hO dL_law_334 ic_i_3 ?_
  refine l_iadd hO dL_law_335 (v := nI (j + 3)) (nI_add j 3) ?_
  refine l_sld hO (n := j + 3) (by omega) (by omega) rfl dL_law_336 ?_
  refine l_callXI hO hX mdX11_letter mvX11_letter rfl w920 (As := [.int _, .int _, .int _]) (st := []) (ctX11_letter n0 hO.2.2.2.2.2.2.1 _ _ _ _) (Nat.le_of_ble_eq_true rfl) rfl rfl (Nat.le_of_ble_eq_true rfl) hcs hsl dL_law_337 ?_
  refine l_pop hO dL_law_340 ?_
  refine l_aload_n hO dL_law_341 2 rfl rfl ?_
  refine l_aload_n hO dL_law_342 0 rfl rfl ?_
  refine l_iload_n hO dL_law_343 3 rfl rfl ?_
  refine l_iconst hO dL_law_344 ic_i_1 ?_
  refine l_iadd hO dL_law_345 (v := nI (j + 1)) (nI_add j 1) ?_
  refine l_sld hO (n := j + 1) (by omega) (by omega) rfl dL_law_346 ?_
  refine l_aload_n hO dL_law_347 0 rfl rfl ?_
  refine l_iload_n hO dL_law_348 3 rfl rfl ?_
  refine l_iconst hO dL_law_349 ic_i_2 ?_
  refine l_iadd hO dL_law_350 (v := nI (j + 2)) (nI_add j 2) ?_
  refine l_sld hO (n := j + 2) (by omega) (by omega) rfl dL_law_351 ?_
  refine l_aload_n hO dL_law_352 0 rfl rfl ?_
  refine l_iload_n hO dL_law_353 3 rfl rfl ?_
  refine l_iconst hO dL_law_354 ic_i_3 ?_
  refine l_iadd hO dL_law_355 (v := nI (j + 3)) (nI_add j 3) ?_
  refine l_sld hO (n := j + 3) (by omega) (by omega) rfl dL_law_356 ?_
  refine l_callYI hO hY mdX12_letter mvX12_letter rfl w1716 (As := [.int _, .int _, .int _]) (st := []) (ctX12_letter n0 hO.2.2.2.2.2.2.2.1 _ _ _ _) (Nat.le_of_ble_eq_true rfl) rfl rfl (Nat.le_of_ble_eq_true rfl) hcs hsl dL_law_357 ?_
  refine l_pop hO dL_law_360 ?_
  refine l_goto (pc := 361) hO dL_law_361 (tgt := 1072) (by decide) ?_
  exact K
def stp6 (n0 : Nat) (a : Nat → Int32) (MX MY : Mem) : Option (Mem × Mem) := (fX11_thing n0 (a 1) (a 2) MX).bind fun zx => (fX12_thing n0 (a 1) (a 2) MY).bind fun zy => some (zx.2, zy.2)
theorem cas6 (n0 : Nat) {j : Nat} (hO : OKl p s m meth c b L xs D cy ax ay) (hj : j + 6 ≤ L) (hL : L ≤ 3072) (hcs : cells ≤ 600000) (hsl : slots ≤ 7302250) {Z : Mem × Mem} (h : stp6 n0 (fun t => xs (j + t)) MX MY = some Z) (K : LB p l e s m below meth c b D cy ax ay cells slots 1072 [(0, .ref b), (1, .ref (ax 0)), (2, .ref (ay 0)), (3, .int (nI j))] [] Z.1 Z.2) : LB p l e s m below meth c b D cy ax ay cells slots 364 [(0, .ref b), (1, .ref (ax 0)), (2, .ref (ay 0)), (3, .int (nI j))] [] MX MY := by
  obtain ⟨zx, hX, h⟩ := Option.bind_eq_some_iff.mp h
  obtain ⟨zy, hY, h⟩ := Option.bind_eq_some_iff.mp h
  cases h
  refine l_aload_n hO dL_law_364 1 rfl rfl ?_
  refine l_aload_n hO dL_law_365 0 rfl rfl ?_
  refine l_iload_n hO dL_law_366 3 rfl rfl ?_
  refine l_iconst hO dL_law_367 ic_i_1 ?_
  refine l_iadd hO dL_law_368 (v := nI (j + 1)) (nI_add j 1) ?_
  refine l_sld hO (n := j + 1) (by omega) (by omega) rfl dL_law_369 ?_
  refine l_aload_n hO dL_law_370 0 rfl rfl ?_
  refine l_iload_n hO dL_law_371 3 rfl rfl ?_
  refine l_iconst hO dL_law_372 ic_i_2 ?_
  refine l_iadd hO dL_law_373 (v := nI (j + 2)) (nI_add j 2) ?_
  refine l_sld hO (n := j + 2) (by omega) (by omega) rfl dL_law_374 ?_
  refine l_callXI hO hX mdX11_thing mvX11_thing rfl w936 (As := [.int _, .int _]) (st := []) (ctX11_thing n0 hO.2.2.2.2.2.2.1 _ _ _) (Nat.le_of_ble_eq_true rfl) rfl rfl (Nat.le_of_ble_eq_true rfl) hcs hsl dL_law_375 ?_
  refine l_pop hO dL_law_378 ?_
  refine l_aload_n hO dL_law_379 2 rfl rfl ?_
  refine l_aload_n hO dL_law_380 0 rfl rfl ?_
  refine l_iload_n hO dL_law_381 3 rfl rfl ?_
  refine l_iconst hO dL_law_382 ic_i_1 ?_
  refine l_iadd hO dL_law_383 (v := nI (j + 1)) (nI_add j 1) ?_
  refine l_sld hO (n := j + 1) (by omega) (by omega) rfl dL_law_384 ?_
  refine l_aload_n hO dL_law_385 0 rfl rfl ?_
  refine l_iload_n hO dL_law_386 3 rfl rfl ?_
  refine l_iconst hO dL_law_387 ic_i_2 ?_
  refine l_iadd hO dL_law_388 (v := nI (j + 2)) (nI_add j 2) ?_
  refine l_sld hO (n := j + 2) (by omega) (by omega) rfl dL_law_389 ?_
  refine l_callYI hO hY mdX12_thing mvX12_thing rfl w1721 (As := [.int _, .int _]) (st := []) (ctX12_thing n0 hO.2.2.2.2.2.2.2.1 _ _ _) (Nat.le_of_ble_eq_true rfl) rfl rfl (Nat.le_of_ble_eq_true rfl) hcs hsl dL_law_390 ?_
  refine l_pop hO dL_law_393 ?_
  refine l_goto (pc := 394) hO dL_law_394 (tgt := 1072) (by decide) ?_
  exact K
def stp7 (n0 : Nat) (a : Nat → Int32) (MX MY : Mem) : Option (Mem × Mem) := (fX11_corner n0 (a 1) (a 2) MX).bind fun zx => (fX12_corner n0 (a 1) (a 2) MY).bind fun zy => some (zx.2, zy.2)
theorem cas7 (n0 : Nat) {j : Nat} (hO : OKl p s m meth c b L xs D cy ax ay) (hj : j + 6 ≤ L) (hL : L ≤ 3072) (hcs : cells ≤ 600000) (hsl : slots ≤ 7302250) {Z : Mem × Mem} (h : stp7 n0 (fun t => xs (j + t)) MX MY = some Z) (K : LB p l e s m below meth c b D cy ax ay cells slots 1072 [(0, .ref b), (1, .ref (ax 0)), (2, .ref (ay 0)), (3, .int (nI j))] [] Z.1 Z.2) : LB p l e s m below meth c b D cy ax ay cells slots 397 [(0, .ref b), (1, .ref (ax 0)), (2, .ref (ay 0)), (3, .int (nI j))] [] MX MY := by
  obtain ⟨zx, hX, h⟩ := Option.bind_eq_some_iff.mp h
  obtain ⟨zy, hY, h⟩ := Option.bind_eq_some_iff.mp h
  cases h
  refine l_aload_n hO dL_law_397 1 rfl rfl ?_
  refine l_aload_n hO dL_law_398 0 rfl rfl ?_
  refine l_iload_n hO dL_law_399 3 rfl rfl ?_
  refine l_iconst hO dL_law_400 ic_i_1 ?_
  refine l_iadd hO dL_law_401 (v := nI (j + 1)) (nI_add j 1) ?_
  refine l_sld hO (n := j + 1) (by omega) (by omega) rfl dL_law_402 ?_
  refine l_aload_n hO dL_law_403 0 rfl rfl ?_
  refine l_iload_n hO dL_law_404 3 rfl rfl ?_
  refine l_iconst hO dL_law_405 ic_i_2 ?_
  refine l_iadd hO dL_law_406 (v := nI (j + 2)) (nI_add j 2) ?_
  refine l_sld hO (n := j + 2) (by omega) (by omega) rfl dL_law_407 ?_
  refine l_callXI hO hX mdX11_corner mvX11_corner rfl w940 (As := [.int _, .int _]) (st := []) (ctX11_corner n0 hO.2.2.2.2.2.2.1 _ _ _) (Nat.le_of_ble_eq_true rfl) rfl rfl (Nat.le_of_ble_eq_true rfl) hcs hsl dL_law_408 ?_
  refine l_pop hO dL_law_411 ?_
  refine l_aload_n hO dL_law_412 2 rfl rfl ?_
  refine l_aload_n hO dL_law_413 0 rfl rfl ?_
  refine l_iload_n hO dL_law_414 3 rfl rfl ?_
  refine l_iconst hO dL_law_415 ic_i_1 ?_
  refine l_iadd hO dL_law_416 (v := nI (j + 1)) (nI_add j 1) ?_
  refine l_sld hO (n := j + 1) (by omega) (by omega) rfl dL_law_417 ?_
  refine l_aload_n hO dL_law_418 0 rfl rfl ?_
  refine l_iload_n hO dL_law_419 3 rfl rfl ?_
  refine l_iconst hO dL_law_420 ic_i_2 ?_
  refine l_iadd hO dL_law_421 (v := nI (j + 2)) (nI_add j 2) ?_
  refine l_sld hO (n := j + 2) (by omega) (by omega) rfl dL_law_422 ?_
  refine l_callYI hO hY mdX12_corner mvX12_corner rfl w1729 (As := [.int _, .int _]) (st := []) (ctX12_corner n0 hO.2.2.2.2.2.2.2.1 _ _ _) (Nat.le_of_ble_eq_true rfl) rfl rfl (Nat.le_of_ble_eq_true rfl) hcs hsl dL_law_423 ?_
  refine l_pop hO dL_law_426 ?_
  refine l_goto (pc := 427) hO dL_law_427 (tgt := 1072) (by decide) ?_
  exact K
def stp8 (n0 : Nat) (a : Nat → Int32) (MX MY : Mem) : Option (Mem × Mem) := (fX11_doing n0 (a 1) (a 2) MX).bind fun zx => (fX12_doing n0 (a 1) (a 2) MY).bind fun zy => some (zx.2, zy.2)
theorem cas8 (n0 : Nat) {j : Nat} (hO : OKl p s m meth c b L xs D cy ax ay) (hj : j + 6 ≤ L) (hL : L ≤ 3072) (hcs : cells ≤ 600000) (hsl : slots ≤ 7302250) {Z : Mem × Mem} (h : stp8 n0 (fun t => xs (j + t)) MX MY = some Z) (K : LB p l e s m below meth c b D cy ax ay cells slots 1072 [(0, .ref b), (1, .ref (ax 0)), (2, .ref (ay 0)), (3, .int (nI j))] [] Z.1 Z.2) : LB p l e s m below meth c b D cy ax ay cells slots 430 [(0, .ref b), (1, .ref (ax 0)), (2, .ref (ay 0)), (3, .int (nI j))] [] MX MY := by
  obtain ⟨zx, hX, h⟩ := Option.bind_eq_some_iff.mp h
  obtain ⟨zy, hY, h⟩ := Option.bind_eq_some_iff.mp h
  cases h
  refine l_aload_n hO dL_law_430 1 rfl rfl ?_
  refine l_aload_n hO dL_law_431 0 rfl rfl ?_
  refine l_iload_n hO dL_law_432 3 rfl rfl ?_
  refine l_iconst hO dL_law_433 ic_i_1 ?_
  refine l_iadd hO dL_law_434 (v := nI (j + 1)) (nI_add j 1) ?_
  refine l_sld hO (n := j + 1) (by omega) (by omega) rfl dL_law_435 ?_
  refine l_aload_n hO dL_law_436 0 rfl rfl ?_
  refine l_iload_n hO dL_law_437 3 rfl rfl ?_
  refine l_iconst hO dL_law_438 ic_i_2 ?_
  refine l_iadd hO dL_law_439 (v := nI (j + 2)) (nI_add j 2) ?_
  refine l_sld hO (n := j + 2) (by omega) (by omega) rfl dL_law_440 ?_
  refine l_callXI hO hX mdX11_doing mvX11_doing rfl w954 (As := [.int _, .int _]) (st := []) (ctX11_doing n0 hO.2.2.2.2.2.2.1 _ _ _) (Nat.le_of_ble_eq_true rfl) rfl rfl (Nat.le_of_ble_eq_true rfl) hcs hsl dL_law_441 ?_
  refine l_pop hO dL_law_444 ?_
  refine l_aload_n hO dL_law_445 2 rfl rfl ?_
  refine l_aload_n hO dL_law_446 0 rfl rfl ?_
  refine l_iload_n hO dL_law_447 3 rfl rfl ?_
  refine l_iconst hO dL_law_448 ic_i_1 ?_
  refine l_iadd hO dL_law_449 (v := nI (j + 1)) (nI_add j 1) ?_
  refine l_sld hO (n := j + 1) (by omega) (by omega) rfl dL_law_450 ?_
  refine l_aload_n hO dL_law_451 0 rfl rfl ?_
  refine l_iload_n hO dL_law_452 3 rfl rfl ?_
  refine l_iconst hO dL_law_453 ic_i_2 ?_
  refine l_iadd hO dL_law_454 (v := nI (j + 2)) (nI_add j 2) ?_
  refine l_sld hO (n := j + 2) (by omega) (by omega) rfl dL_law_455 ?_
  refine l_callYI hO hY mdX12_doing mvX12_doing rfl w1737 (As := [.int _, .int _]) (st := []) (ctX12_doing n0 hO.2.2.2.2.2.2.2.1 _ _ _) (Nat.le_of_ble_eq_true rfl) rfl rfl (Nat.le_of_ble_eq_true rfl) hcs hsl dL_law_456 ?_
  refine l_pop hO dL_law_459 ?_
  refine l_goto (pc := 460) hO dL_law_460 (tgt := 1072) (by decide) ?_
  exact K
def stp9 (n0 : Nat) (a : Nat → Int32) (MX MY : Mem) : Option (Mem × Mem) := (fX11_later n0 (a 1) (a 2) MX).bind fun zx => (fX12_later n0 (a 1) (a 2) MY).bind fun zy => some (zx.2, zy.2)
theorem cas9 (n0 : Nat) {j : Nat} (hO : OKl p s m meth c b L xs D cy ax ay) (hj : j + 6 ≤ L) (hL : L ≤ 3072) (hcs : cells ≤ 600000) (hsl : slots ≤ 7302250) {Z : Mem × Mem} (h : stp9 n0 (fun t => xs (j + t)) MX MY = some Z) (K : LB p l e s m below meth c b D cy ax ay cells slots 1072 [(0, .ref b), (1, .ref (ax 0)), (2, .ref (ay 0)), (3, .int (nI j))] [] Z.1 Z.2) : LB p l e s m below meth c b D cy ax ay cells slots 463 [(0, .ref b), (1, .ref (ax 0)), (2, .ref (ay 0)), (3, .int (nI j))] [] MX MY := by
  obtain ⟨zx, hX, h⟩ := Option.bind_eq_some_iff.mp h
  obtain ⟨zy, hY, h⟩ := Option.bind_eq_some_iff.mp h
  cases h
  refine l_aload_n hO dL_law_463 1 rfl rfl ?_
  refine l_aload_n hO dL_law_464 0 rfl rfl ?_
  refine l_iload_n hO dL_law_465 3 rfl rfl ?_
  refine l_iconst hO dL_law_466 ic_i_1 ?_
  refine l_iadd hO dL_law_467 (v := nI (j + 1)) (nI_add j 1) ?_
  refine l_sld hO (n := j + 1) (by omega) (by omega) rfl dL_law_468 ?_
  refine l_aload_n hO dL_law_469 0 rfl rfl ?_
  refine l_iload_n hO dL_law_470 3 rfl rfl ?_
  refine l_iconst hO dL_law_471 ic_i_2 ?_
  refine l_iadd hO dL_law_472 (v := nI (j + 2)) (nI_add j 2) ?_
  refine l_sld hO (n := j + 2) (by omega) (by omega) rfl dL_law_473 ?_
  refine l_callXI hO hX mdX11_later mvX11_later rfl w958 (As := [.int _, .int _]) (st := []) (ctX11_later n0 hO.2.2.2.2.2.2.1 _ _ _) (Nat.le_of_ble_eq_true rfl) rfl rfl (Nat.le_of_ble_eq_true rfl) hcs hsl dL_law_474 ?_
  refine l_pop hO dL_law_477 ?_
  refine l_aload_n hO dL_law_478 2 rfl rfl ?_
  refine l_aload_n hO dL_law_479 0 rfl rfl ?_
  refine l_iload_n hO dL_law_480 3 rfl rfl ?_
  refine l_iconst hO dL_law_481 ic_i_1 ?_
  refine l_iadd hO dL_law_482 (v := nI (j + 1)) (nI_add j 1) ?_
  refine l_sld hO (n := j + 1) (by omega) (by omega) rfl dL_law_483 ?_
  refine l_aload_n hO dL_law_484 0 rfl rfl ?_
  refine l_iload_n hO dL_law_485 3 rfl rfl ?_
  refine l_iconst hO dL_law_486 ic_i_2 ?_
  refine l_iadd hO dL_law_487 (v := nI (j + 2)) (nI_add j 2) ?_
  refine l_sld hO (n := j + 2) (by omega) (by omega) rfl dL_law_488 ?_
  refine l_callYI hO hY mdX12_later mvX12_later rfl w1745 (As := [.int _, .int _]) (st := []) (ctX12_later n0 hO.2.2.2.2.2.2.2.1 _ _ _) (Nat.le_of_ble_eq_true rfl) rfl rfl (Nat.le_of_ble_eq_true rfl) hcs hsl dL_law_489 ?_
  refine l_pop hO dL_law_492 ?_
  refine l_goto (pc := 493) hO dL_law_493 (tgt := 1072) (by decide) ?_
  exact K
def stp10 (n0 : Nat) (a : Nat → Int32) (MX MY : Mem) : Option (Mem × Mem) := (fX11_when n0 (a 1) MX).bind fun zx => (fX12_when n0 (a 1) MY).bind fun zy => some (zx.2, zy.2)
theorem cas10 (n0 : Nat) {j : Nat} (hO : OKl p s m meth c b L xs D cy ax ay) (hj : j + 6 ≤ L) (hL : L ≤ 3072) (hcs : cells ≤ 600000) (hsl : slots ≤ 7302250) {Z : Mem × Mem} (h : stp10 n0 (fun t => xs (j + t)) MX MY = some Z) (K : LB p l e s m below meth c b D cy ax ay cells slots 1072 [(0, .ref b), (1, .ref (ax 0)), (2, .ref (ay 0)), (3, .int (nI j))] [] Z.1 Z.2) : LB p l e s m below meth c b D cy ax ay cells slots 496 [(0, .ref b), (1, .ref (ax 0)), (2, .ref (ay 0)), (3, .int (nI j))] [] MX MY := by
  obtain ⟨zx, hX, h⟩ := Option.bind_eq_some_iff.mp h
  obtain ⟨zy, hY, h⟩ := Option.bind_eq_some_iff.mp h
  cases h
  refine l_aload_n hO dL_law_496 1 rfl rfl ?_
  refine l_aload_n hO dL_law_497 0 rfl rfl ?_
  refine l_iload_n hO dL_law_498 3 rfl rfl ?_
  refine l_iconst hO dL_law_499 ic_i_1 ?_
  refine l_iadd hO dL_law_500 (v := nI (j + 1)) (nI_add j 1) ?_
  refine l_sld hO (n := j + 1) (by omega) (by omega) rfl dL_law_501 ?_
  refine l_callXI hO hX mdX11_when mvX11_when rfl w979 (As := [.int _]) (st := []) (ctX11_when n0 hO.2.2.2.2.2.2.1 _ _) (Nat.le_of_ble_eq_true rfl) rfl rfl (Nat.le_of_ble_eq_true rfl) hcs hsl dL_law_502 ?_
  refine l_pop hO dL_law_505 ?_
  refine l_aload_n hO dL_law_506 2 rfl rfl ?_
  refine l_aload_n hO dL_law_507 0 rfl rfl ?_
  refine l_iload_n hO dL_law_508 3 rfl rfl ?_
  refine l_iconst hO dL_law_509 ic_i_1 ?_
  refine l_iadd hO dL_law_510 (v := nI (j + 1)) (nI_add j 1) ?_
  refine l_sld hO (n := j + 1) (by omega) (by omega) rfl dL_law_511 ?_
  refine l_callYI hO hY mdX12_when mvX12_when rfl w1769 (As := [.int _]) (st := []) (ctX12_when n0 hO.2.2.2.2.2.2.2.1 _ _) (Nat.le_of_ble_eq_true rfl) rfl rfl (Nat.le_of_ble_eq_true rfl) hcs hsl dL_law_512 ?_
  refine l_pop hO dL_law_515 ?_
  refine l_goto (pc := 516) hO dL_law_516 (tgt := 1072) (by decide) ?_
  exact K
def stp11 (n0 : Nat) (a : Nat → Int32) (MX MY : Mem) : Option (Mem × Mem) := (fX11_alike n0 (a 1) (a 2) MX).bind fun zx => (fX12_alike n0 (a 1) (a 2) MY).bind fun zy => some (zx.2, zy.2)
theorem cas11 (n0 : Nat) {j : Nat} (hO : OKl p s m meth c b L xs D cy ax ay) (hj : j + 6 ≤ L) (hL : L ≤ 3072) (hcs : cells ≤ 600000) (hsl : slots ≤ 7302250) {Z : Mem × Mem} (h : stp11 n0 (fun t => xs (j + t)) MX MY = some Z) (K : LB p l e s m below meth c b D cy ax ay cells slots 1072 [(0, .ref b), (1, .ref (ax 0)), (2, .ref (ay 0)), (3, .int (nI j))] [] Z.1 Z.2) : LB p l e s m below meth c b D cy ax ay cells slots 519 [(0, .ref b), (1, .ref (ax 0)), (2, .ref (ay 0)), (3, .int (nI j))] [] MX MY := by
  obtain ⟨zx, hX, h⟩ := Option.bind_eq_some_iff.mp h
  obtain ⟨zy, hY, h⟩ := Option.bind_eq_some_iff.mp h
  cases h
  refine l_aload_n hO dL_law_519 1 rfl rfl ?_
  refine l_aload_n hO dL_law_520 0 rfl rfl ?_
  refine l_iload_n hO dL_law_521 3 rfl rfl ?_
  refine l_iconst hO dL_law_522 ic_i_1 ?_
  refine l_iadd hO dL_law_523 (v := nI (j + 1)) (nI_add j 1) ?_
  refine l_sld hO (n := j + 1) (by omega) (by omega) rfl dL_law_524 ?_
  refine l_aload_n hO dL_law_525 0 rfl rfl ?_
  refine l_iload_n hO dL_law_526 3 rfl rfl ?_
  refine l_iconst hO dL_law_527 ic_i_2 ?_
  refine l_iadd hO dL_law_528 (v := nI (j + 2)) (nI_add j 2) ?_
  refine l_sld hO (n := j + 2) (by omega) (by omega) rfl dL_law_529 ?_
  refine l_callXI hO hX mdX11_alike mvX11_alike rfl w983 (As := [.int _, .int _]) (st := []) (ctX11_alike n0 hO.2.2.2.2.2.2.1 _ _ _) (Nat.le_of_ble_eq_true rfl) rfl rfl (Nat.le_of_ble_eq_true rfl) hcs hsl dL_law_530 ?_
  refine l_pop hO dL_law_533 ?_
  refine l_aload_n hO dL_law_534 2 rfl rfl ?_
  refine l_aload_n hO dL_law_535 0 rfl rfl ?_
  refine l_iload_n hO dL_law_536 3 rfl rfl ?_
  refine l_iconst hO dL_law_537 ic_i_1 ?_
  refine l_iadd hO dL_law_538 (v := nI (j + 1)) (nI_add j 1) ?_
  refine l_sld hO (n := j + 1) (by omega) (by omega) rfl dL_law_539 ?_
  refine l_aload_n hO dL_law_540 0 rfl rfl ?_
  refine l_iload_n hO dL_law_541 3 rfl rfl ?_
  refine l_iconst hO dL_law_542 ic_i_2 ?_
  refine l_iadd hO dL_law_543 (v := nI (j + 2)) (nI_add j 2) ?_
  refine l_sld hO (n := j + 2) (by omega) (by omega) rfl dL_law_544 ?_
  refine l_callYI hO hY mdX12_alike mvX12_alike rfl w1773 (As := [.int _, .int _]) (st := []) (ctX12_alike n0 hO.2.2.2.2.2.2.2.1 _ _ _) (Nat.le_of_ble_eq_true rfl) rfl rfl (Nat.le_of_ble_eq_true rfl) hcs hsl dL_law_545 ?_
  refine l_pop hO dL_law_548 ?_
  refine l_goto (pc := 549) hO dL_law_549 (tgt := 1072) (by decide) ?_
  exact K
def stp12 (n0 : Nat) (a : Nat → Int32) (MX MY : Mem) : Option (Mem × Mem) := (fX11_plan n0 (a 1) (a 2) (a 3) MX).bind fun zx => (fX12_plan n0 (a 1) (a 2) (a 3) MY).bind fun zy => some (zx.2, zy.2)
theorem cas12 (n0 : Nat) {j : Nat} (hO : OKl p s m meth c b L xs D cy ax ay) (hj : j + 6 ≤ L) (hL : L ≤ 3072) (hcs : cells ≤ 600000) (hsl : slots ≤ 7302250) {Z : Mem × Mem} (h : stp12 n0 (fun t => xs (j + t)) MX MY = some Z) (K : LB p l e s m below meth c b D cy ax ay cells slots 1072 [(0, .ref b), (1, .ref (ax 0)), (2, .ref (ay 0)), (3, .int (nI j))] [] Z.1 Z.2) : LB p l e s m below meth c b D cy ax ay cells slots 552 [(0, .ref b), (1, .ref (ax 0)), (2, .ref (ay 0)), (3, .int (nI j))] [] MX MY := by
  obtain ⟨zx, hX, h⟩ := Option.bind_eq_some_iff.mp h
  obtain ⟨zy, hY, h⟩ := Option.bind_eq_some_iff.mp h
  cases h
  refine l_aload_n hO dL_law_552 1 rfl rfl ?_
  refine l_aload_n hO dL_law_553 0 rfl rfl ?_
  refine l_iload_n hO dL_law_554 3 rfl rfl ?_
  refine l_iconst hO dL_law_555 ic_i_1 ?_
  refine l_iadd hO dL_law_556 (v := nI (j + 1)) (nI_add j 1) ?_
  refine l_sld hO (n := j + 1) (by omega) (by omega) rfl dL_law_557 ?_
  refine l_aload_n hO dL_law_558 0 rfl rfl ?_
  refine l_iload_n hO dL_law_559 3 rfl rfl ?_
  refine l_iconst hO dL_law_560 ic_i_2 ?_
  refine l_iadd hO dL_law_561 (v := nI (j + 2)) (nI_add j 2) ?_
  refine l_sld hO (n := j + 2) (by omega) (by omega) rfl dL_law_562 ?_
  refine l_aload_n hO dL_law_563 0 rfl rfl ?_
  refine l_iload_n hO dL_law_564 3 rfl rfl ?_
  refine l_iconst hO dL_law_565 ic_i_3 ?_
  refine l_iadd hO dL_law_566 (v := nI (j + 3)) (nI_add j 3) ?_
  refine l_sld hO (n := j + 3) (by omega) (by omega) rfl dL_law_567 ?_
  refine l_callXI hO hX mdX11_plan mvX11_plan rfl w987 (As := [.int _, .int _, .int _]) (st := []) (ctX11_plan n0 hO.2.2.2.2.2.2.1 _ _ _ _) (Nat.le_of_ble_eq_true rfl) rfl rfl (Nat.le_of_ble_eq_true rfl) hcs hsl dL_law_568 ?_
  refine l_pop hO dL_law_571 ?_
  refine l_aload_n hO dL_law_572 2 rfl rfl ?_
  refine l_aload_n hO dL_law_573 0 rfl rfl ?_
  refine l_iload_n hO dL_law_574 3 rfl rfl ?_
  refine l_iconst hO dL_law_575 ic_i_1 ?_
  refine l_iadd hO dL_law_576 (v := nI (j + 1)) (nI_add j 1) ?_
  refine l_sld hO (n := j + 1) (by omega) (by omega) rfl dL_law_577 ?_
  refine l_aload_n hO dL_law_578 0 rfl rfl ?_
  refine l_iload_n hO dL_law_579 3 rfl rfl ?_
  refine l_iconst hO dL_law_580 ic_i_2 ?_
  refine l_iadd hO dL_law_581 (v := nI (j + 2)) (nI_add j 2) ?_
  refine l_sld hO (n := j + 2) (by omega) (by omega) rfl dL_law_582 ?_
  refine l_aload_n hO dL_law_583 0 rfl rfl ?_
  refine l_iload_n hO dL_law_584 3 rfl rfl ?_
  refine l_iconst hO dL_law_585 ic_i_3 ?_
  refine l_iadd hO dL_law_586 (v := nI (j + 3)) (nI_add j 3) ?_
  refine l_sld hO (n := j + 3) (by omega) (by omega) rfl dL_law_587 ?_
  refine l_callYI hO hY mdX12_plan mvX12_plan rfl w1777 (As := [.int _, .int _, .int _]) (st := []) (ctX12_plan n0 hO.2.2.2.2.2.2.2.1 _ _ _ _) (Nat.le_of_ble_eq_true rfl) rfl rfl (Nat.le_of_ble_eq_true rfl) hcs hsl dL_law_588 ?_
  refine l_pop hO dL_law_591 ?_
  refine l_goto (pc := 592) hO dL_law_592 (tgt := 1072) (by decide) ?_
  exact K
def stp13 (n0 : Nat) (a : Nat → Int32) (MX MY : Mem) : Option (Mem × Mem) := (fX11_evening n0 (a 1) (a 2) MX).bind fun zx => (fX12_evening n0 (a 1) (a 2) MY).bind fun zy => some (zx.2, zy.2)
theorem cas13 (n0 : Nat) {j : Nat} (hO : OKl p s m meth c b L xs D cy ax ay) (hj : j + 6 ≤ L) (hL : L ≤ 3072) (hcs : cells ≤ 600000) (hsl : slots ≤ 7302250) {Z : Mem × Mem} (h : stp13 n0 (fun t => xs (j + t)) MX MY = some Z) (K : LB p l e s m below meth c b D cy ax ay cells slots 1072 [(0, .ref b), (1, .ref (ax 0)), (2, .ref (ay 0)), (3, .int (nI j))] [] Z.1 Z.2) : LB p l e s m below meth c b D cy ax ay cells slots 595 [(0, .ref b), (1, .ref (ax 0)), (2, .ref (ay 0)), (3, .int (nI j))] [] MX MY := by
  obtain ⟨zx, hX, h⟩ := Option.bind_eq_some_iff.mp h
  obtain ⟨zy, hY, h⟩ := Option.bind_eq_some_iff.mp h
  cases h
  refine l_aload_n hO dL_law_595 1 rfl rfl ?_
  refine l_aload_n hO dL_law_596 0 rfl rfl ?_
  refine l_iload_n hO dL_law_597 3 rfl rfl ?_
  refine l_iconst hO dL_law_598 ic_i_1 ?_
  refine l_iadd hO dL_law_599 (v := nI (j + 1)) (nI_add j 1) ?_
  refine l_sld hO (n := j + 1) (by omega) (by omega) rfl dL_law_600 ?_
  refine l_aload_n hO dL_law_601 0 rfl rfl ?_
  refine l_iload_n hO dL_law_602 3 rfl rfl ?_
  refine l_iconst hO dL_law_603 ic_i_2 ?_
  refine l_iadd hO dL_law_604 (v := nI (j + 2)) (nI_add j 2) ?_
  refine l_sld hO (n := j + 2) (by omega) (by omega) rfl dL_law_605 ?_
  refine l_callXI hO hX mdX11_evening mvX11_evening rfl w1023 (As := [.int _, .int _]) (st := []) (ctX11_evening n0 hO.2.2.2.2.2.2.1 _ _ _) (Nat.le_of_ble_eq_true rfl) rfl rfl (Nat.le_of_ble_eq_true rfl) hcs hsl dL_law_606 ?_
  refine l_pop hO dL_law_609 ?_
  refine l_aload_n hO dL_law_610 2 rfl rfl ?_
  refine l_aload_n hO dL_law_611 0 rfl rfl ?_
  refine l_iload_n hO dL_law_612 3 rfl rfl ?_
  refine l_iconst hO dL_law_613 ic_i_1 ?_
  refine l_iadd hO dL_law_614 (v := nI (j + 1)) (nI_add j 1) ?_
  refine l_sld hO (n := j + 1) (by omega) (by omega) rfl dL_law_615 ?_
  refine l_aload_n hO dL_law_616 0 rfl rfl ?_
  refine l_iload_n hO dL_law_617 3 rfl rfl ?_
  refine l_iconst hO dL_law_618 ic_i_2 ?_
  refine l_iadd hO dL_law_619 (v := nI (j + 2)) (nI_add j 2) ?_
  refine l_sld hO (n := j + 2) (by omega) (by omega) rfl dL_law_620 ?_
  refine l_callYI hO hY mdX12_evening mvX12_evening rfl w1785 (As := [.int _, .int _]) (st := []) (ctX12_evening n0 hO.2.2.2.2.2.2.2.1 _ _ _) (Nat.le_of_ble_eq_true rfl) rfl rfl (Nat.le_of_ble_eq_true rfl) hcs hsl dL_law_621 ?_
  refine l_pop hO dL_law_624 ?_
  refine l_goto (pc := 625) hO dL_law_625 (tgt := 1072) (by decide) ?_
  exact K
def stp14 (n0 : Nat) (a : Nat → Int32) (MX MY : Mem) : Option (Mem × Mem) := (fX11_odds n0 (a 1) (a 2) (a 3) MX).bind fun zx => (fX12_odds n0 (a 1) (a 2) (a 3) MY).bind fun zy => some (zx.2, zy.2)
theorem cas14 (n0 : Nat) {j : Nat} (hO : OKl p s m meth c b L xs D cy ax ay) (hj : j + 6 ≤ L) (hL : L ≤ 3072) (hcs : cells ≤ 600000) (hsl : slots ≤ 7302250) {Z : Mem × Mem} (h : stp14 n0 (fun t => xs (j + t)) MX MY = some Z) (K : LB p l e s m below meth c b D cy ax ay cells slots 1072 [(0, .ref b), (1, .ref (ax 0)), (2, .ref (ay 0)), (3, .int (nI j))] [] Z.1 Z.2) : LB p l e s m below meth c b D cy ax ay cells slots 628 [(0, .ref b), (1, .ref (ax 0)), (2, .ref (ay 0)), (3, .int (nI j))] [] MX MY := by
  obtain ⟨zx, hX, h⟩ := Option.bind_eq_some_iff.mp h
  obtain ⟨zy, hY, h⟩ := Option.bind_eq_some_iff.mp h
  cases h
  refine l_aload_n hO dL_law_628 1 rfl rfl ?_
  refine l_aload_n hO dL_law_629 0 rfl rfl ?_
  refine l_iload_n hO dL_law_630 3 rfl rfl ?_
  refine l_iconst hO dL_law_631 ic_i_1 ?_
  refine l_iadd hO dL_law_632 (v := nI (j + 1)) (nI_add j 1) ?_
  refine l_sld hO (n := j + 1) (by omega) (by omega) rfl dL_law_633 ?_
  refine l_aload_n hO dL_law_634 0 rfl rfl ?_
  refine l_iload_n hO dL_law_635 3 rfl rfl ?_
  refine l_iconst hO dL_law_636 ic_i_2 ?_
  refine l_iadd hO dL_law_637 (v := nI (j + 2)) (nI_add j 2) ?_
  refine l_sld hO (n := j + 2) (by omega) (by omega) rfl dL_law_638 ?_
  refine l_aload_n hO dL_law_639 0 rfl rfl ?_
  refine l_iload_n hO dL_law_640 3 rfl rfl ?_
  refine l_iconst hO dL_law_641 ic_i_3 ?_
  refine l_iadd hO dL_law_642 (v := nI (j + 3)) (nI_add j 3) ?_
  refine l_sld hO (n := j + 3) (by omega) (by omega) rfl dL_law_643 ?_
  refine l_callXL hO hX mdX11_odds mvX11_odds rfl w1031 (As := [.int _, .int _, .int _]) (st := []) (ctX11_odds n0 hO.2.2.2.2.2.2.1 _ _ _ _) (Nat.le_of_ble_eq_true rfl) rfl rfl (Nat.le_of_ble_eq_true rfl) hcs hsl dL_law_644 ?_
  refine l_pop2 hO dL_law_647 ?_
  refine l_aload_n hO dL_law_648 2 rfl rfl ?_
  refine l_aload_n hO dL_law_649 0 rfl rfl ?_
  refine l_iload_n hO dL_law_650 3 rfl rfl ?_
  refine l_iconst hO dL_law_651 ic_i_1 ?_
  refine l_iadd hO dL_law_652 (v := nI (j + 1)) (nI_add j 1) ?_
  refine l_sld hO (n := j + 1) (by omega) (by omega) rfl dL_law_653 ?_
  refine l_aload_n hO dL_law_654 0 rfl rfl ?_
  refine l_iload_n hO dL_law_655 3 rfl rfl ?_
  refine l_iconst hO dL_law_656 ic_i_2 ?_
  refine l_iadd hO dL_law_657 (v := nI (j + 2)) (nI_add j 2) ?_
  refine l_sld hO (n := j + 2) (by omega) (by omega) rfl dL_law_658 ?_
  refine l_aload_n hO dL_law_659 0 rfl rfl ?_
  refine l_iload_n hO dL_law_660 3 rfl rfl ?_
  refine l_iconst hO dL_law_661 ic_i_3 ?_
  refine l_iadd hO dL_law_662 (v := nI (j + 3)) (nI_add j 3) ?_
  refine l_sld hO (n := j + 3) (by omega) (by omega) rfl dL_law_663 ?_
  refine l_callYL hO hY mdX12_odds mvX12_odds rfl w1789 (As := [.int _, .int _, .int _]) (st := []) (ctX12_odds n0 hO.2.2.2.2.2.2.2.1 _ _ _ _) (Nat.le_of_ble_eq_true rfl) rfl rfl (Nat.le_of_ble_eq_true rfl) hcs hsl dL_law_664 ?_
  refine l_pop2 hO dL_law_667 ?_
  refine l_goto (pc := 668) hO dL_law_668 (tgt := 1072) (by decide) ?_
  exact K
def stp15 (n0 : Nat) (a : Nat → Int32) (MX MY : Mem) : Option (Mem × Mem) := (fX11_way n0 (a 1) (a 2) MX).bind fun zx => (fX12_way n0 (a 1) (a 2) MY).bind fun zy => some (zx.2, zy.2)
theorem cas15 (n0 : Nat) {j : Nat} (hO : OKl p s m meth c b L xs D cy ax ay) (hj : j + 6 ≤ L) (hL : L ≤ 3072) (hcs : cells ≤ 600000) (hsl : slots ≤ 7302250) {Z : Mem × Mem} (h : stp15 n0 (fun t => xs (j + t)) MX MY = some Z) (K : LB p l e s m below meth c b D cy ax ay cells slots 1072 [(0, .ref b), (1, .ref (ax 0)), (2, .ref (ay 0)), (3, .int (nI j))] [] Z.1 Z.2) : LB p l e s m below meth c b D cy ax ay cells slots 671 [(0, .ref b), (1, .ref (ax 0)), (2, .ref (ay 0)), (3, .int (nI j))] [] MX MY := by
  obtain ⟨zx, hX, h⟩ := Option.bind_eq_some_iff.mp h
  obtain ⟨zy, hY, h⟩ := Option.bind_eq_some_iff.mp h
  cases h
  refine l_aload_n hO dL_law_671 1 rfl rfl ?_
  refine l_aload_n hO dL_law_672 0 rfl rfl ?_
  refine l_iload_n hO dL_law_673 3 rfl rfl ?_
  refine l_iconst hO dL_law_674 ic_i_1 ?_
  refine l_iadd hO dL_law_675 (v := nI (j + 1)) (nI_add j 1) ?_
  refine l_sld hO (n := j + 1) (by omega) (by omega) rfl dL_law_676 ?_
  refine l_aload_n hO dL_law_677 0 rfl rfl ?_
  refine l_iload_n hO dL_law_678 3 rfl rfl ?_
  refine l_iconst hO dL_law_679 ic_i_2 ?_
  refine l_iadd hO dL_law_680 (v := nI (j + 2)) (nI_add j 2) ?_
  refine l_sld hO (n := j + 2) (by omega) (by omega) rfl dL_law_681 ?_
  refine l_callXI hO hX mdX11_way mvX11_way rfl w1050 (As := [.int _, .int _]) (st := []) (ctX11_way n0 hO.2.2.2.2.2.2.1 _ _ _) (Nat.le_of_ble_eq_true rfl) rfl rfl (Nat.le_of_ble_eq_true rfl) hcs hsl dL_law_682 ?_
  refine l_pop hO dL_law_685 ?_
  refine l_aload_n hO dL_law_686 2 rfl rfl ?_
  refine l_aload_n hO dL_law_687 0 rfl rfl ?_
  refine l_iload_n hO dL_law_688 3 rfl rfl ?_
  refine l_iconst hO dL_law_689 ic_i_1 ?_
  refine l_iadd hO dL_law_690 (v := nI (j + 1)) (nI_add j 1) ?_
  refine l_sld hO (n := j + 1) (by omega) (by omega) rfl dL_law_691 ?_
  refine l_aload_n hO dL_law_692 0 rfl rfl ?_
  refine l_iload_n hO dL_law_693 3 rfl rfl ?_
  refine l_iconst hO dL_law_694 ic_i_2 ?_
  refine l_iadd hO dL_law_695 (v := nI (j + 2)) (nI_add j 2) ?_
  refine l_sld hO (n := j + 2) (by omega) (by omega) rfl dL_law_696 ?_
  refine l_callYI hO hY mdX12_way mvX12_way rfl w1794 (As := [.int _, .int _]) (st := []) (ctX12_way n0 hO.2.2.2.2.2.2.2.1 _ _ _) (Nat.le_of_ble_eq_true rfl) rfl rfl (Nat.le_of_ble_eq_true rfl) hcs hsl dL_law_697 ?_
  refine l_pop hO dL_law_700 ?_
  refine l_goto (pc := 701) hO dL_law_701 (tgt := 1072) (by decide) ?_
  exact K
def stp16 (n0 : Nat) (a : Nat → Int32) (MX MY : Mem) : Option (Mem × Mem) := (fX11_arrive n0 (a 1) (a 2) MX).bind fun zx => (fX12_arrive n0 (a 1) (a 2) MY).bind fun zy => some (zx.2, zy.2)
theorem cas16 (n0 : Nat) {j : Nat} (hO : OKl p s m meth c b L xs D cy ax ay) (hj : j + 6 ≤ L) (hL : L ≤ 3072) (hcs : cells ≤ 600000) (hsl : slots ≤ 7302250) {Z : Mem × Mem} (h : stp16 n0 (fun t => xs (j + t)) MX MY = some Z) (K : LB p l e s m below meth c b D cy ax ay cells slots 1072 [(0, .ref b), (1, .ref (ax 0)), (2, .ref (ay 0)), (3, .int (nI j))] [] Z.1 Z.2) : LB p l e s m below meth c b D cy ax ay cells slots 704 [(0, .ref b), (1, .ref (ax 0)), (2, .ref (ay 0)), (3, .int (nI j))] [] MX MY := by
  obtain ⟨zx, hX, h⟩ := Option.bind_eq_some_iff.mp h
  obtain ⟨zy, hY, h⟩ := Option.bind_eq_some_iff.mp h
  cases h
  refine l_aload_n hO dL_law_704 1 rfl rfl ?_
  refine l_aload_n hO dL_law_705 0 rfl rfl ?_
  refine l_iload_n hO dL_law_706 3 rfl rfl ?_
  refine l_iconst hO dL_law_707 ic_i_1 ?_
  refine l_iadd hO dL_law_708 (v := nI (j + 1)) (nI_add j 1) ?_
  refine l_sld hO (n := j + 1) (by omega) (by omega) rfl dL_law_709 ?_
  refine l_aload_n hO dL_law_710 0 rfl rfl ?_
  refine l_iload_n hO dL_law_711 3 rfl rfl ?_
  refine l_iconst hO dL_law_712 ic_i_2 ?_
  refine l_iadd hO dL_law_713 (v := nI (j + 2)) (nI_add j 2) ?_
  refine l_sld hO (n := j + 2) (by omega) (by omega) rfl dL_law_714 ?_
  refine l_callXI hO hX mdX11_arrive mvX11_arrive rfl w1065 (As := [.int _, .int _]) (st := []) (ctX11_arrive n0 hO.2.2.2.2.2.2.1 _ _ _) (Nat.le_of_ble_eq_true rfl) rfl rfl (Nat.le_of_ble_eq_true rfl) hcs hsl dL_law_715 ?_
  refine l_pop hO dL_law_718 ?_
  refine l_aload_n hO dL_law_719 2 rfl rfl ?_
  refine l_aload_n hO dL_law_720 0 rfl rfl ?_
  refine l_iload_n hO dL_law_721 3 rfl rfl ?_
  refine l_iconst hO dL_law_722 ic_i_1 ?_
  refine l_iadd hO dL_law_723 (v := nI (j + 1)) (nI_add j 1) ?_
  refine l_sld hO (n := j + 1) (by omega) (by omega) rfl dL_law_724 ?_
  refine l_aload_n hO dL_law_725 0 rfl rfl ?_
  refine l_iload_n hO dL_law_726 3 rfl rfl ?_
  refine l_iconst hO dL_law_727 ic_i_2 ?_
  refine l_iadd hO dL_law_728 (v := nI (j + 2)) (nI_add j 2) ?_
  refine l_sld hO (n := j + 2) (by omega) (by omega) rfl dL_law_729 ?_
  refine l_callYI hO hY mdX12_arrive mvX12_arrive rfl w1798 (As := [.int _, .int _]) (st := []) (ctX12_arrive n0 hO.2.2.2.2.2.2.2.1 _ _ _) (Nat.le_of_ble_eq_true rfl) rfl rfl (Nat.le_of_ble_eq_true rfl) hcs hsl dL_law_730 ?_
  refine l_pop hO dL_law_733 ?_
  refine l_goto (pc := 734) hO dL_law_734 (tgt := 1072) (by decide) ?_
  exact K
def stp17 (n0 : Nat) (a : Nat → Int32) (MX MY : Mem) : Option (Mem × Mem) := (fX11_early n0 (a 1) MX).bind fun zx => (fX12_early n0 (a 1) MY).bind fun zy => some (zx.2, zy.2)
theorem cas17 (n0 : Nat) {j : Nat} (hO : OKl p s m meth c b L xs D cy ax ay) (hj : j + 6 ≤ L) (hL : L ≤ 3072) (hcs : cells ≤ 600000) (hsl : slots ≤ 7302250) {Z : Mem × Mem} (h : stp17 n0 (fun t => xs (j + t)) MX MY = some Z) (K : LB p l e s m below meth c b D cy ax ay cells slots 1072 [(0, .ref b), (1, .ref (ax 0)), (2, .ref (ay 0)), (3, .int (nI j))] [] Z.1 Z.2) : LB p l e s m below meth c b D cy ax ay cells slots 737 [(0, .ref b), (1, .ref (ax 0)), (2, .ref (ay 0)), (3, .int (nI j))] [] MX MY := by
  obtain ⟨zx, hX, h⟩ := Option.bind_eq_some_iff.mp h
  obtain ⟨zy, hY, h⟩ := Option.bind_eq_some_iff.mp h
  cases h
  refine l_aload_n hO dL_law_737 1 rfl rfl ?_
  refine l_aload_n hO dL_law_738 0 rfl rfl ?_
  refine l_iload_n hO dL_law_739 3 rfl rfl ?_
  refine l_iconst hO dL_law_740 ic_i_1 ?_
  refine l_iadd hO dL_law_741 (v := nI (j + 1)) (nI_add j 1) ?_
  refine l_sld hO (n := j + 1) (by omega) (by omega) rfl dL_law_742 ?_
  refine l_callXI hO hX mdX11_early mvX11_early rfl w1069 (As := [.int _]) (st := []) (ctX11_early n0 hO.2.2.2.2.2.2.1 _ _) (Nat.le_of_ble_eq_true rfl) rfl rfl (Nat.le_of_ble_eq_true rfl) hcs hsl dL_law_743 ?_
  refine l_pop hO dL_law_746 ?_
  refine l_aload_n hO dL_law_747 2 rfl rfl ?_
  refine l_aload_n hO dL_law_748 0 rfl rfl ?_
  refine l_iload_n hO dL_law_749 3 rfl rfl ?_
  refine l_iconst hO dL_law_750 ic_i_1 ?_
  refine l_iadd hO dL_law_751 (v := nI (j + 1)) (nI_add j 1) ?_
  refine l_sld hO (n := j + 1) (by omega) (by omega) rfl dL_law_752 ?_
  refine l_callYI hO hY mdX12_early mvX12_early rfl w1804 (As := [.int _]) (st := []) (ctX12_early n0 hO.2.2.2.2.2.2.2.1 _ _) (Nat.le_of_ble_eq_true rfl) rfl rfl (Nat.le_of_ble_eq_true rfl) hcs hsl dL_law_753 ?_
  refine l_pop hO dL_law_756 ?_
  refine l_goto (pc := 757) hO dL_law_757 (tgt := 1072) (by decide) ?_
  exact K
def stp18 (n0 : Nat) (a : Nat → Int32) (MX MY : Mem) : Option (Mem × Mem) := (fX11_see n0 MX).bind fun zx => (fX12_see n0 MY).bind fun zy => some (zx.2, zy.2)
theorem cas18 (n0 : Nat) {j : Nat} (hO : OKl p s m meth c b L xs D cy ax ay) (hj : j + 6 ≤ L) (hL : L ≤ 3072) (hcs : cells ≤ 600000) (hsl : slots ≤ 7302250) {Z : Mem × Mem} (h : stp18 n0 (fun t => xs (j + t)) MX MY = some Z) (K : LB p l e s m below meth c b D cy ax ay cells slots 1072 [(0, .ref b), (1, .ref (ax 0)), (2, .ref (ay 0)), (3, .int (nI j))] [] Z.1 Z.2) : LB p l e s m below meth c b D cy ax ay cells slots 760 [(0, .ref b), (1, .ref (ax 0)), (2, .ref (ay 0)), (3, .int (nI j))] [] MX MY := by
  obtain ⟨zx, hX, h⟩ := Option.bind_eq_some_iff.mp h
  obtain ⟨zy, hY, h⟩ := Option.bind_eq_some_iff.mp h
  cases h
  refine l_aload_n hO dL_law_760 1 rfl rfl ?_
  refine l_callXI hO hX mdX11_see mvX11_see rfl w1084 (As := []) (st := []) (ctX11_see n0 hO.2.2.2.2.2.2.1 _) (Nat.le_of_ble_eq_true rfl) rfl rfl (Nat.le_of_ble_eq_true rfl) hcs hsl dL_law_761 ?_
  refine l_pop hO dL_law_764 ?_
  refine l_aload_n hO dL_law_765 2 rfl rfl ?_
  refine l_callYI hO hY mdX12_see mvX12_see rfl w1808 (As := []) (st := []) (ctX12_see n0 hO.2.2.2.2.2.2.2.1 _) (Nat.le_of_ble_eq_true rfl) rfl rfl (Nat.le_of_ble_eq_true rfl) hcs hsl dL_law_766 ?_
  refine l_pop hO dL_law_769 ?_
  refine l_goto (pc := 770) hO dL_law_770 (tgt := 1072) (by decide) ?_
  exact K
def stp19 (n0 : Nat) (a : Nat → Int32) (MX MY : Mem) : Option (Mem × Mem) := (fX11_held n0 (a 1) MX).bind fun zx => (fX12_held n0 (a 1) MY).bind fun zy => some (zx.2, zy.2)
theorem cas19 (n0 : Nat) {j : Nat} (hO : OKl p s m meth c b L xs D cy ax ay) (hj : j + 6 ≤ L) (hL : L ≤ 3072) (hcs : cells ≤ 600000) (hsl : slots ≤ 7302250) {Z : Mem × Mem} (h : stp19 n0 (fun t => xs (j + t)) MX MY = some Z) (K : LB p l e s m below meth c b D cy ax ay cells slots 1072 [(0, .ref b), (1, .ref (ax 0)), (2, .ref (ay 0)), (3, .int (nI j))] [] Z.1 Z.2) : LB p l e s m below meth c b D cy ax ay cells slots 773 [(0, .ref b), (1, .ref (ax 0)), (2, .ref (ay 0)), (3, .int (nI j))] [] MX MY := by
  obtain ⟨zx, hX, h⟩ := Option.bind_eq_some_iff.mp h
  obtain ⟨zy, hY, h⟩ := Option.bind_eq_some_iff.mp h
  cases h
  refine l_aload_n hO dL_law_773 1 rfl rfl ?_
  refine l_aload_n hO dL_law_774 0 rfl rfl ?_
  refine l_iload_n hO dL_law_775 3 rfl rfl ?_
  refine l_iconst hO dL_law_776 ic_i_1 ?_
  refine l_iadd hO dL_law_777 (v := nI (j + 1)) (nI_add j 1) ?_
  refine l_sld hO (n := j + 1) (by omega) (by omega) rfl dL_law_778 ?_
  refine l_callXI hO hX mdX11_held mvX11_held rfl w1094 (As := [.int _]) (st := []) (ctX11_held n0 hO.2.2.2.2.2.2.1 _ _) (Nat.le_of_ble_eq_true rfl) rfl rfl (Nat.le_of_ble_eq_true rfl) hcs hsl dL_law_779 ?_
  refine l_pop hO dL_law_782 ?_
  refine l_aload_n hO dL_law_783 2 rfl rfl ?_
  refine l_aload_n hO dL_law_784 0 rfl rfl ?_
  refine l_iload_n hO dL_law_785 3 rfl rfl ?_
  refine l_iconst hO dL_law_786 ic_i_1 ?_
  refine l_iadd hO dL_law_787 (v := nI (j + 1)) (nI_add j 1) ?_
  refine l_sld hO (n := j + 1) (by omega) (by omega) rfl dL_law_788 ?_
  refine l_callYI hO hY mdX12_held mvX12_held rfl w1812 (As := [.int _]) (st := []) (ctX12_held n0 hO.2.2.2.2.2.2.2.1 _ _) (Nat.le_of_ble_eq_true rfl) rfl rfl (Nat.le_of_ble_eq_true rfl) hcs hsl dL_law_789 ?_
  refine l_pop hO dL_law_792 ?_
  refine l_goto (pc := 793) hO dL_law_793 (tgt := 1072) (by decide) ?_
  exact K
def stp20 (n0 : Nat) (a : Nat → Int32) (MX MY : Mem) : Option (Mem × Mem) := (fX11_tells n0 (a 1) (a 2) MX).bind fun zx => (fX12_tells n0 (a 1) (a 2) MY).bind fun zy => some (zx.2, zy.2)
theorem cas20 (n0 : Nat) {j : Nat} (hO : OKl p s m meth c b L xs D cy ax ay) (hj : j + 6 ≤ L) (hL : L ≤ 3072) (hcs : cells ≤ 600000) (hsl : slots ≤ 7302250) {Z : Mem × Mem} (h : stp20 n0 (fun t => xs (j + t)) MX MY = some Z) (K : LB p l e s m below meth c b D cy ax ay cells slots 1072 [(0, .ref b), (1, .ref (ax 0)), (2, .ref (ay 0)), (3, .int (nI j))] [] Z.1 Z.2) : LB p l e s m below meth c b D cy ax ay cells slots 796 [(0, .ref b), (1, .ref (ax 0)), (2, .ref (ay 0)), (3, .int (nI j))] [] MX MY := by
  obtain ⟨zx, hX, h⟩ := Option.bind_eq_some_iff.mp h
  obtain ⟨zy, hY, h⟩ := Option.bind_eq_some_iff.mp h
  cases h
  refine l_aload_n hO dL_law_796 1 rfl rfl ?_
  refine l_aload_n hO dL_law_797 0 rfl rfl ?_
  refine l_iload_n hO dL_law_798 3 rfl rfl ?_
  refine l_iconst hO dL_law_799 ic_i_1 ?_
  refine l_iadd hO dL_law_800 (v := nI (j + 1)) (nI_add j 1) ?_
  refine l_sld hO (n := j + 1) (by omega) (by omega) rfl dL_law_801 ?_
  refine l_aload_n hO dL_law_802 0 rfl rfl ?_
  refine l_iload_n hO dL_law_803 3 rfl rfl ?_
  refine l_iconst hO dL_law_804 ic_i_2 ?_
  refine l_iadd hO dL_law_805 (v := nI (j + 2)) (nI_add j 2) ?_
  refine l_sld hO (n := j + 2) (by omega) (by omega) rfl dL_law_806 ?_
  refine l_callXI hO hX mdX11_tells mvX11_tells rfl w1114 (As := [.int _, .int _]) (st := []) (ctX11_tells n0 hO.2.2.2.2.2.2.1 _ _ _) (Nat.le_of_ble_eq_true rfl) rfl rfl (Nat.le_of_ble_eq_true rfl) hcs hsl dL_law_807 ?_
  refine l_pop hO dL_law_810 ?_
  refine l_aload_n hO dL_law_811 2 rfl rfl ?_
  refine l_aload_n hO dL_law_812 0 rfl rfl ?_
  refine l_iload_n hO dL_law_813 3 rfl rfl ?_
  refine l_iconst hO dL_law_814 ic_i_1 ?_
  refine l_iadd hO dL_law_815 (v := nI (j + 1)) (nI_add j 1) ?_
  refine l_sld hO (n := j + 1) (by omega) (by omega) rfl dL_law_816 ?_
  refine l_aload_n hO dL_law_817 0 rfl rfl ?_
  refine l_iload_n hO dL_law_818 3 rfl rfl ?_
  refine l_iconst hO dL_law_819 ic_i_2 ?_
  refine l_iadd hO dL_law_820 (v := nI (j + 2)) (nI_add j 2) ?_
  refine l_sld hO (n := j + 2) (by omega) (by omega) rfl dL_law_821 ?_
  refine l_callYI hO hY mdX12_tells mvX12_tells rfl w1820 (As := [.int _, .int _]) (st := []) (ctX12_tells n0 hO.2.2.2.2.2.2.2.1 _ _ _) (Nat.le_of_ble_eq_true rfl) rfl rfl (Nat.le_of_ble_eq_true rfl) hcs hsl dL_law_822 ?_
  refine l_pop hO dL_law_825 ?_
  refine l_goto (pc := 826) hO dL_law_826 (tgt := 1072) (by decide) ?_
  exact K
def stp21 (n0 : Nat) (a : Nat → Int32) (MX MY : Mem) : Option (Mem × Mem) := (fX11_minutes n0 (a 1) MX).bind fun zx => (fX12_minutes n0 (a 1) MY).bind fun zy => some (zx.2, zy.2)
theorem cas21 (n0 : Nat) {j : Nat} (hO : OKl p s m meth c b L xs D cy ax ay) (hj : j + 6 ≤ L) (hL : L ≤ 3072) (hcs : cells ≤ 600000) (hsl : slots ≤ 7302250) {Z : Mem × Mem} (h : stp21 n0 (fun t => xs (j + t)) MX MY = some Z) (K : LB p l e s m below meth c b D cy ax ay cells slots 1072 [(0, .ref b), (1, .ref (ax 0)), (2, .ref (ay 0)), (3, .int (nI j))] [] Z.1 Z.2) : LB p l e s m below meth c b D cy ax ay cells slots 829 [(0, .ref b), (1, .ref (ax 0)), (2, .ref (ay 0)), (3, .int (nI j))] [] MX MY := by
  obtain ⟨zx, hX, h⟩ := Option.bind_eq_some_iff.mp h
  obtain ⟨zy, hY, h⟩ := Option.bind_eq_some_iff.mp h
  cases h
  refine l_aload_n hO dL_law_829 1 rfl rfl ?_
  refine l_aload_n hO dL_law_830 0 rfl rfl ?_
  refine l_iload_n hO dL_law_831 3 rfl rfl ?_
  refine l_iconst hO dL_law_832 ic_i_1 ?_
  refine l_iadd hO dL_law_833 (v := nI (j + 1)) (nI_add j 1) ?_
  refine l_sld hO (n := j + 1) (by omega) (by omega) rfl dL_law_834 ?_
  refine l_callXI hO hX mdX11_minutes mvX11_minutes rfl w1124 (As := [.int _]) (st := []) (ctX11_minutes n0 hO.2.2.2.2.2.2.1 _ _) (Nat.le_of_ble_eq_true rfl) rfl rfl (Nat.le_of_ble_eq_true rfl) hcs hsl dL_law_835 ?_
  refine l_pop hO dL_law_838 ?_
  refine l_aload_n hO dL_law_839 2 rfl rfl ?_
  refine l_aload_n hO dL_law_840 0 rfl rfl ?_
  refine l_iload_n hO dL_law_841 3 rfl rfl ?_
  refine l_iconst hO dL_law_842 ic_i_1 ?_
  refine l_iadd hO dL_law_843 (v := nI (j + 1)) (nI_add j 1) ?_
  refine l_sld hO (n := j + 1) (by omega) (by omega) rfl dL_law_844 ?_
  refine l_callYI hO hY mdX12_minutes mvX12_minutes rfl w1824 (As := [.int _]) (st := []) (ctX12_minutes n0 hO.2.2.2.2.2.2.2.1 _ _) (Nat.le_of_ble_eq_true rfl) rfl rfl (Nat.le_of_ble_eq_true rfl) hcs hsl dL_law_845 ?_
  refine l_pop hO dL_law_848 ?_
  refine l_goto (pc := 849) hO dL_law_849 (tgt := 1072) (by decide) ?_
  exact K
def stp22 (n0 : Nat) (a : Nat → Int32) (MX MY : Mem) : Option (Mem × Mem) := (fX11_chance n0 (a 1) MX).bind fun zx => (fX12_chance n0 (a 1) MY).bind fun zy => some (zx.2, zy.2)
theorem cas22 (n0 : Nat) {j : Nat} (hO : OKl p s m meth c b L xs D cy ax ay) (hj : j + 6 ≤ L) (hL : L ≤ 3072) (hcs : cells ≤ 600000) (hsl : slots ≤ 7302250) {Z : Mem × Mem} (h : stp22 n0 (fun t => xs (j + t)) MX MY = some Z) (K : LB p l e s m below meth c b D cy ax ay cells slots 1072 [(0, .ref b), (1, .ref (ax 0)), (2, .ref (ay 0)), (3, .int (nI j))] [] Z.1 Z.2) : LB p l e s m below meth c b D cy ax ay cells slots 852 [(0, .ref b), (1, .ref (ax 0)), (2, .ref (ay 0)), (3, .int (nI j))] [] MX MY := by
  obtain ⟨zx, hX, h⟩ := Option.bind_eq_some_iff.mp h
  obtain ⟨zy, hY, h⟩ := Option.bind_eq_some_iff.mp h
  cases h
  refine l_aload_n hO dL_law_852 1 rfl rfl ?_
  refine l_aload_n hO dL_law_853 0 rfl rfl ?_
  refine l_iload_n hO dL_law_854 3 rfl rfl ?_
  refine l_iconst hO dL_law_855 ic_i_1 ?_
  refine l_iadd hO dL_law_856 (v := nI (j + 1)) (nI_add j 1) ?_
  refine l_sld hO (n := j + 1) (by omega) (by omega) rfl dL_law_857 ?_
  refine l_callXI hO hX mdX11_chance mvX11_chance rfl w1146 (As := [.int _]) (st := []) (ctX11_chance n0 hO.2.2.2.2.2.2.1 _ _) (Nat.le_of_ble_eq_true rfl) rfl rfl (Nat.le_of_ble_eq_true rfl) hcs hsl dL_law_858 ?_
  refine l_pop hO dL_law_861 ?_
  refine l_aload_n hO dL_law_862 2 rfl rfl ?_
  refine l_aload_n hO dL_law_863 0 rfl rfl ?_
  refine l_iload_n hO dL_law_864 3 rfl rfl ?_
  refine l_iconst hO dL_law_865 ic_i_1 ?_
  refine l_iadd hO dL_law_866 (v := nI (j + 1)) (nI_add j 1) ?_
  refine l_sld hO (n := j + 1) (by omega) (by omega) rfl dL_law_867 ?_
  refine l_callYI hO hY mdX12_chance mvX12_chance rfl w1832 (As := [.int _]) (st := []) (ctX12_chance n0 hO.2.2.2.2.2.2.2.1 _ _) (Nat.le_of_ble_eq_true rfl) rfl rfl (Nat.le_of_ble_eq_true rfl) hcs hsl dL_law_868 ?_
  refine l_pop hO dL_law_871 ?_
  refine l_goto (pc := 872) hO dL_law_872 (tgt := 1072) (by decide) ?_
  exact K
def stp23 (n0 : Nat) (a : Nat → Int32) (MX MY : Mem) : Option (Mem × Mem) := (fX11_give n0 (a 1) (a 2) MX).bind fun zx => (fX12_give n0 (a 1) (a 2) MY).bind fun zy => some (zx.2, zy.2)
theorem cas23 (n0 : Nat) {j : Nat} (hO : OKl p s m meth c b L xs D cy ax ay) (hj : j + 6 ≤ L) (hL : L ≤ 3072) (hcs : cells ≤ 600000) (hsl : slots ≤ 7302250) {Z : Mem × Mem} (h : stp23 n0 (fun t => xs (j + t)) MX MY = some Z) (K : LB p l e s m below meth c b D cy ax ay cells slots 1072 [(0, .ref b), (1, .ref (ax 0)), (2, .ref (ay 0)), (3, .int (nI j))] [] Z.1 Z.2) : LB p l e s m below meth c b D cy ax ay cells slots 875 [(0, .ref b), (1, .ref (ax 0)), (2, .ref (ay 0)), (3, .int (nI j))] [] MX MY := by
  obtain ⟨zx, hX, h⟩ := Option.bind_eq_some_iff.mp h
  obtain ⟨zy, hY, h⟩ := Option.bind_eq_some_iff.mp h
  cases h
  refine l_aload_n hO dL_law_875 1 rfl rfl ?_
  refine l_aload_n hO dL_law_876 0 rfl rfl ?_
  refine l_iload_n hO dL_law_877 3 rfl rfl ?_
  refine l_iconst hO dL_law_878 ic_i_1 ?_
  refine l_iadd hO dL_law_879 (v := nI (j + 1)) (nI_add j 1) ?_
  refine l_sld hO (n := j + 1) (by omega) (by omega) rfl dL_law_880 ?_
  refine l_aload_n hO dL_law_881 0 rfl rfl ?_
  refine l_iload_n hO dL_law_882 3 rfl rfl ?_
  refine l_iconst hO dL_law_883 ic_i_2 ?_
  refine l_iadd hO dL_law_884 (v := nI (j + 2)) (nI_add j 2) ?_
  refine l_sld hO (n := j + 2) (by omega) (by omega) rfl dL_law_885 ?_
  refine l_callXI hO hX mdX11_give mvX11_give rfl w1162 (As := [.int _, .int _]) (st := []) (ctX11_give n0 hO.2.2.2.2.2.2.1 _ _ _) (Nat.le_of_ble_eq_true rfl) rfl rfl (Nat.le_of_ble_eq_true rfl) hcs hsl dL_law_886 ?_
  refine l_pop hO dL_law_889 ?_
  refine l_aload_n hO dL_law_890 2 rfl rfl ?_
  refine l_aload_n hO dL_law_891 0 rfl rfl ?_
  refine l_iload_n hO dL_law_892 3 rfl rfl ?_
  refine l_iconst hO dL_law_893 ic_i_1 ?_
  refine l_iadd hO dL_law_894 (v := nI (j + 1)) (nI_add j 1) ?_
  refine l_sld hO (n := j + 1) (by omega) (by omega) rfl dL_law_895 ?_
  refine l_aload_n hO dL_law_896 0 rfl rfl ?_
  refine l_iload_n hO dL_law_897 3 rfl rfl ?_
  refine l_iconst hO dL_law_898 ic_i_2 ?_
  refine l_iadd hO dL_law_899 (v := nI (j + 2)) (nI_add j 2) ?_
  refine l_sld hO (n := j + 2) (by omega) (by omega) rfl dL_law_900 ?_
  refine l_callYI hO hY mdX12_give mvX12_give rfl w1844 (As := [.int _, .int _]) (st := []) (ctX12_give n0 hO.2.2.2.2.2.2.2.1 _ _ _) (Nat.le_of_ble_eq_true rfl) rfl rfl (Nat.le_of_ble_eq_true rfl) hcs hsl dL_law_901 ?_
  refine l_pop hO dL_law_904 ?_
  refine l_goto (pc := 905) hO dL_law_905 (tgt := 1072) (by decide) ?_
  exact K
def stp24 (n0 : Nat) (a : Nat → Int32) (MX MY : Mem) : Option (Mem × Mem) := (fX11_take n0 (a 1) MX).bind fun zx => (fX12_take n0 (a 1) MY).bind fun zy => some (zx.2, zy.2)
theorem cas24 (n0 : Nat) {j : Nat} (hO : OKl p s m meth c b L xs D cy ax ay) (hj : j + 6 ≤ L) (hL : L ≤ 3072) (hcs : cells ≤ 600000) (hsl : slots ≤ 7302250) {Z : Mem × Mem} (h : stp24 n0 (fun t => xs (j + t)) MX MY = some Z) (K : LB p l e s m below meth c b D cy ax ay cells slots 1072 [(0, .ref b), (1, .ref (ax 0)), (2, .ref (ay 0)), (3, .int (nI j))] [] Z.1 Z.2) : LB p l e s m below meth c b D cy ax ay cells slots 908 [(0, .ref b), (1, .ref (ax 0)), (2, .ref (ay 0)), (3, .int (nI j))] [] MX MY := by
  obtain ⟨zx, hX, h⟩ := Option.bind_eq_some_iff.mp h
  obtain ⟨zy, hY, h⟩ := Option.bind_eq_some_iff.mp h
  cases h
  refine l_aload_n hO dL_law_908 1 rfl rfl ?_
  refine l_aload_n hO dL_law_909 0 rfl rfl ?_
  refine l_iload_n hO dL_law_910 3 rfl rfl ?_
  refine l_iconst hO dL_law_911 ic_i_1 ?_
  refine l_iadd hO dL_law_912 (v := nI (j + 1)) (nI_add j 1) ?_
  refine l_sld hO (n := j + 1) (by omega) (by omega) rfl dL_law_913 ?_
  refine l_callXI hO hX mdX11_take mvX11_take rfl w1170 (As := [.int _]) (st := []) (ctX11_take n0 hO.2.2.2.2.2.2.1 _ _) (Nat.le_of_ble_eq_true rfl) rfl rfl (Nat.le_of_ble_eq_true rfl) hcs hsl dL_law_914 ?_
  refine l_pop hO dL_law_917 ?_
  refine l_aload_n hO dL_law_918 2 rfl rfl ?_
  refine l_aload_n hO dL_law_919 0 rfl rfl ?_
  refine l_iload_n hO dL_law_920 3 rfl rfl ?_
  refine l_iconst hO dL_law_921 ic_i_1 ?_
  refine l_iadd hO dL_law_922 (v := nI (j + 1)) (nI_add j 1) ?_
  refine l_sld hO (n := j + 1) (by omega) (by omega) rfl dL_law_923 ?_
  refine l_callYI hO hY mdX12_take mvX12_take rfl w1848 (As := [.int _]) (st := []) (ctX12_take n0 hO.2.2.2.2.2.2.2.1 _ _) (Nat.le_of_ble_eq_true rfl) rfl rfl (Nat.le_of_ble_eq_true rfl) hcs hsl dL_law_924 ?_
  refine l_pop hO dL_law_927 ?_
  refine l_goto (pc := 928) hO dL_law_928 (tgt := 1072) (by decide) ?_
  exact K
def stp25 (n0 : Nat) (a : Nat → Int32) (MX MY : Mem) : Option (Mem × Mem) := (fX11_undo n0 MX).bind fun zx => (fX12_undo n0 MY).bind fun zy => some (zx.2, zy.2)
theorem cas25 (n0 : Nat) {j : Nat} (hO : OKl p s m meth c b L xs D cy ax ay) (hj : j + 6 ≤ L) (hL : L ≤ 3072) (hcs : cells ≤ 600000) (hsl : slots ≤ 7302250) {Z : Mem × Mem} (h : stp25 n0 (fun t => xs (j + t)) MX MY = some Z) (K : LB p l e s m below meth c b D cy ax ay cells slots 1072 [(0, .ref b), (1, .ref (ax 0)), (2, .ref (ay 0)), (3, .int (nI j))] [] Z.1 Z.2) : LB p l e s m below meth c b D cy ax ay cells slots 931 [(0, .ref b), (1, .ref (ax 0)), (2, .ref (ay 0)), (3, .int (nI j))] [] MX MY := by
  obtain ⟨zx, hX, h⟩ := Option.bind_eq_some_iff.mp h
  obtain ⟨zy, hY, h⟩ := Option.bind_eq_some_iff.mp h
  cases h
  refine l_aload_n hO dL_law_931 1 rfl rfl ?_
  refine l_callXI hO hX mdX11_undo mvX11_undo rfl w1174 (As := []) (st := []) (ctX11_undo n0 hO.2.2.2.2.2.2.1 _) (Nat.le_of_ble_eq_true rfl) rfl rfl (Nat.le_of_ble_eq_true rfl) hcs hsl dL_law_932 ?_
  refine l_pop hO dL_law_935 ?_
  refine l_aload_n hO dL_law_936 2 rfl rfl ?_
  refine l_callYI hO hY mdX12_undo mvX12_undo rfl w1697 (As := []) (st := []) (ctX12_undo n0 hO.2.2.2.2.2.2.2.1 _) (Nat.le_of_ble_eq_true rfl) rfl rfl (Nat.le_of_ble_eq_true rfl) hcs hsl dL_law_937 ?_
  refine l_pop hO dL_law_940 ?_
  refine l_goto (pc := 941) hO dL_law_941 (tgt := 1072) (by decide) ?_
  exact K
def stp26 (n0 : Nat) (a : Nat → Int32) (MX MY : Mem) : Option (Mem × Mem) := (fX11_seed n0 (a 1) MX).bind fun zx => (fX12_seed n0 (a 1) MY).bind fun zy => some (zx.2, zy.2)
theorem cas26 (n0 : Nat) {j : Nat} (hO : OKl p s m meth c b L xs D cy ax ay) (hj : j + 6 ≤ L) (hL : L ≤ 3072) (hcs : cells ≤ 600000) (hsl : slots ≤ 7302250) {Z : Mem × Mem} (h : stp26 n0 (fun t => xs (j + t)) MX MY = some Z) (K : LB p l e s m below meth c b D cy ax ay cells slots 1072 [(0, .ref b), (1, .ref (ax 0)), (2, .ref (ay 0)), (3, .int (nI j))] [] Z.1 Z.2) : LB p l e s m below meth c b D cy ax ay cells slots 944 [(0, .ref b), (1, .ref (ax 0)), (2, .ref (ay 0)), (3, .int (nI j))] [] MX MY := by
  obtain ⟨zx, hX, h⟩ := Option.bind_eq_some_iff.mp h
  obtain ⟨zy, hY, h⟩ := Option.bind_eq_some_iff.mp h
  cases h
  refine l_aload_n hO dL_law_944 1 rfl rfl ?_
  refine l_aload_n hO dL_law_945 0 rfl rfl ?_
  refine l_iload_n hO dL_law_946 3 rfl rfl ?_
  refine l_iconst hO dL_law_947 ic_i_1 ?_
  refine l_iadd hO dL_law_948 (v := nI (j + 1)) (nI_add j 1) ?_
  refine l_sld hO (n := j + 1) (by omega) (by omega) rfl dL_law_949 ?_
  refine l_callXI hO hX mdX11_seed mvX11_seed rfl w1186 (As := [.int _]) (st := []) (ctX11_seed n0 hO.2.2.2.2.2.2.1 _ _) (Nat.le_of_ble_eq_true rfl) rfl rfl (Nat.le_of_ble_eq_true rfl) hcs hsl dL_law_950 ?_
  refine l_pop hO dL_law_953 ?_
  refine l_aload_n hO dL_law_954 2 rfl rfl ?_
  refine l_aload_n hO dL_law_955 0 rfl rfl ?_
  refine l_iload_n hO dL_law_956 3 rfl rfl ?_
  refine l_iconst hO dL_law_957 ic_i_1 ?_
  refine l_iadd hO dL_law_958 (v := nI (j + 1)) (nI_add j 1) ?_
  refine l_sld hO (n := j + 1) (by omega) (by omega) rfl dL_law_959 ?_
  refine l_callYI hO hY mdX12_seed mvX12_seed rfl w1852 (As := [.int _]) (st := []) (ctX12_seed n0 hO.2.2.2.2.2.2.2.1 _ _) (Nat.le_of_ble_eq_true rfl) rfl rfl (Nat.le_of_ble_eq_true rfl) hcs hsl dL_law_960 ?_
  refine l_pop hO dL_law_963 ?_
  refine l_goto (pc := 964) hO dL_law_964 (tgt := 1072) (by decide) ?_
  exact K
def stp27 (n0 : Nat) (a : Nat → Int32) (MX MY : Mem) : Option (Mem × Mem) := (fX11_kept n0 (a 1) (a 2) MX).bind fun zx => (fX12_kept n0 (a 1) (a 2) MY).bind fun zy => some (zx.2, zy.2)
theorem cas27 (n0 : Nat) {j : Nat} (hO : OKl p s m meth c b L xs D cy ax ay) (hj : j + 6 ≤ L) (hL : L ≤ 3072) (hcs : cells ≤ 600000) (hsl : slots ≤ 7302250) {Z : Mem × Mem} (h : stp27 n0 (fun t => xs (j + t)) MX MY = some Z) (K : LB p l e s m below meth c b D cy ax ay cells slots 1072 [(0, .ref b), (1, .ref (ax 0)), (2, .ref (ay 0)), (3, .int (nI j))] [] Z.1 Z.2) : LB p l e s m below meth c b D cy ax ay cells slots 967 [(0, .ref b), (1, .ref (ax 0)), (2, .ref (ay 0)), (3, .int (nI j))] [] MX MY := by
  obtain ⟨zx, hX, h⟩ := Option.bind_eq_some_iff.mp h
  obtain ⟨zy, hY, h⟩ := Option.bind_eq_some_iff.mp h
  cases h
  refine l_aload_n hO dL_law_967 1 rfl rfl ?_
  refine l_aload_n hO dL_law_968 0 rfl rfl ?_
  refine l_iload_n hO dL_law_969 3 rfl rfl ?_
  refine l_iconst hO dL_law_970 ic_i_1 ?_
  refine l_iadd hO dL_law_971 (v := nI (j + 1)) (nI_add j 1) ?_
  refine l_sld hO (n := j + 1) (by omega) (by omega) rfl dL_law_972 ?_
  refine l_aload_n hO dL_law_973 0 rfl rfl ?_
  refine l_iload_n hO dL_law_974 3 rfl rfl ?_
  refine l_iconst hO dL_law_975 ic_i_2 ?_
  refine l_iadd hO dL_law_976 (v := nI (j + 2)) (nI_add j 2) ?_
  refine l_sld hO (n := j + 2) (by omega) (by omega) rfl dL_law_977 ?_
  refine l_callXI hO hX mdX11_kept mvX11_kept rfl w1190 (As := [.int _, .int _]) (st := []) (ctX11_kept n0 hO.2.2.2.2.2.2.1 _ _ _) (Nat.le_of_ble_eq_true rfl) rfl rfl (Nat.le_of_ble_eq_true rfl) hcs hsl dL_law_978 ?_
  refine l_pop hO dL_law_981 ?_
  refine l_aload_n hO dL_law_982 2 rfl rfl ?_
  refine l_aload_n hO dL_law_983 0 rfl rfl ?_
  refine l_iload_n hO dL_law_984 3 rfl rfl ?_
  refine l_iconst hO dL_law_985 ic_i_1 ?_
  refine l_iadd hO dL_law_986 (v := nI (j + 1)) (nI_add j 1) ?_
  refine l_sld hO (n := j + 1) (by omega) (by omega) rfl dL_law_987 ?_
  refine l_aload_n hO dL_law_988 0 rfl rfl ?_
  refine l_iload_n hO dL_law_989 3 rfl rfl ?_
  refine l_iconst hO dL_law_990 ic_i_2 ?_
  refine l_iadd hO dL_law_991 (v := nI (j + 2)) (nI_add j 2) ?_
  refine l_sld hO (n := j + 2) (by omega) (by omega) rfl dL_law_992 ?_
  refine l_callYI hO hY mdX12_kept mvX12_kept rfl w1856 (As := [.int _, .int _]) (st := []) (ctX12_kept n0 hO.2.2.2.2.2.2.2.1 _ _ _) (Nat.le_of_ble_eq_true rfl) rfl rfl (Nat.le_of_ble_eq_true rfl) hcs hsl dL_law_993 ?_
  refine l_pop hO dL_law_996 ?_
  refine l_goto (pc := 997) hO dL_law_997 (tgt := 1072) (by decide) ?_
  exact K
def stp28 (n0 : Nat) (a : Nat → Int32) (MX MY : Mem) : Option (Mem × Mem) := (fX11_image n0 MX).bind fun zx => (fX12_image n0 MY).bind fun zy => some (zx.2, zy.2)
theorem cas28 (n0 : Nat) {j : Nat} (hO : OKl p s m meth c b L xs D cy ax ay) (hj : j + 6 ≤ L) (hL : L ≤ 3072) (hcs : cells ≤ 600000) (hsl : slots ≤ 7302250) {Z : Mem × Mem} (h : stp28 n0 (fun t => xs (j + t)) MX MY = some Z) (K : LB p l e s m below meth c b D cy ax ay cells slots 1072 [(0, .ref b), (1, .ref (ax 0)), (2, .ref (ay 0)), (3, .int (nI j))] [] Z.1 Z.2) : LB p l e s m below meth c b D cy ax ay cells slots 1000 [(0, .ref b), (1, .ref (ax 0)), (2, .ref (ay 0)), (3, .int (nI j))] [] MX MY := by
  obtain ⟨zx, hX, h⟩ := Option.bind_eq_some_iff.mp h
  obtain ⟨zy, hY, h⟩ := Option.bind_eq_some_iff.mp h
  cases h
  refine l_aload_n hO dL_law_1000 1 rfl rfl ?_
  refine l_callXI hO hX mdX11_image mvX11_image rfl w1194 (As := []) (st := []) (ctX11_image n0 hO.2.2.2.2.2.2.1 _) (Nat.le_of_ble_eq_true rfl) rfl rfl (Nat.le_of_ble_eq_true rfl) hcs hsl dL_law_1001 ?_
  refine l_pop hO dL_law_1004 ?_
  refine l_aload_n hO dL_law_1005 2 rfl rfl ?_
  refine l_callYI hO hY mdX12_image mvX12_image rfl w1860 (As := []) (st := []) (ctX12_image n0 hO.2.2.2.2.2.2.2.1 _) (Nat.le_of_ble_eq_true rfl) rfl rfl (Nat.le_of_ble_eq_true rfl) hcs hsl dL_law_1006 ?_
  refine l_pop hO dL_law_1009 ?_
  refine l_goto (pc := 1010) hO dL_law_1010 (tgt := 1072) (by decide) ?_
  exact K
def stp29 (n0 : Nat) (a : Nat → Int32) (MX MY : Mem) : Option (Mem × Mem) := (fX11_octet n0 (a 1) MX).bind fun zx => (fX12_octet n0 (a 1) MY).bind fun zy => some (zx.2, zy.2)
theorem cas29 (n0 : Nat) {j : Nat} (hO : OKl p s m meth c b L xs D cy ax ay) (hj : j + 6 ≤ L) (hL : L ≤ 3072) (hcs : cells ≤ 600000) (hsl : slots ≤ 7302250) {Z : Mem × Mem} (h : stp29 n0 (fun t => xs (j + t)) MX MY = some Z) (K : LB p l e s m below meth c b D cy ax ay cells slots 1072 [(0, .ref b), (1, .ref (ax 0)), (2, .ref (ay 0)), (3, .int (nI j))] [] Z.1 Z.2) : LB p l e s m below meth c b D cy ax ay cells slots 1013 [(0, .ref b), (1, .ref (ax 0)), (2, .ref (ay 0)), (3, .int (nI j))] [] MX MY := by
  obtain ⟨zx, hX, h⟩ := Option.bind_eq_some_iff.mp h
  obtain ⟨zy, hY, h⟩ := Option.bind_eq_some_iff.mp h
  cases h
  refine l_aload_n hO dL_law_1013 1 rfl rfl ?_
  refine l_aload_n hO dL_law_1014 0 rfl rfl ?_
  refine l_iload_n hO dL_law_1015 3 rfl rfl ?_
  refine l_iconst hO dL_law_1016 ic_i_1 ?_
  refine l_iadd hO dL_law_1017 (v := nI (j + 1)) (nI_add j 1) ?_
  refine l_sld hO (n := j + 1) (by omega) (by omega) rfl dL_law_1018 ?_
  refine l_callXI hO hX mdX11_octet mvX11_octet rfl w1209 (As := [.int _]) (st := []) (ctX11_octet n0 hO.2.2.2.2.2.2.1 _ _) (Nat.le_of_ble_eq_true rfl) rfl rfl (Nat.le_of_ble_eq_true rfl) hcs hsl dL_law_1019 ?_
  refine l_pop hO dL_law_1022 ?_
  refine l_aload_n hO dL_law_1023 2 rfl rfl ?_
  refine l_aload_n hO dL_law_1024 0 rfl rfl ?_
  refine l_iload_n hO dL_law_1025 3 rfl rfl ?_
  refine l_iconst hO dL_law_1026 ic_i_1 ?_
  refine l_iadd hO dL_law_1027 (v := nI (j + 1)) (nI_add j 1) ?_
  refine l_sld hO (n := j + 1) (by omega) (by omega) rfl dL_law_1028 ?_
  refine l_callYI hO hY mdX12_octet mvX12_octet rfl w1868 (As := [.int _]) (st := []) (ctX12_octet n0 hO.2.2.2.2.2.2.2.1 _ _) (Nat.le_of_ble_eq_true rfl) rfl rfl (Nat.le_of_ble_eq_true rfl) hcs hsl dL_law_1029 ?_
  refine l_pop hO dL_law_1032 ?_
  refine l_goto (pc := 1033) hO dL_law_1033 (tgt := 1072) (by decide) ?_
  exact K
def stp30 (n0 : Nat) (a : Nat → Int32) (MX MY : Mem) : Option (Mem × Mem) := (fX11_on n0 MX).bind fun zx => (fX12_on n0 MY).bind fun zy => some (zx.2, zy.2)
theorem cas30 (n0 : Nat) {j : Nat} (hO : OKl p s m meth c b L xs D cy ax ay) (hj : j + 6 ≤ L) (hL : L ≤ 3072) (hcs : cells ≤ 600000) (hsl : slots ≤ 7302250) {Z : Mem × Mem} (h : stp30 n0 (fun t => xs (j + t)) MX MY = some Z) (K : LB p l e s m below meth c b D cy ax ay cells slots 1072 [(0, .ref b), (1, .ref (ax 0)), (2, .ref (ay 0)), (3, .int (nI j))] [] Z.1 Z.2) : LB p l e s m below meth c b D cy ax ay cells slots 1036 [(0, .ref b), (1, .ref (ax 0)), (2, .ref (ay 0)), (3, .int (nI j))] [] MX MY := by
  obtain ⟨zx, hX, h⟩ := Option.bind_eq_some_iff.mp h
  obtain ⟨zy, hY, h⟩ := Option.bind_eq_some_iff.mp h
  cases h
  refine l_aload_n hO dL_law_1036 1 rfl rfl ?_
  refine l_callXI hO hX mdX11_on mvX11_on rfl w1213 (As := []) (st := []) (ctX11_on n0 hO.2.2.2.2.2.2.1 _) (Nat.le_of_ble_eq_true rfl) rfl rfl (Nat.le_of_ble_eq_true rfl) hcs hsl dL_law_1037 ?_
  refine l_pop hO dL_law_1040 ?_
  refine l_aload_n hO dL_law_1041 2 rfl rfl ?_
  refine l_callYI hO hY mdX12_on mvX12_on rfl w1872 (As := []) (st := []) (ctX12_on n0 hO.2.2.2.2.2.2.2.1 _) (Nat.le_of_ble_eq_true rfl) rfl rfl (Nat.le_of_ble_eq_true rfl) hcs hsl dL_law_1042 ?_
  refine l_pop hO dL_law_1045 ?_
  refine l_goto (pc := 1046) hO dL_law_1046 (tgt := 1072) (by decide) ?_
  exact K
def stp31 (n0 : Nat) (a : Nat → Int32) (MX MY : Mem) : Option (Mem × Mem) := (fX11_status n0 (a 1) MX).bind fun zx => (fX12_status n0 (a 1) MY).bind fun zy => some (zx.2, zy.2)
theorem cas31 (n0 : Nat) {j : Nat} (hO : OKl p s m meth c b L xs D cy ax ay) (hj : j + 6 ≤ L) (hL : L ≤ 3072) (hcs : cells ≤ 600000) (hsl : slots ≤ 7302250) {Z : Mem × Mem} (h : stp31 n0 (fun t => xs (j + t)) MX MY = some Z) (K : LB p l e s m below meth c b D cy ax ay cells slots 1072 [(0, .ref b), (1, .ref (ax 0)), (2, .ref (ay 0)), (3, .int (nI j))] [] Z.1 Z.2) : LB p l e s m below meth c b D cy ax ay cells slots 1049 [(0, .ref b), (1, .ref (ax 0)), (2, .ref (ay 0)), (3, .int (nI j))] [] MX MY := by
  obtain ⟨zx, hX, h⟩ := Option.bind_eq_some_iff.mp h
  obtain ⟨zy, hY, h⟩ := Option.bind_eq_some_iff.mp h
  cases h
  refine l_aload_n hO dL_law_1049 1 rfl rfl ?_
  refine l_aload_n hO dL_law_1050 0 rfl rfl ?_
  refine l_iload_n hO dL_law_1051 3 rfl rfl ?_
  refine l_iconst hO dL_law_1052 ic_i_1 ?_
  refine l_iadd hO dL_law_1053 (v := nI (j + 1)) (nI_add j 1) ?_
  refine l_sld hO (n := j + 1) (by omega) (by omega) rfl dL_law_1054 ?_
  refine l_callXI hO hX mdX11_status mvX11_status rfl w1232 (As := [.int _]) (st := []) (ctX11_status n0 hO.2.2.2.2.2.2.1 _ _) (Nat.le_of_ble_eq_true rfl) rfl rfl (Nat.le_of_ble_eq_true rfl) hcs hsl dL_law_1055 ?_
  refine l_pop hO dL_law_1058 ?_
  refine l_aload_n hO dL_law_1059 2 rfl rfl ?_
  refine l_aload_n hO dL_law_1060 0 rfl rfl ?_
  refine l_iload_n hO dL_law_1061 3 rfl rfl ?_
  refine l_iconst hO dL_law_1062 ic_i_1 ?_
  refine l_iadd hO dL_law_1063 (v := nI (j + 1)) (nI_add j 1) ?_
  refine l_sld hO (n := j + 1) (by omega) (by omega) rfl dL_law_1064 ?_
  refine l_callYI hO hY mdX12_status mvX12_status rfl w1693 (As := [.int _]) (st := []) (ctX12_status n0 hO.2.2.2.2.2.2.2.1 _ _) (Nat.le_of_ble_eq_true rfl) rfl rfl (Nat.le_of_ble_eq_true rfl) hcs hsl dL_law_1065 ?_
  refine l_pop hO dL_law_1068 ?_
  refine l_goto (pc := 1069) hO dL_law_1069 (tgt := 1072) (by decide) ?_
  exact K
def stepL (n0 : Nat) (k : Nat) (a : Nat → Int32) (MX MY : Mem) : Option (Mem × Mem) := match k with
  | 0 => stp0 n0 a MX MY
  | 1 => stp1 n0 a MX MY
  | 2 => stp2 n0 a MX MY
  | 3 => stp3 n0 a MX MY
  | 4 => stp4 n0 a MX MY
  | 5 => stp5 n0 a MX MY
  | 6 => stp6 n0 a MX MY
  | 7 => stp7 n0 a MX MY
  | 8 => stp8 n0 a MX MY
  | 9 => stp9 n0 a MX MY
  | 10 => stp10 n0 a MX MY
  | 11 => stp11 n0 a MX MY
  | 12 => stp12 n0 a MX MY
  | 13 => stp13 n0 a MX MY
  | 14 => stp14 n0 a MX MY
  | 15 => stp15 n0 a MX MY
  | 16 => stp16 n0 a MX MY
  | 17 => stp17 n0 a MX MY
  | 18 => stp18 n0 a MX MY
  | 19 => stp19 n0 a MX MY
  | 20 => stp20 n0 a MX MY
  | 21 => stp21 n0 a MX MY
  | 22 => stp22 n0 a MX MY
  | 23 => stp23 n0 a MX MY
  | 24 => stp24 n0 a MX MY
  | 25 => stp25 n0 a MX MY
  | 26 => stp26 n0 a MX MY
  | 27 => stp27 n0 a MX MY
  | 28 => stp28 n0 a MX MY
  | 29 => stp29 n0 a MX MY
  | 30 => stp30 n0 a MX MY
  | 31 => stp31 n0 a MX MY
  | _ => none
/-- the law, as a function: w calls at most, j ints read -/
def lawF (n0 L : Nat) (xs : Nat → Int32) : Nat → Nat → Mem → Mem → Option Unit
  | 0, _, _, _ => none
  | w + 1, j, MX, MY => if j + 6 ≤ L then (stepL n0 ((xs j).toBitVec.toNat % 32) (fun t => xs (j + t)) MX MY).bind fun z => lawF n0 L xs w (j + 6) z.1 z.2 else some ()
theorem law_loop (n0 : Nat) (hO : OKl p s m meth c b L xs D cy ax ay) (hL : L ≤ 3072) (hcs : cells ≤ 600000) (hsl : slots ≤ 7302250) : ∀ (w j : Nat) (MX MY : Mem), j ≤ L → lawF n0 L xs w j MX MY = some () → LB p l e s m below meth c b D cy ax ay cells slots 18 [(0, .ref b), (1, .ref (ax 0)), (2, .ref (ay 0)), (3, .int (nI j))] [] MX MY := by
  intro w
  induction w with
  | zero => intro j MX MY _ h; cases h
  | succ w ih =>
  intro j MX MY hjL h
  rw [lawF] at h
  refine l_iload_n hO dL_law_18 3 rfl rfl ?_
  refine l_aload_n hO dL_law_19 0 rfl rfl ?_
  refine l_slen hO dL_law_20 ?_
  refine l_bipush hO dL_law_21 ic_b_6 ?_
  refine l_isub hO dL_law_23 rfl ?_
  refine l_icmpgt (pc := 24) hO dL_law_24 (tgt := 1078) (by decide) (fun hgt => ?_) (fun hgt => ?_)
  · refine l_iconst hO dL_law_1078 ic_i_1 ?_
    exact l_ret hO hcs hsl dL_law_1079
  have hj : j + 6 ≤ L := by
    rcases Nat.lt_or_ge L (j + 6) with q | q
    · refine absurd ?_ hgt
      have e6 : (6 : Int32) = nI 6 := rfl
      rw [Int32.lt_iff_toInt_lt, e6, pk_sub_toInt (by omega) (by decide), nI_toInt (by omega)]
      omega
    · exact q
  rw [if_pos hj] at h
  obtain ⟨Z, hz, h⟩ := Option.bind_eq_some_iff.mp h
  refine l_aload_n hO dL_law_27 0 rfl rfl ?_
  refine l_iload_n hO dL_law_28 3 rfl rfl ?_
  refine l_sld hO (n := j) (by omega) (by omega) rfl dL_law_29 ?_
  refine l_bipush hO dL_law_30 ic_b_31 ?_
  refine l_iand hO dL_law_32 (pk_and (xs j) (m := 31) 5 (by decide)) ?_
  have K : LB p l e s m below meth c b D cy ax ay cells slots 1072 [(0, .ref b), (1, .ref (ax 0)), (2, .ref (ay 0)), (3, .int (nI j))] [] Z.1 Z.2 := by
    refine l_iinc hO dL_law_1072 3 rfl (v := nI (j + 6)) (nI_add j 6) (by decide) (lv' := [(3, .int (nI (j + 6))), (0, .ref b), (1, .ref (ax 0)), (2, .ref (ay 0))]) rfl ?_
    refine l_goto (pc := 1075) hO dL_law_1075 (tgt := 18) (by decide) ?_
    refine l_sub [1, 2, 3, 0] rfl ?_
    exact ih (j + 6) Z.1 Z.2 hj h
  have hk32 : (xs j).toBitVec.toNat % 2 ^ 5 < 32 := Nat.mod_lt _ (by decide)
  have hz : stepL n0 ((xs j).toBitVec.toNat % 2 ^ 5) (fun t => xs (j + t)) MX MY = some Z := hz
  revert hz hk32
  generalize (xs j).toBitVec.toNat % 2 ^ 5 = k
  intro hk32 hz
  rcases (show k = 0 ∨ k = 1 ∨ k = 2 ∨ k = 3 ∨ k = 4 ∨ k = 5 ∨ k = 6 ∨ k = 7 ∨ k = 8 ∨ k = 9 ∨ k = 10 ∨ k = 11 ∨ k = 12 ∨ k = 13 ∨ k = 14 ∨ k = 15 ∨ k = 16 ∨ k = 17 ∨ k = 18 ∨ k = 19 ∨ k = 20 ∨ k = 21 ∨ k = 22 ∨ k = 23 ∨ k = 24 ∨ k = 25 ∨ k = 26 ∨ k = 27 ∨ k = 28 ∨ k = 29 ∨ k = 30 ∨ k = 31 by omega) with rfl | rfl | rfl | rfl | rfl | rfl | rfl | rfl | rfl | rfl | rfl | rfl | rfl | rfl | rfl | rfl | rfl | rfl | rfl | rfl | rfl | rfl | rfl | rfl | rfl | rfl | rfl | rfl | rfl | rfl | rfl | rfl
  · exact l_tab (pc := 33) hO dL_law_33 (off := 143) (tgt := 176) (by decide) (by decide) (by decide) (by decide) (cas0 n0 hO hj hL hcs hsl hz K)
  · exact l_tab (pc := 33) hO dL_law_33 (off := 206) (tgt := 239) (by decide) (by decide) (by decide) (by decide) (cas1 n0 hO hj hL hcs hsl hz K)
  · exact l_tab (pc := 33) hO dL_law_33 (off := 229) (tgt := 262) (by decide) (by decide) (by decide) (by decide) (cas2 n0 hO hj hL hcs hsl hz K)
  · exact l_tab (pc := 33) hO dL_law_33 (off := 242) (tgt := 275) (by decide) (by decide) (by decide) (by decide) (cas3 n0 hO hj hL hcs hsl hz K)
  · exact l_tab (pc := 33) hO dL_law_33 (off := 265) (tgt := 298) (by decide) (by decide) (by decide) (by decide) (cas4 n0 hO hj hL hcs hsl hz K)
  · exact l_tab (pc := 33) hO dL_law_33 (off := 288) (tgt := 321) (by decide) (by decide) (by decide) (by decide) (cas5 n0 hO hj hL hcs hsl hz K)
  · exact l_tab (pc := 33) hO dL_law_33 (off := 331) (tgt := 364) (by decide) (by decide) (by decide) (by decide) (cas6 n0 hO hj hL hcs hsl hz K)
  · exact l_tab (pc := 33) hO dL_law_33 (off := 364) (tgt := 397) (by decide) (by decide) (by decide) (by decide) (cas7 n0 hO hj hL hcs hsl hz K)
  · exact l_tab (pc := 33) hO dL_law_33 (off := 397) (tgt := 430) (by decide) (by decide) (by decide) (by decide) (cas8 n0 hO hj hL hcs hsl hz K)
  · exact l_tab (pc := 33) hO dL_law_33 (off := 430) (tgt := 463) (by decide) (by decide) (by decide) (by decide) (cas9 n0 hO hj hL hcs hsl hz K)
  · exact l_tab (pc := 33) hO dL_law_33 (off := 463) (tgt := 496) (by decide) (by decide) (by decide) (by decide) (cas10 n0 hO hj hL hcs hsl hz K)
  · exact l_tab (pc := 33) hO dL_law_33 (off := 486) (tgt := 519) (by decide) (by decide) (by decide) (by decide) (cas11 n0 hO hj hL hcs hsl hz K)
  · exact l_tab (pc := 33) hO dL_law_33 (off := 519) (tgt := 552) (by decide) (by decide) (by decide) (by decide) (cas12 n0 hO hj hL hcs hsl hz K)
  · exact l_tab (pc := 33) hO dL_law_33 (off := 562) (tgt := 595) (by decide) (by decide) (by decide) (by decide) (cas13 n0 hO hj hL hcs hsl hz K)
  · exact l_tab (pc := 33) hO dL_law_33 (off := 595) (tgt := 628) (by decide) (by decide) (by decide) (by decide) (cas14 n0 hO hj hL hcs hsl hz K)
  · exact l_tab (pc := 33) hO dL_law_33 (off := 638) (tgt := 671) (by decide) (by decide) (by decide) (by decide) (cas15 n0 hO hj hL hcs hsl hz K)
  · exact l_tab (pc := 33) hO dL_law_33 (off := 671) (tgt := 704) (by decide) (by decide) (by decide) (by decide) (cas16 n0 hO hj hL hcs hsl hz K)
  · exact l_tab (pc := 33) hO dL_law_33 (off := 704) (tgt := 737) (by decide) (by decide) (by decide) (by decide) (cas17 n0 hO hj hL hcs hsl hz K)
  · exact l_tab (pc := 33) hO dL_law_33 (off := 727) (tgt := 760) (by decide) (by decide) (by decide) (by decide) (cas18 n0 hO hj hL hcs hsl hz K)
  · exact l_tab (pc := 33) hO dL_law_33 (off := 740) (tgt := 773) (by decide) (by decide) (by decide) (by decide) (cas19 n0 hO hj hL hcs hsl hz K)
  · exact l_tab (pc := 33) hO dL_law_33 (off := 763) (tgt := 796) (by decide) (by decide) (by decide) (by decide) (cas20 n0 hO hj hL hcs hsl hz K)
  · exact l_tab (pc := 33) hO dL_law_33 (off := 796) (tgt := 829) (by decide) (by decide) (by decide) (by decide) (cas21 n0 hO hj hL hcs hsl hz K)
  · exact l_tab (pc := 33) hO dL_law_33 (off := 819) (tgt := 852) (by decide) (by decide) (by decide) (by decide) (cas22 n0 hO hj hL hcs hsl hz K)
  · exact l_tab (pc := 33) hO dL_law_33 (off := 842) (tgt := 875) (by decide) (by decide) (by decide) (by decide) (cas23 n0 hO hj hL hcs hsl hz K)
  · exact l_tab (pc := 33) hO dL_law_33 (off := 875) (tgt := 908) (by decide) (by decide) (by decide) (by decide) (cas24 n0 hO hj hL hcs hsl hz K)
  · exact l_tab (pc := 33) hO dL_law_33 (off := 898) (tgt := 931) (by decide) (by decide) (by decide) (by decide) (cas25 n0 hO hj hL hcs hsl hz K)
  · exact l_tab (pc := 33) hO dL_law_33 (off := 911) (tgt := 944) (by decide) (by decide) (by decide) (by decide) (cas26 n0 hO hj hL hcs hsl hz K)
  · exact l_tab (pc := 33) hO dL_law_33 (off := 934) (tgt := 967) (by decide) (by decide) (by decide) (by decide) (cas27 n0 hO hj hL hcs hsl hz K)
  · exact l_tab (pc := 33) hO dL_law_33 (off := 967) (tgt := 1000) (by decide) (by decide) (by decide) (by decide) (cas28 n0 hO hj hL hcs hsl hz K)
  · exact l_tab (pc := 33) hO dL_law_33 (off := 980) (tgt := 1013) (by decide) (by decide) (by decide) (by decide) (cas29 n0 hO hj hL hcs hsl hz K)
  · exact l_tab (pc := 33) hO dL_law_33 (off := 1003) (tgt := 1036) (by decide) (by decide) (by decide) (by decide) (cas30 n0 hO hj hL hcs hsl hz K)
  · exact l_tab (pc := 33) hO dL_law_33 (off := 1016) (tgt := 1049) (by decide) (by decide) (by decide) (by decide) (cas31 n0 hO hj hL hcs hsl hz K)
end
