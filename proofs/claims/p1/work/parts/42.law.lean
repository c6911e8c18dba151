section
variable {p : Program} {l : Launch} {e : Env} {s : State} {m : MethodId} {below : List Frame} {meth : Method} {c : Code} {b L : Nat} {xs : Nat → Int32} {D : va_G} {cy : Nat → ClassId} {ax ay : Nat → Nat} {cells slots pc : Nat} {lv : List (Nat × Value)} {st : List Value} {MX MY : Mem}
def stp0 (n0 : Nat) (a : Nat → Int32) (MX MY : Mem) : Option (Mem × Mem) := (fX11_feed n0 (a 1) (a 2) (a 3) (a 4) (a 5) MX).bind fun zx => (fX12_feed n0 (a 1) (a 2) (a 3) (a 4) (a 5) MY).bind fun zy => if zx.1 = zy.1 then some (zx.2, zy.2) else none
theorem cas0 (n0 : Nat) {j : Nat} (hO : OKl p s m meth c b L xs D cy ax ay) (hj : j + 6 ≤ L) (hL : L ≤ 3072) (hcs : cells ≤ 600000) (hsl : slots ≤ 7302250) {Z : Mem × Mem} (h : stp0 n0 (fun t => xs (j + t)) MX MY = some Z) (K : LB p l e s m below meth c b D cy ax ay cells slots 1073 [(0, .ref b), (1, .ref (ax 0)), (2, .ref (ay 0)), (3, .int (nI j))] [] Z.1 Z.2) : LB p l e s m below meth c b D cy ax ay cells slots 176 [(0, .ref b), (1, .ref (ax 0)), (2, .ref (ay 0)), (3, .int (nI j))] [] MX MY := by
  obtain ⟨zx, hX, h⟩ := Option.bind_eq_some_iff.mp h
  obtain ⟨zy, hY, h⟩ := Option.bind_eq_some_iff.mp h
  have hE : zx.1 = zy.1 := by
    by_cases q : zx.1 = zy.1
    · exact q
    · rw [if_neg q] at h; cases h
  rw [if_pos hE] at h
  cases h
  refine l_aload_n hO dL_law_176 1 rfl rfl ?_
  refine l_aload_n hO dL_law_177 0 rfl rfl ?_
  refine l_iload_n hO dL_law_178 3 rfl rfl ?_
  refine l_iconst hO dL_law_179 ic_i_1 ?_
  refine l_iadd hO dL_law_180 (v := nI (j + 1)) (nI_add j 1) ?_
  refine l_sld hO (n := j + 1) (by omega) (by omega) rfl dL_law_181 ?_
  refine l_aload_n hO dL_law_182 0 rfl rfl ?_
  refine l_iload_n hO dL_law_183 3 rfl rfl ?_
  refine l_iconst hO dL_law_184 ic_i_2 ?_
  refine l_iadd hO dL_law_185 (v := nI (j + 2)) (nI_add j 2) ?_
  refine l_sld hO (n := j + 2) (by omega) (by omega) rfl dL_law_186 ?_
  refine l_aload_n hO dL_law_187 0 rfl rfl ?_
  refine l_iload_n hO dL_law_188 3 rfl rfl ?_
  refine l_iconst hO dL_law_189 ic_i_3 ?_
  refine l_iadd hO dL_law_190 (v := nI (j + 3)) (nI_add j 3) ?_
  refine l_sld hO (n := j + 3) (by omega) (by omega) rfl dL_law_191 ?_
  refine l_aload_n hO dL_law_192 0 rfl rfl ?_
  refine l_iload_n hO dL_law_193 3 rfl rfl ?_
  refine l_iconst hO dL_law_194 ic_i_4 ?_
  refine l_iadd hO dL_law_195 (v := nI (j + 4)) (nI_add j 4) ?_
  refine l_sld hO (n := j + 4) (by omega) (by omega) rfl dL_law_196 ?_
  refine l_aload_n hO dL_law_197 0 rfl rfl ?_
  refine l_iload_n hO dL_law_198 3 rfl rfl ?_
  refine l_iconst hO dL_law_199 ic_i_5 ?_
  refine l_iadd hO dL_law_200 (v := nI (j + 5)) (nI_add j 5) ?_
  refine l_sld hO (n := j + 5) (by omega) (by omega) rfl dL_law_201 ?_
  refine l_callXI hO hX mdX11_feed mvX11_feed rfl w663 (As := [.int _, .int _, .int _, .int _, .int _]) (st := []) (ctX11_feed n0 hO.2.2.2.2.2.2.1 _ _ _ _ _ _) (Nat.le_of_ble_eq_true rfl) rfl rfl (Nat.le_of_ble_eq_true rfl) hcs hsl dL_law_202 ?_
  refine l_aload_n hO dL_law_205 2 rfl rfl ?_
  refine l_aload_n hO dL_law_206 0 rfl rfl ?_
  refine l_iload_n hO dL_law_207 3 rfl rfl ?_
  refine l_iconst hO dL_law_208 ic_i_1 ?_
  refine l_iadd hO dL_law_209 (v := nI (j + 1)) (nI_add j 1) ?_
  refine l_sld hO (n := j + 1) (by omega) (by omega) rfl dL_law_210 ?_
  refine l_aload_n hO dL_law_211 0 rfl rfl ?_
  refine l_iload_n hO dL_law_212 3 rfl rfl ?_
  refine l_iconst hO dL_law_213 ic_i_2 ?_
  refine l_iadd hO dL_law_214 (v := nI (j + 2)) (nI_add j 2) ?_
  refine l_sld hO (n := j + 2) (by omega) (by omega) rfl dL_law_215 ?_
  refine l_aload_n hO dL_law_216 0 rfl rfl ?_
  refine l_iload_n hO dL_law_217 3 rfl rfl ?_
  refine l_iconst hO dL_law_218 ic_i_3 ?_
  refine l_iadd hO dL_law_219 (v := nI (j + 3)) (nI_add j 3) ?_
  refine l_sld hO (n := j + 3) (by omega) (by omega) rfl dL_law_220 ?_
  refine l_aload_n hO dL_law_221 0 rfl rfl ?_
  refine l_iload_n hO dL_law_222 3 rfl rfl ?_
  refine l_iconst hO dL_law_223 ic_i_4 ?_
  refine l_iadd hO dL_law_224 (v := nI (j + 4)) (nI_add j 4) ?_
  refine l_sld hO (n := j + 4) (by omega) (by omega) rfl dL_law_225 ?_
  refine l_aload_n hO dL_law_226 0 rfl rfl ?_
  refine l_iload_n hO dL_law_227 3 rfl rfl ?_
  refine l_iconst hO dL_law_228 ic_i_5 ?_
  refine l_iadd hO dL_law_229 (v := nI (j + 5)) (nI_add j 5) ?_
  refine l_sld hO (n := j + 5) (by omega) (by omega) rfl dL_law_230 ?_
  refine l_callYI hO hY mdX12_feed mvX12_feed rfl w1449 (As := [.int _, .int _, .int _, .int _, .int _]) (st := [.int _]) (ctX12_feed n0 hO.2.2.2.2.2.2.2.1 _ _ _ _ _ _) (Nat.le_of_ble_eq_true rfl) rfl rfl (Nat.le_of_ble_eq_true rfl) hcs hsl dL_law_231 ?_
  refine l_icmpeq (pc := 234) hO dL_law_234 (tgt := 1073) (by decide) hE ?_
  exact K
def stp1 (n0 : Nat) (a : Nat → Int32) (MX MY : Mem) : Option (Mem × Mem) := (fX11_end n0 (a 1) MX).bind fun zx => (fX12_end n0 (a 1) MY).bind fun zy => if zx.1 = zy.1 then some (zx.2, zy.2) else none
theorem cas1 (n0 : Nat) {j : Nat} (hO : OKl p s m meth c b L xs D cy ax ay) (hj : j + 6 ≤ L) (hL : L ≤ 3072) (hcs : cells ≤ 600000) (hsl : slots ≤ 7302250) {Z : Mem × Mem} (h : stp1 n0 (fun t => xs (j + t)) MX MY = some Z) (K : LB p l e s m below meth c b D cy ax ay cells slots 1073 [(0, .ref b), (1, .ref (ax 0)), (2, .ref (ay 0)), (3, .int (nI j))] [] Z.1 Z.2) : LB p l e s m below meth c b D cy ax ay cells slots 239 [(0, .ref b), (1, .ref (ax 0)), (2, .ref (ay 0)), (3, .int (nI j))] [] MX MY := by
  obtain ⟨zx, hX, h⟩ := Option.bind_eq_some_iff.mp h
  obtain ⟨zy, hY, h⟩ := Option.bind_eq_some_iff.mp h
  have hE : zx.1 = zy.1 := by
    by_cases q : zx.1 = zy.1
    · exact q
    · rw [if_neg q] at h; cases h
  rw [if_pos hE] at h
  cases h
  refine l_aload_n hO dL_law_239 1 rfl rfl ?_
  refine l_aload_n hO dL_law_240 0 rfl rfl ?_
  refine l_iload_n hO dL_law_241 3 rfl rfl ?_
  refine l_iconst hO dL_law_242 ic_i_1 ?_
  refine l_iadd hO dL_law_243 (v := nI (j + 1)) (nI_add j 1) ?_
  refine l_sld hO (n := j + 1) (by omega) (by omega) rfl dL_law_244 ?_
  refine l_callXI hO hX mdX11_end mvX11_end rfl w679 (As := [.int _]) (st := []) (ctX11_end n0 hO.2.2.2.2.2.2.1 _ _) (Nat.le_of_ble_eq_true rfl) rfl rfl (Nat.le_of_ble_eq_true rfl) hcs hsl dL_law_245 ?_
  refine l_aload_n hO dL_law_248 2 rfl rfl ?_
  refine l_aload_n hO dL_law_249 0 rfl rfl ?_
  refine l_iload_n hO dL_law_250 3 rfl rfl ?_
  refine l_iconst hO dL_law_251 ic_i_1 ?_
  refine l_iadd hO dL_law_252 (v := nI (j + 1)) (nI_add j 1) ?_
  refine l_sld hO (n := j + 1) (by omega) (by omega) rfl dL_law_253 ?_
  refine l_callYI hO hY mdX12_end mvX12_end rfl w1461 (As := [.int _]) (st := [.int _]) (ctX12_end n0 hO.2.2.2.2.2.2.2.1 _ _) (Nat.le_of_ble_eq_true rfl) rfl rfl (Nat.le_of_ble_eq_true rfl) hcs hsl dL_law_254 ?_
  refine l_icmpeq (pc := 257) hO dL_law_257 (tgt := 1073) (by decide) hE ?_
  exact K
def stp2 (n0 : Nat) (a : Nat → Int32) (MX MY : Mem) : Option (Mem × Mem) := (fX11_town n0 MX).bind fun zx => (fX12_town n0 MY).bind fun zy => if zx.1 = zy.1 then some (zx.2, zy.2) else none
theorem cas2 (n0 : Nat) {j : Nat} (hO : OKl p s m meth c b L xs D cy ax ay) (hj : j + 6 ≤ L) (hL : L ≤ 3072) (hcs : cells ≤ 600000) (hsl : slots ≤ 7302250) {Z : Mem × Mem} (h : stp2 n0 (fun t => xs (j + t)) MX MY = some Z) (K : LB p l e s m below meth c b D cy ax ay cells slots 1073 [(0, .ref b), (1, .ref (ax 0)), (2, .ref (ay 0)), (3, .int (nI j))] [] Z.1 Z.2) : LB p l e s m below meth c b D cy ax ay cells slots 262 [(0, .ref b), (1, .ref (ax 0)), (2, .ref (ay 0)), (3, .int (nI j))] [] MX MY := by
  obtain ⟨zx, hX, h⟩ := Option.bind_eq_some_iff.mp h
  obtain ⟨zy, hY, h⟩ := Option.bind_eq_some_iff.mp h
  have hE : zx.1 = zy.1 := by
    by_cases q : zx.1 = zy.1
    · exact q
    · rw [if_neg q] at h; cases h
  rw [if_pos hE] at h
  cases h
  refine l_aload_n hO dL_law_262 1 rfl rfl ?_
  refine l_callXI hO hX mdX11_town mvX11_town rfl w683 (As := []) (st := []) (ctX11_town n0 hO.2.2.2.2.2.2.1 _) (Nat.le_of_ble_eq_true rfl) rfl rfl (Nat.le_of_ble_eq_true rfl) hcs hsl dL_law_263 ?_
  refine l_aload_n hO dL_law_266 2 rfl rfl ?_
  refine l_callYI hO hY mdX12_town mvX12_town rfl w1465 (As := []) (st := [.int _]) (ctX12_town n0 hO.2.2.2.2.2.2.2.1 _) (Nat.le_of_ble_eq_true rfl) rfl rfl (Nat.le_of_ble_eq_true rfl) hcs hsl dL_law_267 ?_
  refine l_icmpeq (pc := 270) hO dL_law_270 (tgt := 1073) (by decide) hE ?_
  exact K
def stp3 (n0 : Nat) (a : Nat → Int32) (MX MY : Mem) : Option (Mem × Mem) := (fX11_fault n0 (a 1) MX).bind fun zx => (fX12_fault n0 (a 1) MY).bind fun zy => if zx.1 = zy.1 then some (zx.2, zy.2) else none
theorem cas3 (n0 : Nat) {j : Nat} (hO : OKl p s m meth c b L xs D cy ax ay) (hj : j + 6 ≤ L) (hL : L ≤ 3072) (hcs : cells ≤ 600000) (hsl : slots ≤ 7302250) {Z : Mem × Mem} (h : stp3 n0 (fun t => xs (j + t)) MX MY = some Z) (K : LB p l e s m below meth c b D cy ax ay cells slots 1073 [(0, .ref b), (1, .ref (ax 0)), (2, .ref (ay 0)), (3, .int (nI j))] [] Z.1 Z.2) : LB p l e s m below meth c b D cy ax ay cells slots 275 [(0, .ref b), (1, .ref (ax 0)), (2, .ref (ay 0)), (3, .int (nI j))] [] MX MY := by
  obtain ⟨zx, hX, h⟩ := Option.bind_eq_some_iff.mp h
  obtain ⟨zy, hY, h⟩ := Option.bind_eq_some_iff.mp h
  have hE : zx.1 = zy.1 := by
    by_cases q : zx.1 = zy.1
    · exact q
    · rw [if_neg q] at h; cases h
  rw [if_pos hE] at h
  cases h
  refine l_aload_n hO dL_law_275 1 rfl rfl ?_
  refine l_aload_n hO dL_law_276 0 rfl rfl ?_
  refine l_iload_n hO dL_law_277 3 rfl rfl ?_
  refine l_iconst hO dL_law_278 ic_i_1 ?_
  refine l_iadd hO dL_law_279 (v := nI (j + 1)) (nI_add j 1) ?_
  refine l_sld hO (n := j + 1) (by omega) (by omega) rfl dL_law_280 ?_
  refine l_callXI hO hX mdX11_fault mvX11_fault rfl w904 (As := [.int _]) (st := []) (ctX11_fault n0 hO.2.2.2.2.2.2.1 _ _) (Nat.le_of_ble_eq_true rfl) rfl rfl (Nat.le_of_ble_eq_true rfl) hcs hsl dL_law_281 ?_
  refine l_aload_n hO dL_law_284 2 rfl rfl ?_
  refine l_aload_n hO dL_law_285 0 rfl rfl ?_
  refine l_iload_n hO dL_law_286 3 rfl rfl ?_
  refine l_iconst hO dL_law_287 ic_i_1 ?_
  refine l_iadd hO dL_law_288 (v := nI (j + 1)) (nI_add j 1) ?_
  refine l_sld hO (n := j + 1) (by omega) (by omega) rfl dL_law_289 ?_
  refine l_callYI hO hY mdX12_fault mvX12_fault rfl w1689 (As := [.int _]) (st := [.int _]) (ctX12_fault n0 hO.2.2.2.2.2.2.2.1 _ _) (Nat.le_of_ble_eq_true rfl) rfl rfl (Nat.le_of_ble_eq_true rfl) hcs hsl dL_law_290 ?_
  refine l_icmpeq (pc := 293) hO dL_law_293 (tgt := 1073) (by decide) hE ?_
  exact K
def stp4 (n0 : Nat) (a : Nat → Int32) (MX MY : Mem) : Option (Mem × Mem) := (fX11_has n0 (a 1) MX).bind fun zx => (fX12_has n0 (a 1) MY).bind fun zy => if zx.1 = zy.1 then some (zx.2, zy.2) else none
theorem cas4 (n0 : Nat) {j : Nat} (hO : OKl p s m meth c b L xs D cy ax ay) (hj : j + 6 ≤ L) (hL : L ≤ 3072) (hcs : cells ≤ 600000) (hsl : slots ≤ 7302250) {Z : Mem × Mem} (h : stp4 n0 (fun t => xs (j + t)) MX MY = some Z) (K : LB p l e s m below meth c b D cy ax ay cells slots 1073 [(0, .ref b), (1, .ref (ax 0)), (2, .ref (ay 0)), (3, .int (nI j))] [] Z.1 Z.2) : LB p l e s m below meth c b D cy ax ay cells slots 298 [(0, .ref b), (1, .ref (ax 0)), (2, .ref (ay 0)), (3, .int (nI j))] [] MX MY := by
  obtain ⟨zx, hX, h⟩ := Option.bind_eq_some_iff.mp h
  obtain ⟨zy, hY, h⟩ := Option.bind_eq_some_iff.mp h
  have hE : zx.1 = zy.1 := by
    by_cases q : zx.1 = zy.1
    · exact q
    · rw [if_neg q] at h; cases h
  rw [if_pos hE] at h
  cases h
  refine l_aload_n hO dL_law_298 1 rfl rfl ?_
  refine l_aload_n hO dL_law_299 0 rfl rfl ?_
  refine l_iload_n hO dL_law_300 3 rfl rfl ?_
  refine l_iconst hO dL_law_301 ic_i_1 ?_
  refine l_iadd hO dL_law_302 (v := nI (j + 1)) (nI_add j 1) ?_
  refine l_sld hO (n := j + 1) (by omega) (by omega) rfl dL_law_303 ?_
  refine l_callXI hO hX mdX11_has mvX11_has rfl w908 (As := [.int _]) (st := []) (ctX11_has n0 hO.2.2.2.2.2.2.1 _ _) (Nat.le_of_ble_eq_true rfl) rfl rfl (Nat.le_of_ble_eq_true rfl) hcs hsl dL_law_304 ?_
  refine l_aload_n hO dL_law_307 2 rfl rfl ?_
  refine l_aload_n hO dL_law_308 0 rfl rfl ?_
  refine l_iload_n hO dL_law_309 3 rfl rfl ?_
  refine l_iconst hO dL_law_310 ic_i_1 ?_
  refine l_iadd hO dL_law_311 (v := nI (j + 1)) (nI_add j 1) ?_
  refine l_sld hO (n := j + 1) (by omega) (by omega) rfl dL_law_312 ?_
  refine l_callYI hO hY mdX12_has mvX12_has rfl w1709 (As := [.int _]) (st := [.int _]) (ctX12_has n0 hO.2.2.2.2.2.2.2.1 _ _) (Nat.le_of_ble_eq_true rfl) rfl rfl (Nat.le_of_ble_eq_true rfl) hcs hsl dL_law_313 ?_
  refine l_icmpeq (pc := 316) hO dL_law_316 (tgt := 1073) (by decide) hE ?_
  exact K
def stp5 (n0 : Nat) (a : Nat → Int32) (MX MY : Mem) : Option (Mem × Mem) := (fX11_letter n0 (a 1) (a 2) (a 3) MX).bind fun zx => (fX12_letter n0 (a 1) (a 2) (a 3) MY).bind fun zy => if zx.1 = zy.1 then some (zx.2, zy.2) else none
theorem cas5 (n0 : Nat) {j : Nat} (hO : OKl p s m meth c b L xs D cy ax ay) (hj : j + 6 ≤ L) (hL : L ≤ 3072) (hcs : cells ≤ 600000) (hsl : slots ≤ 7302250) {Z : Mem × Mem} (h : stp5 n0 (fun t => xs (j + t)) MX MY = some Z) (K : LB p l e s m below meth c b D cy ax ay cells slots 1073 [(0, .ref b), (1, .ref (ax 0)), (2, .ref (ay 0)), (3, .int (nI j))] [] Z.1 Z.2) : LB p l e s m below meth c b D cy ax ay cells slots 321 [(0, .ref b), (1, .ref (ax 0)), (2, .ref (ay 0)), (3, .int (nI j))] [] MX MY := by
  obtain ⟨zx, hX, h⟩ := Option.bind_eq_some_iff.mp h
  obtain ⟨zy, hY, h⟩ := Option.bind_eq_some_iff.mp h
  have hE : zx.1 = zy.1 := by
    by_cases q : zx.1 = zy.1
    · exact q
    · rw [if_neg q] at h; cases h
  rw [if_pos hE] at h
  cases h
  refine l_aload_n hO dL_law_321 1 rfl rfl ?_
  refine l_aload_n hO dL_law_322 0 rfl rfl ?_
  refine l_iload_n hO dL_law_323 3 rfl rfl ?_
  refine l_iconst hO dL_law_324 ic_i_1 ?_
  refine l_iadd hO dL_law_325 (v := nI (j + 1)) (nI_add j 1) ?_
  refine l_sld hO (n := j + 1) (by omega) (by omega) rfl dL_law_326 ?_
  refine l_aload_n hO dL_law_327 0 rfl rfl ?_
  refine l_iload_n hO dL_law_328 3 rfl rfl ?_
  refine l_iconst hO dL_law_329 ic_i_2 ?_
  refine l_iadd hO dL_law_330 (v := nI (j + 2)) (nI_add j 2) ?_
  refine l_sld hO (n := j + 2) (by omega) (by omega) rfl dL_law_331 ?_
  refine l_aload_n hO dL_law_332 0 rfl rfl ?_
  refine l_iload_n hO dL_law_333 3 rfl rfl ?_
  refine l_iconst hO dL_law_334 ic_i_3 ?_
  refine l_iadd hO dL_law_335 (v := nI (j + 3)) (nI_add j 3) ?_
  refine l_sld hO (n := j + 3) (by omega) (by omega) rfl dL_law_336 ?_
  refine l_callXI hO hX mdX11_letter mvX11_letter rfl w920 (As := [.int _, .int _, .int _]) (st := []) (ctX11_letter n0 hO.2.2.2.2.2.2.1 _ _ _ _) (Nat.le_of_ble_eq_true rfl) rfl rfl (Nat.le_of_ble_eq_true rfl) hcs hsl dL_law_337 ?_
  refine l_aload_n hO dL_law_340 2 rfl rfl ?_
  refine l_aload_n hO dL_law_341 0 rfl rfl ?_
  refine l_iload_n hO dL_law_342 3 rfl rfl ?_
  refine l_iconst hO dL_law_343 ic_i_1 ?_
  refine l_iadd hO dL_law_344 (v := nI (j + 1)) (nI_add j 1) ?_
  refine l_sld hO (n := j + 1) (by omega) (by omega) rfl dL_law_345 ?_
  refine l_aload_n hO dL_law_346 0 rfl rfl ?_
  refine l_iload_n hO dL_law_347 3 rfl rfl ?_
  refine l_iconst hO dL_law_348 ic_i_2 ?_
  refine l_iadd hO dL_law_349 (v := nI (j + 2)) (nI_add j 2) ?_
  refine l_sld hO (n := j + 2) (by omega) (by omega) rfl dL_law_350 ?_
  refine l_aload_n hO dL_law_351 0 rfl rfl ?_
  refine l_iload_n hO dL_law_352 3 rfl rfl ?_
  refine l_iconst hO dL_law_353 ic_i_3 ?_
  refine l_iadd hO dL_law_354 (v := nI (j + 3)) (nI_add j 3) ?_
  refine l_sld hO (n := j + 3) (by omega) (by omega) rfl dL_law_355 ?_
  refine l_callYI hO hY mdX12_letter mvX12_letter rfl w1716 (As := [.int _, .int _, .int _]) (st := [.int _]) (ctX12_letter n0 hO.2.2.2.2.2.2.2.1 _ _ _ _) (Nat.le_of_ble_eq_true rfl) rfl rfl (Nat.le_of_ble_eq_true rfl) hcs hsl dL_law_356 ?_
  refine l_icmpeq (pc := 359) hO dL_law_359 (tgt := 1073) (by decide) hE ?_
  exact K
def stp6 (n0 : Nat) (a : Nat → Int32) (MX MY : Mem) : Option (Mem × Mem) := (fX11_thing n0 (a 1) (a 2) MX).bind fun zx => (fX12_thing n0 (a 1) (a 2) MY).bind fun zy => if zx.1 = zy.1 then some (zx.2, zy.2) else none
theorem cas6 (n0 : Nat) {j : Nat} (hO : OKl p s m meth c b L xs D cy ax ay) (hj : j + 6 ≤ L) (hL : L ≤ 3072) (hcs : cells ≤ 600000) (hsl : slots ≤ 7302250) {Z : Mem × Mem} (h : stp6 n0 (fun t => xs (j + t)) MX MY = some Z) (K : LB p l e s m below meth c b D cy ax ay cells slots 1073 [(0, .ref b), (1, .ref (ax 0)), (2, .ref (ay 0)), (3, .int (nI j))] [] Z.1 Z.2) : LB p l e s m below meth c b D cy ax ay cells slots 364 [(0, .ref b), (1, .ref (ax 0)), (2, .ref (ay 0)), (3, .int (nI j))] [] MX MY := by
  obtain ⟨zx, hX, h⟩ := Option.bind_eq_some_iff.mp h
  obtain ⟨zy, hY, h⟩ := Option.bind_eq_some_iff.mp h
  have hE : zx.1 = zy.1 := by
    by_cases q : zx.1 = zy.1
    · exact q
    · rw [if_neg q] at h; cases h
  rw [if_pos hE] at h
  cases h
  refine l_aload_n hO dL_law_364 1 rfl rfl ?_
  refine l_aload_n hO dL_law_365 0 rfl rfl ?_
  refine l_iload_n hO dL_law_366 3 rfl rfl ?_
  refine l_iconst hO dL_law_367 ic_i_1 ?_
  refine l_iadd hO dL_law_368 (v := nI (j + 1)) (nI_add j 1) ?_
  refine l_sld hO (n := j + 1) (by omega) (by omega) rfl dL_law_369 ?_
  refine l_aload_n hO dL_law_370 0 rfl rfl ?_
  refine l_iload_n hO dL_law_371 3 rfl rfl ?_
  refine l_iconst hO dL_law_372 ic_i_2 ?_
  refine l_iadd hO dL_law_373 (v := nI (j + 2)) (nI_add j 2) ?_
  refine l_sld hO (n := j + 2) (by omega) (by omega) rfl dL_law_374 ?_
  refine l_callXI hO hX mdX11_thing mvX11_thing rfl w936 (As := [.int _, .int _]) (st := []) (ctX11_thing n0 hO.2.2.2.2.2.2.1 _ _ _) (Nat.le_of_ble_eq_true rfl) rfl rfl (Nat.le_of_ble_eq_true rfl) hcs hsl dL_law_375 ?_
  refine l_aload_n hO dL_law_378 2 rfl rfl ?_
  refine l_aload_n hO dL_law_379 0 rfl rfl ?_
  refine l_iload_n hO dL_law_380 3 rfl rfl ?_
  refine l_iconst hO dL_law_381 ic_i_1 ?_
  refine l_iadd hO dL_law_382 (v := nI (j + 1)) (nI_add j 1) ?_
  refine l_sld hO (n := j + 1) (by omega) (by omega) rfl dL_law_383 ?_
  refine l_aload_n hO dL_law_384 0 rfl rfl ?_
  refine l_iload_n hO dL_law_385 3 rfl rfl ?_
  refine l_iconst hO dL_law_386 ic_i_2 ?_
  refine l_iadd hO dL_law_387 (v := nI (j + 2)) (nI_add j 2) ?_
  refine l_sld hO (n := j + 2) (by omega) (by omega) rfl dL_law_388 ?_
  refine l_callYI hO hY mdX12_thing mvX12_thing rfl w1721 (As := [.int _, .int _]) (st := [.int _]) (ctX12_thing n0 hO.2.2.2.2.2.2.2.1 _ _ _) (Nat.le_of_ble_eq_true rfl) rfl rfl (Nat.le_of_ble_eq_true rfl) hcs hsl dL_law_389 ?_
  refine l_icmpeq (pc := 392) hO dL_law_392 (tgt := 1073) (by decide) hE ?_
  exact K
def stp7 (n0 : Nat) (a : Nat → Int32) (MX MY : Mem) : Option (Mem × Mem) := (fX11_corner n0 (a 1) (a 2) MX).bind fun zx => (fX12_corner n0 (a 1) (a 2) MY).bind fun zy => if zx.1 = zy.1 then some (zx.2, zy.2) else none
theorem cas7 (n0 : Nat) {j : Nat} (hO : OKl p s m meth c b L xs D cy ax ay) (hj : j + 6 ≤ L) (hL : L ≤ 3072) (hcs : cells ≤ 600000) (hsl : slots ≤ 7302250) {Z : Mem × Mem} (h : stp7 n0 (fun t => xs (j + t)) MX MY = some Z) (K : LB p l e s m below meth c b D cy ax ay cells slots 1073 [(0, .ref b), (1, .ref (ax 0)), (2, .ref (ay 0)), (3, .int (nI j))] [] Z.1 Z.2) : LB p l e s m below meth c b D cy ax ay cells slots 397 [(0, .ref b), (1, .ref (ax 0)), (2, .ref (ay 0)), (3, .int (nI j))] [] MX MY := by
  obtain ⟨zx, hX, h⟩ := Option.bind_eq_some_iff.mp h
  obtain ⟨zy, hY, h⟩ := Option.bind_eq_some_iff.mp h
  have hE : zx.1 = zy.1 := by
    by_cases q : zx.1 = zy.1
    · exact q
    · rw [if_neg q] at h; cases h
  rw [if_pos hE] at h
  cases h
  refine l_aload_n hO dL_law_397 1 rfl rfl ?_
  refine l_aload_n hO dL_law_398 0 rfl rfl ?_
  refine l_iload_n hO dL_law_399 3 rfl rfl ?_
  refine l_iconst hO dL_law_400 ic_i_1 ?_
  refine l_iadd hO dL_law_401 (v := nI (j + 1)) (nI_add j 1) ?_
  refine l_sld hO (n := j + 1) (by omega) (by omega) rfl dL_law_402 ?_
  refine l_aload_n hO dL_law_403 0 rfl rfl ?_
  refine l_iload_n hO dL_law_404 3 rfl rfl ?_
  refine l_iconst hO dL_law_405 ic_i_2 ?_
  refine l_iadd hO dL_law_406 (v := nI (j + 2)) (nI_add j 2) ?_
  refine l_sld hO (n := j + 2) (by omega) (by omega) rfl dL_law_407 ?_
  refine l_callXI hO hX mdX11_corner mvX11_corner rfl w940 (As := [.int _, .int _]) (st := []) (ctX11_corner n0 hO.2.2.2.2.2.2.1 _ _ _) (Nat.le_of_ble_eq_true rfl) rfl rfl (Nat.le_of_ble_eq_true rfl) hcs hsl dL_law_408 ?_
  refine l_aload_n hO dL_law_411 2 rfl rfl ?_
  refine l_aload_n hO dL_law_412 0 rfl rfl ?_
  refine l_iload_n hO dL_law_413 3 rfl rfl ?_
  refine l_iconst hO dL_law_414 ic_i_1 ?_
  refine l_iadd hO dL_law_415 (v := nI (j + 1)) (nI_add j 1) ?_
  refine l_sld hO (n := j + 1) (by omega) (by omega) rfl dL_law_416 ?_
  refine l_aload_n hO dL_law_417 0 rfl rfl ?_
  refine l_iload_n hO dL_law_418 3 rfl rfl ?_
  refine l_iconst hO dL_law_419 ic_i_2 ?_
  refine l_iadd hO dL_law_420 (v := nI (j + 2)) (nI_add j 2) ?_
  refine l_sld hO (n := j + 2) (by omega) (by omega) rfl dL_law_421 ?_
  refine l_callYI hO hY mdX12_corner mvX12_corner rfl w1729 (As := [.int _, .int _]) (st := [.int _]) (ctX12_corner n0 hO.2.2.2.2.2.2.2.1 _ _ _) (Nat.le_of_ble_eq_true rfl) rfl rfl (Nat.le_of_ble_eq_true rfl) hcs hsl dL_law_422 ?_
  refine l_icmpeq (pc := 425) hO dL_law_425 (tgt := 1073) (by decide) hE ?_
  exact K
def stp8 (n0 : Nat) (a : Nat → Int32) (MX MY : Mem) : Option (Mem × Mem) := (fX11_doing n0 (a 1) (a 2) MX).bind fun zx => (fX12_doing n0 (a 1) (a 2) MY).bind fun zy => if zx.1 = zy.1 then some (zx.2, zy.2) else none
theorem cas8 (n0 : Nat) {j : Nat} (hO : OKl p s m meth c b L xs D cy ax ay) (hj : j + 6 ≤ L) (hL : L ≤ 3072) (hcs : cells ≤ 600000) (hsl : slots ≤ 7302250) {Z : Mem × Mem} (h : stp8 n0 (fun t => xs (j + t)) MX MY = some Z) (K : LB p l e s m below meth c b D cy ax ay cells slots 1073 [(0, .ref b), (1, .ref (ax 0)), (2, .ref (ay 0)), (3, .int (nI j))] [] Z.1 Z.2) : LB p l e s m below meth c b D cy ax ay cells slots 430 [(0, .ref b), (1, .ref (ax 0)), (2, .ref (ay 0)), (3, .int (nI j))] [] MX MY := by
  obtain ⟨zx, hX, h⟩ := Option.bind_eq_some_iff.mp h
  obtain ⟨zy, hY, h⟩ := Option.bind_eq_some_iff.mp h
  have hE : zx.1 = zy.1 := by
    by_cases q : zx.1 = zy.1
    · exact q
    · rw [if_neg q] at h; cases h
  rw [if_pos hE] at h
  cases h
  refine l_aload_n hO dL_law_430 1 rfl rfl ?_
  refine l_aload_n hO dL_law_431 0 rfl rfl ?_
  refine l_iload_n hO dL_law_432 3 rfl rfl ?_
  refine l_iconst hO dL_law_433 ic_i_1 ?_
  refine l_iadd hO dL_law_434 (v := nI (j + 1)) (nI_add j 1) ?_
  refine l_sld hO (n := j + 1) (by omega) (by omega) rfl dL_law_435 ?_
  refine l_aload_n hO dL_law_436 0 rfl rfl ?_
  refine l_iload_n hO dL_law_437 3 rfl rfl ?_
  refine l_iconst hO dL_law_438 ic_i_2 ?_
  refine l_iadd hO dL_law_439 (v := nI (j + 2)) (nI_add j 2) ?_
  refine l_sld hO (n := j + 2) (by omega) (by omega) rfl dL_law_440 ?_
  refine l_callXI hO hX mdX11_doing mvX11_doing rfl w954 (As := [.int _, .int _]) (st := []) (ctX11_doing n0 hO.2.2.2.2.2.2.1 _ _ _) (Nat.le_of_ble_eq_true rfl) rfl rfl (Nat.le_of_ble_eq_true rfl) hcs hsl dL_law_441 ?_
  refine l_aload_n hO dL_law_444 2 rfl rfl ?_
  refine l_aload_n hO dL_law_445 0 rfl rfl ?_
  refine l_iload_n hO dL_law_446 3 rfl rfl ?_
  refine l_iconst hO dL_law_447 ic_i_1 ?_
  refine l_iadd hO dL_law_448 (v := nI (j + 1)) (nI_add j 1) ?_
  refine l_sld hO (n := j + 1) (by omega) (by omega) rfl dL_law_449 ?_
  refine l_aload_n hO dL_law_450 0 rfl rfl ?_
  refine l_iload_n hO dL_law_451 3 rfl rfl ?_
  refine l_iconst hO dL_law_452 ic_i_2 ?_
  refine l_iadd hO dL_law_453 (v := nI (j + 2)) (nI_add j 2) ?_
  refine l_sld hO (n := j + 2) (by omega) (by omega) rfl dL_law_454 ?_
  refine l_callYI hO hY mdX12_doing mvX12_doing rfl w1737 (As := [.int _, .int _]) (st := [.int _]) (ctX12_doing n0 hO.2.2.2.2.2.2.2.1 _ _ _) (Nat.le_of_ble_eq_true rfl) rfl rfl (Nat.le_of_ble_eq_true rfl) hcs hsl dL_law_455 ?_
  refine l_icmpeq (pc := 458) hO dL_law_458 (tgt := 1073) (by decide) hE ?_
  exact K
def stp9 (n0 : Nat) (a : Nat → Int32) (MX MY : Mem) : Option (Mem × Mem) := (fX11_later n0 (a 1) (a 2) MX).bind fun zx => (fX12_later n0 (a 1) (a 2) MY).bind fun zy => if zx.1 = zy.1 then some (zx.2, zy.2) else none
theorem cas9 (n0 : Nat) {j : Nat} (hO : OKl p s m meth c b L xs D cy ax ay) (hj : j + 6 ≤ L) (hL : L ≤ 3072) (hcs : cells ≤ 600000) (hsl : slots ≤ 7302250) {Z : Mem × Mem} (h : stp9 n0 (fun t => xs (j + t)) MX MY = some Z) (K : LB p l e s m below meth c b D cy ax ay cells slots 1073 [(0, .ref b), (1, .ref (ax 0)), (2, .ref (ay 0)), (3, .int (nI j))] [] Z.1 Z.2) : LB p l e s m below meth c b D cy ax ay cells slots 463 [(0, .ref b), (1, .ref (ax 0)), (2, .ref (ay 0)), (3, .int (nI j))] [] MX MY := by
  obtain ⟨zx, hX, h⟩ := Option.bind_eq_some_iff.mp h
  obtain ⟨zy, hY, h⟩ := Option.bind_eq_some_iff.mp h
  have hE : zx.1 = zy.1 := by
    by_cases q : zx.1 = zy.1
    · exact q
    · rw [if_neg q] at h; cases h
  rw [if_pos hE] at h
  cases h
  refine l_aload_n hO dL_law_463 1 rfl rfl ?_
  refine l_aload_n hO dL_law_464 0 rfl rfl ?_
  refine l_iload_n hO dL_law_465 3 rfl rfl ?_
  refine l_iconst hO dL_law_466 ic_i_1 ?_
  refine l_iadd hO dL_law_467 (v := nI (j + 1)) (nI_add j 1) ?_
  refine l_sld hO (n := j + 1) (by omega) (by omega) rfl dL_law_468 ?_
  refine l_aload_n hO dL_law_469 0 rfl rfl ?_
  refine l_iload_n hO dL_law_470 3 rfl rfl ?_
  refine l_iconst hO dL_law_471 ic_i_2 ?_
  refine l_iadd hO dL_law_472 (v := nI (j + 2)) (nI_add j 2) ?_
  refine l_sld hO (n := j + 2) (by omega) (by omega) rfl dL_law_473 ?_
  refine l_callXI hO hX mdX11_later mvX11_later rfl w958 (As := [.int _, .int _]) (st := []) (ctX11_later n0 hO.2.2.2.2.2.2.1 _ _ _) (Nat.le_of_ble_eq_true rfl) rfl rfl (Nat.le_of_ble_eq_true rfl) hcs hsl dL_law_474 ?_
  refine l_aload_n hO dL_law_477 2 rfl rfl ?_
  refine l_aload_n hO dL_law_478 0 rfl rfl ?_
  refine l_iload_n hO dL_law_479 3 rfl rfl ?_
  refine l_iconst hO dL_law_480 ic_i_1 ?_
  refine l_iadd hO dL_law_481 (v := nI (j + 1)) (nI_add j 1) ?_
  refine l_sld hO (n := j + 1) (by omega) (by omega) rfl dL_law_482 ?_
  refine l_aload_n hO dL_law_483 0 rfl rfl ?_
  refine l_iload_n hO dL_law_484 3 rfl rfl ?_
  refine l_iconst hO dL_law_485 ic_i_2 ?_
  refine l_iadd hO dL_law_486 (v := nI (j + 2)) (nI_add j 2) ?_
  refine l_sld hO (n := j + 2) (by omega) (by omega) rfl dL_law_487 ?_
  refine l_callYI hO hY mdX12_later mvX12_later rfl w1745 (As := [.int _, .int _]) (st := [.int _]) (ctX12_later n0 hO.2.2.2.2.2.2.2.1 _ _ _) (Nat.le_of_ble_eq_true rfl) rfl rfl (Nat.le_of_ble_eq_true rfl) hcs hsl dL_law_488 ?_
  refine l_icmpeq (pc := 491) hO dL_law_491 (tgt := 1073) (by decide) hE ?_
  exact K
def stp10 (n0 : Nat) (a : Nat → Int32) (MX MY : Mem) : Option (Mem × Mem) := (fX11_when n0 (a 1) MX).bind fun zx => (fX12_when n0 (a 1) MY).bind fun zy => if zx.1 = zy.1 then some (zx.2, zy.2) else none
theorem cas10 (n0 : Nat) {j : Nat} (hO : OKl p s m meth c b L xs D cy ax ay) (hj : j + 6 ≤ L) (hL : L ≤ 3072) (hcs : cells ≤ 600000) (hsl : slots ≤ 7302250) {Z : Mem × Mem} (h : stp10 n0 (fun t => xs (j + t)) MX MY = some Z) (K : LB p l e s m below meth c b D cy ax ay cells slots 1073 [(0, .ref b), (1, .ref (ax 0)), (2, .ref (ay 0)), (3, .int (nI j))] [] Z.1 Z.2) : LB p l e s m below meth c b D cy ax ay cells slots 496 [(0, .ref b), (1, .ref (ax 0)), (2, .ref (ay 0)), (3, .int (nI j))] [] MX MY := by
  obtain ⟨zx, hX, h⟩ := Option.bind_eq_some_iff.mp h
  obtain ⟨zy, hY, h⟩ := Option.bind_eq_some_iff.mp h
  have hE : zx.1 = zy.1 := by
    by_cases q : zx.1 = zy.1
    · exact q
    · rw [if_neg q] at h; cases h
  rw [if_pos hE] at h
  cases h
  refine l_aload_n hO dL_law_496 1 rfl rfl ?_
  refine l_aload_n hO dL_law_497 0 rfl rfl ?_
  refine l_iload_n hO dL_law_498 3 rfl rfl ?_
  refine l_iconst hO dL_law_499 ic_i_1 ?_
  refine l_iadd hO dL_law_500 (v := nI (j + 1)) (nI_add j 1) ?_
  refine l_sld hO (n := j + 1) (by omega) (by omega) rfl dL_law_501 ?_
  refine l_callXI hO hX mdX11_when mvX11_when rfl w979 (As := [.int _]) (st := []) (ctX11_when n0 hO.2.2.2.2.2.2.1 _ _) (Nat.le_of_ble_eq_true rfl) rfl rfl (Nat.le_of_ble_eq_true rfl) hcs hsl dL_law_502 ?_
  refine l_aload_n hO dL_law_505 2 rfl rfl ?_
  refine l_aload_n hO dL_law_506 0 rfl rfl ?_
  refine l_iload_n hO dL_law_507 3 rfl rfl ?_
  refine l_iconst hO dL_law_508 ic_i_1 ?_
  refine l_iadd hO dL_law_509 (v := nI (j + 1)) (nI_add j 1) ?_
  refine l_sld hO (n := j + 1) (by omega) (by omega) rfl dL_law_510 ?_
  refine l_callYI hO hY mdX12_when mvX12_when rfl w1769 (As := [.int _]) (st := [.int _]) (ctX12_when n0 hO.2.2.2.2.2.2.2.1 _ _) (Nat.le_of_ble_eq_true rfl) rfl rfl (Nat.le_of_ble_eq_true rfl) hcs hsl dL_law_511 ?_
  refine l_icmpeq (pc := 514) hO dL_law_514 (tgt := 1073) (by decide) hE ?_
  exact K
def stp11 (n0 : Nat) (a : Nat → Int32) (MX MY : Mem) : Option (Mem × Mem) := (fX11_alike n0 (a 1) (a 2) MX).bind fun zx => (fX12_alike n0 (a 1) (a 2) MY).bind fun zy => if zx.1 = zy.1 then some (zx.2, zy.2) else none
theorem cas11 (n0 : Nat) {j : Nat} (hO : OKl p s m meth c b L xs D cy ax ay) (hj : j + 6 ≤ L) (hL : L ≤ 3072) (hcs : cells ≤ 600000) (hsl : slots ≤ 7302250) {Z : Mem × Mem} (h : stp11 n0 (fun t => xs (j + t)) MX MY = some Z) (K : LB p l e s m below meth c b D cy ax ay cells slots 1073 [(0, .ref b), (1, .ref (ax 0)), (2, .ref (ay 0)), (3, .int (nI j))] [] Z.1 Z.2) : LB p l e s m below meth c b D cy ax ay cells slots 519 [(0, .ref b), (1, .ref (ax 0)), (2, .ref (ay 0)), (3, .int (nI j))] [] MX MY := by
  obtain ⟨zx, hX, h⟩ := Option.bind_eq_some_iff.mp h
  obtain ⟨zy, hY, h⟩ := Option.bind_eq_some_iff.mp h
  have hE : zx.1 = zy.1 := by
    by_cases q : zx.1 = zy.1
    · exact q
    · rw [if_neg q] at h; cases h
  rw [if_pos hE] at h
  cases h
  refine l_aload_n hO dL_law_519 1 rfl rfl ?_
  refine l_aload_n hO dL_law_520 0 rfl rfl ?_
  refine l_iload_n hO dL_law_521 3 rfl rfl ?_
  refine l_iconst hO dL_law_522 ic_i_1 ?_
  refine l_iadd hO dL_law_523 (v := nI (j + 1)) (nI_add j 1) ?_
  refine l_sld hO (n := j + 1) (by omega) (by omega) rfl dL_law_524 ?_
  refine l_aload_n hO dL_law_525 0 rfl rfl ?_
  refine l_iload_n hO dL_law_526 3 rfl rfl ?_
  refine l_iconst hO dL_law_527 ic_i_2 ?_
  refine l_iadd hO dL_law_528 (v := nI (j + 2)) (nI_add j 2) ?_
  refine l_sld hO (n := j + 2) (by omega) (by omega) rfl dL_law_529 ?_
  refine l_callXI hO hX mdX11_alike mvX11_alike rfl w983 (As := [.int _, .int _]) (st := []) (ctX11_alike n0 hO.2.2.2.2.2.2.1 _ _ _) (Nat.le_of_ble_eq_true rfl) rfl rfl (Nat.le_of_ble_eq_true rfl) hcs hsl dL_law_530 ?_
  refine l_aload_n hO dL_law_533 2 rfl rfl ?_
  refine l_aload_n hO dL_law_534 0 rfl rfl ?_
  refine l_iload_n hO dL_law_535 3 rfl rfl ?_
  refine l_iconst hO dL_law_536 ic_i_1 ?_
  refine l_iadd hO dL_law_537 (v := nI (j + 1)) (nI_add j 1) ?_
  refine l_sld hO (n := j + 1) (by omega) (by omega) rfl dL_law_538 ?_
  refine l_aload_n hO dL_law_539 0 rfl rfl ?_
  refine l_iload_n hO dL_law_540 3 rfl rfl ?_
  refine l_iconst hO dL_law_541 ic_i_2 ?_
  refine l_iadd hO dL_law_542 (v := nI (j + 2)) (nI_add j 2) ?_
  refine l_sld hO (n := j + 2) (by omega) (by omega) rfl dL_law_543 ?_
  refine l_callYI hO hY mdX12_alike mvX12_alike rfl w1773 (As := [.int _, .int _]) (st := [.int _]) (ctX12_alike n0 hO.2.2.2.2.2.2.2.1 _ _ _) (Nat.le_of_ble_eq_true rfl) rfl rfl (Nat.le_of_ble_eq_true rfl) hcs hsl dL_law_544 ?_
  refine l_icmpeq (pc := 547) hO dL_law_547 (tgt := 1073) (by decide) hE ?_
  exact K
def stp12 (n0 : Nat) (a : Nat → Int32) (MX MY : Mem) : Option (Mem × Mem) := (fX11_plan n0 (a 1) (a 2) (a 3) MX).bind fun zx => (fX12_plan n0 (a 1) (a 2) (a 3) MY).bind fun zy => if zx.1 = zy.1 then some (zx.2, zy.2) else none
theorem cas12 (n0 : Nat) {j : Nat} (hO : OKl p s m meth c b L xs D cy ax ay) (hj : j + 6 ≤ L) (hL : L ≤ 3072) (hcs : cells ≤ 600000) (hsl : slots ≤ 7302250) {Z : Mem × Mem} (h : stp12 n0 (fun t => xs (j + t)) MX MY = some Z) (K : LB p l e s m below meth c b D cy ax ay cells slots 1073 [(0, .ref b), (1, .ref (ax 0)), (2, .ref (ay 0)), (3, .int (nI j))] [] Z.1 Z.2) : LB p l e s m below meth c b D cy ax ay cells slots 552 [(0, .ref b), (1, .ref (ax 0)), (2, .ref (ay 0)), (3, .int (nI j))] [] MX MY := by
  obtain ⟨zx, hX, h⟩ := Option.bind_eq_some_iff.mp h
  obtain ⟨zy, hY, h⟩ := Option.bind_eq_some_iff.mp h
  have hE : zx.1 = zy.1 := by
    by_cases q : zx.1 = zy.1
    · exact q
    · rw [if_neg q] at h; cases h
  rw [if_pos hE] at h
  cases h
  refine l_aload_n hO dL_law_552 1 rfl rfl ?_
  refine l_aload_n hO dL_law_553 0 rfl rfl ?_
  refine l_iload_n hO dL_law_554 3 rfl rfl ?_
  refine l_iconst hO dL_law_555 ic_i_1 ?_
  refine l_iadd hO dL_law_556 (v := nI (j + 1)) (nI_add j 1) ?_
  refine l_sld hO (n := j + 1) (by omega) (by omega) rfl dL_law_557 ?_
  refine l_aload_n hO dL_law_558 0 rfl rfl ?_
  refine l_iload_n hO dL_law_559 3 rfl rfl ?_
  refine l_iconst hO dL_law_560 ic_i_2 ?_
  refine l_iadd hO dL_law_561 (v := nI (j + 2)) (nI_add j 2) ?_
  refine l_sld hO (n := j + 2) (by omega) (by omega) rfl dL_law_562 ?_
  refine l_aload_n hO dL_law_563 0 rfl rfl ?_
  refine l_iload_n hO dL_law_564 3 rfl rfl ?_
  refine l_iconst hO dL_law_565 ic_i_3 ?_
  refine l_iadd hO dL_law_566 (v := nI (j + 3)) (nI_add j 3) ?_
  refine l_sld hO (n := j + 3) (by omega) (by omega) rfl dL_law_567 ?_
  refine l_callXI hO hX mdX11_plan mvX11_plan rfl w987 (As := [.int _, .int _, .int _]) (st := []) (ctX11_plan n0 hO.2.2.2.2.2.2.1 _ _ _ _) (Nat.le_of_ble_eq_true rfl) rfl rfl (Nat.le_of_ble_eq_true rfl) hcs hsl dL_law_568 ?_
  refine l_aload_n hO dL_law_571 2 rfl rfl ?_
  refine l_aload_n hO dL_law_572 0 rfl rfl ?_
  refine l_iload_n hO dL_law_573 3 rfl rfl ?_
  refine l_iconst hO dL_law_574 ic_i_1 ?_
  refine l_iadd hO dL_law_575 (v := nI (j + 1)) (nI_add j 1) ?_
  refine l_sld hO (n := j + 1) (by omega) (by omega) rfl dL_law_576 ?_
  refine l_aload_n hO dL_law_577 0 rfl rfl ?_
  refine l_iload_n hO dL_law_578 3 rfl rfl ?_
  refine l_iconst hO dL_law_579 ic_i_2 ?_
  refine l_iadd hO dL_law_580 (v := nI (j + 2)) (nI_add j 2) ?_
  refine l_sld hO (n := j + 2) (by omega) (by omega) rfl dL_law_581 ?_
  refine l_aload_n hO dL_law_582 0 rfl rfl ?_
  refine l_iload_n hO dL_law_583 3 rfl rfl ?_
  refine l_iconst hO dL_law_584 ic_i_3 ?_
  refine l_iadd hO dL_law_585 (v := nI (j + 3)) (nI_add j 3) ?_
  refine l_sld hO (n := j + 3) (by omega) (by omega) rfl dL_law_586 ?_
  refine l_callYI hO hY mdX12_plan mvX12_plan rfl w1777 (As := [.int _, .int _, .int _]) (st := [.int _]) (ctX12_plan n0 hO.2.2.2.2.2.2.2.1 _ _ _ _) (Nat.le_of_ble_eq_true rfl) rfl rfl (Nat.le_of_ble_eq_true rfl) hcs hsl dL_law_587 ?_
  refine l_icmpeq (pc := 590) hO dL_law_590 (tgt := 1073) (by decide) hE ?_
  exact K
def stp13 (n0 : Nat) (a : Nat → Int32) (MX MY : Mem) : Option (Mem × Mem) := (fX11_evening n0 (a 1) (a 2) MX).bind fun zx => (fX12_evening n0 (a 1) (a 2) MY).bind fun zy => if zx.1 = zy.1 then some (zx.2, zy.2) else none
theorem cas13 (n0 : Nat) {j : Nat} (hO : OKl p s m meth c b L xs D cy ax ay) (hj : j + 6 ≤ L) (hL : L ≤ 3072) (hcs : cells ≤ 600000) (hsl : slots ≤ 7302250) {Z : Mem × Mem} (h : stp13 n0 (fun t => xs (j + t)) MX MY = some Z) (K : LB p l e s m below meth c b D cy ax ay cells slots 1073 [(0, .ref b), (1, .ref (ax 0)), (2, .ref (ay 0)), (3, .int (nI j))] [] Z.1 Z.2) : LB p l e s m below meth c b D cy ax ay cells slots 595 [(0, .ref b), (1, .ref (ax 0)), (2, .ref (ay 0)), (3, .int (nI j))] [] MX MY := by
  obtain ⟨zx, hX, h⟩ := Option.bind_eq_some_iff.mp h
  obtain ⟨zy, hY, h⟩ := Option.bind_eq_some_iff.mp h
  have hE : zx.1 = zy.1 := by
    by_cases q : zx.1 = zy.1
    · exact q
    · rw [if_neg q] at h; cases h
  rw [if_pos hE] at h
  cases h
  refine l_aload_n hO dL_law_595 1 rfl rfl ?_
  refine l_aload_n hO dL_law_596 0 rfl rfl ?_
  refine l_iload_n hO dL_law_597 3 rfl rfl ?_
  refine l_iconst hO dL_law_598 ic_i_1 ?_
  refine l_iadd hO dL_law_599 (v := nI (j + 1)) (nI_add j 1) ?_
  refine l_sld hO (n := j + 1) (by omega) (by omega) rfl dL_law_600 ?_
  refine l_aload_n hO dL_law_601 0 rfl rfl ?_
  refine l_iload_n hO dL_law_602 3 rfl rfl ?_
  refine l_iconst hO dL_law_603 ic_i_2 ?_
  refine l_iadd hO dL_law_604 (v := nI (j + 2)) (nI_add j 2) ?_
  refine l_sld hO (n := j + 2) (by omega) (by omega) rfl dL_law_605 ?_
  refine l_callXI hO hX mdX11_evening mvX11_evening rfl w1023 (As := [.int _, .int _]) (st := []) (ctX11_evening n0 hO.2.2.2.2.2.2.1 _ _ _) (Nat.le_of_ble_eq_true rfl) rfl rfl (Nat.le_of_ble_eq_true rfl) hcs hsl dL_law_606 ?_
  refine l_aload_n hO dL_law_609 2 rfl rfl ?_
  refine l_aload_n hO dL_law_610 0 rfl rfl ?_
  refine l_iload_n hO dL_law_611 3 rfl rfl ?_
  refine l_iconst hO dL_law_612 ic_i_1 ?_
  refine l_iadd hO dL_law_613 (v := nI (j + 1)) (nI_add j 1) ?_
  refine l_sld hO (n := j + 1) (by omega) (by omega) rfl dL_law_614 ?_
  refine l_aload_n hO dL_law_615 0 rfl rfl ?_
  refine l_iload_n hO dL_law_616 3 rfl rfl ?_
  refine l_iconst hO dL_law_617 ic_i_2 ?_
  refine l_iadd hO dL_law_618 (v := nI (j + 2)) (nI_add j 2) ?_
  refine l_sld hO (n := j + 2) (by omega) (by omega) rfl dL_law_619 ?_
  refine l_callYI hO hY mdX12_evening mvX12_evening rfl w1785 (As := [.int _, .int _]) (st := [.int _]) (ctX12_evening n0 hO.2.2.2.2.2.2.2.1 _ _ _) (Nat.le_of_ble_eq_true rfl) rfl rfl (Nat.le_of_ble_eq_true rfl) hcs hsl dL_law_620 ?_
  refine l_icmpeq (pc := 623) hO dL_law_623 (tgt := 1073) (by decide) hE ?_
  exact K
def stp14 (n0 : Nat) (a : Nat → Int32) (MX MY : Mem) : Option (Mem × Mem) := (fX11_odds n0 (a 1) (a 2) (a 3) MX).bind fun zx => (fX12_odds n0 (a 1) (a 2) (a 3) MY).bind fun zy => if zx.1 = zy.1 then some (zx.2, zy.2) else none
theorem cas14 (n0 : Nat) {j : Nat} (hO : OKl p s m meth c b L xs D cy ax ay) (hj : j + 6 ≤ L) (hL : L ≤ 3072) (hcs : cells ≤ 600000) (hsl : slots ≤ 7302250) {Z : Mem × Mem} (h : stp14 n0 (fun t => xs (j + t)) MX MY = some Z) (K : LB p l e s m below meth c b D cy ax ay cells slots 1073 [(0, .ref b), (1, .ref (ax 0)), (2, .ref (ay 0)), (3, .int (nI j))] [] Z.1 Z.2) : LB p l e s m below meth c b D cy ax ay cells slots 628 [(0, .ref b), (1, .ref (ax 0)), (2, .ref (ay 0)), (3, .int (nI j))] [] MX MY := by
  obtain ⟨zx, hX, h⟩ := Option.bind_eq_some_iff.mp h
  obtain ⟨zy, hY, h⟩ := Option.bind_eq_some_iff.mp h
  have hE : zx.1 = zy.1 := by
    by_cases q : zx.1 = zy.1
    · exact q
    · rw [if_neg q] at h; cases h
  rw [if_pos hE] at h
  cases h
  refine l_aload_n hO dL_law_628 1 rfl rfl ?_
  refine l_aload_n hO dL_law_629 0 rfl rfl ?_
  refine l_iload_n hO dL_law_630 3 rfl rfl ?_
  refine l_iconst hO dL_law_631 ic_i_1 ?_
  refine l_iadd hO dL_law_632 (v := nI (j + 1)) (nI_add j 1) ?_
  refine l_sld hO (n := j + 1) (by omega) (by omega) rfl dL_law_633 ?_
  refine l_aload_n hO dL_law_634 0 rfl rfl ?_
  refine l_iload_n hO dL_law_635 3 rfl rfl ?_
  refine l_iconst hO dL_law_636 ic_i_2 ?_
  refine l_iadd hO dL_law_637 (v := nI (j + 2)) (nI_add j 2) ?_
  refine l_sld hO (n := j + 2) (by omega) (by omega) rfl dL_law_638 ?_
  refine l_aload_n hO dL_law_639 0 rfl rfl ?_
  refine l_iload_n hO dL_law_640 3 rfl rfl ?_
  refine l_iconst hO dL_law_641 ic_i_3 ?_
  refine l_iadd hO dL_law_642 (v := nI (j + 3)) (nI_add j 3) ?_
  refine l_sld hO (n := j + 3) (by omega) (by omega) rfl dL_law_643 ?_
  refine l_callXL hO hX mdX11_odds mvX11_odds rfl w1031 (As := [.int _, .int _, .int _]) (st := []) (ctX11_odds n0 hO.2.2.2.2.2.2.1 _ _ _ _) (Nat.le_of_ble_eq_true rfl) rfl rfl (Nat.le_of_ble_eq_true rfl) hcs hsl dL_law_644 ?_
  refine l_aload_n hO dL_law_647 2 rfl rfl ?_
  refine l_aload_n hO dL_law_648 0 rfl rfl ?_
  refine l_iload_n hO dL_law_649 3 rfl rfl ?_
  refine l_iconst hO dL_law_650 ic_i_1 ?_
  refine l_iadd hO dL_law_651 (v := nI (j + 1)) (nI_add j 1) ?_
  refine l_sld hO (n := j + 1) (by omega) (by omega) rfl dL_law_652 ?_
  refine l_aload_n hO dL_law_653 0 rfl rfl ?_
  refine l_iload_n hO dL_law_654 3 rfl rfl ?_
  refine l_iconst hO dL_law_655 ic_i_2 ?_
  refine l_iadd hO dL_law_656 (v := nI (j + 2)) (nI_add j 2) ?_
  refine l_sld hO (n := j + 2) (by omega) (by omega) rfl dL_law_657 ?_
  refine l_aload_n hO dL_law_658 0 rfl rfl ?_
  refine l_iload_n hO dL_law_659 3 rfl rfl ?_
  refine l_iconst hO dL_law_660 ic_i_3 ?_
  refine l_iadd hO dL_law_661 (v := nI (j + 3)) (nI_add j 3) ?_
  refine l_sld hO (n := j + 3) (by omega) (by omega) rfl dL_law_662 ?_
  refine l_callYL hO hY mdX12_odds mvX12_odds rfl w1789 (As := [.int _, .int _, .int _]) (st := [.long _]) (ctX12_odds n0 hO.2.2.2.2.2.2.2.1 _ _ _ _) (Nat.le_of_ble_eq_true rfl) rfl rfl (Nat.le_of_ble_eq_true rfl) hcs hsl dL_law_663 ?_
  refine l_lcmpeq (pc := 666) hO dL_law_666 dL_law_667 (tgt := 1073) (by decide) hE ?_
  exact K
def stp15 (n0 : Nat) (a : Nat → Int32) (MX MY : Mem) : Option (Mem × Mem) := (fX11_way n0 (a 1) (a 2) MX).bind fun zx => (fX12_way n0 (a 1) (a 2) MY).bind fun zy => if zx.1 = zy.1 then some (zx.2, zy.2) else none
theorem cas15 (n0 : Nat) {j : Nat} (hO : OKl p s m meth c b L xs D cy ax ay) (hj : j + 6 ≤ L) (hL : L ≤ 3072) (hcs : cells ≤ 600000) (hsl : slots ≤ 7302250) {Z : Mem × Mem} (h : stp15 n0 (fun t => xs (j + t)) MX MY = some Z) (K : LB p l e s m below meth c b D cy ax ay cells slots 1073 [(0, .ref b), (1, .ref (ax 0)), (2, .ref (ay 0)), (3, .int (nI j))] [] Z.1 Z.2) : LB p l e s m below meth c b D cy ax ay cells slots 672 [(0, .ref b), (1, .ref (ax 0)), (2, .ref (ay 0)), (3, .int (nI j))] [] MX MY := by
  obtain ⟨zx, hX, h⟩ := Option.bind_eq_some_iff.mp h
  obtain ⟨zy, hY, h⟩ := Option.bind_eq_some_iff.mp h
  have hE : zx.1 = zy.1 := by
    by_cases q : zx.1 = zy.1
    · exact q
    · rw [if_neg q] at h; cases h
  rw [if_pos hE] at h
  cases h
  refine l_aload_n hO dL_law_672 1 rfl rfl ?_
  refine l_aload_n hO dL_law_673 0 rfl rfl ?_
  refine l_iload_n hO dL_law_674 3 rfl rfl ?_
  refine l_iconst hO dL_law_675 ic_i_1 ?_
  refine l_iadd hO dL_law_676 (v := nI (j + 1)) (nI_add j 1) ?_
  refine l_sld hO (n := j + 1) (by omega) (by omega) rfl dL_law_677 ?_
  refine l_aload_n hO dL_law_678 0 rfl rfl ?_
  refine l_iload_n hO dL_law_679 3 rfl rfl ?_
  refine l_iconst hO dL_law_680 ic_i_2 ?_
  refine l_iadd hO dL_law_681 (v := nI (j + 2)) (nI_add j 2) ?_
  refine l_sld hO (n := j + 2) (by omega) (by omega) rfl dL_law_682 ?_
  refine l_callXI hO hX mdX11_way mvX11_way rfl w1050 (As := [.int _, .int _]) (st := []) (ctX11_way n0 hO.2.2.2.2.2.2.1 _ _ _) (Nat.le_of_ble_eq_true rfl) rfl rfl (Nat.le_of_ble_eq_true rfl) hcs hsl dL_law_683 ?_
  refine l_aload_n hO dL_law_686 2 rfl rfl ?_
  refine l_aload_n hO dL_law_687 0 rfl rfl ?_
  refine l_iload_n hO dL_law_688 3 rfl rfl ?_
  refine l_iconst hO dL_law_689 ic_i_1 ?_
  refine l_iadd hO dL_law_690 (v := nI (j + 1)) (nI_add j 1) ?_
  refine l_sld hO (n := j + 1) (by omega) (by omega) rfl dL_law_691 ?_
  refine l_aload_n hO dL_law_692 0 rfl rfl ?_
  refine l_iload_n hO dL_law_693 3 rfl rfl ?_
  refine l_iconst hO dL_law_694 ic_i_2 ?_
  refine l_iadd hO dL_law_695 (v := nI (j + 2)) (nI_add j 2) ?_
  refine l_sld hO (n := j + 2) (by omega) (by omega) rfl dL_law_696 ?_
  refine l_callYI hO hY mdX12_way mvX12_way rfl w1794 (As := [.int _, .int _]) (st := [.int _]) (ctX12_way n0 hO.2.2.2.2.2.2.2.1 _ _ _) (Nat.le_of_ble_eq_true rfl) rfl rfl (Nat.le_of_ble_eq_true rfl) hcs hsl dL_law_697 ?_
  refine l_icmpeq (pc := 700) hO dL_law_700 (tgt := 1073) (by decide) hE ?_
  exact K
def stp16 (n0 : Nat) (a : Nat → Int32) (MX MY : Mem) : Option (Mem × Mem) := (fX11_arrive n0 (a 1) (a 2) MX).bind fun zx => (fX12_arrive n0 (a 1) (a 2) MY).bind fun zy => if zx.1 = zy.1 then some (zx.2, zy.2) else none
theorem cas16 (n0 : Nat) {j : Nat} (hO : OKl p s m meth c b L xs D cy ax ay) (hj : j + 6 ≤ L) (hL : L ≤ 3072) (hcs : cells ≤ 600000) (hsl : slots ≤ 7302250) {Z : Mem × Mem} (h : stp16 n0 (fun t => xs (j + t)) MX MY = some Z) (K : LB p l e s m below meth c b D cy ax ay cells slots 1073 [(0, .ref b), (1, .ref (ax 0)), (2, .ref (ay 0)), (3, .int (nI j))] [] Z.1 Z.2) : LB p l e s m below meth c b D cy ax ay cells slots 705 [(0, .ref b), (1, .ref (ax 0)), (2, .ref (ay 0)), (3, .int (nI j))] [] MX MY := by
  obtain ⟨zx, hX, h⟩ := Option.bind_eq_some_iff.mp h
  obtain ⟨zy, hY, h⟩ := Option.bind_eq_some_iff.mp h
  have hE : zx.1 = zy.1 := by
    by_cases q : zx.1 = zy.1
    · exact q
    · rw [if_neg q] at h; cases h
  rw [if_pos hE] at h
  cases h
  refine l_aload_n hO dL_law_705 1 rfl rfl ?_
  refine l_aload_n hO dL_law_706 0 rfl rfl ?_
  refine l_iload_n hO dL_law_707 3 rfl rfl ?_
  refine l_iconst hO dL_law_708 ic_i_1 ?_
  refine l_iadd hO dL_law_709 (v := nI (j + 1)) (nI_add j 1) ?_
  refine l_sld hO (n := j + 1) (by omega) (by omega) rfl dL_law_710 ?_
  refine l_aload_n hO dL_law_711 0 rfl rfl ?_
  refine l_iload_n hO dL_law_712 3 rfl rfl ?_
  refine l_iconst hO dL_law_713 ic_i_2 ?_
  refine l_iadd hO dL_law_714 (v := nI (j + 2)) (nI_add j 2) ?_
  refine l_sld hO (n := j + 2) (by omega) (by omega) rfl dL_law_715 ?_
  refine l_callXI hO hX mdX11_arrive mvX11_arrive rfl w1065 (As := [.int _, .int _]) (st := []) (ctX11_arrive n0 hO.2.2.2.2.2.2.1 _ _ _) (Nat.le_of_ble_eq_true rfl) rfl rfl (Nat.le_of_ble_eq_true rfl) hcs hsl dL_law_716 ?_
  refine l_aload_n hO dL_law_719 2 rfl rfl ?_
  refine l_aload_n hO dL_law_720 0 rfl rfl ?_
  refine l_iload_n hO dL_law_721 3 rfl rfl ?_
  refine l_iconst hO dL_law_722 ic_i_1 ?_
  refine l_iadd hO dL_law_723 (v := nI (j + 1)) (nI_add j 1) ?_
  refine l_sld hO (n := j + 1) (by omega) (by omega) rfl dL_law_724 ?_
  refine l_aload_n hO dL_law_725 0 rfl rfl ?_
  refine l_iload_n hO dL_law_726 3 rfl rfl ?_
  refine l_iconst hO dL_law_727 ic_i_2 ?_
  refine l_iadd hO dL_law_728 (v := nI (j + 2)) (nI_add j 2) ?_
  refine l_sld hO (n := j + 2) (by omega) (by omega) rfl dL_law_729 ?_
  refine l_callYI hO hY mdX12_arrive mvX12_arrive rfl w1798 (As := [.int _, .int _]) (st := [.int _]) (ctX12_arrive n0 hO.2.2.2.2.2.2.2.1 _ _ _) (Nat.le_of_ble_eq_true rfl) rfl rfl (Nat.le_of_ble_eq_true rfl) hcs hsl dL_law_730 ?_
  refine l_icmpeq (pc := 733) hO dL_law_733 (tgt := 1073) (by decide) hE ?_
  exact K
def stp17 (n0 : Nat) (a : Nat → Int32) (MX MY : Mem) : Option (Mem × Mem) := (fX11_early n0 (a 1) MX).bind fun zx => (fX12_early n0 (a 1) MY).bind fun zy => if zx.1 = zy.1 then some (zx.2, zy.2) else none
theorem cas17 (n0 : Nat) {j : Nat} (hO : OKl p s m meth c b L xs D cy ax ay) (hj : j + 6 ≤ L) (hL : L ≤ 3072) (hcs : cells ≤ 600000) (hsl : slots ≤ 7302250) {Z : Mem × Mem} (h : stp17 n0 (fun t => xs (j + t)) MX MY = some Z) (K : LB p l e s m below meth c b D cy ax ay cells slots 1073 [(0, .ref b), (1, .ref (ax 0)), (2, .ref (ay 0)), (3, .int (nI j))] [] Z.1 Z.2) : LB p l e s m below meth c b D cy ax ay cells slots 738 [(0, .ref b), (1, .ref (ax 0)), (2, .ref (ay 0)), (3, .int (nI j))] [] MX MY := by
  obtain ⟨zx, hX, h⟩ := Option.bind_eq_some_iff.mp h
  obtain ⟨zy, hY, h⟩ := Option.bind_eq_some_iff.mp h
  have hE : zx.1 = zy.1 := by
    by_cases q : zx.1 = zy.1
    · exact q
    · rw [if_neg q] at h; cases h
  rw [if_pos hE] at h
  cases h
  refine l_aload_n hO dL_law_738 1 rfl rfl ?_
  refine l_aload_n hO dL_law_739 0 rfl rfl ?_
  refine l_iload_n hO dL_law_740 3 rfl rfl ?_
  refine l_iconst hO dL_law_741 ic_i_1 ?_
  refine l_iadd hO dL_law_742 (v := nI (j + 1)) (nI_add j 1) ?_
  refine l_sld hO (n := j + 1) (by omega) (by omega) rfl dL_law_743 ?_
  refine l_callXI hO hX mdX11_early mvX11_early rfl w1069 (As := [.int _]) (st := []) (ctX11_early n0 hO.2.2.2.2.2.2.1 _ _) (Nat.le_of_ble_eq_true rfl) rfl rfl (Nat.le_of_ble_eq_true rfl) hcs hsl dL_law_744 ?_
  refine l_aload_n hO dL_law_747 2 rfl rfl ?_
  refine l_aload_n hO dL_law_748 0 rfl rfl ?_
  refine l_iload_n hO dL_law_749 3 rfl rfl ?_
  refine l_iconst hO dL_law_750 ic_i_1 ?_
  refine l_iadd hO dL_law_751 (v := nI (j + 1)) (nI_add j 1) ?_
  refine l_sld hO (n := j + 1) (by omega) (by omega) rfl dL_law_752 ?_
  refine l_callYI hO hY mdX12_early mvX12_early rfl w1804 (As := [.int _]) (st := [.int _]) (ctX12_early n0 hO.2.2.2.2.2.2.2.1 _ _) (Nat.le_of_ble_eq_true rfl) rfl rfl (Nat.le_of_ble_eq_true rfl) hcs hsl dL_law_753 ?_
  refine l_icmpeq (pc := 756) hO dL_law_756 (tgt := 1073) (by decide) hE ?_
  exact K
def stp18 (n0 : Nat) (a : Nat → Int32) (MX MY : Mem) : Option (Mem × Mem) := (fX11_see n0 MX).bind fun zx => (fX12_see n0 MY).bind fun zy => if zx.1 = zy.1 then some (zx.2, zy.2) else none
theorem cas18 (n0 : Nat) {j : Nat} (hO : OKl p s m meth c b L xs D cy ax ay) (hj : j + 6 ≤ L) (hL : L ≤ 3072) (hcs : cells ≤ 600000) (hsl : slots ≤ 7302250) {Z : Mem × Mem} (h : stp18 n0 (fun t => xs (j + t)) MX MY = some Z) (K : LB p l e s m below meth c b D cy ax ay cells slots 1073 [(0, .ref b), (1, .ref (ax 0)), (2, .ref (ay 0)), (3, .int (nI j))] [] Z.1 Z.2) : LB p l e s m below meth c b D cy ax ay cells slots 761 [(0, .ref b), (1, .ref (ax 0)), (2, .ref (ay 0)), (3, .int (nI j))] [] MX MY := by
  obtain ⟨zx, hX, h⟩ := Option.bind_eq_some_iff.mp h
  obtain ⟨zy, hY, h⟩ := Option.bind_eq_some_iff.mp h
  have hE : zx.1 = zy.1 := by
    by_cases q : zx.1 = zy.1
    · exact q
    · rw [if_neg q] at h; cases h
  rw [if_pos hE] at h
  cases h
  refine l_aload_n hO dL_law_761 1 rfl rfl ?_
  refine l_callXI hO hX mdX11_see mvX11_see rfl w1084 (As := []) (st := []) (ctX11_see n0 hO.2.2.2.2.2.2.1 _) (Nat.le_of_ble_eq_true rfl) rfl rfl (Nat.le_of_ble_eq_true rfl) hcs hsl dL_law_762 ?_
  refine l_aload_n hO dL_law_765 2 rfl rfl ?_
  refine l_callYI hO hY mdX12_see mvX12_see rfl w1808 (As := []) (st := [.int _]) (ctX12_see n0 hO.2.2.2.2.2.2.2.1 _) (Nat.le_of_ble_eq_true rfl) rfl rfl (Nat.le_of_ble_eq_true rfl) hcs hsl dL_law_766 ?_
  refine l_icmpeq (pc := 769) hO dL_law_769 (tgt := 1073) (by decide) hE ?_
  exact K
def stp19 (n0 : Nat) (a : Nat → Int32) (MX MY : Mem) : Option (Mem × Mem) := (fX11_held n0 (a 1) MX).bind fun zx => (fX12_held n0 (a 1) MY).bind fun zy => if zx.1 = zy.1 then some (zx.2, zy.2) else none
theorem cas19 (n0 : Nat) {j : Nat} (hO : OKl p s m meth c b L xs D cy ax ay) (hj : j + 6 ≤ L) (hL : L ≤ 3072) (hcs : cells ≤ 600000) (hsl : slots ≤ 7302250) {Z : Mem × Mem} (h : stp19 n0 (fun t => xs (j + t)) MX MY = some Z) (K : LB p l e s m below meth c b D cy ax ay cells slots 1073 [(0, .ref b), (1, .ref (ax 0)), (2, .ref (ay 0)), (3, .int (nI j))] [] Z.1 Z.2) : LB p l e s m below meth c b D cy ax ay cells slots 774 [(0, .ref b), (1, .ref (ax 0)), (2, .ref (ay 0)), (3, .int (nI j))] [] MX MY := by
  obtain ⟨zx, hX, h⟩ := Option.bind_eq_some_iff.mp h
  obtain ⟨zy, hY, h⟩ := Option.bind_eq_some_iff.mp h
  have hE : zx.1 = zy.1 := by
    by_cases q : zx.1 = zy.1
    · exact q
    · rw [if_neg q] at h; cases h
  rw [if_pos hE] at h
  cases h
  refine l_aload_n hO dL_law_774 1 rfl rfl ?_
  refine l_aload_n hO dL_law_775 0 rfl rfl ?_
  refine l_iload_n hO dL_law_776 3 rfl rfl ?_
  refine l_iconst hO dL_law_777 ic_i_1 ?_
  refine l_iadd hO dL_law_778 (v := nI (j + 1)) (nI_add j 1) ?_
  refine l_sld hO (n := j + 1) (by omega) (by omega) rfl dL_law_779 ?_
  refine l_callXI hO hX mdX11_held mvX11_held rfl w1094 (As := [.int _]) (st := []) (ctX11_held n0 hO.2.2.2.2.2.2.1 _ _) (Nat.le_of_ble_eq_true rfl) rfl rfl (Nat.le_of_ble_eq_true rfl) hcs hsl dL_law_780 ?_
  refine l_aload_n hO dL_law_783 2 rfl rfl ?_
  refine l_aload_n hO dL_law_784 0 rfl rfl ?_
  refine l_iload_n hO dL_law_785 3 rfl rfl ?_
  refine l_iconst hO dL_law_786 ic_i_1 ?_
  refine l_iadd hO dL_law_787 (v := nI (j + 1)) (nI_add j 1) ?_
  refine l_sld hO (n := j + 1) (by omega) (by omega) rfl dL_law_788 ?_
  refine l_callYI hO hY mdX12_held mvX12_held rfl w1812 (As := [.int _]) (st := [.int _]) (ctX12_held n0 hO.2.2.2.2.2.2.2.1 _ _) (Nat.le_of_ble_eq_true rfl) rfl rfl (Nat.le_of_ble_eq_true rfl) hcs hsl dL_law_789 ?_
  refine l_icmpeq (pc := 792) hO dL_law_792 (tgt := 1073) (by decide) hE ?_
  exact K
def stp20 (n0 : Nat) (a : Nat → Int32) (MX MY : Mem) : Option (Mem × Mem) := (fX11_tells n0 (a 1) (a 2) MX).bind fun zx => (fX12_tells n0 (a 1) (a 2) MY).bind fun zy => if zx.1 = zy.1 then some (zx.2, zy.2) else none
theorem cas20 (n0 : Nat) {j : Nat} (hO : OKl p s m meth c b L xs D cy ax ay) (hj : j + 6 ≤ L) (hL : L ≤ 3072) (hcs : cells ≤ 600000) (hsl : slots ≤ 7302250) {Z : Mem × Mem} (h : stp20 n0 (fun t => xs (j + t)) MX MY = some Z) (K : LB p l e s m below meth c b D cy ax ay cells slots 1073 [(0, .ref b), (1, .ref (ax 0)), (2, .ref (ay 0)), (3, .int (nI j))] [] Z.1 Z.2) : LB p l e s m below meth c b D cy ax ay cells slots 797 [(0, .ref b), (1, .ref (ax 0)), (2, .ref (ay 0)), (3, .int (nI j))] [] MX MY := by
  obtain ⟨zx, hX, h⟩ := Option.bind_eq_some_iff.mp h
  obtain ⟨zy, hY, h⟩ := Option.bind_eq_some_iff.mp h
  have hE : zx.1 = zy.1 := by
    by_cases q : zx.1 = zy.1
    · exact q
    · rw [if_neg q] at h; cases h
  rw [if_pos hE] at h
  cases h
  refine l_aload_n hO dL_law_797 1 rfl rfl ?_
  refine l_aload_n hO dL_law_798 0 rfl rfl ?_
  refine l_iload_n hO dL_law_799 3 rfl rfl ?_
  refine l_iconst hO dL_law_800 ic_i_1 ?_
  refine l_iadd hO dL_law_801 (v := nI (j + 1)) (nI_add j 1) ?_
  refine l_sld hO (n := j + 1) (by omega) (by omega) rfl dL_law_802 ?_
  refine l_aload_n hO dL_law_803 0 rfl rfl ?_
  refine l_iload_n hO dL_law_804 3 rfl rfl ?_
  refine l_iconst hO dL_law_805 ic_i_2 ?_
  refine l_iadd hO dL_law_806 (v := nI (j + 2)) (nI_add j 2) ?_
  refine l_sld hO (n := j + 2) (by omega) (by omega) rfl dL_law_807 ?_
  refine l_callXI hO hX mdX11_tells mvX11_tells rfl w1114 (As := [.int _, .int _]) (st := []) (ctX11_tells n0 hO.2.2.2.2.2.2.1 _ _ _) (Nat.le_of_ble_eq_true rfl) rfl rfl (Nat.le_of_ble_eq_true rfl) hcs hsl dL_law_808 ?_
  refine l_aload_n hO dL_law_811 2 rfl rfl ?_
  refine l_aload_n hO dL_law_812 0 rfl rfl ?_
  refine l_iload_n hO dL_law_813 3 rfl rfl ?_
  refine l_iconst hO dL_law_814 ic_i_1 ?_
  refine l_iadd hO dL_law_815 (v := nI (j + 1)) (nI_add j 1) ?_
  refine l_sld hO (n := j + 1) (by omega) (by omega) rfl dL_law_816 ?_
  refine l_aload_n hO dL_law_817 0 rfl rfl ?_
  refine l_iload_n hO dL_law_818 3 rfl rfl ?_
  refine l_iconst hO dL_law_819 ic_i_2 ?_
  refine l_iadd hO dL_law_820 (v := nI (j + 2)) (nI_add j 2) ?_
  refine l_sld hO (n := j + 2) (by omega) (by omega) rfl dL_law_821 ?_
  refine l_callYI hO hY mdX12_tells mvX12_tells rfl w1820 (As := [.int _, .int _]) (st := [.int _]) (ctX12_tells n0 hO.2.2.2.2.2.2.2.1 _ _ _) (Nat.le_of_ble_eq_true rfl) rfl rfl (Nat.le_of_ble_eq_true rfl) hcs hsl dL_law_822 ?_
  refine l_icmpeq (pc := 825) hO dL_law_825 (tgt := 1073) (by decide) hE ?_
  exact K
def stp21 (n0 : Nat) (a : Nat → Int32) (MX MY : Mem) : Option (Mem × Mem) := (fX11_minutes n0 (a 1) MX).bind fun zx => (fX12_minutes n0 (a 1) MY).bind fun zy => if zx.1 = zy.1 then some (zx.2, zy.2) else none
theorem cas21 (n0 : Nat) {j : Nat} (hO : OKl p s m meth c b L xs D cy ax ay) (hj : j + 6 ≤ L) (hL : L ≤ 3072) (hcs : cells ≤ 600000) (hsl : slots ≤ 7302250) {Z : Mem × Mem} (h : stp21 n0 (fun t => xs (j + t)) MX MY = some Z) (K : LB p l e s m below meth c b D cy ax ay cells slots 1073 [(0, .ref b), (1, .ref (ax 0)), (2, .ref (ay 0)), (3, .int (nI j))] [] Z.1 Z.2) : LB p l e s m below meth c b D cy ax ay cells slots 830 [(0, .ref b), (1, .ref (ax 0)), (2, .ref (ay 0)), (3, .int (nI j))] [] MX MY := by
  obtain ⟨zx, hX, h⟩ := Option.bind_eq_some_iff.mp h
  obtain ⟨zy, hY, h⟩ := Option.bind_eq_some_iff.mp h
  have hE : zx.1 = zy.1 := by
    by_cases q : zx.1 = zy.1
    · exact q
    · rw [if_neg q] at h; cases h
  rw [if_pos hE] at h
  cases h
  refine l_aload_n hO dL_law_830 1 rfl rfl ?_
  refine l_aload_n hO dL_law_831 0 rfl rfl ?_
  refine l_iload_n hO dL_law_832 3 rfl rfl ?_
  refine l_iconst hO dL_law_833 ic_i_1 ?_
  refine l_iadd hO dL_law_834 (v := nI (j + 1)) (nI_add j 1) ?_
  refine l_sld hO (n := j + 1) (by omega) (by omega) rfl dL_law_835 ?_
  refine l_callXI hO hX mdX11_minutes mvX11_minutes rfl w1124 (As := [.int _]) (st := []) (ctX11_minutes n0 hO.2.2.2.2.2.2.1 _ _) (Nat.le_of_ble_eq_true rfl) rfl rfl (Nat.le_of_ble_eq_true rfl) hcs hsl dL_law_836 ?_
  refine l_aload_n hO dL_law_839 2 rfl rfl ?_
  refine l_aload_n hO dL_law_840 0 rfl rfl ?_
  refine l_iload_n hO dL_law_841 3 rfl rfl ?_
  refine l_iconst hO dL_law_842 ic_i_1 ?_
  refine l_iadd hO dL_law_843 (v := nI (j + 1)) (nI_add j 1) ?_
  refine l_sld hO (n := j + 1) (by omega) (by omega) rfl dL_law_844 ?_
  refine l_callYI hO hY mdX12_minutes mvX12_minutes rfl w1824 (As := [.int _]) (st := [.int _]) (ctX12_minutes n0 hO.2.2.2.2.2.2.2.1 _ _) (Nat.le_of_ble_eq_true rfl) rfl rfl (Nat.le_of_ble_eq_true rfl) hcs hsl dL_law_845 ?_
  refine l_icmpeq (pc := 848) hO dL_law_848 (tgt := 1073) (by decide) hE ?_
  exact K
def stp22 (n0 : Nat) (a : Nat → Int32) (MX MY : Mem) : Option (Mem × Mem) := (fX11_chance n0 (a 1) MX).bind fun zx => (fX12_chance n0 (a 1) MY).bind fun zy => if zx.1 = zy.1 then some (zx.2, zy.2) else none
theorem cas22 (n0 : Nat) {j : Nat} (hO : OKl p s m meth c b L xs D cy ax ay) (hj : j + 6 ≤ L) (hL : L ≤ 3072) (hcs : cells ≤ 600000) (hsl : slots ≤ 7302250) {Z : Mem × Mem} (h : stp22 n0 (fun t => xs (j + t)) MX MY = some Z) (K : LB p l e s m below meth c b D cy ax ay cells slots 1073 [(0, .ref b), (1, .ref (ax 0)), (2, .ref (ay 0)), (3, .int (nI j))] [] Z.1 Z.2) : LB p l e s m below meth c b D cy ax ay cells slots 853 [(0, .ref b), (1, .ref (ax 0)), (2, .ref (ay 0)), (3, .int (nI j))] [] MX MY := by
  obtain ⟨zx, hX, h⟩ := Option.bind_eq_some_iff.mp h
  obtain ⟨zy, hY, h⟩ := Option.bind_eq_some_iff.mp h
  have hE : zx.1 = zy.1 := by
    by_cases q : zx.1 = zy.1
    · exact q
    · rw [if_neg q] at h; cases h
  rw [if_pos hE] at h
  cases h
  refine l_aload_n hO dL_law_853 1 rfl rfl ?_
  refine l_aload_n hO dL_law_854 0 rfl rfl ?_
  refine l_iload_n hO dL_law_855 3 rfl rfl ?_
  refine l_iconst hO dL_law_856 ic_i_1 ?_
  refine l_iadd hO dL_law_857 (v := nI (j + 1)) (nI_add j 1) ?_
  refine l_sld hO (n := j + 1) (by omega) (by omega) rfl dL_law_858 ?_
  refine l_callXI hO hX mdX11_chance mvX11_chance rfl w1146 (As := [.int _]) (st := []) (ctX11_chance n0 hO.2.2.2.2.2.2.1 _ _) (Nat.le_of_ble_eq_true rfl) rfl rfl (Nat.le_of_ble_eq_true rfl) hcs hsl dL_law_859 ?_
  refine l_aload_n hO dL_law_862 2 rfl rfl ?_
  refine l_aload_n hO dL_law_863 0 rfl rfl ?_
  refine l_iload_n hO dL_law_864 3 rfl rfl ?_
  refine l_iconst hO dL_law_865 ic_i_1 ?_
  refine l_iadd hO dL_law_866 (v := nI (j + 1)) (nI_add j 1) ?_
  refine l_sld hO (n := j + 1) (by omega) (by omega) rfl dL_law_867 ?_
  refine l_callYI hO hY mdX12_chance mvX12_chance rfl w1832 (As := [.int _]) (st := [.int _]) (ctX12_chance n0 hO.2.2.2.2.2.2.2.1 _ _) (Nat.le_of_ble_eq_true rfl) rfl rfl (Nat.le_of_ble_eq_true rfl) hcs hsl dL_law_868 ?_
  refine l_icmpeq (pc := 871) hO dL_law_871 (tgt := 1073) (by decide) hE ?_
  exact K
def stp23 (n0 : Nat) (a : Nat → Int32) (MX MY : Mem) : Option (Mem × Mem) := (fX11_give n0 (a 1) (a 2) MX).bind fun zx => (fX12_give n0 (a 1) (a 2) MY).bind fun zy => if zx.1 = zy.1 then some (zx.2, zy.2) else none
theorem cas23 (n0 : Nat) {j : Nat} (hO : OKl p s m meth c b L xs D cy ax ay) (hj : j + 6 ≤ L) (hL : L ≤ 3072) (hcs : cells ≤ 600000) (hsl : slots ≤ 7302250) {Z : Mem × Mem} (h : stp23 n0 (fun t => xs (j + t)) MX MY = some Z) (K : LB p l e s m below meth c b D cy ax ay cells slots 1073 [(0, .ref b), (1, .ref (ax 0)), (2, .ref (ay 0)), (3, .int (nI j))] [] Z.1 Z.2) : LB p l e s m below meth c b D cy ax ay cells slots 876 [(0, .ref b), (1, .ref (ax 0)), (2, .ref (ay 0)), (3, .int (nI j))] [] MX MY := by
  obtain ⟨zx, hX, h⟩ := Option.bind_eq_some_iff.mp h
  obtain ⟨zy, hY, h⟩ := Option.bind_eq_some_iff.mp h
  have hE : zx.1 = zy.1 := by
    by_cases q : zx.1 = zy.1
    · exact q
    · rw [if_neg q] at h; cases h
  rw [if_pos hE] at h
  cases h
  refine l_aload_n hO dL_law_876 1 rfl rfl ?_
  refine l_aload_n hO dL_law_877 0 rfl rfl ?_
  refine l_iload_n hO dL_law_878 3 rfl rfl ?_
  refine l_iconst hO dL_law_879 ic_i_1 ?_
  refine l_iadd hO dL_law_880 (v := nI (j + 1)) (nI_add j 1) ?_
  refine l_sld hO (n := j + 1) (by omega) (by omega) rfl dL_law_881 ?_
  refine l_aload_n hO dL_law_882 0 rfl rfl ?_
  refine l_iload_n hO dL_law_883 3 rfl rfl ?_
  refine l_iconst hO dL_law_884 ic_i_2 ?_
  refine l_iadd hO dL_law_885 (v := nI (j + 2)) (nI_add j 2) ?_
  refine l_sld hO (n := j + 2) (by omega) (by omega) rfl dL_law_886 ?_
  refine l_callXI hO hX mdX11_give mvX11_give rfl w1162 (As := [.int _, .int _]) (st := []) (ctX11_give n0 hO.2.2.2.2.2.2.1 _ _ _) (Nat.le_of_ble_eq_true rfl) rfl rfl (Nat.le_of_ble_eq_true rfl) hcs hsl dL_law_887 ?_
  refine l_aload_n hO dL_law_890 2 rfl rfl ?_
  refine l_aload_n hO dL_law_891 0 rfl rfl ?_
  refine l_iload_n hO dL_law_892 3 rfl rfl ?_
  refine l_iconst hO dL_law_893 ic_i_1 ?_
  refine l_iadd hO dL_law_894 (v := nI (j + 1)) (nI_add j 1) ?_
  refine l_sld hO (n := j + 1) (by omega) (by omega) rfl dL_law_895 ?_
  refine l_aload_n hO dL_law_896 0 rfl rfl ?_
  refine l_iload_n hO dL_law_897 3 rfl rfl ?_
  refine l_iconst hO dL_law_898 ic_i_2 ?_
  refine l_iadd hO dL_law_899 (v := nI (j + 2)) (nI_add j 2) ?_
  refine l_sld hO (n := j + 2) (by omega) (by omega) rfl dL_law_900 ?_
  refine l_callYI hO hY mdX12_give mvX12_give rfl w1844 (As := [.int _, .int _]) (st := [.int _]) (ctX12_give n0 hO.2.2.2.2.2.2.2.1 _ _ _) (Nat.le_of_ble_eq_true rfl) rfl rfl (Nat.le_of_ble_eq_true rfl) hcs hsl dL_law_901 ?_
  refine l_icmpeq (pc := 904) hO dL_law_904 (tgt := 1073) (by decide) hE ?_
  exact K
def stp24 (n0 : Nat) (a : Nat → Int32) (MX MY : Mem) : Option (Mem × Mem) := (fX11_take n0 (a 1) MX).bind fun zx => (fX12_take n0 (a 1) MY).bind fun zy => if zx.1 = zy.1 then some (zx.2, zy.2) else none
theorem cas24 (n0 : Nat) {j : Nat} (hO : OKl p s m meth c b L xs D cy ax ay) (hj : j + 6 ≤ L) (hL : L ≤ 3072) (hcs : cells ≤ 600000) (hsl : slots ≤ 7302250) {Z : Mem × Mem} (h : stp24 n0 (fun t => xs (j + t)) MX MY = some Z) (K : LB p l e s m below meth c b D cy ax ay cells slots 1073 [(0, .ref b), (1, .ref (ax 0)), (2, .ref (ay 0)), (3, .int (nI j))] [] Z.1 Z.2) : LB p l e s m below meth c b D cy ax ay cells slots 909 [(0, .ref b), (1, .ref (ax 0)), (2, .ref (ay 0)), (3, .int (nI j))] [] MX MY := by
  obtain ⟨zx, hX, h⟩ := Option.bind_eq_some_iff.mp h
  obtain ⟨zy, hY, h⟩ := Option.bind_eq_some_iff.mp h
  have hE : zx.1 = zy.1 := by
    by_cases q : zx.1 = zy.1
    · exact q
    · rw [if_neg q] at h; cases h
  rw [if_pos hE] at h
  cases h
  refine l_aload_n hO dL_law_909 1 rfl rfl ?_
  refine l_aload_n hO dL_law_910 0 rfl rfl ?_
  refine l_iload_n hO dL_law_911 3 rfl rfl ?_
  refine l_iconst hO dL_law_912 ic_i_1 ?_
  refine l_iadd hO dL_law_913 (v := nI (j + 1)) (nI_add j 1) ?_
  refine l_sld hO (n := j + 1) (by omega) (by omega) rfl dL_law_914 ?_
  refine l_callXI hO hX mdX11_take mvX11_take rfl w1170 (As := [.int _]) (st := []) (ctX11_take n0 hO.2.2.2.2.2.2.1 _ _) (Nat.le_of_ble_eq_true rfl) rfl rfl (Nat.le_of_ble_eq_true rfl) hcs hsl dL_law_915 ?_
  refine l_aload_n hO dL_law_918 2 rfl rfl ?_
  refine l_aload_n hO dL_law_919 0 rfl rfl ?_
  refine l_iload_n hO dL_law_920 3 rfl rfl ?_
  refine l_iconst hO dL_law_921 ic_i_1 ?_
  refine l_iadd hO dL_law_922 (v := nI (j + 1)) (nI_add j 1) ?_
  refine l_sld hO (n := j + 1) (by omega) (by omega) rfl dL_law_923 ?_
  refine l_callYI hO hY mdX12_take mvX12_take rfl w1848 (As := [.int _]) (st := [.int _]) (ctX12_take n0 hO.2.2.2.2.2.2.2.1 _ _) (Nat.le_of_ble_eq_true rfl) rfl rfl (Nat.le_of_ble_eq_true rfl) hcs hsl dL_law_924 ?_
  refine l_icmpeq (pc := 927) hO dL_law_927 (tgt := 1073) (by decide) hE ?_
  exact K
def stp25 (n0 : Nat) (a : Nat → Int32) (MX MY : Mem) : Option (Mem × Mem) := (fX11_undo n0 MX).bind fun zx => (fX12_undo n0 MY).bind fun zy => if zx.1 = zy.1 then some (zx.2, zy.2) else none
theorem cas25 (n0 : Nat) {j : Nat} (hO : OKl p s m meth c b L xs D cy ax ay) (hj : j + 6 ≤ L) (hL : L ≤ 3072) (hcs : cells ≤ 600000) (hsl : slots ≤ 7302250) {Z : Mem × Mem} (h : stp25 n0 (fun t => xs (j + t)) MX MY = some Z) (K : LB p l e s m below meth c b D cy ax ay cells slots 1073 [(0, .ref b), (1, .ref (ax 0)), (2, .ref (ay 0)), (3, .int (nI j))] [] Z.1 Z.2) : LB p l e s m below meth c b D cy ax ay cells slots 932 [(0, .ref b), (1, .ref (ax 0)), (2, .ref (ay 0)), (3, .int (nI j))] [] MX MY := by
  obtain ⟨zx, hX, h⟩ := Option.bind_eq_some_iff.mp h
  obtain ⟨zy, hY, h⟩ := Option.bind_eq_some_iff.mp h
  have hE : zx.1 = zy.1 := by
    by_cases q : zx.1 = zy.1
    · exact q
    · rw [if_neg q] at h; cases h
  rw [if_pos hE] at h
  cases h
  refine l_aload_n hO dL_law_932 1 rfl rfl ?_
  refine l_callXI hO hX mdX11_undo mvX11_undo rfl w1174 (As := []) (st := []) (ctX11_undo n0 hO.2.2.2.2.2.2.1 _) (Nat.le_of_ble_eq_true rfl) rfl rfl (Nat.le_of_ble_eq_true rfl) hcs hsl dL_law_933 ?_
  refine l_aload_n hO dL_law_936 2 rfl rfl ?_
  refine l_callYI hO hY mdX12_undo mvX12_undo rfl w1697 (As := []) (st := [.int _]) (ctX12_undo n0 hO.2.2.2.2.2.2.2.1 _) (Nat.le_of_ble_eq_true rfl) rfl rfl (Nat.le_of_ble_eq_true rfl) hcs hsl dL_law_937 ?_
  refine l_icmpeq (pc := 940) hO dL_law_940 (tgt := 1073) (by decide) hE ?_
  exact K
def stp26 (n0 : Nat) (a : Nat → Int32) (MX MY : Mem) : Option (Mem × Mem) := (fX11_seed n0 (a 1) MX).bind fun zx => (fX12_seed n0 (a 1) MY).bind fun zy => if zx.1 = zy.1 then some (zx.2, zy.2) else none
theorem cas26 (n0 : Nat) {j : Nat} (hO : OKl p s m meth c b L xs D cy ax ay) (hj : j + 6 ≤ L) (hL : L ≤ 3072) (hcs : cells ≤ 600000) (hsl : slots ≤ 7302250) {Z : Mem × Mem} (h : stp26 n0 (fun t => xs (j + t)) MX MY = some Z) (K : LB p l e s m below meth c b D cy ax ay cells slots 1073 [(0, .ref b), (1, .ref (ax 0)), (2, .ref (ay 0)), (3, .int (nI j))] [] Z.1 Z.2) : LB p l e s m below meth c b D cy ax ay cells slots 945 [(0, .ref b), (1, .ref (ax 0)), (2, .ref (ay 0)), (3, .int (nI j))] [] MX MY := by
  obtain ⟨zx, hX, h⟩ := Option.bind_eq_some_iff.mp h
  obtain ⟨zy, hY, h⟩ := Option.bind_eq_some_iff.mp h
  have hE : zx.1 = zy.1 := by
    by_cases q : zx.1 = zy.1
    · exact q
    · rw [if_neg q] at h; cases h
  rw [if_pos hE] at h
  cases h
  refine l_aload_n hO dL_law_945 1 rfl rfl ?_
  refine l_aload_n hO dL_law_946 0 rfl rfl ?_
  refine l_iload_n hO dL_law_947 3 rfl rfl ?_
  refine l_iconst hO dL_law_948 ic_i_1 ?_
  refine l_iadd hO dL_law_949 (v := nI (j + 1)) (nI_add j 1) ?_
  refine l_sld hO (n := j + 1) (by omega) (by omega) rfl dL_law_950 ?_
  refine l_callXI hO hX mdX11_seed mvX11_seed rfl w1186 (As := [.int _]) (st := []) (ctX11_seed n0 hO.2.2.2.2.2.2.1 _ _) (Nat.le_of_ble_eq_true rfl) rfl rfl (Nat.le_of_ble_eq_true rfl) hcs hsl dL_law_951 ?_
  refine l_aload_n hO dL_law_954 2 rfl rfl ?_
  refine l_aload_n hO dL_law_955 0 rfl rfl ?_
  refine l_iload_n hO dL_law_956 3 rfl rfl ?_
  refine l_iconst hO dL_law_957 ic_i_1 ?_
  refine l_iadd hO dL_law_958 (v := nI (j + 1)) (nI_add j 1) ?_
  refine l_sld hO (n := j + 1) (by omega) (by omega) rfl dL_law_959 ?_
  refine l_callYI hO hY mdX12_seed mvX12_seed rfl w1852 (As := [.int _]) (st := [.int _]) (ctX12_seed n0 hO.2.2.2.2.2.2.2.1 _ _) (Nat.le_of_ble_eq_true rfl) rfl rfl (Nat.le_of_ble_eq_true rfl) hcs hsl dL_law_960 ?_
  refine l_icmpeq (pc := 963) hO dL_law_963 (tgt := 1073) (by decide) hE ?_
  exact K
def stp27 (n0 : Nat) (a : Nat → Int32) (MX MY : Mem) : Option (Mem × Mem) := (fX11_kept n0 (a 1) (a 2) MX).bind fun zx => (fX12_kept n0 (a 1) (a 2) MY).bind fun zy => if zx.1 = zy.1 then some (zx.2, zy.2) else none
theorem cas27 (n0 : Nat) {j : Nat} (hO : OKl p s m meth c b L xs D cy ax ay) (hj : j + 6 ≤ L) (hL : L ≤ 3072) (hcs : cells ≤ 600000) (hsl : slots ≤ 7302250) {Z : Mem × Mem} (h : stp27 n0 (fun t => xs (j + t)) MX MY = some Z) (K : LB p l e s m below meth c b D cy ax ay cells slots 1073 [(0, .ref b), (1, .ref (ax 0)), (2, .ref (ay 0)), (3, .int (nI j))] [] Z.1 Z.2) : LB p l e s m below meth c b D cy ax ay cells slots 968 [(0, .ref b), (1, .ref (ax 0)), (2, .ref (ay 0)), (3, .int (nI j))] [] MX MY := by
  obtain ⟨zx, hX, h⟩ := Option.bind_eq_some_iff.mp h
  obtain ⟨zy, hY, h⟩ := Option.bind_eq_some_iff.mp h
  have hE : zx.1 = zy.1 := by
    by_cases q : zx.1 = zy.1
    · exact q
    · rw [if_neg q] at h; cases h
  rw [if_pos hE] at h
  cases h
  refine l_aload_n hO dL_law_968 1 rfl rfl ?_
  refine l_aload_n hO dL_law_969 0 rfl rfl ?_
  refine l_iload_n hO dL_law_970 3 rfl rfl ?_
  refine l_iconst hO dL_law_971 ic_i_1 ?_
  refine l_iadd hO dL_law_972 (v := nI (j + 1)) (nI_add j 1) ?_
  refine l_sld hO (n := j + 1) (by omega) (by omega) rfl dL_law_973 ?_
  refine l_aload_n hO dL_law_974 0 rfl rfl ?_
  refine l_iload_n hO dL_law_975 3 rfl rfl ?_
  refine l_iconst hO dL_law_976 ic_i_2 ?_
  refine l_iadd hO dL_law_977 (v := nI (j + 2)) (nI_add j 2) ?_
  refine l_sld hO (n := j + 2) (by omega) (by omega) rfl dL_law_978 ?_
  refine l_callXI hO hX mdX11_kept mvX11_kept rfl w1190 (As := [.int _, .int _]) (st := []) (ctX11_kept n0 hO.2.2.2.2.2.2.1 _ _ _) (Nat.le_of_ble_eq_true rfl) rfl rfl (Nat.le_of_ble_eq_true rfl) hcs hsl dL_law_979 ?_
  refine l_aload_n hO dL_law_982 2 rfl rfl ?_
  refine l_aload_n hO dL_law_983 0 rfl rfl ?_
  refine l_iload_n hO dL_law_984 3 rfl rfl ?_
  refine l_iconst hO dL_law_985 ic_i_1 ?_
  refine l_iadd hO dL_law_986 (v := nI (j + 1)) (nI_add j 1) ?_
  refine l_sld hO (n := j + 1) (by omega) (by omega) rfl dL_law_987 ?_
  refine l_aload_n hO dL_law_988 0 rfl rfl ?_
  refine l_iload_n hO dL_law_989 3 rfl rfl ?_
  refine l_iconst hO dL_law_990 ic_i_2 ?_
  refine l_iadd hO dL_law_991 (v := nI (j + 2)) (nI_add j 2) ?_
  refine l_sld hO (n := j + 2) (by omega) (by omega) rfl dL_law_992 ?_
  refine l_callYI hO hY mdX12_kept mvX12_kept rfl w1856 (As := [.int _, .int _]) (st := [.int _]) (ctX12_kept n0 hO.2.2.2.2.2.2.2.1 _ _ _) (Nat.le_of_ble_eq_true rfl) rfl rfl (Nat.le_of_ble_eq_true rfl) hcs hsl dL_law_993 ?_
  refine l_icmpeq (pc := 996) hO dL_law_996 (tgt := 1073) (by decide) hE ?_
  exact K
def stp28 (n0 : Nat) (a : Nat → Int32) (MX MY : Mem) : Option (Mem × Mem) := (fX11_image n0 MX).bind fun zx => (fX12_image n0 MY).bind fun zy => if zx.1 = zy.1 then some (zx.2, zy.2) else none
theorem cas28 (n0 : Nat) {j : Nat} (hO : OKl p s m meth c b L xs D cy ax ay) (hj : j + 6 ≤ L) (hL : L ≤ 3072) (hcs : cells ≤ 600000) (hsl : slots ≤ 7302250) {Z : Mem × Mem} (h : stp28 n0 (fun t => xs (j + t)) MX MY = some Z) (K : LB p l e s m below meth c b D cy ax ay cells slots 1073 [(0, .ref b), (1, .ref (ax 0)), (2, .ref (ay 0)), (3, .int (nI j))] [] Z.1 Z.2) : LB p l e s m below meth c b D cy ax ay cells slots 1001 [(0, .ref b), (1, .ref (ax 0)), (2, .ref (ay 0)), (3, .int (nI j))] [] MX MY := by
  obtain ⟨zx, hX, h⟩ := Option.bind_eq_some_iff.mp h
  obtain ⟨zy, hY, h⟩ := Option.bind_eq_some_iff.mp h
  have hE : zx.1 = zy.1 := by
    by_cases q : zx.1 = zy.1
    · exact q
    · rw [if_neg q] at h; cases h
  rw [if_pos hE] at h
  cases h
  refine l_aload_n hO dL_law_1001 1 rfl rfl ?_
  refine l_callXI hO hX mdX11_image mvX11_image rfl w1194 (As := []) (st := []) (ctX11_image n0 hO.2.2.2.2.2.2.1 _) (Nat.le_of_ble_eq_true rfl) rfl rfl (Nat.le_of_ble_eq_true rfl) hcs hsl dL_law_1002 ?_
  refine l_aload_n hO dL_law_1005 2 rfl rfl ?_
  refine l_callYI hO hY mdX12_image mvX12_image rfl w1860 (As := []) (st := [.int _]) (ctX12_image n0 hO.2.2.2.2.2.2.2.1 _) (Nat.le_of_ble_eq_true rfl) rfl rfl (Nat.le_of_ble_eq_true rfl) hcs hsl dL_law_1006 ?_
  refine l_icmpeq (pc := 1009) hO dL_law_1009 (tgt := 1073) (by decide) hE ?_
  exact K
def stp29 (n0 : Nat) (a : Nat → Int32) (MX MY : Mem) : Option (Mem × Mem) := (fX11_octet n0 (a 1) MX).bind fun zx => (fX12_octet n0 (a 1) MY).bind fun zy => if zx.1 = zy.1 then some (zx.2, zy.2) else none
theorem cas29 (n0 : Nat) {j : Nat} (hO : OKl p s m meth c b L xs D cy ax ay) (hj : j + 6 ≤ L) (hL : L ≤ 3072) (hcs : cells ≤ 600000) (hsl : slots ≤ 7302250) {Z : Mem × Mem} (h : stp29 n0 (fun t => xs (j + t)) MX MY = some Z) (K : LB p l e s m below meth c b D cy ax ay cells slots 1073 [(0, .ref b), (1, .ref (ax 0)), (2, .ref (ay 0)), (3, .int (nI j))] [] Z.1 Z.2) : LB p l e s m below meth c b D cy ax ay cells slots 1014 [(0, .ref b), (1, .ref (ax 0)), (2, .ref (ay 0)), (3, .int (nI j))] [] MX MY := by
  obtain ⟨zx, hX, h⟩ := Option.bind_eq_some_iff.mp h
  obtain ⟨zy, hY, h⟩ := Option.bind_eq_some_iff.mp h
  have hE : zx.1 = zy.1 := by
    by_cases q : zx.1 = zy.1
    · exact q
    · rw [if_neg q] at h; cases h
  rw [if_pos hE] at h
  cases h
  refine l_aload_n hO dL_law_1014 1 rfl rfl ?_
  refine l_aload_n hO dL_law_1015 0 rfl rfl ?_
  refine l_iload_n hO dL_law_1016 3 rfl rfl ?_
  refine l_iconst hO dL_law_1017 ic_i_1 ?_
  refine l_iadd hO dL_law_1018 (v := nI (j + 1)) (nI_add j 1) ?_
  refine l_sld hO (n := j + 1) (by omega) (by omega) rfl dL_law_1019 ?_
  refine l_callXI hO hX mdX11_octet mvX11_octet rfl w1209 (As := [.int _]) (st := []) (ctX11_octet n0 hO.2.2.2.2.2.2.1 _ _) (Nat.le_of_ble_eq_true rfl) rfl rfl (Nat.le_of_ble_eq_true rfl) hcs hsl dL_law_1020 ?_
  refine l_aload_n hO dL_law_1023 2 rfl rfl ?_
  refine l_aload_n hO dL_law_1024 0 rfl rfl ?_
  refine l_iload_n hO dL_law_1025 3 rfl rfl ?_
  refine l_iconst hO dL_law_1026 ic_i_1 ?_
  refine l_iadd hO dL_law_1027 (v := nI (j + 1)) (nI_add j 1) ?_
  refine l_sld hO (n := j + 1) (by omega) (by omega) rfl dL_law_1028 ?_
  refine l_callYI hO hY mdX12_octet mvX12_octet rfl w1868 (As := [.int _]) (st := [.int _]) (ctX12_octet n0 hO.2.2.2.2.2.2.2.1 _ _) (Nat.le_of_ble_eq_true rfl) rfl rfl (Nat.le_of_ble_eq_true rfl) hcs hsl dL_law_1029 ?_
  refine l_icmpeq (pc := 1032) hO dL_law_1032 (tgt := 1073) (by decide) hE ?_
  exact K
def stp30 (n0 : Nat) (a : Nat → Int32) (MX MY : Mem) : Option (Mem × Mem) := (fX11_on n0 MX).bind fun zx => (fX12_on n0 MY).bind fun zy => if zx.1 = zy.1 then some (zx.2, zy.2) else none
theorem cas30 (n0 : Nat) {j : Nat} (hO : OKl p s m meth c b L xs D cy ax ay) (hj : j + 6 ≤ L) (hL : L ≤ 3072) (hcs : cells ≤ 600000) (hsl : slots ≤ 7302250) {Z : Mem × Mem} (h : stp30 n0 (fun t => xs (j + t)) MX MY = some Z) (K : LB p l e s m below meth c b D cy ax ay cells slots 1073 [(0, .ref b), (1, .ref (ax 0)), (2, .ref (ay 0)), (3, .int (nI j))] [] Z.1 Z.2) : LB p l e s m below meth c b D cy ax ay cells slots 1037 [(0, .ref b), (1, .ref (ax 0)), (2, .ref (ay 0)), (3, .int (nI j))] [] MX MY := by
  obtain ⟨zx, hX, h⟩ := Option.bind_eq_some_iff.mp h
  obtain ⟨zy, hY, h⟩ := Option.bind_eq_some_iff.mp h
  have hE : zx.1 = zy.1 := by
    by_cases q : zx.1 = zy.1
    · exact q
    · rw [if_neg q] at h; cases h
  rw [if_pos hE] at h
  cases h
  refine l_aload_n hO dL_law_1037 1 rfl rfl ?_
  refine l_callXI hO hX mdX11_on mvX11_on rfl w1213 (As := []) (st := []) (ctX11_on n0 hO.2.2.2.2.2.2.1 _) (Nat.le_of_ble_eq_true rfl) rfl rfl (Nat.le_of_ble_eq_true rfl) hcs hsl dL_law_1038 ?_
  refine l_aload_n hO dL_law_1041 2 rfl rfl ?_
  refine l_callYI hO hY mdX12_on mvX12_on rfl w1872 (As := []) (st := [.int _]) (ctX12_on n0 hO.2.2.2.2.2.2.2.1 _) (Nat.le_of_ble_eq_true rfl) rfl rfl (Nat.le_of_ble_eq_true rfl) hcs hsl dL_law_1042 ?_
  refine l_icmpeq (pc := 1045) hO dL_law_1045 (tgt := 1073) (by decide) hE ?_
  exact K
def stp31 (n0 : Nat) (a : Nat → Int32) (MX MY : Mem) : Option (Mem × Mem) := (fX11_status n0 (a 1) MX).bind fun zx => (fX12_status n0 (a 1) MY).bind fun zy => if zx.1 = zy.1 then some (zx.2, zy.2) else none
theorem cas31 (n0 : Nat) {j : Nat} (hO : OKl p s m meth c b L xs D cy ax ay) (hj : j + 6 ≤ L) (hL : L ≤ 3072) (hcs : cells ≤ 600000) (hsl : slots ≤ 7302250) {Z : Mem × Mem} (h : stp31 n0 (fun t => xs (j + t)) MX MY = some Z) (K : LB p l e s m below meth c b D cy ax ay cells slots 1073 [(0, .ref b), (1, .ref (ax 0)), (2, .ref (ay 0)), (3, .int (nI j))] [] Z.1 Z.2) : LB p l e s m below meth c b D cy ax ay cells slots 1050 [(0, .ref b), (1, .ref (ax 0)), (2, .ref (ay 0)), (3, .int (nI j))] [] MX MY := by
  obtain ⟨zx, hX, h⟩ := Option.bind_eq_some_iff.mp h
  obtain ⟨zy, hY, h⟩ := Option.bind_eq_some_iff.mp h
  have hE : zx.1 = zy.1 := by
    by_cases q : zx.1 = zy.1
    · exact q
    · rw [if_neg q] at h; cases h
  rw [if_pos hE] at h
  cases h
  refine l_aload_n hO dL_law_1050 1 rfl rfl ?_
  refine l_aload_n hO dL_law_1051 0 rfl rfl ?_
  refine l_iload_n hO dL_law_1052 3 rfl rfl ?_
  refine l_iconst hO dL_law_1053 ic_i_1 ?_
  refine l_iadd hO dL_law_1054 (v := nI (j + 1)) (nI_add j 1) ?_
  refine l_sld hO (n := j + 1) (by omega) (by omega) rfl dL_law_1055 ?_
  refine l_callXI hO hX mdX11_status mvX11_status rfl w1232 (As := [.int _]) (st := []) (ctX11_status n0 hO.2.2.2.2.2.2.1 _ _) (Nat.le_of_ble_eq_true rfl) rfl rfl (Nat.le_of_ble_eq_true rfl) hcs hsl dL_law_1056 ?_
  refine l_aload_n hO dL_law_1059 2 rfl rfl ?_
  refine l_aload_n hO dL_law_1060 0 rfl rfl ?_
  refine l_iload_n hO dL_law_1061 3 rfl rfl ?_
  refine l_iconst hO dL_law_1062 ic_i_1 ?_
  refine l_iadd hO dL_law_1063 (v := nI (j + 1)) (nI_add j 1) ?_
  refine l_sld hO (n := j + 1) (by omega) (by omega) rfl dL_law_1064 ?_
  refine l_callYI hO hY mdX12_status mvX12_status rfl w1693 (As := [.int _]) (st := [.int _]) (ctX12_status n0 hO.2.2.2.2.2.2.2.1 _ _) (Nat.le_of_ble_eq_true rfl) rfl rfl (Nat.le_of_ble_eq_true rfl) hcs hsl dL_law_1065 ?_
  refine l_icmpeq (pc := 1068) hO dL_law_1068 (tgt := 1073) (by decide) hE ?_
  exact K
def stepL (n0 : Nat) (k : Nat) (a : Nat → Int32) (MX MY : Mem) : Option (Mem × Mem) := match k with
  | 0 => stp0 n0 a MX MY
  | 1 => stp1 n0 a MX MY
  | 2 => stp2 n0 a MX MY
  | 3 => stp3 n0 a MX MY
  | 4 => stp4 n0 a MX MY
  | 5 => stp5 n0 a MX MY
  | 6 => stp6 n0 a MX MY
  | 7 => stp7 n0 a MX MY
  | 8 => stp8 n0 a MX MY
  | 9 => stp9 n0 a MX MY
  | 10 => stp10 n0 a MX MY
  | 11 => stp11 n0 a MX MY
  | 12 => stp12 n0 a MX MY
  | 13 => stp13 n0 a MX MY
  | 14 => stp14 n0 a MX MY
  | 15 => stp15 n0 a MX MY
  | 16 => stp16 n0 a MX MY
  | 17 => stp17 n0 a MX MY
  | 18 => stp18 n0 a MX MY
  | 19 => stp19 n0 a MX MY
  | 20 => stp20 n0 a MX MY
  | 21 => stp21 n0 a MX MY
  | 22 => stp22 n0 a MX MY
  | 23 => stp23 n0 a MX MY
  | 24 => stp24 n0 a MX MY
  | 25 => stp25 n0 a MX MY
  | 26 => stp26 n0 a MX MY
  | 27 => stp27 n0 a MX MY
  | 28 => stp28 n0 a MX MY
  | 29 => stp29 n0 a MX MY
  | 30 => stp30 n0 a MX MY
  | 31 => stp31 n0 a MX MY
  | _ => none
/-- the law, as a function: w calls at most, j ints read -/
def lawF (n0 L : Nat) (xs : Nat → Int32) : Nat → Nat → Mem → Mem → Option Unit
  | 0, _, _, _ => none
  | w + 1, j, MX, MY => if j + 6 ≤ L then (stepL n0 ((xs j).toBitVec.toNat % 32) (fun t => xs (j + t)) MX MY).bind fun z => lawF n0 L xs w (j + 6) z.1 z.2 else some ()
theorem law_loop (n0 : Nat) (hO : OKl p s m meth c b L xs D cy ax ay) (hL : L ≤ 3072) (hcs : cells ≤ 600000) (hsl : slots ≤ 7302250) : ∀ (w j : Nat) (MX MY : Mem), j ≤ L → lawF n0 L xs w j MX MY = some () → LB p l e s m below meth c b D cy ax ay cells slots 18 [(0, .ref b), (1, .ref (ax 0)), (2, .ref (ay 0)), (3, .int (nI j))] [] MX MY := by
  intro w
  induction w with
  | zero => intro j MX MY _ h; cases h
  | succ w ih =>
  intro j MX MY hjL h
  rw [lawF] at h
  refine l_iload_n hO dL_law_18 3 rfl rfl ?_
  refine l_aload_n hO dL_law_19 0 rfl rfl ?_
  refine l_slen hO dL_law_20 ?_
  refine l_bipush hO dL_law_21 ic_b_6 ?_
  refine l_isub hO dL_law_23 rfl ?_
  refine l_icmpgt (pc := 24) hO dL_law_24 (tgt := 1079) (by decide) (fun hgt => ?_) (fun hgt => ?_)
  · refine l_iconst hO dL_law_1079 ic_i_1 ?_
    exact l_ret hO hcs hsl dL_law_1080
  have hj : j + 6 ≤ L := by
    rcases Nat.lt_or_ge L (j + 6) with q | q
    · refine absurd ?_ hgt
      have e6 : (6 : Int32) = nI 6 := rfl
      rw [Int32.lt_iff_toInt_lt, e6, pk_sub_toInt (by omega) (by decide), nI_toInt (by omega)]
      omega
    · exact q
  rw [if_pos hj] at h
  obtain ⟨Z, hz, h⟩ := Option.bind_eq_some_iff.mp h
  refine l_aload_n hO dL_law_27 0 rfl rfl ?_
  refine l_iload_n hO dL_law_28 3 rfl rfl ?_
  refine l_sld hO (n := j) (by omega) (by omega) rfl dL_law_29 ?_
  refine l_bipush hO dL_law_30 ic_b_31 ?_
  refine l_iand hO dL_law_32 (pk_and (xs j) (m := 31) 5 (by decide)) ?_
  have K : LB p l e s m below meth c b D cy ax ay cells slots 1073 [(0, .ref b), (1, .ref (ax 0)), (2, .ref (ay 0)), (3, .int (nI j))] [] Z.1 Z.2 := by
    refine l_iinc hO dL_law_1073 3 rfl (v := nI (j + 6)) (nI_add j 6) (by decide) (lv' := [(3, .int (nI (j + 6))), (0, .ref b), (1, .ref (ax 0)), (2, .ref (ay 0))]) rfl ?_
    refine l_goto (pc := 1076) hO dL_law_1076 (tgt := 18) (by decide) ?_
    refine l_sub [1, 2, 3, 0] rfl ?_
    exact ih (j + 6) Z.1 Z.2 hj h
  have hk32 : (xs j).toBitVec.toNat % 2 ^ 5 < 32 := Nat.mod_lt _ (by decide)
  have hz : stepL n0 ((xs j).toBitVec.toNat % 2 ^ 5) (fun t => xs (j + t)) MX MY = some Z := hz
  revert hz hk32
  generalize (xs j).toBitVec.toNat % 2 ^ 5 = k
  intro hk32 hz
  rcases (show k = 0 ∨ k = 1 ∨ k = 2 ∨ k = 3 ∨ k = 4 ∨ k = 5 ∨ k = 6 ∨ k = 7 ∨ k = 8 ∨ k = 9 ∨ k = 10 ∨ k = 11 ∨ k = 12 ∨ k = 13 ∨ k = 14 ∨ k = 15 ∨ k = 16 ∨ k = 17 ∨ k = 18 ∨ k = 19 ∨ k = 20 ∨ k = 21 ∨ k = 22 ∨ k = 23 ∨ k = 24 ∨ k = 25 ∨ k = 26 ∨ k = 27 ∨ k = 28 ∨ k = 29 ∨ k = 30 ∨ k = 31 by omega) with rfl | rfl | rfl | rfl | rfl | rfl | rfl | rfl | rfl | rfl | rfl | rfl | rfl | rfl | rfl | rfl | rfl | rfl | rfl | rfl | rfl | rfl | rfl | rfl | rfl | rfl | rfl | rfl | rfl | rfl | rfl | rfl
  · exact l_tab (pc := 33) hO dL_law_33 (off := 143) (tgt := 176) (by decide) (by decide) (by decide) (by decide) (cas0 n0 hO hj hL hcs hsl hz K)
  · exact l_tab (pc := 33) hO dL_law_33 (off := 206) (tgt := 239) (by decide) (by decide) (by decide) (by decide) (cas1 n0 hO hj hL hcs hsl hz K)
  · exact l_tab (pc := 33) hO dL_law_33 (off := 229) (tgt := 262) (by decide) (by decide) (by decide) (by decide) (cas2 n0 hO hj hL hcs hsl hz K)
  · exact l_tab (pc := 33) hO dL_law_33 (off := 242) (tgt := 275) (by decide) (by decide) (by decide) (by decide) (cas3 n0 hO hj hL hcs hsl hz K)
  · exact l_tab (pc := 33) hO dL_law_33 (off := 265) (tgt := 298) (by decide) (by decide) (by decide) (by decide) (cas4 n0 hO hj hL hcs hsl hz K)
  · exact l_tab (pc := 33) hO dL_law_33 (off := 288) (tgt := 321) (by decide) (by decide) (by decide) (by decide) (cas5 n0 hO hj hL hcs hsl hz K)
  · exact l_tab (pc := 33) hO dL_law_33 (off := 331) (tgt := 364) (by decide) (by decide) (by decide) (by decide) (cas6 n0 hO hj hL hcs hsl hz K)
  · exact l_tab (pc := 33) hO dL_law_33 (off := 364) (tgt := 397) (by decide) (by decide) (by decide) (by decide) (cas7 n0 hO hj hL hcs hsl hz K)
  · exact l_tab (pc := 33) hO dL_law_33 (off := 397) (tgt := 430) (by decide) (by decide) (by decide) (by decide) (cas8 n0 hO hj hL hcs hsl hz K)
  · exact l_tab (pc := 33) hO dL_law_33 (off := 430) (tgt := 463) (by decide) (by decide) (by decide) (by decide) (cas9 n0 hO hj hL hcs hsl hz K)
  · exact l_tab (pc := 33) hO dL_law_33 (off := 463) (tgt := 496) (by decide) (by decide) (by decide) (by decide) (cas10 n0 hO hj hL hcs hsl hz K)
  · exact l_tab (pc := 33) hO dL_law_33 (off := 486) (tgt := 519) (by decide) (by decide) (by decide) (by decide) (cas11 n0 hO hj hL hcs hsl hz K)
  · exact l_tab (pc := 33) hO dL_law_33 (off := 519) (tgt := 552) (by decide) (by decide) (by decide) (by decide) (cas12 n0 hO hj hL hcs hsl hz K)
  · exact l_tab (pc := 33) hO dL_law_33 (off := 562) (tgt := 595) (by decide) (by decide) (by decide) (by decide) (cas13 n0 hO hj hL hcs hsl hz K)
  · exact l_tab (pc := 33) hO dL_law_33 (off := 595) (tgt := 628) (by decide) (by decide) (by decide) (by decide) (cas14 n0 hO hj hL hcs hsl hz K)
  · exact l_tab (pc := 33) hO dL_law_33 (off := 639) (tgt := 672) (by decide) (by decide) (by decide) (by decide) (cas15 n0 hO hj hL hcs hsl hz K)
  · exact l_tab (pc := 33) hO dL_law_33 (off := 672) (tgt := 705) (by decide) (by decide) (by decide) (by decide) (cas16 n0 hO hj hL hcs hsl hz K)
  · exact l_tab (pc := 33) hO dL_law_33 (off := 705) (tgt := 738) (by decide) (by decide) (by decide) (by decide) (cas17 n0 hO hj hL hcs hsl hz K)
  · exact l_tab (pc := 33) hO dL_law_33 (off := 728) (tgt := 761) (by decide) (by decide) (by decide) (by decide) (cas18 n0 hO hj hL hcs hsl hz K)
  · exact l_tab (pc := 33) hO dL_law_33 (off := 741) (tgt := 774) (by decide) (by decide) (by decide) (by decide) (cas19 n0 hO hj hL hcs hsl hz K)
  · exact l_tab (pc := 33) hO dL_law_33 (off := 764) (tgt := 797) (by decide) (by decide) (by decide) (by decide) (cas20 n0 hO hj hL hcs hsl hz K)
  · exact l_tab (pc := 33) hO dL_law_33 (off := 797) (tgt := 830) (by decide) (by decide) (by decide) (by decide) (cas21 n0 hO hj hL hcs hsl hz K)
  · exact l_tab (pc := 33) hO dL_law_33 (off := 820) (tgt := 853) (by decide) (by decide) (by decide) (by decide) (cas22 n0 hO hj hL hcs hsl hz K)
  · exact l_tab (pc := 33) hO dL_law_33 (off := 843) (tgt := 876) (by decide) (by decide) (by decide) (by decide) (cas23 n0 hO hj hL hcs hsl hz K)
  · exact l_tab (pc := 33) hO dL_law_33 (off := 876) (tgt := 909) (by decide) (by decide) (by decide) (by decide) (cas24 n0 hO hj hL hcs hsl hz K)
  · exact l_tab (pc := 33) hO dL_law_33 (off := 899) (tgt := 932) (by decide) (by decide) (by decide) (by decide) (cas25 n0 hO hj hL hcs hsl hz K)
  · exact l_tab (pc := 33) hO dL_law_33 (off := 912) (tgt := 945) (by decide) (by decide) (by decide) (by decide) (cas26 n0 hO hj hL hcs hsl hz K)
  · exact l_tab (pc := 33) hO dL_law_33 (off := 935) (tgt := 968) (by decide) (by decide) (by decide) (by decide) (cas27 n0 hO hj hL hcs hsl hz K)
  · exact l_tab (pc := 33) hO dL_law_33 (off := 968) (tgt := 1001) (by decide) (by decide) (by decide) (by decide) (cas28 n0 hO hj hL hcs hsl hz K)
  · exact l_tab (pc := 33) hO dL_law_33 (off := 981) (tgt := 1014) (by decide) (by decide) (by decide) (by decide) (cas29 n0 hO hj hL hcs hsl hz K)
  · exact l_tab (pc := 33) hO dL_law_33 (off := 1004) (tgt := 1037) (by decide) (by decide) (by decide) (by decide) (cas30 n0 hO hj hL hcs hsl hz K)
  · exact l_tab (pc := 33) hO dL_law_33 (off := 1017) (tgt := 1050) (by decide) (by decide) (by decide) (by decide) (cas31 n0 hO hj hL hcs hsl hz K)
end
