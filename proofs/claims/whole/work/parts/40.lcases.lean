/-! ===== the law's cases ===== -/
def LX (g : ZG) (E : ZE) (kc kn b L : Nat) (xs : Nat → Int32) : Prop := Cb g E RL cL_law 8 room_1 ∧ (kc ≤ room_1.cells ∧ kn ≤ room_1.slots) ∧ (va_X b L xs (gs g) (gs g).heap ∧ b < (gs g).heap.size ∧ ¬ zA E b) ∧ L ≤ 2048
def LV (E : ZE) (b p : Nat) : List (Nat × Value) := [(3, .int (nI p)), (2, .ref (za E 32 0)), (1, .ref (za E 17 0)), (0, .ref b)]
def LN (g : ZG) (E : ZE) (kc kn b n p : Nat) : Prop := ∀ (M : Mem) (S : LSt), XS M S → MS M S → IV S (n + 31) → ZL g E kc kn M (LV E b p) 1003 []
section ZLK
variable {g : ZG} {E : ZE} {kc kn : Nat} {lv : List (Nat × Value)} {pc : Nat} {st : List Value}
theorem l_pi {M1 : Mem} {v : Int32} (k : ZL g E kc kn M1 lv pc (.int v :: st)) : ∀ (r : Option Value) (M' : Mem), PI v M1 r M' → ZL g E kc kn M' lv pc (r.toList ++ st) := fun r M' h => by obtain ⟨rfl, rfl⟩ := h; exact k
theorem l_pd {M1 : Mem} {v : UInt64} (k : ZL g E kc kn M1 lv pc (.double v :: st)) : ∀ (r : Option Value) (M' : Mem), PD v M1 r M' → ZL g E kc kn M' lv pc (r.toList ++ st) := fun r M' h => by obtain ⟨rfl, rfl⟩ := h; exact k
theorem l_pf {M1 : Mem} {v : UInt32} (k : ZL g E kc kn M1 lv pc (.float v :: st)) : ∀ (r : Option Value) (M' : Mem), PF v M1 r M' → ZL g E kc kn M' lv pc (r.toList ++ st) := fun r M' h => by obtain ⟨rfl, rfl⟩ := h; exact k
theorem l_ri {P : Int32 → Mem → Prop} (k : ∀ (v : Int32) (M1 : Mem), P v M1 → ZL g E kc kn M1 lv pc (.int v :: st)) : ∀ (r : Option Value) (M' : Mem), RI P r M' → ZL g E kc kn M' lv pc (r.toList ++ st) := fun r M' h => by obtain ⟨v, rfl, h⟩ := h; exact k v M' h
end ZLK
theorem share_64 : ∀ f, f < 11 → ∀ s, s < 11 → (FP.f2d (shareV f s) &&& 0x7fffffffffffffff ≤ 0x7ff0000000000000) := by decide +kernel
theorem share_n64 {f n : Nat} (hn : n ≤ 10) (hf : f ≤ n) : vf_n64 (FP.f2d (shareV f n)) := share_64 _ (by omega) _ (by omega)
section LC
variable {g : ZG} {E : ZE} {kc kn b L p n : Nat} {xs : Nat → Int32} {M : Mem} {S : LSt}
set_option maxRecDepth 100000 in
set_option maxHeartbeats 1000000 in
theorem lc_0 (X : LX g E kc kn b L xs) (hp : p + 3 < L) (hX : XS M S) (hM : MS M S) (hI : IV S n) (hn : n + 31 ≤ 100000) (next : LN g E kc kn b n p) : ZL g E kc kn M (LV E b p) 180 [] := by
  obtain ⟨X, hk, V, hL⟩ := X
  obtain ⟨a1, a2, i1⟩ := hI.1
  obtain ⟨nx, hH⟩ := hX.2.1
  refine l_aload_n X 2 dL_law_180 rfl rfl ?_
  refine l_aload_n X 3 dL_law_181 rfl rfl ?_
  refine l_iload_n X 0 dL_law_182 rfl rfl ?_
  refine l_iconst X (v := 1) dL_law_183 (by decide) ?_
  refine l_iadd X dL_law_184 ?_
  refine l_sld X V (j := p + 1) (by rw [← nI_add]; rfl) (by omega) hL dL_law_185 ?_
  refine l_aload_n X 3 dL_law_186 rfl rfl ?_
  refine l_iload_n X 0 dL_law_187 rfl rfl ?_
  refine l_iconst X (v := 2) dL_law_188 (by decide) ?_
  refine l_iadd X dL_law_189 ?_
  refine l_sld X V (j := p + 2) (by rw [← nI_add]; rfl) (by omega) hL dL_law_190 ?_
  refine l_callV X hk (rest := []) kv_X10_chair (c_X10_chair E _ S.1 hX.1 a1 a2 n i1 S.2.2.1 hX.2.2.1 S.2.1 nx hH (xs (p + 1)) (xs (p + 2))) zk_17_0 (zc_17_0 E _) rfl rfl gw_150 ⟨⟨rfl, rfl⟩, Nat.le_of_ble_eq_true rfl, Nat.le_of_ble_eq_true rfl⟩ rfl rfl (Nat.le_of_ble_eq_true rfl) dL_law_191 (l_ri (fun v M1 h1 => ?_))
  obtain ⟨rfl, hX1, f1⟩ := px_step (o := oBringC S.1 S.2.2.1 (xs (p + 1)) (xs (p + 2))) hX h1
  have hM1 := hM.mono f1
  refine l_aload_n X 1 dL_law_194 rfl rfl ?_
  refine l_aload_n X 3 dL_law_195 rfl rfl ?_
  refine l_iload_n X 0 dL_law_196 rfl rfl ?_
  refine l_iconst X (v := 1) dL_law_197 (by decide) ?_
  refine l_iadd X dL_law_198 ?_
  refine l_sld X V (j := p + 1) (by rw [← nI_add]; rfl) (by omega) hL dL_law_199 ?_
  refine l_aload_n X 3 dL_law_200 rfl rfl ?_
  refine l_iload_n X 0 dL_law_201 rfl rfl ?_
  refine l_iconst X (v := 2) dL_law_202 (by decide) ?_
  refine l_iadd X dL_law_203 ?_
  refine l_sld X V (j := p + 2) (by rw [← nI_add]; rfl) (by omega) hL dL_law_204 ?_
  refine l_callV X hk (rest := [.int _]) kv_X11_chair (c_X11_chair E _ S.1 hM1.1 a1 a2 n i1 S.2.2.1 hM1.2.2.1 S.2.1 hM1.2.1 false hM1.2.2.2.2.2.2 (xs (p + 1)) (xs (p + 2))) zk_32_0 (zc_32_0 E _) rfl rfl gw_236 ⟨⟨rfl, rfl⟩, Nat.le_of_ble_eq_true rfl, Nat.le_of_ble_eq_true rfl⟩ rfl rfl (Nat.le_of_ble_eq_true rfl) dL_law_205 (l_ri (fun w M2 h2 => ?_))
  obtain ⟨rfl, hM2, f2⟩ := mx_step (o := oBringC S.1 S.2.2.1 (xs (p + 1)) (xs (p + 2))) hM1 h2
  have hX2 := hX1.mono f2
  refine l_icmp_eq X (tgt := 1003) dL_law_208 (by decide) (fun _ => ?_) (fun q => absurd rfl q)
  exact next _ _ hX2 hM2 (hI.kp (oBringC_kp i1 (by omega)) hn)

set_option maxRecDepth 100000 in
set_option maxHeartbeats 1000000 in
theorem lc_1 (X : LX g E kc kn b L xs) (hp : p + 3 < L) (hX : XS M S) (hM : MS M S) (hI : IV S n) (hn : n + 31 ≤ 100000) (next : LN g E kc kn b n p) : ZL g E kc kn M (LV E b p) 213 [] := by
  obtain ⟨X, hk, V, hL⟩ := X
  obtain ⟨a1, a2, i1⟩ := hI.1
  obtain ⟨nx, hH⟩ := hX.2.1
  refine l_aload_n X 2 dL_law_213 rfl rfl ?_
  refine l_aload_n X 3 dL_law_214 rfl rfl ?_
  refine l_iload_n X 0 dL_law_215 rfl rfl ?_
  refine l_iconst X (v := 1) dL_law_216 (by decide) ?_
  refine l_iadd X dL_law_217 ?_
  refine l_sld X V (j := p + 1) (by rw [← nI_add]; rfl) (by omega) hL dL_law_218 ?_
  refine l_aload_n X 3 dL_law_219 rfl rfl ?_
  refine l_iload_n X 0 dL_law_220 rfl rfl ?_
  refine l_iconst X (v := 2) dL_law_221 (by decide) ?_
  refine l_iadd X dL_law_222 ?_
  refine l_sld X V (j := p + 2) (by rw [← nI_add]; rfl) (by omega) hL dL_law_223 ?_
  refine l_aload_n X 3 dL_law_224 rfl rfl ?_
  refine l_iload_n X 0 dL_law_225 rfl rfl ?_
  refine l_iconst X (v := 3) dL_law_226 (by decide) ?_
  refine l_iadd X dL_law_227 ?_
  refine l_sld X V (j := p + 3) (by rw [← nI_add]; rfl) (by omega) hL dL_law_228 ?_
  refine l_callV X hk (rest := []) kv_X10_musician (c_X10_musician E _ S.1 hX.1 a1 a2 n i1 S.2.2.1 hX.2.2.1 S.2.1 nx hH (xs (p + 1)) (xs (p + 2)) (xs (p + 3))) zk_17_0 (zc_17_0 E _) rfl rfl gw_265 ⟨⟨rfl, rfl⟩, Nat.le_of_ble_eq_true rfl, Nat.le_of_ble_eq_true rfl⟩ rfl rfl (Nat.le_of_ble_eq_true rfl) dL_law_229 (l_ri (fun v M1 h1 => ?_))
  obtain ⟨rfl, hX1, f1⟩ := px_step (o := oBringM S.1 S.2.2.1 (xs (p + 1)) (xs (p + 2)) (xs (p + 3))) hX h1
  have hM1 := hM.mono f1
  refine l_aload_n X 1 dL_law_232 rfl rfl ?_
  refine l_aload_n X 3 dL_law_233 rfl rfl ?_
  refine l_iload_n X 0 dL_law_234 rfl rfl ?_
  refine l_iconst X (v := 1) dL_law_235 (by decide) ?_
  refine l_iadd X dL_law_236 ?_
  refine l_sld X V (j := p + 1) (by rw [← nI_add]; rfl) (by omega) hL dL_law_237 ?_
  refine l_aload_n X 3 dL_law_238 rfl rfl ?_
  refine l_iload_n X 0 dL_law_239 rfl rfl ?_
  refine l_iconst X (v := 2) dL_law_240 (by decide) ?_
  refine l_iadd X dL_law_241 ?_
  refine l_sld X V (j := p + 2) (by rw [← nI_add]; rfl) (by omega) hL dL_law_242 ?_
  refine l_aload_n X 3 dL_law_243 rfl rfl ?_
  refine l_iload_n X 0 dL_law_244 rfl rfl ?_
  refine l_iconst X (v := 3) dL_law_245 (by decide) ?_
  refine l_iadd X dL_law_246 ?_
  refine l_sld X V (j := p + 3) (by rw [← nI_add]; rfl) (by omega) hL dL_law_247 ?_
  refine l_callV X hk (rest := [.int _]) kv_X11_musician (c_X11_musician E _ S.1 hM1.1 a1 a2 n i1 S.2.2.1 hM1.2.2.1 S.2.1 hM1.2.1 false hM1.2.2.2.2.2.2 (xs (p + 1)) (xs (p + 2)) (xs (p + 3))) zk_32_0 (zc_32_0 E _) rfl rfl gw_280 ⟨⟨rfl, rfl⟩, Nat.le_of_ble_eq_true rfl, Nat.le_of_ble_eq_true rfl⟩ rfl rfl (Nat.le_of_ble_eq_true rfl) dL_law_248 (l_ri (fun w M2 h2 => ?_))
  obtain ⟨rfl, hM2, f2⟩ := mx_step (o := oBringM S.1 S.2.2.1 (xs (p + 1)) (xs (p + 2)) (xs (p + 3))) hM1 h2
  have hX2 := hX1.mono f2
  refine l_icmp_eq X (tgt := 1003) dL_law_251 (by decide) (fun _ => ?_) (fun q => absurd rfl q)
  exact next _ _ hX2 hM2 (hI.kp (oBringM_kp i1 (by omega)) hn)

set_option maxRecDepth 100000 in
set_option maxHeartbeats 1000000 in
theorem lc_2 (X : LX g E kc kn b L xs) (hp : p + 3 < L) (hX : XS M S) (hM : MS M S) (hI : IV S n) (hn : n + 31 ≤ 100000) (next : LN g E kc kn b n p) : ZL g E kc kn M (LV E b p) 256 [] := by
  obtain ⟨X, hk, V, hL⟩ := X
  obtain ⟨a1, a2, i1⟩ := hI.1
  obtain ⟨nx, hH⟩ := hX.2.1
  refine l_aload_n X 2 dL_law_256 rfl rfl ?_
  refine l_aload_n X 3 dL_law_257 rfl rfl ?_
  refine l_iload_n X 0 dL_law_258 rfl rfl ?_
  refine l_iconst X (v := 1) dL_law_259 (by decide) ?_
  refine l_iadd X dL_law_260 ?_
  refine l_sld X V (j := p + 1) (by rw [← nI_add]; rfl) (by omega) hL dL_law_261 ?_
  refine l_aload_n X 3 dL_law_262 rfl rfl ?_
  refine l_iload_n X 0 dL_law_263 rfl rfl ?_
  refine l_iconst X (v := 2) dL_law_264 (by decide) ?_
  refine l_iadd X dL_law_265 ?_
  refine l_sld X V (j := p + 2) (by rw [← nI_add]; rfl) (by omega) hL dL_law_266 ?_
  refine l_callV X hk (rest := []) kv_X10_chairOf (c_X10_chairOf E _ S.1 hX.1 a1 a2 n i1 (xs (p + 1)) (xs (p + 2))) zk_17_0 (zc_17_0 E _) rfl rfl gw_288 ⟨⟨rfl, rfl⟩, Nat.le_of_ble_eq_true rfl, Nat.le_of_ble_eq_true rfl⟩ rfl rfl (Nat.le_of_ble_eq_true rfl) dL_law_267 (l_pi ?_)
  refine l_aload_n X 1 dL_law_270 rfl rfl ?_
  refine l_aload_n X 3 dL_law_271 rfl rfl ?_
  refine l_iload_n X 0 dL_law_272 rfl rfl ?_
  refine l_iconst X (v := 1) dL_law_273 (by decide) ?_
  refine l_iadd X dL_law_274 ?_
  refine l_sld X V (j := p + 1) (by rw [← nI_add]; rfl) (by omega) hL dL_law_275 ?_
  refine l_aload_n X 3 dL_law_276 rfl rfl ?_
  refine l_iload_n X 0 dL_law_277 rfl rfl ?_
  refine l_iconst X (v := 2) dL_law_278 (by decide) ?_
  refine l_iadd X dL_law_279 ?_
  refine l_sld X V (j := p + 2) (by rw [← nI_add]; rfl) (by omega) hL dL_law_280 ?_
  refine l_callV X hk (rest := [.int _]) kv_X11_chairOf (c_X11_chairOf E _ S.1 hM.1 a1 a2 n i1 (xs (p + 1)) (xs (p + 2))) zk_32_0 (zc_32_0 E _) rfl rfl gw_315 ⟨⟨rfl, rfl⟩, Nat.le_of_ble_eq_true rfl, Nat.le_of_ble_eq_true rfl⟩ rfl rfl (Nat.le_of_ble_eq_true rfl) dL_law_281 (l_pi ?_)
  refine l_icmp_eq X (tgt := 1003) dL_law_284 (by decide) (fun _ => ?_) (fun q => absurd rfl q)
  exact next _ _ hX hM (hI.up (Nat.le_add_right n 31) hn)

set_option maxRecDepth 100000 in
set_option maxHeartbeats 1000000 in
theorem lc_3 (X : LX g E kc kn b L xs) (hp : p + 3 < L) (hX : XS M S) (hM : MS M S) (hI : IV S n) (hn : n + 31 ≤ 100000) (next : LN g E kc kn b n p) : ZL g E kc kn M (LV E b p) 289 [] := by
  obtain ⟨X, hk, V, hL⟩ := X
  obtain ⟨a1, a2, i1⟩ := hI.1
  obtain ⟨nx, hH⟩ := hX.2.1
  refine l_aload_n X 2 dL_law_289 rfl rfl ?_
  refine l_aload_n X 3 dL_law_290 rfl rfl ?_
  refine l_iload_n X 0 dL_law_291 rfl rfl ?_
  refine l_iconst X (v := 1) dL_law_292 (by decide) ?_
  refine l_iadd X dL_law_293 ?_
  refine l_sld X V (j := p + 1) (by rw [← nI_add]; rfl) (by omega) hL dL_law_294 ?_
  refine l_aload_n X 3 dL_law_295 rfl rfl ?_
  refine l_iload_n X 0 dL_law_296 rfl rfl ?_
  refine l_iconst X (v := 2) dL_law_297 (by decide) ?_
  refine l_iadd X dL_law_298 ?_
  refine l_sld X V (j := p + 2) (by rw [← nI_add]; rfl) (by omega) hL dL_law_299 ?_
  refine l_callV X hk (rest := []) kv_X10_musicianOf (c_X10_musicianOf E _ S.1 hX.1 a1 a2 n i1 (xs (p + 1)) (xs (p + 2))) zk_17_0 (zc_17_0 E _) rfl rfl gw_331 ⟨⟨rfl, rfl⟩, Nat.le_of_ble_eq_true rfl, Nat.le_of_ble_eq_true rfl⟩ rfl rfl (Nat.le_of_ble_eq_true rfl) dL_law_300 (l_pi ?_)
  refine l_aload_n X 1 dL_law_303 rfl rfl ?_
  refine l_aload_n X 3 dL_law_304 rfl rfl ?_
  refine l_iload_n X 0 dL_law_305 rfl rfl ?_
  refine l_iconst X (v := 1) dL_law_306 (by decide) ?_
  refine l_iadd X dL_law_307 ?_
  refine l_sld X V (j := p + 1) (by rw [← nI_add]; rfl) (by omega) hL dL_law_308 ?_
  refine l_aload_n X 3 dL_law_309 rfl rfl ?_
  refine l_iload_n X 0 dL_law_310 rfl rfl ?_
  refine l_iconst X (v := 2) dL_law_311 (by decide) ?_
  refine l_iadd X dL_law_312 ?_
  refine l_sld X V (j := p + 2) (by rw [← nI_add]; rfl) (by omega) hL dL_law_313 ?_
  refine l_callV X hk (rest := [.int _]) kv_X11_musicianOf (c_X11_musicianOf E _ S.1 hM.1 a1 a2 n i1 (xs (p + 1)) (xs (p + 2))) zk_32_0 (zc_32_0 E _) rfl rfl gw_346 ⟨⟨rfl, rfl⟩, Nat.le_of_ble_eq_true rfl, Nat.le_of_ble_eq_true rfl⟩ rfl rfl (Nat.le_of_ble_eq_true rfl) dL_law_314 (l_pi ?_)
  refine l_icmp_eq X (tgt := 1003) dL_law_317 (by decide) (fun _ => ?_) (fun q => absurd rfl q)
  exact next _ _ hX hM (hI.up (Nat.le_add_right n 31) hn)

set_option maxRecDepth 100000 in
set_option maxHeartbeats 1000000 in
theorem lc_4 (X : LX g E kc kn b L xs) (hp : p + 3 < L) (hX : XS M S) (hM : MS M S) (hI : IV S n) (hn : n + 31 ≤ 100000) (next : LN g E kc kn b n p) : ZL g E kc kn M (LV E b p) 322 [] := by
  obtain ⟨X, hk, V, hL⟩ := X
  obtain ⟨a1, a2, i1⟩ := hI.1
  obtain ⟨nx, hH⟩ := hX.2.1
  refine l_aload_n X 2 dL_law_322 rfl rfl ?_
  refine l_aload_n X 3 dL_law_323 rfl rfl ?_
  refine l_iload_n X 0 dL_law_324 rfl rfl ?_
  refine l_iconst X (v := 1) dL_law_325 (by decide) ?_
  refine l_iadd X dL_law_326 ?_
  refine l_sld X V (j := p + 1) (by rw [← nI_add]; rfl) (by omega) hL dL_law_327 ?_
  refine l_aload_n X 3 dL_law_328 rfl rfl ?_
  refine l_iload_n X 0 dL_law_329 rfl rfl ?_
  refine l_iconst X (v := 2) dL_law_330 (by decide) ?_
  refine l_iadd X dL_law_331 ?_
  refine l_sld X V (j := p + 2) (by rw [← nI_add]; rfl) (by omega) hL dL_law_332 ?_
  refine l_callV X hk (rest := []) kv_X10_fit (c_X10_fit E _ S.1 hX.1 a1 a2 n i1 (xs (p + 1)) (xs (p + 2))) zk_17_0 (zc_17_0 E _) rfl rfl gw_358 ⟨⟨rfl, rfl⟩, Nat.le_of_ble_eq_true rfl, Nat.le_of_ble_eq_true rfl⟩ rfl rfl (Nat.le_of_ble_eq_true rfl) dL_law_333 (l_pi ?_)
  refine l_aload_n X 1 dL_law_336 rfl rfl ?_
  refine l_aload_n X 3 dL_law_337 rfl rfl ?_
  refine l_iload_n X 0 dL_law_338 rfl rfl ?_
  refine l_iconst X (v := 1) dL_law_339 (by decide) ?_
  refine l_iadd X dL_law_340 ?_
  refine l_sld X V (j := p + 1) (by rw [← nI_add]; rfl) (by omega) hL dL_law_341 ?_
  refine l_aload_n X 3 dL_law_342 rfl rfl ?_
  refine l_iload_n X 0 dL_law_343 rfl rfl ?_
  refine l_iconst X (v := 2) dL_law_344 (by decide) ?_
  refine l_iadd X dL_law_345 ?_
  refine l_sld X V (j := p + 2) (by rw [← nI_add]; rfl) (by omega) hL dL_law_346 ?_
  refine l_callV X hk (rest := [.int _]) kv_X11_fit (c_X11_fit E _ S.1 hM.1 a1 a2 n i1 (xs (p + 1)) (xs (p + 2))) zk_32_0 (zc_32_0 E _) rfl rfl gw_378 ⟨⟨rfl, rfl⟩, Nat.le_of_ble_eq_true rfl, Nat.le_of_ble_eq_true rfl⟩ rfl rfl (Nat.le_of_ble_eq_true rfl) dL_law_347 (l_pi ?_)
  refine l_icmp_eq X (tgt := 1003) dL_law_350 (by decide) (fun _ => ?_) (fun q => absurd rfl q)
  exact next _ _ hX hM (hI.up (Nat.le_add_right n 31) hn)

set_option maxRecDepth 100000 in
set_option maxHeartbeats 1000000 in
theorem lc_5 (X : LX g E kc kn b L xs) (hp : p + 3 < L) (hX : XS M S) (hM : MS M S) (hI : IV S n) (hn : n + 31 ≤ 100000) (next : LN g E kc kn b n p) : ZL g E kc kn M (LV E b p) 355 [] := by
  obtain ⟨X, hk, V, hL⟩ := X
  obtain ⟨a1, a2, i1⟩ := hI.1
  obtain ⟨nx, hH⟩ := hX.2.1
  refine l_aload_n X 2 dL_law_355 rfl rfl ?_
  refine l_aload_n X 3 dL_law_356 rfl rfl ?_
  refine l_iload_n X 0 dL_law_357 rfl rfl ?_
  refine l_iconst X (v := 1) dL_law_358 (by decide) ?_
  refine l_iadd X dL_law_359 ?_
  refine l_sld X V (j := p + 1) (by rw [← nI_add]; rfl) (by omega) hL dL_law_360 ?_
  refine l_aload_n X 3 dL_law_361 rfl rfl ?_
  refine l_iload_n X 0 dL_law_362 rfl rfl ?_
  refine l_iconst X (v := 2) dL_law_363 (by decide) ?_
  refine l_iadd X dL_law_364 ?_
  refine l_sld X V (j := p + 2) (by rw [← nI_add]; rfl) (by omega) hL dL_law_365 ?_
  refine l_callV X hk (rest := []) kv_X10_seat (c_X10_seat E _ S.1 hX.1 a1 a2 n i1 S.2.2.1 hX.2.2.1 S.2.1 nx hH (xs (p + 1)) (xs (p + 2))) zk_17_0 (zc_17_0 E _) rfl rfl gw_386 ⟨⟨rfl, rfl⟩, Nat.le_of_ble_eq_true rfl, Nat.le_of_ble_eq_true rfl⟩ rfl rfl (Nat.le_of_ble_eq_true rfl) dL_law_366 (l_ri (fun v M1 h1 => ?_))
  obtain ⟨rfl, hX1, f1⟩ := px_step (o := oSeat S.1 S.2.2.1 (xs (p + 1)) (xs (p + 2))) hX h1
  have hM1 := hM.mono f1
  refine l_aload_n X 1 dL_law_369 rfl rfl ?_
  refine l_aload_n X 3 dL_law_370 rfl rfl ?_
  refine l_iload_n X 0 dL_law_371 rfl rfl ?_
  refine l_iconst X (v := 1) dL_law_372 (by decide) ?_
  refine l_iadd X dL_law_373 ?_
  refine l_sld X V (j := p + 1) (by rw [← nI_add]; rfl) (by omega) hL dL_law_374 ?_
  refine l_aload_n X 3 dL_law_375 rfl rfl ?_
  refine l_iload_n X 0 dL_law_376 rfl rfl ?_
  refine l_iconst X (v := 2) dL_law_377 (by decide) ?_
  refine l_iadd X dL_law_378 ?_
  refine l_sld X V (j := p + 2) (by rw [← nI_add]; rfl) (by omega) hL dL_law_379 ?_
  refine l_callV X hk (rest := [.int _]) kv_X11_seat (c_X11_seat E _ S.1 hM1.1 a1 a2 n i1 S.2.2.1 hM1.2.2.1 S.2.1 hM1.2.1 false hM1.2.2.2.2.2.2 (xs (p + 1)) (xs (p + 2))) zk_32_0 (zc_32_0 E _) rfl rfl gw_446 ⟨⟨rfl, rfl⟩, Nat.le_of_ble_eq_true rfl, Nat.le_of_ble_eq_true rfl⟩ rfl rfl (Nat.le_of_ble_eq_true rfl) dL_law_380 (l_ri (fun w M2 h2 => ?_))
  obtain ⟨rfl, hM2, f2⟩ := mx_step (o := oSeat S.1 S.2.2.1 (xs (p + 1)) (xs (p + 2))) hM1 h2
  have hX2 := hX1.mono f2
  refine l_icmp_eq X (tgt := 1003) dL_law_383 (by decide) (fun _ => ?_) (fun q => absurd rfl q)
  exact next _ _ hX2 hM2 (hI.kp (oSeat_kp i1 (by omega)) hn)

set_option maxRecDepth 100000 in
set_option maxHeartbeats 1000000 in
theorem lc_6 (X : LX g E kc kn b L xs) (hp : p + 3 < L) (hX : XS M S) (hM : MS M S) (hI : IV S n) (hn : n + 31 ≤ 100000) (next : LN g E kc kn b n p) : ZL g E kc kn M (LV E b p) 388 [] := by
  obtain ⟨X, hk, V, hL⟩ := X
  obtain ⟨a1, a2, i1⟩ := hI.1
  obtain ⟨nx, hH⟩ := hX.2.1
  refine l_aload_n X 2 dL_law_388 rfl rfl ?_
  refine l_aload_n X 3 dL_law_389 rfl rfl ?_
  refine l_iload_n X 0 dL_law_390 rfl rfl ?_
  refine l_iconst X (v := 1) dL_law_391 (by decide) ?_
  refine l_iadd X dL_law_392 ?_
  refine l_sld X V (j := p + 1) (by rw [← nI_add]; rfl) (by omega) hL dL_law_393 ?_
  refine l_callV X hk (rest := []) kv_X10_rise (c_X10_rise E _ S.1 hX.1 a1 a2 n i1 S.2.2.1 hX.2.2.1 S.2.1 nx hH (xs (p + 1))) zk_17_0 (zc_17_0 E _) rfl rfl gw_478 ⟨⟨rfl, rfl⟩, Nat.le_of_ble_eq_true rfl, Nat.le_of_ble_eq_true rfl⟩ rfl rfl (Nat.le_of_ble_eq_true rfl) dL_law_394 (l_ri (fun v M1 h1 => ?_))
  obtain ⟨rfl, hX1, f1⟩ := px_step (o := oRise S.1 S.2.2.1 (xs (p + 1))) hX h1
  have hM1 := hM.mono f1
  refine l_aload_n X 1 dL_law_397 rfl rfl ?_
  refine l_aload_n X 3 dL_law_398 rfl rfl ?_
  refine l_iload_n X 0 dL_law_399 rfl rfl ?_
  refine l_iconst X (v := 1) dL_law_400 (by decide) ?_
  refine l_iadd X dL_law_401 ?_
  refine l_sld X V (j := p + 1) (by rw [← nI_add]; rfl) (by omega) hL dL_law_402 ?_
  refine l_callV X hk (rest := [.int _]) kv_X11_rise (c_X11_rise E _ S.1 hM1.1 a1 a2 n i1 S.2.2.1 hM1.2.2.1 S.2.1 hM1.2.1 false hM1.2.2.2.2.2.2 (xs (p + 1))) zk_32_0 (zc_32_0 E _) rfl rfl gw_491 ⟨⟨rfl, rfl⟩, Nat.le_of_ble_eq_true rfl, Nat.le_of_ble_eq_true rfl⟩ rfl rfl (Nat.le_of_ble_eq_true rfl) dL_law_403 (l_ri (fun w M2 h2 => ?_))
  obtain ⟨rfl, hM2, f2⟩ := mx_step (o := oRise S.1 S.2.2.1 (xs (p + 1))) hM1 h2
  have hX2 := hX1.mono f2
  refine l_icmp_eq X (tgt := 1003) dL_law_406 (by decide) (fun _ => ?_) (fun q => absurd rfl q)
  exact next _ _ hX2 hM2 (hI.kp (oRise_kp i1 (by omega)) hn)

set_option maxRecDepth 100000 in
set_option maxHeartbeats 1000000 in
theorem lc_7 (X : LX g E kc kn b L xs) (hp : p + 3 < L) (hX : XS M S) (hM : MS M S) (hI : IV S n) (hn : n + 31 ≤ 100000) (next : LN g E kc kn b n p) : ZL g E kc kn M (LV E b p) 411 [] := by
  obtain ⟨X, hk, V, hL⟩ := X
  obtain ⟨a1, a2, i1⟩ := hI.1
  obtain ⟨nx, hH⟩ := hX.2.1
  refine l_aload_n X 2 dL_law_411 rfl rfl ?_
  refine l_callV X hk (rest := []) kv_X10_season (c_X10_season E _ S.1 hX.1 a1 a2 n i1 S.2.2.1 hX.2.2.1 S.2.1 nx hH ) zk_17_0 (zc_17_0 E _) rfl rfl gw_499 ⟨⟨rfl, rfl⟩, Nat.le_of_ble_eq_true rfl, Nat.le_of_ble_eq_true rfl⟩ rfl rfl (Nat.le_of_ble_eq_true rfl) dL_law_412 (l_ri (fun v M1 h1 => ?_))
  obtain ⟨rfl, hX1, f1⟩ := px_step (o := oSeason S.1 S.2.2.1) hX h1
  have hM1 := hM.mono f1
  refine l_aload_n X 1 dL_law_415 rfl rfl ?_
  refine l_callV X hk (rest := [.int _]) kv_X11_season (c_X11_season E _ S.1 hM1.1 a1 a2 n i1 S.2.2.1 hM1.2.2.1 S.2.1 hM1.2.1 false hM1.2.2.2.2.2.2 ) zk_32_0 (zc_32_0 E _) rfl rfl gw_551 ⟨⟨rfl, rfl⟩, Nat.le_of_ble_eq_true rfl, Nat.le_of_ble_eq_true rfl⟩ rfl rfl (Nat.le_of_ble_eq_true rfl) dL_law_416 (l_ri (fun w M2 h2 => ?_))
  obtain ⟨rfl, hM2, f2⟩ := mx_step (o := oSeason S.1 S.2.2.1) hM1 h2
  have hX2 := hX1.mono f2
  refine l_icmp_eq X (tgt := 1003) dL_law_419 (by decide) (fun _ => ?_) (fun q => absurd rfl q)
  exact next _ _ hX2 hM2 (hI.kp (oSeason_kp i1 (by omega)) hn)

set_option maxRecDepth 100000 in
set_option maxHeartbeats 1000000 in
theorem lc_8 (X : LX g E kc kn b L xs) (hp : p + 3 < L) (hX : XS M S) (hM : MS M S) (hI : IV S n) (hn : n + 31 ≤ 100000) (next : LN g E kc kn b n p) : ZL g E kc kn M (LV E b p) 424 [] := by
  obtain ⟨X, hk, V, hL⟩ := X
  obtain ⟨a1, a2, i1⟩ := hI.1
  obtain ⟨nx, hH⟩ := hX.2.1
  refine l_aload_n X 2 dL_law_424 rfl rfl ?_
  refine l_aload_n X 3 dL_law_425 rfl rfl ?_
  refine l_iload_n X 0 dL_law_426 rfl rfl ?_
  refine l_iconst X (v := 1) dL_law_427 (by decide) ?_
  refine l_iadd X dL_law_428 ?_
  refine l_sld X V (j := p + 1) (by rw [← nI_add]; rfl) (by omega) hL dL_law_429 ?_
  refine l_callV X hk (rest := []) kv_X10_would (c_X10_would E _ S.1 hX.1 a1 a2 n i1 (xs (p + 1))) zk_17_0 (zc_17_0 E _) rfl rfl gw_579 ⟨⟨rfl, rfl⟩, Nat.le_of_ble_eq_true rfl, Nat.le_of_ble_eq_true rfl⟩ rfl rfl (Nat.le_of_ble_eq_true rfl) dL_law_430 (l_ri (fun v M1 h1 => ?_))
  obtain ⟨rfl, e1⟩ := h1
  obtain ⟨hX1, f1⟩ := hX.fw e1
  have hM1 := hM.mono f1
  refine l_aload_n X 1 dL_law_433 rfl rfl ?_
  refine l_aload_n X 3 dL_law_434 rfl rfl ?_
  refine l_iload_n X 0 dL_law_435 rfl rfl ?_
  refine l_iconst X (v := 1) dL_law_436 (by decide) ?_
  refine l_iadd X dL_law_437 ?_
  refine l_sld X V (j := p + 1) (by rw [← nI_add]; rfl) (by omega) hL dL_law_438 ?_
  refine l_callV X hk (rest := [.int _]) kv_X11_would (c_X11_would E _ S.1 hM1.1 a1 a2 n i1 (xs (p + 1))) zk_32_0 (zc_32_0 E _) rfl rfl gw_583 ⟨⟨rfl, rfl⟩, Nat.le_of_ble_eq_true rfl, Nat.le_of_ble_eq_true rfl⟩ rfl rfl (Nat.le_of_ble_eq_true rfl) dL_law_439 (l_ri (fun w M2 h2 => ?_))
  obtain ⟨rfl, e2, e3⟩ := h2
  obtain ⟨hM2, f2⟩ := w_step hM1 e2 e3
  have hX2 := hX1.mono f2
  refine l_icmp_eq X (tgt := 1003) dL_law_442 (by decide) (fun _ => ?_) (fun q => absurd rfl q)
  exact next _ _ hX2 hM2 (hI.up (Nat.le_add_right n 31) hn)

set_option maxRecDepth 100000 in
set_option maxHeartbeats 1000000 in
theorem lc_9 (X : LX g E kc kn b L xs) (hp : p + 3 < L) (hX : XS M S) (hM : MS M S) (hI : IV S n) (hn : n + 31 ≤ 100000) (next : LN g E kc kn b n p) : ZL g E kc kn M (LV E b p) 447 [] := by
  obtain ⟨X, hk, V, hL⟩ := X
  obtain ⟨a1, a2, i1⟩ := hI.1
  obtain ⟨nx, hH⟩ := hX.2.1
  refine l_aload_n X 2 dL_law_447 rfl rfl ?_
  refine l_aload_n X 3 dL_law_448 rfl rfl ?_
  refine l_iload_n X 0 dL_law_449 rfl rfl ?_
  refine l_iconst X (v := 1) dL_law_450 (by decide) ?_
  refine l_iadd X dL_law_451 ?_
  refine l_sld X V (j := p + 1) (by rw [← nI_add]; rfl) (by omega) hL dL_law_452 ?_
  refine l_callV X hk (rest := []) kv_X10_wouldAgain (c_X10_wouldAgain E _ S.1 hX.1 a1 a2 n i1 (xs (p + 1))) zk_17_0 (zc_17_0 E _) rfl rfl gw_587 ⟨⟨rfl, rfl⟩, Nat.le_of_ble_eq_true rfl, Nat.le_of_ble_eq_true rfl⟩ rfl rfl (Nat.le_of_ble_eq_true rfl) dL_law_453 (l_ri (fun v M1 h1 => ?_))
  obtain ⟨rfl, e1⟩ := h1
  obtain ⟨hX1, f1⟩ := hX.fw e1
  have hM1 := hM.mono f1
  refine l_aload_n X 1 dL_law_456 rfl rfl ?_
  refine l_aload_n X 3 dL_law_457 rfl rfl ?_
  refine l_iload_n X 0 dL_law_458 rfl rfl ?_
  refine l_iconst X (v := 1) dL_law_459 (by decide) ?_
  refine l_iadd X dL_law_460 ?_
  refine l_sld X V (j := p + 1) (by rw [← nI_add]; rfl) (by omega) hL dL_law_461 ?_
  refine l_callV X hk (rest := [.int _]) kv_X11_wouldAgain (c_X11_wouldAgain E _ S.1 hM1.1 a1 a2 n i1 (xs (p + 1))) zk_32_0 (zc_32_0 E _) rfl rfl gw_603 ⟨⟨rfl, rfl⟩, Nat.le_of_ble_eq_true rfl, Nat.le_of_ble_eq_true rfl⟩ rfl rfl (Nat.le_of_ble_eq_true rfl) dL_law_462 (l_ri (fun w M2 h2 => ?_))
  obtain ⟨rfl, e2, e3⟩ := h2
  obtain ⟨hM2, f2⟩ := w_step hM1 e2 e3
  have hX2 := hX1.mono f2
  refine l_icmp_eq X (tgt := 1003) dL_law_465 (by decide) (fun _ => ?_) (fun q => absurd rfl q)
  exact next _ _ hX2 hM2 (hI.up (Nat.le_add_right n 31) hn)

set_option maxRecDepth 100000 in
set_option maxHeartbeats 1000000 in
theorem lc_10 (X : LX g E kc kn b L xs) (hp : p + 3 < L) (hX : XS M S) (hM : MS M S) (hI : IV S n) (hn : n + 31 ≤ 100000) (next : LN g E kc kn b n p) : ZL g E kc kn M (LV E b p) 470 [] := by
  obtain ⟨X, hk, V, hL⟩ := X
  obtain ⟨a1, a2, i1⟩ := hI.1
  obtain ⟨nx, hH⟩ := hX.2.1
  refine l_aload_n X 2 dL_law_470 rfl rfl ?_
  refine l_callV X hk (rest := []) kv_X10_restless (c_X10_restless E _ S.1 hX.1 a1 a2 n i1 ) zk_17_0 (zc_17_0 E _) rfl rfl gw_608 ⟨⟨rfl, rfl⟩, Nat.le_of_ble_eq_true rfl, Nat.le_of_ble_eq_true rfl⟩ rfl rfl (Nat.le_of_ble_eq_true rfl) dL_law_471 (l_pi ?_)
  refine l_aload_n X 1 dL_law_474 rfl rfl ?_
  refine l_callV X hk (rest := [.int _]) kv_X11_restless (c_X11_restless E _ S.1 hM.1 a1 a2 n i1 ) zk_32_0 (zc_32_0 E _) rfl rfl gw_621 ⟨⟨rfl, rfl⟩, Nat.le_of_ble_eq_true rfl, Nat.le_of_ble_eq_true rfl⟩ rfl rfl (Nat.le_of_ble_eq_true rfl) dL_law_475 (l_pi ?_)
  refine l_icmp_eq X (tgt := 1003) dL_law_478 (by decide) (fun _ => ?_) (fun q => absurd rfl q)
  exact next _ _ hX hM (hI.up (Nat.le_add_right n 31) hn)

set_option maxRecDepth 100000 in
set_option maxHeartbeats 1000000 in
theorem lc_11 (X : LX g E kc kn b L xs) (hp : p + 3 < L) (hX : XS M S) (hM : MS M S) (hI : IV S n) (hn : n + 31 ≤ 100000) (next : LN g E kc kn b n p) : ZL g E kc kn M (LV E b p) 483 [] := by
  obtain ⟨X, hk, V, hL⟩ := X
  obtain ⟨a1, a2, i1⟩ := hI.1
  obtain ⟨nx, hH⟩ := hX.2.1
  refine l_aload_n X 2 dL_law_483 rfl rfl ?_
  refine l_aload_n X 3 dL_law_484 rfl rfl ?_
  refine l_iload_n X 0 dL_law_485 rfl rfl ?_
  refine l_iconst X (v := 1) dL_law_486 (by decide) ?_
  refine l_iadd X dL_law_487 ?_
  refine l_sld X V (j := p + 1) (by rw [← nI_add]; rfl) (by omega) hL dL_law_488 ?_
  refine l_aload_n X 3 dL_law_489 rfl rfl ?_
  refine l_iload_n X 0 dL_law_490 rfl rfl ?_
  refine l_iconst X (v := 2) dL_law_491 (by decide) ?_
  refine l_iadd X dL_law_492 ?_
  refine l_sld X V (j := p + 2) (by rw [← nI_add]; rfl) (by omega) hL dL_law_493 ?_
  refine l_callV X hk (rest := []) kv_X10_bid (c_X10_bid E _ S.1 hX.1 a1 a2 n i1 S.2.2.1 hX.2.2.1 S.2.1 nx hH (xs (p + 1)) (xs (p + 2))) zk_17_0 (zc_17_0 E _) rfl rfl gw_629 ⟨⟨rfl, rfl⟩, Nat.le_of_ble_eq_true rfl, Nat.le_of_ble_eq_true rfl⟩ rfl rfl (Nat.le_of_ble_eq_true rfl) dL_law_494 (l_ri (fun v M1 h1 => ?_))
  obtain ⟨rfl, hX1, f1⟩ := px_step (o := oBid S.1 S.2.2.1 (xs (p + 1)) (xs (p + 2))) hX h1
  have hM1 := hM.mono f1
  refine l_aload_n X 1 dL_law_497 rfl rfl ?_
  refine l_aload_n X 3 dL_law_498 rfl rfl ?_
  refine l_iload_n X 0 dL_law_499 rfl rfl ?_
  refine l_iconst X (v := 1) dL_law_500 (by decide) ?_
  refine l_iadd X dL_law_501 ?_
  refine l_sld X V (j := p + 1) (by rw [← nI_add]; rfl) (by omega) hL dL_law_502 ?_
  refine l_aload_n X 3 dL_law_503 rfl rfl ?_
  refine l_iload_n X 0 dL_law_504 rfl rfl ?_
  refine l_iconst X (v := 2) dL_law_505 (by decide) ?_
  refine l_iadd X dL_law_506 ?_
  refine l_sld X V (j := p + 2) (by rw [← nI_add]; rfl) (by omega) hL dL_law_507 ?_
  refine l_callV X hk (rest := [.int _]) kv_X11_bid (c_X11_bid E _ S.1 hM1.1 a1 a2 n i1 S.2.2.1 hM1.2.2.1 S.2.1 hM1.2.1 false hM1.2.2.2.2.2.2 (xs (p + 1)) (xs (p + 2))) zk_32_0 (zc_32_0 E _) rfl rfl gw_638 ⟨⟨rfl, rfl⟩, Nat.le_of_ble_eq_true rfl, Nat.le_of_ble_eq_true rfl⟩ rfl rfl (Nat.le_of_ble_eq_true rfl) dL_law_508 (l_ri (fun w M2 h2 => ?_))
  obtain ⟨rfl, hM2, f2⟩ := mx_step (o := oBid S.1 S.2.2.1 (xs (p + 1)) (xs (p + 2))) hM1 h2
  have hX2 := hX1.mono f2
  refine l_icmp_eq X (tgt := 1003) dL_law_511 (by decide) (fun _ => ?_) (fun q => absurd rfl q)
  exact next _ _ hX2 hM2 (hI.kp (oBid_kp i1 (by omega)) hn)

set_option maxRecDepth 100000 in
set_option maxHeartbeats 1000000 in
theorem lc_12 (X : LX g E kc kn b L xs) (hp : p + 3 < L) (hX : XS M S) (hM : MS M S) (hI : IV S n) (hn : n + 31 ≤ 100000) (next : LN g E kc kn b n p) : ZL g E kc kn M (LV E b p) 516 [] := by
  obtain ⟨X, hk, V, hL⟩ := X
  obtain ⟨a1, a2, i1⟩ := hI.1
  obtain ⟨nx, hH⟩ := hX.2.1
  refine l_aload_n X 2 dL_law_516 rfl rfl ?_
  refine l_aload_n X 3 dL_law_517 rfl rfl ?_
  refine l_iload_n X 0 dL_law_518 rfl rfl ?_
  refine l_iconst X (v := 1) dL_law_519 (by decide) ?_
  refine l_iadd X dL_law_520 ?_
  refine l_sld X V (j := p + 1) (by rw [← nI_add]; rfl) (by omega) hL dL_law_521 ?_
  refine l_callV X hk (rest := []) kv_X10_sell (c_X10_sell E _ S.1 hX.1 a1 a2 n i1 S.2.2.1 hX.2.2.1 S.2.1 nx hH (xs (p + 1))) zk_17_0 (zc_17_0 E _) rfl rfl gw_642 ⟨⟨rfl, rfl⟩, Nat.le_of_ble_eq_true rfl, Nat.le_of_ble_eq_true rfl⟩ rfl rfl (Nat.le_of_ble_eq_true rfl) dL_law_522 (l_ri (fun v M1 h1 => ?_))
  obtain ⟨rfl, hX1, f1⟩ := px_step (o := oSell S.1 S.2.2.1 (xs (p + 1))) hX h1
  have hM1 := hM.mono f1
  refine l_aload_n X 1 dL_law_525 rfl rfl ?_
  refine l_aload_n X 3 dL_law_526 rfl rfl ?_
  refine l_iload_n X 0 dL_law_527 rfl rfl ?_
  refine l_iconst X (v := 1) dL_law_528 (by decide) ?_
  refine l_iadd X dL_law_529 ?_
  refine l_sld X V (j := p + 1) (by rw [← nI_add]; rfl) (by omega) hL dL_law_530 ?_
  refine l_callV X hk (rest := [.int _]) kv_X11_sell (c_X11_sell E _ S.1 hM1.1 a1 a2 n i1 S.2.2.1 hM1.2.2.1 S.2.1 hM1.2.1 false hM1.2.2.2.2.2.2 (xs (p + 1))) zk_32_0 (zc_32_0 E _) rfl rfl gw_664 ⟨⟨rfl, rfl⟩, Nat.le_of_ble_eq_true rfl, Nat.le_of_ble_eq_true rfl⟩ rfl rfl (Nat.le_of_ble_eq_true rfl) dL_law_531 (l_ri (fun w M2 h2 => ?_))
  obtain ⟨rfl, hM2, f2⟩ := mx_step (o := oSell S.1 S.2.2.1 (xs (p + 1))) hM1 h2
  have hX2 := hX1.mono f2
  refine l_icmp_eq X (tgt := 1003) dL_law_534 (by decide) (fun _ => ?_) (fun q => absurd rfl q)
  exact next _ _ hX2 hM2 (hI.kp (oSell_kp i1 (by omega)) hn)

set_option maxRecDepth 100000 in
set_option maxHeartbeats 1000000 in
theorem lc_13 (X : LX g E kc kn b L xs) (hp : p + 3 < L) (hX : XS M S) (hM : MS M S) (hI : IV S n) (hn : n + 31 ≤ 100000) (next : LN g E kc kn b n p) : ZL g E kc kn M (LV E b p) 539 [] := by
  obtain ⟨X, hk, V, hL⟩ := X
  obtain ⟨a1, a2, i1⟩ := hI.1
  obtain ⟨nx, hH⟩ := hX.2.1
  refine l_aload_n X 2 dL_law_539 rfl rfl ?_
  refine l_aload_n X 3 dL_law_540 rfl rfl ?_
  refine l_iload_n X 0 dL_law_541 rfl rfl ?_
  refine l_iconst X (v := 1) dL_law_542 (by decide) ?_
  refine l_iadd X dL_law_543 ?_
  refine l_sld X V (j := p + 1) (by rw [← nI_add]; rfl) (by omega) hL dL_law_544 ?_
  refine l_callV X hk (rest := []) kv_X10_concert (c_X10_concert E _ S.1 hX.1 a1 a2 n i1 S.2.2.1 hX.2.2.1 S.2.1 nx hH (xs (p + 1))) zk_17_0 (zc_17_0 E _) rfl rfl gw_672 ⟨⟨rfl, rfl⟩, Nat.le_of_ble_eq_true rfl, Nat.le_of_ble_eq_true rfl⟩ rfl rfl (Nat.le_of_ble_eq_true rfl) dL_law_545 (l_ri (fun v M1 h1 => ?_))
  obtain ⟨rfl, hX1, f1⟩ := px_step (o := oConcert S.1 S.2.2.1 (xs (p + 1))) hX h1
  have hM1 := hM.mono f1
  refine l_aload_n X 1 dL_law_548 rfl rfl ?_
  refine l_aload_n X 3 dL_law_549 rfl rfl ?_
  refine l_iload_n X 0 dL_law_550 rfl rfl ?_
  refine l_iconst X (v := 1) dL_law_551 (by decide) ?_
  refine l_iadd X dL_law_552 ?_
  refine l_sld X V (j := p + 1) (by rw [← nI_add]; rfl) (by omega) hL dL_law_553 ?_
  refine l_callV X hk (rest := [.int _]) kv_X11_concert (c_X11_concert E _ S.1 hM1.1 a1 a2 n i1 S.2.2.1 hM1.2.2.1 S.2.1 hM1.2.1 false hM1.2.2.2.2.2.2 (xs (p + 1)) (by omega)) zk_32_0 (zc_32_0 E _) rfl rfl gw_704 ⟨⟨rfl, rfl⟩, Nat.le_of_ble_eq_true rfl, Nat.le_of_ble_eq_true rfl⟩ rfl rfl (Nat.le_of_ble_eq_true rfl) dL_law_554 (l_ri (fun w M2 h2 => ?_))
  obtain ⟨rfl, hM2, f2⟩ := mx_step (o := oConcert S.1 S.2.2.1 (xs (p + 1))) hM1 h2
  have hX2 := hX1.mono f2
  refine l_icmp_eq X (tgt := 1003) dL_law_557 (by decide) (fun _ => ?_) (fun q => absurd rfl q)
  exact next _ _ hX2 hM2 (hI.kp (oConcert_kp i1 (by omega)) hn)

set_option maxRecDepth 100000 in
set_option maxHeartbeats 1000000 in
theorem lc_14 (X : LX g E kc kn b L xs) (hp : p + 3 < L) (hX : XS M S) (hM : MS M S) (hI : IV S n) (hn : n + 31 ≤ 100000) (next : LN g E kc kn b n p) : ZL g E kc kn M (LV E b p) 562 [] := by
  obtain ⟨X, hk, V, hL⟩ := X
  obtain ⟨a1, a2, i1⟩ := hI.1
  obtain ⟨nx, hH⟩ := hX.2.1
  refine l_aload_n X 2 dL_law_562 rfl rfl ?_
  refine l_aload_n X 3 dL_law_563 rfl rfl ?_
  refine l_iload_n X 0 dL_law_564 rfl rfl ?_
  refine l_iconst X (v := 1) dL_law_565 (by decide) ?_
  refine l_iadd X dL_law_566 ?_
  refine l_sld X V (j := p + 1) (by rw [← nI_add]; rfl) (by omega) hL dL_law_567 ?_
  refine l_callV X hk (rest := []) kv_X10_lasts (c_X10_lasts E _ S.1 hX.1 a1 a2 n i1 (xs (p + 1))) zk_17_0 (zc_17_0 E _) rfl rfl gw_720 ⟨⟨rfl, rfl⟩, Nat.le_of_ble_eq_true rfl, Nat.le_of_ble_eq_true rfl⟩ rfl rfl (Nat.le_of_ble_eq_true rfl) dL_law_568 (l_pi ?_)
  refine l_aload_n X 1 dL_law_571 rfl rfl ?_
  refine l_aload_n X 3 dL_law_572 rfl rfl ?_
  refine l_iload_n X 0 dL_law_573 rfl rfl ?_
  refine l_iconst X (v := 1) dL_law_574 (by decide) ?_
  refine l_iadd X dL_law_575 ?_
  refine l_sld X V (j := p + 1) (by rw [← nI_add]; rfl) (by omega) hL dL_law_576 ?_
  refine l_callV X hk (rest := [.int _]) kv_X11_lasts (c_X11_lasts E _ S.1 hM.1 a1 a2 n i1 (xs (p + 1))) zk_32_0 (zc_32_0 E _) rfl rfl gw_726 ⟨⟨rfl, rfl⟩, Nat.le_of_ble_eq_true rfl, Nat.le_of_ble_eq_true rfl⟩ rfl rfl (Nat.le_of_ble_eq_true rfl) dL_law_577 (l_pi ?_)
  refine l_icmp_eq X (tgt := 1003) dL_law_580 (by decide) (fun _ => ?_) (fun q => absurd rfl q)
  exact next _ _ hX hM (hI.up (Nat.le_add_right n 31) hn)

set_option maxRecDepth 100000 in
set_option maxHeartbeats 1000000 in
theorem lc_15 (X : LX g E kc kn b L xs) (hp : p + 3 < L) (hX : XS M S) (hM : MS M S) (hI : IV S n) (hn : n + 31 ≤ 100000) (next : LN g E kc kn b n p) : ZL g E kc kn M (LV E b p) 585 [] := by
  obtain ⟨X, hk, V, hL⟩ := X
  obtain ⟨a1, a2, i1⟩ := hI.1
  obtain ⟨nx, hH⟩ := hX.2.1
  refine l_aload_n X 2 dL_law_585 rfl rfl ?_
  refine l_aload_n X 3 dL_law_586 rfl rfl ?_
  refine l_iload_n X 0 dL_law_587 rfl rfl ?_
  refine l_iconst X (v := 1) dL_law_588 (by decide) ?_
  refine l_iadd X dL_law_589 ?_
  refine l_sld X V (j := p + 1) (by rw [← nI_add]; rfl) (by omega) hL dL_law_590 ?_
  refine l_callV X hk (rest := []) kv_X10_raise (c_X10_raise E _ S.1 hX.1 a1 a2 n i1 S.2.2.1 hX.2.2.1 S.2.1 nx hH (xs (p + 1))) zk_17_0 (zc_17_0 E _) rfl rfl gw_730 ⟨⟨rfl, rfl⟩, Nat.le_of_ble_eq_true rfl, Nat.le_of_ble_eq_true rfl⟩ rfl rfl (Nat.le_of_ble_eq_true rfl) dL_law_591 (l_ri (fun v M1 h1 => ?_))
  obtain ⟨rfl, hX1, f1⟩ := px_step (o := oRaise S.1 S.2.2.1 (xs (p + 1))) hX h1
  have hM1 := hM.mono f1
  refine l_aload_n X 1 dL_law_594 rfl rfl ?_
  refine l_aload_n X 3 dL_law_595 rfl rfl ?_
  refine l_iload_n X 0 dL_law_596 rfl rfl ?_
  refine l_iconst X (v := 1) dL_law_597 (by decide) ?_
  refine l_iadd X dL_law_598 ?_
  refine l_sld X V (j := p + 1) (by rw [← nI_add]; rfl) (by omega) hL dL_law_599 ?_
  refine l_callV X hk (rest := [.int _]) kv_X11_raise (c_X11_raise E _ S.1 hM1.1 a1 a2 n i1 S.2.2.1 hM1.2.2.1 S.2.1 hM1.2.1 false hM1.2.2.2.2.2.2 (xs (p + 1))) zk_32_0 (zc_32_0 E _) rfl rfl gw_739 ⟨⟨rfl, rfl⟩, Nat.le_of_ble_eq_true rfl, Nat.le_of_ble_eq_true rfl⟩ rfl rfl (Nat.le_of_ble_eq_true rfl) dL_law_600 (l_ri (fun w M2 h2 => ?_))
  obtain ⟨rfl, hM2, f2⟩ := mx_step (o := oRaise S.1 S.2.2.1 (xs (p + 1))) hM1 h2
  have hX2 := hX1.mono f2
  refine l_icmp_eq X (tgt := 1003) dL_law_603 (by decide) (fun _ => ?_) (fun q => absurd rfl q)
  exact next _ _ hX2 hM2 (hI.kp (oRaise_kp i1 (by omega)) hn)

set_option maxRecDepth 100000 in
set_option maxHeartbeats 1000000 in
theorem lc_16 (X : LX g E kc kn b L xs) (hp : p + 3 < L) (hX : XS M S) (hM : MS M S) (hI : IV S n) (hn : n + 31 ≤ 100000) (next : LN g E kc kn b n p) : ZL g E kc kn M (LV E b p) 608 [] := by
  obtain ⟨X, hk, V, hL⟩ := X
  obtain ⟨a1, a2, i1⟩ := hI.1
  obtain ⟨nx, hH⟩ := hX.2.1
  refine l_aload_n X 2 dL_law_608 rfl rfl ?_
  refine l_aload_n X 3 dL_law_609 rfl rfl ?_
  refine l_iload_n X 0 dL_law_610 rfl rfl ?_
  refine l_iconst X (v := 1) dL_law_611 (by decide) ?_
  refine l_iadd X dL_law_612 ?_
  refine l_sld X V (j := p + 1) (by rw [← nI_add]; rfl) (by omega) hL dL_law_613 ?_
  refine l_callV X hk (rest := []) kv_X10_promote (c_X10_promote E _ S.1 hX.1 a1 a2 n i1 S.2.2.1 hX.2.2.1 S.2.1 nx hH (xs (p + 1))) zk_17_0 (zc_17_0 E _) rfl rfl gw_743 ⟨⟨rfl, rfl⟩, Nat.le_of_ble_eq_true rfl, Nat.le_of_ble_eq_true rfl⟩ rfl rfl (Nat.le_of_ble_eq_true rfl) dL_law_614 (l_ri (fun v M1 h1 => ?_))
  obtain ⟨rfl, hX1, f1⟩ := px_step (o := oPromote S.1 S.2.2.1 (xs (p + 1))) hX h1
  have hM1 := hM.mono f1
  refine l_aload_n X 1 dL_law_617 rfl rfl ?_
  refine l_aload_n X 3 dL_law_618 rfl rfl ?_
  refine l_iload_n X 0 dL_law_619 rfl rfl ?_
  refine l_iconst X (v := 1) dL_law_620 (by decide) ?_
  refine l_iadd X dL_law_621 ?_
  refine l_sld X V (j := p + 1) (by rw [← nI_add]; rfl) (by omega) hL dL_law_622 ?_
  refine l_callV X hk (rest := [.int _]) kv_X11_promote (c_X11_promote E _ S.1 hM1.1 a1 a2 n i1 S.2.2.1 hM1.2.2.1 S.2.1 hM1.2.1 false hM1.2.2.2.2.2.2 (xs (p + 1))) zk_32_0 (zc_32_0 E _) rfl rfl gw_751 ⟨⟨rfl, rfl⟩, Nat.le_of_ble_eq_true rfl, Nat.le_of_ble_eq_true rfl⟩ rfl rfl (Nat.le_of_ble_eq_true rfl) dL_law_623 (l_ri (fun w M2 h2 => ?_))
  obtain ⟨rfl, hM2, f2⟩ := mx_step (o := oPromote S.1 S.2.2.1 (xs (p + 1))) hM1 h2
  have hX2 := hX1.mono f2
  refine l_icmp_eq X (tgt := 1003) dL_law_626 (by decide) (fun _ => ?_) (fun q => absurd rfl q)
  exact next _ _ hX2 hM2 (hI.kp (oPromote_kp i1 (by omega)) hn)

set_option maxRecDepth 100000 in
set_option maxHeartbeats 1000000 in
theorem lc_17 (X : LX g E kc kn b L xs) (hp : p + 3 < L) (hX : XS M S) (hM : MS M S) (hI : IV S n) (hn : n + 31 ≤ 100000) (next : LN g E kc kn b n p) : ZL g E kc kn M (LV E b p) 631 [] := by
  obtain ⟨X, hk, V, hL⟩ := X
  obtain ⟨a1, a2, i1⟩ := hI.1
  obtain ⟨nx, hH⟩ := hX.2.1
  refine l_aload_n X 2 dL_law_631 rfl rfl ?_
  refine l_aload_n X 3 dL_law_632 rfl rfl ?_
  refine l_iload_n X 0 dL_law_633 rfl rfl ?_
  refine l_iconst X (v := 1) dL_law_634 (by decide) ?_
  refine l_iadd X dL_law_635 ?_
  refine l_sld X V (j := p + 1) (by rw [← nI_add]; rfl) (by omega) hL dL_law_636 ?_
  refine l_callV X hk (rest := []) kv_X10_hall (c_X10_hall E _ S.1 hX.1 a1 a2 n i1 (xs (p + 1))) zk_17_0 (zc_17_0 E _) rfl rfl gw_755 ⟨⟨rfl, rfl⟩, Nat.le_of_ble_eq_true rfl, Nat.le_of_ble_eq_true rfl⟩ rfl rfl (Nat.le_of_ble_eq_true rfl) dL_law_637 (l_pi ?_)
  refine l_aload_n X 1 dL_law_640 rfl rfl ?_
  refine l_aload_n X 3 dL_law_641 rfl rfl ?_
  refine l_iload_n X 0 dL_law_642 rfl rfl ?_
  refine l_iconst X (v := 1) dL_law_643 (by decide) ?_
  refine l_iadd X dL_law_644 ?_
  refine l_sld X V (j := p + 1) (by rw [← nI_add]; rfl) (by omega) hL dL_law_645 ?_
  refine l_callV X hk (rest := [.int _]) kv_X11_hall (c_X11_hall E _ S.1 hM.1 a1 a2 n i1 (xs (p + 1))) zk_32_0 (zc_32_0 E _) rfl rfl gw_759 ⟨⟨rfl, rfl⟩, Nat.le_of_ble_eq_true rfl, Nat.le_of_ble_eq_true rfl⟩ rfl rfl (Nat.le_of_ble_eq_true rfl) dL_law_646 (l_pi ?_)
  refine l_icmp_eq X (tgt := 1003) dL_law_649 (by decide) (fun _ => ?_) (fun q => absurd rfl q)
  exact next _ _ hX hM (hI.up (Nat.le_add_right n 31) hn)

set_option maxRecDepth 100000 in
set_option maxHeartbeats 1000000 in
theorem lc_18 (X : LX g E kc kn b L xs) (hp : p + 3 < L) (hX : XS M S) (hM : MS M S) (hI : IV S n) (hn : n + 31 ≤ 100000) (next : LN g E kc kn b n p) : ZL g E kc kn M (LV E b p) 654 [] := by
  obtain ⟨X, hk, V, hL⟩ := X
  obtain ⟨a1, a2, i1⟩ := hI.1
  obtain ⟨nx, hH⟩ := hX.2.1
  refine l_aload_n X 2 dL_law_654 rfl rfl ?_
  refine l_aload_n X 3 dL_law_655 rfl rfl ?_
  refine l_iload_n X 0 dL_law_656 rfl rfl ?_
  refine l_iconst X (v := 1) dL_law_657 (by decide) ?_
  refine l_iadd X dL_law_658 ?_
  refine l_sld X V (j := p + 1) (by rw [← nI_add]; rfl) (by omega) hL dL_law_659 ?_
  refine l_callV X hk (rest := []) kv_X10_ranked (c_X10_ranked E _ S.1 hX.1 a1 a2 n i1 (xs (p + 1))) zk_17_0 (zc_17_0 E _) rfl rfl gw_763 ⟨⟨rfl, rfl⟩, Nat.le_of_ble_eq_true rfl, Nat.le_of_ble_eq_true rfl⟩ rfl rfl (Nat.le_of_ble_eq_true rfl) dL_law_660 (l_pi ?_)
  refine l_aload_n X 1 dL_law_663 rfl rfl ?_
  refine l_aload_n X 3 dL_law_664 rfl rfl ?_
  refine l_iload_n X 0 dL_law_665 rfl rfl ?_
  refine l_iconst X (v := 1) dL_law_666 (by decide) ?_
  refine l_iadd X dL_law_667 ?_
  refine l_sld X V (j := p + 1) (by rw [← nI_add]; rfl) (by omega) hL dL_law_668 ?_
  refine l_callV X hk (rest := [.int _]) kv_X11_ranked (c_X11_ranked E _ S.1 hM.1 a1 a2 n i1 (xs (p + 1))) zk_32_0 (zc_32_0 E _) rfl rfl gw_772 ⟨⟨rfl, rfl⟩, Nat.le_of_ble_eq_true rfl, Nat.le_of_ble_eq_true rfl⟩ rfl rfl (Nat.le_of_ble_eq_true rfl) dL_law_669 (l_pi ?_)
  refine l_icmp_eq X (tgt := 1003) dL_law_672 (by decide) (fun _ => ?_) (fun q => absurd rfl q)
  exact next _ _ hX hM (hI.up (Nat.le_add_right n 31) hn)

set_option maxRecDepth 100000 in
set_option maxHeartbeats 1000000 in
theorem lc_19 (X : LX g E kc kn b L xs) (hp : p + 3 < L) (hX : XS M S) (hM : MS M S) (hI : IV S n) (hn : n + 31 ≤ 100000) (next : LN g E kc kn b n p) : ZL g E kc kn M (LV E b p) 677 [] := by
  obtain ⟨X, hk, V, hL⟩ := X
  obtain ⟨a1, a2, i1⟩ := hI.1
  obtain ⟨nx, hH⟩ := hX.2.1
  refine l_aload_n X 2 dL_law_677 rfl rfl ?_
  refine l_aload_n X 3 dL_law_678 rfl rfl ?_
  refine l_iload_n X 0 dL_law_679 rfl rfl ?_
  refine l_iconst X (v := 1) dL_law_680 (by decide) ?_
  refine l_iadd X dL_law_681 ?_
  refine l_sld X V (j := p + 1) (by rw [← nI_add]; rfl) (by omega) hL dL_law_682 ?_
  refine l_callV X hk (rest := []) kv_X10_richest (c_X10_richest E _ S.1 hX.1 a1 a2 n i1 (xs (p + 1))) zk_17_0 (zc_17_0 E _) rfl rfl gw_780 ⟨⟨rfl, rfl⟩, Nat.le_of_ble_eq_true rfl, Nat.le_of_ble_eq_true rfl⟩ rfl rfl (Nat.le_of_ble_eq_true rfl) dL_law_683 (l_pi ?_)
  refine l_aload_n X 1 dL_law_686 rfl rfl ?_
  refine l_aload_n X 3 dL_law_687 rfl rfl ?_
  refine l_iload_n X 0 dL_law_688 rfl rfl ?_
  refine l_iconst X (v := 1) dL_law_689 (by decide) ?_
  refine l_iadd X dL_law_690 ?_
  refine l_sld X V (j := p + 1) (by rw [← nI_add]; rfl) (by omega) hL dL_law_691 ?_
  refine l_callV X hk (rest := [.int _]) kv_X11_richest (c_X11_richest E _ S.1 hM.1 a1 a2 n i1 (xs (p + 1))) zk_32_0 (zc_32_0 E _) rfl rfl gw_788 ⟨⟨rfl, rfl⟩, Nat.le_of_ble_eq_true rfl, Nat.le_of_ble_eq_true rfl⟩ rfl rfl (Nat.le_of_ble_eq_true rfl) dL_law_692 (l_pi ?_)
  refine l_icmp_eq X (tgt := 1003) dL_law_695 (by decide) (fun _ => ?_) (fun q => absurd rfl q)
  exact next _ _ hX hM (hI.up (Nat.le_add_right n 31) hn)

set_option maxRecDepth 100000 in
set_option maxHeartbeats 1000000 in
theorem lc_20 (X : LX g E kc kn b L xs) (hp : p + 3 < L) (hX : XS M S) (hM : MS M S) (hI : IV S n) (hn : n + 31 ≤ 100000) (next : LN g E kc kn b n p) : ZL g E kc kn M (LV E b p) 700 [] := by
  obtain ⟨X, hk, V, hL⟩ := X
  obtain ⟨a1, a2, i1⟩ := hI.1
  obtain ⟨nx, hH⟩ := hX.2.1
  refine l_aload_n X 2 dL_law_700 rfl rfl ?_
  refine l_aload_n X 3 dL_law_701 rfl rfl ?_
  refine l_iload_n X 0 dL_law_702 rfl rfl ?_
  refine l_iconst X (v := 1) dL_law_703 (by decide) ?_
  refine l_iadd X dL_law_704 ?_
  refine l_sld X V (j := p + 1) (by rw [← nI_add]; rfl) (by omega) hL dL_law_705 ?_
  refine l_callV X hk (rest := []) kv_X10_append (c_X10_append E _ S.1 hX.1 S.2.2.2.1 hX.2.2.2.1 (xs (p + 1))) zk_17_0 (zc_17_0 E _) rfl rfl gw_796 ⟨⟨rfl, rfl⟩, Nat.le_of_ble_eq_true rfl, Nat.le_of_ble_eq_true rfl⟩ rfl rfl (Nat.le_of_ble_eq_true rfl) dL_law_706 (l_ri (fun v M1 h1 => ?_))
  obtain ⟨rfl, e1, e2⟩ := h1
  obtain ⟨hX1, f1⟩ := xt_step hX e1 e2
  have hM1 := hM.mono f1
  refine l_aload_n X 1 dL_law_709 rfl rfl ?_
  refine l_aload_n X 3 dL_law_710 rfl rfl ?_
  refine l_iload_n X 0 dL_law_711 rfl rfl ?_
  refine l_iconst X (v := 1) dL_law_712 (by decide) ?_
  refine l_iadd X dL_law_713 ?_
  refine l_sld X V (j := p + 1) (by rw [← nI_add]; rfl) (by omega) hL dL_law_714 ?_
  refine l_callV X hk (rest := [.int _]) kv_X11_append (c_X11_append E _ S.2.2.2.1 hM1.2.2.2.1 (xs (p + 1))) zk_32_0 (zc_32_0 E _) rfl rfl gw_811 ⟨⟨rfl, rfl⟩, Nat.le_of_ble_eq_true rfl, Nat.le_of_ble_eq_true rfl⟩ rfl rfl (Nat.le_of_ble_eq_true rfl) dL_law_715 (l_ri (fun w M2 h2 => ?_))
  obtain ⟨rfl, e3, e4⟩ := h2
  obtain ⟨hM2, f2⟩ := mt_step hM1 e3 e4
  have hX2 := hX1.mono f2
  refine l_icmp_eq X (tgt := 1003) dL_law_718 (by decide) (fun _ => ?_) (fun q => absurd rfl q)
  exact next _ _ hX2 hM2 (hI.t hn)

set_option maxRecDepth 100000 in
set_option maxHeartbeats 1000000 in
theorem lc_21 (X : LX g E kc kn b L xs) (hp : p + 3 < L) (hX : XS M S) (hM : MS M S) (hI : IV S n) (hn : n + 31 ≤ 100000) (next : LN g E kc kn b n p) : ZL g E kc kn M (LV E b p) 723 [] := by
  obtain ⟨X, hk, V, hL⟩ := X
  obtain ⟨a1, a2, i1⟩ := hI.1
  obtain ⟨nx, hH⟩ := hX.2.1
  refine l_aload_n X 2 dL_law_723 rfl rfl ?_
  refine l_callV X hk (rest := []) kv_X10_run (c_X10_run E _ S.1 hX.1 a1 a2 n i1 S.2.2.1 hX.2.2.1 S.2.1 nx hH S.2.2.2.1 hX.2.2.2.1 hn ) zk_17_0 (zc_17_0 E _) rfl rfl gw_816 ⟨⟨rfl, rfl⟩, Nat.le_of_ble_eq_true rfl, Nat.le_of_ble_eq_true rfl⟩ rfl rfl (Nat.le_of_ble_eq_true rfl) dL_law_724 (l_ri (fun v M1 h1 => ?_))
  obtain ⟨rfl, hX1, f1⟩ := xrun_step hX h1
  have hM1 := hM.mono f1
  refine l_aload_n X 1 dL_law_727 rfl rfl ?_
  refine l_callV X hk (rest := [.int _]) kv_X11_run (c_X11_run E _ S.1 hM1.1 a1 a2 n i1 S.2.2.1 hM1.2.2.1 S.2.1 hM1.2.1 hM1.2.2.2.2.2.2 S.2.2.2.1 hM1.2.2.2.1 hI.2.2.1 hn ) zk_32_0 (zc_32_0 E _) rfl rfl gw_877 ⟨⟨rfl, rfl⟩, Nat.le_of_ble_eq_true rfl, Nat.le_of_ble_eq_true rfl⟩ rfl rfl (Nat.le_of_ble_eq_true rfl) dL_law_728 (l_ri (fun w M2 h2 => ?_))
  obtain ⟨rfl, hM2, f2⟩ := mrun_step hM1 h2
  have hX2 := hX1.mono f2
  refine l_icmp_eq X (tgt := 1003) dL_law_731 (by decide) (fun _ => ?_) (fun q => absurd rfl q)
  exact next _ _ hX2 hM2 (hI.run hn)

set_option maxRecDepth 100000 in
set_option maxHeartbeats 1000000 in
theorem lc_22 (X : LX g E kc kn b L xs) (hp : p + 3 < L) (hX : XS M S) (hM : MS M S) (hI : IV S n) (hn : n + 31 ≤ 100000) (next : LN g E kc kn b n p) : ZL g E kc kn M (LV E b p) 736 [] := by
  obtain ⟨X, hk, V, hL⟩ := X
  obtain ⟨a1, a2, i1⟩ := hI.1
  obtain ⟨nx, hH⟩ := hX.2.1
  refine l_aload_n X 2 dL_law_736 rfl rfl ?_
  refine l_aload_n X 3 dL_law_737 rfl rfl ?_
  refine l_iload_n X 0 dL_law_738 rfl rfl ?_
  refine l_iconst X (v := 1) dL_law_739 (by decide) ?_
  refine l_iadd X dL_law_740 ?_
  refine l_sld X V (j := p + 1) (by rw [← nI_add]; rfl) (by omega) hL dL_law_741 ?_
  refine l_callV X hk (rest := []) kv_X10_tell (c_X10_tell E _ S.1 hX.1 a1 a2 n i1 S.2.2.2.2.1 hX.2.2.2.2.1 (xs (p + 1))) zk_17_0 (zc_17_0 E _) rfl rfl gw_1009 ⟨⟨rfl, rfl⟩, Nat.le_of_ble_eq_true rfl, Nat.le_of_ble_eq_true rfl⟩ rfl rfl (Nat.le_of_ble_eq_true rfl) dL_law_742 (l_ri (fun v M1 h1 => ?_))
  obtain ⟨rfl, e1, e2⟩ := h1
  obtain ⟨hX1, f1⟩ := xl_step hX e1 e2
  have hM1 := hM.mono f1
  refine l_aload_n X 1 dL_law_745 rfl rfl ?_
  refine l_aload_n X 3 dL_law_746 rfl rfl ?_
  refine l_iload_n X 0 dL_law_747 rfl rfl ?_
  refine l_iconst X (v := 1) dL_law_748 (by decide) ?_
  refine l_iadd X dL_law_749 ?_
  refine l_sld X V (j := p + 1) (by rw [← nI_add]; rfl) (by omega) hL dL_law_750 ?_
  refine l_callV X hk (rest := [.int _]) kv_X11_tell (c_X11_tell E _ S.1 hM1.1 a1 a2 n i1 S.2.2.2.2.1 hM1.2.2.2.2.1 (xs (p + 1))) zk_32_0 (zc_32_0 E _) rfl rfl gw_1018 ⟨⟨rfl, rfl⟩, Nat.le_of_ble_eq_true rfl, Nat.le_of_ble_eq_true rfl⟩ rfl rfl (Nat.le_of_ble_eq_true rfl) dL_law_751 (l_ri (fun w M2 h2 => ?_))
  obtain ⟨rfl, e3, e4⟩ := h2
  obtain ⟨hM2, f2⟩ := ml_step hM1 e3 e4
  have hX2 := hX1.mono f2
  refine l_icmp_eq X (tgt := 1003) dL_law_754 (by decide) (fun _ => ?_) (fun q => absurd rfl q)
  exact next _ _ hX2 hM2 (hI.l hn)

set_option maxRecDepth 100000 in
set_option maxHeartbeats 1000000 in
theorem lc_23 (X : LX g E kc kn b L xs) (hp : p + 3 < L) (hX : XS M S) (hM : MS M S) (hI : IV S n) (hn : n + 31 ≤ 100000) (next : LN g E kc kn b n p) : ZL g E kc kn M (LV E b p) 759 [] := by
  obtain ⟨X, hk, V, hL⟩ := X
  obtain ⟨a1, a2, i1⟩ := hI.1
  obtain ⟨nx, hH⟩ := hX.2.1
  refine l_aload_n X 2 dL_law_759 rfl rfl ?_
  refine l_callV X hk (rest := []) kv_X10_tellMusicians (c_X10_tellMusicians E _ S.1 hX.1 a1 a2 n i1 S.2.2.2.2.1 hX.2.2.2.2.1 ) zk_17_0 (zc_17_0 E _) rfl rfl gw_1035 ⟨⟨rfl, rfl⟩, Nat.le_of_ble_eq_true rfl, Nat.le_of_ble_eq_true rfl⟩ rfl rfl (Nat.le_of_ble_eq_true rfl) dL_law_760 (l_ri (fun v M1 h1 => ?_))
  obtain ⟨rfl, e1, e2⟩ := h1
  obtain ⟨hX1, f1⟩ := xl_step hX e1 e2
  have hM1 := hM.mono f1
  refine l_aload_n X 1 dL_law_763 rfl rfl ?_
  refine l_callV X hk (rest := [.int _]) kv_X11_tellMusicians (c_X11_tellMusicians E _ S.1 hM1.1 a1 a2 n i1 S.2.2.2.2.1 hM1.2.2.2.2.1 ) zk_32_0 (zc_32_0 E _) rfl rfl gw_1043 ⟨⟨rfl, rfl⟩, Nat.le_of_ble_eq_true rfl, Nat.le_of_ble_eq_true rfl⟩ rfl rfl (Nat.le_of_ble_eq_true rfl) dL_law_764 (l_ri (fun w M2 h2 => ?_))
  obtain ⟨rfl, e3, e4⟩ := h2
  obtain ⟨hM2, f2⟩ := ml_step hM1 e3 e4
  have hX2 := hX1.mono f2
  refine l_icmp_eq X (tgt := 1003) dL_law_767 (by decide) (fun _ => ?_) (fun q => absurd rfl q)
  exact next _ _ hX2 hM2 (hI.l hn)

set_option maxRecDepth 100000 in
set_option maxHeartbeats 1000000 in
theorem lc_24 (X : LX g E kc kn b L xs) (hp : p + 3 < L) (hX : XS M S) (hM : MS M S) (hI : IV S n) (hn : n + 31 ≤ 100000) (next : LN g E kc kn b n p) : ZL g E kc kn M (LV E b p) 772 [] := by
  obtain ⟨X, hk, V, hL⟩ := X
  obtain ⟨a1, a2, i1⟩ := hI.1
  obtain ⟨nx, hH⟩ := hX.2.1
  refine l_aload_n X 2 dL_law_772 rfl rfl ?_
  refine l_aload_n X 3 dL_law_773 rfl rfl ?_
  refine l_iload_n X 0 dL_law_774 rfl rfl ?_
  refine l_iconst X (v := 1) dL_law_775 (by decide) ?_
  refine l_iadd X dL_law_776 ?_
  refine l_sld X V (j := p + 1) (by rw [← nI_add]; rfl) (by omega) hL dL_law_777 ?_
  refine l_callV X hk (rest := []) kv_X10_character (c_X10_character E _ S.2.2.2.2.1 hX.2.2.2.2.1 (xs (p + 1))) zk_17_0 (zc_17_0 E _) rfl rfl gw_1047 ⟨⟨rfl, rfl⟩, Nat.le_of_ble_eq_true rfl, Nat.le_of_ble_eq_true rfl⟩ rfl rfl (Nat.le_of_ble_eq_true rfl) dL_law_778 (l_pi ?_)
  refine l_aload_n X 1 dL_law_781 rfl rfl ?_
  refine l_aload_n X 3 dL_law_782 rfl rfl ?_
  refine l_iload_n X 0 dL_law_783 rfl rfl ?_
  refine l_iconst X (v := 1) dL_law_784 (by decide) ?_
  refine l_iadd X dL_law_785 ?_
  refine l_sld X V (j := p + 1) (by rw [← nI_add]; rfl) (by omega) hL dL_law_786 ?_
  refine l_callV X hk (rest := [.int _]) kv_X11_character (c_X11_character E _ S.2.2.2.2.1 hM.2.2.2.2.1 (xs (p + 1))) zk_32_0 (zc_32_0 E _) rfl rfl gw_1052 ⟨⟨rfl, rfl⟩, Nat.le_of_ble_eq_true rfl, Nat.le_of_ble_eq_true rfl⟩ rfl rfl (Nat.le_of_ble_eq_true rfl) dL_law_787 (l_pi ?_)
  refine l_icmp_eq X (tgt := 1003) dL_law_790 (by decide) (fun _ => ?_) (fun q => absurd rfl q)
  exact next _ _ hX hM (hI.up (Nat.le_add_right n 31) hn)

set_option maxRecDepth 100000 in
set_option maxHeartbeats 1000000 in
theorem lc_25 (X : LX g E kc kn b L xs) (hp : p + 3 < L) (hX : XS M S) (hM : MS M S) (hI : IV S n) (hn : n + 31 ≤ 100000) (next : LN g E kc kn b n p) : ZL g E kc kn M (LV E b p) 795 [] := by
  obtain ⟨X, hk, V, hL⟩ := X
  obtain ⟨a1, a2, i1⟩ := hI.1
  obtain ⟨nx, hH⟩ := hX.2.1
  by_cases h0 : xs (p + 2) = 0
  · refine l_aload_n X 2 dL_law_795 rfl rfl ?_
    refine l_aload_n X 3 dL_law_796 rfl rfl ?_
    refine l_iload_n X 0 dL_law_797 rfl rfl ?_
    refine l_iconst X (v := 1) dL_law_798 (by decide) ?_
    refine l_iadd X dL_law_799 ?_
    refine l_sld X V (j := p + 1) (by rw [← nI_add]; rfl) (by omega) hL dL_law_800 ?_
    refine l_aload_n X 3 dL_law_801 rfl rfl ?_
    refine l_iload_n X 0 dL_law_802 rfl rfl ?_
    refine l_iconst X (v := 2) dL_law_803 (by decide) ?_
    refine l_iadd X dL_law_804 ?_
    refine l_sld X V (j := p + 2) (by rw [← nI_add]; rfl) (by omega) hL dL_law_805 ?_
    refine l_if_eq X (tgt := 813) dL_law_806 (by decide) (fun _ => ?_) (fun q => absurd h0 q)
    refine l_iconst X (v := 0) dL_law_813 (by decide) ?_
    refine l_callV X hk (rest := []) kv_X10_reason (c_X10_reason E _ S.2.2.1 hX.2.2.1 (xs (p + 1)) 0) zk_17_0 (zc_17_0 E _) rfl rfl gw_1056 ⟨⟨rfl, rfl⟩, Nat.le_of_ble_eq_true rfl, Nat.le_of_ble_eq_true rfl⟩ rfl rfl (Nat.le_of_ble_eq_true rfl) dL_law_814 (l_pi ?_)
    refine l_aload_n X 1 dL_law_817 rfl rfl ?_
    refine l_aload_n X 3 dL_law_818 rfl rfl ?_
    refine l_iload_n X 0 dL_law_819 rfl rfl ?_
    refine l_iconst X (v := 1) dL_law_820 (by decide) ?_
    refine l_iadd X dL_law_821 ?_
    refine l_sld X V (j := p + 1) (by rw [← nI_add]; rfl) (by omega) hL dL_law_822 ?_
    refine l_aload_n X 3 dL_law_823 rfl rfl ?_
    refine l_iload_n X 0 dL_law_824 rfl rfl ?_
    refine l_iconst X (v := 2) dL_law_825 (by decide) ?_
    refine l_iadd X dL_law_826 ?_
    refine l_sld X V (j := p + 2) (by rw [← nI_add]; rfl) (by omega) hL dL_law_827 ?_
    refine l_if_eq X (tgt := 835) dL_law_828 (by decide) (fun _ => ?_) (fun q => absurd h0 q)
    refine l_iconst X (v := 0) dL_law_835 (by decide) ?_
    refine l_callV X hk (rest := [.int _]) kv_X11_reason (c_X11_reason E _ S.2.2.1 hM.2.2.1 (xs (p + 1)) 0) zk_32_0 (zc_32_0 E _) rfl rfl gw_1066 ⟨⟨rfl, rfl⟩, Nat.le_of_ble_eq_true rfl, Nat.le_of_ble_eq_true rfl⟩ rfl rfl (Nat.le_of_ble_eq_true rfl) dL_law_836 (l_pi ?_)
    refine l_icmp_eq X (tgt := 1003) dL_law_839 (by decide) (fun _ => ?_) (fun q => absurd rfl q)
    exact next _ _ hX hM (hI.up (Nat.le_add_right n 31) hn)
  · refine l_aload_n X 2 dL_law_795 rfl rfl ?_
    refine l_aload_n X 3 dL_law_796 rfl rfl ?_
    refine l_iload_n X 0 dL_law_797 rfl rfl ?_
    refine l_iconst X (v := 1) dL_law_798 (by decide) ?_
    refine l_iadd X dL_law_799 ?_
    refine l_sld X V (j := p + 1) (by rw [← nI_add]; rfl) (by omega) hL dL_law_800 ?_
    refine l_aload_n X 3 dL_law_801 rfl rfl ?_
    refine l_iload_n X 0 dL_law_802 rfl rfl ?_
    refine l_iconst X (v := 2) dL_law_803 (by decide) ?_
    refine l_iadd X dL_law_804 ?_
    refine l_sld X V (j := p + 2) (by rw [← nI_add]; rfl) (by omega) hL dL_law_805 ?_
    refine l_if_eq X (tgt := 813) dL_law_806 (by decide) (fun q => absurd q h0) (fun _ => ?_)
    refine l_iconst X (v := 1) dL_law_809 (by decide) ?_
    refine l_goto X (tgt := 814) dL_law_810 (by decide) ?_
    refine l_callV X hk (rest := []) kv_X10_reason (c_X10_reason E _ S.2.2.1 hX.2.2.1 (xs (p + 1)) 1) zk_17_0 (zc_17_0 E _) rfl rfl gw_1056 ⟨⟨rfl, rfl⟩, Nat.le_of_ble_eq_true rfl, Nat.le_of_ble_eq_true rfl⟩ rfl rfl (Nat.le_of_ble_eq_true rfl) dL_law_814 (l_pi ?_)
    refine l_aload_n X 1 dL_law_817 rfl rfl ?_
    refine l_aload_n X 3 dL_law_818 rfl rfl ?_
    refine l_iload_n X 0 dL_law_819 rfl rfl ?_
    refine l_iconst X (v := 1) dL_law_820 (by decide) ?_
    refine l_iadd X dL_law_821 ?_
    refine l_sld X V (j := p + 1) (by rw [← nI_add]; rfl) (by omega) hL dL_law_822 ?_
    refine l_aload_n X 3 dL_law_823 rfl rfl ?_
    refine l_iload_n X 0 dL_law_824 rfl rfl ?_
    refine l_iconst X (v := 2) dL_law_825 (by decide) ?_
    refine l_iadd X dL_law_826 ?_
    refine l_sld X V (j := p + 2) (by rw [← nI_add]; rfl) (by omega) hL dL_law_827 ?_
    refine l_if_eq X (tgt := 835) dL_law_828 (by decide) (fun q => absurd q h0) (fun _ => ?_)
    refine l_iconst X (v := 1) dL_law_831 (by decide) ?_
    refine l_goto X (tgt := 836) dL_law_832 (by decide) ?_
    refine l_callV X hk (rest := [.int _]) kv_X11_reason (c_X11_reason E _ S.2.2.1 hM.2.2.1 (xs (p + 1)) 1) zk_32_0 (zc_32_0 E _) rfl rfl gw_1066 ⟨⟨rfl, rfl⟩, Nat.le_of_ble_eq_true rfl, Nat.le_of_ble_eq_true rfl⟩ rfl rfl (Nat.le_of_ble_eq_true rfl) dL_law_836 (l_pi ?_)
    refine l_icmp_eq X (tgt := 1003) dL_law_839 (by decide) (fun _ => ?_) (fun q => absurd rfl q)
    exact next _ _ hX hM (hI.up (Nat.le_add_right n 31) hn)

set_option maxRecDepth 100000 in
set_option maxHeartbeats 1000000 in
theorem lc_26 (X : LX g E kc kn b L xs) (hp : p + 3 < L) (hX : XS M S) (hM : MS M S) (hI : IV S n) (hn : n + 31 ≤ 100000) (next : LN g E kc kn b n p) : ZL g E kc kn M (LV E b p) 844 [] := by
  obtain ⟨X, hk, V, hL⟩ := X
  obtain ⟨a1, a2, i1⟩ := hI.1
  obtain ⟨nx, hH⟩ := hX.2.1
  refine l_aload_n X 2 dL_law_844 rfl rfl ?_
  refine l_aload_n X 3 dL_law_845 rfl rfl ?_
  refine l_iload_n X 0 dL_law_846 rfl rfl ?_
  refine l_iconst X (v := 1) dL_law_847 (by decide) ?_
  refine l_iadd X dL_law_848 ?_
  refine l_sld X V (j := p + 1) (by rw [← nI_add]; rfl) (by omega) hL dL_law_849 ?_
  refine l_callV X hk (rest := []) kv_X10_account (c_X10_account E _ S.1 hX.1 a1 a2 n i1 S.2.2.2.1 hX.2.2.2.1 S.2.1.length hH.2.2.1 (xs (p + 1))) zk_17_0 (zc_17_0 E _) rfl rfl gw_1070 ⟨⟨rfl, rfl⟩, Nat.le_of_ble_eq_true rfl, Nat.le_of_ble_eq_true rfl⟩ rfl rfl (Nat.le_of_ble_eq_true rfl) dL_law_850 (l_pi ?_)
  refine l_aload_n X 1 dL_law_853 rfl rfl ?_
  refine l_aload_n X 3 dL_law_854 rfl rfl ?_
  refine l_iload_n X 0 dL_law_855 rfl rfl ?_
  refine l_iconst X (v := 1) dL_law_856 (by decide) ?_
  refine l_iadd X dL_law_857 ?_
  refine l_sld X V (j := p + 1) (by rw [← nI_add]; rfl) (by omega) hL dL_law_858 ?_
  refine l_callV X hk (rest := [.int _]) kv_X11_account (c_X11_account E _ S.1 hM.1 a1 a2 n i1 S.2.1 hM.2.1 S.2.2.2.1 hM.2.2.2.1 (xs (p + 1))) zk_32_0 (zc_32_0 E _) rfl rfl gw_1084 ⟨⟨rfl, rfl⟩, Nat.le_of_ble_eq_true rfl, Nat.le_of_ble_eq_true rfl⟩ rfl rfl (Nat.le_of_ble_eq_true rfl) dL_law_859 (l_pi ?_)
  refine l_icmp_eq X (tgt := 1003) dL_law_862 (by decide) (fun _ => ?_) (fun q => absurd rfl q)
  exact next _ _ hX hM (hI.up (Nat.le_add_right n 31) hn)

set_option maxRecDepth 100000 in
set_option maxHeartbeats 1000000 in
theorem lc_27 (X : LX g E kc kn b L xs) (hp : p + 3 < L) (hX : XS M S) (hM : MS M S) (hI : IV S n) (hn : n + 31 ≤ 100000) (next : LN g E kc kn b n p) : ZL g E kc kn M (LV E b p) 867 [] := by
  obtain ⟨X, hk, V, hL⟩ := X
  obtain ⟨a1, a2, i1⟩ := hI.1
  obtain ⟨nx, hH⟩ := hX.2.1
  refine l_aload_n X 2 dL_law_867 rfl rfl ?_
  refine l_callV X hk (rest := []) kv_X10_isBalanced (c_X10_isBalanced E _ S.1 hX.1 a1 a2 n i1 ) zk_17_0 (zc_17_0 E _) rfl rfl gw_1092 ⟨⟨rfl, rfl⟩, Nat.le_of_ble_eq_true rfl, Nat.le_of_ble_eq_true rfl⟩ rfl rfl (Nat.le_of_ble_eq_true rfl) dL_law_868 (l_ri (fun v M1 h1 => ?_))
  obtain ⟨rfl, e1⟩ := h1
  obtain ⟨hX1, f1⟩ := hX.fw e1
  have hM1 := hM.mono f1
  refine l_aload_n X 1 dL_law_871 rfl rfl ?_
  refine l_callV X hk (rest := [.int _]) kv_X11_isBalanced (c_X11_isBalanced E _  ) zk_32_0 (zc_32_0 E _) rfl rfl gw_1108 ⟨⟨rfl, rfl⟩, Nat.le_of_ble_eq_true rfl, Nat.le_of_ble_eq_true rfl⟩ rfl rfl (Nat.le_of_ble_eq_true rfl) dL_law_872 (l_pi ?_)
  refine l_icmp_eq X (tgt := 1003) dL_law_875 (by decide) (fun _ => ?_) (fun q => absurd rfl q)
  exact next _ _ hX1 hM1 (hI.up (Nat.le_add_right n 31) hn)

set_option maxRecDepth 100000 in
set_option maxHeartbeats 1000000 in
theorem lc_28 (X : LX g E kc kn b L xs) (hp : p + 3 < L) (hX : XS M S) (hM : MS M S) (hI : IV S n) (hn : n + 31 ≤ 100000) (next : LN g E kc kn b n p) : ZL g E kc kn M (LV E b p) 880 [] := by
  obtain ⟨X, hk, V, hL⟩ := X
  obtain ⟨a1, a2, i1⟩ := hI.1
  obtain ⟨nx, hH⟩ := hX.2.1
  refine l_aload_n X 2 dL_law_880 rfl rfl ?_
  refine l_callV X hk (rest := []) kv_X10_meanFit (c_X10_meanFit E _ S.1 hX.1 a1 a2 n i1) zk_17_0 (zc_17_0 E _) rfl rfl gw_1112 ⟨⟨rfl, rfl⟩, Nat.le_of_ble_eq_true rfl, Nat.le_of_ble_eq_true rfl⟩ rfl rfl (Nat.le_of_ble_eq_true rfl) dL_law_881 (l_pd ?_)
  refine l_dstore X (lv1 := (4, .double (meanV (fitSum S.1 a1) (cntB (taken S.1) a1))) :: LV E b p) dL_law_884 (by decide) rfl ?_
  refine l_aload_n X 2 dL_law_886 rfl rfl ?_
  refine l_callV X hk (rest := []) kv_X11_meanFit (c_X11_meanFit E _ S.1 hM.1 a1 a2 n i1) zk_32_0 (zc_32_0 E _) rfl rfl gw_1116 ⟨⟨rfl, rfl⟩, Nat.le_of_ble_eq_true rfl, Nat.le_of_ble_eq_true rfl⟩ rfl rfl (Nat.le_of_ble_eq_true rfl) dL_law_887 (l_pd ?_)
  refine l_dstore X (lv1 := (6, .double (meanV (fitSum S.1 a1) (cntB (taken S.1) a1))) :: (4, .double (meanV (fitSum S.1 a1) (cntB (taken S.1) a1))) :: LV E b p) dL_law_890 (by decide) rfl ?_
  generalize (meanV (fitSum S.1 a1) (cntB (taken S.1) a1)) = dv
  have fin : ZL g E kc kn M ((6, .double dv) :: (4, .double dv) :: LV E b p) 1003 [] := l_sub (lv' := LV E b p) [2, 3, 4, 5] rfl (next _ _ hX hM (hI.up (Nat.le_add_right n 31) hn))
  refine l_dload X 1 dL_law_892 rfl ?_
  refine l_dload X 0 dL_law_894 rfl ?_
  refine l_dcmp X dL_law_896 ?_
  refine l_if_eq X (tgt := 918) dL_law_897 (by decide) (fun _ => ?_) (fun hc => ?_)
  · refine l_goto X (tgt := 1003) dL_law_918 (by decide) fin
  refine l_dload X 1 dL_law_900 rfl ?_
  refine l_dload X 1 dL_law_902 rfl ?_
  refine l_dcmp X dL_law_904 ?_
  refine l_if_eq X (tgt := 916) dL_law_905 (by decide) (fun q => absurd q hc) (fun _ => ?_)
  refine l_dload X 0 dL_law_908 rfl ?_
  refine l_dload X 0 dL_law_910 rfl ?_
  refine l_dcmp X dL_law_912 ?_
  refine l_if_ne X (tgt := 918) dL_law_913 (by decide) (fun _ => ?_) (fun q => absurd q hc)
  exact l_goto X (tgt := 1003) dL_law_918 (by decide) fin

set_option maxRecDepth 100000 in
set_option maxHeartbeats 1000000 in
theorem lc_29 (X : LX g E kc kn b L xs) (hp : p + 3 < L) (hX : XS M S) (hM : MS M S) (hI : IV S n) (hn : n + 31 ≤ 100000) (next : LN g E kc kn b n p) : ZL g E kc kn M (LV E b p) 921 [] := by
  obtain ⟨X, hk, V, hL⟩ := X
  obtain ⟨a1, a2, i1⟩ := hI.1
  obtain ⟨nx, hH⟩ := hX.2.1
  have hnn : vf_n64 (FP.f2d (shareV (cntB (fell S.1) a1) a1)) := share_n64 i1.c10 (cntB_le (fell S.1) a1)
  refine l_aload_n X 2 dL_law_921 rfl rfl ?_
  refine l_callV X hk (rest := []) kv_X10_fallenShare (c_X10_fallenShare E _ S.1 hX.1 a1 a2 n i1) zk_17_0 (zc_17_0 E _) rfl rfl gw_1120 ⟨⟨rfl, rfl⟩, Nat.le_of_ble_eq_true rfl, Nat.le_of_ble_eq_true rfl⟩ rfl rfl (Nat.le_of_ble_eq_true rfl) dL_law_922 (l_pf ?_)
  refine l_f2d X dL_law_925 hnn ?_
  refine l_dstore X (lv1 := (4, .double (FP.f2d (shareV (cntB (fell S.1) a1) a1))) :: LV E b p) dL_law_926 (by decide) rfl ?_
  refine l_aload_n X 2 dL_law_928 rfl rfl ?_
  refine l_callV X hk (rest := []) kv_X11_fallenShare (c_X11_fallenShare E _ S.1 hM.1 a1 a2 n i1) zk_32_0 (zc_32_0 E _) rfl rfl gw_1124 ⟨⟨rfl, rfl⟩, Nat.le_of_ble_eq_true rfl, Nat.le_of_ble_eq_true rfl⟩ rfl rfl (Nat.le_of_ble_eq_true rfl) dL_law_929 (l_pf ?_)
  refine l_f2d X dL_law_932 hnn ?_
  refine l_dstore X (lv1 := (6, .double (FP.f2d (shareV (cntB (fell S.1) a1) a1))) :: (4, .double (FP.f2d (shareV (cntB (fell S.1) a1) a1))) :: LV E b p) dL_law_933 (by decide) rfl ?_
  generalize (FP.f2d (shareV (cntB (fell S.1) a1) a1)) = dv
  have fin : ZL g E kc kn M ((6, .double dv) :: (4, .double dv) :: LV E b p) 1003 [] := l_sub (lv' := LV E b p) [2, 3, 4, 5] rfl (next _ _ hX hM (hI.up (Nat.le_add_right n 31) hn))
  refine l_dload X 1 dL_law_935 rfl ?_
  refine l_dload X 0 dL_law_937 rfl ?_
  refine l_dcmp X dL_law_939 ?_
  refine l_if_eq X (tgt := 961) dL_law_940 (by decide) (fun _ => ?_) (fun hc => ?_)
  · refine l_goto X (tgt := 1003) dL_law_961 (by decide) fin
  refine l_dload X 1 dL_law_943 rfl ?_
  refine l_dload X 1 dL_law_945 rfl ?_
  refine l_dcmp X dL_law_947 ?_
  refine l_if_eq X (tgt := 959) dL_law_948 (by decide) (fun q => absurd q hc) (fun _ => ?_)
  refine l_dload X 0 dL_law_951 rfl ?_
  refine l_dload X 0 dL_law_953 rfl ?_
  refine l_dcmp X dL_law_955 ?_
  refine l_if_ne X (tgt := 961) dL_law_956 (by decide) (fun _ => ?_) (fun q => absurd q hc)
  exact l_goto X (tgt := 1003) dL_law_961 (by decide) fin

set_option maxRecDepth 100000 in
set_option maxHeartbeats 1000000 in
theorem lc_30 (X : LX g E kc kn b L xs) (hp : p + 3 < L) (hX : XS M S) (hM : MS M S) (hI : IV S n) (hn : n + 31 ≤ 100000) (next : LN g E kc kn b n p) : ZL g E kc kn M (LV E b p) 964 [] := by
  obtain ⟨X, hk, V, hL⟩ := X
  obtain ⟨a1, a2, i1⟩ := hI.1
  obtain ⟨nx, hH⟩ := hX.2.1
  refine l_aload_n X 2 dL_law_964 rfl rfl ?_
  refine l_callV X hk (rest := []) kv_X10_undo (c_X10_undo E _ S.1 hX.1 S.2.1 nx hH ) zk_17_0 (zc_17_0 E _) rfl rfl gw_1128 ⟨⟨rfl, rfl⟩, Nat.le_of_ble_eq_true rfl, Nat.le_of_ble_eq_true rfl⟩ rfl rfl (Nat.le_of_ble_eq_true rfl) dL_law_965 (l_ri (fun v M1 h1 => ?_))
  obtain ⟨rfl, e1, e2, e3⟩ := h1
  obtain ⟨hX1, f1⟩ := xu_step hX e1 e2 e3
  have hM1 := hM.mono f1
  refine l_aload_n X 1 dL_law_968 rfl rfl ?_
  refine l_callV X hk (rest := [.int _]) kv_X11_undo (c_X11_undo E _ S.1 hM1.1 S.2.1 hM1.2.1 ) zk_32_0 (zc_32_0 E _) rfl rfl gw_1137 ⟨⟨rfl, rfl⟩, Nat.le_of_ble_eq_true rfl, Nat.le_of_ble_eq_true rfl⟩ rfl rfl (Nat.le_of_ble_eq_true rfl) dL_law_969 (l_ri (fun w M2 h2 => ?_))
  obtain ⟨rfl, e4, e5, e6⟩ := h2
  obtain ⟨hM2, f2⟩ := mu_step hM1 e4 e5 e6
  have hX2 := hX1.mono f2
  refine l_icmp_eq X (tgt := 1003) dL_law_972 (by decide) (fun _ => ?_) (fun q => absurd rfl q)
  exact next _ _ hX2 hM2 (hI.u hn)

set_option maxRecDepth 100000 in
set_option maxHeartbeats 1000000 in
theorem lc_31 (X : LX g E kc kn b L xs) (hp : p + 3 < L) (hX : XS M S) (hM : MS M S) (hI : IV S n) (hn : n + 31 ≤ 100000) (next : LN g E kc kn b n p) : ZL g E kc kn M (LV E b p) 977 [] := by
  obtain ⟨X, hk, V, hL⟩ := X
  obtain ⟨a1, a2, i1⟩ := hI.1
  obtain ⟨nx, hH⟩ := hX.2.1
  refine l_aload_n X 2 dL_law_977 rfl rfl ?_
  refine l_callV X hk (rest := []) kv_X10_save (c_X10_save E _ S.1 hX.1 ) zk_17_0 (zc_17_0 E _) rfl rfl gw_1141 ⟨⟨rfl, rfl⟩, Nat.le_of_ble_eq_true rfl, Nat.le_of_ble_eq_true rfl⟩ rfl rfl (Nat.le_of_ble_eq_true rfl) dL_law_978 (l_ri (fun v M1 h1 => ?_))
  obtain ⟨rfl, e1, e2, e3⟩ := h1
  obtain ⟨hX1, f1⟩ := xv_step hX e1 e2 e3
  have hM1 := hM.mono f1
  refine l_aload_n X 1 dL_law_981 rfl rfl ?_
  refine l_callV X hk (rest := [.int _]) kv_X11_save (c_X11_save E _ S.1 hM1.1 ) zk_32_0 (zc_32_0 E _) rfl rfl gw_1147 ⟨⟨rfl, rfl⟩, Nat.le_of_ble_eq_true rfl, Nat.le_of_ble_eq_true rfl⟩ rfl rfl (Nat.le_of_ble_eq_true rfl) dL_law_982 (l_ri (fun w M2 h2 => ?_))
  obtain ⟨rfl, e4, e5, e6⟩ := h2
  obtain ⟨hM2, f2⟩ := mv_step hM1 e4 e5 e6
  have hX2 := hX1.mono f2
  refine l_icmp_eq X (tgt := 1003) dL_law_985 (by decide) (fun _ => ?_) (fun q => absurd rfl q)
  exact next _ _ hX2 hM2 (hI.v hn)

set_option maxRecDepth 100000 in
set_option maxHeartbeats 1000000 in
theorem lc_32 (X : LX g E kc kn b L xs) (hp : p + 3 < L) (hX : XS M S) (hM : MS M S) (hI : IV S n) (hn : n + 31 ≤ 100000) (next : LN g E kc kn b n p) : ZL g E kc kn M (LV E b p) 990 [] := by
  obtain ⟨X, hk, V, hL⟩ := X
  obtain ⟨a1, a2, i1⟩ := hI.1
  obtain ⟨nx, hH⟩ := hX.2.1
  cases hs : S.2.2.2.2.2 with
  | none =>
    have hx := hX.2.2.2.2.2
    rw [hs] at hx
    have hm := hM.2.2.2.2.2.1
    rw [hs] at hm
    refine l_aload_n X 2 dL_law_990 rfl rfl ?_
    refine l_callV X hk (rest := []) kv_X10_restore (c_X10_restore_no E _ hx) zk_17_0 (zc_17_0 E _) rfl rfl gw_1152 ⟨⟨rfl, rfl⟩, Nat.le_of_ble_eq_true rfl, Nat.le_of_ble_eq_true rfl⟩ rfl rfl (Nat.le_of_ble_eq_true rfl) dL_law_991 (l_pi ?_)
    refine l_aload_n X 1 dL_law_994 rfl rfl ?_
    refine l_callV X hk (rest := [.int _]) kv_X11_restore (c_X11_restore_no E _ hm) zk_32_0 (zc_32_0 E _) rfl rfl gw_1160 ⟨⟨rfl, rfl⟩, Nat.le_of_ble_eq_true rfl, Nat.le_of_ble_eq_true rfl⟩ rfl rfl (Nat.le_of_ble_eq_true rfl) dL_law_995 (l_pi ?_)
    refine l_icmp_eq X (tgt := 1003) dL_law_998 (by decide) (fun _ => ?_) (fun q => absurd rfl q)
    exact next _ _ hX hM (hI.up (Nat.le_add_right n 31) hn)
  | some sg =>
    have hx := hX.2.2.2.2.2
    rw [hs] at hx
    have hm := hM.2.2.2.2.2.1
    rw [hs] at hm
    refine l_aload_n X 2 dL_law_990 rfl rfl ?_
    refine l_callV X hk (rest := []) kv_X10_restore (c_X10_restore E _ sg hx.2 hx.1) zk_17_0 (zc_17_0 E _) rfl rfl gw_1152 ⟨⟨rfl, rfl⟩, Nat.le_of_ble_eq_true rfl, Nat.le_of_ble_eq_true rfl⟩ rfl rfl (Nat.le_of_ble_eq_true rfl) dL_law_991 (l_ri (fun v M1 h1 => ?_))
    obtain ⟨rfl, e1, e2, e3, e4⟩ := h1
    obtain ⟨hX1, f1⟩ := xr_step hX e1 e2 e3 e4
    have hM1 := hM.mono f1
    have hm := hM1.2.2.2.2.2.1
    rw [hs] at hm
    refine l_aload_n X 1 dL_law_994 rfl rfl ?_
    refine l_callV X hk (rest := [.int _]) kv_X11_restore (c_X11_restore E _ sg hm.2 hm.1) zk_32_0 (zc_32_0 E _) rfl rfl gw_1160 ⟨⟨rfl, rfl⟩, Nat.le_of_ble_eq_true rfl, Nat.le_of_ble_eq_true rfl⟩ rfl rfl (Nat.le_of_ble_eq_true rfl) dL_law_995 (l_ri (fun w M2 h2 => ?_))
    obtain ⟨rfl, e5, e6, e7⟩ := h2
    obtain ⟨hM2, f2⟩ := mu_step (u := (sg, [])) hM1 e5 e6 e7
    have hX2 := hX1.mono f2
    refine l_icmp_eq X (tgt := 1003) dL_law_998 (by decide) (fun _ => ?_) (fun q => absurd rfl q)
    exact next _ _ hX2 hM2 (hI.r hs hn)
end LC
