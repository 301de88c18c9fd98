/-! ===== the law: one call, the loop, the start ===== -/
def mLaw (nm : String) : MM := (⟨RL, nm, ""⟩, cL_law, 4, some .boolean, { frames := 12, cells := 62, slots := 1264, locals := 438 })
/-- the script lies among what was there -/
def Sx (g : GG) (L : Nat) (xs : Nat → Int32) : Prop := ga g 5000 < gb g ∧ ∀ U, gx g U → va_X (ga g 5000) L xs U U.heap
section LawRows
variable {g : GG} {M : MM} {pc : Nat} {lo : List (Option Value)} {st : List Value} {h : Hp} {b : Nat × Nat} {Post : Option Value → Hp → Prop} {L : Nat} {xs : Nat → Int32}
theorem ok_sld {i : Nat} (hd : decode (Mc M) pc = .ok (.iaload, 1)) (X : Sx g L xs) (hi : i < L) (hL : L ≤ 3072) (kk : Go g M (pc + 1) lo (.int (xs i) :: st) h b Post) : Go g M pc lo (.int (nI i) :: .ref 5000 :: st) h b Post := by
  intro p e s m args below meth cd C Q hQ H locs cells slots ls hW hS hl h1 h2 hz
  have k := kk p e s m args below meth cd C Q hQ H locs cells slots ls hW hS hl h1 h2 hz
  refine va_sld C.2.1 C.2.2.1 (X.2 s C.2.2.2.2.2.2.2.2.1) (Nat.lt_of_lt_of_le X.1 C.2.2.2.2.2.2.2.2.2) (Nat.not_le.mpr X.1) hS (vp_in_nI hi (by omega)) hd ?_
  rw [nI_clamp (by omega)]
  exact k
theorem ok_slen (hd : decode (Mc M) pc = .ok (.arraylength, 1)) (X : Sx g L xs) (kk : Go g M (pc + 1) lo (.int (nI L) :: st) h b Post) : Go g M pc lo (.ref 5000 :: st) h b Post := by
  intro p e s m args below meth cd C Q hQ H locs cells slots ls hW hS hl h1 h2 hz
  exact va_slen C.2.1 C.2.2.1 (X.2 s C.2.2.2.2.2.2.2.2.1) (Nat.lt_of_lt_of_le X.1 C.2.2.2.2.2.2.2.2.2) (Nat.not_le.mpr X.1) hS hd (kk p e s m args below meth cd C Q hQ H locs cells slots ls hW hS hl h1 h2 hz)
end LawRows
theorem lc_0 {g : GG} {nm : String} {h : Hp} {Post : Option Value → Hp → Prop} {L : Nat} {xs : Nat → Int32} (Xs : Sx g L xs) (X : Gx g) (hL : L ≤ 3072) {i : Nat} (hi : i + 6 ≤ L) (E : LE h) (K : ∀ h2, LE h2 → Go g (mLaw nm) 1306 [some (.ref 5000), some (.ref 0), some (.ref 49), some (.int (nI i))] [] h2 (0, 0) Post) : Go g (mLaw nm) 220 [some (.ref 5000), some (.ref 0), some (.ref 49), some (.int (nI i))] [] h (0, 0) Post := by
  obtain ⟨n, r, T, z, n', r', I⟩ := E
  refine ok_aload_n dL_law_220 rfl rfl ?_
  refine ok_aload_n dL_law_221 rfl rfl ?_
  refine ok_iload_n dL_law_222 rfl rfl ?_
  refine ok_iconst (v := 1) dL_law_223 (by decide) ?_
  refine ok_iadd dL_law_224 ?_
  rw [show nI i + 1 = nI (i + 1) from nI_pl (a := i) (b := 1) (by omega)]
  refine ok_sld dL_law_225 Xs (show i + 1 < L by omega) hL ?_
  refine ok_callV (M' := mX4_person) (b' := (0, 0)) (As := [_]) (cx := 4) dL_law_226 iX4_person w_246 (by decide) rfl (is_lit I.1.1 (by decide) rfl) rfl (Nat.le_of_ble_eq_true rfl) ⟨Nat.le_of_ble_eq_true rfl, Nat.le_of_ble_eq_true rfl⟩ (Nat.le_of_ble_eq_true rfl) rfl rfl ?_
  refine sm_person I _ _ (fun x h1 hv K1 => ?_)
  refine ok_aload_n dL_law_229 rfl rfl ?_
  refine ok_aload_n dL_law_230 rfl rfl ?_
  refine ok_iload_n dL_law_231 rfl rfl ?_
  refine ok_iconst (v := 1) dL_law_232 (by decide) ?_
  refine ok_iadd dL_law_233 ?_
  rw [show nI i + 1 = nI (i + 1) from nI_pl (a := i) (b := 1) (by omega)]
  refine ok_sld dL_law_234 Xs (show i + 1 < L by omega) hL ?_
  refine ok_callV (M' := mX5_person) (b' := (0, 0)) (As := [_]) (cx := 5) dL_law_235 iX5_person w_839 (by decide) rfl (is_lit hv (by decide) rfl) rfl (Nat.le_of_ble_eq_true rfl) ⟨Nat.le_of_ble_eq_true rfl, Nat.le_of_ble_eq_true rfl⟩ (Nat.le_of_ble_eq_true rfl) rfl rfl ?_
  refine K1 _ (fun h2 E2 => ?_)
  refine ok_icmp_eq (tgt := 1306) dL_law_238 (by decide) (fun _ => ?_) (fun c9 => absurd rfl c9)
  exact K h2 E2
theorem lc_1 {g : GG} {nm : String} {h : Hp} {Post : Option Value → Hp → Prop} {L : Nat} {xs : Nat → Int32} (Xs : Sx g L xs) (X : Gx g) (hL : L ≤ 3072) {i : Nat} (hi : i + 6 ≤ L) (E : LE h) (K : ∀ h2, LE h2 → Go g (mLaw nm) 1306 [some (.ref 5000), some (.ref 0), some (.ref 49), some (.int (nI i))] [] h2 (0, 0) Post) : Go g (mLaw nm) 243 [some (.ref 5000), some (.ref 0), some (.ref 49), some (.int (nI i))] [] h (0, 0) Post := by
  obtain ⟨n, r, T, z, n', r', I⟩ := E
  refine ok_aload_n dL_law_243 rfl rfl ?_
  refine ok_aload_n dL_law_244 rfl rfl ?_
  refine ok_iload_n dL_law_245 rfl rfl ?_
  refine ok_iconst (v := 1) dL_law_246 (by decide) ?_
  refine ok_iadd dL_law_247 ?_
  rw [show nI i + 1 = nI (i + 1) from nI_pl (a := i) (b := 1) (by omega)]
  refine ok_sld dL_law_248 Xs (show i + 1 < L by omega) hL ?_
  refine ok_aload_n dL_law_249 rfl rfl ?_
  refine ok_iload_n dL_law_250 rfl rfl ?_
  refine ok_iconst (v := 2) dL_law_251 (by decide) ?_
  refine ok_iadd dL_law_252 ?_
  rw [show nI i + 2 = nI (i + 2) from nI_pl (a := i) (b := 2) (by omega)]
  refine ok_sld dL_law_253 Xs (show i + 2 < L by omega) hL ?_
  refine ok_callV (M' := mX4_of) (b' := (0, 0)) (As := [_, _]) (cx := 4) dL_law_254 iX4_of w_267 (by decide) rfl (is_lit I.1.1 (by decide) rfl) rfl (Nat.le_of_ble_eq_true rfl) ⟨Nat.le_of_ble_eq_true rfl, Nat.le_of_ble_eq_true rfl⟩ (Nat.le_of_ble_eq_true rfl) rfl rfl ?_
  refine sm_of I _ _ _ (fun x h1 hv K1 => ?_)
  refine ok_aload_n dL_law_257 rfl rfl ?_
  refine ok_aload_n dL_law_258 rfl rfl ?_
  refine ok_iload_n dL_law_259 rfl rfl ?_
  refine ok_iconst (v := 1) dL_law_260 (by decide) ?_
  refine ok_iadd dL_law_261 ?_
  rw [show nI i + 1 = nI (i + 1) from nI_pl (a := i) (b := 1) (by omega)]
  refine ok_sld dL_law_262 Xs (show i + 1 < L by omega) hL ?_
  refine ok_aload_n dL_law_263 rfl rfl ?_
  refine ok_iload_n dL_law_264 rfl rfl ?_
  refine ok_iconst (v := 2) dL_law_265 (by decide) ?_
  refine ok_iadd dL_law_266 ?_
  rw [show nI i + 2 = nI (i + 2) from nI_pl (a := i) (b := 2) (by omega)]
  refine ok_sld dL_law_267 Xs (show i + 2 < L by omega) hL ?_
  refine ok_callV (M' := mX5_of) (b' := (0, 0)) (As := [_, _]) (cx := 5) dL_law_268 iX5_of w_863 (by decide) rfl (is_lit hv (by decide) rfl) rfl (Nat.le_of_ble_eq_true rfl) ⟨Nat.le_of_ble_eq_true rfl, Nat.le_of_ble_eq_true rfl⟩ (Nat.le_of_ble_eq_true rfl) rfl rfl ?_
  refine K1 _ (fun h2 E2 => ?_)
  refine ok_icmp_eq (tgt := 1306) dL_law_271 (by decide) (fun _ => ?_) (fun c9 => absurd rfl c9)
  exact K h2 E2
theorem lc_2 {g : GG} {nm : String} {h : Hp} {Post : Option Value → Hp → Prop} {L : Nat} {xs : Nat → Int32} (Xs : Sx g L xs) (X : Gx g) (hL : L ≤ 3072) {i : Nat} (hi : i + 6 ≤ L) (E : LE h) (K : ∀ h2, LE h2 → Go g (mLaw nm) 1306 [some (.ref 5000), some (.ref 0), some (.ref 49), some (.int (nI i))] [] h2 (0, 0) Post) : Go g (mLaw nm) 276 [some (.ref 5000), some (.ref 0), some (.ref 49), some (.int (nI i))] [] h (0, 0) Post := by
  obtain ⟨n, r, T, z, n', r', I⟩ := E
  refine ok_aload_n dL_law_276 rfl rfl ?_
  refine ok_aload_n dL_law_277 rfl rfl ?_
  refine ok_iload_n dL_law_278 rfl rfl ?_
  refine ok_iconst (v := 1) dL_law_279 (by decide) ?_
  refine ok_iadd dL_law_280 ?_
  rw [show nI i + 1 = nI (i + 1) from nI_pl (a := i) (b := 1) (by omega)]
  refine ok_sld dL_law_281 Xs (show i + 1 < L by omega) hL ?_
  refine ok_aload_n dL_law_282 rfl rfl ?_
  refine ok_iload_n dL_law_283 rfl rfl ?_
  refine ok_iconst (v := 2) dL_law_284 (by decide) ?_
  refine ok_iadd dL_law_285 ?_
  rw [show nI i + 2 = nI (i + 2) from nI_pl (a := i) (b := 2) (by omega)]
  refine ok_sld dL_law_286 Xs (show i + 2 < L by omega) hL ?_
  refine ok_aload_n dL_law_287 rfl rfl ?_
  refine ok_iload_n dL_law_288 rfl rfl ?_
  refine ok_iconst (v := 3) dL_law_289 (by decide) ?_
  refine ok_iadd dL_law_290 ?_
  rw [show nI i + 3 = nI (i + 3) from nI_pl (a := i) (b := 3) (by omega)]
  refine ok_sld dL_law_291 Xs (show i + 3 < L by omega) hL ?_
  refine ok_callV (M' := mX4_set) (b' := (0, 0)) (As := [_, _, _]) (cx := 4) dL_law_292 iX4_set w_295 (by decide) rfl (is_lit I.1.1 (by decide) rfl) rfl (Nat.le_of_ble_eq_true rfl) ⟨Nat.le_of_ble_eq_true rfl, Nat.le_of_ble_eq_true rfl⟩ (Nat.le_of_ble_eq_true rfl) rfl rfl ?_
  refine sm_set I _ _ _ _ (fun x h1 hv K1 => ?_)
  refine ok_aload_n dL_law_295 rfl rfl ?_
  refine ok_aload_n dL_law_296 rfl rfl ?_
  refine ok_iload_n dL_law_297 rfl rfl ?_
  refine ok_iconst (v := 1) dL_law_298 (by decide) ?_
  refine ok_iadd dL_law_299 ?_
  rw [show nI i + 1 = nI (i + 1) from nI_pl (a := i) (b := 1) (by omega)]
  refine ok_sld dL_law_300 Xs (show i + 1 < L by omega) hL ?_
  refine ok_aload_n dL_law_301 rfl rfl ?_
  refine ok_iload_n dL_law_302 rfl rfl ?_
  refine ok_iconst (v := 2) dL_law_303 (by decide) ?_
  refine ok_iadd dL_law_304 ?_
  rw [show nI i + 2 = nI (i + 2) from nI_pl (a := i) (b := 2) (by omega)]
  refine ok_sld dL_law_305 Xs (show i + 2 < L by omega) hL ?_
  refine ok_aload_n dL_law_306 rfl rfl ?_
  refine ok_iload_n dL_law_307 rfl rfl ?_
  refine ok_iconst (v := 3) dL_law_308 (by decide) ?_
  refine ok_iadd dL_law_309 ?_
  rw [show nI i + 3 = nI (i + 3) from nI_pl (a := i) (b := 3) (by omega)]
  refine ok_sld dL_law_310 Xs (show i + 3 < L by omega) hL ?_
  refine ok_callV (M' := mX5_set) (b' := (0, 0)) (As := [_, _, _]) (cx := 5) dL_law_311 iX5_set w_890 (by decide) rfl (is_lit hv (by decide) rfl) rfl (Nat.le_of_ble_eq_true rfl) ⟨Nat.le_of_ble_eq_true rfl, Nat.le_of_ble_eq_true rfl⟩ (Nat.le_of_ble_eq_true rfl) rfl rfl ?_
  refine K1 _ (fun h2 E2 => ?_)
  refine ok_icmp_eq (tgt := 1306) dL_law_314 (by decide) (fun _ => ?_) (fun c9 => absurd rfl c9)
  exact K h2 E2
theorem lc_3 {g : GG} {nm : String} {h : Hp} {Post : Option Value → Hp → Prop} {L : Nat} {xs : Nat → Int32} (Xs : Sx g L xs) (X : Gx g) (hL : L ≤ 3072) {i : Nat} (hi : i + 6 ≤ L) (E : LE h) (K : ∀ h2, LE h2 → Go g (mLaw nm) 1306 [some (.ref 5000), some (.ref 0), some (.ref 49), some (.int (nI i))] [] h2 (0, 0) Post) : Go g (mLaw nm) 319 [some (.ref 5000), some (.ref 0), some (.ref 49), some (.int (nI i))] [] h (0, 0) Post := by
  obtain ⟨n, r, T, z, n', r', I⟩ := E
  refine ok_aload_n dL_law_319 rfl rfl ?_
  refine ok_aload_n dL_law_320 rfl rfl ?_
  refine ok_iload_n dL_law_321 rfl rfl ?_
  refine ok_iconst (v := 1) dL_law_322 (by decide) ?_
  refine ok_iadd dL_law_323 ?_
  rw [show nI i + 1 = nI (i + 1) from nI_pl (a := i) (b := 1) (by omega)]
  refine ok_sld dL_law_324 Xs (show i + 1 < L by omega) hL ?_
  refine ok_aload_n dL_law_325 rfl rfl ?_
  refine ok_iload_n dL_law_326 rfl rfl ?_
  refine ok_iconst (v := 2) dL_law_327 (by decide) ?_
  refine ok_iadd dL_law_328 ?_
  rw [show nI i + 2 = nI (i + 2) from nI_pl (a := i) (b := 2) (by omega)]
  refine ok_sld dL_law_329 Xs (show i + 2 < L by omega) hL ?_
  refine ok_callV (M' := mX4_turn) (b' := (0, 0)) (As := [_, _]) (cx := 4) dL_law_330 iX4_turn w_305 (by decide) rfl (is_lit I.1.1 (by decide) rfl) rfl (Nat.le_of_ble_eq_true rfl) ⟨Nat.le_of_ble_eq_true rfl, Nat.le_of_ble_eq_true rfl⟩ (Nat.le_of_ble_eq_true rfl) rfl rfl ?_
  refine sm_turn I _ _ _ (fun x h1 hv K1 => ?_)
  refine ok_aload_n dL_law_333 rfl rfl ?_
  refine ok_aload_n dL_law_334 rfl rfl ?_
  refine ok_iload_n dL_law_335 rfl rfl ?_
  refine ok_iconst (v := 1) dL_law_336 (by decide) ?_
  refine ok_iadd dL_law_337 ?_
  rw [show nI i + 1 = nI (i + 1) from nI_pl (a := i) (b := 1) (by omega)]
  refine ok_sld dL_law_338 Xs (show i + 1 < L by omega) hL ?_
  refine ok_aload_n dL_law_339 rfl rfl ?_
  refine ok_iload_n dL_law_340 rfl rfl ?_
  refine ok_iconst (v := 2) dL_law_341 (by decide) ?_
  refine ok_iadd dL_law_342 ?_
  rw [show nI i + 2 = nI (i + 2) from nI_pl (a := i) (b := 2) (by omega)]
  refine ok_sld dL_law_343 Xs (show i + 2 < L by omega) hL ?_
  refine ok_callV (M' := mX5_turn) (b' := (0, 0)) (As := [_, _]) (cx := 5) dL_law_344 iX5_turn w_894 (by decide) rfl (is_lit hv (by decide) rfl) rfl (Nat.le_of_ble_eq_true rfl) ⟨Nat.le_of_ble_eq_true rfl, Nat.le_of_ble_eq_true rfl⟩ (Nat.le_of_ble_eq_true rfl) rfl rfl ?_
  refine K1 _ (fun h2 E2 => ?_)
  refine ok_icmp_eq (tgt := 1306) dL_law_347 (by decide) (fun _ => ?_) (fun c9 => absurd rfl c9)
  exact K h2 E2
theorem lc_4 {g : GG} {nm : String} {h : Hp} {Post : Option Value → Hp → Prop} {L : Nat} {xs : Nat → Int32} (Xs : Sx g L xs) (X : Gx g) (hL : L ≤ 3072) {i : Nat} (hi : i + 6 ≤ L) (E : LE h) (K : ∀ h2, LE h2 → Go g (mLaw nm) 1306 [some (.ref 5000), some (.ref 0), some (.ref 49), some (.int (nI i))] [] h2 (0, 0) Post) : Go g (mLaw nm) 352 [some (.ref 5000), some (.ref 0), some (.ref 49), some (.int (nI i))] [] h (0, 0) Post := by
  obtain ⟨n, r, T, z, n', r', I⟩ := E
  refine ok_aload_n dL_law_352 rfl rfl ?_
  refine ok_aload_n dL_law_353 rfl rfl ?_
  refine ok_iload_n dL_law_354 rfl rfl ?_
  refine ok_iconst (v := 1) dL_law_355 (by decide) ?_
  refine ok_iadd dL_law_356 ?_
  rw [show nI i + 1 = nI (i + 1) from nI_pl (a := i) (b := 1) (by omega)]
  refine ok_sld dL_law_357 Xs (show i + 1 < L by omega) hL ?_
  refine ok_aload_n dL_law_358 rfl rfl ?_
  refine ok_iload_n dL_law_359 rfl rfl ?_
  refine ok_iconst (v := 2) dL_law_360 (by decide) ?_
  refine ok_iadd dL_law_361 ?_
  rw [show nI i + 2 = nI (i + 2) from nI_pl (a := i) (b := 2) (by omega)]
  refine ok_sld dL_law_362 Xs (show i + 2 < L by omega) hL ?_
  refine ok_callV (M' := mX4_as) (b' := (0, 0)) (As := [_, _]) (cx := 4) dL_law_363 iX4_as w_309 (by decide) rfl (is_lit I.1.1 (by decide) rfl) rfl (Nat.le_of_ble_eq_true rfl) ⟨Nat.le_of_ble_eq_true rfl, Nat.le_of_ble_eq_true rfl⟩ (Nat.le_of_ble_eq_true rfl) rfl rfl ?_
  refine sm_as I X _ _ _ (fun x h1 hv K1 => ?_)
  refine ok_aload_n dL_law_366 rfl rfl ?_
  refine ok_aload_n dL_law_367 rfl rfl ?_
  refine ok_iload_n dL_law_368 rfl rfl ?_
  refine ok_iconst (v := 1) dL_law_369 (by decide) ?_
  refine ok_iadd dL_law_370 ?_
  rw [show nI i + 1 = nI (i + 1) from nI_pl (a := i) (b := 1) (by omega)]
  refine ok_sld dL_law_371 Xs (show i + 1 < L by omega) hL ?_
  refine ok_aload_n dL_law_372 rfl rfl ?_
  refine ok_iload_n dL_law_373 rfl rfl ?_
  refine ok_iconst (v := 2) dL_law_374 (by decide) ?_
  refine ok_iadd dL_law_375 ?_
  rw [show nI i + 2 = nI (i + 2) from nI_pl (a := i) (b := 2) (by omega)]
  refine ok_sld dL_law_376 Xs (show i + 2 < L by omega) hL ?_
  refine ok_callV (M' := mX5_as) (b' := (0, 0)) (As := [_, _]) (cx := 5) dL_law_377 iX5_as w_898 (by decide) rfl (is_lit hv (by decide) rfl) rfl (Nat.le_of_ble_eq_true rfl) ⟨Nat.le_of_ble_eq_true rfl, Nat.le_of_ble_eq_true rfl⟩ (Nat.le_of_ble_eq_true rfl) rfl rfl ?_
  refine K1 _ (fun h2 E2 => ?_)
  refine ok_icmp_eq (tgt := 1306) dL_law_380 (by decide) (fun _ => ?_) (fun c9 => absurd rfl c9)
  exact K h2 E2
theorem lc_5 {g : GG} {nm : String} {h : Hp} {Post : Option Value → Hp → Prop} {L : Nat} {xs : Nat → Int32} (Xs : Sx g L xs) (X : Gx g) (hL : L ≤ 3072) {i : Nat} (hi : i + 6 ≤ L) (E : LE h) (K : ∀ h2, LE h2 → Go g (mLaw nm) 1306 [some (.ref 5000), some (.ref 0), some (.ref 49), some (.int (nI i))] [] h2 (0, 0) Post) : Go g (mLaw nm) 385 [some (.ref 5000), some (.ref 0), some (.ref 49), some (.int (nI i))] [] h (0, 0) Post := by
  obtain ⟨n, r, T, z, n', r', I⟩ := E
  refine ok_aload_n dL_law_385 rfl rfl ?_
  refine ok_aload_n dL_law_386 rfl rfl ?_
  refine ok_iload_n dL_law_387 rfl rfl ?_
  refine ok_iconst (v := 1) dL_law_388 (by decide) ?_
  refine ok_iadd dL_law_389 ?_
  rw [show nI i + 1 = nI (i + 1) from nI_pl (a := i) (b := 1) (by omega)]
  refine ok_sld dL_law_390 Xs (show i + 1 < L by omega) hL ?_
  refine ok_aload_n dL_law_391 rfl rfl ?_
  refine ok_iload_n dL_law_392 rfl rfl ?_
  refine ok_iconst (v := 2) dL_law_393 (by decide) ?_
  refine ok_iadd dL_law_394 ?_
  rw [show nI i + 2 = nI (i + 2) from nI_pl (a := i) (b := 2) (by omega)]
  refine ok_sld dL_law_395 Xs (show i + 2 < L by omega) hL ?_
  refine ok_callV (M' := mX4_move) (b' := (0, 0)) (As := [_, _]) (cx := 4) dL_law_396 iX4_move w_319 (by decide) rfl (is_lit I.1.1 (by decide) rfl) rfl (Nat.le_of_ble_eq_true rfl) ⟨Nat.le_of_ble_eq_true rfl, Nat.le_of_ble_eq_true rfl⟩ (Nat.le_of_ble_eq_true rfl) rfl rfl ?_
  refine sm_move I _ _ _ (fun x h1 hv K1 => ?_)
  refine ok_aload_n dL_law_399 rfl rfl ?_
  refine ok_aload_n dL_law_400 rfl rfl ?_
  refine ok_iload_n dL_law_401 rfl rfl ?_
  refine ok_iconst (v := 1) dL_law_402 (by decide) ?_
  refine ok_iadd dL_law_403 ?_
  rw [show nI i + 1 = nI (i + 1) from nI_pl (a := i) (b := 1) (by omega)]
  refine ok_sld dL_law_404 Xs (show i + 1 < L by omega) hL ?_
  refine ok_aload_n dL_law_405 rfl rfl ?_
  refine ok_iload_n dL_law_406 rfl rfl ?_
  refine ok_iconst (v := 2) dL_law_407 (by decide) ?_
  refine ok_iadd dL_law_408 ?_
  rw [show nI i + 2 = nI (i + 2) from nI_pl (a := i) (b := 2) (by omega)]
  refine ok_sld dL_law_409 Xs (show i + 2 < L by omega) hL ?_
  refine ok_callV (M' := mX5_move) (b' := (0, 0)) (As := [_, _]) (cx := 5) dL_law_410 iX5_move w_906 (by decide) rfl (is_lit hv (by decide) rfl) rfl (Nat.le_of_ble_eq_true rfl) ⟨Nat.le_of_ble_eq_true rfl, Nat.le_of_ble_eq_true rfl⟩ (Nat.le_of_ble_eq_true rfl) rfl rfl ?_
  refine K1 _ (fun h2 E2 => ?_)
  refine ok_icmp_eq (tgt := 1306) dL_law_413 (by decide) (fun _ => ?_) (fun c9 => absurd rfl c9)
  exact K h2 E2
theorem lc_6 {g : GG} {nm : String} {h : Hp} {Post : Option Value → Hp → Prop} {L : Nat} {xs : Nat → Int32} (Xs : Sx g L xs) (X : Gx g) (hL : L ≤ 3072) {i : Nat} (hi : i + 6 ≤ L) (E : LE h) (K : ∀ h2, LE h2 → Go g (mLaw nm) 1306 [some (.ref 5000), some (.ref 0), some (.ref 49), some (.int (nI i))] [] h2 (0, 0) Post) : Go g (mLaw nm) 418 [some (.ref 5000), some (.ref 0), some (.ref 49), some (.int (nI i))] [] h (0, 0) Post := by
  obtain ⟨n, r, T, z, n', r', I⟩ := E
  refine ok_aload_n dL_law_418 rfl rfl ?_
  refine ok_aload_n dL_law_419 rfl rfl ?_
  refine ok_iload_n dL_law_420 rfl rfl ?_
  refine ok_iconst (v := 1) dL_law_421 (by decide) ?_
  refine ok_iadd dL_law_422 ?_
  rw [show nI i + 1 = nI (i + 1) from nI_pl (a := i) (b := 1) (by omega)]
  refine ok_sld dL_law_423 Xs (show i + 1 < L by omega) hL ?_
  refine ok_callV (M' := mX4_leave) (b' := (0, 0)) (As := [_]) (cx := 4) dL_law_424 iX4_leave w_330 (by decide) rfl (is_lit I.1.1 (by decide) rfl) rfl (Nat.le_of_ble_eq_true rfl) ⟨Nat.le_of_ble_eq_true rfl, Nat.le_of_ble_eq_true rfl⟩ (Nat.le_of_ble_eq_true rfl) rfl rfl ?_
  refine sm_leave I _ _ (fun x h1 hv K1 => ?_)
  refine ok_aload_n dL_law_427 rfl rfl ?_
  refine ok_aload_n dL_law_428 rfl rfl ?_
  refine ok_iload_n dL_law_429 rfl rfl ?_
  refine ok_iconst (v := 1) dL_law_430 (by decide) ?_
  refine ok_iadd dL_law_431 ?_
  rw [show nI i + 1 = nI (i + 1) from nI_pl (a := i) (b := 1) (by omega)]
  refine ok_sld dL_law_432 Xs (show i + 1 < L by omega) hL ?_
  refine ok_callV (M' := mX5_leave) (b' := (0, 0)) (As := [_]) (cx := 5) dL_law_433 iX5_leave w_918 (by decide) rfl (is_lit hv (by decide) rfl) rfl (Nat.le_of_ble_eq_true rfl) ⟨Nat.le_of_ble_eq_true rfl, Nat.le_of_ble_eq_true rfl⟩ (Nat.le_of_ble_eq_true rfl) rfl rfl ?_
  refine K1 _ (fun h2 E2 => ?_)
  refine ok_icmp_eq (tgt := 1306) dL_law_436 (by decide) (fun _ => ?_) (fun c9 => absurd rfl c9)
  exact K h2 E2
theorem lc_7 {g : GG} {nm : String} {h : Hp} {Post : Option Value → Hp → Prop} {L : Nat} {xs : Nat → Int32} (Xs : Sx g L xs) (X : Gx g) (hL : L ≤ 3072) {i : Nat} (hi : i + 6 ≤ L) (E : LE h) (K : ∀ h2, LE h2 → Go g (mLaw nm) 1306 [some (.ref 5000), some (.ref 0), some (.ref 49), some (.int (nI i))] [] h2 (0, 0) Post) : Go g (mLaw nm) 441 [some (.ref 5000), some (.ref 0), some (.ref 49), some (.int (nI i))] [] h (0, 0) Post := by
  obtain ⟨n, r, T, z, n', r', I⟩ := E
  refine ok_aload_n dL_law_441 rfl rfl ?_
  refine ok_aload_n dL_law_442 rfl rfl ?_
  refine ok_iload_n dL_law_443 rfl rfl ?_
  refine ok_iconst (v := 1) dL_law_444 (by decide) ?_
  refine ok_iadd dL_law_445 ?_
  rw [show nI i + 1 = nI (i + 1) from nI_pl (a := i) (b := 1) (by omega)]
  refine ok_sld dL_law_446 Xs (show i + 1 < L by omega) hL ?_
  refine ok_callV (M' := mX4_coins) (b' := (0, 0)) (As := [_]) (cx := 4) dL_law_447 iX4_coins w_339 (by decide) rfl (is_lit I.1.1 (by decide) rfl) rfl (Nat.le_of_ble_eq_true rfl) ⟨Nat.le_of_ble_eq_true rfl, Nat.le_of_ble_eq_true rfl⟩ (Nat.le_of_ble_eq_true rfl) rfl rfl ?_
  refine sm_coins I _ _ (fun x h1 hv K1 => ?_)
  refine ok_aload_n dL_law_450 rfl rfl ?_
  refine ok_aload_n dL_law_451 rfl rfl ?_
  refine ok_iload_n dL_law_452 rfl rfl ?_
  refine ok_iconst (v := 1) dL_law_453 (by decide) ?_
  refine ok_iadd dL_law_454 ?_
  rw [show nI i + 1 = nI (i + 1) from nI_pl (a := i) (b := 1) (by omega)]
  refine ok_sld dL_law_455 Xs (show i + 1 < L by omega) hL ?_
  refine ok_callV (M' := mX5_coins) (b' := (0, 0)) (As := [_]) (cx := 5) dL_law_456 iX5_coins w_922 (by decide) rfl (is_lit hv (by decide) rfl) rfl (Nat.le_of_ble_eq_true rfl) ⟨Nat.le_of_ble_eq_true rfl, Nat.le_of_ble_eq_true rfl⟩ (Nat.le_of_ble_eq_true rfl) rfl rfl ?_
  refine K1 _ (fun h2 E2 => ?_)
  refine ok_icmp_eq (tgt := 1306) dL_law_459 (by decide) (fun _ => ?_) (fun c9 => absurd rfl c9)
  exact K h2 E2
theorem lc_8 {g : GG} {nm : String} {h : Hp} {Post : Option Value → Hp → Prop} {L : Nat} {xs : Nat → Int32} (Xs : Sx g L xs) (X : Gx g) (hL : L ≤ 3072) {i : Nat} (hi : i + 6 ≤ L) (E : LE h) (K : ∀ h2, LE h2 → Go g (mLaw nm) 1306 [some (.ref 5000), some (.ref 0), some (.ref 49), some (.int (nI i))] [] h2 (0, 0) Post) : Go g (mLaw nm) 464 [some (.ref 5000), some (.ref 0), some (.ref 49), some (.int (nI i))] [] h (0, 0) Post := by
  obtain ⟨n, r, T, z, n', r', I⟩ := E
  refine ok_aload_n dL_law_464 rfl rfl ?_
  refine ok_aload_n dL_law_465 rfl rfl ?_
  refine ok_iload_n dL_law_466 rfl rfl ?_
  refine ok_iconst (v := 1) dL_law_467 (by decide) ?_
  refine ok_iadd dL_law_468 ?_
  rw [show nI i + 1 = nI (i + 1) from nI_pl (a := i) (b := 1) (by omega)]
  refine ok_sld dL_law_469 Xs (show i + 1 < L by omega) hL ?_
  refine ok_callV (M' := mX4_law) (b' := (0, 0)) (As := [_]) (cx := 4) dL_law_470 iX4_law w_343 (by decide) rfl (is_lit I.1.1 (by decide) rfl) rfl (Nat.le_of_ble_eq_true rfl) ⟨Nat.le_of_ble_eq_true rfl, Nat.le_of_ble_eq_true rfl⟩ (Nat.le_of_ble_eq_true rfl) rfl rfl ?_
  refine sm_law I _ _ (fun x h1 hv K1 => ?_)
  refine ok_aload_n dL_law_473 rfl rfl ?_
  refine ok_aload_n dL_law_474 rfl rfl ?_
  refine ok_iload_n dL_law_475 rfl rfl ?_
  refine ok_iconst (v := 1) dL_law_476 (by decide) ?_
  refine ok_iadd dL_law_477 ?_
  rw [show nI i + 1 = nI (i + 1) from nI_pl (a := i) (b := 1) (by omega)]
  refine ok_sld dL_law_478 Xs (show i + 1 < L by omega) hL ?_
  refine ok_callV (M' := mX5_law) (b' := (0, 0)) (As := [_]) (cx := 5) dL_law_479 iX5_law w_926 (by decide) rfl (is_lit hv (by decide) rfl) rfl (Nat.le_of_ble_eq_true rfl) ⟨Nat.le_of_ble_eq_true rfl, Nat.le_of_ble_eq_true rfl⟩ (Nat.le_of_ble_eq_true rfl) rfl rfl ?_
  refine K1 _ (fun h2 E2 => ?_)
  refine ok_icmp_eq (tgt := 1306) dL_law_482 (by decide) (fun _ => ?_) (fun c9 => absurd rfl c9)
  exact K h2 E2
theorem lc_9 {g : GG} {nm : String} {h : Hp} {Post : Option Value → Hp → Prop} {L : Nat} {xs : Nat → Int32} (Xs : Sx g L xs) (X : Gx g) (hL : L ≤ 3072) {i : Nat} (hi : i + 6 ≤ L) (E : LE h) (K : ∀ h2, LE h2 → Go g (mLaw nm) 1306 [some (.ref 5000), some (.ref 0), some (.ref 49), some (.int (nI i))] [] h2 (0, 0) Post) : Go g (mLaw nm) 487 [some (.ref 5000), some (.ref 0), some (.ref 49), some (.int (nI i))] [] h (0, 0) Post := by
  obtain ⟨n, r, T, z, n', r', I⟩ := E
  by_cases cw : xs (i + 1) = 0
  · have hw : B01 0 := Or.inl rfl
    refine ok_aload_n dL_law_487 rfl rfl ?_
    refine ok_aload_n dL_law_488 rfl rfl ?_
    refine ok_iload_n dL_law_489 rfl rfl ?_
    refine ok_iconst (v := 1) dL_law_490 (by decide) ?_
    refine ok_iadd dL_law_491 ?_
    rw [show nI i + 1 = nI (i + 1) from nI_pl (a := i) (b := 1) (by omega)]
    refine ok_sld dL_law_492 Xs (show i + 1 < L by omega) hL ?_
    refine ok_if_eq (tgt := 500) dL_law_493 (by decide) (fun _ => ?_) (fun c9 => absurd cw c9)
    refine ok_iconst (v := 0) dL_law_500 (by decide) ?_
    refine ok_aload_n dL_law_501 rfl rfl ?_
    refine ok_iload_n dL_law_502 rfl rfl ?_
    refine ok_iconst (v := 2) dL_law_503 (by decide) ?_
    refine ok_iadd dL_law_504 ?_
    rw [show nI i + 2 = nI (i + 2) from nI_pl (a := i) (b := 2) (by omega)]
    refine ok_sld dL_law_505 Xs (show i + 2 < L by omega) hL ?_
    refine ok_callV (M' := mX4_diver) (b' := (0, 0)) (As := [_, _]) (cx := 4) dL_law_506 iX4_diver w_347 (by decide) rfl (is_lit I.1.1 (by decide) rfl) rfl (Nat.le_of_ble_eq_true rfl) ⟨Nat.le_of_ble_eq_true rfl, Nat.le_of_ble_eq_true rfl⟩ (Nat.le_of_ble_eq_true rfl) rfl rfl ?_
    refine sm_diver I hw _ _ (fun x h1 hv K1 => ?_)
    refine ok_aload_n dL_law_509 rfl rfl ?_
    refine ok_aload_n dL_law_510 rfl rfl ?_
    refine ok_iload_n dL_law_511 rfl rfl ?_
    refine ok_iconst (v := 1) dL_law_512 (by decide) ?_
    refine ok_iadd dL_law_513 ?_
    rw [show nI i + 1 = nI (i + 1) from nI_pl (a := i) (b := 1) (by omega)]
    refine ok_sld dL_law_514 Xs (show i + 1 < L by omega) hL ?_
    refine ok_if_eq (tgt := 522) dL_law_515 (by decide) (fun _ => ?_) (fun c9 => absurd cw c9)
    refine ok_iconst (v := 0) dL_law_522 (by decide) ?_
    refine ok_aload_n dL_law_523 rfl rfl ?_
    refine ok_iload_n dL_law_524 rfl rfl ?_
    refine ok_iconst (v := 2) dL_law_525 (by decide) ?_
    refine ok_iadd dL_law_526 ?_
    rw [show nI i + 2 = nI (i + 2) from nI_pl (a := i) (b := 2) (by omega)]
    refine ok_sld dL_law_527 Xs (show i + 2 < L by omega) hL ?_
    refine ok_callV (M' := mX5_diver) (b' := (0, 0)) (As := [_, _]) (cx := 5) dL_law_528 iX5_diver w_930 (by decide) rfl (is_lit hv (by decide) rfl) rfl (Nat.le_of_ble_eq_true rfl) ⟨Nat.le_of_ble_eq_true rfl, Nat.le_of_ble_eq_true rfl⟩ (Nat.le_of_ble_eq_true rfl) rfl rfl ?_
    refine K1 _ (fun h2 E2 => ?_)
    refine ok_icmp_eq (tgt := 1306) dL_law_531 (by decide) (fun _ => ?_) (fun c9 => absurd rfl c9)
    exact K h2 E2
  · have hw : B01 1 := Or.inr rfl
    refine ok_aload_n dL_law_487 rfl rfl ?_
    refine ok_aload_n dL_law_488 rfl rfl ?_
    refine ok_iload_n dL_law_489 rfl rfl ?_
    refine ok_iconst (v := 1) dL_law_490 (by decide) ?_
    refine ok_iadd dL_law_491 ?_
    rw [show nI i + 1 = nI (i + 1) from nI_pl (a := i) (b := 1) (by omega)]
    refine ok_sld dL_law_492 Xs (show i + 1 < L by omega) hL ?_
    refine ok_if_eq (tgt := 500) dL_law_493 (by decide) (fun c9 => absurd c9 cw) (fun _ => ?_)
    refine ok_iconst (v := 1) dL_law_496 (by decide) ?_
    refine ok_goto (tgt := 501) dL_law_497 (by decide) ?_
    refine ok_aload_n dL_law_501 rfl rfl ?_
    refine ok_iload_n dL_law_502 rfl rfl ?_
    refine ok_iconst (v := 2) dL_law_503 (by decide) ?_
    refine ok_iadd dL_law_504 ?_
    rw [show nI i + 2 = nI (i + 2) from nI_pl (a := i) (b := 2) (by omega)]
    refine ok_sld dL_law_505 Xs (show i + 2 < L by omega) hL ?_
    refine ok_callV (M' := mX4_diver) (b' := (0, 0)) (As := [_, _]) (cx := 4) dL_law_506 iX4_diver w_347 (by decide) rfl (is_lit I.1.1 (by decide) rfl) rfl (Nat.le_of_ble_eq_true rfl) ⟨Nat.le_of_ble_eq_true rfl, Nat.le_of_ble_eq_true rfl⟩ (Nat.le_of_ble_eq_true rfl) rfl rfl ?_
    refine sm_diver I hw _ _ (fun x h1 hv K1 => ?_)
    refine ok_aload_n dL_law_509 rfl rfl ?_
    refine ok_aload_n dL_law_510 rfl rfl ?_
    refine ok_iload_n dL_law_511 rfl rfl ?_
    refine ok_iconst (v := 1) dL_law_512 (by decide) ?_
    refine ok_iadd dL_law_513 ?_
    rw [show nI i + 1 = nI (i + 1) from nI_pl (a := i) (b := 1) (by omega)]
    refine ok_sld dL_law_514 Xs (show i + 1 < L by omega) hL ?_
    refine ok_if_eq (tgt := 522) dL_law_515 (by decide) (fun c9 => absurd c9 cw) (fun _ => ?_)
    refine ok_iconst (v := 1) dL_law_518 (by decide) ?_
    refine ok_goto (tgt := 523) dL_law_519 (by decide) ?_
    refine ok_aload_n dL_law_523 rfl rfl ?_
    refine ok_iload_n dL_law_524 rfl rfl ?_
    refine ok_iconst (v := 2) dL_law_525 (by decide) ?_
    refine ok_iadd dL_law_526 ?_
    rw [show nI i + 2 = nI (i + 2) from nI_pl (a := i) (b := 2) (by omega)]
    refine ok_sld dL_law_527 Xs (show i + 2 < L by omega) hL ?_
    refine ok_callV (M' := mX5_diver) (b' := (0, 0)) (As := [_, _]) (cx := 5) dL_law_528 iX5_diver w_930 (by decide) rfl (is_lit hv (by decide) rfl) rfl (Nat.le_of_ble_eq_true rfl) ⟨Nat.le_of_ble_eq_true rfl, Nat.le_of_ble_eq_true rfl⟩ (Nat.le_of_ble_eq_true rfl) rfl rfl ?_
    refine K1 _ (fun h2 E2 => ?_)
    refine ok_icmp_eq (tgt := 1306) dL_law_531 (by decide) (fun _ => ?_) (fun c9 => absurd rfl c9)
    exact K h2 E2
theorem lc_10 {g : GG} {nm : String} {h : Hp} {Post : Option Value → Hp → Prop} {L : Nat} {xs : Nat → Int32} (Xs : Sx g L xs) (X : Gx g) (hL : L ≤ 3072) {i : Nat} (hi : i + 6 ≤ L) (E : LE h) (K : ∀ h2, LE h2 → Go g (mLaw nm) 1306 [some (.ref 5000), some (.ref 0), some (.ref 49), some (.int (nI i))] [] h2 (0, 0) Post) : Go g (mLaw nm) 536 [some (.ref 5000), some (.ref 0), some (.ref 49), some (.int (nI i))] [] h (0, 0) Post := by
  obtain ⟨n, r, T, z, n', r', I⟩ := E
  refine ok_aload_n dL_law_536 rfl rfl ?_
  refine ok_aload_n dL_law_537 rfl rfl ?_
  refine ok_iload_n dL_law_538 rfl rfl ?_
  refine ok_iconst (v := 1) dL_law_539 (by decide) ?_
  refine ok_iadd dL_law_540 ?_
  rw [show nI i + 1 = nI (i + 1) from nI_pl (a := i) (b := 1) (by omega)]
  refine ok_sld dL_law_541 Xs (show i + 1 < L by omega) hL ?_
  refine ok_callV (M' := mX4_hours) (b' := (0, 0)) (As := [_]) (cx := 4) dL_law_542 iX4_hours w_358 (by decide) rfl (is_lit I.1.1 (by decide) rfl) rfl (Nat.le_of_ble_eq_true rfl) ⟨Nat.le_of_ble_eq_true rfl, Nat.le_of_ble_eq_true rfl⟩ (Nat.le_of_ble_eq_true rfl) rfl rfl ?_
  refine sm_hours I _ _ (fun x h1 hv K1 => ?_)
  refine ok_aload_n dL_law_545 rfl rfl ?_
  refine ok_aload_n dL_law_546 rfl rfl ?_
  refine ok_iload_n dL_law_547 rfl rfl ?_
  refine ok_iconst (v := 1) dL_law_548 (by decide) ?_
  refine ok_iadd dL_law_549 ?_
  rw [show nI i + 1 = nI (i + 1) from nI_pl (a := i) (b := 1) (by omega)]
  refine ok_sld dL_law_550 Xs (show i + 1 < L by omega) hL ?_
  refine ok_callV (M' := mX5_hours) (b' := (0, 0)) (As := [_]) (cx := 5) dL_law_551 iX5_hours w_934 (by decide) rfl (is_lit hv (by decide) rfl) rfl (Nat.le_of_ble_eq_true rfl) ⟨Nat.le_of_ble_eq_true rfl, Nat.le_of_ble_eq_true rfl⟩ (Nat.le_of_ble_eq_true rfl) rfl rfl ?_
  refine K1 _ (fun h2 E2 => ?_)
  refine ok_icmp_eq (tgt := 1306) dL_law_554 (by decide) (fun _ => ?_) (fun c9 => absurd rfl c9)
  exact K h2 E2
theorem lc_11 {g : GG} {nm : String} {h : Hp} {Post : Option Value → Hp → Prop} {L : Nat} {xs : Nat → Int32} (Xs : Sx g L xs) (X : Gx g) (hL : L ≤ 3072) {i : Nat} (hi : i + 6 ≤ L) (E : LE h) (K : ∀ h2, LE h2 → Go g (mLaw nm) 1306 [some (.ref 5000), some (.ref 0), some (.ref 49), some (.int (nI i))] [] h2 (0, 0) Post) : Go g (mLaw nm) 559 [some (.ref 5000), some (.ref 0), some (.ref 49), some (.int (nI i))] [] h (0, 0) Post := by
  obtain ⟨n, r, T, z, n', r', I⟩ := E
  refine ok_aload_n dL_law_559 rfl rfl ?_
  refine ok_aload_n dL_law_560 rfl rfl ?_
  refine ok_iload_n dL_law_561 rfl rfl ?_
  refine ok_iconst (v := 1) dL_law_562 (by decide) ?_
  refine ok_iadd dL_law_563 ?_
  rw [show nI i + 1 = nI (i + 1) from nI_pl (a := i) (b := 1) (by omega)]
  refine ok_sld dL_law_564 Xs (show i + 1 < L by omega) hL ?_
  refine ok_callV (M' := mX4_now) (b' := (0, 0)) (As := [_]) (cx := 4) dL_law_565 iX4_now w_381 (by decide) rfl (is_lit I.1.1 (by decide) rfl) rfl (Nat.le_of_ble_eq_true rfl) ⟨Nat.le_of_ble_eq_true rfl, Nat.le_of_ble_eq_true rfl⟩ (Nat.le_of_ble_eq_true rfl) rfl rfl ?_
  refine sm_now I _ _ (fun x h1 hv K1 => ?_)
  refine ok_aload_n dL_law_568 rfl rfl ?_
  refine ok_aload_n dL_law_569 rfl rfl ?_
  refine ok_iload_n dL_law_570 rfl rfl ?_
  refine ok_iconst (v := 1) dL_law_571 (by decide) ?_
  refine ok_iadd dL_law_572 ?_
  rw [show nI i + 1 = nI (i + 1) from nI_pl (a := i) (b := 1) (by omega)]
  refine ok_sld dL_law_573 Xs (show i + 1 < L by omega) hL ?_
  refine ok_callV (M' := mX5_now) (b' := (0, 0)) (As := [_]) (cx := 5) dL_law_574 iX5_now w_952 (by decide) rfl (is_lit hv (by decide) rfl) rfl (Nat.le_of_ble_eq_true rfl) ⟨Nat.le_of_ble_eq_true rfl, Nat.le_of_ble_eq_true rfl⟩ (Nat.le_of_ble_eq_true rfl) rfl rfl ?_
  refine K1 _ (fun h2 E2 => ?_)
  refine ok_icmp_eq (tgt := 1306) dL_law_577 (by decide) (fun _ => ?_) (fun c9 => absurd rfl c9)
  exact K h2 E2
theorem lc_12 {g : GG} {nm : String} {h : Hp} {Post : Option Value → Hp → Prop} {L : Nat} {xs : Nat → Int32} (Xs : Sx g L xs) (X : Gx g) (hL : L ≤ 3072) {i : Nat} (hi : i + 6 ≤ L) (E : LE h) (K : ∀ h2, LE h2 → Go g (mLaw nm) 1306 [some (.ref 5000), some (.ref 0), some (.ref 49), some (.int (nI i))] [] h2 (0, 0) Post) : Go g (mLaw nm) 582 [some (.ref 5000), some (.ref 0), some (.ref 49), some (.int (nI i))] [] h (0, 0) Post := by
  obtain ⟨n, r, T, z, n', r', I⟩ := E
  refine ok_aload_n dL_law_582 rfl rfl ?_
  refine ok_callV (M' := mX4_runs) (b' := (0, 0)) (As := []) (cx := 4) dL_law_583 iX4_runs w_397 (by decide) rfl (is_lit I.1.1 (by decide) rfl) rfl (Nat.le_of_ble_eq_true rfl) ⟨Nat.le_of_ble_eq_true rfl, Nat.le_of_ble_eq_true rfl⟩ (Nat.le_of_ble_eq_true rfl) rfl rfl ?_
  refine sm_runs I  _ (fun x h1 hv K1 => ?_)
  refine ok_aload_n dL_law_586 rfl rfl ?_
  refine ok_callV (M' := mX5_runs) (b' := (0, 0)) (As := []) (cx := 5) dL_law_587 iX5_runs w_960 (by decide) rfl (is_lit hv (by decide) rfl) rfl (Nat.le_of_ble_eq_true rfl) ⟨Nat.le_of_ble_eq_true rfl, Nat.le_of_ble_eq_true rfl⟩ (Nat.le_of_ble_eq_true rfl) rfl rfl ?_
  refine K1 _ (fun h2 E2 => ?_)
  refine ok_icmp_eq (tgt := 1306) dL_law_590 (by decide) (fun _ => ?_) (fun c9 => absurd rfl c9)
  exact K h2 E2
theorem lc_13 {g : GG} {nm : String} {h : Hp} {Post : Option Value → Hp → Prop} {L : Nat} {xs : Nat → Int32} (Xs : Sx g L xs) (X : Gx g) (hL : L ≤ 3072) {i : Nat} (hi : i + 6 ≤ L) (E : LE h) (K : ∀ h2, LE h2 → Go g (mLaw nm) 1306 [some (.ref 5000), some (.ref 0), some (.ref 49), some (.int (nI i))] [] h2 (0, 0) Post) : Go g (mLaw nm) 595 [some (.ref 5000), some (.ref 0), some (.ref 49), some (.int (nI i))] [] h (0, 0) Post := by
  obtain ⟨n, r, T, z, n', r', I⟩ := E
  refine ok_aload_n dL_law_595 rfl rfl ?_
  refine ok_aload_n dL_law_596 rfl rfl ?_
  refine ok_iload_n dL_law_597 rfl rfl ?_
  refine ok_iconst (v := 1) dL_law_598 (by decide) ?_
  refine ok_iadd dL_law_599 ?_
  rw [show nI i + 1 = nI (i + 1) from nI_pl (a := i) (b := 1) (by omega)]
  refine ok_sld dL_law_600 Xs (show i + 1 < L by omega) hL ?_
  refine ok_callV (M' := mX4_thrown) (b' := (0, 0)) (As := [_]) (cx := 4) dL_law_601 iX4_thrown w_413 (by decide) rfl (is_lit I.1.1 (by decide) rfl) rfl (Nat.le_of_ble_eq_true rfl) ⟨Nat.le_of_ble_eq_true rfl, Nat.le_of_ble_eq_true rfl⟩ (Nat.le_of_ble_eq_true rfl) rfl rfl ?_
  refine sm_thrown I _ _ (fun x h1 hv K1 => ?_)
  refine ok_aload_n dL_law_604 rfl rfl ?_
  refine ok_aload_n dL_law_605 rfl rfl ?_
  refine ok_iload_n dL_law_606 rfl rfl ?_
  refine ok_iconst (v := 1) dL_law_607 (by decide) ?_
  refine ok_iadd dL_law_608 ?_
  rw [show nI i + 1 = nI (i + 1) from nI_pl (a := i) (b := 1) (by omega)]
  refine ok_sld dL_law_609 Xs (show i + 1 < L by omega) hL ?_
  refine ok_callV (M' := mX5_thrown) (b' := (0, 0)) (As := [_]) (cx := 5) dL_law_610 iX5_thrown w_964 (by decide) rfl (is_lit hv (by decide) rfl) rfl (Nat.le_of_ble_eq_true rfl) ⟨Nat.le_of_ble_eq_true rfl, Nat.le_of_ble_eq_true rfl⟩ (Nat.le_of_ble_eq_true rfl) rfl rfl ?_
  refine K1 _ (fun h2 E2 => ?_)
  refine ok_icmp_eq (tgt := 1306) dL_law_613 (by decide) (fun _ => ?_) (fun c9 => absurd rfl c9)
  exact K h2 E2
theorem lc_14 {g : GG} {nm : String} {h : Hp} {Post : Option Value → Hp → Prop} {L : Nat} {xs : Nat → Int32} (Xs : Sx g L xs) (X : Gx g) (hL : L ≤ 3072) {i : Nat} (hi : i + 6 ≤ L) (E : LE h) (K : ∀ h2, LE h2 → Go g (mLaw nm) 1306 [some (.ref 5000), some (.ref 0), some (.ref 49), some (.int (nI i))] [] h2 (0, 0) Post) : Go g (mLaw nm) 618 [some (.ref 5000), some (.ref 0), some (.ref 49), some (.int (nI i))] [] h (0, 0) Post := by
  obtain ⟨n, r, T, z, n', r', I⟩ := E
  refine ok_aload_n dL_law_618 rfl rfl ?_
  refine ok_aload_n dL_law_619 rfl rfl ?_
  refine ok_iload_n dL_law_620 rfl rfl ?_
  refine ok_iconst (v := 1) dL_law_621 (by decide) ?_
  refine ok_iadd dL_law_622 ?_
  rw [show nI i + 1 = nI (i + 1) from nI_pl (a := i) (b := 1) (by omega)]
  refine ok_sld dL_law_623 Xs (show i + 1 < L by omega) hL ?_
  refine ok_callV (M' := mX4_gain) (b' := (0, 0)) (As := [_]) (cx := 4) dL_law_624 iX4_gain w_417 (by decide) rfl (is_lit I.1.1 (by decide) rfl) rfl (Nat.le_of_ble_eq_true rfl) ⟨Nat.le_of_ble_eq_true rfl, Nat.le_of_ble_eq_true rfl⟩ (Nat.le_of_ble_eq_true rfl) rfl rfl ?_
  refine sm_gain I _ _ (fun x h1 hv K1 => ?_)
  refine ok_aload_n dL_law_627 rfl rfl ?_
  refine ok_aload_n dL_law_628 rfl rfl ?_
  refine ok_iload_n dL_law_629 rfl rfl ?_
  refine ok_iconst (v := 1) dL_law_630 (by decide) ?_
  refine ok_iadd dL_law_631 ?_
  rw [show nI i + 1 = nI (i + 1) from nI_pl (a := i) (b := 1) (by omega)]
  refine ok_sld dL_law_632 Xs (show i + 1 < L by omega) hL ?_
  refine ok_callV (M' := mX5_gain) (b' := (0, 0)) (As := [_]) (cx := 5) dL_law_633 iX5_gain w_968 (by decide) rfl (is_lit hv (by decide) rfl) rfl (Nat.le_of_ble_eq_true rfl) ⟨Nat.le_of_ble_eq_true rfl, Nat.le_of_ble_eq_true rfl⟩ (Nat.le_of_ble_eq_true rfl) rfl rfl ?_
  refine K1 _ (fun h2 E2 => ?_)
  refine ok_icmp_eq (tgt := 1306) dL_law_636 (by decide) (fun _ => ?_) (fun c9 => absurd rfl c9)
  exact K h2 E2
theorem lc_15 {g : GG} {nm : String} {h : Hp} {Post : Option Value → Hp → Prop} {L : Nat} {xs : Nat → Int32} (Xs : Sx g L xs) (X : Gx g) (hL : L ≤ 3072) {i : Nat} (hi : i + 6 ≤ L) (E : LE h) (K : ∀ h2, LE h2 → Go g (mLaw nm) 1306 [some (.ref 5000), some (.ref 0), some (.ref 49), some (.int (nI i))] [] h2 (0, 0) Post) : Go g (mLaw nm) 641 [some (.ref 5000), some (.ref 0), some (.ref 49), some (.int (nI i))] [] h (0, 0) Post := by
  obtain ⟨n, r, T, z, n', r', I⟩ := E
  refine ok_aload_n dL_law_641 rfl rfl ?_
  refine ok_callV (M' := mX4_all) (b' := (0, 0)) (As := []) (cx := 4) dL_law_642 iX4_all w_433 (by decide) rfl (is_lit I.1.1 (by decide) rfl) rfl (Nat.le_of_ble_eq_true rfl) ⟨Nat.le_of_ble_eq_true rfl, Nat.le_of_ble_eq_true rfl⟩ (Nat.le_of_ble_eq_true rfl) rfl rfl ?_
  refine sm_all I  _ (fun x h1 hv K1 => ?_)
  refine ok_aload_n dL_law_645 rfl rfl ?_
  refine ok_callV (M' := mX5_all) (b' := (0, 0)) (As := []) (cx := 5) dL_law_646 iX5_all w_980 (by decide) rfl (is_lit hv (by decide) rfl) rfl (Nat.le_of_ble_eq_true rfl) ⟨Nat.le_of_ble_eq_true rfl, Nat.le_of_ble_eq_true rfl⟩ (Nat.le_of_ble_eq_true rfl) rfl rfl ?_
  refine K1 _ (fun h2 E2 => ?_)
  refine ok_icmp_eq (tgt := 1306) dL_law_649 (by decide) (fun _ => ?_) (fun c9 => absurd rfl c9)
  exact K h2 E2
theorem lc_16 {g : GG} {nm : String} {h : Hp} {Post : Option Value → Hp → Prop} {L : Nat} {xs : Nat → Int32} (Xs : Sx g L xs) (X : Gx g) (hL : L ≤ 3072) {i : Nat} (hi : i + 6 ≤ L) (E : LE h) (K : ∀ h2, LE h2 → Go g (mLaw nm) 1306 [some (.ref 5000), some (.ref 0), some (.ref 49), some (.int (nI i))] [] h2 (0, 0) Post) : Go g (mLaw nm) 654 [some (.ref 5000), some (.ref 0), some (.ref 49), some (.int (nI i))] [] h (0, 0) Post := by
  obtain ⟨n, r, T, z, n', r', I⟩ := E
  refine ok_aload_n dL_law_654 rfl rfl ?_
  refine ok_aload_n dL_law_655 rfl rfl ?_
  refine ok_iload_n dL_law_656 rfl rfl ?_
  refine ok_iconst (v := 1) dL_law_657 (by decide) ?_
  refine ok_iadd dL_law_658 ?_
  rw [show nI i + 1 = nI (i + 1) from nI_pl (a := i) (b := 1) (by omega)]
  refine ok_sld dL_law_659 Xs (show i + 1 < L by omega) hL ?_
  refine ok_aload_n dL_law_660 rfl rfl ?_
  refine ok_iload_n dL_law_661 rfl rfl ?_
  refine ok_iconst (v := 2) dL_law_662 (by decide) ?_
  refine ok_iadd dL_law_663 ?_
  rw [show nI i + 2 = nI (i + 2) from nI_pl (a := i) (b := 2) (by omega)]
  refine ok_sld dL_law_664 Xs (show i + 2 < L by omega) hL ?_
  refine ok_callV (M' := mX4_on) (b' := (0, 0)) (As := [_, _]) (cx := 4) dL_law_665 iX4_on w_442 (by decide) rfl (is_lit I.1.1 (by decide) rfl) rfl (Nat.le_of_ble_eq_true rfl) ⟨Nat.le_of_ble_eq_true rfl, Nat.le_of_ble_eq_true rfl⟩ (Nat.le_of_ble_eq_true rfl) rfl rfl ?_
  refine sm_on I _ _ _ (fun x h1 hv K1 => ?_)
  refine ok_aload_n dL_law_668 rfl rfl ?_
  refine ok_aload_n dL_law_669 rfl rfl ?_
  refine ok_iload_n dL_law_670 rfl rfl ?_
  refine ok_iconst (v := 1) dL_law_671 (by decide) ?_
  refine ok_iadd dL_law_672 ?_
  rw [show nI i + 1 = nI (i + 1) from nI_pl (a := i) (b := 1) (by omega)]
  refine ok_sld dL_law_673 Xs (show i + 1 < L by omega) hL ?_
  refine ok_aload_n dL_law_674 rfl rfl ?_
  refine ok_iload_n dL_law_675 rfl rfl ?_
  refine ok_iconst (v := 2) dL_law_676 (by decide) ?_
  refine ok_iadd dL_law_677 ?_
  rw [show nI i + 2 = nI (i + 2) from nI_pl (a := i) (b := 2) (by omega)]
  refine ok_sld dL_law_678 Xs (show i + 2 < L by omega) hL ?_
  refine ok_callV (M' := mX5_on) (b' := (0, 0)) (As := [_, _]) (cx := 5) dL_law_679 iX5_on w_988 (by decide) rfl (is_lit hv (by decide) rfl) rfl (Nat.le_of_ble_eq_true rfl) ⟨Nat.le_of_ble_eq_true rfl, Nat.le_of_ble_eq_true rfl⟩ (Nat.le_of_ble_eq_true rfl) rfl rfl ?_
  refine K1 _ (fun h2 E2 => ?_)
  refine ok_icmp_eq (tgt := 1306) dL_law_682 (by decide) (fun _ => ?_) (fun c9 => absurd rfl c9)
  exact K h2 E2
theorem lc_17 {g : GG} {nm : String} {h : Hp} {Post : Option Value → Hp → Prop} {L : Nat} {xs : Nat → Int32} (Xs : Sx g L xs) (X : Gx g) (hL : L ≤ 3072) {i : Nat} (hi : i + 6 ≤ L) (E : LE h) (K : ∀ h2, LE h2 → Go g (mLaw nm) 1306 [some (.ref 5000), some (.ref 0), some (.ref 49), some (.int (nI i))] [] h2 (0, 0) Post) : Go g (mLaw nm) 687 [some (.ref 5000), some (.ref 0), some (.ref 49), some (.int (nI i))] [] h (0, 0) Post := by
  obtain ⟨n, r, T, z, n', r', I⟩ := E
  refine ok_aload_n dL_law_687 rfl rfl ?_
  refine ok_callV (M' := mX4_empty) (b' := (0, 0)) (As := []) (cx := 4) dL_law_688 iX4_empty w_446 (by decide) rfl (is_lit I.1.1 (by decide) rfl) rfl (Nat.le_of_ble_eq_true rfl) ⟨Nat.le_of_ble_eq_true rfl, Nat.le_of_ble_eq_true rfl⟩ (Nat.le_of_ble_eq_true rfl) rfl rfl ?_
  refine sm_empty I  _ (fun x h1 hv K1 => ?_)
  refine ok_aload_n dL_law_691 rfl rfl ?_
  refine ok_callV (M' := mX5_empty) (b' := (0, 0)) (As := []) (cx := 5) dL_law_692 iX5_empty w_996 (by decide) rfl (is_lit hv (by decide) rfl) rfl (Nat.le_of_ble_eq_true rfl) ⟨Nat.le_of_ble_eq_true rfl, Nat.le_of_ble_eq_true rfl⟩ (Nat.le_of_ble_eq_true rfl) rfl rfl ?_
  refine K1 _ (fun h2 E2 => ?_)
  refine ok_icmp_eq (tgt := 1306) dL_law_695 (by decide) (fun _ => ?_) (fun c9 => absurd rfl c9)
  exact K h2 E2
theorem lc_18 {g : GG} {nm : String} {h : Hp} {Post : Option Value → Hp → Prop} {L : Nat} {xs : Nat → Int32} (Xs : Sx g L xs) (X : Gx g) (hL : L ≤ 3072) {i : Nat} (hi : i + 6 ≤ L) (E : LE h) (K : ∀ h2, LE h2 → Go g (mLaw nm) 1306 [some (.ref 5000), some (.ref 0), some (.ref 49), some (.int (nI i))] [] h2 (0, 0) Post) : Go g (mLaw nm) 700 [some (.ref 5000), some (.ref 0), some (.ref 49), some (.int (nI i))] [] h (0, 0) Post := by
  obtain ⟨n, r, T, z, n', r', I⟩ := E
  refine ok_aload_n dL_law_700 rfl rfl ?_
  refine ok_aload_n dL_law_701 rfl rfl ?_
  refine ok_iload_n dL_law_702 rfl rfl ?_
  refine ok_iconst (v := 1) dL_law_703 (by decide) ?_
  refine ok_iadd dL_law_704 ?_
  rw [show nI i + 1 = nI (i + 1) from nI_pl (a := i) (b := 1) (by omega)]
  refine ok_sld dL_law_705 Xs (show i + 1 < L by omega) hL ?_
  refine ok_aload_n dL_law_706 rfl rfl ?_
  refine ok_iload_n dL_law_707 rfl rfl ?_
  refine ok_iconst (v := 2) dL_law_708 (by decide) ?_
  refine ok_iadd dL_law_709 ?_
  rw [show nI i + 2 = nI (i + 2) from nI_pl (a := i) (b := 2) (by omega)]
  refine ok_sld dL_law_710 Xs (show i + 2 < L by omega) hL ?_
  refine ok_callV (M' := mX4_gainIf) (b' := (0, 0)) (As := [_, _]) (cx := 4) dL_law_711 iX4_gainIf w_451 (by decide) rfl (is_lit I.1.1 (by decide) rfl) rfl (Nat.le_of_ble_eq_true rfl) ⟨Nat.le_of_ble_eq_true rfl, Nat.le_of_ble_eq_true rfl⟩ (Nat.le_of_ble_eq_true rfl) rfl rfl ?_
  refine sm_gainIf I _ _ _ (fun x h1 hv K1 => ?_)
  refine ok_aload_n dL_law_714 rfl rfl ?_
  refine ok_aload_n dL_law_715 rfl rfl ?_
  refine ok_iload_n dL_law_716 rfl rfl ?_
  refine ok_iconst (v := 1) dL_law_717 (by decide) ?_
  refine ok_iadd dL_law_718 ?_
  rw [show nI i + 1 = nI (i + 1) from nI_pl (a := i) (b := 1) (by omega)]
  refine ok_sld dL_law_719 Xs (show i + 1 < L by omega) hL ?_
  refine ok_aload_n dL_law_720 rfl rfl ?_
  refine ok_iload_n dL_law_721 rfl rfl ?_
  refine ok_iconst (v := 2) dL_law_722 (by decide) ?_
  refine ok_iadd dL_law_723 ?_
  rw [show nI i + 2 = nI (i + 2) from nI_pl (a := i) (b := 2) (by omega)]
  refine ok_sld dL_law_724 Xs (show i + 2 < L by omega) hL ?_
  refine ok_callV (M' := mX5_gainIf) (b' := (0, 0)) (As := [_, _]) (cx := 5) dL_law_725 iX5_gainIf w_1001 (by decide) rfl (is_lit hv (by decide) rfl) rfl (Nat.le_of_ble_eq_true rfl) ⟨Nat.le_of_ble_eq_true rfl, Nat.le_of_ble_eq_true rfl⟩ (Nat.le_of_ble_eq_true rfl) rfl rfl ?_
  refine K1 _ (fun h2 E2 => ?_)
  refine ok_icmp_eq (tgt := 1306) dL_law_728 (by decide) (fun _ => ?_) (fun c9 => absurd rfl c9)
  exact K h2 E2
theorem lc_19 {g : GG} {nm : String} {h : Hp} {Post : Option Value → Hp → Prop} {L : Nat} {xs : Nat → Int32} (Xs : Sx g L xs) (X : Gx g) (hL : L ≤ 3072) {i : Nat} (hi : i + 6 ≤ L) (E : LE h) (K : ∀ h2, LE h2 → Go g (mLaw nm) 1306 [some (.ref 5000), some (.ref 0), some (.ref 49), some (.int (nI i))] [] h2 (0, 0) Post) : Go g (mLaw nm) 733 [some (.ref 5000), some (.ref 0), some (.ref 49), some (.int (nI i))] [] h (0, 0) Post := by
  obtain ⟨n, r, T, z, n', r', I⟩ := E
  refine ok_aload_n dL_law_733 rfl rfl ?_
  refine ok_aload_n dL_law_734 rfl rfl ?_
  refine ok_iload_n dL_law_735 rfl rfl ?_
  refine ok_iconst (v := 1) dL_law_736 (by decide) ?_
  refine ok_iadd dL_law_737 ?_
  rw [show nI i + 1 = nI (i + 1) from nI_pl (a := i) (b := 1) (by omega)]
  refine ok_sld dL_law_738 Xs (show i + 1 < L by omega) hL ?_
  refine ok_callV (M' := mX4_best) (b' := (0, 0)) (As := [_]) (cx := 4) dL_law_739 iX4_best w_459 (by decide) rfl (is_lit I.1.1 (by decide) rfl) rfl (Nat.le_of_ble_eq_true rfl) ⟨Nat.le_of_ble_eq_true rfl, Nat.le_of_ble_eq_true rfl⟩ (Nat.le_of_ble_eq_true rfl) rfl rfl ?_
  refine sm_best I _ _ (fun x h1 hv K1 => ?_)
  refine ok_aload_n dL_law_742 rfl rfl ?_
  refine ok_aload_n dL_law_743 rfl rfl ?_
  refine ok_iload_n dL_law_744 rfl rfl ?_
  refine ok_iconst (v := 1) dL_law_745 (by decide) ?_
  refine ok_iadd dL_law_746 ?_
  rw [show nI i + 1 = nI (i + 1) from nI_pl (a := i) (b := 1) (by omega)]
  refine ok_sld dL_law_747 Xs (show i + 1 < L by omega) hL ?_
  refine ok_callV (M' := mX5_best) (b' := (0, 0)) (As := [_]) (cx := 5) dL_law_748 iX5_best w_1009 (by decide) rfl (is_lit hv (by decide) rfl) rfl (Nat.le_of_ble_eq_true rfl) ⟨Nat.le_of_ble_eq_true rfl, Nat.le_of_ble_eq_true rfl⟩ (Nat.le_of_ble_eq_true rfl) rfl rfl ?_
  refine K1 _ (fun h2 E2 => ?_)
  refine ok_icmp_eq (tgt := 1306) dL_law_751 (by decide) (fun _ => ?_) (fun c9 => absurd rfl c9)
  exact K h2 E2
theorem lc_20 {g : GG} {nm : String} {h : Hp} {Post : Option Value → Hp → Prop} {L : Nat} {xs : Nat → Int32} (Xs : Sx g L xs) (X : Gx g) (hL : L ≤ 3072) {i : Nat} (hi : i + 6 ≤ L) (E : LE h) (K : ∀ h2, LE h2 → Go g (mLaw nm) 1306 [some (.ref 5000), some (.ref 0), some (.ref 49), some (.int (nI i))] [] h2 (0, 0) Post) : Go g (mLaw nm) 756 [some (.ref 5000), some (.ref 0), some (.ref 49), some (.int (nI i))] [] h (0, 0) Post := by
  obtain ⟨n, r, T, z, n', r', I⟩ := E
  refine ok_aload_n dL_law_756 rfl rfl ?_
  refine ok_callV (M' := mX4_sorry) (b' := (0, 0)) (As := []) (cx := 4) dL_law_757 iX4_sorry w_468 (by decide) rfl (is_lit I.1.1 (by decide) rfl) rfl (Nat.le_of_ble_eq_true rfl) ⟨Nat.le_of_ble_eq_true rfl, Nat.le_of_ble_eq_true rfl⟩ (Nat.le_of_ble_eq_true rfl) rfl rfl ?_
  refine sm_sorry I  _ (fun x h1 hv K1 => ?_)
  refine ok_aload_n dL_law_760 rfl rfl ?_
  refine ok_callV (M' := mX5_sorry) (b' := (0, 0)) (As := []) (cx := 5) dL_law_761 iX5_sorry w_1017 (by decide) rfl (is_lit hv (by decide) rfl) rfl (Nat.le_of_ble_eq_true rfl) ⟨Nat.le_of_ble_eq_true rfl, Nat.le_of_ble_eq_true rfl⟩ (Nat.le_of_ble_eq_true rfl) rfl rfl ?_
  refine K1 _ (fun h2 E2 => ?_)
  refine ok_icmp_eq (tgt := 1306) dL_law_764 (by decide) (fun _ => ?_) (fun c9 => absurd rfl c9)
  exact K h2 E2
theorem lc_21 {g : GG} {nm : String} {h : Hp} {Post : Option Value → Hp → Prop} {L : Nat} {xs : Nat → Int32} (Xs : Sx g L xs) (X : Gx g) (hL : L ≤ 3072) {i : Nat} (hi : i + 6 ≤ L) (E : LE h) (K : ∀ h2, LE h2 → Go g (mLaw nm) 1306 [some (.ref 5000), some (.ref 0), some (.ref 49), some (.int (nI i))] [] h2 (0, 0) Post) : Go g (mLaw nm) 769 [some (.ref 5000), some (.ref 0), some (.ref 49), some (.int (nI i))] [] h (0, 0) Post := by
  obtain ⟨n, r, T, z, n', r', I⟩ := E
  refine ok_aload_n dL_law_769 rfl rfl ?_
  refine ok_aload_n dL_law_770 rfl rfl ?_
  refine ok_iload_n dL_law_771 rfl rfl ?_
  refine ok_iconst (v := 1) dL_law_772 (by decide) ?_
  refine ok_iadd dL_law_773 ?_
  rw [show nI i + 1 = nI (i + 1) from nI_pl (a := i) (b := 1) (by omega)]
  refine ok_sld dL_law_774 Xs (show i + 1 < L by omega) hL ?_
  refine ok_callV (M' := mX4_regret) (b' := (0, 0)) (As := [_]) (cx := 4) dL_law_775 iX4_regret w_472 (by decide) rfl (is_lit I.1.1 (by decide) rfl) rfl (Nat.le_of_ble_eq_true rfl) ⟨Nat.le_of_ble_eq_true rfl, Nat.le_of_ble_eq_true rfl⟩ (Nat.le_of_ble_eq_true rfl) rfl rfl ?_
  refine sm_regret I _ _ (fun x h1 hv K1 => ?_)
  refine ok_aload_n dL_law_778 rfl rfl ?_
  refine ok_aload_n dL_law_779 rfl rfl ?_
  refine ok_iload_n dL_law_780 rfl rfl ?_
  refine ok_iconst (v := 1) dL_law_781 (by decide) ?_
  refine ok_iadd dL_law_782 ?_
  rw [show nI i + 1 = nI (i + 1) from nI_pl (a := i) (b := 1) (by omega)]
  refine ok_sld dL_law_783 Xs (show i + 1 < L by omega) hL ?_
  refine ok_callV (M' := mX5_regret) (b' := (0, 0)) (As := [_]) (cx := 5) dL_law_784 iX5_regret w_1025 (by decide) rfl (is_lit hv (by decide) rfl) rfl (Nat.le_of_ble_eq_true rfl) ⟨Nat.le_of_ble_eq_true rfl, Nat.le_of_ble_eq_true rfl⟩ (Nat.le_of_ble_eq_true rfl) rfl rfl ?_
  refine K1 _ (fun h2 E2 => ?_)
  refine ok_icmp_eq (tgt := 1306) dL_law_787 (by decide) (fun _ => ?_) (fun c9 => absurd rfl c9)
  exact K h2 E2
theorem lc_22 {g : GG} {nm : String} {h : Hp} {Post : Option Value → Hp → Prop} {L : Nat} {xs : Nat → Int32} (Xs : Sx g L xs) (X : Gx g) (hL : L ≤ 3072) {i : Nat} (hi : i + 6 ≤ L) (E : LE h) (K : ∀ h2, LE h2 → Go g (mLaw nm) 1306 [some (.ref 5000), some (.ref 0), some (.ref 49), some (.int (nI i))] [] h2 (0, 0) Post) : Go g (mLaw nm) 792 [some (.ref 5000), some (.ref 0), some (.ref 49), some (.int (nI i))] [] h (0, 0) Post := by
  obtain ⟨n, r, T, z, n', r', I⟩ := E
  refine ok_aload_n dL_law_792 rfl rfl ?_
  refine ok_aload_n dL_law_793 rfl rfl ?_
  refine ok_iload_n dL_law_794 rfl rfl ?_
  refine ok_iconst (v := 1) dL_law_795 (by decide) ?_
  refine ok_iadd dL_law_796 ?_
  rw [show nI i + 1 = nI (i + 1) from nI_pl (a := i) (b := 1) (by omega)]
  refine ok_sld dL_law_797 Xs (show i + 1 < L by omega) hL ?_
  refine ok_callV (M' := mX4_stand) (b' := (0, 0)) (As := [_]) (cx := 4) dL_law_798 iX4_stand w_476 (by decide) rfl (is_lit I.1.1 (by decide) rfl) rfl (Nat.le_of_ble_eq_true rfl) ⟨Nat.le_of_ble_eq_true rfl, Nat.le_of_ble_eq_true rfl⟩ (Nat.le_of_ble_eq_true rfl) rfl rfl ?_
  refine sm_stand I _ _ (fun x h1 hv K1 => ?_)
  refine ok_aload_n dL_law_801 rfl rfl ?_
  refine ok_aload_n dL_law_802 rfl rfl ?_
  refine ok_iload_n dL_law_803 rfl rfl ?_
  refine ok_iconst (v := 1) dL_law_804 (by decide) ?_
  refine ok_iadd dL_law_805 ?_
  rw [show nI i + 1 = nI (i + 1) from nI_pl (a := i) (b := 1) (by omega)]
  refine ok_sld dL_law_806 Xs (show i + 1 < L by omega) hL ?_
  refine ok_callV (M' := mX5_stand) (b' := (0, 0)) (As := [_]) (cx := 5) dL_law_807 iX5_stand w_1029 (by decide) rfl (is_lit hv (by decide) rfl) rfl (Nat.le_of_ble_eq_true rfl) ⟨Nat.le_of_ble_eq_true rfl, Nat.le_of_ble_eq_true rfl⟩ (Nat.le_of_ble_eq_true rfl) rfl rfl ?_
  refine K1 _ (fun h2 E2 => ?_)
  refine ok_icmp_eq (tgt := 1306) dL_law_810 (by decide) (fun _ => ?_) (fun c9 => absurd rfl c9)
  exact K h2 E2
theorem lc_23 {g : GG} {nm : String} {h : Hp} {Post : Option Value → Hp → Prop} {L : Nat} {xs : Nat → Int32} (Xs : Sx g L xs) (X : Gx g) (hL : L ≤ 3072) {i : Nat} (hi : i + 6 ≤ L) (E : LE h) (K : ∀ h2, LE h2 → Go g (mLaw nm) 1306 [some (.ref 5000), some (.ref 0), some (.ref 49), some (.int (nI i))] [] h2 (0, 0) Post) : Go g (mLaw nm) 815 [some (.ref 5000), some (.ref 0), some (.ref 49), some (.int (nI i))] [] h (0, 0) Post := by
  obtain ⟨n, r, T, z, n', r', I⟩ := E
  refine ok_aload_n dL_law_815 rfl rfl ?_
  refine ok_aload_n dL_law_816 rfl rfl ?_
  refine ok_iload_n dL_law_817 rfl rfl ?_
  refine ok_iconst (v := 1) dL_law_818 (by decide) ?_
  refine ok_iadd dL_law_819 ?_
  rw [show nI i + 1 = nI (i + 1) from nI_pl (a := i) (b := 1) (by omega)]
  refine ok_sld dL_law_820 Xs (show i + 1 < L by omega) hL ?_
  refine ok_callV (M' := mX4_kind) (b' := (0, 0)) (As := [_]) (cx := 4) dL_law_821 iX4_kind w_484 (by decide) rfl (is_lit I.1.1 (by decide) rfl) rfl (Nat.le_of_ble_eq_true rfl) ⟨Nat.le_of_ble_eq_true rfl, Nat.le_of_ble_eq_true rfl⟩ (Nat.le_of_ble_eq_true rfl) rfl rfl ?_
  refine sm_kind I _ _ (fun x h1 hv K1 => ?_)
  refine ok_aload_n dL_law_824 rfl rfl ?_
  refine ok_aload_n dL_law_825 rfl rfl ?_
  refine ok_iload_n dL_law_826 rfl rfl ?_
  refine ok_iconst (v := 1) dL_law_827 (by decide) ?_
  refine ok_iadd dL_law_828 ?_
  rw [show nI i + 1 = nI (i + 1) from nI_pl (a := i) (b := 1) (by omega)]
  refine ok_sld dL_law_829 Xs (show i + 1 < L by omega) hL ?_
  refine ok_callV (M' := mX5_kind) (b' := (0, 0)) (As := [_]) (cx := 5) dL_law_830 iX5_kind w_1034 (by decide) rfl (is_lit hv (by decide) rfl) rfl (Nat.le_of_ble_eq_true rfl) ⟨Nat.le_of_ble_eq_true rfl, Nat.le_of_ble_eq_true rfl⟩ (Nat.le_of_ble_eq_true rfl) rfl rfl ?_
  refine K1 _ (fun h2 E2 => ?_)
  refine ok_icmp_eq (tgt := 1306) dL_law_833 (by decide) (fun _ => ?_) (fun c9 => absurd rfl c9)
  exact K h2 E2
theorem lc_24 {g : GG} {nm : String} {h : Hp} {Post : Option Value → Hp → Prop} {L : Nat} {xs : Nat → Int32} (Xs : Sx g L xs) (X : Gx g) (hL : L ≤ 3072) {i : Nat} (hi : i + 6 ≤ L) (E : LE h) (K : ∀ h2, LE h2 → Go g (mLaw nm) 1306 [some (.ref 5000), some (.ref 0), some (.ref 49), some (.int (nI i))] [] h2 (0, 0) Post) : Go g (mLaw nm) 838 [some (.ref 5000), some (.ref 0), some (.ref 49), some (.int (nI i))] [] h (0, 0) Post := by
  obtain ⟨n, r, T, z, n', r', I⟩ := E
  refine ok_aload_n dL_law_838 rfl rfl ?_
  refine ok_callV (M' := mX4_lie) (b' := (0, 0)) (As := []) (cx := 4) dL_law_839 iX4_lie w_492 (by decide) rfl (is_lit I.1.1 (by decide) rfl) rfl (Nat.le_of_ble_eq_true rfl) ⟨Nat.le_of_ble_eq_true rfl, Nat.le_of_ble_eq_true rfl⟩ (Nat.le_of_ble_eq_true rfl) rfl rfl ?_
  refine sm_lie I  _ (fun x h1 hv K1 => ?_)
  refine ok_aload_n dL_law_842 rfl rfl ?_
  refine ok_callV (M' := mX5_lie) (b' := (0, 0)) (As := []) (cx := 5) dL_law_843 iX5_lie w_1038 (by decide) rfl (is_lit hv (by decide) rfl) rfl (Nat.le_of_ble_eq_true rfl) ⟨Nat.le_of_ble_eq_true rfl, Nat.le_of_ble_eq_true rfl⟩ (Nat.le_of_ble_eq_true rfl) rfl rfl ?_
  refine K1 _ (fun h2 E2 => ?_)
  refine ok_icmp_eq (tgt := 1306) dL_law_846 (by decide) (fun _ => ?_) (fun c9 => absurd rfl c9)
  exact K h2 E2
theorem lc_25 {g : GG} {nm : String} {h : Hp} {Post : Option Value → Hp → Prop} {L : Nat} {xs : Nat → Int32} (Xs : Sx g L xs) (X : Gx g) (hL : L ≤ 3072) {i : Nat} (hi : i + 6 ≤ L) (E : LE h) (K : ∀ h2, LE h2 → Go g (mLaw nm) 1306 [some (.ref 5000), some (.ref 0), some (.ref 49), some (.int (nI i))] [] h2 (0, 0) Post) : Go g (mLaw nm) 851 [some (.ref 5000), some (.ref 0), some (.ref 49), some (.int (nI i))] [] h (0, 0) Post := by
  obtain ⟨n, r, T, z, n', r', I⟩ := E
  refine ok_aload_n dL_law_851 rfl rfl ?_
  refine ok_callV (M' := mX4_word) (b' := (0, 0)) (As := []) (cx := 4) dL_law_852 iX4_word w_500 (by decide) rfl (is_lit I.1.1 (by decide) rfl) rfl (Nat.le_of_ble_eq_true rfl) ⟨Nat.le_of_ble_eq_true rfl, Nat.le_of_ble_eq_true rfl⟩ (Nat.le_of_ble_eq_true rfl) rfl rfl ?_
  refine sm_word I  _ (fun x h1 hv K1 => ?_)
  refine ok_aload_n dL_law_855 rfl rfl ?_
  refine ok_callV (M' := mX5_word) (b' := (0, 0)) (As := []) (cx := 5) dL_law_856 iX5_word w_1046 (by decide) rfl (is_lit hv (by decide) rfl) rfl (Nat.le_of_ble_eq_true rfl) ⟨Nat.le_of_ble_eq_true rfl, Nat.le_of_ble_eq_true rfl⟩ (Nat.le_of_ble_eq_true rfl) rfl rfl ?_
  refine K1 _ (fun h2 E2 => ?_)
  refine ok_icmp_eq (tgt := 1306) dL_law_859 (by decide) (fun _ => ?_) (fun c9 => absurd rfl c9)
  exact K h2 E2
theorem lc_26 {g : GG} {nm : String} {h : Hp} {Post : Option Value → Hp → Prop} {L : Nat} {xs : Nat → Int32} (Xs : Sx g L xs) (X : Gx g) (hL : L ≤ 3072) {i : Nat} (hi : i + 6 ≤ L) (E : LE h) (K : ∀ h2, LE h2 → Go g (mLaw nm) 1306 [some (.ref 5000), some (.ref 0), some (.ref 49), some (.int (nI i))] [] h2 (0, 0) Post) : Go g (mLaw nm) 864 [some (.ref 5000), some (.ref 0), some (.ref 49), some (.int (nI i))] [] h (0, 0) Post := by
  obtain ⟨n, r, T, z, n', r', I⟩ := E
  refine ok_aload_n dL_law_864 rfl rfl ?_
  refine ok_callV (M' := mX4_fair) (b' := (0, 0)) (As := []) (cx := 4) dL_law_865 iX4_fair w_504 (by decide) rfl (is_lit I.1.1 (by decide) rfl) rfl (Nat.le_of_ble_eq_true rfl) ⟨Nat.le_of_ble_eq_true rfl, Nat.le_of_ble_eq_true rfl⟩ (Nat.le_of_ble_eq_true rfl) rfl rfl ?_
  refine sm_fair I  _ (fun x h1 hv K1 => ?_)
  refine ok_aload_n dL_law_868 rfl rfl ?_
  refine ok_callV (M' := mX5_fair) (b' := (0, 0)) (As := []) (cx := 5) dL_law_869 iX5_fair w_1050 (by decide) rfl (is_lit hv (by decide) rfl) rfl (Nat.le_of_ble_eq_true rfl) ⟨Nat.le_of_ble_eq_true rfl, Nat.le_of_ble_eq_true rfl⟩ (Nat.le_of_ble_eq_true rfl) rfl rfl ?_
  refine K1 _ (fun h2 E2 => ?_)
  refine ok_icmp_eq (tgt := 1306) dL_law_872 (by decide) (fun _ => ?_) (fun c9 => absurd rfl c9)
  exact K h2 E2
theorem lc_27 {g : GG} {nm : String} {h : Hp} {Post : Option Value → Hp → Prop} {L : Nat} {xs : Nat → Int32} (Xs : Sx g L xs) (X : Gx g) (hL : L ≤ 3072) {i : Nat} (hi : i + 6 ≤ L) (E : LE h) (K : ∀ h2, LE h2 → Go g (mLaw nm) 1306 [some (.ref 5000), some (.ref 0), some (.ref 49), some (.int (nI i))] [] h2 (0, 0) Post) : Go g (mLaw nm) 877 [some (.ref 5000), some (.ref 0), some (.ref 49), some (.int (nI i))] [] h (0, 0) Post := by
  obtain ⟨n, r, T, z, n', r', I⟩ := E
  refine ok_aload_n dL_law_877 rfl rfl ?_
  refine ok_callV (M' := mX4_rests) (b' := (0, 0)) (As := []) (cx := 4) dL_law_878 iX4_rests w_516 (by decide) rfl (is_lit I.1.1 (by decide) rfl) rfl (Nat.le_of_ble_eq_true rfl) ⟨Nat.le_of_ble_eq_true rfl, Nat.le_of_ble_eq_true rfl⟩ (Nat.le_of_ble_eq_true rfl) rfl rfl ?_
  refine sm_rests I  _ (fun x h1 hv K1 => ?_)
  refine ok_aload_n dL_law_881 rfl rfl ?_
  refine ok_callV (M' := mX5_rests) (b' := (0, 0)) (As := []) (cx := 5) dL_law_882 iX5_rests w_1058 (by decide) rfl (is_lit hv (by decide) rfl) rfl (Nat.le_of_ble_eq_true rfl) ⟨Nat.le_of_ble_eq_true rfl, Nat.le_of_ble_eq_true rfl⟩ (Nat.le_of_ble_eq_true rfl) rfl rfl ?_
  refine K1 _ (fun h2 E2 => ?_)
  refine ok_icmp_eq (tgt := 1306) dL_law_885 (by decide) (fun _ => ?_) (fun c9 => absurd rfl c9)
  exact K h2 E2
theorem lc_28 {g : GG} {nm : String} {h : Hp} {Post : Option Value → Hp → Prop} {L : Nat} {xs : Nat → Int32} (Xs : Sx g L xs) (X : Gx g) (hL : L ≤ 3072) {i : Nat} (hi : i + 6 ≤ L) (E : LE h) (K : ∀ h2, LE h2 → Go g (mLaw nm) 1306 [some (.ref 5000), some (.ref 0), some (.ref 49), some (.int (nI i))] [] h2 (0, 0) Post) : Go g (mLaw nm) 890 [some (.ref 5000), some (.ref 0), some (.ref 49), some (.int (nI i))] [] h (0, 0) Post := by
  obtain ⟨n, r, T, z, n', r', I⟩ := E
  refine ok_aload_n dL_law_890 rfl rfl ?_
  refine ok_callV (M' := mX4_rest) (b' := (0, 0)) (As := []) (cx := 4) dL_law_891 iX4_rest w_532 (by decide) rfl (is_lit I.1.1 (by decide) rfl) rfl (Nat.le_of_ble_eq_true rfl) ⟨Nat.le_of_ble_eq_true rfl, Nat.le_of_ble_eq_true rfl⟩ (Nat.le_of_ble_eq_true rfl) rfl rfl ?_
  refine sm_rest I  _ (fun x h1 hv K1 => ?_)
  refine ok_aload_n dL_law_894 rfl rfl ?_
  refine ok_callV (M' := mX5_rest) (b' := (0, 0)) (As := []) (cx := 5) dL_law_895 iX5_rest w_1074 (by decide) rfl (is_lit hv (by decide) rfl) rfl (Nat.le_of_ble_eq_true rfl) ⟨Nat.le_of_ble_eq_true rfl, Nat.le_of_ble_eq_true rfl⟩ (Nat.le_of_ble_eq_true rfl) rfl rfl ?_
  refine K1 _ (fun h2 E2 => ?_)
  refine ok_icmp_eq (tgt := 1306) dL_law_898 (by decide) (fun _ => ?_) (fun c9 => absurd rfl c9)
  exact K h2 E2
theorem lc_29 {g : GG} {nm : String} {h : Hp} {Post : Option Value → Hp → Prop} {L : Nat} {xs : Nat → Int32} (Xs : Sx g L xs) (X : Gx g) (hL : L ≤ 3072) {i : Nat} (hi : i + 6 ≤ L) (E : LE h) (K : ∀ h2, LE h2 → Go g (mLaw nm) 1306 [some (.ref 5000), some (.ref 0), some (.ref 49), some (.int (nI i))] [] h2 (0, 0) Post) : Go g (mLaw nm) 903 [some (.ref 5000), some (.ref 0), some (.ref 49), some (.int (nI i))] [] h (0, 0) Post := by
  obtain ⟨n, r, T, z, n', r', I⟩ := E
  refine ok_aload_n dL_law_903 rfl rfl ?_
  refine ok_aload_n dL_law_904 rfl rfl ?_
  refine ok_iload_n dL_law_905 rfl rfl ?_
  refine ok_iconst (v := 1) dL_law_906 (by decide) ?_
  refine ok_iadd dL_law_907 ?_
  rw [show nI i + 1 = nI (i + 1) from nI_pl (a := i) (b := 1) (by omega)]
  refine ok_sld dL_law_908 Xs (show i + 1 < L by omega) hL ?_
  refine ok_aload_n dL_law_909 rfl rfl ?_
  refine ok_iload_n dL_law_910 rfl rfl ?_
  refine ok_iconst (v := 2) dL_law_911 (by decide) ?_
  refine ok_iadd dL_law_912 ?_
  rw [show nI i + 2 = nI (i + 2) from nI_pl (a := i) (b := 2) (by omega)]
  refine ok_sld dL_law_913 Xs (show i + 2 < L by omega) hL ?_
  refine ok_callV (M' := mX4_feed) (b' := (0, 0)) (As := [_, _]) (cx := 4) dL_law_914 iX4_feed w_536 (by decide) rfl (is_lit I.1.1 (by decide) rfl) rfl (Nat.le_of_ble_eq_true rfl) ⟨Nat.le_of_ble_eq_true rfl, Nat.le_of_ble_eq_true rfl⟩ (Nat.le_of_ble_eq_true rfl) rfl rfl ?_
  refine sm_feed I _ _ _ (fun x h1 hv K1 => ?_)
  refine ok_aload_n dL_law_917 rfl rfl ?_
  refine ok_aload_n dL_law_918 rfl rfl ?_
  refine ok_iload_n dL_law_919 rfl rfl ?_
  refine ok_iconst (v := 1) dL_law_920 (by decide) ?_
  refine ok_iadd dL_law_921 ?_
  rw [show nI i + 1 = nI (i + 1) from nI_pl (a := i) (b := 1) (by omega)]
  refine ok_sld dL_law_922 Xs (show i + 1 < L by omega) hL ?_
  refine ok_aload_n dL_law_923 rfl rfl ?_
  refine ok_iload_n dL_law_924 rfl rfl ?_
  refine ok_iconst (v := 2) dL_law_925 (by decide) ?_
  refine ok_iadd dL_law_926 ?_
  rw [show nI i + 2 = nI (i + 2) from nI_pl (a := i) (b := 2) (by omega)]
  refine ok_sld dL_law_927 Xs (show i + 2 < L by omega) hL ?_
  refine ok_callV (M' := mX5_feed) (b' := (0, 0)) (As := [_, _]) (cx := 5) dL_law_928 iX5_feed w_1078 (by decide) rfl (is_lit hv (by decide) rfl) rfl (Nat.le_of_ble_eq_true rfl) ⟨Nat.le_of_ble_eq_true rfl, Nat.le_of_ble_eq_true rfl⟩ (Nat.le_of_ble_eq_true rfl) rfl rfl ?_
  refine K1 _ (fun h2 E2 => ?_)
  refine ok_icmp_eq (tgt := 1306) dL_law_931 (by decide) (fun _ => ?_) (fun c9 => absurd rfl c9)
  exact K h2 E2
theorem lc_30 {g : GG} {nm : String} {h : Hp} {Post : Option Value → Hp → Prop} {L : Nat} {xs : Nat → Int32} (Xs : Sx g L xs) (X : Gx g) (hL : L ≤ 3072) {i : Nat} (hi : i + 6 ≤ L) (E : LE h) (K : ∀ h2, LE h2 → Go g (mLaw nm) 1306 [some (.ref 5000), some (.ref 0), some (.ref 49), some (.int (nI i))] [] h2 (0, 0) Post) : Go g (mLaw nm) 936 [some (.ref 5000), some (.ref 0), some (.ref 49), some (.int (nI i))] [] h (0, 0) Post := by
  obtain ⟨n, r, T, z, n', r', I⟩ := E
  refine ok_aload_n dL_law_936 rfl rfl ?_
  refine ok_callV (M' := mX4_wipe) (b' := (0, 0)) (As := []) (cx := 4) dL_law_937 iX4_wipe w_544 (by decide) rfl (is_lit I.1.1 (by decide) rfl) rfl (Nat.le_of_ble_eq_true rfl) ⟨Nat.le_of_ble_eq_true rfl, Nat.le_of_ble_eq_true rfl⟩ (Nat.le_of_ble_eq_true rfl) rfl rfl ?_
  refine sm_wipe I  _ (fun x h1 hv K1 => ?_)
  refine ok_aload_n dL_law_940 rfl rfl ?_
  refine ok_callV (M' := mX5_wipe) (b' := (0, 0)) (As := []) (cx := 5) dL_law_941 iX5_wipe w_1082 (by decide) rfl (is_lit hv (by decide) rfl) rfl (Nat.le_of_ble_eq_true rfl) ⟨Nat.le_of_ble_eq_true rfl, Nat.le_of_ble_eq_true rfl⟩ (Nat.le_of_ble_eq_true rfl) rfl rfl ?_
  refine K1 _ (fun h2 E2 => ?_)
  refine ok_icmp_eq (tgt := 1306) dL_law_944 (by decide) (fun _ => ?_) (fun c9 => absurd rfl c9)
  exact K h2 E2
theorem lc_31 {g : GG} {nm : String} {h : Hp} {Post : Option Value → Hp → Prop} {L : Nat} {xs : Nat → Int32} (Xs : Sx g L xs) (X : Gx g) (hL : L ≤ 3072) {i : Nat} (hi : i + 6 ≤ L) (E : LE h) (K : ∀ h2, LE h2 → Go g (mLaw nm) 1306 [some (.ref 5000), some (.ref 0), some (.ref 49), some (.int (nI i))] [] h2 (0, 0) Post) : Go g (mLaw nm) 949 [some (.ref 5000), some (.ref 0), some (.ref 49), some (.int (nI i))] [] h (0, 0) Post := by
  obtain ⟨n, r, T, z, n', r', I⟩ := E
  refine ok_aload_n dL_law_949 rfl rfl ?_
  refine ok_callV (M' := mX4_square) (b' := (0, 0)) (As := []) (cx := 4) dL_law_950 iX4_square w_548 (by decide) rfl (is_lit I.1.1 (by decide) rfl) rfl (Nat.le_of_ble_eq_true rfl) ⟨Nat.le_of_ble_eq_true rfl, Nat.le_of_ble_eq_true rfl⟩ (Nat.le_of_ble_eq_true rfl) rfl rfl ?_
  refine sm_square I X  _ (fun x h1 hv K1 => ?_)
  refine ok_aload_n dL_law_953 rfl rfl ?_
  refine ok_callV (M' := mX5_square) (b' := (0, 0)) (As := []) (cx := 5) dL_law_954 iX5_square w_1086 (by decide) rfl (is_lit hv (by decide) rfl) rfl (Nat.le_of_ble_eq_true rfl) ⟨Nat.le_of_ble_eq_true rfl, Nat.le_of_ble_eq_true rfl⟩ (Nat.le_of_ble_eq_true rfl) rfl rfl ?_
  refine K1 _ (fun h2 E2 => ?_)
  refine ok_icmp_eq (tgt := 1306) dL_law_957 (by decide) (fun _ => ?_) (fun c9 => absurd rfl c9)
  exact K h2 E2
theorem lc_32 {g : GG} {nm : String} {h : Hp} {Post : Option Value → Hp → Prop} {L : Nat} {xs : Nat → Int32} (Xs : Sx g L xs) (X : Gx g) (hL : L ≤ 3072) {i : Nat} (hi : i + 6 ≤ L) (E : LE h) (K : ∀ h2, LE h2 → Go g (mLaw nm) 1306 [some (.ref 5000), some (.ref 0), some (.ref 49), some (.int (nI i))] [] h2 (0, 0) Post) : Go g (mLaw nm) 962 [some (.ref 5000), some (.ref 0), some (.ref 49), some (.int (nI i))] [] h (0, 0) Post := by
  obtain ⟨n, r, T, z, n', r', I⟩ := E
  refine ok_aload_n dL_law_962 rfl rfl ?_
  refine ok_aload_n dL_law_963 rfl rfl ?_
  refine ok_iload_n dL_law_964 rfl rfl ?_
  refine ok_iconst (v := 1) dL_law_965 (by decide) ?_
  refine ok_iadd dL_law_966 ?_
  rw [show nI i + 1 = nI (i + 1) from nI_pl (a := i) (b := 1) (by omega)]
  refine ok_sld dL_law_967 Xs (show i + 1 < L by omega) hL ?_
  refine ok_aload_n dL_law_968 rfl rfl ?_
  refine ok_iload_n dL_law_969 rfl rfl ?_
  refine ok_iconst (v := 2) dL_law_970 (by decide) ?_
  refine ok_iadd dL_law_971 ?_
  rw [show nI i + 2 = nI (i + 2) from nI_pl (a := i) (b := 2) (by omega)]
  refine ok_sld dL_law_972 Xs (show i + 2 < L by omega) hL ?_
  refine ok_aload_n dL_law_973 rfl rfl ?_
  refine ok_iload_n dL_law_974 rfl rfl ?_
  refine ok_iconst (v := 3) dL_law_975 (by decide) ?_
  refine ok_iadd dL_law_976 ?_
  rw [show nI i + 3 = nI (i + 3) from nI_pl (a := i) (b := 3) (by omega)]
  refine ok_sld dL_law_977 Xs (show i + 3 < L by omega) hL ?_
  refine ok_callV (M' := mX4_sheet) (b' := (0, 0)) (As := [_, _, _]) (cx := 4) dL_law_978 iX4_sheet w_682 (by decide) rfl (is_lit I.1.1 (by decide) rfl) rfl (Nat.le_of_ble_eq_true rfl) ⟨Nat.le_of_ble_eq_true rfl, Nat.le_of_ble_eq_true rfl⟩ (Nat.le_of_ble_eq_true rfl) rfl rfl ?_
  refine sm_sheet I _ _ _ _ (fun x h1 hv K1 => ?_)
  refine ok_aload_n dL_law_981 rfl rfl ?_
  refine ok_aload_n dL_law_982 rfl rfl ?_
  refine ok_iload_n dL_law_983 rfl rfl ?_
  refine ok_iconst (v := 1) dL_law_984 (by decide) ?_
  refine ok_iadd dL_law_985 ?_
  rw [show nI i + 1 = nI (i + 1) from nI_pl (a := i) (b := 1) (by omega)]
  refine ok_sld dL_law_986 Xs (show i + 1 < L by omega) hL ?_
  refine ok_aload_n dL_law_987 rfl rfl ?_
  refine ok_iload_n dL_law_988 rfl rfl ?_
  refine ok_iconst (v := 2) dL_law_989 (by decide) ?_
  refine ok_iadd dL_law_990 ?_
  rw [show nI i + 2 = nI (i + 2) from nI_pl (a := i) (b := 2) (by omega)]
  refine ok_sld dL_law_991 Xs (show i + 2 < L by omega) hL ?_
  refine ok_aload_n dL_law_992 rfl rfl ?_
  refine ok_iload_n dL_law_993 rfl rfl ?_
  refine ok_iconst (v := 3) dL_law_994 (by decide) ?_
  refine ok_iadd dL_law_995 ?_
  rw [show nI i + 3 = nI (i + 3) from nI_pl (a := i) (b := 3) (by omega)]
  refine ok_sld dL_law_996 Xs (show i + 3 < L by omega) hL ?_
  refine ok_callV (M' := mX5_sheet) (b' := (0, 0)) (As := [_, _, _]) (cx := 5) dL_law_997 iX5_sheet w_1158 (by decide) rfl (is_lit hv (by decide) rfl) rfl (Nat.le_of_ble_eq_true rfl) ⟨Nat.le_of_ble_eq_true rfl, Nat.le_of_ble_eq_true rfl⟩ (Nat.le_of_ble_eq_true rfl) rfl rfl ?_
  refine K1 _ (fun h2 E2 => ?_)
  refine ok_icmp_eq (tgt := 1306) dL_law_1000 (by decide) (fun _ => ?_) (fun c9 => absurd rfl c9)
  exact K h2 E2
theorem lc_33 {g : GG} {nm : String} {h : Hp} {Post : Option Value → Hp → Prop} {L : Nat} {xs : Nat → Int32} (Xs : Sx g L xs) (X : Gx g) (hL : L ≤ 3072) {i : Nat} (hi : i + 6 ≤ L) (E : LE h) (K : ∀ h2, LE h2 → Go g (mLaw nm) 1306 [some (.ref 5000), some (.ref 0), some (.ref 49), some (.int (nI i))] [] h2 (0, 0) Post) : Go g (mLaw nm) 1005 [some (.ref 5000), some (.ref 0), some (.ref 49), some (.int (nI i))] [] h (0, 0) Post := by
  obtain ⟨n, r, T, z, n', r', I⟩ := E
  refine ok_aload_n dL_law_1005 rfl rfl ?_
  refine ok_aload_n dL_law_1006 rfl rfl ?_
  refine ok_iload_n dL_law_1007 rfl rfl ?_
  refine ok_iconst (v := 1) dL_law_1008 (by decide) ?_
  refine ok_iadd dL_law_1009 ?_
  rw [show nI i + 1 = nI (i + 1) from nI_pl (a := i) (b := 1) (by omega)]
  refine ok_sld dL_law_1010 Xs (show i + 1 < L by omega) hL ?_
  refine ok_aload_n dL_law_1011 rfl rfl ?_
  refine ok_iload_n dL_law_1012 rfl rfl ?_
  refine ok_iconst (v := 2) dL_law_1013 (by decide) ?_
  refine ok_iadd dL_law_1014 ?_
  rw [show nI i + 2 = nI (i + 2) from nI_pl (a := i) (b := 2) (by omega)]
  refine ok_sld dL_law_1015 Xs (show i + 2 < L by omega) hL ?_
  refine ok_aload_n dL_law_1016 rfl rfl ?_
  refine ok_iload_n dL_law_1017 rfl rfl ?_
  refine ok_iconst (v := 3) dL_law_1018 (by decide) ?_
  refine ok_iadd dL_law_1019 ?_
  rw [show nI i + 3 = nI (i + 3) from nI_pl (a := i) (b := 3) (by omega)]
  refine ok_sld dL_law_1020 Xs (show i + 3 < L by omega) hL ?_
  refine ok_i2l dL_law_1021 ?_
  refine ok_bipush (v := 32) dL_law_1022 (by decide) ?_
  refine ok_lshl dL_law_1024 ?_
  refine ok_aload_n dL_law_1025 rfl rfl ?_
  refine ok_iload_n dL_law_1026 rfl rfl ?_
  refine ok_iconst (v := 4) dL_law_1027 (by decide) ?_
  refine ok_iadd dL_law_1028 ?_
  rw [show nI i + 4 = nI (i + 4) from nI_pl (a := i) (b := 4) (by omega)]
  refine ok_sld dL_law_1029 Xs (show i + 4 < L by omega) hL ?_
  refine ok_i2l dL_law_1030 ?_
  refine ok_ldc2 dL_law_1031 w_1218 ?_
  refine ok_land dL_law_1034 ?_
  refine ok_lor dL_law_1035 ?_
  refine ok_callV (M' := mX4_write) (b' := (0, 0)) (As := [_, _, _]) (cx := 4) dL_law_1036 iX4_write w_696 (by decide) rfl (is_lit I.1.1 (by decide) rfl) rfl (Nat.le_of_ble_eq_true rfl) ⟨Nat.le_of_ble_eq_true rfl, Nat.le_of_ble_eq_true rfl⟩ (Nat.le_of_ble_eq_true rfl) rfl rfl ?_
  refine sm_write I _ _ _ _ (fun x h1 hv K1 => ?_)
  refine ok_aload_n dL_law_1039 rfl rfl ?_
  refine ok_aload_n dL_law_1040 rfl rfl ?_
  refine ok_iload_n dL_law_1041 rfl rfl ?_
  refine ok_iconst (v := 1) dL_law_1042 (by decide) ?_
  refine ok_iadd dL_law_1043 ?_
  rw [show nI i + 1 = nI (i + 1) from nI_pl (a := i) (b := 1) (by omega)]
  refine ok_sld dL_law_1044 Xs (show i + 1 < L by omega) hL ?_
  refine ok_aload_n dL_law_1045 rfl rfl ?_
  refine ok_iload_n dL_law_1046 rfl rfl ?_
  refine ok_iconst (v := 2) dL_law_1047 (by decide) ?_
  refine ok_iadd dL_law_1048 ?_
  rw [show nI i + 2 = nI (i + 2) from nI_pl (a := i) (b := 2) (by omega)]
  refine ok_sld dL_law_1049 Xs (show i + 2 < L by omega) hL ?_
  refine ok_aload_n dL_law_1050 rfl rfl ?_
  refine ok_iload_n dL_law_1051 rfl rfl ?_
  refine ok_iconst (v := 3) dL_law_1052 (by decide) ?_
  refine ok_iadd dL_law_1053 ?_
  rw [show nI i + 3 = nI (i + 3) from nI_pl (a := i) (b := 3) (by omega)]
  refine ok_sld dL_law_1054 Xs (show i + 3 < L by omega) hL ?_
  refine ok_i2l dL_law_1055 ?_
  refine ok_bipush (v := 32) dL_law_1056 (by decide) ?_
  refine ok_lshl dL_law_1058 ?_
  refine ok_aload_n dL_law_1059 rfl rfl ?_
  refine ok_iload_n dL_law_1060 rfl rfl ?_
  refine ok_iconst (v := 4) dL_law_1061 (by decide) ?_
  refine ok_iadd dL_law_1062 ?_
  rw [show nI i + 4 = nI (i + 4) from nI_pl (a := i) (b := 4) (by omega)]
  refine ok_sld dL_law_1063 Xs (show i + 4 < L by omega) hL ?_
  refine ok_i2l dL_law_1064 ?_
  refine ok_ldc2 dL_law_1065 w_1218 ?_
  refine ok_land dL_law_1068 ?_
  refine ok_lor dL_law_1069 ?_
  refine ok_callV (M' := mX5_write) (b' := (0, 0)) (As := [_, _, _]) (cx := 5) dL_law_1070 iX5_write w_1165 (by decide) rfl (is_lit hv (by decide) rfl) rfl (Nat.le_of_ble_eq_true rfl) ⟨Nat.le_of_ble_eq_true rfl, Nat.le_of_ble_eq_true rfl⟩ (Nat.le_of_ble_eq_true rfl) rfl rfl ?_
  refine K1 _ (fun h2 E2 => ?_)
  refine ok_lcmp dL_law_1073 ?_
  refine ok_if_eq (tgt := 1306) dL_law_1074 (by decide) (fun _ => ?_) (fun c9 => absurd ((lg_cmp_eq _ _).mpr rfl) c9)
  exact K h2 E2
theorem lc_34 {g : GG} {nm : String} {h : Hp} {Post : Option Value → Hp → Prop} {L : Nat} {xs : Nat → Int32} (Xs : Sx g L xs) (X : Gx g) (hL : L ≤ 3072) {i : Nat} (hi : i + 6 ≤ L) (E : LE h) (K : ∀ h2, LE h2 → Go g (mLaw nm) 1306 [some (.ref 5000), some (.ref 0), some (.ref 49), some (.int (nI i))] [] h2 (0, 0) Post) : Go g (mLaw nm) 1079 [some (.ref 5000), some (.ref 0), some (.ref 49), some (.int (nI i))] [] h (0, 0) Post := by
  obtain ⟨n, r, T, z, n', r', I⟩ := E
  refine ok_aload_n dL_law_1079 rfl rfl ?_
  refine ok_aload_n dL_law_1080 rfl rfl ?_
  refine ok_iload_n dL_law_1081 rfl rfl ?_
  refine ok_iconst (v := 1) dL_law_1082 (by decide) ?_
  refine ok_iadd dL_law_1083 ?_
  rw [show nI i + 1 = nI (i + 1) from nI_pl (a := i) (b := 1) (by omega)]
  refine ok_sld dL_law_1084 Xs (show i + 1 < L by omega) hL ?_
  refine ok_aload_n dL_law_1085 rfl rfl ?_
  refine ok_iload_n dL_law_1086 rfl rfl ?_
  refine ok_iconst (v := 2) dL_law_1087 (by decide) ?_
  refine ok_iadd dL_law_1088 ?_
  rw [show nI i + 2 = nI (i + 2) from nI_pl (a := i) (b := 2) (by omega)]
  refine ok_sld dL_law_1089 Xs (show i + 2 < L by omega) hL ?_
  refine ok_aload_n dL_law_1090 rfl rfl ?_
  refine ok_iload_n dL_law_1091 rfl rfl ?_
  refine ok_iconst (v := 3) dL_law_1092 (by decide) ?_
  refine ok_iadd dL_law_1093 ?_
  rw [show nI i + 3 = nI (i + 3) from nI_pl (a := i) (b := 3) (by omega)]
  refine ok_sld dL_law_1094 Xs (show i + 3 < L by omega) hL ?_
  refine ok_aload_n dL_law_1095 rfl rfl ?_
  refine ok_iload_n dL_law_1096 rfl rfl ?_
  refine ok_iconst (v := 4) dL_law_1097 (by decide) ?_
  refine ok_iadd dL_law_1098 ?_
  rw [show nI i + 4 = nI (i + 4) from nI_pl (a := i) (b := 4) (by omega)]
  refine ok_sld dL_law_1099 Xs (show i + 4 < L by omega) hL ?_
  refine ok_aload_n dL_law_1100 rfl rfl ?_
  refine ok_iload_n dL_law_1101 rfl rfl ?_
  refine ok_iconst (v := 5) dL_law_1102 (by decide) ?_
  refine ok_iadd dL_law_1103 ?_
  rw [show nI i + 5 = nI (i + 5) from nI_pl (a := i) (b := 5) (by omega)]
  refine ok_sld dL_law_1104 Xs (show i + 5 < L by omega) hL ?_
  refine ok_callV (M' := mX4_copy) (b' := (0, 0)) (As := [_, _, _, _, _]) (cx := 4) dL_law_1105 iX4_copy w_713 (by decide) rfl (is_lit I.1.1 (by decide) rfl) rfl (Nat.le_of_ble_eq_true rfl) ⟨Nat.le_of_ble_eq_true rfl, Nat.le_of_ble_eq_true rfl⟩ (Nat.le_of_ble_eq_true rfl) rfl rfl ?_
  refine sm_copy I _ _ _ _ _ _ (fun x h1 hv K1 => ?_)
  refine ok_aload_n dL_law_1108 rfl rfl ?_
  refine ok_aload_n dL_law_1109 rfl rfl ?_
  refine ok_iload_n dL_law_1110 rfl rfl ?_
  refine ok_iconst (v := 1) dL_law_1111 (by decide) ?_
  refine ok_iadd dL_law_1112 ?_
  rw [show nI i + 1 = nI (i + 1) from nI_pl (a := i) (b := 1) (by omega)]
  refine ok_sld dL_law_1113 Xs (show i + 1 < L by omega) hL ?_
  refine ok_aload_n dL_law_1114 rfl rfl ?_
  refine ok_iload_n dL_law_1115 rfl rfl ?_
  refine ok_iconst (v := 2) dL_law_1116 (by decide) ?_
  refine ok_iadd dL_law_1117 ?_
  rw [show nI i + 2 = nI (i + 2) from nI_pl (a := i) (b := 2) (by omega)]
  refine ok_sld dL_law_1118 Xs (show i + 2 < L by omega) hL ?_
  refine ok_aload_n dL_law_1119 rfl rfl ?_
  refine ok_iload_n dL_law_1120 rfl rfl ?_
  refine ok_iconst (v := 3) dL_law_1121 (by decide) ?_
  refine ok_iadd dL_law_1122 ?_
  rw [show nI i + 3 = nI (i + 3) from nI_pl (a := i) (b := 3) (by omega)]
  refine ok_sld dL_law_1123 Xs (show i + 3 < L by omega) hL ?_
  refine ok_aload_n dL_law_1124 rfl rfl ?_
  refine ok_iload_n dL_law_1125 rfl rfl ?_
  refine ok_iconst (v := 4) dL_law_1126 (by decide) ?_
  refine ok_iadd dL_law_1127 ?_
  rw [show nI i + 4 = nI (i + 4) from nI_pl (a := i) (b := 4) (by omega)]
  refine ok_sld dL_law_1128 Xs (show i + 4 < L by omega) hL ?_
  refine ok_aload_n dL_law_1129 rfl rfl ?_
  refine ok_iload_n dL_law_1130 rfl rfl ?_
  refine ok_iconst (v := 5) dL_law_1131 (by decide) ?_
  refine ok_iadd dL_law_1132 ?_
  rw [show nI i + 5 = nI (i + 5) from nI_pl (a := i) (b := 5) (by omega)]
  refine ok_sld dL_law_1133 Xs (show i + 5 < L by omega) hL ?_
  refine ok_callV (M' := mX5_copy) (b' := (0, 0)) (As := [_, _, _, _, _]) (cx := 5) dL_law_1134 iX5_copy w_1173 (by decide) rfl (is_lit hv (by decide) rfl) rfl (Nat.le_of_ble_eq_true rfl) ⟨Nat.le_of_ble_eq_true rfl, Nat.le_of_ble_eq_true rfl⟩ (Nat.le_of_ble_eq_true rfl) rfl rfl ?_
  refine K1 _ (fun h2 E2 => ?_)
  refine ok_icmp_eq (tgt := 1306) dL_law_1137 (by decide) (fun _ => ?_) (fun c9 => absurd rfl c9)
  exact K h2 E2
theorem lc_35 {g : GG} {nm : String} {h : Hp} {Post : Option Value → Hp → Prop} {L : Nat} {xs : Nat → Int32} (Xs : Sx g L xs) (X : Gx g) (hL : L ≤ 3072) {i : Nat} (hi : i + 6 ≤ L) (E : LE h) (K : ∀ h2, LE h2 → Go g (mLaw nm) 1306 [some (.ref 5000), some (.ref 0), some (.ref 49), some (.int (nI i))] [] h2 (0, 0) Post) : Go g (mLaw nm) 1142 [some (.ref 5000), some (.ref 0), some (.ref 49), some (.int (nI i))] [] h (0, 0) Post := by
  obtain ⟨n, r, T, z, n', r', I⟩ := E
  refine ok_aload_n dL_law_1142 rfl rfl ?_
  refine ok_aload_n dL_law_1143 rfl rfl ?_
  refine ok_iload_n dL_law_1144 rfl rfl ?_
  refine ok_iconst (v := 1) dL_law_1145 (by decide) ?_
  refine ok_iadd dL_law_1146 ?_
  rw [show nI i + 1 = nI (i + 1) from nI_pl (a := i) (b := 1) (by omega)]
  refine ok_sld dL_law_1147 Xs (show i + 1 < L by omega) hL ?_
  refine ok_callV (M' := mX4_lays) (b' := (0, 0)) (As := [_]) (cx := 4) dL_law_1148 iX4_lays w_724 (by decide) rfl (is_lit I.1.1 (by decide) rfl) rfl (Nat.le_of_ble_eq_true rfl) ⟨Nat.le_of_ble_eq_true rfl, Nat.le_of_ble_eq_true rfl⟩ (Nat.le_of_ble_eq_true rfl) rfl rfl ?_
  refine sm_lays I _ _ (fun x h1 hv K1 => ?_)
  refine ok_aload_n dL_law_1151 rfl rfl ?_
  refine ok_aload_n dL_law_1152 rfl rfl ?_
  refine ok_iload_n dL_law_1153 rfl rfl ?_
  refine ok_iconst (v := 1) dL_law_1154 (by decide) ?_
  refine ok_iadd dL_law_1155 ?_
  rw [show nI i + 1 = nI (i + 1) from nI_pl (a := i) (b := 1) (by omega)]
  refine ok_sld dL_law_1156 Xs (show i + 1 < L by omega) hL ?_
  refine ok_callV (M' := mX5_lays) (b' := (0, 0)) (As := [_]) (cx := 5) dL_law_1157 iX5_lays w_1181 (by decide) rfl (is_lit hv (by decide) rfl) rfl (Nat.le_of_ble_eq_true rfl) ⟨Nat.le_of_ble_eq_true rfl, Nat.le_of_ble_eq_true rfl⟩ (Nat.le_of_ble_eq_true rfl) rfl rfl ?_
  refine K1 _ (fun h2 E2 => ?_)
  refine ok_icmp_eq (tgt := 1306) dL_law_1160 (by decide) (fun _ => ?_) (fun c9 => absurd rfl c9)
  exact K h2 E2
theorem lc_36 {g : GG} {nm : String} {h : Hp} {Post : Option Value → Hp → Prop} {L : Nat} {xs : Nat → Int32} (Xs : Sx g L xs) (X : Gx g) (hL : L ≤ 3072) {i : Nat} (hi : i + 6 ≤ L) (E : LE h) (K : ∀ h2, LE h2 → Go g (mLaw nm) 1306 [some (.ref 5000), some (.ref 0), some (.ref 49), some (.int (nI i))] [] h2 (0, 0) Post) : Go g (mLaw nm) 1165 [some (.ref 5000), some (.ref 0), some (.ref 49), some (.int (nI i))] [] h (0, 0) Post := by
  obtain ⟨n, r, T, z, n', r', I⟩ := E
  refine ok_aload_n dL_law_1165 rfl rfl ?_
  refine ok_aload_n dL_law_1166 rfl rfl ?_
  refine ok_iload_n dL_law_1167 rfl rfl ?_
  refine ok_iconst (v := 1) dL_law_1168 (by decide) ?_
  refine ok_iadd dL_law_1169 ?_
  rw [show nI i + 1 = nI (i + 1) from nI_pl (a := i) (b := 1) (by omega)]
  refine ok_sld dL_law_1170 Xs (show i + 1 < L by omega) hL ?_
  refine ok_callV (M' := mX4_book) (b' := (0, 0)) (As := [_]) (cx := 4) dL_law_1171 iX4_book w_729 (by decide) rfl (is_lit I.1.1 (by decide) rfl) rfl (Nat.le_of_ble_eq_true rfl) ⟨Nat.le_of_ble_eq_true rfl, Nat.le_of_ble_eq_true rfl⟩ (Nat.le_of_ble_eq_true rfl) rfl rfl ?_
  refine sm_book I _ _ (fun x h1 hv K1 => ?_)
  refine ok_aload_n dL_law_1174 rfl rfl ?_
  refine ok_aload_n dL_law_1175 rfl rfl ?_
  refine ok_iload_n dL_law_1176 rfl rfl ?_
  refine ok_iconst (v := 1) dL_law_1177 (by decide) ?_
  refine ok_iadd dL_law_1178 ?_
  rw [show nI i + 1 = nI (i + 1) from nI_pl (a := i) (b := 1) (by omega)]
  refine ok_sld dL_law_1179 Xs (show i + 1 < L by omega) hL ?_
  refine ok_callV (M' := mX5_book) (b' := (0, 0)) (As := [_]) (cx := 5) dL_law_1180 iX5_book w_1186 (by decide) rfl (is_lit hv (by decide) rfl) rfl (Nat.le_of_ble_eq_true rfl) ⟨Nat.le_of_ble_eq_true rfl, Nat.le_of_ble_eq_true rfl⟩ (Nat.le_of_ble_eq_true rfl) rfl rfl ?_
  refine K1 _ (fun h2 E2 => ?_)
  refine ok_icmp_eq (tgt := 1306) dL_law_1183 (by decide) (fun _ => ?_) (fun c9 => absurd rfl c9)
  exact K h2 E2
theorem lc_37 {g : GG} {nm : String} {h : Hp} {Post : Option Value → Hp → Prop} {L : Nat} {xs : Nat → Int32} (Xs : Sx g L xs) (X : Gx g) (hL : L ≤ 3072) {i : Nat} (hi : i + 6 ≤ L) (E : LE h) (K : ∀ h2, LE h2 → Go g (mLaw nm) 1306 [some (.ref 5000), some (.ref 0), some (.ref 49), some (.int (nI i))] [] h2 (0, 0) Post) : Go g (mLaw nm) 1188 [some (.ref 5000), some (.ref 0), some (.ref 49), some (.int (nI i))] [] h (0, 0) Post := by
  obtain ⟨n, r, T, z, n', r', I⟩ := E
  refine ok_aload_n dL_law_1188 rfl rfl ?_
  refine ok_aload_n dL_law_1189 rfl rfl ?_
  refine ok_iload_n dL_law_1190 rfl rfl ?_
  refine ok_iconst (v := 1) dL_law_1191 (by decide) ?_
  refine ok_iadd dL_law_1192 ?_
  rw [show nI i + 1 = nI (i + 1) from nI_pl (a := i) (b := 1) (by omega)]
  refine ok_sld dL_law_1193 Xs (show i + 1 < L by omega) hL ?_
  refine ok_aload_n dL_law_1194 rfl rfl ?_
  refine ok_iload_n dL_law_1195 rfl rfl ?_
  refine ok_iconst (v := 2) dL_law_1196 (by decide) ?_
  refine ok_iadd dL_law_1197 ?_
  rw [show nI i + 2 = nI (i + 2) from nI_pl (a := i) (b := 2) (by omega)]
  refine ok_sld dL_law_1198 Xs (show i + 2 < L by omega) hL ?_
  refine ok_callV (M' := mX4_read) (b' := (0, 0)) (As := [_, _]) (cx := 4) dL_law_1199 iX4_read w_733 (by decide) rfl (is_lit I.1.1 (by decide) rfl) rfl (Nat.le_of_ble_eq_true rfl) ⟨Nat.le_of_ble_eq_true rfl, Nat.le_of_ble_eq_true rfl⟩ (Nat.le_of_ble_eq_true rfl) rfl rfl ?_
  refine sm_read I _ _ _ (fun x h1 hv K1 => ?_)
  refine ok_aload_n dL_law_1202 rfl rfl ?_
  refine ok_aload_n dL_law_1203 rfl rfl ?_
  refine ok_iload_n dL_law_1204 rfl rfl ?_
  refine ok_iconst (v := 1) dL_law_1205 (by decide) ?_
  refine ok_iadd dL_law_1206 ?_
  rw [show nI i + 1 = nI (i + 1) from nI_pl (a := i) (b := 1) (by omega)]
  refine ok_sld dL_law_1207 Xs (show i + 1 < L by omega) hL ?_
  refine ok_aload_n dL_law_1208 rfl rfl ?_
  refine ok_iload_n dL_law_1209 rfl rfl ?_
  refine ok_iconst (v := 2) dL_law_1210 (by decide) ?_
  refine ok_iadd dL_law_1211 ?_
  rw [show nI i + 2 = nI (i + 2) from nI_pl (a := i) (b := 2) (by omega)]
  refine ok_sld dL_law_1212 Xs (show i + 2 < L by omega) hL ?_
  refine ok_callV (M' := mX5_read) (b' := (0, 0)) (As := [_, _]) (cx := 5) dL_law_1213 iX5_read w_1190 (by decide) rfl (is_lit hv (by decide) rfl) rfl (Nat.le_of_ble_eq_true rfl) ⟨Nat.le_of_ble_eq_true rfl, Nat.le_of_ble_eq_true rfl⟩ (Nat.le_of_ble_eq_true rfl) rfl rfl ?_
  refine K1 _ (fun h2 E2 => ?_)
  refine ok_icmp_eq (tgt := 1306) dL_law_1216 (by decide) (fun _ => ?_) (fun c9 => absurd rfl c9)
  exact K h2 E2
theorem lc_38 {g : GG} {nm : String} {h : Hp} {Post : Option Value → Hp → Prop} {L : Nat} {xs : Nat → Int32} (Xs : Sx g L xs) (X : Gx g) (hL : L ≤ 3072) {i : Nat} (hi : i + 6 ≤ L) (E : LE h) (K : ∀ h2, LE h2 → Go g (mLaw nm) 1306 [some (.ref 5000), some (.ref 0), some (.ref 49), some (.int (nI i))] [] h2 (0, 0) Post) : Go g (mLaw nm) 1221 [some (.ref 5000), some (.ref 0), some (.ref 49), some (.int (nI i))] [] h (0, 0) Post := by
  obtain ⟨n, r, T, z, n', r', I⟩ := E
  refine ok_aload_n dL_law_1221 rfl rfl ?_
  refine ok_callV (M' := mX4_image) (b' := (0, 0)) (As := []) (cx := 4) dL_law_1222 iX4_image w_741 (by decide) rfl (is_lit I.1.1 (by decide) rfl) rfl (Nat.le_of_ble_eq_true rfl) ⟨Nat.le_of_ble_eq_true rfl, Nat.le_of_ble_eq_true rfl⟩ (Nat.le_of_ble_eq_true rfl) rfl rfl ?_
  refine sm_image I  _ (fun x h1 hv K1 => ?_)
  refine ok_aload_n dL_law_1225 rfl rfl ?_
  refine ok_callV (M' := mX5_image) (b' := (0, 0)) (As := []) (cx := 5) dL_law_1226 iX5_image w_1198 (by decide) rfl (is_lit hv (by decide) rfl) rfl (Nat.le_of_ble_eq_true rfl) ⟨Nat.le_of_ble_eq_true rfl, Nat.le_of_ble_eq_true rfl⟩ (Nat.le_of_ble_eq_true rfl) rfl rfl ?_
  refine K1 _ (fun h2 E2 => ?_)
  refine ok_icmp_eq (tgt := 1306) dL_law_1229 (by decide) (fun _ => ?_) (fun c9 => absurd rfl c9)
  exact K h2 E2
theorem lc_39 {g : GG} {nm : String} {h : Hp} {Post : Option Value → Hp → Prop} {L : Nat} {xs : Nat → Int32} (Xs : Sx g L xs) (X : Gx g) (hL : L ≤ 3072) {i : Nat} (hi : i + 6 ≤ L) (E : LE h) (K : ∀ h2, LE h2 → Go g (mLaw nm) 1306 [some (.ref 5000), some (.ref 0), some (.ref 49), some (.int (nI i))] [] h2 (0, 0) Post) : Go g (mLaw nm) 1234 [some (.ref 5000), some (.ref 0), some (.ref 49), some (.int (nI i))] [] h (0, 0) Post := by
  obtain ⟨n, r, T, z, n', r', I⟩ := E
  refine ok_aload_n dL_law_1234 rfl rfl ?_
  refine ok_callV (M' := mX4_undo) (b' := (0, 0)) (As := []) (cx := 4) dL_law_1235 iX4_undo w_745 (by decide) rfl (is_lit I.1.1 (by decide) rfl) rfl (Nat.le_of_ble_eq_true rfl) ⟨Nat.le_of_ble_eq_true rfl, Nat.le_of_ble_eq_true rfl⟩ (Nat.le_of_ble_eq_true rfl) rfl rfl ?_
  refine sm_undo I  _ (fun x h1 hv K1 => ?_)
  refine ok_aload_n dL_law_1238 rfl rfl ?_
  refine ok_callV (M' := mX5_undo) (b' := (0, 0)) (As := []) (cx := 5) dL_law_1239 iX5_undo w_1202 (by decide) rfl (is_lit hv (by decide) rfl) rfl (Nat.le_of_ble_eq_true rfl) ⟨Nat.le_of_ble_eq_true rfl, Nat.le_of_ble_eq_true rfl⟩ (Nat.le_of_ble_eq_true rfl) rfl rfl ?_
  refine K1 _ (fun h2 E2 => ?_)
  refine ok_icmp_eq (tgt := 1306) dL_law_1242 (by decide) (fun _ => ?_) (fun c9 => absurd rfl c9)
  exact K h2 E2
theorem lc_40 {g : GG} {nm : String} {h : Hp} {Post : Option Value → Hp → Prop} {L : Nat} {xs : Nat → Int32} (Xs : Sx g L xs) (X : Gx g) (hL : L ≤ 3072) {i : Nat} (hi : i + 6 ≤ L) (E : LE h) (K : ∀ h2, LE h2 → Go g (mLaw nm) 1306 [some (.ref 5000), some (.ref 0), some (.ref 49), some (.int (nI i))] [] h2 (0, 0) Post) : Go g (mLaw nm) 1247 [some (.ref 5000), some (.ref 0), some (.ref 49), some (.int (nI i))] [] h (0, 0) Post := by
  obtain ⟨n, r, T, z, n', r', I⟩ := E
  refine ok_aload_n dL_law_1247 rfl rfl ?_
  refine ok_callV (M' := mX4_tear) (b' := (0, 0)) (As := []) (cx := 4) dL_law_1248 iX4_tear w_749 (by decide) rfl (is_lit I.1.1 (by decide) rfl) rfl (Nat.le_of_ble_eq_true rfl) ⟨Nat.le_of_ble_eq_true rfl, Nat.le_of_ble_eq_true rfl⟩ (Nat.le_of_ble_eq_true rfl) rfl rfl ?_
  refine sm_tear I  _ (fun x h1 hv K1 => ?_)
  refine ok_aload_n dL_law_1251 rfl rfl ?_
  refine ok_callV (M' := mX5_tear) (b' := (0, 0)) (As := []) (cx := 5) dL_law_1252 iX5_tear w_1206 (by decide) rfl (is_lit hv (by decide) rfl) rfl (Nat.le_of_ble_eq_true rfl) ⟨Nat.le_of_ble_eq_true rfl, Nat.le_of_ble_eq_true rfl⟩ (Nat.le_of_ble_eq_true rfl) rfl rfl ?_
  refine K1 _ (fun h2 E2 => ?_)
  refine ok_icmp_eq (tgt := 1306) dL_law_1255 (by decide) (fun _ => ?_) (fun c9 => absurd rfl c9)
  exact K h2 E2
theorem lc_41 {g : GG} {nm : String} {h : Hp} {Post : Option Value → Hp → Prop} {L : Nat} {xs : Nat → Int32} (Xs : Sx g L xs) (X : Gx g) (hL : L ≤ 3072) {i : Nat} (hi : i + 6 ≤ L) (E : LE h) (K : ∀ h2, LE h2 → Go g (mLaw nm) 1306 [some (.ref 5000), some (.ref 0), some (.ref 49), some (.int (nI i))] [] h2 (0, 0) Post) : Go g (mLaw nm) 1260 [some (.ref 5000), some (.ref 0), some (.ref 49), some (.int (nI i))] [] h (0, 0) Post := by
  obtain ⟨n, r, T, z, n', r', I⟩ := E
  refine ok_aload_n dL_law_1260 rfl rfl ?_
  refine ok_aload_n dL_law_1261 rfl rfl ?_
  refine ok_iload_n dL_law_1262 rfl rfl ?_
  refine ok_iconst (v := 1) dL_law_1263 (by decide) ?_
  refine ok_iadd dL_law_1264 ?_
  rw [show nI i + 1 = nI (i + 1) from nI_pl (a := i) (b := 1) (by omega)]
  refine ok_sld dL_law_1265 Xs (show i + 1 < L by omega) hL ?_
  refine ok_callV (M' := mX4_count) (b' := (0, 0)) (As := [_]) (cx := 4) dL_law_1266 iX4_count w_753 (by decide) rfl (is_lit I.1.1 (by decide) rfl) rfl (Nat.le_of_ble_eq_true rfl) ⟨Nat.le_of_ble_eq_true rfl, Nat.le_of_ble_eq_true rfl⟩ (Nat.le_of_ble_eq_true rfl) rfl rfl ?_
  refine sm_count I _ _ (fun x h1 hv K1 => ?_)
  refine ok_aload_n dL_law_1269 rfl rfl ?_
  refine ok_aload_n dL_law_1270 rfl rfl ?_
  refine ok_iload_n dL_law_1271 rfl rfl ?_
  refine ok_iconst (v := 1) dL_law_1272 (by decide) ?_
  refine ok_iadd dL_law_1273 ?_
  rw [show nI i + 1 = nI (i + 1) from nI_pl (a := i) (b := 1) (by omega)]
  refine ok_sld dL_law_1274 Xs (show i + 1 < L by omega) hL ?_
  refine ok_callV (M' := mX5_count) (b' := (0, 0)) (As := [_]) (cx := 5) dL_law_1275 iX5_count w_1210 (by decide) rfl (is_lit hv (by decide) rfl) rfl (Nat.le_of_ble_eq_true rfl) ⟨Nat.le_of_ble_eq_true rfl, Nat.le_of_ble_eq_true rfl⟩ (Nat.le_of_ble_eq_true rfl) rfl rfl ?_
  refine K1 _ (fun h2 E2 => ?_)
  refine ok_icmp_eq (tgt := 1306) dL_law_1278 (by decide) (fun _ => ?_) (fun c9 => absurd rfl c9)
  exact K h2 E2
theorem lc_42 {g : GG} {nm : String} {h : Hp} {Post : Option Value → Hp → Prop} {L : Nat} {xs : Nat → Int32} (Xs : Sx g L xs) (X : Gx g) (hL : L ≤ 3072) {i : Nat} (hi : i + 6 ≤ L) (E : LE h) (K : ∀ h2, LE h2 → Go g (mLaw nm) 1306 [some (.ref 5000), some (.ref 0), some (.ref 49), some (.int (nI i))] [] h2 (0, 0) Post) : Go g (mLaw nm) 1283 [some (.ref 5000), some (.ref 0), some (.ref 49), some (.int (nI i))] [] h (0, 0) Post := by
  obtain ⟨n, r, T, z, n', r', I⟩ := E
  refine ok_aload_n dL_law_1283 rfl rfl ?_
  refine ok_aload_n dL_law_1284 rfl rfl ?_
  refine ok_iload_n dL_law_1285 rfl rfl ?_
  refine ok_iconst (v := 1) dL_law_1286 (by decide) ?_
  refine ok_iadd dL_law_1287 ?_
  rw [show nI i + 1 = nI (i + 1) from nI_pl (a := i) (b := 1) (by omega)]
  refine ok_sld dL_law_1288 Xs (show i + 1 < L by omega) hL ?_
  refine ok_callV (M' := mX4_status) (b' := (0, 0)) (As := [_]) (cx := 4) dL_law_1289 iX4_status w_765 (by decide) rfl (is_lit I.1.1 (by decide) rfl) rfl (Nat.le_of_ble_eq_true rfl) ⟨Nat.le_of_ble_eq_true rfl, Nat.le_of_ble_eq_true rfl⟩ (Nat.le_of_ble_eq_true rfl) rfl rfl ?_
  refine sm_status I _ _ (fun x h1 hv K1 => ?_)
  refine ok_aload_n dL_law_1292 rfl rfl ?_
  refine ok_aload_n dL_law_1293 rfl rfl ?_
  refine ok_iload_n dL_law_1294 rfl rfl ?_
  refine ok_iconst (v := 1) dL_law_1295 (by decide) ?_
  refine ok_iadd dL_law_1296 ?_
  rw [show nI i + 1 = nI (i + 1) from nI_pl (a := i) (b := 1) (by omega)]
  refine ok_sld dL_law_1297 Xs (show i + 1 < L by omega) hL ?_
  refine ok_callV (M' := mX5_status) (b' := (0, 0)) (As := [_]) (cx := 5) dL_law_1298 iX5_status w_1214 (by decide) rfl (is_lit hv (by decide) rfl) rfl (Nat.le_of_ble_eq_true rfl) ⟨Nat.le_of_ble_eq_true rfl, Nat.le_of_ble_eq_true rfl⟩ (Nat.le_of_ble_eq_true rfl) rfl rfl ?_
  refine K1 _ (fun h2 E2 => ?_)
  refine ok_icmp_eq (tgt := 1306) dL_law_1301 (by decide) (fun _ => ?_) (fun c9 => absurd rfl c9)
  exact K h2 E2
