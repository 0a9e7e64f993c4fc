/-! ===== the law's cases ===== -/
section ZLAW
variable {p : Program} {l : Launch} {e : Env} {s : State} {m : MethodId} {args : Array Value} {below : List Frame} {meth : Method} {c : Code} {cells slots : Nat} {Q : State → Prop}
variable {D : va_G} {b0 : Nat} {tA : Nat → ClassId} {sa sv : Nat → Nat} {K : Nat → Option Nat} {st : List AV} {I : zI}
set_option maxRecDepth 20000 in
theorem zl_c0 (X : zX p l e room_1 s m args below meth c RL cL_law 9 (some .boolean) D b0 tA sa sv) {x n : Nat} (hn : 6 * n + 6 ≤ sv 0) (hi : zLv x n I) (hf : cells ≤ 600000 ∧ slots ≤ 7280000)
    (kk : ∀ J : zI, zLv x (n + 1) J → zG p l e room_1 s m args below meth c 9 D b0 tA sa (cells + 3) (slots + 18) Q K 1710 [some (vr (sa 35) 53), some (vr x 7), some (vr (x + 501) 8), some (vr (x + 515) 17), some (vi (nI (6 * n))), none, none, none, none] [] J) : zG p l e room_1 s m args below meth c 9 D b0 tA sa cells slots Q K 168 [some (vr (sa 35) 53), some (vr x 7), some (vr (x + 501) 8), some (vr (x + 515) 17), some (vi (nI (6 * n))), none, none, none, none] [] I := by
  obtain ⟨t, f, er, S, U, hC, hR, hP, hU⟩ := hi
  refine zr_aload1 X dL_law_168 ?_
  refine zr_S X (n := n) (k := 1) hn (by decide) dL_law_169 dL_law_170 dL_law_172 dL_law_173 dL_law_174 ?_
  refine zr_S X (n := n) (k := 2) hn (by decide) dL_law_175 dL_law_176 dL_law_178 dL_law_179 dL_law_180 ?_
  refine zr_S X (n := n) (k := 3) hn (by decide) dL_law_181 dL_law_182 dL_law_184 dL_law_185 dL_law_186 ?_
  refine zr_S X (n := n) (k := 4) hn (by decide) dL_law_187 dL_law_188 dL_law_190 dL_law_191 dL_law_192 ?_
  refine zr_S X (n := n) (k := 5) hn (by decide) dL_law_193 dL_law_194 dL_law_196 dL_law_197 dL_law_198 ?_
  refine zr_callVQ X zm_L_88 (rm9 := zrm_X7_append) (As := [vi (zAr sv n 1), vi (zAr sv n 2), vi (zAr sv n 3), vi (zAr sv n 4), vi (zAr sv n 5)]) (st := []) rfl rfl ⟨by decide, Nat.le_of_ble_eq_true rfl⟩ ⟨by show cells + 0 ≤ 601024; omega, by show slots + 0 ≤ 7293034; omega⟩ (Nat.le_of_ble_eq_true rfl) dL_law_199 ?_
  refine zN_append (y := x + 501) (out := x + 515) hC hR (by omega) (fun J1 hC1 hR1 => ?_)
  refine zr_aload2 X dL_law_202 ?_
  refine zr_S X (n := n) (k := 1) hn (by decide) dL_law_203 dL_law_204 dL_law_206 dL_law_207 dL_law_208 ?_
  refine zr_S X (n := n) (k := 2) hn (by decide) dL_law_209 dL_law_210 dL_law_212 dL_law_213 dL_law_214 ?_
  refine zr_S X (n := n) (k := 3) hn (by decide) dL_law_215 dL_law_216 dL_law_218 dL_law_219 dL_law_220 ?_
  refine zr_S X (n := n) (k := 4) hn (by decide) dL_law_221 dL_law_222 dL_law_224 dL_law_225 dL_law_226 ?_
  refine zr_S X (n := n) (k := 5) hn (by decide) dL_law_227 dL_law_228 dL_law_230 dL_law_231 dL_law_232 ?_
  refine zr_callVQ X zm_L_92 (rm9 := zrm_X8_append) (As := [vi (zAr sv n 1), vi (zAr sv n 2), vi (zAr sv n 3), vi (zAr sv n 4), vi (zAr sv n 5)]) (st := [vi (rApp f)]) rfl rfl ⟨by decide, Nat.le_of_ble_eq_true rfl⟩ ⟨by show cells + 0 ≤ 601024; omega, by show slots + 0 ≤ 7293034; omega⟩ (Nat.le_of_ble_eq_true rfl) dL_law_233 ?_
  refine zM_append (out := x + 515) hC1 hR1 (by omega) (by omega) (fun J2 hC2 hR2 => ?_)
  refine zr_icmp_eq (st := []) (tgt := 1710) X dL_law_236 (by decide) (fun _ => ?_) (fun h => absurd rfl h)
  refine zr_more (k := cells + 3) (n := slots + 18) (by show cells + 0 ≤ cells + 3; omega) (by show slots + 0 ≤ slots + 18; omega) ?_
  exact kk J2 (zLv.mk hC2 hR2 (hP.le (by omega)) (fun u hu => (hU u hu).le (by omega)))
set_option maxRecDepth 20000 in
theorem zl_c1 (X : zX p l e room_1 s m args below meth c RL cL_law 9 (some .boolean) D b0 tA sa sv) {x n : Nat} (hn : 6 * n + 6 ≤ sv 0) (hi : zLv x n I) (hf : cells ≤ 600000 ∧ slots ≤ 7280000)
    (kk : ∀ J : zI, zLv x (n + 1) J → zG p l e room_1 s m args below meth c 9 D b0 tA sa (cells + 3) (slots + 18) Q K 1710 [some (vr (sa 35) 53), some (vr x 7), some (vr (x + 501) 8), some (vr (x + 515) 17), some (vi (nI (6 * n))), none, none, none, none] [] J) : zG p l e room_1 s m args below meth c 9 D b0 tA sa cells slots Q K 241 [some (vr (sa 35) 53), some (vr x 7), some (vr (x + 501) 8), some (vr (x + 515) 17), some (vi (nI (6 * n))), none, none, none, none] [] I := by
  obtain ⟨t, f, er, S, U, hC, hR, hP, hU⟩ := hi
  refine zr_aload1 X dL_law_241 ?_
  refine zr_S X (n := n) (k := 1) hn (by decide) dL_law_242 dL_law_243 dL_law_245 dL_law_246 dL_law_247 ?_
  refine zr_aload3 X dL_law_248 ?_
  refine zr_callSX X zmh_93 (rm9 := zrm_L_load) (As := [vr x 7, vi (zAr sv n 1), vr (x + 515) 17]) (st := []) rfl rfl ⟨by decide, Nat.le_of_ble_eq_true rfl⟩ ⟨by show cells + 1 ≤ 601024; omega, by show slots + 6 ≤ 7293034; omega⟩ (Nat.le_of_ble_eq_true rfl) dL_law_249 ?_
  refine zL_load (y := x + 501) hC hR (by omega) (by omega) (fun J1 hC1 hR1 ho => ?_)
  refine zr_istore5 X (by decide) rfl dL_law_252 ?_
  refine zr_aload2 X dL_law_254 ?_
  refine zr_S X (n := n) (k := 1) hn (by decide) dL_law_255 dL_law_256 dL_law_258 dL_law_259 dL_law_260 ?_
  refine zr_callVQ X zm_L_98 (rm9 := zrm_X8_load) (As := [vi (zAr sv n 1)]) (st := []) rfl rfl ⟨by decide, Nat.le_of_ble_eq_true rfl⟩ ⟨by show cells + 1 ≤ 601024; omega, by show slots + 6 ≤ 7293034; omega⟩ (Nat.le_of_ble_eq_true rfl) dL_law_261 ?_
  refine zM_load (out := x + 515) hC1 hR1 (by omega) (by omega) (fun J2 v9 hC2 hR2 e2 h0 hv => ?_)
  refine zr_istore6 X (by decide) rfl dL_law_264 ?_
  refine zr_tail X (r1 := (rLoad t f (zAr sv n 1)).1) (r2 := (rLoad t f (zAr sv n 1)).2) dL_law_266 dL_law_267 dL_law_270 dL_law_272 dL_law_277 dL_law_279 dL_law_282 dL_law_283 dL_law_284 dL_law_285 dL_law_287 dL_law_288 dL_law_289 dL_law_294 (by decide) rLoad_le h0 hv (fun h => e2.trans (ho h)) ⟨by show cells + 1 ≤ 601000; omega, by show slots + 6 ≤ 7290000; omega⟩ ?_
  refine zr_forget (lv2 := [some (vr (sa 35) 53), some (vr x 7), some (vr (x + 501) 8), some (vr (x + 515) 17), some (vi (nI (6 * n))), none, none, none, none]) (fun j9 v9 h9 => by rcases j9 with _ | _ | _ | _ | _ | _ | _ | _ | _ | j9 <;> first | exact h9 | (simp at h9)) ?_
  refine zr_more (k := cells + 3) (n := slots + 18) (by show cells + 1 ≤ cells + 3; omega) (by show slots + 6 ≤ slots + 18; omega) ?_
  exact kk J2 (zLv.mk hC2 hR2 (zPb_sLoad hC.1.2.1 (by omega) hP) (zPb_uLoad hP hU))
set_option maxRecDepth 20000 in
theorem zl_c2 (X : zX p l e room_1 s m args below meth c RL cL_law 9 (some .boolean) D b0 tA sa sv) {x n : Nat} (hn : 6 * n + 6 ≤ sv 0) (hi : zLv x n I) (hf : cells ≤ 600000 ∧ slots ≤ 7280000)
    (kk : ∀ J : zI, zLv x (n + 1) J → zG p l e room_1 s m args below meth c 9 D b0 tA sa (cells + 3) (slots + 18) Q K 1710 [some (vr (sa 35) 53), some (vr x 7), some (vr (x + 501) 8), some (vr (x + 515) 17), some (vi (nI (6 * n))), none, none, none, none] [] J) : zG p l e room_1 s m args below meth c 9 D b0 tA sa cells slots Q K 297 [some (vr (sa 35) 53), some (vr x 7), some (vr (x + 501) 8), some (vr (x + 515) 17), some (vi (nI (6 * n))), none, none, none, none] [] I := by
  obtain ⟨t, f, er, S, U, hC, hR, hP, hU⟩ := hi
  refine zr_aload1 X dL_law_297 ?_
  refine zr_callVQ X zm_L_103 (rm9 := zrm_X7_errorOffset) (As := []) (st := []) rfl rfl ⟨by decide, Nat.le_of_ble_eq_true rfl⟩ ⟨by show cells + 0 ≤ 601024; omega, by show slots + 0 ≤ 7293034; omega⟩ (Nat.le_of_ble_eq_true rfl) dL_law_298 ?_
  refine zq_X7_errorOffset hC ?_
  refine zr_aload2 X dL_law_301 ?_
  refine zr_callVQ X zm_L_106 (rm9 := zrm_X8_errorOffset) (As := []) (st := [vi er]) rfl rfl ⟨by decide, Nat.le_of_ble_eq_true rfl⟩ ⟨by show cells + 0 ≤ 601024; omega, by show slots + 0 ≤ 7293034; omega⟩ (Nat.le_of_ble_eq_true rfl) dL_law_302 ?_
  refine zM_errorOffset (out := x + 515) hC hR (by omega) (by omega) (fun J2 hC2 hR2 => ?_)
  refine zr_icmp_eq (st := []) (tgt := 1710) X dL_law_305 (by decide) (fun _ => ?_) (fun h => absurd rfl h)
  refine zr_more (k := cells + 3) (n := slots + 18) (by show cells + 0 ≤ cells + 3; omega) (by show slots + 0 ≤ slots + 18; omega) ?_
  exact kk J2 (zLv.mk hC2 hR2 (hP.le (by omega)) (fun u hu => (hU u hu).le (by omega)))
set_option maxRecDepth 20000 in
theorem zl_c3 (X : zX p l e room_1 s m args below meth c RL cL_law 9 (some .boolean) D b0 tA sa sv) {x n : Nat} (hn : 6 * n + 6 ≤ sv 0) (hi : zLv x n I) (hf : cells ≤ 600000 ∧ slots ≤ 7280000)
    (kk : ∀ J : zI, zLv x (n + 1) J → zG p l e room_1 s m args below meth c 9 D b0 tA sa (cells + 3) (slots + 18) Q K 1710 [some (vr (sa 35) 53), some (vr x 7), some (vr (x + 501) 8), some (vr (x + 515) 17), some (vi (nI (6 * n))), none, none, none, none] [] J) : zG p l e room_1 s m args below meth c 9 D b0 tA sa cells slots Q K 310 [some (vr (sa 35) 53), some (vr x 7), some (vr (x + 501) 8), some (vr (x + 515) 17), some (vi (nI (6 * n))), none, none, none, none] [] I := by
  obtain ⟨t, f, er, S, U, hC, hR, hP, hU⟩ := hi
  refine zr_aload1 X dL_law_310 ?_
  refine zr_S X (n := n) (k := 1) hn (by decide) dL_law_311 dL_law_312 dL_law_314 dL_law_315 dL_law_316 ?_
  refine zr_aload3 X dL_law_317 ?_
  refine zr_callSX X zmh_107 (rm9 := zrm_L_state) (As := [vr x 7, vi (zAr sv n 1), vr (x + 515) 17]) (st := []) rfl rfl ⟨by decide, Nat.le_of_ble_eq_true rfl⟩ ⟨by show cells + 1 ≤ 601024; omega, by show slots + 6 ≤ 7293034; omega⟩ (Nat.le_of_ble_eq_true rfl) dL_law_318 ?_
  refine zL_state (y := x + 501) hC hR (by omega) (by omega) (fun J1 hC1 hR1 ho => ?_)
  refine zr_istore5 X (by decide) rfl dL_law_321 ?_
  refine zr_aload2 X dL_law_323 ?_
  refine zr_S X (n := n) (k := 1) hn (by decide) dL_law_324 dL_law_325 dL_law_327 dL_law_328 dL_law_329 ?_
  refine zr_callVQ X zm_L_109 (rm9 := zrm_X8_state) (As := [vi (zAr sv n 1)]) (st := []) rfl rfl ⟨by decide, Nat.le_of_ble_eq_true rfl⟩ ⟨by show cells + 1 ≤ 601024; omega, by show slots + 6 ≤ 7293034; omega⟩ (Nat.le_of_ble_eq_true rfl) dL_law_330 ?_
  refine zM_state (out := x + 515) hC1 hR1 (by omega) (by omega) (fun J2 v9 hC2 hR2 e2 h0 hv => ?_)
  refine zr_istore6 X (by decide) rfl dL_law_333 ?_
  refine zr_tail X (r1 := (rState S (zAr sv n 1)).1) (r2 := (rState S (zAr sv n 1)).2) dL_law_335 dL_law_336 dL_law_339 dL_law_341 dL_law_346 dL_law_348 dL_law_351 dL_law_352 dL_law_353 dL_law_354 dL_law_356 dL_law_357 dL_law_358 dL_law_363 (by decide) rState_le h0 hv (fun h => e2.trans (ho h)) ⟨by show cells + 1 ≤ 601000; omega, by show slots + 6 ≤ 7290000; omega⟩ ?_
  refine zr_forget (lv2 := [some (vr (sa 35) 53), some (vr x 7), some (vr (x + 501) 8), some (vr (x + 515) 17), some (vi (nI (6 * n))), none, none, none, none]) (fun j9 v9 h9 => by rcases j9 with _ | _ | _ | _ | _ | _ | _ | _ | _ | j9 <;> first | exact h9 | (simp at h9)) ?_
  refine zr_more (k := cells + 3) (n := slots + 18) (by show cells + 1 ≤ cells + 3; omega) (by show slots + 6 ≤ slots + 18; omega) ?_
  exact kk J2 (zLv.mk hC2 hR2 (hP.le (by omega)) (fun u hu => (hU u hu).le (by omega)))
set_option maxRecDepth 20000 in
theorem zl_c4 (X : zX p l e room_1 s m args below meth c RL cL_law 9 (some .boolean) D b0 tA sa sv) {x n : Nat} (hn : 6 * n + 6 ≤ sv 0) (hi : zLv x n I) (hf : cells ≤ 600000 ∧ slots ≤ 7280000)
    (kk : ∀ J : zI, zLv x (n + 1) J → zG p l e room_1 s m args below meth c 9 D b0 tA sa (cells + 3) (slots + 18) Q K 1710 [some (vr (sa 35) 53), some (vr x 7), some (vr (x + 501) 8), some (vr (x + 515) 17), some (vi (nI (6 * n))), none, none, none, none] [] J) : zG p l e room_1 s m args below meth c 9 D b0 tA sa cells slots Q K 366 [some (vr (sa 35) 53), some (vr x 7), some (vr (x + 501) 8), some (vr (x + 515) 17), some (vi (nI (6 * n))), none, none, none, none] [] I := by
  obtain ⟨t, f, er, S, U, hC, hR, hP, hU⟩ := hi
  refine zr_aload1 X dL_law_366 ?_
  refine zr_S X (n := n) (k := 1) hn (by decide) dL_law_367 dL_law_368 dL_law_370 dL_law_371 dL_law_372 ?_
  refine zr_aload3 X dL_law_373 ?_
  refine zr_callSX X zmh_110 (rm9 := zrm_L_find) (As := [vr x 7, vi (zAr sv n 1), vr (x + 515) 17]) (st := []) rfl rfl ⟨by decide, Nat.le_of_ble_eq_true rfl⟩ ⟨by show cells + 1 ≤ 601024; omega, by show slots + 6 ≤ 7293034; omega⟩ (Nat.le_of_ble_eq_true rfl) dL_law_374 ?_
  refine zL_find (y := x + 501) hC hR (by omega) (by omega) (fun J1 hC1 hR1 ho => ?_)
  refine zr_istore5 X (by decide) rfl dL_law_377 ?_
  refine zr_aload2 X dL_law_379 ?_
  refine zr_S X (n := n) (k := 1) hn (by decide) dL_law_380 dL_law_381 dL_law_383 dL_law_384 dL_law_385 ?_
  refine zr_callVQ X zm_L_112 (rm9 := zrm_X8_find) (As := [vi (zAr sv n 1)]) (st := []) rfl rfl ⟨by decide, Nat.le_of_ble_eq_true rfl⟩ ⟨by show cells + 1 ≤ 601024; omega, by show slots + 6 ≤ 7293034; omega⟩ (Nat.le_of_ble_eq_true rfl) dL_law_386 ?_
  refine zM_find (out := x + 515) hC1 hR1 (by omega) (by omega) (fun J2 v9 hC2 hR2 e2 h0 hv => ?_)
  refine zr_istore6 X (by decide) rfl dL_law_389 ?_
  refine zr_tail X (r1 := (rFind S t f (zAr sv n 1)).1) (r2 := (rFind S t f (zAr sv n 1)).2) dL_law_391 dL_law_392 dL_law_395 dL_law_397 dL_law_402 dL_law_404 dL_law_407 dL_law_408 dL_law_409 dL_law_410 dL_law_412 dL_law_413 dL_law_414 dL_law_419 (by decide) rFind_le h0 hv (fun h => e2.trans (ho h)) ⟨by show cells + 1 ≤ 601000; omega, by show slots + 6 ≤ 7290000; omega⟩ ?_
  refine zr_forget (lv2 := [some (vr (sa 35) 53), some (vr x 7), some (vr (x + 501) 8), some (vr (x + 515) 17), some (vi (nI (6 * n))), none, none, none, none]) (fun j9 v9 h9 => by rcases j9 with _ | _ | _ | _ | _ | _ | _ | _ | _ | j9 <;> first | exact h9 | (simp at h9)) ?_
  refine zr_more (k := cells + 3) (n := slots + 18) (by show cells + 1 ≤ cells + 3; omega) (by show slots + 6 ≤ slots + 18; omega) ?_
  exact kk J2 (zLv.mk hC2 hR2 (hP.le (by omega)) (fun u hu => (hU u hu).le (by omega)))
set_option maxRecDepth 20000 in
theorem zl_c5 (X : zX p l e room_1 s m args below meth c RL cL_law 9 (some .boolean) D b0 tA sa sv) {x n : Nat} (hn : 6 * n + 6 ≤ sv 0) (hi : zLv x n I) (hf : cells ≤ 600000 ∧ slots ≤ 7280000)
    (kk : ∀ J : zI, zLv x (n + 1) J → zG p l e room_1 s m args below meth c 9 D b0 tA sa (cells + 3) (slots + 18) Q K 1710 [some (vr (sa 35) 53), some (vr x 7), some (vr (x + 501) 8), some (vr (x + 515) 17), some (vi (nI (6 * n))), none, none, none, none] [] J) : zG p l e room_1 s m args below meth c 9 D b0 tA sa cells slots Q K 422 [some (vr (sa 35) 53), some (vr x 7), some (vr (x + 501) 8), some (vr (x + 515) 17), some (vi (nI (6 * n))), none, none, none, none] [] I := by
  obtain ⟨t, f, er, S, U, hC, hR, hP, hU⟩ := hi
  refine zr_aload1 X dL_law_422 ?_
  refine zr_S X (n := n) (k := 1) hn (by decide) dL_law_423 dL_law_424 dL_law_426 dL_law_427 dL_law_428 ?_
  refine zr_S X (n := n) (k := 2) hn (by decide) dL_law_429 dL_law_430 dL_law_432 dL_law_433 dL_law_434 ?_
  refine zr_aload3 X dL_law_435 ?_
  refine zr_callSX X zmh_113 (rm9 := zrm_L_gate) (As := [vr x 7, vi (zAr sv n 1), vi (zAr sv n 2), vr (x + 515) 17]) (st := []) rfl rfl ⟨by decide, Nat.le_of_ble_eq_true rfl⟩ ⟨by show cells + 2 ≤ 601024; omega, by show slots + 12 ≤ 7293034; omega⟩ (Nat.le_of_ble_eq_true rfl) dL_law_436 ?_
  refine zL_gate (y := x + 501) hC hR (by omega) (by omega) (fun J1 hC1 hR1 ho => ?_)
  refine zr_istore5 X (by decide) rfl dL_law_439 ?_
  refine zr_aload2 X dL_law_441 ?_
  refine zr_S X (n := n) (k := 1) hn (by decide) dL_law_442 dL_law_443 dL_law_445 dL_law_446 dL_law_447 ?_
  refine zr_S X (n := n) (k := 2) hn (by decide) dL_law_448 dL_law_449 dL_law_451 dL_law_452 dL_law_453 ?_
  refine zr_callVQ X zm_L_116 (rm9 := zrm_X8_gate) (As := [vi (zAr sv n 1), vi (zAr sv n 2)]) (st := []) rfl rfl ⟨by decide, Nat.le_of_ble_eq_true rfl⟩ ⟨by show cells + 2 ≤ 601024; omega, by show slots + 12 ≤ 7293034; omega⟩ (Nat.le_of_ble_eq_true rfl) dL_law_454 ?_
  refine zM_gate (out := x + 515) hC1 hR1 (by omega) (by omega) (fun J2 v9 hC2 hR2 e2 h0 hv => ?_)
  refine zr_istore6 X (by decide) rfl dL_law_457 ?_
  refine zr_tail X (r1 := (rGate S (zAr sv n 1) (zAr sv n 2)).1) (r2 := (rGate S (zAr sv n 1) (zAr sv n 2)).2) dL_law_459 dL_law_460 dL_law_463 dL_law_465 dL_law_470 dL_law_472 dL_law_475 dL_law_476 dL_law_477 dL_law_478 dL_law_480 dL_law_481 dL_law_482 dL_law_487 (by decide) rGate_le h0 hv (fun h => e2.trans (ho h)) ⟨by show cells + 2 ≤ 601000; omega, by show slots + 12 ≤ 7290000; omega⟩ ?_
  refine zr_forget (lv2 := [some (vr (sa 35) 53), some (vr x 7), some (vr (x + 501) 8), some (vr (x + 515) 17), some (vi (nI (6 * n))), none, none, none, none]) (fun j9 v9 h9 => by rcases j9 with _ | _ | _ | _ | _ | _ | _ | _ | _ | j9 <;> first | exact h9 | (simp at h9)) ?_
  refine zr_more (k := cells + 3) (n := slots + 18) (by show cells + 2 ≤ cells + 3; omega) (by show slots + 12 ≤ slots + 18; omega) ?_
  exact kk J2 (zLv.mk hC2 hR2 (hP.le (by omega)) (fun u hu => (hU u hu).le (by omega)))
set_option maxRecDepth 20000 in
theorem zl_c6 (X : zX p l e room_1 s m args below meth c RL cL_law 9 (some .boolean) D b0 tA sa sv) {x n : Nat} (hn : 6 * n + 6 ≤ sv 0) (hi : zLv x n I) (hf : cells ≤ 600000 ∧ slots ≤ 7280000)
    (kk : ∀ J : zI, zLv x (n + 1) J → zG p l e room_1 s m args below meth c 9 D b0 tA sa (cells + 3) (slots + 18) Q K 1710 [some (vr (sa 35) 53), some (vr x 7), some (vr (x + 501) 8), some (vr (x + 515) 17), some (vi (nI (6 * n))), none, none, none, none] [] J) : zG p l e room_1 s m args below meth c 9 D b0 tA sa cells slots Q K 490 [some (vr (sa 35) 53), some (vr x 7), some (vr (x + 501) 8), some (vr (x + 515) 17), some (vi (nI (6 * n))), none, none, none, none] [] I := by
  obtain ⟨t, f, er, S, U, hC, hR, hP, hU⟩ := hi
  refine zr_aload1 X dL_law_490 ?_
  refine zr_S X (n := n) (k := 1) hn (by decide) dL_law_491 dL_law_492 dL_law_494 dL_law_495 dL_law_496 ?_
  refine zr_S X (n := n) (k := 2) hn (by decide) dL_law_497 dL_law_498 dL_law_500 dL_law_501 dL_law_502 ?_
  refine zr_aload3 X dL_law_503 ?_
  refine zr_callSX X zmh_117 (rm9 := zrm_L_card) (As := [vr x 7, vi (zAr sv n 1), vi (zAr sv n 2), vr (x + 515) 17]) (st := []) rfl rfl ⟨by decide, Nat.le_of_ble_eq_true rfl⟩ ⟨by show cells + 2 ≤ 601024; omega, by show slots + 12 ≤ 7293034; omega⟩ (Nat.le_of_ble_eq_true rfl) dL_law_504 ?_
  refine zL_card (y := x + 501) hC hR (by omega) (by omega) (fun J1 hC1 hR1 ho => ?_)
  refine zr_istore5 X (by decide) rfl dL_law_507 ?_
  refine zr_aload2 X dL_law_509 ?_
  refine zr_S X (n := n) (k := 1) hn (by decide) dL_law_510 dL_law_511 dL_law_513 dL_law_514 dL_law_515 ?_
  refine zr_S X (n := n) (k := 2) hn (by decide) dL_law_516 dL_law_517 dL_law_519 dL_law_520 dL_law_521 ?_
  refine zr_callVQ X zm_L_119 (rm9 := zrm_X8_card) (As := [vi (zAr sv n 1), vi (zAr sv n 2)]) (st := []) rfl rfl ⟨by decide, Nat.le_of_ble_eq_true rfl⟩ ⟨by show cells + 2 ≤ 601024; omega, by show slots + 12 ≤ 7293034; omega⟩ (Nat.le_of_ble_eq_true rfl) dL_law_522 ?_
  refine zM_card (out := x + 515) hC1 hR1 (by omega) (by omega) (fun J2 v9 hC2 hR2 e2 h0 hv => ?_)
  refine zr_istore6 X (by decide) rfl dL_law_525 ?_
  refine zr_tail X (r1 := (rCard S (zAr sv n 1) (zAr sv n 2)).1) (r2 := (rCard S (zAr sv n 1) (zAr sv n 2)).2) dL_law_527 dL_law_528 dL_law_531 dL_law_533 dL_law_538 dL_law_540 dL_law_543 dL_law_544 dL_law_545 dL_law_546 dL_law_548 dL_law_549 dL_law_550 dL_law_555 (by decide) rCard_le h0 hv (fun h => e2.trans (ho h)) ⟨by show cells + 2 ≤ 601000; omega, by show slots + 12 ≤ 7290000; omega⟩ ?_
  refine zr_forget (lv2 := [some (vr (sa 35) 53), some (vr x 7), some (vr (x + 501) 8), some (vr (x + 515) 17), some (vi (nI (6 * n))), none, none, none, none]) (fun j9 v9 h9 => by rcases j9 with _ | _ | _ | _ | _ | _ | _ | _ | _ | j9 <;> first | exact h9 | (simp at h9)) ?_
  refine zr_more (k := cells + 3) (n := slots + 18) (by show cells + 2 ≤ cells + 3; omega) (by show slots + 12 ≤ slots + 18; omega) ?_
  exact kk J2 (zLv.mk hC2 hR2 (hP.le (by omega)) (fun u hu => (hU u hu).le (by omega)))
set_option maxRecDepth 20000 in
theorem zl_c7 (X : zX p l e room_1 s m args below meth c RL cL_law 9 (some .boolean) D b0 tA sa sv) {x n : Nat} (hn : 6 * n + 6 ≤ sv 0) (hi : zLv x n I) (hf : cells ≤ 600000 ∧ slots ≤ 7280000)
    (kk : ∀ J : zI, zLv x (n + 1) J → zG p l e room_1 s m args below meth c 9 D b0 tA sa (cells + 3) (slots + 18) Q K 1710 [some (vr (sa 35) 53), some (vr x 7), some (vr (x + 501) 8), some (vr (x + 515) 17), some (vi (nI (6 * n))), none, none, none, none] [] J) : zG p l e room_1 s m args below meth c 9 D b0 tA sa cells slots Q K 558 [some (vr (sa 35) 53), some (vr x 7), some (vr (x + 501) 8), some (vr (x + 515) 17), some (vi (nI (6 * n))), none, none, none, none] [] I := by
  obtain ⟨t, f, er, S, U, hC, hR, hP, hU⟩ := hi
  refine zr_aload1 X dL_law_558 ?_
  refine zr_S X (n := n) (k := 1) hn (by decide) dL_law_559 dL_law_560 dL_law_562 dL_law_563 dL_law_564 ?_
  refine zr_S X (n := n) (k := 2) hn (by decide) dL_law_565 dL_law_566 dL_law_568 dL_law_569 dL_law_570 ?_
  refine zr_S X (n := n) (k := 3) hn (by decide) dL_law_571 dL_law_572 dL_law_574 dL_law_575 dL_law_576 ?_
  refine zr_aload3 X dL_law_577 ?_
  refine zr_callSX X zmh_120 (rm9 := zrm_L_inLine) (As := [vr x 7, vi (zAr sv n 1), vi (zAr sv n 2), vi (zAr sv n 3), vr (x + 515) 17]) (st := []) rfl rfl ⟨by decide, Nat.le_of_ble_eq_true rfl⟩ ⟨by show cells + 3 ≤ 601024; omega, by show slots + 18 ≤ 7293034; omega⟩ (Nat.le_of_ble_eq_true rfl) dL_law_578 ?_
  refine zL_inLine (y := x + 501) hC hR (by omega) (by omega) (fun J1 hC1 hR1 ho => ?_)
  refine zr_istore5 X (by decide) rfl dL_law_581 ?_
  refine zr_aload2 X dL_law_583 ?_
  refine zr_S X (n := n) (k := 1) hn (by decide) dL_law_584 dL_law_585 dL_law_587 dL_law_588 dL_law_589 ?_
  refine zr_S X (n := n) (k := 2) hn (by decide) dL_law_590 dL_law_591 dL_law_593 dL_law_594 dL_law_595 ?_
  refine zr_S X (n := n) (k := 3) hn (by decide) dL_law_596 dL_law_597 dL_law_599 dL_law_600 dL_law_601 ?_
  refine zr_callVQ X zm_L_123 (rm9 := zrm_X8_inLine) (As := [vi (zAr sv n 1), vi (zAr sv n 2), vi (zAr sv n 3)]) (st := []) rfl rfl ⟨by decide, Nat.le_of_ble_eq_true rfl⟩ ⟨by show cells + 3 ≤ 601024; omega, by show slots + 18 ≤ 7293034; omega⟩ (Nat.le_of_ble_eq_true rfl) dL_law_602 ?_
  refine zM_inLine (out := x + 515) hC1 hR1 (by omega) (by omega) (fun J2 v9 hC2 hR2 e2 h0 hv => ?_)
  refine zr_istore6 X (by decide) rfl dL_law_605 ?_
  refine zr_tail X (r1 := (rInLine S (zAr sv n 1) (zAr sv n 2) (zAr sv n 3)).1) (r2 := (rInLine S (zAr sv n 1) (zAr sv n 2) (zAr sv n 3)).2) dL_law_607 dL_law_608 dL_law_611 dL_law_613 dL_law_618 dL_law_620 dL_law_623 dL_law_624 dL_law_625 dL_law_626 dL_law_628 dL_law_629 dL_law_630 dL_law_635 (by decide) rInLine_le h0 hv (fun h => e2.trans (ho h)) ⟨by show cells + 3 ≤ 601000; omega, by show slots + 18 ≤ 7290000; omega⟩ ?_
  refine zr_forget (lv2 := [some (vr (sa 35) 53), some (vr x 7), some (vr (x + 501) 8), some (vr (x + 515) 17), some (vi (nI (6 * n))), none, none, none, none]) (fun j9 v9 h9 => by rcases j9 with _ | _ | _ | _ | _ | _ | _ | _ | _ | j9 <;> first | exact h9 | (simp at h9)) ?_
  refine zr_more (k := cells + 3) (n := slots + 18) (by show cells + 3 ≤ cells + 3; omega) (by show slots + 18 ≤ slots + 18; omega) ?_
  exact kk J2 (zLv.mk hC2 hR2 (hP.le (by omega)) (fun u hu => (hU u hu).le (by omega)))
set_option maxRecDepth 20000 in
theorem zl_c8 (X : zX p l e room_1 s m args below meth c RL cL_law 9 (some .boolean) D b0 tA sa sv) {x n : Nat} (hn : 6 * n + 6 ≤ sv 0) (hi : zLv x n I) (hf : cells ≤ 600000 ∧ slots ≤ 7280000)
    (kk : ∀ J : zI, zLv x (n + 1) J → zG p l e room_1 s m args below meth c 9 D b0 tA sa (cells + 3) (slots + 18) Q K 1710 [some (vr (sa 35) 53), some (vr x 7), some (vr (x + 501) 8), some (vr (x + 515) 17), some (vi (nI (6 * n))), none, none, none, none] [] J) : zG p l e room_1 s m args below meth c 9 D b0 tA sa cells slots Q K 638 [some (vr (sa 35) 53), some (vr x 7), some (vr (x + 501) 8), some (vr (x + 515) 17), some (vi (nI (6 * n))), none, none, none, none] [] I := by
  obtain ⟨t, f, er, S, U, hC, hR, hP, hU⟩ := hi
  refine zr_aload1 X dL_law_638 ?_
  refine zr_S X (n := n) (k := 1) hn (by decide) dL_law_639 dL_law_640 dL_law_642 dL_law_643 dL_law_644 ?_
  refine zr_S X (n := n) (k := 2) hn (by decide) dL_law_645 dL_law_646 dL_law_648 dL_law_649 dL_law_650 ?_
  refine zr_aload3 X dL_law_651 ?_
  refine zr_callSX X zmh_124 (rm9 := zrm_L_why) (As := [vr x 7, vi (zAr sv n 1), vi (zAr sv n 2), vr (x + 515) 17]) (st := []) rfl rfl ⟨by decide, Nat.le_of_ble_eq_true rfl⟩ ⟨by show cells + 2 ≤ 601024; omega, by show slots + 12 ≤ 7293034; omega⟩ (Nat.le_of_ble_eq_true rfl) dL_law_652 ?_
  refine zL_why (y := x + 501) hC hR (by omega) (by omega) (fun J1 hC1 hR1 ho => ?_)
  refine zr_istore5 X (by decide) rfl dL_law_655 ?_
  refine zr_aload2 X dL_law_657 ?_
  refine zr_S X (n := n) (k := 1) hn (by decide) dL_law_658 dL_law_659 dL_law_661 dL_law_662 dL_law_663 ?_
  refine zr_S X (n := n) (k := 2) hn (by decide) dL_law_664 dL_law_665 dL_law_667 dL_law_668 dL_law_669 ?_
  refine zr_callVQ X zm_L_126 (rm9 := zrm_X8_why) (As := [vi (zAr sv n 1), vi (zAr sv n 2)]) (st := []) rfl rfl ⟨by decide, Nat.le_of_ble_eq_true rfl⟩ ⟨by show cells + 2 ≤ 601024; omega, by show slots + 12 ≤ 7293034; omega⟩ (Nat.le_of_ble_eq_true rfl) dL_law_670 ?_
  refine zM_why (out := x + 515) hC1 hR1 (by omega) (by omega) (fun J2 v9 hC2 hR2 e2 h0 hv => ?_)
  refine zr_istore6 X (by decide) rfl dL_law_673 ?_
  refine zr_tail X (r1 := (rWhy S (zAr sv n 1) (zAr sv n 2)).1) (r2 := (rWhy S (zAr sv n 1) (zAr sv n 2)).2) dL_law_675 dL_law_676 dL_law_679 dL_law_681 dL_law_686 dL_law_688 dL_law_691 dL_law_692 dL_law_693 dL_law_694 dL_law_696 dL_law_697 dL_law_698 dL_law_703 (by decide) rWhy_le h0 hv (fun h => e2.trans (ho h)) ⟨by show cells + 2 ≤ 601000; omega, by show slots + 12 ≤ 7290000; omega⟩ ?_
  refine zr_forget (lv2 := [some (vr (sa 35) 53), some (vr x 7), some (vr (x + 501) 8), some (vr (x + 515) 17), some (vi (nI (6 * n))), none, none, none, none]) (fun j9 v9 h9 => by rcases j9 with _ | _ | _ | _ | _ | _ | _ | _ | _ | j9 <;> first | exact h9 | (simp at h9)) ?_
  refine zr_more (k := cells + 3) (n := slots + 18) (by show cells + 2 ≤ cells + 3; omega) (by show slots + 12 ≤ slots + 18; omega) ?_
  exact kk J2 (zLv.mk hC2 hR2 (hP.le (by omega)) (fun u hu => (hU u hu).le (by omega)))
set_option maxRecDepth 20000 in
theorem zl_c9 (X : zX p l e room_1 s m args below meth c RL cL_law 9 (some .boolean) D b0 tA sa sv) {x n : Nat} (hn : 6 * n + 6 ≤ sv 0) (hi : zLv x n I) (hf : cells ≤ 600000 ∧ slots ≤ 7280000)
    (kk : ∀ J : zI, zLv x (n + 1) J → zG p l e room_1 s m args below meth c 9 D b0 tA sa (cells + 3) (slots + 18) Q K 1710 [some (vr (sa 35) 53), some (vr x 7), some (vr (x + 501) 8), some (vr (x + 515) 17), some (vi (nI (6 * n))), none, none, none, none] [] J) : zG p l e room_1 s m args below meth c 9 D b0 tA sa cells slots Q K 706 [some (vr (sa 35) 53), some (vr x 7), some (vr (x + 501) 8), some (vr (x + 515) 17), some (vi (nI (6 * n))), none, none, none, none] [] I := by
  obtain ⟨t, f, er, S, U, hC, hR, hP, hU⟩ := hi
  refine zr_aload1 X dL_law_706 ?_
  refine zr_S X (n := n) (k := 1) hn (by decide) dL_law_707 dL_law_708 dL_law_710 dL_law_711 dL_law_712 ?_
  refine zr_S X (n := n) (k := 2) hn (by decide) dL_law_713 dL_law_714 dL_law_716 dL_law_717 dL_law_718 ?_
  refine zr_S X (n := n) (k := 3) hn (by decide) dL_law_719 dL_law_720 dL_law_722 dL_law_723 dL_law_724 ?_
  refine zr_aload3 X dL_law_725 ?_
  refine zr_callSX X zmh_127 (rm9 := zrm_L_whyNotJoin) (As := [vr x 7, vi (zAr sv n 1), vi (zAr sv n 2), vi (zAr sv n 3), vr (x + 515) 17]) (st := []) rfl rfl ⟨by decide, Nat.le_of_ble_eq_true rfl⟩ ⟨by show cells + 3 ≤ 601024; omega, by show slots + 18 ≤ 7293034; omega⟩ (Nat.le_of_ble_eq_true rfl) dL_law_726 ?_
  refine zL_whyNotJoin (y := x + 501) hC hR (by omega) (by omega) (fun J1 hC1 hR1 ho => ?_)
  refine zr_istore5 X (by decide) rfl dL_law_729 ?_
  refine zr_aload2 X dL_law_731 ?_
  refine zr_S X (n := n) (k := 1) hn (by decide) dL_law_732 dL_law_733 dL_law_735 dL_law_736 dL_law_737 ?_
  refine zr_S X (n := n) (k := 2) hn (by decide) dL_law_738 dL_law_739 dL_law_741 dL_law_742 dL_law_743 ?_
  refine zr_S X (n := n) (k := 3) hn (by decide) dL_law_744 dL_law_745 dL_law_747 dL_law_748 dL_law_749 ?_
  refine zr_callVQ X zm_L_129 (rm9 := zrm_X8_whyNotJoin) (As := [vi (zAr sv n 1), vi (zAr sv n 2), vi (zAr sv n 3)]) (st := []) rfl rfl ⟨by decide, Nat.le_of_ble_eq_true rfl⟩ ⟨by show cells + 3 ≤ 601024; omega, by show slots + 18 ≤ 7293034; omega⟩ (Nat.le_of_ble_eq_true rfl) dL_law_750 ?_
  refine zM_whyNotJoin (out := x + 515) hC1 hR1 (by omega) (by omega) (fun J2 v9 hC2 hR2 e2 h0 hv => ?_)
  refine zr_istore6 X (by decide) rfl dL_law_753 ?_
  refine zr_tail X (r1 := (rWhyJoin S (zAr sv n 1) (zAr sv n 2) (zAr sv n 3)).1) (r2 := (rWhyJoin S (zAr sv n 1) (zAr sv n 2) (zAr sv n 3)).2) dL_law_755 dL_law_756 dL_law_759 dL_law_761 dL_law_766 dL_law_768 dL_law_771 dL_law_772 dL_law_773 dL_law_774 dL_law_776 dL_law_777 dL_law_778 dL_law_783 (by decide) rWhyJoin_le h0 hv (fun h => e2.trans (ho h)) ⟨by show cells + 3 ≤ 601000; omega, by show slots + 18 ≤ 7290000; omega⟩ ?_
  refine zr_forget (lv2 := [some (vr (sa 35) 53), some (vr x 7), some (vr (x + 501) 8), some (vr (x + 515) 17), some (vi (nI (6 * n))), none, none, none, none]) (fun j9 v9 h9 => by rcases j9 with _ | _ | _ | _ | _ | _ | _ | _ | _ | j9 <;> first | exact h9 | (simp at h9)) ?_
  refine zr_more (k := cells + 3) (n := slots + 18) (by show cells + 3 ≤ cells + 3; omega) (by show slots + 18 ≤ slots + 18; omega) ?_
  exact kk J2 (zLv.mk hC2 hR2 (hP.le (by omega)) (fun u hu => (hU u hu).le (by omega)))
set_option maxRecDepth 20000 in
theorem zl_c10 (X : zX p l e room_1 s m args below meth c RL cL_law 9 (some .boolean) D b0 tA sa sv) {x n : Nat} (hn : 6 * n + 6 ≤ sv 0) (hi : zLv x n I) (hf : cells ≤ 600000 ∧ slots ≤ 7280000)
    (kk : ∀ J : zI, zLv x (n + 1) J → zG p l e room_1 s m args below meth c 9 D b0 tA sa (cells + 3) (slots + 18) Q K 1710 [some (vr (sa 35) 53), some (vr x 7), some (vr (x + 501) 8), some (vr (x + 515) 17), some (vi (nI (6 * n))), none, none, none, none] [] J) : zG p l e room_1 s m args below meth c 9 D b0 tA sa cells slots Q K 786 [some (vr (sa 35) 53), some (vr x 7), some (vr (x + 501) 8), some (vr (x + 515) 17), some (vi (nI (6 * n))), none, none, none, none] [] I := by
  obtain ⟨t, f, er, S, U, hC, hR, hP, hU⟩ := hi
  refine zr_aload1 X dL_law_786 ?_
  refine zr_S X (n := n) (k := 1) hn (by decide) dL_law_787 dL_law_788 dL_law_790 dL_law_791 dL_law_792 ?_
  refine zr_aload3 X dL_law_793 ?_
  refine zr_callSX X zmh_130 (rm9 := zrm_L_bestGate) (As := [vr x 7, vi (zAr sv n 1), vr (x + 515) 17]) (st := []) rfl rfl ⟨by decide, Nat.le_of_ble_eq_true rfl⟩ ⟨by show cells + 1 ≤ 601024; omega, by show slots + 6 ≤ 7293034; omega⟩ (Nat.le_of_ble_eq_true rfl) dL_law_794 ?_
  refine zL_bestGate (y := x + 501) hC hR (by omega) (by omega) (fun J1 hC1 hR1 ho => ?_)
  refine zr_istore5 X (by decide) rfl dL_law_797 ?_
  refine zr_aload2 X dL_law_799 ?_
  refine zr_S X (n := n) (k := 1) hn (by decide) dL_law_800 dL_law_801 dL_law_803 dL_law_804 dL_law_805 ?_
  refine zr_callVQ X zm_L_132 (rm9 := zrm_X8_bestGate) (As := [vi (zAr sv n 1)]) (st := []) rfl rfl ⟨by decide, Nat.le_of_ble_eq_true rfl⟩ ⟨by show cells + 1 ≤ 601024; omega, by show slots + 6 ≤ 7293034; omega⟩ (Nat.le_of_ble_eq_true rfl) dL_law_806 ?_
  refine zM_bestGate (out := x + 515) hC1 hR1 (by omega) (by omega) (fun J2 v9 hC2 hR2 e2 h0 hv => ?_)
  refine zr_istore6 X (by decide) rfl dL_law_809 ?_
  refine zr_tail X (r1 := (rBest S (zAr sv n 1)).1) (r2 := (rBest S (zAr sv n 1)).2) dL_law_811 dL_law_812 dL_law_815 dL_law_817 dL_law_822 dL_law_824 dL_law_827 dL_law_828 dL_law_829 dL_law_830 dL_law_832 dL_law_833 dL_law_834 dL_law_839 (by decide) rBest_le h0 hv (fun h => e2.trans (ho h)) ⟨by show cells + 1 ≤ 601000; omega, by show slots + 6 ≤ 7290000; omega⟩ ?_
  refine zr_forget (lv2 := [some (vr (sa 35) 53), some (vr x 7), some (vr (x + 501) 8), some (vr (x + 515) 17), some (vi (nI (6 * n))), none, none, none, none]) (fun j9 v9 h9 => by rcases j9 with _ | _ | _ | _ | _ | _ | _ | _ | _ | j9 <;> first | exact h9 | (simp at h9)) ?_
  refine zr_more (k := cells + 3) (n := slots + 18) (by show cells + 1 ≤ cells + 3; omega) (by show slots + 6 ≤ slots + 18; omega) ?_
  exact kk J2 (zLv.mk hC2 hR2 (hP.le (by omega)) (fun u hu => (hU u hu).le (by omega)))
set_option maxRecDepth 20000 in
theorem zl_c11 (X : zX p l e room_1 s m args below meth c RL cL_law 9 (some .boolean) D b0 tA sa sv) {x n : Nat} (hn : 6 * n + 6 ≤ sv 0) (hi : zLv x n I) (hf : cells ≤ 600000 ∧ slots ≤ 7280000)
    (kk : ∀ J : zI, zLv x (n + 1) J → zG p l e room_1 s m args below meth c 9 D b0 tA sa (cells + 3) (slots + 18) Q K 1710 [some (vr (sa 35) 53), some (vr x 7), some (vr (x + 501) 8), some (vr (x + 515) 17), some (vi (nI (6 * n))), none, none, none, none] [] J) : zG p l e room_1 s m args below meth c 9 D b0 tA sa cells slots Q K 842 [some (vr (sa 35) 53), some (vr x 7), some (vr (x + 501) 8), some (vr (x + 515) 17), some (vi (nI (6 * n))), none, none, none, none] [] I := by
  obtain ⟨t, f, er, S, U, hC, hR, hP, hU⟩ := hi
  refine zr_aload1 X dL_law_842 ?_
  refine zr_S X (n := n) (k := 1) hn (by decide) dL_law_843 dL_law_844 dL_law_846 dL_law_847 dL_law_848 ?_
  refine zr_aload3 X dL_law_849 ?_
  refine zr_callSX X zmh_133 (rm9 := zrm_L_nextSide) (As := [vr x 7, vi (zAr sv n 1), vr (x + 515) 17]) (st := []) rfl rfl ⟨by decide, Nat.le_of_ble_eq_true rfl⟩ ⟨by show cells + 1 ≤ 601024; omega, by show slots + 6 ≤ 7293034; omega⟩ (Nat.le_of_ble_eq_true rfl) dL_law_850 ?_
  refine zL_nextSide (y := x + 501) hC hR (by omega) (by omega) (fun J1 hC1 hR1 ho => ?_)
  refine zr_istore5 X (by decide) rfl dL_law_853 ?_
  refine zr_aload2 X dL_law_855 ?_
  refine zr_S X (n := n) (k := 1) hn (by decide) dL_law_856 dL_law_857 dL_law_859 dL_law_860 dL_law_861 ?_
  refine zr_callVQ X zm_L_135 (rm9 := zrm_X8_nextSide) (As := [vi (zAr sv n 1)]) (st := []) rfl rfl ⟨by decide, Nat.le_of_ble_eq_true rfl⟩ ⟨by show cells + 1 ≤ 601024; omega, by show slots + 6 ≤ 7293034; omega⟩ (Nat.le_of_ble_eq_true rfl) dL_law_862 ?_
  refine zM_nextSide (out := x + 515) hC1 hR1 (by omega) (by omega) (fun J2 v9 hC2 hR2 e2 h0 hv => ?_)
  refine zr_istore6 X (by decide) rfl dL_law_865 ?_
  refine zr_tail X (r1 := (rNext S (zAr sv n 1)).1) (r2 := (rNext S (zAr sv n 1)).2) dL_law_867 dL_law_868 dL_law_871 dL_law_873 dL_law_878 dL_law_880 dL_law_883 dL_law_884 dL_law_885 dL_law_886 dL_law_888 dL_law_889 dL_law_890 dL_law_895 (by decide) rNext_le h0 hv (fun h => e2.trans (ho h)) ⟨by show cells + 1 ≤ 601000; omega, by show slots + 6 ≤ 7290000; omega⟩ ?_
  refine zr_forget (lv2 := [some (vr (sa 35) 53), some (vr x 7), some (vr (x + 501) 8), some (vr (x + 515) 17), some (vi (nI (6 * n))), none, none, none, none]) (fun j9 v9 h9 => by rcases j9 with _ | _ | _ | _ | _ | _ | _ | _ | _ | j9 <;> first | exact h9 | (simp at h9)) ?_
  refine zr_more (k := cells + 3) (n := slots + 18) (by show cells + 1 ≤ cells + 3; omega) (by show slots + 6 ≤ slots + 18; omega) ?_
  exact kk J2 (zLv.mk hC2 hR2 (hP.le (by omega)) (fun u hu => (hU u hu).le (by omega)))
set_option maxRecDepth 20000 in
theorem zl_c12 (X : zX p l e room_1 s m args below meth c RL cL_law 9 (some .boolean) D b0 tA sa sv) {x n : Nat} (hn : 6 * n + 6 ≤ sv 0) (hi : zLv x n I) (hf : cells ≤ 600000 ∧ slots ≤ 7280000)
    (kk : ∀ J : zI, zLv x (n + 1) J → zG p l e room_1 s m args below meth c 9 D b0 tA sa (cells + 3) (slots + 18) Q K 1710 [some (vr (sa 35) 53), some (vr x 7), some (vr (x + 501) 8), some (vr (x + 515) 17), some (vi (nI (6 * n))), none, none, none, none] [] J) : zG p l e room_1 s m args below meth c 9 D b0 tA sa cells slots Q K 898 [some (vr (sa 35) 53), some (vr x 7), some (vr (x + 501) 8), some (vr (x + 515) 17), some (vi (nI (6 * n))), none, none, none, none] [] I := by
  obtain ⟨t, f, er, S, U, hC, hR, hP, hU⟩ := hi
  refine zr_aload1 X dL_law_898 ?_
  refine zr_S X (n := n) (k := 1) hn (by decide) dL_law_899 dL_law_900 dL_law_902 dL_law_903 dL_law_904 ?_
  refine zr_aload3 X dL_law_905 ?_
  refine zr_callSX X zmh_136 (rm9 := zrm_L_throughIn) (As := [vr x 7, vi (zAr sv n 1), vr (x + 515) 17]) (st := []) rfl rfl ⟨by decide, Nat.le_of_ble_eq_true rfl⟩ ⟨by show cells + 1 ≤ 601024; omega, by show slots + 6 ≤ 7293034; omega⟩ (Nat.le_of_ble_eq_true rfl) dL_law_906 ?_
  refine zL_throughIn (y := x + 501) hC hR (by omega) (by omega) (fun J1 hC1 hR1 ho => ?_)
  refine zr_istore5 X (by decide) rfl dL_law_909 ?_
  refine zr_aload2 X dL_law_911 ?_
  refine zr_S X (n := n) (k := 1) hn (by decide) dL_law_912 dL_law_913 dL_law_915 dL_law_916 dL_law_917 ?_
  refine zr_callVQ X zm_L_138 (rm9 := zrm_X8_throughIn) (As := [vi (zAr sv n 1)]) (st := []) rfl rfl ⟨by decide, Nat.le_of_ble_eq_true rfl⟩ ⟨by show cells + 1 ≤ 601024; omega, by show slots + 6 ≤ 7293034; omega⟩ (Nat.le_of_ble_eq_true rfl) dL_law_918 ?_
  refine zM_throughIn (out := x + 515) hC1 hR1 (by omega) (by omega) (fun c9 => by
    obtain ⟨k, k1, k2⟩ := hP c9
    have h3 := X.2.2.2.2.2.2.1.2.2.2.2.2.2.2.2.2.2.2.2.2
    exact ⟨k, by omega, k2⟩) (fun J2 v9 hC2 hR2 e2 h0 hv => ?_)
  refine zr_istore6 X (by decide) rfl dL_law_921 ?_
  refine zr_tail X (r1 := (rThrough S (zAr sv n 1)).1) (r2 := (rThrough S (zAr sv n 1)).2) dL_law_923 dL_law_924 dL_law_927 dL_law_929 dL_law_934 dL_law_936 dL_law_939 dL_law_940 dL_law_941 dL_law_942 dL_law_944 dL_law_945 dL_law_946 dL_law_951 (by decide) rThrough_le h0 hv (fun h => e2.trans (ho h)) ⟨by show cells + 1 ≤ 601000; omega, by show slots + 6 ≤ 7290000; omega⟩ ?_
  refine zr_forget (lv2 := [some (vr (sa 35) 53), some (vr x 7), some (vr (x + 501) 8), some (vr (x + 515) 17), some (vi (nI (6 * n))), none, none, none, none]) (fun j9 v9 h9 => by rcases j9 with _ | _ | _ | _ | _ | _ | _ | _ | _ | j9 <;> first | exact h9 | (simp at h9)) ?_
  refine zr_more (k := cells + 3) (n := slots + 18) (by show cells + 1 ≤ cells + 3; omega) (by show slots + 6 ≤ slots + 18; omega) ?_
  exact kk J2 (zLv.mk hC2 hR2 (hP.le (by omega)) (fun u hu => (hU u hu).le (by omega)))
set_option maxRecDepth 20000 in
theorem zl_c13 (X : zX p l e room_1 s m args below meth c RL cL_law 9 (some .boolean) D b0 tA sa sv) {x n : Nat} (hn : 6 * n + 6 ≤ sv 0) (hi : zLv x n I) (hf : cells ≤ 600000 ∧ slots ≤ 7280000)
    (kk : ∀ J : zI, zLv x (n + 1) J → zG p l e room_1 s m args below meth c 9 D b0 tA sa (cells + 3) (slots + 18) Q K 1710 [some (vr (sa 35) 53), some (vr x 7), some (vr (x + 501) 8), some (vr (x + 515) 17), some (vi (nI (6 * n))), none, none, none, none] [] J) : zG p l e room_1 s m args below meth c 9 D b0 tA sa cells slots Q K 954 [some (vr (sa 35) 53), some (vr x 7), some (vr (x + 501) 8), some (vr (x + 515) 17), some (vi (nI (6 * n))), none, none, none, none] [] I := by
  obtain ⟨t, f, er, S, U, hC, hR, hP, hU⟩ := hi
  refine zr_aload1 X dL_law_954 ?_
  refine zr_S X (n := n) (k := 1) hn (by decide) dL_law_955 dL_law_956 dL_law_958 dL_law_959 dL_law_960 ?_
  refine zr_aload3 X dL_law_961 ?_
  refine zr_callSX X zmh_139 (rm9 := zrm_L_insideIn) (As := [vr x 7, vi (zAr sv n 1), vr (x + 515) 17]) (st := []) rfl rfl ⟨by decide, Nat.le_of_ble_eq_true rfl⟩ ⟨by show cells + 1 ≤ 601024; omega, by show slots + 6 ≤ 7293034; omega⟩ (Nat.le_of_ble_eq_true rfl) dL_law_962 ?_
  refine zL_insideIn (y := x + 501) hC hR (by omega) (by omega) (fun J1 hC1 hR1 ho => ?_)
  refine zr_istore5 X (by decide) rfl dL_law_965 ?_
  refine zr_aload2 X dL_law_967 ?_
  refine zr_S X (n := n) (k := 1) hn (by decide) dL_law_968 dL_law_969 dL_law_971 dL_law_972 dL_law_973 ?_
  refine zr_callVQ X zm_L_141 (rm9 := zrm_X8_insideIn) (As := [vi (zAr sv n 1)]) (st := []) rfl rfl ⟨by decide, Nat.le_of_ble_eq_true rfl⟩ ⟨by show cells + 1 ≤ 601024; omega, by show slots + 6 ≤ 7293034; omega⟩ (Nat.le_of_ble_eq_true rfl) dL_law_974 ?_
  refine zM_insideIn (out := x + 515) hC1 hR1 (by omega) (by omega) (fun J2 v9 hC2 hR2 e2 h0 hv => ?_)
  refine zr_istore6 X (by decide) rfl dL_law_977 ?_
  refine zr_tail X (r1 := (rInside S (zAr sv n 1)).1) (r2 := (rInside S (zAr sv n 1)).2) dL_law_979 dL_law_980 dL_law_983 dL_law_985 dL_law_990 dL_law_992 dL_law_995 dL_law_996 dL_law_997 dL_law_998 dL_law_1000 dL_law_1001 dL_law_1002 dL_law_1007 (by decide) rInside_le h0 hv (fun h => e2.trans (ho h)) ⟨by show cells + 1 ≤ 601000; omega, by show slots + 6 ≤ 7290000; omega⟩ ?_
  refine zr_forget (lv2 := [some (vr (sa 35) 53), some (vr x 7), some (vr (x + 501) 8), some (vr (x + 515) 17), some (vi (nI (6 * n))), none, none, none, none]) (fun j9 v9 h9 => by rcases j9 with _ | _ | _ | _ | _ | _ | _ | _ | _ | j9 <;> first | exact h9 | (simp at h9)) ?_
  refine zr_more (k := cells + 3) (n := slots + 18) (by show cells + 1 ≤ cells + 3; omega) (by show slots + 6 ≤ slots + 18; omega) ?_
  exact kk J2 (zLv.mk hC2 hR2 (hP.le (by omega)) (fun u hu => (hU u hu).le (by omega)))
set_option maxRecDepth 20000 in
theorem zl_c14 (X : zX p l e room_1 s m args below meth c RL cL_law 9 (some .boolean) D b0 tA sa sv) {x n : Nat} (hn : 6 * n + 6 ≤ sv 0) (hi : zLv x n I) (hf : cells ≤ 600000 ∧ slots ≤ 7280000)
    (kk : ∀ J : zI, zLv x (n + 1) J → zG p l e room_1 s m args below meth c 9 D b0 tA sa (cells + 3) (slots + 18) Q K 1710 [some (vr (sa 35) 53), some (vr x 7), some (vr (x + 501) 8), some (vr (x + 515) 17), some (vi (nI (6 * n))), none, none, none, none] [] J) : zG p l e room_1 s m args below meth c 9 D b0 tA sa cells slots Q K 1010 [some (vr (sa 35) 53), some (vr x 7), some (vr (x + 501) 8), some (vr (x + 515) 17), some (vi (nI (6 * n))), none, none, none, none] [] I := by
  obtain ⟨t, f, er, S, U, hC, hR, hP, hU⟩ := hi
  refine zr_aload1 X dL_law_1010 ?_
  refine zr_S X (n := n) (k := 1) hn (by decide) dL_law_1011 dL_law_1012 dL_law_1014 dL_law_1015 dL_law_1016 ?_
  refine zr_aload3 X dL_law_1017 ?_
  refine zr_callSX X zmh_142 (rm9 := zrm_L_followersIn) (As := [vr x 7, vi (zAr sv n 1), vr (x + 515) 17]) (st := []) rfl rfl ⟨by decide, Nat.le_of_ble_eq_true rfl⟩ ⟨by show cells + 1 ≤ 601024; omega, by show slots + 6 ≤ 7293034; omega⟩ (Nat.le_of_ble_eq_true rfl) dL_law_1018 ?_
  refine zL_followersIn (y := x + 501) hC hR (by omega) (by omega) (fun J1 hC1 hR1 ho => ?_)
  refine zr_istore5 X (by decide) rfl dL_law_1021 ?_
  refine zr_aload2 X dL_law_1023 ?_
  refine zr_S X (n := n) (k := 1) hn (by decide) dL_law_1024 dL_law_1025 dL_law_1027 dL_law_1028 dL_law_1029 ?_
  refine zr_callVQ X zm_L_144 (rm9 := zrm_X8_followersIn) (As := [vi (zAr sv n 1)]) (st := []) rfl rfl ⟨by decide, Nat.le_of_ble_eq_true rfl⟩ ⟨by show cells + 1 ≤ 601024; omega, by show slots + 6 ≤ 7293034; omega⟩ (Nat.le_of_ble_eq_true rfl) dL_law_1030 ?_
  refine zM_followersIn (out := x + 515) hC1 hR1 (by omega) (by omega) (fun J2 v9 hC2 hR2 e2 h0 hv => ?_)
  refine zr_istore6 X (by decide) rfl dL_law_1033 ?_
  refine zr_tail X (r1 := (rFollow S (zAr sv n 1)).1) (r2 := (rFollow S (zAr sv n 1)).2) dL_law_1035 dL_law_1036 dL_law_1039 dL_law_1041 dL_law_1046 dL_law_1048 dL_law_1051 dL_law_1052 dL_law_1053 dL_law_1054 dL_law_1056 dL_law_1057 dL_law_1058 dL_law_1063 (by decide) rFollow_le h0 hv (fun h => e2.trans (ho h)) ⟨by show cells + 1 ≤ 601000; omega, by show slots + 6 ≤ 7290000; omega⟩ ?_
  refine zr_forget (lv2 := [some (vr (sa 35) 53), some (vr x 7), some (vr (x + 501) 8), some (vr (x + 515) 17), some (vi (nI (6 * n))), none, none, none, none]) (fun j9 v9 h9 => by rcases j9 with _ | _ | _ | _ | _ | _ | _ | _ | _ | j9 <;> first | exact h9 | (simp at h9)) ?_
  refine zr_more (k := cells + 3) (n := slots + 18) (by show cells + 1 ≤ cells + 3; omega) (by show slots + 6 ≤ slots + 18; omega) ?_
  exact kk J2 (zLv.mk hC2 hR2 (hP.le (by omega)) (fun u hu => (hU u hu).le (by omega)))
set_option maxRecDepth 20000 in
theorem zl_c15 (X : zX p l e room_1 s m args below meth c RL cL_law 9 (some .boolean) D b0 tA sa sv) {x n : Nat} (hn : 6 * n + 6 ≤ sv 0) (hi : zLv x n I) (hf : cells ≤ 600000 ∧ slots ≤ 7280000)
    (kk : ∀ J : zI, zLv x (n + 1) J → zG p l e room_1 s m args below meth c 9 D b0 tA sa (cells + 3) (slots + 18) Q K 1710 [some (vr (sa 35) 53), some (vr x 7), some (vr (x + 501) 8), some (vr (x + 515) 17), some (vi (nI (6 * n))), none, none, none, none] [] J) : zG p l e room_1 s m args below meth c 9 D b0 tA sa cells slots Q K 1066 [some (vr (sa 35) 53), some (vr x 7), some (vr (x + 501) 8), some (vr (x + 515) 17), some (vi (nI (6 * n))), none, none, none, none] [] I := by
  obtain ⟨t, f, er, S, U, hC, hR, hP, hU⟩ := hi
  refine zr_aload1 X dL_law_1066 ?_
  refine zr_callVQ X zm_L_145 (rm9 := zrm_X7_outInPanic) (As := []) (st := []) rfl rfl ⟨by decide, Nat.le_of_ble_eq_true rfl⟩ ⟨by show cells + 0 ≤ 601024; omega, by show slots + 0 ≤ 7293034; omega⟩ (Nat.le_of_ble_eq_true rfl) dL_law_1067 ?_
  refine zq_X7_outInPanic hC ?_
  refine zr_aload2 X dL_law_1070 ?_
  refine zr_callVQ X zm_L_148 (rm9 := zrm_X8_outInPanic) (As := []) (st := [vi (nI (qOut S))]) rfl rfl ⟨by decide, Nat.le_of_ble_eq_true rfl⟩ ⟨by show cells + 0 ≤ 601024; omega, by show slots + 0 ≤ 7293034; omega⟩ (Nat.le_of_ble_eq_true rfl) dL_law_1071 ?_
  refine zM_outInPanic (out := x + 515) hC hR (by omega) (by omega) (fun J2 hC2 hR2 => ?_)
  refine zr_icmp_eq (st := []) (tgt := 1710) X dL_law_1074 (by decide) (fun _ => ?_) (fun h => absurd rfl h)
  refine zr_more (k := cells + 3) (n := slots + 18) (by show cells + 0 ≤ cells + 3; omega) (by show slots + 0 ≤ slots + 18; omega) ?_
  exact kk J2 (zLv.mk hC2 hR2 (hP.le (by omega)) (fun u hu => (hU u hu).le (by omega)))
set_option maxRecDepth 20000 in
theorem zl_c16 (X : zX p l e room_1 s m args below meth c RL cL_law 9 (some .boolean) D b0 tA sa sv) {x n : Nat} (hn : 6 * n + 6 ≤ sv 0) (hi : zLv x n I) (hf : cells ≤ 600000 ∧ slots ≤ 7280000)
    (kk : ∀ J : zI, zLv x (n + 1) J → zG p l e room_1 s m args below meth c 9 D b0 tA sa (cells + 3) (slots + 18) Q K 1710 [some (vr (sa 35) 53), some (vr x 7), some (vr (x + 501) 8), some (vr (x + 515) 17), some (vi (nI (6 * n))), none, none, none, none] [] J) : zG p l e room_1 s m args below meth c 9 D b0 tA sa cells slots Q K 1079 [some (vr (sa 35) 53), some (vr x 7), some (vr (x + 501) 8), some (vr (x + 515) 17), some (vi (nI (6 * n))), none, none, none, none] [] I := by
  obtain ⟨t, f, er, S, U, hC, hR, hP, hU⟩ := hi
  refine zr_aload1 X dL_law_1079 ?_
  refine zr_S X (n := n) (k := 1) hn (by decide) dL_law_1080 dL_law_1081 dL_law_1083 dL_law_1084 dL_law_1085 ?_
  refine zr_aload3 X dL_law_1086 ?_
  refine zr_callSX X zmh_149 (rm9 := zrm_L_ranked) (As := [vr x 7, vi (zAr sv n 1), vr (x + 515) 17]) (st := []) rfl rfl ⟨by decide, Nat.le_of_ble_eq_true rfl⟩ ⟨by show cells + 1 ≤ 601024; omega, by show slots + 6 ≤ 7293034; omega⟩ (Nat.le_of_ble_eq_true rfl) dL_law_1087 ?_
  refine zL_ranked (y := x + 501) hC hR (by omega) (by omega) (fun J1 hC1 hR1 ho => ?_)
  refine zr_istore5 X (by decide) rfl dL_law_1090 ?_
  refine zr_aload2 X dL_law_1092 ?_
  refine zr_S X (n := n) (k := 1) hn (by decide) dL_law_1093 dL_law_1094 dL_law_1096 dL_law_1097 dL_law_1098 ?_
  refine zr_callVQ X zm_L_151 (rm9 := zrm_X8_ranked) (As := [vi (zAr sv n 1)]) (st := []) rfl rfl ⟨by decide, Nat.le_of_ble_eq_true rfl⟩ ⟨by show cells + 1 ≤ 601024; omega, by show slots + 6 ≤ 7293034; omega⟩ (Nat.le_of_ble_eq_true rfl) dL_law_1099 ?_
  refine zM_ranked (out := x + 515) hC1 hR1 (by omega) (by omega) (fun J2 v9 hC2 hR2 e2 h0 hv => ?_)
  refine zr_istore6 X (by decide) rfl dL_law_1102 ?_
  refine zr_tail X (r1 := (rRank S (zAr sv n 1)).1) (r2 := (rRank S (zAr sv n 1)).2) dL_law_1104 dL_law_1105 dL_law_1108 dL_law_1110 dL_law_1115 dL_law_1117 dL_law_1120 dL_law_1121 dL_law_1122 dL_law_1123 dL_law_1125 dL_law_1126 dL_law_1127 dL_law_1132 (by decide) rRank_le h0 hv (fun h => e2.trans (ho h)) ⟨by show cells + 1 ≤ 601000; omega, by show slots + 6 ≤ 7290000; omega⟩ ?_
  refine zr_forget (lv2 := [some (vr (sa 35) 53), some (vr x 7), some (vr (x + 501) 8), some (vr (x + 515) 17), some (vi (nI (6 * n))), none, none, none, none]) (fun j9 v9 h9 => by rcases j9 with _ | _ | _ | _ | _ | _ | _ | _ | _ | j9 <;> first | exact h9 | (simp at h9)) ?_
  refine zr_more (k := cells + 3) (n := slots + 18) (by show cells + 1 ≤ cells + 3; omega) (by show slots + 6 ≤ slots + 18; omega) ?_
  exact kk J2 (zLv.mk hC2 hR2 (hP.le (by omega)) (fun u hu => (hU u hu).le (by omega)))
set_option maxRecDepth 20000 in
theorem zl_c17 (X : zX p l e room_1 s m args below meth c RL cL_law 9 (some .boolean) D b0 tA sa sv) {x n : Nat} (hn : 6 * n + 6 ≤ sv 0) (hi : zLv x n I) (hf : cells ≤ 600000 ∧ slots ≤ 7280000)
    (kk : ∀ J : zI, zLv x (n + 1) J → zG p l e room_1 s m args below meth c 9 D b0 tA sa (cells + 3) (slots + 18) Q K 1710 [some (vr (sa 35) 53), some (vr x 7), some (vr (x + 501) 8), some (vr (x + 515) 17), some (vi (nI (6 * n))), none, none, none, none] [] J) : zG p l e room_1 s m args below meth c 9 D b0 tA sa cells slots Q K 1135 [some (vr (sa 35) 53), some (vr x 7), some (vr (x + 501) 8), some (vr (x + 515) 17), some (vi (nI (6 * n))), none, none, none, none] [] I := by
  obtain ⟨t, f, er, S, U, hC, hR, hP, hU⟩ := hi
  refine zr_aload1 X dL_law_1135 ?_
  refine zr_callVQ X zm_L_152 (rm9 := zrm_X7_gap) (As := []) (st := []) rfl rfl ⟨by decide, Nat.le_of_ble_eq_true rfl⟩ ⟨by show cells + 0 ≤ 601024; omega, by show slots + 0 ≤ 7293034; omega⟩ (Nat.le_of_ble_eq_true rfl) dL_law_1136 ?_
  refine zq_X7_gap hC ?_
  refine zr_aload2 X dL_law_1139 ?_
  refine zr_callVQ X zm_L_155 (rm9 := zrm_X8_gap) (As := []) (st := [vi (qGap S)]) rfl rfl ⟨by decide, Nat.le_of_ble_eq_true rfl⟩ ⟨by show cells + 0 ≤ 601024; omega, by show slots + 0 ≤ 7293034; omega⟩ (Nat.le_of_ble_eq_true rfl) dL_law_1140 ?_
  refine zM_gap (out := x + 515) hC hR (by omega) (by omega) (fun J2 hC2 hR2 => ?_)
  refine zr_icmp_eq (st := []) (tgt := 1710) X dL_law_1143 (by decide) (fun _ => ?_) (fun h => absurd rfl h)
  refine zr_more (k := cells + 3) (n := slots + 18) (by show cells + 0 ≤ cells + 3; omega) (by show slots + 0 ≤ slots + 18; omega) ?_
  exact kk J2 (zLv.mk hC2 hR2 (hP.le (by omega)) (fun u hu => (hU u hu).le (by omega)))
set_option maxRecDepth 20000 in
theorem zl_c19 (X : zX p l e room_1 s m args below meth c RL cL_law 9 (some .boolean) D b0 tA sa sv) {x n : Nat} (hn : 6 * n + 6 ≤ sv 0) (hi : zLv x n I) (hf : cells ≤ 600000 ∧ slots ≤ 7280000)
    (kk : ∀ J : zI, zLv x (n + 1) J → zG p l e room_1 s m args below meth c 9 D b0 tA sa (cells + 3) (slots + 18) Q K 1710 [some (vr (sa 35) 53), some (vr x 7), some (vr (x + 501) 8), some (vr (x + 515) 17), some (vi (nI (6 * n))), none, none, none, none] [] J) : zG p l e room_1 s m args below meth c 9 D b0 tA sa cells slots Q K 1191 [some (vr (sa 35) 53), some (vr x 7), some (vr (x + 501) 8), some (vr (x + 515) 17), some (vi (nI (6 * n))), none, none, none, none] [] I := by
  obtain ⟨t, f, er, S, U, hC, hR, hP, hU⟩ := hi
  refine zr_aload1 X dL_law_1191 ?_
  refine zr_S X (n := n) (k := 1) hn (by decide) dL_law_1192 dL_law_1193 dL_law_1195 dL_law_1196 dL_law_1197 ?_
  refine zr_S X (n := n) (k := 2) hn (by decide) dL_law_1198 dL_law_1199 dL_law_1201 dL_law_1202 dL_law_1203 ?_
  refine zr_S X (n := n) (k := 3) hn (by decide) dL_law_1204 dL_law_1205 dL_law_1207 dL_law_1208 dL_law_1209 ?_
  refine zr_aload3 X dL_law_1210 ?_
  refine zr_callSX X zmh_161 (rm9 := zrm_L_join) (As := [vr x 7, vi (zAr sv n 1), vi (zAr sv n 2), vi (zAr sv n 3), vr (x + 515) 17]) (st := []) rfl rfl ⟨by decide, Nat.le_of_ble_eq_true rfl⟩ ⟨by show cells + 3 ≤ 601024; omega, by show slots + 18 ≤ 7293034; omega⟩ (Nat.le_of_ble_eq_true rfl) dL_law_1211 ?_
  refine zL_join (y := x + 501) hC hR (by omega) (by omega) (fun J1 hC1 hR1 ho => ?_)
  refine zr_istore5 X (by decide) rfl dL_law_1214 ?_
  refine zr_aload2 X dL_law_1216 ?_
  refine zr_S X (n := n) (k := 1) hn (by decide) dL_law_1217 dL_law_1218 dL_law_1220 dL_law_1221 dL_law_1222 ?_
  refine zr_S X (n := n) (k := 2) hn (by decide) dL_law_1223 dL_law_1224 dL_law_1226 dL_law_1227 dL_law_1228 ?_
  refine zr_S X (n := n) (k := 3) hn (by decide) dL_law_1229 dL_law_1230 dL_law_1232 dL_law_1233 dL_law_1234 ?_
  refine zr_callVQ X zm_L_163 (rm9 := zrm_X8_join) (As := [vi (zAr sv n 1), vi (zAr sv n 2), vi (zAr sv n 3)]) (st := []) rfl rfl ⟨by decide, Nat.le_of_ble_eq_true rfl⟩ ⟨by show cells + 3 ≤ 601024; omega, by show slots + 18 ≤ 7293034; omega⟩ (Nat.le_of_ble_eq_true rfl) dL_law_1235 ?_
  refine zM_join (out := x + 515) hC1 hR1 (by omega) (by omega) (fun J2 v9 hC2 hR2 e2 h0 hv => ?_)
  refine zr_istore6 X (by decide) rfl dL_law_1238 ?_
  refine zr_tail X (r1 := (rJoin S (zAr sv n 1) (zAr sv n 2) (zAr sv n 3)).1) (r2 := (rJoin S (zAr sv n 1) (zAr sv n 2) (zAr sv n 3)).2) dL_law_1240 dL_law_1241 dL_law_1244 dL_law_1246 dL_law_1251 dL_law_1253 dL_law_1256 dL_law_1257 dL_law_1258 dL_law_1259 dL_law_1261 dL_law_1262 dL_law_1263 dL_law_1268 (by decide) rJoin_le h0 hv (fun h => e2.trans (ho h)) ⟨by show cells + 3 ≤ 601000; omega, by show slots + 18 ≤ 7290000; omega⟩ ?_
  refine zr_forget (lv2 := [some (vr (sa 35) 53), some (vr x 7), some (vr (x + 501) 8), some (vr (x + 515) 17), some (vi (nI (6 * n))), none, none, none, none]) (fun j9 v9 h9 => by rcases j9 with _ | _ | _ | _ | _ | _ | _ | _ | _ | j9 <;> first | exact h9 | (simp at h9)) ?_
  refine zr_more (k := cells + 3) (n := slots + 18) (by show cells + 3 ≤ cells + 3; omega) (by show slots + 18 ≤ slots + 18; omega) ?_
  exact kk J2 (zLv.mk hC2 hR2 (zPb_if hP (zPb_sJoin hP) (by omega)) (zPb_push hP hU (by omega)))
set_option maxRecDepth 20000 in
theorem zl_c20 (X : zX p l e room_1 s m args below meth c RL cL_law 9 (some .boolean) D b0 tA sa sv) {x n : Nat} (hn : 6 * n + 6 ≤ sv 0) (hi : zLv x n I) (hf : cells ≤ 600000 ∧ slots ≤ 7280000)
    (kk : ∀ J : zI, zLv x (n + 1) J → zG p l e room_1 s m args below meth c 9 D b0 tA sa (cells + 3) (slots + 18) Q K 1710 [some (vr (sa 35) 53), some (vr x 7), some (vr (x + 501) 8), some (vr (x + 515) 17), some (vi (nI (6 * n))), none, none, none, none] [] J) : zG p l e room_1 s m args below meth c 9 D b0 tA sa cells slots Q K 1271 [some (vr (sa 35) 53), some (vr x 7), some (vr (x + 501) 8), some (vr (x + 515) 17), some (vi (nI (6 * n))), none, none, none, none] [] I := by
  obtain ⟨t, f, er, S, U, hC, hR, hP, hU⟩ := hi
  refine zr_aload1 X dL_law_1271 ?_
  refine zr_S X (n := n) (k := 1) hn (by decide) dL_law_1272 dL_law_1273 dL_law_1275 dL_law_1276 dL_law_1277 ?_
  refine zr_S X (n := n) (k := 2) hn (by decide) dL_law_1278 dL_law_1279 dL_law_1281 dL_law_1282 dL_law_1283 ?_
  refine zr_S X (n := n) (k := 3) hn (by decide) dL_law_1284 dL_law_1285 dL_law_1287 dL_law_1288 dL_law_1289 ?_
  refine zr_aload3 X dL_law_1290 ?_
  refine zr_callSX X zmh_164 (rm9 := zrm_L_leave) (As := [vr x 7, vi (zAr sv n 1), vi (zAr sv n 2), vi (zAr sv n 3), vr (x + 515) 17]) (st := []) rfl rfl ⟨by decide, Nat.le_of_ble_eq_true rfl⟩ ⟨by show cells + 3 ≤ 601024; omega, by show slots + 18 ≤ 7293034; omega⟩ (Nat.le_of_ble_eq_true rfl) dL_law_1291 ?_
  refine zL_leave (y := x + 501) hC hR (by omega) (by omega) (fun J1 hC1 hR1 ho => ?_)
  refine zr_istore5 X (by decide) rfl dL_law_1294 ?_
  refine zr_aload2 X dL_law_1296 ?_
  refine zr_S X (n := n) (k := 1) hn (by decide) dL_law_1297 dL_law_1298 dL_law_1300 dL_law_1301 dL_law_1302 ?_
  refine zr_S X (n := n) (k := 2) hn (by decide) dL_law_1303 dL_law_1304 dL_law_1306 dL_law_1307 dL_law_1308 ?_
  refine zr_S X (n := n) (k := 3) hn (by decide) dL_law_1309 dL_law_1310 dL_law_1312 dL_law_1313 dL_law_1314 ?_
  refine zr_callVQ X zm_L_166 (rm9 := zrm_X8_leave) (As := [vi (zAr sv n 1), vi (zAr sv n 2), vi (zAr sv n 3)]) (st := []) rfl rfl ⟨by decide, Nat.le_of_ble_eq_true rfl⟩ ⟨by show cells + 3 ≤ 601024; omega, by show slots + 18 ≤ 7293034; omega⟩ (Nat.le_of_ble_eq_true rfl) dL_law_1315 ?_
  refine zM_leave (out := x + 515) hC1 hR1 (by omega) (by omega) (fun J2 v9 hC2 hR2 e2 h0 hv => ?_)
  refine zr_istore6 X (by decide) rfl dL_law_1318 ?_
  refine zr_tail X (r1 := (rLeave S (zAr sv n 1) (zAr sv n 2) (zAr sv n 3)).1) (r2 := (rLeave S (zAr sv n 1) (zAr sv n 2) (zAr sv n 3)).2) dL_law_1320 dL_law_1321 dL_law_1324 dL_law_1326 dL_law_1331 dL_law_1333 dL_law_1336 dL_law_1337 dL_law_1338 dL_law_1339 dL_law_1341 dL_law_1342 dL_law_1343 dL_law_1348 (by decide) rLeave_le h0 hv (fun h => e2.trans (ho h)) ⟨by show cells + 3 ≤ 601000; omega, by show slots + 18 ≤ 7290000; omega⟩ ?_
  refine zr_forget (lv2 := [some (vr (sa 35) 53), some (vr x 7), some (vr (x + 501) 8), some (vr (x + 515) 17), some (vi (nI (6 * n))), none, none, none, none]) (fun j9 v9 h9 => by rcases j9 with _ | _ | _ | _ | _ | _ | _ | _ | _ | j9 <;> first | exact h9 | (simp at h9)) ?_
  refine zr_more (k := cells + 3) (n := slots + 18) (by show cells + 3 ≤ cells + 3; omega) (by show slots + 18 ≤ slots + 18; omega) ?_
  exact kk J2 (zLv.mk hC2 hR2 (zPb_if hP (zPb_sLeave hP) (by omega)) (zPb_push hP hU (by omega)))
set_option maxRecDepth 20000 in
theorem zl_c21 (X : zX p l e room_1 s m args below meth c RL cL_law 9 (some .boolean) D b0 tA sa sv) {x n : Nat} (hn : 6 * n + 6 ≤ sv 0) (hi : zLv x n I) (hf : cells ≤ 600000 ∧ slots ≤ 7280000)
    (kk : ∀ J : zI, zLv x (n + 1) J → zG p l e room_1 s m args below meth c 9 D b0 tA sa (cells + 3) (slots + 18) Q K 1710 [some (vr (sa 35) 53), some (vr x 7), some (vr (x + 501) 8), some (vr (x + 515) 17), some (vi (nI (6 * n))), none, none, none, none] [] J) : zG p l e room_1 s m args below meth c 9 D b0 tA sa cells slots Q K 1351 [some (vr (sa 35) 53), some (vr x 7), some (vr (x + 501) 8), some (vr (x + 515) 17), some (vi (nI (6 * n))), none, none, none, none] [] I := by
  obtain ⟨t, f, er, S, U, hC, hR, hP, hU⟩ := hi
  refine zr_aload1 X dL_law_1351 ?_
  refine zr_S X (n := n) (k := 1) hn (by decide) dL_law_1352 dL_law_1353 dL_law_1355 dL_law_1356 dL_law_1357 ?_
  refine zr_S X (n := n) (k := 2) hn (by decide) dL_law_1358 dL_law_1359 dL_law_1361 dL_law_1362 dL_law_1363 ?_
  refine zr_if_eq (tgt := 1371) X dL_law_1364 (by decide) (fun hb0 => ?_) (fun hb0 => ?_)
  · skip
    refine zr_iconst (v := (0 : Int32)) X dL_law_1371 (by decide) ?_
    refine zr_aload3 X dL_law_1372 ?_
    refine zr_callSX X zmh_167 (rm9 := zrm_L_list) (As := [vr x 7, vi (zAr sv n 1), vi (0 : Int32), vr (x + 515) 17]) (st := []) rfl rfl ⟨by decide, Nat.le_of_ble_eq_true rfl⟩ ⟨by show cells + 1 ≤ 601024; omega, by show slots + 6 ≤ 7293034; omega⟩ (Nat.le_of_ble_eq_true rfl) dL_law_1373 ?_
    refine zL_list (y := x + 501) hC hR (by omega) (by omega) (by decide) (fun J1 hC1 hR1 ho => ?_)
    refine zr_istore5 X (by decide) rfl dL_law_1376 ?_
    refine zr_aload2 X dL_law_1378 ?_
    refine zr_S X (n := n) (k := 1) hn (by decide) dL_law_1379 dL_law_1380 dL_law_1382 dL_law_1383 dL_law_1384 ?_
    refine zr_S X (n := n) (k := 2) hn (by decide) dL_law_1385 dL_law_1386 dL_law_1388 dL_law_1389 dL_law_1390 ?_
    refine zr_if_eq (tgt := 1398) X dL_law_1391 (by decide) (fun _ => ?_) (fun h => absurd hb0 h)
    refine zr_iconst (v := (0 : Int32)) X dL_law_1398 (by decide) ?_
    refine zr_callVQ X zm_L_170 (rm9 := zrm_X8_list) (As := [vi (zAr sv n 1), vi (0 : Int32)]) (st := []) rfl rfl ⟨by decide, Nat.le_of_ble_eq_true rfl⟩ ⟨by show cells + 1 ≤ 601024; omega, by show slots + 6 ≤ 7293034; omega⟩ (Nat.le_of_ble_eq_true rfl) dL_law_1399 ?_
    refine zM_list (out := x + 515) hC1 hR1 (by omega) (by omega) (by decide) (fun J2 v9 hC2 hR2 e2 h0 hv => ?_)
    refine zr_istore6 X (by decide) rfl dL_law_1402 ?_
    refine zr_tail X (r1 := (rList S (zAr sv n 1) (0 : Int32)).1) (r2 := (rList S (zAr sv n 1) (0 : Int32)).2) dL_law_1404 dL_law_1405 dL_law_1408 dL_law_1410 dL_law_1415 dL_law_1417 dL_law_1420 dL_law_1421 dL_law_1422 dL_law_1423 dL_law_1425 dL_law_1426 dL_law_1427 dL_law_1432 (by decide) rList_le h0 hv (fun h => e2.trans (ho h)) ⟨by show cells + 1 ≤ 601000; omega, by show slots + 6 ≤ 7290000; omega⟩ ?_
    refine zr_forget (lv2 := [some (vr (sa 35) 53), some (vr x 7), some (vr (x + 501) 8), some (vr (x + 515) 17), some (vi (nI (6 * n))), none, none, none, none]) (fun j9 v9 h9 => by rcases j9 with _ | _ | _ | _ | _ | _ | _ | _ | _ | j9 <;> first | exact h9 | (simp at h9)) ?_
    refine zr_more (k := cells + 3) (n := slots + 18) (by show cells + 1 ≤ cells + 3; omega) (by show slots + 6 ≤ slots + 18; omega) ?_
    exact kk J2 (zLv.mk hC2 hR2 (zPb_if hP (zPb_sList hP) (by omega)) (zPb_push hP hU (by omega)))
  · skip
    refine zr_iconst (v := (1 : Int32)) X dL_law_1367 (by decide) ?_
    refine zr_goto (tgt := 1372) X dL_law_1368 (by decide) ?_
    refine zr_aload3 X dL_law_1372 ?_
    refine zr_callSX X zmh_167 (rm9 := zrm_L_list) (As := [vr x 7, vi (zAr sv n 1), vi (1 : Int32), vr (x + 515) 17]) (st := []) rfl rfl ⟨by decide, Nat.le_of_ble_eq_true rfl⟩ ⟨by show cells + 1 ≤ 601024; omega, by show slots + 6 ≤ 7293034; omega⟩ (Nat.le_of_ble_eq_true rfl) dL_law_1373 ?_
    refine zL_list (y := x + 501) hC hR (by omega) (by omega) (by decide) (fun J1 hC1 hR1 ho => ?_)
    refine zr_istore5 X (by decide) rfl dL_law_1376 ?_
    refine zr_aload2 X dL_law_1378 ?_
    refine zr_S X (n := n) (k := 1) hn (by decide) dL_law_1379 dL_law_1380 dL_law_1382 dL_law_1383 dL_law_1384 ?_
    refine zr_S X (n := n) (k := 2) hn (by decide) dL_law_1385 dL_law_1386 dL_law_1388 dL_law_1389 dL_law_1390 ?_
    refine zr_if_eq (tgt := 1398) X dL_law_1391 (by decide) (fun h => absurd h hb0) (fun _ => ?_)
    refine zr_iconst (v := (1 : Int32)) X dL_law_1394 (by decide) ?_
    refine zr_goto (tgt := 1399) X dL_law_1395 (by decide) ?_
    refine zr_callVQ X zm_L_170 (rm9 := zrm_X8_list) (As := [vi (zAr sv n 1), vi (1 : Int32)]) (st := []) rfl rfl ⟨by decide, Nat.le_of_ble_eq_true rfl⟩ ⟨by show cells + 1 ≤ 601024; omega, by show slots + 6 ≤ 7293034; omega⟩ (Nat.le_of_ble_eq_true rfl) dL_law_1399 ?_
    refine zM_list (out := x + 515) hC1 hR1 (by omega) (by omega) (by decide) (fun J2 v9 hC2 hR2 e2 h0 hv => ?_)
    refine zr_istore6 X (by decide) rfl dL_law_1402 ?_
    refine zr_tail X (r1 := (rList S (zAr sv n 1) (1 : Int32)).1) (r2 := (rList S (zAr sv n 1) (1 : Int32)).2) dL_law_1404 dL_law_1405 dL_law_1408 dL_law_1410 dL_law_1415 dL_law_1417 dL_law_1420 dL_law_1421 dL_law_1422 dL_law_1423 dL_law_1425 dL_law_1426 dL_law_1427 dL_law_1432 (by decide) rList_le h0 hv (fun h => e2.trans (ho h)) ⟨by show cells + 1 ≤ 601000; omega, by show slots + 6 ≤ 7290000; omega⟩ ?_
    refine zr_forget (lv2 := [some (vr (sa 35) 53), some (vr x 7), some (vr (x + 501) 8), some (vr (x + 515) 17), some (vi (nI (6 * n))), none, none, none, none]) (fun j9 v9 h9 => by rcases j9 with _ | _ | _ | _ | _ | _ | _ | _ | _ | j9 <;> first | exact h9 | (simp at h9)) ?_
    refine zr_more (k := cells + 3) (n := slots + 18) (by show cells + 1 ≤ cells + 3; omega) (by show slots + 6 ≤ slots + 18; omega) ?_
    exact kk J2 (zLv.mk hC2 hR2 (zPb_if hP (zPb_sList hP) (by omega)) (zPb_push hP hU (by omega)))
set_option maxRecDepth 20000 in
theorem zl_c22 (X : zX p l e room_1 s m args below meth c RL cL_law 9 (some .boolean) D b0 tA sa sv) {x n : Nat} (hn : 6 * n + 6 ≤ sv 0) (hi : zLv x n I) (hf : cells ≤ 600000 ∧ slots ≤ 7280000)
    (kk : ∀ J : zI, zLv x (n + 1) J → zG p l e room_1 s m args below meth c 9 D b0 tA sa (cells + 3) (slots + 18) Q K 1710 [some (vr (sa 35) 53), some (vr x 7), some (vr (x + 501) 8), some (vr (x + 515) 17), some (vi (nI (6 * n))), none, none, none, none] [] J) : zG p l e room_1 s m args below meth c 9 D b0 tA sa cells slots Q K 1435 [some (vr (sa 35) 53), some (vr x 7), some (vr (x + 501) 8), some (vr (x + 515) 17), some (vi (nI (6 * n))), none, none, none, none] [] I := by
  obtain ⟨t, f, er, S, U, hC, hR, hP, hU⟩ := hi
  refine zr_aload1 X dL_law_1435 ?_
  refine zr_S X (n := n) (k := 1) hn (by decide) dL_law_1436 dL_law_1437 dL_law_1439 dL_law_1440 dL_law_1441 ?_
  refine zr_S X (n := n) (k := 2) hn (by decide) dL_law_1442 dL_law_1443 dL_law_1445 dL_law_1446 dL_law_1447 ?_
  refine zr_aload3 X dL_law_1448 ?_
  refine zr_callSX X zmh_171 (rm9 := zrm_L_charge) (As := [vr x 7, vi (zAr sv n 1), vi (zAr sv n 2), vr (x + 515) 17]) (st := []) rfl rfl ⟨by decide, Nat.le_of_ble_eq_true rfl⟩ ⟨by show cells + 2 ≤ 601024; omega, by show slots + 12 ≤ 7293034; omega⟩ (Nat.le_of_ble_eq_true rfl) dL_law_1449 ?_
  refine zL_charge (y := x + 501) hC hR (by omega) (by omega) (fun J1 hC1 hR1 ho => ?_)
  refine zr_istore5 X (by decide) rfl dL_law_1452 ?_
  refine zr_aload2 X dL_law_1454 ?_
  refine zr_S X (n := n) (k := 1) hn (by decide) dL_law_1455 dL_law_1456 dL_law_1458 dL_law_1459 dL_law_1460 ?_
  refine zr_S X (n := n) (k := 2) hn (by decide) dL_law_1461 dL_law_1462 dL_law_1464 dL_law_1465 dL_law_1466 ?_
  refine zr_callVQ X zm_L_173 (rm9 := zrm_X8_charge) (As := [vi (zAr sv n 1), vi (zAr sv n 2)]) (st := []) rfl rfl ⟨by decide, Nat.le_of_ble_eq_true rfl⟩ ⟨by show cells + 2 ≤ 601024; omega, by show slots + 12 ≤ 7293034; omega⟩ (Nat.le_of_ble_eq_true rfl) dL_law_1467 ?_
  refine zM_charge (out := x + 515) hC1 hR1 (by omega) (by omega) (fun J2 v9 hC2 hR2 e2 h0 hv => ?_)
  refine zr_istore6 X (by decide) rfl dL_law_1470 ?_
  refine zr_tail X (r1 := (rCharge S (zAr sv n 1) (zAr sv n 2)).1) (r2 := (rCharge S (zAr sv n 1) (zAr sv n 2)).2) dL_law_1472 dL_law_1473 dL_law_1476 dL_law_1478 dL_law_1483 dL_law_1485 dL_law_1488 dL_law_1489 dL_law_1490 dL_law_1491 dL_law_1493 dL_law_1494 dL_law_1495 dL_law_1500 (by decide) rCharge_le h0 hv (fun h => e2.trans (ho h)) ⟨by show cells + 2 ≤ 601000; omega, by show slots + 12 ≤ 7290000; omega⟩ ?_
  refine zr_forget (lv2 := [some (vr (sa 35) 53), some (vr x 7), some (vr (x + 501) 8), some (vr (x + 515) 17), some (vi (nI (6 * n))), none, none, none, none]) (fun j9 v9 h9 => by rcases j9 with _ | _ | _ | _ | _ | _ | _ | _ | _ | j9 <;> first | exact h9 | (simp at h9)) ?_
  refine zr_more (k := cells + 3) (n := slots + 18) (by show cells + 2 ≤ cells + 3; omega) (by show slots + 12 ≤ slots + 18; omega) ?_
  exact kk J2 (zLv.mk hC2 hR2 (zPb_if hP (zPb_sCharge hP) (by omega)) (zPb_push hP hU (by omega)))
set_option maxRecDepth 20000 in
theorem zl_c23 (X : zX p l e room_1 s m args below meth c RL cL_law 9 (some .boolean) D b0 tA sa sv) {x n : Nat} (hn : 6 * n + 6 ≤ sv 0) (hi : zLv x n I) (hf : cells ≤ 600000 ∧ slots ≤ 7280000)
    (kk : ∀ J : zI, zLv x (n + 1) J → zG p l e room_1 s m args below meth c 9 D b0 tA sa (cells + 3) (slots + 18) Q K 1710 [some (vr (sa 35) 53), some (vr x 7), some (vr (x + 501) 8), some (vr (x + 515) 17), some (vi (nI (6 * n))), none, none, none, none] [] J) : zG p l e room_1 s m args below meth c 9 D b0 tA sa cells slots Q K 1503 [some (vr (sa 35) 53), some (vr x 7), some (vr (x + 501) 8), some (vr (x + 515) 17), some (vi (nI (6 * n))), none, none, none, none] [] I := by
  obtain ⟨t, f, er, S, U, hC, hR, hP, hU⟩ := hi
  refine zr_aload1 X dL_law_1503 ?_
  refine zr_S X (n := n) (k := 1) hn (by decide) dL_law_1504 dL_law_1505 dL_law_1507 dL_law_1508 dL_law_1509 ?_
  refine zr_S X (n := n) (k := 2) hn (by decide) dL_law_1510 dL_law_1511 dL_law_1513 dL_law_1514 dL_law_1515 ?_
  refine zr_aload3 X dL_law_1516 ?_
  refine zr_callSX X zmh_174 (rm9 := zrm_L_mode) (As := [vr x 7, vi (zAr sv n 1), vi (zAr sv n 2), vr (x + 515) 17]) (st := []) rfl rfl ⟨by decide, Nat.le_of_ble_eq_true rfl⟩ ⟨by show cells + 2 ≤ 601024; omega, by show slots + 12 ≤ 7293034; omega⟩ (Nat.le_of_ble_eq_true rfl) dL_law_1517 ?_
  refine zL_mode (y := x + 501) hC hR (by omega) (by omega) (fun J1 hC1 hR1 ho => ?_)
  refine zr_istore5 X (by decide) rfl dL_law_1520 ?_
  refine zr_aload2 X dL_law_1522 ?_
  refine zr_S X (n := n) (k := 1) hn (by decide) dL_law_1523 dL_law_1524 dL_law_1526 dL_law_1527 dL_law_1528 ?_
  refine zr_S X (n := n) (k := 2) hn (by decide) dL_law_1529 dL_law_1530 dL_law_1532 dL_law_1533 dL_law_1534 ?_
  refine zr_callVQ X zm_L_176 (rm9 := zrm_X8_mode) (As := [vi (zAr sv n 1), vi (zAr sv n 2)]) (st := []) rfl rfl ⟨by decide, Nat.le_of_ble_eq_true rfl⟩ ⟨by show cells + 2 ≤ 601024; omega, by show slots + 12 ≤ 7293034; omega⟩ (Nat.le_of_ble_eq_true rfl) dL_law_1535 ?_
  refine zM_mode (out := x + 515) hC1 hR1 (by omega) (by omega) (fun J2 v9 hC2 hR2 e2 h0 hv => ?_)
  refine zr_istore6 X (by decide) rfl dL_law_1538 ?_
  refine zr_tail X (r1 := (rMode S (zAr sv n 1) (zAr sv n 2)).1) (r2 := (rMode S (zAr sv n 1) (zAr sv n 2)).2) dL_law_1540 dL_law_1541 dL_law_1544 dL_law_1546 dL_law_1551 dL_law_1553 dL_law_1556 dL_law_1557 dL_law_1558 dL_law_1559 dL_law_1561 dL_law_1562 dL_law_1563 dL_law_1568 (by decide) rMode_le h0 hv (fun h => e2.trans (ho h)) ⟨by show cells + 2 ≤ 601000; omega, by show slots + 12 ≤ 7290000; omega⟩ ?_
  refine zr_forget (lv2 := [some (vr (sa 35) 53), some (vr x 7), some (vr (x + 501) 8), some (vr (x + 515) 17), some (vi (nI (6 * n))), none, none, none, none]) (fun j9 v9 h9 => by rcases j9 with _ | _ | _ | _ | _ | _ | _ | _ | _ | j9 <;> first | exact h9 | (simp at h9)) ?_
  refine zr_more (k := cells + 3) (n := slots + 18) (by show cells + 2 ≤ cells + 3; omega) (by show slots + 12 ≤ slots + 18; omega) ?_
  exact kk J2 (zLv.mk hC2 hR2 (zPb_if hP (zPb_sMode hP) (by omega)) (zPb_push hP hU (by omega)))
set_option maxRecDepth 20000 in
theorem zl_c24 (X : zX p l e room_1 s m args below meth c RL cL_law 9 (some .boolean) D b0 tA sa sv) {x n : Nat} (hn : 6 * n + 6 ≤ sv 0) (hi : zLv x n I) (hf : cells ≤ 600000 ∧ slots ≤ 7280000)
    (kk : ∀ J : zI, zLv x (n + 1) J → zG p l e room_1 s m args below meth c 9 D b0 tA sa (cells + 3) (slots + 18) Q K 1710 [some (vr (sa 35) 53), some (vr x 7), some (vr (x + 501) 8), some (vr (x + 515) 17), some (vi (nI (6 * n))), none, none, none, none] [] J) : zG p l e room_1 s m args below meth c 9 D b0 tA sa cells slots Q K 1571 [some (vr (sa 35) 53), some (vr x 7), some (vr (x + 501) 8), some (vr (x + 515) 17), some (vi (nI (6 * n))), none, none, none, none] [] I := by
  obtain ⟨t, f, er, S, U, hC, hR, hP, hU⟩ := hi
  refine zr_aload1 X dL_law_1571 ?_
  refine zr_S X (n := n) (k := 1) hn (by decide) dL_law_1572 dL_law_1573 dL_law_1575 dL_law_1576 dL_law_1577 ?_
  refine zr_aload3 X dL_law_1578 ?_
  refine zr_callSX X zmh_177 (rm9 := zrm_L_key) (As := [vr x 7, vi (zAr sv n 1), vr (x + 515) 17]) (st := []) rfl rfl ⟨by decide, Nat.le_of_ble_eq_true rfl⟩ ⟨by show cells + 1 ≤ 601024; omega, by show slots + 6 ≤ 7293034; omega⟩ (Nat.le_of_ble_eq_true rfl) dL_law_1579 ?_
  refine zL_key (y := x + 501) hC hR (by omega) (by omega) (fun J1 hC1 hR1 ho => ?_)
  refine zr_istore5 X (by decide) rfl dL_law_1582 ?_
  refine zr_aload2 X dL_law_1584 ?_
  refine zr_S X (n := n) (k := 1) hn (by decide) dL_law_1585 dL_law_1586 dL_law_1588 dL_law_1589 dL_law_1590 ?_
  refine zr_callVQ X zm_L_179 (rm9 := zrm_X8_key) (As := [vi (zAr sv n 1)]) (st := []) rfl rfl ⟨by decide, Nat.le_of_ble_eq_true rfl⟩ ⟨by show cells + 1 ≤ 601024; omega, by show slots + 6 ≤ 7293034; omega⟩ (Nat.le_of_ble_eq_true rfl) dL_law_1591 ?_
  refine zM_key (out := x + 515) hC1 hR1 (by omega) (by omega) (fun J2 v9 hC2 hR2 e2 h0 hv => ?_)
  refine zr_istore6 X (by decide) rfl dL_law_1594 ?_
  refine zr_tail X (r1 := (rKey S (zAr sv n 1)).1) (r2 := (rKey S (zAr sv n 1)).2) dL_law_1596 dL_law_1597 dL_law_1600 dL_law_1602 dL_law_1607 dL_law_1609 dL_law_1612 dL_law_1613 dL_law_1614 dL_law_1615 dL_law_1617 dL_law_1618 dL_law_1619 dL_law_1624 (by decide) rKey_le h0 hv (fun h => e2.trans (ho h)) ⟨by show cells + 1 ≤ 601000; omega, by show slots + 6 ≤ 7290000; omega⟩ ?_
  refine zr_forget (lv2 := [some (vr (sa 35) 53), some (vr x 7), some (vr (x + 501) 8), some (vr (x + 515) 17), some (vi (nI (6 * n))), none, none, none, none]) (fun j9 v9 h9 => by rcases j9 with _ | _ | _ | _ | _ | _ | _ | _ | _ | j9 <;> first | exact h9 | (simp at h9)) ?_
  refine zr_more (k := cells + 3) (n := slots + 18) (by show cells + 1 ≤ cells + 3; omega) (by show slots + 6 ≤ slots + 18; omega) ?_
  exact kk J2 (zLv.mk hC2 hR2 (zPb_if hP (zPb_sKey hP) (by omega)) (zPb_push hP hU (by omega)))
set_option maxRecDepth 20000 in
theorem zl_c25 (X : zX p l e room_1 s m args below meth c RL cL_law 9 (some .boolean) D b0 tA sa sv) {x n : Nat} (hn : 6 * n + 6 ≤ sv 0) (hi : zLv x n I) (hf : cells ≤ 600000 ∧ slots ≤ 7280000)
    (kk : ∀ J : zI, zLv x (n + 1) J → zG p l e room_1 s m args below meth c 9 D b0 tA sa (cells + 3) (slots + 18) Q K 1710 [some (vr (sa 35) 53), some (vr x 7), some (vr (x + 501) 8), some (vr (x + 515) 17), some (vi (nI (6 * n))), none, none, none, none] [] J) : zG p l e room_1 s m args below meth c 9 D b0 tA sa cells slots Q K 1627 [some (vr (sa 35) 53), some (vr x 7), some (vr (x + 501) 8), some (vr (x + 515) 17), some (vi (nI (6 * n))), none, none, none, none] [] I := by
  obtain ⟨t, f, er, S, U, hC, hR, hP, hU⟩ := hi
  refine zr_aload1 X dL_law_1627 ?_
  refine zr_S X (n := n) (k := 1) hn (by decide) dL_law_1628 dL_law_1629 dL_law_1631 dL_law_1632 dL_law_1633 ?_
  refine zr_aload3 X dL_law_1634 ?_
  refine zr_callSX X zmh_180 (rm9 := zrm_L_tick) (As := [vr x 7, vi (zAr sv n 1), vr (x + 515) 17]) (st := []) rfl rfl ⟨by decide, Nat.le_of_ble_eq_true rfl⟩ ⟨by show cells + 1 ≤ 601024; omega, by show slots + 6 ≤ 7293034; omega⟩ (Nat.le_of_ble_eq_true rfl) dL_law_1635 ?_
  refine zL_tick (y := x + 501) hC hR (by omega) (by omega) (fun J1 hC1 hR1 ho => ?_)
  refine zr_istore5 X (by decide) rfl dL_law_1638 ?_
  refine zr_aload2 X dL_law_1640 ?_
  refine zr_S X (n := n) (k := 1) hn (by decide) dL_law_1641 dL_law_1642 dL_law_1644 dL_law_1645 dL_law_1646 ?_
  refine zr_callVQ X zm_L_182 (rm9 := zrm_X8_tick) (As := [vi (zAr sv n 1)]) (st := []) rfl rfl ⟨by decide, Nat.le_of_ble_eq_true rfl⟩ ⟨by show cells + 1 ≤ 601024; omega, by show slots + 6 ≤ 7293034; omega⟩ (Nat.le_of_ble_eq_true rfl) dL_law_1647 ?_
  refine zM_tick (out := x + 515) hC1 hR1 (by omega) (by omega) (fun J2 v9 hC2 hR2 e2 h0 hv => ?_)
  refine zr_istore6 X (by decide) rfl dL_law_1650 ?_
  refine zr_tail X (r1 := (rTick S (zAr sv n 1)).1) (r2 := (rTick S (zAr sv n 1)).2) dL_law_1652 dL_law_1653 dL_law_1656 dL_law_1658 dL_law_1663 dL_law_1665 dL_law_1668 dL_law_1669 dL_law_1670 dL_law_1671 dL_law_1673 dL_law_1674 dL_law_1675 dL_law_1680 (by decide) rTick_le h0 hv (fun h => e2.trans (ho h)) ⟨by show cells + 1 ≤ 601000; omega, by show slots + 6 ≤ 7290000; omega⟩ ?_
  refine zr_forget (lv2 := [some (vr (sa 35) 53), some (vr x 7), some (vr (x + 501) 8), some (vr (x + 515) 17), some (vi (nI (6 * n))), none, none, none, none]) (fun j9 v9 h9 => by rcases j9 with _ | _ | _ | _ | _ | _ | _ | _ | _ | j9 <;> first | exact h9 | (simp at h9)) ?_
  refine zr_more (k := cells + 3) (n := slots + 18) (by show cells + 1 ≤ cells + 3; omega) (by show slots + 6 ≤ slots + 18; omega) ?_
  exact kk J2 (zLv.mk hC2 hR2 (zPb_if hP (zPb_sTick hC.2.2.2.1 hP) (by omega)) (zPb_push hP hU (by omega)))
set_option maxRecDepth 20000 in
theorem zl_c26 (X : zX p l e room_1 s m args below meth c RL cL_law 9 (some .boolean) D b0 tA sa sv) {x n : Nat} (hn : 6 * n + 6 ≤ sv 0) (hi : zLv x n I) (hf : cells ≤ 600000 ∧ slots ≤ 7280000)
    (kk : ∀ J : zI, zLv x (n + 1) J → zG p l e room_1 s m args below meth c 9 D b0 tA sa (cells + 3) (slots + 18) Q K 1710 [some (vr (sa 35) 53), some (vr x 7), some (vr (x + 501) 8), some (vr (x + 515) 17), some (vi (nI (6 * n))), none, none, none, none] [] J) : zG p l e room_1 s m args below meth c 9 D b0 tA sa cells slots Q K 1683 [some (vr (sa 35) 53), some (vr x 7), some (vr (x + 501) 8), some (vr (x + 515) 17), some (vi (nI (6 * n))), none, none, none, none] [] I := by
  obtain ⟨t, f, er, S, U, hC, hR, hP, hU⟩ := hi
  refine zr_aload1 X dL_law_1683 ?_
  refine zr_callVQ X zm_L_183 (rm9 := zrm_X7_undo) (As := []) (st := []) rfl rfl ⟨by decide, Nat.le_of_ble_eq_true rfl⟩ ⟨by show cells + 0 ≤ 601024; omega, by show slots + 0 ≤ 7293034; omega⟩ (Nat.le_of_ble_eq_true rfl) dL_law_1684 ?_
  refine zN_undo (y := x + 501) (out := x + 515) hC hR (by omega) (fun J1 hC1 hR1 => ?_)
  refine zr_aload2 X dL_law_1687 ?_
  refine zr_callVQ X zm_L_186 (rm9 := zrm_X8_undo) (As := []) (st := [vi (rUndo U)]) rfl rfl ⟨by decide, Nat.le_of_ble_eq_true rfl⟩ ⟨by show cells + 0 ≤ 601024; omega, by show slots + 0 ≤ 7293034; omega⟩ (Nat.le_of_ble_eq_true rfl) dL_law_1688 ?_
  refine zM_undo (out := x + 515) hC1 hR1 (by omega) (by omega) (fun J2 hC2 hR2 => ?_)
  refine zr_icmp_eq (st := []) (tgt := 1710) X dL_law_1691 (by decide) (fun _ => ?_) (fun h => absurd rfl h)
  refine zr_more (k := cells + 3) (n := slots + 18) (by show cells + 0 ≤ cells + 3; omega) (by show slots + 0 ≤ slots + 18; omega) ?_
  exact kk J2 (zLv.mk hC2 hR2 (zPb_sUndo hP hU) (fun u hu => (hU u (List.mem_of_mem_tail hu)).le (by omega)))
set_option maxRecDepth 20000 in
theorem zl_c27 (X : zX p l e room_1 s m args below meth c RL cL_law 9 (some .boolean) D b0 tA sa sv) {x n : Nat} (hn : 6 * n + 6 ≤ sv 0) (hi : zLv x n I) (hf : cells ≤ 600000 ∧ slots ≤ 7280000)
    (kk : ∀ J : zI, zLv x (n + 1) J → zG p l e room_1 s m args below meth c 9 D b0 tA sa (cells + 3) (slots + 18) Q K 1710 [some (vr (sa 35) 53), some (vr x 7), some (vr (x + 501) 8), some (vr (x + 515) 17), some (vi (nI (6 * n))), none, none, none, none] [] J) : zG p l e room_1 s m args below meth c 9 D b0 tA sa cells slots Q K 1696 [some (vr (sa 35) 53), some (vr x 7), some (vr (x + 501) 8), some (vr (x + 515) 17), some (vi (nI (6 * n))), none, none, none, none] [] I := by
  obtain ⟨t, f, er, S, U, hC, hR, hP, hU⟩ := hi
  refine zr_aload1 X dL_law_1696 ?_
  refine zr_callVQ X zm_L_187 (rm9 := zrm_X7_checksum) (As := []) (st := []) rfl rfl ⟨by decide, Nat.le_of_ble_eq_true rfl⟩ ⟨by show cells + 0 ≤ 601024; omega, by show slots + 0 ≤ 7293034; omega⟩ (Nat.le_of_ble_eq_true rfl) dL_law_1697 ?_
  refine zq_X7_checksum hC ?_
  refine zr_aload2 X dL_law_1700 ?_
  refine zr_callVQ X zm_L_191 (rm9 := zrm_X8_checksum) (As := []) (st := [vl (qSum S)]) rfl rfl ⟨by decide, Nat.le_of_ble_eq_true rfl⟩ ⟨by show cells + 0 ≤ 601024; omega, by show slots + 0 ≤ 7293034; omega⟩ (Nat.le_of_ble_eq_true rfl) dL_law_1701 ?_
  refine zM_checksum (out := x + 515) hC hR (by omega) (by omega) (fun J2 hC2 hR2 => ?_)
  refine zr_lcmp (st := []) X dL_law_1704 ?_
  refine zr_if_eq (tgt := 1710) X dL_law_1705 (by decide) (fun _ => ?_) (fun h => absurd rfl h)
  refine zr_more (k := cells + 3) (n := slots + 18) (by show cells + 0 ≤ cells + 3; omega) (by show slots + 0 ≤ slots + 18; omega) ?_
  exact kk J2 (zLv.mk hC2 hR2 (hP.le (by omega)) (fun u hu => (hU u hu).le (by omega)))
end ZLAW
