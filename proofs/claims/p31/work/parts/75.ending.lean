/-! ===== the law's last guards ===== -/
theorem zload_no {F J : zI} {x : Nat} {t : Nat → Nat} {er : Int32} {S : zS} {U : List zS} (h : zCl F J x t (fLoad 0 501) (eLoad t 0 501 er) (sLoad t 0 501 S) (uLoad t 0 501 S U)) : zCl F J x t 0 er S U := by
  have e1 : vIdx (501 : Int32) (0 + 1) = none := by decide
  unfold fLoad eLoad sLoad uLoad at h
  rw [e1] at h
  exact h
set_option maxRecDepth 20000 in
theorem zle_law {l : Launch} {D : va_G} {b0 : Nat} {tA : Nat → ClassId} {sa sv : Nat → Nat} {p : Program} {e : Env} {s : State} {m : MethodId} {args : Array Value} {below : List Frame} {meth : Method} {c : Code} {Q : State → Prop} {K9 : zKt} {I : zI} {cells slots : Nat} {x : Nat} {t : Nat → Nat} {er : Int32} {S : zS} {U : List zS} {i : Nat}
    (X : zX p l e room_1 s m args below meth c RL cL_law 11 (some .boolean) D b0 tA sa sv) (hC : zCl I I x t 0 er S U) (hn : 0 < zng S) (hm : 0 < znc S) (hc9 : cells ≤ 600000) (hs9 : slots ≤ 7000000) (hk : ∀ J : zI, zG p l e room_1 s m args below meth c 11 D b0 tA sa (cells + 40) (slots + 400) Q K9 4 [some (vr (sa 37) (61)), some (vi ((1 : Int32))), some (vi ((nI (i + 1)))), none, none, none, none, none, none, none, none] [] J) :
    zG p l e room_1 s m args below meth c 11 D b0 tA sa cells slots Q K9 330 [some (vr (sa 37) (61)), some (vi ((1 : Int32))), some (vi ((nI i))), some (vr (x) 7), none, none, none, none, none, none, none] [] I := by
  have hW := hC.2.2.2.1
  refine zr_iload1 X dL_law_330 ?_
  refine zr_if_eq (tgt := 518) X dL_law_331 (by decide) (fun h => absurd h (by decide)) (fun _ => ?_)
  refine zr_aload3 X dL_law_334 ?_
  refine zr_sipush (v := (501 : Int32)) X dL_law_335 (by decide) ?_
  refine zr_callSX (rm9 := zrm_L_load) (As := [vr (x) 7, vi ((501 : Int32))]) (st := []) X zmh_L_19 rfl rfl ⟨by decide, Nat.le_of_ble_eq_true rfl⟩ ⟨by simp only [room_1, zrm_L_state, zrm_L_find, zrm_L_gate, zrm_L_card, zrm_L_inLine, zrm_L_why, zrm_L_whyNotJoin, zrm_L_bestGate, zrm_L_nextSide, zrm_L_throughIn, zrm_L_insideIn, zrm_L_followersIn, zrm_L_ranked, zrm_L_join, zrm_L_leave, zrm_L_list, zrm_L_charge, zrm_L_mode, zrm_L_key, zrm_L_tick, zrm_L_load, zrm_L_agrees, zrm_X7_errorOffset, zrm_X7_undo]; omega, by simp only [room_1, zrm_L_state, zrm_L_find, zrm_L_gate, zrm_L_card, zrm_L_inLine, zrm_L_why, zrm_L_whyNotJoin, zrm_L_bestGate, zrm_L_nextSide, zrm_L_throughIn, zrm_L_insideIn, zrm_L_followersIn, zrm_L_ranked, zrm_L_join, zrm_L_leave, zrm_L_list, zrm_L_charge, zrm_L_mode, zrm_L_key, zrm_L_tick, zrm_L_load, zrm_L_agrees, zrm_X7_errorOffset, zrm_X7_undo]; omega⟩ (Nat.le_of_ble_eq_true rfl) dL_law_338 ?_
  refine zL_load hC (fun J1 hJ2 => ?_)
  replace hJ2 := zload_no hJ2
  have hC3 := hJ2.re
  refine zr_eq (x2 := (-2000000098 : Int32)) ((zcd_n (zN_load)).trans rfl) ?_
  refine zr_ldc (v := -2000000098) X dL_law_341 zk_L_42 ?_
  refine zr_icmp_ne (tgt := 518) X dL_law_343 (by decide) (fun h => absurd h (by decide)) (fun _ => ?_)
  refine zr_aload3 X dL_law_346 ?_
  refine zr_sipush (v := (501 : Int32)) X dL_law_347 (by decide) ?_
  refine zr_callSX (rm9 := zrm_L_find) (As := [vr (x) 7, vi ((501 : Int32))]) (st := []) X zmh_L_286 rfl rfl ⟨by decide, Nat.le_of_ble_eq_true rfl⟩ ⟨by simp only [room_1, zrm_L_state, zrm_L_find, zrm_L_gate, zrm_L_card, zrm_L_inLine, zrm_L_why, zrm_L_whyNotJoin, zrm_L_bestGate, zrm_L_nextSide, zrm_L_throughIn, zrm_L_insideIn, zrm_L_followersIn, zrm_L_ranked, zrm_L_join, zrm_L_leave, zrm_L_list, zrm_L_charge, zrm_L_mode, zrm_L_key, zrm_L_tick, zrm_L_load, zrm_L_agrees, zrm_X7_errorOffset, zrm_X7_undo]; omega, by simp only [room_1, zrm_L_state, zrm_L_find, zrm_L_gate, zrm_L_card, zrm_L_inLine, zrm_L_why, zrm_L_whyNotJoin, zrm_L_bestGate, zrm_L_nextSide, zrm_L_throughIn, zrm_L_insideIn, zrm_L_followersIn, zrm_L_ranked, zrm_L_join, zrm_L_leave, zrm_L_list, zrm_L_charge, zrm_L_mode, zrm_L_key, zrm_L_tick, zrm_L_load, zrm_L_agrees, zrm_X7_errorOffset, zrm_X7_undo]; omega⟩ (Nat.le_of_ble_eq_true rfl) dL_law_350 ?_
  refine zL_find hC3 ?_
  refine zr_eq (x2 := (-2000000098 : Int32)) ((zcd_n (zN_find)).trans rfl) ?_
  refine zr_ldc (v := -2000000098) X dL_law_353 zk_L_42 ?_
  refine zr_icmp_ne (tgt := 518) X dL_law_355 (by decide) (fun h => absurd h (by decide)) (fun _ => ?_)
  refine zr_aload3 X dL_law_358 ?_
  refine zr_iconst (v := (0 : Int32)) X dL_law_359 (by decide) ?_
  refine zr_iconst (v := (2 : Int32)) X dL_law_360 (by decide) ?_
  refine zr_iconst (v := (0 : Int32)) X dL_law_361 (by decide) ?_
  refine zr_callSX (rm9 := zrm_L_inLine) (As := [vr (x) 7, vi ((0 : Int32)), vi ((2 : Int32)), vi ((0 : Int32))]) (st := []) X zmh_L_288 rfl rfl ⟨by decide, Nat.le_of_ble_eq_true rfl⟩ ⟨by simp only [room_1, zrm_L_state, zrm_L_find, zrm_L_gate, zrm_L_card, zrm_L_inLine, zrm_L_why, zrm_L_whyNotJoin, zrm_L_bestGate, zrm_L_nextSide, zrm_L_throughIn, zrm_L_insideIn, zrm_L_followersIn, zrm_L_ranked, zrm_L_join, zrm_L_leave, zrm_L_list, zrm_L_charge, zrm_L_mode, zrm_L_key, zrm_L_tick, zrm_L_load, zrm_L_agrees, zrm_X7_errorOffset, zrm_X7_undo]; omega, by simp only [room_1, zrm_L_state, zrm_L_find, zrm_L_gate, zrm_L_card, zrm_L_inLine, zrm_L_why, zrm_L_whyNotJoin, zrm_L_bestGate, zrm_L_nextSide, zrm_L_throughIn, zrm_L_insideIn, zrm_L_followersIn, zrm_L_ranked, zrm_L_join, zrm_L_leave, zrm_L_list, zrm_L_charge, zrm_L_mode, zrm_L_key, zrm_L_tick, zrm_L_load, zrm_L_agrees, zrm_X7_errorOffset, zrm_X7_undo]; omega⟩ (Nat.le_of_ble_eq_true rfl) dL_law_362 ?_
  refine zL_inLine hC3 ?_
  refine zr_eq (x2 := (-2000000098 : Int32)) ((zcd_n (zN_inLine2 hn hW.ng.1)).trans rfl) ?_
  refine zr_ldc (v := -2000000098) X dL_law_365 zk_L_42 ?_
  refine zr_icmp_ne (tgt := 518) X dL_law_367 (by decide) (fun h => absurd h (by decide)) (fun _ => ?_)
  refine zr_aload3 X dL_law_370 ?_
  refine zr_iconst (v := (0 : Int32)) X dL_law_371 (by decide) ?_
  refine zr_iconst (v := (0 : Int32)) X dL_law_372 (by decide) ?_
  refine zr_iconst (v := (-1 : Int32)) X dL_law_373 (by decide) ?_
  refine zr_callSX (rm9 := zrm_L_inLine) (As := [vr (x) 7, vi ((0 : Int32)), vi ((0 : Int32)), vi ((-1 : Int32))]) (st := []) X zmh_L_288 rfl rfl ⟨by decide, Nat.le_of_ble_eq_true rfl⟩ ⟨by simp only [room_1, zrm_L_state, zrm_L_find, zrm_L_gate, zrm_L_card, zrm_L_inLine, zrm_L_why, zrm_L_whyNotJoin, zrm_L_bestGate, zrm_L_nextSide, zrm_L_throughIn, zrm_L_insideIn, zrm_L_followersIn, zrm_L_ranked, zrm_L_join, zrm_L_leave, zrm_L_list, zrm_L_charge, zrm_L_mode, zrm_L_key, zrm_L_tick, zrm_L_load, zrm_L_agrees, zrm_X7_errorOffset, zrm_X7_undo]; omega, by simp only [room_1, zrm_L_state, zrm_L_find, zrm_L_gate, zrm_L_card, zrm_L_inLine, zrm_L_why, zrm_L_whyNotJoin, zrm_L_bestGate, zrm_L_nextSide, zrm_L_throughIn, zrm_L_insideIn, zrm_L_followersIn, zrm_L_ranked, zrm_L_join, zrm_L_leave, zrm_L_list, zrm_L_charge, zrm_L_mode, zrm_L_key, zrm_L_tick, zrm_L_load, zrm_L_agrees, zrm_X7_errorOffset, zrm_X7_undo]; omega⟩ (Nat.le_of_ble_eq_true rfl) dL_law_374 ?_
  refine zL_inLine hC3 ?_
  refine zr_eq (x2 := (-2000000100 : Int32)) ((zcd_n (zN_inLineP hn hW.ng.1 (hW.len 0 0))).trans rfl) ?_
  refine zr_ldc (v := -2000000100) X dL_law_377 zk_L_65 ?_
  refine zr_icmp_ne (tgt := 518) X dL_law_379 (by decide) (fun h => absurd h (by decide)) (fun _ => ?_)
  refine zr_aload3 X dL_law_382 ?_
  refine zr_iconst (v := (0 : Int32)) X dL_law_383 (by decide) ?_
  refine zr_iconst (v := (2 : Int32)) X dL_law_384 (by decide) ?_
  refine zr_callSX (rm9 := zrm_L_why) (As := [vr (x) 7, vi ((0 : Int32)), vi ((2 : Int32))]) (st := []) X zmh_L_290 rfl rfl ⟨by decide, Nat.le_of_ble_eq_true rfl⟩ ⟨by simp only [room_1, zrm_L_state, zrm_L_find, zrm_L_gate, zrm_L_card, zrm_L_inLine, zrm_L_why, zrm_L_whyNotJoin, zrm_L_bestGate, zrm_L_nextSide, zrm_L_throughIn, zrm_L_insideIn, zrm_L_followersIn, zrm_L_ranked, zrm_L_join, zrm_L_leave, zrm_L_list, zrm_L_charge, zrm_L_mode, zrm_L_key, zrm_L_tick, zrm_L_load, zrm_L_agrees, zrm_X7_errorOffset, zrm_X7_undo]; omega, by simp only [room_1, zrm_L_state, zrm_L_find, zrm_L_gate, zrm_L_card, zrm_L_inLine, zrm_L_why, zrm_L_whyNotJoin, zrm_L_bestGate, zrm_L_nextSide, zrm_L_throughIn, zrm_L_insideIn, zrm_L_followersIn, zrm_L_ranked, zrm_L_join, zrm_L_leave, zrm_L_list, zrm_L_charge, zrm_L_mode, zrm_L_key, zrm_L_tick, zrm_L_load, zrm_L_agrees, zrm_X7_errorOffset, zrm_X7_undo]; omega⟩ (Nat.le_of_ble_eq_true rfl) dL_law_385 ?_
  refine zL_why hC3 ?_
  refine zr_eq (x2 := (-2000000098 : Int32)) ((zcd_n (zN_why hm hW.nc.1)).trans rfl) ?_
  refine zr_ldc (v := -2000000098) X dL_law_388 zk_L_42 ?_
  refine zr_icmp_ne (tgt := 518) X dL_law_390 (by decide) (fun h => absurd h (by decide)) (fun _ => ?_)
  refine zr_aload3 X dL_law_393 ?_
  refine zr_iconst (v := (0 : Int32)) X dL_law_394 (by decide) ?_
  refine zr_iconst (v := (0 : Int32)) X dL_law_395 (by decide) ?_
  refine zr_bipush (v := (-2 : Int32)) X dL_law_396 (by decide) ?_
  refine zr_callSX (rm9 := zrm_L_whyNotJoin) (As := [vr (x) 7, vi ((0 : Int32)), vi ((0 : Int32)), vi ((-2 : Int32))]) (st := []) X zmh_L_292 rfl rfl ⟨by decide, Nat.le_of_ble_eq_true rfl⟩ ⟨by simp only [room_1, zrm_L_state, zrm_L_find, zrm_L_gate, zrm_L_card, zrm_L_inLine, zrm_L_why, zrm_L_whyNotJoin, zrm_L_bestGate, zrm_L_nextSide, zrm_L_throughIn, zrm_L_insideIn, zrm_L_followersIn, zrm_L_ranked, zrm_L_join, zrm_L_leave, zrm_L_list, zrm_L_charge, zrm_L_mode, zrm_L_key, zrm_L_tick, zrm_L_load, zrm_L_agrees, zrm_X7_errorOffset, zrm_X7_undo]; omega, by simp only [room_1, zrm_L_state, zrm_L_find, zrm_L_gate, zrm_L_card, zrm_L_inLine, zrm_L_why, zrm_L_whyNotJoin, zrm_L_bestGate, zrm_L_nextSide, zrm_L_throughIn, zrm_L_insideIn, zrm_L_followersIn, zrm_L_ranked, zrm_L_join, zrm_L_leave, zrm_L_list, zrm_L_charge, zrm_L_mode, zrm_L_key, zrm_L_tick, zrm_L_load, zrm_L_agrees, zrm_X7_errorOffset, zrm_X7_undo]; omega⟩ (Nat.le_of_ble_eq_true rfl) dL_law_398 ?_
  refine zL_whyNotJoin hC3 ?_
  refine zr_eq (x2 := (-2000000097 : Int32)) ((zcd_n (zN_whyJoinC hn hW.ng.1 hW.nc.1)).trans rfl) ?_
  refine zr_ldc (v := -2000000097) X dL_law_401 zk_L_55 ?_
  refine zr_icmp_ne (tgt := 518) X dL_law_403 (by decide) (fun h => absurd h (by decide)) (fun _ => ?_)
  refine zr_aload3 X dL_law_406 ?_
  refine zr_iconst (v := (0 : Int32)) X dL_law_407 (by decide) ?_
  refine zr_iconst (v := (2 : Int32)) X dL_law_408 (by decide) ?_
  refine zr_iconst (v := (-1 : Int32)) X dL_law_409 (by decide) ?_
  refine zr_callSX (rm9 := zrm_L_whyNotJoin) (As := [vr (x) 7, vi ((0 : Int32)), vi ((2 : Int32)), vi ((-1 : Int32))]) (st := []) X zmh_L_292 rfl rfl ⟨by decide, Nat.le_of_ble_eq_true rfl⟩ ⟨by simp only [room_1, zrm_L_state, zrm_L_find, zrm_L_gate, zrm_L_card, zrm_L_inLine, zrm_L_why, zrm_L_whyNotJoin, zrm_L_bestGate, zrm_L_nextSide, zrm_L_throughIn, zrm_L_insideIn, zrm_L_followersIn, zrm_L_ranked, zrm_L_join, zrm_L_leave, zrm_L_list, zrm_L_charge, zrm_L_mode, zrm_L_key, zrm_L_tick, zrm_L_load, zrm_L_agrees, zrm_X7_errorOffset, zrm_X7_undo]; omega, by simp only [room_1, zrm_L_state, zrm_L_find, zrm_L_gate, zrm_L_card, zrm_L_inLine, zrm_L_why, zrm_L_whyNotJoin, zrm_L_bestGate, zrm_L_nextSide, zrm_L_throughIn, zrm_L_insideIn, zrm_L_followersIn, zrm_L_ranked, zrm_L_join, zrm_L_leave, zrm_L_list, zrm_L_charge, zrm_L_mode, zrm_L_key, zrm_L_tick, zrm_L_load, zrm_L_agrees, zrm_X7_errorOffset, zrm_X7_undo]; omega⟩ (Nat.le_of_ble_eq_true rfl) dL_law_410 ?_
  refine zL_whyNotJoin hC3 ?_
  refine zr_eq (x2 := (-2000000098 : Int32)) ((zcd_n (zN_whyJoinS hn hW.ng.1)).trans rfl) ?_
  refine zr_ldc (v := -2000000098) X dL_law_413 zk_L_42 ?_
  refine zr_icmp_ne (tgt := 518) X dL_law_415 (by decide) (fun h => absurd h (by decide)) (fun _ => ?_)
  refine zr_aload3 X dL_law_418 ?_
  refine zr_iconst (v := (-1 : Int32)) X dL_law_419 (by decide) ?_
  refine zr_callSX (rm9 := zrm_L_bestGate) (As := [vr (x) 7, vi ((-1 : Int32))]) (st := []) X zmh_L_294 rfl rfl ⟨by decide, Nat.le_of_ble_eq_true rfl⟩ ⟨by simp only [room_1, zrm_L_state, zrm_L_find, zrm_L_gate, zrm_L_card, zrm_L_inLine, zrm_L_why, zrm_L_whyNotJoin, zrm_L_bestGate, zrm_L_nextSide, zrm_L_throughIn, zrm_L_insideIn, zrm_L_followersIn, zrm_L_ranked, zrm_L_join, zrm_L_leave, zrm_L_list, zrm_L_charge, zrm_L_mode, zrm_L_key, zrm_L_tick, zrm_L_load, zrm_L_agrees, zrm_X7_errorOffset, zrm_X7_undo]; omega, by simp only [room_1, zrm_L_state, zrm_L_find, zrm_L_gate, zrm_L_card, zrm_L_inLine, zrm_L_why, zrm_L_whyNotJoin, zrm_L_bestGate, zrm_L_nextSide, zrm_L_throughIn, zrm_L_insideIn, zrm_L_followersIn, zrm_L_ranked, zrm_L_join, zrm_L_leave, zrm_L_list, zrm_L_charge, zrm_L_mode, zrm_L_key, zrm_L_tick, zrm_L_load, zrm_L_agrees, zrm_X7_errorOffset, zrm_X7_undo]; omega⟩ (Nat.le_of_ble_eq_true rfl) dL_law_420 ?_
  refine zL_bestGate hC3 ?_
  refine zr_eq (x2 := (-2000000098 : Int32)) ((zcd_n (zN_best)).trans rfl) ?_
  refine zr_ldc (v := -2000000098) X dL_law_423 zk_L_42 ?_
  refine zr_icmp_ne (tgt := 518) X dL_law_425 (by decide) (fun h => absurd h (by decide)) (fun _ => ?_)
  refine zr_aload3 X dL_law_428 ?_
  refine zr_iconst (v := (-1 : Int32)) X dL_law_429 (by decide) ?_
  refine zr_callSX (rm9 := zrm_L_nextSide) (As := [vr (x) 7, vi ((-1 : Int32))]) (st := []) X zmh_L_296 rfl rfl ⟨by decide, Nat.le_of_ble_eq_true rfl⟩ ⟨by simp only [room_1, zrm_L_state, zrm_L_find, zrm_L_gate, zrm_L_card, zrm_L_inLine, zrm_L_why, zrm_L_whyNotJoin, zrm_L_bestGate, zrm_L_nextSide, zrm_L_throughIn, zrm_L_insideIn, zrm_L_followersIn, zrm_L_ranked, zrm_L_join, zrm_L_leave, zrm_L_list, zrm_L_charge, zrm_L_mode, zrm_L_key, zrm_L_tick, zrm_L_load, zrm_L_agrees, zrm_X7_errorOffset, zrm_X7_undo]; omega, by simp only [room_1, zrm_L_state, zrm_L_find, zrm_L_gate, zrm_L_card, zrm_L_inLine, zrm_L_why, zrm_L_whyNotJoin, zrm_L_bestGate, zrm_L_nextSide, zrm_L_throughIn, zrm_L_insideIn, zrm_L_followersIn, zrm_L_ranked, zrm_L_join, zrm_L_leave, zrm_L_list, zrm_L_charge, zrm_L_mode, zrm_L_key, zrm_L_tick, zrm_L_load, zrm_L_agrees, zrm_X7_errorOffset, zrm_X7_undo]; omega⟩ (Nat.le_of_ble_eq_true rfl) dL_law_430 ?_
  refine zL_nextSide hC3 ?_
  refine zr_eq (x2 := (-2000000097 : Int32)) ((zcd_n (zN_next hW.ng.1)).trans rfl) ?_
  refine zr_ldc (v := -2000000097) X dL_law_433 zk_L_55 ?_
  refine zr_icmp_ne (tgt := 518) X dL_law_435 (by decide) (fun h => absurd h (by decide)) (fun _ => ?_)
  refine zr_aload3 X dL_law_438 ?_
  refine zr_iconst (v := (-1 : Int32)) X dL_law_439 (by decide) ?_
  refine zr_callSX (rm9 := zrm_L_throughIn) (As := [vr (x) 7, vi ((-1 : Int32))]) (st := []) X zmh_L_298 rfl rfl ⟨by decide, Nat.le_of_ble_eq_true rfl⟩ ⟨by simp only [room_1, zrm_L_state, zrm_L_find, zrm_L_gate, zrm_L_card, zrm_L_inLine, zrm_L_why, zrm_L_whyNotJoin, zrm_L_bestGate, zrm_L_nextSide, zrm_L_throughIn, zrm_L_insideIn, zrm_L_followersIn, zrm_L_ranked, zrm_L_join, zrm_L_leave, zrm_L_list, zrm_L_charge, zrm_L_mode, zrm_L_key, zrm_L_tick, zrm_L_load, zrm_L_agrees, zrm_X7_errorOffset, zrm_X7_undo]; omega, by simp only [room_1, zrm_L_state, zrm_L_find, zrm_L_gate, zrm_L_card, zrm_L_inLine, zrm_L_why, zrm_L_whyNotJoin, zrm_L_bestGate, zrm_L_nextSide, zrm_L_throughIn, zrm_L_insideIn, zrm_L_followersIn, zrm_L_ranked, zrm_L_join, zrm_L_leave, zrm_L_list, zrm_L_charge, zrm_L_mode, zrm_L_key, zrm_L_tick, zrm_L_load, zrm_L_agrees, zrm_X7_errorOffset, zrm_X7_undo]; omega⟩ (Nat.le_of_ble_eq_true rfl) dL_law_440 ?_
  refine zL_throughIn hC3 (fun J4 hJ5 => ?_)
  have hC6 := hJ5.re
  refine zr_eq (x2 := (-2000000097 : Int32)) ((zcd_n (zN_through hW.nc.1)).trans rfl) ?_
  refine zr_ldc (v := -2000000097) X dL_law_443 zk_L_55 ?_
  refine zr_icmp_ne (tgt := 518) X dL_law_445 (by decide) (fun h => absurd h (by decide)) (fun _ => ?_)
  refine zr_aload3 X dL_law_448 ?_
  refine zr_sipush (v := (201 : Int32)) X dL_law_449 (by decide) ?_
  refine zr_callSX (rm9 := zrm_L_insideIn) (As := [vr (x) 7, vi ((201 : Int32))]) (st := []) X zmh_L_300 rfl rfl ⟨by decide, Nat.le_of_ble_eq_true rfl⟩ ⟨by simp only [room_1, zrm_L_state, zrm_L_find, zrm_L_gate, zrm_L_card, zrm_L_inLine, zrm_L_why, zrm_L_whyNotJoin, zrm_L_bestGate, zrm_L_nextSide, zrm_L_throughIn, zrm_L_insideIn, zrm_L_followersIn, zrm_L_ranked, zrm_L_join, zrm_L_leave, zrm_L_list, zrm_L_charge, zrm_L_mode, zrm_L_key, zrm_L_tick, zrm_L_load, zrm_L_agrees, zrm_X7_errorOffset, zrm_X7_undo]; omega, by simp only [room_1, zrm_L_state, zrm_L_find, zrm_L_gate, zrm_L_card, zrm_L_inLine, zrm_L_why, zrm_L_whyNotJoin, zrm_L_bestGate, zrm_L_nextSide, zrm_L_throughIn, zrm_L_insideIn, zrm_L_followersIn, zrm_L_ranked, zrm_L_join, zrm_L_leave, zrm_L_list, zrm_L_charge, zrm_L_mode, zrm_L_key, zrm_L_tick, zrm_L_load, zrm_L_agrees, zrm_X7_errorOffset, zrm_X7_undo]; omega⟩ (Nat.le_of_ble_eq_true rfl) dL_law_452 ?_
  refine zL_insideIn hC6 (fun J7 hJ8 => ?_)
  have hC9 := hJ8.re
  refine zr_eq (x2 := (-2000000098 : Int32)) ((zcd_n (zN_inside)).trans rfl) ?_
  refine zr_ldc (v := -2000000098) X dL_law_455 zk_L_42 ?_
  refine zr_icmp_ne (tgt := 518) X dL_law_457 (by decide) (fun h => absurd h (by decide)) (fun _ => ?_)
  refine zr_aload3 X dL_law_460 ?_
  refine zr_iconst (v := (0 : Int32)) X dL_law_461 (by decide) ?_
  refine zr_callSX (rm9 := zrm_L_followersIn) (As := [vr (x) 7, vi ((0 : Int32))]) (st := []) X zmh_L_302 rfl rfl ⟨by decide, Nat.le_of_ble_eq_true rfl⟩ ⟨by simp only [room_1, zrm_L_state, zrm_L_find, zrm_L_gate, zrm_L_card, zrm_L_inLine, zrm_L_why, zrm_L_whyNotJoin, zrm_L_bestGate, zrm_L_nextSide, zrm_L_throughIn, zrm_L_insideIn, zrm_L_followersIn, zrm_L_ranked, zrm_L_join, zrm_L_leave, zrm_L_list, zrm_L_charge, zrm_L_mode, zrm_L_key, zrm_L_tick, zrm_L_load, zrm_L_agrees, zrm_X7_errorOffset, zrm_X7_undo]; omega, by simp only [room_1, zrm_L_state, zrm_L_find, zrm_L_gate, zrm_L_card, zrm_L_inLine, zrm_L_why, zrm_L_whyNotJoin, zrm_L_bestGate, zrm_L_nextSide, zrm_L_throughIn, zrm_L_insideIn, zrm_L_followersIn, zrm_L_ranked, zrm_L_join, zrm_L_leave, zrm_L_list, zrm_L_charge, zrm_L_mode, zrm_L_key, zrm_L_tick, zrm_L_load, zrm_L_agrees, zrm_X7_errorOffset, zrm_X7_undo]; omega⟩ (Nat.le_of_ble_eq_true rfl) dL_law_462 ?_
  refine zL_followersIn hC9 (fun J10 hJ11 => ?_)
  have hC12 := hJ11.re
  refine zr_eq (x2 := (-2000000098 : Int32)) ((zcd_n (zN_follow)).trans rfl) ?_
  refine zr_ldc (v := -2000000098) X dL_law_465 zk_L_42 ?_
  refine zr_icmp_ne (tgt := 518) X dL_law_467 (by decide) (fun h => absurd h (by decide)) (fun _ => ?_)
  refine zr_aload3 X dL_law_470 ?_
  refine zr_iconst (v := (-1 : Int32)) X dL_law_471 (by decide) ?_
  refine zr_callSX (rm9 := zrm_L_ranked) (As := [vr (x) 7, vi ((-1 : Int32))]) (st := []) X zmh_L_304 rfl rfl ⟨by decide, Nat.le_of_ble_eq_true rfl⟩ ⟨by simp only [room_1, zrm_L_state, zrm_L_find, zrm_L_gate, zrm_L_card, zrm_L_inLine, zrm_L_why, zrm_L_whyNotJoin, zrm_L_bestGate, zrm_L_nextSide, zrm_L_throughIn, zrm_L_insideIn, zrm_L_followersIn, zrm_L_ranked, zrm_L_join, zrm_L_leave, zrm_L_list, zrm_L_charge, zrm_L_mode, zrm_L_key, zrm_L_tick, zrm_L_load, zrm_L_agrees, zrm_X7_errorOffset, zrm_X7_undo]; omega, by simp only [room_1, zrm_L_state, zrm_L_find, zrm_L_gate, zrm_L_card, zrm_L_inLine, zrm_L_why, zrm_L_whyNotJoin, zrm_L_bestGate, zrm_L_nextSide, zrm_L_throughIn, zrm_L_insideIn, zrm_L_followersIn, zrm_L_ranked, zrm_L_join, zrm_L_leave, zrm_L_list, zrm_L_charge, zrm_L_mode, zrm_L_key, zrm_L_tick, zrm_L_load, zrm_L_agrees, zrm_X7_errorOffset, zrm_X7_undo]; omega⟩ (Nat.le_of_ble_eq_true rfl) dL_law_472 ?_
  refine zL_ranked hC12 ?_
  refine zr_eq (x2 := (-2000000100 : Int32)) ((zcd_n (zN_rank hW.ng.1)).trans rfl) ?_
  refine zr_ldc (v := -2000000100) X dL_law_475 zk_L_65 ?_
  refine zr_icmp_ne (tgt := 518) X dL_law_477 (by decide) (fun h => absurd h (by decide)) (fun _ => ?_)
  refine zr_aload3 X dL_law_480 ?_
  refine zr_iconst (v := (0 : Int32)) X dL_law_481 (by decide) ?_
  refine zr_iconst (v := (3 : Int32)) X dL_law_482 (by decide) ?_
  refine zr_callSX (rm9 := zrm_L_mode) (As := [vr (x) 7, vi ((0 : Int32)), vi ((3 : Int32))]) (st := []) X zmh_L_238 rfl rfl ⟨by decide, Nat.le_of_ble_eq_true rfl⟩ ⟨by simp only [room_1, zrm_L_state, zrm_L_find, zrm_L_gate, zrm_L_card, zrm_L_inLine, zrm_L_why, zrm_L_whyNotJoin, zrm_L_bestGate, zrm_L_nextSide, zrm_L_throughIn, zrm_L_insideIn, zrm_L_followersIn, zrm_L_ranked, zrm_L_join, zrm_L_leave, zrm_L_list, zrm_L_charge, zrm_L_mode, zrm_L_key, zrm_L_tick, zrm_L_load, zrm_L_agrees, zrm_X7_errorOffset, zrm_X7_undo]; omega, by simp only [room_1, zrm_L_state, zrm_L_find, zrm_L_gate, zrm_L_card, zrm_L_inLine, zrm_L_why, zrm_L_whyNotJoin, zrm_L_bestGate, zrm_L_nextSide, zrm_L_throughIn, zrm_L_insideIn, zrm_L_followersIn, zrm_L_ranked, zrm_L_join, zrm_L_leave, zrm_L_list, zrm_L_charge, zrm_L_mode, zrm_L_key, zrm_L_tick, zrm_L_load, zrm_L_agrees, zrm_X7_errorOffset, zrm_X7_undo]; omega⟩ (Nat.le_of_ble_eq_true rfl) dL_law_483 ?_
  refine zL_mode hC12 (fun J13 hJ14 => ?_)
  rw [zif_n (zN_mode3 hn hW.ng.1), zif_n (zN_mode3 hn hW.ng.1)] at hJ14
  have hC15 := hJ14.re
  refine zr_eq (x2 := (-2000000098 : Int32)) ((zcd_n (zN_mode3 hn hW.ng.1)).trans rfl) ?_
  refine zr_ldc (v := -2000000098) X dL_law_486 zk_L_42 ?_
  refine zr_icmp_ne (tgt := 518) X dL_law_488 (by decide) (fun h => absurd h (by decide)) (fun _ => ?_)
  refine zr_aload3 X dL_law_491 ?_
  refine zr_iconst (v := (0 : Int32)) X dL_law_492 (by decide) ?_
  refine zr_iconst (v := (0 : Int32)) X dL_law_493 (by decide) ?_
  refine zr_callSX (rm9 := zrm_L_charge) (As := [vr (x) 7, vi ((0 : Int32)), vi ((0 : Int32))]) (st := []) X zmh_L_225 rfl rfl ⟨by decide, Nat.le_of_ble_eq_true rfl⟩ ⟨by simp only [room_1, zrm_L_state, zrm_L_find, zrm_L_gate, zrm_L_card, zrm_L_inLine, zrm_L_why, zrm_L_whyNotJoin, zrm_L_bestGate, zrm_L_nextSide, zrm_L_throughIn, zrm_L_insideIn, zrm_L_followersIn, zrm_L_ranked, zrm_L_join, zrm_L_leave, zrm_L_list, zrm_L_charge, zrm_L_mode, zrm_L_key, zrm_L_tick, zrm_L_load, zrm_L_agrees, zrm_X7_errorOffset, zrm_X7_undo]; omega, by simp only [room_1, zrm_L_state, zrm_L_find, zrm_L_gate, zrm_L_card, zrm_L_inLine, zrm_L_why, zrm_L_whyNotJoin, zrm_L_bestGate, zrm_L_nextSide, zrm_L_throughIn, zrm_L_insideIn, zrm_L_followersIn, zrm_L_ranked, zrm_L_join, zrm_L_leave, zrm_L_list, zrm_L_charge, zrm_L_mode, zrm_L_key, zrm_L_tick, zrm_L_load, zrm_L_agrees, zrm_X7_errorOffset, zrm_X7_undo]; omega⟩ (Nat.le_of_ble_eq_true rfl) dL_law_494 ?_
  refine zL_charge hC15 (fun J16 hJ17 => ?_)
  rw [zif_n (zN_charge00 hm hW.nc.1), zif_n (zN_charge00 hm hW.nc.1)] at hJ17
  have hC18 := hJ17.re
  refine zr_eq (x2 := (-2000000098 : Int32)) ((zcd_n (zN_charge00 hm hW.nc.1)).trans rfl) ?_
  refine zr_ldc (v := -2000000098) X dL_law_497 zk_L_42 ?_
  refine zr_icmp_ne (tgt := 518) X dL_law_499 (by decide) (fun h => absurd h (by decide)) (fun _ => ?_)
  refine zr_aload3 X dL_law_502 ?_
  refine zr_iconst (v := (0 : Int32)) X dL_law_503 (by decide) ?_
  refine zr_iconst (v := (2 : Int32)) X dL_law_504 (by decide) ?_
  refine zr_iconst (v := (-1 : Int32)) X dL_law_505 (by decide) ?_
  refine zr_callSX (rm9 := zrm_L_join) (As := [vr (x) 7, vi ((0 : Int32)), vi ((2 : Int32)), vi ((-1 : Int32))]) (st := []) X zmh_L_197 rfl rfl ⟨by decide, Nat.le_of_ble_eq_true rfl⟩ ⟨by simp only [room_1, zrm_L_state, zrm_L_find, zrm_L_gate, zrm_L_card, zrm_L_inLine, zrm_L_why, zrm_L_whyNotJoin, zrm_L_bestGate, zrm_L_nextSide, zrm_L_throughIn, zrm_L_insideIn, zrm_L_followersIn, zrm_L_ranked, zrm_L_join, zrm_L_leave, zrm_L_list, zrm_L_charge, zrm_L_mode, zrm_L_key, zrm_L_tick, zrm_L_load, zrm_L_agrees, zrm_X7_errorOffset, zrm_X7_undo]; omega, by simp only [room_1, zrm_L_state, zrm_L_find, zrm_L_gate, zrm_L_card, zrm_L_inLine, zrm_L_why, zrm_L_whyNotJoin, zrm_L_bestGate, zrm_L_nextSide, zrm_L_throughIn, zrm_L_insideIn, zrm_L_followersIn, zrm_L_ranked, zrm_L_join, zrm_L_leave, zrm_L_list, zrm_L_charge, zrm_L_mode, zrm_L_key, zrm_L_tick, zrm_L_load, zrm_L_agrees, zrm_X7_errorOffset, zrm_X7_undo]; omega⟩ (Nat.le_of_ble_eq_true rfl) dL_law_506 ?_
  refine zL_join hC18 (fun J19 hJ20 => ?_)
  rw [zif_n (zN_join2 hn hW.ng.1), zif_n (zN_join2 hn hW.ng.1)] at hJ20
  have hC21 := hJ20.re
  refine zr_eq (x2 := (-2000000098 : Int32)) ((zcd_n (zN_join2 hn hW.ng.1)).trans rfl) ?_
  refine zr_ldc (v := -2000000098) X dL_law_509 zk_L_42 ?_
  refine zr_icmp_ne (tgt := 518) X dL_law_511 (by decide) (fun h => absurd h (by decide)) (fun _ => ?_)
  refine zr_iconst (v := (1 : Int32)) X dL_law_514 (by decide) ?_
  refine zr_goto (tgt := 519) X dL_law_515 (by decide) ?_
  refine zr_istore1 X (by decide) rfl dL_law_519 ?_
  refine zr_iinc2 (v := (nI (i + 1))) X (show nI (i) + Int32.ofInt 1 = nI (i + 1) from nI_1 (i)) (by decide) rfl dL_law_520 ?_
  refine zr_goto (tgt := 4) X dL_law_523 (by decide) ?_
  refine zr_forget (lv2 := [some (vr (sa 37) (61)), some (vi ((1 : Int32))), some (vi ((nI (i + 1)))), none, none, none, none, none, none, none, none]) (fun j9 v9 h9 => by rcases j9 with _ | _ | _ | _ | _ | _ | _ | _ | _ | _ | _ | j9 <;> first | exact h9 | (simp at h9; done) | (simp at h9)) ?_
  refine zr_more (k := cells + 40) (n := slots + 400) (by simp only [room_1, zrm_L_state, zrm_L_find, zrm_L_gate, zrm_L_card, zrm_L_inLine, zrm_L_why, zrm_L_whyNotJoin, zrm_L_bestGate, zrm_L_nextSide, zrm_L_throughIn, zrm_L_insideIn, zrm_L_followersIn, zrm_L_ranked, zrm_L_join, zrm_L_leave, zrm_L_list, zrm_L_charge, zrm_L_mode, zrm_L_key, zrm_L_tick, zrm_L_load, zrm_L_agrees, zrm_X7_errorOffset, zrm_X7_undo]; omega) (by simp only [room_1, zrm_L_state, zrm_L_find, zrm_L_gate, zrm_L_card, zrm_L_inLine, zrm_L_why, zrm_L_whyNotJoin, zrm_L_bestGate, zrm_L_nextSide, zrm_L_throughIn, zrm_L_insideIn, zrm_L_followersIn, zrm_L_ranked, zrm_L_join, zrm_L_leave, zrm_L_list, zrm_L_charge, zrm_L_mode, zrm_L_key, zrm_L_tick, zrm_L_load, zrm_L_agrees, zrm_X7_errorOffset, zrm_X7_undo]; omega) ?_
  exact hk _
