/-! ===== the law, from a class that is made on ===== -/
theorem zX_sv {p : Program} {l : Launch} {e : Env} {R : Room} {s : State} {m : MethodId} {args : Array Value} {below : List Frame} {meth : Method} {c : Code} {own : String} {cc : ByteArray} {nL : Nat} {ret : Option FieldType} {D : va_G} {b0 : Nat} {tA : Nat → ClassId} {sa sv : Nat → Nat} (X : zX p l e R s m args below meth c own cc nL ret D b0 tA sa sv) : sv 0 < 2 ^ 30 := by
  have hk := X.2.2.2.2.2.2.1.2.2.2.2.2.2.2.2.2.2.2.2
  have := hk.2
  omega
set_option maxRecDepth 20000 in
theorem zlb_law {l : Launch} {D : va_G} {b0 : Nat} {tA : Nat → ClassId} {sa sv : Nat → Nat} {p : Program} {e : Env} {s : State} {m : MethodId} {args : Array Value} {below : List Frame} {meth : Method} {c : Code} {Q : State → Prop} {K9 : zKt} {I : zI} {cells slots : Nat} {x w r : Nat} {i : Nat} {A : Nat → Nat}
    (X : zX p l e room_1 s m args below meth c RL cL_law 11 (some .boolean) D b0 tA sa sv) (hC : zCl I I x (fun _ => 0) 0 (-1) zBlank []) (hw0 : ∀ j, I w j = 0) (hS : zSh K9 A 0 0) (hM : zSt I A 0 0 zBlank) (hA : ∀ i, zvd 0 0 i → x + 501 ≤ A i) (hE : x + 501 ≤ w ∧ x + 501 ≤ r ∧ w ≠ r) (hkw : K9.1 w = some 19) (hkr : K9.1 r = some 16) (hc9 : cells ≤ 500000) (hs9 : slots ≤ 6000000) (hk : ∀ (K9 : zKt) (J : zI) (c9 s9 : Nat), c9 ≤ cells + 8000 → s9 ≤ slots + 60000 → zG p l e room_1 s m args below meth c 11 D b0 tA sa c9 s9 Q K9 4 [some (vr (sa 37) (61)), some (vi ((1 : Int32))), some (vi ((nI (i + 1)))), none, none, none, none, none, none, none, none] [] J) :
    zG p l e room_1 s m args below meth c 11 D b0 tA sa cells slots Q K9 54 [some (vr (sa 37) (61)), some (vi ((1 : Int32))), some (vi ((nI i))), some (vr (x) 7), some (vr (w) 19), some (vr (r) 16), some (vr (A (0)) 17), none, none, none, none] [] I := by
  refine zr_aload3 X dL_law_54 ?_
  refine zr_callVQ (rm9 := zrm_X7_errorOffset) (As := []) (st := []) X zm_L_264 rfl rfl ⟨by decide, Nat.le_of_ble_eq_true rfl⟩ ⟨by simp only [room_1, zrm_L_state, zrm_L_find, zrm_L_gate, zrm_L_card, zrm_L_inLine, zrm_L_why, zrm_L_whyNotJoin, zrm_L_bestGate, zrm_L_nextSide, zrm_L_throughIn, zrm_L_insideIn, zrm_L_followersIn, zrm_L_ranked, zrm_L_join, zrm_L_leave, zrm_L_list, zrm_L_charge, zrm_L_mode, zrm_L_key, zrm_L_tick, zrm_L_load, zrm_L_agrees, zrm_X7_errorOffset, zrm_X7_undo, zrm_L_randomRow]; omega, by simp only [room_1, zrm_L_state, zrm_L_find, zrm_L_gate, zrm_L_card, zrm_L_inLine, zrm_L_why, zrm_L_whyNotJoin, zrm_L_bestGate, zrm_L_nextSide, zrm_L_throughIn, zrm_L_insideIn, zrm_L_followersIn, zrm_L_ranked, zrm_L_join, zrm_L_leave, zrm_L_list, zrm_L_charge, zrm_L_mode, zrm_L_key, zrm_L_tick, zrm_L_load, zrm_L_agrees, zrm_X7_errorOffset, zrm_X7_undo, zrm_L_randomRow]; omega⟩ (Nat.le_of_ble_eq_true rfl) dL_law_55 ?_
  refine zq_X7_errorOffset hC ?_
  refine zr_iconst (v := (-1 : Int32)) X dL_law_58 (by decide) ?_
  refine zr_icmp_ne (tgt := 160) X dL_law_59 (by decide) (fun h => absurd h (by decide)) (fun _ => ?_)
  refine zr_aload3 X dL_law_62 ?_
  refine zr_callVQ (rm9 := zrm_X7_undo) (As := []) (st := []) X zm_L_267 rfl rfl ⟨by decide, Nat.le_of_ble_eq_true rfl⟩ ⟨by simp only [room_1, zrm_L_state, zrm_L_find, zrm_L_gate, zrm_L_card, zrm_L_inLine, zrm_L_why, zrm_L_whyNotJoin, zrm_L_bestGate, zrm_L_nextSide, zrm_L_throughIn, zrm_L_insideIn, zrm_L_followersIn, zrm_L_ranked, zrm_L_join, zrm_L_leave, zrm_L_list, zrm_L_charge, zrm_L_mode, zrm_L_key, zrm_L_tick, zrm_L_load, zrm_L_agrees, zrm_X7_errorOffset, zrm_X7_undo, zrm_L_randomRow]; omega, by simp only [room_1, zrm_L_state, zrm_L_find, zrm_L_gate, zrm_L_card, zrm_L_inLine, zrm_L_why, zrm_L_whyNotJoin, zrm_L_bestGate, zrm_L_nextSide, zrm_L_throughIn, zrm_L_insideIn, zrm_L_followersIn, zrm_L_ranked, zrm_L_join, zrm_L_leave, zrm_L_list, zrm_L_charge, zrm_L_mode, zrm_L_key, zrm_L_tick, zrm_L_load, zrm_L_agrees, zrm_X7_errorOffset, zrm_X7_undo, zrm_L_randomRow]; omega⟩ (Nat.le_of_ble_eq_true rfl) dL_law_63 ?_
  refine zq_X7_undo hC (fun J1 hJ2 => ?_)
  have hC3 : zCl J1 J1 x (fun _ => 0) 0 (-1) zBlank [] := hJ2.re
  refine zr_eq (x2 := (-1 : Int32)) rfl ?_
  refine zr_iconst (v := (-1 : Int32)) X dL_law_66 (by decide) ?_
  refine zr_icmp_ne (tgt := 160) X dL_law_67 (by decide) (fun h => absurd h (by decide)) (fun _ => ?_)
  refine zr_aload3 X dL_law_70 ?_
  refine zr_aload6 X dL_law_71 ?_
  refine zr_callSQ (rm9 := zrm_L_agrees) (As := [vr (x) 7, vr (A (0)) 17]) (st := []) X zm_L_270 rfl rfl ⟨by decide, Nat.le_of_ble_eq_true rfl⟩ ⟨by simp only [room_1, zrm_L_state, zrm_L_find, zrm_L_gate, zrm_L_card, zrm_L_inLine, zrm_L_why, zrm_L_whyNotJoin, zrm_L_bestGate, zrm_L_nextSide, zrm_L_throughIn, zrm_L_insideIn, zrm_L_followersIn, zrm_L_ranked, zrm_L_join, zrm_L_leave, zrm_L_list, zrm_L_charge, zrm_L_mode, zrm_L_key, zrm_L_tick, zrm_L_load, zrm_L_agrees, zrm_X7_errorOffset, zrm_X7_undo, zrm_L_randomRow]; omega, by simp only [room_1, zrm_L_state, zrm_L_find, zrm_L_gate, zrm_L_card, zrm_L_inLine, zrm_L_why, zrm_L_whyNotJoin, zrm_L_bestGate, zrm_L_nextSide, zrm_L_throughIn, zrm_L_insideIn, zrm_L_followersIn, zrm_L_ranked, zrm_L_join, zrm_L_leave, zrm_L_list, zrm_L_charge, zrm_L_mode, zrm_L_key, zrm_L_tick, zrm_L_load, zrm_L_agrees, zrm_X7_errorOffset, zrm_X7_undo, zrm_L_randomRow]; omega⟩ (Nat.le_of_ble_eq_true rfl) dL_law_73 ?_
  refine zp_L_agrees (A := A) hC3 hS (hM.on (fun i hi => (hJ2.2.2.2.2.1.2 (A i) (Or.inr (hA i hi))))) zGp_blank.gap ?_
  refine zr_if_eq (tgt := 160) X dL_law_76 (by decide) (fun h => absurd h (by decide)) (fun _ => ?_)
  refine zr_aload3 X dL_law_79 ?_
  refine zr_iconst (v := (0 : Int32)) X dL_law_80 (by decide) ?_
  refine zr_iconst (v := (0 : Int32)) X dL_law_81 (by decide) ?_
  refine zr_iconst (v := (-1 : Int32)) X dL_law_82 (by decide) ?_
  refine zr_callSX (rm9 := zrm_L_join) (As := [vr (x) 7, vi ((0 : Int32)), vi ((0 : Int32)), vi ((-1 : Int32))]) (st := []) X zmh_L_197 rfl rfl ⟨by decide, Nat.le_of_ble_eq_true rfl⟩ ⟨by simp only [room_1, zrm_L_state, zrm_L_find, zrm_L_gate, zrm_L_card, zrm_L_inLine, zrm_L_why, zrm_L_whyNotJoin, zrm_L_bestGate, zrm_L_nextSide, zrm_L_throughIn, zrm_L_insideIn, zrm_L_followersIn, zrm_L_ranked, zrm_L_join, zrm_L_leave, zrm_L_list, zrm_L_charge, zrm_L_mode, zrm_L_key, zrm_L_tick, zrm_L_load, zrm_L_agrees, zrm_X7_errorOffset, zrm_X7_undo, zrm_L_randomRow]; omega, by simp only [room_1, zrm_L_state, zrm_L_find, zrm_L_gate, zrm_L_card, zrm_L_inLine, zrm_L_why, zrm_L_whyNotJoin, zrm_L_bestGate, zrm_L_nextSide, zrm_L_throughIn, zrm_L_insideIn, zrm_L_followersIn, zrm_L_ranked, zrm_L_join, zrm_L_leave, zrm_L_list, zrm_L_charge, zrm_L_mode, zrm_L_key, zrm_L_tick, zrm_L_load, zrm_L_agrees, zrm_X7_errorOffset, zrm_X7_undo, zrm_L_randomRow]; omega⟩ (Nat.le_of_ble_eq_true rfl) dL_law_83 ?_
  refine zL_join hC3 (fun J4 hJ5 => ?_)
  rw [zif_n (zN_join0 (S := zBlank) rfl), zif_n (zN_join0 (S := zBlank) rfl)] at hJ5
  have hC6 := hJ5.re
  refine zr_eq (x2 := (-2000000097 : Int32)) ((zcd_n (zN_join0 (S := zBlank) rfl)).trans rfl) ?_
  refine zr_ldc (v := -2000000097) X dL_law_86 zk_L_55 ?_
  refine zr_icmp_ne (tgt := 160) X dL_law_88 (by decide) (fun h => absurd h (by decide)) (fun _ => ?_)
  refine zr_aload3 X dL_law_91 ?_
  refine zr_iconst (v := (0 : Int32)) X dL_law_92 (by decide) ?_
  refine zr_iconst (v := (0 : Int32)) X dL_law_93 (by decide) ?_
  refine zr_iconst (v := (0 : Int32)) X dL_law_94 (by decide) ?_
  refine zr_callSX (rm9 := zrm_L_leave) (As := [vr (x) 7, vi ((0 : Int32)), vi ((0 : Int32)), vi ((0 : Int32))]) (st := []) X zmh_L_207 rfl rfl ⟨by decide, Nat.le_of_ble_eq_true rfl⟩ ⟨by simp only [room_1, zrm_L_state, zrm_L_find, zrm_L_gate, zrm_L_card, zrm_L_inLine, zrm_L_why, zrm_L_whyNotJoin, zrm_L_bestGate, zrm_L_nextSide, zrm_L_throughIn, zrm_L_insideIn, zrm_L_followersIn, zrm_L_ranked, zrm_L_join, zrm_L_leave, zrm_L_list, zrm_L_charge, zrm_L_mode, zrm_L_key, zrm_L_tick, zrm_L_load, zrm_L_agrees, zrm_X7_errorOffset, zrm_X7_undo, zrm_L_randomRow]; omega, by simp only [room_1, zrm_L_state, zrm_L_find, zrm_L_gate, zrm_L_card, zrm_L_inLine, zrm_L_why, zrm_L_whyNotJoin, zrm_L_bestGate, zrm_L_nextSide, zrm_L_throughIn, zrm_L_insideIn, zrm_L_followersIn, zrm_L_ranked, zrm_L_join, zrm_L_leave, zrm_L_list, zrm_L_charge, zrm_L_mode, zrm_L_key, zrm_L_tick, zrm_L_load, zrm_L_agrees, zrm_X7_errorOffset, zrm_X7_undo, zrm_L_randomRow]; omega⟩ (Nat.le_of_ble_eq_true rfl) dL_law_95 ?_
  refine zL_leave hC6 (fun J7 hJ8 => ?_)
  rw [zif_n (zN_leave0 (S := zBlank) rfl), zif_n (zN_leave0 (S := zBlank) rfl)] at hJ8
  have hC9 := hJ8.re
  refine zr_eq (x2 := (-2000000097 : Int32)) ((zcd_n (zN_leave0 (S := zBlank) rfl)).trans rfl) ?_
  refine zr_ldc (v := -2000000097) X dL_law_98 zk_L_55 ?_
  refine zr_icmp_ne (tgt := 160) X dL_law_100 (by decide) (fun h => absurd h (by decide)) (fun _ => ?_)
  refine zr_aload3 X dL_law_103 ?_
  refine zr_iconst (v := (0 : Int32)) X dL_law_104 (by decide) ?_
  refine zr_iconst (v := (1 : Int32)) X dL_law_105 (by decide) ?_
  refine zr_callSX (rm9 := zrm_L_list) (As := [vr (x) 7, vi ((0 : Int32)), vi ((1 : Int32))]) (st := []) X zmh_L_222 rfl rfl ⟨by decide, Nat.le_of_ble_eq_true rfl⟩ ⟨by simp only [room_1, zrm_L_state, zrm_L_find, zrm_L_gate, zrm_L_card, zrm_L_inLine, zrm_L_why, zrm_L_whyNotJoin, zrm_L_bestGate, zrm_L_nextSide, zrm_L_throughIn, zrm_L_insideIn, zrm_L_followersIn, zrm_L_ranked, zrm_L_join, zrm_L_leave, zrm_L_list, zrm_L_charge, zrm_L_mode, zrm_L_key, zrm_L_tick, zrm_L_load, zrm_L_agrees, zrm_X7_errorOffset, zrm_X7_undo, zrm_L_randomRow]; omega, by simp only [room_1, zrm_L_state, zrm_L_find, zrm_L_gate, zrm_L_card, zrm_L_inLine, zrm_L_why, zrm_L_whyNotJoin, zrm_L_bestGate, zrm_L_nextSide, zrm_L_throughIn, zrm_L_insideIn, zrm_L_followersIn, zrm_L_ranked, zrm_L_join, zrm_L_leave, zrm_L_list, zrm_L_charge, zrm_L_mode, zrm_L_key, zrm_L_tick, zrm_L_load, zrm_L_agrees, zrm_X7_errorOffset, zrm_X7_undo, zrm_L_randomRow]; omega⟩ (Nat.le_of_ble_eq_true rfl) dL_law_106 ?_
  refine zL_list hC9 (Or.inr rfl) (fun J10 hJ11 => ?_)
  rw [zif_n (zN_list0 (S := zBlank) rfl), zif_n (zN_list0 (S := zBlank) rfl)] at hJ11
  have hC12 := hJ11.re
  refine zr_eq (x2 := (-2000000097 : Int32)) ((zcd_n (zN_list0 (S := zBlank) rfl)).trans rfl) ?_
  refine zr_ldc (v := -2000000097) X dL_law_109 zk_L_55 ?_
  refine zr_icmp_ne (tgt := 160) X dL_law_111 (by decide) (fun h => absurd h (by decide)) (fun _ => ?_)
  refine zr_aload3 X dL_law_114 ?_
  refine zr_iconst (v := (0 : Int32)) X dL_law_115 (by decide) ?_
  refine zr_iconst (v := (1 : Int32)) X dL_law_116 (by decide) ?_
  refine zr_callSX (rm9 := zrm_L_charge) (As := [vr (x) 7, vi ((0 : Int32)), vi ((1 : Int32))]) (st := []) X zmh_L_225 rfl rfl ⟨by decide, Nat.le_of_ble_eq_true rfl⟩ ⟨by simp only [room_1, zrm_L_state, zrm_L_find, zrm_L_gate, zrm_L_card, zrm_L_inLine, zrm_L_why, zrm_L_whyNotJoin, zrm_L_bestGate, zrm_L_nextSide, zrm_L_throughIn, zrm_L_insideIn, zrm_L_followersIn, zrm_L_ranked, zrm_L_join, zrm_L_leave, zrm_L_list, zrm_L_charge, zrm_L_mode, zrm_L_key, zrm_L_tick, zrm_L_load, zrm_L_agrees, zrm_X7_errorOffset, zrm_X7_undo, zrm_L_randomRow]; omega, by simp only [room_1, zrm_L_state, zrm_L_find, zrm_L_gate, zrm_L_card, zrm_L_inLine, zrm_L_why, zrm_L_whyNotJoin, zrm_L_bestGate, zrm_L_nextSide, zrm_L_throughIn, zrm_L_insideIn, zrm_L_followersIn, zrm_L_ranked, zrm_L_join, zrm_L_leave, zrm_L_list, zrm_L_charge, zrm_L_mode, zrm_L_key, zrm_L_tick, zrm_L_load, zrm_L_agrees, zrm_X7_errorOffset, zrm_X7_undo, zrm_L_randomRow]; omega⟩ (Nat.le_of_ble_eq_true rfl) dL_law_117 ?_
  refine zL_charge hC12 (fun J13 hJ14 => ?_)
  rw [zif_n (zN_charge0 (S := zBlank) rfl), zif_n (zN_charge0 (S := zBlank) rfl)] at hJ14
  have hC15 := hJ14.re
  refine zr_eq (x2 := (-2000000097 : Int32)) ((zcd_n (zN_charge0 (S := zBlank) rfl)).trans rfl) ?_
  refine zr_ldc (v := -2000000097) X dL_law_120 zk_L_55 ?_
  refine zr_icmp_ne (tgt := 160) X dL_law_122 (by decide) (fun h => absurd h (by decide)) (fun _ => ?_)
  refine zr_aload3 X dL_law_125 ?_
  refine zr_iconst (v := (0 : Int32)) X dL_law_126 (by decide) ?_
  refine zr_iconst (v := (0 : Int32)) X dL_law_127 (by decide) ?_
  refine zr_callSX (rm9 := zrm_L_mode) (As := [vr (x) 7, vi ((0 : Int32)), vi ((0 : Int32))]) (st := []) X zmh_L_238 rfl rfl ⟨by decide, Nat.le_of_ble_eq_true rfl⟩ ⟨by simp only [room_1, zrm_L_state, zrm_L_find, zrm_L_gate, zrm_L_card, zrm_L_inLine, zrm_L_why, zrm_L_whyNotJoin, zrm_L_bestGate, zrm_L_nextSide, zrm_L_throughIn, zrm_L_insideIn, zrm_L_followersIn, zrm_L_ranked, zrm_L_join, zrm_L_leave, zrm_L_list, zrm_L_charge, zrm_L_mode, zrm_L_key, zrm_L_tick, zrm_L_load, zrm_L_agrees, zrm_X7_errorOffset, zrm_X7_undo, zrm_L_randomRow]; omega, by simp only [room_1, zrm_L_state, zrm_L_find, zrm_L_gate, zrm_L_card, zrm_L_inLine, zrm_L_why, zrm_L_whyNotJoin, zrm_L_bestGate, zrm_L_nextSide, zrm_L_throughIn, zrm_L_insideIn, zrm_L_followersIn, zrm_L_ranked, zrm_L_join, zrm_L_leave, zrm_L_list, zrm_L_charge, zrm_L_mode, zrm_L_key, zrm_L_tick, zrm_L_load, zrm_L_agrees, zrm_X7_errorOffset, zrm_X7_undo, zrm_L_randomRow]; omega⟩ (Nat.le_of_ble_eq_true rfl) dL_law_128 ?_
  refine zL_mode hC15 (fun J16 hJ17 => ?_)
  rw [zif_n (zN_mode0 (S := zBlank) rfl), zif_n (zN_mode0 (S := zBlank) rfl)] at hJ17
  have hC18 := hJ17.re
  refine zr_eq (x2 := (-2000000097 : Int32)) ((zcd_n (zN_mode0 (S := zBlank) rfl)).trans rfl) ?_
  refine zr_ldc (v := -2000000097) X dL_law_131 zk_L_55 ?_
  refine zr_icmp_ne (tgt := 160) X dL_law_133 (by decide) (fun h => absurd h (by decide)) (fun _ => ?_)
  refine zr_aload3 X dL_law_136 ?_
  refine zr_iconst (v := (3 : Int32)) X dL_law_137 (by decide) ?_
  refine zr_callSX (rm9 := zrm_L_key) (As := [vr (x) 7, vi ((3 : Int32))]) (st := []) X zmh_L_240 rfl rfl ⟨by decide, Nat.le_of_ble_eq_true rfl⟩ ⟨by simp only [room_1, zrm_L_state, zrm_L_find, zrm_L_gate, zrm_L_card, zrm_L_inLine, zrm_L_why, zrm_L_whyNotJoin, zrm_L_bestGate, zrm_L_nextSide, zrm_L_throughIn, zrm_L_insideIn, zrm_L_followersIn, zrm_L_ranked, zrm_L_join, zrm_L_leave, zrm_L_list, zrm_L_charge, zrm_L_mode, zrm_L_key, zrm_L_tick, zrm_L_load, zrm_L_agrees, zrm_X7_errorOffset, zrm_X7_undo, zrm_L_randomRow]; omega, by simp only [room_1, zrm_L_state, zrm_L_find, zrm_L_gate, zrm_L_card, zrm_L_inLine, zrm_L_why, zrm_L_whyNotJoin, zrm_L_bestGate, zrm_L_nextSide, zrm_L_throughIn, zrm_L_insideIn, zrm_L_followersIn, zrm_L_ranked, zrm_L_join, zrm_L_leave, zrm_L_list, zrm_L_charge, zrm_L_mode, zrm_L_key, zrm_L_tick, zrm_L_load, zrm_L_agrees, zrm_X7_errorOffset, zrm_X7_undo, zrm_L_randomRow]; omega⟩ (Nat.le_of_ble_eq_true rfl) dL_law_138 ?_
  refine zL_key hC18 (fun J19 hJ20 => ?_)
  rw [zif_n (zN_key3 (S := zBlank)), zif_n (zN_key3 (S := zBlank))] at hJ20
  have hC21 := hJ20.re
  refine zr_eq (x2 := (-2000000098 : Int32)) ((zcd_n (zN_key3 (S := zBlank))).trans rfl) ?_
  refine zr_ldc (v := -2000000098) X dL_law_141 zk_L_42 ?_
  refine zr_icmp_ne (tgt := 160) X dL_law_143 (by decide) (fun h => absurd h (by decide)) (fun _ => ?_)
  refine zr_aload3 X dL_law_146 ?_
  refine zr_iconst (v := (0 : Int32)) X dL_law_147 (by decide) ?_
  refine zr_callSX (rm9 := zrm_L_tick) (As := [vr (x) 7, vi ((0 : Int32))]) (st := []) X zmh_L_243 rfl rfl ⟨by decide, Nat.le_of_ble_eq_true rfl⟩ ⟨by simp only [room_1, zrm_L_state, zrm_L_find, zrm_L_gate, zrm_L_card, zrm_L_inLine, zrm_L_why, zrm_L_whyNotJoin, zrm_L_bestGate, zrm_L_nextSide, zrm_L_throughIn, zrm_L_insideIn, zrm_L_followersIn, zrm_L_ranked, zrm_L_join, zrm_L_leave, zrm_L_list, zrm_L_charge, zrm_L_mode, zrm_L_key, zrm_L_tick, zrm_L_load, zrm_L_agrees, zrm_X7_errorOffset, zrm_X7_undo, zrm_L_randomRow]; omega, by simp only [room_1, zrm_L_state, zrm_L_find, zrm_L_gate, zrm_L_card, zrm_L_inLine, zrm_L_why, zrm_L_whyNotJoin, zrm_L_bestGate, zrm_L_nextSide, zrm_L_throughIn, zrm_L_insideIn, zrm_L_followersIn, zrm_L_ranked, zrm_L_join, zrm_L_leave, zrm_L_list, zrm_L_charge, zrm_L_mode, zrm_L_key, zrm_L_tick, zrm_L_load, zrm_L_agrees, zrm_X7_errorOffset, zrm_X7_undo, zrm_L_randomRow]; omega⟩ (Nat.le_of_ble_eq_true rfl) dL_law_148 ?_
  refine zL_tick hC21 (fun J22 hJ23 => ?_)
  rw [zif_n (zN_tick0 (S := zBlank)), zif_n (zN_tick0 (S := zBlank))] at hJ23
  have hC24 := hJ23.re
  refine zr_eq (x2 := (-2000000098 : Int32)) ((zcd_n (zN_tick0 (S := zBlank))).trans rfl) ?_
  refine zr_ldc (v := -2000000098) X dL_law_151 zk_L_42 ?_
  refine zr_icmp_ne (tgt := 160) X dL_law_153 (by decide) (fun h => absurd h (by decide)) (fun _ => ?_)
  refine zr_iconst (v := (1 : Int32)) X dL_law_156 (by decide) ?_
  refine zr_goto (tgt := 161) X dL_law_157 (by decide) ?_
  refine zr_istore1 X (by decide) rfl dL_law_161 ?_
  refine zr_aload3 X dL_law_162 ?_
  refine zr_aload4 X dL_law_163 ?_
  refine zr_aload5 X dL_law_165 ?_
  refine zr_callSD (rm9 := zrm_L_randomRow) (As := [vr (x) 7, vr (w) 19, vr (r) 16]) (st := []) X zm_L_274 rfl rfl ⟨by decide, Nat.le_of_ble_eq_true rfl⟩ ⟨by simp only [room_1, zrm_L_state, zrm_L_find, zrm_L_gate, zrm_L_card, zrm_L_inLine, zrm_L_why, zrm_L_whyNotJoin, zrm_L_bestGate, zrm_L_nextSide, zrm_L_throughIn, zrm_L_insideIn, zrm_L_followersIn, zrm_L_ranked, zrm_L_join, zrm_L_leave, zrm_L_list, zrm_L_charge, zrm_L_mode, zrm_L_key, zrm_L_tick, zrm_L_load, zrm_L_agrees, zrm_X7_errorOffset, zrm_X7_undo, zrm_L_randomRow]; omega, by simp only [room_1, zrm_L_state, zrm_L_find, zrm_L_gate, zrm_L_card, zrm_L_inLine, zrm_L_why, zrm_L_whyNotJoin, zrm_L_bestGate, zrm_L_nextSide, zrm_L_throughIn, zrm_L_insideIn, zrm_L_followersIn, zrm_L_ranked, zrm_L_join, zrm_L_leave, zrm_L_list, zrm_L_charge, zrm_L_mode, zrm_L_key, zrm_L_tick, zrm_L_load, zrm_L_agrees, zrm_X7_errorOffset, zrm_X7_undo, zrm_L_randomRow]; omega⟩ (Nat.le_of_ble_eq_true rfl) dL_law_167 ?_
  refine zd_L_randomRow (S := zBlank) (U := []) (zTx_S hC24 (fun j => (congrFun ((hJ23.2.2.2.2.1.2 (w) (Or.inr (hE.1))).trans ((hJ20.2.2.2.2.1.2 (w) (Or.inr (hE.1))).trans ((hJ17.2.2.2.2.1.2 (w) (Or.inr (hE.1))).trans ((hJ14.2.2.2.2.1.2 (w) (Or.inr (hE.1))).trans ((hJ11.2.2.2.2.1.2 (w) (Or.inr (hE.1))).trans ((hJ8.2.2.2.2.1.2 (w) (Or.inr (hE.1))).trans ((hJ5.2.2.2.2.1.2 (w) (Or.inr (hE.1))).trans (hJ2.2.2.2.2.1.2 (w) (Or.inr (hE.1)))))))))) j).trans (hw0 j))) ⟨hE.1, hE.2.1, hE.2.2⟩ hkw hkr (fun K2 B nn mm T J2 tt ck cx cS cM cC cG cn cm cge cfr => ?_)
  intro hq9
  refine zr_astore6 X (by decide) rfl dL_law_170 ?_
  refine zr_aload6 X dL_law_172 ?_
  refine zr_ifnonnull (tgt := 179) X dL_law_174 (by decide) ?_
  have hkr2 := cx _ _ hkr
  have hrB := ck _ _ hkr
  refine zr_iload1 X dL_law_179 ?_
  refine zr_if_eq (tgt := 196) X dL_law_180 (by decide) (fun h => absurd h (by decide)) (fun _ => ?_)
  refine zr_aload3 X dL_law_183 ?_
  refine zr_aload6 X dL_law_184 ?_
  refine zr_callSQ (rm9 := zrm_L_agrees) (As := [vr (x) 7, vr (B 0) 17]) (st := []) X zm_L_270 rfl rfl ⟨by decide, Nat.le_of_ble_eq_true rfl⟩ ⟨by simp only [room_1, zrm_L_state, zrm_L_find, zrm_L_gate, zrm_L_card, zrm_L_inLine, zrm_L_why, zrm_L_whyNotJoin, zrm_L_bestGate, zrm_L_nextSide, zrm_L_throughIn, zrm_L_insideIn, zrm_L_followersIn, zrm_L_ranked, zrm_L_join, zrm_L_leave, zrm_L_list, zrm_L_charge, zrm_L_mode, zrm_L_key, zrm_L_tick, zrm_L_load, zrm_L_agrees, zrm_X7_errorOffset, zrm_X7_undo, zrm_L_randomRow]; omega, by simp only [room_1, zrm_L_state, zrm_L_find, zrm_L_gate, zrm_L_card, zrm_L_inLine, zrm_L_why, zrm_L_whyNotJoin, zrm_L_bestGate, zrm_L_nextSide, zrm_L_throughIn, zrm_L_insideIn, zrm_L_followersIn, zrm_L_ranked, zrm_L_join, zrm_L_leave, zrm_L_list, zrm_L_charge, zrm_L_mode, zrm_L_key, zrm_L_tick, zrm_L_load, zrm_L_agrees, zrm_X7_errorOffset, zrm_X7_undo, zrm_L_randomRow]; omega⟩ (Nat.le_of_ble_eq_true rfl) dL_law_186 ?_
  refine zp_L_agrees (A := B) cC cS cM cG.gap ?_
  refine zr_if_eq (tgt := 196) X dL_law_189 (by decide) (fun h => absurd h (by decide)) (fun _ => ?_)
  refine zr_iconst (v := (1 : Int32)) X dL_law_192 (by decide) ?_
  refine zr_goto (tgt := 197) X dL_law_193 (by decide) ?_
  refine zr_istore1 X (by decide) rfl dL_law_197 ?_
  refine zr_bipush (v := (40 : Int32)) X dL_law_198 (by decide) ?_
  refine zr_anew (C := RX12) (k := 23) (N := 40) X zal_L_115 (zX_ta X).2.2.2.2 (zX_ta X).1.2.2.2.2.2.2.2.2 ⟨⟨by decide, rfl⟩, rfl, rfl, rfl, fun _ => rfl⟩ (by decide) (by decide) (by decide) ⟨by simp only [room_1, zrm_L_state, zrm_L_find, zrm_L_gate, zrm_L_card, zrm_L_inLine, zrm_L_why, zrm_L_whyNotJoin, zrm_L_bestGate, zrm_L_nextSide, zrm_L_throughIn, zrm_L_insideIn, zrm_L_followersIn, zrm_L_ranked, zrm_L_join, zrm_L_leave, zrm_L_list, zrm_L_charge, zrm_L_mode, zrm_L_key, zrm_L_tick, zrm_L_load, zrm_L_agrees, zrm_X7_errorOffset, zrm_X7_undo, zrm_L_randomRow]; omega, by simp only [room_1, zrm_L_state, zrm_L_find, zrm_L_gate, zrm_L_card, zrm_L_inLine, zrm_L_why, zrm_L_whyNotJoin, zrm_L_bestGate, zrm_L_nextSide, zrm_L_throughIn, zrm_L_insideIn, zrm_L_followersIn, zrm_L_ranked, zrm_L_join, zrm_L_leave, zrm_L_list, zrm_L_charge, zrm_L_mode, zrm_L_key, zrm_L_tick, zrm_L_load, zrm_L_agrees, zrm_X7_errorOffset, zrm_X7_undo, zrm_L_randomRow]; omega⟩ dL_law_200 (fun z1 hf2 hb3 => ?_)
  have := hf2 _ _ hkr2
  have hk4 := kup_ex (k := 23) hf2 _ _ hkr2
  have hk5 : (kup K9 z1 23).1 z1 = some 23 := kup_new
  refine zr_astore7 X (by decide) rfl dL_law_203 ?_
  refine zr_iconst (v := (0 : Int32)) X dL_law_205 (by decide) ?_
  refine zr_istore8 X (by decide) rfl dL_law_206 ?_
  refine zr_iconst (v := (0 : Int32)) X dL_law_208 (by decide) ?_
  refine zr_istore9 X (by decide) rfl dL_law_209 ?_
  have hwb := hf2 _ _ (cx _ _ hkw)
  have hBb : ∀ i, zvd nn mm i → B i < z1 := cS.lt hf2
  have hBr : ∀ i, zvd nn mm i → r < B i := fun i hi => by have := cge i hi; omega
  have hwB := ck _ _ hkw
  refine zr_forget (lv2 := [some (vr (sa 37) (61)), some (vi ((1 : Int32))), some (vi ((nI i))), some (vr (x) 7), none, some (vr (r) 16), some (vr (B 0) 17), some (vr (z1) 23), some (vi ((0 : Int32))), some (vi ((0 : Int32))), none]) (fun j9 v9 h9 => by rcases j9 with _ | _ | _ | _ | _ | _ | _ | _ | _ | _ | _ | j9 <;> first | exact h9 | (simp at h9; done) | (simp at h9)) ?_
  exact zla_law (A := B) (be := z1) (c1 := cells + 400) (s1 := slots + 4000) X cn cm ⟨fun i hi => by have := hBr i hi; omega, hE.2.1, fun i hi => by have := hBr i hi; omega⟩ hBb (by omega) (by omega) (by omega) (by omega) (fun K3 J3 c9 s9 q1 q2 => hk K3 J3 c9 s9 (by omega) (by omega)) 41 0 0 _ _ T (qPush zBlank []) (fun _ => zBlank) _ _ (by omega) (by omega) kup_new (cS.on (kup_ex hf2) (fun i hi => by have := hBb i hi; exact funext fun j9 => kup_old2 (by omega))) ⟨cC.on (fun q q1 q2 => zz_ne (by omega)), cM.on (fun i hi => zz_ne (by have := hBb i hi; omega))⟩ cG (fun i hi => absurd hi (Nat.not_lt_zero _)) (fun j _ hj => absurd hj (Nat.not_lt_zero _)) (fun i hi => absurd hi (Nat.not_lt_zero _)) (by simp only [room_1, zrm_L_state, zrm_L_find, zrm_L_gate, zrm_L_card, zrm_L_inLine, zrm_L_why, zrm_L_whyNotJoin, zrm_L_bestGate, zrm_L_nextSide, zrm_L_throughIn, zrm_L_insideIn, zrm_L_followersIn, zrm_L_ranked, zrm_L_join, zrm_L_leave, zrm_L_list, zrm_L_charge, zrm_L_mode, zrm_L_key, zrm_L_tick, zrm_L_load, zrm_L_agrees, zrm_X7_errorOffset, zrm_X7_undo, zrm_L_randomRow]; omega) (by simp only [room_1, zrm_L_state, zrm_L_find, zrm_L_gate, zrm_L_card, zrm_L_inLine, zrm_L_why, zrm_L_whyNotJoin, zrm_L_bestGate, zrm_L_nextSide, zrm_L_throughIn, zrm_L_insideIn, zrm_L_followersIn, zrm_L_ranked, zrm_L_join, zrm_L_leave, zrm_L_list, zrm_L_charge, zrm_L_mode, zrm_L_key, zrm_L_tick, zrm_L_load, zrm_L_agrees, zrm_X7_errorOffset, zrm_X7_undo, zrm_L_randomRow]; omega) (by omega)
