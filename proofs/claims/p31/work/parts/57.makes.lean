/-! ===== the law's constructors and copies ===== -/
theorem zX_ta {p : Program} {l : Launch} {e : Env} {R : Room} {s : State} {m : MethodId} {args : Array Value} {below : List Frame} {meth : Method} {c : Code} {own : String} {cc : ByteArray} {nL : Nat} {ret : Option FieldType} {D : va_G} {b0 : Nat} {tA : Nat → ClassId} {sa sv : Nat → Nat} (X : zX p l e R s m args below meth c own cc nL ret D b0 tA sa sv) : zTa tA s := X.2.2.2.2.2.2.1.2.1.2.2.2.2.2.2.2.2.2
theorem zini_X8 : Cond.initialized RX8 ∈ zALL := zin (List.mem_append_right _ (List.mem_of_getElem? (i := 26) (by decide +kernel))) rfl
theorem znd_X8 : ∀ j, j < 4 → defaultValue (tyX8 j) = zfv 8 0 j none 0 := by decide +kernel
theorem zol_X8 : Cond.methodLink RX8 1 Lib.objectInit ∈ zALL := zin (List.mem_append_right _ (List.mem_of_getElem? (i := 484) (by decide +kernel))) rfl
theorem znd_X9 : ∀ j, j < 9 → defaultValue (tyX9 j) = zfv 14 0 j none 0 := by decide +kernel
theorem zol_X9 : Cond.methodLink RX9 1 Lib.objectInit ∈ zALL := zin (List.mem_append_right _ (List.mem_of_getElem? (i := 413) (by decide +kernel))) rfl
theorem znd_X10 : ∀ j, j < 2 → defaultValue (tyX10 j) = zfv 15 0 j none 0 := by decide +kernel
theorem zol_X10 : Cond.methodLink RX10 1 Lib.objectInit ∈ zALL := zin (List.mem_append_right _ (List.mem_of_getElem? (i := 419) (by decide +kernel))) rfl
theorem znd_X11 : ∀ j, j < 1 → defaultValue (tyX11 j) = zfv 16 0 j none 0 := by decide +kernel
theorem zol_X11 : Cond.methodLink RX11 1 Lib.objectInit ∈ zALL := zin (List.mem_append_right _ (List.mem_of_getElem? (i := 330) (by decide +kernel))) rfl
theorem znd_X12 : ∀ j, j < 15 → defaultValue (tyX12 j) = zfv 17 0 j none 0 := by decide +kernel
theorem zol_X12 : Cond.methodLink RX12 1 Lib.objectInit ∈ zALL := zin (List.mem_append_right _ (List.mem_of_getElem? (i := 340) (by decide +kernel))) rfl
theorem znw_L_115 : zNw RL 115 17 15 := ⟨RX12, TX12, tyX12, zin_X12, rfl, ⟨rfl, rfl, rfl, fun _ => rfl⟩, tyX12_ok, zin (List.mem_append_right _ (List.mem_of_getElem? (i := 335) (by decide +kernel))) rfl, zin (List.mem_append_right _ (List.mem_of_getElem? (i := 336) (by decide +kernel))) rfl, zini_X12, znd_X12⟩
theorem zal_L_115 : Cond.classLink RL 115 RX12 ∈ zALL := zin (List.mem_append_right _ (List.mem_of_getElem? (i := 335) (by decide +kernel))) rfl
theorem znw_L_119 : zNw RL 119 16 1 := ⟨RX11, TX11, tyX11, zin_X11, rfl, ⟨rfl, rfl, rfl, fun _ => rfl⟩, tyX11_ok, zin (List.mem_append_right _ (List.mem_of_getElem? (i := 325) (by decide +kernel))) rfl, zin (List.mem_append_right _ (List.mem_of_getElem? (i := 326) (by decide +kernel))) rfl, zini_X11, znd_X11⟩
theorem znw_L_150 : zNw RL 150 14 9 := ⟨RX9, TX9, tyX9, zin_X9, rfl, ⟨rfl, rfl, rfl, fun _ => rfl⟩, tyX9_ok, zin (List.mem_append_right _ (List.mem_of_getElem? (i := 1167) (by decide +kernel))) rfl, zin (List.mem_append_right _ (List.mem_of_getElem? (i := 409) (by decide +kernel))) rfl, zini_X9, znd_X9⟩
theorem znw_L_170 : zNw RL 170 8 4 := ⟨RX8, TX8, tyX8, zin_X8, rfl, ⟨rfl, rfl, rfl, fun _ => rfl⟩, tyX8_ok, zin (List.mem_append_right _ (List.mem_of_getElem? (i := 1172) (by decide +kernel))) rfl, zin (List.mem_append_right _ (List.mem_of_getElem? (i := 480) (by decide +kernel))) rfl, zini_X8, znd_X8⟩
theorem znw_X10_8 : zNw RX10 8 15 2 := ⟨RX10, TX10, tyX10, zin_X10, rfl, ⟨rfl, rfl, rfl, fun _ => rfl⟩, tyX10_ok, zin (List.mem_append_right _ (List.mem_of_getElem? (i := 478) (by decide +kernel))) rfl, zin (List.mem_append_right _ (List.mem_of_getElem? (i := 415) (by decide +kernel))) rfl, zini_X10, znd_X10⟩
theorem znw_X12_8 : zNw RX12 8 17 15 := ⟨RX12, TX12, tyX12, zin_X12, rfl, ⟨rfl, rfl, rfl, fun _ => rfl⟩, tyX12_ok, zin (List.mem_append_right _ (List.mem_of_getElem? (i := 402) (by decide +kernel))) rfl, zin (List.mem_append_right _ (List.mem_of_getElem? (i := 336) (by decide +kernel))) rfl, zini_X12, znd_X12⟩
theorem zal_X12_25 : Cond.classLink RX12 25 RX9 ∈ zALL := zin (List.mem_append_right _ (List.mem_of_getElem? (i := 341) (by decide +kernel))) rfl
theorem znw_X12_34 : zNw RX12 34 8 4 := ⟨RX8, TX8, tyX8, zin_X8, rfl, ⟨rfl, rfl, rfl, fun _ => rfl⟩, tyX8_ok, zin (List.mem_append_right _ (List.mem_of_getElem? (i := 343) (by decide +kernel))) rfl, zin (List.mem_append_right _ (List.mem_of_getElem? (i := 480) (by decide +kernel))) rfl, zini_X8, znd_X8⟩
theorem zal_X12_34 : Cond.classLink RX12 34 RX8 ∈ zALL := zin (List.mem_append_right _ (List.mem_of_getElem? (i := 343) (by decide +kernel))) rfl
theorem znw_X9_8 : zNw RX9 8 14 9 := ⟨RX9, TX9, tyX9, zin_X9, rfl, ⟨rfl, rfl, rfl, fun _ => rfl⟩, tyX9_ok, zin (List.mem_append_right _ (List.mem_of_getElem? (i := 408) (by decide +kernel))) rfl, zin (List.mem_append_right _ (List.mem_of_getElem? (i := 409) (by decide +kernel))) rfl, zini_X9, znd_X9⟩
theorem znw_X9_29 : zNw RX9 29 15 2 := ⟨RX10, TX10, tyX10, zin_X10, rfl, ⟨rfl, rfl, rfl, fun _ => rfl⟩, tyX10_ok, zin (List.mem_append_right _ (List.mem_of_getElem? (i := 414) (by decide +kernel))) rfl, zin (List.mem_append_right _ (List.mem_of_getElem? (i := 415) (by decide +kernel))) rfl, zini_X10, znd_X10⟩
theorem zin_L_117 : zIn RL 117 yX12_init cX12_init 1 0 "GateRowLaw" := ⟨by decide +kernel, rfl, Or.inr (List.mem_append_right _ (List.mem_of_getElem? (i := 337) (by decide +kernel))), zin (List.mem_append_right _ (List.mem_of_getElem? (i := 338) (by decide +kernel))) rfl, zini_X12, zin (List.mem_append_right _ (List.mem_of_getElem? (i := 339) (by decide +kernel))) rfl⟩
theorem zin_L_152 : zIn RL 152 yX9_init cX9_init 2 1 "GateRowLaw" := ⟨by decide +kernel, rfl, Or.inl (zin (List.mem_append_right _ (List.mem_of_getElem? (i := 1168) (by decide +kernel))) rfl), zin (List.mem_append_right _ (List.mem_of_getElem? (i := 411) (by decide +kernel))) rfl, zini_X9, zin (List.mem_append_right _ (List.mem_of_getElem? (i := 412) (by decide +kernel))) rfl⟩
theorem zin_L_172 : zIn RL 172 yX8_init cX8_init 2 1 "GateRowLaw" := ⟨by decide +kernel, rfl, Or.inl (zin (List.mem_append_right _ (List.mem_of_getElem? (i := 1173) (by decide +kernel))) rfl), zin (List.mem_append_right _ (List.mem_of_getElem? (i := 482) (by decide +kernel))) rfl, zini_X8, zin (List.mem_append_right _ (List.mem_of_getElem? (i := 483) (by decide +kernel))) rfl⟩
theorem zin_L_263 : zIn RL 263 yX11_init cX11_init 2 1 "GateRowLaw" := ⟨by decide +kernel, rfl, Or.inl (zin (List.mem_append_right _ (List.mem_of_getElem? (i := 327) (by decide +kernel))) rfl), zin (List.mem_append_right _ (List.mem_of_getElem? (i := 328) (by decide +kernel))) rfl, zini_X11, zin (List.mem_append_right _ (List.mem_of_getElem? (i := 329) (by decide +kernel))) rfl⟩
theorem zin_X10_17 : zIn RX10 17 yX10_init cX10_init 1 0 "GateRowLaw" := ⟨by decide +kernel, rfl, Or.inl (zin (List.mem_append_right _ (List.mem_of_getElem? (i := 479) (by decide +kernel))) rfl), zin (List.mem_append_right _ (List.mem_of_getElem? (i := 417) (by decide +kernel))) rfl, zini_X10, zin (List.mem_append_right _ (List.mem_of_getElem? (i := 418) (by decide +kernel))) rfl⟩
theorem zin_X12_62 : zIn RX12 62 yX12_init cX12_init 1 0 "GateRowLaw" := ⟨by decide +kernel, rfl, Or.inl (zin (List.mem_append_right _ (List.mem_of_getElem? (i := 403) (by decide +kernel))) rfl), zin (List.mem_append_right _ (List.mem_of_getElem? (i := 338) (by decide +kernel))) rfl, zini_X12, zin (List.mem_append_right _ (List.mem_of_getElem? (i := 339) (by decide +kernel))) rfl⟩
theorem zin_X12_70 : zIn RX12 70 yX8_init cX8_init 2 1 "GateRowLaw" := ⟨by decide +kernel, rfl, Or.inl (zin (List.mem_append_right _ (List.mem_of_getElem? (i := 481) (by decide +kernel))) rfl), zin (List.mem_append_right _ (List.mem_of_getElem? (i := 482) (by decide +kernel))) rfl, zini_X8, zin (List.mem_append_right _ (List.mem_of_getElem? (i := 483) (by decide +kernel))) rfl⟩
theorem zin_X9_31 : zIn RX9 31 yX10_init cX10_init 1 0 "GateRowLaw" := ⟨by decide +kernel, rfl, Or.inr (List.mem_append_right _ (List.mem_of_getElem? (i := 416) (by decide +kernel))), zin (List.mem_append_right _ (List.mem_of_getElem? (i := 417) (by decide +kernel))) rfl, zini_X10, zin (List.mem_append_right _ (List.mem_of_getElem? (i := 418) (by decide +kernel))) rfl⟩
theorem zin_X9_45 : zIn RX9 45 yX9_init cX9_init 2 1 "GateRowLaw" := ⟨by decide +kernel, rfl, Or.inl (zin (List.mem_append_right _ (List.mem_of_getElem? (i := 410) (by decide +kernel))) rfl), zin (List.mem_append_right _ (List.mem_of_getElem? (i := 411) (by decide +kernel))) rfl, zini_X9, zin (List.mem_append_right _ (List.mem_of_getElem? (i := 412) (by decide +kernel))) rfl⟩
theorem zac_boolean : Cond.arrayClass (newarray.typeOf .boolean) ∈ zALL := zin (List.mem_append_right _ (List.mem_of_getElem? (i := 397) (by decide +kernel))) rfl
abbrev zrm_X8_init : Room := { frames := 1, cells := 0, slots := 0, locals := 12 }
set_option maxRecDepth 20000 in
theorem zd_X8_init {l : Launch} {D : va_G} {b0 : Nat} {tA : Nat → ClassId} {sa sv : Nat → Nat} {K : zKt} {I : zI} {Qd : zKt → zI → Option AV → Prop} {a : Nat} {x : Int32}
    (ha : K.1 a = some 8) (k1 : ∀ J : zI, J a 0 = x → J a 1 = 0 → J a 2 = 0 → J a 3 = 0 → (∀ q, q ≠ a → J q = I q) → Qd K J none) :
    zD l D b0 tA sa sv K yX8_init (.code yX8_init cX8_init 2 none) zrm_X8_init [vr (a) 8, vi (x)] I Qd := by
  refine zD_of (by decide +kernel) (Nat.le_of_ble_eq_true rfl) ?_
  intro p e s m args below meth c X hnt
  have X : zX p l e zrm_X8_init s m args below meth c RX8 cX8_init 2 none D b0 tA sa sv := X
  refine zr_lv (lv2 := [some (vr (a) 8), some (vi (x))]) rfl ?_
  refine zr_aload0 X dX8_init_0 ?_
  refine zr_objInit X zol_X8 ⟨by decide, Nat.le_of_ble_eq_true rfl⟩ dX8_init_1 ?_
  refine zr_aload0 X dX8_init_4 ?_
  refine zr_iconst (v := (0 : Int32)) X dX8_init_5 (by decide) ?_
  refine zr_putI X zf_X8_7 rfl (Or.inr (by first | decide | assumption | (simp; done))) dX8_init_6 ?_
  refine zr_aload0 X dX8_init_9 ?_
  refine zr_iconst (v := (0 : Int32)) X dX8_init_10 (by decide) ?_
  refine zr_putI X zf_X8_13 rfl (Or.inr (by first | decide | assumption | (simp; done))) dX8_init_11 ?_
  refine zr_aload0 X dX8_init_14 ?_
  refine zr_iconst (v := (0 : Int32)) X dX8_init_15 (by decide) ?_
  refine zr_putI X zf_X8_16 rfl (Or.inl rfl) dX8_init_16 ?_
  refine zr_aload0 X dX8_init_19 ?_
  refine zr_iload1 X dX8_init_20 ?_
  refine zr_putI X zf_X8_20 rfl (Or.inl rfl) dX8_init_21 ?_
  refine zr_vretD X kex.rf (by decide) (by decide) dX8_init_24 ?_
  exact k1 _ (zput_eq) ((zput_nj (by decide)).trans ((zput_nj (by decide)).trans ((zput_nj (by decide)).trans (zput_eq)))) ((zput_nj (by decide)).trans ((zput_nj (by decide)).trans (zput_eq))) ((zput_nj (by decide)).trans (zput_eq)) (fun q hq => (zput_nq hq).trans ((zput_nq hq).trans ((zput_nq hq).trans ((zput_nq hq).trans (rfl)))))
abbrev zrm_X11_init : Room := { frames := 1, cells := 0, slots := 0, locals := 12 }
set_option maxRecDepth 20000 in
theorem zd_X11_init {l : Launch} {D : va_G} {b0 : Nat} {tA : Nat → ClassId} {sa sv : Nat → Nat} {K : zKt} {I : zI} {Qd : zKt → zI → Option AV → Prop} {a : Nat} {x : Int32}
    (ha : K.1 a = some 16) (k1 : Qd K (zput I a 0 x) none) :
    zD l D b0 tA sa sv K yX11_init (.code yX11_init cX11_init 2 none) zrm_X11_init [vr (a) 16, vi (x)] I Qd := by
  refine zD_of (by decide +kernel) (Nat.le_of_ble_eq_true rfl) ?_
  intro p e s m args below meth c X hnt
  have X : zX p l e zrm_X11_init s m args below meth c RX11 cX11_init 2 none D b0 tA sa sv := X
  refine zr_lv (lv2 := [some (vr (a) 16), some (vi (x))]) rfl ?_
  refine zr_aload0 X dX11_init_0 ?_
  refine zr_objInit X zol_X11 ⟨by decide, Nat.le_of_ble_eq_true rfl⟩ dX11_init_1 ?_
  refine zr_aload0 X dX11_init_4 ?_
  refine zr_iload1 X dX11_init_5 ?_
  refine zr_putI X zf_X11_7 rfl (Or.inl rfl) dX11_init_6 ?_
  refine zr_vretD X kex.rf (by decide) (by decide) dX11_init_9 ?_
  exact k1
abbrev zrm_X10_init : Room := { frames := 1, cells := 1, slots := 11, locals := 12 }
set_option maxRecDepth 20000 in
theorem zd_X10_init {l : Launch} {D : va_G} {b0 : Nat} {tA : Nat → ClassId} {sa sv : Nat → Nat} {K : zKt} {I : zI} {Qd : zKt → zI → Option AV → Prop} {a : Nat}
    (ha : K.1 a = some 15) (k1 : ∀ (z : Nat) (J : zI), kfr K z → J a 0 = 0 → (∀ j, J z j = 0) → (∀ q, q ≠ a → q ≠ z → J q = I q) → Qd (kset (kup K z 18) a 1 z) J none) :
    zD l D b0 tA sa sv K yX10_init (.code yX10_init cX10_init 1 none) zrm_X10_init [vr (a) 15] I Qd := by
  refine zD_of (by decide +kernel) (Nat.le_of_ble_eq_true rfl) ?_
  intro p e s m args below meth c X hnt
  have X : zX p l e zrm_X10_init s m args below meth c RX10 cX10_init 1 none D b0 tA sa sv := X
  refine zr_lv (lv2 := [some (vr (a) 15)]) rfl ?_
  refine zr_aload0 X dX10_init_0 ?_
  refine zr_objInit X zol_X10 ⟨by decide, Nat.le_of_ble_eq_true rfl⟩ dX10_init_1 ?_
  refine zr_aload0 X dX10_init_4 ?_
  refine zr_iconst (v := (0 : Int32)) X dX10_init_5 (by decide) ?_
  refine zr_putI X zf_X10_7 rfl (Or.inl rfl) dX10_init_6 ?_
  refine zr_aload0 X dX10_init_9 ?_
  refine zr_bipush (v := (11 : Int32)) X dX10_init_10 (by decide) ?_
  refine zr_newa (atype := .int) (k := 18) (N := 11) X zac_int rfl (zX_ta X).1.2.1 ⟨⟨by decide, rfl⟩, rfl, rfl, rfl, fun _ => rfl⟩ (by decide) (by decide) (by decide) ⟨by decide, by decide⟩ dX10_init_12 (fun z1 hf2 hb3 => ?_)
  have := hf2 _ _ ha
  have hk4 := kup_ex (k := 18) hf2 _ _ ha
  have hk5 : (kup K z1 18).1 z1 = some 18 := kup_new
  refine zr_putD X zf_X10_13 (q := 18) rfl (by decide) dX10_init_14 ?_
  refine zr_vretD X (kex.rf.tr (kup_ex hf2)) (by decide) (by decide) dX10_init_17 ?_
  exact k1 z1 _ hf2 ((congrFun (zz_ne (by omega)) 0).trans zput_eq) (fun j => zz_eq) (fun q h1 h2 => (zz_ne h2).trans (zput_nq h1))
abbrev zrm_X9_init : Room := { frames := 2, cells := 4, slots := 26, locals := 32 }
set_option maxRecDepth 20000 in
theorem zd_X9_init {l : Launch} {D : va_G} {b0 : Nat} {tA : Nat → ClassId} {sa sv : Nat → Nat} {K : zKt} {I : zI} {Qd : zKt → zI → Option AV → Prop} {a : Nat} {x : Int32}
    (ha : K.1 a = some 14) (k1 : ∀ (K' : zKt) (y0 b0 y1 b1 : Nat) (J : zI), kfr K y0 → kex K K' → y0 < b0 → b0 < y1 → y1 < b1 → (K'.1 y0 = some 15 ∧ K'.1 b0 = some 18 ∧ K'.1 y1 = some 15 ∧ K'.1 b1 = some 18) → (K'.2 a 7 = some y0 ∧ K'.2 a 8 = some y1 ∧ K'.2 y0 1 = some b0 ∧ K'.2 y1 1 = some b1) → (J a 0 = x ∧ J a 1 = 0 ∧ J a 2 = -1 ∧ J a 3 = 0 ∧ J a 4 = 0 ∧ J a 5 = 0 ∧ J a 6 = -1) → J y0 0 = 0 → J y1 0 = 0 → (∀ q, q < y0 → q ≠ a → K'.2 q = K.2 q ∧ J q = I q) → Qd K' J none) :
    zD l D b0 tA sa sv K yX9_init (.code yX9_init cX9_init 2 none) zrm_X9_init [vr (a) 14, vi (x)] I Qd := by
  refine zD_of (by decide +kernel) (Nat.le_of_ble_eq_true rfl) ?_
  intro p e s m args below meth c X hnt
  have X : zX p l e zrm_X9_init s m args below meth c RX9 cX9_init 2 none D b0 tA sa sv := X
  refine zr_lv (lv2 := [some (vr (a) 14), some (vi (x))]) rfl ?_
  refine zr_aload0 X dX9_init_0 ?_
  refine zr_objInit X zol_X9 ⟨by decide, Nat.le_of_ble_eq_true rfl⟩ dX9_init_1 ?_
  refine zr_aload0 X dX9_init_4 ?_
  refine zr_iconst (v := (0 : Int32)) X dX9_init_5 (by decide) ?_
  refine zr_putI X zf_X9_7 rfl (Or.inl rfl) dX9_init_6 ?_
  refine zr_aload0 X dX9_init_9 ?_
  refine zr_iconst (v := (-1 : Int32)) X dX9_init_10 (by decide) ?_
  refine zr_putI X zf_X9_13 rfl (Or.inl rfl) dX9_init_11 ?_
  refine zr_aload0 X dX9_init_14 ?_
  refine zr_iconst (v := (0 : Int32)) X dX9_init_15 (by decide) ?_
  refine zr_putI X zf_X9_16 rfl (Or.inr (by first | decide | assumption | (simp; done))) dX9_init_16 ?_
  refine zr_aload0 X dX9_init_19 ?_
  refine zr_iconst (v := (0 : Int32)) X dX9_init_20 (by decide) ?_
  refine zr_putI X zf_X9_20 rfl (Or.inl rfl) dX9_init_21 ?_
  refine zr_aload0 X dX9_init_24 ?_
  refine zr_iconst (v := (0 : Int32)) X dX9_init_25 (by decide) ?_
  refine zr_putI X zf_X9_23 rfl (Or.inl rfl) dX9_init_26 ?_
  refine zr_aload0 X dX9_init_29 ?_
  refine zr_iconst (v := (-1 : Int32)) X dX9_init_30 (by decide) ?_
  refine zr_putI X zf_X9_26 rfl (Or.inl rfl) dX9_init_31 ?_
  refine zr_aload0 X dX9_init_34 ?_
  refine zr_new X znw_X9_29 ⟨by decide, by decide⟩ dX9_init_35 (fun z1 hf2 hb3 => ?_)
  have := hf2 _ _ ha
  have hk4 := kup_ex (k := 15) hf2 _ _ ha
  have hk5 : (kup K z1 15).1 z1 = some 15 := kup_new
  refine zr_dupR X dX9_init_38 ?_
  refine zr_initD (rm9 := zrm_X10_init) (As := []) (st := [vr (z1) 15, vr (a) 14]) X zin_X9_31 rfl rfl ⟨by decide, Nat.le_of_ble_eq_true rfl⟩ ⟨by decide, by decide⟩ (Nat.le_of_ble_eq_true rfl) dX9_init_39 ?_
  refine zd_X10_init hk5 (fun z6 J7 hf8 h09 hz10 hfr11 => ?_)
  intro hx12
  have := hf8 _ _ hk4
  have hk13 := hx12 _ _ hk4
  have := hf8 _ _ hk5
  have hk14 := hx12 _ _ hk5
  have hk15 : (kset (kup (kup K z1 15) z6 18) z1 1 z6).1 z6 = some 18 := kup_new
  refine zr_putD X zf_X9_32 (q := 15) rfl (by decide) dX9_init_42 ?_
  refine zr_aload0 X dX9_init_45 ?_
  refine zr_new X znw_X9_29 ⟨by decide, by decide⟩ dX9_init_46 (fun z16 hf17 hb18 => ?_)
  have := hf17 _ _ hk13
  have hk19 := kup_ex (k := 15) hf17 _ _ hk13
  have := hf17 _ _ hk14
  have hk20 := kup_ex (k := 15) hf17 _ _ hk14
  have := hf17 _ _ hk15
  have hk21 := kup_ex (k := 15) hf17 _ _ hk15
  have hk22 : (kup (kset (kset (kup (kup K z1 15) z6 18) (z1) 1 z6) (a) 7 (z1)) z16 15).1 z16 = some 15 := kup_new
  refine zr_dupR X dX9_init_49 ?_
  refine zr_initD (rm9 := zrm_X10_init) (As := []) (st := [vr (z16) 15, vr (a) 14]) X zin_X9_31 rfl rfl ⟨by decide, Nat.le_of_ble_eq_true rfl⟩ ⟨by decide, by decide⟩ (Nat.le_of_ble_eq_true rfl) dX9_init_50 ?_
  refine zd_X10_init hk22 (fun z23 J24 hf25 h026 hz27 hfr28 => ?_)
  intro hx29
  have := hf25 _ _ hk19
  have hk30 := hx29 _ _ hk19
  have := hf25 _ _ hk20
  have hk31 := hx29 _ _ hk20
  have := hf25 _ _ hk21
  have hk32 := hx29 _ _ hk21
  have := hf25 _ _ hk22
  have hk33 := hx29 _ _ hk22
  have hk34 : (kset (kup (kup (kset (kset (kup (kup K z1 15) z6 18) (z1) 1 z6) (a) 7 (z1)) z16 15) z23 18) z16 1 z23).1 z23 = some 18 := kup_new
  refine zr_putD X zf_X9_36 (q := 15) rfl (by decide) dX9_init_53 ?_
  refine zr_aload0 X dX9_init_56 ?_
  refine zr_iload1 X dX9_init_57 ?_
  refine zr_putI X zf_X9_39 rfl (Or.inl rfl) dX9_init_58 ?_
  refine zr_vretD X ((((kex.rf.tr (kup_ex hf2)).tr hx12).tr (kup_ex hf17)).tr hx29) (by decide) (by decide) dX9_init_61 ?_
  exact k1 _ z1 z6 z16 z23 _ hf2 ((((kex.rf.tr (kup_ex hf2)).tr hx12).tr (kup_ex hf17)).tr hx29) (by omega) (by omega) (by omega) ⟨hk31, hk32, hk33, hk34⟩ ⟨(kset_nj (by decide)).trans ((kset_ne (by omega)).trans ((kup_old2 (by omega)).trans ((kup_old2 (by omega)).trans (kset_eq)))), kset_eq, (kset_ne (by omega)).trans ((kset_ne (by omega)).trans ((kup_old2 (by omega)).trans ((kup_old2 (by omega)).trans ((kset_ne (by omega)).trans (kset_eq))))), (kset_ne (by omega)).trans (kset_eq)⟩ ⟨(zput_eq), ((zput_nj (by decide)).trans ((congrFun (hfr28 (a) (by omega) (by omega)) 1).trans ((congrFun (zz_ne (by omega)) 1).trans ((congrFun (hfr11 (a) (by omega) (by omega)) 1).trans ((congrFun (zz_ne (by omega)) 1).trans ((zput_nj (by decide)).trans ((zput_nj (by decide)).trans ((zput_nj (by decide)).trans ((zput_nj (by decide)).trans ((zput_nj (by decide)).trans (zput_eq))))))))))), ((zput_nj (by decide)).trans ((congrFun (hfr28 (a) (by omega) (by omega)) 2).trans ((congrFun (zz_ne (by omega)) 2).trans ((congrFun (hfr11 (a) (by omega) (by omega)) 2).trans ((congrFun (zz_ne (by omega)) 2).trans ((zput_nj (by decide)).trans ((zput_nj (by decide)).trans ((zput_nj (by decide)).trans ((zput_nj (by decide)).trans (zput_eq)))))))))), ((zput_nj (by decide)).trans ((congrFun (hfr28 (a) (by omega) (by omega)) 3).trans ((congrFun (zz_ne (by omega)) 3).trans ((congrFun (hfr11 (a) (by omega) (by omega)) 3).trans ((congrFun (zz_ne (by omega)) 3).trans ((zput_nj (by decide)).trans ((zput_nj (by decide)).trans ((zput_nj (by decide)).trans (zput_eq))))))))), ((zput_nj (by decide)).trans ((congrFun (hfr28 (a) (by omega) (by omega)) 4).trans ((congrFun (zz_ne (by omega)) 4).trans ((congrFun (hfr11 (a) (by omega) (by omega)) 4).trans ((congrFun (zz_ne (by omega)) 4).trans ((zput_nj (by decide)).trans ((zput_nj (by decide)).trans (zput_eq)))))))), ((zput_nj (by decide)).trans ((congrFun (hfr28 (a) (by omega) (by omega)) 5).trans ((congrFun (zz_ne (by omega)) 5).trans ((congrFun (hfr11 (a) (by omega) (by omega)) 5).trans ((congrFun (zz_ne (by omega)) 5).trans ((zput_nj (by decide)).trans (zput_eq))))))), ((zput_nj (by decide)).trans ((congrFun (hfr28 (a) (by omega) (by omega)) 6).trans ((congrFun (zz_ne (by omega)) 6).trans ((congrFun (hfr11 (a) (by omega) (by omega)) 6).trans ((congrFun (zz_ne (by omega)) 6).trans (zput_eq))))))⟩ ((zput_ne (by omega)).trans ((congrFun (hfr28 (z1) (by omega) (by omega)) 0).trans ((congrFun (zz_ne (by omega)) 0).trans (h09)))) ((zput_ne (by omega)).trans (h026)) (fun q hq hqa => ⟨funext fun j9 => (kset_ne (by omega)).trans ((kset_ne (by omega)).trans ((kup_old2 (by omega)).trans ((kup_old2 (by omega)).trans ((kset_ne (by omega)).trans ((kset_ne (by omega)).trans ((kup_old2 (by omega)).trans ((kup_old2 (by omega)).trans ((rfl))))))))), funext fun j9 => (zput_ne (by omega)).trans ((congrFun (hfr28 (q) (by omega) (by omega)) j9).trans ((congrFun (zz_ne (by omega)) j9).trans ((congrFun (hfr11 (q) (by omega) (by omega)) j9).trans ((congrFun (zz_ne (by omega)) j9).trans ((zput_ne (by omega)).trans ((zput_ne (by omega)).trans ((zput_ne (by omega)).trans ((zput_ne (by omega)).trans ((zput_ne (by omega)).trans ((zput_ne (by omega))))))))))))⟩)
abbrev zrm_X12_init : Room := { frames := 1, cells := 3, slots := 21, locals := 12 }
set_option maxRecDepth 20000 in
theorem zd_X12_init {l : Launch} {D : va_G} {b0 : Nat} {tA : Nat → ClassId} {sa sv : Nat → Nat} {K : zKt} {I : zI} {Qd : zKt → zI → Option AV → Prop} {a : Nat}
    (ha : K.1 a = some 17) (k1 : ∀ (K' : zKt) (z1 z2 z3 : Nat) (J : zI), kfr K z1 → kex K K' → z1 < z2 → z2 < z3 → (K'.1 z1 = some 20 ∧ K'.1 z2 = some 21 ∧ K'.1 z3 = some 22) → (K'.2 a 5 = some z1 ∧ K'.2 a 7 = some z2 ∧ K'.2 a 8 = some z3) → (J a 0 = 3 ∧ J a 1 = 2 ∧ J a 2 = 0 ∧ J a 3 = 0 ∧ J a 4 = 0 ∧ J a 6 = 0 ∧ J a 9 = 0 ∧ J a 10 = 0 ∧ J a 11 = 0 ∧ J a 12 = 0 ∧ J a 13 = 0 ∧ J a 14 = 0) → (∀ j, J z3 j = 0) → (∀ q, q < z1 → q ≠ a → K'.2 q = K.2 q ∧ J q = I q) → Qd K' J none) :
    zD l D b0 tA sa sv K yX12_init (.code yX12_init cX12_init 1 none) zrm_X12_init [vr (a) 17] I Qd := by
  refine zD_of (by decide +kernel) (Nat.le_of_ble_eq_true rfl) ?_
  intro p e s m args below meth c X hnt
  have X : zX p l e zrm_X12_init s m args below meth c RX12 cX12_init 1 none D b0 tA sa sv := X
  refine zr_lv (lv2 := [some (vr (a) 17)]) rfl ?_
  refine zr_aload0 X dX12_init_0 ?_
  refine zr_objInit X zol_X12 ⟨by decide, Nat.le_of_ble_eq_true rfl⟩ dX12_init_1 ?_
  refine zr_aload0 X dX12_init_4 ?_
  refine zr_iconst (v := (3 : Int32)) X dX12_init_5 (by decide) ?_
  refine zr_putI X zf_X12_7 rfl (Or.inl rfl) dX12_init_6 ?_
  refine zr_aload0 X dX12_init_9 ?_
  refine zr_iconst (v := (2 : Int32)) X dX12_init_10 (by decide) ?_
  refine zr_putI X zf_X12_13 rfl (Or.inl rfl) dX12_init_11 ?_
  refine zr_aload0 X dX12_init_14 ?_
  refine zr_iconst (v := (0 : Int32)) X dX12_init_15 (by decide) ?_
  refine zr_putI X zf_X12_16 rfl (Or.inl rfl) dX12_init_16 ?_
  refine zr_aload0 X dX12_init_19 ?_
  refine zr_iconst (v := (0 : Int32)) X dX12_init_20 (by decide) ?_
  refine zr_putI X zf_X12_19 rfl (Or.inl rfl) dX12_init_21 ?_
  refine zr_aload0 X dX12_init_24 ?_
  refine zr_iconst (v := (0 : Int32)) X dX12_init_25 (by decide) ?_
  refine zr_putI X zf_X12_22 rfl (Or.inl rfl) dX12_init_26 ?_
  refine zr_aload0 X dX12_init_29 ?_
  refine zr_bipush (v := (6 : Int32)) X dX12_init_30 (by decide) ?_
  refine zr_anew (C := RX9) (k := 20) (N := 6) X zal_X12_25 (zX_ta X).2.2.1 (zX_ta X).1.2.2.2.2.2.2.1 ⟨⟨by decide, rfl⟩, rfl, rfl, rfl, fun _ => rfl⟩ (by decide) (by decide) (by decide) ⟨by decide, by decide⟩ dX12_init_32 (fun z1 hf2 hb3 => ?_)
  have := hf2 _ _ ha
  have hk4 := kup_ex (k := 20) hf2 _ _ ha
  have hk5 : (kup K z1 20).1 z1 = some 20 := kup_new
  refine zr_putD X zf_X12_27 (q := 20) rfl (by decide) dX12_init_35 ?_
  refine zr_aload0 X dX12_init_38 ?_
  refine zr_iconst (v := (0 : Int32)) X dX12_init_39 (by decide) ?_
  refine zr_putI X zf_X12_31 rfl (Or.inl rfl) dX12_init_40 ?_
  refine zr_aload0 X dX12_init_43 ?_
  refine zr_bipush (v := (12 : Int32)) X dX12_init_44 (by decide) ?_
  refine zr_anew (C := RX8) (k := 21) (N := 12) X zal_X12_34 (zX_ta X).2.2.2.1 (zX_ta X).1.2.2.2.2.2.2.2.1 ⟨⟨by decide, rfl⟩, rfl, rfl, rfl, fun _ => rfl⟩ (by decide) (by decide) (by decide) ⟨by decide, by decide⟩ dX12_init_46 (fun z6 hf7 hb8 => ?_)
  have := hf7 _ _ hk4
  have hk9 := kup_ex (k := 21) hf7 _ _ hk4
  have := hf7 _ _ hk5
  have hk10 := kup_ex (k := 21) hf7 _ _ hk5
  have hk11 : (kup (kset (kup K z1 20) (a) 5 (z1)) z6 21).1 z6 = some 21 := kup_new
  refine zr_putD X zf_X12_36 (q := 21) rfl (by decide) dX12_init_49 ?_
  refine zr_aload0 X dX12_init_52 ?_
  refine zr_iconst (v := (3 : Int32)) X dX12_init_53 (by decide) ?_
  refine zr_newa (atype := .boolean) (k := 22) (N := 3) X zac_boolean rfl (zX_ta X).1.2.2.1 ⟨⟨by decide, rfl⟩, rfl, rfl, rfl, fun _ => rfl⟩ (by decide) (by decide) (by decide) ⟨by decide, by decide⟩ dX12_init_54 (fun z12 hf13 hb14 => ?_)
  have := hf13 _ _ hk9
  have hk15 := kup_ex (k := 22) hf13 _ _ hk9
  have := hf13 _ _ hk10
  have hk16 := kup_ex (k := 22) hf13 _ _ hk10
  have := hf13 _ _ hk11
  have hk17 := kup_ex (k := 22) hf13 _ _ hk11
  have hk18 : (kup (kset (kup (kset (kup K z1 20) (a) 5 (z1)) z6 21) (a) 7 (z6)) z12 22).1 z12 = some 22 := kup_new
  refine zr_putD X zf_X12_40 (q := 22) rfl (by decide) dX12_init_56 ?_
  refine zr_aload0 X dX12_init_59 ?_
  refine zr_iconst (v := (0 : Int32)) X dX12_init_60 (by decide) ?_
  refine zr_putI X zf_X12_44 rfl (Or.inl rfl) dX12_init_61 ?_
  refine zr_aload0 X dX12_init_64 ?_
  refine zr_iconst (v := (0 : Int32)) X dX12_init_65 (by decide) ?_
  refine zr_putI X zf_X12_47 rfl (Or.inl rfl) dX12_init_66 ?_
  refine zr_aload0 X dX12_init_69 ?_
  refine zr_iconst (v := (0 : Int32)) X dX12_init_70 (by decide) ?_
  refine zr_putI X zf_X12_50 rfl (Or.inl rfl) dX12_init_71 ?_
  refine zr_aload0 X dX12_init_74 ?_
  refine zr_iconst (v := (0 : Int32)) X dX12_init_75 (by decide) ?_
  refine zr_putI X zf_X12_53 rfl (Or.inl rfl) dX12_init_76 ?_
  refine zr_aload0 X dX12_init_79 ?_
  refine zr_iconst (v := (0 : Int32)) X dX12_init_80 (by decide) ?_
  refine zr_putI X zf_X12_56 rfl (Or.inl rfl) dX12_init_81 ?_
  refine zr_aload0 X dX12_init_84 ?_
  refine zr_iconst (v := (0 : Int32)) X dX12_init_85 (by decide) ?_
  refine zr_putI X zf_X12_59 rfl (Or.inl rfl) dX12_init_86 ?_
  refine zr_vretD X (((kex.rf.tr (kup_ex hf2)).tr (kup_ex hf7)).tr (kup_ex hf13)) (by decide) (by decide) dX12_init_89 ?_
  exact k1 _ z1 z6 z12 _ hf2 (((kex.rf.tr (kup_ex hf2)).tr (kup_ex hf7)).tr (kup_ex hf13)) (by omega) (by omega) ⟨hk16, hk17, hk18⟩ ⟨(kset_nj (by decide)).trans ((kup_old2 (by omega)).trans ((kset_nj (by decide)).trans ((kup_old2 (by omega)).trans (kset_eq)))), (kset_nj (by decide)).trans ((kup_old2 (by omega)).trans (kset_eq)), kset_eq⟩ ⟨((zput_nj (by decide)).trans ((zput_nj (by decide)).trans ((zput_nj (by decide)).trans ((zput_nj (by decide)).trans ((zput_nj (by decide)).trans ((zput_nj (by decide)).trans ((congrFun (zz_ne (by omega)) 0).trans ((congrFun (zz_ne (by omega)) 0).trans ((zput_nj (by decide)).trans ((congrFun (zz_ne (by omega)) 0).trans ((zput_nj (by decide)).trans ((zput_nj (by decide)).trans ((zput_nj (by decide)).trans ((zput_nj (by decide)).trans (zput_eq))))))))))))))), ((zput_nj (by decide)).trans ((zput_nj (by decide)).trans ((zput_nj (by decide)).trans ((zput_nj (by decide)).trans ((zput_nj (by decide)).trans ((zput_nj (by decide)).trans ((congrFun (zz_ne (by omega)) 1).trans ((congrFun (zz_ne (by omega)) 1).trans ((zput_nj (by decide)).trans ((congrFun (zz_ne (by omega)) 1).trans ((zput_nj (by decide)).trans ((zput_nj (by decide)).trans ((zput_nj (by decide)).trans (zput_eq)))))))))))))), ((zput_nj (by decide)).trans ((zput_nj (by decide)).trans ((zput_nj (by decide)).trans ((zput_nj (by decide)).trans ((zput_nj (by decide)).trans ((zput_nj (by decide)).trans ((congrFun (zz_ne (by omega)) 2).trans ((congrFun (zz_ne (by omega)) 2).trans ((zput_nj (by decide)).trans ((congrFun (zz_ne (by omega)) 2).trans ((zput_nj (by decide)).trans ((zput_nj (by decide)).trans (zput_eq))))))))))))), ((zput_nj (by decide)).trans ((zput_nj (by decide)).trans ((zput_nj (by decide)).trans ((zput_nj (by decide)).trans ((zput_nj (by decide)).trans ((zput_nj (by decide)).trans ((congrFun (zz_ne (by omega)) 3).trans ((congrFun (zz_ne (by omega)) 3).trans ((zput_nj (by decide)).trans ((congrFun (zz_ne (by omega)) 3).trans ((zput_nj (by decide)).trans (zput_eq)))))))))))), ((zput_nj (by decide)).trans ((zput_nj (by decide)).trans ((zput_nj (by decide)).trans ((zput_nj (by decide)).trans ((zput_nj (by decide)).trans ((zput_nj (by decide)).trans ((congrFun (zz_ne (by omega)) 4).trans ((congrFun (zz_ne (by omega)) 4).trans ((zput_nj (by decide)).trans ((congrFun (zz_ne (by omega)) 4).trans (zput_eq))))))))))), ((zput_nj (by decide)).trans ((zput_nj (by decide)).trans ((zput_nj (by decide)).trans ((zput_nj (by decide)).trans ((zput_nj (by decide)).trans ((zput_nj (by decide)).trans ((congrFun (zz_ne (by omega)) 6).trans ((congrFun (zz_ne (by omega)) 6).trans (zput_eq))))))))), ((zput_nj (by decide)).trans ((zput_nj (by decide)).trans ((zput_nj (by decide)).trans ((zput_nj (by decide)).trans ((zput_nj (by decide)).trans (zput_eq)))))), ((zput_nj (by decide)).trans ((zput_nj (by decide)).trans ((zput_nj (by decide)).trans ((zput_nj (by decide)).trans (zput_eq))))), ((zput_nj (by decide)).trans ((zput_nj (by decide)).trans ((zput_nj (by decide)).trans (zput_eq)))), ((zput_nj (by decide)).trans ((zput_nj (by decide)).trans (zput_eq))), ((zput_nj (by decide)).trans (zput_eq)), (zput_eq)⟩ (fun j9 => (zput_ne (by omega)).trans ((zput_ne (by omega)).trans ((zput_ne (by omega)).trans ((zput_ne (by omega)).trans ((zput_ne (by omega)).trans ((zput_ne (by omega)).trans (zz_eq))))))) (fun q hq hqa => ⟨funext fun j9 => (kset_ne (by omega)).trans ((kup_old2 (by omega)).trans ((kset_ne (by omega)).trans ((kup_old2 (by omega)).trans ((kset_ne (by omega)).trans ((kup_old2 (by omega)).trans ((rfl))))))), funext fun j9 => (zput_ne (by omega)).trans ((zput_ne (by omega)).trans ((zput_ne (by omega)).trans ((zput_ne (by omega)).trans ((zput_ne (by omega)).trans ((zput_ne (by omega)).trans ((congrFun (zz_ne (by omega)) j9).trans ((congrFun (zz_ne (by omega)) j9).trans ((zput_ne (by omega)).trans ((congrFun (zz_ne (by omega)) j9).trans ((zput_ne (by omega)).trans ((zput_ne (by omega)).trans ((zput_ne (by omega)).trans ((zput_ne (by omega)).trans ((zput_ne (by omega))))))))))))))))⟩)
abbrev zrm_X10_copy : Room := { frames := 2, cells := 2, slots := 13, locals := 32 }
set_option maxRecDepth 20000 in
theorem zl_X10_copy {l : Launch} {D : va_G} {b0 : Nat} {tA : Nat → ClassId} {sa sv : Nat → Nat} {K : zKt} {I : zI} {Qd : zKt → zI → Option AV → Prop} {K9 : zKt} {cells slots : Nat} {p : Program} {e : Env} {s : State} {m : MethodId} {args : Array Value} {below : List Frame} {meth : Method} {c : Code} {a b z y : Nat} {w : List Nat} {I0 : zI}
    (X : zX p l e zrm_X10_copy s m args below meth c RX10 cX10_copy 3 (some (.object "GateRowLaw$Line")) D b0 tA sa sv) (hnt : ∀ x ∈ c.exceptionTable.toList, False) (hx : kex K K9) (hcs : cells ≤ 2) (hss : slots ≤ 13) (hL : zLm I0 a b w) (hl : w.length < 11) (e1 : a ≠ z ∧ a ≠ y ∧ b ≠ z ∧ b ≠ y ∧ z ≠ y) (r1 : K9.2 z 1 = some y) (r2 : K9.2 a 1 = some b) (k1 : ∀ J : zI, J z 0 = nI w.length → (∀ p, p < w.length → J y p = nI (w.getD p 0) - 1) → (∀ q, q ≠ z → q ≠ y → J q = I0 q) → Qd K9 J (some (vr z 15))) :
    ∀ (n : Nat) (k : Nat) (J : zI), k ≤ w.length → (∀ p, p < k → J y p = nI (w.getD p 0) - 1) → J z 0 = nI w.length → (∀ q, q ≠ z → q ≠ y → J q = I0 q) → w.length - k < n → zG p l e zrm_X10_copy s m args below meth c 3 D b0 tA sa cells slots (zQD below D b0 tA sa K args s zrm_X10_copy Qd) K9 18 [some (vr (a) 15), some (vr (z) 15), some (vi ((nI k)))] [] J := by
  intro n
  induction n with
  | zero => intro k J i1 i2 i3 i4 i9; exact absurd i9 (Nat.not_lt_zero _)
  | succ n ih =>
    intro k J i1 i2 i3 i4 i9
    refine zr_iload2 X dX10_copy_18 ?_
    refine zr_aload0 X dX10_copy_19 ?_
    refine zr_getI X zf_X10_7 rfl dX10_copy_20 ?_
    refine zr_eq (x2 := (nI w.length)) ((congrFun (i4 a e1.1 e1.2.1) 0).trans hL.1) ?_
    refine zr_nicmp_ge X (k) (w.length) (tgt := 44) (by omega) (by omega) dX10_copy_23 (by decide) (fun h1 => ?_) (fun h1 => ?_)
    · skip
      refine zr_aload1 X dX10_copy_44 ?_
      refine zr_aretD X (kex.rf.tr hx) (by exact hcs) (by exact hss) dX10_copy_45 ?_
      exact k1 J i3 (fun p hp => i2 p (by omega)) i4
    · skip
      refine zr_aload1 X dX10_copy_26 ?_
      refine zr_getD (r := y) X zf_X10_13 rfl (by decide) ((r1)) dX10_copy_27 ?_
      refine zr_iload2 X dX10_copy_30 ?_
      refine zr_aload0 X dX10_copy_31 ?_
      refine zr_getD (r := b) X zf_X10_13 rfl (by decide) ((r2)) dX10_copy_32 ?_
      refine zr_iload2 X dX10_copy_35 ?_
      refine zr_ialdN (n := k) X rfl (show _ < 11 from (by first | decide | omega | assumption)) dX10_copy_36 ?_
      refine zr_eq (x2 := (nI (w.getD k 0) - 1)) ((congrFun (i4 b e1.2.2.1 e1.2.2.2.1) k).trans (hL.2 k (by omega))) ?_
      refine zr_iastN (n := k) X rfl (show _ < 11 from (by first | decide | omega | assumption)) dX10_copy_37 ?_
      refine zr_iinc2 (v := (nI (k + 1))) X (show nI (k) + Int32.ofInt 1 = nI (k + 1) from nI_1 (k)) (by decide) rfl dX10_copy_38 ?_
      refine zr_goto (tgt := 18) X dX10_copy_41 (by decide) ?_
      refine ih (k + 1) _ (by omega) (fun p hp => ?_) ((zput_ne e1.2.2.2.2).trans i3) (fun q h1 h2 => (zput_nq h2).trans (i4 q h1 h2)) (by omega)
      by_cases hpk : p = k
      · subst hpk; exact zput_eq
      · exact (zput_nj hpk).trans (i2 p (by omega))
set_option maxRecDepth 20000 in
theorem zd_X10_copy {l : Launch} {D : va_G} {b0 : Nat} {tA : Nat → ClassId} {sa sv : Nat → Nat} {K : zKt} {I : zI} {Qd : zKt → zI → Option AV → Prop} {a b ka kb : Nat} {w : List Nat}
    (ha : K.1 a = some ka) (hb9 : K.1 b = some kb) (hK : K.2 a 1 = some b) (hL : zLm I a b w) (hl : w.length < 11) (k1 : ∀ (K' : zKt) (z y : Nat) (J : zI), kfr K z → kex K K' → z < y → K'.1 z = some 15 → K'.1 y = some 18 → zLm J z y w → K'.2 z 1 = some y → (∀ q, q < z → K'.2 q = K.2 q ∧ J q = I q) → Qd K' J (some (vr z 15))) :
    zD l D b0 tA sa sv K yX10_copy (.code yX10_copy cX10_copy 3 (some (.object "GateRowLaw$Line"))) zrm_X10_copy [vr (a) 15] I Qd := by
  refine zD_of (by decide +kernel) (Nat.le_of_ble_eq_true rfl) ?_
  intro p e s m args below meth c X hnt
  have X : zX p l e zrm_X10_copy s m args below meth c RX10 cX10_copy 3 (some (.object "GateRowLaw$Line")) D b0 tA sa sv := X
  refine zr_lv (lv2 := [some (vr (a) 15), none, none]) rfl ?_
  refine zr_new X znw_X10_8 ⟨by decide, by decide⟩ dX10_copy_0 (fun z1 hf2 hb3 => ?_)
  have := hf2 _ _ ha
  have hk4 := kup_ex (k := 15) hf2 _ _ ha
  have := hf2 _ _ hb9
  have hk5 := kup_ex (k := 15) hf2 _ _ hb9
  have hk6 : (kup K z1 15).1 z1 = some 15 := kup_new
  refine zr_dupR X dX10_copy_3 ?_
  refine zr_initD (rm9 := zrm_X10_init) (As := []) (st := [vr (z1) 15]) X zin_X10_17 rfl rfl ⟨by decide, Nat.le_of_ble_eq_true rfl⟩ ⟨by decide, by decide⟩ (Nat.le_of_ble_eq_true rfl) dX10_copy_4 ?_
  refine zd_X10_init hk6 (fun z7 J8 hf9 h010 hz11 hfr12 => ?_)
  intro hx13
  have := hf9 _ _ hk4
  have hk14 := hx13 _ _ hk4
  have := hf9 _ _ hk5
  have hk15 := hx13 _ _ hk5
  have := hf9 _ _ hk6
  have hk16 := hx13 _ _ hk6
  have hk17 : (kset (kup (kup K z1 15) z7 18) z1 1 z7).1 z7 = some 18 := kup_new
  refine zr_astore1 X (by decide) rfl dX10_copy_7 ?_
  refine zr_aload1 X dX10_copy_8 ?_
  refine zr_aload0 X dX10_copy_9 ?_
  refine zr_getI X zf_X10_7 rfl dX10_copy_10 ?_
  refine zr_eq (x2 := (I (a) 0)) ((congrFun (hfr12 (a) (by omega) (by omega)) 0).trans ((congrFun (zz_ne (by omega)) 0))) ?_
  refine zr_eq (x2 := (nI w.length)) (hL.1) ?_
  refine zr_putI X zf_X10_7 rfl (Or.inl rfl) dX10_copy_13 ?_
  refine zr_iconst (v := (0 : Int32)) X dX10_copy_16 (by decide) ?_
  refine zr_istore2 X (by decide) rfl dX10_copy_17 ?_
  refine zl_X10_copy (K := K) (I := I) (I0 := I) (a := a) (b := b) (z := z1) (y := z7) X hnt ((kex.rf.tr (kup_ex hf2)).tr hx13) (by decide) (by decide) hL hl ⟨by omega, by omega, by omega, by omega, by omega⟩ (kset_eq) ((kset_ne (by omega)).trans ((kup_old2 (by omega)).trans ((kup_old2 (by omega)).trans ((hK))))) (fun J h1 h2 h3 => k1 _ z1 z7 J hf2 ((kex.rf.tr (kup_ex hf2)).tr hx13) (by omega) hk16 hk17 ⟨h1, h2⟩ (kset_eq) (fun q hq => ⟨funext fun j9 => (kset_ne (by omega)).trans ((kup_old2 (by omega)).trans ((kup_old2 (by omega)).trans ((rfl)))), h3 q (by omega) (by omega)⟩)) (w.length + 1) 0 _ (by omega) (fun p hp => absurd hp (Nat.not_lt_zero _)) (zput_eq) (fun q h1 h2 => funext fun j9 => (zput_ne (by omega)).trans ((congrFun (hfr12 (q) (by omega) (by omega)) j9).trans ((congrFun (zz_ne (by omega)) j9)))) (by omega)
