/-! ===== the reference: changes ===== -/
abbrev zrm_X8_tick : Room := { frames := 6, cells := 0, slots := 0, locals := 138 }
set_option maxRecDepth 20000 in
theorem zo_X8_tick {l : Launch} {D : va_G} {b0 : Nat} {tA : Nat → ClassId} {sa sv : Nat → Nat} {K : Nat → Option Nat} {I : zI} {Qp : zI → Option AV → Prop} {Xp : String → zI → Prop} {F9 : zI} {y f : Nat} {t : Nat → Nat} {er : Int32} {S : zS} {U : List zS} {k9 : Nat}
    (hC : zRf F9 I y t f er S U) (h1 : 1 ≤ k9) (h2 : k9 ≤ 99) (k1 : ∀ J : zI, zRf F9 J y t f er (qTicks S k9) (qPush S U) → J y 0 = 0 → Qp J (some (vi (sX (qTicks S k9) 9 + sX (qTicks S k9) 10 - (sX S 9 + sX S 10))))) :
    zC l D b0 tA sa sv K yX8_tick (.code yX8_tick cX8_tick 3 (some .int)) zrm_X8_tick [vr (y) 8, vi ((nI k9))] I Qp Xp := by
  have hC1 : zRf F9 (zput I y 0 0) y t f er S U := hC.put (by decide)
  have hW := hC.2.2.2.1
  have hg6 := hW.ng.1
  have hc12 := hW.nc.1
  have hf5 := hC.1.2.1
  refine zC_of (by decide +kernel) (Nat.le_of_ble_eq_true rfl) ?_
  intro p e s m args below meth c X hnt
  have X : zX p l e zrm_X8_tick s m args below meth c RX8 cX8_tick 3 (some .int) D b0 tA sa sv := X
  refine zr_lv (lv2 := [some (vr (y) 8), some (vi ((nI k9))), none]) rfl ?_
  refine zr_aload0 X dX8_tick_0 ?_
  refine zr_iconst (v := (0 : Int32)) X dX8_tick_1 (by decide) ?_
  refine zr_putI X zf_X8_31 rfl (Or.inl rfl) dX8_tick_2 ?_
  refine zr_aload0 X dX8_tick_5 ?_
  refine zr_iload1 X dX8_tick_6 ?_
  refine zr_iconst (v := (1 : Int32)) X dX8_tick_7 (by decide) ?_
  refine zr_bipush (v := (99 : Int32)) X dX8_tick_8 (by decide) ?_
  refine zr_callS3 (rm9 := zrm_X8_in) X hnt zm_X8_117 (by decide) (by decide) (by decide) (Nat.le_of_ble_eq_true rfl) dX8_tick_10 ?_
  refine zq_X8_in (fun _ => ?_) (fun h => absurd ⟨(nI_leI (a := 1) (by decide) (by omega)).mpr (by omega), (nI_leI (b := 99) (by omega) (by decide)).mpr (by omega)⟩ h)
  refine zr_if_ne (tgt := 20) X dX8_tick_13 (by decide) (fun _ => ?_) (fun h => absurd h (by decide))
  refine zr_iconst (v := (0 : Int32)) X dX8_tick_20 (by decide) ?_
  refine zr_iconst (v := (1 : Int32)) X dX8_tick_21 (by decide) ?_
  refine zr_callV2 (rm9 := zrm_X8_fails) X hnt zm_X8_220 (by decide) (by decide) (by decide) (Nat.le_of_ble_eq_true rfl) dX8_tick_22 ?_
  refine zf0_X8_fails (zput_eq) ?_
  refine zr_if_eq (tgt := 30) X dX8_tick_25 (by decide) (fun _ => ?_) (fun h => absurd h (by decide))
  refine zr_aload0 X dX8_tick_30 ?_
  refine zr_callV0 (rm9 := zrm_X8_remember) X hnt zm_X8_229 (by decide) (by decide) (by decide) (Nat.le_of_ble_eq_true rfl) dX8_tick_31 ?_
  refine zp_X8_remember hC1 ?_
  intro J1 hr2 h03 e34
  refine zr_aload0 X dX8_tick_34 ?_
  refine zr_getR X zf_X8_17 rfl (by decide) (by decide) dX8_tick_35 ?_
  refine zr_bipush (v := (9 : Int32)) X dX8_tick_38 (by decide) ?_
  refine zr_ialdN (n := 9) X rfl (show _ < 310 from (by first | assumption | omega | decide)) dX8_tick_40 ?_
  refine zr_eq (x2 := (sX S 9)) (hr2.2.2.1.1 9 (by decide)) ?_
  refine zr_aload0 X dX8_tick_41 ?_
  refine zr_getR X zf_X8_17 rfl (by decide) (by decide) dX8_tick_42 ?_
  refine zr_bipush (v := (10 : Int32)) X dX8_tick_45 (by decide) ?_
  refine zr_ialdN (n := 10) X rfl (show _ < 310 from (by first | assumption | omega | decide)) dX8_tick_47 ?_
  refine zr_eq (x2 := (sX S 10)) (hr2.2.2.1.1 10 (by decide)) ?_
  refine zr_iadd X dX8_tick_48 ?_
  refine zr_istore2 X (by decide) rfl dX8_tick_49 ?_
  refine zr_aload0 X dX8_tick_50 ?_
  refine zr_getR X zf_X8_17 rfl (by decide) (by decide) dX8_tick_51 ?_
  refine zr_iload1 X dX8_tick_54 ?_
  refine zr_callS2 (rm9 := zrm_X8_lives) X hnt zm_X8_208 (by decide) (by decide) (by decide) (Nat.le_of_ble_eq_true rfl) dX8_tick_55 ?_
  refine zp_X8_lives hr2.2.2.1 hW (by omega) ?_
  intro J5 hg6 hM7; have hW8 : zWf (qTicks S k9) := zWf_ticks hW _
  refine zr_aload0 X dX8_tick_58 ?_
  refine zr_getR X zf_X8_17 rfl (by decide) (by decide) dX8_tick_59 ?_
  refine zr_bipush (v := (9 : Int32)) X dX8_tick_62 (by decide) ?_
  refine zr_ialdN (n := 9) X rfl (show _ < 310 from (by first | assumption | omega | decide)) dX8_tick_64 ?_
  refine zr_eq (x2 := (sX (qTicks S k9) 9)) (hM7.1 9 (by decide)) ?_
  refine zr_aload0 X dX8_tick_65 ?_
  refine zr_getR X zf_X8_17 rfl (by decide) (by decide) dX8_tick_66 ?_
  refine zr_bipush (v := (10 : Int32)) X dX8_tick_69 (by decide) ?_
  refine zr_ialdN (n := 10) X rfl (show _ < 310 from (by first | assumption | omega | decide)) dX8_tick_71 ?_
  refine zr_eq (x2 := (sX (qTicks S k9) 10)) (hM7.1 10 (by decide)) ?_
  refine zr_iadd X dX8_tick_72 ?_
  refine zr_iload2 X dX8_tick_73 ?_
  refine zr_isub X dX8_tick_74 ?_
  refine zr_iret X (by decide) (by decide) dX8_tick_75 ?_
  have hag : zag J1 J5 (y + 2) 1 := by repeat (first | exact zag.rf | assumption | refine zag.put ?_ (by omega) (by omega) | refine zag.tr ?_ (by assumption) (by omega) (by omega))
  exact k1 _ (hr2.now hag hM7 (hW8)) ((congrFun (hag y (by omega)) 0).trans (h03.trans zput_eq))
set_option maxRecDepth 20000 in
theorem zx_X8_tick {l : Launch} {D : va_G} {b0 : Nat} {tA : Nat → ClassId} {sa sv : Nat → Nat} {K : Nat → Option Nat} {I : zI} {Qp : zI → Option AV → Prop} {Xp : String → zI → Prop} {F9 : zI} {y f : Nat} {t : Nat → Nat} {er : Int32} {S : zS} {U : List zS} {v : Int32}
    (hC : zRf F9 I y t f er S U) (hb : vIdx v 100 = none ∨ v = 0) (kx : ∀ (J : zI) (v9 : Int32), zRf F9 J y t f er S U → J y 0 = 1 → Qp J (some (vi v9))) :
    zC l D b0 tA sa sv K yX8_tick (.code yX8_tick cX8_tick 3 (some .int)) zrm_X8_tick [vr (y) 8, vi (v)] I Qp Xp := by
  have hC1 : zRf F9 (zput I y 0 0) y t f er S U := hC.put (by decide)
  have hW := hC.2.2.2.1
  have hg6 := hW.ng.1
  have hc12 := hW.nc.1
  have hf5 := hC.1.2.1
  refine zC_of (by decide +kernel) (Nat.le_of_ble_eq_true rfl) ?_
  intro p e s m args below meth c X hnt
  have X : zX p l e zrm_X8_tick s m args below meth c RX8 cX8_tick 3 (some .int) D b0 tA sa sv := X
  refine zr_lv (lv2 := [some (vr (y) 8), some (vi (v)), none]) rfl ?_
  refine zr_aload0 X dX8_tick_0 ?_
  refine zr_iconst (v := (0 : Int32)) X dX8_tick_1 (by decide) ?_
  refine zr_putI X zf_X8_31 rfl (Or.inl rfl) dX8_tick_2 ?_
  refine zr_aload0 X dX8_tick_5 ?_
  refine zr_iload1 X dX8_tick_6 ?_
  refine zr_iconst (v := (1 : Int32)) X dX8_tick_7 (by decide) ?_
  refine zr_bipush (v := (99 : Int32)) X dX8_tick_8 (by decide) ?_
  refine zr_callS3 (rm9 := zrm_X8_in) X hnt zm_X8_117 (by decide) (by decide) (by decide) (Nat.le_of_ble_eq_true rfl) dX8_tick_10 ?_
  refine zq_X8_in (fun h => absurd hb (ztick_in (n := 99) (m := (99 : Int32)) (by decide) (by decide) (Int32.not_lt.mpr h.1) h.2)) (fun _ => ?_)
  refine zr_if_ne (tgt := 20) X dX8_tick_13 (by decide) (fun h => absurd h (by decide)) (fun _ => ?_)
  refine zr_iconst (v := (1 : Int32)) X dX8_tick_16 (by decide) ?_
  refine zr_goto (tgt := 21) X dX8_tick_17 (by decide) ?_
  refine zr_iconst (v := (1 : Int32)) X dX8_tick_21 (by decide) ?_
  refine zr_callV2 (rm9 := zrm_X8_fails) X hnt zm_X8_220 (by decide) (by decide) (by decide) (Nat.le_of_ble_eq_true rfl) dX8_tick_22 ?_
  refine zf1_X8_fails (zput_eq) (by decide) ?_
  refine zr_if_eq (tgt := 30) X dX8_tick_25 (by decide) (fun h => absurd h (by decide)) (fun _ => ?_)
  refine zr_iconst (v := (0 : Int32)) X dX8_tick_28 (by decide) ?_
  refine zr_iret X (by decide) (by decide) dX8_tick_29 ?_
  exact kx _ _ (hC1.put (by decide)) zput_eq
theorem zq_X8_tick {l : Launch} {D : va_G} {b0 : Nat} {tA : Nat → ClassId} {sa sv : Nat → Nat} {K : Nat → Option Nat} {I : zI} {Qp : zI → Option AV → Prop} {Xp : String → zI → Prop} {F9 : zI} {y f : Nat} {t : Nat → Nat} {er : Int32} {S : zS} {U : List zS} {v : Int32}
    (hC : zRf F9 I y t f er S U) (k0 : (rTick S v).1 = 0 → ∀ J : zI, zRf F9 J y t f er (sTick S v) (qPush S U) → J y 0 = 0 → Qp J (some (vi (rTick S v).2))) (kx1 : (rTick S v).1 = 1 → ∀ (J : zI) (v9 : Int32), zRf F9 J y t f er S U → J y 0 = 1 → Qp J (some (vi v9))) :
    zC l D b0 tA sa sv K yX8_tick (.code yX8_tick cX8_tick 3 (some .int)) zrm_X8_tick [vr (y) 8, vi (v)] I Qp Xp := by
  unfold rTick at k0 kx1
  unfold sTick at k0
  cases e1 : vTick v 100 with
  | none => rw [e1] at kx1; exact zx_X8_tick hC (vTick_none e1) (kx1 rfl)
  | some k =>
    simp only [e1] at k0
    obtain ⟨h1, h2, rfl⟩ := vTick_some e1
    exact zo_X8_tick hC h1 (by omega) (k0 (by first | rfl | trivial))
abbrev zrm_X8_key : Room := { frames := 3, cells := 0, slots := 0, locals := 64 }
set_option maxRecDepth 20000 in
theorem zo_X8_key {l : Launch} {D : va_G} {b0 : Nat} {tA : Nat → ClassId} {sa sv : Nat → Nat} {K : Nat → Option Nat} {I : zI} {Qp : zI → Option AV → Prop} {Xp : String → zI → Prop} {F9 : zI} {y f : Nat} {t : Nat → Nat} {er : Int32} {S : zS} {U : List zS} {k9 : Nat}
    (hC : zRf F9 I y t f er S U) (hk : k9 < 3) (k1 : ∀ J : zI, zRf F9 J y t f er (qKey S k9) (qPush S U) → J y 0 = 0 → Qp J (some (vi (zkeys (qKey S k9))))) :
    zC l D b0 tA sa sv K yX8_key (.code yX8_key cX8_key 2 (some .int)) zrm_X8_key [vr (y) 8, vi ((nI k9))] I Qp Xp := by
  have hC1 : zRf F9 (zput I y 0 0) y t f er S U := hC.put (by decide)
  have hW := hC.2.2.2.1
  have hg6 := hW.ng.1
  have hc12 := hW.nc.1
  have hf5 := hC.1.2.1
  refine zC_of (by decide +kernel) (Nat.le_of_ble_eq_true rfl) ?_
  intro p e s m args below meth c X hnt
  have X : zX p l e zrm_X8_key s m args below meth c RX8 cX8_key 2 (some .int) D b0 tA sa sv := X
  refine zr_lv (lv2 := [some (vr (y) 8), some (vi ((nI k9)))]) rfl ?_
  refine zr_aload0 X dX8_key_0 ?_
  refine zr_iconst (v := (0 : Int32)) X dX8_key_1 (by decide) ?_
  refine zr_putI X zf_X8_31 rfl (Or.inl rfl) dX8_key_2 ?_
  refine zr_aload0 X dX8_key_5 ?_
  refine zr_iload1 X dX8_key_6 ?_
  refine zr_iconst (v := (0 : Int32)) X dX8_key_7 (by decide) ?_
  refine zr_iconst (v := (2 : Int32)) X dX8_key_8 (by decide) ?_
  refine zr_callS3 (rm9 := zrm_X8_in) X hnt zm_X8_117 (by decide) (by decide) (by decide) (Nat.le_of_ble_eq_true rfl) dX8_key_9 ?_
  refine zIo_X8_in (n := 3) (by omega) (by omega) (by rfl) ?_
  refine zr_if_ne (tgt := 19) X dX8_key_12 (by decide) (fun _ => ?_) (fun h => absurd h (by decide))
  refine zr_iconst (v := (0 : Int32)) X dX8_key_19 (by decide) ?_
  refine zr_iconst (v := (1 : Int32)) X dX8_key_20 (by decide) ?_
  refine zr_callV2 (rm9 := zrm_X8_fails) X hnt zm_X8_220 (by decide) (by decide) (by decide) (Nat.le_of_ble_eq_true rfl) dX8_key_21 ?_
  refine zf0_X8_fails (zput_eq) ?_
  refine zr_if_eq (tgt := 29) X dX8_key_24 (by decide) (fun _ => ?_) (fun h => absurd h (by decide))
  refine zr_aload0 X dX8_key_29 ?_
  refine zr_callV0 (rm9 := zrm_X8_remember) X hnt zm_X8_229 (by decide) (by decide) (by decide) (Nat.le_of_ble_eq_true rfl) dX8_key_30 ?_
  refine zp_X8_remember hC1 ?_
  intro J9 hr10 h011 e312
  refine zr_aload0 X dX8_key_33 ?_
  refine zr_getR X zf_X8_17 rfl (by decide) (by decide) dX8_key_34 ?_
  refine zr_iload1 X dX8_key_37 ?_
  refine zr_callS2 (rm9 := zrm_X8_turns) X hnt zm_X8_213 (by decide) (by decide) (by decide) (Nat.le_of_ble_eq_true rfl) dX8_key_38 ?_
  refine zq_X8_turns hr10.2.2.1 hW (by omega) ?_
  intro J13 hg14 hM15; have hW16 : zWf (qKey S k9) := zWf_key hW (by omega)
  refine zr_iret X (by decide) (by decide) dX8_key_41 ?_
  have hag : zag J9 J13 (y + 2) 1 := by repeat (first | exact zag.rf | assumption | refine zag.put ?_ (by omega) (by omega) | refine zag.tr ?_ (by assumption) (by omega) (by omega))
  exact k1 _ (hr10.now hag hM15 (hW16)) ((congrFun (hag y (by omega)) 0).trans (h011.trans zput_eq))
set_option maxRecDepth 20000 in
theorem zx_X8_key {l : Launch} {D : va_G} {b0 : Nat} {tA : Nat → ClassId} {sa sv : Nat → Nat} {K : Nat → Option Nat} {I : zI} {Qp : zI → Option AV → Prop} {Xp : String → zI → Prop} {F9 : zI} {y f : Nat} {t : Nat → Nat} {er : Int32} {S : zS} {U : List zS} {v : Int32}
    (hC : zRf F9 I y t f er S U) (hb : vIdx v (3) = none) (kx : ∀ (J : zI) (v9 : Int32), zRf F9 J y t f er S U → J y 0 = 1 → Qp J (some (vi v9))) :
    zC l D b0 tA sa sv K yX8_key (.code yX8_key cX8_key 2 (some .int)) zrm_X8_key [vr (y) 8, vi (v)] I Qp Xp := by
  have hC1 : zRf F9 (zput I y 0 0) y t f er S U := hC.put (by decide)
  have hW := hC.2.2.2.1
  have hg6 := hW.ng.1
  have hc12 := hW.nc.1
  have hf5 := hC.1.2.1
  refine zC_of (by decide +kernel) (Nat.le_of_ble_eq_true rfl) ?_
  intro p e s m args below meth c X hnt
  have X : zX p l e zrm_X8_key s m args below meth c RX8 cX8_key 2 (some .int) D b0 tA sa sv := X
  refine zr_lv (lv2 := [some (vr (y) 8), some (vi (v))]) rfl ?_
  refine zr_aload0 X dX8_key_0 ?_
  refine zr_iconst (v := (0 : Int32)) X dX8_key_1 (by decide) ?_
  refine zr_putI X zf_X8_31 rfl (Or.inl rfl) dX8_key_2 ?_
  refine zr_aload0 X dX8_key_5 ?_
  refine zr_iload1 X dX8_key_6 ?_
  refine zr_iconst (v := (0 : Int32)) X dX8_key_7 (by decide) ?_
  refine zr_iconst (v := (2 : Int32)) X dX8_key_8 (by decide) ?_
  refine zr_callS3 (rm9 := zrm_X8_in) X hnt zm_X8_117 (by decide) (by decide) (by decide) (Nat.le_of_ble_eq_true rfl) dX8_key_9 ?_
  refine zIx_X8_in (n := 3) (by assumption) (by omega) (by rfl) ?_
  refine zr_if_ne (tgt := 19) X dX8_key_12 (by decide) (fun h => absurd h (by decide)) (fun _ => ?_)
  refine zr_iconst (v := (1 : Int32)) X dX8_key_15 (by decide) ?_
  refine zr_goto (tgt := 20) X dX8_key_16 (by decide) ?_
  refine zr_iconst (v := (1 : Int32)) X dX8_key_20 (by decide) ?_
  refine zr_callV2 (rm9 := zrm_X8_fails) X hnt zm_X8_220 (by decide) (by decide) (by decide) (Nat.le_of_ble_eq_true rfl) dX8_key_21 ?_
  refine zf1_X8_fails (zput_eq) (by decide) ?_
  refine zr_if_eq (tgt := 29) X dX8_key_24 (by decide) (fun h => absurd h (by decide)) (fun _ => ?_)
  refine zr_iconst (v := (0 : Int32)) X dX8_key_27 (by decide) ?_
  refine zr_iret X (by decide) (by decide) dX8_key_28 ?_
  exact kx _ _ (hC1.put (by decide)) zput_eq
theorem zq_X8_key {l : Launch} {D : va_G} {b0 : Nat} {tA : Nat → ClassId} {sa sv : Nat → Nat} {K : Nat → Option Nat} {I : zI} {Qp : zI → Option AV → Prop} {Xp : String → zI → Prop} {F9 : zI} {y f : Nat} {t : Nat → Nat} {er : Int32} {S : zS} {U : List zS} {v : Int32}
    (hC : zRf F9 I y t f er S U) (k0 : (rKey S v).1 = 0 → ∀ J : zI, zRf F9 J y t f er (sKey S v) (qPush S U) → J y 0 = 0 → Qp J (some (vi (rKey S v).2))) (kx1 : (rKey S v).1 = 1 → ∀ (J : zI) (v9 : Int32), zRf F9 J y t f er S U → J y 0 = 1 → Qp J (some (vi v9))) :
    zC l D b0 tA sa sv K yX8_key (.code yX8_key cX8_key 2 (some .int)) zrm_X8_key [vr (y) 8, vi (v)] I Qp Xp := by
  unfold rKey at k0 kx1
  unfold sKey at k0
  cases e1 : vIdx v 3 with
  | none => rw [e1] at kx1; exact zx_X8_key hC e1 (kx1 rfl)
  | some k =>
    simp only [e1] at k0
    obtain ⟨h1, rfl⟩ := vIdx_some e1
    exact zo_X8_key hC h1 (k0 (by first | rfl | trivial))
abbrev zrm_X8_join : Room := { frames := 5, cells := 0, slots := 0, locals := 115 }
set_option maxRecDepth 20000 in
theorem zonone_X8_join {l : Launch} {D : va_G} {b0 : Nat} {tA : Nat → ClassId} {sa sv : Nat → Nat} {K : Nat → Option Nat} {I : zI} {Qp : zI → Option AV → Prop} {Xp : String → zI → Prop} {F9 : zI} {y f : Nat} {t : Nat → Nat} {er : Int32} {S : zS} {U : List zS} {g s9 : Nat}
    (hC : zRf F9 I y t f er S U) (hg : g < zng S) (hs : s9 < 2) (k1 : ∀ J : zI, zRf F9 J y t f er (sJoin1 S g s9 0) (qPush S U) → J y 0 = 0 → Qp J (some (vi (rJoin1 S g s9 0)))) :
    zC l D b0 tA sa sv K yX8_join (.code yX8_join cX8_join 5 (some .int)) zrm_X8_join [vr (y) 8, vi ((nI g)), vi ((nI s9)), vi ((-1 : Int32))] I Qp Xp := by
  have hC1 : zRf F9 (zput I y 0 0) y t f er S U := hC.put (by decide)
  have hW := hC.2.2.2.1
  have hg6 := hW.ng.1
  have hc12 := hW.nc.1
  have hf5 := hC.1.2.1
  have hl9 := hW.len g s9
  refine zC_of (by decide +kernel) (Nat.le_of_ble_eq_true rfl) ?_
  intro p e s m args below meth c X hnt
  have X : zX p l e zrm_X8_join s m args below meth c RX8 cX8_join 5 (some .int) D b0 tA sa sv := X
  refine zr_lv (lv2 := [some (vr (y) 8), some (vi ((nI g))), some (vi ((nI s9))), some (vi ((-1 : Int32))), none]) rfl ?_
  refine zr_aload0 X dX8_join_0 ?_
  refine zr_iconst (v := (0 : Int32)) X dX8_join_1 (by decide) ?_
  refine zr_putI X zf_X8_31 rfl (Or.inl rfl) dX8_join_2 ?_
  refine zr_aload0 X dX8_join_5 ?_
  refine zr_iload1 X dX8_join_6 ?_
  refine zr_iload2 X dX8_join_7 ?_
  refine zr_iload3 X dX8_join_8 ?_
  refine zr_callV3 (rm9 := zrm_X8_noJoin) X hnt zm_X8_257 (by decide) (by decide) (by decide) (Nat.le_of_ble_eq_true rfl) dX8_join_9 ?_
  refine zonone_X8_noJoin hC1.2.2.1 hW (zput_eq) (by omega) (by omega) ?_
  refine zr_if_eq (tgt := 17) X dX8_join_12 (by decide) (fun _ => ?_) (fun h => absurd h (by decide))
  refine zr_aload0 X dX8_join_17 ?_
  refine zr_callV0 (rm9 := zrm_X8_remember) X hnt zm_X8_229 (by decide) (by decide) (by decide) (Nat.le_of_ble_eq_true rfl) dX8_join_18 ?_
  refine zp_X8_remember hC1 ?_
  intro J17 hr18 h019 e320
  refine zr_aload0 X dX8_join_21 ?_
  refine zr_getR X zf_X8_17 rfl (by decide) (by decide) dX8_join_22 ?_
  refine zr_iload1 X dX8_join_25 ?_
  refine zr_iload2 X dX8_join_26 ?_
  refine zr_iload3 X dX8_join_27 ?_
  refine zr_callS4 (rm9 := zrm_X8_joins) X hnt zm_X8_183 (by decide) (by decide) (by decide) (Nat.le_of_ble_eq_true rfl) dX8_join_28 ?_
  refine znone_X8_joins (g := g) (s9 := s9) hr18.2.2.1 hW (by omega) (by omega) ?_ ?_
  · skip
    intro hy25 J21 hg22 hM23; have hW24 : zWf (tL S g s9 (sL S g s9 ++ [0])) := zWf_join hW (by omega) (by omega) hy25
    refine zr_istore4 X (by decide) rfl dX8_join_31 ?_
    refine zr_aload0 X dX8_join_33 ?_
    refine zr_getR X zf_X8_17 rfl (by decide) (by decide) dX8_join_34 ?_
    refine zr_bipush (v := (13 : Int32)) X dX8_join_37 (by decide) ?_
    refine zr_dup2 X dX8_join_39 ?_
    refine zr_ialdN (n := 13) X rfl (show _ < 310 from (by first | assumption | omega | decide)) dX8_join_40 ?_
    refine zr_eq (x2 := (sX (tL S g s9 (sL S g s9 ++ [0])) 13)) (hM23.1 13 (by decide)) ?_
    refine zr_iload4 X dX8_join_41 ?_
    refine zr_nif_ge X (((sL S g s9).length + 1)) (tgt := 50) (by omega) dX8_join_43 (by decide) (fun _ => ?_) (fun h => absurd trivial h)
    refine zr_iconst (v := (0 : Int32)) X dX8_join_50 (by decide) ?_
    refine zr_iadd X dX8_join_51 ?_
    refine zr_eq (x2 := (sX (tL S g s9 (sL S g s9 ++ [0])) 13)) (Int32.add_zero _) ?_
    refine zr_iastN (n := 13) X rfl (by decide) dX8_join_52 ?_
    have hM_1 : zMd _ (y + 2) (tX (tL S g s9 (sL S g s9 ++ [0])) 13 (sX (tL S g s9 (sL S g s9 ++ [0])) 13)) := zMd_X hM23 (i := 13) (v := (sX (tL S g s9 (sL S g s9 ++ [0])) 13)) (by decide)
    refine zr_iload4 X dX8_join_53 ?_
    refine zr_iret X (by decide) (by decide) dX8_join_55 ?_
    have hag : zag J17 (zput J21 (y + 2) 13 ((sX (tL S g s9 (sL S g s9 ++ [0])) 13))) (y + 2) 1 := by repeat (first | exact zag.rf | assumption | refine zag.put ?_ (by omega) (by omega) | refine zag.tr ?_ (by assumption) (by omega) (by omega))
    rw [sJoin1, if_pos hy25, rJoin1, if_pos hy25] at k1
    have hm9 := hM_1
    rw [tX_id] at hm9
    exact k1 _ (hr18.now hag hm9 (hW24)) ((congrFun (hag y (by omega)) 0).trans (h019.trans zput_eq))
  · skip
    intro hy26; have hn27 : ¬ ((0 : Int32) ≤ (-nI (qWhy S g s9 0))) := zneg_lt hy26 qWhy_lt
    refine zr_istore4 X (by decide) rfl dX8_join_31 ?_
    refine zr_aload0 X dX8_join_33 ?_
    refine zr_getR X zf_X8_17 rfl (by decide) (by decide) dX8_join_34 ?_
    refine zr_bipush (v := (13 : Int32)) X dX8_join_37 (by decide) ?_
    refine zr_dup2 X dX8_join_39 ?_
    refine zr_ialdN (n := 13) X rfl (show _ < 310 from (by first | assumption | omega | decide)) dX8_join_40 ?_
    refine zr_eq (x2 := (sX S 13)) (hr18.2.2.1.1 13 (by decide)) ?_
    refine zr_iload4 X dX8_join_41 ?_
    refine zr_if_ge (tgt := 50) X dX8_join_43 (by decide) (fun h => absurd h (by assumption)) (fun _ => ?_)
    refine zr_iconst (v := (1 : Int32)) X dX8_join_46 (by decide) ?_
    refine zr_goto (tgt := 51) X dX8_join_47 (by decide) ?_
    refine zr_iadd X dX8_join_51 ?_
    refine zr_iastN (n := 13) X rfl (by decide) dX8_join_52 ?_
    have hM_2 : zMd _ (y + 2) (tX S 13 ((sX S 13) + (1 : Int32))) := zMd_X hr18.2.2.1 (i := 13) (v := ((sX S 13) + (1 : Int32))) (by decide)
    refine zr_iload4 X dX8_join_53 ?_
    refine zr_iret X (by decide) (by decide) dX8_join_55 ?_
    have hag : zag J17 (zput J17 (y + 2) 13 (((sX S 13) + (1 : Int32)))) (y + 2) 1 := by repeat (first | exact zag.rf | assumption | refine zag.put ?_ (by omega) (by omega) | refine zag.tr ?_ (by assumption) (by omega) (by omega))
    rw [sJoin1, if_neg hy26, rJoin1, if_neg hy26] at k1
    exact k1 _ (hr18.now hag hM_2 (zWf_tX hW (by decide))) ((congrFun (hag y (by omega)) 0).trans (h019.trans zput_eq))
set_option maxRecDepth 20000 in
theorem zx2none_X8_join {l : Launch} {D : va_G} {b0 : Nat} {tA : Nat → ClassId} {sa sv : Nat → Nat} {K : Nat → Option Nat} {I : zI} {Qp : zI → Option AV → Prop} {Xp : String → zI → Prop} {F9 : zI} {y f : Nat} {t : Nat → Nat} {er : Int32} {S : zS} {U : List zS} {g : Nat} {v : Int32}
    (hC : zRf F9 I y t f er S U) (hg : g < zng S) (hb : vIdx v (2) = none) (kx : ∀ (J : zI) (v9 : Int32), zRf F9 J y t f er S U → J y 0 = 2 → Qp J (some (vi v9))) :
    zC l D b0 tA sa sv K yX8_join (.code yX8_join cX8_join 5 (some .int)) zrm_X8_join [vr (y) 8, vi ((nI g)), vi (v), vi ((-1 : Int32))] I Qp Xp := by
  have hC1 : zRf F9 (zput I y 0 0) y t f er S U := hC.put (by decide)
  have hW := hC.2.2.2.1
  have hg6 := hW.ng.1
  have hc12 := hW.nc.1
  have hf5 := hC.1.2.1
  refine zC_of (by decide +kernel) (Nat.le_of_ble_eq_true rfl) ?_
  intro p e s m args below meth c X hnt
  have X : zX p l e zrm_X8_join s m args below meth c RX8 cX8_join 5 (some .int) D b0 tA sa sv := X
  refine zr_lv (lv2 := [some (vr (y) 8), some (vi ((nI g))), some (vi (v)), some (vi ((-1 : Int32))), none]) rfl ?_
  refine zr_aload0 X dX8_join_0 ?_
  refine zr_iconst (v := (0 : Int32)) X dX8_join_1 (by decide) ?_
  refine zr_putI X zf_X8_31 rfl (Or.inl rfl) dX8_join_2 ?_
  refine zr_aload0 X dX8_join_5 ?_
  refine zr_iload1 X dX8_join_6 ?_
  refine zr_iload2 X dX8_join_7 ?_
  refine zr_iload3 X dX8_join_8 ?_
  refine zr_callV3 (rm9 := zrm_X8_noJoin) X hnt zm_X8_257 (by decide) (by decide) (by decide) (Nat.le_of_ble_eq_true rfl) dX8_join_9 ?_
  refine zx2none_X8_noJoin hC1.2.2.1 hW (zput_eq) (by omega) (by assumption) ?_
  refine zr_if_eq (tgt := 17) X dX8_join_12 (by decide) (fun h => absurd h (by decide)) (fun _ => ?_)
  refine zr_iconst (v := (0 : Int32)) X dX8_join_15 (by decide) ?_
  refine zr_iret X (by decide) (by decide) dX8_join_16 ?_
  exact kx _ _ (hC1.put (by decide)) zput_eq
set_option maxRecDepth 20000 in
theorem zook_X8_join {l : Launch} {D : va_G} {b0 : Nat} {tA : Nat → ClassId} {sa sv : Nat → Nat} {K : Nat → Option Nat} {I : zI} {Qp : zI → Option AV → Prop} {Xp : String → zI → Prop} {F9 : zI} {y f : Nat} {t : Nat → Nat} {er : Int32} {S : zS} {U : List zS} {g s9 c9 : Nat}
    (hC : zRf F9 I y t f er S U) (hg : g < zng S) (hc : c9 < znc S) (hs : s9 < 2) (k1 : ∀ J : zI, zRf F9 J y t f er (sJoin1 S g s9 (c9 + 1)) (qPush S U) → J y 0 = 0 → Qp J (some (vi (rJoin1 S g s9 (c9 + 1))))) :
    zC l D b0 tA sa sv K yX8_join (.code yX8_join cX8_join 5 (some .int)) zrm_X8_join [vr (y) 8, vi ((nI g)), vi ((nI s9)), vi ((nI c9))] I Qp Xp := by
  have hC1 : zRf F9 (zput I y 0 0) y t f er S U := hC.put (by decide)
  have hW := hC.2.2.2.1
  have hg6 := hW.ng.1
  have hc12 := hW.nc.1
  have hf5 := hC.1.2.1
  have hl9 := hW.len g s9
  refine zC_of (by decide +kernel) (Nat.le_of_ble_eq_true rfl) ?_
  intro p e s m args below meth c X hnt
  have X : zX p l e zrm_X8_join s m args below meth c RX8 cX8_join 5 (some .int) D b0 tA sa sv := X
  refine zr_lv (lv2 := [some (vr (y) 8), some (vi ((nI g))), some (vi ((nI s9))), some (vi ((nI c9))), none]) rfl ?_
  refine zr_aload0 X dX8_join_0 ?_
  refine zr_iconst (v := (0 : Int32)) X dX8_join_1 (by decide) ?_
  refine zr_putI X zf_X8_31 rfl (Or.inl rfl) dX8_join_2 ?_
  refine zr_aload0 X dX8_join_5 ?_
  refine zr_iload1 X dX8_join_6 ?_
  refine zr_iload2 X dX8_join_7 ?_
  refine zr_iload3 X dX8_join_8 ?_
  refine zr_callV3 (rm9 := zrm_X8_noJoin) X hnt zm_X8_257 (by decide) (by decide) (by decide) (Nat.le_of_ble_eq_true rfl) dX8_join_9 ?_
  refine zook_X8_noJoin hC1.2.2.1 hW (zput_eq) (by omega) (by omega) (by omega) ?_
  refine zr_if_eq (tgt := 17) X dX8_join_12 (by decide) (fun _ => ?_) (fun h => absurd h (by decide))
  refine zr_aload0 X dX8_join_17 ?_
  refine zr_callV0 (rm9 := zrm_X8_remember) X hnt zm_X8_229 (by decide) (by decide) (by decide) (Nat.le_of_ble_eq_true rfl) dX8_join_18 ?_
  refine zp_X8_remember hC1 ?_
  intro J28 hr29 h030 e331
  refine zr_aload0 X dX8_join_21 ?_
  refine zr_getR X zf_X8_17 rfl (by decide) (by decide) dX8_join_22 ?_
  refine zr_iload1 X dX8_join_25 ?_
  refine zr_iload2 X dX8_join_26 ?_
  refine zr_iload3 X dX8_join_27 ?_
  refine zr_callS4 (rm9 := zrm_X8_joins) X hnt zm_X8_183 (by decide) (by decide) (by decide) (Nat.le_of_ble_eq_true rfl) dX8_join_28 ?_
  refine zok_X8_joins (g := g) (s9 := s9) hr29.2.2.1 hW (by omega) (by omega) (by omega) ?_ ?_
  · skip
    intro hy36 J32 hg33 hM34; have hW35 : zWf (tL S g s9 (sL S g s9 ++ [(c9 + 1)])) := zWf_join hW (by omega) (by omega) hy36
    refine zr_istore4 X (by decide) rfl dX8_join_31 ?_
    refine zr_aload0 X dX8_join_33 ?_
    refine zr_getR X zf_X8_17 rfl (by decide) (by decide) dX8_join_34 ?_
    refine zr_bipush (v := (13 : Int32)) X dX8_join_37 (by decide) ?_
    refine zr_dup2 X dX8_join_39 ?_
    refine zr_ialdN (n := 13) X rfl (show _ < 310 from (by first | assumption | omega | decide)) dX8_join_40 ?_
    refine zr_eq (x2 := (sX (tL S g s9 (sL S g s9 ++ [(c9 + 1)])) 13)) (hM34.1 13 (by decide)) ?_
    refine zr_iload4 X dX8_join_41 ?_
    refine zr_nif_ge X (((sL S g s9).length + 1)) (tgt := 50) (by omega) dX8_join_43 (by decide) (fun _ => ?_) (fun h => absurd trivial h)
    refine zr_iconst (v := (0 : Int32)) X dX8_join_50 (by decide) ?_
    refine zr_iadd X dX8_join_51 ?_
    refine zr_eq (x2 := (sX (tL S g s9 (sL S g s9 ++ [(c9 + 1)])) 13)) (Int32.add_zero _) ?_
    refine zr_iastN (n := 13) X rfl (by decide) dX8_join_52 ?_
    have hM_1 : zMd _ (y + 2) (tX (tL S g s9 (sL S g s9 ++ [(c9 + 1)])) 13 (sX (tL S g s9 (sL S g s9 ++ [(c9 + 1)])) 13)) := zMd_X hM34 (i := 13) (v := (sX (tL S g s9 (sL S g s9 ++ [(c9 + 1)])) 13)) (by decide)
    refine zr_iload4 X dX8_join_53 ?_
    refine zr_iret X (by decide) (by decide) dX8_join_55 ?_
    have hag : zag J28 (zput J32 (y + 2) 13 ((sX (tL S g s9 (sL S g s9 ++ [(c9 + 1)])) 13))) (y + 2) 1 := by repeat (first | exact zag.rf | assumption | refine zag.put ?_ (by omega) (by omega) | refine zag.tr ?_ (by assumption) (by omega) (by omega))
    rw [sJoin1, if_pos hy36, rJoin1, if_pos hy36] at k1
    have hm9 := hM_1
    rw [tX_id] at hm9
    exact k1 _ (hr29.now hag hm9 (hW35)) ((congrFun (hag y (by omega)) 0).trans (h030.trans zput_eq))
  · skip
    intro hy37; have hn38 : ¬ ((0 : Int32) ≤ (-nI (qWhy S g s9 (c9 + 1)))) := zneg_lt hy37 qWhy_lt
    refine zr_istore4 X (by decide) rfl dX8_join_31 ?_
    refine zr_aload0 X dX8_join_33 ?_
    refine zr_getR X zf_X8_17 rfl (by decide) (by decide) dX8_join_34 ?_
    refine zr_bipush (v := (13 : Int32)) X dX8_join_37 (by decide) ?_
    refine zr_dup2 X dX8_join_39 ?_
    refine zr_ialdN (n := 13) X rfl (show _ < 310 from (by first | assumption | omega | decide)) dX8_join_40 ?_
    refine zr_eq (x2 := (sX S 13)) (hr29.2.2.1.1 13 (by decide)) ?_
    refine zr_iload4 X dX8_join_41 ?_
    refine zr_if_ge (tgt := 50) X dX8_join_43 (by decide) (fun h => absurd h (by assumption)) (fun _ => ?_)
    refine zr_iconst (v := (1 : Int32)) X dX8_join_46 (by decide) ?_
    refine zr_goto (tgt := 51) X dX8_join_47 (by decide) ?_
    refine zr_iadd X dX8_join_51 ?_
    refine zr_iastN (n := 13) X rfl (by decide) dX8_join_52 ?_
    have hM_2 : zMd _ (y + 2) (tX S 13 ((sX S 13) + (1 : Int32))) := zMd_X hr29.2.2.1 (i := 13) (v := ((sX S 13) + (1 : Int32))) (by decide)
    refine zr_iload4 X dX8_join_53 ?_
    refine zr_iret X (by decide) (by decide) dX8_join_55 ?_
    have hag : zag J28 (zput J28 (y + 2) 13 (((sX S 13) + (1 : Int32)))) (y + 2) 1 := by repeat (first | exact zag.rf | assumption | refine zag.put ?_ (by omega) (by omega) | refine zag.tr ?_ (by assumption) (by omega) (by omega))
    rw [sJoin1, if_neg hy37, rJoin1, if_neg hy37] at k1
    exact k1 _ (hr29.now hag hM_2 (zWf_tX hW (by decide))) ((congrFun (hag y (by omega)) 0).trans (h030.trans zput_eq))
set_option maxRecDepth 20000 in
theorem zx2ok_X8_join {l : Launch} {D : va_G} {b0 : Nat} {tA : Nat → ClassId} {sa sv : Nat → Nat} {K : Nat → Option Nat} {I : zI} {Qp : zI → Option AV → Prop} {Xp : String → zI → Prop} {F9 : zI} {y f : Nat} {t : Nat → Nat} {er : Int32} {S : zS} {U : List zS} {g c9 : Nat} {v : Int32}
    (hC : zRf F9 I y t f er S U) (hg : g < zng S) (hc : c9 < znc S) (hb : vIdx v (2) = none) (kx : ∀ (J : zI) (v9 : Int32), zRf F9 J y t f er S U → J y 0 = 2 → Qp J (some (vi v9))) :
    zC l D b0 tA sa sv K yX8_join (.code yX8_join cX8_join 5 (some .int)) zrm_X8_join [vr (y) 8, vi ((nI g)), vi (v), vi ((nI c9))] I Qp Xp := by
  have hC1 : zRf F9 (zput I y 0 0) y t f er S U := hC.put (by decide)
  have hW := hC.2.2.2.1
  have hg6 := hW.ng.1
  have hc12 := hW.nc.1
  have hf5 := hC.1.2.1
  refine zC_of (by decide +kernel) (Nat.le_of_ble_eq_true rfl) ?_
  intro p e s m args below meth c X hnt
  have X : zX p l e zrm_X8_join s m args below meth c RX8 cX8_join 5 (some .int) D b0 tA sa sv := X
  refine zr_lv (lv2 := [some (vr (y) 8), some (vi ((nI g))), some (vi (v)), some (vi ((nI c9))), none]) rfl ?_
  refine zr_aload0 X dX8_join_0 ?_
  refine zr_iconst (v := (0 : Int32)) X dX8_join_1 (by decide) ?_
  refine zr_putI X zf_X8_31 rfl (Or.inl rfl) dX8_join_2 ?_
  refine zr_aload0 X dX8_join_5 ?_
  refine zr_iload1 X dX8_join_6 ?_
  refine zr_iload2 X dX8_join_7 ?_
  refine zr_iload3 X dX8_join_8 ?_
  refine zr_callV3 (rm9 := zrm_X8_noJoin) X hnt zm_X8_257 (by decide) (by decide) (by decide) (Nat.le_of_ble_eq_true rfl) dX8_join_9 ?_
  refine zx2ok_X8_noJoin hC1.2.2.1 hW (zput_eq) (by omega) (by omega) (by assumption) ?_
  refine zr_if_eq (tgt := 17) X dX8_join_12 (by decide) (fun h => absurd h (by decide)) (fun _ => ?_)
  refine zr_iconst (v := (0 : Int32)) X dX8_join_15 (by decide) ?_
  refine zr_iret X (by decide) (by decide) dX8_join_16 ?_
  exact kx _ _ (hC1.put (by decide)) zput_eq
set_option maxRecDepth 20000 in
theorem zx1c_X8_join {l : Launch} {D : va_G} {b0 : Nat} {tA : Nat → ClassId} {sa sv : Nat → Nat} {K : Nat → Option Nat} {I : zI} {Qp : zI → Option AV → Prop} {Xp : String → zI → Prop} {F9 : zI} {y f : Nat} {t : Nat → Nat} {er : Int32} {S : zS} {U : List zS} {g : Nat} {v v3 : Int32}
    (hC : zRf F9 I y t f er S U) (hg : g < zng S) (hb : vIdx v3 (znc S) = none) (hn1 : ¬ v3 = (-1 : Int32)) (kx : ∀ (J : zI) (v9 : Int32), zRf F9 J y t f er S U → J y 0 = 1 → Qp J (some (vi v9))) :
    zC l D b0 tA sa sv K yX8_join (.code yX8_join cX8_join 5 (some .int)) zrm_X8_join [vr (y) 8, vi ((nI g)), vi (v), vi (v3)] I Qp Xp := by
  have hC1 : zRf F9 (zput I y 0 0) y t f er S U := hC.put (by decide)
  have hW := hC.2.2.2.1
  have hg6 := hW.ng.1
  have hc12 := hW.nc.1
  have hf5 := hC.1.2.1
  refine zC_of (by decide +kernel) (Nat.le_of_ble_eq_true rfl) ?_
  intro p e s m args below meth c X hnt
  have X : zX p l e zrm_X8_join s m args below meth c RX8 cX8_join 5 (some .int) D b0 tA sa sv := X
  refine zr_lv (lv2 := [some (vr (y) 8), some (vi ((nI g))), some (vi (v)), some (vi (v3)), none]) rfl ?_
  refine zr_aload0 X dX8_join_0 ?_
  refine zr_iconst (v := (0 : Int32)) X dX8_join_1 (by decide) ?_
  refine zr_putI X zf_X8_31 rfl (Or.inl rfl) dX8_join_2 ?_
  refine zr_aload0 X dX8_join_5 ?_
  refine zr_iload1 X dX8_join_6 ?_
  refine zr_iload2 X dX8_join_7 ?_
  refine zr_iload3 X dX8_join_8 ?_
  refine zr_callV3 (rm9 := zrm_X8_noJoin) X hnt zm_X8_257 (by decide) (by decide) (by decide) (Nat.le_of_ble_eq_true rfl) dX8_join_9 ?_
  refine zx1c_X8_noJoin hC1.2.2.1 hW (zput_eq) (by omega) (by assumption) (by assumption) ?_
  refine zr_if_eq (tgt := 17) X dX8_join_12 (by decide) (fun h => absurd h (by decide)) (fun _ => ?_)
  refine zr_iconst (v := (0 : Int32)) X dX8_join_15 (by decide) ?_
  refine zr_iret X (by decide) (by decide) dX8_join_16 ?_
  exact kx _ _ (hC1.put (by decide)) zput_eq
set_option maxRecDepth 20000 in
theorem zx1_X8_join {l : Launch} {D : va_G} {b0 : Nat} {tA : Nat → ClassId} {sa sv : Nat → Nat} {K : Nat → Option Nat} {I : zI} {Qp : zI → Option AV → Prop} {Xp : String → zI → Prop} {F9 : zI} {y f : Nat} {t : Nat → Nat} {er : Int32} {S : zS} {U : List zS} {u v v3 : Int32}
    (hC : zRf F9 I y t f er S U) (hb : vIdx u (zng S) = none) (kx : ∀ (J : zI) (v9 : Int32), zRf F9 J y t f er S U → J y 0 = 1 → Qp J (some (vi v9))) :
    zC l D b0 tA sa sv K yX8_join (.code yX8_join cX8_join 5 (some .int)) zrm_X8_join [vr (y) 8, vi (u), vi (v), vi (v3)] I Qp Xp := by
  have hC1 : zRf F9 (zput I y 0 0) y t f er S U := hC.put (by decide)
  have hW := hC.2.2.2.1
  have hg6 := hW.ng.1
  have hc12 := hW.nc.1
  have hf5 := hC.1.2.1
  refine zC_of (by decide +kernel) (Nat.le_of_ble_eq_true rfl) ?_
  intro p e s m args below meth c X hnt
  have X : zX p l e zrm_X8_join s m args below meth c RX8 cX8_join 5 (some .int) D b0 tA sa sv := X
  refine zr_lv (lv2 := [some (vr (y) 8), some (vi (u)), some (vi (v)), some (vi (v3)), none]) rfl ?_
  refine zr_aload0 X dX8_join_0 ?_
  refine zr_iconst (v := (0 : Int32)) X dX8_join_1 (by decide) ?_
  refine zr_putI X zf_X8_31 rfl (Or.inl rfl) dX8_join_2 ?_
  refine zr_aload0 X dX8_join_5 ?_
  refine zr_iload1 X dX8_join_6 ?_
  refine zr_iload2 X dX8_join_7 ?_
  refine zr_iload3 X dX8_join_8 ?_
  refine zr_callV3 (rm9 := zrm_X8_noJoin) X hnt zm_X8_257 (by decide) (by decide) (by decide) (Nat.le_of_ble_eq_true rfl) dX8_join_9 ?_
  refine zx1_X8_noJoin hC1.2.2.1 hW (zput_eq) (by assumption) ?_
  refine zr_if_eq (tgt := 17) X dX8_join_12 (by decide) (fun h => absurd h (by decide)) (fun _ => ?_)
  refine zr_iconst (v := (0 : Int32)) X dX8_join_15 (by decide) ?_
  refine zr_iret X (by decide) (by decide) dX8_join_16 ?_
  exact kx _ _ (hC1.put (by decide)) zput_eq
theorem zq_X8_join {l : Launch} {D : va_G} {b0 : Nat} {tA : Nat → ClassId} {sa sv : Nat → Nat} {K : Nat → Option Nat} {I : zI} {Qp : zI → Option AV → Prop} {Xp : String → zI → Prop} {F9 : zI} {y f : Nat} {t : Nat → Nat} {er : Int32} {S : zS} {U : List zS} {u v v3 : Int32}
    (hC : zRf F9 I y t f er S U) (k0 : (rJoin S u v v3).1 = 0 → ∀ J : zI, zRf F9 J y t f er (sJoin S u v v3) (qPush S U) → J y 0 = 0 → Qp J (some (vi (rJoin S u v v3).2))) (kx1 : (rJoin S u v v3).1 = 1 → ∀ (J : zI) (v9 : Int32), zRf F9 J y t f er S U → J y 0 = 1 → Qp J (some (vi v9))) (kx2 : (rJoin S u v v3).1 = 2 → ∀ (J : zI) (v9 : Int32), zRf F9 J y t f er S U → J y 0 = 2 → Qp J (some (vi v9))) :
    zC l D b0 tA sa sv K yX8_join (.code yX8_join cX8_join 5 (some .int)) zrm_X8_join [vr (y) 8, vi (u), vi (v), vi (v3)] I Qp Xp := by
  unfold rJoin at k0 kx1 kx2
  unfold sJoin at k0
  cases e1 : vIdx u (zng S) with
  | none => rw [e1] at kx1; exact zx1_X8_join hC e1 (kx1 rfl)
  | some g =>
    rw [e1] at k0 kx1 kx2
    obtain ⟨h1, rfl⟩ := vIdx_some e1
    rcases vWho_cases (v := v3) (n := znc S) with ⟨rfl, e2⟩ | ⟨c, hc, rfl, e2⟩ | ⟨hn, hb, e2⟩
    · simp only [e2] at k0 kx2
      cases e3 : vIdx v 2 with
      | none => simp only [e3] at kx2; exact zx2none_X8_join hC h1 e3 (kx2 (by first | rfl | trivial))
      | some w =>
        simp only [e3] at k0
        obtain ⟨h3, rfl⟩ := vIdx_some e3
        exact zonone_X8_join hC h1 h3 (k0 (by first | rfl | trivial))
    · simp only [e2] at k0 kx2
      cases e3 : vIdx v 2 with
      | none => simp only [e3] at kx2; exact zx2ok_X8_join hC h1 hc e3 (kx2 (by first | rfl | trivial))
      | some w =>
        simp only [e3] at k0
        obtain ⟨h3, rfl⟩ := vIdx_some e3
        exact zook_X8_join hC h1 hc h3 (k0 (by first | rfl | trivial))
    · simp only [e2] at kx1
      exact zx1c_X8_join hC h1 hb hn (kx1 (by first | rfl | trivial))
abbrev zrm_X8_leave : Room := { frames := 3, cells := 0, slots := 0, locals := 69 }
set_option maxRecDepth 20000 in
theorem zo_X8_leave {l : Launch} {D : va_G} {b0 : Nat} {tA : Nat → ClassId} {sa sv : Nat → Nat} {K : Nat → Option Nat} {I : zI} {Qp : zI → Option AV → Prop} {Xp : String → zI → Prop} {F9 : zI} {y f : Nat} {t : Nat → Nat} {er : Int32} {S : zS} {U : List zS} {g s9 p9 : Nat}
    (hC : zRf F9 I y t f er S U) (hg : g < zng S) (hs : s9 < 2) (hp : p9 < (sL S g s9).length) (kd : ¬ (p9 = 0 ∧ sG S g 3 = 1 ∧ sG S g 2 = nI (s9 + 1))) (k1 : ∀ J : zI, zRf F9 J y t f er (tL S g s9 ((sL S g s9).eraseIdx p9)) (qPush S U) → J y 0 = 0 → Qp J (some (vi (nI ((sL S g s9).length - 1))))) :
    zC l D b0 tA sa sv K yX8_leave (.code yX8_leave cX8_leave 4 (some .int)) zrm_X8_leave [vr (y) 8, vi ((nI g)), vi ((nI s9)), vi ((nI p9))] I Qp Xp := by
  have hC1 : zRf F9 (zput I y 0 0) y t f er S U := hC.put (by decide)
  have hW := hC.2.2.2.1
  have hg6 := hW.ng.1
  have hc12 := hW.nc.1
  have hf5 := hC.1.2.1
  have hl9 := hW.len g s9
  refine zC_of (by decide +kernel) (Nat.le_of_ble_eq_true rfl) ?_
  intro p e s m args below meth c X hnt
  have X : zX p l e zrm_X8_leave s m args below meth c RX8 cX8_leave 4 (some .int) D b0 tA sa sv := X
  refine zr_lv (lv2 := [some (vr (y) 8), some (vi ((nI g))), some (vi ((nI s9))), some (vi ((nI p9)))]) rfl ?_
  refine zr_aload0 X dX8_leave_0 ?_
  refine zr_iconst (v := (0 : Int32)) X dX8_leave_1 (by decide) ?_
  refine zr_putI X zf_X8_31 rfl (Or.inl rfl) dX8_leave_2 ?_
  refine zr_aload0 X dX8_leave_5 ?_
  refine zr_iload1 X dX8_leave_6 ?_
  refine zr_callV1 (rm9 := zrm_X8_noGate) X hnt zm_X8_242 (by decide) (by decide) (by decide) (Nat.le_of_ble_eq_true rfl) dX8_leave_7 ?_
  refine zo_X8_noGate hC1.2.2.1 hW (zput_eq) (by omega) ?_
  refine zr_if_ne (tgt := 54) X dX8_leave_10 (by decide) (fun h => absurd h (by decide)) (fun _ => ?_)
  refine zr_aload0 X dX8_leave_13 ?_
  refine zr_iload2 X dX8_leave_14 ?_
  refine zr_iconst (v := (2 : Int32)) X dX8_leave_15 (by decide) ?_
  refine zr_callV2 (rm9 := zrm_X8_noSide) X hnt zm_X8_254 (by decide) (by decide) (by decide) (Nat.le_of_ble_eq_true rfl) dX8_leave_16 ?_
  refine zo_X8_noSide (zput_eq) (by omega) ?_
  refine zr_if_ne (tgt := 54) X dX8_leave_19 (by decide) (fun h => absurd h (by decide)) (fun _ => ?_)
  refine zr_aload0 X dX8_leave_22 ?_
  refine zr_iload3 X dX8_leave_23 ?_
  refine zr_iconst (v := (0 : Int32)) X dX8_leave_24 (by decide) ?_
  refine zr_aload0 X dX8_leave_25 ?_
  refine zr_getR X zf_X8_17 rfl (by decide) (by decide) dX8_leave_26 ?_
  refine zr_iload1 X dX8_leave_29 ?_
  refine zr_iload2 X dX8_leave_30 ?_
  refine zr_callS3 (rm9 := zrm_X8_many) X hnt zm_X8_38 (by decide) (by decide) (by decide) (Nat.le_of_ble_eq_true rfl) dX8_leave_31 ?_
  refine zn_X8_many (g := g) (s9 := s9) hC1.2.2.1 (by omega) (by omega) ?_
  refine zr_iconst (v := (1 : Int32)) X dX8_leave_34 (by decide) ?_
  refine zr_isub X dX8_leave_35 ?_
  refine zr_callS3 (rm9 := zrm_X8_in) X hnt zm_X8_117 (by decide) (by decide) (by decide) (Nat.le_of_ble_eq_true rfl) dX8_leave_36 ?_
  refine zIo_X8_in (n := ((sL S g s9).length)) (by omega) (by omega) rfl ?_
  refine zr_if_ne (tgt := 46) X dX8_leave_39 (by decide) (fun _ => ?_) (fun h => absurd h (by decide))
  refine zr_iconst (v := (0 : Int32)) X dX8_leave_46 (by decide) ?_
  refine zr_iconst (v := (3 : Int32)) X dX8_leave_47 (by decide) ?_
  refine zr_callV2 (rm9 := zrm_X8_fails) X hnt zm_X8_220 (by decide) (by decide) (by decide) (Nat.le_of_ble_eq_true rfl) dX8_leave_48 ?_
  refine zf0_X8_fails (zput_eq) ?_
  refine zr_if_eq (tgt := 56) X dX8_leave_51 (by decide) (fun _ => ?_) (fun h => absurd h (by decide))
  refine zr_aload0 X dX8_leave_56 ?_
  refine zr_iload3 X dX8_leave_57 ?_
  refine zr_nif_ne X (p9) (tgt := 95) (by omega) dX8_leave_58 (by decide) (fun h1 => ?_) (fun h1 => ?_)
  · skip
    refine zr_iconst (v := (0 : Int32)) X dX8_leave_95 (by decide) ?_
    refine zr_iconst (v := (4 : Int32)) X dX8_leave_96 (by decide) ?_
    refine zr_callV2 (rm9 := zrm_X8_fails) X hnt zm_X8_220 (by decide) (by decide) (by decide) (Nat.le_of_ble_eq_true rfl) dX8_leave_97 ?_
    refine zf0_X8_fails (zput_eq) ?_
    refine zr_if_eq (tgt := 105) X dX8_leave_100 (by decide) (fun _ => ?_) (fun h => absurd h (by decide))
    refine zr_aload0 X dX8_leave_105 ?_
    refine zr_callV0 (rm9 := zrm_X8_remember) X hnt zm_X8_229 (by decide) (by decide) (by decide) (Nat.le_of_ble_eq_true rfl) dX8_leave_106 ?_
    refine zp_X8_remember hC1 ?_
    intro J39 hr40 h041 e342
    refine zr_aload0 X dX8_leave_109 ?_
    refine zr_getR X zf_X8_17 rfl (by decide) (by decide) dX8_leave_110 ?_
    refine zr_iload1 X dX8_leave_113 ?_
    refine zr_iload2 X dX8_leave_114 ?_
    refine zr_iload3 X dX8_leave_115 ?_
    refine zr_callS4 (rm9 := zrm_X8_takes) X hnt zm_X8_68 (by decide) (by decide) (by decide) (Nat.le_of_ble_eq_true rfl) dX8_leave_116 ?_
    refine zp_X8_takes (g := g) (s9 := s9) (k := p9) hr40.2.2.1 (by omega) (by omega) (hp) ?_
    intro J43 hg44 hM45
    refine zr_popI X dX8_leave_119 ?_
    refine zr_aload0 X dX8_leave_120 ?_
    refine zr_getR X zf_X8_17 rfl (by decide) (by decide) dX8_leave_121 ?_
    refine zr_iload1 X dX8_leave_124 ?_
    refine zr_iload2 X dX8_leave_125 ?_
    refine zr_callS3 (rm9 := zrm_X8_many) X hnt zm_X8_38 (by decide) (by decide) (by decide) (Nat.le_of_ble_eq_true rfl) dX8_leave_126 ?_
    refine zn_X8_many (g := g) (s9 := s9) hM45 (by omega) (by omega) ?_
    refine zr_iret X (by decide) (by decide) dX8_leave_129 ?_
    have hag : zag J39 J43 (y + 2) 1 := by repeat (first | exact zag.rf | assumption | refine zag.put ?_ (by omega) (by omega) | refine zag.tr ?_ (by assumption) (by omega) (by omega))
    rw [tL_L, if_pos ⟨rfl, rfl⟩, zlen_erase hp]
    exact k1 _ (hr40.now hag hM45 (zWf_leave hW hp kd)) ((congrFun (hag y (by omega)) 0).trans (h041.trans zput_eq))
  · skip
    refine zr_aload0 X dX8_leave_61 ?_
    refine zr_getR X zf_X8_17 rfl (by decide) (by decide) dX8_leave_62 ?_
    refine zr_iload1 X dX8_leave_65 ?_
    refine zr_iconst (v := (3 : Int32)) X dX8_leave_66 (by decide) ?_
    refine zr_callS2 (rm9 := zrm_X8_gateAt) X hnt zm_X8_34 (by decide) (by decide) (by decide) (Nat.le_of_ble_eq_true rfl) dX8_leave_67 ?_
    refine zn_X8_gateAt (g := g) (w := 3) ?_
    refine zr_ialdN (n := 16 + 29 * g + 3) X rfl (show _ < 310 from (by first | assumption | omega | decide)) dX8_leave_70 ?_
    refine zr_eq (x2 := (sG S g 3)) ((hC1.2.2.1.2.1 g (by omega)).1 3 (by first | decide | omega)) ?_
    refine zr_iconst (v := (1 : Int32)) X dX8_leave_71 (by decide) ?_
    refine zr_icmp_ne (tgt := 95) X dX8_leave_72 (by decide) (fun h2 => ?_) (fun h2 => ?_)
    · skip
      refine zr_iconst (v := (0 : Int32)) X dX8_leave_95 (by decide) ?_
      refine zr_iconst (v := (4 : Int32)) X dX8_leave_96 (by decide) ?_
      refine zr_callV2 (rm9 := zrm_X8_fails) X hnt zm_X8_220 (by decide) (by decide) (by decide) (Nat.le_of_ble_eq_true rfl) dX8_leave_97 ?_
      refine zf0_X8_fails (zput_eq) ?_
      refine zr_if_eq (tgt := 105) X dX8_leave_100 (by decide) (fun _ => ?_) (fun h => absurd h (by decide))
      refine zr_aload0 X dX8_leave_105 ?_
      refine zr_callV0 (rm9 := zrm_X8_remember) X hnt zm_X8_229 (by decide) (by decide) (by decide) (Nat.le_of_ble_eq_true rfl) dX8_leave_106 ?_
      refine zp_X8_remember hC1 ?_
      intro J46 hr47 h048 e349
      refine zr_aload0 X dX8_leave_109 ?_
      refine zr_getR X zf_X8_17 rfl (by decide) (by decide) dX8_leave_110 ?_
      refine zr_iload1 X dX8_leave_113 ?_
      refine zr_iload2 X dX8_leave_114 ?_
      refine zr_iload3 X dX8_leave_115 ?_
      refine zr_callS4 (rm9 := zrm_X8_takes) X hnt zm_X8_68 (by decide) (by decide) (by decide) (Nat.le_of_ble_eq_true rfl) dX8_leave_116 ?_
      refine zp_X8_takes (g := g) (s9 := s9) (k := p9) hr47.2.2.1 (by omega) (by omega) (hp) ?_
      intro J50 hg51 hM52
      refine zr_popI X dX8_leave_119 ?_
      refine zr_aload0 X dX8_leave_120 ?_
      refine zr_getR X zf_X8_17 rfl (by decide) (by decide) dX8_leave_121 ?_
      refine zr_iload1 X dX8_leave_124 ?_
      refine zr_iload2 X dX8_leave_125 ?_
      refine zr_callS3 (rm9 := zrm_X8_many) X hnt zm_X8_38 (by decide) (by decide) (by decide) (Nat.le_of_ble_eq_true rfl) dX8_leave_126 ?_
      refine zn_X8_many (g := g) (s9 := s9) hM52 (by omega) (by omega) ?_
      refine zr_iret X (by decide) (by decide) dX8_leave_129 ?_
      have hag : zag J46 J50 (y + 2) 1 := by repeat (first | exact zag.rf | assumption | refine zag.put ?_ (by omega) (by omega) | refine zag.tr ?_ (by assumption) (by omega) (by omega))
      rw [tL_L, if_pos ⟨rfl, rfl⟩, zlen_erase hp]
      exact k1 _ (hr47.now hag hM52 (zWf_leave hW hp kd)) ((congrFun (hag y (by omega)) 0).trans (h048.trans zput_eq))
    · skip
      refine zr_aload0 X dX8_leave_75 ?_
      refine zr_getR X zf_X8_17 rfl (by decide) (by decide) dX8_leave_76 ?_
      refine zr_iload1 X dX8_leave_79 ?_
      refine zr_iconst (v := (2 : Int32)) X dX8_leave_80 (by decide) ?_
      refine zr_callS2 (rm9 := zrm_X8_gateAt) X hnt zm_X8_34 (by decide) (by decide) (by decide) (Nat.le_of_ble_eq_true rfl) dX8_leave_81 ?_
      refine zn_X8_gateAt (g := g) (w := 2) ?_
      refine zr_ialdN (n := 16 + 29 * g + 2) X rfl (show _ < 310 from (by first | assumption | omega | decide)) dX8_leave_84 ?_
      refine zr_eq (x2 := (sG S g 2)) ((hC1.2.2.1.2.1 g (by omega)).1 2 (by first | decide | omega)) ?_
      refine zr_iload2 X dX8_leave_85 ?_
      refine zr_iconst (v := (1 : Int32)) X dX8_leave_86 (by decide) ?_
      refine zr_iadd X dX8_leave_87 ?_
      refine zr_eq (x2 := (nI (s9 + 1))) (nI_add (s9) (1)) ?_
      refine zr_icmp_ne (tgt := 95) X dX8_leave_88 (by decide) (fun h3 => ?_) (fun h3 => ?_)
      · skip
        refine zr_iconst (v := (0 : Int32)) X dX8_leave_95 (by decide) ?_
        refine zr_iconst (v := (4 : Int32)) X dX8_leave_96 (by decide) ?_
        refine zr_callV2 (rm9 := zrm_X8_fails) X hnt zm_X8_220 (by decide) (by decide) (by decide) (Nat.le_of_ble_eq_true rfl) dX8_leave_97 ?_
        refine zf0_X8_fails (zput_eq) ?_
        refine zr_if_eq (tgt := 105) X dX8_leave_100 (by decide) (fun _ => ?_) (fun h => absurd h (by decide))
        refine zr_aload0 X dX8_leave_105 ?_
        refine zr_callV0 (rm9 := zrm_X8_remember) X hnt zm_X8_229 (by decide) (by decide) (by decide) (Nat.le_of_ble_eq_true rfl) dX8_leave_106 ?_
        refine zp_X8_remember hC1 ?_
        intro J53 hr54 h055 e356
        refine zr_aload0 X dX8_leave_109 ?_
        refine zr_getR X zf_X8_17 rfl (by decide) (by decide) dX8_leave_110 ?_
        refine zr_iload1 X dX8_leave_113 ?_
        refine zr_iload2 X dX8_leave_114 ?_
        refine zr_iload3 X dX8_leave_115 ?_
        refine zr_callS4 (rm9 := zrm_X8_takes) X hnt zm_X8_68 (by decide) (by decide) (by decide) (Nat.le_of_ble_eq_true rfl) dX8_leave_116 ?_
        refine zp_X8_takes (g := g) (s9 := s9) (k := p9) hr54.2.2.1 (by omega) (by omega) (hp) ?_
        intro J57 hg58 hM59
        refine zr_popI X dX8_leave_119 ?_
        refine zr_aload0 X dX8_leave_120 ?_
        refine zr_getR X zf_X8_17 rfl (by decide) (by decide) dX8_leave_121 ?_
        refine zr_iload1 X dX8_leave_124 ?_
        refine zr_iload2 X dX8_leave_125 ?_
        refine zr_callS3 (rm9 := zrm_X8_many) X hnt zm_X8_38 (by decide) (by decide) (by decide) (Nat.le_of_ble_eq_true rfl) dX8_leave_126 ?_
        refine zn_X8_many (g := g) (s9 := s9) hM59 (by omega) (by omega) ?_
        refine zr_iret X (by decide) (by decide) dX8_leave_129 ?_
        have hag : zag J53 J57 (y + 2) 1 := by repeat (first | exact zag.rf | assumption | refine zag.put ?_ (by omega) (by omega) | refine zag.tr ?_ (by assumption) (by omega) (by omega))
        rw [tL_L, if_pos ⟨rfl, rfl⟩, zlen_erase hp]
        exact k1 _ (hr54.now hag hM59 (zWf_leave hW hp kd)) ((congrFun (hag y (by omega)) 0).trans (h055.trans zput_eq))
      · skip
        exact absurd ⟨by assumption, by assumption, by assumption⟩ kd
set_option maxRecDepth 20000 in
theorem zx4_X8_leave {l : Launch} {D : va_G} {b0 : Nat} {tA : Nat → ClassId} {sa sv : Nat → Nat} {K : Nat → Option Nat} {I : zI} {Qp : zI → Option AV → Prop} {Xp : String → zI → Prop} {F9 : zI} {y f : Nat} {t : Nat → Nat} {er : Int32} {S : zS} {U : List zS} {g s9 p9 : Nat}
    (hC : zRf F9 I y t f er S U) (hg : g < zng S) (hs : s9 < 2) (hp : p9 < (sL S g s9).length) (kd : (p9 = 0 ∧ sG S g 3 = 1 ∧ sG S g 2 = nI (s9 + 1))) (kx : ∀ (J : zI) (v9 : Int32), zRf F9 J y t f er S U → J y 0 = 4 → Qp J (some (vi v9))) :
    zC l D b0 tA sa sv K yX8_leave (.code yX8_leave cX8_leave 4 (some .int)) zrm_X8_leave [vr (y) 8, vi ((nI g)), vi ((nI s9)), vi ((nI p9))] I Qp Xp := by
  have hC1 : zRf F9 (zput I y 0 0) y t f er S U := hC.put (by decide)
  have hW := hC.2.2.2.1
  have hg6 := hW.ng.1
  have hc12 := hW.nc.1
  have hf5 := hC.1.2.1
  have hl9 := hW.len g s9
  refine zC_of (by decide +kernel) (Nat.le_of_ble_eq_true rfl) ?_
  intro p e s m args below meth c X hnt
  have X : zX p l e zrm_X8_leave s m args below meth c RX8 cX8_leave 4 (some .int) D b0 tA sa sv := X
  refine zr_lv (lv2 := [some (vr (y) 8), some (vi ((nI g))), some (vi ((nI s9))), some (vi ((nI p9)))]) rfl ?_
  refine zr_aload0 X dX8_leave_0 ?_
  refine zr_iconst (v := (0 : Int32)) X dX8_leave_1 (by decide) ?_
  refine zr_putI X zf_X8_31 rfl (Or.inl rfl) dX8_leave_2 ?_
  refine zr_aload0 X dX8_leave_5 ?_
  refine zr_iload1 X dX8_leave_6 ?_
  refine zr_callV1 (rm9 := zrm_X8_noGate) X hnt zm_X8_242 (by decide) (by decide) (by decide) (Nat.le_of_ble_eq_true rfl) dX8_leave_7 ?_
  refine zo_X8_noGate hC1.2.2.1 hW (zput_eq) (by omega) ?_
  refine zr_if_ne (tgt := 54) X dX8_leave_10 (by decide) (fun h => absurd h (by decide)) (fun _ => ?_)
  refine zr_aload0 X dX8_leave_13 ?_
  refine zr_iload2 X dX8_leave_14 ?_
  refine zr_iconst (v := (2 : Int32)) X dX8_leave_15 (by decide) ?_
  refine zr_callV2 (rm9 := zrm_X8_noSide) X hnt zm_X8_254 (by decide) (by decide) (by decide) (Nat.le_of_ble_eq_true rfl) dX8_leave_16 ?_
  refine zo_X8_noSide (zput_eq) (by omega) ?_
  refine zr_if_ne (tgt := 54) X dX8_leave_19 (by decide) (fun h => absurd h (by decide)) (fun _ => ?_)
  refine zr_aload0 X dX8_leave_22 ?_
  refine zr_iload3 X dX8_leave_23 ?_
  refine zr_iconst (v := (0 : Int32)) X dX8_leave_24 (by decide) ?_
  refine zr_aload0 X dX8_leave_25 ?_
  refine zr_getR X zf_X8_17 rfl (by decide) (by decide) dX8_leave_26 ?_
  refine zr_iload1 X dX8_leave_29 ?_
  refine zr_iload2 X dX8_leave_30 ?_
  refine zr_callS3 (rm9 := zrm_X8_many) X hnt zm_X8_38 (by decide) (by decide) (by decide) (Nat.le_of_ble_eq_true rfl) dX8_leave_31 ?_
  refine zn_X8_many (g := g) (s9 := s9) hC1.2.2.1 (by omega) (by omega) ?_
  refine zr_iconst (v := (1 : Int32)) X dX8_leave_34 (by decide) ?_
  refine zr_isub X dX8_leave_35 ?_
  refine zr_callS3 (rm9 := zrm_X8_in) X hnt zm_X8_117 (by decide) (by decide) (by decide) (Nat.le_of_ble_eq_true rfl) dX8_leave_36 ?_
  refine zIo_X8_in (n := ((sL S g s9).length)) (by omega) (by omega) rfl ?_
  refine zr_if_ne (tgt := 46) X dX8_leave_39 (by decide) (fun _ => ?_) (fun h => absurd h (by decide))
  refine zr_iconst (v := (0 : Int32)) X dX8_leave_46 (by decide) ?_
  refine zr_iconst (v := (3 : Int32)) X dX8_leave_47 (by decide) ?_
  refine zr_callV2 (rm9 := zrm_X8_fails) X hnt zm_X8_220 (by decide) (by decide) (by decide) (Nat.le_of_ble_eq_true rfl) dX8_leave_48 ?_
  refine zf0_X8_fails (zput_eq) ?_
  refine zr_if_eq (tgt := 56) X dX8_leave_51 (by decide) (fun _ => ?_) (fun h => absurd h (by decide))
  refine zr_aload0 X dX8_leave_56 ?_
  refine zr_iload3 X dX8_leave_57 ?_
  refine zr_nif_ne X (p9) (tgt := 95) (by omega) dX8_leave_58 (by decide) (fun h1 => ?_) (fun h1 => ?_)
  · skip
    first | exact absurd kd.1 (by assumption) | exact absurd kd.2.1 (by assumption) | exact absurd kd.2.2 (by assumption) | (have := kd.1; omega)
  · skip
    refine zr_aload0 X dX8_leave_61 ?_
    refine zr_getR X zf_X8_17 rfl (by decide) (by decide) dX8_leave_62 ?_
    refine zr_iload1 X dX8_leave_65 ?_
    refine zr_iconst (v := (3 : Int32)) X dX8_leave_66 (by decide) ?_
    refine zr_callS2 (rm9 := zrm_X8_gateAt) X hnt zm_X8_34 (by decide) (by decide) (by decide) (Nat.le_of_ble_eq_true rfl) dX8_leave_67 ?_
    refine zn_X8_gateAt (g := g) (w := 3) ?_
    refine zr_ialdN (n := 16 + 29 * g + 3) X rfl (show _ < 310 from (by first | assumption | omega | decide)) dX8_leave_70 ?_
    refine zr_eq (x2 := (sG S g 3)) ((hC1.2.2.1.2.1 g (by omega)).1 3 (by first | decide | omega)) ?_
    refine zr_iconst (v := (1 : Int32)) X dX8_leave_71 (by decide) ?_
    refine zr_icmp_ne (tgt := 95) X dX8_leave_72 (by decide) (fun h2 => ?_) (fun h2 => ?_)
    · skip
      first | exact absurd kd.1 (by assumption) | exact absurd kd.2.1 (by assumption) | exact absurd kd.2.2 (by assumption) | (have := kd.1; omega)
    · skip
      refine zr_aload0 X dX8_leave_75 ?_
      refine zr_getR X zf_X8_17 rfl (by decide) (by decide) dX8_leave_76 ?_
      refine zr_iload1 X dX8_leave_79 ?_
      refine zr_iconst (v := (2 : Int32)) X dX8_leave_80 (by decide) ?_
      refine zr_callS2 (rm9 := zrm_X8_gateAt) X hnt zm_X8_34 (by decide) (by decide) (by decide) (Nat.le_of_ble_eq_true rfl) dX8_leave_81 ?_
      refine zn_X8_gateAt (g := g) (w := 2) ?_
      refine zr_ialdN (n := 16 + 29 * g + 2) X rfl (show _ < 310 from (by first | assumption | omega | decide)) dX8_leave_84 ?_
      refine zr_eq (x2 := (sG S g 2)) ((hC1.2.2.1.2.1 g (by omega)).1 2 (by first | decide | omega)) ?_
      refine zr_iload2 X dX8_leave_85 ?_
      refine zr_iconst (v := (1 : Int32)) X dX8_leave_86 (by decide) ?_
      refine zr_iadd X dX8_leave_87 ?_
      refine zr_eq (x2 := (nI (s9 + 1))) (nI_add (s9) (1)) ?_
      refine zr_icmp_ne (tgt := 95) X dX8_leave_88 (by decide) (fun h3 => ?_) (fun h3 => ?_)
      · skip
        first | exact absurd kd.1 (by assumption) | exact absurd kd.2.1 (by assumption) | exact absurd kd.2.2 (by assumption) | (have := kd.1; omega)
      · skip
        refine zr_iconst (v := (1 : Int32)) X dX8_leave_91 (by decide) ?_
        refine zr_goto (tgt := 96) X dX8_leave_92 (by decide) ?_
        refine zr_iconst (v := (4 : Int32)) X dX8_leave_96 (by decide) ?_
        refine zr_callV2 (rm9 := zrm_X8_fails) X hnt zm_X8_220 (by decide) (by decide) (by decide) (Nat.le_of_ble_eq_true rfl) dX8_leave_97 ?_
        refine zf1_X8_fails (zput_eq) (by decide) ?_
        refine zr_if_eq (tgt := 105) X dX8_leave_100 (by decide) (fun h => absurd h (by decide)) (fun _ => ?_)
        refine zr_iconst (v := (0 : Int32)) X dX8_leave_103 (by decide) ?_
        refine zr_iret X (by decide) (by decide) dX8_leave_104 ?_
        exact kx _ _ (hC1.put (by decide)) zput_eq
set_option maxRecDepth 20000 in
theorem zx3_X8_leave {l : Launch} {D : va_G} {b0 : Nat} {tA : Nat → ClassId} {sa sv : Nat → Nat} {K : Nat → Option Nat} {I : zI} {Qp : zI → Option AV → Prop} {Xp : String → zI → Prop} {F9 : zI} {y f : Nat} {t : Nat → Nat} {er : Int32} {S : zS} {U : List zS} {g s9 : Nat} {v3 : Int32}
    (hC : zRf F9 I y t f er S U) (hg : g < zng S) (hs : s9 < 2) (hb : vIdx v3 ((sL S g s9).length) = none) (kx : ∀ (J : zI) (v9 : Int32), zRf F9 J y t f er S U → J y 0 = 3 → Qp J (some (vi v9))) :
    zC l D b0 tA sa sv K yX8_leave (.code yX8_leave cX8_leave 4 (some .int)) zrm_X8_leave [vr (y) 8, vi ((nI g)), vi ((nI s9)), vi (v3)] I Qp Xp := by
  have hC1 : zRf F9 (zput I y 0 0) y t f er S U := hC.put (by decide)
  have hW := hC.2.2.2.1
  have hg6 := hW.ng.1
  have hc12 := hW.nc.1
  have hf5 := hC.1.2.1
  have hl9 := hW.len g s9
  refine zC_of (by decide +kernel) (Nat.le_of_ble_eq_true rfl) ?_
  intro p e s m args below meth c X hnt
  have X : zX p l e zrm_X8_leave s m args below meth c RX8 cX8_leave 4 (some .int) D b0 tA sa sv := X
  refine zr_lv (lv2 := [some (vr (y) 8), some (vi ((nI g))), some (vi ((nI s9))), some (vi (v3))]) rfl ?_
  refine zr_aload0 X dX8_leave_0 ?_
  refine zr_iconst (v := (0 : Int32)) X dX8_leave_1 (by decide) ?_
  refine zr_putI X zf_X8_31 rfl (Or.inl rfl) dX8_leave_2 ?_
  refine zr_aload0 X dX8_leave_5 ?_
  refine zr_iload1 X dX8_leave_6 ?_
  refine zr_callV1 (rm9 := zrm_X8_noGate) X hnt zm_X8_242 (by decide) (by decide) (by decide) (Nat.le_of_ble_eq_true rfl) dX8_leave_7 ?_
  refine zo_X8_noGate hC1.2.2.1 hW (zput_eq) (by omega) ?_
  refine zr_if_ne (tgt := 54) X dX8_leave_10 (by decide) (fun h => absurd h (by decide)) (fun _ => ?_)
  refine zr_aload0 X dX8_leave_13 ?_
  refine zr_iload2 X dX8_leave_14 ?_
  refine zr_iconst (v := (2 : Int32)) X dX8_leave_15 (by decide) ?_
  refine zr_callV2 (rm9 := zrm_X8_noSide) X hnt zm_X8_254 (by decide) (by decide) (by decide) (Nat.le_of_ble_eq_true rfl) dX8_leave_16 ?_
  refine zo_X8_noSide (zput_eq) (by omega) ?_
  refine zr_if_ne (tgt := 54) X dX8_leave_19 (by decide) (fun h => absurd h (by decide)) (fun _ => ?_)
  refine zr_aload0 X dX8_leave_22 ?_
  refine zr_iload3 X dX8_leave_23 ?_
  refine zr_iconst (v := (0 : Int32)) X dX8_leave_24 (by decide) ?_
  refine zr_aload0 X dX8_leave_25 ?_
  refine zr_getR X zf_X8_17 rfl (by decide) (by decide) dX8_leave_26 ?_
  refine zr_iload1 X dX8_leave_29 ?_
  refine zr_iload2 X dX8_leave_30 ?_
  refine zr_callS3 (rm9 := zrm_X8_many) X hnt zm_X8_38 (by decide) (by decide) (by decide) (Nat.le_of_ble_eq_true rfl) dX8_leave_31 ?_
  refine zn_X8_many (g := g) (s9 := s9) hC1.2.2.1 (by omega) (by omega) ?_
  refine zr_iconst (v := (1 : Int32)) X dX8_leave_34 (by decide) ?_
  refine zr_isub X dX8_leave_35 ?_
  refine zr_callS3 (rm9 := zrm_X8_in) X hnt zm_X8_117 (by decide) (by decide) (by decide) (Nat.le_of_ble_eq_true rfl) dX8_leave_36 ?_
  refine zIx_X8_in (n := ((sL S g s9).length)) (by assumption) (by omega) rfl ?_
  refine zr_if_ne (tgt := 46) X dX8_leave_39 (by decide) (fun h => absurd h (by decide)) (fun _ => ?_)
  refine zr_iconst (v := (1 : Int32)) X dX8_leave_42 (by decide) ?_
  refine zr_goto (tgt := 47) X dX8_leave_43 (by decide) ?_
  refine zr_iconst (v := (3 : Int32)) X dX8_leave_47 (by decide) ?_
  refine zr_callV2 (rm9 := zrm_X8_fails) X hnt zm_X8_220 (by decide) (by decide) (by decide) (Nat.le_of_ble_eq_true rfl) dX8_leave_48 ?_
  refine zf1_X8_fails (zput_eq) (by decide) ?_
  refine zr_if_eq (tgt := 56) X dX8_leave_51 (by decide) (fun h => absurd h (by decide)) (fun _ => ?_)
  refine zr_iconst (v := (0 : Int32)) X dX8_leave_54 (by decide) ?_
  refine zr_iret X (by decide) (by decide) dX8_leave_55 ?_
  exact kx _ _ (hC1.put (by decide)) zput_eq
set_option maxRecDepth 20000 in
theorem zx2_X8_leave {l : Launch} {D : va_G} {b0 : Nat} {tA : Nat → ClassId} {sa sv : Nat → Nat} {K : Nat → Option Nat} {I : zI} {Qp : zI → Option AV → Prop} {Xp : String → zI → Prop} {F9 : zI} {y f : Nat} {t : Nat → Nat} {er : Int32} {S : zS} {U : List zS} {g : Nat} {v v3 : Int32}
    (hC : zRf F9 I y t f er S U) (hg : g < zng S) (hb : vIdx v (2) = none) (kx : ∀ (J : zI) (v9 : Int32), zRf F9 J y t f er S U → J y 0 = 2 → Qp J (some (vi v9))) :
    zC l D b0 tA sa sv K yX8_leave (.code yX8_leave cX8_leave 4 (some .int)) zrm_X8_leave [vr (y) 8, vi ((nI g)), vi (v), vi (v3)] I Qp Xp := by
  have hC1 : zRf F9 (zput I y 0 0) y t f er S U := hC.put (by decide)
  have hW := hC.2.2.2.1
  have hg6 := hW.ng.1
  have hc12 := hW.nc.1
  have hf5 := hC.1.2.1
  refine zC_of (by decide +kernel) (Nat.le_of_ble_eq_true rfl) ?_
  intro p e s m args below meth c X hnt
  have X : zX p l e zrm_X8_leave s m args below meth c RX8 cX8_leave 4 (some .int) D b0 tA sa sv := X
  refine zr_lv (lv2 := [some (vr (y) 8), some (vi ((nI g))), some (vi (v)), some (vi (v3))]) rfl ?_
  refine zr_aload0 X dX8_leave_0 ?_
  refine zr_iconst (v := (0 : Int32)) X dX8_leave_1 (by decide) ?_
  refine zr_putI X zf_X8_31 rfl (Or.inl rfl) dX8_leave_2 ?_
  refine zr_aload0 X dX8_leave_5 ?_
  refine zr_iload1 X dX8_leave_6 ?_
  refine zr_callV1 (rm9 := zrm_X8_noGate) X hnt zm_X8_242 (by decide) (by decide) (by decide) (Nat.le_of_ble_eq_true rfl) dX8_leave_7 ?_
  refine zo_X8_noGate hC1.2.2.1 hW (zput_eq) (by omega) ?_
  refine zr_if_ne (tgt := 54) X dX8_leave_10 (by decide) (fun h => absurd h (by decide)) (fun _ => ?_)
  refine zr_aload0 X dX8_leave_13 ?_
  refine zr_iload2 X dX8_leave_14 ?_
  refine zr_iconst (v := (2 : Int32)) X dX8_leave_15 (by decide) ?_
  refine zr_callV2 (rm9 := zrm_X8_noSide) X hnt zm_X8_254 (by decide) (by decide) (by decide) (Nat.le_of_ble_eq_true rfl) dX8_leave_16 ?_
  refine zx_X8_noSide (zput_eq) (by assumption) (by decide) ?_
  refine zr_if_ne (tgt := 54) X dX8_leave_19 (by decide) (fun _ => ?_) (fun h => absurd h (by decide))
  refine zr_iconst (v := (0 : Int32)) X dX8_leave_54 (by decide) ?_
  refine zr_iret X (by decide) (by decide) dX8_leave_55 ?_
  exact kx _ _ (hC1.put (by decide)) zput_eq
set_option maxRecDepth 20000 in
theorem zx1_X8_leave {l : Launch} {D : va_G} {b0 : Nat} {tA : Nat → ClassId} {sa sv : Nat → Nat} {K : Nat → Option Nat} {I : zI} {Qp : zI → Option AV → Prop} {Xp : String → zI → Prop} {F9 : zI} {y f : Nat} {t : Nat → Nat} {er : Int32} {S : zS} {U : List zS} {u v v3 : Int32}
    (hC : zRf F9 I y t f er S U) (hb : vIdx u (zng S) = none) (kx : ∀ (J : zI) (v9 : Int32), zRf F9 J y t f er S U → J y 0 = 1 → Qp J (some (vi v9))) :
    zC l D b0 tA sa sv K yX8_leave (.code yX8_leave cX8_leave 4 (some .int)) zrm_X8_leave [vr (y) 8, vi (u), vi (v), vi (v3)] I Qp Xp := by
  have hC1 : zRf F9 (zput I y 0 0) y t f er S U := hC.put (by decide)
  have hW := hC.2.2.2.1
  have hg6 := hW.ng.1
  have hc12 := hW.nc.1
  have hf5 := hC.1.2.1
  refine zC_of (by decide +kernel) (Nat.le_of_ble_eq_true rfl) ?_
  intro p e s m args below meth c X hnt
  have X : zX p l e zrm_X8_leave s m args below meth c RX8 cX8_leave 4 (some .int) D b0 tA sa sv := X
  refine zr_lv (lv2 := [some (vr (y) 8), some (vi (u)), some (vi (v)), some (vi (v3))]) rfl ?_
  refine zr_aload0 X dX8_leave_0 ?_
  refine zr_iconst (v := (0 : Int32)) X dX8_leave_1 (by decide) ?_
  refine zr_putI X zf_X8_31 rfl (Or.inl rfl) dX8_leave_2 ?_
  refine zr_aload0 X dX8_leave_5 ?_
  refine zr_iload1 X dX8_leave_6 ?_
  refine zr_callV1 (rm9 := zrm_X8_noGate) X hnt zm_X8_242 (by decide) (by decide) (by decide) (Nat.le_of_ble_eq_true rfl) dX8_leave_7 ?_
  refine zx_X8_noGate hC1.2.2.1 hW (zput_eq) (by assumption) ?_
  refine zr_if_ne (tgt := 54) X dX8_leave_10 (by decide) (fun _ => ?_) (fun h => absurd h (by decide))
  refine zr_iconst (v := (0 : Int32)) X dX8_leave_54 (by decide) ?_
  refine zr_iret X (by decide) (by decide) dX8_leave_55 ?_
  exact kx _ _ (hC1.put (by decide)) zput_eq
theorem zq_X8_leave {l : Launch} {D : va_G} {b0 : Nat} {tA : Nat → ClassId} {sa sv : Nat → Nat} {K : Nat → Option Nat} {I : zI} {Qp : zI → Option AV → Prop} {Xp : String → zI → Prop} {F9 : zI} {y f : Nat} {t : Nat → Nat} {er : Int32} {S : zS} {U : List zS} {u v v3 : Int32}
    (hC : zRf F9 I y t f er S U) (k0 : (rLeave S u v v3).1 = 0 → ∀ J : zI, zRf F9 J y t f er (sLeave S u v v3) (qPush S U) → J y 0 = 0 → Qp J (some (vi (rLeave S u v v3).2))) (kx1 : (rLeave S u v v3).1 = 1 → ∀ (J : zI) (v9 : Int32), zRf F9 J y t f er S U → J y 0 = 1 → Qp J (some (vi v9))) (kx2 : (rLeave S u v v3).1 = 2 → ∀ (J : zI) (v9 : Int32), zRf F9 J y t f er S U → J y 0 = 2 → Qp J (some (vi v9))) (kx3 : (rLeave S u v v3).1 = 3 → ∀ (J : zI) (v9 : Int32), zRf F9 J y t f er S U → J y 0 = 3 → Qp J (some (vi v9))) (kx4 : (rLeave S u v v3).1 = 4 → ∀ (J : zI) (v9 : Int32), zRf F9 J y t f er S U → J y 0 = 4 → Qp J (some (vi v9))) :
    zC l D b0 tA sa sv K yX8_leave (.code yX8_leave cX8_leave 4 (some .int)) zrm_X8_leave [vr (y) 8, vi (u), vi (v), vi (v3)] I Qp Xp := by
  unfold rLeave at k0 kx1 kx2 kx3 kx4
  unfold sLeave at k0
  cases e1 : vIdx u (zng S) with
  | none => rw [e1] at kx1; exact zx1_X8_leave hC e1 (kx1 rfl)
  | some g =>
    rw [e1] at k0 kx2 kx3 kx4
    obtain ⟨h1, rfl⟩ := vIdx_some e1
    cases e2 : vIdx v 2 with
    | none => simp only [e2] at kx2; exact zx2_X8_leave hC h1 e2 (kx2 (by first | rfl | trivial))
    | some w =>
      simp only [e2] at k0 kx3 kx4
      obtain ⟨h2, rfl⟩ := vIdx_some e2
      cases e3 : vIdx v3 (sL S g w).length with
      | none => simp only [e3] at kx3; exact zx3_X8_leave hC h1 h2 e3 (kx3 (by first | rfl | trivial))
      | some p =>
        simp only [e3] at k0 kx4
        obtain ⟨h3, rfl⟩ := vIdx_some e3
        by_cases h4 : p = 0 ∧ sG S g 3 = 1 ∧ sG S g 2 = nI (w + 1)
        · rw [if_pos h4] at kx4; exact zx4_X8_leave hC h1 h2 h3 h4 (kx4 rfl)
        · rw [if_neg h4] at k0; exact zo_X8_leave hC h1 h2 h3 h4 (k0 rfl)
abbrev zrm_X8_charge : Room := { frames := 2, cells := 0, slots := 0, locals := 43 }
set_option maxRecDepth 20000 in
theorem zo_X8_charge {l : Launch} {D : va_G} {b0 : Nat} {tA : Nat → ClassId} {sa sv : Nat → Nat} {K : Nat → Option Nat} {I : zI} {Qp : zI → Option AV → Prop} {Xp : String → zI → Prop} {F9 : zI} {y f : Nat} {t : Nat → Nat} {er : Int32} {S : zS} {U : List zS} {c9 k9 : Nat}
    (hC : zRf F9 I y t f er S U) (hc : c9 < znc S) (h1 : 1 ≤ k9) (h2 : k9 ≤ 99) (kd : ¬ (99 : Int32) < sC S c9 0 + nI k9) (k1 : ∀ J : zI, zRf F9 J y t f er (tC S c9 0 (sC S c9 0 + nI k9)) (qPush S U) → J y 0 = 0 → Qp J (some (vi (sC S c9 0 + nI k9)))) :
    zC l D b0 tA sa sv K yX8_charge (.code yX8_charge cX8_charge 3 (some .int)) zrm_X8_charge [vr (y) 8, vi ((nI c9)), vi ((nI k9))] I Qp Xp := by
  have hC1 : zRf F9 (zput I y 0 0) y t f er S U := hC.put (by decide)
  have hW := hC.2.2.2.1
  have hg6 := hW.ng.1
  have hc12 := hW.nc.1
  have hf5 := hC.1.2.1
  refine zC_of (by decide +kernel) (Nat.le_of_ble_eq_true rfl) ?_
  intro p e s m args below meth c X hnt
  have X : zX p l e zrm_X8_charge s m args below meth c RX8 cX8_charge 3 (some .int) D b0 tA sa sv := X
  refine zr_lv (lv2 := [some (vr (y) 8), some (vi ((nI c9))), some (vi ((nI k9)))]) rfl ?_
  refine zr_aload0 X dX8_charge_0 ?_
  refine zr_iconst (v := (0 : Int32)) X dX8_charge_1 (by decide) ?_
  refine zr_putI X zf_X8_31 rfl (Or.inl rfl) dX8_charge_2 ?_
  refine zr_aload0 X dX8_charge_5 ?_
  refine zr_iload1 X dX8_charge_6 ?_
  refine zr_callV1 (rm9 := zrm_X8_noCard) X hnt zm_X8_248 (by decide) (by decide) (by decide) (Nat.le_of_ble_eq_true rfl) dX8_charge_7 ?_
  refine zo_X8_noCard hC1.2.2.1 hW (zput_eq) (by omega) ?_
  refine zr_if_ne (tgt := 66) X dX8_charge_10 (by decide) (fun h => absurd h (by decide)) (fun _ => ?_)
  refine zr_aload0 X dX8_charge_13 ?_
  refine zr_iload2 X dX8_charge_14 ?_
  refine zr_iconst (v := (1 : Int32)) X dX8_charge_15 (by decide) ?_
  refine zr_bipush (v := (99 : Int32)) X dX8_charge_16 (by decide) ?_
  refine zr_callS3 (rm9 := zrm_X8_in) X hnt zm_X8_117 (by decide) (by decide) (by decide) (Nat.le_of_ble_eq_true rfl) dX8_charge_18 ?_
  refine zq_X8_in (fun _ => ?_) (fun h => absurd ⟨(nI_leI (a := 1) (by decide) (by omega)).mpr (by omega), (nI_leI (b := 99) (by omega) (by decide)).mpr (by omega)⟩ h)
  refine zr_if_ne (tgt := 28) X dX8_charge_21 (by decide) (fun _ => ?_) (fun h => absurd h (by decide))
  refine zr_iconst (v := (0 : Int32)) X dX8_charge_28 (by decide) ?_
  refine zr_iconst (v := (2 : Int32)) X dX8_charge_29 (by decide) ?_
  refine zr_callV2 (rm9 := zrm_X8_fails) X hnt zm_X8_220 (by decide) (by decide) (by decide) (Nat.le_of_ble_eq_true rfl) dX8_charge_30 ?_
  refine zf0_X8_fails (zput_eq) ?_
  refine zr_if_ne (tgt := 66) X dX8_charge_33 (by decide) (fun h => absurd h (by decide)) (fun _ => ?_)
  refine zr_aload0 X dX8_charge_36 ?_
  refine zr_aload0 X dX8_charge_37 ?_
  refine zr_getR X zf_X8_17 rfl (by decide) (by decide) dX8_charge_38 ?_
  refine zr_iload1 X dX8_charge_41 ?_
  refine zr_iconst (v := (0 : Int32)) X dX8_charge_42 (by decide) ?_
  refine zr_callS2 (rm9 := zrm_X8_cardAt) X hnt zm_X8_61 (by decide) (by decide) (by decide) (Nat.le_of_ble_eq_true rfl) dX8_charge_43 ?_
  refine zn_X8_cardAt (g := c9) (w := 0) ?_
  refine zr_ialdN (n := 190 + 10 * c9 + 0) X rfl (show _ < 310 from (by first | assumption | omega | decide)) dX8_charge_46 ?_
  refine zr_eq (x2 := (sC S c9 0)) ((hC1.2.2.1.2.2 c9 (by omega)).1 0 (by decide)) ?_
  refine zr_iload2 X dX8_charge_47 ?_
  refine zr_iadd X dX8_charge_48 ?_
  refine zr_bipush (v := (99 : Int32)) X dX8_charge_49 (by decide) ?_
  refine zr_icmp_le (tgt := 58) X dX8_charge_51 (by decide) (fun h1 => ?_) (fun h1 => ?_)
  · skip
    refine zr_iconst (v := (0 : Int32)) X dX8_charge_58 (by decide) ?_
    refine zr_iconst (v := (3 : Int32)) X dX8_charge_59 (by decide) ?_
    refine zr_callV2 (rm9 := zrm_X8_fails) X hnt zm_X8_220 (by decide) (by decide) (by decide) (Nat.le_of_ble_eq_true rfl) dX8_charge_60 ?_
    refine zf0_X8_fails (zput_eq) ?_
    refine zr_if_eq (tgt := 68) X dX8_charge_63 (by decide) (fun _ => ?_) (fun h => absurd h (by decide))
    refine zr_aload0 X dX8_charge_68 ?_
    refine zr_callV0 (rm9 := zrm_X8_remember) X hnt zm_X8_229 (by decide) (by decide) (by decide) (Nat.le_of_ble_eq_true rfl) dX8_charge_69 ?_
    refine zp_X8_remember hC1 ?_
    intro J60 hr61 h062 e363
    refine zr_aload0 X dX8_charge_72 ?_
    refine zr_getR X zf_X8_17 rfl (by decide) (by decide) dX8_charge_73 ?_
    refine zr_iload1 X dX8_charge_76 ?_
    refine zr_iconst (v := (0 : Int32)) X dX8_charge_77 (by decide) ?_
    refine zr_callS2 (rm9 := zrm_X8_cardAt) X hnt zm_X8_61 (by decide) (by decide) (by decide) (Nat.le_of_ble_eq_true rfl) dX8_charge_78 ?_
    refine zn_X8_cardAt (g := c9) (w := 0) ?_
    refine zr_dup2 X dX8_charge_81 ?_
    refine zr_ialdN (n := 190 + 10 * c9 + 0) X rfl (show _ < 310 from (by first | assumption | omega | decide)) dX8_charge_82 ?_
    refine zr_eq (x2 := (sC S c9 0)) ((hr61.2.2.1.2.2 c9 (by omega)).1 0 (by decide)) ?_
    refine zr_iload2 X dX8_charge_83 ?_
    refine zr_iadd X dX8_charge_84 ?_
    refine zr_iastN X rfl (show _ < 310 from (by first | assumption | omega)) dX8_charge_85 ?_
    have hM_1 : zMd _ (y + 2) (tC S c9 0 ((sC S c9 0) + (nI k9))) := zMd_C hr61.2.2.1 (c := c9) (j := 0) (v := ((sC S c9 0) + (nI k9))) (by omega) (by decide)
    refine zr_aload0 X dX8_charge_86 ?_
    refine zr_getR X zf_X8_17 rfl (by decide) (by decide) dX8_charge_87 ?_
    refine zr_iload1 X dX8_charge_90 ?_
    refine zr_iconst (v := (0 : Int32)) X dX8_charge_91 (by decide) ?_
    refine zr_callS2 (rm9 := zrm_X8_cardAt) X hnt zm_X8_61 (by decide) (by decide) (by decide) (Nat.le_of_ble_eq_true rfl) dX8_charge_92 ?_
    refine zn_X8_cardAt (g := c9) (w := 0) ?_
    refine zr_ialdN (n := 190 + 10 * c9 + 0) X rfl (show _ < 310 from (by first | assumption | omega | decide)) dX8_charge_95 ?_
    refine zr_eq (x2 := (sC (tC S c9 0 ((sC S c9 0) + (nI k9))) c9 0)) ((hM_1.2.2 c9 (by omega)).1 0 (by decide)) ?_
    refine zr_iret X (by decide) (by decide) dX8_charge_96 ?_
    have hag : zag J60 (zput J60 (y + 2) (190 + 10 * c9 + 0) (((sC S c9 0) + (nI k9)))) (y + 2) 1 := by repeat (first | exact zag.rf | assumption | refine zag.put ?_ (by omega) (by omega) | refine zag.tr ?_ (by assumption) (by omega) (by omega))
    first | exact k1 _ (hr61.now hag hM_1 (zWf_charge hW hc)) ((congrFun (hag y (by omega)) 0).trans (h062.trans zput_eq)) | (rw [tC_C, if_pos ⟨rfl, rfl⟩]; exact k1 _ (hr61.now hag hM_1 (zWf_charge hW hc)) ((congrFun (hag y (by omega)) 0).trans (h062.trans zput_eq)))
  · skip
    refine zr_iconst (v := (1 : Int32)) X dX8_charge_54 (by decide) ?_
    refine zr_goto (tgt := 59) X dX8_charge_55 (by decide) ?_
    refine zr_iconst (v := (3 : Int32)) X dX8_charge_59 (by decide) ?_
    refine zr_callV2 (rm9 := zrm_X8_fails) X hnt zm_X8_220 (by decide) (by decide) (by decide) (Nat.le_of_ble_eq_true rfl) dX8_charge_60 ?_
    refine zf1_X8_fails (zput_eq) (by decide) ?_
    refine zr_if_eq (tgt := 68) X dX8_charge_63 (by decide) (fun h => absurd h (by decide)) (fun _ => ?_)
    refine zr_iconst (v := (0 : Int32)) X dX8_charge_66 (by decide) ?_
    refine zr_iret X (by decide) (by decide) dX8_charge_67 ?_
    exact absurd (Int32.not_le.mp (by assumption)) kd
set_option maxRecDepth 20000 in
theorem zx3_X8_charge {l : Launch} {D : va_G} {b0 : Nat} {tA : Nat → ClassId} {sa sv : Nat → Nat} {K : Nat → Option Nat} {I : zI} {Qp : zI → Option AV → Prop} {Xp : String → zI → Prop} {F9 : zI} {y f : Nat} {t : Nat → Nat} {er : Int32} {S : zS} {U : List zS} {c9 k9 : Nat}
    (hC : zRf F9 I y t f er S U) (hc : c9 < znc S) (h1 : 1 ≤ k9) (h2 : k9 ≤ 99) (kd : (99 : Int32) < sC S c9 0 + nI k9) (kx : ∀ (J : zI) (v9 : Int32), zRf F9 J y t f er S U → J y 0 = 3 → Qp J (some (vi v9))) :
    zC l D b0 tA sa sv K yX8_charge (.code yX8_charge cX8_charge 3 (some .int)) zrm_X8_charge [vr (y) 8, vi ((nI c9)), vi ((nI k9))] I Qp Xp := by
  have hC1 : zRf F9 (zput I y 0 0) y t f er S U := hC.put (by decide)
  have hW := hC.2.2.2.1
  have hg6 := hW.ng.1
  have hc12 := hW.nc.1
  have hf5 := hC.1.2.1
  refine zC_of (by decide +kernel) (Nat.le_of_ble_eq_true rfl) ?_
  intro p e s m args below meth c X hnt
  have X : zX p l e zrm_X8_charge s m args below meth c RX8 cX8_charge 3 (some .int) D b0 tA sa sv := X
  refine zr_lv (lv2 := [some (vr (y) 8), some (vi ((nI c9))), some (vi ((nI k9)))]) rfl ?_
  refine zr_aload0 X dX8_charge_0 ?_
  refine zr_iconst (v := (0 : Int32)) X dX8_charge_1 (by decide) ?_
  refine zr_putI X zf_X8_31 rfl (Or.inl rfl) dX8_charge_2 ?_
  refine zr_aload0 X dX8_charge_5 ?_
  refine zr_iload1 X dX8_charge_6 ?_
  refine zr_callV1 (rm9 := zrm_X8_noCard) X hnt zm_X8_248 (by decide) (by decide) (by decide) (Nat.le_of_ble_eq_true rfl) dX8_charge_7 ?_
  refine zo_X8_noCard hC1.2.2.1 hW (zput_eq) (by omega) ?_
  refine zr_if_ne (tgt := 66) X dX8_charge_10 (by decide) (fun h => absurd h (by decide)) (fun _ => ?_)
  refine zr_aload0 X dX8_charge_13 ?_
  refine zr_iload2 X dX8_charge_14 ?_
  refine zr_iconst (v := (1 : Int32)) X dX8_charge_15 (by decide) ?_
  refine zr_bipush (v := (99 : Int32)) X dX8_charge_16 (by decide) ?_
  refine zr_callS3 (rm9 := zrm_X8_in) X hnt zm_X8_117 (by decide) (by decide) (by decide) (Nat.le_of_ble_eq_true rfl) dX8_charge_18 ?_
  refine zq_X8_in (fun _ => ?_) (fun h => absurd ⟨(nI_leI (a := 1) (by decide) (by omega)).mpr (by omega), (nI_leI (b := 99) (by omega) (by decide)).mpr (by omega)⟩ h)
  refine zr_if_ne (tgt := 28) X dX8_charge_21 (by decide) (fun _ => ?_) (fun h => absurd h (by decide))
  refine zr_iconst (v := (0 : Int32)) X dX8_charge_28 (by decide) ?_
  refine zr_iconst (v := (2 : Int32)) X dX8_charge_29 (by decide) ?_
  refine zr_callV2 (rm9 := zrm_X8_fails) X hnt zm_X8_220 (by decide) (by decide) (by decide) (Nat.le_of_ble_eq_true rfl) dX8_charge_30 ?_
  refine zf0_X8_fails (zput_eq) ?_
  refine zr_if_ne (tgt := 66) X dX8_charge_33 (by decide) (fun h => absurd h (by decide)) (fun _ => ?_)
  refine zr_aload0 X dX8_charge_36 ?_
  refine zr_aload0 X dX8_charge_37 ?_
  refine zr_getR X zf_X8_17 rfl (by decide) (by decide) dX8_charge_38 ?_
  refine zr_iload1 X dX8_charge_41 ?_
  refine zr_iconst (v := (0 : Int32)) X dX8_charge_42 (by decide) ?_
  refine zr_callS2 (rm9 := zrm_X8_cardAt) X hnt zm_X8_61 (by decide) (by decide) (by decide) (Nat.le_of_ble_eq_true rfl) dX8_charge_43 ?_
  refine zn_X8_cardAt (g := c9) (w := 0) ?_
  refine zr_ialdN (n := 190 + 10 * c9 + 0) X rfl (show _ < 310 from (by first | assumption | omega | decide)) dX8_charge_46 ?_
  refine zr_eq (x2 := (sC S c9 0)) ((hC1.2.2.1.2.2 c9 (by omega)).1 0 (by decide)) ?_
  refine zr_iload2 X dX8_charge_47 ?_
  refine zr_iadd X dX8_charge_48 ?_
  refine zr_bipush (v := (99 : Int32)) X dX8_charge_49 (by decide) ?_
  refine zr_icmp_le (tgt := 58) X dX8_charge_51 (by decide) (fun h1 => ?_) (fun h1 => ?_)
  · skip
    refine zr_iconst (v := (0 : Int32)) X dX8_charge_58 (by decide) ?_
    refine zr_iconst (v := (3 : Int32)) X dX8_charge_59 (by decide) ?_
    refine zr_callV2 (rm9 := zrm_X8_fails) X hnt zm_X8_220 (by decide) (by decide) (by decide) (Nat.le_of_ble_eq_true rfl) dX8_charge_60 ?_
    refine zf0_X8_fails (zput_eq) ?_
    refine zr_if_eq (tgt := 68) X dX8_charge_63 (by decide) (fun _ => ?_) (fun h => absurd h (by decide))
    refine zr_aload0 X dX8_charge_68 ?_
    refine zr_callV0 (rm9 := zrm_X8_remember) X hnt zm_X8_229 (by decide) (by decide) (by decide) (Nat.le_of_ble_eq_true rfl) dX8_charge_69 ?_
    refine zp_X8_remember hC1 ?_
    intro J64 hr65 h066 e367
    refine zr_aload0 X dX8_charge_72 ?_
    refine zr_getR X zf_X8_17 rfl (by decide) (by decide) dX8_charge_73 ?_
    refine zr_iload1 X dX8_charge_76 ?_
    refine zr_iconst (v := (0 : Int32)) X dX8_charge_77 (by decide) ?_
    refine zr_callS2 (rm9 := zrm_X8_cardAt) X hnt zm_X8_61 (by decide) (by decide) (by decide) (Nat.le_of_ble_eq_true rfl) dX8_charge_78 ?_
    refine zn_X8_cardAt (g := c9) (w := 0) ?_
    refine zr_dup2 X dX8_charge_81 ?_
    refine zr_ialdN (n := 190 + 10 * c9 + 0) X rfl (show _ < 310 from (by first | assumption | omega | decide)) dX8_charge_82 ?_
    refine zr_eq (x2 := (sC S c9 0)) ((hr65.2.2.1.2.2 c9 (by omega)).1 0 (by decide)) ?_
    refine zr_iload2 X dX8_charge_83 ?_
    refine zr_iadd X dX8_charge_84 ?_
    refine zr_iastN X rfl (show _ < 310 from (by first | assumption | omega)) dX8_charge_85 ?_
    have hM_1 : zMd _ (y + 2) (tC S c9 0 ((sC S c9 0) + (nI k9))) := zMd_C hr65.2.2.1 (c := c9) (j := 0) (v := ((sC S c9 0) + (nI k9))) (by omega) (by decide)
    refine zr_aload0 X dX8_charge_86 ?_
    refine zr_getR X zf_X8_17 rfl (by decide) (by decide) dX8_charge_87 ?_
    refine zr_iload1 X dX8_charge_90 ?_
    refine zr_iconst (v := (0 : Int32)) X dX8_charge_91 (by decide) ?_
    refine zr_callS2 (rm9 := zrm_X8_cardAt) X hnt zm_X8_61 (by decide) (by decide) (by decide) (Nat.le_of_ble_eq_true rfl) dX8_charge_92 ?_
    refine zn_X8_cardAt (g := c9) (w := 0) ?_
    refine zr_ialdN (n := 190 + 10 * c9 + 0) X rfl (show _ < 310 from (by first | assumption | omega | decide)) dX8_charge_95 ?_
    refine zr_eq (x2 := (sC (tC S c9 0 ((sC S c9 0) + (nI k9))) c9 0)) ((hM_1.2.2 c9 (by omega)).1 0 (by decide)) ?_
    refine zr_iret X (by decide) (by decide) dX8_charge_96 ?_
    exact absurd kd (Int32.not_lt.mpr (by assumption))
  · skip
    refine zr_iconst (v := (1 : Int32)) X dX8_charge_54 (by decide) ?_
    refine zr_goto (tgt := 59) X dX8_charge_55 (by decide) ?_
    refine zr_iconst (v := (3 : Int32)) X dX8_charge_59 (by decide) ?_
    refine zr_callV2 (rm9 := zrm_X8_fails) X hnt zm_X8_220 (by decide) (by decide) (by decide) (Nat.le_of_ble_eq_true rfl) dX8_charge_60 ?_
    refine zf1_X8_fails (zput_eq) (by decide) ?_
    refine zr_if_eq (tgt := 68) X dX8_charge_63 (by decide) (fun h => absurd h (by decide)) (fun _ => ?_)
    refine zr_iconst (v := (0 : Int32)) X dX8_charge_66 (by decide) ?_
    refine zr_iret X (by decide) (by decide) dX8_charge_67 ?_
    exact kx _ _ (hC1.put (by decide)) zput_eq
set_option maxRecDepth 20000 in
theorem zx2_X8_charge {l : Launch} {D : va_G} {b0 : Nat} {tA : Nat → ClassId} {sa sv : Nat → Nat} {K : Nat → Option Nat} {I : zI} {Qp : zI → Option AV → Prop} {Xp : String → zI → Prop} {F9 : zI} {y f : Nat} {t : Nat → Nat} {er : Int32} {S : zS} {U : List zS} {c9 : Nat} {v : Int32}
    (hC : zRf F9 I y t f er S U) (hc : c9 < znc S) (hb : vIdx v 100 = none ∨ v = 0) (kx : ∀ (J : zI) (v9 : Int32), zRf F9 J y t f er S U → J y 0 = 2 → Qp J (some (vi v9))) :
    zC l D b0 tA sa sv K yX8_charge (.code yX8_charge cX8_charge 3 (some .int)) zrm_X8_charge [vr (y) 8, vi ((nI c9)), vi (v)] I Qp Xp := by
  have hC1 : zRf F9 (zput I y 0 0) y t f er S U := hC.put (by decide)
  have hW := hC.2.2.2.1
  have hg6 := hW.ng.1
  have hc12 := hW.nc.1
  have hf5 := hC.1.2.1
  refine zC_of (by decide +kernel) (Nat.le_of_ble_eq_true rfl) ?_
  intro p e s m args below meth c X hnt
  have X : zX p l e zrm_X8_charge s m args below meth c RX8 cX8_charge 3 (some .int) D b0 tA sa sv := X
  refine zr_lv (lv2 := [some (vr (y) 8), some (vi ((nI c9))), some (vi (v))]) rfl ?_
  refine zr_aload0 X dX8_charge_0 ?_
  refine zr_iconst (v := (0 : Int32)) X dX8_charge_1 (by decide) ?_
  refine zr_putI X zf_X8_31 rfl (Or.inl rfl) dX8_charge_2 ?_
  refine zr_aload0 X dX8_charge_5 ?_
  refine zr_iload1 X dX8_charge_6 ?_
  refine zr_callV1 (rm9 := zrm_X8_noCard) X hnt zm_X8_248 (by decide) (by decide) (by decide) (Nat.le_of_ble_eq_true rfl) dX8_charge_7 ?_
  refine zo_X8_noCard hC1.2.2.1 hW (zput_eq) (by omega) ?_
  refine zr_if_ne (tgt := 66) X dX8_charge_10 (by decide) (fun h => absurd h (by decide)) (fun _ => ?_)
  refine zr_aload0 X dX8_charge_13 ?_
  refine zr_iload2 X dX8_charge_14 ?_
  refine zr_iconst (v := (1 : Int32)) X dX8_charge_15 (by decide) ?_
  refine zr_bipush (v := (99 : Int32)) X dX8_charge_16 (by decide) ?_
  refine zr_callS3 (rm9 := zrm_X8_in) X hnt zm_X8_117 (by decide) (by decide) (by decide) (Nat.le_of_ble_eq_true rfl) dX8_charge_18 ?_
  refine zq_X8_in (fun h => absurd hb (ztick_in (n := 99) (m := (99 : Int32)) (by decide) (by decide) (Int32.not_lt.mpr h.1) h.2)) (fun _ => ?_)
  refine zr_if_ne (tgt := 28) X dX8_charge_21 (by decide) (fun h => absurd h (by decide)) (fun _ => ?_)
  refine zr_iconst (v := (1 : Int32)) X dX8_charge_24 (by decide) ?_
  refine zr_goto (tgt := 29) X dX8_charge_25 (by decide) ?_
  refine zr_iconst (v := (2 : Int32)) X dX8_charge_29 (by decide) ?_
  refine zr_callV2 (rm9 := zrm_X8_fails) X hnt zm_X8_220 (by decide) (by decide) (by decide) (Nat.le_of_ble_eq_true rfl) dX8_charge_30 ?_
  refine zf1_X8_fails (zput_eq) (by decide) ?_
  refine zr_if_ne (tgt := 66) X dX8_charge_33 (by decide) (fun _ => ?_) (fun h => absurd h (by decide))
  refine zr_iconst (v := (0 : Int32)) X dX8_charge_66 (by decide) ?_
  refine zr_iret X (by decide) (by decide) dX8_charge_67 ?_
  exact kx _ _ (hC1.put (by decide)) zput_eq
set_option maxRecDepth 20000 in
theorem zx1_X8_charge {l : Launch} {D : va_G} {b0 : Nat} {tA : Nat → ClassId} {sa sv : Nat → Nat} {K : Nat → Option Nat} {I : zI} {Qp : zI → Option AV → Prop} {Xp : String → zI → Prop} {F9 : zI} {y f : Nat} {t : Nat → Nat} {er : Int32} {S : zS} {U : List zS} {u v : Int32}
    (hC : zRf F9 I y t f er S U) (hb : vIdx u (znc S) = none) (kx : ∀ (J : zI) (v9 : Int32), zRf F9 J y t f er S U → J y 0 = 1 → Qp J (some (vi v9))) :
    zC l D b0 tA sa sv K yX8_charge (.code yX8_charge cX8_charge 3 (some .int)) zrm_X8_charge [vr (y) 8, vi (u), vi (v)] I Qp Xp := by
  have hC1 : zRf F9 (zput I y 0 0) y t f er S U := hC.put (by decide)
  have hW := hC.2.2.2.1
  have hg6 := hW.ng.1
  have hc12 := hW.nc.1
  have hf5 := hC.1.2.1
  refine zC_of (by decide +kernel) (Nat.le_of_ble_eq_true rfl) ?_
  intro p e s m args below meth c X hnt
  have X : zX p l e zrm_X8_charge s m args below meth c RX8 cX8_charge 3 (some .int) D b0 tA sa sv := X
  refine zr_lv (lv2 := [some (vr (y) 8), some (vi (u)), some (vi (v))]) rfl ?_
  refine zr_aload0 X dX8_charge_0 ?_
  refine zr_iconst (v := (0 : Int32)) X dX8_charge_1 (by decide) ?_
  refine zr_putI X zf_X8_31 rfl (Or.inl rfl) dX8_charge_2 ?_
  refine zr_aload0 X dX8_charge_5 ?_
  refine zr_iload1 X dX8_charge_6 ?_
  refine zr_callV1 (rm9 := zrm_X8_noCard) X hnt zm_X8_248 (by decide) (by decide) (by decide) (Nat.le_of_ble_eq_true rfl) dX8_charge_7 ?_
  refine zx_X8_noCard hC1.2.2.1 hW (zput_eq) (by assumption) ?_
  refine zr_if_ne (tgt := 66) X dX8_charge_10 (by decide) (fun _ => ?_) (fun h => absurd h (by decide))
  refine zr_iconst (v := (0 : Int32)) X dX8_charge_66 (by decide) ?_
  refine zr_iret X (by decide) (by decide) dX8_charge_67 ?_
  exact kx _ _ (hC1.put (by decide)) zput_eq
theorem zq_X8_charge {l : Launch} {D : va_G} {b0 : Nat} {tA : Nat → ClassId} {sa sv : Nat → Nat} {K : Nat → Option Nat} {I : zI} {Qp : zI → Option AV → Prop} {Xp : String → zI → Prop} {F9 : zI} {y f : Nat} {t : Nat → Nat} {er : Int32} {S : zS} {U : List zS} {u v : Int32}
    (hC : zRf F9 I y t f er S U) (k0 : (rCharge S u v).1 = 0 → ∀ J : zI, zRf F9 J y t f er (sCharge S u v) (qPush S U) → J y 0 = 0 → Qp J (some (vi (rCharge S u v).2))) (kx1 : (rCharge S u v).1 = 1 → ∀ (J : zI) (v9 : Int32), zRf F9 J y t f er S U → J y 0 = 1 → Qp J (some (vi v9))) (kx2 : (rCharge S u v).1 = 2 → ∀ (J : zI) (v9 : Int32), zRf F9 J y t f er S U → J y 0 = 2 → Qp J (some (vi v9))) (kx3 : (rCharge S u v).1 = 3 → ∀ (J : zI) (v9 : Int32), zRf F9 J y t f er S U → J y 0 = 3 → Qp J (some (vi v9))) :
    zC l D b0 tA sa sv K yX8_charge (.code yX8_charge cX8_charge 3 (some .int)) zrm_X8_charge [vr (y) 8, vi (u), vi (v)] I Qp Xp := by
  unfold rCharge at k0 kx1 kx2 kx3
  unfold sCharge at k0
  cases e1 : vIdx u (znc S) with
  | none => rw [e1] at kx1; exact zx1_X8_charge hC e1 (kx1 rfl)
  | some c =>
    rw [e1] at k0 kx2 kx3
    obtain ⟨h1, rfl⟩ := vIdx_some e1
    cases e2 : vTick v 100 with
    | none => simp only [e2] at kx2; exact zx2_X8_charge hC h1 (vTick_none e2) (kx2 (by first | rfl | trivial))
    | some k =>
      simp only [e2] at k0 kx3
      obtain ⟨g1, g2, rfl⟩ := vTick_some e2
      by_cases h3 : (99 : Int32) < sC S c 0 + nI k
      · rw [if_pos h3] at kx3; exact zx3_X8_charge hC h1 g1 (by omega) h3 (kx3 rfl)
      · rw [if_neg h3] at k0; exact zo_X8_charge hC h1 g1 (by omega) h3 (k0 rfl)
abbrev zrm_X8_mode : Room := { frames := 2, cells := 0, slots := 0, locals := 43 }
set_option maxRecDepth 20000 in
theorem zo_X8_mode {l : Launch} {D : va_G} {b0 : Nat} {tA : Nat → ClassId} {sa sv : Nat → Nat} {K : Nat → Option Nat} {I : zI} {Qp : zI → Option AV → Prop} {Xp : String → zI → Prop} {F9 : zI} {y f : Nat} {t : Nat → Nat} {er : Int32} {S : zS} {U : List zS} {g k9 : Nat}
    (hC : zRf F9 I y t f er S U) (hg : g < zng S) (hk : k9 < 3) (kd : (sG S g 2 = 0 ∧ (qSv (nI k9) 0 ∨ sL S g 0 = []) ∧ (qSv (nI k9) 1 ∨ sL S g 1 = []))) (k1 : ∀ J : zI, zRf F9 J y t f er (tG S g 0 (nI k9)) (qPush S U) → J y 0 = 0 → Qp J (some (vi (sG S g 0)))) :
    zC l D b0 tA sa sv K yX8_mode (.code yX8_mode cX8_mode 5 (some .int)) zrm_X8_mode [vr (y) 8, vi ((nI g)), vi ((nI k9))] I Qp Xp := by
  have hC1 : zRf F9 (zput I y 0 0) y t f er S U := hC.put (by decide)
  have hW := hC.2.2.2.1
  have hg6 := hW.ng.1
  have hc12 := hW.nc.1
  have hf5 := hC.1.2.1
  have hl0 := hW.len g 0
  have hl1 := hW.len g 1
  refine zC_of (by decide +kernel) (Nat.le_of_ble_eq_true rfl) ?_
  intro p e s m args below meth c X hnt
  have X : zX p l e zrm_X8_mode s m args below meth c RX8 cX8_mode 5 (some .int) D b0 tA sa sv := X
  refine zr_lv (lv2 := [some (vr (y) 8), some (vi ((nI g))), some (vi ((nI k9))), none, none]) rfl ?_
  refine zr_aload0 X dX8_mode_0 ?_
  refine zr_iconst (v := (0 : Int32)) X dX8_mode_1 (by decide) ?_
  refine zr_putI X zf_X8_31 rfl (Or.inl rfl) dX8_mode_2 ?_
  refine zr_aload0 X dX8_mode_5 ?_
  refine zr_iload1 X dX8_mode_6 ?_
  refine zr_callV1 (rm9 := zrm_X8_noGate) X hnt zm_X8_242 (by decide) (by decide) (by decide) (Nat.le_of_ble_eq_true rfl) dX8_mode_7 ?_
  refine zo_X8_noGate hC1.2.2.1 hW (zput_eq) (by omega) ?_
  refine zr_if_ne (tgt := 35) X dX8_mode_10 (by decide) (fun h => absurd h (by decide)) (fun _ => ?_)
  refine zr_aload0 X dX8_mode_13 ?_
  refine zr_iload2 X dX8_mode_14 ?_
  refine zr_iconst (v := (0 : Int32)) X dX8_mode_15 (by decide) ?_
  refine zr_iconst (v := (2 : Int32)) X dX8_mode_16 (by decide) ?_
  refine zr_callS3 (rm9 := zrm_X8_in) X hnt zm_X8_117 (by decide) (by decide) (by decide) (Nat.le_of_ble_eq_true rfl) dX8_mode_17 ?_
  refine zIo_X8_in (n := 3) (by omega) (by omega) (by rfl) ?_
  refine zr_if_ne (tgt := 27) X dX8_mode_20 (by decide) (fun _ => ?_) (fun h => absurd h (by decide))
  refine zr_iconst (v := (0 : Int32)) X dX8_mode_27 (by decide) ?_
  refine zr_iconst (v := (2 : Int32)) X dX8_mode_28 (by decide) ?_
  refine zr_callV2 (rm9 := zrm_X8_fails) X hnt zm_X8_220 (by decide) (by decide) (by decide) (Nat.le_of_ble_eq_true rfl) dX8_mode_29 ?_
  refine zf0_X8_fails (zput_eq) ?_
  refine zr_if_eq (tgt := 37) X dX8_mode_32 (by decide) (fun _ => ?_) (fun h => absurd h (by decide))
  refine zr_iconst (v := (0 : Int32)) X dX8_mode_37 (by decide) ?_
  refine zr_istore3 X (by decide) rfl dX8_mode_38 ?_
  refine zr_iconst (v := (0 : Int32)) X dX8_mode_39 (by decide) ?_
  refine zr_istore4 X (by decide) rfl dX8_mode_40 ?_
  refine zr_iload4 X dX8_mode_42 ?_
  refine zr_iconst (v := (2 : Int32)) X dX8_mode_44 (by decide) ?_
  refine zr_icmp_ge (tgt := 78) X dX8_mode_45 (by decide) (fun h => absurd h (by decide)) (fun _ => ?_)
  refine zr_iload2 X dX8_mode_48 ?_
  refine zr_iload4 X dX8_mode_49 ?_
  refine zr_callS2 (rm9 := zrm_X8_serves) X hnt zm_X8_46 (by decide) (by decide) (by decide) (Nat.le_of_ble_eq_true rfl) dX8_mode_51 ?_
  refine zq_X8_serves (s9 := 0) ?_ ?_
  · skip
    intro hs1
    refine zr_if_ne (tgt := 72) X dX8_mode_54 (by decide) (fun _ => ?_) (fun h => absurd h (by decide))
    refine zr_iinc4 (v := (1 : Int32)) X (by decide) (by decide) rfl dX8_mode_72 ?_
    refine zr_goto (tgt := 42) X dX8_mode_75 (by decide) ?_
    refine zr_iload4 X dX8_mode_42 ?_
    refine zr_iconst (v := (2 : Int32)) X dX8_mode_44 (by decide) ?_
    refine zr_icmp_ge (tgt := 78) X dX8_mode_45 (by decide) (fun h => absurd h (by decide)) (fun _ => ?_)
    refine zr_iload2 X dX8_mode_48 ?_
    refine zr_iload4 X dX8_mode_49 ?_
    refine zr_callS2 (rm9 := zrm_X8_serves) X hnt zm_X8_46 (by decide) (by decide) (by decide) (Nat.le_of_ble_eq_true rfl) dX8_mode_51 ?_
    refine zq_X8_serves (s9 := 1) ?_ ?_
    · skip
      intro hs2
      refine zr_if_ne (tgt := 72) X dX8_mode_54 (by decide) (fun _ => ?_) (fun h => absurd h (by decide))
      refine zr_iinc4 (v := (2 : Int32)) X (by decide) (by decide) rfl dX8_mode_72 ?_
      refine zr_goto (tgt := 42) X dX8_mode_75 (by decide) ?_
      refine zr_iload4 X dX8_mode_42 ?_
      refine zr_iconst (v := (2 : Int32)) X dX8_mode_44 (by decide) ?_
      refine zr_icmp_ge (tgt := 78) X dX8_mode_45 (by decide) (fun _ => ?_) (fun h => absurd h (by decide))
      refine zr_aload0 X dX8_mode_78 ?_
      refine zr_iload3 X dX8_mode_79 ?_
      refine zr_if_ne (tgt := 96) X dX8_mode_80 (by decide) (fun h => absurd h (by decide)) (fun _ => ?_)
      refine zr_aload0 X dX8_mode_83 ?_
      refine zr_getR X zf_X8_17 rfl (by decide) (by decide) dX8_mode_84 ?_
      refine zr_iload1 X dX8_mode_87 ?_
      refine zr_iconst (v := (1 : Int32)) X dX8_mode_88 (by decide) ?_
      refine zr_callS2 (rm9 := zrm_X8_gateAt) X hnt zm_X8_34 (by decide) (by decide) (by decide) (Nat.le_of_ble_eq_true rfl) dX8_mode_89 ?_
      refine zn_X8_gateAt (g := g) (w := 1) ?_
      refine zr_ialdN (n := 16 + 29 * g + 1) X rfl (show _ < 310 from (by first | assumption | omega | decide)) dX8_mode_92 ?_
      refine zr_eq (x2 := (sG S g 1)) ((hC1.2.2.1.2.1 g (by omega)).1 1 (by first | decide | omega)) ?_
      refine zr_if_le (tgt := 100) X dX8_mode_93 (by decide) (fun h3 => ?_) (fun h3 => ?_)
      · skip
        refine zr_iconst (v := (0 : Int32)) X dX8_mode_100 (by decide) ?_
        refine zr_iconst (v := (3 : Int32)) X dX8_mode_101 (by decide) ?_
        refine zr_callV2 (rm9 := zrm_X8_fails) X hnt zm_X8_220 (by decide) (by decide) (by decide) (Nat.le_of_ble_eq_true rfl) dX8_mode_102 ?_
        refine zf0_X8_fails (zput_eq) ?_
        refine zr_if_eq (tgt := 110) X dX8_mode_105 (by decide) (fun _ => ?_) (fun h => absurd h (by decide))
        refine zr_aload0 X dX8_mode_110 ?_
        refine zr_callV0 (rm9 := zrm_X8_remember) X hnt zm_X8_229 (by decide) (by decide) (by decide) (Nat.le_of_ble_eq_true rfl) dX8_mode_111 ?_
        refine zp_X8_remember hC1 ?_
        intro J68 hr69 h070 e371
        refine zr_aload0 X dX8_mode_114 ?_
        refine zr_getR X zf_X8_17 rfl (by decide) (by decide) dX8_mode_115 ?_
        refine zr_iload1 X dX8_mode_118 ?_
        refine zr_iconst (v := (0 : Int32)) X dX8_mode_119 (by decide) ?_
        refine zr_callS2 (rm9 := zrm_X8_gateAt) X hnt zm_X8_34 (by decide) (by decide) (by decide) (Nat.le_of_ble_eq_true rfl) dX8_mode_120 ?_
        refine zn_X8_gateAt (g := g) (w := 0) ?_
        refine zr_ialdN (n := 16 + 29 * g + 0) X rfl (show _ < 310 from (by first | assumption | omega | decide)) dX8_mode_123 ?_
        refine zr_eq (x2 := (sG S g 0)) ((hr69.2.2.1.2.1 g (by omega)).1 0 (by first | decide | omega)) ?_
        refine zr_istore4 X (by decide) rfl dX8_mode_124 ?_
        refine zr_aload0 X dX8_mode_126 ?_
        refine zr_getR X zf_X8_17 rfl (by decide) (by decide) dX8_mode_127 ?_
        refine zr_iload1 X dX8_mode_130 ?_
        refine zr_iconst (v := (0 : Int32)) X dX8_mode_131 (by decide) ?_
        refine zr_callS2 (rm9 := zrm_X8_gateAt) X hnt zm_X8_34 (by decide) (by decide) (by decide) (Nat.le_of_ble_eq_true rfl) dX8_mode_132 ?_
        refine zn_X8_gateAt (g := g) (w := 0) ?_
        refine zr_iload2 X dX8_mode_135 ?_
        refine zr_iastN X rfl (show _ < 310 from (by first | assumption | omega)) dX8_mode_136 ?_
        have hM_1 : zMd _ (y + 2) (tG S g 0 (nI k9)) := zMd_G hr69.2.2.1 (g := g) (j := 0) (v := (nI k9)) (by omega) (by first | decide | omega)
        refine zr_iload4 X dX8_mode_137 ?_
        refine zr_iret X (by decide) (by decide) dX8_mode_139 ?_
        have hag : zag J68 (zput J68 (y + 2) (16 + 29 * g + 0) ((nI k9))) (y + 2) 1 := by repeat (first | exact zag.rf | assumption | refine zag.put ?_ (by omega) (by omega) | refine zag.tr ?_ (by assumption) (by omega) (by omega))
        exact k1 _ (hr69.now hag hM_1 (zWf_mode hW hg (by rcases (show k9 = 0 ∨ k9 = 1 ∨ k9 = 2 by omega) with rfl | rfl | rfl; exact Or.inl rfl; exact Or.inr (Or.inl rfl); exact Or.inr (Or.inr rfl)))) ((congrFun (hag y (by omega)) 0).trans (h070.trans zput_eq))
      · skip
        refine zr_iconst (v := (1 : Int32)) X dX8_mode_96 (by decide) ?_
        refine zr_goto (tgt := 101) X dX8_mode_97 (by decide) ?_
        refine zr_iconst (v := (3 : Int32)) X dX8_mode_101 (by decide) ?_
        refine zr_callV2 (rm9 := zrm_X8_fails) X hnt zm_X8_220 (by decide) (by decide) (by decide) (Nat.le_of_ble_eq_true rfl) dX8_mode_102 ?_
        refine zf1_X8_fails (zput_eq) (by decide) ?_
        refine zr_if_eq (tgt := 110) X dX8_mode_105 (by decide) (fun h => absurd h (by decide)) (fun _ => ?_)
        refine zr_iconst (v := (0 : Int32)) X dX8_mode_108 (by decide) ?_
        refine zr_iret X (by decide) (by decide) dX8_mode_109 ?_
        exfalso
        obtain ⟨d1, d2, d3⟩ := kd
        first | (rcases d2 with d2 | d2; exact absurd d2 (by assumption); exact absurd (List.length_eq_zero_iff.mpr d2) (by assumption)) | (rcases d3 with d3 | d3; exact absurd d3 (by assumption); exact absurd (List.length_eq_zero_iff.mpr d3) (by assumption)) | exact absurd ((zPad_open (hW.pad g)).mpr d1) (by assumption)
    · skip
      intro hs2
      refine zr_if_ne (tgt := 72) X dX8_mode_54 (by decide) (fun h => absurd h (by decide)) (fun _ => ?_)
      refine zr_aload0 X dX8_mode_57 ?_
      refine zr_getR X zf_X8_17 rfl (by decide) (by decide) dX8_mode_58 ?_
      refine zr_iload1 X dX8_mode_61 ?_
      refine zr_iload4 X dX8_mode_62 ?_
      refine zr_callS3 (rm9 := zrm_X8_many) X hnt zm_X8_38 (by decide) (by decide) (by decide) (Nat.le_of_ble_eq_true rfl) dX8_mode_64 ?_
      refine zn_X8_many (g := g) (s9 := 1) hC1.2.2.1 (by omega) (by omega) ?_
      refine zr_nif_le X (((sL S g 1).length)) (tgt := 72) (by omega) dX8_mode_67 (by decide) (fun h4 => ?_) (fun h4 => ?_)
      · skip
        refine zr_iinc4 (v := (2 : Int32)) X (by decide) (by decide) rfl dX8_mode_72 ?_
        refine zr_goto (tgt := 42) X dX8_mode_75 (by decide) ?_
        refine zr_iload4 X dX8_mode_42 ?_
        refine zr_iconst (v := (2 : Int32)) X dX8_mode_44 (by decide) ?_
        refine zr_icmp_ge (tgt := 78) X dX8_mode_45 (by decide) (fun _ => ?_) (fun h => absurd h (by decide))
        refine zr_aload0 X dX8_mode_78 ?_
        refine zr_iload3 X dX8_mode_79 ?_
        refine zr_if_ne (tgt := 96) X dX8_mode_80 (by decide) (fun h => absurd h (by decide)) (fun _ => ?_)
        refine zr_aload0 X dX8_mode_83 ?_
        refine zr_getR X zf_X8_17 rfl (by decide) (by decide) dX8_mode_84 ?_
        refine zr_iload1 X dX8_mode_87 ?_
        refine zr_iconst (v := (1 : Int32)) X dX8_mode_88 (by decide) ?_
        refine zr_callS2 (rm9 := zrm_X8_gateAt) X hnt zm_X8_34 (by decide) (by decide) (by decide) (Nat.le_of_ble_eq_true rfl) dX8_mode_89 ?_
        refine zn_X8_gateAt (g := g) (w := 1) ?_
        refine zr_ialdN (n := 16 + 29 * g + 1) X rfl (show _ < 310 from (by first | assumption | omega | decide)) dX8_mode_92 ?_
        refine zr_eq (x2 := (sG S g 1)) ((hC1.2.2.1.2.1 g (by omega)).1 1 (by first | decide | omega)) ?_
        refine zr_if_le (tgt := 100) X dX8_mode_93 (by decide) (fun h5 => ?_) (fun h5 => ?_)
        · skip
          refine zr_iconst (v := (0 : Int32)) X dX8_mode_100 (by decide) ?_
          refine zr_iconst (v := (3 : Int32)) X dX8_mode_101 (by decide) ?_
          refine zr_callV2 (rm9 := zrm_X8_fails) X hnt zm_X8_220 (by decide) (by decide) (by decide) (Nat.le_of_ble_eq_true rfl) dX8_mode_102 ?_
          refine zf0_X8_fails (zput_eq) ?_
          refine zr_if_eq (tgt := 110) X dX8_mode_105 (by decide) (fun _ => ?_) (fun h => absurd h (by decide))
          refine zr_aload0 X dX8_mode_110 ?_
          refine zr_callV0 (rm9 := zrm_X8_remember) X hnt zm_X8_229 (by decide) (by decide) (by decide) (Nat.le_of_ble_eq_true rfl) dX8_mode_111 ?_
          refine zp_X8_remember hC1 ?_
          intro J72 hr73 h074 e375
          refine zr_aload0 X dX8_mode_114 ?_
          refine zr_getR X zf_X8_17 rfl (by decide) (by decide) dX8_mode_115 ?_
          refine zr_iload1 X dX8_mode_118 ?_
          refine zr_iconst (v := (0 : Int32)) X dX8_mode_119 (by decide) ?_
          refine zr_callS2 (rm9 := zrm_X8_gateAt) X hnt zm_X8_34 (by decide) (by decide) (by decide) (Nat.le_of_ble_eq_true rfl) dX8_mode_120 ?_
          refine zn_X8_gateAt (g := g) (w := 0) ?_
          refine zr_ialdN (n := 16 + 29 * g + 0) X rfl (show _ < 310 from (by first | assumption | omega | decide)) dX8_mode_123 ?_
          refine zr_eq (x2 := (sG S g 0)) ((hr73.2.2.1.2.1 g (by omega)).1 0 (by first | decide | omega)) ?_
          refine zr_istore4 X (by decide) rfl dX8_mode_124 ?_
          refine zr_aload0 X dX8_mode_126 ?_
          refine zr_getR X zf_X8_17 rfl (by decide) (by decide) dX8_mode_127 ?_
          refine zr_iload1 X dX8_mode_130 ?_
          refine zr_iconst (v := (0 : Int32)) X dX8_mode_131 (by decide) ?_
          refine zr_callS2 (rm9 := zrm_X8_gateAt) X hnt zm_X8_34 (by decide) (by decide) (by decide) (Nat.le_of_ble_eq_true rfl) dX8_mode_132 ?_
          refine zn_X8_gateAt (g := g) (w := 0) ?_
          refine zr_iload2 X dX8_mode_135 ?_
          refine zr_iastN X rfl (show _ < 310 from (by first | assumption | omega)) dX8_mode_136 ?_
          have hM_2 : zMd _ (y + 2) (tG S g 0 (nI k9)) := zMd_G hr73.2.2.1 (g := g) (j := 0) (v := (nI k9)) (by omega) (by first | decide | omega)
          refine zr_iload4 X dX8_mode_137 ?_
          refine zr_iret X (by decide) (by decide) dX8_mode_139 ?_
          have hag : zag J72 (zput J72 (y + 2) (16 + 29 * g + 0) ((nI k9))) (y + 2) 1 := by repeat (first | exact zag.rf | assumption | refine zag.put ?_ (by omega) (by omega) | refine zag.tr ?_ (by assumption) (by omega) (by omega))
          exact k1 _ (hr73.now hag hM_2 (zWf_mode hW hg (by rcases (show k9 = 0 ∨ k9 = 1 ∨ k9 = 2 by omega) with rfl | rfl | rfl; exact Or.inl rfl; exact Or.inr (Or.inl rfl); exact Or.inr (Or.inr rfl)))) ((congrFun (hag y (by omega)) 0).trans (h074.trans zput_eq))
        · skip
          refine zr_iconst (v := (1 : Int32)) X dX8_mode_96 (by decide) ?_
          refine zr_goto (tgt := 101) X dX8_mode_97 (by decide) ?_
          refine zr_iconst (v := (3 : Int32)) X dX8_mode_101 (by decide) ?_
          refine zr_callV2 (rm9 := zrm_X8_fails) X hnt zm_X8_220 (by decide) (by decide) (by decide) (Nat.le_of_ble_eq_true rfl) dX8_mode_102 ?_
          refine zf1_X8_fails (zput_eq) (by decide) ?_
          refine zr_if_eq (tgt := 110) X dX8_mode_105 (by decide) (fun h => absurd h (by decide)) (fun _ => ?_)
          refine zr_iconst (v := (0 : Int32)) X dX8_mode_108 (by decide) ?_
          refine zr_iret X (by decide) (by decide) dX8_mode_109 ?_
          exfalso
          obtain ⟨d1, d2, d3⟩ := kd
          first | (rcases d2 with d2 | d2; exact absurd d2 (by assumption); exact absurd (List.length_eq_zero_iff.mpr d2) (by assumption)) | (rcases d3 with d3 | d3; exact absurd d3 (by assumption); exact absurd (List.length_eq_zero_iff.mpr d3) (by assumption)) | exact absurd ((zPad_open (hW.pad g)).mpr d1) (by assumption)
      · skip
        refine zr_iconst (v := (1 : Int32)) X dX8_mode_70 (by decide) ?_
        refine zr_istore3 X (by decide) rfl dX8_mode_71 ?_
        refine zr_iinc4 (v := (2 : Int32)) X (by decide) (by decide) rfl dX8_mode_72 ?_
        refine zr_goto (tgt := 42) X dX8_mode_75 (by decide) ?_
        refine zr_iload4 X dX8_mode_42 ?_
        refine zr_iconst (v := (2 : Int32)) X dX8_mode_44 (by decide) ?_
        refine zr_icmp_ge (tgt := 78) X dX8_mode_45 (by decide) (fun _ => ?_) (fun h => absurd h (by decide))
        refine zr_aload0 X dX8_mode_78 ?_
        refine zr_iload3 X dX8_mode_79 ?_
        refine zr_if_ne (tgt := 96) X dX8_mode_80 (by decide) (fun _ => ?_) (fun h => absurd h (by decide))
        refine zr_iconst (v := (1 : Int32)) X dX8_mode_96 (by decide) ?_
        refine zr_goto (tgt := 101) X dX8_mode_97 (by decide) ?_
        refine zr_iconst (v := (3 : Int32)) X dX8_mode_101 (by decide) ?_
        refine zr_callV2 (rm9 := zrm_X8_fails) X hnt zm_X8_220 (by decide) (by decide) (by decide) (Nat.le_of_ble_eq_true rfl) dX8_mode_102 ?_
        refine zf1_X8_fails (zput_eq) (by decide) ?_
        refine zr_if_eq (tgt := 110) X dX8_mode_105 (by decide) (fun h => absurd h (by decide)) (fun _ => ?_)
        refine zr_iconst (v := (0 : Int32)) X dX8_mode_108 (by decide) ?_
        refine zr_iret X (by decide) (by decide) dX8_mode_109 ?_
        exfalso
        obtain ⟨d1, d2, d3⟩ := kd
        first | (rcases d2 with d2 | d2; exact absurd d2 (by assumption); exact absurd (List.length_eq_zero_iff.mpr d2) (by assumption)) | (rcases d3 with d3 | d3; exact absurd d3 (by assumption); exact absurd (List.length_eq_zero_iff.mpr d3) (by assumption)) | exact absurd ((zPad_open (hW.pad g)).mpr d1) (by assumption)
  · skip
    intro hs1
    refine zr_if_ne (tgt := 72) X dX8_mode_54 (by decide) (fun h => absurd h (by decide)) (fun _ => ?_)
    refine zr_aload0 X dX8_mode_57 ?_
    refine zr_getR X zf_X8_17 rfl (by decide) (by decide) dX8_mode_58 ?_
    refine zr_iload1 X dX8_mode_61 ?_
    refine zr_iload4 X dX8_mode_62 ?_
    refine zr_callS3 (rm9 := zrm_X8_many) X hnt zm_X8_38 (by decide) (by decide) (by decide) (Nat.le_of_ble_eq_true rfl) dX8_mode_64 ?_
    refine zn_X8_many (g := g) (s9 := 0) hC1.2.2.1 (by omega) (by omega) ?_
    refine zr_nif_le X (((sL S g 0).length)) (tgt := 72) (by omega) dX8_mode_67 (by decide) (fun h6 => ?_) (fun h6 => ?_)
    · skip
      refine zr_iinc4 (v := (1 : Int32)) X (by decide) (by decide) rfl dX8_mode_72 ?_
      refine zr_goto (tgt := 42) X dX8_mode_75 (by decide) ?_
      refine zr_iload4 X dX8_mode_42 ?_
      refine zr_iconst (v := (2 : Int32)) X dX8_mode_44 (by decide) ?_
      refine zr_icmp_ge (tgt := 78) X dX8_mode_45 (by decide) (fun h => absurd h (by decide)) (fun _ => ?_)
      refine zr_iload2 X dX8_mode_48 ?_
      refine zr_iload4 X dX8_mode_49 ?_
      refine zr_callS2 (rm9 := zrm_X8_serves) X hnt zm_X8_46 (by decide) (by decide) (by decide) (Nat.le_of_ble_eq_true rfl) dX8_mode_51 ?_
      refine zq_X8_serves (s9 := 1) ?_ ?_
      · skip
        intro hs7
        refine zr_if_ne (tgt := 72) X dX8_mode_54 (by decide) (fun _ => ?_) (fun h => absurd h (by decide))
        refine zr_iinc4 (v := (2 : Int32)) X (by decide) (by decide) rfl dX8_mode_72 ?_
        refine zr_goto (tgt := 42) X dX8_mode_75 (by decide) ?_
        refine zr_iload4 X dX8_mode_42 ?_
        refine zr_iconst (v := (2 : Int32)) X dX8_mode_44 (by decide) ?_
        refine zr_icmp_ge (tgt := 78) X dX8_mode_45 (by decide) (fun _ => ?_) (fun h => absurd h (by decide))
        refine zr_aload0 X dX8_mode_78 ?_
        refine zr_iload3 X dX8_mode_79 ?_
        refine zr_if_ne (tgt := 96) X dX8_mode_80 (by decide) (fun h => absurd h (by decide)) (fun _ => ?_)
        refine zr_aload0 X dX8_mode_83 ?_
        refine zr_getR X zf_X8_17 rfl (by decide) (by decide) dX8_mode_84 ?_
        refine zr_iload1 X dX8_mode_87 ?_
        refine zr_iconst (v := (1 : Int32)) X dX8_mode_88 (by decide) ?_
        refine zr_callS2 (rm9 := zrm_X8_gateAt) X hnt zm_X8_34 (by decide) (by decide) (by decide) (Nat.le_of_ble_eq_true rfl) dX8_mode_89 ?_
        refine zn_X8_gateAt (g := g) (w := 1) ?_
        refine zr_ialdN (n := 16 + 29 * g + 1) X rfl (show _ < 310 from (by first | assumption | omega | decide)) dX8_mode_92 ?_
        refine zr_eq (x2 := (sG S g 1)) ((hC1.2.2.1.2.1 g (by omega)).1 1 (by first | decide | omega)) ?_
        refine zr_if_le (tgt := 100) X dX8_mode_93 (by decide) (fun h8 => ?_) (fun h8 => ?_)
        · skip
          refine zr_iconst (v := (0 : Int32)) X dX8_mode_100 (by decide) ?_
          refine zr_iconst (v := (3 : Int32)) X dX8_mode_101 (by decide) ?_
          refine zr_callV2 (rm9 := zrm_X8_fails) X hnt zm_X8_220 (by decide) (by decide) (by decide) (Nat.le_of_ble_eq_true rfl) dX8_mode_102 ?_
          refine zf0_X8_fails (zput_eq) ?_
          refine zr_if_eq (tgt := 110) X dX8_mode_105 (by decide) (fun _ => ?_) (fun h => absurd h (by decide))
          refine zr_aload0 X dX8_mode_110 ?_
          refine zr_callV0 (rm9 := zrm_X8_remember) X hnt zm_X8_229 (by decide) (by decide) (by decide) (Nat.le_of_ble_eq_true rfl) dX8_mode_111 ?_
          refine zp_X8_remember hC1 ?_
          intro J76 hr77 h078 e379
          refine zr_aload0 X dX8_mode_114 ?_
          refine zr_getR X zf_X8_17 rfl (by decide) (by decide) dX8_mode_115 ?_
          refine zr_iload1 X dX8_mode_118 ?_
          refine zr_iconst (v := (0 : Int32)) X dX8_mode_119 (by decide) ?_
          refine zr_callS2 (rm9 := zrm_X8_gateAt) X hnt zm_X8_34 (by decide) (by decide) (by decide) (Nat.le_of_ble_eq_true rfl) dX8_mode_120 ?_
          refine zn_X8_gateAt (g := g) (w := 0) ?_
          refine zr_ialdN (n := 16 + 29 * g + 0) X rfl (show _ < 310 from (by first | assumption | omega | decide)) dX8_mode_123 ?_
          refine zr_eq (x2 := (sG S g 0)) ((hr77.2.2.1.2.1 g (by omega)).1 0 (by first | decide | omega)) ?_
          refine zr_istore4 X (by decide) rfl dX8_mode_124 ?_
          refine zr_aload0 X dX8_mode_126 ?_
          refine zr_getR X zf_X8_17 rfl (by decide) (by decide) dX8_mode_127 ?_
          refine zr_iload1 X dX8_mode_130 ?_
          refine zr_iconst (v := (0 : Int32)) X dX8_mode_131 (by decide) ?_
          refine zr_callS2 (rm9 := zrm_X8_gateAt) X hnt zm_X8_34 (by decide) (by decide) (by decide) (Nat.le_of_ble_eq_true rfl) dX8_mode_132 ?_
          refine zn_X8_gateAt (g := g) (w := 0) ?_
          refine zr_iload2 X dX8_mode_135 ?_
          refine zr_iastN X rfl (show _ < 310 from (by first | assumption | omega)) dX8_mode_136 ?_
          have hM_3 : zMd _ (y + 2) (tG S g 0 (nI k9)) := zMd_G hr77.2.2.1 (g := g) (j := 0) (v := (nI k9)) (by omega) (by first | decide | omega)
          refine zr_iload4 X dX8_mode_137 ?_
          refine zr_iret X (by decide) (by decide) dX8_mode_139 ?_
          have hag : zag J76 (zput J76 (y + 2) (16 + 29 * g + 0) ((nI k9))) (y + 2) 1 := by repeat (first | exact zag.rf | assumption | refine zag.put ?_ (by omega) (by omega) | refine zag.tr ?_ (by assumption) (by omega) (by omega))
          exact k1 _ (hr77.now hag hM_3 (zWf_mode hW hg (by rcases (show k9 = 0 ∨ k9 = 1 ∨ k9 = 2 by omega) with rfl | rfl | rfl; exact Or.inl rfl; exact Or.inr (Or.inl rfl); exact Or.inr (Or.inr rfl)))) ((congrFun (hag y (by omega)) 0).trans (h078.trans zput_eq))
        · skip
          refine zr_iconst (v := (1 : Int32)) X dX8_mode_96 (by decide) ?_
          refine zr_goto (tgt := 101) X dX8_mode_97 (by decide) ?_
          refine zr_iconst (v := (3 : Int32)) X dX8_mode_101 (by decide) ?_
          refine zr_callV2 (rm9 := zrm_X8_fails) X hnt zm_X8_220 (by decide) (by decide) (by decide) (Nat.le_of_ble_eq_true rfl) dX8_mode_102 ?_
          refine zf1_X8_fails (zput_eq) (by decide) ?_
          refine zr_if_eq (tgt := 110) X dX8_mode_105 (by decide) (fun h => absurd h (by decide)) (fun _ => ?_)
          refine zr_iconst (v := (0 : Int32)) X dX8_mode_108 (by decide) ?_
          refine zr_iret X (by decide) (by decide) dX8_mode_109 ?_
          exfalso
          obtain ⟨d1, d2, d3⟩ := kd
          first | (rcases d2 with d2 | d2; exact absurd d2 (by assumption); exact absurd (List.length_eq_zero_iff.mpr d2) (by assumption)) | (rcases d3 with d3 | d3; exact absurd d3 (by assumption); exact absurd (List.length_eq_zero_iff.mpr d3) (by assumption)) | exact absurd ((zPad_open (hW.pad g)).mpr d1) (by assumption)
      · skip
        intro hs7
        refine zr_if_ne (tgt := 72) X dX8_mode_54 (by decide) (fun h => absurd h (by decide)) (fun _ => ?_)
        refine zr_aload0 X dX8_mode_57 ?_
        refine zr_getR X zf_X8_17 rfl (by decide) (by decide) dX8_mode_58 ?_
        refine zr_iload1 X dX8_mode_61 ?_
        refine zr_iload4 X dX8_mode_62 ?_
        refine zr_callS3 (rm9 := zrm_X8_many) X hnt zm_X8_38 (by decide) (by decide) (by decide) (Nat.le_of_ble_eq_true rfl) dX8_mode_64 ?_
        refine zn_X8_many (g := g) (s9 := 1) hC1.2.2.1 (by omega) (by omega) ?_
        refine zr_nif_le X (((sL S g 1).length)) (tgt := 72) (by omega) dX8_mode_67 (by decide) (fun h9 => ?_) (fun h9 => ?_)
        · skip
          refine zr_iinc4 (v := (2 : Int32)) X (by decide) (by decide) rfl dX8_mode_72 ?_
          refine zr_goto (tgt := 42) X dX8_mode_75 (by decide) ?_
          refine zr_iload4 X dX8_mode_42 ?_
          refine zr_iconst (v := (2 : Int32)) X dX8_mode_44 (by decide) ?_
          refine zr_icmp_ge (tgt := 78) X dX8_mode_45 (by decide) (fun _ => ?_) (fun h => absurd h (by decide))
          refine zr_aload0 X dX8_mode_78 ?_
          refine zr_iload3 X dX8_mode_79 ?_
          refine zr_if_ne (tgt := 96) X dX8_mode_80 (by decide) (fun h => absurd h (by decide)) (fun _ => ?_)
          refine zr_aload0 X dX8_mode_83 ?_
          refine zr_getR X zf_X8_17 rfl (by decide) (by decide) dX8_mode_84 ?_
          refine zr_iload1 X dX8_mode_87 ?_
          refine zr_iconst (v := (1 : Int32)) X dX8_mode_88 (by decide) ?_
          refine zr_callS2 (rm9 := zrm_X8_gateAt) X hnt zm_X8_34 (by decide) (by decide) (by decide) (Nat.le_of_ble_eq_true rfl) dX8_mode_89 ?_
          refine zn_X8_gateAt (g := g) (w := 1) ?_
          refine zr_ialdN (n := 16 + 29 * g + 1) X rfl (show _ < 310 from (by first | assumption | omega | decide)) dX8_mode_92 ?_
          refine zr_eq (x2 := (sG S g 1)) ((hC1.2.2.1.2.1 g (by omega)).1 1 (by first | decide | omega)) ?_
          refine zr_if_le (tgt := 100) X dX8_mode_93 (by decide) (fun h10 => ?_) (fun h10 => ?_)
          · skip
            refine zr_iconst (v := (0 : Int32)) X dX8_mode_100 (by decide) ?_
            refine zr_iconst (v := (3 : Int32)) X dX8_mode_101 (by decide) ?_
            refine zr_callV2 (rm9 := zrm_X8_fails) X hnt zm_X8_220 (by decide) (by decide) (by decide) (Nat.le_of_ble_eq_true rfl) dX8_mode_102 ?_
            refine zf0_X8_fails (zput_eq) ?_
            refine zr_if_eq (tgt := 110) X dX8_mode_105 (by decide) (fun _ => ?_) (fun h => absurd h (by decide))
            refine zr_aload0 X dX8_mode_110 ?_
            refine zr_callV0 (rm9 := zrm_X8_remember) X hnt zm_X8_229 (by decide) (by decide) (by decide) (Nat.le_of_ble_eq_true rfl) dX8_mode_111 ?_
            refine zp_X8_remember hC1 ?_
            intro J80 hr81 h082 e383
            refine zr_aload0 X dX8_mode_114 ?_
            refine zr_getR X zf_X8_17 rfl (by decide) (by decide) dX8_mode_115 ?_
            refine zr_iload1 X dX8_mode_118 ?_
            refine zr_iconst (v := (0 : Int32)) X dX8_mode_119 (by decide) ?_
            refine zr_callS2 (rm9 := zrm_X8_gateAt) X hnt zm_X8_34 (by decide) (by decide) (by decide) (Nat.le_of_ble_eq_true rfl) dX8_mode_120 ?_
            refine zn_X8_gateAt (g := g) (w := 0) ?_
            refine zr_ialdN (n := 16 + 29 * g + 0) X rfl (show _ < 310 from (by first | assumption | omega | decide)) dX8_mode_123 ?_
            refine zr_eq (x2 := (sG S g 0)) ((hr81.2.2.1.2.1 g (by omega)).1 0 (by first | decide | omega)) ?_
            refine zr_istore4 X (by decide) rfl dX8_mode_124 ?_
            refine zr_aload0 X dX8_mode_126 ?_
            refine zr_getR X zf_X8_17 rfl (by decide) (by decide) dX8_mode_127 ?_
            refine zr_iload1 X dX8_mode_130 ?_
            refine zr_iconst (v := (0 : Int32)) X dX8_mode_131 (by decide) ?_
            refine zr_callS2 (rm9 := zrm_X8_gateAt) X hnt zm_X8_34 (by decide) (by decide) (by decide) (Nat.le_of_ble_eq_true rfl) dX8_mode_132 ?_
            refine zn_X8_gateAt (g := g) (w := 0) ?_
            refine zr_iload2 X dX8_mode_135 ?_
            refine zr_iastN X rfl (show _ < 310 from (by first | assumption | omega)) dX8_mode_136 ?_
            have hM_4 : zMd _ (y + 2) (tG S g 0 (nI k9)) := zMd_G hr81.2.2.1 (g := g) (j := 0) (v := (nI k9)) (by omega) (by first | decide | omega)
            refine zr_iload4 X dX8_mode_137 ?_
            refine zr_iret X (by decide) (by decide) dX8_mode_139 ?_
            have hag : zag J80 (zput J80 (y + 2) (16 + 29 * g + 0) ((nI k9))) (y + 2) 1 := by repeat (first | exact zag.rf | assumption | refine zag.put ?_ (by omega) (by omega) | refine zag.tr ?_ (by assumption) (by omega) (by omega))
            exact k1 _ (hr81.now hag hM_4 (zWf_mode hW hg (by rcases (show k9 = 0 ∨ k9 = 1 ∨ k9 = 2 by omega) with rfl | rfl | rfl; exact Or.inl rfl; exact Or.inr (Or.inl rfl); exact Or.inr (Or.inr rfl)))) ((congrFun (hag y (by omega)) 0).trans (h082.trans zput_eq))
          · skip
            refine zr_iconst (v := (1 : Int32)) X dX8_mode_96 (by decide) ?_
            refine zr_goto (tgt := 101) X dX8_mode_97 (by decide) ?_
            refine zr_iconst (v := (3 : Int32)) X dX8_mode_101 (by decide) ?_
            refine zr_callV2 (rm9 := zrm_X8_fails) X hnt zm_X8_220 (by decide) (by decide) (by decide) (Nat.le_of_ble_eq_true rfl) dX8_mode_102 ?_
            refine zf1_X8_fails (zput_eq) (by decide) ?_
            refine zr_if_eq (tgt := 110) X dX8_mode_105 (by decide) (fun h => absurd h (by decide)) (fun _ => ?_)
            refine zr_iconst (v := (0 : Int32)) X dX8_mode_108 (by decide) ?_
            refine zr_iret X (by decide) (by decide) dX8_mode_109 ?_
            exfalso
            obtain ⟨d1, d2, d3⟩ := kd
            first | (rcases d2 with d2 | d2; exact absurd d2 (by assumption); exact absurd (List.length_eq_zero_iff.mpr d2) (by assumption)) | (rcases d3 with d3 | d3; exact absurd d3 (by assumption); exact absurd (List.length_eq_zero_iff.mpr d3) (by assumption)) | exact absurd ((zPad_open (hW.pad g)).mpr d1) (by assumption)
        · skip
          refine zr_iconst (v := (1 : Int32)) X dX8_mode_70 (by decide) ?_
          refine zr_istore3 X (by decide) rfl dX8_mode_71 ?_
          refine zr_iinc4 (v := (2 : Int32)) X (by decide) (by decide) rfl dX8_mode_72 ?_
          refine zr_goto (tgt := 42) X dX8_mode_75 (by decide) ?_
          refine zr_iload4 X dX8_mode_42 ?_
          refine zr_iconst (v := (2 : Int32)) X dX8_mode_44 (by decide) ?_
          refine zr_icmp_ge (tgt := 78) X dX8_mode_45 (by decide) (fun _ => ?_) (fun h => absurd h (by decide))
          refine zr_aload0 X dX8_mode_78 ?_
          refine zr_iload3 X dX8_mode_79 ?_
          refine zr_if_ne (tgt := 96) X dX8_mode_80 (by decide) (fun _ => ?_) (fun h => absurd h (by decide))
          refine zr_iconst (v := (1 : Int32)) X dX8_mode_96 (by decide) ?_
          refine zr_goto (tgt := 101) X dX8_mode_97 (by decide) ?_
          refine zr_iconst (v := (3 : Int32)) X dX8_mode_101 (by decide) ?_
          refine zr_callV2 (rm9 := zrm_X8_fails) X hnt zm_X8_220 (by decide) (by decide) (by decide) (Nat.le_of_ble_eq_true rfl) dX8_mode_102 ?_
          refine zf1_X8_fails (zput_eq) (by decide) ?_
          refine zr_if_eq (tgt := 110) X dX8_mode_105 (by decide) (fun h => absurd h (by decide)) (fun _ => ?_)
          refine zr_iconst (v := (0 : Int32)) X dX8_mode_108 (by decide) ?_
          refine zr_iret X (by decide) (by decide) dX8_mode_109 ?_
          exfalso
          obtain ⟨d1, d2, d3⟩ := kd
          first | (rcases d2 with d2 | d2; exact absurd d2 (by assumption); exact absurd (List.length_eq_zero_iff.mpr d2) (by assumption)) | (rcases d3 with d3 | d3; exact absurd d3 (by assumption); exact absurd (List.length_eq_zero_iff.mpr d3) (by assumption)) | exact absurd ((zPad_open (hW.pad g)).mpr d1) (by assumption)
    · skip
      refine zr_iconst (v := (1 : Int32)) X dX8_mode_70 (by decide) ?_
      refine zr_istore3 X (by decide) rfl dX8_mode_71 ?_
      refine zr_iinc4 (v := (1 : Int32)) X (by decide) (by decide) rfl dX8_mode_72 ?_
      refine zr_goto (tgt := 42) X dX8_mode_75 (by decide) ?_
      refine zr_iload4 X dX8_mode_42 ?_
      refine zr_iconst (v := (2 : Int32)) X dX8_mode_44 (by decide) ?_
      refine zr_icmp_ge (tgt := 78) X dX8_mode_45 (by decide) (fun h => absurd h (by decide)) (fun _ => ?_)
      refine zr_iload2 X dX8_mode_48 ?_
      refine zr_iload4 X dX8_mode_49 ?_
      refine zr_callS2 (rm9 := zrm_X8_serves) X hnt zm_X8_46 (by decide) (by decide) (by decide) (Nat.le_of_ble_eq_true rfl) dX8_mode_51 ?_
      refine zq_X8_serves (s9 := 1) ?_ ?_
      · skip
        intro hs11
        refine zr_if_ne (tgt := 72) X dX8_mode_54 (by decide) (fun _ => ?_) (fun h => absurd h (by decide))
        refine zr_iinc4 (v := (2 : Int32)) X (by decide) (by decide) rfl dX8_mode_72 ?_
        refine zr_goto (tgt := 42) X dX8_mode_75 (by decide) ?_
        refine zr_iload4 X dX8_mode_42 ?_
        refine zr_iconst (v := (2 : Int32)) X dX8_mode_44 (by decide) ?_
        refine zr_icmp_ge (tgt := 78) X dX8_mode_45 (by decide) (fun _ => ?_) (fun h => absurd h (by decide))
        refine zr_aload0 X dX8_mode_78 ?_
        refine zr_iload3 X dX8_mode_79 ?_
        refine zr_if_ne (tgt := 96) X dX8_mode_80 (by decide) (fun _ => ?_) (fun h => absurd h (by decide))
        refine zr_iconst (v := (1 : Int32)) X dX8_mode_96 (by decide) ?_
        refine zr_goto (tgt := 101) X dX8_mode_97 (by decide) ?_
        refine zr_iconst (v := (3 : Int32)) X dX8_mode_101 (by decide) ?_
        refine zr_callV2 (rm9 := zrm_X8_fails) X hnt zm_X8_220 (by decide) (by decide) (by decide) (Nat.le_of_ble_eq_true rfl) dX8_mode_102 ?_
        refine zf1_X8_fails (zput_eq) (by decide) ?_
        refine zr_if_eq (tgt := 110) X dX8_mode_105 (by decide) (fun h => absurd h (by decide)) (fun _ => ?_)
        refine zr_iconst (v := (0 : Int32)) X dX8_mode_108 (by decide) ?_
        refine zr_iret X (by decide) (by decide) dX8_mode_109 ?_
        exfalso
        obtain ⟨d1, d2, d3⟩ := kd
        first | (rcases d2 with d2 | d2; exact absurd d2 (by assumption); exact absurd (List.length_eq_zero_iff.mpr d2) (by assumption)) | (rcases d3 with d3 | d3; exact absurd d3 (by assumption); exact absurd (List.length_eq_zero_iff.mpr d3) (by assumption)) | exact absurd ((zPad_open (hW.pad g)).mpr d1) (by assumption)
      · skip
        intro hs11
        refine zr_if_ne (tgt := 72) X dX8_mode_54 (by decide) (fun h => absurd h (by decide)) (fun _ => ?_)
        refine zr_aload0 X dX8_mode_57 ?_
        refine zr_getR X zf_X8_17 rfl (by decide) (by decide) dX8_mode_58 ?_
        refine zr_iload1 X dX8_mode_61 ?_
        refine zr_iload4 X dX8_mode_62 ?_
        refine zr_callS3 (rm9 := zrm_X8_many) X hnt zm_X8_38 (by decide) (by decide) (by decide) (Nat.le_of_ble_eq_true rfl) dX8_mode_64 ?_
        refine zn_X8_many (g := g) (s9 := 1) hC1.2.2.1 (by omega) (by omega) ?_
        refine zr_nif_le X (((sL S g 1).length)) (tgt := 72) (by omega) dX8_mode_67 (by decide) (fun h12 => ?_) (fun h12 => ?_)
        · skip
          refine zr_iinc4 (v := (2 : Int32)) X (by decide) (by decide) rfl dX8_mode_72 ?_
          refine zr_goto (tgt := 42) X dX8_mode_75 (by decide) ?_
          refine zr_iload4 X dX8_mode_42 ?_
          refine zr_iconst (v := (2 : Int32)) X dX8_mode_44 (by decide) ?_
          refine zr_icmp_ge (tgt := 78) X dX8_mode_45 (by decide) (fun _ => ?_) (fun h => absurd h (by decide))
          refine zr_aload0 X dX8_mode_78 ?_
          refine zr_iload3 X dX8_mode_79 ?_
          refine zr_if_ne (tgt := 96) X dX8_mode_80 (by decide) (fun _ => ?_) (fun h => absurd h (by decide))
          refine zr_iconst (v := (1 : Int32)) X dX8_mode_96 (by decide) ?_
          refine zr_goto (tgt := 101) X dX8_mode_97 (by decide) ?_
          refine zr_iconst (v := (3 : Int32)) X dX8_mode_101 (by decide) ?_
          refine zr_callV2 (rm9 := zrm_X8_fails) X hnt zm_X8_220 (by decide) (by decide) (by decide) (Nat.le_of_ble_eq_true rfl) dX8_mode_102 ?_
          refine zf1_X8_fails (zput_eq) (by decide) ?_
          refine zr_if_eq (tgt := 110) X dX8_mode_105 (by decide) (fun h => absurd h (by decide)) (fun _ => ?_)
          refine zr_iconst (v := (0 : Int32)) X dX8_mode_108 (by decide) ?_
          refine zr_iret X (by decide) (by decide) dX8_mode_109 ?_
          exfalso
          obtain ⟨d1, d2, d3⟩ := kd
          first | (rcases d2 with d2 | d2; exact absurd d2 (by assumption); exact absurd (List.length_eq_zero_iff.mpr d2) (by assumption)) | (rcases d3 with d3 | d3; exact absurd d3 (by assumption); exact absurd (List.length_eq_zero_iff.mpr d3) (by assumption)) | exact absurd ((zPad_open (hW.pad g)).mpr d1) (by assumption)
        · skip
          refine zr_iconst (v := (1 : Int32)) X dX8_mode_70 (by decide) ?_
          refine zr_istore3 X (by decide) rfl dX8_mode_71 ?_
          refine zr_iinc4 (v := (2 : Int32)) X (by decide) (by decide) rfl dX8_mode_72 ?_
          refine zr_goto (tgt := 42) X dX8_mode_75 (by decide) ?_
          refine zr_iload4 X dX8_mode_42 ?_
          refine zr_iconst (v := (2 : Int32)) X dX8_mode_44 (by decide) ?_
          refine zr_icmp_ge (tgt := 78) X dX8_mode_45 (by decide) (fun _ => ?_) (fun h => absurd h (by decide))
          refine zr_aload0 X dX8_mode_78 ?_
          refine zr_iload3 X dX8_mode_79 ?_
          refine zr_if_ne (tgt := 96) X dX8_mode_80 (by decide) (fun _ => ?_) (fun h => absurd h (by decide))
          refine zr_iconst (v := (1 : Int32)) X dX8_mode_96 (by decide) ?_
          refine zr_goto (tgt := 101) X dX8_mode_97 (by decide) ?_
          refine zr_iconst (v := (3 : Int32)) X dX8_mode_101 (by decide) ?_
          refine zr_callV2 (rm9 := zrm_X8_fails) X hnt zm_X8_220 (by decide) (by decide) (by decide) (Nat.le_of_ble_eq_true rfl) dX8_mode_102 ?_
          refine zf1_X8_fails (zput_eq) (by decide) ?_
          refine zr_if_eq (tgt := 110) X dX8_mode_105 (by decide) (fun h => absurd h (by decide)) (fun _ => ?_)
          refine zr_iconst (v := (0 : Int32)) X dX8_mode_108 (by decide) ?_
          refine zr_iret X (by decide) (by decide) dX8_mode_109 ?_
          exfalso
          obtain ⟨d1, d2, d3⟩ := kd
          first | (rcases d2 with d2 | d2; exact absurd d2 (by assumption); exact absurd (List.length_eq_zero_iff.mpr d2) (by assumption)) | (rcases d3 with d3 | d3; exact absurd d3 (by assumption); exact absurd (List.length_eq_zero_iff.mpr d3) (by assumption)) | exact absurd ((zPad_open (hW.pad g)).mpr d1) (by assumption)
set_option maxRecDepth 20000 in
theorem zx3_X8_mode {l : Launch} {D : va_G} {b0 : Nat} {tA : Nat → ClassId} {sa sv : Nat → Nat} {K : Nat → Option Nat} {I : zI} {Qp : zI → Option AV → Prop} {Xp : String → zI → Prop} {F9 : zI} {y f : Nat} {t : Nat → Nat} {er : Int32} {S : zS} {U : List zS} {g k9 : Nat}
    (hC : zRf F9 I y t f er S U) (hg : g < zng S) (hk : k9 < 3) (kd : ¬ (sG S g 2 = 0 ∧ (qSv (nI k9) 0 ∨ sL S g 0 = []) ∧ (qSv (nI k9) 1 ∨ sL S g 1 = []))) (kx : ∀ (J : zI) (v9 : Int32), zRf F9 J y t f er S U → J y 0 = 3 → Qp J (some (vi v9))) :
    zC l D b0 tA sa sv K yX8_mode (.code yX8_mode cX8_mode 5 (some .int)) zrm_X8_mode [vr (y) 8, vi ((nI g)), vi ((nI k9))] I Qp Xp := by
  have hC1 : zRf F9 (zput I y 0 0) y t f er S U := hC.put (by decide)
  have hW := hC.2.2.2.1
  have hg6 := hW.ng.1
  have hc12 := hW.nc.1
  have hf5 := hC.1.2.1
  have hl0 := hW.len g 0
  have hl1 := hW.len g 1
  refine zC_of (by decide +kernel) (Nat.le_of_ble_eq_true rfl) ?_
  intro p e s m args below meth c X hnt
  have X : zX p l e zrm_X8_mode s m args below meth c RX8 cX8_mode 5 (some .int) D b0 tA sa sv := X
  refine zr_lv (lv2 := [some (vr (y) 8), some (vi ((nI g))), some (vi ((nI k9))), none, none]) rfl ?_
  refine zr_aload0 X dX8_mode_0 ?_
  refine zr_iconst (v := (0 : Int32)) X dX8_mode_1 (by decide) ?_
  refine zr_putI X zf_X8_31 rfl (Or.inl rfl) dX8_mode_2 ?_
  refine zr_aload0 X dX8_mode_5 ?_
  refine zr_iload1 X dX8_mode_6 ?_
  refine zr_callV1 (rm9 := zrm_X8_noGate) X hnt zm_X8_242 (by decide) (by decide) (by decide) (Nat.le_of_ble_eq_true rfl) dX8_mode_7 ?_
  refine zo_X8_noGate hC1.2.2.1 hW (zput_eq) (by omega) ?_
  refine zr_if_ne (tgt := 35) X dX8_mode_10 (by decide) (fun h => absurd h (by decide)) (fun _ => ?_)
  refine zr_aload0 X dX8_mode_13 ?_
  refine zr_iload2 X dX8_mode_14 ?_
  refine zr_iconst (v := (0 : Int32)) X dX8_mode_15 (by decide) ?_
  refine zr_iconst (v := (2 : Int32)) X dX8_mode_16 (by decide) ?_
  refine zr_callS3 (rm9 := zrm_X8_in) X hnt zm_X8_117 (by decide) (by decide) (by decide) (Nat.le_of_ble_eq_true rfl) dX8_mode_17 ?_
  refine zIo_X8_in (n := 3) (by omega) (by omega) (by rfl) ?_
  refine zr_if_ne (tgt := 27) X dX8_mode_20 (by decide) (fun _ => ?_) (fun h => absurd h (by decide))
  refine zr_iconst (v := (0 : Int32)) X dX8_mode_27 (by decide) ?_
  refine zr_iconst (v := (2 : Int32)) X dX8_mode_28 (by decide) ?_
  refine zr_callV2 (rm9 := zrm_X8_fails) X hnt zm_X8_220 (by decide) (by decide) (by decide) (Nat.le_of_ble_eq_true rfl) dX8_mode_29 ?_
  refine zf0_X8_fails (zput_eq) ?_
  refine zr_if_eq (tgt := 37) X dX8_mode_32 (by decide) (fun _ => ?_) (fun h => absurd h (by decide))
  refine zr_iconst (v := (0 : Int32)) X dX8_mode_37 (by decide) ?_
  refine zr_istore3 X (by decide) rfl dX8_mode_38 ?_
  refine zr_iconst (v := (0 : Int32)) X dX8_mode_39 (by decide) ?_
  refine zr_istore4 X (by decide) rfl dX8_mode_40 ?_
  refine zr_iload4 X dX8_mode_42 ?_
  refine zr_iconst (v := (2 : Int32)) X dX8_mode_44 (by decide) ?_
  refine zr_icmp_ge (tgt := 78) X dX8_mode_45 (by decide) (fun h => absurd h (by decide)) (fun _ => ?_)
  refine zr_iload2 X dX8_mode_48 ?_
  refine zr_iload4 X dX8_mode_49 ?_
  refine zr_callS2 (rm9 := zrm_X8_serves) X hnt zm_X8_46 (by decide) (by decide) (by decide) (Nat.le_of_ble_eq_true rfl) dX8_mode_51 ?_
  refine zq_X8_serves (s9 := 0) ?_ ?_
  · skip
    intro hs1
    refine zr_if_ne (tgt := 72) X dX8_mode_54 (by decide) (fun _ => ?_) (fun h => absurd h (by decide))
    refine zr_iinc4 (v := (1 : Int32)) X (by decide) (by decide) rfl dX8_mode_72 ?_
    refine zr_goto (tgt := 42) X dX8_mode_75 (by decide) ?_
    refine zr_iload4 X dX8_mode_42 ?_
    refine zr_iconst (v := (2 : Int32)) X dX8_mode_44 (by decide) ?_
    refine zr_icmp_ge (tgt := 78) X dX8_mode_45 (by decide) (fun h => absurd h (by decide)) (fun _ => ?_)
    refine zr_iload2 X dX8_mode_48 ?_
    refine zr_iload4 X dX8_mode_49 ?_
    refine zr_callS2 (rm9 := zrm_X8_serves) X hnt zm_X8_46 (by decide) (by decide) (by decide) (Nat.le_of_ble_eq_true rfl) dX8_mode_51 ?_
    refine zq_X8_serves (s9 := 1) ?_ ?_
    · skip
      intro hs2
      refine zr_if_ne (tgt := 72) X dX8_mode_54 (by decide) (fun _ => ?_) (fun h => absurd h (by decide))
      refine zr_iinc4 (v := (2 : Int32)) X (by decide) (by decide) rfl dX8_mode_72 ?_
      refine zr_goto (tgt := 42) X dX8_mode_75 (by decide) ?_
      refine zr_iload4 X dX8_mode_42 ?_
      refine zr_iconst (v := (2 : Int32)) X dX8_mode_44 (by decide) ?_
      refine zr_icmp_ge (tgt := 78) X dX8_mode_45 (by decide) (fun _ => ?_) (fun h => absurd h (by decide))
      refine zr_aload0 X dX8_mode_78 ?_
      refine zr_iload3 X dX8_mode_79 ?_
      refine zr_if_ne (tgt := 96) X dX8_mode_80 (by decide) (fun h => absurd h (by decide)) (fun _ => ?_)
      refine zr_aload0 X dX8_mode_83 ?_
      refine zr_getR X zf_X8_17 rfl (by decide) (by decide) dX8_mode_84 ?_
      refine zr_iload1 X dX8_mode_87 ?_
      refine zr_iconst (v := (1 : Int32)) X dX8_mode_88 (by decide) ?_
      refine zr_callS2 (rm9 := zrm_X8_gateAt) X hnt zm_X8_34 (by decide) (by decide) (by decide) (Nat.le_of_ble_eq_true rfl) dX8_mode_89 ?_
      refine zn_X8_gateAt (g := g) (w := 1) ?_
      refine zr_ialdN (n := 16 + 29 * g + 1) X rfl (show _ < 310 from (by first | assumption | omega | decide)) dX8_mode_92 ?_
      refine zr_eq (x2 := (sG S g 1)) ((hC1.2.2.1.2.1 g (by omega)).1 1 (by first | decide | omega)) ?_
      refine zr_if_le (tgt := 100) X dX8_mode_93 (by decide) (fun h3 => ?_) (fun h3 => ?_)
      · skip
        refine zr_iconst (v := (0 : Int32)) X dX8_mode_100 (by decide) ?_
        refine zr_iconst (v := (3 : Int32)) X dX8_mode_101 (by decide) ?_
        refine zr_callV2 (rm9 := zrm_X8_fails) X hnt zm_X8_220 (by decide) (by decide) (by decide) (Nat.le_of_ble_eq_true rfl) dX8_mode_102 ?_
        refine zf0_X8_fails (zput_eq) ?_
        refine zr_if_eq (tgt := 110) X dX8_mode_105 (by decide) (fun _ => ?_) (fun h => absurd h (by decide))
        refine zr_aload0 X dX8_mode_110 ?_
        refine zr_callV0 (rm9 := zrm_X8_remember) X hnt zm_X8_229 (by decide) (by decide) (by decide) (Nat.le_of_ble_eq_true rfl) dX8_mode_111 ?_
        refine zp_X8_remember hC1 ?_
        intro J84 hr85 h086 e387
        refine zr_aload0 X dX8_mode_114 ?_
        refine zr_getR X zf_X8_17 rfl (by decide) (by decide) dX8_mode_115 ?_
        refine zr_iload1 X dX8_mode_118 ?_
        refine zr_iconst (v := (0 : Int32)) X dX8_mode_119 (by decide) ?_
        refine zr_callS2 (rm9 := zrm_X8_gateAt) X hnt zm_X8_34 (by decide) (by decide) (by decide) (Nat.le_of_ble_eq_true rfl) dX8_mode_120 ?_
        refine zn_X8_gateAt (g := g) (w := 0) ?_
        refine zr_ialdN (n := 16 + 29 * g + 0) X rfl (show _ < 310 from (by first | assumption | omega | decide)) dX8_mode_123 ?_
        refine zr_eq (x2 := (sG S g 0)) ((hr85.2.2.1.2.1 g (by omega)).1 0 (by first | decide | omega)) ?_
        refine zr_istore4 X (by decide) rfl dX8_mode_124 ?_
        refine zr_aload0 X dX8_mode_126 ?_
        refine zr_getR X zf_X8_17 rfl (by decide) (by decide) dX8_mode_127 ?_
        refine zr_iload1 X dX8_mode_130 ?_
        refine zr_iconst (v := (0 : Int32)) X dX8_mode_131 (by decide) ?_
        refine zr_callS2 (rm9 := zrm_X8_gateAt) X hnt zm_X8_34 (by decide) (by decide) (by decide) (Nat.le_of_ble_eq_true rfl) dX8_mode_132 ?_
        refine zn_X8_gateAt (g := g) (w := 0) ?_
        refine zr_iload2 X dX8_mode_135 ?_
        refine zr_iastN X rfl (show _ < 310 from (by first | assumption | omega)) dX8_mode_136 ?_
        have hM_1 : zMd _ (y + 2) (tG S g 0 (nI k9)) := zMd_G hr85.2.2.1 (g := g) (j := 0) (v := (nI k9)) (by omega) (by first | decide | omega)
        refine zr_iload4 X dX8_mode_137 ?_
        refine zr_iret X (by decide) (by decide) dX8_mode_139 ?_
        exact absurd ⟨(zPad_open (hW.pad g)).mp (by assumption), by first | exact Or.inl (by assumption) | exact Or.inr (List.length_eq_zero_iff.mp (by assumption)), by first | exact Or.inl (by assumption) | exact Or.inr (List.length_eq_zero_iff.mp (by assumption))⟩ kd
      · skip
        refine zr_iconst (v := (1 : Int32)) X dX8_mode_96 (by decide) ?_
        refine zr_goto (tgt := 101) X dX8_mode_97 (by decide) ?_
        refine zr_iconst (v := (3 : Int32)) X dX8_mode_101 (by decide) ?_
        refine zr_callV2 (rm9 := zrm_X8_fails) X hnt zm_X8_220 (by decide) (by decide) (by decide) (Nat.le_of_ble_eq_true rfl) dX8_mode_102 ?_
        refine zf1_X8_fails (zput_eq) (by decide) ?_
        refine zr_if_eq (tgt := 110) X dX8_mode_105 (by decide) (fun h => absurd h (by decide)) (fun _ => ?_)
        refine zr_iconst (v := (0 : Int32)) X dX8_mode_108 (by decide) ?_
        refine zr_iret X (by decide) (by decide) dX8_mode_109 ?_
        exact kx _ _ (hC1.put (by decide)) zput_eq
    · skip
      intro hs2
      refine zr_if_ne (tgt := 72) X dX8_mode_54 (by decide) (fun h => absurd h (by decide)) (fun _ => ?_)
      refine zr_aload0 X dX8_mode_57 ?_
      refine zr_getR X zf_X8_17 rfl (by decide) (by decide) dX8_mode_58 ?_
      refine zr_iload1 X dX8_mode_61 ?_
      refine zr_iload4 X dX8_mode_62 ?_
      refine zr_callS3 (rm9 := zrm_X8_many) X hnt zm_X8_38 (by decide) (by decide) (by decide) (Nat.le_of_ble_eq_true rfl) dX8_mode_64 ?_
      refine zn_X8_many (g := g) (s9 := 1) hC1.2.2.1 (by omega) (by omega) ?_
      refine zr_nif_le X (((sL S g 1).length)) (tgt := 72) (by omega) dX8_mode_67 (by decide) (fun h4 => ?_) (fun h4 => ?_)
      · skip
        refine zr_iinc4 (v := (2 : Int32)) X (by decide) (by decide) rfl dX8_mode_72 ?_
        refine zr_goto (tgt := 42) X dX8_mode_75 (by decide) ?_
        refine zr_iload4 X dX8_mode_42 ?_
        refine zr_iconst (v := (2 : Int32)) X dX8_mode_44 (by decide) ?_
        refine zr_icmp_ge (tgt := 78) X dX8_mode_45 (by decide) (fun _ => ?_) (fun h => absurd h (by decide))
        refine zr_aload0 X dX8_mode_78 ?_
        refine zr_iload3 X dX8_mode_79 ?_
        refine zr_if_ne (tgt := 96) X dX8_mode_80 (by decide) (fun h => absurd h (by decide)) (fun _ => ?_)
        refine zr_aload0 X dX8_mode_83 ?_
        refine zr_getR X zf_X8_17 rfl (by decide) (by decide) dX8_mode_84 ?_
        refine zr_iload1 X dX8_mode_87 ?_
        refine zr_iconst (v := (1 : Int32)) X dX8_mode_88 (by decide) ?_
        refine zr_callS2 (rm9 := zrm_X8_gateAt) X hnt zm_X8_34 (by decide) (by decide) (by decide) (Nat.le_of_ble_eq_true rfl) dX8_mode_89 ?_
        refine zn_X8_gateAt (g := g) (w := 1) ?_
        refine zr_ialdN (n := 16 + 29 * g + 1) X rfl (show _ < 310 from (by first | assumption | omega | decide)) dX8_mode_92 ?_
        refine zr_eq (x2 := (sG S g 1)) ((hC1.2.2.1.2.1 g (by omega)).1 1 (by first | decide | omega)) ?_
        refine zr_if_le (tgt := 100) X dX8_mode_93 (by decide) (fun h5 => ?_) (fun h5 => ?_)
        · skip
          refine zr_iconst (v := (0 : Int32)) X dX8_mode_100 (by decide) ?_
          refine zr_iconst (v := (3 : Int32)) X dX8_mode_101 (by decide) ?_
          refine zr_callV2 (rm9 := zrm_X8_fails) X hnt zm_X8_220 (by decide) (by decide) (by decide) (Nat.le_of_ble_eq_true rfl) dX8_mode_102 ?_
          refine zf0_X8_fails (zput_eq) ?_
          refine zr_if_eq (tgt := 110) X dX8_mode_105 (by decide) (fun _ => ?_) (fun h => absurd h (by decide))
          refine zr_aload0 X dX8_mode_110 ?_
          refine zr_callV0 (rm9 := zrm_X8_remember) X hnt zm_X8_229 (by decide) (by decide) (by decide) (Nat.le_of_ble_eq_true rfl) dX8_mode_111 ?_
          refine zp_X8_remember hC1 ?_
          intro J88 hr89 h090 e391
          refine zr_aload0 X dX8_mode_114 ?_
          refine zr_getR X zf_X8_17 rfl (by decide) (by decide) dX8_mode_115 ?_
          refine zr_iload1 X dX8_mode_118 ?_
          refine zr_iconst (v := (0 : Int32)) X dX8_mode_119 (by decide) ?_
          refine zr_callS2 (rm9 := zrm_X8_gateAt) X hnt zm_X8_34 (by decide) (by decide) (by decide) (Nat.le_of_ble_eq_true rfl) dX8_mode_120 ?_
          refine zn_X8_gateAt (g := g) (w := 0) ?_
          refine zr_ialdN (n := 16 + 29 * g + 0) X rfl (show _ < 310 from (by first | assumption | omega | decide)) dX8_mode_123 ?_
          refine zr_eq (x2 := (sG S g 0)) ((hr89.2.2.1.2.1 g (by omega)).1 0 (by first | decide | omega)) ?_
          refine zr_istore4 X (by decide) rfl dX8_mode_124 ?_
          refine zr_aload0 X dX8_mode_126 ?_
          refine zr_getR X zf_X8_17 rfl (by decide) (by decide) dX8_mode_127 ?_
          refine zr_iload1 X dX8_mode_130 ?_
          refine zr_iconst (v := (0 : Int32)) X dX8_mode_131 (by decide) ?_
          refine zr_callS2 (rm9 := zrm_X8_gateAt) X hnt zm_X8_34 (by decide) (by decide) (by decide) (Nat.le_of_ble_eq_true rfl) dX8_mode_132 ?_
          refine zn_X8_gateAt (g := g) (w := 0) ?_
          refine zr_iload2 X dX8_mode_135 ?_
          refine zr_iastN X rfl (show _ < 310 from (by first | assumption | omega)) dX8_mode_136 ?_
          have hM_2 : zMd _ (y + 2) (tG S g 0 (nI k9)) := zMd_G hr89.2.2.1 (g := g) (j := 0) (v := (nI k9)) (by omega) (by first | decide | omega)
          refine zr_iload4 X dX8_mode_137 ?_
          refine zr_iret X (by decide) (by decide) dX8_mode_139 ?_
          exact absurd ⟨(zPad_open (hW.pad g)).mp (by assumption), by first | exact Or.inl (by assumption) | exact Or.inr (List.length_eq_zero_iff.mp (by assumption)), by first | exact Or.inl (by assumption) | exact Or.inr (List.length_eq_zero_iff.mp (by assumption))⟩ kd
        · skip
          refine zr_iconst (v := (1 : Int32)) X dX8_mode_96 (by decide) ?_
          refine zr_goto (tgt := 101) X dX8_mode_97 (by decide) ?_
          refine zr_iconst (v := (3 : Int32)) X dX8_mode_101 (by decide) ?_
          refine zr_callV2 (rm9 := zrm_X8_fails) X hnt zm_X8_220 (by decide) (by decide) (by decide) (Nat.le_of_ble_eq_true rfl) dX8_mode_102 ?_
          refine zf1_X8_fails (zput_eq) (by decide) ?_
          refine zr_if_eq (tgt := 110) X dX8_mode_105 (by decide) (fun h => absurd h (by decide)) (fun _ => ?_)
          refine zr_iconst (v := (0 : Int32)) X dX8_mode_108 (by decide) ?_
          refine zr_iret X (by decide) (by decide) dX8_mode_109 ?_
          exact kx _ _ (hC1.put (by decide)) zput_eq
      · skip
        refine zr_iconst (v := (1 : Int32)) X dX8_mode_70 (by decide) ?_
        refine zr_istore3 X (by decide) rfl dX8_mode_71 ?_
        refine zr_iinc4 (v := (2 : Int32)) X (by decide) (by decide) rfl dX8_mode_72 ?_
        refine zr_goto (tgt := 42) X dX8_mode_75 (by decide) ?_
        refine zr_iload4 X dX8_mode_42 ?_
        refine zr_iconst (v := (2 : Int32)) X dX8_mode_44 (by decide) ?_
        refine zr_icmp_ge (tgt := 78) X dX8_mode_45 (by decide) (fun _ => ?_) (fun h => absurd h (by decide))
        refine zr_aload0 X dX8_mode_78 ?_
        refine zr_iload3 X dX8_mode_79 ?_
        refine zr_if_ne (tgt := 96) X dX8_mode_80 (by decide) (fun _ => ?_) (fun h => absurd h (by decide))
        refine zr_iconst (v := (1 : Int32)) X dX8_mode_96 (by decide) ?_
        refine zr_goto (tgt := 101) X dX8_mode_97 (by decide) ?_
        refine zr_iconst (v := (3 : Int32)) X dX8_mode_101 (by decide) ?_
        refine zr_callV2 (rm9 := zrm_X8_fails) X hnt zm_X8_220 (by decide) (by decide) (by decide) (Nat.le_of_ble_eq_true rfl) dX8_mode_102 ?_
        refine zf1_X8_fails (zput_eq) (by decide) ?_
        refine zr_if_eq (tgt := 110) X dX8_mode_105 (by decide) (fun h => absurd h (by decide)) (fun _ => ?_)
        refine zr_iconst (v := (0 : Int32)) X dX8_mode_108 (by decide) ?_
        refine zr_iret X (by decide) (by decide) dX8_mode_109 ?_
        exact kx _ _ (hC1.put (by decide)) zput_eq
  · skip
    intro hs1
    refine zr_if_ne (tgt := 72) X dX8_mode_54 (by decide) (fun h => absurd h (by decide)) (fun _ => ?_)
    refine zr_aload0 X dX8_mode_57 ?_
    refine zr_getR X zf_X8_17 rfl (by decide) (by decide) dX8_mode_58 ?_
    refine zr_iload1 X dX8_mode_61 ?_
    refine zr_iload4 X dX8_mode_62 ?_
    refine zr_callS3 (rm9 := zrm_X8_many) X hnt zm_X8_38 (by decide) (by decide) (by decide) (Nat.le_of_ble_eq_true rfl) dX8_mode_64 ?_
    refine zn_X8_many (g := g) (s9 := 0) hC1.2.2.1 (by omega) (by omega) ?_
    refine zr_nif_le X (((sL S g 0).length)) (tgt := 72) (by omega) dX8_mode_67 (by decide) (fun h6 => ?_) (fun h6 => ?_)
    · skip
      refine zr_iinc4 (v := (1 : Int32)) X (by decide) (by decide) rfl dX8_mode_72 ?_
      refine zr_goto (tgt := 42) X dX8_mode_75 (by decide) ?_
      refine zr_iload4 X dX8_mode_42 ?_
      refine zr_iconst (v := (2 : Int32)) X dX8_mode_44 (by decide) ?_
      refine zr_icmp_ge (tgt := 78) X dX8_mode_45 (by decide) (fun h => absurd h (by decide)) (fun _ => ?_)
      refine zr_iload2 X dX8_mode_48 ?_
      refine zr_iload4 X dX8_mode_49 ?_
      refine zr_callS2 (rm9 := zrm_X8_serves) X hnt zm_X8_46 (by decide) (by decide) (by decide) (Nat.le_of_ble_eq_true rfl) dX8_mode_51 ?_
      refine zq_X8_serves (s9 := 1) ?_ ?_
      · skip
        intro hs7
        refine zr_if_ne (tgt := 72) X dX8_mode_54 (by decide) (fun _ => ?_) (fun h => absurd h (by decide))
        refine zr_iinc4 (v := (2 : Int32)) X (by decide) (by decide) rfl dX8_mode_72 ?_
        refine zr_goto (tgt := 42) X dX8_mode_75 (by decide) ?_
        refine zr_iload4 X dX8_mode_42 ?_
        refine zr_iconst (v := (2 : Int32)) X dX8_mode_44 (by decide) ?_
        refine zr_icmp_ge (tgt := 78) X dX8_mode_45 (by decide) (fun _ => ?_) (fun h => absurd h (by decide))
        refine zr_aload0 X dX8_mode_78 ?_
        refine zr_iload3 X dX8_mode_79 ?_
        refine zr_if_ne (tgt := 96) X dX8_mode_80 (by decide) (fun h => absurd h (by decide)) (fun _ => ?_)
        refine zr_aload0 X dX8_mode_83 ?_
        refine zr_getR X zf_X8_17 rfl (by decide) (by decide) dX8_mode_84 ?_
        refine zr_iload1 X dX8_mode_87 ?_
        refine zr_iconst (v := (1 : Int32)) X dX8_mode_88 (by decide) ?_
        refine zr_callS2 (rm9 := zrm_X8_gateAt) X hnt zm_X8_34 (by decide) (by decide) (by decide) (Nat.le_of_ble_eq_true rfl) dX8_mode_89 ?_
        refine zn_X8_gateAt (g := g) (w := 1) ?_
        refine zr_ialdN (n := 16 + 29 * g + 1) X rfl (show _ < 310 from (by first | assumption | omega | decide)) dX8_mode_92 ?_
        refine zr_eq (x2 := (sG S g 1)) ((hC1.2.2.1.2.1 g (by omega)).1 1 (by first | decide | omega)) ?_
        refine zr_if_le (tgt := 100) X dX8_mode_93 (by decide) (fun h8 => ?_) (fun h8 => ?_)
        · skip
          refine zr_iconst (v := (0 : Int32)) X dX8_mode_100 (by decide) ?_
          refine zr_iconst (v := (3 : Int32)) X dX8_mode_101 (by decide) ?_
          refine zr_callV2 (rm9 := zrm_X8_fails) X hnt zm_X8_220 (by decide) (by decide) (by decide) (Nat.le_of_ble_eq_true rfl) dX8_mode_102 ?_
          refine zf0_X8_fails (zput_eq) ?_
          refine zr_if_eq (tgt := 110) X dX8_mode_105 (by decide) (fun _ => ?_) (fun h => absurd h (by decide))
          refine zr_aload0 X dX8_mode_110 ?_
          refine zr_callV0 (rm9 := zrm_X8_remember) X hnt zm_X8_229 (by decide) (by decide) (by decide) (Nat.le_of_ble_eq_true rfl) dX8_mode_111 ?_
          refine zp_X8_remember hC1 ?_
          intro J92 hr93 h094 e395
          refine zr_aload0 X dX8_mode_114 ?_
          refine zr_getR X zf_X8_17 rfl (by decide) (by decide) dX8_mode_115 ?_
          refine zr_iload1 X dX8_mode_118 ?_
          refine zr_iconst (v := (0 : Int32)) X dX8_mode_119 (by decide) ?_
          refine zr_callS2 (rm9 := zrm_X8_gateAt) X hnt zm_X8_34 (by decide) (by decide) (by decide) (Nat.le_of_ble_eq_true rfl) dX8_mode_120 ?_
          refine zn_X8_gateAt (g := g) (w := 0) ?_
          refine zr_ialdN (n := 16 + 29 * g + 0) X rfl (show _ < 310 from (by first | assumption | omega | decide)) dX8_mode_123 ?_
          refine zr_eq (x2 := (sG S g 0)) ((hr93.2.2.1.2.1 g (by omega)).1 0 (by first | decide | omega)) ?_
          refine zr_istore4 X (by decide) rfl dX8_mode_124 ?_
          refine zr_aload0 X dX8_mode_126 ?_
          refine zr_getR X zf_X8_17 rfl (by decide) (by decide) dX8_mode_127 ?_
          refine zr_iload1 X dX8_mode_130 ?_
          refine zr_iconst (v := (0 : Int32)) X dX8_mode_131 (by decide) ?_
          refine zr_callS2 (rm9 := zrm_X8_gateAt) X hnt zm_X8_34 (by decide) (by decide) (by decide) (Nat.le_of_ble_eq_true rfl) dX8_mode_132 ?_
          refine zn_X8_gateAt (g := g) (w := 0) ?_
          refine zr_iload2 X dX8_mode_135 ?_
          refine zr_iastN X rfl (show _ < 310 from (by first | assumption | omega)) dX8_mode_136 ?_
          have hM_3 : zMd _ (y + 2) (tG S g 0 (nI k9)) := zMd_G hr93.2.2.1 (g := g) (j := 0) (v := (nI k9)) (by omega) (by first | decide | omega)
          refine zr_iload4 X dX8_mode_137 ?_
          refine zr_iret X (by decide) (by decide) dX8_mode_139 ?_
          exact absurd ⟨(zPad_open (hW.pad g)).mp (by assumption), by first | exact Or.inl (by assumption) | exact Or.inr (List.length_eq_zero_iff.mp (by assumption)), by first | exact Or.inl (by assumption) | exact Or.inr (List.length_eq_zero_iff.mp (by assumption))⟩ kd
        · skip
          refine zr_iconst (v := (1 : Int32)) X dX8_mode_96 (by decide) ?_
          refine zr_goto (tgt := 101) X dX8_mode_97 (by decide) ?_
          refine zr_iconst (v := (3 : Int32)) X dX8_mode_101 (by decide) ?_
          refine zr_callV2 (rm9 := zrm_X8_fails) X hnt zm_X8_220 (by decide) (by decide) (by decide) (Nat.le_of_ble_eq_true rfl) dX8_mode_102 ?_
          refine zf1_X8_fails (zput_eq) (by decide) ?_
          refine zr_if_eq (tgt := 110) X dX8_mode_105 (by decide) (fun h => absurd h (by decide)) (fun _ => ?_)
          refine zr_iconst (v := (0 : Int32)) X dX8_mode_108 (by decide) ?_
          refine zr_iret X (by decide) (by decide) dX8_mode_109 ?_
          exact kx _ _ (hC1.put (by decide)) zput_eq
      · skip
        intro hs7
        refine zr_if_ne (tgt := 72) X dX8_mode_54 (by decide) (fun h => absurd h (by decide)) (fun _ => ?_)
        refine zr_aload0 X dX8_mode_57 ?_
        refine zr_getR X zf_X8_17 rfl (by decide) (by decide) dX8_mode_58 ?_
        refine zr_iload1 X dX8_mode_61 ?_
        refine zr_iload4 X dX8_mode_62 ?_
        refine zr_callS3 (rm9 := zrm_X8_many) X hnt zm_X8_38 (by decide) (by decide) (by decide) (Nat.le_of_ble_eq_true rfl) dX8_mode_64 ?_
        refine zn_X8_many (g := g) (s9 := 1) hC1.2.2.1 (by omega) (by omega) ?_
        refine zr_nif_le X (((sL S g 1).length)) (tgt := 72) (by omega) dX8_mode_67 (by decide) (fun h9 => ?_) (fun h9 => ?_)
        · skip
          refine zr_iinc4 (v := (2 : Int32)) X (by decide) (by decide) rfl dX8_mode_72 ?_
          refine zr_goto (tgt := 42) X dX8_mode_75 (by decide) ?_
          refine zr_iload4 X dX8_mode_42 ?_
          refine zr_iconst (v := (2 : Int32)) X dX8_mode_44 (by decide) ?_
          refine zr_icmp_ge (tgt := 78) X dX8_mode_45 (by decide) (fun _ => ?_) (fun h => absurd h (by decide))
          refine zr_aload0 X dX8_mode_78 ?_
          refine zr_iload3 X dX8_mode_79 ?_
          refine zr_if_ne (tgt := 96) X dX8_mode_80 (by decide) (fun h => absurd h (by decide)) (fun _ => ?_)
          refine zr_aload0 X dX8_mode_83 ?_
          refine zr_getR X zf_X8_17 rfl (by decide) (by decide) dX8_mode_84 ?_
          refine zr_iload1 X dX8_mode_87 ?_
          refine zr_iconst (v := (1 : Int32)) X dX8_mode_88 (by decide) ?_
          refine zr_callS2 (rm9 := zrm_X8_gateAt) X hnt zm_X8_34 (by decide) (by decide) (by decide) (Nat.le_of_ble_eq_true rfl) dX8_mode_89 ?_
          refine zn_X8_gateAt (g := g) (w := 1) ?_
          refine zr_ialdN (n := 16 + 29 * g + 1) X rfl (show _ < 310 from (by first | assumption | omega | decide)) dX8_mode_92 ?_
          refine zr_eq (x2 := (sG S g 1)) ((hC1.2.2.1.2.1 g (by omega)).1 1 (by first | decide | omega)) ?_
          refine zr_if_le (tgt := 100) X dX8_mode_93 (by decide) (fun h10 => ?_) (fun h10 => ?_)
          · skip
            refine zr_iconst (v := (0 : Int32)) X dX8_mode_100 (by decide) ?_
            refine zr_iconst (v := (3 : Int32)) X dX8_mode_101 (by decide) ?_
            refine zr_callV2 (rm9 := zrm_X8_fails) X hnt zm_X8_220 (by decide) (by decide) (by decide) (Nat.le_of_ble_eq_true rfl) dX8_mode_102 ?_
            refine zf0_X8_fails (zput_eq) ?_
            refine zr_if_eq (tgt := 110) X dX8_mode_105 (by decide) (fun _ => ?_) (fun h => absurd h (by decide))
            refine zr_aload0 X dX8_mode_110 ?_
            refine zr_callV0 (rm9 := zrm_X8_remember) X hnt zm_X8_229 (by decide) (by decide) (by decide) (Nat.le_of_ble_eq_true rfl) dX8_mode_111 ?_
            refine zp_X8_remember hC1 ?_
            intro J96 hr97 h098 e399
            refine zr_aload0 X dX8_mode_114 ?_
            refine zr_getR X zf_X8_17 rfl (by decide) (by decide) dX8_mode_115 ?_
            refine zr_iload1 X dX8_mode_118 ?_
            refine zr_iconst (v := (0 : Int32)) X dX8_mode_119 (by decide) ?_
            refine zr_callS2 (rm9 := zrm_X8_gateAt) X hnt zm_X8_34 (by decide) (by decide) (by decide) (Nat.le_of_ble_eq_true rfl) dX8_mode_120 ?_
            refine zn_X8_gateAt (g := g) (w := 0) ?_
            refine zr_ialdN (n := 16 + 29 * g + 0) X rfl (show _ < 310 from (by first | assumption | omega | decide)) dX8_mode_123 ?_
            refine zr_eq (x2 := (sG S g 0)) ((hr97.2.2.1.2.1 g (by omega)).1 0 (by first | decide | omega)) ?_
            refine zr_istore4 X (by decide) rfl dX8_mode_124 ?_
            refine zr_aload0 X dX8_mode_126 ?_
            refine zr_getR X zf_X8_17 rfl (by decide) (by decide) dX8_mode_127 ?_
            refine zr_iload1 X dX8_mode_130 ?_
            refine zr_iconst (v := (0 : Int32)) X dX8_mode_131 (by decide) ?_
            refine zr_callS2 (rm9 := zrm_X8_gateAt) X hnt zm_X8_34 (by decide) (by decide) (by decide) (Nat.le_of_ble_eq_true rfl) dX8_mode_132 ?_
            refine zn_X8_gateAt (g := g) (w := 0) ?_
            refine zr_iload2 X dX8_mode_135 ?_
            refine zr_iastN X rfl (show _ < 310 from (by first | assumption | omega)) dX8_mode_136 ?_
            have hM_4 : zMd _ (y + 2) (tG S g 0 (nI k9)) := zMd_G hr97.2.2.1 (g := g) (j := 0) (v := (nI k9)) (by omega) (by first | decide | omega)
            refine zr_iload4 X dX8_mode_137 ?_
            refine zr_iret X (by decide) (by decide) dX8_mode_139 ?_
            exact absurd ⟨(zPad_open (hW.pad g)).mp (by assumption), by first | exact Or.inl (by assumption) | exact Or.inr (List.length_eq_zero_iff.mp (by assumption)), by first | exact Or.inl (by assumption) | exact Or.inr (List.length_eq_zero_iff.mp (by assumption))⟩ kd
          · skip
            refine zr_iconst (v := (1 : Int32)) X dX8_mode_96 (by decide) ?_
            refine zr_goto (tgt := 101) X dX8_mode_97 (by decide) ?_
            refine zr_iconst (v := (3 : Int32)) X dX8_mode_101 (by decide) ?_
            refine zr_callV2 (rm9 := zrm_X8_fails) X hnt zm_X8_220 (by decide) (by decide) (by decide) (Nat.le_of_ble_eq_true rfl) dX8_mode_102 ?_
            refine zf1_X8_fails (zput_eq) (by decide) ?_
            refine zr_if_eq (tgt := 110) X dX8_mode_105 (by decide) (fun h => absurd h (by decide)) (fun _ => ?_)
            refine zr_iconst (v := (0 : Int32)) X dX8_mode_108 (by decide) ?_
            refine zr_iret X (by decide) (by decide) dX8_mode_109 ?_
            exact kx _ _ (hC1.put (by decide)) zput_eq
        · skip
          refine zr_iconst (v := (1 : Int32)) X dX8_mode_70 (by decide) ?_
          refine zr_istore3 X (by decide) rfl dX8_mode_71 ?_
          refine zr_iinc4 (v := (2 : Int32)) X (by decide) (by decide) rfl dX8_mode_72 ?_
          refine zr_goto (tgt := 42) X dX8_mode_75 (by decide) ?_
          refine zr_iload4 X dX8_mode_42 ?_
          refine zr_iconst (v := (2 : Int32)) X dX8_mode_44 (by decide) ?_
          refine zr_icmp_ge (tgt := 78) X dX8_mode_45 (by decide) (fun _ => ?_) (fun h => absurd h (by decide))
          refine zr_aload0 X dX8_mode_78 ?_
          refine zr_iload3 X dX8_mode_79 ?_
          refine zr_if_ne (tgt := 96) X dX8_mode_80 (by decide) (fun _ => ?_) (fun h => absurd h (by decide))
          refine zr_iconst (v := (1 : Int32)) X dX8_mode_96 (by decide) ?_
          refine zr_goto (tgt := 101) X dX8_mode_97 (by decide) ?_
          refine zr_iconst (v := (3 : Int32)) X dX8_mode_101 (by decide) ?_
          refine zr_callV2 (rm9 := zrm_X8_fails) X hnt zm_X8_220 (by decide) (by decide) (by decide) (Nat.le_of_ble_eq_true rfl) dX8_mode_102 ?_
          refine zf1_X8_fails (zput_eq) (by decide) ?_
          refine zr_if_eq (tgt := 110) X dX8_mode_105 (by decide) (fun h => absurd h (by decide)) (fun _ => ?_)
          refine zr_iconst (v := (0 : Int32)) X dX8_mode_108 (by decide) ?_
          refine zr_iret X (by decide) (by decide) dX8_mode_109 ?_
          exact kx _ _ (hC1.put (by decide)) zput_eq
    · skip
      refine zr_iconst (v := (1 : Int32)) X dX8_mode_70 (by decide) ?_
      refine zr_istore3 X (by decide) rfl dX8_mode_71 ?_
      refine zr_iinc4 (v := (1 : Int32)) X (by decide) (by decide) rfl dX8_mode_72 ?_
      refine zr_goto (tgt := 42) X dX8_mode_75 (by decide) ?_
      refine zr_iload4 X dX8_mode_42 ?_
      refine zr_iconst (v := (2 : Int32)) X dX8_mode_44 (by decide) ?_
      refine zr_icmp_ge (tgt := 78) X dX8_mode_45 (by decide) (fun h => absurd h (by decide)) (fun _ => ?_)
      refine zr_iload2 X dX8_mode_48 ?_
      refine zr_iload4 X dX8_mode_49 ?_
      refine zr_callS2 (rm9 := zrm_X8_serves) X hnt zm_X8_46 (by decide) (by decide) (by decide) (Nat.le_of_ble_eq_true rfl) dX8_mode_51 ?_
      refine zq_X8_serves (s9 := 1) ?_ ?_
      · skip
        intro hs11
        refine zr_if_ne (tgt := 72) X dX8_mode_54 (by decide) (fun _ => ?_) (fun h => absurd h (by decide))
        refine zr_iinc4 (v := (2 : Int32)) X (by decide) (by decide) rfl dX8_mode_72 ?_
        refine zr_goto (tgt := 42) X dX8_mode_75 (by decide) ?_
        refine zr_iload4 X dX8_mode_42 ?_
        refine zr_iconst (v := (2 : Int32)) X dX8_mode_44 (by decide) ?_
        refine zr_icmp_ge (tgt := 78) X dX8_mode_45 (by decide) (fun _ => ?_) (fun h => absurd h (by decide))
        refine zr_aload0 X dX8_mode_78 ?_
        refine zr_iload3 X dX8_mode_79 ?_
        refine zr_if_ne (tgt := 96) X dX8_mode_80 (by decide) (fun _ => ?_) (fun h => absurd h (by decide))
        refine zr_iconst (v := (1 : Int32)) X dX8_mode_96 (by decide) ?_
        refine zr_goto (tgt := 101) X dX8_mode_97 (by decide) ?_
        refine zr_iconst (v := (3 : Int32)) X dX8_mode_101 (by decide) ?_
        refine zr_callV2 (rm9 := zrm_X8_fails) X hnt zm_X8_220 (by decide) (by decide) (by decide) (Nat.le_of_ble_eq_true rfl) dX8_mode_102 ?_
        refine zf1_X8_fails (zput_eq) (by decide) ?_
        refine zr_if_eq (tgt := 110) X dX8_mode_105 (by decide) (fun h => absurd h (by decide)) (fun _ => ?_)
        refine zr_iconst (v := (0 : Int32)) X dX8_mode_108 (by decide) ?_
        refine zr_iret X (by decide) (by decide) dX8_mode_109 ?_
        exact kx _ _ (hC1.put (by decide)) zput_eq
      · skip
        intro hs11
        refine zr_if_ne (tgt := 72) X dX8_mode_54 (by decide) (fun h => absurd h (by decide)) (fun _ => ?_)
        refine zr_aload0 X dX8_mode_57 ?_
        refine zr_getR X zf_X8_17 rfl (by decide) (by decide) dX8_mode_58 ?_
        refine zr_iload1 X dX8_mode_61 ?_
        refine zr_iload4 X dX8_mode_62 ?_
        refine zr_callS3 (rm9 := zrm_X8_many) X hnt zm_X8_38 (by decide) (by decide) (by decide) (Nat.le_of_ble_eq_true rfl) dX8_mode_64 ?_
        refine zn_X8_many (g := g) (s9 := 1) hC1.2.2.1 (by omega) (by omega) ?_
        refine zr_nif_le X (((sL S g 1).length)) (tgt := 72) (by omega) dX8_mode_67 (by decide) (fun h12 => ?_) (fun h12 => ?_)
        · skip
          refine zr_iinc4 (v := (2 : Int32)) X (by decide) (by decide) rfl dX8_mode_72 ?_
          refine zr_goto (tgt := 42) X dX8_mode_75 (by decide) ?_
          refine zr_iload4 X dX8_mode_42 ?_
          refine zr_iconst (v := (2 : Int32)) X dX8_mode_44 (by decide) ?_
          refine zr_icmp_ge (tgt := 78) X dX8_mode_45 (by decide) (fun _ => ?_) (fun h => absurd h (by decide))
          refine zr_aload0 X dX8_mode_78 ?_
          refine zr_iload3 X dX8_mode_79 ?_
          refine zr_if_ne (tgt := 96) X dX8_mode_80 (by decide) (fun _ => ?_) (fun h => absurd h (by decide))
          refine zr_iconst (v := (1 : Int32)) X dX8_mode_96 (by decide) ?_
          refine zr_goto (tgt := 101) X dX8_mode_97 (by decide) ?_
          refine zr_iconst (v := (3 : Int32)) X dX8_mode_101 (by decide) ?_
          refine zr_callV2 (rm9 := zrm_X8_fails) X hnt zm_X8_220 (by decide) (by decide) (by decide) (Nat.le_of_ble_eq_true rfl) dX8_mode_102 ?_
          refine zf1_X8_fails (zput_eq) (by decide) ?_
          refine zr_if_eq (tgt := 110) X dX8_mode_105 (by decide) (fun h => absurd h (by decide)) (fun _ => ?_)
          refine zr_iconst (v := (0 : Int32)) X dX8_mode_108 (by decide) ?_
          refine zr_iret X (by decide) (by decide) dX8_mode_109 ?_
          exact kx _ _ (hC1.put (by decide)) zput_eq
        · skip
          refine zr_iconst (v := (1 : Int32)) X dX8_mode_70 (by decide) ?_
          refine zr_istore3 X (by decide) rfl dX8_mode_71 ?_
          refine zr_iinc4 (v := (2 : Int32)) X (by decide) (by decide) rfl dX8_mode_72 ?_
          refine zr_goto (tgt := 42) X dX8_mode_75 (by decide) ?_
          refine zr_iload4 X dX8_mode_42 ?_
          refine zr_iconst (v := (2 : Int32)) X dX8_mode_44 (by decide) ?_
          refine zr_icmp_ge (tgt := 78) X dX8_mode_45 (by decide) (fun _ => ?_) (fun h => absurd h (by decide))
          refine zr_aload0 X dX8_mode_78 ?_
          refine zr_iload3 X dX8_mode_79 ?_
          refine zr_if_ne (tgt := 96) X dX8_mode_80 (by decide) (fun _ => ?_) (fun h => absurd h (by decide))
          refine zr_iconst (v := (1 : Int32)) X dX8_mode_96 (by decide) ?_
          refine zr_goto (tgt := 101) X dX8_mode_97 (by decide) ?_
          refine zr_iconst (v := (3 : Int32)) X dX8_mode_101 (by decide) ?_
          refine zr_callV2 (rm9 := zrm_X8_fails) X hnt zm_X8_220 (by decide) (by decide) (by decide) (Nat.le_of_ble_eq_true rfl) dX8_mode_102 ?_
          refine zf1_X8_fails (zput_eq) (by decide) ?_
          refine zr_if_eq (tgt := 110) X dX8_mode_105 (by decide) (fun h => absurd h (by decide)) (fun _ => ?_)
          refine zr_iconst (v := (0 : Int32)) X dX8_mode_108 (by decide) ?_
          refine zr_iret X (by decide) (by decide) dX8_mode_109 ?_
          exact kx _ _ (hC1.put (by decide)) zput_eq
set_option maxRecDepth 20000 in
theorem zx2_X8_mode {l : Launch} {D : va_G} {b0 : Nat} {tA : Nat → ClassId} {sa sv : Nat → Nat} {K : Nat → Option Nat} {I : zI} {Qp : zI → Option AV → Prop} {Xp : String → zI → Prop} {F9 : zI} {y f : Nat} {t : Nat → Nat} {er : Int32} {S : zS} {U : List zS} {g : Nat} {v : Int32}
    (hC : zRf F9 I y t f er S U) (hg : g < zng S) (hb : vIdx v (3) = none) (kx : ∀ (J : zI) (v9 : Int32), zRf F9 J y t f er S U → J y 0 = 2 → Qp J (some (vi v9))) :
    zC l D b0 tA sa sv K yX8_mode (.code yX8_mode cX8_mode 5 (some .int)) zrm_X8_mode [vr (y) 8, vi ((nI g)), vi (v)] I Qp Xp := by
  have hC1 : zRf F9 (zput I y 0 0) y t f er S U := hC.put (by decide)
  have hW := hC.2.2.2.1
  have hg6 := hW.ng.1
  have hc12 := hW.nc.1
  have hf5 := hC.1.2.1
  refine zC_of (by decide +kernel) (Nat.le_of_ble_eq_true rfl) ?_
  intro p e s m args below meth c X hnt
  have X : zX p l e zrm_X8_mode s m args below meth c RX8 cX8_mode 5 (some .int) D b0 tA sa sv := X
  refine zr_lv (lv2 := [some (vr (y) 8), some (vi ((nI g))), some (vi (v)), none, none]) rfl ?_
  refine zr_aload0 X dX8_mode_0 ?_
  refine zr_iconst (v := (0 : Int32)) X dX8_mode_1 (by decide) ?_
  refine zr_putI X zf_X8_31 rfl (Or.inl rfl) dX8_mode_2 ?_
  refine zr_aload0 X dX8_mode_5 ?_
  refine zr_iload1 X dX8_mode_6 ?_
  refine zr_callV1 (rm9 := zrm_X8_noGate) X hnt zm_X8_242 (by decide) (by decide) (by decide) (Nat.le_of_ble_eq_true rfl) dX8_mode_7 ?_
  refine zo_X8_noGate hC1.2.2.1 hW (zput_eq) (by omega) ?_
  refine zr_if_ne (tgt := 35) X dX8_mode_10 (by decide) (fun h => absurd h (by decide)) (fun _ => ?_)
  refine zr_aload0 X dX8_mode_13 ?_
  refine zr_iload2 X dX8_mode_14 ?_
  refine zr_iconst (v := (0 : Int32)) X dX8_mode_15 (by decide) ?_
  refine zr_iconst (v := (2 : Int32)) X dX8_mode_16 (by decide) ?_
  refine zr_callS3 (rm9 := zrm_X8_in) X hnt zm_X8_117 (by decide) (by decide) (by decide) (Nat.le_of_ble_eq_true rfl) dX8_mode_17 ?_
  refine zIx_X8_in (n := 3) (by assumption) (by omega) (by rfl) ?_
  refine zr_if_ne (tgt := 27) X dX8_mode_20 (by decide) (fun h => absurd h (by decide)) (fun _ => ?_)
  refine zr_iconst (v := (1 : Int32)) X dX8_mode_23 (by decide) ?_
  refine zr_goto (tgt := 28) X dX8_mode_24 (by decide) ?_
  refine zr_iconst (v := (2 : Int32)) X dX8_mode_28 (by decide) ?_
  refine zr_callV2 (rm9 := zrm_X8_fails) X hnt zm_X8_220 (by decide) (by decide) (by decide) (Nat.le_of_ble_eq_true rfl) dX8_mode_29 ?_
  refine zf1_X8_fails (zput_eq) (by decide) ?_
  refine zr_if_eq (tgt := 37) X dX8_mode_32 (by decide) (fun h => absurd h (by decide)) (fun _ => ?_)
  refine zr_iconst (v := (0 : Int32)) X dX8_mode_35 (by decide) ?_
  refine zr_iret X (by decide) (by decide) dX8_mode_36 ?_
  exact kx _ _ (hC1.put (by decide)) zput_eq
set_option maxRecDepth 20000 in
theorem zx1_X8_mode {l : Launch} {D : va_G} {b0 : Nat} {tA : Nat → ClassId} {sa sv : Nat → Nat} {K : Nat → Option Nat} {I : zI} {Qp : zI → Option AV → Prop} {Xp : String → zI → Prop} {F9 : zI} {y f : Nat} {t : Nat → Nat} {er : Int32} {S : zS} {U : List zS} {u v : Int32}
    (hC : zRf F9 I y t f er S U) (hb : vIdx u (zng S) = none) (kx : ∀ (J : zI) (v9 : Int32), zRf F9 J y t f er S U → J y 0 = 1 → Qp J (some (vi v9))) :
    zC l D b0 tA sa sv K yX8_mode (.code yX8_mode cX8_mode 5 (some .int)) zrm_X8_mode [vr (y) 8, vi (u), vi (v)] I Qp Xp := by
  have hC1 : zRf F9 (zput I y 0 0) y t f er S U := hC.put (by decide)
  have hW := hC.2.2.2.1
  have hg6 := hW.ng.1
  have hc12 := hW.nc.1
  have hf5 := hC.1.2.1
  refine zC_of (by decide +kernel) (Nat.le_of_ble_eq_true rfl) ?_
  intro p e s m args below meth c X hnt
  have X : zX p l e zrm_X8_mode s m args below meth c RX8 cX8_mode 5 (some .int) D b0 tA sa sv := X
  refine zr_lv (lv2 := [some (vr (y) 8), some (vi (u)), some (vi (v)), none, none]) rfl ?_
  refine zr_aload0 X dX8_mode_0 ?_
  refine zr_iconst (v := (0 : Int32)) X dX8_mode_1 (by decide) ?_
  refine zr_putI X zf_X8_31 rfl (Or.inl rfl) dX8_mode_2 ?_
  refine zr_aload0 X dX8_mode_5 ?_
  refine zr_iload1 X dX8_mode_6 ?_
  refine zr_callV1 (rm9 := zrm_X8_noGate) X hnt zm_X8_242 (by decide) (by decide) (by decide) (Nat.le_of_ble_eq_true rfl) dX8_mode_7 ?_
  refine zx_X8_noGate hC1.2.2.1 hW (zput_eq) (by assumption) ?_
  refine zr_if_ne (tgt := 35) X dX8_mode_10 (by decide) (fun _ => ?_) (fun h => absurd h (by decide))
  refine zr_iconst (v := (0 : Int32)) X dX8_mode_35 (by decide) ?_
  refine zr_iret X (by decide) (by decide) dX8_mode_36 ?_
  exact kx _ _ (hC1.put (by decide)) zput_eq
theorem zq_X8_mode {l : Launch} {D : va_G} {b0 : Nat} {tA : Nat → ClassId} {sa sv : Nat → Nat} {K : Nat → Option Nat} {I : zI} {Qp : zI → Option AV → Prop} {Xp : String → zI → Prop} {F9 : zI} {y f : Nat} {t : Nat → Nat} {er : Int32} {S : zS} {U : List zS} {u v : Int32}
    (hC : zRf F9 I y t f er S U) (k0 : (rMode S u v).1 = 0 → ∀ J : zI, zRf F9 J y t f er (sMode S u v) (qPush S U) → J y 0 = 0 → Qp J (some (vi (rMode S u v).2))) (kx1 : (rMode S u v).1 = 1 → ∀ (J : zI) (v9 : Int32), zRf F9 J y t f er S U → J y 0 = 1 → Qp J (some (vi v9))) (kx2 : (rMode S u v).1 = 2 → ∀ (J : zI) (v9 : Int32), zRf F9 J y t f er S U → J y 0 = 2 → Qp J (some (vi v9))) (kx3 : (rMode S u v).1 = 3 → ∀ (J : zI) (v9 : Int32), zRf F9 J y t f er S U → J y 0 = 3 → Qp J (some (vi v9))) :
    zC l D b0 tA sa sv K yX8_mode (.code yX8_mode cX8_mode 5 (some .int)) zrm_X8_mode [vr (y) 8, vi (u), vi (v)] I Qp Xp := by
  unfold rMode at k0 kx1 kx2 kx3
  unfold sMode at k0
  cases e1 : vIdx u (zng S) with
  | none => rw [e1] at kx1; exact zx1_X8_mode hC e1 (kx1 rfl)
  | some g =>
    rw [e1] at k0 kx2 kx3
    obtain ⟨h1, rfl⟩ := vIdx_some e1
    cases e2 : vIdx v 3 with
    | none => simp only [e2] at kx2; exact zx2_X8_mode hC h1 e2 (kx2 (by first | rfl | trivial))
    | some k =>
      simp only [e2] at k0 kx3
      obtain ⟨h2, rfl⟩ := vIdx_some e2
      by_cases h3 : sG S g 2 = 0 ∧ (qSv (nI k) 0 ∨ sL S g 0 = []) ∧ (qSv (nI k) 1 ∨ sL S g 1 = [])
      · rw [if_pos h3] at k0; exact zo_X8_mode hC h1 h2 h3 (k0 rfl)
      · rw [if_neg h3] at kx3; exact zx3_X8_mode hC h1 h2 h3 (kx3 rfl)
abbrev zrm_X8_list : Room := { frames := 2, cells := 0, slots := 0, locals := 43 }
set_option maxRecDepth 20000 in
theorem zl_X8_list {l : Launch} {D : va_G} {b0 : Nat} {tA : Nat → ClassId} {sa sv : Nat → Nat} {K : Nat → Option Nat} {I : zI} {Qp : zI → Option AV → Prop} {Xp : String → zI → Prop} {p : Program} {e : Env} {s : State} {m : MethodId} {args : Array Value} {below : List Frame} {meth : Method} {c : Code} {y c9 : Nat} {b : Int32} {T : zS}
    (X : zX p l e zrm_X8_list s m args below meth c RX8 cX8_list 5 (some .int) D b0 tA sa sv) (hnt : ∀ x ∈ c.exceptionTable.toList, False) (hM : zMd I (y + 2) T) (hW : zWf T) (k1 : Qp I (some (vi (nI (qListed T))))) :
    ∀ (n : Nat) (j : Nat) (x : Int32), j ≤ znc T → x = nI (nsum (fun c => if sC T c 2 = 1 then 1 else 0) j) → znc T - j < n → zG p l e zrm_X8_list s m args below meth c 5 D b0 tA sa 0 0 (zQ below D b0 tA sa K args s zrm_X8_list Qp Xp) K 43 [some (vr (y) 8), some (vi ((nI c9))), some (vi (b)), some (vi (x)), some (vi ((nI j)))] [] I := by
  intro n
  induction n with
  | zero => intro j x i1 i2 i9; exact absurd i9 (Nat.not_lt_zero _)
  | succ n ih =>
    intro j x i1 i2 i9
    have hg6 := hW.ng.1
    have hc12 := hW.nc.1
    refine zr_iload4 X dX8_list_43 ?_
    refine zr_aload0 X dX8_list_45 ?_
    refine zr_getR X zf_X8_17 rfl (by decide) (by decide) dX8_list_46 ?_
    refine zr_iconst (v := (5 : Int32)) X dX8_list_49 (by decide) ?_
    refine zr_ialdN (n := 5) X rfl (show _ < 310 from (by first | assumption | omega | decide)) dX8_list_50 ?_
    refine zr_eq (x2 := (sX T 5)) (hM.1 5 (by decide)) ?_
    refine zr_eq (x2 := (nI (znc T))) (hW.nc.2) ?_
    refine zr_nicmp_ge X (j) ((znc T)) (tgt := 74) (by omega) (by omega) dX8_list_51 (by decide) (fun h1 => ?_) (fun h1 => ?_)
    · skip
      refine zr_iload3 X dX8_list_74 ?_
      refine zr_iret X (by decide) (by decide) dX8_list_75 ?_
      have e8 : qListed T = nsum (fun c => if sC T c 2 = 1 then 1 else 0) (znc T) := nsum_tail (f := fun c => if sC T c 2 = 1 then 1 else 0) (fun i hi => by show (if sC T i 2 = 1 then 1 else 0) = 0; rw [(hW.blankc i hi).1 2, if_neg (by decide)]) 12 hW.nc.1
      have e9 : x = nI (qListed T) := by rw [i2, e8, show j = znc T by omega]
      rw [e9]; exact k1
    · skip
      refine zr_iload3 X dX8_list_54 ?_
      refine zr_aload0 X dX8_list_55 ?_
      refine zr_getR X zf_X8_17 rfl (by decide) (by decide) dX8_list_56 ?_
      refine zr_iload4 X dX8_list_59 ?_
      refine zr_iconst (v := (2 : Int32)) X dX8_list_61 (by decide) ?_
      refine zr_callS2 (rm9 := zrm_X8_cardAt) X hnt zm_X8_61 (by decide) (by decide) (by decide) (Nat.le_of_ble_eq_true rfl) dX8_list_62 ?_
      refine zn_X8_cardAt (g := j) (w := 2) ?_
      refine zr_ialdN (n := 190 + 10 * j + 2) X rfl (show _ < 310 from (by first | assumption | omega | decide)) dX8_list_65 ?_
      refine zr_eq (x2 := (sC T j 2)) ((hM.2.2 j (by omega)).1 2 (by decide)) ?_
      refine zr_iadd X dX8_list_66 ?_
      refine zr_istore3 X (by decide) rfl dX8_list_67 ?_
      refine zr_iinc4 (v := (nI (j + 1))) X (show nI (j) + Int32.ofInt 1 = nI (j + 1) from nI_1 (j)) (by decide) rfl dX8_list_68 ?_
      refine zr_goto (tgt := 43) X dX8_list_71 (by decide) ?_
      refine ih (j + 1) _ (by omega) ?_ (by omega)
      rw [i2]; show _ = nI (nsum (fun c => if sC T c 2 = 1 then 1 else 0) j + (if sC T j 2 = 1 then 1 else 0))
      rcases (hW.bits j).2 with b9 | b9
      · rw [b9, if_neg (by decide)]; exact nI_add _ 0
      · rw [b9, if_pos rfl]; exact nI_add _ 1
set_option maxRecDepth 20000 in
theorem zo0_X8_list {l : Launch} {D : va_G} {b0 : Nat} {tA : Nat → ClassId} {sa sv : Nat → Nat} {K : Nat → Option Nat} {I : zI} {Qp : zI → Option AV → Prop} {Xp : String → zI → Prop} {F9 : zI} {y f : Nat} {t : Nat → Nat} {er : Int32} {S : zS} {U : List zS} {c9 : Nat}
    (hC : zRf F9 I y t f er S U) (hc : c9 < znc S) (k1 : ∀ J : zI, zRf F9 J y t f er (tC S c9 2 0) (qPush S U) → J y 0 = 0 → Qp J (some (vi (nI (qListed (tC S c9 2 0)))))) :
    zC l D b0 tA sa sv K yX8_list (.code yX8_list cX8_list 5 (some .int)) zrm_X8_list [vr (y) 8, vi ((nI c9)), vi ((0 : Int32))] I Qp Xp := by
  have hC1 : zRf F9 (zput I y 0 0) y t f er S U := hC.put (by decide)
  have hW := hC.2.2.2.1
  have hg6 := hW.ng.1
  have hc12 := hW.nc.1
  have hf5 := hC.1.2.1
  refine zC_of (by decide +kernel) (Nat.le_of_ble_eq_true rfl) ?_
  intro p e s m args below meth c X hnt
  have X : zX p l e zrm_X8_list s m args below meth c RX8 cX8_list 5 (some .int) D b0 tA sa sv := X
  refine zr_lv (lv2 := [some (vr (y) 8), some (vi ((nI c9))), some (vi ((0 : Int32))), none, none]) rfl ?_
  refine zr_aload0 X dX8_list_0 ?_
  refine zr_iconst (v := (0 : Int32)) X dX8_list_1 (by decide) ?_
  refine zr_putI X zf_X8_31 rfl (Or.inl rfl) dX8_list_2 ?_
  refine zr_aload0 X dX8_list_5 ?_
  refine zr_iload1 X dX8_list_6 ?_
  refine zr_callV1 (rm9 := zrm_X8_noCard) X hnt zm_X8_248 (by decide) (by decide) (by decide) (Nat.le_of_ble_eq_true rfl) dX8_list_7 ?_
  refine zo_X8_noCard hC1.2.2.1 hW (zput_eq) (by omega) ?_
  refine zr_if_eq (tgt := 15) X dX8_list_10 (by decide) (fun _ => ?_) (fun h => absurd h (by decide))
  refine zr_aload0 X dX8_list_15 ?_
  refine zr_callV0 (rm9 := zrm_X8_remember) X hnt zm_X8_229 (by decide) (by decide) (by decide) (Nat.le_of_ble_eq_true rfl) dX8_list_16 ?_
  refine zp_X8_remember hC1 ?_
  intro J100 hr101 h0102 e3103
  refine zr_iconst (v := (0 : Int32)) X dX8_list_19 (by decide) ?_
  refine zr_istore3 X (by decide) rfl dX8_list_20 ?_
  refine zr_aload0 X dX8_list_21 ?_
  refine zr_getR X zf_X8_17 rfl (by decide) (by decide) dX8_list_22 ?_
  refine zr_iload1 X dX8_list_25 ?_
  refine zr_iconst (v := (2 : Int32)) X dX8_list_26 (by decide) ?_
  refine zr_callS2 (rm9 := zrm_X8_cardAt) X hnt zm_X8_61 (by decide) (by decide) (by decide) (Nat.le_of_ble_eq_true rfl) dX8_list_27 ?_
  refine zn_X8_cardAt (g := c9) (w := 2) ?_
  refine zr_iload2 X dX8_list_30 ?_
  refine zr_if_eq (tgt := 38) X dX8_list_31 (by decide) (fun _ => ?_) (fun h => absurd h (by decide))
  refine zr_iconst (v := (0 : Int32)) X dX8_list_38 (by decide) ?_
  refine zr_iastN X rfl (show _ < 310 from (by first | assumption | omega)) dX8_list_39 ?_
  have hM_1 : zMd _ (y + 2) (tC S c9 2 (0 : Int32)) := zMd_C hr101.2.2.1 (c := c9) (j := 2) (v := (0 : Int32)) (by omega) (by decide)
  refine zr_iconst (v := (0 : Int32)) X dX8_list_40 (by decide) ?_
  refine zr_istore4 X (by decide) rfl dX8_list_41 ?_
  have hag : zag J100 (zput J100 (y + 2) (190 + 10 * c9 + 2) ((0 : Int32))) (y + 2) 1 := by repeat (first | exact zag.rf | assumption | refine zag.put ?_ (by omega) (by omega) | refine zag.tr ?_ (by assumption) (by omega) (by omega))
  have hW9 : zWf (tC S c9 2 0) := zWf_list hW hc (by decide)
  exact zl_X8_list X hnt hM_1 hW9 (k1 _ (hr101.now hag hM_1 hW9) ((congrFun (hag y (by omega)) 0).trans (h0102.trans zput_eq))) (znc (tC S c9 2 0) + 1) 0 _ (Nat.zero_le _) (by first | rfl | exact nI_0.symm) (by omega)
set_option maxRecDepth 20000 in
theorem zo1_X8_list {l : Launch} {D : va_G} {b0 : Nat} {tA : Nat → ClassId} {sa sv : Nat → Nat} {K : Nat → Option Nat} {I : zI} {Qp : zI → Option AV → Prop} {Xp : String → zI → Prop} {F9 : zI} {y f : Nat} {t : Nat → Nat} {er : Int32} {S : zS} {U : List zS} {c9 : Nat}
    (hC : zRf F9 I y t f er S U) (hc : c9 < znc S) (k1 : ∀ J : zI, zRf F9 J y t f er (tC S c9 2 1) (qPush S U) → J y 0 = 0 → Qp J (some (vi (nI (qListed (tC S c9 2 1)))))) :
    zC l D b0 tA sa sv K yX8_list (.code yX8_list cX8_list 5 (some .int)) zrm_X8_list [vr (y) 8, vi ((nI c9)), vi ((1 : Int32))] I Qp Xp := by
  have hC1 : zRf F9 (zput I y 0 0) y t f er S U := hC.put (by decide)
  have hW := hC.2.2.2.1
  have hg6 := hW.ng.1
  have hc12 := hW.nc.1
  have hf5 := hC.1.2.1
  refine zC_of (by decide +kernel) (Nat.le_of_ble_eq_true rfl) ?_
  intro p e s m args below meth c X hnt
  have X : zX p l e zrm_X8_list s m args below meth c RX8 cX8_list 5 (some .int) D b0 tA sa sv := X
  refine zr_lv (lv2 := [some (vr (y) 8), some (vi ((nI c9))), some (vi ((1 : Int32))), none, none]) rfl ?_
  refine zr_aload0 X dX8_list_0 ?_
  refine zr_iconst (v := (0 : Int32)) X dX8_list_1 (by decide) ?_
  refine zr_putI X zf_X8_31 rfl (Or.inl rfl) dX8_list_2 ?_
  refine zr_aload0 X dX8_list_5 ?_
  refine zr_iload1 X dX8_list_6 ?_
  refine zr_callV1 (rm9 := zrm_X8_noCard) X hnt zm_X8_248 (by decide) (by decide) (by decide) (Nat.le_of_ble_eq_true rfl) dX8_list_7 ?_
  refine zo_X8_noCard hC1.2.2.1 hW (zput_eq) (by omega) ?_
  refine zr_if_eq (tgt := 15) X dX8_list_10 (by decide) (fun _ => ?_) (fun h => absurd h (by decide))
  refine zr_aload0 X dX8_list_15 ?_
  refine zr_callV0 (rm9 := zrm_X8_remember) X hnt zm_X8_229 (by decide) (by decide) (by decide) (Nat.le_of_ble_eq_true rfl) dX8_list_16 ?_
  refine zp_X8_remember hC1 ?_
  intro J104 hr105 h0106 e3107
  refine zr_iconst (v := (0 : Int32)) X dX8_list_19 (by decide) ?_
  refine zr_istore3 X (by decide) rfl dX8_list_20 ?_
  refine zr_aload0 X dX8_list_21 ?_
  refine zr_getR X zf_X8_17 rfl (by decide) (by decide) dX8_list_22 ?_
  refine zr_iload1 X dX8_list_25 ?_
  refine zr_iconst (v := (2 : Int32)) X dX8_list_26 (by decide) ?_
  refine zr_callS2 (rm9 := zrm_X8_cardAt) X hnt zm_X8_61 (by decide) (by decide) (by decide) (Nat.le_of_ble_eq_true rfl) dX8_list_27 ?_
  refine zn_X8_cardAt (g := c9) (w := 2) ?_
  refine zr_iload2 X dX8_list_30 ?_
  refine zr_if_eq (tgt := 38) X dX8_list_31 (by decide) (fun h => absurd h (by decide)) (fun _ => ?_)
  refine zr_iconst (v := (1 : Int32)) X dX8_list_34 (by decide) ?_
  refine zr_goto (tgt := 39) X dX8_list_35 (by decide) ?_
  refine zr_iastN X rfl (show _ < 310 from (by first | assumption | omega)) dX8_list_39 ?_
  have hM_1 : zMd _ (y + 2) (tC S c9 2 (1 : Int32)) := zMd_C hr105.2.2.1 (c := c9) (j := 2) (v := (1 : Int32)) (by omega) (by decide)
  refine zr_iconst (v := (0 : Int32)) X dX8_list_40 (by decide) ?_
  refine zr_istore4 X (by decide) rfl dX8_list_41 ?_
  have hag : zag J104 (zput J104 (y + 2) (190 + 10 * c9 + 2) ((1 : Int32))) (y + 2) 1 := by repeat (first | exact zag.rf | assumption | refine zag.put ?_ (by omega) (by omega) | refine zag.tr ?_ (by assumption) (by omega) (by omega))
  have hW9 : zWf (tC S c9 2 1) := zWf_list hW hc (by decide)
  exact zl_X8_list X hnt hM_1 hW9 (k1 _ (hr105.now hag hM_1 hW9) ((congrFun (hag y (by omega)) 0).trans (h0106.trans zput_eq))) (znc (tC S c9 2 1) + 1) 0 _ (Nat.zero_le _) (by first | rfl | exact nI_0.symm) (by omega)
set_option maxRecDepth 20000 in
theorem zx_X8_list {l : Launch} {D : va_G} {b0 : Nat} {tA : Nat → ClassId} {sa sv : Nat → Nat} {K : Nat → Option Nat} {I : zI} {Qp : zI → Option AV → Prop} {Xp : String → zI → Prop} {F9 : zI} {y f : Nat} {t : Nat → Nat} {er : Int32} {S : zS} {U : List zS} {u b : Int32}
    (hC : zRf F9 I y t f er S U) (hb : vIdx u (znc S) = none) (kx : ∀ (J : zI) (v9 : Int32), zRf F9 J y t f er S U → J y 0 = 1 → Qp J (some (vi v9))) :
    zC l D b0 tA sa sv K yX8_list (.code yX8_list cX8_list 5 (some .int)) zrm_X8_list [vr (y) 8, vi (u), vi (b)] I Qp Xp := by
  have hC1 : zRf F9 (zput I y 0 0) y t f er S U := hC.put (by decide)
  have hW := hC.2.2.2.1
  have hg6 := hW.ng.1
  have hc12 := hW.nc.1
  have hf5 := hC.1.2.1
  refine zC_of (by decide +kernel) (Nat.le_of_ble_eq_true rfl) ?_
  intro p e s m args below meth c X hnt
  have X : zX p l e zrm_X8_list s m args below meth c RX8 cX8_list 5 (some .int) D b0 tA sa sv := X
  refine zr_lv (lv2 := [some (vr (y) 8), some (vi (u)), some (vi (b)), none, none]) rfl ?_
  refine zr_aload0 X dX8_list_0 ?_
  refine zr_iconst (v := (0 : Int32)) X dX8_list_1 (by decide) ?_
  refine zr_putI X zf_X8_31 rfl (Or.inl rfl) dX8_list_2 ?_
  refine zr_aload0 X dX8_list_5 ?_
  refine zr_iload1 X dX8_list_6 ?_
  refine zr_callV1 (rm9 := zrm_X8_noCard) X hnt zm_X8_248 (by decide) (by decide) (by decide) (Nat.le_of_ble_eq_true rfl) dX8_list_7 ?_
  refine zx_X8_noCard hC1.2.2.1 hW (zput_eq) (by assumption) ?_
  refine zr_if_eq (tgt := 15) X dX8_list_10 (by decide) (fun h => absurd h (by decide)) (fun _ => ?_)
  refine zr_iconst (v := (0 : Int32)) X dX8_list_13 (by decide) ?_
  refine zr_iret X (by decide) (by decide) dX8_list_14 ?_
  exact kx _ _ (hC1.put (by decide)) zput_eq
theorem zq_X8_list {l : Launch} {D : va_G} {b0 : Nat} {tA : Nat → ClassId} {sa sv : Nat → Nat} {K : Nat → Option Nat} {I : zI} {Qp : zI → Option AV → Prop} {Xp : String → zI → Prop} {F9 : zI} {y f : Nat} {t : Nat → Nat} {er : Int32} {S : zS} {U : List zS} {u b : Int32}
    (hC : zRf F9 I y t f er S U) (hb : b = 0 ∨ b = 1) (k0 : (rList S u b).1 = 0 → ∀ J : zI, zRf F9 J y t f er (sList S u b) (qPush S U) → J y 0 = 0 → Qp J (some (vi (rList S u b).2))) (kx1 : (rList S u b).1 = 1 → ∀ (J : zI) (v9 : Int32), zRf F9 J y t f er S U → J y 0 = 1 → Qp J (some (vi v9))) :
    zC l D b0 tA sa sv K yX8_list (.code yX8_list cX8_list 5 (some .int)) zrm_X8_list [vr (y) 8, vi (u), vi (b)] I Qp Xp := by
  unfold rList at k0 kx1
  unfold sList at k0
  cases e1 : vIdx u (znc S) with
  | none => rw [e1] at kx1; exact zx_X8_list hC e1 (kx1 rfl)
  | some c =>
    simp only [e1] at k0
    obtain ⟨h1, rfl⟩ := vIdx_some e1
    rcases hb with rfl | rfl
    · exact zo0_X8_list hC h1 (k0 (by first | rfl | trivial))
    · exact zo1_X8_list hC h1 (k0 (by first | rfl | trivial))
