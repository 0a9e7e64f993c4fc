/-! ===== the reference: what it tells ===== -/
abbrev zrm_X8_noGate : Room := { frames := 1, cells := 0, slots := 0, locals := 22 }
set_option maxRecDepth 20000 in
theorem zo_X8_noGate {l : Launch} {D : va_G} {b0 : Nat} {tA : Nat → ClassId} {sa sv : Nat → Nat} {K : Nat → Option Nat} {I : zI} {Qp : zI → Option AV → Prop} {Xp : String → zI → Prop} {y g : Nat} {S : zS}
    (hM : zMd I (y + 2) S) (hW : zWf S) (h00 : I y 0 = 0) (hg : g < zng S) (k1 : Qp I (some (vi 0))) :
    zC l D b0 tA sa sv K yX8_noGate (.code yX8_noGate cX8_noGate 2 (some .boolean)) zrm_X8_noGate [vr (y) 8, vi ((nI g))] I Qp Xp := by
  have hg6 := hW.ng.1
  have hc12 := hW.nc.1
  refine zC_of (by decide +kernel) (Nat.le_of_ble_eq_true rfl) ?_
  intro p e s m args below meth c X hnt
  have X : zX p l e zrm_X8_noGate s m args below meth c RX8 cX8_noGate 2 (some .boolean) D b0 tA sa sv := X
  refine zr_lv (lv2 := [some (vr (y) 8), some (vi ((nI g)))]) rfl ?_
  refine zr_aload0 X dX8_noGate_0 ?_
  refine zr_iload1 X dX8_noGate_1 ?_
  refine zr_iconst (v := (0 : Int32)) X dX8_noGate_2 (by decide) ?_
  refine zr_aload0 X dX8_noGate_3 ?_
  refine zr_getR X zf_X8_17 rfl (by decide) (by decide) dX8_noGate_4 ?_
  refine zr_iconst (v := (4 : Int32)) X dX8_noGate_7 (by decide) ?_
  refine zr_ialdN (n := 4) X rfl (show _ < 310 from (by first | assumption | omega | decide)) dX8_noGate_8 ?_
  refine zr_eq (x2 := (sX S 4)) (hM.1 4 (by decide)) ?_
  refine zr_eq (x2 := (nI (zng S))) (hW.ng.2) ?_
  refine zr_iconst (v := (1 : Int32)) X dX8_noGate_9 (by decide) ?_
  refine zr_isub X dX8_noGate_10 ?_
  refine zr_callS3 (rm9 := zrm_X8_in) X hnt zm_X8_117 (by decide) (by decide) (by decide) (Nat.le_of_ble_eq_true rfl) dX8_noGate_11 ?_
  refine zIo_X8_in (n := (zng S)) (by omega) (by omega) rfl ?_
  refine zr_if_ne (tgt := 21) X dX8_noGate_14 (by decide) (fun _ => ?_) (fun h => absurd h (by decide))
  refine zr_iconst (v := (0 : Int32)) X dX8_noGate_21 (by decide) ?_
  refine zr_iconst (v := (1 : Int32)) X dX8_noGate_22 (by decide) ?_
  refine zr_callV2 (rm9 := zrm_X8_fails) X hnt zm_X8_220 (by decide) (by decide) (by decide) (Nat.le_of_ble_eq_true rfl) dX8_noGate_23 ?_
  refine zf0_X8_fails (h00) ?_
  refine zr_zret X (by first | decide | assumption | (simp; done)) (by decide) (by decide) dX8_noGate_26 ?_
  exact k1
set_option maxRecDepth 20000 in
theorem zx_X8_noGate {l : Launch} {D : va_G} {b0 : Nat} {tA : Nat → ClassId} {sa sv : Nat → Nat} {K : Nat → Option Nat} {I : zI} {Qp : zI → Option AV → Prop} {Xp : String → zI → Prop} {y : Nat} {v : Int32} {S : zS}
    (hM : zMd I (y + 2) S) (hW : zWf S) (h00 : I y 0 = 0) (hb : vIdx v (zng S) = none) (k1 : Qp (zput I y 0 1) (some (vi 1))) :
    zC l D b0 tA sa sv K yX8_noGate (.code yX8_noGate cX8_noGate 2 (some .boolean)) zrm_X8_noGate [vr (y) 8, vi (v)] I Qp Xp := by
  have hg6 := hW.ng.1
  have hc12 := hW.nc.1
  refine zC_of (by decide +kernel) (Nat.le_of_ble_eq_true rfl) ?_
  intro p e s m args below meth c X hnt
  have X : zX p l e zrm_X8_noGate s m args below meth c RX8 cX8_noGate 2 (some .boolean) D b0 tA sa sv := X
  refine zr_lv (lv2 := [some (vr (y) 8), some (vi (v))]) rfl ?_
  refine zr_aload0 X dX8_noGate_0 ?_
  refine zr_iload1 X dX8_noGate_1 ?_
  refine zr_iconst (v := (0 : Int32)) X dX8_noGate_2 (by decide) ?_
  refine zr_aload0 X dX8_noGate_3 ?_
  refine zr_getR X zf_X8_17 rfl (by decide) (by decide) dX8_noGate_4 ?_
  refine zr_iconst (v := (4 : Int32)) X dX8_noGate_7 (by decide) ?_
  refine zr_ialdN (n := 4) X rfl (show _ < 310 from (by first | assumption | omega | decide)) dX8_noGate_8 ?_
  refine zr_eq (x2 := (sX S 4)) (hM.1 4 (by decide)) ?_
  refine zr_eq (x2 := (nI (zng S))) (hW.ng.2) ?_
  refine zr_iconst (v := (1 : Int32)) X dX8_noGate_9 (by decide) ?_
  refine zr_isub X dX8_noGate_10 ?_
  refine zr_callS3 (rm9 := zrm_X8_in) X hnt zm_X8_117 (by decide) (by decide) (by decide) (Nat.le_of_ble_eq_true rfl) dX8_noGate_11 ?_
  refine zIx_X8_in (n := (zng S)) (by assumption) (by omega) rfl ?_
  refine zr_if_ne (tgt := 21) X dX8_noGate_14 (by decide) (fun h => absurd h (by decide)) (fun _ => ?_)
  refine zr_iconst (v := (1 : Int32)) X dX8_noGate_17 (by decide) ?_
  refine zr_goto (tgt := 22) X dX8_noGate_18 (by decide) ?_
  refine zr_iconst (v := (1 : Int32)) X dX8_noGate_22 (by decide) ?_
  refine zr_callV2 (rm9 := zrm_X8_fails) X hnt zm_X8_220 (by decide) (by decide) (by decide) (Nat.le_of_ble_eq_true rfl) dX8_noGate_23 ?_
  refine zf1_X8_fails (h00) (by decide) ?_
  refine zr_zret X (by first | decide | assumption | (simp; done)) (by decide) (by decide) dX8_noGate_26 ?_
  exact k1
abbrev zrm_X8_noCard : Room := { frames := 1, cells := 0, slots := 0, locals := 22 }
set_option maxRecDepth 20000 in
theorem zo_X8_noCard {l : Launch} {D : va_G} {b0 : Nat} {tA : Nat → ClassId} {sa sv : Nat → Nat} {K : Nat → Option Nat} {I : zI} {Qp : zI → Option AV → Prop} {Xp : String → zI → Prop} {y g : Nat} {S : zS}
    (hM : zMd I (y + 2) S) (hW : zWf S) (h00 : I y 0 = 0) (hg : g < znc S) (k1 : Qp I (some (vi 0))) :
    zC l D b0 tA sa sv K yX8_noCard (.code yX8_noCard cX8_noCard 2 (some .boolean)) zrm_X8_noCard [vr (y) 8, vi ((nI g))] I Qp Xp := by
  have hg6 := hW.ng.1
  have hc12 := hW.nc.1
  refine zC_of (by decide +kernel) (Nat.le_of_ble_eq_true rfl) ?_
  intro p e s m args below meth c X hnt
  have X : zX p l e zrm_X8_noCard s m args below meth c RX8 cX8_noCard 2 (some .boolean) D b0 tA sa sv := X
  refine zr_lv (lv2 := [some (vr (y) 8), some (vi ((nI g)))]) rfl ?_
  refine zr_aload0 X dX8_noCard_0 ?_
  refine zr_iload1 X dX8_noCard_1 ?_
  refine zr_iconst (v := (0 : Int32)) X dX8_noCard_2 (by decide) ?_
  refine zr_aload0 X dX8_noCard_3 ?_
  refine zr_getR X zf_X8_17 rfl (by decide) (by decide) dX8_noCard_4 ?_
  refine zr_iconst (v := (5 : Int32)) X dX8_noCard_7 (by decide) ?_
  refine zr_ialdN (n := 5) X rfl (show _ < 310 from (by first | assumption | omega | decide)) dX8_noCard_8 ?_
  refine zr_eq (x2 := (sX S 5)) (hM.1 5 (by decide)) ?_
  refine zr_eq (x2 := (nI (znc S))) (hW.nc.2) ?_
  refine zr_iconst (v := (1 : Int32)) X dX8_noCard_9 (by decide) ?_
  refine zr_isub X dX8_noCard_10 ?_
  refine zr_callS3 (rm9 := zrm_X8_in) X hnt zm_X8_117 (by decide) (by decide) (by decide) (Nat.le_of_ble_eq_true rfl) dX8_noCard_11 ?_
  refine zIo_X8_in (n := (znc S)) (by omega) (by omega) rfl ?_
  refine zr_if_ne (tgt := 21) X dX8_noCard_14 (by decide) (fun _ => ?_) (fun h => absurd h (by decide))
  refine zr_iconst (v := (0 : Int32)) X dX8_noCard_21 (by decide) ?_
  refine zr_iconst (v := (1 : Int32)) X dX8_noCard_22 (by decide) ?_
  refine zr_callV2 (rm9 := zrm_X8_fails) X hnt zm_X8_220 (by decide) (by decide) (by decide) (Nat.le_of_ble_eq_true rfl) dX8_noCard_23 ?_
  refine zf0_X8_fails (h00) ?_
  refine zr_zret X (by first | decide | assumption | (simp; done)) (by decide) (by decide) dX8_noCard_26 ?_
  exact k1
set_option maxRecDepth 20000 in
theorem zx_X8_noCard {l : Launch} {D : va_G} {b0 : Nat} {tA : Nat → ClassId} {sa sv : Nat → Nat} {K : Nat → Option Nat} {I : zI} {Qp : zI → Option AV → Prop} {Xp : String → zI → Prop} {y : Nat} {v : Int32} {S : zS}
    (hM : zMd I (y + 2) S) (hW : zWf S) (h00 : I y 0 = 0) (hb : vIdx v (znc S) = none) (k1 : Qp (zput I y 0 1) (some (vi 1))) :
    zC l D b0 tA sa sv K yX8_noCard (.code yX8_noCard cX8_noCard 2 (some .boolean)) zrm_X8_noCard [vr (y) 8, vi (v)] I Qp Xp := by
  have hg6 := hW.ng.1
  have hc12 := hW.nc.1
  refine zC_of (by decide +kernel) (Nat.le_of_ble_eq_true rfl) ?_
  intro p e s m args below meth c X hnt
  have X : zX p l e zrm_X8_noCard s m args below meth c RX8 cX8_noCard 2 (some .boolean) D b0 tA sa sv := X
  refine zr_lv (lv2 := [some (vr (y) 8), some (vi (v))]) rfl ?_
  refine zr_aload0 X dX8_noCard_0 ?_
  refine zr_iload1 X dX8_noCard_1 ?_
  refine zr_iconst (v := (0 : Int32)) X dX8_noCard_2 (by decide) ?_
  refine zr_aload0 X dX8_noCard_3 ?_
  refine zr_getR X zf_X8_17 rfl (by decide) (by decide) dX8_noCard_4 ?_
  refine zr_iconst (v := (5 : Int32)) X dX8_noCard_7 (by decide) ?_
  refine zr_ialdN (n := 5) X rfl (show _ < 310 from (by first | assumption | omega | decide)) dX8_noCard_8 ?_
  refine zr_eq (x2 := (sX S 5)) (hM.1 5 (by decide)) ?_
  refine zr_eq (x2 := (nI (znc S))) (hW.nc.2) ?_
  refine zr_iconst (v := (1 : Int32)) X dX8_noCard_9 (by decide) ?_
  refine zr_isub X dX8_noCard_10 ?_
  refine zr_callS3 (rm9 := zrm_X8_in) X hnt zm_X8_117 (by decide) (by decide) (by decide) (Nat.le_of_ble_eq_true rfl) dX8_noCard_11 ?_
  refine zIx_X8_in (n := (znc S)) (by assumption) (by omega) rfl ?_
  refine zr_if_ne (tgt := 21) X dX8_noCard_14 (by decide) (fun h => absurd h (by decide)) (fun _ => ?_)
  refine zr_iconst (v := (1 : Int32)) X dX8_noCard_17 (by decide) ?_
  refine zr_goto (tgt := 22) X dX8_noCard_18 (by decide) ?_
  refine zr_iconst (v := (1 : Int32)) X dX8_noCard_22 (by decide) ?_
  refine zr_callV2 (rm9 := zrm_X8_fails) X hnt zm_X8_220 (by decide) (by decide) (by decide) (Nat.le_of_ble_eq_true rfl) dX8_noCard_23 ?_
  refine zf1_X8_fails (h00) (by decide) ?_
  refine zr_zret X (by first | decide | assumption | (simp; done)) (by decide) (by decide) dX8_noCard_26 ?_
  exact k1
abbrev zrm_X8_noSide : Room := { frames := 1, cells := 0, slots := 0, locals := 22 }
theorem z1e : (1 : Int32) = nI 2 - 1 := by rfl
set_option maxRecDepth 20000 in
theorem zo_X8_noSide {l : Launch} {D : va_G} {b0 : Nat} {tA : Nat → ClassId} {sa sv : Nat → Nat} {K : Nat → Option Nat} {I : zI} {Qp : zI → Option AV → Prop} {Xp : String → zI → Prop} {y s9 : Nat} {x2 : Int32}
    (h00 : I y 0 = 0) (hs : s9 < 2) (k1 : Qp I (some (vi 0))) :
    zC l D b0 tA sa sv K yX8_noSide (.code yX8_noSide cX8_noSide 3 (some .boolean)) zrm_X8_noSide [vr (y) 8, vi ((nI s9)), vi (x2)] I Qp Xp := by
  refine zC_of (by decide +kernel) (Nat.le_of_ble_eq_true rfl) ?_
  intro p e s m args below meth c X hnt
  have X : zX p l e zrm_X8_noSide s m args below meth c RX8 cX8_noSide 3 (some .boolean) D b0 tA sa sv := X
  refine zr_lv (lv2 := [some (vr (y) 8), some (vi ((nI s9))), some (vi (x2))]) rfl ?_
  refine zr_aload0 X dX8_noSide_0 ?_
  refine zr_iload1 X dX8_noSide_1 ?_
  refine zr_iconst (v := (0 : Int32)) X dX8_noSide_2 (by decide) ?_
  refine zr_iconst (v := (1 : Int32)) X dX8_noSide_3 (by decide) ?_
  refine zr_callS3 (rm9 := zrm_X8_in) X hnt zm_X8_117 (by decide) (by decide) (by decide) (Nat.le_of_ble_eq_true rfl) dX8_noSide_4 ?_
  refine zIo_X8_in (n := 2) (by omega) (by omega) (by rfl) ?_
  refine zr_if_ne (tgt := 14) X dX8_noSide_7 (by decide) (fun _ => ?_) (fun h => absurd h (by decide))
  refine zr_iconst (v := (0 : Int32)) X dX8_noSide_14 (by decide) ?_
  refine zr_iload2 X dX8_noSide_15 ?_
  refine zr_callV2 (rm9 := zrm_X8_fails) X hnt zm_X8_220 (by decide) (by decide) (by decide) (Nat.le_of_ble_eq_true rfl) dX8_noSide_16 ?_
  refine zf0_X8_fails h00 ?_
  refine zr_zret X (by first | decide | assumption | (simp; done)) (by decide) (by decide) dX8_noSide_19 ?_
  exact k1
set_option maxRecDepth 20000 in
theorem zx_X8_noSide {l : Launch} {D : va_G} {b0 : Nat} {tA : Nat → ClassId} {sa sv : Nat → Nat} {K : Nat → Option Nat} {I : zI} {Qp : zI → Option AV → Prop} {Xp : String → zI → Prop} {y : Nat} {v x2 : Int32}
    (h00 : I y 0 = 0) (hb : vIdx v 2 = none) (hx : ¬ x2 = 0) (k1 : Qp (zput I y 0 x2) (some (vi 1))) :
    zC l D b0 tA sa sv K yX8_noSide (.code yX8_noSide cX8_noSide 3 (some .boolean)) zrm_X8_noSide [vr (y) 8, vi (v), vi (x2)] I Qp Xp := by
  refine zC_of (by decide +kernel) (Nat.le_of_ble_eq_true rfl) ?_
  intro p e s m args below meth c X hnt
  have X : zX p l e zrm_X8_noSide s m args below meth c RX8 cX8_noSide 3 (some .boolean) D b0 tA sa sv := X
  refine zr_lv (lv2 := [some (vr (y) 8), some (vi (v)), some (vi (x2))]) rfl ?_
  refine zr_aload0 X dX8_noSide_0 ?_
  refine zr_iload1 X dX8_noSide_1 ?_
  refine zr_iconst (v := (0 : Int32)) X dX8_noSide_2 (by decide) ?_
  refine zr_iconst (v := (1 : Int32)) X dX8_noSide_3 (by decide) ?_
  refine zr_callS3 (rm9 := zrm_X8_in) X hnt zm_X8_117 (by decide) (by decide) (by decide) (Nat.le_of_ble_eq_true rfl) dX8_noSide_4 ?_
  refine zIx_X8_in (n := 2) (by assumption) (by omega) (by rfl) ?_
  refine zr_if_ne (tgt := 14) X dX8_noSide_7 (by decide) (fun h => absurd h (by decide)) (fun _ => ?_)
  refine zr_iconst (v := (1 : Int32)) X dX8_noSide_10 (by decide) ?_
  refine zr_goto (tgt := 15) X dX8_noSide_11 (by decide) ?_
  refine zr_iload2 X dX8_noSide_15 ?_
  refine zr_callV2 (rm9 := zrm_X8_fails) X hnt zm_X8_220 (by decide) (by decide) (by decide) (Nat.le_of_ble_eq_true rfl) dX8_noSide_16 ?_
  refine zf1_X8_fails h00 hx ?_
  refine zr_zret X (by first | decide | assumption | (simp; done)) (by decide) (by decide) dX8_noSide_19 ?_
  exact k1
abbrev zrm_X8_noJoin : Room := { frames := 2, cells := 0, slots := 0, locals := 44 }
set_option maxRecDepth 20000 in
theorem zonone_X8_noJoin {l : Launch} {D : va_G} {b0 : Nat} {tA : Nat → ClassId} {sa sv : Nat → Nat} {K : Nat → Option Nat} {I : zI} {Qp : zI → Option AV → Prop} {Xp : String → zI → Prop} {y g s9 : Nat} {S : zS}
    (hM : zMd I (y + 2) S) (hW : zWf S) (h00 : I y 0 = 0) (hg : g < zng S) (hs : s9 < 2) (k1 : Qp I (some (vi 0))) :
    zC l D b0 tA sa sv K yX8_noJoin (.code yX8_noJoin cX8_noJoin 4 (some .boolean)) zrm_X8_noJoin [vr (y) 8, vi ((nI g)), vi ((nI s9)), vi ((-1 : Int32))] I Qp Xp := by
  have hg6 := hW.ng.1
  have hc12 := hW.nc.1
  refine zC_of (by decide +kernel) (Nat.le_of_ble_eq_true rfl) ?_
  intro p e s m args below meth c X hnt
  have X : zX p l e zrm_X8_noJoin s m args below meth c RX8 cX8_noJoin 4 (some .boolean) D b0 tA sa sv := X
  refine zr_lv (lv2 := [some (vr (y) 8), some (vi ((nI g))), some (vi ((nI s9))), some (vi ((-1 : Int32)))]) rfl ?_
  refine zr_aload0 X dX8_noJoin_0 ?_
  refine zr_iload1 X dX8_noJoin_1 ?_
  refine zr_callV1 (rm9 := zrm_X8_noGate) X hnt zm_X8_242 (by decide) (by decide) (by decide) (Nat.le_of_ble_eq_true rfl) dX8_noJoin_2 ?_
  refine zo_X8_noGate hM hW (h00) (by omega) ?_
  refine zr_if_ne (tgt := 30) X dX8_noJoin_5 (by decide) (fun h => absurd h (by decide)) (fun _ => ?_)
  refine zr_iload3 X dX8_noJoin_8 ?_
  refine zr_iconst (v := (-1 : Int32)) X dX8_noJoin_9 (by decide) ?_
  refine zr_icmp_eq (tgt := 21) X dX8_noJoin_10 (by decide) (fun _ => ?_) (fun h => absurd h (by decide))
  refine zr_aload0 X dX8_noJoin_21 ?_
  refine zr_iload2 X dX8_noJoin_22 ?_
  refine zr_iconst (v := (2 : Int32)) X dX8_noJoin_23 (by decide) ?_
  refine zr_callV2 (rm9 := zrm_X8_noSide) X hnt zm_X8_254 (by decide) (by decide) (by decide) (Nat.le_of_ble_eq_true rfl) dX8_noJoin_24 ?_
  refine zo_X8_noSide (h00) (by omega) ?_
  refine zr_if_eq (tgt := 34) X dX8_noJoin_27 (by decide) (fun _ => ?_) (fun h => absurd h (by decide))
  refine zr_iconst (v := (0 : Int32)) X dX8_noJoin_34 (by decide) ?_
  refine zr_zret X (by first | decide | assumption | (simp; done)) (by decide) (by decide) dX8_noJoin_35 ?_
  exact k1
set_option maxRecDepth 20000 in
theorem zx2none_X8_noJoin {l : Launch} {D : va_G} {b0 : Nat} {tA : Nat → ClassId} {sa sv : Nat → Nat} {K : Nat → Option Nat} {I : zI} {Qp : zI → Option AV → Prop} {Xp : String → zI → Prop} {y g : Nat} {v : Int32} {S : zS}
    (hM : zMd I (y + 2) S) (hW : zWf S) (h00 : I y 0 = 0) (hg : g < zng S) (hb : vIdx v 2 = none) (k1 : Qp (zput I y 0 2) (some (vi 1))) :
    zC l D b0 tA sa sv K yX8_noJoin (.code yX8_noJoin cX8_noJoin 4 (some .boolean)) zrm_X8_noJoin [vr (y) 8, vi ((nI g)), vi (v), vi ((-1 : Int32))] I Qp Xp := by
  have hg6 := hW.ng.1
  have hc12 := hW.nc.1
  refine zC_of (by decide +kernel) (Nat.le_of_ble_eq_true rfl) ?_
  intro p e s m args below meth c X hnt
  have X : zX p l e zrm_X8_noJoin s m args below meth c RX8 cX8_noJoin 4 (some .boolean) D b0 tA sa sv := X
  refine zr_lv (lv2 := [some (vr (y) 8), some (vi ((nI g))), some (vi (v)), some (vi ((-1 : Int32)))]) rfl ?_
  refine zr_aload0 X dX8_noJoin_0 ?_
  refine zr_iload1 X dX8_noJoin_1 ?_
  refine zr_callV1 (rm9 := zrm_X8_noGate) X hnt zm_X8_242 (by decide) (by decide) (by decide) (Nat.le_of_ble_eq_true rfl) dX8_noJoin_2 ?_
  refine zo_X8_noGate hM hW (h00) (by omega) ?_
  refine zr_if_ne (tgt := 30) X dX8_noJoin_5 (by decide) (fun h => absurd h (by decide)) (fun _ => ?_)
  refine zr_iload3 X dX8_noJoin_8 ?_
  refine zr_iconst (v := (-1 : Int32)) X dX8_noJoin_9 (by decide) ?_
  refine zr_icmp_eq (tgt := 21) X dX8_noJoin_10 (by decide) (fun _ => ?_) (fun h => absurd h (by decide))
  refine zr_aload0 X dX8_noJoin_21 ?_
  refine zr_iload2 X dX8_noJoin_22 ?_
  refine zr_iconst (v := (2 : Int32)) X dX8_noJoin_23 (by decide) ?_
  refine zr_callV2 (rm9 := zrm_X8_noSide) X hnt zm_X8_254 (by decide) (by decide) (by decide) (Nat.le_of_ble_eq_true rfl) dX8_noJoin_24 ?_
  refine zx_X8_noSide (h00) (by assumption) (by decide) ?_
  refine zr_if_eq (tgt := 34) X dX8_noJoin_27 (by decide) (fun h => absurd h (by decide)) (fun _ => ?_)
  refine zr_iconst (v := (1 : Int32)) X dX8_noJoin_30 (by decide) ?_
  refine zr_goto (tgt := 35) X dX8_noJoin_31 (by decide) ?_
  refine zr_zret X (by first | decide | assumption | (simp; done)) (by decide) (by decide) dX8_noJoin_35 ?_
  exact k1
set_option maxRecDepth 20000 in
theorem zook_X8_noJoin {l : Launch} {D : va_G} {b0 : Nat} {tA : Nat → ClassId} {sa sv : Nat → Nat} {K : Nat → Option Nat} {I : zI} {Qp : zI → Option AV → Prop} {Xp : String → zI → Prop} {y g s9 c9 : Nat} {S : zS}
    (hM : zMd I (y + 2) S) (hW : zWf S) (h00 : I y 0 = 0) (hg : g < zng S) (hs : s9 < 2) (hc : c9 < znc S) (k1 : Qp I (some (vi 0))) :
    zC l D b0 tA sa sv K yX8_noJoin (.code yX8_noJoin cX8_noJoin 4 (some .boolean)) zrm_X8_noJoin [vr (y) 8, vi ((nI g)), vi ((nI s9)), vi ((nI c9))] I Qp Xp := by
  have hg6 := hW.ng.1
  have hc12 := hW.nc.1
  refine zC_of (by decide +kernel) (Nat.le_of_ble_eq_true rfl) ?_
  intro p e s m args below meth c X hnt
  have X : zX p l e zrm_X8_noJoin s m args below meth c RX8 cX8_noJoin 4 (some .boolean) D b0 tA sa sv := X
  refine zr_lv (lv2 := [some (vr (y) 8), some (vi ((nI g))), some (vi ((nI s9))), some (vi ((nI c9)))]) rfl ?_
  refine zr_aload0 X dX8_noJoin_0 ?_
  refine zr_iload1 X dX8_noJoin_1 ?_
  refine zr_callV1 (rm9 := zrm_X8_noGate) X hnt zm_X8_242 (by decide) (by decide) (by decide) (Nat.le_of_ble_eq_true rfl) dX8_noJoin_2 ?_
  refine zo_X8_noGate hM hW (h00) (by omega) ?_
  refine zr_if_ne (tgt := 30) X dX8_noJoin_5 (by decide) (fun h => absurd h (by decide)) (fun _ => ?_)
  refine zr_iload3 X dX8_noJoin_8 ?_
  refine zr_iconst (v := (-1 : Int32)) X dX8_noJoin_9 (by decide) ?_
  refine zr_icmp_eq (tgt := 21) X dX8_noJoin_10 (by decide) (fun h => absurd h (zm1 (by omega))) (fun _ => ?_)
  refine zr_aload0 X dX8_noJoin_13 ?_
  refine zr_iload3 X dX8_noJoin_14 ?_
  refine zr_callV1 (rm9 := zrm_X8_noCard) X hnt zm_X8_248 (by decide) (by decide) (by decide) (Nat.le_of_ble_eq_true rfl) dX8_noJoin_15 ?_
  refine zo_X8_noCard hM hW (h00) (by omega) ?_
  refine zr_if_ne (tgt := 30) X dX8_noJoin_18 (by decide) (fun h => absurd h (by decide)) (fun _ => ?_)
  refine zr_aload0 X dX8_noJoin_21 ?_
  refine zr_iload2 X dX8_noJoin_22 ?_
  refine zr_iconst (v := (2 : Int32)) X dX8_noJoin_23 (by decide) ?_
  refine zr_callV2 (rm9 := zrm_X8_noSide) X hnt zm_X8_254 (by decide) (by decide) (by decide) (Nat.le_of_ble_eq_true rfl) dX8_noJoin_24 ?_
  refine zo_X8_noSide (h00) (by omega) ?_
  refine zr_if_eq (tgt := 34) X dX8_noJoin_27 (by decide) (fun _ => ?_) (fun h => absurd h (by decide))
  refine zr_iconst (v := (0 : Int32)) X dX8_noJoin_34 (by decide) ?_
  refine zr_zret X (by first | decide | assumption | (simp; done)) (by decide) (by decide) dX8_noJoin_35 ?_
  exact k1
set_option maxRecDepth 20000 in
theorem zx2ok_X8_noJoin {l : Launch} {D : va_G} {b0 : Nat} {tA : Nat → ClassId} {sa sv : Nat → Nat} {K : Nat → Option Nat} {I : zI} {Qp : zI → Option AV → Prop} {Xp : String → zI → Prop} {y g c9 : Nat} {v : Int32} {S : zS}
    (hM : zMd I (y + 2) S) (hW : zWf S) (h00 : I y 0 = 0) (hg : g < zng S) (hc : c9 < znc S) (hb : vIdx v 2 = none) (k1 : Qp (zput I y 0 2) (some (vi 1))) :
    zC l D b0 tA sa sv K yX8_noJoin (.code yX8_noJoin cX8_noJoin 4 (some .boolean)) zrm_X8_noJoin [vr (y) 8, vi ((nI g)), vi (v), vi ((nI c9))] I Qp Xp := by
  have hg6 := hW.ng.1
  have hc12 := hW.nc.1
  refine zC_of (by decide +kernel) (Nat.le_of_ble_eq_true rfl) ?_
  intro p e s m args below meth c X hnt
  have X : zX p l e zrm_X8_noJoin s m args below meth c RX8 cX8_noJoin 4 (some .boolean) D b0 tA sa sv := X
  refine zr_lv (lv2 := [some (vr (y) 8), some (vi ((nI g))), some (vi (v)), some (vi ((nI c9)))]) rfl ?_
  refine zr_aload0 X dX8_noJoin_0 ?_
  refine zr_iload1 X dX8_noJoin_1 ?_
  refine zr_callV1 (rm9 := zrm_X8_noGate) X hnt zm_X8_242 (by decide) (by decide) (by decide) (Nat.le_of_ble_eq_true rfl) dX8_noJoin_2 ?_
  refine zo_X8_noGate hM hW (h00) (by omega) ?_
  refine zr_if_ne (tgt := 30) X dX8_noJoin_5 (by decide) (fun h => absurd h (by decide)) (fun _ => ?_)
  refine zr_iload3 X dX8_noJoin_8 ?_
  refine zr_iconst (v := (-1 : Int32)) X dX8_noJoin_9 (by decide) ?_
  refine zr_icmp_eq (tgt := 21) X dX8_noJoin_10 (by decide) (fun h => absurd h (zm1 (by omega))) (fun _ => ?_)
  refine zr_aload0 X dX8_noJoin_13 ?_
  refine zr_iload3 X dX8_noJoin_14 ?_
  refine zr_callV1 (rm9 := zrm_X8_noCard) X hnt zm_X8_248 (by decide) (by decide) (by decide) (Nat.le_of_ble_eq_true rfl) dX8_noJoin_15 ?_
  refine zo_X8_noCard hM hW (h00) (by omega) ?_
  refine zr_if_ne (tgt := 30) X dX8_noJoin_18 (by decide) (fun h => absurd h (by decide)) (fun _ => ?_)
  refine zr_aload0 X dX8_noJoin_21 ?_
  refine zr_iload2 X dX8_noJoin_22 ?_
  refine zr_iconst (v := (2 : Int32)) X dX8_noJoin_23 (by decide) ?_
  refine zr_callV2 (rm9 := zrm_X8_noSide) X hnt zm_X8_254 (by decide) (by decide) (by decide) (Nat.le_of_ble_eq_true rfl) dX8_noJoin_24 ?_
  refine zx_X8_noSide (h00) (by assumption) (by decide) ?_
  refine zr_if_eq (tgt := 34) X dX8_noJoin_27 (by decide) (fun h => absurd h (by decide)) (fun _ => ?_)
  refine zr_iconst (v := (1 : Int32)) X dX8_noJoin_30 (by decide) ?_
  refine zr_goto (tgt := 35) X dX8_noJoin_31 (by decide) ?_
  refine zr_zret X (by first | decide | assumption | (simp; done)) (by decide) (by decide) dX8_noJoin_35 ?_
  exact k1
set_option maxRecDepth 20000 in
theorem zx1c_X8_noJoin {l : Launch} {D : va_G} {b0 : Nat} {tA : Nat → ClassId} {sa sv : Nat → Nat} {K : Nat → Option Nat} {I : zI} {Qp : zI → Option AV → Prop} {Xp : String → zI → Prop} {y g : Nat} {v v3 : Int32} {S : zS}
    (hM : zMd I (y + 2) S) (hW : zWf S) (h00 : I y 0 = 0) (hg : g < zng S) (hb : vIdx v3 (znc S) = none) (hn1 : ¬ v3 = (-1 : Int32)) (k1 : Qp (zput I y 0 1) (some (vi 1))) :
    zC l D b0 tA sa sv K yX8_noJoin (.code yX8_noJoin cX8_noJoin 4 (some .boolean)) zrm_X8_noJoin [vr (y) 8, vi ((nI g)), vi (v), vi (v3)] I Qp Xp := by
  refine zC_of (by decide +kernel) (Nat.le_of_ble_eq_true rfl) ?_
  intro p e s m args below meth c X hnt
  have X : zX p l e zrm_X8_noJoin s m args below meth c RX8 cX8_noJoin 4 (some .boolean) D b0 tA sa sv := X
  refine zr_lv (lv2 := [some (vr (y) 8), some (vi ((nI g))), some (vi (v)), some (vi (v3))]) rfl ?_
  refine zr_aload0 X dX8_noJoin_0 ?_
  refine zr_iload1 X dX8_noJoin_1 ?_
  refine zr_callV1 (rm9 := zrm_X8_noGate) X hnt zm_X8_242 (by decide) (by decide) (by decide) (Nat.le_of_ble_eq_true rfl) dX8_noJoin_2 ?_
  refine zo_X8_noGate hM hW (h00) (by omega) ?_
  refine zr_if_ne (tgt := 30) X dX8_noJoin_5 (by decide) (fun h => absurd h (by decide)) (fun _ => ?_)
  refine zr_iload3 X dX8_noJoin_8 ?_
  refine zr_iconst (v := (-1 : Int32)) X dX8_noJoin_9 (by decide) ?_
  refine zr_icmp_eq (tgt := 21) X dX8_noJoin_10 (by decide) (fun h1 => ?_) (fun h1 => ?_)
  · skip
    exact absurd (by assumption) hn1
  · skip
    refine zr_aload0 X dX8_noJoin_13 ?_
    refine zr_iload3 X dX8_noJoin_14 ?_
    refine zr_callV1 (rm9 := zrm_X8_noCard) X hnt zm_X8_248 (by decide) (by decide) (by decide) (Nat.le_of_ble_eq_true rfl) dX8_noJoin_15 ?_
    refine zx_X8_noCard hM hW (h00) (by assumption) ?_
    refine zr_if_ne (tgt := 30) X dX8_noJoin_18 (by decide) (fun _ => ?_) (fun h => absurd h (by decide))
    refine zr_iconst (v := (1 : Int32)) X dX8_noJoin_30 (by decide) ?_
    refine zr_goto (tgt := 35) X dX8_noJoin_31 (by decide) ?_
    refine zr_zret X (by first | decide | assumption | (simp; done)) (by decide) (by decide) dX8_noJoin_35 ?_
    exact k1
set_option maxRecDepth 20000 in
theorem zx1_X8_noJoin {l : Launch} {D : va_G} {b0 : Nat} {tA : Nat → ClassId} {sa sv : Nat → Nat} {K : Nat → Option Nat} {I : zI} {Qp : zI → Option AV → Prop} {Xp : String → zI → Prop} {y : Nat} {u v v3 : Int32} {S : zS}
    (hM : zMd I (y + 2) S) (hW : zWf S) (h00 : I y 0 = 0) (hb : vIdx u (zng S) = none) (k1 : Qp (zput I y 0 1) (some (vi 1))) :
    zC l D b0 tA sa sv K yX8_noJoin (.code yX8_noJoin cX8_noJoin 4 (some .boolean)) zrm_X8_noJoin [vr (y) 8, vi (u), vi (v), vi (v3)] I Qp Xp := by
  refine zC_of (by decide +kernel) (Nat.le_of_ble_eq_true rfl) ?_
  intro p e s m args below meth c X hnt
  have X : zX p l e zrm_X8_noJoin s m args below meth c RX8 cX8_noJoin 4 (some .boolean) D b0 tA sa sv := X
  refine zr_lv (lv2 := [some (vr (y) 8), some (vi (u)), some (vi (v)), some (vi (v3))]) rfl ?_
  refine zr_aload0 X dX8_noJoin_0 ?_
  refine zr_iload1 X dX8_noJoin_1 ?_
  refine zr_callV1 (rm9 := zrm_X8_noGate) X hnt zm_X8_242 (by decide) (by decide) (by decide) (Nat.le_of_ble_eq_true rfl) dX8_noJoin_2 ?_
  refine zx_X8_noGate hM hW (h00) (by assumption) ?_
  refine zr_if_ne (tgt := 30) X dX8_noJoin_5 (by decide) (fun _ => ?_) (fun h => absurd h (by decide))
  refine zr_iconst (v := (1 : Int32)) X dX8_noJoin_30 (by decide) ?_
  refine zr_goto (tgt := 35) X dX8_noJoin_31 (by decide) ?_
  refine zr_zret X (by first | decide | assumption | (simp; done)) (by decide) (by decide) dX8_noJoin_35 ?_
  exact k1
abbrev zrm_X8_open : Room := { frames := 1, cells := 0, slots := 0, locals := 21 }
set_option maxRecDepth 20000 in
theorem zl_X8_open {l : Launch} {D : va_G} {b0 : Nat} {tA : Nat → ClassId} {sa sv : Nat → Nat} {K : Nat → Option Nat} {I : zI} {Qp : zI → Option AV → Prop} {Xp : String → zI → Prop} {p : Program} {e : Env} {s : State} {m : MethodId} {args : Array Value} {below : List Frame} {meth : Method} {c : Code} {y : Nat} {S : zS}
    (X : zX p l e zrm_X8_open s m args below meth c RX8 cX8_open 3 (some .int) D b0 tA sa sv) (hnt : ∀ x ∈ c.exceptionTable.toList, False) (hM : zMd I (y + 2) S) (hW : zWf S) (k1 : Qp I (some (vi (nI (qOpenN S))))) :
    ∀ (n : Nat) (j v : Nat), j ≤ zng S → v = nsum (fun g => if sG S g 2 = 0 then 0 else 1) j → zng S - j < n → zG p l e zrm_X8_open s m args below meth c 3 D b0 tA sa 0 0 (zQ below D b0 tA sa K args s zrm_X8_open Qp Xp) K 4 [some (vr (y) 8), some (vi ((nI v))), some (vi ((nI j)))] [] I := by
  intro n
  induction n with
  | zero => intro j v i1 i2 i3; exact absurd i3 (Nat.not_lt_zero _)
  | succ n ih =>
    intro j v i1 i2 i3
    have hg6 := hW.ng.1
    have hc12 := hW.nc.1
    refine zr_iload2 X dX8_open_4 ?_
    refine zr_aload0 X dX8_open_5 ?_
    refine zr_getR X zf_X8_17 rfl (by decide) (by decide) dX8_open_6 ?_
    refine zr_iconst (v := (4 : Int32)) X dX8_open_9 (by decide) ?_
    refine zr_ialdN (n := 4) X rfl (show _ < 310 from (by first | assumption | omega | decide)) dX8_open_10 ?_
    refine zr_eq (x2 := (sX S 4)) (hM.1 4 (by decide)) ?_
    refine zr_eq (x2 := (nI (zng S))) (hW.ng.2) ?_
    refine zr_nicmp_ge X (j) ((zng S)) (tgt := 41) (by omega) (by omega) dX8_open_11 (by decide) (fun h1 => ?_) (fun h1 => ?_)
    · skip
      refine zr_iload1 X dX8_open_41 ?_
      refine zr_iret X (by decide) (by decide) dX8_open_42 ?_
      have e9 : v = qOpenN S := by rw [i2, show j = zng S by omega]; exact (nsum_tail (f := fun g => if sG S g 2 = 0 then 0 else 1) (fun i hi => if_pos ((hW.blank i hi).1 2)) 6 hW.ng.1).symm
      rw [← e9] at k1; exact k1
    · skip
      refine zr_iload1 X dX8_open_14 ?_
      refine zr_aload0 X dX8_open_15 ?_
      refine zr_getR X zf_X8_17 rfl (by decide) (by decide) dX8_open_16 ?_
      refine zr_iload2 X dX8_open_19 ?_
      refine zr_iconst (v := (1 : Int32)) X dX8_open_20 (by decide) ?_
      refine zr_callS2 (rm9 := zrm_X8_gateAt) X hnt zm_X8_34 (by decide) (by decide) (by decide) (Nat.le_of_ble_eq_true rfl) dX8_open_21 ?_
      refine zn_X8_gateAt (g := j) (w := 1) ?_
      refine zr_ialdN (n := 16 + 29 * j + 1) X rfl (show _ < 310 from (by first | assumption | omega | decide)) dX8_open_24 ?_
      refine zr_eq (x2 := (sG S j 1)) ((hM.2.1 j (by omega)).1 1 (by first | decide | omega)) ?_
      refine zr_if_le (tgt := 32) X dX8_open_25 (by decide) (fun h2 => ?_) (fun h2 => ?_)
      · skip
        refine zr_iconst (v := (0 : Int32)) X dX8_open_32 (by decide) ?_
        refine zr_iadd X dX8_open_33 ?_
        refine zr_eq (x2 := (nI (v + 0))) (nI_add (v) (0)) ?_
        refine zr_istore1 X (by decide) rfl dX8_open_34 ?_
        refine zr_iinc2 (v := (nI (j + 1))) X (show nI (j) + Int32.ofInt 1 = nI (j + 1) from nI_1 (j)) (by decide) rfl dX8_open_35 ?_
        refine zr_goto (tgt := 4) X dX8_open_38 (by decide) ?_
        exact ih (j + 1) _ (by omega) (by subst i2; show _ = nsum (fun g => if sG S g 2 = 0 then 0 else 1) j + (if sG S j 2 = 0 then 0 else 1); rw [if_pos ((zPad_open (hW.pad j)).mp h2)]) (by omega)
      · skip
        refine zr_iconst (v := (1 : Int32)) X dX8_open_28 (by decide) ?_
        refine zr_goto (tgt := 33) X dX8_open_29 (by decide) ?_
        refine zr_iadd X dX8_open_33 ?_
        refine zr_eq (x2 := (nI (v + 1))) (nI_add (v) (1)) ?_
        refine zr_istore1 X (by decide) rfl dX8_open_34 ?_
        refine zr_iinc2 (v := (nI (j + 1))) X (show nI (j) + Int32.ofInt 1 = nI (j + 1) from nI_1 (j)) (by decide) rfl dX8_open_35 ?_
        refine zr_goto (tgt := 4) X dX8_open_38 (by decide) ?_
        exact ih (j + 1) _ (by omega) (by subst i2; show _ = nsum (fun g => if sG S g 2 = 0 then 0 else 1) j + (if sG S j 2 = 0 then 0 else 1); rw [if_neg (fun z => h2 ((zPad_open (hW.pad j)).mpr z))]) (by omega)
set_option maxRecDepth 20000 in
theorem zp_X8_open {l : Launch} {D : va_G} {b0 : Nat} {tA : Nat → ClassId} {sa sv : Nat → Nat} {K : Nat → Option Nat} {I : zI} {Qp : zI → Option AV → Prop} {Xp : String → zI → Prop} {y : Nat} {S : zS}
    (hM : zMd I (y + 2) S) (hW : zWf S) (k1 : Qp I (some (vi (nI (qOpenN S))))) :
    zC l D b0 tA sa sv K yX8_open (.code yX8_open cX8_open 3 (some .int)) zrm_X8_open [vr (y) 8] I Qp Xp := by
  refine zC_of (by decide +kernel) (Nat.le_of_ble_eq_true rfl) ?_
  intro p e s m args below meth c X hnt
  have X : zX p l e zrm_X8_open s m args below meth c RX8 cX8_open 3 (some .int) D b0 tA sa sv := X
  refine zr_lv (lv2 := [some (vr (y) 8), none, none]) rfl ?_
  refine zr_iconst (v := (0 : Int32)) X dX8_open_0 (by decide) ?_
  refine zr_istore1 X (by decide) rfl dX8_open_1 ?_
  refine zr_iconst (v := (0 : Int32)) X dX8_open_2 (by decide) ?_
  refine zr_istore2 X (by decide) rfl dX8_open_3 ?_
  exact zl_X8_open X hnt hM hW k1 (zng S + 1) 0 0 (by omega) rfl (by omega)
abbrev zrm_X8_told : Room := { frames := 3, cells := 0, slots := 0, locals := 66 }
set_option maxRecDepth 20000 in
theorem zp0_X8_told {l : Launch} {D : va_G} {b0 : Nat} {tA : Nat → ClassId} {sa sv : Nat → Nat} {K : Nat → Option Nat} {I : zI} {Qp : zI → Option AV → Prop} {Xp : String → zI → Prop} {y : Nat} {S : zS}
    (hM : zMd I (y + 2) S) (hW : zWf S) (k1 : Qp I (some (vi (qState S 0)))) :
    zC l D b0 tA sa sv K yX8_told (.code yX8_told cX8_told 2 (some .int)) zrm_X8_told [vr (y) 8, vi ((0 : Int32))] I Qp Xp := by
  refine zC_of (by decide +kernel) (Nat.le_of_ble_eq_true rfl) ?_
  intro p e s m args below meth c X hnt
  have X : zX p l e zrm_X8_told s m args below meth c RX8 cX8_told 2 (some .int) D b0 tA sa sv := X
  refine zr_lv (lv2 := [some (vr (y) 8), some (vi ((0 : Int32)))]) rfl ?_
  refine zr_iload1 X dX8_told_0 ?_
  refine zr_tblIn (off := 79) (tgt := 80) X dX8_told_1 (by decide) (by decide) (by decide) (by decide) ?_
  refine zr_aload0 X dX8_told_80 ?_
  refine zr_getR X zf_X8_17 rfl (by decide) (by decide) dX8_told_81 ?_
  refine zr_iconst (v := (4 : Int32)) X dX8_told_84 (by decide) ?_
  refine zr_ialdN (n := 4) X rfl (show _ < 310 from (by first | assumption | omega | decide)) dX8_told_85 ?_
  refine zr_eq (x2 := (sX S 4)) (hM.1 4 (by decide)) ?_
  refine zr_eq (x2 := (nI (zng S))) (hW.ng.2) ?_
  refine zr_iret X (by decide) (by decide) dX8_told_86 ?_
  have e9 : qState S 0 = nI (zng S) := hW.ng.2
  rw [e9] at k1
  exact k1
set_option maxRecDepth 20000 in
theorem zp1_X8_told {l : Launch} {D : va_G} {b0 : Nat} {tA : Nat → ClassId} {sa sv : Nat → Nat} {K : Nat → Option Nat} {I : zI} {Qp : zI → Option AV → Prop} {Xp : String → zI → Prop} {y : Nat} {S : zS}
    (hM : zMd I (y + 2) S) (hW : zWf S) (k1 : Qp I (some (vi (qState S 1)))) :
    zC l D b0 tA sa sv K yX8_told (.code yX8_told cX8_told 2 (some .int)) zrm_X8_told [vr (y) 8, vi ((1 : Int32))] I Qp Xp := by
  refine zC_of (by decide +kernel) (Nat.le_of_ble_eq_true rfl) ?_
  intro p e s m args below meth c X hnt
  have X : zX p l e zrm_X8_told s m args below meth c RX8 cX8_told 2 (some .int) D b0 tA sa sv := X
  refine zr_lv (lv2 := [some (vr (y) 8), some (vi ((1 : Int32)))]) rfl ?_
  refine zr_iload1 X dX8_told_0 ?_
  refine zr_tblIn (off := 86) (tgt := 87) X dX8_told_1 (by decide) (by decide) (by decide) (by decide) ?_
  refine zr_aload0 X dX8_told_87 ?_
  refine zr_getR X zf_X8_17 rfl (by decide) (by decide) dX8_told_88 ?_
  refine zr_iconst (v := (5 : Int32)) X dX8_told_91 (by decide) ?_
  refine zr_ialdN (n := 5) X rfl (show _ < 310 from (by first | assumption | omega | decide)) dX8_told_92 ?_
  refine zr_eq (x2 := (sX S 5)) (hM.1 5 (by decide)) ?_
  refine zr_eq (x2 := (nI (znc S))) (hW.nc.2) ?_
  refine zr_iret X (by decide) (by decide) dX8_told_93 ?_
  have e9 : qState S 1 = nI (znc S) := hW.nc.2
  rw [e9] at k1
  exact k1
set_option maxRecDepth 20000 in
theorem zp2_X8_told {l : Launch} {D : va_G} {b0 : Nat} {tA : Nat → ClassId} {sa sv : Nat → Nat} {K : Nat → Option Nat} {I : zI} {Qp : zI → Option AV → Prop} {Xp : String → zI → Prop} {y : Nat} {S : zS}
    (hM : zMd I (y + 2) S) (hW : zWf S) (k1 : Qp I (some (vi (qState S 2)))) :
    zC l D b0 tA sa sv K yX8_told (.code yX8_told cX8_told 2 (some .int)) zrm_X8_told [vr (y) 8, vi ((2 : Int32))] I Qp Xp := by
  refine zC_of (by decide +kernel) (Nat.le_of_ble_eq_true rfl) ?_
  intro p e s m args below meth c X hnt
  have X : zX p l e zrm_X8_told s m args below meth c RX8 cX8_told 2 (some .int) D b0 tA sa sv := X
  refine zr_lv (lv2 := [some (vr (y) 8), some (vi ((2 : Int32)))]) rfl ?_
  refine zr_iload1 X dX8_told_0 ?_
  refine zr_tblIn (off := 93) (tgt := 94) X dX8_told_1 (by decide) (by decide) (by decide) (by decide) ?_
  refine zr_aload0 X dX8_told_94 ?_
  refine zr_getR X zf_X8_17 rfl (by decide) (by decide) dX8_told_95 ?_
  refine zr_iconst (v := (0 : Int32)) X dX8_told_98 (by decide) ?_
  refine zr_ialdN (n := 0) X rfl (show _ < 310 from (by first | assumption | omega | decide)) dX8_told_99 ?_
  refine zr_eq (x2 := (sX S 0)) (hM.1 0 (by decide)) ?_
  refine zr_iret X (by decide) (by decide) dX8_told_100 ?_
  exact k1
set_option maxRecDepth 20000 in
theorem zp3_X8_told {l : Launch} {D : va_G} {b0 : Nat} {tA : Nat → ClassId} {sa sv : Nat → Nat} {K : Nat → Option Nat} {I : zI} {Qp : zI → Option AV → Prop} {Xp : String → zI → Prop} {y : Nat} {S : zS}
    (hM : zMd I (y + 2) S) (hW : zWf S) (k1 : Qp I (some (vi (qState S 3)))) :
    zC l D b0 tA sa sv K yX8_told (.code yX8_told cX8_told 2 (some .int)) zrm_X8_told [vr (y) 8, vi ((3 : Int32))] I Qp Xp := by
  refine zC_of (by decide +kernel) (Nat.le_of_ble_eq_true rfl) ?_
  intro p e s m args below meth c X hnt
  have X : zX p l e zrm_X8_told s m args below meth c RX8 cX8_told 2 (some .int) D b0 tA sa sv := X
  refine zr_lv (lv2 := [some (vr (y) 8), some (vi ((3 : Int32)))]) rfl ?_
  refine zr_iload1 X dX8_told_0 ?_
  refine zr_tblIn (off := 100) (tgt := 101) X dX8_told_1 (by decide) (by decide) (by decide) (by decide) ?_
  refine zr_aload0 X dX8_told_101 ?_
  refine zr_getR X zf_X8_17 rfl (by decide) (by decide) dX8_told_102 ?_
  refine zr_iconst (v := (1 : Int32)) X dX8_told_105 (by decide) ?_
  refine zr_ialdN (n := 1) X rfl (show _ < 310 from (by first | assumption | omega | decide)) dX8_told_106 ?_
  refine zr_eq (x2 := (sX S 1)) (hM.1 1 (by decide)) ?_
  refine zr_iret X (by decide) (by decide) dX8_told_107 ?_
  exact k1
set_option maxRecDepth 20000 in
theorem zp4_X8_told {l : Launch} {D : va_G} {b0 : Nat} {tA : Nat → ClassId} {sa sv : Nat → Nat} {K : Nat → Option Nat} {I : zI} {Qp : zI → Option AV → Prop} {Xp : String → zI → Prop} {y : Nat} {S : zS}
    (hM : zMd I (y + 2) S) (hW : zWf S) (k1 : Qp I (some (vi (qState S 4)))) :
    zC l D b0 tA sa sv K yX8_told (.code yX8_told cX8_told 2 (some .int)) zrm_X8_told [vr (y) 8, vi ((4 : Int32))] I Qp Xp := by
  refine zC_of (by decide +kernel) (Nat.le_of_ble_eq_true rfl) ?_
  intro p e s m args below meth c X hnt
  have X : zX p l e zrm_X8_told s m args below meth c RX8 cX8_told 2 (some .int) D b0 tA sa sv := X
  refine zr_lv (lv2 := [some (vr (y) 8), some (vi ((4 : Int32)))]) rfl ?_
  refine zr_iload1 X dX8_told_0 ?_
  refine zr_tblIn (off := 107) (tgt := 108) X dX8_told_1 (by decide) (by decide) (by decide) (by decide) ?_
  refine zr_aload0 X dX8_told_108 ?_
  refine zr_getR X zf_X8_17 rfl (by decide) (by decide) dX8_told_109 ?_
  refine zr_iconst (v := (2 : Int32)) X dX8_told_112 (by decide) ?_
  refine zr_ialdN (n := 2) X rfl (show _ < 310 from (by first | assumption | omega | decide)) dX8_told_113 ?_
  refine zr_eq (x2 := (sX S 2)) (hM.1 2 (by decide)) ?_
  refine zr_iret X (by decide) (by decide) dX8_told_114 ?_
  exact k1
set_option maxRecDepth 20000 in
theorem zp5_X8_told {l : Launch} {D : va_G} {b0 : Nat} {tA : Nat → ClassId} {sa sv : Nat → Nat} {K : Nat → Option Nat} {I : zI} {Qp : zI → Option AV → Prop} {Xp : String → zI → Prop} {y : Nat} {S : zS}
    (hM : zMd I (y + 2) S) (hW : zWf S) (k1 : Qp I (some (vi (qState S 5)))) :
    zC l D b0 tA sa sv K yX8_told (.code yX8_told cX8_told 2 (some .int)) zrm_X8_told [vr (y) 8, vi ((5 : Int32))] I Qp Xp := by
  refine zC_of (by decide +kernel) (Nat.le_of_ble_eq_true rfl) ?_
  intro p e s m args below meth c X hnt
  have X : zX p l e zrm_X8_told s m args below meth c RX8 cX8_told 2 (some .int) D b0 tA sa sv := X
  refine zr_lv (lv2 := [some (vr (y) 8), some (vi ((5 : Int32)))]) rfl ?_
  refine zr_iload1 X dX8_told_0 ?_
  refine zr_tblIn (off := 114) (tgt := 115) X dX8_told_1 (by decide) (by decide) (by decide) (by decide) ?_
  refine zr_aload0 X dX8_told_115 ?_
  refine zr_getR X zf_X8_17 rfl (by decide) (by decide) dX8_told_116 ?_
  refine zr_iconst (v := (3 : Int32)) X dX8_told_119 (by decide) ?_
  refine zr_ialdN (n := 3) X rfl (show _ < 310 from (by first | assumption | omega | decide)) dX8_told_120 ?_
  refine zr_eq (x2 := (sX S 3)) (hM.1 3 (by decide)) ?_
  refine zr_iret X (by decide) (by decide) dX8_told_121 ?_
  exact k1
set_option maxRecDepth 20000 in
theorem zp6_X8_told {l : Launch} {D : va_G} {b0 : Nat} {tA : Nat → ClassId} {sa sv : Nat → Nat} {K : Nat → Option Nat} {I : zI} {Qp : zI → Option AV → Prop} {Xp : String → zI → Prop} {y : Nat} {S : zS}
    (hM : zMd I (y + 2) S) (hW : zWf S) (k1 : Qp I (some (vi (qState S 6)))) :
    zC l D b0 tA sa sv K yX8_told (.code yX8_told cX8_told 2 (some .int)) zrm_X8_told [vr (y) 8, vi ((6 : Int32))] I Qp Xp := by
  refine zC_of (by decide +kernel) (Nat.le_of_ble_eq_true rfl) ?_
  intro p e s m args below meth c X hnt
  have X : zX p l e zrm_X8_told s m args below meth c RX8 cX8_told 2 (some .int) D b0 tA sa sv := X
  refine zr_lv (lv2 := [some (vr (y) 8), some (vi ((6 : Int32)))]) rfl ?_
  refine zr_iload1 X dX8_told_0 ?_
  refine zr_tblIn (off := 121) (tgt := 122) X dX8_told_1 (by decide) (by decide) (by decide) (by decide) ?_
  refine zr_aload0 X dX8_told_122 ?_
  refine zr_getR X zf_X8_17 rfl (by decide) (by decide) dX8_told_123 ?_
  refine zr_iconst (v := (0 : Int32)) X dX8_told_126 (by decide) ?_
  refine zr_callS2 (rm9 := zrm_X8_inLines) X hnt zm_X8_53 (by decide) (by decide) (by decide) (Nat.le_of_ble_eq_true rfl) dX8_told_127 ?_
  refine zp_X8_inLines (s9 := 0) hM hW (by omega) ?_
  refine zr_aload0 X dX8_told_130 ?_
  refine zr_getR X zf_X8_17 rfl (by decide) (by decide) dX8_told_131 ?_
  refine zr_iconst (v := (1 : Int32)) X dX8_told_134 (by decide) ?_
  refine zr_callS2 (rm9 := zrm_X8_inLines) X hnt zm_X8_53 (by decide) (by decide) (by decide) (Nat.le_of_ble_eq_true rfl) dX8_told_135 ?_
  refine zp_X8_inLines (s9 := 1) hM hW (by omega) ?_
  refine zr_iadd X dX8_told_138 ?_
  refine zr_eq (x2 := (nI ((nsum (fun g => (sL S g 0).length) 6) + (qInner S)))) (nI_add ((nsum (fun g => (sL S g 0).length) 6)) ((qInner S))) ?_
  refine zr_iret X (by decide) (by decide) dX8_told_139 ?_
  have e9 : qPeople S = nsum (fun g => (sL S g 0).length) 6 + qInner S := nsum_add 6
  have e8 : qState S 6 = nI (qPeople S) := rfl
  rw [e8, e9] at k1; exact k1
set_option maxRecDepth 20000 in
theorem zp7_X8_told {l : Launch} {D : va_G} {b0 : Nat} {tA : Nat → ClassId} {sa sv : Nat → Nat} {K : Nat → Option Nat} {I : zI} {Qp : zI → Option AV → Prop} {Xp : String → zI → Prop} {y : Nat} {S : zS}
    (hM : zMd I (y + 2) S) (hW : zWf S) (k1 : Qp I (some (vi (qState S 7)))) :
    zC l D b0 tA sa sv K yX8_told (.code yX8_told cX8_told 2 (some .int)) zrm_X8_told [vr (y) 8, vi ((7 : Int32))] I Qp Xp := by
  refine zC_of (by decide +kernel) (Nat.le_of_ble_eq_true rfl) ?_
  intro p e s m args below meth c X hnt
  have X : zX p l e zrm_X8_told s m args below meth c RX8 cX8_told 2 (some .int) D b0 tA sa sv := X
  refine zr_lv (lv2 := [some (vr (y) 8), some (vi ((7 : Int32)))]) rfl ?_
  refine zr_iload1 X dX8_told_0 ?_
  refine zr_tblIn (off := 139) (tgt := 140) X dX8_told_1 (by decide) (by decide) (by decide) (by decide) ?_
  refine zr_aload0 X dX8_told_140 ?_
  refine zr_getR X zf_X8_17 rfl (by decide) (by decide) dX8_told_141 ?_
  refine zr_callS1 (rm9 := zrm_X8_isPanic) X hnt zm_X8_84 (by decide) (by decide) (by decide) (Nat.le_of_ble_eq_true rfl) dX8_told_144 ?_
  refine zn_X8_isPanic hM ?_ ?_
  · skip
    intro hp1
    refine zr_if_eq (tgt := 154) X dX8_told_147 (by decide) (fun h => absurd h (by decide)) (fun _ => ?_)
    refine zr_iconst (v := (1 : Int32)) X dX8_told_150 (by decide) ?_
    refine zr_goto (tgt := 155) X dX8_told_151 (by decide) ?_
    refine zr_iret X (by decide) (by decide) dX8_told_155 ?_
    have e9 : qState S 7 = 1 := if_pos (by rw [zPanB_iff]; exact hp1)
    rw [e9] at k1; exact k1
  · skip
    intro hp1
    refine zr_if_eq (tgt := 154) X dX8_told_147 (by decide) (fun _ => ?_) (fun h => absurd h (by decide))
    refine zr_iconst (v := (0 : Int32)) X dX8_told_154 (by decide) ?_
    refine zr_iret X (by decide) (by decide) dX8_told_155 ?_
    have e9 : qState S 7 = 0 := if_neg (by rw [zPanB_iff]; exact hp1)
    rw [e9] at k1; exact k1
set_option maxRecDepth 20000 in
theorem zp8_X8_told {l : Launch} {D : va_G} {b0 : Nat} {tA : Nat → ClassId} {sa sv : Nat → Nat} {K : Nat → Option Nat} {I : zI} {Qp : zI → Option AV → Prop} {Xp : String → zI → Prop} {y : Nat} {S : zS}
    (hM : zMd I (y + 2) S) (hW : zWf S) (k1 : Qp I (some (vi (qState S 8)))) :
    zC l D b0 tA sa sv K yX8_told (.code yX8_told cX8_told 2 (some .int)) zrm_X8_told [vr (y) 8, vi ((8 : Int32))] I Qp Xp := by
  refine zC_of (by decide +kernel) (Nat.le_of_ble_eq_true rfl) ?_
  intro p e s m args below meth c X hnt
  have X : zX p l e zrm_X8_told s m args below meth c RX8 cX8_told 2 (some .int) D b0 tA sa sv := X
  refine zr_lv (lv2 := [some (vr (y) 8), some (vi ((8 : Int32)))]) rfl ?_
  refine zr_iload1 X dX8_told_0 ?_
  refine zr_tblIn (off := 155) (tgt := 156) X dX8_told_1 (by decide) (by decide) (by decide) (by decide) ?_
  refine zr_aload0 X dX8_told_156 ?_
  refine zr_getR X zf_X8_17 rfl (by decide) (by decide) dX8_told_157 ?_
  refine zr_callS1 (rm9 := zrm_X8_keys) X hnt zm_X8_64 (by decide) (by decide) (by decide) (Nat.le_of_ble_eq_true rfl) dX8_told_160 ?_
  refine zn_X8_keys hM ?_
  refine zr_iret X (by decide) (by decide) dX8_told_163 ?_
  exact k1
set_option maxRecDepth 20000 in
theorem zp9_X8_told {l : Launch} {D : va_G} {b0 : Nat} {tA : Nat → ClassId} {sa sv : Nat → Nat} {K : Nat → Option Nat} {I : zI} {Qp : zI → Option AV → Prop} {Xp : String → zI → Prop} {y : Nat} {S : zS}
    (hM : zMd I (y + 2) S) (hW : zWf S) (k1 : Qp I (some (vi (qState S 9)))) :
    zC l D b0 tA sa sv K yX8_told (.code yX8_told cX8_told 2 (some .int)) zrm_X8_told [vr (y) 8, vi ((9 : Int32))] I Qp Xp := by
  refine zC_of (by decide +kernel) (Nat.le_of_ble_eq_true rfl) ?_
  intro p e s m args below meth c X hnt
  have X : zX p l e zrm_X8_told s m args below meth c RX8 cX8_told 2 (some .int) D b0 tA sa sv := X
  refine zr_lv (lv2 := [some (vr (y) 8), some (vi ((9 : Int32)))]) rfl ?_
  refine zr_iload1 X dX8_told_0 ?_
  refine zr_tblIn (off := 168) (tgt := 169) X dX8_told_1 (by decide) (by decide) (by decide) (by decide) ?_
  refine zr_aload0 X dX8_told_169 ?_
  refine zr_getR X zf_X8_17 rfl (by decide) (by decide) dX8_told_170 ?_
  refine zr_bipush (v := (9 : Int32)) X dX8_told_173 (by decide) ?_
  refine zr_iload1 X dX8_told_175 ?_
  refine zr_iadd X dX8_told_176 ?_
  refine zr_eq (x2 := (18 : Int32)) (by decide) ?_
  refine zr_bipush (v := (9 : Int32)) X dX8_told_177 (by decide) ?_
  refine zr_isub X dX8_told_179 ?_
  refine zr_eq (x2 := (9 : Int32)) (by decide) ?_
  refine zr_ialdN (n := 9) X rfl (show _ < 310 from (by first | assumption | omega | decide)) dX8_told_180 ?_
  refine zr_eq (x2 := (sX S 9)) (hM.1 9 (by decide)) ?_
  refine zr_iret X (by decide) (by decide) dX8_told_181 ?_
  exact k1
set_option maxRecDepth 20000 in
theorem zp10_X8_told {l : Launch} {D : va_G} {b0 : Nat} {tA : Nat → ClassId} {sa sv : Nat → Nat} {K : Nat → Option Nat} {I : zI} {Qp : zI → Option AV → Prop} {Xp : String → zI → Prop} {y : Nat} {S : zS}
    (hM : zMd I (y + 2) S) (hW : zWf S) (k1 : Qp I (some (vi (qState S 10)))) :
    zC l D b0 tA sa sv K yX8_told (.code yX8_told cX8_told 2 (some .int)) zrm_X8_told [vr (y) 8, vi ((10 : Int32))] I Qp Xp := by
  refine zC_of (by decide +kernel) (Nat.le_of_ble_eq_true rfl) ?_
  intro p e s m args below meth c X hnt
  have X : zX p l e zrm_X8_told s m args below meth c RX8 cX8_told 2 (some .int) D b0 tA sa sv := X
  refine zr_lv (lv2 := [some (vr (y) 8), some (vi ((10 : Int32)))]) rfl ?_
  refine zr_iload1 X dX8_told_0 ?_
  refine zr_tblIn (off := 168) (tgt := 169) X dX8_told_1 (by decide) (by decide) (by decide) (by decide) ?_
  refine zr_aload0 X dX8_told_169 ?_
  refine zr_getR X zf_X8_17 rfl (by decide) (by decide) dX8_told_170 ?_
  refine zr_bipush (v := (9 : Int32)) X dX8_told_173 (by decide) ?_
  refine zr_iload1 X dX8_told_175 ?_
  refine zr_iadd X dX8_told_176 ?_
  refine zr_eq (x2 := (19 : Int32)) (by decide) ?_
  refine zr_bipush (v := (9 : Int32)) X dX8_told_177 (by decide) ?_
  refine zr_isub X dX8_told_179 ?_
  refine zr_eq (x2 := (10 : Int32)) (by decide) ?_
  refine zr_ialdN (n := 10) X rfl (show _ < 310 from (by first | assumption | omega | decide)) dX8_told_180 ?_
  refine zr_eq (x2 := (sX S 10)) (hM.1 10 (by decide)) ?_
  refine zr_iret X (by decide) (by decide) dX8_told_181 ?_
  exact k1
set_option maxRecDepth 20000 in
theorem zp11_X8_told {l : Launch} {D : va_G} {b0 : Nat} {tA : Nat → ClassId} {sa sv : Nat → Nat} {K : Nat → Option Nat} {I : zI} {Qp : zI → Option AV → Prop} {Xp : String → zI → Prop} {y : Nat} {S : zS}
    (hM : zMd I (y + 2) S) (hW : zWf S) (k1 : Qp I (some (vi (qState S 11)))) :
    zC l D b0 tA sa sv K yX8_told (.code yX8_told cX8_told 2 (some .int)) zrm_X8_told [vr (y) 8, vi ((11 : Int32))] I Qp Xp := by
  refine zC_of (by decide +kernel) (Nat.le_of_ble_eq_true rfl) ?_
  intro p e s m args below meth c X hnt
  have X : zX p l e zrm_X8_told s m args below meth c RX8 cX8_told 2 (some .int) D b0 tA sa sv := X
  refine zr_lv (lv2 := [some (vr (y) 8), some (vi ((11 : Int32)))]) rfl ?_
  refine zr_iload1 X dX8_told_0 ?_
  refine zr_tblIn (off := 168) (tgt := 169) X dX8_told_1 (by decide) (by decide) (by decide) (by decide) ?_
  refine zr_aload0 X dX8_told_169 ?_
  refine zr_getR X zf_X8_17 rfl (by decide) (by decide) dX8_told_170 ?_
  refine zr_bipush (v := (9 : Int32)) X dX8_told_173 (by decide) ?_
  refine zr_iload1 X dX8_told_175 ?_
  refine zr_iadd X dX8_told_176 ?_
  refine zr_eq (x2 := (20 : Int32)) (by decide) ?_
  refine zr_bipush (v := (9 : Int32)) X dX8_told_177 (by decide) ?_
  refine zr_isub X dX8_told_179 ?_
  refine zr_eq (x2 := (11 : Int32)) (by decide) ?_
  refine zr_ialdN (n := 11) X rfl (show _ < 310 from (by first | assumption | omega | decide)) dX8_told_180 ?_
  refine zr_eq (x2 := (sX S 11)) (hM.1 11 (by decide)) ?_
  refine zr_iret X (by decide) (by decide) dX8_told_181 ?_
  exact k1
set_option maxRecDepth 20000 in
theorem zp12_X8_told {l : Launch} {D : va_G} {b0 : Nat} {tA : Nat → ClassId} {sa sv : Nat → Nat} {K : Nat → Option Nat} {I : zI} {Qp : zI → Option AV → Prop} {Xp : String → zI → Prop} {y : Nat} {S : zS}
    (hM : zMd I (y + 2) S) (hW : zWf S) (k1 : Qp I (some (vi (qState S 12)))) :
    zC l D b0 tA sa sv K yX8_told (.code yX8_told cX8_told 2 (some .int)) zrm_X8_told [vr (y) 8, vi ((12 : Int32))] I Qp Xp := by
  refine zC_of (by decide +kernel) (Nat.le_of_ble_eq_true rfl) ?_
  intro p e s m args below meth c X hnt
  have X : zX p l e zrm_X8_told s m args below meth c RX8 cX8_told 2 (some .int) D b0 tA sa sv := X
  refine zr_lv (lv2 := [some (vr (y) 8), some (vi ((12 : Int32)))]) rfl ?_
  refine zr_iload1 X dX8_told_0 ?_
  refine zr_tblIn (off := 168) (tgt := 169) X dX8_told_1 (by decide) (by decide) (by decide) (by decide) ?_
  refine zr_aload0 X dX8_told_169 ?_
  refine zr_getR X zf_X8_17 rfl (by decide) (by decide) dX8_told_170 ?_
  refine zr_bipush (v := (9 : Int32)) X dX8_told_173 (by decide) ?_
  refine zr_iload1 X dX8_told_175 ?_
  refine zr_iadd X dX8_told_176 ?_
  refine zr_eq (x2 := (21 : Int32)) (by decide) ?_
  refine zr_bipush (v := (9 : Int32)) X dX8_told_177 (by decide) ?_
  refine zr_isub X dX8_told_179 ?_
  refine zr_eq (x2 := (12 : Int32)) (by decide) ?_
  refine zr_ialdN (n := 12) X rfl (show _ < 310 from (by first | assumption | omega | decide)) dX8_told_180 ?_
  refine zr_eq (x2 := (sX S 12)) (hM.1 12 (by decide)) ?_
  refine zr_iret X (by decide) (by decide) dX8_told_181 ?_
  exact k1
set_option maxRecDepth 20000 in
theorem zp13_X8_told {l : Launch} {D : va_G} {b0 : Nat} {tA : Nat → ClassId} {sa sv : Nat → Nat} {K : Nat → Option Nat} {I : zI} {Qp : zI → Option AV → Prop} {Xp : String → zI → Prop} {y : Nat} {S : zS}
    (hM : zMd I (y + 2) S) (hW : zWf S) (k1 : Qp I (some (vi (qState S 13)))) :
    zC l D b0 tA sa sv K yX8_told (.code yX8_told cX8_told 2 (some .int)) zrm_X8_told [vr (y) 8, vi ((13 : Int32))] I Qp Xp := by
  refine zC_of (by decide +kernel) (Nat.le_of_ble_eq_true rfl) ?_
  intro p e s m args below meth c X hnt
  have X : zX p l e zrm_X8_told s m args below meth c RX8 cX8_told 2 (some .int) D b0 tA sa sv := X
  refine zr_lv (lv2 := [some (vr (y) 8), some (vi ((13 : Int32)))]) rfl ?_
  refine zr_iload1 X dX8_told_0 ?_
  refine zr_tblIn (off := 168) (tgt := 169) X dX8_told_1 (by decide) (by decide) (by decide) (by decide) ?_
  refine zr_aload0 X dX8_told_169 ?_
  refine zr_getR X zf_X8_17 rfl (by decide) (by decide) dX8_told_170 ?_
  refine zr_bipush (v := (9 : Int32)) X dX8_told_173 (by decide) ?_
  refine zr_iload1 X dX8_told_175 ?_
  refine zr_iadd X dX8_told_176 ?_
  refine zr_eq (x2 := (22 : Int32)) (by decide) ?_
  refine zr_bipush (v := (9 : Int32)) X dX8_told_177 (by decide) ?_
  refine zr_isub X dX8_told_179 ?_
  refine zr_eq (x2 := (13 : Int32)) (by decide) ?_
  refine zr_ialdN (n := 13) X rfl (show _ < 310 from (by first | assumption | omega | decide)) dX8_told_180 ?_
  refine zr_eq (x2 := (sX S 13)) (hM.1 13 (by decide)) ?_
  refine zr_iret X (by decide) (by decide) dX8_told_181 ?_
  exact k1
set_option maxRecDepth 20000 in
theorem zp14_X8_told {l : Launch} {D : va_G} {b0 : Nat} {tA : Nat → ClassId} {sa sv : Nat → Nat} {K : Nat → Option Nat} {I : zI} {Qp : zI → Option AV → Prop} {Xp : String → zI → Prop} {y : Nat} {S : zS}
    (hM : zMd I (y + 2) S) (hW : zWf S) (k1 : Qp I (some (vi (qState S 14)))) :
    zC l D b0 tA sa sv K yX8_told (.code yX8_told cX8_told 2 (some .int)) zrm_X8_told [vr (y) 8, vi ((14 : Int32))] I Qp Xp := by
  refine zC_of (by decide +kernel) (Nat.le_of_ble_eq_true rfl) ?_
  intro p e s m args below meth c X hnt
  have X : zX p l e zrm_X8_told s m args below meth c RX8 cX8_told 2 (some .int) D b0 tA sa sv := X
  refine zr_lv (lv2 := [some (vr (y) 8), some (vi ((14 : Int32)))]) rfl ?_
  refine zr_iload1 X dX8_told_0 ?_
  refine zr_tblIn (off := 168) (tgt := 169) X dX8_told_1 (by decide) (by decide) (by decide) (by decide) ?_
  refine zr_aload0 X dX8_told_169 ?_
  refine zr_getR X zf_X8_17 rfl (by decide) (by decide) dX8_told_170 ?_
  refine zr_bipush (v := (9 : Int32)) X dX8_told_173 (by decide) ?_
  refine zr_iload1 X dX8_told_175 ?_
  refine zr_iadd X dX8_told_176 ?_
  refine zr_eq (x2 := (23 : Int32)) (by decide) ?_
  refine zr_bipush (v := (9 : Int32)) X dX8_told_177 (by decide) ?_
  refine zr_isub X dX8_told_179 ?_
  refine zr_eq (x2 := (14 : Int32)) (by decide) ?_
  refine zr_ialdN (n := 14) X rfl (show _ < 310 from (by first | assumption | omega | decide)) dX8_told_180 ?_
  refine zr_eq (x2 := (sX S 14)) (hM.1 14 (by decide)) ?_
  refine zr_iret X (by decide) (by decide) dX8_told_181 ?_
  exact k1
set_option maxRecDepth 20000 in
theorem zp15_X8_told {l : Launch} {D : va_G} {b0 : Nat} {tA : Nat → ClassId} {sa sv : Nat → Nat} {K : Nat → Option Nat} {I : zI} {Qp : zI → Option AV → Prop} {Xp : String → zI → Prop} {y : Nat} {S : zS}
    (hM : zMd I (y + 2) S) (hW : zWf S) (k1 : Qp I (some (vi (qState S 15)))) :
    zC l D b0 tA sa sv K yX8_told (.code yX8_told cX8_told 2 (some .int)) zrm_X8_told [vr (y) 8, vi ((15 : Int32))] I Qp Xp := by
  refine zC_of (by decide +kernel) (Nat.le_of_ble_eq_true rfl) ?_
  intro p e s m args below meth c X hnt
  have X : zX p l e zrm_X8_told s m args below meth c RX8 cX8_told 2 (some .int) D b0 tA sa sv := X
  refine zr_lv (lv2 := [some (vr (y) 8), some (vi ((15 : Int32)))]) rfl ?_
  refine zr_iload1 X dX8_told_0 ?_
  refine zr_tblIn (off := 163) (tgt := 164) X dX8_told_1 (by decide) (by decide) (by decide) (by decide) ?_
  refine zr_aload0 X dX8_told_164 ?_
  refine zr_callV0 (rm9 := zrm_X8_open) X hnt zm_X8_236 (by decide) (by decide) (by decide) (Nat.le_of_ble_eq_true rfl) dX8_told_165 ?_
  refine zp_X8_open hM hW ?_
  refine zr_iret X (by decide) (by decide) dX8_told_168 ?_
  exact k1
theorem zq_X8_told {l : Launch} {D : va_G} {b0 : Nat} {tA : Nat → ClassId} {sa sv : Nat → Nat} {K : Nat → Option Nat} {I : zI} {Qp : zI → Option AV → Prop} {Xp : String → zI → Prop} {y w9 : Nat} {S : zS} (hM : zMd I (y + 2) S) (hW : zWf S) (hw9 : w9 < 16) (k1 : Qp I (some (vi (qState S w9)))) :
    zC l D b0 tA sa sv K yX8_told (.code yX8_told cX8_told 2 (some .int)) zrm_X8_told [vr (y) 8, vi ((nI w9))] I Qp Xp := by
  rcases (show w9 = 0 ∨ w9 = 1 ∨ w9 = 2 ∨ w9 = 3 ∨ w9 = 4 ∨ w9 = 5 ∨ w9 = 6 ∨ w9 = 7 ∨ w9 = 8 ∨ w9 = 9 ∨ w9 = 10 ∨ w9 = 11 ∨ w9 = 12 ∨ w9 = 13 ∨ w9 = 14 ∨ w9 = 15 by omega) with rfl | rfl | rfl | rfl | rfl | rfl | rfl | rfl | rfl | rfl | rfl | rfl | rfl | rfl | rfl | rfl
  · exact zp0_X8_told hM hW k1
  · exact zp1_X8_told hM hW k1
  · exact zp2_X8_told hM hW k1
  · exact zp3_X8_told hM hW k1
  · exact zp4_X8_told hM hW k1
  · exact zp5_X8_told hM hW k1
  · exact zp6_X8_told hM hW k1
  · exact zp7_X8_told hM hW k1
  · exact zp8_X8_told hM hW k1
  · exact zp9_X8_told hM hW k1
  · exact zp10_X8_told hM hW k1
  · exact zp11_X8_told hM hW k1
  · exact zp12_X8_told hM hW k1
  · exact zp13_X8_told hM hW k1
  · exact zp14_X8_told hM hW k1
  · exact zp15_X8_told hM hW k1
abbrev zrm_X8_ofGate : Room := { frames := 2, cells := 0, slots := 0, locals := 43 }
set_option maxRecDepth 20000 in
theorem zp0_X8_ofGate {l : Launch} {D : va_G} {b0 : Nat} {tA : Nat → ClassId} {sa sv : Nat → Nat} {K : Nat → Option Nat} {I : zI} {Qp : zI → Option AV → Prop} {Xp : String → zI → Prop} {y g : Nat} {S : zS}
    (hM : zMd I (y + 2) S) (hW : zWf S) (hg : g < zng S) (k1 : Qp I (some (vi (qGate S g 0)))) :
    zC l D b0 tA sa sv K yX8_ofGate (.code yX8_ofGate cX8_ofGate 3 (some .int)) zrm_X8_ofGate [vr (y) 8, vi ((nI g)), vi ((0 : Int32))] I Qp Xp := by
  have hg6 := hW.ng.1
  have hc12 := hW.nc.1
  refine zC_of (by decide +kernel) (Nat.le_of_ble_eq_true rfl) ?_
  intro p e s m args below meth c X hnt
  have X : zX p l e zrm_X8_ofGate s m args below meth c RX8 cX8_ofGate 3 (some .int) D b0 tA sa sv := X
  refine zr_lv (lv2 := [some (vr (y) 8), some (vi ((nI g))), some (vi ((0 : Int32)))]) rfl ?_
  refine zr_iload2 X dX8_ofGate_0 ?_
  refine zr_tblIn (off := 47) (tgt := 48) X dX8_ofGate_1 (by decide) (by decide) (by decide) (by decide) ?_
  refine zr_aload0 X dX8_ofGate_48 ?_
  refine zr_getR X zf_X8_17 rfl (by decide) (by decide) dX8_ofGate_49 ?_
  refine zr_iload1 X dX8_ofGate_52 ?_
  refine zr_iconst (v := (0 : Int32)) X dX8_ofGate_53 (by decide) ?_
  refine zr_callS2 (rm9 := zrm_X8_gateAt) X hnt zm_X8_34 (by decide) (by decide) (by decide) (Nat.le_of_ble_eq_true rfl) dX8_ofGate_54 ?_
  refine zn_X8_gateAt (g := g) (w := 0) ?_
  refine zr_ialdN (n := 16 + 29 * g + 0) X rfl (show _ < 310 from (by first | assumption | omega | decide)) dX8_ofGate_57 ?_
  refine zr_eq (x2 := (sG S g 0)) ((hM.2.1 g (by omega)).1 0 (by first | decide | omega)) ?_
  refine zr_iret X (by decide) (by decide) dX8_ofGate_58 ?_
  exact k1
set_option maxRecDepth 20000 in
theorem zp1_X8_ofGate {l : Launch} {D : va_G} {b0 : Nat} {tA : Nat → ClassId} {sa sv : Nat → Nat} {K : Nat → Option Nat} {I : zI} {Qp : zI → Option AV → Prop} {Xp : String → zI → Prop} {y g : Nat} {S : zS}
    (hM : zMd I (y + 2) S) (hW : zWf S) (hg : g < zng S) (k1 : Qp I (some (vi (qGate S g 1)))) :
    zC l D b0 tA sa sv K yX8_ofGate (.code yX8_ofGate cX8_ofGate 3 (some .int)) zrm_X8_ofGate [vr (y) 8, vi ((nI g)), vi ((1 : Int32))] I Qp Xp := by
  have hg6 := hW.ng.1
  have hc12 := hW.nc.1
  refine zC_of (by decide +kernel) (Nat.le_of_ble_eq_true rfl) ?_
  intro p e s m args below meth c X hnt
  have X : zX p l e zrm_X8_ofGate s m args below meth c RX8 cX8_ofGate 3 (some .int) D b0 tA sa sv := X
  refine zr_lv (lv2 := [some (vr (y) 8), some (vi ((nI g))), some (vi ((1 : Int32)))]) rfl ?_
  refine zr_iload2 X dX8_ofGate_0 ?_
  refine zr_tblIn (off := 58) (tgt := 59) X dX8_ofGate_1 (by decide) (by decide) (by decide) (by decide) ?_
  refine zr_aload0 X dX8_ofGate_59 ?_
  refine zr_getR X zf_X8_17 rfl (by decide) (by decide) dX8_ofGate_60 ?_
  refine zr_iload1 X dX8_ofGate_63 ?_
  refine zr_iconst (v := (1 : Int32)) X dX8_ofGate_64 (by decide) ?_
  refine zr_callS2 (rm9 := zrm_X8_gateAt) X hnt zm_X8_34 (by decide) (by decide) (by decide) (Nat.le_of_ble_eq_true rfl) dX8_ofGate_65 ?_
  refine zn_X8_gateAt (g := g) (w := 1) ?_
  refine zr_ialdN (n := 16 + 29 * g + 1) X rfl (show _ < 310 from (by first | assumption | omega | decide)) dX8_ofGate_68 ?_
  refine zr_eq (x2 := (sG S g 1)) ((hM.2.1 g (by omega)).1 1 (by first | decide | omega)) ?_
  refine zr_iret X (by decide) (by decide) dX8_ofGate_69 ?_
  exact k1
set_option maxRecDepth 20000 in
theorem zp2_X8_ofGate {l : Launch} {D : va_G} {b0 : Nat} {tA : Nat → ClassId} {sa sv : Nat → Nat} {K : Nat → Option Nat} {I : zI} {Qp : zI → Option AV → Prop} {Xp : String → zI → Prop} {y g : Nat} {S : zS}
    (hM : zMd I (y + 2) S) (hW : zWf S) (hg : g < zng S) (k1 : Qp I (some (vi (qGate S g 2)))) :
    zC l D b0 tA sa sv K yX8_ofGate (.code yX8_ofGate cX8_ofGate 3 (some .int)) zrm_X8_ofGate [vr (y) 8, vi ((nI g)), vi ((2 : Int32))] I Qp Xp := by
  have hg6 := hW.ng.1
  have hc12 := hW.nc.1
  refine zC_of (by decide +kernel) (Nat.le_of_ble_eq_true rfl) ?_
  intro p e s m args below meth c X hnt
  have X : zX p l e zrm_X8_ofGate s m args below meth c RX8 cX8_ofGate 3 (some .int) D b0 tA sa sv := X
  refine zr_lv (lv2 := [some (vr (y) 8), some (vi ((nI g))), some (vi ((2 : Int32)))]) rfl ?_
  refine zr_iload2 X dX8_ofGate_0 ?_
  refine zr_tblIn (off := 69) (tgt := 70) X dX8_ofGate_1 (by decide) (by decide) (by decide) (by decide) ?_
  refine zr_aload0 X dX8_ofGate_70 ?_
  refine zr_getR X zf_X8_17 rfl (by decide) (by decide) dX8_ofGate_71 ?_
  refine zr_iload1 X dX8_ofGate_74 ?_
  refine zr_iconst (v := (2 : Int32)) X dX8_ofGate_75 (by decide) ?_
  refine zr_callS2 (rm9 := zrm_X8_gateAt) X hnt zm_X8_34 (by decide) (by decide) (by decide) (Nat.le_of_ble_eq_true rfl) dX8_ofGate_76 ?_
  refine zn_X8_gateAt (g := g) (w := 2) ?_
  refine zr_ialdN (n := 16 + 29 * g + 2) X rfl (show _ < 310 from (by first | assumption | omega | decide)) dX8_ofGate_79 ?_
  refine zr_eq (x2 := (sG S g 2)) ((hM.2.1 g (by omega)).1 2 (by first | decide | omega)) ?_
  refine zr_iconst (v := (1 : Int32)) X dX8_ofGate_80 (by decide) ?_
  refine zr_isub X dX8_ofGate_81 ?_
  refine zr_iret X (by decide) (by decide) dX8_ofGate_82 ?_
  exact k1
set_option maxRecDepth 20000 in
theorem zp3_X8_ofGate {l : Launch} {D : va_G} {b0 : Nat} {tA : Nat → ClassId} {sa sv : Nat → Nat} {K : Nat → Option Nat} {I : zI} {Qp : zI → Option AV → Prop} {Xp : String → zI → Prop} {y g : Nat} {S : zS}
    (hM : zMd I (y + 2) S) (hW : zWf S) (hg : g < zng S) (k1 : Qp I (some (vi (qGate S g 3)))) :
    zC l D b0 tA sa sv K yX8_ofGate (.code yX8_ofGate cX8_ofGate 3 (some .int)) zrm_X8_ofGate [vr (y) 8, vi ((nI g)), vi ((3 : Int32))] I Qp Xp := by
  have hg6 := hW.ng.1
  have hc12 := hW.nc.1
  refine zC_of (by decide +kernel) (Nat.le_of_ble_eq_true rfl) ?_
  intro p e s m args below meth c X hnt
  have X : zX p l e zrm_X8_ofGate s m args below meth c RX8 cX8_ofGate 3 (some .int) D b0 tA sa sv := X
  refine zr_lv (lv2 := [some (vr (y) 8), some (vi ((nI g))), some (vi ((3 : Int32)))]) rfl ?_
  refine zr_iload2 X dX8_ofGate_0 ?_
  refine zr_tblIn (off := 82) (tgt := 83) X dX8_ofGate_1 (by decide) (by decide) (by decide) (by decide) ?_
  refine zr_aload0 X dX8_ofGate_83 ?_
  refine zr_getR X zf_X8_17 rfl (by decide) (by decide) dX8_ofGate_84 ?_
  refine zr_iload1 X dX8_ofGate_87 ?_
  refine zr_iconst (v := (3 : Int32)) X dX8_ofGate_88 (by decide) ?_
  refine zr_callS2 (rm9 := zrm_X8_gateAt) X hnt zm_X8_34 (by decide) (by decide) (by decide) (Nat.le_of_ble_eq_true rfl) dX8_ofGate_89 ?_
  refine zn_X8_gateAt (g := g) (w := 3) ?_
  refine zr_ialdN (n := 16 + 29 * g + 3) X rfl (show _ < 310 from (by first | assumption | omega | decide)) dX8_ofGate_92 ?_
  refine zr_eq (x2 := (sG S g 3)) ((hM.2.1 g (by omega)).1 3 (by first | decide | omega)) ?_
  refine zr_iret X (by decide) (by decide) dX8_ofGate_93 ?_
  exact k1
set_option maxRecDepth 20000 in
theorem zp4_X8_ofGate {l : Launch} {D : va_G} {b0 : Nat} {tA : Nat → ClassId} {sa sv : Nat → Nat} {K : Nat → Option Nat} {I : zI} {Qp : zI → Option AV → Prop} {Xp : String → zI → Prop} {y g : Nat} {S : zS}
    (hM : zMd I (y + 2) S) (hW : zWf S) (hg : g < zng S) (k1 : Qp I (some (vi (qGate S g 4)))) :
    zC l D b0 tA sa sv K yX8_ofGate (.code yX8_ofGate cX8_ofGate 3 (some .int)) zrm_X8_ofGate [vr (y) 8, vi ((nI g)), vi ((4 : Int32))] I Qp Xp := by
  have hg6 := hW.ng.1
  have hc12 := hW.nc.1
  refine zC_of (by decide +kernel) (Nat.le_of_ble_eq_true rfl) ?_
  intro p e s m args below meth c X hnt
  have X : zX p l e zrm_X8_ofGate s m args below meth c RX8 cX8_ofGate 3 (some .int) D b0 tA sa sv := X
  refine zr_lv (lv2 := [some (vr (y) 8), some (vi ((nI g))), some (vi ((4 : Int32)))]) rfl ?_
  refine zr_iload2 X dX8_ofGate_0 ?_
  refine zr_tblIn (off := 93) (tgt := 94) X dX8_ofGate_1 (by decide) (by decide) (by decide) (by decide) ?_
  refine zr_aload0 X dX8_ofGate_94 ?_
  refine zr_getR X zf_X8_17 rfl (by decide) (by decide) dX8_ofGate_95 ?_
  refine zr_iload1 X dX8_ofGate_98 ?_
  refine zr_iload2 X dX8_ofGate_99 ?_
  refine zr_iconst (v := (4 : Int32)) X dX8_ofGate_100 (by decide) ?_
  refine zr_isub X dX8_ofGate_101 ?_
  refine zr_eq (x2 := (0 : Int32)) (by decide) ?_
  refine zr_callS3 (rm9 := zrm_X8_many) X hnt zm_X8_38 (by decide) (by decide) (by decide) (Nat.le_of_ble_eq_true rfl) dX8_ofGate_102 ?_
  refine zn_X8_many (g := g) (s9 := 0) hM (by omega) (by omega) ?_
  refine zr_iret X (by decide) (by decide) dX8_ofGate_105 ?_
  exact k1
set_option maxRecDepth 20000 in
theorem zp5_X8_ofGate {l : Launch} {D : va_G} {b0 : Nat} {tA : Nat → ClassId} {sa sv : Nat → Nat} {K : Nat → Option Nat} {I : zI} {Qp : zI → Option AV → Prop} {Xp : String → zI → Prop} {y g : Nat} {S : zS}
    (hM : zMd I (y + 2) S) (hW : zWf S) (hg : g < zng S) (k1 : Qp I (some (vi (qGate S g 5)))) :
    zC l D b0 tA sa sv K yX8_ofGate (.code yX8_ofGate cX8_ofGate 3 (some .int)) zrm_X8_ofGate [vr (y) 8, vi ((nI g)), vi ((5 : Int32))] I Qp Xp := by
  have hg6 := hW.ng.1
  have hc12 := hW.nc.1
  refine zC_of (by decide +kernel) (Nat.le_of_ble_eq_true rfl) ?_
  intro p e s m args below meth c X hnt
  have X : zX p l e zrm_X8_ofGate s m args below meth c RX8 cX8_ofGate 3 (some .int) D b0 tA sa sv := X
  refine zr_lv (lv2 := [some (vr (y) 8), some (vi ((nI g))), some (vi ((5 : Int32)))]) rfl ?_
  refine zr_iload2 X dX8_ofGate_0 ?_
  refine zr_tblIn (off := 93) (tgt := 94) X dX8_ofGate_1 (by decide) (by decide) (by decide) (by decide) ?_
  refine zr_aload0 X dX8_ofGate_94 ?_
  refine zr_getR X zf_X8_17 rfl (by decide) (by decide) dX8_ofGate_95 ?_
  refine zr_iload1 X dX8_ofGate_98 ?_
  refine zr_iload2 X dX8_ofGate_99 ?_
  refine zr_iconst (v := (4 : Int32)) X dX8_ofGate_100 (by decide) ?_
  refine zr_isub X dX8_ofGate_101 ?_
  refine zr_eq (x2 := (1 : Int32)) (by decide) ?_
  refine zr_callS3 (rm9 := zrm_X8_many) X hnt zm_X8_38 (by decide) (by decide) (by decide) (Nat.le_of_ble_eq_true rfl) dX8_ofGate_102 ?_
  refine zn_X8_many (g := g) (s9 := 1) hM (by omega) (by omega) ?_
  refine zr_iret X (by decide) (by decide) dX8_ofGate_105 ?_
  exact k1
set_option maxRecDepth 20000 in
theorem zp6_X8_ofGate {l : Launch} {D : va_G} {b0 : Nat} {tA : Nat → ClassId} {sa sv : Nat → Nat} {K : Nat → Option Nat} {I : zI} {Qp : zI → Option AV → Prop} {Xp : String → zI → Prop} {y g : Nat} {S : zS}
    (hM : zMd I (y + 2) S) (hW : zWf S) (hg : g < zng S) (k1 : Qp I (some (vi (qGate S g 6)))) :
    zC l D b0 tA sa sv K yX8_ofGate (.code yX8_ofGate cX8_ofGate 3 (some .int)) zrm_X8_ofGate [vr (y) 8, vi ((nI g)), vi ((6 : Int32))] I Qp Xp := by
  have hg6 := hW.ng.1
  have hc12 := hW.nc.1
  refine zC_of (by decide +kernel) (Nat.le_of_ble_eq_true rfl) ?_
  intro p e s m args below meth c X hnt
  have X : zX p l e zrm_X8_ofGate s m args below meth c RX8 cX8_ofGate 3 (some .int) D b0 tA sa sv := X
  refine zr_lv (lv2 := [some (vr (y) 8), some (vi ((nI g))), some (vi ((6 : Int32)))]) rfl ?_
  refine zr_iload2 X dX8_ofGate_0 ?_
  refine zr_tblIn (off := 105) (tgt := 106) X dX8_ofGate_1 (by decide) (by decide) (by decide) (by decide) ?_
  refine zr_aload0 X dX8_ofGate_106 ?_
  refine zr_getR X zf_X8_17 rfl (by decide) (by decide) dX8_ofGate_107 ?_
  refine zr_iload1 X dX8_ofGate_110 ?_
  refine zr_iconst (v := (4 : Int32)) X dX8_ofGate_111 (by decide) ?_
  refine zr_callS2 (rm9 := zrm_X8_gateAt) X hnt zm_X8_34 (by decide) (by decide) (by decide) (Nat.le_of_ble_eq_true rfl) dX8_ofGate_112 ?_
  refine zn_X8_gateAt (g := g) (w := 4) ?_
  refine zr_ialdN (n := 16 + 29 * g + 4) X rfl (show _ < 310 from (by first | assumption | omega | decide)) dX8_ofGate_115 ?_
  refine zr_eq (x2 := (sG S g 4)) ((hM.2.1 g (by omega)).1 4 (by first | decide | omega)) ?_
  refine zr_iret X (by decide) (by decide) dX8_ofGate_116 ?_
  exact k1
set_option maxRecDepth 20000 in
theorem zp7_X8_ofGate {l : Launch} {D : va_G} {b0 : Nat} {tA : Nat → ClassId} {sa sv : Nat → Nat} {K : Nat → Option Nat} {I : zI} {Qp : zI → Option AV → Prop} {Xp : String → zI → Prop} {y g : Nat} {S : zS}
    (hM : zMd I (y + 2) S) (hW : zWf S) (hg : g < zng S) (k1 : Qp I (some (vi (qGate S g 7)))) :
    zC l D b0 tA sa sv K yX8_ofGate (.code yX8_ofGate cX8_ofGate 3 (some .int)) zrm_X8_ofGate [vr (y) 8, vi ((nI g)), vi ((7 : Int32))] I Qp Xp := by
  have hg6 := hW.ng.1
  have hc12 := hW.nc.1
  refine zC_of (by decide +kernel) (Nat.le_of_ble_eq_true rfl) ?_
  intro p e s m args below meth c X hnt
  have X : zX p l e zrm_X8_ofGate s m args below meth c RX8 cX8_ofGate 3 (some .int) D b0 tA sa sv := X
  refine zr_lv (lv2 := [some (vr (y) 8), some (vi ((nI g))), some (vi ((7 : Int32)))]) rfl ?_
  refine zr_iload2 X dX8_ofGate_0 ?_
  refine zr_tblIn (off := 116) (tgt := 117) X dX8_ofGate_1 (by decide) (by decide) (by decide) (by decide) ?_
  refine zr_aload0 X dX8_ofGate_117 ?_
  refine zr_getR X zf_X8_17 rfl (by decide) (by decide) dX8_ofGate_118 ?_
  refine zr_iload1 X dX8_ofGate_121 ?_
  refine zr_iconst (v := (5 : Int32)) X dX8_ofGate_122 (by decide) ?_
  refine zr_callS2 (rm9 := zrm_X8_gateAt) X hnt zm_X8_34 (by decide) (by decide) (by decide) (Nat.le_of_ble_eq_true rfl) dX8_ofGate_123 ?_
  refine zn_X8_gateAt (g := g) (w := 5) ?_
  refine zr_ialdN (n := 16 + 29 * g + 5) X rfl (show _ < 310 from (by first | assumption | omega | decide)) dX8_ofGate_126 ?_
  refine zr_eq (x2 := (sG S g 5)) ((hM.2.1 g (by omega)).1 5 (by first | decide | omega)) ?_
  refine zr_iret X (by decide) (by decide) dX8_ofGate_127 ?_
  exact k1
set_option maxRecDepth 20000 in
theorem zp8_X8_ofGate {l : Launch} {D : va_G} {b0 : Nat} {tA : Nat → ClassId} {sa sv : Nat → Nat} {K : Nat → Option Nat} {I : zI} {Qp : zI → Option AV → Prop} {Xp : String → zI → Prop} {y g : Nat} {S : zS}
    (hM : zMd I (y + 2) S) (hW : zWf S) (hg : g < zng S) (k1 : Qp I (some (vi (qGate S g 8)))) :
    zC l D b0 tA sa sv K yX8_ofGate (.code yX8_ofGate cX8_ofGate 3 (some .int)) zrm_X8_ofGate [vr (y) 8, vi ((nI g)), vi ((8 : Int32))] I Qp Xp := by
  have hg6 := hW.ng.1
  have hc12 := hW.nc.1
  refine zC_of (by decide +kernel) (Nat.le_of_ble_eq_true rfl) ?_
  intro p e s m args below meth c X hnt
  have X : zX p l e zrm_X8_ofGate s m args below meth c RX8 cX8_ofGate 3 (some .int) D b0 tA sa sv := X
  refine zr_lv (lv2 := [some (vr (y) 8), some (vi ((nI g))), some (vi ((8 : Int32)))]) rfl ?_
  refine zr_iload2 X dX8_ofGate_0 ?_
  refine zr_tblOut (tgt := 128) X dX8_ofGate_1 (by decide) (by decide) ?_
  refine zr_aload0 X dX8_ofGate_128 ?_
  refine zr_getR X zf_X8_17 rfl (by decide) (by decide) dX8_ofGate_129 ?_
  refine zr_iload1 X dX8_ofGate_132 ?_
  refine zr_bipush (v := (6 : Int32)) X dX8_ofGate_133 (by decide) ?_
  refine zr_callS2 (rm9 := zrm_X8_gateAt) X hnt zm_X8_34 (by decide) (by decide) (by decide) (Nat.le_of_ble_eq_true rfl) dX8_ofGate_135 ?_
  refine zn_X8_gateAt (g := g) (w := 6) ?_
  refine zr_ialdN (n := 16 + 29 * g + 6) X rfl (show _ < 310 from (by first | assumption | omega | decide)) dX8_ofGate_138 ?_
  refine zr_eq (x2 := (sG S g 6)) ((hM.2.1 g (by omega)).1 6 (by first | decide | omega)) ?_
  refine zr_iconst (v := (1 : Int32)) X dX8_ofGate_139 (by decide) ?_
  refine zr_isub X dX8_ofGate_140 ?_
  refine zr_iret X (by decide) (by decide) dX8_ofGate_141 ?_
  exact k1
theorem zq_X8_ofGate {l : Launch} {D : va_G} {b0 : Nat} {tA : Nat → ClassId} {sa sv : Nat → Nat} {K : Nat → Option Nat} {I : zI} {Qp : zI → Option AV → Prop} {Xp : String → zI → Prop} {y g w9 : Nat} {S : zS} (hM : zMd I (y + 2) S) (hW : zWf S) (hg : g < zng S) (hw9 : w9 < 9) (k1 : Qp I (some (vi (qGate S g w9)))) :
    zC l D b0 tA sa sv K yX8_ofGate (.code yX8_ofGate cX8_ofGate 3 (some .int)) zrm_X8_ofGate [vr (y) 8, vi ((nI g)), vi ((nI w9))] I Qp Xp := by
  rcases (show w9 = 0 ∨ w9 = 1 ∨ w9 = 2 ∨ w9 = 3 ∨ w9 = 4 ∨ w9 = 5 ∨ w9 = 6 ∨ w9 = 7 ∨ w9 = 8 by omega) with rfl | rfl | rfl | rfl | rfl | rfl | rfl | rfl | rfl
  · exact zp0_X8_ofGate hM hW hg k1
  · exact zp1_X8_ofGate hM hW hg k1
  · exact zp2_X8_ofGate hM hW hg k1
  · exact zp3_X8_ofGate hM hW hg k1
  · exact zp4_X8_ofGate hM hW hg k1
  · exact zp5_X8_ofGate hM hW hg k1
  · exact zp6_X8_ofGate hM hW hg k1
  · exact zp7_X8_ofGate hM hW hg k1
  · exact zp8_X8_ofGate hM hW hg k1
abbrev zrm_X8_ofCard : Room := { frames := 3, cells := 0, slots := 0, locals := 68 }
set_option maxRecDepth 20000 in
theorem zp0_X8_ofCard {l : Launch} {D : va_G} {b0 : Nat} {tA : Nat → ClassId} {sa sv : Nat → Nat} {K : Nat → Option Nat} {I : zI} {Qp : zI → Option AV → Prop} {Xp : String → zI → Prop} {y c9 : Nat} {S : zS}
    (hM : zMd I (y + 2) S) (hW : zWf S) (hc : c9 < znc S) (k1 : Qp I (some (vi (qCard S c9 0)))) :
    zC l D b0 tA sa sv K yX8_ofCard (.code yX8_ofCard cX8_ofCard 3 (some .int)) zrm_X8_ofCard [vr (y) 8, vi ((nI c9)), vi ((0 : Int32))] I Qp Xp := by
  have hg6 := hW.ng.1
  have hc12 := hW.nc.1
  refine zC_of (by decide +kernel) (Nat.le_of_ble_eq_true rfl) ?_
  intro p e s m args below meth c X hnt
  have X : zX p l e zrm_X8_ofCard s m args below meth c RX8 cX8_ofCard 3 (some .int) D b0 tA sa sv := X
  refine zr_lv (lv2 := [some (vr (y) 8), some (vi ((nI c9))), some (vi ((0 : Int32)))]) rfl ?_
  refine zr_iload2 X dX8_ofCard_0 ?_
  refine zr_iconst (v := (3 : Int32)) X dX8_ofCard_1 (by decide) ?_
  refine zr_icmp_ge (tgt := 18) X dX8_ofCard_2 (by decide) (fun h => absurd h (by decide)) (fun _ => ?_)
  refine zr_aload0 X dX8_ofCard_5 ?_
  refine zr_getR X zf_X8_17 rfl (by decide) (by decide) dX8_ofCard_6 ?_
  refine zr_iload1 X dX8_ofCard_9 ?_
  refine zr_iload2 X dX8_ofCard_10 ?_
  refine zr_callS2 (rm9 := zrm_X8_cardAt) X hnt zm_X8_61 (by decide) (by decide) (by decide) (Nat.le_of_ble_eq_true rfl) dX8_ofCard_11 ?_
  refine zn_X8_cardAt (g := c9) (w := 0) ?_
  refine zr_ialdN (n := 190 + 10 * c9 + 0) X rfl (show _ < 310 from (by first | assumption | omega | decide)) dX8_ofCard_14 ?_
  refine zr_eq (x2 := (sC S c9 0)) ((hM.2.2 c9 (by omega)).1 0 (by decide)) ?_
  refine zr_goto (tgt := 46) X dX8_ofCard_15 (by decide) ?_
  refine zr_iret X (by decide) (by decide) dX8_ofCard_46 ?_
  exact k1
set_option maxRecDepth 20000 in
theorem zp1_X8_ofCard {l : Launch} {D : va_G} {b0 : Nat} {tA : Nat → ClassId} {sa sv : Nat → Nat} {K : Nat → Option Nat} {I : zI} {Qp : zI → Option AV → Prop} {Xp : String → zI → Prop} {y c9 : Nat} {S : zS}
    (hM : zMd I (y + 2) S) (hW : zWf S) (hc : c9 < znc S) (k1 : Qp I (some (vi (qCard S c9 1)))) :
    zC l D b0 tA sa sv K yX8_ofCard (.code yX8_ofCard cX8_ofCard 3 (some .int)) zrm_X8_ofCard [vr (y) 8, vi ((nI c9)), vi ((1 : Int32))] I Qp Xp := by
  have hg6 := hW.ng.1
  have hc12 := hW.nc.1
  refine zC_of (by decide +kernel) (Nat.le_of_ble_eq_true rfl) ?_
  intro p e s m args below meth c X hnt
  have X : zX p l e zrm_X8_ofCard s m args below meth c RX8 cX8_ofCard 3 (some .int) D b0 tA sa sv := X
  refine zr_lv (lv2 := [some (vr (y) 8), some (vi ((nI c9))), some (vi ((1 : Int32)))]) rfl ?_
  refine zr_iload2 X dX8_ofCard_0 ?_
  refine zr_iconst (v := (3 : Int32)) X dX8_ofCard_1 (by decide) ?_
  refine zr_icmp_ge (tgt := 18) X dX8_ofCard_2 (by decide) (fun h => absurd h (by decide)) (fun _ => ?_)
  refine zr_aload0 X dX8_ofCard_5 ?_
  refine zr_getR X zf_X8_17 rfl (by decide) (by decide) dX8_ofCard_6 ?_
  refine zr_iload1 X dX8_ofCard_9 ?_
  refine zr_iload2 X dX8_ofCard_10 ?_
  refine zr_callS2 (rm9 := zrm_X8_cardAt) X hnt zm_X8_61 (by decide) (by decide) (by decide) (Nat.le_of_ble_eq_true rfl) dX8_ofCard_11 ?_
  refine zn_X8_cardAt (g := c9) (w := 1) ?_
  refine zr_ialdN (n := 190 + 10 * c9 + 1) X rfl (show _ < 310 from (by first | assumption | omega | decide)) dX8_ofCard_14 ?_
  refine zr_eq (x2 := (sC S c9 1)) ((hM.2.2 c9 (by omega)).1 1 (by decide)) ?_
  refine zr_goto (tgt := 46) X dX8_ofCard_15 (by decide) ?_
  refine zr_iret X (by decide) (by decide) dX8_ofCard_46 ?_
  exact k1
set_option maxRecDepth 20000 in
theorem zp2_X8_ofCard {l : Launch} {D : va_G} {b0 : Nat} {tA : Nat → ClassId} {sa sv : Nat → Nat} {K : Nat → Option Nat} {I : zI} {Qp : zI → Option AV → Prop} {Xp : String → zI → Prop} {y c9 : Nat} {S : zS}
    (hM : zMd I (y + 2) S) (hW : zWf S) (hc : c9 < znc S) (k1 : Qp I (some (vi (qCard S c9 2)))) :
    zC l D b0 tA sa sv K yX8_ofCard (.code yX8_ofCard cX8_ofCard 3 (some .int)) zrm_X8_ofCard [vr (y) 8, vi ((nI c9)), vi ((2 : Int32))] I Qp Xp := by
  have hg6 := hW.ng.1
  have hc12 := hW.nc.1
  refine zC_of (by decide +kernel) (Nat.le_of_ble_eq_true rfl) ?_
  intro p e s m args below meth c X hnt
  have X : zX p l e zrm_X8_ofCard s m args below meth c RX8 cX8_ofCard 3 (some .int) D b0 tA sa sv := X
  refine zr_lv (lv2 := [some (vr (y) 8), some (vi ((nI c9))), some (vi ((2 : Int32)))]) rfl ?_
  refine zr_iload2 X dX8_ofCard_0 ?_
  refine zr_iconst (v := (3 : Int32)) X dX8_ofCard_1 (by decide) ?_
  refine zr_icmp_ge (tgt := 18) X dX8_ofCard_2 (by decide) (fun h => absurd h (by decide)) (fun _ => ?_)
  refine zr_aload0 X dX8_ofCard_5 ?_
  refine zr_getR X zf_X8_17 rfl (by decide) (by decide) dX8_ofCard_6 ?_
  refine zr_iload1 X dX8_ofCard_9 ?_
  refine zr_iload2 X dX8_ofCard_10 ?_
  refine zr_callS2 (rm9 := zrm_X8_cardAt) X hnt zm_X8_61 (by decide) (by decide) (by decide) (Nat.le_of_ble_eq_true rfl) dX8_ofCard_11 ?_
  refine zn_X8_cardAt (g := c9) (w := 2) ?_
  refine zr_ialdN (n := 190 + 10 * c9 + 2) X rfl (show _ < 310 from (by first | assumption | omega | decide)) dX8_ofCard_14 ?_
  refine zr_eq (x2 := (sC S c9 2)) ((hM.2.2 c9 (by omega)).1 2 (by decide)) ?_
  refine zr_goto (tgt := 46) X dX8_ofCard_15 (by decide) ?_
  refine zr_iret X (by decide) (by decide) dX8_ofCard_46 ?_
  exact k1
set_option maxRecDepth 20000 in
theorem zp3_X8_ofCard {l : Launch} {D : va_G} {b0 : Nat} {tA : Nat → ClassId} {sa sv : Nat → Nat} {K : Nat → Option Nat} {I : zI} {Qp : zI → Option AV → Prop} {Xp : String → zI → Prop} {y c9 : Nat} {S : zS}
    (hM : zMd I (y + 2) S) (hW : zWf S) (hc : c9 < znc S) (k1 : Qp I (some (vi (qCard S c9 3)))) :
    zC l D b0 tA sa sv K yX8_ofCard (.code yX8_ofCard cX8_ofCard 3 (some .int)) zrm_X8_ofCard [vr (y) 8, vi ((nI c9)), vi ((3 : Int32))] I Qp Xp := by
  have hg6 := hW.ng.1
  have hc12 := hW.nc.1
  refine zC_of (by decide +kernel) (Nat.le_of_ble_eq_true rfl) ?_
  intro p e s m args below meth c X hnt
  have X : zX p l e zrm_X8_ofCard s m args below meth c RX8 cX8_ofCard 3 (some .int) D b0 tA sa sv := X
  refine zr_lv (lv2 := [some (vr (y) 8), some (vi ((nI c9))), some (vi ((3 : Int32)))]) rfl ?_
  refine zr_iload2 X dX8_ofCard_0 ?_
  refine zr_iconst (v := (3 : Int32)) X dX8_ofCard_1 (by decide) ?_
  refine zr_icmp_ge (tgt := 18) X dX8_ofCard_2 (by decide) (fun _ => ?_) (fun h => absurd h (by decide))
  refine zr_iload2 X dX8_ofCard_18 ?_
  refine zr_bipush (v := (6 : Int32)) X dX8_ofCard_19 (by decide) ?_
  refine zr_icmp_ne (tgt := 37) X dX8_ofCard_21 (by decide) (fun _ => ?_) (fun h => absurd h (by decide))
  refine zr_aload0 X dX8_ofCard_37 ?_
  refine zr_getR X zf_X8_17 rfl (by decide) (by decide) dX8_ofCard_38 ?_
  refine zr_iload1 X dX8_ofCard_41 ?_
  refine zr_iload2 X dX8_ofCard_42 ?_
  refine zr_callS3 (rm9 := zrm_X8_whereIs) X hnt zm_X8_50 (by decide) (by decide) (by decide) (Nat.le_of_ble_eq_true rfl) dX8_ofCard_43 ?_
  refine zp_X8_whereIs (c9 := c9) (w9 := 3) hM hW (by omega) (by omega) ?_
  refine zr_iret X (by decide) (by decide) dX8_ofCard_46 ?_
  exact k1
set_option maxRecDepth 20000 in
theorem zp4_X8_ofCard {l : Launch} {D : va_G} {b0 : Nat} {tA : Nat → ClassId} {sa sv : Nat → Nat} {K : Nat → Option Nat} {I : zI} {Qp : zI → Option AV → Prop} {Xp : String → zI → Prop} {y c9 : Nat} {S : zS}
    (hM : zMd I (y + 2) S) (hW : zWf S) (hc : c9 < znc S) (k1 : Qp I (some (vi (qCard S c9 4)))) :
    zC l D b0 tA sa sv K yX8_ofCard (.code yX8_ofCard cX8_ofCard 3 (some .int)) zrm_X8_ofCard [vr (y) 8, vi ((nI c9)), vi ((4 : Int32))] I Qp Xp := by
  have hg6 := hW.ng.1
  have hc12 := hW.nc.1
  refine zC_of (by decide +kernel) (Nat.le_of_ble_eq_true rfl) ?_
  intro p e s m args below meth c X hnt
  have X : zX p l e zrm_X8_ofCard s m args below meth c RX8 cX8_ofCard 3 (some .int) D b0 tA sa sv := X
  refine zr_lv (lv2 := [some (vr (y) 8), some (vi ((nI c9))), some (vi ((4 : Int32)))]) rfl ?_
  refine zr_iload2 X dX8_ofCard_0 ?_
  refine zr_iconst (v := (3 : Int32)) X dX8_ofCard_1 (by decide) ?_
  refine zr_icmp_ge (tgt := 18) X dX8_ofCard_2 (by decide) (fun _ => ?_) (fun h => absurd h (by decide))
  refine zr_iload2 X dX8_ofCard_18 ?_
  refine zr_bipush (v := (6 : Int32)) X dX8_ofCard_19 (by decide) ?_
  refine zr_icmp_ne (tgt := 37) X dX8_ofCard_21 (by decide) (fun _ => ?_) (fun h => absurd h (by decide))
  refine zr_aload0 X dX8_ofCard_37 ?_
  refine zr_getR X zf_X8_17 rfl (by decide) (by decide) dX8_ofCard_38 ?_
  refine zr_iload1 X dX8_ofCard_41 ?_
  refine zr_iload2 X dX8_ofCard_42 ?_
  refine zr_callS3 (rm9 := zrm_X8_whereIs) X hnt zm_X8_50 (by decide) (by decide) (by decide) (Nat.le_of_ble_eq_true rfl) dX8_ofCard_43 ?_
  refine zp_X8_whereIs (c9 := c9) (w9 := 4) hM hW (by omega) (by omega) ?_
  refine zr_iret X (by decide) (by decide) dX8_ofCard_46 ?_
  exact k1
set_option maxRecDepth 20000 in
theorem zp5_X8_ofCard {l : Launch} {D : va_G} {b0 : Nat} {tA : Nat → ClassId} {sa sv : Nat → Nat} {K : Nat → Option Nat} {I : zI} {Qp : zI → Option AV → Prop} {Xp : String → zI → Prop} {y c9 : Nat} {S : zS}
    (hM : zMd I (y + 2) S) (hW : zWf S) (hc : c9 < znc S) (k1 : Qp I (some (vi (qCard S c9 5)))) :
    zC l D b0 tA sa sv K yX8_ofCard (.code yX8_ofCard cX8_ofCard 3 (some .int)) zrm_X8_ofCard [vr (y) 8, vi ((nI c9)), vi ((5 : Int32))] I Qp Xp := by
  have hg6 := hW.ng.1
  have hc12 := hW.nc.1
  refine zC_of (by decide +kernel) (Nat.le_of_ble_eq_true rfl) ?_
  intro p e s m args below meth c X hnt
  have X : zX p l e zrm_X8_ofCard s m args below meth c RX8 cX8_ofCard 3 (some .int) D b0 tA sa sv := X
  refine zr_lv (lv2 := [some (vr (y) 8), some (vi ((nI c9))), some (vi ((5 : Int32)))]) rfl ?_
  refine zr_iload2 X dX8_ofCard_0 ?_
  refine zr_iconst (v := (3 : Int32)) X dX8_ofCard_1 (by decide) ?_
  refine zr_icmp_ge (tgt := 18) X dX8_ofCard_2 (by decide) (fun _ => ?_) (fun h => absurd h (by decide))
  refine zr_iload2 X dX8_ofCard_18 ?_
  refine zr_bipush (v := (6 : Int32)) X dX8_ofCard_19 (by decide) ?_
  refine zr_icmp_ne (tgt := 37) X dX8_ofCard_21 (by decide) (fun _ => ?_) (fun h => absurd h (by decide))
  refine zr_aload0 X dX8_ofCard_37 ?_
  refine zr_getR X zf_X8_17 rfl (by decide) (by decide) dX8_ofCard_38 ?_
  refine zr_iload1 X dX8_ofCard_41 ?_
  refine zr_iload2 X dX8_ofCard_42 ?_
  refine zr_callS3 (rm9 := zrm_X8_whereIs) X hnt zm_X8_50 (by decide) (by decide) (by decide) (Nat.le_of_ble_eq_true rfl) dX8_ofCard_43 ?_
  refine zp_X8_whereIs (c9 := c9) (w9 := 5) hM hW (by omega) (by omega) ?_
  refine zr_iret X (by decide) (by decide) dX8_ofCard_46 ?_
  exact k1
set_option maxRecDepth 20000 in
theorem zp6_X8_ofCard {l : Launch} {D : va_G} {b0 : Nat} {tA : Nat → ClassId} {sa sv : Nat → Nat} {K : Nat → Option Nat} {I : zI} {Qp : zI → Option AV → Prop} {Xp : String → zI → Prop} {y c9 : Nat} {S : zS}
    (hM : zMd I (y + 2) S) (hW : zWf S) (hc : c9 < znc S) (k1 : Qp I (some (vi (qCard S c9 6)))) :
    zC l D b0 tA sa sv K yX8_ofCard (.code yX8_ofCard cX8_ofCard 3 (some .int)) zrm_X8_ofCard [vr (y) 8, vi ((nI c9)), vi ((6 : Int32))] I Qp Xp := by
  have hg6 := hW.ng.1
  have hc12 := hW.nc.1
  refine zC_of (by decide +kernel) (Nat.le_of_ble_eq_true rfl) ?_
  intro p e s m args below meth c X hnt
  have X : zX p l e zrm_X8_ofCard s m args below meth c RX8 cX8_ofCard 3 (some .int) D b0 tA sa sv := X
  refine zr_lv (lv2 := [some (vr (y) 8), some (vi ((nI c9))), some (vi ((6 : Int32)))]) rfl ?_
  refine zr_iload2 X dX8_ofCard_0 ?_
  refine zr_iconst (v := (3 : Int32)) X dX8_ofCard_1 (by decide) ?_
  refine zr_icmp_ge (tgt := 18) X dX8_ofCard_2 (by decide) (fun _ => ?_) (fun h => absurd h (by decide))
  refine zr_iload2 X dX8_ofCard_18 ?_
  refine zr_bipush (v := (6 : Int32)) X dX8_ofCard_19 (by decide) ?_
  refine zr_icmp_ne (tgt := 37) X dX8_ofCard_21 (by decide) (fun h => absurd h (by decide)) (fun _ => ?_)
  refine zr_aload0 X dX8_ofCard_24 ?_
  refine zr_getR X zf_X8_17 rfl (by decide) (by decide) dX8_ofCard_25 ?_
  refine zr_iload1 X dX8_ofCard_28 ?_
  refine zr_iconst (v := (3 : Int32)) X dX8_ofCard_29 (by decide) ?_
  refine zr_callS2 (rm9 := zrm_X8_cardAt) X hnt zm_X8_61 (by decide) (by decide) (by decide) (Nat.le_of_ble_eq_true rfl) dX8_ofCard_30 ?_
  refine zn_X8_cardAt (g := c9) (w := 3) ?_
  refine zr_ialdN (n := 190 + 10 * c9 + 3) X rfl (show _ < 310 from (by first | assumption | omega | decide)) dX8_ofCard_33 ?_
  refine zr_eq (x2 := (sC S c9 3)) ((hM.2.2 c9 (by omega)).1 3 (by decide)) ?_
  refine zr_goto (tgt := 46) X dX8_ofCard_34 (by decide) ?_
  refine zr_iret X (by decide) (by decide) dX8_ofCard_46 ?_
  exact k1
theorem zq_X8_ofCard {l : Launch} {D : va_G} {b0 : Nat} {tA : Nat → ClassId} {sa sv : Nat → Nat} {K : Nat → Option Nat} {I : zI} {Qp : zI → Option AV → Prop} {Xp : String → zI → Prop} {y c9 w9 : Nat} {S : zS} (hM : zMd I (y + 2) S) (hW : zWf S) (hc : c9 < znc S) (hw9 : w9 < 7) (k1 : Qp I (some (vi (qCard S c9 w9)))) :
    zC l D b0 tA sa sv K yX8_ofCard (.code yX8_ofCard cX8_ofCard 3 (some .int)) zrm_X8_ofCard [vr (y) 8, vi ((nI c9)), vi ((nI w9))] I Qp Xp := by
  rcases (show w9 = 0 ∨ w9 = 1 ∨ w9 = 2 ∨ w9 = 3 ∨ w9 = 4 ∨ w9 = 5 ∨ w9 = 6 by omega) with rfl | rfl | rfl | rfl | rfl | rfl | rfl
  · exact zp0_X8_ofCard hM hW hc k1
  · exact zp1_X8_ofCard hM hW hc k1
  · exact zp2_X8_ofCard hM hW hc k1
  · exact zp3_X8_ofCard hM hW hc k1
  · exact zp4_X8_ofCard hM hW hc k1
  · exact zp5_X8_ofCard hM hW hc k1
  · exact zp6_X8_ofCard hM hW hc k1
abbrev zrm_X8_errorOffset : Room := { frames := 0, cells := 0, slots := 0, locals := 0 }
set_option maxRecDepth 20000 in
theorem zq_X8_errorOffset {l : Launch} {D : va_G} {b0 : Nat} {tA : Nat → ClassId} {sa sv : Nat → Nat} {K : Nat → Option Nat} {I : zI} {Qp : zI → Option AV → Prop} {Xp : String → zI → Prop} {F9 : zI} {y f : Nat} {t : Nat → Nat} {er : Int32} {S : zS} {U : List zS}
    (hC : zRf F9 I y t f er S U) (k1 : ∀ J : zI, zRf F9 J y t f er S U → J y 0 = 0 → Qp J (some (vi (er)))) :
    zC l D b0 tA sa sv K yX8_errorOffset (.code yX8_errorOffset cX8_errorOffset 1 (some .int)) zrm_X8_errorOffset [vr (y) 8] I Qp Xp := by
  have hC1 : zRf F9 (zput I y 0 0) y t f er S U := hC.put (by decide)
  have hW := hC.2.2.2.1
  have hg6 := hW.ng.1
  have hc12 := hW.nc.1
  have hf5 := hC.1.2.1
  refine zC_of (by decide +kernel) (Nat.le_of_ble_eq_true rfl) ?_
  intro p e s m args below meth c X hnt
  have X : zX p l e zrm_X8_errorOffset s m args below meth c RX8 cX8_errorOffset 1 (some .int) D b0 tA sa sv := X
  refine zr_lv (lv2 := [some (vr (y) 8)]) rfl ?_
  refine zr_aload0 X dX8_errorOffset_0 ?_
  refine zr_iconst (v := (0 : Int32)) X dX8_errorOffset_1 (by decide) ?_
  refine zr_putI X zf_X8_31 rfl (Or.inl rfl) dX8_errorOffset_2 ?_
  refine zr_aload0 X dX8_errorOffset_5 ?_
  refine zr_getI X zf_X8_13 rfl dX8_errorOffset_6 ?_
  refine zr_eq (x2 := (I (y) 7)) ((zput_nj (by decide))) ?_
  refine zr_eq (x2 := er) (hC.2.1) ?_
  refine zr_iret X (by decide) (by decide) dX8_errorOffset_9 ?_
  exact k1 _ hC1 zput_eq
abbrev zrm_X8_state : Room := { frames := 4, cells := 0, slots := 0, locals := 87 }
set_option maxRecDepth 20000 in
theorem zo_X8_state {l : Launch} {D : va_G} {b0 : Nat} {tA : Nat → ClassId} {sa sv : Nat → Nat} {K : Nat → Option Nat} {I : zI} {Qp : zI → Option AV → Prop} {Xp : String → zI → Prop} {F9 : zI} {y f : Nat} {t : Nat → Nat} {er : Int32} {S : zS} {U : List zS} {w : Nat}
    (hC : zRf F9 I y t f er S U) (hw : w < 16) (k1 : ∀ J : zI, zRf F9 J y t f er S U → J y 0 = 0 → Qp J (some (vi (qState S w)))) :
    zC l D b0 tA sa sv K yX8_state (.code yX8_state cX8_state 2 (some .int)) zrm_X8_state [vr (y) 8, vi ((nI w))] I Qp Xp := by
  have hC1 : zRf F9 (zput I y 0 0) y t f er S U := hC.put (by decide)
  have hW := hC.2.2.2.1
  have hg6 := hW.ng.1
  have hc12 := hW.nc.1
  have hf5 := hC.1.2.1
  refine zC_of (by decide +kernel) (Nat.le_of_ble_eq_true rfl) ?_
  intro p e s m args below meth c X hnt
  have X : zX p l e zrm_X8_state s m args below meth c RX8 cX8_state 2 (some .int) D b0 tA sa sv := X
  refine zr_lv (lv2 := [some (vr (y) 8), some (vi ((nI w)))]) rfl ?_
  refine zr_aload0 X dX8_state_0 ?_
  refine zr_iconst (v := (0 : Int32)) X dX8_state_1 (by decide) ?_
  refine zr_putI X zf_X8_31 rfl (Or.inl rfl) dX8_state_2 ?_
  refine zr_aload0 X dX8_state_5 ?_
  refine zr_iload1 X dX8_state_6 ?_
  refine zr_iconst (v := (0 : Int32)) X dX8_state_7 (by decide) ?_
  refine zr_bipush (v := (15 : Int32)) X dX8_state_8 (by decide) ?_
  refine zr_callS3 (rm9 := zrm_X8_in) X hnt zm_X8_117 (by decide) (by decide) (by decide) (Nat.le_of_ble_eq_true rfl) dX8_state_10 ?_
  refine zIo_X8_in (n := 16) (by omega) (by omega) (by rfl) ?_
  refine zr_if_ne (tgt := 20) X dX8_state_13 (by decide) (fun _ => ?_) (fun h => absurd h (by decide))
  refine zr_iconst (v := (0 : Int32)) X dX8_state_20 (by decide) ?_
  refine zr_iconst (v := (1 : Int32)) X dX8_state_21 (by decide) ?_
  refine zr_callV2 (rm9 := zrm_X8_fails) X hnt zm_X8_220 (by decide) (by decide) (by decide) (Nat.le_of_ble_eq_true rfl) dX8_state_22 ?_
  refine zf0_X8_fails (zput_eq) ?_
  refine zr_if_eq (tgt := 32) X dX8_state_25 (by decide) (fun _ => ?_) (fun h => absurd h (by decide))
  refine zr_aload0 X dX8_state_32 ?_
  refine zr_iload1 X dX8_state_33 ?_
  refine zr_callV1 (rm9 := zrm_X8_told) X hnt zm_X8_239 (by decide) (by decide) (by decide) (Nat.le_of_ble_eq_true rfl) dX8_state_34 ?_
  refine zq_X8_told hC1.2.2.1 hW (by omega) ?_
  refine zr_iret X (by decide) (by decide) dX8_state_37 ?_
  exact k1 _ hC1 zput_eq
set_option maxRecDepth 20000 in
theorem zx_X8_state {l : Launch} {D : va_G} {b0 : Nat} {tA : Nat → ClassId} {sa sv : Nat → Nat} {K : Nat → Option Nat} {I : zI} {Qp : zI → Option AV → Prop} {Xp : String → zI → Prop} {F9 : zI} {y f : Nat} {t : Nat → Nat} {er : Int32} {S : zS} {U : List zS} {v : Int32}
    (hC : zRf F9 I y t f er S U) (hb : vIdx v (16) = none) (kx : ∀ (J : zI) (v9 : Int32), zRf F9 J y t f er S U → J y 0 = 1 → Qp J (some (vi v9))) :
    zC l D b0 tA sa sv K yX8_state (.code yX8_state cX8_state 2 (some .int)) zrm_X8_state [vr (y) 8, vi (v)] I Qp Xp := by
  have hC1 : zRf F9 (zput I y 0 0) y t f er S U := hC.put (by decide)
  have hW := hC.2.2.2.1
  have hg6 := hW.ng.1
  have hc12 := hW.nc.1
  have hf5 := hC.1.2.1
  refine zC_of (by decide +kernel) (Nat.le_of_ble_eq_true rfl) ?_
  intro p e s m args below meth c X hnt
  have X : zX p l e zrm_X8_state s m args below meth c RX8 cX8_state 2 (some .int) D b0 tA sa sv := X
  refine zr_lv (lv2 := [some (vr (y) 8), some (vi (v))]) rfl ?_
  refine zr_aload0 X dX8_state_0 ?_
  refine zr_iconst (v := (0 : Int32)) X dX8_state_1 (by decide) ?_
  refine zr_putI X zf_X8_31 rfl (Or.inl rfl) dX8_state_2 ?_
  refine zr_aload0 X dX8_state_5 ?_
  refine zr_iload1 X dX8_state_6 ?_
  refine zr_iconst (v := (0 : Int32)) X dX8_state_7 (by decide) ?_
  refine zr_bipush (v := (15 : Int32)) X dX8_state_8 (by decide) ?_
  refine zr_callS3 (rm9 := zrm_X8_in) X hnt zm_X8_117 (by decide) (by decide) (by decide) (Nat.le_of_ble_eq_true rfl) dX8_state_10 ?_
  refine zIx_X8_in (n := 16) (by assumption) (by omega) (by rfl) ?_
  refine zr_if_ne (tgt := 20) X dX8_state_13 (by decide) (fun h => absurd h (by decide)) (fun _ => ?_)
  refine zr_iconst (v := (1 : Int32)) X dX8_state_16 (by decide) ?_
  refine zr_goto (tgt := 21) X dX8_state_17 (by decide) ?_
  refine zr_iconst (v := (1 : Int32)) X dX8_state_21 (by decide) ?_
  refine zr_callV2 (rm9 := zrm_X8_fails) X hnt zm_X8_220 (by decide) (by decide) (by decide) (Nat.le_of_ble_eq_true rfl) dX8_state_22 ?_
  refine zf1_X8_fails (zput_eq) (by decide) ?_
  refine zr_if_eq (tgt := 32) X dX8_state_25 (by decide) (fun h => absurd h (by decide)) (fun _ => ?_)
  refine zr_iconst (v := (0 : Int32)) X dX8_state_28 (by decide) ?_
  refine zr_goto (tgt := 37) X dX8_state_29 (by decide) ?_
  refine zr_iret X (by decide) (by decide) dX8_state_37 ?_
  exact kx _ _ (hC1.put (by decide)) zput_eq
theorem zq_X8_state {l : Launch} {D : va_G} {b0 : Nat} {tA : Nat → ClassId} {sa sv : Nat → Nat} {K : Nat → Option Nat} {I : zI} {Qp : zI → Option AV → Prop} {Xp : String → zI → Prop} {F9 : zI} {y f : Nat} {t : Nat → Nat} {er : Int32} {S : zS} {U : List zS} {v : Int32}
    (hC : zRf F9 I y t f er S U) (k0 : (rState S v).1 = 0 → ∀ J : zI, zRf F9 J y t f er S U → J y 0 = 0 → Qp J (some (vi (rState S v).2))) (kx1 : (rState S v).1 = 1 → ∀ (J : zI) (v9 : Int32), zRf F9 J y t f er S U → J y 0 = 1 → Qp J (some (vi v9))) :
    zC l D b0 tA sa sv K yX8_state (.code yX8_state cX8_state 2 (some .int)) zrm_X8_state [vr (y) 8, vi (v)] I Qp Xp := by
  unfold rState at k0 kx1
  cases e1 : vIdx v (16) with
  | none => rw [e1] at kx1; exact zx_X8_state hC e1 (kx1 rfl)
  | some w =>
    rw [e1] at k0
    obtain ⟨h1, rfl⟩ := vIdx_some e1
    exact zo_X8_state hC h1 (k0 rfl)
abbrev zrm_X8_gate : Room := { frames := 3, cells := 0, slots := 0, locals := 65 }
set_option maxRecDepth 20000 in
theorem zo_X8_gate {l : Launch} {D : va_G} {b0 : Nat} {tA : Nat → ClassId} {sa sv : Nat → Nat} {K : Nat → Option Nat} {I : zI} {Qp : zI → Option AV → Prop} {Xp : String → zI → Prop} {F9 : zI} {y f : Nat} {t : Nat → Nat} {er : Int32} {S : zS} {U : List zS} {g w : Nat}
    (hC : zRf F9 I y t f er S U) (hg : g < zng S) (hw : w < 9) (k1 : ∀ J : zI, zRf F9 J y t f er S U → J y 0 = 0 → Qp J (some (vi (qGate S g w)))) :
    zC l D b0 tA sa sv K yX8_gate (.code yX8_gate cX8_gate 3 (some .int)) zrm_X8_gate [vr (y) 8, vi ((nI g)), vi ((nI w))] I Qp Xp := by
  have hC1 : zRf F9 (zput I y 0 0) y t f er S U := hC.put (by decide)
  have hW := hC.2.2.2.1
  have hg6 := hW.ng.1
  have hc12 := hW.nc.1
  have hf5 := hC.1.2.1
  refine zC_of (by decide +kernel) (Nat.le_of_ble_eq_true rfl) ?_
  intro p e s m args below meth c X hnt
  have X : zX p l e zrm_X8_gate s m args below meth c RX8 cX8_gate 3 (some .int) D b0 tA sa sv := X
  refine zr_lv (lv2 := [some (vr (y) 8), some (vi ((nI g))), some (vi ((nI w)))]) rfl ?_
  refine zr_aload0 X dX8_gate_0 ?_
  refine zr_iconst (v := (0 : Int32)) X dX8_gate_1 (by decide) ?_
  refine zr_putI X zf_X8_31 rfl (Or.inl rfl) dX8_gate_2 ?_
  refine zr_aload0 X dX8_gate_5 ?_
  refine zr_iload1 X dX8_gate_6 ?_
  refine zr_callV1 (rm9 := zrm_X8_noGate) X hnt zm_X8_242 (by decide) (by decide) (by decide) (Nat.le_of_ble_eq_true rfl) dX8_gate_7 ?_
  refine zo_X8_noGate hC1.2.2.1 hW (zput_eq) (by omega) ?_
  refine zr_if_ne (tgt := 36) X dX8_gate_10 (by decide) (fun h => absurd h (by decide)) (fun _ => ?_)
  refine zr_aload0 X dX8_gate_13 ?_
  refine zr_iload2 X dX8_gate_14 ?_
  refine zr_iconst (v := (0 : Int32)) X dX8_gate_15 (by decide) ?_
  refine zr_bipush (v := (8 : Int32)) X dX8_gate_16 (by decide) ?_
  refine zr_callS3 (rm9 := zrm_X8_in) X hnt zm_X8_117 (by decide) (by decide) (by decide) (Nat.le_of_ble_eq_true rfl) dX8_gate_18 ?_
  refine zIo_X8_in (n := 9) (by omega) (by omega) (by rfl) ?_
  refine zr_if_ne (tgt := 28) X dX8_gate_21 (by decide) (fun _ => ?_) (fun h => absurd h (by decide))
  refine zr_iconst (v := (0 : Int32)) X dX8_gate_28 (by decide) ?_
  refine zr_iconst (v := (2 : Int32)) X dX8_gate_29 (by decide) ?_
  refine zr_callV2 (rm9 := zrm_X8_fails) X hnt zm_X8_220 (by decide) (by decide) (by decide) (Nat.le_of_ble_eq_true rfl) dX8_gate_30 ?_
  refine zf0_X8_fails (zput_eq) ?_
  refine zr_if_eq (tgt := 40) X dX8_gate_33 (by decide) (fun _ => ?_) (fun h => absurd h (by decide))
  refine zr_aload0 X dX8_gate_40 ?_
  refine zr_iload1 X dX8_gate_41 ?_
  refine zr_iload2 X dX8_gate_42 ?_
  refine zr_callV2 (rm9 := zrm_X8_ofGate) X hnt zm_X8_245 (by decide) (by decide) (by decide) (Nat.le_of_ble_eq_true rfl) dX8_gate_43 ?_
  refine zq_X8_ofGate hC1.2.2.1 hW (by omega) (by omega) ?_
  refine zr_iret X (by decide) (by decide) dX8_gate_46 ?_
  exact k1 _ hC1 zput_eq
set_option maxRecDepth 20000 in
theorem zx2_X8_gate {l : Launch} {D : va_G} {b0 : Nat} {tA : Nat → ClassId} {sa sv : Nat → Nat} {K : Nat → Option Nat} {I : zI} {Qp : zI → Option AV → Prop} {Xp : String → zI → Prop} {F9 : zI} {y f : Nat} {t : Nat → Nat} {er : Int32} {S : zS} {U : List zS} {g : Nat} {v : Int32}
    (hC : zRf F9 I y t f er S U) (hg : g < zng S) (hb : vIdx v (9) = none) (kx : ∀ (J : zI) (v9 : Int32), zRf F9 J y t f er S U → J y 0 = 2 → Qp J (some (vi v9))) :
    zC l D b0 tA sa sv K yX8_gate (.code yX8_gate cX8_gate 3 (some .int)) zrm_X8_gate [vr (y) 8, vi ((nI g)), vi (v)] I Qp Xp := by
  have hC1 : zRf F9 (zput I y 0 0) y t f er S U := hC.put (by decide)
  have hW := hC.2.2.2.1
  have hg6 := hW.ng.1
  have hc12 := hW.nc.1
  have hf5 := hC.1.2.1
  refine zC_of (by decide +kernel) (Nat.le_of_ble_eq_true rfl) ?_
  intro p e s m args below meth c X hnt
  have X : zX p l e zrm_X8_gate s m args below meth c RX8 cX8_gate 3 (some .int) D b0 tA sa sv := X
  refine zr_lv (lv2 := [some (vr (y) 8), some (vi ((nI g))), some (vi (v))]) rfl ?_
  refine zr_aload0 X dX8_gate_0 ?_
  refine zr_iconst (v := (0 : Int32)) X dX8_gate_1 (by decide) ?_
  refine zr_putI X zf_X8_31 rfl (Or.inl rfl) dX8_gate_2 ?_
  refine zr_aload0 X dX8_gate_5 ?_
  refine zr_iload1 X dX8_gate_6 ?_
  refine zr_callV1 (rm9 := zrm_X8_noGate) X hnt zm_X8_242 (by decide) (by decide) (by decide) (Nat.le_of_ble_eq_true rfl) dX8_gate_7 ?_
  refine zo_X8_noGate hC1.2.2.1 hW (zput_eq) (by omega) ?_
  refine zr_if_ne (tgt := 36) X dX8_gate_10 (by decide) (fun h => absurd h (by decide)) (fun _ => ?_)
  refine zr_aload0 X dX8_gate_13 ?_
  refine zr_iload2 X dX8_gate_14 ?_
  refine zr_iconst (v := (0 : Int32)) X dX8_gate_15 (by decide) ?_
  refine zr_bipush (v := (8 : Int32)) X dX8_gate_16 (by decide) ?_
  refine zr_callS3 (rm9 := zrm_X8_in) X hnt zm_X8_117 (by decide) (by decide) (by decide) (Nat.le_of_ble_eq_true rfl) dX8_gate_18 ?_
  refine zIx_X8_in (n := 9) (by assumption) (by omega) (by rfl) ?_
  refine zr_if_ne (tgt := 28) X dX8_gate_21 (by decide) (fun h => absurd h (by decide)) (fun _ => ?_)
  refine zr_iconst (v := (1 : Int32)) X dX8_gate_24 (by decide) ?_
  refine zr_goto (tgt := 29) X dX8_gate_25 (by decide) ?_
  refine zr_iconst (v := (2 : Int32)) X dX8_gate_29 (by decide) ?_
  refine zr_callV2 (rm9 := zrm_X8_fails) X hnt zm_X8_220 (by decide) (by decide) (by decide) (Nat.le_of_ble_eq_true rfl) dX8_gate_30 ?_
  refine zf1_X8_fails (zput_eq) (by decide) ?_
  refine zr_if_eq (tgt := 40) X dX8_gate_33 (by decide) (fun h => absurd h (by decide)) (fun _ => ?_)
  refine zr_iconst (v := (0 : Int32)) X dX8_gate_36 (by decide) ?_
  refine zr_goto (tgt := 46) X dX8_gate_37 (by decide) ?_
  refine zr_iret X (by decide) (by decide) dX8_gate_46 ?_
  exact kx _ _ (hC1.put (by decide)) zput_eq
set_option maxRecDepth 20000 in
theorem zx1_X8_gate {l : Launch} {D : va_G} {b0 : Nat} {tA : Nat → ClassId} {sa sv : Nat → Nat} {K : Nat → Option Nat} {I : zI} {Qp : zI → Option AV → Prop} {Xp : String → zI → Prop} {F9 : zI} {y f : Nat} {t : Nat → Nat} {er : Int32} {S : zS} {U : List zS} {u v : Int32}
    (hC : zRf F9 I y t f er S U) (hb : vIdx u (zng S) = none) (kx : ∀ (J : zI) (v9 : Int32), zRf F9 J y t f er S U → J y 0 = 1 → Qp J (some (vi v9))) :
    zC l D b0 tA sa sv K yX8_gate (.code yX8_gate cX8_gate 3 (some .int)) zrm_X8_gate [vr (y) 8, vi (u), vi (v)] I Qp Xp := by
  have hC1 : zRf F9 (zput I y 0 0) y t f er S U := hC.put (by decide)
  have hW := hC.2.2.2.1
  have hg6 := hW.ng.1
  have hc12 := hW.nc.1
  have hf5 := hC.1.2.1
  refine zC_of (by decide +kernel) (Nat.le_of_ble_eq_true rfl) ?_
  intro p e s m args below meth c X hnt
  have X : zX p l e zrm_X8_gate s m args below meth c RX8 cX8_gate 3 (some .int) D b0 tA sa sv := X
  refine zr_lv (lv2 := [some (vr (y) 8), some (vi (u)), some (vi (v))]) rfl ?_
  refine zr_aload0 X dX8_gate_0 ?_
  refine zr_iconst (v := (0 : Int32)) X dX8_gate_1 (by decide) ?_
  refine zr_putI X zf_X8_31 rfl (Or.inl rfl) dX8_gate_2 ?_
  refine zr_aload0 X dX8_gate_5 ?_
  refine zr_iload1 X dX8_gate_6 ?_
  refine zr_callV1 (rm9 := zrm_X8_noGate) X hnt zm_X8_242 (by decide) (by decide) (by decide) (Nat.le_of_ble_eq_true rfl) dX8_gate_7 ?_
  refine zx_X8_noGate hC1.2.2.1 hW (zput_eq) (by assumption) ?_
  refine zr_if_ne (tgt := 36) X dX8_gate_10 (by decide) (fun _ => ?_) (fun h => absurd h (by decide))
  refine zr_iconst (v := (0 : Int32)) X dX8_gate_36 (by decide) ?_
  refine zr_goto (tgt := 46) X dX8_gate_37 (by decide) ?_
  refine zr_iret X (by decide) (by decide) dX8_gate_46 ?_
  exact kx _ _ (hC1.put (by decide)) zput_eq
theorem zq_X8_gate {l : Launch} {D : va_G} {b0 : Nat} {tA : Nat → ClassId} {sa sv : Nat → Nat} {K : Nat → Option Nat} {I : zI} {Qp : zI → Option AV → Prop} {Xp : String → zI → Prop} {F9 : zI} {y f : Nat} {t : Nat → Nat} {er : Int32} {S : zS} {U : List zS} {u v : Int32}
    (hC : zRf F9 I y t f er S U) (k0 : (rGate S u v).1 = 0 → ∀ J : zI, zRf F9 J y t f er S U → J y 0 = 0 → Qp J (some (vi (rGate S u v).2))) (kx1 : (rGate S u v).1 = 1 → ∀ (J : zI) (v9 : Int32), zRf F9 J y t f er S U → J y 0 = 1 → Qp J (some (vi v9))) (kx2 : (rGate S u v).1 = 2 → ∀ (J : zI) (v9 : Int32), zRf F9 J y t f er S U → J y 0 = 2 → Qp J (some (vi v9))) :
    zC l D b0 tA sa sv K yX8_gate (.code yX8_gate cX8_gate 3 (some .int)) zrm_X8_gate [vr (y) 8, vi (u), vi (v)] I Qp Xp := by
  unfold rGate at k0 kx1 kx2
  cases e1 : vIdx u (zng S) with
  | none => rw [e1] at kx1; exact zx1_X8_gate hC e1 (kx1 rfl)
  | some g =>
    rw [e1] at k0 kx2
    obtain ⟨h1, rfl⟩ := vIdx_some e1
    cases e2 : vIdx v (9) with
    | none => simp only [e2] at kx2; exact zx2_X8_gate hC h1 e2 (kx2 (by first | rfl | trivial))
    | some w =>
      simp only [e2] at k0
      obtain ⟨h2, rfl⟩ := vIdx_some e2
      exact zo_X8_gate hC h1 h2 (k0 (by first | rfl | trivial))
abbrev zrm_X8_card : Room := { frames := 4, cells := 0, slots := 0, locals := 90 }
set_option maxRecDepth 20000 in
theorem zo_X8_card {l : Launch} {D : va_G} {b0 : Nat} {tA : Nat → ClassId} {sa sv : Nat → Nat} {K : Nat → Option Nat} {I : zI} {Qp : zI → Option AV → Prop} {Xp : String → zI → Prop} {F9 : zI} {y f : Nat} {t : Nat → Nat} {er : Int32} {S : zS} {U : List zS} {c9 w : Nat}
    (hC : zRf F9 I y t f er S U) (hc : c9 < znc S) (hw : w < 7) (k1 : ∀ J : zI, zRf F9 J y t f er S U → J y 0 = 0 → Qp J (some (vi (qCard S c9 w)))) :
    zC l D b0 tA sa sv K yX8_card (.code yX8_card cX8_card 3 (some .int)) zrm_X8_card [vr (y) 8, vi ((nI c9)), vi ((nI w))] I Qp Xp := by
  have hC1 : zRf F9 (zput I y 0 0) y t f er S U := hC.put (by decide)
  have hW := hC.2.2.2.1
  have hg6 := hW.ng.1
  have hc12 := hW.nc.1
  have hf5 := hC.1.2.1
  refine zC_of (by decide +kernel) (Nat.le_of_ble_eq_true rfl) ?_
  intro p e s m args below meth c X hnt
  have X : zX p l e zrm_X8_card s m args below meth c RX8 cX8_card 3 (some .int) D b0 tA sa sv := X
  refine zr_lv (lv2 := [some (vr (y) 8), some (vi ((nI c9))), some (vi ((nI w)))]) rfl ?_
  refine zr_aload0 X dX8_card_0 ?_
  refine zr_iconst (v := (0 : Int32)) X dX8_card_1 (by decide) ?_
  refine zr_putI X zf_X8_31 rfl (Or.inl rfl) dX8_card_2 ?_
  refine zr_aload0 X dX8_card_5 ?_
  refine zr_iload1 X dX8_card_6 ?_
  refine zr_callV1 (rm9 := zrm_X8_noCard) X hnt zm_X8_248 (by decide) (by decide) (by decide) (Nat.le_of_ble_eq_true rfl) dX8_card_7 ?_
  refine zo_X8_noCard hC1.2.2.1 hW (zput_eq) (by omega) ?_
  refine zr_if_ne (tgt := 36) X dX8_card_10 (by decide) (fun h => absurd h (by decide)) (fun _ => ?_)
  refine zr_aload0 X dX8_card_13 ?_
  refine zr_iload2 X dX8_card_14 ?_
  refine zr_iconst (v := (0 : Int32)) X dX8_card_15 (by decide) ?_
  refine zr_bipush (v := (6 : Int32)) X dX8_card_16 (by decide) ?_
  refine zr_callS3 (rm9 := zrm_X8_in) X hnt zm_X8_117 (by decide) (by decide) (by decide) (Nat.le_of_ble_eq_true rfl) dX8_card_18 ?_
  refine zIo_X8_in (n := 7) (by omega) (by omega) (by rfl) ?_
  refine zr_if_ne (tgt := 28) X dX8_card_21 (by decide) (fun _ => ?_) (fun h => absurd h (by decide))
  refine zr_iconst (v := (0 : Int32)) X dX8_card_28 (by decide) ?_
  refine zr_iconst (v := (2 : Int32)) X dX8_card_29 (by decide) ?_
  refine zr_callV2 (rm9 := zrm_X8_fails) X hnt zm_X8_220 (by decide) (by decide) (by decide) (Nat.le_of_ble_eq_true rfl) dX8_card_30 ?_
  refine zf0_X8_fails (zput_eq) ?_
  refine zr_if_eq (tgt := 40) X dX8_card_33 (by decide) (fun _ => ?_) (fun h => absurd h (by decide))
  refine zr_aload0 X dX8_card_40 ?_
  refine zr_iload1 X dX8_card_41 ?_
  refine zr_iload2 X dX8_card_42 ?_
  refine zr_callV2 (rm9 := zrm_X8_ofCard) X hnt zm_X8_251 (by decide) (by decide) (by decide) (Nat.le_of_ble_eq_true rfl) dX8_card_43 ?_
  refine zq_X8_ofCard hC1.2.2.1 hW (by omega) (by omega) ?_
  refine zr_iret X (by decide) (by decide) dX8_card_46 ?_
  exact k1 _ hC1 zput_eq
set_option maxRecDepth 20000 in
theorem zx2_X8_card {l : Launch} {D : va_G} {b0 : Nat} {tA : Nat → ClassId} {sa sv : Nat → Nat} {K : Nat → Option Nat} {I : zI} {Qp : zI → Option AV → Prop} {Xp : String → zI → Prop} {F9 : zI} {y f : Nat} {t : Nat → Nat} {er : Int32} {S : zS} {U : List zS} {c9 : Nat} {v : Int32}
    (hC : zRf F9 I y t f er S U) (hc : c9 < znc S) (hb : vIdx v (7) = none) (kx : ∀ (J : zI) (v9 : Int32), zRf F9 J y t f er S U → J y 0 = 2 → Qp J (some (vi v9))) :
    zC l D b0 tA sa sv K yX8_card (.code yX8_card cX8_card 3 (some .int)) zrm_X8_card [vr (y) 8, vi ((nI c9)), vi (v)] I Qp Xp := by
  have hC1 : zRf F9 (zput I y 0 0) y t f er S U := hC.put (by decide)
  have hW := hC.2.2.2.1
  have hg6 := hW.ng.1
  have hc12 := hW.nc.1
  have hf5 := hC.1.2.1
  refine zC_of (by decide +kernel) (Nat.le_of_ble_eq_true rfl) ?_
  intro p e s m args below meth c X hnt
  have X : zX p l e zrm_X8_card s m args below meth c RX8 cX8_card 3 (some .int) D b0 tA sa sv := X
  refine zr_lv (lv2 := [some (vr (y) 8), some (vi ((nI c9))), some (vi (v))]) rfl ?_
  refine zr_aload0 X dX8_card_0 ?_
  refine zr_iconst (v := (0 : Int32)) X dX8_card_1 (by decide) ?_
  refine zr_putI X zf_X8_31 rfl (Or.inl rfl) dX8_card_2 ?_
  refine zr_aload0 X dX8_card_5 ?_
  refine zr_iload1 X dX8_card_6 ?_
  refine zr_callV1 (rm9 := zrm_X8_noCard) X hnt zm_X8_248 (by decide) (by decide) (by decide) (Nat.le_of_ble_eq_true rfl) dX8_card_7 ?_
  refine zo_X8_noCard hC1.2.2.1 hW (zput_eq) (by omega) ?_
  refine zr_if_ne (tgt := 36) X dX8_card_10 (by decide) (fun h => absurd h (by decide)) (fun _ => ?_)
  refine zr_aload0 X dX8_card_13 ?_
  refine zr_iload2 X dX8_card_14 ?_
  refine zr_iconst (v := (0 : Int32)) X dX8_card_15 (by decide) ?_
  refine zr_bipush (v := (6 : Int32)) X dX8_card_16 (by decide) ?_
  refine zr_callS3 (rm9 := zrm_X8_in) X hnt zm_X8_117 (by decide) (by decide) (by decide) (Nat.le_of_ble_eq_true rfl) dX8_card_18 ?_
  refine zIx_X8_in (n := 7) (by assumption) (by omega) (by rfl) ?_
  refine zr_if_ne (tgt := 28) X dX8_card_21 (by decide) (fun h => absurd h (by decide)) (fun _ => ?_)
  refine zr_iconst (v := (1 : Int32)) X dX8_card_24 (by decide) ?_
  refine zr_goto (tgt := 29) X dX8_card_25 (by decide) ?_
  refine zr_iconst (v := (2 : Int32)) X dX8_card_29 (by decide) ?_
  refine zr_callV2 (rm9 := zrm_X8_fails) X hnt zm_X8_220 (by decide) (by decide) (by decide) (Nat.le_of_ble_eq_true rfl) dX8_card_30 ?_
  refine zf1_X8_fails (zput_eq) (by decide) ?_
  refine zr_if_eq (tgt := 40) X dX8_card_33 (by decide) (fun h => absurd h (by decide)) (fun _ => ?_)
  refine zr_iconst (v := (0 : Int32)) X dX8_card_36 (by decide) ?_
  refine zr_goto (tgt := 46) X dX8_card_37 (by decide) ?_
  refine zr_iret X (by decide) (by decide) dX8_card_46 ?_
  exact kx _ _ (hC1.put (by decide)) zput_eq
set_option maxRecDepth 20000 in
theorem zx1_X8_card {l : Launch} {D : va_G} {b0 : Nat} {tA : Nat → ClassId} {sa sv : Nat → Nat} {K : Nat → Option Nat} {I : zI} {Qp : zI → Option AV → Prop} {Xp : String → zI → Prop} {F9 : zI} {y f : Nat} {t : Nat → Nat} {er : Int32} {S : zS} {U : List zS} {u v : Int32}
    (hC : zRf F9 I y t f er S U) (hb : vIdx u (znc S) = none) (kx : ∀ (J : zI) (v9 : Int32), zRf F9 J y t f er S U → J y 0 = 1 → Qp J (some (vi v9))) :
    zC l D b0 tA sa sv K yX8_card (.code yX8_card cX8_card 3 (some .int)) zrm_X8_card [vr (y) 8, vi (u), vi (v)] I Qp Xp := by
  have hC1 : zRf F9 (zput I y 0 0) y t f er S U := hC.put (by decide)
  have hW := hC.2.2.2.1
  have hg6 := hW.ng.1
  have hc12 := hW.nc.1
  have hf5 := hC.1.2.1
  refine zC_of (by decide +kernel) (Nat.le_of_ble_eq_true rfl) ?_
  intro p e s m args below meth c X hnt
  have X : zX p l e zrm_X8_card s m args below meth c RX8 cX8_card 3 (some .int) D b0 tA sa sv := X
  refine zr_lv (lv2 := [some (vr (y) 8), some (vi (u)), some (vi (v))]) rfl ?_
  refine zr_aload0 X dX8_card_0 ?_
  refine zr_iconst (v := (0 : Int32)) X dX8_card_1 (by decide) ?_
  refine zr_putI X zf_X8_31 rfl (Or.inl rfl) dX8_card_2 ?_
  refine zr_aload0 X dX8_card_5 ?_
  refine zr_iload1 X dX8_card_6 ?_
  refine zr_callV1 (rm9 := zrm_X8_noCard) X hnt zm_X8_248 (by decide) (by decide) (by decide) (Nat.le_of_ble_eq_true rfl) dX8_card_7 ?_
  refine zx_X8_noCard hC1.2.2.1 hW (zput_eq) (by assumption) ?_
  refine zr_if_ne (tgt := 36) X dX8_card_10 (by decide) (fun _ => ?_) (fun h => absurd h (by decide))
  refine zr_iconst (v := (0 : Int32)) X dX8_card_36 (by decide) ?_
  refine zr_goto (tgt := 46) X dX8_card_37 (by decide) ?_
  refine zr_iret X (by decide) (by decide) dX8_card_46 ?_
  exact kx _ _ (hC1.put (by decide)) zput_eq
theorem zq_X8_card {l : Launch} {D : va_G} {b0 : Nat} {tA : Nat → ClassId} {sa sv : Nat → Nat} {K : Nat → Option Nat} {I : zI} {Qp : zI → Option AV → Prop} {Xp : String → zI → Prop} {F9 : zI} {y f : Nat} {t : Nat → Nat} {er : Int32} {S : zS} {U : List zS} {u v : Int32}
    (hC : zRf F9 I y t f er S U) (k0 : (rCard S u v).1 = 0 → ∀ J : zI, zRf F9 J y t f er S U → J y 0 = 0 → Qp J (some (vi (rCard S u v).2))) (kx1 : (rCard S u v).1 = 1 → ∀ (J : zI) (v9 : Int32), zRf F9 J y t f er S U → J y 0 = 1 → Qp J (some (vi v9))) (kx2 : (rCard S u v).1 = 2 → ∀ (J : zI) (v9 : Int32), zRf F9 J y t f er S U → J y 0 = 2 → Qp J (some (vi v9))) :
    zC l D b0 tA sa sv K yX8_card (.code yX8_card cX8_card 3 (some .int)) zrm_X8_card [vr (y) 8, vi (u), vi (v)] I Qp Xp := by
  unfold rCard at k0 kx1 kx2
  cases e1 : vIdx u (znc S) with
  | none => rw [e1] at kx1; exact zx1_X8_card hC e1 (kx1 rfl)
  | some g =>
    rw [e1] at k0 kx2
    obtain ⟨h1, rfl⟩ := vIdx_some e1
    cases e2 : vIdx v (7) with
    | none => simp only [e2] at kx2; exact zx2_X8_card hC h1 e2 (kx2 (by first | rfl | trivial))
    | some w =>
      simp only [e2] at k0
      obtain ⟨h2, rfl⟩ := vIdx_some e2
      exact zo_X8_card hC h1 h2 (k0 (by first | rfl | trivial))
abbrev zrm_X8_why : Room := { frames := 2, cells := 0, slots := 0, locals := 44 }
set_option maxRecDepth 20000 in
theorem zo_X8_why {l : Launch} {D : va_G} {b0 : Nat} {tA : Nat → ClassId} {sa sv : Nat → Nat} {K : Nat → Option Nat} {I : zI} {Qp : zI → Option AV → Prop} {Xp : String → zI → Prop} {F9 : zI} {y f : Nat} {t : Nat → Nat} {er : Int32} {S : zS} {U : List zS} {c9 s9 : Nat}
    (hC : zRf F9 I y t f er S U) (hc : c9 < znc S) (hs : s9 < 2) (k1 : ∀ J : zI, zRf F9 J y t f er S U → J y 0 = 0 → Qp J (some (vi (nI (qRef S c9 s9))))) :
    zC l D b0 tA sa sv K yX8_why (.code yX8_why cX8_why 3 (some .int)) zrm_X8_why [vr (y) 8, vi ((nI c9)), vi ((nI s9))] I Qp Xp := by
  have hC1 : zRf F9 (zput I y 0 0) y t f er S U := hC.put (by decide)
  have hW := hC.2.2.2.1
  have hg6 := hW.ng.1
  have hc12 := hW.nc.1
  have hf5 := hC.1.2.1
  refine zC_of (by decide +kernel) (Nat.le_of_ble_eq_true rfl) ?_
  intro p e s m args below meth c X hnt
  have X : zX p l e zrm_X8_why s m args below meth c RX8 cX8_why 3 (some .int) D b0 tA sa sv := X
  refine zr_lv (lv2 := [some (vr (y) 8), some (vi ((nI c9))), some (vi ((nI s9)))]) rfl ?_
  refine zr_aload0 X dX8_why_0 ?_
  refine zr_iconst (v := (0 : Int32)) X dX8_why_1 (by decide) ?_
  refine zr_putI X zf_X8_31 rfl (Or.inl rfl) dX8_why_2 ?_
  refine zr_aload0 X dX8_why_5 ?_
  refine zr_iload1 X dX8_why_6 ?_
  refine zr_callV1 (rm9 := zrm_X8_noCard) X hnt zm_X8_248 (by decide) (by decide) (by decide) (Nat.le_of_ble_eq_true rfl) dX8_why_7 ?_
  refine zo_X8_noCard hC1.2.2.1 hW (zput_eq) (by omega) ?_
  refine zr_if_ne (tgt := 22) X dX8_why_10 (by decide) (fun h => absurd h (by decide)) (fun _ => ?_)
  refine zr_aload0 X dX8_why_13 ?_
  refine zr_iload2 X dX8_why_14 ?_
  refine zr_iconst (v := (2 : Int32)) X dX8_why_15 (by decide) ?_
  refine zr_callV2 (rm9 := zrm_X8_noSide) X hnt zm_X8_254 (by decide) (by decide) (by decide) (Nat.le_of_ble_eq_true rfl) dX8_why_16 ?_
  refine zo_X8_noSide (zput_eq) (by omega) ?_
  refine zr_if_eq (tgt := 26) X dX8_why_19 (by decide) (fun _ => ?_) (fun h => absurd h (by decide))
  refine zr_aload0 X dX8_why_26 ?_
  refine zr_getR X zf_X8_17 rfl (by decide) (by decide) dX8_why_27 ?_
  refine zr_iload1 X dX8_why_30 ?_
  refine zr_iload2 X dX8_why_31 ?_
  refine zr_callS3 (rm9 := zrm_X8_refusal) X hnt zm_X8_81 (by decide) (by decide) (by decide) (Nat.le_of_ble_eq_true rfl) dX8_why_32 ?_
  refine zn_X8_refusal (c9 := c9) (s9 := s9) hC1.2.2.1 (by omega) (by omega) ?_; have hq4 := qRef_lt (S := S) (c := c9) (s := s9)
  refine zr_iret X (by decide) (by decide) dX8_why_35 ?_
  exact k1 _ hC1 zput_eq
set_option maxRecDepth 20000 in
theorem zx2_X8_why {l : Launch} {D : va_G} {b0 : Nat} {tA : Nat → ClassId} {sa sv : Nat → Nat} {K : Nat → Option Nat} {I : zI} {Qp : zI → Option AV → Prop} {Xp : String → zI → Prop} {F9 : zI} {y f : Nat} {t : Nat → Nat} {er : Int32} {S : zS} {U : List zS} {c9 : Nat} {v : Int32}
    (hC : zRf F9 I y t f er S U) (hc : c9 < znc S) (hb : vIdx v (2) = none) (kx : ∀ (J : zI) (v9 : Int32), zRf F9 J y t f er S U → J y 0 = 2 → Qp J (some (vi v9))) :
    zC l D b0 tA sa sv K yX8_why (.code yX8_why cX8_why 3 (some .int)) zrm_X8_why [vr (y) 8, vi ((nI c9)), vi (v)] I Qp Xp := by
  have hC1 : zRf F9 (zput I y 0 0) y t f er S U := hC.put (by decide)
  have hW := hC.2.2.2.1
  have hg6 := hW.ng.1
  have hc12 := hW.nc.1
  have hf5 := hC.1.2.1
  refine zC_of (by decide +kernel) (Nat.le_of_ble_eq_true rfl) ?_
  intro p e s m args below meth c X hnt
  have X : zX p l e zrm_X8_why s m args below meth c RX8 cX8_why 3 (some .int) D b0 tA sa sv := X
  refine zr_lv (lv2 := [some (vr (y) 8), some (vi ((nI c9))), some (vi (v))]) rfl ?_
  refine zr_aload0 X dX8_why_0 ?_
  refine zr_iconst (v := (0 : Int32)) X dX8_why_1 (by decide) ?_
  refine zr_putI X zf_X8_31 rfl (Or.inl rfl) dX8_why_2 ?_
  refine zr_aload0 X dX8_why_5 ?_
  refine zr_iload1 X dX8_why_6 ?_
  refine zr_callV1 (rm9 := zrm_X8_noCard) X hnt zm_X8_248 (by decide) (by decide) (by decide) (Nat.le_of_ble_eq_true rfl) dX8_why_7 ?_
  refine zo_X8_noCard hC1.2.2.1 hW (zput_eq) (by omega) ?_
  refine zr_if_ne (tgt := 22) X dX8_why_10 (by decide) (fun h => absurd h (by decide)) (fun _ => ?_)
  refine zr_aload0 X dX8_why_13 ?_
  refine zr_iload2 X dX8_why_14 ?_
  refine zr_iconst (v := (2 : Int32)) X dX8_why_15 (by decide) ?_
  refine zr_callV2 (rm9 := zrm_X8_noSide) X hnt zm_X8_254 (by decide) (by decide) (by decide) (Nat.le_of_ble_eq_true rfl) dX8_why_16 ?_
  refine zx_X8_noSide (zput_eq) (by assumption) (by decide) ?_
  refine zr_if_eq (tgt := 26) X dX8_why_19 (by decide) (fun h => absurd h (by decide)) (fun _ => ?_)
  refine zr_iconst (v := (0 : Int32)) X dX8_why_22 (by decide) ?_
  refine zr_goto (tgt := 35) X dX8_why_23 (by decide) ?_
  refine zr_iret X (by decide) (by decide) dX8_why_35 ?_
  exact kx _ _ (hC1.put (by decide)) zput_eq
set_option maxRecDepth 20000 in
theorem zx1_X8_why {l : Launch} {D : va_G} {b0 : Nat} {tA : Nat → ClassId} {sa sv : Nat → Nat} {K : Nat → Option Nat} {I : zI} {Qp : zI → Option AV → Prop} {Xp : String → zI → Prop} {F9 : zI} {y f : Nat} {t : Nat → Nat} {er : Int32} {S : zS} {U : List zS} {u v : Int32}
    (hC : zRf F9 I y t f er S U) (hb : vIdx u (znc S) = none) (kx : ∀ (J : zI) (v9 : Int32), zRf F9 J y t f er S U → J y 0 = 1 → Qp J (some (vi v9))) :
    zC l D b0 tA sa sv K yX8_why (.code yX8_why cX8_why 3 (some .int)) zrm_X8_why [vr (y) 8, vi (u), vi (v)] I Qp Xp := by
  have hC1 : zRf F9 (zput I y 0 0) y t f er S U := hC.put (by decide)
  have hW := hC.2.2.2.1
  have hg6 := hW.ng.1
  have hc12 := hW.nc.1
  have hf5 := hC.1.2.1
  refine zC_of (by decide +kernel) (Nat.le_of_ble_eq_true rfl) ?_
  intro p e s m args below meth c X hnt
  have X : zX p l e zrm_X8_why s m args below meth c RX8 cX8_why 3 (some .int) D b0 tA sa sv := X
  refine zr_lv (lv2 := [some (vr (y) 8), some (vi (u)), some (vi (v))]) rfl ?_
  refine zr_aload0 X dX8_why_0 ?_
  refine zr_iconst (v := (0 : Int32)) X dX8_why_1 (by decide) ?_
  refine zr_putI X zf_X8_31 rfl (Or.inl rfl) dX8_why_2 ?_
  refine zr_aload0 X dX8_why_5 ?_
  refine zr_iload1 X dX8_why_6 ?_
  refine zr_callV1 (rm9 := zrm_X8_noCard) X hnt zm_X8_248 (by decide) (by decide) (by decide) (Nat.le_of_ble_eq_true rfl) dX8_why_7 ?_
  refine zx_X8_noCard hC1.2.2.1 hW (zput_eq) (by assumption) ?_
  refine zr_if_ne (tgt := 22) X dX8_why_10 (by decide) (fun _ => ?_) (fun h => absurd h (by decide))
  refine zr_iconst (v := (0 : Int32)) X dX8_why_22 (by decide) ?_
  refine zr_goto (tgt := 35) X dX8_why_23 (by decide) ?_
  refine zr_iret X (by decide) (by decide) dX8_why_35 ?_
  exact kx _ _ (hC1.put (by decide)) zput_eq
theorem zq_X8_why {l : Launch} {D : va_G} {b0 : Nat} {tA : Nat → ClassId} {sa sv : Nat → Nat} {K : Nat → Option Nat} {I : zI} {Qp : zI → Option AV → Prop} {Xp : String → zI → Prop} {F9 : zI} {y f : Nat} {t : Nat → Nat} {er : Int32} {S : zS} {U : List zS} {u v : Int32}
    (hC : zRf F9 I y t f er S U) (k0 : (rWhy S u v).1 = 0 → ∀ J : zI, zRf F9 J y t f er S U → J y 0 = 0 → Qp J (some (vi (rWhy S u v).2))) (kx1 : (rWhy S u v).1 = 1 → ∀ (J : zI) (v9 : Int32), zRf F9 J y t f er S U → J y 0 = 1 → Qp J (some (vi v9))) (kx2 : (rWhy S u v).1 = 2 → ∀ (J : zI) (v9 : Int32), zRf F9 J y t f er S U → J y 0 = 2 → Qp J (some (vi v9))) :
    zC l D b0 tA sa sv K yX8_why (.code yX8_why cX8_why 3 (some .int)) zrm_X8_why [vr (y) 8, vi (u), vi (v)] I Qp Xp := by
  unfold rWhy at k0 kx1 kx2
  cases e1 : vIdx u (znc S) with
  | none => rw [e1] at kx1; exact zx1_X8_why hC e1 (kx1 rfl)
  | some g =>
    rw [e1] at k0 kx2
    obtain ⟨h1, rfl⟩ := vIdx_some e1
    cases e2 : vIdx v (2) with
    | none => simp only [e2] at kx2; exact zx2_X8_why hC h1 e2 (kx2 (by first | rfl | trivial))
    | some w =>
      simp only [e2] at k0
      obtain ⟨h2, rfl⟩ := vIdx_some e2
      exact zo_X8_why hC h1 h2 (k0 (by first | rfl | trivial))
abbrev zrm_X8_nextSide : Room := { frames := 3, cells := 0, slots := 0, locals := 67 }
set_option maxRecDepth 20000 in
theorem zo_X8_nextSide {l : Launch} {D : va_G} {b0 : Nat} {tA : Nat → ClassId} {sa sv : Nat → Nat} {K : Nat → Option Nat} {I : zI} {Qp : zI → Option AV → Prop} {Xp : String → zI → Prop} {F9 : zI} {y f : Nat} {t : Nat → Nat} {er : Int32} {S : zS} {U : List zS} {g : Nat}
    (hC : zRf F9 I y t f er S U) (hg : g < zng S) (k1 : ∀ J : zI, zRf F9 J y t f er S U → J y 0 = 0 → Qp J (some (vi (nI (qTurn S g))))) :
    zC l D b0 tA sa sv K yX8_nextSide (.code yX8_nextSide cX8_nextSide 2 (some .int)) zrm_X8_nextSide [vr (y) 8, vi ((nI g))] I Qp Xp := by
  have hC1 : zRf F9 (zput I y 0 0) y t f er S U := hC.put (by decide)
  have hW := hC.2.2.2.1
  have hg6 := hW.ng.1
  have hc12 := hW.nc.1
  have hf5 := hC.1.2.1
  refine zC_of (by decide +kernel) (Nat.le_of_ble_eq_true rfl) ?_
  intro p e s m args below meth c X hnt
  have X : zX p l e zrm_X8_nextSide s m args below meth c RX8 cX8_nextSide 2 (some .int) D b0 tA sa sv := X
  refine zr_lv (lv2 := [some (vr (y) 8), some (vi ((nI g)))]) rfl ?_
  refine zr_aload0 X dX8_nextSide_0 ?_
  refine zr_iconst (v := (0 : Int32)) X dX8_nextSide_1 (by decide) ?_
  refine zr_putI X zf_X8_31 rfl (Or.inl rfl) dX8_nextSide_2 ?_
  refine zr_aload0 X dX8_nextSide_5 ?_
  refine zr_iload1 X dX8_nextSide_6 ?_
  refine zr_callV1 (rm9 := zrm_X8_noGate) X hnt zm_X8_242 (by decide) (by decide) (by decide) (Nat.le_of_ble_eq_true rfl) dX8_nextSide_7 ?_
  refine zo_X8_noGate hC1.2.2.1 hW (zput_eq) (by omega) ?_
  refine zr_if_eq (tgt := 17) X dX8_nextSide_10 (by decide) (fun _ => ?_) (fun h => absurd h (by decide))
  refine zr_aload0 X dX8_nextSide_17 ?_
  refine zr_getR X zf_X8_17 rfl (by decide) (by decide) dX8_nextSide_18 ?_
  refine zr_iload1 X dX8_nextSide_21 ?_
  refine zr_callS2 (rm9 := zrm_X8_turnOf) X hnt zm_X8_78 (by decide) (by decide) (by decide) (Nat.le_of_ble_eq_true rfl) dX8_nextSide_22 ?_
  refine zn_X8_turnOf hC1.2.2.1 (by omega) (hW.pad _).1 ?_
  refine zr_iret X (by decide) (by decide) dX8_nextSide_25 ?_
  exact k1 _ hC1 zput_eq
set_option maxRecDepth 20000 in
theorem zx_X8_nextSide {l : Launch} {D : va_G} {b0 : Nat} {tA : Nat → ClassId} {sa sv : Nat → Nat} {K : Nat → Option Nat} {I : zI} {Qp : zI → Option AV → Prop} {Xp : String → zI → Prop} {F9 : zI} {y f : Nat} {t : Nat → Nat} {er : Int32} {S : zS} {U : List zS} {u : Int32}
    (hC : zRf F9 I y t f er S U) (hb : vIdx u (zng S) = none) (kx : ∀ (J : zI) (v9 : Int32), zRf F9 J y t f er S U → J y 0 = 1 → Qp J (some (vi v9))) :
    zC l D b0 tA sa sv K yX8_nextSide (.code yX8_nextSide cX8_nextSide 2 (some .int)) zrm_X8_nextSide [vr (y) 8, vi (u)] I Qp Xp := by
  have hC1 : zRf F9 (zput I y 0 0) y t f er S U := hC.put (by decide)
  have hW := hC.2.2.2.1
  have hg6 := hW.ng.1
  have hc12 := hW.nc.1
  have hf5 := hC.1.2.1
  refine zC_of (by decide +kernel) (Nat.le_of_ble_eq_true rfl) ?_
  intro p e s m args below meth c X hnt
  have X : zX p l e zrm_X8_nextSide s m args below meth c RX8 cX8_nextSide 2 (some .int) D b0 tA sa sv := X
  refine zr_lv (lv2 := [some (vr (y) 8), some (vi (u))]) rfl ?_
  refine zr_aload0 X dX8_nextSide_0 ?_
  refine zr_iconst (v := (0 : Int32)) X dX8_nextSide_1 (by decide) ?_
  refine zr_putI X zf_X8_31 rfl (Or.inl rfl) dX8_nextSide_2 ?_
  refine zr_aload0 X dX8_nextSide_5 ?_
  refine zr_iload1 X dX8_nextSide_6 ?_
  refine zr_callV1 (rm9 := zrm_X8_noGate) X hnt zm_X8_242 (by decide) (by decide) (by decide) (Nat.le_of_ble_eq_true rfl) dX8_nextSide_7 ?_
  refine zx_X8_noGate hC1.2.2.1 hW (zput_eq) (by assumption) ?_
  refine zr_if_eq (tgt := 17) X dX8_nextSide_10 (by decide) (fun h => absurd h (by decide)) (fun _ => ?_)
  refine zr_iconst (v := (0 : Int32)) X dX8_nextSide_13 (by decide) ?_
  refine zr_goto (tgt := 25) X dX8_nextSide_14 (by decide) ?_
  refine zr_iret X (by decide) (by decide) dX8_nextSide_25 ?_
  exact kx _ _ (hC1.put (by decide)) zput_eq
theorem zq_X8_nextSide {l : Launch} {D : va_G} {b0 : Nat} {tA : Nat → ClassId} {sa sv : Nat → Nat} {K : Nat → Option Nat} {I : zI} {Qp : zI → Option AV → Prop} {Xp : String → zI → Prop} {F9 : zI} {y f : Nat} {t : Nat → Nat} {er : Int32} {S : zS} {U : List zS} {u : Int32}
    (hC : zRf F9 I y t f er S U) (k0 : (rNext S u).1 = 0 → ∀ J : zI, zRf F9 J y t f er S U → J y 0 = 0 → Qp J (some (vi (rNext S u).2))) (kx1 : (rNext S u).1 = 1 → ∀ (J : zI) (v9 : Int32), zRf F9 J y t f er S U → J y 0 = 1 → Qp J (some (vi v9))) :
    zC l D b0 tA sa sv K yX8_nextSide (.code yX8_nextSide cX8_nextSide 2 (some .int)) zrm_X8_nextSide [vr (y) 8, vi (u)] I Qp Xp := by
  unfold rNext at k0 kx1
  cases e1 : vIdx u (zng S) with
  | none => rw [e1] at kx1; exact zx_X8_nextSide hC e1 (kx1 rfl)
  | some g =>
    rw [e1] at k0
    obtain ⟨h1, rfl⟩ := vIdx_some e1
    exact zo_X8_nextSide hC h1 (k0 rfl)
abbrev zrm_X8_whyNotJoin : Room := { frames := 4, cells := 0, slots := 0, locals := 91 }
set_option maxRecDepth 20000 in
theorem zonone_X8_whyNotJoin {l : Launch} {D : va_G} {b0 : Nat} {tA : Nat → ClassId} {sa sv : Nat → Nat} {K : Nat → Option Nat} {I : zI} {Qp : zI → Option AV → Prop} {Xp : String → zI → Prop} {F9 : zI} {y f : Nat} {t : Nat → Nat} {er : Int32} {S : zS} {U : List zS} {g s9 : Nat}
    (hC : zRf F9 I y t f er S U) (hg : g < zng S) (hs : s9 < 2) (k1 : ∀ J : zI, zRf F9 J y t f er S U → J y 0 = 0 → Qp J (some (vi (nI (qWhy S g s9 0))))) :
    zC l D b0 tA sa sv K yX8_whyNotJoin (.code yX8_whyNotJoin cX8_whyNotJoin 4 (some .int)) zrm_X8_whyNotJoin [vr (y) 8, vi ((nI g)), vi ((nI s9)), vi ((-1 : Int32))] I Qp Xp := by
  have hC1 : zRf F9 (zput I y 0 0) y t f er S U := hC.put (by decide)
  have hW := hC.2.2.2.1
  have hg6 := hW.ng.1
  have hc12 := hW.nc.1
  have hf5 := hC.1.2.1
  refine zC_of (by decide +kernel) (Nat.le_of_ble_eq_true rfl) ?_
  intro p e s m args below meth c X hnt
  have X : zX p l e zrm_X8_whyNotJoin s m args below meth c RX8 cX8_whyNotJoin 4 (some .int) D b0 tA sa sv := X
  refine zr_lv (lv2 := [some (vr (y) 8), some (vi ((nI g))), some (vi ((nI s9))), some (vi ((-1 : Int32)))]) rfl ?_
  refine zr_aload0 X dX8_whyNotJoin_0 ?_
  refine zr_iconst (v := (0 : Int32)) X dX8_whyNotJoin_1 (by decide) ?_
  refine zr_putI X zf_X8_31 rfl (Or.inl rfl) dX8_whyNotJoin_2 ?_
  refine zr_aload0 X dX8_whyNotJoin_5 ?_
  refine zr_iload1 X dX8_whyNotJoin_6 ?_
  refine zr_iload2 X dX8_whyNotJoin_7 ?_
  refine zr_iload3 X dX8_whyNotJoin_8 ?_
  refine zr_callV3 (rm9 := zrm_X8_noJoin) X hnt zm_X8_257 (by decide) (by decide) (by decide) (Nat.le_of_ble_eq_true rfl) dX8_whyNotJoin_9 ?_
  refine zonone_X8_noJoin hC1.2.2.1 hW (zput_eq) (by omega) (by omega) ?_
  refine zr_if_eq (tgt := 19) X dX8_whyNotJoin_12 (by decide) (fun _ => ?_) (fun h => absurd h (by decide))
  refine zr_aload0 X dX8_whyNotJoin_19 ?_
  refine zr_getR X zf_X8_17 rfl (by decide) (by decide) dX8_whyNotJoin_20 ?_
  refine zr_iload1 X dX8_whyNotJoin_23 ?_
  refine zr_iload2 X dX8_whyNotJoin_24 ?_
  refine zr_iload3 X dX8_whyNotJoin_25 ?_
  refine zr_callS4 (rm9 := zrm_X8_against) X hnt zm_X8_57 (by decide) (by decide) (by decide) (Nat.le_of_ble_eq_true rfl) dX8_whyNotJoin_26 ?_
  refine znone_X8_against (g := g) (s9 := s9) hC1.2.2.1 hW (by omega) (by omega) ?_; have hq5 := qWhy_lt (S := S) (g := g) (s := s9) (w := 0)
  refine zr_iret X (by decide) (by decide) dX8_whyNotJoin_29 ?_
  exact k1 _ hC1 zput_eq
set_option maxRecDepth 20000 in
theorem zx2none_X8_whyNotJoin {l : Launch} {D : va_G} {b0 : Nat} {tA : Nat → ClassId} {sa sv : Nat → Nat} {K : Nat → Option Nat} {I : zI} {Qp : zI → Option AV → Prop} {Xp : String → zI → Prop} {F9 : zI} {y f : Nat} {t : Nat → Nat} {er : Int32} {S : zS} {U : List zS} {g : Nat} {v : Int32}
    (hC : zRf F9 I y t f er S U) (hg : g < zng S) (hb : vIdx v (2) = none) (kx : ∀ (J : zI) (v9 : Int32), zRf F9 J y t f er S U → J y 0 = 2 → Qp J (some (vi v9))) :
    zC l D b0 tA sa sv K yX8_whyNotJoin (.code yX8_whyNotJoin cX8_whyNotJoin 4 (some .int)) zrm_X8_whyNotJoin [vr (y) 8, vi ((nI g)), vi (v), vi ((-1 : Int32))] I Qp Xp := by
  have hC1 : zRf F9 (zput I y 0 0) y t f er S U := hC.put (by decide)
  have hW := hC.2.2.2.1
  have hg6 := hW.ng.1
  have hc12 := hW.nc.1
  have hf5 := hC.1.2.1
  refine zC_of (by decide +kernel) (Nat.le_of_ble_eq_true rfl) ?_
  intro p e s m args below meth c X hnt
  have X : zX p l e zrm_X8_whyNotJoin s m args below meth c RX8 cX8_whyNotJoin 4 (some .int) D b0 tA sa sv := X
  refine zr_lv (lv2 := [some (vr (y) 8), some (vi ((nI g))), some (vi (v)), some (vi ((-1 : Int32)))]) rfl ?_
  refine zr_aload0 X dX8_whyNotJoin_0 ?_
  refine zr_iconst (v := (0 : Int32)) X dX8_whyNotJoin_1 (by decide) ?_
  refine zr_putI X zf_X8_31 rfl (Or.inl rfl) dX8_whyNotJoin_2 ?_
  refine zr_aload0 X dX8_whyNotJoin_5 ?_
  refine zr_iload1 X dX8_whyNotJoin_6 ?_
  refine zr_iload2 X dX8_whyNotJoin_7 ?_
  refine zr_iload3 X dX8_whyNotJoin_8 ?_
  refine zr_callV3 (rm9 := zrm_X8_noJoin) X hnt zm_X8_257 (by decide) (by decide) (by decide) (Nat.le_of_ble_eq_true rfl) dX8_whyNotJoin_9 ?_
  refine zx2none_X8_noJoin hC1.2.2.1 hW (zput_eq) (by omega) (by assumption) ?_
  refine zr_if_eq (tgt := 19) X dX8_whyNotJoin_12 (by decide) (fun h => absurd h (by decide)) (fun _ => ?_)
  refine zr_iconst (v := (0 : Int32)) X dX8_whyNotJoin_15 (by decide) ?_
  refine zr_goto (tgt := 29) X dX8_whyNotJoin_16 (by decide) ?_
  refine zr_iret X (by decide) (by decide) dX8_whyNotJoin_29 ?_
  exact kx _ _ (hC1.put (by decide)) zput_eq
set_option maxRecDepth 20000 in
theorem zook_X8_whyNotJoin {l : Launch} {D : va_G} {b0 : Nat} {tA : Nat → ClassId} {sa sv : Nat → Nat} {K : Nat → Option Nat} {I : zI} {Qp : zI → Option AV → Prop} {Xp : String → zI → Prop} {F9 : zI} {y f : Nat} {t : Nat → Nat} {er : Int32} {S : zS} {U : List zS} {g s9 c9 : Nat}
    (hC : zRf F9 I y t f er S U) (hg : g < zng S) (hc : c9 < znc S) (hs : s9 < 2) (k1 : ∀ J : zI, zRf F9 J y t f er S U → J y 0 = 0 → Qp J (some (vi (nI (qWhy S g s9 (c9 + 1)))))) :
    zC l D b0 tA sa sv K yX8_whyNotJoin (.code yX8_whyNotJoin cX8_whyNotJoin 4 (some .int)) zrm_X8_whyNotJoin [vr (y) 8, vi ((nI g)), vi ((nI s9)), vi ((nI c9))] I Qp Xp := by
  have hC1 : zRf F9 (zput I y 0 0) y t f er S U := hC.put (by decide)
  have hW := hC.2.2.2.1
  have hg6 := hW.ng.1
  have hc12 := hW.nc.1
  have hf5 := hC.1.2.1
  refine zC_of (by decide +kernel) (Nat.le_of_ble_eq_true rfl) ?_
  intro p e s m args below meth c X hnt
  have X : zX p l e zrm_X8_whyNotJoin s m args below meth c RX8 cX8_whyNotJoin 4 (some .int) D b0 tA sa sv := X
  refine zr_lv (lv2 := [some (vr (y) 8), some (vi ((nI g))), some (vi ((nI s9))), some (vi ((nI c9)))]) rfl ?_
  refine zr_aload0 X dX8_whyNotJoin_0 ?_
  refine zr_iconst (v := (0 : Int32)) X dX8_whyNotJoin_1 (by decide) ?_
  refine zr_putI X zf_X8_31 rfl (Or.inl rfl) dX8_whyNotJoin_2 ?_
  refine zr_aload0 X dX8_whyNotJoin_5 ?_
  refine zr_iload1 X dX8_whyNotJoin_6 ?_
  refine zr_iload2 X dX8_whyNotJoin_7 ?_
  refine zr_iload3 X dX8_whyNotJoin_8 ?_
  refine zr_callV3 (rm9 := zrm_X8_noJoin) X hnt zm_X8_257 (by decide) (by decide) (by decide) (Nat.le_of_ble_eq_true rfl) dX8_whyNotJoin_9 ?_
  refine zook_X8_noJoin hC1.2.2.1 hW (zput_eq) (by omega) (by omega) (by omega) ?_
  refine zr_if_eq (tgt := 19) X dX8_whyNotJoin_12 (by decide) (fun _ => ?_) (fun h => absurd h (by decide))
  refine zr_aload0 X dX8_whyNotJoin_19 ?_
  refine zr_getR X zf_X8_17 rfl (by decide) (by decide) dX8_whyNotJoin_20 ?_
  refine zr_iload1 X dX8_whyNotJoin_23 ?_
  refine zr_iload2 X dX8_whyNotJoin_24 ?_
  refine zr_iload3 X dX8_whyNotJoin_25 ?_
  refine zr_callS4 (rm9 := zrm_X8_against) X hnt zm_X8_57 (by decide) (by decide) (by decide) (Nat.le_of_ble_eq_true rfl) dX8_whyNotJoin_26 ?_
  refine zok_X8_against (g := g) (s9 := s9) hC1.2.2.1 hW (by omega) (by omega) (by omega) ?_; have hq5 := qWhy_lt (S := S) (g := g) (s := s9) (w := (c9 + 1))
  refine zr_iret X (by decide) (by decide) dX8_whyNotJoin_29 ?_
  exact k1 _ hC1 zput_eq
set_option maxRecDepth 20000 in
theorem zx2ok_X8_whyNotJoin {l : Launch} {D : va_G} {b0 : Nat} {tA : Nat → ClassId} {sa sv : Nat → Nat} {K : Nat → Option Nat} {I : zI} {Qp : zI → Option AV → Prop} {Xp : String → zI → Prop} {F9 : zI} {y f : Nat} {t : Nat → Nat} {er : Int32} {S : zS} {U : List zS} {g c9 : Nat} {v : Int32}
    (hC : zRf F9 I y t f er S U) (hg : g < zng S) (hc : c9 < znc S) (hb : vIdx v (2) = none) (kx : ∀ (J : zI) (v9 : Int32), zRf F9 J y t f er S U → J y 0 = 2 → Qp J (some (vi v9))) :
    zC l D b0 tA sa sv K yX8_whyNotJoin (.code yX8_whyNotJoin cX8_whyNotJoin 4 (some .int)) zrm_X8_whyNotJoin [vr (y) 8, vi ((nI g)), vi (v), vi ((nI c9))] I Qp Xp := by
  have hC1 : zRf F9 (zput I y 0 0) y t f er S U := hC.put (by decide)
  have hW := hC.2.2.2.1
  have hg6 := hW.ng.1
  have hc12 := hW.nc.1
  have hf5 := hC.1.2.1
  refine zC_of (by decide +kernel) (Nat.le_of_ble_eq_true rfl) ?_
  intro p e s m args below meth c X hnt
  have X : zX p l e zrm_X8_whyNotJoin s m args below meth c RX8 cX8_whyNotJoin 4 (some .int) D b0 tA sa sv := X
  refine zr_lv (lv2 := [some (vr (y) 8), some (vi ((nI g))), some (vi (v)), some (vi ((nI c9)))]) rfl ?_
  refine zr_aload0 X dX8_whyNotJoin_0 ?_
  refine zr_iconst (v := (0 : Int32)) X dX8_whyNotJoin_1 (by decide) ?_
  refine zr_putI X zf_X8_31 rfl (Or.inl rfl) dX8_whyNotJoin_2 ?_
  refine zr_aload0 X dX8_whyNotJoin_5 ?_
  refine zr_iload1 X dX8_whyNotJoin_6 ?_
  refine zr_iload2 X dX8_whyNotJoin_7 ?_
  refine zr_iload3 X dX8_whyNotJoin_8 ?_
  refine zr_callV3 (rm9 := zrm_X8_noJoin) X hnt zm_X8_257 (by decide) (by decide) (by decide) (Nat.le_of_ble_eq_true rfl) dX8_whyNotJoin_9 ?_
  refine zx2ok_X8_noJoin hC1.2.2.1 hW (zput_eq) (by omega) (by omega) (by assumption) ?_
  refine zr_if_eq (tgt := 19) X dX8_whyNotJoin_12 (by decide) (fun h => absurd h (by decide)) (fun _ => ?_)
  refine zr_iconst (v := (0 : Int32)) X dX8_whyNotJoin_15 (by decide) ?_
  refine zr_goto (tgt := 29) X dX8_whyNotJoin_16 (by decide) ?_
  refine zr_iret X (by decide) (by decide) dX8_whyNotJoin_29 ?_
  exact kx _ _ (hC1.put (by decide)) zput_eq
set_option maxRecDepth 20000 in
theorem zx1c_X8_whyNotJoin {l : Launch} {D : va_G} {b0 : Nat} {tA : Nat → ClassId} {sa sv : Nat → Nat} {K : Nat → Option Nat} {I : zI} {Qp : zI → Option AV → Prop} {Xp : String → zI → Prop} {F9 : zI} {y f : Nat} {t : Nat → Nat} {er : Int32} {S : zS} {U : List zS} {g : Nat} {v v3 : Int32}
    (hC : zRf F9 I y t f er S U) (hg : g < zng S) (hb : vIdx v3 (znc S) = none) (hn1 : ¬ v3 = (-1 : Int32)) (kx : ∀ (J : zI) (v9 : Int32), zRf F9 J y t f er S U → J y 0 = 1 → Qp J (some (vi v9))) :
    zC l D b0 tA sa sv K yX8_whyNotJoin (.code yX8_whyNotJoin cX8_whyNotJoin 4 (some .int)) zrm_X8_whyNotJoin [vr (y) 8, vi ((nI g)), vi (v), vi (v3)] I Qp Xp := by
  have hC1 : zRf F9 (zput I y 0 0) y t f er S U := hC.put (by decide)
  have hW := hC.2.2.2.1
  have hg6 := hW.ng.1
  have hc12 := hW.nc.1
  have hf5 := hC.1.2.1
  refine zC_of (by decide +kernel) (Nat.le_of_ble_eq_true rfl) ?_
  intro p e s m args below meth c X hnt
  have X : zX p l e zrm_X8_whyNotJoin s m args below meth c RX8 cX8_whyNotJoin 4 (some .int) D b0 tA sa sv := X
  refine zr_lv (lv2 := [some (vr (y) 8), some (vi ((nI g))), some (vi (v)), some (vi (v3))]) rfl ?_
  refine zr_aload0 X dX8_whyNotJoin_0 ?_
  refine zr_iconst (v := (0 : Int32)) X dX8_whyNotJoin_1 (by decide) ?_
  refine zr_putI X zf_X8_31 rfl (Or.inl rfl) dX8_whyNotJoin_2 ?_
  refine zr_aload0 X dX8_whyNotJoin_5 ?_
  refine zr_iload1 X dX8_whyNotJoin_6 ?_
  refine zr_iload2 X dX8_whyNotJoin_7 ?_
  refine zr_iload3 X dX8_whyNotJoin_8 ?_
  refine zr_callV3 (rm9 := zrm_X8_noJoin) X hnt zm_X8_257 (by decide) (by decide) (by decide) (Nat.le_of_ble_eq_true rfl) dX8_whyNotJoin_9 ?_
  refine zx1c_X8_noJoin hC1.2.2.1 hW (zput_eq) (by omega) (by assumption) (by assumption) ?_
  refine zr_if_eq (tgt := 19) X dX8_whyNotJoin_12 (by decide) (fun h => absurd h (by decide)) (fun _ => ?_)
  refine zr_iconst (v := (0 : Int32)) X dX8_whyNotJoin_15 (by decide) ?_
  refine zr_goto (tgt := 29) X dX8_whyNotJoin_16 (by decide) ?_
  refine zr_iret X (by decide) (by decide) dX8_whyNotJoin_29 ?_
  exact kx _ _ (hC1.put (by decide)) zput_eq
set_option maxRecDepth 20000 in
theorem zx1_X8_whyNotJoin {l : Launch} {D : va_G} {b0 : Nat} {tA : Nat → ClassId} {sa sv : Nat → Nat} {K : Nat → Option Nat} {I : zI} {Qp : zI → Option AV → Prop} {Xp : String → zI → Prop} {F9 : zI} {y f : Nat} {t : Nat → Nat} {er : Int32} {S : zS} {U : List zS} {u v v3 : Int32}
    (hC : zRf F9 I y t f er S U) (hb : vIdx u (zng S) = none) (kx : ∀ (J : zI) (v9 : Int32), zRf F9 J y t f er S U → J y 0 = 1 → Qp J (some (vi v9))) :
    zC l D b0 tA sa sv K yX8_whyNotJoin (.code yX8_whyNotJoin cX8_whyNotJoin 4 (some .int)) zrm_X8_whyNotJoin [vr (y) 8, vi (u), vi (v), vi (v3)] I Qp Xp := by
  have hC1 : zRf F9 (zput I y 0 0) y t f er S U := hC.put (by decide)
  have hW := hC.2.2.2.1
  have hg6 := hW.ng.1
  have hc12 := hW.nc.1
  have hf5 := hC.1.2.1
  refine zC_of (by decide +kernel) (Nat.le_of_ble_eq_true rfl) ?_
  intro p e s m args below meth c X hnt
  have X : zX p l e zrm_X8_whyNotJoin s m args below meth c RX8 cX8_whyNotJoin 4 (some .int) D b0 tA sa sv := X
  refine zr_lv (lv2 := [some (vr (y) 8), some (vi (u)), some (vi (v)), some (vi (v3))]) rfl ?_
  refine zr_aload0 X dX8_whyNotJoin_0 ?_
  refine zr_iconst (v := (0 : Int32)) X dX8_whyNotJoin_1 (by decide) ?_
  refine zr_putI X zf_X8_31 rfl (Or.inl rfl) dX8_whyNotJoin_2 ?_
  refine zr_aload0 X dX8_whyNotJoin_5 ?_
  refine zr_iload1 X dX8_whyNotJoin_6 ?_
  refine zr_iload2 X dX8_whyNotJoin_7 ?_
  refine zr_iload3 X dX8_whyNotJoin_8 ?_
  refine zr_callV3 (rm9 := zrm_X8_noJoin) X hnt zm_X8_257 (by decide) (by decide) (by decide) (Nat.le_of_ble_eq_true rfl) dX8_whyNotJoin_9 ?_
  refine zx1_X8_noJoin hC1.2.2.1 hW (zput_eq) (by assumption) ?_
  refine zr_if_eq (tgt := 19) X dX8_whyNotJoin_12 (by decide) (fun h => absurd h (by decide)) (fun _ => ?_)
  refine zr_iconst (v := (0 : Int32)) X dX8_whyNotJoin_15 (by decide) ?_
  refine zr_goto (tgt := 29) X dX8_whyNotJoin_16 (by decide) ?_
  refine zr_iret X (by decide) (by decide) dX8_whyNotJoin_29 ?_
  exact kx _ _ (hC1.put (by decide)) zput_eq
theorem zq_X8_whyNotJoin {l : Launch} {D : va_G} {b0 : Nat} {tA : Nat → ClassId} {sa sv : Nat → Nat} {K : Nat → Option Nat} {I : zI} {Qp : zI → Option AV → Prop} {Xp : String → zI → Prop} {F9 : zI} {y f : Nat} {t : Nat → Nat} {er : Int32} {S : zS} {U : List zS} {u v v3 : Int32}
    (hC : zRf F9 I y t f er S U) (k0 : (rWhyJoin S u v v3).1 = 0 → ∀ J : zI, zRf F9 J y t f er S U → J y 0 = 0 → Qp J (some (vi (rWhyJoin S u v v3).2))) (kx1 : (rWhyJoin S u v v3).1 = 1 → ∀ (J : zI) (v9 : Int32), zRf F9 J y t f er S U → J y 0 = 1 → Qp J (some (vi v9))) (kx2 : (rWhyJoin S u v v3).1 = 2 → ∀ (J : zI) (v9 : Int32), zRf F9 J y t f er S U → J y 0 = 2 → Qp J (some (vi v9))) :
    zC l D b0 tA sa sv K yX8_whyNotJoin (.code yX8_whyNotJoin cX8_whyNotJoin 4 (some .int)) zrm_X8_whyNotJoin [vr (y) 8, vi (u), vi (v), vi (v3)] I Qp Xp := by
  unfold rWhyJoin at k0 kx1 kx2
  cases e1 : vIdx u (zng S) with
  | none => rw [e1] at kx1; exact zx1_X8_whyNotJoin hC e1 (kx1 rfl)
  | some g =>
    rw [e1] at k0 kx1 kx2
    obtain ⟨h1, rfl⟩ := vIdx_some e1
    rcases vWho_cases (v := v3) (n := znc S) with ⟨rfl, e2⟩ | ⟨c, hc, rfl, e2⟩ | ⟨hn, hb, e2⟩
    · simp only [e2] at k0 kx2
      cases e3 : vIdx v 2 with
      | none => simp only [e3] at kx2; exact zx2none_X8_whyNotJoin hC h1 e3 (kx2 (by first | rfl | trivial))
      | some w =>
        simp only [e3] at k0
        obtain ⟨h3, rfl⟩ := vIdx_some e3
        exact zonone_X8_whyNotJoin hC h1 h3 (k0 (by first | rfl | trivial))
    · simp only [e2] at k0 kx2
      cases e3 : vIdx v 2 with
      | none => simp only [e3] at kx2; exact zx2ok_X8_whyNotJoin hC h1 hc e3 (kx2 (by first | rfl | trivial))
      | some w =>
        simp only [e3] at k0
        obtain ⟨h3, rfl⟩ := vIdx_some e3
        exact zook_X8_whyNotJoin hC h1 hc h3 (k0 (by first | rfl | trivial))
    · simp only [e2] at kx1
      exact zx1c_X8_whyNotJoin hC h1 hb hn (kx1 (by first | rfl | trivial))
abbrev zrm_X8_inLine : Room := { frames := 2, cells := 0, slots := 0, locals := 44 }
set_option maxRecDepth 20000 in
theorem zo_X8_inLine {l : Launch} {D : va_G} {b0 : Nat} {tA : Nat → ClassId} {sa sv : Nat → Nat} {K : Nat → Option Nat} {I : zI} {Qp : zI → Option AV → Prop} {Xp : String → zI → Prop} {F9 : zI} {y f : Nat} {t : Nat → Nat} {er : Int32} {S : zS} {U : List zS} {g s9 p9 : Nat}
    (hC : zRf F9 I y t f er S U) (hg : g < zng S) (hs : s9 < 2) (hp : p9 < (sL S g s9).length) (k1 : ∀ J : zI, zRf F9 J y t f er S U → J y 0 = 0 → Qp J (some (vi (nI ((sL S g s9).getD p9 0) - 1)))) :
    zC l D b0 tA sa sv K yX8_inLine (.code yX8_inLine cX8_inLine 4 (some .int)) zrm_X8_inLine [vr (y) 8, vi ((nI g)), vi ((nI s9)), vi ((nI p9))] I Qp Xp := by
  have hC1 : zRf F9 (zput I y 0 0) y t f er S U := hC.put (by decide)
  have hW := hC.2.2.2.1
  have hg6 := hW.ng.1
  have hc12 := hW.nc.1
  have hf5 := hC.1.2.1
  have hl9 := hW.len g s9
  refine zC_of (by decide +kernel) (Nat.le_of_ble_eq_true rfl) ?_
  intro p e s m args below meth c X hnt
  have X : zX p l e zrm_X8_inLine s m args below meth c RX8 cX8_inLine 4 (some .int) D b0 tA sa sv := X
  refine zr_lv (lv2 := [some (vr (y) 8), some (vi ((nI g))), some (vi ((nI s9))), some (vi ((nI p9)))]) rfl ?_
  refine zr_aload0 X dX8_inLine_0 ?_
  refine zr_iconst (v := (0 : Int32)) X dX8_inLine_1 (by decide) ?_
  refine zr_putI X zf_X8_31 rfl (Or.inl rfl) dX8_inLine_2 ?_
  refine zr_aload0 X dX8_inLine_5 ?_
  refine zr_iload1 X dX8_inLine_6 ?_
  refine zr_callV1 (rm9 := zrm_X8_noGate) X hnt zm_X8_242 (by decide) (by decide) (by decide) (Nat.le_of_ble_eq_true rfl) dX8_inLine_7 ?_
  refine zo_X8_noGate hC1.2.2.1 hW (zput_eq) (by omega) ?_
  refine zr_if_ne (tgt := 54) X dX8_inLine_10 (by decide) (fun h => absurd h (by decide)) (fun _ => ?_)
  refine zr_aload0 X dX8_inLine_13 ?_
  refine zr_iload2 X dX8_inLine_14 ?_
  refine zr_iconst (v := (2 : Int32)) X dX8_inLine_15 (by decide) ?_
  refine zr_callV2 (rm9 := zrm_X8_noSide) X hnt zm_X8_254 (by decide) (by decide) (by decide) (Nat.le_of_ble_eq_true rfl) dX8_inLine_16 ?_
  refine zo_X8_noSide (zput_eq) (by omega) ?_
  refine zr_if_ne (tgt := 54) X dX8_inLine_19 (by decide) (fun h => absurd h (by decide)) (fun _ => ?_)
  refine zr_aload0 X dX8_inLine_22 ?_
  refine zr_iload3 X dX8_inLine_23 ?_
  refine zr_iconst (v := (0 : Int32)) X dX8_inLine_24 (by decide) ?_
  refine zr_aload0 X dX8_inLine_25 ?_
  refine zr_getR X zf_X8_17 rfl (by decide) (by decide) dX8_inLine_26 ?_
  refine zr_iload1 X dX8_inLine_29 ?_
  refine zr_iload2 X dX8_inLine_30 ?_
  refine zr_callS3 (rm9 := zrm_X8_many) X hnt zm_X8_38 (by decide) (by decide) (by decide) (Nat.le_of_ble_eq_true rfl) dX8_inLine_31 ?_
  refine zn_X8_many (g := g) (s9 := s9) hC1.2.2.1 (by omega) (by omega) ?_
  refine zr_iconst (v := (1 : Int32)) X dX8_inLine_34 (by decide) ?_
  refine zr_isub X dX8_inLine_35 ?_
  refine zr_callS3 (rm9 := zrm_X8_in) X hnt zm_X8_117 (by decide) (by decide) (by decide) (Nat.le_of_ble_eq_true rfl) dX8_inLine_36 ?_
  refine zIo_X8_in (n := ((sL S g s9).length)) (by omega) (by omega) rfl ?_
  refine zr_if_ne (tgt := 46) X dX8_inLine_39 (by decide) (fun _ => ?_) (fun h => absurd h (by decide))
  refine zr_iconst (v := (0 : Int32)) X dX8_inLine_46 (by decide) ?_
  refine zr_iconst (v := (3 : Int32)) X dX8_inLine_47 (by decide) ?_
  refine zr_callV2 (rm9 := zrm_X8_fails) X hnt zm_X8_220 (by decide) (by decide) (by decide) (Nat.le_of_ble_eq_true rfl) dX8_inLine_48 ?_
  refine zf0_X8_fails (zput_eq) ?_
  refine zr_if_eq (tgt := 56) X dX8_inLine_51 (by decide) (fun _ => ?_) (fun h => absurd h (by decide))
  refine zr_aload0 X dX8_inLine_56 ?_
  refine zr_getR X zf_X8_17 rfl (by decide) (by decide) dX8_inLine_57 ?_
  refine zr_iload1 X dX8_inLine_60 ?_
  refine zr_iload2 X dX8_inLine_61 ?_
  refine zr_iload3 X dX8_inLine_62 ?_
  refine zr_callS3 (rm9 := zrm_X8_placeAt) X hnt zm_X8_42 (by decide) (by decide) (by decide) (Nat.le_of_ble_eq_true rfl) dX8_inLine_63 ?_
  refine zn_X8_placeAt (g := g) (s9 := s9) (k9 := p9) ?_
  refine zr_ialdN (n := 16 + 29 * g + (9 + 10 * s9 + p9)) X rfl (show _ < 310 from (by first | assumption | omega | decide)) dX8_inLine_66 ?_
  refine zr_eq (x2 := (nI ((sL S g s9).getD p9 0))) (((hC1.2.2.1.2.1 g (by omega)).2 s9 (by omega)).2.2 p9 (by first | assumption | omega)) ?_
  refine zr_iconst (v := (1 : Int32)) X dX8_inLine_67 (by decide) ?_
  refine zr_isub X dX8_inLine_68 ?_
  refine zr_iret X (by decide) (by decide) dX8_inLine_69 ?_
  exact k1 _ hC1 zput_eq
set_option maxRecDepth 20000 in
theorem zx3_X8_inLine {l : Launch} {D : va_G} {b0 : Nat} {tA : Nat → ClassId} {sa sv : Nat → Nat} {K : Nat → Option Nat} {I : zI} {Qp : zI → Option AV → Prop} {Xp : String → zI → Prop} {F9 : zI} {y f : Nat} {t : Nat → Nat} {er : Int32} {S : zS} {U : List zS} {g s9 : Nat} {v3 : Int32}
    (hC : zRf F9 I y t f er S U) (hg : g < zng S) (hs : s9 < 2) (hb : vIdx v3 ((sL S g s9).length) = none) (kx : ∀ (J : zI) (v9 : Int32), zRf F9 J y t f er S U → J y 0 = 3 → Qp J (some (vi v9))) :
    zC l D b0 tA sa sv K yX8_inLine (.code yX8_inLine cX8_inLine 4 (some .int)) zrm_X8_inLine [vr (y) 8, vi ((nI g)), vi ((nI s9)), vi (v3)] I Qp Xp := by
  have hC1 : zRf F9 (zput I y 0 0) y t f er S U := hC.put (by decide)
  have hW := hC.2.2.2.1
  have hg6 := hW.ng.1
  have hc12 := hW.nc.1
  have hf5 := hC.1.2.1
  have hl9 := hW.len g s9
  refine zC_of (by decide +kernel) (Nat.le_of_ble_eq_true rfl) ?_
  intro p e s m args below meth c X hnt
  have X : zX p l e zrm_X8_inLine s m args below meth c RX8 cX8_inLine 4 (some .int) D b0 tA sa sv := X
  refine zr_lv (lv2 := [some (vr (y) 8), some (vi ((nI g))), some (vi ((nI s9))), some (vi (v3))]) rfl ?_
  refine zr_aload0 X dX8_inLine_0 ?_
  refine zr_iconst (v := (0 : Int32)) X dX8_inLine_1 (by decide) ?_
  refine zr_putI X zf_X8_31 rfl (Or.inl rfl) dX8_inLine_2 ?_
  refine zr_aload0 X dX8_inLine_5 ?_
  refine zr_iload1 X dX8_inLine_6 ?_
  refine zr_callV1 (rm9 := zrm_X8_noGate) X hnt zm_X8_242 (by decide) (by decide) (by decide) (Nat.le_of_ble_eq_true rfl) dX8_inLine_7 ?_
  refine zo_X8_noGate hC1.2.2.1 hW (zput_eq) (by omega) ?_
  refine zr_if_ne (tgt := 54) X dX8_inLine_10 (by decide) (fun h => absurd h (by decide)) (fun _ => ?_)
  refine zr_aload0 X dX8_inLine_13 ?_
  refine zr_iload2 X dX8_inLine_14 ?_
  refine zr_iconst (v := (2 : Int32)) X dX8_inLine_15 (by decide) ?_
  refine zr_callV2 (rm9 := zrm_X8_noSide) X hnt zm_X8_254 (by decide) (by decide) (by decide) (Nat.le_of_ble_eq_true rfl) dX8_inLine_16 ?_
  refine zo_X8_noSide (zput_eq) (by omega) ?_
  refine zr_if_ne (tgt := 54) X dX8_inLine_19 (by decide) (fun h => absurd h (by decide)) (fun _ => ?_)
  refine zr_aload0 X dX8_inLine_22 ?_
  refine zr_iload3 X dX8_inLine_23 ?_
  refine zr_iconst (v := (0 : Int32)) X dX8_inLine_24 (by decide) ?_
  refine zr_aload0 X dX8_inLine_25 ?_
  refine zr_getR X zf_X8_17 rfl (by decide) (by decide) dX8_inLine_26 ?_
  refine zr_iload1 X dX8_inLine_29 ?_
  refine zr_iload2 X dX8_inLine_30 ?_
  refine zr_callS3 (rm9 := zrm_X8_many) X hnt zm_X8_38 (by decide) (by decide) (by decide) (Nat.le_of_ble_eq_true rfl) dX8_inLine_31 ?_
  refine zn_X8_many (g := g) (s9 := s9) hC1.2.2.1 (by omega) (by omega) ?_
  refine zr_iconst (v := (1 : Int32)) X dX8_inLine_34 (by decide) ?_
  refine zr_isub X dX8_inLine_35 ?_
  refine zr_callS3 (rm9 := zrm_X8_in) X hnt zm_X8_117 (by decide) (by decide) (by decide) (Nat.le_of_ble_eq_true rfl) dX8_inLine_36 ?_
  refine zIx_X8_in (n := ((sL S g s9).length)) (by assumption) (by omega) rfl ?_
  refine zr_if_ne (tgt := 46) X dX8_inLine_39 (by decide) (fun h => absurd h (by decide)) (fun _ => ?_)
  refine zr_iconst (v := (1 : Int32)) X dX8_inLine_42 (by decide) ?_
  refine zr_goto (tgt := 47) X dX8_inLine_43 (by decide) ?_
  refine zr_iconst (v := (3 : Int32)) X dX8_inLine_47 (by decide) ?_
  refine zr_callV2 (rm9 := zrm_X8_fails) X hnt zm_X8_220 (by decide) (by decide) (by decide) (Nat.le_of_ble_eq_true rfl) dX8_inLine_48 ?_
  refine zf1_X8_fails (zput_eq) (by decide) ?_
  refine zr_if_eq (tgt := 56) X dX8_inLine_51 (by decide) (fun h => absurd h (by decide)) (fun _ => ?_)
  refine zr_iconst (v := (0 : Int32)) X dX8_inLine_54 (by decide) ?_
  refine zr_iret X (by decide) (by decide) dX8_inLine_55 ?_
  exact kx _ _ (hC1.put (by decide)) zput_eq
set_option maxRecDepth 20000 in
theorem zx2_X8_inLine {l : Launch} {D : va_G} {b0 : Nat} {tA : Nat → ClassId} {sa sv : Nat → Nat} {K : Nat → Option Nat} {I : zI} {Qp : zI → Option AV → Prop} {Xp : String → zI → Prop} {F9 : zI} {y f : Nat} {t : Nat → Nat} {er : Int32} {S : zS} {U : List zS} {g : Nat} {v v3 : Int32}
    (hC : zRf F9 I y t f er S U) (hg : g < zng S) (hb : vIdx v (2) = none) (kx : ∀ (J : zI) (v9 : Int32), zRf F9 J y t f er S U → J y 0 = 2 → Qp J (some (vi v9))) :
    zC l D b0 tA sa sv K yX8_inLine (.code yX8_inLine cX8_inLine 4 (some .int)) zrm_X8_inLine [vr (y) 8, vi ((nI g)), vi (v), vi (v3)] I Qp Xp := by
  have hC1 : zRf F9 (zput I y 0 0) y t f er S U := hC.put (by decide)
  have hW := hC.2.2.2.1
  have hg6 := hW.ng.1
  have hc12 := hW.nc.1
  have hf5 := hC.1.2.1
  refine zC_of (by decide +kernel) (Nat.le_of_ble_eq_true rfl) ?_
  intro p e s m args below meth c X hnt
  have X : zX p l e zrm_X8_inLine s m args below meth c RX8 cX8_inLine 4 (some .int) D b0 tA sa sv := X
  refine zr_lv (lv2 := [some (vr (y) 8), some (vi ((nI g))), some (vi (v)), some (vi (v3))]) rfl ?_
  refine zr_aload0 X dX8_inLine_0 ?_
  refine zr_iconst (v := (0 : Int32)) X dX8_inLine_1 (by decide) ?_
  refine zr_putI X zf_X8_31 rfl (Or.inl rfl) dX8_inLine_2 ?_
  refine zr_aload0 X dX8_inLine_5 ?_
  refine zr_iload1 X dX8_inLine_6 ?_
  refine zr_callV1 (rm9 := zrm_X8_noGate) X hnt zm_X8_242 (by decide) (by decide) (by decide) (Nat.le_of_ble_eq_true rfl) dX8_inLine_7 ?_
  refine zo_X8_noGate hC1.2.2.1 hW (zput_eq) (by omega) ?_
  refine zr_if_ne (tgt := 54) X dX8_inLine_10 (by decide) (fun h => absurd h (by decide)) (fun _ => ?_)
  refine zr_aload0 X dX8_inLine_13 ?_
  refine zr_iload2 X dX8_inLine_14 ?_
  refine zr_iconst (v := (2 : Int32)) X dX8_inLine_15 (by decide) ?_
  refine zr_callV2 (rm9 := zrm_X8_noSide) X hnt zm_X8_254 (by decide) (by decide) (by decide) (Nat.le_of_ble_eq_true rfl) dX8_inLine_16 ?_
  refine zx_X8_noSide (zput_eq) (by assumption) (by decide) ?_
  refine zr_if_ne (tgt := 54) X dX8_inLine_19 (by decide) (fun _ => ?_) (fun h => absurd h (by decide))
  refine zr_iconst (v := (0 : Int32)) X dX8_inLine_54 (by decide) ?_
  refine zr_iret X (by decide) (by decide) dX8_inLine_55 ?_
  exact kx _ _ (hC1.put (by decide)) zput_eq
set_option maxRecDepth 20000 in
theorem zx1_X8_inLine {l : Launch} {D : va_G} {b0 : Nat} {tA : Nat → ClassId} {sa sv : Nat → Nat} {K : Nat → Option Nat} {I : zI} {Qp : zI → Option AV → Prop} {Xp : String → zI → Prop} {F9 : zI} {y f : Nat} {t : Nat → Nat} {er : Int32} {S : zS} {U : List zS} {u v v3 : Int32}
    (hC : zRf F9 I y t f er S U) (hb : vIdx u (zng S) = none) (kx : ∀ (J : zI) (v9 : Int32), zRf F9 J y t f er S U → J y 0 = 1 → Qp J (some (vi v9))) :
    zC l D b0 tA sa sv K yX8_inLine (.code yX8_inLine cX8_inLine 4 (some .int)) zrm_X8_inLine [vr (y) 8, vi (u), vi (v), vi (v3)] I Qp Xp := by
  have hC1 : zRf F9 (zput I y 0 0) y t f er S U := hC.put (by decide)
  have hW := hC.2.2.2.1
  have hg6 := hW.ng.1
  have hc12 := hW.nc.1
  have hf5 := hC.1.2.1
  refine zC_of (by decide +kernel) (Nat.le_of_ble_eq_true rfl) ?_
  intro p e s m args below meth c X hnt
  have X : zX p l e zrm_X8_inLine s m args below meth c RX8 cX8_inLine 4 (some .int) D b0 tA sa sv := X
  refine zr_lv (lv2 := [some (vr (y) 8), some (vi (u)), some (vi (v)), some (vi (v3))]) rfl ?_
  refine zr_aload0 X dX8_inLine_0 ?_
  refine zr_iconst (v := (0 : Int32)) X dX8_inLine_1 (by decide) ?_
  refine zr_putI X zf_X8_31 rfl (Or.inl rfl) dX8_inLine_2 ?_
  refine zr_aload0 X dX8_inLine_5 ?_
  refine zr_iload1 X dX8_inLine_6 ?_
  refine zr_callV1 (rm9 := zrm_X8_noGate) X hnt zm_X8_242 (by decide) (by decide) (by decide) (Nat.le_of_ble_eq_true rfl) dX8_inLine_7 ?_
  refine zx_X8_noGate hC1.2.2.1 hW (zput_eq) (by assumption) ?_
  refine zr_if_ne (tgt := 54) X dX8_inLine_10 (by decide) (fun _ => ?_) (fun h => absurd h (by decide))
  refine zr_iconst (v := (0 : Int32)) X dX8_inLine_54 (by decide) ?_
  refine zr_iret X (by decide) (by decide) dX8_inLine_55 ?_
  exact kx _ _ (hC1.put (by decide)) zput_eq
theorem zq_X8_inLine {l : Launch} {D : va_G} {b0 : Nat} {tA : Nat → ClassId} {sa sv : Nat → Nat} {K : Nat → Option Nat} {I : zI} {Qp : zI → Option AV → Prop} {Xp : String → zI → Prop} {F9 : zI} {y f : Nat} {t : Nat → Nat} {er : Int32} {S : zS} {U : List zS} {u v v3 : Int32}
    (hC : zRf F9 I y t f er S U) (k0 : (rInLine S u v v3).1 = 0 → ∀ J : zI, zRf F9 J y t f er S U → J y 0 = 0 → Qp J (some (vi (rInLine S u v v3).2))) (kx1 : (rInLine S u v v3).1 = 1 → ∀ (J : zI) (v9 : Int32), zRf F9 J y t f er S U → J y 0 = 1 → Qp J (some (vi v9))) (kx2 : (rInLine S u v v3).1 = 2 → ∀ (J : zI) (v9 : Int32), zRf F9 J y t f er S U → J y 0 = 2 → Qp J (some (vi v9))) (kx3 : (rInLine S u v v3).1 = 3 → ∀ (J : zI) (v9 : Int32), zRf F9 J y t f er S U → J y 0 = 3 → Qp J (some (vi v9))) :
    zC l D b0 tA sa sv K yX8_inLine (.code yX8_inLine cX8_inLine 4 (some .int)) zrm_X8_inLine [vr (y) 8, vi (u), vi (v), vi (v3)] I Qp Xp := by
  unfold rInLine at k0 kx1 kx2 kx3
  cases e1 : vIdx u (zng S) with
  | none => rw [e1] at kx1; exact zx1_X8_inLine hC e1 (kx1 rfl)
  | some g =>
    rw [e1] at k0 kx2 kx3
    obtain ⟨h1, rfl⟩ := vIdx_some e1
    cases e2 : vIdx v 2 with
    | none => simp only [e2] at kx2; exact zx2_X8_inLine hC h1 e2 (kx2 (by first | rfl | trivial))
    | some w =>
      simp only [e2] at k0 kx3
      obtain ⟨h2, rfl⟩ := vIdx_some e2
      cases e3 : vIdx v3 (sL S g w).length with
      | none => simp only [e3] at kx3; exact zx3_X8_inLine hC h1 h2 e3 (kx3 (by first | rfl | trivial))
      | some p =>
        simp only [e3] at k0
        obtain ⟨h3, rfl⟩ := vIdx_some e3
        exact zo_X8_inLine hC h1 h2 h3 (k0 (by first | rfl | trivial))
