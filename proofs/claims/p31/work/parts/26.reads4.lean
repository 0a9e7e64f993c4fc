/-! ===== numbers of the state, of a gate, of a card ===== -/
abbrev zrm_X5_numberOfState : Room := { frames := 3, cells := 0, slots := 0, locals := 60 }
set_option maxRecDepth 20000 in
theorem zp0_X5_numberOfState {l : Launch} {D : va_G} {b0 : Nat} {tA : Nat → ClassId} {sa sv : Nat → Nat} {K : zKt} {I : zI} {Qp : zI → Option AV → Prop} {Xp : String → zI → Prop} {a : Nat} {S : zS}
    (hR : zRw I a S) (hW : zWf S) (k1 : Qp I (some (vi (qState S 0)))) :
    zC l D b0 tA sa sv K yX5_numberOfState (.code yX5_numberOfState cX5_numberOfState 2 (some .int)) zrm_X5_numberOfState [vr (a) 5, vi ((0 : Int32))] I Qp Xp := by
  refine zC_of (by decide +kernel) (Nat.le_of_ble_eq_true rfl) ?_
  intro p e s m args below meth c X hnt
  have X : zX p l e zrm_X5_numberOfState s m args below meth c RX5 cX5_numberOfState 2 (some .int) D b0 tA sa sv := X
  refine zr_lv (lv2 := [some (vr (a) 5), some (vi ((0 : Int32)))]) rfl ?_
  refine zr_iload1 X dX5_numberOfState_0 ?_
  refine zr_tblIn (off := 75) (tgt := 76) X dX5_numberOfState_1 (by decide) (by decide) (by decide) (by decide) ?_
  refine zr_aload0 X dX5_numberOfState_76 ?_
  refine zr_getI X zf_X5_39 rfl dX5_numberOfState_77 ?_
  refine zr_eq (x2 := (sX S 4)) (hR.1 4 (by decide) (by decide)) ?_
  refine zr_iret X (by decide) (by decide) dX5_numberOfState_80 ?_
  exact k1
set_option maxRecDepth 20000 in
theorem zp1_X5_numberOfState {l : Launch} {D : va_G} {b0 : Nat} {tA : Nat → ClassId} {sa sv : Nat → Nat} {K : zKt} {I : zI} {Qp : zI → Option AV → Prop} {Xp : String → zI → Prop} {a : Nat} {S : zS}
    (hR : zRw I a S) (hW : zWf S) (k1 : Qp I (some (vi (qState S 1)))) :
    zC l D b0 tA sa sv K yX5_numberOfState (.code yX5_numberOfState cX5_numberOfState 2 (some .int)) zrm_X5_numberOfState [vr (a) 5, vi ((1 : Int32))] I Qp Xp := by
  refine zC_of (by decide +kernel) (Nat.le_of_ble_eq_true rfl) ?_
  intro p e s m args below meth c X hnt
  have X : zX p l e zrm_X5_numberOfState s m args below meth c RX5 cX5_numberOfState 2 (some .int) D b0 tA sa sv := X
  refine zr_lv (lv2 := [some (vr (a) 5), some (vi ((1 : Int32)))]) rfl ?_
  refine zr_iload1 X dX5_numberOfState_0 ?_
  refine zr_tblIn (off := 80) (tgt := 81) X dX5_numberOfState_1 (by decide) (by decide) (by decide) (by decide) ?_
  refine zr_aload0 X dX5_numberOfState_81 ?_
  refine zr_getI X zf_X5_42 rfl dX5_numberOfState_82 ?_
  refine zr_eq (x2 := (sX S 5)) (hR.1 5 (by decide) (by decide)) ?_
  refine zr_iret X (by decide) (by decide) dX5_numberOfState_85 ?_
  exact k1
set_option maxRecDepth 20000 in
theorem zp2_X5_numberOfState {l : Launch} {D : va_G} {b0 : Nat} {tA : Nat → ClassId} {sa sv : Nat → Nat} {K : zKt} {I : zI} {Qp : zI → Option AV → Prop} {Xp : String → zI → Prop} {a : Nat} {S : zS}
    (hR : zRw I a S) (hW : zWf S) (k1 : Qp I (some (vi (qState S 2)))) :
    zC l D b0 tA sa sv K yX5_numberOfState (.code yX5_numberOfState cX5_numberOfState 2 (some .int)) zrm_X5_numberOfState [vr (a) 5, vi ((2 : Int32))] I Qp Xp := by
  refine zC_of (by decide +kernel) (Nat.le_of_ble_eq_true rfl) ?_
  intro p e s m args below meth c X hnt
  have X : zX p l e zrm_X5_numberOfState s m args below meth c RX5 cX5_numberOfState 2 (some .int) D b0 tA sa sv := X
  refine zr_lv (lv2 := [some (vr (a) 5), some (vi ((2 : Int32)))]) rfl ?_
  refine zr_iload1 X dX5_numberOfState_0 ?_
  refine zr_tblIn (off := 85) (tgt := 86) X dX5_numberOfState_1 (by decide) (by decide) (by decide) (by decide) ?_
  refine zr_aload0 X dX5_numberOfState_86 ?_
  refine zr_getI X zf_X5_23 rfl dX5_numberOfState_87 ?_
  refine zr_eq (x2 := (sX S 0)) (hR.1 0 (by decide) (by decide)) ?_
  refine zr_iret X (by decide) (by decide) dX5_numberOfState_90 ?_
  exact k1
set_option maxRecDepth 20000 in
theorem zp3_X5_numberOfState {l : Launch} {D : va_G} {b0 : Nat} {tA : Nat → ClassId} {sa sv : Nat → Nat} {K : zKt} {I : zI} {Qp : zI → Option AV → Prop} {Xp : String → zI → Prop} {a : Nat} {S : zS}
    (hR : zRw I a S) (hW : zWf S) (k1 : Qp I (some (vi (qState S 3)))) :
    zC l D b0 tA sa sv K yX5_numberOfState (.code yX5_numberOfState cX5_numberOfState 2 (some .int)) zrm_X5_numberOfState [vr (a) 5, vi ((3 : Int32))] I Qp Xp := by
  refine zC_of (by decide +kernel) (Nat.le_of_ble_eq_true rfl) ?_
  intro p e s m args below meth c X hnt
  have X : zX p l e zrm_X5_numberOfState s m args below meth c RX5 cX5_numberOfState 2 (some .int) D b0 tA sa sv := X
  refine zr_lv (lv2 := [some (vr (a) 5), some (vi ((3 : Int32)))]) rfl ?_
  refine zr_iload1 X dX5_numberOfState_0 ?_
  refine zr_tblIn (off := 90) (tgt := 91) X dX5_numberOfState_1 (by decide) (by decide) (by decide) (by decide) ?_
  refine zr_aload0 X dX5_numberOfState_91 ?_
  refine zr_getI X zf_X5_27 rfl dX5_numberOfState_92 ?_
  refine zr_eq (x2 := (sX S 1)) (hR.1 1 (by decide) (by decide)) ?_
  refine zr_iret X (by decide) (by decide) dX5_numberOfState_95 ?_
  exact k1
set_option maxRecDepth 20000 in
theorem zp4_X5_numberOfState {l : Launch} {D : va_G} {b0 : Nat} {tA : Nat → ClassId} {sa sv : Nat → Nat} {K : zKt} {I : zI} {Qp : zI → Option AV → Prop} {Xp : String → zI → Prop} {a : Nat} {S : zS}
    (hR : zRw I a S) (hW : zWf S) (k1 : Qp I (some (vi (qState S 4)))) :
    zC l D b0 tA sa sv K yX5_numberOfState (.code yX5_numberOfState cX5_numberOfState 2 (some .int)) zrm_X5_numberOfState [vr (a) 5, vi ((4 : Int32))] I Qp Xp := by
  refine zC_of (by decide +kernel) (Nat.le_of_ble_eq_true rfl) ?_
  intro p e s m args below meth c X hnt
  have X : zX p l e zrm_X5_numberOfState s m args below meth c RX5 cX5_numberOfState 2 (some .int) D b0 tA sa sv := X
  refine zr_lv (lv2 := [some (vr (a) 5), some (vi ((4 : Int32)))]) rfl ?_
  refine zr_iload1 X dX5_numberOfState_0 ?_
  refine zr_tblIn (off := 95) (tgt := 96) X dX5_numberOfState_1 (by decide) (by decide) (by decide) (by decide) ?_
  refine zr_aload0 X dX5_numberOfState_96 ?_
  refine zr_getI X zf_X5_48 rfl dX5_numberOfState_97 ?_
  refine zr_eq (x2 := (sX S 2)) (hR.1 2 (by decide) (by decide)) ?_
  refine zr_iret X (by decide) (by decide) dX5_numberOfState_100 ?_
  exact k1
set_option maxRecDepth 20000 in
theorem zp5_X5_numberOfState {l : Launch} {D : va_G} {b0 : Nat} {tA : Nat → ClassId} {sa sv : Nat → Nat} {K : zKt} {I : zI} {Qp : zI → Option AV → Prop} {Xp : String → zI → Prop} {a : Nat} {S : zS}
    (hR : zRw I a S) (hW : zWf S) (k1 : Qp I (some (vi (qState S 5)))) :
    zC l D b0 tA sa sv K yX5_numberOfState (.code yX5_numberOfState cX5_numberOfState 2 (some .int)) zrm_X5_numberOfState [vr (a) 5, vi ((5 : Int32))] I Qp Xp := by
  refine zC_of (by decide +kernel) (Nat.le_of_ble_eq_true rfl) ?_
  intro p e s m args below meth c X hnt
  have X : zX p l e zrm_X5_numberOfState s m args below meth c RX5 cX5_numberOfState 2 (some .int) D b0 tA sa sv := X
  refine zr_lv (lv2 := [some (vr (a) 5), some (vi ((5 : Int32)))]) rfl ?_
  refine zr_iload1 X dX5_numberOfState_0 ?_
  refine zr_tblIn (off := 100) (tgt := 101) X dX5_numberOfState_1 (by decide) (by decide) (by decide) (by decide) ?_
  refine zr_aload0 X dX5_numberOfState_101 ?_
  refine zr_getI X zf_X5_51 rfl dX5_numberOfState_102 ?_
  refine zr_eq (x2 := (sX S 3)) (hR.1 3 (by decide) (by decide)) ?_
  refine zr_iret X (by decide) (by decide) dX5_numberOfState_105 ?_
  exact k1
set_option maxRecDepth 20000 in
theorem zp6_X5_numberOfState {l : Launch} {D : va_G} {b0 : Nat} {tA : Nat → ClassId} {sa sv : Nat → Nat} {K : zKt} {I : zI} {Qp : zI → Option AV → Prop} {Xp : String → zI → Prop} {a : Nat} {S : zS}
    (hR : zRw I a S) (hW : zWf S) (k1 : Qp I (some (vi (qState S 6)))) :
    zC l D b0 tA sa sv K yX5_numberOfState (.code yX5_numberOfState cX5_numberOfState 2 (some .int)) zrm_X5_numberOfState [vr (a) 5, vi ((6 : Int32))] I Qp Xp := by
  refine zC_of (by decide +kernel) (Nat.le_of_ble_eq_true rfl) ?_
  intro p e s m args below meth c X hnt
  have X : zX p l e zrm_X5_numberOfState s m args below meth c RX5 cX5_numberOfState 2 (some .int) D b0 tA sa sv := X
  refine zr_lv (lv2 := [some (vr (a) 5), some (vi ((6 : Int32)))]) rfl ?_
  refine zr_iload1 X dX5_numberOfState_0 ?_
  refine zr_tblIn (off := 105) (tgt := 106) X dX5_numberOfState_1 (by decide) (by decide) (by decide) (by decide) ?_
  refine zr_aload0 X dX5_numberOfState_106 ?_
  refine zr_callV0 (rm9 := zrm_X5_peopleInAllLines) X hnt zm_X5_84 (by decide) (by decide) (by decide) (Nat.le_of_ble_eq_true rfl) dX5_numberOfState_107 ?_
  refine zp_X5_peopleInAllLines hR hW ?_
  refine zr_iret X (by decide) (by decide) dX5_numberOfState_110 ?_
  exact k1
set_option maxRecDepth 20000 in
theorem zp7_X5_numberOfState {l : Launch} {D : va_G} {b0 : Nat} {tA : Nat → ClassId} {sa sv : Nat → Nat} {K : zKt} {I : zI} {Qp : zI → Option AV → Prop} {Xp : String → zI → Prop} {a : Nat} {S : zS}
    (hR : zRw I a S) (hW : zWf S) (k1 : Qp I (some (vi (qState S 7)))) :
    zC l D b0 tA sa sv K yX5_numberOfState (.code yX5_numberOfState cX5_numberOfState 2 (some .int)) zrm_X5_numberOfState [vr (a) 5, vi ((7 : Int32))] I Qp Xp := by
  refine zC_of (by decide +kernel) (Nat.le_of_ble_eq_true rfl) ?_
  intro p e s m args below meth c X hnt
  have X : zX p l e zrm_X5_numberOfState s m args below meth c RX5 cX5_numberOfState 2 (some .int) D b0 tA sa sv := X
  refine zr_lv (lv2 := [some (vr (a) 5), some (vi ((7 : Int32)))]) rfl ?_
  refine zr_iload1 X dX5_numberOfState_0 ?_
  refine zr_tblIn (off := 110) (tgt := 111) X dX5_numberOfState_1 (by decide) (by decide) (by decide) (by decide) ?_
  refine zr_aload0 X dX5_numberOfState_111 ?_
  refine zr_callV0 (rm9 := zrm_X5_isPanic) X hnt zm_X5_88 (by decide) (by decide) (by decide) (Nat.le_of_ble_eq_true rfl) dX5_numberOfState_112 ?_
  refine zp_X5_isPanic hR hW.keys ?_ ?_
  · skip
    intro hp1
    refine zr_if_eq (tgt := 122) X dX5_numberOfState_115 (by decide) (fun h => absurd h (by decide)) (fun _ => ?_)
    refine zr_iconst (v := (1 : Int32)) X dX5_numberOfState_118 (by decide) ?_
    refine zr_goto (tgt := 123) X dX5_numberOfState_119 (by decide) ?_
    refine zr_iret X (by decide) (by decide) dX5_numberOfState_123 ?_
    have e9 : qState S 7 = 1 := if_pos (by rw [zPanB_iff]; exact hp1)
    rw [e9] at k1; exact k1
  · skip
    intro hp1
    refine zr_if_eq (tgt := 122) X dX5_numberOfState_115 (by decide) (fun _ => ?_) (fun h => absurd h (by decide))
    refine zr_iconst (v := (0 : Int32)) X dX5_numberOfState_122 (by decide) ?_
    refine zr_iret X (by decide) (by decide) dX5_numberOfState_123 ?_
    have e9 : qState S 7 = 0 := if_neg (by rw [zPanB_iff]; exact hp1)
    rw [e9] at k1; exact k1
set_option maxRecDepth 20000 in
theorem zp8_X5_numberOfState {l : Launch} {D : va_G} {b0 : Nat} {tA : Nat → ClassId} {sa sv : Nat → Nat} {K : zKt} {I : zI} {Qp : zI → Option AV → Prop} {Xp : String → zI → Prop} {a : Nat} {S : zS}
    (hR : zRw I a S) (hW : zWf S) (k1 : Qp I (some (vi (qState S 8)))) :
    zC l D b0 tA sa sv K yX5_numberOfState (.code yX5_numberOfState cX5_numberOfState 2 (some .int)) zrm_X5_numberOfState [vr (a) 5, vi ((8 : Int32))] I Qp Xp := by
  refine zC_of (by decide +kernel) (Nat.le_of_ble_eq_true rfl) ?_
  intro p e s m args below meth c X hnt
  have X : zX p l e zrm_X5_numberOfState s m args below meth c RX5 cX5_numberOfState 2 (some .int) D b0 tA sa sv := X
  refine zr_lv (lv2 := [some (vr (a) 5), some (vi ((8 : Int32)))]) rfl ?_
  refine zr_iload1 X dX5_numberOfState_0 ?_
  refine zr_tblIn (off := 123) (tgt := 124) X dX5_numberOfState_1 (by decide) (by decide) (by decide) (by decide) ?_
  refine zr_aload0 X dX5_numberOfState_124 ?_
  refine zr_callV0 (rm9 := zrm_X5_turnedKeys) X hnt zm_X5_92 (by decide) (by decide) (by decide) (Nat.le_of_ble_eq_true rfl) dX5_numberOfState_125 ?_
  refine zp_X5_turnedKeys hR hW.keys ?_
  refine zr_iret X (by decide) (by decide) dX5_numberOfState_128 ?_
  exact k1
set_option maxRecDepth 20000 in
theorem zp9_X5_numberOfState {l : Launch} {D : va_G} {b0 : Nat} {tA : Nat → ClassId} {sa sv : Nat → Nat} {K : zKt} {I : zI} {Qp : zI → Option AV → Prop} {Xp : String → zI → Prop} {a : Nat} {S : zS}
    (hR : zRw I a S) (hW : zWf S) (k1 : Qp I (some (vi (qState S 9)))) :
    zC l D b0 tA sa sv K yX5_numberOfState (.code yX5_numberOfState cX5_numberOfState 2 (some .int)) zrm_X5_numberOfState [vr (a) 5, vi ((9 : Int32))] I Qp Xp := by
  refine zC_of (by decide +kernel) (Nat.le_of_ble_eq_true rfl) ?_
  intro p e s m args below meth c X hnt
  have X : zX p l e zrm_X5_numberOfState s m args below meth c RX5 cX5_numberOfState 2 (some .int) D b0 tA sa sv := X
  refine zr_lv (lv2 := [some (vr (a) 5), some (vi ((9 : Int32)))]) rfl ?_
  refine zr_iload1 X dX5_numberOfState_0 ?_
  refine zr_tblIn (off := 128) (tgt := 129) X dX5_numberOfState_1 (by decide) (by decide) (by decide) (by decide) ?_
  refine zr_aload0 X dX5_numberOfState_129 ?_
  refine zr_getI X zf_X5_54 rfl dX5_numberOfState_130 ?_
  refine zr_eq (x2 := (sX S 9)) (hR.1 9 (by decide) (by decide)) ?_
  refine zr_iret X (by decide) (by decide) dX5_numberOfState_133 ?_
  exact k1
set_option maxRecDepth 20000 in
theorem zp10_X5_numberOfState {l : Launch} {D : va_G} {b0 : Nat} {tA : Nat → ClassId} {sa sv : Nat → Nat} {K : zKt} {I : zI} {Qp : zI → Option AV → Prop} {Xp : String → zI → Prop} {a : Nat} {S : zS}
    (hR : zRw I a S) (hW : zWf S) (k1 : Qp I (some (vi (qState S 10)))) :
    zC l D b0 tA sa sv K yX5_numberOfState (.code yX5_numberOfState cX5_numberOfState 2 (some .int)) zrm_X5_numberOfState [vr (a) 5, vi ((10 : Int32))] I Qp Xp := by
  refine zC_of (by decide +kernel) (Nat.le_of_ble_eq_true rfl) ?_
  intro p e s m args below meth c X hnt
  have X : zX p l e zrm_X5_numberOfState s m args below meth c RX5 cX5_numberOfState 2 (some .int) D b0 tA sa sv := X
  refine zr_lv (lv2 := [some (vr (a) 5), some (vi ((10 : Int32)))]) rfl ?_
  refine zr_iload1 X dX5_numberOfState_0 ?_
  refine zr_tblIn (off := 133) (tgt := 134) X dX5_numberOfState_1 (by decide) (by decide) (by decide) (by decide) ?_
  refine zr_aload0 X dX5_numberOfState_134 ?_
  refine zr_getI X zf_X5_57 rfl dX5_numberOfState_135 ?_
  refine zr_eq (x2 := (sX S 10)) (hR.1 10 (by decide) (by decide)) ?_
  refine zr_iret X (by decide) (by decide) dX5_numberOfState_138 ?_
  exact k1
set_option maxRecDepth 20000 in
theorem zp11_X5_numberOfState {l : Launch} {D : va_G} {b0 : Nat} {tA : Nat → ClassId} {sa sv : Nat → Nat} {K : zKt} {I : zI} {Qp : zI → Option AV → Prop} {Xp : String → zI → Prop} {a : Nat} {S : zS}
    (hR : zRw I a S) (hW : zWf S) (k1 : Qp I (some (vi (qState S 11)))) :
    zC l D b0 tA sa sv K yX5_numberOfState (.code yX5_numberOfState cX5_numberOfState 2 (some .int)) zrm_X5_numberOfState [vr (a) 5, vi ((11 : Int32))] I Qp Xp := by
  refine zC_of (by decide +kernel) (Nat.le_of_ble_eq_true rfl) ?_
  intro p e s m args below meth c X hnt
  have X : zX p l e zrm_X5_numberOfState s m args below meth c RX5 cX5_numberOfState 2 (some .int) D b0 tA sa sv := X
  refine zr_lv (lv2 := [some (vr (a) 5), some (vi ((11 : Int32)))]) rfl ?_
  refine zr_iload1 X dX5_numberOfState_0 ?_
  refine zr_tblIn (off := 138) (tgt := 139) X dX5_numberOfState_1 (by decide) (by decide) (by decide) (by decide) ?_
  refine zr_aload0 X dX5_numberOfState_139 ?_
  refine zr_getI X zf_X5_60 rfl dX5_numberOfState_140 ?_
  refine zr_eq (x2 := (sX S 11)) (hR.1 11 (by decide) (by decide)) ?_
  refine zr_iret X (by decide) (by decide) dX5_numberOfState_143 ?_
  exact k1
set_option maxRecDepth 20000 in
theorem zp12_X5_numberOfState {l : Launch} {D : va_G} {b0 : Nat} {tA : Nat → ClassId} {sa sv : Nat → Nat} {K : zKt} {I : zI} {Qp : zI → Option AV → Prop} {Xp : String → zI → Prop} {a : Nat} {S : zS}
    (hR : zRw I a S) (hW : zWf S) (k1 : Qp I (some (vi (qState S 12)))) :
    zC l D b0 tA sa sv K yX5_numberOfState (.code yX5_numberOfState cX5_numberOfState 2 (some .int)) zrm_X5_numberOfState [vr (a) 5, vi ((12 : Int32))] I Qp Xp := by
  refine zC_of (by decide +kernel) (Nat.le_of_ble_eq_true rfl) ?_
  intro p e s m args below meth c X hnt
  have X : zX p l e zrm_X5_numberOfState s m args below meth c RX5 cX5_numberOfState 2 (some .int) D b0 tA sa sv := X
  refine zr_lv (lv2 := [some (vr (a) 5), some (vi ((12 : Int32)))]) rfl ?_
  refine zr_iload1 X dX5_numberOfState_0 ?_
  refine zr_tblIn (off := 143) (tgt := 144) X dX5_numberOfState_1 (by decide) (by decide) (by decide) (by decide) ?_
  refine zr_aload0 X dX5_numberOfState_144 ?_
  refine zr_getI X zf_X5_63 rfl dX5_numberOfState_145 ?_
  refine zr_eq (x2 := (sX S 12)) (hR.1 12 (by decide) (by decide)) ?_
  refine zr_iret X (by decide) (by decide) dX5_numberOfState_148 ?_
  exact k1
set_option maxRecDepth 20000 in
theorem zp13_X5_numberOfState {l : Launch} {D : va_G} {b0 : Nat} {tA : Nat → ClassId} {sa sv : Nat → Nat} {K : zKt} {I : zI} {Qp : zI → Option AV → Prop} {Xp : String → zI → Prop} {a : Nat} {S : zS}
    (hR : zRw I a S) (hW : zWf S) (k1 : Qp I (some (vi (qState S 13)))) :
    zC l D b0 tA sa sv K yX5_numberOfState (.code yX5_numberOfState cX5_numberOfState 2 (some .int)) zrm_X5_numberOfState [vr (a) 5, vi ((13 : Int32))] I Qp Xp := by
  refine zC_of (by decide +kernel) (Nat.le_of_ble_eq_true rfl) ?_
  intro p e s m args below meth c X hnt
  have X : zX p l e zrm_X5_numberOfState s m args below meth c RX5 cX5_numberOfState 2 (some .int) D b0 tA sa sv := X
  refine zr_lv (lv2 := [some (vr (a) 5), some (vi ((13 : Int32)))]) rfl ?_
  refine zr_iload1 X dX5_numberOfState_0 ?_
  refine zr_tblIn (off := 148) (tgt := 149) X dX5_numberOfState_1 (by decide) (by decide) (by decide) (by decide) ?_
  refine zr_aload0 X dX5_numberOfState_149 ?_
  refine zr_getI X zf_X5_69 rfl dX5_numberOfState_150 ?_
  refine zr_eq (x2 := (sX S 13)) (hR.1 13 (by decide) (by decide)) ?_
  refine zr_iret X (by decide) (by decide) dX5_numberOfState_153 ?_
  exact k1
set_option maxRecDepth 20000 in
theorem zp14_X5_numberOfState {l : Launch} {D : va_G} {b0 : Nat} {tA : Nat → ClassId} {sa sv : Nat → Nat} {K : zKt} {I : zI} {Qp : zI → Option AV → Prop} {Xp : String → zI → Prop} {a : Nat} {S : zS}
    (hR : zRw I a S) (hW : zWf S) (k1 : Qp I (some (vi (qState S 14)))) :
    zC l D b0 tA sa sv K yX5_numberOfState (.code yX5_numberOfState cX5_numberOfState 2 (some .int)) zrm_X5_numberOfState [vr (a) 5, vi ((14 : Int32))] I Qp Xp := by
  refine zC_of (by decide +kernel) (Nat.le_of_ble_eq_true rfl) ?_
  intro p e s m args below meth c X hnt
  have X : zX p l e zrm_X5_numberOfState s m args below meth c RX5 cX5_numberOfState 2 (some .int) D b0 tA sa sv := X
  refine zr_lv (lv2 := [some (vr (a) 5), some (vi ((14 : Int32)))]) rfl ?_
  refine zr_iload1 X dX5_numberOfState_0 ?_
  refine zr_tblIn (off := 153) (tgt := 154) X dX5_numberOfState_1 (by decide) (by decide) (by decide) (by decide) ?_
  refine zr_aload0 X dX5_numberOfState_154 ?_
  refine zr_getI X zf_X5_72 rfl dX5_numberOfState_155 ?_
  refine zr_eq (x2 := (sX S 14)) (hR.1 14 (by decide) (by decide)) ?_
  refine zr_iret X (by decide) (by decide) dX5_numberOfState_158 ?_
  exact k1
set_option maxRecDepth 20000 in
theorem zp15_X5_numberOfState {l : Launch} {D : va_G} {b0 : Nat} {tA : Nat → ClassId} {sa sv : Nat → Nat} {K : zKt} {I : zI} {Qp : zI → Option AV → Prop} {Xp : String → zI → Prop} {a : Nat} {S : zS}
    (hR : zRw I a S) (hW : zWf S) (k1 : Qp I (some (vi (qState S 15)))) :
    zC l D b0 tA sa sv K yX5_numberOfState (.code yX5_numberOfState cX5_numberOfState 2 (some .int)) zrm_X5_numberOfState [vr (a) 5, vi ((15 : Int32))] I Qp Xp := by
  refine zC_of (by decide +kernel) (Nat.le_of_ble_eq_true rfl) ?_
  intro p e s m args below meth c X hnt
  have X : zX p l e zrm_X5_numberOfState s m args below meth c RX5 cX5_numberOfState 2 (some .int) D b0 tA sa sv := X
  refine zr_lv (lv2 := [some (vr (a) 5), some (vi ((15 : Int32)))]) rfl ?_
  refine zr_iload1 X dX5_numberOfState_0 ?_
  refine zr_tblOut (tgt := 159) X dX5_numberOfState_1 (by decide) (by decide) ?_
  refine zr_aload0 X dX5_numberOfState_159 ?_
  refine zr_callV0 (rm9 := zrm_X5_openGates) X hnt zm_X5_95 (by decide) (by decide) (by decide) (Nat.le_of_ble_eq_true rfl) dX5_numberOfState_160 ?_
  refine zp_X5_openGates hR hW ?_
  refine zr_iret X (by decide) (by decide) dX5_numberOfState_163 ?_
  exact k1
theorem zq_X5_numberOfState {l : Launch} {D : va_G} {b0 : Nat} {tA : Nat → ClassId} {sa sv : Nat → Nat} {K : zKt} {I : zI} {Qp : zI → Option AV → Prop} {Xp : String → zI → Prop} {a w9 : Nat} {S : zS} (hR : zRw I a S) (hW : zWf S) (hw9 : w9 < 16) (k1 : Qp I (some (vi (qState S w9)))) :
    zC l D b0 tA sa sv K yX5_numberOfState (.code yX5_numberOfState cX5_numberOfState 2 (some .int)) zrm_X5_numberOfState [vr (a) 5, vi ((nI w9))] I Qp Xp := by
  rcases (show w9 = 0 ∨ w9 = 1 ∨ w9 = 2 ∨ w9 = 3 ∨ w9 = 4 ∨ w9 = 5 ∨ w9 = 6 ∨ w9 = 7 ∨ w9 = 8 ∨ w9 = 9 ∨ w9 = 10 ∨ w9 = 11 ∨ w9 = 12 ∨ w9 = 13 ∨ w9 = 14 ∨ w9 = 15 by omega) with rfl | rfl | rfl | rfl | rfl | rfl | rfl | rfl | rfl | rfl | rfl | rfl | rfl | rfl | rfl | rfl
  · exact zp0_X5_numberOfState hR hW k1
  · exact zp1_X5_numberOfState hR hW k1
  · exact zp2_X5_numberOfState hR hW k1
  · exact zp3_X5_numberOfState hR hW k1
  · exact zp4_X5_numberOfState hR hW k1
  · exact zp5_X5_numberOfState hR hW k1
  · exact zp6_X5_numberOfState hR hW k1
  · exact zp7_X5_numberOfState hR hW k1
  · exact zp8_X5_numberOfState hR hW k1
  · exact zp9_X5_numberOfState hR hW k1
  · exact zp10_X5_numberOfState hR hW k1
  · exact zp11_X5_numberOfState hR hW k1
  · exact zp12_X5_numberOfState hR hW k1
  · exact zp13_X5_numberOfState hR hW k1
  · exact zp14_X5_numberOfState hR hW k1
  · exact zp15_X5_numberOfState hR hW k1
abbrev zrm_X1_numberOfGate : Room := { frames := 0, cells := 0, slots := 0, locals := 0 }
set_option maxRecDepth 20000 in
theorem zp0_X1_numberOfGate {l : Launch} {D : va_G} {b0 : Nat} {tA : Nat → ClassId} {sa sv : Nat → Nat} {K : zKt} {I : zI} {Qp : zI → Option AV → Prop} {Xp : String → zI → Prop} {a g : Nat} {S : zS}
    (hR : zRw I a S) (hg : g < 6) (k1 : Qp I (some (vi (qGate S g 0)))) :
    zC l D b0 tA sa sv K yX1_numberOfGate (.code yX1_numberOfGate cX1_numberOfGate 2 (some .int)) zrm_X1_numberOfGate [vr (a + 1 + 2 + 5 * g) 1, vi ((0 : Int32))] I Qp Xp := by
  refine zC_of (by decide +kernel) (Nat.le_of_ble_eq_true rfl) ?_
  intro p e s m args below meth c X hnt
  have X : zX p l e zrm_X1_numberOfGate s m args below meth c RX1 cX1_numberOfGate 2 (some .int) D b0 tA sa sv := X
  refine zr_lv (lv2 := [some (vr (a + 1 + 2 + 5 * g) 1), some (vi ((0 : Int32)))]) rfl ?_
  refine zr_iload1 X dX1_numberOfGate_0 ?_
  refine zr_tblIn (off := 47) (tgt := 48) X dX1_numberOfGate_1 (by decide) (by decide) (by decide) (by decide) ?_
  refine zr_aload0 X dX1_numberOfGate_48 ?_
  refine zr_getI X zf_X1_32 rfl dX1_numberOfGate_49 ?_
  refine zr_eq (x2 := (sG S g 0)) (zGt_j (j := 0) (hR.2.2.1 g (by omega)) (by decide)) ?_
  refine zr_iret X (by decide) (by decide) dX1_numberOfGate_52 ?_
  exact k1
set_option maxRecDepth 20000 in
theorem zp1_X1_numberOfGate {l : Launch} {D : va_G} {b0 : Nat} {tA : Nat → ClassId} {sa sv : Nat → Nat} {K : zKt} {I : zI} {Qp : zI → Option AV → Prop} {Xp : String → zI → Prop} {a g : Nat} {S : zS}
    (hR : zRw I a S) (hg : g < 6) (k1 : Qp I (some (vi (qGate S g 1)))) :
    zC l D b0 tA sa sv K yX1_numberOfGate (.code yX1_numberOfGate cX1_numberOfGate 2 (some .int)) zrm_X1_numberOfGate [vr (a + 1 + 2 + 5 * g) 1, vi ((1 : Int32))] I Qp Xp := by
  refine zC_of (by decide +kernel) (Nat.le_of_ble_eq_true rfl) ?_
  intro p e s m args below meth c X hnt
  have X : zX p l e zrm_X1_numberOfGate s m args below meth c RX1 cX1_numberOfGate 2 (some .int) D b0 tA sa sv := X
  refine zr_lv (lv2 := [some (vr (a + 1 + 2 + 5 * g) 1), some (vi ((1 : Int32)))]) rfl ?_
  refine zr_iload1 X dX1_numberOfGate_0 ?_
  refine zr_tblIn (off := 52) (tgt := 53) X dX1_numberOfGate_1 (by decide) (by decide) (by decide) (by decide) ?_
  refine zr_aload0 X dX1_numberOfGate_53 ?_
  refine zr_getI X zf_X1_35 rfl dX1_numberOfGate_54 ?_
  refine zr_eq (x2 := (sG S g 1)) (zGt_j (j := 1) (hR.2.2.1 g (by omega)) (by decide)) ?_
  refine zr_iret X (by decide) (by decide) dX1_numberOfGate_57 ?_
  exact k1
set_option maxRecDepth 20000 in
theorem zp2_X1_numberOfGate {l : Launch} {D : va_G} {b0 : Nat} {tA : Nat → ClassId} {sa sv : Nat → Nat} {K : zKt} {I : zI} {Qp : zI → Option AV → Prop} {Xp : String → zI → Prop} {a g : Nat} {S : zS}
    (hR : zRw I a S) (hg : g < 6) (k1 : Qp I (some (vi (qGate S g 2)))) :
    zC l D b0 tA sa sv K yX1_numberOfGate (.code yX1_numberOfGate cX1_numberOfGate 2 (some .int)) zrm_X1_numberOfGate [vr (a + 1 + 2 + 5 * g) 1, vi ((2 : Int32))] I Qp Xp := by
  refine zC_of (by decide +kernel) (Nat.le_of_ble_eq_true rfl) ?_
  intro p e s m args below meth c X hnt
  have X : zX p l e zrm_X1_numberOfGate s m args below meth c RX1 cX1_numberOfGate 2 (some .int) D b0 tA sa sv := X
  refine zr_lv (lv2 := [some (vr (a + 1 + 2 + 5 * g) 1), some (vi ((2 : Int32)))]) rfl ?_
  refine zr_iload1 X dX1_numberOfGate_0 ?_
  refine zr_tblIn (off := 57) (tgt := 58) X dX1_numberOfGate_1 (by decide) (by decide) (by decide) (by decide) ?_
  refine zr_aload0 X dX1_numberOfGate_58 ?_
  refine zr_getI X zf_X1_21 rfl dX1_numberOfGate_59 ?_
  refine zr_eq (x2 := ((sG S g 2) - 1)) (zGt_j (j := 2) (hR.2.2.1 g (by omega)) (by decide)) ?_
  refine zr_iret X (by decide) (by decide) dX1_numberOfGate_62 ?_
  exact k1
set_option maxRecDepth 20000 in
theorem zp3_X1_numberOfGate {l : Launch} {D : va_G} {b0 : Nat} {tA : Nat → ClassId} {sa sv : Nat → Nat} {K : zKt} {I : zI} {Qp : zI → Option AV → Prop} {Xp : String → zI → Prop} {a g : Nat} {S : zS}
    (hR : zRw I a S) (hg : g < 6) (k1 : Qp I (some (vi (qGate S g 3)))) :
    zC l D b0 tA sa sv K yX1_numberOfGate (.code yX1_numberOfGate cX1_numberOfGate 2 (some .int)) zrm_X1_numberOfGate [vr (a + 1 + 2 + 5 * g) 1, vi ((3 : Int32))] I Qp Xp := by
  refine zC_of (by decide +kernel) (Nat.le_of_ble_eq_true rfl) ?_
  intro p e s m args below meth c X hnt
  have X : zX p l e zrm_X1_numberOfGate s m args below meth c RX1 cX1_numberOfGate 2 (some .int) D b0 tA sa sv := X
  refine zr_lv (lv2 := [some (vr (a + 1 + 2 + 5 * g) 1), some (vi ((3 : Int32)))]) rfl ?_
  refine zr_iload1 X dX1_numberOfGate_0 ?_
  refine zr_tblIn (off := 62) (tgt := 63) X dX1_numberOfGate_1 (by decide) (by decide) (by decide) (by decide) ?_
  refine zr_aload0 X dX1_numberOfGate_63 ?_
  refine zr_getZ X zf_X1_38 rfl rfl (by decide) dX1_numberOfGate_64 (fun hz1 => ?_)
  refine zr_eq (x2 := (sG S g 3)) (zGt_j (j := 3) (hR.2.2.1 g (by omega)) (by decide)) ?_
  have hz1 : (sG S g 3) = 0 ∨ (sG S g 3) = 1 := hz1.imp (fun h => Eq.trans (Eq.symm (zGt_j (j := 3) (hR.2.2.1 g (by omega)) (by decide))) h) (fun h => Eq.trans (Eq.symm (zGt_j (j := 3) (hR.2.2.1 g (by omega)) (by decide))) h)
  refine zr_if_eq (tgt := 74) X dX1_numberOfGate_67 (by decide) (fun h2 => ?_) (fun h2 => ?_)
  · skip
    refine zr_iconst (v := (0 : Int32)) X dX1_numberOfGate_74 (by decide) ?_
    refine zr_iret X (by decide) (by decide) dX1_numberOfGate_75 ?_
    have e9 : qGate S g 3 = 0 := h2
    rw [e9] at k1; exact k1
  · skip
    refine zr_iconst (v := (1 : Int32)) X dX1_numberOfGate_70 (by decide) ?_
    refine zr_goto (tgt := 75) X dX1_numberOfGate_71 (by decide) ?_
    refine zr_iret X (by decide) (by decide) dX1_numberOfGate_75 ?_
    have e9 : qGate S g 3 = 1 := (by assumption : sG S g 3 = 0 ∨ sG S g 3 = 1).resolve_left h2
    rw [e9] at k1; exact k1
set_option maxRecDepth 20000 in
theorem zp4_X1_numberOfGate {l : Launch} {D : va_G} {b0 : Nat} {tA : Nat → ClassId} {sa sv : Nat → Nat} {K : zKt} {I : zI} {Qp : zI → Option AV → Prop} {Xp : String → zI → Prop} {a g : Nat} {S : zS}
    (hR : zRw I a S) (hg : g < 6) (k1 : Qp I (some (vi (qGate S g 4)))) :
    zC l D b0 tA sa sv K yX1_numberOfGate (.code yX1_numberOfGate cX1_numberOfGate 2 (some .int)) zrm_X1_numberOfGate [vr (a + 1 + 2 + 5 * g) 1, vi ((4 : Int32))] I Qp Xp := by
  refine zC_of (by decide +kernel) (Nat.le_of_ble_eq_true rfl) ?_
  intro p e s m args below meth c X hnt
  have X : zX p l e zrm_X1_numberOfGate s m args below meth c RX1 cX1_numberOfGate 2 (some .int) D b0 tA sa sv := X
  refine zr_lv (lv2 := [some (vr (a + 1 + 2 + 5 * g) 1), some (vi ((4 : Int32)))]) rfl ?_
  refine zr_iload1 X dX1_numberOfGate_0 ?_
  refine zr_tblIn (off := 75) (tgt := 76) X dX1_numberOfGate_1 (by decide) (by decide) (by decide) (by decide) ?_
  refine zr_aload0 X dX1_numberOfGate_76 ?_
  refine zr_getR X zf_X1_12 rfl (by decide) (by decide) dX1_numberOfGate_77 ?_
  refine zr_getI X zf_X1_48 rfl dX1_numberOfGate_80 ?_
  refine zr_eq (x2 := (nI ((sL S g 0).length))) ((hR.2.2.1 g hg).2.1.1) ?_
  refine zr_iret X (by decide) (by decide) dX1_numberOfGate_83 ?_
  exact k1
set_option maxRecDepth 20000 in
theorem zp5_X1_numberOfGate {l : Launch} {D : va_G} {b0 : Nat} {tA : Nat → ClassId} {sa sv : Nat → Nat} {K : zKt} {I : zI} {Qp : zI → Option AV → Prop} {Xp : String → zI → Prop} {a g : Nat} {S : zS}
    (hR : zRw I a S) (hg : g < 6) (k1 : Qp I (some (vi (qGate S g 5)))) :
    zC l D b0 tA sa sv K yX1_numberOfGate (.code yX1_numberOfGate cX1_numberOfGate 2 (some .int)) zrm_X1_numberOfGate [vr (a + 1 + 2 + 5 * g) 1, vi ((5 : Int32))] I Qp Xp := by
  refine zC_of (by decide +kernel) (Nat.le_of_ble_eq_true rfl) ?_
  intro p e s m args below meth c X hnt
  have X : zX p l e zrm_X1_numberOfGate s m args below meth c RX1 cX1_numberOfGate 2 (some .int) D b0 tA sa sv := X
  refine zr_lv (lv2 := [some (vr (a + 1 + 2 + 5 * g) 1), some (vi ((5 : Int32)))]) rfl ?_
  refine zr_iload1 X dX1_numberOfGate_0 ?_
  refine zr_tblIn (off := 83) (tgt := 84) X dX1_numberOfGate_1 (by decide) (by decide) (by decide) (by decide) ?_
  refine zr_aload0 X dX1_numberOfGate_84 ?_
  refine zr_getR X zf_X1_18 rfl (by decide) (by decide) dX1_numberOfGate_85 ?_
  refine zr_getI X zf_X1_48 rfl dX1_numberOfGate_88 ?_
  refine zr_eq (x2 := (nI ((sL S g 1).length))) ((hR.2.2.1 g hg).2.2.1) ?_
  refine zr_iret X (by decide) (by decide) dX1_numberOfGate_91 ?_
  exact k1
set_option maxRecDepth 20000 in
theorem zp6_X1_numberOfGate {l : Launch} {D : va_G} {b0 : Nat} {tA : Nat → ClassId} {sa sv : Nat → Nat} {K : zKt} {I : zI} {Qp : zI → Option AV → Prop} {Xp : String → zI → Prop} {a g : Nat} {S : zS}
    (hR : zRw I a S) (hg : g < 6) (k1 : Qp I (some (vi (qGate S g 6)))) :
    zC l D b0 tA sa sv K yX1_numberOfGate (.code yX1_numberOfGate cX1_numberOfGate 2 (some .int)) zrm_X1_numberOfGate [vr (a + 1 + 2 + 5 * g) 1, vi ((6 : Int32))] I Qp Xp := by
  refine zC_of (by decide +kernel) (Nat.le_of_ble_eq_true rfl) ?_
  intro p e s m args below meth c X hnt
  have X : zX p l e zrm_X1_numberOfGate s m args below meth c RX1 cX1_numberOfGate 2 (some .int) D b0 tA sa sv := X
  refine zr_lv (lv2 := [some (vr (a + 1 + 2 + 5 * g) 1), some (vi ((6 : Int32)))]) rfl ?_
  refine zr_iload1 X dX1_numberOfGate_0 ?_
  refine zr_tblIn (off := 91) (tgt := 92) X dX1_numberOfGate_1 (by decide) (by decide) (by decide) (by decide) ?_
  refine zr_aload0 X dX1_numberOfGate_92 ?_
  refine zr_getI X zf_X1_42 rfl dX1_numberOfGate_93 ?_
  refine zr_eq (x2 := (sG S g 4)) (zGt_j (j := 4) (hR.2.2.1 g (by omega)) (by decide)) ?_
  refine zr_iret X (by decide) (by decide) dX1_numberOfGate_96 ?_
  exact k1
set_option maxRecDepth 20000 in
theorem zp7_X1_numberOfGate {l : Launch} {D : va_G} {b0 : Nat} {tA : Nat → ClassId} {sa sv : Nat → Nat} {K : zKt} {I : zI} {Qp : zI → Option AV → Prop} {Xp : String → zI → Prop} {a g : Nat} {S : zS}
    (hR : zRw I a S) (hg : g < 6) (k1 : Qp I (some (vi (qGate S g 7)))) :
    zC l D b0 tA sa sv K yX1_numberOfGate (.code yX1_numberOfGate cX1_numberOfGate 2 (some .int)) zrm_X1_numberOfGate [vr (a + 1 + 2 + 5 * g) 1, vi ((7 : Int32))] I Qp Xp := by
  refine zC_of (by decide +kernel) (Nat.le_of_ble_eq_true rfl) ?_
  intro p e s m args below meth c X hnt
  have X : zX p l e zrm_X1_numberOfGate s m args below meth c RX1 cX1_numberOfGate 2 (some .int) D b0 tA sa sv := X
  refine zr_lv (lv2 := [some (vr (a + 1 + 2 + 5 * g) 1), some (vi ((7 : Int32)))]) rfl ?_
  refine zr_iload1 X dX1_numberOfGate_0 ?_
  refine zr_tblIn (off := 96) (tgt := 97) X dX1_numberOfGate_1 (by decide) (by decide) (by decide) (by decide) ?_
  refine zr_aload0 X dX1_numberOfGate_97 ?_
  refine zr_getI X zf_X1_45 rfl dX1_numberOfGate_98 ?_
  refine zr_eq (x2 := (sG S g 5)) (zGt_j (j := 5) (hR.2.2.1 g (by omega)) (by decide)) ?_
  refine zr_iret X (by decide) (by decide) dX1_numberOfGate_101 ?_
  exact k1
set_option maxRecDepth 20000 in
theorem zp8_X1_numberOfGate {l : Launch} {D : va_G} {b0 : Nat} {tA : Nat → ClassId} {sa sv : Nat → Nat} {K : zKt} {I : zI} {Qp : zI → Option AV → Prop} {Xp : String → zI → Prop} {a g : Nat} {S : zS}
    (hR : zRw I a S) (hg : g < 6) (k1 : Qp I (some (vi (qGate S g 8)))) :
    zC l D b0 tA sa sv K yX1_numberOfGate (.code yX1_numberOfGate cX1_numberOfGate 2 (some .int)) zrm_X1_numberOfGate [vr (a + 1 + 2 + 5 * g) 1, vi ((8 : Int32))] I Qp Xp := by
  refine zC_of (by decide +kernel) (Nat.le_of_ble_eq_true rfl) ?_
  intro p e s m args below meth c X hnt
  have X : zX p l e zrm_X1_numberOfGate s m args below meth c RX1 cX1_numberOfGate 2 (some .int) D b0 tA sa sv := X
  refine zr_lv (lv2 := [some (vr (a + 1 + 2 + 5 * g) 1), some (vi ((8 : Int32)))]) rfl ?_
  refine zr_iload1 X dX1_numberOfGate_0 ?_
  refine zr_tblOut (tgt := 102) X dX1_numberOfGate_1 (by decide) (by decide) ?_
  refine zr_aload0 X dX1_numberOfGate_102 ?_
  refine zr_getI X zf_X1_25 rfl dX1_numberOfGate_103 ?_
  refine zr_eq (x2 := ((sG S g 6) - 1)) (zGt_j (j := 6) (hR.2.2.1 g (by omega)) (by decide)) ?_
  refine zr_iret X (by decide) (by decide) dX1_numberOfGate_106 ?_
  exact k1
theorem zq_X1_numberOfGate {l : Launch} {D : va_G} {b0 : Nat} {tA : Nat → ClassId} {sa sv : Nat → Nat} {K : zKt} {I : zI} {Qp : zI → Option AV → Prop} {Xp : String → zI → Prop} {a w9 : Nat} {S : zS} {g : Nat} (hR : zRw I a S) (hg : g < 6) (hw9 : w9 < 9) (k1 : Qp I (some (vi (qGate S g w9)))) :
    zC l D b0 tA sa sv K yX1_numberOfGate (.code yX1_numberOfGate cX1_numberOfGate 2 (some .int)) zrm_X1_numberOfGate [vr (a + 1 + 2 + 5 * g) 1, vi ((nI w9))] I Qp Xp := by
  rcases (show w9 = 0 ∨ w9 = 1 ∨ w9 = 2 ∨ w9 = 3 ∨ w9 = 4 ∨ w9 = 5 ∨ w9 = 6 ∨ w9 = 7 ∨ w9 = 8 by omega) with rfl | rfl | rfl | rfl | rfl | rfl | rfl | rfl | rfl
  · exact zp0_X1_numberOfGate hR hg k1
  · exact zp1_X1_numberOfGate hR hg k1
  · exact zp2_X1_numberOfGate hR hg k1
  · exact zp3_X1_numberOfGate hR hg k1
  · exact zp4_X1_numberOfGate hR hg k1
  · exact zp5_X1_numberOfGate hR hg k1
  · exact zp6_X1_numberOfGate hR hg k1
  · exact zp7_X1_numberOfGate hR hg k1
  · exact zp8_X1_numberOfGate hR hg k1
abbrev zrm_X5_cardNamed : Room := { frames := 0, cells := 0, slots := 0, locals := 0 }
set_option maxRecDepth 20000 in
theorem zl_X5_cardNamed {l : Launch} {D : va_G} {b0 : Nat} {tA : Nat → ClassId} {sa sv : Nat → Nat} {K : zKt} {I : zI} {Qp : zI → Option AV → Prop} {Xp : String → zI → Prop} {p : Program} {e : Env} {s : State} {m : MethodId} {args : Array Value} {below : List Frame} {meth : Method} {c : Code} {a : Nat} {x : Int32} {S : zS}
    (X : zX p l e zrm_X5_cardNamed s m args below meth c RX5 cX5_cardNamed 3 (some .int) D b0 tA sa sv) (hnt : ∀ x ∈ c.exceptionTable.toList, False) (hR : zRw I a S) (hW : zWf S) (k1 : ∀ c : Nat, c < znc S → znm (sM S c) 6 = x → (∀ i, i < c → ¬ znm (sM S i) 6 = x) → Qp I (some (vi (nI c)))) (k2 : (∀ i, i < znc S → ¬ znm (sM S i) 6 = x) → Qp I (some (vi (-1)))) :
    ∀ (n : Nat) (j : Nat), j ≤ znc S → (∀ i, i < j → ¬ znm (sM S i) 6 = x) → znc S - j < n → zG p l e zrm_X5_cardNamed s m args below meth c 3 D b0 tA sa 0 0 (zQ below D b0 tA sa K args s zrm_X5_cardNamed Qp Xp) K 2 [some (vr (a) 5), some (vi (x)), some (vi ((nI j)))] [] I := by
  intro n
  induction n with
  | zero => intro j i1 i2 i3; exact absurd i3 (Nat.not_lt_zero _)
  | succ n ih =>
    intro j i1 i2 i3
    have hg6 := hW.ng.1
    have hc12 := hW.nc.1
    refine zr_iload2 X dX5_cardNamed_2 ?_
    refine zr_aload0 X dX5_cardNamed_3 ?_
    refine zr_getI X zf_X5_42 rfl dX5_cardNamed_4 ?_
    refine zr_eq (x2 := (sX S 5)) (hR.1 5 (by decide) (by decide)) ?_
    refine zr_eq (x2 := (nI (znc S))) (hW.nc.2) ?_
    refine zr_nicmp_ge X (j) ((znc S)) (tgt := 40) (by omega) (by omega) dX5_cardNamed_7 (by decide) (fun h1 => ?_) (fun h1 => ?_)
    · skip
      refine zr_iconst (v := (-1 : Int32)) X dX5_cardNamed_40 (by decide) ?_
      refine zr_iret X (by decide) (by decide) dX5_cardNamed_41 ?_
      exact k2 (fun i hi => i2 i (by omega))
    · skip
      refine zr_iload2 X dX5_cardNamed_10 ?_
      refine zr_aload0 X dX5_cardNamed_11 ?_
      refine zr_getR X zf_X5_19 rfl (by decide) (by decide) dX5_cardNamed_12 ?_
      refine zr_alen (v := 12) X (Or.inr (Or.inl rfl)) rfl dX5_cardNamed_15 ?_
      refine zr_nicmp_ge X (j) (12) (tgt := 40) (by omega) (by omega) dX5_cardNamed_16 (by decide) (fun h2 => ?_) (fun h2 => ?_)
      · exact absurd h2 (by omega)
      · skip
        refine zr_aload0 X dX5_cardNamed_19 ?_
        refine zr_getR X zf_X5_19 rfl (by decide) (by decide) dX5_cardNamed_20 ?_
        refine zr_iload2 X dX5_cardNamed_23 ?_
        refine zr_aaldN X rfl rfl (by decide) (show _ < 12 from (by first | assumption | omega)) dX5_cardNamed_24 ?_
        refine zr_getI X zf_X5_78 rfl dX5_cardNamed_25 ?_
        refine zr_eq (x2 := (znm (sM S j) 6)) ((hR.2.2.2 j (by omega)).1) ?_
        refine zr_iload1 X dX5_cardNamed_28 ?_
        refine zr_icmp_ne (tgt := 34) X dX5_cardNamed_29 (by decide) (fun h3 => ?_) (fun h3 => ?_)
        · skip
          refine zr_iinc2 (v := (nI (j + 1))) X (show nI (j) + Int32.ofInt 1 = nI (j + 1) from nI_1 (j)) (by decide) rfl dX5_cardNamed_34 ?_
          refine zr_goto (tgt := 2) X dX5_cardNamed_37 (by decide) ?_
          exact ih (j + 1) (by omega) (fun i hi => by rcases Nat.lt_succ_iff_lt_or_eq.mp hi with q | rfl; exact i2 i q; assumption) (by omega)
        · skip
          refine zr_iload2 X dX5_cardNamed_32 ?_
          refine zr_iret X (by decide) (by decide) dX5_cardNamed_33 ?_
          exact k1 j (by omega) (by assumption) i2
set_option maxRecDepth 20000 in
theorem zp_X5_cardNamed {l : Launch} {D : va_G} {b0 : Nat} {tA : Nat → ClassId} {sa sv : Nat → Nat} {K : zKt} {I : zI} {Qp : zI → Option AV → Prop} {Xp : String → zI → Prop} {a : Nat} {x : Int32} {S : zS}
    (hR : zRw I a S) (hW : zWf S) (k1 : ∀ c : Nat, c < znc S → znm (sM S c) 6 = x → (∀ i, i < c → ¬ znm (sM S i) 6 = x) → Qp I (some (vi (nI c)))) (k2 : (∀ i, i < znc S → ¬ znm (sM S i) 6 = x) → Qp I (some (vi (-1)))) :
    zC l D b0 tA sa sv K yX5_cardNamed (.code yX5_cardNamed cX5_cardNamed 3 (some .int)) zrm_X5_cardNamed [vr (a) 5, vi (x)] I Qp Xp := by
  have hg6 := hW.ng.1
  have hc12 := hW.nc.1
  refine zC_of (by decide +kernel) (Nat.le_of_ble_eq_true rfl) ?_
  intro p e s m args below meth c X hnt
  have X : zX p l e zrm_X5_cardNamed s m args below meth c RX5 cX5_cardNamed 3 (some .int) D b0 tA sa sv := X
  refine zr_lv (lv2 := [some (vr (a) 5), some (vi (x)), none]) rfl ?_
  refine zr_iconst (v := (0 : Int32)) X dX5_cardNamed_0 (by decide) ?_
  refine zr_istore2 X (by decide) rfl dX5_cardNamed_1 ?_
  exact zl_X5_cardNamed X hnt hR hW k1 k2 (znc S + 1) 0 (by omega) (fun i hi => absurd hi (Nat.not_lt_zero _)) (by omega)
abbrev zrm_X5_placeInLine : Room := { frames := 3, cells := 0, slots := 0, locals := 66 }
set_option maxRecDepth 20000 in
theorem zp_X5_placeInLine {l : Launch} {D : va_G} {b0 : Nat} {tA : Nat → ClassId} {sa sv : Nat → Nat} {K : zKt} {I : zI} {Qp : zI → Option AV → Prop} {Xp : String → zI → Prop} {a c9 : Nat} {S : zS}
    (hR : zRw I a S) (hW : zWf S) (hc : c9 < 12) (k1 : ∀ g s p : Nat, zAt S c9 g s p → Qp I (some (vi (nI p)))) (k2 : (∀ g s p : Nat, ¬ zAt S c9 g s p) → Qp I (some (vi (-1)))) :
    zC l D b0 tA sa sv K yX5_placeInLine (.code yX5_placeInLine cX5_placeInLine 3 (some .int)) zrm_X5_placeInLine [vr (a) 5, vi ((nI c9))] I Qp Xp := by
  have hg6 := hW.ng.1
  have hc12 := hW.nc.1
  refine zC_of (by decide +kernel) (Nat.le_of_ble_eq_true rfl) ?_
  intro p e s m args below meth c X hnt
  have X : zX p l e zrm_X5_placeInLine s m args below meth c RX5 cX5_placeInLine 3 (some .int) D b0 tA sa sv := X
  refine zr_lv (lv2 := [some (vr (a) 5), some (vi ((nI c9))), none]) rfl ?_
  refine zr_aload0 X dX5_placeInLine_0 ?_
  refine zr_iload1 X dX5_placeInLine_1 ?_
  refine zr_callV1 (rm9 := zrm_X5_gateWithInLine) X hnt zm_X5_109 (by decide) (by decide) (by decide) (Nat.le_of_ble_eq_true rfl) dX5_placeInLine_2 ?_
  refine zp_X5_gateWithInLine hR hW (by omega) ?_ ?_
  · skip
    intro g2 sd3 p4 ha1; have := ha1.1; have := zAt_ng hW ha1; have := hW.ng.1
    refine zr_istore2 X (by decide) rfl dX5_placeInLine_5 ?_
    refine zr_aload0 X dX5_placeInLine_6 ?_
    refine zr_iload2 X dX5_placeInLine_7 ?_
    refine zr_callV1 (rm9 := zrm_X5_hasGate) X hnt zm_X5_134 (by decide) (by decide) (by decide) (Nat.le_of_ble_eq_true rfl) dX5_placeInLine_8 ?_
    refine zn_X5_hasGate hR hW (by omega) ?_ ?_
    · skip
      intro hh6
      refine zr_if_ne (tgt := 16) X dX5_placeInLine_11 (by decide) (fun _ => ?_) (fun h => absurd h (by decide))
      refine zr_aload0 X dX5_placeInLine_16 ?_
      refine zr_getR X zf_X5_11 rfl (by decide) (by decide) dX5_placeInLine_17 ?_
      refine zr_iload2 X dX5_placeInLine_20 ?_
      refine zr_aaldN X rfl rfl (by decide) (show _ < 6 from (by first | assumption | omega)) dX5_placeInLine_21 ?_
      refine zr_aload0 X dX5_placeInLine_22 ?_
      refine zr_iload1 X dX5_placeInLine_23 ?_
      refine zr_callV1 (rm9 := zrm_X5_sideInLine) X hnt zm_X5_113 (by decide) (by decide) (by decide) (Nat.le_of_ble_eq_true rfl) dX5_placeInLine_24 ?_
      refine zp_X5_sideInLine hR hW (by omega) ?_ (fun hn => absurd ha1 (hn _ _ _))
      intro g8 sd9 p10 hb7; have := hb7.2.1
      refine zr_callV1 (rm9 := zrm_X1_lineOn) X hnt zm_X5_137 (by decide) (by decide) (by decide) (Nat.le_of_ble_eq_true rfl) dX5_placeInLine_27 ?_
      refine zn_X1_lineOn (sd9) (by omega) (fun hs11 => ?_) (fun hs11 => ?_)
      · skip
        refine zr_iload1 X dX5_placeInLine_30 ?_
        refine zr_callV1 (rm9 := zrm_X4_placeOf) X hnt zm_X5_126 (by decide) (by decide) (by decide) (Nat.le_of_ble_eq_true rfl) dX5_placeInLine_31 ?_
        refine zq_X4_placeOf (w := (sL S g2 0)) ((hR.2.2.1 g2 (by omega)).2.1) (hW.le12 _ _) (by omega) ?_ ?_
        · skip
          intro kk13 hb15 hm12
          refine zr_iret X (by decide) (by decide) dX5_placeInLine_34 ?_
          first | exact k1 _ 0 _ ⟨by omega, by omega, by assumption⟩ | exact k1 _ 1 _ ⟨by omega, by omega, by assumption⟩
        · skip
          intro hm14
          refine zr_iret X (by decide) (by decide) dX5_placeInLine_34 ?_
          exfalso; obtain ⟨e1, e2, e3⟩ := hW.uniq _ _ _ _ _ _ _ ha1 hb7; subst e1; subst e2; first | (have e4 : _ = 0 := (by assumption); subst e4; exact absurd (List.mem_of_getElem? ha1.2.2) (by assumption)) | (have e4 : _ = 1 := (by assumption); subst e4; exact absurd (List.mem_of_getElem? ha1.2.2) (by assumption))
      · skip
        refine zr_iload1 X dX5_placeInLine_30 ?_
        refine zr_callV1 (rm9 := zrm_X4_placeOf) X hnt zm_X5_126 (by decide) (by decide) (by decide) (Nat.le_of_ble_eq_true rfl) dX5_placeInLine_31 ?_
        refine zq_X4_placeOf (w := (sL S g2 1)) ((hR.2.2.1 g2 (by omega)).2.2) (hW.le12 _ _) (by omega) ?_ ?_
        · skip
          intro kk17 hb19 hm16
          refine zr_iret X (by decide) (by decide) dX5_placeInLine_34 ?_
          first | exact k1 _ 0 _ ⟨by omega, by omega, by assumption⟩ | exact k1 _ 1 _ ⟨by omega, by omega, by assumption⟩
        · skip
          intro hm18
          refine zr_iret X (by decide) (by decide) dX5_placeInLine_34 ?_
          exfalso; obtain ⟨e1, e2, e3⟩ := hW.uniq _ _ _ _ _ _ _ ha1 hb7; subst e1; subst e2; first | (have e4 : _ = 0 := (by assumption); subst e4; exact absurd (List.mem_of_getElem? ha1.2.2) (by assumption)) | (have e4 : _ = 1 := (by assumption); subst e4; exact absurd (List.mem_of_getElem? ha1.2.2) (by assumption))
    · skip
      intro hh6
      refine zr_if_ne (tgt := 16) X dX5_placeInLine_11 (by decide) (fun h => absurd h (by decide)) (fun _ => ?_)
      refine zr_iconst (v := (-1 : Int32)) X dX5_placeInLine_14 (by decide) ?_
      refine zr_iret X (by decide) (by decide) dX5_placeInLine_15 ?_
      exact absurd (zAt_ng hW ha1) (by assumption)
  · skip
    intro hn5
    refine zr_istore2 X (by decide) rfl dX5_placeInLine_5 ?_
    refine zr_aload0 X dX5_placeInLine_6 ?_
    refine zr_iload2 X dX5_placeInLine_7 ?_
    refine zr_callV1 (rm9 := zrm_X5_hasGate) X hnt zm_X5_134 (by decide) (by decide) (by decide) (Nat.le_of_ble_eq_true rfl) dX5_placeInLine_8 ?_
    refine zq_X5_hasGate (fun h => absurd (by decide) h.1) (fun _ => ?_)
    refine zr_if_ne (tgt := 16) X dX5_placeInLine_11 (by decide) (fun h => absurd h (by decide)) (fun _ => ?_)
    refine zr_iconst (v := (-1 : Int32)) X dX5_placeInLine_14 (by decide) ?_
    refine zr_iret X (by decide) (by decide) dX5_placeInLine_15 ?_
    exact k2 (by assumption)
abbrev zrm_X5_numberOfCard : Room := { frames := 4, cells := 0, slots := 0, locals := 88 }
set_option maxRecDepth 20000 in
theorem zp0_X5_numberOfCard {l : Launch} {D : va_G} {b0 : Nat} {tA : Nat → ClassId} {sa sv : Nat → Nat} {K : zKt} {I : zI} {Qp : zI → Option AV → Prop} {Xp : String → zI → Prop} {a c9 : Nat} {S : zS}
    (hR : zRw I a S) (hW : zWf S) (hc : c9 < znc S) (k1 : Qp I (some (vi (qCard S c9 0)))) :
    zC l D b0 tA sa sv K yX5_numberOfCard (.code yX5_numberOfCard cX5_numberOfCard 3 (some .int)) zrm_X5_numberOfCard [vr (a) 5, vi ((nI c9)), vi ((0 : Int32))] I Qp Xp := by
  have hg6 := hW.ng.1
  have hc12 := hW.nc.1
  refine zC_of (by decide +kernel) (Nat.le_of_ble_eq_true rfl) ?_
  intro p e s m args below meth c X hnt
  have X : zX p l e zrm_X5_numberOfCard s m args below meth c RX5 cX5_numberOfCard 3 (some .int) D b0 tA sa sv := X
  refine zr_lv (lv2 := [some (vr (a) 5), some (vi ((nI c9))), some (vi ((0 : Int32)))]) rfl ?_
  refine zr_aload0 X dX5_numberOfCard_0 ?_
  refine zr_iload1 X dX5_numberOfCard_1 ?_
  refine zr_callV1 (rm9 := zrm_X5_hasCard) X hnt zm_X5_98 (by decide) (by decide) (by decide) (Nat.le_of_ble_eq_true rfl) dX5_numberOfCard_2 ?_
  refine zn_X5_hasCard hR hW (by omega) ?_ ?_
  · skip
    intro hh1
    refine zr_if_ne (tgt := 10) X dX5_numberOfCard_5 (by decide) (fun _ => ?_) (fun h => absurd h (by decide))
    refine zr_iload2 X dX5_numberOfCard_10 ?_
    refine zr_tblIn (off := 37) (tgt := 48) X dX5_numberOfCard_11 (by decide) (by decide) (by decide) (by decide) ?_
    refine zr_aload0 X dX5_numberOfCard_48 ?_
    refine zr_getR X zf_X5_19 rfl (by decide) (by decide) dX5_numberOfCard_49 ?_
    refine zr_iload1 X dX5_numberOfCard_52 ?_
    refine zr_aaldN X rfl rfl (by decide) (show _ < 12 from (by first | assumption | omega)) dX5_numberOfCard_53 ?_
    refine zr_getI X zf_X5_81 rfl dX5_numberOfCard_54 ?_
    refine zr_eq (x2 := (sC S c9 0)) ((hR.2.2.2 c9 (by omega)).2.1) ?_
    refine zr_iret X (by decide) (by decide) dX5_numberOfCard_57 ?_
    exact k1
  · skip
    intro hh1
    refine zr_if_ne (tgt := 10) X dX5_numberOfCard_5 (by decide) (fun h => absurd h (by decide)) (fun _ => ?_)
    refine zr_iconst (v := (-1 : Int32)) X dX5_numberOfCard_8 (by decide) ?_
    refine zr_iret X (by decide) (by decide) dX5_numberOfCard_9 ?_
    exact absurd hc (by assumption)
set_option maxRecDepth 20000 in
theorem zp1_X5_numberOfCard {l : Launch} {D : va_G} {b0 : Nat} {tA : Nat → ClassId} {sa sv : Nat → Nat} {K : zKt} {I : zI} {Qp : zI → Option AV → Prop} {Xp : String → zI → Prop} {a c9 : Nat} {S : zS}
    (hR : zRw I a S) (hW : zWf S) (hc : c9 < znc S) (k1 : Qp I (some (vi (qCard S c9 1)))) :
    zC l D b0 tA sa sv K yX5_numberOfCard (.code yX5_numberOfCard cX5_numberOfCard 3 (some .int)) zrm_X5_numberOfCard [vr (a) 5, vi ((nI c9)), vi ((1 : Int32))] I Qp Xp := by
  have hg6 := hW.ng.1
  have hc12 := hW.nc.1
  refine zC_of (by decide +kernel) (Nat.le_of_ble_eq_true rfl) ?_
  intro p e s m args below meth c X hnt
  have X : zX p l e zrm_X5_numberOfCard s m args below meth c RX5 cX5_numberOfCard 3 (some .int) D b0 tA sa sv := X
  refine zr_lv (lv2 := [some (vr (a) 5), some (vi ((nI c9))), some (vi ((1 : Int32)))]) rfl ?_
  refine zr_aload0 X dX5_numberOfCard_0 ?_
  refine zr_iload1 X dX5_numberOfCard_1 ?_
  refine zr_callV1 (rm9 := zrm_X5_hasCard) X hnt zm_X5_98 (by decide) (by decide) (by decide) (Nat.le_of_ble_eq_true rfl) dX5_numberOfCard_2 ?_
  refine zn_X5_hasCard hR hW (by omega) ?_ ?_
  · skip
    intro hh1
    refine zr_if_ne (tgt := 10) X dX5_numberOfCard_5 (by decide) (fun _ => ?_) (fun h => absurd h (by decide))
    refine zr_iload2 X dX5_numberOfCard_10 ?_
    refine zr_tblIn (off := 47) (tgt := 58) X dX5_numberOfCard_11 (by decide) (by decide) (by decide) (by decide) ?_
    refine zr_aload0 X dX5_numberOfCard_58 ?_
    refine zr_getR X zf_X5_19 rfl (by decide) (by decide) dX5_numberOfCard_59 ?_
    refine zr_iload1 X dX5_numberOfCard_62 ?_
    refine zr_aaldN X rfl rfl (by decide) (show _ < 12 from (by first | assumption | omega)) dX5_numberOfCard_63 ?_
    refine zr_getZ X zf_X5_102 rfl rfl (by decide) dX5_numberOfCard_64 (fun hz2 => ?_)
    refine zr_eq (x2 := (sC S c9 1)) ((hR.2.2.2 c9 (by omega)).2.2.1) ?_
    have hz2 : (sC S c9 1) = 0 ∨ (sC S c9 1) = 1 := hz2.imp (fun h => Eq.trans (Eq.symm ((hR.2.2.2 c9 (by omega)).2.2.1)) h) (fun h => Eq.trans (Eq.symm ((hR.2.2.2 c9 (by omega)).2.2.1)) h)
    refine zr_if_eq (tgt := 74) X dX5_numberOfCard_67 (by decide) (fun h3 => ?_) (fun h3 => ?_)
    · skip
      refine zr_iconst (v := (0 : Int32)) X dX5_numberOfCard_74 (by decide) ?_
      refine zr_iret X (by decide) (by decide) dX5_numberOfCard_75 ?_
      have e9 : qCard S c9 1 = 0 := h3
      rw [e9] at k1; exact k1
    · skip
      refine zr_iconst (v := (1 : Int32)) X dX5_numberOfCard_70 (by decide) ?_
      refine zr_goto (tgt := 75) X dX5_numberOfCard_71 (by decide) ?_
      refine zr_iret X (by decide) (by decide) dX5_numberOfCard_75 ?_
      have e9 : qCard S c9 1 = 1 := (by assumption : sC S c9 1 = 0 ∨ sC S c9 1 = 1).resolve_left h3
      rw [e9] at k1; exact k1
  · skip
    intro hh1
    refine zr_if_ne (tgt := 10) X dX5_numberOfCard_5 (by decide) (fun h => absurd h (by decide)) (fun _ => ?_)
    refine zr_iconst (v := (-1 : Int32)) X dX5_numberOfCard_8 (by decide) ?_
    refine zr_iret X (by decide) (by decide) dX5_numberOfCard_9 ?_
    exact absurd hc (by assumption)
set_option maxRecDepth 20000 in
theorem zp2_X5_numberOfCard {l : Launch} {D : va_G} {b0 : Nat} {tA : Nat → ClassId} {sa sv : Nat → Nat} {K : zKt} {I : zI} {Qp : zI → Option AV → Prop} {Xp : String → zI → Prop} {a c9 : Nat} {S : zS}
    (hR : zRw I a S) (hW : zWf S) (hc : c9 < znc S) (k1 : Qp I (some (vi (qCard S c9 2)))) :
    zC l D b0 tA sa sv K yX5_numberOfCard (.code yX5_numberOfCard cX5_numberOfCard 3 (some .int)) zrm_X5_numberOfCard [vr (a) 5, vi ((nI c9)), vi ((2 : Int32))] I Qp Xp := by
  have hg6 := hW.ng.1
  have hc12 := hW.nc.1
  refine zC_of (by decide +kernel) (Nat.le_of_ble_eq_true rfl) ?_
  intro p e s m args below meth c X hnt
  have X : zX p l e zrm_X5_numberOfCard s m args below meth c RX5 cX5_numberOfCard 3 (some .int) D b0 tA sa sv := X
  refine zr_lv (lv2 := [some (vr (a) 5), some (vi ((nI c9))), some (vi ((2 : Int32)))]) rfl ?_
  refine zr_aload0 X dX5_numberOfCard_0 ?_
  refine zr_iload1 X dX5_numberOfCard_1 ?_
  refine zr_callV1 (rm9 := zrm_X5_hasCard) X hnt zm_X5_98 (by decide) (by decide) (by decide) (Nat.le_of_ble_eq_true rfl) dX5_numberOfCard_2 ?_
  refine zn_X5_hasCard hR hW (by omega) ?_ ?_
  · skip
    intro hh1
    refine zr_if_ne (tgt := 10) X dX5_numberOfCard_5 (by decide) (fun _ => ?_) (fun h => absurd h (by decide))
    refine zr_iload2 X dX5_numberOfCard_10 ?_
    refine zr_tblIn (off := 65) (tgt := 76) X dX5_numberOfCard_11 (by decide) (by decide) (by decide) (by decide) ?_
    refine zr_aload0 X dX5_numberOfCard_76 ?_
    refine zr_getR X zf_X5_19 rfl (by decide) (by decide) dX5_numberOfCard_77 ?_
    refine zr_iload1 X dX5_numberOfCard_80 ?_
    refine zr_aaldN X rfl rfl (by decide) (show _ < 12 from (by first | assumption | omega)) dX5_numberOfCard_81 ?_
    refine zr_getZ X zf_X5_106 rfl rfl (by decide) dX5_numberOfCard_82 (fun hz2 => ?_)
    refine zr_eq (x2 := (sC S c9 2)) ((hR.2.2.2 c9 (by omega)).2.2.2.1) ?_
    have hz2 : (sC S c9 2) = 0 ∨ (sC S c9 2) = 1 := hz2.imp (fun h => Eq.trans (Eq.symm ((hR.2.2.2 c9 (by omega)).2.2.2.1)) h) (fun h => Eq.trans (Eq.symm ((hR.2.2.2 c9 (by omega)).2.2.2.1)) h)
    refine zr_if_eq (tgt := 92) X dX5_numberOfCard_85 (by decide) (fun h3 => ?_) (fun h3 => ?_)
    · skip
      refine zr_iconst (v := (0 : Int32)) X dX5_numberOfCard_92 (by decide) ?_
      refine zr_iret X (by decide) (by decide) dX5_numberOfCard_93 ?_
      have e9 : qCard S c9 2 = 0 := h3
      rw [e9] at k1; exact k1
    · skip
      refine zr_iconst (v := (1 : Int32)) X dX5_numberOfCard_88 (by decide) ?_
      refine zr_goto (tgt := 93) X dX5_numberOfCard_89 (by decide) ?_
      refine zr_iret X (by decide) (by decide) dX5_numberOfCard_93 ?_
      have e9 : qCard S c9 2 = 1 := (by assumption : sC S c9 2 = 0 ∨ sC S c9 2 = 1).resolve_left h3
      rw [e9] at k1; exact k1
  · skip
    intro hh1
    refine zr_if_ne (tgt := 10) X dX5_numberOfCard_5 (by decide) (fun h => absurd h (by decide)) (fun _ => ?_)
    refine zr_iconst (v := (-1 : Int32)) X dX5_numberOfCard_8 (by decide) ?_
    refine zr_iret X (by decide) (by decide) dX5_numberOfCard_9 ?_
    exact absurd hc (by assumption)
set_option maxRecDepth 20000 in
theorem zp3_X5_numberOfCard {l : Launch} {D : va_G} {b0 : Nat} {tA : Nat → ClassId} {sa sv : Nat → Nat} {K : zKt} {I : zI} {Qp : zI → Option AV → Prop} {Xp : String → zI → Prop} {a c9 : Nat} {S : zS}
    (hR : zRw I a S) (hW : zWf S) (hc : c9 < znc S) (k1 : Qp I (some (vi (qCard S c9 3)))) :
    zC l D b0 tA sa sv K yX5_numberOfCard (.code yX5_numberOfCard cX5_numberOfCard 3 (some .int)) zrm_X5_numberOfCard [vr (a) 5, vi ((nI c9)), vi ((3 : Int32))] I Qp Xp := by
  have hg6 := hW.ng.1
  have hc12 := hW.nc.1
  refine zC_of (by decide +kernel) (Nat.le_of_ble_eq_true rfl) ?_
  intro p e s m args below meth c X hnt
  have X : zX p l e zrm_X5_numberOfCard s m args below meth c RX5 cX5_numberOfCard 3 (some .int) D b0 tA sa sv := X
  refine zr_lv (lv2 := [some (vr (a) 5), some (vi ((nI c9))), some (vi ((3 : Int32)))]) rfl ?_
  refine zr_aload0 X dX5_numberOfCard_0 ?_
  refine zr_iload1 X dX5_numberOfCard_1 ?_
  refine zr_callV1 (rm9 := zrm_X5_hasCard) X hnt zm_X5_98 (by decide) (by decide) (by decide) (Nat.le_of_ble_eq_true rfl) dX5_numberOfCard_2 ?_
  refine zn_X5_hasCard hR hW (by omega) ?_ ?_
  · skip
    intro hh1
    refine zr_if_ne (tgt := 10) X dX5_numberOfCard_5 (by decide) (fun _ => ?_) (fun h => absurd h (by decide))
    refine zr_iload2 X dX5_numberOfCard_10 ?_
    refine zr_tblIn (off := 83) (tgt := 94) X dX5_numberOfCard_11 (by decide) (by decide) (by decide) (by decide) ?_
    refine zr_aload0 X dX5_numberOfCard_94 ?_
    refine zr_iload1 X dX5_numberOfCard_95 ?_
    refine zr_callV1 (rm9 := zrm_X5_gateWithInLine) X hnt zm_X5_109 (by decide) (by decide) (by decide) (Nat.le_of_ble_eq_true rfl) dX5_numberOfCard_96 ?_
    refine zp_X5_gateWithInLine hR hW (by omega) ?_ ?_
    · skip
      intro g3 sd4 p5 ha2
      refine zr_iret X (by decide) (by decide) dX5_numberOfCard_99 ?_
      rw [show qCard S c9 3 = qWh S c9 3 from rfl, qWh_at hW ha2] at k1; exact k1
    · skip
      intro hn6
      refine zr_iret X (by decide) (by decide) dX5_numberOfCard_99 ?_
      rw [show qCard S c9 3 = qWh S c9 3 from rfl, qWh_not hn6] at k1; exact k1
  · skip
    intro hh1
    refine zr_if_ne (tgt := 10) X dX5_numberOfCard_5 (by decide) (fun h => absurd h (by decide)) (fun _ => ?_)
    refine zr_iconst (v := (-1 : Int32)) X dX5_numberOfCard_8 (by decide) ?_
    refine zr_iret X (by decide) (by decide) dX5_numberOfCard_9 ?_
    exact absurd hc (by assumption)
set_option maxRecDepth 20000 in
theorem zp4_X5_numberOfCard {l : Launch} {D : va_G} {b0 : Nat} {tA : Nat → ClassId} {sa sv : Nat → Nat} {K : zKt} {I : zI} {Qp : zI → Option AV → Prop} {Xp : String → zI → Prop} {a c9 : Nat} {S : zS}
    (hR : zRw I a S) (hW : zWf S) (hc : c9 < znc S) (k1 : Qp I (some (vi (qCard S c9 4)))) :
    zC l D b0 tA sa sv K yX5_numberOfCard (.code yX5_numberOfCard cX5_numberOfCard 3 (some .int)) zrm_X5_numberOfCard [vr (a) 5, vi ((nI c9)), vi ((4 : Int32))] I Qp Xp := by
  have hg6 := hW.ng.1
  have hc12 := hW.nc.1
  refine zC_of (by decide +kernel) (Nat.le_of_ble_eq_true rfl) ?_
  intro p e s m args below meth c X hnt
  have X : zX p l e zrm_X5_numberOfCard s m args below meth c RX5 cX5_numberOfCard 3 (some .int) D b0 tA sa sv := X
  refine zr_lv (lv2 := [some (vr (a) 5), some (vi ((nI c9))), some (vi ((4 : Int32)))]) rfl ?_
  refine zr_aload0 X dX5_numberOfCard_0 ?_
  refine zr_iload1 X dX5_numberOfCard_1 ?_
  refine zr_callV1 (rm9 := zrm_X5_hasCard) X hnt zm_X5_98 (by decide) (by decide) (by decide) (Nat.le_of_ble_eq_true rfl) dX5_numberOfCard_2 ?_
  refine zn_X5_hasCard hR hW (by omega) ?_ ?_
  · skip
    intro hh1
    refine zr_if_ne (tgt := 10) X dX5_numberOfCard_5 (by decide) (fun _ => ?_) (fun h => absurd h (by decide))
    refine zr_iload2 X dX5_numberOfCard_10 ?_
    refine zr_tblIn (off := 89) (tgt := 100) X dX5_numberOfCard_11 (by decide) (by decide) (by decide) (by decide) ?_
    refine zr_aload0 X dX5_numberOfCard_100 ?_
    refine zr_iload1 X dX5_numberOfCard_101 ?_
    refine zr_callV1 (rm9 := zrm_X5_sideInLine) X hnt zm_X5_113 (by decide) (by decide) (by decide) (Nat.le_of_ble_eq_true rfl) dX5_numberOfCard_102 ?_
    refine zp_X5_sideInLine hR hW (by omega) ?_ ?_
    · skip
      intro g3 sd4 p5 ha2
      refine zr_iret X (by decide) (by decide) dX5_numberOfCard_105 ?_
      rw [show qCard S c9 4 = qWh S c9 4 from rfl, qWh_at hW ha2] at k1; exact k1
    · skip
      intro hn6
      refine zr_iret X (by decide) (by decide) dX5_numberOfCard_105 ?_
      rw [show qCard S c9 4 = qWh S c9 4 from rfl, qWh_not hn6] at k1; exact k1
  · skip
    intro hh1
    refine zr_if_ne (tgt := 10) X dX5_numberOfCard_5 (by decide) (fun h => absurd h (by decide)) (fun _ => ?_)
    refine zr_iconst (v := (-1 : Int32)) X dX5_numberOfCard_8 (by decide) ?_
    refine zr_iret X (by decide) (by decide) dX5_numberOfCard_9 ?_
    exact absurd hc (by assumption)
set_option maxRecDepth 20000 in
theorem zp5_X5_numberOfCard {l : Launch} {D : va_G} {b0 : Nat} {tA : Nat → ClassId} {sa sv : Nat → Nat} {K : zKt} {I : zI} {Qp : zI → Option AV → Prop} {Xp : String → zI → Prop} {a c9 : Nat} {S : zS}
    (hR : zRw I a S) (hW : zWf S) (hc : c9 < znc S) (k1 : Qp I (some (vi (qCard S c9 5)))) :
    zC l D b0 tA sa sv K yX5_numberOfCard (.code yX5_numberOfCard cX5_numberOfCard 3 (some .int)) zrm_X5_numberOfCard [vr (a) 5, vi ((nI c9)), vi ((5 : Int32))] I Qp Xp := by
  have hg6 := hW.ng.1
  have hc12 := hW.nc.1
  refine zC_of (by decide +kernel) (Nat.le_of_ble_eq_true rfl) ?_
  intro p e s m args below meth c X hnt
  have X : zX p l e zrm_X5_numberOfCard s m args below meth c RX5 cX5_numberOfCard 3 (some .int) D b0 tA sa sv := X
  refine zr_lv (lv2 := [some (vr (a) 5), some (vi ((nI c9))), some (vi ((5 : Int32)))]) rfl ?_
  refine zr_aload0 X dX5_numberOfCard_0 ?_
  refine zr_iload1 X dX5_numberOfCard_1 ?_
  refine zr_callV1 (rm9 := zrm_X5_hasCard) X hnt zm_X5_98 (by decide) (by decide) (by decide) (Nat.le_of_ble_eq_true rfl) dX5_numberOfCard_2 ?_
  refine zn_X5_hasCard hR hW (by omega) ?_ ?_
  · skip
    intro hh1
    refine zr_if_ne (tgt := 10) X dX5_numberOfCard_5 (by decide) (fun _ => ?_) (fun h => absurd h (by decide))
    refine zr_iload2 X dX5_numberOfCard_10 ?_
    refine zr_tblIn (off := 95) (tgt := 106) X dX5_numberOfCard_11 (by decide) (by decide) (by decide) (by decide) ?_
    refine zr_aload0 X dX5_numberOfCard_106 ?_
    refine zr_iload1 X dX5_numberOfCard_107 ?_
    refine zr_callV1 (rm9 := zrm_X5_placeInLine) X hnt zm_X5_116 (by decide) (by decide) (by decide) (Nat.le_of_ble_eq_true rfl) dX5_numberOfCard_108 ?_
    refine zp_X5_placeInLine hR hW (by omega) ?_ ?_
    · skip
      intro g3 sd4 p5 ha2
      refine zr_iret X (by decide) (by decide) dX5_numberOfCard_111 ?_
      rw [show qCard S c9 5 = qWh S c9 5 from rfl, qWh_at hW ha2] at k1; exact k1
    · skip
      intro hn6
      refine zr_iret X (by decide) (by decide) dX5_numberOfCard_111 ?_
      rw [show qCard S c9 5 = qWh S c9 5 from rfl, qWh_not hn6] at k1; exact k1
  · skip
    intro hh1
    refine zr_if_ne (tgt := 10) X dX5_numberOfCard_5 (by decide) (fun h => absurd h (by decide)) (fun _ => ?_)
    refine zr_iconst (v := (-1 : Int32)) X dX5_numberOfCard_8 (by decide) ?_
    refine zr_iret X (by decide) (by decide) dX5_numberOfCard_9 ?_
    exact absurd hc (by assumption)
set_option maxRecDepth 20000 in
theorem zp6_X5_numberOfCard {l : Launch} {D : va_G} {b0 : Nat} {tA : Nat → ClassId} {sa sv : Nat → Nat} {K : zKt} {I : zI} {Qp : zI → Option AV → Prop} {Xp : String → zI → Prop} {a c9 : Nat} {S : zS}
    (hR : zRw I a S) (hW : zWf S) (hc : c9 < znc S) (k1 : Qp I (some (vi (qCard S c9 6)))) :
    zC l D b0 tA sa sv K yX5_numberOfCard (.code yX5_numberOfCard cX5_numberOfCard 3 (some .int)) zrm_X5_numberOfCard [vr (a) 5, vi ((nI c9)), vi ((6 : Int32))] I Qp Xp := by
  have hg6 := hW.ng.1
  have hc12 := hW.nc.1
  refine zC_of (by decide +kernel) (Nat.le_of_ble_eq_true rfl) ?_
  intro p e s m args below meth c X hnt
  have X : zX p l e zrm_X5_numberOfCard s m args below meth c RX5 cX5_numberOfCard 3 (some .int) D b0 tA sa sv := X
  refine zr_lv (lv2 := [some (vr (a) 5), some (vi ((nI c9))), some (vi ((6 : Int32)))]) rfl ?_
  refine zr_aload0 X dX5_numberOfCard_0 ?_
  refine zr_iload1 X dX5_numberOfCard_1 ?_
  refine zr_callV1 (rm9 := zrm_X5_hasCard) X hnt zm_X5_98 (by decide) (by decide) (by decide) (Nat.le_of_ble_eq_true rfl) dX5_numberOfCard_2 ?_
  refine zn_X5_hasCard hR hW (by omega) ?_ ?_
  · skip
    intro hh1
    refine zr_if_ne (tgt := 10) X dX5_numberOfCard_5 (by decide) (fun _ => ?_) (fun h => absurd h (by decide))
    refine zr_iload2 X dX5_numberOfCard_10 ?_
    refine zr_tblOut (tgt := 112) X dX5_numberOfCard_11 (by decide) (by decide) ?_
    refine zr_aload0 X dX5_numberOfCard_112 ?_
    refine zr_getR X zf_X5_19 rfl (by decide) (by decide) dX5_numberOfCard_113 ?_
    refine zr_iload1 X dX5_numberOfCard_116 ?_
    refine zr_aaldN X rfl rfl (by decide) (show _ < 12 from (by first | assumption | omega)) dX5_numberOfCard_117 ?_
    refine zr_getI X zf_X5_119 rfl dX5_numberOfCard_118 ?_
    refine zr_eq (x2 := (sC S c9 3)) ((hR.2.2.2 c9 (by omega)).2.2.2.2) ?_
    refine zr_iret X (by decide) (by decide) dX5_numberOfCard_121 ?_
    exact k1
  · skip
    intro hh1
    refine zr_if_ne (tgt := 10) X dX5_numberOfCard_5 (by decide) (fun h => absurd h (by decide)) (fun _ => ?_)
    refine zr_iconst (v := (-1 : Int32)) X dX5_numberOfCard_8 (by decide) ?_
    refine zr_iret X (by decide) (by decide) dX5_numberOfCard_9 ?_
    exact absurd hc (by assumption)
theorem zq_X5_numberOfCard {l : Launch} {D : va_G} {b0 : Nat} {tA : Nat → ClassId} {sa sv : Nat → Nat} {K : zKt} {I : zI} {Qp : zI → Option AV → Prop} {Xp : String → zI → Prop} {a w9 : Nat} {S : zS} {c9 : Nat} (hR : zRw I a S) (hW : zWf S) (hc : c9 < znc S) (hw9 : w9 < 7) (k1 : Qp I (some (vi (qCard S c9 w9)))) :
    zC l D b0 tA sa sv K yX5_numberOfCard (.code yX5_numberOfCard cX5_numberOfCard 3 (some .int)) zrm_X5_numberOfCard [vr (a) 5, vi ((nI c9)), vi ((nI w9))] I Qp Xp := by
  rcases (show w9 = 0 ∨ w9 = 1 ∨ w9 = 2 ∨ w9 = 3 ∨ w9 = 4 ∨ w9 = 5 ∨ w9 = 6 by omega) with rfl | rfl | rfl | rfl | rfl | rfl | rfl
  · exact zp0_X5_numberOfCard hR hW hc k1
  · exact zp1_X5_numberOfCard hR hW hc k1
  · exact zp2_X5_numberOfCard hR hW hc k1
  · exact zp3_X5_numberOfCard hR hW hc k1
  · exact zp4_X5_numberOfCard hR hW hc k1
  · exact zp5_X5_numberOfCard hR hW hc k1
  · exact zp6_X5_numberOfCard hR hW hc k1
