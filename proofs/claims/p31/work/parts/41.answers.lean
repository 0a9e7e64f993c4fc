/-! ===== what the class answers ===== -/
theorem vIdx_in {v m : Int32} {n : Nat} (hm : m = nI n) (h1 : ¬ v < 0) (h2 : v < m) : ¬ vIdx v n = none := by
  subst hm
  intro h
  by_cases hn : n < 2 ^ 31
  · rcases vIdx_out hn h with q | q
    · exact h1 q
    · rw [Int32.lt_iff_toInt_lt] at h2; rw [Int32.le_iff_toInt_le] at q; omega
  · unfold vIdx at h
    rw [Int32.not_lt, Int32.le_iff_toInt_le] at h1
    have e0 : (0 : Int32).toInt = 0 := by decide
    have := Int32.toInt_lt v
    rw [if_pos (by omega)] at h; cases h
abbrev zrm_X7_state : Room := { frames := 8, cells := 1, slots := 6, locals := 120 }
set_option maxRecDepth 20000 in
theorem zo_X7_state {l : Launch} {D : va_G} {b0 : Nat} {tA : Nat → ClassId} {sa sv : Nat → Nat} {K : zKt} {I : zI} {Qp : zI → Option AV → Prop} {Xp : String → zI → Prop} {F9 : zI} {x f : Nat} {t : Nat → Nat} {er : Int32} {S : zS} {U : List zS}{w : Nat}
    (hC : zCl F9 I x t f er S U) (hw : w < 16) (k1 : Qp I (some (vi (qState S w)))) :
    zC l D b0 tA sa sv K yX7_state (.code yX7_state cX7_state 2 (some .int)) zrm_X7_state [vr (x) 7, vi ((nI w))] I Qp Xp := by
  have hR := hC.2.2.1
  have hW := hC.2.2.2.1
  have hg6 := hW.ng.1
  have hc12 := hW.nc.1
  have hf5 := hC.1.2.1
  refine zC_of (by decide +kernel) (Nat.le_of_ble_eq_true rfl) ?_
  intro p e s m args below meth c X hnt
  have X : zX p l e zrm_X7_state s m args below meth c RX7 cX7_state 2 (some .int) D b0 tA sa sv := X
  refine zr_lv (lv2 := [some (vr (x) 7), some (vi ((nI w)))]) rfl ?_
  refine zr_iload1 X dX7_state_0 ?_
  refine zr_nif_lt X (w) (tgt := 10) (by omega) dX7_state_1 (by decide) (fun h => h.elim) (fun _ => ?_)
  refine zr_iload1 X dX7_state_4 ?_
  refine zr_bipush (v := (16 : Int32)) X dX7_state_5 (by decide) ?_
  refine zr_nicmp_lt X (w) (16) (tgt := 20) (by omega) (by omega) dX7_state_7 (by decide) (fun h2 => ?_) (fun h2 => ?_)
  · skip
    refine zr_aload0 X dX7_state_20 ?_
    refine zr_getR X zf_X7_26 rfl (by decide) (by decide) dX7_state_21 ?_
    refine zr_iload1 X dX7_state_24 ?_
    refine zr_callV1 (rm9 := zrm_X5_numberOfState) X hnt zm_X7_85 (by decide) (by decide) (by decide) (Nat.le_of_ble_eq_true rfl) dX7_state_25 ?_
    refine zq_X5_numberOfState hR hW (by omega) ?_
    refine zr_iret X (by decide) (by decide) dX7_state_28 ?_
    exact k1
  · skip
    refine zr_throwS (i := 35) X hnt zth_iae rfl dX7_state_10 dX7_state_13 dX7_state_14 dX7_state_16 dX7_state_19 ⟨by decide, by decide⟩ (Nat.le_of_ble_eq_true rfl) (by decide) (by decide) ?_
    exfalso; omega
set_option maxRecDepth 20000 in
theorem zx_X7_state {l : Launch} {D : va_G} {b0 : Nat} {tA : Nat → ClassId} {sa sv : Nat → Nat} {K : zKt} {I : zI} {Qp : zI → Option AV → Prop} {Xp : String → zI → Prop} {F9 : zI} {x f : Nat} {t : Nat → Nat} {er : Int32} {S : zS} {U : List zS}{v : Int32}
    (hC : zCl F9 I x t f er S U) (hb : vIdx v (16) = none) (kx : Xp "java/lang/IllegalArgumentException" I) :
    zC l D b0 tA sa sv K yX7_state (.code yX7_state cX7_state 2 (some .int)) zrm_X7_state [vr (x) 7, vi (v)] I Qp Xp := by
  have hR := hC.2.2.1
  have hW := hC.2.2.2.1
  have hg6 := hW.ng.1
  have hc12 := hW.nc.1
  have hf5 := hC.1.2.1
  refine zC_of (by decide +kernel) (Nat.le_of_ble_eq_true rfl) ?_
  intro p e s m args below meth c X hnt
  have X : zX p l e zrm_X7_state s m args below meth c RX7 cX7_state 2 (some .int) D b0 tA sa sv := X
  refine zr_lv (lv2 := [some (vr (x) 7), some (vi (v))]) rfl ?_
  refine zr_iload1 X dX7_state_0 ?_
  refine zr_if_lt (tgt := 10) X dX7_state_1 (by decide) (fun h1 => ?_) (fun h1 => ?_)
  · skip
    refine zr_throwS (i := 35) X hnt zth_iae rfl dX7_state_10 dX7_state_13 dX7_state_14 dX7_state_16 dX7_state_19 ⟨by decide, by decide⟩ (Nat.le_of_ble_eq_true rfl) (by decide) (by decide) ?_
    exact kx
  · skip
    refine zr_iload1 X dX7_state_4 ?_
    refine zr_bipush (v := (16 : Int32)) X dX7_state_5 (by decide) ?_
    refine zr_icmp_lt (tgt := 20) X dX7_state_7 (by decide) (fun h2 => ?_) (fun h2 => ?_)
    · skip
      exact absurd hb (vIdx_in rfl (by assumption) (by assumption))
    · skip
      refine zr_throwS (i := 35) X hnt zth_iae rfl dX7_state_10 dX7_state_13 dX7_state_14 dX7_state_16 dX7_state_19 ⟨by decide, by decide⟩ (Nat.le_of_ble_eq_true rfl) (by decide) (by decide) ?_
      exact kx
def rState (S : zS) (v : Int32) : Nat × Int32 := match vIdx v 16 with | none => (1, 0) | some w => (0, qState S w)
theorem zq_X7_state {l : Launch} {D : va_G} {b0 : Nat} {tA : Nat → ClassId} {sa sv : Nat → Nat} {K : zKt} {I : zI} {Qp : zI → Option AV → Prop} {Xp : String → zI → Prop} {F9 : zI} {x f : Nat} {t : Nat → Nat} {er : Int32} {S : zS} {U : List zS} {v : Int32}
    (hC : zCl F9 I x t f er S U) (k0 : (rState S v).1 = 0 → Qp I (some (vi (rState S v).2))) (kx1 : (rState S v).1 = 1 → Xp "java/lang/IllegalArgumentException" I) :
    zC l D b0 tA sa sv K yX7_state (.code yX7_state cX7_state 2 (some .int)) zrm_X7_state [vr (x) 7, vi (v)] I Qp Xp := by
  unfold rState at k0 kx1
  cases e1 : vIdx v (16) with
  | none => rw [e1] at kx1; exact zx_X7_state hC e1 (kx1 rfl)
  | some w =>
    rw [e1] at k0
    obtain ⟨h1, rfl⟩ := vIdx_some e1
    exact zo_X7_state hC h1 (k0 rfl)
abbrev zrm_X7_gate : Room := { frames := 9, cells := 2, slots := 12, locals := 141 }
set_option maxRecDepth 20000 in
theorem zo_X7_gate {l : Launch} {D : va_G} {b0 : Nat} {tA : Nat → ClassId} {sa sv : Nat → Nat} {K : zKt} {I : zI} {Qp : zI → Option AV → Prop} {Xp : String → zI → Prop} {F9 : zI} {x f : Nat} {t : Nat → Nat} {er : Int32} {S : zS} {U : List zS}{g w : Nat}
    (hC : zCl F9 I x t f er S U) (hg : g < zng S) (hw : w < 9) (k1 : Qp I (some (vi (qGate S g w)))) :
    zC l D b0 tA sa sv K yX7_gate (.code yX7_gate cX7_gate 3 (some .int)) zrm_X7_gate [vr (x) 7, vi ((nI g)), vi ((nI w))] I Qp Xp := by
  have hR := hC.2.2.1
  have hW := hC.2.2.2.1
  have hg6 := hW.ng.1
  have hc12 := hW.nc.1
  have hf5 := hC.1.2.1
  refine zC_of (by decide +kernel) (Nat.le_of_ble_eq_true rfl) ?_
  intro p e s m args below meth c X hnt
  have X : zX p l e zrm_X7_gate s m args below meth c RX7 cX7_gate 3 (some .int) D b0 tA sa sv := X
  refine zr_lv (lv2 := [some (vr (x) 7), some (vi ((nI g))), some (vi ((nI w)))]) rfl ?_
  refine zr_aload0 X dX7_gate_0 ?_
  refine zr_iload1 X dX7_gate_1 ?_
  refine zr_callV1 (rm9 := zrm_X7_requireGate) X hnt zm_X7_95 (by decide) (by decide) (by decide) (Nat.le_of_ble_eq_true rfl) dX7_gate_2 ?_
  refine zo_X7_requireGate hC hg ?_
  refine zr_iload2 X dX7_gate_5 ?_
  refine zr_nif_lt X (w) (tgt := 15) (by omega) dX7_gate_6 (by decide) (fun h => h.elim) (fun _ => ?_)
  refine zr_iload2 X dX7_gate_9 ?_
  refine zr_bipush (v := (9 : Int32)) X dX7_gate_10 (by decide) ?_
  refine zr_nicmp_lt X (w) (9) (tgt := 25) (by omega) (by omega) dX7_gate_12 (by decide) (fun h2 => ?_) (fun h2 => ?_)
  · skip
    refine zr_aload0 X dX7_gate_25 ?_
    refine zr_getR X zf_X7_26 rfl (by decide) (by decide) dX7_gate_26 ?_
    refine zr_getR X zf_X7_98 rfl (by decide) (by decide) dX7_gate_29 ?_
    refine zr_iload1 X dX7_gate_32 ?_
    refine zr_aaldN X rfl rfl (by decide) (show _ < 6 from (by first | assumption | omega)) dX7_gate_33 ?_
    refine zr_iload2 X dX7_gate_34 ?_
    refine zr_callV1 (rm9 := zrm_X1_numberOfGate) X hnt zm_X7_102 (by decide) (by decide) (by decide) (Nat.le_of_ble_eq_true rfl) dX7_gate_35 ?_
    refine zq_X1_numberOfGate (g := g) hR (by omega) (by omega) ?_
    refine zr_iret X (by decide) (by decide) dX7_gate_38 ?_
    exact k1
  · skip
    refine zr_throwS (i := 35) X hnt zth_iae rfl dX7_gate_15 dX7_gate_18 dX7_gate_19 dX7_gate_21 dX7_gate_24 ⟨by decide, by decide⟩ (Nat.le_of_ble_eq_true rfl) (by decide) (by decide) ?_
    exfalso; omega
set_option maxRecDepth 20000 in
theorem zx2_X7_gate {l : Launch} {D : va_G} {b0 : Nat} {tA : Nat → ClassId} {sa sv : Nat → Nat} {K : zKt} {I : zI} {Qp : zI → Option AV → Prop} {Xp : String → zI → Prop} {F9 : zI} {x f : Nat} {t : Nat → Nat} {er : Int32} {S : zS} {U : List zS}{g : Nat} {v : Int32}
    (hC : zCl F9 I x t f er S U) (hg : g < zng S) (hb : vIdx v (9) = none) (kx : Xp "java/lang/IllegalArgumentException" I) :
    zC l D b0 tA sa sv K yX7_gate (.code yX7_gate cX7_gate 3 (some .int)) zrm_X7_gate [vr (x) 7, vi ((nI g)), vi (v)] I Qp Xp := by
  have hR := hC.2.2.1
  have hW := hC.2.2.2.1
  have hg6 := hW.ng.1
  have hc12 := hW.nc.1
  have hf5 := hC.1.2.1
  refine zC_of (by decide +kernel) (Nat.le_of_ble_eq_true rfl) ?_
  intro p e s m args below meth c X hnt
  have X : zX p l e zrm_X7_gate s m args below meth c RX7 cX7_gate 3 (some .int) D b0 tA sa sv := X
  refine zr_lv (lv2 := [some (vr (x) 7), some (vi ((nI g))), some (vi (v))]) rfl ?_
  refine zr_aload0 X dX7_gate_0 ?_
  refine zr_iload1 X dX7_gate_1 ?_
  refine zr_callV1 (rm9 := zrm_X7_requireGate) X hnt zm_X7_95 (by decide) (by decide) (by decide) (Nat.le_of_ble_eq_true rfl) dX7_gate_2 ?_
  refine zo_X7_requireGate hC hg ?_
  refine zr_iload2 X dX7_gate_5 ?_
  refine zr_if_lt (tgt := 15) X dX7_gate_6 (by decide) (fun h1 => ?_) (fun h1 => ?_)
  · skip
    refine zr_throwS (i := 35) X hnt zth_iae rfl dX7_gate_15 dX7_gate_18 dX7_gate_19 dX7_gate_21 dX7_gate_24 ⟨by decide, by decide⟩ (Nat.le_of_ble_eq_true rfl) (by decide) (by decide) ?_
    exact kx
  · skip
    refine zr_iload2 X dX7_gate_9 ?_
    refine zr_bipush (v := (9 : Int32)) X dX7_gate_10 (by decide) ?_
    refine zr_icmp_lt (tgt := 25) X dX7_gate_12 (by decide) (fun h2 => ?_) (fun h2 => ?_)
    · skip
      exact absurd hb (vIdx_in rfl (by assumption) (by assumption))
    · skip
      refine zr_throwS (i := 35) X hnt zth_iae rfl dX7_gate_15 dX7_gate_18 dX7_gate_19 dX7_gate_21 dX7_gate_24 ⟨by decide, by decide⟩ (Nat.le_of_ble_eq_true rfl) (by decide) (by decide) ?_
      exact kx
set_option maxRecDepth 20000 in
theorem zx1_X7_gate {l : Launch} {D : va_G} {b0 : Nat} {tA : Nat → ClassId} {sa sv : Nat → Nat} {K : zKt} {I : zI} {Qp : zI → Option AV → Prop} {Xp : String → zI → Prop} {F9 : zI} {x f : Nat} {t : Nat → Nat} {er : Int32} {S : zS} {U : List zS}{u v : Int32}
    (hC : zCl F9 I x t f er S U) (hb : vIdx u (zng S) = none) (kx : Xp "java/lang/IndexOutOfBoundsException" I) :
    zC l D b0 tA sa sv K yX7_gate (.code yX7_gate cX7_gate 3 (some .int)) zrm_X7_gate [vr (x) 7, vi (u), vi (v)] I Qp Xp := by
  have hR := hC.2.2.1
  have hW := hC.2.2.2.1
  have hg6 := hW.ng.1
  have hc12 := hW.nc.1
  have hf5 := hC.1.2.1
  refine zC_of (by decide +kernel) (Nat.le_of_ble_eq_true rfl) ?_
  intro p e s m args below meth c X hnt
  have X : zX p l e zrm_X7_gate s m args below meth c RX7 cX7_gate 3 (some .int) D b0 tA sa sv := X
  refine zr_lv (lv2 := [some (vr (x) 7), some (vi (u)), some (vi (v))]) rfl ?_
  refine zr_aload0 X dX7_gate_0 ?_
  refine zr_iload1 X dX7_gate_1 ?_
  refine zr_callV1 (rm9 := zrm_X7_requireGate) X hnt zm_X7_95 (by decide) (by decide) (by decide) (Nat.le_of_ble_eq_true rfl) dX7_gate_2 ?_
  exact zx_X7_requireGate hC hb kx
def rGate (S : zS) (u v : Int32) : Nat × Int32 := match vIdx u (zng S) with | none => (1, 0) | some g => match vIdx v 9 with | none => (2, 0) | some w => (0, qGate S g w)
theorem zq_X7_gate {l : Launch} {D : va_G} {b0 : Nat} {tA : Nat → ClassId} {sa sv : Nat → Nat} {K : zKt} {I : zI} {Qp : zI → Option AV → Prop} {Xp : String → zI → Prop} {F9 : zI} {x f : Nat} {t : Nat → Nat} {er : Int32} {S : zS} {U : List zS} {u v : Int32}
    (hC : zCl F9 I x t f er S U) (k0 : (rGate S u v).1 = 0 → Qp I (some (vi (rGate S u v).2))) (kx1 : (rGate S u v).1 = 1 → Xp "java/lang/IndexOutOfBoundsException" I) (kx2 : (rGate S u v).1 = 2 → Xp "java/lang/IllegalArgumentException" I) :
    zC l D b0 tA sa sv K yX7_gate (.code yX7_gate cX7_gate 3 (some .int)) zrm_X7_gate [vr (x) 7, vi (u), vi (v)] I Qp Xp := by
  unfold rGate at k0 kx1 kx2
  cases e1 : vIdx u (zng S) with
  | none => rw [e1] at kx1; exact zx1_X7_gate hC e1 (kx1 rfl)
  | some g =>
    rw [e1] at k0 kx2
    obtain ⟨h1, rfl⟩ := vIdx_some e1
    cases e2 : vIdx v (9) with
    | none => simp only [e2] at kx2; exact zx2_X7_gate hC h1 e2 (kx2 (by first | rfl | trivial))
    | some w =>
      simp only [e2] at k0
      obtain ⟨h2, rfl⟩ := vIdx_some e2
      exact zo_X7_gate hC h1 h2 (k0 (by first | rfl | trivial))
abbrev zrm_X7_card : Room := { frames := 9, cells := 2, slots := 12, locals := 141 }
set_option maxRecDepth 20000 in
theorem zo_X7_card {l : Launch} {D : va_G} {b0 : Nat} {tA : Nat → ClassId} {sa sv : Nat → Nat} {K : zKt} {I : zI} {Qp : zI → Option AV → Prop} {Xp : String → zI → Prop} {F9 : zI} {x f : Nat} {t : Nat → Nat} {er : Int32} {S : zS} {U : List zS}{c9 w : Nat}
    (hC : zCl F9 I x t f er S U) (hc : c9 < znc S) (hw : w < 7) (k1 : Qp I (some (vi (qCard S c9 w)))) :
    zC l D b0 tA sa sv K yX7_card (.code yX7_card cX7_card 3 (some .int)) zrm_X7_card [vr (x) 7, vi ((nI c9)), vi ((nI w))] I Qp Xp := by
  have hR := hC.2.2.1
  have hW := hC.2.2.2.1
  have hg6 := hW.ng.1
  have hc12 := hW.nc.1
  have hf5 := hC.1.2.1
  refine zC_of (by decide +kernel) (Nat.le_of_ble_eq_true rfl) ?_
  intro p e s m args below meth c X hnt
  have X : zX p l e zrm_X7_card s m args below meth c RX7 cX7_card 3 (some .int) D b0 tA sa sv := X
  refine zr_lv (lv2 := [some (vr (x) 7), some (vi ((nI c9))), some (vi ((nI w)))]) rfl ?_
  refine zr_aload0 X dX7_card_0 ?_
  refine zr_iload1 X dX7_card_1 ?_
  refine zr_callV1 (rm9 := zrm_X7_requireCard) X hnt zm_X7_107 (by decide) (by decide) (by decide) (Nat.le_of_ble_eq_true rfl) dX7_card_2 ?_
  refine zo_X7_requireCard hC hc ?_
  refine zr_iload2 X dX7_card_5 ?_
  refine zr_nif_lt X (w) (tgt := 15) (by omega) dX7_card_6 (by decide) (fun h => h.elim) (fun _ => ?_)
  refine zr_iload2 X dX7_card_9 ?_
  refine zr_bipush (v := (7 : Int32)) X dX7_card_10 (by decide) ?_
  refine zr_nicmp_lt X (w) (7) (tgt := 25) (by omega) (by omega) dX7_card_12 (by decide) (fun h2 => ?_) (fun h2 => ?_)
  · skip
    refine zr_aload0 X dX7_card_25 ?_
    refine zr_getR X zf_X7_26 rfl (by decide) (by decide) dX7_card_26 ?_
    refine zr_iload1 X dX7_card_29 ?_
    refine zr_iload2 X dX7_card_30 ?_
    refine zr_callV2 (rm9 := zrm_X5_numberOfCard) X hnt zm_X7_110 (by decide) (by decide) (by decide) (Nat.le_of_ble_eq_true rfl) dX7_card_31 ?_
    refine zq_X5_numberOfCard hR hW hc (by omega) ?_
    refine zr_iret X (by decide) (by decide) dX7_card_34 ?_
    exact k1
  · skip
    refine zr_throwS (i := 35) X hnt zth_iae rfl dX7_card_15 dX7_card_18 dX7_card_19 dX7_card_21 dX7_card_24 ⟨by decide, by decide⟩ (Nat.le_of_ble_eq_true rfl) (by decide) (by decide) ?_
    exfalso; omega
set_option maxRecDepth 20000 in
theorem zx2_X7_card {l : Launch} {D : va_G} {b0 : Nat} {tA : Nat → ClassId} {sa sv : Nat → Nat} {K : zKt} {I : zI} {Qp : zI → Option AV → Prop} {Xp : String → zI → Prop} {F9 : zI} {x f : Nat} {t : Nat → Nat} {er : Int32} {S : zS} {U : List zS}{c9 : Nat} {v : Int32}
    (hC : zCl F9 I x t f er S U) (hc : c9 < znc S) (hb : vIdx v (7) = none) (kx : Xp "java/lang/IllegalArgumentException" I) :
    zC l D b0 tA sa sv K yX7_card (.code yX7_card cX7_card 3 (some .int)) zrm_X7_card [vr (x) 7, vi ((nI c9)), vi (v)] I Qp Xp := by
  have hR := hC.2.2.1
  have hW := hC.2.2.2.1
  have hg6 := hW.ng.1
  have hc12 := hW.nc.1
  have hf5 := hC.1.2.1
  refine zC_of (by decide +kernel) (Nat.le_of_ble_eq_true rfl) ?_
  intro p e s m args below meth c X hnt
  have X : zX p l e zrm_X7_card s m args below meth c RX7 cX7_card 3 (some .int) D b0 tA sa sv := X
  refine zr_lv (lv2 := [some (vr (x) 7), some (vi ((nI c9))), some (vi (v))]) rfl ?_
  refine zr_aload0 X dX7_card_0 ?_
  refine zr_iload1 X dX7_card_1 ?_
  refine zr_callV1 (rm9 := zrm_X7_requireCard) X hnt zm_X7_107 (by decide) (by decide) (by decide) (Nat.le_of_ble_eq_true rfl) dX7_card_2 ?_
  refine zo_X7_requireCard hC hc ?_
  refine zr_iload2 X dX7_card_5 ?_
  refine zr_if_lt (tgt := 15) X dX7_card_6 (by decide) (fun h1 => ?_) (fun h1 => ?_)
  · skip
    refine zr_throwS (i := 35) X hnt zth_iae rfl dX7_card_15 dX7_card_18 dX7_card_19 dX7_card_21 dX7_card_24 ⟨by decide, by decide⟩ (Nat.le_of_ble_eq_true rfl) (by decide) (by decide) ?_
    exact kx
  · skip
    refine zr_iload2 X dX7_card_9 ?_
    refine zr_bipush (v := (7 : Int32)) X dX7_card_10 (by decide) ?_
    refine zr_icmp_lt (tgt := 25) X dX7_card_12 (by decide) (fun h2 => ?_) (fun h2 => ?_)
    · skip
      exact absurd hb (vIdx_in rfl (by assumption) (by assumption))
    · skip
      refine zr_throwS (i := 35) X hnt zth_iae rfl dX7_card_15 dX7_card_18 dX7_card_19 dX7_card_21 dX7_card_24 ⟨by decide, by decide⟩ (Nat.le_of_ble_eq_true rfl) (by decide) (by decide) ?_
      exact kx
set_option maxRecDepth 20000 in
theorem zx1_X7_card {l : Launch} {D : va_G} {b0 : Nat} {tA : Nat → ClassId} {sa sv : Nat → Nat} {K : zKt} {I : zI} {Qp : zI → Option AV → Prop} {Xp : String → zI → Prop} {F9 : zI} {x f : Nat} {t : Nat → Nat} {er : Int32} {S : zS} {U : List zS}{u v : Int32}
    (hC : zCl F9 I x t f er S U) (hb : vIdx u (znc S) = none) (kx : Xp "java/lang/IndexOutOfBoundsException" I) :
    zC l D b0 tA sa sv K yX7_card (.code yX7_card cX7_card 3 (some .int)) zrm_X7_card [vr (x) 7, vi (u), vi (v)] I Qp Xp := by
  have hR := hC.2.2.1
  have hW := hC.2.2.2.1
  have hg6 := hW.ng.1
  have hc12 := hW.nc.1
  have hf5 := hC.1.2.1
  refine zC_of (by decide +kernel) (Nat.le_of_ble_eq_true rfl) ?_
  intro p e s m args below meth c X hnt
  have X : zX p l e zrm_X7_card s m args below meth c RX7 cX7_card 3 (some .int) D b0 tA sa sv := X
  refine zr_lv (lv2 := [some (vr (x) 7), some (vi (u)), some (vi (v))]) rfl ?_
  refine zr_aload0 X dX7_card_0 ?_
  refine zr_iload1 X dX7_card_1 ?_
  refine zr_callV1 (rm9 := zrm_X7_requireCard) X hnt zm_X7_107 (by decide) (by decide) (by decide) (Nat.le_of_ble_eq_true rfl) dX7_card_2 ?_
  exact zx_X7_requireCard hC hb kx
def rCard (S : zS) (u v : Int32) : Nat × Int32 := match vIdx u (znc S) with | none => (1, 0) | some g => match vIdx v 7 with | none => (2, 0) | some w => (0, qCard S g w)
theorem zq_X7_card {l : Launch} {D : va_G} {b0 : Nat} {tA : Nat → ClassId} {sa sv : Nat → Nat} {K : zKt} {I : zI} {Qp : zI → Option AV → Prop} {Xp : String → zI → Prop} {F9 : zI} {x f : Nat} {t : Nat → Nat} {er : Int32} {S : zS} {U : List zS} {u v : Int32}
    (hC : zCl F9 I x t f er S U) (k0 : (rCard S u v).1 = 0 → Qp I (some (vi (rCard S u v).2))) (kx1 : (rCard S u v).1 = 1 → Xp "java/lang/IndexOutOfBoundsException" I) (kx2 : (rCard S u v).1 = 2 → Xp "java/lang/IllegalArgumentException" I) :
    zC l D b0 tA sa sv K yX7_card (.code yX7_card cX7_card 3 (some .int)) zrm_X7_card [vr (x) 7, vi (u), vi (v)] I Qp Xp := by
  unfold rCard at k0 kx1 kx2
  cases e1 : vIdx u (znc S) with
  | none => rw [e1] at kx1; exact zx1_X7_card hC e1 (kx1 rfl)
  | some g =>
    rw [e1] at k0 kx2
    obtain ⟨h1, rfl⟩ := vIdx_some e1
    cases e2 : vIdx v (7) with
    | none => simp only [e2] at kx2; exact zx2_X7_card hC h1 e2 (kx2 (by first | rfl | trivial))
    | some w =>
      simp only [e2] at k0
      obtain ⟨h2, rfl⟩ := vIdx_some e2
      exact zo_X7_card hC h1 h2 (k0 (by first | rfl | trivial))
abbrev zrm_X7_why : Room := { frames := 9, cells := 2, slots := 12, locals := 141 }
set_option maxRecDepth 20000 in
theorem zo_X7_why {l : Launch} {D : va_G} {b0 : Nat} {tA : Nat → ClassId} {sa sv : Nat → Nat} {K : zKt} {I : zI} {Qp : zI → Option AV → Prop} {Xp : String → zI → Prop} {F9 : zI} {x f : Nat} {t : Nat → Nat} {er : Int32} {S : zS} {U : List zS}{c9 s9 : Nat}
    (hC : zCl F9 I x t f er S U) (hc : c9 < znc S) (hs : s9 < 2) (k1 : Qp I (some (vi (nI (qRef S c9 s9))))) :
    zC l D b0 tA sa sv K yX7_why (.code yX7_why cX7_why 3 (some .int)) zrm_X7_why [vr (x) 7, vi ((nI c9)), vi ((nI s9))] I Qp Xp := by
  have hR := hC.2.2.1
  have hW := hC.2.2.2.1
  have hg6 := hW.ng.1
  have hc12 := hW.nc.1
  have hf5 := hC.1.2.1
  refine zC_of (by decide +kernel) (Nat.le_of_ble_eq_true rfl) ?_
  intro p e s m args below meth c X hnt
  have X : zX p l e zrm_X7_why s m args below meth c RX7 cX7_why 3 (some .int) D b0 tA sa sv := X
  refine zr_lv (lv2 := [some (vr (x) 7), some (vi ((nI c9))), some (vi ((nI s9)))]) rfl ?_
  refine zr_aload0 X dX7_why_0 ?_
  refine zr_iload1 X dX7_why_1 ?_
  refine zr_callV1 (rm9 := zrm_X7_requireCard) X hnt zm_X7_107 (by decide) (by decide) (by decide) (Nat.le_of_ble_eq_true rfl) dX7_why_2 ?_
  refine zo_X7_requireCard hC hc ?_
  refine zr_iload2 X dX7_why_5 ?_
  refine zr_callS1 (rm9 := zrm_X7_requireSide) X hnt zm_X7_114 (by decide) (by decide) (by decide) (Nat.le_of_ble_eq_true rfl) dX7_why_6 ?_
  refine zo_X7_requireSide hs ?_
  refine zr_aload0 X dX7_why_9 ?_
  refine zr_getR X zf_X7_26 rfl (by decide) (by decide) dX7_why_10 ?_
  refine zr_getR X zf_X7_135 rfl (by decide) (by decide) dX7_why_13 ?_
  refine zr_iload1 X dX7_why_16 ?_
  refine zr_aaldN X rfl rfl (by decide) (show _ < 12 from (by first | assumption | omega)) dX7_why_17 ?_
  refine zr_iload2 X dX7_why_18 ?_
  refine zr_callV1 (rm9 := zrm_X0_reasonAgainst) X hnt zm_X7_139 (by decide) (by decide) (by decide) (Nat.le_of_ble_eq_true rfl) dX7_why_19 ?_
  refine zn_X0_reasonAgainst (s9 := s9) hR (by omega) hs (hW.bits _) ?_
  refine zr_iret X (by decide) (by decide) dX7_why_22 ?_
  exact k1
set_option maxRecDepth 20000 in
theorem zx2_X7_why {l : Launch} {D : va_G} {b0 : Nat} {tA : Nat → ClassId} {sa sv : Nat → Nat} {K : zKt} {I : zI} {Qp : zI → Option AV → Prop} {Xp : String → zI → Prop} {F9 : zI} {x f : Nat} {t : Nat → Nat} {er : Int32} {S : zS} {U : List zS}{c9 : Nat} {v : Int32}
    (hC : zCl F9 I x t f er S U) (hc : c9 < znc S) (hb : vIdx v (2) = none) (kx : Xp "java/lang/IllegalArgumentException" I) :
    zC l D b0 tA sa sv K yX7_why (.code yX7_why cX7_why 3 (some .int)) zrm_X7_why [vr (x) 7, vi ((nI c9)), vi (v)] I Qp Xp := by
  have hR := hC.2.2.1
  have hW := hC.2.2.2.1
  have hg6 := hW.ng.1
  have hc12 := hW.nc.1
  have hf5 := hC.1.2.1
  refine zC_of (by decide +kernel) (Nat.le_of_ble_eq_true rfl) ?_
  intro p e s m args below meth c X hnt
  have X : zX p l e zrm_X7_why s m args below meth c RX7 cX7_why 3 (some .int) D b0 tA sa sv := X
  refine zr_lv (lv2 := [some (vr (x) 7), some (vi ((nI c9))), some (vi (v))]) rfl ?_
  refine zr_aload0 X dX7_why_0 ?_
  refine zr_iload1 X dX7_why_1 ?_
  refine zr_callV1 (rm9 := zrm_X7_requireCard) X hnt zm_X7_107 (by decide) (by decide) (by decide) (Nat.le_of_ble_eq_true rfl) dX7_why_2 ?_
  refine zo_X7_requireCard hC hc ?_
  refine zr_iload2 X dX7_why_5 ?_
  refine zr_callS1 (rm9 := zrm_X7_requireSide) X hnt zm_X7_114 (by decide) (by decide) (by decide) (Nat.le_of_ble_eq_true rfl) dX7_why_6 ?_
  exact zx_X7_requireSide hb kx
set_option maxRecDepth 20000 in
theorem zx1_X7_why {l : Launch} {D : va_G} {b0 : Nat} {tA : Nat → ClassId} {sa sv : Nat → Nat} {K : zKt} {I : zI} {Qp : zI → Option AV → Prop} {Xp : String → zI → Prop} {F9 : zI} {x f : Nat} {t : Nat → Nat} {er : Int32} {S : zS} {U : List zS}{u v : Int32}
    (hC : zCl F9 I x t f er S U) (hb : vIdx u (znc S) = none) (kx : Xp "java/lang/IndexOutOfBoundsException" I) :
    zC l D b0 tA sa sv K yX7_why (.code yX7_why cX7_why 3 (some .int)) zrm_X7_why [vr (x) 7, vi (u), vi (v)] I Qp Xp := by
  have hR := hC.2.2.1
  have hW := hC.2.2.2.1
  have hg6 := hW.ng.1
  have hc12 := hW.nc.1
  have hf5 := hC.1.2.1
  refine zC_of (by decide +kernel) (Nat.le_of_ble_eq_true rfl) ?_
  intro p e s m args below meth c X hnt
  have X : zX p l e zrm_X7_why s m args below meth c RX7 cX7_why 3 (some .int) D b0 tA sa sv := X
  refine zr_lv (lv2 := [some (vr (x) 7), some (vi (u)), some (vi (v))]) rfl ?_
  refine zr_aload0 X dX7_why_0 ?_
  refine zr_iload1 X dX7_why_1 ?_
  refine zr_callV1 (rm9 := zrm_X7_requireCard) X hnt zm_X7_107 (by decide) (by decide) (by decide) (Nat.le_of_ble_eq_true rfl) dX7_why_2 ?_
  exact zx_X7_requireCard hC hb kx
def rWhy (S : zS) (u v : Int32) : Nat × Int32 := match vIdx u (znc S) with | none => (1, 0) | some g => match vIdx v 2 with | none => (2, 0) | some w => (0, nI (qRef S g w))
theorem zq_X7_why {l : Launch} {D : va_G} {b0 : Nat} {tA : Nat → ClassId} {sa sv : Nat → Nat} {K : zKt} {I : zI} {Qp : zI → Option AV → Prop} {Xp : String → zI → Prop} {F9 : zI} {x f : Nat} {t : Nat → Nat} {er : Int32} {S : zS} {U : List zS} {u v : Int32}
    (hC : zCl F9 I x t f er S U) (k0 : (rWhy S u v).1 = 0 → Qp I (some (vi (rWhy S u v).2))) (kx1 : (rWhy S u v).1 = 1 → Xp "java/lang/IndexOutOfBoundsException" I) (kx2 : (rWhy S u v).1 = 2 → Xp "java/lang/IllegalArgumentException" I) :
    zC l D b0 tA sa sv K yX7_why (.code yX7_why cX7_why 3 (some .int)) zrm_X7_why [vr (x) 7, vi (u), vi (v)] I Qp Xp := by
  unfold rWhy at k0 kx1 kx2
  cases e1 : vIdx u (znc S) with
  | none => rw [e1] at kx1; exact zx1_X7_why hC e1 (kx1 rfl)
  | some g =>
    rw [e1] at k0 kx2
    obtain ⟨h1, rfl⟩ := vIdx_some e1
    cases e2 : vIdx v (2) with
    | none => simp only [e2] at kx2; exact zx2_X7_why hC h1 e2 (kx2 (by first | rfl | trivial))
    | some w =>
      simp only [e2] at k0
      obtain ⟨h2, rfl⟩ := vIdx_some e2
      exact zo_X7_why hC h1 h2 (k0 (by first | rfl | trivial))
abbrev zrm_X7_nextSide : Room := { frames := 9, cells := 1, slots := 6, locals := 141 }
set_option maxRecDepth 20000 in
theorem zo_X7_nextSide {l : Launch} {D : va_G} {b0 : Nat} {tA : Nat → ClassId} {sa sv : Nat → Nat} {K : zKt} {I : zI} {Qp : zI → Option AV → Prop} {Xp : String → zI → Prop} {F9 : zI} {x f : Nat} {t : Nat → Nat} {er : Int32} {S : zS} {U : List zS}{g : Nat}
    (hC : zCl F9 I x t f er S U) (hg : g < zng S) (k1 : Qp I (some (vi (nI (qTurn S g))))) :
    zC l D b0 tA sa sv K yX7_nextSide (.code yX7_nextSide cX7_nextSide 2 (some .int)) zrm_X7_nextSide [vr (x) 7, vi ((nI g))] I Qp Xp := by
  have hR := hC.2.2.1
  have hW := hC.2.2.2.1
  have hg6 := hW.ng.1
  have hc12 := hW.nc.1
  have hf5 := hC.1.2.1
  refine zC_of (by decide +kernel) (Nat.le_of_ble_eq_true rfl) ?_
  intro p e s m args below meth c X hnt
  have X : zX p l e zrm_X7_nextSide s m args below meth c RX7 cX7_nextSide 2 (some .int) D b0 tA sa sv := X
  refine zr_lv (lv2 := [some (vr (x) 7), some (vi ((nI g)))]) rfl ?_
  refine zr_aload0 X dX7_nextSide_0 ?_
  refine zr_iload1 X dX7_nextSide_1 ?_
  refine zr_callV1 (rm9 := zrm_X7_requireGate) X hnt zm_X7_95 (by decide) (by decide) (by decide) (Nat.le_of_ble_eq_true rfl) dX7_nextSide_2 ?_
  refine zo_X7_requireGate hC hg ?_
  refine zr_aload0 X dX7_nextSide_5 ?_
  refine zr_getR X zf_X7_26 rfl (by decide) (by decide) dX7_nextSide_6 ?_
  refine zr_getR X zf_X7_98 rfl (by decide) (by decide) dX7_nextSide_9 ?_
  refine zr_iload1 X dX7_nextSide_12 ?_
  refine zr_aaldN X rfl rfl (by decide) (show _ < 6 from (by first | assumption | omega)) dX7_nextSide_13 ?_
  refine zr_callV0 (rm9 := zrm_X1_sideServedNext) X hnt zm_X7_157 (by decide) (by decide) (by decide) (Nat.le_of_ble_eq_true rfl) dX7_nextSide_14 ?_
  refine zn_X1_sideServedNext (x := (nI (qTurn S g))) hR (by omega) rfl ?_
  refine zr_iret X (by decide) (by decide) dX7_nextSide_17 ?_
  exact k1
set_option maxRecDepth 20000 in
theorem zx_X7_nextSide {l : Launch} {D : va_G} {b0 : Nat} {tA : Nat → ClassId} {sa sv : Nat → Nat} {K : zKt} {I : zI} {Qp : zI → Option AV → Prop} {Xp : String → zI → Prop} {F9 : zI} {x f : Nat} {t : Nat → Nat} {er : Int32} {S : zS} {U : List zS}{u : Int32}
    (hC : zCl F9 I x t f er S U) (hb : vIdx u (zng S) = none) (kx : Xp "java/lang/IndexOutOfBoundsException" I) :
    zC l D b0 tA sa sv K yX7_nextSide (.code yX7_nextSide cX7_nextSide 2 (some .int)) zrm_X7_nextSide [vr (x) 7, vi (u)] I Qp Xp := by
  have hR := hC.2.2.1
  have hW := hC.2.2.2.1
  have hg6 := hW.ng.1
  have hc12 := hW.nc.1
  have hf5 := hC.1.2.1
  refine zC_of (by decide +kernel) (Nat.le_of_ble_eq_true rfl) ?_
  intro p e s m args below meth c X hnt
  have X : zX p l e zrm_X7_nextSide s m args below meth c RX7 cX7_nextSide 2 (some .int) D b0 tA sa sv := X
  refine zr_lv (lv2 := [some (vr (x) 7), some (vi (u))]) rfl ?_
  refine zr_aload0 X dX7_nextSide_0 ?_
  refine zr_iload1 X dX7_nextSide_1 ?_
  refine zr_callV1 (rm9 := zrm_X7_requireGate) X hnt zm_X7_95 (by decide) (by decide) (by decide) (Nat.le_of_ble_eq_true rfl) dX7_nextSide_2 ?_
  exact zx_X7_requireGate hC hb kx
def rNext (S : zS) (u : Int32) : Nat × Int32 := match vIdx u (zng S) with | none => (1, 0) | some g => (0, nI (qTurn S g))
theorem zq_X7_nextSide {l : Launch} {D : va_G} {b0 : Nat} {tA : Nat → ClassId} {sa sv : Nat → Nat} {K : zKt} {I : zI} {Qp : zI → Option AV → Prop} {Xp : String → zI → Prop} {F9 : zI} {x f : Nat} {t : Nat → Nat} {er : Int32} {S : zS} {U : List zS} {u : Int32}
    (hC : zCl F9 I x t f er S U) (k0 : (rNext S u).1 = 0 → Qp I (some (vi (rNext S u).2))) (kx1 : (rNext S u).1 = 1 → Xp "java/lang/IndexOutOfBoundsException" I) :
    zC l D b0 tA sa sv K yX7_nextSide (.code yX7_nextSide cX7_nextSide 2 (some .int)) zrm_X7_nextSide [vr (x) 7, vi (u)] I Qp Xp := by
  unfold rNext at k0 kx1
  cases e1 : vIdx u (zng S) with
  | none => rw [e1] at kx1; exact zx_X7_nextSide hC e1 (kx1 rfl)
  | some g =>
    rw [e1] at k0
    obtain ⟨h1, rfl⟩ := vIdx_some e1
    exact zo_X7_nextSide hC h1 (k0 rfl)
abbrev zrm_X7_errorOffset : Room := { frames := 0, cells := 0, slots := 0, locals := 0 }
set_option maxRecDepth 20000 in
theorem zq_X7_errorOffset {l : Launch} {D : va_G} {b0 : Nat} {tA : Nat → ClassId} {sa sv : Nat → Nat} {K : zKt} {I : zI} {Qp : zI → Option AV → Prop} {Xp : String → zI → Prop} {F9 : zI} {x f : Nat} {t : Nat → Nat} {er : Int32} {S : zS} {U : List zS}
    (hC : zCl F9 I x t f er S U) (k1 : Qp I (some (vi (er)))) :
    zC l D b0 tA sa sv K yX7_errorOffset (.code yX7_errorOffset cX7_errorOffset 1 (some .int)) zrm_X7_errorOffset [vr (x) 7] I Qp Xp := by
  have hR := hC.2.2.1
  have hW := hC.2.2.2.1
  have hg6 := hW.ng.1
  have hc12 := hW.nc.1
  have hf5 := hC.1.2.1
  refine zC_of (by decide +kernel) (Nat.le_of_ble_eq_true rfl) ?_
  intro p e s m args below meth c X hnt
  have X : zX p l e zrm_X7_errorOffset s m args below meth c RX7 cX7_errorOffset 1 (some .int) D b0 tA sa sv := X
  refine zr_lv (lv2 := [some (vr (x) 7)]) rfl ?_
  refine zr_aload0 X dX7_errorOffset_0 ?_
  refine zr_getI X zf_X7_43 rfl dX7_errorOffset_1 ?_
  refine zr_eq (x2 := er) (hC.2.1) ?_
  refine zr_iret X (by decide) (by decide) dX7_errorOffset_4 ?_
  exact k1
abbrev zrm_X7_inLine : Room := { frames := 9, cells := 3, slots := 18, locals := 141 }
set_option maxRecDepth 20000 in
theorem zo_X7_inLine {l : Launch} {D : va_G} {b0 : Nat} {tA : Nat → ClassId} {sa sv : Nat → Nat} {K : zKt} {I : zI} {Qp : zI → Option AV → Prop} {Xp : String → zI → Prop} {F9 : zI} {x f : Nat} {t : Nat → Nat} {er : Int32} {S : zS} {U : List zS}{g s9 p9 : Nat}
    (hC : zCl F9 I x t f er S U) (hg : g < zng S) (hs : s9 < 2) (hp : p9 < (sL S g s9).length) (k1 : Qp I (some (vi (nI ((sL S g s9).getD p9 0) - 1)))) :
    zC l D b0 tA sa sv K yX7_inLine (.code yX7_inLine cX7_inLine 5 (some .int)) zrm_X7_inLine [vr (x) 7, vi ((nI g)), vi ((nI s9)), vi ((nI p9))] I Qp Xp := by
  have hR := hC.2.2.1
  have hW := hC.2.2.2.1
  have hg6 := hW.ng.1
  have hc12 := hW.nc.1
  have hf5 := hC.1.2.1
  refine zC_of (by decide +kernel) (Nat.le_of_ble_eq_true rfl) ?_
  intro p e s m args below meth c X hnt
  have X : zX p l e zrm_X7_inLine s m args below meth c RX7 cX7_inLine 5 (some .int) D b0 tA sa sv := X
  refine zr_lv (lv2 := [some (vr (x) 7), some (vi ((nI g))), some (vi ((nI s9))), some (vi ((nI p9))), none]) rfl ?_
  refine zr_aload0 X dX7_inLine_0 ?_
  refine zr_iload1 X dX7_inLine_1 ?_
  refine zr_callV1 (rm9 := zrm_X7_requireGate) X hnt zm_X7_95 (by decide) (by decide) (by decide) (Nat.le_of_ble_eq_true rfl) dX7_inLine_2 ?_
  refine zo_X7_requireGate hC hg ?_
  refine zr_iload2 X dX7_inLine_5 ?_
  refine zr_callS1 (rm9 := zrm_X7_requireSide) X hnt zm_X7_114 (by decide) (by decide) (by decide) (Nat.le_of_ble_eq_true rfl) dX7_inLine_6 ?_
  refine zo_X7_requireSide hs ?_
  refine zr_aload0 X dX7_inLine_9 ?_
  refine zr_getR X zf_X7_26 rfl (by decide) (by decide) dX7_inLine_10 ?_
  refine zr_getR X zf_X7_98 rfl (by decide) (by decide) dX7_inLine_13 ?_
  refine zr_iload1 X dX7_inLine_16 ?_
  refine zr_aaldN X rfl rfl (by decide) (show _ < 6 from (by first | assumption | omega)) dX7_inLine_17 ?_
  refine zr_iload2 X dX7_inLine_18 ?_
  refine zr_callV1 (rm9 := zrm_X1_lineOn) X hnt zm_X7_117 (by decide) (by decide) (by decide) (Nat.le_of_ble_eq_true rfl) dX7_inLine_19 ?_
  refine zn_X1_lineOn (s9) (by omega) (fun hs1 => ?_) (fun hs1 => ?_)
  · skip
    refine zr_astore4 X (by decide) rfl dX7_inLine_22 ?_
    refine zr_aload4 X dX7_inLine_24 ?_
    refine zr_iload3 X dX7_inLine_26 ?_
    refine zr_callV1 (rm9 := zrm_X4_hasPlace) X hnt zm_X7_121 (by decide) (by decide) (by decide) (Nat.le_of_ble_eq_true rfl) dX7_inLine_27 ?_
    refine zn_X4_hasPlace (w := (sL S g 0)) (hR.2.2.1 g (by omega)).2.1 (fun _ _ _ => ?_) (fun h => absurd rfl (h p9 (by subst_vars; exact hp)))
    refine zr_if_ne (tgt := 43) X dX7_inLine_30 (by decide) (fun _ => ?_) (fun h => absurd h (by decide))
    refine zr_aload4 X dX7_inLine_43 ?_
    refine zr_iload3 X dX7_inLine_45 ?_
    refine zr_callV1 (rm9 := zrm_X4_cardAt) X hnt zm_X7_132 (by decide) (by decide) (by decide) (Nat.le_of_ble_eq_true rfl) dX7_inLine_46 ?_
    refine zm_X4_cardAt (w := (sL S g 0)) (hR.2.2.1 g (by omega)).2.1 (by subst_vars; exact hp) ?_
    refine zr_iret X (by decide) (by decide) dX7_inLine_49 ?_
    subst_vars; exact k1
  · skip
    refine zr_astore4 X (by decide) rfl dX7_inLine_22 ?_
    refine zr_aload4 X dX7_inLine_24 ?_
    refine zr_iload3 X dX7_inLine_26 ?_
    refine zr_callV1 (rm9 := zrm_X4_hasPlace) X hnt zm_X7_121 (by decide) (by decide) (by decide) (Nat.le_of_ble_eq_true rfl) dX7_inLine_27 ?_
    refine zn_X4_hasPlace (w := (sL S g 1)) (hR.2.2.1 g (by omega)).2.2 (fun _ _ _ => ?_) (fun h => absurd rfl (h p9 (by subst_vars; exact hp)))
    refine zr_if_ne (tgt := 43) X dX7_inLine_30 (by decide) (fun _ => ?_) (fun h => absurd h (by decide))
    refine zr_aload4 X dX7_inLine_43 ?_
    refine zr_iload3 X dX7_inLine_45 ?_
    refine zr_callV1 (rm9 := zrm_X4_cardAt) X hnt zm_X7_132 (by decide) (by decide) (by decide) (Nat.le_of_ble_eq_true rfl) dX7_inLine_46 ?_
    refine zm_X4_cardAt (w := (sL S g 1)) (hR.2.2.1 g (by omega)).2.2 (by subst_vars; exact hp) ?_
    refine zr_iret X (by decide) (by decide) dX7_inLine_49 ?_
    subst_vars; exact k1
set_option maxRecDepth 20000 in
theorem zx3_X7_inLine {l : Launch} {D : va_G} {b0 : Nat} {tA : Nat → ClassId} {sa sv : Nat → Nat} {K : zKt} {I : zI} {Qp : zI → Option AV → Prop} {Xp : String → zI → Prop} {F9 : zI} {x f : Nat} {t : Nat → Nat} {er : Int32} {S : zS} {U : List zS}{g s9 : Nat} {v3 : Int32}
    (hC : zCl F9 I x t f er S U) (hg : g < zng S) (hs : s9 < 2) (hb : vIdx v3 ((sL S g s9).length) = none) (kx : Xp "java/util/NoSuchElementException" I) :
    zC l D b0 tA sa sv K yX7_inLine (.code yX7_inLine cX7_inLine 5 (some .int)) zrm_X7_inLine [vr (x) 7, vi ((nI g)), vi ((nI s9)), vi (v3)] I Qp Xp := by
  have hR := hC.2.2.1
  have hW := hC.2.2.2.1
  have hg6 := hW.ng.1
  have hc12 := hW.nc.1
  have hf5 := hC.1.2.1
  refine zC_of (by decide +kernel) (Nat.le_of_ble_eq_true rfl) ?_
  intro p e s m args below meth c X hnt
  have X : zX p l e zrm_X7_inLine s m args below meth c RX7 cX7_inLine 5 (some .int) D b0 tA sa sv := X
  refine zr_lv (lv2 := [some (vr (x) 7), some (vi ((nI g))), some (vi ((nI s9))), some (vi (v3)), none]) rfl ?_
  refine zr_aload0 X dX7_inLine_0 ?_
  refine zr_iload1 X dX7_inLine_1 ?_
  refine zr_callV1 (rm9 := zrm_X7_requireGate) X hnt zm_X7_95 (by decide) (by decide) (by decide) (Nat.le_of_ble_eq_true rfl) dX7_inLine_2 ?_
  refine zo_X7_requireGate hC hg ?_
  refine zr_iload2 X dX7_inLine_5 ?_
  refine zr_callS1 (rm9 := zrm_X7_requireSide) X hnt zm_X7_114 (by decide) (by decide) (by decide) (Nat.le_of_ble_eq_true rfl) dX7_inLine_6 ?_
  refine zo_X7_requireSide hs ?_
  refine zr_aload0 X dX7_inLine_9 ?_
  refine zr_getR X zf_X7_26 rfl (by decide) (by decide) dX7_inLine_10 ?_
  refine zr_getR X zf_X7_98 rfl (by decide) (by decide) dX7_inLine_13 ?_
  refine zr_iload1 X dX7_inLine_16 ?_
  refine zr_aaldN X rfl rfl (by decide) (show _ < 6 from (by first | assumption | omega)) dX7_inLine_17 ?_
  refine zr_iload2 X dX7_inLine_18 ?_
  refine zr_callV1 (rm9 := zrm_X1_lineOn) X hnt zm_X7_117 (by decide) (by decide) (by decide) (Nat.le_of_ble_eq_true rfl) dX7_inLine_19 ?_
  refine zn_X1_lineOn (s9) (by omega) (fun hs1 => ?_) (fun hs1 => ?_)
  · skip
    refine zr_astore4 X (by decide) rfl dX7_inLine_22 ?_
    refine zr_aload4 X dX7_inLine_24 ?_
    refine zr_iload3 X dX7_inLine_26 ?_
    refine zr_callV1 (rm9 := zrm_X4_hasPlace) X hnt zm_X7_121 (by decide) (by decide) (by decide) (Nat.le_of_ble_eq_true rfl) dX7_inLine_27 ?_
    refine zn_X4_hasPlace (w := (sL S g 0)) (hR.2.2.1 g (by omega)).2.1 (fun k hk e => absurd e (vIdx_none (by have := hW.len g 0; omega) (by subst_vars; exact hb) k hk)) (fun _ => ?_)
    refine zr_if_ne (tgt := 43) X dX7_inLine_30 (by decide) (fun h => absurd h (by decide)) (fun _ => ?_)
    refine zr_throwN (i := 25) X hnt zth_nse rfl dX7_inLine_33 dX7_inLine_36 dX7_inLine_37 dX7_inLine_39 dX7_inLine_42 ⟨by decide, by decide⟩ (Nat.le_of_ble_eq_true rfl) (by decide) (by decide) ?_
    exact kx
  · skip
    refine zr_astore4 X (by decide) rfl dX7_inLine_22 ?_
    refine zr_aload4 X dX7_inLine_24 ?_
    refine zr_iload3 X dX7_inLine_26 ?_
    refine zr_callV1 (rm9 := zrm_X4_hasPlace) X hnt zm_X7_121 (by decide) (by decide) (by decide) (Nat.le_of_ble_eq_true rfl) dX7_inLine_27 ?_
    refine zn_X4_hasPlace (w := (sL S g 1)) (hR.2.2.1 g (by omega)).2.2 (fun k hk e => absurd e (vIdx_none (by have := hW.len g 1; omega) (by subst_vars; exact hb) k hk)) (fun _ => ?_)
    refine zr_if_ne (tgt := 43) X dX7_inLine_30 (by decide) (fun h => absurd h (by decide)) (fun _ => ?_)
    refine zr_throwN (i := 25) X hnt zth_nse rfl dX7_inLine_33 dX7_inLine_36 dX7_inLine_37 dX7_inLine_39 dX7_inLine_42 ⟨by decide, by decide⟩ (Nat.le_of_ble_eq_true rfl) (by decide) (by decide) ?_
    exact kx
set_option maxRecDepth 20000 in
theorem zx2_X7_inLine {l : Launch} {D : va_G} {b0 : Nat} {tA : Nat → ClassId} {sa sv : Nat → Nat} {K : zKt} {I : zI} {Qp : zI → Option AV → Prop} {Xp : String → zI → Prop} {F9 : zI} {x f : Nat} {t : Nat → Nat} {er : Int32} {S : zS} {U : List zS}{g : Nat} {v v3 : Int32}
    (hC : zCl F9 I x t f er S U) (hg : g < zng S) (hb : vIdx v (2) = none) (kx : Xp "java/lang/IllegalArgumentException" I) :
    zC l D b0 tA sa sv K yX7_inLine (.code yX7_inLine cX7_inLine 5 (some .int)) zrm_X7_inLine [vr (x) 7, vi ((nI g)), vi (v), vi (v3)] I Qp Xp := by
  have hR := hC.2.2.1
  have hW := hC.2.2.2.1
  have hg6 := hW.ng.1
  have hc12 := hW.nc.1
  have hf5 := hC.1.2.1
  refine zC_of (by decide +kernel) (Nat.le_of_ble_eq_true rfl) ?_
  intro p e s m args below meth c X hnt
  have X : zX p l e zrm_X7_inLine s m args below meth c RX7 cX7_inLine 5 (some .int) D b0 tA sa sv := X
  refine zr_lv (lv2 := [some (vr (x) 7), some (vi ((nI g))), some (vi (v)), some (vi (v3)), none]) rfl ?_
  refine zr_aload0 X dX7_inLine_0 ?_
  refine zr_iload1 X dX7_inLine_1 ?_
  refine zr_callV1 (rm9 := zrm_X7_requireGate) X hnt zm_X7_95 (by decide) (by decide) (by decide) (Nat.le_of_ble_eq_true rfl) dX7_inLine_2 ?_
  refine zo_X7_requireGate hC hg ?_
  refine zr_iload2 X dX7_inLine_5 ?_
  refine zr_callS1 (rm9 := zrm_X7_requireSide) X hnt zm_X7_114 (by decide) (by decide) (by decide) (Nat.le_of_ble_eq_true rfl) dX7_inLine_6 ?_
  exact zx_X7_requireSide hb kx
set_option maxRecDepth 20000 in
theorem zx1_X7_inLine {l : Launch} {D : va_G} {b0 : Nat} {tA : Nat → ClassId} {sa sv : Nat → Nat} {K : zKt} {I : zI} {Qp : zI → Option AV → Prop} {Xp : String → zI → Prop} {F9 : zI} {x f : Nat} {t : Nat → Nat} {er : Int32} {S : zS} {U : List zS}{u v v3 : Int32}
    (hC : zCl F9 I x t f er S U) (hb : vIdx u (zng S) = none) (kx : Xp "java/lang/IndexOutOfBoundsException" I) :
    zC l D b0 tA sa sv K yX7_inLine (.code yX7_inLine cX7_inLine 5 (some .int)) zrm_X7_inLine [vr (x) 7, vi (u), vi (v), vi (v3)] I Qp Xp := by
  have hR := hC.2.2.1
  have hW := hC.2.2.2.1
  have hg6 := hW.ng.1
  have hc12 := hW.nc.1
  have hf5 := hC.1.2.1
  refine zC_of (by decide +kernel) (Nat.le_of_ble_eq_true rfl) ?_
  intro p e s m args below meth c X hnt
  have X : zX p l e zrm_X7_inLine s m args below meth c RX7 cX7_inLine 5 (some .int) D b0 tA sa sv := X
  refine zr_lv (lv2 := [some (vr (x) 7), some (vi (u)), some (vi (v)), some (vi (v3)), none]) rfl ?_
  refine zr_aload0 X dX7_inLine_0 ?_
  refine zr_iload1 X dX7_inLine_1 ?_
  refine zr_callV1 (rm9 := zrm_X7_requireGate) X hnt zm_X7_95 (by decide) (by decide) (by decide) (Nat.le_of_ble_eq_true rfl) dX7_inLine_2 ?_
  exact zx_X7_requireGate hC hb kx
def rInLine (S : zS) (u v v3 : Int32) : Nat × Int32 := match vIdx u (zng S) with | none => (1, 0) | some g => match vIdx v 2 with | none => (2, 0) | some s => match vIdx v3 (sL S g s).length with | none => (3, 0) | some p => (0, nI ((sL S g s).getD p 0) - 1)
theorem zq_X7_inLine {l : Launch} {D : va_G} {b0 : Nat} {tA : Nat → ClassId} {sa sv : Nat → Nat} {K : zKt} {I : zI} {Qp : zI → Option AV → Prop} {Xp : String → zI → Prop} {F9 : zI} {x f : Nat} {t : Nat → Nat} {er : Int32} {S : zS} {U : List zS} {u v v3 : Int32}
    (hC : zCl F9 I x t f er S U) (k0 : (rInLine S u v v3).1 = 0 → Qp I (some (vi (rInLine S u v v3).2))) (kx1 : (rInLine S u v v3).1 = 1 → Xp "java/lang/IndexOutOfBoundsException" I) (kx2 : (rInLine S u v v3).1 = 2 → Xp "java/lang/IllegalArgumentException" I) (kx3 : (rInLine S u v v3).1 = 3 → Xp "java/util/NoSuchElementException" I) :
    zC l D b0 tA sa sv K yX7_inLine (.code yX7_inLine cX7_inLine 5 (some .int)) zrm_X7_inLine [vr (x) 7, vi (u), vi (v), vi (v3)] I Qp Xp := by
  unfold rInLine at k0 kx1 kx2 kx3
  cases e1 : vIdx u (zng S) with
  | none => rw [e1] at kx1; exact zx1_X7_inLine hC e1 (kx1 rfl)
  | some g =>
    rw [e1] at k0 kx2 kx3
    obtain ⟨h1, rfl⟩ := vIdx_some e1
    cases e2 : vIdx v 2 with
    | none => simp only [e2] at kx2; exact zx2_X7_inLine hC h1 e2 (kx2 (by first | rfl | trivial))
    | some w =>
      simp only [e2] at k0 kx3
      obtain ⟨h2, rfl⟩ := vIdx_some e2
      cases e3 : vIdx v3 (sL S g w).length with
      | none => simp only [e3] at kx3; exact zx3_X7_inLine hC h1 h2 e3 (kx3 (by first | rfl | trivial))
      | some p =>
        simp only [e3] at k0
        obtain ⟨h3, rfl⟩ := vIdx_some e3
        exact zo_X7_inLine hC h1 h2 h3 (k0 (by first | rfl | trivial))
