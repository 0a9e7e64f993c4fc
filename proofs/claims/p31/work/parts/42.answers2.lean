/-! ===== what the class answers: joining, names ===== -/
theorem zw0_X5_reasonNotToJoin {l : Launch} {D : va_G} {b0 : Nat} {tA : Nat → ClassId} {sa sv : Nat → Nat} {K : zKt} {I : zI} {Qp : zI → Option AV → Prop} {Xp : String → zI → Prop} {a g s9 : Nat} {S : zS} (hR : zRw I a S) (hW : zWf S) (hg : g < 6) (hs : s9 < 2) (k1 : Qp I (some (vi (nI (qWhy S g s9 0))))) :
    zC l D b0 tA sa sv K yX5_reasonNotToJoin (.code yX5_reasonNotToJoin cX5_reasonNotToJoin 4 (some .int)) zrm_X5_reasonNotToJoin [vr (a) 5, vr (a + 1 + 2 + 5 * g) 1, vi ((nI s9)), vi ((-1 : Int32))] I Qp Xp := by
  have := zq_X5_reasonNotToJoin (l := l) (D := D) (b0 := b0) (tA := tA) (sa := sa) (sv := sv) (K := K) (Xp := Xp) (w := 0) hR hW hg hs (by omega) k1
  rwa [show nI 0 - 1 = (-1 : Int32) from by decide] at this
theorem zw1_X5_reasonNotToJoin {l : Launch} {D : va_G} {b0 : Nat} {tA : Nat → ClassId} {sa sv : Nat → Nat} {K : zKt} {I : zI} {Qp : zI → Option AV → Prop} {Xp : String → zI → Prop} {a g s9 c9 : Nat} {S : zS} (hR : zRw I a S) (hW : zWf S) (hg : g < 6) (hs : s9 < 2) (hc : c9 < 12) (k1 : Qp I (some (vi (nI (qWhy S g s9 (c9 + 1)))))) :
    zC l D b0 tA sa sv K yX5_reasonNotToJoin (.code yX5_reasonNotToJoin cX5_reasonNotToJoin 4 (some .int)) zrm_X5_reasonNotToJoin [vr (a) 5, vr (a + 1 + 2 + 5 * g) 1, vi ((nI s9)), vi ((nI c9))] I Qp Xp := by
  have := zq_X5_reasonNotToJoin (l := l) (D := D) (b0 := b0) (tA := tA) (sa := sa) (sv := sv) (K := K) (Xp := Xp) (w := c9 + 1) hR hW hg hs (by omega) k1
  rwa [show nI (c9 + 1) - 1 = nI c9 from pk_sub (a := c9 + 1) (b := 1) (by omega)] at this
abbrev zrm_X7_whyNotJoin : Room := { frames := 9, cells := 3, slots := 18, locals := 141 }
set_option maxRecDepth 20000 in
theorem zonone_X7_whyNotJoin {l : Launch} {D : va_G} {b0 : Nat} {tA : Nat → ClassId} {sa sv : Nat → Nat} {K : zKt} {I : zI} {Qp : zI → Option AV → Prop} {Xp : String → zI → Prop} {F9 : zI} {x f : Nat} {t : Nat → Nat} {er : Int32} {S : zS} {U : List zS} {g s9 : Nat}
    (hC : zCl F9 I x t f er S U) (hg : g < zng S) (hs : s9 < 2) (k1 : Qp I (some (vi (nI (qWhy S g s9 0))))) :
    zC l D b0 tA sa sv K yX7_whyNotJoin (.code yX7_whyNotJoin cX7_whyNotJoin 4 (some .int)) zrm_X7_whyNotJoin [vr (x) 7, vi ((nI g)), vi ((nI s9)), vi ((-1 : Int32))] I Qp Xp := by
  have hR := hC.2.2.1
  have hW := hC.2.2.2.1
  have hg6 := hW.ng.1
  have hc12 := hW.nc.1
  have hf5 := hC.1.2.1
  refine zC_of (by decide +kernel) (Nat.le_of_ble_eq_true rfl) ?_
  intro p e s m args below meth c X hnt
  have X : zX p l e zrm_X7_whyNotJoin s m args below meth c RX7 cX7_whyNotJoin 4 (some .int) D b0 tA sa sv := X
  refine zr_lv (lv2 := [some (vr (x) 7), some (vi ((nI g))), some (vi ((nI s9))), some (vi ((-1 : Int32)))]) rfl ?_
  refine zr_aload0 X dX7_whyNotJoin_0 ?_
  refine zr_iload1 X dX7_whyNotJoin_1 ?_
  refine zr_callV1 (rm9 := zrm_X7_requireGate) X hnt zm_X7_95 (by decide) (by decide) (by decide) (Nat.le_of_ble_eq_true rfl) dX7_whyNotJoin_2 ?_
  refine zo_X7_requireGate hC hg ?_
  refine zr_aload0 X dX7_whyNotJoin_5 ?_
  refine zr_iload3 X dX7_whyNotJoin_6 ?_
  refine zr_callV1 (rm9 := zrm_X7_requireCardOrNone) X hnt zm_X7_144 (by decide) (by decide) (by decide) (Nat.le_of_ble_eq_true rfl) dX7_whyNotJoin_7 ?_
  refine zn_X7_requireCardOrNone hC ?_
  refine zr_iload2 X dX7_whyNotJoin_10 ?_
  refine zr_callS1 (rm9 := zrm_X7_requireSide) X hnt zm_X7_114 (by decide) (by decide) (by decide) (Nat.le_of_ble_eq_true rfl) dX7_whyNotJoin_11 ?_
  refine zo_X7_requireSide hs ?_
  refine zr_aload0 X dX7_whyNotJoin_14 ?_
  refine zr_getR X zf_X7_26 rfl (by decide) (by decide) dX7_whyNotJoin_15 ?_
  refine zr_aload0 X dX7_whyNotJoin_18 ?_
  refine zr_getR X zf_X7_26 rfl (by decide) (by decide) dX7_whyNotJoin_19 ?_
  refine zr_getR X zf_X7_98 rfl (by decide) (by decide) dX7_whyNotJoin_22 ?_
  refine zr_iload1 X dX7_whyNotJoin_25 ?_
  refine zr_aaldN X rfl rfl (by decide) (show _ < 6 from (by first | assumption | omega)) dX7_whyNotJoin_26 ?_
  refine zr_iload2 X dX7_whyNotJoin_27 ?_
  refine zr_iload3 X dX7_whyNotJoin_28 ?_
  refine zr_callV3 (rm9 := zrm_X5_reasonNotToJoin) X hnt zm_X7_147 (by decide) (by decide) (by decide) (Nat.le_of_ble_eq_true rfl) dX7_whyNotJoin_29 ?_
  refine zw0_X5_reasonNotToJoin (s9 := s9) hR hW (by omega) hs ?_
  refine zr_iret X (by decide) (by decide) dX7_whyNotJoin_32 ?_
  exact k1
set_option maxRecDepth 20000 in
theorem zx2none_X7_whyNotJoin {l : Launch} {D : va_G} {b0 : Nat} {tA : Nat → ClassId} {sa sv : Nat → Nat} {K : zKt} {I : zI} {Qp : zI → Option AV → Prop} {Xp : String → zI → Prop} {F9 : zI} {x f : Nat} {t : Nat → Nat} {er : Int32} {S : zS} {U : List zS} {g : Nat} {v : Int32}
    (hC : zCl F9 I x t f er S U) (hg : g < zng S) (hb : vIdx v (2) = none) (kx : Xp "java/lang/IllegalArgumentException" I) :
    zC l D b0 tA sa sv K yX7_whyNotJoin (.code yX7_whyNotJoin cX7_whyNotJoin 4 (some .int)) zrm_X7_whyNotJoin [vr (x) 7, vi ((nI g)), vi (v), vi ((-1 : Int32))] I Qp Xp := by
  have hR := hC.2.2.1
  have hW := hC.2.2.2.1
  have hg6 := hW.ng.1
  have hc12 := hW.nc.1
  have hf5 := hC.1.2.1
  refine zC_of (by decide +kernel) (Nat.le_of_ble_eq_true rfl) ?_
  intro p e s m args below meth c X hnt
  have X : zX p l e zrm_X7_whyNotJoin s m args below meth c RX7 cX7_whyNotJoin 4 (some .int) D b0 tA sa sv := X
  refine zr_lv (lv2 := [some (vr (x) 7), some (vi ((nI g))), some (vi (v)), some (vi ((-1 : Int32)))]) rfl ?_
  refine zr_aload0 X dX7_whyNotJoin_0 ?_
  refine zr_iload1 X dX7_whyNotJoin_1 ?_
  refine zr_callV1 (rm9 := zrm_X7_requireGate) X hnt zm_X7_95 (by decide) (by decide) (by decide) (Nat.le_of_ble_eq_true rfl) dX7_whyNotJoin_2 ?_
  refine zo_X7_requireGate hC hg ?_
  refine zr_aload0 X dX7_whyNotJoin_5 ?_
  refine zr_iload3 X dX7_whyNotJoin_6 ?_
  refine zr_callV1 (rm9 := zrm_X7_requireCardOrNone) X hnt zm_X7_144 (by decide) (by decide) (by decide) (Nat.le_of_ble_eq_true rfl) dX7_whyNotJoin_7 ?_
  refine zn_X7_requireCardOrNone hC ?_
  refine zr_iload2 X dX7_whyNotJoin_10 ?_
  refine zr_callS1 (rm9 := zrm_X7_requireSide) X hnt zm_X7_114 (by decide) (by decide) (by decide) (Nat.le_of_ble_eq_true rfl) dX7_whyNotJoin_11 ?_
  exact zx_X7_requireSide hb kx
set_option maxRecDepth 20000 in
theorem zook_X7_whyNotJoin {l : Launch} {D : va_G} {b0 : Nat} {tA : Nat → ClassId} {sa sv : Nat → Nat} {K : zKt} {I : zI} {Qp : zI → Option AV → Prop} {Xp : String → zI → Prop} {F9 : zI} {x f : Nat} {t : Nat → Nat} {er : Int32} {S : zS} {U : List zS} {g s9 c9 : Nat}
    (hC : zCl F9 I x t f er S U) (hg : g < zng S) (hc : c9 < znc S) (hs : s9 < 2) (k1 : Qp I (some (vi (nI (qWhy S g s9 (c9 + 1)))))) :
    zC l D b0 tA sa sv K yX7_whyNotJoin (.code yX7_whyNotJoin cX7_whyNotJoin 4 (some .int)) zrm_X7_whyNotJoin [vr (x) 7, vi ((nI g)), vi ((nI s9)), vi ((nI c9))] I Qp Xp := by
  have hR := hC.2.2.1
  have hW := hC.2.2.2.1
  have hg6 := hW.ng.1
  have hc12 := hW.nc.1
  have hf5 := hC.1.2.1
  refine zC_of (by decide +kernel) (Nat.le_of_ble_eq_true rfl) ?_
  intro p e s m args below meth c X hnt
  have X : zX p l e zrm_X7_whyNotJoin s m args below meth c RX7 cX7_whyNotJoin 4 (some .int) D b0 tA sa sv := X
  refine zr_lv (lv2 := [some (vr (x) 7), some (vi ((nI g))), some (vi ((nI s9))), some (vi ((nI c9)))]) rfl ?_
  refine zr_aload0 X dX7_whyNotJoin_0 ?_
  refine zr_iload1 X dX7_whyNotJoin_1 ?_
  refine zr_callV1 (rm9 := zrm_X7_requireGate) X hnt zm_X7_95 (by decide) (by decide) (by decide) (Nat.le_of_ble_eq_true rfl) dX7_whyNotJoin_2 ?_
  refine zo_X7_requireGate hC hg ?_
  refine zr_aload0 X dX7_whyNotJoin_5 ?_
  refine zr_iload3 X dX7_whyNotJoin_6 ?_
  refine zr_callV1 (rm9 := zrm_X7_requireCardOrNone) X hnt zm_X7_144 (by decide) (by decide) (by decide) (Nat.le_of_ble_eq_true rfl) dX7_whyNotJoin_7 ?_
  refine zo_X7_requireCardOrNone hC hc ?_
  refine zr_iload2 X dX7_whyNotJoin_10 ?_
  refine zr_callS1 (rm9 := zrm_X7_requireSide) X hnt zm_X7_114 (by decide) (by decide) (by decide) (Nat.le_of_ble_eq_true rfl) dX7_whyNotJoin_11 ?_
  refine zo_X7_requireSide hs ?_
  refine zr_aload0 X dX7_whyNotJoin_14 ?_
  refine zr_getR X zf_X7_26 rfl (by decide) (by decide) dX7_whyNotJoin_15 ?_
  refine zr_aload0 X dX7_whyNotJoin_18 ?_
  refine zr_getR X zf_X7_26 rfl (by decide) (by decide) dX7_whyNotJoin_19 ?_
  refine zr_getR X zf_X7_98 rfl (by decide) (by decide) dX7_whyNotJoin_22 ?_
  refine zr_iload1 X dX7_whyNotJoin_25 ?_
  refine zr_aaldN X rfl rfl (by decide) (show _ < 6 from (by first | assumption | omega)) dX7_whyNotJoin_26 ?_
  refine zr_iload2 X dX7_whyNotJoin_27 ?_
  refine zr_iload3 X dX7_whyNotJoin_28 ?_
  refine zr_callV3 (rm9 := zrm_X5_reasonNotToJoin) X hnt zm_X7_147 (by decide) (by decide) (by decide) (Nat.le_of_ble_eq_true rfl) dX7_whyNotJoin_29 ?_
  refine zw1_X5_reasonNotToJoin (s9 := s9) hR hW (by omega) hs (by omega) ?_
  refine zr_iret X (by decide) (by decide) dX7_whyNotJoin_32 ?_
  exact k1
set_option maxRecDepth 20000 in
theorem zx2ok_X7_whyNotJoin {l : Launch} {D : va_G} {b0 : Nat} {tA : Nat → ClassId} {sa sv : Nat → Nat} {K : zKt} {I : zI} {Qp : zI → Option AV → Prop} {Xp : String → zI → Prop} {F9 : zI} {x f : Nat} {t : Nat → Nat} {er : Int32} {S : zS} {U : List zS} {g c9 : Nat} {v : Int32}
    (hC : zCl F9 I x t f er S U) (hg : g < zng S) (hc : c9 < znc S) (hb : vIdx v (2) = none) (kx : Xp "java/lang/IllegalArgumentException" I) :
    zC l D b0 tA sa sv K yX7_whyNotJoin (.code yX7_whyNotJoin cX7_whyNotJoin 4 (some .int)) zrm_X7_whyNotJoin [vr (x) 7, vi ((nI g)), vi (v), vi ((nI c9))] I Qp Xp := by
  have hR := hC.2.2.1
  have hW := hC.2.2.2.1
  have hg6 := hW.ng.1
  have hc12 := hW.nc.1
  have hf5 := hC.1.2.1
  refine zC_of (by decide +kernel) (Nat.le_of_ble_eq_true rfl) ?_
  intro p e s m args below meth c X hnt
  have X : zX p l e zrm_X7_whyNotJoin s m args below meth c RX7 cX7_whyNotJoin 4 (some .int) D b0 tA sa sv := X
  refine zr_lv (lv2 := [some (vr (x) 7), some (vi ((nI g))), some (vi (v)), some (vi ((nI c9)))]) rfl ?_
  refine zr_aload0 X dX7_whyNotJoin_0 ?_
  refine zr_iload1 X dX7_whyNotJoin_1 ?_
  refine zr_callV1 (rm9 := zrm_X7_requireGate) X hnt zm_X7_95 (by decide) (by decide) (by decide) (Nat.le_of_ble_eq_true rfl) dX7_whyNotJoin_2 ?_
  refine zo_X7_requireGate hC hg ?_
  refine zr_aload0 X dX7_whyNotJoin_5 ?_
  refine zr_iload3 X dX7_whyNotJoin_6 ?_
  refine zr_callV1 (rm9 := zrm_X7_requireCardOrNone) X hnt zm_X7_144 (by decide) (by decide) (by decide) (Nat.le_of_ble_eq_true rfl) dX7_whyNotJoin_7 ?_
  refine zo_X7_requireCardOrNone hC hc ?_
  refine zr_iload2 X dX7_whyNotJoin_10 ?_
  refine zr_callS1 (rm9 := zrm_X7_requireSide) X hnt zm_X7_114 (by decide) (by decide) (by decide) (Nat.le_of_ble_eq_true rfl) dX7_whyNotJoin_11 ?_
  exact zx_X7_requireSide hb kx
set_option maxRecDepth 20000 in
theorem zx1c_X7_whyNotJoin {l : Launch} {D : va_G} {b0 : Nat} {tA : Nat → ClassId} {sa sv : Nat → Nat} {K : zKt} {I : zI} {Qp : zI → Option AV → Prop} {Xp : String → zI → Prop} {F9 : zI} {x f : Nat} {t : Nat → Nat} {er : Int32} {S : zS} {U : List zS} {g : Nat} {v v3 : Int32}
    (hC : zCl F9 I x t f er S U) (hg : g < zng S) (hb : vIdx v3 (znc S) = none) (hn1 : ¬ v3 = (-1 : Int32)) (kx : Xp "java/lang/IndexOutOfBoundsException" I) :
    zC l D b0 tA sa sv K yX7_whyNotJoin (.code yX7_whyNotJoin cX7_whyNotJoin 4 (some .int)) zrm_X7_whyNotJoin [vr (x) 7, vi ((nI g)), vi (v), vi (v3)] I Qp Xp := by
  have hR := hC.2.2.1
  have hW := hC.2.2.2.1
  have hg6 := hW.ng.1
  have hc12 := hW.nc.1
  have hf5 := hC.1.2.1
  refine zC_of (by decide +kernel) (Nat.le_of_ble_eq_true rfl) ?_
  intro p e s m args below meth c X hnt
  have X : zX p l e zrm_X7_whyNotJoin s m args below meth c RX7 cX7_whyNotJoin 4 (some .int) D b0 tA sa sv := X
  refine zr_lv (lv2 := [some (vr (x) 7), some (vi ((nI g))), some (vi (v)), some (vi (v3))]) rfl ?_
  refine zr_aload0 X dX7_whyNotJoin_0 ?_
  refine zr_iload1 X dX7_whyNotJoin_1 ?_
  refine zr_callV1 (rm9 := zrm_X7_requireGate) X hnt zm_X7_95 (by decide) (by decide) (by decide) (Nat.le_of_ble_eq_true rfl) dX7_whyNotJoin_2 ?_
  refine zo_X7_requireGate hC hg ?_
  refine zr_aload0 X dX7_whyNotJoin_5 ?_
  refine zr_iload3 X dX7_whyNotJoin_6 ?_
  refine zr_callV1 (rm9 := zrm_X7_requireCardOrNone) X hnt zm_X7_144 (by decide) (by decide) (by decide) (Nat.le_of_ble_eq_true rfl) dX7_whyNotJoin_7 ?_
  exact zx_X7_requireCardOrNone hC hb hn1 kx
set_option maxRecDepth 20000 in
theorem zx1_X7_whyNotJoin {l : Launch} {D : va_G} {b0 : Nat} {tA : Nat → ClassId} {sa sv : Nat → Nat} {K : zKt} {I : zI} {Qp : zI → Option AV → Prop} {Xp : String → zI → Prop} {F9 : zI} {x f : Nat} {t : Nat → Nat} {er : Int32} {S : zS} {U : List zS} {u v v3 : Int32}
    (hC : zCl F9 I x t f er S U) (hb : vIdx u (zng S) = none) (kx : Xp "java/lang/IndexOutOfBoundsException" I) :
    zC l D b0 tA sa sv K yX7_whyNotJoin (.code yX7_whyNotJoin cX7_whyNotJoin 4 (some .int)) zrm_X7_whyNotJoin [vr (x) 7, vi (u), vi (v), vi (v3)] I Qp Xp := by
  have hR := hC.2.2.1
  have hW := hC.2.2.2.1
  have hg6 := hW.ng.1
  have hc12 := hW.nc.1
  have hf5 := hC.1.2.1
  refine zC_of (by decide +kernel) (Nat.le_of_ble_eq_true rfl) ?_
  intro p e s m args below meth c X hnt
  have X : zX p l e zrm_X7_whyNotJoin s m args below meth c RX7 cX7_whyNotJoin 4 (some .int) D b0 tA sa sv := X
  refine zr_lv (lv2 := [some (vr (x) 7), some (vi (u)), some (vi (v)), some (vi (v3))]) rfl ?_
  refine zr_aload0 X dX7_whyNotJoin_0 ?_
  refine zr_iload1 X dX7_whyNotJoin_1 ?_
  refine zr_callV1 (rm9 := zrm_X7_requireGate) X hnt zm_X7_95 (by decide) (by decide) (by decide) (Nat.le_of_ble_eq_true rfl) dX7_whyNotJoin_2 ?_
  exact zx_X7_requireGate hC hb kx
/-- a card or none: 0 none, c + 1 the card c -/
def vWho (v : Int32) (n : Nat) : Option Nat := if v = -1 then some 0 else (vIdx v n).map (· + 1)
def rWhyJoin (S : zS) (u v v3 : Int32) : Nat × Int32 := match vIdx u (zng S) with | none => (1, 0) | some g => match vWho v3 (znc S) with | none => (1, 0) | some w => match vIdx v 2 with | none => (2, 0) | some s => (0, nI (qWhy S g s w))
theorem vWho_cases {v : Int32} {n : Nat} : (v = -1 ∧ vWho v n = some 0) ∨ (∃ c, c < n ∧ v = nI c ∧ vWho v n = some (c + 1)) ∨ (¬ v = -1 ∧ vIdx v n = none ∧ vWho v n = none) := by
  unfold vWho
  by_cases h : v = -1
  · exact Or.inl ⟨h, if_pos h⟩
  · rw [if_neg h]
    cases e : vIdx v n with
    | none => exact Or.inr (Or.inr ⟨h, rfl, rfl⟩)
    | some c => obtain ⟨h1, h2⟩ := vIdx_some e; exact Or.inr (Or.inl ⟨c, h1, h2, rfl⟩)
theorem zq_X7_whyNotJoin {l : Launch} {D : va_G} {b0 : Nat} {tA : Nat → ClassId} {sa sv : Nat → Nat} {K : zKt} {I : zI} {Qp : zI → Option AV → Prop} {Xp : String → zI → Prop} {F9 : zI} {x f : Nat} {t : Nat → Nat} {er : Int32} {S : zS} {U : List zS} {u v v3 : Int32}
    (hC : zCl F9 I x t f er S U) (k0 : (rWhyJoin S u v v3).1 = 0 → Qp I (some (vi (rWhyJoin S u v v3).2))) (kx1 : (rWhyJoin S u v v3).1 = 1 → Xp "java/lang/IndexOutOfBoundsException" I) (kx2 : (rWhyJoin S u v v3).1 = 2 → Xp "java/lang/IllegalArgumentException" I) :
    zC l D b0 tA sa sv K yX7_whyNotJoin (.code yX7_whyNotJoin cX7_whyNotJoin 4 (some .int)) zrm_X7_whyNotJoin [vr (x) 7, vi (u), vi (v), vi (v3)] I Qp Xp := by
  unfold rWhyJoin at k0 kx1 kx2
  cases e1 : vIdx u (zng S) with
  | none => rw [e1] at kx1; exact zx1_X7_whyNotJoin hC e1 (kx1 rfl)
  | some g =>
    rw [e1] at k0 kx1 kx2
    obtain ⟨h1, rfl⟩ := vIdx_some e1
    rcases vWho_cases (v := v3) (n := znc S) with ⟨rfl, e2⟩ | ⟨c, hc, rfl, e2⟩ | ⟨hn, hb, e2⟩
    · simp only [e2] at k0 kx2
      cases e3 : vIdx v 2 with
      | none => simp only [e3] at kx2; exact zx2none_X7_whyNotJoin hC h1 e3 (kx2 (by first | rfl | trivial))
      | some w =>
        simp only [e3] at k0
        obtain ⟨h3, rfl⟩ := vIdx_some e3
        exact zonone_X7_whyNotJoin hC h1 h3 (k0 (by first | rfl | trivial))
    · simp only [e2] at k0 kx2
      cases e3 : vIdx v 2 with
      | none => simp only [e3] at kx2; exact zx2ok_X7_whyNotJoin hC h1 hc e3 (kx2 (by first | rfl | trivial))
      | some w =>
        simp only [e3] at k0
        obtain ⟨h3, rfl⟩ := vIdx_some e3
        exact zook_X7_whyNotJoin hC h1 hc h3 (k0 (by first | rfl | trivial))
    · simp only [e2] at kx1
      exact zx1c_X7_whyNotJoin hC h1 hb hn (kx1 (by first | rfl | trivial))
def tFirstB (t : Nat → Nat) (L : Nat) : Bool := decide (1 ≤ L ∧ L ≤ 6) && (List.range L).all (fun i => tLet (t i))
theorem tFirstB_iff {t : Nat → Nat} {L : Nat} : tFirstB t L = true ↔ tFirst t L := by
  unfold tFirstB tFirst
  rw [Bool.and_eq_true, decide_eq_true_iff, List.all_eq_true]
  constructor
  · rintro ⟨⟨h1, h2⟩, h3⟩; exact ⟨h1, h2, fun i hi => h3 i (List.mem_range.mpr hi)⟩
  · rintro ⟨h1, h2, h3⟩; exact ⟨⟨h1, h2⟩, fun i hi => h3 i (List.mem_range.mp hi)⟩
def tNmL (t : Nat → Nat) (L : Nat) : Nat → Int32 := fun k => if k < L then nI (t k) else 0
def qFind (S : zS) (t : Nat → Nat) (L : Nat) : Int32 := if tFirstB t L = true then (match pFind S (tNmL t L) with | some c => nI c | none => -1) else -1
def rFind (S : zS) (t : Nat → Nat) (f : Nat) (v : Int32) : Nat × Int32 := match vIdx v (f + 1) with | none => (1, 0) | some L => (0, qFind S t L)
theorem znm_pos {S : zS} (hW : zWf S) {c : Nat} (hc : c < znc S) : ¬ znm (sM S c) 6 = 0 := by
  obtain ⟨M, m1, m2, m3, m4⟩ := zname_t hW hc
  have e1 : znm (sM S c) 6 = tNm (zN1 (sM S c)) 0 M := by
    have := znm_F (t := zN1 (sM S c)) (p := 0) (L := M) (fun i hi => by rw [Nat.zero_add]; exact m3 i hi) 6
    rw [← m4] at this
    rw [this, show min 6 M = M by omega]
  have m3' : ∀ i, i < M → tLet (zN1 (sM S c) (0 + i)) = true := fun i hi => by rw [Nat.zero_add]; exact m3 i hi
  have hlt := tNam_lt M m3'
  have h3 : 27 ^ M ≤ 27 ^ 6 := Nat.pow_le_pow_right (by decide) m2
  have h4 : 27 ^ 6 = 387420489 := by decide
  rw [e1, tNm_eq M m3', (zn_i0 (by omega)).1]
  obtain ⟨j, rfl⟩ : ∃ j, M = j + 1 := ⟨M - 1, by omega⟩
  have := tLet_iff.mp (m3' j (by omega))
  rw [tNam]; omega
theorem zf_X5_cardNamed {l : Launch} {D : va_G} {b0 : Nat} {tA : Nat → ClassId} {sa sv : Nat → Nat} {K : zKt} {I : zI} {Qp : zI → Option AV → Prop} {Xp : String → zI → Prop} {a L : Nat} {t : Nat → Nat} {S : zS} (hR : zRw I a S) (hW : zWf S) (hf : tFirst t L) (k1 : Qp I (some (vi (qFind S t L)))) :
    zC l D b0 tA sa sv K yX5_cardNamed (.code yX5_cardNamed cX5_cardNamed 3 (some .int)) zrm_X5_cardNamed [vr (a) 5, vi (tNm t 0 L)] I Qp Xp := by
  have hl : ∀ i, i < L → tLet (t (0 + i)) = true := fun i hi => by rw [Nat.zero_add]; exact hf.2.2 i hi
  have hm : ∀ c, c < znc S → (znm (sM S c) 6 = tNm t 0 L ↔ ∀ k, k < 6 → sM S c k = tNmL t L k) := fun c hc => by
    have := znm_iff hW hc hf.1 hf.2.1 hl
    rw [this]
    unfold tNmL
    simp only [Nat.zero_add]
  rw [qFind, if_pos (tFirstB_iff.mpr hf)] at k1
  refine zp_X5_cardNamed hR hW (fun c hc e hf2 => ?_) (fun hf2 => ?_)
  · rw [pFind_is hc ((hm c hc).mp e) (fun i hi z => hf2 i hi ((hm i (Nat.lt_trans hi hc)).mpr z))] at k1
    exact k1
  · cases e : pFind S (tNmL t L) with
    | none => rw [e] at k1; exact k1
    | some c => obtain ⟨c1, c2⟩ := pFind_some e; exact absurd ((hm c c1).mpr c2) (hf2 c c1)
abbrev zrm_X7_find : Room := { frames := 9, cells := 1, slots := 6, locals := 141 }
set_option maxRecDepth 20000 in
theorem zo_X7_find {l : Launch} {D : va_G} {b0 : Nat} {tA : Nat → ClassId} {sa sv : Nat → Nat} {K : zKt} {I : zI} {Qp : zI → Option AV → Prop} {Xp : String → zI → Prop} {F9 : zI} {x f : Nat} {t : Nat → Nat} {er : Int32} {S : zS} {U : List zS} {k9 : Nat}
    (hC : zCl F9 I x t f er S U) (hL : k9 ≤ f) (k1 : Qp I (some (vi (qFind S t k9)))) :
    zC l D b0 tA sa sv K yX7_find (.code yX7_find cX7_find 2 (some .int)) zrm_X7_find [vr (x) 7, vi ((nI k9))] I Qp Xp := by
  have hR := hC.2.2.1
  have hW := hC.2.2.2.1
  have hg6 := hW.ng.1
  have hc12 := hW.nc.1
  have hf5 := hC.1.2.1
  refine zC_of (by decide +kernel) (Nat.le_of_ble_eq_true rfl) ?_
  intro p e s m args below meth c X hnt
  have X : zX p l e zrm_X7_find s m args below meth c RX7 cX7_find 2 (some .int) D b0 tA sa sv := X
  refine zr_lv (lv2 := [some (vr (x) 7), some (vi ((nI k9)))]) rfl ?_
  refine zr_aload0 X dX7_find_0 ?_
  refine zr_iload1 X dX7_find_1 ?_
  refine zr_callV1 (rm9 := zrm_X7_requireBuffered) X hnt zm_X7_54 (by decide) (by decide) (by decide) (Nat.le_of_ble_eq_true rfl) dX7_find_2 ?_
  refine zo_X7_requireBuffered hC hL ?_
  refine zr_aload0 X dX7_find_5 ?_
  refine zr_getR X zf_X7_26 rfl (by decide) (by decide) dX7_find_6 ?_
  refine zr_aload0 X dX7_find_9 ?_
  refine zr_getR X zf_X7_10 rfl (by decide) (by decide) dX7_find_10 ?_
  refine zr_iload1 X dX7_find_13 ?_
  refine zr_callV1 (rm9 := zrm_X3_nameOfFirst) X hnt zm_X7_89 (by decide) (by decide) (by decide) (Nat.le_of_ble_eq_true rfl) dX7_find_14 ?_
  refine zp_X3_nameOfFirst hC.1 hL ?_ ?_
  · skip
    intro hf1
    refine zr_callV1 (rm9 := zrm_X5_cardNamed) X hnt zm_X7_92 (by decide) (by decide) (by decide) (Nat.le_of_ble_eq_true rfl) dX7_find_17 ?_
    refine zf_X5_cardNamed hR hW hf1 ?_
    refine zr_iret X (by decide) (by decide) dX7_find_20 ?_
    exact k1
  · skip
    intro hf2
    refine zr_callV1 (rm9 := zrm_X5_cardNamed) X hnt zm_X7_92 (by decide) (by decide) (by decide) (Nat.le_of_ble_eq_true rfl) dX7_find_17 ?_
    refine zp_X5_cardNamed hR hW (fun c hc e _ => absurd e (znm_pos hW hc)) (fun _ => ?_)
    refine zr_iret X (by decide) (by decide) dX7_find_20 ?_
    rw [qFind, if_neg (fun z => hf2 (tFirstB_iff.mp z))] at k1; exact k1
set_option maxRecDepth 20000 in
theorem zx_X7_find {l : Launch} {D : va_G} {b0 : Nat} {tA : Nat → ClassId} {sa sv : Nat → Nat} {K : zKt} {I : zI} {Qp : zI → Option AV → Prop} {Xp : String → zI → Prop} {F9 : zI} {x f : Nat} {t : Nat → Nat} {er : Int32} {S : zS} {U : List zS} {v : Int32}
    (hC : zCl F9 I x t f er S U) (hb : vIdx v (f + 1) = none) (kx : Xp "java/lang/IllegalArgumentException" I) :
    zC l D b0 tA sa sv K yX7_find (.code yX7_find cX7_find 2 (some .int)) zrm_X7_find [vr (x) 7, vi (v)] I Qp Xp := by
  have hR := hC.2.2.1
  have hW := hC.2.2.2.1
  have hg6 := hW.ng.1
  have hc12 := hW.nc.1
  have hf5 := hC.1.2.1
  refine zC_of (by decide +kernel) (Nat.le_of_ble_eq_true rfl) ?_
  intro p e s m args below meth c X hnt
  have X : zX p l e zrm_X7_find s m args below meth c RX7 cX7_find 2 (some .int) D b0 tA sa sv := X
  refine zr_lv (lv2 := [some (vr (x) 7), some (vi (v))]) rfl ?_
  refine zr_aload0 X dX7_find_0 ?_
  refine zr_iload1 X dX7_find_1 ?_
  refine zr_callV1 (rm9 := zrm_X7_requireBuffered) X hnt zm_X7_54 (by decide) (by decide) (by decide) (Nat.le_of_ble_eq_true rfl) dX7_find_2 ?_
  exact zx_X7_requireBuffered hC hb kx
theorem zq_X7_find {l : Launch} {D : va_G} {b0 : Nat} {tA : Nat → ClassId} {sa sv : Nat → Nat} {K : zKt} {I : zI} {Qp : zI → Option AV → Prop} {Xp : String → zI → Prop} {F9 : zI} {x f : Nat} {t : Nat → Nat} {er : Int32} {S : zS} {U : List zS} {v : Int32}
    (hC : zCl F9 I x t f er S U) (k0 : (rFind S t f v).1 = 0 → Qp I (some (vi (rFind S t f v).2))) (kx1 : (rFind S t f v).1 = 1 → Xp "java/lang/IllegalArgumentException" I) :
    zC l D b0 tA sa sv K yX7_find (.code yX7_find cX7_find 2 (some .int)) zrm_X7_find [vr (x) 7, vi (v)] I Qp Xp := by
  unfold rFind at k0 kx1
  cases e1 : vIdx v (f + 1) with
  | none => rw [e1] at kx1; exact zx_X7_find hC e1 (kx1 rfl)
  | some L =>
    rw [e1] at k0
    obtain ⟨h1, rfl⟩ := vIdx_some e1
    exact zo_X7_find hC (by omega) (k0 rfl)
