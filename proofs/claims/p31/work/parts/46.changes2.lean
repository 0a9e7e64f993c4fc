/-! ===== joining, leaving, modes, undo, bytes ===== -/
theorem vIdx_le {v : Int32} (h1 : ¬ v < 0) (h2 : v ≤ 2) : ¬ vIdx v 3 = none := by
  intro h
  rw [Int32.not_lt, Int32.le_iff_toInt_le] at h1
  rw [Int32.le_iff_toInt_le] at h2
  have e0 : (0 : Int32).toInt = 0 := by decide
  have e2 : (2 : Int32).toInt = 2 := by decide
  unfold vIdx at h
  rw [if_pos (by omega)] at h; cases h
theorem zRg_len {I : zI} {x : Nat} {U : List zS} (h : zRg I x U) : I (x + 139) 2 = nI U.length ∧ U.length ≤ 8 := by
  obtain ⟨nw, h1, h2, h3, h4, h5⟩ := h
  exact ⟨h3, h4⟩
def sJoin1 (S : zS) (g s w : Nat) : zS := if qWhy S g s w = 0 then tL S g s (sL S g s ++ [w]) else tX S 13 (sX S 13 + 1)
def rJoin1 (S : zS) (g s w : Nat) : Int32 := if qWhy S g s w = 0 then nI ((sL S g s).length + 1) else -nI (qWhy S g s w)
def rJoin (S : zS) (u v v3 : Int32) : Nat × Int32 := match vIdx u (zng S) with | none => (1, 0) | some g => match vWho v3 (znc S) with | none => (1, 0) | some w => match vIdx v 2 with | none => (2, 0) | some s => (0, rJoin1 S g s w)
def sJoin (S : zS) (u v v3 : Int32) : zS := match vIdx u (zng S) with | none => S | some g => match vWho v3 (znc S) with | none => S | some w => match vIdx v 2 with | none => S | some s => sJoin1 S g s w
abbrev zrm_X7_join : Room := { frames := 9, cells := 3, slots := 18, locals := 141 }
set_option maxRecDepth 20000 in
theorem zonone_X7_join {l : Launch} {D : va_G} {b0 : Nat} {tA : Nat → ClassId} {sa sv : Nat → Nat} {K : zKt} {I : zI} {Qp : zI → Option AV → Prop} {Xp : String → zI → Prop} {F9 : zI} {x f : Nat} {t : Nat → Nat} {er : Int32} {S : zS} {U : List zS} {g s9 : Nat}
    (hC : zCl F9 I x t f er S U) (hg : g < zng S) (hs : s9 < 2) (k1 : ∀ J : zI, zCl F9 J x t f er (sJoin1 S g s9 0) (qPush S U) → Qp J (some (vi (rJoin1 S g s9 0)))) :
    zC l D b0 tA sa sv K yX7_join (.code yX7_join cX7_join 6 (some .int)) zrm_X7_join [vr (x) 7, vi ((nI g)), vi ((nI s9)), vi ((-1 : Int32))] I Qp Xp := by
  have hR := hC.2.2.1
  have hW := hC.2.2.2.1
  have hg6 := hW.ng.1
  have hc12 := hW.nc.1
  have hf5 := hC.1.2.1
  refine zC_of (by decide +kernel) (Nat.le_of_ble_eq_true rfl) ?_
  intro p e s m args below meth c X hnt
  have X : zX p l e zrm_X7_join s m args below meth c RX7 cX7_join 6 (some .int) D b0 tA sa sv := X
  refine zr_lv (lv2 := [some (vr (x) 7), some (vi ((nI g))), some (vi ((nI s9))), some (vi ((-1 : Int32))), none, none]) rfl ?_
  refine zr_aload0 X dX7_join_0 ?_
  refine zr_iload1 X dX7_join_1 ?_
  refine zr_callV1 (rm9 := zrm_X7_requireGate) X hnt zm_X7_95 (by decide) (by decide) (by decide) (Nat.le_of_ble_eq_true rfl) dX7_join_2 ?_
  refine zo_X7_requireGate hC hg ?_
  refine zr_aload0 X dX7_join_5 ?_
  refine zr_iload3 X dX7_join_6 ?_
  refine zr_callV1 (rm9 := zrm_X7_requireCardOrNone) X hnt zm_X7_144 (by decide) (by decide) (by decide) (Nat.le_of_ble_eq_true rfl) dX7_join_7 ?_
  refine zn_X7_requireCardOrNone hC ?_
  refine zr_iload2 X dX7_join_10 ?_
  refine zr_callS1 (rm9 := zrm_X7_requireSide) X hnt zm_X7_114 (by decide) (by decide) (by decide) (Nat.le_of_ble_eq_true rfl) dX7_join_11 ?_
  refine zo_X7_requireSide hs ?_
  refine zr_aload0 X dX7_join_14 ?_
  refine zr_getR X zf_X7_39 rfl (by decide) (by decide) dX7_join_15 ?_
  refine zr_aload0 X dX7_join_18 ?_
  refine zr_getR X zf_X7_26 rfl (by decide) (by decide) dX7_join_19 ?_
  refine zr_callV1 (rm9 := zrm_X2_remember) X hnt zm_X7_72 (by decide) (by decide) (by decide) (Nat.le_of_ble_eq_true rfl) dX7_join_22 ?_
  refine zp_X2_remember (S := S) (U := U) hC.2.2.2.2.2.1 hC.2.2.1 ?_
  intro J1 hg2 hG3; have hC4 : zCl F9 J1 x t f er S (qPush S U) := hC.past hg2 hG3 (qPush_wf hW hC.2.2.2.2.2.2)
  refine zr_aload0 X dX7_join_25 ?_
  refine zr_getR X zf_X7_26 rfl (by decide) (by decide) dX7_join_26 ?_
  refine zr_aload0 X dX7_join_29 ?_
  refine zr_getR X zf_X7_26 rfl (by decide) (by decide) dX7_join_30 ?_
  refine zr_getR X zf_X7_98 rfl (by decide) (by decide) dX7_join_33 ?_
  refine zr_iload1 X dX7_join_36 ?_
  refine zr_aaldN X rfl rfl (by decide) (show _ < 6 from (by first | assumption | omega)) dX7_join_37 ?_
  refine zr_iload2 X dX7_join_38 ?_
  refine zr_iload3 X dX7_join_39 ?_
  refine zr_callV3 (rm9 := zrm_X5_reasonNotToJoin) X hnt zm_X7_147 (by decide) (by decide) (by decide) (Nat.le_of_ble_eq_true rfl) dX7_join_40 ?_
  refine zw0_X5_reasonNotToJoin (s9 := s9) hC4.2.2.1 hW (by omega) hs ?_; have := qWhy_lt (S := S) (g := g) (s := s9) (w := 0)
  refine zr_istore4 X (by decide) rfl dX7_join_43 ?_
  refine zr_iload4 X dX7_join_45 ?_
  refine zr_nif_eq X ((qWhy S g s9 0)) (tgt := 67) (by omega) dX7_join_47 (by decide) (fun h1 => ?_) (fun h1 => ?_)
  · skip
    refine zr_aload0 X dX7_join_67 ?_
    refine zr_getR X zf_X7_26 rfl (by decide) (by decide) dX7_join_68 ?_
    refine zr_getR X zf_X7_98 rfl (by decide) (by decide) dX7_join_71 ?_
    refine zr_iload1 X dX7_join_74 ?_
    refine zr_aaldN X rfl rfl (by decide) (show _ < 6 from (by first | assumption | omega)) dX7_join_75 ?_
    refine zr_iload2 X dX7_join_76 ?_
    refine zr_callV1 (rm9 := zrm_X1_lineOn) X hnt zm_X7_117 (by decide) (by decide) (by decide) (Nat.le_of_ble_eq_true rfl) dX7_join_77 ?_
    refine zn_X1_lineOn (s9) (by omega) (fun hs2 => ?_) (fun hs2 => ?_)
    · skip
      refine zr_astore5 X (by decide) rfl dX7_join_80 ?_
      refine zr_aload5 X dX7_join_82 ?_
      refine zr_iload3 X dX7_join_84 ?_
      refine zr_callV1 (rm9 := zrm_X4_addLast) X hnt zm_X7_218 (by decide) (by decide) (by decide) (Nat.le_of_ble_eq_true rfl) dX7_join_85 ?_
      refine zn_addLast (g := g) (s9 := 0) (w := 0) hC4.2.2.1 (by omega) (Or.inl ⟨rfl, rfl⟩) (by have := (qWhy_0 h1).2.1; rw [hs2] at this; have := hW.len g 0; omega) (by decide) ?_
      intro J5 hg6 hR7
      refine zr_aload5 X dX7_join_88 ?_
      refine zr_getI X zf_X7_154 rfl dX7_join_90 ?_
      refine zr_eq (x2 := (nI ((sL (tL S g 0 (sL S g 0 ++ [0])) g 0).length))) ((hR7.2.2.1 g (by omega)).2.1.1) ?_
      refine zr_iret X (by decide) (by decide) dX7_join_93 ?_
      rw [sJoin1, if_pos h1, rJoin1, if_pos h1] at k1
      subst hs2
      have e9 : sL (tL S g 0 (sL S g 0 ++ [0])) g 0 = sL S g 0 ++ [0] := zu2_eq
      rw [e9, List.length_append]
      exact k1 _ (hC4.now (show zag J1 J5 (x + 4) 45 by repeat (first | exact zag.rf | assumption | refine zag.put ?_ (by omega) (by omega) | refine zag.tr ?_ (by assumption) (by omega) (by omega))) hR7 (zWf_join hW hg (by omega) h1))
    · skip
      refine zr_astore5 X (by decide) rfl dX7_join_80 ?_
      refine zr_aload5 X dX7_join_82 ?_
      refine zr_iload3 X dX7_join_84 ?_
      refine zr_callV1 (rm9 := zrm_X4_addLast) X hnt zm_X7_218 (by decide) (by decide) (by decide) (Nat.le_of_ble_eq_true rfl) dX7_join_85 ?_
      refine zn_addLast (g := g) (s9 := 1) (w := 0) hC4.2.2.1 (by omega) (Or.inr ⟨rfl, rfl⟩) (by have := (qWhy_0 h1).2.1; rw [hs2] at this; have := hW.len g 1; omega) (by decide) ?_
      intro J8 hg9 hR10
      refine zr_aload5 X dX7_join_88 ?_
      refine zr_getI X zf_X7_154 rfl dX7_join_90 ?_
      refine zr_eq (x2 := (nI ((sL (tL S g 1 (sL S g 1 ++ [0])) g 1).length))) ((hR10.2.2.1 g (by omega)).2.2.1) ?_
      refine zr_iret X (by decide) (by decide) dX7_join_93 ?_
      rw [sJoin1, if_pos h1, rJoin1, if_pos h1] at k1
      subst hs2
      have e9 : sL (tL S g 1 (sL S g 1 ++ [0])) g 1 = sL S g 1 ++ [0] := zu2_eq
      rw [e9, List.length_append]
      exact k1 _ (hC4.now (show zag J1 J8 (x + 4) 45 by repeat (first | exact zag.rf | assumption | refine zag.put ?_ (by omega) (by omega) | refine zag.tr ?_ (by assumption) (by omega) (by omega))) hR10 (zWf_join hW hg (by omega) h1))
  · skip
    refine zr_aload0 X dX7_join_50 ?_
    refine zr_getR X zf_X7_26 rfl (by decide) (by decide) dX7_join_51 ?_
    refine zr_dupR X dX7_join_54 ?_
    refine zr_getI X zf_X7_215 rfl dX7_join_55 ?_
    refine zr_eq (x2 := (sX S 13)) (hC4.2.2.1.1 13 (by decide) (by decide)) ?_
    refine zr_iconst (v := (1 : Int32)) X dX7_join_58 (by decide) ?_
    refine zr_iadd X dX7_join_59 ?_
    refine zr_putI X zf_X7_215 rfl (Or.inl rfl) dX7_join_60 ?_
    have hR_1 : zRw _ (x + 4) (tX S 13 ((sX S 13) + (1 : Int32))) := zRw_X hC4.2.2.1 (i := 13) (v := ((sX S 13) + (1 : Int32))) (by decide) (by decide)
    refine zr_iload4 X dX7_join_63 ?_
    refine zr_ineg X dX7_join_65 ?_
    refine zr_iret X (by decide) (by decide) dX7_join_66 ?_
    rw [sJoin1, if_neg h1, rJoin1, if_neg h1] at k1
    exact k1 _ (hC4.now (show zag J1 (zput J1 (x + 4) 14 (((sX S 13) + (1 : Int32)))) (x + 4) 45 by repeat (first | exact zag.rf | assumption | refine zag.put ?_ (by omega) (by omega) | refine zag.tr ?_ (by assumption) (by omega) (by omega))) hR_1 (zWf_tX hW (by decide)))
set_option maxRecDepth 20000 in
theorem zx2none_X7_join {l : Launch} {D : va_G} {b0 : Nat} {tA : Nat → ClassId} {sa sv : Nat → Nat} {K : zKt} {I : zI} {Qp : zI → Option AV → Prop} {Xp : String → zI → Prop} {F9 : zI} {x f : Nat} {t : Nat → Nat} {er : Int32} {S : zS} {U : List zS} {g : Nat} {v : Int32}
    (hC : zCl F9 I x t f er S U) (hg : g < zng S) (hb : vIdx v (2) = none) (kx : Xp "java/lang/IllegalArgumentException" I) :
    zC l D b0 tA sa sv K yX7_join (.code yX7_join cX7_join 6 (some .int)) zrm_X7_join [vr (x) 7, vi ((nI g)), vi (v), vi ((-1 : Int32))] I Qp Xp := by
  have hR := hC.2.2.1
  have hW := hC.2.2.2.1
  have hg6 := hW.ng.1
  have hc12 := hW.nc.1
  have hf5 := hC.1.2.1
  refine zC_of (by decide +kernel) (Nat.le_of_ble_eq_true rfl) ?_
  intro p e s m args below meth c X hnt
  have X : zX p l e zrm_X7_join s m args below meth c RX7 cX7_join 6 (some .int) D b0 tA sa sv := X
  refine zr_lv (lv2 := [some (vr (x) 7), some (vi ((nI g))), some (vi (v)), some (vi ((-1 : Int32))), none, none]) rfl ?_
  refine zr_aload0 X dX7_join_0 ?_
  refine zr_iload1 X dX7_join_1 ?_
  refine zr_callV1 (rm9 := zrm_X7_requireGate) X hnt zm_X7_95 (by decide) (by decide) (by decide) (Nat.le_of_ble_eq_true rfl) dX7_join_2 ?_
  refine zo_X7_requireGate hC hg ?_
  refine zr_aload0 X dX7_join_5 ?_
  refine zr_iload3 X dX7_join_6 ?_
  refine zr_callV1 (rm9 := zrm_X7_requireCardOrNone) X hnt zm_X7_144 (by decide) (by decide) (by decide) (Nat.le_of_ble_eq_true rfl) dX7_join_7 ?_
  refine zn_X7_requireCardOrNone hC ?_
  refine zr_iload2 X dX7_join_10 ?_
  refine zr_callS1 (rm9 := zrm_X7_requireSide) X hnt zm_X7_114 (by decide) (by decide) (by decide) (Nat.le_of_ble_eq_true rfl) dX7_join_11 ?_
  exact zx_X7_requireSide hb kx
set_option maxRecDepth 20000 in
theorem zook_X7_join {l : Launch} {D : va_G} {b0 : Nat} {tA : Nat → ClassId} {sa sv : Nat → Nat} {K : zKt} {I : zI} {Qp : zI → Option AV → Prop} {Xp : String → zI → Prop} {F9 : zI} {x f : Nat} {t : Nat → Nat} {er : Int32} {S : zS} {U : List zS} {g s9 c9 : Nat}
    (hC : zCl F9 I x t f er S U) (hg : g < zng S) (hc : c9 < znc S) (hs : s9 < 2) (k1 : ∀ J : zI, zCl F9 J x t f er (sJoin1 S g s9 (c9 + 1)) (qPush S U) → Qp J (some (vi (rJoin1 S g s9 (c9 + 1))))) :
    zC l D b0 tA sa sv K yX7_join (.code yX7_join cX7_join 6 (some .int)) zrm_X7_join [vr (x) 7, vi ((nI g)), vi ((nI s9)), vi ((nI c9))] I Qp Xp := by
  have hR := hC.2.2.1
  have hW := hC.2.2.2.1
  have hg6 := hW.ng.1
  have hc12 := hW.nc.1
  have hf5 := hC.1.2.1
  refine zC_of (by decide +kernel) (Nat.le_of_ble_eq_true rfl) ?_
  intro p e s m args below meth c X hnt
  have X : zX p l e zrm_X7_join s m args below meth c RX7 cX7_join 6 (some .int) D b0 tA sa sv := X
  refine zr_lv (lv2 := [some (vr (x) 7), some (vi ((nI g))), some (vi ((nI s9))), some (vi ((nI c9))), none, none]) rfl ?_
  refine zr_aload0 X dX7_join_0 ?_
  refine zr_iload1 X dX7_join_1 ?_
  refine zr_callV1 (rm9 := zrm_X7_requireGate) X hnt zm_X7_95 (by decide) (by decide) (by decide) (Nat.le_of_ble_eq_true rfl) dX7_join_2 ?_
  refine zo_X7_requireGate hC hg ?_
  refine zr_aload0 X dX7_join_5 ?_
  refine zr_iload3 X dX7_join_6 ?_
  refine zr_callV1 (rm9 := zrm_X7_requireCardOrNone) X hnt zm_X7_144 (by decide) (by decide) (by decide) (Nat.le_of_ble_eq_true rfl) dX7_join_7 ?_
  refine zo_X7_requireCardOrNone hC hc ?_
  refine zr_iload2 X dX7_join_10 ?_
  refine zr_callS1 (rm9 := zrm_X7_requireSide) X hnt zm_X7_114 (by decide) (by decide) (by decide) (Nat.le_of_ble_eq_true rfl) dX7_join_11 ?_
  refine zo_X7_requireSide hs ?_
  refine zr_aload0 X dX7_join_14 ?_
  refine zr_getR X zf_X7_39 rfl (by decide) (by decide) dX7_join_15 ?_
  refine zr_aload0 X dX7_join_18 ?_
  refine zr_getR X zf_X7_26 rfl (by decide) (by decide) dX7_join_19 ?_
  refine zr_callV1 (rm9 := zrm_X2_remember) X hnt zm_X7_72 (by decide) (by decide) (by decide) (Nat.le_of_ble_eq_true rfl) dX7_join_22 ?_
  refine zp_X2_remember (S := S) (U := U) hC.2.2.2.2.2.1 hC.2.2.1 ?_
  intro J11 hg12 hG13; have hC14 : zCl F9 J11 x t f er S (qPush S U) := hC.past hg12 hG13 (qPush_wf hW hC.2.2.2.2.2.2)
  refine zr_aload0 X dX7_join_25 ?_
  refine zr_getR X zf_X7_26 rfl (by decide) (by decide) dX7_join_26 ?_
  refine zr_aload0 X dX7_join_29 ?_
  refine zr_getR X zf_X7_26 rfl (by decide) (by decide) dX7_join_30 ?_
  refine zr_getR X zf_X7_98 rfl (by decide) (by decide) dX7_join_33 ?_
  refine zr_iload1 X dX7_join_36 ?_
  refine zr_aaldN X rfl rfl (by decide) (show _ < 6 from (by first | assumption | omega)) dX7_join_37 ?_
  refine zr_iload2 X dX7_join_38 ?_
  refine zr_iload3 X dX7_join_39 ?_
  refine zr_callV3 (rm9 := zrm_X5_reasonNotToJoin) X hnt zm_X7_147 (by decide) (by decide) (by decide) (Nat.le_of_ble_eq_true rfl) dX7_join_40 ?_
  refine zw1_X5_reasonNotToJoin (s9 := s9) hC14.2.2.1 hW (by omega) hs (by omega) ?_; have := qWhy_lt (S := S) (g := g) (s := s9) (w := c9 + 1)
  refine zr_istore4 X (by decide) rfl dX7_join_43 ?_
  refine zr_iload4 X dX7_join_45 ?_
  refine zr_nif_eq X ((qWhy S g s9 (c9 + 1))) (tgt := 67) (by omega) dX7_join_47 (by decide) (fun h1 => ?_) (fun h1 => ?_)
  · skip
    refine zr_aload0 X dX7_join_67 ?_
    refine zr_getR X zf_X7_26 rfl (by decide) (by decide) dX7_join_68 ?_
    refine zr_getR X zf_X7_98 rfl (by decide) (by decide) dX7_join_71 ?_
    refine zr_iload1 X dX7_join_74 ?_
    refine zr_aaldN X rfl rfl (by decide) (show _ < 6 from (by first | assumption | omega)) dX7_join_75 ?_
    refine zr_iload2 X dX7_join_76 ?_
    refine zr_callV1 (rm9 := zrm_X1_lineOn) X hnt zm_X7_117 (by decide) (by decide) (by decide) (Nat.le_of_ble_eq_true rfl) dX7_join_77 ?_
    refine zn_X1_lineOn (s9) (by omega) (fun hs2 => ?_) (fun hs2 => ?_)
    · skip
      refine zr_astore5 X (by decide) rfl dX7_join_80 ?_
      refine zr_aload5 X dX7_join_82 ?_
      refine zr_iload3 X dX7_join_84 ?_
      refine zr_callV1 (rm9 := zrm_X4_addLast) X hnt zm_X7_218 (by decide) (by decide) (by decide) (Nat.le_of_ble_eq_true rfl) dX7_join_85 ?_
      refine zn_addLast (g := g) (s9 := 0) (w := (c9 + 1)) hC14.2.2.1 (by omega) (Or.inl ⟨rfl, rfl⟩) (by have := (qWhy_0 h1).2.1; rw [hs2] at this; have := hW.len g 0; omega) (pk_sub (a := _ + 1) (b := 1) (by omega)) ?_
      intro J15 hg16 hR17
      refine zr_aload5 X dX7_join_88 ?_
      refine zr_getI X zf_X7_154 rfl dX7_join_90 ?_
      refine zr_eq (x2 := (nI ((sL (tL S g 0 (sL S g 0 ++ [(c9 + 1)])) g 0).length))) ((hR17.2.2.1 g (by omega)).2.1.1) ?_
      refine zr_iret X (by decide) (by decide) dX7_join_93 ?_
      rw [sJoin1, if_pos h1, rJoin1, if_pos h1] at k1
      subst hs2
      have e9 : sL (tL S g 0 (sL S g 0 ++ [(c9 + 1)])) g 0 = sL S g 0 ++ [(c9 + 1)] := zu2_eq
      rw [e9, List.length_append]
      exact k1 _ (hC14.now (show zag J11 J15 (x + 4) 45 by repeat (first | exact zag.rf | assumption | refine zag.put ?_ (by omega) (by omega) | refine zag.tr ?_ (by assumption) (by omega) (by omega))) hR17 (zWf_join hW hg (by omega) h1))
    · skip
      refine zr_astore5 X (by decide) rfl dX7_join_80 ?_
      refine zr_aload5 X dX7_join_82 ?_
      refine zr_iload3 X dX7_join_84 ?_
      refine zr_callV1 (rm9 := zrm_X4_addLast) X hnt zm_X7_218 (by decide) (by decide) (by decide) (Nat.le_of_ble_eq_true rfl) dX7_join_85 ?_
      refine zn_addLast (g := g) (s9 := 1) (w := (c9 + 1)) hC14.2.2.1 (by omega) (Or.inr ⟨rfl, rfl⟩) (by have := (qWhy_0 h1).2.1; rw [hs2] at this; have := hW.len g 1; omega) (pk_sub (a := _ + 1) (b := 1) (by omega)) ?_
      intro J18 hg19 hR20
      refine zr_aload5 X dX7_join_88 ?_
      refine zr_getI X zf_X7_154 rfl dX7_join_90 ?_
      refine zr_eq (x2 := (nI ((sL (tL S g 1 (sL S g 1 ++ [(c9 + 1)])) g 1).length))) ((hR20.2.2.1 g (by omega)).2.2.1) ?_
      refine zr_iret X (by decide) (by decide) dX7_join_93 ?_
      rw [sJoin1, if_pos h1, rJoin1, if_pos h1] at k1
      subst hs2
      have e9 : sL (tL S g 1 (sL S g 1 ++ [(c9 + 1)])) g 1 = sL S g 1 ++ [(c9 + 1)] := zu2_eq
      rw [e9, List.length_append]
      exact k1 _ (hC14.now (show zag J11 J18 (x + 4) 45 by repeat (first | exact zag.rf | assumption | refine zag.put ?_ (by omega) (by omega) | refine zag.tr ?_ (by assumption) (by omega) (by omega))) hR20 (zWf_join hW hg (by omega) h1))
  · skip
    refine zr_aload0 X dX7_join_50 ?_
    refine zr_getR X zf_X7_26 rfl (by decide) (by decide) dX7_join_51 ?_
    refine zr_dupR X dX7_join_54 ?_
    refine zr_getI X zf_X7_215 rfl dX7_join_55 ?_
    refine zr_eq (x2 := (sX S 13)) (hC14.2.2.1.1 13 (by decide) (by decide)) ?_
    refine zr_iconst (v := (1 : Int32)) X dX7_join_58 (by decide) ?_
    refine zr_iadd X dX7_join_59 ?_
    refine zr_putI X zf_X7_215 rfl (Or.inl rfl) dX7_join_60 ?_
    have hR_1 : zRw _ (x + 4) (tX S 13 ((sX S 13) + (1 : Int32))) := zRw_X hC14.2.2.1 (i := 13) (v := ((sX S 13) + (1 : Int32))) (by decide) (by decide)
    refine zr_iload4 X dX7_join_63 ?_
    refine zr_ineg X dX7_join_65 ?_
    refine zr_iret X (by decide) (by decide) dX7_join_66 ?_
    rw [sJoin1, if_neg h1, rJoin1, if_neg h1] at k1
    exact k1 _ (hC14.now (show zag J11 (zput J11 (x + 4) 14 (((sX S 13) + (1 : Int32)))) (x + 4) 45 by repeat (first | exact zag.rf | assumption | refine zag.put ?_ (by omega) (by omega) | refine zag.tr ?_ (by assumption) (by omega) (by omega))) hR_1 (zWf_tX hW (by decide)))
set_option maxRecDepth 20000 in
theorem zx2ok_X7_join {l : Launch} {D : va_G} {b0 : Nat} {tA : Nat → ClassId} {sa sv : Nat → Nat} {K : zKt} {I : zI} {Qp : zI → Option AV → Prop} {Xp : String → zI → Prop} {F9 : zI} {x f : Nat} {t : Nat → Nat} {er : Int32} {S : zS} {U : List zS} {g c9 : Nat} {v : Int32}
    (hC : zCl F9 I x t f er S U) (hg : g < zng S) (hc : c9 < znc S) (hb : vIdx v (2) = none) (kx : Xp "java/lang/IllegalArgumentException" I) :
    zC l D b0 tA sa sv K yX7_join (.code yX7_join cX7_join 6 (some .int)) zrm_X7_join [vr (x) 7, vi ((nI g)), vi (v), vi ((nI c9))] I Qp Xp := by
  have hR := hC.2.2.1
  have hW := hC.2.2.2.1
  have hg6 := hW.ng.1
  have hc12 := hW.nc.1
  have hf5 := hC.1.2.1
  refine zC_of (by decide +kernel) (Nat.le_of_ble_eq_true rfl) ?_
  intro p e s m args below meth c X hnt
  have X : zX p l e zrm_X7_join s m args below meth c RX7 cX7_join 6 (some .int) D b0 tA sa sv := X
  refine zr_lv (lv2 := [some (vr (x) 7), some (vi ((nI g))), some (vi (v)), some (vi ((nI c9))), none, none]) rfl ?_
  refine zr_aload0 X dX7_join_0 ?_
  refine zr_iload1 X dX7_join_1 ?_
  refine zr_callV1 (rm9 := zrm_X7_requireGate) X hnt zm_X7_95 (by decide) (by decide) (by decide) (Nat.le_of_ble_eq_true rfl) dX7_join_2 ?_
  refine zo_X7_requireGate hC hg ?_
  refine zr_aload0 X dX7_join_5 ?_
  refine zr_iload3 X dX7_join_6 ?_
  refine zr_callV1 (rm9 := zrm_X7_requireCardOrNone) X hnt zm_X7_144 (by decide) (by decide) (by decide) (Nat.le_of_ble_eq_true rfl) dX7_join_7 ?_
  refine zo_X7_requireCardOrNone hC hc ?_
  refine zr_iload2 X dX7_join_10 ?_
  refine zr_callS1 (rm9 := zrm_X7_requireSide) X hnt zm_X7_114 (by decide) (by decide) (by decide) (Nat.le_of_ble_eq_true rfl) dX7_join_11 ?_
  exact zx_X7_requireSide hb kx
set_option maxRecDepth 20000 in
theorem zx1c_X7_join {l : Launch} {D : va_G} {b0 : Nat} {tA : Nat → ClassId} {sa sv : Nat → Nat} {K : zKt} {I : zI} {Qp : zI → Option AV → Prop} {Xp : String → zI → Prop} {F9 : zI} {x f : Nat} {t : Nat → Nat} {er : Int32} {S : zS} {U : List zS} {g : Nat} {v v3 : Int32}
    (hC : zCl F9 I x t f er S U) (hg : g < zng S) (hb : vIdx v3 (znc S) = none) (hn1 : ¬ v3 = (-1 : Int32)) (kx : Xp "java/lang/IndexOutOfBoundsException" I) :
    zC l D b0 tA sa sv K yX7_join (.code yX7_join cX7_join 6 (some .int)) zrm_X7_join [vr (x) 7, vi ((nI g)), vi (v), vi (v3)] I Qp Xp := by
  have hR := hC.2.2.1
  have hW := hC.2.2.2.1
  have hg6 := hW.ng.1
  have hc12 := hW.nc.1
  have hf5 := hC.1.2.1
  refine zC_of (by decide +kernel) (Nat.le_of_ble_eq_true rfl) ?_
  intro p e s m args below meth c X hnt
  have X : zX p l e zrm_X7_join s m args below meth c RX7 cX7_join 6 (some .int) D b0 tA sa sv := X
  refine zr_lv (lv2 := [some (vr (x) 7), some (vi ((nI g))), some (vi (v)), some (vi (v3)), none, none]) rfl ?_
  refine zr_aload0 X dX7_join_0 ?_
  refine zr_iload1 X dX7_join_1 ?_
  refine zr_callV1 (rm9 := zrm_X7_requireGate) X hnt zm_X7_95 (by decide) (by decide) (by decide) (Nat.le_of_ble_eq_true rfl) dX7_join_2 ?_
  refine zo_X7_requireGate hC hg ?_
  refine zr_aload0 X dX7_join_5 ?_
  refine zr_iload3 X dX7_join_6 ?_
  refine zr_callV1 (rm9 := zrm_X7_requireCardOrNone) X hnt zm_X7_144 (by decide) (by decide) (by decide) (Nat.le_of_ble_eq_true rfl) dX7_join_7 ?_
  exact zx_X7_requireCardOrNone hC hb hn1 kx
set_option maxRecDepth 20000 in
theorem zx1_X7_join {l : Launch} {D : va_G} {b0 : Nat} {tA : Nat → ClassId} {sa sv : Nat → Nat} {K : zKt} {I : zI} {Qp : zI → Option AV → Prop} {Xp : String → zI → Prop} {F9 : zI} {x f : Nat} {t : Nat → Nat} {er : Int32} {S : zS} {U : List zS} {u v v3 : Int32}
    (hC : zCl F9 I x t f er S U) (hb : vIdx u (zng S) = none) (kx : Xp "java/lang/IndexOutOfBoundsException" I) :
    zC l D b0 tA sa sv K yX7_join (.code yX7_join cX7_join 6 (some .int)) zrm_X7_join [vr (x) 7, vi (u), vi (v), vi (v3)] I Qp Xp := by
  have hR := hC.2.2.1
  have hW := hC.2.2.2.1
  have hg6 := hW.ng.1
  have hc12 := hW.nc.1
  have hf5 := hC.1.2.1
  refine zC_of (by decide +kernel) (Nat.le_of_ble_eq_true rfl) ?_
  intro p e s m args below meth c X hnt
  have X : zX p l e zrm_X7_join s m args below meth c RX7 cX7_join 6 (some .int) D b0 tA sa sv := X
  refine zr_lv (lv2 := [some (vr (x) 7), some (vi (u)), some (vi (v)), some (vi (v3)), none, none]) rfl ?_
  refine zr_aload0 X dX7_join_0 ?_
  refine zr_iload1 X dX7_join_1 ?_
  refine zr_callV1 (rm9 := zrm_X7_requireGate) X hnt zm_X7_95 (by decide) (by decide) (by decide) (Nat.le_of_ble_eq_true rfl) dX7_join_2 ?_
  exact zx_X7_requireGate hC hb kx
theorem zq_X7_join {l : Launch} {D : va_G} {b0 : Nat} {tA : Nat → ClassId} {sa sv : Nat → Nat} {K : zKt} {I : zI} {Qp : zI → Option AV → Prop} {Xp : String → zI → Prop} {F9 : zI} {x f : Nat} {t : Nat → Nat} {er : Int32} {S : zS} {U : List zS} {u v v3 : Int32}
    (hC : zCl F9 I x t f er S U) (k0 : (rJoin S u v v3).1 = 0 → ∀ J : zI, zCl F9 J x t f er (sJoin S u v v3) (qPush S U) → Qp J (some (vi (rJoin S u v v3).2))) (kx1 : (rJoin S u v v3).1 = 1 → Xp "java/lang/IndexOutOfBoundsException" I) (kx2 : (rJoin S u v v3).1 = 2 → Xp "java/lang/IllegalArgumentException" I) :
    zC l D b0 tA sa sv K yX7_join (.code yX7_join cX7_join 6 (some .int)) zrm_X7_join [vr (x) 7, vi (u), vi (v), vi (v3)] I Qp Xp := by
  unfold rJoin at k0 kx1 kx2
  unfold sJoin at k0
  cases e1 : vIdx u (zng S) with
  | none => rw [e1] at kx1; exact zx1_X7_join hC e1 (kx1 rfl)
  | some g =>
    rw [e1] at k0 kx1 kx2
    obtain ⟨h1, rfl⟩ := vIdx_some e1
    rcases vWho_cases (v := v3) (n := znc S) with ⟨rfl, e2⟩ | ⟨c, hc, rfl, e2⟩ | ⟨hn, hb, e2⟩
    · simp only [e2] at k0 kx2
      cases e3 : vIdx v 2 with
      | none => simp only [e3] at kx2; exact zx2none_X7_join hC h1 e3 (kx2 (by first | rfl | trivial))
      | some w =>
        simp only [e3] at k0
        obtain ⟨h3, rfl⟩ := vIdx_some e3
        exact zonone_X7_join hC h1 h3 (k0 (by first | rfl | trivial))
    · simp only [e2] at k0 kx2
      cases e3 : vIdx v 2 with
      | none => simp only [e3] at kx2; exact zx2ok_X7_join hC h1 hc e3 (kx2 (by first | rfl | trivial))
      | some w =>
        simp only [e3] at k0
        obtain ⟨h3, rfl⟩ := vIdx_some e3
        exact zook_X7_join hC h1 hc h3 (k0 (by first | rfl | trivial))
    · simp only [e2] at kx1
      exact zx1c_X7_join hC h1 hb hn (kx1 (by first | rfl | trivial))
abbrev zrm_X7_leave : Room := { frames := 9, cells := 3, slots := 18, locals := 141 }
set_option maxRecDepth 20000 in
theorem zo_X7_leave {l : Launch} {D : va_G} {b0 : Nat} {tA : Nat → ClassId} {sa sv : Nat → Nat} {K : zKt} {I : zI} {Qp : zI → Option AV → Prop} {Xp : String → zI → Prop} {F9 : zI} {x f : Nat} {t : Nat → Nat} {er : Int32} {S : zS} {U : List zS} {g s9 p9 : Nat}
    (hC : zCl F9 I x t f er S U) (hg : g < zng S) (hs : s9 < 2) (hp : p9 < (sL S g s9).length) (kd : ¬ (p9 = 0 ∧ sG S g 3 = 1 ∧ sG S g 2 = nI (s9 + 1))) (k1 : ∀ J : zI, zCl F9 J x t f er (tL S g s9 ((sL S g s9).eraseIdx p9)) (qPush S U) → Qp J (some (vi (nI ((sL S g s9).length - 1))))) :
    zC l D b0 tA sa sv K yX7_leave (.code yX7_leave cX7_leave 5 (some .int)) zrm_X7_leave [vr (x) 7, vi ((nI g)), vi ((nI s9)), vi ((nI p9))] I Qp Xp := by
  have hR := hC.2.2.1
  have hW := hC.2.2.2.1
  have hg6 := hW.ng.1
  have hc12 := hW.nc.1
  have hf5 := hC.1.2.1
  have hl9 : p9 < 10 := Nat.lt_of_lt_of_le hp (hW.len g s9)
  refine zC_of (by decide +kernel) (Nat.le_of_ble_eq_true rfl) ?_
  intro p e s m args below meth c X hnt
  have X : zX p l e zrm_X7_leave s m args below meth c RX7 cX7_leave 5 (some .int) D b0 tA sa sv := X
  refine zr_lv (lv2 := [some (vr (x) 7), some (vi ((nI g))), some (vi ((nI s9))), some (vi ((nI p9))), none]) rfl ?_
  refine zr_aload0 X dX7_leave_0 ?_
  refine zr_iload1 X dX7_leave_1 ?_
  refine zr_callV1 (rm9 := zrm_X7_requireGate) X hnt zm_X7_95 (by decide) (by decide) (by decide) (Nat.le_of_ble_eq_true rfl) dX7_leave_2 ?_
  refine zo_X7_requireGate hC hg ?_
  refine zr_iload2 X dX7_leave_5 ?_
  refine zr_callS1 (rm9 := zrm_X7_requireSide) X hnt zm_X7_114 (by decide) (by decide) (by decide) (Nat.le_of_ble_eq_true rfl) dX7_leave_6 ?_
  refine zo_X7_requireSide hs ?_
  refine zr_aload0 X dX7_leave_9 ?_
  refine zr_getR X zf_X7_26 rfl (by decide) (by decide) dX7_leave_10 ?_
  refine zr_getR X zf_X7_98 rfl (by decide) (by decide) dX7_leave_13 ?_
  refine zr_iload1 X dX7_leave_16 ?_
  refine zr_aaldN X rfl rfl (by decide) (show _ < 6 from (by first | assumption | omega)) dX7_leave_17 ?_
  refine zr_iload2 X dX7_leave_18 ?_
  refine zr_callV1 (rm9 := zrm_X1_lineOn) X hnt zm_X7_117 (by decide) (by decide) (by decide) (Nat.le_of_ble_eq_true rfl) dX7_leave_19 ?_
  refine zn_X1_lineOn (s9) (by omega) (fun hs1 => ?_) (fun hs1 => ?_)
  · skip
    refine zr_astore4 X (by decide) rfl dX7_leave_22 ?_
    refine zr_aload4 X dX7_leave_24 ?_
    refine zr_iload3 X dX7_leave_26 ?_
    refine zr_callV1 (rm9 := zrm_X4_hasPlace) X hnt zm_X7_121 (by decide) (by decide) (by decide) (Nat.le_of_ble_eq_true rfl) dX7_leave_27 ?_
    refine zn_X4_hasPlace (w := (sL S g 0)) (hR.2.2.1 g (by omega)).2.1 (fun _ _ _ => ?_) (fun h => absurd rfl (h p9 (by rw [← hs1]; exact hp)))
    refine zr_if_ne (tgt := 43) X dX7_leave_30 (by decide) (fun _ => ?_) (fun h => absurd h (by decide))
    refine zr_iload3 X dX7_leave_43 ?_
    refine zr_nif_ne X (p9) (tgt := 73) (by omega) dX7_leave_44 (by decide) (fun h2 => ?_) (fun h2 => ?_)
    · skip
      refine zr_aload0 X dX7_leave_73 ?_
      refine zr_getR X zf_X7_39 rfl (by decide) (by decide) dX7_leave_74 ?_
      refine zr_aload0 X dX7_leave_77 ?_
      refine zr_getR X zf_X7_26 rfl (by decide) (by decide) dX7_leave_78 ?_
      refine zr_callV1 (rm9 := zrm_X2_remember) X hnt zm_X7_72 (by decide) (by decide) (by decide) (Nat.le_of_ble_eq_true rfl) dX7_leave_81 ?_
      refine zp_X2_remember (S := S) (U := U) hC.2.2.2.2.2.1 hC.2.2.1 ?_
      intro J21 hg22 hG23; have hC24 : zCl F9 J21 x t f er S (qPush S U) := hC.past hg22 hG23 (qPush_wf hW hC.2.2.2.2.2.2)
      refine zr_aload4 X dX7_leave_84 ?_
      refine zr_iload3 X dX7_leave_86 ?_
      refine zr_callV1 (rm9 := zrm_X4_removeAt) X hnt zm_X7_229 (by decide) (by decide) (by decide) (Nat.le_of_ble_eq_true rfl) dX7_leave_87 ?_
      refine zp_X4_removeAt (k := p9) (w := (sL S g 0)) (hC24.2.2.1.2.2.1 g (by omega)).2.1 (by rw [← hs1]; exact hp) ?_
      intro J25 hg26 hl27; have hR28 : zRw J25 (x + 4) (tL S g 0 ((sL S g 0).eraseIdx p9)) := zRw_L hC24.2.2.1 (show g < 6 by omega) (Or.inl ⟨rfl, rfl⟩) hg26 hl27
      refine zr_popI X dX7_leave_90 ?_
      refine zr_aload4 X dX7_leave_91 ?_
      refine zr_getI X zf_X7_154 rfl dX7_leave_93 ?_
      refine zr_eq (x2 := (nI ((sL (tL S g 0 ((sL S g 0).eraseIdx p9)) g 0).length))) ((hR28.2.2.1 g (by omega)).2.1.1) ?_
      refine zr_iret X (by decide) (by decide) dX7_leave_96 ?_
      subst hs1
      have e9 : sL (tL S g 0 ((sL S g 0).eraseIdx p9)) g 0 = (sL S g 0).eraseIdx p9 := zu2_eq
      rw [e9, zlen_erase hp]
      exact k1 _ (hC24.now (show zag J21 J25 (x + 4) 45 by repeat (first | exact zag.rf | assumption | refine zag.put ?_ (by omega) (by omega) | refine zag.tr ?_ (by assumption) (by omega) (by omega))) hR28 (zWf_leave hW hp kd))
    · skip
      refine zr_aload0 X dX7_leave_47 ?_
      refine zr_getR X zf_X7_26 rfl (by decide) (by decide) dX7_leave_48 ?_
      refine zr_getR X zf_X7_98 rfl (by decide) (by decide) dX7_leave_51 ?_
      refine zr_iload1 X dX7_leave_54 ?_
      refine zr_aaldN X rfl rfl (by decide) (show _ < 6 from (by first | assumption | omega)) dX7_leave_55 ?_
      refine zr_iload2 X dX7_leave_56 ?_
      refine zr_callV1 (rm9 := zrm_X1_isFirstDueOn) X hnt zm_X7_221 (by decide) (by decide) (by decide) (Nat.le_of_ble_eq_true rfl) dX7_leave_57 ?_
      refine zn_X1_isFirstDueOn (s9 := s9) hR (by omega) hs (hW.pad _) ?_ ?_
      · skip
        intro hd3
        refine zr_if_eq (tgt := 73) X dX7_leave_60 (by decide) (fun h => absurd h (by decide)) (fun _ => ?_)
        refine zr_throwS (i := 29) X hnt zth_ise rfl dX7_leave_63 dX7_leave_66 dX7_leave_67 dX7_leave_69 dX7_leave_72 ⟨by decide, by decide⟩ (Nat.le_of_ble_eq_true rfl) (by decide) (by decide) ?_
        exact absurd ⟨by assumption, by assumption⟩ kd
      · skip
        intro hd3
        refine zr_if_eq (tgt := 73) X dX7_leave_60 (by decide) (fun _ => ?_) (fun h => absurd h (by decide))
        refine zr_aload0 X dX7_leave_73 ?_
        refine zr_getR X zf_X7_39 rfl (by decide) (by decide) dX7_leave_74 ?_
        refine zr_aload0 X dX7_leave_77 ?_
        refine zr_getR X zf_X7_26 rfl (by decide) (by decide) dX7_leave_78 ?_
        refine zr_callV1 (rm9 := zrm_X2_remember) X hnt zm_X7_72 (by decide) (by decide) (by decide) (Nat.le_of_ble_eq_true rfl) dX7_leave_81 ?_
        refine zp_X2_remember (S := S) (U := U) hC.2.2.2.2.2.1 hC.2.2.1 ?_
        intro J29 hg30 hG31; have hC32 : zCl F9 J29 x t f er S (qPush S U) := hC.past hg30 hG31 (qPush_wf hW hC.2.2.2.2.2.2)
        refine zr_aload4 X dX7_leave_84 ?_
        refine zr_iload3 X dX7_leave_86 ?_
        refine zr_callV1 (rm9 := zrm_X4_removeAt) X hnt zm_X7_229 (by decide) (by decide) (by decide) (Nat.le_of_ble_eq_true rfl) dX7_leave_87 ?_
        refine zp_X4_removeAt (k := p9) (w := (sL S g 0)) (hC32.2.2.1.2.2.1 g (by omega)).2.1 (by rw [← hs1]; exact hp) ?_
        intro J33 hg34 hl35; have hR36 : zRw J33 (x + 4) (tL S g 0 ((sL S g 0).eraseIdx p9)) := zRw_L hC32.2.2.1 (show g < 6 by omega) (Or.inl ⟨rfl, rfl⟩) hg34 hl35
        refine zr_popI X dX7_leave_90 ?_
        refine zr_aload4 X dX7_leave_91 ?_
        refine zr_getI X zf_X7_154 rfl dX7_leave_93 ?_
        refine zr_eq (x2 := (nI ((sL (tL S g 0 ((sL S g 0).eraseIdx p9)) g 0).length))) ((hR36.2.2.1 g (by omega)).2.1.1) ?_
        refine zr_iret X (by decide) (by decide) dX7_leave_96 ?_
        subst hs1
        have e9 : sL (tL S g 0 ((sL S g 0).eraseIdx p9)) g 0 = (sL S g 0).eraseIdx p9 := zu2_eq
        rw [e9, zlen_erase hp]
        exact k1 _ (hC32.now (show zag J29 J33 (x + 4) 45 by repeat (first | exact zag.rf | assumption | refine zag.put ?_ (by omega) (by omega) | refine zag.tr ?_ (by assumption) (by omega) (by omega))) hR36 (zWf_leave hW hp kd))
  · skip
    refine zr_astore4 X (by decide) rfl dX7_leave_22 ?_
    refine zr_aload4 X dX7_leave_24 ?_
    refine zr_iload3 X dX7_leave_26 ?_
    refine zr_callV1 (rm9 := zrm_X4_hasPlace) X hnt zm_X7_121 (by decide) (by decide) (by decide) (Nat.le_of_ble_eq_true rfl) dX7_leave_27 ?_
    refine zn_X4_hasPlace (w := (sL S g 1)) (hR.2.2.1 g (by omega)).2.2 (fun _ _ _ => ?_) (fun h => absurd rfl (h p9 (by rw [← hs1]; exact hp)))
    refine zr_if_ne (tgt := 43) X dX7_leave_30 (by decide) (fun _ => ?_) (fun h => absurd h (by decide))
    refine zr_iload3 X dX7_leave_43 ?_
    refine zr_nif_ne X (p9) (tgt := 73) (by omega) dX7_leave_44 (by decide) (fun h4 => ?_) (fun h4 => ?_)
    · skip
      refine zr_aload0 X dX7_leave_73 ?_
      refine zr_getR X zf_X7_39 rfl (by decide) (by decide) dX7_leave_74 ?_
      refine zr_aload0 X dX7_leave_77 ?_
      refine zr_getR X zf_X7_26 rfl (by decide) (by decide) dX7_leave_78 ?_
      refine zr_callV1 (rm9 := zrm_X2_remember) X hnt zm_X7_72 (by decide) (by decide) (by decide) (Nat.le_of_ble_eq_true rfl) dX7_leave_81 ?_
      refine zp_X2_remember (S := S) (U := U) hC.2.2.2.2.2.1 hC.2.2.1 ?_
      intro J37 hg38 hG39; have hC40 : zCl F9 J37 x t f er S (qPush S U) := hC.past hg38 hG39 (qPush_wf hW hC.2.2.2.2.2.2)
      refine zr_aload4 X dX7_leave_84 ?_
      refine zr_iload3 X dX7_leave_86 ?_
      refine zr_callV1 (rm9 := zrm_X4_removeAt) X hnt zm_X7_229 (by decide) (by decide) (by decide) (Nat.le_of_ble_eq_true rfl) dX7_leave_87 ?_
      refine zp_X4_removeAt (k := p9) (w := (sL S g 1)) (hC40.2.2.1.2.2.1 g (by omega)).2.2 (by rw [← hs1]; exact hp) ?_
      intro J41 hg42 hl43; have hR44 : zRw J41 (x + 4) (tL S g 1 ((sL S g 1).eraseIdx p9)) := zRw_L hC40.2.2.1 (show g < 6 by omega) (Or.inr ⟨rfl, rfl⟩) hg42 hl43
      refine zr_popI X dX7_leave_90 ?_
      refine zr_aload4 X dX7_leave_91 ?_
      refine zr_getI X zf_X7_154 rfl dX7_leave_93 ?_
      refine zr_eq (x2 := (nI ((sL (tL S g 1 ((sL S g 1).eraseIdx p9)) g 1).length))) ((hR44.2.2.1 g (by omega)).2.2.1) ?_
      refine zr_iret X (by decide) (by decide) dX7_leave_96 ?_
      subst hs1
      have e9 : sL (tL S g 1 ((sL S g 1).eraseIdx p9)) g 1 = (sL S g 1).eraseIdx p9 := zu2_eq
      rw [e9, zlen_erase hp]
      exact k1 _ (hC40.now (show zag J37 J41 (x + 4) 45 by repeat (first | exact zag.rf | assumption | refine zag.put ?_ (by omega) (by omega) | refine zag.tr ?_ (by assumption) (by omega) (by omega))) hR44 (zWf_leave hW hp kd))
    · skip
      refine zr_aload0 X dX7_leave_47 ?_
      refine zr_getR X zf_X7_26 rfl (by decide) (by decide) dX7_leave_48 ?_
      refine zr_getR X zf_X7_98 rfl (by decide) (by decide) dX7_leave_51 ?_
      refine zr_iload1 X dX7_leave_54 ?_
      refine zr_aaldN X rfl rfl (by decide) (show _ < 6 from (by first | assumption | omega)) dX7_leave_55 ?_
      refine zr_iload2 X dX7_leave_56 ?_
      refine zr_callV1 (rm9 := zrm_X1_isFirstDueOn) X hnt zm_X7_221 (by decide) (by decide) (by decide) (Nat.le_of_ble_eq_true rfl) dX7_leave_57 ?_
      refine zn_X1_isFirstDueOn (s9 := s9) hR (by omega) hs (hW.pad _) ?_ ?_
      · skip
        intro hd5
        refine zr_if_eq (tgt := 73) X dX7_leave_60 (by decide) (fun h => absurd h (by decide)) (fun _ => ?_)
        refine zr_throwS (i := 29) X hnt zth_ise rfl dX7_leave_63 dX7_leave_66 dX7_leave_67 dX7_leave_69 dX7_leave_72 ⟨by decide, by decide⟩ (Nat.le_of_ble_eq_true rfl) (by decide) (by decide) ?_
        exact absurd ⟨by assumption, by assumption⟩ kd
      · skip
        intro hd5
        refine zr_if_eq (tgt := 73) X dX7_leave_60 (by decide) (fun _ => ?_) (fun h => absurd h (by decide))
        refine zr_aload0 X dX7_leave_73 ?_
        refine zr_getR X zf_X7_39 rfl (by decide) (by decide) dX7_leave_74 ?_
        refine zr_aload0 X dX7_leave_77 ?_
        refine zr_getR X zf_X7_26 rfl (by decide) (by decide) dX7_leave_78 ?_
        refine zr_callV1 (rm9 := zrm_X2_remember) X hnt zm_X7_72 (by decide) (by decide) (by decide) (Nat.le_of_ble_eq_true rfl) dX7_leave_81 ?_
        refine zp_X2_remember (S := S) (U := U) hC.2.2.2.2.2.1 hC.2.2.1 ?_
        intro J45 hg46 hG47; have hC48 : zCl F9 J45 x t f er S (qPush S U) := hC.past hg46 hG47 (qPush_wf hW hC.2.2.2.2.2.2)
        refine zr_aload4 X dX7_leave_84 ?_
        refine zr_iload3 X dX7_leave_86 ?_
        refine zr_callV1 (rm9 := zrm_X4_removeAt) X hnt zm_X7_229 (by decide) (by decide) (by decide) (Nat.le_of_ble_eq_true rfl) dX7_leave_87 ?_
        refine zp_X4_removeAt (k := p9) (w := (sL S g 1)) (hC48.2.2.1.2.2.1 g (by omega)).2.2 (by rw [← hs1]; exact hp) ?_
        intro J49 hg50 hl51; have hR52 : zRw J49 (x + 4) (tL S g 1 ((sL S g 1).eraseIdx p9)) := zRw_L hC48.2.2.1 (show g < 6 by omega) (Or.inr ⟨rfl, rfl⟩) hg50 hl51
        refine zr_popI X dX7_leave_90 ?_
        refine zr_aload4 X dX7_leave_91 ?_
        refine zr_getI X zf_X7_154 rfl dX7_leave_93 ?_
        refine zr_eq (x2 := (nI ((sL (tL S g 1 ((sL S g 1).eraseIdx p9)) g 1).length))) ((hR52.2.2.1 g (by omega)).2.2.1) ?_
        refine zr_iret X (by decide) (by decide) dX7_leave_96 ?_
        subst hs1
        have e9 : sL (tL S g 1 ((sL S g 1).eraseIdx p9)) g 1 = (sL S g 1).eraseIdx p9 := zu2_eq
        rw [e9, zlen_erase hp]
        exact k1 _ (hC48.now (show zag J45 J49 (x + 4) 45 by repeat (first | exact zag.rf | assumption | refine zag.put ?_ (by omega) (by omega) | refine zag.tr ?_ (by assumption) (by omega) (by omega))) hR52 (zWf_leave hW hp kd))
set_option maxRecDepth 20000 in
theorem zx4_X7_leave {l : Launch} {D : va_G} {b0 : Nat} {tA : Nat → ClassId} {sa sv : Nat → Nat} {K : zKt} {I : zI} {Qp : zI → Option AV → Prop} {Xp : String → zI → Prop} {F9 : zI} {x f : Nat} {t : Nat → Nat} {er : Int32} {S : zS} {U : List zS} {g s9 p9 : Nat}
    (hC : zCl F9 I x t f er S U) (hg : g < zng S) (hs : s9 < 2) (hp : p9 < (sL S g s9).length) (kd : (p9 = 0 ∧ sG S g 3 = 1 ∧ sG S g 2 = nI (s9 + 1))) (kx : Xp "java/lang/IllegalStateException" I) :
    zC l D b0 tA sa sv K yX7_leave (.code yX7_leave cX7_leave 5 (some .int)) zrm_X7_leave [vr (x) 7, vi ((nI g)), vi ((nI s9)), vi ((nI p9))] I Qp Xp := by
  have hR := hC.2.2.1
  have hW := hC.2.2.2.1
  have hg6 := hW.ng.1
  have hc12 := hW.nc.1
  have hf5 := hC.1.2.1
  have hl9 : p9 < 10 := Nat.lt_of_lt_of_le hp (hW.len g s9)
  refine zC_of (by decide +kernel) (Nat.le_of_ble_eq_true rfl) ?_
  intro p e s m args below meth c X hnt
  have X : zX p l e zrm_X7_leave s m args below meth c RX7 cX7_leave 5 (some .int) D b0 tA sa sv := X
  refine zr_lv (lv2 := [some (vr (x) 7), some (vi ((nI g))), some (vi ((nI s9))), some (vi ((nI p9))), none]) rfl ?_
  refine zr_aload0 X dX7_leave_0 ?_
  refine zr_iload1 X dX7_leave_1 ?_
  refine zr_callV1 (rm9 := zrm_X7_requireGate) X hnt zm_X7_95 (by decide) (by decide) (by decide) (Nat.le_of_ble_eq_true rfl) dX7_leave_2 ?_
  refine zo_X7_requireGate hC hg ?_
  refine zr_iload2 X dX7_leave_5 ?_
  refine zr_callS1 (rm9 := zrm_X7_requireSide) X hnt zm_X7_114 (by decide) (by decide) (by decide) (Nat.le_of_ble_eq_true rfl) dX7_leave_6 ?_
  refine zo_X7_requireSide hs ?_
  refine zr_aload0 X dX7_leave_9 ?_
  refine zr_getR X zf_X7_26 rfl (by decide) (by decide) dX7_leave_10 ?_
  refine zr_getR X zf_X7_98 rfl (by decide) (by decide) dX7_leave_13 ?_
  refine zr_iload1 X dX7_leave_16 ?_
  refine zr_aaldN X rfl rfl (by decide) (show _ < 6 from (by first | assumption | omega)) dX7_leave_17 ?_
  refine zr_iload2 X dX7_leave_18 ?_
  refine zr_callV1 (rm9 := zrm_X1_lineOn) X hnt zm_X7_117 (by decide) (by decide) (by decide) (Nat.le_of_ble_eq_true rfl) dX7_leave_19 ?_
  refine zn_X1_lineOn (s9) (by omega) (fun hs1 => ?_) (fun hs1 => ?_)
  · skip
    refine zr_astore4 X (by decide) rfl dX7_leave_22 ?_
    refine zr_aload4 X dX7_leave_24 ?_
    refine zr_iload3 X dX7_leave_26 ?_
    refine zr_callV1 (rm9 := zrm_X4_hasPlace) X hnt zm_X7_121 (by decide) (by decide) (by decide) (Nat.le_of_ble_eq_true rfl) dX7_leave_27 ?_
    refine zn_X4_hasPlace (w := (sL S g 0)) (hR.2.2.1 g (by omega)).2.1 (fun _ _ _ => ?_) (fun h => absurd rfl (h p9 (by rw [← hs1]; exact hp)))
    refine zr_if_ne (tgt := 43) X dX7_leave_30 (by decide) (fun _ => ?_) (fun h => absurd h (by decide))
    refine zr_iload3 X dX7_leave_43 ?_
    refine zr_nif_ne X (p9) (tgt := 73) (by omega) dX7_leave_44 (by decide) (fun h2 => ?_) (fun h2 => ?_)
    · skip
      first | exact absurd kd.1 (by assumption) | exact absurd kd.2 (by assumption)
    · skip
      refine zr_aload0 X dX7_leave_47 ?_
      refine zr_getR X zf_X7_26 rfl (by decide) (by decide) dX7_leave_48 ?_
      refine zr_getR X zf_X7_98 rfl (by decide) (by decide) dX7_leave_51 ?_
      refine zr_iload1 X dX7_leave_54 ?_
      refine zr_aaldN X rfl rfl (by decide) (show _ < 6 from (by first | assumption | omega)) dX7_leave_55 ?_
      refine zr_iload2 X dX7_leave_56 ?_
      refine zr_callV1 (rm9 := zrm_X1_isFirstDueOn) X hnt zm_X7_221 (by decide) (by decide) (by decide) (Nat.le_of_ble_eq_true rfl) dX7_leave_57 ?_
      refine zn_X1_isFirstDueOn (s9 := s9) hR (by omega) hs (hW.pad _) ?_ ?_
      · skip
        intro hd3
        refine zr_if_eq (tgt := 73) X dX7_leave_60 (by decide) (fun h => absurd h (by decide)) (fun _ => ?_)
        refine zr_throwS (i := 29) X hnt zth_ise rfl dX7_leave_63 dX7_leave_66 dX7_leave_67 dX7_leave_69 dX7_leave_72 ⟨by decide, by decide⟩ (Nat.le_of_ble_eq_true rfl) (by decide) (by decide) ?_
        exact kx
      · skip
        intro hd3
        refine zr_if_eq (tgt := 73) X dX7_leave_60 (by decide) (fun _ => ?_) (fun h => absurd h (by decide))
        first | exact absurd kd.1 (by assumption) | exact absurd kd.2 (by assumption)
  · skip
    refine zr_astore4 X (by decide) rfl dX7_leave_22 ?_
    refine zr_aload4 X dX7_leave_24 ?_
    refine zr_iload3 X dX7_leave_26 ?_
    refine zr_callV1 (rm9 := zrm_X4_hasPlace) X hnt zm_X7_121 (by decide) (by decide) (by decide) (Nat.le_of_ble_eq_true rfl) dX7_leave_27 ?_
    refine zn_X4_hasPlace (w := (sL S g 1)) (hR.2.2.1 g (by omega)).2.2 (fun _ _ _ => ?_) (fun h => absurd rfl (h p9 (by rw [← hs1]; exact hp)))
    refine zr_if_ne (tgt := 43) X dX7_leave_30 (by decide) (fun _ => ?_) (fun h => absurd h (by decide))
    refine zr_iload3 X dX7_leave_43 ?_
    refine zr_nif_ne X (p9) (tgt := 73) (by omega) dX7_leave_44 (by decide) (fun h4 => ?_) (fun h4 => ?_)
    · skip
      first | exact absurd kd.1 (by assumption) | exact absurd kd.2 (by assumption)
    · skip
      refine zr_aload0 X dX7_leave_47 ?_
      refine zr_getR X zf_X7_26 rfl (by decide) (by decide) dX7_leave_48 ?_
      refine zr_getR X zf_X7_98 rfl (by decide) (by decide) dX7_leave_51 ?_
      refine zr_iload1 X dX7_leave_54 ?_
      refine zr_aaldN X rfl rfl (by decide) (show _ < 6 from (by first | assumption | omega)) dX7_leave_55 ?_
      refine zr_iload2 X dX7_leave_56 ?_
      refine zr_callV1 (rm9 := zrm_X1_isFirstDueOn) X hnt zm_X7_221 (by decide) (by decide) (by decide) (Nat.le_of_ble_eq_true rfl) dX7_leave_57 ?_
      refine zn_X1_isFirstDueOn (s9 := s9) hR (by omega) hs (hW.pad _) ?_ ?_
      · skip
        intro hd5
        refine zr_if_eq (tgt := 73) X dX7_leave_60 (by decide) (fun h => absurd h (by decide)) (fun _ => ?_)
        refine zr_throwS (i := 29) X hnt zth_ise rfl dX7_leave_63 dX7_leave_66 dX7_leave_67 dX7_leave_69 dX7_leave_72 ⟨by decide, by decide⟩ (Nat.le_of_ble_eq_true rfl) (by decide) (by decide) ?_
        exact kx
      · skip
        intro hd5
        refine zr_if_eq (tgt := 73) X dX7_leave_60 (by decide) (fun _ => ?_) (fun h => absurd h (by decide))
        first | exact absurd kd.1 (by assumption) | exact absurd kd.2 (by assumption)
set_option maxRecDepth 20000 in
theorem zx3_X7_leave {l : Launch} {D : va_G} {b0 : Nat} {tA : Nat → ClassId} {sa sv : Nat → Nat} {K : zKt} {I : zI} {Qp : zI → Option AV → Prop} {Xp : String → zI → Prop} {F9 : zI} {x f : Nat} {t : Nat → Nat} {er : Int32} {S : zS} {U : List zS} {g s9 : Nat} {v3 : Int32}
    (hC : zCl F9 I x t f er S U) (hg : g < zng S) (hs : s9 < 2) (hb : vIdx v3 ((sL S g s9).length) = none) (kx : Xp "java/util/NoSuchElementException" I) :
    zC l D b0 tA sa sv K yX7_leave (.code yX7_leave cX7_leave 5 (some .int)) zrm_X7_leave [vr (x) 7, vi ((nI g)), vi ((nI s9)), vi (v3)] I Qp Xp := by
  have hR := hC.2.2.1
  have hW := hC.2.2.2.1
  have hg6 := hW.ng.1
  have hc12 := hW.nc.1
  have hf5 := hC.1.2.1
  refine zC_of (by decide +kernel) (Nat.le_of_ble_eq_true rfl) ?_
  intro p e s m args below meth c X hnt
  have X : zX p l e zrm_X7_leave s m args below meth c RX7 cX7_leave 5 (some .int) D b0 tA sa sv := X
  refine zr_lv (lv2 := [some (vr (x) 7), some (vi ((nI g))), some (vi ((nI s9))), some (vi (v3)), none]) rfl ?_
  refine zr_aload0 X dX7_leave_0 ?_
  refine zr_iload1 X dX7_leave_1 ?_
  refine zr_callV1 (rm9 := zrm_X7_requireGate) X hnt zm_X7_95 (by decide) (by decide) (by decide) (Nat.le_of_ble_eq_true rfl) dX7_leave_2 ?_
  refine zo_X7_requireGate hC hg ?_
  refine zr_iload2 X dX7_leave_5 ?_
  refine zr_callS1 (rm9 := zrm_X7_requireSide) X hnt zm_X7_114 (by decide) (by decide) (by decide) (Nat.le_of_ble_eq_true rfl) dX7_leave_6 ?_
  refine zo_X7_requireSide hs ?_
  refine zr_aload0 X dX7_leave_9 ?_
  refine zr_getR X zf_X7_26 rfl (by decide) (by decide) dX7_leave_10 ?_
  refine zr_getR X zf_X7_98 rfl (by decide) (by decide) dX7_leave_13 ?_
  refine zr_iload1 X dX7_leave_16 ?_
  refine zr_aaldN X rfl rfl (by decide) (show _ < 6 from (by first | assumption | omega)) dX7_leave_17 ?_
  refine zr_iload2 X dX7_leave_18 ?_
  refine zr_callV1 (rm9 := zrm_X1_lineOn) X hnt zm_X7_117 (by decide) (by decide) (by decide) (Nat.le_of_ble_eq_true rfl) dX7_leave_19 ?_
  refine zn_X1_lineOn (s9) (by omega) (fun hs1 => ?_) (fun hs1 => ?_)
  · skip
    refine zr_astore4 X (by decide) rfl dX7_leave_22 ?_
    refine zr_aload4 X dX7_leave_24 ?_
    refine zr_iload3 X dX7_leave_26 ?_
    refine zr_callV1 (rm9 := zrm_X4_hasPlace) X hnt zm_X7_121 (by decide) (by decide) (by decide) (Nat.le_of_ble_eq_true rfl) dX7_leave_27 ?_
    refine zn_X4_hasPlace (w := (sL S g 0)) (hR.2.2.1 g (by omega)).2.1 (fun k hk e => absurd e (vIdx_none (by have := hW.len g 0; omega) (by rw [← hs1]; exact hb) k hk)) (fun _ => ?_)
    refine zr_if_ne (tgt := 43) X dX7_leave_30 (by decide) (fun h => absurd h (by decide)) (fun _ => ?_)
    refine zr_throwN (i := 25) X hnt zth_nse rfl dX7_leave_33 dX7_leave_36 dX7_leave_37 dX7_leave_39 dX7_leave_42 ⟨by decide, by decide⟩ (Nat.le_of_ble_eq_true rfl) (by decide) (by decide) ?_
    exact kx
  · skip
    refine zr_astore4 X (by decide) rfl dX7_leave_22 ?_
    refine zr_aload4 X dX7_leave_24 ?_
    refine zr_iload3 X dX7_leave_26 ?_
    refine zr_callV1 (rm9 := zrm_X4_hasPlace) X hnt zm_X7_121 (by decide) (by decide) (by decide) (Nat.le_of_ble_eq_true rfl) dX7_leave_27 ?_
    refine zn_X4_hasPlace (w := (sL S g 1)) (hR.2.2.1 g (by omega)).2.2 (fun k hk e => absurd e (vIdx_none (by have := hW.len g 1; omega) (by rw [← hs1]; exact hb) k hk)) (fun _ => ?_)
    refine zr_if_ne (tgt := 43) X dX7_leave_30 (by decide) (fun h => absurd h (by decide)) (fun _ => ?_)
    refine zr_throwN (i := 25) X hnt zth_nse rfl dX7_leave_33 dX7_leave_36 dX7_leave_37 dX7_leave_39 dX7_leave_42 ⟨by decide, by decide⟩ (Nat.le_of_ble_eq_true rfl) (by decide) (by decide) ?_
    exact kx
set_option maxRecDepth 20000 in
theorem zx2_X7_leave {l : Launch} {D : va_G} {b0 : Nat} {tA : Nat → ClassId} {sa sv : Nat → Nat} {K : zKt} {I : zI} {Qp : zI → Option AV → Prop} {Xp : String → zI → Prop} {F9 : zI} {x f : Nat} {t : Nat → Nat} {er : Int32} {S : zS} {U : List zS} {g : Nat} {v v3 : Int32}
    (hC : zCl F9 I x t f er S U) (hg : g < zng S) (hb : vIdx v (2) = none) (kx : Xp "java/lang/IllegalArgumentException" I) :
    zC l D b0 tA sa sv K yX7_leave (.code yX7_leave cX7_leave 5 (some .int)) zrm_X7_leave [vr (x) 7, vi ((nI g)), vi (v), vi (v3)] I Qp Xp := by
  have hR := hC.2.2.1
  have hW := hC.2.2.2.1
  have hg6 := hW.ng.1
  have hc12 := hW.nc.1
  have hf5 := hC.1.2.1
  refine zC_of (by decide +kernel) (Nat.le_of_ble_eq_true rfl) ?_
  intro p e s m args below meth c X hnt
  have X : zX p l e zrm_X7_leave s m args below meth c RX7 cX7_leave 5 (some .int) D b0 tA sa sv := X
  refine zr_lv (lv2 := [some (vr (x) 7), some (vi ((nI g))), some (vi (v)), some (vi (v3)), none]) rfl ?_
  refine zr_aload0 X dX7_leave_0 ?_
  refine zr_iload1 X dX7_leave_1 ?_
  refine zr_callV1 (rm9 := zrm_X7_requireGate) X hnt zm_X7_95 (by decide) (by decide) (by decide) (Nat.le_of_ble_eq_true rfl) dX7_leave_2 ?_
  refine zo_X7_requireGate hC hg ?_
  refine zr_iload2 X dX7_leave_5 ?_
  refine zr_callS1 (rm9 := zrm_X7_requireSide) X hnt zm_X7_114 (by decide) (by decide) (by decide) (Nat.le_of_ble_eq_true rfl) dX7_leave_6 ?_
  exact zx_X7_requireSide hb kx
set_option maxRecDepth 20000 in
theorem zx1_X7_leave {l : Launch} {D : va_G} {b0 : Nat} {tA : Nat → ClassId} {sa sv : Nat → Nat} {K : zKt} {I : zI} {Qp : zI → Option AV → Prop} {Xp : String → zI → Prop} {F9 : zI} {x f : Nat} {t : Nat → Nat} {er : Int32} {S : zS} {U : List zS} {u v v3 : Int32}
    (hC : zCl F9 I x t f er S U) (hb : vIdx u (zng S) = none) (kx : Xp "java/lang/IndexOutOfBoundsException" I) :
    zC l D b0 tA sa sv K yX7_leave (.code yX7_leave cX7_leave 5 (some .int)) zrm_X7_leave [vr (x) 7, vi (u), vi (v), vi (v3)] I Qp Xp := by
  have hR := hC.2.2.1
  have hW := hC.2.2.2.1
  have hg6 := hW.ng.1
  have hc12 := hW.nc.1
  have hf5 := hC.1.2.1
  refine zC_of (by decide +kernel) (Nat.le_of_ble_eq_true rfl) ?_
  intro p e s m args below meth c X hnt
  have X : zX p l e zrm_X7_leave s m args below meth c RX7 cX7_leave 5 (some .int) D b0 tA sa sv := X
  refine zr_lv (lv2 := [some (vr (x) 7), some (vi (u)), some (vi (v)), some (vi (v3)), none]) rfl ?_
  refine zr_aload0 X dX7_leave_0 ?_
  refine zr_iload1 X dX7_leave_1 ?_
  refine zr_callV1 (rm9 := zrm_X7_requireGate) X hnt zm_X7_95 (by decide) (by decide) (by decide) (Nat.le_of_ble_eq_true rfl) dX7_leave_2 ?_
  exact zx_X7_requireGate hC hb kx
def rLeave (S : zS) (u v v3 : Int32) : Nat × Int32 := match vIdx u (zng S) with | none => (1, 0) | some g => match vIdx v 2 with | none => (2, 0) | some s => match vIdx v3 (sL S g s).length with | none => (3, 0) | some p => if p = 0 ∧ sG S g 3 = 1 ∧ sG S g 2 = nI (s + 1) then (4, 0) else (0, nI ((sL S g s).length - 1))
def sLeave (S : zS) (u v v3 : Int32) : zS := match vIdx u (zng S) with | none => S | some g => match vIdx v 2 with | none => S | some s => match vIdx v3 (sL S g s).length with | none => S | some p => tL S g s ((sL S g s).eraseIdx p)
theorem zq_X7_leave {l : Launch} {D : va_G} {b0 : Nat} {tA : Nat → ClassId} {sa sv : Nat → Nat} {K : zKt} {I : zI} {Qp : zI → Option AV → Prop} {Xp : String → zI → Prop} {F9 : zI} {x f : Nat} {t : Nat → Nat} {er : Int32} {S : zS} {U : List zS} {u v v3 : Int32}
    (hC : zCl F9 I x t f er S U) (k0 : (rLeave S u v v3).1 = 0 → ∀ J : zI, zCl F9 J x t f er (sLeave S u v v3) (qPush S U) → Qp J (some (vi (rLeave S u v v3).2))) (kx1 : (rLeave S u v v3).1 = 1 → Xp "java/lang/IndexOutOfBoundsException" I) (kx2 : (rLeave S u v v3).1 = 2 → Xp "java/lang/IllegalArgumentException" I) (kx3 : (rLeave S u v v3).1 = 3 → Xp "java/util/NoSuchElementException" I) (kx4 : (rLeave S u v v3).1 = 4 → Xp "java/lang/IllegalStateException" I) :
    zC l D b0 tA sa sv K yX7_leave (.code yX7_leave cX7_leave 5 (some .int)) zrm_X7_leave [vr (x) 7, vi (u), vi (v), vi (v3)] I Qp Xp := by
  unfold rLeave at k0 kx1 kx2 kx3 kx4
  unfold sLeave at k0
  cases e1 : vIdx u (zng S) with
  | none => rw [e1] at kx1; exact zx1_X7_leave hC e1 (kx1 rfl)
  | some g =>
    rw [e1] at k0 kx2 kx3 kx4
    obtain ⟨h1, rfl⟩ := vIdx_some e1
    cases e2 : vIdx v 2 with
    | none => simp only [e2] at kx2; exact zx2_X7_leave hC h1 e2 (kx2 (by first | rfl | trivial))
    | some w =>
      simp only [e2] at k0 kx3 kx4
      obtain ⟨h2, rfl⟩ := vIdx_some e2
      cases e3 : vIdx v3 (sL S g w).length with
      | none => simp only [e3] at kx3; exact zx3_X7_leave hC h1 h2 e3 (kx3 (by first | rfl | trivial))
      | some p =>
        simp only [e3] at k0 kx4
        obtain ⟨h3, rfl⟩ := vIdx_some e3
        by_cases h4 : p = 0 ∧ sG S g 3 = 1 ∧ sG S g 2 = nI (w + 1)
        · rw [if_pos h4] at kx4; exact zx4_X7_leave hC h1 h2 h3 h4 (kx4 rfl)
        · rw [if_neg h4] at k0; exact zo_X7_leave hC h1 h2 h3 h4 (k0 rfl)
abbrev zrm_X7_mode : Room := { frames := 9, cells := 2, slots := 12, locals := 141 }
set_option maxRecDepth 20000 in
theorem zo_X7_mode {l : Launch} {D : va_G} {b0 : Nat} {tA : Nat → ClassId} {sa sv : Nat → Nat} {K : zKt} {I : zI} {Qp : zI → Option AV → Prop} {Xp : String → zI → Prop} {F9 : zI} {x f : Nat} {t : Nat → Nat} {er : Int32} {S : zS} {U : List zS} {g k9 : Nat}
    (hC : zCl F9 I x t f er S U) (hg : g < zng S) (hk : k9 < 3) (kd : (sG S g 2 = 0 ∧ (qSv (nI k9) 0 ∨ sL S g 0 = []) ∧ (qSv (nI k9) 1 ∨ sL S g 1 = []))) (k1 : ∀ J : zI, zCl F9 J x t f er (tG S g 0 (nI k9)) (qPush S U) → Qp J (some (vi (sG S g 0)))) :
    zC l D b0 tA sa sv K yX7_mode (.code yX7_mode cX7_mode 4 (some .int)) zrm_X7_mode [vr (x) 7, vi ((nI g)), vi ((nI k9))] I Qp Xp := by
  have hR := hC.2.2.1
  have hW := hC.2.2.2.1
  have hg6 := hW.ng.1
  have hc12 := hW.nc.1
  have hf5 := hC.1.2.1
  refine zC_of (by decide +kernel) (Nat.le_of_ble_eq_true rfl) ?_
  intro p e s m args below meth c X hnt
  have X : zX p l e zrm_X7_mode s m args below meth c RX7 cX7_mode 4 (some .int) D b0 tA sa sv := X
  refine zr_lv (lv2 := [some (vr (x) 7), some (vi ((nI g))), some (vi ((nI k9))), none]) rfl ?_
  refine zr_aload0 X dX7_mode_0 ?_
  refine zr_iload1 X dX7_mode_1 ?_
  refine zr_callV1 (rm9 := zrm_X7_requireGate) X hnt zm_X7_95 (by decide) (by decide) (by decide) (Nat.le_of_ble_eq_true rfl) dX7_mode_2 ?_
  refine zo_X7_requireGate hC hg ?_
  refine zr_iload2 X dX7_mode_5 ?_
  refine zr_nif_lt X (k9) (tgt := 14) (by omega) dX7_mode_6 (by decide) (fun h => h.elim) (fun _ => ?_)
  refine zr_iload2 X dX7_mode_9 ?_
  refine zr_iconst (v := (2 : Int32)) X dX7_mode_10 (by decide) ?_
  refine zr_nicmp_le X (k9) (2) (tgt := 24) (by omega) (by omega) dX7_mode_11 (by decide) (fun h2 => ?_) (fun h2 => ?_)
  · skip
    refine zr_aload0 X dX7_mode_24 ?_
    refine zr_getR X zf_X7_26 rfl (by decide) (by decide) dX7_mode_25 ?_
    refine zr_getR X zf_X7_98 rfl (by decide) (by decide) dX7_mode_28 ?_
    refine zr_iload1 X dX7_mode_31 ?_
    refine zr_aaldN X rfl rfl (by decide) (show _ < 6 from (by first | assumption | omega)) dX7_mode_32 ?_
    refine zr_iload2 X dX7_mode_33 ?_
    refine zr_callV1 (rm9 := zrm_X1_canTakeMode) X hnt zm_X7_248 (by decide) (by decide) (by decide) (Nat.le_of_ble_eq_true rfl) dX7_mode_34 ?_
    refine zn_X1_canTakeMode hR (by omega) (hW.pad _) (hW.len _) ?_ ?_
    · skip
      intro hm3
      refine zr_if_ne (tgt := 50) X dX7_mode_37 (by decide) (fun _ => ?_) (fun h => absurd h (by decide))
      refine zr_aload0 X dX7_mode_50 ?_
      refine zr_getR X zf_X7_39 rfl (by decide) (by decide) dX7_mode_51 ?_
      refine zr_aload0 X dX7_mode_54 ?_
      refine zr_getR X zf_X7_26 rfl (by decide) (by decide) dX7_mode_55 ?_
      refine zr_callV1 (rm9 := zrm_X2_remember) X hnt zm_X7_72 (by decide) (by decide) (by decide) (Nat.le_of_ble_eq_true rfl) dX7_mode_58 ?_
      refine zp_X2_remember (S := S) (U := U) hC.2.2.2.2.2.1 hC.2.2.1 ?_
      intro J53 hg54 hG55; have hC56 : zCl F9 J53 x t f er S (qPush S U) := hC.past hg54 hG55 (qPush_wf hW hC.2.2.2.2.2.2)
      refine zr_aload0 X dX7_mode_61 ?_
      refine zr_getR X zf_X7_26 rfl (by decide) (by decide) dX7_mode_62 ?_
      refine zr_getR X zf_X7_98 rfl (by decide) (by decide) dX7_mode_65 ?_
      refine zr_iload1 X dX7_mode_68 ?_
      refine zr_aaldN X rfl rfl (by decide) (show _ < 6 from (by first | assumption | omega)) dX7_mode_69 ?_
      refine zr_getI X zf_X7_253 rfl dX7_mode_70 ?_
      refine zr_eq (x2 := (sG S g 0)) (zGt_j (j := 0) (hC56.2.2.1.2.2.1 g (by omega)) (by decide)) ?_
      refine zr_istore3 X (by decide) rfl dX7_mode_73 ?_
      refine zr_aload0 X dX7_mode_74 ?_
      refine zr_getR X zf_X7_26 rfl (by decide) (by decide) dX7_mode_75 ?_
      refine zr_getR X zf_X7_98 rfl (by decide) (by decide) dX7_mode_78 ?_
      refine zr_iload1 X dX7_mode_81 ?_
      refine zr_aaldN X rfl rfl (by decide) (show _ < 6 from (by first | assumption | omega)) dX7_mode_82 ?_
      refine zr_iload2 X dX7_mode_83 ?_
      refine zr_putI X zf_X7_253 rfl (Or.inl rfl) dX7_mode_84 ?_
      have hR_1 : zRw _ (x + 4) (tG S g 0 (nI k9)) := zRw_G hC56.2.2.1 (show g < 6 by omega) (j := 0) (v := (nI k9)) (by decide) rfl (x := (nI k9)) rfl
      refine zr_iload3 X dX7_mode_87 ?_
      refine zr_iret X (by decide) (by decide) dX7_mode_88 ?_
      exact k1 _ (hC56.now (show zag J53 (zput J53 (x + 4 + 1 + 2 + 5 * g) 2 ((nI k9))) (x + 4) 45 by repeat (first | exact zag.rf | assumption | refine zag.put ?_ (by omega) (by omega) | refine zag.tr ?_ (by assumption) (by omega) (by omega))) hR_1 (zWf_mode hW hg (by rcases (show k9 = 0 ∨ k9 = 1 ∨ k9 = 2 by omega) with rfl | rfl | rfl; exact Or.inl rfl; exact Or.inr (Or.inl rfl); exact Or.inr (Or.inr rfl))))
    · skip
      intro hm3
      refine zr_if_ne (tgt := 50) X dX7_mode_37 (by decide) (fun h => absurd h (by decide)) (fun _ => ?_)
      refine zr_throwS (i := 33) X hnt zth_ise rfl dX7_mode_40 dX7_mode_43 dX7_mode_44 dX7_mode_46 dX7_mode_49 ⟨by decide, by decide⟩ (Nat.le_of_ble_eq_true rfl) (by decide) (by decide) ?_
      first | exact absurd kd (by assumption) | (exfalso; omega)
  · skip
    refine zr_throwS (i := 32) X hnt zth_iae rfl dX7_mode_14 dX7_mode_17 dX7_mode_18 dX7_mode_20 dX7_mode_23 ⟨by decide, by decide⟩ (Nat.le_of_ble_eq_true rfl) (by decide) (by decide) ?_
    first | exact absurd kd (by assumption) | (exfalso; omega)
set_option maxRecDepth 20000 in
theorem zx3_X7_mode {l : Launch} {D : va_G} {b0 : Nat} {tA : Nat → ClassId} {sa sv : Nat → Nat} {K : zKt} {I : zI} {Qp : zI → Option AV → Prop} {Xp : String → zI → Prop} {F9 : zI} {x f : Nat} {t : Nat → Nat} {er : Int32} {S : zS} {U : List zS} {g k9 : Nat}
    (hC : zCl F9 I x t f er S U) (hg : g < zng S) (hk : k9 < 3) (kd : ¬ (sG S g 2 = 0 ∧ (qSv (nI k9) 0 ∨ sL S g 0 = []) ∧ (qSv (nI k9) 1 ∨ sL S g 1 = []))) (kx : Xp "java/lang/IllegalStateException" I) :
    zC l D b0 tA sa sv K yX7_mode (.code yX7_mode cX7_mode 4 (some .int)) zrm_X7_mode [vr (x) 7, vi ((nI g)), vi ((nI k9))] I Qp Xp := by
  have hR := hC.2.2.1
  have hW := hC.2.2.2.1
  have hg6 := hW.ng.1
  have hc12 := hW.nc.1
  have hf5 := hC.1.2.1
  refine zC_of (by decide +kernel) (Nat.le_of_ble_eq_true rfl) ?_
  intro p e s m args below meth c X hnt
  have X : zX p l e zrm_X7_mode s m args below meth c RX7 cX7_mode 4 (some .int) D b0 tA sa sv := X
  refine zr_lv (lv2 := [some (vr (x) 7), some (vi ((nI g))), some (vi ((nI k9))), none]) rfl ?_
  refine zr_aload0 X dX7_mode_0 ?_
  refine zr_iload1 X dX7_mode_1 ?_
  refine zr_callV1 (rm9 := zrm_X7_requireGate) X hnt zm_X7_95 (by decide) (by decide) (by decide) (Nat.le_of_ble_eq_true rfl) dX7_mode_2 ?_
  refine zo_X7_requireGate hC hg ?_
  refine zr_iload2 X dX7_mode_5 ?_
  refine zr_nif_lt X (k9) (tgt := 14) (by omega) dX7_mode_6 (by decide) (fun h => h.elim) (fun _ => ?_)
  refine zr_iload2 X dX7_mode_9 ?_
  refine zr_iconst (v := (2 : Int32)) X dX7_mode_10 (by decide) ?_
  refine zr_nicmp_le X (k9) (2) (tgt := 24) (by omega) (by omega) dX7_mode_11 (by decide) (fun h2 => ?_) (fun h2 => ?_)
  · skip
    refine zr_aload0 X dX7_mode_24 ?_
    refine zr_getR X zf_X7_26 rfl (by decide) (by decide) dX7_mode_25 ?_
    refine zr_getR X zf_X7_98 rfl (by decide) (by decide) dX7_mode_28 ?_
    refine zr_iload1 X dX7_mode_31 ?_
    refine zr_aaldN X rfl rfl (by decide) (show _ < 6 from (by first | assumption | omega)) dX7_mode_32 ?_
    refine zr_iload2 X dX7_mode_33 ?_
    refine zr_callV1 (rm9 := zrm_X1_canTakeMode) X hnt zm_X7_248 (by decide) (by decide) (by decide) (Nat.le_of_ble_eq_true rfl) dX7_mode_34 ?_
    refine zn_X1_canTakeMode hR (by omega) (hW.pad _) (hW.len _) ?_ ?_
    · skip
      intro hm3
      refine zr_if_ne (tgt := 50) X dX7_mode_37 (by decide) (fun _ => ?_) (fun h => absurd h (by decide))
      exact absurd (by assumption) kd
    · skip
      intro hm3
      refine zr_if_ne (tgt := 50) X dX7_mode_37 (by decide) (fun h => absurd h (by decide)) (fun _ => ?_)
      refine zr_throwS (i := 33) X hnt zth_ise rfl dX7_mode_40 dX7_mode_43 dX7_mode_44 dX7_mode_46 dX7_mode_49 ⟨by decide, by decide⟩ (Nat.le_of_ble_eq_true rfl) (by decide) (by decide) ?_
      exact kx
  · skip
    refine zr_throwS (i := 32) X hnt zth_iae rfl dX7_mode_14 dX7_mode_17 dX7_mode_18 dX7_mode_20 dX7_mode_23 ⟨by decide, by decide⟩ (Nat.le_of_ble_eq_true rfl) (by decide) (by decide) ?_
    exfalso; omega
set_option maxRecDepth 20000 in
theorem zx2_X7_mode {l : Launch} {D : va_G} {b0 : Nat} {tA : Nat → ClassId} {sa sv : Nat → Nat} {K : zKt} {I : zI} {Qp : zI → Option AV → Prop} {Xp : String → zI → Prop} {F9 : zI} {x f : Nat} {t : Nat → Nat} {er : Int32} {S : zS} {U : List zS} {g : Nat} {v : Int32}
    (hC : zCl F9 I x t f er S U) (hg : g < zng S) (hb : vIdx v (3) = none) (kx : Xp "java/lang/IllegalArgumentException" I) :
    zC l D b0 tA sa sv K yX7_mode (.code yX7_mode cX7_mode 4 (some .int)) zrm_X7_mode [vr (x) 7, vi ((nI g)), vi (v)] I Qp Xp := by
  have hR := hC.2.2.1
  have hW := hC.2.2.2.1
  have hg6 := hW.ng.1
  have hc12 := hW.nc.1
  have hf5 := hC.1.2.1
  refine zC_of (by decide +kernel) (Nat.le_of_ble_eq_true rfl) ?_
  intro p e s m args below meth c X hnt
  have X : zX p l e zrm_X7_mode s m args below meth c RX7 cX7_mode 4 (some .int) D b0 tA sa sv := X
  refine zr_lv (lv2 := [some (vr (x) 7), some (vi ((nI g))), some (vi (v)), none]) rfl ?_
  refine zr_aload0 X dX7_mode_0 ?_
  refine zr_iload1 X dX7_mode_1 ?_
  refine zr_callV1 (rm9 := zrm_X7_requireGate) X hnt zm_X7_95 (by decide) (by decide) (by decide) (Nat.le_of_ble_eq_true rfl) dX7_mode_2 ?_
  refine zo_X7_requireGate hC hg ?_
  refine zr_iload2 X dX7_mode_5 ?_
  refine zr_if_lt (tgt := 14) X dX7_mode_6 (by decide) (fun h1 => ?_) (fun h1 => ?_)
  · skip
    refine zr_throwS (i := 32) X hnt zth_iae rfl dX7_mode_14 dX7_mode_17 dX7_mode_18 dX7_mode_20 dX7_mode_23 ⟨by decide, by decide⟩ (Nat.le_of_ble_eq_true rfl) (by decide) (by decide) ?_
    exact kx
  · skip
    refine zr_iload2 X dX7_mode_9 ?_
    refine zr_iconst (v := (2 : Int32)) X dX7_mode_10 (by decide) ?_
    refine zr_icmp_le (tgt := 24) X dX7_mode_11 (by decide) (fun h2 => ?_) (fun h2 => ?_)
    · skip
      exact absurd hb (vIdx_le (by assumption) (by assumption))
    · skip
      refine zr_throwS (i := 32) X hnt zth_iae rfl dX7_mode_14 dX7_mode_17 dX7_mode_18 dX7_mode_20 dX7_mode_23 ⟨by decide, by decide⟩ (Nat.le_of_ble_eq_true rfl) (by decide) (by decide) ?_
      exact kx
set_option maxRecDepth 20000 in
theorem zx1_X7_mode {l : Launch} {D : va_G} {b0 : Nat} {tA : Nat → ClassId} {sa sv : Nat → Nat} {K : zKt} {I : zI} {Qp : zI → Option AV → Prop} {Xp : String → zI → Prop} {F9 : zI} {x f : Nat} {t : Nat → Nat} {er : Int32} {S : zS} {U : List zS} {u v : Int32}
    (hC : zCl F9 I x t f er S U) (hb : vIdx u (zng S) = none) (kx : Xp "java/lang/IndexOutOfBoundsException" I) :
    zC l D b0 tA sa sv K yX7_mode (.code yX7_mode cX7_mode 4 (some .int)) zrm_X7_mode [vr (x) 7, vi (u), vi (v)] I Qp Xp := by
  have hR := hC.2.2.1
  have hW := hC.2.2.2.1
  have hg6 := hW.ng.1
  have hc12 := hW.nc.1
  have hf5 := hC.1.2.1
  refine zC_of (by decide +kernel) (Nat.le_of_ble_eq_true rfl) ?_
  intro p e s m args below meth c X hnt
  have X : zX p l e zrm_X7_mode s m args below meth c RX7 cX7_mode 4 (some .int) D b0 tA sa sv := X
  refine zr_lv (lv2 := [some (vr (x) 7), some (vi (u)), some (vi (v)), none]) rfl ?_
  refine zr_aload0 X dX7_mode_0 ?_
  refine zr_iload1 X dX7_mode_1 ?_
  refine zr_callV1 (rm9 := zrm_X7_requireGate) X hnt zm_X7_95 (by decide) (by decide) (by decide) (Nat.le_of_ble_eq_true rfl) dX7_mode_2 ?_
  exact zx_X7_requireGate hC hb kx
def rMode (S : zS) (u v : Int32) : Nat × Int32 := match vIdx u (zng S) with | none => (1, 0) | some g => match vIdx v 3 with | none => (2, 0) | some k => if sG S g 2 = 0 ∧ (qSv (nI k) 0 ∨ sL S g 0 = []) ∧ (qSv (nI k) 1 ∨ sL S g 1 = []) then (0, sG S g 0) else (3, 0)
def sMode (S : zS) (u v : Int32) : zS := match vIdx u (zng S) with | none => S | some g => match vIdx v 3 with | none => S | some k => tG S g 0 (nI k)
theorem zq_X7_mode {l : Launch} {D : va_G} {b0 : Nat} {tA : Nat → ClassId} {sa sv : Nat → Nat} {K : zKt} {I : zI} {Qp : zI → Option AV → Prop} {Xp : String → zI → Prop} {F9 : zI} {x f : Nat} {t : Nat → Nat} {er : Int32} {S : zS} {U : List zS} {u v : Int32}
    (hC : zCl F9 I x t f er S U) (k0 : (rMode S u v).1 = 0 → ∀ J : zI, zCl F9 J x t f er (sMode S u v) (qPush S U) → Qp J (some (vi (rMode S u v).2))) (kx1 : (rMode S u v).1 = 1 → Xp "java/lang/IndexOutOfBoundsException" I) (kx2 : (rMode S u v).1 = 2 → Xp "java/lang/IllegalArgumentException" I) (kx3 : (rMode S u v).1 = 3 → Xp "java/lang/IllegalStateException" I) :
    zC l D b0 tA sa sv K yX7_mode (.code yX7_mode cX7_mode 4 (some .int)) zrm_X7_mode [vr (x) 7, vi (u), vi (v)] I Qp Xp := by
  unfold rMode at k0 kx1 kx2 kx3
  unfold sMode at k0
  cases e1 : vIdx u (zng S) with
  | none => rw [e1] at kx1; exact zx1_X7_mode hC e1 (kx1 rfl)
  | some g =>
    rw [e1] at k0 kx2 kx3
    obtain ⟨h1, rfl⟩ := vIdx_some e1
    cases e2 : vIdx v 3 with
    | none => simp only [e2] at kx2; exact zx2_X7_mode hC h1 e2 (kx2 (by first | rfl | trivial))
    | some k =>
      simp only [e2] at k0 kx3
      obtain ⟨h2, rfl⟩ := vIdx_some e2
      by_cases h3 : sG S g 2 = 0 ∧ (qSv (nI k) 0 ∨ sL S g 0 = []) ∧ (qSv (nI k) 1 ∨ sL S g 1 = [])
      · rw [if_pos h3] at k0; exact zo_X7_mode hC h1 h2 h3 (k0 rfl)
      · rw [if_neg h3] at kx3; exact zx3_X7_mode hC h1 h2 h3 (kx3 rfl)
def rUndo (U : List zS) : Int32 := match U with | [] => -1 | _ :: r => nI r.length
def sUndo (S : zS) (U : List zS) : zS := match U with | [] => S | u :: _ => u
abbrev zrm_X7_undo : Room := { frames := 4, cells := 0, slots := 0, locals := 86 }
set_option maxRecDepth 20000 in
theorem ze_X7_undo {l : Launch} {D : va_G} {b0 : Nat} {tA : Nat → ClassId} {sa sv : Nat → Nat} {K : zKt} {I : zI} {Qp : zI → Option AV → Prop} {Xp : String → zI → Prop} {F9 : zI} {x f : Nat} {t : Nat → Nat} {er : Int32} {S : zS}
    (hC : zCl F9 I x t f er S []) (k1 : Qp I (some (vi (-1)))) :
    zC l D b0 tA sa sv K yX7_undo (.code yX7_undo cX7_undo 1 (some .int)) zrm_X7_undo [vr (x) 7] I Qp Xp := by
  refine zC_of (by decide +kernel) (Nat.le_of_ble_eq_true rfl) ?_
  intro p e s m args below meth c X hnt
  have X : zX p l e zrm_X7_undo s m args below meth c RX7 cX7_undo 1 (some .int) D b0 tA sa sv := X
  refine zr_lv (lv2 := [some (vr (x) 7)]) rfl ?_
  refine zr_aload0 X dX7_undo_0 ?_
  refine zr_getR X zf_X7_39 rfl (by decide) (by decide) dX7_undo_1 ?_
  refine zr_getI X zf_X7_264 rfl dX7_undo_4 ?_
  refine zr_eq (x2 := (nI 0)) ((zRg_len hC.2.2.2.2.2.1).1) ?_
  refine zr_nif_ne X (0) (tgt := 12) (by omega) dX7_undo_7 (by decide) (fun h1 => ?_) (fun h1 => ?_)
  · exact absurd h1 (by omega)
  · skip
    refine zr_iconst (v := (-1 : Int32)) X dX7_undo_10 (by decide) ?_
    refine zr_iret X (by decide) (by decide) dX7_undo_11 ?_
    exact k1
set_option maxRecDepth 20000 in
theorem zo_X7_undo {l : Launch} {D : va_G} {b0 : Nat} {tA : Nat → ClassId} {sa sv : Nat → Nat} {K : zKt} {I : zI} {Qp : zI → Option AV → Prop} {Xp : String → zI → Prop} {F9 : zI} {x f : Nat} {t : Nat → Nat} {er : Int32} {S u9 : zS} {U : List zS}
    (hC : zCl F9 I x t f er S (u9 :: U)) (k1 : ∀ J : zI, zCl F9 J x t f er u9 U → Qp J (some (vi (nI U.length)))) :
    zC l D b0 tA sa sv K yX7_undo (.code yX7_undo cX7_undo 1 (some .int)) zrm_X7_undo [vr (x) 7] I Qp Xp := by
  have hl9 := (zRg_len hC.2.2.2.2.2.1).2
  rw [List.length_cons] at hl9
  refine zC_of (by decide +kernel) (Nat.le_of_ble_eq_true rfl) ?_
  intro p e s m args below meth c X hnt
  have X : zX p l e zrm_X7_undo s m args below meth c RX7 cX7_undo 1 (some .int) D b0 tA sa sv := X
  refine zr_lv (lv2 := [some (vr (x) 7)]) rfl ?_
  refine zr_aload0 X dX7_undo_0 ?_
  refine zr_getR X zf_X7_39 rfl (by decide) (by decide) dX7_undo_1 ?_
  refine zr_getI X zf_X7_264 rfl dX7_undo_4 ?_
  refine zr_eq (x2 := (nI (U.length + 1))) ((zRg_len hC.2.2.2.2.2.1).1) ?_
  refine zr_nif_ne X ((U.length + 1)) (tgt := 12) (by omega) dX7_undo_7 (by decide) (fun h1 => ?_) (fun h1 => ?_)
  · skip
    refine zr_aload0 X dX7_undo_12 ?_
    refine zr_getR X zf_X7_39 rfl (by decide) (by decide) dX7_undo_13 ?_
    refine zr_aload0 X dX7_undo_16 ?_
    refine zr_getR X zf_X7_26 rfl (by decide) (by decide) dX7_undo_17 ?_
    refine zr_callV1 (rm9 := zrm_X2_takeBack) X hnt zm_X7_267 (by decide) (by decide) (by decide) (Nat.le_of_ble_eq_true rfl) dX7_undo_20 ?_
    refine zp_X2_takeBack hC ?_
    intro J57 hC58
    refine zr_aload0 X dX7_undo_23 ?_
    refine zr_getR X zf_X7_39 rfl (by decide) (by decide) dX7_undo_24 ?_
    refine zr_getI X zf_X7_264 rfl dX7_undo_27 ?_
    refine zr_iret X (by decide) (by decide) dX7_undo_30 ?_
    rw [(zRg_len hC58.2.2.2.2.2.1).1]; exact k1 _ hC58
  · exact absurd h1 (by omega)
theorem zq_X7_undo {l : Launch} {D : va_G} {b0 : Nat} {tA : Nat → ClassId} {sa sv : Nat → Nat} {K : zKt} {I : zI} {Qp : zI → Option AV → Prop} {Xp : String → zI → Prop} {F9 : zI} {x f : Nat} {t : Nat → Nat} {er : Int32} {S : zS} {U : List zS} (hC : zCl F9 I x t f er S U) (k1 : ∀ J : zI, zCl F9 J x t f er (sUndo S U) U.tail → Qp J (some (vi (rUndo U)))) :
    zC l D b0 tA sa sv K yX7_undo (.code yX7_undo cX7_undo 1 (some .int)) zrm_X7_undo [vr (x) 7] I Qp Xp := by
  cases U with
  | nil => exact ze_X7_undo hC (k1 I hC)
  | cons u r => exact zo_X7_undo hC (fun J h => k1 J h)
theorem zCl.buf {I I' : zI} {F9 : zI} {x f f' : Nat} {t t' : Nat → Nat} {er : Int32} {S : zS} {U : List zS} (h : zCl F9 I x t f er S U) (hg : zag I I' (x + 1) 2) (hB : zBy I' (x + 1) t' f') : zCl F9 I' x t' f' er S U :=
  ⟨hB, by rw [hg x (by omega)]; exact h.2.1, h.2.2.1.ag hg (by omega), h.2.2.2.1, ⟨h.2.2.2.2.1.1.ag hg (by omega), h.2.2.2.2.1.2.ag hg (by omega) (by omega)⟩, h.2.2.2.2.2.1.ag hg (by omega), h.2.2.2.2.2.2⟩
def tApp (t : Nat → Nat) (f : Nat) (a b c d e : Int32) : Nat → Nat := tAdd (tAdd (tAdd (tAdd (tAdd t f a) (f + 4) b) (f + 4 + 4) c) (f + 4 + 4 + 4) d) (f + 4 + 4 + 4 + 4) e
abbrev zrm_X7_append : Room := { frames := 1, cells := 0, slots := 0, locals := 22 }
set_option maxRecDepth 20000 in
theorem zq_X7_append {l : Launch} {D : va_G} {b0 : Nat} {tA : Nat → ClassId} {sa sv : Nat → Nat} {K : zKt} {I : zI} {Qp : zI → Option AV → Prop} {Xp : String → zI → Prop} {F9 : zI} {x f : Nat} {t : Nat → Nat} {er : Int32} {S : zS} {U : List zS} {w1 w2 w3 w4 w5 : Int32}
    (hC : zCl F9 I x t f er S U) (k1 : f ≤ 480 → ∀ J : zI, zCl F9 J x (tApp t f w1 w2 w3 w4 w5) (f + 20) er S U → Qp J (some (vi (nI (f + 20))))) (k2 : ¬ f ≤ 480 → Qp I (some (vi (-1)))) :
    zC l D b0 tA sa sv K yX7_append (.code yX7_append cX7_append 6 (some .int)) zrm_X7_append [vr (x) 7, vi (w1), vi (w2), vi (w3), vi (w4), vi (w5)] I Qp Xp := by
  have hf5 := hC.1.2.1
  refine zC_of (by decide +kernel) (Nat.le_of_ble_eq_true rfl) ?_
  intro p e s m args below meth c X hnt
  have X : zX p l e zrm_X7_append s m args below meth c RX7 cX7_append 6 (some .int) D b0 tA sa sv := X
  refine zr_lv (lv2 := [some (vr (x) 7), some (vi (w1)), some (vi (w2)), some (vi (w3)), some (vi (w4)), some (vi (w5))]) rfl ?_
  refine zr_aload0 X dX7_append_0 ?_
  refine zr_getR X zf_X7_10 rfl (by decide) (by decide) dX7_append_1 ?_
  refine zr_getI X zf_X7_47 rfl dX7_append_4 ?_
  refine zr_eq (x2 := (nI f)) (hC.1.1) ?_
  refine zr_sipush (v := (480 : Int32)) X dX7_append_7 (by decide) ?_
  refine zr_nicmp_le X (f) (480) (tgt := 15) (by omega) (by omega) dX7_append_10 (by decide) (fun h1 => ?_) (fun h1 => ?_)
  · skip
    refine zr_aload0 X dX7_append_15 ?_
    refine zr_getR X zf_X7_10 rfl (by decide) (by decide) dX7_append_16 ?_
    refine zr_iload1 X dX7_append_19 ?_
    refine zr_callV1 (rm9 := zrm_X3_addBytesOf) X hnt zm_X7_50 (by decide) (by decide) (by decide) (Nat.le_of_ble_eq_true rfl) dX7_append_20 ?_
    refine zp_X3_addBytesOf (a := x + 1) (t := t) (f := f) hC.1 (by omega) ?_
    intro J59 hg60 hB61; have hC62 : zCl F9 J59 x (tAdd t f w1) (f + 4) er S U := zCl.buf hC hg60 hB61
    refine zr_aload0 X dX7_append_23 ?_
    refine zr_getR X zf_X7_10 rfl (by decide) (by decide) dX7_append_24 ?_
    refine zr_iload2 X dX7_append_27 ?_
    refine zr_callV1 (rm9 := zrm_X3_addBytesOf) X hnt zm_X7_50 (by decide) (by decide) (by decide) (Nat.le_of_ble_eq_true rfl) dX7_append_28 ?_
    refine zp_X3_addBytesOf (a := x + 1) (t := (tAdd t f w1)) (f := (f + 4)) hC62.1 (by omega) ?_
    intro J63 hg64 hB65; have hC66 : zCl F9 J63 x (tAdd (tAdd t f w1) (f + 4) w2) ((f + 4) + 4) er S U := zCl.buf hC62 hg64 hB65
    refine zr_aload0 X dX7_append_31 ?_
    refine zr_getR X zf_X7_10 rfl (by decide) (by decide) dX7_append_32 ?_
    refine zr_iload3 X dX7_append_35 ?_
    refine zr_callV1 (rm9 := zrm_X3_addBytesOf) X hnt zm_X7_50 (by decide) (by decide) (by decide) (Nat.le_of_ble_eq_true rfl) dX7_append_36 ?_
    refine zp_X3_addBytesOf (a := x + 1) (t := (tAdd (tAdd t f w1) (f + 4) w2)) (f := ((f + 4) + 4)) hC66.1 (by omega) ?_
    intro J67 hg68 hB69; have hC70 : zCl F9 J67 x (tAdd (tAdd (tAdd t f w1) (f + 4) w2) ((f + 4) + 4) w3) (((f + 4) + 4) + 4) er S U := zCl.buf hC66 hg68 hB69
    refine zr_aload0 X dX7_append_39 ?_
    refine zr_getR X zf_X7_10 rfl (by decide) (by decide) dX7_append_40 ?_
    refine zr_iload4 X dX7_append_43 ?_
    refine zr_callV1 (rm9 := zrm_X3_addBytesOf) X hnt zm_X7_50 (by decide) (by decide) (by decide) (Nat.le_of_ble_eq_true rfl) dX7_append_45 ?_
    refine zp_X3_addBytesOf (a := x + 1) (t := (tAdd (tAdd (tAdd t f w1) (f + 4) w2) ((f + 4) + 4) w3)) (f := (((f + 4) + 4) + 4)) hC70.1 (by omega) ?_
    intro J71 hg72 hB73; have hC74 : zCl F9 J71 x (tAdd (tAdd (tAdd (tAdd t f w1) (f + 4) w2) ((f + 4) + 4) w3) (((f + 4) + 4) + 4) w4) ((((f + 4) + 4) + 4) + 4) er S U := zCl.buf hC70 hg72 hB73
    refine zr_aload0 X dX7_append_48 ?_
    refine zr_getR X zf_X7_10 rfl (by decide) (by decide) dX7_append_49 ?_
    refine zr_iload5 X dX7_append_52 ?_
    refine zr_callV1 (rm9 := zrm_X3_addBytesOf) X hnt zm_X7_50 (by decide) (by decide) (by decide) (Nat.le_of_ble_eq_true rfl) dX7_append_54 ?_
    refine zp_X3_addBytesOf (a := x + 1) (t := (tAdd (tAdd (tAdd (tAdd t f w1) (f + 4) w2) ((f + 4) + 4) w3) (((f + 4) + 4) + 4) w4)) (f := ((((f + 4) + 4) + 4) + 4)) hC74.1 (by omega) ?_
    intro J75 hg76 hB77; have hC78 : zCl F9 J75 x (tAdd (tAdd (tAdd (tAdd (tAdd t f w1) (f + 4) w2) ((f + 4) + 4) w3) (((f + 4) + 4) + 4) w4) ((((f + 4) + 4) + 4) + 4) w5) (((((f + 4) + 4) + 4) + 4) + 4) er S U := zCl.buf hC74 hg76 hB77
    refine zr_aload0 X dX7_append_57 ?_
    refine zr_getR X zf_X7_10 rfl (by decide) (by decide) dX7_append_58 ?_
    refine zr_getI X zf_X7_47 rfl dX7_append_61 ?_
    refine zr_eq (x2 := (nI (((((f + 4) + 4) + 4) + 4) + 4))) (hC78.1.1) ?_
    refine zr_iret X (by decide) (by decide) dX7_append_64 ?_
    exact k1 (by omega) _ hC78
  · skip
    refine zr_iconst (v := (-1 : Int32)) X dX7_append_13 (by decide) ?_
    refine zr_iret X (by decide) (by decide) dX7_append_14 ?_
    exact k2 (by omega)
