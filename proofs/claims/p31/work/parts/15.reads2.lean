/-! ===== more questions of a row ===== -/
abbrev zrm_J6_bitCount_0f7a4 : Room := { frames := 0, cells := 0, slots := 0, locals := 0 }
def zbc (x : Int32) : Int32 := if x = 0 then 0 else if x = 1 ∨ x = 2 ∨ x = 4 then 1 else if x = 7 then 3 else 2
set_option maxRecDepth 20000 in
theorem zp_J6_bitCount_0f7a4 {l : Launch} {D : va_G} {b0 : Nat} {tA : Nat → ClassId} {sa sv : Nat → Nat} {K : zKt} {I : zI} {Qp : zI → Option AV → Prop} {Xp : String → zI → Prop} {x1 : Int32}
    (h7 : x1 = 0 ∨ x1 = 1 ∨ x1 = 2 ∨ x1 = 3 ∨ x1 = 4 ∨ x1 = 5 ∨ x1 = 6 ∨ x1 = 7) (k1 : Qp I (some (vi (zbc x1)))) :
    zC l D b0 tA sa sv K yJ6_bitCount_0f7a4 (.code yJ6_bitCount_0f7a4 cJ6_bitCount_0f7a4 1 (some .int)) zrm_J6_bitCount_0f7a4 [vi (x1)] I Qp Xp := by
  refine zC_of (by decide +kernel) (Nat.le_of_ble_eq_true rfl) ?_
  intro p e s m args below meth c X hnt
  have X : zX p l e zrm_J6_bitCount_0f7a4 s m args below meth c RJ6 cJ6_bitCount_0f7a4 1 (some .int) D b0 tA sa sv := X
  refine zr_lv (lv2 := [some (vi (x1))]) rfl ?_
  refine zr_iload0 X dJ6_bitCount_0f7a4_0 ?_
  refine zr_iload0 X dJ6_bitCount_0f7a4_1 ?_
  refine zr_iconst (v := (1 : Int32)) X dJ6_bitCount_0f7a4_2 (by decide) ?_
  refine zr_iushr X dJ6_bitCount_0f7a4_3 ?_
  refine zr_ldcw (v := 1431655765) X zk_J6_265 dJ6_bitCount_0f7a4_4 ?_
  refine zr_iand X dJ6_bitCount_0f7a4_7 ?_
  refine zr_isub X dJ6_bitCount_0f7a4_8 ?_
  refine zr_istore0 X (by decide) dJ6_bitCount_0f7a4_9 ?_
  refine zr_iload0 X dJ6_bitCount_0f7a4_10 ?_
  refine zr_ldcw (v := 858993459) X zk_J6_266 dJ6_bitCount_0f7a4_11 ?_
  refine zr_iand X dJ6_bitCount_0f7a4_14 ?_
  refine zr_iload0 X dJ6_bitCount_0f7a4_15 ?_
  refine zr_iconst (v := (2 : Int32)) X dJ6_bitCount_0f7a4_16 (by decide) ?_
  refine zr_iushr X dJ6_bitCount_0f7a4_17 ?_
  refine zr_ldcw (v := 858993459) X zk_J6_266 dJ6_bitCount_0f7a4_18 ?_
  refine zr_iand X dJ6_bitCount_0f7a4_21 ?_
  refine zr_iadd X dJ6_bitCount_0f7a4_22 ?_
  refine zr_istore0 X (by decide) dJ6_bitCount_0f7a4_23 ?_
  refine zr_iload0 X dJ6_bitCount_0f7a4_24 ?_
  refine zr_iload0 X dJ6_bitCount_0f7a4_25 ?_
  refine zr_iconst (v := (4 : Int32)) X dJ6_bitCount_0f7a4_26 (by decide) ?_
  refine zr_iushr X dJ6_bitCount_0f7a4_27 ?_
  refine zr_iadd X dJ6_bitCount_0f7a4_28 ?_
  refine zr_ldcw (v := 252645135) X zk_J6_267 dJ6_bitCount_0f7a4_29 ?_
  refine zr_iand X dJ6_bitCount_0f7a4_32 ?_
  refine zr_istore0 X (by decide) dJ6_bitCount_0f7a4_33 ?_
  refine zr_iload0 X dJ6_bitCount_0f7a4_34 ?_
  refine zr_iload0 X dJ6_bitCount_0f7a4_35 ?_
  refine zr_bipush (v := (8 : Int32)) X dJ6_bitCount_0f7a4_36 (by decide) ?_
  refine zr_iushr X dJ6_bitCount_0f7a4_38 ?_
  refine zr_iadd X dJ6_bitCount_0f7a4_39 ?_
  refine zr_istore0 X (by decide) dJ6_bitCount_0f7a4_40 ?_
  refine zr_iload0 X dJ6_bitCount_0f7a4_41 ?_
  refine zr_iload0 X dJ6_bitCount_0f7a4_42 ?_
  refine zr_bipush (v := (16 : Int32)) X dJ6_bitCount_0f7a4_43 (by decide) ?_
  refine zr_iushr X dJ6_bitCount_0f7a4_45 ?_
  refine zr_iadd X dJ6_bitCount_0f7a4_46 ?_
  refine zr_istore0 X (by decide) dJ6_bitCount_0f7a4_47 ?_
  refine zr_iload0 X dJ6_bitCount_0f7a4_48 ?_
  refine zr_bipush (v := (63 : Int32)) X dJ6_bitCount_0f7a4_49 (by decide) ?_
  refine zr_iand X dJ6_bitCount_0f7a4_51 ?_
  refine zr_iret X (by decide) (by decide) dJ6_bitCount_0f7a4_52 ?_
  refine cast (congrArg (fun z => Qp I (some (vi z))) ?_) k1
  rcases h7 with rfl | rfl | rfl | rfl | rfl | rfl | rfl | rfl <;> decide
def zkeys (S : zS) : Int32 := sX S 6 + sX S 7 + sX S 8
theorem zkb {S : zS} (hK : (sX S 6 = 0 ∨ sX S 6 = 1) ∧ (sX S 7 = 0 ∨ sX S 7 = 1) ∧ (sX S 8 = 0 ∨ sX S 8 = 1)) : (sX S 6 + 2 * sX S 7 + 4 * sX S 8 = 0 ∨ sX S 6 + 2 * sX S 7 + 4 * sX S 8 = 1 ∨ sX S 6 + 2 * sX S 7 + 4 * sX S 8 = 2 ∨ sX S 6 + 2 * sX S 7 + 4 * sX S 8 = 3 ∨ sX S 6 + 2 * sX S 7 + 4 * sX S 8 = 4 ∨ sX S 6 + 2 * sX S 7 + 4 * sX S 8 = 5 ∨ sX S 6 + 2 * sX S 7 + 4 * sX S 8 = 6 ∨ sX S 6 + 2 * sX S 7 + 4 * sX S 8 = 7) ∧ zbc (sX S 6 + 2 * sX S 7 + 4 * sX S 8) = zkeys S := by
  unfold zkeys
  obtain ⟨h6, h7, h8⟩ := hK
  rcases h6 with h6 | h6 <;> rcases h7 with h7 | h7 <;> rcases h8 with h8 | h8 <;> rw [h6, h7, h8] <;> decide
abbrev zrm_X5_turnedKeys : Room := { frames := 1, cells := 0, slots := 0, locals := 20 }
set_option maxRecDepth 20000 in
theorem zp_X5_turnedKeys {l : Launch} {D : va_G} {b0 : Nat} {tA : Nat → ClassId} {sa sv : Nat → Nat} {K : zKt} {I : zI} {Qp : zI → Option AV → Prop} {Xp : String → zI → Prop} {a : Nat} {S : zS}
    (hR : zRw I a S) (hK : (sX S 6 = 0 ∨ sX S 6 = 1) ∧ (sX S 7 = 0 ∨ sX S 7 = 1) ∧ (sX S 8 = 0 ∨ sX S 8 = 1)) (k1 : Qp I (some (vi (zkeys S)))) :
    zC l D b0 tA sa sv K yX5_turnedKeys (.code yX5_turnedKeys cX5_turnedKeys 1 (some .int)) zrm_X5_turnedKeys [vr (a) 5] I Qp Xp := by
  have hk7 := (zkb hK).1
  refine zC_of (by decide +kernel) (Nat.le_of_ble_eq_true rfl) ?_
  intro p e s m args below meth c X hnt
  have X : zX p l e zrm_X5_turnedKeys s m args below meth c RX5 cX5_turnedKeys 1 (some .int) D b0 tA sa sv := X
  refine zr_lv (lv2 := [some (vr (a) 5)]) rfl ?_
  refine zr_aload0 X dX5_turnedKeys_0 ?_
  refine zr_getI X zf_X5_45 rfl dX5_turnedKeys_1 ?_
  refine zr_eq (x2 := (sX S 6 + 2 * sX S 7 + 4 * sX S 8)) (hR.2.1) ?_
  refine zr_callX1 (rm9 := zrm_J6_bitCount_0f7a4) X hnt zm_X5_162 (by decide) (by decide) (by decide) (Nat.le_of_ble_eq_true rfl) dX5_turnedKeys_4 ?_
  refine zp_J6_bitCount_0f7a4 hk7 ?_
  refine zr_iret X (by decide) (by decide) dX5_turnedKeys_7 ?_
  rw [(zkb hK).2]; exact k1
abbrev zrm_X5_isPanic : Room := { frames := 2, cells := 0, slots := 0, locals := 40 }
theorem zpan_iff {S : zS} : zPan S ↔ ¬ (zkeys S < 2) := by
  unfold zPan zkeys
  rw [Int32.not_lt, Int32.lt_iff_toInt_lt, Int32.le_iff_toInt_le]
  have h1 : (1 : Int32).toInt = 1 := by decide
  have h2 : (2 : Int32).toInt = 2 := by decide
  rw [h1, h2]; omega
set_option maxRecDepth 20000 in
theorem zp_X5_isPanic {l : Launch} {D : va_G} {b0 : Nat} {tA : Nat → ClassId} {sa sv : Nat → Nat} {K : zKt} {I : zI} {Qp : zI → Option AV → Prop} {Xp : String → zI → Prop} {a : Nat} {S : zS}
    (hR : zRw I a S) (hK : (sX S 6 = 0 ∨ sX S 6 = 1) ∧ (sX S 7 = 0 ∨ sX S 7 = 1) ∧ (sX S 8 = 0 ∨ sX S 8 = 1)) (k1 : zPan S → Qp I (some (vi 1))) (k2 : ¬ zPan S → Qp I (some (vi 0))) :
    zC l D b0 tA sa sv K yX5_isPanic (.code yX5_isPanic cX5_isPanic 1 (some .boolean)) zrm_X5_isPanic [vr (a) 5] I Qp Xp := by
  refine zC_of (by decide +kernel) (Nat.le_of_ble_eq_true rfl) ?_
  intro p e s m args below meth c X hnt
  have X : zX p l e zrm_X5_isPanic s m args below meth c RX5 cX5_isPanic 1 (some .boolean) D b0 tA sa sv := X
  refine zr_lv (lv2 := [some (vr (a) 5)]) rfl ?_
  refine zr_aload0 X dX5_isPanic_0 ?_
  refine zr_callV0 (rm9 := zrm_X5_turnedKeys) X hnt zm_X5_92 (by decide) (by decide) (by decide) (Nat.le_of_ble_eq_true rfl) dX5_isPanic_1 ?_
  refine zp_X5_turnedKeys hR hK ?_
  refine zr_iconst (v := (2 : Int32)) X dX5_isPanic_4 (by decide) ?_
  refine zr_icmp_lt (tgt := 12) X dX5_isPanic_5 (by decide) (fun h1 => ?_) (fun h1 => ?_)
  · skip
    refine zr_iconst (v := (0 : Int32)) X dX5_isPanic_12 (by decide) ?_
    refine zr_zret X (by first | decide | assumption | (simp; done)) (by decide) (by decide) dX5_isPanic_13 ?_
    exact k2 (fun z => zpan_iff.mp z (by assumption))
  · skip
    refine zr_iconst (v := (1 : Int32)) X dX5_isPanic_8 (by decide) ?_
    refine zr_goto (tgt := 13) X dX5_isPanic_9 (by decide) ?_
    refine zr_zret X (by first | decide | assumption | (simp; done)) (by decide) (by decide) dX5_isPanic_13 ?_
    exact k1 (zpan_iff.mpr (by assumption))
theorem zn_X5_hasGate {l : Launch} {D : va_G} {b0 : Nat} {tA : Nat → ClassId} {sa sv : Nat → Nat} {K : zKt} {I : zI} {Qp : zI → Option AV → Prop} {Xp : String → zI → Prop} {a x : Nat} {S : zS} (hR : zRw I a S) (hW : zWf S) (hx : x < 2 ^ 30) (k1 : x < zng S → Qp I (some (vi 1))) (k2 : ¬ x < zng S → Qp I (some (vi 0))) :
    zC l D b0 tA sa sv K yX5_hasGate (.code yX5_hasGate cX5_hasGate 2 (some .boolean)) zrm_X5_hasGate [vr (a) 5, vi ((nI x))] I Qp Xp := by
  have h6 := hW.ng.1
  have h12 := hW.nc.1
  refine zq_X5_hasGate (fun ⟨_, h2, _⟩ => k1 ?_) (fun h => k2 (fun q => h ⟨nI_pos (by omega), ?_, ?_⟩))
  · rw [hR.ng hW, nI_leI (by omega) (by omega)] at h2; omega
  · rw [hR.ng hW, nI_leI (by omega) (by omega)]; omega
  · exact fun z => absurd ((nI_leI (a := 6) (by decide) (by omega)).mp z) (by omega)
theorem zn_X5_hasCard {l : Launch} {D : va_G} {b0 : Nat} {tA : Nat → ClassId} {sa sv : Nat → Nat} {K : zKt} {I : zI} {Qp : zI → Option AV → Prop} {Xp : String → zI → Prop} {a x : Nat} {S : zS} (hR : zRw I a S) (hW : zWf S) (hx : x < 2 ^ 30) (k1 : x < znc S → Qp I (some (vi 1))) (k2 : ¬ x < znc S → Qp I (some (vi 0))) :
    zC l D b0 tA sa sv K yX5_hasCard (.code yX5_hasCard cX5_hasCard 2 (some .boolean)) zrm_X5_hasCard [vr (a) 5, vi ((nI x))] I Qp Xp := by
  have h6 := hW.ng.1
  have h12 := hW.nc.1
  refine zq_X5_hasCard (fun ⟨_, h2, _⟩ => k1 ?_) (fun h => k2 (fun q => h ⟨nI_pos (by omega), ?_, ?_⟩))
  · rw [hR.nc hW, nI_leI (by omega) (by omega)] at h2; omega
  · rw [hR.nc hW, nI_leI (by omega) (by omega)]; omega
  · exact fun z => absurd ((nI_leI (a := 12) (by decide) (by omega)).mp z) (by omega)
theorem zn_X1_lineOn {l : Launch} {D : va_G} {b0 : Nat} {tA : Nat → ClassId} {sa sv : Nat → Nat} {K : zKt} {I : zI} {Qp : zI → Option AV → Prop} {Xp : String → zI → Prop} {a : Nat} (x : Nat) (hx : x < 2) (k1 : x = 0 → Qp I (some (vr (a + 1) 4))) (k2 : x = 1 → Qp I (some (vr (a + 3) 4))) :
    zC l D b0 tA sa sv K yX1_lineOn (.code yX1_lineOn cX1_lineOn 2 (some (.object "GateRow$Line"))) zrm_X1_lineOn [vr (a) 1, vi ((nI x))] I Qp Xp := by
  rcases (show x = 0 ∨ x = 1 by omega) with rfl | rfl
  · exact zp_X1_lineOn (fun h => k1 rfl) (fun h => absurd h (by decide))
  · exact zp_X1_lineOn (fun h => absurd rfl h) (fun _ => k2 rfl)
abbrev zrm_X5_sideInLine : Room := { frames := 2, cells := 0, slots := 0, locals := 44 }
theorem zAt_ng {S : zS} {c g s p : Nat} (hW : zWf S) (h : zAt S c g s p) : g < zng S := by
  rcases Nat.lt_or_ge g (zng S) with q | q
  · exact q
  · have := h.2.2; rw [(hW.blank g q).2 s] at this; simp at this
theorem zAt_side {S : zS} {c g s p : Nat} {P : Prop} (_ : zWf S) (h : zAt S c g s p) (k : ∀ p, zAt S c g 1 p → P) (hn : (c + 1) ∉ sL S g 0) : P := by
  obtain ⟨h1, h2, h3⟩ := h
  rcases (show s = 0 ∨ s = 1 by omega) with rfl | rfl
  · exact absurd (List.mem_of_getElem? h3) hn
  · exact k p ⟨h1, h2, h3⟩
set_option maxRecDepth 20000 in
theorem zp_X5_sideInLine {l : Launch} {D : va_G} {b0 : Nat} {tA : Nat → ClassId} {sa sv : Nat → Nat} {K : zKt} {I : zI} {Qp : zI → Option AV → Prop} {Xp : String → zI → Prop} {a c9 : Nat} {S : zS}
    (hR : zRw I a S) (hW : zWf S) (hc : c9 < 12) (k1 : ∀ g s p : Nat, zAt S c9 g s p → Qp I (some (vi (nI s)))) (k2 : (∀ g s p : Nat, ¬ zAt S c9 g s p) → Qp I (some (vi (-1)))) :
    zC l D b0 tA sa sv K yX5_sideInLine (.code yX5_sideInLine cX5_sideInLine 3 (some .int)) zrm_X5_sideInLine [vr (a) 5, vi ((nI c9))] I Qp Xp := by
  have hg6 := hW.ng.1
  have hc12 := hW.nc.1
  refine zC_of (by decide +kernel) (Nat.le_of_ble_eq_true rfl) ?_
  intro p e s m args below meth c X hnt
  have X : zX p l e zrm_X5_sideInLine s m args below meth c RX5 cX5_sideInLine 3 (some .int) D b0 tA sa sv := X
  refine zr_lv (lv2 := [some (vr (a) 5), some (vi ((nI c9))), none]) rfl ?_
  refine zr_aload0 X dX5_sideInLine_0 ?_
  refine zr_iload1 X dX5_sideInLine_1 ?_
  refine zr_callV1 (rm9 := zrm_X5_gateWithInLine) X hnt zm_X5_109 (by decide) (by decide) (by decide) (Nat.le_of_ble_eq_true rfl) dX5_sideInLine_2 ?_
  refine zp_X5_gateWithInLine hR hW (by omega) ?_ ?_
  · skip
    intro g2 sd3 p4 ha1; have := ha1.1
    refine zr_istore2 X (by decide) rfl dX5_sideInLine_5 ?_
    refine zr_aload0 X dX5_sideInLine_6 ?_
    refine zr_iload2 X dX5_sideInLine_7 ?_
    refine zr_callV1 (rm9 := zrm_X5_hasGate) X hnt zm_X5_134 (by decide) (by decide) (by decide) (Nat.le_of_ble_eq_true rfl) dX5_sideInLine_8 ?_
    refine zn_X5_hasGate hR hW (by omega) ?_ ?_
    · skip
      intro hh6
      refine zr_if_ne (tgt := 16) X dX5_sideInLine_11 (by decide) (fun _ => ?_) (fun h => absurd h (by decide))
      refine zr_aload0 X dX5_sideInLine_16 ?_
      refine zr_getR X zf_X5_11 rfl (by decide) (by decide) dX5_sideInLine_17 ?_
      refine zr_iload2 X dX5_sideInLine_20 ?_
      refine zr_aaldN X rfl rfl (by decide) (show _ < 6 from (by first | assumption | omega)) dX5_sideInLine_21 ?_
      refine zr_getR X zf_X5_122 rfl (by decide) (by decide) dX5_sideInLine_22 ?_
      refine zr_iload1 X dX5_sideInLine_25 ?_
      refine zr_callV1 (rm9 := zrm_X4_placeOf) X hnt zm_X5_126 (by decide) (by decide) (by decide) (Nat.le_of_ble_eq_true rfl) dX5_sideInLine_26 ?_
      refine zq_X4_placeOf (w := (sL S g2 0)) ((hR.2.2.1 g2 (by omega)).2.1) (hW.le12 _ _) (by omega) ?_ ?_
      · skip
        intro kk8 hb10 hm7
        refine zr_iconst (v := (-1 : Int32)) X dX5_sideInLine_29 (by decide) ?_
        refine zr_icmp_eq (tgt := 37) X dX5_sideInLine_30 (by decide) (fun h => absurd h (zm1 (by omega))) (fun _ => ?_)
        refine zr_iconst (v := (0 : Int32)) X dX5_sideInLine_33 (by decide) ?_
        refine zr_goto (tgt := 38) X dX5_sideInLine_34 (by decide) ?_
        refine zr_iret X (by decide) (by decide) dX5_sideInLine_38 ?_
        first | exact k1 _ 0 _ ⟨by omega, by omega, by assumption⟩ | exact zAt_side hW (by assumption) (fun p9 h9 => k1 _ 1 p9 h9) (by assumption) | (exact absurd (by assumption) (by assumption))
      · skip
        intro hm9
        refine zr_iconst (v := (-1 : Int32)) X dX5_sideInLine_29 (by decide) ?_
        refine zr_icmp_eq (tgt := 37) X dX5_sideInLine_30 (by decide) (fun _ => ?_) (fun h => absurd h (by decide))
        refine zr_iconst (v := (1 : Int32)) X dX5_sideInLine_37 (by decide) ?_
        refine zr_iret X (by decide) (by decide) dX5_sideInLine_38 ?_
        first | exact k1 _ 1 _ ⟨by omega, by omega, by assumption⟩ | exact zAt_side hW (by assumption) (fun p9 h9 => k1 _ 1 p9 h9) (by assumption) | (exact absurd (by assumption) (by assumption))
    · skip
      intro hh6
      refine zr_if_ne (tgt := 16) X dX5_sideInLine_11 (by decide) (fun h => absurd h (by decide)) (fun _ => ?_)
      refine zr_iconst (v := (-1 : Int32)) X dX5_sideInLine_14 (by decide) ?_
      refine zr_iret X (by decide) (by decide) dX5_sideInLine_15 ?_
      first | exact k2 (by assumption) | exact absurd (zAt_ng hW (by assumption)) (by omega) | (exact absurd (by assumption) (zAt_not (by assumption) (by assumption)))
  · skip
    intro hn5
    refine zr_istore2 X (by decide) rfl dX5_sideInLine_5 ?_
    refine zr_aload0 X dX5_sideInLine_6 ?_
    refine zr_iload2 X dX5_sideInLine_7 ?_
    refine zr_callV1 (rm9 := zrm_X5_hasGate) X hnt zm_X5_134 (by decide) (by decide) (by decide) (Nat.le_of_ble_eq_true rfl) dX5_sideInLine_8 ?_
    refine zq_X5_hasGate (fun h => absurd (by decide) h.1) (fun _ => ?_)
    refine zr_if_ne (tgt := 16) X dX5_sideInLine_11 (by decide) (fun h => absurd h (by decide)) (fun _ => ?_)
    refine zr_iconst (v := (-1 : Int32)) X dX5_sideInLine_14 (by decide) ?_
    refine zr_iret X (by decide) (by decide) dX5_sideInLine_15 ?_
    first | exact k2 (by assumption) | exact absurd (zAt_ng hW (by assumption)) (by omega) | (exact absurd (by assumption) (zAt_not (by assumption) (by assumption)))
