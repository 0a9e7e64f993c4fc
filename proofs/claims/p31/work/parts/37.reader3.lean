/-! ===== the class reads a whole text ===== -/
abbrev zrm_X6_readWait : Room := { frames := 6, cells := 0, slots := 0, locals := 173 }
set_option maxRecDepth 20000 in
theorem zp_X6_readWait {l : Launch} {D : va_G} {b0 : Nat} {tA : Nat → ClassId} {sa sv : Nat → Nat} {K : zKt} {I : zI} {Qp : zI → Option AV → Prop} {Xp : String → zI → Prop} {x f n9 p9 : Nat} {t : Nat → Nat} {S : zS}
    (hS : zPs I x t f n9 p9 S) (k1 : ∀ (J : zI) (p2 : Nat) (S2 : zS), pWait t n9 p9 S = .inr (p2, S2) → zfr I J x → zPs J x t f n9 p2 S2 → Qp J (some (vi 1))) (k2 : ∀ (J : zI) (er : Int32 × Nat), pWait t n9 p9 S = .inl er → zfr I J x → zEr J x t f er → Qp J (some (vi 0))) :
    zC l D b0 tA sa sv K yX6_readWait (.code yX6_readWait cX6_readWait 7 (some .boolean)) zrm_X6_readWait [vr (x + 3) 6, vr (x + 1) 3, vr (x + 94) 5] I Qp Xp := by
  obtain ⟨hB, hn, hT, hR, hW⟩ := hS
  have hf5 := hB.2.1
  have hpn := hT.1
  have hk4 := tKind_le (t := t) (n := n9) (p := p9)
  have hl4 := tEndL_le (t := t) hT.1
  have hg6 := hW.ng.1
  have hc12 := hW.nc.1
  refine zC_of (by decide +kernel) (Nat.le_of_ble_eq_true rfl) ?_
  intro p e s m args below meth c X hnt
  have X : zX p l e zrm_X6_readWait s m args below meth c RX6 cX6_readWait 7 (some .boolean) D b0 tA sa sv := X
  refine zr_lv (lv2 := [some (vr (x + 3) 6), some (vr (x + 1) 3), some (vr (x + 94) 5), none, none, none, none]) rfl ?_
  refine zr_aload1 X dX6_readWait_0 ?_
  refine zr_callV0 (rm9 := zrm_X3_advance) X hnt zm_X6_68 (by decide) (by decide) (by decide) (Nat.le_of_ble_eq_true rfl) dX6_readWait_1 ?_
  refine zp_X3_advance (a := x + 1) (t := t) (f := f) (n9 := n9) (p9 := tEnd t n9 p9) hB hn hT.2.1 hT.2.2.2.2.1 (tEnd_le hT.1).1 ?_
  intro J1 hg2 hB3 hT4; have hT4 : zTok J1 (x + 1) t n9 (tNext t n9 p9) := hT4; have hR5 := hR.ag hg2 (by omega); have fr6 : zfr I J1 x := zfr.ag zfr.rf hg2 (by omega); have hk4_J1 := tKind_le (t := t) (n := n9) (p := (tNext t n9 p9)); have hl4_J1 := tEndL_le (t := t) hT4.1; have hpn_J1 := hT4.1
  refine zr_aload0 X dX6_readWait_4 ?_
  refine zr_aload1 X dX6_readWait_5 ?_
  refine zr_iconst (v := (0 : Int32)) X dX6_readWait_6 (by decide) ?_
  refine zr_aload2 X dX6_readWait_7 ?_
  refine zr_getI X zf_X6_132 rfl dX6_readWait_8 ?_
  refine zr_eq (x2 := (sX S 4)) (hR5.1 4 (by decide) (by decide)) ?_
  refine zr_eq (x2 := (nI (zng S))) (hW.ng.2) ?_
  refine zr_iconst (v := (1 : Int32)) X dX6_readWait_11 (by decide) ?_
  refine zr_isub X dX6_readWait_12 ?_
  refine zr_callV3 (rm9 := zrm_X6_takeNumber) X hnt zm_X6_71 (by decide) (by decide) (by decide) (Nat.le_of_ble_eq_true rfl) dX6_readWait_13 ?_
  refine zp_X6_takeNumber (x := x) (t := t) (f := f) (n9 := n9) (p9 := (tNext t n9 p9)) (S := S) (lo := 0) (hi := zng S) ⟨hB3, hn, hT4, hR5, hW⟩ (zmost (by rfl) (by omega)) (by omega) (by omega) ?_ ?_
  · skip
    intro J7 v11 hq10 fr8 hS9; obtain ⟨hB14, hn18, hT15, hR16, hW17⟩ := hS9; have fr8 : zfr I J7 x := zfr.tr fr6 fr8; have := pNum_gt hq10; have hk4_J7 := tKind_le (t := t) (n := n9) (p := (tNext t n9 (tNext t n9 p9))); have hl4_J7 := tEndL_le (t := t) hT15.1; have hpn_J7 := hT15.1
    refine zr_istore3 X (by decide) rfl dX6_readWait_16 ?_
    refine zr_aload2 X dX6_readWait_17 ?_
    refine zr_iload3 X dX6_readWait_18 ?_
    refine zr_callV1 (rm9 := zrm_X5_hasGate) X hnt zm_X6_135 (by decide) (by decide) (by decide) (Nat.le_of_ble_eq_true rfl) dX6_readWait_19 ?_
    refine zn_X5_hasGate hR16 hW17 (by omega) (fun _ => ?_) (fun h => absurd (by omega) h)
    refine zr_if_ne (tgt := 27) X dX6_readWait_22 (by decide) (fun _ => ?_) (fun h => absurd h (by decide))
    refine zr_aload1 X dX6_readWait_27 ?_
    refine zr_getI X zf_X6_55 rfl dX6_readWait_28 ?_
    refine zr_eq (x2 := (nI (tNext t n9 (tNext t n9 p9)))) (hT15.2.2.1) ?_
    refine zr_istore4 X (by decide) rfl dX6_readWait_31 ?_
    refine zr_aload1 X dX6_readWait_33 ?_
    refine zr_ldcS X 4 rfl (by decide) dX6_readWait_34 ?_
    refine zr_callV1 (rm9 := zrm_X3_isWord) X hnt zm_X6_23 (by decide) (by decide) (by decide) (Nat.le_of_ble_eq_true rfl) dX6_readWait_36 ?_
    refine zp_X3_isWord (a := x + 1) (i := 4) (t := t) (n9 := n9) (p9 := (tNext t n9 (tNext t n9 p9))) (by omega) hT15 (by decide) ?_ ?_
    · skip
      intro hw2; have hw2 : tIsB t n9 (tNext t n9 (tNext t n9 p9)) wIn = true := tIsB_iff.mpr hw2
      refine zr_if_eq (tgt := 46) X dX6_readWait_39 (by decide) (fun h => absurd h (by decide)) (fun _ => ?_)
      refine zr_iconst (v := (0 : Int32)) X dX6_readWait_42 (by decide) ?_
      refine zr_goto (tgt := 60) X dX6_readWait_43 (by decide) ?_
      refine zr_istore5 X (by decide) rfl dX6_readWait_60 ?_
      refine zr_iload5 X dX6_readWait_62 ?_
      refine zr_iconst (v := (-1 : Int32)) X dX6_readWait_64 (by decide) ?_
      refine zr_icmp_ne (tgt := 77) X dX6_readWait_65 (by decide) (fun _ => ?_) (fun h => absurd h (by decide))
      refine zr_aload1 X dX6_readWait_77 ?_
      refine zr_callV0 (rm9 := zrm_X3_advance) X hnt zm_X6_68 (by decide) (by decide) (by decide) (Nat.le_of_ble_eq_true rfl) dX6_readWait_78 ?_
      refine zp_X3_advance (a := x + 1) (t := t) (f := f) (n9 := n9) (p9 := tEnd t n9 (tNext t n9 (tNext t n9 p9))) hB14 hn hT15.2.1 hT15.2.2.2.2.1 (tEnd_le hT15.1).1 ?_
      intro J19 hg20 hB21 hT22; have hT22 : zTok J19 (x + 1) t n9 (tNext t n9 (tNext t n9 (tNext t n9 p9))) := hT22; have hR23 := hR16.ag hg20 (by omega); have fr24 : zfr I J19 x := zfr.ag fr8 hg20 (by omega); have hk4_J19 := tKind_le (t := t) (n := n9) (p := (tNext t n9 (tNext t n9 (tNext t n9 p9)))); have hl4_J19 := tEndL_le (t := t) hT22.1; have hpn_J19 := hT22.1
      refine zr_iconst (v := (-1 : Int32)) X dX6_readWait_81 (by decide) ?_
      refine zr_istore6 X (by decide) rfl dX6_readWait_82 ?_
      refine zr_aload1 X dX6_readWait_84 ?_
      refine zr_getI X zf_X6_15 rfl dX6_readWait_85 ?_
      refine zr_eq (x2 := (nI (tKind t n9 (tNext t n9 (tNext t n9 (tNext t n9 p9)))))) (hT22.2.2.2.1) ?_
      refine zr_iconst (v := (2 : Int32)) X dX6_readWait_88 (by decide) ?_
      refine zr_nicmp_ne X ((tKind t n9 (tNext t n9 (tNext t n9 (tNext t n9 p9))))) (2) (tgt := 108) (by omega) (by omega) dX6_readWait_89 (by decide) (fun h3 => ?_) (fun h3 => ?_)
      · skip
        refine zr_aload2 X dX6_readWait_108 ?_
        refine zr_aload2 X dX6_readWait_109 ?_
        refine zr_getR X zf_X6_138 rfl (by decide) (by decide) dX6_readWait_110 ?_
        refine zr_iload3 X dX6_readWait_113 ?_
        refine zr_aaldN X rfl rfl (by decide) (show _ < 6 from (by first | assumption | omega)) dX6_readWait_114 ?_
        refine zr_iload5 X dX6_readWait_115 ?_
        refine zr_iload6 X dX6_readWait_117 ?_
        refine zr_callV3 (rm9 := zrm_X5_reasonNotToJoin) X hnt zm_X6_142 (by decide) (by decide) (by decide) (Nat.le_of_ble_eq_true rfl) dX6_readWait_119 ?_
        refine zp00_X5_reasonNotToJoin (c9 := 0) hR23 hW17 (by omega) (by omega) ?_; have := qWhy_lt (S := S) (g := v11) (s := 0) (w := 0)
        refine zr_nif_eq X ((qWhy S v11 0 0)) (tgt := 134) (by omega) dX6_readWait_122 (by decide) (fun h4 => ?_) (fun h4 => ?_)
        · skip
          refine zr_aload2 X dX6_readWait_134 ?_
          refine zr_getR X zf_X6_138 rfl (by decide) (by decide) dX6_readWait_135 ?_
          refine zr_iload3 X dX6_readWait_138 ?_
          refine zr_aaldN X rfl rfl (by decide) (show _ < 6 from (by first | assumption | omega)) dX6_readWait_139 ?_
          refine zr_iload5 X dX6_readWait_140 ?_
          refine zr_callV1 (rm9 := zrm_X1_lineOn) X hnt zm_X6_146 (by decide) (by decide) (by decide) (Nat.le_of_ble_eq_true rfl) dX6_readWait_142 ?_
          refine zp_X1_lineOn (fun _ => ?_) (fun h => absurd h (by decide))
          refine zr_iload6 X dX6_readWait_145 ?_
          refine zr_callV1 (rm9 := zrm_X4_addLast) X hnt zm_X6_152 (by decide) (by decide) (by decide) (Nat.le_of_ble_eq_true rfl) dX6_readWait_147 ?_
          refine zn_addLast (g := v11) (s9 := 0) (w := 0) hR23 (by omega) (Or.inl ⟨rfl, rfl⟩) (by have := (qWhy_0 h4).2.1; have := hW17.len v11 0; omega) (by decide) ?_
          intro J25 hg26 hR27; have hB28 := zBy.ag hB21 hg26 (by omega); have hT29 := zTok.ag hT22 hg26 (by omega); have fr30 : zfr I J25 x := zfr.ag fr24 hg26 (by omega); have hW31 : zWf (tL S v11 0 (sL S v11 0 ++ [0])) := zWf_join hW17 (by omega) (by omega) h4
          refine zr_iconst (v := (1 : Int32)) X dX6_readWait_150 (by decide) ?_
          refine zr_zret X (by first | decide | assumption | (simp; done)) (by decide) (by decide) dX6_readWait_151 ?_
          exact k1 _ _ _ (by simp [pWait, pWait2, pWait3, pWait4, hq10, hw2, h3, h4]) fr30 ⟨hB28, hn, hT29, hR27, hW31⟩
        · skip
          refine zr_aload0 X dX6_readWait_125 ?_
          refine zr_bipush (v := (-6 : Int32)) X dX6_readWait_126 (by decide) ?_
          refine zr_iload4 X dX6_readWait_128 ?_
          refine zr_callV2 (rm9 := zrm_X6_fail) X hnt zm_X6_58 (by decide) (by decide) (by decide) (Nat.le_of_ble_eq_true rfl) dX6_readWait_130 ?_
          refine zp_X6_fail ?_
          refine zr_zret X (by first | decide | assumption | (simp; done)) (by decide) (by decide) dX6_readWait_133 ?_
          exact k2 _ _ (by simp [pWait, pWait2, pWait3, pWait4, hq10, hw2, h3, h4]) (zfr.er fr24) (zEr.mk hB21)
      · skip
        refine zr_aload0 X dX6_readWait_92 ?_
        refine zr_aload1 X dX6_readWait_93 ?_
        refine zr_aload2 X dX6_readWait_94 ?_
        refine zr_callV2 (rm9 := zrm_X6_takeKnownCard) X hnt zm_X6_114 (by decide) (by decide) (by decide) (Nat.le_of_ble_eq_true rfl) dX6_readWait_95 ?_
        refine zp_X6_takeKnownCard (x := x) (t := t) (f := f) (n9 := n9) (p9 := (tNext t n9 (tNext t n9 (tNext t n9 p9)))) (S := S) ⟨hB21, hn, hT22, hR23, hW17⟩ ?_ ?_
        · skip
          intro J32 c36 hq35 fr33 hS34 hc44; obtain ⟨hB39, hn43, hT40, hR41, hW42⟩ := hS34; have fr33 : zfr I J32 x := zfr.tr fr24 fr33; have hk4_J32 := tKind_le (t := t) (n := n9) (p := (tNext t n9 (tNext t n9 (tNext t n9 (tNext t n9 p9))))); have hl4_J32 := tEndL_le (t := t) hT40.1; have hpn_J32 := hT40.1; have := hW42.nc.1
          refine zr_istore6 X (by decide) rfl dX6_readWait_98 ?_
          refine zr_iload6 X dX6_readWait_100 ?_
          refine zr_iconst (v := (-1 : Int32)) X dX6_readWait_102 (by decide) ?_
          refine zr_icmp_ne (tgt := 108) X dX6_readWait_103 (by decide) (fun _ => ?_) (fun h => absurd h (zm1 (by omega)))
          refine zr_aload2 X dX6_readWait_108 ?_
          refine zr_aload2 X dX6_readWait_109 ?_
          refine zr_getR X zf_X6_138 rfl (by decide) (by decide) dX6_readWait_110 ?_
          refine zr_iload3 X dX6_readWait_113 ?_
          refine zr_aaldN X rfl rfl (by decide) (show _ < 6 from (by first | assumption | omega)) dX6_readWait_114 ?_
          refine zr_iload5 X dX6_readWait_115 ?_
          refine zr_iload6 X dX6_readWait_117 ?_
          refine zr_callV3 (rm9 := zrm_X5_reasonNotToJoin) X hnt zm_X6_142 (by decide) (by decide) (by decide) (Nat.le_of_ble_eq_true rfl) dX6_readWait_119 ?_
          refine zp01_X5_reasonNotToJoin (c9 := c36) hR41 hW42 (by omega) (by omega) ?_; have := qWhy_lt (S := S) (g := v11) (s := 0) (w := (c36 + 1))
          refine zr_nif_eq X ((qWhy S v11 0 (c36 + 1))) (tgt := 134) (by omega) dX6_readWait_122 (by decide) (fun h6 => ?_) (fun h6 => ?_)
          · skip
            refine zr_aload2 X dX6_readWait_134 ?_
            refine zr_getR X zf_X6_138 rfl (by decide) (by decide) dX6_readWait_135 ?_
            refine zr_iload3 X dX6_readWait_138 ?_
            refine zr_aaldN X rfl rfl (by decide) (show _ < 6 from (by first | assumption | omega)) dX6_readWait_139 ?_
            refine zr_iload5 X dX6_readWait_140 ?_
            refine zr_callV1 (rm9 := zrm_X1_lineOn) X hnt zm_X6_146 (by decide) (by decide) (by decide) (Nat.le_of_ble_eq_true rfl) dX6_readWait_142 ?_
            refine zp_X1_lineOn (fun _ => ?_) (fun h => absurd h (by decide))
            refine zr_iload6 X dX6_readWait_145 ?_
            refine zr_callV1 (rm9 := zrm_X4_addLast) X hnt zm_X6_152 (by decide) (by decide) (by decide) (Nat.le_of_ble_eq_true rfl) dX6_readWait_147 ?_
            refine zn_addLast (g := v11) (s9 := 0) (w := (c36 + 1)) hR41 (by omega) (Or.inl ⟨rfl, rfl⟩) (by have := (qWhy_0 h6).2.1; have := hW42.len v11 0; omega) (pk_sub (a := _ + 1) (b := 1) (by omega)) ?_
            intro J45 hg46 hR47; have hB48 := zBy.ag hB39 hg46 (by omega); have hT49 := zTok.ag hT40 hg46 (by omega); have fr50 : zfr I J45 x := zfr.ag fr33 hg46 (by omega); have hW51 : zWf (tL S v11 0 (sL S v11 0 ++ [(c36 + 1)])) := zWf_join hW42 (by omega) (by omega) h6
            refine zr_iconst (v := (1 : Int32)) X dX6_readWait_150 (by decide) ?_
            refine zr_zret X (by first | decide | assumption | (simp; done)) (by decide) (by decide) dX6_readWait_151 ?_
            exact k1 _ _ _ (by simp [pWait, pWait2, pWait3, pWait4, hq10, hw2, h3, hq35, h6]) fr50 ⟨hB48, hn, hT49, hR47, hW51⟩
          · skip
            refine zr_aload0 X dX6_readWait_125 ?_
            refine zr_bipush (v := (-6 : Int32)) X dX6_readWait_126 (by decide) ?_
            refine zr_iload4 X dX6_readWait_128 ?_
            refine zr_callV2 (rm9 := zrm_X6_fail) X hnt zm_X6_58 (by decide) (by decide) (by decide) (Nat.le_of_ble_eq_true rfl) dX6_readWait_130 ?_
            refine zp_X6_fail ?_
            refine zr_zret X (by first | decide | assumption | (simp; done)) (by decide) (by decide) dX6_readWait_133 ?_
            exact k2 _ _ (by simp [pWait, pWait2, pWait3, pWait4, hq10, hw2, h3, hq35, h6]) (zfr.er fr33) (zEr.mk hB39)
        · skip
          intro J32 er37 hq35 fr33 hE38; have fr33 : zfr I J32 x := zfr.tr fr24 fr33
          refine zr_istore6 X (by decide) rfl dX6_readWait_98 ?_
          refine zr_iload6 X dX6_readWait_100 ?_
          refine zr_iconst (v := (-1 : Int32)) X dX6_readWait_102 (by decide) ?_
          refine zr_icmp_ne (tgt := 108) X dX6_readWait_103 (by decide) (fun h => absurd h (by decide)) (fun _ => ?_)
          refine zr_iconst (v := (0 : Int32)) X dX6_readWait_106 (by decide) ?_
          refine zr_zret X (by first | decide | assumption | (simp; done)) (by decide) (by decide) dX6_readWait_107 ?_
          exact k2 _ er37 (by simp [pWait, pWait2, pWait3, pWait4, hq10, hw2, h3, hq35]) fr33 hE38
    · skip
      intro hw2; have hw2 : ¬ tIsB t n9 (tNext t n9 (tNext t n9 p9)) wIn = true := fun z => hw2 (tIsB_iff.mp z)
      refine zr_if_eq (tgt := 46) X dX6_readWait_39 (by decide) (fun _ => ?_) (fun h => absurd h (by decide))
      refine zr_aload1 X dX6_readWait_46 ?_
      refine zr_ldcS X 3 rfl (by decide) dX6_readWait_47 ?_
      refine zr_callV1 (rm9 := zrm_X3_isWord) X hnt zm_X6_23 (by decide) (by decide) (by decide) (Nat.le_of_ble_eq_true rfl) dX6_readWait_49 ?_
      refine zp_X3_isWord (a := x + 1) (i := 3) (t := t) (n9 := n9) (p9 := (tNext t n9 (tNext t n9 p9))) (by omega) hT15 (by decide) ?_ ?_
      · skip
        intro hw8; have hw8 : tIsB t n9 (tNext t n9 (tNext t n9 p9)) wOut = true := tIsB_iff.mpr hw8
        refine zr_if_eq (tgt := 59) X dX6_readWait_52 (by decide) (fun h => absurd h (by decide)) (fun _ => ?_)
        refine zr_iconst (v := (1 : Int32)) X dX6_readWait_55 (by decide) ?_
        refine zr_goto (tgt := 60) X dX6_readWait_56 (by decide) ?_
        refine zr_istore5 X (by decide) rfl dX6_readWait_60 ?_
        refine zr_iload5 X dX6_readWait_62 ?_
        refine zr_iconst (v := (-1 : Int32)) X dX6_readWait_64 (by decide) ?_
        refine zr_icmp_ne (tgt := 77) X dX6_readWait_65 (by decide) (fun _ => ?_) (fun h => absurd h (by decide))
        refine zr_aload1 X dX6_readWait_77 ?_
        refine zr_callV0 (rm9 := zrm_X3_advance) X hnt zm_X6_68 (by decide) (by decide) (by decide) (Nat.le_of_ble_eq_true rfl) dX6_readWait_78 ?_
        refine zp_X3_advance (a := x + 1) (t := t) (f := f) (n9 := n9) (p9 := tEnd t n9 (tNext t n9 (tNext t n9 p9))) hB14 hn hT15.2.1 hT15.2.2.2.2.1 (tEnd_le hT15.1).1 ?_
        intro J52 hg53 hB54 hT55; have hT55 : zTok J52 (x + 1) t n9 (tNext t n9 (tNext t n9 (tNext t n9 p9))) := hT55; have hR56 := hR16.ag hg53 (by omega); have fr57 : zfr I J52 x := zfr.ag fr8 hg53 (by omega); have hk4_J52 := tKind_le (t := t) (n := n9) (p := (tNext t n9 (tNext t n9 (tNext t n9 p9)))); have hl4_J52 := tEndL_le (t := t) hT55.1; have hpn_J52 := hT55.1
        refine zr_iconst (v := (-1 : Int32)) X dX6_readWait_81 (by decide) ?_
        refine zr_istore6 X (by decide) rfl dX6_readWait_82 ?_
        refine zr_aload1 X dX6_readWait_84 ?_
        refine zr_getI X zf_X6_15 rfl dX6_readWait_85 ?_
        refine zr_eq (x2 := (nI (tKind t n9 (tNext t n9 (tNext t n9 (tNext t n9 p9)))))) (hT55.2.2.2.1) ?_
        refine zr_iconst (v := (2 : Int32)) X dX6_readWait_88 (by decide) ?_
        refine zr_nicmp_ne X ((tKind t n9 (tNext t n9 (tNext t n9 (tNext t n9 p9))))) (2) (tgt := 108) (by omega) (by omega) dX6_readWait_89 (by decide) (fun h9 => ?_) (fun h9 => ?_)
        · skip
          refine zr_aload2 X dX6_readWait_108 ?_
          refine zr_aload2 X dX6_readWait_109 ?_
          refine zr_getR X zf_X6_138 rfl (by decide) (by decide) dX6_readWait_110 ?_
          refine zr_iload3 X dX6_readWait_113 ?_
          refine zr_aaldN X rfl rfl (by decide) (show _ < 6 from (by first | assumption | omega)) dX6_readWait_114 ?_
          refine zr_iload5 X dX6_readWait_115 ?_
          refine zr_iload6 X dX6_readWait_117 ?_
          refine zr_callV3 (rm9 := zrm_X5_reasonNotToJoin) X hnt zm_X6_142 (by decide) (by decide) (by decide) (Nat.le_of_ble_eq_true rfl) dX6_readWait_119 ?_
          refine zp10_X5_reasonNotToJoin (c9 := 0) hR56 hW17 (by omega) (by omega) ?_; have := qWhy_lt (S := S) (g := v11) (s := 1) (w := 0)
          refine zr_nif_eq X ((qWhy S v11 1 0)) (tgt := 134) (by omega) dX6_readWait_122 (by decide) (fun h10 => ?_) (fun h10 => ?_)
          · skip
            refine zr_aload2 X dX6_readWait_134 ?_
            refine zr_getR X zf_X6_138 rfl (by decide) (by decide) dX6_readWait_135 ?_
            refine zr_iload3 X dX6_readWait_138 ?_
            refine zr_aaldN X rfl rfl (by decide) (show _ < 6 from (by first | assumption | omega)) dX6_readWait_139 ?_
            refine zr_iload5 X dX6_readWait_140 ?_
            refine zr_callV1 (rm9 := zrm_X1_lineOn) X hnt zm_X6_146 (by decide) (by decide) (by decide) (Nat.le_of_ble_eq_true rfl) dX6_readWait_142 ?_
            refine zp_X1_lineOn (fun h => absurd rfl h) (fun _ => ?_)
            refine zr_iload6 X dX6_readWait_145 ?_
            refine zr_callV1 (rm9 := zrm_X4_addLast) X hnt zm_X6_152 (by decide) (by decide) (by decide) (Nat.le_of_ble_eq_true rfl) dX6_readWait_147 ?_
            refine zn_addLast (g := v11) (s9 := 1) (w := 0) hR56 (by omega) (Or.inr ⟨rfl, rfl⟩) (by have := (qWhy_0 h10).2.1; have := hW17.len v11 1; omega) (by decide) ?_
            intro J58 hg59 hR60; have hB61 := zBy.ag hB54 hg59 (by omega); have hT62 := zTok.ag hT55 hg59 (by omega); have fr63 : zfr I J58 x := zfr.ag fr57 hg59 (by omega); have hW64 : zWf (tL S v11 1 (sL S v11 1 ++ [0])) := zWf_join hW17 (by omega) (by omega) h10
            refine zr_iconst (v := (1 : Int32)) X dX6_readWait_150 (by decide) ?_
            refine zr_zret X (by first | decide | assumption | (simp; done)) (by decide) (by decide) dX6_readWait_151 ?_
            exact k1 _ _ _ (by simp [pWait, pWait2, pWait3, pWait4, hq10, hw2, hw8, h9, h10]) fr63 ⟨hB61, hn, hT62, hR60, hW64⟩
          · skip
            refine zr_aload0 X dX6_readWait_125 ?_
            refine zr_bipush (v := (-6 : Int32)) X dX6_readWait_126 (by decide) ?_
            refine zr_iload4 X dX6_readWait_128 ?_
            refine zr_callV2 (rm9 := zrm_X6_fail) X hnt zm_X6_58 (by decide) (by decide) (by decide) (Nat.le_of_ble_eq_true rfl) dX6_readWait_130 ?_
            refine zp_X6_fail ?_
            refine zr_zret X (by first | decide | assumption | (simp; done)) (by decide) (by decide) dX6_readWait_133 ?_
            exact k2 _ _ (by simp [pWait, pWait2, pWait3, pWait4, hq10, hw2, hw8, h9, h10]) (zfr.er fr57) (zEr.mk hB54)
        · skip
          refine zr_aload0 X dX6_readWait_92 ?_
          refine zr_aload1 X dX6_readWait_93 ?_
          refine zr_aload2 X dX6_readWait_94 ?_
          refine zr_callV2 (rm9 := zrm_X6_takeKnownCard) X hnt zm_X6_114 (by decide) (by decide) (by decide) (Nat.le_of_ble_eq_true rfl) dX6_readWait_95 ?_
          refine zp_X6_takeKnownCard (x := x) (t := t) (f := f) (n9 := n9) (p9 := (tNext t n9 (tNext t n9 (tNext t n9 p9)))) (S := S) ⟨hB54, hn, hT55, hR56, hW17⟩ ?_ ?_
          · skip
            intro J65 c69 hq68 fr66 hS67 hc77; obtain ⟨hB72, hn76, hT73, hR74, hW75⟩ := hS67; have fr66 : zfr I J65 x := zfr.tr fr57 fr66; have hk4_J65 := tKind_le (t := t) (n := n9) (p := (tNext t n9 (tNext t n9 (tNext t n9 (tNext t n9 p9))))); have hl4_J65 := tEndL_le (t := t) hT73.1; have hpn_J65 := hT73.1; have := hW75.nc.1
            refine zr_istore6 X (by decide) rfl dX6_readWait_98 ?_
            refine zr_iload6 X dX6_readWait_100 ?_
            refine zr_iconst (v := (-1 : Int32)) X dX6_readWait_102 (by decide) ?_
            refine zr_icmp_ne (tgt := 108) X dX6_readWait_103 (by decide) (fun _ => ?_) (fun h => absurd h (zm1 (by omega)))
            refine zr_aload2 X dX6_readWait_108 ?_
            refine zr_aload2 X dX6_readWait_109 ?_
            refine zr_getR X zf_X6_138 rfl (by decide) (by decide) dX6_readWait_110 ?_
            refine zr_iload3 X dX6_readWait_113 ?_
            refine zr_aaldN X rfl rfl (by decide) (show _ < 6 from (by first | assumption | omega)) dX6_readWait_114 ?_
            refine zr_iload5 X dX6_readWait_115 ?_
            refine zr_iload6 X dX6_readWait_117 ?_
            refine zr_callV3 (rm9 := zrm_X5_reasonNotToJoin) X hnt zm_X6_142 (by decide) (by decide) (by decide) (Nat.le_of_ble_eq_true rfl) dX6_readWait_119 ?_
            refine zp11_X5_reasonNotToJoin (c9 := c69) hR74 hW75 (by omega) (by omega) ?_; have := qWhy_lt (S := S) (g := v11) (s := 1) (w := (c69 + 1))
            refine zr_nif_eq X ((qWhy S v11 1 (c69 + 1))) (tgt := 134) (by omega) dX6_readWait_122 (by decide) (fun h12 => ?_) (fun h12 => ?_)
            · skip
              refine zr_aload2 X dX6_readWait_134 ?_
              refine zr_getR X zf_X6_138 rfl (by decide) (by decide) dX6_readWait_135 ?_
              refine zr_iload3 X dX6_readWait_138 ?_
              refine zr_aaldN X rfl rfl (by decide) (show _ < 6 from (by first | assumption | omega)) dX6_readWait_139 ?_
              refine zr_iload5 X dX6_readWait_140 ?_
              refine zr_callV1 (rm9 := zrm_X1_lineOn) X hnt zm_X6_146 (by decide) (by decide) (by decide) (Nat.le_of_ble_eq_true rfl) dX6_readWait_142 ?_
              refine zp_X1_lineOn (fun h => absurd rfl h) (fun _ => ?_)
              refine zr_iload6 X dX6_readWait_145 ?_
              refine zr_callV1 (rm9 := zrm_X4_addLast) X hnt zm_X6_152 (by decide) (by decide) (by decide) (Nat.le_of_ble_eq_true rfl) dX6_readWait_147 ?_
              refine zn_addLast (g := v11) (s9 := 1) (w := (c69 + 1)) hR74 (by omega) (Or.inr ⟨rfl, rfl⟩) (by have := (qWhy_0 h12).2.1; have := hW75.len v11 1; omega) (pk_sub (a := _ + 1) (b := 1) (by omega)) ?_
              intro J78 hg79 hR80; have hB81 := zBy.ag hB72 hg79 (by omega); have hT82 := zTok.ag hT73 hg79 (by omega); have fr83 : zfr I J78 x := zfr.ag fr66 hg79 (by omega); have hW84 : zWf (tL S v11 1 (sL S v11 1 ++ [(c69 + 1)])) := zWf_join hW75 (by omega) (by omega) h12
              refine zr_iconst (v := (1 : Int32)) X dX6_readWait_150 (by decide) ?_
              refine zr_zret X (by first | decide | assumption | (simp; done)) (by decide) (by decide) dX6_readWait_151 ?_
              exact k1 _ _ _ (by simp [pWait, pWait2, pWait3, pWait4, hq10, hw2, hw8, h9, hq68, h12]) fr83 ⟨hB81, hn, hT82, hR80, hW84⟩
            · skip
              refine zr_aload0 X dX6_readWait_125 ?_
              refine zr_bipush (v := (-6 : Int32)) X dX6_readWait_126 (by decide) ?_
              refine zr_iload4 X dX6_readWait_128 ?_
              refine zr_callV2 (rm9 := zrm_X6_fail) X hnt zm_X6_58 (by decide) (by decide) (by decide) (Nat.le_of_ble_eq_true rfl) dX6_readWait_130 ?_
              refine zp_X6_fail ?_
              refine zr_zret X (by first | decide | assumption | (simp; done)) (by decide) (by decide) dX6_readWait_133 ?_
              exact k2 _ _ (by simp [pWait, pWait2, pWait3, pWait4, hq10, hw2, hw8, h9, hq68, h12]) (zfr.er fr66) (zEr.mk hB72)
          · skip
            intro J65 er70 hq68 fr66 hE71; have fr66 : zfr I J65 x := zfr.tr fr57 fr66
            refine zr_istore6 X (by decide) rfl dX6_readWait_98 ?_
            refine zr_iload6 X dX6_readWait_100 ?_
            refine zr_iconst (v := (-1 : Int32)) X dX6_readWait_102 (by decide) ?_
            refine zr_icmp_ne (tgt := 108) X dX6_readWait_103 (by decide) (fun h => absurd h (by decide)) (fun _ => ?_)
            refine zr_iconst (v := (0 : Int32)) X dX6_readWait_106 (by decide) ?_
            refine zr_zret X (by first | decide | assumption | (simp; done)) (by decide) (by decide) dX6_readWait_107 ?_
            exact k2 _ er70 (by simp [pWait, pWait2, pWait3, pWait4, hq10, hw2, hw8, h9, hq68]) fr66 hE71
      · skip
        intro hw8; have hw8 : ¬ tIsB t n9 (tNext t n9 (tNext t n9 p9)) wOut = true := fun z => hw8 (tIsB_iff.mp z)
        refine zr_if_eq (tgt := 59) X dX6_readWait_52 (by decide) (fun _ => ?_) (fun h => absurd h (by decide))
        refine zr_iconst (v := (-1 : Int32)) X dX6_readWait_59 (by decide) ?_
        refine zr_istore5 X (by decide) rfl dX6_readWait_60 ?_
        refine zr_iload5 X dX6_readWait_62 ?_
        refine zr_iconst (v := (-1 : Int32)) X dX6_readWait_64 (by decide) ?_
        refine zr_icmp_ne (tgt := 77) X dX6_readWait_65 (by decide) (fun h => absurd h (by decide)) (fun _ => ?_)
        refine zr_aload0 X dX6_readWait_68 ?_
        refine zr_bipush (v := (-2 : Int32)) X dX6_readWait_69 (by decide) ?_
        refine zr_iload4 X dX6_readWait_71 ?_
        refine zr_callV2 (rm9 := zrm_X6_fail) X hnt zm_X6_58 (by decide) (by decide) (by decide) (Nat.le_of_ble_eq_true rfl) dX6_readWait_73 ?_
        refine zp_X6_fail ?_
        refine zr_zret X (by first | decide | assumption | (simp; done)) (by decide) (by decide) dX6_readWait_76 ?_
        exact k2 _ _ (by simp [pWait, pWait2, pWait3, pWait4, hq10, hw2, hw8]) (zfr.er fr8) (zEr.mk hB14)
  · skip
    intro J7 er12 hq10 fr8 hE13; have fr8 : zfr I J7 x := zfr.tr fr6 fr8
    refine zr_istore3 X (by decide) rfl dX6_readWait_16 ?_
    refine zr_aload2 X dX6_readWait_17 ?_
    refine zr_iload3 X dX6_readWait_18 ?_
    refine zr_callV1 (rm9 := zrm_X5_hasGate) X hnt zm_X6_135 (by decide) (by decide) (by decide) (Nat.le_of_ble_eq_true rfl) dX6_readWait_19 ?_
    refine zq_X5_hasGate (fun h => absurd (by decide) h.1) (fun _ => ?_)
    refine zr_if_ne (tgt := 27) X dX6_readWait_22 (by decide) (fun h => absurd h (by decide)) (fun _ => ?_)
    refine zr_iconst (v := (0 : Int32)) X dX6_readWait_25 (by decide) ?_
    refine zr_zret X (by first | decide | assumption | (simp; done)) (by decide) (by decide) dX6_readWait_26 ?_
    exact k2 _ er12 (by simp [pWait, pWait2, pWait3, pWait4, hq10]) fr8 hE13
abbrev zrm_X6_readList : Room := { frames := 4, cells := 0, slots := 0, locals := 88 }
theorem pKnown_lt {t : Nat → Nat} {n p c : Nat} {S : zS} (h : pKnown t n p S = .inr c) : p < n := by
  unfold pKnown at h
  cases e : pName t n p with
  | some e9 => rw [e] at h; cases h
  | none => exact (tKind_2.mp (pName_none e).1).1
set_option maxRecDepth 20000 in
theorem zl_X6_readList {l : Launch} {D : va_G} {b0 : Nat} {tA : Nat → ClassId} {sa sv : Nat → Nat} {K : zKt} {I : zI} {Qp : zI → Option AV → Prop} {Xp : String → zI → Prop} {p : Program} {e : Env} {s : State} {m : MethodId} {args : Array Value} {below : List Frame} {meth : Method} {c : Code} {x f n9 : Nat} {t : Nat → Nat} {RES : zRs}
    (X : zX p l e zrm_X6_readList s m args below meth c RX6 cX6_readList 5 (some .boolean) D b0 tA sa sv) (hnt : ∀ x ∈ c.exceptionTable.toList, False) (hf5 : f ≤ 500) (k1 : ∀ (J : zI) (p2 : Nat) (S2 : zS), RES = .inr (p2, S2) → zfr I J x → zPs J x t f n9 p2 S2 → Qp J (some (vi 1))) (k2 : ∀ (J : zI) (er : Int32 × Nat), RES = .inl er → zfr I J x → zEr J x t f er → Qp J (some (vi 0))) :
    ∀ (n : Nat) (j pp : Nat) (T : zS) (J : zI), (match pListed t n9 pp T with | .inl e => .inl e | .inr q => pMore t n9 (n9 - q.1) q.1 q.2) = RES → zfr I J x → zPs J x t f n9 pp T → (pp < n9 → j + 1 ≤ pp) → j ≤ 500 → n9 - pp < n → zG p l e zrm_X6_readList s m args below meth c 5 D b0 tA sa 0 0 (zQ below D b0 tA sa K args s zrm_X6_readList Qp Xp) K 6 [some (vr (x + 3) 6), some (vr (x + 1) 3), some (vr (x + 94) 5), some (vi ((nI j))), none] [] J := by
  intro n
  induction n with
  | zero => intro j pp T J i1 i2 i3 i4 i5 i9; exact absurd i9 (Nat.not_lt_zero _)
  | succ n ih =>
    intro j pp T J i1 i2 i3 i4 i5 i9
    obtain ⟨hB, hn, hT, hR, hW⟩ := i3
    have hpn := hT.1
    have hk4 := tKind_le (t := t) (n := n9) (p := pp)
    have hl4 := tEndL_le (t := t) hT.1
    have hg6 := hW.ng.1
    have hc12 := hW.nc.1
    refine zr_aload0 X dX6_readList_6 ?_
    refine zr_aload1 X dX6_readList_7 ?_
    refine zr_aload2 X dX6_readList_8 ?_
    refine zr_callV2 (rm9 := zrm_X6_takeKnownCard) X hnt zm_X6_114 (by decide) (by decide) (by decide) (Nat.le_of_ble_eq_true rfl) dX6_readList_9 ?_
    refine zp_X6_takeKnownCard (x := x) (t := t) (f := f) (n9 := n9) (p9 := pp) (S := T) ⟨hB, hn, hT, hR, hW⟩ ?_ ?_
    · skip
      intro J85 c89 hq88 fr86 hS87 hc97; obtain ⟨hB92, hn96, hT93, hR94, hW95⟩ := hS87; have fr86 : zfr I J85 x := zfr.tr i2 fr86; have hk4_J85 := tKind_le (t := t) (n := n9) (p := (tNext t n9 pp)); have hl4_J85 := tEndL_le (t := t) hT93.1; have hpn_J85 := hT93.1; have := hW95.nc.1
      refine zr_istore4 X (by decide) rfl dX6_readList_12 ?_
      refine zr_aload2 X dX6_readList_14 ?_
      refine zr_iload4 X dX6_readList_15 ?_
      refine zr_callV1 (rm9 := zrm_X5_hasCard) X hnt zm_X6_118 (by decide) (by decide) (by decide) (Nat.le_of_ble_eq_true rfl) dX6_readList_17 ?_
      refine zn_X5_hasCard hR94 hW95 (by omega) (fun _ => ?_) (fun h => absurd (by omega) h)
      refine zr_if_ne (tgt := 25) X dX6_readList_20 (by decide) (fun _ => ?_) (fun h => absurd h (by decide))
      refine zr_aload2 X dX6_readList_25 ?_
      refine zr_getR X zf_X6_122 rfl (by decide) (by decide) dX6_readList_26 ?_
      refine zr_iload4 X dX6_readList_29 ?_
      refine zr_aaldN X rfl rfl (by decide) (show _ < 12 from (by first | assumption | omega)) dX6_readList_31 ?_
      refine zr_iconst (v := (1 : Int32)) X dX6_readList_32 (by decide) ?_
      refine zr_putI X zf_X6_126 rfl (Or.inr (by first | decide | assumption | (simp; done))) dX6_readList_33 ?_
      have hR_1 : zRw _ (x + 94) (tC T c89 2 (1 : Int32)) := zRw_C hR94 (show c89 < 12 by omega) (j := 2) (v := (1 : Int32)) (by decide) rfl
      refine zr_iinc3 (v := (nI (j + 1))) X (show nI (j) + Int32.ofInt 1 = nI (j + 1) from nI_1 (j)) (by decide) rfl dX6_readList_36 ?_
      refine zr_iload3 X dX6_readList_39 ?_
      refine zr_sipush (v := (500 : Int32)) X dX6_readList_40 (by decide) ?_
      refine zr_nicmp_ge X ((j + 1)) (500) (tgt := 54) (by omega) (by omega) dX6_readList_43 (by decide) (fun h2 => ?_) (fun h2 => ?_)
      · exact absurd h2 (by have h8 := pKnown_lt hq88; have h9 := i4 h8; omega)
      · skip
        refine zr_aload1 X dX6_readList_46 ?_
        refine zr_getI X zf_X6_15 rfl dX6_readList_47 ?_
        refine zr_eq (x2 := (J85 (x + 1) 4)) ((zput_ne (by omega))) ?_
        refine zr_eq (x2 := (nI (tKind t n9 (tNext t n9 pp)))) (hT93.2.2.2.1) ?_
        refine zr_iconst (v := (2 : Int32)) X dX6_readList_50 (by decide) ?_
        refine zr_nicmp_eq X ((tKind t n9 (tNext t n9 pp))) (2) (tgt := 6) (by omega) (by omega) dX6_readList_51 (by decide) (fun h3 => ?_) (fun h3 => ?_)
        · skip
          have hg98 : zag J85 (zput J85 (x + 94 + 2 + 31 + 1 * c89) 3 ((1 : Int32))) (x + 94) 45 := by repeat (first | exact zag.rf | assumption | refine zag.put ?_ (by omega) (by omega) | refine zag.tr ?_ (by assumption) (by omega) (by omega))
          have hB99 := zBy.ag hB92 hg98 (by omega)
          have hT100 := zTok.ag hT93 hg98 (by omega)
          have fr101 : zfr I (zput J85 (x + 94 + 2 + 31 + 1 * c89) 3 ((1 : Int32))) x := zfr.ag fr86 hg98 (by omega)
          have hW102 : zWf (tC T c89 2 (1 : Int32)) := zWf_list hW95 (by assumption) (Or.inr rfl)
          have hlt := pKnown_lt hq88
          have hgt := tNext_gt (t := t) hlt
          have i4b := i4 hlt
          have i1b : pMore t n9 (n9 - (tNext t n9 pp)) (tNext t n9 pp) (tC T c89 2 (1 : Int32)) = RES := by rw [← i1]; unfold pListed; rw [hq88]
          rw [pMore_step hT100.1 (by assumption)] at i1b
          refine zr_forget (lv2 := [some (vr (x + 3) 6), some (vr (x + 1) 3), some (vr (x + 94) 5), some (vi ((nI (j + 1)))), none]) (fun j9 v9 h9 => by rcases j9 with _ | _ | _ | _ | _ | j9 <;> first | exact h9 | (simp at h9)) ?_
          exact ih (j + 1) _ _ _ i1b fr101 ⟨hB99, hn, hT100, hR_1, hW102⟩ (fun _ => by omega) (by omega) (by omega)
        · skip
          refine zr_iconst (v := (1 : Int32)) X dX6_readList_54 (by decide) ?_
          refine zr_zret X (by first | decide | assumption | (simp; done)) (by decide) (by decide) dX6_readList_55 ?_
          have hg103 : zag J85 (zput J85 (x + 94 + 2 + 31 + 1 * c89) 3 ((1 : Int32))) (x + 94) 45 := by repeat (first | exact zag.rf | assumption | refine zag.put ?_ (by omega) (by omega) | refine zag.tr ?_ (by assumption) (by omega) (by omega))
          have hB104 := zBy.ag hB92 hg103 (by omega)
          have hT105 := zTok.ag hT93 hg103 (by omega)
          have fr106 : zfr I (zput J85 (x + 94 + 2 + 31 + 1 * c89) 3 ((1 : Int32))) x := zfr.ag fr86 hg103 (by omega)
          have hW107 : zWf (tC T c89 2 (1 : Int32)) := zWf_list hW95 (by assumption) (Or.inr rfl)
          exact k1 _ _ _ (by rw [← i1]; unfold pListed; rw [hq88]; exact pMore_stop (by assumption)) fr106 ⟨hB104, hn, hT105, hR_1, hW107⟩
    · skip
      intro J85 er90 hq88 fr86 hE91; have fr86 : zfr I J85 x := zfr.tr i2 fr86
      refine zr_istore4 X (by decide) rfl dX6_readList_12 ?_
      refine zr_aload2 X dX6_readList_14 ?_
      refine zr_iload4 X dX6_readList_15 ?_
      refine zr_callV1 (rm9 := zrm_X5_hasCard) X hnt zm_X6_118 (by decide) (by decide) (by decide) (Nat.le_of_ble_eq_true rfl) dX6_readList_17 ?_
      refine zq_X5_hasCard (fun h => absurd (by decide) h.1) (fun _ => ?_)
      refine zr_if_ne (tgt := 25) X dX6_readList_20 (by decide) (fun h => absurd h (by decide)) (fun _ => ?_)
      refine zr_iconst (v := (0 : Int32)) X dX6_readList_23 (by decide) ?_
      refine zr_zret X (by first | decide | assumption | (simp; done)) (by decide) (by decide) dX6_readList_24 ?_
      exact k2 _ er90 (by rw [← i1]; unfold pListed; rw [hq88]) fr86 hE91
set_option maxRecDepth 20000 in
theorem zp_X6_readList {l : Launch} {D : va_G} {b0 : Nat} {tA : Nat → ClassId} {sa sv : Nat → Nat} {K : zKt} {I : zI} {Qp : zI → Option AV → Prop} {Xp : String → zI → Prop} {x f n9 p9 : Nat} {t : Nat → Nat} {S : zS}
    (hS : zPs I x t f n9 p9 S) (k1 : ∀ (J : zI) (p2 : Nat) (S2 : zS), pList t n9 p9 S = .inr (p2, S2) → zfr I J x → zPs J x t f n9 p2 S2 → Qp J (some (vi 1))) (k2 : ∀ (J : zI) (er : Int32 × Nat), pList t n9 p9 S = .inl er → zfr I J x → zEr J x t f er → Qp J (some (vi 0))) :
    zC l D b0 tA sa sv K yX6_readList (.code yX6_readList cX6_readList 5 (some .boolean)) zrm_X6_readList [vr (x + 3) 6, vr (x + 1) 3, vr (x + 94) 5] I Qp Xp := by
  obtain ⟨hB, hn, hT, hR, hW⟩ := hS
  have hf5 := hB.2.1
  have hpn := hT.1
  have hk4 := tKind_le (t := t) (n := n9) (p := p9)
  have hl4 := tEndL_le (t := t) hT.1
  have hg6 := hW.ng.1
  have hc12 := hW.nc.1
  refine zC_of (by decide +kernel) (Nat.le_of_ble_eq_true rfl) ?_
  intro p e s m args below meth c X hnt
  have X : zX p l e zrm_X6_readList s m args below meth c RX6 cX6_readList 5 (some .boolean) D b0 tA sa sv := X
  refine zr_lv (lv2 := [some (vr (x + 3) 6), some (vr (x + 1) 3), some (vr (x + 94) 5), none, none]) rfl ?_
  refine zr_aload1 X dX6_readList_0 ?_
  refine zr_callV0 (rm9 := zrm_X3_advance) X hnt zm_X6_68 (by decide) (by decide) (by decide) (Nat.le_of_ble_eq_true rfl) dX6_readList_1 ?_
  refine zp_X3_advance (a := x + 1) (t := t) (f := f) (n9 := n9) (p9 := tEnd t n9 p9) hB hn hT.2.1 hT.2.2.2.2.1 (tEnd_le hT.1).1 ?_
  intro J108 hg109 hB110 hT111; have hT111 : zTok J108 (x + 1) t n9 (tNext t n9 p9) := hT111; have hR112 := hR.ag hg109 (by omega); have fr113 : zfr I J108 x := zfr.ag zfr.rf hg109 (by omega); have hk4_J108 := tKind_le (t := t) (n := n9) (p := (tNext t n9 p9)); have hl4_J108 := tEndL_le (t := t) hT111.1; have hpn_J108 := hT111.1
  refine zr_iconst (v := (0 : Int32)) X dX6_readList_4 (by decide) ?_
  refine zr_istore3 X (by decide) rfl dX6_readList_5 ?_
  exact zl_X6_readList (RES := pList t n9 p9 S) X hnt hf5 k1 k2 (n9 + 1) 0 (tNext t n9 p9) S _ rfl fr113 ⟨hB110, hn, hT111, hR112, hW⟩ (fun z => by have h8 := (tNext_le (t := t) hT.1).2; have h9 := tNext_gt (t := t) (show p9 < n9 by omega); omega) (by omega) (by omega)
abbrev zrm_X6_readSetup : Room := { frames := 7, cells := 0, slots := 0, locals := 199 }
set_option maxRecDepth 20000 in
theorem zl_X6_readSetup {l : Launch} {D : va_G} {b0 : Nat} {tA : Nat → ClassId} {sa sv : Nat → Nat} {K : zKt} {I : zI} {Qp : zI → Option AV → Prop} {Xp : String → zI → Prop} {p : Program} {e : Env} {s : State} {m : MethodId} {args : Array Value} {below : List Frame} {meth : Method} {c : Code} {x f n9 : Nat} {t : Nat → Nat} {RES : zRs}
    (X : zX p l e zrm_X6_readSetup s m args below meth c RX6 cX6_readSetup 5 (some .boolean) D b0 tA sa sv) (hnt : ∀ x ∈ c.exceptionTable.toList, False) (hf5 : f ≤ 500) (k1 : ∀ (J : zI) (p2 : Nat) (S2 : zS), RES = .inr (p2, S2) → zfr I J x → zPs J x t f n9 p2 S2 → Qp J (some (vi 1))) (k2 : ∀ (J : zI) (er : Int32 × Nat), RES = .inl er → zfr I J x → zEr J x t f er → Qp J (some (vi 0))) :
    ∀ (n : Nat) (j pp : Nat) (T : zS) (J : zI), pAll t n9 (n9 - pp) pp T = RES → zfr I J x → zPs J x t f n9 pp T → j ≤ pp → n9 - pp < n → zG p l e zrm_X6_readSetup s m args below meth c 5 D b0 tA sa 0 0 (zQ below D b0 tA sa K args s zrm_X6_readSetup Qp Xp) K 10 [some (vr (x + 3) 6), some (vr (x + 1) 3), some (vr (x + 94) 5), some (vi ((1 : Int32))), some (vi ((nI j)))] [] J := by
  intro n
  induction n with
  | zero => intro j pp T J i1 i2 i3 i4 i9; exact absurd i9 (Nat.not_lt_zero _)
  | succ n ih =>
    intro j pp T J i1 i2 i3 i4 i9
    obtain ⟨hB, hn, hT, hR, hW⟩ := i3
    have hpn := hT.1
    have hk4 := tKind_le (t := t) (n := n9) (p := pp)
    have hl4 := tEndL_le (t := t) hT.1
    have hg6 := hW.ng.1
    have hc12 := hW.nc.1
    have hkz : tKind t n9 pp = 0 ↔ n9 ≤ pp := tKind_0
    refine zr_iload3 X dX6_readSetup_10 ?_
    refine zr_if_eq (tgt := 178) X dX6_readSetup_11 (by decide) (fun h => absurd h (by decide)) (fun _ => ?_)
    refine zr_iload4 X dX6_readSetup_14 ?_
    refine zr_sipush (v := (500 : Int32)) X dX6_readSetup_16 (by decide) ?_
    refine zr_nicmp_ge X (j) (500) (tgt := 178) (by omega) (by omega) dX6_readSetup_19 (by decide) (fun h1 => ?_) (fun h1 => ?_)
    · skip
      refine zr_iload3 X dX6_readSetup_178 ?_
      refine zr_zret X (by first | decide | assumption | (simp; done)) (by decide) (by decide) dX6_readSetup_179 ?_
      exact k1 _ _ _ (by rw [← i1, pAll_stop (by omega)]) i2 ⟨hB, hn, hT, hR, hW⟩
    · skip
      refine zr_aload1 X dX6_readSetup_22 ?_
      refine zr_getI X zf_X6_15 rfl dX6_readSetup_23 ?_
      refine zr_eq (x2 := (nI (tKind t n9 pp))) (hT.2.2.2.1) ?_
      refine zr_nif_eq X ((tKind t n9 pp)) (tgt := 178) (by omega) dX6_readSetup_26 (by decide) (fun h2 => ?_) (fun h2 => ?_)
      · skip
        refine zr_iload3 X dX6_readSetup_178 ?_
        refine zr_zret X (by first | decide | assumption | (simp; done)) (by decide) (by decide) dX6_readSetup_179 ?_
        exact k1 _ _ _ (by rw [← i1, pAll_stop (by omega)]) i2 ⟨hB, hn, hT, hR, hW⟩
      · skip
        refine zr_aload1 X dX6_readSetup_29 ?_
        refine zr_ldcS X 1 rfl (by decide) dX6_readSetup_30 ?_
        refine zr_callV1 (rm9 := zrm_X3_isWord) X hnt zm_X6_23 (by decide) (by decide) (by decide) (Nat.le_of_ble_eq_true rfl) dX6_readSetup_32 ?_
        refine zp_X3_isWord (a := x + 1) (i := 1) (t := t) (n9 := n9) (p9 := pp) (by omega) hT (by decide) ?_ ?_
        · skip
          intro hw3; have hw3 : tIsB t n9 pp wGate = true := tIsB_iff.mpr hw3
          refine zr_if_eq (tgt := 48) X dX6_readSetup_35 (by decide) (fun h => absurd h (by decide)) (fun _ => ?_)
          refine zr_aload0 X dX6_readSetup_38 ?_
          refine zr_aload1 X dX6_readSetup_39 ?_
          refine zr_aload2 X dX6_readSetup_40 ?_
          refine zr_callV2 (rm9 := zrm_X6_readGate) X hnt zm_X6_27 (by decide) (by decide) (by decide) (Nat.le_of_ble_eq_true rfl) dX6_readSetup_41 ?_
          refine zp_X6_readGate (x := x) (t := t) (f := f) (n9 := n9) (p9 := pp) (S := T) ⟨hB, hn, hT, hR, hW⟩ ?_ ?_
          · skip
            intro J114 p118 T119 hq117 fr115 hS116; obtain ⟨hB122, hn126, hT123, hR124, hW125⟩ := hS116; have fr115 : zfr I J114 x := zfr.tr i2 fr115; have hk4_J114 := tKind_le (t := t) (n := n9) (p := p118); have hl4_J114 := tEndL_le (t := t) hT123.1; have hpn_J114 := hT123.1; have := hW125.ng.1; have := hW125.nc.1
            refine zr_istore3 X (by decide) rfl dX6_readSetup_44 ?_
            refine zr_goto (tgt := 154) X dX6_readSetup_45 (by decide) ?_
            refine zr_iload3 X dX6_readSetup_154 ?_
            refine zr_if_eq (tgt := 170) X dX6_readSetup_155 (by decide) (fun h => absurd h (by decide)) (fun _ => ?_)
            refine zr_aload0 X dX6_readSetup_158 ?_
            refine zr_aload1 X dX6_readSetup_159 ?_
            refine zr_callV1 (rm9 := zrm_X6_takeSemicolon) X hnt zm_X6_62 (by decide) (by decide) (by decide) (Nat.le_of_ble_eq_true rfl) dX6_readSetup_160 ?_
            refine zp_X6_takeSemicolon (x := x) (t := t) (f := f) (n9 := n9) (p9 := p118) (S := T119) ⟨hB122, hn, hT123, hR124, hW125⟩ ?_ ?_
            · skip
              intro J127 p131 T132 hq130 fr128 hS129; obtain ⟨hB135, hn139, hT136, hR137, hW138⟩ := hS129; have fr128 : zfr I J127 x := zfr.tr fr115 fr128; have hk4_J127 := tKind_le (t := t) (n := n9) (p := p131); have hl4_J127 := tEndL_le (t := t) hT136.1; have hpn_J127 := hT136.1; have := hW138.ng.1; have := hW138.nc.1
              refine zr_if_eq (tgt := 170) X dX6_readSetup_163 (by decide) (fun h => absurd h (by decide)) (fun _ => ?_)
              refine zr_iconst (v := (1 : Int32)) X dX6_readSetup_166 (by decide) ?_
              refine zr_goto (tgt := 171) X dX6_readSetup_167 (by decide) ?_
              refine zr_istore3 X (by decide) rfl dX6_readSetup_171 ?_
              refine zr_iinc4 (v := (nI (j + 1))) X (show nI (j) + Int32.ofInt 1 = nI (j + 1) from nI_1 (j)) (by decide) rfl dX6_readSetup_172 ?_
              refine zr_goto (tgt := 10) X dX6_readSetup_175 (by decide) ?_
              have hst : pStmt t n9 pp T = .inr (p131, T132) := by simp [pStmt, pBody, hw3, hq117, hq130]
              have hgt := pStmt_gt hpn hst
              have i1b := i1
              rw [pAll_step (by omega), hst] at i1b
              exact ih (j + 1) _ _ _ i1b fr128 ⟨hB135, hn, hT136, hR137, hW138⟩ (by omega) (by omega)
            · skip
              intro J127 er133 hq130 fr128 hE134; have fr128 : zfr I J127 x := zfr.tr fr115 fr128
              refine zr_if_eq (tgt := 170) X dX6_readSetup_163 (by decide) (fun _ => ?_) (fun h => absurd h (by decide))
              refine zr_iconst (v := (0 : Int32)) X dX6_readSetup_170 (by decide) ?_
              refine zr_istore3 X (by decide) rfl dX6_readSetup_171 ?_
              refine zr_iinc4 (v := (nI (j + 1))) X (show nI (j) + Int32.ofInt 1 = nI (j + 1) from nI_1 (j)) (by decide) rfl dX6_readSetup_172 ?_
              refine zr_goto (tgt := 10) X dX6_readSetup_175 (by decide) ?_
              refine zr_iload3 X dX6_readSetup_10 ?_
              refine zr_if_eq (tgt := 178) X dX6_readSetup_11 (by decide) (fun _ => ?_) (fun h => absurd h (by decide))
              refine zr_iload3 X dX6_readSetup_178 ?_
              refine zr_zret X (by first | decide | assumption | (simp; done)) (by decide) (by decide) dX6_readSetup_179 ?_
              have hst : pStmt t n9 pp T = .inl er133 := by simp [pStmt, pBody, hw3, hq117, hq130]
              exact k2 _ er133 (by rw [← i1, pAll_step (by omega), hst]) fr128 hE134
          · skip
            intro J114 er120 hq117 fr115 hE121; have fr115 : zfr I J114 x := zfr.tr i2 fr115
            refine zr_istore3 X (by decide) rfl dX6_readSetup_44 ?_
            refine zr_goto (tgt := 154) X dX6_readSetup_45 (by decide) ?_
            refine zr_iload3 X dX6_readSetup_154 ?_
            refine zr_if_eq (tgt := 170) X dX6_readSetup_155 (by decide) (fun _ => ?_) (fun h => absurd h (by decide))
            refine zr_iconst (v := (0 : Int32)) X dX6_readSetup_170 (by decide) ?_
            refine zr_istore3 X (by decide) rfl dX6_readSetup_171 ?_
            refine zr_iinc4 (v := (nI (j + 1))) X (show nI (j) + Int32.ofInt 1 = nI (j + 1) from nI_1 (j)) (by decide) rfl dX6_readSetup_172 ?_
            refine zr_goto (tgt := 10) X dX6_readSetup_175 (by decide) ?_
            refine zr_iload3 X dX6_readSetup_10 ?_
            refine zr_if_eq (tgt := 178) X dX6_readSetup_11 (by decide) (fun _ => ?_) (fun h => absurd h (by decide))
            refine zr_iload3 X dX6_readSetup_178 ?_
            refine zr_zret X (by first | decide | assumption | (simp; done)) (by decide) (by decide) dX6_readSetup_179 ?_
            have hst : pStmt t n9 pp T = .inl er120 := by simp [pStmt, pBody, hw3, hq117]
            exact k2 _ er120 (by rw [← i1, pAll_step (by omega), hst]) fr115 hE121
        · skip
          intro hw3; have hw3 : ¬ tIsB t n9 pp wGate = true := fun z => hw3 (tIsB_iff.mp z)
          refine zr_if_eq (tgt := 48) X dX6_readSetup_35 (by decide) (fun _ => ?_) (fun h => absurd h (by decide))
          refine zr_aload1 X dX6_readSetup_48 ?_
          refine zr_ldcS X 5 rfl (by decide) dX6_readSetup_49 ?_
          refine zr_callV1 (rm9 := zrm_X3_isWord) X hnt zm_X6_23 (by decide) (by decide) (by decide) (Nat.le_of_ble_eq_true rfl) dX6_readSetup_51 ?_
          refine zp_X3_isWord (a := x + 1) (i := 5) (t := t) (n9 := n9) (p9 := pp) (by omega) hT (by decide) ?_ ?_
          · skip
            intro hw4; have hw4 : tIsB t n9 pp wCard = true := tIsB_iff.mpr hw4
            refine zr_if_eq (tgt := 67) X dX6_readSetup_54 (by decide) (fun h => absurd h (by decide)) (fun _ => ?_)
            refine zr_aload0 X dX6_readSetup_57 ?_
            refine zr_aload1 X dX6_readSetup_58 ?_
            refine zr_aload2 X dX6_readSetup_59 ?_
            refine zr_callV2 (rm9 := zrm_X6_readCard) X hnt zm_X6_32 (by decide) (by decide) (by decide) (Nat.le_of_ble_eq_true rfl) dX6_readSetup_60 ?_
            refine zp_X6_readCard (x := x) (t := t) (f := f) (n9 := n9) (p9 := pp) (S := T) ⟨hB, hn, hT, hR, hW⟩ ?_ ?_
            · skip
              intro J140 p144 T145 hq143 fr141 hS142; obtain ⟨hB148, hn152, hT149, hR150, hW151⟩ := hS142; have fr141 : zfr I J140 x := zfr.tr i2 fr141; have hk4_J140 := tKind_le (t := t) (n := n9) (p := p144); have hl4_J140 := tEndL_le (t := t) hT149.1; have hpn_J140 := hT149.1; have := hW151.ng.1; have := hW151.nc.1
              refine zr_istore3 X (by decide) rfl dX6_readSetup_63 ?_
              refine zr_goto (tgt := 154) X dX6_readSetup_64 (by decide) ?_
              refine zr_iload3 X dX6_readSetup_154 ?_
              refine zr_if_eq (tgt := 170) X dX6_readSetup_155 (by decide) (fun h => absurd h (by decide)) (fun _ => ?_)
              refine zr_aload0 X dX6_readSetup_158 ?_
              refine zr_aload1 X dX6_readSetup_159 ?_
              refine zr_callV1 (rm9 := zrm_X6_takeSemicolon) X hnt zm_X6_62 (by decide) (by decide) (by decide) (Nat.le_of_ble_eq_true rfl) dX6_readSetup_160 ?_
              refine zp_X6_takeSemicolon (x := x) (t := t) (f := f) (n9 := n9) (p9 := p144) (S := T145) ⟨hB148, hn, hT149, hR150, hW151⟩ ?_ ?_
              · skip
                intro J153 p157 T158 hq156 fr154 hS155; obtain ⟨hB161, hn165, hT162, hR163, hW164⟩ := hS155; have fr154 : zfr I J153 x := zfr.tr fr141 fr154; have hk4_J153 := tKind_le (t := t) (n := n9) (p := p157); have hl4_J153 := tEndL_le (t := t) hT162.1; have hpn_J153 := hT162.1; have := hW164.ng.1; have := hW164.nc.1
                refine zr_if_eq (tgt := 170) X dX6_readSetup_163 (by decide) (fun h => absurd h (by decide)) (fun _ => ?_)
                refine zr_iconst (v := (1 : Int32)) X dX6_readSetup_166 (by decide) ?_
                refine zr_goto (tgt := 171) X dX6_readSetup_167 (by decide) ?_
                refine zr_istore3 X (by decide) rfl dX6_readSetup_171 ?_
                refine zr_iinc4 (v := (nI (j + 1))) X (show nI (j) + Int32.ofInt 1 = nI (j + 1) from nI_1 (j)) (by decide) rfl dX6_readSetup_172 ?_
                refine zr_goto (tgt := 10) X dX6_readSetup_175 (by decide) ?_
                have hst : pStmt t n9 pp T = .inr (p157, T158) := by simp [pStmt, pBody, hw3, hw4, hq143, hq156]
                have hgt := pStmt_gt hpn hst
                have i1b := i1
                rw [pAll_step (by omega), hst] at i1b
                exact ih (j + 1) _ _ _ i1b fr154 ⟨hB161, hn, hT162, hR163, hW164⟩ (by omega) (by omega)
              · skip
                intro J153 er159 hq156 fr154 hE160; have fr154 : zfr I J153 x := zfr.tr fr141 fr154
                refine zr_if_eq (tgt := 170) X dX6_readSetup_163 (by decide) (fun _ => ?_) (fun h => absurd h (by decide))
                refine zr_iconst (v := (0 : Int32)) X dX6_readSetup_170 (by decide) ?_
                refine zr_istore3 X (by decide) rfl dX6_readSetup_171 ?_
                refine zr_iinc4 (v := (nI (j + 1))) X (show nI (j) + Int32.ofInt 1 = nI (j + 1) from nI_1 (j)) (by decide) rfl dX6_readSetup_172 ?_
                refine zr_goto (tgt := 10) X dX6_readSetup_175 (by decide) ?_
                refine zr_iload3 X dX6_readSetup_10 ?_
                refine zr_if_eq (tgt := 178) X dX6_readSetup_11 (by decide) (fun _ => ?_) (fun h => absurd h (by decide))
                refine zr_iload3 X dX6_readSetup_178 ?_
                refine zr_zret X (by first | decide | assumption | (simp; done)) (by decide) (by decide) dX6_readSetup_179 ?_
                have hst : pStmt t n9 pp T = .inl er159 := by simp [pStmt, pBody, hw3, hw4, hq143, hq156]
                exact k2 _ er159 (by rw [← i1, pAll_step (by omega), hst]) fr154 hE160
            · skip
              intro J140 er146 hq143 fr141 hE147; have fr141 : zfr I J140 x := zfr.tr i2 fr141
              refine zr_istore3 X (by decide) rfl dX6_readSetup_63 ?_
              refine zr_goto (tgt := 154) X dX6_readSetup_64 (by decide) ?_
              refine zr_iload3 X dX6_readSetup_154 ?_
              refine zr_if_eq (tgt := 170) X dX6_readSetup_155 (by decide) (fun _ => ?_) (fun h => absurd h (by decide))
              refine zr_iconst (v := (0 : Int32)) X dX6_readSetup_170 (by decide) ?_
              refine zr_istore3 X (by decide) rfl dX6_readSetup_171 ?_
              refine zr_iinc4 (v := (nI (j + 1))) X (show nI (j) + Int32.ofInt 1 = nI (j + 1) from nI_1 (j)) (by decide) rfl dX6_readSetup_172 ?_
              refine zr_goto (tgt := 10) X dX6_readSetup_175 (by decide) ?_
              refine zr_iload3 X dX6_readSetup_10 ?_
              refine zr_if_eq (tgt := 178) X dX6_readSetup_11 (by decide) (fun _ => ?_) (fun h => absurd h (by decide))
              refine zr_iload3 X dX6_readSetup_178 ?_
              refine zr_zret X (by first | decide | assumption | (simp; done)) (by decide) (by decide) dX6_readSetup_179 ?_
              have hst : pStmt t n9 pp T = .inl er146 := by simp [pStmt, pBody, hw3, hw4, hq143]
              exact k2 _ er146 (by rw [← i1, pAll_step (by omega), hst]) fr141 hE147
          · skip
            intro hw4; have hw4 : ¬ tIsB t n9 pp wCard = true := fun z => hw4 (tIsB_iff.mp z)
            refine zr_if_eq (tgt := 67) X dX6_readSetup_54 (by decide) (fun _ => ?_) (fun h => absurd h (by decide))
            refine zr_aload1 X dX6_readSetup_67 ?_
            refine zr_ldcS X 6 rfl (by decide) dX6_readSetup_68 ?_
            refine zr_callV1 (rm9 := zrm_X3_isWord) X hnt zm_X6_23 (by decide) (by decide) (by decide) (Nat.le_of_ble_eq_true rfl) dX6_readSetup_70 ?_
            refine zp_X3_isWord (a := x + 1) (i := 6) (t := t) (n9 := n9) (p9 := pp) (by omega) hT (by decide) ?_ ?_
            · skip
              intro hw5; have hw5 : tIsB t n9 pp wList = true := tIsB_iff.mpr hw5
              refine zr_if_eq (tgt := 86) X dX6_readSetup_73 (by decide) (fun h => absurd h (by decide)) (fun _ => ?_)
              refine zr_aload0 X dX6_readSetup_76 ?_
              refine zr_aload1 X dX6_readSetup_77 ?_
              refine zr_aload2 X dX6_readSetup_78 ?_
              refine zr_callV2 (rm9 := zrm_X6_readList) X hnt zm_X6_37 (by decide) (by decide) (by decide) (Nat.le_of_ble_eq_true rfl) dX6_readSetup_79 ?_
              refine zp_X6_readList (x := x) (t := t) (f := f) (n9 := n9) (p9 := pp) (S := T) ⟨hB, hn, hT, hR, hW⟩ ?_ ?_
              · skip
                intro J166 p170 T171 hq169 fr167 hS168; obtain ⟨hB174, hn178, hT175, hR176, hW177⟩ := hS168; have fr167 : zfr I J166 x := zfr.tr i2 fr167; have hk4_J166 := tKind_le (t := t) (n := n9) (p := p170); have hl4_J166 := tEndL_le (t := t) hT175.1; have hpn_J166 := hT175.1; have := hW177.ng.1; have := hW177.nc.1
                refine zr_istore3 X (by decide) rfl dX6_readSetup_82 ?_
                refine zr_goto (tgt := 154) X dX6_readSetup_83 (by decide) ?_
                refine zr_iload3 X dX6_readSetup_154 ?_
                refine zr_if_eq (tgt := 170) X dX6_readSetup_155 (by decide) (fun h => absurd h (by decide)) (fun _ => ?_)
                refine zr_aload0 X dX6_readSetup_158 ?_
                refine zr_aload1 X dX6_readSetup_159 ?_
                refine zr_callV1 (rm9 := zrm_X6_takeSemicolon) X hnt zm_X6_62 (by decide) (by decide) (by decide) (Nat.le_of_ble_eq_true rfl) dX6_readSetup_160 ?_
                refine zp_X6_takeSemicolon (x := x) (t := t) (f := f) (n9 := n9) (p9 := p170) (S := T171) ⟨hB174, hn, hT175, hR176, hW177⟩ ?_ ?_
                · skip
                  intro J179 p183 T184 hq182 fr180 hS181; obtain ⟨hB187, hn191, hT188, hR189, hW190⟩ := hS181; have fr180 : zfr I J179 x := zfr.tr fr167 fr180; have hk4_J179 := tKind_le (t := t) (n := n9) (p := p183); have hl4_J179 := tEndL_le (t := t) hT188.1; have hpn_J179 := hT188.1; have := hW190.ng.1; have := hW190.nc.1
                  refine zr_if_eq (tgt := 170) X dX6_readSetup_163 (by decide) (fun h => absurd h (by decide)) (fun _ => ?_)
                  refine zr_iconst (v := (1 : Int32)) X dX6_readSetup_166 (by decide) ?_
                  refine zr_goto (tgt := 171) X dX6_readSetup_167 (by decide) ?_
                  refine zr_istore3 X (by decide) rfl dX6_readSetup_171 ?_
                  refine zr_iinc4 (v := (nI (j + 1))) X (show nI (j) + Int32.ofInt 1 = nI (j + 1) from nI_1 (j)) (by decide) rfl dX6_readSetup_172 ?_
                  refine zr_goto (tgt := 10) X dX6_readSetup_175 (by decide) ?_
                  have hst : pStmt t n9 pp T = .inr (p183, T184) := by simp [pStmt, pBody, hw3, hw4, hw5, hq169, hq182]
                  have hgt := pStmt_gt hpn hst
                  have i1b := i1
                  rw [pAll_step (by omega), hst] at i1b
                  exact ih (j + 1) _ _ _ i1b fr180 ⟨hB187, hn, hT188, hR189, hW190⟩ (by omega) (by omega)
                · skip
                  intro J179 er185 hq182 fr180 hE186; have fr180 : zfr I J179 x := zfr.tr fr167 fr180
                  refine zr_if_eq (tgt := 170) X dX6_readSetup_163 (by decide) (fun _ => ?_) (fun h => absurd h (by decide))
                  refine zr_iconst (v := (0 : Int32)) X dX6_readSetup_170 (by decide) ?_
                  refine zr_istore3 X (by decide) rfl dX6_readSetup_171 ?_
                  refine zr_iinc4 (v := (nI (j + 1))) X (show nI (j) + Int32.ofInt 1 = nI (j + 1) from nI_1 (j)) (by decide) rfl dX6_readSetup_172 ?_
                  refine zr_goto (tgt := 10) X dX6_readSetup_175 (by decide) ?_
                  refine zr_iload3 X dX6_readSetup_10 ?_
                  refine zr_if_eq (tgt := 178) X dX6_readSetup_11 (by decide) (fun _ => ?_) (fun h => absurd h (by decide))
                  refine zr_iload3 X dX6_readSetup_178 ?_
                  refine zr_zret X (by first | decide | assumption | (simp; done)) (by decide) (by decide) dX6_readSetup_179 ?_
                  have hst : pStmt t n9 pp T = .inl er185 := by simp [pStmt, pBody, hw3, hw4, hw5, hq169, hq182]
                  exact k2 _ er185 (by rw [← i1, pAll_step (by omega), hst]) fr180 hE186
              · skip
                intro J166 er172 hq169 fr167 hE173; have fr167 : zfr I J166 x := zfr.tr i2 fr167
                refine zr_istore3 X (by decide) rfl dX6_readSetup_82 ?_
                refine zr_goto (tgt := 154) X dX6_readSetup_83 (by decide) ?_
                refine zr_iload3 X dX6_readSetup_154 ?_
                refine zr_if_eq (tgt := 170) X dX6_readSetup_155 (by decide) (fun _ => ?_) (fun h => absurd h (by decide))
                refine zr_iconst (v := (0 : Int32)) X dX6_readSetup_170 (by decide) ?_
                refine zr_istore3 X (by decide) rfl dX6_readSetup_171 ?_
                refine zr_iinc4 (v := (nI (j + 1))) X (show nI (j) + Int32.ofInt 1 = nI (j + 1) from nI_1 (j)) (by decide) rfl dX6_readSetup_172 ?_
                refine zr_goto (tgt := 10) X dX6_readSetup_175 (by decide) ?_
                refine zr_iload3 X dX6_readSetup_10 ?_
                refine zr_if_eq (tgt := 178) X dX6_readSetup_11 (by decide) (fun _ => ?_) (fun h => absurd h (by decide))
                refine zr_iload3 X dX6_readSetup_178 ?_
                refine zr_zret X (by first | decide | assumption | (simp; done)) (by decide) (by decide) dX6_readSetup_179 ?_
                have hst : pStmt t n9 pp T = .inl er172 := by simp [pStmt, pBody, hw3, hw4, hw5, hq169]
                exact k2 _ er172 (by rw [← i1, pAll_step (by omega), hst]) fr167 hE173
            · skip
              intro hw5; have hw5 : ¬ tIsB t n9 pp wList = true := fun z => hw5 (tIsB_iff.mp z)
              refine zr_if_eq (tgt := 86) X dX6_readSetup_73 (by decide) (fun _ => ?_) (fun h => absurd h (by decide))
              refine zr_aload1 X dX6_readSetup_86 ?_
              refine zr_ldcS X 7 rfl (by decide) dX6_readSetup_87 ?_
              refine zr_callV1 (rm9 := zrm_X3_isWord) X hnt zm_X6_23 (by decide) (by decide) (by decide) (Nat.le_of_ble_eq_true rfl) dX6_readSetup_89 ?_
              refine zp_X3_isWord (a := x + 1) (i := 7) (t := t) (n9 := n9) (p9 := pp) (by omega) hT (by decide) ?_ ?_
              · skip
                intro hw6; have hw6 : tIsB t n9 pp wWait = true := tIsB_iff.mpr hw6
                refine zr_if_eq (tgt := 105) X dX6_readSetup_92 (by decide) (fun h => absurd h (by decide)) (fun _ => ?_)
                refine zr_aload0 X dX6_readSetup_95 ?_
                refine zr_aload1 X dX6_readSetup_96 ?_
                refine zr_aload2 X dX6_readSetup_97 ?_
                refine zr_callV2 (rm9 := zrm_X6_readWait) X hnt zm_X6_42 (by decide) (by decide) (by decide) (Nat.le_of_ble_eq_true rfl) dX6_readSetup_98 ?_
                refine zp_X6_readWait (x := x) (t := t) (f := f) (n9 := n9) (p9 := pp) (S := T) ⟨hB, hn, hT, hR, hW⟩ ?_ ?_
                · skip
                  intro J192 p196 T197 hq195 fr193 hS194; obtain ⟨hB200, hn204, hT201, hR202, hW203⟩ := hS194; have fr193 : zfr I J192 x := zfr.tr i2 fr193; have hk4_J192 := tKind_le (t := t) (n := n9) (p := p196); have hl4_J192 := tEndL_le (t := t) hT201.1; have hpn_J192 := hT201.1; have := hW203.ng.1; have := hW203.nc.1
                  refine zr_istore3 X (by decide) rfl dX6_readSetup_101 ?_
                  refine zr_goto (tgt := 154) X dX6_readSetup_102 (by decide) ?_
                  refine zr_iload3 X dX6_readSetup_154 ?_
                  refine zr_if_eq (tgt := 170) X dX6_readSetup_155 (by decide) (fun h => absurd h (by decide)) (fun _ => ?_)
                  refine zr_aload0 X dX6_readSetup_158 ?_
                  refine zr_aload1 X dX6_readSetup_159 ?_
                  refine zr_callV1 (rm9 := zrm_X6_takeSemicolon) X hnt zm_X6_62 (by decide) (by decide) (by decide) (Nat.le_of_ble_eq_true rfl) dX6_readSetup_160 ?_
                  refine zp_X6_takeSemicolon (x := x) (t := t) (f := f) (n9 := n9) (p9 := p196) (S := T197) ⟨hB200, hn, hT201, hR202, hW203⟩ ?_ ?_
                  · skip
                    intro J205 p209 T210 hq208 fr206 hS207; obtain ⟨hB213, hn217, hT214, hR215, hW216⟩ := hS207; have fr206 : zfr I J205 x := zfr.tr fr193 fr206; have hk4_J205 := tKind_le (t := t) (n := n9) (p := p209); have hl4_J205 := tEndL_le (t := t) hT214.1; have hpn_J205 := hT214.1; have := hW216.ng.1; have := hW216.nc.1
                    refine zr_if_eq (tgt := 170) X dX6_readSetup_163 (by decide) (fun h => absurd h (by decide)) (fun _ => ?_)
                    refine zr_iconst (v := (1 : Int32)) X dX6_readSetup_166 (by decide) ?_
                    refine zr_goto (tgt := 171) X dX6_readSetup_167 (by decide) ?_
                    refine zr_istore3 X (by decide) rfl dX6_readSetup_171 ?_
                    refine zr_iinc4 (v := (nI (j + 1))) X (show nI (j) + Int32.ofInt 1 = nI (j + 1) from nI_1 (j)) (by decide) rfl dX6_readSetup_172 ?_
                    refine zr_goto (tgt := 10) X dX6_readSetup_175 (by decide) ?_
                    have hst : pStmt t n9 pp T = .inr (p209, T210) := by simp [pStmt, pBody, hw3, hw4, hw5, hw6, hq195, hq208]
                    have hgt := pStmt_gt hpn hst
                    have i1b := i1
                    rw [pAll_step (by omega), hst] at i1b
                    exact ih (j + 1) _ _ _ i1b fr206 ⟨hB213, hn, hT214, hR215, hW216⟩ (by omega) (by omega)
                  · skip
                    intro J205 er211 hq208 fr206 hE212; have fr206 : zfr I J205 x := zfr.tr fr193 fr206
                    refine zr_if_eq (tgt := 170) X dX6_readSetup_163 (by decide) (fun _ => ?_) (fun h => absurd h (by decide))
                    refine zr_iconst (v := (0 : Int32)) X dX6_readSetup_170 (by decide) ?_
                    refine zr_istore3 X (by decide) rfl dX6_readSetup_171 ?_
                    refine zr_iinc4 (v := (nI (j + 1))) X (show nI (j) + Int32.ofInt 1 = nI (j + 1) from nI_1 (j)) (by decide) rfl dX6_readSetup_172 ?_
                    refine zr_goto (tgt := 10) X dX6_readSetup_175 (by decide) ?_
                    refine zr_iload3 X dX6_readSetup_10 ?_
                    refine zr_if_eq (tgt := 178) X dX6_readSetup_11 (by decide) (fun _ => ?_) (fun h => absurd h (by decide))
                    refine zr_iload3 X dX6_readSetup_178 ?_
                    refine zr_zret X (by first | decide | assumption | (simp; done)) (by decide) (by decide) dX6_readSetup_179 ?_
                    have hst : pStmt t n9 pp T = .inl er211 := by simp [pStmt, pBody, hw3, hw4, hw5, hw6, hq195, hq208]
                    exact k2 _ er211 (by rw [← i1, pAll_step (by omega), hst]) fr206 hE212
                · skip
                  intro J192 er198 hq195 fr193 hE199; have fr193 : zfr I J192 x := zfr.tr i2 fr193
                  refine zr_istore3 X (by decide) rfl dX6_readSetup_101 ?_
                  refine zr_goto (tgt := 154) X dX6_readSetup_102 (by decide) ?_
                  refine zr_iload3 X dX6_readSetup_154 ?_
                  refine zr_if_eq (tgt := 170) X dX6_readSetup_155 (by decide) (fun _ => ?_) (fun h => absurd h (by decide))
                  refine zr_iconst (v := (0 : Int32)) X dX6_readSetup_170 (by decide) ?_
                  refine zr_istore3 X (by decide) rfl dX6_readSetup_171 ?_
                  refine zr_iinc4 (v := (nI (j + 1))) X (show nI (j) + Int32.ofInt 1 = nI (j + 1) from nI_1 (j)) (by decide) rfl dX6_readSetup_172 ?_
                  refine zr_goto (tgt := 10) X dX6_readSetup_175 (by decide) ?_
                  refine zr_iload3 X dX6_readSetup_10 ?_
                  refine zr_if_eq (tgt := 178) X dX6_readSetup_11 (by decide) (fun _ => ?_) (fun h => absurd h (by decide))
                  refine zr_iload3 X dX6_readSetup_178 ?_
                  refine zr_zret X (by first | decide | assumption | (simp; done)) (by decide) (by decide) dX6_readSetup_179 ?_
                  have hst : pStmt t n9 pp T = .inl er198 := by simp [pStmt, pBody, hw3, hw4, hw5, hw6, hq195]
                  exact k2 _ er198 (by rw [← i1, pAll_step (by omega), hst]) fr193 hE199
              · skip
                intro hw6; have hw6 : ¬ tIsB t n9 pp wWait = true := fun z => hw6 (tIsB_iff.mp z)
                refine zr_if_eq (tgt := 105) X dX6_readSetup_92 (by decide) (fun _ => ?_) (fun h => absurd h (by decide))
                refine zr_aload1 X dX6_readSetup_105 ?_
                refine zr_ldcS X 8 rfl (by decide) dX6_readSetup_106 ?_
                refine zr_callV1 (rm9 := zrm_X3_isWord) X hnt zm_X6_23 (by decide) (by decide) (by decide) (Nat.le_of_ble_eq_true rfl) dX6_readSetup_108 ?_
                refine zp_X3_isWord (a := x + 1) (i := 8) (t := t) (n9 := n9) (p9 := pp) (by omega) hT (by decide) ?_ ?_
                · skip
                  intro hw7; have hw7 : tIsB t n9 pp wTick = true := tIsB_iff.mpr hw7
                  refine zr_if_eq (tgt := 124) X dX6_readSetup_111 (by decide) (fun h => absurd h (by decide)) (fun _ => ?_)
                  refine zr_aload0 X dX6_readSetup_114 ?_
                  refine zr_aload1 X dX6_readSetup_115 ?_
                  refine zr_aload2 X dX6_readSetup_116 ?_
                  refine zr_callV2 (rm9 := zrm_X6_readTick) X hnt zm_X6_47 (by decide) (by decide) (by decide) (Nat.le_of_ble_eq_true rfl) dX6_readSetup_117 ?_
                  refine zp_X6_readTick (x := x) (t := t) (f := f) (n9 := n9) (p9 := pp) (S := T) ⟨hB, hn, hT, hR, hW⟩ ?_ ?_
                  · skip
                    intro J218 p222 T223 hq221 fr219 hS220; obtain ⟨hB226, hn230, hT227, hR228, hW229⟩ := hS220; have fr219 : zfr I J218 x := zfr.tr i2 fr219; have hk4_J218 := tKind_le (t := t) (n := n9) (p := p222); have hl4_J218 := tEndL_le (t := t) hT227.1; have hpn_J218 := hT227.1; have := hW229.ng.1; have := hW229.nc.1
                    refine zr_istore3 X (by decide) rfl dX6_readSetup_120 ?_
                    refine zr_goto (tgt := 154) X dX6_readSetup_121 (by decide) ?_
                    refine zr_iload3 X dX6_readSetup_154 ?_
                    refine zr_if_eq (tgt := 170) X dX6_readSetup_155 (by decide) (fun h => absurd h (by decide)) (fun _ => ?_)
                    refine zr_aload0 X dX6_readSetup_158 ?_
                    refine zr_aload1 X dX6_readSetup_159 ?_
                    refine zr_callV1 (rm9 := zrm_X6_takeSemicolon) X hnt zm_X6_62 (by decide) (by decide) (by decide) (Nat.le_of_ble_eq_true rfl) dX6_readSetup_160 ?_
                    refine zp_X6_takeSemicolon (x := x) (t := t) (f := f) (n9 := n9) (p9 := p222) (S := T223) ⟨hB226, hn, hT227, hR228, hW229⟩ ?_ ?_
                    · skip
                      intro J231 p235 T236 hq234 fr232 hS233; obtain ⟨hB239, hn243, hT240, hR241, hW242⟩ := hS233; have fr232 : zfr I J231 x := zfr.tr fr219 fr232; have hk4_J231 := tKind_le (t := t) (n := n9) (p := p235); have hl4_J231 := tEndL_le (t := t) hT240.1; have hpn_J231 := hT240.1; have := hW242.ng.1; have := hW242.nc.1
                      refine zr_if_eq (tgt := 170) X dX6_readSetup_163 (by decide) (fun h => absurd h (by decide)) (fun _ => ?_)
                      refine zr_iconst (v := (1 : Int32)) X dX6_readSetup_166 (by decide) ?_
                      refine zr_goto (tgt := 171) X dX6_readSetup_167 (by decide) ?_
                      refine zr_istore3 X (by decide) rfl dX6_readSetup_171 ?_
                      refine zr_iinc4 (v := (nI (j + 1))) X (show nI (j) + Int32.ofInt 1 = nI (j + 1) from nI_1 (j)) (by decide) rfl dX6_readSetup_172 ?_
                      refine zr_goto (tgt := 10) X dX6_readSetup_175 (by decide) ?_
                      have hst : pStmt t n9 pp T = .inr (p235, T236) := by simp [pStmt, pBody, hw3, hw4, hw5, hw6, hw7, hq221, hq234]
                      have hgt := pStmt_gt hpn hst
                      have i1b := i1
                      rw [pAll_step (by omega), hst] at i1b
                      exact ih (j + 1) _ _ _ i1b fr232 ⟨hB239, hn, hT240, hR241, hW242⟩ (by omega) (by omega)
                    · skip
                      intro J231 er237 hq234 fr232 hE238; have fr232 : zfr I J231 x := zfr.tr fr219 fr232
                      refine zr_if_eq (tgt := 170) X dX6_readSetup_163 (by decide) (fun _ => ?_) (fun h => absurd h (by decide))
                      refine zr_iconst (v := (0 : Int32)) X dX6_readSetup_170 (by decide) ?_
                      refine zr_istore3 X (by decide) rfl dX6_readSetup_171 ?_
                      refine zr_iinc4 (v := (nI (j + 1))) X (show nI (j) + Int32.ofInt 1 = nI (j + 1) from nI_1 (j)) (by decide) rfl dX6_readSetup_172 ?_
                      refine zr_goto (tgt := 10) X dX6_readSetup_175 (by decide) ?_
                      refine zr_iload3 X dX6_readSetup_10 ?_
                      refine zr_if_eq (tgt := 178) X dX6_readSetup_11 (by decide) (fun _ => ?_) (fun h => absurd h (by decide))
                      refine zr_iload3 X dX6_readSetup_178 ?_
                      refine zr_zret X (by first | decide | assumption | (simp; done)) (by decide) (by decide) dX6_readSetup_179 ?_
                      have hst : pStmt t n9 pp T = .inl er237 := by simp [pStmt, pBody, hw3, hw4, hw5, hw6, hw7, hq221, hq234]
                      exact k2 _ er237 (by rw [← i1, pAll_step (by omega), hst]) fr232 hE238
                  · skip
                    intro J218 er224 hq221 fr219 hE225; have fr219 : zfr I J218 x := zfr.tr i2 fr219
                    refine zr_istore3 X (by decide) rfl dX6_readSetup_120 ?_
                    refine zr_goto (tgt := 154) X dX6_readSetup_121 (by decide) ?_
                    refine zr_iload3 X dX6_readSetup_154 ?_
                    refine zr_if_eq (tgt := 170) X dX6_readSetup_155 (by decide) (fun _ => ?_) (fun h => absurd h (by decide))
                    refine zr_iconst (v := (0 : Int32)) X dX6_readSetup_170 (by decide) ?_
                    refine zr_istore3 X (by decide) rfl dX6_readSetup_171 ?_
                    refine zr_iinc4 (v := (nI (j + 1))) X (show nI (j) + Int32.ofInt 1 = nI (j + 1) from nI_1 (j)) (by decide) rfl dX6_readSetup_172 ?_
                    refine zr_goto (tgt := 10) X dX6_readSetup_175 (by decide) ?_
                    refine zr_iload3 X dX6_readSetup_10 ?_
                    refine zr_if_eq (tgt := 178) X dX6_readSetup_11 (by decide) (fun _ => ?_) (fun h => absurd h (by decide))
                    refine zr_iload3 X dX6_readSetup_178 ?_
                    refine zr_zret X (by first | decide | assumption | (simp; done)) (by decide) (by decide) dX6_readSetup_179 ?_
                    have hst : pStmt t n9 pp T = .inl er224 := by simp [pStmt, pBody, hw3, hw4, hw5, hw6, hw7, hq221]
                    exact k2 _ er224 (by rw [← i1, pAll_step (by omega), hst]) fr219 hE225
                · skip
                  intro hw7; have hw7 : ¬ tIsB t n9 pp wTick = true := fun z => hw7 (tIsB_iff.mp z)
                  refine zr_if_eq (tgt := 124) X dX6_readSetup_111 (by decide) (fun _ => ?_) (fun h => absurd h (by decide))
                  refine zr_aload1 X dX6_readSetup_124 ?_
                  refine zr_ldcS X 9 rfl (by decide) dX6_readSetup_125 ?_
                  refine zr_callV1 (rm9 := zrm_X3_isWord) X hnt zm_X6_23 (by decide) (by decide) (by decide) (Nat.le_of_ble_eq_true rfl) dX6_readSetup_127 ?_
                  refine zp_X3_isWord (a := x + 1) (i := 9) (t := t) (n9 := n9) (p9 := pp) (by omega) hT (by decide) ?_ ?_
                  · skip
                    intro hw8; have hw8 : tIsB t n9 pp wKey = true := tIsB_iff.mpr hw8
                    refine zr_if_eq (tgt := 143) X dX6_readSetup_130 (by decide) (fun h => absurd h (by decide)) (fun _ => ?_)
                    refine zr_aload0 X dX6_readSetup_133 ?_
                    refine zr_aload1 X dX6_readSetup_134 ?_
                    refine zr_aload2 X dX6_readSetup_135 ?_
                    refine zr_callV2 (rm9 := zrm_X6_readKey) X hnt zm_X6_52 (by decide) (by decide) (by decide) (Nat.le_of_ble_eq_true rfl) dX6_readSetup_136 ?_
                    refine zp_X6_readKey (x := x) (t := t) (f := f) (n9 := n9) (p9 := pp) (S := T) ⟨hB, hn, hT, hR, hW⟩ ?_ ?_
                    · skip
                      intro J244 p248 T249 hq247 fr245 hS246; obtain ⟨hB252, hn256, hT253, hR254, hW255⟩ := hS246; have fr245 : zfr I J244 x := zfr.tr i2 fr245; have hk4_J244 := tKind_le (t := t) (n := n9) (p := p248); have hl4_J244 := tEndL_le (t := t) hT253.1; have hpn_J244 := hT253.1; have := hW255.ng.1; have := hW255.nc.1
                      refine zr_istore3 X (by decide) rfl dX6_readSetup_139 ?_
                      refine zr_goto (tgt := 154) X dX6_readSetup_140 (by decide) ?_
                      refine zr_iload3 X dX6_readSetup_154 ?_
                      refine zr_if_eq (tgt := 170) X dX6_readSetup_155 (by decide) (fun h => absurd h (by decide)) (fun _ => ?_)
                      refine zr_aload0 X dX6_readSetup_158 ?_
                      refine zr_aload1 X dX6_readSetup_159 ?_
                      refine zr_callV1 (rm9 := zrm_X6_takeSemicolon) X hnt zm_X6_62 (by decide) (by decide) (by decide) (Nat.le_of_ble_eq_true rfl) dX6_readSetup_160 ?_
                      refine zp_X6_takeSemicolon (x := x) (t := t) (f := f) (n9 := n9) (p9 := p248) (S := T249) ⟨hB252, hn, hT253, hR254, hW255⟩ ?_ ?_
                      · skip
                        intro J257 p261 T262 hq260 fr258 hS259; obtain ⟨hB265, hn269, hT266, hR267, hW268⟩ := hS259; have fr258 : zfr I J257 x := zfr.tr fr245 fr258; have hk4_J257 := tKind_le (t := t) (n := n9) (p := p261); have hl4_J257 := tEndL_le (t := t) hT266.1; have hpn_J257 := hT266.1; have := hW268.ng.1; have := hW268.nc.1
                        refine zr_if_eq (tgt := 170) X dX6_readSetup_163 (by decide) (fun h => absurd h (by decide)) (fun _ => ?_)
                        refine zr_iconst (v := (1 : Int32)) X dX6_readSetup_166 (by decide) ?_
                        refine zr_goto (tgt := 171) X dX6_readSetup_167 (by decide) ?_
                        refine zr_istore3 X (by decide) rfl dX6_readSetup_171 ?_
                        refine zr_iinc4 (v := (nI (j + 1))) X (show nI (j) + Int32.ofInt 1 = nI (j + 1) from nI_1 (j)) (by decide) rfl dX6_readSetup_172 ?_
                        refine zr_goto (tgt := 10) X dX6_readSetup_175 (by decide) ?_
                        have hst : pStmt t n9 pp T = .inr (p261, T262) := by simp [pStmt, pBody, hw3, hw4, hw5, hw6, hw7, hw8, hq247, hq260]
                        have hgt := pStmt_gt hpn hst
                        have i1b := i1
                        rw [pAll_step (by omega), hst] at i1b
                        exact ih (j + 1) _ _ _ i1b fr258 ⟨hB265, hn, hT266, hR267, hW268⟩ (by omega) (by omega)
                      · skip
                        intro J257 er263 hq260 fr258 hE264; have fr258 : zfr I J257 x := zfr.tr fr245 fr258
                        refine zr_if_eq (tgt := 170) X dX6_readSetup_163 (by decide) (fun _ => ?_) (fun h => absurd h (by decide))
                        refine zr_iconst (v := (0 : Int32)) X dX6_readSetup_170 (by decide) ?_
                        refine zr_istore3 X (by decide) rfl dX6_readSetup_171 ?_
                        refine zr_iinc4 (v := (nI (j + 1))) X (show nI (j) + Int32.ofInt 1 = nI (j + 1) from nI_1 (j)) (by decide) rfl dX6_readSetup_172 ?_
                        refine zr_goto (tgt := 10) X dX6_readSetup_175 (by decide) ?_
                        refine zr_iload3 X dX6_readSetup_10 ?_
                        refine zr_if_eq (tgt := 178) X dX6_readSetup_11 (by decide) (fun _ => ?_) (fun h => absurd h (by decide))
                        refine zr_iload3 X dX6_readSetup_178 ?_
                        refine zr_zret X (by first | decide | assumption | (simp; done)) (by decide) (by decide) dX6_readSetup_179 ?_
                        have hst : pStmt t n9 pp T = .inl er263 := by simp [pStmt, pBody, hw3, hw4, hw5, hw6, hw7, hw8, hq247, hq260]
                        exact k2 _ er263 (by rw [← i1, pAll_step (by omega), hst]) fr258 hE264
                    · skip
                      intro J244 er250 hq247 fr245 hE251; have fr245 : zfr I J244 x := zfr.tr i2 fr245
                      refine zr_istore3 X (by decide) rfl dX6_readSetup_139 ?_
                      refine zr_goto (tgt := 154) X dX6_readSetup_140 (by decide) ?_
                      refine zr_iload3 X dX6_readSetup_154 ?_
                      refine zr_if_eq (tgt := 170) X dX6_readSetup_155 (by decide) (fun _ => ?_) (fun h => absurd h (by decide))
                      refine zr_iconst (v := (0 : Int32)) X dX6_readSetup_170 (by decide) ?_
                      refine zr_istore3 X (by decide) rfl dX6_readSetup_171 ?_
                      refine zr_iinc4 (v := (nI (j + 1))) X (show nI (j) + Int32.ofInt 1 = nI (j + 1) from nI_1 (j)) (by decide) rfl dX6_readSetup_172 ?_
                      refine zr_goto (tgt := 10) X dX6_readSetup_175 (by decide) ?_
                      refine zr_iload3 X dX6_readSetup_10 ?_
                      refine zr_if_eq (tgt := 178) X dX6_readSetup_11 (by decide) (fun _ => ?_) (fun h => absurd h (by decide))
                      refine zr_iload3 X dX6_readSetup_178 ?_
                      refine zr_zret X (by first | decide | assumption | (simp; done)) (by decide) (by decide) dX6_readSetup_179 ?_
                      have hst : pStmt t n9 pp T = .inl er250 := by simp [pStmt, pBody, hw3, hw4, hw5, hw6, hw7, hw8, hq247]
                      exact k2 _ er250 (by rw [← i1, pAll_step (by omega), hst]) fr245 hE251
                  · skip
                    intro hw8; have hw8 : ¬ tIsB t n9 pp wKey = true := fun z => hw8 (tIsB_iff.mp z)
                    refine zr_if_eq (tgt := 143) X dX6_readSetup_130 (by decide) (fun _ => ?_) (fun h => absurd h (by decide))
                    refine zr_aload0 X dX6_readSetup_143 ?_
                    refine zr_bipush (v := (-2 : Int32)) X dX6_readSetup_144 (by decide) ?_
                    refine zr_aload1 X dX6_readSetup_146 ?_
                    refine zr_getI X zf_X6_55 rfl dX6_readSetup_147 ?_
                    refine zr_eq (x2 := (nI pp)) (hT.2.2.1) ?_
                    refine zr_callV2 (rm9 := zrm_X6_fail) X hnt zm_X6_58 (by decide) (by decide) (by decide) (Nat.le_of_ble_eq_true rfl) dX6_readSetup_150 ?_
                    refine zp_X6_fail ?_
                    refine zr_istore3 X (by decide) rfl dX6_readSetup_153 ?_
                    refine zr_iload3 X dX6_readSetup_154 ?_
                    refine zr_if_eq (tgt := 170) X dX6_readSetup_155 (by decide) (fun _ => ?_) (fun h => absurd h (by decide))
                    refine zr_iconst (v := (0 : Int32)) X dX6_readSetup_170 (by decide) ?_
                    refine zr_istore3 X (by decide) rfl dX6_readSetup_171 ?_
                    refine zr_iinc4 (v := (nI (j + 1))) X (show nI (j) + Int32.ofInt 1 = nI (j + 1) from nI_1 (j)) (by decide) rfl dX6_readSetup_172 ?_
                    refine zr_goto (tgt := 10) X dX6_readSetup_175 (by decide) ?_
                    refine zr_iload3 X dX6_readSetup_10 ?_
                    refine zr_if_eq (tgt := 178) X dX6_readSetup_11 (by decide) (fun _ => ?_) (fun h => absurd h (by decide))
                    refine zr_iload3 X dX6_readSetup_178 ?_
                    refine zr_zret X (by first | decide | assumption | (simp; done)) (by decide) (by decide) dX6_readSetup_179 ?_
                    have hst : pStmt t n9 pp T = .inl (-2, pp) := by simp [pStmt, pBody, hw3, hw4, hw5, hw6, hw7, hw8]
                    exact k2 _ _ (by rw [← i1, pAll_step (by omega), hst]) (zfr.er i2) (zEr.mk hB)
set_option maxRecDepth 20000 in
theorem zp_X6_readSetup {l : Launch} {D : va_G} {b0 : Nat} {tA : Nat → ClassId} {sa sv : Nat → Nat} {K : zKt} {I : zI} {Qp : zI → Option AV → Prop} {Xp : String → zI → Prop} {x f n9 p9 : Nat} {t : Nat → Nat} {S : zS} {RES : zRs}
    (hS : zPs I x t f n9 p9 S) (hRES : (match pHead t n9 p9 S with | .inl e => .inl e | .inr q => pAll t n9 (n9 - q.1) q.1 q.2) = RES) (k1 : ∀ (J : zI) (p2 : Nat) (S2 : zS), RES = .inr (p2, S2) → zfr I J x → zPs J x t f n9 p2 S2 → Qp J (some (vi 1))) (k2 : ∀ (J : zI) (er : Int32 × Nat), RES = .inl er → zfr I J x → zEr J x t f er → Qp J (some (vi 0))) :
    zC l D b0 tA sa sv K yX6_readSetup (.code yX6_readSetup cX6_readSetup 5 (some .boolean)) zrm_X6_readSetup [vr (x + 3) 6, vr (x + 1) 3, vr (x + 94) 5] I Qp Xp := by
  obtain ⟨hB, hn, hT, hR, hW⟩ := hS
  have hf5 := hB.2.1
  have hpn := hT.1
  have hk4 := tKind_le (t := t) (n := n9) (p := p9)
  have hl4 := tEndL_le (t := t) hT.1
  have hg6 := hW.ng.1
  have hc12 := hW.nc.1
  refine zC_of (by decide +kernel) (Nat.le_of_ble_eq_true rfl) ?_
  intro p e s m args below meth c X hnt
  have X : zX p l e zrm_X6_readSetup s m args below meth c RX6 cX6_readSetup 5 (some .boolean) D b0 tA sa sv := X
  refine zr_lv (lv2 := [some (vr (x + 3) 6), some (vr (x + 1) 3), some (vr (x + 94) 5), none, none]) rfl ?_
  refine zr_aload0 X dX6_readSetup_0 ?_
  refine zr_aload1 X dX6_readSetup_1 ?_
  refine zr_aload2 X dX6_readSetup_2 ?_
  refine zr_callV2 (rm9 := zrm_X6_readHead) X hnt zm_X6_9 (by decide) (by decide) (by decide) (Nat.le_of_ble_eq_true rfl) dX6_readSetup_3 ?_
  refine zp_X6_readHead (x := x) (t := t) (f := f) (n9 := n9) (p9 := p9) (S := S) ⟨hB, hn, hT, hR, hW⟩ ?_ ?_
  · skip
    intro J270 p274 T275 hq273 fr271 hS272; obtain ⟨hB278, hn282, hT279, hR280, hW281⟩ := hS272; have fr271 : zfr I J270 x := zfr.tr zfr.rf fr271; have hk4_J270 := tKind_le (t := t) (n := n9) (p := p274); have hl4_J270 := tEndL_le (t := t) hT279.1; have hpn_J270 := hT279.1; have := hW281.ng.1; have := hW281.nc.1
    refine zr_istore3 X (by decide) rfl dX6_readSetup_6 ?_
    refine zr_iconst (v := (0 : Int32)) X dX6_readSetup_7 (by decide) ?_
    refine zr_istore4 X (by decide) rfl dX6_readSetup_8 ?_
    exact zl_X6_readSetup (RES := RES) X hnt hf5 k1 k2 (n9 + 1) 0 p274 T275 _ (by rw [← hRES, hq273]) fr271 ⟨hB278, hn, hT279, hR280, hW281⟩ (by omega) (by omega)
  · skip
    intro J270 er276 hq273 fr271 hE277; have fr271 : zfr I J270 x := zfr.tr zfr.rf fr271
    refine zr_istore3 X (by decide) rfl dX6_readSetup_6 ?_
    refine zr_iconst (v := (0 : Int32)) X dX6_readSetup_7 (by decide) ?_
    refine zr_istore4 X (by decide) rfl dX6_readSetup_8 ?_
    refine zr_iload3 X dX6_readSetup_10 ?_
    refine zr_if_eq (tgt := 178) X dX6_readSetup_11 (by decide) (fun _ => ?_) (fun h => absurd h (by decide))
    refine zr_iload3 X dX6_readSetup_178 ?_
    refine zr_zret X (by first | decide | assumption | (simp; done)) (by decide) (by decide) dX6_readSetup_179 ?_
    exact k2 _ er276 (by rw [← hRES, hq273]) fr271 hE277
