/-! ===== the class reads a whole text ===== -/
abbrev zrm_X6_readWait : Room := { frames := 6, cells := 0, slots := 0, locals := 173 }
set_option maxRecDepth 20000 in
theorem zp_X6_readWait {l : Launch} {D : va_G} {b0 : Nat} {tA : Nat → ClassId} {sa sv : Nat → Nat} {K : Nat → Option Nat} {I : zI} {Qp : zI → Option AV → Prop} {Xp : String → zI → Prop} {x f n9 p9 : Nat} {t : Nat → Nat} {S : zS}
    (hS : zPs I x t f n9 p9 S) (k1 : ∀ (J : zI) (p2 : Nat) (S2 : zS), pWait t n9 p9 S = .inr (p2, S2) → zfr I J x → zPs J x t f n9 p2 S2 → Qp J (some (vi 1))) (k2 : ∀ (J : zI) (er : Int32 × Nat), pWait t n9 p9 S = .inl er → zfr I J x → zEr J x t f er → Qp J (some (vi 0))) :
    zC l D b0 tA sa sv K yX6_readWait (.code yX6_readWait cX6_readWait 7 (some .boolean)) zrm_X6_readWait [vr (x + 3) 6, vr (x + 1) 3, vr (x + 94) 5] I Qp Xp := by
  obtain ⟨hB, hn, hT, hR, hW⟩ := hS
  have hf5 := hB.2.1
  have hpn := hT.1
  have hk4 := tKind_le (t := t) (n := n9) (p := p9)
  have hl4 := tEndL_le (t := t) hT.1
  have hg6 := hW.ng.1
  have hc12 := hW.nc.1
  refine zC_of (by decide +kernel) (Nat.le_of_ble_eq_true rfl) ?_
  intro p e s m args below meth c X hnt
  have X : zX p l e zrm_X6_readWait s m args below meth c RX6 cX6_readWait 7 (some .boolean) D b0 tA sa sv := X
  refine zr_lv (lv2 := [some (vr (x + 3) 6), some (vr (x + 1) 3), some (vr (x + 94) 5), none, none, none, none]) rfl ?_
  refine zr_aload1 X dX6_readWait_0 ?_
  refine zr_callV0 (rm9 := zrm_X3_advance) X hnt zm_X6_68 (by decide) (by decide) (by decide) (Nat.le_of_ble_eq_true rfl) dX6_readWait_1 ?_
  refine zp_X3_advance (a := x + 1) (t := t) (f := f) (n9 := n9) (p9 := tEnd t n9 p9) hB hn hT.2.1 hT.2.2.2.2.1 (tEnd_le hT.1).1 ?_
  intro J1 hg2 hB3 hT4; have hT4 : zTok J1 (x + 1) t n9 (tNext t n9 p9) := hT4; have hR5 := hR.ag hg2 (by omega); have fr6 : zfr I J1 x := zfr.ag zfr.rf hg2 (by omega); have hk4_J1 := tKind_le (t := t) (n := n9) (p := (tNext t n9 p9)); have hl4_J1 := tEndL_le (t := t) hT4.1; have hpn_J1 := hT4.1
  refine zr_aload0 X dX6_readWait_4 ?_
  refine zr_aload1 X dX6_readWait_5 ?_
  refine zr_iconst (v := (0 : Int32)) X dX6_readWait_6 (by decide) ?_
  refine zr_aload2 X dX6_readWait_7 ?_
  refine zr_getI X zf_X6_135 rfl dX6_readWait_8 ?_
  refine zr_eq (x2 := (sX S 4)) (hR5.1 4 (by decide) (by decide)) ?_
  refine zr_eq (x2 := (nI (zng S))) (hW.ng.2) ?_
  refine zr_iconst (v := (1 : Int32)) X dX6_readWait_11 (by decide) ?_
  refine zr_isub X dX6_readWait_12 ?_
  refine zr_callV3 (rm9 := zrm_X6_takeNumber) X hnt zm_X6_71 (by decide) (by decide) (by decide) (Nat.le_of_ble_eq_true rfl) dX6_readWait_13 ?_
  refine zp_X6_takeNumber (x := x) (t := t) (f := f) (n9 := n9) (p9 := (tNext t n9 p9)) (S := S) (lo := 0) (hi := zng S) ⟨hB3, hn, hT4, hR5, hW⟩ (zmost (by rfl) (by omega)) (by omega) (by omega) ?_ ?_
  · skip
    intro J7 v11 hq10 fr8 hS9; obtain ⟨hB14, hn18, hT15, hR16, hW17⟩ := hS9; have fr8 : zfr I J7 x := zfr.tr fr6 fr8; have := pNum_gt hq10; have hk4_J7 := tKind_le (t := t) (n := n9) (p := (tNext t n9 (tNext t n9 p9))); have hl4_J7 := tEndL_le (t := t) hT15.1; have hpn_J7 := hT15.1
    refine zr_istore3 X (by decide) rfl dX6_readWait_16 ?_
    refine zr_aload2 X dX6_readWait_17 ?_
    refine zr_iload3 X dX6_readWait_18 ?_
    refine zr_callV1 (rm9 := zrm_X5_hasGate) X hnt zm_X6_138 (by decide) (by decide) (by decide) (Nat.le_of_ble_eq_true rfl) dX6_readWait_19 ?_
    refine zn_X5_hasGate hR16 hW17 (by omega) (fun _ => ?_) (fun h => absurd (by omega) h)
    refine zr_if_ne (tgt := 27) X dX6_readWait_22 (by decide) (fun _ => ?_) (fun h => absurd h (by decide))
    refine zr_aload1 X dX6_readWait_27 ?_
    refine zr_getI X zf_X6_55 rfl dX6_readWait_28 ?_
    refine zr_eq (x2 := (nI (tNext t n9 (tNext t n9 p9)))) (hT15.2.2.1) ?_
    refine zr_istore4 X (by decide) rfl dX6_readWait_31 ?_
    refine zr_aload1 X dX6_readWait_33 ?_
    refine zr_ldcS X 4 rfl (by decide) dX6_readWait_34 ?_
    refine zr_callV1 (rm9 := zrm_X3_isWord) X hnt zm_X6_23 (by decide) (by decide) (by decide) (Nat.le_of_ble_eq_true rfl) dX6_readWait_36 ?_
    refine zp_X3_isWord (a := x + 1) (i := 4) (t := t) (n9 := n9) (p9 := (tNext t n9 (tNext t n9 p9))) (by omega) hT15 (by decide) ?_ ?_
    · skip
      intro hw2; have hw2 : tIsB t n9 (tNext t n9 (tNext t n9 p9)) wIn = true := tIsB_iff.mpr hw2
      refine zr_if_eq (tgt := 46) X dX6_readWait_39 (by decide) (fun h => absurd h (by decide)) (fun _ => ?_)
      refine zr_iconst (v := (0 : Int32)) X dX6_readWait_42 (by decide) ?_
      refine zr_goto (tgt := 60) X dX6_readWait_43 (by decide) ?_
      refine zr_istore5 X (by decide) rfl dX6_readWait_60 ?_
      refine zr_iload5 X dX6_readWait_62 ?_
      refine zr_iconst (v := (-1 : Int32)) X dX6_readWait_64 (by decide) ?_
      refine zr_icmp_ne (tgt := 77) X dX6_readWait_65 (by decide) (fun _ => ?_) (fun h => absurd h (by decide))
      refine zr_aload1 X dX6_readWait_77 ?_
      refine zr_callV0 (rm9 := zrm_X3_advance) X hnt zm_X6_68 (by decide) (by decide) (by decide) (Nat.le_of_ble_eq_true rfl) dX6_readWait_78 ?_
      refine zp_X3_advance (a := x + 1) (t := t) (f := f) (n9 := n9) (p9 := tEnd t n9 (tNext t n9 (tNext t n9 p9))) hB14 hn hT15.2.1 hT15.2.2.2.2.1 (tEnd_le hT15.1).1 ?_
      intro J19 hg20 hB21 hT22; have hT22 : zTok J19 (x + 1) t n9 (tNext t n9 (tNext t n9 (tNext t n9 p9))) := hT22; have hR23 := hR16.ag hg20 (by omega); have fr24 : zfr I J19 x := zfr.ag fr8 hg20 (by omega); have hk4_J19 := tKind_le (t := t) (n := n9) (p := (tNext t n9 (tNext t n9 (tNext t n9 p9)))); have hl4_J19 := tEndL_le (t := t) hT22.1; have hpn_J19 := hT22.1
      refine zr_iconst (v := (-1 : Int32)) X dX6_readWait_81 (by decide) ?_
      refine zr_istore6 X (by decide) rfl dX6_readWait_82 ?_
      refine zr_aload1 X dX6_readWait_84 ?_
      refine zr_getI X zf_X6_15 rfl dX6_readWait_85 ?_
      refine zr_eq (x2 := (nI (tKind t n9 (tNext t n9 (tNext t n9 (tNext t n9 p9)))))) (hT22.2.2.2.1) ?_
      refine zr_iconst (v := (2 : Int32)) X dX6_readWait_88 (by decide) ?_
      refine zr_nicmp_ne X ((tKind t n9 (tNext t n9 (tNext t n9 (tNext t n9 p9))))) (2) (tgt := 108) (by omega) (by omega) dX6_readWait_89 (by decide) (fun h3 => ?_) (fun h3 => ?_)
      · skip
        refine zr_aload2 X dX6_readWait_108 ?_
        refine zr_aload2 X dX6_readWait_109 ?_
        refine zr_getR X zf_X6_141 rfl (by decide) (by decide) dX6_readWait_110 ?_
        refine zr_iload3 X dX6_readWait_113 ?_
        refine zr_aaldN X rfl rfl (by decide) (show _ < 6 from (by first | assumption | omega)) dX6_readWait_114 ?_
        refine zr_iload5 X dX6_readWait_115 ?_
        refine zr_iload6 X dX6_readWait_117 ?_
        refine zr_callV3 (rm9 := zrm_X5_reasonNotToJoin) X hnt zm_X6_145 (by decide) (by decide) (by decide) (Nat.le_of_ble_eq_true rfl) dX6_readWait_119 ?_
        refine zp00_X5_reasonNotToJoin (c9 := 0) hR23 hW17 (by omega) (by omega) ?_; have := qWhy_lt (S := S) (g := v11) (s := 0) (w := 0)
        refine zr_nif_eq X ((qWhy S v11 0 0)) (tgt := 134) (by omega) dX6_readWait_122 (by decide) (fun h4 => ?_) (fun h4 => ?_)
        · skip
          refine zr_aload2 X dX6_readWait_134 ?_
          refine zr_getR X zf_X6_141 rfl (by decide) (by decide) dX6_readWait_135 ?_
          refine zr_iload3 X dX6_readWait_138 ?_
          refine zr_aaldN X rfl rfl (by decide) (show _ < 6 from (by first | assumption | omega)) dX6_readWait_139 ?_
          refine zr_iload5 X dX6_readWait_140 ?_
          refine zr_callV1 (rm9 := zrm_X1_lineOn) X hnt zm_X6_149 (by decide) (by decide) (by decide) (Nat.le_of_ble_eq_true rfl) dX6_readWait_142 ?_
          refine zp_X1_lineOn (fun _ => ?_) (fun h => absurd h (by decide))
          refine zr_iload6 X dX6_readWait_145 ?_
          refine zr_callV1 (rm9 := zrm_X4_addLast) X hnt zm_X6_155 (by decide) (by decide) (by decide) (Nat.le_of_ble_eq_true rfl) dX6_readWait_147 ?_
          refine zn_addLast (g := v11) (s9 := 0) (w := 0) hR23 (by omega) (Or.inl ⟨rfl, rfl⟩) (by have := (qWhy_0 h4).2.1; have := hW17.len v11 0; omega) (by decide) ?_
          intro J25 hg26 hR27; have hB28 := zBy.ag hB21 hg26 (by omega); have hT29 := zTok.ag hT22 hg26 (by omega); have fr30 : zfr I J25 x := zfr.ag fr24 hg26 (by omega); have hW31 : zWf (tL S v11 0 (sL S v11 0 ++ [0])) := zWf_join hW17 (by omega) (by omega) h4
          refine zr_iconst (v := (1 : Int32)) X dX6_readWait_150 (by decide) ?_
          refine zr_zret X (by first | decide | assumption | (simp; done)) (by decide) (by decide) dX6_readWait_151 ?_
          exact k1 _ _ _ (by simp [pWait, pWait2, pWait3, pWait4, hq10, hw2, h3, h4]) fr30 ⟨hB28, hn, hT29, hR27, hW31⟩
        · skip
          refine zr_aload0 X dX6_readWait_125 ?_
          refine zr_bipush (v := (-6 : Int32)) X dX6_readWait_126 (by decide) ?_
          refine zr_iload4 X dX6_readWait_128 ?_
          refine zr_callV2 (rm9 := zrm_X6_fail) X hnt zm_X6_58 (by decide) (by decide) (by decide) (Nat.le_of_ble_eq_true rfl) dX6_readWait_130 ?_
          refine zp_X6_fail ?_
          refine zr_zret X (by first | decide | assumption | (simp; done)) (by decide) (by decide) dX6_readWait_133 ?_
          exact k2 _ _ (by simp [pWait, pWait2, pWait3, pWait4, hq10, hw2, h3, h4]) (zfr.er fr24) (zEr.mk hB21)
      · skip
        refine zr_aload0 X dX6_readWait_92 ?_
        refine zr_aload1 X dX6_readWait_93 ?_
        refine zr_aload2 X dX6_readWait_94 ?_
        refine zr_callV2 (rm9 := zrm_X6_takeKnownCard) X hnt zm_X6_117 (by decide) (by decide) (by decide) (Nat.le_of_ble_eq_true rfl) dX6_readWait_95 ?_
        refine zp_X6_takeKnownCard (x := x) (t := t) (f := f) (n9 := n9) (p9 := (tNext t n9 (tNext t n9 (tNext t n9 p9)))) (S := S) ⟨hB21, hn, hT22, hR23, hW17⟩ ?_ ?_
        · skip
          intro J32 c36 hq35 fr33 hS34 hc44; obtain ⟨hB39, hn43, hT40, hR41, hW42⟩ := hS34; have fr33 : zfr I J32 x := zfr.tr fr24 fr33; have hk4_J32 := tKind_le (t := t) (n := n9) (p := (tNext t n9 (tNext t n9 (tNext t n9 (tNext t n9 p9))))); have hl4_J32 := tEndL_le (t := t) hT40.1; have hpn_J32 := hT40.1; have := hW42.nc.1
          refine zr_istore6 X (by decide) rfl dX6_readWait_98 ?_
          refine zr_iload6 X dX6_readWait_100 ?_
          refine zr_iconst (v := (-1 : Int32)) X dX6_readWait_102 (by decide) ?_
          refine zr_icmp_ne (tgt := 108) X dX6_readWait_103 (by decide) (fun _ => ?_) (fun h => absurd h (zm1 (by omega)))
          refine zr_aload2 X dX6_readWait_108 ?_
          refine zr_aload2 X dX6_readWait_109 ?_
          refine zr_getR X zf_X6_141 rfl (by decide) (by decide) dX6_readWait_110 ?_
          refine zr_iload3 X dX6_readWait_113 ?_
          refine zr_aaldN X rfl rfl (by decide) (show _ < 6 from (by first | assumption | omega)) dX6_readWait_114 ?_
          refine zr_iload5 X dX6_readWait_115 ?_
          refine zr_iload6 X dX6_readWait_117 ?_
          refine zr_callV3 (rm9 := zrm_X5_reasonNotToJoin) X hnt zm_X6_145 (by decide) (by decide) (by decide) (Nat.le_of_ble_eq_true rfl) dX6_readWait_119 ?_
          refine zp01_X5_reasonNotToJoin (c9 := c36) hR41 hW42 (by omega) (by omega) ?_; have := qWhy_lt (S := S) (g := v11) (s := 0) (w := (c36 + 1))
          refine zr_nif_eq X ((qWhy S v11 0 (c36 + 1))) (tgt := 134) (by omega) dX6_readWait_122 (by decide) (fun h6 => ?_) (fun h6 => ?_)
          · skip
            refine zr_aload2 X dX6_readWait_134 ?_
            refine zr_getR X zf_X6_141 rfl (by decide) (by decide) dX6_readWait_135 ?_
            refine zr_iload3 X dX6_readWait_138 ?_
            refine zr_aaldN X rfl rfl (by decide) (show _ < 6 from (by first | assumption | omega)) dX6_readWait_139 ?_
            refine zr_iload5 X dX6_readWait_140 ?_
            refine zr_callV1 (rm9 := zrm_X1_lineOn) X hnt zm_X6_149 (by decide) (by decide) (by decide) (Nat.le_of_ble_eq_true rfl) dX6_readWait_142 ?_
            refine zp_X1_lineOn (fun _ => ?_) (fun h => absurd h (by decide))
            refine zr_iload6 X dX6_readWait_145 ?_
            refine zr_callV1 (rm9 := zrm_X4_addLast) X hnt zm_X6_155 (by decide) (by decide) (by decide) (Nat.le_of_ble_eq_true rfl) dX6_readWait_147 ?_
            refine zn_addLast (g := v11) (s9 := 0) (w := (c36 + 1)) hR41 (by omega) (Or.inl ⟨rfl, rfl⟩) (by have := (qWhy_0 h6).2.1; have := hW42.len v11 0; omega) (pk_sub (a := _ + 1) (b := 1) (by omega)) ?_
            intro J45 hg46 hR47; have hB48 := zBy.ag hB39 hg46 (by omega); have hT49 := zTok.ag hT40 hg46 (by omega); have fr50 : zfr I J45 x := zfr.ag fr33 hg46 (by omega); have hW51 : zWf (tL S v11 0 (sL S v11 0 ++ [(c36 + 1)])) := zWf_join hW42 (by omega) (by omega) h6
            refine zr_iconst (v := (1 : Int32)) X dX6_readWait_150 (by decide) ?_
            refine zr_zret X (by first | decide | assumption | (simp; done)) (by decide) (by decide) dX6_readWait_151 ?_
            exact k1 _ _ _ (by simp [pWait, pWait2, pWait3, pWait4, hq10, hw2, h3, hq35, h6]) fr50 ⟨hB48, hn, hT49, hR47, hW51⟩
          · skip
            refine zr_aload0 X dX6_readWait_125 ?_
            refine zr_bipush (v := (-6 : Int32)) X dX6_readWait_126 (by decide) ?_
            refine zr_iload4 X dX6_readWait_128 ?_
            refine zr_callV2 (rm9 := zrm_X6_fail) X hnt zm_X6_58 (by decide) (by decide) (by decide) (Nat.le_of_ble_eq_true rfl) dX6_readWait_130 ?_
            refine zp_X6_fail ?_
            refine zr_zret X (by first | decide | assumption | (simp; done)) (by decide) (by decide) dX6_readWait_133 ?_
            exact k2 _ _ (by simp [pWait, pWait2, pWait3, pWait4, hq10, hw2, h3, hq35, h6]) (zfr.er fr33) (zEr.mk hB39)
        · skip
          intro J32 er37 hq35 fr33 hE38; have fr33 : zfr I J32 x := zfr.tr fr24 fr33
          refine zr_istore6 X (by decide) rfl dX6_readWait_98 ?_
          refine zr_iload6 X dX6_readWait_100 ?_
          refine zr_iconst (v := (-1 : Int32)) X dX6_readWait_102 (by decide) ?_
          refine zr_icmp_ne (tgt := 108) X dX6_readWait_103 (by decide) (fun h => absurd h (by decide)) (fun _ => ?_)
          refine zr_iconst (v := (0 : Int32)) X dX6_readWait_106 (by decide) ?_
          refine zr_zret X (by first | decide | assumption | (simp; done)) (by decide) (by decide) dX6_readWait_107 ?_
          exact k2 _ er37 (by simp [pWait, pWait2, pWait3, pWait4, hq10, hw2, h3, hq35]) fr33 hE38
    · skip
      intro hw2; have hw2 : ¬ tIsB t n9 (tNext t n9 (tNext t n9 p9)) wIn = true := fun z => hw2 (tIsB_iff.mp z)
      refine zr_if_eq (tgt := 46) X dX6_readWait_39 (by decide) (fun _ => ?_) (fun h => absurd h (by decide))
      refine zr_aload1 X dX6_readWait_46 ?_
      refine zr_ldcS X 3 rfl (by decide) dX6_readWait_47 ?_
      refine zr_callV1 (rm9 := zrm_X3_isWord) X hnt zm_X6_23 (by decide) (by decide) (by decide) (Nat.le_of_ble_eq_true rfl) dX6_readWait_49 ?_
      refine zp_X3_isWord (a := x + 1) (i := 3) (t := t) (n9 := n9) (p9 := (tNext t n9 (tNext t n9 p9))) (by omega) hT15 (by decide) ?_ ?_
      · skip
        intro hw8; have hw8 : tIsB t n9 (tNext t n9 (tNext t n9 p9)) wOut = true := tIsB_iff.mpr hw8
        refine zr_if_eq (tgt := 59) X dX6_readWait_52 (by decide) (fun h => absurd h (by decide)) (fun _ => ?_)
        refine zr_iconst (v := (1 : Int32)) X dX6_readWait_55 (by decide) ?_
        refine zr_goto (tgt := 60) X dX6_readWait_56 (by decide) ?_
        refine zr_istore5 X (by decide) rfl dX6_readWait_60 ?_
        refine zr_iload5 X dX6_readWait_62 ?_
        refine zr_iconst (v := (-1 : Int32)) X dX6_readWait_64 (by decide) ?_
        refine zr_icmp_ne (tgt := 77) X dX6_readWait_65 (by decide) (fun _ => ?_) (fun h => absurd h (by decide))
        refine zr_aload1 X dX6_readWait_77 ?_
        refine zr_callV0 (rm9 := zrm_X3_advance) X hnt zm_X6_68 (by decide) (by decide) (by decide) (Nat.le_of_ble_eq_true rfl) dX6_readWait_78 ?_
        refine zp_X3_advance (a := x + 1) (t := t) (f := f) (n9 := n9) (p9 := tEnd t n9 (tNext t n9 (tNext t n9 p9))) hB14 hn hT15.2.1 hT15.2.2.2.2.1 (tEnd_le hT15.1).1 ?_
        intro J52 hg53 hB54 hT55; have hT55 : zTok J52 (x + 1) t n9 (tNext t n9 (tNext t n9 (tNext t n9 p9))) := hT55; have hR56 := hR16.ag hg53 (by omega); have fr57 : zfr I J52 x := zfr.ag fr8 hg53 (by omega); have hk4_J52 := tKind_le (t := t) (n := n9) (p := (tNext t n9 (tNext t n9 (tNext t n9 p9)))); have hl4_J52 := tEndL_le (t := t) hT55.1; have hpn_J52 := hT55.1
        refine zr_iconst (v := (-1 : Int32)) X dX6_readWait_81 (by decide) ?_
        refine zr_istore6 X (by decide) rfl dX6_readWait_82 ?_
        refine zr_aload1 X dX6_readWait_84 ?_
        refine zr_getI X zf_X6_15 rfl dX6_readWait_85 ?_
        refine zr_eq (x2 := (nI (tKind t n9 (tNext t n9 (tNext t n9 (tNext t n9 p9)))))) (hT55.2.2.2.1) ?_
        refine zr_iconst (v := (2 : Int32)) X dX6_readWait_88 (by decide) ?_
        refine zr_nicmp_ne X ((tKind t n9 (tNext t n9 (tNext t n9 (tNext t n9 p9))))) (2) (tgt := 108) (by omega) (by omega) dX6_readWait_89 (by decide) (fun h9 => ?_) (fun h9 => ?_)
        · skip
          refine zr_aload2 X dX6_readWait_108 ?_
          refine zr_aload2 X dX6_readWait_109 ?_
          refine zr_getR X zf_X6_141 rfl (by decide) (by decide) dX6_readWait_110 ?_
          refine zr_iload3 X dX6_readWait_113 ?_
          refine zr_aaldN X rfl rfl (by decide) (show _ < 6 from (by first | assumption | omega)) dX6_readWait_114 ?_
          refine zr_iload5 X dX6_readWait_115 ?_
          refine zr_iload6 X dX6_readWait_117 ?_
          refine zr_callV3 (rm9 := zrm_X5_reasonNotToJoin) X hnt zm_X6_145 (by decide) (by decide) (by decide) (Nat.le_of_ble_eq_true rfl) dX6_readWait_119 ?_
          refine zp10_X5_reasonNotToJoin (c9 := 0) hR56 hW17 (by omega) (by omega) ?_; have := qWhy_lt (S := S) (g := v11) (s := 1) (w := 0)
          refine zr_nif_eq X ((qWhy S v11 1 0)) (tgt := 134) (by omega) dX6_readWait_122 (by decide) (fun h10 => ?_) (fun h10 => ?_)
          · skip
            refine zr_aload2 X dX6_readWait_134 ?_
            refine zr_getR X zf_X6_141 rfl (by decide) (by decide) dX6_readWait_135 ?_
            refine zr_iload3 X dX6_readWait_138 ?_
            refine zr_aaldN X rfl rfl (by decide) (show _ < 6 from (by first | assumption | omega)) dX6_readWait_139 ?_
            refine zr_iload5 X dX6_readWait_140 ?_
            refine zr_callV1 (rm9 := zrm_X1_lineOn) X hnt zm_X6_149 (by decide) (by decide) (by decide) (Nat.le_of_ble_eq_true rfl) dX6_readWait_142 ?_
            refine zp_X1_lineOn (fun h => absurd rfl h) (fun _ => ?_)
            refine zr_iload6 X dX6_readWait_145 ?_
            refine zr_callV1 (rm9 := zrm_X4_addLast) X hnt zm_X6_155 (by decide) (by decide) (by decide) (Nat.le_of_ble_eq_true rfl) dX6_readWait_147 ?_
            refine zn_addLast (g := v11) (s9 := 1) (w := 0) hR56 (by omega) (Or.inr ⟨rfl, rfl⟩) (by have := (qWhy_0 h10).2.1; have := hW17.len v11 1; omega) (by decide) ?_
            intro J58 hg59 hR60; have hB61 := zBy.ag hB54 hg59 (by omega); have hT62 := zTok.ag hT55 hg59 (by omega); have fr63 : zfr I J58 x := zfr.ag fr57 hg59 (by omega); have hW64 : zWf (tL S v11 1 (sL S v11 1 ++ [0])) := zWf_join hW17 (by omega) (by omega) h10
            refine zr_iconst (v := (1 : Int32)) X dX6_readWait_150 (by decide) ?_
            refine zr_zret X (by first | decide | assumption | (simp; done)) (by decide) (by decide) dX6_readWait_151 ?_
            exact k1 _ _ _ (by simp [pWait, pWait2, pWait3, pWait4, hq10, hw2, hw8, h9, h10]) fr63 ⟨hB61, hn, hT62, hR60, hW64⟩
          · skip
            refine zr_aload0 X dX6_readWait_125 ?_
            refine zr_bipush (v := (-6 : Int32)) X dX6_readWait_126 (by decide) ?_
            refine zr_iload4 X dX6_readWait_128 ?_
            refine zr_callV2 (rm9 := zrm_X6_fail) X hnt zm_X6_58 (by decide) (by decide) (by decide) (Nat.le_of_ble_eq_true rfl) dX6_readWait_130 ?_
            refine zp_X6_fail ?_
            refine zr_zret X (by first | decide | assumption | (simp; done)) (by decide) (by decide) dX6_readWait_133 ?_
            exact k2 _ _ (by simp [pWait, pWait2, pWait3, pWait4, hq10, hw2, hw8, h9, h10]) (zfr.er fr57) (zEr.mk hB54)
        · skip
          refine zr_aload0 X dX6_readWait_92 ?_
          refine zr_aload1 X dX6_readWait_93 ?_
          refine zr_aload2 X dX6_readWait_94 ?_
          refine zr_callV2 (rm9 := zrm_X6_takeKnownCard) X hnt zm_X6_117 (by decide) (by decide) (by decide) (Nat.le_of_ble_eq_true rfl) dX6_readWait_95 ?_
          refine zp_X6_takeKnownCard (x := x) (t := t) (f := f) (n9 := n9) (p9 := (tNext t n9 (tNext t n9 (tNext t n9 p9)))) (S := S) ⟨hB54, hn, hT55, hR56, hW17⟩ ?_ ?_
          · skip
            intro J65 c69 hq68 fr66 hS67 hc77; obtain ⟨hB72, hn76, hT73, hR74, hW75⟩ := hS67; have fr66 : zfr I J65 x := zfr.tr fr57 fr66; have hk4_J65 := tKind_le (t := t) (n := n9) (p := (tNext t n9 (tNext t n9 (tNext t n9 (tNext t n9 p9))))); have hl4_J65 := tEndL_le (t := t) hT73.1; have hpn_J65 := hT73.1; have := hW75.nc.1
            refine zr_istore6 X (by decide) rfl dX6_readWait_98 ?_
            refine zr_iload6 X dX6_readWait_100 ?_
            refine zr_iconst (v := (-1 : Int32)) X dX6_readWait_102 (by decide) ?_
            refine zr_icmp_ne (tgt := 108) X dX6_readWait_103 (by decide) (fun _ => ?_) (fun h => absurd h (zm1 (by omega)))
            refine zr_aload2 X dX6_readWait_108 ?_
            refine zr_aload2 X dX6_readWait_109 ?_
            refine zr_getR X zf_X6_141 rfl (by decide) (by decide) dX6_readWait_110 ?_
            refine zr_iload3 X dX6_readWait_113 ?_
            refine zr_aaldN X rfl rfl (by decide) (show _ < 6 from (by first | assumption | omega)) dX6_readWait_114 ?_
            refine zr_iload5 X dX6_readWait_115 ?_
            refine zr_iload6 X dX6_readWait_117 ?_
            refine zr_callV3 (rm9 := zrm_X5_reasonNotToJoin) X hnt zm_X6_145 (by decide) (by decide) (by decide) (Nat.le_of_ble_eq_true rfl) dX6_readWait_119 ?_
            refine zp11_X5_reasonNotToJoin (c9 := c69) hR74 hW75 (by omega) (by omega) ?_; have := qWhy_lt (S := S) (g := v11) (s := 1) (w := (c69 + 1))
            refine zr_nif_eq X ((qWhy S v11 1 (c69 + 1))) (tgt := 134) (by omega) dX6_readWait_122 (by decide) (fun h12 => ?_) (fun h12 => ?_)
            · skip
              refine zr_aload2 X dX6_readWait_134 ?_
              refine zr_getR X zf_X6_141 rfl (by decide) (by decide) dX6_readWait_135 ?_
              refine zr_iload3 X dX6_readWait_138 ?_
              refine zr_aaldN X rfl rfl (by decide) (show _ < 6 from (by first | assumption | omega)) dX6_readWait_139 ?_
              refine zr_iload5 X dX6_readWait_140 ?_
              refine zr_callV1 (rm9 := zrm_X1_lineOn) X hnt zm_X6_149 (by decide) (by decide) (by decide) (Nat.le_of_ble_eq_true rfl) dX6_readWait_142 ?_
              refine zp_X1_lineOn (fun h => absurd rfl h) (fun _ => ?_)
              refine zr_iload6 X dX6_readWait_145 ?_
              refine zr_callV1 (rm9 := zrm_X4_addLast) X hnt zm_X6_155 (by decide) (by decide) (by decide) (Nat.le_of_ble_eq_true rfl) dX6_readWait_147 ?_
              refine zn_addLast (g := v11) (s9 := 1) (w := (c69 + 1)) hR74 (by omega) (Or.inr ⟨rfl, rfl⟩) (by have := (qWhy_0 h12).2.1; have := hW75.len v11 1; omega) (pk_sub (a := _ + 1) (b := 1) (by omega)) ?_
              intro J78 hg79 hR80; have hB81 := zBy.ag hB72 hg79 (by omega); have hT82 := zTok.ag hT73 hg79 (by omega); have fr83 : zfr I J78 x := zfr.ag fr66 hg79 (by omega); have hW84 : zWf (tL S v11 1 (sL S v11 1 ++ [(c69 + 1)])) := zWf_join hW75 (by omega) (by omega) h12
              refine zr_iconst (v := (1 : Int32)) X dX6_readWait_150 (by decide) ?_
              refine zr_zret X (by first | decide | assumption | (simp; done)) (by decide) (by decide) dX6_readWait_151 ?_
              exact k1 _ _ _ (by simp [pWait, pWait2, pWait3, pWait4, hq10, hw2, hw8, h9, hq68, h12]) fr83 ⟨hB81, hn, hT82, hR80, hW84⟩
            · skip
              refine zr_aload0 X dX6_readWait_125 ?_
              refine zr_bipush (v := (-6 : Int32)) X dX6_readWait_126 (by decide) ?_
              refine zr_iload4 X dX6_readWait_128 ?_
              refine zr_callV2 (rm9 := zrm_X6_fail) X hnt zm_X6_58 (by decide) (by decide) (by decide) (Nat.le_of_ble_eq_true rfl) dX6_readWait_130 ?_
              refine zp_X6_fail ?_
              refine zr_zret X (by first | decide | assumption | (simp; done)) (by decide) (by decide) dX6_readWait_133 ?_
              exact k2 _ _ (by simp [pWait, pWait2, pWait3, pWait4, hq10, hw2, hw8, h9, hq68, h12]) (zfr.er fr66) (zEr.mk hB72)
          · skip
            intro J65 er70 hq68 fr66 hE71; have fr66 : zfr I J65 x := zfr.tr fr57 fr66
            refine zr_istore6 X (by decide) rfl dX6_readWait_98 ?_
            refine zr_iload6 X dX6_readWait_100 ?_
            refine zr_iconst (v := (-1 : Int32)) X dX6_readWait_102 (by decide) ?_
            refine zr_icmp_ne (tgt := 108) X dX6_readWait_103 (by decide) (fun h => absurd h (by decide)) (fun _ => ?_)
            refine zr_iconst (v := (0 : Int32)) X dX6_readWait_106 (by decide) ?_
            refine zr_zret X (by first | decide | assumption | (simp; done)) (by decide) (by decide) dX6_readWait_107 ?_
            exact k2 _ er70 (by simp [pWait, pWait2, pWait3, pWait4, hq10, hw2, hw8, h9, hq68]) fr66 hE71
      · skip
        intro hw8; have hw8 : ¬ tIsB t n9 (tNext t n9 (tNext t n9 p9)) wOut = true := fun z => hw8 (tIsB_iff.mp z)
        refine zr_if_eq (tgt := 59) X dX6_readWait_52 (by decide) (fun _ => ?_) (fun h => absurd h (by decide))
        refine zr_iconst (v := (-1 : Int32)) X dX6_readWait_59 (by decide) ?_
        refine zr_istore5 X (by decide) rfl dX6_readWait_60 ?_
        refine zr_iload5 X dX6_readWait_62 ?_
        refine zr_iconst (v := (-1 : Int32)) X dX6_readWait_64 (by decide) ?_
        refine zr_icmp_ne (tgt := 77) X dX6_readWait_65 (by decide) (fun h => absurd h (by decide)) (fun _ => ?_)
        refine zr_aload0 X dX6_readWait_68 ?_
        refine zr_bipush (v := (-2 : Int32)) X dX6_readWait_69 (by decide) ?_
        refine zr_iload4 X dX6_readWait_71 ?_
        refine zr_callV2 (rm9 := zrm_X6_fail) X hnt zm_X6_58 (by decide) (by decide) (by decide) (Nat.le_of_ble_eq_true rfl) dX6_readWait_73 ?_
        refine zp_X6_fail ?_
        refine zr_zret X (by first | decide | assumption | (simp; done)) (by decide) (by decide) dX6_readWait_76 ?_
        exact k2 _ _ (by simp [pWait, pWait2, pWait3, pWait4, hq10, hw2, hw8]) (zfr.er fr8) (zEr.mk hB14)
  · skip
    intro J7 er12 hq10 fr8 hE13; have fr8 : zfr I J7 x := zfr.tr fr6 fr8
    refine zr_istore3 X (by decide) rfl dX6_readWait_16 ?_
    refine zr_aload2 X dX6_readWait_17 ?_
    refine zr_iload3 X dX6_readWait_18 ?_
    refine zr_callV1 (rm9 := zrm_X5_hasGate) X hnt zm_X6_138 (by decide) (by decide) (by decide) (Nat.le_of_ble_eq_true rfl) dX6_readWait_19 ?_
    refine zq_X5_hasGate (fun h => absurd (by decide) h.1) (fun _ => ?_)
    refine zr_if_ne (tgt := 27) X dX6_readWait_22 (by decide) (fun h => absurd h (by decide)) (fun _ => ?_)
    refine zr_iconst (v := (0 : Int32)) X dX6_readWait_25 (by decide) ?_
    refine zr_zret X (by first | decide | assumption | (simp; done)) (by decide) (by decide) dX6_readWait_26 ?_
    exact k2 _ er12 (by simp [pWait, pWait2, pWait3, pWait4, hq10]) fr8 hE13
abbrev zrm_X6_readList : Room := { frames := 5, cells := 0, slots := 0, locals := 111 }
theorem pListed_gt {t : Nat → Nat} {n p p2 : Nat} {S S2 : zS} (hp : p < n) (h : pListed t n p S = .inr (p2, S2)) : p < p2 := by
  unfold pListed at h
  cases e : pKnown t n p S with
  | inl e9 => rw [e] at h; cases h
  | inr c => rw [e] at h; cases h; exact tNext_gt hp
set_option maxRecDepth 20000 in
theorem zl_X6_readList {l : Launch} {D : va_G} {b0 : Nat} {tA : Nat → ClassId} {sa sv : Nat → Nat} {K : Nat → Option Nat} {I : zI} {Qp : zI → Option AV → Prop} {Xp : String → zI → Prop} {p : Program} {e : Env} {s : State} {m : MethodId} {args : Array Value} {below : List Frame} {meth : Method} {c : Code} {x f n9 : Nat} {t : Nat → Nat} {RES : zRs}
    (X : zX p l e zrm_X6_readList s m args below meth c RX6 cX6_readList 4 (some .boolean) D b0 tA sa sv) (hnt : ∀ x ∈ c.exceptionTable.toList, False) (hf5 : f ≤ 500) (k1 : ∀ (J : zI) (p2 : Nat) (S2 : zS), RES = .inr (p2, S2) → zfr I J x → zPs J x t f n9 p2 S2 → Qp J (some (vi 1))) (k2 : ∀ (J : zI) (er : Int32 × Nat), RES = .inl er → zfr I J x → zEr J x t f er → Qp J (some (vi 0))) :
    ∀ (n : Nat) (j pp : Nat) (T : zS) (J : zI), pMore t n9 (n9 - pp) pp T = RES → zfr I J x → zPs J x t f n9 pp T → j ≤ pp → n9 - pp < n → zG p l e zrm_X6_readList s m args below meth c 4 D b0 tA sa 0 0 (zQ below D b0 tA sa K args s zrm_X6_readList Qp Xp) K 17 [some (vr (x + 3) 6), some (vr (x + 1) 3), some (vr (x + 94) 5), some (vi ((nI j)))] [] J := by
  intro n
  induction n with
  | zero => intro j pp T J i1 i2 i3 i4 i9; exact absurd i9 (Nat.not_lt_zero _)
  | succ n ih =>
    intro j pp T J i1 i2 i3 i4 i9
    obtain ⟨hB, hn, hT, hR, hW⟩ := i3
    have hpn := hT.1
    have hk4 := tKind_le (t := t) (n := n9) (p := pp)
    have hl4 := tEndL_le (t := t) hT.1
    have hg6 := hW.ng.1
    have hc12 := hW.nc.1
    refine zr_iload3 X dX6_readList_17 ?_
    refine zr_sipush (v := (500 : Int32)) X dX6_readList_18 (by decide) ?_
    refine zr_nicmp_ge X (j) (500) (tgt := 49) (by omega) (by omega) dX6_readList_21 (by decide) (fun h1 => ?_) (fun h1 => ?_)
    · skip
      refine zr_iconst (v := (1 : Int32)) X dX6_readList_49 (by decide) ?_
      refine zr_zret X (by first | decide | assumption | (simp; done)) (by decide) (by decide) dX6_readList_50 ?_
      exact k1 _ _ _ (by rw [← i1, pMore_stop (fun z => by have := (tKind_2.mp z).1; omega)]) i2 ⟨hB, hn, hT, hR, hW⟩
    · skip
      refine zr_aload1 X dX6_readList_24 ?_
      refine zr_getI X zf_X6_15 rfl dX6_readList_25 ?_
      refine zr_eq (x2 := (nI (tKind t n9 pp))) (hT.2.2.2.1) ?_
      refine zr_iconst (v := (2 : Int32)) X dX6_readList_28 (by decide) ?_
      refine zr_nicmp_ne X ((tKind t n9 pp)) (2) (tgt := 49) (by omega) (by omega) dX6_readList_29 (by decide) (fun h2 => ?_) (fun h2 => ?_)
      · skip
        refine zr_iconst (v := (1 : Int32)) X dX6_readList_49 (by decide) ?_
        refine zr_zret X (by first | decide | assumption | (simp; done)) (by decide) (by decide) dX6_readList_50 ?_
        exact k1 _ _ _ (by rw [← i1, pMore_stop (fun z => by have := (tKind_2.mp z).1; omega)]) i2 ⟨hB, hn, hT, hR, hW⟩
      · skip
        refine zr_aload0 X dX6_readList_32 ?_
        refine zr_aload1 X dX6_readList_33 ?_
        refine zr_aload2 X dX6_readList_34 ?_
        refine zr_callV2 (rm9 := zrm_X6_takeListed) X hnt zm_X6_114 (by decide) (by decide) (by decide) (Nat.le_of_ble_eq_true rfl) dX6_readList_35 ?_
        refine zp_X6_takeListed (x := x) (t := t) (f := f) (n9 := n9) (p9 := pp) (S := T) ⟨hB, hn, hT, hR, hW⟩ ?_ ?_
        · skip
          intro J85 p89 T90 hq88 fr86 hS87; obtain ⟨hB93, hn97, hT94, hR95, hW96⟩ := hS87; have fr86 : zfr I J85 x := zfr.tr i2 fr86; have hk4_J85 := tKind_le (t := t) (n := n9) (p := p89); have hl4_J85 := tEndL_le (t := t) hT94.1; have hpn_J85 := hT94.1; have := hW96.ng.1; have := hW96.nc.1
          refine zr_if_ne (tgt := 43) X dX6_readList_38 (by decide) (fun _ => ?_) (fun h => absurd h (by decide))
          refine zr_iinc3 (v := (nI (j + 1))) X (show nI (j) + Int32.ofInt 1 = nI (j + 1) from nI_1 (j)) (by decide) rfl dX6_readList_43 ?_
          refine zr_goto (tgt := 17) X dX6_readList_46 (by decide) ?_
          have hlt := (tKind_2.mp (by assumption : tKind t n9 pp = 2)).1
          have hpp := pListed_gt hlt hq88
          have i1b := i1
          rw [pMore_step hpn (by assumption), hq88] at i1b
          exact ih (j + 1) _ _ _ i1b fr86 ⟨hB93, hn, hT94, hR95, hW96⟩ (by omega) (by omega)
        · skip
          intro J85 er91 hq88 fr86 hE92; have fr86 : zfr I J85 x := zfr.tr i2 fr86
          refine zr_if_ne (tgt := 43) X dX6_readList_38 (by decide) (fun h => absurd h (by decide)) (fun _ => ?_)
          refine zr_iconst (v := (0 : Int32)) X dX6_readList_41 (by decide) ?_
          refine zr_zret X (by first | decide | assumption | (simp; done)) (by decide) (by decide) dX6_readList_42 ?_
          exact k2 _ er91 (by rw [← i1, pMore_step hpn (by assumption), hq88]) fr86 hE92
set_option maxRecDepth 20000 in
theorem zp_X6_readList {l : Launch} {D : va_G} {b0 : Nat} {tA : Nat → ClassId} {sa sv : Nat → Nat} {K : Nat → Option Nat} {I : zI} {Qp : zI → Option AV → Prop} {Xp : String → zI → Prop} {x f n9 p9 : Nat} {t : Nat → Nat} {S : zS}
    (hS : zPs I x t f n9 p9 S) (k1 : ∀ (J : zI) (p2 : Nat) (S2 : zS), pList t n9 p9 S = .inr (p2, S2) → zfr I J x → zPs J x t f n9 p2 S2 → Qp J (some (vi 1))) (k2 : ∀ (J : zI) (er : Int32 × Nat), pList t n9 p9 S = .inl er → zfr I J x → zEr J x t f er → Qp J (some (vi 0))) :
    zC l D b0 tA sa sv K yX6_readList (.code yX6_readList cX6_readList 4 (some .boolean)) zrm_X6_readList [vr (x + 3) 6, vr (x + 1) 3, vr (x + 94) 5] I Qp Xp := by
  obtain ⟨hB, hn, hT, hR, hW⟩ := hS
  have hf5 := hB.2.1
  have hpn := hT.1
  have hk4 := tKind_le (t := t) (n := n9) (p := p9)
  have hl4 := tEndL_le (t := t) hT.1
  have hg6 := hW.ng.1
  have hc12 := hW.nc.1
  refine zC_of (by decide +kernel) (Nat.le_of_ble_eq_true rfl) ?_
  intro p e s m args below meth c X hnt
  have X : zX p l e zrm_X6_readList s m args below meth c RX6 cX6_readList 4 (some .boolean) D b0 tA sa sv := X
  refine zr_lv (lv2 := [some (vr (x + 3) 6), some (vr (x + 1) 3), some (vr (x + 94) 5), none]) rfl ?_
  refine zr_aload1 X dX6_readList_0 ?_
  refine zr_callV0 (rm9 := zrm_X3_advance) X hnt zm_X6_68 (by decide) (by decide) (by decide) (Nat.le_of_ble_eq_true rfl) dX6_readList_1 ?_
  refine zp_X3_advance (a := x + 1) (t := t) (f := f) (n9 := n9) (p9 := tEnd t n9 p9) hB hn hT.2.1 hT.2.2.2.2.1 (tEnd_le hT.1).1 ?_
  intro J98 hg99 hB100 hT101; have hT101 : zTok J98 (x + 1) t n9 (tNext t n9 p9) := hT101; have hR102 := hR.ag hg99 (by omega); have fr103 : zfr I J98 x := zfr.ag zfr.rf hg99 (by omega); have hk4_J98 := tKind_le (t := t) (n := n9) (p := (tNext t n9 p9)); have hl4_J98 := tEndL_le (t := t) hT101.1; have hpn_J98 := hT101.1
  refine zr_aload0 X dX6_readList_4 ?_
  refine zr_aload1 X dX6_readList_5 ?_
  refine zr_aload2 X dX6_readList_6 ?_
  refine zr_callV2 (rm9 := zrm_X6_takeListed) X hnt zm_X6_114 (by decide) (by decide) (by decide) (Nat.le_of_ble_eq_true rfl) dX6_readList_7 ?_
  refine zp_X6_takeListed (x := x) (t := t) (f := f) (n9 := n9) (p9 := (tNext t n9 p9)) (S := S) ⟨hB100, hn, hT101, hR102, hW⟩ ?_ ?_
  · skip
    intro J104 p108 T109 hq107 fr105 hS106; obtain ⟨hB112, hn116, hT113, hR114, hW115⟩ := hS106; have fr105 : zfr I J104 x := zfr.tr fr103 fr105; have hk4_J104 := tKind_le (t := t) (n := n9) (p := p108); have hl4_J104 := tEndL_le (t := t) hT113.1; have hpn_J104 := hT113.1; have := hW115.ng.1; have := hW115.nc.1
    refine zr_if_ne (tgt := 15) X dX6_readList_10 (by decide) (fun _ => ?_) (fun h => absurd h (by decide))
    refine zr_iconst (v := (0 : Int32)) X dX6_readList_15 (by decide) ?_
    refine zr_istore3 X (by decide) rfl dX6_readList_16 ?_
    exact zl_X6_readList (RES := pList t n9 p9 S) X hnt hf5 k1 k2 (n9 + 1) 0 p108 T109 _ (by unfold pList; rw [hq107]) fr105 ⟨hB112, hn, hT113, hR114, hW115⟩ (by omega) (by omega)
  · skip
    intro J104 er110 hq107 fr105 hE111; have fr105 : zfr I J104 x := zfr.tr fr103 fr105
    refine zr_if_ne (tgt := 15) X dX6_readList_10 (by decide) (fun h => absurd h (by decide)) (fun _ => ?_)
    refine zr_iconst (v := (0 : Int32)) X dX6_readList_13 (by decide) ?_
    refine zr_zret X (by first | decide | assumption | (simp; done)) (by decide) (by decide) dX6_readList_14 ?_
    exact k2 _ er110 (by simp [pList, hq107]) fr105 hE111
abbrev zrm_X6_readSetup : Room := { frames := 7, cells := 0, slots := 0, locals := 199 }
set_option maxRecDepth 20000 in
theorem zl_X6_readSetup {l : Launch} {D : va_G} {b0 : Nat} {tA : Nat → ClassId} {sa sv : Nat → Nat} {K : Nat → Option Nat} {I : zI} {Qp : zI → Option AV → Prop} {Xp : String → zI → Prop} {p : Program} {e : Env} {s : State} {m : MethodId} {args : Array Value} {below : List Frame} {meth : Method} {c : Code} {x f n9 : Nat} {t : Nat → Nat} {RES : zRs}
    (X : zX p l e zrm_X6_readSetup s m args below meth c RX6 cX6_readSetup 5 (some .boolean) D b0 tA sa sv) (hnt : ∀ x ∈ c.exceptionTable.toList, False) (hf5 : f ≤ 500) (k1 : ∀ (J : zI) (p2 : Nat) (S2 : zS), RES = .inr (p2, S2) → zfr I J x → zPs J x t f n9 p2 S2 → Qp J (some (vi 1))) (k2 : ∀ (J : zI) (er : Int32 × Nat), RES = .inl er → zfr I J x → zEr J x t f er → Qp J (some (vi 0))) :
    ∀ (n : Nat) (j pp : Nat) (T : zS) (J : zI), pAll t n9 (n9 - pp) pp T = RES → zfr I J x → zPs J x t f n9 pp T → j ≤ pp → n9 - pp < n → zG p l e zrm_X6_readSetup s m args below meth c 5 D b0 tA sa 0 0 (zQ below D b0 tA sa K args s zrm_X6_readSetup Qp Xp) K 10 [some (vr (x + 3) 6), some (vr (x + 1) 3), some (vr (x + 94) 5), some (vi ((1 : Int32))), some (vi ((nI j)))] [] J := by
  intro n
  induction n with
  | zero => intro j pp T J i1 i2 i3 i4 i9; exact absurd i9 (Nat.not_lt_zero _)
  | succ n ih =>
    intro j pp T J i1 i2 i3 i4 i9
    obtain ⟨hB, hn, hT, hR, hW⟩ := i3
    have hpn := hT.1
    have hk4 := tKind_le (t := t) (n := n9) (p := pp)
    have hl4 := tEndL_le (t := t) hT.1
    have hg6 := hW.ng.1
    have hc12 := hW.nc.1
    have hkz : tKind t n9 pp = 0 ↔ n9 ≤ pp := tKind_0
    refine zr_iload3 X dX6_readSetup_10 ?_
    refine zr_if_eq (tgt := 178) X dX6_readSetup_11 (by decide) (fun h => absurd h (by decide)) (fun _ => ?_)
    refine zr_iload4 X dX6_readSetup_14 ?_
    refine zr_sipush (v := (500 : Int32)) X dX6_readSetup_16 (by decide) ?_
    refine zr_nicmp_ge X (j) (500) (tgt := 178) (by omega) (by omega) dX6_readSetup_19 (by decide) (fun h1 => ?_) (fun h1 => ?_)
    · skip
      refine zr_iload3 X dX6_readSetup_178 ?_
      refine zr_zret X (by first | decide | assumption | (simp; done)) (by decide) (by decide) dX6_readSetup_179 ?_
      exact k1 _ _ _ (by rw [← i1, pAll_stop (by omega)]) i2 ⟨hB, hn, hT, hR, hW⟩
    · skip
      refine zr_aload1 X dX6_readSetup_22 ?_
      refine zr_getI X zf_X6_15 rfl dX6_readSetup_23 ?_
      refine zr_eq (x2 := (nI (tKind t n9 pp))) (hT.2.2.2.1) ?_
      refine zr_nif_eq X ((tKind t n9 pp)) (tgt := 178) (by omega) dX6_readSetup_26 (by decide) (fun h2 => ?_) (fun h2 => ?_)
      · skip
        refine zr_iload3 X dX6_readSetup_178 ?_
        refine zr_zret X (by first | decide | assumption | (simp; done)) (by decide) (by decide) dX6_readSetup_179 ?_
        exact k1 _ _ _ (by rw [← i1, pAll_stop (by omega)]) i2 ⟨hB, hn, hT, hR, hW⟩
      · skip
        refine zr_aload1 X dX6_readSetup_29 ?_
        refine zr_ldcS X 1 rfl (by decide) dX6_readSetup_30 ?_
        refine zr_callV1 (rm9 := zrm_X3_isWord) X hnt zm_X6_23 (by decide) (by decide) (by decide) (Nat.le_of_ble_eq_true rfl) dX6_readSetup_32 ?_
        refine zp_X3_isWord (a := x + 1) (i := 1) (t := t) (n9 := n9) (p9 := pp) (by omega) hT (by decide) ?_ ?_
        · skip
          intro hw3; have hw3 : tIsB t n9 pp wGate = true := tIsB_iff.mpr hw3
          refine zr_if_eq (tgt := 48) X dX6_readSetup_35 (by decide) (fun h => absurd h (by decide)) (fun _ => ?_)
          refine zr_aload0 X dX6_readSetup_38 ?_
          refine zr_aload1 X dX6_readSetup_39 ?_
          refine zr_aload2 X dX6_readSetup_40 ?_
          refine zr_callV2 (rm9 := zrm_X6_readGate) X hnt zm_X6_27 (by decide) (by decide) (by decide) (Nat.le_of_ble_eq_true rfl) dX6_readSetup_41 ?_
          refine zp_X6_readGate (x := x) (t := t) (f := f) (n9 := n9) (p9 := pp) (S := T) ⟨hB, hn, hT, hR, hW⟩ ?_ ?_
          · skip
            intro J117 p121 T122 hq120 fr118 hS119; obtain ⟨hB125, hn129, hT126, hR127, hW128⟩ := hS119; have fr118 : zfr I J117 x := zfr.tr i2 fr118; have hk4_J117 := tKind_le (t := t) (n := n9) (p := p121); have hl4_J117 := tEndL_le (t := t) hT126.1; have hpn_J117 := hT126.1; have := hW128.ng.1; have := hW128.nc.1
            refine zr_istore3 X (by decide) rfl dX6_readSetup_44 ?_
            refine zr_goto (tgt := 154) X dX6_readSetup_45 (by decide) ?_
            refine zr_iload3 X dX6_readSetup_154 ?_
            refine zr_if_eq (tgt := 170) X dX6_readSetup_155 (by decide) (fun h => absurd h (by decide)) (fun _ => ?_)
            refine zr_aload0 X dX6_readSetup_158 ?_
            refine zr_aload1 X dX6_readSetup_159 ?_
            refine zr_callV1 (rm9 := zrm_X6_takeSemicolon) X hnt zm_X6_62 (by decide) (by decide) (by decide) (Nat.le_of_ble_eq_true rfl) dX6_readSetup_160 ?_
            refine zp_X6_takeSemicolon (x := x) (t := t) (f := f) (n9 := n9) (p9 := p121) (S := T122) ⟨hB125, hn, hT126, hR127, hW128⟩ ?_ ?_
            · skip
              intro J130 p134 T135 hq133 fr131 hS132; obtain ⟨hB138, hn142, hT139, hR140, hW141⟩ := hS132; have fr131 : zfr I J130 x := zfr.tr fr118 fr131; have hk4_J130 := tKind_le (t := t) (n := n9) (p := p134); have hl4_J130 := tEndL_le (t := t) hT139.1; have hpn_J130 := hT139.1; have := hW141.ng.1; have := hW141.nc.1
              refine zr_if_eq (tgt := 170) X dX6_readSetup_163 (by decide) (fun h => absurd h (by decide)) (fun _ => ?_)
              refine zr_iconst (v := (1 : Int32)) X dX6_readSetup_166 (by decide) ?_
              refine zr_goto (tgt := 171) X dX6_readSetup_167 (by decide) ?_
              refine zr_istore3 X (by decide) rfl dX6_readSetup_171 ?_
              refine zr_iinc4 (v := (nI (j + 1))) X (show nI (j) + Int32.ofInt 1 = nI (j + 1) from nI_1 (j)) (by decide) rfl dX6_readSetup_172 ?_
              refine zr_goto (tgt := 10) X dX6_readSetup_175 (by decide) ?_
              have hst : pStmt t n9 pp T = .inr (p134, T135) := by simp [pStmt, pBody, hw3, hq120, hq133]
              have hgt := pStmt_gt hpn hst
              have i1b := i1
              rw [pAll_step (by omega), hst] at i1b
              exact ih (j + 1) _ _ _ i1b fr131 ⟨hB138, hn, hT139, hR140, hW141⟩ (by omega) (by omega)
            · skip
              intro J130 er136 hq133 fr131 hE137; have fr131 : zfr I J130 x := zfr.tr fr118 fr131
              refine zr_if_eq (tgt := 170) X dX6_readSetup_163 (by decide) (fun _ => ?_) (fun h => absurd h (by decide))
              refine zr_iconst (v := (0 : Int32)) X dX6_readSetup_170 (by decide) ?_
              refine zr_istore3 X (by decide) rfl dX6_readSetup_171 ?_
              refine zr_iinc4 (v := (nI (j + 1))) X (show nI (j) + Int32.ofInt 1 = nI (j + 1) from nI_1 (j)) (by decide) rfl dX6_readSetup_172 ?_
              refine zr_goto (tgt := 10) X dX6_readSetup_175 (by decide) ?_
              refine zr_iload3 X dX6_readSetup_10 ?_
              refine zr_if_eq (tgt := 178) X dX6_readSetup_11 (by decide) (fun _ => ?_) (fun h => absurd h (by decide))
              refine zr_iload3 X dX6_readSetup_178 ?_
              refine zr_zret X (by first | decide | assumption | (simp; done)) (by decide) (by decide) dX6_readSetup_179 ?_
              have hst : pStmt t n9 pp T = .inl er136 := by simp [pStmt, pBody, hw3, hq120, hq133]
              exact k2 _ er136 (by rw [← i1, pAll_step (by omega), hst]) fr131 hE137
          · skip
            intro J117 er123 hq120 fr118 hE124; have fr118 : zfr I J117 x := zfr.tr i2 fr118
            refine zr_istore3 X (by decide) rfl dX6_readSetup_44 ?_
            refine zr_goto (tgt := 154) X dX6_readSetup_45 (by decide) ?_
            refine zr_iload3 X dX6_readSetup_154 ?_
            refine zr_if_eq (tgt := 170) X dX6_readSetup_155 (by decide) (fun _ => ?_) (fun h => absurd h (by decide))
            refine zr_iconst (v := (0 : Int32)) X dX6_readSetup_170 (by decide) ?_
            refine zr_istore3 X (by decide) rfl dX6_readSetup_171 ?_
            refine zr_iinc4 (v := (nI (j + 1))) X (show nI (j) + Int32.ofInt 1 = nI (j + 1) from nI_1 (j)) (by decide) rfl dX6_readSetup_172 ?_
            refine zr_goto (tgt := 10) X dX6_readSetup_175 (by decide) ?_
            refine zr_iload3 X dX6_readSetup_10 ?_
            refine zr_if_eq (tgt := 178) X dX6_readSetup_11 (by decide) (fun _ => ?_) (fun h => absurd h (by decide))
            refine zr_iload3 X dX6_readSetup_178 ?_
            refine zr_zret X (by first | decide | assumption | (simp; done)) (by decide) (by decide) dX6_readSetup_179 ?_
            have hst : pStmt t n9 pp T = .inl er123 := by simp [pStmt, pBody, hw3, hq120]
            exact k2 _ er123 (by rw [← i1, pAll_step (by omega), hst]) fr118 hE124
        · skip
          intro hw3; have hw3 : ¬ tIsB t n9 pp wGate = true := fun z => hw3 (tIsB_iff.mp z)
          refine zr_if_eq (tgt := 48) X dX6_readSetup_35 (by decide) (fun _ => ?_) (fun h => absurd h (by decide))
          refine zr_aload1 X dX6_readSetup_48 ?_
          refine zr_ldcS X 5 rfl (by decide) dX6_readSetup_49 ?_
          refine zr_callV1 (rm9 := zrm_X3_isWord) X hnt zm_X6_23 (by decide) (by decide) (by decide) (Nat.le_of_ble_eq_true rfl) dX6_readSetup_51 ?_
          refine zp_X3_isWord (a := x + 1) (i := 5) (t := t) (n9 := n9) (p9 := pp) (by omega) hT (by decide) ?_ ?_
          · skip
            intro hw4; have hw4 : tIsB t n9 pp wCard = true := tIsB_iff.mpr hw4
            refine zr_if_eq (tgt := 67) X dX6_readSetup_54 (by decide) (fun h => absurd h (by decide)) (fun _ => ?_)
            refine zr_aload0 X dX6_readSetup_57 ?_
            refine zr_aload1 X dX6_readSetup_58 ?_
            refine zr_aload2 X dX6_readSetup_59 ?_
            refine zr_callV2 (rm9 := zrm_X6_readCard) X hnt zm_X6_32 (by decide) (by decide) (by decide) (Nat.le_of_ble_eq_true rfl) dX6_readSetup_60 ?_
            refine zp_X6_readCard (x := x) (t := t) (f := f) (n9 := n9) (p9 := pp) (S := T) ⟨hB, hn, hT, hR, hW⟩ ?_ ?_
            · skip
              intro J143 p147 T148 hq146 fr144 hS145; obtain ⟨hB151, hn155, hT152, hR153, hW154⟩ := hS145; have fr144 : zfr I J143 x := zfr.tr i2 fr144; have hk4_J143 := tKind_le (t := t) (n := n9) (p := p147); have hl4_J143 := tEndL_le (t := t) hT152.1; have hpn_J143 := hT152.1; have := hW154.ng.1; have := hW154.nc.1
              refine zr_istore3 X (by decide) rfl dX6_readSetup_63 ?_
              refine zr_goto (tgt := 154) X dX6_readSetup_64 (by decide) ?_
              refine zr_iload3 X dX6_readSetup_154 ?_
              refine zr_if_eq (tgt := 170) X dX6_readSetup_155 (by decide) (fun h => absurd h (by decide)) (fun _ => ?_)
              refine zr_aload0 X dX6_readSetup_158 ?_
              refine zr_aload1 X dX6_readSetup_159 ?_
              refine zr_callV1 (rm9 := zrm_X6_takeSemicolon) X hnt zm_X6_62 (by decide) (by decide) (by decide) (Nat.le_of_ble_eq_true rfl) dX6_readSetup_160 ?_
              refine zp_X6_takeSemicolon (x := x) (t := t) (f := f) (n9 := n9) (p9 := p147) (S := T148) ⟨hB151, hn, hT152, hR153, hW154⟩ ?_ ?_
              · skip
                intro J156 p160 T161 hq159 fr157 hS158; obtain ⟨hB164, hn168, hT165, hR166, hW167⟩ := hS158; have fr157 : zfr I J156 x := zfr.tr fr144 fr157; have hk4_J156 := tKind_le (t := t) (n := n9) (p := p160); have hl4_J156 := tEndL_le (t := t) hT165.1; have hpn_J156 := hT165.1; have := hW167.ng.1; have := hW167.nc.1
                refine zr_if_eq (tgt := 170) X dX6_readSetup_163 (by decide) (fun h => absurd h (by decide)) (fun _ => ?_)
                refine zr_iconst (v := (1 : Int32)) X dX6_readSetup_166 (by decide) ?_
                refine zr_goto (tgt := 171) X dX6_readSetup_167 (by decide) ?_
                refine zr_istore3 X (by decide) rfl dX6_readSetup_171 ?_
                refine zr_iinc4 (v := (nI (j + 1))) X (show nI (j) + Int32.ofInt 1 = nI (j + 1) from nI_1 (j)) (by decide) rfl dX6_readSetup_172 ?_
                refine zr_goto (tgt := 10) X dX6_readSetup_175 (by decide) ?_
                have hst : pStmt t n9 pp T = .inr (p160, T161) := by simp [pStmt, pBody, hw3, hw4, hq146, hq159]
                have hgt := pStmt_gt hpn hst
                have i1b := i1
                rw [pAll_step (by omega), hst] at i1b
                exact ih (j + 1) _ _ _ i1b fr157 ⟨hB164, hn, hT165, hR166, hW167⟩ (by omega) (by omega)
              · skip
                intro J156 er162 hq159 fr157 hE163; have fr157 : zfr I J156 x := zfr.tr fr144 fr157
                refine zr_if_eq (tgt := 170) X dX6_readSetup_163 (by decide) (fun _ => ?_) (fun h => absurd h (by decide))
                refine zr_iconst (v := (0 : Int32)) X dX6_readSetup_170 (by decide) ?_
                refine zr_istore3 X (by decide) rfl dX6_readSetup_171 ?_
                refine zr_iinc4 (v := (nI (j + 1))) X (show nI (j) + Int32.ofInt 1 = nI (j + 1) from nI_1 (j)) (by decide) rfl dX6_readSetup_172 ?_
                refine zr_goto (tgt := 10) X dX6_readSetup_175 (by decide) ?_
                refine zr_iload3 X dX6_readSetup_10 ?_
                refine zr_if_eq (tgt := 178) X dX6_readSetup_11 (by decide) (fun _ => ?_) (fun h => absurd h (by decide))
                refine zr_iload3 X dX6_readSetup_178 ?_
                refine zr_zret X (by first | decide | assumption | (simp; done)) (by decide) (by decide) dX6_readSetup_179 ?_
                have hst : pStmt t n9 pp T = .inl er162 := by simp [pStmt, pBody, hw3, hw4, hq146, hq159]
                exact k2 _ er162 (by rw [← i1, pAll_step (by omega), hst]) fr157 hE163
            · skip
              intro J143 er149 hq146 fr144 hE150; have fr144 : zfr I J143 x := zfr.tr i2 fr144
              refine zr_istore3 X (by decide) rfl dX6_readSetup_63 ?_
              refine zr_goto (tgt := 154) X dX6_readSetup_64 (by decide) ?_
              refine zr_iload3 X dX6_readSetup_154 ?_
              refine zr_if_eq (tgt := 170) X dX6_readSetup_155 (by decide) (fun _ => ?_) (fun h => absurd h (by decide))
              refine zr_iconst (v := (0 : Int32)) X dX6_readSetup_170 (by decide) ?_
              refine zr_istore3 X (by decide) rfl dX6_readSetup_171 ?_
              refine zr_iinc4 (v := (nI (j + 1))) X (show nI (j) + Int32.ofInt 1 = nI (j + 1) from nI_1 (j)) (by decide) rfl dX6_readSetup_172 ?_
              refine zr_goto (tgt := 10) X dX6_readSetup_175 (by decide) ?_
              refine zr_iload3 X dX6_readSetup_10 ?_
              refine zr_if_eq (tgt := 178) X dX6_readSetup_11 (by decide) (fun _ => ?_) (fun h => absurd h (by decide))
              refine zr_iload3 X dX6_readSetup_178 ?_
              refine zr_zret X (by first | decide | assumption | (simp; done)) (by decide) (by decide) dX6_readSetup_179 ?_
              have hst : pStmt t n9 pp T = .inl er149 := by simp [pStmt, pBody, hw3, hw4, hq146]
              exact k2 _ er149 (by rw [← i1, pAll_step (by omega), hst]) fr144 hE150
          · skip
            intro hw4; have hw4 : ¬ tIsB t n9 pp wCard = true := fun z => hw4 (tIsB_iff.mp z)
            refine zr_if_eq (tgt := 67) X dX6_readSetup_54 (by decide) (fun _ => ?_) (fun h => absurd h (by decide))
            refine zr_aload1 X dX6_readSetup_67 ?_
            refine zr_ldcS X 6 rfl (by decide) dX6_readSetup_68 ?_
            refine zr_callV1 (rm9 := zrm_X3_isWord) X hnt zm_X6_23 (by decide) (by decide) (by decide) (Nat.le_of_ble_eq_true rfl) dX6_readSetup_70 ?_
            refine zp_X3_isWord (a := x + 1) (i := 6) (t := t) (n9 := n9) (p9 := pp) (by omega) hT (by decide) ?_ ?_
            · skip
              intro hw5; have hw5 : tIsB t n9 pp wList = true := tIsB_iff.mpr hw5
              refine zr_if_eq (tgt := 86) X dX6_readSetup_73 (by decide) (fun h => absurd h (by decide)) (fun _ => ?_)
              refine zr_aload0 X dX6_readSetup_76 ?_
              refine zr_aload1 X dX6_readSetup_77 ?_
              refine zr_aload2 X dX6_readSetup_78 ?_
              refine zr_callV2 (rm9 := zrm_X6_readList) X hnt zm_X6_37 (by decide) (by decide) (by decide) (Nat.le_of_ble_eq_true rfl) dX6_readSetup_79 ?_
              refine zp_X6_readList (x := x) (t := t) (f := f) (n9 := n9) (p9 := pp) (S := T) ⟨hB, hn, hT, hR, hW⟩ ?_ ?_
              · skip
                intro J169 p173 T174 hq172 fr170 hS171; obtain ⟨hB177, hn181, hT178, hR179, hW180⟩ := hS171; have fr170 : zfr I J169 x := zfr.tr i2 fr170; have hk4_J169 := tKind_le (t := t) (n := n9) (p := p173); have hl4_J169 := tEndL_le (t := t) hT178.1; have hpn_J169 := hT178.1; have := hW180.ng.1; have := hW180.nc.1
                refine zr_istore3 X (by decide) rfl dX6_readSetup_82 ?_
                refine zr_goto (tgt := 154) X dX6_readSetup_83 (by decide) ?_
                refine zr_iload3 X dX6_readSetup_154 ?_
                refine zr_if_eq (tgt := 170) X dX6_readSetup_155 (by decide) (fun h => absurd h (by decide)) (fun _ => ?_)
                refine zr_aload0 X dX6_readSetup_158 ?_
                refine zr_aload1 X dX6_readSetup_159 ?_
                refine zr_callV1 (rm9 := zrm_X6_takeSemicolon) X hnt zm_X6_62 (by decide) (by decide) (by decide) (Nat.le_of_ble_eq_true rfl) dX6_readSetup_160 ?_
                refine zp_X6_takeSemicolon (x := x) (t := t) (f := f) (n9 := n9) (p9 := p173) (S := T174) ⟨hB177, hn, hT178, hR179, hW180⟩ ?_ ?_
                · skip
                  intro J182 p186 T187 hq185 fr183 hS184; obtain ⟨hB190, hn194, hT191, hR192, hW193⟩ := hS184; have fr183 : zfr I J182 x := zfr.tr fr170 fr183; have hk4_J182 := tKind_le (t := t) (n := n9) (p := p186); have hl4_J182 := tEndL_le (t := t) hT191.1; have hpn_J182 := hT191.1; have := hW193.ng.1; have := hW193.nc.1
                  refine zr_if_eq (tgt := 170) X dX6_readSetup_163 (by decide) (fun h => absurd h (by decide)) (fun _ => ?_)
                  refine zr_iconst (v := (1 : Int32)) X dX6_readSetup_166 (by decide) ?_
                  refine zr_goto (tgt := 171) X dX6_readSetup_167 (by decide) ?_
                  refine zr_istore3 X (by decide) rfl dX6_readSetup_171 ?_
                  refine zr_iinc4 (v := (nI (j + 1))) X (show nI (j) + Int32.ofInt 1 = nI (j + 1) from nI_1 (j)) (by decide) rfl dX6_readSetup_172 ?_
                  refine zr_goto (tgt := 10) X dX6_readSetup_175 (by decide) ?_
                  have hst : pStmt t n9 pp T = .inr (p186, T187) := by simp [pStmt, pBody, hw3, hw4, hw5, hq172, hq185]
                  have hgt := pStmt_gt hpn hst
                  have i1b := i1
                  rw [pAll_step (by omega), hst] at i1b
                  exact ih (j + 1) _ _ _ i1b fr183 ⟨hB190, hn, hT191, hR192, hW193⟩ (by omega) (by omega)
                · skip
                  intro J182 er188 hq185 fr183 hE189; have fr183 : zfr I J182 x := zfr.tr fr170 fr183
                  refine zr_if_eq (tgt := 170) X dX6_readSetup_163 (by decide) (fun _ => ?_) (fun h => absurd h (by decide))
                  refine zr_iconst (v := (0 : Int32)) X dX6_readSetup_170 (by decide) ?_
                  refine zr_istore3 X (by decide) rfl dX6_readSetup_171 ?_
                  refine zr_iinc4 (v := (nI (j + 1))) X (show nI (j) + Int32.ofInt 1 = nI (j + 1) from nI_1 (j)) (by decide) rfl dX6_readSetup_172 ?_
                  refine zr_goto (tgt := 10) X dX6_readSetup_175 (by decide) ?_
                  refine zr_iload3 X dX6_readSetup_10 ?_
                  refine zr_if_eq (tgt := 178) X dX6_readSetup_11 (by decide) (fun _ => ?_) (fun h => absurd h (by decide))
                  refine zr_iload3 X dX6_readSetup_178 ?_
                  refine zr_zret X (by first | decide | assumption | (simp; done)) (by decide) (by decide) dX6_readSetup_179 ?_
                  have hst : pStmt t n9 pp T = .inl er188 := by simp [pStmt, pBody, hw3, hw4, hw5, hq172, hq185]
                  exact k2 _ er188 (by rw [← i1, pAll_step (by omega), hst]) fr183 hE189
              · skip
                intro J169 er175 hq172 fr170 hE176; have fr170 : zfr I J169 x := zfr.tr i2 fr170
                refine zr_istore3 X (by decide) rfl dX6_readSetup_82 ?_
                refine zr_goto (tgt := 154) X dX6_readSetup_83 (by decide) ?_
                refine zr_iload3 X dX6_readSetup_154 ?_
                refine zr_if_eq (tgt := 170) X dX6_readSetup_155 (by decide) (fun _ => ?_) (fun h => absurd h (by decide))
                refine zr_iconst (v := (0 : Int32)) X dX6_readSetup_170 (by decide) ?_
                refine zr_istore3 X (by decide) rfl dX6_readSetup_171 ?_
                refine zr_iinc4 (v := (nI (j + 1))) X (show nI (j) + Int32.ofInt 1 = nI (j + 1) from nI_1 (j)) (by decide) rfl dX6_readSetup_172 ?_
                refine zr_goto (tgt := 10) X dX6_readSetup_175 (by decide) ?_
                refine zr_iload3 X dX6_readSetup_10 ?_
                refine zr_if_eq (tgt := 178) X dX6_readSetup_11 (by decide) (fun _ => ?_) (fun h => absurd h (by decide))
                refine zr_iload3 X dX6_readSetup_178 ?_
                refine zr_zret X (by first | decide | assumption | (simp; done)) (by decide) (by decide) dX6_readSetup_179 ?_
                have hst : pStmt t n9 pp T = .inl er175 := by simp [pStmt, pBody, hw3, hw4, hw5, hq172]
                exact k2 _ er175 (by rw [← i1, pAll_step (by omega), hst]) fr170 hE176
            · skip
              intro hw5; have hw5 : ¬ tIsB t n9 pp wList = true := fun z => hw5 (tIsB_iff.mp z)
              refine zr_if_eq (tgt := 86) X dX6_readSetup_73 (by decide) (fun _ => ?_) (fun h => absurd h (by decide))
              refine zr_aload1 X dX6_readSetup_86 ?_
              refine zr_ldcS X 7 rfl (by decide) dX6_readSetup_87 ?_
              refine zr_callV1 (rm9 := zrm_X3_isWord) X hnt zm_X6_23 (by decide) (by decide) (by decide) (Nat.le_of_ble_eq_true rfl) dX6_readSetup_89 ?_
              refine zp_X3_isWord (a := x + 1) (i := 7) (t := t) (n9 := n9) (p9 := pp) (by omega) hT (by decide) ?_ ?_
              · skip
                intro hw6; have hw6 : tIsB t n9 pp wWait = true := tIsB_iff.mpr hw6
                refine zr_if_eq (tgt := 105) X dX6_readSetup_92 (by decide) (fun h => absurd h (by decide)) (fun _ => ?_)
                refine zr_aload0 X dX6_readSetup_95 ?_
                refine zr_aload1 X dX6_readSetup_96 ?_
                refine zr_aload2 X dX6_readSetup_97 ?_
                refine zr_callV2 (rm9 := zrm_X6_readWait) X hnt zm_X6_42 (by decide) (by decide) (by decide) (Nat.le_of_ble_eq_true rfl) dX6_readSetup_98 ?_
                refine zp_X6_readWait (x := x) (t := t) (f := f) (n9 := n9) (p9 := pp) (S := T) ⟨hB, hn, hT, hR, hW⟩ ?_ ?_
                · skip
                  intro J195 p199 T200 hq198 fr196 hS197; obtain ⟨hB203, hn207, hT204, hR205, hW206⟩ := hS197; have fr196 : zfr I J195 x := zfr.tr i2 fr196; have hk4_J195 := tKind_le (t := t) (n := n9) (p := p199); have hl4_J195 := tEndL_le (t := t) hT204.1; have hpn_J195 := hT204.1; have := hW206.ng.1; have := hW206.nc.1
                  refine zr_istore3 X (by decide) rfl dX6_readSetup_101 ?_
                  refine zr_goto (tgt := 154) X dX6_readSetup_102 (by decide) ?_
                  refine zr_iload3 X dX6_readSetup_154 ?_
                  refine zr_if_eq (tgt := 170) X dX6_readSetup_155 (by decide) (fun h => absurd h (by decide)) (fun _ => ?_)
                  refine zr_aload0 X dX6_readSetup_158 ?_
                  refine zr_aload1 X dX6_readSetup_159 ?_
                  refine zr_callV1 (rm9 := zrm_X6_takeSemicolon) X hnt zm_X6_62 (by decide) (by decide) (by decide) (Nat.le_of_ble_eq_true rfl) dX6_readSetup_160 ?_
                  refine zp_X6_takeSemicolon (x := x) (t := t) (f := f) (n9 := n9) (p9 := p199) (S := T200) ⟨hB203, hn, hT204, hR205, hW206⟩ ?_ ?_
                  · skip
                    intro J208 p212 T213 hq211 fr209 hS210; obtain ⟨hB216, hn220, hT217, hR218, hW219⟩ := hS210; have fr209 : zfr I J208 x := zfr.tr fr196 fr209; have hk4_J208 := tKind_le (t := t) (n := n9) (p := p212); have hl4_J208 := tEndL_le (t := t) hT217.1; have hpn_J208 := hT217.1; have := hW219.ng.1; have := hW219.nc.1
                    refine zr_if_eq (tgt := 170) X dX6_readSetup_163 (by decide) (fun h => absurd h (by decide)) (fun _ => ?_)
                    refine zr_iconst (v := (1 : Int32)) X dX6_readSetup_166 (by decide) ?_
                    refine zr_goto (tgt := 171) X dX6_readSetup_167 (by decide) ?_
                    refine zr_istore3 X (by decide) rfl dX6_readSetup_171 ?_
                    refine zr_iinc4 (v := (nI (j + 1))) X (show nI (j) + Int32.ofInt 1 = nI (j + 1) from nI_1 (j)) (by decide) rfl dX6_readSetup_172 ?_
                    refine zr_goto (tgt := 10) X dX6_readSetup_175 (by decide) ?_
                    have hst : pStmt t n9 pp T = .inr (p212, T213) := by simp [pStmt, pBody, hw3, hw4, hw5, hw6, hq198, hq211]
                    have hgt := pStmt_gt hpn hst
                    have i1b := i1
                    rw [pAll_step (by omega), hst] at i1b
                    exact ih (j + 1) _ _ _ i1b fr209 ⟨hB216, hn, hT217, hR218, hW219⟩ (by omega) (by omega)
                  · skip
                    intro J208 er214 hq211 fr209 hE215; have fr209 : zfr I J208 x := zfr.tr fr196 fr209
                    refine zr_if_eq (tgt := 170) X dX6_readSetup_163 (by decide) (fun _ => ?_) (fun h => absurd h (by decide))
                    refine zr_iconst (v := (0 : Int32)) X dX6_readSetup_170 (by decide) ?_
                    refine zr_istore3 X (by decide) rfl dX6_readSetup_171 ?_
                    refine zr_iinc4 (v := (nI (j + 1))) X (show nI (j) + Int32.ofInt 1 = nI (j + 1) from nI_1 (j)) (by decide) rfl dX6_readSetup_172 ?_
                    refine zr_goto (tgt := 10) X dX6_readSetup_175 (by decide) ?_
                    refine zr_iload3 X dX6_readSetup_10 ?_
                    refine zr_if_eq (tgt := 178) X dX6_readSetup_11 (by decide) (fun _ => ?_) (fun h => absurd h (by decide))
                    refine zr_iload3 X dX6_readSetup_178 ?_
                    refine zr_zret X (by first | decide | assumption | (simp; done)) (by decide) (by decide) dX6_readSetup_179 ?_
                    have hst : pStmt t n9 pp T = .inl er214 := by simp [pStmt, pBody, hw3, hw4, hw5, hw6, hq198, hq211]
                    exact k2 _ er214 (by rw [← i1, pAll_step (by omega), hst]) fr209 hE215
                · skip
                  intro J195 er201 hq198 fr196 hE202; have fr196 : zfr I J195 x := zfr.tr i2 fr196
                  refine zr_istore3 X (by decide) rfl dX6_readSetup_101 ?_
                  refine zr_goto (tgt := 154) X dX6_readSetup_102 (by decide) ?_
                  refine zr_iload3 X dX6_readSetup_154 ?_
                  refine zr_if_eq (tgt := 170) X dX6_readSetup_155 (by decide) (fun _ => ?_) (fun h => absurd h (by decide))
                  refine zr_iconst (v := (0 : Int32)) X dX6_readSetup_170 (by decide) ?_
                  refine zr_istore3 X (by decide) rfl dX6_readSetup_171 ?_
                  refine zr_iinc4 (v := (nI (j + 1))) X (show nI (j) + Int32.ofInt 1 = nI (j + 1) from nI_1 (j)) (by decide) rfl dX6_readSetup_172 ?_
                  refine zr_goto (tgt := 10) X dX6_readSetup_175 (by decide) ?_
                  refine zr_iload3 X dX6_readSetup_10 ?_
                  refine zr_if_eq (tgt := 178) X dX6_readSetup_11 (by decide) (fun _ => ?_) (fun h => absurd h (by decide))
                  refine zr_iload3 X dX6_readSetup_178 ?_
                  refine zr_zret X (by first | decide | assumption | (simp; done)) (by decide) (by decide) dX6_readSetup_179 ?_
                  have hst : pStmt t n9 pp T = .inl er201 := by simp [pStmt, pBody, hw3, hw4, hw5, hw6, hq198]
                  exact k2 _ er201 (by rw [← i1, pAll_step (by omega), hst]) fr196 hE202
              · skip
                intro hw6; have hw6 : ¬ tIsB t n9 pp wWait = true := fun z => hw6 (tIsB_iff.mp z)
                refine zr_if_eq (tgt := 105) X dX6_readSetup_92 (by decide) (fun _ => ?_) (fun h => absurd h (by decide))
                refine zr_aload1 X dX6_readSetup_105 ?_
                refine zr_ldcS X 8 rfl (by decide) dX6_readSetup_106 ?_
                refine zr_callV1 (rm9 := zrm_X3_isWord) X hnt zm_X6_23 (by decide) (by decide) (by decide) (Nat.le_of_ble_eq_true rfl) dX6_readSetup_108 ?_
                refine zp_X3_isWord (a := x + 1) (i := 8) (t := t) (n9 := n9) (p9 := pp) (by omega) hT (by decide) ?_ ?_
                · skip
                  intro hw7; have hw7 : tIsB t n9 pp wTick = true := tIsB_iff.mpr hw7
                  refine zr_if_eq (tgt := 124) X dX6_readSetup_111 (by decide) (fun h => absurd h (by decide)) (fun _ => ?_)
                  refine zr_aload0 X dX6_readSetup_114 ?_
                  refine zr_aload1 X dX6_readSetup_115 ?_
                  refine zr_aload2 X dX6_readSetup_116 ?_
                  refine zr_callV2 (rm9 := zrm_X6_readTick) X hnt zm_X6_47 (by decide) (by decide) (by decide) (Nat.le_of_ble_eq_true rfl) dX6_readSetup_117 ?_
                  refine zp_X6_readTick (x := x) (t := t) (f := f) (n9 := n9) (p9 := pp) (S := T) ⟨hB, hn, hT, hR, hW⟩ ?_ ?_
                  · skip
                    intro J221 p225 T226 hq224 fr222 hS223; obtain ⟨hB229, hn233, hT230, hR231, hW232⟩ := hS223; have fr222 : zfr I J221 x := zfr.tr i2 fr222; have hk4_J221 := tKind_le (t := t) (n := n9) (p := p225); have hl4_J221 := tEndL_le (t := t) hT230.1; have hpn_J221 := hT230.1; have := hW232.ng.1; have := hW232.nc.1
                    refine zr_istore3 X (by decide) rfl dX6_readSetup_120 ?_
                    refine zr_goto (tgt := 154) X dX6_readSetup_121 (by decide) ?_
                    refine zr_iload3 X dX6_readSetup_154 ?_
                    refine zr_if_eq (tgt := 170) X dX6_readSetup_155 (by decide) (fun h => absurd h (by decide)) (fun _ => ?_)
                    refine zr_aload0 X dX6_readSetup_158 ?_
                    refine zr_aload1 X dX6_readSetup_159 ?_
                    refine zr_callV1 (rm9 := zrm_X6_takeSemicolon) X hnt zm_X6_62 (by decide) (by decide) (by decide) (Nat.le_of_ble_eq_true rfl) dX6_readSetup_160 ?_
                    refine zp_X6_takeSemicolon (x := x) (t := t) (f := f) (n9 := n9) (p9 := p225) (S := T226) ⟨hB229, hn, hT230, hR231, hW232⟩ ?_ ?_
                    · skip
                      intro J234 p238 T239 hq237 fr235 hS236; obtain ⟨hB242, hn246, hT243, hR244, hW245⟩ := hS236; have fr235 : zfr I J234 x := zfr.tr fr222 fr235; have hk4_J234 := tKind_le (t := t) (n := n9) (p := p238); have hl4_J234 := tEndL_le (t := t) hT243.1; have hpn_J234 := hT243.1; have := hW245.ng.1; have := hW245.nc.1
                      refine zr_if_eq (tgt := 170) X dX6_readSetup_163 (by decide) (fun h => absurd h (by decide)) (fun _ => ?_)
                      refine zr_iconst (v := (1 : Int32)) X dX6_readSetup_166 (by decide) ?_
                      refine zr_goto (tgt := 171) X dX6_readSetup_167 (by decide) ?_
                      refine zr_istore3 X (by decide) rfl dX6_readSetup_171 ?_
                      refine zr_iinc4 (v := (nI (j + 1))) X (show nI (j) + Int32.ofInt 1 = nI (j + 1) from nI_1 (j)) (by decide) rfl dX6_readSetup_172 ?_
                      refine zr_goto (tgt := 10) X dX6_readSetup_175 (by decide) ?_
                      have hst : pStmt t n9 pp T = .inr (p238, T239) := by simp [pStmt, pBody, hw3, hw4, hw5, hw6, hw7, hq224, hq237]
                      have hgt := pStmt_gt hpn hst
                      have i1b := i1
                      rw [pAll_step (by omega), hst] at i1b
                      exact ih (j + 1) _ _ _ i1b fr235 ⟨hB242, hn, hT243, hR244, hW245⟩ (by omega) (by omega)
                    · skip
                      intro J234 er240 hq237 fr235 hE241; have fr235 : zfr I J234 x := zfr.tr fr222 fr235
                      refine zr_if_eq (tgt := 170) X dX6_readSetup_163 (by decide) (fun _ => ?_) (fun h => absurd h (by decide))
                      refine zr_iconst (v := (0 : Int32)) X dX6_readSetup_170 (by decide) ?_
                      refine zr_istore3 X (by decide) rfl dX6_readSetup_171 ?_
                      refine zr_iinc4 (v := (nI (j + 1))) X (show nI (j) + Int32.ofInt 1 = nI (j + 1) from nI_1 (j)) (by decide) rfl dX6_readSetup_172 ?_
                      refine zr_goto (tgt := 10) X dX6_readSetup_175 (by decide) ?_
                      refine zr_iload3 X dX6_readSetup_10 ?_
                      refine zr_if_eq (tgt := 178) X dX6_readSetup_11 (by decide) (fun _ => ?_) (fun h => absurd h (by decide))
                      refine zr_iload3 X dX6_readSetup_178 ?_
                      refine zr_zret X (by first | decide | assumption | (simp; done)) (by decide) (by decide) dX6_readSetup_179 ?_
                      have hst : pStmt t n9 pp T = .inl er240 := by simp [pStmt, pBody, hw3, hw4, hw5, hw6, hw7, hq224, hq237]
                      exact k2 _ er240 (by rw [← i1, pAll_step (by omega), hst]) fr235 hE241
                  · skip
                    intro J221 er227 hq224 fr222 hE228; have fr222 : zfr I J221 x := zfr.tr i2 fr222
                    refine zr_istore3 X (by decide) rfl dX6_readSetup_120 ?_
                    refine zr_goto (tgt := 154) X dX6_readSetup_121 (by decide) ?_
                    refine zr_iload3 X dX6_readSetup_154 ?_
                    refine zr_if_eq (tgt := 170) X dX6_readSetup_155 (by decide) (fun _ => ?_) (fun h => absurd h (by decide))
                    refine zr_iconst (v := (0 : Int32)) X dX6_readSetup_170 (by decide) ?_
                    refine zr_istore3 X (by decide) rfl dX6_readSetup_171 ?_
                    refine zr_iinc4 (v := (nI (j + 1))) X (show nI (j) + Int32.ofInt 1 = nI (j + 1) from nI_1 (j)) (by decide) rfl dX6_readSetup_172 ?_
                    refine zr_goto (tgt := 10) X dX6_readSetup_175 (by decide) ?_
                    refine zr_iload3 X dX6_readSetup_10 ?_
                    refine zr_if_eq (tgt := 178) X dX6_readSetup_11 (by decide) (fun _ => ?_) (fun h => absurd h (by decide))
                    refine zr_iload3 X dX6_readSetup_178 ?_
                    refine zr_zret X (by first | decide | assumption | (simp; done)) (by decide) (by decide) dX6_readSetup_179 ?_
                    have hst : pStmt t n9 pp T = .inl er227 := by simp [pStmt, pBody, hw3, hw4, hw5, hw6, hw7, hq224]
                    exact k2 _ er227 (by rw [← i1, pAll_step (by omega), hst]) fr222 hE228
                · skip
                  intro hw7; have hw7 : ¬ tIsB t n9 pp wTick = true := fun z => hw7 (tIsB_iff.mp z)
                  refine zr_if_eq (tgt := 124) X dX6_readSetup_111 (by decide) (fun _ => ?_) (fun h => absurd h (by decide))
                  refine zr_aload1 X dX6_readSetup_124 ?_
                  refine zr_ldcS X 9 rfl (by decide) dX6_readSetup_125 ?_
                  refine zr_callV1 (rm9 := zrm_X3_isWord) X hnt zm_X6_23 (by decide) (by decide) (by decide) (Nat.le_of_ble_eq_true rfl) dX6_readSetup_127 ?_
                  refine zp_X3_isWord (a := x + 1) (i := 9) (t := t) (n9 := n9) (p9 := pp) (by omega) hT (by decide) ?_ ?_
                  · skip
                    intro hw8; have hw8 : tIsB t n9 pp wKey = true := tIsB_iff.mpr hw8
                    refine zr_if_eq (tgt := 143) X dX6_readSetup_130 (by decide) (fun h => absurd h (by decide)) (fun _ => ?_)
                    refine zr_aload0 X dX6_readSetup_133 ?_
                    refine zr_aload1 X dX6_readSetup_134 ?_
                    refine zr_aload2 X dX6_readSetup_135 ?_
                    refine zr_callV2 (rm9 := zrm_X6_readKey) X hnt zm_X6_52 (by decide) (by decide) (by decide) (Nat.le_of_ble_eq_true rfl) dX6_readSetup_136 ?_
                    refine zp_X6_readKey (x := x) (t := t) (f := f) (n9 := n9) (p9 := pp) (S := T) ⟨hB, hn, hT, hR, hW⟩ ?_ ?_
                    · skip
                      intro J247 p251 T252 hq250 fr248 hS249; obtain ⟨hB255, hn259, hT256, hR257, hW258⟩ := hS249; have fr248 : zfr I J247 x := zfr.tr i2 fr248; have hk4_J247 := tKind_le (t := t) (n := n9) (p := p251); have hl4_J247 := tEndL_le (t := t) hT256.1; have hpn_J247 := hT256.1; have := hW258.ng.1; have := hW258.nc.1
                      refine zr_istore3 X (by decide) rfl dX6_readSetup_139 ?_
                      refine zr_goto (tgt := 154) X dX6_readSetup_140 (by decide) ?_
                      refine zr_iload3 X dX6_readSetup_154 ?_
                      refine zr_if_eq (tgt := 170) X dX6_readSetup_155 (by decide) (fun h => absurd h (by decide)) (fun _ => ?_)
                      refine zr_aload0 X dX6_readSetup_158 ?_
                      refine zr_aload1 X dX6_readSetup_159 ?_
                      refine zr_callV1 (rm9 := zrm_X6_takeSemicolon) X hnt zm_X6_62 (by decide) (by decide) (by decide) (Nat.le_of_ble_eq_true rfl) dX6_readSetup_160 ?_
                      refine zp_X6_takeSemicolon (x := x) (t := t) (f := f) (n9 := n9) (p9 := p251) (S := T252) ⟨hB255, hn, hT256, hR257, hW258⟩ ?_ ?_
                      · skip
                        intro J260 p264 T265 hq263 fr261 hS262; obtain ⟨hB268, hn272, hT269, hR270, hW271⟩ := hS262; have fr261 : zfr I J260 x := zfr.tr fr248 fr261; have hk4_J260 := tKind_le (t := t) (n := n9) (p := p264); have hl4_J260 := tEndL_le (t := t) hT269.1; have hpn_J260 := hT269.1; have := hW271.ng.1; have := hW271.nc.1
                        refine zr_if_eq (tgt := 170) X dX6_readSetup_163 (by decide) (fun h => absurd h (by decide)) (fun _ => ?_)
                        refine zr_iconst (v := (1 : Int32)) X dX6_readSetup_166 (by decide) ?_
                        refine zr_goto (tgt := 171) X dX6_readSetup_167 (by decide) ?_
                        refine zr_istore3 X (by decide) rfl dX6_readSetup_171 ?_
                        refine zr_iinc4 (v := (nI (j + 1))) X (show nI (j) + Int32.ofInt 1 = nI (j + 1) from nI_1 (j)) (by decide) rfl dX6_readSetup_172 ?_
                        refine zr_goto (tgt := 10) X dX6_readSetup_175 (by decide) ?_
                        have hst : pStmt t n9 pp T = .inr (p264, T265) := by simp [pStmt, pBody, hw3, hw4, hw5, hw6, hw7, hw8, hq250, hq263]
                        have hgt := pStmt_gt hpn hst
                        have i1b := i1
                        rw [pAll_step (by omega), hst] at i1b
                        exact ih (j + 1) _ _ _ i1b fr261 ⟨hB268, hn, hT269, hR270, hW271⟩ (by omega) (by omega)
                      · skip
                        intro J260 er266 hq263 fr261 hE267; have fr261 : zfr I J260 x := zfr.tr fr248 fr261
                        refine zr_if_eq (tgt := 170) X dX6_readSetup_163 (by decide) (fun _ => ?_) (fun h => absurd h (by decide))
                        refine zr_iconst (v := (0 : Int32)) X dX6_readSetup_170 (by decide) ?_
                        refine zr_istore3 X (by decide) rfl dX6_readSetup_171 ?_
                        refine zr_iinc4 (v := (nI (j + 1))) X (show nI (j) + Int32.ofInt 1 = nI (j + 1) from nI_1 (j)) (by decide) rfl dX6_readSetup_172 ?_
                        refine zr_goto (tgt := 10) X dX6_readSetup_175 (by decide) ?_
                        refine zr_iload3 X dX6_readSetup_10 ?_
                        refine zr_if_eq (tgt := 178) X dX6_readSetup_11 (by decide) (fun _ => ?_) (fun h => absurd h (by decide))
                        refine zr_iload3 X dX6_readSetup_178 ?_
                        refine zr_zret X (by first | decide | assumption | (simp; done)) (by decide) (by decide) dX6_readSetup_179 ?_
                        have hst : pStmt t n9 pp T = .inl er266 := by simp [pStmt, pBody, hw3, hw4, hw5, hw6, hw7, hw8, hq250, hq263]
                        exact k2 _ er266 (by rw [← i1, pAll_step (by omega), hst]) fr261 hE267
                    · skip
                      intro J247 er253 hq250 fr248 hE254; have fr248 : zfr I J247 x := zfr.tr i2 fr248
                      refine zr_istore3 X (by decide) rfl dX6_readSetup_139 ?_
                      refine zr_goto (tgt := 154) X dX6_readSetup_140 (by decide) ?_
                      refine zr_iload3 X dX6_readSetup_154 ?_
                      refine zr_if_eq (tgt := 170) X dX6_readSetup_155 (by decide) (fun _ => ?_) (fun h => absurd h (by decide))
                      refine zr_iconst (v := (0 : Int32)) X dX6_readSetup_170 (by decide) ?_
                      refine zr_istore3 X (by decide) rfl dX6_readSetup_171 ?_
                      refine zr_iinc4 (v := (nI (j + 1))) X (show nI (j) + Int32.ofInt 1 = nI (j + 1) from nI_1 (j)) (by decide) rfl dX6_readSetup_172 ?_
                      refine zr_goto (tgt := 10) X dX6_readSetup_175 (by decide) ?_
                      refine zr_iload3 X dX6_readSetup_10 ?_
                      refine zr_if_eq (tgt := 178) X dX6_readSetup_11 (by decide) (fun _ => ?_) (fun h => absurd h (by decide))
                      refine zr_iload3 X dX6_readSetup_178 ?_
                      refine zr_zret X (by first | decide | assumption | (simp; done)) (by decide) (by decide) dX6_readSetup_179 ?_
                      have hst : pStmt t n9 pp T = .inl er253 := by simp [pStmt, pBody, hw3, hw4, hw5, hw6, hw7, hw8, hq250]
                      exact k2 _ er253 (by rw [← i1, pAll_step (by omega), hst]) fr248 hE254
                  · skip
                    intro hw8; have hw8 : ¬ tIsB t n9 pp wKey = true := fun z => hw8 (tIsB_iff.mp z)
                    refine zr_if_eq (tgt := 143) X dX6_readSetup_130 (by decide) (fun _ => ?_) (fun h => absurd h (by decide))
                    refine zr_aload0 X dX6_readSetup_143 ?_
                    refine zr_bipush (v := (-2 : Int32)) X dX6_readSetup_144 (by decide) ?_
                    refine zr_aload1 X dX6_readSetup_146 ?_
                    refine zr_getI X zf_X6_55 rfl dX6_readSetup_147 ?_
                    refine zr_eq (x2 := (nI pp)) (hT.2.2.1) ?_
                    refine zr_callV2 (rm9 := zrm_X6_fail) X hnt zm_X6_58 (by decide) (by decide) (by decide) (Nat.le_of_ble_eq_true rfl) dX6_readSetup_150 ?_
                    refine zp_X6_fail ?_
                    refine zr_istore3 X (by decide) rfl dX6_readSetup_153 ?_
                    refine zr_iload3 X dX6_readSetup_154 ?_
                    refine zr_if_eq (tgt := 170) X dX6_readSetup_155 (by decide) (fun _ => ?_) (fun h => absurd h (by decide))
                    refine zr_iconst (v := (0 : Int32)) X dX6_readSetup_170 (by decide) ?_
                    refine zr_istore3 X (by decide) rfl dX6_readSetup_171 ?_
                    refine zr_iinc4 (v := (nI (j + 1))) X (show nI (j) + Int32.ofInt 1 = nI (j + 1) from nI_1 (j)) (by decide) rfl dX6_readSetup_172 ?_
                    refine zr_goto (tgt := 10) X dX6_readSetup_175 (by decide) ?_
                    refine zr_iload3 X dX6_readSetup_10 ?_
                    refine zr_if_eq (tgt := 178) X dX6_readSetup_11 (by decide) (fun _ => ?_) (fun h => absurd h (by decide))
                    refine zr_iload3 X dX6_readSetup_178 ?_
                    refine zr_zret X (by first | decide | assumption | (simp; done)) (by decide) (by decide) dX6_readSetup_179 ?_
                    have hst : pStmt t n9 pp T = .inl (-2, pp) := by simp [pStmt, pBody, hw3, hw4, hw5, hw6, hw7, hw8]
                    exact k2 _ _ (by rw [← i1, pAll_step (by omega), hst]) (zfr.er i2) (zEr.mk hB)
set_option maxRecDepth 20000 in
theorem zp_X6_readSetup {l : Launch} {D : va_G} {b0 : Nat} {tA : Nat → ClassId} {sa sv : Nat → Nat} {K : Nat → Option Nat} {I : zI} {Qp : zI → Option AV → Prop} {Xp : String → zI → Prop} {x f n9 p9 : Nat} {t : Nat → Nat} {S : zS} {RES : zRs}
    (hS : zPs I x t f n9 p9 S) (hRES : (match pHead t n9 p9 S with | .inl e => .inl e | .inr q => pAll t n9 (n9 - q.1) q.1 q.2) = RES) (k1 : ∀ (J : zI) (p2 : Nat) (S2 : zS), RES = .inr (p2, S2) → zfr I J x → zPs J x t f n9 p2 S2 → Qp J (some (vi 1))) (k2 : ∀ (J : zI) (er : Int32 × Nat), RES = .inl er → zfr I J x → zEr J x t f er → Qp J (some (vi 0))) :
    zC l D b0 tA sa sv K yX6_readSetup (.code yX6_readSetup cX6_readSetup 5 (some .boolean)) zrm_X6_readSetup [vr (x + 3) 6, vr (x + 1) 3, vr (x + 94) 5] I Qp Xp := by
  obtain ⟨hB, hn, hT, hR, hW⟩ := hS
  have hf5 := hB.2.1
  have hpn := hT.1
  have hk4 := tKind_le (t := t) (n := n9) (p := p9)
  have hl4 := tEndL_le (t := t) hT.1
  have hg6 := hW.ng.1
  have hc12 := hW.nc.1
  refine zC_of (by decide +kernel) (Nat.le_of_ble_eq_true rfl) ?_
  intro p e s m args below meth c X hnt
  have X : zX p l e zrm_X6_readSetup s m args below meth c RX6 cX6_readSetup 5 (some .boolean) D b0 tA sa sv := X
  refine zr_lv (lv2 := [some (vr (x + 3) 6), some (vr (x + 1) 3), some (vr (x + 94) 5), none, none]) rfl ?_
  refine zr_aload0 X dX6_readSetup_0 ?_
  refine zr_aload1 X dX6_readSetup_1 ?_
  refine zr_aload2 X dX6_readSetup_2 ?_
  refine zr_callV2 (rm9 := zrm_X6_readHead) X hnt zm_X6_9 (by decide) (by decide) (by decide) (Nat.le_of_ble_eq_true rfl) dX6_readSetup_3 ?_
  refine zp_X6_readHead (x := x) (t := t) (f := f) (n9 := n9) (p9 := p9) (S := S) ⟨hB, hn, hT, hR, hW⟩ ?_ ?_
  · skip
    intro J273 p277 T278 hq276 fr274 hS275; obtain ⟨hB281, hn285, hT282, hR283, hW284⟩ := hS275; have fr274 : zfr I J273 x := zfr.tr zfr.rf fr274; have hk4_J273 := tKind_le (t := t) (n := n9) (p := p277); have hl4_J273 := tEndL_le (t := t) hT282.1; have hpn_J273 := hT282.1; have := hW284.ng.1; have := hW284.nc.1
    refine zr_istore3 X (by decide) rfl dX6_readSetup_6 ?_
    refine zr_iconst (v := (0 : Int32)) X dX6_readSetup_7 (by decide) ?_
    refine zr_istore4 X (by decide) rfl dX6_readSetup_8 ?_
    exact zl_X6_readSetup (RES := RES) X hnt hf5 k1 k2 (n9 + 1) 0 p277 T278 _ (by rw [← hRES, hq276]) fr274 ⟨hB281, hn, hT282, hR283, hW284⟩ (by omega) (by omega)
  · skip
    intro J273 er279 hq276 fr274 hE280; have fr274 : zfr I J273 x := zfr.tr zfr.rf fr274
    refine zr_istore3 X (by decide) rfl dX6_readSetup_6 ?_
    refine zr_iconst (v := (0 : Int32)) X dX6_readSetup_7 (by decide) ?_
    refine zr_istore4 X (by decide) rfl dX6_readSetup_8 ?_
    refine zr_iload3 X dX6_readSetup_10 ?_
    refine zr_if_eq (tgt := 178) X dX6_readSetup_11 (by decide) (fun _ => ?_) (fun h => absurd h (by decide))
    refine zr_iload3 X dX6_readSetup_178 ?_
    refine zr_zret X (by first | decide | assumption | (simp; done)) (by decide) (by decide) dX6_readSetup_179 ?_
    exact k2 _ er279 (by rw [← hRES, hq276]) fr274 hE280
