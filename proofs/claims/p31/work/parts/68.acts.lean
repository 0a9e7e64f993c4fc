/-! ===== a random act ===== -/
abbrev zrm_L_act : Room := { frames := 11, cells := 23, slots := 138, locals := 194 }
set_option maxRecDepth 20000 in
theorem za88_0 {l : Launch} {D : va_G} {b0 : Nat} {tA : Nat → ClassId} {sa sv : Nat → Nat} {K : zKt} {I : zI} {Qp : zI → Option AV → Prop} {Xp : String → zI → Prop} {p : Program} {e : Env} {s : State} {m : MethodId} {args : Array Value} {below : List Frame} {meth : Method} {c : Code} {x r f g c9 : Nat} {t : Nat → Nat} {er : Int32} {S : zS} {U : List zS} {A : Nat → Nat} {n7 m7 : Nat}
    (X : zX p l e zrm_L_act s m args below meth c RL cL_act 18 (some .int) D b0 tA sa sv) (hnt : ∀ x ∈ c.exceptionTable.toList, False) (hS : zSh K A n7 m7) (hE : zEn x r A n7 m7) (hw : zWd I x t f er S U A n7 m7 S) (hG : zGp S) (hg : g < n7) (hc : c9 < m7) (k1 : ∀ (J : zI) (S2 : zS), zWd J x t f er S2 (qPush S U) A n7 m7 S2 → zGp S2 → zfa I J x r A n7 m7 → Qp J (some (vi 1))) (k2 : ∀ J : zI, zWd J x t f er S U A n7 m7 S → zfa I J x r A n7 m7 → Qp J (some (vi 2))) :
    zG p l e zrm_L_act s m args below meth c 18 D b0 tA sa 0 0 (zQ below D b0 tA sa K args s zrm_L_act Qp Xp) K 88 [some (vr (x) 7), some (vr (A (0)) 17), some (vr (r) 16), some (vi ((nI g))), some (vi ((nI c9))), some (vi ((0 : Int32))), none, none, none, none, none, none, none, none, none, none, none, none] [] I := by
  have hA := hS.1
  have hM := hw.2
  have hW := hw.1.2.2.2.1
  have hn6 := hM.1.1
  have hm12 := hM.1.2
  have hgn := hM.ng
  have hcm := hM.nc
  have hlen := hW.len
  have hl0 := hlen g 0
  have hl1 := hlen g 1
  refine zr_aload2 X dL_act_88 ?_
  refine zr_iconst (v := (3 : Int32)) X dL_act_89 (by decide) ?_
  refine zr_callVQ (rm9 := zrm_X11_below) (As := [vi ((3 : Int32))]) (st := []) X zm_L_118 rfl rfl ⟨by decide, Nat.le_of_ble_eq_true rfl⟩ ⟨by decide, by decide⟩ (Nat.le_of_ble_eq_true rfl) dL_act_90 ?_
  refine zw_X11_below (b := 3) hE hw (by omega) (by omega) (fun J1 v1 hv2 hw2 hf3 => ?_)
  refine zr_nif_ne X (v1) (tgt := 100) (by omega) dL_act_93 (by decide) (fun h3 => ?_) (fun h3 => ?_)
  · skip
    refine zr_iload4 X dL_act_100 ?_
    refine zr_istore6 X (by decide) rfl dL_act_102 ?_
    refine zr_aload1 X dL_act_104 ?_
    refine zr_getD (r := A (1)) X zf_L_146 rfl (by decide) (hS.2.1.2.1) dL_act_105 ?_
    refine zr_iload3 X dL_act_108 ?_
    refine zr_aaldD (k := 20) (n := g) (r := A (4 + 5 * g)) X rfl (show _ < 6 from (by first | decide | omega)) ((hS.2.2.1 g (by omega)).1) dL_act_109 ?_
    refine zr_getI X zf_L_155 rfl dL_act_110 ?_
    refine zr_eq (x2 := (sG S g 0)) ((hw2.2.2.2.2.2.1 g (by omega)).1 0 (by decide)) ?_
    refine zr_iconst (v := (2 : Int32)) X dL_act_113 (by decide) ?_
    refine zr_icmp_ge (tgt := 138) X dL_act_114 (by decide) (fun h4 => ?_) (fun h4 => ?_)
    · skip
      refine zr_iload5 X dL_act_138 ?_
      refine zr_istore7 X (by decide) rfl dL_act_140 ?_
      refine zr_aload0 X dL_act_142 ?_
      refine zr_iload3 X dL_act_143 ?_
      refine zr_iload7 X dL_act_144 ?_
      refine zr_iload6 X dL_act_146 ?_
      refine zr_callSX (rm9 := zrm_L_join) (As := [vr (x) 7, vi ((nI g)), vi ((0 : Int32)), vi ((nI c9))]) (st := []) X zmh_L_197 rfl rfl ⟨by decide, Nat.le_of_ble_eq_true rfl⟩ ⟨by decide, by decide⟩ (Nat.le_of_ble_eq_true rfl) dL_act_148 ?_
      have hR5 : rJoin S (nI g) (0 : Int32) (nI c9) = (0, rJoin1 S g 0 (c9 + 1)) ∧ sJoin S (nI g) (0 : Int32) (nI c9) = sJoin1 S g 0 (c9 + 1) := zR_join1 (s := 0) (by omega) (by omega) (by decide) (by omega) (by omega)
      refine zL_join hw2.1 (fun J4 hJ5 => ?_)
      rw [zif_0 hR5.1, zif_0 hR5.1, hR5.2] at hJ5
      obtain ⟨hw6, hf7⟩ := zWd.cls hE hw2 hJ5
      refine zr_eq (x2 := rJoin1 S g 0 (c9 + 1)) (zcd_0 hR5.1) ?_
      refine zr_aload1 X dL_act_151 ?_
      refine zr_iload3 X dL_act_152 ?_
      refine zr_iload7 X dL_act_153 ?_
      refine zr_iload6 X dL_act_155 ?_
      refine zr_callVQ (rm9 := zrm_X12_join) (As := [vi ((nI g)), vi ((0 : Int32)), vi ((nI c9))]) (st := [vi (rJoin1 S g 0 (c9 + 1))]) X zm_L_181 rfl rfl ⟨by decide, Nat.le_of_ble_eq_true rfl⟩ ⟨by decide, by decide⟩ (Nat.le_of_ble_eq_true rfl) dL_act_157 ?_
      refine zok0_X12_join hS hw6.2 hW (by omega) (by omega) (fun J8 hg6 hM7 => ?_)
      obtain ⟨hw9, hf10⟩ := zWd.stn hE hw6 hg6 hM7
      refine zr_icmp_ne (tgt := 167) X dL_act_160 (by decide) (fun h8 => ?_) (fun h8 => ?_)
      · exact absurd rfl h8
      · skip
        refine zr_iconst (v := (1 : Int32)) X dL_act_163 (by decide) ?_
        refine zr_goto (tgt := 168) X dL_act_164 (by decide) ?_
        refine zr_iret X (by decide) (by decide) dL_act_168 ?_
        exact k1 _ _ hw9 (hG.join) (zfa.tr (zfa.tr hf3 hf7) hf10)
    · skip
      refine zr_aload2 X dL_act_117 ?_
      refine zr_bipush (v := (8 : Int32)) X dL_act_118 (by decide) ?_
      refine zr_callVQ (rm9 := zrm_X11_below) (As := [vi ((8 : Int32))]) (st := []) X zm_L_118 rfl rfl ⟨by decide, Nat.le_of_ble_eq_true rfl⟩ ⟨by decide, by decide⟩ (Nat.le_of_ble_eq_true rfl) dL_act_120 ?_
      refine zw_X11_below (b := 8) hE hw2 (by omega) (by omega) (fun J11 v9 hv10 hw12 hf13 => ?_)
      refine zr_nif_le X (v9) (tgt := 138) (by omega) dL_act_123 (by decide) (fun h11 => ?_) (fun h11 => ?_)
      · skip
        refine zr_iload5 X dL_act_138 ?_
        refine zr_istore7 X (by decide) rfl dL_act_140 ?_
        refine zr_aload0 X dL_act_142 ?_
        refine zr_iload3 X dL_act_143 ?_
        refine zr_iload7 X dL_act_144 ?_
        refine zr_iload6 X dL_act_146 ?_
        refine zr_callSX (rm9 := zrm_L_join) (As := [vr (x) 7, vi ((nI g)), vi ((0 : Int32)), vi ((nI c9))]) (st := []) X zmh_L_197 rfl rfl ⟨by decide, Nat.le_of_ble_eq_true rfl⟩ ⟨by decide, by decide⟩ (Nat.le_of_ble_eq_true rfl) dL_act_148 ?_
        have hR12 : rJoin S (nI g) (0 : Int32) (nI c9) = (0, rJoin1 S g 0 (c9 + 1)) ∧ sJoin S (nI g) (0 : Int32) (nI c9) = sJoin1 S g 0 (c9 + 1) := zR_join1 (s := 0) (by omega) (by omega) (by decide) (by omega) (by omega)
        refine zL_join hw12.1 (fun J14 hJ15 => ?_)
        rw [zif_0 hR12.1, zif_0 hR12.1, hR12.2] at hJ15
        obtain ⟨hw16, hf17⟩ := zWd.cls hE hw12 hJ15
        refine zr_eq (x2 := rJoin1 S g 0 (c9 + 1)) (zcd_0 hR12.1) ?_
        refine zr_aload1 X dL_act_151 ?_
        refine zr_iload3 X dL_act_152 ?_
        refine zr_iload7 X dL_act_153 ?_
        refine zr_iload6 X dL_act_155 ?_
        refine zr_callVQ (rm9 := zrm_X12_join) (As := [vi ((nI g)), vi ((0 : Int32)), vi ((nI c9))]) (st := [vi (rJoin1 S g 0 (c9 + 1))]) X zm_L_181 rfl rfl ⟨by decide, Nat.le_of_ble_eq_true rfl⟩ ⟨by decide, by decide⟩ (Nat.le_of_ble_eq_true rfl) dL_act_157 ?_
        refine zok0_X12_join hS hw16.2 hW (by omega) (by omega) (fun J18 hg13 hM14 => ?_)
        obtain ⟨hw19, hf20⟩ := zWd.stn hE hw16 hg13 hM14
        refine zr_icmp_ne (tgt := 167) X dL_act_160 (by decide) (fun h15 => ?_) (fun h15 => ?_)
        · exact absurd rfl h15
        · skip
          refine zr_iconst (v := (1 : Int32)) X dL_act_163 (by decide) ?_
          refine zr_goto (tgt := 168) X dL_act_164 (by decide) ?_
          refine zr_iret X (by decide) (by decide) dL_act_168 ?_
          exact k1 _ _ hw19 (hG.join) (zfa.tr (zfa.tr (zfa.tr hf3 hf13) hf17) hf20)
      · skip
        refine zr_aload1 X dL_act_126 ?_
        refine zr_getD (r := A (1)) X zf_L_146 rfl (by decide) (hS.2.1.2.1) dL_act_127 ?_
        refine zr_iload3 X dL_act_130 ?_
        refine zr_aaldD (k := 20) (n := g) (r := A (4 + 5 * g)) X rfl (show _ < 6 from (by first | decide | omega)) ((hS.2.2.1 g (by omega)).1) dL_act_131 ?_
        refine zr_getI X zf_L_155 rfl dL_act_132 ?_
        refine zr_eq (x2 := (sG S g 0)) ((hw12.2.2.2.2.2.1 g (by omega)).1 0 (by decide)) ?_
        refine zr_goto (tgt := 140) X dL_act_135 (by decide) ?_
        rcases (hW.pad g).1 with h9 | h9 | h9
        · refine zr_eq (x2 := (0 : Int32)) h9 ?_
          refine zr_istore7 X (by decide) rfl dL_act_140 ?_
          refine zr_aload0 X dL_act_142 ?_
          refine zr_iload3 X dL_act_143 ?_
          refine zr_iload7 X dL_act_144 ?_
          refine zr_iload6 X dL_act_146 ?_
          refine zr_callSX (rm9 := zrm_L_join) (As := [vr (x) 7, vi ((nI g)), vi ((0 : Int32)), vi ((nI c9))]) (st := []) X zmh_L_197 rfl rfl ⟨by decide, Nat.le_of_ble_eq_true rfl⟩ ⟨by decide, by decide⟩ (Nat.le_of_ble_eq_true rfl) dL_act_148 ?_
          have hR16 : rJoin S (nI g) (0 : Int32) (nI c9) = (0, rJoin1 S g 0 (c9 + 1)) ∧ sJoin S (nI g) (0 : Int32) (nI c9) = sJoin1 S g 0 (c9 + 1) := zR_join1 (s := 0) (by omega) (by omega) (by decide) (by omega) (by omega)
          refine zL_join hw12.1 (fun J21 hJ22 => ?_)
          rw [zif_0 hR16.1, zif_0 hR16.1, hR16.2] at hJ22
          obtain ⟨hw23, hf24⟩ := zWd.cls hE hw12 hJ22
          refine zr_eq (x2 := rJoin1 S g 0 (c9 + 1)) (zcd_0 hR16.1) ?_
          refine zr_aload1 X dL_act_151 ?_
          refine zr_iload3 X dL_act_152 ?_
          refine zr_iload7 X dL_act_153 ?_
          refine zr_iload6 X dL_act_155 ?_
          refine zr_callVQ (rm9 := zrm_X12_join) (As := [vi ((nI g)), vi ((0 : Int32)), vi ((nI c9))]) (st := [vi (rJoin1 S g 0 (c9 + 1))]) X zm_L_181 rfl rfl ⟨by decide, Nat.le_of_ble_eq_true rfl⟩ ⟨by decide, by decide⟩ (Nat.le_of_ble_eq_true rfl) dL_act_157 ?_
          refine zok0_X12_join hS hw23.2 hW (by omega) (by omega) (fun J25 hg17 hM18 => ?_)
          obtain ⟨hw26, hf27⟩ := zWd.stn hE hw23 hg17 hM18
          refine zr_icmp_ne (tgt := 167) X dL_act_160 (by decide) (fun h19 => ?_) (fun h19 => ?_)
          · exact absurd rfl h19
          · skip
            refine zr_iconst (v := (1 : Int32)) X dL_act_163 (by decide) ?_
            refine zr_goto (tgt := 168) X dL_act_164 (by decide) ?_
            refine zr_iret X (by decide) (by decide) dL_act_168 ?_
            exact k1 _ _ hw26 (hG.join) (zfa.tr (zfa.tr (zfa.tr hf3 hf13) hf24) hf27)
        · refine zr_eq (x2 := (1 : Int32)) h9 ?_
          refine zr_istore7 X (by decide) rfl dL_act_140 ?_
          refine zr_aload0 X dL_act_142 ?_
          refine zr_iload3 X dL_act_143 ?_
          refine zr_iload7 X dL_act_144 ?_
          refine zr_iload6 X dL_act_146 ?_
          refine zr_callSX (rm9 := zrm_L_join) (As := [vr (x) 7, vi ((nI g)), vi ((1 : Int32)), vi ((nI c9))]) (st := []) X zmh_L_197 rfl rfl ⟨by decide, Nat.le_of_ble_eq_true rfl⟩ ⟨by decide, by decide⟩ (Nat.le_of_ble_eq_true rfl) dL_act_148 ?_
          have hR20 : rJoin S (nI g) (1 : Int32) (nI c9) = (0, rJoin1 S g 1 (c9 + 1)) ∧ sJoin S (nI g) (1 : Int32) (nI c9) = sJoin1 S g 1 (c9 + 1) := zR_join1 (s := 1) (by omega) (by omega) (by decide) (by omega) (by omega)
          refine zL_join hw12.1 (fun J28 hJ29 => ?_)
          rw [zif_0 hR20.1, zif_0 hR20.1, hR20.2] at hJ29
          obtain ⟨hw30, hf31⟩ := zWd.cls hE hw12 hJ29
          refine zr_eq (x2 := rJoin1 S g 1 (c9 + 1)) (zcd_0 hR20.1) ?_
          refine zr_aload1 X dL_act_151 ?_
          refine zr_iload3 X dL_act_152 ?_
          refine zr_iload7 X dL_act_153 ?_
          refine zr_iload6 X dL_act_155 ?_
          refine zr_callVQ (rm9 := zrm_X12_join) (As := [vi ((nI g)), vi ((1 : Int32)), vi ((nI c9))]) (st := [vi (rJoin1 S g 1 (c9 + 1))]) X zm_L_181 rfl rfl ⟨by decide, Nat.le_of_ble_eq_true rfl⟩ ⟨by decide, by decide⟩ (Nat.le_of_ble_eq_true rfl) dL_act_157 ?_
          refine zok1_X12_join hS hw30.2 hW (by omega) (by omega) (fun J32 hg21 hM22 => ?_)
          obtain ⟨hw33, hf34⟩ := zWd.stn hE hw30 hg21 hM22
          refine zr_icmp_ne (tgt := 167) X dL_act_160 (by decide) (fun h23 => ?_) (fun h23 => ?_)
          · exact absurd rfl h23
          · skip
            refine zr_iconst (v := (1 : Int32)) X dL_act_163 (by decide) ?_
            refine zr_goto (tgt := 168) X dL_act_164 (by decide) ?_
            refine zr_iret X (by decide) (by decide) dL_act_168 ?_
            exact k1 _ _ hw33 (hG.join) (zfa.tr (zfa.tr (zfa.tr hf3 hf13) hf31) hf34)
        · exact absurd (show (2 : Int32) ≤ sG S g 0 by rw [h9]; decide) h4
  · skip
    refine zr_iconst (v := (-1 : Int32)) X dL_act_96 (by decide) ?_
    refine zr_goto (tgt := 102) X dL_act_97 (by decide) ?_
    refine zr_istore6 X (by decide) rfl dL_act_102 ?_
    refine zr_aload1 X dL_act_104 ?_
    refine zr_getD (r := A (1)) X zf_L_146 rfl (by decide) (hS.2.1.2.1) dL_act_105 ?_
    refine zr_iload3 X dL_act_108 ?_
    refine zr_aaldD (k := 20) (n := g) (r := A (4 + 5 * g)) X rfl (show _ < 6 from (by first | decide | omega)) ((hS.2.2.1 g (by omega)).1) dL_act_109 ?_
    refine zr_getI X zf_L_155 rfl dL_act_110 ?_
    refine zr_eq (x2 := (sG S g 0)) ((hw2.2.2.2.2.2.1 g (by omega)).1 0 (by decide)) ?_
    refine zr_iconst (v := (2 : Int32)) X dL_act_113 (by decide) ?_
    refine zr_icmp_ge (tgt := 138) X dL_act_114 (by decide) (fun h24 => ?_) (fun h24 => ?_)
    · skip
      refine zr_iload5 X dL_act_138 ?_
      refine zr_istore7 X (by decide) rfl dL_act_140 ?_
      refine zr_aload0 X dL_act_142 ?_
      refine zr_iload3 X dL_act_143 ?_
      refine zr_iload7 X dL_act_144 ?_
      refine zr_iload6 X dL_act_146 ?_
      refine zr_callSX (rm9 := zrm_L_join) (As := [vr (x) 7, vi ((nI g)), vi ((0 : Int32)), vi ((-1 : Int32))]) (st := []) X zmh_L_197 rfl rfl ⟨by decide, Nat.le_of_ble_eq_true rfl⟩ ⟨by decide, by decide⟩ (Nat.le_of_ble_eq_true rfl) dL_act_148 ?_
      have hR25 : rJoin S (nI g) (0 : Int32) (-1 : Int32) = (0, rJoin1 S g 0 0) ∧ sJoin S (nI g) (0 : Int32) (-1 : Int32) = sJoin1 S g 0 0 := zR_join0 (s := 0) (by omega) (by omega) (by decide)
      refine zL_join hw2.1 (fun J35 hJ36 => ?_)
      rw [zif_0 hR25.1, zif_0 hR25.1, hR25.2] at hJ36
      obtain ⟨hw37, hf38⟩ := zWd.cls hE hw2 hJ36
      refine zr_eq (x2 := rJoin1 S g 0 0) (zcd_0 hR25.1) ?_
      refine zr_aload1 X dL_act_151 ?_
      refine zr_iload3 X dL_act_152 ?_
      refine zr_iload7 X dL_act_153 ?_
      refine zr_iload6 X dL_act_155 ?_
      refine zr_callVQ (rm9 := zrm_X12_join) (As := [vi ((nI g)), vi ((0 : Int32)), vi ((-1 : Int32))]) (st := [vi (rJoin1 S g 0 0)]) X zm_L_181 rfl rfl ⟨by decide, Nat.le_of_ble_eq_true rfl⟩ ⟨by decide, by decide⟩ (Nat.le_of_ble_eq_true rfl) dL_act_157 ?_
      refine znone0_X12_join hS hw37.2 hW (by omega) (fun J39 hg26 hM27 => ?_)
      obtain ⟨hw40, hf41⟩ := zWd.stn hE hw37 hg26 hM27
      refine zr_icmp_ne (tgt := 167) X dL_act_160 (by decide) (fun h28 => ?_) (fun h28 => ?_)
      · exact absurd rfl h28
      · skip
        refine zr_iconst (v := (1 : Int32)) X dL_act_163 (by decide) ?_
        refine zr_goto (tgt := 168) X dL_act_164 (by decide) ?_
        refine zr_iret X (by decide) (by decide) dL_act_168 ?_
        exact k1 _ _ hw40 (hG.join) (zfa.tr (zfa.tr hf3 hf38) hf41)
    · skip
      refine zr_aload2 X dL_act_117 ?_
      refine zr_bipush (v := (8 : Int32)) X dL_act_118 (by decide) ?_
      refine zr_callVQ (rm9 := zrm_X11_below) (As := [vi ((8 : Int32))]) (st := []) X zm_L_118 rfl rfl ⟨by decide, Nat.le_of_ble_eq_true rfl⟩ ⟨by decide, by decide⟩ (Nat.le_of_ble_eq_true rfl) dL_act_120 ?_
      refine zw_X11_below (b := 8) hE hw2 (by omega) (by omega) (fun J42 v29 hv30 hw43 hf44 => ?_)
      refine zr_nif_le X (v29) (tgt := 138) (by omega) dL_act_123 (by decide) (fun h31 => ?_) (fun h31 => ?_)
      · skip
        refine zr_iload5 X dL_act_138 ?_
        refine zr_istore7 X (by decide) rfl dL_act_140 ?_
        refine zr_aload0 X dL_act_142 ?_
        refine zr_iload3 X dL_act_143 ?_
        refine zr_iload7 X dL_act_144 ?_
        refine zr_iload6 X dL_act_146 ?_
        refine zr_callSX (rm9 := zrm_L_join) (As := [vr (x) 7, vi ((nI g)), vi ((0 : Int32)), vi ((-1 : Int32))]) (st := []) X zmh_L_197 rfl rfl ⟨by decide, Nat.le_of_ble_eq_true rfl⟩ ⟨by decide, by decide⟩ (Nat.le_of_ble_eq_true rfl) dL_act_148 ?_
        have hR32 : rJoin S (nI g) (0 : Int32) (-1 : Int32) = (0, rJoin1 S g 0 0) ∧ sJoin S (nI g) (0 : Int32) (-1 : Int32) = sJoin1 S g 0 0 := zR_join0 (s := 0) (by omega) (by omega) (by decide)
        refine zL_join hw43.1 (fun J45 hJ46 => ?_)
        rw [zif_0 hR32.1, zif_0 hR32.1, hR32.2] at hJ46
        obtain ⟨hw47, hf48⟩ := zWd.cls hE hw43 hJ46
        refine zr_eq (x2 := rJoin1 S g 0 0) (zcd_0 hR32.1) ?_
        refine zr_aload1 X dL_act_151 ?_
        refine zr_iload3 X dL_act_152 ?_
        refine zr_iload7 X dL_act_153 ?_
        refine zr_iload6 X dL_act_155 ?_
        refine zr_callVQ (rm9 := zrm_X12_join) (As := [vi ((nI g)), vi ((0 : Int32)), vi ((-1 : Int32))]) (st := [vi (rJoin1 S g 0 0)]) X zm_L_181 rfl rfl ⟨by decide, Nat.le_of_ble_eq_true rfl⟩ ⟨by decide, by decide⟩ (Nat.le_of_ble_eq_true rfl) dL_act_157 ?_
        refine znone0_X12_join hS hw47.2 hW (by omega) (fun J49 hg33 hM34 => ?_)
        obtain ⟨hw50, hf51⟩ := zWd.stn hE hw47 hg33 hM34
        refine zr_icmp_ne (tgt := 167) X dL_act_160 (by decide) (fun h35 => ?_) (fun h35 => ?_)
        · exact absurd rfl h35
        · skip
          refine zr_iconst (v := (1 : Int32)) X dL_act_163 (by decide) ?_
          refine zr_goto (tgt := 168) X dL_act_164 (by decide) ?_
          refine zr_iret X (by decide) (by decide) dL_act_168 ?_
          exact k1 _ _ hw50 (hG.join) (zfa.tr (zfa.tr (zfa.tr hf3 hf44) hf48) hf51)
      · skip
        refine zr_aload1 X dL_act_126 ?_
        refine zr_getD (r := A (1)) X zf_L_146 rfl (by decide) (hS.2.1.2.1) dL_act_127 ?_
        refine zr_iload3 X dL_act_130 ?_
        refine zr_aaldD (k := 20) (n := g) (r := A (4 + 5 * g)) X rfl (show _ < 6 from (by first | decide | omega)) ((hS.2.2.1 g (by omega)).1) dL_act_131 ?_
        refine zr_getI X zf_L_155 rfl dL_act_132 ?_
        refine zr_eq (x2 := (sG S g 0)) ((hw43.2.2.2.2.2.1 g (by omega)).1 0 (by decide)) ?_
        refine zr_goto (tgt := 140) X dL_act_135 (by decide) ?_
        rcases (hW.pad g).1 with h9 | h9 | h9
        · refine zr_eq (x2 := (0 : Int32)) h9 ?_
          refine zr_istore7 X (by decide) rfl dL_act_140 ?_
          refine zr_aload0 X dL_act_142 ?_
          refine zr_iload3 X dL_act_143 ?_
          refine zr_iload7 X dL_act_144 ?_
          refine zr_iload6 X dL_act_146 ?_
          refine zr_callSX (rm9 := zrm_L_join) (As := [vr (x) 7, vi ((nI g)), vi ((0 : Int32)), vi ((-1 : Int32))]) (st := []) X zmh_L_197 rfl rfl ⟨by decide, Nat.le_of_ble_eq_true rfl⟩ ⟨by decide, by decide⟩ (Nat.le_of_ble_eq_true rfl) dL_act_148 ?_
          have hR36 : rJoin S (nI g) (0 : Int32) (-1 : Int32) = (0, rJoin1 S g 0 0) ∧ sJoin S (nI g) (0 : Int32) (-1 : Int32) = sJoin1 S g 0 0 := zR_join0 (s := 0) (by omega) (by omega) (by decide)
          refine zL_join hw43.1 (fun J52 hJ53 => ?_)
          rw [zif_0 hR36.1, zif_0 hR36.1, hR36.2] at hJ53
          obtain ⟨hw54, hf55⟩ := zWd.cls hE hw43 hJ53
          refine zr_eq (x2 := rJoin1 S g 0 0) (zcd_0 hR36.1) ?_
          refine zr_aload1 X dL_act_151 ?_
          refine zr_iload3 X dL_act_152 ?_
          refine zr_iload7 X dL_act_153 ?_
          refine zr_iload6 X dL_act_155 ?_
          refine zr_callVQ (rm9 := zrm_X12_join) (As := [vi ((nI g)), vi ((0 : Int32)), vi ((-1 : Int32))]) (st := [vi (rJoin1 S g 0 0)]) X zm_L_181 rfl rfl ⟨by decide, Nat.le_of_ble_eq_true rfl⟩ ⟨by decide, by decide⟩ (Nat.le_of_ble_eq_true rfl) dL_act_157 ?_
          refine znone0_X12_join hS hw54.2 hW (by omega) (fun J56 hg37 hM38 => ?_)
          obtain ⟨hw57, hf58⟩ := zWd.stn hE hw54 hg37 hM38
          refine zr_icmp_ne (tgt := 167) X dL_act_160 (by decide) (fun h39 => ?_) (fun h39 => ?_)
          · exact absurd rfl h39
          · skip
            refine zr_iconst (v := (1 : Int32)) X dL_act_163 (by decide) ?_
            refine zr_goto (tgt := 168) X dL_act_164 (by decide) ?_
            refine zr_iret X (by decide) (by decide) dL_act_168 ?_
            exact k1 _ _ hw57 (hG.join) (zfa.tr (zfa.tr (zfa.tr hf3 hf44) hf55) hf58)
        · refine zr_eq (x2 := (1 : Int32)) h9 ?_
          refine zr_istore7 X (by decide) rfl dL_act_140 ?_
          refine zr_aload0 X dL_act_142 ?_
          refine zr_iload3 X dL_act_143 ?_
          refine zr_iload7 X dL_act_144 ?_
          refine zr_iload6 X dL_act_146 ?_
          refine zr_callSX (rm9 := zrm_L_join) (As := [vr (x) 7, vi ((nI g)), vi ((1 : Int32)), vi ((-1 : Int32))]) (st := []) X zmh_L_197 rfl rfl ⟨by decide, Nat.le_of_ble_eq_true rfl⟩ ⟨by decide, by decide⟩ (Nat.le_of_ble_eq_true rfl) dL_act_148 ?_
          have hR40 : rJoin S (nI g) (1 : Int32) (-1 : Int32) = (0, rJoin1 S g 1 0) ∧ sJoin S (nI g) (1 : Int32) (-1 : Int32) = sJoin1 S g 1 0 := zR_join0 (s := 1) (by omega) (by omega) (by decide)
          refine zL_join hw43.1 (fun J59 hJ60 => ?_)
          rw [zif_0 hR40.1, zif_0 hR40.1, hR40.2] at hJ60
          obtain ⟨hw61, hf62⟩ := zWd.cls hE hw43 hJ60
          refine zr_eq (x2 := rJoin1 S g 1 0) (zcd_0 hR40.1) ?_
          refine zr_aload1 X dL_act_151 ?_
          refine zr_iload3 X dL_act_152 ?_
          refine zr_iload7 X dL_act_153 ?_
          refine zr_iload6 X dL_act_155 ?_
          refine zr_callVQ (rm9 := zrm_X12_join) (As := [vi ((nI g)), vi ((1 : Int32)), vi ((-1 : Int32))]) (st := [vi (rJoin1 S g 1 0)]) X zm_L_181 rfl rfl ⟨by decide, Nat.le_of_ble_eq_true rfl⟩ ⟨by decide, by decide⟩ (Nat.le_of_ble_eq_true rfl) dL_act_157 ?_
          refine znone1_X12_join hS hw61.2 hW (by omega) (fun J63 hg41 hM42 => ?_)
          obtain ⟨hw64, hf65⟩ := zWd.stn hE hw61 hg41 hM42
          refine zr_icmp_ne (tgt := 167) X dL_act_160 (by decide) (fun h43 => ?_) (fun h43 => ?_)
          · exact absurd rfl h43
          · skip
            refine zr_iconst (v := (1 : Int32)) X dL_act_163 (by decide) ?_
            refine zr_goto (tgt := 168) X dL_act_164 (by decide) ?_
            refine zr_iret X (by decide) (by decide) dL_act_168 ?_
            exact k1 _ _ hw64 (hG.join) (zfa.tr (zfa.tr (zfa.tr hf3 hf44) hf62) hf65)
        · exact absurd (show (2 : Int32) ≤ sG S g 0 by rw [h9]; decide) h24
set_option maxRecDepth 20000 in
theorem za88_1 {l : Launch} {D : va_G} {b0 : Nat} {tA : Nat → ClassId} {sa sv : Nat → Nat} {K : zKt} {I : zI} {Qp : zI → Option AV → Prop} {Xp : String → zI → Prop} {p : Program} {e : Env} {s : State} {m : MethodId} {args : Array Value} {below : List Frame} {meth : Method} {c : Code} {x r f g c9 : Nat} {t : Nat → Nat} {er : Int32} {S : zS} {U : List zS} {A : Nat → Nat} {n7 m7 : Nat}
    (X : zX p l e zrm_L_act s m args below meth c RL cL_act 18 (some .int) D b0 tA sa sv) (hnt : ∀ x ∈ c.exceptionTable.toList, False) (hS : zSh K A n7 m7) (hE : zEn x r A n7 m7) (hw : zWd I x t f er S U A n7 m7 S) (hG : zGp S) (hg : g < n7) (hc : c9 < m7) (k1 : ∀ (J : zI) (S2 : zS), zWd J x t f er S2 (qPush S U) A n7 m7 S2 → zGp S2 → zfa I J x r A n7 m7 → Qp J (some (vi 1))) (k2 : ∀ J : zI, zWd J x t f er S U A n7 m7 S → zfa I J x r A n7 m7 → Qp J (some (vi 2))) :
    zG p l e zrm_L_act s m args below meth c 18 D b0 tA sa 0 0 (zQ below D b0 tA sa K args s zrm_L_act Qp Xp) K 88 [some (vr (x) 7), some (vr (A (0)) 17), some (vr (r) 16), some (vi ((nI g))), some (vi ((nI c9))), some (vi ((1 : Int32))), none, none, none, none, none, none, none, none, none, none, none, none] [] I := by
  have hA := hS.1
  have hM := hw.2
  have hW := hw.1.2.2.2.1
  have hn6 := hM.1.1
  have hm12 := hM.1.2
  have hgn := hM.ng
  have hcm := hM.nc
  have hlen := hW.len
  have hl0 := hlen g 0
  have hl1 := hlen g 1
  refine zr_aload2 X dL_act_88 ?_
  refine zr_iconst (v := (3 : Int32)) X dL_act_89 (by decide) ?_
  refine zr_callVQ (rm9 := zrm_X11_below) (As := [vi ((3 : Int32))]) (st := []) X zm_L_118 rfl rfl ⟨by decide, Nat.le_of_ble_eq_true rfl⟩ ⟨by decide, by decide⟩ (Nat.le_of_ble_eq_true rfl) dL_act_90 ?_
  refine zw_X11_below (b := 3) hE hw (by omega) (by omega) (fun J66 v1 hv2 hw67 hf68 => ?_)
  refine zr_nif_ne X (v1) (tgt := 100) (by omega) dL_act_93 (by decide) (fun h3 => ?_) (fun h3 => ?_)
  · skip
    refine zr_iload4 X dL_act_100 ?_
    refine zr_istore6 X (by decide) rfl dL_act_102 ?_
    refine zr_aload1 X dL_act_104 ?_
    refine zr_getD (r := A (1)) X zf_L_146 rfl (by decide) (hS.2.1.2.1) dL_act_105 ?_
    refine zr_iload3 X dL_act_108 ?_
    refine zr_aaldD (k := 20) (n := g) (r := A (4 + 5 * g)) X rfl (show _ < 6 from (by first | decide | omega)) ((hS.2.2.1 g (by omega)).1) dL_act_109 ?_
    refine zr_getI X zf_L_155 rfl dL_act_110 ?_
    refine zr_eq (x2 := (sG S g 0)) ((hw67.2.2.2.2.2.1 g (by omega)).1 0 (by decide)) ?_
    refine zr_iconst (v := (2 : Int32)) X dL_act_113 (by decide) ?_
    refine zr_icmp_ge (tgt := 138) X dL_act_114 (by decide) (fun h4 => ?_) (fun h4 => ?_)
    · skip
      refine zr_iload5 X dL_act_138 ?_
      refine zr_istore7 X (by decide) rfl dL_act_140 ?_
      refine zr_aload0 X dL_act_142 ?_
      refine zr_iload3 X dL_act_143 ?_
      refine zr_iload7 X dL_act_144 ?_
      refine zr_iload6 X dL_act_146 ?_
      refine zr_callSX (rm9 := zrm_L_join) (As := [vr (x) 7, vi ((nI g)), vi ((1 : Int32)), vi ((nI c9))]) (st := []) X zmh_L_197 rfl rfl ⟨by decide, Nat.le_of_ble_eq_true rfl⟩ ⟨by decide, by decide⟩ (Nat.le_of_ble_eq_true rfl) dL_act_148 ?_
      have hR5 : rJoin S (nI g) (1 : Int32) (nI c9) = (0, rJoin1 S g 1 (c9 + 1)) ∧ sJoin S (nI g) (1 : Int32) (nI c9) = sJoin1 S g 1 (c9 + 1) := zR_join1 (s := 1) (by omega) (by omega) (by decide) (by omega) (by omega)
      refine zL_join hw67.1 (fun J69 hJ70 => ?_)
      rw [zif_0 hR5.1, zif_0 hR5.1, hR5.2] at hJ70
      obtain ⟨hw71, hf72⟩ := zWd.cls hE hw67 hJ70
      refine zr_eq (x2 := rJoin1 S g 1 (c9 + 1)) (zcd_0 hR5.1) ?_
      refine zr_aload1 X dL_act_151 ?_
      refine zr_iload3 X dL_act_152 ?_
      refine zr_iload7 X dL_act_153 ?_
      refine zr_iload6 X dL_act_155 ?_
      refine zr_callVQ (rm9 := zrm_X12_join) (As := [vi ((nI g)), vi ((1 : Int32)), vi ((nI c9))]) (st := [vi (rJoin1 S g 1 (c9 + 1))]) X zm_L_181 rfl rfl ⟨by decide, Nat.le_of_ble_eq_true rfl⟩ ⟨by decide, by decide⟩ (Nat.le_of_ble_eq_true rfl) dL_act_157 ?_
      refine zok1_X12_join hS hw71.2 hW (by omega) (by omega) (fun J73 hg6 hM7 => ?_)
      obtain ⟨hw74, hf75⟩ := zWd.stn hE hw71 hg6 hM7
      refine zr_icmp_ne (tgt := 167) X dL_act_160 (by decide) (fun h8 => ?_) (fun h8 => ?_)
      · exact absurd rfl h8
      · skip
        refine zr_iconst (v := (1 : Int32)) X dL_act_163 (by decide) ?_
        refine zr_goto (tgt := 168) X dL_act_164 (by decide) ?_
        refine zr_iret X (by decide) (by decide) dL_act_168 ?_
        exact k1 _ _ hw74 (hG.join) (zfa.tr (zfa.tr hf68 hf72) hf75)
    · skip
      refine zr_aload2 X dL_act_117 ?_
      refine zr_bipush (v := (8 : Int32)) X dL_act_118 (by decide) ?_
      refine zr_callVQ (rm9 := zrm_X11_below) (As := [vi ((8 : Int32))]) (st := []) X zm_L_118 rfl rfl ⟨by decide, Nat.le_of_ble_eq_true rfl⟩ ⟨by decide, by decide⟩ (Nat.le_of_ble_eq_true rfl) dL_act_120 ?_
      refine zw_X11_below (b := 8) hE hw67 (by omega) (by omega) (fun J76 v9 hv10 hw77 hf78 => ?_)
      refine zr_nif_le X (v9) (tgt := 138) (by omega) dL_act_123 (by decide) (fun h11 => ?_) (fun h11 => ?_)
      · skip
        refine zr_iload5 X dL_act_138 ?_
        refine zr_istore7 X (by decide) rfl dL_act_140 ?_
        refine zr_aload0 X dL_act_142 ?_
        refine zr_iload3 X dL_act_143 ?_
        refine zr_iload7 X dL_act_144 ?_
        refine zr_iload6 X dL_act_146 ?_
        refine zr_callSX (rm9 := zrm_L_join) (As := [vr (x) 7, vi ((nI g)), vi ((1 : Int32)), vi ((nI c9))]) (st := []) X zmh_L_197 rfl rfl ⟨by decide, Nat.le_of_ble_eq_true rfl⟩ ⟨by decide, by decide⟩ (Nat.le_of_ble_eq_true rfl) dL_act_148 ?_
        have hR12 : rJoin S (nI g) (1 : Int32) (nI c9) = (0, rJoin1 S g 1 (c9 + 1)) ∧ sJoin S (nI g) (1 : Int32) (nI c9) = sJoin1 S g 1 (c9 + 1) := zR_join1 (s := 1) (by omega) (by omega) (by decide) (by omega) (by omega)
        refine zL_join hw77.1 (fun J79 hJ80 => ?_)
        rw [zif_0 hR12.1, zif_0 hR12.1, hR12.2] at hJ80
        obtain ⟨hw81, hf82⟩ := zWd.cls hE hw77 hJ80
        refine zr_eq (x2 := rJoin1 S g 1 (c9 + 1)) (zcd_0 hR12.1) ?_
        refine zr_aload1 X dL_act_151 ?_
        refine zr_iload3 X dL_act_152 ?_
        refine zr_iload7 X dL_act_153 ?_
        refine zr_iload6 X dL_act_155 ?_
        refine zr_callVQ (rm9 := zrm_X12_join) (As := [vi ((nI g)), vi ((1 : Int32)), vi ((nI c9))]) (st := [vi (rJoin1 S g 1 (c9 + 1))]) X zm_L_181 rfl rfl ⟨by decide, Nat.le_of_ble_eq_true rfl⟩ ⟨by decide, by decide⟩ (Nat.le_of_ble_eq_true rfl) dL_act_157 ?_
        refine zok1_X12_join hS hw81.2 hW (by omega) (by omega) (fun J83 hg13 hM14 => ?_)
        obtain ⟨hw84, hf85⟩ := zWd.stn hE hw81 hg13 hM14
        refine zr_icmp_ne (tgt := 167) X dL_act_160 (by decide) (fun h15 => ?_) (fun h15 => ?_)
        · exact absurd rfl h15
        · skip
          refine zr_iconst (v := (1 : Int32)) X dL_act_163 (by decide) ?_
          refine zr_goto (tgt := 168) X dL_act_164 (by decide) ?_
          refine zr_iret X (by decide) (by decide) dL_act_168 ?_
          exact k1 _ _ hw84 (hG.join) (zfa.tr (zfa.tr (zfa.tr hf68 hf78) hf82) hf85)
      · skip
        refine zr_aload1 X dL_act_126 ?_
        refine zr_getD (r := A (1)) X zf_L_146 rfl (by decide) (hS.2.1.2.1) dL_act_127 ?_
        refine zr_iload3 X dL_act_130 ?_
        refine zr_aaldD (k := 20) (n := g) (r := A (4 + 5 * g)) X rfl (show _ < 6 from (by first | decide | omega)) ((hS.2.2.1 g (by omega)).1) dL_act_131 ?_
        refine zr_getI X zf_L_155 rfl dL_act_132 ?_
        refine zr_eq (x2 := (sG S g 0)) ((hw77.2.2.2.2.2.1 g (by omega)).1 0 (by decide)) ?_
        refine zr_goto (tgt := 140) X dL_act_135 (by decide) ?_
        rcases (hW.pad g).1 with h9 | h9 | h9
        · refine zr_eq (x2 := (0 : Int32)) h9 ?_
          refine zr_istore7 X (by decide) rfl dL_act_140 ?_
          refine zr_aload0 X dL_act_142 ?_
          refine zr_iload3 X dL_act_143 ?_
          refine zr_iload7 X dL_act_144 ?_
          refine zr_iload6 X dL_act_146 ?_
          refine zr_callSX (rm9 := zrm_L_join) (As := [vr (x) 7, vi ((nI g)), vi ((0 : Int32)), vi ((nI c9))]) (st := []) X zmh_L_197 rfl rfl ⟨by decide, Nat.le_of_ble_eq_true rfl⟩ ⟨by decide, by decide⟩ (Nat.le_of_ble_eq_true rfl) dL_act_148 ?_
          have hR16 : rJoin S (nI g) (0 : Int32) (nI c9) = (0, rJoin1 S g 0 (c9 + 1)) ∧ sJoin S (nI g) (0 : Int32) (nI c9) = sJoin1 S g 0 (c9 + 1) := zR_join1 (s := 0) (by omega) (by omega) (by decide) (by omega) (by omega)
          refine zL_join hw77.1 (fun J86 hJ87 => ?_)
          rw [zif_0 hR16.1, zif_0 hR16.1, hR16.2] at hJ87
          obtain ⟨hw88, hf89⟩ := zWd.cls hE hw77 hJ87
          refine zr_eq (x2 := rJoin1 S g 0 (c9 + 1)) (zcd_0 hR16.1) ?_
          refine zr_aload1 X dL_act_151 ?_
          refine zr_iload3 X dL_act_152 ?_
          refine zr_iload7 X dL_act_153 ?_
          refine zr_iload6 X dL_act_155 ?_
          refine zr_callVQ (rm9 := zrm_X12_join) (As := [vi ((nI g)), vi ((0 : Int32)), vi ((nI c9))]) (st := [vi (rJoin1 S g 0 (c9 + 1))]) X zm_L_181 rfl rfl ⟨by decide, Nat.le_of_ble_eq_true rfl⟩ ⟨by decide, by decide⟩ (Nat.le_of_ble_eq_true rfl) dL_act_157 ?_
          refine zok0_X12_join hS hw88.2 hW (by omega) (by omega) (fun J90 hg17 hM18 => ?_)
          obtain ⟨hw91, hf92⟩ := zWd.stn hE hw88 hg17 hM18
          refine zr_icmp_ne (tgt := 167) X dL_act_160 (by decide) (fun h19 => ?_) (fun h19 => ?_)
          · exact absurd rfl h19
          · skip
            refine zr_iconst (v := (1 : Int32)) X dL_act_163 (by decide) ?_
            refine zr_goto (tgt := 168) X dL_act_164 (by decide) ?_
            refine zr_iret X (by decide) (by decide) dL_act_168 ?_
            exact k1 _ _ hw91 (hG.join) (zfa.tr (zfa.tr (zfa.tr hf68 hf78) hf89) hf92)
        · refine zr_eq (x2 := (1 : Int32)) h9 ?_
          refine zr_istore7 X (by decide) rfl dL_act_140 ?_
          refine zr_aload0 X dL_act_142 ?_
          refine zr_iload3 X dL_act_143 ?_
          refine zr_iload7 X dL_act_144 ?_
          refine zr_iload6 X dL_act_146 ?_
          refine zr_callSX (rm9 := zrm_L_join) (As := [vr (x) 7, vi ((nI g)), vi ((1 : Int32)), vi ((nI c9))]) (st := []) X zmh_L_197 rfl rfl ⟨by decide, Nat.le_of_ble_eq_true rfl⟩ ⟨by decide, by decide⟩ (Nat.le_of_ble_eq_true rfl) dL_act_148 ?_
          have hR20 : rJoin S (nI g) (1 : Int32) (nI c9) = (0, rJoin1 S g 1 (c9 + 1)) ∧ sJoin S (nI g) (1 : Int32) (nI c9) = sJoin1 S g 1 (c9 + 1) := zR_join1 (s := 1) (by omega) (by omega) (by decide) (by omega) (by omega)
          refine zL_join hw77.1 (fun J93 hJ94 => ?_)
          rw [zif_0 hR20.1, zif_0 hR20.1, hR20.2] at hJ94
          obtain ⟨hw95, hf96⟩ := zWd.cls hE hw77 hJ94
          refine zr_eq (x2 := rJoin1 S g 1 (c9 + 1)) (zcd_0 hR20.1) ?_
          refine zr_aload1 X dL_act_151 ?_
          refine zr_iload3 X dL_act_152 ?_
          refine zr_iload7 X dL_act_153 ?_
          refine zr_iload6 X dL_act_155 ?_
          refine zr_callVQ (rm9 := zrm_X12_join) (As := [vi ((nI g)), vi ((1 : Int32)), vi ((nI c9))]) (st := [vi (rJoin1 S g 1 (c9 + 1))]) X zm_L_181 rfl rfl ⟨by decide, Nat.le_of_ble_eq_true rfl⟩ ⟨by decide, by decide⟩ (Nat.le_of_ble_eq_true rfl) dL_act_157 ?_
          refine zok1_X12_join hS hw95.2 hW (by omega) (by omega) (fun J97 hg21 hM22 => ?_)
          obtain ⟨hw98, hf99⟩ := zWd.stn hE hw95 hg21 hM22
          refine zr_icmp_ne (tgt := 167) X dL_act_160 (by decide) (fun h23 => ?_) (fun h23 => ?_)
          · exact absurd rfl h23
          · skip
            refine zr_iconst (v := (1 : Int32)) X dL_act_163 (by decide) ?_
            refine zr_goto (tgt := 168) X dL_act_164 (by decide) ?_
            refine zr_iret X (by decide) (by decide) dL_act_168 ?_
            exact k1 _ _ hw98 (hG.join) (zfa.tr (zfa.tr (zfa.tr hf68 hf78) hf96) hf99)
        · exact absurd (show (2 : Int32) ≤ sG S g 0 by rw [h9]; decide) h4
  · skip
    refine zr_iconst (v := (-1 : Int32)) X dL_act_96 (by decide) ?_
    refine zr_goto (tgt := 102) X dL_act_97 (by decide) ?_
    refine zr_istore6 X (by decide) rfl dL_act_102 ?_
    refine zr_aload1 X dL_act_104 ?_
    refine zr_getD (r := A (1)) X zf_L_146 rfl (by decide) (hS.2.1.2.1) dL_act_105 ?_
    refine zr_iload3 X dL_act_108 ?_
    refine zr_aaldD (k := 20) (n := g) (r := A (4 + 5 * g)) X rfl (show _ < 6 from (by first | decide | omega)) ((hS.2.2.1 g (by omega)).1) dL_act_109 ?_
    refine zr_getI X zf_L_155 rfl dL_act_110 ?_
    refine zr_eq (x2 := (sG S g 0)) ((hw67.2.2.2.2.2.1 g (by omega)).1 0 (by decide)) ?_
    refine zr_iconst (v := (2 : Int32)) X dL_act_113 (by decide) ?_
    refine zr_icmp_ge (tgt := 138) X dL_act_114 (by decide) (fun h24 => ?_) (fun h24 => ?_)
    · skip
      refine zr_iload5 X dL_act_138 ?_
      refine zr_istore7 X (by decide) rfl dL_act_140 ?_
      refine zr_aload0 X dL_act_142 ?_
      refine zr_iload3 X dL_act_143 ?_
      refine zr_iload7 X dL_act_144 ?_
      refine zr_iload6 X dL_act_146 ?_
      refine zr_callSX (rm9 := zrm_L_join) (As := [vr (x) 7, vi ((nI g)), vi ((1 : Int32)), vi ((-1 : Int32))]) (st := []) X zmh_L_197 rfl rfl ⟨by decide, Nat.le_of_ble_eq_true rfl⟩ ⟨by decide, by decide⟩ (Nat.le_of_ble_eq_true rfl) dL_act_148 ?_
      have hR25 : rJoin S (nI g) (1 : Int32) (-1 : Int32) = (0, rJoin1 S g 1 0) ∧ sJoin S (nI g) (1 : Int32) (-1 : Int32) = sJoin1 S g 1 0 := zR_join0 (s := 1) (by omega) (by omega) (by decide)
      refine zL_join hw67.1 (fun J100 hJ101 => ?_)
      rw [zif_0 hR25.1, zif_0 hR25.1, hR25.2] at hJ101
      obtain ⟨hw102, hf103⟩ := zWd.cls hE hw67 hJ101
      refine zr_eq (x2 := rJoin1 S g 1 0) (zcd_0 hR25.1) ?_
      refine zr_aload1 X dL_act_151 ?_
      refine zr_iload3 X dL_act_152 ?_
      refine zr_iload7 X dL_act_153 ?_
      refine zr_iload6 X dL_act_155 ?_
      refine zr_callVQ (rm9 := zrm_X12_join) (As := [vi ((nI g)), vi ((1 : Int32)), vi ((-1 : Int32))]) (st := [vi (rJoin1 S g 1 0)]) X zm_L_181 rfl rfl ⟨by decide, Nat.le_of_ble_eq_true rfl⟩ ⟨by decide, by decide⟩ (Nat.le_of_ble_eq_true rfl) dL_act_157 ?_
      refine znone1_X12_join hS hw102.2 hW (by omega) (fun J104 hg26 hM27 => ?_)
      obtain ⟨hw105, hf106⟩ := zWd.stn hE hw102 hg26 hM27
      refine zr_icmp_ne (tgt := 167) X dL_act_160 (by decide) (fun h28 => ?_) (fun h28 => ?_)
      · exact absurd rfl h28
      · skip
        refine zr_iconst (v := (1 : Int32)) X dL_act_163 (by decide) ?_
        refine zr_goto (tgt := 168) X dL_act_164 (by decide) ?_
        refine zr_iret X (by decide) (by decide) dL_act_168 ?_
        exact k1 _ _ hw105 (hG.join) (zfa.tr (zfa.tr hf68 hf103) hf106)
    · skip
      refine zr_aload2 X dL_act_117 ?_
      refine zr_bipush (v := (8 : Int32)) X dL_act_118 (by decide) ?_
      refine zr_callVQ (rm9 := zrm_X11_below) (As := [vi ((8 : Int32))]) (st := []) X zm_L_118 rfl rfl ⟨by decide, Nat.le_of_ble_eq_true rfl⟩ ⟨by decide, by decide⟩ (Nat.le_of_ble_eq_true rfl) dL_act_120 ?_
      refine zw_X11_below (b := 8) hE hw67 (by omega) (by omega) (fun J107 v29 hv30 hw108 hf109 => ?_)
      refine zr_nif_le X (v29) (tgt := 138) (by omega) dL_act_123 (by decide) (fun h31 => ?_) (fun h31 => ?_)
      · skip
        refine zr_iload5 X dL_act_138 ?_
        refine zr_istore7 X (by decide) rfl dL_act_140 ?_
        refine zr_aload0 X dL_act_142 ?_
        refine zr_iload3 X dL_act_143 ?_
        refine zr_iload7 X dL_act_144 ?_
        refine zr_iload6 X dL_act_146 ?_
        refine zr_callSX (rm9 := zrm_L_join) (As := [vr (x) 7, vi ((nI g)), vi ((1 : Int32)), vi ((-1 : Int32))]) (st := []) X zmh_L_197 rfl rfl ⟨by decide, Nat.le_of_ble_eq_true rfl⟩ ⟨by decide, by decide⟩ (Nat.le_of_ble_eq_true rfl) dL_act_148 ?_
        have hR32 : rJoin S (nI g) (1 : Int32) (-1 : Int32) = (0, rJoin1 S g 1 0) ∧ sJoin S (nI g) (1 : Int32) (-1 : Int32) = sJoin1 S g 1 0 := zR_join0 (s := 1) (by omega) (by omega) (by decide)
        refine zL_join hw108.1 (fun J110 hJ111 => ?_)
        rw [zif_0 hR32.1, zif_0 hR32.1, hR32.2] at hJ111
        obtain ⟨hw112, hf113⟩ := zWd.cls hE hw108 hJ111
        refine zr_eq (x2 := rJoin1 S g 1 0) (zcd_0 hR32.1) ?_
        refine zr_aload1 X dL_act_151 ?_
        refine zr_iload3 X dL_act_152 ?_
        refine zr_iload7 X dL_act_153 ?_
        refine zr_iload6 X dL_act_155 ?_
        refine zr_callVQ (rm9 := zrm_X12_join) (As := [vi ((nI g)), vi ((1 : Int32)), vi ((-1 : Int32))]) (st := [vi (rJoin1 S g 1 0)]) X zm_L_181 rfl rfl ⟨by decide, Nat.le_of_ble_eq_true rfl⟩ ⟨by decide, by decide⟩ (Nat.le_of_ble_eq_true rfl) dL_act_157 ?_
        refine znone1_X12_join hS hw112.2 hW (by omega) (fun J114 hg33 hM34 => ?_)
        obtain ⟨hw115, hf116⟩ := zWd.stn hE hw112 hg33 hM34
        refine zr_icmp_ne (tgt := 167) X dL_act_160 (by decide) (fun h35 => ?_) (fun h35 => ?_)
        · exact absurd rfl h35
        · skip
          refine zr_iconst (v := (1 : Int32)) X dL_act_163 (by decide) ?_
          refine zr_goto (tgt := 168) X dL_act_164 (by decide) ?_
          refine zr_iret X (by decide) (by decide) dL_act_168 ?_
          exact k1 _ _ hw115 (hG.join) (zfa.tr (zfa.tr (zfa.tr hf68 hf109) hf113) hf116)
      · skip
        refine zr_aload1 X dL_act_126 ?_
        refine zr_getD (r := A (1)) X zf_L_146 rfl (by decide) (hS.2.1.2.1) dL_act_127 ?_
        refine zr_iload3 X dL_act_130 ?_
        refine zr_aaldD (k := 20) (n := g) (r := A (4 + 5 * g)) X rfl (show _ < 6 from (by first | decide | omega)) ((hS.2.2.1 g (by omega)).1) dL_act_131 ?_
        refine zr_getI X zf_L_155 rfl dL_act_132 ?_
        refine zr_eq (x2 := (sG S g 0)) ((hw108.2.2.2.2.2.1 g (by omega)).1 0 (by decide)) ?_
        refine zr_goto (tgt := 140) X dL_act_135 (by decide) ?_
        rcases (hW.pad g).1 with h9 | h9 | h9
        · refine zr_eq (x2 := (0 : Int32)) h9 ?_
          refine zr_istore7 X (by decide) rfl dL_act_140 ?_
          refine zr_aload0 X dL_act_142 ?_
          refine zr_iload3 X dL_act_143 ?_
          refine zr_iload7 X dL_act_144 ?_
          refine zr_iload6 X dL_act_146 ?_
          refine zr_callSX (rm9 := zrm_L_join) (As := [vr (x) 7, vi ((nI g)), vi ((0 : Int32)), vi ((-1 : Int32))]) (st := []) X zmh_L_197 rfl rfl ⟨by decide, Nat.le_of_ble_eq_true rfl⟩ ⟨by decide, by decide⟩ (Nat.le_of_ble_eq_true rfl) dL_act_148 ?_
          have hR36 : rJoin S (nI g) (0 : Int32) (-1 : Int32) = (0, rJoin1 S g 0 0) ∧ sJoin S (nI g) (0 : Int32) (-1 : Int32) = sJoin1 S g 0 0 := zR_join0 (s := 0) (by omega) (by omega) (by decide)
          refine zL_join hw108.1 (fun J117 hJ118 => ?_)
          rw [zif_0 hR36.1, zif_0 hR36.1, hR36.2] at hJ118
          obtain ⟨hw119, hf120⟩ := zWd.cls hE hw108 hJ118
          refine zr_eq (x2 := rJoin1 S g 0 0) (zcd_0 hR36.1) ?_
          refine zr_aload1 X dL_act_151 ?_
          refine zr_iload3 X dL_act_152 ?_
          refine zr_iload7 X dL_act_153 ?_
          refine zr_iload6 X dL_act_155 ?_
          refine zr_callVQ (rm9 := zrm_X12_join) (As := [vi ((nI g)), vi ((0 : Int32)), vi ((-1 : Int32))]) (st := [vi (rJoin1 S g 0 0)]) X zm_L_181 rfl rfl ⟨by decide, Nat.le_of_ble_eq_true rfl⟩ ⟨by decide, by decide⟩ (Nat.le_of_ble_eq_true rfl) dL_act_157 ?_
          refine znone0_X12_join hS hw119.2 hW (by omega) (fun J121 hg37 hM38 => ?_)
          obtain ⟨hw122, hf123⟩ := zWd.stn hE hw119 hg37 hM38
          refine zr_icmp_ne (tgt := 167) X dL_act_160 (by decide) (fun h39 => ?_) (fun h39 => ?_)
          · exact absurd rfl h39
          · skip
            refine zr_iconst (v := (1 : Int32)) X dL_act_163 (by decide) ?_
            refine zr_goto (tgt := 168) X dL_act_164 (by decide) ?_
            refine zr_iret X (by decide) (by decide) dL_act_168 ?_
            exact k1 _ _ hw122 (hG.join) (zfa.tr (zfa.tr (zfa.tr hf68 hf109) hf120) hf123)
        · refine zr_eq (x2 := (1 : Int32)) h9 ?_
          refine zr_istore7 X (by decide) rfl dL_act_140 ?_
          refine zr_aload0 X dL_act_142 ?_
          refine zr_iload3 X dL_act_143 ?_
          refine zr_iload7 X dL_act_144 ?_
          refine zr_iload6 X dL_act_146 ?_
          refine zr_callSX (rm9 := zrm_L_join) (As := [vr (x) 7, vi ((nI g)), vi ((1 : Int32)), vi ((-1 : Int32))]) (st := []) X zmh_L_197 rfl rfl ⟨by decide, Nat.le_of_ble_eq_true rfl⟩ ⟨by decide, by decide⟩ (Nat.le_of_ble_eq_true rfl) dL_act_148 ?_
          have hR40 : rJoin S (nI g) (1 : Int32) (-1 : Int32) = (0, rJoin1 S g 1 0) ∧ sJoin S (nI g) (1 : Int32) (-1 : Int32) = sJoin1 S g 1 0 := zR_join0 (s := 1) (by omega) (by omega) (by decide)
          refine zL_join hw108.1 (fun J124 hJ125 => ?_)
          rw [zif_0 hR40.1, zif_0 hR40.1, hR40.2] at hJ125
          obtain ⟨hw126, hf127⟩ := zWd.cls hE hw108 hJ125
          refine zr_eq (x2 := rJoin1 S g 1 0) (zcd_0 hR40.1) ?_
          refine zr_aload1 X dL_act_151 ?_
          refine zr_iload3 X dL_act_152 ?_
          refine zr_iload7 X dL_act_153 ?_
          refine zr_iload6 X dL_act_155 ?_
          refine zr_callVQ (rm9 := zrm_X12_join) (As := [vi ((nI g)), vi ((1 : Int32)), vi ((-1 : Int32))]) (st := [vi (rJoin1 S g 1 0)]) X zm_L_181 rfl rfl ⟨by decide, Nat.le_of_ble_eq_true rfl⟩ ⟨by decide, by decide⟩ (Nat.le_of_ble_eq_true rfl) dL_act_157 ?_
          refine znone1_X12_join hS hw126.2 hW (by omega) (fun J128 hg41 hM42 => ?_)
          obtain ⟨hw129, hf130⟩ := zWd.stn hE hw126 hg41 hM42
          refine zr_icmp_ne (tgt := 167) X dL_act_160 (by decide) (fun h43 => ?_) (fun h43 => ?_)
          · exact absurd rfl h43
          · skip
            refine zr_iconst (v := (1 : Int32)) X dL_act_163 (by decide) ?_
            refine zr_goto (tgt := 168) X dL_act_164 (by decide) ?_
            refine zr_iret X (by decide) (by decide) dL_act_168 ?_
            exact k1 _ _ hw129 (hG.join) (zfa.tr (zfa.tr (zfa.tr hf68 hf109) hf127) hf130)
        · exact absurd (show (2 : Int32) ≤ sG S g 0 by rw [h9]; decide) h24
theorem zlat2 {x : Int32} (h : x - 1 = 1) : x = 2 := by have := congrArg (fun z => z + 1) h; simpa using this
set_option maxRecDepth 20000 in
theorem za169_0 {l : Launch} {D : va_G} {b0 : Nat} {tA : Nat → ClassId} {sa sv : Nat → Nat} {K : zKt} {I : zI} {Qp : zI → Option AV → Prop} {Xp : String → zI → Prop} {p : Program} {e : Env} {s : State} {m : MethodId} {args : Array Value} {below : List Frame} {meth : Method} {c : Code} {x r f g c9 : Nat} {t : Nat → Nat} {er : Int32} {S : zS} {U : List zS} {A : Nat → Nat} {n7 m7 : Nat}
    (X : zX p l e zrm_L_act s m args below meth c RL cL_act 18 (some .int) D b0 tA sa sv) (hnt : ∀ x ∈ c.exceptionTable.toList, False) (hS : zSh K A n7 m7) (hE : zEn x r A n7 m7) (hw : zWd I x t f er S U A n7 m7 S) (hG : zGp S) (hg : g < n7) (hc : c9 < m7) (k1 : ∀ (J : zI) (S2 : zS), zWd J x t f er S2 (qPush S U) A n7 m7 S2 → zGp S2 → zfa I J x r A n7 m7 → Qp J (some (vi 1))) (k2 : ∀ J : zI, zWd J x t f er S U A n7 m7 S → zfa I J x r A n7 m7 → Qp J (some (vi 2))) :
    zG p l e zrm_L_act s m args below meth c 18 D b0 tA sa 0 0 (zQ below D b0 tA sa K args s zrm_L_act Qp Xp) K 169 [some (vr (x) 7), some (vr (A (0)) 17), some (vr (r) 16), some (vi ((nI g))), some (vi ((nI c9))), some (vi ((0 : Int32))), none, none, none, none, none, none, none, none, none, none, none, none] [] I := by
  have hA := hS.1
  have hM := hw.2
  have hW := hw.1.2.2.2.1
  have hn6 := hM.1.1
  have hm12 := hM.1.2
  have hgn := hM.ng
  have hcm := hM.nc
  have hlen := hW.len
  have hl0 := hlen g 0
  have hl1 := hlen g 1
  refine zr_aload1 X dL_act_169 ?_
  refine zr_getD (r := A (1)) X zf_L_146 rfl (by decide) (hS.2.1.2.1) dL_act_170 ?_
  refine zr_iload3 X dL_act_173 ?_
  refine zr_aaldD (k := 20) (n := g) (r := A (4 + 5 * g)) X rfl (show _ < 6 from (by first | decide | omega)) ((hS.2.2.1 g (by omega)).1) dL_act_174 ?_
  refine zr_iload5 X dL_act_175 ?_
  refine zr_callVQ (rm9 := zrm_X9_line) (As := [vi ((0 : Int32))]) (st := []) X zm_L_200 rfl rfl ⟨by decide, Nat.le_of_ble_eq_true rfl⟩ ⟨by decide, by decide⟩ (Nat.le_of_ble_eq_true rfl) dL_act_177 ?_
  refine zp0_X9_line hS (by omega) ?_
  refine zr_astore8 X (by decide) rfl dL_act_180 ?_
  refine zr_aload2 X dL_act_182 ?_
  refine zr_aload8 X dL_act_183 ?_
  refine zr_getI X zf_L_204 rfl dL_act_185 ?_
  refine zr_eq (x2 := (nI ((sL S g 0).length))) ((hw.2.2.2.2.2.1 g (by omega)).2.1.1) ?_
  refine zr_iconst (v := (1 : Int32)) X dL_act_188 (by decide) ?_
  refine zr_iadd X dL_act_189 ?_
  refine zr_eq (x2 := (nI (((sL S g 0).length) + 1))) (nI_add (((sL S g 0).length)) (1)) ?_
  refine zr_callVQ (rm9 := zrm_X11_below) (As := [vi ((nI (((sL S g 0).length) + 1)))]) (st := []) X zm_L_118 rfl rfl ⟨by decide, Nat.le_of_ble_eq_true rfl⟩ ⟨by decide, by decide⟩ (Nat.le_of_ble_eq_true rfl) dL_act_190 ?_
  refine zw_X11_below (b := (((sL S g 0).length) + 1)) hE hw (by omega) (by omega) (fun J131 v1 hv2 hw132 hf133 => ?_)
  refine zr_istore9 X (by decide) rfl dL_act_193 ?_
  refine zr_iload9 X dL_act_195 ?_
  refine zr_aload8 X dL_act_197 ?_
  refine zr_getI X zf_L_204 rfl dL_act_199 ?_
  refine zr_eq (x2 := (nI ((sL S g 0).length))) ((hw132.2.2.2.2.2.1 g (by omega)).2.1.1) ?_
  refine zr_nicmp_ne X (v1) (((sL S g 0).length)) (tgt := 225) (by omega) (by omega) dL_act_202 (by decide) (fun h3 => ?_) (fun h3 => ?_)
  · skip
    refine zr_iload9 X dL_act_225 ?_
    refine zr_nif_ne X (v1) (tgt := 275) (by omega) dL_act_227 (by decide) (fun h4 => ?_) (fun h4 => ?_)
    · skip
      refine zr_aload8 X dL_act_275 ?_
      refine zr_iload9 X dL_act_277 ?_
      refine zr_callVQ (rm9 := zrm_X10_take) (As := [vi ((nI v1))]) (st := []) X zm_L_216 rfl rfl ⟨by decide, Nat.le_of_ble_eq_true rfl⟩ ⟨by decide, by decide⟩ (Nat.le_of_ble_eq_true rfl) dL_act_279 ?_
      refine zp_X10_take (w := (sL S g 0)) (k := v1) (hw132.2.2.2.2.2.1 g (by omega)).2.1 (hS.2.2.1 g (by omega)).2.2.2.1 (fun z => absurd (hA _ _ z) (by omega)) (by omega) (by omega) (fun J134 hg5 hl6 => ?_)
      obtain ⟨hw135, hf136⟩ := zWd.stn hE hw132 (zgA.two zgA.rf hg5 (by unfold zvd; omega) (by unfold zvd; omega)) (zSt_L hA hw132.2 (show g < n7 by omega) (Or.inl ⟨rfl, rfl, rfl⟩) hg5 hl6)
      refine zr_istore10 X (by decide) rfl dL_act_282 ?_
      refine zr_aload0 X dL_act_284 ?_
      refine zr_iload3 X dL_act_285 ?_
      refine zr_iload5 X dL_act_286 ?_
      refine zr_iload9 X dL_act_288 ?_
      refine zr_callSX (rm9 := zrm_L_leave) (As := [vr (x) 7, vi ((nI g)), vi ((0 : Int32)), vi ((nI v1))]) (st := []) X zmh_L_207 rfl rfl ⟨by decide, Nat.le_of_ble_eq_true rfl⟩ ⟨by decide, by decide⟩ (Nat.le_of_ble_eq_true rfl) dL_act_290 ?_
      have hR7 : rLeave S (nI g) (0 : Int32) (nI v1) = (0, nI ((sL S g 0).length - 1)) ∧ sLeave S (nI g) (0 : Int32) (nI v1) = tL S g 0 ((sL S g 0).eraseIdx v1) := zR_leave (s := 0) (by omega) (by omega) (by decide) (hlen g 0) (by omega) (fun z => absurd z.1 h4)
      refine zL_leave hw135.1 (fun J137 hJ138 => ?_)
      rw [zif_0 hR7.1, zif_0 hR7.1, hR7.2] at hJ138
      obtain ⟨hw139, hf140⟩ := zWd.cls hE hw135 hJ138
      refine zr_eq (x2 := nI ((sL S g 0).length - 1)) (zcd_0 hR7.1) ?_
      refine zr_aload8 X dL_act_293 ?_
      refine zr_getI X zf_L_204 rfl dL_act_295 ?_
      refine zr_eq (x2 := (nI ((sL (tL S g 0 ((sL S g 0).eraseIdx v1)) g 0).length))) ((hw139.2.2.2.2.2.1 g (by omega)).2.1.1) ?_
      refine zr_eq (x2 := (nI ((sL S g 0).length - 1))) (by rw [tL_L, if_pos ⟨rfl, rfl⟩, zlen_erase (by omega)]) ?_
      refine zr_nicmp_ne X (((sL S g 0).length - 1)) (((sL S g 0).length - 1)) (tgt := 305) (by omega) (by omega) dL_act_298 (by decide) (fun h8 => ?_) (fun h8 => ?_)
      · exact absurd rfl h8
      · skip
        refine zr_iconst (v := (1 : Int32)) X dL_act_301 (by decide) ?_
        refine zr_goto (tgt := 306) X dL_act_302 (by decide) ?_
        refine zr_iret X (by decide) (by decide) dL_act_306 ?_
        exact k1 _ _ hw139 (hG.lines (fun _ hz => hG.2 g 0 (by decide) (zne_erase hz))) (zfa.tr (zfa.tr hf133 hf136) hf140)
    · skip
      refine zr_aload1 X dL_act_230 ?_
      refine zr_getD (r := A (1)) X zf_L_146 rfl (by decide) (hS.2.1.2.1) dL_act_231 ?_
      refine zr_iload3 X dL_act_234 ?_
      refine zr_aaldD (k := 20) (n := g) (r := A (4 + 5 * g)) X rfl (show _ < 6 from (by first | decide | omega)) ((hS.2.2.1 g (by omega)).1) dL_act_235 ?_
      refine zr_getZ X zf_L_209 rfl rfl (by decide) dL_act_236 (fun hz9 => ?_)
      refine zr_eq (x2 := (sG S g 3)) ((hw132.2.2.2.2.2.1 g (by omega)).1 3 (by decide)) ?_
      have hz9 : (sG S g 3) = 0 ∨ (sG S g 3) = 1 := hz9.imp (fun h => Eq.trans (Eq.symm ((hw132.2.2.2.2.2.1 g (by omega)).1 3 (by decide))) h) (fun h => Eq.trans (Eq.symm ((hw132.2.2.2.2.2.1 g (by omega)).1 3 (by decide))) h)
      refine zr_if_eq (tgt := 275) X dL_act_239 (by decide) (fun h10 => ?_) (fun h10 => ?_)
      · skip
        refine zr_aload8 X dL_act_275 ?_
        refine zr_iload9 X dL_act_277 ?_
        refine zr_callVQ (rm9 := zrm_X10_take) (As := [vi ((nI v1))]) (st := []) X zm_L_216 rfl rfl ⟨by decide, Nat.le_of_ble_eq_true rfl⟩ ⟨by decide, by decide⟩ (Nat.le_of_ble_eq_true rfl) dL_act_279 ?_
        refine zp_X10_take (w := (sL S g 0)) (k := v1) (hw132.2.2.2.2.2.1 g (by omega)).2.1 (hS.2.2.1 g (by omega)).2.2.2.1 (fun z => absurd (hA _ _ z) (by omega)) (by omega) (by omega) (fun J141 hg11 hl12 => ?_)
        obtain ⟨hw142, hf143⟩ := zWd.stn hE hw132 (zgA.two zgA.rf hg11 (by unfold zvd; omega) (by unfold zvd; omega)) (zSt_L hA hw132.2 (show g < n7 by omega) (Or.inl ⟨rfl, rfl, rfl⟩) hg11 hl12)
        refine zr_istore10 X (by decide) rfl dL_act_282 ?_
        refine zr_aload0 X dL_act_284 ?_
        refine zr_iload3 X dL_act_285 ?_
        refine zr_iload5 X dL_act_286 ?_
        refine zr_iload9 X dL_act_288 ?_
        refine zr_callSX (rm9 := zrm_L_leave) (As := [vr (x) 7, vi ((nI g)), vi ((0 : Int32)), vi ((nI v1))]) (st := []) X zmh_L_207 rfl rfl ⟨by decide, Nat.le_of_ble_eq_true rfl⟩ ⟨by decide, by decide⟩ (Nat.le_of_ble_eq_true rfl) dL_act_290 ?_
        have hR13 : rLeave S (nI g) (0 : Int32) (nI v1) = (0, nI ((sL S g 0).length - 1)) ∧ sLeave S (nI g) (0 : Int32) (nI v1) = tL S g 0 ((sL S g 0).eraseIdx v1) := zR_leave (s := 0) (by omega) (by omega) (by decide) (hlen g 0) (by omega) (fun z => absurd (h10.symm.trans z.2.1) (by decide))
        refine zL_leave hw142.1 (fun J144 hJ145 => ?_)
        rw [zif_0 hR13.1, zif_0 hR13.1, hR13.2] at hJ145
        obtain ⟨hw146, hf147⟩ := zWd.cls hE hw142 hJ145
        refine zr_eq (x2 := nI ((sL S g 0).length - 1)) (zcd_0 hR13.1) ?_
        refine zr_aload8 X dL_act_293 ?_
        refine zr_getI X zf_L_204 rfl dL_act_295 ?_
        refine zr_eq (x2 := (nI ((sL (tL S g 0 ((sL S g 0).eraseIdx v1)) g 0).length))) ((hw146.2.2.2.2.2.1 g (by omega)).2.1.1) ?_
        refine zr_eq (x2 := (nI ((sL S g 0).length - 1))) (by rw [tL_L, if_pos ⟨rfl, rfl⟩, zlen_erase (by omega)]) ?_
        refine zr_nicmp_ne X (((sL S g 0).length - 1)) (((sL S g 0).length - 1)) (tgt := 305) (by omega) (by omega) dL_act_298 (by decide) (fun h14 => ?_) (fun h14 => ?_)
        · exact absurd rfl h14
        · skip
          refine zr_iconst (v := (1 : Int32)) X dL_act_301 (by decide) ?_
          refine zr_goto (tgt := 306) X dL_act_302 (by decide) ?_
          refine zr_iret X (by decide) (by decide) dL_act_306 ?_
          exact k1 _ _ hw146 (hG.lines (fun _ hz => hG.2 g 0 (by decide) (zne_erase hz))) (zfa.tr (zfa.tr hf133 hf143) hf147)
      · skip
        refine zr_aload1 X dL_act_242 ?_
        refine zr_getD (r := A (1)) X zf_L_146 rfl (by decide) (hS.2.1.2.1) dL_act_243 ?_
        refine zr_iload3 X dL_act_246 ?_
        refine zr_aaldD (k := 20) (n := g) (r := A (4 + 5 * g)) X rfl (show _ < 6 from (by first | decide | omega)) ((hS.2.2.1 g (by omega)).1) dL_act_247 ?_
        refine zr_getI X zf_L_213 rfl dL_act_248 ?_
        refine zr_eq (x2 := ((sG S g 2) - 1)) ((hw132.2.2.2.2.2.1 g (by omega)).1 2 (by decide)) ?_
        refine zr_iload5 X dL_act_251 ?_
        refine zr_icmp_ne (tgt := 275) X dL_act_253 (by decide) (fun h15 => ?_) (fun h15 => ?_)
        · skip
          refine zr_aload8 X dL_act_275 ?_
          refine zr_iload9 X dL_act_277 ?_
          refine zr_callVQ (rm9 := zrm_X10_take) (As := [vi ((nI v1))]) (st := []) X zm_L_216 rfl rfl ⟨by decide, Nat.le_of_ble_eq_true rfl⟩ ⟨by decide, by decide⟩ (Nat.le_of_ble_eq_true rfl) dL_act_279 ?_
          refine zp_X10_take (w := (sL S g 0)) (k := v1) (hw132.2.2.2.2.2.1 g (by omega)).2.1 (hS.2.2.1 g (by omega)).2.2.2.1 (fun z => absurd (hA _ _ z) (by omega)) (by omega) (by omega) (fun J148 hg16 hl17 => ?_)
          obtain ⟨hw149, hf150⟩ := zWd.stn hE hw132 (zgA.two zgA.rf hg16 (by unfold zvd; omega) (by unfold zvd; omega)) (zSt_L hA hw132.2 (show g < n7 by omega) (Or.inl ⟨rfl, rfl, rfl⟩) hg16 hl17)
          refine zr_istore10 X (by decide) rfl dL_act_282 ?_
          refine zr_aload0 X dL_act_284 ?_
          refine zr_iload3 X dL_act_285 ?_
          refine zr_iload5 X dL_act_286 ?_
          refine zr_iload9 X dL_act_288 ?_
          refine zr_callSX (rm9 := zrm_L_leave) (As := [vr (x) 7, vi ((nI g)), vi ((0 : Int32)), vi ((nI v1))]) (st := []) X zmh_L_207 rfl rfl ⟨by decide, Nat.le_of_ble_eq_true rfl⟩ ⟨by decide, by decide⟩ (Nat.le_of_ble_eq_true rfl) dL_act_290 ?_
          have hR18 : rLeave S (nI g) (0 : Int32) (nI v1) = (0, nI ((sL S g 0).length - 1)) ∧ sLeave S (nI g) (0 : Int32) (nI v1) = tL S g 0 ((sL S g 0).eraseIdx v1) := zR_leave (s := 0) (by omega) (by omega) (by decide) (hlen g 0) (by omega) (fun z => h15 (by rw [z.2.2]; rfl))
          refine zL_leave hw149.1 (fun J151 hJ152 => ?_)
          rw [zif_0 hR18.1, zif_0 hR18.1, hR18.2] at hJ152
          obtain ⟨hw153, hf154⟩ := zWd.cls hE hw149 hJ152
          refine zr_eq (x2 := nI ((sL S g 0).length - 1)) (zcd_0 hR18.1) ?_
          refine zr_aload8 X dL_act_293 ?_
          refine zr_getI X zf_L_204 rfl dL_act_295 ?_
          refine zr_eq (x2 := (nI ((sL (tL S g 0 ((sL S g 0).eraseIdx v1)) g 0).length))) ((hw153.2.2.2.2.2.1 g (by omega)).2.1.1) ?_
          refine zr_eq (x2 := (nI ((sL S g 0).length - 1))) (by rw [tL_L, if_pos ⟨rfl, rfl⟩, zlen_erase (by omega)]) ?_
          refine zr_nicmp_ne X (((sL S g 0).length - 1)) (((sL S g 0).length - 1)) (tgt := 305) (by omega) (by omega) dL_act_298 (by decide) (fun h19 => ?_) (fun h19 => ?_)
          · exact absurd rfl h19
          · skip
            refine zr_iconst (v := (1 : Int32)) X dL_act_301 (by decide) ?_
            refine zr_goto (tgt := 306) X dL_act_302 (by decide) ?_
            refine zr_iret X (by decide) (by decide) dL_act_306 ?_
            exact k1 _ _ hw153 (hG.lines (fun _ hz => hG.2 g 0 (by decide) (zne_erase hz))) (zfa.tr (zfa.tr hf133 hf150) hf154)
        · skip
          refine zr_aload0 X dL_act_256 ?_
          refine zr_iload3 X dL_act_257 ?_
          refine zr_iload5 X dL_act_258 ?_
          refine zr_iconst (v := (0 : Int32)) X dL_act_260 (by decide) ?_
          refine zr_callSX (rm9 := zrm_L_leave) (As := [vr (x) 7, vi ((nI g)), vi ((0 : Int32)), vi ((0 : Int32))]) (st := []) X zmh_L_207 rfl rfl ⟨by decide, Nat.le_of_ble_eq_true rfl⟩ ⟨by decide, by decide⟩ (Nat.le_of_ble_eq_true rfl) dL_act_261 ?_
          have hR20 : rLeave S (nI g) (0 : Int32) (0 : Int32) = (4, 0) := zR_leaveD (s := 0) (by omega) (by omega) (by decide) (hlen g 0) (by omega) ((by assumption : sG S g 3 = 0 ∨ sG S g 3 = 1).resolve_left h10) (zlat.mp h15)
          refine zL_leave hw132.1 (fun J155 hJ156 => ?_)
          rw [zif_n hR20, zif_n hR20] at hJ156
          obtain ⟨hw157, hf158⟩ := zWd.cls hE hw132 hJ156
          refine zr_eq (x2 := (-2000000099 : Int32)) ((zcd_n hR20).trans rfl) ?_
          refine zr_ldc (v := -2000000099) X dL_act_264 zk_L_98 ?_
          refine zr_icmp_ne (tgt := 273) X dL_act_266 (by decide) (fun h => absurd h (by decide)) (fun _ => ?_)
          refine zr_iconst (v := (2 : Int32)) X dL_act_269 (by decide) ?_
          refine zr_goto (tgt := 274) X dL_act_270 (by decide) ?_
          refine zr_iret X (by decide) (by decide) dL_act_274 ?_
          exact k2 _ hw157 (zfa.tr hf133 hf158)
  · skip
    refine zr_aload0 X dL_act_205 ?_
    refine zr_iload3 X dL_act_206 ?_
    refine zr_iload5 X dL_act_207 ?_
    refine zr_iload9 X dL_act_209 ?_
    refine zr_callSX (rm9 := zrm_L_leave) (As := [vr (x) 7, vi ((nI g)), vi ((0 : Int32)), vi ((nI v1))]) (st := []) X zmh_L_207 rfl rfl ⟨by decide, Nat.le_of_ble_eq_true rfl⟩ ⟨by decide, by decide⟩ (Nat.le_of_ble_eq_true rfl) dL_act_211 ?_
    have hR21 : rLeave S (nI g) (0 : Int32) (nI v1) = (3, 0) := (by rw [h3]; exact zR_leaveN (s := 0) (by omega) (by omega) (by decide) (hlen g 0))
    refine zL_leave hw132.1 (fun J159 hJ160 => ?_)
    rw [zif_n hR21, zif_n hR21] at hJ160
    obtain ⟨hw161, hf162⟩ := zWd.cls hE hw132 hJ160
    refine zr_eq (x2 := (-2000000100 : Int32)) ((zcd_n hR21).trans rfl) ?_
    refine zr_ldc (v := -2000000100) X dL_act_214 zk_L_65 ?_
    refine zr_icmp_ne (tgt := 223) X dL_act_216 (by decide) (fun h => absurd h (by decide)) (fun _ => ?_)
    refine zr_iconst (v := (2 : Int32)) X dL_act_219 (by decide) ?_
    refine zr_goto (tgt := 224) X dL_act_220 (by decide) ?_
    refine zr_iret X (by decide) (by decide) dL_act_224 ?_
    exact k2 _ hw161 (zfa.tr hf133 hf162)
set_option maxRecDepth 20000 in
theorem za169_1 {l : Launch} {D : va_G} {b0 : Nat} {tA : Nat → ClassId} {sa sv : Nat → Nat} {K : zKt} {I : zI} {Qp : zI → Option AV → Prop} {Xp : String → zI → Prop} {p : Program} {e : Env} {s : State} {m : MethodId} {args : Array Value} {below : List Frame} {meth : Method} {c : Code} {x r f g c9 : Nat} {t : Nat → Nat} {er : Int32} {S : zS} {U : List zS} {A : Nat → Nat} {n7 m7 : Nat}
    (X : zX p l e zrm_L_act s m args below meth c RL cL_act 18 (some .int) D b0 tA sa sv) (hnt : ∀ x ∈ c.exceptionTable.toList, False) (hS : zSh K A n7 m7) (hE : zEn x r A n7 m7) (hw : zWd I x t f er S U A n7 m7 S) (hG : zGp S) (hg : g < n7) (hc : c9 < m7) (k1 : ∀ (J : zI) (S2 : zS), zWd J x t f er S2 (qPush S U) A n7 m7 S2 → zGp S2 → zfa I J x r A n7 m7 → Qp J (some (vi 1))) (k2 : ∀ J : zI, zWd J x t f er S U A n7 m7 S → zfa I J x r A n7 m7 → Qp J (some (vi 2))) :
    zG p l e zrm_L_act s m args below meth c 18 D b0 tA sa 0 0 (zQ below D b0 tA sa K args s zrm_L_act Qp Xp) K 169 [some (vr (x) 7), some (vr (A (0)) 17), some (vr (r) 16), some (vi ((nI g))), some (vi ((nI c9))), some (vi ((1 : Int32))), none, none, none, none, none, none, none, none, none, none, none, none] [] I := by
  have hA := hS.1
  have hM := hw.2
  have hW := hw.1.2.2.2.1
  have hn6 := hM.1.1
  have hm12 := hM.1.2
  have hgn := hM.ng
  have hcm := hM.nc
  have hlen := hW.len
  have hl0 := hlen g 0
  have hl1 := hlen g 1
  refine zr_aload1 X dL_act_169 ?_
  refine zr_getD (r := A (1)) X zf_L_146 rfl (by decide) (hS.2.1.2.1) dL_act_170 ?_
  refine zr_iload3 X dL_act_173 ?_
  refine zr_aaldD (k := 20) (n := g) (r := A (4 + 5 * g)) X rfl (show _ < 6 from (by first | decide | omega)) ((hS.2.2.1 g (by omega)).1) dL_act_174 ?_
  refine zr_iload5 X dL_act_175 ?_
  refine zr_callVQ (rm9 := zrm_X9_line) (As := [vi ((1 : Int32))]) (st := []) X zm_L_200 rfl rfl ⟨by decide, Nat.le_of_ble_eq_true rfl⟩ ⟨by decide, by decide⟩ (Nat.le_of_ble_eq_true rfl) dL_act_177 ?_
  refine zp1_X9_line hS (by omega) ?_
  refine zr_astore8 X (by decide) rfl dL_act_180 ?_
  refine zr_aload2 X dL_act_182 ?_
  refine zr_aload8 X dL_act_183 ?_
  refine zr_getI X zf_L_204 rfl dL_act_185 ?_
  refine zr_eq (x2 := (nI ((sL S g 1).length))) ((hw.2.2.2.2.2.1 g (by omega)).2.2.1) ?_
  refine zr_iconst (v := (1 : Int32)) X dL_act_188 (by decide) ?_
  refine zr_iadd X dL_act_189 ?_
  refine zr_eq (x2 := (nI (((sL S g 1).length) + 1))) (nI_add (((sL S g 1).length)) (1)) ?_
  refine zr_callVQ (rm9 := zrm_X11_below) (As := [vi ((nI (((sL S g 1).length) + 1)))]) (st := []) X zm_L_118 rfl rfl ⟨by decide, Nat.le_of_ble_eq_true rfl⟩ ⟨by decide, by decide⟩ (Nat.le_of_ble_eq_true rfl) dL_act_190 ?_
  refine zw_X11_below (b := (((sL S g 1).length) + 1)) hE hw (by omega) (by omega) (fun J163 v1 hv2 hw164 hf165 => ?_)
  refine zr_istore9 X (by decide) rfl dL_act_193 ?_
  refine zr_iload9 X dL_act_195 ?_
  refine zr_aload8 X dL_act_197 ?_
  refine zr_getI X zf_L_204 rfl dL_act_199 ?_
  refine zr_eq (x2 := (nI ((sL S g 1).length))) ((hw164.2.2.2.2.2.1 g (by omega)).2.2.1) ?_
  refine zr_nicmp_ne X (v1) (((sL S g 1).length)) (tgt := 225) (by omega) (by omega) dL_act_202 (by decide) (fun h3 => ?_) (fun h3 => ?_)
  · skip
    refine zr_iload9 X dL_act_225 ?_
    refine zr_nif_ne X (v1) (tgt := 275) (by omega) dL_act_227 (by decide) (fun h4 => ?_) (fun h4 => ?_)
    · skip
      refine zr_aload8 X dL_act_275 ?_
      refine zr_iload9 X dL_act_277 ?_
      refine zr_callVQ (rm9 := zrm_X10_take) (As := [vi ((nI v1))]) (st := []) X zm_L_216 rfl rfl ⟨by decide, Nat.le_of_ble_eq_true rfl⟩ ⟨by decide, by decide⟩ (Nat.le_of_ble_eq_true rfl) dL_act_279 ?_
      refine zp_X10_take (w := (sL S g 1)) (k := v1) (hw164.2.2.2.2.2.1 g (by omega)).2.2 (hS.2.2.1 g (by omega)).2.2.2.2 (fun z => absurd (hA _ _ z) (by omega)) (by omega) (by omega) (fun J166 hg5 hl6 => ?_)
      obtain ⟨hw167, hf168⟩ := zWd.stn hE hw164 (zgA.two zgA.rf hg5 (by unfold zvd; omega) (by unfold zvd; omega)) (zSt_L hA hw164.2 (show g < n7 by omega) (Or.inr ⟨rfl, rfl, rfl⟩) hg5 hl6)
      refine zr_istore10 X (by decide) rfl dL_act_282 ?_
      refine zr_aload0 X dL_act_284 ?_
      refine zr_iload3 X dL_act_285 ?_
      refine zr_iload5 X dL_act_286 ?_
      refine zr_iload9 X dL_act_288 ?_
      refine zr_callSX (rm9 := zrm_L_leave) (As := [vr (x) 7, vi ((nI g)), vi ((1 : Int32)), vi ((nI v1))]) (st := []) X zmh_L_207 rfl rfl ⟨by decide, Nat.le_of_ble_eq_true rfl⟩ ⟨by decide, by decide⟩ (Nat.le_of_ble_eq_true rfl) dL_act_290 ?_
      have hR7 : rLeave S (nI g) (1 : Int32) (nI v1) = (0, nI ((sL S g 1).length - 1)) ∧ sLeave S (nI g) (1 : Int32) (nI v1) = tL S g 1 ((sL S g 1).eraseIdx v1) := zR_leave (s := 1) (by omega) (by omega) (by decide) (hlen g 1) (by omega) (fun z => absurd z.1 h4)
      refine zL_leave hw167.1 (fun J169 hJ170 => ?_)
      rw [zif_0 hR7.1, zif_0 hR7.1, hR7.2] at hJ170
      obtain ⟨hw171, hf172⟩ := zWd.cls hE hw167 hJ170
      refine zr_eq (x2 := nI ((sL S g 1).length - 1)) (zcd_0 hR7.1) ?_
      refine zr_aload8 X dL_act_293 ?_
      refine zr_getI X zf_L_204 rfl dL_act_295 ?_
      refine zr_eq (x2 := (nI ((sL (tL S g 1 ((sL S g 1).eraseIdx v1)) g 1).length))) ((hw171.2.2.2.2.2.1 g (by omega)).2.2.1) ?_
      refine zr_eq (x2 := (nI ((sL S g 1).length - 1))) (by rw [tL_L, if_pos ⟨rfl, rfl⟩, zlen_erase (by omega)]) ?_
      refine zr_nicmp_ne X (((sL S g 1).length - 1)) (((sL S g 1).length - 1)) (tgt := 305) (by omega) (by omega) dL_act_298 (by decide) (fun h8 => ?_) (fun h8 => ?_)
      · exact absurd rfl h8
      · skip
        refine zr_iconst (v := (1 : Int32)) X dL_act_301 (by decide) ?_
        refine zr_goto (tgt := 306) X dL_act_302 (by decide) ?_
        refine zr_iret X (by decide) (by decide) dL_act_306 ?_
        exact k1 _ _ hw171 (hG.lines (fun _ hz => hG.2 g 1 (by decide) (zne_erase hz))) (zfa.tr (zfa.tr hf165 hf168) hf172)
    · skip
      refine zr_aload1 X dL_act_230 ?_
      refine zr_getD (r := A (1)) X zf_L_146 rfl (by decide) (hS.2.1.2.1) dL_act_231 ?_
      refine zr_iload3 X dL_act_234 ?_
      refine zr_aaldD (k := 20) (n := g) (r := A (4 + 5 * g)) X rfl (show _ < 6 from (by first | decide | omega)) ((hS.2.2.1 g (by omega)).1) dL_act_235 ?_
      refine zr_getZ X zf_L_209 rfl rfl (by decide) dL_act_236 (fun hz9 => ?_)
      refine zr_eq (x2 := (sG S g 3)) ((hw164.2.2.2.2.2.1 g (by omega)).1 3 (by decide)) ?_
      have hz9 : (sG S g 3) = 0 ∨ (sG S g 3) = 1 := hz9.imp (fun h => Eq.trans (Eq.symm ((hw164.2.2.2.2.2.1 g (by omega)).1 3 (by decide))) h) (fun h => Eq.trans (Eq.symm ((hw164.2.2.2.2.2.1 g (by omega)).1 3 (by decide))) h)
      refine zr_if_eq (tgt := 275) X dL_act_239 (by decide) (fun h10 => ?_) (fun h10 => ?_)
      · skip
        refine zr_aload8 X dL_act_275 ?_
        refine zr_iload9 X dL_act_277 ?_
        refine zr_callVQ (rm9 := zrm_X10_take) (As := [vi ((nI v1))]) (st := []) X zm_L_216 rfl rfl ⟨by decide, Nat.le_of_ble_eq_true rfl⟩ ⟨by decide, by decide⟩ (Nat.le_of_ble_eq_true rfl) dL_act_279 ?_
        refine zp_X10_take (w := (sL S g 1)) (k := v1) (hw164.2.2.2.2.2.1 g (by omega)).2.2 (hS.2.2.1 g (by omega)).2.2.2.2 (fun z => absurd (hA _ _ z) (by omega)) (by omega) (by omega) (fun J173 hg11 hl12 => ?_)
        obtain ⟨hw174, hf175⟩ := zWd.stn hE hw164 (zgA.two zgA.rf hg11 (by unfold zvd; omega) (by unfold zvd; omega)) (zSt_L hA hw164.2 (show g < n7 by omega) (Or.inr ⟨rfl, rfl, rfl⟩) hg11 hl12)
        refine zr_istore10 X (by decide) rfl dL_act_282 ?_
        refine zr_aload0 X dL_act_284 ?_
        refine zr_iload3 X dL_act_285 ?_
        refine zr_iload5 X dL_act_286 ?_
        refine zr_iload9 X dL_act_288 ?_
        refine zr_callSX (rm9 := zrm_L_leave) (As := [vr (x) 7, vi ((nI g)), vi ((1 : Int32)), vi ((nI v1))]) (st := []) X zmh_L_207 rfl rfl ⟨by decide, Nat.le_of_ble_eq_true rfl⟩ ⟨by decide, by decide⟩ (Nat.le_of_ble_eq_true rfl) dL_act_290 ?_
        have hR13 : rLeave S (nI g) (1 : Int32) (nI v1) = (0, nI ((sL S g 1).length - 1)) ∧ sLeave S (nI g) (1 : Int32) (nI v1) = tL S g 1 ((sL S g 1).eraseIdx v1) := zR_leave (s := 1) (by omega) (by omega) (by decide) (hlen g 1) (by omega) (fun z => absurd (h10.symm.trans z.2.1) (by decide))
        refine zL_leave hw174.1 (fun J176 hJ177 => ?_)
        rw [zif_0 hR13.1, zif_0 hR13.1, hR13.2] at hJ177
        obtain ⟨hw178, hf179⟩ := zWd.cls hE hw174 hJ177
        refine zr_eq (x2 := nI ((sL S g 1).length - 1)) (zcd_0 hR13.1) ?_
        refine zr_aload8 X dL_act_293 ?_
        refine zr_getI X zf_L_204 rfl dL_act_295 ?_
        refine zr_eq (x2 := (nI ((sL (tL S g 1 ((sL S g 1).eraseIdx v1)) g 1).length))) ((hw178.2.2.2.2.2.1 g (by omega)).2.2.1) ?_
        refine zr_eq (x2 := (nI ((sL S g 1).length - 1))) (by rw [tL_L, if_pos ⟨rfl, rfl⟩, zlen_erase (by omega)]) ?_
        refine zr_nicmp_ne X (((sL S g 1).length - 1)) (((sL S g 1).length - 1)) (tgt := 305) (by omega) (by omega) dL_act_298 (by decide) (fun h14 => ?_) (fun h14 => ?_)
        · exact absurd rfl h14
        · skip
          refine zr_iconst (v := (1 : Int32)) X dL_act_301 (by decide) ?_
          refine zr_goto (tgt := 306) X dL_act_302 (by decide) ?_
          refine zr_iret X (by decide) (by decide) dL_act_306 ?_
          exact k1 _ _ hw178 (hG.lines (fun _ hz => hG.2 g 1 (by decide) (zne_erase hz))) (zfa.tr (zfa.tr hf165 hf175) hf179)
      · skip
        refine zr_aload1 X dL_act_242 ?_
        refine zr_getD (r := A (1)) X zf_L_146 rfl (by decide) (hS.2.1.2.1) dL_act_243 ?_
        refine zr_iload3 X dL_act_246 ?_
        refine zr_aaldD (k := 20) (n := g) (r := A (4 + 5 * g)) X rfl (show _ < 6 from (by first | decide | omega)) ((hS.2.2.1 g (by omega)).1) dL_act_247 ?_
        refine zr_getI X zf_L_213 rfl dL_act_248 ?_
        refine zr_eq (x2 := ((sG S g 2) - 1)) ((hw164.2.2.2.2.2.1 g (by omega)).1 2 (by decide)) ?_
        refine zr_iload5 X dL_act_251 ?_
        refine zr_icmp_ne (tgt := 275) X dL_act_253 (by decide) (fun h15 => ?_) (fun h15 => ?_)
        · skip
          refine zr_aload8 X dL_act_275 ?_
          refine zr_iload9 X dL_act_277 ?_
          refine zr_callVQ (rm9 := zrm_X10_take) (As := [vi ((nI v1))]) (st := []) X zm_L_216 rfl rfl ⟨by decide, Nat.le_of_ble_eq_true rfl⟩ ⟨by decide, by decide⟩ (Nat.le_of_ble_eq_true rfl) dL_act_279 ?_
          refine zp_X10_take (w := (sL S g 1)) (k := v1) (hw164.2.2.2.2.2.1 g (by omega)).2.2 (hS.2.2.1 g (by omega)).2.2.2.2 (fun z => absurd (hA _ _ z) (by omega)) (by omega) (by omega) (fun J180 hg16 hl17 => ?_)
          obtain ⟨hw181, hf182⟩ := zWd.stn hE hw164 (zgA.two zgA.rf hg16 (by unfold zvd; omega) (by unfold zvd; omega)) (zSt_L hA hw164.2 (show g < n7 by omega) (Or.inr ⟨rfl, rfl, rfl⟩) hg16 hl17)
          refine zr_istore10 X (by decide) rfl dL_act_282 ?_
          refine zr_aload0 X dL_act_284 ?_
          refine zr_iload3 X dL_act_285 ?_
          refine zr_iload5 X dL_act_286 ?_
          refine zr_iload9 X dL_act_288 ?_
          refine zr_callSX (rm9 := zrm_L_leave) (As := [vr (x) 7, vi ((nI g)), vi ((1 : Int32)), vi ((nI v1))]) (st := []) X zmh_L_207 rfl rfl ⟨by decide, Nat.le_of_ble_eq_true rfl⟩ ⟨by decide, by decide⟩ (Nat.le_of_ble_eq_true rfl) dL_act_290 ?_
          have hR18 : rLeave S (nI g) (1 : Int32) (nI v1) = (0, nI ((sL S g 1).length - 1)) ∧ sLeave S (nI g) (1 : Int32) (nI v1) = tL S g 1 ((sL S g 1).eraseIdx v1) := zR_leave (s := 1) (by omega) (by omega) (by decide) (hlen g 1) (by omega) (fun z => h15 (by rw [z.2.2]; rfl))
          refine zL_leave hw181.1 (fun J183 hJ184 => ?_)
          rw [zif_0 hR18.1, zif_0 hR18.1, hR18.2] at hJ184
          obtain ⟨hw185, hf186⟩ := zWd.cls hE hw181 hJ184
          refine zr_eq (x2 := nI ((sL S g 1).length - 1)) (zcd_0 hR18.1) ?_
          refine zr_aload8 X dL_act_293 ?_
          refine zr_getI X zf_L_204 rfl dL_act_295 ?_
          refine zr_eq (x2 := (nI ((sL (tL S g 1 ((sL S g 1).eraseIdx v1)) g 1).length))) ((hw185.2.2.2.2.2.1 g (by omega)).2.2.1) ?_
          refine zr_eq (x2 := (nI ((sL S g 1).length - 1))) (by rw [tL_L, if_pos ⟨rfl, rfl⟩, zlen_erase (by omega)]) ?_
          refine zr_nicmp_ne X (((sL S g 1).length - 1)) (((sL S g 1).length - 1)) (tgt := 305) (by omega) (by omega) dL_act_298 (by decide) (fun h19 => ?_) (fun h19 => ?_)
          · exact absurd rfl h19
          · skip
            refine zr_iconst (v := (1 : Int32)) X dL_act_301 (by decide) ?_
            refine zr_goto (tgt := 306) X dL_act_302 (by decide) ?_
            refine zr_iret X (by decide) (by decide) dL_act_306 ?_
            exact k1 _ _ hw185 (hG.lines (fun _ hz => hG.2 g 1 (by decide) (zne_erase hz))) (zfa.tr (zfa.tr hf165 hf182) hf186)
        · skip
          refine zr_aload0 X dL_act_256 ?_
          refine zr_iload3 X dL_act_257 ?_
          refine zr_iload5 X dL_act_258 ?_
          refine zr_iconst (v := (0 : Int32)) X dL_act_260 (by decide) ?_
          refine zr_callSX (rm9 := zrm_L_leave) (As := [vr (x) 7, vi ((nI g)), vi ((1 : Int32)), vi ((0 : Int32))]) (st := []) X zmh_L_207 rfl rfl ⟨by decide, Nat.le_of_ble_eq_true rfl⟩ ⟨by decide, by decide⟩ (Nat.le_of_ble_eq_true rfl) dL_act_261 ?_
          have hR20 : rLeave S (nI g) (1 : Int32) (0 : Int32) = (4, 0) := zR_leaveD (s := 1) (by omega) (by omega) (by decide) (hlen g 1) (by omega) ((by assumption : sG S g 3 = 0 ∨ sG S g 3 = 1).resolve_left h10) (zlat2 h15)
          refine zL_leave hw164.1 (fun J187 hJ188 => ?_)
          rw [zif_n hR20, zif_n hR20] at hJ188
          obtain ⟨hw189, hf190⟩ := zWd.cls hE hw164 hJ188
          refine zr_eq (x2 := (-2000000099 : Int32)) ((zcd_n hR20).trans rfl) ?_
          refine zr_ldc (v := -2000000099) X dL_act_264 zk_L_98 ?_
          refine zr_icmp_ne (tgt := 273) X dL_act_266 (by decide) (fun h => absurd h (by decide)) (fun _ => ?_)
          refine zr_iconst (v := (2 : Int32)) X dL_act_269 (by decide) ?_
          refine zr_goto (tgt := 274) X dL_act_270 (by decide) ?_
          refine zr_iret X (by decide) (by decide) dL_act_274 ?_
          exact k2 _ hw189 (zfa.tr hf165 hf190)
  · skip
    refine zr_aload0 X dL_act_205 ?_
    refine zr_iload3 X dL_act_206 ?_
    refine zr_iload5 X dL_act_207 ?_
    refine zr_iload9 X dL_act_209 ?_
    refine zr_callSX (rm9 := zrm_L_leave) (As := [vr (x) 7, vi ((nI g)), vi ((1 : Int32)), vi ((nI v1))]) (st := []) X zmh_L_207 rfl rfl ⟨by decide, Nat.le_of_ble_eq_true rfl⟩ ⟨by decide, by decide⟩ (Nat.le_of_ble_eq_true rfl) dL_act_211 ?_
    have hR21 : rLeave S (nI g) (1 : Int32) (nI v1) = (3, 0) := (by rw [h3]; exact zR_leaveN (s := 1) (by omega) (by omega) (by decide) (hlen g 1))
    refine zL_leave hw164.1 (fun J191 hJ192 => ?_)
    rw [zif_n hR21, zif_n hR21] at hJ192
    obtain ⟨hw193, hf194⟩ := zWd.cls hE hw164 hJ192
    refine zr_eq (x2 := (-2000000100 : Int32)) ((zcd_n hR21).trans rfl) ?_
    refine zr_ldc (v := -2000000100) X dL_act_214 zk_L_65 ?_
    refine zr_icmp_ne (tgt := 223) X dL_act_216 (by decide) (fun h => absurd h (by decide)) (fun _ => ?_)
    refine zr_iconst (v := (2 : Int32)) X dL_act_219 (by decide) ?_
    refine zr_goto (tgt := 224) X dL_act_220 (by decide) ?_
    refine zr_iret X (by decide) (by decide) dL_act_224 ?_
    exact k2 _ hw193 (zfa.tr hf165 hf194)
