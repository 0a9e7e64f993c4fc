/-! ===== who is served next ===== -/
theorem zsub1 {x : Int32} : x - 1 = 0 ↔ x = 1 := by
  constructor
  · intro h
    have := congrArg (fun z => z + 1) h
    simpa using this
  · intro h; subst h; rfl
theorem zn_X1_sideServedNext {l : Launch} {D : va_G} {b0 : Nat} {tA : Nat → ClassId} {sa sv : Nat → Nat} {K : zKt} {I : zI} {Qp : zI → Option AV → Prop} {Xp : String → zI → Prop} {a g : Nat} {S : zS} {x : Int32} (hR : zRw I a S) (hg : g < 6) (hx : nI (qTurn S g) = x) (k1 : Qp I (some (vi x))) :
    zC l D b0 tA sa sv K yX1_sideServedNext (.code yX1_sideServedNext cX1_sideServedNext 1 (some .int)) zrm_X1_sideServedNext [vr (a + 1 + 2 + 5 * g) 1] I Qp Xp := by
  subst hx
  obtain ⟨⟨e0, -, -, -, -, -, e8⟩, l0, l1⟩ := hR.2.2.1 g hg
  have b0 := l0.2.1
  have b1 := l1.2.1
  refine zp_X1_sideServedNext (fun h1 h2 h3 h4 => ?_) (fun h1 h2 h3 h4 => ?_) (fun h1 h2 h3 h4 => ?_) (fun h1 h2 h3 h4 => ?_) (fun h1 h2 => ?_) (fun h1 => ?_)
  · rw [l0.1, l1.1, nI_eq (by omega) (by omega)] at h3
    rw [qTurn, if_neg (fun z => h1 (e0.trans z)), if_neg (fun z => h2 (e0.trans z)), if_neg (fun z => z h3), if_neg (fun z => h4 (e8.trans (zsub1.mpr z)))] at k1
    exact k1
  · rw [l0.1, l1.1, nI_eq (by omega) (by omega)] at h3
    rw [qTurn, if_neg (fun z => h1 (e0.trans z)), if_neg (fun z => h2 (e0.trans z)), if_neg (fun z => z h3), if_pos (zsub1.mp (e8.symm.trans h4))] at k1
    exact k1
  · rw [l0.1, l1.1, nI_eq (by omega) (by omega)] at h3
    rw [l0.1, l1.1, nI_leI (by omega) (by omega)] at h4
    rw [qTurn, if_neg (fun z => h1 (e0.trans z)), if_neg (fun z => h2 (e0.trans z)), if_pos h3, if_neg (by omega)] at k1
    exact k1
  · rw [l0.1, l1.1, nI_eq (by omega) (by omega)] at h3
    rw [l0.1, l1.1, nI_leI (by omega) (by omega)] at h4
    rw [qTurn, if_neg (fun z => h1 (e0.trans z)), if_neg (fun z => h2 (e0.trans z)), if_pos h3, if_pos (by omega)] at k1
    exact k1
  · rw [qTurn, if_neg (fun z => h1 (e0.trans z)), if_pos (e0.symm.trans h2)] at k1
    exact k1
  · rw [qTurn, if_pos (e0.symm.trans h1)] at k1
    exact k1
theorem zn_X0_reasonAgainst {l : Launch} {D : va_G} {b0 : Nat} {tA : Nat → ClassId} {sa sv : Nat → Nat} {K : zKt} {I : zI} {Qp : zI → Option AV → Prop} {Xp : String → zI → Prop} {a c9 s9 : Nat} {S : zS} (hR : zRw I a S) (hc : c9 < 12) (hs : s9 < 2) (hb : (sC S c9 1 = 0 ∨ sC S c9 1 = 1) ∧ (sC S c9 2 = 0 ∨ sC S c9 2 = 1)) (k1 : Qp I (some (vi (nI (qRef S c9 s9))))) :
    zC l D b0 tA sa sv K yX0_reasonAgainst (.code yX0_reasonAgainst cX0_reasonAgainst 2 (some .int)) zrm_X0_reasonAgainst [vr (a + 2 + 31 + 1 * c9) 0, vi ((nI s9))] I Qp Xp := by
  obtain ⟨-, e1, e2, e3, -⟩ := hR.2.2.2 c9 hc
  have q : qRef S c9 s9 = if I (a + 2 + 31 + 1 * c9) 3 = 1 then 1 else if I (a + 2 + 31 + 1 * c9) 2 ≠ nI s9 then 2 else if s9 = 0 ∧ I (a + 2 + 31 + 1 * c9) 1 = 0 then 3 else 0 := by rw [qRef, e1, e2, e3]
  rw [← e2, ← e3] at hb
  obtain ⟨b1, b2⟩ := hb
  have n0 : nI 0 = 0 := nI_0
  have n1 : nI 1 = 1 := rfl
  have n2 : nI 2 = 2 := rfl
  have n3 : nI 3 = 3 := rfl
  rw [q] at k1
  have hs2 : s9 = 0 ∨ s9 = 1 := by omega
  clear e1 e2 e3 q hR
  have gen : ∀ {P : Int32 → Prop} {u v w : Int32}, (v = 0 ∨ v = 1) → (w = 0 ∨ w = 1) → P (nI (if w = 1 then 1 else if v ≠ nI s9 then 2 else if s9 = 0 ∧ u = 0 then 3 else 0)) →
      (w = 0 → ¬ nI s9 = 1 → v = 0 → ¬ nI s9 = 0 → P 0) ∧ (w = 0 → ¬ nI s9 = 1 → v = 0 → nI s9 = 0 → ¬ u = 0 → P 0) ∧ (w = 0 → ¬ nI s9 = 1 → v = 0 → nI s9 = 0 → u = 0 → P 3) ∧ (w = 0 → ¬ nI s9 = 1 → ¬ v = 0 → P 2) ∧ (w = 0 → nI s9 = 1 → v = 1 → ¬ nI s9 = 0 → P 0) ∧ (w = 0 → nI s9 = 1 → v = 1 → nI s9 = 0 → ¬ u = 0 → P 0) ∧ (w = 0 → nI s9 = 1 → v = 1 → nI s9 = 0 → u = 0 → P 3) ∧ (w = 0 → nI s9 = 1 → ¬ v = 1 → P 2) ∧ (¬ w = 0 → P 1) := by
    intro P u v w hv hw hP
    rcases hs2 with rfl | rfl <;> rcases hv with rfl | rfl <;> rcases hw with rfl | rfl <;> by_cases hu : u = 0 <;> simp [hu, n0, n1, n2, n3] at hP ⊢ <;> first | done | exact hP | skip
  obtain ⟨g1, g2, g3, g4, g5, g6, g7, g8, g9⟩ := gen (P := fun z => Qp I (some (vi z))) b1 b2 k1
  exact zp_X0_reasonAgainst g1 g2 g3 g4 g5 g6 g7 g8 g9
theorem qRef_lt {S : zS} {c s : Nat} : qRef S c s < 4 := by
  unfold qRef
  repeat' split
  all_goals decide
theorem zn_X4_cardAt {l : Launch} {D : va_G} {b0 : Nat} {tA : Nat → ClassId} {sa sv : Nat → Nat} {K : zKt} {I : zI} {Qp : zI → Option AV → Prop} {Xp : String → zI → Prop} {a k c9 : Nat} {w : List Nat} (hL : zLn I a w) (hk : k < w.length) (hc : w.getD k 0 = c9 + 1) (k1 : Qp I (some (vi (nI c9)))) :
    zC l D b0 tA sa sv K yX4_cardAt (.code yX4_cardAt cX4_cardAt 2 (some .int)) zrm_X4_cardAt [vr (a) 4, vi ((nI k))] I Qp Xp := by
  have h9 := hL.2.1
  refine zp_X4_cardAt (fun _ _ _ => ?_) (fun h => absurd ⟨nI_pos (by omega), fun z => ?_, fun z => ?_⟩ h)
  · rw [nI_clamp (by omega), hL.2.2 k hk, hc, show nI (c9 + 1) - 1 = nI c9 from pk_sub (a := c9 + 1) (b := 1) (by omega)]; exact k1
  · rw [hL.1, nI_leI (by omega) (by omega)] at z; omega
  · exact absurd ((nI_leI (a := 10) (by decide) (by omega)).mp z) (by omega)
abbrev zrm_X5_serveNext : Room := { frames := 2, cells := 0, slots := 0, locals := 42 }
set_option maxRecDepth 20000 in
theorem zp0_X5_serveNext {l : Launch} {D : va_G} {b0 : Nat} {tA : Nat → ClassId} {sa sv : Nat → Nat} {K : zKt} {I : zI} {Qp : zI → Option AV → Prop} {Xp : String → zI → Prop} {a g : Nat} {S : zS}
    (hR : zRw I a S) (hg : g < 6) (hw : ∀ y ∈ sL S g 0, y ≤ 12) (hb : ∀ c : Nat, (sC S c 1 = 0 ∨ sC S c 1 = 1) ∧ (sC S c 2 = 0 ∨ sC S c 2 = 1)) (k2 : qTurn S g = 0) (k1 : ∀ I' : zI, zag I I' a 45 → zRw I' a (qOpen S g) → Qp I' none) :
    zC l D b0 tA sa sv K yX5_serveNext (.code yX5_serveNext cX5_serveNext 6 none) zrm_X5_serveNext [vr (a) 5, vr (a + 1 + 2 + 5 * g) 1] I Qp Xp := by
  have hq4 : ∀ c, qRef S c 0 < 4 := fun c => qRef_lt
  refine zC_of (by decide +kernel) (Nat.le_of_ble_eq_true rfl) ?_
  intro p e s m args below meth c X hnt
  have X : zX p l e zrm_X5_serveNext s m args below meth c RX5 cX5_serveNext 6 none D b0 tA sa sv := X
  refine zr_lv (lv2 := [some (vr (a) 5), some (vr (a + 1 + 2 + 5 * g) 1), none, none, none, none]) rfl ?_
  refine zr_aload1 X dX5_serveNext_0 ?_
  refine zr_callV0 (rm9 := zrm_X1_sideServedNext) X hnt zm_X5_206 (by decide) (by decide) (by decide) (Nat.le_of_ble_eq_true rfl) dX5_serveNext_1 ?_
  refine zn_X1_sideServedNext (x := (0 : Int32)) hR (by omega) (by rw [k2]; rfl) ?_
  refine zr_istore2 X (by decide) rfl dX5_serveNext_4 ?_
  refine zr_aload1 X dX5_serveNext_5 ?_
  refine zr_iload2 X dX5_serveNext_6 ?_
  refine zr_callV1 (rm9 := zrm_X1_lineOn) X hnt zm_X5_137 (by decide) (by decide) (by decide) (Nat.le_of_ble_eq_true rfl) dX5_serveNext_7 ?_
  refine zp_X1_lineOn (fun _ => ?_) (fun h => absurd h (by decide))
  refine zr_astore3 X (by decide) rfl dX5_serveNext_10 ?_
  refine zr_aload3 X dX5_serveNext_11 ?_
  refine zr_callV0 (rm9 := zrm_X4_firstPlaceWithCard) X hnt zm_X5_209 (by decide) (by decide) (by decide) (Nat.le_of_ble_eq_true rfl) dX5_serveNext_12 ?_
  refine zp_X4_firstPlaceWithCard (w := (sL S g 0)) (hR.2.2.1 g (by omega)).2.1 (hw) ?_ ?_
  · skip
    intro kk hkk hne hall ; obtain ⟨c9, hc9⟩ := Nat.exists_eq_succ_of_ne_zero hne; have hc12 : c9 < 12 := by (have := zgd12 hw kk; omega)
    refine zr_istore4 X (by decide) rfl dX5_serveNext_15 ?_
    refine zr_aload3 X dX5_serveNext_17 ?_
    refine zr_iload4 X dX5_serveNext_18 ?_
    refine zr_callV1 (rm9 := zrm_X4_cardAt) X hnt zm_X5_212 (by decide) (by decide) (by decide) (Nat.le_of_ble_eq_true rfl) dX5_serveNext_20 ?_
    refine zn_X4_cardAt (w := (sL S g 0)) (hR.2.2.1 g (by omega)).2.1 hkk hc9 ?_
    refine zr_istore5 X (by decide) rfl dX5_serveNext_23 ?_
    refine zr_iload5 X dX5_serveNext_25 ?_
    refine zr_nif_lt X (c9) (tgt := 40) (by omega) dX5_serveNext_27 (by decide) (fun h => h.elim) (fun _ => ?_)
    refine zr_iload5 X dX5_serveNext_30 ?_
    refine zr_aload0 X dX5_serveNext_32 ?_
    refine zr_getR X zf_X5_19 rfl (by decide) (by decide) dX5_serveNext_33 ?_
    refine zr_alen (v := 12) X (Or.inr (Or.inl rfl)) rfl dX5_serveNext_36 ?_
    refine zr_nicmp_lt X (c9) (12) (tgt := 41) (by omega) (by omega) dX5_serveNext_37 (by decide) (fun h3 => ?_) (fun h3 => ?_)
    · skip
      refine zr_aload0 X dX5_serveNext_41 ?_
      refine zr_getR X zf_X5_19 rfl (by decide) (by decide) dX5_serveNext_42 ?_
      refine zr_iload5 X dX5_serveNext_45 ?_
      refine zr_aaldN X rfl rfl (by decide) (show _ < 12 from (by first | assumption | omega)) dX5_serveNext_47 ?_
      refine zr_iload2 X dX5_serveNext_48 ?_
      refine zr_callV1 (rm9 := zrm_X0_reasonAgainst) X hnt zm_X5_215 (by decide) (by decide) (by decide) (Nat.le_of_ble_eq_true rfl) dX5_serveNext_49 ?_
      refine zn_X0_reasonAgainst (s9 := 0) hR hc12 (by decide) (hb _) ?_; have hq5 := hq4 c9
      refine zr_nif_ne X ((qRef S c9 0)) (tgt := 71) (by omega) dX5_serveNext_52 (by decide) (fun h4 => ?_) (fun h4 => ?_)
      · skip
        refine zr_aload3 X dX5_serveNext_71 ?_
        refine zr_iload4 X dX5_serveNext_72 ?_
        refine zr_callV1 (rm9 := zrm_X4_removeAt) X hnt zm_X5_180 (by decide) (by decide) (by decide) (Nat.le_of_ble_eq_true rfl) dX5_serveNext_74 ?_
        refine zp_X4_removeAt (k := kk) (w := (sL S g 0)) (hR.2.2.1 g (by omega)).2.1 (hkk) ?_
        intro J1 hg2 hl3; have hR4 : zRw J1 a (tL S g 0 ((sL S g 0).eraseIdx kk)) := zRw_L hR (show g < 6 by omega) (Or.inl ⟨rfl, rfl⟩) hg2 hl3
        refine zr_popI X dX5_serveNext_77 ?_
        refine zr_aload0 X dX5_serveNext_78 ?_
        refine zr_dupR X dX5_serveNext_79 ?_
        refine zr_getI X zf_X5_63 rfl dX5_serveNext_80 ?_
        refine zr_eq (x2 := (sX (tL S g 0 ((sL S g 0).eraseIdx kk)) 12)) (hR4.1 12 (by decide) (by decide)) ?_
        refine zr_iconst (v := (1 : Int32)) X dX5_serveNext_83 (by decide) ?_
        refine zr_iadd X dX5_serveNext_84 ?_
        refine zr_putI X zf_X5_63 rfl (Or.inl rfl) dX5_serveNext_85 ?_
        have hR_1 : zRw _ (a) (tX (tL S g 0 ((sL S g 0).eraseIdx kk)) 12 ((sX (tL S g 0 ((sL S g 0).eraseIdx kk)) 12) + (1 : Int32))) := zRw_X hR4 (i := 12) (v := ((sX (tL S g 0 ((sL S g 0).eraseIdx kk)) 12) + (1 : Int32))) (by decide) (by decide)
        refine zr_iload2 X dX5_serveNext_88 ?_
        refine zr_iconst (v := (1 : Int32)) X dX5_serveNext_89 (by decide) ?_
        refine zr_icmp_ne (tgt := 113) X dX5_serveNext_90 (by decide) (fun _ => ?_) (fun h => absurd h (by decide))
        refine zr_vret X (by decide) (by decide) dX5_serveNext_113 ?_
        refine k1 _ (by repeat (first | exact zag.rf | assumption | refine zag.put ?_ (by omega) (by omega) | refine zag.tr ?_ (by assumption) (by omega) (by omega))) ?_
        refine cast (congrArg (zRw _ a) ?_) hR_1
        rw [qOpen, k2, qFirst_of hkk hne hall, if_pos hkk, qOpenAt, hc9, Nat.succ_sub_one, if_neg h4]; rfl
      · skip
        refine zr_aload3 X dX5_serveNext_55 ?_
        refine zr_iload4 X dX5_serveNext_56 ?_
        refine zr_callV1 (rm9 := zrm_X4_bringToFront) X hnt zm_X5_218 (by decide) (by decide) (by decide) (Nat.le_of_ble_eq_true rfl) dX5_serveNext_58 ?_
        refine zp_X4_bringToFront (k := kk) (w := (sL S g 0)) (hR.2.2.1 g (by omega)).2.1 hkk ?_
        intro J5 hg6 hl7; have hR8 : zRw J5 a (tL S g 0 ((sL S g 0).getD kk 0 :: (sL S g 0).eraseIdx kk)) := zRw_L hR (show g < 6 by omega) (Or.inl ⟨rfl, rfl⟩) hg6 hl7
        refine zr_aload1 X dX5_serveNext_61 ?_
        refine zr_iload2 X dX5_serveNext_62 ?_
        refine zr_aload0 X dX5_serveNext_63 ?_
        refine zr_getI X zf_X5_23 rfl dX5_serveNext_64 ?_
        refine zr_eq (x2 := (sX (tL S g 0 ((sL S g 0).getD kk 0 :: (sL S g 0).eraseIdx kk)) 0)) (hR8.1 0 (by decide) (by decide)) ?_
        refine zr_callV2 (rm9 := zrm_X1_openFor) X hnt zm_X5_221 (by decide) (by decide) (by decide) (Nat.le_of_ble_eq_true rfl) dX5_serveNext_67 ?_
        refine zn_X1_openFor (sd := 0) hR8 (by omega) rfl ?_
        intro J9 hg10 hR11
        refine zr_vret X (by decide) (by decide) dX5_serveNext_70 ?_
        refine k1 _ (by repeat (first | exact zag.rf | assumption | refine zag.put ?_ (by omega) (by omega) | refine zag.tr ?_ (by assumption) (by omega) (by omega))) ?_
        refine cast (congrArg (zRw _ a) ?_) hR11
        rw [qOpen, k2, qFirst_of hkk hne hall, if_pos hkk, qOpenAt, hc9, Nat.succ_sub_one, if_pos h4]
    · exact absurd h3 (by omega)
  · skip
    intro hall
    refine zr_istore4 X (by decide) rfl dX5_serveNext_15 ?_
    refine zr_aload3 X dX5_serveNext_17 ?_
    refine zr_iload4 X dX5_serveNext_18 ?_
    refine zr_callV1 (rm9 := zrm_X4_cardAt) X hnt zm_X5_212 (by decide) (by decide) (by decide) (Nat.le_of_ble_eq_true rfl) dX5_serveNext_20 ?_
    refine zp_X4_cardAt (fun h => absurd (by decide) h) (fun _ => ?_)
    refine zr_istore5 X (by decide) rfl dX5_serveNext_23 ?_
    refine zr_iload5 X dX5_serveNext_25 ?_
    refine zr_if_lt (tgt := 40) X dX5_serveNext_27 (by decide) (fun _ => ?_) (fun h => absurd h (by decide))
    refine zr_vret X (by decide) (by decide) dX5_serveNext_40 ?_
    refine k1 _ (by repeat (first | exact zag.rf | assumption | refine zag.put ?_ (by omega) (by omega) | refine zag.tr ?_ (by assumption) (by omega) (by omega))) ?_
    refine cast (congrArg (zRw _ a) ?_) hR
    rw [qOpen, k2, if_neg (qFirst_none hall)]
set_option maxRecDepth 20000 in
theorem zp1_X5_serveNext {l : Launch} {D : va_G} {b0 : Nat} {tA : Nat → ClassId} {sa sv : Nat → Nat} {K : zKt} {I : zI} {Qp : zI → Option AV → Prop} {Xp : String → zI → Prop} {a g : Nat} {S : zS}
    (hR : zRw I a S) (hg : g < 6) (hw : ∀ y ∈ sL S g 1, y ≤ 12) (hb : ∀ c : Nat, (sC S c 1 = 0 ∨ sC S c 1 = 1) ∧ (sC S c 2 = 0 ∨ sC S c 2 = 1)) (k2 : qTurn S g = 1) (k1 : ∀ I' : zI, zag I I' a 45 → zRw I' a (qOpen S g) → Qp I' none) :
    zC l D b0 tA sa sv K yX5_serveNext (.code yX5_serveNext cX5_serveNext 6 none) zrm_X5_serveNext [vr (a) 5, vr (a + 1 + 2 + 5 * g) 1] I Qp Xp := by
  have hq4 : ∀ c, qRef S c 1 < 4 := fun c => qRef_lt
  refine zC_of (by decide +kernel) (Nat.le_of_ble_eq_true rfl) ?_
  intro p e s m args below meth c X hnt
  have X : zX p l e zrm_X5_serveNext s m args below meth c RX5 cX5_serveNext 6 none D b0 tA sa sv := X
  refine zr_lv (lv2 := [some (vr (a) 5), some (vr (a + 1 + 2 + 5 * g) 1), none, none, none, none]) rfl ?_
  refine zr_aload1 X dX5_serveNext_0 ?_
  refine zr_callV0 (rm9 := zrm_X1_sideServedNext) X hnt zm_X5_206 (by decide) (by decide) (by decide) (Nat.le_of_ble_eq_true rfl) dX5_serveNext_1 ?_
  refine zn_X1_sideServedNext (x := (1 : Int32)) hR (by omega) (by rw [k2]; rfl) ?_
  refine zr_istore2 X (by decide) rfl dX5_serveNext_4 ?_
  refine zr_aload1 X dX5_serveNext_5 ?_
  refine zr_iload2 X dX5_serveNext_6 ?_
  refine zr_callV1 (rm9 := zrm_X1_lineOn) X hnt zm_X5_137 (by decide) (by decide) (by decide) (Nat.le_of_ble_eq_true rfl) dX5_serveNext_7 ?_
  refine zp_X1_lineOn (fun h => absurd rfl h) (fun _ => ?_)
  refine zr_astore3 X (by decide) rfl dX5_serveNext_10 ?_
  refine zr_aload3 X dX5_serveNext_11 ?_
  refine zr_callV0 (rm9 := zrm_X4_firstPlaceWithCard) X hnt zm_X5_209 (by decide) (by decide) (by decide) (Nat.le_of_ble_eq_true rfl) dX5_serveNext_12 ?_
  refine zp_X4_firstPlaceWithCard (w := (sL S g 1)) (hR.2.2.1 g (by omega)).2.2 (hw) ?_ ?_
  · skip
    intro kk hkk hne hall ; obtain ⟨c9, hc9⟩ := Nat.exists_eq_succ_of_ne_zero hne; have hc12 : c9 < 12 := by (have := zgd12 hw kk; omega)
    refine zr_istore4 X (by decide) rfl dX5_serveNext_15 ?_
    refine zr_aload3 X dX5_serveNext_17 ?_
    refine zr_iload4 X dX5_serveNext_18 ?_
    refine zr_callV1 (rm9 := zrm_X4_cardAt) X hnt zm_X5_212 (by decide) (by decide) (by decide) (Nat.le_of_ble_eq_true rfl) dX5_serveNext_20 ?_
    refine zn_X4_cardAt (w := (sL S g 1)) (hR.2.2.1 g (by omega)).2.2 hkk hc9 ?_
    refine zr_istore5 X (by decide) rfl dX5_serveNext_23 ?_
    refine zr_iload5 X dX5_serveNext_25 ?_
    refine zr_nif_lt X (c9) (tgt := 40) (by omega) dX5_serveNext_27 (by decide) (fun h => h.elim) (fun _ => ?_)
    refine zr_iload5 X dX5_serveNext_30 ?_
    refine zr_aload0 X dX5_serveNext_32 ?_
    refine zr_getR X zf_X5_19 rfl (by decide) (by decide) dX5_serveNext_33 ?_
    refine zr_alen (v := 12) X (Or.inr (Or.inl rfl)) rfl dX5_serveNext_36 ?_
    refine zr_nicmp_lt X (c9) (12) (tgt := 41) (by omega) (by omega) dX5_serveNext_37 (by decide) (fun h3 => ?_) (fun h3 => ?_)
    · skip
      refine zr_aload0 X dX5_serveNext_41 ?_
      refine zr_getR X zf_X5_19 rfl (by decide) (by decide) dX5_serveNext_42 ?_
      refine zr_iload5 X dX5_serveNext_45 ?_
      refine zr_aaldN X rfl rfl (by decide) (show _ < 12 from (by first | assumption | omega)) dX5_serveNext_47 ?_
      refine zr_iload2 X dX5_serveNext_48 ?_
      refine zr_callV1 (rm9 := zrm_X0_reasonAgainst) X hnt zm_X5_215 (by decide) (by decide) (by decide) (Nat.le_of_ble_eq_true rfl) dX5_serveNext_49 ?_
      refine zn_X0_reasonAgainst (s9 := 1) hR hc12 (by decide) (hb _) ?_; have hq5 := hq4 c9
      refine zr_nif_ne X ((qRef S c9 1)) (tgt := 71) (by omega) dX5_serveNext_52 (by decide) (fun h4 => ?_) (fun h4 => ?_)
      · skip
        refine zr_aload3 X dX5_serveNext_71 ?_
        refine zr_iload4 X dX5_serveNext_72 ?_
        refine zr_callV1 (rm9 := zrm_X4_removeAt) X hnt zm_X5_180 (by decide) (by decide) (by decide) (Nat.le_of_ble_eq_true rfl) dX5_serveNext_74 ?_
        refine zp_X4_removeAt (k := kk) (w := (sL S g 1)) (hR.2.2.1 g (by omega)).2.2 (hkk) ?_
        intro J1 hg2 hl3; have hR4 : zRw J1 a (tL S g 1 ((sL S g 1).eraseIdx kk)) := zRw_L hR (show g < 6 by omega) (Or.inr ⟨rfl, rfl⟩) hg2 hl3
        refine zr_popI X dX5_serveNext_77 ?_
        refine zr_aload0 X dX5_serveNext_78 ?_
        refine zr_dupR X dX5_serveNext_79 ?_
        refine zr_getI X zf_X5_63 rfl dX5_serveNext_80 ?_
        refine zr_eq (x2 := (sX (tL S g 1 ((sL S g 1).eraseIdx kk)) 12)) (hR4.1 12 (by decide) (by decide)) ?_
        refine zr_iconst (v := (1 : Int32)) X dX5_serveNext_83 (by decide) ?_
        refine zr_iadd X dX5_serveNext_84 ?_
        refine zr_putI X zf_X5_63 rfl (Or.inl rfl) dX5_serveNext_85 ?_
        have hR_1 : zRw _ (a) (tX (tL S g 1 ((sL S g 1).eraseIdx kk)) 12 ((sX (tL S g 1 ((sL S g 1).eraseIdx kk)) 12) + (1 : Int32))) := zRw_X hR4 (i := 12) (v := ((sX (tL S g 1 ((sL S g 1).eraseIdx kk)) 12) + (1 : Int32))) (by decide) (by decide)
        refine zr_iload2 X dX5_serveNext_88 ?_
        refine zr_iconst (v := (1 : Int32)) X dX5_serveNext_89 (by decide) ?_
        refine zr_icmp_ne (tgt := 113) X dX5_serveNext_90 (by decide) (fun h => absurd h (by decide)) (fun _ => ?_)
        refine zr_aload0 X dX5_serveNext_93 ?_
        refine zr_dupR X dX5_serveNext_94 ?_
        refine zr_getI X zf_X5_66 rfl dX5_serveNext_95 ?_
        refine zr_eq (x2 := (sX (tX (tL S g 1 ((sL S g 1).eraseIdx kk)) 12 ((sX (tL S g 1 ((sL S g 1).eraseIdx kk)) 12) + (1 : Int32))) 15)) (hR_1.1 15 (by decide) (by decide)) ?_
        refine zr_iconst (v := (1 : Int32)) X dX5_serveNext_98 (by decide) ?_
        refine zr_iadd X dX5_serveNext_99 ?_
        refine zr_putI X zf_X5_66 rfl (Or.inl rfl) dX5_serveNext_100 ?_
        have hR_2 : zRw _ (a) (tX (tX (tL S g 1 ((sL S g 1).eraseIdx kk)) 12 ((sX (tL S g 1 ((sL S g 1).eraseIdx kk)) 12) + (1 : Int32))) 15 ((sX (tX (tL S g 1 ((sL S g 1).eraseIdx kk)) 12 ((sX (tL S g 1 ((sL S g 1).eraseIdx kk)) 12) + (1 : Int32))) 15) + (1 : Int32))) := zRw_X hR_1 (i := 15) (v := ((sX (tX (tL S g 1 ((sL S g 1).eraseIdx kk)) 12 ((sX (tL S g 1 ((sL S g 1).eraseIdx kk)) 12) + (1 : Int32))) 15) + (1 : Int32))) (by decide) (by decide)
        refine zr_aload0 X dX5_serveNext_103 ?_
        refine zr_dupR X dX5_serveNext_104 ?_
        refine zr_getI X zf_X5_51 rfl dX5_serveNext_105 ?_
        refine zr_eq (x2 := (sX (tX (tX (tL S g 1 ((sL S g 1).eraseIdx kk)) 12 ((sX (tL S g 1 ((sL S g 1).eraseIdx kk)) 12) + (1 : Int32))) 15 ((sX (tX (tL S g 1 ((sL S g 1).eraseIdx kk)) 12 ((sX (tL S g 1 ((sL S g 1).eraseIdx kk)) 12) + (1 : Int32))) 15) + (1 : Int32))) 3)) (hR_2.1 3 (by decide) (by decide)) ?_
        refine zr_iconst (v := (1 : Int32)) X dX5_serveNext_108 (by decide) ?_
        refine zr_isub X dX5_serveNext_109 ?_
        refine zr_putI X zf_X5_51 rfl (Or.inl rfl) dX5_serveNext_110 ?_
        have hR_3 : zRw _ (a) (tX (tX (tX (tL S g 1 ((sL S g 1).eraseIdx kk)) 12 ((sX (tL S g 1 ((sL S g 1).eraseIdx kk)) 12) + (1 : Int32))) 15 ((sX (tX (tL S g 1 ((sL S g 1).eraseIdx kk)) 12 ((sX (tL S g 1 ((sL S g 1).eraseIdx kk)) 12) + (1 : Int32))) 15) + (1 : Int32))) 3 ((sX (tX (tX (tL S g 1 ((sL S g 1).eraseIdx kk)) 12 ((sX (tL S g 1 ((sL S g 1).eraseIdx kk)) 12) + (1 : Int32))) 15 ((sX (tX (tL S g 1 ((sL S g 1).eraseIdx kk)) 12 ((sX (tL S g 1 ((sL S g 1).eraseIdx kk)) 12) + (1 : Int32))) 15) + (1 : Int32))) 3) - (1 : Int32))) := zRw_X hR_2 (i := 3) (v := ((sX (tX (tX (tL S g 1 ((sL S g 1).eraseIdx kk)) 12 ((sX (tL S g 1 ((sL S g 1).eraseIdx kk)) 12) + (1 : Int32))) 15 ((sX (tX (tL S g 1 ((sL S g 1).eraseIdx kk)) 12 ((sX (tL S g 1 ((sL S g 1).eraseIdx kk)) 12) + (1 : Int32))) 15) + (1 : Int32))) 3) - (1 : Int32))) (by decide) (by decide)
        refine zr_vret X (by decide) (by decide) dX5_serveNext_113 ?_
        refine k1 _ (by repeat (first | exact zag.rf | assumption | refine zag.put ?_ (by omega) (by omega) | refine zag.tr ?_ (by assumption) (by omega) (by omega))) ?_
        refine cast (congrArg (zRw _ a) ?_) hR_3
        rw [qOpen, k2, qFirst_of hkk hne hall, if_pos hkk, qOpenAt, hc9, Nat.succ_sub_one, if_neg h4]; rfl
      · skip
        refine zr_aload3 X dX5_serveNext_55 ?_
        refine zr_iload4 X dX5_serveNext_56 ?_
        refine zr_callV1 (rm9 := zrm_X4_bringToFront) X hnt zm_X5_218 (by decide) (by decide) (by decide) (Nat.le_of_ble_eq_true rfl) dX5_serveNext_58 ?_
        refine zp_X4_bringToFront (k := kk) (w := (sL S g 1)) (hR.2.2.1 g (by omega)).2.2 hkk ?_
        intro J5 hg6 hl7; have hR8 : zRw J5 a (tL S g 1 ((sL S g 1).getD kk 0 :: (sL S g 1).eraseIdx kk)) := zRw_L hR (show g < 6 by omega) (Or.inr ⟨rfl, rfl⟩) hg6 hl7
        refine zr_aload1 X dX5_serveNext_61 ?_
        refine zr_iload2 X dX5_serveNext_62 ?_
        refine zr_aload0 X dX5_serveNext_63 ?_
        refine zr_getI X zf_X5_23 rfl dX5_serveNext_64 ?_
        refine zr_eq (x2 := (sX (tL S g 1 ((sL S g 1).getD kk 0 :: (sL S g 1).eraseIdx kk)) 0)) (hR8.1 0 (by decide) (by decide)) ?_
        refine zr_callV2 (rm9 := zrm_X1_openFor) X hnt zm_X5_221 (by decide) (by decide) (by decide) (Nat.le_of_ble_eq_true rfl) dX5_serveNext_67 ?_
        refine zn_X1_openFor (sd := 1) hR8 (by omega) rfl ?_
        intro J9 hg10 hR11
        refine zr_vret X (by decide) (by decide) dX5_serveNext_70 ?_
        refine k1 _ (by repeat (first | exact zag.rf | assumption | refine zag.put ?_ (by omega) (by omega) | refine zag.tr ?_ (by assumption) (by omega) (by omega))) ?_
        refine cast (congrArg (zRw _ a) ?_) hR11
        rw [qOpen, k2, qFirst_of hkk hne hall, if_pos hkk, qOpenAt, hc9, Nat.succ_sub_one, if_pos h4]
    · exact absurd h3 (by omega)
  · skip
    intro hall
    refine zr_istore4 X (by decide) rfl dX5_serveNext_15 ?_
    refine zr_aload3 X dX5_serveNext_17 ?_
    refine zr_iload4 X dX5_serveNext_18 ?_
    refine zr_callV1 (rm9 := zrm_X4_cardAt) X hnt zm_X5_212 (by decide) (by decide) (by decide) (Nat.le_of_ble_eq_true rfl) dX5_serveNext_20 ?_
    refine zp_X4_cardAt (fun h => absurd (by decide) h) (fun _ => ?_)
    refine zr_istore5 X (by decide) rfl dX5_serveNext_23 ?_
    refine zr_iload5 X dX5_serveNext_25 ?_
    refine zr_if_lt (tgt := 40) X dX5_serveNext_27 (by decide) (fun _ => ?_) (fun h => absurd h (by decide))
    refine zr_vret X (by decide) (by decide) dX5_serveNext_40 ?_
    refine k1 _ (by repeat (first | exact zag.rf | assumption | refine zag.put ?_ (by omega) (by omega) | refine zag.tr ?_ (by assumption) (by omega) (by omega))) ?_
    refine cast (congrArg (zRw _ a) ?_) hR
    rw [qOpen, k2, if_neg (qFirst_none hall)]
theorem qTurn_lt {S : zS} {g : Nat} : qTurn S g = 0 ∨ qTurn S g = 1 := by
  unfold qTurn
  repeat' split
  all_goals first | exact Or.inl rfl | exact Or.inr rfl
theorem zq_X5_serveNext {l : Launch} {D : va_G} {b0 : Nat} {tA : Nat → ClassId} {sa sv : Nat → Nat} {K : zKt} {I : zI} {Qp : zI → Option AV → Prop} {Xp : String → zI → Prop} {a g : Nat} {S : zS} (hR : zRw I a S) (hg : g < 6) (hw : ∀ s, ∀ y ∈ sL S g s, y ≤ 12) (hb : ∀ c : Nat, (sC S c 1 = 0 ∨ sC S c 1 = 1) ∧ (sC S c 2 = 0 ∨ sC S c 2 = 1)) (k1 : ∀ I' : zI, zag I I' a 45 → zRw I' a (qOpen S g) → Qp I' none) :
    zC l D b0 tA sa sv K yX5_serveNext (.code yX5_serveNext cX5_serveNext 6 none) zrm_X5_serveNext [vr (a) 5, vr (a + 1 + 2 + 5 * g) 1] I Qp Xp := by
  rcases qTurn_lt (S := S) (g := g) with h | h
  · exact zp0_X5_serveNext hR hg (hw 0) hb h k1
  · exact zp1_X5_serveNext hR hg (hw 1) hb h k1
theorem zq_X5_letThroughPaddles {l : Launch} {D : va_G} {b0 : Nat} {tA : Nat → ClassId} {sa sv : Nat → Nat} {K : zKt} {I : zI} {Qp : zI → Option AV → Prop} {Xp : String → zI → Prop} {a g : Nat} {S : zS} (hR : zRw I a S) (hg : g < 6) (hw : ∀ s, ∀ y ∈ sL S g s, y ≤ 12) (hP : zPad S g) (ho : sG S g 2 ≠ 0) (k1 : ∀ I' : zI, zag I I' a 45 → zRw I' a (qPass S g) → Qp I' none) :
    zC l D b0 tA sa sv K yX5_letThroughPaddles (.code yX5_letThroughPaddles cX5_letThroughPaddles 3 none) zrm_X5_letThroughPaddles [vr (a) 5, vr (a + 1 + 2 + 5 * g) 1] I Qp Xp := by
  obtain ⟨-, -, ⟨h, -⟩ | ⟨o, -, -, -, ⟨h1, h2⟩ | ⟨h1, h2⟩⟩⟩ := hP
  · exact absurd h ho
  · exact zp0_X5_letThroughPaddles hR hg (hw 0) h1 h2 k1
  · exact zp1_X5_letThroughPaddles hR hg (hw 1) h1 h2 k1
