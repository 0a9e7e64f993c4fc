/-! ===== through open paddles ===== -/
theorem tG_close {S : zS} {g : Nat} {v : Int32} (h : sG S g 3 = 0) : tG (tG (tG (tG S g 1 v) g 1 0) g 2 0) g 3 0 = tG (tG S g 1 0) g 2 0 := by
  refine Prod.ext rfl (Prod.ext ?_ rfl)
  funext x y
  show zu2 (zu2 (zu2 (zu2 (sG S) g 1 v) g 1 0) g 2 0) g 3 0 x y = zu2 (zu2 (sG S) g 1 0) g 2 0 x y
  by_cases hx : x = g
  · subst hx
    by_cases h3 : y = 3
    · subst h3; rw [zu2_eq, zu2_ne (by omega), zu2_ne (by omega)]; exact h.symm
    · rw [zu2_ne (fun z => h3 z.2)]
      by_cases h2 : y = 2
      · subst h2; rw [zu2_eq, zu2_eq]
      · rw [zu2_ne (fun z => h2 z.2), zu2_ne (fun z => h2 z.2)]
        by_cases h1 : y = 1
        · subst h1; rw [zu2_eq, zu2_eq]
        · rw [zu2_ne (fun z => h1 z.2), zu2_ne (fun z => h1 z.2), zu2_ne (fun z => h1 z.2)]
  · rw [zu2_ne (fun z => hx z.1), zu2_ne (fun z => hx z.1), zu2_ne (fun z => hx z.1), zu2_ne (fun z => hx z.1), zu2_ne (fun z => hx z.1), zu2_ne (fun z => hx z.1)]
theorem tG_same {S : zS} {g j : Nat} {v : Int32} (h : sG S g j = v) : tG S g j v = S := by
  refine Prod.ext rfl (Prod.ext ?_ rfl)
  funext x y
  show zu2 (sG S) g j v x y = sG S x y
  by_cases hx : x = g ∧ y = j
  · obtain ⟨rfl, rfl⟩ := hx; rw [zu2_eq]; exact h.symm
  · rw [zu2_ne hx]
theorem tG_G {S : zS} {g j : Nat} {v : Int32} {x y : Nat} : sG (tG S g j v) x y = if x = g ∧ y = j then v else sG S x y := rfl
theorem tG_L {S : zS} {g j : Nat} {v : Int32} : sL (tG S g j v) = sL S := rfl
theorem tG_X {S : zS} {g j : Nat} {v : Int32} : sX (tG S g j v) = sX S := rfl
theorem tX_G {S : zS} {i : Nat} {v : Int32} : sG (tX S i v) = sG S := rfl
theorem tX_L {S : zS} {i : Nat} {v : Int32} : sL (tX S i v) = sL S := rfl
theorem tL_G {S : zS} {g s : Nat} {w : List Nat} : sG (tL S g s w) = sG S := rfl
theorem tL_X {S : zS} {g s : Nat} {w : List Nat} : sX (tL S g s w) = sX S := rfl
theorem tL_L {S : zS} {g s : Nat} {w : List Nat} {x y : Nat} : sL (tL S g s w) x y = if x = g ∧ y = s then w else sL S x y := rfl
theorem tC_G {S : zS} {c j : Nat} {v : Int32} : sG (tC S c j v) = sG S := rfl
theorem tC_L {S : zS} {c j : Nat} {v : Int32} : sL (tC S c j v) = sL S := rfl
theorem tC_X {S : zS} {c j : Nat} {v : Int32} : sX (tC S c j v) = sX S := rfl
theorem tG_qGoes {S : zS} {g s j : Nat} {v : Int32} {g9 : Nat} : qGoes (tG S g9 j v) g s = tG (qGoes S g s) g9 j v := by
  unfold qGoes
  exact qGone_tG (S := tL S g s ((sL S g s).eraseIdx 0))
set_option maxRecDepth 20000 in
theorem zn_X1_closePaddles {l : Launch} {D : va_G} {b0 : Nat} {tA : Nat → ClassId} {sa sv : Nat → Nat} {K : zKt} {I : zI} {Qp : zI → Option AV → Prop} {Xp : String → zI → Prop} {a g : Nat} {S : zS}
    (hR : zRw I a S) (hg : g < 6) (k1 : ∀ I' : zI, zag I I' a 45 → zRw I' a (tG (tG (tG S g 1 0) g 2 0) g 3 0) → Qp I' none) :
    zC l D b0 tA sa sv K yX1_closePaddles (.code yX1_closePaddles cX1_closePaddles 1 none) zrm_X1_closePaddles [vr (a + 1 + 2 + 5 * g) 1] I Qp Xp := by
  refine zC_of (by decide +kernel) (Nat.le_of_ble_eq_true rfl) ?_
  intro p e s m args below meth c X hnt
  have X : zX p l e zrm_X1_closePaddles s m args below meth c RX1 cX1_closePaddles 1 none D b0 tA sa sv := X
  refine zr_lv (lv2 := [some (vr (a + 1 + 2 + 5 * g) 1)]) rfl ?_
  refine zr_aload0 X dX1_closePaddles_0 ?_
  refine zr_iconst (v := (0 : Int32)) X dX1_closePaddles_1 (by decide) ?_
  refine zr_putI X zf_X1_35 rfl (Or.inl rfl) dX1_closePaddles_2 ?_
  have hR_1 : zRw _ (a) (tG S g 1 (0 : Int32)) := zRw_G hR (show g < 6 by omega) (j := 1) (v := (0 : Int32)) (by decide) rfl (x := (0 : Int32)) rfl
  refine zr_aload0 X dX1_closePaddles_5 ?_
  refine zr_iconst (v := (-1 : Int32)) X dX1_closePaddles_6 (by decide) ?_
  refine zr_putI X zf_X1_21 rfl (Or.inl rfl) dX1_closePaddles_7 ?_
  have hR_2 : zRw _ (a) (tG (tG S g 1 (0 : Int32)) g 2 (0 : Int32)) := zRw_G hR_1 (show g < 6 by omega) (j := 2) (v := (0 : Int32)) (by decide) rfl (x := (-1 : Int32)) (by first | rfl | decide | exact (zside _).symm)
  refine zr_aload0 X dX1_closePaddles_10 ?_
  refine zr_iconst (v := (0 : Int32)) X dX1_closePaddles_11 (by decide) ?_
  refine zr_putI X zf_X1_38 rfl (Or.inr (by first | decide | assumption | (simp; done))) dX1_closePaddles_12 ?_
  have hR_3 : zRw _ (a) (tG (tG (tG S g 1 (0 : Int32)) g 2 (0 : Int32)) g 3 (0 : Int32)) := zRw_G hR_2 (show g < 6 by omega) (j := 3) (v := (0 : Int32)) (by decide) rfl (x := (0 : Int32)) rfl
  refine zr_vret X (by decide) (by decide) dX1_closePaddles_15 ?_
  refine k1 _ (by repeat (first | exact zag.rf | assumption | refine zag.put ?_ (by omega) (by omega) | refine zag.tr ?_ (by assumption) (by omega) (by omega))) ?_
  exact cast (congrArg (zRw _ a) (by rfl)) hR_3
set_option maxRecDepth 20000 in
theorem zn_X1_openFor {l : Launch} {D : va_G} {b0 : Nat} {tA : Nat → ClassId} {sa sv : Nat → Nat} {K : zKt} {I : zI} {Qp : zI → Option AV → Prop} {Xp : String → zI → Prop} {a g sd : Nat} {x2 : Int32} {S : zS}
    (hR : zRw I a S) (hg : g < 6) (k2 : x2 = sX S 0) (k1 : ∀ I' : zI, zag I I' a 45 → zRw I' a (qOpened S g sd) → Qp I' none) :
    zC l D b0 tA sa sv K yX1_openFor (.code yX1_openFor cX1_openFor 3 none) zrm_X1_openFor [vr (a + 1 + 2 + 5 * g) 1, vi ((nI sd)), vi (x2)] I Qp Xp := by
  refine zC_of (by decide +kernel) (Nat.le_of_ble_eq_true rfl) ?_
  intro p e s m args below meth c X hnt
  have X : zX p l e zrm_X1_openFor s m args below meth c RX1 cX1_openFor 3 none D b0 tA sa sv := X
  refine zr_lv (lv2 := [some (vr (a + 1 + 2 + 5 * g) 1), some (vi ((nI sd))), some (vi (x2))]) rfl ?_
  refine zr_aload0 X dX1_openFor_0 ?_
  refine zr_iload2 X dX1_openFor_1 ?_
  refine zr_putI X zf_X1_35 rfl (Or.inl rfl) dX1_openFor_2 ?_
  have hR_1 : zRw _ (a) (tG S g 1 x2) := zRw_G hR (show g < 6 by omega) (j := 1) (v := x2) (by decide) rfl (x := x2) rfl
  refine zr_aload0 X dX1_openFor_5 ?_
  refine zr_iload1 X dX1_openFor_6 ?_
  refine zr_putI X zf_X1_21 rfl (Or.inl rfl) dX1_openFor_7 ?_
  have hR_2 : zRw _ (a) (tG (tG S g 1 x2) g 2 (nI (sd + 1))) := zRw_G hR_1 (show g < 6 by omega) (j := 2) (v := (nI (sd + 1))) (by decide) rfl (x := (nI sd)) (by first | rfl | decide | exact (zside _).symm)
  refine zr_aload0 X dX1_openFor_10 ?_
  refine zr_iconst (v := (1 : Int32)) X dX1_openFor_11 (by decide) ?_
  refine zr_putI X zf_X1_38 rfl (Or.inr (by first | decide | assumption | (simp; done))) dX1_openFor_12 ?_
  have hR_3 : zRw _ (a) (tG (tG (tG S g 1 x2) g 2 (nI (sd + 1))) g 3 (1 : Int32)) := zRw_G hR_2 (show g < 6 by omega) (j := 3) (v := (1 : Int32)) (by decide) rfl (x := (1 : Int32)) rfl
  refine zr_aload0 X dX1_openFor_15 ?_
  refine zr_dupR X dX1_openFor_16 ?_
  refine zr_getI X zf_X1_45 rfl dX1_openFor_17 ?_
  refine zr_eq (x2 := (sG (tG (tG (tG S g 1 x2) g 2 (nI (sd + 1))) g 3 (1 : Int32)) g 5)) (zGt_j (j := 5) (hR_3.2.2.1 g (by omega)) (by decide)) ?_
  refine zr_iconst (v := (1 : Int32)) X dX1_openFor_20 (by decide) ?_
  refine zr_iadd X dX1_openFor_21 ?_
  refine zr_putI X zf_X1_45 rfl (Or.inl rfl) dX1_openFor_22 ?_
  have hR_4 : zRw _ (a) (tG (tG (tG (tG S g 1 x2) g 2 (nI (sd + 1))) g 3 (1 : Int32)) g 5 ((sG (tG (tG (tG S g 1 x2) g 2 (nI (sd + 1))) g 3 (1 : Int32)) g 5) + (1 : Int32))) := zRw_G hR_3 (show g < 6 by omega) (j := 5) (v := ((sG (tG (tG (tG S g 1 x2) g 2 (nI (sd + 1))) g 3 (1 : Int32)) g 5) + (1 : Int32))) (by decide) rfl (x := ((sG (tG (tG (tG S g 1 x2) g 2 (nI (sd + 1))) g 3 (1 : Int32)) g 5) + (1 : Int32))) rfl
  refine zr_aload0 X dX1_openFor_25 ?_
  refine zr_iload1 X dX1_openFor_26 ?_
  refine zr_putI X zf_X1_25 rfl (Or.inl rfl) dX1_openFor_27 ?_
  have hR_5 : zRw _ (a) (tG (tG (tG (tG (tG S g 1 x2) g 2 (nI (sd + 1))) g 3 (1 : Int32)) g 5 ((sG (tG (tG (tG S g 1 x2) g 2 (nI (sd + 1))) g 3 (1 : Int32)) g 5) + (1 : Int32))) g 6 (nI (sd + 1))) := zRw_G hR_4 (show g < 6 by omega) (j := 6) (v := (nI (sd + 1))) (by decide) rfl (x := (nI sd)) (by first | rfl | decide | exact (zside _).symm)
  refine zr_vret X (by decide) (by decide) dX1_openFor_30 ?_
  refine k1 _ (by repeat (first | exact zag.rf | assumption | refine zag.put ?_ (by omega) (by omega) | refine zag.tr ?_ (by assumption) (by omega) (by omega))) ?_
  exact cast (congrArg (zRw _ a) (by subst k2; simp [qOpened, tG_G])) hR_5
theorem zn_X4_isFirstWithoutCard {l : Launch} {D : va_G} {b0 : Nat} {tA : Nat → ClassId} {sa sv : Nat → Nat} {K : zKt} {I : zI} {Qp : zI → Option AV → Prop} {Xp : String → zI → Prop} {a : Nat} {w : List Nat} (hL : zLn I a w) (hw : ∀ y ∈ w, y ≤ 12) (k1 : (w ≠ [] ∧ w.getD 0 0 = 0) → Qp I (some (vi 1))) (k2 : ¬ (w ≠ [] ∧ w.getD 0 0 = 0) → Qp I (some (vi 0))) :
    zC l D b0 tA sa sv K yX4_isFirstWithoutCard (.code yX4_isFirstWithoutCard cX4_isFirstWithoutCard 1 (some .boolean)) zrm_X4_isFirstWithoutCard [vr (a) 4] I Qp Xp := by
  have h9 := hL.2.1
  have e1 : (¬ I a 1 ≤ 0) ↔ w ≠ [] := by
    rw [hL.1, (zn_i0 (by omega)).2.2.2.2]
    exact not_congr List.length_eq_zero_iff
  have e2 : (w ≠ []) → (I (a + 1) 0 = -1 ↔ w.getD 0 0 = 0) := fun h => by
    rw [hL.2.2 0 (List.length_pos_iff.mpr h)]; exact zw1 (zle12 hw 0)
  refine zq_X4_isFirstWithoutCard (fun ⟨h1, h2⟩ => k1 ⟨e1.mp h1, (e2 (e1.mp h1)).mp h2⟩) (fun h => k2 (fun ⟨h1, h2⟩ => h ⟨e1.mpr h1, (e2 h1).mpr h2⟩))
theorem zlessB {T : zS} {g : Nat} (h : ¬ sG T g 1 - 1 = 0) : tG T g 1 (sG T g 1 - 1) = qLess T g := by rw [qLess, if_neg h]
theorem zlessA {T : zS} {g : Nat} (h3 : sG T g 3 = 0) (h : sG T g 1 - 1 = 0) : tG (tG (tG (tG T g 1 (sG T g 1 - 1)) g 1 0) g 2 0) g 3 0 = qLess T g := by rw [qLess, if_pos h]; exact tG_close h3
abbrev zrm_X5_letThroughPaddles : Room := { frames := 2, cells := 0, slots := 0, locals := 43 }
set_option maxRecDepth 20000 in
theorem zp0_X5_letThroughPaddles {l : Launch} {D : va_G} {b0 : Nat} {tA : Nat → ClassId} {sa sv : Nat → Nat} {K : zKt} {I : zI} {Qp : zI → Option AV → Prop} {Xp : String → zI → Prop} {a g : Nat} {S : zS}
    (hR : zRw I a S) (hg : g < 6) (hw : ∀ y ∈ sL S g 0, y ≤ 12) (k2 : sG S g 2 = 1) (k3 : sG S g 3 = 0 ∨ (sG S g 3 = 1 ∧ sL S g 0 ≠ [])) (k1 : ∀ I' : zI, zag I I' a 45 → zRw I' a (qPass S g) → Qp I' none) :
    zC l D b0 tA sa sv K yX5_letThroughPaddles (.code yX5_letThroughPaddles cX5_letThroughPaddles 3 none) zrm_X5_letThroughPaddles [vr (a) 5, vr (a + 1 + 2 + 5 * g) 1] I Qp Xp := by
  refine zC_of (by decide +kernel) (Nat.le_of_ble_eq_true rfl) ?_
  intro p e s m args below meth c X hnt
  have X : zX p l e zrm_X5_letThroughPaddles s m args below meth c RX5 cX5_letThroughPaddles 3 none D b0 tA sa sv := X
  refine zr_lv (lv2 := [some (vr (a) 5), some (vr (a + 1 + 2 + 5 * g) 1), none]) rfl ?_
  refine zr_aload1 X dX5_letThroughPaddles_0 ?_
  refine zr_aload1 X dX5_letThroughPaddles_1 ?_
  refine zr_getI X zf_X5_187 rfl dX5_letThroughPaddles_2 ?_
  refine zr_eq (x2 := ((sG S g 2) - 1)) (zGt_j (j := 2) (hR.2.2.1 g (by omega)) (by decide)) ?_
  refine zr_eq (x2 := (0 : Int32)) (by simp [tG_G, tG_L, tX_G, tX_L, tL_G, qGone_G, qGone_L, qGoes_G, k2]) ?_
  refine zr_callV1 (rm9 := zrm_X1_lineOn) X hnt zm_X5_137 (by decide) (by decide) (by decide) (Nat.le_of_ble_eq_true rfl) dX5_letThroughPaddles_5 ?_
  refine zp_X1_lineOn (fun _ => ?_) (fun h => absurd h (by decide))
  refine zr_astore2 X (by decide) rfl dX5_letThroughPaddles_8 ?_
  refine zr_aload1 X dX5_letThroughPaddles_9 ?_
  refine zr_getZ X zf_X5_190 rfl rfl (by decide) dX5_letThroughPaddles_10 (fun hz2 => ?_)
  refine zr_eq (x2 := (sG S g 3)) (zGt_j (j := 3) (hR.2.2.1 g (by omega)) (by decide)) ?_
  have hz2 : (sG S g 3) = 0 ∨ (sG S g 3) = 1 := hz2.imp (fun h => Eq.trans (Eq.symm (zGt_j (j := 3) (hR.2.2.1 g (by omega)) (by decide))) h) (fun h => Eq.trans (Eq.symm (zGt_j (j := 3) (hR.2.2.1 g (by omega)) (by decide))) h)
  refine zr_if_eq (tgt := 37) X dX5_letThroughPaddles_13 (by decide) (fun h3 => ?_) (fun h3 => ?_)
  · skip
    refine zr_aload2 X dX5_letThroughPaddles_37 ?_
    refine zr_callV0 (rm9 := zrm_X4_isFirstWithoutCard) X hnt zm_X5_193 (by decide) (by decide) (by decide) (Nat.le_of_ble_eq_true rfl) dX5_letThroughPaddles_38 ?_
    refine zn_X4_isFirstWithoutCard (w := (sL S g 0)) (hR.2.2.1 g (by omega)).2.1 (by assumption) ?_ ?_
    · skip
      intro hf4
      refine zr_if_eq (tgt := 77) X dX5_letThroughPaddles_41 (by decide) (fun h => absurd h (by decide)) (fun _ => ?_)
      refine zr_aload0 X dX5_letThroughPaddles_44 ?_
      refine zr_aload2 X dX5_letThroughPaddles_45 ?_
      refine zr_iconst (v := (0 : Int32)) X dX5_letThroughPaddles_46 (by decide) ?_
      refine zr_callV1 (rm9 := zrm_X4_removeAt) X hnt zm_X5_180 (by decide) (by decide) (by decide) (Nat.le_of_ble_eq_true rfl) dX5_letThroughPaddles_47 ?_
      refine zp_X4_removeAt (k := 0) (w := (sL S g 0)) (hR.2.2.1 g (by omega)).2.1 (by first | omega | (exact List.length_pos_iff.mpr (by first | exact (by assumption : _ ∧ _).1 | (rcases k3 with k3 | k3; exact absurd k3 (by assumption); exact k3.2)))) ?_
      intro J1 hg2 hl3; have hR4 : zRw J1 a (tL S g 0 ((sL S g 0).eraseIdx 0)) := zRw_L hR (show g < 6 by omega) (Or.inl ⟨rfl, rfl⟩) hg2 hl3
      refine zr_aload1 X dX5_letThroughPaddles_50 ?_
      refine zr_getI X zf_X5_187 rfl dX5_letThroughPaddles_51 ?_
      refine zr_eq (x2 := ((sG (tL S g 0 ((sL S g 0).eraseIdx 0)) g 2) - 1)) (zGt_j (j := 2) (hR4.2.2.1 g (by omega)) (by decide)) ?_
      refine zr_eq (x2 := (0 : Int32)) (by simp [tG_G, tG_L, tX_G, tX_L, tL_G, qGone_G, qGone_L, qGoes_G, k2]) ?_
      refine zr_callV2 (rm9 := zrm_X5_goThrough) X hnt zm_X5_183 (by decide) (by decide) (by decide) (Nat.le_of_ble_eq_true rfl) dX5_letThroughPaddles_54 ?_
      refine zq_X5_goThrough (w := ((sL S g 0).getD 0 0)) (s := 0) hR4 (zgd12 (by first | assumption | exact zmem_erase (by assumption)) 0) (by omega) ?_
      intro J5 hg6 hR7
      refine zr_aload0 X dX5_letThroughPaddles_57 ?_
      refine zr_dupR X dX5_letThroughPaddles_58 ?_
      refine zr_getI X zf_X5_60 rfl dX5_letThroughPaddles_59 ?_
      refine zr_eq (x2 := (sX (qGone (tL S g 0 ((sL S g 0).eraseIdx 0)) ((sL S g 0).getD 0 0) 0) 11)) (hR7.1 11 (by decide) (by decide)) ?_
      refine zr_iconst (v := (1 : Int32)) X dX5_letThroughPaddles_62 (by decide) ?_
      refine zr_iadd X dX5_letThroughPaddles_63 ?_
      refine zr_putI X zf_X5_60 rfl (Or.inl rfl) dX5_letThroughPaddles_64 ?_
      have hR_1 : zRw _ (a) (tX (qGone (tL S g 0 ((sL S g 0).eraseIdx 0)) ((sL S g 0).getD 0 0) 0) 11 ((sX (qGone (tL S g 0 ((sL S g 0).eraseIdx 0)) ((sL S g 0).getD 0 0) 0) 11) + (1 : Int32))) := zRw_X hR7 (i := 11) (v := ((sX (qGone (tL S g 0 ((sL S g 0).eraseIdx 0)) ((sL S g 0).getD 0 0) 0) 11) + (1 : Int32))) (by decide) (by decide)
      refine zr_aload1 X dX5_letThroughPaddles_67 ?_
      refine zr_dupR X dX5_letThroughPaddles_68 ?_
      refine zr_getI X zf_X5_196 rfl dX5_letThroughPaddles_69 ?_
      refine zr_eq (x2 := (sG (tX (qGone (tL S g 0 ((sL S g 0).eraseIdx 0)) ((sL S g 0).getD 0 0) 0) 11 ((sX (qGone (tL S g 0 ((sL S g 0).eraseIdx 0)) ((sL S g 0).getD 0 0) 0) 11) + (1 : Int32))) g 4)) (zGt_j (j := 4) (hR_1.2.2.1 g (by omega)) (by decide)) ?_
      refine zr_iconst (v := (1 : Int32)) X dX5_letThroughPaddles_72 (by decide) ?_
      refine zr_iadd X dX5_letThroughPaddles_73 ?_
      refine zr_putI X zf_X5_196 rfl (Or.inl rfl) dX5_letThroughPaddles_74 ?_
      have hR_2 : zRw _ (a) (tG (tX (qGone (tL S g 0 ((sL S g 0).eraseIdx 0)) ((sL S g 0).getD 0 0) 0) 11 ((sX (qGone (tL S g 0 ((sL S g 0).eraseIdx 0)) ((sL S g 0).getD 0 0) 0) 11) + (1 : Int32))) g 4 ((sG (tX (qGone (tL S g 0 ((sL S g 0).eraseIdx 0)) ((sL S g 0).getD 0 0) 0) 11 ((sX (qGone (tL S g 0 ((sL S g 0).eraseIdx 0)) ((sL S g 0).getD 0 0) 0) 11) + (1 : Int32))) g 4) + (1 : Int32))) := zRw_G hR_1 (show g < 6 by omega) (j := 4) (v := ((sG (tX (qGone (tL S g 0 ((sL S g 0).eraseIdx 0)) ((sL S g 0).getD 0 0) 0) 11 ((sX (qGone (tL S g 0 ((sL S g 0).eraseIdx 0)) ((sL S g 0).getD 0 0) 0) 11) + (1 : Int32))) g 4) + (1 : Int32))) (by decide) rfl (x := ((sG (tX (qGone (tL S g 0 ((sL S g 0).eraseIdx 0)) ((sL S g 0).getD 0 0) 0) 11 ((sX (qGone (tL S g 0 ((sL S g 0).eraseIdx 0)) ((sL S g 0).getD 0 0) 0) 11) + (1 : Int32))) g 4) + (1 : Int32))) rfl
      refine zr_aload1 X dX5_letThroughPaddles_77 ?_
      refine zr_dupR X dX5_letThroughPaddles_78 ?_
      refine zr_getI X zf_X5_199 rfl dX5_letThroughPaddles_79 ?_
      refine zr_eq (x2 := (sG (tG (tX (qGone (tL S g 0 ((sL S g 0).eraseIdx 0)) ((sL S g 0).getD 0 0) 0) 11 ((sX (qGone (tL S g 0 ((sL S g 0).eraseIdx 0)) ((sL S g 0).getD 0 0) 0) 11) + (1 : Int32))) g 4 ((sG (tX (qGone (tL S g 0 ((sL S g 0).eraseIdx 0)) ((sL S g 0).getD 0 0) 0) 11 ((sX (qGone (tL S g 0 ((sL S g 0).eraseIdx 0)) ((sL S g 0).getD 0 0) 0) 11) + (1 : Int32))) g 4) + (1 : Int32))) g 1)) (zGt_j (j := 1) (hR_2.2.2.1 g (by omega)) (by decide)) ?_
      refine zr_iconst (v := (1 : Int32)) X dX5_letThroughPaddles_82 (by decide) ?_
      refine zr_isub X dX5_letThroughPaddles_83 ?_
      refine zr_putI X zf_X5_199 rfl (Or.inl rfl) dX5_letThroughPaddles_84 ?_
      have hR_3 : zRw _ (a) (tG (tG (tX (qGone (tL S g 0 ((sL S g 0).eraseIdx 0)) ((sL S g 0).getD 0 0) 0) 11 ((sX (qGone (tL S g 0 ((sL S g 0).eraseIdx 0)) ((sL S g 0).getD 0 0) 0) 11) + (1 : Int32))) g 4 ((sG (tX (qGone (tL S g 0 ((sL S g 0).eraseIdx 0)) ((sL S g 0).getD 0 0) 0) 11 ((sX (qGone (tL S g 0 ((sL S g 0).eraseIdx 0)) ((sL S g 0).getD 0 0) 0) 11) + (1 : Int32))) g 4) + (1 : Int32))) g 1 ((sG (tG (tX (qGone (tL S g 0 ((sL S g 0).eraseIdx 0)) ((sL S g 0).getD 0 0) 0) 11 ((sX (qGone (tL S g 0 ((sL S g 0).eraseIdx 0)) ((sL S g 0).getD 0 0) 0) 11) + (1 : Int32))) g 4 ((sG (tX (qGone (tL S g 0 ((sL S g 0).eraseIdx 0)) ((sL S g 0).getD 0 0) 0) 11 ((sX (qGone (tL S g 0 ((sL S g 0).eraseIdx 0)) ((sL S g 0).getD 0 0) 0) 11) + (1 : Int32))) g 4) + (1 : Int32))) g 1) - (1 : Int32))) := zRw_G hR_2 (show g < 6 by omega) (j := 1) (v := ((sG (tG (tX (qGone (tL S g 0 ((sL S g 0).eraseIdx 0)) ((sL S g 0).getD 0 0) 0) 11 ((sX (qGone (tL S g 0 ((sL S g 0).eraseIdx 0)) ((sL S g 0).getD 0 0) 0) 11) + (1 : Int32))) g 4 ((sG (tX (qGone (tL S g 0 ((sL S g 0).eraseIdx 0)) ((sL S g 0).getD 0 0) 0) 11 ((sX (qGone (tL S g 0 ((sL S g 0).eraseIdx 0)) ((sL S g 0).getD 0 0) 0) 11) + (1 : Int32))) g 4) + (1 : Int32))) g 1) - (1 : Int32))) (by decide) rfl (x := ((sG (tG (tX (qGone (tL S g 0 ((sL S g 0).eraseIdx 0)) ((sL S g 0).getD 0 0) 0) 11 ((sX (qGone (tL S g 0 ((sL S g 0).eraseIdx 0)) ((sL S g 0).getD 0 0) 0) 11) + (1 : Int32))) g 4 ((sG (tX (qGone (tL S g 0 ((sL S g 0).eraseIdx 0)) ((sL S g 0).getD 0 0) 0) 11 ((sX (qGone (tL S g 0 ((sL S g 0).eraseIdx 0)) ((sL S g 0).getD 0 0) 0) 11) + (1 : Int32))) g 4) + (1 : Int32))) g 1) - (1 : Int32))) rfl
      refine zr_aload1 X dX5_letThroughPaddles_87 ?_
      refine zr_getI X zf_X5_199 rfl dX5_letThroughPaddles_88 ?_
      refine zr_eq (x2 := ((sG (tG (tX (qGone (tL S g 0 ((sL S g 0).eraseIdx 0)) ((sL S g 0).getD 0 0) 0) 11 ((sX (qGone (tL S g 0 ((sL S g 0).eraseIdx 0)) ((sL S g 0).getD 0 0) 0) 11) + (1 : Int32))) g 4 ((sG (tX (qGone (tL S g 0 ((sL S g 0).eraseIdx 0)) ((sL S g 0).getD 0 0) 0) 11 ((sX (qGone (tL S g 0 ((sL S g 0).eraseIdx 0)) ((sL S g 0).getD 0 0) 0) 11) + (1 : Int32))) g 4) + (1 : Int32))) g 1) - (1 : Int32))) (zput_eq) ?_
      refine zr_if_ne (tgt := 98) X dX5_letThroughPaddles_91 (by decide) (fun h5 => ?_) (fun h5 => ?_)
      · skip
        refine zr_vret X (by decide) (by decide) dX5_letThroughPaddles_98 ?_
        refine k1 _ (by repeat (first | exact zag.rf | assumption | refine zag.put ?_ (by omega) (by omega) | refine zag.tr ?_ (by assumption) (by omega) (by omega))) ?_
        have e9 : qSide S g = 0 := by simp [qSide, k2]
        refine cast (congrArg (zRw _ a) ?_) hR_3
        first | refine Eq.trans (zlessB (by assumption)) ?_ | refine Eq.trans (zlessA (by first | (simp [tG_G, tG_L, tX_G, tX_L, tL_G, qGone_G, qGone_L, qGoes_G]; done) | (simp only [tG_G, tG_L, tX_G, tX_L, tL_G, qGone_G, qGone_L, qGoes_G]; simp; assumption) | assumption) (by assumption)) ?_
        rw [qPass, if_neg (show ¬ sG S g 3 = 1 from fun z => absurd (z.symm.trans h3) (by decide)), e9, if_pos hf4]; rfl
      · skip
        refine zr_aload1 X dX5_letThroughPaddles_94 ?_
        refine zr_callV0 (rm9 := zrm_X1_closePaddles) X hnt zm_X5_167 (by decide) (by decide) (by decide) (Nat.le_of_ble_eq_true rfl) dX5_letThroughPaddles_95 ?_
        refine zn_X1_closePaddles hR_3 (by omega) ?_
        intro J8 hg9 hR10
        refine zr_vret X (by decide) (by decide) dX5_letThroughPaddles_98 ?_
        refine k1 _ (by repeat (first | exact zag.rf | assumption | refine zag.put ?_ (by omega) (by omega) | refine zag.tr ?_ (by assumption) (by omega) (by omega))) ?_
        have e9 : qSide S g = 0 := by simp [qSide, k2]
        refine cast (congrArg (zRw _ a) ?_) hR10
        first | refine Eq.trans (zlessB (by assumption)) ?_ | refine Eq.trans (zlessA (by first | (simp [tG_G, tG_L, tX_G, tX_L, tL_G, qGone_G, qGone_L, qGoes_G]; done) | (simp only [tG_G, tG_L, tX_G, tX_L, tL_G, qGone_G, qGone_L, qGoes_G]; simp; assumption) | assumption) (by assumption)) ?_
        rw [qPass, if_neg (show ¬ sG S g 3 = 1 from fun z => absurd (z.symm.trans h3) (by decide)), e9, if_pos hf4]; rfl
    · skip
      intro hf4
      refine zr_if_eq (tgt := 77) X dX5_letThroughPaddles_41 (by decide) (fun _ => ?_) (fun h => absurd h (by decide))
      refine zr_aload1 X dX5_letThroughPaddles_77 ?_
      refine zr_dupR X dX5_letThroughPaddles_78 ?_
      refine zr_getI X zf_X5_199 rfl dX5_letThroughPaddles_79 ?_
      refine zr_eq (x2 := (sG S g 1)) (zGt_j (j := 1) (hR.2.2.1 g (by omega)) (by decide)) ?_
      refine zr_iconst (v := (1 : Int32)) X dX5_letThroughPaddles_82 (by decide) ?_
      refine zr_isub X dX5_letThroughPaddles_83 ?_
      refine zr_putI X zf_X5_199 rfl (Or.inl rfl) dX5_letThroughPaddles_84 ?_
      have hR_4 : zRw _ (a) (tG S g 1 ((sG S g 1) - (1 : Int32))) := zRw_G hR (show g < 6 by omega) (j := 1) (v := ((sG S g 1) - (1 : Int32))) (by decide) rfl (x := ((sG S g 1) - (1 : Int32))) rfl
      refine zr_aload1 X dX5_letThroughPaddles_87 ?_
      refine zr_getI X zf_X5_199 rfl dX5_letThroughPaddles_88 ?_
      refine zr_eq (x2 := ((sG S g 1) - (1 : Int32))) (zput_eq) ?_
      refine zr_if_ne (tgt := 98) X dX5_letThroughPaddles_91 (by decide) (fun h6 => ?_) (fun h6 => ?_)
      · skip
        refine zr_vret X (by decide) (by decide) dX5_letThroughPaddles_98 ?_
        refine k1 _ (by repeat (first | exact zag.rf | assumption | refine zag.put ?_ (by omega) (by omega) | refine zag.tr ?_ (by assumption) (by omega) (by omega))) ?_
        have e9 : qSide S g = 0 := by simp [qSide, k2]
        refine cast (congrArg (zRw _ a) ?_) hR_4
        first | refine Eq.trans (zlessB (by assumption)) ?_ | refine Eq.trans (zlessA (by first | (simp [tG_G, tG_L, tX_G, tX_L, tL_G, qGone_G, qGone_L, qGoes_G]; done) | (simp only [tG_G, tG_L, tX_G, tX_L, tL_G, qGone_G, qGone_L, qGoes_G]; simp; assumption) | assumption) (by assumption)) ?_
        rw [qPass, if_neg (show ¬ sG S g 3 = 1 from fun z => absurd (z.symm.trans h3) (by decide)), e9, if_neg hf4]
      · skip
        refine zr_aload1 X dX5_letThroughPaddles_94 ?_
        refine zr_callV0 (rm9 := zrm_X1_closePaddles) X hnt zm_X5_167 (by decide) (by decide) (by decide) (Nat.le_of_ble_eq_true rfl) dX5_letThroughPaddles_95 ?_
        refine zn_X1_closePaddles hR_4 (by omega) ?_
        intro J11 hg12 hR13
        refine zr_vret X (by decide) (by decide) dX5_letThroughPaddles_98 ?_
        refine k1 _ (by repeat (first | exact zag.rf | assumption | refine zag.put ?_ (by omega) (by omega) | refine zag.tr ?_ (by assumption) (by omega) (by omega))) ?_
        have e9 : qSide S g = 0 := by simp [qSide, k2]
        refine cast (congrArg (zRw _ a) ?_) hR13
        first | refine Eq.trans (zlessB (by assumption)) ?_ | refine Eq.trans (zlessA (by first | (simp [tG_G, tG_L, tX_G, tX_L, tL_G, qGone_G, qGone_L, qGoes_G]; done) | (simp only [tG_G, tG_L, tX_G, tX_L, tL_G, qGone_G, qGone_L, qGoes_G]; simp; assumption) | assumption) (by assumption)) ?_
        rw [qPass, if_neg (show ¬ sG S g 3 = 1 from fun z => absurd (z.symm.trans h3) (by decide)), e9, if_neg hf4]
  · skip
    refine zr_aload1 X dX5_letThroughPaddles_16 ?_
    refine zr_iconst (v := (0 : Int32)) X dX5_letThroughPaddles_17 (by decide) ?_
    refine zr_putI X zf_X5_190 rfl (Or.inr (by first | decide | assumption | (simp; done))) dX5_letThroughPaddles_18 ?_
    have hR_5 : zRw _ (a) (tG S g 3 (0 : Int32)) := zRw_G hR (show g < 6 by omega) (j := 3) (v := (0 : Int32)) (by decide) rfl (x := (0 : Int32)) rfl
    refine zr_aload0 X dX5_letThroughPaddles_21 ?_
    refine zr_aload2 X dX5_letThroughPaddles_22 ?_
    refine zr_iconst (v := (0 : Int32)) X dX5_letThroughPaddles_23 (by decide) ?_
    refine zr_callV1 (rm9 := zrm_X4_removeAt) X hnt zm_X5_180 (by decide) (by decide) (by decide) (Nat.le_of_ble_eq_true rfl) dX5_letThroughPaddles_24 ?_
    refine zp_X4_removeAt (k := 0) (w := (sL (tG S g 3 (0 : Int32)) g 0)) (hR_5.2.2.1 g (by omega)).2.1 (by first | omega | (exact List.length_pos_iff.mpr (by first | exact (by assumption : _ ∧ _).1 | (rcases k3 with k3 | k3; exact absurd k3 (by assumption); exact k3.2)))) ?_
    intro J14 hg15 hl16; have hR17 : zRw J14 a (tL (tG S g 3 (0 : Int32)) g 0 ((sL (tG S g 3 (0 : Int32)) g 0).eraseIdx 0)) := zRw_L hR_5 (show g < 6 by omega) (Or.inl ⟨rfl, rfl⟩) hg15 hl16
    refine zr_aload1 X dX5_letThroughPaddles_27 ?_
    refine zr_getI X zf_X5_187 rfl dX5_letThroughPaddles_28 ?_
    refine zr_eq (x2 := ((sG (tL (tG S g 3 (0 : Int32)) g 0 ((sL (tG S g 3 (0 : Int32)) g 0).eraseIdx 0)) g 2) - 1)) (zGt_j (j := 2) (hR17.2.2.1 g (by omega)) (by decide)) ?_
    refine zr_eq (x2 := (0 : Int32)) (by simp [tG_G, tG_L, tX_G, tX_L, tL_G, qGone_G, qGone_L, qGoes_G, k2]) ?_
    refine zr_callV2 (rm9 := zrm_X5_goThrough) X hnt zm_X5_183 (by decide) (by decide) (by decide) (Nat.le_of_ble_eq_true rfl) dX5_letThroughPaddles_31 ?_
    refine zq_X5_goThrough (w := ((sL (tG S g 3 (0 : Int32)) g 0).getD 0 0)) (s := 0) hR17 (zgd12 (by first | assumption | exact zmem_erase (by assumption)) 0) (by omega) ?_
    intro J18 hg19 hR20
    refine zr_goto (tgt := 77) X dX5_letThroughPaddles_34 (by decide) ?_
    refine zr_aload1 X dX5_letThroughPaddles_77 ?_
    refine zr_dupR X dX5_letThroughPaddles_78 ?_
    refine zr_getI X zf_X5_199 rfl dX5_letThroughPaddles_79 ?_
    refine zr_eq (x2 := (sG (qGone (tL (tG S g 3 (0 : Int32)) g 0 ((sL (tG S g 3 (0 : Int32)) g 0).eraseIdx 0)) ((sL (tG S g 3 (0 : Int32)) g 0).getD 0 0) 0) g 1)) (zGt_j (j := 1) (hR20.2.2.1 g (by omega)) (by decide)) ?_
    refine zr_iconst (v := (1 : Int32)) X dX5_letThroughPaddles_82 (by decide) ?_
    refine zr_isub X dX5_letThroughPaddles_83 ?_
    refine zr_putI X zf_X5_199 rfl (Or.inl rfl) dX5_letThroughPaddles_84 ?_
    have hR_6 : zRw _ (a) (tG (qGone (tL (tG S g 3 (0 : Int32)) g 0 ((sL (tG S g 3 (0 : Int32)) g 0).eraseIdx 0)) ((sL (tG S g 3 (0 : Int32)) g 0).getD 0 0) 0) g 1 ((sG (qGone (tL (tG S g 3 (0 : Int32)) g 0 ((sL (tG S g 3 (0 : Int32)) g 0).eraseIdx 0)) ((sL (tG S g 3 (0 : Int32)) g 0).getD 0 0) 0) g 1) - (1 : Int32))) := zRw_G hR20 (show g < 6 by omega) (j := 1) (v := ((sG (qGone (tL (tG S g 3 (0 : Int32)) g 0 ((sL (tG S g 3 (0 : Int32)) g 0).eraseIdx 0)) ((sL (tG S g 3 (0 : Int32)) g 0).getD 0 0) 0) g 1) - (1 : Int32))) (by decide) rfl (x := ((sG (qGone (tL (tG S g 3 (0 : Int32)) g 0 ((sL (tG S g 3 (0 : Int32)) g 0).eraseIdx 0)) ((sL (tG S g 3 (0 : Int32)) g 0).getD 0 0) 0) g 1) - (1 : Int32))) rfl
    refine zr_aload1 X dX5_letThroughPaddles_87 ?_
    refine zr_getI X zf_X5_199 rfl dX5_letThroughPaddles_88 ?_
    refine zr_eq (x2 := ((sG (qGone (tL (tG S g 3 (0 : Int32)) g 0 ((sL (tG S g 3 (0 : Int32)) g 0).eraseIdx 0)) ((sL (tG S g 3 (0 : Int32)) g 0).getD 0 0) 0) g 1) - (1 : Int32))) (zput_eq) ?_
    refine zr_if_ne (tgt := 98) X dX5_letThroughPaddles_91 (by decide) (fun h7 => ?_) (fun h7 => ?_)
    · skip
      refine zr_vret X (by decide) (by decide) dX5_letThroughPaddles_98 ?_
      refine k1 _ (by repeat (first | exact zag.rf | assumption | refine zag.put ?_ (by omega) (by omega) | refine zag.tr ?_ (by assumption) (by omega) (by omega))) ?_
      have e9 : qSide S g = 0 := by simp [qSide, k2]
      refine cast (congrArg (zRw _ a) ?_) hR_6
      first | refine Eq.trans (zlessB (by assumption)) ?_ | refine Eq.trans (zlessA (by first | (simp [tG_G, tG_L, tX_G, tX_L, tL_G, qGone_G, qGone_L, qGoes_G]; done) | (simp only [tG_G, tG_L, tX_G, tX_L, tL_G, qGone_G, qGone_L, qGoes_G]; simp; assumption) | assumption) (by assumption)) ?_
      rw [qPass, if_pos (show sG S g 3 = 1 from by rcases k3 with k | k; exact absurd k h3; exact k.1), e9]; exact congrArg (fun z => qLess z g) tG_qGoes
    · skip
      refine zr_aload1 X dX5_letThroughPaddles_94 ?_
      refine zr_callV0 (rm9 := zrm_X1_closePaddles) X hnt zm_X5_167 (by decide) (by decide) (by decide) (Nat.le_of_ble_eq_true rfl) dX5_letThroughPaddles_95 ?_
      refine zn_X1_closePaddles hR_6 (by omega) ?_
      intro J21 hg22 hR23
      refine zr_vret X (by decide) (by decide) dX5_letThroughPaddles_98 ?_
      refine k1 _ (by repeat (first | exact zag.rf | assumption | refine zag.put ?_ (by omega) (by omega) | refine zag.tr ?_ (by assumption) (by omega) (by omega))) ?_
      have e9 : qSide S g = 0 := by simp [qSide, k2]
      refine cast (congrArg (zRw _ a) ?_) hR23
      first | refine Eq.trans (zlessB (by assumption)) ?_ | refine Eq.trans (zlessA (by first | (simp [tG_G, tG_L, tX_G, tX_L, tL_G, qGone_G, qGone_L, qGoes_G]; done) | (simp only [tG_G, tG_L, tX_G, tX_L, tL_G, qGone_G, qGone_L, qGoes_G]; simp; assumption) | assumption) (by assumption)) ?_
      rw [qPass, if_pos (show sG S g 3 = 1 from by rcases k3 with k | k; exact absurd k h3; exact k.1), e9]; exact congrArg (fun z => qLess z g) tG_qGoes
set_option maxRecDepth 20000 in
theorem zp1_X5_letThroughPaddles {l : Launch} {D : va_G} {b0 : Nat} {tA : Nat → ClassId} {sa sv : Nat → Nat} {K : zKt} {I : zI} {Qp : zI → Option AV → Prop} {Xp : String → zI → Prop} {a g : Nat} {S : zS}
    (hR : zRw I a S) (hg : g < 6) (hw : ∀ y ∈ sL S g 1, y ≤ 12) (k2 : sG S g 2 = 2) (k3 : sG S g 3 = 0 ∨ (sG S g 3 = 1 ∧ sL S g 1 ≠ [])) (k1 : ∀ I' : zI, zag I I' a 45 → zRw I' a (qPass S g) → Qp I' none) :
    zC l D b0 tA sa sv K yX5_letThroughPaddles (.code yX5_letThroughPaddles cX5_letThroughPaddles 3 none) zrm_X5_letThroughPaddles [vr (a) 5, vr (a + 1 + 2 + 5 * g) 1] I Qp Xp := by
  refine zC_of (by decide +kernel) (Nat.le_of_ble_eq_true rfl) ?_
  intro p e s m args below meth c X hnt
  have X : zX p l e zrm_X5_letThroughPaddles s m args below meth c RX5 cX5_letThroughPaddles 3 none D b0 tA sa sv := X
  refine zr_lv (lv2 := [some (vr (a) 5), some (vr (a + 1 + 2 + 5 * g) 1), none]) rfl ?_
  refine zr_aload1 X dX5_letThroughPaddles_0 ?_
  refine zr_aload1 X dX5_letThroughPaddles_1 ?_
  refine zr_getI X zf_X5_187 rfl dX5_letThroughPaddles_2 ?_
  refine zr_eq (x2 := ((sG S g 2) - 1)) (zGt_j (j := 2) (hR.2.2.1 g (by omega)) (by decide)) ?_
  refine zr_eq (x2 := (1 : Int32)) (by simp [tG_G, tG_L, tX_G, tX_L, tL_G, qGone_G, qGone_L, qGoes_G, k2]) ?_
  refine zr_callV1 (rm9 := zrm_X1_lineOn) X hnt zm_X5_137 (by decide) (by decide) (by decide) (Nat.le_of_ble_eq_true rfl) dX5_letThroughPaddles_5 ?_
  refine zp_X1_lineOn (fun h => absurd rfl h) (fun _ => ?_)
  refine zr_astore2 X (by decide) rfl dX5_letThroughPaddles_8 ?_
  refine zr_aload1 X dX5_letThroughPaddles_9 ?_
  refine zr_getZ X zf_X5_190 rfl rfl (by decide) dX5_letThroughPaddles_10 (fun hz2 => ?_)
  refine zr_eq (x2 := (sG S g 3)) (zGt_j (j := 3) (hR.2.2.1 g (by omega)) (by decide)) ?_
  have hz2 : (sG S g 3) = 0 ∨ (sG S g 3) = 1 := hz2.imp (fun h => Eq.trans (Eq.symm (zGt_j (j := 3) (hR.2.2.1 g (by omega)) (by decide))) h) (fun h => Eq.trans (Eq.symm (zGt_j (j := 3) (hR.2.2.1 g (by omega)) (by decide))) h)
  refine zr_if_eq (tgt := 37) X dX5_letThroughPaddles_13 (by decide) (fun h3 => ?_) (fun h3 => ?_)
  · skip
    refine zr_aload2 X dX5_letThroughPaddles_37 ?_
    refine zr_callV0 (rm9 := zrm_X4_isFirstWithoutCard) X hnt zm_X5_193 (by decide) (by decide) (by decide) (Nat.le_of_ble_eq_true rfl) dX5_letThroughPaddles_38 ?_
    refine zn_X4_isFirstWithoutCard (w := (sL S g 1)) (hR.2.2.1 g (by omega)).2.2 (by assumption) ?_ ?_
    · skip
      intro hf4
      refine zr_if_eq (tgt := 77) X dX5_letThroughPaddles_41 (by decide) (fun h => absurd h (by decide)) (fun _ => ?_)
      refine zr_aload0 X dX5_letThroughPaddles_44 ?_
      refine zr_aload2 X dX5_letThroughPaddles_45 ?_
      refine zr_iconst (v := (0 : Int32)) X dX5_letThroughPaddles_46 (by decide) ?_
      refine zr_callV1 (rm9 := zrm_X4_removeAt) X hnt zm_X5_180 (by decide) (by decide) (by decide) (Nat.le_of_ble_eq_true rfl) dX5_letThroughPaddles_47 ?_
      refine zp_X4_removeAt (k := 0) (w := (sL S g 1)) (hR.2.2.1 g (by omega)).2.2 (by first | omega | (exact List.length_pos_iff.mpr (by first | exact (by assumption : _ ∧ _).1 | (rcases k3 with k3 | k3; exact absurd k3 (by assumption); exact k3.2)))) ?_
      intro J1 hg2 hl3; have hR4 : zRw J1 a (tL S g 1 ((sL S g 1).eraseIdx 0)) := zRw_L hR (show g < 6 by omega) (Or.inr ⟨rfl, rfl⟩) hg2 hl3
      refine zr_aload1 X dX5_letThroughPaddles_50 ?_
      refine zr_getI X zf_X5_187 rfl dX5_letThroughPaddles_51 ?_
      refine zr_eq (x2 := ((sG (tL S g 1 ((sL S g 1).eraseIdx 0)) g 2) - 1)) (zGt_j (j := 2) (hR4.2.2.1 g (by omega)) (by decide)) ?_
      refine zr_eq (x2 := (1 : Int32)) (by simp [tG_G, tG_L, tX_G, tX_L, tL_G, qGone_G, qGone_L, qGoes_G, k2]) ?_
      refine zr_callV2 (rm9 := zrm_X5_goThrough) X hnt zm_X5_183 (by decide) (by decide) (by decide) (Nat.le_of_ble_eq_true rfl) dX5_letThroughPaddles_54 ?_
      refine zq_X5_goThrough (w := ((sL S g 1).getD 0 0)) (s := 1) hR4 (zgd12 (by first | assumption | exact zmem_erase (by assumption)) 0) (by omega) ?_
      intro J5 hg6 hR7
      refine zr_aload0 X dX5_letThroughPaddles_57 ?_
      refine zr_dupR X dX5_letThroughPaddles_58 ?_
      refine zr_getI X zf_X5_60 rfl dX5_letThroughPaddles_59 ?_
      refine zr_eq (x2 := (sX (qGone (tL S g 1 ((sL S g 1).eraseIdx 0)) ((sL S g 1).getD 0 0) 1) 11)) (hR7.1 11 (by decide) (by decide)) ?_
      refine zr_iconst (v := (1 : Int32)) X dX5_letThroughPaddles_62 (by decide) ?_
      refine zr_iadd X dX5_letThroughPaddles_63 ?_
      refine zr_putI X zf_X5_60 rfl (Or.inl rfl) dX5_letThroughPaddles_64 ?_
      have hR_1 : zRw _ (a) (tX (qGone (tL S g 1 ((sL S g 1).eraseIdx 0)) ((sL S g 1).getD 0 0) 1) 11 ((sX (qGone (tL S g 1 ((sL S g 1).eraseIdx 0)) ((sL S g 1).getD 0 0) 1) 11) + (1 : Int32))) := zRw_X hR7 (i := 11) (v := ((sX (qGone (tL S g 1 ((sL S g 1).eraseIdx 0)) ((sL S g 1).getD 0 0) 1) 11) + (1 : Int32))) (by decide) (by decide)
      refine zr_aload1 X dX5_letThroughPaddles_67 ?_
      refine zr_dupR X dX5_letThroughPaddles_68 ?_
      refine zr_getI X zf_X5_196 rfl dX5_letThroughPaddles_69 ?_
      refine zr_eq (x2 := (sG (tX (qGone (tL S g 1 ((sL S g 1).eraseIdx 0)) ((sL S g 1).getD 0 0) 1) 11 ((sX (qGone (tL S g 1 ((sL S g 1).eraseIdx 0)) ((sL S g 1).getD 0 0) 1) 11) + (1 : Int32))) g 4)) (zGt_j (j := 4) (hR_1.2.2.1 g (by omega)) (by decide)) ?_
      refine zr_iconst (v := (1 : Int32)) X dX5_letThroughPaddles_72 (by decide) ?_
      refine zr_iadd X dX5_letThroughPaddles_73 ?_
      refine zr_putI X zf_X5_196 rfl (Or.inl rfl) dX5_letThroughPaddles_74 ?_
      have hR_2 : zRw _ (a) (tG (tX (qGone (tL S g 1 ((sL S g 1).eraseIdx 0)) ((sL S g 1).getD 0 0) 1) 11 ((sX (qGone (tL S g 1 ((sL S g 1).eraseIdx 0)) ((sL S g 1).getD 0 0) 1) 11) + (1 : Int32))) g 4 ((sG (tX (qGone (tL S g 1 ((sL S g 1).eraseIdx 0)) ((sL S g 1).getD 0 0) 1) 11 ((sX (qGone (tL S g 1 ((sL S g 1).eraseIdx 0)) ((sL S g 1).getD 0 0) 1) 11) + (1 : Int32))) g 4) + (1 : Int32))) := zRw_G hR_1 (show g < 6 by omega) (j := 4) (v := ((sG (tX (qGone (tL S g 1 ((sL S g 1).eraseIdx 0)) ((sL S g 1).getD 0 0) 1) 11 ((sX (qGone (tL S g 1 ((sL S g 1).eraseIdx 0)) ((sL S g 1).getD 0 0) 1) 11) + (1 : Int32))) g 4) + (1 : Int32))) (by decide) rfl (x := ((sG (tX (qGone (tL S g 1 ((sL S g 1).eraseIdx 0)) ((sL S g 1).getD 0 0) 1) 11 ((sX (qGone (tL S g 1 ((sL S g 1).eraseIdx 0)) ((sL S g 1).getD 0 0) 1) 11) + (1 : Int32))) g 4) + (1 : Int32))) rfl
      refine zr_aload1 X dX5_letThroughPaddles_77 ?_
      refine zr_dupR X dX5_letThroughPaddles_78 ?_
      refine zr_getI X zf_X5_199 rfl dX5_letThroughPaddles_79 ?_
      refine zr_eq (x2 := (sG (tG (tX (qGone (tL S g 1 ((sL S g 1).eraseIdx 0)) ((sL S g 1).getD 0 0) 1) 11 ((sX (qGone (tL S g 1 ((sL S g 1).eraseIdx 0)) ((sL S g 1).getD 0 0) 1) 11) + (1 : Int32))) g 4 ((sG (tX (qGone (tL S g 1 ((sL S g 1).eraseIdx 0)) ((sL S g 1).getD 0 0) 1) 11 ((sX (qGone (tL S g 1 ((sL S g 1).eraseIdx 0)) ((sL S g 1).getD 0 0) 1) 11) + (1 : Int32))) g 4) + (1 : Int32))) g 1)) (zGt_j (j := 1) (hR_2.2.2.1 g (by omega)) (by decide)) ?_
      refine zr_iconst (v := (1 : Int32)) X dX5_letThroughPaddles_82 (by decide) ?_
      refine zr_isub X dX5_letThroughPaddles_83 ?_
      refine zr_putI X zf_X5_199 rfl (Or.inl rfl) dX5_letThroughPaddles_84 ?_
      have hR_3 : zRw _ (a) (tG (tG (tX (qGone (tL S g 1 ((sL S g 1).eraseIdx 0)) ((sL S g 1).getD 0 0) 1) 11 ((sX (qGone (tL S g 1 ((sL S g 1).eraseIdx 0)) ((sL S g 1).getD 0 0) 1) 11) + (1 : Int32))) g 4 ((sG (tX (qGone (tL S g 1 ((sL S g 1).eraseIdx 0)) ((sL S g 1).getD 0 0) 1) 11 ((sX (qGone (tL S g 1 ((sL S g 1).eraseIdx 0)) ((sL S g 1).getD 0 0) 1) 11) + (1 : Int32))) g 4) + (1 : Int32))) g 1 ((sG (tG (tX (qGone (tL S g 1 ((sL S g 1).eraseIdx 0)) ((sL S g 1).getD 0 0) 1) 11 ((sX (qGone (tL S g 1 ((sL S g 1).eraseIdx 0)) ((sL S g 1).getD 0 0) 1) 11) + (1 : Int32))) g 4 ((sG (tX (qGone (tL S g 1 ((sL S g 1).eraseIdx 0)) ((sL S g 1).getD 0 0) 1) 11 ((sX (qGone (tL S g 1 ((sL S g 1).eraseIdx 0)) ((sL S g 1).getD 0 0) 1) 11) + (1 : Int32))) g 4) + (1 : Int32))) g 1) - (1 : Int32))) := zRw_G hR_2 (show g < 6 by omega) (j := 1) (v := ((sG (tG (tX (qGone (tL S g 1 ((sL S g 1).eraseIdx 0)) ((sL S g 1).getD 0 0) 1) 11 ((sX (qGone (tL S g 1 ((sL S g 1).eraseIdx 0)) ((sL S g 1).getD 0 0) 1) 11) + (1 : Int32))) g 4 ((sG (tX (qGone (tL S g 1 ((sL S g 1).eraseIdx 0)) ((sL S g 1).getD 0 0) 1) 11 ((sX (qGone (tL S g 1 ((sL S g 1).eraseIdx 0)) ((sL S g 1).getD 0 0) 1) 11) + (1 : Int32))) g 4) + (1 : Int32))) g 1) - (1 : Int32))) (by decide) rfl (x := ((sG (tG (tX (qGone (tL S g 1 ((sL S g 1).eraseIdx 0)) ((sL S g 1).getD 0 0) 1) 11 ((sX (qGone (tL S g 1 ((sL S g 1).eraseIdx 0)) ((sL S g 1).getD 0 0) 1) 11) + (1 : Int32))) g 4 ((sG (tX (qGone (tL S g 1 ((sL S g 1).eraseIdx 0)) ((sL S g 1).getD 0 0) 1) 11 ((sX (qGone (tL S g 1 ((sL S g 1).eraseIdx 0)) ((sL S g 1).getD 0 0) 1) 11) + (1 : Int32))) g 4) + (1 : Int32))) g 1) - (1 : Int32))) rfl
      refine zr_aload1 X dX5_letThroughPaddles_87 ?_
      refine zr_getI X zf_X5_199 rfl dX5_letThroughPaddles_88 ?_
      refine zr_eq (x2 := ((sG (tG (tX (qGone (tL S g 1 ((sL S g 1).eraseIdx 0)) ((sL S g 1).getD 0 0) 1) 11 ((sX (qGone (tL S g 1 ((sL S g 1).eraseIdx 0)) ((sL S g 1).getD 0 0) 1) 11) + (1 : Int32))) g 4 ((sG (tX (qGone (tL S g 1 ((sL S g 1).eraseIdx 0)) ((sL S g 1).getD 0 0) 1) 11 ((sX (qGone (tL S g 1 ((sL S g 1).eraseIdx 0)) ((sL S g 1).getD 0 0) 1) 11) + (1 : Int32))) g 4) + (1 : Int32))) g 1) - (1 : Int32))) (zput_eq) ?_
      refine zr_if_ne (tgt := 98) X dX5_letThroughPaddles_91 (by decide) (fun h5 => ?_) (fun h5 => ?_)
      · skip
        refine zr_vret X (by decide) (by decide) dX5_letThroughPaddles_98 ?_
        refine k1 _ (by repeat (first | exact zag.rf | assumption | refine zag.put ?_ (by omega) (by omega) | refine zag.tr ?_ (by assumption) (by omega) (by omega))) ?_
        have e9 : qSide S g = 1 := by simp [qSide, k2]
        refine cast (congrArg (zRw _ a) ?_) hR_3
        first | refine Eq.trans (zlessB (by assumption)) ?_ | refine Eq.trans (zlessA (by first | (simp [tG_G, tG_L, tX_G, tX_L, tL_G, qGone_G, qGone_L, qGoes_G]; done) | (simp only [tG_G, tG_L, tX_G, tX_L, tL_G, qGone_G, qGone_L, qGoes_G]; simp; assumption) | assumption) (by assumption)) ?_
        rw [qPass, if_neg (show ¬ sG S g 3 = 1 from fun z => absurd (z.symm.trans h3) (by decide)), e9, if_pos hf4]; rfl
      · skip
        refine zr_aload1 X dX5_letThroughPaddles_94 ?_
        refine zr_callV0 (rm9 := zrm_X1_closePaddles) X hnt zm_X5_167 (by decide) (by decide) (by decide) (Nat.le_of_ble_eq_true rfl) dX5_letThroughPaddles_95 ?_
        refine zn_X1_closePaddles hR_3 (by omega) ?_
        intro J8 hg9 hR10
        refine zr_vret X (by decide) (by decide) dX5_letThroughPaddles_98 ?_
        refine k1 _ (by repeat (first | exact zag.rf | assumption | refine zag.put ?_ (by omega) (by omega) | refine zag.tr ?_ (by assumption) (by omega) (by omega))) ?_
        have e9 : qSide S g = 1 := by simp [qSide, k2]
        refine cast (congrArg (zRw _ a) ?_) hR10
        first | refine Eq.trans (zlessB (by assumption)) ?_ | refine Eq.trans (zlessA (by first | (simp [tG_G, tG_L, tX_G, tX_L, tL_G, qGone_G, qGone_L, qGoes_G]; done) | (simp only [tG_G, tG_L, tX_G, tX_L, tL_G, qGone_G, qGone_L, qGoes_G]; simp; assumption) | assumption) (by assumption)) ?_
        rw [qPass, if_neg (show ¬ sG S g 3 = 1 from fun z => absurd (z.symm.trans h3) (by decide)), e9, if_pos hf4]; rfl
    · skip
      intro hf4
      refine zr_if_eq (tgt := 77) X dX5_letThroughPaddles_41 (by decide) (fun _ => ?_) (fun h => absurd h (by decide))
      refine zr_aload1 X dX5_letThroughPaddles_77 ?_
      refine zr_dupR X dX5_letThroughPaddles_78 ?_
      refine zr_getI X zf_X5_199 rfl dX5_letThroughPaddles_79 ?_
      refine zr_eq (x2 := (sG S g 1)) (zGt_j (j := 1) (hR.2.2.1 g (by omega)) (by decide)) ?_
      refine zr_iconst (v := (1 : Int32)) X dX5_letThroughPaddles_82 (by decide) ?_
      refine zr_isub X dX5_letThroughPaddles_83 ?_
      refine zr_putI X zf_X5_199 rfl (Or.inl rfl) dX5_letThroughPaddles_84 ?_
      have hR_4 : zRw _ (a) (tG S g 1 ((sG S g 1) - (1 : Int32))) := zRw_G hR (show g < 6 by omega) (j := 1) (v := ((sG S g 1) - (1 : Int32))) (by decide) rfl (x := ((sG S g 1) - (1 : Int32))) rfl
      refine zr_aload1 X dX5_letThroughPaddles_87 ?_
      refine zr_getI X zf_X5_199 rfl dX5_letThroughPaddles_88 ?_
      refine zr_eq (x2 := ((sG S g 1) - (1 : Int32))) (zput_eq) ?_
      refine zr_if_ne (tgt := 98) X dX5_letThroughPaddles_91 (by decide) (fun h6 => ?_) (fun h6 => ?_)
      · skip
        refine zr_vret X (by decide) (by decide) dX5_letThroughPaddles_98 ?_
        refine k1 _ (by repeat (first | exact zag.rf | assumption | refine zag.put ?_ (by omega) (by omega) | refine zag.tr ?_ (by assumption) (by omega) (by omega))) ?_
        have e9 : qSide S g = 1 := by simp [qSide, k2]
        refine cast (congrArg (zRw _ a) ?_) hR_4
        first | refine Eq.trans (zlessB (by assumption)) ?_ | refine Eq.trans (zlessA (by first | (simp [tG_G, tG_L, tX_G, tX_L, tL_G, qGone_G, qGone_L, qGoes_G]; done) | (simp only [tG_G, tG_L, tX_G, tX_L, tL_G, qGone_G, qGone_L, qGoes_G]; simp; assumption) | assumption) (by assumption)) ?_
        rw [qPass, if_neg (show ¬ sG S g 3 = 1 from fun z => absurd (z.symm.trans h3) (by decide)), e9, if_neg hf4]
      · skip
        refine zr_aload1 X dX5_letThroughPaddles_94 ?_
        refine zr_callV0 (rm9 := zrm_X1_closePaddles) X hnt zm_X5_167 (by decide) (by decide) (by decide) (Nat.le_of_ble_eq_true rfl) dX5_letThroughPaddles_95 ?_
        refine zn_X1_closePaddles hR_4 (by omega) ?_
        intro J11 hg12 hR13
        refine zr_vret X (by decide) (by decide) dX5_letThroughPaddles_98 ?_
        refine k1 _ (by repeat (first | exact zag.rf | assumption | refine zag.put ?_ (by omega) (by omega) | refine zag.tr ?_ (by assumption) (by omega) (by omega))) ?_
        have e9 : qSide S g = 1 := by simp [qSide, k2]
        refine cast (congrArg (zRw _ a) ?_) hR13
        first | refine Eq.trans (zlessB (by assumption)) ?_ | refine Eq.trans (zlessA (by first | (simp [tG_G, tG_L, tX_G, tX_L, tL_G, qGone_G, qGone_L, qGoes_G]; done) | (simp only [tG_G, tG_L, tX_G, tX_L, tL_G, qGone_G, qGone_L, qGoes_G]; simp; assumption) | assumption) (by assumption)) ?_
        rw [qPass, if_neg (show ¬ sG S g 3 = 1 from fun z => absurd (z.symm.trans h3) (by decide)), e9, if_neg hf4]
  · skip
    refine zr_aload1 X dX5_letThroughPaddles_16 ?_
    refine zr_iconst (v := (0 : Int32)) X dX5_letThroughPaddles_17 (by decide) ?_
    refine zr_putI X zf_X5_190 rfl (Or.inr (by first | decide | assumption | (simp; done))) dX5_letThroughPaddles_18 ?_
    have hR_5 : zRw _ (a) (tG S g 3 (0 : Int32)) := zRw_G hR (show g < 6 by omega) (j := 3) (v := (0 : Int32)) (by decide) rfl (x := (0 : Int32)) rfl
    refine zr_aload0 X dX5_letThroughPaddles_21 ?_
    refine zr_aload2 X dX5_letThroughPaddles_22 ?_
    refine zr_iconst (v := (0 : Int32)) X dX5_letThroughPaddles_23 (by decide) ?_
    refine zr_callV1 (rm9 := zrm_X4_removeAt) X hnt zm_X5_180 (by decide) (by decide) (by decide) (Nat.le_of_ble_eq_true rfl) dX5_letThroughPaddles_24 ?_
    refine zp_X4_removeAt (k := 0) (w := (sL (tG S g 3 (0 : Int32)) g 1)) (hR_5.2.2.1 g (by omega)).2.2 (by first | omega | (exact List.length_pos_iff.mpr (by first | exact (by assumption : _ ∧ _).1 | (rcases k3 with k3 | k3; exact absurd k3 (by assumption); exact k3.2)))) ?_
    intro J14 hg15 hl16; have hR17 : zRw J14 a (tL (tG S g 3 (0 : Int32)) g 1 ((sL (tG S g 3 (0 : Int32)) g 1).eraseIdx 0)) := zRw_L hR_5 (show g < 6 by omega) (Or.inr ⟨rfl, rfl⟩) hg15 hl16
    refine zr_aload1 X dX5_letThroughPaddles_27 ?_
    refine zr_getI X zf_X5_187 rfl dX5_letThroughPaddles_28 ?_
    refine zr_eq (x2 := ((sG (tL (tG S g 3 (0 : Int32)) g 1 ((sL (tG S g 3 (0 : Int32)) g 1).eraseIdx 0)) g 2) - 1)) (zGt_j (j := 2) (hR17.2.2.1 g (by omega)) (by decide)) ?_
    refine zr_eq (x2 := (1 : Int32)) (by simp [tG_G, tG_L, tX_G, tX_L, tL_G, qGone_G, qGone_L, qGoes_G, k2]) ?_
    refine zr_callV2 (rm9 := zrm_X5_goThrough) X hnt zm_X5_183 (by decide) (by decide) (by decide) (Nat.le_of_ble_eq_true rfl) dX5_letThroughPaddles_31 ?_
    refine zq_X5_goThrough (w := ((sL (tG S g 3 (0 : Int32)) g 1).getD 0 0)) (s := 1) hR17 (zgd12 (by first | assumption | exact zmem_erase (by assumption)) 0) (by omega) ?_
    intro J18 hg19 hR20
    refine zr_goto (tgt := 77) X dX5_letThroughPaddles_34 (by decide) ?_
    refine zr_aload1 X dX5_letThroughPaddles_77 ?_
    refine zr_dupR X dX5_letThroughPaddles_78 ?_
    refine zr_getI X zf_X5_199 rfl dX5_letThroughPaddles_79 ?_
    refine zr_eq (x2 := (sG (qGone (tL (tG S g 3 (0 : Int32)) g 1 ((sL (tG S g 3 (0 : Int32)) g 1).eraseIdx 0)) ((sL (tG S g 3 (0 : Int32)) g 1).getD 0 0) 1) g 1)) (zGt_j (j := 1) (hR20.2.2.1 g (by omega)) (by decide)) ?_
    refine zr_iconst (v := (1 : Int32)) X dX5_letThroughPaddles_82 (by decide) ?_
    refine zr_isub X dX5_letThroughPaddles_83 ?_
    refine zr_putI X zf_X5_199 rfl (Or.inl rfl) dX5_letThroughPaddles_84 ?_
    have hR_6 : zRw _ (a) (tG (qGone (tL (tG S g 3 (0 : Int32)) g 1 ((sL (tG S g 3 (0 : Int32)) g 1).eraseIdx 0)) ((sL (tG S g 3 (0 : Int32)) g 1).getD 0 0) 1) g 1 ((sG (qGone (tL (tG S g 3 (0 : Int32)) g 1 ((sL (tG S g 3 (0 : Int32)) g 1).eraseIdx 0)) ((sL (tG S g 3 (0 : Int32)) g 1).getD 0 0) 1) g 1) - (1 : Int32))) := zRw_G hR20 (show g < 6 by omega) (j := 1) (v := ((sG (qGone (tL (tG S g 3 (0 : Int32)) g 1 ((sL (tG S g 3 (0 : Int32)) g 1).eraseIdx 0)) ((sL (tG S g 3 (0 : Int32)) g 1).getD 0 0) 1) g 1) - (1 : Int32))) (by decide) rfl (x := ((sG (qGone (tL (tG S g 3 (0 : Int32)) g 1 ((sL (tG S g 3 (0 : Int32)) g 1).eraseIdx 0)) ((sL (tG S g 3 (0 : Int32)) g 1).getD 0 0) 1) g 1) - (1 : Int32))) rfl
    refine zr_aload1 X dX5_letThroughPaddles_87 ?_
    refine zr_getI X zf_X5_199 rfl dX5_letThroughPaddles_88 ?_
    refine zr_eq (x2 := ((sG (qGone (tL (tG S g 3 (0 : Int32)) g 1 ((sL (tG S g 3 (0 : Int32)) g 1).eraseIdx 0)) ((sL (tG S g 3 (0 : Int32)) g 1).getD 0 0) 1) g 1) - (1 : Int32))) (zput_eq) ?_
    refine zr_if_ne (tgt := 98) X dX5_letThroughPaddles_91 (by decide) (fun h7 => ?_) (fun h7 => ?_)
    · skip
      refine zr_vret X (by decide) (by decide) dX5_letThroughPaddles_98 ?_
      refine k1 _ (by repeat (first | exact zag.rf | assumption | refine zag.put ?_ (by omega) (by omega) | refine zag.tr ?_ (by assumption) (by omega) (by omega))) ?_
      have e9 : qSide S g = 1 := by simp [qSide, k2]
      refine cast (congrArg (zRw _ a) ?_) hR_6
      first | refine Eq.trans (zlessB (by assumption)) ?_ | refine Eq.trans (zlessA (by first | (simp [tG_G, tG_L, tX_G, tX_L, tL_G, qGone_G, qGone_L, qGoes_G]; done) | (simp only [tG_G, tG_L, tX_G, tX_L, tL_G, qGone_G, qGone_L, qGoes_G]; simp; assumption) | assumption) (by assumption)) ?_
      rw [qPass, if_pos (show sG S g 3 = 1 from by rcases k3 with k | k; exact absurd k h3; exact k.1), e9]; exact congrArg (fun z => qLess z g) tG_qGoes
    · skip
      refine zr_aload1 X dX5_letThroughPaddles_94 ?_
      refine zr_callV0 (rm9 := zrm_X1_closePaddles) X hnt zm_X5_167 (by decide) (by decide) (by decide) (Nat.le_of_ble_eq_true rfl) dX5_letThroughPaddles_95 ?_
      refine zn_X1_closePaddles hR_6 (by omega) ?_
      intro J21 hg22 hR23
      refine zr_vret X (by decide) (by decide) dX5_letThroughPaddles_98 ?_
      refine k1 _ (by repeat (first | exact zag.rf | assumption | refine zag.put ?_ (by omega) (by omega) | refine zag.tr ?_ (by assumption) (by omega) (by omega))) ?_
      have e9 : qSide S g = 1 := by simp [qSide, k2]
      refine cast (congrArg (zRw _ a) ?_) hR23
      first | refine Eq.trans (zlessB (by assumption)) ?_ | refine Eq.trans (zlessA (by first | (simp [tG_G, tG_L, tX_G, tX_L, tL_G, qGone_G, qGone_L, qGoes_G]; done) | (simp only [tG_G, tG_L, tX_G, tX_L, tL_G, qGone_G, qGone_L, qGoes_G]; simp; assumption) | assumption) (by assumption)) ?_
      rw [qPass, if_pos (show sG S g 3 = 1 from by rcases k3 with k | k; exact absurd k h3; exact k.1), e9]; exact congrArg (fun z => qLess z g) tG_qGoes
