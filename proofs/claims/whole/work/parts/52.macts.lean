/-! ===== the reference: who goes, flees, passes, opens ===== -/
theorem tX_id {S : zS} {i : Nat} : tX S i (sX S i) = S := by
  refine Prod.ext ?_ rfl
  funext x
  show va_up S.1 i (sX S i) x = S.1 x
  unfold va_up
  split
  · rename_i h; subst h; rfl
  · rfl
theorem tC_id {S : zS} {c j : Nat} : tC S c j (sC S c j) = S := by
  refine Prod.ext rfl (Prod.ext rfl (Prod.ext rfl (Prod.ext ?_ rfl)))
  funext x y
  show zu2 (sC S) c j (sC S c j) x y = sC S x y
  by_cases hx : x = c ∧ y = j
  · obtain ⟨rfl, rfl⟩ := hx; rw [zu2_eq]
  · rw [zu2_ne hx]
theorem tL_tL {S : zS} {g s : Nat} {w w2 : List Nat} : tL (tL S g s w) g s w2 = tL S g s w2 := by
  refine Prod.ext rfl (Prod.ext rfl (Prod.ext ?_ rfl))
  funext x y
  show zu2 (zu2 (sL S) g s w) g s w2 x y = zu2 (sL S) g s w2 x y
  by_cases hx : x = g ∧ y = s
  · obtain ⟨rfl, rfl⟩ := hx; rw [zu2_eq, zu2_eq]
  · rw [zu2_ne hx, zu2_ne hx, zu2_ne hx]
theorem tC_X9 {S : zS} {c j i : Nat} {v : Int32} : sX (tC S c j v) i = sX S i := rfl
theorem tL_C {S : zS} {g s : Nat} {w : List Nat} : sC (tL S g s w) = sC S := rfl
theorem tX_C {S : zS} {i : Nat} {v : Int32} : sC (tX S i v) = sC S := rfl
theorem tG_C {S : zS} {g j : Nat} {v : Int32} : sC (tG S g j v) = sC S := rfl
abbrev zrm_X8_goes : Room := { frames := 3, cells := 0, slots := 0, locals := 69 }
set_option maxRecDepth 20000 in
theorem zp010_X8_goes {l : Launch} {D : va_G} {b0 : Nat} {tA : Nat → ClassId} {sa sv : Nat → Nat} {K : Nat → Option Nat} {I : zI} {Qp : zI → Option AV → Prop} {Xp : String → zI → Prop} {a g : Nat} {S : zS}
    (hM : zMd I a S) (hg : g < 6) (hl : 0 < (sL S g 0).length) (hw : (sL S g 0).getD 0 0 = 0) (k1 : ∀ J : zI, zag I J a 1 → zMd J a (qGoes S g 0) → Qp J none) :
    zC l D b0 tA sa sv K yX8_goes (.code yX8_goes cX8_goes 5 none) zrm_X8_goes [vr (a) 15, vi ((nI g)), vi ((0 : Int32)), vi ((1 : Int32))] I Qp Xp := by
  refine zC_of (by decide +kernel) (Nat.le_of_ble_eq_true rfl) ?_
  intro p e s m args below meth c X hnt
  have X : zX p l e zrm_X8_goes s m args below meth c RX8 cX8_goes 5 none D b0 tA sa sv := X
  refine zr_lv (lv2 := [some (vr (a) 15), some (vi ((nI g))), some (vi ((0 : Int32))), some (vi ((1 : Int32))), none]) rfl ?_
  refine zr_aload0 X dX8_goes_0 ?_
  refine zr_iload1 X dX8_goes_1 ?_
  refine zr_iload2 X dX8_goes_2 ?_
  refine zr_iconst (v := (0 : Int32)) X dX8_goes_3 (by decide) ?_
  refine zr_callS4 (rm9 := zrm_X8_takes) X hnt zm_X8_68 (by decide) (by decide) (by decide) (Nat.le_of_ble_eq_true rfl) dX8_goes_4 ?_
  refine zp_X8_takes (g := g) (s9 := 0) (k := 0) hM (by omega) (by omega) (by omega) ?_
  intro J1 hg2 hM3
  refine zr_iconst (v := (1 : Int32)) X dX8_goes_7 (by decide) ?_
  refine zr_isub X dX8_goes_8 ?_
  refine zr_eq (x2 := (-1 : Int32)) (by rw [hw]; rfl) ?_
  refine zr_istore4 X (by decide) rfl dX8_goes_9 ?_
  refine zr_aload0 X dX8_goes_11 ?_
  refine zr_iload2 X dX8_goes_12 ?_
  refine zr_if_ne (tgt := 21) X dX8_goes_13 (by decide) (fun h => absurd h (by decide)) (fun _ => ?_)
  refine zr_bipush (v := (9 : Int32)) X dX8_goes_16 (by decide) ?_
  refine zr_goto (tgt := 23) X dX8_goes_18 (by decide) ?_
  refine zr_dup2 X dX8_goes_23 ?_
  refine zr_ialdN (n := 9) X rfl (show _ < 310 from (by first | assumption | omega | decide)) dX8_goes_24 ?_
  refine zr_eq (x2 := (sX (tL S g 0 ((sL S g 0).eraseIdx 0)) 9)) (hM3.1 9 (by decide)) ?_
  refine zr_iconst (v := (1 : Int32)) X dX8_goes_25 (by decide) ?_
  refine zr_iadd X dX8_goes_26 ?_
  refine zr_iastN (n := 9) X rfl (by decide) dX8_goes_27 ?_
  have hM_1 : zMd _ (a) (tX (tL S g 0 ((sL S g 0).eraseIdx 0)) 9 ((sX (tL S g 0 ((sL S g 0).eraseIdx 0)) 9) + (1 : Int32))) := zMd_X hM3 (i := 9) (v := ((sX (tL S g 0 ((sL S g 0).eraseIdx 0)) 9) + (1 : Int32))) (by decide)
  refine zr_aload0 X dX8_goes_28 ?_
  refine zr_iconst (v := (3 : Int32)) X dX8_goes_29 (by decide) ?_
  refine zr_dup2 X dX8_goes_30 ?_
  refine zr_ialdN (n := 3) X rfl (show _ < 310 from (by first | assumption | omega | decide)) dX8_goes_31 ?_
  refine zr_eq (x2 := (sX (tX (tL S g 0 ((sL S g 0).eraseIdx 0)) 9 ((sX (tL S g 0 ((sL S g 0).eraseIdx 0)) 9) + (1 : Int32))) 3)) (hM_1.1 3 (by decide)) ?_
  refine zr_iload2 X dX8_goes_32 ?_
  refine zr_if_ne (tgt := 40) X dX8_goes_33 (by decide) (fun h => absurd h (by decide)) (fun _ => ?_)
  refine zr_iconst (v := (1 : Int32)) X dX8_goes_36 (by decide) ?_
  refine zr_goto (tgt := 41) X dX8_goes_37 (by decide) ?_
  refine zr_iadd X dX8_goes_41 ?_
  refine zr_iastN (n := 3) X rfl (by decide) dX8_goes_42 ?_
  have hM_2 : zMd _ (a) (tX (tX (tL S g 0 ((sL S g 0).eraseIdx 0)) 9 ((sX (tL S g 0 ((sL S g 0).eraseIdx 0)) 9) + (1 : Int32))) 3 ((sX (tX (tL S g 0 ((sL S g 0).eraseIdx 0)) 9 ((sX (tL S g 0 ((sL S g 0).eraseIdx 0)) 9) + (1 : Int32))) 3) + (1 : Int32))) := zMd_X hM_1 (i := 3) (v := ((sX (tX (tL S g 0 ((sL S g 0).eraseIdx 0)) 9 ((sX (tL S g 0 ((sL S g 0).eraseIdx 0)) 9) + (1 : Int32))) 3) + (1 : Int32))) (by decide)
  refine zr_iload4 X dX8_goes_43 ?_
  refine zr_iconst (v := (-1 : Int32)) X dX8_goes_45 (by decide) ?_
  refine zr_icmp_ne (tgt := 50) X dX8_goes_46 (by decide) (fun h => absurd h (by decide)) (fun _ => ?_)
  refine zr_vret X (by decide) (by decide) dX8_goes_49 ?_
  refine k1 _ (by repeat (first | exact zag.rf | assumption | refine zag.put ?_ (by omega) (by omega) | refine zag.tr ?_ (by assumption) (by omega) (by omega))) ?_
  refine cast (congrArg (zMd _ a) ?_) hM_2
  rw [qGoes, hw, qGone, if_pos (by decide), if_pos (by omega)]
  rfl
set_option maxRecDepth 20000 in
theorem zp011_X8_goes {l : Launch} {D : va_G} {b0 : Nat} {tA : Nat → ClassId} {sa sv : Nat → Nat} {K : Nat → Option Nat} {I : zI} {Qp : zI → Option AV → Prop} {Xp : String → zI → Prop} {a g c9 : Nat} {S : zS}
    (hM : zMd I a S) (hg : g < 6) (hl : 0 < (sL S g 0).length) (hw : (sL S g 0).getD 0 0 = c9 + 1) (hc : c9 < 12) (k1 : ∀ J : zI, zag I J a 1 → zMd J a (qGoes S g 0) → Qp J none) :
    zC l D b0 tA sa sv K yX8_goes (.code yX8_goes cX8_goes 5 none) zrm_X8_goes [vr (a) 15, vi ((nI g)), vi ((0 : Int32)), vi ((1 : Int32))] I Qp Xp := by
  refine zC_of (by decide +kernel) (Nat.le_of_ble_eq_true rfl) ?_
  intro p e s m args below meth c X hnt
  have X : zX p l e zrm_X8_goes s m args below meth c RX8 cX8_goes 5 none D b0 tA sa sv := X
  refine zr_lv (lv2 := [some (vr (a) 15), some (vi ((nI g))), some (vi ((0 : Int32))), some (vi ((1 : Int32))), none]) rfl ?_
  refine zr_aload0 X dX8_goes_0 ?_
  refine zr_iload1 X dX8_goes_1 ?_
  refine zr_iload2 X dX8_goes_2 ?_
  refine zr_iconst (v := (0 : Int32)) X dX8_goes_3 (by decide) ?_
  refine zr_callS4 (rm9 := zrm_X8_takes) X hnt zm_X8_68 (by decide) (by decide) (by decide) (Nat.le_of_ble_eq_true rfl) dX8_goes_4 ?_
  refine zp_X8_takes (g := g) (s9 := 0) (k := 0) hM (by omega) (by omega) (by omega) ?_
  intro J1 hg2 hM3
  refine zr_iconst (v := (1 : Int32)) X dX8_goes_7 (by decide) ?_
  refine zr_isub X dX8_goes_8 ?_
  refine zr_eq (x2 := (nI c9)) (by rw [hw]; exact pk_sub (a := c9 + 1) (b := 1) (by omega)) ?_
  refine zr_istore4 X (by decide) rfl dX8_goes_9 ?_
  refine zr_aload0 X dX8_goes_11 ?_
  refine zr_iload2 X dX8_goes_12 ?_
  refine zr_if_ne (tgt := 21) X dX8_goes_13 (by decide) (fun h => absurd h (by decide)) (fun _ => ?_)
  refine zr_bipush (v := (9 : Int32)) X dX8_goes_16 (by decide) ?_
  refine zr_goto (tgt := 23) X dX8_goes_18 (by decide) ?_
  refine zr_dup2 X dX8_goes_23 ?_
  refine zr_ialdN (n := 9) X rfl (show _ < 310 from (by first | assumption | omega | decide)) dX8_goes_24 ?_
  refine zr_eq (x2 := (sX (tL S g 0 ((sL S g 0).eraseIdx 0)) 9)) (hM3.1 9 (by decide)) ?_
  refine zr_iconst (v := (1 : Int32)) X dX8_goes_25 (by decide) ?_
  refine zr_iadd X dX8_goes_26 ?_
  refine zr_iastN (n := 9) X rfl (by decide) dX8_goes_27 ?_
  have hM_1 : zMd _ (a) (tX (tL S g 0 ((sL S g 0).eraseIdx 0)) 9 ((sX (tL S g 0 ((sL S g 0).eraseIdx 0)) 9) + (1 : Int32))) := zMd_X hM3 (i := 9) (v := ((sX (tL S g 0 ((sL S g 0).eraseIdx 0)) 9) + (1 : Int32))) (by decide)
  refine zr_aload0 X dX8_goes_28 ?_
  refine zr_iconst (v := (3 : Int32)) X dX8_goes_29 (by decide) ?_
  refine zr_dup2 X dX8_goes_30 ?_
  refine zr_ialdN (n := 3) X rfl (show _ < 310 from (by first | assumption | omega | decide)) dX8_goes_31 ?_
  refine zr_eq (x2 := (sX (tX (tL S g 0 ((sL S g 0).eraseIdx 0)) 9 ((sX (tL S g 0 ((sL S g 0).eraseIdx 0)) 9) + (1 : Int32))) 3)) (hM_1.1 3 (by decide)) ?_
  refine zr_iload2 X dX8_goes_32 ?_
  refine zr_if_ne (tgt := 40) X dX8_goes_33 (by decide) (fun h => absurd h (by decide)) (fun _ => ?_)
  refine zr_iconst (v := (1 : Int32)) X dX8_goes_36 (by decide) ?_
  refine zr_goto (tgt := 41) X dX8_goes_37 (by decide) ?_
  refine zr_iadd X dX8_goes_41 ?_
  refine zr_iastN (n := 3) X rfl (by decide) dX8_goes_42 ?_
  have hM_2 : zMd _ (a) (tX (tX (tL S g 0 ((sL S g 0).eraseIdx 0)) 9 ((sX (tL S g 0 ((sL S g 0).eraseIdx 0)) 9) + (1 : Int32))) 3 ((sX (tX (tL S g 0 ((sL S g 0).eraseIdx 0)) 9 ((sX (tL S g 0 ((sL S g 0).eraseIdx 0)) 9) + (1 : Int32))) 3) + (1 : Int32))) := zMd_X hM_1 (i := 3) (v := ((sX (tX (tL S g 0 ((sL S g 0).eraseIdx 0)) 9 ((sX (tL S g 0 ((sL S g 0).eraseIdx 0)) 9) + (1 : Int32))) 3) + (1 : Int32))) (by decide)
  refine zr_iload4 X dX8_goes_43 ?_
  refine zr_iconst (v := (-1 : Int32)) X dX8_goes_45 (by decide) ?_
  refine zr_icmp_ne (tgt := 50) X dX8_goes_46 (by decide) (fun _ => ?_) (fun h => absurd h (zm1 (by omega)))
  refine zr_aload0 X dX8_goes_50 ?_
  refine zr_iload4 X dX8_goes_51 ?_
  refine zr_iconst (v := (1 : Int32)) X dX8_goes_53 (by decide) ?_
  refine zr_callS2 (rm9 := zrm_X8_cardAt) X hnt zm_X8_61 (by decide) (by decide) (by decide) (Nat.le_of_ble_eq_true rfl) dX8_goes_54 ?_
  refine zn_X8_cardAt (g := c9) (w := 1) ?_
  refine zr_iconst (v := (1 : Int32)) X dX8_goes_57 (by decide) ?_
  refine zr_iload2 X dX8_goes_58 ?_
  refine zr_isub X dX8_goes_59 ?_
  refine zr_eq (x2 := (1 : Int32)) (by decide) ?_
  refine zr_iastN X rfl (show _ < 310 from (by first | assumption | omega)) dX8_goes_60 ?_
  have hM_3 : zMd _ (a) (tC (tX (tX (tL S g 0 ((sL S g 0).eraseIdx 0)) 9 ((sX (tL S g 0 ((sL S g 0).eraseIdx 0)) 9) + (1 : Int32))) 3 ((sX (tX (tL S g 0 ((sL S g 0).eraseIdx 0)) 9 ((sX (tL S g 0 ((sL S g 0).eraseIdx 0)) 9) + (1 : Int32))) 3) + (1 : Int32))) c9 1 (1 : Int32)) := zMd_C hM_2 (c := c9) (j := 1) (v := (1 : Int32)) (by omega) (by decide)
  refine zr_aload0 X dX8_goes_61 ?_
  refine zr_iload4 X dX8_goes_62 ?_
  refine zr_iconst (v := (0 : Int32)) X dX8_goes_64 (by decide) ?_
  refine zr_callS2 (rm9 := zrm_X8_cardAt) X hnt zm_X8_61 (by decide) (by decide) (by decide) (Nat.le_of_ble_eq_true rfl) dX8_goes_65 ?_
  refine zn_X8_cardAt (g := c9) (w := 0) ?_
  refine zr_dup2 X dX8_goes_68 ?_
  refine zr_ialdN (n := 190 + 10 * c9 + 0) X rfl (show _ < 310 from (by first | assumption | omega | decide)) dX8_goes_69 ?_
  refine zr_eq (x2 := (sC (tC (tX (tX (tL S g 0 ((sL S g 0).eraseIdx 0)) 9 ((sX (tL S g 0 ((sL S g 0).eraseIdx 0)) 9) + (1 : Int32))) 3 ((sX (tX (tL S g 0 ((sL S g 0).eraseIdx 0)) 9 ((sX (tL S g 0 ((sL S g 0).eraseIdx 0)) 9) + (1 : Int32))) 3) + (1 : Int32))) c9 1 (1 : Int32)) c9 0)) ((hM_3.2.2 c9 (by omega)).1 0 (by decide)) ?_
  refine zr_iload2 X dX8_goes_70 ?_
  refine zr_if_ne (tgt := 82) X dX8_goes_71 (by decide) (fun h => absurd h (by decide)) (fun _ => ?_)
  refine zr_iload3 X dX8_goes_74 ?_
  refine zr_if_eq (tgt := 82) X dX8_goes_75 (by decide) (fun h => absurd h (by decide)) (fun _ => ?_)
  refine zr_iconst (v := (1 : Int32)) X dX8_goes_78 (by decide) ?_
  refine zr_goto (tgt := 83) X dX8_goes_79 (by decide) ?_
  refine zr_isub X dX8_goes_83 ?_
  refine zr_iastN X rfl (show _ < 310 from (by first | assumption | omega)) dX8_goes_84 ?_
  have hM_4 : zMd _ (a) (tC (tC (tX (tX (tL S g 0 ((sL S g 0).eraseIdx 0)) 9 ((sX (tL S g 0 ((sL S g 0).eraseIdx 0)) 9) + (1 : Int32))) 3 ((sX (tX (tL S g 0 ((sL S g 0).eraseIdx 0)) 9 ((sX (tL S g 0 ((sL S g 0).eraseIdx 0)) 9) + (1 : Int32))) 3) + (1 : Int32))) c9 1 (1 : Int32)) c9 0 ((sC (tC (tX (tX (tL S g 0 ((sL S g 0).eraseIdx 0)) 9 ((sX (tL S g 0 ((sL S g 0).eraseIdx 0)) 9) + (1 : Int32))) 3 ((sX (tX (tL S g 0 ((sL S g 0).eraseIdx 0)) 9 ((sX (tL S g 0 ((sL S g 0).eraseIdx 0)) 9) + (1 : Int32))) 3) + (1 : Int32))) c9 1 (1 : Int32)) c9 0) - (1 : Int32))) := zMd_C hM_3 (c := c9) (j := 0) (v := ((sC (tC (tX (tX (tL S g 0 ((sL S g 0).eraseIdx 0)) 9 ((sX (tL S g 0 ((sL S g 0).eraseIdx 0)) 9) + (1 : Int32))) 3 ((sX (tX (tL S g 0 ((sL S g 0).eraseIdx 0)) 9 ((sX (tL S g 0 ((sL S g 0).eraseIdx 0)) 9) + (1 : Int32))) 3) + (1 : Int32))) c9 1 (1 : Int32)) c9 0) - (1 : Int32))) (by omega) (by decide)
  refine zr_aload0 X dX8_goes_85 ?_
  refine zr_iload4 X dX8_goes_86 ?_
  refine zr_iconst (v := (3 : Int32)) X dX8_goes_88 (by decide) ?_
  refine zr_callS2 (rm9 := zrm_X8_cardAt) X hnt zm_X8_61 (by decide) (by decide) (by decide) (Nat.le_of_ble_eq_true rfl) dX8_goes_89 ?_
  refine zn_X8_cardAt (g := c9) (w := 3) ?_
  refine zr_dup2 X dX8_goes_92 ?_
  refine zr_ialdN (n := 190 + 10 * c9 + 3) X rfl (show _ < 310 from (by first | assumption | omega | decide)) dX8_goes_93 ?_
  refine zr_eq (x2 := (sC (tC (tC (tX (tX (tL S g 0 ((sL S g 0).eraseIdx 0)) 9 ((sX (tL S g 0 ((sL S g 0).eraseIdx 0)) 9) + (1 : Int32))) 3 ((sX (tX (tL S g 0 ((sL S g 0).eraseIdx 0)) 9 ((sX (tL S g 0 ((sL S g 0).eraseIdx 0)) 9) + (1 : Int32))) 3) + (1 : Int32))) c9 1 (1 : Int32)) c9 0 ((sC (tC (tX (tX (tL S g 0 ((sL S g 0).eraseIdx 0)) 9 ((sX (tL S g 0 ((sL S g 0).eraseIdx 0)) 9) + (1 : Int32))) 3 ((sX (tX (tL S g 0 ((sL S g 0).eraseIdx 0)) 9 ((sX (tL S g 0 ((sL S g 0).eraseIdx 0)) 9) + (1 : Int32))) 3) + (1 : Int32))) c9 1 (1 : Int32)) c9 0) - (1 : Int32))) c9 3)) ((hM_4.2.2 c9 (by omega)).1 3 (by decide)) ?_
  refine zr_iconst (v := (1 : Int32)) X dX8_goes_94 (by decide) ?_
  refine zr_iadd X dX8_goes_95 ?_
  refine zr_iastN X rfl (show _ < 310 from (by first | assumption | omega)) dX8_goes_96 ?_
  have hM_5 : zMd _ (a) (tC (tC (tC (tX (tX (tL S g 0 ((sL S g 0).eraseIdx 0)) 9 ((sX (tL S g 0 ((sL S g 0).eraseIdx 0)) 9) + (1 : Int32))) 3 ((sX (tX (tL S g 0 ((sL S g 0).eraseIdx 0)) 9 ((sX (tL S g 0 ((sL S g 0).eraseIdx 0)) 9) + (1 : Int32))) 3) + (1 : Int32))) c9 1 (1 : Int32)) c9 0 ((sC (tC (tX (tX (tL S g 0 ((sL S g 0).eraseIdx 0)) 9 ((sX (tL S g 0 ((sL S g 0).eraseIdx 0)) 9) + (1 : Int32))) 3 ((sX (tX (tL S g 0 ((sL S g 0).eraseIdx 0)) 9 ((sX (tL S g 0 ((sL S g 0).eraseIdx 0)) 9) + (1 : Int32))) 3) + (1 : Int32))) c9 1 (1 : Int32)) c9 0) - (1 : Int32))) c9 3 ((sC (tC (tC (tX (tX (tL S g 0 ((sL S g 0).eraseIdx 0)) 9 ((sX (tL S g 0 ((sL S g 0).eraseIdx 0)) 9) + (1 : Int32))) 3 ((sX (tX (tL S g 0 ((sL S g 0).eraseIdx 0)) 9 ((sX (tL S g 0 ((sL S g 0).eraseIdx 0)) 9) + (1 : Int32))) 3) + (1 : Int32))) c9 1 (1 : Int32)) c9 0 ((sC (tC (tX (tX (tL S g 0 ((sL S g 0).eraseIdx 0)) 9 ((sX (tL S g 0 ((sL S g 0).eraseIdx 0)) 9) + (1 : Int32))) 3 ((sX (tX (tL S g 0 ((sL S g 0).eraseIdx 0)) 9 ((sX (tL S g 0 ((sL S g 0).eraseIdx 0)) 9) + (1 : Int32))) 3) + (1 : Int32))) c9 1 (1 : Int32)) c9 0) - (1 : Int32))) c9 3) + (1 : Int32))) := zMd_C hM_4 (c := c9) (j := 3) (v := ((sC (tC (tC (tX (tX (tL S g 0 ((sL S g 0).eraseIdx 0)) 9 ((sX (tL S g 0 ((sL S g 0).eraseIdx 0)) 9) + (1 : Int32))) 3 ((sX (tX (tL S g 0 ((sL S g 0).eraseIdx 0)) 9 ((sX (tL S g 0 ((sL S g 0).eraseIdx 0)) 9) + (1 : Int32))) 3) + (1 : Int32))) c9 1 (1 : Int32)) c9 0 ((sC (tC (tX (tX (tL S g 0 ((sL S g 0).eraseIdx 0)) 9 ((sX (tL S g 0 ((sL S g 0).eraseIdx 0)) 9) + (1 : Int32))) 3 ((sX (tX (tL S g 0 ((sL S g 0).eraseIdx 0)) 9 ((sX (tL S g 0 ((sL S g 0).eraseIdx 0)) 9) + (1 : Int32))) 3) + (1 : Int32))) c9 1 (1 : Int32)) c9 0) - (1 : Int32))) c9 3) + (1 : Int32))) (by omega) (by decide)
  refine zr_vret X (by decide) (by decide) dX8_goes_97 ?_
  refine k1 _ (by repeat (first | exact zag.rf | assumption | refine zag.put ?_ (by omega) (by omega) | refine zag.tr ?_ (by assumption) (by omega) (by omega))) ?_
  refine cast (congrArg (zMd _ a) ?_) hM_5
  rw [qGoes, hw, qGone, if_pos (by decide), if_neg (by omega)]
  simp only [Nat.add_sub_cancel, qPassed, tC_id]; first | rfl | (simp [tC, tX, tL, sX, sC, zu2, va_up]; done)
theorem zq01_X8_goes {l : Launch} {D : va_G} {b0 : Nat} {tA : Nat → ClassId} {sa sv : Nat → Nat} {K : Nat → Option Nat} {I : zI} {Qp : zI → Option AV → Prop} {Xp : String → zI → Prop} {a g : Nat} {S : zS} (hM : zMd I a S) (hg : g < 6) (hl : 0 < (sL S g 0).length) (hw : ∀ y ∈ sL S g 0, y ≤ 12) (k1 : ∀ J : zI, zag I J a 1 → zMd J a (qGoes S g 0) → Qp J none) :
    zC l D b0 tA sa sv K yX8_goes (.code yX8_goes cX8_goes 5 none) zrm_X8_goes [vr (a) 15, vi ((nI g)), vi ((0 : Int32)), vi ((1 : Int32))] I Qp Xp := by
  rcases h : (sL S g 0).getD 0 0 with _ | c
  · exact zp010_X8_goes hM hg hl h k1
  · exact zp011_X8_goes hM hg hl h (by have := zgd12 hw 0; omega) k1
set_option maxRecDepth 20000 in
theorem zp100_X8_goes {l : Launch} {D : va_G} {b0 : Nat} {tA : Nat → ClassId} {sa sv : Nat → Nat} {K : Nat → Option Nat} {I : zI} {Qp : zI → Option AV → Prop} {Xp : String → zI → Prop} {a g : Nat} {S : zS}
    (hM : zMd I a S) (hg : g < 6) (hl : 0 < (sL S g 1).length) (hw : (sL S g 1).getD 0 0 = 0) (k1 : ∀ J : zI, zag I J a 1 → zMd J a (qGoes S g 1) → Qp J none) :
    zC l D b0 tA sa sv K yX8_goes (.code yX8_goes cX8_goes 5 none) zrm_X8_goes [vr (a) 15, vi ((nI g)), vi ((1 : Int32)), vi ((0 : Int32))] I Qp Xp := by
  refine zC_of (by decide +kernel) (Nat.le_of_ble_eq_true rfl) ?_
  intro p e s m args below meth c X hnt
  have X : zX p l e zrm_X8_goes s m args below meth c RX8 cX8_goes 5 none D b0 tA sa sv := X
  refine zr_lv (lv2 := [some (vr (a) 15), some (vi ((nI g))), some (vi ((1 : Int32))), some (vi ((0 : Int32))), none]) rfl ?_
  refine zr_aload0 X dX8_goes_0 ?_
  refine zr_iload1 X dX8_goes_1 ?_
  refine zr_iload2 X dX8_goes_2 ?_
  refine zr_iconst (v := (0 : Int32)) X dX8_goes_3 (by decide) ?_
  refine zr_callS4 (rm9 := zrm_X8_takes) X hnt zm_X8_68 (by decide) (by decide) (by decide) (Nat.le_of_ble_eq_true rfl) dX8_goes_4 ?_
  refine zp_X8_takes (g := g) (s9 := 1) (k := 0) hM (by omega) (by omega) (by omega) ?_
  intro J1 hg2 hM3
  refine zr_iconst (v := (1 : Int32)) X dX8_goes_7 (by decide) ?_
  refine zr_isub X dX8_goes_8 ?_
  refine zr_eq (x2 := (-1 : Int32)) (by rw [hw]; rfl) ?_
  refine zr_istore4 X (by decide) rfl dX8_goes_9 ?_
  refine zr_aload0 X dX8_goes_11 ?_
  refine zr_iload2 X dX8_goes_12 ?_
  refine zr_if_ne (tgt := 21) X dX8_goes_13 (by decide) (fun _ => ?_) (fun h => absurd h (by decide))
  refine zr_bipush (v := (10 : Int32)) X dX8_goes_21 (by decide) ?_
  refine zr_dup2 X dX8_goes_23 ?_
  refine zr_ialdN (n := 10) X rfl (show _ < 310 from (by first | assumption | omega | decide)) dX8_goes_24 ?_
  refine zr_eq (x2 := (sX (tL S g 1 ((sL S g 1).eraseIdx 0)) 10)) (hM3.1 10 (by decide)) ?_
  refine zr_iconst (v := (1 : Int32)) X dX8_goes_25 (by decide) ?_
  refine zr_iadd X dX8_goes_26 ?_
  refine zr_iastN (n := 10) X rfl (by decide) dX8_goes_27 ?_
  have hM_1 : zMd _ (a) (tX (tL S g 1 ((sL S g 1).eraseIdx 0)) 10 ((sX (tL S g 1 ((sL S g 1).eraseIdx 0)) 10) + (1 : Int32))) := zMd_X hM3 (i := 10) (v := ((sX (tL S g 1 ((sL S g 1).eraseIdx 0)) 10) + (1 : Int32))) (by decide)
  refine zr_aload0 X dX8_goes_28 ?_
  refine zr_iconst (v := (3 : Int32)) X dX8_goes_29 (by decide) ?_
  refine zr_dup2 X dX8_goes_30 ?_
  refine zr_ialdN (n := 3) X rfl (show _ < 310 from (by first | assumption | omega | decide)) dX8_goes_31 ?_
  refine zr_eq (x2 := (sX (tX (tL S g 1 ((sL S g 1).eraseIdx 0)) 10 ((sX (tL S g 1 ((sL S g 1).eraseIdx 0)) 10) + (1 : Int32))) 3)) (hM_1.1 3 (by decide)) ?_
  refine zr_iload2 X dX8_goes_32 ?_
  refine zr_if_ne (tgt := 40) X dX8_goes_33 (by decide) (fun _ => ?_) (fun h => absurd h (by decide))
  refine zr_iconst (v := (-1 : Int32)) X dX8_goes_40 (by decide) ?_
  refine zr_iadd X dX8_goes_41 ?_
  refine zr_eq (x2 := ((sX (tX (tL S g 1 ((sL S g 1).eraseIdx 0)) 10 ((sX (tL S g 1 ((sL S g 1).eraseIdx 0)) 10) + (1 : Int32))) 3) - (1 : Int32))) ((Int32.sub_eq_add_neg _ _).symm) ?_
  refine zr_iastN (n := 3) X rfl (by decide) dX8_goes_42 ?_
  have hM_2 : zMd _ (a) (tX (tX (tL S g 1 ((sL S g 1).eraseIdx 0)) 10 ((sX (tL S g 1 ((sL S g 1).eraseIdx 0)) 10) + (1 : Int32))) 3 ((sX (tX (tL S g 1 ((sL S g 1).eraseIdx 0)) 10 ((sX (tL S g 1 ((sL S g 1).eraseIdx 0)) 10) + (1 : Int32))) 3) - (1 : Int32))) := zMd_X hM_1 (i := 3) (v := ((sX (tX (tL S g 1 ((sL S g 1).eraseIdx 0)) 10 ((sX (tL S g 1 ((sL S g 1).eraseIdx 0)) 10) + (1 : Int32))) 3) - (1 : Int32))) (by decide)
  refine zr_iload4 X dX8_goes_43 ?_
  refine zr_iconst (v := (-1 : Int32)) X dX8_goes_45 (by decide) ?_
  refine zr_icmp_ne (tgt := 50) X dX8_goes_46 (by decide) (fun h => absurd h (by decide)) (fun _ => ?_)
  refine zr_vret X (by decide) (by decide) dX8_goes_49 ?_
  refine k1 _ (by repeat (first | exact zag.rf | assumption | refine zag.put ?_ (by omega) (by omega) | refine zag.tr ?_ (by assumption) (by omega) (by omega))) ?_
  refine cast (congrArg (zMd _ a) ?_) hM_2
  rw [qGoes, hw, qGone, if_neg (by decide), if_pos (by omega)]
  rfl
set_option maxRecDepth 20000 in
theorem zp101_X8_goes {l : Launch} {D : va_G} {b0 : Nat} {tA : Nat → ClassId} {sa sv : Nat → Nat} {K : Nat → Option Nat} {I : zI} {Qp : zI → Option AV → Prop} {Xp : String → zI → Prop} {a g c9 : Nat} {S : zS}
    (hM : zMd I a S) (hg : g < 6) (hl : 0 < (sL S g 1).length) (hw : (sL S g 1).getD 0 0 = c9 + 1) (hc : c9 < 12) (k1 : ∀ J : zI, zag I J a 1 → zMd J a (qGoes S g 1) → Qp J none) :
    zC l D b0 tA sa sv K yX8_goes (.code yX8_goes cX8_goes 5 none) zrm_X8_goes [vr (a) 15, vi ((nI g)), vi ((1 : Int32)), vi ((0 : Int32))] I Qp Xp := by
  refine zC_of (by decide +kernel) (Nat.le_of_ble_eq_true rfl) ?_
  intro p e s m args below meth c X hnt
  have X : zX p l e zrm_X8_goes s m args below meth c RX8 cX8_goes 5 none D b0 tA sa sv := X
  refine zr_lv (lv2 := [some (vr (a) 15), some (vi ((nI g))), some (vi ((1 : Int32))), some (vi ((0 : Int32))), none]) rfl ?_
  refine zr_aload0 X dX8_goes_0 ?_
  refine zr_iload1 X dX8_goes_1 ?_
  refine zr_iload2 X dX8_goes_2 ?_
  refine zr_iconst (v := (0 : Int32)) X dX8_goes_3 (by decide) ?_
  refine zr_callS4 (rm9 := zrm_X8_takes) X hnt zm_X8_68 (by decide) (by decide) (by decide) (Nat.le_of_ble_eq_true rfl) dX8_goes_4 ?_
  refine zp_X8_takes (g := g) (s9 := 1) (k := 0) hM (by omega) (by omega) (by omega) ?_
  intro J1 hg2 hM3
  refine zr_iconst (v := (1 : Int32)) X dX8_goes_7 (by decide) ?_
  refine zr_isub X dX8_goes_8 ?_
  refine zr_eq (x2 := (nI c9)) (by rw [hw]; exact pk_sub (a := c9 + 1) (b := 1) (by omega)) ?_
  refine zr_istore4 X (by decide) rfl dX8_goes_9 ?_
  refine zr_aload0 X dX8_goes_11 ?_
  refine zr_iload2 X dX8_goes_12 ?_
  refine zr_if_ne (tgt := 21) X dX8_goes_13 (by decide) (fun _ => ?_) (fun h => absurd h (by decide))
  refine zr_bipush (v := (10 : Int32)) X dX8_goes_21 (by decide) ?_
  refine zr_dup2 X dX8_goes_23 ?_
  refine zr_ialdN (n := 10) X rfl (show _ < 310 from (by first | assumption | omega | decide)) dX8_goes_24 ?_
  refine zr_eq (x2 := (sX (tL S g 1 ((sL S g 1).eraseIdx 0)) 10)) (hM3.1 10 (by decide)) ?_
  refine zr_iconst (v := (1 : Int32)) X dX8_goes_25 (by decide) ?_
  refine zr_iadd X dX8_goes_26 ?_
  refine zr_iastN (n := 10) X rfl (by decide) dX8_goes_27 ?_
  have hM_1 : zMd _ (a) (tX (tL S g 1 ((sL S g 1).eraseIdx 0)) 10 ((sX (tL S g 1 ((sL S g 1).eraseIdx 0)) 10) + (1 : Int32))) := zMd_X hM3 (i := 10) (v := ((sX (tL S g 1 ((sL S g 1).eraseIdx 0)) 10) + (1 : Int32))) (by decide)
  refine zr_aload0 X dX8_goes_28 ?_
  refine zr_iconst (v := (3 : Int32)) X dX8_goes_29 (by decide) ?_
  refine zr_dup2 X dX8_goes_30 ?_
  refine zr_ialdN (n := 3) X rfl (show _ < 310 from (by first | assumption | omega | decide)) dX8_goes_31 ?_
  refine zr_eq (x2 := (sX (tX (tL S g 1 ((sL S g 1).eraseIdx 0)) 10 ((sX (tL S g 1 ((sL S g 1).eraseIdx 0)) 10) + (1 : Int32))) 3)) (hM_1.1 3 (by decide)) ?_
  refine zr_iload2 X dX8_goes_32 ?_
  refine zr_if_ne (tgt := 40) X dX8_goes_33 (by decide) (fun _ => ?_) (fun h => absurd h (by decide))
  refine zr_iconst (v := (-1 : Int32)) X dX8_goes_40 (by decide) ?_
  refine zr_iadd X dX8_goes_41 ?_
  refine zr_eq (x2 := ((sX (tX (tL S g 1 ((sL S g 1).eraseIdx 0)) 10 ((sX (tL S g 1 ((sL S g 1).eraseIdx 0)) 10) + (1 : Int32))) 3) - (1 : Int32))) ((Int32.sub_eq_add_neg _ _).symm) ?_
  refine zr_iastN (n := 3) X rfl (by decide) dX8_goes_42 ?_
  have hM_2 : zMd _ (a) (tX (tX (tL S g 1 ((sL S g 1).eraseIdx 0)) 10 ((sX (tL S g 1 ((sL S g 1).eraseIdx 0)) 10) + (1 : Int32))) 3 ((sX (tX (tL S g 1 ((sL S g 1).eraseIdx 0)) 10 ((sX (tL S g 1 ((sL S g 1).eraseIdx 0)) 10) + (1 : Int32))) 3) - (1 : Int32))) := zMd_X hM_1 (i := 3) (v := ((sX (tX (tL S g 1 ((sL S g 1).eraseIdx 0)) 10 ((sX (tL S g 1 ((sL S g 1).eraseIdx 0)) 10) + (1 : Int32))) 3) - (1 : Int32))) (by decide)
  refine zr_iload4 X dX8_goes_43 ?_
  refine zr_iconst (v := (-1 : Int32)) X dX8_goes_45 (by decide) ?_
  refine zr_icmp_ne (tgt := 50) X dX8_goes_46 (by decide) (fun _ => ?_) (fun h => absurd h (zm1 (by omega)))
  refine zr_aload0 X dX8_goes_50 ?_
  refine zr_iload4 X dX8_goes_51 ?_
  refine zr_iconst (v := (1 : Int32)) X dX8_goes_53 (by decide) ?_
  refine zr_callS2 (rm9 := zrm_X8_cardAt) X hnt zm_X8_61 (by decide) (by decide) (by decide) (Nat.le_of_ble_eq_true rfl) dX8_goes_54 ?_
  refine zn_X8_cardAt (g := c9) (w := 1) ?_
  refine zr_iconst (v := (1 : Int32)) X dX8_goes_57 (by decide) ?_
  refine zr_iload2 X dX8_goes_58 ?_
  refine zr_isub X dX8_goes_59 ?_
  refine zr_eq (x2 := (0 : Int32)) (by decide) ?_
  refine zr_iastN X rfl (show _ < 310 from (by first | assumption | omega)) dX8_goes_60 ?_
  have hM_3 : zMd _ (a) (tC (tX (tX (tL S g 1 ((sL S g 1).eraseIdx 0)) 10 ((sX (tL S g 1 ((sL S g 1).eraseIdx 0)) 10) + (1 : Int32))) 3 ((sX (tX (tL S g 1 ((sL S g 1).eraseIdx 0)) 10 ((sX (tL S g 1 ((sL S g 1).eraseIdx 0)) 10) + (1 : Int32))) 3) - (1 : Int32))) c9 1 (0 : Int32)) := zMd_C hM_2 (c := c9) (j := 1) (v := (0 : Int32)) (by omega) (by decide)
  refine zr_aload0 X dX8_goes_61 ?_
  refine zr_iload4 X dX8_goes_62 ?_
  refine zr_iconst (v := (0 : Int32)) X dX8_goes_64 (by decide) ?_
  refine zr_callS2 (rm9 := zrm_X8_cardAt) X hnt zm_X8_61 (by decide) (by decide) (by decide) (Nat.le_of_ble_eq_true rfl) dX8_goes_65 ?_
  refine zn_X8_cardAt (g := c9) (w := 0) ?_
  refine zr_dup2 X dX8_goes_68 ?_
  refine zr_ialdN (n := 190 + 10 * c9 + 0) X rfl (show _ < 310 from (by first | assumption | omega | decide)) dX8_goes_69 ?_
  refine zr_eq (x2 := (sC (tC (tX (tX (tL S g 1 ((sL S g 1).eraseIdx 0)) 10 ((sX (tL S g 1 ((sL S g 1).eraseIdx 0)) 10) + (1 : Int32))) 3 ((sX (tX (tL S g 1 ((sL S g 1).eraseIdx 0)) 10 ((sX (tL S g 1 ((sL S g 1).eraseIdx 0)) 10) + (1 : Int32))) 3) - (1 : Int32))) c9 1 (0 : Int32)) c9 0)) ((hM_3.2.2 c9 (by omega)).1 0 (by decide)) ?_
  refine zr_iload2 X dX8_goes_70 ?_
  refine zr_if_ne (tgt := 82) X dX8_goes_71 (by decide) (fun _ => ?_) (fun h => absurd h (by decide))
  refine zr_iconst (v := (0 : Int32)) X dX8_goes_82 (by decide) ?_
  refine zr_isub X dX8_goes_83 ?_
  refine zr_eq (x2 := (sC (tC (tX (tX (tL S g 1 ((sL S g 1).eraseIdx 0)) 10 ((sX (tL S g 1 ((sL S g 1).eraseIdx 0)) 10) + (1 : Int32))) 3 ((sX (tX (tL S g 1 ((sL S g 1).eraseIdx 0)) 10 ((sX (tL S g 1 ((sL S g 1).eraseIdx 0)) 10) + (1 : Int32))) 3) - (1 : Int32))) c9 1 (0 : Int32)) c9 0)) (Int32.sub_zero _) ?_
  refine zr_iastN X rfl (show _ < 310 from (by first | assumption | omega)) dX8_goes_84 ?_
  have hM_4 : zMd _ (a) (tC (tC (tX (tX (tL S g 1 ((sL S g 1).eraseIdx 0)) 10 ((sX (tL S g 1 ((sL S g 1).eraseIdx 0)) 10) + (1 : Int32))) 3 ((sX (tX (tL S g 1 ((sL S g 1).eraseIdx 0)) 10 ((sX (tL S g 1 ((sL S g 1).eraseIdx 0)) 10) + (1 : Int32))) 3) - (1 : Int32))) c9 1 (0 : Int32)) c9 0 (sC (tC (tX (tX (tL S g 1 ((sL S g 1).eraseIdx 0)) 10 ((sX (tL S g 1 ((sL S g 1).eraseIdx 0)) 10) + (1 : Int32))) 3 ((sX (tX (tL S g 1 ((sL S g 1).eraseIdx 0)) 10 ((sX (tL S g 1 ((sL S g 1).eraseIdx 0)) 10) + (1 : Int32))) 3) - (1 : Int32))) c9 1 (0 : Int32)) c9 0)) := zMd_C hM_3 (c := c9) (j := 0) (v := (sC (tC (tX (tX (tL S g 1 ((sL S g 1).eraseIdx 0)) 10 ((sX (tL S g 1 ((sL S g 1).eraseIdx 0)) 10) + (1 : Int32))) 3 ((sX (tX (tL S g 1 ((sL S g 1).eraseIdx 0)) 10 ((sX (tL S g 1 ((sL S g 1).eraseIdx 0)) 10) + (1 : Int32))) 3) - (1 : Int32))) c9 1 (0 : Int32)) c9 0)) (by omega) (by decide)
  refine zr_aload0 X dX8_goes_85 ?_
  refine zr_iload4 X dX8_goes_86 ?_
  refine zr_iconst (v := (3 : Int32)) X dX8_goes_88 (by decide) ?_
  refine zr_callS2 (rm9 := zrm_X8_cardAt) X hnt zm_X8_61 (by decide) (by decide) (by decide) (Nat.le_of_ble_eq_true rfl) dX8_goes_89 ?_
  refine zn_X8_cardAt (g := c9) (w := 3) ?_
  refine zr_dup2 X dX8_goes_92 ?_
  refine zr_ialdN (n := 190 + 10 * c9 + 3) X rfl (show _ < 310 from (by first | assumption | omega | decide)) dX8_goes_93 ?_
  refine zr_eq (x2 := (sC (tC (tC (tX (tX (tL S g 1 ((sL S g 1).eraseIdx 0)) 10 ((sX (tL S g 1 ((sL S g 1).eraseIdx 0)) 10) + (1 : Int32))) 3 ((sX (tX (tL S g 1 ((sL S g 1).eraseIdx 0)) 10 ((sX (tL S g 1 ((sL S g 1).eraseIdx 0)) 10) + (1 : Int32))) 3) - (1 : Int32))) c9 1 (0 : Int32)) c9 0 (sC (tC (tX (tX (tL S g 1 ((sL S g 1).eraseIdx 0)) 10 ((sX (tL S g 1 ((sL S g 1).eraseIdx 0)) 10) + (1 : Int32))) 3 ((sX (tX (tL S g 1 ((sL S g 1).eraseIdx 0)) 10 ((sX (tL S g 1 ((sL S g 1).eraseIdx 0)) 10) + (1 : Int32))) 3) - (1 : Int32))) c9 1 (0 : Int32)) c9 0)) c9 3)) ((hM_4.2.2 c9 (by omega)).1 3 (by decide)) ?_
  refine zr_iconst (v := (1 : Int32)) X dX8_goes_94 (by decide) ?_
  refine zr_iadd X dX8_goes_95 ?_
  refine zr_iastN X rfl (show _ < 310 from (by first | assumption | omega)) dX8_goes_96 ?_
  have hM_5 : zMd _ (a) (tC (tC (tC (tX (tX (tL S g 1 ((sL S g 1).eraseIdx 0)) 10 ((sX (tL S g 1 ((sL S g 1).eraseIdx 0)) 10) + (1 : Int32))) 3 ((sX (tX (tL S g 1 ((sL S g 1).eraseIdx 0)) 10 ((sX (tL S g 1 ((sL S g 1).eraseIdx 0)) 10) + (1 : Int32))) 3) - (1 : Int32))) c9 1 (0 : Int32)) c9 0 (sC (tC (tX (tX (tL S g 1 ((sL S g 1).eraseIdx 0)) 10 ((sX (tL S g 1 ((sL S g 1).eraseIdx 0)) 10) + (1 : Int32))) 3 ((sX (tX (tL S g 1 ((sL S g 1).eraseIdx 0)) 10 ((sX (tL S g 1 ((sL S g 1).eraseIdx 0)) 10) + (1 : Int32))) 3) - (1 : Int32))) c9 1 (0 : Int32)) c9 0)) c9 3 ((sC (tC (tC (tX (tX (tL S g 1 ((sL S g 1).eraseIdx 0)) 10 ((sX (tL S g 1 ((sL S g 1).eraseIdx 0)) 10) + (1 : Int32))) 3 ((sX (tX (tL S g 1 ((sL S g 1).eraseIdx 0)) 10 ((sX (tL S g 1 ((sL S g 1).eraseIdx 0)) 10) + (1 : Int32))) 3) - (1 : Int32))) c9 1 (0 : Int32)) c9 0 (sC (tC (tX (tX (tL S g 1 ((sL S g 1).eraseIdx 0)) 10 ((sX (tL S g 1 ((sL S g 1).eraseIdx 0)) 10) + (1 : Int32))) 3 ((sX (tX (tL S g 1 ((sL S g 1).eraseIdx 0)) 10 ((sX (tL S g 1 ((sL S g 1).eraseIdx 0)) 10) + (1 : Int32))) 3) - (1 : Int32))) c9 1 (0 : Int32)) c9 0)) c9 3) + (1 : Int32))) := zMd_C hM_4 (c := c9) (j := 3) (v := ((sC (tC (tC (tX (tX (tL S g 1 ((sL S g 1).eraseIdx 0)) 10 ((sX (tL S g 1 ((sL S g 1).eraseIdx 0)) 10) + (1 : Int32))) 3 ((sX (tX (tL S g 1 ((sL S g 1).eraseIdx 0)) 10 ((sX (tL S g 1 ((sL S g 1).eraseIdx 0)) 10) + (1 : Int32))) 3) - (1 : Int32))) c9 1 (0 : Int32)) c9 0 (sC (tC (tX (tX (tL S g 1 ((sL S g 1).eraseIdx 0)) 10 ((sX (tL S g 1 ((sL S g 1).eraseIdx 0)) 10) + (1 : Int32))) 3 ((sX (tX (tL S g 1 ((sL S g 1).eraseIdx 0)) 10 ((sX (tL S g 1 ((sL S g 1).eraseIdx 0)) 10) + (1 : Int32))) 3) - (1 : Int32))) c9 1 (0 : Int32)) c9 0)) c9 3) + (1 : Int32))) (by omega) (by decide)
  refine zr_vret X (by decide) (by decide) dX8_goes_97 ?_
  refine k1 _ (by repeat (first | exact zag.rf | assumption | refine zag.put ?_ (by omega) (by omega) | refine zag.tr ?_ (by assumption) (by omega) (by omega))) ?_
  refine cast (congrArg (zMd _ a) ?_) hM_5
  rw [qGoes, hw, qGone, if_neg (by decide), if_neg (by omega)]
  simp only [Nat.add_sub_cancel, qPassed, tC_id]; first | rfl | (simp [tC, tX, tL, sX, sC, zu2, va_up]; done)
theorem zq10_X8_goes {l : Launch} {D : va_G} {b0 : Nat} {tA : Nat → ClassId} {sa sv : Nat → Nat} {K : Nat → Option Nat} {I : zI} {Qp : zI → Option AV → Prop} {Xp : String → zI → Prop} {a g : Nat} {S : zS} (hM : zMd I a S) (hg : g < 6) (hl : 0 < (sL S g 1).length) (hw : ∀ y ∈ sL S g 1, y ≤ 12) (k1 : ∀ J : zI, zag I J a 1 → zMd J a (qGoes S g 1) → Qp J none) :
    zC l D b0 tA sa sv K yX8_goes (.code yX8_goes cX8_goes 5 none) zrm_X8_goes [vr (a) 15, vi ((nI g)), vi ((1 : Int32)), vi ((0 : Int32))] I Qp Xp := by
  rcases h : (sL S g 1).getD 0 0 with _ | c
  · exact zp100_X8_goes hM hg hl h k1
  · exact zp101_X8_goes hM hg hl h (by have := zgd12 hw 0; omega) k1
set_option maxRecDepth 20000 in
theorem zp110_X8_goes {l : Launch} {D : va_G} {b0 : Nat} {tA : Nat → ClassId} {sa sv : Nat → Nat} {K : Nat → Option Nat} {I : zI} {Qp : zI → Option AV → Prop} {Xp : String → zI → Prop} {a g : Nat} {S : zS}
    (hM : zMd I a S) (hg : g < 6) (hl : 0 < (sL S g 1).length) (hw : (sL S g 1).getD 0 0 = 0) (k1 : ∀ J : zI, zag I J a 1 → zMd J a (qGoes S g 1) → Qp J none) :
    zC l D b0 tA sa sv K yX8_goes (.code yX8_goes cX8_goes 5 none) zrm_X8_goes [vr (a) 15, vi ((nI g)), vi ((1 : Int32)), vi ((1 : Int32))] I Qp Xp := by
  refine zC_of (by decide +kernel) (Nat.le_of_ble_eq_true rfl) ?_
  intro p e s m args below meth c X hnt
  have X : zX p l e zrm_X8_goes s m args below meth c RX8 cX8_goes 5 none D b0 tA sa sv := X
  refine zr_lv (lv2 := [some (vr (a) 15), some (vi ((nI g))), some (vi ((1 : Int32))), some (vi ((1 : Int32))), none]) rfl ?_
  refine zr_aload0 X dX8_goes_0 ?_
  refine zr_iload1 X dX8_goes_1 ?_
  refine zr_iload2 X dX8_goes_2 ?_
  refine zr_iconst (v := (0 : Int32)) X dX8_goes_3 (by decide) ?_
  refine zr_callS4 (rm9 := zrm_X8_takes) X hnt zm_X8_68 (by decide) (by decide) (by decide) (Nat.le_of_ble_eq_true rfl) dX8_goes_4 ?_
  refine zp_X8_takes (g := g) (s9 := 1) (k := 0) hM (by omega) (by omega) (by omega) ?_
  intro J1 hg2 hM3
  refine zr_iconst (v := (1 : Int32)) X dX8_goes_7 (by decide) ?_
  refine zr_isub X dX8_goes_8 ?_
  refine zr_eq (x2 := (-1 : Int32)) (by rw [hw]; rfl) ?_
  refine zr_istore4 X (by decide) rfl dX8_goes_9 ?_
  refine zr_aload0 X dX8_goes_11 ?_
  refine zr_iload2 X dX8_goes_12 ?_
  refine zr_if_ne (tgt := 21) X dX8_goes_13 (by decide) (fun _ => ?_) (fun h => absurd h (by decide))
  refine zr_bipush (v := (10 : Int32)) X dX8_goes_21 (by decide) ?_
  refine zr_dup2 X dX8_goes_23 ?_
  refine zr_ialdN (n := 10) X rfl (show _ < 310 from (by first | assumption | omega | decide)) dX8_goes_24 ?_
  refine zr_eq (x2 := (sX (tL S g 1 ((sL S g 1).eraseIdx 0)) 10)) (hM3.1 10 (by decide)) ?_
  refine zr_iconst (v := (1 : Int32)) X dX8_goes_25 (by decide) ?_
  refine zr_iadd X dX8_goes_26 ?_
  refine zr_iastN (n := 10) X rfl (by decide) dX8_goes_27 ?_
  have hM_1 : zMd _ (a) (tX (tL S g 1 ((sL S g 1).eraseIdx 0)) 10 ((sX (tL S g 1 ((sL S g 1).eraseIdx 0)) 10) + (1 : Int32))) := zMd_X hM3 (i := 10) (v := ((sX (tL S g 1 ((sL S g 1).eraseIdx 0)) 10) + (1 : Int32))) (by decide)
  refine zr_aload0 X dX8_goes_28 ?_
  refine zr_iconst (v := (3 : Int32)) X dX8_goes_29 (by decide) ?_
  refine zr_dup2 X dX8_goes_30 ?_
  refine zr_ialdN (n := 3) X rfl (show _ < 310 from (by first | assumption | omega | decide)) dX8_goes_31 ?_
  refine zr_eq (x2 := (sX (tX (tL S g 1 ((sL S g 1).eraseIdx 0)) 10 ((sX (tL S g 1 ((sL S g 1).eraseIdx 0)) 10) + (1 : Int32))) 3)) (hM_1.1 3 (by decide)) ?_
  refine zr_iload2 X dX8_goes_32 ?_
  refine zr_if_ne (tgt := 40) X dX8_goes_33 (by decide) (fun _ => ?_) (fun h => absurd h (by decide))
  refine zr_iconst (v := (-1 : Int32)) X dX8_goes_40 (by decide) ?_
  refine zr_iadd X dX8_goes_41 ?_
  refine zr_eq (x2 := ((sX (tX (tL S g 1 ((sL S g 1).eraseIdx 0)) 10 ((sX (tL S g 1 ((sL S g 1).eraseIdx 0)) 10) + (1 : Int32))) 3) - (1 : Int32))) ((Int32.sub_eq_add_neg _ _).symm) ?_
  refine zr_iastN (n := 3) X rfl (by decide) dX8_goes_42 ?_
  have hM_2 : zMd _ (a) (tX (tX (tL S g 1 ((sL S g 1).eraseIdx 0)) 10 ((sX (tL S g 1 ((sL S g 1).eraseIdx 0)) 10) + (1 : Int32))) 3 ((sX (tX (tL S g 1 ((sL S g 1).eraseIdx 0)) 10 ((sX (tL S g 1 ((sL S g 1).eraseIdx 0)) 10) + (1 : Int32))) 3) - (1 : Int32))) := zMd_X hM_1 (i := 3) (v := ((sX (tX (tL S g 1 ((sL S g 1).eraseIdx 0)) 10 ((sX (tL S g 1 ((sL S g 1).eraseIdx 0)) 10) + (1 : Int32))) 3) - (1 : Int32))) (by decide)
  refine zr_iload4 X dX8_goes_43 ?_
  refine zr_iconst (v := (-1 : Int32)) X dX8_goes_45 (by decide) ?_
  refine zr_icmp_ne (tgt := 50) X dX8_goes_46 (by decide) (fun h => absurd h (by decide)) (fun _ => ?_)
  refine zr_vret X (by decide) (by decide) dX8_goes_49 ?_
  refine k1 _ (by repeat (first | exact zag.rf | assumption | refine zag.put ?_ (by omega) (by omega) | refine zag.tr ?_ (by assumption) (by omega) (by omega))) ?_
  refine cast (congrArg (zMd _ a) ?_) hM_2
  rw [qGoes, hw, qGone, if_neg (by decide), if_pos (by omega)]
  rfl
set_option maxRecDepth 20000 in
theorem zp111_X8_goes {l : Launch} {D : va_G} {b0 : Nat} {tA : Nat → ClassId} {sa sv : Nat → Nat} {K : Nat → Option Nat} {I : zI} {Qp : zI → Option AV → Prop} {Xp : String → zI → Prop} {a g c9 : Nat} {S : zS}
    (hM : zMd I a S) (hg : g < 6) (hl : 0 < (sL S g 1).length) (hw : (sL S g 1).getD 0 0 = c9 + 1) (hc : c9 < 12) (k1 : ∀ J : zI, zag I J a 1 → zMd J a (qGoes S g 1) → Qp J none) :
    zC l D b0 tA sa sv K yX8_goes (.code yX8_goes cX8_goes 5 none) zrm_X8_goes [vr (a) 15, vi ((nI g)), vi ((1 : Int32)), vi ((1 : Int32))] I Qp Xp := by
  refine zC_of (by decide +kernel) (Nat.le_of_ble_eq_true rfl) ?_
  intro p e s m args below meth c X hnt
  have X : zX p l e zrm_X8_goes s m args below meth c RX8 cX8_goes 5 none D b0 tA sa sv := X
  refine zr_lv (lv2 := [some (vr (a) 15), some (vi ((nI g))), some (vi ((1 : Int32))), some (vi ((1 : Int32))), none]) rfl ?_
  refine zr_aload0 X dX8_goes_0 ?_
  refine zr_iload1 X dX8_goes_1 ?_
  refine zr_iload2 X dX8_goes_2 ?_
  refine zr_iconst (v := (0 : Int32)) X dX8_goes_3 (by decide) ?_
  refine zr_callS4 (rm9 := zrm_X8_takes) X hnt zm_X8_68 (by decide) (by decide) (by decide) (Nat.le_of_ble_eq_true rfl) dX8_goes_4 ?_
  refine zp_X8_takes (g := g) (s9 := 1) (k := 0) hM (by omega) (by omega) (by omega) ?_
  intro J1 hg2 hM3
  refine zr_iconst (v := (1 : Int32)) X dX8_goes_7 (by decide) ?_
  refine zr_isub X dX8_goes_8 ?_
  refine zr_eq (x2 := (nI c9)) (by rw [hw]; exact pk_sub (a := c9 + 1) (b := 1) (by omega)) ?_
  refine zr_istore4 X (by decide) rfl dX8_goes_9 ?_
  refine zr_aload0 X dX8_goes_11 ?_
  refine zr_iload2 X dX8_goes_12 ?_
  refine zr_if_ne (tgt := 21) X dX8_goes_13 (by decide) (fun _ => ?_) (fun h => absurd h (by decide))
  refine zr_bipush (v := (10 : Int32)) X dX8_goes_21 (by decide) ?_
  refine zr_dup2 X dX8_goes_23 ?_
  refine zr_ialdN (n := 10) X rfl (show _ < 310 from (by first | assumption | omega | decide)) dX8_goes_24 ?_
  refine zr_eq (x2 := (sX (tL S g 1 ((sL S g 1).eraseIdx 0)) 10)) (hM3.1 10 (by decide)) ?_
  refine zr_iconst (v := (1 : Int32)) X dX8_goes_25 (by decide) ?_
  refine zr_iadd X dX8_goes_26 ?_
  refine zr_iastN (n := 10) X rfl (by decide) dX8_goes_27 ?_
  have hM_1 : zMd _ (a) (tX (tL S g 1 ((sL S g 1).eraseIdx 0)) 10 ((sX (tL S g 1 ((sL S g 1).eraseIdx 0)) 10) + (1 : Int32))) := zMd_X hM3 (i := 10) (v := ((sX (tL S g 1 ((sL S g 1).eraseIdx 0)) 10) + (1 : Int32))) (by decide)
  refine zr_aload0 X dX8_goes_28 ?_
  refine zr_iconst (v := (3 : Int32)) X dX8_goes_29 (by decide) ?_
  refine zr_dup2 X dX8_goes_30 ?_
  refine zr_ialdN (n := 3) X rfl (show _ < 310 from (by first | assumption | omega | decide)) dX8_goes_31 ?_
  refine zr_eq (x2 := (sX (tX (tL S g 1 ((sL S g 1).eraseIdx 0)) 10 ((sX (tL S g 1 ((sL S g 1).eraseIdx 0)) 10) + (1 : Int32))) 3)) (hM_1.1 3 (by decide)) ?_
  refine zr_iload2 X dX8_goes_32 ?_
  refine zr_if_ne (tgt := 40) X dX8_goes_33 (by decide) (fun _ => ?_) (fun h => absurd h (by decide))
  refine zr_iconst (v := (-1 : Int32)) X dX8_goes_40 (by decide) ?_
  refine zr_iadd X dX8_goes_41 ?_
  refine zr_eq (x2 := ((sX (tX (tL S g 1 ((sL S g 1).eraseIdx 0)) 10 ((sX (tL S g 1 ((sL S g 1).eraseIdx 0)) 10) + (1 : Int32))) 3) - (1 : Int32))) ((Int32.sub_eq_add_neg _ _).symm) ?_
  refine zr_iastN (n := 3) X rfl (by decide) dX8_goes_42 ?_
  have hM_2 : zMd _ (a) (tX (tX (tL S g 1 ((sL S g 1).eraseIdx 0)) 10 ((sX (tL S g 1 ((sL S g 1).eraseIdx 0)) 10) + (1 : Int32))) 3 ((sX (tX (tL S g 1 ((sL S g 1).eraseIdx 0)) 10 ((sX (tL S g 1 ((sL S g 1).eraseIdx 0)) 10) + (1 : Int32))) 3) - (1 : Int32))) := zMd_X hM_1 (i := 3) (v := ((sX (tX (tL S g 1 ((sL S g 1).eraseIdx 0)) 10 ((sX (tL S g 1 ((sL S g 1).eraseIdx 0)) 10) + (1 : Int32))) 3) - (1 : Int32))) (by decide)
  refine zr_iload4 X dX8_goes_43 ?_
  refine zr_iconst (v := (-1 : Int32)) X dX8_goes_45 (by decide) ?_
  refine zr_icmp_ne (tgt := 50) X dX8_goes_46 (by decide) (fun _ => ?_) (fun h => absurd h (zm1 (by omega)))
  refine zr_aload0 X dX8_goes_50 ?_
  refine zr_iload4 X dX8_goes_51 ?_
  refine zr_iconst (v := (1 : Int32)) X dX8_goes_53 (by decide) ?_
  refine zr_callS2 (rm9 := zrm_X8_cardAt) X hnt zm_X8_61 (by decide) (by decide) (by decide) (Nat.le_of_ble_eq_true rfl) dX8_goes_54 ?_
  refine zn_X8_cardAt (g := c9) (w := 1) ?_
  refine zr_iconst (v := (1 : Int32)) X dX8_goes_57 (by decide) ?_
  refine zr_iload2 X dX8_goes_58 ?_
  refine zr_isub X dX8_goes_59 ?_
  refine zr_eq (x2 := (0 : Int32)) (by decide) ?_
  refine zr_iastN X rfl (show _ < 310 from (by first | assumption | omega)) dX8_goes_60 ?_
  have hM_3 : zMd _ (a) (tC (tX (tX (tL S g 1 ((sL S g 1).eraseIdx 0)) 10 ((sX (tL S g 1 ((sL S g 1).eraseIdx 0)) 10) + (1 : Int32))) 3 ((sX (tX (tL S g 1 ((sL S g 1).eraseIdx 0)) 10 ((sX (tL S g 1 ((sL S g 1).eraseIdx 0)) 10) + (1 : Int32))) 3) - (1 : Int32))) c9 1 (0 : Int32)) := zMd_C hM_2 (c := c9) (j := 1) (v := (0 : Int32)) (by omega) (by decide)
  refine zr_aload0 X dX8_goes_61 ?_
  refine zr_iload4 X dX8_goes_62 ?_
  refine zr_iconst (v := (0 : Int32)) X dX8_goes_64 (by decide) ?_
  refine zr_callS2 (rm9 := zrm_X8_cardAt) X hnt zm_X8_61 (by decide) (by decide) (by decide) (Nat.le_of_ble_eq_true rfl) dX8_goes_65 ?_
  refine zn_X8_cardAt (g := c9) (w := 0) ?_
  refine zr_dup2 X dX8_goes_68 ?_
  refine zr_ialdN (n := 190 + 10 * c9 + 0) X rfl (show _ < 310 from (by first | assumption | omega | decide)) dX8_goes_69 ?_
  refine zr_eq (x2 := (sC (tC (tX (tX (tL S g 1 ((sL S g 1).eraseIdx 0)) 10 ((sX (tL S g 1 ((sL S g 1).eraseIdx 0)) 10) + (1 : Int32))) 3 ((sX (tX (tL S g 1 ((sL S g 1).eraseIdx 0)) 10 ((sX (tL S g 1 ((sL S g 1).eraseIdx 0)) 10) + (1 : Int32))) 3) - (1 : Int32))) c9 1 (0 : Int32)) c9 0)) ((hM_3.2.2 c9 (by omega)).1 0 (by decide)) ?_
  refine zr_iload2 X dX8_goes_70 ?_
  refine zr_if_ne (tgt := 82) X dX8_goes_71 (by decide) (fun _ => ?_) (fun h => absurd h (by decide))
  refine zr_iconst (v := (0 : Int32)) X dX8_goes_82 (by decide) ?_
  refine zr_isub X dX8_goes_83 ?_
  refine zr_eq (x2 := (sC (tC (tX (tX (tL S g 1 ((sL S g 1).eraseIdx 0)) 10 ((sX (tL S g 1 ((sL S g 1).eraseIdx 0)) 10) + (1 : Int32))) 3 ((sX (tX (tL S g 1 ((sL S g 1).eraseIdx 0)) 10 ((sX (tL S g 1 ((sL S g 1).eraseIdx 0)) 10) + (1 : Int32))) 3) - (1 : Int32))) c9 1 (0 : Int32)) c9 0)) (Int32.sub_zero _) ?_
  refine zr_iastN X rfl (show _ < 310 from (by first | assumption | omega)) dX8_goes_84 ?_
  have hM_4 : zMd _ (a) (tC (tC (tX (tX (tL S g 1 ((sL S g 1).eraseIdx 0)) 10 ((sX (tL S g 1 ((sL S g 1).eraseIdx 0)) 10) + (1 : Int32))) 3 ((sX (tX (tL S g 1 ((sL S g 1).eraseIdx 0)) 10 ((sX (tL S g 1 ((sL S g 1).eraseIdx 0)) 10) + (1 : Int32))) 3) - (1 : Int32))) c9 1 (0 : Int32)) c9 0 (sC (tC (tX (tX (tL S g 1 ((sL S g 1).eraseIdx 0)) 10 ((sX (tL S g 1 ((sL S g 1).eraseIdx 0)) 10) + (1 : Int32))) 3 ((sX (tX (tL S g 1 ((sL S g 1).eraseIdx 0)) 10 ((sX (tL S g 1 ((sL S g 1).eraseIdx 0)) 10) + (1 : Int32))) 3) - (1 : Int32))) c9 1 (0 : Int32)) c9 0)) := zMd_C hM_3 (c := c9) (j := 0) (v := (sC (tC (tX (tX (tL S g 1 ((sL S g 1).eraseIdx 0)) 10 ((sX (tL S g 1 ((sL S g 1).eraseIdx 0)) 10) + (1 : Int32))) 3 ((sX (tX (tL S g 1 ((sL S g 1).eraseIdx 0)) 10 ((sX (tL S g 1 ((sL S g 1).eraseIdx 0)) 10) + (1 : Int32))) 3) - (1 : Int32))) c9 1 (0 : Int32)) c9 0)) (by omega) (by decide)
  refine zr_aload0 X dX8_goes_85 ?_
  refine zr_iload4 X dX8_goes_86 ?_
  refine zr_iconst (v := (3 : Int32)) X dX8_goes_88 (by decide) ?_
  refine zr_callS2 (rm9 := zrm_X8_cardAt) X hnt zm_X8_61 (by decide) (by decide) (by decide) (Nat.le_of_ble_eq_true rfl) dX8_goes_89 ?_
  refine zn_X8_cardAt (g := c9) (w := 3) ?_
  refine zr_dup2 X dX8_goes_92 ?_
  refine zr_ialdN (n := 190 + 10 * c9 + 3) X rfl (show _ < 310 from (by first | assumption | omega | decide)) dX8_goes_93 ?_
  refine zr_eq (x2 := (sC (tC (tC (tX (tX (tL S g 1 ((sL S g 1).eraseIdx 0)) 10 ((sX (tL S g 1 ((sL S g 1).eraseIdx 0)) 10) + (1 : Int32))) 3 ((sX (tX (tL S g 1 ((sL S g 1).eraseIdx 0)) 10 ((sX (tL S g 1 ((sL S g 1).eraseIdx 0)) 10) + (1 : Int32))) 3) - (1 : Int32))) c9 1 (0 : Int32)) c9 0 (sC (tC (tX (tX (tL S g 1 ((sL S g 1).eraseIdx 0)) 10 ((sX (tL S g 1 ((sL S g 1).eraseIdx 0)) 10) + (1 : Int32))) 3 ((sX (tX (tL S g 1 ((sL S g 1).eraseIdx 0)) 10 ((sX (tL S g 1 ((sL S g 1).eraseIdx 0)) 10) + (1 : Int32))) 3) - (1 : Int32))) c9 1 (0 : Int32)) c9 0)) c9 3)) ((hM_4.2.2 c9 (by omega)).1 3 (by decide)) ?_
  refine zr_iconst (v := (1 : Int32)) X dX8_goes_94 (by decide) ?_
  refine zr_iadd X dX8_goes_95 ?_
  refine zr_iastN X rfl (show _ < 310 from (by first | assumption | omega)) dX8_goes_96 ?_
  have hM_5 : zMd _ (a) (tC (tC (tC (tX (tX (tL S g 1 ((sL S g 1).eraseIdx 0)) 10 ((sX (tL S g 1 ((sL S g 1).eraseIdx 0)) 10) + (1 : Int32))) 3 ((sX (tX (tL S g 1 ((sL S g 1).eraseIdx 0)) 10 ((sX (tL S g 1 ((sL S g 1).eraseIdx 0)) 10) + (1 : Int32))) 3) - (1 : Int32))) c9 1 (0 : Int32)) c9 0 (sC (tC (tX (tX (tL S g 1 ((sL S g 1).eraseIdx 0)) 10 ((sX (tL S g 1 ((sL S g 1).eraseIdx 0)) 10) + (1 : Int32))) 3 ((sX (tX (tL S g 1 ((sL S g 1).eraseIdx 0)) 10 ((sX (tL S g 1 ((sL S g 1).eraseIdx 0)) 10) + (1 : Int32))) 3) - (1 : Int32))) c9 1 (0 : Int32)) c9 0)) c9 3 ((sC (tC (tC (tX (tX (tL S g 1 ((sL S g 1).eraseIdx 0)) 10 ((sX (tL S g 1 ((sL S g 1).eraseIdx 0)) 10) + (1 : Int32))) 3 ((sX (tX (tL S g 1 ((sL S g 1).eraseIdx 0)) 10 ((sX (tL S g 1 ((sL S g 1).eraseIdx 0)) 10) + (1 : Int32))) 3) - (1 : Int32))) c9 1 (0 : Int32)) c9 0 (sC (tC (tX (tX (tL S g 1 ((sL S g 1).eraseIdx 0)) 10 ((sX (tL S g 1 ((sL S g 1).eraseIdx 0)) 10) + (1 : Int32))) 3 ((sX (tX (tL S g 1 ((sL S g 1).eraseIdx 0)) 10 ((sX (tL S g 1 ((sL S g 1).eraseIdx 0)) 10) + (1 : Int32))) 3) - (1 : Int32))) c9 1 (0 : Int32)) c9 0)) c9 3) + (1 : Int32))) := zMd_C hM_4 (c := c9) (j := 3) (v := ((sC (tC (tC (tX (tX (tL S g 1 ((sL S g 1).eraseIdx 0)) 10 ((sX (tL S g 1 ((sL S g 1).eraseIdx 0)) 10) + (1 : Int32))) 3 ((sX (tX (tL S g 1 ((sL S g 1).eraseIdx 0)) 10 ((sX (tL S g 1 ((sL S g 1).eraseIdx 0)) 10) + (1 : Int32))) 3) - (1 : Int32))) c9 1 (0 : Int32)) c9 0 (sC (tC (tX (tX (tL S g 1 ((sL S g 1).eraseIdx 0)) 10 ((sX (tL S g 1 ((sL S g 1).eraseIdx 0)) 10) + (1 : Int32))) 3 ((sX (tX (tL S g 1 ((sL S g 1).eraseIdx 0)) 10 ((sX (tL S g 1 ((sL S g 1).eraseIdx 0)) 10) + (1 : Int32))) 3) - (1 : Int32))) c9 1 (0 : Int32)) c9 0)) c9 3) + (1 : Int32))) (by omega) (by decide)
  refine zr_vret X (by decide) (by decide) dX8_goes_97 ?_
  refine k1 _ (by repeat (first | exact zag.rf | assumption | refine zag.put ?_ (by omega) (by omega) | refine zag.tr ?_ (by assumption) (by omega) (by omega))) ?_
  refine cast (congrArg (zMd _ a) ?_) hM_5
  rw [qGoes, hw, qGone, if_neg (by decide), if_neg (by omega)]
  simp only [Nat.add_sub_cancel, qPassed, tC_id]; first | rfl | (simp [tC, tX, tL, sX, sC, zu2, va_up]; done)
theorem zq11_X8_goes {l : Launch} {D : va_G} {b0 : Nat} {tA : Nat → ClassId} {sa sv : Nat → Nat} {K : Nat → Option Nat} {I : zI} {Qp : zI → Option AV → Prop} {Xp : String → zI → Prop} {a g : Nat} {S : zS} (hM : zMd I a S) (hg : g < 6) (hl : 0 < (sL S g 1).length) (hw : ∀ y ∈ sL S g 1, y ≤ 12) (k1 : ∀ J : zI, zag I J a 1 → zMd J a (qGoes S g 1) → Qp J none) :
    zC l D b0 tA sa sv K yX8_goes (.code yX8_goes cX8_goes 5 none) zrm_X8_goes [vr (a) 15, vi ((nI g)), vi ((1 : Int32)), vi ((1 : Int32))] I Qp Xp := by
  rcases h : (sL S g 1).getD 0 0 with _ | c
  · exact zp110_X8_goes hM hg hl h k1
  · exact zp111_X8_goes hM hg hl h (by have := zgd12 hw 0; omega) k1
abbrev zrm_X8_flees : Room := { frames := 4, cells := 0, slots := 0, locals := 93 }
theorem qFlee_min {g : Nat} : ∀ (f : Nat) (S : zS), qFlee S g (min f (sL S g 1).length) = qFlee S g f
  | 0, S => by rw [Nat.zero_min]
  | f + 1, S => by
    by_cases h : sL S g 1 = []
    · rw [h, List.length_nil, Nat.min_zero, qFlee, qFlee, if_pos h]
    · obtain ⟨l, hl⟩ : ∃ l, (sL S g 1).length = l + 1 := ⟨(sL S g 1).length - 1, by have := List.length_pos_iff.mpr h; omega⟩
      have e : (sL (qFlee1 S g) g 1).length = l := by
        show (sL (qGoes S g 1) g 1).length = l
        rw [qGoes_L, zu2_eq, zlen_erase (by omega)]; omega
      rw [hl, show min (f + 1) (l + 1) = min f l + 1 by omega, qFlee, qFlee, if_neg h, if_neg h, ← e]
      exact qFlee_min f _
theorem zn_X8_min {l : Launch} {D : va_G} {b0 : Nat} {tA : Nat → ClassId} {sa sv : Nat → Nat} {K : Nat → Option Nat} {I : zI} {Qp : zI → Option AV → Prop} {Xp : String → zI → Prop} {x y : Nat} (hx : x < 2 ^ 31) (hy : y < 2 ^ 31) (k1 : Qp I (some (vi (nI (min x y))))) :
    zC l D b0 tA sa sv K yX8_min (.code yX8_min cX8_min 2 (some .int)) zrm_X8_min [vi ((nI x)), vi ((nI y))] I Qp Xp := by
  refine zp_X8_min (fun h => ?_) (fun h => ?_)
  · have := (nI_leI hy hx).mp h
    rw [show min x y = y by omega] at k1; exact k1
  · have : ¬ y ≤ x := fun z => h ((nI_leI hy hx).mpr z)
    rw [show min x y = x by omega] at k1; exact k1
set_option maxRecDepth 20000 in
theorem zl_X8_flees {l : Launch} {D : va_G} {b0 : Nat} {tA : Nat → ClassId} {sa sv : Nat → Nat} {K : Nat → Option Nat} {I : zI} {Qp : zI → Option AV → Prop} {Xp : String → zI → Prop} {p : Program} {e : Env} {s : State} {m : MethodId} {args : Array Value} {below : List Frame} {meth : Method} {c : Code} {a g f : Nat} {S : zS}
    (X : zX p l e zrm_X8_flees s m args below meth c RX8 cX8_flees 3 none D b0 tA sa sv) (hnt : ∀ x ∈ c.exceptionTable.toList, False) (hM : zMd I a S) (hg : g < 6) (hf : sX S 1 = nI f) (hf4 : f ≤ 4) (hw : ∀ y ∈ sL S g 1, y ≤ 12) (k1 : ∀ J : zI, zag I J a 1 → zMd J a (qFlee S g f) → Qp J none) :
    ∀ (n : Nat) (m9 : Nat) (J : zI) (S9 : zS), zag I J a 1 → zMd J a S9 → (∀ y ∈ sL S9 g 1, y ≤ 12) → m9 ≤ (sL S9 g 1).length → qFlee S9 g m9 = qFlee S g f → m9 < n → zG p l e zrm_X8_flees s m args below meth c 3 D b0 tA sa 0 0 (zQ below D b0 tA sa K args s zrm_X8_flees Qp Xp) K 13 [some (vr (a) 15), some (vi ((nI g))), some (vi ((nI m9)))] [] J := by
  intro n
  induction n with
  | zero => intro m9 J S9 i1 i2 i4 i6 i5 i7; exact absurd i7 (Nat.not_lt_zero _)
  | succ n ih =>
    intro m9 J S9 i1 i2 i4 i6 i5 i7
    have hl9 := i2.len hg (show 1 < 2 by decide)
    refine zr_iload2 X dX8_flees_13 ?_
    refine zr_nif_le X (m9) (tgt := 38) (by omega) dX8_flees_14 (by decide) (fun h1 => ?_) (fun h1 => ?_)
    · skip
      refine zr_vret X (by decide) (by decide) dX8_flees_38 ?_
      have hj : m9 = 0 := by omega
      subst hj
      refine k1 J i1 ?_
      rw [← i5]; exact i2
    · skip
      refine zr_aload0 X dX8_flees_17 ?_
      refine zr_iload1 X dX8_flees_18 ?_
      refine zr_iconst (v := (1 : Int32)) X dX8_flees_19 (by decide) ?_
      refine zr_iconst (v := (0 : Int32)) X dX8_flees_20 (by decide) ?_
      refine zr_callS4 (rm9 := zrm_X8_goes) X hnt zm_X8_74 (by decide) (by decide) (by decide) (Nat.le_of_ble_eq_true rfl) dX8_flees_21 ?_
      refine zq10_X8_goes (g := g) i2 (by omega) (by omega) (i4) ?_
      intro J4 hg5 hM6
      refine zr_aload0 X dX8_flees_24 ?_
      refine zr_bipush (v := (14 : Int32)) X dX8_flees_25 (by decide) ?_
      refine zr_dup2 X dX8_flees_27 ?_
      refine zr_ialdN (n := 14) X rfl (show _ < 310 from (by first | assumption | omega | decide)) dX8_flees_28 ?_
      refine zr_eq (x2 := (sX (qGoes S9 g 1) 14)) (hM6.1 14 (by decide)) ?_
      refine zr_iconst (v := (1 : Int32)) X dX8_flees_29 (by decide) ?_
      refine zr_iadd X dX8_flees_30 ?_
      refine zr_iastN (n := 14) X rfl (by decide) dX8_flees_31 ?_
      have hM_1 : zMd _ (a) (tX (qGoes S9 g 1) 14 ((sX (qGoes S9 g 1) 14) + (1 : Int32))) := zMd_X hM6 (i := 14) (v := ((sX (qGoes S9 g 1) 14) + (1 : Int32))) (by decide)
      refine zr_iinc2 (v := (nI (m9 - 1))) X (zdec1 (n := m9) (by omega)) (by decide) rfl dX8_flees_32 ?_
      refine zr_goto (tgt := 13) X dX8_flees_35 (by decide) ?_
      obtain ⟨m8, rfl⟩ : ∃ m8, m9 = m8 + 1 := ⟨m9 - 1, by omega⟩
      refine ih m8 _ (tX (qGoes S9 g 1) 14 ((sX (qGoes S9 g 1) 14) + (1 : Int32))) (by repeat (first | exact zag.rf | assumption | refine zag.put ?_ (by omega) (by omega) | refine zag.tr ?_ (by assumption) (by omega) (by omega))) hM_1 ?_ ?_ ?_ (by omega)
      · show ∀ y ∈ sL (qGoes S9 g 1) g 1, y ≤ 12
        rw [qGoes_L, zu2_eq]; exact zmem_erase i4
      · show m8 ≤ (sL (qGoes S9 g 1) g 1).length
        rw [qGoes_L, zu2_eq, zlen_erase (by omega)]; omega
      · rw [← i5, qFlee, if_neg (fun z => by rw [z, List.length_nil] at i6; omega)]; rfl
set_option maxRecDepth 20000 in
theorem zp_X8_flees {l : Launch} {D : va_G} {b0 : Nat} {tA : Nat → ClassId} {sa sv : Nat → Nat} {K : Nat → Option Nat} {I : zI} {Qp : zI → Option AV → Prop} {Xp : String → zI → Prop} {a g f : Nat} {S : zS}
    (hM : zMd I a S) (hg : g < 6) (hf : sX S 1 = nI f) (hf4 : f ≤ 4) (hw : ∀ y ∈ sL S g 1, y ≤ 12) (k1 : ∀ J : zI, zag I J a 1 → zMd J a (qFlee S g f) → Qp J none) :
    zC l D b0 tA sa sv K yX8_flees (.code yX8_flees cX8_flees 3 none) zrm_X8_flees [vr (a) 15, vi ((nI g))] I Qp Xp := by
  have hl9 := hM.len hg (show 1 < 2 by decide)
  refine zC_of (by decide +kernel) (Nat.le_of_ble_eq_true rfl) ?_
  intro p e s m args below meth c X hnt
  have X : zX p l e zrm_X8_flees s m args below meth c RX8 cX8_flees 3 none D b0 tA sa sv := X
  refine zr_lv (lv2 := [some (vr (a) 15), some (vi ((nI g))), none]) rfl ?_
  refine zr_aload0 X dX8_flees_0 ?_
  refine zr_iconst (v := (1 : Int32)) X dX8_flees_1 (by decide) ?_
  refine zr_ialdN (n := 1) X rfl (show _ < 310 from (by first | assumption | omega | decide)) dX8_flees_2 ?_
  refine zr_eq (x2 := (sX S 1)) (hM.1 1 (by decide)) ?_
  refine zr_eq (x2 := (nI f)) (hf) ?_
  refine zr_aload0 X dX8_flees_3 ?_
  refine zr_iload1 X dX8_flees_4 ?_
  refine zr_iconst (v := (1 : Int32)) X dX8_flees_5 (by decide) ?_
  refine zr_callS3 (rm9 := zrm_X8_many) X hnt zm_X8_38 (by decide) (by decide) (by decide) (Nat.le_of_ble_eq_true rfl) dX8_flees_6 ?_
  refine zn_X8_many (g := g) (s9 := 1) hM (by omega) (by omega) ?_
  refine zr_callS2 (rm9 := zrm_X8_min) X hnt zm_X8_71 (by decide) (by decide) (by decide) (Nat.le_of_ble_eq_true rfl) dX8_flees_9 ?_
  refine zn_X8_min (x := f) (y := (sL S g 1).length) (by omega) (by omega) ?_
  refine zr_istore2 X (by decide) rfl dX8_flees_12 ?_
  exact zl_X8_flees X hnt hM hg hf hf4 hw k1 (f + 2) _ I S zag.rf hM hw (Nat.min_le_right _ _) (qFlee_min f S) (by omega)
abbrev zrm_X8_passes : Room := { frames := 4, cells := 0, slots := 0, locals := 93 }
theorem zlessM {T : zS} {g : Nat} (h : sG (tG T g 1 (sG T g 1 - 1)) g 1 = 0) : tG (tG T g 1 (sG T g 1 - 1)) g 2 0 = qLess T g := by
  rw [tG_G, if_pos ⟨rfl, rfl⟩] at h
  rw [qLess, if_pos h, h]
theorem zlessN {T : zS} {g : Nat} (h : ¬ sG (tG T g 1 (sG T g 1 - 1)) g 1 = 0) : tG T g 1 (sG T g 1 - 1) = qLess T g := by
  rw [tG_G, if_pos ⟨rfl, rfl⟩] at h
  rw [qLess, if_neg h]
set_option maxRecDepth 20000 in
theorem zp0_X8_passes {l : Launch} {D : va_G} {b0 : Nat} {tA : Nat → ClassId} {sa sv : Nat → Nat} {K : Nat → Option Nat} {I : zI} {Qp : zI → Option AV → Prop} {Xp : String → zI → Prop} {a g : Nat} {S : zS}
    (hM : zMd I a S) (hg : g < 6) (hw : ∀ y ∈ (sL S g 0), y ≤ 12) (k2 : sG S g 2 = 1) (k3 : sG S g 3 = 0 ∨ (sG S g 3 = 1 ∧ (sL S g 0) ≠ [])) (k1 : ∀ J : zI, zag I J a 1 → zMd J a (qPass S g) → Qp J none) :
    zC l D b0 tA sa sv K yX8_passes (.code yX8_passes cX8_passes 3 none) zrm_X8_passes [vr (a) 15, vi ((nI g))] I Qp Xp := by
  have hl9 := hM.len hg (show 0 < 2 by decide)
  have hz9 := zgd12 hw 0
  refine zC_of (by decide +kernel) (Nat.le_of_ble_eq_true rfl) ?_
  intro p e s m args below meth c X hnt
  have X : zX p l e zrm_X8_passes s m args below meth c RX8 cX8_passes 3 none D b0 tA sa sv := X
  refine zr_lv (lv2 := [some (vr (a) 15), some (vi ((nI g))), none]) rfl ?_
  refine zr_aload0 X dX8_passes_0 ?_
  refine zr_iload1 X dX8_passes_1 ?_
  refine zr_iconst (v := (2 : Int32)) X dX8_passes_2 (by decide) ?_
  refine zr_callS2 (rm9 := zrm_X8_gateAt) X hnt zm_X8_34 (by decide) (by decide) (by decide) (Nat.le_of_ble_eq_true rfl) dX8_passes_3 ?_
  refine zn_X8_gateAt (g := g) (w := 2) ?_
  refine zr_ialdN (n := 16 + 29 * g + 2) X rfl (show _ < 310 from (by first | assumption | omega | decide)) dX8_passes_6 ?_
  refine zr_eq (x2 := (sG S g 2)) ((hM.2.1 g (by omega)).1 2 (by first | decide | omega)) ?_
  refine zr_iconst (v := (1 : Int32)) X dX8_passes_7 (by decide) ?_
  refine zr_isub X dX8_passes_8 ?_
  refine zr_eq (x2 := (0 : Int32)) (by rw [k2]; rfl) ?_
  refine zr_istore2 X (by decide) rfl dX8_passes_9 ?_
  refine zr_aload0 X dX8_passes_10 ?_
  refine zr_iload1 X dX8_passes_11 ?_
  refine zr_iconst (v := (3 : Int32)) X dX8_passes_12 (by decide) ?_
  refine zr_callS2 (rm9 := zrm_X8_gateAt) X hnt zm_X8_34 (by decide) (by decide) (by decide) (Nat.le_of_ble_eq_true rfl) dX8_passes_13 ?_
  refine zn_X8_gateAt (g := g) (w := 3) ?_
  refine zr_ialdN (n := 16 + 29 * g + 3) X rfl (show _ < 310 from (by first | assumption | omega | decide)) dX8_passes_16 ?_
  refine zr_eq (x2 := (sG S g 3)) ((hM.2.1 g (by omega)).1 3 (by first | decide | omega)) ?_
  refine zr_iconst (v := (1 : Int32)) X dX8_passes_17 (by decide) ?_
  refine zr_icmp_ne (tgt := 39) X dX8_passes_18 (by decide) (fun h1 => ?_) (fun h1 => ?_)
  · skip
    refine zr_aload0 X dX8_passes_39 ?_
    refine zr_iload1 X dX8_passes_40 ?_
    refine zr_iload2 X dX8_passes_41 ?_
    refine zr_callS3 (rm9 := zrm_X8_many) X hnt zm_X8_38 (by decide) (by decide) (by decide) (Nat.le_of_ble_eq_true rfl) dX8_passes_42 ?_
    refine zn_X8_many (g := g) (s9 := 0) hM (by omega) (by omega) ?_
    refine zr_nif_le X (((sL S g 0).length)) (tgt := 85) (by omega) dX8_passes_45 (by decide) (fun h2 => ?_) (fun h2 => ?_)
    · skip
      refine zr_aload0 X dX8_passes_85 ?_
      refine zr_iload1 X dX8_passes_86 ?_
      refine zr_iconst (v := (1 : Int32)) X dX8_passes_87 (by decide) ?_
      refine zr_callS2 (rm9 := zrm_X8_gateAt) X hnt zm_X8_34 (by decide) (by decide) (by decide) (Nat.le_of_ble_eq_true rfl) dX8_passes_88 ?_
      refine zn_X8_gateAt (g := g) (w := 1) ?_
      refine zr_dup2 X dX8_passes_91 ?_
      refine zr_ialdN (n := 16 + 29 * g + 1) X rfl (show _ < 310 from (by first | assumption | omega | decide)) dX8_passes_92 ?_
      refine zr_eq (x2 := (sG S g 1)) ((hM.2.1 g (by omega)).1 1 (by first | decide | omega)) ?_
      refine zr_iconst (v := (1 : Int32)) X dX8_passes_93 (by decide) ?_
      refine zr_isub X dX8_passes_94 ?_
      refine zr_iastN X rfl (show _ < 310 from (by first | assumption | omega)) dX8_passes_95 ?_
      have hM_1 : zMd _ (a) (tG S g 1 ((sG S g 1) - (1 : Int32))) := zMd_G hM (g := g) (j := 1) (v := ((sG S g 1) - (1 : Int32))) (by omega) (by first | decide | omega)
      refine zr_aload0 X dX8_passes_96 ?_
      refine zr_iload1 X dX8_passes_97 ?_
      refine zr_iconst (v := (1 : Int32)) X dX8_passes_98 (by decide) ?_
      refine zr_callS2 (rm9 := zrm_X8_gateAt) X hnt zm_X8_34 (by decide) (by decide) (by decide) (Nat.le_of_ble_eq_true rfl) dX8_passes_99 ?_
      refine zn_X8_gateAt (g := g) (w := 1) ?_
      refine zr_ialdN (n := 16 + 29 * g + 1) X rfl (show _ < 310 from (by first | assumption | omega | decide)) dX8_passes_102 ?_
      refine zr_eq (x2 := (sG (tG S g 1 ((sG S g 1) - (1 : Int32))) g 1)) ((hM_1.2.1 g (by omega)).1 1 (by first | decide | omega)) ?_
      refine zr_if_ne (tgt := 114) X dX8_passes_103 (by decide) (fun h3 => ?_) (fun h3 => ?_)
      · skip
        refine zr_vret X (by decide) (by decide) dX8_passes_114 ?_
        refine k1 _ (by repeat (first | exact zag.rf | assumption | refine zag.put ?_ (by omega) (by omega) | refine zag.tr ?_ (by assumption) (by omega) (by omega))) ?_
        have e9 : qSide S g = 0 := by simp [qSide, k2]
        refine cast (congrArg (zMd _ a) ?_) hM_1
        refine Eq.trans (zlessN h3) ?_
        rw [qPass, if_neg h1, e9, if_neg (fun z => absurd (List.length_pos_iff.mpr z.1) (by omega))]
      · skip
        refine zr_aload0 X dX8_passes_106 ?_
        refine zr_iload1 X dX8_passes_107 ?_
        refine zr_iconst (v := (2 : Int32)) X dX8_passes_108 (by decide) ?_
        refine zr_callS2 (rm9 := zrm_X8_gateAt) X hnt zm_X8_34 (by decide) (by decide) (by decide) (Nat.le_of_ble_eq_true rfl) dX8_passes_109 ?_
        refine zn_X8_gateAt (g := g) (w := 2) ?_
        refine zr_iconst (v := (0 : Int32)) X dX8_passes_112 (by decide) ?_
        refine zr_iastN X rfl (show _ < 310 from (by first | assumption | omega)) dX8_passes_113 ?_
        have hM_2 : zMd _ (a) (tG (tG S g 1 ((sG S g 1) - (1 : Int32))) g 2 (0 : Int32)) := zMd_G hM_1 (g := g) (j := 2) (v := (0 : Int32)) (by omega) (by first | decide | omega)
        refine zr_vret X (by decide) (by decide) dX8_passes_114 ?_
        refine k1 _ (by repeat (first | exact zag.rf | assumption | refine zag.put ?_ (by omega) (by omega) | refine zag.tr ?_ (by assumption) (by omega) (by omega))) ?_
        have e9 : qSide S g = 0 := by simp [qSide, k2]
        refine cast (congrArg (zMd _ a) ?_) hM_2
        refine Eq.trans (zlessM h3) ?_
        rw [qPass, if_neg h1, e9, if_neg (fun z => absurd (List.length_pos_iff.mpr z.1) (by omega))]
    · skip
      refine zr_aload0 X dX8_passes_48 ?_
      refine zr_iload1 X dX8_passes_49 ?_
      refine zr_iload2 X dX8_passes_50 ?_
      refine zr_iconst (v := (0 : Int32)) X dX8_passes_51 (by decide) ?_
      refine zr_callS3 (rm9 := zrm_X8_placeAt) X hnt zm_X8_42 (by decide) (by decide) (by decide) (Nat.le_of_ble_eq_true rfl) dX8_passes_52 ?_
      refine zn_X8_placeAt (g := g) (s9 := 0) (k9 := 0) ?_
      refine zr_ialdN (n := 16 + 29 * g + (9 + 10 * 0 + 0)) X rfl (show _ < 310 from (by first | assumption | omega | decide)) dX8_passes_55 ?_
      refine zr_eq (x2 := (nI ((sL S g 0).getD 0 0))) (((hM.2.1 g (by omega)).2 0 (by omega)).2.2 0 (by first | assumption | omega)) ?_
      refine zr_nif_ne X (((sL S g 0).getD 0 0)) (tgt := 85) (by omega) dX8_passes_56 (by decide) (fun h4 => ?_) (fun h4 => ?_)
      · skip
        refine zr_aload0 X dX8_passes_85 ?_
        refine zr_iload1 X dX8_passes_86 ?_
        refine zr_iconst (v := (1 : Int32)) X dX8_passes_87 (by decide) ?_
        refine zr_callS2 (rm9 := zrm_X8_gateAt) X hnt zm_X8_34 (by decide) (by decide) (by decide) (Nat.le_of_ble_eq_true rfl) dX8_passes_88 ?_
        refine zn_X8_gateAt (g := g) (w := 1) ?_
        refine zr_dup2 X dX8_passes_91 ?_
        refine zr_ialdN (n := 16 + 29 * g + 1) X rfl (show _ < 310 from (by first | assumption | omega | decide)) dX8_passes_92 ?_
        refine zr_eq (x2 := (sG S g 1)) ((hM.2.1 g (by omega)).1 1 (by first | decide | omega)) ?_
        refine zr_iconst (v := (1 : Int32)) X dX8_passes_93 (by decide) ?_
        refine zr_isub X dX8_passes_94 ?_
        refine zr_iastN X rfl (show _ < 310 from (by first | assumption | omega)) dX8_passes_95 ?_
        have hM_3 : zMd _ (a) (tG S g 1 ((sG S g 1) - (1 : Int32))) := zMd_G hM (g := g) (j := 1) (v := ((sG S g 1) - (1 : Int32))) (by omega) (by first | decide | omega)
        refine zr_aload0 X dX8_passes_96 ?_
        refine zr_iload1 X dX8_passes_97 ?_
        refine zr_iconst (v := (1 : Int32)) X dX8_passes_98 (by decide) ?_
        refine zr_callS2 (rm9 := zrm_X8_gateAt) X hnt zm_X8_34 (by decide) (by decide) (by decide) (Nat.le_of_ble_eq_true rfl) dX8_passes_99 ?_
        refine zn_X8_gateAt (g := g) (w := 1) ?_
        refine zr_ialdN (n := 16 + 29 * g + 1) X rfl (show _ < 310 from (by first | assumption | omega | decide)) dX8_passes_102 ?_
        refine zr_eq (x2 := (sG (tG S g 1 ((sG S g 1) - (1 : Int32))) g 1)) ((hM_3.2.1 g (by omega)).1 1 (by first | decide | omega)) ?_
        refine zr_if_ne (tgt := 114) X dX8_passes_103 (by decide) (fun h5 => ?_) (fun h5 => ?_)
        · skip
          refine zr_vret X (by decide) (by decide) dX8_passes_114 ?_
          refine k1 _ (by repeat (first | exact zag.rf | assumption | refine zag.put ?_ (by omega) (by omega) | refine zag.tr ?_ (by assumption) (by omega) (by omega))) ?_
          have e9 : qSide S g = 0 := by simp [qSide, k2]
          refine cast (congrArg (zMd _ a) ?_) hM_3
          refine Eq.trans (zlessN h5) ?_
          rw [qPass, if_neg h1, e9, if_neg (fun z => absurd z.2 h4)]
        · skip
          refine zr_aload0 X dX8_passes_106 ?_
          refine zr_iload1 X dX8_passes_107 ?_
          refine zr_iconst (v := (2 : Int32)) X dX8_passes_108 (by decide) ?_
          refine zr_callS2 (rm9 := zrm_X8_gateAt) X hnt zm_X8_34 (by decide) (by decide) (by decide) (Nat.le_of_ble_eq_true rfl) dX8_passes_109 ?_
          refine zn_X8_gateAt (g := g) (w := 2) ?_
          refine zr_iconst (v := (0 : Int32)) X dX8_passes_112 (by decide) ?_
          refine zr_iastN X rfl (show _ < 310 from (by first | assumption | omega)) dX8_passes_113 ?_
          have hM_4 : zMd _ (a) (tG (tG S g 1 ((sG S g 1) - (1 : Int32))) g 2 (0 : Int32)) := zMd_G hM_3 (g := g) (j := 2) (v := (0 : Int32)) (by omega) (by first | decide | omega)
          refine zr_vret X (by decide) (by decide) dX8_passes_114 ?_
          refine k1 _ (by repeat (first | exact zag.rf | assumption | refine zag.put ?_ (by omega) (by omega) | refine zag.tr ?_ (by assumption) (by omega) (by omega))) ?_
          have e9 : qSide S g = 0 := by simp [qSide, k2]
          refine cast (congrArg (zMd _ a) ?_) hM_4
          refine Eq.trans (zlessM h5) ?_
          rw [qPass, if_neg h1, e9, if_neg (fun z => absurd z.2 h4)]
      · skip
        refine zr_aload0 X dX8_passes_59 ?_
        refine zr_iload1 X dX8_passes_60 ?_
        refine zr_iload2 X dX8_passes_61 ?_
        refine zr_iconst (v := (1 : Int32)) X dX8_passes_62 (by decide) ?_
        refine zr_callS4 (rm9 := zrm_X8_goes) X hnt zm_X8_74 (by decide) (by decide) (by decide) (Nat.le_of_ble_eq_true rfl) dX8_passes_63 ?_
        refine zq01_X8_goes (g := g) hM (by omega) (by first | omega | (rcases k3 with k3 | k3; exact absurd (show (0 : Int32) = 1 from k3.symm.trans (by assumption)) (by decide); exact List.length_pos_iff.mpr k3.2)) (hw) ?_
        intro J1 hg2 hM3
        refine zr_aload0 X dX8_passes_66 ?_
        refine zr_bipush (v := (11 : Int32)) X dX8_passes_67 (by decide) ?_
        refine zr_dup2 X dX8_passes_69 ?_
        refine zr_ialdN (n := 11) X rfl (show _ < 310 from (by first | assumption | omega | decide)) dX8_passes_70 ?_
        refine zr_eq (x2 := (sX (qGoes S g 0) 11)) (hM3.1 11 (by decide)) ?_
        refine zr_iconst (v := (1 : Int32)) X dX8_passes_71 (by decide) ?_
        refine zr_iadd X dX8_passes_72 ?_
        refine zr_iastN (n := 11) X rfl (by decide) dX8_passes_73 ?_
        have hM_5 : zMd _ (a) (tX (qGoes S g 0) 11 ((sX (qGoes S g 0) 11) + (1 : Int32))) := zMd_X hM3 (i := 11) (v := ((sX (qGoes S g 0) 11) + (1 : Int32))) (by decide)
        refine zr_aload0 X dX8_passes_74 ?_
        refine zr_iload1 X dX8_passes_75 ?_
        refine zr_iconst (v := (4 : Int32)) X dX8_passes_76 (by decide) ?_
        refine zr_callS2 (rm9 := zrm_X8_gateAt) X hnt zm_X8_34 (by decide) (by decide) (by decide) (Nat.le_of_ble_eq_true rfl) dX8_passes_77 ?_
        refine zn_X8_gateAt (g := g) (w := 4) ?_
        refine zr_dup2 X dX8_passes_80 ?_
        refine zr_ialdN (n := 16 + 29 * g + 4) X rfl (show _ < 310 from (by first | assumption | omega | decide)) dX8_passes_81 ?_
        refine zr_eq (x2 := (sG (tX (qGoes S g 0) 11 ((sX (qGoes S g 0) 11) + (1 : Int32))) g 4)) ((hM_5.2.1 g (by omega)).1 4 (by first | decide | omega)) ?_
        refine zr_iconst (v := (1 : Int32)) X dX8_passes_82 (by decide) ?_
        refine zr_iadd X dX8_passes_83 ?_
        refine zr_iastN X rfl (show _ < 310 from (by first | assumption | omega)) dX8_passes_84 ?_
        have hM_6 : zMd _ (a) (tG (tX (qGoes S g 0) 11 ((sX (qGoes S g 0) 11) + (1 : Int32))) g 4 ((sG (tX (qGoes S g 0) 11 ((sX (qGoes S g 0) 11) + (1 : Int32))) g 4) + (1 : Int32))) := zMd_G hM_5 (g := g) (j := 4) (v := ((sG (tX (qGoes S g 0) 11 ((sX (qGoes S g 0) 11) + (1 : Int32))) g 4) + (1 : Int32))) (by omega) (by first | decide | omega)
        refine zr_aload0 X dX8_passes_85 ?_
        refine zr_iload1 X dX8_passes_86 ?_
        refine zr_iconst (v := (1 : Int32)) X dX8_passes_87 (by decide) ?_
        refine zr_callS2 (rm9 := zrm_X8_gateAt) X hnt zm_X8_34 (by decide) (by decide) (by decide) (Nat.le_of_ble_eq_true rfl) dX8_passes_88 ?_
        refine zn_X8_gateAt (g := g) (w := 1) ?_
        refine zr_dup2 X dX8_passes_91 ?_
        refine zr_ialdN (n := 16 + 29 * g + 1) X rfl (show _ < 310 from (by first | assumption | omega | decide)) dX8_passes_92 ?_
        refine zr_eq (x2 := (sG (tG (tX (qGoes S g 0) 11 ((sX (qGoes S g 0) 11) + (1 : Int32))) g 4 ((sG (tX (qGoes S g 0) 11 ((sX (qGoes S g 0) 11) + (1 : Int32))) g 4) + (1 : Int32))) g 1)) ((hM_6.2.1 g (by omega)).1 1 (by first | decide | omega)) ?_
        refine zr_iconst (v := (1 : Int32)) X dX8_passes_93 (by decide) ?_
        refine zr_isub X dX8_passes_94 ?_
        refine zr_iastN X rfl (show _ < 310 from (by first | assumption | omega)) dX8_passes_95 ?_
        have hM_7 : zMd _ (a) (tG (tG (tX (qGoes S g 0) 11 ((sX (qGoes S g 0) 11) + (1 : Int32))) g 4 ((sG (tX (qGoes S g 0) 11 ((sX (qGoes S g 0) 11) + (1 : Int32))) g 4) + (1 : Int32))) g 1 ((sG (tG (tX (qGoes S g 0) 11 ((sX (qGoes S g 0) 11) + (1 : Int32))) g 4 ((sG (tX (qGoes S g 0) 11 ((sX (qGoes S g 0) 11) + (1 : Int32))) g 4) + (1 : Int32))) g 1) - (1 : Int32))) := zMd_G hM_6 (g := g) (j := 1) (v := ((sG (tG (tX (qGoes S g 0) 11 ((sX (qGoes S g 0) 11) + (1 : Int32))) g 4 ((sG (tX (qGoes S g 0) 11 ((sX (qGoes S g 0) 11) + (1 : Int32))) g 4) + (1 : Int32))) g 1) - (1 : Int32))) (by omega) (by first | decide | omega)
        refine zr_aload0 X dX8_passes_96 ?_
        refine zr_iload1 X dX8_passes_97 ?_
        refine zr_iconst (v := (1 : Int32)) X dX8_passes_98 (by decide) ?_
        refine zr_callS2 (rm9 := zrm_X8_gateAt) X hnt zm_X8_34 (by decide) (by decide) (by decide) (Nat.le_of_ble_eq_true rfl) dX8_passes_99 ?_
        refine zn_X8_gateAt (g := g) (w := 1) ?_
        refine zr_ialdN (n := 16 + 29 * g + 1) X rfl (show _ < 310 from (by first | assumption | omega | decide)) dX8_passes_102 ?_
        refine zr_eq (x2 := (sG (tG (tG (tX (qGoes S g 0) 11 ((sX (qGoes S g 0) 11) + (1 : Int32))) g 4 ((sG (tX (qGoes S g 0) 11 ((sX (qGoes S g 0) 11) + (1 : Int32))) g 4) + (1 : Int32))) g 1 ((sG (tG (tX (qGoes S g 0) 11 ((sX (qGoes S g 0) 11) + (1 : Int32))) g 4 ((sG (tX (qGoes S g 0) 11 ((sX (qGoes S g 0) 11) + (1 : Int32))) g 4) + (1 : Int32))) g 1) - (1 : Int32))) g 1)) ((hM_7.2.1 g (by omega)).1 1 (by first | decide | omega)) ?_
        refine zr_if_ne (tgt := 114) X dX8_passes_103 (by decide) (fun h6 => ?_) (fun h6 => ?_)
        · skip
          refine zr_vret X (by decide) (by decide) dX8_passes_114 ?_
          refine k1 _ (by repeat (first | exact zag.rf | assumption | refine zag.put ?_ (by omega) (by omega) | refine zag.tr ?_ (by assumption) (by omega) (by omega))) ?_
          have e9 : qSide S g = 0 := by simp [qSide, k2]
          refine cast (congrArg (zMd _ a) ?_) hM_7
          refine Eq.trans (zlessN h6) ?_
          rw [qPass, if_neg h1, e9, if_pos ⟨fun z => by rw [z] at h2; exact absurd h2 (by simp), h4⟩]; rfl
        · skip
          refine zr_aload0 X dX8_passes_106 ?_
          refine zr_iload1 X dX8_passes_107 ?_
          refine zr_iconst (v := (2 : Int32)) X dX8_passes_108 (by decide) ?_
          refine zr_callS2 (rm9 := zrm_X8_gateAt) X hnt zm_X8_34 (by decide) (by decide) (by decide) (Nat.le_of_ble_eq_true rfl) dX8_passes_109 ?_
          refine zn_X8_gateAt (g := g) (w := 2) ?_
          refine zr_iconst (v := (0 : Int32)) X dX8_passes_112 (by decide) ?_
          refine zr_iastN X rfl (show _ < 310 from (by first | assumption | omega)) dX8_passes_113 ?_
          have hM_8 : zMd _ (a) (tG (tG (tG (tX (qGoes S g 0) 11 ((sX (qGoes S g 0) 11) + (1 : Int32))) g 4 ((sG (tX (qGoes S g 0) 11 ((sX (qGoes S g 0) 11) + (1 : Int32))) g 4) + (1 : Int32))) g 1 ((sG (tG (tX (qGoes S g 0) 11 ((sX (qGoes S g 0) 11) + (1 : Int32))) g 4 ((sG (tX (qGoes S g 0) 11 ((sX (qGoes S g 0) 11) + (1 : Int32))) g 4) + (1 : Int32))) g 1) - (1 : Int32))) g 2 (0 : Int32)) := zMd_G hM_7 (g := g) (j := 2) (v := (0 : Int32)) (by omega) (by first | decide | omega)
          refine zr_vret X (by decide) (by decide) dX8_passes_114 ?_
          refine k1 _ (by repeat (first | exact zag.rf | assumption | refine zag.put ?_ (by omega) (by omega) | refine zag.tr ?_ (by assumption) (by omega) (by omega))) ?_
          have e9 : qSide S g = 0 := by simp [qSide, k2]
          refine cast (congrArg (zMd _ a) ?_) hM_8
          refine Eq.trans (zlessM h6) ?_
          rw [qPass, if_neg h1, e9, if_pos ⟨fun z => by rw [z] at h2; exact absurd h2 (by simp), h4⟩]; rfl
  · skip
    refine zr_aload0 X dX8_passes_21 ?_
    refine zr_iload1 X dX8_passes_22 ?_
    refine zr_iload2 X dX8_passes_23 ?_
    refine zr_iconst (v := (1 : Int32)) X dX8_passes_24 (by decide) ?_
    refine zr_callS4 (rm9 := zrm_X8_goes) X hnt zm_X8_74 (by decide) (by decide) (by decide) (Nat.le_of_ble_eq_true rfl) dX8_passes_25 ?_
    refine zq01_X8_goes (g := g) hM (by omega) (by first | omega | (rcases k3 with k3 | k3; exact absurd (show (0 : Int32) = 1 from k3.symm.trans (by assumption)) (by decide); exact List.length_pos_iff.mpr k3.2)) (hw) ?_
    intro J4 hg5 hM6
    refine zr_aload0 X dX8_passes_28 ?_
    refine zr_iload1 X dX8_passes_29 ?_
    refine zr_iconst (v := (3 : Int32)) X dX8_passes_30 (by decide) ?_
    refine zr_callS2 (rm9 := zrm_X8_gateAt) X hnt zm_X8_34 (by decide) (by decide) (by decide) (Nat.le_of_ble_eq_true rfl) dX8_passes_31 ?_
    refine zn_X8_gateAt (g := g) (w := 3) ?_
    refine zr_iconst (v := (0 : Int32)) X dX8_passes_34 (by decide) ?_
    refine zr_iastN X rfl (show _ < 310 from (by first | assumption | omega)) dX8_passes_35 ?_
    have hM_9 : zMd _ (a) (tG (qGoes S g 0) g 3 (0 : Int32)) := zMd_G hM6 (g := g) (j := 3) (v := (0 : Int32)) (by omega) (by first | decide | omega)
    refine zr_goto (tgt := 85) X dX8_passes_36 (by decide) ?_
    refine zr_aload0 X dX8_passes_85 ?_
    refine zr_iload1 X dX8_passes_86 ?_
    refine zr_iconst (v := (1 : Int32)) X dX8_passes_87 (by decide) ?_
    refine zr_callS2 (rm9 := zrm_X8_gateAt) X hnt zm_X8_34 (by decide) (by decide) (by decide) (Nat.le_of_ble_eq_true rfl) dX8_passes_88 ?_
    refine zn_X8_gateAt (g := g) (w := 1) ?_
    refine zr_dup2 X dX8_passes_91 ?_
    refine zr_ialdN (n := 16 + 29 * g + 1) X rfl (show _ < 310 from (by first | assumption | omega | decide)) dX8_passes_92 ?_
    refine zr_eq (x2 := (sG (tG (qGoes S g 0) g 3 (0 : Int32)) g 1)) ((hM_9.2.1 g (by omega)).1 1 (by first | decide | omega)) ?_
    refine zr_iconst (v := (1 : Int32)) X dX8_passes_93 (by decide) ?_
    refine zr_isub X dX8_passes_94 ?_
    refine zr_iastN X rfl (show _ < 310 from (by first | assumption | omega)) dX8_passes_95 ?_
    have hM_10 : zMd _ (a) (tG (tG (qGoes S g 0) g 3 (0 : Int32)) g 1 ((sG (tG (qGoes S g 0) g 3 (0 : Int32)) g 1) - (1 : Int32))) := zMd_G hM_9 (g := g) (j := 1) (v := ((sG (tG (qGoes S g 0) g 3 (0 : Int32)) g 1) - (1 : Int32))) (by omega) (by first | decide | omega)
    refine zr_aload0 X dX8_passes_96 ?_
    refine zr_iload1 X dX8_passes_97 ?_
    refine zr_iconst (v := (1 : Int32)) X dX8_passes_98 (by decide) ?_
    refine zr_callS2 (rm9 := zrm_X8_gateAt) X hnt zm_X8_34 (by decide) (by decide) (by decide) (Nat.le_of_ble_eq_true rfl) dX8_passes_99 ?_
    refine zn_X8_gateAt (g := g) (w := 1) ?_
    refine zr_ialdN (n := 16 + 29 * g + 1) X rfl (show _ < 310 from (by first | assumption | omega | decide)) dX8_passes_102 ?_
    refine zr_eq (x2 := (sG (tG (tG (qGoes S g 0) g 3 (0 : Int32)) g 1 ((sG (tG (qGoes S g 0) g 3 (0 : Int32)) g 1) - (1 : Int32))) g 1)) ((hM_10.2.1 g (by omega)).1 1 (by first | decide | omega)) ?_
    refine zr_if_ne (tgt := 114) X dX8_passes_103 (by decide) (fun h7 => ?_) (fun h7 => ?_)
    · skip
      refine zr_vret X (by decide) (by decide) dX8_passes_114 ?_
      refine k1 _ (by repeat (first | exact zag.rf | assumption | refine zag.put ?_ (by omega) (by omega) | refine zag.tr ?_ (by assumption) (by omega) (by omega))) ?_
      have e9 : qSide S g = 0 := by simp [qSide, k2]
      refine cast (congrArg (zMd _ a) ?_) hM_10
      refine Eq.trans (zlessN h7) ?_
      rw [qPass, if_pos h1, e9]
    · skip
      refine zr_aload0 X dX8_passes_106 ?_
      refine zr_iload1 X dX8_passes_107 ?_
      refine zr_iconst (v := (2 : Int32)) X dX8_passes_108 (by decide) ?_
      refine zr_callS2 (rm9 := zrm_X8_gateAt) X hnt zm_X8_34 (by decide) (by decide) (by decide) (Nat.le_of_ble_eq_true rfl) dX8_passes_109 ?_
      refine zn_X8_gateAt (g := g) (w := 2) ?_
      refine zr_iconst (v := (0 : Int32)) X dX8_passes_112 (by decide) ?_
      refine zr_iastN X rfl (show _ < 310 from (by first | assumption | omega)) dX8_passes_113 ?_
      have hM_11 : zMd _ (a) (tG (tG (tG (qGoes S g 0) g 3 (0 : Int32)) g 1 ((sG (tG (qGoes S g 0) g 3 (0 : Int32)) g 1) - (1 : Int32))) g 2 (0 : Int32)) := zMd_G hM_10 (g := g) (j := 2) (v := (0 : Int32)) (by omega) (by first | decide | omega)
      refine zr_vret X (by decide) (by decide) dX8_passes_114 ?_
      refine k1 _ (by repeat (first | exact zag.rf | assumption | refine zag.put ?_ (by omega) (by omega) | refine zag.tr ?_ (by assumption) (by omega) (by omega))) ?_
      have e9 : qSide S g = 0 := by simp [qSide, k2]
      refine cast (congrArg (zMd _ a) ?_) hM_11
      refine Eq.trans (zlessM h7) ?_
      rw [qPass, if_pos h1, e9]
set_option maxRecDepth 20000 in
theorem zp1_X8_passes {l : Launch} {D : va_G} {b0 : Nat} {tA : Nat → ClassId} {sa sv : Nat → Nat} {K : Nat → Option Nat} {I : zI} {Qp : zI → Option AV → Prop} {Xp : String → zI → Prop} {a g : Nat} {S : zS}
    (hM : zMd I a S) (hg : g < 6) (hw : ∀ y ∈ (sL S g 1), y ≤ 12) (k2 : sG S g 2 = 2) (k3 : sG S g 3 = 0 ∨ (sG S g 3 = 1 ∧ (sL S g 1) ≠ [])) (k1 : ∀ J : zI, zag I J a 1 → zMd J a (qPass S g) → Qp J none) :
    zC l D b0 tA sa sv K yX8_passes (.code yX8_passes cX8_passes 3 none) zrm_X8_passes [vr (a) 15, vi ((nI g))] I Qp Xp := by
  have hl9 := hM.len hg (show 1 < 2 by decide)
  have hz9 := zgd12 hw 0
  refine zC_of (by decide +kernel) (Nat.le_of_ble_eq_true rfl) ?_
  intro p e s m args below meth c X hnt
  have X : zX p l e zrm_X8_passes s m args below meth c RX8 cX8_passes 3 none D b0 tA sa sv := X
  refine zr_lv (lv2 := [some (vr (a) 15), some (vi ((nI g))), none]) rfl ?_
  refine zr_aload0 X dX8_passes_0 ?_
  refine zr_iload1 X dX8_passes_1 ?_
  refine zr_iconst (v := (2 : Int32)) X dX8_passes_2 (by decide) ?_
  refine zr_callS2 (rm9 := zrm_X8_gateAt) X hnt zm_X8_34 (by decide) (by decide) (by decide) (Nat.le_of_ble_eq_true rfl) dX8_passes_3 ?_
  refine zn_X8_gateAt (g := g) (w := 2) ?_
  refine zr_ialdN (n := 16 + 29 * g + 2) X rfl (show _ < 310 from (by first | assumption | omega | decide)) dX8_passes_6 ?_
  refine zr_eq (x2 := (sG S g 2)) ((hM.2.1 g (by omega)).1 2 (by first | decide | omega)) ?_
  refine zr_iconst (v := (1 : Int32)) X dX8_passes_7 (by decide) ?_
  refine zr_isub X dX8_passes_8 ?_
  refine zr_eq (x2 := (1 : Int32)) (by rw [k2]; rfl) ?_
  refine zr_istore2 X (by decide) rfl dX8_passes_9 ?_
  refine zr_aload0 X dX8_passes_10 ?_
  refine zr_iload1 X dX8_passes_11 ?_
  refine zr_iconst (v := (3 : Int32)) X dX8_passes_12 (by decide) ?_
  refine zr_callS2 (rm9 := zrm_X8_gateAt) X hnt zm_X8_34 (by decide) (by decide) (by decide) (Nat.le_of_ble_eq_true rfl) dX8_passes_13 ?_
  refine zn_X8_gateAt (g := g) (w := 3) ?_
  refine zr_ialdN (n := 16 + 29 * g + 3) X rfl (show _ < 310 from (by first | assumption | omega | decide)) dX8_passes_16 ?_
  refine zr_eq (x2 := (sG S g 3)) ((hM.2.1 g (by omega)).1 3 (by first | decide | omega)) ?_
  refine zr_iconst (v := (1 : Int32)) X dX8_passes_17 (by decide) ?_
  refine zr_icmp_ne (tgt := 39) X dX8_passes_18 (by decide) (fun h1 => ?_) (fun h1 => ?_)
  · skip
    refine zr_aload0 X dX8_passes_39 ?_
    refine zr_iload1 X dX8_passes_40 ?_
    refine zr_iload2 X dX8_passes_41 ?_
    refine zr_callS3 (rm9 := zrm_X8_many) X hnt zm_X8_38 (by decide) (by decide) (by decide) (Nat.le_of_ble_eq_true rfl) dX8_passes_42 ?_
    refine zn_X8_many (g := g) (s9 := 1) hM (by omega) (by omega) ?_
    refine zr_nif_le X (((sL S g 1).length)) (tgt := 85) (by omega) dX8_passes_45 (by decide) (fun h2 => ?_) (fun h2 => ?_)
    · skip
      refine zr_aload0 X dX8_passes_85 ?_
      refine zr_iload1 X dX8_passes_86 ?_
      refine zr_iconst (v := (1 : Int32)) X dX8_passes_87 (by decide) ?_
      refine zr_callS2 (rm9 := zrm_X8_gateAt) X hnt zm_X8_34 (by decide) (by decide) (by decide) (Nat.le_of_ble_eq_true rfl) dX8_passes_88 ?_
      refine zn_X8_gateAt (g := g) (w := 1) ?_
      refine zr_dup2 X dX8_passes_91 ?_
      refine zr_ialdN (n := 16 + 29 * g + 1) X rfl (show _ < 310 from (by first | assumption | omega | decide)) dX8_passes_92 ?_
      refine zr_eq (x2 := (sG S g 1)) ((hM.2.1 g (by omega)).1 1 (by first | decide | omega)) ?_
      refine zr_iconst (v := (1 : Int32)) X dX8_passes_93 (by decide) ?_
      refine zr_isub X dX8_passes_94 ?_
      refine zr_iastN X rfl (show _ < 310 from (by first | assumption | omega)) dX8_passes_95 ?_
      have hM_1 : zMd _ (a) (tG S g 1 ((sG S g 1) - (1 : Int32))) := zMd_G hM (g := g) (j := 1) (v := ((sG S g 1) - (1 : Int32))) (by omega) (by first | decide | omega)
      refine zr_aload0 X dX8_passes_96 ?_
      refine zr_iload1 X dX8_passes_97 ?_
      refine zr_iconst (v := (1 : Int32)) X dX8_passes_98 (by decide) ?_
      refine zr_callS2 (rm9 := zrm_X8_gateAt) X hnt zm_X8_34 (by decide) (by decide) (by decide) (Nat.le_of_ble_eq_true rfl) dX8_passes_99 ?_
      refine zn_X8_gateAt (g := g) (w := 1) ?_
      refine zr_ialdN (n := 16 + 29 * g + 1) X rfl (show _ < 310 from (by first | assumption | omega | decide)) dX8_passes_102 ?_
      refine zr_eq (x2 := (sG (tG S g 1 ((sG S g 1) - (1 : Int32))) g 1)) ((hM_1.2.1 g (by omega)).1 1 (by first | decide | omega)) ?_
      refine zr_if_ne (tgt := 114) X dX8_passes_103 (by decide) (fun h3 => ?_) (fun h3 => ?_)
      · skip
        refine zr_vret X (by decide) (by decide) dX8_passes_114 ?_
        refine k1 _ (by repeat (first | exact zag.rf | assumption | refine zag.put ?_ (by omega) (by omega) | refine zag.tr ?_ (by assumption) (by omega) (by omega))) ?_
        have e9 : qSide S g = 1 := by simp [qSide, k2]
        refine cast (congrArg (zMd _ a) ?_) hM_1
        refine Eq.trans (zlessN h3) ?_
        rw [qPass, if_neg h1, e9, if_neg (fun z => absurd (List.length_pos_iff.mpr z.1) (by omega))]
      · skip
        refine zr_aload0 X dX8_passes_106 ?_
        refine zr_iload1 X dX8_passes_107 ?_
        refine zr_iconst (v := (2 : Int32)) X dX8_passes_108 (by decide) ?_
        refine zr_callS2 (rm9 := zrm_X8_gateAt) X hnt zm_X8_34 (by decide) (by decide) (by decide) (Nat.le_of_ble_eq_true rfl) dX8_passes_109 ?_
        refine zn_X8_gateAt (g := g) (w := 2) ?_
        refine zr_iconst (v := (0 : Int32)) X dX8_passes_112 (by decide) ?_
        refine zr_iastN X rfl (show _ < 310 from (by first | assumption | omega)) dX8_passes_113 ?_
        have hM_2 : zMd _ (a) (tG (tG S g 1 ((sG S g 1) - (1 : Int32))) g 2 (0 : Int32)) := zMd_G hM_1 (g := g) (j := 2) (v := (0 : Int32)) (by omega) (by first | decide | omega)
        refine zr_vret X (by decide) (by decide) dX8_passes_114 ?_
        refine k1 _ (by repeat (first | exact zag.rf | assumption | refine zag.put ?_ (by omega) (by omega) | refine zag.tr ?_ (by assumption) (by omega) (by omega))) ?_
        have e9 : qSide S g = 1 := by simp [qSide, k2]
        refine cast (congrArg (zMd _ a) ?_) hM_2
        refine Eq.trans (zlessM h3) ?_
        rw [qPass, if_neg h1, e9, if_neg (fun z => absurd (List.length_pos_iff.mpr z.1) (by omega))]
    · skip
      refine zr_aload0 X dX8_passes_48 ?_
      refine zr_iload1 X dX8_passes_49 ?_
      refine zr_iload2 X dX8_passes_50 ?_
      refine zr_iconst (v := (0 : Int32)) X dX8_passes_51 (by decide) ?_
      refine zr_callS3 (rm9 := zrm_X8_placeAt) X hnt zm_X8_42 (by decide) (by decide) (by decide) (Nat.le_of_ble_eq_true rfl) dX8_passes_52 ?_
      refine zn_X8_placeAt (g := g) (s9 := 1) (k9 := 0) ?_
      refine zr_ialdN (n := 16 + 29 * g + (9 + 10 * 1 + 0)) X rfl (show _ < 310 from (by first | assumption | omega | decide)) dX8_passes_55 ?_
      refine zr_eq (x2 := (nI ((sL S g 1).getD 0 0))) (((hM.2.1 g (by omega)).2 1 (by omega)).2.2 0 (by first | assumption | omega)) ?_
      refine zr_nif_ne X (((sL S g 1).getD 0 0)) (tgt := 85) (by omega) dX8_passes_56 (by decide) (fun h4 => ?_) (fun h4 => ?_)
      · skip
        refine zr_aload0 X dX8_passes_85 ?_
        refine zr_iload1 X dX8_passes_86 ?_
        refine zr_iconst (v := (1 : Int32)) X dX8_passes_87 (by decide) ?_
        refine zr_callS2 (rm9 := zrm_X8_gateAt) X hnt zm_X8_34 (by decide) (by decide) (by decide) (Nat.le_of_ble_eq_true rfl) dX8_passes_88 ?_
        refine zn_X8_gateAt (g := g) (w := 1) ?_
        refine zr_dup2 X dX8_passes_91 ?_
        refine zr_ialdN (n := 16 + 29 * g + 1) X rfl (show _ < 310 from (by first | assumption | omega | decide)) dX8_passes_92 ?_
        refine zr_eq (x2 := (sG S g 1)) ((hM.2.1 g (by omega)).1 1 (by first | decide | omega)) ?_
        refine zr_iconst (v := (1 : Int32)) X dX8_passes_93 (by decide) ?_
        refine zr_isub X dX8_passes_94 ?_
        refine zr_iastN X rfl (show _ < 310 from (by first | assumption | omega)) dX8_passes_95 ?_
        have hM_3 : zMd _ (a) (tG S g 1 ((sG S g 1) - (1 : Int32))) := zMd_G hM (g := g) (j := 1) (v := ((sG S g 1) - (1 : Int32))) (by omega) (by first | decide | omega)
        refine zr_aload0 X dX8_passes_96 ?_
        refine zr_iload1 X dX8_passes_97 ?_
        refine zr_iconst (v := (1 : Int32)) X dX8_passes_98 (by decide) ?_
        refine zr_callS2 (rm9 := zrm_X8_gateAt) X hnt zm_X8_34 (by decide) (by decide) (by decide) (Nat.le_of_ble_eq_true rfl) dX8_passes_99 ?_
        refine zn_X8_gateAt (g := g) (w := 1) ?_
        refine zr_ialdN (n := 16 + 29 * g + 1) X rfl (show _ < 310 from (by first | assumption | omega | decide)) dX8_passes_102 ?_
        refine zr_eq (x2 := (sG (tG S g 1 ((sG S g 1) - (1 : Int32))) g 1)) ((hM_3.2.1 g (by omega)).1 1 (by first | decide | omega)) ?_
        refine zr_if_ne (tgt := 114) X dX8_passes_103 (by decide) (fun h5 => ?_) (fun h5 => ?_)
        · skip
          refine zr_vret X (by decide) (by decide) dX8_passes_114 ?_
          refine k1 _ (by repeat (first | exact zag.rf | assumption | refine zag.put ?_ (by omega) (by omega) | refine zag.tr ?_ (by assumption) (by omega) (by omega))) ?_
          have e9 : qSide S g = 1 := by simp [qSide, k2]
          refine cast (congrArg (zMd _ a) ?_) hM_3
          refine Eq.trans (zlessN h5) ?_
          rw [qPass, if_neg h1, e9, if_neg (fun z => absurd z.2 h4)]
        · skip
          refine zr_aload0 X dX8_passes_106 ?_
          refine zr_iload1 X dX8_passes_107 ?_
          refine zr_iconst (v := (2 : Int32)) X dX8_passes_108 (by decide) ?_
          refine zr_callS2 (rm9 := zrm_X8_gateAt) X hnt zm_X8_34 (by decide) (by decide) (by decide) (Nat.le_of_ble_eq_true rfl) dX8_passes_109 ?_
          refine zn_X8_gateAt (g := g) (w := 2) ?_
          refine zr_iconst (v := (0 : Int32)) X dX8_passes_112 (by decide) ?_
          refine zr_iastN X rfl (show _ < 310 from (by first | assumption | omega)) dX8_passes_113 ?_
          have hM_4 : zMd _ (a) (tG (tG S g 1 ((sG S g 1) - (1 : Int32))) g 2 (0 : Int32)) := zMd_G hM_3 (g := g) (j := 2) (v := (0 : Int32)) (by omega) (by first | decide | omega)
          refine zr_vret X (by decide) (by decide) dX8_passes_114 ?_
          refine k1 _ (by repeat (first | exact zag.rf | assumption | refine zag.put ?_ (by omega) (by omega) | refine zag.tr ?_ (by assumption) (by omega) (by omega))) ?_
          have e9 : qSide S g = 1 := by simp [qSide, k2]
          refine cast (congrArg (zMd _ a) ?_) hM_4
          refine Eq.trans (zlessM h5) ?_
          rw [qPass, if_neg h1, e9, if_neg (fun z => absurd z.2 h4)]
      · skip
        refine zr_aload0 X dX8_passes_59 ?_
        refine zr_iload1 X dX8_passes_60 ?_
        refine zr_iload2 X dX8_passes_61 ?_
        refine zr_iconst (v := (1 : Int32)) X dX8_passes_62 (by decide) ?_
        refine zr_callS4 (rm9 := zrm_X8_goes) X hnt zm_X8_74 (by decide) (by decide) (by decide) (Nat.le_of_ble_eq_true rfl) dX8_passes_63 ?_
        refine zq11_X8_goes (g := g) hM (by omega) (by first | omega | (rcases k3 with k3 | k3; exact absurd (show (0 : Int32) = 1 from k3.symm.trans (by assumption)) (by decide); exact List.length_pos_iff.mpr k3.2)) (hw) ?_
        intro J1 hg2 hM3
        refine zr_aload0 X dX8_passes_66 ?_
        refine zr_bipush (v := (11 : Int32)) X dX8_passes_67 (by decide) ?_
        refine zr_dup2 X dX8_passes_69 ?_
        refine zr_ialdN (n := 11) X rfl (show _ < 310 from (by first | assumption | omega | decide)) dX8_passes_70 ?_
        refine zr_eq (x2 := (sX (qGoes S g 1) 11)) (hM3.1 11 (by decide)) ?_
        refine zr_iconst (v := (1 : Int32)) X dX8_passes_71 (by decide) ?_
        refine zr_iadd X dX8_passes_72 ?_
        refine zr_iastN (n := 11) X rfl (by decide) dX8_passes_73 ?_
        have hM_5 : zMd _ (a) (tX (qGoes S g 1) 11 ((sX (qGoes S g 1) 11) + (1 : Int32))) := zMd_X hM3 (i := 11) (v := ((sX (qGoes S g 1) 11) + (1 : Int32))) (by decide)
        refine zr_aload0 X dX8_passes_74 ?_
        refine zr_iload1 X dX8_passes_75 ?_
        refine zr_iconst (v := (4 : Int32)) X dX8_passes_76 (by decide) ?_
        refine zr_callS2 (rm9 := zrm_X8_gateAt) X hnt zm_X8_34 (by decide) (by decide) (by decide) (Nat.le_of_ble_eq_true rfl) dX8_passes_77 ?_
        refine zn_X8_gateAt (g := g) (w := 4) ?_
        refine zr_dup2 X dX8_passes_80 ?_
        refine zr_ialdN (n := 16 + 29 * g + 4) X rfl (show _ < 310 from (by first | assumption | omega | decide)) dX8_passes_81 ?_
        refine zr_eq (x2 := (sG (tX (qGoes S g 1) 11 ((sX (qGoes S g 1) 11) + (1 : Int32))) g 4)) ((hM_5.2.1 g (by omega)).1 4 (by first | decide | omega)) ?_
        refine zr_iconst (v := (1 : Int32)) X dX8_passes_82 (by decide) ?_
        refine zr_iadd X dX8_passes_83 ?_
        refine zr_iastN X rfl (show _ < 310 from (by first | assumption | omega)) dX8_passes_84 ?_
        have hM_6 : zMd _ (a) (tG (tX (qGoes S g 1) 11 ((sX (qGoes S g 1) 11) + (1 : Int32))) g 4 ((sG (tX (qGoes S g 1) 11 ((sX (qGoes S g 1) 11) + (1 : Int32))) g 4) + (1 : Int32))) := zMd_G hM_5 (g := g) (j := 4) (v := ((sG (tX (qGoes S g 1) 11 ((sX (qGoes S g 1) 11) + (1 : Int32))) g 4) + (1 : Int32))) (by omega) (by first | decide | omega)
        refine zr_aload0 X dX8_passes_85 ?_
        refine zr_iload1 X dX8_passes_86 ?_
        refine zr_iconst (v := (1 : Int32)) X dX8_passes_87 (by decide) ?_
        refine zr_callS2 (rm9 := zrm_X8_gateAt) X hnt zm_X8_34 (by decide) (by decide) (by decide) (Nat.le_of_ble_eq_true rfl) dX8_passes_88 ?_
        refine zn_X8_gateAt (g := g) (w := 1) ?_
        refine zr_dup2 X dX8_passes_91 ?_
        refine zr_ialdN (n := 16 + 29 * g + 1) X rfl (show _ < 310 from (by first | assumption | omega | decide)) dX8_passes_92 ?_
        refine zr_eq (x2 := (sG (tG (tX (qGoes S g 1) 11 ((sX (qGoes S g 1) 11) + (1 : Int32))) g 4 ((sG (tX (qGoes S g 1) 11 ((sX (qGoes S g 1) 11) + (1 : Int32))) g 4) + (1 : Int32))) g 1)) ((hM_6.2.1 g (by omega)).1 1 (by first | decide | omega)) ?_
        refine zr_iconst (v := (1 : Int32)) X dX8_passes_93 (by decide) ?_
        refine zr_isub X dX8_passes_94 ?_
        refine zr_iastN X rfl (show _ < 310 from (by first | assumption | omega)) dX8_passes_95 ?_
        have hM_7 : zMd _ (a) (tG (tG (tX (qGoes S g 1) 11 ((sX (qGoes S g 1) 11) + (1 : Int32))) g 4 ((sG (tX (qGoes S g 1) 11 ((sX (qGoes S g 1) 11) + (1 : Int32))) g 4) + (1 : Int32))) g 1 ((sG (tG (tX (qGoes S g 1) 11 ((sX (qGoes S g 1) 11) + (1 : Int32))) g 4 ((sG (tX (qGoes S g 1) 11 ((sX (qGoes S g 1) 11) + (1 : Int32))) g 4) + (1 : Int32))) g 1) - (1 : Int32))) := zMd_G hM_6 (g := g) (j := 1) (v := ((sG (tG (tX (qGoes S g 1) 11 ((sX (qGoes S g 1) 11) + (1 : Int32))) g 4 ((sG (tX (qGoes S g 1) 11 ((sX (qGoes S g 1) 11) + (1 : Int32))) g 4) + (1 : Int32))) g 1) - (1 : Int32))) (by omega) (by first | decide | omega)
        refine zr_aload0 X dX8_passes_96 ?_
        refine zr_iload1 X dX8_passes_97 ?_
        refine zr_iconst (v := (1 : Int32)) X dX8_passes_98 (by decide) ?_
        refine zr_callS2 (rm9 := zrm_X8_gateAt) X hnt zm_X8_34 (by decide) (by decide) (by decide) (Nat.le_of_ble_eq_true rfl) dX8_passes_99 ?_
        refine zn_X8_gateAt (g := g) (w := 1) ?_
        refine zr_ialdN (n := 16 + 29 * g + 1) X rfl (show _ < 310 from (by first | assumption | omega | decide)) dX8_passes_102 ?_
        refine zr_eq (x2 := (sG (tG (tG (tX (qGoes S g 1) 11 ((sX (qGoes S g 1) 11) + (1 : Int32))) g 4 ((sG (tX (qGoes S g 1) 11 ((sX (qGoes S g 1) 11) + (1 : Int32))) g 4) + (1 : Int32))) g 1 ((sG (tG (tX (qGoes S g 1) 11 ((sX (qGoes S g 1) 11) + (1 : Int32))) g 4 ((sG (tX (qGoes S g 1) 11 ((sX (qGoes S g 1) 11) + (1 : Int32))) g 4) + (1 : Int32))) g 1) - (1 : Int32))) g 1)) ((hM_7.2.1 g (by omega)).1 1 (by first | decide | omega)) ?_
        refine zr_if_ne (tgt := 114) X dX8_passes_103 (by decide) (fun h6 => ?_) (fun h6 => ?_)
        · skip
          refine zr_vret X (by decide) (by decide) dX8_passes_114 ?_
          refine k1 _ (by repeat (first | exact zag.rf | assumption | refine zag.put ?_ (by omega) (by omega) | refine zag.tr ?_ (by assumption) (by omega) (by omega))) ?_
          have e9 : qSide S g = 1 := by simp [qSide, k2]
          refine cast (congrArg (zMd _ a) ?_) hM_7
          refine Eq.trans (zlessN h6) ?_
          rw [qPass, if_neg h1, e9, if_pos ⟨fun z => by rw [z] at h2; exact absurd h2 (by simp), h4⟩]; rfl
        · skip
          refine zr_aload0 X dX8_passes_106 ?_
          refine zr_iload1 X dX8_passes_107 ?_
          refine zr_iconst (v := (2 : Int32)) X dX8_passes_108 (by decide) ?_
          refine zr_callS2 (rm9 := zrm_X8_gateAt) X hnt zm_X8_34 (by decide) (by decide) (by decide) (Nat.le_of_ble_eq_true rfl) dX8_passes_109 ?_
          refine zn_X8_gateAt (g := g) (w := 2) ?_
          refine zr_iconst (v := (0 : Int32)) X dX8_passes_112 (by decide) ?_
          refine zr_iastN X rfl (show _ < 310 from (by first | assumption | omega)) dX8_passes_113 ?_
          have hM_8 : zMd _ (a) (tG (tG (tG (tX (qGoes S g 1) 11 ((sX (qGoes S g 1) 11) + (1 : Int32))) g 4 ((sG (tX (qGoes S g 1) 11 ((sX (qGoes S g 1) 11) + (1 : Int32))) g 4) + (1 : Int32))) g 1 ((sG (tG (tX (qGoes S g 1) 11 ((sX (qGoes S g 1) 11) + (1 : Int32))) g 4 ((sG (tX (qGoes S g 1) 11 ((sX (qGoes S g 1) 11) + (1 : Int32))) g 4) + (1 : Int32))) g 1) - (1 : Int32))) g 2 (0 : Int32)) := zMd_G hM_7 (g := g) (j := 2) (v := (0 : Int32)) (by omega) (by first | decide | omega)
          refine zr_vret X (by decide) (by decide) dX8_passes_114 ?_
          refine k1 _ (by repeat (first | exact zag.rf | assumption | refine zag.put ?_ (by omega) (by omega) | refine zag.tr ?_ (by assumption) (by omega) (by omega))) ?_
          have e9 : qSide S g = 1 := by simp [qSide, k2]
          refine cast (congrArg (zMd _ a) ?_) hM_8
          refine Eq.trans (zlessM h6) ?_
          rw [qPass, if_neg h1, e9, if_pos ⟨fun z => by rw [z] at h2; exact absurd h2 (by simp), h4⟩]; rfl
  · skip
    refine zr_aload0 X dX8_passes_21 ?_
    refine zr_iload1 X dX8_passes_22 ?_
    refine zr_iload2 X dX8_passes_23 ?_
    refine zr_iconst (v := (1 : Int32)) X dX8_passes_24 (by decide) ?_
    refine zr_callS4 (rm9 := zrm_X8_goes) X hnt zm_X8_74 (by decide) (by decide) (by decide) (Nat.le_of_ble_eq_true rfl) dX8_passes_25 ?_
    refine zq11_X8_goes (g := g) hM (by omega) (by first | omega | (rcases k3 with k3 | k3; exact absurd (show (0 : Int32) = 1 from k3.symm.trans (by assumption)) (by decide); exact List.length_pos_iff.mpr k3.2)) (hw) ?_
    intro J4 hg5 hM6
    refine zr_aload0 X dX8_passes_28 ?_
    refine zr_iload1 X dX8_passes_29 ?_
    refine zr_iconst (v := (3 : Int32)) X dX8_passes_30 (by decide) ?_
    refine zr_callS2 (rm9 := zrm_X8_gateAt) X hnt zm_X8_34 (by decide) (by decide) (by decide) (Nat.le_of_ble_eq_true rfl) dX8_passes_31 ?_
    refine zn_X8_gateAt (g := g) (w := 3) ?_
    refine zr_iconst (v := (0 : Int32)) X dX8_passes_34 (by decide) ?_
    refine zr_iastN X rfl (show _ < 310 from (by first | assumption | omega)) dX8_passes_35 ?_
    have hM_9 : zMd _ (a) (tG (qGoes S g 1) g 3 (0 : Int32)) := zMd_G hM6 (g := g) (j := 3) (v := (0 : Int32)) (by omega) (by first | decide | omega)
    refine zr_goto (tgt := 85) X dX8_passes_36 (by decide) ?_
    refine zr_aload0 X dX8_passes_85 ?_
    refine zr_iload1 X dX8_passes_86 ?_
    refine zr_iconst (v := (1 : Int32)) X dX8_passes_87 (by decide) ?_
    refine zr_callS2 (rm9 := zrm_X8_gateAt) X hnt zm_X8_34 (by decide) (by decide) (by decide) (Nat.le_of_ble_eq_true rfl) dX8_passes_88 ?_
    refine zn_X8_gateAt (g := g) (w := 1) ?_
    refine zr_dup2 X dX8_passes_91 ?_
    refine zr_ialdN (n := 16 + 29 * g + 1) X rfl (show _ < 310 from (by first | assumption | omega | decide)) dX8_passes_92 ?_
    refine zr_eq (x2 := (sG (tG (qGoes S g 1) g 3 (0 : Int32)) g 1)) ((hM_9.2.1 g (by omega)).1 1 (by first | decide | omega)) ?_
    refine zr_iconst (v := (1 : Int32)) X dX8_passes_93 (by decide) ?_
    refine zr_isub X dX8_passes_94 ?_
    refine zr_iastN X rfl (show _ < 310 from (by first | assumption | omega)) dX8_passes_95 ?_
    have hM_10 : zMd _ (a) (tG (tG (qGoes S g 1) g 3 (0 : Int32)) g 1 ((sG (tG (qGoes S g 1) g 3 (0 : Int32)) g 1) - (1 : Int32))) := zMd_G hM_9 (g := g) (j := 1) (v := ((sG (tG (qGoes S g 1) g 3 (0 : Int32)) g 1) - (1 : Int32))) (by omega) (by first | decide | omega)
    refine zr_aload0 X dX8_passes_96 ?_
    refine zr_iload1 X dX8_passes_97 ?_
    refine zr_iconst (v := (1 : Int32)) X dX8_passes_98 (by decide) ?_
    refine zr_callS2 (rm9 := zrm_X8_gateAt) X hnt zm_X8_34 (by decide) (by decide) (by decide) (Nat.le_of_ble_eq_true rfl) dX8_passes_99 ?_
    refine zn_X8_gateAt (g := g) (w := 1) ?_
    refine zr_ialdN (n := 16 + 29 * g + 1) X rfl (show _ < 310 from (by first | assumption | omega | decide)) dX8_passes_102 ?_
    refine zr_eq (x2 := (sG (tG (tG (qGoes S g 1) g 3 (0 : Int32)) g 1 ((sG (tG (qGoes S g 1) g 3 (0 : Int32)) g 1) - (1 : Int32))) g 1)) ((hM_10.2.1 g (by omega)).1 1 (by first | decide | omega)) ?_
    refine zr_if_ne (tgt := 114) X dX8_passes_103 (by decide) (fun h7 => ?_) (fun h7 => ?_)
    · skip
      refine zr_vret X (by decide) (by decide) dX8_passes_114 ?_
      refine k1 _ (by repeat (first | exact zag.rf | assumption | refine zag.put ?_ (by omega) (by omega) | refine zag.tr ?_ (by assumption) (by omega) (by omega))) ?_
      have e9 : qSide S g = 1 := by simp [qSide, k2]
      refine cast (congrArg (zMd _ a) ?_) hM_10
      refine Eq.trans (zlessN h7) ?_
      rw [qPass, if_pos h1, e9]
    · skip
      refine zr_aload0 X dX8_passes_106 ?_
      refine zr_iload1 X dX8_passes_107 ?_
      refine zr_iconst (v := (2 : Int32)) X dX8_passes_108 (by decide) ?_
      refine zr_callS2 (rm9 := zrm_X8_gateAt) X hnt zm_X8_34 (by decide) (by decide) (by decide) (Nat.le_of_ble_eq_true rfl) dX8_passes_109 ?_
      refine zn_X8_gateAt (g := g) (w := 2) ?_
      refine zr_iconst (v := (0 : Int32)) X dX8_passes_112 (by decide) ?_
      refine zr_iastN X rfl (show _ < 310 from (by first | assumption | omega)) dX8_passes_113 ?_
      have hM_11 : zMd _ (a) (tG (tG (tG (qGoes S g 1) g 3 (0 : Int32)) g 1 ((sG (tG (qGoes S g 1) g 3 (0 : Int32)) g 1) - (1 : Int32))) g 2 (0 : Int32)) := zMd_G hM_10 (g := g) (j := 2) (v := (0 : Int32)) (by omega) (by first | decide | omega)
      refine zr_vret X (by decide) (by decide) dX8_passes_114 ?_
      refine k1 _ (by repeat (first | exact zag.rf | assumption | refine zag.put ?_ (by omega) (by omega) | refine zag.tr ?_ (by assumption) (by omega) (by omega))) ?_
      have e9 : qSide S g = 1 := by simp [qSide, k2]
      refine cast (congrArg (zMd _ a) ?_) hM_11
      refine Eq.trans (zlessM h7) ?_
      rw [qPass, if_pos h1, e9]
theorem zq_X8_passes {l : Launch} {D : va_G} {b0 : Nat} {tA : Nat → ClassId} {sa sv : Nat → Nat} {K : Nat → Option Nat} {I : zI} {Qp : zI → Option AV → Prop} {Xp : String → zI → Prop} {a g : Nat} {S : zS} (hM : zMd I a S) (hg : g < 6) (hw : ∀ s, ∀ y ∈ sL S g s, y ≤ 12) (hP : zPad S g) (ho : sG S g 2 ≠ 0) (k1 : ∀ J : zI, zag I J a 1 → zMd J a (qPass S g) → Qp J none) :
    zC l D b0 tA sa sv K yX8_passes (.code yX8_passes cX8_passes 3 none) zrm_X8_passes [vr (a) 15, vi ((nI g))] I Qp Xp := by
  obtain ⟨-, -, ⟨h, -⟩ | ⟨o, -, -, -, ⟨h1, h2⟩ | ⟨h1, h2⟩⟩⟩ := hP
  · exact absurd h ho
  · exact zp0_X8_passes hM hg (hw 0) h1 h2 k1
  · exact zp1_X8_passes hM hg (hw 1) h1 h2 k1
abbrev zrm_X8_opens : Room := { frames := 3, cells := 0, slots := 0, locals := 69 }
set_option maxRecDepth 20000 in
theorem zl0_X8_opens {l : Launch} {D : va_G} {b0 : Nat} {tA : Nat → ClassId} {sa sv : Nat → Nat} {K : Nat → Option Nat} {I : zI} {Qp : zI → Option AV → Prop} {Xp : String → zI → Prop} {p : Program} {e : Env} {s : State} {m : MethodId} {args : Array Value} {below : List Frame} {meth : Method} {c : Code} {a g : Nat} {S : zS}
    (X : zX p l e zrm_X8_opens s m args below meth c RX8 cX8_opens 6 none D b0 tA sa sv) (hnt : ∀ x ∈ c.exceptionTable.toList, False) (hM : zMd I a S) (hg : g < 6) (hw : ∀ y ∈ (sL S g 0), y ≤ 12) (hk : ∀ j : Nat, j ≤ (sL S g 0).length → (∀ i, i < j → (sL S g 0).getD i 0 = 0) → (j < (sL S g 0).length → (sL S g 0).getD j 0 ≠ 0) → zG p l e zrm_X8_opens s m args below meth c 6 D b0 tA sa 0 0 (zQ below D b0 tA sa K args s zrm_X8_opens Qp Xp) K 35 [some (vr (a) 15), some (vi ((nI g))), some (vi ((0 : Int32))), some (vi ((nI j))), none, none] [] I) :
    ∀ (n : Nat) (j : Nat), j ≤ (sL S g 0).length → (∀ i, i < j → (sL S g 0).getD i 0 = 0) → (sL S g 0).length - j < n → zG p l e zrm_X8_opens s m args below meth c 6 D b0 tA sa 0 0 (zQ below D b0 tA sa K args s zrm_X8_opens Qp Xp) K 8 [some (vr (a) 15), some (vi ((nI g))), some (vi ((0 : Int32))), some (vi ((nI j))), none, none] [] I := by
  intro n
  induction n with
  | zero => intro j i1 i2 i3; exact absurd i3 (Nat.not_lt_zero _)
  | succ n ih =>
    intro j i1 i2 i3
    have hl9 := hM.len hg (show 0 < 2 by decide)
    have hz9 := zgd12 hw j
    refine zr_iload3 X dX8_opens_8 ?_
    refine zr_aload0 X dX8_opens_9 ?_
    refine zr_iload1 X dX8_opens_10 ?_
    refine zr_iload2 X dX8_opens_11 ?_
    refine zr_callS3 (rm9 := zrm_X8_many) X hnt zm_X8_38 (by decide) (by decide) (by decide) (Nat.le_of_ble_eq_true rfl) dX8_opens_12 ?_
    refine zn_X8_many (g := g) (s9 := 0) hM (by omega) (by omega) ?_
    refine zr_nicmp_ge X (j) (((sL S g 0).length)) (tgt := 35) (by omega) (by omega) dX8_opens_15 (by decide) (fun h1 => ?_) (fun h1 => ?_)
    · skip
      exact hk j (by omega) i2 (fun hx => absurd hx (by omega))
    · skip
      refine zr_aload0 X dX8_opens_18 ?_
      refine zr_iload1 X dX8_opens_19 ?_
      refine zr_iload2 X dX8_opens_20 ?_
      refine zr_iload3 X dX8_opens_21 ?_
      refine zr_callS3 (rm9 := zrm_X8_placeAt) X hnt zm_X8_42 (by decide) (by decide) (by decide) (Nat.le_of_ble_eq_true rfl) dX8_opens_22 ?_
      refine zn_X8_placeAt (g := g) (s9 := 0) (k9 := j) ?_
      refine zr_ialdN (n := 16 + 29 * g + (9 + 10 * 0 + j)) X rfl (show _ < 310 from (by first | assumption | omega | decide)) dX8_opens_25 ?_
      refine zr_eq (x2 := (nI ((sL S g 0).getD j 0))) (((hM.2.1 g (by omega)).2 0 (by omega)).2.2 j (by first | assumption | omega)) ?_
      refine zr_nif_ne X (((sL S g 0).getD j 0)) (tgt := 35) (by omega) dX8_opens_26 (by decide) (fun h2 => ?_) (fun h2 => ?_)
      · skip
        exact hk j (by omega) i2 (fun hx => by assumption)
      · skip
        refine zr_iinc3 (v := (nI (j + 1))) X (show nI (j) + Int32.ofInt 1 = nI (j + 1) from nI_1 (j)) (by decide) rfl dX8_opens_29 ?_
        refine zr_goto (tgt := 8) X dX8_opens_32 (by decide) ?_
        exact ih (j + 1) (by omega) (fun i hi => by rcases Nat.lt_succ_iff_lt_or_eq.mp hi with q | rfl; exact i2 i q; assumption) (by omega)
theorem zshr_i9 {I : zI} {d hi k p : Nat} (h : k = p + 1) (h2 : k ≤ hi) : zput (zshr I d k hi) d k (zshr I d k hi d p) = zshr I d p hi := by
  subst h; exact zshr_s h2
set_option maxRecDepth 20000 in
theorem zl20_X8_opens {l : Launch} {D : va_G} {b0 : Nat} {tA : Nat → ClassId} {sa sv : Nat → Nat} {K : Nat → Option Nat} {I : zI} {Qp : zI → Option AV → Prop} {Xp : String → zI → Prop} {p : Program} {e : Env} {s : State} {m : MethodId} {args : Array Value} {below : List Frame} {meth : Method} {c : Code} {a g f9 x9 L : Nat}
    (X : zX p l e zrm_X8_opens s m args below meth c RX8 cX8_opens 6 none D b0 tA sa sv) (hnt : ∀ x ∈ c.exceptionTable.toList, False) (hg : g < 6) (hL : L < 10) (hk : zG p l e zrm_X8_opens s m args below meth c 6 D b0 tA sa 0 0 (zQ below D b0 tA sa K args s zrm_X8_opens Qp Xp) K 130 [some (vr (a) 15), some (vi ((nI g))), some (vi ((0 : Int32))), some (vi ((nI f9))), some (vi ((nI x9))), none] [] (zshr I a (16 + 29 * g + (9 + 10 * 0 + 0)) (16 + 29 * g + (9 + 10 * 0 + L)))) :
    ∀ (n : Nat) (k : Nat), k ≤ L → k < n → zG p l e zrm_X8_opens s m args below meth c 6 D b0 tA sa 0 0 (zQ below D b0 tA sa K args s zrm_X8_opens Qp Xp) K 99 [some (vr (a) 15), some (vi ((nI g))), some (vi ((0 : Int32))), some (vi ((nI f9))), some (vi ((nI x9))), some (vi ((nI k)))] [] (zshr I a (16 + 29 * g + (9 + 10 * 0 + k)) (16 + 29 * g + (9 + 10 * 0 + L))) := by
  intro n
  induction n with
  | zero => intro k i1 i3; exact absurd i3 (Nat.not_lt_zero _)
  | succ n ih =>
    intro k i1 i3
    refine zr_iload5 X dX8_opens_99 ?_
    refine zr_nif_le X (k) (tgt := 130) (by omega) dX8_opens_101 (by decide) (fun h1 => ?_) (fun h1 => ?_)
    · skip
      have hj : k = 0 := by omega
      subst hj
      refine zr_forget (lv2 := [some (vr (a) 15), some (vi ((nI g))), some (vi ((0 : Int32))), some (vi ((nI f9))), some (vi ((nI x9))), none]) (fun j9 v9 h9 => by rcases j9 with _ | _ | _ | _ | _ | _ | _ | _ | j9 <;> first | exact h9 | (simp at h9)) ?_
      exact hk
    · skip
      refine zr_aload0 X dX8_opens_104 ?_
      refine zr_iload1 X dX8_opens_105 ?_
      refine zr_iload2 X dX8_opens_106 ?_
      refine zr_iload5 X dX8_opens_107 ?_
      refine zr_callS3 (rm9 := zrm_X8_placeAt) X hnt zm_X8_42 (by decide) (by decide) (by decide) (Nat.le_of_ble_eq_true rfl) dX8_opens_109 ?_
      refine zn_X8_placeAt (g := g) (s9 := 0) (k9 := k) ?_
      refine zr_aload0 X dX8_opens_112 ?_
      refine zr_iload1 X dX8_opens_113 ?_
      refine zr_iload2 X dX8_opens_114 ?_
      refine zr_iload5 X dX8_opens_115 ?_
      refine zr_iconst (v := (1 : Int32)) X dX8_opens_117 (by decide) ?_
      refine zr_isub X dX8_opens_118 ?_
      refine zr_eq (x2 := (nI (k - 1))) (pk_sub (a := k) (b := 1) (by omega)) ?_
      refine zr_callS3 (rm9 := zrm_X8_placeAt) X hnt zm_X8_42 (by decide) (by decide) (by decide) (Nat.le_of_ble_eq_true rfl) dX8_opens_119 ?_
      refine zn_X8_placeAt (g := g) (s9 := 0) (k9 := k - 1) ?_
      refine zr_ialdN X rfl (show _ < 310 from (by first | assumption | omega)) dX8_opens_122 ?_
      refine zr_iastN X rfl (show _ < 310 from (by first | assumption | omega)) dX8_opens_123 ?_
      refine zr_iinc5 (v := (nI (k - 1))) X (zdec1 (n := k) (by omega)) (by decide) rfl dX8_opens_124 ?_
      refine zr_goto (tgt := 99) X dX8_opens_127 (by decide) ?_
      obtain ⟨k8, rfl⟩ : ∃ k8, k = k8 + 1 := ⟨k - 1, by omega⟩
      refine zr_I (zshr_i9 (p := 16 + 29 * g + (9 + 10 * 0 + k8)) (by omega) (by omega)) ?_
      exact ih k8 (by omega) (by omega)
set_option maxRecDepth 20000 in
theorem zp0_X8_opens {l : Launch} {D : va_G} {b0 : Nat} {tA : Nat → ClassId} {sa sv : Nat → Nat} {K : Nat → Option Nat} {I : zI} {Qp : zI → Option AV → Prop} {Xp : String → zI → Prop} {a g : Nat} {S : zS}
    (hM : zMd I a S) (hg : g < 6) (hw : ∀ y ∈ (sL S g 0), y ≤ 12) (hb : ∀ c : Nat, (sC S c 1 = 0 ∨ sC S c 1 = 1) ∧ (sC S c 2 = 0 ∨ sC S c 2 = 1)) (hm : sG S g 0 = 0 ∨ sG S g 0 = 1 ∨ sG S g 0 = 2) (k2 : qTurn S g = 0) (k1 : ∀ J : zI, zag I J a 1 → zMd J a (qOpen S g) → Qp J none) :
    zC l D b0 tA sa sv K yX8_opens (.code yX8_opens cX8_opens 6 none) zrm_X8_opens [vr (a) 15, vi ((nI g))] I Qp Xp := by
  have hl9 := hM.len hg (show 0 < 2 by decide)
  refine zC_of (by decide +kernel) (Nat.le_of_ble_eq_true rfl) ?_
  intro p e s m args below meth c X hnt
  have X : zX p l e zrm_X8_opens s m args below meth c RX8 cX8_opens 6 none D b0 tA sa sv := X
  refine zr_lv (lv2 := [some (vr (a) 15), some (vi ((nI g))), none, none, none, none]) rfl ?_
  refine zr_aload0 X dX8_opens_0 ?_
  refine zr_iload1 X dX8_opens_1 ?_
  refine zr_callS2 (rm9 := zrm_X8_turnOf) X hnt zm_X8_78 (by decide) (by decide) (by decide) (Nat.le_of_ble_eq_true rfl) dX8_opens_2 ?_
  refine zn_X8_turnOf hM hg hm ?_; rw [k2]
  refine zr_istore2 X (by decide) rfl dX8_opens_5 ?_
  refine zr_iconst (v := (0 : Int32)) X dX8_opens_6 (by decide) ?_
  refine zr_istore3 X (by decide) rfl dX8_opens_7 ?_
  refine zl0_X8_opens X hnt hM hg hw (fun j hx1 hx2 hx3 => ?_) 12 0 (by omega) (fun i hi => absurd hi (Nat.not_lt_zero _)) (by omega)
  refine zr_iload3 X dX8_opens_35 ?_
  refine zr_aload0 X dX8_opens_36 ?_
  refine zr_iload1 X dX8_opens_37 ?_
  refine zr_iload2 X dX8_opens_38 ?_
  refine zr_callS3 (rm9 := zrm_X8_many) X hnt zm_X8_38 (by decide) (by decide) (by decide) (Nat.le_of_ble_eq_true rfl) dX8_opens_39 ?_
  refine zn_X8_many (g := g) (s9 := 0) hM (by omega) (by omega) ?_
  refine zr_nicmp_ne X (j) (((sL S g 0).length)) (tgt := 46) (by omega) (by omega) dX8_opens_42 (by decide) (fun h1 => ?_) (fun h1 => ?_)
  · skip
    have hjl : j < (sL S g 0).length := by omega
    obtain ⟨c9, hc9⟩ := Nat.exists_eq_succ_of_ne_zero (hx3 hjl)
    have hc12 : c9 < 12 := by (have := zgd12 hw j; omega)
    refine zr_aload0 X dX8_opens_46 ?_
    refine zr_iload1 X dX8_opens_47 ?_
    refine zr_iload2 X dX8_opens_48 ?_
    refine zr_iload3 X dX8_opens_49 ?_
    refine zr_callS4 (rm9 := zrm_X8_takes) X hnt zm_X8_68 (by decide) (by decide) (by decide) (Nat.le_of_ble_eq_true rfl) dX8_opens_50 ?_
    refine zp_X8_takes (g := g) (s9 := 0) (k := j) hM (by omega) (by omega) (hjl) ?_
    intro J1 hg2 hM3
    refine zr_istore4 X (by decide) rfl dX8_opens_53 ?_
    refine zr_aload0 X dX8_opens_55 ?_
    refine zr_iload4 X dX8_opens_56 ?_
    refine zr_iconst (v := (1 : Int32)) X dX8_opens_58 (by decide) ?_
    refine zr_isub X dX8_opens_59 ?_
    refine zr_eq (x2 := (nI c9)) (by rw [hc9]; exact pk_sub (a := c9 + 1) (b := 1) (by omega)) ?_
    refine zr_iload2 X dX8_opens_60 ?_
    refine zr_callS3 (rm9 := zrm_X8_refusal) X hnt zm_X8_81 (by decide) (by decide) (by decide) (Nat.le_of_ble_eq_true rfl) dX8_opens_61 ?_
    refine zn_X8_refusal (c9 := c9) (s9 := 0) hM3 (by omega) (by omega) ?_; have hq4 := qRef_lt (S := (tL S g 0 ((sL S g 0).eraseIdx j))) (c := c9) (s := 0)
    refine zr_nif_le X ((qRef (tL S g 0 ((sL S g 0).eraseIdx j)) c9 0)) (tgt := 91) (by omega) dX8_opens_64 (by decide) (fun h2 => ?_) (fun h2 => ?_)
    · skip
      refine zr_aload0 X dX8_opens_91 ?_
      refine zr_iload1 X dX8_opens_92 ?_
      refine zr_iload2 X dX8_opens_93 ?_
      refine zr_callS3 (rm9 := zrm_X8_many) X hnt zm_X8_38 (by decide) (by decide) (by decide) (Nat.le_of_ble_eq_true rfl) dX8_opens_94 ?_
      refine zn_X8_many (g := g) (s9 := 0) hM3 (by omega) (by omega) ?_
      refine zr_istore5 X (by decide) rfl dX8_opens_97 ?_
      have hL9 : (sL (tL S g 0 ((sL S g 0).eraseIdx j)) g 0).length < 10 := by rw [tL_L, if_pos ⟨rfl, rfl⟩, zlen_erase hjl]; omega
      refine zr_I (zshr_0 (d := a) (hi := 16 + 29 * g + (9 + 10 * 0 + (sL (tL S g 0 ((sL S g 0).eraseIdx j)) g 0).length))).symm ?_
      refine zl20_X8_opens X hnt hg hL9 ?_ 11 _ (Nat.le_refl _) (by omega)
      have hM9 := zMd_ahead (x := (sL S g 0).getD j 0) hM3 hg (show 0 < 2 by decide) hL9
      have hag8 : zag I (zput (zput (zshr J1 a (16 + 29 * g + (9 + 10 * 0 + 0)) (16 + 29 * g + (9 + 10 * 0 + (sL (tL S g 0 ((sL S g 0).eraseIdx j)) g 0).length))) a (16 + 29 * g + (9 + 10 * 0 + 0)) (nI ((sL S g 0).getD j 0))) a (16 + 29 * g + (7 + 0)) (nI ((sL (tL S g 0 ((sL S g 0).eraseIdx j)) g 0).length + 1))) a 1 := zag.tr hg2 (show zag J1 (zput (zput (zshr J1 a (16 + 29 * g + (9 + 10 * 0 + 0)) (16 + 29 * g + (9 + 10 * 0 + (sL (tL S g 0 ((sL S g 0).eraseIdx j)) g 0).length))) a (16 + 29 * g + (9 + 10 * 0 + 0)) (nI ((sL S g 0).getD j 0))) a (16 + 29 * g + (7 + 0)) (nI ((sL (tL S g 0 ((sL S g 0).eraseIdx j)) g 0).length + 1))) a 1 from fun q hq => (zput_nq (by omega)).trans ((zput_nq (by omega)).trans (zshr_ne (by omega)))) (by omega) (by omega)
      refine zr_aload0 X dX8_opens_130 ?_
      refine zr_iload1 X dX8_opens_131 ?_
      refine zr_iload2 X dX8_opens_132 ?_
      refine zr_iconst (v := (0 : Int32)) X dX8_opens_133 (by decide) ?_
      refine zr_callS3 (rm9 := zrm_X8_placeAt) X hnt zm_X8_42 (by decide) (by decide) (by decide) (Nat.le_of_ble_eq_true rfl) dX8_opens_134 ?_
      refine zn_X8_placeAt (g := g) (s9 := 0) (k9 := 0) ?_
      refine zr_iload4 X dX8_opens_137 ?_
      refine zr_iastN X rfl (show _ < 310 from (by first | assumption | omega)) dX8_opens_139 ?_
      refine zr_aload0 X dX8_opens_140 ?_
      refine zr_iload1 X dX8_opens_141 ?_
      refine zr_bipush (v := (7 : Int32)) X dX8_opens_142 (by decide) ?_
      refine zr_iload2 X dX8_opens_144 ?_
      refine zr_iadd X dX8_opens_145 ?_
      refine zr_eq (x2 := (7 : Int32)) (by decide) ?_
      refine zr_callS2 (rm9 := zrm_X8_gateAt) X hnt zm_X8_34 (by decide) (by decide) (by decide) (Nat.le_of_ble_eq_true rfl) dX8_opens_146 ?_
      refine zn_X8_gateAt (g := g) (w := 7) ?_
      refine zr_dup2 X dX8_opens_149 ?_
      refine zr_ialdN X rfl (show _ < 310 from (by first | assumption | omega)) dX8_opens_150 ?_
      refine zr_eq (x2 := (nI ((sL (tL S g 0 ((sL S g 0).eraseIdx j)) g 0).length))) (by rw [zput_nj (by omega), zshr_out (by omega)]; exact (((hM3).2.1 g hg).2 0 (by decide)).1) ?_
      refine zr_iconst (v := (1 : Int32)) X dX8_opens_151 (by decide) ?_
      refine zr_iadd X dX8_opens_152 ?_
      refine zr_eq (x2 := (nI (((sL (tL S g 0 ((sL S g 0).eraseIdx j)) g 0).length) + 1))) (nI_add (((sL (tL S g 0 ((sL S g 0).eraseIdx j)) g 0).length)) (1)) ?_
      refine zr_iastN X rfl (show _ < 310 from (by first | assumption | omega)) dX8_opens_153 ?_
      refine zr_aload0 X dX8_opens_154 ?_
      refine zr_iload1 X dX8_opens_155 ?_
      refine zr_iconst (v := (1 : Int32)) X dX8_opens_156 (by decide) ?_
      refine zr_callS2 (rm9 := zrm_X8_gateAt) X hnt zm_X8_34 (by decide) (by decide) (by decide) (Nat.le_of_ble_eq_true rfl) dX8_opens_157 ?_
      refine zn_X8_gateAt (g := g) (w := 1) ?_
      refine zr_aload0 X dX8_opens_160 ?_
      refine zr_iconst (v := (0 : Int32)) X dX8_opens_161 (by decide) ?_
      refine zr_ialdN (n := 0) X rfl (show _ < 310 from (by first | assumption | omega | decide)) dX8_opens_162 ?_
      refine zr_eq (x2 := (sX (tL (tL S g 0 ((sL S g 0).eraseIdx j)) g 0 ((sL S g 0).getD j 0 :: sL (tL S g 0 ((sL S g 0).eraseIdx j)) g 0)) 0)) (hM9.1 0 (by decide)) ?_
      refine zr_iastN X rfl (show _ < 310 from (by first | assumption | omega)) dX8_opens_163 ?_
      have hM_1 : zMd _ (a) (tG (tL (tL S g 0 ((sL S g 0).eraseIdx j)) g 0 ((sL S g 0).getD j 0 :: sL (tL S g 0 ((sL S g 0).eraseIdx j)) g 0)) g 1 (sX (tL (tL S g 0 ((sL S g 0).eraseIdx j)) g 0 ((sL S g 0).getD j 0 :: sL (tL S g 0 ((sL S g 0).eraseIdx j)) g 0)) 0)) := zMd_G hM9 (g := g) (j := 1) (v := (sX (tL (tL S g 0 ((sL S g 0).eraseIdx j)) g 0 ((sL S g 0).getD j 0 :: sL (tL S g 0 ((sL S g 0).eraseIdx j)) g 0)) 0)) (by omega) (by first | decide | omega)
      refine zr_aload0 X dX8_opens_164 ?_
      refine zr_iload1 X dX8_opens_165 ?_
      refine zr_iconst (v := (2 : Int32)) X dX8_opens_166 (by decide) ?_
      refine zr_callS2 (rm9 := zrm_X8_gateAt) X hnt zm_X8_34 (by decide) (by decide) (by decide) (Nat.le_of_ble_eq_true rfl) dX8_opens_167 ?_
      refine zn_X8_gateAt (g := g) (w := 2) ?_
      refine zr_iload2 X dX8_opens_170 ?_
      refine zr_iconst (v := (1 : Int32)) X dX8_opens_171 (by decide) ?_
      refine zr_iadd X dX8_opens_172 ?_
      refine zr_eq (x2 := (1 : Int32)) (by decide) ?_
      refine zr_iastN X rfl (show _ < 310 from (by first | assumption | omega)) dX8_opens_173 ?_
      have hM_2 : zMd _ (a) (tG (tG (tL (tL S g 0 ((sL S g 0).eraseIdx j)) g 0 ((sL S g 0).getD j 0 :: sL (tL S g 0 ((sL S g 0).eraseIdx j)) g 0)) g 1 (sX (tL (tL S g 0 ((sL S g 0).eraseIdx j)) g 0 ((sL S g 0).getD j 0 :: sL (tL S g 0 ((sL S g 0).eraseIdx j)) g 0)) 0)) g 2 (1 : Int32)) := zMd_G hM_1 (g := g) (j := 2) (v := (1 : Int32)) (by omega) (by first | decide | omega)
      refine zr_aload0 X dX8_opens_174 ?_
      refine zr_iload1 X dX8_opens_175 ?_
      refine zr_iconst (v := (3 : Int32)) X dX8_opens_176 (by decide) ?_
      refine zr_callS2 (rm9 := zrm_X8_gateAt) X hnt zm_X8_34 (by decide) (by decide) (by decide) (Nat.le_of_ble_eq_true rfl) dX8_opens_177 ?_
      refine zn_X8_gateAt (g := g) (w := 3) ?_
      refine zr_iconst (v := (1 : Int32)) X dX8_opens_180 (by decide) ?_
      refine zr_iastN X rfl (show _ < 310 from (by first | assumption | omega)) dX8_opens_181 ?_
      have hM_3 : zMd _ (a) (tG (tG (tG (tL (tL S g 0 ((sL S g 0).eraseIdx j)) g 0 ((sL S g 0).getD j 0 :: sL (tL S g 0 ((sL S g 0).eraseIdx j)) g 0)) g 1 (sX (tL (tL S g 0 ((sL S g 0).eraseIdx j)) g 0 ((sL S g 0).getD j 0 :: sL (tL S g 0 ((sL S g 0).eraseIdx j)) g 0)) 0)) g 2 (1 : Int32)) g 3 (1 : Int32)) := zMd_G hM_2 (g := g) (j := 3) (v := (1 : Int32)) (by omega) (by first | decide | omega)
      refine zr_aload0 X dX8_opens_182 ?_
      refine zr_iload1 X dX8_opens_183 ?_
      refine zr_iconst (v := (5 : Int32)) X dX8_opens_184 (by decide) ?_
      refine zr_callS2 (rm9 := zrm_X8_gateAt) X hnt zm_X8_34 (by decide) (by decide) (by decide) (Nat.le_of_ble_eq_true rfl) dX8_opens_185 ?_
      refine zn_X8_gateAt (g := g) (w := 5) ?_
      refine zr_dup2 X dX8_opens_188 ?_
      refine zr_ialdN (n := 16 + 29 * g + 5) X rfl (show _ < 310 from (by first | assumption | omega | decide)) dX8_opens_189 ?_
      refine zr_eq (x2 := (sG (tG (tG (tG (tL (tL S g 0 ((sL S g 0).eraseIdx j)) g 0 ((sL S g 0).getD j 0 :: sL (tL S g 0 ((sL S g 0).eraseIdx j)) g 0)) g 1 (sX (tL (tL S g 0 ((sL S g 0).eraseIdx j)) g 0 ((sL S g 0).getD j 0 :: sL (tL S g 0 ((sL S g 0).eraseIdx j)) g 0)) 0)) g 2 (1 : Int32)) g 3 (1 : Int32)) g 5)) ((hM_3.2.1 g (by omega)).1 5 (by first | decide | omega)) ?_
      refine zr_iconst (v := (1 : Int32)) X dX8_opens_190 (by decide) ?_
      refine zr_iadd X dX8_opens_191 ?_
      refine zr_iastN X rfl (show _ < 310 from (by first | assumption | omega)) dX8_opens_192 ?_
      have hM_4 : zMd _ (a) (tG (tG (tG (tG (tL (tL S g 0 ((sL S g 0).eraseIdx j)) g 0 ((sL S g 0).getD j 0 :: sL (tL S g 0 ((sL S g 0).eraseIdx j)) g 0)) g 1 (sX (tL (tL S g 0 ((sL S g 0).eraseIdx j)) g 0 ((sL S g 0).getD j 0 :: sL (tL S g 0 ((sL S g 0).eraseIdx j)) g 0)) 0)) g 2 (1 : Int32)) g 3 (1 : Int32)) g 5 ((sG (tG (tG (tG (tL (tL S g 0 ((sL S g 0).eraseIdx j)) g 0 ((sL S g 0).getD j 0 :: sL (tL S g 0 ((sL S g 0).eraseIdx j)) g 0)) g 1 (sX (tL (tL S g 0 ((sL S g 0).eraseIdx j)) g 0 ((sL S g 0).getD j 0 :: sL (tL S g 0 ((sL S g 0).eraseIdx j)) g 0)) 0)) g 2 (1 : Int32)) g 3 (1 : Int32)) g 5) + (1 : Int32))) := zMd_G hM_3 (g := g) (j := 5) (v := ((sG (tG (tG (tG (tL (tL S g 0 ((sL S g 0).eraseIdx j)) g 0 ((sL S g 0).getD j 0 :: sL (tL S g 0 ((sL S g 0).eraseIdx j)) g 0)) g 1 (sX (tL (tL S g 0 ((sL S g 0).eraseIdx j)) g 0 ((sL S g 0).getD j 0 :: sL (tL S g 0 ((sL S g 0).eraseIdx j)) g 0)) 0)) g 2 (1 : Int32)) g 3 (1 : Int32)) g 5) + (1 : Int32))) (by omega) (by first | decide | omega)
      refine zr_aload0 X dX8_opens_193 ?_
      refine zr_iload1 X dX8_opens_194 ?_
      refine zr_bipush (v := (6 : Int32)) X dX8_opens_195 (by decide) ?_
      refine zr_callS2 (rm9 := zrm_X8_gateAt) X hnt zm_X8_34 (by decide) (by decide) (by decide) (Nat.le_of_ble_eq_true rfl) dX8_opens_197 ?_
      refine zn_X8_gateAt (g := g) (w := 6) ?_
      refine zr_iload2 X dX8_opens_200 ?_
      refine zr_iconst (v := (1 : Int32)) X dX8_opens_201 (by decide) ?_
      refine zr_iadd X dX8_opens_202 ?_
      refine zr_eq (x2 := (1 : Int32)) (by decide) ?_
      refine zr_iastN X rfl (show _ < 310 from (by first | assumption | omega)) dX8_opens_203 ?_
      have hM_5 : zMd _ (a) (tG (tG (tG (tG (tG (tL (tL S g 0 ((sL S g 0).eraseIdx j)) g 0 ((sL S g 0).getD j 0 :: sL (tL S g 0 ((sL S g 0).eraseIdx j)) g 0)) g 1 (sX (tL (tL S g 0 ((sL S g 0).eraseIdx j)) g 0 ((sL S g 0).getD j 0 :: sL (tL S g 0 ((sL S g 0).eraseIdx j)) g 0)) 0)) g 2 (1 : Int32)) g 3 (1 : Int32)) g 5 ((sG (tG (tG (tG (tL (tL S g 0 ((sL S g 0).eraseIdx j)) g 0 ((sL S g 0).getD j 0 :: sL (tL S g 0 ((sL S g 0).eraseIdx j)) g 0)) g 1 (sX (tL (tL S g 0 ((sL S g 0).eraseIdx j)) g 0 ((sL S g 0).getD j 0 :: sL (tL S g 0 ((sL S g 0).eraseIdx j)) g 0)) 0)) g 2 (1 : Int32)) g 3 (1 : Int32)) g 5) + (1 : Int32))) g 6 (1 : Int32)) := zMd_G hM_4 (g := g) (j := 6) (v := (1 : Int32)) (by omega) (by first | decide | omega)
      refine zr_vret X (by decide) (by decide) dX8_opens_204 ?_
      refine k1 _ (by repeat (first | exact hag8 | refine zag.put ?_ (by omega) (by omega))) ?_
      refine cast (congrArg (zMd _ a) ?_) hM_5
      rw [qOpen, k2, qFirst_of hjl (hx3 hjl) hx2, if_pos hjl, qOpenAt, hc9, Nat.succ_sub_one]
      rw [if_pos (by have h8 : qRef (tL S g 0 ((sL S g 0).eraseIdx j)) c9 0 = 0 := (by omega); exact h8), tL_tL, tL_L, if_pos ⟨rfl, rfl⟩]; unfold qOpened; rw [show nI (0 + 1) = (1 : Int32) from rfl]; simp [tG_G]
    · skip
      refine zr_aload0 X dX8_opens_67 ?_
      refine zr_bipush (v := (12 : Int32)) X dX8_opens_68 (by decide) ?_
      refine zr_dup2 X dX8_opens_70 ?_
      refine zr_ialdN (n := 12) X rfl (show _ < 310 from (by first | assumption | omega | decide)) dX8_opens_71 ?_
      refine zr_eq (x2 := (sX (tL S g 0 ((sL S g 0).eraseIdx j)) 12)) (hM3.1 12 (by decide)) ?_
      refine zr_iconst (v := (1 : Int32)) X dX8_opens_72 (by decide) ?_
      refine zr_iadd X dX8_opens_73 ?_
      refine zr_iastN (n := 12) X rfl (by decide) dX8_opens_74 ?_
      have hM_6 : zMd _ (a) (tX (tL S g 0 ((sL S g 0).eraseIdx j)) 12 ((sX (tL S g 0 ((sL S g 0).eraseIdx j)) 12) + (1 : Int32))) := zMd_X hM3 (i := 12) (v := ((sX (tL S g 0 ((sL S g 0).eraseIdx j)) 12) + (1 : Int32))) (by decide)
      refine zr_aload0 X dX8_opens_75 ?_
      refine zr_bipush (v := (15 : Int32)) X dX8_opens_76 (by decide) ?_
      refine zr_dup2 X dX8_opens_78 ?_
      refine zr_ialdN (n := 15) X rfl (show _ < 310 from (by first | assumption | omega | decide)) dX8_opens_79 ?_
      refine zr_eq (x2 := (sX (tX (tL S g 0 ((sL S g 0).eraseIdx j)) 12 ((sX (tL S g 0 ((sL S g 0).eraseIdx j)) 12) + (1 : Int32))) 15)) (hM_6.1 15 (by decide)) ?_
      refine zr_iload2 X dX8_opens_80 ?_
      refine zr_iadd X dX8_opens_81 ?_
      refine zr_eq (x2 := (sX (tX (tL S g 0 ((sL S g 0).eraseIdx j)) 12 ((sX (tL S g 0 ((sL S g 0).eraseIdx j)) 12) + (1 : Int32))) 15)) (Int32.add_zero _) ?_
      refine zr_iastN (n := 15) X rfl (by decide) dX8_opens_82 ?_
      have hM_7 : zMd _ (a) (tX (tX (tL S g 0 ((sL S g 0).eraseIdx j)) 12 ((sX (tL S g 0 ((sL S g 0).eraseIdx j)) 12) + (1 : Int32))) 15 (sX (tX (tL S g 0 ((sL S g 0).eraseIdx j)) 12 ((sX (tL S g 0 ((sL S g 0).eraseIdx j)) 12) + (1 : Int32))) 15)) := zMd_X hM_6 (i := 15) (v := (sX (tX (tL S g 0 ((sL S g 0).eraseIdx j)) 12 ((sX (tL S g 0 ((sL S g 0).eraseIdx j)) 12) + (1 : Int32))) 15)) (by decide)
      refine zr_aload0 X dX8_opens_83 ?_
      refine zr_iconst (v := (3 : Int32)) X dX8_opens_84 (by decide) ?_
      refine zr_dup2 X dX8_opens_85 ?_
      refine zr_ialdN (n := 3) X rfl (show _ < 310 from (by first | assumption | omega | decide)) dX8_opens_86 ?_
      refine zr_eq (x2 := (sX (tX (tX (tL S g 0 ((sL S g 0).eraseIdx j)) 12 ((sX (tL S g 0 ((sL S g 0).eraseIdx j)) 12) + (1 : Int32))) 15 (sX (tX (tL S g 0 ((sL S g 0).eraseIdx j)) 12 ((sX (tL S g 0 ((sL S g 0).eraseIdx j)) 12) + (1 : Int32))) 15)) 3)) (hM_7.1 3 (by decide)) ?_
      refine zr_iload2 X dX8_opens_87 ?_
      refine zr_isub X dX8_opens_88 ?_
      refine zr_eq (x2 := (sX (tX (tX (tL S g 0 ((sL S g 0).eraseIdx j)) 12 ((sX (tL S g 0 ((sL S g 0).eraseIdx j)) 12) + (1 : Int32))) 15 (sX (tX (tL S g 0 ((sL S g 0).eraseIdx j)) 12 ((sX (tL S g 0 ((sL S g 0).eraseIdx j)) 12) + (1 : Int32))) 15)) 3)) (Int32.sub_zero _) ?_
      refine zr_iastN (n := 3) X rfl (by decide) dX8_opens_89 ?_
      have hM_8 : zMd _ (a) (tX (tX (tX (tL S g 0 ((sL S g 0).eraseIdx j)) 12 ((sX (tL S g 0 ((sL S g 0).eraseIdx j)) 12) + (1 : Int32))) 15 (sX (tX (tL S g 0 ((sL S g 0).eraseIdx j)) 12 ((sX (tL S g 0 ((sL S g 0).eraseIdx j)) 12) + (1 : Int32))) 15)) 3 (sX (tX (tX (tL S g 0 ((sL S g 0).eraseIdx j)) 12 ((sX (tL S g 0 ((sL S g 0).eraseIdx j)) 12) + (1 : Int32))) 15 (sX (tX (tL S g 0 ((sL S g 0).eraseIdx j)) 12 ((sX (tL S g 0 ((sL S g 0).eraseIdx j)) 12) + (1 : Int32))) 15)) 3)) := zMd_X hM_7 (i := 3) (v := (sX (tX (tX (tL S g 0 ((sL S g 0).eraseIdx j)) 12 ((sX (tL S g 0 ((sL S g 0).eraseIdx j)) 12) + (1 : Int32))) 15 (sX (tX (tL S g 0 ((sL S g 0).eraseIdx j)) 12 ((sX (tL S g 0 ((sL S g 0).eraseIdx j)) 12) + (1 : Int32))) 15)) 3)) (by decide)
      refine zr_vret X (by decide) (by decide) dX8_opens_90 ?_
      refine k1 _ (by repeat (first | exact zag.rf | assumption | refine zag.put ?_ (by omega) (by omega) | refine zag.tr ?_ (by assumption) (by omega) (by omega))) ?_
      refine cast (congrArg (zMd _ a) ?_) hM_8
      rw [qOpen, k2, qFirst_of hjl (hx3 hjl) hx2, if_pos hjl, qOpenAt, hc9, Nat.succ_sub_one]
      rw [if_neg (by have h8 : ¬ qRef (tL S g 0 ((sL S g 0).eraseIdx j)) c9 0 = 0 := (by omega); exact h8)]; simp only [tX_id, qAway]; first | rfl | (rw [if_neg (by decide)])
  · skip
    refine zr_vret X (by decide) (by decide) dX8_opens_45 ?_
    refine k1 _ (by repeat (first | exact zag.rf | assumption | refine zag.put ?_ (by omega) (by omega) | refine zag.tr ?_ (by assumption) (by omega) (by omega))) ?_
    refine cast (congrArg (zMd _ a) ?_) hM
    rw [qOpen, k2, if_neg (qFirst_none (fun i hi => hx2 i (by omega)))]
set_option maxRecDepth 20000 in
theorem zl1_X8_opens {l : Launch} {D : va_G} {b0 : Nat} {tA : Nat → ClassId} {sa sv : Nat → Nat} {K : Nat → Option Nat} {I : zI} {Qp : zI → Option AV → Prop} {Xp : String → zI → Prop} {p : Program} {e : Env} {s : State} {m : MethodId} {args : Array Value} {below : List Frame} {meth : Method} {c : Code} {a g : Nat} {S : zS}
    (X : zX p l e zrm_X8_opens s m args below meth c RX8 cX8_opens 6 none D b0 tA sa sv) (hnt : ∀ x ∈ c.exceptionTable.toList, False) (hM : zMd I a S) (hg : g < 6) (hw : ∀ y ∈ (sL S g 1), y ≤ 12) (hk : ∀ j : Nat, j ≤ (sL S g 1).length → (∀ i, i < j → (sL S g 1).getD i 0 = 0) → (j < (sL S g 1).length → (sL S g 1).getD j 0 ≠ 0) → zG p l e zrm_X8_opens s m args below meth c 6 D b0 tA sa 0 0 (zQ below D b0 tA sa K args s zrm_X8_opens Qp Xp) K 35 [some (vr (a) 15), some (vi ((nI g))), some (vi ((1 : Int32))), some (vi ((nI j))), none, none] [] I) :
    ∀ (n : Nat) (j : Nat), j ≤ (sL S g 1).length → (∀ i, i < j → (sL S g 1).getD i 0 = 0) → (sL S g 1).length - j < n → zG p l e zrm_X8_opens s m args below meth c 6 D b0 tA sa 0 0 (zQ below D b0 tA sa K args s zrm_X8_opens Qp Xp) K 8 [some (vr (a) 15), some (vi ((nI g))), some (vi ((1 : Int32))), some (vi ((nI j))), none, none] [] I := by
  intro n
  induction n with
  | zero => intro j i1 i2 i3; exact absurd i3 (Nat.not_lt_zero _)
  | succ n ih =>
    intro j i1 i2 i3
    have hl9 := hM.len hg (show 1 < 2 by decide)
    have hz9 := zgd12 hw j
    refine zr_iload3 X dX8_opens_8 ?_
    refine zr_aload0 X dX8_opens_9 ?_
    refine zr_iload1 X dX8_opens_10 ?_
    refine zr_iload2 X dX8_opens_11 ?_
    refine zr_callS3 (rm9 := zrm_X8_many) X hnt zm_X8_38 (by decide) (by decide) (by decide) (Nat.le_of_ble_eq_true rfl) dX8_opens_12 ?_
    refine zn_X8_many (g := g) (s9 := 1) hM (by omega) (by omega) ?_
    refine zr_nicmp_ge X (j) (((sL S g 1).length)) (tgt := 35) (by omega) (by omega) dX8_opens_15 (by decide) (fun h1 => ?_) (fun h1 => ?_)
    · skip
      exact hk j (by omega) i2 (fun hx => absurd hx (by omega))
    · skip
      refine zr_aload0 X dX8_opens_18 ?_
      refine zr_iload1 X dX8_opens_19 ?_
      refine zr_iload2 X dX8_opens_20 ?_
      refine zr_iload3 X dX8_opens_21 ?_
      refine zr_callS3 (rm9 := zrm_X8_placeAt) X hnt zm_X8_42 (by decide) (by decide) (by decide) (Nat.le_of_ble_eq_true rfl) dX8_opens_22 ?_
      refine zn_X8_placeAt (g := g) (s9 := 1) (k9 := j) ?_
      refine zr_ialdN (n := 16 + 29 * g + (9 + 10 * 1 + j)) X rfl (show _ < 310 from (by first | assumption | omega | decide)) dX8_opens_25 ?_
      refine zr_eq (x2 := (nI ((sL S g 1).getD j 0))) (((hM.2.1 g (by omega)).2 1 (by omega)).2.2 j (by first | assumption | omega)) ?_
      refine zr_nif_ne X (((sL S g 1).getD j 0)) (tgt := 35) (by omega) dX8_opens_26 (by decide) (fun h2 => ?_) (fun h2 => ?_)
      · skip
        exact hk j (by omega) i2 (fun hx => by assumption)
      · skip
        refine zr_iinc3 (v := (nI (j + 1))) X (show nI (j) + Int32.ofInt 1 = nI (j + 1) from nI_1 (j)) (by decide) rfl dX8_opens_29 ?_
        refine zr_goto (tgt := 8) X dX8_opens_32 (by decide) ?_
        exact ih (j + 1) (by omega) (fun i hi => by rcases Nat.lt_succ_iff_lt_or_eq.mp hi with q | rfl; exact i2 i q; assumption) (by omega)
set_option maxRecDepth 20000 in
theorem zl21_X8_opens {l : Launch} {D : va_G} {b0 : Nat} {tA : Nat → ClassId} {sa sv : Nat → Nat} {K : Nat → Option Nat} {I : zI} {Qp : zI → Option AV → Prop} {Xp : String → zI → Prop} {p : Program} {e : Env} {s : State} {m : MethodId} {args : Array Value} {below : List Frame} {meth : Method} {c : Code} {a g f9 x9 L : Nat}
    (X : zX p l e zrm_X8_opens s m args below meth c RX8 cX8_opens 6 none D b0 tA sa sv) (hnt : ∀ x ∈ c.exceptionTable.toList, False) (hg : g < 6) (hL : L < 10) (hk : zG p l e zrm_X8_opens s m args below meth c 6 D b0 tA sa 0 0 (zQ below D b0 tA sa K args s zrm_X8_opens Qp Xp) K 130 [some (vr (a) 15), some (vi ((nI g))), some (vi ((1 : Int32))), some (vi ((nI f9))), some (vi ((nI x9))), none] [] (zshr I a (16 + 29 * g + (9 + 10 * 1 + 0)) (16 + 29 * g + (9 + 10 * 1 + L)))) :
    ∀ (n : Nat) (k : Nat), k ≤ L → k < n → zG p l e zrm_X8_opens s m args below meth c 6 D b0 tA sa 0 0 (zQ below D b0 tA sa K args s zrm_X8_opens Qp Xp) K 99 [some (vr (a) 15), some (vi ((nI g))), some (vi ((1 : Int32))), some (vi ((nI f9))), some (vi ((nI x9))), some (vi ((nI k)))] [] (zshr I a (16 + 29 * g + (9 + 10 * 1 + k)) (16 + 29 * g + (9 + 10 * 1 + L))) := by
  intro n
  induction n with
  | zero => intro k i1 i3; exact absurd i3 (Nat.not_lt_zero _)
  | succ n ih =>
    intro k i1 i3
    refine zr_iload5 X dX8_opens_99 ?_
    refine zr_nif_le X (k) (tgt := 130) (by omega) dX8_opens_101 (by decide) (fun h1 => ?_) (fun h1 => ?_)
    · skip
      have hj : k = 0 := by omega
      subst hj
      refine zr_forget (lv2 := [some (vr (a) 15), some (vi ((nI g))), some (vi ((1 : Int32))), some (vi ((nI f9))), some (vi ((nI x9))), none]) (fun j9 v9 h9 => by rcases j9 with _ | _ | _ | _ | _ | _ | _ | _ | j9 <;> first | exact h9 | (simp at h9)) ?_
      exact hk
    · skip
      refine zr_aload0 X dX8_opens_104 ?_
      refine zr_iload1 X dX8_opens_105 ?_
      refine zr_iload2 X dX8_opens_106 ?_
      refine zr_iload5 X dX8_opens_107 ?_
      refine zr_callS3 (rm9 := zrm_X8_placeAt) X hnt zm_X8_42 (by decide) (by decide) (by decide) (Nat.le_of_ble_eq_true rfl) dX8_opens_109 ?_
      refine zn_X8_placeAt (g := g) (s9 := 1) (k9 := k) ?_
      refine zr_aload0 X dX8_opens_112 ?_
      refine zr_iload1 X dX8_opens_113 ?_
      refine zr_iload2 X dX8_opens_114 ?_
      refine zr_iload5 X dX8_opens_115 ?_
      refine zr_iconst (v := (1 : Int32)) X dX8_opens_117 (by decide) ?_
      refine zr_isub X dX8_opens_118 ?_
      refine zr_eq (x2 := (nI (k - 1))) (pk_sub (a := k) (b := 1) (by omega)) ?_
      refine zr_callS3 (rm9 := zrm_X8_placeAt) X hnt zm_X8_42 (by decide) (by decide) (by decide) (Nat.le_of_ble_eq_true rfl) dX8_opens_119 ?_
      refine zn_X8_placeAt (g := g) (s9 := 1) (k9 := k - 1) ?_
      refine zr_ialdN X rfl (show _ < 310 from (by first | assumption | omega)) dX8_opens_122 ?_
      refine zr_iastN X rfl (show _ < 310 from (by first | assumption | omega)) dX8_opens_123 ?_
      refine zr_iinc5 (v := (nI (k - 1))) X (zdec1 (n := k) (by omega)) (by decide) rfl dX8_opens_124 ?_
      refine zr_goto (tgt := 99) X dX8_opens_127 (by decide) ?_
      obtain ⟨k8, rfl⟩ : ∃ k8, k = k8 + 1 := ⟨k - 1, by omega⟩
      refine zr_I (zshr_i9 (p := 16 + 29 * g + (9 + 10 * 1 + k8)) (by omega) (by omega)) ?_
      exact ih k8 (by omega) (by omega)
set_option maxRecDepth 20000 in
theorem zp1_X8_opens {l : Launch} {D : va_G} {b0 : Nat} {tA : Nat → ClassId} {sa sv : Nat → Nat} {K : Nat → Option Nat} {I : zI} {Qp : zI → Option AV → Prop} {Xp : String → zI → Prop} {a g : Nat} {S : zS}
    (hM : zMd I a S) (hg : g < 6) (hw : ∀ y ∈ (sL S g 1), y ≤ 12) (hb : ∀ c : Nat, (sC S c 1 = 0 ∨ sC S c 1 = 1) ∧ (sC S c 2 = 0 ∨ sC S c 2 = 1)) (hm : sG S g 0 = 0 ∨ sG S g 0 = 1 ∨ sG S g 0 = 2) (k2 : qTurn S g = 1) (k1 : ∀ J : zI, zag I J a 1 → zMd J a (qOpen S g) → Qp J none) :
    zC l D b0 tA sa sv K yX8_opens (.code yX8_opens cX8_opens 6 none) zrm_X8_opens [vr (a) 15, vi ((nI g))] I Qp Xp := by
  have hl9 := hM.len hg (show 1 < 2 by decide)
  refine zC_of (by decide +kernel) (Nat.le_of_ble_eq_true rfl) ?_
  intro p e s m args below meth c X hnt
  have X : zX p l e zrm_X8_opens s m args below meth c RX8 cX8_opens 6 none D b0 tA sa sv := X
  refine zr_lv (lv2 := [some (vr (a) 15), some (vi ((nI g))), none, none, none, none]) rfl ?_
  refine zr_aload0 X dX8_opens_0 ?_
  refine zr_iload1 X dX8_opens_1 ?_
  refine zr_callS2 (rm9 := zrm_X8_turnOf) X hnt zm_X8_78 (by decide) (by decide) (by decide) (Nat.le_of_ble_eq_true rfl) dX8_opens_2 ?_
  refine zn_X8_turnOf hM hg hm ?_; rw [k2]
  refine zr_istore2 X (by decide) rfl dX8_opens_5 ?_
  refine zr_iconst (v := (0 : Int32)) X dX8_opens_6 (by decide) ?_
  refine zr_istore3 X (by decide) rfl dX8_opens_7 ?_
  refine zl1_X8_opens X hnt hM hg hw (fun j hx1 hx2 hx3 => ?_) 12 0 (by omega) (fun i hi => absurd hi (Nat.not_lt_zero _)) (by omega)
  refine zr_iload3 X dX8_opens_35 ?_
  refine zr_aload0 X dX8_opens_36 ?_
  refine zr_iload1 X dX8_opens_37 ?_
  refine zr_iload2 X dX8_opens_38 ?_
  refine zr_callS3 (rm9 := zrm_X8_many) X hnt zm_X8_38 (by decide) (by decide) (by decide) (Nat.le_of_ble_eq_true rfl) dX8_opens_39 ?_
  refine zn_X8_many (g := g) (s9 := 1) hM (by omega) (by omega) ?_
  refine zr_nicmp_ne X (j) (((sL S g 1).length)) (tgt := 46) (by omega) (by omega) dX8_opens_42 (by decide) (fun h1 => ?_) (fun h1 => ?_)
  · skip
    have hjl : j < (sL S g 1).length := by omega
    obtain ⟨c9, hc9⟩ := Nat.exists_eq_succ_of_ne_zero (hx3 hjl)
    have hc12 : c9 < 12 := by (have := zgd12 hw j; omega)
    refine zr_aload0 X dX8_opens_46 ?_
    refine zr_iload1 X dX8_opens_47 ?_
    refine zr_iload2 X dX8_opens_48 ?_
    refine zr_iload3 X dX8_opens_49 ?_
    refine zr_callS4 (rm9 := zrm_X8_takes) X hnt zm_X8_68 (by decide) (by decide) (by decide) (Nat.le_of_ble_eq_true rfl) dX8_opens_50 ?_
    refine zp_X8_takes (g := g) (s9 := 1) (k := j) hM (by omega) (by omega) (hjl) ?_
    intro J1 hg2 hM3
    refine zr_istore4 X (by decide) rfl dX8_opens_53 ?_
    refine zr_aload0 X dX8_opens_55 ?_
    refine zr_iload4 X dX8_opens_56 ?_
    refine zr_iconst (v := (1 : Int32)) X dX8_opens_58 (by decide) ?_
    refine zr_isub X dX8_opens_59 ?_
    refine zr_eq (x2 := (nI c9)) (by rw [hc9]; exact pk_sub (a := c9 + 1) (b := 1) (by omega)) ?_
    refine zr_iload2 X dX8_opens_60 ?_
    refine zr_callS3 (rm9 := zrm_X8_refusal) X hnt zm_X8_81 (by decide) (by decide) (by decide) (Nat.le_of_ble_eq_true rfl) dX8_opens_61 ?_
    refine zn_X8_refusal (c9 := c9) (s9 := 1) hM3 (by omega) (by omega) ?_; have hq4 := qRef_lt (S := (tL S g 1 ((sL S g 1).eraseIdx j))) (c := c9) (s := 1)
    refine zr_nif_le X ((qRef (tL S g 1 ((sL S g 1).eraseIdx j)) c9 1)) (tgt := 91) (by omega) dX8_opens_64 (by decide) (fun h2 => ?_) (fun h2 => ?_)
    · skip
      refine zr_aload0 X dX8_opens_91 ?_
      refine zr_iload1 X dX8_opens_92 ?_
      refine zr_iload2 X dX8_opens_93 ?_
      refine zr_callS3 (rm9 := zrm_X8_many) X hnt zm_X8_38 (by decide) (by decide) (by decide) (Nat.le_of_ble_eq_true rfl) dX8_opens_94 ?_
      refine zn_X8_many (g := g) (s9 := 1) hM3 (by omega) (by omega) ?_
      refine zr_istore5 X (by decide) rfl dX8_opens_97 ?_
      have hL9 : (sL (tL S g 1 ((sL S g 1).eraseIdx j)) g 1).length < 10 := by rw [tL_L, if_pos ⟨rfl, rfl⟩, zlen_erase hjl]; omega
      refine zr_I (zshr_0 (d := a) (hi := 16 + 29 * g + (9 + 10 * 1 + (sL (tL S g 1 ((sL S g 1).eraseIdx j)) g 1).length))).symm ?_
      refine zl21_X8_opens X hnt hg hL9 ?_ 11 _ (Nat.le_refl _) (by omega)
      have hM9 := zMd_ahead (x := (sL S g 1).getD j 0) hM3 hg (show 1 < 2 by decide) hL9
      have hag8 : zag I (zput (zput (zshr J1 a (16 + 29 * g + (9 + 10 * 1 + 0)) (16 + 29 * g + (9 + 10 * 1 + (sL (tL S g 1 ((sL S g 1).eraseIdx j)) g 1).length))) a (16 + 29 * g + (9 + 10 * 1 + 0)) (nI ((sL S g 1).getD j 0))) a (16 + 29 * g + (7 + 1)) (nI ((sL (tL S g 1 ((sL S g 1).eraseIdx j)) g 1).length + 1))) a 1 := zag.tr hg2 (show zag J1 (zput (zput (zshr J1 a (16 + 29 * g + (9 + 10 * 1 + 0)) (16 + 29 * g + (9 + 10 * 1 + (sL (tL S g 1 ((sL S g 1).eraseIdx j)) g 1).length))) a (16 + 29 * g + (9 + 10 * 1 + 0)) (nI ((sL S g 1).getD j 0))) a (16 + 29 * g + (7 + 1)) (nI ((sL (tL S g 1 ((sL S g 1).eraseIdx j)) g 1).length + 1))) a 1 from fun q hq => (zput_nq (by omega)).trans ((zput_nq (by omega)).trans (zshr_ne (by omega)))) (by omega) (by omega)
      refine zr_aload0 X dX8_opens_130 ?_
      refine zr_iload1 X dX8_opens_131 ?_
      refine zr_iload2 X dX8_opens_132 ?_
      refine zr_iconst (v := (0 : Int32)) X dX8_opens_133 (by decide) ?_
      refine zr_callS3 (rm9 := zrm_X8_placeAt) X hnt zm_X8_42 (by decide) (by decide) (by decide) (Nat.le_of_ble_eq_true rfl) dX8_opens_134 ?_
      refine zn_X8_placeAt (g := g) (s9 := 1) (k9 := 0) ?_
      refine zr_iload4 X dX8_opens_137 ?_
      refine zr_iastN X rfl (show _ < 310 from (by first | assumption | omega)) dX8_opens_139 ?_
      refine zr_aload0 X dX8_opens_140 ?_
      refine zr_iload1 X dX8_opens_141 ?_
      refine zr_bipush (v := (7 : Int32)) X dX8_opens_142 (by decide) ?_
      refine zr_iload2 X dX8_opens_144 ?_
      refine zr_iadd X dX8_opens_145 ?_
      refine zr_eq (x2 := (8 : Int32)) (by decide) ?_
      refine zr_callS2 (rm9 := zrm_X8_gateAt) X hnt zm_X8_34 (by decide) (by decide) (by decide) (Nat.le_of_ble_eq_true rfl) dX8_opens_146 ?_
      refine zn_X8_gateAt (g := g) (w := 8) ?_
      refine zr_dup2 X dX8_opens_149 ?_
      refine zr_ialdN X rfl (show _ < 310 from (by first | assumption | omega)) dX8_opens_150 ?_
      refine zr_eq (x2 := (nI ((sL (tL S g 1 ((sL S g 1).eraseIdx j)) g 1).length))) (by rw [zput_nj (by omega), zshr_out (by omega)]; exact (((hM3).2.1 g hg).2 1 (by decide)).1) ?_
      refine zr_iconst (v := (1 : Int32)) X dX8_opens_151 (by decide) ?_
      refine zr_iadd X dX8_opens_152 ?_
      refine zr_eq (x2 := (nI (((sL (tL S g 1 ((sL S g 1).eraseIdx j)) g 1).length) + 1))) (nI_add (((sL (tL S g 1 ((sL S g 1).eraseIdx j)) g 1).length)) (1)) ?_
      refine zr_iastN X rfl (show _ < 310 from (by first | assumption | omega)) dX8_opens_153 ?_
      refine zr_aload0 X dX8_opens_154 ?_
      refine zr_iload1 X dX8_opens_155 ?_
      refine zr_iconst (v := (1 : Int32)) X dX8_opens_156 (by decide) ?_
      refine zr_callS2 (rm9 := zrm_X8_gateAt) X hnt zm_X8_34 (by decide) (by decide) (by decide) (Nat.le_of_ble_eq_true rfl) dX8_opens_157 ?_
      refine zn_X8_gateAt (g := g) (w := 1) ?_
      refine zr_aload0 X dX8_opens_160 ?_
      refine zr_iconst (v := (0 : Int32)) X dX8_opens_161 (by decide) ?_
      refine zr_ialdN (n := 0) X rfl (show _ < 310 from (by first | assumption | omega | decide)) dX8_opens_162 ?_
      refine zr_eq (x2 := (sX (tL (tL S g 1 ((sL S g 1).eraseIdx j)) g 1 ((sL S g 1).getD j 0 :: sL (tL S g 1 ((sL S g 1).eraseIdx j)) g 1)) 0)) (hM9.1 0 (by decide)) ?_
      refine zr_iastN X rfl (show _ < 310 from (by first | assumption | omega)) dX8_opens_163 ?_
      have hM_1 : zMd _ (a) (tG (tL (tL S g 1 ((sL S g 1).eraseIdx j)) g 1 ((sL S g 1).getD j 0 :: sL (tL S g 1 ((sL S g 1).eraseIdx j)) g 1)) g 1 (sX (tL (tL S g 1 ((sL S g 1).eraseIdx j)) g 1 ((sL S g 1).getD j 0 :: sL (tL S g 1 ((sL S g 1).eraseIdx j)) g 1)) 0)) := zMd_G hM9 (g := g) (j := 1) (v := (sX (tL (tL S g 1 ((sL S g 1).eraseIdx j)) g 1 ((sL S g 1).getD j 0 :: sL (tL S g 1 ((sL S g 1).eraseIdx j)) g 1)) 0)) (by omega) (by first | decide | omega)
      refine zr_aload0 X dX8_opens_164 ?_
      refine zr_iload1 X dX8_opens_165 ?_
      refine zr_iconst (v := (2 : Int32)) X dX8_opens_166 (by decide) ?_
      refine zr_callS2 (rm9 := zrm_X8_gateAt) X hnt zm_X8_34 (by decide) (by decide) (by decide) (Nat.le_of_ble_eq_true rfl) dX8_opens_167 ?_
      refine zn_X8_gateAt (g := g) (w := 2) ?_
      refine zr_iload2 X dX8_opens_170 ?_
      refine zr_iconst (v := (1 : Int32)) X dX8_opens_171 (by decide) ?_
      refine zr_iadd X dX8_opens_172 ?_
      refine zr_eq (x2 := (2 : Int32)) (by decide) ?_
      refine zr_iastN X rfl (show _ < 310 from (by first | assumption | omega)) dX8_opens_173 ?_
      have hM_2 : zMd _ (a) (tG (tG (tL (tL S g 1 ((sL S g 1).eraseIdx j)) g 1 ((sL S g 1).getD j 0 :: sL (tL S g 1 ((sL S g 1).eraseIdx j)) g 1)) g 1 (sX (tL (tL S g 1 ((sL S g 1).eraseIdx j)) g 1 ((sL S g 1).getD j 0 :: sL (tL S g 1 ((sL S g 1).eraseIdx j)) g 1)) 0)) g 2 (2 : Int32)) := zMd_G hM_1 (g := g) (j := 2) (v := (2 : Int32)) (by omega) (by first | decide | omega)
      refine zr_aload0 X dX8_opens_174 ?_
      refine zr_iload1 X dX8_opens_175 ?_
      refine zr_iconst (v := (3 : Int32)) X dX8_opens_176 (by decide) ?_
      refine zr_callS2 (rm9 := zrm_X8_gateAt) X hnt zm_X8_34 (by decide) (by decide) (by decide) (Nat.le_of_ble_eq_true rfl) dX8_opens_177 ?_
      refine zn_X8_gateAt (g := g) (w := 3) ?_
      refine zr_iconst (v := (1 : Int32)) X dX8_opens_180 (by decide) ?_
      refine zr_iastN X rfl (show _ < 310 from (by first | assumption | omega)) dX8_opens_181 ?_
      have hM_3 : zMd _ (a) (tG (tG (tG (tL (tL S g 1 ((sL S g 1).eraseIdx j)) g 1 ((sL S g 1).getD j 0 :: sL (tL S g 1 ((sL S g 1).eraseIdx j)) g 1)) g 1 (sX (tL (tL S g 1 ((sL S g 1).eraseIdx j)) g 1 ((sL S g 1).getD j 0 :: sL (tL S g 1 ((sL S g 1).eraseIdx j)) g 1)) 0)) g 2 (2 : Int32)) g 3 (1 : Int32)) := zMd_G hM_2 (g := g) (j := 3) (v := (1 : Int32)) (by omega) (by first | decide | omega)
      refine zr_aload0 X dX8_opens_182 ?_
      refine zr_iload1 X dX8_opens_183 ?_
      refine zr_iconst (v := (5 : Int32)) X dX8_opens_184 (by decide) ?_
      refine zr_callS2 (rm9 := zrm_X8_gateAt) X hnt zm_X8_34 (by decide) (by decide) (by decide) (Nat.le_of_ble_eq_true rfl) dX8_opens_185 ?_
      refine zn_X8_gateAt (g := g) (w := 5) ?_
      refine zr_dup2 X dX8_opens_188 ?_
      refine zr_ialdN (n := 16 + 29 * g + 5) X rfl (show _ < 310 from (by first | assumption | omega | decide)) dX8_opens_189 ?_
      refine zr_eq (x2 := (sG (tG (tG (tG (tL (tL S g 1 ((sL S g 1).eraseIdx j)) g 1 ((sL S g 1).getD j 0 :: sL (tL S g 1 ((sL S g 1).eraseIdx j)) g 1)) g 1 (sX (tL (tL S g 1 ((sL S g 1).eraseIdx j)) g 1 ((sL S g 1).getD j 0 :: sL (tL S g 1 ((sL S g 1).eraseIdx j)) g 1)) 0)) g 2 (2 : Int32)) g 3 (1 : Int32)) g 5)) ((hM_3.2.1 g (by omega)).1 5 (by first | decide | omega)) ?_
      refine zr_iconst (v := (1 : Int32)) X dX8_opens_190 (by decide) ?_
      refine zr_iadd X dX8_opens_191 ?_
      refine zr_iastN X rfl (show _ < 310 from (by first | assumption | omega)) dX8_opens_192 ?_
      have hM_4 : zMd _ (a) (tG (tG (tG (tG (tL (tL S g 1 ((sL S g 1).eraseIdx j)) g 1 ((sL S g 1).getD j 0 :: sL (tL S g 1 ((sL S g 1).eraseIdx j)) g 1)) g 1 (sX (tL (tL S g 1 ((sL S g 1).eraseIdx j)) g 1 ((sL S g 1).getD j 0 :: sL (tL S g 1 ((sL S g 1).eraseIdx j)) g 1)) 0)) g 2 (2 : Int32)) g 3 (1 : Int32)) g 5 ((sG (tG (tG (tG (tL (tL S g 1 ((sL S g 1).eraseIdx j)) g 1 ((sL S g 1).getD j 0 :: sL (tL S g 1 ((sL S g 1).eraseIdx j)) g 1)) g 1 (sX (tL (tL S g 1 ((sL S g 1).eraseIdx j)) g 1 ((sL S g 1).getD j 0 :: sL (tL S g 1 ((sL S g 1).eraseIdx j)) g 1)) 0)) g 2 (2 : Int32)) g 3 (1 : Int32)) g 5) + (1 : Int32))) := zMd_G hM_3 (g := g) (j := 5) (v := ((sG (tG (tG (tG (tL (tL S g 1 ((sL S g 1).eraseIdx j)) g 1 ((sL S g 1).getD j 0 :: sL (tL S g 1 ((sL S g 1).eraseIdx j)) g 1)) g 1 (sX (tL (tL S g 1 ((sL S g 1).eraseIdx j)) g 1 ((sL S g 1).getD j 0 :: sL (tL S g 1 ((sL S g 1).eraseIdx j)) g 1)) 0)) g 2 (2 : Int32)) g 3 (1 : Int32)) g 5) + (1 : Int32))) (by omega) (by first | decide | omega)
      refine zr_aload0 X dX8_opens_193 ?_
      refine zr_iload1 X dX8_opens_194 ?_
      refine zr_bipush (v := (6 : Int32)) X dX8_opens_195 (by decide) ?_
      refine zr_callS2 (rm9 := zrm_X8_gateAt) X hnt zm_X8_34 (by decide) (by decide) (by decide) (Nat.le_of_ble_eq_true rfl) dX8_opens_197 ?_
      refine zn_X8_gateAt (g := g) (w := 6) ?_
      refine zr_iload2 X dX8_opens_200 ?_
      refine zr_iconst (v := (1 : Int32)) X dX8_opens_201 (by decide) ?_
      refine zr_iadd X dX8_opens_202 ?_
      refine zr_eq (x2 := (2 : Int32)) (by decide) ?_
      refine zr_iastN X rfl (show _ < 310 from (by first | assumption | omega)) dX8_opens_203 ?_
      have hM_5 : zMd _ (a) (tG (tG (tG (tG (tG (tL (tL S g 1 ((sL S g 1).eraseIdx j)) g 1 ((sL S g 1).getD j 0 :: sL (tL S g 1 ((sL S g 1).eraseIdx j)) g 1)) g 1 (sX (tL (tL S g 1 ((sL S g 1).eraseIdx j)) g 1 ((sL S g 1).getD j 0 :: sL (tL S g 1 ((sL S g 1).eraseIdx j)) g 1)) 0)) g 2 (2 : Int32)) g 3 (1 : Int32)) g 5 ((sG (tG (tG (tG (tL (tL S g 1 ((sL S g 1).eraseIdx j)) g 1 ((sL S g 1).getD j 0 :: sL (tL S g 1 ((sL S g 1).eraseIdx j)) g 1)) g 1 (sX (tL (tL S g 1 ((sL S g 1).eraseIdx j)) g 1 ((sL S g 1).getD j 0 :: sL (tL S g 1 ((sL S g 1).eraseIdx j)) g 1)) 0)) g 2 (2 : Int32)) g 3 (1 : Int32)) g 5) + (1 : Int32))) g 6 (2 : Int32)) := zMd_G hM_4 (g := g) (j := 6) (v := (2 : Int32)) (by omega) (by first | decide | omega)
      refine zr_vret X (by decide) (by decide) dX8_opens_204 ?_
      refine k1 _ (by repeat (first | exact hag8 | refine zag.put ?_ (by omega) (by omega))) ?_
      refine cast (congrArg (zMd _ a) ?_) hM_5
      rw [qOpen, k2, qFirst_of hjl (hx3 hjl) hx2, if_pos hjl, qOpenAt, hc9, Nat.succ_sub_one]
      rw [if_pos (by have h8 : qRef (tL S g 1 ((sL S g 1).eraseIdx j)) c9 1 = 0 := (by omega); exact h8), tL_tL, tL_L, if_pos ⟨rfl, rfl⟩]; unfold qOpened; rw [show nI (1 + 1) = (2 : Int32) from rfl]; simp [tG_G]
    · skip
      refine zr_aload0 X dX8_opens_67 ?_
      refine zr_bipush (v := (12 : Int32)) X dX8_opens_68 (by decide) ?_
      refine zr_dup2 X dX8_opens_70 ?_
      refine zr_ialdN (n := 12) X rfl (show _ < 310 from (by first | assumption | omega | decide)) dX8_opens_71 ?_
      refine zr_eq (x2 := (sX (tL S g 1 ((sL S g 1).eraseIdx j)) 12)) (hM3.1 12 (by decide)) ?_
      refine zr_iconst (v := (1 : Int32)) X dX8_opens_72 (by decide) ?_
      refine zr_iadd X dX8_opens_73 ?_
      refine zr_iastN (n := 12) X rfl (by decide) dX8_opens_74 ?_
      have hM_6 : zMd _ (a) (tX (tL S g 1 ((sL S g 1).eraseIdx j)) 12 ((sX (tL S g 1 ((sL S g 1).eraseIdx j)) 12) + (1 : Int32))) := zMd_X hM3 (i := 12) (v := ((sX (tL S g 1 ((sL S g 1).eraseIdx j)) 12) + (1 : Int32))) (by decide)
      refine zr_aload0 X dX8_opens_75 ?_
      refine zr_bipush (v := (15 : Int32)) X dX8_opens_76 (by decide) ?_
      refine zr_dup2 X dX8_opens_78 ?_
      refine zr_ialdN (n := 15) X rfl (show _ < 310 from (by first | assumption | omega | decide)) dX8_opens_79 ?_
      refine zr_eq (x2 := (sX (tX (tL S g 1 ((sL S g 1).eraseIdx j)) 12 ((sX (tL S g 1 ((sL S g 1).eraseIdx j)) 12) + (1 : Int32))) 15)) (hM_6.1 15 (by decide)) ?_
      refine zr_iload2 X dX8_opens_80 ?_
      refine zr_iadd X dX8_opens_81 ?_
      refine zr_iastN (n := 15) X rfl (by decide) dX8_opens_82 ?_
      have hM_7 : zMd _ (a) (tX (tX (tL S g 1 ((sL S g 1).eraseIdx j)) 12 ((sX (tL S g 1 ((sL S g 1).eraseIdx j)) 12) + (1 : Int32))) 15 ((sX (tX (tL S g 1 ((sL S g 1).eraseIdx j)) 12 ((sX (tL S g 1 ((sL S g 1).eraseIdx j)) 12) + (1 : Int32))) 15) + (1 : Int32))) := zMd_X hM_6 (i := 15) (v := ((sX (tX (tL S g 1 ((sL S g 1).eraseIdx j)) 12 ((sX (tL S g 1 ((sL S g 1).eraseIdx j)) 12) + (1 : Int32))) 15) + (1 : Int32))) (by decide)
      refine zr_aload0 X dX8_opens_83 ?_
      refine zr_iconst (v := (3 : Int32)) X dX8_opens_84 (by decide) ?_
      refine zr_dup2 X dX8_opens_85 ?_
      refine zr_ialdN (n := 3) X rfl (show _ < 310 from (by first | assumption | omega | decide)) dX8_opens_86 ?_
      refine zr_eq (x2 := (sX (tX (tX (tL S g 1 ((sL S g 1).eraseIdx j)) 12 ((sX (tL S g 1 ((sL S g 1).eraseIdx j)) 12) + (1 : Int32))) 15 ((sX (tX (tL S g 1 ((sL S g 1).eraseIdx j)) 12 ((sX (tL S g 1 ((sL S g 1).eraseIdx j)) 12) + (1 : Int32))) 15) + (1 : Int32))) 3)) (hM_7.1 3 (by decide)) ?_
      refine zr_iload2 X dX8_opens_87 ?_
      refine zr_isub X dX8_opens_88 ?_
      refine zr_iastN (n := 3) X rfl (by decide) dX8_opens_89 ?_
      have hM_8 : zMd _ (a) (tX (tX (tX (tL S g 1 ((sL S g 1).eraseIdx j)) 12 ((sX (tL S g 1 ((sL S g 1).eraseIdx j)) 12) + (1 : Int32))) 15 ((sX (tX (tL S g 1 ((sL S g 1).eraseIdx j)) 12 ((sX (tL S g 1 ((sL S g 1).eraseIdx j)) 12) + (1 : Int32))) 15) + (1 : Int32))) 3 ((sX (tX (tX (tL S g 1 ((sL S g 1).eraseIdx j)) 12 ((sX (tL S g 1 ((sL S g 1).eraseIdx j)) 12) + (1 : Int32))) 15 ((sX (tX (tL S g 1 ((sL S g 1).eraseIdx j)) 12 ((sX (tL S g 1 ((sL S g 1).eraseIdx j)) 12) + (1 : Int32))) 15) + (1 : Int32))) 3) - (1 : Int32))) := zMd_X hM_7 (i := 3) (v := ((sX (tX (tX (tL S g 1 ((sL S g 1).eraseIdx j)) 12 ((sX (tL S g 1 ((sL S g 1).eraseIdx j)) 12) + (1 : Int32))) 15 ((sX (tX (tL S g 1 ((sL S g 1).eraseIdx j)) 12 ((sX (tL S g 1 ((sL S g 1).eraseIdx j)) 12) + (1 : Int32))) 15) + (1 : Int32))) 3) - (1 : Int32))) (by decide)
      refine zr_vret X (by decide) (by decide) dX8_opens_90 ?_
      refine k1 _ (by repeat (first | exact zag.rf | assumption | refine zag.put ?_ (by omega) (by omega) | refine zag.tr ?_ (by assumption) (by omega) (by omega))) ?_
      refine cast (congrArg (zMd _ a) ?_) hM_8
      rw [qOpen, k2, qFirst_of hjl (hx3 hjl) hx2, if_pos hjl, qOpenAt, hc9, Nat.succ_sub_one]
      rw [if_neg (by have h8 : ¬ qRef (tL S g 1 ((sL S g 1).eraseIdx j)) c9 1 = 0 := (by omega); exact h8)]; simp only [tX_id, qAway]; first | rfl | (rw [if_neg (by decide)])
  · skip
    refine zr_vret X (by decide) (by decide) dX8_opens_45 ?_
    refine k1 _ (by repeat (first | exact zag.rf | assumption | refine zag.put ?_ (by omega) (by omega) | refine zag.tr ?_ (by assumption) (by omega) (by omega))) ?_
    refine cast (congrArg (zMd _ a) ?_) hM
    rw [qOpen, k2, if_neg (qFirst_none (fun i hi => hx2 i (by omega)))]
theorem zq_X8_opens {l : Launch} {D : va_G} {b0 : Nat} {tA : Nat → ClassId} {sa sv : Nat → Nat} {K : Nat → Option Nat} {I : zI} {Qp : zI → Option AV → Prop} {Xp : String → zI → Prop} {a g : Nat} {S : zS} (hM : zMd I a S) (hg : g < 6) (hw : ∀ s, ∀ y ∈ sL S g s, y ≤ 12) (hb : ∀ c : Nat, (sC S c 1 = 0 ∨ sC S c 1 = 1) ∧ (sC S c 2 = 0 ∨ sC S c 2 = 1)) (hP : zPad S g) (k1 : ∀ J : zI, zag I J a 1 → zMd J a (qOpen S g) → Qp J none) :
    zC l D b0 tA sa sv K yX8_opens (.code yX8_opens cX8_opens 6 none) zrm_X8_opens [vr (a) 15, vi ((nI g))] I Qp Xp := by
  rcases qTurn_lt (S := S) (g := g) with h | h
  · exact zp0_X8_opens hM hg (hw 0) hb hP.1 h k1
  · exact zp1_X8_opens hM hg (hw 1) hb hP.1 h k1
