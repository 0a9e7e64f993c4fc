/-! ===== what the class does to a row ===== -/
theorem zside (n : Nat) : zgv 2 (nI (n + 1)) = nI n := by
  show nI (n + 1) - 1 = nI n
  exact pk_sub (a := n + 1) (b := 1) (by omega)
theorem zside6 (n : Nat) : zgv 6 (nI (n + 1)) = nI n := zside n
theorem qGone_tG {S : zS} {w s g j : Nat} {v : Int32} : qGone (tG S g j v) w s = tG (qGone S w s) g j v := by
  unfold qGone qPassed
  split <;> split <;> first | rfl | (split <;> rfl)
set_option maxRecDepth 20000 in
theorem zp0_X0_passFrom {l : Launch} {D : va_G} {b0 : Nat} {tA : Nat → ClassId} {sa sv : Nat → Nat} {K : zKt} {I : zI} {Qp : zI → Option AV → Prop} {Xp : String → zI → Prop} {a c9 : Nat} {S : zS}
    (hR : zRw I a S) (hc : c9 < 12) (k1 : ∀ I' : zI, zag I I' a 45 → zRw I' a (qPassed S c9 0) → Qp I' none) :
    zC l D b0 tA sa sv K yX0_passFrom (.code yX0_passFrom cX0_passFrom 2 none) zrm_X0_passFrom [vr (a + 2 + 31 + 1 * c9) 0, vi ((0 : Int32))] I Qp Xp := by
  refine zC_of (by decide +kernel) (Nat.le_of_ble_eq_true rfl) ?_
  intro p e s m args below meth c X hnt
  have X : zX p l e zrm_X0_passFrom s m args below meth c RX0 cX0_passFrom 2 none D b0 tA sa sv := X
  refine zr_lv (lv2 := [some (vr (a + 2 + 31 + 1 * c9) 0), some (vi ((0 : Int32)))]) rfl ?_
  refine zr_aload0 X dX0_passFrom_0 ?_
  refine zr_iload1 X dX0_passFrom_1 ?_
  refine zr_if_ne (tgt := 9) X dX0_passFrom_2 (by decide) (fun h => absurd h (by decide)) (fun _ => ?_)
  refine zr_iconst (v := (1 : Int32)) X dX0_passFrom_5 (by decide) ?_
  refine zr_goto (tgt := 10) X dX0_passFrom_6 (by decide) ?_
  refine zr_putI X zf_X0_18 rfl (Or.inr (by first | decide | assumption | (simp; done))) dX0_passFrom_10 ?_
  have hR_1 : zRw _ (a) (tC S c9 1 (1 : Int32)) := zRw_C hR (show c9 < 12 by omega) (j := 1) (v := (1 : Int32)) (by decide) rfl
  refine zr_iload1 X dX0_passFrom_13 ?_
  refine zr_if_ne (tgt := 27) X dX0_passFrom_14 (by decide) (fun h => absurd h (by decide)) (fun _ => ?_)
  refine zr_aload0 X dX0_passFrom_17 ?_
  refine zr_dupR X dX0_passFrom_18 ?_
  refine zr_getI X zf_X0_15 rfl dX0_passFrom_19 ?_
  refine zr_eq (x2 := (sC (tC S c9 1 (1 : Int32)) c9 0)) ((hR_1.2.2.2 c9 (by omega)).2.1) ?_
  refine zr_iconst (v := (1 : Int32)) X dX0_passFrom_22 (by decide) ?_
  refine zr_isub X dX0_passFrom_23 ?_
  refine zr_putI X zf_X0_15 rfl (Or.inl rfl) dX0_passFrom_24 ?_
  have hR_2 : zRw _ (a) (tC (tC S c9 1 (1 : Int32)) c9 0 ((sC (tC S c9 1 (1 : Int32)) c9 0) - (1 : Int32))) := zRw_C hR_1 (show c9 < 12 by omega) (j := 0) (v := ((sC (tC S c9 1 (1 : Int32)) c9 0) - (1 : Int32))) (by decide) rfl
  refine zr_aload0 X dX0_passFrom_27 ?_
  refine zr_dupR X dX0_passFrom_28 ?_
  refine zr_getI X zf_X0_25 rfl dX0_passFrom_29 ?_
  refine zr_eq (x2 := (sC (tC (tC S c9 1 (1 : Int32)) c9 0 ((sC (tC S c9 1 (1 : Int32)) c9 0) - (1 : Int32))) c9 3)) ((hR_2.2.2.2 c9 (by omega)).2.2.2.2) ?_
  refine zr_iconst (v := (1 : Int32)) X dX0_passFrom_32 (by decide) ?_
  refine zr_iadd X dX0_passFrom_33 ?_
  refine zr_putI X zf_X0_25 rfl (Or.inl rfl) dX0_passFrom_34 ?_
  have hR_3 : zRw _ (a) (tC (tC (tC S c9 1 (1 : Int32)) c9 0 ((sC (tC S c9 1 (1 : Int32)) c9 0) - (1 : Int32))) c9 3 ((sC (tC (tC S c9 1 (1 : Int32)) c9 0 ((sC (tC S c9 1 (1 : Int32)) c9 0) - (1 : Int32))) c9 3) + (1 : Int32))) := zRw_C hR_2 (show c9 < 12 by omega) (j := 3) (v := ((sC (tC (tC S c9 1 (1 : Int32)) c9 0 ((sC (tC S c9 1 (1 : Int32)) c9 0) - (1 : Int32))) c9 3) + (1 : Int32))) (by decide) rfl
  refine zr_vret X (by decide) (by decide) dX0_passFrom_37 ?_
  refine k1 _ (by repeat (first | exact zag.rf | assumption | refine zag.put ?_ (by omega) (by omega) | refine zag.tr ?_ (by assumption) (by omega) (by omega))) ?_
  exact cast (congrArg (zRw _ a) (by unfold qPassed; simp [tC, sC, zu2, *])) hR_3
set_option maxRecDepth 20000 in
theorem zp1_X0_passFrom {l : Launch} {D : va_G} {b0 : Nat} {tA : Nat → ClassId} {sa sv : Nat → Nat} {K : zKt} {I : zI} {Qp : zI → Option AV → Prop} {Xp : String → zI → Prop} {a c9 : Nat} {S : zS}
    (hR : zRw I a S) (hc : c9 < 12) (k1 : ∀ I' : zI, zag I I' a 45 → zRw I' a (qPassed S c9 1) → Qp I' none) :
    zC l D b0 tA sa sv K yX0_passFrom (.code yX0_passFrom cX0_passFrom 2 none) zrm_X0_passFrom [vr (a + 2 + 31 + 1 * c9) 0, vi ((1 : Int32))] I Qp Xp := by
  refine zC_of (by decide +kernel) (Nat.le_of_ble_eq_true rfl) ?_
  intro p e s m args below meth c X hnt
  have X : zX p l e zrm_X0_passFrom s m args below meth c RX0 cX0_passFrom 2 none D b0 tA sa sv := X
  refine zr_lv (lv2 := [some (vr (a + 2 + 31 + 1 * c9) 0), some (vi ((1 : Int32)))]) rfl ?_
  refine zr_aload0 X dX0_passFrom_0 ?_
  refine zr_iload1 X dX0_passFrom_1 ?_
  refine zr_if_ne (tgt := 9) X dX0_passFrom_2 (by decide) (fun _ => ?_) (fun h => absurd h (by decide))
  refine zr_iconst (v := (0 : Int32)) X dX0_passFrom_9 (by decide) ?_
  refine zr_putI X zf_X0_18 rfl (Or.inr (by first | decide | assumption | (simp; done))) dX0_passFrom_10 ?_
  have hR_1 : zRw _ (a) (tC S c9 1 (0 : Int32)) := zRw_C hR (show c9 < 12 by omega) (j := 1) (v := (0 : Int32)) (by decide) rfl
  refine zr_iload1 X dX0_passFrom_13 ?_
  refine zr_if_ne (tgt := 27) X dX0_passFrom_14 (by decide) (fun _ => ?_) (fun h => absurd h (by decide))
  refine zr_aload0 X dX0_passFrom_27 ?_
  refine zr_dupR X dX0_passFrom_28 ?_
  refine zr_getI X zf_X0_25 rfl dX0_passFrom_29 ?_
  refine zr_eq (x2 := (sC (tC S c9 1 (0 : Int32)) c9 3)) ((hR_1.2.2.2 c9 (by omega)).2.2.2.2) ?_
  refine zr_iconst (v := (1 : Int32)) X dX0_passFrom_32 (by decide) ?_
  refine zr_iadd X dX0_passFrom_33 ?_
  refine zr_putI X zf_X0_25 rfl (Or.inl rfl) dX0_passFrom_34 ?_
  have hR_2 : zRw _ (a) (tC (tC S c9 1 (0 : Int32)) c9 3 ((sC (tC S c9 1 (0 : Int32)) c9 3) + (1 : Int32))) := zRw_C hR_1 (show c9 < 12 by omega) (j := 3) (v := ((sC (tC S c9 1 (0 : Int32)) c9 3) + (1 : Int32))) (by decide) rfl
  refine zr_vret X (by decide) (by decide) dX0_passFrom_37 ?_
  refine k1 _ (by repeat (first | exact zag.rf | assumption | refine zag.put ?_ (by omega) (by omega) | refine zag.tr ?_ (by assumption) (by omega) (by omega))) ?_
  exact cast (congrArg (zRw _ a) (by unfold qPassed; simp [tC, sC, zu2, *])) hR_2
theorem zq_X0_passFrom {l : Launch} {D : va_G} {b0 : Nat} {tA : Nat → ClassId} {sa sv : Nat → Nat} {K : zKt} {I : zI} {Qp : zI → Option AV → Prop} {Xp : String → zI → Prop} {a c9 s : Nat} {S : zS} (hR : zRw I a S) (hc : c9 < 12) (hs : s < 2) (k1 : ∀ I' : zI, zag I I' a 45 → zRw I' a (qPassed S c9 s) → Qp I' none) :
    zC l D b0 tA sa sv K yX0_passFrom (.code yX0_passFrom cX0_passFrom 2 none) zrm_X0_passFrom [vr (a + 2 + 31 + 1 * c9) 0, vi ((nI s))] I Qp Xp := by
  rcases (show s = 0 ∨ s = 1 by omega) with rfl | rfl
  · exact zp0_X0_passFrom hR hc k1
  · exact zp1_X0_passFrom hR hc k1
set_option maxRecDepth 20000 in
theorem zp00_X5_goThrough {l : Launch} {D : va_G} {b0 : Nat} {tA : Nat → ClassId} {sa sv : Nat → Nat} {K : zKt} {I : zI} {Qp : zI → Option AV → Prop} {Xp : String → zI → Prop} {a : Nat} {S : zS}
    (hR : zRw I a S) (k1 : ∀ I' : zI, zag I I' a 45 → zRw I' a (qGone S 0 0) → Qp I' none) :
    zC l D b0 tA sa sv K yX5_goThrough (.code yX5_goThrough cX5_goThrough 3 none) zrm_X5_goThrough [vr (a) 5, vi ((-1 : Int32)), vi ((0 : Int32))] I Qp Xp := by
  refine zC_of (by decide +kernel) (Nat.le_of_ble_eq_true rfl) ?_
  intro p e s m args below meth c X hnt
  have X : zX p l e zrm_X5_goThrough s m args below meth c RX5 cX5_goThrough 3 none D b0 tA sa sv := X
  refine zr_lv (lv2 := [some (vr (a) 5), some (vi ((-1 : Int32))), some (vi ((0 : Int32)))]) rfl ?_
  refine zr_iload1 X dX5_goThrough_0 ?_
  refine zr_if_lt (tgt := 23) X dX5_goThrough_1 (by decide) (fun _ => ?_) (fun h => absurd h (by decide))
  refine zr_iload2 X dX5_goThrough_23 ?_
  refine zr_if_ne (tgt := 50) X dX5_goThrough_24 (by decide) (fun h => absurd h (by decide)) (fun _ => ?_)
  refine zr_aload0 X dX5_goThrough_27 ?_
  refine zr_dupR X dX5_goThrough_28 ?_
  refine zr_getI X zf_X5_54 rfl dX5_goThrough_29 ?_
  refine zr_eq (x2 := (sX S 9)) (hR.1 9 (by decide) (by decide)) ?_
  refine zr_iconst (v := (1 : Int32)) X dX5_goThrough_32 (by decide) ?_
  refine zr_iadd X dX5_goThrough_33 ?_
  refine zr_putI X zf_X5_54 rfl (Or.inl rfl) dX5_goThrough_34 ?_
  have hR_1 : zRw _ (a) (tX S 9 ((sX S 9) + (1 : Int32))) := zRw_X hR (i := 9) (v := ((sX S 9) + (1 : Int32))) (by decide) (by decide)
  refine zr_aload0 X dX5_goThrough_37 ?_
  refine zr_dupR X dX5_goThrough_38 ?_
  refine zr_getI X zf_X5_51 rfl dX5_goThrough_39 ?_
  refine zr_eq (x2 := (sX (tX S 9 ((sX S 9) + (1 : Int32))) 3)) (hR_1.1 3 (by decide) (by decide)) ?_
  refine zr_iconst (v := (1 : Int32)) X dX5_goThrough_42 (by decide) ?_
  refine zr_iadd X dX5_goThrough_43 ?_
  refine zr_putI X zf_X5_51 rfl (Or.inl rfl) dX5_goThrough_44 ?_
  have hR_2 : zRw _ (a) (tX (tX S 9 ((sX S 9) + (1 : Int32))) 3 ((sX (tX S 9 ((sX S 9) + (1 : Int32))) 3) + (1 : Int32))) := zRw_X hR_1 (i := 3) (v := ((sX (tX S 9 ((sX S 9) + (1 : Int32))) 3) + (1 : Int32))) (by decide) (by decide)
  refine zr_goto (tgt := 70) X dX5_goThrough_47 (by decide) ?_
  refine zr_vret X (by decide) (by decide) dX5_goThrough_70 ?_
  refine k1 _ (by repeat (first | exact zag.rf | assumption | refine zag.put ?_ (by omega) (by omega) | refine zag.tr ?_ (by assumption) (by omega) (by omega))) ?_
  exact cast (congrArg (zRw _ a) (by first | rfl | (unfold qGone; simp; done))) hR_2
set_option maxRecDepth 20000 in
theorem zp10_X5_goThrough {l : Launch} {D : va_G} {b0 : Nat} {tA : Nat → ClassId} {sa sv : Nat → Nat} {K : zKt} {I : zI} {Qp : zI → Option AV → Prop} {Xp : String → zI → Prop} {a c9 : Nat} {S : zS}
    (hR : zRw I a S) (hc : c9 < 12) (k1 : ∀ I' : zI, zag I I' a 45 → zRw I' a (qGone S (c9 + 1) 0) → Qp I' none) :
    zC l D b0 tA sa sv K yX5_goThrough (.code yX5_goThrough cX5_goThrough 3 none) zrm_X5_goThrough [vr (a) 5, vi ((nI c9)), vi ((0 : Int32))] I Qp Xp := by
  refine zC_of (by decide +kernel) (Nat.le_of_ble_eq_true rfl) ?_
  intro p e s m args below meth c X hnt
  have X : zX p l e zrm_X5_goThrough s m args below meth c RX5 cX5_goThrough 3 none D b0 tA sa sv := X
  refine zr_lv (lv2 := [some (vr (a) 5), some (vi ((nI c9))), some (vi ((0 : Int32)))]) rfl ?_
  refine zr_iload1 X dX5_goThrough_0 ?_
  refine zr_nif_lt X (c9) (tgt := 23) (by omega) dX5_goThrough_1 (by decide) (fun h => h.elim) (fun _ => ?_)
  refine zr_iload1 X dX5_goThrough_4 ?_
  refine zr_aload0 X dX5_goThrough_5 ?_
  refine zr_getR X zf_X5_19 rfl (by decide) (by decide) dX5_goThrough_6 ?_
  refine zr_alen (v := 12) X (Or.inr (Or.inl rfl)) rfl dX5_goThrough_9 ?_
  refine zr_nicmp_ge X (c9) (12) (tgt := 23) (by omega) (by omega) dX5_goThrough_10 (by decide) (fun h2 => ?_) (fun h2 => ?_)
  · exact absurd h2 (by omega)
  · skip
    refine zr_aload0 X dX5_goThrough_13 ?_
    refine zr_getR X zf_X5_19 rfl (by decide) (by decide) dX5_goThrough_14 ?_
    refine zr_iload1 X dX5_goThrough_17 ?_
    refine zr_aaldN X rfl rfl (by decide) (show _ < 12 from (by first | assumption | omega)) dX5_goThrough_18 ?_
    refine zr_iload2 X dX5_goThrough_19 ?_
    refine zr_callV1 (rm9 := zrm_X0_passFrom) X hnt zm_X5_202 (by decide) (by decide) (by decide) (Nat.le_of_ble_eq_true rfl) dX5_goThrough_20 ?_
    refine zq_X0_passFrom (s := 0) hR (by omega) (by omega) ?_
    intro J1 hg2 hR3
    refine zr_iload2 X dX5_goThrough_23 ?_
    refine zr_if_ne (tgt := 50) X dX5_goThrough_24 (by decide) (fun h => absurd h (by decide)) (fun _ => ?_)
    refine zr_aload0 X dX5_goThrough_27 ?_
    refine zr_dupR X dX5_goThrough_28 ?_
    refine zr_getI X zf_X5_54 rfl dX5_goThrough_29 ?_
    refine zr_eq (x2 := (sX (qPassed S c9 0) 9)) (hR3.1 9 (by decide) (by decide)) ?_
    refine zr_iconst (v := (1 : Int32)) X dX5_goThrough_32 (by decide) ?_
    refine zr_iadd X dX5_goThrough_33 ?_
    refine zr_putI X zf_X5_54 rfl (Or.inl rfl) dX5_goThrough_34 ?_
    have hR_1 : zRw _ (a) (tX (qPassed S c9 0) 9 ((sX (qPassed S c9 0) 9) + (1 : Int32))) := zRw_X hR3 (i := 9) (v := ((sX (qPassed S c9 0) 9) + (1 : Int32))) (by decide) (by decide)
    refine zr_aload0 X dX5_goThrough_37 ?_
    refine zr_dupR X dX5_goThrough_38 ?_
    refine zr_getI X zf_X5_51 rfl dX5_goThrough_39 ?_
    refine zr_eq (x2 := (sX (tX (qPassed S c9 0) 9 ((sX (qPassed S c9 0) 9) + (1 : Int32))) 3)) (hR_1.1 3 (by decide) (by decide)) ?_
    refine zr_iconst (v := (1 : Int32)) X dX5_goThrough_42 (by decide) ?_
    refine zr_iadd X dX5_goThrough_43 ?_
    refine zr_putI X zf_X5_51 rfl (Or.inl rfl) dX5_goThrough_44 ?_
    have hR_2 : zRw _ (a) (tX (tX (qPassed S c9 0) 9 ((sX (qPassed S c9 0) 9) + (1 : Int32))) 3 ((sX (tX (qPassed S c9 0) 9 ((sX (qPassed S c9 0) 9) + (1 : Int32))) 3) + (1 : Int32))) := zRw_X hR_1 (i := 3) (v := ((sX (tX (qPassed S c9 0) 9 ((sX (qPassed S c9 0) 9) + (1 : Int32))) 3) + (1 : Int32))) (by decide) (by decide)
    refine zr_goto (tgt := 70) X dX5_goThrough_47 (by decide) ?_
    refine zr_vret X (by decide) (by decide) dX5_goThrough_70 ?_
    refine k1 _ (by repeat (first | exact zag.rf | assumption | refine zag.put ?_ (by omega) (by omega) | refine zag.tr ?_ (by assumption) (by omega) (by omega))) ?_
    exact cast (congrArg (zRw _ a) (by first | rfl | (unfold qGone; simp; done))) hR_2
set_option maxRecDepth 20000 in
theorem zp01_X5_goThrough {l : Launch} {D : va_G} {b0 : Nat} {tA : Nat → ClassId} {sa sv : Nat → Nat} {K : zKt} {I : zI} {Qp : zI → Option AV → Prop} {Xp : String → zI → Prop} {a : Nat} {S : zS}
    (hR : zRw I a S) (k1 : ∀ I' : zI, zag I I' a 45 → zRw I' a (qGone S 0 1) → Qp I' none) :
    zC l D b0 tA sa sv K yX5_goThrough (.code yX5_goThrough cX5_goThrough 3 none) zrm_X5_goThrough [vr (a) 5, vi ((-1 : Int32)), vi ((1 : Int32))] I Qp Xp := by
  refine zC_of (by decide +kernel) (Nat.le_of_ble_eq_true rfl) ?_
  intro p e s m args below meth c X hnt
  have X : zX p l e zrm_X5_goThrough s m args below meth c RX5 cX5_goThrough 3 none D b0 tA sa sv := X
  refine zr_lv (lv2 := [some (vr (a) 5), some (vi ((-1 : Int32))), some (vi ((1 : Int32)))]) rfl ?_
  refine zr_iload1 X dX5_goThrough_0 ?_
  refine zr_if_lt (tgt := 23) X dX5_goThrough_1 (by decide) (fun _ => ?_) (fun h => absurd h (by decide))
  refine zr_iload2 X dX5_goThrough_23 ?_
  refine zr_if_ne (tgt := 50) X dX5_goThrough_24 (by decide) (fun _ => ?_) (fun h => absurd h (by decide))
  refine zr_aload0 X dX5_goThrough_50 ?_
  refine zr_dupR X dX5_goThrough_51 ?_
  refine zr_getI X zf_X5_57 rfl dX5_goThrough_52 ?_
  refine zr_eq (x2 := (sX S 10)) (hR.1 10 (by decide) (by decide)) ?_
  refine zr_iconst (v := (1 : Int32)) X dX5_goThrough_55 (by decide) ?_
  refine zr_iadd X dX5_goThrough_56 ?_
  refine zr_putI X zf_X5_57 rfl (Or.inl rfl) dX5_goThrough_57 ?_
  have hR_1 : zRw _ (a) (tX S 10 ((sX S 10) + (1 : Int32))) := zRw_X hR (i := 10) (v := ((sX S 10) + (1 : Int32))) (by decide) (by decide)
  refine zr_aload0 X dX5_goThrough_60 ?_
  refine zr_dupR X dX5_goThrough_61 ?_
  refine zr_getI X zf_X5_51 rfl dX5_goThrough_62 ?_
  refine zr_eq (x2 := (sX (tX S 10 ((sX S 10) + (1 : Int32))) 3)) (hR_1.1 3 (by decide) (by decide)) ?_
  refine zr_iconst (v := (1 : Int32)) X dX5_goThrough_65 (by decide) ?_
  refine zr_isub X dX5_goThrough_66 ?_
  refine zr_putI X zf_X5_51 rfl (Or.inl rfl) dX5_goThrough_67 ?_
  have hR_2 : zRw _ (a) (tX (tX S 10 ((sX S 10) + (1 : Int32))) 3 ((sX (tX S 10 ((sX S 10) + (1 : Int32))) 3) - (1 : Int32))) := zRw_X hR_1 (i := 3) (v := ((sX (tX S 10 ((sX S 10) + (1 : Int32))) 3) - (1 : Int32))) (by decide) (by decide)
  refine zr_vret X (by decide) (by decide) dX5_goThrough_70 ?_
  refine k1 _ (by repeat (first | exact zag.rf | assumption | refine zag.put ?_ (by omega) (by omega) | refine zag.tr ?_ (by assumption) (by omega) (by omega))) ?_
  exact cast (congrArg (zRw _ a) (by first | rfl | (unfold qGone; simp; done))) hR_2
set_option maxRecDepth 20000 in
theorem zp11_X5_goThrough {l : Launch} {D : va_G} {b0 : Nat} {tA : Nat → ClassId} {sa sv : Nat → Nat} {K : zKt} {I : zI} {Qp : zI → Option AV → Prop} {Xp : String → zI → Prop} {a c9 : Nat} {S : zS}
    (hR : zRw I a S) (hc : c9 < 12) (k1 : ∀ I' : zI, zag I I' a 45 → zRw I' a (qGone S (c9 + 1) 1) → Qp I' none) :
    zC l D b0 tA sa sv K yX5_goThrough (.code yX5_goThrough cX5_goThrough 3 none) zrm_X5_goThrough [vr (a) 5, vi ((nI c9)), vi ((1 : Int32))] I Qp Xp := by
  refine zC_of (by decide +kernel) (Nat.le_of_ble_eq_true rfl) ?_
  intro p e s m args below meth c X hnt
  have X : zX p l e zrm_X5_goThrough s m args below meth c RX5 cX5_goThrough 3 none D b0 tA sa sv := X
  refine zr_lv (lv2 := [some (vr (a) 5), some (vi ((nI c9))), some (vi ((1 : Int32)))]) rfl ?_
  refine zr_iload1 X dX5_goThrough_0 ?_
  refine zr_nif_lt X (c9) (tgt := 23) (by omega) dX5_goThrough_1 (by decide) (fun h => h.elim) (fun _ => ?_)
  refine zr_iload1 X dX5_goThrough_4 ?_
  refine zr_aload0 X dX5_goThrough_5 ?_
  refine zr_getR X zf_X5_19 rfl (by decide) (by decide) dX5_goThrough_6 ?_
  refine zr_alen (v := 12) X (Or.inr (Or.inl rfl)) rfl dX5_goThrough_9 ?_
  refine zr_nicmp_ge X (c9) (12) (tgt := 23) (by omega) (by omega) dX5_goThrough_10 (by decide) (fun h2 => ?_) (fun h2 => ?_)
  · exact absurd h2 (by omega)
  · skip
    refine zr_aload0 X dX5_goThrough_13 ?_
    refine zr_getR X zf_X5_19 rfl (by decide) (by decide) dX5_goThrough_14 ?_
    refine zr_iload1 X dX5_goThrough_17 ?_
    refine zr_aaldN X rfl rfl (by decide) (show _ < 12 from (by first | assumption | omega)) dX5_goThrough_18 ?_
    refine zr_iload2 X dX5_goThrough_19 ?_
    refine zr_callV1 (rm9 := zrm_X0_passFrom) X hnt zm_X5_202 (by decide) (by decide) (by decide) (Nat.le_of_ble_eq_true rfl) dX5_goThrough_20 ?_
    refine zq_X0_passFrom (s := 1) hR (by omega) (by omega) ?_
    intro J1 hg2 hR3
    refine zr_iload2 X dX5_goThrough_23 ?_
    refine zr_if_ne (tgt := 50) X dX5_goThrough_24 (by decide) (fun _ => ?_) (fun h => absurd h (by decide))
    refine zr_aload0 X dX5_goThrough_50 ?_
    refine zr_dupR X dX5_goThrough_51 ?_
    refine zr_getI X zf_X5_57 rfl dX5_goThrough_52 ?_
    refine zr_eq (x2 := (sX (qPassed S c9 1) 10)) (hR3.1 10 (by decide) (by decide)) ?_
    refine zr_iconst (v := (1 : Int32)) X dX5_goThrough_55 (by decide) ?_
    refine zr_iadd X dX5_goThrough_56 ?_
    refine zr_putI X zf_X5_57 rfl (Or.inl rfl) dX5_goThrough_57 ?_
    have hR_1 : zRw _ (a) (tX (qPassed S c9 1) 10 ((sX (qPassed S c9 1) 10) + (1 : Int32))) := zRw_X hR3 (i := 10) (v := ((sX (qPassed S c9 1) 10) + (1 : Int32))) (by decide) (by decide)
    refine zr_aload0 X dX5_goThrough_60 ?_
    refine zr_dupR X dX5_goThrough_61 ?_
    refine zr_getI X zf_X5_51 rfl dX5_goThrough_62 ?_
    refine zr_eq (x2 := (sX (tX (qPassed S c9 1) 10 ((sX (qPassed S c9 1) 10) + (1 : Int32))) 3)) (hR_1.1 3 (by decide) (by decide)) ?_
    refine zr_iconst (v := (1 : Int32)) X dX5_goThrough_65 (by decide) ?_
    refine zr_isub X dX5_goThrough_66 ?_
    refine zr_putI X zf_X5_51 rfl (Or.inl rfl) dX5_goThrough_67 ?_
    have hR_2 : zRw _ (a) (tX (tX (qPassed S c9 1) 10 ((sX (qPassed S c9 1) 10) + (1 : Int32))) 3 ((sX (tX (qPassed S c9 1) 10 ((sX (qPassed S c9 1) 10) + (1 : Int32))) 3) - (1 : Int32))) := zRw_X hR_1 (i := 3) (v := ((sX (tX (qPassed S c9 1) 10 ((sX (qPassed S c9 1) 10) + (1 : Int32))) 3) - (1 : Int32))) (by decide) (by decide)
    refine zr_vret X (by decide) (by decide) dX5_goThrough_70 ?_
    refine k1 _ (by repeat (first | exact zag.rf | assumption | refine zag.put ?_ (by omega) (by omega) | refine zag.tr ?_ (by assumption) (by omega) (by omega))) ?_
    exact cast (congrArg (zRw _ a) (by first | rfl | (unfold qGone; simp; done))) hR_2
theorem zq_X5_goThrough {l : Launch} {D : va_G} {b0 : Nat} {tA : Nat → ClassId} {sa sv : Nat → Nat} {K : zKt} {I : zI} {Qp : zI → Option AV → Prop} {Xp : String → zI → Prop} {a w s : Nat} {S : zS} (hR : zRw I a S) (hw : w ≤ 12) (hs : s < 2) (k1 : ∀ I' : zI, zag I I' a 45 → zRw I' a (qGone S w s) → Qp I' none) :
    zC l D b0 tA sa sv K yX5_goThrough (.code yX5_goThrough cX5_goThrough 3 none) zrm_X5_goThrough [vr (a) 5, vi (nI w - 1), vi ((nI s))] I Qp Xp := by
  rcases w with _ | c
  · rcases (show s = 0 ∨ s = 1 by omega) with rfl | rfl
    · exact zp00_X5_goThrough hR k1
    · exact zp01_X5_goThrough hR k1
  · rw [show nI (c + 1) - 1 = nI c from pk_sub (a := c + 1) (b := 1) (by omega)]
    rcases (show s = 0 ∨ s = 1 by omega) with rfl | rfl
    · exact zp10_X5_goThrough hR (by omega) k1
    · exact zp11_X5_goThrough hR (by omega) k1
