/-! ===== taking back; what the class requires ===== -/
theorem ztick_in {v m : Int32} {n : Nat} (hm : m = nI n) (hn : n < 2 ^ 30) (h1 : ¬ v < 1) (h2 : v ≤ m) : ¬ (vIdx v (n + 1) = none ∨ v = 0) := by
  subst hm
  rw [Int32.not_lt, Int32.le_iff_toInt_le] at h1
  rw [Int32.le_iff_toInt_le, nI_toInt (by omega)] at h2
  have e1 : (1 : Int32).toInt = 1 := by decide
  rintro (h | h)
  · unfold vIdx at h
    rw [if_pos (by omega)] at h; cases h
  · subst h
    have : (0 : Int32).toInt = 0 := by decide
    omega
theorem zRg_back {I J J2 : zI} {x nw nn : Nat} {u9 : zS} {U : List zS} (g1 : nw < 8) (g4 : (u9 :: U).length ≤ 8) (g5 : ∀ (i : Nat) (u : zS), (u9 :: U)[i]? = some u → zRw I (x + 141 + 45 * ((nw + 8 - i) % 8)) u) (hnn : nn < 8 ∧ (nn + 1) % 8 = nw) (e1 : J2 (x + 139) 1 = nI nn) (e2 : J2 (x + 139) 2 = nI (U.length + 1 - 1)) (h1 : zag I J (x + 4) 45) (h2 : zag J J2 (x + 139) 1) : zRg J2 x U := by
  rw [List.length_cons] at g4
  refine ⟨nn, hnn.1, e1, e2, by omega, fun i u hu => ?_⟩
  have hi : i < U.length := by
    rcases Nat.lt_or_ge i U.length with q | q
    · exact q
    · rw [List.getElem?_eq_none q] at hu; cases hu
  have := g5 (i + 1) u hu
  rw [show (nw + 8 - (i + 1)) % 8 = (nn + 8 - i) % 8 by omega] at this
  exact (this.ag h1 (by omega)).ag h2 (by omega)
abbrev zrm_X2_takeBack : Room := { frames := 3, cells := 0, slots := 0, locals := 65 }
set_option maxRecDepth 20000 in
theorem zp_X2_takeBack {l : Launch} {D : va_G} {b0 : Nat} {tA : Nat → ClassId} {sa sv : Nat → Nat} {K : zKt} {I : zI} {Qp : zI → Option AV → Prop} {Xp : String → zI → Prop} {F9 : zI} {x f : Nat} {t : Nat → Nat} {er : Int32} {S u9 : zS} {U : List zS}
    (hC : zCl F9 I x t f er S (u9 :: U)) (k1 : ∀ J : zI, zCl F9 J x t f er u9 U → Qp J none) :
    zC l D b0 tA sa sv K yX2_takeBack (.code yX2_takeBack cX2_takeBack 2 none) zrm_X2_takeBack [vr (x + 139) 2, vr (x + 4) 5] I Qp Xp := by
  obtain ⟨nw, g1, g2, g3, g4, g5⟩ := hC.2.2.2.2.2.1
  have g6 : zRw I (x + 139 + 1 + 1 + 45 * nw) u9 := by have := g5 0 u9 rfl; rw [show (nw + 8 - 0) % 8 = nw by omega] at this; exact this
  rw [List.length_cons] at g3
  have g4b := g4
  rw [List.length_cons] at g4b
  refine zC_of (by decide +kernel) (Nat.le_of_ble_eq_true rfl) ?_
  intro p e s m args below meth c X hnt
  have X : zX p l e zrm_X2_takeBack s m args below meth c RX2 cX2_takeBack 2 none D b0 tA sa sv := X
  refine zr_lv (lv2 := [some (vr (x + 139) 2), some (vr (x + 4) 5)]) rfl ?_
  refine zr_aload0 X dX2_takeBack_0 ?_
  refine zr_getI X zf_X2_22 rfl dX2_takeBack_1 ?_
  refine zr_eq (x2 := (nI (U.length + 1))) (g3) ?_
  refine zr_nif_le X ((U.length + 1)) (tgt := 76) (by omega) dX2_takeBack_4 (by decide) (fun h1 => ?_) (fun h1 => ?_)
  · exact absurd h1 (by omega)
  · skip
    refine zr_aload0 X dX2_takeBack_7 ?_
    refine zr_getI X zf_X2_18 rfl dX2_takeBack_8 ?_
    refine zr_eq (x2 := (nI nw)) (g2) ?_
    refine zr_nif_lt X (nw) (tgt := 76) (by omega) dX2_takeBack_11 (by decide) (fun h => h.elim) (fun _ => ?_)
    refine zr_aload0 X dX2_takeBack_14 ?_
    refine zr_getI X zf_X2_18 rfl dX2_takeBack_15 ?_
    refine zr_eq (x2 := (nI nw)) (g2) ?_
    refine zr_aload0 X dX2_takeBack_18 ?_
    refine zr_getR X zf_X2_11 rfl (by decide) (by decide) dX2_takeBack_19 ?_
    refine zr_alen (v := 8) X (Or.inr (Or.inl rfl)) rfl dX2_takeBack_22 ?_
    refine zr_nicmp_ge X (nw) (8) (tgt := 76) (by omega) (by omega) dX2_takeBack_23 (by decide) (fun h3 => ?_) (fun h3 => ?_)
    · exact absurd h3 (by omega)
    · skip
      refine zr_aload1 X dX2_takeBack_26 ?_
      refine zr_aload0 X dX2_takeBack_27 ?_
      refine zr_getR X zf_X2_11 rfl (by decide) (by decide) dX2_takeBack_28 ?_
      refine zr_aload0 X dX2_takeBack_31 ?_
      refine zr_getI X zf_X2_18 rfl dX2_takeBack_32 ?_
      refine zr_eq (x2 := (nI nw)) (g2) ?_
      refine zr_aaldN X rfl rfl (by decide) (show _ < 8 from (by first | assumption | omega)) dX2_takeBack_35 ?_
      refine zr_callV1 (rm9 := zrm_X5_copyFrom) X hnt zm_X2_31 (by decide) (by decide) (by decide) (Nat.le_of_ble_eq_true rfl) dX2_takeBack_36 ?_
      refine zp_X5_copyFrom (S := u9) (g6) (by omega) ?_
      intro J1 hg2 hR3
      refine zr_aload0 X dX2_takeBack_39 ?_
      refine zr_aload0 X dX2_takeBack_40 ?_
      refine zr_getI X zf_X2_18 rfl dX2_takeBack_41 ?_
      refine zr_eq (x2 := (I (x + 139) 1)) ((congrFun (hg2 (x + 139) (by omega)) 1)) ?_
      refine zr_eq (x2 := (nI nw)) (g2) ?_
      refine zr_nif_le X (nw) (tgt := 56) (by omega) dX2_takeBack_44 (by decide) (fun h4 => ?_) (fun h4 => ?_)
      · skip
        refine zr_aload0 X dX2_takeBack_56 ?_
        refine zr_getR X zf_X2_11 rfl (by decide) (by decide) dX2_takeBack_57 ?_
        refine zr_alen (v := 8) X (Or.inr (Or.inl rfl)) rfl dX2_takeBack_60 ?_
        refine zr_iconst (v := (1 : Int32)) X dX2_takeBack_61 (by decide) ?_
        refine zr_isub X dX2_takeBack_62 ?_
        refine zr_eq (x2 := (nI 7)) (by rfl) ?_
        refine zr_putI X zf_X2_18 rfl (Or.inl rfl) dX2_takeBack_63 ?_
        refine zr_aload0 X dX2_takeBack_66 ?_
        refine zr_dupR X dX2_takeBack_67 ?_
        refine zr_getI X zf_X2_22 rfl dX2_takeBack_68 ?_
        refine zr_eq (x2 := (I (x + 139) 2)) ((zput_nj (by decide)).trans ((congrFun (hg2 (x + 139) (by omega)) 2))) ?_
        refine zr_eq (x2 := (nI (U.length + 1))) (g3) ?_
        refine zr_iconst (v := (1 : Int32)) X dX2_takeBack_71 (by decide) ?_
        refine zr_isub X dX2_takeBack_72 ?_
        refine zr_eq (x2 := (nI ((U.length + 1) - 1))) (pk_sub (a := (U.length + 1)) (b := 1) (by omega)) ?_
        refine zr_putI X zf_X2_22 rfl (Or.inl rfl) dX2_takeBack_73 ?_
        refine zr_vret X (by decide) (by decide) dX2_takeBack_76 ?_
        have hg9 : zag J1 (zput (zput J1 (x + 139) 1 ((nI 7))) (x + 139) 2 ((nI ((U.length + 1) - 1)))) (x + 139) 362 := by repeat (first | exact zag.rf | assumption | refine zag.put ?_ (by omega) (by omega) | refine zag.tr ?_ (by assumption) (by omega) (by omega))
        have hR9 : zRg (zput (zput J1 (x + 139) 1 ((nI 7))) (x + 139) 2 ((nI ((U.length + 1) - 1)))) x U := zRg_back (nw := nw) g1 g4 g5 (nn := 7) (by omega) ((zput_nj (by decide)).trans (zput_eq)) (zput_eq) hg2 (by repeat (first | exact zag.rf | assumption | refine zag.put ?_ (by omega) (by omega) | refine zag.tr ?_ (by assumption) (by omega) (by omega)))
        exact k1 _ ((zCl.now hC hg2 hR3 (hC.2.2.2.2.2.2 u9 List.mem_cons_self)).past hg9 hR9 (fun w hw => hC.2.2.2.2.2.2 w (List.mem_cons_of_mem _ hw)))
      · skip
        refine zr_aload0 X dX2_takeBack_47 ?_
        refine zr_getI X zf_X2_18 rfl dX2_takeBack_48 ?_
        refine zr_eq (x2 := (I (x + 139) 1)) ((congrFun (hg2 (x + 139) (by omega)) 1)) ?_
        refine zr_eq (x2 := (nI nw)) (g2) ?_
        refine zr_iconst (v := (1 : Int32)) X dX2_takeBack_51 (by decide) ?_
        refine zr_isub X dX2_takeBack_52 ?_
        refine zr_eq (x2 := (nI (nw - 1))) (pk_sub (a := nw) (b := 1) (by omega)) ?_
        refine zr_goto (tgt := 63) X dX2_takeBack_53 (by decide) ?_
        refine zr_putI X zf_X2_18 rfl (Or.inl rfl) dX2_takeBack_63 ?_
        refine zr_aload0 X dX2_takeBack_66 ?_
        refine zr_dupR X dX2_takeBack_67 ?_
        refine zr_getI X zf_X2_22 rfl dX2_takeBack_68 ?_
        refine zr_eq (x2 := (I (x + 139) 2)) ((zput_nj (by decide)).trans ((congrFun (hg2 (x + 139) (by omega)) 2))) ?_
        refine zr_eq (x2 := (nI (U.length + 1))) (g3) ?_
        refine zr_iconst (v := (1 : Int32)) X dX2_takeBack_71 (by decide) ?_
        refine zr_isub X dX2_takeBack_72 ?_
        refine zr_eq (x2 := (nI ((U.length + 1) - 1))) (pk_sub (a := (U.length + 1)) (b := 1) (by omega)) ?_
        refine zr_putI X zf_X2_22 rfl (Or.inl rfl) dX2_takeBack_73 ?_
        refine zr_vret X (by decide) (by decide) dX2_takeBack_76 ?_
        have hg9 : zag J1 (zput (zput J1 (x + 139) 1 ((nI (nw - 1)))) (x + 139) 2 ((nI ((U.length + 1) - 1)))) (x + 139) 362 := by repeat (first | exact zag.rf | assumption | refine zag.put ?_ (by omega) (by omega) | refine zag.tr ?_ (by assumption) (by omega) (by omega))
        have hR9 : zRg (zput (zput J1 (x + 139) 1 ((nI (nw - 1)))) (x + 139) 2 ((nI ((U.length + 1) - 1)))) x U := zRg_back (nw := nw) g1 g4 g5 (nn := nw - 1) (by omega) ((zput_nj (by decide)).trans (zput_eq)) (zput_eq) hg2 (by repeat (first | exact zag.rf | assumption | refine zag.put ?_ (by omega) (by omega) | refine zag.tr ?_ (by assumption) (by omega) (by omega)))
        exact k1 _ ((zCl.now hC hg2 hR3 (hC.2.2.2.2.2.2 u9 List.mem_cons_self)).past hg9 hR9 (fun w hw => hC.2.2.2.2.2.2 w (List.mem_cons_of_mem _ hw)))
abbrev zrm_X7_requireGate : Room := { frames := 8, cells := 1, slots := 6, locals := 120 }
set_option maxRecDepth 20000 in
theorem zo_X7_requireGate {l : Launch} {D : va_G} {b0 : Nat} {tA : Nat → ClassId} {sa sv : Nat → Nat} {K : zKt} {I : zI} {Qp : zI → Option AV → Prop} {Xp : String → zI → Prop} {F9 : zI} {x f : Nat} {t : Nat → Nat} {er : Int32} {S : zS} {U : List zS} {g : Nat}
    (hC : zCl F9 I x t f er S U) (hg : g < zng S) (k1 : Qp I none) :
    zC l D b0 tA sa sv K yX7_requireGate (.code yX7_requireGate cX7_requireGate 2 none) zrm_X7_requireGate [vr (x) 7, vi ((nI g))] I Qp Xp := by
  have := hC.2.2.2.1.ng.1
  refine zC_of (by decide +kernel) (Nat.le_of_ble_eq_true rfl) ?_
  intro p e s m args below meth c X hnt
  have X : zX p l e zrm_X7_requireGate s m args below meth c RX7 cX7_requireGate 2 none D b0 tA sa sv := X
  refine zr_lv (lv2 := [some (vr (x) 7), some (vi ((nI g)))]) rfl ?_
  refine zr_aload0 X dX7_requireGate_0 ?_
  refine zr_getR X zf_X7_26 rfl (by decide) (by decide) dX7_requireGate_1 ?_
  refine zr_iload1 X dX7_requireGate_4 ?_
  refine zr_callV1 (rm9 := zrm_X5_hasGate) X hnt zm_X7_284 (by decide) (by decide) (by decide) (Nat.le_of_ble_eq_true rfl) dX7_requireGate_5 ?_
  refine zn_X5_hasGate hC.2.2.1 hC.2.2.2.1 (by omega) (fun _ => ?_) (fun h => absurd hg h)
  refine zr_if_ne (tgt := 22) X dX7_requireGate_8 (by decide) (fun _ => ?_) (fun h => absurd h (by decide))
  refine zr_vret X (by decide) (by decide) dX7_requireGate_22 ?_
  exact k1
set_option maxRecDepth 20000 in
theorem zx_X7_requireGate {l : Launch} {D : va_G} {b0 : Nat} {tA : Nat → ClassId} {sa sv : Nat → Nat} {K : zKt} {I : zI} {Qp : zI → Option AV → Prop} {Xp : String → zI → Prop} {F9 : zI} {x f : Nat} {t : Nat → Nat} {er : Int32} {S : zS} {U : List zS} {v : Int32}
    (hC : zCl F9 I x t f er S U) (hb : vIdx v (zng S) = none) (kx : Xp "java/lang/IndexOutOfBoundsException" I) :
    zC l D b0 tA sa sv K yX7_requireGate (.code yX7_requireGate cX7_requireGate 2 none) zrm_X7_requireGate [vr (x) 7, vi (v)] I Qp Xp := by
  refine zC_of (by decide +kernel) (Nat.le_of_ble_eq_true rfl) ?_
  intro p e s m args below meth c X hnt
  have X : zX p l e zrm_X7_requireGate s m args below meth c RX7 cX7_requireGate 2 none D b0 tA sa sv := X
  refine zr_lv (lv2 := [some (vr (x) 7), some (vi (v))]) rfl ?_
  refine zr_aload0 X dX7_requireGate_0 ?_
  refine zr_getR X zf_X7_26 rfl (by decide) (by decide) dX7_requireGate_1 ?_
  refine zr_iload1 X dX7_requireGate_4 ?_
  refine zr_callV1 (rm9 := zrm_X5_hasGate) X hnt zm_X7_284 (by decide) (by decide) (by decide) (Nat.le_of_ble_eq_true rfl) dX7_requireGate_5 ?_
  refine zq_X5_hasGate (fun h => ?_) (fun _ => ?_); · exfalso; obtain ⟨h1, h2, -⟩ := h; have e2 := hC.2.2.1.ng hC.2.2.2.1; rcases vIdx_out (by have := hC.2.2.2.1.ng.1; omega) hb with q | q; exact h1 q; exact h2 (by rw [e2]; exact q)
  refine zr_if_ne (tgt := 22) X dX7_requireGate_8 (by decide) (fun h => absurd h (by decide)) (fun _ => ?_)
  refine zr_throwW (i := 23) X hnt zth_ioo rfl dX7_requireGate_11 dX7_requireGate_14 dX7_requireGate_15 dX7_requireGate_18 dX7_requireGate_21 ⟨by decide, by decide⟩ (Nat.le_of_ble_eq_true rfl) (by decide) (by decide) ?_
  exact kx
abbrev zrm_X7_requireCard : Room := { frames := 8, cells := 1, slots := 6, locals := 120 }
set_option maxRecDepth 20000 in
theorem zo_X7_requireCard {l : Launch} {D : va_G} {b0 : Nat} {tA : Nat → ClassId} {sa sv : Nat → Nat} {K : zKt} {I : zI} {Qp : zI → Option AV → Prop} {Xp : String → zI → Prop} {F9 : zI} {x f : Nat} {t : Nat → Nat} {er : Int32} {S : zS} {U : List zS} {g : Nat}
    (hC : zCl F9 I x t f er S U) (hg : g < znc S) (k1 : Qp I none) :
    zC l D b0 tA sa sv K yX7_requireCard (.code yX7_requireCard cX7_requireCard 2 none) zrm_X7_requireCard [vr (x) 7, vi ((nI g))] I Qp Xp := by
  have := hC.2.2.2.1.nc.1
  refine zC_of (by decide +kernel) (Nat.le_of_ble_eq_true rfl) ?_
  intro p e s m args below meth c X hnt
  have X : zX p l e zrm_X7_requireCard s m args below meth c RX7 cX7_requireCard 2 none D b0 tA sa sv := X
  refine zr_lv (lv2 := [some (vr (x) 7), some (vi ((nI g)))]) rfl ?_
  refine zr_aload0 X dX7_requireCard_0 ?_
  refine zr_getR X zf_X7_26 rfl (by decide) (by decide) dX7_requireCard_1 ?_
  refine zr_iload1 X dX7_requireCard_4 ?_
  refine zr_callV1 (rm9 := zrm_X5_hasCard) X hnt zm_X7_292 (by decide) (by decide) (by decide) (Nat.le_of_ble_eq_true rfl) dX7_requireCard_5 ?_
  refine zn_X5_hasCard hC.2.2.1 hC.2.2.2.1 (by omega) (fun _ => ?_) (fun h => absurd hg h)
  refine zr_if_ne (tgt := 22) X dX7_requireCard_8 (by decide) (fun _ => ?_) (fun h => absurd h (by decide))
  refine zr_vret X (by decide) (by decide) dX7_requireCard_22 ?_
  exact k1
abbrev zrm_X7_requireCardOrNone : Room := { frames := 8, cells := 1, slots := 6, locals := 120 }
set_option maxRecDepth 20000 in
theorem zo_X7_requireCardOrNone {l : Launch} {D : va_G} {b0 : Nat} {tA : Nat → ClassId} {sa sv : Nat → Nat} {K : zKt} {I : zI} {Qp : zI → Option AV → Prop} {Xp : String → zI → Prop} {F9 : zI} {x f : Nat} {t : Nat → Nat} {er : Int32} {S : zS} {U : List zS} {g : Nat}
    (hC : zCl F9 I x t f er S U) (hg : g < znc S) (k1 : Qp I none) :
    zC l D b0 tA sa sv K yX7_requireCardOrNone (.code yX7_requireCardOrNone cX7_requireCardOrNone 2 none) zrm_X7_requireCardOrNone [vr (x) 7, vi ((nI g))] I Qp Xp := by
  have := hC.2.2.2.1.nc.1
  refine zC_of (by decide +kernel) (Nat.le_of_ble_eq_true rfl) ?_
  intro p e s m args below meth c X hnt
  have X : zX p l e zrm_X7_requireCardOrNone s m args below meth c RX7 cX7_requireCardOrNone 2 none D b0 tA sa sv := X
  refine zr_lv (lv2 := [some (vr (x) 7), some (vi ((nI g)))]) rfl ?_
  refine zr_iload1 X dX7_requireCardOrNone_0 ?_
  refine zr_iconst (v := (-1 : Int32)) X dX7_requireCardOrNone_1 (by decide) ?_
  refine zr_icmp_eq (tgt := 27) X dX7_requireCardOrNone_2 (by decide) (fun h => absurd h (zm1 (by omega))) (fun _ => ?_)
  refine zr_aload0 X dX7_requireCardOrNone_5 ?_
  refine zr_getR X zf_X7_26 rfl (by decide) (by decide) dX7_requireCardOrNone_6 ?_
  refine zr_iload1 X dX7_requireCardOrNone_9 ?_
  refine zr_callV1 (rm9 := zrm_X5_hasCard) X hnt zm_X7_292 (by decide) (by decide) (by decide) (Nat.le_of_ble_eq_true rfl) dX7_requireCardOrNone_10 ?_
  refine zn_X5_hasCard hC.2.2.1 hC.2.2.2.1 (by omega) (fun _ => ?_) (fun h => absurd hg h)
  refine zr_if_ne (tgt := 27) X dX7_requireCardOrNone_13 (by decide) (fun _ => ?_) (fun h => absurd h (by decide))
  refine zr_vret X (by decide) (by decide) dX7_requireCardOrNone_27 ?_
  exact k1
set_option maxRecDepth 20000 in
theorem zn_X7_requireCardOrNone {l : Launch} {D : va_G} {b0 : Nat} {tA : Nat → ClassId} {sa sv : Nat → Nat} {K : zKt} {I : zI} {Qp : zI → Option AV → Prop} {Xp : String → zI → Prop} {F9 : zI} {x f : Nat} {t : Nat → Nat} {er : Int32} {S : zS} {U : List zS}
    (hC : zCl F9 I x t f er S U) (k1 : Qp I none) :
    zC l D b0 tA sa sv K yX7_requireCardOrNone (.code yX7_requireCardOrNone cX7_requireCardOrNone 2 none) zrm_X7_requireCardOrNone [vr (x) 7, vi ((-1 : Int32))] I Qp Xp := by
  refine zC_of (by decide +kernel) (Nat.le_of_ble_eq_true rfl) ?_
  intro p e s m args below meth c X hnt
  have X : zX p l e zrm_X7_requireCardOrNone s m args below meth c RX7 cX7_requireCardOrNone 2 none D b0 tA sa sv := X
  refine zr_lv (lv2 := [some (vr (x) 7), some (vi ((-1 : Int32)))]) rfl ?_
  refine zr_iload1 X dX7_requireCardOrNone_0 ?_
  refine zr_iconst (v := (-1 : Int32)) X dX7_requireCardOrNone_1 (by decide) ?_
  refine zr_icmp_eq (tgt := 27) X dX7_requireCardOrNone_2 (by decide) (fun _ => ?_) (fun h => absurd h (by decide))
  refine zr_vret X (by decide) (by decide) dX7_requireCardOrNone_27 ?_
  exact k1
set_option maxRecDepth 20000 in
theorem zx_X7_requireCard {l : Launch} {D : va_G} {b0 : Nat} {tA : Nat → ClassId} {sa sv : Nat → Nat} {K : zKt} {I : zI} {Qp : zI → Option AV → Prop} {Xp : String → zI → Prop} {F9 : zI} {x f : Nat} {t : Nat → Nat} {er : Int32} {S : zS} {U : List zS} {v : Int32}
    (hC : zCl F9 I x t f er S U) (hb : vIdx v (znc S) = none) (kx : Xp "java/lang/IndexOutOfBoundsException" I) :
    zC l D b0 tA sa sv K yX7_requireCard (.code yX7_requireCard cX7_requireCard 2 none) zrm_X7_requireCard [vr (x) 7, vi (v)] I Qp Xp := by
  refine zC_of (by decide +kernel) (Nat.le_of_ble_eq_true rfl) ?_
  intro p e s m args below meth c X hnt
  have X : zX p l e zrm_X7_requireCard s m args below meth c RX7 cX7_requireCard 2 none D b0 tA sa sv := X
  refine zr_lv (lv2 := [some (vr (x) 7), some (vi (v))]) rfl ?_
  refine zr_aload0 X dX7_requireCard_0 ?_
  refine zr_getR X zf_X7_26 rfl (by decide) (by decide) dX7_requireCard_1 ?_
  refine zr_iload1 X dX7_requireCard_4 ?_
  refine zr_callV1 (rm9 := zrm_X5_hasCard) X hnt zm_X7_292 (by decide) (by decide) (by decide) (Nat.le_of_ble_eq_true rfl) dX7_requireCard_5 ?_
  refine zq_X5_hasCard (fun h => ?_) (fun _ => ?_); · exfalso; obtain ⟨h1, h2, -⟩ := h; have e2 := hC.2.2.1.nc hC.2.2.2.1; rcases vIdx_out (by have := hC.2.2.2.1.nc.1; omega) hb with q | q; exact h1 q; exact h2 (by rw [e2]; exact q)
  refine zr_if_ne (tgt := 22) X dX7_requireCard_8 (by decide) (fun h => absurd h (by decide)) (fun _ => ?_)
  refine zr_throwW (i := 26) X hnt zth_ioo rfl dX7_requireCard_11 dX7_requireCard_14 dX7_requireCard_15 dX7_requireCard_18 dX7_requireCard_21 ⟨by decide, by decide⟩ (Nat.le_of_ble_eq_true rfl) (by decide) (by decide) ?_
  exact kx
set_option maxRecDepth 20000 in
theorem zx_X7_requireCardOrNone {l : Launch} {D : va_G} {b0 : Nat} {tA : Nat → ClassId} {sa sv : Nat → Nat} {K : zKt} {I : zI} {Qp : zI → Option AV → Prop} {Xp : String → zI → Prop} {F9 : zI} {x f : Nat} {t : Nat → Nat} {er : Int32} {S : zS} {U : List zS} {v : Int32}
    (hC : zCl F9 I x t f er S U) (hb : vIdx v (znc S) = none) (hn1 : ¬ v = (-1 : Int32)) (kx : Xp "java/lang/IndexOutOfBoundsException" I) :
    zC l D b0 tA sa sv K yX7_requireCardOrNone (.code yX7_requireCardOrNone cX7_requireCardOrNone 2 none) zrm_X7_requireCardOrNone [vr (x) 7, vi (v)] I Qp Xp := by
  refine zC_of (by decide +kernel) (Nat.le_of_ble_eq_true rfl) ?_
  intro p e s m args below meth c X hnt
  have X : zX p l e zrm_X7_requireCardOrNone s m args below meth c RX7 cX7_requireCardOrNone 2 none D b0 tA sa sv := X
  refine zr_lv (lv2 := [some (vr (x) 7), some (vi (v))]) rfl ?_
  refine zr_iload1 X dX7_requireCardOrNone_0 ?_
  refine zr_iconst (v := (-1 : Int32)) X dX7_requireCardOrNone_1 (by decide) ?_
  refine zr_icmp_eq (tgt := 27) X dX7_requireCardOrNone_2 (by decide) (fun h1 => ?_) (fun h1 => ?_)
  · skip
    refine zr_vret X (by decide) (by decide) dX7_requireCardOrNone_27 ?_
    exact absurd (by assumption) hn1
  · skip
    refine zr_aload0 X dX7_requireCardOrNone_5 ?_
    refine zr_getR X zf_X7_26 rfl (by decide) (by decide) dX7_requireCardOrNone_6 ?_
    refine zr_iload1 X dX7_requireCardOrNone_9 ?_
    refine zr_callV1 (rm9 := zrm_X5_hasCard) X hnt zm_X7_292 (by decide) (by decide) (by decide) (Nat.le_of_ble_eq_true rfl) dX7_requireCardOrNone_10 ?_
    refine zq_X5_hasCard (fun h => ?_) (fun _ => ?_); · exfalso; obtain ⟨h1, h2, -⟩ := h; have e2 := hC.2.2.1.nc hC.2.2.2.1; rcases vIdx_out (by have := hC.2.2.2.1.nc.1; omega) hb with q | q; exact h1 q; exact h2 (by rw [e2]; exact q)
    refine zr_if_ne (tgt := 27) X dX7_requireCardOrNone_13 (by decide) (fun h => absurd h (by decide)) (fun _ => ?_)
    refine zr_throwW (i := 26) X hnt zth_ioo rfl dX7_requireCardOrNone_16 dX7_requireCardOrNone_19 dX7_requireCardOrNone_20 dX7_requireCardOrNone_23 dX7_requireCardOrNone_26 ⟨by decide, by decide⟩ (Nat.le_of_ble_eq_true rfl) (by decide) (by decide) ?_
    exact kx
abbrev zrm_X7_requireSide : Room := { frames := 8, cells := 1, slots := 6, locals := 120 }
set_option maxRecDepth 20000 in
theorem zo_X7_requireSide {l : Launch} {D : va_G} {b0 : Nat} {tA : Nat → ClassId} {sa sv : Nat → Nat} {K : zKt} {I : zI} {Qp : zI → Option AV → Prop} {Xp : String → zI → Prop} {s9 : Nat}
    (hs : s9 < 2) (k1 : Qp I none) :
    zC l D b0 tA sa sv K yX7_requireSide (.code yX7_requireSide cX7_requireSide 1 none) zrm_X7_requireSide [vi ((nI s9))] I Qp Xp := by
  refine zC_of (by decide +kernel) (Nat.le_of_ble_eq_true rfl) ?_
  intro p e s m args below meth c X hnt
  have X : zX p l e zrm_X7_requireSide s m args below meth c RX7 cX7_requireSide 1 none D b0 tA sa sv := X
  refine zr_lv (lv2 := [some (vi ((nI s9)))]) rfl ?_
  refine zr_iload0 X dX7_requireSide_0 ?_
  refine zr_nif_eq X (s9) (tgt := 20) (by omega) dX7_requireSide_1 (by decide) (fun h1 => ?_) (fun h1 => ?_)
  · skip
    refine zr_vret X (by decide) (by decide) dX7_requireSide_20 ?_
    exact k1
  · skip
    refine zr_iload0 X dX7_requireSide_4 ?_
    refine zr_iconst (v := (1 : Int32)) X dX7_requireSide_5 (by decide) ?_
    refine zr_nicmp_eq X (s9) (1) (tgt := 20) (by omega) (by omega) dX7_requireSide_6 (by decide) (fun h2 => ?_) (fun h2 => ?_)
    · skip
      refine zr_vret X (by decide) (by decide) dX7_requireSide_20 ?_
      exact k1
    · skip
      refine zr_throwW (i := 24) X hnt zth_iae rfl dX7_requireSide_9 dX7_requireSide_12 dX7_requireSide_13 dX7_requireSide_16 dX7_requireSide_19 ⟨by decide, by decide⟩ (Nat.le_of_ble_eq_true rfl) (by decide) (by decide) ?_
      exfalso; omega
set_option maxRecDepth 20000 in
theorem zx_X7_requireSide {l : Launch} {D : va_G} {b0 : Nat} {tA : Nat → ClassId} {sa sv : Nat → Nat} {K : zKt} {I : zI} {Qp : zI → Option AV → Prop} {Xp : String → zI → Prop} {v : Int32}
    (hb : vIdx v 2 = none) (kx : Xp "java/lang/IllegalArgumentException" I) :
    zC l D b0 tA sa sv K yX7_requireSide (.code yX7_requireSide cX7_requireSide 1 none) zrm_X7_requireSide [vi (v)] I Qp Xp := by
  refine zC_of (by decide +kernel) (Nat.le_of_ble_eq_true rfl) ?_
  intro p e s m args below meth c X hnt
  have X : zX p l e zrm_X7_requireSide s m args below meth c RX7 cX7_requireSide 1 none D b0 tA sa sv := X
  refine zr_lv (lv2 := [some (vi (v))]) rfl ?_
  refine zr_iload0 X dX7_requireSide_0 ?_
  refine zr_if_eq (tgt := 20) X dX7_requireSide_1 (by decide) (fun h1 => ?_) (fun h1 => ?_)
  · skip
    refine zr_vret X (by decide) (by decide) dX7_requireSide_20 ?_
    exfalso; first | exact vIdx_none (by decide) hb 0 (by decide) (by assumption) | exact vIdx_none (by decide) hb 1 (by decide) (by assumption)
  · skip
    refine zr_iload0 X dX7_requireSide_4 ?_
    refine zr_iconst (v := (1 : Int32)) X dX7_requireSide_5 (by decide) ?_
    refine zr_icmp_eq (tgt := 20) X dX7_requireSide_6 (by decide) (fun h2 => ?_) (fun h2 => ?_)
    · skip
      refine zr_vret X (by decide) (by decide) dX7_requireSide_20 ?_
      exfalso; first | exact vIdx_none (by decide) hb 0 (by decide) (by assumption) | exact vIdx_none (by decide) hb 1 (by decide) (by assumption)
    · skip
      refine zr_throwW (i := 24) X hnt zth_iae rfl dX7_requireSide_9 dX7_requireSide_12 dX7_requireSide_13 dX7_requireSide_16 dX7_requireSide_19 ⟨by decide, by decide⟩ (Nat.le_of_ble_eq_true rfl) (by decide) (by decide) ?_
      exact kx
abbrev zrm_X7_requireTicks : Room := { frames := 8, cells := 1, slots := 6, locals := 120 }
set_option maxRecDepth 20000 in
theorem zo99_X7_requireTicks {l : Launch} {D : va_G} {b0 : Nat} {tA : Nat → ClassId} {sa sv : Nat → Nat} {K : zKt} {I : zI} {Qp : zI → Option AV → Prop} {Xp : String → zI → Prop} {k9 : Nat}
    (h1 : 1 ≤ k9) (h2 : k9 ≤ 99) (k1 : Qp I none) :
    zC l D b0 tA sa sv K yX7_requireTicks (.code yX7_requireTicks cX7_requireTicks 2 none) zrm_X7_requireTicks [vi ((nI k9)), vi ((99 : Int32))] I Qp Xp := by
  refine zC_of (by decide +kernel) (Nat.le_of_ble_eq_true rfl) ?_
  intro p e s m args below meth c X hnt
  have X : zX p l e zrm_X7_requireTicks s m args below meth c RX7 cX7_requireTicks 2 none D b0 tA sa sv := X
  refine zr_lv (lv2 := [some (vi ((nI k9))), some (vi ((99 : Int32)))]) rfl ?_
  refine zr_iload0 X dX7_requireTicks_0 ?_
  refine zr_iconst (v := (1 : Int32)) X dX7_requireTicks_1 (by decide) ?_
  refine zr_nicmp_lt X (k9) (1) (tgt := 10) (by omega) (by omega) dX7_requireTicks_2 (by decide) (fun h1 => ?_) (fun h1 => ?_)
  · skip
    refine zr_throwW (i := 27) X hnt zth_iae rfl dX7_requireTicks_10 dX7_requireTicks_13 dX7_requireTicks_14 dX7_requireTicks_17 dX7_requireTicks_20 ⟨by decide, by decide⟩ (Nat.le_of_ble_eq_true rfl) (by decide) (by decide) ?_
    exfalso; omega
  · skip
    refine zr_iload0 X dX7_requireTicks_5 ?_
    refine zr_iload1 X dX7_requireTicks_6 ?_
    refine zr_nicmp_le X (k9) (99) (tgt := 21) (by omega) (by omega) dX7_requireTicks_7 (by decide) (fun h2 => ?_) (fun h2 => ?_)
    · skip
      refine zr_vret X (by decide) (by decide) dX7_requireTicks_21 ?_
      exact k1
    · skip
      refine zr_throwW (i := 27) X hnt zth_iae rfl dX7_requireTicks_10 dX7_requireTicks_13 dX7_requireTicks_14 dX7_requireTicks_17 dX7_requireTicks_20 ⟨by decide, by decide⟩ (Nat.le_of_ble_eq_true rfl) (by decide) (by decide) ?_
      exfalso; omega
set_option maxRecDepth 20000 in
theorem zx99_X7_requireTicks {l : Launch} {D : va_G} {b0 : Nat} {tA : Nat → ClassId} {sa sv : Nat → Nat} {K : zKt} {I : zI} {Qp : zI → Option AV → Prop} {Xp : String → zI → Prop} {v : Int32}
    (hb : vIdx v 100 = none ∨ v = 0) (kx : Xp "java/lang/IllegalArgumentException" I) :
    zC l D b0 tA sa sv K yX7_requireTicks (.code yX7_requireTicks cX7_requireTicks 2 none) zrm_X7_requireTicks [vi (v), vi ((99 : Int32))] I Qp Xp := by
  refine zC_of (by decide +kernel) (Nat.le_of_ble_eq_true rfl) ?_
  intro p e s m args below meth c X hnt
  have X : zX p l e zrm_X7_requireTicks s m args below meth c RX7 cX7_requireTicks 2 none D b0 tA sa sv := X
  refine zr_lv (lv2 := [some (vi (v)), some (vi ((99 : Int32)))]) rfl ?_
  refine zr_iload0 X dX7_requireTicks_0 ?_
  refine zr_iconst (v := (1 : Int32)) X dX7_requireTicks_1 (by decide) ?_
  refine zr_icmp_lt (tgt := 10) X dX7_requireTicks_2 (by decide) (fun h1 => ?_) (fun h1 => ?_)
  · skip
    refine zr_throwW (i := 27) X hnt zth_iae rfl dX7_requireTicks_10 dX7_requireTicks_13 dX7_requireTicks_14 dX7_requireTicks_17 dX7_requireTicks_20 ⟨by decide, by decide⟩ (Nat.le_of_ble_eq_true rfl) (by decide) (by decide) ?_
    exact kx
  · skip
    refine zr_iload0 X dX7_requireTicks_5 ?_
    refine zr_iload1 X dX7_requireTicks_6 ?_
    refine zr_icmp_le (tgt := 21) X dX7_requireTicks_7 (by decide) (fun h2 => ?_) (fun h2 => ?_)
    · skip
      refine zr_vret X (by decide) (by decide) dX7_requireTicks_21 ?_
      exact absurd hb (ztick_in (n := 99) (m := (99 : Int32)) (by decide) (by decide) (by assumption) (by assumption))
    · skip
      refine zr_throwW (i := 27) X hnt zth_iae rfl dX7_requireTicks_10 dX7_requireTicks_13 dX7_requireTicks_14 dX7_requireTicks_17 dX7_requireTicks_20 ⟨by decide, by decide⟩ (Nat.le_of_ble_eq_true rfl) (by decide) (by decide) ?_
      exact kx
set_option maxRecDepth 20000 in
theorem zo200_X7_requireTicks {l : Launch} {D : va_G} {b0 : Nat} {tA : Nat → ClassId} {sa sv : Nat → Nat} {K : zKt} {I : zI} {Qp : zI → Option AV → Prop} {Xp : String → zI → Prop} {k9 : Nat}
    (h1 : 1 ≤ k9) (h2 : k9 ≤ 200) (k1 : Qp I none) :
    zC l D b0 tA sa sv K yX7_requireTicks (.code yX7_requireTicks cX7_requireTicks 2 none) zrm_X7_requireTicks [vi ((nI k9)), vi ((200 : Int32))] I Qp Xp := by
  refine zC_of (by decide +kernel) (Nat.le_of_ble_eq_true rfl) ?_
  intro p e s m args below meth c X hnt
  have X : zX p l e zrm_X7_requireTicks s m args below meth c RX7 cX7_requireTicks 2 none D b0 tA sa sv := X
  refine zr_lv (lv2 := [some (vi ((nI k9))), some (vi ((200 : Int32)))]) rfl ?_
  refine zr_iload0 X dX7_requireTicks_0 ?_
  refine zr_iconst (v := (1 : Int32)) X dX7_requireTicks_1 (by decide) ?_
  refine zr_nicmp_lt X (k9) (1) (tgt := 10) (by omega) (by omega) dX7_requireTicks_2 (by decide) (fun h1 => ?_) (fun h1 => ?_)
  · skip
    refine zr_throwW (i := 27) X hnt zth_iae rfl dX7_requireTicks_10 dX7_requireTicks_13 dX7_requireTicks_14 dX7_requireTicks_17 dX7_requireTicks_20 ⟨by decide, by decide⟩ (Nat.le_of_ble_eq_true rfl) (by decide) (by decide) ?_
    exfalso; omega
  · skip
    refine zr_iload0 X dX7_requireTicks_5 ?_
    refine zr_iload1 X dX7_requireTicks_6 ?_
    refine zr_nicmp_le X (k9) (200) (tgt := 21) (by omega) (by omega) dX7_requireTicks_7 (by decide) (fun h2 => ?_) (fun h2 => ?_)
    · skip
      refine zr_vret X (by decide) (by decide) dX7_requireTicks_21 ?_
      exact k1
    · skip
      refine zr_throwW (i := 27) X hnt zth_iae rfl dX7_requireTicks_10 dX7_requireTicks_13 dX7_requireTicks_14 dX7_requireTicks_17 dX7_requireTicks_20 ⟨by decide, by decide⟩ (Nat.le_of_ble_eq_true rfl) (by decide) (by decide) ?_
      exfalso; omega
set_option maxRecDepth 20000 in
theorem zx200_X7_requireTicks {l : Launch} {D : va_G} {b0 : Nat} {tA : Nat → ClassId} {sa sv : Nat → Nat} {K : zKt} {I : zI} {Qp : zI → Option AV → Prop} {Xp : String → zI → Prop} {v : Int32}
    (hb : vIdx v 201 = none ∨ v = 0) (kx : Xp "java/lang/IllegalArgumentException" I) :
    zC l D b0 tA sa sv K yX7_requireTicks (.code yX7_requireTicks cX7_requireTicks 2 none) zrm_X7_requireTicks [vi (v), vi ((200 : Int32))] I Qp Xp := by
  refine zC_of (by decide +kernel) (Nat.le_of_ble_eq_true rfl) ?_
  intro p e s m args below meth c X hnt
  have X : zX p l e zrm_X7_requireTicks s m args below meth c RX7 cX7_requireTicks 2 none D b0 tA sa sv := X
  refine zr_lv (lv2 := [some (vi (v)), some (vi ((200 : Int32)))]) rfl ?_
  refine zr_iload0 X dX7_requireTicks_0 ?_
  refine zr_iconst (v := (1 : Int32)) X dX7_requireTicks_1 (by decide) ?_
  refine zr_icmp_lt (tgt := 10) X dX7_requireTicks_2 (by decide) (fun h1 => ?_) (fun h1 => ?_)
  · skip
    refine zr_throwW (i := 27) X hnt zth_iae rfl dX7_requireTicks_10 dX7_requireTicks_13 dX7_requireTicks_14 dX7_requireTicks_17 dX7_requireTicks_20 ⟨by decide, by decide⟩ (Nat.le_of_ble_eq_true rfl) (by decide) (by decide) ?_
    exact kx
  · skip
    refine zr_iload0 X dX7_requireTicks_5 ?_
    refine zr_iload1 X dX7_requireTicks_6 ?_
    refine zr_icmp_le (tgt := 21) X dX7_requireTicks_7 (by decide) (fun h2 => ?_) (fun h2 => ?_)
    · skip
      refine zr_vret X (by decide) (by decide) dX7_requireTicks_21 ?_
      exact absurd hb (ztick_in (n := 200) (m := (200 : Int32)) (by decide) (by decide) (by assumption) (by assumption))
    · skip
      refine zr_throwW (i := 27) X hnt zth_iae rfl dX7_requireTicks_10 dX7_requireTicks_13 dX7_requireTicks_14 dX7_requireTicks_17 dX7_requireTicks_20 ⟨by decide, by decide⟩ (Nat.le_of_ble_eq_true rfl) (by decide) (by decide) ?_
      exact kx
abbrev zrm_X7_requireBuffered : Room := { frames := 8, cells := 1, slots := 6, locals := 120 }
set_option maxRecDepth 20000 in
theorem zo_X7_requireBuffered {l : Launch} {D : va_G} {b0 : Nat} {tA : Nat → ClassId} {sa sv : Nat → Nat} {K : zKt} {I : zI} {Qp : zI → Option AV → Prop} {Xp : String → zI → Prop} {F9 : zI} {x f : Nat} {t : Nat → Nat} {er : Int32} {S : zS} {U : List zS} {k9 : Nat}
    (hC : zCl F9 I x t f er S U) (h2 : k9 ≤ f) (k1 : Qp I none) :
    zC l D b0 tA sa sv K yX7_requireBuffered (.code yX7_requireBuffered cX7_requireBuffered 2 none) zrm_X7_requireBuffered [vr (x) 7, vi ((nI k9))] I Qp Xp := by
  have := hC.1.2.1
  refine zC_of (by decide +kernel) (Nat.le_of_ble_eq_true rfl) ?_
  intro p e s m args below meth c X hnt
  have X : zX p l e zrm_X7_requireBuffered s m args below meth c RX7 cX7_requireBuffered 2 none D b0 tA sa sv := X
  refine zr_lv (lv2 := [some (vr (x) 7), some (vi ((nI k9)))]) rfl ?_
  refine zr_iload1 X dX7_requireBuffered_0 ?_
  refine zr_nif_lt X (k9) (tgt := 15) (by omega) dX7_requireBuffered_1 (by decide) (fun h => h.elim) (fun _ => ?_)
  refine zr_iload1 X dX7_requireBuffered_4 ?_
  refine zr_aload0 X dX7_requireBuffered_5 ?_
  refine zr_getR X zf_X7_10 rfl (by decide) (by decide) dX7_requireBuffered_6 ?_
  refine zr_getI X zf_X7_47 rfl dX7_requireBuffered_9 ?_
  refine zr_eq (x2 := (nI f)) (hC.1.1) ?_
  refine zr_nicmp_le X (k9) (f) (tgt := 26) (by omega) (by omega) dX7_requireBuffered_12 (by decide) (fun h2 => ?_) (fun h2 => ?_)
  · skip
    refine zr_vret X (by decide) (by decide) dX7_requireBuffered_26 ?_
    exact k1
  · skip
    refine zr_throwW (i := 22) X hnt zth_iae rfl dX7_requireBuffered_15 dX7_requireBuffered_18 dX7_requireBuffered_19 dX7_requireBuffered_22 dX7_requireBuffered_25 ⟨by decide, by decide⟩ (Nat.le_of_ble_eq_true rfl) (by decide) (by decide) ?_
    exfalso; omega
set_option maxRecDepth 20000 in
theorem zx_X7_requireBuffered {l : Launch} {D : va_G} {b0 : Nat} {tA : Nat → ClassId} {sa sv : Nat → Nat} {K : zKt} {I : zI} {Qp : zI → Option AV → Prop} {Xp : String → zI → Prop} {F9 : zI} {x f : Nat} {t : Nat → Nat} {er : Int32} {S : zS} {U : List zS} {v : Int32}
    (hC : zCl F9 I x t f er S U) (hb : vIdx v (f + 1) = none) (kx : Xp "java/lang/IllegalArgumentException" I) :
    zC l D b0 tA sa sv K yX7_requireBuffered (.code yX7_requireBuffered cX7_requireBuffered 2 none) zrm_X7_requireBuffered [vr (x) 7, vi (v)] I Qp Xp := by
  refine zC_of (by decide +kernel) (Nat.le_of_ble_eq_true rfl) ?_
  intro p e s m args below meth c X hnt
  have X : zX p l e zrm_X7_requireBuffered s m args below meth c RX7 cX7_requireBuffered 2 none D b0 tA sa sv := X
  refine zr_lv (lv2 := [some (vr (x) 7), some (vi (v))]) rfl ?_
  refine zr_iload1 X dX7_requireBuffered_0 ?_
  refine zr_if_lt (tgt := 15) X dX7_requireBuffered_1 (by decide) (fun h1 => ?_) (fun h1 => ?_)
  · skip
    refine zr_throwW (i := 22) X hnt zth_iae rfl dX7_requireBuffered_15 dX7_requireBuffered_18 dX7_requireBuffered_19 dX7_requireBuffered_22 dX7_requireBuffered_25 ⟨by decide, by decide⟩ (Nat.le_of_ble_eq_true rfl) (by decide) (by decide) ?_
    exact kx
  · skip
    refine zr_iload1 X dX7_requireBuffered_4 ?_
    refine zr_aload0 X dX7_requireBuffered_5 ?_
    refine zr_getR X zf_X7_10 rfl (by decide) (by decide) dX7_requireBuffered_6 ?_
    refine zr_getI X zf_X7_47 rfl dX7_requireBuffered_9 ?_
    refine zr_eq (x2 := (nI f)) (hC.1.1) ?_
    refine zr_icmp_le (tgt := 26) X dX7_requireBuffered_12 (by decide) (fun h2 => ?_) (fun h2 => ?_)
    · skip
      refine zr_vret X (by decide) (by decide) dX7_requireBuffered_26 ?_
      exfalso; rcases vIdx_out (by have := hC.1.2.1; omega) hb with q | q; exact absurd q (by assumption); have z : v ≤ nI f := (by assumption); have := hC.1.2.1; rw [Int32.le_iff_toInt_le, nI_toInt (by omega)] at q z; omega
    · skip
      refine zr_throwW (i := 22) X hnt zth_iae rfl dX7_requireBuffered_15 dX7_requireBuffered_18 dX7_requireBuffered_19 dX7_requireBuffered_22 dX7_requireBuffered_25 ⟨by decide, by decide⟩ (Nat.le_of_ble_eq_true rfl) (by decide) (by decide) ?_
      exact kx
