/-! ===== ranks, cards in two lines ===== -/
abbrev zrm_X5_gatesAheadOf : Room := { frames := 1, cells := 0, slots := 0, locals := 21 }
theorem qLen_le {S : zS} (hW : zWf S) (g : Nat) : qLen S g ≤ 20 := by unfold qLen; have := hW.len g 0; have := hW.len g 1; omega
set_option maxRecDepth 20000 in
theorem zl_X5_gatesAheadOf {l : Launch} {D : va_G} {b0 : Nat} {tA : Nat → ClassId} {sa sv : Nat → Nat} {K : zKt} {I : zI} {Qp : zI → Option AV → Prop} {Xp : String → zI → Prop} {p : Program} {e : Env} {s : State} {m : MethodId} {args : Array Value} {below : List Frame} {meth : Method} {c : Code} {a g : Nat} {S : zS}
    (X : zX p l e zrm_X5_gatesAheadOf s m args below meth c RX5 cX5_gatesAheadOf 6 (some .int) D b0 tA sa sv) (hnt : ∀ x ∈ c.exceptionTable.toList, False) (hR : zRw I a S) (hW : zWf S) (hg : g < zng S) (k1 : Qp I (some (vi (nI (qAhead S g))))) :
    ∀ (n : Nat) (j v : Nat), j ≤ zng S → v = nsum (fun o => if qLen S g < qLen S o ∨ (qLen S o = qLen S g ∧ o < g) then 1 else 0) j → zng S - j < n → zG p l e zrm_X5_gatesAheadOf s m args below meth c 6 D b0 tA sa 0 0 (zQ below D b0 tA sa K args s zrm_X5_gatesAheadOf Qp Xp) K 25 [some (vr (a) 5), some (vi ((nI g))), some (vi ((nI (qLen S g)))), some (vi ((nI v))), some (vi ((nI j))), none] [] I := by
  intro n
  induction n with
  | zero => intro j v i1 i2 i3; exact absurd i3 (Nat.not_lt_zero _)
  | succ n ih =>
    intro j v i1 i2 i3
    have hg6 := hW.ng.1
    have hc12 := hW.nc.1
    have hl9 := qLen_le hW
    have hq1 := hl9 g
    have hq2 := hl9 j
    have hb9 := nsum_le (f := fun o => if qLen S g < qLen S o ∨ (qLen S o = qLen S g ∧ o < g) then 1 else 0) (b := 1) (fun i => by split <;> omega) j
    refine zr_iload4 X dX5_gatesAheadOf_25 ?_
    refine zr_aload0 X dX5_gatesAheadOf_27 ?_
    refine zr_getI X zf_X5_39 rfl dX5_gatesAheadOf_28 ?_
    refine zr_eq (x2 := (sX S 4)) (hR.1 4 (by decide) (by decide)) ?_
    refine zr_eq (x2 := (nI (zng S))) (hW.ng.2) ?_
    refine zr_nicmp_ge X (j) ((zng S)) (tgt := 83) (by omega) (by omega) dX5_gatesAheadOf_31 (by decide) (fun h1 => ?_) (fun h1 => ?_)
    · skip
      refine zr_iload3 X dX5_gatesAheadOf_83 ?_
      refine zr_iret X (by decide) (by decide) dX5_gatesAheadOf_84 ?_
      have hj : j = zng S := by omega
      subst hj
      rw [i2]; exact k1
    · skip
      refine zr_iload4 X dX5_gatesAheadOf_34 ?_
      refine zr_aload0 X dX5_gatesAheadOf_36 ?_
      refine zr_getR X zf_X5_11 rfl (by decide) (by decide) dX5_gatesAheadOf_37 ?_
      refine zr_alen (v := 6) X (Or.inr (Or.inl rfl)) rfl dX5_gatesAheadOf_40 ?_
      refine zr_nicmp_ge X (j) (6) (tgt := 83) (by omega) (by omega) dX5_gatesAheadOf_41 (by decide) (fun h2 => ?_) (fun h2 => ?_)
      · exact absurd h2 (by omega)
      · skip
        refine zr_aload0 X dX5_gatesAheadOf_44 ?_
        refine zr_getR X zf_X5_11 rfl (by decide) (by decide) dX5_gatesAheadOf_45 ?_
        refine zr_iload4 X dX5_gatesAheadOf_48 ?_
        refine zr_aaldN X rfl rfl (by decide) (show _ < 6 from (by first | assumption | omega)) dX5_gatesAheadOf_50 ?_
        refine zr_callV0 (rm9 := zrm_X1_peopleInLines) X hnt zm_X5_141 (by decide) (by decide) (by decide) (Nat.le_of_ble_eq_true rfl) dX5_gatesAheadOf_51 ?_
        refine zq_X1_peopleInLines (hR.2.2.1 j (by omega)) ?_
        refine zr_istore5 X (by decide) rfl dX5_gatesAheadOf_54 ?_
        refine zr_iload5 X dX5_gatesAheadOf_56 ?_
        refine zr_iload2 X dX5_gatesAheadOf_58 ?_
        refine zr_nicmp_gt X ((qLen S j)) ((qLen S g)) (tgt := 74) (by omega) (by omega) dX5_gatesAheadOf_59 (by decide) (fun h3 => ?_) (fun h3 => ?_)
        · skip
          refine zr_iinc3 (v := (nI (v + 1))) X (show nI (v) + Int32.ofInt 1 = nI (v + 1) from nI_1 (v)) (by decide) rfl dX5_gatesAheadOf_74 ?_
          refine zr_iinc4 (v := (nI (j + 1))) X (show nI (j) + Int32.ofInt 1 = nI (j + 1) from nI_1 (j)) (by decide) rfl dX5_gatesAheadOf_77 ?_
          refine zr_goto (tgt := 25) X dX5_gatesAheadOf_80 (by decide) ?_
          refine zr_forget (lv2 := [some (vr (a) 5), some (vi ((nI g))), some (vi ((nI (qLen S g)))), some (vi ((nI (v + 1)))), some (vi ((nI (j + 1)))), none]) (fun j9 v9 h9 => by rcases j9 with _ | _ | _ | _ | _ | _ | j9 <;> first | exact h9 | (simp at h9)) ?_
          refine ih (j + 1) _ (by omega) ?_ (by omega)
          first | (rw [nsum, if_pos (by omega), i2]; done) | (rw [nsum, if_neg (by omega), Nat.add_zero, i2]; done)
        · skip
          refine zr_iload5 X dX5_gatesAheadOf_62 ?_
          refine zr_iload2 X dX5_gatesAheadOf_64 ?_
          refine zr_nicmp_ne X ((qLen S j)) ((qLen S g)) (tgt := 77) (by omega) (by omega) dX5_gatesAheadOf_65 (by decide) (fun h4 => ?_) (fun h4 => ?_)
          · skip
            refine zr_iinc4 (v := (nI (j + 1))) X (show nI (j) + Int32.ofInt 1 = nI (j + 1) from nI_1 (j)) (by decide) rfl dX5_gatesAheadOf_77 ?_
            refine zr_goto (tgt := 25) X dX5_gatesAheadOf_80 (by decide) ?_
            refine zr_forget (lv2 := [some (vr (a) 5), some (vi ((nI g))), some (vi ((nI (qLen S g)))), some (vi ((nI v))), some (vi ((nI (j + 1)))), none]) (fun j9 v9 h9 => by rcases j9 with _ | _ | _ | _ | _ | _ | j9 <;> first | exact h9 | (simp at h9)) ?_
            refine ih (j + 1) _ (by omega) ?_ (by omega)
            first | (rw [nsum, if_pos (by omega), i2]; done) | (rw [nsum, if_neg (by omega), Nat.add_zero, i2]; done)
          · skip
            refine zr_iload4 X dX5_gatesAheadOf_68 ?_
            refine zr_iload1 X dX5_gatesAheadOf_70 ?_
            refine zr_nicmp_ge X (j) (g) (tgt := 77) (by omega) (by omega) dX5_gatesAheadOf_71 (by decide) (fun h5 => ?_) (fun h5 => ?_)
            · skip
              refine zr_iinc4 (v := (nI (j + 1))) X (show nI (j) + Int32.ofInt 1 = nI (j + 1) from nI_1 (j)) (by decide) rfl dX5_gatesAheadOf_77 ?_
              refine zr_goto (tgt := 25) X dX5_gatesAheadOf_80 (by decide) ?_
              refine zr_forget (lv2 := [some (vr (a) 5), some (vi ((nI g))), some (vi ((nI (qLen S g)))), some (vi ((nI v))), some (vi ((nI (j + 1)))), none]) (fun j9 v9 h9 => by rcases j9 with _ | _ | _ | _ | _ | _ | j9 <;> first | exact h9 | (simp at h9)) ?_
              refine ih (j + 1) _ (by omega) ?_ (by omega)
              first | (rw [nsum, if_pos (by omega), i2]; done) | (rw [nsum, if_neg (by omega), Nat.add_zero, i2]; done)
            · skip
              refine zr_iinc3 (v := (nI (v + 1))) X (show nI (v) + Int32.ofInt 1 = nI (v + 1) from nI_1 (v)) (by decide) rfl dX5_gatesAheadOf_74 ?_
              refine zr_iinc4 (v := (nI (j + 1))) X (show nI (j) + Int32.ofInt 1 = nI (j + 1) from nI_1 (j)) (by decide) rfl dX5_gatesAheadOf_77 ?_
              refine zr_goto (tgt := 25) X dX5_gatesAheadOf_80 (by decide) ?_
              refine zr_forget (lv2 := [some (vr (a) 5), some (vi ((nI g))), some (vi ((nI (qLen S g)))), some (vi ((nI (v + 1)))), some (vi ((nI (j + 1)))), none]) (fun j9 v9 h9 => by rcases j9 with _ | _ | _ | _ | _ | _ | j9 <;> first | exact h9 | (simp at h9)) ?_
              refine ih (j + 1) _ (by omega) ?_ (by omega)
              first | (rw [nsum, if_pos (by omega), i2]; done) | (rw [nsum, if_neg (by omega), Nat.add_zero, i2]; done)
set_option maxRecDepth 20000 in
theorem zp_X5_gatesAheadOf {l : Launch} {D : va_G} {b0 : Nat} {tA : Nat → ClassId} {sa sv : Nat → Nat} {K : zKt} {I : zI} {Qp : zI → Option AV → Prop} {Xp : String → zI → Prop} {a g : Nat} {S : zS}
    (hR : zRw I a S) (hW : zWf S) (hg : g < zng S) (k1 : Qp I (some (vi (nI (qAhead S g))))) :
    zC l D b0 tA sa sv K yX5_gatesAheadOf (.code yX5_gatesAheadOf cX5_gatesAheadOf 6 (some .int)) zrm_X5_gatesAheadOf [vr (a) 5, vi ((nI g))] I Qp Xp := by
  have hg6 := hW.ng.1
  have hc12 := hW.nc.1
  refine zC_of (by decide +kernel) (Nat.le_of_ble_eq_true rfl) ?_
  intro p e s m args below meth c X hnt
  have X : zX p l e zrm_X5_gatesAheadOf s m args below meth c RX5 cX5_gatesAheadOf 6 (some .int) D b0 tA sa sv := X
  refine zr_lv (lv2 := [some (vr (a) 5), some (vi ((nI g))), none, none, none, none]) rfl ?_
  refine zr_aload0 X dX5_gatesAheadOf_0 ?_
  refine zr_iload1 X dX5_gatesAheadOf_1 ?_
  refine zr_callV1 (rm9 := zrm_X5_hasGate) X hnt zm_X5_134 (by decide) (by decide) (by decide) (Nat.le_of_ble_eq_true rfl) dX5_gatesAheadOf_2 ?_
  refine zn_X5_hasGate hR hW (by omega) ?_ ?_
  · skip
    intro hh1
    refine zr_if_ne (tgt := 10) X dX5_gatesAheadOf_5 (by decide) (fun _ => ?_) (fun h => absurd h (by decide))
    refine zr_aload0 X dX5_gatesAheadOf_10 ?_
    refine zr_getR X zf_X5_11 rfl (by decide) (by decide) dX5_gatesAheadOf_11 ?_
    refine zr_iload1 X dX5_gatesAheadOf_14 ?_
    refine zr_aaldN X rfl rfl (by decide) (show _ < 6 from (by first | assumption | omega)) dX5_gatesAheadOf_15 ?_
    refine zr_callV0 (rm9 := zrm_X1_peopleInLines) X hnt zm_X5_141 (by decide) (by decide) (by decide) (Nat.le_of_ble_eq_true rfl) dX5_gatesAheadOf_16 ?_
    refine zq_X1_peopleInLines (hR.2.2.1 g (by omega)) ?_
    refine zr_istore2 X (by decide) rfl dX5_gatesAheadOf_19 ?_
    refine zr_iconst (v := (0 : Int32)) X dX5_gatesAheadOf_20 (by decide) ?_
    refine zr_istore3 X (by decide) rfl dX5_gatesAheadOf_21 ?_
    refine zr_iconst (v := (0 : Int32)) X dX5_gatesAheadOf_22 (by decide) ?_
    refine zr_istore4 X (by decide) rfl dX5_gatesAheadOf_23 ?_
    exact zl_X5_gatesAheadOf X hnt hR hW hg k1 (zng S + 1) 0 0 (by omega) rfl (by omega)
  · skip
    intro hh1
    refine zr_if_ne (tgt := 10) X dX5_gatesAheadOf_5 (by decide) (fun h => absurd h (by decide)) (fun _ => ?_)
    refine zr_iconst (v := (-1 : Int32)) X dX5_gatesAheadOf_8 (by decide) ?_
    refine zr_iret X (by decide) (by decide) dX5_gatesAheadOf_9 ?_
    exact absurd hg (by assumption)
abbrev zrm_X5_cardsInTwoLines : Room := { frames := 1, cells := 0, slots := 0, locals := 22 }
set_option maxRecDepth 20000 in
theorem zl2_X5_cardsInTwoLines {l : Launch} {D : va_G} {b0 : Nat} {tA : Nat → ClassId} {sa sv : Nat → Nat} {K : zKt} {I : zI} {Qp : zI → Option AV → Prop} {Xp : String → zI → Prop} {p : Program} {e : Env} {s : State} {m : MethodId} {args : Array Value} {below : List Frame} {meth : Method} {c : Code} {a t : Nat} {S : zS}
    (X : zX p l e zrm_X5_cardsInTwoLines s m args below meth c RX5 cX5_cardsInTwoLines 8 (some .int) D b0 tA sa sv) (hnt : ∀ x ∈ c.exceptionTable.toList, False) (hR : zRw I a S) (hW : zWf S) (ht : t < znc S) (hk : ∀ v : Nat, v ≤ 1 → zG p l e zrm_X5_cardsInTwoLines s m args below meth c 8 D b0 tA sa 0 0 (zQ below D b0 tA sa K args s zrm_X5_cardsInTwoLines Qp Xp) K 99 [some (vr (a) 5), some (vi ((nI 0))), some (vi ((nI t))), some (vi ((nI v))), none, none, none, none] [] I) :
    ∀ (n : Nat) (j v : Nat), j ≤ 6 → (v = 0 ∨ (v = 1 ∧ ∃ g s p, g < j ∧ zAt S t g s p)) → 6 - j < n → zG p l e zrm_X5_cardsInTwoLines s m args below meth c 8 D b0 tA sa 0 0 (zQ below D b0 tA sa K args s zrm_X5_cardsInTwoLines Qp Xp) K 37 [some (vr (a) 5), some (vi ((nI 0))), some (vi ((nI t))), some (vi ((nI v))), some (vr (a + 1) 12), some (vi ((6 : Int32))), some (vi ((nI j))), none] [] I := by
  intro n
  induction n with
  | zero => intro j v i1 i2 i3; exact absurd i3 (Nat.not_lt_zero _)
  | succ n ih =>
    intro j v i1 i2 i3
    have hg6 := hW.ng.1
    have hc12 := hW.nc.1
    have hv1 : v ≤ 1 := by rcases i2 with i2 | ⟨i2, _⟩ <;> omega
    refine zr_iload6 X dX5_cardsInTwoLines_37 ?_
    refine zr_iload5 X dX5_cardsInTwoLines_39 ?_
    refine zr_nicmp_ge X (j) (6) (tgt := 99) (by omega) (by omega) dX5_cardsInTwoLines_41 (by decide) (fun h1 => ?_) (fun h1 => ?_)
    · skip
      refine zr_forget (lv2 := [some (vr (a) 5), some (vi ((nI 0))), some (vi ((nI t))), some (vi ((nI v))), none, none, none, none]) (fun j9 v9 h9 => by rcases j9 with _ | _ | _ | _ | _ | _ | _ | _ | j9 <;> first | exact h9 | (simp at h9)) ?_
      exact hk v (by rcases i2 with i2 | ⟨i2, _⟩ <;> omega)
    · skip
      refine zr_aload4 X dX5_cardsInTwoLines_44 ?_
      refine zr_iload6 X dX5_cardsInTwoLines_46 ?_
      refine zr_aaldN X rfl rfl (by decide) (show _ < 6 from (by first | assumption | omega)) dX5_cardsInTwoLines_48 ?_
      refine zr_astore7 X (by decide) rfl dX5_cardsInTwoLines_49 ?_
      refine zr_iload3 X dX5_cardsInTwoLines_51 ?_
      refine zr_aload7 X dX5_cardsInTwoLines_52 ?_
      refine zr_getR X zf_X5_122 rfl (by decide) (by decide) dX5_cardsInTwoLines_54 ?_
      refine zr_iload2 X dX5_cardsInTwoLines_57 ?_
      refine zr_callV1 (rm9 := zrm_X4_placeOf) X hnt zm_X5_126 (by decide) (by decide) (by decide) (Nat.le_of_ble_eq_true rfl) dX5_cardsInTwoLines_58 ?_
      refine zq_X4_placeOf (w := (sL S j 0)) ((hR.2.2.1 j (by omega)).2.1) (hW.le12 _ _) (by omega) ?_ ?_
      · skip
        intro kk3 hb5 hm2; have hm2 : zAt S t j 0 kk3 := ⟨by omega, by omega, hm2⟩
        refine zr_iconst (v := (-1 : Int32)) X dX5_cardsInTwoLines_61 (by decide) ?_
        refine zr_icmp_eq (tgt := 69) X dX5_cardsInTwoLines_62 (by decide) (fun h => absurd h (zm1 (by omega))) (fun _ => ?_)
        refine zr_iconst (v := (1 : Int32)) X dX5_cardsInTwoLines_65 (by decide) ?_
        refine zr_goto (tgt := 70) X dX5_cardsInTwoLines_66 (by decide) ?_
        refine zr_iadd X dX5_cardsInTwoLines_70 ?_
        refine zr_eq (x2 := (nI (v + 1))) (nI_add (v) (1)) ?_
        refine zr_istore3 X (by decide) rfl dX5_cardsInTwoLines_71 ?_
        refine zr_iload3 X dX5_cardsInTwoLines_72 ?_
        refine zr_aload7 X dX5_cardsInTwoLines_73 ?_
        refine zr_getR X zf_X5_131 rfl (by decide) (by decide) dX5_cardsInTwoLines_75 ?_
        refine zr_iload2 X dX5_cardsInTwoLines_78 ?_
        refine zr_callV1 (rm9 := zrm_X4_placeOf) X hnt zm_X5_126 (by decide) (by decide) (by decide) (Nat.le_of_ble_eq_true rfl) dX5_cardsInTwoLines_79 ?_
        refine zq_X4_placeOf (w := (sL S j 1)) ((hR.2.2.1 j (by omega)).2.2) (hW.le12 _ _) (by omega) ?_ ?_
        · skip
          intro kk7 hb9 hm6; have hm6 : zAt S t j 1 kk7 := ⟨by omega, by omega, hm6⟩
          refine zr_iconst (v := (-1 : Int32)) X dX5_cardsInTwoLines_82 (by decide) ?_
          refine zr_icmp_eq (tgt := 90) X dX5_cardsInTwoLines_83 (by decide) (fun h => absurd h (zm1 (by omega))) (fun _ => ?_)
          refine zr_iconst (v := (1 : Int32)) X dX5_cardsInTwoLines_86 (by decide) ?_
          refine zr_goto (tgt := 91) X dX5_cardsInTwoLines_87 (by decide) ?_
          refine zr_iadd X dX5_cardsInTwoLines_91 ?_
          refine zr_eq (x2 := (nI ((v + 1) + 1))) (nI_add ((v + 1)) (1)) ?_
          refine zr_istore3 X (by decide) rfl dX5_cardsInTwoLines_92 ?_
          refine zr_iinc6 (v := (nI (j + 1))) X (show nI (j) + Int32.ofInt 1 = nI (j + 1) from nI_1 (j)) (by decide) rfl dX5_cardsInTwoLines_93 ?_
          refine zr_goto (tgt := 37) X dX5_cardsInTwoLines_96 (by decide) ?_
          refine zr_forget (lv2 := [some (vr (a) 5), some (vi ((nI 0))), some (vi ((nI t))), some (vi ((nI ((v + 1) + 1)))), some (vr (a + 1) 12), some (vi ((6 : Int32))), some (vi ((nI (j + 1)))), none]) (fun j9 v9 h9 => by rcases j9 with _ | _ | _ | _ | _ | _ | _ | _ | j9 <;> first | exact h9 | (simp at h9)) ?_
          refine ih (j + 1) _ (by omega) ?_ (by omega)
          rcases i2 with i2 | ⟨i2, g9, s9, p9, i4, i5⟩
          · first | exact Or.inl (by omega) | exact Or.inr ⟨by omega, j, 0, _, by omega, by assumption⟩ | exact Or.inr ⟨by omega, j, 1, _, by omega, by assumption⟩ | (exfalso; have q9 := (hW.uniq _ _ _ _ _ _ _ (by assumption : zAt S t j 0 _) (by assumption : zAt S t j 1 _)); omega)
          · first | exact Or.inr ⟨by omega, g9, s9, p9, by omega, i5⟩ | (exfalso; have q9 := (hW.uniq _ _ _ _ _ _ _ i5 (by assumption : zAt S t j 0 _)).1; omega) | (exfalso; have q9 := (hW.uniq _ _ _ _ _ _ _ i5 (by assumption : zAt S t j 1 _)).1; omega)
        · skip
          intro hm8
          refine zr_iconst (v := (-1 : Int32)) X dX5_cardsInTwoLines_82 (by decide) ?_
          refine zr_icmp_eq (tgt := 90) X dX5_cardsInTwoLines_83 (by decide) (fun _ => ?_) (fun h => absurd h (by decide))
          refine zr_iconst (v := (0 : Int32)) X dX5_cardsInTwoLines_90 (by decide) ?_
          refine zr_iadd X dX5_cardsInTwoLines_91 ?_
          refine zr_eq (x2 := (nI ((v + 1) + 0))) (nI_add ((v + 1)) (0)) ?_
          refine zr_istore3 X (by decide) rfl dX5_cardsInTwoLines_92 ?_
          refine zr_iinc6 (v := (nI (j + 1))) X (show nI (j) + Int32.ofInt 1 = nI (j + 1) from nI_1 (j)) (by decide) rfl dX5_cardsInTwoLines_93 ?_
          refine zr_goto (tgt := 37) X dX5_cardsInTwoLines_96 (by decide) ?_
          refine zr_forget (lv2 := [some (vr (a) 5), some (vi ((nI 0))), some (vi ((nI t))), some (vi ((nI ((v + 1) + 0)))), some (vr (a + 1) 12), some (vi ((6 : Int32))), some (vi ((nI (j + 1)))), none]) (fun j9 v9 h9 => by rcases j9 with _ | _ | _ | _ | _ | _ | _ | _ | j9 <;> first | exact h9 | (simp at h9)) ?_
          refine ih (j + 1) _ (by omega) ?_ (by omega)
          rcases i2 with i2 | ⟨i2, g9, s9, p9, i4, i5⟩
          · first | exact Or.inl (by omega) | exact Or.inr ⟨by omega, j, 0, _, by omega, by assumption⟩ | exact Or.inr ⟨by omega, j, 1, _, by omega, by assumption⟩ | (exfalso; have q9 := (hW.uniq _ _ _ _ _ _ _ (by assumption : zAt S t j 0 _) (by assumption : zAt S t j 1 _)); omega)
          · first | exact Or.inr ⟨by omega, g9, s9, p9, by omega, i5⟩ | (exfalso; have q9 := (hW.uniq _ _ _ _ _ _ _ i5 (by assumption : zAt S t j 0 _)).1; omega) | (exfalso; have q9 := (hW.uniq _ _ _ _ _ _ _ i5 (by assumption : zAt S t j 1 _)).1; omega)
      · skip
        intro hm4
        refine zr_iconst (v := (-1 : Int32)) X dX5_cardsInTwoLines_61 (by decide) ?_
        refine zr_icmp_eq (tgt := 69) X dX5_cardsInTwoLines_62 (by decide) (fun _ => ?_) (fun h => absurd h (by decide))
        refine zr_iconst (v := (0 : Int32)) X dX5_cardsInTwoLines_69 (by decide) ?_
        refine zr_iadd X dX5_cardsInTwoLines_70 ?_
        refine zr_eq (x2 := (nI (v + 0))) (nI_add (v) (0)) ?_
        refine zr_istore3 X (by decide) rfl dX5_cardsInTwoLines_71 ?_
        refine zr_iload3 X dX5_cardsInTwoLines_72 ?_
        refine zr_aload7 X dX5_cardsInTwoLines_73 ?_
        refine zr_getR X zf_X5_131 rfl (by decide) (by decide) dX5_cardsInTwoLines_75 ?_
        refine zr_iload2 X dX5_cardsInTwoLines_78 ?_
        refine zr_callV1 (rm9 := zrm_X4_placeOf) X hnt zm_X5_126 (by decide) (by decide) (by decide) (Nat.le_of_ble_eq_true rfl) dX5_cardsInTwoLines_79 ?_
        refine zq_X4_placeOf (w := (sL S j 1)) ((hR.2.2.1 j (by omega)).2.2) (hW.le12 _ _) (by omega) ?_ ?_
        · skip
          intro kk11 hb13 hm10; have hm10 : zAt S t j 1 kk11 := ⟨by omega, by omega, hm10⟩
          refine zr_iconst (v := (-1 : Int32)) X dX5_cardsInTwoLines_82 (by decide) ?_
          refine zr_icmp_eq (tgt := 90) X dX5_cardsInTwoLines_83 (by decide) (fun h => absurd h (zm1 (by omega))) (fun _ => ?_)
          refine zr_iconst (v := (1 : Int32)) X dX5_cardsInTwoLines_86 (by decide) ?_
          refine zr_goto (tgt := 91) X dX5_cardsInTwoLines_87 (by decide) ?_
          refine zr_iadd X dX5_cardsInTwoLines_91 ?_
          refine zr_eq (x2 := (nI ((v + 0) + 1))) (nI_add ((v + 0)) (1)) ?_
          refine zr_istore3 X (by decide) rfl dX5_cardsInTwoLines_92 ?_
          refine zr_iinc6 (v := (nI (j + 1))) X (show nI (j) + Int32.ofInt 1 = nI (j + 1) from nI_1 (j)) (by decide) rfl dX5_cardsInTwoLines_93 ?_
          refine zr_goto (tgt := 37) X dX5_cardsInTwoLines_96 (by decide) ?_
          refine zr_forget (lv2 := [some (vr (a) 5), some (vi ((nI 0))), some (vi ((nI t))), some (vi ((nI ((v + 0) + 1)))), some (vr (a + 1) 12), some (vi ((6 : Int32))), some (vi ((nI (j + 1)))), none]) (fun j9 v9 h9 => by rcases j9 with _ | _ | _ | _ | _ | _ | _ | _ | j9 <;> first | exact h9 | (simp at h9)) ?_
          refine ih (j + 1) _ (by omega) ?_ (by omega)
          rcases i2 with i2 | ⟨i2, g9, s9, p9, i4, i5⟩
          · first | exact Or.inl (by omega) | exact Or.inr ⟨by omega, j, 0, _, by omega, by assumption⟩ | exact Or.inr ⟨by omega, j, 1, _, by omega, by assumption⟩ | (exfalso; have q9 := (hW.uniq _ _ _ _ _ _ _ (by assumption : zAt S t j 0 _) (by assumption : zAt S t j 1 _)); omega)
          · first | exact Or.inr ⟨by omega, g9, s9, p9, by omega, i5⟩ | (exfalso; have q9 := (hW.uniq _ _ _ _ _ _ _ i5 (by assumption : zAt S t j 0 _)).1; omega) | (exfalso; have q9 := (hW.uniq _ _ _ _ _ _ _ i5 (by assumption : zAt S t j 1 _)).1; omega)
        · skip
          intro hm12
          refine zr_iconst (v := (-1 : Int32)) X dX5_cardsInTwoLines_82 (by decide) ?_
          refine zr_icmp_eq (tgt := 90) X dX5_cardsInTwoLines_83 (by decide) (fun _ => ?_) (fun h => absurd h (by decide))
          refine zr_iconst (v := (0 : Int32)) X dX5_cardsInTwoLines_90 (by decide) ?_
          refine zr_iadd X dX5_cardsInTwoLines_91 ?_
          refine zr_eq (x2 := (nI ((v + 0) + 0))) (nI_add ((v + 0)) (0)) ?_
          refine zr_istore3 X (by decide) rfl dX5_cardsInTwoLines_92 ?_
          refine zr_iinc6 (v := (nI (j + 1))) X (show nI (j) + Int32.ofInt 1 = nI (j + 1) from nI_1 (j)) (by decide) rfl dX5_cardsInTwoLines_93 ?_
          refine zr_goto (tgt := 37) X dX5_cardsInTwoLines_96 (by decide) ?_
          refine zr_forget (lv2 := [some (vr (a) 5), some (vi ((nI 0))), some (vi ((nI t))), some (vi ((nI ((v + 0) + 0)))), some (vr (a + 1) 12), some (vi ((6 : Int32))), some (vi ((nI (j + 1)))), none]) (fun j9 v9 h9 => by rcases j9 with _ | _ | _ | _ | _ | _ | _ | _ | j9 <;> first | exact h9 | (simp at h9)) ?_
          refine ih (j + 1) _ (by omega) ?_ (by omega)
          rcases i2 with i2 | ⟨i2, g9, s9, p9, i4, i5⟩
          · first | exact Or.inl (by omega) | exact Or.inr ⟨by omega, j, 0, _, by omega, by assumption⟩ | exact Or.inr ⟨by omega, j, 1, _, by omega, by assumption⟩ | (exfalso; have q9 := (hW.uniq _ _ _ _ _ _ _ (by assumption : zAt S t j 0 _) (by assumption : zAt S t j 1 _)); omega)
          · first | exact Or.inr ⟨by omega, g9, s9, p9, by omega, i5⟩ | (exfalso; have q9 := (hW.uniq _ _ _ _ _ _ _ i5 (by assumption : zAt S t j 0 _)).1; omega) | (exfalso; have q9 := (hW.uniq _ _ _ _ _ _ _ i5 (by assumption : zAt S t j 1 _)).1; omega)
set_option maxRecDepth 20000 in
theorem zl_X5_cardsInTwoLines {l : Launch} {D : va_G} {b0 : Nat} {tA : Nat → ClassId} {sa sv : Nat → Nat} {K : zKt} {I : zI} {Qp : zI → Option AV → Prop} {Xp : String → zI → Prop} {p : Program} {e : Env} {s : State} {m : MethodId} {args : Array Value} {below : List Frame} {meth : Method} {c : Code} {a : Nat} {S : zS}
    (X : zX p l e zrm_X5_cardsInTwoLines s m args below meth c RX5 cX5_cardsInTwoLines 8 (some .int) D b0 tA sa sv) (hnt : ∀ x ∈ c.exceptionTable.toList, False) (hR : zRw I a S) (hW : zWf S) (k1 : Qp I (some (vi (nI 0)))) :
    ∀ (n : Nat) (t : Nat), t ≤ znc S → znc S - t < n → zG p l e zrm_X5_cardsInTwoLines s m args below meth c 8 D b0 tA sa 0 0 (zQ below D b0 tA sa K args s zrm_X5_cardsInTwoLines Qp Xp) K 4 [some (vr (a) 5), some (vi ((nI 0))), some (vi ((nI t))), none, none, none, none, none] [] I := by
  intro n
  induction n with
  | zero => intro t i1 i3; exact absurd i3 (Nat.not_lt_zero _)
  | succ n ih =>
    intro t i1 i3
    have hg6 := hW.ng.1
    have hc12 := hW.nc.1
    refine zr_iload2 X dX5_cardsInTwoLines_4 ?_
    refine zr_aload0 X dX5_cardsInTwoLines_5 ?_
    refine zr_getI X zf_X5_42 rfl dX5_cardsInTwoLines_6 ?_
    refine zr_eq (x2 := (sX S 5)) (hR.1 5 (by decide) (by decide)) ?_
    refine zr_eq (x2 := (nI (znc S))) (hW.nc.2) ?_
    refine zr_nicmp_ge X (t) ((znc S)) (tgt := 113) (by omega) (by omega) dX5_cardsInTwoLines_9 (by decide) (fun h1 => ?_) (fun h1 => ?_)
    · skip
      refine zr_iload1 X dX5_cardsInTwoLines_113 ?_
      refine zr_iret X (by decide) (by decide) dX5_cardsInTwoLines_114 ?_
      exact k1
    · skip
      refine zr_iload2 X dX5_cardsInTwoLines_12 ?_
      refine zr_aload0 X dX5_cardsInTwoLines_13 ?_
      refine zr_getR X zf_X5_19 rfl (by decide) (by decide) dX5_cardsInTwoLines_14 ?_
      refine zr_alen (v := 12) X (Or.inr (Or.inl rfl)) rfl dX5_cardsInTwoLines_17 ?_
      refine zr_nicmp_ge X (t) (12) (tgt := 113) (by omega) (by omega) dX5_cardsInTwoLines_18 (by decide) (fun h2 => ?_) (fun h2 => ?_)
      · exact absurd h2 (by omega)
      · skip
        refine zr_iconst (v := (0 : Int32)) X dX5_cardsInTwoLines_21 (by decide) ?_
        refine zr_istore3 X (by decide) rfl dX5_cardsInTwoLines_22 ?_
        refine zr_aload0 X dX5_cardsInTwoLines_23 ?_
        refine zr_getR X zf_X5_11 rfl (by decide) (by decide) dX5_cardsInTwoLines_24 ?_
        refine zr_astore4 X (by decide) rfl dX5_cardsInTwoLines_27 ?_
        refine zr_aload4 X dX5_cardsInTwoLines_29 ?_
        refine zr_alen (v := 6) X (Or.inr (Or.inl rfl)) rfl dX5_cardsInTwoLines_31 ?_
        refine zr_istore5 X (by decide) rfl dX5_cardsInTwoLines_32 ?_
        refine zr_iconst (v := (0 : Int32)) X dX5_cardsInTwoLines_34 (by decide) ?_
        refine zr_istore6 X (by decide) rfl dX5_cardsInTwoLines_35 ?_
        refine zl2_X5_cardsInTwoLines X hnt hR hW (by omega) (fun v9 hv9 => ?_) 7 0 0 (by omega) (Or.inl rfl) (by omega)
        refine zr_iload3 X dX5_cardsInTwoLines_99 ?_
        refine zr_iconst (v := (1 : Int32)) X dX5_cardsInTwoLines_100 (by decide) ?_
        refine zr_nicmp_le X (v9) (1) (tgt := 107) (by omega) (by omega) dX5_cardsInTwoLines_101 (by decide) (fun h3 => ?_) (fun h3 => ?_)
        · skip
          refine zr_iinc2 (v := (nI (t + 1))) X (show nI (t) + Int32.ofInt 1 = nI (t + 1) from nI_1 (t)) (by decide) rfl dX5_cardsInTwoLines_107 ?_
          refine zr_goto (tgt := 4) X dX5_cardsInTwoLines_110 (by decide) ?_
          refine zr_forget (lv2 := [some (vr (a) 5), some (vi ((nI 0))), some (vi ((nI (t + 1)))), none, none, none, none, none]) (fun j9 v9 h9 => by rcases j9 with _ | _ | _ | _ | _ | _ | _ | _ | j9 <;> first | exact h9 | (simp at h9)) ?_
          exact ih (t + 1) (by omega) (by omega)
        · exact absurd h3 (by omega)
set_option maxRecDepth 20000 in
theorem zp_X5_cardsInTwoLines {l : Launch} {D : va_G} {b0 : Nat} {tA : Nat → ClassId} {sa sv : Nat → Nat} {K : zKt} {I : zI} {Qp : zI → Option AV → Prop} {Xp : String → zI → Prop} {a : Nat} {S : zS}
    (hR : zRw I a S) (hW : zWf S) (k1 : Qp I (some (vi (nI 0)))) :
    zC l D b0 tA sa sv K yX5_cardsInTwoLines (.code yX5_cardsInTwoLines cX5_cardsInTwoLines 8 (some .int)) zrm_X5_cardsInTwoLines [vr (a) 5] I Qp Xp := by
  refine zC_of (by decide +kernel) (Nat.le_of_ble_eq_true rfl) ?_
  intro p e s m args below meth c X hnt
  have X : zX p l e zrm_X5_cardsInTwoLines s m args below meth c RX5 cX5_cardsInTwoLines 8 (some .int) D b0 tA sa sv := X
  refine zr_lv (lv2 := [some (vr (a) 5), none, none, none, none, none, none, none]) rfl ?_
  refine zr_iconst (v := (0 : Int32)) X dX5_cardsInTwoLines_0 (by decide) ?_
  refine zr_istore1 X (by decide) rfl dX5_cardsInTwoLines_1 ?_
  refine zr_iconst (v := (0 : Int32)) X dX5_cardsInTwoLines_2 (by decide) ?_
  refine zr_istore2 X (by decide) rfl dX5_cardsInTwoLines_3 ?_
  exact zl_X5_cardsInTwoLines X hnt hR hW k1 (znc S + 1) 0 (by omega) (by omega)
