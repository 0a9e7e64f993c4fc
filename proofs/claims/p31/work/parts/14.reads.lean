/-! ===== questions of a row ===== -/
theorem zq_X4_placeOf {l : Launch} {D : va_G} {b0 : Nat} {tA : Nat → ClassId} {sa sv : Nat → Nat} {K : zKt} {I : zI} {Qp : zI → Option AV → Prop} {Xp : String → zI → Prop} {a c9 : Nat} {w : List Nat} (hL : zLn I a w) (hw : ∀ y ∈ w, y ≤ 12) (hc : c9 < 12) (k1 : ∀ k : Nat, k < 10 → w[k]? = some (c9 + 1) → Qp I (some (vi (nI k)))) (k2 : (c9 + 1) ∉ w → Qp I (some (vi (-1)))) :
    zC l D b0 tA sa sv K yX4_placeOf (.code yX4_placeOf cX4_placeOf 3 (some .int)) zrm_X4_placeOf [vr (a) 4, vi ((nI c9))] I Qp Xp := by
  refine zp_X4_placeOf hL hw hc (fun k h1 h2 _ => k1 k (Nat.lt_of_lt_of_le h1 hL.2.1) ?_) (fun h => k2 (fun hm => ?_))
  · rw [List.getD_eq_getElem?_getD, List.getElem?_eq_getElem h1] at h2
    rw [List.getElem?_eq_getElem h1]
    exact congrArg some h2
  · obtain ⟨i, hi, e⟩ := List.getElem_of_mem hm
    refine h i hi ?_
    rw [List.getD_eq_getElem?_getD, List.getElem?_eq_getElem hi]
    exact e
abbrev zrm_X5_gateWithInLine : Room := { frames := 1, cells := 0, slots := 0, locals := 22 }
set_option maxRecDepth 20000 in
theorem zl_X5_gateWithInLine {l : Launch} {D : va_G} {b0 : Nat} {tA : Nat → ClassId} {sa sv : Nat → Nat} {K : zKt} {I : zI} {Qp : zI → Option AV → Prop} {Xp : String → zI → Prop} {p : Program} {e : Env} {s : State} {m : MethodId} {args : Array Value} {below : List Frame} {meth : Method} {c : Code} {a c9 : Nat} {S : zS}
    (X : zX p l e zrm_X5_gateWithInLine s m args below meth c RX5 cX5_gateWithInLine 3 (some .int) D b0 tA sa sv) (hnt : ∀ x ∈ c.exceptionTable.toList, False) (hR : zRw I a S) (hW : zWf S) (hc : c9 < 12) (k1 : ∀ g s p : Nat, zAt S c9 g s p → Qp I (some (vi (nI g)))) (k2 : (∀ g s p : Nat, ¬ zAt S c9 g s p) → Qp I (some (vi (-1)))) :
    ∀ (n : Nat) (j : Nat), j ≤ zng S → (∀ g s p : Nat, g < j → ¬ zAt S c9 g s p) → zng S - j < n → zG p l e zrm_X5_gateWithInLine s m args below meth c 3 D b0 tA sa 0 0 (zQ below D b0 tA sa K args s zrm_X5_gateWithInLine Qp Xp) K 2 [some (vr (a) 5), some (vi ((nI c9))), some (vi ((nI j)))] [] I := by
  intro n
  induction n with
  | zero => intro j i1 i2 i3; exact absurd i3 (Nat.not_lt_zero _)
  | succ n ih =>
    intro j i1 i2 i3
    have hg6 := hW.ng.1
    have hc12 := hW.nc.1
    refine zr_iload2 X dX5_gateWithInLine_2 ?_
    refine zr_aload0 X dX5_gateWithInLine_3 ?_
    refine zr_getI X zf_X5_39 rfl dX5_gateWithInLine_4 ?_
    refine zr_eq (x2 := (nI (zng S))) (hR.ng hW) ?_
    refine zr_nicmp_ge X (j) ((zng S)) (tgt := 61) (by omega) (by omega) dX5_gateWithInLine_7 (by decide) (fun h1 => ?_) (fun h1 => ?_)
    · skip
      refine zr_iconst (v := (-1 : Int32)) X dX5_gateWithInLine_61 (by decide) ?_
      refine zr_iret X (by decide) (by decide) dX5_gateWithInLine_62 ?_
      refine k2 (fun g s p z => ?_)
      rcases Nat.lt_or_ge g j with q | q
      · exact i2 g s p q z
      · have := z.2.2; rw [(hW.blank g (by omega)).2 s] at this; simp at this
    · skip
      refine zr_iload2 X dX5_gateWithInLine_10 ?_
      refine zr_aload0 X dX5_gateWithInLine_11 ?_
      refine zr_getR X zf_X5_11 rfl (by decide) (by decide) dX5_gateWithInLine_12 ?_
      refine zr_alen (v := 6) X (Or.inr (Or.inl rfl)) rfl dX5_gateWithInLine_15 ?_
      refine zr_nicmp_ge X (j) (6) (tgt := 61) (by omega) (by omega) dX5_gateWithInLine_16 (by decide) (fun h2 => ?_) (fun h2 => ?_)
      · exact absurd h2 (by omega)
      · skip
        refine zr_aload0 X dX5_gateWithInLine_19 ?_
        refine zr_getR X zf_X5_11 rfl (by decide) (by decide) dX5_gateWithInLine_20 ?_
        refine zr_iload2 X dX5_gateWithInLine_23 ?_
        refine zr_aaldN X rfl rfl (by decide) (show _ < 6 from (by first | assumption | omega)) dX5_gateWithInLine_24 ?_
        refine zr_getR X zf_X5_122 rfl (by decide) (by decide) dX5_gateWithInLine_25 ?_
        refine zr_iload1 X dX5_gateWithInLine_28 ?_
        refine zr_callV1 (rm9 := zrm_X4_placeOf) X hnt zm_X5_126 (by decide) (by decide) (by decide) (Nat.le_of_ble_eq_true rfl) dX5_gateWithInLine_29 ?_
        refine zq_X4_placeOf (w := (sL S j 0)) ((hR.2.2.1 j (by omega)).2.1) (hW.le12 _ _) (by omega) ?_ ?_
        · skip
          intro kk4 hb6 hm3
          refine zr_iconst (v := (-1 : Int32)) X dX5_gateWithInLine_32 (by decide) ?_
          refine zr_icmp_ne (tgt := 53) X dX5_gateWithInLine_33 (by decide) (fun _ => ?_) (fun h => absurd h (zm1 (by omega)))
          refine zr_iload2 X dX5_gateWithInLine_53 ?_
          refine zr_iret X (by decide) (by decide) dX5_gateWithInLine_54 ?_
          first | exact k1 j 0 _ ⟨by omega, by omega, by assumption⟩ | exact k1 j 1 _ ⟨by omega, by omega, by assumption⟩
        · skip
          intro hm5
          refine zr_iconst (v := (-1 : Int32)) X dX5_gateWithInLine_32 (by decide) ?_
          refine zr_icmp_ne (tgt := 53) X dX5_gateWithInLine_33 (by decide) (fun h => absurd h (by decide)) (fun _ => ?_)
          refine zr_aload0 X dX5_gateWithInLine_36 ?_
          refine zr_getR X zf_X5_11 rfl (by decide) (by decide) dX5_gateWithInLine_37 ?_
          refine zr_iload2 X dX5_gateWithInLine_40 ?_
          refine zr_aaldN X rfl rfl (by decide) (show _ < 6 from (by first | assumption | omega)) dX5_gateWithInLine_41 ?_
          refine zr_getR X zf_X5_131 rfl (by decide) (by decide) dX5_gateWithInLine_42 ?_
          refine zr_iload1 X dX5_gateWithInLine_45 ?_
          refine zr_callV1 (rm9 := zrm_X4_placeOf) X hnt zm_X5_126 (by decide) (by decide) (by decide) (Nat.le_of_ble_eq_true rfl) dX5_gateWithInLine_46 ?_
          refine zq_X4_placeOf (w := (sL S j 1)) ((hR.2.2.1 j (by omega)).2.2) (hW.le12 _ _) (by omega) ?_ ?_
          · skip
            intro kk8 hb10 hm7
            refine zr_iconst (v := (-1 : Int32)) X dX5_gateWithInLine_49 (by decide) ?_
            refine zr_icmp_eq (tgt := 55) X dX5_gateWithInLine_50 (by decide) (fun h => absurd h (zm1 (by omega))) (fun _ => ?_)
            refine zr_iload2 X dX5_gateWithInLine_53 ?_
            refine zr_iret X (by decide) (by decide) dX5_gateWithInLine_54 ?_
            first | exact k1 j 0 _ ⟨by omega, by omega, by assumption⟩ | exact k1 j 1 _ ⟨by omega, by omega, by assumption⟩
          · skip
            intro hm9
            refine zr_iconst (v := (-1 : Int32)) X dX5_gateWithInLine_49 (by decide) ?_
            refine zr_icmp_eq (tgt := 55) X dX5_gateWithInLine_50 (by decide) (fun _ => ?_) (fun h => absurd h (by decide))
            refine zr_iinc2 (v := (nI (j + 1))) X (show nI (j) + Int32.ofInt 1 = nI (j + 1) from nI_1 (j)) (by decide) rfl dX5_gateWithInLine_55 ?_
            refine zr_goto (tgt := 2) X dX5_gateWithInLine_58 (by decide) ?_
            refine ih (j + 1) (by omega) (fun g s p hg z => ?_) (by omega)
            rcases Nat.lt_succ_iff_lt_or_eq.mp hg with q | rfl
            · exact i2 g s p q z
            · obtain ⟨z1, z2, z3⟩ := z
              rcases (show s = 0 ∨ s = 1 by omega) with rfl | rfl
              · exact absurd (List.mem_of_getElem? z3) (by assumption)
              · exact absurd (List.mem_of_getElem? z3) (by assumption)
set_option maxRecDepth 20000 in
theorem zp_X5_gateWithInLine {l : Launch} {D : va_G} {b0 : Nat} {tA : Nat → ClassId} {sa sv : Nat → Nat} {K : zKt} {I : zI} {Qp : zI → Option AV → Prop} {Xp : String → zI → Prop} {a c9 : Nat} {S : zS}
    (hR : zRw I a S) (hW : zWf S) (hc : c9 < 12) (k1 : ∀ g s p : Nat, zAt S c9 g s p → Qp I (some (vi (nI g)))) (k2 : (∀ g s p : Nat, ¬ zAt S c9 g s p) → Qp I (some (vi (-1)))) :
    zC l D b0 tA sa sv K yX5_gateWithInLine (.code yX5_gateWithInLine cX5_gateWithInLine 3 (some .int)) zrm_X5_gateWithInLine [vr (a) 5, vi ((nI c9))] I Qp Xp := by
  have hg6 := hW.ng.1
  have hc12 := hW.nc.1
  refine zC_of (by decide +kernel) (Nat.le_of_ble_eq_true rfl) ?_
  intro p e s m args below meth c X hnt
  have X : zX p l e zrm_X5_gateWithInLine s m args below meth c RX5 cX5_gateWithInLine 3 (some .int) D b0 tA sa sv := X
  refine zr_lv (lv2 := [some (vr (a) 5), some (vi ((nI c9))), none]) rfl ?_
  refine zr_iconst (v := (0 : Int32)) X dX5_gateWithInLine_0 (by decide) ?_
  refine zr_istore2 X (by decide) rfl dX5_gateWithInLine_1 ?_
  exact zl_X5_gateWithInLine X hnt hR hW hc k1 k2 (zng S + 1) 0 (by omega) (fun g s p hg => absurd hg (Nat.not_lt_zero _)) (by omega)
def zlen (S : zS) (g : Nat) : Nat := (sL S g 0).length + (sL S g 1).length
theorem zq_X1_peopleInLines {l : Launch} {D : va_G} {b0 : Nat} {tA : Nat → ClassId} {sa sv : Nat → Nat} {K : zKt} {I : zI} {Qp : zI → Option AV → Prop} {Xp : String → zI → Prop} {a : Nat} {G : Nat → Int32} {w0 w1 : List Nat} (hG : zGt I a G w0 w1) (k1 : Qp I (some (vi (nI (w0.length + w1.length))))) :
    zC l D b0 tA sa sv K yX1_peopleInLines (.code yX1_peopleInLines cX1_peopleInLines 1 (some .int)) zrm_X1_peopleInLines [vr (a) 1] I Qp Xp := zp_X1_peopleInLines (by rw [hG.2.1.1, hG.2.2.1, nI_add]; exact k1)
abbrev zrm_X5_peopleInAllLines : Room := { frames := 1, cells := 0, slots := 0, locals := 20 }
set_option maxRecDepth 20000 in
theorem zl_X5_peopleInAllLines {l : Launch} {D : va_G} {b0 : Nat} {tA : Nat → ClassId} {sa sv : Nat → Nat} {K : zKt} {I : zI} {Qp : zI → Option AV → Prop} {Xp : String → zI → Prop} {p : Program} {e : Env} {s : State} {m : MethodId} {args : Array Value} {below : List Frame} {meth : Method} {c : Code} {a : Nat} {S : zS}
    (X : zX p l e zrm_X5_peopleInAllLines s m args below meth c RX5 cX5_peopleInAllLines 6 (some .int) D b0 tA sa sv) (hnt : ∀ x ∈ c.exceptionTable.toList, False) (hR : zRw I a S) (hW : zWf S) (k1 : Qp I (some (vi (nI (nsum (fun g => (sL S g 0).length + (sL S g 1).length) 6))))) :
    ∀ (n : Nat) (j : Nat), j ≤ 6 → 6 - j < n → zG p l e zrm_X5_peopleInAllLines s m args below meth c 6 D b0 tA sa 0 0 (zQ below D b0 tA sa K args s zrm_X5_peopleInAllLines Qp Xp) K 13 [some (vr (a) 5), some (vi ((nI (nsum (fun g => (sL S g 0).length + (sL S g 1).length) j)))), some (vr (a + 1) 12), some (vi ((6 : Int32))), some (vi ((nI j))), none] [] I := by
  intro n
  induction n with
  | zero => intro j i1 i3; exact absurd i3 (Nat.not_lt_zero _)
  | succ n ih =>
    intro j i1 i3
    have hg6 := hW.ng.1
    have hc12 := hW.nc.1
    have hb9 := nsum_le (f := fun g => (sL S g 0).length + (sL S g 1).length) (b := 20) (fun i => by have := hW.len i 0; have := hW.len i 1; omega) j
    have hl90 := hW.len j 0
    have hl91 := hW.len j 1
    refine zr_iload4 X dX5_peopleInAllLines_13 ?_
    refine zr_iload3 X dX5_peopleInAllLines_15 ?_
    refine zr_nicmp_ge X (j) (6) (tgt := 39) (by omega) (by omega) dX5_peopleInAllLines_16 (by decide) (fun h1 => ?_) (fun h1 => ?_)
    · skip
      refine zr_iload1 X dX5_peopleInAllLines_39 ?_
      refine zr_iret X (by decide) (by decide) dX5_peopleInAllLines_40 ?_
      have hj : j = 6 := by omega
      subst hj
      exact k1
    · skip
      refine zr_aload2 X dX5_peopleInAllLines_19 ?_
      refine zr_iload4 X dX5_peopleInAllLines_20 ?_
      refine zr_aaldN X rfl rfl (by decide) (show _ < 6 from (by first | assumption | omega)) dX5_peopleInAllLines_22 ?_
      refine zr_astore5 X (by decide) rfl dX5_peopleInAllLines_23 ?_
      refine zr_iload1 X dX5_peopleInAllLines_25 ?_
      refine zr_aload5 X dX5_peopleInAllLines_26 ?_
      refine zr_callV0 (rm9 := zrm_X1_peopleInLines) X hnt zm_X5_141 (by decide) (by decide) (by decide) (Nat.le_of_ble_eq_true rfl) dX5_peopleInAllLines_28 ?_
      refine zq_X1_peopleInLines (hR.2.2.1 j (by omega)) ?_
      refine zr_iadd X dX5_peopleInAllLines_31 ?_
      refine zr_eq (x2 := (nI ((nsum (fun g => (sL S g 0).length + (sL S g 1).length) j) + ((sL S j 0).length + (sL S j 1).length)))) (nI_add ((nsum (fun g => (sL S g 0).length + (sL S g 1).length) j)) (((sL S j 0).length + (sL S j 1).length))) ?_
      refine zr_istore1 X (by decide) rfl dX5_peopleInAllLines_32 ?_
      refine zr_iinc4 (v := (nI (j + 1))) X (show nI (j) + Int32.ofInt 1 = nI (j + 1) from nI_1 (j)) (by decide) rfl dX5_peopleInAllLines_33 ?_
      refine zr_goto (tgt := 13) X dX5_peopleInAllLines_36 (by decide) ?_
      refine zr_forget (lv2 := [some (vr (a) 5), some (vi ((nI ((nsum (fun g => (sL S g 0).length + (sL S g 1).length) j) + ((sL S j 0).length + (sL S j 1).length))))), some (vr (a + 1) 12), some (vi ((6 : Int32))), some (vi ((nI (j + 1)))), none]) (fun j9 v9 h9 => by rcases j9 with _ | _ | _ | _ | _ | _ | _ | _ | j9 <;> first | exact h9 | (simp at h9)) ?_
      exact ih (j + 1) (by omega) (by omega)
set_option maxRecDepth 20000 in
theorem zp_X5_peopleInAllLines {l : Launch} {D : va_G} {b0 : Nat} {tA : Nat → ClassId} {sa sv : Nat → Nat} {K : zKt} {I : zI} {Qp : zI → Option AV → Prop} {Xp : String → zI → Prop} {a : Nat} {S : zS}
    (hR : zRw I a S) (hW : zWf S) (k1 : Qp I (some (vi (nI (nsum (fun g => (sL S g 0).length + (sL S g 1).length) 6))))) :
    zC l D b0 tA sa sv K yX5_peopleInAllLines (.code yX5_peopleInAllLines cX5_peopleInAllLines 6 (some .int)) zrm_X5_peopleInAllLines [vr (a) 5] I Qp Xp := by
  have hg6 := hW.ng.1
  have hc12 := hW.nc.1
  refine zC_of (by decide +kernel) (Nat.le_of_ble_eq_true rfl) ?_
  intro p e s m args below meth c X hnt
  have X : zX p l e zrm_X5_peopleInAllLines s m args below meth c RX5 cX5_peopleInAllLines 6 (some .int) D b0 tA sa sv := X
  refine zr_lv (lv2 := [some (vr (a) 5), none, none, none, none, none]) rfl ?_
  refine zr_iconst (v := (0 : Int32)) X dX5_peopleInAllLines_0 (by decide) ?_
  refine zr_istore1 X (by decide) rfl dX5_peopleInAllLines_1 ?_
  refine zr_aload0 X dX5_peopleInAllLines_2 ?_
  refine zr_getR X zf_X5_11 rfl (by decide) (by decide) dX5_peopleInAllLines_3 ?_
  refine zr_astore2 X (by decide) rfl dX5_peopleInAllLines_6 ?_
  refine zr_aload2 X dX5_peopleInAllLines_7 ?_
  refine zr_alen (v := 6) X (Or.inr (Or.inl rfl)) rfl dX5_peopleInAllLines_8 ?_
  refine zr_istore3 X (by decide) rfl dX5_peopleInAllLines_9 ?_
  refine zr_iconst (v := (0 : Int32)) X dX5_peopleInAllLines_10 (by decide) ?_
  refine zr_istore4 X (by decide) rfl dX5_peopleInAllLines_11 ?_
  exact zl_X5_peopleInAllLines X hnt hR hW k1 7 0 (by omega) (by omega)
