/-! ===== joining, places, modes ===== -/
/-- why somebody (0 no card, c + 1 the card c) may not join -/
def qWhy (S : zS) (g s w : Nat) : Nat :=
  if ¬ qSv (sG S g 0) s then 1 else if (sL S g s).length = 10 then 2 else if w ≠ 0 ∧ qPos S (w - 1) ≠ none then 3 else if s = 1 ∧ sX S 3 ≤ nI (qInner S) then 4 else 0
theorem qWhy_lt {S : zS} {g s w : Nat} : qWhy S g s w < 5 := by
  unfold qWhy
  repeat' split
  all_goals decide
theorem zsv1 {m : Int32} {s : Nat} (hs : s < 2) : qSv m s ↔ (m = 2 ∨ (nI s = 1 ∧ m = 1) ∨ (¬ nI s = 1 ∧ m = 0)) := by
  rcases (show s = 0 ∨ s = 1 by omega) with rfl | rfl
  · show (m = 2 ∨ m = 0) ↔ _
    constructor
    · rintro (h | h)
      · exact Or.inl h
      · exact Or.inr (Or.inr ⟨by decide, h⟩)
    · rintro (h | ⟨h, -⟩ | ⟨-, h⟩)
      · exact Or.inl h
      · exact absurd h (by decide)
      · exact Or.inr h
  · show (m = 2 ∨ m = 1) ↔ _
    constructor
    · rintro (h | h)
      · exact Or.inl h
      · exact Or.inr (Or.inl ⟨rfl, h⟩)
    · rintro (h | ⟨-, h⟩ | ⟨h, -⟩)
      · exact Or.inl h
      · exact Or.inr h
      · exact absurd rfl h
theorem zn_X1_serves {l : Launch} {D : va_G} {b0 : Nat} {tA : Nat → ClassId} {sa sv : Nat → Nat} {K : zKt} {I : zI} {Qp : zI → Option AV → Prop} {Xp : String → zI → Prop} {a g s9 : Nat} {S : zS} (hR : zRw I a S) (hg : g < 6) (hs : s9 < 2) (k1 : qSv (sG S g 0) s9 → Qp I (some (vi 1))) (k2 : ¬ qSv (sG S g 0) s9 → Qp I (some (vi 0))) :
    zC l D b0 tA sa sv K yX1_serves (.code yX1_serves cX1_serves 2 (some .boolean)) zrm_X1_serves [vr (a + 1 + 2 + 5 * g) 1, vi ((nI s9))] I Qp Xp := by
  have e0 := (hR.2.2.1 g hg).1.1
  refine zp_X1_serves (fun h => k1 ((zsv1 hs).mpr ?_)) (fun h => k2 (fun z => h ?_))
  · rw [← e0]; exact h
  · rw [e0]; exact (zsv1 hs).mp z
theorem zn_X4_isFull {l : Launch} {D : va_G} {b0 : Nat} {tA : Nat → ClassId} {sa sv : Nat → Nat} {K : zKt} {I : zI} {Qp : zI → Option AV → Prop} {Xp : String → zI → Prop} {a : Nat} {w : List Nat} (hL : zLn I a w) (k1 : w.length = 10 → Qp I (some (vi 1))) (k2 : w.length < 10 → Qp I (some (vi 0))) :
    zC l D b0 tA sa sv K yX4_isFull (.code yX4_isFull cX4_isFull 1 (some .boolean)) zrm_X4_isFull [vr (a) 4] I Qp Xp := by
  have h9 := hL.2.1
  refine zp_X4_isFull (fun h => k2 ?_) (fun h => k1 ?_)
  · rw [hL.1] at h; exact (nI_ltI (b := 10) (by omega) (by decide)).mp h
  · rw [hL.1] at h
    have h8 : ¬ w.length < 10 := fun q => h ((nI_ltI (b := 10) (by omega) (by decide)).mpr q)
    omega
abbrev zrm_X5_reasonNotToJoin : Room := { frames := 2, cells := 0, slots := 0, locals := 44 }
set_option maxRecDepth 20000 in
theorem zp00_X5_reasonNotToJoin {l : Launch} {D : va_G} {b0 : Nat} {tA : Nat → ClassId} {sa sv : Nat → Nat} {K : zKt} {I : zI} {Qp : zI → Option AV → Prop} {Xp : String → zI → Prop} {a g c9 : Nat} {S : zS}
    (hR : zRw I a S) (hW : zWf S) (hg : g < 6) (hc : c9 < 12) (k1 : Qp I (some (vi (nI (qWhy S g 0 0))))) :
    zC l D b0 tA sa sv K yX5_reasonNotToJoin (.code yX5_reasonNotToJoin cX5_reasonNotToJoin 4 (some .int)) zrm_X5_reasonNotToJoin [vr (a) 5, vr (a + 1 + 2 + 5 * g) 1, vi ((0 : Int32)), vi ((-1 : Int32))] I Qp Xp := by
  have hg6 := hW.ng.1
  have hc12 := hW.nc.1
  refine zC_of (by decide +kernel) (Nat.le_of_ble_eq_true rfl) ?_
  intro p e s m args below meth c X hnt
  have X : zX p l e zrm_X5_reasonNotToJoin s m args below meth c RX5 cX5_reasonNotToJoin 4 (some .int) D b0 tA sa sv := X
  refine zr_lv (lv2 := [some (vr (a) 5), some (vr (a + 1 + 2 + 5 * g) 1), some (vi ((0 : Int32))), some (vi ((-1 : Int32)))]) rfl ?_
  refine zr_aload1 X dX5_reasonNotToJoin_0 ?_
  refine zr_iload2 X dX5_reasonNotToJoin_1 ?_
  refine zr_callV1 (rm9 := zrm_X1_serves) X hnt zm_X5_153 (by decide) (by decide) (by decide) (Nat.le_of_ble_eq_true rfl) dX5_reasonNotToJoin_2 ?_
  refine zn_X1_serves (s9 := 0) hR (by omega) (by omega) ?_ ?_
  · skip
    intro hv1
    refine zr_if_ne (tgt := 10) X dX5_reasonNotToJoin_5 (by decide) (fun _ => ?_) (fun h => absurd h (by decide))
    refine zr_aload1 X dX5_reasonNotToJoin_10 ?_
    refine zr_iload2 X dX5_reasonNotToJoin_11 ?_
    refine zr_callV1 (rm9 := zrm_X1_lineOn) X hnt zm_X5_137 (by decide) (by decide) (by decide) (Nat.le_of_ble_eq_true rfl) dX5_reasonNotToJoin_12 ?_
    refine zp_X1_lineOn (fun _ => ?_) (fun h => absurd h (by decide))
    refine zr_callV0 (rm9 := zrm_X4_isFull) X hnt zm_X5_156 (by decide) (by decide) (by decide) (Nat.le_of_ble_eq_true rfl) dX5_reasonNotToJoin_15 ?_
    refine zn_X4_isFull (w := (sL S g 0)) (hR.2.2.1 g (by omega)).2.1 ?_ ?_
    · skip
      intro hf3
      refine zr_if_eq (tgt := 23) X dX5_reasonNotToJoin_18 (by decide) (fun h => absurd h (by decide)) (fun _ => ?_)
      refine zr_iconst (v := (2 : Int32)) X dX5_reasonNotToJoin_21 (by decide) ?_
      refine zr_iret X (by decide) (by decide) dX5_reasonNotToJoin_22 ?_
      have e9 : qWhy S g 0 0 = 2 := by
        rw [qWhy, if_neg (fun z => z hv1), if_pos hf3]
      rw [e9] at k1; exact k1
    · skip
      intro hf3
      refine zr_if_eq (tgt := 23) X dX5_reasonNotToJoin_18 (by decide) (fun _ => ?_) (fun h => absurd h (by decide))
      refine zr_iload3 X dX5_reasonNotToJoin_23 ?_
      refine zr_iconst (v := (-1 : Int32)) X dX5_reasonNotToJoin_24 (by decide) ?_
      refine zr_icmp_eq (tgt := 39) X dX5_reasonNotToJoin_25 (by decide) (fun _ => ?_) (fun h => absurd h (by decide))
      refine zr_iload2 X dX5_reasonNotToJoin_39 ?_
      refine zr_iconst (v := (1 : Int32)) X dX5_reasonNotToJoin_40 (by decide) ?_
      refine zr_icmp_ne (tgt := 57) X dX5_reasonNotToJoin_41 (by decide) (fun _ => ?_) (fun h => absurd h (by decide))
      refine zr_iconst (v := (0 : Int32)) X dX5_reasonNotToJoin_57 (by decide) ?_
      refine zr_iret X (by decide) (by decide) dX5_reasonNotToJoin_58 ?_
      have e9 : qWhy S g 0 0 = 0 := by
        rw [qWhy, if_neg (fun z => z hv1), if_neg (by omega), if_neg (fun z => z.1 rfl), if_neg (by omega)]
      rw [e9] at k1; exact k1
  · skip
    intro hv1
    refine zr_if_ne (tgt := 10) X dX5_reasonNotToJoin_5 (by decide) (fun h => absurd h (by decide)) (fun _ => ?_)
    refine zr_iconst (v := (1 : Int32)) X dX5_reasonNotToJoin_8 (by decide) ?_
    refine zr_iret X (by decide) (by decide) dX5_reasonNotToJoin_9 ?_
    have e9 : qWhy S g 0 0 = 1 := by
      rw [qWhy, if_pos hv1]
    rw [e9] at k1; exact k1
set_option maxRecDepth 20000 in
theorem zp01_X5_reasonNotToJoin {l : Launch} {D : va_G} {b0 : Nat} {tA : Nat → ClassId} {sa sv : Nat → Nat} {K : zKt} {I : zI} {Qp : zI → Option AV → Prop} {Xp : String → zI → Prop} {a g c9 : Nat} {S : zS}
    (hR : zRw I a S) (hW : zWf S) (hg : g < 6) (hc : c9 < 12) (k1 : Qp I (some (vi (nI (qWhy S g 0 (c9 + 1)))))) :
    zC l D b0 tA sa sv K yX5_reasonNotToJoin (.code yX5_reasonNotToJoin cX5_reasonNotToJoin 4 (some .int)) zrm_X5_reasonNotToJoin [vr (a) 5, vr (a + 1 + 2 + 5 * g) 1, vi ((0 : Int32)), vi ((nI c9))] I Qp Xp := by
  have hg6 := hW.ng.1
  have hc12 := hW.nc.1
  refine zC_of (by decide +kernel) (Nat.le_of_ble_eq_true rfl) ?_
  intro p e s m args below meth c X hnt
  have X : zX p l e zrm_X5_reasonNotToJoin s m args below meth c RX5 cX5_reasonNotToJoin 4 (some .int) D b0 tA sa sv := X
  refine zr_lv (lv2 := [some (vr (a) 5), some (vr (a + 1 + 2 + 5 * g) 1), some (vi ((0 : Int32))), some (vi ((nI c9)))]) rfl ?_
  refine zr_aload1 X dX5_reasonNotToJoin_0 ?_
  refine zr_iload2 X dX5_reasonNotToJoin_1 ?_
  refine zr_callV1 (rm9 := zrm_X1_serves) X hnt zm_X5_153 (by decide) (by decide) (by decide) (Nat.le_of_ble_eq_true rfl) dX5_reasonNotToJoin_2 ?_
  refine zn_X1_serves (s9 := 0) hR (by omega) (by omega) ?_ ?_
  · skip
    intro hv1
    refine zr_if_ne (tgt := 10) X dX5_reasonNotToJoin_5 (by decide) (fun _ => ?_) (fun h => absurd h (by decide))
    refine zr_aload1 X dX5_reasonNotToJoin_10 ?_
    refine zr_iload2 X dX5_reasonNotToJoin_11 ?_
    refine zr_callV1 (rm9 := zrm_X1_lineOn) X hnt zm_X5_137 (by decide) (by decide) (by decide) (Nat.le_of_ble_eq_true rfl) dX5_reasonNotToJoin_12 ?_
    refine zp_X1_lineOn (fun _ => ?_) (fun h => absurd h (by decide))
    refine zr_callV0 (rm9 := zrm_X4_isFull) X hnt zm_X5_156 (by decide) (by decide) (by decide) (Nat.le_of_ble_eq_true rfl) dX5_reasonNotToJoin_15 ?_
    refine zn_X4_isFull (w := (sL S g 0)) (hR.2.2.1 g (by omega)).2.1 ?_ ?_
    · skip
      intro hf3
      refine zr_if_eq (tgt := 23) X dX5_reasonNotToJoin_18 (by decide) (fun h => absurd h (by decide)) (fun _ => ?_)
      refine zr_iconst (v := (2 : Int32)) X dX5_reasonNotToJoin_21 (by decide) ?_
      refine zr_iret X (by decide) (by decide) dX5_reasonNotToJoin_22 ?_
      have e9 : qWhy S g 0 (c9 + 1) = 2 := by
        rw [qWhy, if_neg (fun z => z hv1), if_pos hf3]
      rw [e9] at k1; exact k1
    · skip
      intro hf3
      refine zr_if_eq (tgt := 23) X dX5_reasonNotToJoin_18 (by decide) (fun _ => ?_) (fun h => absurd h (by decide))
      refine zr_iload3 X dX5_reasonNotToJoin_23 ?_
      refine zr_iconst (v := (-1 : Int32)) X dX5_reasonNotToJoin_24 (by decide) ?_
      refine zr_icmp_eq (tgt := 39) X dX5_reasonNotToJoin_25 (by decide) (fun h => absurd h (zm1 (by omega))) (fun _ => ?_)
      refine zr_aload0 X dX5_reasonNotToJoin_28 ?_
      refine zr_iload3 X dX5_reasonNotToJoin_29 ?_
      refine zr_callV1 (rm9 := zrm_X5_gateWithInLine) X hnt zm_X5_109 (by decide) (by decide) (by decide) (Nat.le_of_ble_eq_true rfl) dX5_reasonNotToJoin_30 ?_
      refine zp_X5_gateWithInLine hR hW (by omega) ?_ ?_
      · skip
        intro g5 sd6 p7 ha4; have := ha4.1
        refine zr_iconst (v := (-1 : Int32)) X dX5_reasonNotToJoin_33 (by decide) ?_
        refine zr_icmp_eq (tgt := 39) X dX5_reasonNotToJoin_34 (by decide) (fun h => absurd h (zm1 (by omega))) (fun _ => ?_)
        refine zr_iconst (v := (3 : Int32)) X dX5_reasonNotToJoin_37 (by decide) ?_
        refine zr_iret X (by decide) (by decide) dX5_reasonNotToJoin_38 ?_
        have e9 : qWhy S g 0 (c9 + 1) = 3 := by
          rw [qWhy, if_neg (fun z => z hv1), if_neg (by omega), if_pos ⟨by omega, by rw [Nat.add_sub_cancel, (qPos_at hW ha4).1]; exact Option.some_ne_none _⟩]
        rw [e9] at k1; exact k1
      · skip
        intro hn8
        refine zr_iconst (v := (-1 : Int32)) X dX5_reasonNotToJoin_33 (by decide) ?_
        refine zr_icmp_eq (tgt := 39) X dX5_reasonNotToJoin_34 (by decide) (fun _ => ?_) (fun h => absurd h (by decide))
        refine zr_iload2 X dX5_reasonNotToJoin_39 ?_
        refine zr_iconst (v := (1 : Int32)) X dX5_reasonNotToJoin_40 (by decide) ?_
        refine zr_icmp_ne (tgt := 57) X dX5_reasonNotToJoin_41 (by decide) (fun _ => ?_) (fun h => absurd h (by decide))
        refine zr_iconst (v := (0 : Int32)) X dX5_reasonNotToJoin_57 (by decide) ?_
        refine zr_iret X (by decide) (by decide) dX5_reasonNotToJoin_58 ?_
        have e9 : qWhy S g 0 (c9 + 1) = 0 := by
          rw [qWhy, if_neg (fun z => z hv1), if_neg (by omega), if_neg (fun z => z.2 (by rw [Nat.add_sub_cancel]; cases e8 : qPos S c9 with | none => rfl | some i => exact absurd (qPos_some e8) (hn8 _ _ _))), if_neg (by omega)]
        rw [e9] at k1; exact k1
  · skip
    intro hv1
    refine zr_if_ne (tgt := 10) X dX5_reasonNotToJoin_5 (by decide) (fun h => absurd h (by decide)) (fun _ => ?_)
    refine zr_iconst (v := (1 : Int32)) X dX5_reasonNotToJoin_8 (by decide) ?_
    refine zr_iret X (by decide) (by decide) dX5_reasonNotToJoin_9 ?_
    have e9 : qWhy S g 0 (c9 + 1) = 1 := by
      rw [qWhy, if_pos hv1]
    rw [e9] at k1; exact k1
set_option maxRecDepth 20000 in
theorem zp10_X5_reasonNotToJoin {l : Launch} {D : va_G} {b0 : Nat} {tA : Nat → ClassId} {sa sv : Nat → Nat} {K : zKt} {I : zI} {Qp : zI → Option AV → Prop} {Xp : String → zI → Prop} {a g c9 : Nat} {S : zS}
    (hR : zRw I a S) (hW : zWf S) (hg : g < 6) (hc : c9 < 12) (k1 : Qp I (some (vi (nI (qWhy S g 1 0))))) :
    zC l D b0 tA sa sv K yX5_reasonNotToJoin (.code yX5_reasonNotToJoin cX5_reasonNotToJoin 4 (some .int)) zrm_X5_reasonNotToJoin [vr (a) 5, vr (a + 1 + 2 + 5 * g) 1, vi ((1 : Int32)), vi ((-1 : Int32))] I Qp Xp := by
  have hg6 := hW.ng.1
  have hc12 := hW.nc.1
  refine zC_of (by decide +kernel) (Nat.le_of_ble_eq_true rfl) ?_
  intro p e s m args below meth c X hnt
  have X : zX p l e zrm_X5_reasonNotToJoin s m args below meth c RX5 cX5_reasonNotToJoin 4 (some .int) D b0 tA sa sv := X
  refine zr_lv (lv2 := [some (vr (a) 5), some (vr (a + 1 + 2 + 5 * g) 1), some (vi ((1 : Int32))), some (vi ((-1 : Int32)))]) rfl ?_
  refine zr_aload1 X dX5_reasonNotToJoin_0 ?_
  refine zr_iload2 X dX5_reasonNotToJoin_1 ?_
  refine zr_callV1 (rm9 := zrm_X1_serves) X hnt zm_X5_153 (by decide) (by decide) (by decide) (Nat.le_of_ble_eq_true rfl) dX5_reasonNotToJoin_2 ?_
  refine zn_X1_serves (s9 := 1) hR (by omega) (by omega) ?_ ?_
  · skip
    intro hv1
    refine zr_if_ne (tgt := 10) X dX5_reasonNotToJoin_5 (by decide) (fun _ => ?_) (fun h => absurd h (by decide))
    refine zr_aload1 X dX5_reasonNotToJoin_10 ?_
    refine zr_iload2 X dX5_reasonNotToJoin_11 ?_
    refine zr_callV1 (rm9 := zrm_X1_lineOn) X hnt zm_X5_137 (by decide) (by decide) (by decide) (Nat.le_of_ble_eq_true rfl) dX5_reasonNotToJoin_12 ?_
    refine zp_X1_lineOn (fun h => absurd rfl h) (fun _ => ?_)
    refine zr_callV0 (rm9 := zrm_X4_isFull) X hnt zm_X5_156 (by decide) (by decide) (by decide) (Nat.le_of_ble_eq_true rfl) dX5_reasonNotToJoin_15 ?_
    refine zn_X4_isFull (w := (sL S g 1)) (hR.2.2.1 g (by omega)).2.2 ?_ ?_
    · skip
      intro hf3
      refine zr_if_eq (tgt := 23) X dX5_reasonNotToJoin_18 (by decide) (fun h => absurd h (by decide)) (fun _ => ?_)
      refine zr_iconst (v := (2 : Int32)) X dX5_reasonNotToJoin_21 (by decide) ?_
      refine zr_iret X (by decide) (by decide) dX5_reasonNotToJoin_22 ?_
      have e9 : qWhy S g 1 0 = 2 := by
        rw [qWhy, if_neg (fun z => z hv1), if_pos hf3]
      rw [e9] at k1; exact k1
    · skip
      intro hf3
      refine zr_if_eq (tgt := 23) X dX5_reasonNotToJoin_18 (by decide) (fun _ => ?_) (fun h => absurd h (by decide))
      refine zr_iload3 X dX5_reasonNotToJoin_23 ?_
      refine zr_iconst (v := (-1 : Int32)) X dX5_reasonNotToJoin_24 (by decide) ?_
      refine zr_icmp_eq (tgt := 39) X dX5_reasonNotToJoin_25 (by decide) (fun _ => ?_) (fun h => absurd h (by decide))
      refine zr_iload2 X dX5_reasonNotToJoin_39 ?_
      refine zr_iconst (v := (1 : Int32)) X dX5_reasonNotToJoin_40 (by decide) ?_
      refine zr_icmp_ne (tgt := 57) X dX5_reasonNotToJoin_41 (by decide) (fun h => absurd h (by decide)) (fun _ => ?_)
      refine zr_aload0 X dX5_reasonNotToJoin_44 ?_
      refine zr_callV0 (rm9 := zrm_X5_peopleInInnerLines) X hnt zm_X5_159 (by decide) (by decide) (by decide) (Nat.le_of_ble_eq_true rfl) dX5_reasonNotToJoin_45 ?_
      refine zp_X5_peopleInInnerLines hR hW ?_
      refine zr_aload0 X dX5_reasonNotToJoin_48 ?_
      refine zr_getI X zf_X5_51 rfl dX5_reasonNotToJoin_49 ?_
      refine zr_eq (x2 := (sX S 3)) (hR.1 3 (by decide) (by decide)) ?_
      refine zr_icmp_lt (tgt := 57) X dX5_reasonNotToJoin_52 (by decide) (fun h4 => ?_) (fun h4 => ?_)
      · skip
        refine zr_iconst (v := (0 : Int32)) X dX5_reasonNotToJoin_57 (by decide) ?_
        refine zr_iret X (by decide) (by decide) dX5_reasonNotToJoin_58 ?_
        have e9 : qWhy S g 1 0 = 0 := by
          rw [qWhy, if_neg (fun z => z hv1), if_neg (by omega), if_neg (fun z => z.1 rfl), if_neg (fun z => absurd z.2 (by first | exact h4 | (rw [Int32.not_le]; assumption) | (rw [← Int32.not_lt]; exact fun q => q (by assumption))))]
        rw [e9] at k1; exact k1
      · skip
        refine zr_iconst (v := (4 : Int32)) X dX5_reasonNotToJoin_55 (by decide) ?_
        refine zr_iret X (by decide) (by decide) dX5_reasonNotToJoin_56 ?_
        have e9 : qWhy S g 1 0 = 4 := by
          rw [qWhy, if_neg (fun z => z hv1), if_neg (by omega), if_neg (fun z => z.1 rfl), if_pos ⟨rfl, by first | exact h4 | (rw [Int32.not_lt] at *; assumption)⟩]
        rw [e9] at k1; exact k1
  · skip
    intro hv1
    refine zr_if_ne (tgt := 10) X dX5_reasonNotToJoin_5 (by decide) (fun h => absurd h (by decide)) (fun _ => ?_)
    refine zr_iconst (v := (1 : Int32)) X dX5_reasonNotToJoin_8 (by decide) ?_
    refine zr_iret X (by decide) (by decide) dX5_reasonNotToJoin_9 ?_
    have e9 : qWhy S g 1 0 = 1 := by
      rw [qWhy, if_pos hv1]
    rw [e9] at k1; exact k1
set_option maxRecDepth 20000 in
theorem zp11_X5_reasonNotToJoin {l : Launch} {D : va_G} {b0 : Nat} {tA : Nat → ClassId} {sa sv : Nat → Nat} {K : zKt} {I : zI} {Qp : zI → Option AV → Prop} {Xp : String → zI → Prop} {a g c9 : Nat} {S : zS}
    (hR : zRw I a S) (hW : zWf S) (hg : g < 6) (hc : c9 < 12) (k1 : Qp I (some (vi (nI (qWhy S g 1 (c9 + 1)))))) :
    zC l D b0 tA sa sv K yX5_reasonNotToJoin (.code yX5_reasonNotToJoin cX5_reasonNotToJoin 4 (some .int)) zrm_X5_reasonNotToJoin [vr (a) 5, vr (a + 1 + 2 + 5 * g) 1, vi ((1 : Int32)), vi ((nI c9))] I Qp Xp := by
  have hg6 := hW.ng.1
  have hc12 := hW.nc.1
  refine zC_of (by decide +kernel) (Nat.le_of_ble_eq_true rfl) ?_
  intro p e s m args below meth c X hnt
  have X : zX p l e zrm_X5_reasonNotToJoin s m args below meth c RX5 cX5_reasonNotToJoin 4 (some .int) D b0 tA sa sv := X
  refine zr_lv (lv2 := [some (vr (a) 5), some (vr (a + 1 + 2 + 5 * g) 1), some (vi ((1 : Int32))), some (vi ((nI c9)))]) rfl ?_
  refine zr_aload1 X dX5_reasonNotToJoin_0 ?_
  refine zr_iload2 X dX5_reasonNotToJoin_1 ?_
  refine zr_callV1 (rm9 := zrm_X1_serves) X hnt zm_X5_153 (by decide) (by decide) (by decide) (Nat.le_of_ble_eq_true rfl) dX5_reasonNotToJoin_2 ?_
  refine zn_X1_serves (s9 := 1) hR (by omega) (by omega) ?_ ?_
  · skip
    intro hv1
    refine zr_if_ne (tgt := 10) X dX5_reasonNotToJoin_5 (by decide) (fun _ => ?_) (fun h => absurd h (by decide))
    refine zr_aload1 X dX5_reasonNotToJoin_10 ?_
    refine zr_iload2 X dX5_reasonNotToJoin_11 ?_
    refine zr_callV1 (rm9 := zrm_X1_lineOn) X hnt zm_X5_137 (by decide) (by decide) (by decide) (Nat.le_of_ble_eq_true rfl) dX5_reasonNotToJoin_12 ?_
    refine zp_X1_lineOn (fun h => absurd rfl h) (fun _ => ?_)
    refine zr_callV0 (rm9 := zrm_X4_isFull) X hnt zm_X5_156 (by decide) (by decide) (by decide) (Nat.le_of_ble_eq_true rfl) dX5_reasonNotToJoin_15 ?_
    refine zn_X4_isFull (w := (sL S g 1)) (hR.2.2.1 g (by omega)).2.2 ?_ ?_
    · skip
      intro hf3
      refine zr_if_eq (tgt := 23) X dX5_reasonNotToJoin_18 (by decide) (fun h => absurd h (by decide)) (fun _ => ?_)
      refine zr_iconst (v := (2 : Int32)) X dX5_reasonNotToJoin_21 (by decide) ?_
      refine zr_iret X (by decide) (by decide) dX5_reasonNotToJoin_22 ?_
      have e9 : qWhy S g 1 (c9 + 1) = 2 := by
        rw [qWhy, if_neg (fun z => z hv1), if_pos hf3]
      rw [e9] at k1; exact k1
    · skip
      intro hf3
      refine zr_if_eq (tgt := 23) X dX5_reasonNotToJoin_18 (by decide) (fun _ => ?_) (fun h => absurd h (by decide))
      refine zr_iload3 X dX5_reasonNotToJoin_23 ?_
      refine zr_iconst (v := (-1 : Int32)) X dX5_reasonNotToJoin_24 (by decide) ?_
      refine zr_icmp_eq (tgt := 39) X dX5_reasonNotToJoin_25 (by decide) (fun h => absurd h (zm1 (by omega))) (fun _ => ?_)
      refine zr_aload0 X dX5_reasonNotToJoin_28 ?_
      refine zr_iload3 X dX5_reasonNotToJoin_29 ?_
      refine zr_callV1 (rm9 := zrm_X5_gateWithInLine) X hnt zm_X5_109 (by decide) (by decide) (by decide) (Nat.le_of_ble_eq_true rfl) dX5_reasonNotToJoin_30 ?_
      refine zp_X5_gateWithInLine hR hW (by omega) ?_ ?_
      · skip
        intro g5 sd6 p7 ha4; have := ha4.1
        refine zr_iconst (v := (-1 : Int32)) X dX5_reasonNotToJoin_33 (by decide) ?_
        refine zr_icmp_eq (tgt := 39) X dX5_reasonNotToJoin_34 (by decide) (fun h => absurd h (zm1 (by omega))) (fun _ => ?_)
        refine zr_iconst (v := (3 : Int32)) X dX5_reasonNotToJoin_37 (by decide) ?_
        refine zr_iret X (by decide) (by decide) dX5_reasonNotToJoin_38 ?_
        have e9 : qWhy S g 1 (c9 + 1) = 3 := by
          rw [qWhy, if_neg (fun z => z hv1), if_neg (by omega), if_pos ⟨by omega, by rw [Nat.add_sub_cancel, (qPos_at hW ha4).1]; exact Option.some_ne_none _⟩]
        rw [e9] at k1; exact k1
      · skip
        intro hn8
        refine zr_iconst (v := (-1 : Int32)) X dX5_reasonNotToJoin_33 (by decide) ?_
        refine zr_icmp_eq (tgt := 39) X dX5_reasonNotToJoin_34 (by decide) (fun _ => ?_) (fun h => absurd h (by decide))
        refine zr_iload2 X dX5_reasonNotToJoin_39 ?_
        refine zr_iconst (v := (1 : Int32)) X dX5_reasonNotToJoin_40 (by decide) ?_
        refine zr_icmp_ne (tgt := 57) X dX5_reasonNotToJoin_41 (by decide) (fun h => absurd h (by decide)) (fun _ => ?_)
        refine zr_aload0 X dX5_reasonNotToJoin_44 ?_
        refine zr_callV0 (rm9 := zrm_X5_peopleInInnerLines) X hnt zm_X5_159 (by decide) (by decide) (by decide) (Nat.le_of_ble_eq_true rfl) dX5_reasonNotToJoin_45 ?_
        refine zp_X5_peopleInInnerLines hR hW ?_
        refine zr_aload0 X dX5_reasonNotToJoin_48 ?_
        refine zr_getI X zf_X5_51 rfl dX5_reasonNotToJoin_49 ?_
        refine zr_eq (x2 := (sX S 3)) (hR.1 3 (by decide) (by decide)) ?_
        refine zr_icmp_lt (tgt := 57) X dX5_reasonNotToJoin_52 (by decide) (fun h9 => ?_) (fun h9 => ?_)
        · skip
          refine zr_iconst (v := (0 : Int32)) X dX5_reasonNotToJoin_57 (by decide) ?_
          refine zr_iret X (by decide) (by decide) dX5_reasonNotToJoin_58 ?_
          have e9 : qWhy S g 1 (c9 + 1) = 0 := by
            rw [qWhy, if_neg (fun z => z hv1), if_neg (by omega), if_neg (fun z => z.2 (by rw [Nat.add_sub_cancel]; cases e8 : qPos S c9 with | none => rfl | some i => exact absurd (qPos_some e8) (hn8 _ _ _))), if_neg (fun z => absurd z.2 (by first | exact h9 | (rw [Int32.not_le]; assumption) | (rw [← Int32.not_lt]; exact fun q => q (by assumption))))]
          rw [e9] at k1; exact k1
        · skip
          refine zr_iconst (v := (4 : Int32)) X dX5_reasonNotToJoin_55 (by decide) ?_
          refine zr_iret X (by decide) (by decide) dX5_reasonNotToJoin_56 ?_
          have e9 : qWhy S g 1 (c9 + 1) = 4 := by
            rw [qWhy, if_neg (fun z => z hv1), if_neg (by omega), if_neg (fun z => z.2 (by rw [Nat.add_sub_cancel]; cases e8 : qPos S c9 with | none => rfl | some i => exact absurd (qPos_some e8) (hn8 _ _ _))), if_pos ⟨rfl, by first | exact h9 | (rw [Int32.not_lt] at *; assumption)⟩]
          rw [e9] at k1; exact k1
  · skip
    intro hv1
    refine zr_if_ne (tgt := 10) X dX5_reasonNotToJoin_5 (by decide) (fun h => absurd h (by decide)) (fun _ => ?_)
    refine zr_iconst (v := (1 : Int32)) X dX5_reasonNotToJoin_8 (by decide) ?_
    refine zr_iret X (by decide) (by decide) dX5_reasonNotToJoin_9 ?_
    have e9 : qWhy S g 1 (c9 + 1) = 1 := by
      rw [qWhy, if_pos hv1]
    rw [e9] at k1; exact k1
theorem zq_X5_reasonNotToJoin {l : Launch} {D : va_G} {b0 : Nat} {tA : Nat → ClassId} {sa sv : Nat → Nat} {K : zKt} {I : zI} {Qp : zI → Option AV → Prop} {Xp : String → zI → Prop} {a g s9 w : Nat} {S : zS} (hR : zRw I a S) (hW : zWf S) (hg : g < 6) (hs : s9 < 2) (hw : w ≤ 12) (k1 : Qp I (some (vi (nI (qWhy S g s9 w))))) :
    zC l D b0 tA sa sv K yX5_reasonNotToJoin (.code yX5_reasonNotToJoin cX5_reasonNotToJoin 4 (some .int)) zrm_X5_reasonNotToJoin [vr (a) 5, vr (a + 1 + 2 + 5 * g) 1, vi ((nI s9)), vi (nI w - 1)] I Qp Xp := by
  rcases w with _ | c9
  · rcases (show s9 = 0 ∨ s9 = 1 by omega) with rfl | rfl
    · exact zp00_X5_reasonNotToJoin (c9 := 0) hR hW hg (by omega) k1
    · exact zp10_X5_reasonNotToJoin (c9 := 0) hR hW hg (by omega) k1
  · rw [show nI (c9 + 1) - 1 = nI c9 from pk_sub (a := c9 + 1) (b := 1) (by omega)]
    rcases (show s9 = 0 ∨ s9 = 1 by omega) with rfl | rfl
    · exact zp01_X5_reasonNotToJoin hR hW hg (by omega) k1
    · exact zp11_X5_reasonNotToJoin hR hW hg (by omega) k1
theorem zn_X4_hasPlace {l : Launch} {D : va_G} {b0 : Nat} {tA : Nat → ClassId} {sa sv : Nat → Nat} {K : zKt} {I : zI} {Qp : zI → Option AV → Prop} {Xp : String → zI → Prop} {a : Nat} {x : Int32} {w : List Nat} (hL : zLn I a w) (k1 : ∀ k : Nat, k < w.length → x = nI k → Qp I (some (vi 1))) (k2 : (∀ k : Nat, k < w.length → ¬ x = nI k) → Qp I (some (vi 0))) :
    zC l D b0 tA sa sv K yX4_hasPlace (.code yX4_hasPlace cX4_hasPlace 2 (some .boolean)) zrm_X4_hasPlace [vr (a) 4, vi (x)] I Qp Xp := by
  have h9 := hL.2.1
  refine zq_X4_hasPlace (fun ⟨h1, h2, h3⟩ => ?_) (fun h => k2 (fun k hk e => h ?_))
  · have h4 : x.toInt = (x.toNatClampNeg : Int) := by
      rw [Int32.not_lt, Int32.le_iff_toInt_le] at h1
      have : (0 : Int32).toInt = 0 := by decide
      show x.toInt = ((x.toInt.toNat : Nat) : Int)
      omega
    have h5 : x = nI x.toNatClampNeg := by
      apply Int32.toInt_inj.mp
      rw [nI_toInt (by have := Int32.toInt_lt x; omega)]; exact h4
    refine k1 x.toNatClampNeg ?_ h5
    rw [hL.1, h5, nI_leI (by omega) (by have := Int32.toInt_lt x; omega)] at h2
    omega
  · subst e
    refine ⟨nI_pos (by omega), fun z => ?_, fun z => ?_⟩
    · rw [hL.1, nI_leI (by omega) (by omega)] at z; omega
    · exact absurd ((nI_leI (a := 10) (by decide) (by omega)).mp z) (by omega)
theorem zm_X4_cardAt {l : Launch} {D : va_G} {b0 : Nat} {tA : Nat → ClassId} {sa sv : Nat → Nat} {K : zKt} {I : zI} {Qp : zI → Option AV → Prop} {Xp : String → zI → Prop} {a k : Nat} {w : List Nat} (hL : zLn I a w) (hk : k < w.length) (k1 : Qp I (some (vi (nI (w.getD k 0) - 1)))) :
    zC l D b0 tA sa sv K yX4_cardAt (.code yX4_cardAt cX4_cardAt 2 (some .int)) zrm_X4_cardAt [vr (a) 4, vi ((nI k))] I Qp Xp := by
  have h9 := hL.2.1
  refine zp_X4_cardAt (fun _ _ _ => ?_) (fun h => absurd ⟨nI_pos (by omega), fun z => ?_, fun z => ?_⟩ h)
  · rw [nI_clamp (by omega), hL.2.2 k hk]; exact k1
  · rw [hL.1, nI_leI (by omega) (by omega)] at z; omega
  · exact absurd ((nI_leI (a := 10) (by decide) (by omega)).mp z) (by omega)
theorem zn_X1_isFirstDueOn {l : Launch} {D : va_G} {b0 : Nat} {tA : Nat → ClassId} {sa sv : Nat → Nat} {K : zKt} {I : zI} {Qp : zI → Option AV → Prop} {Xp : String → zI → Prop} {a g s9 : Nat} {S : zS} (hR : zRw I a S) (hg : g < 6) (hs : s9 < 2) (hP : zPad S g) (k1 : sG S g 3 = 1 ∧ sG S g 2 = nI (s9 + 1) → Qp I (some (vi 1))) (k2 : ¬ (sG S g 3 = 1 ∧ sG S g 2 = nI (s9 + 1)) → Qp I (some (vi 0))) :
    zC l D b0 tA sa sv K yX1_isFirstDueOn (.code yX1_isFirstDueOn cX1_isFirstDueOn 2 (some .boolean)) zrm_X1_isFirstDueOn [vr (a + 1 + 2 + 5 * g) 1, vi ((nI s9))] I Qp Xp := by
  obtain ⟨-, -, e4, e5, -⟩ := (hR.2.2.1 g hg).1
  have q1 : ∀ x : Int32, x - 1 = nI s9 ↔ x = nI (s9 + 1) := fun x => by
    have e : nI (s9 + 1) = nI s9 + 1 := (nI_1 s9).symm
    rw [e]
    constructor
    · intro h; rw [← h]; simp
    · intro h; rw [h]; simp
  have b3 : sG S g 3 = 0 ∨ sG S g 3 = 1 := by
    obtain ⟨-, -, ⟨-, -, q⟩ | ⟨o, -, -, -, ⟨-, q | ⟨q, -⟩⟩ | ⟨-, q | ⟨q, -⟩⟩⟩⟩ := hP <;> first | exact Or.inl q | exact Or.inr q
  refine zp_X1_isFirstDueOn (fun h => k2 (fun z => ?_)) (fun _ h => k2 (fun z => h ?_)) (fun h h2 => k1 ⟨?_, ?_⟩)
  · rw [e5, z.1] at h; exact absurd h (by decide)
  · rw [e4, z.2]; exact pk_sub (a := s9 + 1) (b := 1) (by omega)
  · rw [e5] at h; exact b3.resolve_left h
  · rw [e4] at h2; exact (q1 _).mp h2
theorem zn_X1_canTakeMode {l : Launch} {D : va_G} {b0 : Nat} {tA : Nat → ClassId} {sa sv : Nat → Nat} {K : zKt} {I : zI} {Qp : zI → Option AV → Prop} {Xp : String → zI → Prop} {a g : Nat} {m : Int32} {S : zS} (hR : zRw I a S) (hg : g < 6) (hP : zPad S g) (hl : ∀ s, (sL S g s).length ≤ 10) (k1 : sG S g 2 = 0 ∧ (qSv m 0 ∨ sL S g 0 = []) ∧ (qSv m 1 ∨ sL S g 1 = []) → Qp I (some (vi 1))) (k2 : ¬ (sG S g 2 = 0 ∧ (qSv m 0 ∨ sL S g 0 = []) ∧ (qSv m 1 ∨ sL S g 1 = [])) → Qp I (some (vi 0))) :
    zC l D b0 tA sa sv K yX1_canTakeMode (.code yX1_canTakeMode cX1_canTakeMode 2 (some .boolean)) zrm_X1_canTakeMode [vr (a + 1 + 2 + 5 * g) 1, vi (m)] I Qp Xp := by
  obtain ⟨e0, l0, l1⟩ := hR.2.2.1 g hg
  have e3 := e0.2.1
  have b0 := hl 0
  have b1 := hl 1
  have hop : I (a + 1 + 2 + 5 * g) 3 ≤ 0 ↔ sG S g 2 = 0 := by
    rw [e3]
    constructor
    · intro h
      obtain ⟨-, -, ⟨q, -⟩ | ⟨o, o1, o2, o3, -⟩⟩ := hP
      · exact q
      · rw [o3, (zn_i0 (by omega)).2.2.2.2] at h; omega
    · intro z; rw [(zPad_shut hP z).1]; decide
  have z0 : ((0 : Int32) + I (a + 1 + 2 + 5 * g + 1) 1) = 0 ↔ sL S g 0 = [] := by
    rw [l0.1, Int32.zero_add, (zn_i0 (by omega)).1]; exact List.length_eq_zero_iff
  have z1 : ((0 : Int32) + I (a + 1 + 2 + 5 * g + 3) 1) = 0 ↔ sL S g 1 = [] := by
    rw [l1.1, Int32.zero_add, (zn_i0 (by omega)).1]; exact List.length_eq_zero_iff
  have z2 : (((0 : Int32) + I (a + 1 + 2 + 5 * g + 1) 1) + I (a + 1 + 2 + 5 * g + 3) 1) = 0 ↔ sL S g 0 = [] ∧ sL S g 1 = [] := by
    rw [l0.1, l1.1, Int32.zero_add, nI_add, (zn_i0 (by omega)).1, ← List.length_eq_zero_iff, ← List.length_eq_zero_iff]; omega
  have s0 := zsv1 (m := m) (s := 0) (by decide)
  have s1 := zsv1 (m := m) (s := 1) (by decide)
  refine zp_X1_canTakeMode (fun h1 h2 h3 => k1 ⟨hop.mp h1, Or.inl (s0.mpr h2), Or.inl (s1.mpr h3)⟩) (fun h1 h2 h3 h4 => k2 (fun z => ?_)) (fun h1 h2 h3 h4 => k1 ⟨hop.mp h1, Or.inl (s0.mpr h2), Or.inr (z1.mp h4)⟩)
    (fun h1 h2 h3 h4 => k2 (fun z => ?_)) (fun h1 h2 h3 h4 => k1 ⟨hop.mp h1, Or.inr (z0.mp h4), Or.inl (s1.mpr h3)⟩) (fun h1 h2 h3 h4 => k2 (fun z => ?_)) (fun h1 h2 h3 h4 => k1 ⟨hop.mp h1, Or.inr (z2.mp h4).1, Or.inr (z2.mp h4).2⟩) (fun h1 => k2 (fun z => h1 (hop.mpr z.1)))
  · rcases z.2.2 with q | q
    · exact h3 (s1.mp q)
    · exact h4 (z1.mpr q)
  · rcases z.2.1 with q | q
    · exact h2 (s0.mp q)
    · exact h4 (z0.mpr q)
  · have q0 := z.2.1.resolve_left (fun q => h2 (s0.mp q))
    have q1 := z.2.2.resolve_left (fun q => h3 (s1.mp q))
    exact h4 (z2.mpr ⟨q0, q1⟩)
