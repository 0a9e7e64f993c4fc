/-! ===== shares; what would be ===== -/
abbrev zrm_X7_insideIn : Room := { frames := 9, cells := 1, slots := 6, locals := 141 }
set_option maxRecDepth 20000 in
theorem zo_X7_insideIn {l : Launch} {D : va_G} {b0 : Nat} {tA : Nat → ClassId} {sa sv : Nat → Nat} {K : zKt} {I : zI} {Qp : zI → Option AV → Prop} {Xp : String → zI → Prop} {F9 : zI} {x f : Nat} {t : Nat → Nat} {er : Int32} {S : zS} {U : List zS} {k9 : Nat}
    (hC : zCl F9 I x t f er S U) (h1 : 1 ≤ k9) (h2 : k9 ≤ 200) (k1 : ∀ J : zI, zCl F9 J x t f er S U → Qp J (some (vi (sX (qTicks S k9) 3)))) :
    zC l D b0 tA sa sv K yX7_insideIn (.code yX7_insideIn cX7_insideIn 2 (some .int)) zrm_X7_insideIn [vr (x) 7, vi ((nI k9))] I Qp Xp := by
  have hR := hC.2.2.1
  have hW := hC.2.2.2.1
  have hg6 := hW.ng.1
  have hc12 := hW.nc.1
  have hf5 := hC.1.2.1
  refine zC_of (by decide +kernel) (Nat.le_of_ble_eq_true rfl) ?_
  intro p e s m args below meth c X hnt
  have X : zX p l e zrm_X7_insideIn s m args below meth c RX7 cX7_insideIn 2 (some .int) D b0 tA sa sv := X
  refine zr_lv (lv2 := [some (vr (x) 7), some (vi ((nI k9)))]) rfl ?_
  refine zr_iload1 X dX7_insideIn_0 ?_
  refine zr_sipush (v := (200 : Int32)) X dX7_insideIn_1 (by decide) ?_
  refine zr_callS2 (rm9 := zrm_X7_requireTicks) X hnt zm_X7_170 (by decide) (by decide) (by decide) (Nat.le_of_ble_eq_true rfl) dX7_insideIn_4 ?_
  refine zo200_X7_requireTicks h1 h2 ?_
  refine zr_aload0 X dX7_insideIn_7 ?_
  refine zr_getR X zf_X7_33 rfl (by decide) (by decide) dX7_insideIn_8 ?_
  refine zr_aload0 X dX7_insideIn_11 ?_
  refine zr_getR X zf_X7_26 rfl (by decide) (by decide) dX7_insideIn_12 ?_
  refine zr_callV1 (rm9 := zrm_X5_copyFrom) X hnt zm_X7_57 (by decide) (by decide) (by decide) (Nat.le_of_ble_eq_true rfl) dX7_insideIn_15 ?_
  refine zp_X5_copyFrom (S := S) hR (by omega) ?_
  intro J1 hg2 hT3
  refine zr_aload0 X dX7_insideIn_18 ?_
  refine zr_getR X zf_X7_33 rfl (by decide) (by decide) dX7_insideIn_19 ?_
  refine zr_iload1 X dX7_insideIn_22 ?_
  refine zr_callV1 (rm9 := zrm_X5_passTicks) X hnt zm_X7_164 (by decide) (by decide) (by decide) (Nat.le_of_ble_eq_true rfl) dX7_insideIn_23 ?_
  refine zp_X5_passTicks (m9 := k9) hT3 hW (by omega) ?_
  intro J4 hg5 hT6
  refine zr_aload0 X dX7_insideIn_26 ?_
  refine zr_getR X zf_X7_33 rfl (by decide) (by decide) dX7_insideIn_27 ?_
  refine zr_getI X zf_X7_174 rfl dX7_insideIn_30 ?_
  refine zr_eq (x2 := (sX (qTicks S k9) 3)) (hT6.1 3 (by decide) (by decide)) ?_
  refine zr_iret X (by decide) (by decide) dX7_insideIn_33 ?_
  exact k1 _ (hC.trial (by repeat (first | exact zag.rf | assumption | refine zag.put ?_ (by omega) (by omega) | refine zag.tr ?_ (by assumption) (by omega) (by omega))))
abbrev zrm_X7_followersIn : Room := { frames := 9, cells := 1, slots := 6, locals := 141 }
set_option maxRecDepth 20000 in
theorem zo_X7_followersIn {l : Launch} {D : va_G} {b0 : Nat} {tA : Nat → ClassId} {sa sv : Nat → Nat} {K : zKt} {I : zI} {Qp : zI → Option AV → Prop} {Xp : String → zI → Prop} {F9 : zI} {x f : Nat} {t : Nat → Nat} {er : Int32} {S : zS} {U : List zS} {k9 : Nat}
    (hC : zCl F9 I x t f er S U) (h1 : 1 ≤ k9) (h2 : k9 ≤ 200) (k1 : ∀ J : zI, zCl F9 J x t f er S U → Qp J (some (vi (sX (qTicks S k9) 11 - sX S 11)))) :
    zC l D b0 tA sa sv K yX7_followersIn (.code yX7_followersIn cX7_followersIn 2 (some .int)) zrm_X7_followersIn [vr (x) 7, vi ((nI k9))] I Qp Xp := by
  have hR := hC.2.2.1
  have hW := hC.2.2.2.1
  have hg6 := hW.ng.1
  have hc12 := hW.nc.1
  have hf5 := hC.1.2.1
  refine zC_of (by decide +kernel) (Nat.le_of_ble_eq_true rfl) ?_
  intro p e s m args below meth c X hnt
  have X : zX p l e zrm_X7_followersIn s m args below meth c RX7 cX7_followersIn 2 (some .int) D b0 tA sa sv := X
  refine zr_lv (lv2 := [some (vr (x) 7), some (vi ((nI k9)))]) rfl ?_
  refine zr_iload1 X dX7_followersIn_0 ?_
  refine zr_sipush (v := (200 : Int32)) X dX7_followersIn_1 (by decide) ?_
  refine zr_callS2 (rm9 := zrm_X7_requireTicks) X hnt zm_X7_170 (by decide) (by decide) (by decide) (Nat.le_of_ble_eq_true rfl) dX7_followersIn_4 ?_
  refine zo200_X7_requireTicks h1 h2 ?_
  refine zr_aload0 X dX7_followersIn_7 ?_
  refine zr_getR X zf_X7_33 rfl (by decide) (by decide) dX7_followersIn_8 ?_
  refine zr_aload0 X dX7_followersIn_11 ?_
  refine zr_getR X zf_X7_26 rfl (by decide) (by decide) dX7_followersIn_12 ?_
  refine zr_callV1 (rm9 := zrm_X5_copyFrom) X hnt zm_X7_57 (by decide) (by decide) (by decide) (Nat.le_of_ble_eq_true rfl) dX7_followersIn_15 ?_
  refine zp_X5_copyFrom (S := S) hR (by omega) ?_
  intro J7 hg8 hT9
  refine zr_aload0 X dX7_followersIn_18 ?_
  refine zr_getR X zf_X7_33 rfl (by decide) (by decide) dX7_followersIn_19 ?_
  refine zr_iload1 X dX7_followersIn_22 ?_
  refine zr_callV1 (rm9 := zrm_X5_passTicks) X hnt zm_X7_164 (by decide) (by decide) (by decide) (Nat.le_of_ble_eq_true rfl) dX7_followersIn_23 ?_
  refine zp_X5_passTicks (m9 := k9) hT9 hW (by omega) ?_
  intro J10 hg11 hT12
  refine zr_aload0 X dX7_followersIn_26 ?_
  refine zr_getR X zf_X7_33 rfl (by decide) (by decide) dX7_followersIn_27 ?_
  refine zr_getI X zf_X7_177 rfl dX7_followersIn_30 ?_
  refine zr_eq (x2 := (sX (qTicks S k9) 11)) (hT12.1 11 (by decide) (by decide)) ?_
  refine zr_aload0 X dX7_followersIn_33 ?_
  refine zr_getR X zf_X7_26 rfl (by decide) (by decide) dX7_followersIn_34 ?_
  refine zr_getI X zf_X7_177 rfl dX7_followersIn_37 ?_
  refine zr_eq (x2 := (I (x + 4) 11)) ((congrFun (hg11 (x + 4) (by omega)) 11).trans ((congrFun (hg8 (x + 4) (by omega)) 11))) ?_
  refine zr_eq (x2 := (sX S 11)) (hR.1 11 (by decide) (by decide)) ?_
  refine zr_isub X dX7_followersIn_40 ?_
  refine zr_iret X (by decide) (by decide) dX7_followersIn_41 ?_
  exact k1 _ (hC.trial (by repeat (first | exact zag.rf | assumption | refine zag.put ?_ (by omega) (by omega) | refine zag.tr ?_ (by assumption) (by omega) (by omega))))
set_option maxRecDepth 20000 in
theorem zx_X7_insideIn {l : Launch} {D : va_G} {b0 : Nat} {tA : Nat → ClassId} {sa sv : Nat → Nat} {K : zKt} {I : zI} {Qp : zI → Option AV → Prop} {Xp : String → zI → Prop} {F9 : zI} {x f : Nat} {t : Nat → Nat} {er : Int32} {S : zS} {U : List zS} {v : Int32}
    (hC : zCl F9 I x t f er S U) (hb : vIdx v 201 = none ∨ v = 0) (kx : Xp "java/lang/IllegalArgumentException" I) :
    zC l D b0 tA sa sv K yX7_insideIn (.code yX7_insideIn cX7_insideIn 2 (some .int)) zrm_X7_insideIn [vr (x) 7, vi (v)] I Qp Xp := by
  have hR := hC.2.2.1
  have hW := hC.2.2.2.1
  have hg6 := hW.ng.1
  have hc12 := hW.nc.1
  have hf5 := hC.1.2.1
  refine zC_of (by decide +kernel) (Nat.le_of_ble_eq_true rfl) ?_
  intro p e s m args below meth c X hnt
  have X : zX p l e zrm_X7_insideIn s m args below meth c RX7 cX7_insideIn 2 (some .int) D b0 tA sa sv := X
  refine zr_lv (lv2 := [some (vr (x) 7), some (vi (v))]) rfl ?_
  refine zr_iload1 X dX7_insideIn_0 ?_
  refine zr_sipush (v := (200 : Int32)) X dX7_insideIn_1 (by decide) ?_
  refine zr_callS2 (rm9 := zrm_X7_requireTicks) X hnt zm_X7_170 (by decide) (by decide) (by decide) (Nat.le_of_ble_eq_true rfl) dX7_insideIn_4 ?_
  exact zx200_X7_requireTicks hb kx
set_option maxRecDepth 20000 in
theorem zx_X7_followersIn {l : Launch} {D : va_G} {b0 : Nat} {tA : Nat → ClassId} {sa sv : Nat → Nat} {K : zKt} {I : zI} {Qp : zI → Option AV → Prop} {Xp : String → zI → Prop} {F9 : zI} {x f : Nat} {t : Nat → Nat} {er : Int32} {S : zS} {U : List zS} {v : Int32}
    (hC : zCl F9 I x t f er S U) (hb : vIdx v 201 = none ∨ v = 0) (kx : Xp "java/lang/IllegalArgumentException" I) :
    zC l D b0 tA sa sv K yX7_followersIn (.code yX7_followersIn cX7_followersIn 2 (some .int)) zrm_X7_followersIn [vr (x) 7, vi (v)] I Qp Xp := by
  have hR := hC.2.2.1
  have hW := hC.2.2.2.1
  have hg6 := hW.ng.1
  have hc12 := hW.nc.1
  have hf5 := hC.1.2.1
  refine zC_of (by decide +kernel) (Nat.le_of_ble_eq_true rfl) ?_
  intro p e s m args below meth c X hnt
  have X : zX p l e zrm_X7_followersIn s m args below meth c RX7 cX7_followersIn 2 (some .int) D b0 tA sa sv := X
  refine zr_lv (lv2 := [some (vr (x) 7), some (vi (v))]) rfl ?_
  refine zr_iload1 X dX7_followersIn_0 ?_
  refine zr_sipush (v := (200 : Int32)) X dX7_followersIn_1 (by decide) ?_
  refine zr_callS2 (rm9 := zrm_X7_requireTicks) X hnt zm_X7_170 (by decide) (by decide) (by decide) (Nat.le_of_ble_eq_true rfl) dX7_followersIn_4 ?_
  exact zx200_X7_requireTicks hb kx
def vTick (v : Int32) (n : Nat) : Option Nat := if v = 0 then none else vIdx v n
def rInside (S : zS) (v : Int32) : Nat × Int32 := match vTick v 201 with | none => (1, 0) | some k => (0, sX (qTicks S k) 3)
def rFollow (S : zS) (v : Int32) : Nat × Int32 := match vTick v 201 with | none => (1, 0) | some k => (0, sX (qTicks S k) 11 - sX S 11)
theorem vTick_none {v : Int32} {n : Nat} (h : vTick v n = none) : vIdx v n = none ∨ v = 0 := by
  unfold vTick at h
  split at h
  · exact Or.inr (by assumption)
  · exact Or.inl h
theorem vTick_some {v : Int32} {n k : Nat} (h : vTick v n = some k) : 1 ≤ k ∧ k < n ∧ v = nI k := by
  unfold vTick at h
  split at h
  · cases h
  · rename_i h0
    obtain ⟨h1, h2⟩ := vIdx_some h
    refine ⟨?_, h1, h2⟩
    rcases Nat.eq_zero_or_pos k with z | z
    · subst z; exact absurd h2 h0
    · exact z
theorem zq_X7_insideIn {l : Launch} {D : va_G} {b0 : Nat} {tA : Nat → ClassId} {sa sv : Nat → Nat} {K : zKt} {I : zI} {Qp : zI → Option AV → Prop} {Xp : String → zI → Prop} {F9 : zI} {x f : Nat} {t : Nat → Nat} {er : Int32} {S : zS} {U : List zS} {v : Int32}
    (hC : zCl F9 I x t f er S U) (k0 : (rInside S v).1 = 0 → ∀ J : zI, zCl F9 J x t f er S U → Qp J (some (vi (rInside S v).2))) (kx1 : (rInside S v).1 = 1 → Xp "java/lang/IllegalArgumentException" I) :
    zC l D b0 tA sa sv K yX7_insideIn (.code yX7_insideIn cX7_insideIn 2 (some .int)) zrm_X7_insideIn [vr (x) 7, vi (v)] I Qp Xp := by
  unfold rInside at k0 kx1
  cases e1 : vTick v 201 with
  | none => rw [e1] at kx1; exact zx_X7_insideIn hC (vTick_none e1) (kx1 rfl)
  | some k =>
    rw [e1] at k0
    obtain ⟨h1, h2, rfl⟩ := vTick_some e1
    exact zo_X7_insideIn hC h1 (by omega) (k0 rfl)
theorem zq_X7_followersIn {l : Launch} {D : va_G} {b0 : Nat} {tA : Nat → ClassId} {sa sv : Nat → Nat} {K : zKt} {I : zI} {Qp : zI → Option AV → Prop} {Xp : String → zI → Prop} {F9 : zI} {x f : Nat} {t : Nat → Nat} {er : Int32} {S : zS} {U : List zS} {v : Int32}
    (hC : zCl F9 I x t f er S U) (k0 : (rFollow S v).1 = 0 → ∀ J : zI, zCl F9 J x t f er S U → Qp J (some (vi (rFollow S v).2))) (kx1 : (rFollow S v).1 = 1 → Xp "java/lang/IllegalArgumentException" I) :
    zC l D b0 tA sa sv K yX7_followersIn (.code yX7_followersIn cX7_followersIn 2 (some .int)) zrm_X7_followersIn [vr (x) 7, vi (v)] I Qp Xp := by
  unfold rFollow at k0 kx1
  cases e1 : vTick v 201 with
  | none => rw [e1] at kx1; exact zx_X7_followersIn hC (vTick_none e1) (kx1 rfl)
  | some k =>
    rw [e1] at k0
    obtain ⟨h1, h2, rfl⟩ := vTick_some e1
    exact zo_X7_followersIn hC h1 (by omega) (k0 rfl)
abbrev zrm_X7_throughIn : Room := { frames := 9, cells := 1, slots := 6, locals := 141 }
theorem qTicks_1 {S : zS} : qTicks S 1 = qTick S := rfl
theorem qTicks_s {S : zS} {k : Nat} : qTicks S (k + 1) = qTick (qTicks S k) := rfl
/-- how often a card has passed, after some ticks -/
def qTm (S : zS) (c k : Nat) : Int32 := sC (qTicks S k) c 3
theorem qTm_0 {S : zS} {c : Nat} : qTm S c 0 = sC S c 3 := rfl
theorem qTm_is {S : zS} {c k : Nat} : qTm S c k = sC (qTicks S k) c 3 := rfl
def zFst (f : Nat → Int32) (v : Int32) : Int32 := match (List.range 200).find? (fun i => decide (¬ f (i + 1) = v)) with | some i => nI (i + 1) | none => -1
theorem zFst_is {f : Nat → Int32} {v : Int32} {k : Nat} (hk : k < 200) (h : ¬ f (k + 1) = v) (hf : ∀ i, i < k → f (i + 1) = v) : zFst f v = nI (k + 1) := by
  have : (List.range 200).find? (fun i => decide (¬ f (i + 1) = v)) = some k := by
    rw [List.find?_range_eq_some]
    exact ⟨decide_eq_true h, List.mem_range.mpr hk, fun i hi => by simp [hf i hi]⟩
  rw [zFst, this]
theorem zFst_no {f : Nat → Int32} {v : Int32} (hf : ∀ i, i < 200 → f (i + 1) = v) : zFst f v = -1 := by
  have : (List.range 200).find? (fun i => decide (¬ f (i + 1) = v)) = none := by
    rw [List.find?_eq_none]
    intro i hi
    simp [hf i (List.mem_range.mp hi)]
  rw [zFst, this]
def qThrough (S : zS) (c : Nat) : Int32 := zFst (qTm S c) (sC S c 3)
def rThrough (S : zS) (v : Int32) : Nat × Int32 := match vIdx v (znc S) with | none => (1, 0) | some c => (0, if qPos S c = none then -1 else qThrough S c)
set_option maxRecDepth 20000 in
theorem zl_X7_throughIn {l : Launch} {D : va_G} {b0 : Nat} {tA : Nat → ClassId} {sa sv : Nat → Nat} {K : zKt} {I : zI} {Qp : zI → Option AV → Prop} {Xp : String → zI → Prop} {p : Program} {e : Env} {s : State} {m : MethodId} {args : Array Value} {below : List Frame} {meth : Method} {c : Code} {F9 : zI} {x f : Nat} {t : Nat → Nat} {er : Int32} {S : zS} {U : List zS} {c9 : Nat}
    (X : zX p l e zrm_X7_throughIn s m args below meth c RX7 cX7_throughIn 3 (some .int) D b0 tA sa sv) (hnt : ∀ x ∈ c.exceptionTable.toList, False) (hC : zCl F9 I x t f er S U) (hc : c9 < znc S) (k1 : ∀ J : zI, zCl F9 J x t f er S U → Qp J (some (vi (qThrough S c9)))) :
    ∀ (n : Nat) (k : Nat) (J : zI), k ≤ 200 → zag I J (x + 94) 45 → zRw J (x + 94) (qTicks S k) → (∀ i, i < k → qTm S c9 (i + 1) = sC S c9 3) → 200 - k < n → zG p l e zrm_X7_throughIn s m args below meth c 3 D b0 tA sa (0 + zrm_X7_requireCard.cells + zrm_X5_gateWithInLine.cells + zrm_X5_copyFrom.cells) (0 + zrm_X7_requireCard.slots + zrm_X5_gateWithInLine.slots + zrm_X5_copyFrom.slots) (zQ below D b0 tA sa K args s zrm_X7_throughIn Qp Xp) K 32 [some (vr (x) 7), some (vi ((nI c9))), some (vi ((nI (k + 1))))] [] J := by
  intro n
  induction n with
  | zero => intro k J i1 i2 i3 i4 i9; exact absurd i9 (Nat.not_lt_zero _)
  | succ n ih =>
    intro k J i1 i2 i3 i4 i9
    have hR := hC.2.2.1
    have hW := hC.2.2.2.1
    have hg6 := hW.ng.1
    have hc12 := hW.nc.1
    have hf5 := hC.1.2.1
    refine zr_iload2 X dX7_throughIn_32 ?_
    refine zr_sipush (v := (200 : Int32)) X dX7_throughIn_33 (by decide) ?_
    refine zr_nicmp_gt X ((k + 1)) (200) (tgt := 82) (by omega) (by omega) dX7_throughIn_36 (by decide) (fun h1 => ?_) (fun h1 => ?_)
    · skip
      refine zr_iconst (v := (-1 : Int32)) X dX7_throughIn_82 (by decide) ?_
      refine zr_iret X (by decide) (by decide) dX7_throughIn_83 ?_
      have e9 : qThrough S c9 = -1 := zFst_no (fun i hi => i4 i (by omega))
      rw [e9] at k1; exact k1 _ (hC.trial (by repeat (first | exact zag.rf | assumption | refine zag.put ?_ (by omega) (by omega) | refine zag.tr ?_ (by assumption) (by omega) (by omega))))
    · skip
      refine zr_aload0 X dX7_throughIn_39 ?_
      refine zr_getR X zf_X7_33 rfl (by decide) (by decide) dX7_throughIn_40 ?_
      refine zr_iconst (v := (1 : Int32)) X dX7_throughIn_43 (by decide) ?_
      refine zr_callV1 (rm9 := zrm_X5_passTicks) X hnt zm_X7_164 (by decide) (by decide) (by decide) (Nat.le_of_ble_eq_true rfl) dX7_throughIn_44 ?_
      refine zp_X5_passTicks (m9 := 1) i3 (zWf_ticks hW k) (by omega) ?_
      intro J13 hg14 hT15; rw [qTicks_1, ← qTicks_s] at hT15
      refine zr_aload0 X dX7_throughIn_47 ?_
      refine zr_getR X zf_X7_33 rfl (by decide) (by decide) dX7_throughIn_48 ?_
      refine zr_getR X zf_X7_135 rfl (by decide) (by decide) dX7_throughIn_51 ?_
      refine zr_iload1 X dX7_throughIn_54 ?_
      refine zr_aaldN X rfl rfl (by decide) (show _ < 12 from (by first | assumption | omega)) dX7_throughIn_55 ?_
      refine zr_getI X zf_X7_167 rfl dX7_throughIn_56 ?_
      refine zr_eq (x2 := (sC (qTicks S (k + 1)) c9 3)) ((hT15.2.2.2 c9 (by omega)).2.2.2.2) ?_
      refine zr_aload0 X dX7_throughIn_59 ?_
      refine zr_getR X zf_X7_26 rfl (by decide) (by decide) dX7_throughIn_60 ?_
      refine zr_getR X zf_X7_135 rfl (by decide) (by decide) dX7_throughIn_63 ?_
      refine zr_iload1 X dX7_throughIn_66 ?_
      refine zr_aaldN X rfl rfl (by decide) (show _ < 12 from (by first | assumption | omega)) dX7_throughIn_67 ?_
      refine zr_getI X zf_X7_167 rfl dX7_throughIn_68 ?_
      refine zr_eq (x2 := (sC S c9 3)) (((hR.ag (lo := x + 94) (n := 45) (show zag I J13 (x + 94) 45 by repeat (first | exact zag.rf | assumption | refine zag.put ?_ (by omega) (by omega) | refine zag.tr ?_ (by assumption) (by omega) (by omega))) (by omega)).2.2.2 c9 (by omega)).2.2.2.2) ?_
      refine zr_icmp_eq (tgt := 76) X dX7_throughIn_71 (by decide) (fun h2 => ?_) (fun h2 => ?_)
      · skip
        refine zr_iinc2 (v := (nI ((k + 1) + 1))) X (show nI ((k + 1)) + Int32.ofInt 1 = nI ((k + 1) + 1) from nI_1 ((k + 1))) (by decide) rfl dX7_throughIn_76 ?_
        refine zr_goto (tgt := 32) X dX7_throughIn_79 (by decide) ?_
        exact ih (k + 1) _ (by omega) (by repeat (first | exact zag.rf | assumption | refine zag.put ?_ (by omega) (by omega) | refine zag.tr ?_ (by assumption) (by omega) (by omega))) hT15 (fun i hi => by rcases Nat.lt_succ_iff_lt_or_eq.mp hi with q | rfl; exact i4 i q; rw [qTm_is]; assumption) (by omega)
      · skip
        refine zr_iload2 X dX7_throughIn_74 ?_
        refine zr_iret X (by decide) (by decide) dX7_throughIn_75 ?_
        have e9 : qThrough S c9 = nI (k + 1) := zFst_is (by omega) (by rw [qTm_is]; assumption) i4
        rw [e9] at k1; exact k1 _ (hC.trial (by repeat (first | exact zag.rf | assumption | refine zag.put ?_ (by omega) (by omega) | refine zag.tr ?_ (by assumption) (by omega) (by omega))))
set_option maxRecDepth 20000 in
theorem zo_X7_throughIn {l : Launch} {D : va_G} {b0 : Nat} {tA : Nat → ClassId} {sa sv : Nat → Nat} {K : zKt} {I : zI} {Qp : zI → Option AV → Prop} {Xp : String → zI → Prop} {F9 : zI} {x f : Nat} {t : Nat → Nat} {er : Int32} {S : zS} {U : List zS} {c9 : Nat}
    (hC : zCl F9 I x t f er S U) (hc : c9 < znc S) (k1 : ∀ J : zI, zCl F9 J x t f er S U → Qp J (some (vi (if qPos S c9 = none then -1 else qThrough S c9)))) :
    zC l D b0 tA sa sv K yX7_throughIn (.code yX7_throughIn cX7_throughIn 3 (some .int)) zrm_X7_throughIn [vr (x) 7, vi ((nI c9))] I Qp Xp := by
  have hR := hC.2.2.1
  have hW := hC.2.2.2.1
  have hg6 := hW.ng.1
  have hc12 := hW.nc.1
  have hf5 := hC.1.2.1
  refine zC_of (by decide +kernel) (Nat.le_of_ble_eq_true rfl) ?_
  intro p e s m args below meth c X hnt
  have X : zX p l e zrm_X7_throughIn s m args below meth c RX7 cX7_throughIn 3 (some .int) D b0 tA sa sv := X
  refine zr_lv (lv2 := [some (vr (x) 7), some (vi ((nI c9))), none]) rfl ?_
  refine zr_aload0 X dX7_throughIn_0 ?_
  refine zr_iload1 X dX7_throughIn_1 ?_
  refine zr_callV1 (rm9 := zrm_X7_requireCard) X hnt zm_X7_107 (by decide) (by decide) (by decide) (Nat.le_of_ble_eq_true rfl) dX7_throughIn_2 ?_
  refine zo_X7_requireCard hC hc ?_
  refine zr_aload0 X dX7_throughIn_5 ?_
  refine zr_getR X zf_X7_26 rfl (by decide) (by decide) dX7_throughIn_6 ?_
  refine zr_iload1 X dX7_throughIn_9 ?_
  refine zr_callV1 (rm9 := zrm_X5_gateWithInLine) X hnt zm_X7_161 (by decide) (by decide) (by decide) (Nat.le_of_ble_eq_true rfl) dX7_throughIn_10 ?_
  refine zp_X5_gateWithInLine hR hW (by omega) ?_ ?_
  · skip
    intro g2 sd3 p4 ha1; have := ha1.1
    refine zr_iconst (v := (-1 : Int32)) X dX7_throughIn_13 (by decide) ?_
    refine zr_icmp_ne (tgt := 19) X dX7_throughIn_14 (by decide) (fun _ => ?_) (fun h => absurd h (zm1 (by omega)))
    refine zr_aload0 X dX7_throughIn_19 ?_
    refine zr_getR X zf_X7_33 rfl (by decide) (by decide) dX7_throughIn_20 ?_
    refine zr_aload0 X dX7_throughIn_23 ?_
    refine zr_getR X zf_X7_26 rfl (by decide) (by decide) dX7_throughIn_24 ?_
    refine zr_callV1 (rm9 := zrm_X5_copyFrom) X hnt zm_X7_57 (by decide) (by decide) (by decide) (Nat.le_of_ble_eq_true rfl) dX7_throughIn_27 ?_
    refine zp_X5_copyFrom (S := S) hR (by omega) ?_
    intro J16 hg17 hT18
    refine zr_iconst (v := (1 : Int32)) X dX7_throughIn_30 (by decide) ?_
    refine zr_istore2 X (by decide) rfl dX7_throughIn_31 ?_
    rw [if_neg (fun z => by rw [(qPos_at hW ha1).1] at z; cases z)] at k1
    exact zl_X7_throughIn X hnt hC hc k1 201 0 _ (by omega) (by repeat (first | exact zag.rf | assumption | refine zag.put ?_ (by omega) (by omega) | refine zag.tr ?_ (by assumption) (by omega) (by omega))) hT18 (fun i hi => absurd hi (Nat.not_lt_zero _)) (by omega)
  · skip
    intro hn5
    refine zr_iconst (v := (-1 : Int32)) X dX7_throughIn_13 (by decide) ?_
    refine zr_icmp_ne (tgt := 19) X dX7_throughIn_14 (by decide) (fun h => absurd h (by decide)) (fun _ => ?_)
    refine zr_iconst (v := (-1 : Int32)) X dX7_throughIn_17 (by decide) ?_
    refine zr_iret X (by decide) (by decide) dX7_throughIn_18 ?_
    rw [if_pos (by cases e8 : qPos S c9 with | none => rfl | some i => exact absurd (qPos_some e8) (hn5 _ _ _))] at k1; exact k1 _ hC
set_option maxRecDepth 20000 in
theorem zx_X7_throughIn {l : Launch} {D : va_G} {b0 : Nat} {tA : Nat → ClassId} {sa sv : Nat → Nat} {K : zKt} {I : zI} {Qp : zI → Option AV → Prop} {Xp : String → zI → Prop} {F9 : zI} {x f : Nat} {t : Nat → Nat} {er : Int32} {S : zS} {U : List zS} {v : Int32}
    (hC : zCl F9 I x t f er S U) (hb : vIdx v (znc S) = none) (kx : Xp "java/lang/IndexOutOfBoundsException" I) :
    zC l D b0 tA sa sv K yX7_throughIn (.code yX7_throughIn cX7_throughIn 3 (some .int)) zrm_X7_throughIn [vr (x) 7, vi (v)] I Qp Xp := by
  have hR := hC.2.2.1
  have hW := hC.2.2.2.1
  have hg6 := hW.ng.1
  have hc12 := hW.nc.1
  have hf5 := hC.1.2.1
  refine zC_of (by decide +kernel) (Nat.le_of_ble_eq_true rfl) ?_
  intro p e s m args below meth c X hnt
  have X : zX p l e zrm_X7_throughIn s m args below meth c RX7 cX7_throughIn 3 (some .int) D b0 tA sa sv := X
  refine zr_lv (lv2 := [some (vr (x) 7), some (vi (v)), none]) rfl ?_
  refine zr_aload0 X dX7_throughIn_0 ?_
  refine zr_iload1 X dX7_throughIn_1 ?_
  refine zr_callV1 (rm9 := zrm_X7_requireCard) X hnt zm_X7_107 (by decide) (by decide) (by decide) (Nat.le_of_ble_eq_true rfl) dX7_throughIn_2 ?_
  exact zx_X7_requireCard hC hb kx
theorem zq_X7_throughIn {l : Launch} {D : va_G} {b0 : Nat} {tA : Nat → ClassId} {sa sv : Nat → Nat} {K : zKt} {I : zI} {Qp : zI → Option AV → Prop} {Xp : String → zI → Prop} {F9 : zI} {x f : Nat} {t : Nat → Nat} {er : Int32} {S : zS} {U : List zS} {v : Int32}
    (hC : zCl F9 I x t f er S U) (k0 : (rThrough S v).1 = 0 → ∀ J : zI, zCl F9 J x t f er S U → Qp J (some (vi (rThrough S v).2))) (kx1 : (rThrough S v).1 = 1 → Xp "java/lang/IndexOutOfBoundsException" I) :
    zC l D b0 tA sa sv K yX7_throughIn (.code yX7_throughIn cX7_throughIn 3 (some .int)) zrm_X7_throughIn [vr (x) 7, vi (v)] I Qp Xp := by
  unfold rThrough at k0 kx1
  cases e1 : vIdx v (znc S) with
  | none => rw [e1] at kx1; exact zx_X7_throughIn hC e1 (kx1 rfl)
  | some c =>
    rw [e1] at k0
    obtain ⟨h1, rfl⟩ := vIdx_some e1
    exact zo_X7_throughIn hC h1 (k0 rfl)
