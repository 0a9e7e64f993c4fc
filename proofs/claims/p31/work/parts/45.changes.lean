/-! ===== what changes the class ===== -/
/-- what is kept for undo after one more change -/
def qPush (S : zS) (U : List zS) : List zS := (S :: U).take 8
theorem qPush_wf {S : zS} {U : List zS} (hS : zWf S) (hU : ∀ u ∈ U, zWf u) : ∀ u ∈ qPush S U, zWf u := fun u hu => by
  rcases List.mem_cons.mp (List.mem_of_mem_take hu) with rfl | h
  · exact hS
  · exact hU u h
theorem zWf_leave {S : zS} {g s p : Nat} (h : zWf S) (hp : p < (sL S g s).length) (hd : ¬ (p = 0 ∧ sG S g 3 = 1 ∧ sG S g 2 = nI (s + 1))) : zWf (tL S g s ((sL S g s).eraseIdx p)) := by
  refine zWf_mk (zWa_erase h.a) (fun k => ?_) (fun z k => h.pan z k)
  obtain ⟨p1, p2, p3⟩ := h.pad k
  refine ⟨p1, p2, ?_⟩
  have hne : ∀ b, sL S k b ≠ [] → sG S k 3 = 1 → sG S k 2 = nI (b + 1) → sL (tL S g s ((sL S g s).eraseIdx p)) k b ≠ [] := fun b hb h3 h2 => by
    rw [tL_L]
    split
    · rename_i e
      obtain ⟨rfl, rfl⟩ := e
      have hp0 : p ≠ 0 := fun z => hd ⟨z, h3, h2⟩
      intro z
      have := zlen_erase hp
      rw [z] at this
      have h9 : 0 = (sL S k b).length - 1 := this
      omega
    · exact hb
  rcases p3 with p3 | ⟨o, o1, o2, o3, ⟨q1, q2⟩ | ⟨q1, q2⟩⟩
  · exact Or.inl p3
  · refine Or.inr ⟨o, o1, o2, o3, Or.inl ⟨q1, ?_⟩⟩
    rcases q2 with q2 | ⟨q2, q3⟩
    · exact Or.inl q2
    · exact Or.inr ⟨q2, hne 0 q3 q2 (by rw [q1]; rfl)⟩
  · refine Or.inr ⟨o, o1, o2, o3, Or.inr ⟨q1, ?_⟩⟩
    rcases q2 with q2 | ⟨q2, q3⟩
    · exact Or.inl q2
    · exact Or.inr ⟨q2, hne 1 q3 q2 (by rw [q1]; rfl)⟩
theorem zWf_charge {S : zS} {c : Nat} {v : Int32} (h : zWf S) (hc : c < znc S) : zWf (tC S c 0 v) :=
  zWf_mk (zWa_tC h.a hc (Or.inl (by omega))) (fun k => zPad_of (h.pad k) rfl (Or.inr rfl)) (fun z k => h.pan z k)
theorem zWf_mode {S : zS} {g : Nat} {v : Int32} (h : zWf S) (hg : g < zng S) (hv : v = 0 ∨ v = 1 ∨ v = 2) : zWf (tG S g 0 v) := by
  refine zWf_mk (zWa_tG h.a (Or.inl hg)) (fun k => ?_) (fun z k => by rw [tG_G, if_neg (by omega)]; exact h.pan z k)
  obtain ⟨p1, p2, p3⟩ := h.pad k
  unfold zPad
  simp only [tG_G]
  refine ⟨?_, by rw [if_neg (by omega)]; exact p2, by rw [if_neg (by omega), if_neg (by omega), if_neg (by omega)]; exact p3⟩
  split
  · exact hv
  · exact p1
abbrev zrm_X7_tick : Room := { frames := 9, cells := 1, slots := 6, locals := 141 }
set_option maxRecDepth 20000 in
theorem zo_X7_tick {l : Launch} {D : va_G} {b0 : Nat} {tA : Nat → ClassId} {sa sv : Nat → Nat} {K : zKt} {I : zI} {Qp : zI → Option AV → Prop} {Xp : String → zI → Prop} {F9 : zI} {x f : Nat} {t : Nat → Nat} {er : Int32} {S : zS} {U : List zS} {k9 : Nat}
    (hC : zCl F9 I x t f er S U) (h1 : 1 ≤ k9) (h2 : k9 ≤ 99) (k1 : ∀ J : zI, zCl F9 J x t f er (qTicks S k9) (qPush S U) → Qp J (some (vi (sX (qTicks S k9) 9 + sX (qTicks S k9) 10 - (sX S 9 + sX S 10))))) :
    zC l D b0 tA sa sv K yX7_tick (.code yX7_tick cX7_tick 3 (some .int)) zrm_X7_tick [vr (x) 7, vi ((nI k9))] I Qp Xp := by
  have hR := hC.2.2.1
  have hW := hC.2.2.2.1
  have hg6 := hW.ng.1
  have hc12 := hW.nc.1
  have hf5 := hC.1.2.1
  refine zC_of (by decide +kernel) (Nat.le_of_ble_eq_true rfl) ?_
  intro p e s m args below meth c X hnt
  have X : zX p l e zrm_X7_tick s m args below meth c RX7 cX7_tick 3 (some .int) D b0 tA sa sv := X
  refine zr_lv (lv2 := [some (vr (x) 7), some (vi ((nI k9))), none]) rfl ?_
  refine zr_iload1 X dX7_tick_0 ?_
  refine zr_bipush (v := (99 : Int32)) X dX7_tick_1 (by decide) ?_
  refine zr_callS2 (rm9 := zrm_X7_requireTicks) X hnt zm_X7_170 (by decide) (by decide) (by decide) (Nat.le_of_ble_eq_true rfl) dX7_tick_3 ?_
  refine zo99_X7_requireTicks h1 h2 ?_
  refine zr_aload0 X dX7_tick_6 ?_
  refine zr_getR X zf_X7_39 rfl (by decide) (by decide) dX7_tick_7 ?_
  refine zr_aload0 X dX7_tick_10 ?_
  refine zr_getR X zf_X7_26 rfl (by decide) (by decide) dX7_tick_11 ?_
  refine zr_callV1 (rm9 := zrm_X2_remember) X hnt zm_X7_72 (by decide) (by decide) (by decide) (Nat.le_of_ble_eq_true rfl) dX7_tick_14 ?_
  refine zp_X2_remember (S := S) (U := U) hC.2.2.2.2.2.1 hC.2.2.1 ?_
  intro J1 hg2 hG3; have hC4 : zCl F9 J1 x t f er S (qPush S U) := hC.past hg2 hG3 (qPush_wf hW hC.2.2.2.2.2.2)
  refine zr_aload0 X dX7_tick_17 ?_
  refine zr_getR X zf_X7_26 rfl (by decide) (by decide) dX7_tick_18 ?_
  refine zr_getI X zf_X7_197 rfl dX7_tick_21 ?_
  refine zr_eq (x2 := (sX S 9)) (hC4.2.2.1.1 9 (by decide) (by decide)) ?_
  refine zr_aload0 X dX7_tick_24 ?_
  refine zr_getR X zf_X7_26 rfl (by decide) (by decide) dX7_tick_25 ?_
  refine zr_getI X zf_X7_200 rfl dX7_tick_28 ?_
  refine zr_eq (x2 := (sX S 10)) (hC4.2.2.1.1 10 (by decide) (by decide)) ?_
  refine zr_iadd X dX7_tick_31 ?_
  refine zr_istore2 X (by decide) rfl dX7_tick_32 ?_
  refine zr_aload0 X dX7_tick_33 ?_
  refine zr_getR X zf_X7_26 rfl (by decide) (by decide) dX7_tick_34 ?_
  refine zr_iload1 X dX7_tick_37 ?_
  refine zr_callV1 (rm9 := zrm_X5_passTicks) X hnt zm_X7_164 (by decide) (by decide) (by decide) (Nat.le_of_ble_eq_true rfl) dX7_tick_38 ?_
  refine zp_X5_passTicks hC4.2.2.1 hW (by omega) ?_
  intro J5 hg6 hR7; have hW8 : zWf (qTicks S k9) := zWf_ticks hW _
  refine zr_aload0 X dX7_tick_41 ?_
  refine zr_getR X zf_X7_26 rfl (by decide) (by decide) dX7_tick_42 ?_
  refine zr_getI X zf_X7_197 rfl dX7_tick_45 ?_
  refine zr_eq (x2 := (sX (qTicks S k9) 9)) (hR7.1 9 (by decide) (by decide)) ?_
  refine zr_aload0 X dX7_tick_48 ?_
  refine zr_getR X zf_X7_26 rfl (by decide) (by decide) dX7_tick_49 ?_
  refine zr_getI X zf_X7_200 rfl dX7_tick_52 ?_
  refine zr_eq (x2 := (sX (qTicks S k9) 10)) (hR7.1 10 (by decide) (by decide)) ?_
  refine zr_iadd X dX7_tick_55 ?_
  refine zr_iload2 X dX7_tick_56 ?_
  refine zr_isub X dX7_tick_57 ?_
  refine zr_iret X (by decide) (by decide) dX7_tick_58 ?_
  exact k1 _ (hC4.now (show zag J1 J5 (x + 4) 45 by repeat (first | exact zag.rf | assumption | refine zag.put ?_ (by omega) (by omega) | refine zag.tr ?_ (by assumption) (by omega) (by omega))) hR7 (hW8))
set_option maxRecDepth 20000 in
theorem zx_X7_tick {l : Launch} {D : va_G} {b0 : Nat} {tA : Nat → ClassId} {sa sv : Nat → Nat} {K : zKt} {I : zI} {Qp : zI → Option AV → Prop} {Xp : String → zI → Prop} {F9 : zI} {x f : Nat} {t : Nat → Nat} {er : Int32} {S : zS} {U : List zS} {v : Int32}
    (hC : zCl F9 I x t f er S U) (hb : vIdx v 100 = none ∨ v = 0) (kx : Xp "java/lang/IllegalArgumentException" I) :
    zC l D b0 tA sa sv K yX7_tick (.code yX7_tick cX7_tick 3 (some .int)) zrm_X7_tick [vr (x) 7, vi (v)] I Qp Xp := by
  have hR := hC.2.2.1
  have hW := hC.2.2.2.1
  have hg6 := hW.ng.1
  have hc12 := hW.nc.1
  have hf5 := hC.1.2.1
  refine zC_of (by decide +kernel) (Nat.le_of_ble_eq_true rfl) ?_
  intro p e s m args below meth c X hnt
  have X : zX p l e zrm_X7_tick s m args below meth c RX7 cX7_tick 3 (some .int) D b0 tA sa sv := X
  refine zr_lv (lv2 := [some (vr (x) 7), some (vi (v)), none]) rfl ?_
  refine zr_iload1 X dX7_tick_0 ?_
  refine zr_bipush (v := (99 : Int32)) X dX7_tick_1 (by decide) ?_
  refine zr_callS2 (rm9 := zrm_X7_requireTicks) X hnt zm_X7_170 (by decide) (by decide) (by decide) (Nat.le_of_ble_eq_true rfl) dX7_tick_3 ?_
  exact zx99_X7_requireTicks hb kx
def rTick (S : zS) (v : Int32) : Nat × Int32 := match vTick v 100 with | none => (1, 0) | some k => (0, sX (qTicks S k) 9 + sX (qTicks S k) 10 - (sX S 9 + sX S 10))
def sTick (S : zS) (v : Int32) : zS := match vTick v 100 with | none => S | some k => qTicks S k
theorem zq_X7_tick {l : Launch} {D : va_G} {b0 : Nat} {tA : Nat → ClassId} {sa sv : Nat → Nat} {K : zKt} {I : zI} {Qp : zI → Option AV → Prop} {Xp : String → zI → Prop} {F9 : zI} {x f : Nat} {t : Nat → Nat} {er : Int32} {S : zS} {U : List zS} {v : Int32}
    (hC : zCl F9 I x t f er S U) (k0 : (rTick S v).1 = 0 → ∀ J : zI, zCl F9 J x t f er (sTick S v) (qPush S U) → Qp J (some (vi (rTick S v).2))) (kx1 : (rTick S v).1 = 1 → Xp "java/lang/IllegalArgumentException" I) :
    zC l D b0 tA sa sv K yX7_tick (.code yX7_tick cX7_tick 3 (some .int)) zrm_X7_tick [vr (x) 7, vi (v)] I Qp Xp := by
  unfold rTick at k0 kx1
  unfold sTick at k0
  cases e1 : vTick v 100 with
  | none => rw [e1] at kx1; exact zx_X7_tick hC (vTick_none e1) (kx1 rfl)
  | some k =>
    rw [e1] at k0
    obtain ⟨h1, h2, rfl⟩ := vTick_some e1
    exact zo_X7_tick hC h1 (by omega) (k0 rfl)
abbrev zrm_X7_key : Room := { frames := 8, cells := 1, slots := 6, locals := 120 }
set_option maxRecDepth 20000 in
theorem zo_X7_key {l : Launch} {D : va_G} {b0 : Nat} {tA : Nat → ClassId} {sa sv : Nat → Nat} {K : zKt} {I : zI} {Qp : zI → Option AV → Prop} {Xp : String → zI → Prop} {F9 : zI} {x f : Nat} {t : Nat → Nat} {er : Int32} {S : zS} {U : List zS} {k9 : Nat}
    (hC : zCl F9 I x t f er S U) (hk : k9 < 3) (k1 : ∀ J : zI, zCl F9 J x t f er (qKey S k9) (qPush S U) → Qp J (some (vi (zkeys (qKey S k9))))) :
    zC l D b0 tA sa sv K yX7_key (.code yX7_key cX7_key 2 (some .int)) zrm_X7_key [vr (x) 7, vi ((nI k9))] I Qp Xp := by
  have hR := hC.2.2.1
  have hW := hC.2.2.2.1
  have hg6 := hW.ng.1
  have hc12 := hW.nc.1
  have hf5 := hC.1.2.1
  refine zC_of (by decide +kernel) (Nat.le_of_ble_eq_true rfl) ?_
  intro p e s m args below meth c X hnt
  have X : zX p l e zrm_X7_key s m args below meth c RX7 cX7_key 2 (some .int) D b0 tA sa sv := X
  refine zr_lv (lv2 := [some (vr (x) 7), some (vi ((nI k9)))]) rfl ?_
  refine zr_iload1 X dX7_key_0 ?_
  refine zr_nif_lt X (k9) (tgt := 9) (by omega) dX7_key_1 (by decide) (fun h => h.elim) (fun _ => ?_)
  refine zr_iload1 X dX7_key_4 ?_
  refine zr_iconst (v := (3 : Int32)) X dX7_key_5 (by decide) ?_
  refine zr_nicmp_lt X (k9) (3) (tgt := 20) (by omega) (by omega) dX7_key_6 (by decide) (fun h2 => ?_) (fun h2 => ?_)
  · skip
    refine zr_aload0 X dX7_key_20 ?_
    refine zr_getR X zf_X7_39 rfl (by decide) (by decide) dX7_key_21 ?_
    refine zr_aload0 X dX7_key_24 ?_
    refine zr_getR X zf_X7_26 rfl (by decide) (by decide) dX7_key_25 ?_
    refine zr_callV1 (rm9 := zrm_X2_remember) X hnt zm_X7_72 (by decide) (by decide) (by decide) (Nat.le_of_ble_eq_true rfl) dX7_key_28 ?_
    refine zp_X2_remember (S := S) (U := U) hC.2.2.2.2.2.1 hC.2.2.1 ?_
    intro J9 hg10 hG11; have hC12 : zCl F9 J9 x t f er S (qPush S U) := hC.past hg10 hG11 (qPush_wf hW hC.2.2.2.2.2.2)
    refine zr_aload0 X dX7_key_31 ?_
    refine zr_getR X zf_X7_26 rfl (by decide) (by decide) dX7_key_32 ?_
    refine zr_iload1 X dX7_key_35 ?_
    refine zr_callV1 (rm9 := zrm_X5_turnKey) X hnt zm_X7_258 (by decide) (by decide) (by decide) (Nat.le_of_ble_eq_true rfl) dX7_key_36 ?_
    refine zp_X5_turnKey hC12.2.2.1 hW.keys (by omega) ?_
    intro J13 hg14 hR15; have hW16 : zWf (qKey S k9) := zWf_key hW (by omega)
    refine zr_aload0 X dX7_key_39 ?_
    refine zr_getR X zf_X7_26 rfl (by decide) (by decide) dX7_key_40 ?_
    refine zr_callV0 (rm9 := zrm_X5_turnedKeys) X hnt zm_X7_261 (by decide) (by decide) (by decide) (Nat.le_of_ble_eq_true rfl) dX7_key_43 ?_
    refine zp_X5_turnedKeys hR15 hW16.keys ?_
    refine zr_iret X (by decide) (by decide) dX7_key_46 ?_
    exact k1 _ (hC12.now (show zag J9 J13 (x + 4) 45 by repeat (first | exact zag.rf | assumption | refine zag.put ?_ (by omega) (by omega) | refine zag.tr ?_ (by assumption) (by omega) (by omega))) hR15 (hW16))
  · skip
    refine zr_throwW (i := 34) X hnt zth_iae rfl dX7_key_9 dX7_key_12 dX7_key_13 dX7_key_16 dX7_key_19 ⟨by decide, by decide⟩ (Nat.le_of_ble_eq_true rfl) (by decide) (by decide) ?_
    exfalso; omega
set_option maxRecDepth 20000 in
theorem zx_X7_key {l : Launch} {D : va_G} {b0 : Nat} {tA : Nat → ClassId} {sa sv : Nat → Nat} {K : zKt} {I : zI} {Qp : zI → Option AV → Prop} {Xp : String → zI → Prop} {F9 : zI} {x f : Nat} {t : Nat → Nat} {er : Int32} {S : zS} {U : List zS} {v : Int32}
    (hC : zCl F9 I x t f er S U) (hb : vIdx v (3) = none) (kx : Xp "java/lang/IllegalArgumentException" I) :
    zC l D b0 tA sa sv K yX7_key (.code yX7_key cX7_key 2 (some .int)) zrm_X7_key [vr (x) 7, vi (v)] I Qp Xp := by
  have hR := hC.2.2.1
  have hW := hC.2.2.2.1
  have hg6 := hW.ng.1
  have hc12 := hW.nc.1
  have hf5 := hC.1.2.1
  refine zC_of (by decide +kernel) (Nat.le_of_ble_eq_true rfl) ?_
  intro p e s m args below meth c X hnt
  have X : zX p l e zrm_X7_key s m args below meth c RX7 cX7_key 2 (some .int) D b0 tA sa sv := X
  refine zr_lv (lv2 := [some (vr (x) 7), some (vi (v))]) rfl ?_
  refine zr_iload1 X dX7_key_0 ?_
  refine zr_if_lt (tgt := 9) X dX7_key_1 (by decide) (fun h1 => ?_) (fun h1 => ?_)
  · skip
    refine zr_throwW (i := 34) X hnt zth_iae rfl dX7_key_9 dX7_key_12 dX7_key_13 dX7_key_16 dX7_key_19 ⟨by decide, by decide⟩ (Nat.le_of_ble_eq_true rfl) (by decide) (by decide) ?_
    exact kx
  · skip
    refine zr_iload1 X dX7_key_4 ?_
    refine zr_iconst (v := (3 : Int32)) X dX7_key_5 (by decide) ?_
    refine zr_icmp_lt (tgt := 20) X dX7_key_6 (by decide) (fun h2 => ?_) (fun h2 => ?_)
    · skip
      exact absurd hb (vIdx_in rfl (by assumption) (by assumption))
    · skip
      refine zr_throwW (i := 34) X hnt zth_iae rfl dX7_key_9 dX7_key_12 dX7_key_13 dX7_key_16 dX7_key_19 ⟨by decide, by decide⟩ (Nat.le_of_ble_eq_true rfl) (by decide) (by decide) ?_
      exact kx
def rKey (S : zS) (v : Int32) : Nat × Int32 := match vIdx v 3 with | none => (1, 0) | some k => (0, zkeys (qKey S k))
def sKey (S : zS) (v : Int32) : zS := match vIdx v 3 with | none => S | some k => qKey S k
theorem zq_X7_key {l : Launch} {D : va_G} {b0 : Nat} {tA : Nat → ClassId} {sa sv : Nat → Nat} {K : zKt} {I : zI} {Qp : zI → Option AV → Prop} {Xp : String → zI → Prop} {F9 : zI} {x f : Nat} {t : Nat → Nat} {er : Int32} {S : zS} {U : List zS} {v : Int32}
    (hC : zCl F9 I x t f er S U) (k0 : (rKey S v).1 = 0 → ∀ J : zI, zCl F9 J x t f er (sKey S v) (qPush S U) → Qp J (some (vi (rKey S v).2))) (kx1 : (rKey S v).1 = 1 → Xp "java/lang/IllegalArgumentException" I) :
    zC l D b0 tA sa sv K yX7_key (.code yX7_key cX7_key 2 (some .int)) zrm_X7_key [vr (x) 7, vi (v)] I Qp Xp := by
  unfold rKey at k0 kx1
  unfold sKey at k0
  cases e1 : vIdx v 3 with
  | none => rw [e1] at kx1; exact zx_X7_key hC e1 (kx1 rfl)
  | some k =>
    rw [e1] at k0
    obtain ⟨h1, rfl⟩ := vIdx_some e1
    exact zo_X7_key hC h1 (k0 rfl)
abbrev zrm_X7_list : Room := { frames := 9, cells := 1, slots := 6, locals := 141 }
set_option maxRecDepth 20000 in
theorem zo_X7_list {l : Launch} {D : va_G} {b0 : Nat} {tA : Nat → ClassId} {sa sv : Nat → Nat} {K : zKt} {I : zI} {Qp : zI → Option AV → Prop} {Xp : String → zI → Prop} {F9 : zI} {x f : Nat} {t : Nat → Nat} {er : Int32} {S : zS} {U : List zS} {c9 : Nat} {b : Int32}
    (hC : zCl F9 I x t f er S U) (hc : c9 < znc S) (hb : b = 0 ∨ b = 1) (k1 : ∀ J : zI, zCl F9 J x t f er (tC S c9 2 b) (qPush S U) → Qp J (some (vi (nI (qListed (tC S c9 2 b)))))) :
    zC l D b0 tA sa sv K yX7_list (.code yX7_list cX7_list 3 (some .int)) zrm_X7_list [vr (x) 7, vi ((nI c9)), vi (b)] I Qp Xp := by
  have hR := hC.2.2.1
  have hW := hC.2.2.2.1
  have hg6 := hW.ng.1
  have hc12 := hW.nc.1
  have hf5 := hC.1.2.1
  refine zC_of (by decide +kernel) (Nat.le_of_ble_eq_true rfl) ?_
  intro p e s m args below meth c X hnt
  have X : zX p l e zrm_X7_list s m args below meth c RX7 cX7_list 3 (some .int) D b0 tA sa sv := X
  refine zr_lv (lv2 := [some (vr (x) 7), some (vi ((nI c9))), some (vi (b))]) rfl ?_
  refine zr_aload0 X dX7_list_0 ?_
  refine zr_iload1 X dX7_list_1 ?_
  refine zr_callV1 (rm9 := zrm_X7_requireCard) X hnt zm_X7_107 (by decide) (by decide) (by decide) (Nat.le_of_ble_eq_true rfl) dX7_list_2 ?_
  refine zo_X7_requireCard hC hc ?_
  refine zr_aload0 X dX7_list_5 ?_
  refine zr_getR X zf_X7_39 rfl (by decide) (by decide) dX7_list_6 ?_
  refine zr_aload0 X dX7_list_9 ?_
  refine zr_getR X zf_X7_26 rfl (by decide) (by decide) dX7_list_10 ?_
  refine zr_callV1 (rm9 := zrm_X2_remember) X hnt zm_X7_72 (by decide) (by decide) (by decide) (Nat.le_of_ble_eq_true rfl) dX7_list_13 ?_
  refine zp_X2_remember (S := S) (U := U) hC.2.2.2.2.2.1 hC.2.2.1 ?_
  intro J17 hg18 hG19; have hC20 : zCl F9 J17 x t f er S (qPush S U) := hC.past hg18 hG19 (qPush_wf hW hC.2.2.2.2.2.2)
  refine zr_aload0 X dX7_list_16 ?_
  refine zr_getR X zf_X7_26 rfl (by decide) (by decide) dX7_list_17 ?_
  refine zr_getR X zf_X7_135 rfl (by decide) (by decide) dX7_list_20 ?_
  refine zr_iload1 X dX7_list_23 ?_
  refine zr_aaldN X rfl rfl (by decide) (show _ < 12 from (by first | assumption | omega)) dX7_list_24 ?_
  refine zr_iload2 X dX7_list_25 ?_
  refine zr_putI X zf_X7_232 rfl (Or.inr (by first | decide | assumption | (simp; done))) dX7_list_26 ?_
  have hR_1 : zRw _ (x + 4) (tC S c9 2 b) := zRw_C hC20.2.2.1 (show c9 < 12 by omega) (j := 2) (v := b) (by decide) rfl
  refine zr_aload0 X dX7_list_29 ?_
  refine zr_getR X zf_X7_26 rfl (by decide) (by decide) dX7_list_30 ?_
  refine zr_callV0 (rm9 := zrm_X5_listedCards) X hnt zm_X7_236 (by decide) (by decide) (by decide) (Nat.le_of_ble_eq_true rfl) dX7_list_33 ?_
  refine zp_X5_listedCards hR_1 (zWf_list hW hc hb) ?_
  refine zr_iret X (by decide) (by decide) dX7_list_36 ?_
  exact k1 _ (hC20.now (show zag J17 (zput J17 (x + 4 + 2 + 31 + 1 * c9) 3 (b)) (x + 4) 45 by repeat (first | exact zag.rf | assumption | refine zag.put ?_ (by omega) (by omega) | refine zag.tr ?_ (by assumption) (by omega) (by omega))) hR_1 (zWf_list hW hc hb))
set_option maxRecDepth 20000 in
theorem zx_X7_list {l : Launch} {D : va_G} {b0 : Nat} {tA : Nat → ClassId} {sa sv : Nat → Nat} {K : zKt} {I : zI} {Qp : zI → Option AV → Prop} {Xp : String → zI → Prop} {F9 : zI} {x f : Nat} {t : Nat → Nat} {er : Int32} {S : zS} {U : List zS} {u b : Int32}
    (hC : zCl F9 I x t f er S U) (hb : vIdx u (znc S) = none) (kx : Xp "java/lang/IndexOutOfBoundsException" I) :
    zC l D b0 tA sa sv K yX7_list (.code yX7_list cX7_list 3 (some .int)) zrm_X7_list [vr (x) 7, vi (u), vi (b)] I Qp Xp := by
  have hR := hC.2.2.1
  have hW := hC.2.2.2.1
  have hg6 := hW.ng.1
  have hc12 := hW.nc.1
  have hf5 := hC.1.2.1
  refine zC_of (by decide +kernel) (Nat.le_of_ble_eq_true rfl) ?_
  intro p e s m args below meth c X hnt
  have X : zX p l e zrm_X7_list s m args below meth c RX7 cX7_list 3 (some .int) D b0 tA sa sv := X
  refine zr_lv (lv2 := [some (vr (x) 7), some (vi (u)), some (vi (b))]) rfl ?_
  refine zr_aload0 X dX7_list_0 ?_
  refine zr_iload1 X dX7_list_1 ?_
  refine zr_callV1 (rm9 := zrm_X7_requireCard) X hnt zm_X7_107 (by decide) (by decide) (by decide) (Nat.le_of_ble_eq_true rfl) dX7_list_2 ?_
  exact zx_X7_requireCard hC hb kx
def rList (S : zS) (u b : Int32) : Nat × Int32 := match vIdx u (znc S) with | none => (1, 0) | some c => (0, nI (qListed (tC S c 2 b)))
def sList (S : zS) (u b : Int32) : zS := match vIdx u (znc S) with | none => S | some c => tC S c 2 b
theorem zq_X7_list {l : Launch} {D : va_G} {b0 : Nat} {tA : Nat → ClassId} {sa sv : Nat → Nat} {K : zKt} {I : zI} {Qp : zI → Option AV → Prop} {Xp : String → zI → Prop} {F9 : zI} {x f : Nat} {t : Nat → Nat} {er : Int32} {S : zS} {U : List zS} {u b : Int32}
    (hC : zCl F9 I x t f er S U) (hb : b = 0 ∨ b = 1) (k0 : (rList S u b).1 = 0 → ∀ J : zI, zCl F9 J x t f er (sList S u b) (qPush S U) → Qp J (some (vi (rList S u b).2))) (kx1 : (rList S u b).1 = 1 → Xp "java/lang/IndexOutOfBoundsException" I) :
    zC l D b0 tA sa sv K yX7_list (.code yX7_list cX7_list 3 (some .int)) zrm_X7_list [vr (x) 7, vi (u), vi (b)] I Qp Xp := by
  unfold rList at k0 kx1
  unfold sList at k0
  cases e1 : vIdx u (znc S) with
  | none => rw [e1] at kx1; exact zx_X7_list hC e1 (kx1 rfl)
  | some k =>
    rw [e1] at k0
    obtain ⟨h1, rfl⟩ := vIdx_some e1
    exact zo_X7_list hC h1 hb (k0 rfl)
abbrev zrm_X7_charge : Room := { frames := 9, cells := 2, slots := 12, locals := 141 }
set_option maxRecDepth 20000 in
theorem zo_X7_charge {l : Launch} {D : va_G} {b0 : Nat} {tA : Nat → ClassId} {sa sv : Nat → Nat} {K : zKt} {I : zI} {Qp : zI → Option AV → Prop} {Xp : String → zI → Prop} {F9 : zI} {x f : Nat} {t : Nat → Nat} {er : Int32} {S : zS} {U : List zS} {c9 k9 : Nat}
    (hC : zCl F9 I x t f er S U) (hc : c9 < znc S) (h1 : 1 ≤ k9) (h2 : k9 ≤ 99) (k3 : ¬ (99 : Int32) < sC S c9 0 + nI k9) (k1 : ∀ J : zI, zCl F9 J x t f er (tC S c9 0 (sC S c9 0 + nI k9)) (qPush S U) → Qp J (some (vi (sC S c9 0 + nI k9)))) :
    zC l D b0 tA sa sv K yX7_charge (.code yX7_charge cX7_charge 3 (some .int)) zrm_X7_charge [vr (x) 7, vi ((nI c9)), vi ((nI k9))] I Qp Xp := by
  have hR := hC.2.2.1
  have hW := hC.2.2.2.1
  have hg6 := hW.ng.1
  have hc12 := hW.nc.1
  have hf5 := hC.1.2.1
  refine zC_of (by decide +kernel) (Nat.le_of_ble_eq_true rfl) ?_
  intro p e s m args below meth c X hnt
  have X : zX p l e zrm_X7_charge s m args below meth c RX7 cX7_charge 3 (some .int) D b0 tA sa sv := X
  refine zr_lv (lv2 := [some (vr (x) 7), some (vi ((nI c9))), some (vi ((nI k9)))]) rfl ?_
  refine zr_aload0 X dX7_charge_0 ?_
  refine zr_iload1 X dX7_charge_1 ?_
  refine zr_callV1 (rm9 := zrm_X7_requireCard) X hnt zm_X7_107 (by decide) (by decide) (by decide) (Nat.le_of_ble_eq_true rfl) dX7_charge_2 ?_
  refine zo_X7_requireCard hC hc ?_
  refine zr_iload2 X dX7_charge_5 ?_
  refine zr_iconst (v := (1 : Int32)) X dX7_charge_6 (by decide) ?_
  refine zr_nicmp_lt X (k9) (1) (tgt := 16) (by omega) (by omega) dX7_charge_7 (by decide) (fun h1 => ?_) (fun h1 => ?_)
  · skip
    refine zr_throwS (i := 30) X hnt zth_iae rfl dX7_charge_16 dX7_charge_19 dX7_charge_20 dX7_charge_22 dX7_charge_25 ⟨by decide, by decide⟩ (Nat.le_of_ble_eq_true rfl) (by decide) (by decide) ?_
    exfalso; first | omega | exact k3 (Int32.not_le.mp (by assumption))
  · skip
    refine zr_iload2 X dX7_charge_10 ?_
    refine zr_bipush (v := (99 : Int32)) X dX7_charge_11 (by decide) ?_
    refine zr_nicmp_le X (k9) (99) (tgt := 26) (by omega) (by omega) dX7_charge_13 (by decide) (fun h2 => ?_) (fun h2 => ?_)
    · skip
      refine zr_aload0 X dX7_charge_26 ?_
      refine zr_getR X zf_X7_26 rfl (by decide) (by decide) dX7_charge_27 ?_
      refine zr_getR X zf_X7_135 rfl (by decide) (by decide) dX7_charge_30 ?_
      refine zr_iload1 X dX7_charge_33 ?_
      refine zr_aaldN X rfl rfl (by decide) (show _ < 12 from (by first | assumption | omega)) dX7_charge_34 ?_
      refine zr_getI X zf_X7_241 rfl dX7_charge_35 ?_
      refine zr_eq (x2 := (sC S c9 0)) ((hR.2.2.2 c9 (by omega)).2.1) ?_
      refine zr_iload2 X dX7_charge_38 ?_
      refine zr_iadd X dX7_charge_39 ?_
      refine zr_bipush (v := (99 : Int32)) X dX7_charge_40 (by decide) ?_
      refine zr_icmp_le (tgt := 55) X dX7_charge_42 (by decide) (fun h3 => ?_) (fun h3 => ?_)
      · skip
        refine zr_aload0 X dX7_charge_55 ?_
        refine zr_getR X zf_X7_39 rfl (by decide) (by decide) dX7_charge_56 ?_
        refine zr_aload0 X dX7_charge_59 ?_
        refine zr_getR X zf_X7_26 rfl (by decide) (by decide) dX7_charge_60 ?_
        refine zr_callV1 (rm9 := zrm_X2_remember) X hnt zm_X7_72 (by decide) (by decide) (by decide) (Nat.le_of_ble_eq_true rfl) dX7_charge_63 ?_
        refine zp_X2_remember (S := S) (U := U) hC.2.2.2.2.2.1 hC.2.2.1 ?_
        intro J21 hg22 hG23; have hC24 : zCl F9 J21 x t f er S (qPush S U) := hC.past hg22 hG23 (qPush_wf hW hC.2.2.2.2.2.2)
        refine zr_aload0 X dX7_charge_66 ?_
        refine zr_getR X zf_X7_26 rfl (by decide) (by decide) dX7_charge_67 ?_
        refine zr_getR X zf_X7_135 rfl (by decide) (by decide) dX7_charge_70 ?_
        refine zr_iload1 X dX7_charge_73 ?_
        refine zr_aaldN X rfl rfl (by decide) (show _ < 12 from (by first | assumption | omega)) dX7_charge_74 ?_
        refine zr_dupR X dX7_charge_75 ?_
        refine zr_getI X zf_X7_241 rfl dX7_charge_76 ?_
        refine zr_eq (x2 := (sC S c9 0)) ((hC24.2.2.1.2.2.2 c9 (by omega)).2.1) ?_
        refine zr_iload2 X dX7_charge_79 ?_
        refine zr_iadd X dX7_charge_80 ?_
        refine zr_putI X zf_X7_241 rfl (Or.inl rfl) dX7_charge_81 ?_
        have hR_1 : zRw _ (x + 4) (tC S c9 0 ((sC S c9 0) + (nI k9))) := zRw_C hC24.2.2.1 (show c9 < 12 by omega) (j := 0) (v := ((sC S c9 0) + (nI k9))) (by decide) rfl
        refine zr_aload0 X dX7_charge_84 ?_
        refine zr_getR X zf_X7_26 rfl (by decide) (by decide) dX7_charge_85 ?_
        refine zr_getR X zf_X7_135 rfl (by decide) (by decide) dX7_charge_88 ?_
        refine zr_iload1 X dX7_charge_91 ?_
        refine zr_aaldN X rfl rfl (by decide) (show _ < 12 from (by first | assumption | omega)) dX7_charge_92 ?_
        refine zr_getI X zf_X7_241 rfl dX7_charge_93 ?_
        refine zr_eq (x2 := ((sC S c9 0) + (nI k9))) (zput_eq) ?_
        refine zr_iret X (by decide) (by decide) dX7_charge_96 ?_
        exact k1 _ (hC24.now (show zag J21 (zput J21 (x + 4 + 2 + 31 + 1 * c9) 1 (((sC S c9 0) + (nI k9)))) (x + 4) 45 by repeat (first | exact zag.rf | assumption | refine zag.put ?_ (by omega) (by omega) | refine zag.tr ?_ (by assumption) (by omega) (by omega))) hR_1 (zWf_charge hW hc))
      · skip
        refine zr_throwS (i := 31) X hnt zth_ise rfl dX7_charge_45 dX7_charge_48 dX7_charge_49 dX7_charge_51 dX7_charge_54 ⟨by decide, by decide⟩ (Nat.le_of_ble_eq_true rfl) (by decide) (by decide) ?_
        exfalso; first | omega | exact k3 (Int32.not_le.mp (by assumption))
    · skip
      refine zr_throwS (i := 30) X hnt zth_iae rfl dX7_charge_16 dX7_charge_19 dX7_charge_20 dX7_charge_22 dX7_charge_25 ⟨by decide, by decide⟩ (Nat.le_of_ble_eq_true rfl) (by decide) (by decide) ?_
      exfalso; first | omega | exact k3 (Int32.not_le.mp (by assumption))
set_option maxRecDepth 20000 in
theorem zx3_X7_charge {l : Launch} {D : va_G} {b0 : Nat} {tA : Nat → ClassId} {sa sv : Nat → Nat} {K : zKt} {I : zI} {Qp : zI → Option AV → Prop} {Xp : String → zI → Prop} {F9 : zI} {x f : Nat} {t : Nat → Nat} {er : Int32} {S : zS} {U : List zS} {c9 k9 : Nat}
    (hC : zCl F9 I x t f er S U) (hc : c9 < znc S) (h1 : 1 ≤ k9) (h2 : k9 ≤ 99) (k3 : (99 : Int32) < sC S c9 0 + nI k9) (kx : Xp "java/lang/IllegalStateException" I) :
    zC l D b0 tA sa sv K yX7_charge (.code yX7_charge cX7_charge 3 (some .int)) zrm_X7_charge [vr (x) 7, vi ((nI c9)), vi ((nI k9))] I Qp Xp := by
  have hR := hC.2.2.1
  have hW := hC.2.2.2.1
  have hg6 := hW.ng.1
  have hc12 := hW.nc.1
  have hf5 := hC.1.2.1
  refine zC_of (by decide +kernel) (Nat.le_of_ble_eq_true rfl) ?_
  intro p e s m args below meth c X hnt
  have X : zX p l e zrm_X7_charge s m args below meth c RX7 cX7_charge 3 (some .int) D b0 tA sa sv := X
  refine zr_lv (lv2 := [some (vr (x) 7), some (vi ((nI c9))), some (vi ((nI k9)))]) rfl ?_
  refine zr_aload0 X dX7_charge_0 ?_
  refine zr_iload1 X dX7_charge_1 ?_
  refine zr_callV1 (rm9 := zrm_X7_requireCard) X hnt zm_X7_107 (by decide) (by decide) (by decide) (Nat.le_of_ble_eq_true rfl) dX7_charge_2 ?_
  refine zo_X7_requireCard hC hc ?_
  refine zr_iload2 X dX7_charge_5 ?_
  refine zr_iconst (v := (1 : Int32)) X dX7_charge_6 (by decide) ?_
  refine zr_nicmp_lt X (k9) (1) (tgt := 16) (by omega) (by omega) dX7_charge_7 (by decide) (fun h1 => ?_) (fun h1 => ?_)
  · skip
    refine zr_throwS (i := 30) X hnt zth_iae rfl dX7_charge_16 dX7_charge_19 dX7_charge_20 dX7_charge_22 dX7_charge_25 ⟨by decide, by decide⟩ (Nat.le_of_ble_eq_true rfl) (by decide) (by decide) ?_
    exfalso; omega
  · skip
    refine zr_iload2 X dX7_charge_10 ?_
    refine zr_bipush (v := (99 : Int32)) X dX7_charge_11 (by decide) ?_
    refine zr_nicmp_le X (k9) (99) (tgt := 26) (by omega) (by omega) dX7_charge_13 (by decide) (fun h2 => ?_) (fun h2 => ?_)
    · skip
      refine zr_aload0 X dX7_charge_26 ?_
      refine zr_getR X zf_X7_26 rfl (by decide) (by decide) dX7_charge_27 ?_
      refine zr_getR X zf_X7_135 rfl (by decide) (by decide) dX7_charge_30 ?_
      refine zr_iload1 X dX7_charge_33 ?_
      refine zr_aaldN X rfl rfl (by decide) (show _ < 12 from (by first | assumption | omega)) dX7_charge_34 ?_
      refine zr_getI X zf_X7_241 rfl dX7_charge_35 ?_
      refine zr_eq (x2 := (sC S c9 0)) ((hR.2.2.2 c9 (by omega)).2.1) ?_
      refine zr_iload2 X dX7_charge_38 ?_
      refine zr_iadd X dX7_charge_39 ?_
      refine zr_bipush (v := (99 : Int32)) X dX7_charge_40 (by decide) ?_
      refine zr_icmp_le (tgt := 55) X dX7_charge_42 (by decide) (fun h3 => ?_) (fun h3 => ?_)
      · skip
        exact absurd k3 (Int32.not_lt.mpr (by assumption))
      · skip
        refine zr_throwS (i := 31) X hnt zth_ise rfl dX7_charge_45 dX7_charge_48 dX7_charge_49 dX7_charge_51 dX7_charge_54 ⟨by decide, by decide⟩ (Nat.le_of_ble_eq_true rfl) (by decide) (by decide) ?_
        exact kx
    · skip
      refine zr_throwS (i := 30) X hnt zth_iae rfl dX7_charge_16 dX7_charge_19 dX7_charge_20 dX7_charge_22 dX7_charge_25 ⟨by decide, by decide⟩ (Nat.le_of_ble_eq_true rfl) (by decide) (by decide) ?_
      exfalso; omega
set_option maxRecDepth 20000 in
theorem zx2_X7_charge {l : Launch} {D : va_G} {b0 : Nat} {tA : Nat → ClassId} {sa sv : Nat → Nat} {K : zKt} {I : zI} {Qp : zI → Option AV → Prop} {Xp : String → zI → Prop} {F9 : zI} {x f : Nat} {t : Nat → Nat} {er : Int32} {S : zS} {U : List zS} {c9 : Nat} {v : Int32}
    (hC : zCl F9 I x t f er S U) (hc : c9 < znc S) (hb : vIdx v 100 = none ∨ v = 0) (kx : Xp "java/lang/IllegalArgumentException" I) :
    zC l D b0 tA sa sv K yX7_charge (.code yX7_charge cX7_charge 3 (some .int)) zrm_X7_charge [vr (x) 7, vi ((nI c9)), vi (v)] I Qp Xp := by
  have hR := hC.2.2.1
  have hW := hC.2.2.2.1
  have hg6 := hW.ng.1
  have hc12 := hW.nc.1
  have hf5 := hC.1.2.1
  refine zC_of (by decide +kernel) (Nat.le_of_ble_eq_true rfl) ?_
  intro p e s m args below meth c X hnt
  have X : zX p l e zrm_X7_charge s m args below meth c RX7 cX7_charge 3 (some .int) D b0 tA sa sv := X
  refine zr_lv (lv2 := [some (vr (x) 7), some (vi ((nI c9))), some (vi (v))]) rfl ?_
  refine zr_aload0 X dX7_charge_0 ?_
  refine zr_iload1 X dX7_charge_1 ?_
  refine zr_callV1 (rm9 := zrm_X7_requireCard) X hnt zm_X7_107 (by decide) (by decide) (by decide) (Nat.le_of_ble_eq_true rfl) dX7_charge_2 ?_
  refine zo_X7_requireCard hC hc ?_
  refine zr_iload2 X dX7_charge_5 ?_
  refine zr_iconst (v := (1 : Int32)) X dX7_charge_6 (by decide) ?_
  refine zr_icmp_lt (tgt := 16) X dX7_charge_7 (by decide) (fun h1 => ?_) (fun h1 => ?_)
  · skip
    refine zr_throwS (i := 30) X hnt zth_iae rfl dX7_charge_16 dX7_charge_19 dX7_charge_20 dX7_charge_22 dX7_charge_25 ⟨by decide, by decide⟩ (Nat.le_of_ble_eq_true rfl) (by decide) (by decide) ?_
    exact kx
  · skip
    refine zr_iload2 X dX7_charge_10 ?_
    refine zr_bipush (v := (99 : Int32)) X dX7_charge_11 (by decide) ?_
    refine zr_icmp_le (tgt := 26) X dX7_charge_13 (by decide) (fun h2 => ?_) (fun h2 => ?_)
    · skip
      exact absurd hb (ztick_in (n := 99) (m := (99 : Int32)) (by decide) (by decide) (by assumption) (by assumption))
    · skip
      refine zr_throwS (i := 30) X hnt zth_iae rfl dX7_charge_16 dX7_charge_19 dX7_charge_20 dX7_charge_22 dX7_charge_25 ⟨by decide, by decide⟩ (Nat.le_of_ble_eq_true rfl) (by decide) (by decide) ?_
      exact kx
set_option maxRecDepth 20000 in
theorem zx1_X7_charge {l : Launch} {D : va_G} {b0 : Nat} {tA : Nat → ClassId} {sa sv : Nat → Nat} {K : zKt} {I : zI} {Qp : zI → Option AV → Prop} {Xp : String → zI → Prop} {F9 : zI} {x f : Nat} {t : Nat → Nat} {er : Int32} {S : zS} {U : List zS} {u v : Int32}
    (hC : zCl F9 I x t f er S U) (hb : vIdx u (znc S) = none) (kx : Xp "java/lang/IndexOutOfBoundsException" I) :
    zC l D b0 tA sa sv K yX7_charge (.code yX7_charge cX7_charge 3 (some .int)) zrm_X7_charge [vr (x) 7, vi (u), vi (v)] I Qp Xp := by
  have hR := hC.2.2.1
  have hW := hC.2.2.2.1
  have hg6 := hW.ng.1
  have hc12 := hW.nc.1
  have hf5 := hC.1.2.1
  refine zC_of (by decide +kernel) (Nat.le_of_ble_eq_true rfl) ?_
  intro p e s m args below meth c X hnt
  have X : zX p l e zrm_X7_charge s m args below meth c RX7 cX7_charge 3 (some .int) D b0 tA sa sv := X
  refine zr_lv (lv2 := [some (vr (x) 7), some (vi (u)), some (vi (v))]) rfl ?_
  refine zr_aload0 X dX7_charge_0 ?_
  refine zr_iload1 X dX7_charge_1 ?_
  refine zr_callV1 (rm9 := zrm_X7_requireCard) X hnt zm_X7_107 (by decide) (by decide) (by decide) (Nat.le_of_ble_eq_true rfl) dX7_charge_2 ?_
  exact zx_X7_requireCard hC hb kx
def rCharge (S : zS) (u v : Int32) : Nat × Int32 := match vIdx u (znc S) with | none => (1, 0) | some c => match vTick v 100 with | none => (2, 0) | some k => if (99 : Int32) < sC S c 0 + nI k then (3, 0) else (0, sC S c 0 + nI k)
def sCharge (S : zS) (u v : Int32) : zS := match vIdx u (znc S) with | none => S | some c => match vTick v 100 with | none => S | some k => tC S c 0 (sC S c 0 + nI k)
theorem zq_X7_charge {l : Launch} {D : va_G} {b0 : Nat} {tA : Nat → ClassId} {sa sv : Nat → Nat} {K : zKt} {I : zI} {Qp : zI → Option AV → Prop} {Xp : String → zI → Prop} {F9 : zI} {x f : Nat} {t : Nat → Nat} {er : Int32} {S : zS} {U : List zS} {u v : Int32}
    (hC : zCl F9 I x t f er S U) (k0 : (rCharge S u v).1 = 0 → ∀ J : zI, zCl F9 J x t f er (sCharge S u v) (qPush S U) → Qp J (some (vi (rCharge S u v).2))) (kx1 : (rCharge S u v).1 = 1 → Xp "java/lang/IndexOutOfBoundsException" I) (kx2 : (rCharge S u v).1 = 2 → Xp "java/lang/IllegalArgumentException" I) (kx3 : (rCharge S u v).1 = 3 → Xp "java/lang/IllegalStateException" I) :
    zC l D b0 tA sa sv K yX7_charge (.code yX7_charge cX7_charge 3 (some .int)) zrm_X7_charge [vr (x) 7, vi (u), vi (v)] I Qp Xp := by
  unfold rCharge at k0 kx1 kx2 kx3
  unfold sCharge at k0
  cases e1 : vIdx u (znc S) with
  | none => rw [e1] at kx1; exact zx1_X7_charge hC e1 (kx1 rfl)
  | some c =>
    rw [e1] at k0 kx2 kx3
    obtain ⟨h1, rfl⟩ := vIdx_some e1
    cases e2 : vTick v 100 with
    | none => simp only [e2] at kx2; exact zx2_X7_charge hC h1 (vTick_none e2) (kx2 (by first | rfl | trivial))
    | some k =>
      simp only [e2] at k0 kx3
      obtain ⟨g1, g2, rfl⟩ := vTick_some e2
      by_cases h3 : (99 : Int32) < sC S c 0 + nI k
      · rw [if_pos h3] at kx3; exact zx3_X7_charge hC h1 g1 (by omega) h3 (kx3 rfl)
      · rw [if_neg h3] at k0; exact zo_X7_charge hC h1 g1 (by omega) h3 (k0 rfl)
