/-! ===== ticks pass ===== -/
theorem zn_X1_isOpen {l : Launch} {D : va_G} {b0 : Nat} {tA : Nat → ClassId} {sa sv : Nat → Nat} {K : zKt} {I : zI} {Qp : zI → Option AV → Prop} {Xp : String → zI → Prop} {a g : Nat} {S : zS} (hR : zRw I a S) (hg : g < 6) (hP : zPad S g) (k1 : sG S g 2 ≠ 0 → Qp I (some (vi 1))) (k2 : sG S g 2 = 0 → Qp I (some (vi 0))) :
    zC l D b0 tA sa sv K yX1_isOpen (.code yX1_isOpen cX1_isOpen 1 (some .boolean)) zrm_X1_isOpen [vr (a + 1 + 2 + 5 * g) 1] I Qp Xp := by
  have e3 := (hR.2.2.1 g hg).1.2.1
  refine zp_X1_isOpen (fun h => k2 ?_) (fun h => k1 (fun z => h ?_))
  · rw [e3] at h
    obtain ⟨-, -, ⟨q, -⟩ | ⟨o, o1, o2, o3, -⟩⟩ := hP
    · exact q
    · rw [o3, (zn_i0 (by omega)).2.2.2.2] at h; omega
  · rw [e3, (zPad_shut hP z).1]; decide
abbrev zrm_X5_passTicks : Room := { frames := 3, cells := 0, slots := 0, locals := 67 }
set_option maxRecDepth 20000 in
theorem zl2_X5_passTicks {l : Launch} {D : va_G} {b0 : Nat} {tA : Nat → ClassId} {sa sv : Nat → Nat} {K : zKt} {I : zI} {Qp : zI → Option AV → Prop} {Xp : String → zI → Prop} {p : Program} {e : Env} {s : State} {m : MethodId} {args : Array Value} {below : List Frame} {meth : Method} {c : Code} {a m9 t : Nat} {T : zS}
    (X : zX p l e zrm_X5_passTicks s m args below meth c RX5 cX5_passTicks 7 none D b0 tA sa sv) (hnt : ∀ x ∈ c.exceptionTable.toList, False) (hm : m9 < 2 ^ 30) (ht : t < m9) (hW : zWf T) (hk : ∀ J9 : zI, zag I J9 a 45 → zRw J9 a (qGates T 6) → zG p l e zrm_X5_passTicks s m args below meth c 7 D b0 tA sa 0 0 (zQ below D b0 tA sa K args s zrm_X5_passTicks Qp Xp) K 80 [some (vr (a) 5), some (vi ((nI m9))), some (vi ((nI t))), none, none, none, none] [] J9) :
    ∀ (n : Nat) (j : Nat) (J : zI), j ≤ 6 → zag I J a 45 → zRw J a (qGates T j) → 6 - j < n → zG p l e zrm_X5_passTicks s m args below meth c 7 D b0 tA sa 0 0 (zQ below D b0 tA sa K args s zrm_X5_passTicks Qp Xp) K 19 [some (vr (a) 5), some (vi ((nI m9))), some (vi ((nI t))), some (vr (a + 1) 12), some (vi ((6 : Int32))), some (vi ((nI j))), none] [] J := by
  intro n
  induction n with
  | zero => intro j J i0 i1 i2 i6; exact absurd i6 (Nat.not_lt_zero _)
  | succ n ih =>
    intro j J i0 i1 i2 i6
    have i3 := zWf_gates hW j
    obtain ⟨f9, hf1, hf4, hfe⟩ := i3.flow
    refine zr_iload5 X dX5_passTicks_19 ?_
    refine zr_iload4 X dX5_passTicks_21 ?_
    refine zr_nicmp_ge X (j) (6) (tgt := 80) (by omega) (by omega) dX5_passTicks_23 (by decide) (fun h1 => ?_) (fun h1 => ?_)
    · skip
      have hj : j = 6 := by omega
      subst hj
      refine zr_forget (lv2 := [some (vr (a) 5), some (vi ((nI m9))), some (vi ((nI t))), none, none, none, none]) (fun j9 v9 h9 => by rcases j9 with _ | _ | _ | _ | _ | _ | _ | j9 <;> first | exact h9 | (simp at h9)) ?_
      exact hk _ i1 i2
    · skip
      refine zr_aload3 X dX5_passTicks_26 ?_
      refine zr_iload5 X dX5_passTicks_27 ?_
      refine zr_aaldN X rfl rfl (by decide) (show _ < 6 from (by first | assumption | omega)) dX5_passTicks_29 ?_
      refine zr_astore6 X (by decide) rfl dX5_passTicks_30 ?_
      refine zr_aload0 X dX5_passTicks_32 ?_
      refine zr_callV0 (rm9 := zrm_X5_isPanic) X hnt zm_X5_88 (by decide) (by decide) (by decide) (Nat.le_of_ble_eq_true rfl) dX5_passTicks_33 ?_
      refine zp_X5_isPanic i2 i3.keys ?_ ?_
      · skip
        intro hp2
        refine zr_if_eq (tgt := 51) X dX5_passTicks_36 (by decide) (fun h => absurd h (by decide)) (fun _ => ?_)
        refine zr_aload0 X dX5_passTicks_39 ?_
        refine zr_aload6 X dX5_passTicks_40 ?_
        refine zr_getR X zf_X5_131 rfl (by decide) (by decide) dX5_passTicks_42 ?_
        refine zr_callV1 (rm9 := zrm_X5_letOutInPanic) X hnt zm_X5_170 (by decide) (by decide) (by decide) (Nat.le_of_ble_eq_true rfl) dX5_passTicks_45 ?_
        refine zp_X5_letOutInPanic (g := j) (f := f9) i2 (by omega) hfe (by omega) (i3.le12 _ _) ?_
        intro J1 hg2 hR3
        refine zr_goto (tgt := 74) X dX5_passTicks_48 (by decide) ?_
        refine zr_iinc5 (v := (nI (j + 1))) X (show nI (j) + Int32.ofInt 1 = nI (j + 1) from nI_1 (j)) (by decide) rfl dX5_passTicks_74 ?_
        refine zr_goto (tgt := 19) X dX5_passTicks_77 (by decide) ?_
        refine zr_forget (lv2 := [some (vr (a) 5), some (vi ((nI m9))), some (vi ((nI t))), some (vr (a + 1) 12), some (vi ((6 : Int32))), some (vi ((nI (j + 1)))), none]) (fun j9 v9 h9 => by rcases j9 with _ | _ | _ | _ | _ | _ | _ | j9 <;> first | exact h9 | (simp at h9)) ?_
        refine ih (j + 1) _ (by omega) (by repeat (first | exact zag.rf | assumption | refine zag.put ?_ (by omega) (by omega) | refine zag.tr ?_ (by assumption) (by omega) (by omega))) ?_ (by omega)
        show zRw _ a (qLive (qGates T j) j)
        first | (rw [qLive, if_pos (zPanB_iff.mpr (by assumption)), hfe, nI_clamp (by omega)]; exact hR3) | (rw [qLive, if_neg (fun z => absurd (zPanB_iff.mp z) (by assumption)), if_pos (by assumption)]; exact hR3) | (rw [qLive, if_neg (fun z => absurd (zPanB_iff.mp z) (by assumption)), if_neg (fun z => z (by assumption))]; exact hR3)
      · skip
        intro hp2
        refine zr_if_eq (tgt := 51) X dX5_passTicks_36 (by decide) (fun _ => ?_) (fun h => absurd h (by decide))
        refine zr_aload6 X dX5_passTicks_51 ?_
        refine zr_callV0 (rm9 := zrm_X1_isOpen) X hnt zm_X5_147 (by decide) (by decide) (by decide) (Nat.le_of_ble_eq_true rfl) dX5_passTicks_53 ?_
        refine zn_X1_isOpen i2 (by omega) (i3.pad _) ?_ ?_
        · skip
          intro ho3
          refine zr_if_eq (tgt := 68) X dX5_passTicks_56 (by decide) (fun h => absurd h (by decide)) (fun _ => ?_)
          refine zr_aload0 X dX5_passTicks_59 ?_
          refine zr_aload6 X dX5_passTicks_60 ?_
          refine zr_callV1 (rm9 := zrm_X5_letThroughPaddles) X hnt zm_X5_174 (by decide) (by decide) (by decide) (Nat.le_of_ble_eq_true rfl) dX5_passTicks_62 ?_
          refine zq_X5_letThroughPaddles (g := j) i2 (by omega) (fun s9 => i3.le12 _ s9) (i3.pad _) (by assumption) ?_
          intro J4 hg5 hR6
          refine zr_goto (tgt := 74) X dX5_passTicks_65 (by decide) ?_
          refine zr_iinc5 (v := (nI (j + 1))) X (show nI (j) + Int32.ofInt 1 = nI (j + 1) from nI_1 (j)) (by decide) rfl dX5_passTicks_74 ?_
          refine zr_goto (tgt := 19) X dX5_passTicks_77 (by decide) ?_
          refine zr_forget (lv2 := [some (vr (a) 5), some (vi ((nI m9))), some (vi ((nI t))), some (vr (a + 1) 12), some (vi ((6 : Int32))), some (vi ((nI (j + 1)))), none]) (fun j9 v9 h9 => by rcases j9 with _ | _ | _ | _ | _ | _ | _ | j9 <;> first | exact h9 | (simp at h9)) ?_
          refine ih (j + 1) _ (by omega) (by repeat (first | exact zag.rf | assumption | refine zag.put ?_ (by omega) (by omega) | refine zag.tr ?_ (by assumption) (by omega) (by omega))) ?_ (by omega)
          show zRw _ a (qLive (qGates T j) j)
          first | (rw [qLive, if_pos (zPanB_iff.mpr (by assumption)), hfe, nI_clamp (by omega)]; exact hR6) | (rw [qLive, if_neg (fun z => absurd (zPanB_iff.mp z) (by assumption)), if_pos (by assumption)]; exact hR6) | (rw [qLive, if_neg (fun z => absurd (zPanB_iff.mp z) (by assumption)), if_neg (fun z => z (by assumption))]; exact hR6)
        · skip
          intro ho3
          refine zr_if_eq (tgt := 68) X dX5_passTicks_56 (by decide) (fun _ => ?_) (fun h => absurd h (by decide))
          refine zr_aload0 X dX5_passTicks_68 ?_
          refine zr_aload6 X dX5_passTicks_69 ?_
          refine zr_callV1 (rm9 := zrm_X5_serveNext) X hnt zm_X5_177 (by decide) (by decide) (by decide) (Nat.le_of_ble_eq_true rfl) dX5_passTicks_71 ?_
          refine zq_X5_serveNext (g := j) i2 (by omega) (fun s9 => i3.le12 _ s9) i3.bits ?_
          intro J7 hg8 hR9
          refine zr_iinc5 (v := (nI (j + 1))) X (show nI (j) + Int32.ofInt 1 = nI (j + 1) from nI_1 (j)) (by decide) rfl dX5_passTicks_74 ?_
          refine zr_goto (tgt := 19) X dX5_passTicks_77 (by decide) ?_
          refine zr_forget (lv2 := [some (vr (a) 5), some (vi ((nI m9))), some (vi ((nI t))), some (vr (a + 1) 12), some (vi ((6 : Int32))), some (vi ((nI (j + 1)))), none]) (fun j9 v9 h9 => by rcases j9 with _ | _ | _ | _ | _ | _ | _ | j9 <;> first | exact h9 | (simp at h9)) ?_
          refine ih (j + 1) _ (by omega) (by repeat (first | exact zag.rf | assumption | refine zag.put ?_ (by omega) (by omega) | refine zag.tr ?_ (by assumption) (by omega) (by omega))) ?_ (by omega)
          show zRw _ a (qLive (qGates T j) j)
          first | (rw [qLive, if_pos (zPanB_iff.mpr (by assumption)), hfe, nI_clamp (by omega)]; exact hR9) | (rw [qLive, if_neg (fun z => absurd (zPanB_iff.mp z) (by assumption)), if_pos (by assumption)]; exact hR9) | (rw [qLive, if_neg (fun z => absurd (zPanB_iff.mp z) (by assumption)), if_neg (fun z => z (by assumption))]; exact hR9)
set_option maxRecDepth 20000 in
theorem zl_X5_passTicks {l : Launch} {D : va_G} {b0 : Nat} {tA : Nat → ClassId} {sa sv : Nat → Nat} {K : zKt} {I : zI} {Qp : zI → Option AV → Prop} {Xp : String → zI → Prop} {p : Program} {e : Env} {s : State} {m : MethodId} {args : Array Value} {below : List Frame} {meth : Method} {c : Code} {a m9 : Nat} {S : zS}
    (X : zX p l e zrm_X5_passTicks s m args below meth c RX5 cX5_passTicks 7 none D b0 tA sa sv) (hnt : ∀ x ∈ c.exceptionTable.toList, False) (hW : zWf S) (hm : m9 < 2 ^ 30) (k1 : ∀ I' : zI, zag I I' a 45 → zRw I' a (qTicks S m9) → Qp I' none) :
    ∀ (n : Nat) (t : Nat) (J : zI), t ≤ m9 → zag I J a 45 → zRw J a (qTicks S t) → m9 - t < n → zG p l e zrm_X5_passTicks s m args below meth c 7 D b0 tA sa 0 0 (zQ below D b0 tA sa K args s zrm_X5_passTicks Qp Xp) K 2 [some (vr (a) 5), some (vi ((nI m9))), some (vi ((nI t))), none, none, none, none] [] J := by
  intro n
  induction n with
  | zero => intro t J i0 i1 i2 i6; exact absurd i6 (Nat.not_lt_zero _)
  | succ n ih =>
    intro t J i0 i1 i2 i6
    refine zr_iload2 X dX5_passTicks_2 ?_
    refine zr_iload1 X dX5_passTicks_3 ?_
    refine zr_nicmp_ge X (t) (m9) (tgt := 96) (by omega) (by omega) dX5_passTicks_4 (by decide) (fun h1 => ?_) (fun h1 => ?_)
    · skip
      refine zr_vret X (by decide) (by decide) dX5_passTicks_96 ?_
      have hj : t = m9 := by omega
      subst hj
      exact k1 _ i1 i2
    · skip
      refine zr_aload0 X dX5_passTicks_7 ?_
      refine zr_getR X zf_X5_11 rfl (by decide) (by decide) dX5_passTicks_8 ?_
      refine zr_astore3 X (by decide) rfl dX5_passTicks_11 ?_
      refine zr_aload3 X dX5_passTicks_12 ?_
      refine zr_alen (v := 6) X (Or.inr (Or.inl rfl)) rfl dX5_passTicks_13 ?_
      refine zr_istore4 X (by decide) rfl dX5_passTicks_14 ?_
      refine zr_iconst (v := (0 : Int32)) X dX5_passTicks_16 (by decide) ?_
      refine zr_istore5 X (by decide) rfl dX5_passTicks_17 ?_
      refine zl2_X5_passTicks (T := qTicks S t) (I := J) X hnt hm (by omega) (zWf_ticks hW t) (fun J9 h1 h2 => ?_) 7 0 J (by omega) zag.rf i2 (by omega)
      refine zr_aload0 X dX5_passTicks_80 ?_
      refine zr_dupR X dX5_passTicks_81 ?_
      refine zr_getI X zf_X5_48 rfl dX5_passTicks_82 ?_
      refine zr_eq (x2 := (sX (qGates (qTicks S t) 6) 2)) (h2.1 2 (by decide) (by decide)) ?_
      refine zr_iconst (v := (1 : Int32)) X dX5_passTicks_85 (by decide) ?_
      refine zr_iadd X dX5_passTicks_86 ?_
      refine zr_putI X zf_X5_48 rfl (Or.inl rfl) dX5_passTicks_87 ?_
      have hR_1 : zRw _ (a) (tX (qGates (qTicks S t) 6) 2 ((sX (qGates (qTicks S t) 6) 2) + (1 : Int32))) := zRw_X h2 (i := 2) (v := ((sX (qGates (qTicks S t) 6) 2) + (1 : Int32))) (by decide) (by decide)
      refine zr_iinc2 (v := (nI (t + 1))) X (show nI (t) + Int32.ofInt 1 = nI (t + 1) from nI_1 (t)) (by decide) rfl dX5_passTicks_90 ?_
      refine zr_goto (tgt := 2) X dX5_passTicks_93 (by decide) ?_
      exact ih (t + 1) _ (by omega) (by repeat (first | exact zag.rf | assumption | refine zag.put ?_ (by omega) (by omega) | refine zag.tr ?_ (by assumption) (by omega) (by omega))) hR_1 (by omega)
set_option maxRecDepth 20000 in
theorem zp_X5_passTicks {l : Launch} {D : va_G} {b0 : Nat} {tA : Nat → ClassId} {sa sv : Nat → Nat} {K : zKt} {I : zI} {Qp : zI → Option AV → Prop} {Xp : String → zI → Prop} {a m9 : Nat} {S : zS}
    (hR : zRw I a S) (hW : zWf S) (hm : m9 < 2 ^ 30) (k1 : ∀ I' : zI, zag I I' a 45 → zRw I' a (qTicks S m9) → Qp I' none) :
    zC l D b0 tA sa sv K yX5_passTicks (.code yX5_passTicks cX5_passTicks 7 none) zrm_X5_passTicks [vr (a) 5, vi ((nI m9))] I Qp Xp := by
  refine zC_of (by decide +kernel) (Nat.le_of_ble_eq_true rfl) ?_
  intro p e s m args below meth c X hnt
  have X : zX p l e zrm_X5_passTicks s m args below meth c RX5 cX5_passTicks 7 none D b0 tA sa sv := X
  refine zr_lv (lv2 := [some (vr (a) 5), some (vi ((nI m9))), none, none, none, none, none]) rfl ?_
  refine zr_iconst (v := (0 : Int32)) X dX5_passTicks_0 (by decide) ?_
  refine zr_istore2 X (by decide) rfl dX5_passTicks_1 ?_
  exact zl_X5_passTicks X hnt hW hm k1 (m9 + 1) 0 I (by omega) zag.rf hR (by omega)
