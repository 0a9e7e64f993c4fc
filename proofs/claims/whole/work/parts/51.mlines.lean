/-! ===== the reference: lines, and who may join ===== -/
theorem zgd_some {w : List Nat} {k c : Nat} (h : w.getD k 0 = c + 1) : w[k]? = some (c + 1) := by
  rw [List.getD_eq_getElem?_getD] at h
  cases e : w[k]? with
  | none => rw [e] at h; cases h
  | some y => rw [e] at h; exact congrArg some h
theorem zgd_of {w : List Nat} {k y : Nat} (h : w[k]? = some y) : w.getD k 0 = y := by rw [List.getD_eq_getElem?_getD, h]; rfl
theorem zAt_p {S : zS} {c g s p : Nat} (hW : zWf S) (z : zAt S c g s p) : p < 10 ∧ p < (sL S g s).length := by
  refine ⟨(qPos_at hW z).2, ?_⟩
  rcases Nat.lt_or_ge p (sL S g s).length with q | q
  · exact q
  · have := z.2.2
    rw [List.getElem?_eq_none q] at this; cases this
theorem zstep {S : zS} {c j i k : Nat} (hW : zWf S) (hi : i < 2) (hk : k < 10) (i2 : ∀ g s p : Nat, zAt S c g s p → 20 * j + 10 * i + k ≤ 20 * g + 10 * s + p) (hn : ¬ (sL S j i).getD k 0 = c + 1) : ∀ g s p : Nat, zAt S c g s p → 20 * j + 10 * i + (k + 1) ≤ 20 * g + 10 * s + p := by
  intro g s p z
  have h1 := i2 g s p z
  have h2 := (zAt_p hW z).1
  have h3 := z.2.1
  rcases Nat.lt_or_ge (20 * j + 10 * i + k) (20 * g + 10 * s + p) with q | q
  · omega
  · exfalso
    have e1 : g = j := by omega
    subst e1
    have e2 : s = i := by omega
    subst e2
    have e3 : p = k := by omega
    subst e3
    exact hn (zgd_of z.2.2)
theorem zexit {S : zS} {c j i k : Nat} (hW : zWf S) (hi : i < 2) (hk : (sL S j i).length ≤ k) (i2 : ∀ g s p : Nat, zAt S c g s p → 20 * j + 10 * i + k ≤ 20 * g + 10 * s + p) : ∀ g s p : Nat, zAt S c g s p → 20 * j + 10 * (i + 1) ≤ 20 * g + 10 * s + p := by
  intro g s p z
  have h1 := i2 g s p z
  have h2 := zAt_p hW z
  have h3 := z.2.1
  rcases Nat.lt_or_ge (20 * g + 10 * s + p) (20 * j + 10 * (i + 1)) with q | q
  · exfalso
    have e1 : g = j := by omega
    subst e1
    have e2 : s = i := by omega
    subst e2
    omega
  · exact q
theorem qWh_3n {S : zS} {c : Nat} (hW : zWf S) : qWh S c 3 = -1 ↔ qPos S c = none := by
  rw [qWh_3 hW]
  constructor
  · intro h
    cases e : qPos S c with
    | none => rfl
    | some i => exact absurd (qPos_some e) (h _ _ _)
  · exact fun h => qPos_none hW h
abbrev zrm_X8_inLines : Room := { frames := 2, cells := 0, slots := 0, locals := 43 }
set_option maxRecDepth 20000 in
theorem zl_X8_inLines {l : Launch} {D : va_G} {b0 : Nat} {tA : Nat → ClassId} {sa sv : Nat → Nat} {K : Nat → Option Nat} {I : zI} {Qp : zI → Option AV → Prop} {Xp : String → zI → Prop} {p : Program} {e : Env} {s : State} {m : MethodId} {args : Array Value} {below : List Frame} {meth : Method} {c : Code} {a s9 : Nat} {S : zS}
    (X : zX p l e zrm_X8_inLines s m args below meth c RX8 cX8_inLines 4 (some .int) D b0 tA sa sv) (hnt : ∀ x ∈ c.exceptionTable.toList, False) (hM : zMd I a S) (hW : zWf S) (hs : s9 < 2) (k1 : Qp I (some (vi (nI (nsum (fun g => (sL S g s9).length) 6))))) :
    ∀ (n : Nat) (j v : Nat), j ≤ zng S → v = nsum (fun g => (sL S g s9).length) j → zng S - j < n → zG p l e zrm_X8_inLines s m args below meth c 4 D b0 tA sa 0 0 (zQ below D b0 tA sa K args s zrm_X8_inLines Qp Xp) K 4 [some (vr (a) 15), some (vi ((nI s9))), some (vi ((nI v))), some (vi ((nI j)))] [] I := by
  intro n
  induction n with
  | zero => intro j v i1 i2 i3; exact absurd i3 (Nat.not_lt_zero _)
  | succ n ih =>
    intro j v i1 i2 i3
    have hg6 := hW.ng.1
    have hc12 := hW.nc.1
    refine zr_iload3 X dX8_inLines_4 ?_
    refine zr_aload0 X dX8_inLines_5 ?_
    refine zr_iconst (v := (4 : Int32)) X dX8_inLines_6 (by decide) ?_
    refine zr_ialdN (n := 4) X rfl (show _ < 310 from (by first | assumption | omega | decide)) dX8_inLines_7 ?_
    refine zr_eq (x2 := (sX S 4)) (hM.1 4 (by decide)) ?_
    refine zr_eq (x2 := (nI (zng S))) (hW.ng.2) ?_
    refine zr_nicmp_ge X (j) ((zng S)) (tgt := 26) (by omega) (by omega) dX8_inLines_8 (by decide) (fun h1 => ?_) (fun h1 => ?_)
    · skip
      refine zr_iload2 X dX8_inLines_26 ?_
      refine zr_iret X (by decide) (by decide) dX8_inLines_27 ?_
      have e9 : v = nsum (fun g => (sL S g s9).length) 6 := by rw [i2, show j = zng S by omega]; exact (nsum_tail (fun i hi => by rw [(hW.blank i hi).2 s9]; rfl) 6 hW.ng.1).symm
      rw [e9]; exact k1
    · skip
      refine zr_iload2 X dX8_inLines_11 ?_
      refine zr_aload0 X dX8_inLines_12 ?_
      refine zr_iload3 X dX8_inLines_13 ?_
      refine zr_iload1 X dX8_inLines_14 ?_
      refine zr_callS3 (rm9 := zrm_X8_many) X hnt zm_X8_38 (by decide) (by decide) (by decide) (Nat.le_of_ble_eq_true rfl) dX8_inLines_15 ?_
      refine zn_X8_many (g := j) (s9 := s9) hM (by omega) (by omega) ?_
      refine zr_iadd X dX8_inLines_18 ?_
      refine zr_eq (x2 := (nI (v + ((sL S j s9).length)))) (nI_add (v) (((sL S j s9).length))) ?_
      refine zr_istore2 X (by decide) rfl dX8_inLines_19 ?_
      refine zr_iinc3 (v := (nI (j + 1))) X (show nI (j) + Int32.ofInt 1 = nI (j + 1) from nI_1 (j)) (by decide) rfl dX8_inLines_20 ?_
      refine zr_goto (tgt := 4) X dX8_inLines_23 (by decide) ?_
      exact ih (j + 1) _ (by omega) (by subst i2; rfl) (by omega)
set_option maxRecDepth 20000 in
theorem zp_X8_inLines {l : Launch} {D : va_G} {b0 : Nat} {tA : Nat → ClassId} {sa sv : Nat → Nat} {K : Nat → Option Nat} {I : zI} {Qp : zI → Option AV → Prop} {Xp : String → zI → Prop} {a s9 : Nat} {S : zS}
    (hM : zMd I a S) (hW : zWf S) (hs : s9 < 2) (k1 : Qp I (some (vi (nI (nsum (fun g => (sL S g s9).length) 6))))) :
    zC l D b0 tA sa sv K yX8_inLines (.code yX8_inLines cX8_inLines 4 (some .int)) zrm_X8_inLines [vr (a) 15, vi ((nI s9))] I Qp Xp := by
  refine zC_of (by decide +kernel) (Nat.le_of_ble_eq_true rfl) ?_
  intro p e s m args below meth c X hnt
  have X : zX p l e zrm_X8_inLines s m args below meth c RX8 cX8_inLines 4 (some .int) D b0 tA sa sv := X
  refine zr_lv (lv2 := [some (vr (a) 15), some (vi ((nI s9))), none, none]) rfl ?_
  refine zr_iconst (v := (0 : Int32)) X dX8_inLines_0 (by decide) ?_
  refine zr_istore2 X (by decide) rfl dX8_inLines_1 ?_
  refine zr_iconst (v := (0 : Int32)) X dX8_inLines_2 (by decide) ?_
  refine zr_istore3 X (by decide) rfl dX8_inLines_3 ?_
  exact zl_X8_inLines X hnt hM hW hs k1 (zng S + 1) 0 0 (by omega) rfl (by omega)
abbrev zrm_X8_whereIs : Room := { frames := 2, cells := 0, slots := 0, locals := 43 }
set_option maxRecDepth 20000 in
theorem zl3_X8_whereIs {l : Launch} {D : va_G} {b0 : Nat} {tA : Nat → ClassId} {sa sv : Nat → Nat} {K : Nat → Option Nat} {I : zI} {Qp : zI → Option AV → Prop} {Xp : String → zI → Prop} {p : Program} {e : Env} {s : State} {m : MethodId} {args : Array Value} {below : List Frame} {meth : Method} {c : Code} {a c9 w9 j i : Nat} {S : zS}
    (X : zX p l e zrm_X8_whereIs s m args below meth c RX8 cX8_whereIs 6 (some .int) D b0 tA sa sv) (hnt : ∀ x ∈ c.exceptionTable.toList, False) (hM : zMd I a S) (hW : zWf S) (hc : c9 < 12) (hw : 3 ≤ w9 ∧ w9 ≤ 5) (k1 : Qp I (some (vi (qWh S c9 w9)))) (hj : j < zng S) (hi : i < 2) (hk3 : (∀ g s p : Nat, zAt S c9 g s p → 20 * j + 10 * (i + 1) ≤ 20 * g + 10 * s + p) → zG p l e zrm_X8_whereIs s m args below meth c 6 D b0 tA sa 0 0 (zQ below D b0 tA sa K args s zrm_X8_whereIs Qp Xp) K 77 [some (vr (a) 15), some (vi ((nI c9))), some (vi ((nI w9))), some (vi ((nI j))), some (vi ((nI i))), none] [] I) :
    ∀ (n : Nat) (k : Nat), k ≤ (sL S j i).length → (∀ g s p : Nat, zAt S c9 g s p → 20 * j + 10 * i + k ≤ 20 * g + 10 * s + p) → (sL S j i).length - k < n → zG p l e zrm_X8_whereIs s m args below meth c 6 D b0 tA sa 0 0 (zQ below D b0 tA sa K args s zrm_X8_whereIs Qp Xp) K 21 [some (vr (a) 15), some (vi ((nI c9))), some (vi ((nI w9))), some (vi ((nI j))), some (vi ((nI i))), some (vi ((nI k)))] [] I := by
  intro n
  induction n with
  | zero => intro k i1 i2 i3; exact absurd i3 (Nat.not_lt_zero _)
  | succ n ih =>
    intro k i1 i2 i3
    have hg6 := hW.ng.1
    have hc12 := hW.nc.1
    have hl9 := hW.len j i
    have hz9 := zgd12 (hW.le12 j i) k
    refine zr_iload5 X dX8_whereIs_21 ?_
    refine zr_aload0 X dX8_whereIs_23 ?_
    refine zr_iload3 X dX8_whereIs_24 ?_
    refine zr_iload4 X dX8_whereIs_25 ?_
    refine zr_callS3 (rm9 := zrm_X8_many) X hnt zm_X8_38 (by decide) (by decide) (by decide) (Nat.le_of_ble_eq_true rfl) dX8_whereIs_27 ?_
    refine zn_X8_many (g := j) (s9 := i) hM (by omega) (by omega) ?_
    refine zr_nicmp_ge X (k) (((sL S j i).length)) (tgt := 77) (by omega) (by omega) dX8_whereIs_30 (by decide) (fun h1 => ?_) (fun h1 => ?_)
    · skip
      refine zr_forget (lv2 := [some (vr (a) 15), some (vi ((nI c9))), some (vi ((nI w9))), some (vi ((nI j))), some (vi ((nI i))), none]) (fun j9 v9 h9 => by rcases j9 with _ | _ | _ | _ | _ | _ | _ | _ | j9 <;> first | exact h9 | (simp at h9)) ?_
      exact hk3 (zexit hW hi (by omega) i2)
    · skip
      refine zr_aload0 X dX8_whereIs_33 ?_
      refine zr_iload3 X dX8_whereIs_34 ?_
      refine zr_iload4 X dX8_whereIs_35 ?_
      refine zr_iload5 X dX8_whereIs_37 ?_
      refine zr_callS3 (rm9 := zrm_X8_placeAt) X hnt zm_X8_42 (by decide) (by decide) (by decide) (Nat.le_of_ble_eq_true rfl) dX8_whereIs_39 ?_
      refine zn_X8_placeAt (g := j) (s9 := i) (k9 := k) ?_
      refine zr_ialdN (n := 16 + 29 * j + (9 + 10 * i + k)) X rfl (show _ < 310 from (by first | assumption | omega | decide)) dX8_whereIs_42 ?_
      refine zr_eq (x2 := (nI ((sL S j i).getD k 0))) (((hM.2.1 j (by omega)).2 i (by omega)).2.2 k (by first | assumption | omega)) ?_
      refine zr_iload1 X dX8_whereIs_43 ?_
      refine zr_iconst (v := (1 : Int32)) X dX8_whereIs_44 (by decide) ?_
      refine zr_iadd X dX8_whereIs_45 ?_
      refine zr_eq (x2 := (nI (c9 + 1))) (nI_add (c9) (1)) ?_
      refine zr_nicmp_ne X (((sL S j i).getD k 0)) ((c9 + 1)) (tgt := 71) (by omega) (by omega) dX8_whereIs_46 (by decide) (fun h2 => ?_) (fun h2 => ?_)
      · skip
        refine zr_iinc5 (v := (nI (k + 1))) X (show nI (k) + Int32.ofInt 1 = nI (k + 1) from nI_1 (k)) (by decide) rfl dX8_whereIs_71 ?_
        refine zr_goto (tgt := 21) X dX8_whereIs_74 (by decide) ?_
        exact ih (k + 1) (by omega) (zstep hW hi (by omega) i2 (by assumption)) (by omega)
      · skip
        refine zr_iload2 X dX8_whereIs_49 ?_
        refine zr_iconst (v := (3 : Int32)) X dX8_whereIs_50 (by decide) ?_
        refine zr_nicmp_ne X (w9) (3) (tgt := 58) (by omega) (by omega) dX8_whereIs_51 (by decide) (fun h3 => ?_) (fun h3 => ?_)
        · skip
          refine zr_iload2 X dX8_whereIs_58 ?_
          refine zr_iconst (v := (4 : Int32)) X dX8_whereIs_59 (by decide) ?_
          refine zr_nicmp_ne X (w9) (4) (tgt := 68) (by omega) (by omega) dX8_whereIs_60 (by decide) (fun h4 => ?_) (fun h4 => ?_)
          · skip
            refine zr_iload5 X dX8_whereIs_68 ?_
            refine zr_iret X (by decide) (by decide) dX8_whereIs_70 ?_
            have hz : zAt S c9 j i k := ⟨by omega, by omega, zgd_some (by assumption)⟩
            rw [qWh_at hW hz] at k1
            first | (rw [if_pos (by assumption)] at k1; exact k1) | (rw [if_neg (by assumption), if_pos (by assumption)] at k1; exact k1) | (rw [if_neg (by assumption), if_neg (by assumption)] at k1; exact k1)
          · skip
            refine zr_iload4 X dX8_whereIs_63 ?_
            refine zr_goto (tgt := 70) X dX8_whereIs_65 (by decide) ?_
            refine zr_iret X (by decide) (by decide) dX8_whereIs_70 ?_
            have hz : zAt S c9 j i k := ⟨by omega, by omega, zgd_some (by assumption)⟩
            rw [qWh_at hW hz] at k1
            first | (rw [if_pos (by assumption)] at k1; exact k1) | (rw [if_neg (by assumption), if_pos (by assumption)] at k1; exact k1) | (rw [if_neg (by assumption), if_neg (by assumption)] at k1; exact k1)
        · skip
          refine zr_iload3 X dX8_whereIs_54 ?_
          refine zr_goto (tgt := 70) X dX8_whereIs_55 (by decide) ?_
          refine zr_iret X (by decide) (by decide) dX8_whereIs_70 ?_
          have hz : zAt S c9 j i k := ⟨by omega, by omega, zgd_some (by assumption)⟩
          rw [qWh_at hW hz] at k1
          first | (rw [if_pos (by assumption)] at k1; exact k1) | (rw [if_neg (by assumption), if_pos (by assumption)] at k1; exact k1) | (rw [if_neg (by assumption), if_neg (by assumption)] at k1; exact k1)
set_option maxRecDepth 20000 in
theorem zl2_X8_whereIs {l : Launch} {D : va_G} {b0 : Nat} {tA : Nat → ClassId} {sa sv : Nat → Nat} {K : Nat → Option Nat} {I : zI} {Qp : zI → Option AV → Prop} {Xp : String → zI → Prop} {p : Program} {e : Env} {s : State} {m : MethodId} {args : Array Value} {below : List Frame} {meth : Method} {c : Code} {a c9 w9 j : Nat} {S : zS}
    (X : zX p l e zrm_X8_whereIs s m args below meth c RX8 cX8_whereIs 6 (some .int) D b0 tA sa sv) (hnt : ∀ x ∈ c.exceptionTable.toList, False) (hM : zMd I a S) (hW : zWf S) (hc : c9 < 12) (hw : 3 ≤ w9 ∧ w9 ≤ 5) (k1 : Qp I (some (vi (qWh S c9 w9)))) (hj : j < zng S) (hk2 : (∀ g s p : Nat, zAt S c9 g s p → 20 * (j + 1) ≤ 20 * g + 10 * s + p) → zG p l e zrm_X8_whereIs s m args below meth c 6 D b0 tA sa 0 0 (zQ below D b0 tA sa K args s zrm_X8_whereIs Qp Xp) K 83 [some (vr (a) 15), some (vi ((nI c9))), some (vi ((nI w9))), some (vi ((nI j))), none, none] [] I) :
    ∀ (n : Nat) (i : Nat), i ≤ 2 → (∀ g s p : Nat, zAt S c9 g s p → 20 * j + 10 * i ≤ 20 * g + 10 * s + p) → 2 - i < n → zG p l e zrm_X8_whereIs s m args below meth c 6 D b0 tA sa 0 0 (zQ below D b0 tA sa K args s zrm_X8_whereIs Qp Xp) K 12 [some (vr (a) 15), some (vi ((nI c9))), some (vi ((nI w9))), some (vi ((nI j))), some (vi ((nI i))), none] [] I := by
  intro n
  induction n with
  | zero => intro i i1 i2 i3; exact absurd i3 (Nat.not_lt_zero _)
  | succ n ih =>
    intro i i1 i2 i3
    have hg6 := hW.ng.1
    have hc12 := hW.nc.1
    refine zr_iload4 X dX8_whereIs_12 ?_
    refine zr_iconst (v := (2 : Int32)) X dX8_whereIs_14 (by decide) ?_
    refine zr_nicmp_ge X (i) (2) (tgt := 83) (by omega) (by omega) dX8_whereIs_15 (by decide) (fun h1 => ?_) (fun h1 => ?_)
    · skip
      refine zr_forget (lv2 := [some (vr (a) 15), some (vi ((nI c9))), some (vi ((nI w9))), some (vi ((nI j))), none, none]) (fun j9 v9 h9 => by rcases j9 with _ | _ | _ | _ | _ | _ | _ | _ | j9 <;> first | exact h9 | (simp at h9)) ?_
      exact hk2 (fun g s p z => by have := i2 g s p z; omega)
    · skip
      refine zr_iconst (v := (0 : Int32)) X dX8_whereIs_18 (by decide) ?_
      refine zr_istore5 X (by decide) rfl dX8_whereIs_19 ?_
      refine zl3_X8_whereIs X hnt hM hW hc hw k1 hj (i := i) (by omega) (fun hx => ?_) 12 0 (by omega) i2 (by have := hW.len j i; omega)
      refine zr_iinc4 (v := (nI (i + 1))) X (show nI (i) + Int32.ofInt 1 = nI (i + 1) from nI_1 (i)) (by decide) rfl dX8_whereIs_77 ?_
      refine zr_goto (tgt := 12) X dX8_whereIs_80 (by decide) ?_
      exact ih (i + 1) (by omega) hx (by omega)
set_option maxRecDepth 20000 in
theorem zl_X8_whereIs {l : Launch} {D : va_G} {b0 : Nat} {tA : Nat → ClassId} {sa sv : Nat → Nat} {K : Nat → Option Nat} {I : zI} {Qp : zI → Option AV → Prop} {Xp : String → zI → Prop} {p : Program} {e : Env} {s : State} {m : MethodId} {args : Array Value} {below : List Frame} {meth : Method} {c : Code} {a c9 w9 : Nat} {S : zS}
    (X : zX p l e zrm_X8_whereIs s m args below meth c RX8 cX8_whereIs 6 (some .int) D b0 tA sa sv) (hnt : ∀ x ∈ c.exceptionTable.toList, False) (hM : zMd I a S) (hW : zWf S) (hc : c9 < 12) (hw : 3 ≤ w9 ∧ w9 ≤ 5) (k1 : Qp I (some (vi (qWh S c9 w9)))) :
    ∀ (n : Nat) (j : Nat), j ≤ zng S → (∀ g s p : Nat, zAt S c9 g s p → 20 * j ≤ 20 * g + 10 * s + p) → zng S - j < n → zG p l e zrm_X8_whereIs s m args below meth c 6 D b0 tA sa 0 0 (zQ below D b0 tA sa K args s zrm_X8_whereIs Qp Xp) K 2 [some (vr (a) 15), some (vi ((nI c9))), some (vi ((nI w9))), some (vi ((nI j))), none, none] [] I := by
  intro n
  induction n with
  | zero => intro j i1 i2 i3; exact absurd i3 (Nat.not_lt_zero _)
  | succ n ih =>
    intro j i1 i2 i3
    have hg6 := hW.ng.1
    have hc12 := hW.nc.1
    refine zr_iload3 X dX8_whereIs_2 ?_
    refine zr_aload0 X dX8_whereIs_3 ?_
    refine zr_iconst (v := (4 : Int32)) X dX8_whereIs_4 (by decide) ?_
    refine zr_ialdN (n := 4) X rfl (show _ < 310 from (by first | assumption | omega | decide)) dX8_whereIs_5 ?_
    refine zr_eq (x2 := (sX S 4)) (hM.1 4 (by decide)) ?_
    refine zr_eq (x2 := (nI (zng S))) (hW.ng.2) ?_
    refine zr_nicmp_ge X (j) ((zng S)) (tgt := 89) (by omega) (by omega) dX8_whereIs_6 (by decide) (fun h1 => ?_) (fun h1 => ?_)
    · skip
      refine zr_iconst (v := (-1 : Int32)) X dX8_whereIs_89 (by decide) ?_
      refine zr_iret X (by decide) (by decide) dX8_whereIs_90 ?_
      rw [qWh_not (fun g s p z => by have h8 := i2 g s p z; have h7 := zAt_ng hW z; have := (zAt_p hW z).1; have := z.2.1; omega)] at k1; exact k1
    · skip
      refine zr_iconst (v := (0 : Int32)) X dX8_whereIs_9 (by decide) ?_
      refine zr_istore4 X (by decide) rfl dX8_whereIs_10 ?_
      refine zl2_X8_whereIs X hnt hM hW hc hw k1 (j := j) (by omega) (fun hx => ?_) 3 0 (by omega) i2 (by omega)
      refine zr_iinc3 (v := (nI (j + 1))) X (show nI (j) + Int32.ofInt 1 = nI (j + 1) from nI_1 (j)) (by decide) rfl dX8_whereIs_83 ?_
      refine zr_goto (tgt := 2) X dX8_whereIs_86 (by decide) ?_
      exact ih (j + 1) (by omega) hx (by omega)
set_option maxRecDepth 20000 in
theorem zp_X8_whereIs {l : Launch} {D : va_G} {b0 : Nat} {tA : Nat → ClassId} {sa sv : Nat → Nat} {K : Nat → Option Nat} {I : zI} {Qp : zI → Option AV → Prop} {Xp : String → zI → Prop} {a c9 w9 : Nat} {S : zS}
    (hM : zMd I a S) (hW : zWf S) (hc : c9 < 12) (hw : 3 ≤ w9 ∧ w9 ≤ 5) (k1 : Qp I (some (vi (qWh S c9 w9)))) :
    zC l D b0 tA sa sv K yX8_whereIs (.code yX8_whereIs cX8_whereIs 6 (some .int)) zrm_X8_whereIs [vr (a) 15, vi ((nI c9)), vi ((nI w9))] I Qp Xp := by
  refine zC_of (by decide +kernel) (Nat.le_of_ble_eq_true rfl) ?_
  intro p e s m args below meth c X hnt
  have X : zX p l e zrm_X8_whereIs s m args below meth c RX8 cX8_whereIs 6 (some .int) D b0 tA sa sv := X
  refine zr_lv (lv2 := [some (vr (a) 15), some (vi ((nI c9))), some (vi ((nI w9))), none, none, none]) rfl ?_
  refine zr_iconst (v := (0 : Int32)) X dX8_whereIs_0 (by decide) ?_
  refine zr_istore3 X (by decide) rfl dX8_whereIs_1 ?_
  exact zl_X8_whereIs X hnt hM hW hc hw k1 (zng S + 1) 0 (by omega) (fun _ _ _ _ => by omega) (by omega)
abbrev zrm_X8_against : Room := { frames := 3, cells := 0, slots := 0, locals := 68 }
set_option maxRecDepth 20000 in
theorem znone_X8_against {l : Launch} {D : va_G} {b0 : Nat} {tA : Nat → ClassId} {sa sv : Nat → Nat} {K : Nat → Option Nat} {I : zI} {Qp : zI → Option AV → Prop} {Xp : String → zI → Prop} {a g s9 : Nat} {S : zS}
    (hM : zMd I a S) (hW : zWf S) (hg : g < 6) (hs : s9 < 2) (k1 : Qp I (some (vi (nI (qWhy S g s9 0))))) :
    zC l D b0 tA sa sv K yX8_against (.code yX8_against cX8_against 4 (some .int)) zrm_X8_against [vr (a) 15, vi ((nI g)), vi ((nI s9)), vi ((-1 : Int32))] I Qp Xp := by
  have hg6 := hW.ng.1
  have hc12 := hW.nc.1
  have hl9 := hW.len g s9
  refine zC_of (by decide +kernel) (Nat.le_of_ble_eq_true rfl) ?_
  intro p e s m args below meth c X hnt
  have X : zX p l e zrm_X8_against s m args below meth c RX8 cX8_against 4 (some .int) D b0 tA sa sv := X
  refine zr_lv (lv2 := [some (vr (a) 15), some (vi ((nI g))), some (vi ((nI s9))), some (vi ((-1 : Int32)))]) rfl ?_
  refine zr_aload0 X dX8_against_0 ?_
  refine zr_iload1 X dX8_against_1 ?_
  refine zr_iconst (v := (0 : Int32)) X dX8_against_2 (by decide) ?_
  refine zr_callS2 (rm9 := zrm_X8_gateAt) X hnt zm_X8_34 (by decide) (by decide) (by decide) (Nat.le_of_ble_eq_true rfl) dX8_against_3 ?_
  refine zn_X8_gateAt (g := g) (w := 0) ?_
  refine zr_ialdN (n := 16 + 29 * g + 0) X rfl (show _ < 310 from (by first | assumption | omega | decide)) dX8_against_6 ?_
  refine zr_eq (x2 := (sG S g 0)) ((hM.2.1 g (by omega)).1 0 (by first | decide | omega)) ?_
  refine zr_iload2 X dX8_against_7 ?_
  refine zr_callS2 (rm9 := zrm_X8_serves) X hnt zm_X8_46 (by decide) (by decide) (by decide) (Nat.le_of_ble_eq_true rfl) dX8_against_8 ?_
  refine zq_X8_serves (s9 := s9) ?_ ?_
  · skip
    intro hs1
    refine zr_if_ne (tgt := 16) X dX8_against_11 (by decide) (fun _ => ?_) (fun h => absurd h (by decide))
    refine zr_aload0 X dX8_against_16 ?_
    refine zr_iload1 X dX8_against_17 ?_
    refine zr_iload2 X dX8_against_18 ?_
    refine zr_callS3 (rm9 := zrm_X8_many) X hnt zm_X8_38 (by decide) (by decide) (by decide) (Nat.le_of_ble_eq_true rfl) dX8_against_19 ?_
    refine zn_X8_many (g := g) (s9 := s9) hM (by omega) (by omega) ?_
    refine zr_bipush (v := (10 : Int32)) X dX8_against_22 (by decide) ?_
    refine zr_nicmp_ne X (((sL S g s9).length)) (10) (tgt := 29) (by omega) (by omega) dX8_against_24 (by decide) (fun h2 => ?_) (fun h2 => ?_)
    · skip
      refine zr_iload3 X dX8_against_29 ?_
      refine zr_iconst (v := (-1 : Int32)) X dX8_against_30 (by decide) ?_
      refine zr_icmp_eq (tgt := 46) X dX8_against_31 (by decide) (fun _ => ?_) (fun h => absurd h (by decide))
      refine zr_iload2 X dX8_against_46 ?_
      refine zr_iconst (v := (1 : Int32)) X dX8_against_47 (by decide) ?_
      refine zr_nicmp_ne X (s9) (1) (tgt := 66) (by omega) (by omega) dX8_against_48 (by decide) (fun h3 => ?_) (fun h3 => ?_)
      · skip
        refine zr_iconst (v := (0 : Int32)) X dX8_against_66 (by decide) ?_
        refine zr_iret X (by decide) (by decide) dX8_against_67 ?_
        have e9 : qWhy S g s9 0 = 0 := by unfold qWhy; rw [if_neg (fun z => z hs1), if_neg (by first | exact h2 | omega), if_neg (fun z => z.1 rfl), if_neg (fun z => absurd z.1 (by first | exact h3 | omega))]
        rw [e9] at k1; exact k1
      · skip
        refine zr_aload0 X dX8_against_51 ?_
        refine zr_iconst (v := (1 : Int32)) X dX8_against_52 (by decide) ?_
        refine zr_callS2 (rm9 := zrm_X8_inLines) X hnt zm_X8_53 (by decide) (by decide) (by decide) (Nat.le_of_ble_eq_true rfl) dX8_against_53 ?_
        refine zp_X8_inLines (s9 := 1) hM hW (by omega) ?_
        refine zr_aload0 X dX8_against_56 ?_
        refine zr_iconst (v := (3 : Int32)) X dX8_against_57 (by decide) ?_
        refine zr_ialdN (n := 3) X rfl (show _ < 310 from (by first | assumption | omega | decide)) dX8_against_58 ?_
        refine zr_eq (x2 := (sX S 3)) (hM.1 3 (by decide)) ?_
        refine zr_icmp_lt (tgt := 66) X dX8_against_59 (by decide) (fun h4 => ?_) (fun h4 => ?_)
        · skip
          refine zr_iconst (v := (0 : Int32)) X dX8_against_66 (by decide) ?_
          refine zr_iret X (by decide) (by decide) dX8_against_67 ?_
          have e9 : qWhy S g s9 0 = 0 := by unfold qWhy; rw [if_neg (fun z => z hs1), if_neg (by first | exact h2 | omega), if_neg (fun z => z.1 rfl), if_neg (fun z => absurd z.2 (Int32.not_le.mpr h4))]
          rw [e9] at k1; exact k1
        · skip
          refine zr_iconst (v := (4 : Int32)) X dX8_against_62 (by decide) ?_
          refine zr_goto (tgt := 67) X dX8_against_63 (by decide) ?_
          refine zr_iret X (by decide) (by decide) dX8_against_67 ?_
          have e9 : qWhy S g s9 0 = 4 := by unfold qWhy; rw [if_neg (fun z => z hs1), if_neg (by first | exact h2 | omega), if_neg (fun z => z.1 rfl), if_pos ⟨by first | exact h3 | omega, Int32.not_lt.mp h4⟩]
          rw [e9] at k1; exact k1
    · skip
      refine zr_iconst (v := (2 : Int32)) X dX8_against_27 (by decide) ?_
      refine zr_iret X (by decide) (by decide) dX8_against_28 ?_
      have e9 : qWhy S g s9 0 = 2 := by unfold qWhy; rw [if_neg (fun z => z hs1), if_pos (by first | exact h2 | omega)]
      rw [e9] at k1; exact k1
  · skip
    intro hs1
    refine zr_if_ne (tgt := 16) X dX8_against_11 (by decide) (fun h => absurd h (by decide)) (fun _ => ?_)
    refine zr_iconst (v := (1 : Int32)) X dX8_against_14 (by decide) ?_
    refine zr_iret X (by decide) (by decide) dX8_against_15 ?_
    have e9 : qWhy S g s9 0 = 1 := by unfold qWhy; rw [if_pos hs1]
    rw [e9] at k1; exact k1
set_option maxRecDepth 20000 in
theorem zok_X8_against {l : Launch} {D : va_G} {b0 : Nat} {tA : Nat → ClassId} {sa sv : Nat → Nat} {K : Nat → Option Nat} {I : zI} {Qp : zI → Option AV → Prop} {Xp : String → zI → Prop} {a g s9 c9 : Nat} {S : zS}
    (hM : zMd I a S) (hW : zWf S) (hg : g < 6) (hs : s9 < 2) (hc : c9 < 12) (k1 : Qp I (some (vi (nI (qWhy S g s9 (c9 + 1)))))) :
    zC l D b0 tA sa sv K yX8_against (.code yX8_against cX8_against 4 (some .int)) zrm_X8_against [vr (a) 15, vi ((nI g)), vi ((nI s9)), vi ((nI c9))] I Qp Xp := by
  have hg6 := hW.ng.1
  have hc12 := hW.nc.1
  have hl9 := hW.len g s9
  refine zC_of (by decide +kernel) (Nat.le_of_ble_eq_true rfl) ?_
  intro p e s m args below meth c X hnt
  have X : zX p l e zrm_X8_against s m args below meth c RX8 cX8_against 4 (some .int) D b0 tA sa sv := X
  refine zr_lv (lv2 := [some (vr (a) 15), some (vi ((nI g))), some (vi ((nI s9))), some (vi ((nI c9)))]) rfl ?_
  refine zr_aload0 X dX8_against_0 ?_
  refine zr_iload1 X dX8_against_1 ?_
  refine zr_iconst (v := (0 : Int32)) X dX8_against_2 (by decide) ?_
  refine zr_callS2 (rm9 := zrm_X8_gateAt) X hnt zm_X8_34 (by decide) (by decide) (by decide) (Nat.le_of_ble_eq_true rfl) dX8_against_3 ?_
  refine zn_X8_gateAt (g := g) (w := 0) ?_
  refine zr_ialdN (n := 16 + 29 * g + 0) X rfl (show _ < 310 from (by first | assumption | omega | decide)) dX8_against_6 ?_
  refine zr_eq (x2 := (sG S g 0)) ((hM.2.1 g (by omega)).1 0 (by first | decide | omega)) ?_
  refine zr_iload2 X dX8_against_7 ?_
  refine zr_callS2 (rm9 := zrm_X8_serves) X hnt zm_X8_46 (by decide) (by decide) (by decide) (Nat.le_of_ble_eq_true rfl) dX8_against_8 ?_
  refine zq_X8_serves (s9 := s9) ?_ ?_
  · skip
    intro hs1
    refine zr_if_ne (tgt := 16) X dX8_against_11 (by decide) (fun _ => ?_) (fun h => absurd h (by decide))
    refine zr_aload0 X dX8_against_16 ?_
    refine zr_iload1 X dX8_against_17 ?_
    refine zr_iload2 X dX8_against_18 ?_
    refine zr_callS3 (rm9 := zrm_X8_many) X hnt zm_X8_38 (by decide) (by decide) (by decide) (Nat.le_of_ble_eq_true rfl) dX8_against_19 ?_
    refine zn_X8_many (g := g) (s9 := s9) hM (by omega) (by omega) ?_
    refine zr_bipush (v := (10 : Int32)) X dX8_against_22 (by decide) ?_
    refine zr_nicmp_ne X (((sL S g s9).length)) (10) (tgt := 29) (by omega) (by omega) dX8_against_24 (by decide) (fun h2 => ?_) (fun h2 => ?_)
    · skip
      refine zr_iload3 X dX8_against_29 ?_
      refine zr_iconst (v := (-1 : Int32)) X dX8_against_30 (by decide) ?_
      refine zr_icmp_eq (tgt := 46) X dX8_against_31 (by decide) (fun h => absurd h (zm1 (by omega))) (fun _ => ?_)
      refine zr_aload0 X dX8_against_34 ?_
      refine zr_iload3 X dX8_against_35 ?_
      refine zr_iconst (v := (3 : Int32)) X dX8_against_36 (by decide) ?_
      refine zr_callS3 (rm9 := zrm_X8_whereIs) X hnt zm_X8_50 (by decide) (by decide) (by decide) (Nat.le_of_ble_eq_true rfl) dX8_against_37 ?_
      refine zp_X8_whereIs (c9 := c9) (w9 := 3) hM hW (by omega) (by omega) ?_
      refine zr_iconst (v := (-1 : Int32)) X dX8_against_40 (by decide) ?_
      refine zr_icmp_eq (tgt := 46) X dX8_against_41 (by decide) (fun h3 => ?_) (fun h3 => ?_)
      · skip
        refine zr_iload2 X dX8_against_46 ?_
        refine zr_iconst (v := (1 : Int32)) X dX8_against_47 (by decide) ?_
        refine zr_nicmp_ne X (s9) (1) (tgt := 66) (by omega) (by omega) dX8_against_48 (by decide) (fun h4 => ?_) (fun h4 => ?_)
        · skip
          refine zr_iconst (v := (0 : Int32)) X dX8_against_66 (by decide) ?_
          refine zr_iret X (by decide) (by decide) dX8_against_67 ?_
          have e9 : qWhy S g s9 (c9 + 1) = 0 := by unfold qWhy; rw [if_neg (fun z => z hs1), if_neg (by first | exact h2 | omega), if_neg (fun z => z.2 ((qWh_3n hW).mp h3)), if_neg (fun z => absurd z.1 (by first | exact h4 | omega))]
          rw [e9] at k1; exact k1
        · skip
          refine zr_aload0 X dX8_against_51 ?_
          refine zr_iconst (v := (1 : Int32)) X dX8_against_52 (by decide) ?_
          refine zr_callS2 (rm9 := zrm_X8_inLines) X hnt zm_X8_53 (by decide) (by decide) (by decide) (Nat.le_of_ble_eq_true rfl) dX8_against_53 ?_
          refine zp_X8_inLines (s9 := 1) hM hW (by omega) ?_
          refine zr_aload0 X dX8_against_56 ?_
          refine zr_iconst (v := (3 : Int32)) X dX8_against_57 (by decide) ?_
          refine zr_ialdN (n := 3) X rfl (show _ < 310 from (by first | assumption | omega | decide)) dX8_against_58 ?_
          refine zr_eq (x2 := (sX S 3)) (hM.1 3 (by decide)) ?_
          refine zr_icmp_lt (tgt := 66) X dX8_against_59 (by decide) (fun h5 => ?_) (fun h5 => ?_)
          · skip
            refine zr_iconst (v := (0 : Int32)) X dX8_against_66 (by decide) ?_
            refine zr_iret X (by decide) (by decide) dX8_against_67 ?_
            have e9 : qWhy S g s9 (c9 + 1) = 0 := by unfold qWhy; rw [if_neg (fun z => z hs1), if_neg (by first | exact h2 | omega), if_neg (fun z => z.2 ((qWh_3n hW).mp h3)), if_neg (fun z => absurd z.2 (Int32.not_le.mpr h5))]
            rw [e9] at k1; exact k1
          · skip
            refine zr_iconst (v := (4 : Int32)) X dX8_against_62 (by decide) ?_
            refine zr_goto (tgt := 67) X dX8_against_63 (by decide) ?_
            refine zr_iret X (by decide) (by decide) dX8_against_67 ?_
            have e9 : qWhy S g s9 (c9 + 1) = 4 := by unfold qWhy; rw [if_neg (fun z => z hs1), if_neg (by first | exact h2 | omega), if_neg (fun z => z.2 ((qWh_3n hW).mp h3)), if_pos ⟨by first | exact h4 | omega, Int32.not_lt.mp h5⟩]
            rw [e9] at k1; exact k1
      · skip
        refine zr_iconst (v := (3 : Int32)) X dX8_against_44 (by decide) ?_
        refine zr_iret X (by decide) (by decide) dX8_against_45 ?_
        have e9 : qWhy S g s9 (c9 + 1) = 3 := by unfold qWhy; rw [if_neg (fun z => z hs1), if_neg (by first | exact h2 | omega), if_pos ⟨Nat.succ_ne_zero _, fun z => h3 ((qWh_3n hW).mpr z)⟩]
        rw [e9] at k1; exact k1
    · skip
      refine zr_iconst (v := (2 : Int32)) X dX8_against_27 (by decide) ?_
      refine zr_iret X (by decide) (by decide) dX8_against_28 ?_
      have e9 : qWhy S g s9 (c9 + 1) = 2 := by unfold qWhy; rw [if_neg (fun z => z hs1), if_pos (by first | exact h2 | omega)]
      rw [e9] at k1; exact k1
  · skip
    intro hs1
    refine zr_if_ne (tgt := 16) X dX8_against_11 (by decide) (fun h => absurd h (by decide)) (fun _ => ?_)
    refine zr_iconst (v := (1 : Int32)) X dX8_against_14 (by decide) ?_
    refine zr_iret X (by decide) (by decide) dX8_against_15 ?_
    have e9 : qWhy S g s9 (c9 + 1) = 1 := by unfold qWhy; rw [if_pos hs1]
    rw [e9] at k1; exact k1
abbrev zrm_X8_joins : Room := { frames := 4, cells := 0, slots := 0, locals := 91 }
set_option maxRecDepth 20000 in
theorem znone_X8_joins {l : Launch} {D : va_G} {b0 : Nat} {tA : Nat → ClassId} {sa sv : Nat → Nat} {K : Nat → Option Nat} {I : zI} {Qp : zI → Option AV → Prop} {Xp : String → zI → Prop} {a g s9 : Nat} {S : zS}
    (hM : zMd I a S) (hW : zWf S) (hg : g < 6) (hs : s9 < 2) (k1 : qWhy S g s9 0 = 0 → ∀ J : zI, zag I J a 1 → zMd J a (tL S g s9 (sL S g s9 ++ [0])) → Qp J (some (vi (nI ((sL S g s9).length + 1))))) (k2 : ¬ qWhy S g s9 0 = 0 → Qp I (some (vi (-nI (qWhy S g s9 0))))) :
    zC l D b0 tA sa sv K yX8_joins (.code yX8_joins cX8_joins 5 (some .int)) zrm_X8_joins [vr (a) 15, vi ((nI g)), vi ((nI s9)), vi ((-1 : Int32))] I Qp Xp := by
  have hg6 := hW.ng.1
  have hc12 := hW.nc.1
  have hl9 := hW.len g s9
  refine zC_of (by decide +kernel) (Nat.le_of_ble_eq_true rfl) ?_
  intro p e s m args below meth c X hnt
  have X : zX p l e zrm_X8_joins s m args below meth c RX8 cX8_joins 5 (some .int) D b0 tA sa sv := X
  refine zr_lv (lv2 := [some (vr (a) 15), some (vi ((nI g))), some (vi ((nI s9))), some (vi ((-1 : Int32))), none]) rfl ?_
  refine zr_aload0 X dX8_joins_0 ?_
  refine zr_iload1 X dX8_joins_1 ?_
  refine zr_iload2 X dX8_joins_2 ?_
  refine zr_iload3 X dX8_joins_3 ?_
  refine zr_callS4 (rm9 := zrm_X8_against) X hnt zm_X8_57 (by decide) (by decide) (by decide) (Nat.le_of_ble_eq_true rfl) dX8_joins_4 ?_
  refine znone_X8_against (g := g) (s9 := s9) hM hW (by omega) (by omega) ?_; have hq5 := qWhy_lt (S := S) (g := g) (s := s9) (w := 0)
  refine zr_istore4 X (by decide) rfl dX8_joins_7 ?_
  refine zr_iload4 X dX8_joins_9 ?_
  refine zr_nif_le X ((qWhy S g s9 0)) (tgt := 18) (by omega) dX8_joins_11 (by decide) (fun h1 => ?_) (fun h1 => ?_)
  · skip
    refine zr_aload0 X dX8_joins_18 ?_
    refine zr_iload1 X dX8_joins_19 ?_
    refine zr_iload2 X dX8_joins_20 ?_
    refine zr_aload0 X dX8_joins_21 ?_
    refine zr_iload1 X dX8_joins_22 ?_
    refine zr_iload2 X dX8_joins_23 ?_
    refine zr_callS3 (rm9 := zrm_X8_many) X hnt zm_X8_38 (by decide) (by decide) (by decide) (Nat.le_of_ble_eq_true rfl) dX8_joins_24 ?_
    refine zn_X8_many (g := g) (s9 := s9) hM (by omega) (by omega) ?_
    refine zr_callS3 (rm9 := zrm_X8_placeAt) X hnt zm_X8_42 (by decide) (by decide) (by decide) (Nat.le_of_ble_eq_true rfl) dX8_joins_27 ?_
    refine zn_X8_placeAt (g := g) (s9 := s9) (k9 := (sL S g s9).length) ?_
    refine zr_iload3 X dX8_joins_30 ?_
    refine zr_iconst (v := (1 : Int32)) X dX8_joins_31 (by decide) ?_
    refine zr_iadd X dX8_joins_32 ?_
    refine zr_eq (x2 := (nI 0)) (by rfl) ?_
    refine zr_iastN X rfl (show _ < 310 from (by first | assumption | omega)) dX8_joins_33 ?_
    refine zr_aload0 X dX8_joins_34 ?_
    refine zr_iload1 X dX8_joins_35 ?_
    refine zr_bipush (v := (7 : Int32)) X dX8_joins_36 (by decide) ?_
    refine zr_iload2 X dX8_joins_38 ?_
    refine zr_iadd X dX8_joins_39 ?_
    refine zr_eq (x2 := (nI (7 + s9))) (nI_add (7) (s9)) ?_
    refine zr_callS2 (rm9 := zrm_X8_gateAt) X hnt zm_X8_34 (by decide) (by decide) (by decide) (Nat.le_of_ble_eq_true rfl) dX8_joins_40 ?_
    refine zn_X8_gateAt (g := g) (w := 7 + s9) ?_
    refine zr_dup2 X dX8_joins_43 ?_
    refine zr_ialdN X rfl (show _ < 310 from (by first | assumption | omega)) dX8_joins_44 ?_
    refine zr_eq (x2 := (nI ((sL S g s9).length))) (by rw [zput_nj (by omega)]; exact ((hM.2.1 g hg).2 s9 hs).1) ?_
    refine zr_iconst (v := (1 : Int32)) X dX8_joins_45 (by decide) ?_
    refine zr_iadd X dX8_joins_46 ?_
    refine zr_eq (x2 := (nI (((sL S g s9).length) + 1))) (nI_add (((sL S g s9).length)) (1)) ?_
    refine zr_iastN X rfl (show _ < 310 from (by first | assumption | omega)) dX8_joins_47 ?_
    have hM9 := zMd_add (x := 0) hM hg hs (by have := (qWhy_0 h1).2.1; omega)
    have e9 : (sL (tL S g s9 (sL S g s9 ++ [0])) g s9).length = (sL S g s9).length + 1 := by rw [tL_L, if_pos ⟨rfl, rfl⟩, List.length_append]; rfl
    refine zr_aload0 X dX8_joins_48 ?_
    refine zr_iload1 X dX8_joins_49 ?_
    refine zr_iload2 X dX8_joins_50 ?_
    refine zr_callS3 (rm9 := zrm_X8_many) X hnt zm_X8_38 (by decide) (by decide) (by decide) (Nat.le_of_ble_eq_true rfl) dX8_joins_51 ?_
    refine zn_X8_many (g := g) (s9 := s9) hM9 (by omega) (by omega) ?_
    refine zr_iret X (by decide) (by decide) dX8_joins_54 ?_
    rw [e9]; exact k1 h1 _ (fun q hq => (zput_nq (by omega)).trans (zput_nq (by omega))) hM9
  · skip
    refine zr_iload4 X dX8_joins_14 ?_
    refine zr_ineg X dX8_joins_16 ?_
    refine zr_iret X (by decide) (by decide) dX8_joins_17 ?_
    exact k2 h1
set_option maxRecDepth 20000 in
theorem zok_X8_joins {l : Launch} {D : va_G} {b0 : Nat} {tA : Nat → ClassId} {sa sv : Nat → Nat} {K : Nat → Option Nat} {I : zI} {Qp : zI → Option AV → Prop} {Xp : String → zI → Prop} {a g s9 c9 : Nat} {S : zS}
    (hM : zMd I a S) (hW : zWf S) (hg : g < 6) (hs : s9 < 2) (hc : c9 < 12) (k1 : qWhy S g s9 (c9 + 1) = 0 → ∀ J : zI, zag I J a 1 → zMd J a (tL S g s9 (sL S g s9 ++ [(c9 + 1)])) → Qp J (some (vi (nI ((sL S g s9).length + 1))))) (k2 : ¬ qWhy S g s9 (c9 + 1) = 0 → Qp I (some (vi (-nI (qWhy S g s9 (c9 + 1)))))) :
    zC l D b0 tA sa sv K yX8_joins (.code yX8_joins cX8_joins 5 (some .int)) zrm_X8_joins [vr (a) 15, vi ((nI g)), vi ((nI s9)), vi ((nI c9))] I Qp Xp := by
  have hg6 := hW.ng.1
  have hc12 := hW.nc.1
  have hl9 := hW.len g s9
  refine zC_of (by decide +kernel) (Nat.le_of_ble_eq_true rfl) ?_
  intro p e s m args below meth c X hnt
  have X : zX p l e zrm_X8_joins s m args below meth c RX8 cX8_joins 5 (some .int) D b0 tA sa sv := X
  refine zr_lv (lv2 := [some (vr (a) 15), some (vi ((nI g))), some (vi ((nI s9))), some (vi ((nI c9))), none]) rfl ?_
  refine zr_aload0 X dX8_joins_0 ?_
  refine zr_iload1 X dX8_joins_1 ?_
  refine zr_iload2 X dX8_joins_2 ?_
  refine zr_iload3 X dX8_joins_3 ?_
  refine zr_callS4 (rm9 := zrm_X8_against) X hnt zm_X8_57 (by decide) (by decide) (by decide) (Nat.le_of_ble_eq_true rfl) dX8_joins_4 ?_
  refine zok_X8_against (g := g) (s9 := s9) hM hW (by omega) (by omega) (by omega) ?_; have hq5 := qWhy_lt (S := S) (g := g) (s := s9) (w := (c9 + 1))
  refine zr_istore4 X (by decide) rfl dX8_joins_7 ?_
  refine zr_iload4 X dX8_joins_9 ?_
  refine zr_nif_le X ((qWhy S g s9 (c9 + 1))) (tgt := 18) (by omega) dX8_joins_11 (by decide) (fun h1 => ?_) (fun h1 => ?_)
  · skip
    refine zr_aload0 X dX8_joins_18 ?_
    refine zr_iload1 X dX8_joins_19 ?_
    refine zr_iload2 X dX8_joins_20 ?_
    refine zr_aload0 X dX8_joins_21 ?_
    refine zr_iload1 X dX8_joins_22 ?_
    refine zr_iload2 X dX8_joins_23 ?_
    refine zr_callS3 (rm9 := zrm_X8_many) X hnt zm_X8_38 (by decide) (by decide) (by decide) (Nat.le_of_ble_eq_true rfl) dX8_joins_24 ?_
    refine zn_X8_many (g := g) (s9 := s9) hM (by omega) (by omega) ?_
    refine zr_callS3 (rm9 := zrm_X8_placeAt) X hnt zm_X8_42 (by decide) (by decide) (by decide) (Nat.le_of_ble_eq_true rfl) dX8_joins_27 ?_
    refine zn_X8_placeAt (g := g) (s9 := s9) (k9 := (sL S g s9).length) ?_
    refine zr_iload3 X dX8_joins_30 ?_
    refine zr_iconst (v := (1 : Int32)) X dX8_joins_31 (by decide) ?_
    refine zr_iadd X dX8_joins_32 ?_
    refine zr_eq (x2 := (nI (c9 + 1))) (nI_add (c9) (1)) ?_
    refine zr_iastN X rfl (show _ < 310 from (by first | assumption | omega)) dX8_joins_33 ?_
    refine zr_aload0 X dX8_joins_34 ?_
    refine zr_iload1 X dX8_joins_35 ?_
    refine zr_bipush (v := (7 : Int32)) X dX8_joins_36 (by decide) ?_
    refine zr_iload2 X dX8_joins_38 ?_
    refine zr_iadd X dX8_joins_39 ?_
    refine zr_eq (x2 := (nI (7 + s9))) (nI_add (7) (s9)) ?_
    refine zr_callS2 (rm9 := zrm_X8_gateAt) X hnt zm_X8_34 (by decide) (by decide) (by decide) (Nat.le_of_ble_eq_true rfl) dX8_joins_40 ?_
    refine zn_X8_gateAt (g := g) (w := 7 + s9) ?_
    refine zr_dup2 X dX8_joins_43 ?_
    refine zr_ialdN X rfl (show _ < 310 from (by first | assumption | omega)) dX8_joins_44 ?_
    refine zr_eq (x2 := (nI ((sL S g s9).length))) (by rw [zput_nj (by omega)]; exact ((hM.2.1 g hg).2 s9 hs).1) ?_
    refine zr_iconst (v := (1 : Int32)) X dX8_joins_45 (by decide) ?_
    refine zr_iadd X dX8_joins_46 ?_
    refine zr_eq (x2 := (nI (((sL S g s9).length) + 1))) (nI_add (((sL S g s9).length)) (1)) ?_
    refine zr_iastN X rfl (show _ < 310 from (by first | assumption | omega)) dX8_joins_47 ?_
    have hM9 := zMd_add (x := (c9 + 1)) hM hg hs (by have := (qWhy_0 h1).2.1; omega)
    have e9 : (sL (tL S g s9 (sL S g s9 ++ [(c9 + 1)])) g s9).length = (sL S g s9).length + 1 := by rw [tL_L, if_pos ⟨rfl, rfl⟩, List.length_append]; rfl
    refine zr_aload0 X dX8_joins_48 ?_
    refine zr_iload1 X dX8_joins_49 ?_
    refine zr_iload2 X dX8_joins_50 ?_
    refine zr_callS3 (rm9 := zrm_X8_many) X hnt zm_X8_38 (by decide) (by decide) (by decide) (Nat.le_of_ble_eq_true rfl) dX8_joins_51 ?_
    refine zn_X8_many (g := g) (s9 := s9) hM9 (by omega) (by omega) ?_
    refine zr_iret X (by decide) (by decide) dX8_joins_54 ?_
    rw [e9]; exact k1 h1 _ (fun q hq => (zput_nq (by omega)).trans (zput_nq (by omega))) hM9
  · skip
    refine zr_iload4 X dX8_joins_14 ?_
    refine zr_ineg X dX8_joins_16 ?_
    refine zr_iret X (by decide) (by decide) dX8_joins_17 ?_
    exact k2 h1
abbrev zrm_X8_refusal : Room := { frames := 1, cells := 0, slots := 0, locals := 21 }
set_option maxRecDepth 20000 in
theorem zn_X8_refusal {l : Launch} {D : va_G} {b0 : Nat} {tA : Nat → ClassId} {sa sv : Nat → Nat} {K : Nat → Option Nat} {I : zI} {Qp : zI → Option AV → Prop} {Xp : String → zI → Prop} {a c9 s9 : Nat} {S : zS}
    (hM : zMd I a S) (hc : c9 < 12) (hs : s9 < 2) (k1 : Qp I (some (vi (nI (qRef S c9 s9))))) :
    zC l D b0 tA sa sv K yX8_refusal (.code yX8_refusal cX8_refusal 3 (some .int)) zrm_X8_refusal [vr (a) 15, vi ((nI c9)), vi ((nI s9))] I Qp Xp := by
  refine zC_of (by decide +kernel) (Nat.le_of_ble_eq_true rfl) ?_
  intro p e s m args below meth c X hnt
  have X : zX p l e zrm_X8_refusal s m args below meth c RX8 cX8_refusal 3 (some .int) D b0 tA sa sv := X
  refine zr_lv (lv2 := [some (vr (a) 15), some (vi ((nI c9))), some (vi ((nI s9)))]) rfl ?_
  refine zr_aload0 X dX8_refusal_0 ?_
  refine zr_iload1 X dX8_refusal_1 ?_
  refine zr_iconst (v := (2 : Int32)) X dX8_refusal_2 (by decide) ?_
  refine zr_callS2 (rm9 := zrm_X8_cardAt) X hnt zm_X8_61 (by decide) (by decide) (by decide) (Nat.le_of_ble_eq_true rfl) dX8_refusal_3 ?_
  refine zn_X8_cardAt (g := c9) (w := 2) ?_
  refine zr_ialdN (n := 190 + 10 * c9 + 2) X rfl (show _ < 310 from (by first | assumption | omega | decide)) dX8_refusal_6 ?_
  refine zr_eq (x2 := (sC S c9 2)) ((hM.2.2 c9 (by omega)).1 2 (by decide)) ?_
  refine zr_iconst (v := (1 : Int32)) X dX8_refusal_7 (by decide) ?_
  refine zr_icmp_ne (tgt := 13) X dX8_refusal_8 (by decide) (fun h1 => ?_) (fun h1 => ?_)
  · skip
    refine zr_aload0 X dX8_refusal_13 ?_
    refine zr_iload1 X dX8_refusal_14 ?_
    refine zr_iconst (v := (1 : Int32)) X dX8_refusal_15 (by decide) ?_
    refine zr_callS2 (rm9 := zrm_X8_cardAt) X hnt zm_X8_61 (by decide) (by decide) (by decide) (Nat.le_of_ble_eq_true rfl) dX8_refusal_16 ?_
    refine zn_X8_cardAt (g := c9) (w := 1) ?_
    refine zr_ialdN (n := 190 + 10 * c9 + 1) X rfl (show _ < 310 from (by first | assumption | omega | decide)) dX8_refusal_19 ?_
    refine zr_eq (x2 := (sC S c9 1)) ((hM.2.2 c9 (by omega)).1 1 (by decide)) ?_
    refine zr_iload2 X dX8_refusal_20 ?_
    refine zr_icmp_eq (tgt := 26) X dX8_refusal_21 (by decide) (fun h2 => ?_) (fun h2 => ?_)
    · skip
      refine zr_iload2 X dX8_refusal_26 ?_
      refine zr_nif_ne X (s9) (tgt := 44) (by omega) dX8_refusal_27 (by decide) (fun h3 => ?_) (fun h3 => ?_)
      · skip
        refine zr_iconst (v := (0 : Int32)) X dX8_refusal_44 (by decide) ?_
        refine zr_iret X (by decide) (by decide) dX8_refusal_45 ?_
        have e9 : qRef S c9 s9 = 0 := by unfold qRef; rw [if_neg h1, if_neg (fun z => z h2), if_neg (fun z => absurd z.1 (by first | exact h3 | omega))]
        rw [e9] at k1; exact k1
      · skip
        refine zr_aload0 X dX8_refusal_30 ?_
        refine zr_iload1 X dX8_refusal_31 ?_
        refine zr_iconst (v := (0 : Int32)) X dX8_refusal_32 (by decide) ?_
        refine zr_callS2 (rm9 := zrm_X8_cardAt) X hnt zm_X8_61 (by decide) (by decide) (by decide) (Nat.le_of_ble_eq_true rfl) dX8_refusal_33 ?_
        refine zn_X8_cardAt (g := c9) (w := 0) ?_
        refine zr_ialdN (n := 190 + 10 * c9 + 0) X rfl (show _ < 310 from (by first | assumption | omega | decide)) dX8_refusal_36 ?_
        refine zr_eq (x2 := (sC S c9 0)) ((hM.2.2 c9 (by omega)).1 0 (by decide)) ?_
        refine zr_if_ne (tgt := 44) X dX8_refusal_37 (by decide) (fun h4 => ?_) (fun h4 => ?_)
        · skip
          refine zr_iconst (v := (0 : Int32)) X dX8_refusal_44 (by decide) ?_
          refine zr_iret X (by decide) (by decide) dX8_refusal_45 ?_
          have e9 : qRef S c9 s9 = 0 := by unfold qRef; rw [if_neg h1, if_neg (fun z => z h2), if_neg (fun z => h4 z.2)]
          rw [e9] at k1; exact k1
        · skip
          refine zr_iconst (v := (3 : Int32)) X dX8_refusal_40 (by decide) ?_
          refine zr_goto (tgt := 45) X dX8_refusal_41 (by decide) ?_
          refine zr_iret X (by decide) (by decide) dX8_refusal_45 ?_
          have e9 : qRef S c9 s9 = 3 := by unfold qRef; rw [if_neg h1, if_neg (fun z => z h2), if_pos ⟨by first | exact h3 | omega, h4⟩]
          rw [e9] at k1; exact k1
    · skip
      refine zr_iconst (v := (2 : Int32)) X dX8_refusal_24 (by decide) ?_
      refine zr_iret X (by decide) (by decide) dX8_refusal_25 ?_
      have e9 : qRef S c9 s9 = 2 := by unfold qRef; rw [if_neg h1, if_pos h2]
      rw [e9] at k1; exact k1
  · skip
    refine zr_iconst (v := (1 : Int32)) X dX8_refusal_11 (by decide) ?_
    refine zr_iret X (by decide) (by decide) dX8_refusal_12 ?_
    have e9 : qRef S c9 s9 = 1 := by unfold qRef; rw [if_pos h1]
    rw [e9] at k1; exact k1
abbrev zrm_X8_turnOf : Room := { frames := 2, cells := 0, slots := 0, locals := 43 }
set_option maxRecDepth 20000 in
theorem zn_X8_turnOf {l : Launch} {D : va_G} {b0 : Nat} {tA : Nat → ClassId} {sa sv : Nat → Nat} {K : Nat → Option Nat} {I : zI} {Qp : zI → Option AV → Prop} {Xp : String → zI → Prop} {a g : Nat} {S : zS}
    (hM : zMd I a S) (hg : g < 6) (hm : sG S g 0 = 0 ∨ sG S g 0 = 1 ∨ sG S g 0 = 2) (k1 : Qp I (some (vi (nI (qTurn S g))))) :
    zC l D b0 tA sa sv K yX8_turnOf (.code yX8_turnOf cX8_turnOf 5 (some .int)) zrm_X8_turnOf [vr (a) 15, vi ((nI g))] I Qp Xp := by
  have hl0 := hM.len hg (show 0 < 2 by decide)
  have hl1 := hM.len hg (show 1 < 2 by decide)
  refine zC_of (by decide +kernel) (Nat.le_of_ble_eq_true rfl) ?_
  intro p e s m args below meth c X hnt
  have X : zX p l e zrm_X8_turnOf s m args below meth c RX8 cX8_turnOf 5 (some .int) D b0 tA sa sv := X
  refine zr_lv (lv2 := [some (vr (a) 15), some (vi ((nI g))), none, none, none]) rfl ?_
  refine zr_aload0 X dX8_turnOf_0 ?_
  refine zr_iload1 X dX8_turnOf_1 ?_
  refine zr_iconst (v := (0 : Int32)) X dX8_turnOf_2 (by decide) ?_
  refine zr_callS2 (rm9 := zrm_X8_gateAt) X hnt zm_X8_34 (by decide) (by decide) (by decide) (Nat.le_of_ble_eq_true rfl) dX8_turnOf_3 ?_
  refine zn_X8_gateAt (g := g) (w := 0) ?_
  refine zr_ialdN (n := 16 + 29 * g + 0) X rfl (show _ < 310 from (by first | assumption | omega | decide)) dX8_turnOf_6 ?_
  refine zr_eq (x2 := (sG S g 0)) ((hM.2.1 g (by omega)).1 0 (by first | decide | omega)) ?_
  refine zr_istore2 X (by decide) rfl dX8_turnOf_7 ?_
  refine zr_aload0 X dX8_turnOf_8 ?_
  refine zr_iload1 X dX8_turnOf_9 ?_
  refine zr_iconst (v := (0 : Int32)) X dX8_turnOf_10 (by decide) ?_
  refine zr_callS3 (rm9 := zrm_X8_many) X hnt zm_X8_38 (by decide) (by decide) (by decide) (Nat.le_of_ble_eq_true rfl) dX8_turnOf_11 ?_
  refine zn_X8_many (g := g) (s9 := 0) hM (by omega) (by omega) ?_
  refine zr_istore3 X (by decide) rfl dX8_turnOf_14 ?_
  refine zr_aload0 X dX8_turnOf_15 ?_
  refine zr_iload1 X dX8_turnOf_16 ?_
  refine zr_iconst (v := (1 : Int32)) X dX8_turnOf_17 (by decide) ?_
  refine zr_callS3 (rm9 := zrm_X8_many) X hnt zm_X8_38 (by decide) (by decide) (by decide) (Nat.le_of_ble_eq_true rfl) dX8_turnOf_18 ?_
  refine zn_X8_many (g := g) (s9 := 1) hM (by omega) (by omega) ?_
  refine zr_istore4 X (by decide) rfl dX8_turnOf_21 ?_
  refine zr_iload2 X dX8_turnOf_23 ?_
  refine zr_iconst (v := (2 : Int32)) X dX8_turnOf_24 (by decide) ?_
  refine zr_icmp_ge (tgt := 30) X dX8_turnOf_25 (by decide) (fun h1 => ?_) (fun h1 => ?_)
  · skip
    refine zr_iload3 X dX8_turnOf_30 ?_
    refine zr_iload4 X dX8_turnOf_31 ?_
    refine zr_nicmp_eq X (((sL S g 0).length)) (((sL S g 1).length)) (tgt := 48) (by omega) (by omega) dX8_turnOf_33 (by decide) (fun h2 => ?_) (fun h2 => ?_)
    · skip
      refine zr_aload0 X dX8_turnOf_48 ?_
      refine zr_iload1 X dX8_turnOf_49 ?_
      refine zr_bipush (v := (6 : Int32)) X dX8_turnOf_50 (by decide) ?_
      refine zr_callS2 (rm9 := zrm_X8_gateAt) X hnt zm_X8_34 (by decide) (by decide) (by decide) (Nat.le_of_ble_eq_true rfl) dX8_turnOf_52 ?_
      refine zn_X8_gateAt (g := g) (w := 6) ?_
      refine zr_ialdN (n := 16 + 29 * g + 6) X rfl (show _ < 310 from (by first | assumption | omega | decide)) dX8_turnOf_55 ?_
      refine zr_eq (x2 := (sG S g 6)) ((hM.2.1 g (by omega)).1 6 (by first | decide | omega)) ?_
      refine zr_iconst (v := (1 : Int32)) X dX8_turnOf_56 (by decide) ?_
      refine zr_icmp_ne (tgt := 64) X dX8_turnOf_57 (by decide) (fun h3 => ?_) (fun h3 => ?_)
      · skip
        refine zr_iconst (v := (0 : Int32)) X dX8_turnOf_64 (by decide) ?_
        refine zr_iret X (by decide) (by decide) dX8_turnOf_65 ?_
        have e9 : qTurn S g = 0 := by
          rcases hm with e | e | e
          · exact absurd h1 (by rw [e]; decide)
          · exact absurd h1 (by rw [e]; decide)
          · rw [qTurn, e, if_neg (by decide), if_neg (by decide)]; rw [if_neg (by omega), if_neg h3]
        rw [e9] at k1; exact k1
      · skip
        refine zr_iconst (v := (1 : Int32)) X dX8_turnOf_60 (by decide) ?_
        refine zr_goto (tgt := 65) X dX8_turnOf_61 (by decide) ?_
        refine zr_iret X (by decide) (by decide) dX8_turnOf_65 ?_
        have e9 : qTurn S g = 1 := by
          rcases hm with e | e | e
          · exact absurd h1 (by rw [e]; decide)
          · exact absurd h1 (by rw [e]; decide)
          · rw [qTurn, e, if_neg (by decide), if_neg (by decide)]; rw [if_neg (by omega), if_pos h3]
        rw [e9] at k1; exact k1
    · skip
      refine zr_iload3 X dX8_turnOf_36 ?_
      refine zr_iload4 X dX8_turnOf_37 ?_
      refine zr_nicmp_le X (((sL S g 0).length)) (((sL S g 1).length)) (tgt := 46) (by omega) (by omega) dX8_turnOf_39 (by decide) (fun h4 => ?_) (fun h4 => ?_)
      · skip
        refine zr_iconst (v := (1 : Int32)) X dX8_turnOf_46 (by decide) ?_
        refine zr_iret X (by decide) (by decide) dX8_turnOf_47 ?_
        have e9 : qTurn S g = 1 := by
          rcases hm with e | e | e
          · exact absurd h1 (by rw [e]; decide)
          · exact absurd h1 (by rw [e]; decide)
          · rw [qTurn, e, if_neg (by decide), if_neg (by decide)]; rw [if_pos (by omega), if_neg (by omega)]
        rw [e9] at k1; exact k1
      · skip
        refine zr_iconst (v := (0 : Int32)) X dX8_turnOf_42 (by decide) ?_
        refine zr_goto (tgt := 47) X dX8_turnOf_43 (by decide) ?_
        refine zr_iret X (by decide) (by decide) dX8_turnOf_47 ?_
        have e9 : qTurn S g = 0 := by
          rcases hm with e | e | e
          · exact absurd h1 (by rw [e]; decide)
          · exact absurd h1 (by rw [e]; decide)
          · rw [qTurn, e, if_neg (by decide), if_neg (by decide)]; rw [if_pos (by omega), if_pos (by omega)]
        rw [e9] at k1; exact k1
  · skip
    refine zr_iload2 X dX8_turnOf_28 ?_
    refine zr_iret X (by decide) (by decide) dX8_turnOf_29 ?_
    have e9 : nI (qTurn S g) = sG S g 0 := by rcases hm with e | e | e <;> rw [qTurn, e] <;> first | rfl | exact absurd h1 (by rw [e]; decide)
    rw [e9] at k1; exact k1
