/-! ===== out in a panic ===== -/
theorem zgd12 {w : List Nat} (h : ∀ y ∈ w, y ≤ 12) (k : Nat) : w.getD k 0 ≤ 12 := by
  rw [List.getD_eq_getElem?_getD]
  cases e : w[k]? with
  | none => exact Nat.zero_le _
  | some y => exact h y (List.mem_of_getElem? e)
abbrev zrm_X5_letOutInPanic : Room := { frames := 2, cells := 0, slots := 0, locals := 43 }
set_option maxRecDepth 20000 in
theorem zl_X5_letOutInPanic {l : Launch} {D : va_G} {b0 : Nat} {tA : Nat → ClassId} {sa sv : Nat → Nat} {K : zKt} {I : zI} {Qp : zI → Option AV → Prop} {Xp : String → zI → Prop} {p : Program} {e : Env} {s : State} {m : MethodId} {args : Array Value} {below : List Frame} {meth : Method} {c : Code} {a g f : Nat} {S : zS}
    (X : zX p l e zrm_X5_letOutInPanic s m args below meth c RX5 cX5_letOutInPanic 3 none D b0 tA sa sv) (hnt : ∀ x ∈ c.exceptionTable.toList, False) (hR : zRw I a S) (hg : g < 6) (hf : sX S 1 = nI f) (hf4 : f ≤ 4) (hw : ∀ y ∈ sL S g 1, y ≤ 12) (k1 : ∀ I' : zI, zag I I' a 45 → zRw I' a (qFlee S g f) → Qp I' none) :
    ∀ (n : Nat) (i : Nat) (J : zI) (S9 : zS), i ≤ f → zag I J a 45 → zRw J a S9 → sX S9 1 = nI f → (∀ y ∈ sL S9 g 1, y ≤ 12) → qFlee S9 g (f - i) = qFlee S g f → f + 1 - i < n → zG p l e zrm_X5_letOutInPanic s m args below meth c 3 D b0 tA sa 0 0 (zQ below D b0 tA sa K args s zrm_X5_letOutInPanic Qp Xp) K 2 [some (vr (a) 5), some (vr (a + 1 + 2 + 5 * g + 3) 4), some (vi ((nI i)))] [] J := by
  intro n
  induction n with
  | zero => intro i J S9 i0 i1 i2 i3 i4 i5 i6; exact absurd i6 (Nat.not_lt_zero _)
  | succ n ih =>
    intro i J S9 i0 i1 i2 i3 i4 i5 i6
    have hl9 := (i2.2.2.1 g hg).2.2.2.1
    refine zr_iload2 X dX5_letOutInPanic_2 ?_
    refine zr_aload0 X dX5_letOutInPanic_3 ?_
    refine zr_getI X zf_X5_27 rfl dX5_letOutInPanic_4 ?_
    refine zr_eq (x2 := (sX S9 1)) (i2.1 1 (by decide) (by decide)) ?_
    refine zr_eq (x2 := (nI f)) (i3) ?_
    refine zr_nicmp_ge X (i) (f) (tgt := 43) (by omega) (by omega) dX5_letOutInPanic_7 (by decide) (fun h1 => ?_) (fun h1 => ?_)
    · skip
      refine zr_vret X (by decide) (by decide) dX5_letOutInPanic_43 ?_
      refine k1 J i1 ?_
      rw [← i5]
      have e9 : qFlee S9 g (f - i) = S9 := by first | (rw [show f - i = 0 by omega]; rfl) | (obtain ⟨m9, hm9⟩ : ∃ m9, f - i = m9 + 1 := ⟨f - i - 1, by omega⟩; rw [hm9, qFlee, if_pos (List.length_eq_zero_iff.mp (by assumption))])
      rw [e9]; exact i2
    · skip
      refine zr_aload1 X dX5_letOutInPanic_10 ?_
      refine zr_getI X zf_X5_144 rfl dX5_letOutInPanic_11 ?_
      refine zr_eq (x2 := (nI ((sL S9 g 1).length))) ((i2.2.2.1 g hg).2.2.1) ?_
      refine zr_nif_le X (((sL S9 g 1).length)) (tgt := 43) (by omega) dX5_letOutInPanic_14 (by decide) (fun h2 => ?_) (fun h2 => ?_)
      · skip
        refine zr_vret X (by decide) (by decide) dX5_letOutInPanic_43 ?_
        refine k1 J i1 ?_
        rw [← i5]
        have e9 : qFlee S9 g (f - i) = S9 := by first | (rw [show f - i = 0 by omega]; rfl) | (obtain ⟨m9, hm9⟩ : ∃ m9, f - i = m9 + 1 := ⟨f - i - 1, by omega⟩; rw [hm9, qFlee, if_pos (List.length_eq_zero_iff.mp (by assumption))])
        rw [e9]; exact i2
      · skip
        refine zr_aload0 X dX5_letOutInPanic_17 ?_
        refine zr_aload1 X dX5_letOutInPanic_18 ?_
        refine zr_iconst (v := (0 : Int32)) X dX5_letOutInPanic_19 (by decide) ?_
        refine zr_callV1 (rm9 := zrm_X4_removeAt) X hnt zm_X5_180 (by decide) (by decide) (by decide) (Nat.le_of_ble_eq_true rfl) dX5_letOutInPanic_20 ?_
        refine zp_X4_removeAt (k := 0) (w := (sL S9 g 1)) (i2.2.2.1 g (by omega)).2.2 (by omega) ?_
        intro J1 hg2 hl3; have hR4 : zRw J1 a (tL S9 g 1 ((sL S9 g 1).eraseIdx 0)) := zRw_L i2 (show g < 6 by omega) (Or.inr ⟨rfl, rfl⟩) hg2 hl3
        refine zr_iconst (v := (1 : Int32)) X dX5_letOutInPanic_23 (by decide) ?_
        refine zr_callV2 (rm9 := zrm_X5_goThrough) X hnt zm_X5_183 (by decide) (by decide) (by decide) (Nat.le_of_ble_eq_true rfl) dX5_letOutInPanic_24 ?_
        refine zq_X5_goThrough (w := ((sL S9 g 1).getD 0 0)) (s := 1) hR4 (zgd12 (by first | assumption | exact zmem_erase (by assumption)) 0) (by omega) ?_
        intro J5 hg6 hR7
        refine zr_aload0 X dX5_letOutInPanic_27 ?_
        refine zr_dupR X dX5_letOutInPanic_28 ?_
        refine zr_getI X zf_X5_72 rfl dX5_letOutInPanic_29 ?_
        refine zr_eq (x2 := (sX (qGone (tL S9 g 1 ((sL S9 g 1).eraseIdx 0)) ((sL S9 g 1).getD 0 0) 1) 14)) (hR7.1 14 (by decide) (by decide)) ?_
        refine zr_iconst (v := (1 : Int32)) X dX5_letOutInPanic_32 (by decide) ?_
        refine zr_iadd X dX5_letOutInPanic_33 ?_
        refine zr_putI X zf_X5_72 rfl (Or.inl rfl) dX5_letOutInPanic_34 ?_
        have hR_1 : zRw _ (a) (tX (qGone (tL S9 g 1 ((sL S9 g 1).eraseIdx 0)) ((sL S9 g 1).getD 0 0) 1) 14 ((sX (qGone (tL S9 g 1 ((sL S9 g 1).eraseIdx 0)) ((sL S9 g 1).getD 0 0) 1) 14) + (1 : Int32))) := zRw_X hR7 (i := 14) (v := ((sX (qGone (tL S9 g 1 ((sL S9 g 1).eraseIdx 0)) ((sL S9 g 1).getD 0 0) 1) 14) + (1 : Int32))) (by decide) (by decide)
        refine zr_iinc2 (v := (nI (i + 1))) X (show nI (i) + Int32.ofInt 1 = nI (i + 1) from nI_1 (i)) (by decide) rfl dX5_letOutInPanic_37 ?_
        refine zr_goto (tgt := 2) X dX5_letOutInPanic_40 (by decide) ?_
        refine ih (i + 1) _ (tX (qGone (tL S9 g 1 ((sL S9 g 1).eraseIdx 0)) ((sL S9 g 1).getD 0 0) 1) 14 ((sX (qGone (tL S9 g 1 ((sL S9 g 1).eraseIdx 0)) ((sL S9 g 1).getD 0 0) 1) 14) + (1 : Int32))) (by omega) (by repeat (first | exact zag.rf | assumption | refine zag.put ?_ (by omega) (by omega) | refine zag.tr ?_ (by assumption) (by omega) (by omega))) hR_1 ?_ ?_ ?_ (by omega)
        · show sX (tX (qGoes S9 g 1) 14 (sX (qGoes S9 g 1) 14 + 1)) 1 = nI f
          rw [tX_X, if_neg (by decide)]; exact (qGone_X (by decide)).trans i3
        · show ∀ y ∈ sL (qGoes S9 g 1) g 1, y ≤ 12
          rw [qGoes_L, zu2_eq]; exact zmem_erase i4
        · rw [← i5]; obtain ⟨m9, hm9⟩ : ∃ m9, f - i = m9 + 1 := ⟨f - i - 1, by omega⟩
          rw [hm9, qFlee, if_neg (fun z => absurd (show (sL S9 g 1).length = 0 by rw [z]; rfl) (by assumption)), show f - (i + 1) = m9 by omega]; rfl
set_option maxRecDepth 20000 in
theorem zp_X5_letOutInPanic {l : Launch} {D : va_G} {b0 : Nat} {tA : Nat → ClassId} {sa sv : Nat → Nat} {K : zKt} {I : zI} {Qp : zI → Option AV → Prop} {Xp : String → zI → Prop} {a g f : Nat} {S : zS}
    (hR : zRw I a S) (hg : g < 6) (hf : sX S 1 = nI f) (hf4 : f ≤ 4) (hw : ∀ y ∈ sL S g 1, y ≤ 12) (k1 : ∀ I' : zI, zag I I' a 45 → zRw I' a (qFlee S g f) → Qp I' none) :
    zC l D b0 tA sa sv K yX5_letOutInPanic (.code yX5_letOutInPanic cX5_letOutInPanic 3 none) zrm_X5_letOutInPanic [vr (a) 5, vr (a + 1 + 2 + 5 * g + 3) 4] I Qp Xp := by
  refine zC_of (by decide +kernel) (Nat.le_of_ble_eq_true rfl) ?_
  intro p e s m args below meth c X hnt
  have X : zX p l e zrm_X5_letOutInPanic s m args below meth c RX5 cX5_letOutInPanic 3 none D b0 tA sa sv := X
  refine zr_lv (lv2 := [some (vr (a) 5), some (vr (a + 1 + 2 + 5 * g + 3) 4), none]) rfl ?_
  refine zr_iconst (v := (0 : Int32)) X dX5_letOutInPanic_0 (by decide) ?_
  refine zr_istore2 X (by decide) rfl dX5_letOutInPanic_1 ?_
  exact zl_X5_letOutInPanic X hnt hR hg hf hf4 hw k1 (f + 2) 0 I S (by omega) zag.rf hR hf hw rfl (by omega)
