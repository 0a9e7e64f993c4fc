/-! ===== the class reads bytes ===== -/
section ZBN
variable {p : Program} {l : Launch} {e : Env} {R : Room} {s : State} {m : MethodId} {args : Array Value} {below : List Frame} {meth : Method} {c : Code} {cells slots : Nat} {Q : State → Prop}
variable {cc : ByteArray} {pc nL : Nat} {D : va_G} {b0 : Nat} {tA : Nat → ClassId} {sa sv : Nat → Nat} {K : zKt} {own : String} {ret : Option FieldType} {lv : List (Option AV)} {st : List AV} {I : zI}
theorem zr_baldN (X : zX p l e R s m args below meth c own cc nL ret D b0 tA sa sv) {a n : Nat} (hin : n < 500) (hd : decode cc pc = .ok (.baload, 1))
    (kk : zG p l e R s m args below meth c nL D b0 tA sa cells slots Q K (pc + 1) lv (vi (I a n) :: st) I) : zG p l e R s m args below meth c nL D b0 tA sa cells slots Q K pc lv (vi (nI n) :: vr a 9 :: st) I := by
  refine zr_bald X (vp_in_nI hin (by omega)) hd ?_
  rw [nI_clamp (by omega)]
  exact kk
theorem zr_bastN (X : zX p l e R s m args below meth c own cc nL ret D b0 tA sa sv) {a n : Nat} {x : Int32} (hin : n < 500) (hx : x.toInt8.toInt32 = x) (hd : decode cc pc = .ok (.bastore, 1))
    (kk : zG p l e R s m args below meth c nL D b0 tA sa cells slots Q K (pc + 1) lv st (zput I a n x)) : zG p l e R s m args below meth c nL D b0 tA sa cells slots Q K pc lv (vi x :: vi (nI n) :: vr a 9 :: st) I := by
  refine zr_bast X (vp_in_nI hin (by omega)) hx hd ?_
  rw [nI_clamp (by omega)]
  exact kk
end ZBN
theorem zrun_in {f : Nat → Bool} {n p q : Nat} (h1 : p ≤ q) (h2 : q ≤ zrun f (n - p) p) (h3 : q < n) : f q = true ↔ q < zrun f (n - p) p := by
  constructor
  · intro h
    rcases Nat.lt_or_ge q (zrun f (n - p) p) with g | g
    · exact g
    · have e : zrun f (n - p) p = q := by omega
      have := zrun_not (f := f) (n - p) p (by omega)
      rw [e, h] at this; cases this
  · exact fun h => zrun_all (n - p) p q h1 h
theorem tEndD_in {t : Nat → Nat} {n p q : Nat} (h1 : p ≤ q) (h2 : q ≤ tEndD t n p) (h3 : q < n) : tDig (t q) = true ↔ q < tEndD t n p := zrun_in (f := fun q => tDig (t q)) h1 h2 h3
theorem tEndL_in {t : Nat → Nat} {n p q : Nat} (h1 : p ≤ q) (h2 : q ≤ tEndL t n p) (h3 : q < n) : tLet (t q) = true ↔ q < tEndL t n p := zrun_in (f := fun q => tLet (t q)) h1 h2 h3
theorem zdigit {V v : Nat} (hv : tDig v = true) : (if (1000 : Int32) < (((10 : Int32) * (nI (min V 1000))) + ((zsg v) - (48 : Int32))) then (1000 : Int32) else (((10 : Int32) * (nI (min V 1000))) + ((zsg v) - (48 : Int32)))) = nI (min (10 * V + (v - 48)) 1000) := by
  have h1 := tDig_iff.mp hv
  have e1 : zsg v = nI v := by unfold zsg; rw [if_pos (by omega)]
  have e2 : ((10 : Int32) * (nI (min V 1000))) + ((zsg v) - (48 : Int32)) = nI (10 * min V 1000 + (v - 48)) := by
    rw [e1, show nI v - 48 = nI (v - 48) from pk_sub (a := v) (b := 48) (by omega), show (10 : Int32) = nI 10 from rfl, nI_mul, nI_add]
  rw [e2]
  have e3 : ((1000 : Int32) < nI (10 * min V 1000 + (v - 48))) ↔ 1000 < 10 * min V 1000 + (v - 48) := nI_ltI (a := 1000) (by decide) (by omega)
  by_cases h : 1000 < 10 * min V 1000 + (v - 48)
  · rw [if_pos (e3.mpr h)]
    show nI 1000 = _
    congr 1; omega
  · rw [if_neg (fun z => h (e3.mp z))]
    congr 1; omega
abbrev zrm_X3_byteAt : Room := { frames := 0, cells := 0, slots := 0, locals := 0 }
set_option maxRecDepth 20000 in
theorem zn_X3_byteAt {l : Launch} {D : va_G} {b0 : Nat} {tA : Nat → ClassId} {sa sv : Nat → Nat} {K : zKt} {I : zI} {Qp : zI → Option AV → Prop} {Xp : String → zI → Prop} {a k f : Nat} {t : Nat → Nat}
    (hB : zBy I a t f) (hk : k < 2 ^ 30) (k1 : Qp I (some (vi (if k < f then zsg (t k) else 0)))) :
    zC l D b0 tA sa sv K yX3_byteAt (.code yX3_byteAt cX3_byteAt 2 (some .int)) zrm_X3_byteAt [vr (a) 3, vi ((nI k))] I Qp Xp := by
  have hf := hB.2.1
  refine zC_of (by decide +kernel) (Nat.le_of_ble_eq_true rfl) ?_
  intro p e s m args below meth c X hnt
  have X : zX p l e zrm_X3_byteAt s m args below meth c RX3 cX3_byteAt 2 (some .int) D b0 tA sa sv := X
  refine zr_lv (lv2 := [some (vr (a) 3), some (vi ((nI k)))]) rfl ?_
  refine zr_iload1 X dX3_byteAt_0 ?_
  refine zr_nif_lt X (k) (tgt := 30) (by omega) dX3_byteAt_1 (by decide) (fun h => h.elim) (fun _ => ?_)
  refine zr_iload1 X dX3_byteAt_4 ?_
  refine zr_aload0 X dX3_byteAt_5 ?_
  refine zr_getI X zf_X3_15 rfl dX3_byteAt_6 ?_
  refine zr_eq (x2 := (nI f)) (hB.1) ?_
  refine zr_nicmp_ge X (k) (f) (tgt := 30) (by omega) (by omega) dX3_byteAt_9 (by decide) (fun h2 => ?_) (fun h2 => ?_)
  · skip
    refine zr_iconst (v := (0 : Int32)) X dX3_byteAt_30 (by decide) ?_
    refine zr_iret X (by decide) (by decide) dX3_byteAt_31 ?_
    rw [if_neg (by omega)] at k1; exact k1
  · skip
    refine zr_iload1 X dX3_byteAt_12 ?_
    refine zr_aload0 X dX3_byteAt_13 ?_
    refine zr_getR X zf_X3_9 rfl (by decide) (by decide) dX3_byteAt_14 ?_
    refine zr_alen (v := 500) X (Or.inr (Or.inr rfl)) rfl dX3_byteAt_17 ?_
    refine zr_nicmp_ge X (k) (500) (tgt := 30) (by omega) (by omega) dX3_byteAt_18 (by decide) (fun h3 => ?_) (fun h3 => ?_)
    · exact absurd h3 (by omega)
    · skip
      refine zr_aload0 X dX3_byteAt_21 ?_
      refine zr_getR X zf_X3_9 rfl (by decide) (by decide) dX3_byteAt_22 ?_
      refine zr_iload1 X dX3_byteAt_25 ?_
      refine zr_baldN X (show _ < 500 from (by first | assumption | omega)) dX3_byteAt_26 ?_
      refine zr_eq (x2 := (zsg (t k))) (hB.2.2.2 k (by omega)) ?_
      refine zr_goto (tgt := 31) X dX3_byteAt_27 (by decide) ?_
      refine zr_iret X (by decide) (by decide) dX3_byteAt_31 ?_
      rw [if_pos (by omega)] at k1; exact k1
abbrev zrm_X3_isDigit : Room := { frames := 0, cells := 0, slots := 0, locals := 0 }
set_option maxRecDepth 20000 in
theorem zp_X3_isDigit {l : Launch} {D : va_G} {b0 : Nat} {tA : Nat → ClassId} {sa sv : Nat → Nat} {K : zKt} {I : zI} {Qp : zI → Option AV → Prop} {Xp : String → zI → Prop} {x1 : Int32}
    (k1 : (¬ x1 < 48 ∧ ¬ 57 < x1) → Qp I (some (vi 1))) (k2 : ¬ (¬ x1 < 48 ∧ ¬ 57 < x1) → Qp I (some (vi 0))) :
    zC l D b0 tA sa sv K yX3_isDigit (.code yX3_isDigit cX3_isDigit 1 (some .boolean)) zrm_X3_isDigit [vi (x1)] I Qp Xp := by
  refine zC_of (by decide +kernel) (Nat.le_of_ble_eq_true rfl) ?_
  intro p e s m args below meth c X hnt
  have X : zX p l e zrm_X3_isDigit s m args below meth c RX3 cX3_isDigit 1 (some .boolean) D b0 tA sa sv := X
  refine zr_lv (lv2 := [some (vi (x1))]) rfl ?_
  refine zr_iload0 X dX3_isDigit_0 ?_
  refine zr_bipush (v := (48 : Int32)) X dX3_isDigit_1 (by decide) ?_
  refine zr_icmp_lt (tgt := 16) X dX3_isDigit_3 (by decide) (fun h1 => ?_) (fun h1 => ?_)
  · skip
    refine zr_iconst (v := (0 : Int32)) X dX3_isDigit_16 (by decide) ?_
    refine zr_zret X (by first | decide | assumption | (simp; done)) (by decide) (by decide) dX3_isDigit_17 ?_
    exact k2 (fun z => by first | exact z.1 (by assumption) | exact z.2 (by assumption))
  · skip
    refine zr_iload0 X dX3_isDigit_6 ?_
    refine zr_bipush (v := (57 : Int32)) X dX3_isDigit_7 (by decide) ?_
    refine zr_icmp_gt (tgt := 16) X dX3_isDigit_9 (by decide) (fun h2 => ?_) (fun h2 => ?_)
    · skip
      refine zr_iconst (v := (0 : Int32)) X dX3_isDigit_16 (by decide) ?_
      refine zr_zret X (by first | decide | assumption | (simp; done)) (by decide) (by decide) dX3_isDigit_17 ?_
      exact k2 (fun z => by first | exact z.1 (by assumption) | exact z.2 (by assumption))
    · skip
      refine zr_iconst (v := (1 : Int32)) X dX3_isDigit_12 (by decide) ?_
      refine zr_goto (tgt := 17) X dX3_isDigit_13 (by decide) ?_
      refine zr_zret X (by first | decide | assumption | (simp; done)) (by decide) (by decide) dX3_isDigit_17 ?_
      exact k1 ⟨by assumption, by assumption⟩
theorem zn_X3_isDigit {l : Launch} {D : va_G} {b0 : Nat} {tA : Nat → ClassId} {sa sv : Nat → Nat} {K : zKt} {I : zI} {Qp : zI → Option AV → Prop} {Xp : String → zI → Prop} {v : Nat} (hv : v < 256) (k1 : tDig v = true → Qp I (some (vi 1))) (k2 : tDig v = false → Qp I (some (vi 0))) :
    zC l D b0 tA sa sv K yX3_isDigit (.code yX3_isDigit cX3_isDigit 1 (some .boolean)) zrm_X3_isDigit [vi (zsg v)] I Qp Xp :=
  zp_X3_isDigit (fun h => k1 ((zsg_all v hv).2.2.1.mp h)) (fun h => k2 (by cases e : tDig v with | false => rfl | true => exact absurd ((zsg_all v hv).2.2.1.mpr e) h))
abbrev zrm_X3_isLetter : Room := { frames := 0, cells := 0, slots := 0, locals := 0 }
set_option maxRecDepth 20000 in
theorem zp_X3_isLetter {l : Launch} {D : va_G} {b0 : Nat} {tA : Nat → ClassId} {sa sv : Nat → Nat} {K : zKt} {I : zI} {Qp : zI → Option AV → Prop} {Xp : String → zI → Prop} {x1 : Int32}
    (k1 : (¬ x1 < 97 ∧ ¬ 122 < x1) → Qp I (some (vi 1))) (k2 : ¬ (¬ x1 < 97 ∧ ¬ 122 < x1) → Qp I (some (vi 0))) :
    zC l D b0 tA sa sv K yX3_isLetter (.code yX3_isLetter cX3_isLetter 1 (some .boolean)) zrm_X3_isLetter [vi (x1)] I Qp Xp := by
  refine zC_of (by decide +kernel) (Nat.le_of_ble_eq_true rfl) ?_
  intro p e s m args below meth c X hnt
  have X : zX p l e zrm_X3_isLetter s m args below meth c RX3 cX3_isLetter 1 (some .boolean) D b0 tA sa sv := X
  refine zr_lv (lv2 := [some (vi (x1))]) rfl ?_
  refine zr_iload0 X dX3_isLetter_0 ?_
  refine zr_bipush (v := (97 : Int32)) X dX3_isLetter_1 (by decide) ?_
  refine zr_icmp_lt (tgt := 16) X dX3_isLetter_3 (by decide) (fun h1 => ?_) (fun h1 => ?_)
  · skip
    refine zr_iconst (v := (0 : Int32)) X dX3_isLetter_16 (by decide) ?_
    refine zr_zret X (by first | decide | assumption | (simp; done)) (by decide) (by decide) dX3_isLetter_17 ?_
    exact k2 (fun z => by first | exact z.1 (by assumption) | exact z.2 (by assumption))
  · skip
    refine zr_iload0 X dX3_isLetter_6 ?_
    refine zr_bipush (v := (122 : Int32)) X dX3_isLetter_7 (by decide) ?_
    refine zr_icmp_gt (tgt := 16) X dX3_isLetter_9 (by decide) (fun h2 => ?_) (fun h2 => ?_)
    · skip
      refine zr_iconst (v := (0 : Int32)) X dX3_isLetter_16 (by decide) ?_
      refine zr_zret X (by first | decide | assumption | (simp; done)) (by decide) (by decide) dX3_isLetter_17 ?_
      exact k2 (fun z => by first | exact z.1 (by assumption) | exact z.2 (by assumption))
    · skip
      refine zr_iconst (v := (1 : Int32)) X dX3_isLetter_12 (by decide) ?_
      refine zr_goto (tgt := 17) X dX3_isLetter_13 (by decide) ?_
      refine zr_zret X (by first | decide | assumption | (simp; done)) (by decide) (by decide) dX3_isLetter_17 ?_
      exact k1 ⟨by assumption, by assumption⟩
theorem zn_X3_isLetter {l : Launch} {D : va_G} {b0 : Nat} {tA : Nat → ClassId} {sa sv : Nat → Nat} {K : zKt} {I : zI} {Qp : zI → Option AV → Prop} {Xp : String → zI → Prop} {v : Nat} (hv : v < 256) (k1 : tLet v = true → Qp I (some (vi 1))) (k2 : tLet v = false → Qp I (some (vi 0))) :
    zC l D b0 tA sa sv K yX3_isLetter (.code yX3_isLetter cX3_isLetter 1 (some .boolean)) zrm_X3_isLetter [vi (zsg v)] I Qp Xp :=
  zp_X3_isLetter (fun h => k1 ((zsg_all v hv).2.2.2.1.mp h)) (fun h => k2 (by cases e : tLet v with | false => rfl | true => exact absurd ((zsg_all v hv).2.2.2.1.mpr e) h))
abbrev zrm_X3_nameWith : Room := { frames := 0, cells := 0, slots := 0, locals := 0 }
set_option maxRecDepth 20000 in
theorem zp_X3_nameWith {l : Launch} {D : va_G} {b0 : Nat} {tA : Nat → ClassId} {sa sv : Nat → Nat} {K : zKt} {I : zI} {Qp : zI → Option AV → Prop} {Xp : String → zI → Prop} {x1 : Int32} {x2 : Int32} 
    (h_1 : Qp I (some (vi ((((27 : Int32) * x1) + ((x2 - (97 : Int32)) + (1 : Int32))))))) :
    zC l D b0 tA sa sv K yX3_nameWith (.code yX3_nameWith cX3_nameWith 2 (some .int)) zrm_X3_nameWith [vi (x1), vi (x2)] I Qp Xp := by
  refine zC_of (by decide +kernel) (Nat.le_of_ble_eq_true rfl) ?_
  intro p e s m args below meth c X hnt
  have X : zX p l e zrm_X3_nameWith s m args below meth c RX3 cX3_nameWith 2 (some .int) D b0 tA sa sv := X
  refine zr_lv (lv2 := [some (vi (x1)), some (vi (x2))]) rfl ?_
  refine zr_bipush (v := (27 : Int32)) X dX3_nameWith_0 (by decide) ?_
  refine zr_iload0 X dX3_nameWith_2 ?_
  refine zr_imul X dX3_nameWith_3 ?_
  refine zr_iload1 X dX3_nameWith_4 ?_
  refine zr_bipush (v := (97 : Int32)) X dX3_nameWith_5 (by decide) ?_
  refine zr_isub X dX3_nameWith_7 ?_
  refine zr_iconst (v := (1 : Int32)) X dX3_nameWith_8 (by decide) ?_
  refine zr_iadd X dX3_nameWith_9 ?_
  refine zr_iadd X dX3_nameWith_10 ?_
  refine zr_iret X (by decide) (by decide) dX3_nameWith_11 ?_
  exact h_1 
abbrev zrm_X3_readNumber : Room := { frames := 1, cells := 0, slots := 0, locals := 24 }
set_option maxRecDepth 20000 in
theorem zl_X3_readNumber {l : Launch} {D : va_G} {b0 : Nat} {tA : Nat → ClassId} {sa sv : Nat → Nat} {K : zKt} {I : zI} {Qp : zI → Option AV → Prop} {Xp : String → zI → Prop} {p : Program} {e : Env} {s : State} {m : MethodId} {args : Array Value} {below : List Frame} {meth : Method} {c : Code} {a n9 p9 f : Nat} {t : Nat → Nat}
    (X : zX p l e zrm_X3_readNumber s m args below meth c RX3 cX3_readNumber 1 none D b0 tA sa sv) (hnt : ∀ x ∈ c.exceptionTable.toList, False) (hB : zBy I a t f) (hn : n9 ≤ f) (h2 : I a 2 = nI n9) (hp : p9 ≤ n9) (k1 : ∀ J : zI, zag I J a 1 → (∀ j, j ≠ 3 → j ≠ 6 → J a j = I a j) → J a 3 = nI (tEndD t n9 p9) → J a 6 = nI (min (tVal t p9 (tEndD t n9 p9 - p9)) 1000) → Qp J none) :
    ∀ (n : Nat) (k : Nat) (J : zI), p9 + k ≤ tEndD t n9 p9 → zag I J a 1 → (∀ j, j ≠ 3 → j ≠ 6 → J a j = I a j) → J a 3 = nI (p9 + k) → J a 6 = nI (min (tVal t p9 k) 1000) → tEndD t n9 p9 - p9 - k < n → zG p l e zrm_X3_readNumber s m args below meth c 1 D b0 tA sa 0 0 (zQ below D b0 tA sa K args s zrm_X3_readNumber Qp Xp) K 5 [some (vr (a) 3)] [] J := by
  intro n
  induction n with
  | zero => intro k J i1 i2 i3 i4 i5 i9; exact absurd i9 (Nat.not_lt_zero _)
  | succ n ih =>
    intro k J i1 i2 i3 i4 i5 i9
    have hB9 := hB.2.2.1
    have hf5 := hB.2.1
    have hE := tEndD_le (t := t) hp
    have hBJ : zBy J a t f := ⟨(i3 1 (by decide) (by decide)).trans hB.1, hB.2.1, hB.2.2.1, fun k hk => by rw [i2 (a + 1) (by omega)]; exact hB.2.2.2 k hk⟩
    refine zr_aload0 X dX3_readNumber_5 ?_
    refine zr_getI X zf_X3_22 rfl dX3_readNumber_6 ?_
    refine zr_eq (x2 := (nI (p9 + k))) (i4) ?_
    refine zr_aload0 X dX3_readNumber_9 ?_
    refine zr_getI X zf_X3_19 rfl dX3_readNumber_10 ?_
    refine zr_eq (x2 := (nI n9)) ((i3 2 (by decide) (by decide)).trans h2) ?_
    refine zr_nicmp_ge X ((p9 + k)) (n9) (tgt := 72) (by omega) (by omega) dX3_readNumber_13 (by decide) (fun h1 => ?_) (fun h1 => ?_)
    · skip
      refine zr_vret X (by decide) (by decide) dX3_readNumber_72 ?_
      have hk : p9 + k = tEndD t n9 p9 := by first | omega | (rcases Nat.lt_or_ge (p9 + k) (tEndD t n9 p9) with q | q; exact absurd ((tEndD_in (t := t) (n := n9) (p := p9) (by omega) (by omega) (by omega)).mpr q) (by simp [*]); omega)
      have hk2 : k = tEndD t n9 p9 - p9 := by omega
      subst hk2; exact k1 J i2 i3 (by rw [i4, hk]) i5
    · skip
      refine zr_aload0 X dX3_readNumber_16 ?_
      refine zr_aload0 X dX3_readNumber_17 ?_
      refine zr_getI X zf_X3_22 rfl dX3_readNumber_18 ?_
      refine zr_eq (x2 := (nI (p9 + k))) (i4) ?_
      refine zr_callV1 (rm9 := zrm_X3_byteAt) X hnt zm_X3_28 (by decide) (by decide) (by decide) (Nat.le_of_ble_eq_true rfl) dX3_readNumber_21 ?_
      refine zn_X3_byteAt (t := t) (f := f) (k := (p9 + k)) (by repeat (first | assumption | refine zBy.put ?_ (by decide))) (by omega) ?_; rw [if_pos (show (p9 + k) < f by omega)]
      refine zr_callS1 (rm9 := zrm_X3_isDigit) X hnt zm_X3_38 (by decide) (by decide) (by decide) (Nat.le_of_ble_eq_true rfl) dX3_readNumber_24 ?_
      refine zn_X3_isDigit (v := (t (p9 + k))) (hB9 _) ?_ ?_
      · skip
        intro ht2
        refine zr_if_eq (tgt := 72) X dX3_readNumber_27 (by decide) (fun h => absurd h (by decide)) (fun _ => ?_)
        refine zr_aload0 X dX3_readNumber_30 ?_
        refine zr_bipush (v := (10 : Int32)) X dX3_readNumber_31 (by decide) ?_
        refine zr_aload0 X dX3_readNumber_33 ?_
        refine zr_getI X zf_X3_51 rfl dX3_readNumber_34 ?_
        refine zr_eq (x2 := (nI (min (tVal t p9 k) 1000))) (i5) ?_
        refine zr_imul X dX3_readNumber_37 ?_
        refine zr_aload0 X dX3_readNumber_38 ?_
        refine zr_aload0 X dX3_readNumber_39 ?_
        refine zr_getI X zf_X3_22 rfl dX3_readNumber_40 ?_
        refine zr_eq (x2 := (nI (p9 + k))) (i4) ?_
        refine zr_callV1 (rm9 := zrm_X3_byteAt) X hnt zm_X3_28 (by decide) (by decide) (by decide) (Nat.le_of_ble_eq_true rfl) dX3_readNumber_43 ?_
        refine zn_X3_byteAt (t := t) (f := f) (k := (p9 + k)) (by repeat (first | assumption | refine zBy.put ?_ (by decide))) (by omega) ?_; rw [if_pos (show (p9 + k) < f by omega)]
        refine zr_bipush (v := (48 : Int32)) X dX3_readNumber_46 (by decide) ?_
        refine zr_isub X dX3_readNumber_48 ?_
        refine zr_iadd X dX3_readNumber_49 ?_
        refine zr_sipush (v := (1000 : Int32)) X dX3_readNumber_50 (by decide) ?_
        refine zr_mmin X zmm_X3_54 zms_min zmi zmc_min ⟨by decide, Nat.le_of_ble_eq_true rfl⟩ (by decide) dX3_readNumber_53 ?_
        refine zr_eq (x2 := (nI (min (10 * tVal t p9 k + (t (p9 + k) - 48)) 1000))) (zdigit (by assumption)) ?_
        refine zr_putI X zf_X3_51 rfl (Or.inl rfl) dX3_readNumber_56 ?_
        refine zr_aload0 X dX3_readNumber_59 ?_
        refine zr_dupR X dX3_readNumber_60 ?_
        refine zr_getI X zf_X3_22 rfl dX3_readNumber_61 ?_
        refine zr_eq (x2 := (J (a) 3)) ((zput_nj (by decide))) ?_
        refine zr_eq (x2 := (nI (p9 + k))) (i4) ?_
        refine zr_iconst (v := (1 : Int32)) X dX3_readNumber_64 (by decide) ?_
        refine zr_iadd X dX3_readNumber_65 ?_
        refine zr_eq (x2 := (nI ((p9 + k) + 1))) (nI_add ((p9 + k)) (1)) ?_
        refine zr_putI X zf_X3_22 rfl (Or.inl rfl) dX3_readNumber_66 ?_
        refine zr_goto (tgt := 5) X dX3_readNumber_69 (by decide) ?_
        have hk : p9 + k < tEndD t n9 p9 := (tEndD_in (t := t) (n := n9) (p := p9) (by omega) (by omega) (by omega)).mp (by assumption)
        refine ih (k + 1) _ (by omega) (by repeat (first | exact zag.rf | assumption | refine zag.put ?_ (by omega) (by omega) | refine zag.tr ?_ (by assumption) (by omega) (by omega))) (fun j g3 g6 => ?_) ?_ ?_ (by omega)
        · rw [zput_nj g3, zput_nj g6]; exact i3 j g3 g6
        · exact (zput_eq).trans (by first | rfl | (congr 1; omega))
        · exact (zput_nj (by decide)).trans (zput_eq)
      · skip
        intro ht2
        refine zr_if_eq (tgt := 72) X dX3_readNumber_27 (by decide) (fun _ => ?_) (fun h => absurd h (by decide))
        refine zr_vret X (by decide) (by decide) dX3_readNumber_72 ?_
        have hk : p9 + k = tEndD t n9 p9 := by first | omega | (rcases Nat.lt_or_ge (p9 + k) (tEndD t n9 p9) with q | q; exact absurd ((tEndD_in (t := t) (n := n9) (p := p9) (by omega) (by omega) (by omega)).mpr q) (by simp [*]); omega)
        have hk2 : k = tEndD t n9 p9 - p9 := by omega
        subst hk2; exact k1 J i2 i3 (by rw [i4, hk]) i5
set_option maxRecDepth 20000 in
theorem zp_X3_readNumber {l : Launch} {D : va_G} {b0 : Nat} {tA : Nat → ClassId} {sa sv : Nat → Nat} {K : zKt} {I : zI} {Qp : zI → Option AV → Prop} {Xp : String → zI → Prop} {a n9 p9 f : Nat} {t : Nat → Nat}
    (hB : zBy I a t f) (hn : n9 ≤ f) (h2 : I a 2 = nI n9) (h3 : I a 3 = nI p9) (hp : p9 ≤ n9) (k1 : ∀ J : zI, zag I J a 1 → (∀ j, j ≠ 3 → j ≠ 6 → J a j = I a j) → J a 3 = nI (tEndD t n9 p9) → J a 6 = nI (min (tVal t p9 (tEndD t n9 p9 - p9)) 1000) → Qp J none) :
    zC l D b0 tA sa sv K yX3_readNumber (.code yX3_readNumber cX3_readNumber 1 none) zrm_X3_readNumber [vr (a) 3] I Qp Xp := by
  have hE := tEndD_le (t := t) hp
  refine zC_of (by decide +kernel) (Nat.le_of_ble_eq_true rfl) ?_
  intro p e s m args below meth c X hnt
  have X : zX p l e zrm_X3_readNumber s m args below meth c RX3 cX3_readNumber 1 none D b0 tA sa sv := X
  refine zr_lv (lv2 := [some (vr (a) 3)]) rfl ?_
  refine zr_aload0 X dX3_readNumber_0 ?_
  refine zr_iconst (v := (0 : Int32)) X dX3_readNumber_1 (by decide) ?_
  refine zr_putI X zf_X3_51 rfl (Or.inl rfl) dX3_readNumber_2 ?_
  refine zl_X3_readNumber (I := I) X hnt hB hn h2 hp k1 (n9 + 2) 0 _ (by omega) (by repeat (first | exact zag.rf | assumption | refine zag.put ?_ (by omega) (by omega) | refine zag.tr ?_ (by assumption) (by omega) (by omega))) (fun j g3 g6 => ?_) ?_ ?_ (by omega)
  · rw [zput_nj g6]
  · exact ((zput_nj (by decide))).trans h3
  · exact zput_eq
abbrev zrm_X3_readWord : Room := { frames := 1, cells := 0, slots := 0, locals := 21 }
set_option maxRecDepth 20000 in
theorem zl_X3_readWord {l : Launch} {D : va_G} {b0 : Nat} {tA : Nat → ClassId} {sa sv : Nat → Nat} {K : zKt} {I : zI} {Qp : zI → Option AV → Prop} {Xp : String → zI → Prop} {p : Program} {e : Env} {s : State} {m : MethodId} {args : Array Value} {below : List Frame} {meth : Method} {c : Code} {a n9 p9 f : Nat} {t : Nat → Nat}
    (X : zX p l e zrm_X3_readWord s m args below meth c RX3 cX3_readWord 1 none D b0 tA sa sv) (hnt : ∀ x ∈ c.exceptionTable.toList, False) (hB : zBy I a t f) (hn : n9 ≤ f) (h2 : I a 2 = nI n9) (hp : p9 ≤ n9) (k1 : ∀ J : zI, zag I J a 1 → (∀ j, j ≠ 3 → j ≠ 7 → j ≠ 8 → J a j = I a j) → J a 3 = nI (tEndL t n9 p9) → J a 7 = nI (tEndL t n9 p9 - p9) → J a 8 = tNm t p9 (tEndL t n9 p9 - p9) → Qp J none) :
    ∀ (n : Nat) (k : Nat) (J : zI), p9 + k ≤ tEndL t n9 p9 → zag I J a 1 → (∀ j, j ≠ 3 → j ≠ 7 → j ≠ 8 → J a j = I a j) → J a 3 = nI (p9 + k) → J a 7 = nI k → J a 8 = tNm t p9 k → tEndL t n9 p9 - p9 - k < n → zG p l e zrm_X3_readWord s m args below meth c 1 D b0 tA sa 0 0 (zQ below D b0 tA sa K args s zrm_X3_readWord Qp Xp) K 10 [some (vr (a) 3)] [] J := by
  intro n
  induction n with
  | zero => intro k J i1 i2 i3 i4 i5 i6 i9; exact absurd i9 (Nat.not_lt_zero _)
  | succ n ih =>
    intro k J i1 i2 i3 i4 i5 i6 i9
    have hB9 := hB.2.2.1
    have hf5 := hB.2.1
    have hE := tEndL_le (t := t) hp
    have hBJ : zBy J a t f := ⟨(i3 1 (by decide) (by decide) (by decide)).trans hB.1, hB.2.1, hB.2.2.1, fun k hk => by rw [i2 (a + 1) (by omega)]; exact hB.2.2.2 k hk⟩
    refine zr_aload0 X dX3_readWord_10 ?_
    refine zr_getI X zf_X3_22 rfl dX3_readWord_11 ?_
    refine zr_eq (x2 := (nI (p9 + k))) (i4) ?_
    refine zr_aload0 X dX3_readWord_14 ?_
    refine zr_getI X zf_X3_19 rfl dX3_readWord_15 ?_
    refine zr_eq (x2 := (nI n9)) ((i3 2 (by decide) (by decide) (by decide)).trans h2) ?_
    refine zr_nicmp_ge X ((p9 + k)) (n9) (tgt := 77) (by omega) (by omega) dX3_readWord_18 (by decide) (fun h1 => ?_) (fun h1 => ?_)
    · skip
      refine zr_vret X (by decide) (by decide) dX3_readWord_77 ?_
      have hk : p9 + k = tEndL t n9 p9 := by first | omega | (rcases Nat.lt_or_ge (p9 + k) (tEndL t n9 p9) with q | q; exact absurd ((tEndL_in (t := t) (n := n9) (p := p9) (by omega) (by omega) (by omega)).mpr q) (by simp [*]); omega)
      have hk2 : k = tEndL t n9 p9 - p9 := by omega
      subst hk2; exact k1 J i2 i3 (by rw [i4, hk]) i5 i6
    · skip
      refine zr_aload0 X dX3_readWord_21 ?_
      refine zr_aload0 X dX3_readWord_22 ?_
      refine zr_getI X zf_X3_22 rfl dX3_readWord_23 ?_
      refine zr_eq (x2 := (nI (p9 + k))) (i4) ?_
      refine zr_callV1 (rm9 := zrm_X3_byteAt) X hnt zm_X3_28 (by decide) (by decide) (by decide) (Nat.le_of_ble_eq_true rfl) dX3_readWord_26 ?_
      refine zn_X3_byteAt (t := t) (f := f) (k := (p9 + k)) (by repeat (first | assumption | refine zBy.put ?_ (by decide))) (by omega) ?_; rw [if_pos (show (p9 + k) < f by omega)]
      refine zr_callS1 (rm9 := zrm_X3_isLetter) X hnt zm_X3_45 (by decide) (by decide) (by decide) (Nat.le_of_ble_eq_true rfl) dX3_readWord_29 ?_
      refine zn_X3_isLetter (v := (t (p9 + k))) (hB9 _) ?_ ?_
      · skip
        intro ht2
        refine zr_if_eq (tgt := 77) X dX3_readWord_32 (by decide) (fun h => absurd h (by decide)) (fun _ => ?_)
        refine zr_aload0 X dX3_readWord_35 ?_
        refine zr_dupR X dX3_readWord_36 ?_
        refine zr_getI X zf_X3_60 rfl dX3_readWord_37 ?_
        refine zr_eq (x2 := (nI k)) (i5) ?_
        refine zr_iconst (v := (1 : Int32)) X dX3_readWord_40 (by decide) ?_
        refine zr_iadd X dX3_readWord_41 ?_
        refine zr_eq (x2 := (nI (k + 1))) (nI_add (k) (1)) ?_
        refine zr_putI X zf_X3_60 rfl (Or.inl rfl) dX3_readWord_42 ?_
        refine zr_aload0 X dX3_readWord_45 ?_
        refine zr_aload0 X dX3_readWord_46 ?_
        refine zr_getI X zf_X3_63 rfl dX3_readWord_47 ?_
        refine zr_eq (x2 := (J (a) 8)) ((zput_nj (by decide))) ?_
        refine zr_eq (x2 := (tNm t p9 k)) (i6) ?_
        refine zr_aload0 X dX3_readWord_50 ?_
        refine zr_aload0 X dX3_readWord_51 ?_
        refine zr_getI X zf_X3_22 rfl dX3_readWord_52 ?_
        refine zr_eq (x2 := (J (a) 3)) ((zput_nj (by decide))) ?_
        refine zr_eq (x2 := (nI (p9 + k))) (i4) ?_
        refine zr_callV1 (rm9 := zrm_X3_byteAt) X hnt zm_X3_28 (by decide) (by decide) (by decide) (Nat.le_of_ble_eq_true rfl) dX3_readWord_55 ?_
        refine zn_X3_byteAt (t := t) (f := f) (k := (p9 + k)) (by repeat (first | assumption | refine zBy.put ?_ (by decide))) (by omega) ?_; rw [if_pos (show (p9 + k) < f by omega)]
        refine zr_callS2 (rm9 := zrm_X3_nameWith) X hnt zm_X3_66 (by decide) (by decide) (by decide) (Nat.le_of_ble_eq_true rfl) dX3_readWord_58 ?_
        refine zp_X3_nameWith ?_
        refine zr_eq (x2 := (tNm t p9 (k + 1))) (by rw [tNm, show zsg (t (p9 + k)) = nI (t (p9 + k)) from by unfold zsg; rw [if_pos (by have := tLet_iff.mp (by assumption); omega)]]) ?_
        refine zr_putI X zf_X3_63 rfl (Or.inl rfl) dX3_readWord_61 ?_
        refine zr_aload0 X dX3_readWord_64 ?_
        refine zr_dupR X dX3_readWord_65 ?_
        refine zr_getI X zf_X3_22 rfl dX3_readWord_66 ?_
        refine zr_eq (x2 := (J (a) 3)) ((zput_nj (by decide)).trans ((zput_nj (by decide)))) ?_
        refine zr_eq (x2 := (nI (p9 + k))) (i4) ?_
        refine zr_iconst (v := (1 : Int32)) X dX3_readWord_69 (by decide) ?_
        refine zr_iadd X dX3_readWord_70 ?_
        refine zr_eq (x2 := (nI ((p9 + k) + 1))) (nI_add ((p9 + k)) (1)) ?_
        refine zr_putI X zf_X3_22 rfl (Or.inl rfl) dX3_readWord_71 ?_
        refine zr_goto (tgt := 10) X dX3_readWord_74 (by decide) ?_
        have hk : p9 + k < tEndL t n9 p9 := (tEndL_in (t := t) (n := n9) (p := p9) (by omega) (by omega) (by omega)).mp (by assumption)
        refine ih (k + 1) _ (by omega) (by repeat (first | exact zag.rf | assumption | refine zag.put ?_ (by omega) (by omega) | refine zag.tr ?_ (by assumption) (by omega) (by omega))) (fun j g3 g7 g8 => ?_) ?_ ?_ ?_ (by omega)
        · rw [zput_nj g3, zput_nj g8, zput_nj g7]; exact i3 j g3 g7 g8
        · exact (zput_eq).trans (by first | rfl | (congr 1; omega))
        · exact (zput_nj (by decide)).trans ((zput_nj (by decide)).trans (zput_eq))
        · exact (zput_nj (by decide)).trans (zput_eq)
      · skip
        intro ht2
        refine zr_if_eq (tgt := 77) X dX3_readWord_32 (by decide) (fun _ => ?_) (fun h => absurd h (by decide))
        refine zr_vret X (by decide) (by decide) dX3_readWord_77 ?_
        have hk : p9 + k = tEndL t n9 p9 := by first | omega | (rcases Nat.lt_or_ge (p9 + k) (tEndL t n9 p9) with q | q; exact absurd ((tEndL_in (t := t) (n := n9) (p := p9) (by omega) (by omega) (by omega)).mpr q) (by simp [*]); omega)
        have hk2 : k = tEndL t n9 p9 - p9 := by omega
        subst hk2; exact k1 J i2 i3 (by rw [i4, hk]) i5 i6
set_option maxRecDepth 20000 in
theorem zp_X3_readWord {l : Launch} {D : va_G} {b0 : Nat} {tA : Nat → ClassId} {sa sv : Nat → Nat} {K : zKt} {I : zI} {Qp : zI → Option AV → Prop} {Xp : String → zI → Prop} {a n9 p9 f : Nat} {t : Nat → Nat}
    (hB : zBy I a t f) (hn : n9 ≤ f) (h2 : I a 2 = nI n9) (h3 : I a 3 = nI p9) (hp : p9 ≤ n9) (k1 : ∀ J : zI, zag I J a 1 → (∀ j, j ≠ 3 → j ≠ 7 → j ≠ 8 → J a j = I a j) → J a 3 = nI (tEndL t n9 p9) → J a 7 = nI (tEndL t n9 p9 - p9) → J a 8 = tNm t p9 (tEndL t n9 p9 - p9) → Qp J none) :
    zC l D b0 tA sa sv K yX3_readWord (.code yX3_readWord cX3_readWord 1 none) zrm_X3_readWord [vr (a) 3] I Qp Xp := by
  have hE := tEndL_le (t := t) hp
  refine zC_of (by decide +kernel) (Nat.le_of_ble_eq_true rfl) ?_
  intro p e s m args below meth c X hnt
  have X : zX p l e zrm_X3_readWord s m args below meth c RX3 cX3_readWord 1 none D b0 tA sa sv := X
  refine zr_lv (lv2 := [some (vr (a) 3)]) rfl ?_
  refine zr_aload0 X dX3_readWord_0 ?_
  refine zr_iconst (v := (0 : Int32)) X dX3_readWord_1 (by decide) ?_
  refine zr_putI X zf_X3_60 rfl (Or.inl rfl) dX3_readWord_2 ?_
  refine zr_aload0 X dX3_readWord_5 ?_
  refine zr_iconst (v := (0 : Int32)) X dX3_readWord_6 (by decide) ?_
  refine zr_putI X zf_X3_63 rfl (Or.inl rfl) dX3_readWord_7 ?_
  refine zl_X3_readWord (I := I) X hnt hB hn h2 hp k1 (n9 + 2) 0 _ (by omega) (by repeat (first | exact zag.rf | assumption | refine zag.put ?_ (by omega) (by omega) | refine zag.tr ?_ (by assumption) (by omega) (by omega))) (fun j g3 g7 g8 => ?_) ?_ ?_ ?_ (by omega)
  · rw [zput_nj g8, zput_nj g7]
  · exact ((zput_nj (by decide)).trans ((zput_nj (by decide)))).trans h3
  · exact (zput_nj (by decide)).trans (zput_eq)
  · exact zput_eq
