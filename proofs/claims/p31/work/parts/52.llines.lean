/-! ===== the law's lines ===== -/
/-- a line of the law: its number at a, its cards at b -/
def zLm (I : zI) (a b : Nat) (w : List Nat) : Prop := I a 0 = nI w.length ∧ ∀ p : Nat, p < w.length → I b p = nI (w.getD p 0) - 1
/-- nothing but a and b has changed -/
def zg2 (I I' : zI) (a b : Nat) : Prop := ∀ q : Nat, q ≠ a → q ≠ b → I' q = I q
theorem zg2.rf {I : zI} {a b : Nat} : zg2 I I a b := fun _ _ _ => rfl
theorem zLm.kept {I I' : zI} {a b : Nat} {w : List Nat} (h : zLm I a b w) (h1 : I' a = I a) (h2 : I' b = I b) : zLm I' a b w := ⟨by rw [h1]; exact h.1, fun p hp => by rw [h2]; exact h.2 p hp⟩
theorem zLm_erase {I : zI} {a b k : Nat} {w : List Nat} (h : zLm I a b w) (hab : a ≠ b) (hk : k < w.length) : zLm (zshl (zput I a 0 (nI (w.length - 1))) b k (w.length - 1)) a b (w.eraseIdx k) := by
  refine ⟨by rw [zshl_ne hab, zput_eq, zlen_erase hk], fun p hp => ?_⟩
  rw [zlen_erase hk] at hp
  rw [zgetD_erase]
  by_cases h1 : p < k
  · rw [if_pos h1, zshl_out (Or.inl h1), zput_ne (Ne.symm hab), h.2 p (by omega)]
  · rw [if_neg h1, zshl_in (by omega) hp, zput_ne (Ne.symm hab), h.2 (p + 1) (by omega)]
theorem zLm_lead {I : zI} {a b x : Nat} {w : List Nat} (h : zLm I a b w) (hab : a ≠ b) : zLm (zput (zput (zshr I b 0 w.length) b 0 (nI x - 1)) a 0 (nI (w.length + 1))) a b (x :: w) := by
  refine ⟨by rw [zput_eq, List.length_cons], fun p hp => ?_⟩
  rw [zput_ne (Ne.symm hab)]
  rcases p with _ | p
  · rw [zput_eq]; rfl
  · rw [List.length_cons] at hp
    rw [zput_nj (by omega), zshr_in (by omega) (by omega), List.getD_cons_succ]
    exact h.2 p (by omega)
theorem zLm_add {I : zI} {a b x : Nat} {w : List Nat} (h : zLm I a b w) (hab : a ≠ b) : zLm (zput (zput I b w.length (nI x - 1)) a 0 (nI (w.length + 1))) a b (w ++ [x]) := by
  refine ⟨by rw [zput_eq, List.length_append]; rfl, fun p hp => ?_⟩
  rw [List.length_append] at hp
  have hp2 : p < w.length + 1 := hp
  rw [zput_ne (Ne.symm hab)]
  by_cases h1 : p = w.length
  · subst h1
    rw [zput_eq]
    simp [List.getD_eq_getElem?_getD]
  · have h2 : p < w.length := by omega
    rw [zput_nj h1, h.2 p h2]
    simp [List.getD_eq_getElem?_getD, List.getElem?_append_left h2]
abbrev zrm_X10_add : Room := { frames := 0, cells := 0, slots := 0, locals := 0 }
set_option maxRecDepth 20000 in
theorem zp_X10_add {l : Launch} {D : va_G} {b0 : Nat} {tA : Nat → ClassId} {sa sv : Nat → Nat} {K : zKt} {I : zI} {Qp : zI → Option AV → Prop} {Xp : String → zI → Prop} {a b x : Nat} {w : List Nat}
    (hL : zLm I a b w) (hK : K.2 a 1 = some b) (hab : a ≠ b) (hl : w.length < 11) (k1 : ∀ I' : zI, zg2 I I' a b → zLm I' a b (w ++ [x]) → Qp I' none) :
    zC l D b0 tA sa sv K yX10_add (.code yX10_add cX10_add 2 none) zrm_X10_add [vr (a) 15, vi ((nI x - 1))] I Qp Xp := by
  refine zC_of (by decide +kernel) (Nat.le_of_ble_eq_true rfl) ?_
  intro p e s m args below meth c X hnt
  have X : zX p l e zrm_X10_add s m args below meth c RX10 cX10_add 2 none D b0 tA sa sv := X
  refine zr_lv (lv2 := [some (vr (a) 15), some (vi ((nI x - 1)))]) rfl ?_
  refine zr_aload0 X dX10_add_0 ?_
  refine zr_getD (r := b) X zf_X10_13 rfl (by decide) (hK) dX10_add_1 ?_
  refine zr_aload0 X dX10_add_4 ?_
  refine zr_getI X zf_X10_7 rfl dX10_add_5 ?_
  refine zr_eq (x2 := (nI (w.length))) (hL.1) ?_
  refine zr_iload1 X dX10_add_8 ?_
  refine zr_iastN (n := (w.length)) X rfl (show _ < 11 from (by first | decide | omega | assumption)) dX10_add_9 ?_
  refine zr_aload0 X dX10_add_10 ?_
  refine zr_dupR X dX10_add_11 ?_
  refine zr_getI X zf_X10_7 rfl dX10_add_12 ?_
  refine zr_eq (x2 := (I (a) 0)) ((zput_ne (by omega))) ?_
  refine zr_eq (x2 := (nI w.length)) (hL.1) ?_
  refine zr_iconst (v := (1 : Int32)) X dX10_add_15 (by decide) ?_
  refine zr_iadd X dX10_add_16 ?_
  refine zr_eq (x2 := (nI (w.length + 1))) (nI_add (w.length) (1)) ?_
  refine zr_putI X zf_X10_7 rfl (Or.inl rfl) dX10_add_17 ?_
  refine zr_vret X (by decide) (by decide) dX10_add_20 ?_
  exact k1 _ (fun q h1 h2 => (zput_nq h1).trans (zput_nq h2)) (zLm_add hL hab)
abbrev zrm_X10_take : Room := { frames := 0, cells := 0, slots := 0, locals := 0 }
set_option maxRecDepth 20000 in
theorem zl_X10_take {l : Launch} {D : va_G} {b0 : Nat} {tA : Nat → ClassId} {sa sv : Nat → Nat} {K : zKt} {I : zI} {Qp : zI → Option AV → Prop} {Xp : String → zI → Prop} {p : Program} {e : Env} {s : State} {m : MethodId} {args : Array Value} {below : List Frame} {meth : Method} {c : Code} {a b k : Nat} {w : List Nat}
    (X : zX p l e zrm_X10_take s m args below meth c RX10 cX10_take 4 (some .int) D b0 tA sa sv) (hnt : ∀ x ∈ c.exceptionTable.toList, False) (hL : zLm I a b w) (hK : K.2 a 1 = some b) (hab : a ≠ b) (hk : k < w.length) (hl : w.length < 11) (k1 : ∀ I' : zI, zg2 I I' a b → zLm I' a b (w.eraseIdx k) → Qp I' (some (vi (nI (w.getD k 0) - 1)))) :
    ∀ (n : Nat) (j : Nat), k ≤ j → j < w.length → w.length - j < n → zG p l e zrm_X10_take s m args below meth c 4 D b0 tA sa 0 0 (zQ below D b0 tA sa K args s zrm_X10_take Qp Xp) K 19 [some (vr (a) 15), some (vi ((nI k))), some (vi ((nI (w.getD k 0) - 1))), some (vi ((nI j)))] [] (zshl (zput I a 0 (nI (w.length - 1))) b k j) := by
  intro n
  induction n with
  | zero => intro j i1 i2 i3; exact absurd i3 (Nat.not_lt_zero _)
  | succ n ih =>
    intro j i1 i2 i3
    refine zr_iload3 X dX10_take_19 ?_
    refine zr_aload0 X dX10_take_20 ?_
    refine zr_getI X zf_X10_7 rfl dX10_take_21 ?_
    refine zr_eq (x2 := (nI (w.length - 1))) ((congrFun (zshl_ne hab) 0).trans zput_eq) ?_
    refine zr_nicmp_ge X (j) ((w.length - 1)) (tgt := 47) (by omega) (by omega) dX10_take_24 (by decide) (fun h1 => ?_) (fun h1 => ?_)
    · skip
      refine zr_iload2 X dX10_take_47 ?_
      refine zr_iret X (by decide) (by decide) dX10_take_48 ?_
      have hj : j = w.length - 1 := by omega
      subst hj
      exact k1 _ (fun q h1 h2 => (zshl_ne h2).trans (zput_nq h1)) (zLm_erase hL hab hk)
    · skip
      refine zr_aload0 X dX10_take_27 ?_
      refine zr_getD (r := b) X zf_X10_13 rfl (by decide) (hK) dX10_take_28 ?_
      refine zr_iload3 X dX10_take_31 ?_
      refine zr_aload0 X dX10_take_32 ?_
      refine zr_getD (r := b) X zf_X10_13 rfl (by decide) (hK) dX10_take_33 ?_
      refine zr_iload3 X dX10_take_36 ?_
      refine zr_iconst (v := (1 : Int32)) X dX10_take_37 (by decide) ?_
      refine zr_iadd X dX10_take_38 ?_
      refine zr_eq (x2 := (nI (j + 1))) (nI_add (j) (1)) ?_
      refine zr_ialdN (n := (j + 1)) X rfl (show _ < 11 from (by first | decide | omega | assumption)) dX10_take_39 ?_
      refine zr_iastN (n := j) X rfl (show _ < 11 from (by first | decide | omega | assumption)) dX10_take_40 ?_
      refine zr_iinc3 (v := (nI (j + 1))) X (show nI (j) + Int32.ofInt 1 = nI (j + 1) from nI_1 (j)) (by decide) rfl dX10_take_41 ?_
      refine zr_goto (tgt := 19) X dX10_take_44 (by decide) ?_
      refine zr_I (zshl_s i1) ?_
      exact ih (j + 1) (by omega) (by omega) (by omega)
set_option maxRecDepth 20000 in
theorem zp_X10_take {l : Launch} {D : va_G} {b0 : Nat} {tA : Nat → ClassId} {sa sv : Nat → Nat} {K : zKt} {I : zI} {Qp : zI → Option AV → Prop} {Xp : String → zI → Prop} {a b k : Nat} {w : List Nat}
    (hL : zLm I a b w) (hK : K.2 a 1 = some b) (hab : a ≠ b) (hk : k < w.length) (hl : w.length < 11) (k1 : ∀ I' : zI, zg2 I I' a b → zLm I' a b (w.eraseIdx k) → Qp I' (some (vi (nI (w.getD k 0) - 1)))) :
    zC l D b0 tA sa sv K yX10_take (.code yX10_take cX10_take 4 (some .int)) zrm_X10_take [vr (a) 15, vi ((nI k))] I Qp Xp := by
  refine zC_of (by decide +kernel) (Nat.le_of_ble_eq_true rfl) ?_
  intro p e s m args below meth c X hnt
  have X : zX p l e zrm_X10_take s m args below meth c RX10 cX10_take 4 (some .int) D b0 tA sa sv := X
  refine zr_lv (lv2 := [some (vr (a) 15), some (vi ((nI k))), none, none]) rfl ?_
  refine zr_aload0 X dX10_take_0 ?_
  refine zr_getD (r := b) X zf_X10_13 rfl (by decide) (hK) dX10_take_1 ?_
  refine zr_iload1 X dX10_take_4 ?_
  refine zr_ialdN (n := k) X rfl (show _ < 11 from (by first | decide | omega | assumption)) dX10_take_5 ?_
  refine zr_eq (x2 := (nI (w.getD k 0) - 1)) (hL.2 k (by first | omega | assumption)) ?_
  refine zr_istore2 X (by decide) rfl dX10_take_6 ?_
  refine zr_aload0 X dX10_take_7 ?_
  refine zr_dupR X dX10_take_8 ?_
  refine zr_getI X zf_X10_7 rfl dX10_take_9 ?_
  refine zr_eq (x2 := (nI (w.length))) (hL.1) ?_
  refine zr_iconst (v := (1 : Int32)) X dX10_take_12 (by decide) ?_
  refine zr_isub X dX10_take_13 ?_
  refine zr_eq (x2 := (nI ((w.length) - 1))) (pk_sub (a := (w.length)) (b := 1) (by omega)) ?_
  refine zr_putI X zf_X10_7 rfl (Or.inl rfl) dX10_take_14 ?_
  refine zr_iload1 X dX10_take_17 ?_
  refine zr_istore3 X (by decide) rfl dX10_take_18 ?_
  refine zr_I (zshl_0 (d := b) (lo := k)).symm ?_
  exact zl_X10_take X hnt hL hK hab hk hl k1 (w.length - k + 1) k (by omega) hk (by omega)
abbrev zrm_X10_lead : Room := { frames := 0, cells := 0, slots := 0, locals := 0 }
set_option maxRecDepth 20000 in
theorem zl_X10_lead {l : Launch} {D : va_G} {b0 : Nat} {tA : Nat → ClassId} {sa sv : Nat → Nat} {K : zKt} {I : zI} {Qp : zI → Option AV → Prop} {Xp : String → zI → Prop} {p : Program} {e : Env} {s : State} {m : MethodId} {args : Array Value} {below : List Frame} {meth : Method} {c : Code} {a b x : Nat} {w : List Nat}
    (X : zX p l e zrm_X10_lead s m args below meth c RX10 cX10_lead 3 none D b0 tA sa sv) (hnt : ∀ x ∈ c.exceptionTable.toList, False) (hL : zLm I a b w) (hK : K.2 a 1 = some b) (hab : a ≠ b) (hl : w.length < 11) (k1 : ∀ I' : zI, zg2 I I' a b → zLm I' a b (x :: w) → Qp I' none) :
    ∀ (n : Nat) (j : Nat), j ≤ w.length → j < n → zG p l e zrm_X10_lead s m args below meth c 3 D b0 tA sa 0 0 (zQ below D b0 tA sa K args s zrm_X10_lead Qp Xp) K 5 [some (vr (a) 15), some (vi ((nI x - 1))), some (vi ((nI j)))] [] (zshr I b j w.length) := by
  intro n
  induction n with
  | zero => intro j i1 i3; exact absurd i3 (Nat.not_lt_zero _)
  | succ n ih =>
    intro j i1 i3
    refine zr_iload2 X dX10_lead_5 ?_
    refine zr_nif_le X (j) (tgt := 29) (by omega) dX10_lead_6 (by decide) (fun h1 => ?_) (fun h1 => ?_)
    · skip
      refine zr_aload0 X dX10_lead_29 ?_
      refine zr_getD (r := b) X zf_X10_13 rfl (by decide) (hK) dX10_lead_30 ?_
      refine zr_iconst (v := (0 : Int32)) X dX10_lead_33 (by decide) ?_
      refine zr_iload1 X dX10_lead_34 ?_
      refine zr_iastN (n := 0) X rfl (show _ < 11 from (by first | decide | omega | assumption)) dX10_lead_35 ?_
      refine zr_aload0 X dX10_lead_36 ?_
      refine zr_dupR X dX10_lead_37 ?_
      refine zr_getI X zf_X10_7 rfl dX10_lead_38 ?_
      refine zr_eq (x2 := ((zshr I b j w.length) (a) 0)) ((zput_ne (by omega))) ?_
      refine zr_eq (x2 := (nI w.length)) ((congrFun (zshr_ne hab) 0).trans hL.1) ?_
      refine zr_iconst (v := (1 : Int32)) X dX10_lead_41 (by decide) ?_
      refine zr_iadd X dX10_lead_42 ?_
      refine zr_eq (x2 := (nI (w.length + 1))) (nI_add (w.length) (1)) ?_
      refine zr_putI X zf_X10_7 rfl (Or.inl rfl) dX10_lead_43 ?_
      refine zr_vret X (by decide) (by decide) dX10_lead_46 ?_
      have hj : j = 0 := by omega
      subst hj
      exact k1 _ (fun q h1 h2 => (zput_nq h1).trans ((zput_nq h2).trans (zshr_ne h2))) (zLm_lead hL hab)
    · skip
      refine zr_aload0 X dX10_lead_9 ?_
      refine zr_getD (r := b) X zf_X10_13 rfl (by decide) (hK) dX10_lead_10 ?_
      refine zr_iload2 X dX10_lead_13 ?_
      refine zr_aload0 X dX10_lead_14 ?_
      refine zr_getD (r := b) X zf_X10_13 rfl (by decide) (hK) dX10_lead_15 ?_
      refine zr_iload2 X dX10_lead_18 ?_
      refine zr_iconst (v := (1 : Int32)) X dX10_lead_19 (by decide) ?_
      refine zr_isub X dX10_lead_20 ?_
      refine zr_eq (x2 := (nI (j - 1))) (pk_sub (a := j) (b := 1) (by omega)) ?_
      refine zr_ialdN (n := (j - 1)) X rfl (show _ < 11 from (by first | decide | omega | assumption)) dX10_lead_21 ?_
      refine zr_iastN (n := j) X rfl (show _ < 11 from (by first | decide | omega | assumption)) dX10_lead_22 ?_
      refine zr_iinc2 (v := (nI (j - 1))) X (zdec1 (n := j) (by omega)) (by decide) rfl dX10_lead_23 ?_
      refine zr_goto (tgt := 5) X dX10_lead_26 (by decide) ?_
      obtain ⟨j9, rfl⟩ : ∃ j9, j = j9 + 1 := ⟨j - 1, by omega⟩
      refine zr_I (zshr_s i1) ?_
      exact ih j9 (by omega) (by omega)
set_option maxRecDepth 20000 in
theorem zp_X10_lead {l : Launch} {D : va_G} {b0 : Nat} {tA : Nat → ClassId} {sa sv : Nat → Nat} {K : zKt} {I : zI} {Qp : zI → Option AV → Prop} {Xp : String → zI → Prop} {a b x : Nat} {w : List Nat}
    (hL : zLm I a b w) (hK : K.2 a 1 = some b) (hab : a ≠ b) (hl : w.length < 11) (k1 : ∀ I' : zI, zg2 I I' a b → zLm I' a b (x :: w) → Qp I' none) :
    zC l D b0 tA sa sv K yX10_lead (.code yX10_lead cX10_lead 3 none) zrm_X10_lead [vr (a) 15, vi ((nI x - 1))] I Qp Xp := by
  refine zC_of (by decide +kernel) (Nat.le_of_ble_eq_true rfl) ?_
  intro p e s m args below meth c X hnt
  have X : zX p l e zrm_X10_lead s m args below meth c RX10 cX10_lead 3 none D b0 tA sa sv := X
  refine zr_lv (lv2 := [some (vr (a) 15), some (vi ((nI x - 1))), none]) rfl ?_
  refine zr_aload0 X dX10_lead_0 ?_
  refine zr_getI X zf_X10_7 rfl dX10_lead_1 ?_
  refine zr_eq (x2 := (nI (w.length))) (hL.1) ?_
  refine zr_istore2 X (by decide) rfl dX10_lead_4 ?_
  refine zr_I (zshr_0 (d := b) (hi := w.length)).symm ?_
  exact zl_X10_lead X hnt hL hK hab hl k1 (w.length + 1) w.length (by omega) (by omega)
abbrev zrm_X10_placeOf : Room := { frames := 0, cells := 0, slots := 0, locals := 0 }
theorem zgd_at {w : List Nat} {k y : Nat} (hk : k < w.length) (h : w.getD k 0 = y) : w[k]? = some y := by
  rw [List.getD_eq_getElem?_getD, List.getElem?_eq_getElem hk] at h
  rw [List.getElem?_eq_getElem hk]
  exact congrArg some h
set_option maxRecDepth 20000 in
theorem zl_X10_placeOf {l : Launch} {D : va_G} {b0 : Nat} {tA : Nat → ClassId} {sa sv : Nat → Nat} {K : zKt} {I : zI} {Qp : zI → Option AV → Prop} {Xp : String → zI → Prop} {p : Program} {e : Env} {s : State} {m : MethodId} {args : Array Value} {below : List Frame} {meth : Method} {c : Code} {a b c9 : Nat} {w : List Nat}
    (X : zX p l e zrm_X10_placeOf s m args below meth c RX10 cX10_placeOf 3 (some .int) D b0 tA sa sv) (hnt : ∀ x ∈ c.exceptionTable.toList, False) (hL : zLm I a b w) (hK : K.2 a 1 = some b) (hab : a ≠ b) (hl : w.length < 11) (hw : ∀ y ∈ w, y ≤ 12) (hc : c9 < 12) (k1 : ∀ k : Nat, k < w.length → w[k]? = some (c9 + 1) → (∀ i, i < k → ¬ w.getD i 0 = c9 + 1) → Qp I (some (vi (nI k)))) (k2 : (∀ i, i < w.length → ¬ w.getD i 0 = c9 + 1) → Qp I (some (vi (-1)))) :
    ∀ (n : Nat) (j : Nat), j ≤ w.length → (∀ i, i < j → ¬ w.getD i 0 = c9 + 1) → w.length - j < n → zG p l e zrm_X10_placeOf s m args below meth c 3 D b0 tA sa 0 0 (zQ below D b0 tA sa K args s zrm_X10_placeOf Qp Xp) K 2 [some (vr (a) 15), some (vi ((nI c9))), some (vi ((nI j)))] [] I := by
  intro n
  induction n with
  | zero => intro j i1 i2 i3; exact absurd i3 (Nat.not_lt_zero _)
  | succ n ih =>
    intro j i1 i2 i3
    have hz9 := zgd12 hw j
    refine zr_iload2 X dX10_placeOf_2 ?_
    refine zr_aload0 X dX10_placeOf_3 ?_
    refine zr_getI X zf_X10_7 rfl dX10_placeOf_4 ?_
    refine zr_eq (x2 := (nI (w.length))) (hL.1) ?_
    refine zr_nicmp_ge X (j) ((w.length)) (tgt := 28) (by omega) (by omega) dX10_placeOf_7 (by decide) (fun h1 => ?_) (fun h1 => ?_)
    · skip
      refine zr_iconst (v := (-1 : Int32)) X dX10_placeOf_28 (by decide) ?_
      refine zr_iret X (by decide) (by decide) dX10_placeOf_29 ?_
      exact k2 (fun i hi => i2 i (by omega))
    · skip
      refine zr_aload0 X dX10_placeOf_10 ?_
      refine zr_getD (r := b) X zf_X10_13 rfl (by decide) (hK) dX10_placeOf_11 ?_
      refine zr_iload2 X dX10_placeOf_14 ?_
      refine zr_ialdN (n := j) X rfl (show _ < 11 from (by first | decide | omega | assumption)) dX10_placeOf_15 ?_
      refine zr_eq (x2 := (nI (w.getD j 0) - 1)) (hL.2 j (by first | omega | assumption)) ?_
      refine zr_iload1 X dX10_placeOf_16 ?_
      refine zr_icmp_ne (tgt := 22) X dX10_placeOf_17 (by decide) (fun h2 => ?_) (fun h2 => ?_)
      · skip
        refine zr_iinc2 (v := (nI (j + 1))) X (show nI (j) + Int32.ofInt 1 = nI (j + 1) from nI_1 (j)) (by decide) rfl dX10_placeOf_22 ?_
        refine zr_goto (tgt := 2) X dX10_placeOf_25 (by decide) ?_
        exact ih (j + 1) (by omega) (fun i hi => by rcases Nat.lt_succ_iff_lt_or_eq.mp hi with q | rfl; exact i2 i q; exact fun z => h2 ((zwc (by omega) (by omega)).mpr z)) (by omega)
      · skip
        refine zr_iload2 X dX10_placeOf_20 ?_
        refine zr_iret X (by decide) (by decide) dX10_placeOf_21 ?_
        exact k1 j (by omega) (zgd_at (by omega) ((zwc (by omega) (by omega)).mp h2)) i2
set_option maxRecDepth 20000 in
theorem zp_X10_placeOf {l : Launch} {D : va_G} {b0 : Nat} {tA : Nat → ClassId} {sa sv : Nat → Nat} {K : zKt} {I : zI} {Qp : zI → Option AV → Prop} {Xp : String → zI → Prop} {a b c9 : Nat} {w : List Nat}
    (hL : zLm I a b w) (hK : K.2 a 1 = some b) (hab : a ≠ b) (hl : w.length < 11) (hw : ∀ y ∈ w, y ≤ 12) (hc : c9 < 12) (k1 : ∀ k : Nat, k < w.length → w[k]? = some (c9 + 1) → (∀ i, i < k → ¬ w.getD i 0 = c9 + 1) → Qp I (some (vi (nI k)))) (k2 : (∀ i, i < w.length → ¬ w.getD i 0 = c9 + 1) → Qp I (some (vi (-1)))) :
    zC l D b0 tA sa sv K yX10_placeOf (.code yX10_placeOf cX10_placeOf 3 (some .int)) zrm_X10_placeOf [vr (a) 15, vi ((nI c9))] I Qp Xp := by
  refine zC_of (by decide +kernel) (Nat.le_of_ble_eq_true rfl) ?_
  intro p e s m args below meth c X hnt
  have X : zX p l e zrm_X10_placeOf s m args below meth c RX10 cX10_placeOf 3 (some .int) D b0 tA sa sv := X
  refine zr_lv (lv2 := [some (vr (a) 15), some (vi ((nI c9))), none]) rfl ?_
  refine zr_iconst (v := (0 : Int32)) X dX10_placeOf_0 (by decide) ?_
  refine zr_istore2 X (by decide) rfl dX10_placeOf_1 ?_
  exact zl_X10_placeOf X hnt hL hK hab hl hw hc k1 k2 (w.length + 1) 0 (by omega) (fun i hi => absurd hi (Nat.not_lt_zero _)) (by omega)
abbrev zrm_X10_firstCard : Room := { frames := 0, cells := 0, slots := 0, locals := 0 }
theorem zneg1 {x : Nat} (h : x < 2 ^ 30) : 0 ≤ nI x - 1 ↔ x ≠ 0 := by
  rcases x with _ | x
  · exact ⟨fun h => absurd h (by decide), fun h => absurd rfl h⟩
  · rw [show nI (x + 1) - 1 = nI x from pk_sub (a := x + 1) (b := 1) (by omega)]
    exact ⟨fun _ => Nat.succ_ne_zero _, fun _ => (nI_leI (a := 0) (by decide) (by omega)).mpr (Nat.zero_le _)⟩
set_option maxRecDepth 20000 in
theorem zl_X10_firstCard {l : Launch} {D : va_G} {b0 : Nat} {tA : Nat → ClassId} {sa sv : Nat → Nat} {K : zKt} {I : zI} {Qp : zI → Option AV → Prop} {Xp : String → zI → Prop} {p : Program} {e : Env} {s : State} {m : MethodId} {args : Array Value} {below : List Frame} {meth : Method} {c : Code} {a b : Nat} {w : List Nat}
    (X : zX p l e zrm_X10_firstCard s m args below meth c RX10 cX10_firstCard 2 (some .int) D b0 tA sa sv) (hnt : ∀ x ∈ c.exceptionTable.toList, False) (hL : zLm I a b w) (hK : K.2 a 1 = some b) (hab : a ≠ b) (hl : w.length < 11) (hw : ∀ y ∈ w, y ≤ 12) (k1 : ∀ k : Nat, k ≤ w.length → (∀ i, i < k → w.getD i 0 = 0) → (k < w.length → w.getD k 0 ≠ 0) → Qp I (some (vi (nI k)))) :
    ∀ (n : Nat) (j : Nat), j ≤ w.length → (∀ i, i < j → w.getD i 0 = 0) → w.length - j < n → zG p l e zrm_X10_firstCard s m args below meth c 2 D b0 tA sa 0 0 (zQ below D b0 tA sa K args s zrm_X10_firstCard Qp Xp) K 2 [some (vr (a) 15), some (vi ((nI j)))] [] I := by
  intro n
  induction n with
  | zero => intro j i1 i2 i3; exact absurd i3 (Nat.not_lt_zero _)
  | succ n ih =>
    intro j i1 i2 i3
    have hz9 := zgd12 hw j
    refine zr_iload1 X dX10_firstCard_2 ?_
    refine zr_aload0 X dX10_firstCard_3 ?_
    refine zr_getI X zf_X10_7 rfl dX10_firstCard_4 ?_
    refine zr_eq (x2 := (nI (w.length))) (hL.1) ?_
    refine zr_nicmp_ge X (j) ((w.length)) (tgt := 25) (by omega) (by omega) dX10_firstCard_7 (by decide) (fun h1 => ?_) (fun h1 => ?_)
    · skip
      refine zr_iload1 X dX10_firstCard_25 ?_
      refine zr_iret X (by decide) (by decide) dX10_firstCard_26 ?_
      exact k1 j (by omega) i2 (fun z => absurd z (by omega))
    · skip
      refine zr_aload0 X dX10_firstCard_10 ?_
      refine zr_getD (r := b) X zf_X10_13 rfl (by decide) (hK) dX10_firstCard_11 ?_
      refine zr_iload1 X dX10_firstCard_14 ?_
      refine zr_ialdN (n := j) X rfl (show _ < 11 from (by first | decide | omega | assumption)) dX10_firstCard_15 ?_
      refine zr_eq (x2 := (nI (w.getD j 0) - 1)) (hL.2 j (by first | omega | assumption)) ?_
      refine zr_if_ge (tgt := 25) X dX10_firstCard_16 (by decide) (fun h2 => ?_) (fun h2 => ?_)
      · skip
        refine zr_iload1 X dX10_firstCard_25 ?_
        refine zr_iret X (by decide) (by decide) dX10_firstCard_26 ?_
        exact k1 j (by omega) i2 (fun _ => (zneg1 (by omega)).mp h2)
      · skip
        refine zr_iinc1 (v := (nI (j + 1))) X (show nI (j) + Int32.ofInt 1 = nI (j + 1) from nI_1 (j)) (by decide) rfl dX10_firstCard_19 ?_
        refine zr_goto (tgt := 2) X dX10_firstCard_22 (by decide) ?_
        exact ih (j + 1) (by omega) (fun i hi => by rcases Nat.lt_succ_iff_lt_or_eq.mp hi with q | rfl; exact i2 i q; exact Decidable.not_not.mp (fun z => h2 ((zneg1 (by omega)).mpr z))) (by omega)
set_option maxRecDepth 20000 in
theorem zp_X10_firstCard {l : Launch} {D : va_G} {b0 : Nat} {tA : Nat → ClassId} {sa sv : Nat → Nat} {K : zKt} {I : zI} {Qp : zI → Option AV → Prop} {Xp : String → zI → Prop} {a b : Nat} {w : List Nat}
    (hL : zLm I a b w) (hK : K.2 a 1 = some b) (hab : a ≠ b) (hl : w.length < 11) (hw : ∀ y ∈ w, y ≤ 12) (k1 : ∀ k : Nat, k ≤ w.length → (∀ i, i < k → w.getD i 0 = 0) → (k < w.length → w.getD k 0 ≠ 0) → Qp I (some (vi (nI k)))) :
    zC l D b0 tA sa sv K yX10_firstCard (.code yX10_firstCard cX10_firstCard 2 (some .int)) zrm_X10_firstCard [vr (a) 15] I Qp Xp := by
  refine zC_of (by decide +kernel) (Nat.le_of_ble_eq_true rfl) ?_
  intro p e s m args below meth c X hnt
  have X : zX p l e zrm_X10_firstCard s m args below meth c RX10 cX10_firstCard 2 (some .int) D b0 tA sa sv := X
  refine zr_lv (lv2 := [some (vr (a) 15), none]) rfl ?_
  refine zr_iconst (v := (0 : Int32)) X dX10_firstCard_0 (by decide) ?_
  refine zr_istore1 X (by decide) rfl dX10_firstCard_1 ?_
  exact zl_X10_firstCard X hnt hL hK hab hl hw k1 (w.length + 1) 0 (by omega) (fun i hi => absurd hi (Nat.not_lt_zero _)) (by omega)
