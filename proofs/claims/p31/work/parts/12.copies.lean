/-! ===== places in a line; copies ===== -/
abbrev zrm_X4_placeOf : Room := { frames := 0, cells := 0, slots := 0, locals := 0 }
theorem zle12 {w : List Nat} (hw : ∀ y ∈ w, y ≤ 12) (p : Nat) : w.getD p 0 < 2 ^ 30 := by
  rw [List.getD_eq_getElem?_getD]
  cases h : w[p]? with
  | none => exact Nat.zero_lt_of_lt (by decide : 0 < 2 ^ 30)
  | some y => have := hw y (List.mem_of_getElem? h); exact Nat.lt_of_le_of_lt this (by decide)
set_option maxRecDepth 20000 in
theorem zl_X4_placeOf {l : Launch} {D : va_G} {b0 : Nat} {tA : Nat → ClassId} {sa sv : Nat → Nat} {K : zKt} {I : zI} {Qp : zI → Option AV → Prop} {Xp : String → zI → Prop} {p : Program} {e : Env} {s : State} {m : MethodId} {args : Array Value} {below : List Frame} {meth : Method} {c : Code} {a c9 : Nat} {w : List Nat}
    (X : zX p l e zrm_X4_placeOf s m args below meth c RX4 cX4_placeOf 3 (some .int) D b0 tA sa sv) (hnt : ∀ x ∈ c.exceptionTable.toList, False) (hL : zLn I a w) (hw : ∀ y ∈ w, y ≤ 12) (hc : c9 < 12) (k1 : ∀ k : Nat, k < w.length → w.getD k 0 = c9 + 1 → (∀ i, i < k → w.getD i 0 ≠ c9 + 1) → Qp I (some (vi (nI k)))) (k2 : (∀ i, i < w.length → w.getD i 0 ≠ c9 + 1) → Qp I (some (vi (-1)))) :
    ∀ (n : Nat) (j : Nat), j ≤ w.length → (∀ i, i < j → w.getD i 0 ≠ c9 + 1) → w.length - j < n → zG p l e zrm_X4_placeOf s m args below meth c 3 D b0 tA sa 0 0 (zQ below D b0 tA sa K args s zrm_X4_placeOf Qp Xp) K 2 [some (vr (a) 4), some (vi ((nI c9))), some (vi ((nI j)))] [] I := by
  intro n
  induction n with
  | zero => intro j i1 i2 i3; exact absurd i3 (Nat.not_lt_zero _)
  | succ n ih =>
    intro j i1 i2 i3
    have hl9 := hL.2.1
    refine zr_iload2 X dX4_placeOf_2 ?_
    refine zr_aload0 X dX4_placeOf_3 ?_
    refine zr_getI X zf_X4_15 rfl dX4_placeOf_4 ?_
    refine zr_eq (x2 := (nI w.length)) (hL.1) ?_
    refine zr_nicmp_ge X (j) (w.length) (tgt := 37) (by omega) (by omega) dX4_placeOf_7 (by decide) (fun h1 => ?_) (fun h1 => ?_)
    · skip
      refine zr_iconst (v := (-1 : Int32)) X dX4_placeOf_37 (by decide) ?_
      refine zr_iret X (by decide) (by decide) dX4_placeOf_38 ?_
      exact k2 (fun i hi => i2 i (by omega))
    · skip
      refine zr_iload2 X dX4_placeOf_10 ?_
      refine zr_aload0 X dX4_placeOf_11 ?_
      refine zr_getR X zf_X4_9 rfl (by decide) (by decide) dX4_placeOf_12 ?_
      refine zr_alen (v := 10) X (Or.inl rfl) rfl dX4_placeOf_15 ?_
      refine zr_nicmp_ge X (j) (10) (tgt := 37) (by omega) (by omega) dX4_placeOf_16 (by decide) (fun h2 => ?_) (fun h2 => ?_)
      · exact absurd h2 (by omega)
      · skip
        refine zr_aload0 X dX4_placeOf_19 ?_
        refine zr_getR X zf_X4_9 rfl (by decide) (by decide) dX4_placeOf_20 ?_
        refine zr_iload2 X dX4_placeOf_23 ?_
        refine zr_ialdN X rfl (show _ < 10 from (by first | assumption | omega)) dX4_placeOf_24 ?_
        refine zr_eq (x2 := (nI (w.getD j 0) - 1)) (hL.2.2 j (by omega)) ?_
        refine zr_iload1 X dX4_placeOf_25 ?_
        refine zr_icmp_ne (tgt := 31) X dX4_placeOf_26 (by decide) (fun h3 => ?_) (fun h3 => ?_)
        · skip
          refine zr_iinc2 (v := (nI (j + 1))) X (show nI (j) + Int32.ofInt 1 = nI (j + 1) from nI_1 (j)) (by decide) rfl dX4_placeOf_31 ?_
          refine zr_goto (tgt := 2) X dX4_placeOf_34 (by decide) ?_
          exact ih (j + 1) (by omega) (fun i hi => by rcases Nat.lt_succ_iff_lt_or_eq.mp hi with q | rfl; exact i2 i q; exact fun z => absurd ((zwc (zle12 hw i) (by omega)).mpr z) (by assumption)) (by omega)
        · skip
          refine zr_iload2 X dX4_placeOf_29 ?_
          refine zr_iret X (by decide) (by decide) dX4_placeOf_30 ?_
          exact k1 j (by omega) ((zwc (zle12 hw j) (by omega)).mp (by assumption)) i2
set_option maxRecDepth 20000 in
theorem zp_X4_placeOf {l : Launch} {D : va_G} {b0 : Nat} {tA : Nat → ClassId} {sa sv : Nat → Nat} {K : zKt} {I : zI} {Qp : zI → Option AV → Prop} {Xp : String → zI → Prop} {a c9 : Nat} {w : List Nat}
    (hL : zLn I a w) (hw : ∀ y ∈ w, y ≤ 12) (hc : c9 < 12) (k1 : ∀ k : Nat, k < w.length → w.getD k 0 = c9 + 1 → (∀ i, i < k → w.getD i 0 ≠ c9 + 1) → Qp I (some (vi (nI k)))) (k2 : (∀ i, i < w.length → w.getD i 0 ≠ c9 + 1) → Qp I (some (vi (-1)))) :
    zC l D b0 tA sa sv K yX4_placeOf (.code yX4_placeOf cX4_placeOf 3 (some .int)) zrm_X4_placeOf [vr (a) 4, vi ((nI c9))] I Qp Xp := by
  refine zC_of (by decide +kernel) (Nat.le_of_ble_eq_true rfl) ?_
  intro p e s m args below meth c X hnt
  have X : zX p l e zrm_X4_placeOf s m args below meth c RX4 cX4_placeOf 3 (some .int) D b0 tA sa sv := X
  refine zr_lv (lv2 := [some (vr (a) 4), some (vi ((nI c9))), none]) rfl ?_
  refine zr_iconst (v := (0 : Int32)) X dX4_placeOf_0 (by decide) ?_
  refine zr_istore2 X (by decide) rfl dX4_placeOf_1 ?_
  exact zl_X4_placeOf X hnt hL hw hc k1 k2 (w.length + 1) 0 (by omega) (fun i hi => absurd hi (Nat.not_lt_zero _)) (by omega)
abbrev zrm_X4_firstPlaceWithCard : Room := { frames := 0, cells := 0, slots := 0, locals := 0 }
set_option maxRecDepth 20000 in
theorem zl_X4_firstPlaceWithCard {l : Launch} {D : va_G} {b0 : Nat} {tA : Nat → ClassId} {sa sv : Nat → Nat} {K : zKt} {I : zI} {Qp : zI → Option AV → Prop} {Xp : String → zI → Prop} {p : Program} {e : Env} {s : State} {m : MethodId} {args : Array Value} {below : List Frame} {meth : Method} {c : Code} {a : Nat} {w : List Nat}
    (X : zX p l e zrm_X4_firstPlaceWithCard s m args below meth c RX4 cX4_firstPlaceWithCard 2 (some .int) D b0 tA sa sv) (hnt : ∀ x ∈ c.exceptionTable.toList, False) (hL : zLn I a w) (hw : ∀ y ∈ w, y ≤ 12) (k1 : ∀ k : Nat, k < w.length → w.getD k 0 ≠ 0 → (∀ i, i < k → w.getD i 0 = 0) → Qp I (some (vi (nI k)))) (k2 : (∀ i, i < w.length → w.getD i 0 = 0) → Qp I (some (vi (-1)))) :
    ∀ (n : Nat) (j : Nat), j ≤ w.length → (∀ i, i < j → w.getD i 0 = 0) → w.length - j < n → zG p l e zrm_X4_firstPlaceWithCard s m args below meth c 2 D b0 tA sa 0 0 (zQ below D b0 tA sa K args s zrm_X4_firstPlaceWithCard Qp Xp) K 2 [some (vr (a) 4), some (vi ((nI j)))] [] I := by
  intro n
  induction n with
  | zero => intro j i1 i2 i3; exact absurd i3 (Nat.not_lt_zero _)
  | succ n ih =>
    intro j i1 i2 i3
    have hl9 := hL.2.1
    refine zr_iload1 X dX4_firstPlaceWithCard_2 ?_
    refine zr_aload0 X dX4_firstPlaceWithCard_3 ?_
    refine zr_getI X zf_X4_15 rfl dX4_firstPlaceWithCard_4 ?_
    refine zr_eq (x2 := (nI w.length)) (hL.1) ?_
    refine zr_nicmp_ge X (j) (w.length) (tgt := 37) (by omega) (by omega) dX4_firstPlaceWithCard_7 (by decide) (fun h1 => ?_) (fun h1 => ?_)
    · skip
      refine zr_iconst (v := (-1 : Int32)) X dX4_firstPlaceWithCard_37 (by decide) ?_
      refine zr_iret X (by decide) (by decide) dX4_firstPlaceWithCard_38 ?_
      exact k2 (fun i hi => i2 i (by omega))
    · skip
      refine zr_iload1 X dX4_firstPlaceWithCard_10 ?_
      refine zr_aload0 X dX4_firstPlaceWithCard_11 ?_
      refine zr_getR X zf_X4_9 rfl (by decide) (by decide) dX4_firstPlaceWithCard_12 ?_
      refine zr_alen (v := 10) X (Or.inl rfl) rfl dX4_firstPlaceWithCard_15 ?_
      refine zr_nicmp_ge X (j) (10) (tgt := 37) (by omega) (by omega) dX4_firstPlaceWithCard_16 (by decide) (fun h2 => ?_) (fun h2 => ?_)
      · exact absurd h2 (by omega)
      · skip
        refine zr_aload0 X dX4_firstPlaceWithCard_19 ?_
        refine zr_getR X zf_X4_9 rfl (by decide) (by decide) dX4_firstPlaceWithCard_20 ?_
        refine zr_iload1 X dX4_firstPlaceWithCard_23 ?_
        refine zr_ialdN X rfl (show _ < 10 from (by first | assumption | omega)) dX4_firstPlaceWithCard_24 ?_
        refine zr_eq (x2 := (nI (w.getD j 0) - 1)) (hL.2.2 j (by omega)) ?_
        refine zr_iconst (v := (-1 : Int32)) X dX4_firstPlaceWithCard_25 (by decide) ?_
        refine zr_icmp_eq (tgt := 31) X dX4_firstPlaceWithCard_26 (by decide) (fun h3 => ?_) (fun h3 => ?_)
        · skip
          refine zr_iinc1 (v := (nI (j + 1))) X (show nI (j) + Int32.ofInt 1 = nI (j + 1) from nI_1 (j)) (by decide) rfl dX4_firstPlaceWithCard_31 ?_
          refine zr_goto (tgt := 2) X dX4_firstPlaceWithCard_34 (by decide) ?_
          exact ih (j + 1) (by omega) (fun i hi => by rcases Nat.lt_succ_iff_lt_or_eq.mp hi with q | rfl; exact i2 i q; exact (zw1 (zle12 hw i)).mp (by assumption)) (by omega)
        · skip
          refine zr_iload1 X dX4_firstPlaceWithCard_29 ?_
          refine zr_iret X (by decide) (by decide) dX4_firstPlaceWithCard_30 ?_
          exact k1 j (by omega) (fun z => absurd ((zw1 (zle12 hw j)).mpr z) (by assumption)) i2
set_option maxRecDepth 20000 in
theorem zp_X4_firstPlaceWithCard {l : Launch} {D : va_G} {b0 : Nat} {tA : Nat → ClassId} {sa sv : Nat → Nat} {K : zKt} {I : zI} {Qp : zI → Option AV → Prop} {Xp : String → zI → Prop} {a : Nat} {w : List Nat}
    (hL : zLn I a w) (hw : ∀ y ∈ w, y ≤ 12) (k1 : ∀ k : Nat, k < w.length → w.getD k 0 ≠ 0 → (∀ i, i < k → w.getD i 0 = 0) → Qp I (some (vi (nI k)))) (k2 : (∀ i, i < w.length → w.getD i 0 = 0) → Qp I (some (vi (-1)))) :
    zC l D b0 tA sa sv K yX4_firstPlaceWithCard (.code yX4_firstPlaceWithCard cX4_firstPlaceWithCard 2 (some .int)) zrm_X4_firstPlaceWithCard [vr (a) 4] I Qp Xp := by
  refine zC_of (by decide +kernel) (Nat.le_of_ble_eq_true rfl) ?_
  intro p e s m args below meth c X hnt
  have X : zX p l e zrm_X4_firstPlaceWithCard s m args below meth c RX4 cX4_firstPlaceWithCard 2 (some .int) D b0 tA sa sv := X
  refine zr_lv (lv2 := [some (vr (a) 4), none]) rfl ?_
  refine zr_iconst (v := (0 : Int32)) X dX4_firstPlaceWithCard_0 (by decide) ?_
  refine zr_istore1 X (by decide) rfl dX4_firstPlaceWithCard_1 ?_
  exact zl_X4_firstPlaceWithCard X hnt hL hw k1 k2 (w.length + 1) 0 (by omega) (fun i hi => absurd hi (Nat.not_lt_zero _)) (by omega)
abbrev zrm_X4_copyFrom : Room := { frames := 0, cells := 0, slots := 0, locals := 0 }
theorem zLn_copy {I : zI} {a b : Nat} {w : List Nat} (hL : zLn I b w) (hd : a + 2 ≤ b ∨ b + 2 ≤ a) : zLn (zcp (zput I a 1 (I b 1)) (b + 1) (a + 1) 10) a w := by
  refine ⟨by rw [zcp_ne (by omega), zput_eq]; exact hL.1, hL.2.1, fun p hp => ?_⟩
  have := hL.2.1
  rw [zcp_in (by omega), zput_ne (by omega)]
  exact hL.2.2 p hp
set_option maxRecDepth 20000 in
theorem zl_X4_copyFrom {l : Launch} {D : va_G} {b0 : Nat} {tA : Nat → ClassId} {sa sv : Nat → Nat} {K : zKt} {I : zI} {Qp : zI → Option AV → Prop} {Xp : String → zI → Prop} {p : Program} {e : Env} {s : State} {m : MethodId} {args : Array Value} {below : List Frame} {meth : Method} {c : Code} {a b : Nat} {w : List Nat}
    (X : zX p l e zrm_X4_copyFrom s m args below meth c RX4 cX4_copyFrom 3 none D b0 tA sa sv) (hnt : ∀ x ∈ c.exceptionTable.toList, False) (hL : zLn I b w) (hd : a + 2 ≤ b ∨ b + 2 ≤ a) (h : ∀ I' : zI, zag I I' a 2 → zLn I' a w → Qp I' none) :
    ∀ (n : Nat) (j : Nat), j ≤ 10 → 10 - j < n → zG p l e zrm_X4_copyFrom s m args below meth c 3 D b0 tA sa 0 0 (zQ below D b0 tA sa K args s zrm_X4_copyFrom Qp Xp) K 10 [some (vr (a) 4), some (vr (b) 4), some (vi ((nI j)))] [] (zcp (zput I a 1 (I b 1)) (b + 1) (a + 1) j) := by
  intro n
  induction n with
  | zero => intro j i1 i3; exact absurd i3 (Nat.not_lt_zero _)
  | succ n ih =>
    intro j i1 i3
    refine zr_iload2 X dX4_copyFrom_10 ?_
    refine zr_aload0 X dX4_copyFrom_11 ?_
    refine zr_getR X zf_X4_9 rfl (by decide) (by decide) dX4_copyFrom_12 ?_
    refine zr_alen (v := 10) X (Or.inl rfl) rfl dX4_copyFrom_15 ?_
    refine zr_nicmp_ge X (j) (10) (tgt := 46) (by omega) (by omega) dX4_copyFrom_16 (by decide) (fun h1 => ?_) (fun h1 => ?_)
    · skip
      refine zr_vret X (by decide) (by decide) dX4_copyFrom_46 ?_
      have hj : j = 10 := by omega
      subst hj
      exact h _ (fun q hq => (zcp_ne (by omega)).trans (zput_nq (by omega))) (zLn_copy hL hd)
    · skip
      refine zr_iload2 X dX4_copyFrom_19 ?_
      refine zr_aload1 X dX4_copyFrom_20 ?_
      refine zr_getR X zf_X4_9 rfl (by decide) (by decide) dX4_copyFrom_21 ?_
      refine zr_alen (v := 10) X (Or.inl rfl) rfl dX4_copyFrom_24 ?_
      refine zr_nicmp_ge X (j) (10) (tgt := 46) (by omega) (by omega) dX4_copyFrom_25 (by decide) (fun h2 => ?_) (fun h2 => ?_)
      · exact absurd h2 (by omega)
      · skip
        refine zr_aload0 X dX4_copyFrom_28 ?_
        refine zr_getR X zf_X4_9 rfl (by decide) (by decide) dX4_copyFrom_29 ?_
        refine zr_iload2 X dX4_copyFrom_32 ?_
        refine zr_aload1 X dX4_copyFrom_33 ?_
        refine zr_getR X zf_X4_9 rfl (by decide) (by decide) dX4_copyFrom_34 ?_
        refine zr_iload2 X dX4_copyFrom_37 ?_
        refine zr_ialdN X rfl (show _ < 10 from (by first | assumption | omega)) dX4_copyFrom_38 ?_
        refine zr_iastN X rfl (show _ < 10 from (by first | assumption | omega)) dX4_copyFrom_39 ?_
        refine zr_iinc2 (v := (nI (j + 1))) X (show nI (j) + Int32.ofInt 1 = nI (j + 1) from nI_1 (j)) (by decide) rfl dX4_copyFrom_40 ?_
        refine zr_goto (tgt := 10) X dX4_copyFrom_43 (by decide) ?_
        refine zr_I (zcp_s (by omega)) ?_
        exact ih (j + 1) (by omega) (by omega)
set_option maxRecDepth 20000 in
theorem zp_X4_copyFrom {l : Launch} {D : va_G} {b0 : Nat} {tA : Nat → ClassId} {sa sv : Nat → Nat} {K : zKt} {I : zI} {Qp : zI → Option AV → Prop} {Xp : String → zI → Prop} {a b : Nat} {w : List Nat}
    (hL : zLn I b w) (hd : a + 2 ≤ b ∨ b + 2 ≤ a) (h : ∀ I' : zI, zag I I' a 2 → zLn I' a w → Qp I' none) :
    zC l D b0 tA sa sv K yX4_copyFrom (.code yX4_copyFrom cX4_copyFrom 3 none) zrm_X4_copyFrom [vr (a) 4, vr (b) 4] I Qp Xp := by
  refine zC_of (by decide +kernel) (Nat.le_of_ble_eq_true rfl) ?_
  intro p e s m args below meth c X hnt
  have X : zX p l e zrm_X4_copyFrom s m args below meth c RX4 cX4_copyFrom 3 none D b0 tA sa sv := X
  refine zr_lv (lv2 := [some (vr (a) 4), some (vr (b) 4), none]) rfl ?_
  refine zr_aload0 X dX4_copyFrom_0 ?_
  refine zr_aload1 X dX4_copyFrom_1 ?_
  refine zr_getI X zf_X4_15 rfl dX4_copyFrom_2 ?_
  refine zr_putI X zf_X4_15 rfl (Or.inl rfl) dX4_copyFrom_5 ?_
  refine zr_iconst (v := (0 : Int32)) X dX4_copyFrom_8 (by decide) ?_
  refine zr_istore2 X (by decide) rfl dX4_copyFrom_9 ?_
  refine zr_I (zcp_0 (f := b + 1) (t := a + 1)).symm ?_
  exact zl_X4_copyFrom X hnt hL hd h 11 0 (by omega) (by omega)
abbrev zrm_X1_copyFrom : Room := { frames := 1, cells := 0, slots := 0, locals := 22 }
set_option maxRecDepth 20000 in
theorem zp_X1_copyFrom {l : Launch} {D : va_G} {b0 : Nat} {tA : Nat → ClassId} {sa sv : Nat → Nat} {K : zKt} {I : zI} {Qp : zI → Option AV → Prop} {Xp : String → zI → Prop} {a b : Nat} {G : Nat → Int32} {w0 w1 : List Nat}
    (hG : zGt I b G w0 w1) (hd : a + 5 ≤ b ∨ b + 5 ≤ a) (h : ∀ I' : zI, zag I I' a 5 → zGt I' a G w0 w1 → Qp I' none) :
    zC l D b0 tA sa sv K yX1_copyFrom (.code yX1_copyFrom cX1_copyFrom 2 none) zrm_X1_copyFrom [vr (a) 1, vr (b) 1] I Qp Xp := by
  have hG1 := hG.2.1
  have hG2 := hG.2.2
  refine zC_of (by decide +kernel) (Nat.le_of_ble_eq_true rfl) ?_
  intro p e s m args below meth c X hnt
  have X : zX p l e zrm_X1_copyFrom s m args below meth c RX1 cX1_copyFrom 2 none D b0 tA sa sv := X
  refine zr_lv (lv2 := [some (vr (a) 1), some (vr (b) 1)]) rfl ?_
  refine zr_aload0 X dX1_copyFrom_0 ?_
  refine zr_getR X zf_X1_12 rfl (by decide) (by decide) dX1_copyFrom_1 ?_
  refine zr_aload1 X dX1_copyFrom_4 ?_
  refine zr_getR X zf_X1_12 rfl (by decide) (by decide) dX1_copyFrom_5 ?_
  refine zr_callV1 (rm9 := zrm_X4_copyFrom) X hnt zm_X1_28 (by decide) (by decide) (by decide) (Nat.le_of_ble_eq_true rfl) dX1_copyFrom_8 ?_
  refine zp_X4_copyFrom (w := w0) (by repeat (first | assumption | refine zLn.put ?_ (by omega) (by omega) | refine zLn.ag (by assumption) (by omega) ?_)) (by omega) ?_
  intro J1 hg2 hl3
  refine zr_aload0 X dX1_copyFrom_11 ?_
  refine zr_getR X zf_X1_18 rfl (by decide) (by decide) dX1_copyFrom_12 ?_
  refine zr_aload1 X dX1_copyFrom_15 ?_
  refine zr_getR X zf_X1_18 rfl (by decide) (by decide) dX1_copyFrom_16 ?_
  refine zr_callV1 (rm9 := zrm_X4_copyFrom) X hnt zm_X1_28 (by decide) (by decide) (by decide) (Nat.le_of_ble_eq_true rfl) dX1_copyFrom_19 ?_
  refine zp_X4_copyFrom (w := w1) (by repeat (first | assumption | refine zLn.put ?_ (by omega) (by omega) | refine zLn.ag (by assumption) (by omega) ?_)) (by omega) ?_
  intro J4 hg5 hl6
  refine zr_aload0 X dX1_copyFrom_22 ?_
  refine zr_aload1 X dX1_copyFrom_23 ?_
  refine zr_getI X zf_X1_32 rfl dX1_copyFrom_24 ?_
  refine zr_eq (x2 := (I (b) 2)) ((congrFun (hg5 (b) (by omega)) 2).trans ((congrFun (hg2 (b) (by omega)) 2))) ?_
  refine zr_putI X zf_X1_32 rfl (Or.inl rfl) dX1_copyFrom_27 ?_
  refine zr_aload0 X dX1_copyFrom_30 ?_
  refine zr_aload1 X dX1_copyFrom_31 ?_
  refine zr_getI X zf_X1_35 rfl dX1_copyFrom_32 ?_
  refine zr_eq (x2 := (I (b) 3)) ((zput_ne (by omega)).trans ((congrFun (hg5 (b) (by omega)) 3).trans ((congrFun (hg2 (b) (by omega)) 3)))) ?_
  refine zr_putI X zf_X1_35 rfl (Or.inl rfl) dX1_copyFrom_35 ?_
  refine zr_aload0 X dX1_copyFrom_38 ?_
  refine zr_aload1 X dX1_copyFrom_39 ?_
  refine zr_getI X zf_X1_21 rfl dX1_copyFrom_40 ?_
  refine zr_eq (x2 := (I (b) 4)) ((zput_ne (by omega)).trans ((zput_ne (by omega)).trans ((congrFun (hg5 (b) (by omega)) 4).trans ((congrFun (hg2 (b) (by omega)) 4))))) ?_
  refine zr_putI X zf_X1_21 rfl (Or.inl rfl) dX1_copyFrom_43 ?_
  refine zr_aload0 X dX1_copyFrom_46 ?_
  refine zr_aload1 X dX1_copyFrom_47 ?_
  refine zr_getZ X zf_X1_38 rfl rfl (by decide) dX1_copyFrom_48 (fun hz1 => ?_)
  refine zr_eq (x2 := (I (b) 5)) ((zput_ne (by omega)).trans ((zput_ne (by omega)).trans ((zput_ne (by omega)).trans ((congrFun (hg5 (b) (by omega)) 5).trans ((congrFun (hg2 (b) (by omega)) 5)))))) ?_
  have hz1 := hz1.imp (fun h => ((zput_ne (by omega)).trans ((zput_ne (by omega)).trans ((zput_ne (by omega)).trans ((congrFun (hg5 (b) (by omega)) 5).trans ((congrFun (hg2 (b) (by omega)) 5)))))).symm.trans h) (fun h => ((zput_ne (by omega)).trans ((zput_ne (by omega)).trans ((zput_ne (by omega)).trans ((congrFun (hg5 (b) (by omega)) 5).trans ((congrFun (hg2 (b) (by omega)) 5)))))).symm.trans h)
  refine zr_putI X zf_X1_38 rfl (Or.inr (by first | decide | assumption | (simp; done))) dX1_copyFrom_51 ?_
  refine zr_aload0 X dX1_copyFrom_54 ?_
  refine zr_aload1 X dX1_copyFrom_55 ?_
  refine zr_getI X zf_X1_42 rfl dX1_copyFrom_56 ?_
  refine zr_eq (x2 := (I (b) 6)) ((zput_ne (by omega)).trans ((zput_ne (by omega)).trans ((zput_ne (by omega)).trans ((zput_ne (by omega)).trans ((congrFun (hg5 (b) (by omega)) 6).trans ((congrFun (hg2 (b) (by omega)) 6))))))) ?_
  refine zr_putI X zf_X1_42 rfl (Or.inl rfl) dX1_copyFrom_59 ?_
  refine zr_aload0 X dX1_copyFrom_62 ?_
  refine zr_aload1 X dX1_copyFrom_63 ?_
  refine zr_getI X zf_X1_45 rfl dX1_copyFrom_64 ?_
  refine zr_eq (x2 := (I (b) 7)) ((zput_ne (by omega)).trans ((zput_ne (by omega)).trans ((zput_ne (by omega)).trans ((zput_ne (by omega)).trans ((zput_ne (by omega)).trans ((congrFun (hg5 (b) (by omega)) 7).trans ((congrFun (hg2 (b) (by omega)) 7)))))))) ?_
  refine zr_putI X zf_X1_45 rfl (Or.inl rfl) dX1_copyFrom_67 ?_
  refine zr_aload0 X dX1_copyFrom_70 ?_
  refine zr_aload1 X dX1_copyFrom_71 ?_
  refine zr_getI X zf_X1_25 rfl dX1_copyFrom_72 ?_
  refine zr_eq (x2 := (I (b) 8)) ((zput_ne (by omega)).trans ((zput_ne (by omega)).trans ((zput_ne (by omega)).trans ((zput_ne (by omega)).trans ((zput_ne (by omega)).trans ((zput_ne (by omega)).trans ((congrFun (hg5 (b) (by omega)) 8).trans ((congrFun (hg2 (b) (by omega)) 8))))))))) ?_
  refine zr_putI X zf_X1_25 rfl (Or.inl rfl) dX1_copyFrom_75 ?_
  refine zr_vret X (by decide) (by decide) dX1_copyFrom_78 ?_
  refine h _ ?_ ⟨⟨?_, ?_, ?_, ?_, ?_, ?_, ?_⟩, ?_, ?_⟩
  · repeat (first | exact zag.rf | assumption | refine zag.put ?_ (by omega) (by omega) | refine zag.tr ?_ (by assumption) (by omega) (by omega))
  · exact ((zput_nj (by decide)).trans ((zput_nj (by decide)).trans ((zput_nj (by decide)).trans ((zput_nj (by decide)).trans ((zput_nj (by decide)).trans ((zput_nj (by decide)).trans (zput_eq))))))).trans (by first | exact hG.1.1 | exact hG.1.2.1 | exact hG.1.2.2.1 | exact hG.1.2.2.2.1 | exact hG.1.2.2.2.2.1 | exact hG.1.2.2.2.2.2.1 | exact hG.1.2.2.2.2.2.2)
  · exact ((zput_nj (by decide)).trans ((zput_nj (by decide)).trans ((zput_nj (by decide)).trans ((zput_nj (by decide)).trans ((zput_nj (by decide)).trans (zput_eq)))))).trans (by first | exact hG.1.1 | exact hG.1.2.1 | exact hG.1.2.2.1 | exact hG.1.2.2.2.1 | exact hG.1.2.2.2.2.1 | exact hG.1.2.2.2.2.2.1 | exact hG.1.2.2.2.2.2.2)
  · exact ((zput_nj (by decide)).trans ((zput_nj (by decide)).trans ((zput_nj (by decide)).trans ((zput_nj (by decide)).trans (zput_eq))))).trans (by first | exact hG.1.1 | exact hG.1.2.1 | exact hG.1.2.2.1 | exact hG.1.2.2.2.1 | exact hG.1.2.2.2.2.1 | exact hG.1.2.2.2.2.2.1 | exact hG.1.2.2.2.2.2.2)
  · exact ((zput_nj (by decide)).trans ((zput_nj (by decide)).trans ((zput_nj (by decide)).trans (zput_eq)))).trans (by first | exact hG.1.1 | exact hG.1.2.1 | exact hG.1.2.2.1 | exact hG.1.2.2.2.1 | exact hG.1.2.2.2.2.1 | exact hG.1.2.2.2.2.2.1 | exact hG.1.2.2.2.2.2.2)
  · exact ((zput_nj (by decide)).trans ((zput_nj (by decide)).trans (zput_eq))).trans (by first | exact hG.1.1 | exact hG.1.2.1 | exact hG.1.2.2.1 | exact hG.1.2.2.2.1 | exact hG.1.2.2.2.2.1 | exact hG.1.2.2.2.2.2.1 | exact hG.1.2.2.2.2.2.2)
  · exact ((zput_nj (by decide)).trans (zput_eq)).trans (by first | exact hG.1.1 | exact hG.1.2.1 | exact hG.1.2.2.1 | exact hG.1.2.2.2.1 | exact hG.1.2.2.2.2.1 | exact hG.1.2.2.2.2.2.1 | exact hG.1.2.2.2.2.2.2)
  · exact (zput_eq).trans (by first | exact hG.1.1 | exact hG.1.2.1 | exact hG.1.2.2.1 | exact hG.1.2.2.2.1 | exact hG.1.2.2.2.2.1 | exact hG.1.2.2.2.2.2.1 | exact hG.1.2.2.2.2.2.2)
  · repeat (first | assumption | refine zLn.put ?_ (by omega) (by omega) | refine zLn.ag (by assumption) (by omega) ?_)
  · repeat (first | assumption | refine zLn.put ?_ (by omega) (by omega) | refine zLn.ag (by assumption) (by omega) ?_)
