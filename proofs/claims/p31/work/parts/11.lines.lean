/-! ===== the class's lines ===== -/
abbrev zrm_X4_removeAt : Room := { frames := 0, cells := 0, slots := 0, locals := 0 }
set_option maxRecDepth 20000 in
theorem zl_X4_removeAt {l : Launch} {D : va_G} {b0 : Nat} {tA : Nat → ClassId} {sa sv : Nat → Nat} {K : zKt} {I : zI} {Qp : zI → Option AV → Prop} {Xp : String → zI → Prop} {p : Program} {e : Env} {s : State} {m : MethodId} {args : Array Value} {below : List Frame} {meth : Method} {c : Code} {a k : Nat} {w : List Nat}
    (X : zX p l e zrm_X4_removeAt s m args below meth c RX4 cX4_removeAt 4 (some .int) D b0 tA sa sv) (hnt : ∀ x ∈ c.exceptionTable.toList, False) (hL : zLn I a w) (hk : k < w.length) (h : ∀ I' : zI, zag I I' a 2 → zLn I' a (w.eraseIdx k) → Qp I' (some (vi (nI (w.getD k 0) - 1)))) :
    ∀ (n : Nat) (j : Nat), k ≤ j → j < w.length → w.length - j < n → zG p l e zrm_X4_removeAt s m args below meth c 4 D b0 tA sa 0 0 (zQ below D b0 tA sa K args s zrm_X4_removeAt Qp Xp) K 32 [some (vr (a) 4), some (vi ((nI k))), some (vi ((nI (w.getD k 0) - 1))), some (vi ((nI j)))] [] (zshl I (a + 1) k j) := by
  intro n
  induction n with
  | zero => intro j i1 i2 i3; exact absurd i3 (Nat.not_lt_zero _)
  | succ n ih =>
    intro j i1 i2 i3
    have hl9 := hL.2.1
    refine zr_iload3 X dX4_removeAt_32 ?_
    refine zr_iconst (v := (1 : Int32)) X dX4_removeAt_33 (by decide) ?_
    refine zr_iadd X dX4_removeAt_34 ?_
    refine zr_eq (x2 := (nI (j + 1))) (nI_add (j) (1)) ?_
    refine zr_aload0 X dX4_removeAt_35 ?_
    refine zr_getI X zf_X4_15 rfl dX4_removeAt_36 ?_
    refine zr_eq (x2 := (nI w.length)) ((congrFun (zshl_ne (by omega)) 1).trans hL.1) ?_
    refine zr_nicmp_ge X ((j + 1)) (w.length) (tgt := 73) (by omega) (by omega) dX4_removeAt_39 (by decide) (fun h1 => ?_) (fun h1 => ?_)
    · skip
      refine zr_aload0 X dX4_removeAt_73 ?_
      refine zr_dupR X dX4_removeAt_74 ?_
      refine zr_getI X zf_X4_15 rfl dX4_removeAt_75 ?_
      refine zr_eq (x2 := (nI w.length)) ((congrFun (zshl_ne (by omega)) 1).trans hL.1) ?_
      refine zr_iconst (v := (1 : Int32)) X dX4_removeAt_78 (by decide) ?_
      refine zr_isub X dX4_removeAt_79 ?_
      refine zr_eq (x2 := (nI (w.length - 1))) (pk_sub (a := w.length) (b := 1) (by omega)) ?_
      refine zr_putI X zf_X4_15 rfl (Or.inl rfl) dX4_removeAt_80 ?_
      refine zr_iload2 X dX4_removeAt_83 ?_
      refine zr_iret X (by decide) (by decide) dX4_removeAt_84 ?_
      have hj : j = w.length - 1 := by omega
      subst hj
      exact h _ (((show zag I (zshl I (a + 1) k (w.length - 1)) a 2 from fun q hq => zshl_ne (by omega))).put (by omega) (by omega)) (zLn_erase hL hk)
    · skip
      refine zr_iload3 X dX4_removeAt_42 ?_
      refine zr_iconst (v := (1 : Int32)) X dX4_removeAt_43 (by decide) ?_
      refine zr_iadd X dX4_removeAt_44 ?_
      refine zr_eq (x2 := (nI (j + 1))) (nI_add (j) (1)) ?_
      refine zr_aload0 X dX4_removeAt_45 ?_
      refine zr_getR X zf_X4_9 rfl (by decide) (by decide) dX4_removeAt_46 ?_
      refine zr_alen (v := 10) X (Or.inl rfl) rfl dX4_removeAt_49 ?_
      refine zr_nicmp_ge X ((j + 1)) (10) (tgt := 73) (by omega) (by omega) dX4_removeAt_50 (by decide) (fun h2 => ?_) (fun h2 => ?_)
      · exact absurd h2 (by have := hL.2.1; omega)
      · skip
        refine zr_aload0 X dX4_removeAt_53 ?_
        refine zr_getR X zf_X4_9 rfl (by decide) (by decide) dX4_removeAt_54 ?_
        refine zr_iload3 X dX4_removeAt_57 ?_
        refine zr_aload0 X dX4_removeAt_58 ?_
        refine zr_getR X zf_X4_9 rfl (by decide) (by decide) dX4_removeAt_59 ?_
        refine zr_iload3 X dX4_removeAt_62 ?_
        refine zr_iconst (v := (1 : Int32)) X dX4_removeAt_63 (by decide) ?_
        refine zr_iadd X dX4_removeAt_64 ?_
        refine zr_eq (x2 := (nI (j + 1))) (nI_add (j) (1)) ?_
        refine zr_ialdN X rfl (show _ < 10 from (by first | assumption | omega)) dX4_removeAt_65 ?_
        refine zr_iastN X rfl (show _ < 10 from (by first | assumption | omega)) dX4_removeAt_66 ?_
        refine zr_iinc3 (v := (nI (j + 1))) X (show nI (j) + Int32.ofInt 1 = nI (j + 1) from nI_1 (j)) (by decide) rfl dX4_removeAt_67 ?_
        refine zr_goto (tgt := 32) X dX4_removeAt_70 (by decide) ?_
        refine zr_I (zshl_s i1) ?_
        exact ih (j + 1) (by omega) (by omega) (by omega)
set_option maxRecDepth 20000 in
theorem zp_X4_removeAt {l : Launch} {D : va_G} {b0 : Nat} {tA : Nat → ClassId} {sa sv : Nat → Nat} {K : zKt} {I : zI} {Qp : zI → Option AV → Prop} {Xp : String → zI → Prop} {a k : Nat} {w : List Nat}
    (hL : zLn I a w) (hk : k < w.length) (h : ∀ I' : zI, zag I I' a 2 → zLn I' a (w.eraseIdx k) → Qp I' (some (vi (nI (w.getD k 0) - 1)))) :
    zC l D b0 tA sa sv K yX4_removeAt (.code yX4_removeAt cX4_removeAt 4 (some .int)) zrm_X4_removeAt [vr (a) 4, vi ((nI k))] I Qp Xp := by
  have hl9 := hL.2.1
  refine zC_of (by decide +kernel) (Nat.le_of_ble_eq_true rfl) ?_
  intro p e s m args below meth c X hnt
  have X : zX p l e zrm_X4_removeAt s m args below meth c RX4 cX4_removeAt 4 (some .int) D b0 tA sa sv := X
  refine zr_lv (lv2 := [some (vr (a) 4), some (vi ((nI k))), none, none]) rfl ?_
  refine zr_iload1 X dX4_removeAt_0 ?_
  refine zr_nif_lt X (k) (tgt := 21) (by omega) dX4_removeAt_1 (by decide) (fun h => h.elim) (fun _ => ?_)
  refine zr_iload1 X dX4_removeAt_4 ?_
  refine zr_aload0 X dX4_removeAt_5 ?_
  refine zr_getI X zf_X4_15 rfl dX4_removeAt_6 ?_
  refine zr_eq (x2 := (nI w.length)) (hL.1) ?_
  refine zr_nicmp_ge X (k) (w.length) (tgt := 21) (by omega) (by omega) dX4_removeAt_9 (by decide) (fun h2 => ?_) (fun h2 => ?_)
  · exact absurd h2 (by have := hL.2.1; omega)
  · skip
    refine zr_iload1 X dX4_removeAt_12 ?_
    refine zr_aload0 X dX4_removeAt_13 ?_
    refine zr_getR X zf_X4_9 rfl (by decide) (by decide) dX4_removeAt_14 ?_
    refine zr_alen (v := 10) X (Or.inl rfl) rfl dX4_removeAt_17 ?_
    refine zr_nicmp_lt X (k) (10) (tgt := 23) (by omega) (by omega) dX4_removeAt_18 (by decide) (fun h3 => ?_) (fun h3 => ?_)
    · skip
      refine zr_aload0 X dX4_removeAt_23 ?_
      refine zr_getR X zf_X4_9 rfl (by decide) (by decide) dX4_removeAt_24 ?_
      refine zr_iload1 X dX4_removeAt_27 ?_
      refine zr_ialdN X rfl (show _ < 10 from (by first | assumption | omega)) dX4_removeAt_28 ?_
      refine zr_eq (x2 := (nI (w.getD k 0) - 1)) (hL.2.2 k hk) ?_
      refine zr_istore2 X (by decide) rfl dX4_removeAt_29 ?_
      refine zr_iload1 X dX4_removeAt_30 ?_
      refine zr_istore3 X (by decide) rfl dX4_removeAt_31 ?_
      refine zr_I (zshl_0 (d := a + 1) (lo := k)).symm ?_
      exact zl_X4_removeAt X hnt hL hk h (w.length - k + 1) k (by omega) hk (by omega)
    · exact absurd h3 (by have := hL.2.1; omega)
abbrev zrm_X4_bringToFront : Room := { frames := 0, cells := 0, slots := 0, locals := 0 }
set_option maxRecDepth 20000 in
theorem zl_X4_bringToFront {l : Launch} {D : va_G} {b0 : Nat} {tA : Nat → ClassId} {sa sv : Nat → Nat} {K : zKt} {I : zI} {Qp : zI → Option AV → Prop} {Xp : String → zI → Prop} {p : Program} {e : Env} {s : State} {m : MethodId} {args : Array Value} {below : List Frame} {meth : Method} {c : Code} {a k : Nat} {w : List Nat}
    (X : zX p l e zrm_X4_bringToFront s m args below meth c RX4 cX4_bringToFront 4 none D b0 tA sa sv) (hnt : ∀ x ∈ c.exceptionTable.toList, False) (hL : zLn I a w) (hk : k < w.length) (h : ∀ I' : zI, zag I I' a 2 → zLn I' a (w.getD k 0 :: w.eraseIdx k) → Qp I' none) :
    ∀ (n : Nat) (j : Nat), j ≤ k → j < n → zG p l e zrm_X4_bringToFront s m args below meth c 4 D b0 tA sa 0 0 (zQ below D b0 tA sa K args s zrm_X4_bringToFront Qp Xp) K 31 [some (vr (a) 4), some (vi ((nI k))), some (vi ((nI (w.getD k 0) - 1))), some (vi ((nI j)))] [] (zshr I (a + 1) j k) := by
  intro n
  induction n with
  | zero => intro j i1 i3; exact absurd i3 (Nat.not_lt_zero _)
  | succ n ih =>
    intro j i1 i3
    have hl9 := hL.2.1
    refine zr_iload3 X dX4_bringToFront_31 ?_
    refine zr_nif_le X (j) (tgt := 55) (by omega) dX4_bringToFront_32 (by decide) (fun h1 => ?_) (fun h1 => ?_)
    · skip
      refine zr_aload0 X dX4_bringToFront_55 ?_
      refine zr_getR X zf_X4_9 rfl (by decide) (by decide) dX4_bringToFront_56 ?_
      refine zr_iconst (v := (0 : Int32)) X dX4_bringToFront_59 (by decide) ?_
      refine zr_iload2 X dX4_bringToFront_60 ?_
      refine zr_iastN (n := 0) X rfl (by decide) dX4_bringToFront_61 ?_
      refine zr_vret X (by decide) (by decide) dX4_bringToFront_62 ?_
      have hj : j = 0 := by omega
      subst hj
      exact h _ (((show zag I (zshr I (a + 1) 0 k) a 2 from fun q hq => zshr_ne (by omega))).put (by omega) (by omega)) (zLn_front hL hk)
    · skip
      refine zr_aload0 X dX4_bringToFront_35 ?_
      refine zr_getR X zf_X4_9 rfl (by decide) (by decide) dX4_bringToFront_36 ?_
      refine zr_iload3 X dX4_bringToFront_39 ?_
      refine zr_aload0 X dX4_bringToFront_40 ?_
      refine zr_getR X zf_X4_9 rfl (by decide) (by decide) dX4_bringToFront_41 ?_
      refine zr_iload3 X dX4_bringToFront_44 ?_
      refine zr_iconst (v := (1 : Int32)) X dX4_bringToFront_45 (by decide) ?_
      refine zr_isub X dX4_bringToFront_46 ?_
      refine zr_eq (x2 := (nI (j - 1))) (pk_sub (a := j) (b := 1) (by omega)) ?_
      refine zr_ialdN X rfl (show _ < 10 from (by first | assumption | omega)) dX4_bringToFront_47 ?_
      refine zr_iastN X rfl (show _ < 10 from (by first | assumption | omega)) dX4_bringToFront_48 ?_
      refine zr_iinc3 (v := (nI (j - 1))) X (zdec1 (n := j) (by omega)) (by decide) rfl dX4_bringToFront_49 ?_
      refine zr_goto (tgt := 31) X dX4_bringToFront_52 (by decide) ?_
      obtain ⟨j9, rfl⟩ : ∃ j9, j = j9 + 1 := ⟨j - 1, by omega⟩
      refine zr_I (zshr_s i1) ?_
      exact ih j9 (by omega) (by omega)
set_option maxRecDepth 20000 in
theorem zp_X4_bringToFront {l : Launch} {D : va_G} {b0 : Nat} {tA : Nat → ClassId} {sa sv : Nat → Nat} {K : zKt} {I : zI} {Qp : zI → Option AV → Prop} {Xp : String → zI → Prop} {a k : Nat} {w : List Nat}
    (hL : zLn I a w) (hk : k < w.length) (h : ∀ I' : zI, zag I I' a 2 → zLn I' a (w.getD k 0 :: w.eraseIdx k) → Qp I' none) :
    zC l D b0 tA sa sv K yX4_bringToFront (.code yX4_bringToFront cX4_bringToFront 4 none) zrm_X4_bringToFront [vr (a) 4, vi ((nI k))] I Qp Xp := by
  have hl9 := hL.2.1
  refine zC_of (by decide +kernel) (Nat.le_of_ble_eq_true rfl) ?_
  intro p e s m args below meth c X hnt
  have X : zX p l e zrm_X4_bringToFront s m args below meth c RX4 cX4_bringToFront 4 none D b0 tA sa sv := X
  refine zr_lv (lv2 := [some (vr (a) 4), some (vi ((nI k))), none, none]) rfl ?_
  refine zr_iload1 X dX4_bringToFront_0 ?_
  refine zr_nif_lt X (k) (tgt := 21) (by omega) dX4_bringToFront_1 (by decide) (fun h => h.elim) (fun _ => ?_)
  refine zr_iload1 X dX4_bringToFront_4 ?_
  refine zr_aload0 X dX4_bringToFront_5 ?_
  refine zr_getI X zf_X4_15 rfl dX4_bringToFront_6 ?_
  refine zr_eq (x2 := (nI w.length)) (hL.1) ?_
  refine zr_nicmp_ge X (k) (w.length) (tgt := 21) (by omega) (by omega) dX4_bringToFront_9 (by decide) (fun h2 => ?_) (fun h2 => ?_)
  · exact absurd h2 (by have := hL.2.1; omega)
  · skip
    refine zr_iload1 X dX4_bringToFront_12 ?_
    refine zr_aload0 X dX4_bringToFront_13 ?_
    refine zr_getR X zf_X4_9 rfl (by decide) (by decide) dX4_bringToFront_14 ?_
    refine zr_alen (v := 10) X (Or.inl rfl) rfl dX4_bringToFront_17 ?_
    refine zr_nicmp_lt X (k) (10) (tgt := 22) (by omega) (by omega) dX4_bringToFront_18 (by decide) (fun h3 => ?_) (fun h3 => ?_)
    · skip
      refine zr_aload0 X dX4_bringToFront_22 ?_
      refine zr_getR X zf_X4_9 rfl (by decide) (by decide) dX4_bringToFront_23 ?_
      refine zr_iload1 X dX4_bringToFront_26 ?_
      refine zr_ialdN X rfl (show _ < 10 from (by first | assumption | omega)) dX4_bringToFront_27 ?_
      refine zr_eq (x2 := (nI (w.getD k 0) - 1)) (hL.2.2 k hk) ?_
      refine zr_istore2 X (by decide) rfl dX4_bringToFront_28 ?_
      refine zr_iload1 X dX4_bringToFront_29 ?_
      refine zr_istore3 X (by decide) rfl dX4_bringToFront_30 ?_
      refine zr_I (zshr_0 (d := a + 1) (hi := k)).symm ?_
      exact zl_X4_bringToFront X hnt hL hk h (k + 1) k (by omega) (by omega)
    · exact absurd h3 (by have := hL.2.1; omega)
theorem zq_X4_addLast {l : Launch} {D : va_G} {b0 : Nat} {tA : Nat → ClassId} {sa sv : Nat → Nat} {K : zKt} {I : zI} {Qp : zI → Option AV → Prop} {Xp : String → zI → Prop} {a x : Nat} {w : List Nat} (hL : zLn I a w) (hk : w.length < 10) (h : ∀ I' : zI, zag I I' a 2 → zLn I' a (w ++ [x]) → Qp I' none) :
    zC l D b0 tA sa sv K yX4_addLast (.code yX4_addLast cX4_addLast 2 none) zrm_X4_addLast [vr (a) 4, vi (nI x - 1)] I Qp Xp := by
  have h1 := hL.1
  refine zp_X4_addLast (fun g => ?_) (fun _ g => ?_) (fun _ _ => ?_)
  · rw [h1] at g; exact absurd g (nI_pos (by omega))
  · rw [h1] at g; exact absurd ((nI_leI (a := 10) (by decide) (by omega)).mp g) (by omega)
  · have := h _ (((zag.rf (I := I) (lo := a) (n := 2)).put (a := a + 1) (j := w.length) (x := nI x - 1) (by omega) (by omega)).put (a := a) (j := 1) (x := nI (w.length + 1)) (by omega) (by omega)) (zLn_add hL hk)
    rw [h1, nI_clamp (by omega), nI_1]
    exact this
