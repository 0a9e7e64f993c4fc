/-! ===== leaves of the class: methods with no loop, a case for each way through (laid by my own program, wip/whole/py/walk.py) ===== -/
abbrev zrm_X0_copyFrom : Room := { frames := 0, cells := 0, slots := 0, locals := 0 }
set_option maxRecDepth 20000 in
theorem zp_X0_copyFrom {l : Launch} {D : va_G} {b0 : Nat} {tA : Nat → ClassId} {sa sv : Nat → Nat} {K : zKt} {I : zI} {Qp : zI → Option AV → Prop} {Xp : String → zI → Prop} {a : Nat} {b1 : Nat} 
    (h_1 : Qp (zput (zput (zput (zput (zput I (a) 0 ((I (b1) 0))) (a) 1 (((zput I (a) 0 ((I (b1) 0))) (b1) 1))) (a) 2 (((zput (zput I (a) 0 ((I (b1) 0))) (a) 1 (((zput I (a) 0 ((I (b1) 0))) (b1) 1))) (b1) 2))) (a) 3 (((zput (zput (zput I (a) 0 ((I (b1) 0))) (a) 1 (((zput I (a) 0 ((I (b1) 0))) (b1) 1))) (a) 2 (((zput (zput I (a) 0 ((I (b1) 0))) (a) 1 (((zput I (a) 0 ((I (b1) 0))) (b1) 1))) (b1) 2))) (b1) 3))) (a) 4 (((zput (zput (zput (zput I (a) 0 ((I (b1) 0))) (a) 1 (((zput I (a) 0 ((I (b1) 0))) (b1) 1))) (a) 2 (((zput (zput I (a) 0 ((I (b1) 0))) (a) 1 (((zput I (a) 0 ((I (b1) 0))) (b1) 1))) (b1) 2))) (a) 3 (((zput (zput (zput I (a) 0 ((I (b1) 0))) (a) 1 (((zput I (a) 0 ((I (b1) 0))) (b1) 1))) (a) 2 (((zput (zput I (a) 0 ((I (b1) 0))) (a) 1 (((zput I (a) 0 ((I (b1) 0))) (b1) 1))) (b1) 2))) (b1) 3))) (b1) 4))) none) :
    zC l D b0 tA sa sv K yX0_copyFrom (.code yX0_copyFrom cX0_copyFrom 2 none) zrm_X0_copyFrom [vr (a) 0, vr (b1) 0] I Qp Xp := by
  refine zC_of (by decide +kernel) (Nat.le_of_ble_eq_true rfl) ?_
  intro p e s m args below meth c X hnt
  have X : zX p l e zrm_X0_copyFrom s m args below meth c RX0 cX0_copyFrom 2 none D b0 tA sa sv := X
  refine zr_lv (lv2 := [some (vr (a) 0), some (vr (b1) 0)]) rfl ?_
  refine zr_aload0 X dX0_copyFrom_0 ?_
  refine zr_aload1 X dX0_copyFrom_1 ?_
  refine zr_getI X zf_X0_9 rfl dX0_copyFrom_2 ?_
  refine zr_putI X zf_X0_9 rfl (Or.inl rfl) dX0_copyFrom_5 ?_
  refine zr_aload0 X dX0_copyFrom_8 ?_
  refine zr_aload1 X dX0_copyFrom_9 ?_
  refine zr_getI X zf_X0_15 rfl dX0_copyFrom_10 ?_
  refine zr_putI X zf_X0_15 rfl (Or.inl rfl) dX0_copyFrom_13 ?_
  refine zr_aload0 X dX0_copyFrom_16 ?_
  refine zr_aload1 X dX0_copyFrom_17 ?_
  refine zr_getZ X zf_X0_18 rfl rfl (by decide) dX0_copyFrom_18 (fun hz1 => ?_)
  refine zr_putI X zf_X0_18 rfl (Or.inr (by first | decide | assumption | (simp; done))) dX0_copyFrom_21 ?_
  refine zr_aload0 X dX0_copyFrom_24 ?_
  refine zr_aload1 X dX0_copyFrom_25 ?_
  refine zr_getZ X zf_X0_22 rfl rfl (by decide) dX0_copyFrom_26 (fun hz2 => ?_)
  refine zr_putI X zf_X0_22 rfl (Or.inr (by first | decide | assumption | (simp; done))) dX0_copyFrom_29 ?_
  refine zr_aload0 X dX0_copyFrom_32 ?_
  refine zr_aload1 X dX0_copyFrom_33 ?_
  refine zr_getI X zf_X0_25 rfl dX0_copyFrom_34 ?_
  refine zr_putI X zf_X0_25 rfl (Or.inl rfl) dX0_copyFrom_37 ?_
  refine zr_vret X (by decide) (by decide) dX0_copyFrom_40 ?_
  exact h_1 
abbrev zrm_X0_reasonAgainst : Room := { frames := 0, cells := 0, slots := 0, locals := 0 }
set_option maxRecDepth 20000 in
theorem zp_X0_reasonAgainst {l : Launch} {D : va_G} {b0 : Nat} {tA : Nat → ClassId} {sa sv : Nat → Nat} {K : zKt} {I : zI} {Qp : zI → Option AV → Prop} {Xp : String → zI → Prop} {a : Nat} {x1 : Int32} 
    (h_1 : (I (a) 3) = (0 : Int32) → ¬ x1 = (1 : Int32) → (I (a) 2) = (0 : Int32) → ¬ x1 = (0 : Int32) → Qp I (some (vi ((0 : Int32)))))
    (h_2 : (I (a) 3) = (0 : Int32) → ¬ x1 = (1 : Int32) → (I (a) 2) = (0 : Int32) → x1 = (0 : Int32) → ¬ (I (a) 1) = (0 : Int32) → Qp I (some (vi ((0 : Int32)))))
    (h_3 : (I (a) 3) = (0 : Int32) → ¬ x1 = (1 : Int32) → (I (a) 2) = (0 : Int32) → x1 = (0 : Int32) → (I (a) 1) = (0 : Int32) → Qp I (some (vi ((3 : Int32)))))
    (h_4 : (I (a) 3) = (0 : Int32) → ¬ x1 = (1 : Int32) → ¬ ((I (a) 2) = (0 : Int32)) → Qp I (some (vi ((2 : Int32)))))
    (h_5 : (I (a) 3) = (0 : Int32) → x1 = (1 : Int32) → (I (a) 2) = (1 : Int32) → ¬ x1 = (0 : Int32) → Qp I (some (vi ((0 : Int32)))))
    (h_6 : (I (a) 3) = (0 : Int32) → x1 = (1 : Int32) → (I (a) 2) = (1 : Int32) → x1 = (0 : Int32) → ¬ (I (a) 1) = (0 : Int32) → Qp I (some (vi ((0 : Int32)))))
    (h_7 : (I (a) 3) = (0 : Int32) → x1 = (1 : Int32) → (I (a) 2) = (1 : Int32) → x1 = (0 : Int32) → (I (a) 1) = (0 : Int32) → Qp I (some (vi ((3 : Int32)))))
    (h_8 : (I (a) 3) = (0 : Int32) → x1 = (1 : Int32) → ¬ ((I (a) 2) = (1 : Int32)) → Qp I (some (vi ((2 : Int32)))))
    (h_9 : ¬ ((I (a) 3) = (0 : Int32)) → Qp I (some (vi ((1 : Int32))))) :
    zC l D b0 tA sa sv K yX0_reasonAgainst (.code yX0_reasonAgainst cX0_reasonAgainst 2 (some .int)) zrm_X0_reasonAgainst [vr (a) 0, vi (x1)] I Qp Xp := by
  refine zC_of (by decide +kernel) (Nat.le_of_ble_eq_true rfl) ?_
  intro p e s m args below meth c X hnt
  have X : zX p l e zrm_X0_reasonAgainst s m args below meth c RX0 cX0_reasonAgainst 2 (some .int) D b0 tA sa sv := X
  refine zr_lv (lv2 := [some (vr (a) 0), some (vi (x1))]) rfl ?_
  refine zr_aload0 X dX0_reasonAgainst_0 ?_
  refine zr_getZ X zf_X0_22 rfl rfl (by decide) dX0_reasonAgainst_1 (fun hz1 => ?_)
  refine zr_if_eq (tgt := 9) X dX0_reasonAgainst_4 (by decide) (fun h2 => ?_) (fun h2 => ?_)
  · skip
    refine zr_aload0 X dX0_reasonAgainst_9 ?_
    refine zr_getZ X zf_X0_18 rfl rfl (by decide) dX0_reasonAgainst_10 (fun hz3 => ?_)
    refine zr_iload1 X dX0_reasonAgainst_13 ?_
    refine zr_iconst (v := (1 : Int32)) X dX0_reasonAgainst_14 (by decide) ?_
    refine zr_icmp_ne (tgt := 22) X dX0_reasonAgainst_15 (by decide) (fun h4 => ?_) (fun h4 => ?_)
    · skip
      refine zr_iconst (v := (0 : Int32)) X dX0_reasonAgainst_22 (by decide) ?_
      refine zr_icmp_eq (tgt := 28) X dX0_reasonAgainst_23 (by decide) (fun h5 => ?_) (fun h5 => ?_)
      · skip
        refine zr_iload1 X dX0_reasonAgainst_28 ?_
        refine zr_if_ne (tgt := 41) X dX0_reasonAgainst_29 (by decide) (fun h6 => ?_) (fun h6 => ?_)
        · skip
          refine zr_iconst (v := (0 : Int32)) X dX0_reasonAgainst_41 (by decide) ?_
          refine zr_iret X (by decide) (by decide) dX0_reasonAgainst_42 ?_
          exact h_1 h2 h4 h5 h6
        · skip
          refine zr_aload0 X dX0_reasonAgainst_32 ?_
          refine zr_getI X zf_X0_15 rfl dX0_reasonAgainst_33 ?_
          refine zr_if_ne (tgt := 41) X dX0_reasonAgainst_36 (by decide) (fun h7 => ?_) (fun h7 => ?_)
          · skip
            refine zr_iconst (v := (0 : Int32)) X dX0_reasonAgainst_41 (by decide) ?_
            refine zr_iret X (by decide) (by decide) dX0_reasonAgainst_42 ?_
            exact h_2 h2 h4 h5 h6 h7
          · skip
            refine zr_iconst (v := (3 : Int32)) X dX0_reasonAgainst_39 (by decide) ?_
            refine zr_iret X (by decide) (by decide) dX0_reasonAgainst_40 ?_
            exact h_3 h2 h4 h5 h6 h7
      · skip
        refine zr_iconst (v := (2 : Int32)) X dX0_reasonAgainst_26 (by decide) ?_
        refine zr_iret X (by decide) (by decide) dX0_reasonAgainst_27 ?_
        exact h_4 h2 h4 h5
    · skip
      refine zr_iconst (v := (1 : Int32)) X dX0_reasonAgainst_18 (by decide) ?_
      refine zr_goto (tgt := 23) X dX0_reasonAgainst_19 (by decide) ?_
      refine zr_icmp_eq (tgt := 28) X dX0_reasonAgainst_23 (by decide) (fun h8 => ?_) (fun h8 => ?_)
      · skip
        refine zr_iload1 X dX0_reasonAgainst_28 ?_
        refine zr_if_ne (tgt := 41) X dX0_reasonAgainst_29 (by decide) (fun h9 => ?_) (fun h9 => ?_)
        · skip
          refine zr_iconst (v := (0 : Int32)) X dX0_reasonAgainst_41 (by decide) ?_
          refine zr_iret X (by decide) (by decide) dX0_reasonAgainst_42 ?_
          exact h_5 h2 h4 h8 h9
        · skip
          refine zr_aload0 X dX0_reasonAgainst_32 ?_
          refine zr_getI X zf_X0_15 rfl dX0_reasonAgainst_33 ?_
          refine zr_if_ne (tgt := 41) X dX0_reasonAgainst_36 (by decide) (fun h10 => ?_) (fun h10 => ?_)
          · skip
            refine zr_iconst (v := (0 : Int32)) X dX0_reasonAgainst_41 (by decide) ?_
            refine zr_iret X (by decide) (by decide) dX0_reasonAgainst_42 ?_
            exact h_6 h2 h4 h8 h9 h10
          · skip
            refine zr_iconst (v := (3 : Int32)) X dX0_reasonAgainst_39 (by decide) ?_
            refine zr_iret X (by decide) (by decide) dX0_reasonAgainst_40 ?_
            exact h_7 h2 h4 h8 h9 h10
      · skip
        refine zr_iconst (v := (2 : Int32)) X dX0_reasonAgainst_26 (by decide) ?_
        refine zr_iret X (by decide) (by decide) dX0_reasonAgainst_27 ?_
        exact h_8 h2 h4 h8
  · skip
    refine zr_iconst (v := (1 : Int32)) X dX0_reasonAgainst_7 (by decide) ?_
    refine zr_iret X (by decide) (by decide) dX0_reasonAgainst_8 ?_
    exact h_9 h2
abbrev zrm_X0_passFrom : Room := { frames := 0, cells := 0, slots := 0, locals := 0 }
set_option maxRecDepth 20000 in
theorem zp_X0_passFrom {l : Launch} {D : va_G} {b0 : Nat} {tA : Nat → ClassId} {sa sv : Nat → Nat} {K : zKt} {I : zI} {Qp : zI → Option AV → Prop} {Xp : String → zI → Prop} {a : Nat} {x1 : Int32} 
    (h_1 : ¬ x1 = (0 : Int32) → Qp (zput (zput I (a) 2 ((0 : Int32))) (a) 4 (((I (a) 4) + (1 : Int32)))) none)
    (h_2 : x1 = (0 : Int32) → Qp (zput (zput (zput I (a) 2 ((1 : Int32))) (a) 1 (((I (a) 1) - (1 : Int32)))) (a) 4 (((I (a) 4) + (1 : Int32)))) none) :
    zC l D b0 tA sa sv K yX0_passFrom (.code yX0_passFrom cX0_passFrom 2 none) zrm_X0_passFrom [vr (a) 0, vi (x1)] I Qp Xp := by
  refine zC_of (by decide +kernel) (Nat.le_of_ble_eq_true rfl) ?_
  intro p e s m args below meth c X hnt
  have X : zX p l e zrm_X0_passFrom s m args below meth c RX0 cX0_passFrom 2 none D b0 tA sa sv := X
  refine zr_lv (lv2 := [some (vr (a) 0), some (vi (x1))]) rfl ?_
  refine zr_aload0 X dX0_passFrom_0 ?_
  refine zr_iload1 X dX0_passFrom_1 ?_
  refine zr_if_ne (tgt := 9) X dX0_passFrom_2 (by decide) (fun h1 => ?_) (fun h1 => ?_)
  · skip
    refine zr_iconst (v := (0 : Int32)) X dX0_passFrom_9 (by decide) ?_
    refine zr_putI X zf_X0_18 rfl (Or.inr (by first | decide | assumption | (simp; done))) dX0_passFrom_10 ?_
    refine zr_iload1 X dX0_passFrom_13 ?_
    refine zr_if_ne (tgt := 27) X dX0_passFrom_14 (by decide) (fun _ => ?_) (fun h => absurd h (by assumption))
    refine zr_aload0 X dX0_passFrom_27 ?_
    refine zr_dupR X dX0_passFrom_28 ?_
    refine zr_getI X zf_X0_25 rfl dX0_passFrom_29 ?_
    refine zr_eq (x2 := (I (a) 4)) ((zput_nj (by decide))) ?_
    refine zr_iconst (v := (1 : Int32)) X dX0_passFrom_32 (by decide) ?_
    refine zr_iadd X dX0_passFrom_33 ?_
    refine zr_putI X zf_X0_25 rfl (Or.inl rfl) dX0_passFrom_34 ?_
    refine zr_vret X (by decide) (by decide) dX0_passFrom_37 ?_
    exact h_1 h1
  · skip
    refine zr_iconst (v := (1 : Int32)) X dX0_passFrom_5 (by decide) ?_
    refine zr_goto (tgt := 10) X dX0_passFrom_6 (by decide) ?_
    refine zr_putI X zf_X0_18 rfl (Or.inr (by first | decide | assumption | (simp; done))) dX0_passFrom_10 ?_
    refine zr_iload1 X dX0_passFrom_13 ?_
    refine zr_if_ne (tgt := 27) X dX0_passFrom_14 (by decide) (fun h => absurd (by assumption) h) (fun _ => ?_)
    refine zr_aload0 X dX0_passFrom_17 ?_
    refine zr_dupR X dX0_passFrom_18 ?_
    refine zr_getI X zf_X0_15 rfl dX0_passFrom_19 ?_
    refine zr_eq (x2 := (I (a) 1)) ((zput_nj (by decide))) ?_
    refine zr_iconst (v := (1 : Int32)) X dX0_passFrom_22 (by decide) ?_
    refine zr_isub X dX0_passFrom_23 ?_
    refine zr_putI X zf_X0_15 rfl (Or.inl rfl) dX0_passFrom_24 ?_
    refine zr_aload0 X dX0_passFrom_27 ?_
    refine zr_dupR X dX0_passFrom_28 ?_
    refine zr_getI X zf_X0_25 rfl dX0_passFrom_29 ?_
    refine zr_eq (x2 := (I (a) 4)) ((zput_nj (by decide)).trans ((zput_nj (by decide)))) ?_
    refine zr_iconst (v := (1 : Int32)) X dX0_passFrom_32 (by decide) ?_
    refine zr_iadd X dX0_passFrom_33 ?_
    refine zr_putI X zf_X0_25 rfl (Or.inl rfl) dX0_passFrom_34 ?_
    refine zr_vret X (by decide) (by decide) dX0_passFrom_37 ?_
    exact h_2 h1
abbrev zrm_X4_isFull : Room := { frames := 0, cells := 0, slots := 0, locals := 0 }
set_option maxRecDepth 20000 in
theorem zp_X4_isFull {l : Launch} {D : va_G} {b0 : Nat} {tA : Nat → ClassId} {sa sv : Nat → Nat} {K : zKt} {I : zI} {Qp : zI → Option AV → Prop} {Xp : String → zI → Prop} {a : Nat} 
    (h_1 : (I (a) 1) < (10 : Int32) → Qp I (some (vi ((0 : Int32)))))
    (h_2 : ¬ ((I (a) 1) < (10 : Int32)) → Qp I (some (vi ((1 : Int32))))) :
    zC l D b0 tA sa sv K yX4_isFull (.code yX4_isFull cX4_isFull 1 (some .boolean)) zrm_X4_isFull [vr (a) 4] I Qp Xp := by
  refine zC_of (by decide +kernel) (Nat.le_of_ble_eq_true rfl) ?_
  intro p e s m args below meth c X hnt
  have X : zX p l e zrm_X4_isFull s m args below meth c RX4 cX4_isFull 1 (some .boolean) D b0 tA sa sv := X
  refine zr_lv (lv2 := [some (vr (a) 4)]) rfl ?_
  refine zr_aload0 X dX4_isFull_0 ?_
  refine zr_getI X zf_X4_15 rfl dX4_isFull_1 ?_
  refine zr_aload0 X dX4_isFull_4 ?_
  refine zr_getR X zf_X4_9 rfl (by decide) (by decide) dX4_isFull_5 ?_
  refine zr_alen (v := 10) X (Or.inl rfl) rfl dX4_isFull_8 ?_
  refine zr_icmp_lt (tgt := 16) X dX4_isFull_9 (by decide) (fun h1 => ?_) (fun h1 => ?_)
  · skip
    refine zr_iconst (v := (0 : Int32)) X dX4_isFull_16 (by decide) ?_
    refine zr_zret X (by first | decide | assumption | (simp; done)) (by decide) (by decide) dX4_isFull_17 ?_
    exact h_1 h1
  · skip
    refine zr_iconst (v := (1 : Int32)) X dX4_isFull_12 (by decide) ?_
    refine zr_goto (tgt := 17) X dX4_isFull_13 (by decide) ?_
    refine zr_zret X (by first | decide | assumption | (simp; done)) (by decide) (by decide) dX4_isFull_17 ?_
    exact h_2 h1
abbrev zrm_X4_hasPlace : Room := { frames := 0, cells := 0, slots := 0, locals := 0 }
set_option maxRecDepth 20000 in
theorem zp_X4_hasPlace {l : Launch} {D : va_G} {b0 : Nat} {tA : Nat → ClassId} {sa sv : Nat → Nat} {K : zKt} {I : zI} {Qp : zI → Option AV → Prop} {Xp : String → zI → Prop} {a : Nat} {x1 : Int32} 
    (h_1 : x1 < (0 : Int32) → Qp I (some (vi ((0 : Int32)))))
    (h_2 : ¬ (x1 < (0 : Int32)) → (I (a) 1) ≤ x1 → Qp I (some (vi ((0 : Int32)))))
    (h_3 : ¬ (x1 < (0 : Int32)) → ¬ ((I (a) 1) ≤ x1) → (10 : Int32) ≤ x1 → Qp I (some (vi ((0 : Int32)))))
    (h_4 : ¬ (x1 < (0 : Int32)) → ¬ ((I (a) 1) ≤ x1) → ¬ ((10 : Int32) ≤ x1) → Qp I (some (vi ((1 : Int32))))) :
    zC l D b0 tA sa sv K yX4_hasPlace (.code yX4_hasPlace cX4_hasPlace 2 (some .boolean)) zrm_X4_hasPlace [vr (a) 4, vi (x1)] I Qp Xp := by
  refine zC_of (by decide +kernel) (Nat.le_of_ble_eq_true rfl) ?_
  intro p e s m args below meth c X hnt
  have X : zX p l e zrm_X4_hasPlace s m args below meth c RX4 cX4_hasPlace 2 (some .boolean) D b0 tA sa sv := X
  refine zr_lv (lv2 := [some (vr (a) 4), some (vi (x1))]) rfl ?_
  refine zr_iload1 X dX4_hasPlace_0 ?_
  refine zr_if_lt (tgt := 25) X dX4_hasPlace_1 (by decide) (fun h1 => ?_) (fun h1 => ?_)
  · skip
    refine zr_iconst (v := (0 : Int32)) X dX4_hasPlace_25 (by decide) ?_
    refine zr_zret X (by first | decide | assumption | (simp; done)) (by decide) (by decide) dX4_hasPlace_26 ?_
    exact h_1 h1
  · skip
    refine zr_iload1 X dX4_hasPlace_4 ?_
    refine zr_aload0 X dX4_hasPlace_5 ?_
    refine zr_getI X zf_X4_15 rfl dX4_hasPlace_6 ?_
    refine zr_icmp_ge (tgt := 25) X dX4_hasPlace_9 (by decide) (fun h2 => ?_) (fun h2 => ?_)
    · skip
      refine zr_iconst (v := (0 : Int32)) X dX4_hasPlace_25 (by decide) ?_
      refine zr_zret X (by first | decide | assumption | (simp; done)) (by decide) (by decide) dX4_hasPlace_26 ?_
      exact h_2 h1 h2
    · skip
      refine zr_iload1 X dX4_hasPlace_12 ?_
      refine zr_aload0 X dX4_hasPlace_13 ?_
      refine zr_getR X zf_X4_9 rfl (by decide) (by decide) dX4_hasPlace_14 ?_
      refine zr_alen (v := 10) X (Or.inl rfl) rfl dX4_hasPlace_17 ?_
      refine zr_icmp_ge (tgt := 25) X dX4_hasPlace_18 (by decide) (fun h3 => ?_) (fun h3 => ?_)
      · skip
        refine zr_iconst (v := (0 : Int32)) X dX4_hasPlace_25 (by decide) ?_
        refine zr_zret X (by first | decide | assumption | (simp; done)) (by decide) (by decide) dX4_hasPlace_26 ?_
        exact h_3 h1 h2 h3
      · skip
        refine zr_iconst (v := (1 : Int32)) X dX4_hasPlace_21 (by decide) ?_
        refine zr_goto (tgt := 26) X dX4_hasPlace_22 (by decide) ?_
        refine zr_zret X (by first | decide | assumption | (simp; done)) (by decide) (by decide) dX4_hasPlace_26 ?_
        exact h_4 h1 h2 h3
theorem zq_X4_hasPlace {l : Launch} {D : va_G} {b0 : Nat} {tA : Nat → ClassId} {sa sv : Nat → Nat} {K : zKt} {I : zI} {Qp : zI → Option AV → Prop} {Xp : String → zI → Prop} {a : Nat} {x1 : Int32} 
    (h_1 : ¬ (x1 < 0) ∧ ¬ ((I a 1) ≤ x1) ∧ ¬ ((10 : Int32) ≤ x1) → Qp I (some (vi 1)))
    (h_2 : ¬ (¬ (x1 < 0) ∧ ¬ ((I a 1) ≤ x1) ∧ ¬ (10 ≤ x1)) → Qp I (some (vi 0))) :
    zC l D b0 tA sa sv K yX4_hasPlace (.code yX4_hasPlace cX4_hasPlace 2 (some .boolean)) zrm_X4_hasPlace [vr (a) 4, vi (x1)] I Qp Xp := by
  refine zp_X4_hasPlace ?_ ?_ ?_ ?_ <;> intros <;> first | exact h_1 (by simp [*]) | exact h_2 (by simp [*])
abbrev zrm_X4_cardAt : Room := { frames := 1, cells := 0, slots := 0, locals := 21 }
set_option maxRecDepth 20000 in
theorem zp_X4_cardAt {l : Launch} {D : va_G} {b0 : Nat} {tA : Nat → ClassId} {sa sv : Nat → Nat} {K : zKt} {I : zI} {Qp : zI → Option AV → Prop} {Xp : String → zI → Prop} {a : Nat} {x1 : Int32} 
    (h_1 : ¬ (x1 < 0) → ¬ ((I a 1) ≤ x1) → ¬ ((10 : Int32) ≤ x1) → Qp I (some (vi ((I (a + 1) (x1).toNatClampNeg)))))
    (h_2 : ¬ (¬ (x1 < 0) ∧ ¬ ((I a 1) ≤ x1) ∧ ¬ (10 ≤ x1)) → Qp I (some (vi ((-1 : Int32))))) :
    zC l D b0 tA sa sv K yX4_cardAt (.code yX4_cardAt cX4_cardAt 2 (some .int)) zrm_X4_cardAt [vr (a) 4, vi (x1)] I Qp Xp := by
  refine zC_of (by decide +kernel) (Nat.le_of_ble_eq_true rfl) ?_
  intro p e s m args below meth c X hnt
  have X : zX p l e zrm_X4_cardAt s m args below meth c RX4 cX4_cardAt 2 (some .int) D b0 tA sa sv := X
  refine zr_lv (lv2 := [some (vr (a) 4), some (vi (x1))]) rfl ?_
  refine zr_aload0 X dX4_cardAt_0 ?_
  refine zr_iload1 X dX4_cardAt_1 ?_
  refine zr_callV1 (rm9 := zrm_X4_hasPlace) X hnt zm_X4_19 (by decide) (by decide) (by decide) (Nat.le_of_ble_eq_true rfl) dX4_cardAt_2 ?_
  refine zq_X4_hasPlace ?_ ?_
  · skip
    intro ⟨h1, h2, h3⟩
    refine zr_if_eq (tgt := 17) X dX4_cardAt_5 (by decide) (fun h => absurd h (by decide)) (fun _ => ?_)
    refine zr_aload0 X dX4_cardAt_8 ?_
    refine zr_getR X zf_X4_9 rfl (by decide) (by decide) dX4_cardAt_9 ?_
    refine zr_iload1 X dX4_cardAt_12 ?_
    refine zr_iald X rfl (by first | exact zin_lt (N := 10) rfl (by decide) (by assumption) (by assumption) | assumption) dX4_cardAt_13 ?_
    refine zr_goto (tgt := 18) X dX4_cardAt_14 (by decide) ?_
    refine zr_iret X (by decide) (by decide) dX4_cardAt_18 ?_
    exact h_1 h1 h2 h3
  · skip
    intro h4
    refine zr_if_eq (tgt := 17) X dX4_cardAt_5 (by decide) (fun _ => ?_) (fun h => absurd h (by decide))
    refine zr_iconst (v := (-1 : Int32)) X dX4_cardAt_17 (by decide) ?_
    refine zr_iret X (by decide) (by decide) dX4_cardAt_18 ?_
    exact h_2 h4
abbrev zrm_X4_isFirstWithoutCard : Room := { frames := 0, cells := 0, slots := 0, locals := 0 }
set_option maxRecDepth 20000 in
theorem zp_X4_isFirstWithoutCard {l : Launch} {D : va_G} {b0 : Nat} {tA : Nat → ClassId} {sa sv : Nat → Nat} {K : zKt} {I : zI} {Qp : zI → Option AV → Prop} {Xp : String → zI → Prop} {a : Nat} 
    (h_1 : (I (a) 1) ≤ (0 : Int32) → Qp I (some (vi ((0 : Int32)))))
    (h_2 : ¬ ((I (a) 1) ≤ (0 : Int32)) → ¬ (I (a + 1) 0) = (-1 : Int32) → Qp I (some (vi ((0 : Int32)))))
    (h_3 : ¬ ((I (a) 1) ≤ (0 : Int32)) → (I (a + 1) 0) = (-1 : Int32) → Qp I (some (vi ((1 : Int32))))) :
    zC l D b0 tA sa sv K yX4_isFirstWithoutCard (.code yX4_isFirstWithoutCard cX4_isFirstWithoutCard 1 (some .boolean)) zrm_X4_isFirstWithoutCard [vr (a) 4] I Qp Xp := by
  refine zC_of (by decide +kernel) (Nat.le_of_ble_eq_true rfl) ?_
  intro p e s m args below meth c X hnt
  have X : zX p l e zrm_X4_isFirstWithoutCard s m args below meth c RX4 cX4_isFirstWithoutCard 1 (some .boolean) D b0 tA sa sv := X
  refine zr_lv (lv2 := [some (vr (a) 4)]) rfl ?_
  refine zr_aload0 X dX4_isFirstWithoutCard_0 ?_
  refine zr_getI X zf_X4_15 rfl dX4_isFirstWithoutCard_1 ?_
  refine zr_if_le (tgt := 21) X dX4_isFirstWithoutCard_4 (by decide) (fun h1 => ?_) (fun h1 => ?_)
  · skip
    refine zr_iconst (v := (0 : Int32)) X dX4_isFirstWithoutCard_21 (by decide) ?_
    refine zr_zret X (by first | decide | assumption | (simp; done)) (by decide) (by decide) dX4_isFirstWithoutCard_22 ?_
    exact h_1 h1
  · skip
    refine zr_aload0 X dX4_isFirstWithoutCard_7 ?_
    refine zr_getR X zf_X4_9 rfl (by decide) (by decide) dX4_isFirstWithoutCard_8 ?_
    refine zr_iconst (v := (0 : Int32)) X dX4_isFirstWithoutCard_11 (by decide) ?_
    refine zr_ialdN (n := 0) X rfl (by decide) dX4_isFirstWithoutCard_12 ?_
    refine zr_iconst (v := (-1 : Int32)) X dX4_isFirstWithoutCard_13 (by decide) ?_
    refine zr_icmp_ne (tgt := 21) X dX4_isFirstWithoutCard_14 (by decide) (fun h2 => ?_) (fun h2 => ?_)
    · skip
      refine zr_iconst (v := (0 : Int32)) X dX4_isFirstWithoutCard_21 (by decide) ?_
      refine zr_zret X (by first | decide | assumption | (simp; done)) (by decide) (by decide) dX4_isFirstWithoutCard_22 ?_
      exact h_2 h1 h2
    · skip
      refine zr_iconst (v := (1 : Int32)) X dX4_isFirstWithoutCard_17 (by decide) ?_
      refine zr_goto (tgt := 22) X dX4_isFirstWithoutCard_18 (by decide) ?_
      refine zr_zret X (by first | decide | assumption | (simp; done)) (by decide) (by decide) dX4_isFirstWithoutCard_22 ?_
      exact h_3 h1 h2
theorem zq_X4_isFirstWithoutCard {l : Launch} {D : va_G} {b0 : Nat} {tA : Nat → ClassId} {sa sv : Nat → Nat} {K : zKt} {I : zI} {Qp : zI → Option AV → Prop} {Xp : String → zI → Prop} {a : Nat} 
    (h_1 : (¬ ((I a 1) ≤ 0) ∧ (I (a + 1) 0) = (-1)) → Qp I (some (vi 1)))
    (h_2 : ¬ (¬ ((I a 1) ≤ 0) ∧ (I (a + 1) 0) = (-1)) → Qp I (some (vi 0))) :
    zC l D b0 tA sa sv K yX4_isFirstWithoutCard (.code yX4_isFirstWithoutCard cX4_isFirstWithoutCard 1 (some .boolean)) zrm_X4_isFirstWithoutCard [vr (a) 4] I Qp Xp := by
  refine zp_X4_isFirstWithoutCard ?_ ?_ ?_ <;> intros <;> first | exact h_1 (by simp [*]) | exact h_2 (by simp [*])
abbrev zrm_X4_addLast : Room := { frames := 0, cells := 0, slots := 0, locals := 0 }
set_option maxRecDepth 20000 in
theorem zp_X4_addLast {l : Launch} {D : va_G} {b0 : Nat} {tA : Nat → ClassId} {sa sv : Nat → Nat} {K : zKt} {I : zI} {Qp : zI → Option AV → Prop} {Xp : String → zI → Prop} {a : Nat} {x1 : Int32} 
    (h_1 : (I (a) 1) < (0 : Int32) → Qp I none)
    (h_2 : ¬ ((I (a) 1) < (0 : Int32)) → (10 : Int32) ≤ (I (a) 1) → Qp I none)
    (h_3 : ¬ ((I (a) 1) < (0 : Int32)) → ¬ ((10 : Int32) ≤ (I (a) 1)) → Qp (zput (zput I (a + 1) (((I (a) 1)).toNatClampNeg) (x1)) (a) 1 (((I (a) 1) + (1 : Int32)))) none) :
    zC l D b0 tA sa sv K yX4_addLast (.code yX4_addLast cX4_addLast 2 none) zrm_X4_addLast [vr (a) 4, vi (x1)] I Qp Xp := by
  refine zC_of (by decide +kernel) (Nat.le_of_ble_eq_true rfl) ?_
  intro p e s m args below meth c X hnt
  have X : zX p l e zrm_X4_addLast s m args below meth c RX4 cX4_addLast 2 none D b0 tA sa sv := X
  refine zr_lv (lv2 := [some (vr (a) 4), some (vi (x1))]) rfl ?_
  refine zr_aload0 X dX4_addLast_0 ?_
  refine zr_getI X zf_X4_15 rfl dX4_addLast_1 ?_
  refine zr_if_lt (tgt := 39) X dX4_addLast_4 (by decide) (fun h1 => ?_) (fun h1 => ?_)
  · skip
    refine zr_vret X (by decide) (by decide) dX4_addLast_39 ?_
    exact h_1 h1
  · skip
    refine zr_aload0 X dX4_addLast_7 ?_
    refine zr_getI X zf_X4_15 rfl dX4_addLast_8 ?_
    refine zr_aload0 X dX4_addLast_11 ?_
    refine zr_getR X zf_X4_9 rfl (by decide) (by decide) dX4_addLast_12 ?_
    refine zr_alen (v := 10) X (Or.inl rfl) rfl dX4_addLast_15 ?_
    refine zr_icmp_ge (tgt := 39) X dX4_addLast_16 (by decide) (fun h2 => ?_) (fun h2 => ?_)
    · skip
      refine zr_vret X (by decide) (by decide) dX4_addLast_39 ?_
      exact h_2 h1 h2
    · skip
      refine zr_aload0 X dX4_addLast_19 ?_
      refine zr_getR X zf_X4_9 rfl (by decide) (by decide) dX4_addLast_20 ?_
      refine zr_aload0 X dX4_addLast_23 ?_
      refine zr_getI X zf_X4_15 rfl dX4_addLast_24 ?_
      refine zr_iload1 X dX4_addLast_27 ?_
      refine zr_iast X rfl (by first | exact zin_lt (N := 10) rfl (by decide) (by assumption) (by assumption) | assumption) dX4_addLast_28 ?_
      refine zr_aload0 X dX4_addLast_29 ?_
      refine zr_dupR X dX4_addLast_30 ?_
      refine zr_getI X zf_X4_15 rfl dX4_addLast_31 ?_
      refine zr_eq (x2 := (I (a) 1)) ((zput_ne (by omega))) ?_
      refine zr_iconst (v := (1 : Int32)) X dX4_addLast_34 (by decide) ?_
      refine zr_iadd X dX4_addLast_35 ?_
      refine zr_putI X zf_X4_15 rfl (Or.inl rfl) dX4_addLast_36 ?_
      refine zr_vret X (by decide) (by decide) dX4_addLast_39 ?_
      exact h_3 h1 h2
abbrev zrm_X1_lineOn : Room := { frames := 0, cells := 0, slots := 0, locals := 0 }
set_option maxRecDepth 20000 in
theorem zp_X1_lineOn {l : Launch} {D : va_G} {b0 : Nat} {tA : Nat → ClassId} {sa sv : Nat → Nat} {K : zKt} {I : zI} {Qp : zI → Option AV → Prop} {Xp : String → zI → Prop} {a : Nat} {x1 : Int32} 
    (h_1 : ¬ x1 = (1 : Int32) → Qp I (some (vr (a + 1) 4)))
    (h_2 : x1 = (1 : Int32) → Qp I (some (vr (a + 3) 4))) :
    zC l D b0 tA sa sv K yX1_lineOn (.code yX1_lineOn cX1_lineOn 2 (some (.object "GateRow$Line"))) zrm_X1_lineOn [vr (a) 1, vi (x1)] I Qp Xp := by
  refine zC_of (by decide +kernel) (Nat.le_of_ble_eq_true rfl) ?_
  intro p e s m args below meth c X hnt
  have X : zX p l e zrm_X1_lineOn s m args below meth c RX1 cX1_lineOn 2 (some (.object "GateRow$Line")) D b0 tA sa sv := X
  refine zr_lv (lv2 := [some (vr (a) 1), some (vi (x1))]) rfl ?_
  refine zr_iload1 X dX1_lineOn_0 ?_
  refine zr_iconst (v := (1 : Int32)) X dX1_lineOn_1 (by decide) ?_
  refine zr_icmp_ne (tgt := 12) X dX1_lineOn_2 (by decide) (fun h1 => ?_) (fun h1 => ?_)
  · skip
    refine zr_aload0 X dX1_lineOn_12 ?_
    refine zr_getR X zf_X1_12 rfl (by decide) (by decide) dX1_lineOn_13 ?_
    refine zr_aret X (by decide) (by decide) dX1_lineOn_16 ?_
    exact h_1 h1
  · skip
    refine zr_aload0 X dX1_lineOn_5 ?_
    refine zr_getR X zf_X1_18 rfl (by decide) (by decide) dX1_lineOn_6 ?_
    refine zr_goto (tgt := 16) X dX1_lineOn_9 (by decide) ?_
    refine zr_aret X (by decide) (by decide) dX1_lineOn_16 ?_
    exact h_2 h1
abbrev zrm_X1_peopleInLines : Room := { frames := 0, cells := 0, slots := 0, locals := 0 }
set_option maxRecDepth 20000 in
theorem zp_X1_peopleInLines {l : Launch} {D : va_G} {b0 : Nat} {tA : Nat → ClassId} {sa sv : Nat → Nat} {K : zKt} {I : zI} {Qp : zI → Option AV → Prop} {Xp : String → zI → Prop} {a : Nat} 
    (h_1 : Qp I (some (vi (((I (a + 1) 1) + (I (a + 3) 1)))))) :
    zC l D b0 tA sa sv K yX1_peopleInLines (.code yX1_peopleInLines cX1_peopleInLines 1 (some .int)) zrm_X1_peopleInLines [vr (a) 1] I Qp Xp := by
  refine zC_of (by decide +kernel) (Nat.le_of_ble_eq_true rfl) ?_
  intro p e s m args below meth c X hnt
  have X : zX p l e zrm_X1_peopleInLines s m args below meth c RX1 cX1_peopleInLines 1 (some .int) D b0 tA sa sv := X
  refine zr_lv (lv2 := [some (vr (a) 1)]) rfl ?_
  refine zr_aload0 X dX1_peopleInLines_0 ?_
  refine zr_getR X zf_X1_12 rfl (by decide) (by decide) dX1_peopleInLines_1 ?_
  refine zr_getI X zf_X1_48 rfl dX1_peopleInLines_4 ?_
  refine zr_aload0 X dX1_peopleInLines_7 ?_
  refine zr_getR X zf_X1_18 rfl (by decide) (by decide) dX1_peopleInLines_8 ?_
  refine zr_getI X zf_X1_48 rfl dX1_peopleInLines_11 ?_
  refine zr_iadd X dX1_peopleInLines_14 ?_
  refine zr_iret X (by decide) (by decide) dX1_peopleInLines_15 ?_
  exact h_1 
abbrev zrm_X1_servesInMode : Room := { frames := 0, cells := 0, slots := 0, locals := 0 }
set_option maxRecDepth 20000 in
theorem zp_X1_servesInMode {l : Launch} {D : va_G} {b0 : Nat} {tA : Nat → ClassId} {sa sv : Nat → Nat} {K : zKt} {I : zI} {Qp : zI → Option AV → Prop} {Xp : String → zI → Prop} {x1 : Int32} {x2 : Int32} 
    (h_1 : x1 = (2 : Int32) → Qp I (some (vi ((1 : Int32)))))
    (h_2 : ¬ (x1 = (2 : Int32)) → ¬ x2 = (1 : Int32) → ¬ x1 = (0 : Int32) → Qp I (some (vi ((0 : Int32)))))
    (h_3 : ¬ (x1 = (2 : Int32)) → ¬ x2 = (1 : Int32) → x1 = (0 : Int32) → Qp I (some (vi ((1 : Int32)))))
    (h_4 : ¬ (x1 = (2 : Int32)) → x2 = (1 : Int32) → ¬ x1 = (1 : Int32) → Qp I (some (vi ((0 : Int32)))))
    (h_5 : ¬ (x1 = (2 : Int32)) → x2 = (1 : Int32) → x1 = (1 : Int32) → Qp I (some (vi ((1 : Int32))))) :
    zC l D b0 tA sa sv K yX1_servesInMode (.code yX1_servesInMode cX1_servesInMode 2 (some .boolean)) zrm_X1_servesInMode [vi (x1), vi (x2)] I Qp Xp := by
  refine zC_of (by decide +kernel) (Nat.le_of_ble_eq_true rfl) ?_
  intro p e s m args below meth c X hnt
  have X : zX p l e zrm_X1_servesInMode s m args below meth c RX1 cX1_servesInMode 2 (some .boolean) D b0 tA sa sv := X
  refine zr_lv (lv2 := [some (vi (x1)), some (vi (x2))]) rfl ?_
  refine zr_iload0 X dX1_servesInMode_0 ?_
  refine zr_iconst (v := (2 : Int32)) X dX1_servesInMode_1 (by decide) ?_
  refine zr_icmp_eq (tgt := 19) X dX1_servesInMode_2 (by decide) (fun h1 => ?_) (fun h1 => ?_)
  · skip
    refine zr_iconst (v := (1 : Int32)) X dX1_servesInMode_19 (by decide) ?_
    refine zr_goto (tgt := 24) X dX1_servesInMode_20 (by decide) ?_
    refine zr_zret X (by first | decide | assumption | (simp; done)) (by decide) (by decide) dX1_servesInMode_24 ?_
    exact h_1 h1
  · skip
    refine zr_iload0 X dX1_servesInMode_5 ?_
    refine zr_iload1 X dX1_servesInMode_6 ?_
    refine zr_iconst (v := (1 : Int32)) X dX1_servesInMode_7 (by decide) ?_
    refine zr_icmp_ne (tgt := 15) X dX1_servesInMode_8 (by decide) (fun h2 => ?_) (fun h2 => ?_)
    · skip
      refine zr_iconst (v := (0 : Int32)) X dX1_servesInMode_15 (by decide) ?_
      refine zr_icmp_ne (tgt := 23) X dX1_servesInMode_16 (by decide) (fun h3 => ?_) (fun h3 => ?_)
      · skip
        refine zr_iconst (v := (0 : Int32)) X dX1_servesInMode_23 (by decide) ?_
        refine zr_zret X (by first | decide | assumption | (simp; done)) (by decide) (by decide) dX1_servesInMode_24 ?_
        exact h_2 h1 h2 h3
      · skip
        refine zr_iconst (v := (1 : Int32)) X dX1_servesInMode_19 (by decide) ?_
        refine zr_goto (tgt := 24) X dX1_servesInMode_20 (by decide) ?_
        refine zr_zret X (by first | decide | assumption | (simp; done)) (by decide) (by decide) dX1_servesInMode_24 ?_
        exact h_3 h1 h2 h3
    · skip
      refine zr_iconst (v := (1 : Int32)) X dX1_servesInMode_11 (by decide) ?_
      refine zr_goto (tgt := 16) X dX1_servesInMode_12 (by decide) ?_
      refine zr_icmp_ne (tgt := 23) X dX1_servesInMode_16 (by decide) (fun h4 => ?_) (fun h4 => ?_)
      · skip
        refine zr_iconst (v := (0 : Int32)) X dX1_servesInMode_23 (by decide) ?_
        refine zr_zret X (by first | decide | assumption | (simp; done)) (by decide) (by decide) dX1_servesInMode_24 ?_
        exact h_4 h1 h2 h4
      · skip
        refine zr_iconst (v := (1 : Int32)) X dX1_servesInMode_19 (by decide) ?_
        refine zr_goto (tgt := 24) X dX1_servesInMode_20 (by decide) ?_
        refine zr_zret X (by first | decide | assumption | (simp; done)) (by decide) (by decide) dX1_servesInMode_24 ?_
        exact h_5 h1 h2 h4
theorem zq_X1_servesInMode {l : Launch} {D : va_G} {b0 : Nat} {tA : Nat → ClassId} {sa sv : Nat → Nat} {K : zKt} {I : zI} {Qp : zI → Option AV → Prop} {Xp : String → zI → Prop} {x1 : Int32} {x2 : Int32} 
    (h_1 : (x1 = 2 ∨ (x2 = 1 ∧ x1 = 1) ∨ (¬ x2 = 1 ∧ x1 = 0)) → Qp I (some (vi 1)))
    (h_2 : ¬ (x1 = 2 ∨ (x2 = 1 ∧ x1 = 1) ∨ (¬ x2 = 1 ∧ x1 = 0)) → Qp I (some (vi 0))) :
    zC l D b0 tA sa sv K yX1_servesInMode (.code yX1_servesInMode cX1_servesInMode 2 (some .boolean)) zrm_X1_servesInMode [vi (x1), vi (x2)] I Qp Xp := by
  refine zp_X1_servesInMode ?_ ?_ ?_ ?_ ?_ <;> intros <;> first | exact h_1 (by simp [*]) | exact h_2 (by simp [*])
abbrev zrm_X1_serves : Room := { frames := 1, cells := 0, slots := 0, locals := 21 }
set_option maxRecDepth 20000 in
theorem zp_X1_serves {l : Launch} {D : va_G} {b0 : Nat} {tA : Nat → ClassId} {sa sv : Nat → Nat} {K : zKt} {I : zI} {Qp : zI → Option AV → Prop} {Xp : String → zI → Prop} {a : Nat} {x1 : Int32} 
    (h_1 : (((I (a) 2)) = 2 ∨ (x1 = 1 ∧ ((I (a) 2)) = 1) ∨ (¬ x1 = 1 ∧ ((I (a) 2)) = 0)) → Qp I (some (vi (1))))
    (h_2 : ¬ (((I (a) 2)) = 2 ∨ (x1 = 1 ∧ ((I (a) 2)) = 1) ∨ (¬ x1 = 1 ∧ ((I (a) 2)) = 0)) → Qp I (some (vi (0)))) :
    zC l D b0 tA sa sv K yX1_serves (.code yX1_serves cX1_serves 2 (some .boolean)) zrm_X1_serves [vr (a) 1, vi (x1)] I Qp Xp := by
  refine zC_of (by decide +kernel) (Nat.le_of_ble_eq_true rfl) ?_
  intro p e s m args below meth c X hnt
  have X : zX p l e zrm_X1_serves s m args below meth c RX1 cX1_serves 2 (some .boolean) D b0 tA sa sv := X
  refine zr_lv (lv2 := [some (vr (a) 1), some (vi (x1))]) rfl ?_
  refine zr_aload0 X dX1_serves_0 ?_
  refine zr_getI X zf_X1_32 rfl dX1_serves_1 ?_
  refine zr_iload1 X dX1_serves_4 ?_
  refine zr_callS2 (rm9 := zrm_X1_servesInMode) X hnt zm_X1_51 (by decide) (by decide) (by decide) (Nat.le_of_ble_eq_true rfl) dX1_serves_5 ?_
  refine zq_X1_servesInMode ?_ ?_
  · skip
    intro h1
    refine zr_zret X (by first | decide | assumption | (simp; done)) (by decide) (by decide) dX1_serves_8 ?_
    exact h_1 h1
  · skip
    intro h2
    refine zr_zret X (by first | decide | assumption | (simp; done)) (by decide) (by decide) dX1_serves_8 ?_
    exact h_2 h2
abbrev zrm_X1_peopleNotServedIn : Room := { frames := 1, cells := 0, slots := 0, locals := 21 }
set_option maxRecDepth 20000 in
theorem zp_X1_peopleNotServedIn {l : Launch} {D : va_G} {b0 : Nat} {tA : Nat → ClassId} {sa sv : Nat → Nat} {K : zKt} {I : zI} {Qp : zI → Option AV → Prop} {Xp : String → zI → Prop} {a : Nat} {x1 : Int32} 
    (h_1 : (x1 = 2 ∨ (((0 : Int32)) = 1 ∧ x1 = 1) ∨ (¬ ((0 : Int32)) = 1 ∧ x1 = 0)) → (x1 = 2 ∨ (((1 : Int32)) = 1 ∧ x1 = 1) ∨ (¬ ((1 : Int32)) = 1 ∧ x1 = 0)) → Qp I (some (vi ((0 : Int32)))))
    (h_2 : (x1 = 2 ∨ (((0 : Int32)) = 1 ∧ x1 = 1) ∨ (¬ ((0 : Int32)) = 1 ∧ x1 = 0)) → ¬ (x1 = 2 ∨ (((1 : Int32)) = 1 ∧ x1 = 1) ∨ (¬ ((1 : Int32)) = 1 ∧ x1 = 0)) → Qp I (some (vi (((0 : Int32) + (I (a + 3) 1))))))
    (h_3 : ¬ (x1 = 2 ∨ (((0 : Int32)) = 1 ∧ x1 = 1) ∨ (¬ ((0 : Int32)) = 1 ∧ x1 = 0)) → (x1 = 2 ∨ (((1 : Int32)) = 1 ∧ x1 = 1) ∨ (¬ ((1 : Int32)) = 1 ∧ x1 = 0)) → Qp I (some (vi (((0 : Int32) + (I (a + 1) 1))))))
    (h_4 : ¬ (x1 = 2 ∨ (((0 : Int32)) = 1 ∧ x1 = 1) ∨ (¬ ((0 : Int32)) = 1 ∧ x1 = 0)) → ¬ (x1 = 2 ∨ (((1 : Int32)) = 1 ∧ x1 = 1) ∨ (¬ ((1 : Int32)) = 1 ∧ x1 = 0)) → Qp I (some (vi ((((0 : Int32) + (I (a + 1) 1)) + (I (a + 3) 1)))))) :
    zC l D b0 tA sa sv K yX1_peopleNotServedIn (.code yX1_peopleNotServedIn cX1_peopleNotServedIn 3 (some .int)) zrm_X1_peopleNotServedIn [vr (a) 1, vi (x1)] I Qp Xp := by
  refine zC_of (by decide +kernel) (Nat.le_of_ble_eq_true rfl) ?_
  intro p e s m args below meth c X hnt
  have X : zX p l e zrm_X1_peopleNotServedIn s m args below meth c RX1 cX1_peopleNotServedIn 3 (some .int) D b0 tA sa sv := X
  refine zr_lv (lv2 := [some (vr (a) 1), some (vi (x1)), none]) rfl ?_
  refine zr_iconst (v := (0 : Int32)) X dX1_peopleNotServedIn_0 (by decide) ?_
  refine zr_istore2 X (by decide) rfl dX1_peopleNotServedIn_1 ?_
  refine zr_iload1 X dX1_peopleNotServedIn_2 ?_
  refine zr_iconst (v := (0 : Int32)) X dX1_peopleNotServedIn_3 (by decide) ?_
  refine zr_callS2 (rm9 := zrm_X1_servesInMode) X hnt zm_X1_51 (by decide) (by decide) (by decide) (Nat.le_of_ble_eq_true rfl) dX1_peopleNotServedIn_4 ?_
  refine zq_X1_servesInMode ?_ ?_
  · skip
    intro h1
    refine zr_if_ne (tgt := 20) X dX1_peopleNotServedIn_7 (by decide) (fun _ => ?_) (fun h => absurd h (by decide))
    refine zr_iload1 X dX1_peopleNotServedIn_20 ?_
    refine zr_iconst (v := (1 : Int32)) X dX1_peopleNotServedIn_21 (by decide) ?_
    refine zr_callS2 (rm9 := zrm_X1_servesInMode) X hnt zm_X1_51 (by decide) (by decide) (by decide) (Nat.le_of_ble_eq_true rfl) dX1_peopleNotServedIn_22 ?_
    refine zq_X1_servesInMode ?_ ?_
    · skip
      intro h3
      refine zr_if_ne (tgt := 38) X dX1_peopleNotServedIn_25 (by decide) (fun _ => ?_) (fun h => absurd h (by decide))
      refine zr_iload2 X dX1_peopleNotServedIn_38 ?_
      refine zr_iret X (by decide) (by decide) dX1_peopleNotServedIn_39 ?_
      exact h_1 h1 h3
    · skip
      intro h4
      refine zr_if_ne (tgt := 38) X dX1_peopleNotServedIn_25 (by decide) (fun h => absurd h (by decide)) (fun _ => ?_)
      refine zr_iload2 X dX1_peopleNotServedIn_28 ?_
      refine zr_aload0 X dX1_peopleNotServedIn_29 ?_
      refine zr_getR X zf_X1_18 rfl (by decide) (by decide) dX1_peopleNotServedIn_30 ?_
      refine zr_getI X zf_X1_48 rfl dX1_peopleNotServedIn_33 ?_
      refine zr_iadd X dX1_peopleNotServedIn_36 ?_
      refine zr_istore2 X (by decide) rfl dX1_peopleNotServedIn_37 ?_
      refine zr_iload2 X dX1_peopleNotServedIn_38 ?_
      refine zr_iret X (by decide) (by decide) dX1_peopleNotServedIn_39 ?_
      exact h_2 h1 h4
  · skip
    intro h2
    refine zr_if_ne (tgt := 20) X dX1_peopleNotServedIn_7 (by decide) (fun h => absurd h (by decide)) (fun _ => ?_)
    refine zr_iload2 X dX1_peopleNotServedIn_10 ?_
    refine zr_aload0 X dX1_peopleNotServedIn_11 ?_
    refine zr_getR X zf_X1_12 rfl (by decide) (by decide) dX1_peopleNotServedIn_12 ?_
    refine zr_getI X zf_X1_48 rfl dX1_peopleNotServedIn_15 ?_
    refine zr_iadd X dX1_peopleNotServedIn_18 ?_
    refine zr_istore2 X (by decide) rfl dX1_peopleNotServedIn_19 ?_
    refine zr_iload1 X dX1_peopleNotServedIn_20 ?_
    refine zr_iconst (v := (1 : Int32)) X dX1_peopleNotServedIn_21 (by decide) ?_
    refine zr_callS2 (rm9 := zrm_X1_servesInMode) X hnt zm_X1_51 (by decide) (by decide) (by decide) (Nat.le_of_ble_eq_true rfl) dX1_peopleNotServedIn_22 ?_
    refine zq_X1_servesInMode ?_ ?_
    · skip
      intro h5
      refine zr_if_ne (tgt := 38) X dX1_peopleNotServedIn_25 (by decide) (fun _ => ?_) (fun h => absurd h (by decide))
      refine zr_iload2 X dX1_peopleNotServedIn_38 ?_
      refine zr_iret X (by decide) (by decide) dX1_peopleNotServedIn_39 ?_
      exact h_3 h2 h5
    · skip
      intro h6
      refine zr_if_ne (tgt := 38) X dX1_peopleNotServedIn_25 (by decide) (fun h => absurd h (by decide)) (fun _ => ?_)
      refine zr_iload2 X dX1_peopleNotServedIn_28 ?_
      refine zr_aload0 X dX1_peopleNotServedIn_29 ?_
      refine zr_getR X zf_X1_18 rfl (by decide) (by decide) dX1_peopleNotServedIn_30 ?_
      refine zr_getI X zf_X1_48 rfl dX1_peopleNotServedIn_33 ?_
      refine zr_iadd X dX1_peopleNotServedIn_36 ?_
      refine zr_istore2 X (by decide) rfl dX1_peopleNotServedIn_37 ?_
      refine zr_iload2 X dX1_peopleNotServedIn_38 ?_
      refine zr_iret X (by decide) (by decide) dX1_peopleNotServedIn_39 ?_
      exact h_4 h2 h6
abbrev zrm_X1_isOpen : Room := { frames := 0, cells := 0, slots := 0, locals := 0 }
set_option maxRecDepth 20000 in
theorem zp_X1_isOpen {l : Launch} {D : va_G} {b0 : Nat} {tA : Nat → ClassId} {sa sv : Nat → Nat} {K : zKt} {I : zI} {Qp : zI → Option AV → Prop} {Xp : String → zI → Prop} {a : Nat} 
    (h_1 : (I (a) 3) ≤ (0 : Int32) → Qp I (some (vi ((0 : Int32)))))
    (h_2 : ¬ ((I (a) 3) ≤ (0 : Int32)) → Qp I (some (vi ((1 : Int32))))) :
    zC l D b0 tA sa sv K yX1_isOpen (.code yX1_isOpen cX1_isOpen 1 (some .boolean)) zrm_X1_isOpen [vr (a) 1] I Qp Xp := by
  refine zC_of (by decide +kernel) (Nat.le_of_ble_eq_true rfl) ?_
  intro p e s m args below meth c X hnt
  have X : zX p l e zrm_X1_isOpen s m args below meth c RX1 cX1_isOpen 1 (some .boolean) D b0 tA sa sv := X
  refine zr_lv (lv2 := [some (vr (a) 1)]) rfl ?_
  refine zr_aload0 X dX1_isOpen_0 ?_
  refine zr_getI X zf_X1_35 rfl dX1_isOpen_1 ?_
  refine zr_if_le (tgt := 11) X dX1_isOpen_4 (by decide) (fun h1 => ?_) (fun h1 => ?_)
  · skip
    refine zr_iconst (v := (0 : Int32)) X dX1_isOpen_11 (by decide) ?_
    refine zr_zret X (by first | decide | assumption | (simp; done)) (by decide) (by decide) dX1_isOpen_12 ?_
    exact h_1 h1
  · skip
    refine zr_iconst (v := (1 : Int32)) X dX1_isOpen_7 (by decide) ?_
    refine zr_goto (tgt := 12) X dX1_isOpen_8 (by decide) ?_
    refine zr_zret X (by first | decide | assumption | (simp; done)) (by decide) (by decide) dX1_isOpen_12 ?_
    exact h_2 h1
abbrev zrm_X1_canTakeMode : Room := { frames := 2, cells := 0, slots := 0, locals := 43 }
set_option maxRecDepth 20000 in
theorem zp_X1_canTakeMode {l : Launch} {D : va_G} {b0 : Nat} {tA : Nat → ClassId} {sa sv : Nat → Nat} {K : zKt} {I : zI} {Qp : zI → Option AV → Prop} {Xp : String → zI → Prop} {a : Nat} {x1 : Int32} 
    (h_1 : (I (a) 3) ≤ (0 : Int32) → (x1 = 2 ∨ (((0 : Int32)) = 1 ∧ x1 = 1) ∨ (¬ ((0 : Int32)) = 1 ∧ x1 = 0)) → (x1 = 2 ∨ (((1 : Int32)) = 1 ∧ x1 = 1) ∨ (¬ ((1 : Int32)) = 1 ∧ x1 = 0)) → Qp I (some (vi ((1 : Int32)))))
    (h_2 : (I (a) 3) ≤ (0 : Int32) → (x1 = 2 ∨ (((0 : Int32)) = 1 ∧ x1 = 1) ∨ (¬ ((0 : Int32)) = 1 ∧ x1 = 0)) → ¬ (x1 = 2 ∨ (((1 : Int32)) = 1 ∧ x1 = 1) ∨ (¬ ((1 : Int32)) = 1 ∧ x1 = 0)) → ¬ ((0 : Int32) + (I (a + 3) 1)) = (0 : Int32) → Qp I (some (vi ((0 : Int32)))))
    (h_3 : (I (a) 3) ≤ (0 : Int32) → (x1 = 2 ∨ (((0 : Int32)) = 1 ∧ x1 = 1) ∨ (¬ ((0 : Int32)) = 1 ∧ x1 = 0)) → ¬ (x1 = 2 ∨ (((1 : Int32)) = 1 ∧ x1 = 1) ∨ (¬ ((1 : Int32)) = 1 ∧ x1 = 0)) → ((0 : Int32) + (I (a + 3) 1)) = (0 : Int32) → Qp I (some (vi ((1 : Int32)))))
    (h_4 : (I (a) 3) ≤ (0 : Int32) → ¬ (x1 = 2 ∨ (((0 : Int32)) = 1 ∧ x1 = 1) ∨ (¬ ((0 : Int32)) = 1 ∧ x1 = 0)) → (x1 = 2 ∨ (((1 : Int32)) = 1 ∧ x1 = 1) ∨ (¬ ((1 : Int32)) = 1 ∧ x1 = 0)) → ¬ ((0 : Int32) + (I (a + 1) 1)) = (0 : Int32) → Qp I (some (vi ((0 : Int32)))))
    (h_5 : (I (a) 3) ≤ (0 : Int32) → ¬ (x1 = 2 ∨ (((0 : Int32)) = 1 ∧ x1 = 1) ∨ (¬ ((0 : Int32)) = 1 ∧ x1 = 0)) → (x1 = 2 ∨ (((1 : Int32)) = 1 ∧ x1 = 1) ∨ (¬ ((1 : Int32)) = 1 ∧ x1 = 0)) → ((0 : Int32) + (I (a + 1) 1)) = (0 : Int32) → Qp I (some (vi ((1 : Int32)))))
    (h_6 : (I (a) 3) ≤ (0 : Int32) → ¬ (x1 = 2 ∨ (((0 : Int32)) = 1 ∧ x1 = 1) ∨ (¬ ((0 : Int32)) = 1 ∧ x1 = 0)) → ¬ (x1 = 2 ∨ (((1 : Int32)) = 1 ∧ x1 = 1) ∨ (¬ ((1 : Int32)) = 1 ∧ x1 = 0)) → ¬ (((0 : Int32) + (I (a + 1) 1)) + (I (a + 3) 1)) = (0 : Int32) → Qp I (some (vi ((0 : Int32)))))
    (h_7 : (I (a) 3) ≤ (0 : Int32) → ¬ (x1 = 2 ∨ (((0 : Int32)) = 1 ∧ x1 = 1) ∨ (¬ ((0 : Int32)) = 1 ∧ x1 = 0)) → ¬ (x1 = 2 ∨ (((1 : Int32)) = 1 ∧ x1 = 1) ∨ (¬ ((1 : Int32)) = 1 ∧ x1 = 0)) → (((0 : Int32) + (I (a + 1) 1)) + (I (a + 3) 1)) = (0 : Int32) → Qp I (some (vi ((1 : Int32)))))
    (h_8 : ¬ ((I (a) 3) ≤ (0 : Int32)) → Qp I (some (vi ((0 : Int32))))) :
    zC l D b0 tA sa sv K yX1_canTakeMode (.code yX1_canTakeMode cX1_canTakeMode 2 (some .boolean)) zrm_X1_canTakeMode [vr (a) 1, vi (x1)] I Qp Xp := by
  refine zC_of (by decide +kernel) (Nat.le_of_ble_eq_true rfl) ?_
  intro p e s m args below meth c X hnt
  have X : zX p l e zrm_X1_canTakeMode s m args below meth c RX1 cX1_canTakeMode 2 (some .boolean) D b0 tA sa sv := X
  refine zr_lv (lv2 := [some (vr (a) 1), some (vi (x1))]) rfl ?_
  refine zr_aload0 X dX1_canTakeMode_0 ?_
  refine zr_callV0 (rm9 := zrm_X1_isOpen) X hnt zm_X1_55 (by decide) (by decide) (by decide) (Nat.le_of_ble_eq_true rfl) dX1_canTakeMode_1 ?_
  refine zp_X1_isOpen ?_ ?_
  · skip
    intro h1
    refine zr_if_ne (tgt := 19) X dX1_canTakeMode_4 (by decide) (fun h => absurd h (by decide)) (fun _ => ?_)
    refine zr_aload0 X dX1_canTakeMode_7 ?_
    refine zr_iload1 X dX1_canTakeMode_8 ?_
    refine zr_callV1 (rm9 := zrm_X1_peopleNotServedIn) X hnt zm_X1_59 (by decide) (by decide) (by decide) (Nat.le_of_ble_eq_true rfl) dX1_canTakeMode_9 ?_
    refine zp_X1_peopleNotServedIn ?_ ?_ ?_ ?_
    · skip
      intro h3 h4
      refine zr_if_ne (tgt := 19) X dX1_canTakeMode_12 (by decide) (fun h => absurd h (by decide)) (fun _ => ?_)
      refine zr_iconst (v := (1 : Int32)) X dX1_canTakeMode_15 (by decide) ?_
      refine zr_goto (tgt := 20) X dX1_canTakeMode_16 (by decide) ?_
      refine zr_zret X (by first | decide | assumption | (simp; done)) (by decide) (by decide) dX1_canTakeMode_20 ?_
      exact h_1 h1 h3 h4
    · skip
      intro h5 h6
      refine zr_if_ne (tgt := 19) X dX1_canTakeMode_12 (by decide) (fun h11 => ?_) (fun h11 => ?_)
      · skip
        refine zr_iconst (v := (0 : Int32)) X dX1_canTakeMode_19 (by decide) ?_
        refine zr_zret X (by first | decide | assumption | (simp; done)) (by decide) (by decide) dX1_canTakeMode_20 ?_
        exact h_2 h1 h5 h6 h11
      · skip
        refine zr_iconst (v := (1 : Int32)) X dX1_canTakeMode_15 (by decide) ?_
        refine zr_goto (tgt := 20) X dX1_canTakeMode_16 (by decide) ?_
        refine zr_zret X (by first | decide | assumption | (simp; done)) (by decide) (by decide) dX1_canTakeMode_20 ?_
        exact h_3 h1 h5 h6 h11
    · skip
      intro h7 h8
      refine zr_if_ne (tgt := 19) X dX1_canTakeMode_12 (by decide) (fun h12 => ?_) (fun h12 => ?_)
      · skip
        refine zr_iconst (v := (0 : Int32)) X dX1_canTakeMode_19 (by decide) ?_
        refine zr_zret X (by first | decide | assumption | (simp; done)) (by decide) (by decide) dX1_canTakeMode_20 ?_
        exact h_4 h1 h7 h8 h12
      · skip
        refine zr_iconst (v := (1 : Int32)) X dX1_canTakeMode_15 (by decide) ?_
        refine zr_goto (tgt := 20) X dX1_canTakeMode_16 (by decide) ?_
        refine zr_zret X (by first | decide | assumption | (simp; done)) (by decide) (by decide) dX1_canTakeMode_20 ?_
        exact h_5 h1 h7 h8 h12
    · skip
      intro h9 h10
      refine zr_if_ne (tgt := 19) X dX1_canTakeMode_12 (by decide) (fun h13 => ?_) (fun h13 => ?_)
      · skip
        refine zr_iconst (v := (0 : Int32)) X dX1_canTakeMode_19 (by decide) ?_
        refine zr_zret X (by first | decide | assumption | (simp; done)) (by decide) (by decide) dX1_canTakeMode_20 ?_
        exact h_6 h1 h9 h10 h13
      · skip
        refine zr_iconst (v := (1 : Int32)) X dX1_canTakeMode_15 (by decide) ?_
        refine zr_goto (tgt := 20) X dX1_canTakeMode_16 (by decide) ?_
        refine zr_zret X (by first | decide | assumption | (simp; done)) (by decide) (by decide) dX1_canTakeMode_20 ?_
        exact h_7 h1 h9 h10 h13
  · skip
    intro h2
    refine zr_if_ne (tgt := 19) X dX1_canTakeMode_4 (by decide) (fun _ => ?_) (fun h => absurd h (by decide))
    refine zr_iconst (v := (0 : Int32)) X dX1_canTakeMode_19 (by decide) ?_
    refine zr_zret X (by first | decide | assumption | (simp; done)) (by decide) (by decide) dX1_canTakeMode_20 ?_
    exact h_8 h2
abbrev zrm_X1_isFirstDueOn : Room := { frames := 0, cells := 0, slots := 0, locals := 0 }
set_option maxRecDepth 20000 in
theorem zp_X1_isFirstDueOn {l : Launch} {D : va_G} {b0 : Nat} {tA : Nat → ClassId} {sa sv : Nat → Nat} {K : zKt} {I : zI} {Qp : zI → Option AV → Prop} {Xp : String → zI → Prop} {a : Nat} {x1 : Int32} 
    (h_1 : (I (a) 5) = (0 : Int32) → Qp I (some (vi ((0 : Int32)))))
    (h_2 : ¬ ((I (a) 5) = (0 : Int32)) → ¬ (I (a) 4) = x1 → Qp I (some (vi ((0 : Int32)))))
    (h_3 : ¬ ((I (a) 5) = (0 : Int32)) → (I (a) 4) = x1 → Qp I (some (vi ((1 : Int32))))) :
    zC l D b0 tA sa sv K yX1_isFirstDueOn (.code yX1_isFirstDueOn cX1_isFirstDueOn 2 (some .boolean)) zrm_X1_isFirstDueOn [vr (a) 1, vi (x1)] I Qp Xp := by
  refine zC_of (by decide +kernel) (Nat.le_of_ble_eq_true rfl) ?_
  intro p e s m args below meth c X hnt
  have X : zX p l e zrm_X1_isFirstDueOn s m args below meth c RX1 cX1_isFirstDueOn 2 (some .boolean) D b0 tA sa sv := X
  refine zr_lv (lv2 := [some (vr (a) 1), some (vi (x1))]) rfl ?_
  refine zr_aload0 X dX1_isFirstDueOn_0 ?_
  refine zr_getZ X zf_X1_38 rfl rfl (by decide) dX1_isFirstDueOn_1 (fun hz1 => ?_)
  refine zr_if_eq (tgt := 19) X dX1_isFirstDueOn_4 (by decide) (fun h2 => ?_) (fun h2 => ?_)
  · skip
    refine zr_iconst (v := (0 : Int32)) X dX1_isFirstDueOn_19 (by decide) ?_
    refine zr_zret X (by first | decide | assumption | (simp; done)) (by decide) (by decide) dX1_isFirstDueOn_20 ?_
    exact h_1 h2
  · skip
    refine zr_aload0 X dX1_isFirstDueOn_7 ?_
    refine zr_getI X zf_X1_21 rfl dX1_isFirstDueOn_8 ?_
    refine zr_iload1 X dX1_isFirstDueOn_11 ?_
    refine zr_icmp_ne (tgt := 19) X dX1_isFirstDueOn_12 (by decide) (fun h3 => ?_) (fun h3 => ?_)
    · skip
      refine zr_iconst (v := (0 : Int32)) X dX1_isFirstDueOn_19 (by decide) ?_
      refine zr_zret X (by first | decide | assumption | (simp; done)) (by decide) (by decide) dX1_isFirstDueOn_20 ?_
      exact h_2 h2 h3
    · skip
      refine zr_iconst (v := (1 : Int32)) X dX1_isFirstDueOn_15 (by decide) ?_
      refine zr_goto (tgt := 20) X dX1_isFirstDueOn_16 (by decide) ?_
      refine zr_zret X (by first | decide | assumption | (simp; done)) (by decide) (by decide) dX1_isFirstDueOn_20 ?_
      exact h_3 h2 h3
abbrev zrm_X1_sideServedNext : Room := { frames := 0, cells := 0, slots := 0, locals := 0 }
set_option maxRecDepth 20000 in
theorem zp_X1_sideServedNext {l : Launch} {D : va_G} {b0 : Nat} {tA : Nat → ClassId} {sa sv : Nat → Nat} {K : zKt} {I : zI} {Qp : zI → Option AV → Prop} {Xp : String → zI → Prop} {a : Nat} 
    (h_1 : ¬ (I (a) 2) = (0 : Int32) → ¬ (I (a) 2) = (1 : Int32) → (I (a + 1) 1) = (I (a + 3) 1) → ¬ (I (a) 8) = (0 : Int32) → Qp I (some (vi ((0 : Int32)))))
    (h_2 : ¬ (I (a) 2) = (0 : Int32) → ¬ (I (a) 2) = (1 : Int32) → (I (a + 1) 1) = (I (a + 3) 1) → (I (a) 8) = (0 : Int32) → Qp I (some (vi ((1 : Int32)))))
    (h_3 : ¬ (I (a) 2) = (0 : Int32) → ¬ (I (a) 2) = (1 : Int32) → ¬ ((I (a + 1) 1) = (I (a + 3) 1)) → (I (a + 1) 1) ≤ (I (a + 3) 1) → Qp I (some (vi ((1 : Int32)))))
    (h_4 : ¬ (I (a) 2) = (0 : Int32) → ¬ (I (a) 2) = (1 : Int32) → ¬ ((I (a + 1) 1) = (I (a + 3) 1)) → ¬ ((I (a + 1) 1) ≤ (I (a + 3) 1)) → Qp I (some (vi ((0 : Int32)))))
    (h_5 : ¬ (I (a) 2) = (0 : Int32) → (I (a) 2) = (1 : Int32) → Qp I (some (vi ((1 : Int32)))))
    (h_6 : (I (a) 2) = (0 : Int32) → Qp I (some (vi ((0 : Int32))))) :
    zC l D b0 tA sa sv K yX1_sideServedNext (.code yX1_sideServedNext cX1_sideServedNext 1 (some .int)) zrm_X1_sideServedNext [vr (a) 1] I Qp Xp := by
  refine zC_of (by decide +kernel) (Nat.le_of_ble_eq_true rfl) ?_
  intro p e s m args below meth c X hnt
  have X : zX p l e zrm_X1_sideServedNext s m args below meth c RX1 cX1_sideServedNext 1 (some .int) D b0 tA sa sv := X
  refine zr_lv (lv2 := [some (vr (a) 1)]) rfl ?_
  refine zr_aload0 X dX1_sideServedNext_0 ?_
  refine zr_getI X zf_X1_32 rfl dX1_sideServedNext_1 ?_
  refine zr_if_ne (tgt := 9) X dX1_sideServedNext_4 (by decide) (fun h1 => ?_) (fun h1 => ?_)
  · skip
    refine zr_aload0 X dX1_sideServedNext_9 ?_
    refine zr_getI X zf_X1_32 rfl dX1_sideServedNext_10 ?_
    refine zr_iconst (v := (1 : Int32)) X dX1_sideServedNext_13 (by decide) ?_
    refine zr_icmp_ne (tgt := 19) X dX1_sideServedNext_14 (by decide) (fun h2 => ?_) (fun h2 => ?_)
    · skip
      refine zr_aload0 X dX1_sideServedNext_19 ?_
      refine zr_getR X zf_X1_12 rfl (by decide) (by decide) dX1_sideServedNext_20 ?_
      refine zr_getI X zf_X1_48 rfl dX1_sideServedNext_23 ?_
      refine zr_aload0 X dX1_sideServedNext_26 ?_
      refine zr_getR X zf_X1_18 rfl (by decide) (by decide) dX1_sideServedNext_27 ?_
      refine zr_getI X zf_X1_48 rfl dX1_sideServedNext_30 ?_
      refine zr_icmp_eq (tgt := 59) X dX1_sideServedNext_33 (by decide) (fun h3 => ?_) (fun h3 => ?_)
      · skip
        refine zr_aload0 X dX1_sideServedNext_59 ?_
        refine zr_getI X zf_X1_25 rfl dX1_sideServedNext_60 ?_
        refine zr_if_ne (tgt := 70) X dX1_sideServedNext_63 (by decide) (fun h4 => ?_) (fun h4 => ?_)
        · skip
          refine zr_iconst (v := (0 : Int32)) X dX1_sideServedNext_70 (by decide) ?_
          refine zr_iret X (by decide) (by decide) dX1_sideServedNext_71 ?_
          exact h_1 h1 h2 h3 h4
        · skip
          refine zr_iconst (v := (1 : Int32)) X dX1_sideServedNext_66 (by decide) ?_
          refine zr_goto (tgt := 71) X dX1_sideServedNext_67 (by decide) ?_
          refine zr_iret X (by decide) (by decide) dX1_sideServedNext_71 ?_
          exact h_2 h1 h2 h3 h4
      · skip
        refine zr_aload0 X dX1_sideServedNext_36 ?_
        refine zr_getR X zf_X1_12 rfl (by decide) (by decide) dX1_sideServedNext_37 ?_
        refine zr_getI X zf_X1_48 rfl dX1_sideServedNext_40 ?_
        refine zr_aload0 X dX1_sideServedNext_43 ?_
        refine zr_getR X zf_X1_18 rfl (by decide) (by decide) dX1_sideServedNext_44 ?_
        refine zr_getI X zf_X1_48 rfl dX1_sideServedNext_47 ?_
        refine zr_icmp_le (tgt := 57) X dX1_sideServedNext_50 (by decide) (fun h5 => ?_) (fun h5 => ?_)
        · skip
          refine zr_iconst (v := (1 : Int32)) X dX1_sideServedNext_57 (by decide) ?_
          refine zr_iret X (by decide) (by decide) dX1_sideServedNext_58 ?_
          exact h_3 h1 h2 h3 h5
        · skip
          refine zr_iconst (v := (0 : Int32)) X dX1_sideServedNext_53 (by decide) ?_
          refine zr_goto (tgt := 58) X dX1_sideServedNext_54 (by decide) ?_
          refine zr_iret X (by decide) (by decide) dX1_sideServedNext_58 ?_
          exact h_4 h1 h2 h3 h5
    · skip
      refine zr_iconst (v := (1 : Int32)) X dX1_sideServedNext_17 (by decide) ?_
      refine zr_iret X (by decide) (by decide) dX1_sideServedNext_18 ?_
      exact h_5 h1 h2
  · skip
    refine zr_iconst (v := (0 : Int32)) X dX1_sideServedNext_7 (by decide) ?_
    refine zr_iret X (by decide) (by decide) dX1_sideServedNext_8 ?_
    exact h_6 h1
abbrev zrm_X1_openFor : Room := { frames := 0, cells := 0, slots := 0, locals := 0 }
set_option maxRecDepth 20000 in
theorem zp_X1_openFor {l : Launch} {D : va_G} {b0 : Nat} {tA : Nat → ClassId} {sa sv : Nat → Nat} {K : zKt} {I : zI} {Qp : zI → Option AV → Prop} {Xp : String → zI → Prop} {a : Nat} {x1 : Int32} {x2 : Int32} 
    (h_1 : Qp (zput (zput (zput (zput (zput I (a) 3 (x2)) (a) 4 (x1)) (a) 5 ((1 : Int32))) (a) 7 (((I (a) 7) + (1 : Int32)))) (a) 8 (x1)) none) :
    zC l D b0 tA sa sv K yX1_openFor (.code yX1_openFor cX1_openFor 3 none) zrm_X1_openFor [vr (a) 1, vi (x1), vi (x2)] I Qp Xp := by
  refine zC_of (by decide +kernel) (Nat.le_of_ble_eq_true rfl) ?_
  intro p e s m args below meth c X hnt
  have X : zX p l e zrm_X1_openFor s m args below meth c RX1 cX1_openFor 3 none D b0 tA sa sv := X
  refine zr_lv (lv2 := [some (vr (a) 1), some (vi (x1)), some (vi (x2))]) rfl ?_
  refine zr_aload0 X dX1_openFor_0 ?_
  refine zr_iload2 X dX1_openFor_1 ?_
  refine zr_putI X zf_X1_35 rfl (Or.inl rfl) dX1_openFor_2 ?_
  refine zr_aload0 X dX1_openFor_5 ?_
  refine zr_iload1 X dX1_openFor_6 ?_
  refine zr_putI X zf_X1_21 rfl (Or.inl rfl) dX1_openFor_7 ?_
  refine zr_aload0 X dX1_openFor_10 ?_
  refine zr_iconst (v := (1 : Int32)) X dX1_openFor_11 (by decide) ?_
  refine zr_putI X zf_X1_38 rfl (Or.inr (by first | decide | assumption | (simp; done))) dX1_openFor_12 ?_
  refine zr_aload0 X dX1_openFor_15 ?_
  refine zr_dupR X dX1_openFor_16 ?_
  refine zr_getI X zf_X1_45 rfl dX1_openFor_17 ?_
  refine zr_eq (x2 := (I (a) 7)) ((zput_nj (by decide)).trans ((zput_nj (by decide)).trans ((zput_nj (by decide))))) ?_
  refine zr_iconst (v := (1 : Int32)) X dX1_openFor_20 (by decide) ?_
  refine zr_iadd X dX1_openFor_21 ?_
  refine zr_putI X zf_X1_45 rfl (Or.inl rfl) dX1_openFor_22 ?_
  refine zr_aload0 X dX1_openFor_25 ?_
  refine zr_iload1 X dX1_openFor_26 ?_
  refine zr_putI X zf_X1_25 rfl (Or.inl rfl) dX1_openFor_27 ?_
  refine zr_vret X (by decide) (by decide) dX1_openFor_30 ?_
  exact h_1 
abbrev zrm_X1_closePaddles : Room := { frames := 0, cells := 0, slots := 0, locals := 0 }
set_option maxRecDepth 20000 in
theorem zp_X1_closePaddles {l : Launch} {D : va_G} {b0 : Nat} {tA : Nat → ClassId} {sa sv : Nat → Nat} {K : zKt} {I : zI} {Qp : zI → Option AV → Prop} {Xp : String → zI → Prop} {a : Nat} 
    (h_1 : Qp (zput (zput (zput I (a) 3 ((0 : Int32))) (a) 4 ((-1 : Int32))) (a) 5 ((0 : Int32))) none) :
    zC l D b0 tA sa sv K yX1_closePaddles (.code yX1_closePaddles cX1_closePaddles 1 none) zrm_X1_closePaddles [vr (a) 1] I Qp Xp := by
  refine zC_of (by decide +kernel) (Nat.le_of_ble_eq_true rfl) ?_
  intro p e s m args below meth c X hnt
  have X : zX p l e zrm_X1_closePaddles s m args below meth c RX1 cX1_closePaddles 1 none D b0 tA sa sv := X
  refine zr_lv (lv2 := [some (vr (a) 1)]) rfl ?_
  refine zr_aload0 X dX1_closePaddles_0 ?_
  refine zr_iconst (v := (0 : Int32)) X dX1_closePaddles_1 (by decide) ?_
  refine zr_putI X zf_X1_35 rfl (Or.inl rfl) dX1_closePaddles_2 ?_
  refine zr_aload0 X dX1_closePaddles_5 ?_
  refine zr_iconst (v := (-1 : Int32)) X dX1_closePaddles_6 (by decide) ?_
  refine zr_putI X zf_X1_21 rfl (Or.inl rfl) dX1_closePaddles_7 ?_
  refine zr_aload0 X dX1_closePaddles_10 ?_
  refine zr_iconst (v := (0 : Int32)) X dX1_closePaddles_11 (by decide) ?_
  refine zr_putI X zf_X1_38 rfl (Or.inr (by first | decide | assumption | (simp; done))) dX1_closePaddles_12 ?_
  refine zr_vret X (by decide) (by decide) dX1_closePaddles_15 ?_
  exact h_1 
abbrev zrm_X5_hasGate : Room := { frames := 0, cells := 0, slots := 0, locals := 0 }
set_option maxRecDepth 20000 in
theorem zp_X5_hasGate {l : Launch} {D : va_G} {b0 : Nat} {tA : Nat → ClassId} {sa sv : Nat → Nat} {K : zKt} {I : zI} {Qp : zI → Option AV → Prop} {Xp : String → zI → Prop} {a : Nat} {x1 : Int32} 
    (h_1 : x1 < (0 : Int32) → Qp I (some (vi ((0 : Int32)))))
    (h_2 : ¬ (x1 < (0 : Int32)) → (I (a) 2) ≤ x1 → Qp I (some (vi ((0 : Int32)))))
    (h_3 : ¬ (x1 < (0 : Int32)) → ¬ ((I (a) 2) ≤ x1) → (6 : Int32) ≤ x1 → Qp I (some (vi ((0 : Int32)))))
    (h_4 : ¬ (x1 < (0 : Int32)) → ¬ ((I (a) 2) ≤ x1) → ¬ ((6 : Int32) ≤ x1) → Qp I (some (vi ((1 : Int32))))) :
    zC l D b0 tA sa sv K yX5_hasGate (.code yX5_hasGate cX5_hasGate 2 (some .boolean)) zrm_X5_hasGate [vr (a) 5, vi (x1)] I Qp Xp := by
  refine zC_of (by decide +kernel) (Nat.le_of_ble_eq_true rfl) ?_
  intro p e s m args below meth c X hnt
  have X : zX p l e zrm_X5_hasGate s m args below meth c RX5 cX5_hasGate 2 (some .boolean) D b0 tA sa sv := X
  refine zr_lv (lv2 := [some (vr (a) 5), some (vi (x1))]) rfl ?_
  refine zr_iload1 X dX5_hasGate_0 ?_
  refine zr_if_lt (tgt := 25) X dX5_hasGate_1 (by decide) (fun h1 => ?_) (fun h1 => ?_)
  · skip
    refine zr_iconst (v := (0 : Int32)) X dX5_hasGate_25 (by decide) ?_
    refine zr_zret X (by first | decide | assumption | (simp; done)) (by decide) (by decide) dX5_hasGate_26 ?_
    exact h_1 h1
  · skip
    refine zr_iload1 X dX5_hasGate_4 ?_
    refine zr_aload0 X dX5_hasGate_5 ?_
    refine zr_getI X zf_X5_39 rfl dX5_hasGate_6 ?_
    refine zr_icmp_ge (tgt := 25) X dX5_hasGate_9 (by decide) (fun h2 => ?_) (fun h2 => ?_)
    · skip
      refine zr_iconst (v := (0 : Int32)) X dX5_hasGate_25 (by decide) ?_
      refine zr_zret X (by first | decide | assumption | (simp; done)) (by decide) (by decide) dX5_hasGate_26 ?_
      exact h_2 h1 h2
    · skip
      refine zr_iload1 X dX5_hasGate_12 ?_
      refine zr_aload0 X dX5_hasGate_13 ?_
      refine zr_getR X zf_X5_11 rfl (by decide) (by decide) dX5_hasGate_14 ?_
      refine zr_alen (v := 6) X (Or.inr (Or.inl rfl)) rfl dX5_hasGate_17 ?_
      refine zr_icmp_ge (tgt := 25) X dX5_hasGate_18 (by decide) (fun h3 => ?_) (fun h3 => ?_)
      · skip
        refine zr_iconst (v := (0 : Int32)) X dX5_hasGate_25 (by decide) ?_
        refine zr_zret X (by first | decide | assumption | (simp; done)) (by decide) (by decide) dX5_hasGate_26 ?_
        exact h_3 h1 h2 h3
      · skip
        refine zr_iconst (v := (1 : Int32)) X dX5_hasGate_21 (by decide) ?_
        refine zr_goto (tgt := 26) X dX5_hasGate_22 (by decide) ?_
        refine zr_zret X (by first | decide | assumption | (simp; done)) (by decide) (by decide) dX5_hasGate_26 ?_
        exact h_4 h1 h2 h3
theorem zq_X5_hasGate {l : Launch} {D : va_G} {b0 : Nat} {tA : Nat → ClassId} {sa sv : Nat → Nat} {K : zKt} {I : zI} {Qp : zI → Option AV → Prop} {Xp : String → zI → Prop} {a : Nat} {x1 : Int32} 
    (h_1 : ¬ (x1 < 0) ∧ ¬ ((I a 2) ≤ x1) ∧ ¬ ((6 : Int32) ≤ x1) → Qp I (some (vi 1)))
    (h_2 : ¬ (¬ (x1 < 0) ∧ ¬ ((I a 2) ≤ x1) ∧ ¬ (6 ≤ x1)) → Qp I (some (vi 0))) :
    zC l D b0 tA sa sv K yX5_hasGate (.code yX5_hasGate cX5_hasGate 2 (some .boolean)) zrm_X5_hasGate [vr (a) 5, vi (x1)] I Qp Xp := by
  refine zp_X5_hasGate ?_ ?_ ?_ ?_ <;> intros <;> first | exact h_1 (by simp [*]) | exact h_2 (by simp [*])
abbrev zrm_X5_hasCard : Room := { frames := 0, cells := 0, slots := 0, locals := 0 }
set_option maxRecDepth 20000 in
theorem zp_X5_hasCard {l : Launch} {D : va_G} {b0 : Nat} {tA : Nat → ClassId} {sa sv : Nat → Nat} {K : zKt} {I : zI} {Qp : zI → Option AV → Prop} {Xp : String → zI → Prop} {a : Nat} {x1 : Int32} 
    (h_1 : x1 < (0 : Int32) → Qp I (some (vi ((0 : Int32)))))
    (h_2 : ¬ (x1 < (0 : Int32)) → (I (a) 3) ≤ x1 → Qp I (some (vi ((0 : Int32)))))
    (h_3 : ¬ (x1 < (0 : Int32)) → ¬ ((I (a) 3) ≤ x1) → (12 : Int32) ≤ x1 → Qp I (some (vi ((0 : Int32)))))
    (h_4 : ¬ (x1 < (0 : Int32)) → ¬ ((I (a) 3) ≤ x1) → ¬ ((12 : Int32) ≤ x1) → Qp I (some (vi ((1 : Int32))))) :
    zC l D b0 tA sa sv K yX5_hasCard (.code yX5_hasCard cX5_hasCard 2 (some .boolean)) zrm_X5_hasCard [vr (a) 5, vi (x1)] I Qp Xp := by
  refine zC_of (by decide +kernel) (Nat.le_of_ble_eq_true rfl) ?_
  intro p e s m args below meth c X hnt
  have X : zX p l e zrm_X5_hasCard s m args below meth c RX5 cX5_hasCard 2 (some .boolean) D b0 tA sa sv := X
  refine zr_lv (lv2 := [some (vr (a) 5), some (vi (x1))]) rfl ?_
  refine zr_iload1 X dX5_hasCard_0 ?_
  refine zr_if_lt (tgt := 25) X dX5_hasCard_1 (by decide) (fun h1 => ?_) (fun h1 => ?_)
  · skip
    refine zr_iconst (v := (0 : Int32)) X dX5_hasCard_25 (by decide) ?_
    refine zr_zret X (by first | decide | assumption | (simp; done)) (by decide) (by decide) dX5_hasCard_26 ?_
    exact h_1 h1
  · skip
    refine zr_iload1 X dX5_hasCard_4 ?_
    refine zr_aload0 X dX5_hasCard_5 ?_
    refine zr_getI X zf_X5_42 rfl dX5_hasCard_6 ?_
    refine zr_icmp_ge (tgt := 25) X dX5_hasCard_9 (by decide) (fun h2 => ?_) (fun h2 => ?_)
    · skip
      refine zr_iconst (v := (0 : Int32)) X dX5_hasCard_25 (by decide) ?_
      refine zr_zret X (by first | decide | assumption | (simp; done)) (by decide) (by decide) dX5_hasCard_26 ?_
      exact h_2 h1 h2
    · skip
      refine zr_iload1 X dX5_hasCard_12 ?_
      refine zr_aload0 X dX5_hasCard_13 ?_
      refine zr_getR X zf_X5_19 rfl (by decide) (by decide) dX5_hasCard_14 ?_
      refine zr_alen (v := 12) X (Or.inr (Or.inl rfl)) rfl dX5_hasCard_17 ?_
      refine zr_icmp_ge (tgt := 25) X dX5_hasCard_18 (by decide) (fun h3 => ?_) (fun h3 => ?_)
      · skip
        refine zr_iconst (v := (0 : Int32)) X dX5_hasCard_25 (by decide) ?_
        refine zr_zret X (by first | decide | assumption | (simp; done)) (by decide) (by decide) dX5_hasCard_26 ?_
        exact h_3 h1 h2 h3
      · skip
        refine zr_iconst (v := (1 : Int32)) X dX5_hasCard_21 (by decide) ?_
        refine zr_goto (tgt := 26) X dX5_hasCard_22 (by decide) ?_
        refine zr_zret X (by first | decide | assumption | (simp; done)) (by decide) (by decide) dX5_hasCard_26 ?_
        exact h_4 h1 h2 h3
theorem zq_X5_hasCard {l : Launch} {D : va_G} {b0 : Nat} {tA : Nat → ClassId} {sa sv : Nat → Nat} {K : zKt} {I : zI} {Qp : zI → Option AV → Prop} {Xp : String → zI → Prop} {a : Nat} {x1 : Int32} 
    (h_1 : ¬ (x1 < 0) ∧ ¬ ((I a 3) ≤ x1) ∧ ¬ ((12 : Int32) ≤ x1) → Qp I (some (vi 1)))
    (h_2 : ¬ (¬ (x1 < 0) ∧ ¬ ((I a 3) ≤ x1) ∧ ¬ (12 ≤ x1)) → Qp I (some (vi 0))) :
    zC l D b0 tA sa sv K yX5_hasCard (.code yX5_hasCard cX5_hasCard 2 (some .boolean)) zrm_X5_hasCard [vr (a) 5, vi (x1)] I Qp Xp := by
  refine zp_X5_hasCard ?_ ?_ ?_ ?_ <;> intros <;> first | exact h_1 (by simp [*]) | exact h_2 (by simp [*])
abbrev zrm_X5_canTakeGate : Room := { frames := 0, cells := 0, slots := 0, locals := 0 }
set_option maxRecDepth 20000 in
theorem zp_X5_canTakeGate {l : Launch} {D : va_G} {b0 : Nat} {tA : Nat → ClassId} {sa sv : Nat → Nat} {K : zKt} {I : zI} {Qp : zI → Option AV → Prop} {Xp : String → zI → Prop} {a : Nat} 
    (h_1 : (I (a) 2) < (0 : Int32) → Qp I (some (vi ((0 : Int32)))))
    (h_2 : ¬ ((I (a) 2) < (0 : Int32)) → (6 : Int32) ≤ (I (a) 2) → Qp I (some (vi ((0 : Int32)))))
    (h_3 : ¬ ((I (a) 2) < (0 : Int32)) → ¬ ((6 : Int32) ≤ (I (a) 2)) → Qp I (some (vi ((1 : Int32))))) :
    zC l D b0 tA sa sv K yX5_canTakeGate (.code yX5_canTakeGate cX5_canTakeGate 1 (some .boolean)) zrm_X5_canTakeGate [vr (a) 5] I Qp Xp := by
  refine zC_of (by decide +kernel) (Nat.le_of_ble_eq_true rfl) ?_
  intro p e s m args below meth c X hnt
  have X : zX p l e zrm_X5_canTakeGate s m args below meth c RX5 cX5_canTakeGate 1 (some .boolean) D b0 tA sa sv := X
  refine zr_lv (lv2 := [some (vr (a) 5)]) rfl ?_
  refine zr_aload0 X dX5_canTakeGate_0 ?_
  refine zr_getI X zf_X5_39 rfl dX5_canTakeGate_1 ?_
  refine zr_if_lt (tgt := 23) X dX5_canTakeGate_4 (by decide) (fun h1 => ?_) (fun h1 => ?_)
  · skip
    refine zr_iconst (v := (0 : Int32)) X dX5_canTakeGate_23 (by decide) ?_
    refine zr_zret X (by first | decide | assumption | (simp; done)) (by decide) (by decide) dX5_canTakeGate_24 ?_
    exact h_1 h1
  · skip
    refine zr_aload0 X dX5_canTakeGate_7 ?_
    refine zr_getI X zf_X5_39 rfl dX5_canTakeGate_8 ?_
    refine zr_aload0 X dX5_canTakeGate_11 ?_
    refine zr_getR X zf_X5_11 rfl (by decide) (by decide) dX5_canTakeGate_12 ?_
    refine zr_alen (v := 6) X (Or.inr (Or.inl rfl)) rfl dX5_canTakeGate_15 ?_
    refine zr_icmp_ge (tgt := 23) X dX5_canTakeGate_16 (by decide) (fun h2 => ?_) (fun h2 => ?_)
    · skip
      refine zr_iconst (v := (0 : Int32)) X dX5_canTakeGate_23 (by decide) ?_
      refine zr_zret X (by first | decide | assumption | (simp; done)) (by decide) (by decide) dX5_canTakeGate_24 ?_
      exact h_2 h1 h2
    · skip
      refine zr_iconst (v := (1 : Int32)) X dX5_canTakeGate_19 (by decide) ?_
      refine zr_goto (tgt := 24) X dX5_canTakeGate_20 (by decide) ?_
      refine zr_zret X (by first | decide | assumption | (simp; done)) (by decide) (by decide) dX5_canTakeGate_24 ?_
      exact h_3 h1 h2
abbrev zrm_X5_canTakeCard : Room := { frames := 0, cells := 0, slots := 0, locals := 0 }
set_option maxRecDepth 20000 in
theorem zp_X5_canTakeCard {l : Launch} {D : va_G} {b0 : Nat} {tA : Nat → ClassId} {sa sv : Nat → Nat} {K : zKt} {I : zI} {Qp : zI → Option AV → Prop} {Xp : String → zI → Prop} {a : Nat} 
    (h_1 : (I (a) 3) < (0 : Int32) → Qp I (some (vi ((0 : Int32)))))
    (h_2 : ¬ ((I (a) 3) < (0 : Int32)) → (12 : Int32) ≤ (I (a) 3) → Qp I (some (vi ((0 : Int32)))))
    (h_3 : ¬ ((I (a) 3) < (0 : Int32)) → ¬ ((12 : Int32) ≤ (I (a) 3)) → Qp I (some (vi ((1 : Int32))))) :
    zC l D b0 tA sa sv K yX5_canTakeCard (.code yX5_canTakeCard cX5_canTakeCard 1 (some .boolean)) zrm_X5_canTakeCard [vr (a) 5] I Qp Xp := by
  refine zC_of (by decide +kernel) (Nat.le_of_ble_eq_true rfl) ?_
  intro p e s m args below meth c X hnt
  have X : zX p l e zrm_X5_canTakeCard s m args below meth c RX5 cX5_canTakeCard 1 (some .boolean) D b0 tA sa sv := X
  refine zr_lv (lv2 := [some (vr (a) 5)]) rfl ?_
  refine zr_aload0 X dX5_canTakeCard_0 ?_
  refine zr_getI X zf_X5_42 rfl dX5_canTakeCard_1 ?_
  refine zr_if_lt (tgt := 23) X dX5_canTakeCard_4 (by decide) (fun h1 => ?_) (fun h1 => ?_)
  · skip
    refine zr_iconst (v := (0 : Int32)) X dX5_canTakeCard_23 (by decide) ?_
    refine zr_zret X (by first | decide | assumption | (simp; done)) (by decide) (by decide) dX5_canTakeCard_24 ?_
    exact h_1 h1
  · skip
    refine zr_aload0 X dX5_canTakeCard_7 ?_
    refine zr_getI X zf_X5_42 rfl dX5_canTakeCard_8 ?_
    refine zr_aload0 X dX5_canTakeCard_11 ?_
    refine zr_getR X zf_X5_19 rfl (by decide) (by decide) dX5_canTakeCard_12 ?_
    refine zr_alen (v := 12) X (Or.inr (Or.inl rfl)) rfl dX5_canTakeCard_15 ?_
    refine zr_icmp_ge (tgt := 23) X dX5_canTakeCard_16 (by decide) (fun h2 => ?_) (fun h2 => ?_)
    · skip
      refine zr_iconst (v := (0 : Int32)) X dX5_canTakeCard_23 (by decide) ?_
      refine zr_zret X (by first | decide | assumption | (simp; done)) (by decide) (by decide) dX5_canTakeCard_24 ?_
      exact h_2 h1 h2
    · skip
      refine zr_iconst (v := (1 : Int32)) X dX5_canTakeCard_19 (by decide) ?_
      refine zr_goto (tgt := 24) X dX5_canTakeCard_20 (by decide) ?_
      refine zr_zret X (by first | decide | assumption | (simp; done)) (by decide) (by decide) dX5_canTakeCard_24 ?_
      exact h_3 h1 h2
abbrev zrm_X5_addGate : Room := { frames := 0, cells := 0, slots := 0, locals := 0 }
set_option maxRecDepth 20000 in
theorem zp_X5_addGate {l : Launch} {D : va_G} {b0 : Nat} {tA : Nat → ClassId} {sa sv : Nat → Nat} {K : zKt} {I : zI} {Qp : zI → Option AV → Prop} {Xp : String → zI → Prop} {a : Nat} {x1 : Int32} 
    (h_1 : (I (a) 2) < (0 : Int32) → Qp I none)
    (h_2 : ¬ ((I (a) 2) < (0 : Int32)) → (6 : Int32) ≤ (I (a) 2) → Qp I none)
    (h_3 : ¬ ((I (a) 2) < (0 : Int32)) → ¬ ((6 : Int32) ≤ (I (a) 2)) → Qp (zput (zput I (a + 1 + 2 + 5 * ((I (a) 2)).toNatClampNeg) 2 (x1)) (a) 2 (((I (a) 2) + (1 : Int32)))) none) :
    zC l D b0 tA sa sv K yX5_addGate (.code yX5_addGate cX5_addGate 2 none) zrm_X5_addGate [vr (a) 5, vi (x1)] I Qp Xp := by
  refine zC_of (by decide +kernel) (Nat.le_of_ble_eq_true rfl) ?_
  intro p e s m args below meth c X hnt
  have X : zX p l e zrm_X5_addGate s m args below meth c RX5 cX5_addGate 2 none D b0 tA sa sv := X
  refine zr_lv (lv2 := [some (vr (a) 5), some (vi (x1))]) rfl ?_
  refine zr_aload0 X dX5_addGate_0 ?_
  refine zr_getI X zf_X5_39 rfl dX5_addGate_1 ?_
  refine zr_if_lt (tgt := 42) X dX5_addGate_4 (by decide) (fun h1 => ?_) (fun h1 => ?_)
  · skip
    refine zr_vret X (by decide) (by decide) dX5_addGate_42 ?_
    exact h_1 h1
  · skip
    refine zr_aload0 X dX5_addGate_7 ?_
    refine zr_getI X zf_X5_39 rfl dX5_addGate_8 ?_
    refine zr_aload0 X dX5_addGate_11 ?_
    refine zr_getR X zf_X5_11 rfl (by decide) (by decide) dX5_addGate_12 ?_
    refine zr_alen (v := 6) X (Or.inr (Or.inl rfl)) rfl dX5_addGate_15 ?_
    refine zr_icmp_ge (tgt := 42) X dX5_addGate_16 (by decide) (fun h2 => ?_) (fun h2 => ?_)
    · skip
      refine zr_vret X (by decide) (by decide) dX5_addGate_42 ?_
      exact h_2 h1 h2
    · skip
      refine zr_aload0 X dX5_addGate_19 ?_
      refine zr_getR X zf_X5_11 rfl (by decide) (by decide) dX5_addGate_20 ?_
      refine zr_aload0 X dX5_addGate_23 ?_
      refine zr_getI X zf_X5_39 rfl dX5_addGate_24 ?_
      refine zr_aald X rfl rfl (by decide) (by first | exact zin_lt (N := 6) rfl (by decide) (by assumption) (by assumption) | assumption) dX5_addGate_27 ?_
      refine zr_iload1 X dX5_addGate_28 ?_
      refine zr_putI X zf_X5_75 rfl (Or.inl rfl) dX5_addGate_29 ?_
      refine zr_aload0 X dX5_addGate_32 ?_
      refine zr_dupR X dX5_addGate_33 ?_
      refine zr_getI X zf_X5_39 rfl dX5_addGate_34 ?_
      refine zr_eq (x2 := (I (a) 2)) ((zput_ne (by omega))) ?_
      refine zr_iconst (v := (1 : Int32)) X dX5_addGate_37 (by decide) ?_
      refine zr_iadd X dX5_addGate_38 ?_
      refine zr_putI X zf_X5_39 rfl (Or.inl rfl) dX5_addGate_39 ?_
      refine zr_vret X (by decide) (by decide) dX5_addGate_42 ?_
      exact h_3 h1 h2
abbrev zrm_X5_addCard : Room := { frames := 0, cells := 0, slots := 0, locals := 0 }
set_option maxRecDepth 20000 in
theorem zp_X5_addCard {l : Launch} {D : va_G} {b0 : Nat} {tA : Nat → ClassId} {sa sv : Nat → Nat} {K : zKt} {I : zI} {Qp : zI → Option AV → Prop} {Xp : String → zI → Prop} {a : Nat} {x1 : Int32} {x2 : Int32} 
    (h_1 : (I (a) 3) < (0 : Int32) → Qp I none)
    (h_2 : ¬ ((I (a) 3) < (0 : Int32)) → (12 : Int32) ≤ (I (a) 3) → Qp I none)
    (h_3 : ¬ ((I (a) 3) < (0 : Int32)) → ¬ ((12 : Int32) ≤ (I (a) 3)) → Qp (zput (zput (zput I (a + 2 + 31 + 1 * ((I (a) 3)).toNatClampNeg) 0 (x1)) (a + 2 + 31 + 1 * ((I (a) 3)).toNatClampNeg) 1 (x2)) (a) 3 (((I (a) 3) + (1 : Int32)))) none) :
    zC l D b0 tA sa sv K yX5_addCard (.code yX5_addCard cX5_addCard 3 none) zrm_X5_addCard [vr (a) 5, vi (x1), vi (x2)] I Qp Xp := by
  refine zC_of (by decide +kernel) (Nat.le_of_ble_eq_true rfl) ?_
  intro p e s m args below meth c X hnt
  have X : zX p l e zrm_X5_addCard s m args below meth c RX5 cX5_addCard 3 none D b0 tA sa sv := X
  refine zr_lv (lv2 := [some (vr (a) 5), some (vi (x1)), some (vi (x2))]) rfl ?_
  refine zr_aload0 X dX5_addCard_0 ?_
  refine zr_getI X zf_X5_42 rfl dX5_addCard_1 ?_
  refine zr_if_lt (tgt := 55) X dX5_addCard_4 (by decide) (fun h1 => ?_) (fun h1 => ?_)
  · skip
    refine zr_vret X (by decide) (by decide) dX5_addCard_55 ?_
    exact h_1 h1
  · skip
    refine zr_aload0 X dX5_addCard_7 ?_
    refine zr_getI X zf_X5_42 rfl dX5_addCard_8 ?_
    refine zr_aload0 X dX5_addCard_11 ?_
    refine zr_getR X zf_X5_19 rfl (by decide) (by decide) dX5_addCard_12 ?_
    refine zr_alen (v := 12) X (Or.inr (Or.inl rfl)) rfl dX5_addCard_15 ?_
    refine zr_icmp_ge (tgt := 55) X dX5_addCard_16 (by decide) (fun h2 => ?_) (fun h2 => ?_)
    · skip
      refine zr_vret X (by decide) (by decide) dX5_addCard_55 ?_
      exact h_2 h1 h2
    · skip
      refine zr_aload0 X dX5_addCard_19 ?_
      refine zr_getR X zf_X5_19 rfl (by decide) (by decide) dX5_addCard_20 ?_
      refine zr_aload0 X dX5_addCard_23 ?_
      refine zr_getI X zf_X5_42 rfl dX5_addCard_24 ?_
      refine zr_aald X rfl rfl (by decide) (by first | exact zin_lt (N := 12) rfl (by decide) (by assumption) (by assumption) | assumption) dX5_addCard_27 ?_
      refine zr_iload1 X dX5_addCard_28 ?_
      refine zr_putI X zf_X5_78 rfl (Or.inl rfl) dX5_addCard_29 ?_
      refine zr_aload0 X dX5_addCard_32 ?_
      refine zr_getR X zf_X5_19 rfl (by decide) (by decide) dX5_addCard_33 ?_
      refine zr_aload0 X dX5_addCard_36 ?_
      refine zr_getI X zf_X5_42 rfl dX5_addCard_37 ?_
      refine zr_eq (x2 := (I (a) 3)) ((zput_ne (by omega))) ?_
      refine zr_aald X rfl rfl (by decide) (by first | exact zin_lt (N := 12) rfl (by decide) (by assumption) (by assumption) | assumption) dX5_addCard_40 ?_
      refine zr_iload2 X dX5_addCard_41 ?_
      refine zr_putI X zf_X5_81 rfl (Or.inl rfl) dX5_addCard_42 ?_
      refine zr_aload0 X dX5_addCard_45 ?_
      refine zr_dupR X dX5_addCard_46 ?_
      refine zr_getI X zf_X5_42 rfl dX5_addCard_47 ?_
      refine zr_eq (x2 := (I (a) 3)) ((zput_ne (by omega)).trans ((zput_ne (by omega)))) ?_
      refine zr_iconst (v := (1 : Int32)) X dX5_addCard_50 (by decide) ?_
      refine zr_iadd X dX5_addCard_51 ?_
      refine zr_putI X zf_X5_42 rfl (Or.inl rfl) dX5_addCard_52 ?_
      refine zr_vret X (by decide) (by decide) dX5_addCard_55 ?_
      exact h_3 h1 h2
abbrev zrm_X5_goThrough : Room := { frames := 1, cells := 0, slots := 0, locals := 21 }
set_option maxRecDepth 20000 in
theorem zp_X5_goThrough {l : Launch} {D : va_G} {b0 : Nat} {tA : Nat → ClassId} {sa sv : Nat → Nat} {K : zKt} {I : zI} {Qp : zI → Option AV → Prop} {Xp : String → zI → Prop} {a : Nat} {x1 : Int32} {x2 : Int32} 
    (h_1 : x1 < (0 : Int32) → ¬ x2 = (0 : Int32) → Qp (zput (zput I (a) 10 (((I (a) 10) + (1 : Int32)))) (a) 8 (((I (a) 8) - (1 : Int32)))) none)
    (h_2 : x1 < (0 : Int32) → x2 = (0 : Int32) → Qp (zput (zput I (a) 9 (((I (a) 9) + (1 : Int32)))) (a) 8 (((I (a) 8) + (1 : Int32)))) none)
    (h_3 : ¬ (x1 < (0 : Int32)) → (12 : Int32) ≤ x1 → ¬ x2 = (0 : Int32) → Qp (zput (zput I (a) 10 (((I (a) 10) + (1 : Int32)))) (a) 8 (((I (a) 8) - (1 : Int32)))) none)
    (h_4 : ¬ (x1 < (0 : Int32)) → (12 : Int32) ≤ x1 → x2 = (0 : Int32) → Qp (zput (zput I (a) 9 (((I (a) 9) + (1 : Int32)))) (a) 8 (((I (a) 8) + (1 : Int32)))) none)
    (h_5 : ¬ (x1 < (0 : Int32)) → ¬ ((12 : Int32) ≤ x1) → ¬ x2 = (0 : Int32) → Qp (zput (zput (zput (zput I ((a + 2 + 31 + 1 * (x1).toNatClampNeg)) 2 ((0 : Int32))) ((a + 2 + 31 + 1 * (x1).toNatClampNeg)) 4 (((I ((a + 2 + 31 + 1 * (x1).toNatClampNeg)) 4) + (1 : Int32)))) (a) 10 (((I (a) 10) + (1 : Int32)))) (a) 8 (((I (a) 8) - (1 : Int32)))) none)
    (h_6 : ¬ (x1 < (0 : Int32)) → ¬ ((12 : Int32) ≤ x1) → x2 = (0 : Int32) → Qp (zput (zput (zput (zput (zput I ((a + 2 + 31 + 1 * (x1).toNatClampNeg)) 2 ((1 : Int32))) ((a + 2 + 31 + 1 * (x1).toNatClampNeg)) 1 (((I ((a + 2 + 31 + 1 * (x1).toNatClampNeg)) 1) - (1 : Int32)))) ((a + 2 + 31 + 1 * (x1).toNatClampNeg)) 4 (((I ((a + 2 + 31 + 1 * (x1).toNatClampNeg)) 4) + (1 : Int32)))) (a) 9 (((I (a) 9) + (1 : Int32)))) (a) 8 (((I (a) 8) + (1 : Int32)))) none) :
    zC l D b0 tA sa sv K yX5_goThrough (.code yX5_goThrough cX5_goThrough 3 none) zrm_X5_goThrough [vr (a) 5, vi (x1), vi (x2)] I Qp Xp := by
  refine zC_of (by decide +kernel) (Nat.le_of_ble_eq_true rfl) ?_
  intro p e s m args below meth c X hnt
  have X : zX p l e zrm_X5_goThrough s m args below meth c RX5 cX5_goThrough 3 none D b0 tA sa sv := X
  refine zr_lv (lv2 := [some (vr (a) 5), some (vi (x1)), some (vi (x2))]) rfl ?_
  refine zr_iload1 X dX5_goThrough_0 ?_
  refine zr_if_lt (tgt := 23) X dX5_goThrough_1 (by decide) (fun h1 => ?_) (fun h1 => ?_)
  · skip
    refine zr_iload2 X dX5_goThrough_23 ?_
    refine zr_if_ne (tgt := 50) X dX5_goThrough_24 (by decide) (fun h2 => ?_) (fun h2 => ?_)
    · skip
      refine zr_aload0 X dX5_goThrough_50 ?_
      refine zr_dupR X dX5_goThrough_51 ?_
      refine zr_getI X zf_X5_57 rfl dX5_goThrough_52 ?_
      refine zr_iconst (v := (1 : Int32)) X dX5_goThrough_55 (by decide) ?_
      refine zr_iadd X dX5_goThrough_56 ?_
      refine zr_putI X zf_X5_57 rfl (Or.inl rfl) dX5_goThrough_57 ?_
      refine zr_aload0 X dX5_goThrough_60 ?_
      refine zr_dupR X dX5_goThrough_61 ?_
      refine zr_getI X zf_X5_51 rfl dX5_goThrough_62 ?_
      refine zr_eq (x2 := (I (a) 8)) ((zput_nj (by decide))) ?_
      refine zr_iconst (v := (1 : Int32)) X dX5_goThrough_65 (by decide) ?_
      refine zr_isub X dX5_goThrough_66 ?_
      refine zr_putI X zf_X5_51 rfl (Or.inl rfl) dX5_goThrough_67 ?_
      refine zr_vret X (by decide) (by decide) dX5_goThrough_70 ?_
      exact h_1 h1 h2
    · skip
      refine zr_aload0 X dX5_goThrough_27 ?_
      refine zr_dupR X dX5_goThrough_28 ?_
      refine zr_getI X zf_X5_54 rfl dX5_goThrough_29 ?_
      refine zr_iconst (v := (1 : Int32)) X dX5_goThrough_32 (by decide) ?_
      refine zr_iadd X dX5_goThrough_33 ?_
      refine zr_putI X zf_X5_54 rfl (Or.inl rfl) dX5_goThrough_34 ?_
      refine zr_aload0 X dX5_goThrough_37 ?_
      refine zr_dupR X dX5_goThrough_38 ?_
      refine zr_getI X zf_X5_51 rfl dX5_goThrough_39 ?_
      refine zr_eq (x2 := (I (a) 8)) ((zput_nj (by decide))) ?_
      refine zr_iconst (v := (1 : Int32)) X dX5_goThrough_42 (by decide) ?_
      refine zr_iadd X dX5_goThrough_43 ?_
      refine zr_putI X zf_X5_51 rfl (Or.inl rfl) dX5_goThrough_44 ?_
      refine zr_goto (tgt := 70) X dX5_goThrough_47 (by decide) ?_
      refine zr_vret X (by decide) (by decide) dX5_goThrough_70 ?_
      exact h_2 h1 h2
  · skip
    refine zr_iload1 X dX5_goThrough_4 ?_
    refine zr_aload0 X dX5_goThrough_5 ?_
    refine zr_getR X zf_X5_19 rfl (by decide) (by decide) dX5_goThrough_6 ?_
    refine zr_alen (v := 12) X (Or.inr (Or.inl rfl)) rfl dX5_goThrough_9 ?_
    refine zr_icmp_ge (tgt := 23) X dX5_goThrough_10 (by decide) (fun h3 => ?_) (fun h3 => ?_)
    · skip
      refine zr_iload2 X dX5_goThrough_23 ?_
      refine zr_if_ne (tgt := 50) X dX5_goThrough_24 (by decide) (fun h4 => ?_) (fun h4 => ?_)
      · skip
        refine zr_aload0 X dX5_goThrough_50 ?_
        refine zr_dupR X dX5_goThrough_51 ?_
        refine zr_getI X zf_X5_57 rfl dX5_goThrough_52 ?_
        refine zr_iconst (v := (1 : Int32)) X dX5_goThrough_55 (by decide) ?_
        refine zr_iadd X dX5_goThrough_56 ?_
        refine zr_putI X zf_X5_57 rfl (Or.inl rfl) dX5_goThrough_57 ?_
        refine zr_aload0 X dX5_goThrough_60 ?_
        refine zr_dupR X dX5_goThrough_61 ?_
        refine zr_getI X zf_X5_51 rfl dX5_goThrough_62 ?_
        refine zr_eq (x2 := (I (a) 8)) ((zput_nj (by decide))) ?_
        refine zr_iconst (v := (1 : Int32)) X dX5_goThrough_65 (by decide) ?_
        refine zr_isub X dX5_goThrough_66 ?_
        refine zr_putI X zf_X5_51 rfl (Or.inl rfl) dX5_goThrough_67 ?_
        refine zr_vret X (by decide) (by decide) dX5_goThrough_70 ?_
        exact h_3 h1 h3 h4
      · skip
        refine zr_aload0 X dX5_goThrough_27 ?_
        refine zr_dupR X dX5_goThrough_28 ?_
        refine zr_getI X zf_X5_54 rfl dX5_goThrough_29 ?_
        refine zr_iconst (v := (1 : Int32)) X dX5_goThrough_32 (by decide) ?_
        refine zr_iadd X dX5_goThrough_33 ?_
        refine zr_putI X zf_X5_54 rfl (Or.inl rfl) dX5_goThrough_34 ?_
        refine zr_aload0 X dX5_goThrough_37 ?_
        refine zr_dupR X dX5_goThrough_38 ?_
        refine zr_getI X zf_X5_51 rfl dX5_goThrough_39 ?_
        refine zr_eq (x2 := (I (a) 8)) ((zput_nj (by decide))) ?_
        refine zr_iconst (v := (1 : Int32)) X dX5_goThrough_42 (by decide) ?_
        refine zr_iadd X dX5_goThrough_43 ?_
        refine zr_putI X zf_X5_51 rfl (Or.inl rfl) dX5_goThrough_44 ?_
        refine zr_goto (tgt := 70) X dX5_goThrough_47 (by decide) ?_
        refine zr_vret X (by decide) (by decide) dX5_goThrough_70 ?_
        exact h_4 h1 h3 h4
    · skip
      refine zr_aload0 X dX5_goThrough_13 ?_
      refine zr_getR X zf_X5_19 rfl (by decide) (by decide) dX5_goThrough_14 ?_
      refine zr_iload1 X dX5_goThrough_17 ?_
      refine zr_aald X rfl rfl (by decide) (by first | exact zin_lt (N := 12) rfl (by decide) (by assumption) (by assumption) | assumption) dX5_goThrough_18 ?_
      refine zr_iload2 X dX5_goThrough_19 ?_
      refine zr_callV1 (rm9 := zrm_X0_passFrom) X hnt zm_X5_202 (by decide) (by decide) (by decide) (Nat.le_of_ble_eq_true rfl) dX5_goThrough_20 ?_
      refine zp_X0_passFrom ?_ ?_
      · skip
        intro h5
        refine zr_iload2 X dX5_goThrough_23 ?_
        refine zr_if_ne (tgt := 50) X dX5_goThrough_24 (by decide) (fun _ => ?_) (fun h => absurd h (by assumption))
        refine zr_aload0 X dX5_goThrough_50 ?_
        refine zr_dupR X dX5_goThrough_51 ?_
        refine zr_getI X zf_X5_57 rfl dX5_goThrough_52 ?_
        refine zr_eq (x2 := (I (a) 10)) ((zput_ne (by omega)).trans ((zput_ne (by omega)))) ?_
        refine zr_iconst (v := (1 : Int32)) X dX5_goThrough_55 (by decide) ?_
        refine zr_iadd X dX5_goThrough_56 ?_
        refine zr_putI X zf_X5_57 rfl (Or.inl rfl) dX5_goThrough_57 ?_
        refine zr_aload0 X dX5_goThrough_60 ?_
        refine zr_dupR X dX5_goThrough_61 ?_
        refine zr_getI X zf_X5_51 rfl dX5_goThrough_62 ?_
        refine zr_eq (x2 := (I (a) 8)) ((zput_nj (by decide)).trans ((zput_ne (by omega)).trans ((zput_ne (by omega))))) ?_
        refine zr_iconst (v := (1 : Int32)) X dX5_goThrough_65 (by decide) ?_
        refine zr_isub X dX5_goThrough_66 ?_
        refine zr_putI X zf_X5_51 rfl (Or.inl rfl) dX5_goThrough_67 ?_
        refine zr_vret X (by decide) (by decide) dX5_goThrough_70 ?_
        exact h_5 h1 h3 h5
      · skip
        intro h6
        refine zr_iload2 X dX5_goThrough_23 ?_
        refine zr_if_ne (tgt := 50) X dX5_goThrough_24 (by decide) (fun h => absurd (by assumption) h) (fun _ => ?_)
        refine zr_aload0 X dX5_goThrough_27 ?_
        refine zr_dupR X dX5_goThrough_28 ?_
        refine zr_getI X zf_X5_54 rfl dX5_goThrough_29 ?_
        refine zr_eq (x2 := (I (a) 9)) ((zput_ne (by omega)).trans ((zput_ne (by omega)).trans ((zput_ne (by omega))))) ?_
        refine zr_iconst (v := (1 : Int32)) X dX5_goThrough_32 (by decide) ?_
        refine zr_iadd X dX5_goThrough_33 ?_
        refine zr_putI X zf_X5_54 rfl (Or.inl rfl) dX5_goThrough_34 ?_
        refine zr_aload0 X dX5_goThrough_37 ?_
        refine zr_dupR X dX5_goThrough_38 ?_
        refine zr_getI X zf_X5_51 rfl dX5_goThrough_39 ?_
        refine zr_eq (x2 := (I (a) 8)) ((zput_nj (by decide)).trans ((zput_ne (by omega)).trans ((zput_ne (by omega)).trans ((zput_ne (by omega)))))) ?_
        refine zr_iconst (v := (1 : Int32)) X dX5_goThrough_42 (by decide) ?_
        refine zr_iadd X dX5_goThrough_43 ?_
        refine zr_putI X zf_X5_51 rfl (Or.inl rfl) dX5_goThrough_44 ?_
        refine zr_goto (tgt := 70) X dX5_goThrough_47 (by decide) ?_
        refine zr_vret X (by decide) (by decide) dX5_goThrough_70 ?_
        exact h_6 h1 h3 h6
