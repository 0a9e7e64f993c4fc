/-! ===== what the law's station tells ===== -/
abbrev zrm_X12_turned : Room := { frames := 0, cells := 0, slots := 0, locals := 0 }
set_option maxRecDepth 20000 in
theorem zp_X12_turned {l : Launch} {D : va_G} {b0 : Nat} {tA : Nat → ClassId} {sa sv : Nat → Nat} {K : zKt} {I : zI} {Qp : zI → Option AV → Prop} {Xp : String → zI → Prop} {A : Nat → Nat} {n7 m7 : Nat} {S : zS}
    (hS : zSh K A n7 m7) (hM : zSt I A n7 m7 S) (hK : (sX S 6 = 0 ∨ sX S 6 = 1) ∧ (sX S 7 = 0 ∨ sX S 7 = 1) ∧ (sX S 8 = 0 ∨ sX S 8 = 1)) (k1 : Qp I (some (vi (zkeys S)))) :
    zC l D b0 tA sa sv K yX12_turned (.code yX12_turned cX12_turned 1 (some .int)) zrm_X12_turned [vr (A (0)) 17] I Qp Xp := by
  have hA := hS.1
  have hn6 := hM.1.1
  have hm12 := hM.1.2
  refine zC_of (by decide +kernel) (Nat.le_of_ble_eq_true rfl) ?_
  intro p e s m args below meth c X hnt
  have X : zX p l e zrm_X12_turned s m args below meth c RX12 cX12_turned 1 (some .int) D b0 tA sa sv := X
  refine zr_lv (lv2 := [some (vr (A (0)) 17)]) rfl ?_
  refine zr_aload0 X dX12_turned_0 ?_
  refine zr_getD (r := A (3)) X zf_X12_40 rfl (by decide) (hS.2.1.2.2.2) dX12_turned_1 ?_
  refine zr_iconst (v := (0 : Int32)) X dX12_turned_4 (by decide) ?_
  refine zr_baldZ (n := 0) X (by first | decide | omega) dX12_turned_5 (fun hz1 => ?_)
  refine zr_eq (x2 := (sX S 6)) (hM.2.2.2.1 0 (by first | decide | omega)) ?_
  have hz1 : (sX S 6) = 0 ∨ (sX S 6) = 1 := hz1.imp (fun h => Eq.trans (Eq.symm (hM.2.2.2.1 0 (by first | decide | omega))) h) (fun h => Eq.trans (Eq.symm (hM.2.2.2.1 0 (by first | decide | omega))) h)
  refine zr_if_eq (tgt := 13) X dX12_turned_6 (by decide) (fun h2 => ?_) (fun h2 => ?_)
  · skip
    refine zr_iconst (v := (0 : Int32)) X dX12_turned_13 (by decide) ?_
    refine zr_aload0 X dX12_turned_14 ?_
    refine zr_getD (r := A (3)) X zf_X12_40 rfl (by decide) (hS.2.1.2.2.2) dX12_turned_15 ?_
    refine zr_iconst (v := (1 : Int32)) X dX12_turned_18 (by decide) ?_
    refine zr_baldZ (n := 1) X (by first | decide | omega) dX12_turned_19 (fun hz3 => ?_)
    refine zr_eq (x2 := (sX S 7)) (hM.2.2.2.1 1 (by first | decide | omega)) ?_
    have hz3 : (sX S 7) = 0 ∨ (sX S 7) = 1 := hz3.imp (fun h => Eq.trans (Eq.symm (hM.2.2.2.1 1 (by first | decide | omega))) h) (fun h => Eq.trans (Eq.symm (hM.2.2.2.1 1 (by first | decide | omega))) h)
    refine zr_if_eq (tgt := 27) X dX12_turned_20 (by decide) (fun h4 => ?_) (fun h4 => ?_)
    · skip
      refine zr_iconst (v := (0 : Int32)) X dX12_turned_27 (by decide) ?_
      refine zr_iadd X dX12_turned_28 ?_
      refine zr_eq (x2 := (0 : Int32)) (by decide) ?_
      refine zr_aload0 X dX12_turned_29 ?_
      refine zr_getD (r := A (3)) X zf_X12_40 rfl (by decide) (hS.2.1.2.2.2) dX12_turned_30 ?_
      refine zr_iconst (v := (2 : Int32)) X dX12_turned_33 (by decide) ?_
      refine zr_baldZ (n := 2) X (by first | decide | omega) dX12_turned_34 (fun hz5 => ?_)
      refine zr_eq (x2 := (sX S 8)) (hM.2.2.2.1 2 (by first | decide | omega)) ?_
      have hz5 : (sX S 8) = 0 ∨ (sX S 8) = 1 := hz5.imp (fun h => Eq.trans (Eq.symm (hM.2.2.2.1 2 (by first | decide | omega))) h) (fun h => Eq.trans (Eq.symm (hM.2.2.2.1 2 (by first | decide | omega))) h)
      refine zr_if_eq (tgt := 42) X dX12_turned_35 (by decide) (fun h6 => ?_) (fun h6 => ?_)
      · skip
        refine zr_iconst (v := (0 : Int32)) X dX12_turned_42 (by decide) ?_
        refine zr_iadd X dX12_turned_43 ?_
        refine zr_eq (x2 := (0 : Int32)) (by decide) ?_
        refine zr_iret X (by decide) (by decide) dX12_turned_44 ?_
        rcases hK.1 with e6 | e6 <;> rcases hK.2.1 with e7 | e7 <;> rcases hK.2.2 with e8 | e8 <;> first | (exfalso; simp_all; done) | (rw [zkeys, e6, e7, e8] at k1; exact k1)
      · skip
        refine zr_iconst (v := (1 : Int32)) X dX12_turned_38 (by decide) ?_
        refine zr_goto (tgt := 43) X dX12_turned_39 (by decide) ?_
        refine zr_iadd X dX12_turned_43 ?_
        refine zr_eq (x2 := (1 : Int32)) (by decide) ?_
        refine zr_iret X (by decide) (by decide) dX12_turned_44 ?_
        rcases hK.1 with e6 | e6 <;> rcases hK.2.1 with e7 | e7 <;> rcases hK.2.2 with e8 | e8 <;> first | (exfalso; simp_all; done) | (rw [zkeys, e6, e7, e8] at k1; exact k1)
    · skip
      refine zr_iconst (v := (1 : Int32)) X dX12_turned_23 (by decide) ?_
      refine zr_goto (tgt := 28) X dX12_turned_24 (by decide) ?_
      refine zr_iadd X dX12_turned_28 ?_
      refine zr_eq (x2 := (1 : Int32)) (by decide) ?_
      refine zr_aload0 X dX12_turned_29 ?_
      refine zr_getD (r := A (3)) X zf_X12_40 rfl (by decide) (hS.2.1.2.2.2) dX12_turned_30 ?_
      refine zr_iconst (v := (2 : Int32)) X dX12_turned_33 (by decide) ?_
      refine zr_baldZ (n := 2) X (by first | decide | omega) dX12_turned_34 (fun hz7 => ?_)
      refine zr_eq (x2 := (sX S 8)) (hM.2.2.2.1 2 (by first | decide | omega)) ?_
      have hz7 : (sX S 8) = 0 ∨ (sX S 8) = 1 := hz7.imp (fun h => Eq.trans (Eq.symm (hM.2.2.2.1 2 (by first | decide | omega))) h) (fun h => Eq.trans (Eq.symm (hM.2.2.2.1 2 (by first | decide | omega))) h)
      refine zr_if_eq (tgt := 42) X dX12_turned_35 (by decide) (fun h8 => ?_) (fun h8 => ?_)
      · skip
        refine zr_iconst (v := (0 : Int32)) X dX12_turned_42 (by decide) ?_
        refine zr_iadd X dX12_turned_43 ?_
        refine zr_eq (x2 := (1 : Int32)) (by decide) ?_
        refine zr_iret X (by decide) (by decide) dX12_turned_44 ?_
        rcases hK.1 with e6 | e6 <;> rcases hK.2.1 with e7 | e7 <;> rcases hK.2.2 with e8 | e8 <;> first | (exfalso; simp_all; done) | (rw [zkeys, e6, e7, e8] at k1; exact k1)
      · skip
        refine zr_iconst (v := (1 : Int32)) X dX12_turned_38 (by decide) ?_
        refine zr_goto (tgt := 43) X dX12_turned_39 (by decide) ?_
        refine zr_iadd X dX12_turned_43 ?_
        refine zr_eq (x2 := (2 : Int32)) (by decide) ?_
        refine zr_iret X (by decide) (by decide) dX12_turned_44 ?_
        rcases hK.1 with e6 | e6 <;> rcases hK.2.1 with e7 | e7 <;> rcases hK.2.2 with e8 | e8 <;> first | (exfalso; simp_all; done) | (rw [zkeys, e6, e7, e8] at k1; exact k1)
  · skip
    refine zr_iconst (v := (1 : Int32)) X dX12_turned_9 (by decide) ?_
    refine zr_goto (tgt := 14) X dX12_turned_10 (by decide) ?_
    refine zr_aload0 X dX12_turned_14 ?_
    refine zr_getD (r := A (3)) X zf_X12_40 rfl (by decide) (hS.2.1.2.2.2) dX12_turned_15 ?_
    refine zr_iconst (v := (1 : Int32)) X dX12_turned_18 (by decide) ?_
    refine zr_baldZ (n := 1) X (by first | decide | omega) dX12_turned_19 (fun hz9 => ?_)
    refine zr_eq (x2 := (sX S 7)) (hM.2.2.2.1 1 (by first | decide | omega)) ?_
    have hz9 : (sX S 7) = 0 ∨ (sX S 7) = 1 := hz9.imp (fun h => Eq.trans (Eq.symm (hM.2.2.2.1 1 (by first | decide | omega))) h) (fun h => Eq.trans (Eq.symm (hM.2.2.2.1 1 (by first | decide | omega))) h)
    refine zr_if_eq (tgt := 27) X dX12_turned_20 (by decide) (fun h10 => ?_) (fun h10 => ?_)
    · skip
      refine zr_iconst (v := (0 : Int32)) X dX12_turned_27 (by decide) ?_
      refine zr_iadd X dX12_turned_28 ?_
      refine zr_eq (x2 := (1 : Int32)) (by decide) ?_
      refine zr_aload0 X dX12_turned_29 ?_
      refine zr_getD (r := A (3)) X zf_X12_40 rfl (by decide) (hS.2.1.2.2.2) dX12_turned_30 ?_
      refine zr_iconst (v := (2 : Int32)) X dX12_turned_33 (by decide) ?_
      refine zr_baldZ (n := 2) X (by first | decide | omega) dX12_turned_34 (fun hz11 => ?_)
      refine zr_eq (x2 := (sX S 8)) (hM.2.2.2.1 2 (by first | decide | omega)) ?_
      have hz11 : (sX S 8) = 0 ∨ (sX S 8) = 1 := hz11.imp (fun h => Eq.trans (Eq.symm (hM.2.2.2.1 2 (by first | decide | omega))) h) (fun h => Eq.trans (Eq.symm (hM.2.2.2.1 2 (by first | decide | omega))) h)
      refine zr_if_eq (tgt := 42) X dX12_turned_35 (by decide) (fun h12 => ?_) (fun h12 => ?_)
      · skip
        refine zr_iconst (v := (0 : Int32)) X dX12_turned_42 (by decide) ?_
        refine zr_iadd X dX12_turned_43 ?_
        refine zr_eq (x2 := (1 : Int32)) (by decide) ?_
        refine zr_iret X (by decide) (by decide) dX12_turned_44 ?_
        rcases hK.1 with e6 | e6 <;> rcases hK.2.1 with e7 | e7 <;> rcases hK.2.2 with e8 | e8 <;> first | (exfalso; simp_all; done) | (rw [zkeys, e6, e7, e8] at k1; exact k1)
      · skip
        refine zr_iconst (v := (1 : Int32)) X dX12_turned_38 (by decide) ?_
        refine zr_goto (tgt := 43) X dX12_turned_39 (by decide) ?_
        refine zr_iadd X dX12_turned_43 ?_
        refine zr_eq (x2 := (2 : Int32)) (by decide) ?_
        refine zr_iret X (by decide) (by decide) dX12_turned_44 ?_
        rcases hK.1 with e6 | e6 <;> rcases hK.2.1 with e7 | e7 <;> rcases hK.2.2 with e8 | e8 <;> first | (exfalso; simp_all; done) | (rw [zkeys, e6, e7, e8] at k1; exact k1)
    · skip
      refine zr_iconst (v := (1 : Int32)) X dX12_turned_23 (by decide) ?_
      refine zr_goto (tgt := 28) X dX12_turned_24 (by decide) ?_
      refine zr_iadd X dX12_turned_28 ?_
      refine zr_eq (x2 := (2 : Int32)) (by decide) ?_
      refine zr_aload0 X dX12_turned_29 ?_
      refine zr_getD (r := A (3)) X zf_X12_40 rfl (by decide) (hS.2.1.2.2.2) dX12_turned_30 ?_
      refine zr_iconst (v := (2 : Int32)) X dX12_turned_33 (by decide) ?_
      refine zr_baldZ (n := 2) X (by first | decide | omega) dX12_turned_34 (fun hz13 => ?_)
      refine zr_eq (x2 := (sX S 8)) (hM.2.2.2.1 2 (by first | decide | omega)) ?_
      have hz13 : (sX S 8) = 0 ∨ (sX S 8) = 1 := hz13.imp (fun h => Eq.trans (Eq.symm (hM.2.2.2.1 2 (by first | decide | omega))) h) (fun h => Eq.trans (Eq.symm (hM.2.2.2.1 2 (by first | decide | omega))) h)
      refine zr_if_eq (tgt := 42) X dX12_turned_35 (by decide) (fun h14 => ?_) (fun h14 => ?_)
      · skip
        refine zr_iconst (v := (0 : Int32)) X dX12_turned_42 (by decide) ?_
        refine zr_iadd X dX12_turned_43 ?_
        refine zr_eq (x2 := (2 : Int32)) (by decide) ?_
        refine zr_iret X (by decide) (by decide) dX12_turned_44 ?_
        rcases hK.1 with e6 | e6 <;> rcases hK.2.1 with e7 | e7 <;> rcases hK.2.2 with e8 | e8 <;> first | (exfalso; simp_all; done) | (rw [zkeys, e6, e7, e8] at k1; exact k1)
      · skip
        refine zr_iconst (v := (1 : Int32)) X dX12_turned_38 (by decide) ?_
        refine zr_goto (tgt := 43) X dX12_turned_39 (by decide) ?_
        refine zr_iadd X dX12_turned_43 ?_
        refine zr_eq (x2 := (3 : Int32)) (by decide) ?_
        refine zr_iret X (by decide) (by decide) dX12_turned_44 ?_
        rcases hK.1 with e6 | e6 <;> rcases hK.2.1 with e7 | e7 <;> rcases hK.2.2 with e8 | e8 <;> first | (exfalso; simp_all; done) | (rw [zkeys, e6, e7, e8] at k1; exact k1)
abbrev zrm_X12_isPanic : Room := { frames := 1, cells := 0, slots := 0, locals := 20 }
set_option maxRecDepth 20000 in
theorem zp_X12_isPanic {l : Launch} {D : va_G} {b0 : Nat} {tA : Nat → ClassId} {sa sv : Nat → Nat} {K : zKt} {I : zI} {Qp : zI → Option AV → Prop} {Xp : String → zI → Prop} {A : Nat → Nat} {n7 m7 : Nat} {S : zS}
    (hS : zSh K A n7 m7) (hM : zSt I A n7 m7 S) (hK : (sX S 6 = 0 ∨ sX S 6 = 1) ∧ (sX S 7 = 0 ∨ sX S 7 = 1) ∧ (sX S 8 = 0 ∨ sX S 8 = 1)) (k1 : zPanB S = true → Qp I (some (vi 1))) (k2 : ¬ zPanB S = true → Qp I (some (vi 0))) :
    zC l D b0 tA sa sv K yX12_isPanic (.code yX12_isPanic cX12_isPanic 1 (some .boolean)) zrm_X12_isPanic [vr (A (0)) 17] I Qp Xp := by
  have hA := hS.1
  have hn6 := hM.1.1
  have hm12 := hM.1.2
  refine zC_of (by decide +kernel) (Nat.le_of_ble_eq_true rfl) ?_
  intro p e s m args below meth c X hnt
  have X : zX p l e zrm_X12_isPanic s m args below meth c RX12 cX12_isPanic 1 (some .boolean) D b0 tA sa sv := X
  refine zr_lv (lv2 := [some (vr (A (0)) 17)]) rfl ?_
  refine zr_aload0 X dX12_isPanic_0 ?_
  refine zr_callV0 (rm9 := zrm_X12_turned) X hnt zm_X12_83 (by decide) (by decide) (by decide) (Nat.le_of_ble_eq_true rfl) dX12_isPanic_1 ?_
  refine zp_X12_turned hS hM hK ?_
  refine zr_iconst (v := (2 : Int32)) X dX12_isPanic_4 (by decide) ?_
  refine zr_icmp_lt (tgt := 12) X dX12_isPanic_5 (by decide) (fun h1 => ?_) (fun h1 => ?_)
  · skip
    refine zr_iconst (v := (0 : Int32)) X dX12_isPanic_12 (by decide) ?_
    refine zr_zret X (by first | decide | assumption | (simp; done)) (by decide) (by decide) dX12_isPanic_13 ?_
    exact k2 (fun z => zpan_iff.mp (zPanB_iff.mp z) h1)
  · skip
    refine zr_iconst (v := (1 : Int32)) X dX12_isPanic_8 (by decide) ?_
    refine zr_goto (tgt := 13) X dX12_isPanic_9 (by decide) ?_
    refine zr_zret X (by first | decide | assumption | (simp; done)) (by decide) (by decide) dX12_isPanic_13 ?_
    exact k1 (zPanB_iff.mpr (zpan_iff.mpr h1))
abbrev zrm_X12_waiting : Room := { frames := 1, cells := 0, slots := 0, locals := 21 }
set_option maxRecDepth 20000 in
theorem zl0_X12_waiting {l : Launch} {D : va_G} {b0 : Nat} {tA : Nat → ClassId} {sa sv : Nat → Nat} {K : zKt} {I : zI} {Qp : zI → Option AV → Prop} {Xp : String → zI → Prop} {p : Program} {e : Env} {s : State} {m : MethodId} {args : Array Value} {below : List Frame} {meth : Method} {c : Code} {A : Nat → Nat} {n7 m7 : Nat} {S : zS}
    (X : zX p l e zrm_X12_waiting s m args below meth c RX12 cX12_waiting 4 (some .int) D b0 tA sa sv) (hnt : ∀ x ∈ c.exceptionTable.toList, False) (hS : zSh K A n7 m7) (hM : zSt I A n7 m7 S) (hW : zWf S) (k1 : Qp I (some (vi (nI (nsum (fun g => (sL S g 0).length) 6))))) :
    ∀ (n : Nat) (j v : Nat), j ≤ n7 → v = nsum (fun g => (sL S g 0).length) j → n7 - j < n → zG p l e zrm_X12_waiting s m args below meth c 4 D b0 tA sa 0 0 (zQ below D b0 tA sa K args s zrm_X12_waiting Qp Xp) K 4 [some (vr (A (0)) 17), some (vi ((0 : Int32))), some (vi ((nI v))), some (vi ((nI j)))] [] I := by
  intro n
  induction n with
  | zero => intro j v i1 i2 i3; exact absurd i3 (Nat.not_lt_zero _)
  | succ n ih =>
    intro j v i1 i2 i3
    have hA := hS.1
    have hn6 := hM.1.1
    have hm12 := hM.1.2
    have hgn := hM.ng
    have hcm := hM.nc
    have hlen := hW.len
    refine zr_iload3 X dX12_waiting_4 ?_
    refine zr_aload0 X dX12_waiting_5 ?_
    refine zr_getI X zf_X12_22 rfl dX12_waiting_6 ?_
    refine zr_eq (x2 := (nI n7)) ((hM.2.2.1 4 (by decide) (by decide)).trans hM.2.1.1) ?_
    refine zr_nicmp_ge X (j) (n7) (tgt := 34) (by omega) (by omega) dX12_waiting_9 (by decide) (fun h1 => ?_) (fun h1 => ?_)
    · skip
      refine zr_iload2 X dX12_waiting_34 ?_
      refine zr_iret X (by decide) (by decide) dX12_waiting_35 ?_
      have e9 : v = nsum (fun g => (sL S g 0).length) 6 := by rw [i2, show j = n7 by omega, ← hgn]; exact (nsum_tail (fun i hi => by rw [(hW.blank i hi).2 0]; rfl) 6 hW.ng.1).symm
      rw [e9] at *; exact k1
    · skip
      refine zr_iload2 X dX12_waiting_12 ?_
      refine zr_aload0 X dX12_waiting_13 ?_
      refine zr_getD (r := A (1)) X zf_X12_27 rfl (by decide) (hS.2.1.2.1) dX12_waiting_14 ?_
      refine zr_iload3 X dX12_waiting_17 ?_
      refine zr_aaldD (k := 20) (n := j) (r := A (4 + 5 * j)) X rfl (show _ < 6 from (by first | decide | omega)) ((hS.2.2.1 j (by omega)).1) dX12_waiting_18 ?_
      refine zr_iload1 X dX12_waiting_19 ?_
      refine zr_callV1 (rm9 := zrm_X9_line) X hnt zm_X12_94 (by decide) (by decide) (by decide) (Nat.le_of_ble_eq_true rfl) dX12_waiting_20 ?_
      refine zp0_X9_line hS (by omega) ?_
      refine zr_getI X zf_X12_108 rfl dX12_waiting_23 ?_
      refine zr_eq (x2 := (nI ((sL S j 0).length))) ((hM.2.2.2.2.1 j (by omega)).2.1.1) ?_
      refine zr_iadd X dX12_waiting_26 ?_
      refine zr_eq (x2 := (nI (v + ((sL S j 0).length)))) (nI_add (v) (((sL S j 0).length))) ?_
      refine zr_istore2 X (by decide) rfl dX12_waiting_27 ?_
      refine zr_iinc3 (v := (nI (j + 1))) X (show nI (j) + Int32.ofInt 1 = nI (j + 1) from nI_1 (j)) (by decide) rfl dX12_waiting_28 ?_
      refine zr_goto (tgt := 4) X dX12_waiting_31 (by decide) ?_
      exact ih (j + 1) _ (by omega) (by subst i2; rfl) (by omega)
set_option maxRecDepth 20000 in
theorem zp0_X12_waiting {l : Launch} {D : va_G} {b0 : Nat} {tA : Nat → ClassId} {sa sv : Nat → Nat} {K : zKt} {I : zI} {Qp : zI → Option AV → Prop} {Xp : String → zI → Prop} {A : Nat → Nat} {n7 m7 : Nat} {S : zS}
    (hS : zSh K A n7 m7) (hM : zSt I A n7 m7 S) (hW : zWf S) (k1 : Qp I (some (vi (nI (nsum (fun g => (sL S g 0).length) 6))))) :
    zC l D b0 tA sa sv K yX12_waiting (.code yX12_waiting cX12_waiting 4 (some .int)) zrm_X12_waiting [vr (A (0)) 17, vi ((0 : Int32))] I Qp Xp := by
  have hA := hS.1
  have hn6 := hM.1.1
  have hm12 := hM.1.2
  have hgn := hM.ng
  have hcm := hM.nc
  have hlen := hW.len
  refine zC_of (by decide +kernel) (Nat.le_of_ble_eq_true rfl) ?_
  intro p e s m args below meth c X hnt
  have X : zX p l e zrm_X12_waiting s m args below meth c RX12 cX12_waiting 4 (some .int) D b0 tA sa sv := X
  refine zr_lv (lv2 := [some (vr (A (0)) 17), some (vi ((0 : Int32))), none, none]) rfl ?_
  refine zr_iconst (v := (0 : Int32)) X dX12_waiting_0 (by decide) ?_
  refine zr_istore2 X (by decide) rfl dX12_waiting_1 ?_
  refine zr_iconst (v := (0 : Int32)) X dX12_waiting_2 (by decide) ?_
  refine zr_istore3 X (by decide) rfl dX12_waiting_3 ?_
  exact zl0_X12_waiting X hnt hS hM hW k1 (n7 + 1) 0 0 (by omega) rfl (by omega)
set_option maxRecDepth 20000 in
theorem zl1_X12_waiting {l : Launch} {D : va_G} {b0 : Nat} {tA : Nat → ClassId} {sa sv : Nat → Nat} {K : zKt} {I : zI} {Qp : zI → Option AV → Prop} {Xp : String → zI → Prop} {p : Program} {e : Env} {s : State} {m : MethodId} {args : Array Value} {below : List Frame} {meth : Method} {c : Code} {A : Nat → Nat} {n7 m7 : Nat} {S : zS}
    (X : zX p l e zrm_X12_waiting s m args below meth c RX12 cX12_waiting 4 (some .int) D b0 tA sa sv) (hnt : ∀ x ∈ c.exceptionTable.toList, False) (hS : zSh K A n7 m7) (hM : zSt I A n7 m7 S) (hW : zWf S) (k1 : Qp I (some (vi (nI (nsum (fun g => (sL S g 1).length) 6))))) :
    ∀ (n : Nat) (j v : Nat), j ≤ n7 → v = nsum (fun g => (sL S g 1).length) j → n7 - j < n → zG p l e zrm_X12_waiting s m args below meth c 4 D b0 tA sa 0 0 (zQ below D b0 tA sa K args s zrm_X12_waiting Qp Xp) K 4 [some (vr (A (0)) 17), some (vi ((1 : Int32))), some (vi ((nI v))), some (vi ((nI j)))] [] I := by
  intro n
  induction n with
  | zero => intro j v i1 i2 i3; exact absurd i3 (Nat.not_lt_zero _)
  | succ n ih =>
    intro j v i1 i2 i3
    have hA := hS.1
    have hn6 := hM.1.1
    have hm12 := hM.1.2
    have hgn := hM.ng
    have hcm := hM.nc
    have hlen := hW.len
    refine zr_iload3 X dX12_waiting_4 ?_
    refine zr_aload0 X dX12_waiting_5 ?_
    refine zr_getI X zf_X12_22 rfl dX12_waiting_6 ?_
    refine zr_eq (x2 := (nI n7)) ((hM.2.2.1 4 (by decide) (by decide)).trans hM.2.1.1) ?_
    refine zr_nicmp_ge X (j) (n7) (tgt := 34) (by omega) (by omega) dX12_waiting_9 (by decide) (fun h1 => ?_) (fun h1 => ?_)
    · skip
      refine zr_iload2 X dX12_waiting_34 ?_
      refine zr_iret X (by decide) (by decide) dX12_waiting_35 ?_
      have e9 : v = nsum (fun g => (sL S g 1).length) 6 := by rw [i2, show j = n7 by omega, ← hgn]; exact (nsum_tail (fun i hi => by rw [(hW.blank i hi).2 1]; rfl) 6 hW.ng.1).symm
      rw [e9] at *; exact k1
    · skip
      refine zr_iload2 X dX12_waiting_12 ?_
      refine zr_aload0 X dX12_waiting_13 ?_
      refine zr_getD (r := A (1)) X zf_X12_27 rfl (by decide) (hS.2.1.2.1) dX12_waiting_14 ?_
      refine zr_iload3 X dX12_waiting_17 ?_
      refine zr_aaldD (k := 20) (n := j) (r := A (4 + 5 * j)) X rfl (show _ < 6 from (by first | decide | omega)) ((hS.2.2.1 j (by omega)).1) dX12_waiting_18 ?_
      refine zr_iload1 X dX12_waiting_19 ?_
      refine zr_callV1 (rm9 := zrm_X9_line) X hnt zm_X12_94 (by decide) (by decide) (by decide) (Nat.le_of_ble_eq_true rfl) dX12_waiting_20 ?_
      refine zp1_X9_line hS (by omega) ?_
      refine zr_getI X zf_X12_108 rfl dX12_waiting_23 ?_
      refine zr_eq (x2 := (nI ((sL S j 1).length))) ((hM.2.2.2.2.1 j (by omega)).2.2.1) ?_
      refine zr_iadd X dX12_waiting_26 ?_
      refine zr_eq (x2 := (nI (v + ((sL S j 1).length)))) (nI_add (v) (((sL S j 1).length))) ?_
      refine zr_istore2 X (by decide) rfl dX12_waiting_27 ?_
      refine zr_iinc3 (v := (nI (j + 1))) X (show nI (j) + Int32.ofInt 1 = nI (j + 1) from nI_1 (j)) (by decide) rfl dX12_waiting_28 ?_
      refine zr_goto (tgt := 4) X dX12_waiting_31 (by decide) ?_
      exact ih (j + 1) _ (by omega) (by subst i2; rfl) (by omega)
set_option maxRecDepth 20000 in
theorem zp1_X12_waiting {l : Launch} {D : va_G} {b0 : Nat} {tA : Nat → ClassId} {sa sv : Nat → Nat} {K : zKt} {I : zI} {Qp : zI → Option AV → Prop} {Xp : String → zI → Prop} {A : Nat → Nat} {n7 m7 : Nat} {S : zS}
    (hS : zSh K A n7 m7) (hM : zSt I A n7 m7 S) (hW : zWf S) (k1 : Qp I (some (vi (nI (nsum (fun g => (sL S g 1).length) 6))))) :
    zC l D b0 tA sa sv K yX12_waiting (.code yX12_waiting cX12_waiting 4 (some .int)) zrm_X12_waiting [vr (A (0)) 17, vi ((1 : Int32))] I Qp Xp := by
  have hA := hS.1
  have hn6 := hM.1.1
  have hm12 := hM.1.2
  have hgn := hM.ng
  have hcm := hM.nc
  have hlen := hW.len
  refine zC_of (by decide +kernel) (Nat.le_of_ble_eq_true rfl) ?_
  intro p e s m args below meth c X hnt
  have X : zX p l e zrm_X12_waiting s m args below meth c RX12 cX12_waiting 4 (some .int) D b0 tA sa sv := X
  refine zr_lv (lv2 := [some (vr (A (0)) 17), some (vi ((1 : Int32))), none, none]) rfl ?_
  refine zr_iconst (v := (0 : Int32)) X dX12_waiting_0 (by decide) ?_
  refine zr_istore2 X (by decide) rfl dX12_waiting_1 ?_
  refine zr_iconst (v := (0 : Int32)) X dX12_waiting_2 (by decide) ?_
  refine zr_istore3 X (by decide) rfl dX12_waiting_3 ?_
  exact zl1_X12_waiting X hnt hS hM hW k1 (n7 + 1) 0 0 (by omega) rfl (by omega)
abbrev zrm_X12_where : Room := { frames := 1, cells := 0, slots := 0, locals := 22 }
theorem zq_X10_placeOf {l : Launch} {D : va_G} {b0 : Nat} {tA : Nat → ClassId} {sa sv : Nat → Nat} {K : zKt} {I : zI} {Qp : zI → Option AV → Prop} {Xp : String → zI → Prop} {a b c9 k : Nat} {w : List Nat} (hL : zLm I a b w) (hK : K.2 a 1 = some b) (hab : a ≠ b) (hl : w.length < 11) (hw : ∀ y ∈ w, y ≤ 12) (hc : c9 < 12) (hm : w[k]? = some (c9 + 1)) (k1 : ∀ k : Nat, k < w.length → w[k]? = some (c9 + 1) → Qp I (some (vi (nI k)))) :
    zC l D b0 tA sa sv K yX10_placeOf (.code yX10_placeOf cX10_placeOf 3 (some .int)) zrm_X10_placeOf [vr (a) 15, vi ((nI c9))] I Qp Xp := by
  refine zp_X10_placeOf hL hK hab hl hw hc (fun k h1 h2 _ => k1 k h1 h2) (fun h => ?_)
  have hk : k < w.length := by
    rcases Nat.lt_or_ge k w.length with q | q
    · exact q
    · rw [List.getElem?_eq_none q] at hm; cases hm
  exact absurd (by rw [List.getD_eq_getElem?_getD, hm]; rfl) (h k hk)
theorem zlt_of {w : List Nat} {k y : Nat} (h : w[k]? = some y) : k < w.length := by
  rcases Nat.lt_or_ge k w.length with q | q
  · exact q
  · rw [List.getElem?_eq_none q] at h; cases h
theorem zgd_of9 {w : List Nat} {k y : Nat} (h : w[k]? = some y) : w.getD k 0 = y := by rw [List.getD_eq_getElem?_getD, h]; rfl
set_option maxRecDepth 20000 in
theorem zl_X12_where {l : Launch} {D : va_G} {b0 : Nat} {tA : Nat → ClassId} {sa sv : Nat → Nat} {K : zKt} {I : zI} {Qp : zI → Option AV → Prop} {Xp : String → zI → Prop} {p : Program} {e : Env} {s : State} {m : MethodId} {args : Array Value} {below : List Frame} {meth : Method} {c : Code} {A : Nat → Nat} {n7 m7 c9 : Nat} {S : zS}
    (X : zX p l e zrm_X12_where s m args below meth c RX12 cX12_where 4 (some .int) D b0 tA sa sv) (hnt : ∀ x ∈ c.exceptionTable.toList, False) (hS : zSh K A n7 m7) (hM : zSt I A n7 m7 S) (hW : zWf S) (hc : c9 < 12) (k1 : ∀ g s p : Nat, zAt S c9 g s p → Qp I (some (vi (nI (100 * g + 50 * s + p))))) (k2 : (∀ g s p : Nat, ¬ zAt S c9 g s p) → Qp I (some (vi (-1)))) :
    ∀ (n : Nat) (j : Nat), j ≤ n7 → (∀ g s p : Nat, g < j → ¬ zAt S c9 g s p) → n7 - j < n → zG p l e zrm_X12_where s m args below meth c 4 D b0 tA sa 0 0 (zQ below D b0 tA sa K args s zrm_X12_where Qp Xp) K 2 [some (vr (A (0)) 17), some (vi ((nI c9))), some (vi ((nI j))), none] [] I := by
  intro n
  induction n with
  | zero => intro j i1 i2 i3; exact absurd i3 (Nat.not_lt_zero _)
  | succ n ih =>
    intro j i1 i2 i3
    have hA := hS.1
    have hn6 := hM.1.1
    have hm12 := hM.1.2
    have hgn := hM.ng
    have hcm := hM.nc
    have hlen := hW.len
    refine zr_iload2 X dX12_where_2 ?_
    refine zr_aload0 X dX12_where_3 ?_
    refine zr_getI X zf_X12_22 rfl dX12_where_4 ?_
    refine zr_eq (x2 := (nI n7)) ((hM.2.2.1 4 (by decide) (by decide)).trans hM.2.1.1) ?_
    refine zr_nicmp_ge X (j) (n7) (tgt := 75) (by omega) (by omega) dX12_where_7 (by decide) (fun h1 => ?_) (fun h1 => ?_)
    · skip
      refine zr_iconst (v := (-1 : Int32)) X dX12_where_75 (by decide) ?_
      refine zr_iret X (by decide) (by decide) dX12_where_76 ?_
      exact k2 (fun g s p z => by
        rcases Nat.lt_or_ge g j with q | q
        · exact i2 g s p q z
        · have := z.2.2; rw [(hW.blank g (by omega)).2 s] at this; simp at this)
    · skip
      refine zr_iconst (v := (0 : Int32)) X dX12_where_10 (by decide) ?_
      refine zr_istore3 X (by decide) rfl dX12_where_11 ?_
      refine zr_iload3 X dX12_where_12 ?_
      refine zr_iconst (v := (2 : Int32)) X dX12_where_13 (by decide) ?_
      refine zr_icmp_ge (tgt := 69) X dX12_where_14 (by decide) (fun h => absurd h (by decide)) (fun _ => ?_)
      refine zr_iload1 X dX12_where_17 ?_
      refine zr_nif_lt X (c9) (tgt := 63) (by omega) dX12_where_18 (by decide) (fun h => h.elim) (fun _ => ?_)
      refine zr_aload0 X dX12_where_21 ?_
      refine zr_getD (r := A (1)) X zf_X12_27 rfl (by decide) (hS.2.1.2.1) dX12_where_22 ?_
      refine zr_iload2 X dX12_where_25 ?_
      refine zr_aaldD (k := 20) (n := j) (r := A (4 + 5 * j)) X rfl (show _ < 6 from (by first | decide | omega)) ((hS.2.2.1 j (by omega)).1) dX12_where_26 ?_
      refine zr_iload3 X dX12_where_27 ?_
      refine zr_callV1 (rm9 := zrm_X9_line) X hnt zm_X12_94 (by decide) (by decide) (by decide) (Nat.le_of_ble_eq_true rfl) dX12_where_28 ?_
      refine zp0_X9_line hS (by omega) ?_
      refine zr_iload1 X dX12_where_31 ?_
      refine zr_callV1 (rm9 := zrm_X10_placeOf) X hnt zm_X12_151 (by decide) (by decide) (by decide) (Nat.le_of_ble_eq_true rfl) dX12_where_32 ?_
      refine zp_X10_placeOf (w := (sL S j 0)) (hM.2.2.2.2.1 j (by omega)).2.1 ((hS.2.2.1 j (by omega)).2.2.2.1) (fun z => absurd (hA _ _ z) (by omega)) (by have := hlen j 0; omega) (hW.le12 _ _) (by omega) ?_ ?_
      · skip
        intro kk3 hb4 hm5 hx6; have := hlen j 0
        refine zr_nif_lt X (kk3) (tgt := 63) (by omega) dX12_where_35 (by decide) (fun h => h.elim) (fun _ => ?_)
        refine zr_bipush (v := (100 : Int32)) X dX12_where_38 (by decide) ?_
        refine zr_iload2 X dX12_where_40 ?_
        refine zr_imul X dX12_where_41 ?_
        refine zr_eq (x2 := (nI (100 * j))) (nI_mul (100) (j)) ?_
        refine zr_bipush (v := (50 : Int32)) X dX12_where_42 (by decide) ?_
        refine zr_iload3 X dX12_where_44 ?_
        refine zr_imul X dX12_where_45 ?_
        refine zr_eq (x2 := (0 : Int32)) (by decide) ?_
        refine zr_iadd X dX12_where_46 ?_
        refine zr_eq (x2 := (nI ((100 * j) + 0))) (nI_add ((100 * j)) (0)) ?_
        refine zr_aload0 X dX12_where_47 ?_
        refine zr_getD (r := A (1)) X zf_X12_27 rfl (by decide) (hS.2.1.2.1) dX12_where_48 ?_
        refine zr_iload2 X dX12_where_51 ?_
        refine zr_aaldD (k := 20) (n := j) (r := A (4 + 5 * j)) X rfl (show _ < 6 from (by first | decide | omega)) ((hS.2.2.1 j (by omega)).1) dX12_where_52 ?_
        refine zr_iload3 X dX12_where_53 ?_
        refine zr_callV1 (rm9 := zrm_X9_line) X hnt zm_X12_94 (by decide) (by decide) (by decide) (Nat.le_of_ble_eq_true rfl) dX12_where_54 ?_
        refine zp0_X9_line hS (by omega) ?_
        refine zr_iload1 X dX12_where_57 ?_
        refine zr_callV1 (rm9 := zrm_X10_placeOf) X hnt zm_X12_151 (by decide) (by decide) (by decide) (Nat.le_of_ble_eq_true rfl) dX12_where_58 ?_
        refine zq_X10_placeOf (w := (sL S j 0)) (hM.2.2.2.2.1 j (by omega)).2.1 ((hS.2.2.1 j (by omega)).2.2.2.1) (fun z => absurd (hA _ _ z) (by omega)) (by have := hlen j 0; omega) (hW.le12 _ _) (by omega) hm5 ?_
        intro kk8 hb9 hm10; have := hlen j 0
        refine zr_iadd X dX12_where_61 ?_
        refine zr_eq (x2 := (nI (((100 * j) + 0) + kk8))) (nI_add (((100 * j) + 0)) (kk8)) ?_
        refine zr_iret X (by decide) (by decide) dX12_where_62 ?_
        exact k1 j 0 _ ⟨by omega, by omega, hm10⟩
      · skip
        intro hb4
        refine zr_if_lt (tgt := 63) X dX12_where_35 (by decide) (fun _ => ?_) (fun h => absurd h (by decide))
        refine zr_iinc3 (v := (1 : Int32)) X (by decide) (by decide) rfl dX12_where_63 ?_
        refine zr_goto (tgt := 12) X dX12_where_66 (by decide) ?_
        refine zr_iload3 X dX12_where_12 ?_
        refine zr_iconst (v := (2 : Int32)) X dX12_where_13 (by decide) ?_
        refine zr_icmp_ge (tgt := 69) X dX12_where_14 (by decide) (fun h => absurd h (by decide)) (fun _ => ?_)
        refine zr_iload1 X dX12_where_17 ?_
        refine zr_nif_lt X (c9) (tgt := 63) (by omega) dX12_where_18 (by decide) (fun h => h.elim) (fun _ => ?_)
        refine zr_aload0 X dX12_where_21 ?_
        refine zr_getD (r := A (1)) X zf_X12_27 rfl (by decide) (hS.2.1.2.1) dX12_where_22 ?_
        refine zr_iload2 X dX12_where_25 ?_
        refine zr_aaldD (k := 20) (n := j) (r := A (4 + 5 * j)) X rfl (show _ < 6 from (by first | decide | omega)) ((hS.2.2.1 j (by omega)).1) dX12_where_26 ?_
        refine zr_iload3 X dX12_where_27 ?_
        refine zr_callV1 (rm9 := zrm_X9_line) X hnt zm_X12_94 (by decide) (by decide) (by decide) (Nat.le_of_ble_eq_true rfl) dX12_where_28 ?_
        refine zp1_X9_line hS (by omega) ?_
        refine zr_iload1 X dX12_where_31 ?_
        refine zr_callV1 (rm9 := zrm_X10_placeOf) X hnt zm_X12_151 (by decide) (by decide) (by decide) (Nat.le_of_ble_eq_true rfl) dX12_where_32 ?_
        refine zp_X10_placeOf (w := (sL S j 1)) (hM.2.2.2.2.1 j (by omega)).2.2 ((hS.2.2.1 j (by omega)).2.2.2.2) (fun z => absurd (hA _ _ z) (by omega)) (by have := hlen j 1; omega) (hW.le12 _ _) (by omega) ?_ ?_
        · skip
          intro kk13 hb14 hm15 hx16; have := hlen j 1
          refine zr_nif_lt X (kk13) (tgt := 63) (by omega) dX12_where_35 (by decide) (fun h => h.elim) (fun _ => ?_)
          refine zr_bipush (v := (100 : Int32)) X dX12_where_38 (by decide) ?_
          refine zr_iload2 X dX12_where_40 ?_
          refine zr_imul X dX12_where_41 ?_
          refine zr_eq (x2 := (nI (100 * j))) (nI_mul (100) (j)) ?_
          refine zr_bipush (v := (50 : Int32)) X dX12_where_42 (by decide) ?_
          refine zr_iload3 X dX12_where_44 ?_
          refine zr_imul X dX12_where_45 ?_
          refine zr_eq (x2 := (50 : Int32)) (by decide) ?_
          refine zr_iadd X dX12_where_46 ?_
          refine zr_eq (x2 := (nI ((100 * j) + 50))) (nI_add ((100 * j)) (50)) ?_
          refine zr_aload0 X dX12_where_47 ?_
          refine zr_getD (r := A (1)) X zf_X12_27 rfl (by decide) (hS.2.1.2.1) dX12_where_48 ?_
          refine zr_iload2 X dX12_where_51 ?_
          refine zr_aaldD (k := 20) (n := j) (r := A (4 + 5 * j)) X rfl (show _ < 6 from (by first | decide | omega)) ((hS.2.2.1 j (by omega)).1) dX12_where_52 ?_
          refine zr_iload3 X dX12_where_53 ?_
          refine zr_callV1 (rm9 := zrm_X9_line) X hnt zm_X12_94 (by decide) (by decide) (by decide) (Nat.le_of_ble_eq_true rfl) dX12_where_54 ?_
          refine zp1_X9_line hS (by omega) ?_
          refine zr_iload1 X dX12_where_57 ?_
          refine zr_callV1 (rm9 := zrm_X10_placeOf) X hnt zm_X12_151 (by decide) (by decide) (by decide) (Nat.le_of_ble_eq_true rfl) dX12_where_58 ?_
          refine zq_X10_placeOf (w := (sL S j 1)) (hM.2.2.2.2.1 j (by omega)).2.2 ((hS.2.2.1 j (by omega)).2.2.2.2) (fun z => absurd (hA _ _ z) (by omega)) (by have := hlen j 1; omega) (hW.le12 _ _) (by omega) hm15 ?_
          intro kk18 hb19 hm20; have := hlen j 1
          refine zr_iadd X dX12_where_61 ?_
          refine zr_eq (x2 := (nI (((100 * j) + 50) + kk18))) (nI_add (((100 * j) + 50)) (kk18)) ?_
          refine zr_iret X (by decide) (by decide) dX12_where_62 ?_
          exact k1 j 1 _ ⟨by omega, by omega, hm20⟩
        · skip
          intro hb14
          refine zr_if_lt (tgt := 63) X dX12_where_35 (by decide) (fun _ => ?_) (fun h => absurd h (by decide))
          refine zr_iinc3 (v := (2 : Int32)) X (by decide) (by decide) rfl dX12_where_63 ?_
          refine zr_goto (tgt := 12) X dX12_where_66 (by decide) ?_
          refine zr_iload3 X dX12_where_12 ?_
          refine zr_iconst (v := (2 : Int32)) X dX12_where_13 (by decide) ?_
          refine zr_icmp_ge (tgt := 69) X dX12_where_14 (by decide) (fun _ => ?_) (fun h => absurd h (by decide))
          refine zr_iinc2 (v := (nI (j + 1))) X (show nI (j) + Int32.ofInt 1 = nI (j + 1) from nI_1 (j)) (by decide) rfl dX12_where_69 ?_
          refine zr_goto (tgt := 2) X dX12_where_72 (by decide) ?_
          refine zr_forget (lv2 := [some (vr (A (0)) 17), some (vi ((nI c9))), some (vi ((nI (j + 1)))), none]) (fun j9 v9 h9 => by rcases j9 with _ | _ | _ | _ | _ | _ | _ | _ | j9 <;> first | exact h9 | (simp at h9)) ?_
          refine ih (j + 1) (by omega) (fun g s p hg z => ?_) (by omega)
          rcases Nat.lt_succ_iff_lt_or_eq.mp hg with q | rfl
          · exact i2 g s p q z
          · obtain ⟨z1, z2, z3⟩ := z
            rcases (show s = 0 ∨ s = 1 by omega) with rfl | rfl
            · exact hb4 p (zlt_of z3) (zgd_of9 z3)
            · exact hb14 p (zlt_of z3) (zgd_of9 z3)
set_option maxRecDepth 20000 in
theorem zp_X12_where {l : Launch} {D : va_G} {b0 : Nat} {tA : Nat → ClassId} {sa sv : Nat → Nat} {K : zKt} {I : zI} {Qp : zI → Option AV → Prop} {Xp : String → zI → Prop} {A : Nat → Nat} {n7 m7 c9 : Nat} {S : zS}
    (hS : zSh K A n7 m7) (hM : zSt I A n7 m7 S) (hW : zWf S) (hc : c9 < 12) (k1 : ∀ g s p : Nat, zAt S c9 g s p → Qp I (some (vi (nI (100 * g + 50 * s + p))))) (k2 : (∀ g s p : Nat, ¬ zAt S c9 g s p) → Qp I (some (vi (-1)))) :
    zC l D b0 tA sa sv K yX12_where (.code yX12_where cX12_where 4 (some .int)) zrm_X12_where [vr (A (0)) 17, vi ((nI c9))] I Qp Xp := by
  have hA := hS.1
  have hn6 := hM.1.1
  have hm12 := hM.1.2
  have hgn := hM.ng
  have hcm := hM.nc
  have hlen := hW.len
  refine zC_of (by decide +kernel) (Nat.le_of_ble_eq_true rfl) ?_
  intro p e s m args below meth c X hnt
  have X : zX p l e zrm_X12_where s m args below meth c RX12 cX12_where 4 (some .int) D b0 tA sa sv := X
  refine zr_lv (lv2 := [some (vr (A (0)) 17), some (vi ((nI c9))), none, none]) rfl ?_
  refine zr_iconst (v := (0 : Int32)) X dX12_where_0 (by decide) ?_
  refine zr_istore2 X (by decide) rfl dX12_where_1 ?_
  exact zl_X12_where X hnt hS hM hW hc k1 k2 (n7 + 1) 0 (by omega) (fun g s p hg => absurd hg (Nat.not_lt_zero _)) (by omega)
set_option maxRecDepth 20000 in
theorem zlM_X12_where {l : Launch} {D : va_G} {b0 : Nat} {tA : Nat → ClassId} {sa sv : Nat → Nat} {K : zKt} {I : zI} {Qp : zI → Option AV → Prop} {Xp : String → zI → Prop} {p : Program} {e : Env} {s : State} {m : MethodId} {args : Array Value} {below : List Frame} {meth : Method} {c : Code} {A : Nat → Nat} {n7 m7 : Nat} {S : zS}
    (X : zX p l e zrm_X12_where s m args below meth c RX12 cX12_where 4 (some .int) D b0 tA sa sv) (hnt : ∀ x ∈ c.exceptionTable.toList, False) (hS : zSh K A n7 m7) (hM : zSt I A n7 m7 S) (hW : zWf S) (k2 : Qp I (some (vi (-1)))) :
    ∀ (n : Nat) (j : Nat), j ≤ n7 → n7 - j < n → zG p l e zrm_X12_where s m args below meth c 4 D b0 tA sa 0 0 (zQ below D b0 tA sa K args s zrm_X12_where Qp Xp) K 2 [some (vr (A (0)) 17), some (vi ((-1 : Int32))), some (vi ((nI j))), none] [] I := by
  intro n
  induction n with
  | zero => intro j i1 i3; exact absurd i3 (Nat.not_lt_zero _)
  | succ n ih =>
    intro j i1 i3
    have hA := hS.1
    have hn6 := hM.1.1
    have hm12 := hM.1.2
    have hgn := hM.ng
    have hcm := hM.nc
    have hlen := hW.len
    refine zr_iload2 X dX12_where_2 ?_
    refine zr_aload0 X dX12_where_3 ?_
    refine zr_getI X zf_X12_22 rfl dX12_where_4 ?_
    refine zr_eq (x2 := (nI n7)) ((hM.2.2.1 4 (by decide) (by decide)).trans hM.2.1.1) ?_
    refine zr_nicmp_ge X (j) (n7) (tgt := 75) (by omega) (by omega) dX12_where_7 (by decide) (fun h1 => ?_) (fun h1 => ?_)
    · skip
      refine zr_iconst (v := (-1 : Int32)) X dX12_where_75 (by decide) ?_
      refine zr_iret X (by decide) (by decide) dX12_where_76 ?_
      exact k2
    · skip
      refine zr_iconst (v := (0 : Int32)) X dX12_where_10 (by decide) ?_
      refine zr_istore3 X (by decide) rfl dX12_where_11 ?_
      refine zr_iload3 X dX12_where_12 ?_
      refine zr_iconst (v := (2 : Int32)) X dX12_where_13 (by decide) ?_
      refine zr_icmp_ge (tgt := 69) X dX12_where_14 (by decide) (fun h => absurd h (by decide)) (fun _ => ?_)
      refine zr_iload1 X dX12_where_17 ?_
      refine zr_if_lt (tgt := 63) X dX12_where_18 (by decide) (fun _ => ?_) (fun h => absurd h (by decide))
      refine zr_iinc3 (v := (1 : Int32)) X (by decide) (by decide) rfl dX12_where_63 ?_
      refine zr_goto (tgt := 12) X dX12_where_66 (by decide) ?_
      refine zr_iload3 X dX12_where_12 ?_
      refine zr_iconst (v := (2 : Int32)) X dX12_where_13 (by decide) ?_
      refine zr_icmp_ge (tgt := 69) X dX12_where_14 (by decide) (fun h => absurd h (by decide)) (fun _ => ?_)
      refine zr_iload1 X dX12_where_17 ?_
      refine zr_if_lt (tgt := 63) X dX12_where_18 (by decide) (fun _ => ?_) (fun h => absurd h (by decide))
      refine zr_iinc3 (v := (2 : Int32)) X (by decide) (by decide) rfl dX12_where_63 ?_
      refine zr_goto (tgt := 12) X dX12_where_66 (by decide) ?_
      refine zr_iload3 X dX12_where_12 ?_
      refine zr_iconst (v := (2 : Int32)) X dX12_where_13 (by decide) ?_
      refine zr_icmp_ge (tgt := 69) X dX12_where_14 (by decide) (fun _ => ?_) (fun h => absurd h (by decide))
      refine zr_iinc2 (v := (nI (j + 1))) X (show nI (j) + Int32.ofInt 1 = nI (j + 1) from nI_1 (j)) (by decide) rfl dX12_where_69 ?_
      refine zr_goto (tgt := 2) X dX12_where_72 (by decide) ?_
      refine zr_forget (lv2 := [some (vr (A (0)) 17), some (vi ((-1 : Int32))), some (vi ((nI (j + 1)))), none]) (fun j9 v9 h9 => by rcases j9 with _ | _ | _ | _ | _ | _ | _ | _ | j9 <;> first | exact h9 | (simp at h9)) ?_
      exact ih (j + 1) (by omega) (by omega)
set_option maxRecDepth 20000 in
theorem zM_X12_where {l : Launch} {D : va_G} {b0 : Nat} {tA : Nat → ClassId} {sa sv : Nat → Nat} {K : zKt} {I : zI} {Qp : zI → Option AV → Prop} {Xp : String → zI → Prop} {A : Nat → Nat} {n7 m7 : Nat} {S : zS}
    (hS : zSh K A n7 m7) (hM : zSt I A n7 m7 S) (hW : zWf S) (k2 : Qp I (some (vi (-1)))) :
    zC l D b0 tA sa sv K yX12_where (.code yX12_where cX12_where 4 (some .int)) zrm_X12_where [vr (A (0)) 17, vi ((-1 : Int32))] I Qp Xp := by
  have hA := hS.1
  have hn6 := hM.1.1
  have hm12 := hM.1.2
  have hgn := hM.ng
  have hcm := hM.nc
  have hlen := hW.len
  refine zC_of (by decide +kernel) (Nat.le_of_ble_eq_true rfl) ?_
  intro p e s m args below meth c X hnt
  have X : zX p l e zrm_X12_where s m args below meth c RX12 cX12_where 4 (some .int) D b0 tA sa sv := X
  refine zr_lv (lv2 := [some (vr (A (0)) 17), some (vi ((-1 : Int32))), none, none]) rfl ?_
  refine zr_iconst (v := (0 : Int32)) X dX12_where_0 (by decide) ?_
  refine zr_istore2 X (by decide) rfl dX12_where_1 ?_
  exact zlM_X12_where X hnt hS hM hW k2 (n7 + 1) 0 (by omega) (by omega)
theorem qPos_no {S : zS} {c : Nat} (h : ∀ g s p : Nat, ¬ zAt S c g s p) : qPos S c = none := by
  cases e : qPos S c with
  | none => rfl
  | some i => exact absurd (qPos_some e) (h _ _ _)
theorem qPos_ye {S : zS} {c g s p : Nat} (hW : zWf S) (h : zAt S c g s p) : qPos S c ≠ none := by rw [(qPos_at hW h).1]; exact Option.some_ne_none _
abbrev zrm_X12_refusal : Room := { frames := 0, cells := 0, slots := 0, locals := 0 }
set_option maxRecDepth 20000 in
theorem zp0_X12_refusal {l : Launch} {D : va_G} {b0 : Nat} {tA : Nat → ClassId} {sa sv : Nat → Nat} {K : zKt} {I : zI} {Qp : zI → Option AV → Prop} {Xp : String → zI → Prop} {A : Nat → Nat} {n7 m7 c9 : Nat} {S : zS}
    (hS : zSh K A n7 m7) (hM : zSt I A n7 m7 S) (hc : c9 < m7) (hb : (sC S c9 1 = 0 ∨ sC S c9 1 = 1) ∧ (sC S c9 2 = 0 ∨ sC S c9 2 = 1)) (k1 : Qp I (some (vi (nI (qRef S c9 0))))) :
    zC l D b0 tA sa sv K yX12_refusal (.code yX12_refusal cX12_refusal 4 (some .int)) zrm_X12_refusal [vr (A (0)) 17, vi ((nI c9)), vi ((0 : Int32))] I Qp Xp := by
  have hA := hS.1
  have hn6 := hM.1.1
  have hm12 := hM.1.2
  refine zC_of (by decide +kernel) (Nat.le_of_ble_eq_true rfl) ?_
  intro p e s m args below meth c X hnt
  have X : zX p l e zrm_X12_refusal s m args below meth c RX12 cX12_refusal 4 (some .int) D b0 tA sa sv := X
  refine zr_lv (lv2 := [some (vr (A (0)) 17), some (vi ((nI c9))), some (vi ((0 : Int32))), none]) rfl ?_
  refine zr_aload0 X dX12_refusal_0 ?_
  refine zr_getD (r := A (2)) X zf_X12_36 rfl (by decide) (hS.2.1.2.2.1) dX12_refusal_1 ?_
  refine zr_iload1 X dX12_refusal_4 ?_
  refine zr_aaldD (k := 21) (n := c9) (r := A (40 + c9)) X rfl (show _ < 12 from (by first | decide | omega)) (hS.2.2.2.1 c9 (by omega)) dX12_refusal_5 ?_
  refine zr_astore3 X (by decide) rfl dX12_refusal_6 ?_
  refine zr_aload3 X dX12_refusal_7 ?_
  refine zr_getZ X zf_X12_77 rfl rfl (by decide) dX12_refusal_8 (fun hz1 => ?_)
  refine zr_eq (x2 := (sC S c9 2)) (hM.2.2.2.2.2 c9 (by omega) 2 (by decide)) ?_
  have hz1 : (sC S c9 2) = 0 ∨ (sC S c9 2) = 1 := hz1.imp (fun h => Eq.trans (Eq.symm (hM.2.2.2.2.2 c9 (by omega) 2 (by decide))) h) (fun h => Eq.trans (Eq.symm (hM.2.2.2.2.2 c9 (by omega) 2 (by decide))) h)
  refine zr_if_eq (tgt := 16) X dX12_refusal_11 (by decide) (fun h2 => ?_) (fun h2 => ?_)
  · skip
    refine zr_aload3 X dX12_refusal_16 ?_
    refine zr_getZ X zf_X12_73 rfl rfl (by decide) dX12_refusal_17 (fun hz3 => ?_)
    refine zr_eq (x2 := (sC S c9 1)) (hM.2.2.2.2.2 c9 (by omega) 1 (by decide)) ?_
    have hz3 : (sC S c9 1) = 0 ∨ (sC S c9 1) = 1 := hz3.imp (fun h => Eq.trans (Eq.symm (hM.2.2.2.2.2 c9 (by omega) 1 (by decide))) h) (fun h => Eq.trans (Eq.symm (hM.2.2.2.2.2 c9 (by omega) 1 (by decide))) h)
    refine zr_if_eq (tgt := 27) X dX12_refusal_20 (by decide) (fun h4 => ?_) (fun h4 => ?_)
    · skip
      refine zr_aload3 X dX12_refusal_27 ?_
      refine zr_getZ X zf_X12_73 rfl rfl (by decide) dX12_refusal_28 (fun hz5 => ?_)
      refine zr_eq (x2 := (sC S c9 1)) (hM.2.2.2.2.2 c9 (by omega) 1 (by decide)) ?_
      have hz5 : (sC S c9 1) = 0 ∨ (sC S c9 1) = 1 := hz5.imp (fun h => Eq.trans (Eq.symm (hM.2.2.2.2.2 c9 (by omega) 1 (by decide))) h) (fun h => Eq.trans (Eq.symm (hM.2.2.2.2.2 c9 (by omega) 1 (by decide))) h)
      refine zr_if_ne (tgt := 41) X dX12_refusal_31 (by decide) (fun h => absurd (by assumption) h) (fun _ => ?_)
      refine zr_iload2 X dX12_refusal_34 ?_
      refine zr_iconst (v := (1 : Int32)) X dX12_refusal_35 (by decide) ?_
      refine zr_icmp_ne (tgt := 41) X dX12_refusal_36 (by decide) (fun _ => ?_) (fun h => absurd h (by decide))
      refine zr_iload2 X dX12_refusal_41 ?_
      refine zr_if_ne (tgt := 56) X dX12_refusal_42 (by decide) (fun h => absurd h (by decide)) (fun _ => ?_)
      refine zr_aload3 X dX12_refusal_45 ?_
      refine zr_getI X zf_X12_67 rfl dX12_refusal_46 ?_
      refine zr_eq (x2 := (sC S c9 0)) (hM.2.2.2.2.2 c9 (by omega) 0 (by decide)) ?_
      refine zr_if_ne (tgt := 56) X dX12_refusal_49 (by decide) (fun h6 => ?_) (fun h6 => ?_)
      · skip
        refine zr_iconst (v := (0 : Int32)) X dX12_refusal_56 (by decide) ?_
        refine zr_iret X (by decide) (by decide) dX12_refusal_57 ?_
        have e9 : qRef S c9 0 = 0 := by
          clear k1
          rcases hb.1 with b1 | b1 <;> rcases hb.2 with b2 | b2 <;> simp_all [qRef, nI_0, nI_one]
        rw [e9] at k1; exact k1
      · skip
        refine zr_iconst (v := (3 : Int32)) X dX12_refusal_52 (by decide) ?_
        refine zr_goto (tgt := 57) X dX12_refusal_53 (by decide) ?_
        refine zr_iret X (by decide) (by decide) dX12_refusal_57 ?_
        have e9 : qRef S c9 0 = 3 := by
          clear k1
          rcases hb.1 with b1 | b1 <;> rcases hb.2 with b2 | b2 <;> simp_all [qRef, nI_0, nI_one]
        rw [e9] at k1; exact k1
    · skip
      refine zr_iload2 X dX12_refusal_23 ?_
      refine zr_if_eq (tgt := 39) X dX12_refusal_24 (by decide) (fun _ => ?_) (fun h => absurd h (by decide))
      refine zr_iconst (v := (2 : Int32)) X dX12_refusal_39 (by decide) ?_
      refine zr_iret X (by decide) (by decide) dX12_refusal_40 ?_
      have e9 : qRef S c9 0 = 2 := by
        clear k1
        rcases hb.1 with b1 | b1 <;> rcases hb.2 with b2 | b2 <;> simp_all [qRef, nI_0, nI_one]
      rw [e9] at k1; exact k1
  · skip
    refine zr_iconst (v := (1 : Int32)) X dX12_refusal_14 (by decide) ?_
    refine zr_iret X (by decide) (by decide) dX12_refusal_15 ?_
    have e9 : qRef S c9 0 = 1 := by
      clear k1
      rcases hb.1 with b1 | b1 <;> rcases hb.2 with b2 | b2 <;> simp_all [qRef, nI_0, nI_one]
    rw [e9] at k1; exact k1
set_option maxRecDepth 20000 in
theorem zp1_X12_refusal {l : Launch} {D : va_G} {b0 : Nat} {tA : Nat → ClassId} {sa sv : Nat → Nat} {K : zKt} {I : zI} {Qp : zI → Option AV → Prop} {Xp : String → zI → Prop} {A : Nat → Nat} {n7 m7 c9 : Nat} {S : zS}
    (hS : zSh K A n7 m7) (hM : zSt I A n7 m7 S) (hc : c9 < m7) (hb : (sC S c9 1 = 0 ∨ sC S c9 1 = 1) ∧ (sC S c9 2 = 0 ∨ sC S c9 2 = 1)) (k1 : Qp I (some (vi (nI (qRef S c9 1))))) :
    zC l D b0 tA sa sv K yX12_refusal (.code yX12_refusal cX12_refusal 4 (some .int)) zrm_X12_refusal [vr (A (0)) 17, vi ((nI c9)), vi ((1 : Int32))] I Qp Xp := by
  have hA := hS.1
  have hn6 := hM.1.1
  have hm12 := hM.1.2
  refine zC_of (by decide +kernel) (Nat.le_of_ble_eq_true rfl) ?_
  intro p e s m args below meth c X hnt
  have X : zX p l e zrm_X12_refusal s m args below meth c RX12 cX12_refusal 4 (some .int) D b0 tA sa sv := X
  refine zr_lv (lv2 := [some (vr (A (0)) 17), some (vi ((nI c9))), some (vi ((1 : Int32))), none]) rfl ?_
  refine zr_aload0 X dX12_refusal_0 ?_
  refine zr_getD (r := A (2)) X zf_X12_36 rfl (by decide) (hS.2.1.2.2.1) dX12_refusal_1 ?_
  refine zr_iload1 X dX12_refusal_4 ?_
  refine zr_aaldD (k := 21) (n := c9) (r := A (40 + c9)) X rfl (show _ < 12 from (by first | decide | omega)) (hS.2.2.2.1 c9 (by omega)) dX12_refusal_5 ?_
  refine zr_astore3 X (by decide) rfl dX12_refusal_6 ?_
  refine zr_aload3 X dX12_refusal_7 ?_
  refine zr_getZ X zf_X12_77 rfl rfl (by decide) dX12_refusal_8 (fun hz1 => ?_)
  refine zr_eq (x2 := (sC S c9 2)) (hM.2.2.2.2.2 c9 (by omega) 2 (by decide)) ?_
  have hz1 : (sC S c9 2) = 0 ∨ (sC S c9 2) = 1 := hz1.imp (fun h => Eq.trans (Eq.symm (hM.2.2.2.2.2 c9 (by omega) 2 (by decide))) h) (fun h => Eq.trans (Eq.symm (hM.2.2.2.2.2 c9 (by omega) 2 (by decide))) h)
  refine zr_if_eq (tgt := 16) X dX12_refusal_11 (by decide) (fun h2 => ?_) (fun h2 => ?_)
  · skip
    refine zr_aload3 X dX12_refusal_16 ?_
    refine zr_getZ X zf_X12_73 rfl rfl (by decide) dX12_refusal_17 (fun hz3 => ?_)
    refine zr_eq (x2 := (sC S c9 1)) (hM.2.2.2.2.2 c9 (by omega) 1 (by decide)) ?_
    have hz3 : (sC S c9 1) = 0 ∨ (sC S c9 1) = 1 := hz3.imp (fun h => Eq.trans (Eq.symm (hM.2.2.2.2.2 c9 (by omega) 1 (by decide))) h) (fun h => Eq.trans (Eq.symm (hM.2.2.2.2.2 c9 (by omega) 1 (by decide))) h)
    refine zr_if_eq (tgt := 27) X dX12_refusal_20 (by decide) (fun h4 => ?_) (fun h4 => ?_)
    · skip
      refine zr_aload3 X dX12_refusal_27 ?_
      refine zr_getZ X zf_X12_73 rfl rfl (by decide) dX12_refusal_28 (fun hz5 => ?_)
      refine zr_eq (x2 := (sC S c9 1)) (hM.2.2.2.2.2 c9 (by omega) 1 (by decide)) ?_
      have hz5 : (sC S c9 1) = 0 ∨ (sC S c9 1) = 1 := hz5.imp (fun h => Eq.trans (Eq.symm (hM.2.2.2.2.2 c9 (by omega) 1 (by decide))) h) (fun h => Eq.trans (Eq.symm (hM.2.2.2.2.2 c9 (by omega) 1 (by decide))) h)
      refine zr_if_ne (tgt := 41) X dX12_refusal_31 (by decide) (fun h => absurd (by assumption) h) (fun _ => ?_)
      refine zr_iload2 X dX12_refusal_34 ?_
      refine zr_iconst (v := (1 : Int32)) X dX12_refusal_35 (by decide) ?_
      refine zr_icmp_ne (tgt := 41) X dX12_refusal_36 (by decide) (fun h => absurd h (by decide)) (fun _ => ?_)
      refine zr_iconst (v := (2 : Int32)) X dX12_refusal_39 (by decide) ?_
      refine zr_iret X (by decide) (by decide) dX12_refusal_40 ?_
      have e9 : qRef S c9 1 = 2 := by
        clear k1
        rcases hb.1 with b1 | b1 <;> rcases hb.2 with b2 | b2 <;> simp_all [qRef, nI_0, nI_one]
      rw [e9] at k1; exact k1
    · skip
      refine zr_iload2 X dX12_refusal_23 ?_
      refine zr_if_eq (tgt := 39) X dX12_refusal_24 (by decide) (fun h => absurd h (by decide)) (fun _ => ?_)
      refine zr_aload3 X dX12_refusal_27 ?_
      refine zr_getZ X zf_X12_73 rfl rfl (by decide) dX12_refusal_28 (fun hz6 => ?_)
      refine zr_eq (x2 := (sC S c9 1)) (hM.2.2.2.2.2 c9 (by omega) 1 (by decide)) ?_
      have hz6 : (sC S c9 1) = 0 ∨ (sC S c9 1) = 1 := hz6.imp (fun h => Eq.trans (Eq.symm (hM.2.2.2.2.2 c9 (by omega) 1 (by decide))) h) (fun h => Eq.trans (Eq.symm (hM.2.2.2.2.2 c9 (by omega) 1 (by decide))) h)
      refine zr_if_ne (tgt := 41) X dX12_refusal_31 (by decide) (fun _ => ?_) (fun h => absurd h (by assumption))
      refine zr_iload2 X dX12_refusal_41 ?_
      refine zr_if_ne (tgt := 56) X dX12_refusal_42 (by decide) (fun _ => ?_) (fun h => absurd h (by decide))
      refine zr_iconst (v := (0 : Int32)) X dX12_refusal_56 (by decide) ?_
      refine zr_iret X (by decide) (by decide) dX12_refusal_57 ?_
      have e9 : qRef S c9 1 = 0 := by
        clear k1
        rcases hb.1 with b1 | b1 <;> rcases hb.2 with b2 | b2 <;> simp_all [qRef, nI_0, nI_one]
      rw [e9] at k1; exact k1
  · skip
    refine zr_iconst (v := (1 : Int32)) X dX12_refusal_14 (by decide) ?_
    refine zr_iret X (by decide) (by decide) dX12_refusal_15 ?_
    have e9 : qRef S c9 1 = 1 := by
      clear k1
      rcases hb.1 with b1 | b1 <;> rcases hb.2 with b2 | b2 <;> simp_all [qRef, nI_0, nI_one]
    rw [e9] at k1; exact k1
abbrev zrm_X12_whyNot : Room := { frames := 2, cells := 0, slots := 0, locals := 45 }
set_option maxRecDepth 20000 in
theorem znone0_X12_whyNot {l : Launch} {D : va_G} {b0 : Nat} {tA : Nat → ClassId} {sa sv : Nat → Nat} {K : zKt} {I : zI} {Qp : zI → Option AV → Prop} {Xp : String → zI → Prop} {A : Nat → Nat} {n7 m7 g : Nat} {S : zS}
    (hS : zSh K A n7 m7) (hM : zSt I A n7 m7 S) (hW : zWf S) (hg : g < n7) (k1 : Qp I (some (vi (nI (qWhy S g 0 0))))) :
    zC l D b0 tA sa sv K yX12_whyNot (.code yX12_whyNot cX12_whyNot 4 (some .int)) zrm_X12_whyNot [vr (A (0)) 17, vi ((nI g)), vi ((0 : Int32)), vi ((-1 : Int32))] I Qp Xp := by
  have hA := hS.1
  have hn6 := hM.1.1
  have hm12 := hM.1.2
  have hgn := hM.ng
  have hcm := hM.nc
  have hlen := hW.len
  have hl9 := hlen g 0
  refine zC_of (by decide +kernel) (Nat.le_of_ble_eq_true rfl) ?_
  intro p e s m args below meth c X hnt
  have X : zX p l e zrm_X12_whyNot s m args below meth c RX12 cX12_whyNot 4 (some .int) D b0 tA sa sv := X
  refine zr_lv (lv2 := [some (vr (A (0)) 17), some (vi ((nI g))), some (vi ((0 : Int32))), some (vi ((-1 : Int32)))]) rfl ?_
  refine zr_aload0 X dX12_whyNot_0 ?_
  refine zr_getD (r := A (1)) X zf_X12_27 rfl (by decide) (hS.2.1.2.1) dX12_whyNot_1 ?_
  refine zr_iload1 X dX12_whyNot_4 ?_
  refine zr_aaldD (k := 20) (n := g) (r := A (4 + 5 * g)) X rfl (show _ < 6 from (by first | decide | omega)) ((hS.2.2.1 g (by omega)).1) dX12_whyNot_5 ?_
  refine zr_iload2 X dX12_whyNot_6 ?_
  refine zr_callV1 (rm9 := zrm_X9_serves) X hnt zm_X12_154 (by decide) (by decide) (by decide) (Nat.le_of_ble_eq_true rfl) dX12_whyNot_7 ?_
  refine zp0_X9_serves hS hM (by omega) ?_ ?_
  · skip
    intro hv1
    refine zr_if_ne (tgt := 15) X dX12_whyNot_10 (by decide) (fun _ => ?_) (fun h => absurd h (by decide))
    refine zr_aload0 X dX12_whyNot_15 ?_
    refine zr_getD (r := A (1)) X zf_X12_27 rfl (by decide) (hS.2.1.2.1) dX12_whyNot_16 ?_
    refine zr_iload1 X dX12_whyNot_19 ?_
    refine zr_aaldD (k := 20) (n := g) (r := A (4 + 5 * g)) X rfl (show _ < 6 from (by first | decide | omega)) ((hS.2.2.1 g (by omega)).1) dX12_whyNot_20 ?_
    refine zr_iload2 X dX12_whyNot_21 ?_
    refine zr_callV1 (rm9 := zrm_X9_line) X hnt zm_X12_94 (by decide) (by decide) (by decide) (Nat.le_of_ble_eq_true rfl) dX12_whyNot_22 ?_
    refine zp0_X9_line hS (by omega) ?_
    refine zr_getI X zf_X12_108 rfl dX12_whyNot_25 ?_
    refine zr_eq (x2 := (nI ((sL S g 0).length))) ((hM.2.2.2.2.1 g (by omega)).2.1.1) ?_
    refine zr_bipush (v := (10 : Int32)) X dX12_whyNot_28 (by decide) ?_
    refine zr_nicmp_ne X (((sL S g 0).length)) (10) (tgt := 35) (by omega) (by omega) dX12_whyNot_30 (by decide) (fun h2 => ?_) (fun h2 => ?_)
    · skip
      refine zr_aload0 X dX12_whyNot_35 ?_
      refine zr_iload3 X dX12_whyNot_36 ?_
      refine zr_callV1 (rm9 := zrm_X12_where) X hnt zm_X12_158 (by decide) (by decide) (by decide) (Nat.le_of_ble_eq_true rfl) dX12_whyNot_37 ?_
      refine zM_X12_where hS hM hW ?_
      refine zr_if_lt (tgt := 45) X dX12_whyNot_40 (by decide) (fun _ => ?_) (fun h => absurd h (by decide))
      refine zr_iload2 X dX12_whyNot_45 ?_
      refine zr_iconst (v := (1 : Int32)) X dX12_whyNot_46 (by decide) ?_
      refine zr_icmp_ne (tgt := 66) X dX12_whyNot_47 (by decide) (fun _ => ?_) (fun h => absurd h (by decide))
      refine zr_iconst (v := (0 : Int32)) X dX12_whyNot_66 (by decide) ?_
      refine zr_iret X (by decide) (by decide) dX12_whyNot_67 ?_
      have e9 : qWhy S g 0 0 = 0 := by unfold qWhy; rw [if_neg (fun z => z hv1), if_neg (by omega), if_neg (fun z => z.1 rfl), if_neg (fun z => absurd z.1 (by decide))]
      rw [e9] at k1; exact k1
    · skip
      refine zr_iconst (v := (2 : Int32)) X dX12_whyNot_33 (by decide) ?_
      refine zr_iret X (by decide) (by decide) dX12_whyNot_34 ?_
      have e9 : qWhy S g 0 0 = 2 := by unfold qWhy; rw [if_neg (fun z => z hv1), if_pos (by omega)]
      rw [e9] at k1; exact k1
  · skip
    intro hv1
    refine zr_if_ne (tgt := 15) X dX12_whyNot_10 (by decide) (fun h => absurd h (by decide)) (fun _ => ?_)
    refine zr_iconst (v := (1 : Int32)) X dX12_whyNot_13 (by decide) ?_
    refine zr_iret X (by decide) (by decide) dX12_whyNot_14 ?_
    have e9 : qWhy S g 0 0 = 1 := by unfold qWhy; rw [if_pos hv1]
    rw [e9] at k1; exact k1
set_option maxRecDepth 20000 in
theorem zok0_X12_whyNot {l : Launch} {D : va_G} {b0 : Nat} {tA : Nat → ClassId} {sa sv : Nat → Nat} {K : zKt} {I : zI} {Qp : zI → Option AV → Prop} {Xp : String → zI → Prop} {A : Nat → Nat} {n7 m7 g c9 : Nat} {S : zS}
    (hS : zSh K A n7 m7) (hM : zSt I A n7 m7 S) (hW : zWf S) (hg : g < n7) (hc : c9 < 12) (k1 : Qp I (some (vi (nI (qWhy S g 0 (c9 + 1)))))) :
    zC l D b0 tA sa sv K yX12_whyNot (.code yX12_whyNot cX12_whyNot 4 (some .int)) zrm_X12_whyNot [vr (A (0)) 17, vi ((nI g)), vi ((0 : Int32)), vi ((nI c9))] I Qp Xp := by
  have hA := hS.1
  have hn6 := hM.1.1
  have hm12 := hM.1.2
  have hgn := hM.ng
  have hcm := hM.nc
  have hlen := hW.len
  have hl9 := hlen g 0
  refine zC_of (by decide +kernel) (Nat.le_of_ble_eq_true rfl) ?_
  intro p e s m args below meth c X hnt
  have X : zX p l e zrm_X12_whyNot s m args below meth c RX12 cX12_whyNot 4 (some .int) D b0 tA sa sv := X
  refine zr_lv (lv2 := [some (vr (A (0)) 17), some (vi ((nI g))), some (vi ((0 : Int32))), some (vi ((nI c9)))]) rfl ?_
  refine zr_aload0 X dX12_whyNot_0 ?_
  refine zr_getD (r := A (1)) X zf_X12_27 rfl (by decide) (hS.2.1.2.1) dX12_whyNot_1 ?_
  refine zr_iload1 X dX12_whyNot_4 ?_
  refine zr_aaldD (k := 20) (n := g) (r := A (4 + 5 * g)) X rfl (show _ < 6 from (by first | decide | omega)) ((hS.2.2.1 g (by omega)).1) dX12_whyNot_5 ?_
  refine zr_iload2 X dX12_whyNot_6 ?_
  refine zr_callV1 (rm9 := zrm_X9_serves) X hnt zm_X12_154 (by decide) (by decide) (by decide) (Nat.le_of_ble_eq_true rfl) dX12_whyNot_7 ?_
  refine zp0_X9_serves hS hM (by omega) ?_ ?_
  · skip
    intro hv1
    refine zr_if_ne (tgt := 15) X dX12_whyNot_10 (by decide) (fun _ => ?_) (fun h => absurd h (by decide))
    refine zr_aload0 X dX12_whyNot_15 ?_
    refine zr_getD (r := A (1)) X zf_X12_27 rfl (by decide) (hS.2.1.2.1) dX12_whyNot_16 ?_
    refine zr_iload1 X dX12_whyNot_19 ?_
    refine zr_aaldD (k := 20) (n := g) (r := A (4 + 5 * g)) X rfl (show _ < 6 from (by first | decide | omega)) ((hS.2.2.1 g (by omega)).1) dX12_whyNot_20 ?_
    refine zr_iload2 X dX12_whyNot_21 ?_
    refine zr_callV1 (rm9 := zrm_X9_line) X hnt zm_X12_94 (by decide) (by decide) (by decide) (Nat.le_of_ble_eq_true rfl) dX12_whyNot_22 ?_
    refine zp0_X9_line hS (by omega) ?_
    refine zr_getI X zf_X12_108 rfl dX12_whyNot_25 ?_
    refine zr_eq (x2 := (nI ((sL S g 0).length))) ((hM.2.2.2.2.1 g (by omega)).2.1.1) ?_
    refine zr_bipush (v := (10 : Int32)) X dX12_whyNot_28 (by decide) ?_
    refine zr_nicmp_ne X (((sL S g 0).length)) (10) (tgt := 35) (by omega) (by omega) dX12_whyNot_30 (by decide) (fun h2 => ?_) (fun h2 => ?_)
    · skip
      refine zr_aload0 X dX12_whyNot_35 ?_
      refine zr_iload3 X dX12_whyNot_36 ?_
      refine zr_callV1 (rm9 := zrm_X12_where) X hnt zm_X12_158 (by decide) (by decide) (by decide) (Nat.le_of_ble_eq_true rfl) dX12_whyNot_37 ?_
      refine zp_X12_where (c9 := c9) hS hM hW (by omega) ?_ ?_
      · skip
        intro g3 sd4 p5 ha6; have := ha6.1; have := ha6.2.1; have := (qPos_at hW ha6).2
        refine zr_nif_lt X ((100 * g3 + 50 * sd4 + p5)) (tgt := 45) (by omega) dX12_whyNot_40 (by decide) (fun h => h.elim) (fun _ => ?_)
        refine zr_iconst (v := (3 : Int32)) X dX12_whyNot_43 (by decide) ?_
        refine zr_iret X (by decide) (by decide) dX12_whyNot_44 ?_
        have e9 : qWhy S g 0 (c9 + 1) = 3 := by unfold qWhy; rw [if_neg (fun z => z hv1), if_neg (by omega), if_pos ⟨Nat.succ_ne_zero _, qPos_ye hW ha6⟩]
        rw [e9] at k1; exact k1
      · skip
        intro hn7
        refine zr_if_lt (tgt := 45) X dX12_whyNot_40 (by decide) (fun _ => ?_) (fun h => absurd h (by decide))
        refine zr_iload2 X dX12_whyNot_45 ?_
        refine zr_iconst (v := (1 : Int32)) X dX12_whyNot_46 (by decide) ?_
        refine zr_icmp_ne (tgt := 66) X dX12_whyNot_47 (by decide) (fun _ => ?_) (fun h => absurd h (by decide))
        refine zr_iconst (v := (0 : Int32)) X dX12_whyNot_66 (by decide) ?_
        refine zr_iret X (by decide) (by decide) dX12_whyNot_67 ?_
        have e9 : qWhy S g 0 (c9 + 1) = 0 := by unfold qWhy; rw [if_neg (fun z => z hv1), if_neg (by omega), if_neg (fun z => z.2 (qPos_no hn7)), if_neg (fun z => absurd z.1 (by decide))]
        rw [e9] at k1; exact k1
    · skip
      refine zr_iconst (v := (2 : Int32)) X dX12_whyNot_33 (by decide) ?_
      refine zr_iret X (by decide) (by decide) dX12_whyNot_34 ?_
      have e9 : qWhy S g 0 (c9 + 1) = 2 := by unfold qWhy; rw [if_neg (fun z => z hv1), if_pos (by omega)]
      rw [e9] at k1; exact k1
  · skip
    intro hv1
    refine zr_if_ne (tgt := 15) X dX12_whyNot_10 (by decide) (fun h => absurd h (by decide)) (fun _ => ?_)
    refine zr_iconst (v := (1 : Int32)) X dX12_whyNot_13 (by decide) ?_
    refine zr_iret X (by decide) (by decide) dX12_whyNot_14 ?_
    have e9 : qWhy S g 0 (c9 + 1) = 1 := by unfold qWhy; rw [if_pos hv1]
    rw [e9] at k1; exact k1
set_option maxRecDepth 20000 in
theorem znone1_X12_whyNot {l : Launch} {D : va_G} {b0 : Nat} {tA : Nat → ClassId} {sa sv : Nat → Nat} {K : zKt} {I : zI} {Qp : zI → Option AV → Prop} {Xp : String → zI → Prop} {A : Nat → Nat} {n7 m7 g : Nat} {S : zS}
    (hS : zSh K A n7 m7) (hM : zSt I A n7 m7 S) (hW : zWf S) (hg : g < n7) (k1 : Qp I (some (vi (nI (qWhy S g 1 0))))) :
    zC l D b0 tA sa sv K yX12_whyNot (.code yX12_whyNot cX12_whyNot 4 (some .int)) zrm_X12_whyNot [vr (A (0)) 17, vi ((nI g)), vi ((1 : Int32)), vi ((-1 : Int32))] I Qp Xp := by
  have hA := hS.1
  have hn6 := hM.1.1
  have hm12 := hM.1.2
  have hgn := hM.ng
  have hcm := hM.nc
  have hlen := hW.len
  have hl9 := hlen g 1
  refine zC_of (by decide +kernel) (Nat.le_of_ble_eq_true rfl) ?_
  intro p e s m args below meth c X hnt
  have X : zX p l e zrm_X12_whyNot s m args below meth c RX12 cX12_whyNot 4 (some .int) D b0 tA sa sv := X
  refine zr_lv (lv2 := [some (vr (A (0)) 17), some (vi ((nI g))), some (vi ((1 : Int32))), some (vi ((-1 : Int32)))]) rfl ?_
  refine zr_aload0 X dX12_whyNot_0 ?_
  refine zr_getD (r := A (1)) X zf_X12_27 rfl (by decide) (hS.2.1.2.1) dX12_whyNot_1 ?_
  refine zr_iload1 X dX12_whyNot_4 ?_
  refine zr_aaldD (k := 20) (n := g) (r := A (4 + 5 * g)) X rfl (show _ < 6 from (by first | decide | omega)) ((hS.2.2.1 g (by omega)).1) dX12_whyNot_5 ?_
  refine zr_iload2 X dX12_whyNot_6 ?_
  refine zr_callV1 (rm9 := zrm_X9_serves) X hnt zm_X12_154 (by decide) (by decide) (by decide) (Nat.le_of_ble_eq_true rfl) dX12_whyNot_7 ?_
  refine zp1_X9_serves hS hM (by omega) ?_ ?_
  · skip
    intro hv1
    refine zr_if_ne (tgt := 15) X dX12_whyNot_10 (by decide) (fun _ => ?_) (fun h => absurd h (by decide))
    refine zr_aload0 X dX12_whyNot_15 ?_
    refine zr_getD (r := A (1)) X zf_X12_27 rfl (by decide) (hS.2.1.2.1) dX12_whyNot_16 ?_
    refine zr_iload1 X dX12_whyNot_19 ?_
    refine zr_aaldD (k := 20) (n := g) (r := A (4 + 5 * g)) X rfl (show _ < 6 from (by first | decide | omega)) ((hS.2.2.1 g (by omega)).1) dX12_whyNot_20 ?_
    refine zr_iload2 X dX12_whyNot_21 ?_
    refine zr_callV1 (rm9 := zrm_X9_line) X hnt zm_X12_94 (by decide) (by decide) (by decide) (Nat.le_of_ble_eq_true rfl) dX12_whyNot_22 ?_
    refine zp1_X9_line hS (by omega) ?_
    refine zr_getI X zf_X12_108 rfl dX12_whyNot_25 ?_
    refine zr_eq (x2 := (nI ((sL S g 1).length))) ((hM.2.2.2.2.1 g (by omega)).2.2.1) ?_
    refine zr_bipush (v := (10 : Int32)) X dX12_whyNot_28 (by decide) ?_
    refine zr_nicmp_ne X (((sL S g 1).length)) (10) (tgt := 35) (by omega) (by omega) dX12_whyNot_30 (by decide) (fun h2 => ?_) (fun h2 => ?_)
    · skip
      refine zr_aload0 X dX12_whyNot_35 ?_
      refine zr_iload3 X dX12_whyNot_36 ?_
      refine zr_callV1 (rm9 := zrm_X12_where) X hnt zm_X12_158 (by decide) (by decide) (by decide) (Nat.le_of_ble_eq_true rfl) dX12_whyNot_37 ?_
      refine zM_X12_where hS hM hW ?_
      refine zr_if_lt (tgt := 45) X dX12_whyNot_40 (by decide) (fun _ => ?_) (fun h => absurd h (by decide))
      refine zr_iload2 X dX12_whyNot_45 ?_
      refine zr_iconst (v := (1 : Int32)) X dX12_whyNot_46 (by decide) ?_
      refine zr_icmp_ne (tgt := 66) X dX12_whyNot_47 (by decide) (fun h => absurd h (by decide)) (fun _ => ?_)
      refine zr_aload0 X dX12_whyNot_50 ?_
      refine zr_iconst (v := (1 : Int32)) X dX12_whyNot_51 (by decide) ?_
      refine zr_callV1 (rm9 := zrm_X12_waiting) X hnt zm_X12_161 (by decide) (by decide) (by decide) (Nat.le_of_ble_eq_true rfl) dX12_whyNot_52 ?_
      refine zp1_X12_waiting hS hM hW ?_
      refine zr_aload0 X dX12_whyNot_55 ?_
      refine zr_getI X zf_X12_19 rfl dX12_whyNot_56 ?_
      refine zr_eq (x2 := (sX S 3)) (hM.2.2.1 3 (by decide) (by decide)) ?_
      refine zr_icmp_lt (tgt := 66) X dX12_whyNot_59 (by decide) (fun h3 => ?_) (fun h3 => ?_)
      · skip
        refine zr_iconst (v := (0 : Int32)) X dX12_whyNot_66 (by decide) ?_
        refine zr_iret X (by decide) (by decide) dX12_whyNot_67 ?_
        have e9 : qWhy S g 1 0 = 0 := by unfold qWhy; rw [if_neg (fun z => z hv1), if_neg (by omega), if_neg (fun z => z.1 rfl), if_neg (fun z => absurd z.2 (Int32.not_le.mpr h3))]
        rw [e9] at k1; exact k1
      · skip
        refine zr_iconst (v := (4 : Int32)) X dX12_whyNot_62 (by decide) ?_
        refine zr_goto (tgt := 67) X dX12_whyNot_63 (by decide) ?_
        refine zr_iret X (by decide) (by decide) dX12_whyNot_67 ?_
        have e9 : qWhy S g 1 0 = 4 := by unfold qWhy; rw [if_neg (fun z => z hv1), if_neg (by omega), if_neg (fun z => z.1 rfl), if_pos ⟨rfl, Int32.not_lt.mp h3⟩]
        rw [e9] at k1; exact k1
    · skip
      refine zr_iconst (v := (2 : Int32)) X dX12_whyNot_33 (by decide) ?_
      refine zr_iret X (by decide) (by decide) dX12_whyNot_34 ?_
      have e9 : qWhy S g 1 0 = 2 := by unfold qWhy; rw [if_neg (fun z => z hv1), if_pos (by omega)]
      rw [e9] at k1; exact k1
  · skip
    intro hv1
    refine zr_if_ne (tgt := 15) X dX12_whyNot_10 (by decide) (fun h => absurd h (by decide)) (fun _ => ?_)
    refine zr_iconst (v := (1 : Int32)) X dX12_whyNot_13 (by decide) ?_
    refine zr_iret X (by decide) (by decide) dX12_whyNot_14 ?_
    have e9 : qWhy S g 1 0 = 1 := by unfold qWhy; rw [if_pos hv1]
    rw [e9] at k1; exact k1
set_option maxRecDepth 20000 in
theorem zok1_X12_whyNot {l : Launch} {D : va_G} {b0 : Nat} {tA : Nat → ClassId} {sa sv : Nat → Nat} {K : zKt} {I : zI} {Qp : zI → Option AV → Prop} {Xp : String → zI → Prop} {A : Nat → Nat} {n7 m7 g c9 : Nat} {S : zS}
    (hS : zSh K A n7 m7) (hM : zSt I A n7 m7 S) (hW : zWf S) (hg : g < n7) (hc : c9 < 12) (k1 : Qp I (some (vi (nI (qWhy S g 1 (c9 + 1)))))) :
    zC l D b0 tA sa sv K yX12_whyNot (.code yX12_whyNot cX12_whyNot 4 (some .int)) zrm_X12_whyNot [vr (A (0)) 17, vi ((nI g)), vi ((1 : Int32)), vi ((nI c9))] I Qp Xp := by
  have hA := hS.1
  have hn6 := hM.1.1
  have hm12 := hM.1.2
  have hgn := hM.ng
  have hcm := hM.nc
  have hlen := hW.len
  have hl9 := hlen g 1
  refine zC_of (by decide +kernel) (Nat.le_of_ble_eq_true rfl) ?_
  intro p e s m args below meth c X hnt
  have X : zX p l e zrm_X12_whyNot s m args below meth c RX12 cX12_whyNot 4 (some .int) D b0 tA sa sv := X
  refine zr_lv (lv2 := [some (vr (A (0)) 17), some (vi ((nI g))), some (vi ((1 : Int32))), some (vi ((nI c9)))]) rfl ?_
  refine zr_aload0 X dX12_whyNot_0 ?_
  refine zr_getD (r := A (1)) X zf_X12_27 rfl (by decide) (hS.2.1.2.1) dX12_whyNot_1 ?_
  refine zr_iload1 X dX12_whyNot_4 ?_
  refine zr_aaldD (k := 20) (n := g) (r := A (4 + 5 * g)) X rfl (show _ < 6 from (by first | decide | omega)) ((hS.2.2.1 g (by omega)).1) dX12_whyNot_5 ?_
  refine zr_iload2 X dX12_whyNot_6 ?_
  refine zr_callV1 (rm9 := zrm_X9_serves) X hnt zm_X12_154 (by decide) (by decide) (by decide) (Nat.le_of_ble_eq_true rfl) dX12_whyNot_7 ?_
  refine zp1_X9_serves hS hM (by omega) ?_ ?_
  · skip
    intro hv1
    refine zr_if_ne (tgt := 15) X dX12_whyNot_10 (by decide) (fun _ => ?_) (fun h => absurd h (by decide))
    refine zr_aload0 X dX12_whyNot_15 ?_
    refine zr_getD (r := A (1)) X zf_X12_27 rfl (by decide) (hS.2.1.2.1) dX12_whyNot_16 ?_
    refine zr_iload1 X dX12_whyNot_19 ?_
    refine zr_aaldD (k := 20) (n := g) (r := A (4 + 5 * g)) X rfl (show _ < 6 from (by first | decide | omega)) ((hS.2.2.1 g (by omega)).1) dX12_whyNot_20 ?_
    refine zr_iload2 X dX12_whyNot_21 ?_
    refine zr_callV1 (rm9 := zrm_X9_line) X hnt zm_X12_94 (by decide) (by decide) (by decide) (Nat.le_of_ble_eq_true rfl) dX12_whyNot_22 ?_
    refine zp1_X9_line hS (by omega) ?_
    refine zr_getI X zf_X12_108 rfl dX12_whyNot_25 ?_
    refine zr_eq (x2 := (nI ((sL S g 1).length))) ((hM.2.2.2.2.1 g (by omega)).2.2.1) ?_
    refine zr_bipush (v := (10 : Int32)) X dX12_whyNot_28 (by decide) ?_
    refine zr_nicmp_ne X (((sL S g 1).length)) (10) (tgt := 35) (by omega) (by omega) dX12_whyNot_30 (by decide) (fun h2 => ?_) (fun h2 => ?_)
    · skip
      refine zr_aload0 X dX12_whyNot_35 ?_
      refine zr_iload3 X dX12_whyNot_36 ?_
      refine zr_callV1 (rm9 := zrm_X12_where) X hnt zm_X12_158 (by decide) (by decide) (by decide) (Nat.le_of_ble_eq_true rfl) dX12_whyNot_37 ?_
      refine zp_X12_where (c9 := c9) hS hM hW (by omega) ?_ ?_
      · skip
        intro g3 sd4 p5 ha6; have := ha6.1; have := ha6.2.1; have := (qPos_at hW ha6).2
        refine zr_nif_lt X ((100 * g3 + 50 * sd4 + p5)) (tgt := 45) (by omega) dX12_whyNot_40 (by decide) (fun h => h.elim) (fun _ => ?_)
        refine zr_iconst (v := (3 : Int32)) X dX12_whyNot_43 (by decide) ?_
        refine zr_iret X (by decide) (by decide) dX12_whyNot_44 ?_
        have e9 : qWhy S g 1 (c9 + 1) = 3 := by unfold qWhy; rw [if_neg (fun z => z hv1), if_neg (by omega), if_pos ⟨Nat.succ_ne_zero _, qPos_ye hW ha6⟩]
        rw [e9] at k1; exact k1
      · skip
        intro hn7
        refine zr_if_lt (tgt := 45) X dX12_whyNot_40 (by decide) (fun _ => ?_) (fun h => absurd h (by decide))
        refine zr_iload2 X dX12_whyNot_45 ?_
        refine zr_iconst (v := (1 : Int32)) X dX12_whyNot_46 (by decide) ?_
        refine zr_icmp_ne (tgt := 66) X dX12_whyNot_47 (by decide) (fun h => absurd h (by decide)) (fun _ => ?_)
        refine zr_aload0 X dX12_whyNot_50 ?_
        refine zr_iconst (v := (1 : Int32)) X dX12_whyNot_51 (by decide) ?_
        refine zr_callV1 (rm9 := zrm_X12_waiting) X hnt zm_X12_161 (by decide) (by decide) (by decide) (Nat.le_of_ble_eq_true rfl) dX12_whyNot_52 ?_
        refine zp1_X12_waiting hS hM hW ?_
        refine zr_aload0 X dX12_whyNot_55 ?_
        refine zr_getI X zf_X12_19 rfl dX12_whyNot_56 ?_
        refine zr_eq (x2 := (sX S 3)) (hM.2.2.1 3 (by decide) (by decide)) ?_
        refine zr_icmp_lt (tgt := 66) X dX12_whyNot_59 (by decide) (fun h9 => ?_) (fun h9 => ?_)
        · skip
          refine zr_iconst (v := (0 : Int32)) X dX12_whyNot_66 (by decide) ?_
          refine zr_iret X (by decide) (by decide) dX12_whyNot_67 ?_
          have e9 : qWhy S g 1 (c9 + 1) = 0 := by unfold qWhy; rw [if_neg (fun z => z hv1), if_neg (by omega), if_neg (fun z => z.2 (qPos_no hn7)), if_neg (fun z => absurd z.2 (Int32.not_le.mpr h9))]
          rw [e9] at k1; exact k1
        · skip
          refine zr_iconst (v := (4 : Int32)) X dX12_whyNot_62 (by decide) ?_
          refine zr_goto (tgt := 67) X dX12_whyNot_63 (by decide) ?_
          refine zr_iret X (by decide) (by decide) dX12_whyNot_67 ?_
          have e9 : qWhy S g 1 (c9 + 1) = 4 := by unfold qWhy; rw [if_neg (fun z => z hv1), if_neg (by omega), if_neg (fun z => z.2 (qPos_no hn7)), if_pos ⟨rfl, Int32.not_lt.mp h9⟩]
          rw [e9] at k1; exact k1
    · skip
      refine zr_iconst (v := (2 : Int32)) X dX12_whyNot_33 (by decide) ?_
      refine zr_iret X (by decide) (by decide) dX12_whyNot_34 ?_
      have e9 : qWhy S g 1 (c9 + 1) = 2 := by unfold qWhy; rw [if_neg (fun z => z hv1), if_pos (by omega)]
      rw [e9] at k1; exact k1
  · skip
    intro hv1
    refine zr_if_ne (tgt := 15) X dX12_whyNot_10 (by decide) (fun h => absurd h (by decide)) (fun _ => ?_)
    refine zr_iconst (v := (1 : Int32)) X dX12_whyNot_13 (by decide) ?_
    refine zr_iret X (by decide) (by decide) dX12_whyNot_14 ?_
    have e9 : qWhy S g 1 (c9 + 1) = 1 := by unfold qWhy; rw [if_pos hv1]
    rw [e9] at k1; exact k1
theorem zopen_iff {S : zS} {g : Nat} (hP : zPad S g) : sG S g 1 ≤ 0 ↔ sG S g 2 = 0 := by
  obtain ⟨-, -, ⟨h1, h2, -⟩ | ⟨o, o1, o2, o3, h⟩⟩ := hP
  · rw [h1, h2]; exact ⟨fun _ => rfl, fun _ => by decide⟩
  · constructor
    · intro z
      rw [o3] at z
      have := (nI_leI (a := o) (b := 0) (by omega) (by decide)).mp z
      omega
    · intro z
      rcases h with ⟨h, -⟩ | ⟨h, -⟩ <;> rw [h] at z <;> exact absurd z (by decide)
abbrev zrm_X12_told : Room := { frames := 2, cells := 0, slots := 0, locals := 44 }
set_option maxRecDepth 20000 in
theorem zl0_X12_told {l : Launch} {D : va_G} {b0 : Nat} {tA : Nat → ClassId} {sa sv : Nat → Nat} {K : zKt} {I : zI} {Qp : zI → Option AV → Prop} {Xp : String → zI → Prop} {p : Program} {e : Env} {s : State} {m : MethodId} {args : Array Value} {below : List Frame} {meth : Method} {c : Code} {A : Nat → Nat} {n7 m7 : Nat} {S : zS}
    (X : zX p l e zrm_X12_told s m args below meth c RX12 cX12_told 4 (some .int) D b0 tA sa sv) (hnt : ∀ x ∈ c.exceptionTable.toList, False) (hS : zSh K A n7 m7) (hM : zSt I A n7 m7 S) (hW : zWf S) (k1 : Qp I (some (vi (qState S 0)))) :
    ∀ (n : Nat) (j v : Nat), j ≤ n7 → v = nsum (fun g => if sG S g 2 = 0 then 0 else 1) j → n7 - j < n → zG p l e zrm_X12_told s m args below meth c 4 D b0 tA sa 0 0 (zQ below D b0 tA sa K args s zrm_X12_told Qp Xp) K 4 [some (vr (A (0)) 17), some (vi ((0 : Int32))), some (vi ((nI v))), some (vi ((nI j)))] [] I := by
  intro n
  induction n with
  | zero => intro j v i1 i2 i3; exact absurd i3 (Nat.not_lt_zero _)
  | succ n ih =>
    intro j v i1 i2 i3
    have hA := hS.1
    have hn6 := hM.1.1
    have hm12 := hM.1.2
    have hgn := hM.ng
    have hcm := hM.nc
    have hlen := hW.len
    have hv9 : v ≤ 6 := by rw [i2]; have := nsum_le (f := (fun g => if sG S g 2 = 0 then 0 else 1)) (b := 1) (fun i => by split <;> omega) j; omega
    have hi9 : qInner S ≤ 60 := nsum_le (f := fun g => (sL S g 1).length) (b := 10) (fun i => hW.len i 1) 6
    have hi8 : nsum (fun g => (sL S g 0).length) 6 ≤ 60 := nsum_le (b := 10) (fun i => hW.len i 0) 6
    refine zr_iload3 X dX12_told_4 ?_
    refine zr_aload0 X dX12_told_5 ?_
    refine zr_getI X zf_X12_22 rfl dX12_told_6 ?_
    refine zr_eq (x2 := (nI n7)) ((hM.2.2.1 4 (by decide) (by decide)).trans hM.2.1.1) ?_
    refine zr_nicmp_ge X (j) (n7) (tgt := 33) (by omega) (by omega) dX12_told_9 (by decide) (fun h1 => ?_) (fun h1 => ?_)
    · skip
      refine zr_iload1 X dX12_told_33 ?_
      refine zr_tblIn (off := 74) (tgt := 108) X dX12_told_34 (by decide) (by decide) (by decide) (by decide) ?_
      refine zr_aload0 X dX12_told_108 ?_
      refine zr_getI X zf_X12_22 rfl dX12_told_109 ?_
      refine zr_eq (x2 := (nI n7)) ((hM.2.2.1 4 (by decide) (by decide)).trans hM.2.1.1) ?_
      refine zr_iret X (by decide) (by decide) dX12_told_112 ?_
      rw [show qState S 0 = nI n7 from hM.2.1.1] at k1; exact k1
    · skip
      refine zr_aload0 X dX12_told_12 ?_
      refine zr_getD (r := A (1)) X zf_X12_27 rfl (by decide) (hS.2.1.2.1) dX12_told_13 ?_
      refine zr_iload3 X dX12_told_16 ?_
      refine zr_aaldD (k := 20) (n := j) (r := A (4 + 5 * j)) X rfl (show _ < 6 from (by first | decide | omega)) ((hS.2.2.1 j (by omega)).1) dX12_told_17 ?_
      refine zr_getI X zf_X12_113 rfl dX12_told_18 ?_
      refine zr_eq (x2 := (sG S j 1)) ((hM.2.2.2.2.1 j (by omega)).1 1 (by decide)) ?_
      refine zr_if_le (tgt := 27) X dX12_told_21 (by decide) (fun h2 => ?_) (fun h2 => ?_)
      · skip
        refine zr_iinc3 (v := (nI (j + 1))) X (show nI (j) + Int32.ofInt 1 = nI (j + 1) from nI_1 (j)) (by decide) rfl dX12_told_27 ?_
        refine zr_goto (tgt := 4) X dX12_told_30 (by decide) ?_
        exact ih (j + 1) _ (by omega) (by rw [i2, nsum, if_pos ((zopen_iff (hW.pad j)).mp h2), Nat.add_zero]) (by omega)
      · skip
        refine zr_iinc2 (v := (nI (v + 1))) X (show nI (v) + Int32.ofInt 1 = nI (v + 1) from nI_1 (v)) (by decide) rfl dX12_told_24 ?_
        refine zr_iinc3 (v := (nI (j + 1))) X (show nI (j) + Int32.ofInt 1 = nI (j + 1) from nI_1 (j)) (by decide) rfl dX12_told_27 ?_
        refine zr_goto (tgt := 4) X dX12_told_30 (by decide) ?_
        exact ih (j + 1) _ (by omega) (by rw [i2, nsum, if_neg (fun z => h2 ((zopen_iff (hW.pad j)).mpr z))]) (by omega)
set_option maxRecDepth 20000 in
theorem zp0_X12_told {l : Launch} {D : va_G} {b0 : Nat} {tA : Nat → ClassId} {sa sv : Nat → Nat} {K : zKt} {I : zI} {Qp : zI → Option AV → Prop} {Xp : String → zI → Prop} {A : Nat → Nat} {n7 m7 : Nat} {S : zS}
    (hS : zSh K A n7 m7) (hM : zSt I A n7 m7 S) (hW : zWf S) (k1 : Qp I (some (vi (qState S 0)))) :
    zC l D b0 tA sa sv K yX12_told (.code yX12_told cX12_told 4 (some .int)) zrm_X12_told [vr (A (0)) 17, vi ((0 : Int32))] I Qp Xp := by
  have hA := hS.1
  have hn6 := hM.1.1
  have hm12 := hM.1.2
  have hgn := hM.ng
  have hcm := hM.nc
  have hlen := hW.len
  refine zC_of (by decide +kernel) (Nat.le_of_ble_eq_true rfl) ?_
  intro p e s m args below meth c X hnt
  have X : zX p l e zrm_X12_told s m args below meth c RX12 cX12_told 4 (some .int) D b0 tA sa sv := X
  refine zr_lv (lv2 := [some (vr (A (0)) 17), some (vi ((0 : Int32))), none, none]) rfl ?_
  refine zr_iconst (v := (0 : Int32)) X dX12_told_0 (by decide) ?_
  refine zr_istore2 X (by decide) rfl dX12_told_1 ?_
  refine zr_iconst (v := (0 : Int32)) X dX12_told_2 (by decide) ?_
  refine zr_istore3 X (by decide) rfl dX12_told_3 ?_
  exact zl0_X12_told X hnt hS hM hW k1 (n7 + 1) 0 0 (by omega) rfl (by omega)
set_option maxRecDepth 20000 in
theorem zl1_X12_told {l : Launch} {D : va_G} {b0 : Nat} {tA : Nat → ClassId} {sa sv : Nat → Nat} {K : zKt} {I : zI} {Qp : zI → Option AV → Prop} {Xp : String → zI → Prop} {p : Program} {e : Env} {s : State} {m : MethodId} {args : Array Value} {below : List Frame} {meth : Method} {c : Code} {A : Nat → Nat} {n7 m7 : Nat} {S : zS}
    (X : zX p l e zrm_X12_told s m args below meth c RX12 cX12_told 4 (some .int) D b0 tA sa sv) (hnt : ∀ x ∈ c.exceptionTable.toList, False) (hS : zSh K A n7 m7) (hM : zSt I A n7 m7 S) (hW : zWf S) (k1 : Qp I (some (vi (qState S 1)))) :
    ∀ (n : Nat) (j v : Nat), j ≤ n7 → v = nsum (fun g => if sG S g 2 = 0 then 0 else 1) j → n7 - j < n → zG p l e zrm_X12_told s m args below meth c 4 D b0 tA sa 0 0 (zQ below D b0 tA sa K args s zrm_X12_told Qp Xp) K 4 [some (vr (A (0)) 17), some (vi ((1 : Int32))), some (vi ((nI v))), some (vi ((nI j)))] [] I := by
  intro n
  induction n with
  | zero => intro j v i1 i2 i3; exact absurd i3 (Nat.not_lt_zero _)
  | succ n ih =>
    intro j v i1 i2 i3
    have hA := hS.1
    have hn6 := hM.1.1
    have hm12 := hM.1.2
    have hgn := hM.ng
    have hcm := hM.nc
    have hlen := hW.len
    have hv9 : v ≤ 6 := by rw [i2]; have := nsum_le (f := (fun g => if sG S g 2 = 0 then 0 else 1)) (b := 1) (fun i => by split <;> omega) j; omega
    have hi9 : qInner S ≤ 60 := nsum_le (f := fun g => (sL S g 1).length) (b := 10) (fun i => hW.len i 1) 6
    have hi8 : nsum (fun g => (sL S g 0).length) 6 ≤ 60 := nsum_le (b := 10) (fun i => hW.len i 0) 6
    refine zr_iload3 X dX12_told_4 ?_
    refine zr_aload0 X dX12_told_5 ?_
    refine zr_getI X zf_X12_22 rfl dX12_told_6 ?_
    refine zr_eq (x2 := (nI n7)) ((hM.2.2.1 4 (by decide) (by decide)).trans hM.2.1.1) ?_
    refine zr_nicmp_ge X (j) (n7) (tgt := 33) (by omega) (by omega) dX12_told_9 (by decide) (fun h1 => ?_) (fun h1 => ?_)
    · skip
      refine zr_iload1 X dX12_told_33 ?_
      refine zr_tblIn (off := 79) (tgt := 113) X dX12_told_34 (by decide) (by decide) (by decide) (by decide) ?_
      refine zr_aload0 X dX12_told_113 ?_
      refine zr_getI X zf_X12_31 rfl dX12_told_114 ?_
      refine zr_eq (x2 := (nI m7)) ((hM.2.2.1 5 (by decide) (by decide)).trans hM.2.1.2) ?_
      refine zr_iret X (by decide) (by decide) dX12_told_117 ?_
      rw [show qState S 1 = nI m7 from hM.2.1.2] at k1; exact k1
    · skip
      refine zr_aload0 X dX12_told_12 ?_
      refine zr_getD (r := A (1)) X zf_X12_27 rfl (by decide) (hS.2.1.2.1) dX12_told_13 ?_
      refine zr_iload3 X dX12_told_16 ?_
      refine zr_aaldD (k := 20) (n := j) (r := A (4 + 5 * j)) X rfl (show _ < 6 from (by first | decide | omega)) ((hS.2.2.1 j (by omega)).1) dX12_told_17 ?_
      refine zr_getI X zf_X12_113 rfl dX12_told_18 ?_
      refine zr_eq (x2 := (sG S j 1)) ((hM.2.2.2.2.1 j (by omega)).1 1 (by decide)) ?_
      refine zr_if_le (tgt := 27) X dX12_told_21 (by decide) (fun h2 => ?_) (fun h2 => ?_)
      · skip
        refine zr_iinc3 (v := (nI (j + 1))) X (show nI (j) + Int32.ofInt 1 = nI (j + 1) from nI_1 (j)) (by decide) rfl dX12_told_27 ?_
        refine zr_goto (tgt := 4) X dX12_told_30 (by decide) ?_
        exact ih (j + 1) _ (by omega) (by rw [i2, nsum, if_pos ((zopen_iff (hW.pad j)).mp h2), Nat.add_zero]) (by omega)
      · skip
        refine zr_iinc2 (v := (nI (v + 1))) X (show nI (v) + Int32.ofInt 1 = nI (v + 1) from nI_1 (v)) (by decide) rfl dX12_told_24 ?_
        refine zr_iinc3 (v := (nI (j + 1))) X (show nI (j) + Int32.ofInt 1 = nI (j + 1) from nI_1 (j)) (by decide) rfl dX12_told_27 ?_
        refine zr_goto (tgt := 4) X dX12_told_30 (by decide) ?_
        exact ih (j + 1) _ (by omega) (by rw [i2, nsum, if_neg (fun z => h2 ((zopen_iff (hW.pad j)).mpr z))]) (by omega)
set_option maxRecDepth 20000 in
theorem zp1_X12_told {l : Launch} {D : va_G} {b0 : Nat} {tA : Nat → ClassId} {sa sv : Nat → Nat} {K : zKt} {I : zI} {Qp : zI → Option AV → Prop} {Xp : String → zI → Prop} {A : Nat → Nat} {n7 m7 : Nat} {S : zS}
    (hS : zSh K A n7 m7) (hM : zSt I A n7 m7 S) (hW : zWf S) (k1 : Qp I (some (vi (qState S 1)))) :
    zC l D b0 tA sa sv K yX12_told (.code yX12_told cX12_told 4 (some .int)) zrm_X12_told [vr (A (0)) 17, vi ((1 : Int32))] I Qp Xp := by
  have hA := hS.1
  have hn6 := hM.1.1
  have hm12 := hM.1.2
  have hgn := hM.ng
  have hcm := hM.nc
  have hlen := hW.len
  refine zC_of (by decide +kernel) (Nat.le_of_ble_eq_true rfl) ?_
  intro p e s m args below meth c X hnt
  have X : zX p l e zrm_X12_told s m args below meth c RX12 cX12_told 4 (some .int) D b0 tA sa sv := X
  refine zr_lv (lv2 := [some (vr (A (0)) 17), some (vi ((1 : Int32))), none, none]) rfl ?_
  refine zr_iconst (v := (0 : Int32)) X dX12_told_0 (by decide) ?_
  refine zr_istore2 X (by decide) rfl dX12_told_1 ?_
  refine zr_iconst (v := (0 : Int32)) X dX12_told_2 (by decide) ?_
  refine zr_istore3 X (by decide) rfl dX12_told_3 ?_
  exact zl1_X12_told X hnt hS hM hW k1 (n7 + 1) 0 0 (by omega) rfl (by omega)
set_option maxRecDepth 20000 in
theorem zl2_X12_told {l : Launch} {D : va_G} {b0 : Nat} {tA : Nat → ClassId} {sa sv : Nat → Nat} {K : zKt} {I : zI} {Qp : zI → Option AV → Prop} {Xp : String → zI → Prop} {p : Program} {e : Env} {s : State} {m : MethodId} {args : Array Value} {below : List Frame} {meth : Method} {c : Code} {A : Nat → Nat} {n7 m7 : Nat} {S : zS}
    (X : zX p l e zrm_X12_told s m args below meth c RX12 cX12_told 4 (some .int) D b0 tA sa sv) (hnt : ∀ x ∈ c.exceptionTable.toList, False) (hS : zSh K A n7 m7) (hM : zSt I A n7 m7 S) (hW : zWf S) (k1 : Qp I (some (vi (qState S 2)))) :
    ∀ (n : Nat) (j v : Nat), j ≤ n7 → v = nsum (fun g => if sG S g 2 = 0 then 0 else 1) j → n7 - j < n → zG p l e zrm_X12_told s m args below meth c 4 D b0 tA sa 0 0 (zQ below D b0 tA sa K args s zrm_X12_told Qp Xp) K 4 [some (vr (A (0)) 17), some (vi ((2 : Int32))), some (vi ((nI v))), some (vi ((nI j)))] [] I := by
  intro n
  induction n with
  | zero => intro j v i1 i2 i3; exact absurd i3 (Nat.not_lt_zero _)
  | succ n ih =>
    intro j v i1 i2 i3
    have hA := hS.1
    have hn6 := hM.1.1
    have hm12 := hM.1.2
    have hgn := hM.ng
    have hcm := hM.nc
    have hlen := hW.len
    have hv9 : v ≤ 6 := by rw [i2]; have := nsum_le (f := (fun g => if sG S g 2 = 0 then 0 else 1)) (b := 1) (fun i => by split <;> omega) j; omega
    have hi9 : qInner S ≤ 60 := nsum_le (f := fun g => (sL S g 1).length) (b := 10) (fun i => hW.len i 1) 6
    have hi8 : nsum (fun g => (sL S g 0).length) 6 ≤ 60 := nsum_le (b := 10) (fun i => hW.len i 0) 6
    refine zr_iload3 X dX12_told_4 ?_
    refine zr_aload0 X dX12_told_5 ?_
    refine zr_getI X zf_X12_22 rfl dX12_told_6 ?_
    refine zr_eq (x2 := (nI n7)) ((hM.2.2.1 4 (by decide) (by decide)).trans hM.2.1.1) ?_
    refine zr_nicmp_ge X (j) (n7) (tgt := 33) (by omega) (by omega) dX12_told_9 (by decide) (fun h1 => ?_) (fun h1 => ?_)
    · skip
      refine zr_iload1 X dX12_told_33 ?_
      refine zr_tblIn (off := 84) (tgt := 118) X dX12_told_34 (by decide) (by decide) (by decide) (by decide) ?_
      refine zr_aload0 X dX12_told_118 ?_
      refine zr_getI X zf_X12_7 rfl dX12_told_119 ?_
      refine zr_eq (x2 := (sX S 0)) (hM.2.2.1 0 (by decide) (by decide)) ?_
      refine zr_iret X (by decide) (by decide) dX12_told_122 ?_
      exact k1
    · skip
      refine zr_aload0 X dX12_told_12 ?_
      refine zr_getD (r := A (1)) X zf_X12_27 rfl (by decide) (hS.2.1.2.1) dX12_told_13 ?_
      refine zr_iload3 X dX12_told_16 ?_
      refine zr_aaldD (k := 20) (n := j) (r := A (4 + 5 * j)) X rfl (show _ < 6 from (by first | decide | omega)) ((hS.2.2.1 j (by omega)).1) dX12_told_17 ?_
      refine zr_getI X zf_X12_113 rfl dX12_told_18 ?_
      refine zr_eq (x2 := (sG S j 1)) ((hM.2.2.2.2.1 j (by omega)).1 1 (by decide)) ?_
      refine zr_if_le (tgt := 27) X dX12_told_21 (by decide) (fun h2 => ?_) (fun h2 => ?_)
      · skip
        refine zr_iinc3 (v := (nI (j + 1))) X (show nI (j) + Int32.ofInt 1 = nI (j + 1) from nI_1 (j)) (by decide) rfl dX12_told_27 ?_
        refine zr_goto (tgt := 4) X dX12_told_30 (by decide) ?_
        exact ih (j + 1) _ (by omega) (by rw [i2, nsum, if_pos ((zopen_iff (hW.pad j)).mp h2), Nat.add_zero]) (by omega)
      · skip
        refine zr_iinc2 (v := (nI (v + 1))) X (show nI (v) + Int32.ofInt 1 = nI (v + 1) from nI_1 (v)) (by decide) rfl dX12_told_24 ?_
        refine zr_iinc3 (v := (nI (j + 1))) X (show nI (j) + Int32.ofInt 1 = nI (j + 1) from nI_1 (j)) (by decide) rfl dX12_told_27 ?_
        refine zr_goto (tgt := 4) X dX12_told_30 (by decide) ?_
        exact ih (j + 1) _ (by omega) (by rw [i2, nsum, if_neg (fun z => h2 ((zopen_iff (hW.pad j)).mpr z))]) (by omega)
set_option maxRecDepth 20000 in
theorem zp2_X12_told {l : Launch} {D : va_G} {b0 : Nat} {tA : Nat → ClassId} {sa sv : Nat → Nat} {K : zKt} {I : zI} {Qp : zI → Option AV → Prop} {Xp : String → zI → Prop} {A : Nat → Nat} {n7 m7 : Nat} {S : zS}
    (hS : zSh K A n7 m7) (hM : zSt I A n7 m7 S) (hW : zWf S) (k1 : Qp I (some (vi (qState S 2)))) :
    zC l D b0 tA sa sv K yX12_told (.code yX12_told cX12_told 4 (some .int)) zrm_X12_told [vr (A (0)) 17, vi ((2 : Int32))] I Qp Xp := by
  have hA := hS.1
  have hn6 := hM.1.1
  have hm12 := hM.1.2
  have hgn := hM.ng
  have hcm := hM.nc
  have hlen := hW.len
  refine zC_of (by decide +kernel) (Nat.le_of_ble_eq_true rfl) ?_
  intro p e s m args below meth c X hnt
  have X : zX p l e zrm_X12_told s m args below meth c RX12 cX12_told 4 (some .int) D b0 tA sa sv := X
  refine zr_lv (lv2 := [some (vr (A (0)) 17), some (vi ((2 : Int32))), none, none]) rfl ?_
  refine zr_iconst (v := (0 : Int32)) X dX12_told_0 (by decide) ?_
  refine zr_istore2 X (by decide) rfl dX12_told_1 ?_
  refine zr_iconst (v := (0 : Int32)) X dX12_told_2 (by decide) ?_
  refine zr_istore3 X (by decide) rfl dX12_told_3 ?_
  exact zl2_X12_told X hnt hS hM hW k1 (n7 + 1) 0 0 (by omega) rfl (by omega)
set_option maxRecDepth 20000 in
theorem zl3_X12_told {l : Launch} {D : va_G} {b0 : Nat} {tA : Nat → ClassId} {sa sv : Nat → Nat} {K : zKt} {I : zI} {Qp : zI → Option AV → Prop} {Xp : String → zI → Prop} {p : Program} {e : Env} {s : State} {m : MethodId} {args : Array Value} {below : List Frame} {meth : Method} {c : Code} {A : Nat → Nat} {n7 m7 : Nat} {S : zS}
    (X : zX p l e zrm_X12_told s m args below meth c RX12 cX12_told 4 (some .int) D b0 tA sa sv) (hnt : ∀ x ∈ c.exceptionTable.toList, False) (hS : zSh K A n7 m7) (hM : zSt I A n7 m7 S) (hW : zWf S) (k1 : Qp I (some (vi (qState S 3)))) :
    ∀ (n : Nat) (j v : Nat), j ≤ n7 → v = nsum (fun g => if sG S g 2 = 0 then 0 else 1) j → n7 - j < n → zG p l e zrm_X12_told s m args below meth c 4 D b0 tA sa 0 0 (zQ below D b0 tA sa K args s zrm_X12_told Qp Xp) K 4 [some (vr (A (0)) 17), some (vi ((3 : Int32))), some (vi ((nI v))), some (vi ((nI j)))] [] I := by
  intro n
  induction n with
  | zero => intro j v i1 i2 i3; exact absurd i3 (Nat.not_lt_zero _)
  | succ n ih =>
    intro j v i1 i2 i3
    have hA := hS.1
    have hn6 := hM.1.1
    have hm12 := hM.1.2
    have hgn := hM.ng
    have hcm := hM.nc
    have hlen := hW.len
    have hv9 : v ≤ 6 := by rw [i2]; have := nsum_le (f := (fun g => if sG S g 2 = 0 then 0 else 1)) (b := 1) (fun i => by split <;> omega) j; omega
    have hi9 : qInner S ≤ 60 := nsum_le (f := fun g => (sL S g 1).length) (b := 10) (fun i => hW.len i 1) 6
    have hi8 : nsum (fun g => (sL S g 0).length) 6 ≤ 60 := nsum_le (b := 10) (fun i => hW.len i 0) 6
    refine zr_iload3 X dX12_told_4 ?_
    refine zr_aload0 X dX12_told_5 ?_
    refine zr_getI X zf_X12_22 rfl dX12_told_6 ?_
    refine zr_eq (x2 := (nI n7)) ((hM.2.2.1 4 (by decide) (by decide)).trans hM.2.1.1) ?_
    refine zr_nicmp_ge X (j) (n7) (tgt := 33) (by omega) (by omega) dX12_told_9 (by decide) (fun h1 => ?_) (fun h1 => ?_)
    · skip
      refine zr_iload1 X dX12_told_33 ?_
      refine zr_tblIn (off := 89) (tgt := 123) X dX12_told_34 (by decide) (by decide) (by decide) (by decide) ?_
      refine zr_aload0 X dX12_told_123 ?_
      refine zr_getI X zf_X12_13 rfl dX12_told_124 ?_
      refine zr_eq (x2 := (sX S 1)) (hM.2.2.1 1 (by decide) (by decide)) ?_
      refine zr_iret X (by decide) (by decide) dX12_told_127 ?_
      exact k1
    · skip
      refine zr_aload0 X dX12_told_12 ?_
      refine zr_getD (r := A (1)) X zf_X12_27 rfl (by decide) (hS.2.1.2.1) dX12_told_13 ?_
      refine zr_iload3 X dX12_told_16 ?_
      refine zr_aaldD (k := 20) (n := j) (r := A (4 + 5 * j)) X rfl (show _ < 6 from (by first | decide | omega)) ((hS.2.2.1 j (by omega)).1) dX12_told_17 ?_
      refine zr_getI X zf_X12_113 rfl dX12_told_18 ?_
      refine zr_eq (x2 := (sG S j 1)) ((hM.2.2.2.2.1 j (by omega)).1 1 (by decide)) ?_
      refine zr_if_le (tgt := 27) X dX12_told_21 (by decide) (fun h2 => ?_) (fun h2 => ?_)
      · skip
        refine zr_iinc3 (v := (nI (j + 1))) X (show nI (j) + Int32.ofInt 1 = nI (j + 1) from nI_1 (j)) (by decide) rfl dX12_told_27 ?_
        refine zr_goto (tgt := 4) X dX12_told_30 (by decide) ?_
        exact ih (j + 1) _ (by omega) (by rw [i2, nsum, if_pos ((zopen_iff (hW.pad j)).mp h2), Nat.add_zero]) (by omega)
      · skip
        refine zr_iinc2 (v := (nI (v + 1))) X (show nI (v) + Int32.ofInt 1 = nI (v + 1) from nI_1 (v)) (by decide) rfl dX12_told_24 ?_
        refine zr_iinc3 (v := (nI (j + 1))) X (show nI (j) + Int32.ofInt 1 = nI (j + 1) from nI_1 (j)) (by decide) rfl dX12_told_27 ?_
        refine zr_goto (tgt := 4) X dX12_told_30 (by decide) ?_
        exact ih (j + 1) _ (by omega) (by rw [i2, nsum, if_neg (fun z => h2 ((zopen_iff (hW.pad j)).mpr z))]) (by omega)
set_option maxRecDepth 20000 in
theorem zp3_X12_told {l : Launch} {D : va_G} {b0 : Nat} {tA : Nat → ClassId} {sa sv : Nat → Nat} {K : zKt} {I : zI} {Qp : zI → Option AV → Prop} {Xp : String → zI → Prop} {A : Nat → Nat} {n7 m7 : Nat} {S : zS}
    (hS : zSh K A n7 m7) (hM : zSt I A n7 m7 S) (hW : zWf S) (k1 : Qp I (some (vi (qState S 3)))) :
    zC l D b0 tA sa sv K yX12_told (.code yX12_told cX12_told 4 (some .int)) zrm_X12_told [vr (A (0)) 17, vi ((3 : Int32))] I Qp Xp := by
  have hA := hS.1
  have hn6 := hM.1.1
  have hm12 := hM.1.2
  have hgn := hM.ng
  have hcm := hM.nc
  have hlen := hW.len
  refine zC_of (by decide +kernel) (Nat.le_of_ble_eq_true rfl) ?_
  intro p e s m args below meth c X hnt
  have X : zX p l e zrm_X12_told s m args below meth c RX12 cX12_told 4 (some .int) D b0 tA sa sv := X
  refine zr_lv (lv2 := [some (vr (A (0)) 17), some (vi ((3 : Int32))), none, none]) rfl ?_
  refine zr_iconst (v := (0 : Int32)) X dX12_told_0 (by decide) ?_
  refine zr_istore2 X (by decide) rfl dX12_told_1 ?_
  refine zr_iconst (v := (0 : Int32)) X dX12_told_2 (by decide) ?_
  refine zr_istore3 X (by decide) rfl dX12_told_3 ?_
  exact zl3_X12_told X hnt hS hM hW k1 (n7 + 1) 0 0 (by omega) rfl (by omega)
set_option maxRecDepth 20000 in
theorem zl4_X12_told {l : Launch} {D : va_G} {b0 : Nat} {tA : Nat → ClassId} {sa sv : Nat → Nat} {K : zKt} {I : zI} {Qp : zI → Option AV → Prop} {Xp : String → zI → Prop} {p : Program} {e : Env} {s : State} {m : MethodId} {args : Array Value} {below : List Frame} {meth : Method} {c : Code} {A : Nat → Nat} {n7 m7 : Nat} {S : zS}
    (X : zX p l e zrm_X12_told s m args below meth c RX12 cX12_told 4 (some .int) D b0 tA sa sv) (hnt : ∀ x ∈ c.exceptionTable.toList, False) (hS : zSh K A n7 m7) (hM : zSt I A n7 m7 S) (hW : zWf S) (k1 : Qp I (some (vi (qState S 4)))) :
    ∀ (n : Nat) (j v : Nat), j ≤ n7 → v = nsum (fun g => if sG S g 2 = 0 then 0 else 1) j → n7 - j < n → zG p l e zrm_X12_told s m args below meth c 4 D b0 tA sa 0 0 (zQ below D b0 tA sa K args s zrm_X12_told Qp Xp) K 4 [some (vr (A (0)) 17), some (vi ((4 : Int32))), some (vi ((nI v))), some (vi ((nI j)))] [] I := by
  intro n
  induction n with
  | zero => intro j v i1 i2 i3; exact absurd i3 (Nat.not_lt_zero _)
  | succ n ih =>
    intro j v i1 i2 i3
    have hA := hS.1
    have hn6 := hM.1.1
    have hm12 := hM.1.2
    have hgn := hM.ng
    have hcm := hM.nc
    have hlen := hW.len
    have hv9 : v ≤ 6 := by rw [i2]; have := nsum_le (f := (fun g => if sG S g 2 = 0 then 0 else 1)) (b := 1) (fun i => by split <;> omega) j; omega
    have hi9 : qInner S ≤ 60 := nsum_le (f := fun g => (sL S g 1).length) (b := 10) (fun i => hW.len i 1) 6
    have hi8 : nsum (fun g => (sL S g 0).length) 6 ≤ 60 := nsum_le (b := 10) (fun i => hW.len i 0) 6
    refine zr_iload3 X dX12_told_4 ?_
    refine zr_aload0 X dX12_told_5 ?_
    refine zr_getI X zf_X12_22 rfl dX12_told_6 ?_
    refine zr_eq (x2 := (nI n7)) ((hM.2.2.1 4 (by decide) (by decide)).trans hM.2.1.1) ?_
    refine zr_nicmp_ge X (j) (n7) (tgt := 33) (by omega) (by omega) dX12_told_9 (by decide) (fun h1 => ?_) (fun h1 => ?_)
    · skip
      refine zr_iload1 X dX12_told_33 ?_
      refine zr_tblIn (off := 94) (tgt := 128) X dX12_told_34 (by decide) (by decide) (by decide) (by decide) ?_
      refine zr_aload0 X dX12_told_128 ?_
      refine zr_getI X zf_X12_16 rfl dX12_told_129 ?_
      refine zr_eq (x2 := (sX S 2)) (hM.2.2.1 2 (by decide) (by decide)) ?_
      refine zr_iret X (by decide) (by decide) dX12_told_132 ?_
      exact k1
    · skip
      refine zr_aload0 X dX12_told_12 ?_
      refine zr_getD (r := A (1)) X zf_X12_27 rfl (by decide) (hS.2.1.2.1) dX12_told_13 ?_
      refine zr_iload3 X dX12_told_16 ?_
      refine zr_aaldD (k := 20) (n := j) (r := A (4 + 5 * j)) X rfl (show _ < 6 from (by first | decide | omega)) ((hS.2.2.1 j (by omega)).1) dX12_told_17 ?_
      refine zr_getI X zf_X12_113 rfl dX12_told_18 ?_
      refine zr_eq (x2 := (sG S j 1)) ((hM.2.2.2.2.1 j (by omega)).1 1 (by decide)) ?_
      refine zr_if_le (tgt := 27) X dX12_told_21 (by decide) (fun h2 => ?_) (fun h2 => ?_)
      · skip
        refine zr_iinc3 (v := (nI (j + 1))) X (show nI (j) + Int32.ofInt 1 = nI (j + 1) from nI_1 (j)) (by decide) rfl dX12_told_27 ?_
        refine zr_goto (tgt := 4) X dX12_told_30 (by decide) ?_
        exact ih (j + 1) _ (by omega) (by rw [i2, nsum, if_pos ((zopen_iff (hW.pad j)).mp h2), Nat.add_zero]) (by omega)
      · skip
        refine zr_iinc2 (v := (nI (v + 1))) X (show nI (v) + Int32.ofInt 1 = nI (v + 1) from nI_1 (v)) (by decide) rfl dX12_told_24 ?_
        refine zr_iinc3 (v := (nI (j + 1))) X (show nI (j) + Int32.ofInt 1 = nI (j + 1) from nI_1 (j)) (by decide) rfl dX12_told_27 ?_
        refine zr_goto (tgt := 4) X dX12_told_30 (by decide) ?_
        exact ih (j + 1) _ (by omega) (by rw [i2, nsum, if_neg (fun z => h2 ((zopen_iff (hW.pad j)).mpr z))]) (by omega)
set_option maxRecDepth 20000 in
theorem zp4_X12_told {l : Launch} {D : va_G} {b0 : Nat} {tA : Nat → ClassId} {sa sv : Nat → Nat} {K : zKt} {I : zI} {Qp : zI → Option AV → Prop} {Xp : String → zI → Prop} {A : Nat → Nat} {n7 m7 : Nat} {S : zS}
    (hS : zSh K A n7 m7) (hM : zSt I A n7 m7 S) (hW : zWf S) (k1 : Qp I (some (vi (qState S 4)))) :
    zC l D b0 tA sa sv K yX12_told (.code yX12_told cX12_told 4 (some .int)) zrm_X12_told [vr (A (0)) 17, vi ((4 : Int32))] I Qp Xp := by
  have hA := hS.1
  have hn6 := hM.1.1
  have hm12 := hM.1.2
  have hgn := hM.ng
  have hcm := hM.nc
  have hlen := hW.len
  refine zC_of (by decide +kernel) (Nat.le_of_ble_eq_true rfl) ?_
  intro p e s m args below meth c X hnt
  have X : zX p l e zrm_X12_told s m args below meth c RX12 cX12_told 4 (some .int) D b0 tA sa sv := X
  refine zr_lv (lv2 := [some (vr (A (0)) 17), some (vi ((4 : Int32))), none, none]) rfl ?_
  refine zr_iconst (v := (0 : Int32)) X dX12_told_0 (by decide) ?_
  refine zr_istore2 X (by decide) rfl dX12_told_1 ?_
  refine zr_iconst (v := (0 : Int32)) X dX12_told_2 (by decide) ?_
  refine zr_istore3 X (by decide) rfl dX12_told_3 ?_
  exact zl4_X12_told X hnt hS hM hW k1 (n7 + 1) 0 0 (by omega) rfl (by omega)
set_option maxRecDepth 20000 in
theorem zl5_X12_told {l : Launch} {D : va_G} {b0 : Nat} {tA : Nat → ClassId} {sa sv : Nat → Nat} {K : zKt} {I : zI} {Qp : zI → Option AV → Prop} {Xp : String → zI → Prop} {p : Program} {e : Env} {s : State} {m : MethodId} {args : Array Value} {below : List Frame} {meth : Method} {c : Code} {A : Nat → Nat} {n7 m7 : Nat} {S : zS}
    (X : zX p l e zrm_X12_told s m args below meth c RX12 cX12_told 4 (some .int) D b0 tA sa sv) (hnt : ∀ x ∈ c.exceptionTable.toList, False) (hS : zSh K A n7 m7) (hM : zSt I A n7 m7 S) (hW : zWf S) (k1 : Qp I (some (vi (qState S 5)))) :
    ∀ (n : Nat) (j v : Nat), j ≤ n7 → v = nsum (fun g => if sG S g 2 = 0 then 0 else 1) j → n7 - j < n → zG p l e zrm_X12_told s m args below meth c 4 D b0 tA sa 0 0 (zQ below D b0 tA sa K args s zrm_X12_told Qp Xp) K 4 [some (vr (A (0)) 17), some (vi ((5 : Int32))), some (vi ((nI v))), some (vi ((nI j)))] [] I := by
  intro n
  induction n with
  | zero => intro j v i1 i2 i3; exact absurd i3 (Nat.not_lt_zero _)
  | succ n ih =>
    intro j v i1 i2 i3
    have hA := hS.1
    have hn6 := hM.1.1
    have hm12 := hM.1.2
    have hgn := hM.ng
    have hcm := hM.nc
    have hlen := hW.len
    have hv9 : v ≤ 6 := by rw [i2]; have := nsum_le (f := (fun g => if sG S g 2 = 0 then 0 else 1)) (b := 1) (fun i => by split <;> omega) j; omega
    have hi9 : qInner S ≤ 60 := nsum_le (f := fun g => (sL S g 1).length) (b := 10) (fun i => hW.len i 1) 6
    have hi8 : nsum (fun g => (sL S g 0).length) 6 ≤ 60 := nsum_le (b := 10) (fun i => hW.len i 0) 6
    refine zr_iload3 X dX12_told_4 ?_
    refine zr_aload0 X dX12_told_5 ?_
    refine zr_getI X zf_X12_22 rfl dX12_told_6 ?_
    refine zr_eq (x2 := (nI n7)) ((hM.2.2.1 4 (by decide) (by decide)).trans hM.2.1.1) ?_
    refine zr_nicmp_ge X (j) (n7) (tgt := 33) (by omega) (by omega) dX12_told_9 (by decide) (fun h1 => ?_) (fun h1 => ?_)
    · skip
      refine zr_iload1 X dX12_told_33 ?_
      refine zr_tblIn (off := 99) (tgt := 133) X dX12_told_34 (by decide) (by decide) (by decide) (by decide) ?_
      refine zr_aload0 X dX12_told_133 ?_
      refine zr_getI X zf_X12_19 rfl dX12_told_134 ?_
      refine zr_eq (x2 := (sX S 3)) (hM.2.2.1 3 (by decide) (by decide)) ?_
      refine zr_iret X (by decide) (by decide) dX12_told_137 ?_
      exact k1
    · skip
      refine zr_aload0 X dX12_told_12 ?_
      refine zr_getD (r := A (1)) X zf_X12_27 rfl (by decide) (hS.2.1.2.1) dX12_told_13 ?_
      refine zr_iload3 X dX12_told_16 ?_
      refine zr_aaldD (k := 20) (n := j) (r := A (4 + 5 * j)) X rfl (show _ < 6 from (by first | decide | omega)) ((hS.2.2.1 j (by omega)).1) dX12_told_17 ?_
      refine zr_getI X zf_X12_113 rfl dX12_told_18 ?_
      refine zr_eq (x2 := (sG S j 1)) ((hM.2.2.2.2.1 j (by omega)).1 1 (by decide)) ?_
      refine zr_if_le (tgt := 27) X dX12_told_21 (by decide) (fun h2 => ?_) (fun h2 => ?_)
      · skip
        refine zr_iinc3 (v := (nI (j + 1))) X (show nI (j) + Int32.ofInt 1 = nI (j + 1) from nI_1 (j)) (by decide) rfl dX12_told_27 ?_
        refine zr_goto (tgt := 4) X dX12_told_30 (by decide) ?_
        exact ih (j + 1) _ (by omega) (by rw [i2, nsum, if_pos ((zopen_iff (hW.pad j)).mp h2), Nat.add_zero]) (by omega)
      · skip
        refine zr_iinc2 (v := (nI (v + 1))) X (show nI (v) + Int32.ofInt 1 = nI (v + 1) from nI_1 (v)) (by decide) rfl dX12_told_24 ?_
        refine zr_iinc3 (v := (nI (j + 1))) X (show nI (j) + Int32.ofInt 1 = nI (j + 1) from nI_1 (j)) (by decide) rfl dX12_told_27 ?_
        refine zr_goto (tgt := 4) X dX12_told_30 (by decide) ?_
        exact ih (j + 1) _ (by omega) (by rw [i2, nsum, if_neg (fun z => h2 ((zopen_iff (hW.pad j)).mpr z))]) (by omega)
set_option maxRecDepth 20000 in
theorem zp5_X12_told {l : Launch} {D : va_G} {b0 : Nat} {tA : Nat → ClassId} {sa sv : Nat → Nat} {K : zKt} {I : zI} {Qp : zI → Option AV → Prop} {Xp : String → zI → Prop} {A : Nat → Nat} {n7 m7 : Nat} {S : zS}
    (hS : zSh K A n7 m7) (hM : zSt I A n7 m7 S) (hW : zWf S) (k1 : Qp I (some (vi (qState S 5)))) :
    zC l D b0 tA sa sv K yX12_told (.code yX12_told cX12_told 4 (some .int)) zrm_X12_told [vr (A (0)) 17, vi ((5 : Int32))] I Qp Xp := by
  have hA := hS.1
  have hn6 := hM.1.1
  have hm12 := hM.1.2
  have hgn := hM.ng
  have hcm := hM.nc
  have hlen := hW.len
  refine zC_of (by decide +kernel) (Nat.le_of_ble_eq_true rfl) ?_
  intro p e s m args below meth c X hnt
  have X : zX p l e zrm_X12_told s m args below meth c RX12 cX12_told 4 (some .int) D b0 tA sa sv := X
  refine zr_lv (lv2 := [some (vr (A (0)) 17), some (vi ((5 : Int32))), none, none]) rfl ?_
  refine zr_iconst (v := (0 : Int32)) X dX12_told_0 (by decide) ?_
  refine zr_istore2 X (by decide) rfl dX12_told_1 ?_
  refine zr_iconst (v := (0 : Int32)) X dX12_told_2 (by decide) ?_
  refine zr_istore3 X (by decide) rfl dX12_told_3 ?_
  exact zl5_X12_told X hnt hS hM hW k1 (n7 + 1) 0 0 (by omega) rfl (by omega)
set_option maxRecDepth 20000 in
theorem zl6_X12_told {l : Launch} {D : va_G} {b0 : Nat} {tA : Nat → ClassId} {sa sv : Nat → Nat} {K : zKt} {I : zI} {Qp : zI → Option AV → Prop} {Xp : String → zI → Prop} {p : Program} {e : Env} {s : State} {m : MethodId} {args : Array Value} {below : List Frame} {meth : Method} {c : Code} {A : Nat → Nat} {n7 m7 : Nat} {S : zS}
    (X : zX p l e zrm_X12_told s m args below meth c RX12 cX12_told 4 (some .int) D b0 tA sa sv) (hnt : ∀ x ∈ c.exceptionTable.toList, False) (hS : zSh K A n7 m7) (hM : zSt I A n7 m7 S) (hW : zWf S) (k1 : Qp I (some (vi (qState S 6)))) :
    ∀ (n : Nat) (j v : Nat), j ≤ n7 → v = nsum (fun g => if sG S g 2 = 0 then 0 else 1) j → n7 - j < n → zG p l e zrm_X12_told s m args below meth c 4 D b0 tA sa 0 0 (zQ below D b0 tA sa K args s zrm_X12_told Qp Xp) K 4 [some (vr (A (0)) 17), some (vi ((6 : Int32))), some (vi ((nI v))), some (vi ((nI j)))] [] I := by
  intro n
  induction n with
  | zero => intro j v i1 i2 i3; exact absurd i3 (Nat.not_lt_zero _)
  | succ n ih =>
    intro j v i1 i2 i3
    have hA := hS.1
    have hn6 := hM.1.1
    have hm12 := hM.1.2
    have hgn := hM.ng
    have hcm := hM.nc
    have hlen := hW.len
    have hv9 : v ≤ 6 := by rw [i2]; have := nsum_le (f := (fun g => if sG S g 2 = 0 then 0 else 1)) (b := 1) (fun i => by split <;> omega) j; omega
    have hi9 : qInner S ≤ 60 := nsum_le (f := fun g => (sL S g 1).length) (b := 10) (fun i => hW.len i 1) 6
    have hi8 : nsum (fun g => (sL S g 0).length) 6 ≤ 60 := nsum_le (b := 10) (fun i => hW.len i 0) 6
    refine zr_iload3 X dX12_told_4 ?_
    refine zr_aload0 X dX12_told_5 ?_
    refine zr_getI X zf_X12_22 rfl dX12_told_6 ?_
    refine zr_eq (x2 := (nI n7)) ((hM.2.2.1 4 (by decide) (by decide)).trans hM.2.1.1) ?_
    refine zr_nicmp_ge X (j) (n7) (tgt := 33) (by omega) (by omega) dX12_told_9 (by decide) (fun h1 => ?_) (fun h1 => ?_)
    · skip
      refine zr_iload1 X dX12_told_33 ?_
      refine zr_tblIn (off := 104) (tgt := 138) X dX12_told_34 (by decide) (by decide) (by decide) (by decide) ?_
      refine zr_aload0 X dX12_told_138 ?_
      refine zr_iconst (v := (0 : Int32)) X dX12_told_139 (by decide) ?_
      refine zr_callV1 (rm9 := zrm_X12_waiting) X hnt zm_X12_161 (by decide) (by decide) (by decide) (Nat.le_of_ble_eq_true rfl) dX12_told_140 ?_
      refine zp0_X12_waiting hS hM hW ?_
      refine zr_aload0 X dX12_told_143 ?_
      refine zr_iconst (v := (1 : Int32)) X dX12_told_144 (by decide) ?_
      refine zr_callV1 (rm9 := zrm_X12_waiting) X hnt zm_X12_161 (by decide) (by decide) (by decide) (Nat.le_of_ble_eq_true rfl) dX12_told_145 ?_
      refine zp1_X12_waiting hS hM hW ?_
      refine zr_iadd X dX12_told_148 ?_
      refine zr_eq (x2 := (nI ((nsum (fun g => (sL S g 0).length) 6) + (qInner S)))) (nI_add ((nsum (fun g => (sL S g 0).length) 6)) ((qInner S))) ?_
      refine zr_iret X (by decide) (by decide) dX12_told_149 ?_
      rw [show qState S 6 = nI (nsum (fun g => (sL S g 0).length) 6 + qInner S) from congrArg nI (nsum_add 6)] at k1; exact k1
    · skip
      refine zr_aload0 X dX12_told_12 ?_
      refine zr_getD (r := A (1)) X zf_X12_27 rfl (by decide) (hS.2.1.2.1) dX12_told_13 ?_
      refine zr_iload3 X dX12_told_16 ?_
      refine zr_aaldD (k := 20) (n := j) (r := A (4 + 5 * j)) X rfl (show _ < 6 from (by first | decide | omega)) ((hS.2.2.1 j (by omega)).1) dX12_told_17 ?_
      refine zr_getI X zf_X12_113 rfl dX12_told_18 ?_
      refine zr_eq (x2 := (sG S j 1)) ((hM.2.2.2.2.1 j (by omega)).1 1 (by decide)) ?_
      refine zr_if_le (tgt := 27) X dX12_told_21 (by decide) (fun h2 => ?_) (fun h2 => ?_)
      · skip
        refine zr_iinc3 (v := (nI (j + 1))) X (show nI (j) + Int32.ofInt 1 = nI (j + 1) from nI_1 (j)) (by decide) rfl dX12_told_27 ?_
        refine zr_goto (tgt := 4) X dX12_told_30 (by decide) ?_
        exact ih (j + 1) _ (by omega) (by rw [i2, nsum, if_pos ((zopen_iff (hW.pad j)).mp h2), Nat.add_zero]) (by omega)
      · skip
        refine zr_iinc2 (v := (nI (v + 1))) X (show nI (v) + Int32.ofInt 1 = nI (v + 1) from nI_1 (v)) (by decide) rfl dX12_told_24 ?_
        refine zr_iinc3 (v := (nI (j + 1))) X (show nI (j) + Int32.ofInt 1 = nI (j + 1) from nI_1 (j)) (by decide) rfl dX12_told_27 ?_
        refine zr_goto (tgt := 4) X dX12_told_30 (by decide) ?_
        exact ih (j + 1) _ (by omega) (by rw [i2, nsum, if_neg (fun z => h2 ((zopen_iff (hW.pad j)).mpr z))]) (by omega)
set_option maxRecDepth 20000 in
theorem zp6_X12_told {l : Launch} {D : va_G} {b0 : Nat} {tA : Nat → ClassId} {sa sv : Nat → Nat} {K : zKt} {I : zI} {Qp : zI → Option AV → Prop} {Xp : String → zI → Prop} {A : Nat → Nat} {n7 m7 : Nat} {S : zS}
    (hS : zSh K A n7 m7) (hM : zSt I A n7 m7 S) (hW : zWf S) (k1 : Qp I (some (vi (qState S 6)))) :
    zC l D b0 tA sa sv K yX12_told (.code yX12_told cX12_told 4 (some .int)) zrm_X12_told [vr (A (0)) 17, vi ((6 : Int32))] I Qp Xp := by
  have hA := hS.1
  have hn6 := hM.1.1
  have hm12 := hM.1.2
  have hgn := hM.ng
  have hcm := hM.nc
  have hlen := hW.len
  refine zC_of (by decide +kernel) (Nat.le_of_ble_eq_true rfl) ?_
  intro p e s m args below meth c X hnt
  have X : zX p l e zrm_X12_told s m args below meth c RX12 cX12_told 4 (some .int) D b0 tA sa sv := X
  refine zr_lv (lv2 := [some (vr (A (0)) 17), some (vi ((6 : Int32))), none, none]) rfl ?_
  refine zr_iconst (v := (0 : Int32)) X dX12_told_0 (by decide) ?_
  refine zr_istore2 X (by decide) rfl dX12_told_1 ?_
  refine zr_iconst (v := (0 : Int32)) X dX12_told_2 (by decide) ?_
  refine zr_istore3 X (by decide) rfl dX12_told_3 ?_
  exact zl6_X12_told X hnt hS hM hW k1 (n7 + 1) 0 0 (by omega) rfl (by omega)
set_option maxRecDepth 20000 in
theorem zl7_X12_told {l : Launch} {D : va_G} {b0 : Nat} {tA : Nat → ClassId} {sa sv : Nat → Nat} {K : zKt} {I : zI} {Qp : zI → Option AV → Prop} {Xp : String → zI → Prop} {p : Program} {e : Env} {s : State} {m : MethodId} {args : Array Value} {below : List Frame} {meth : Method} {c : Code} {A : Nat → Nat} {n7 m7 : Nat} {S : zS}
    (X : zX p l e zrm_X12_told s m args below meth c RX12 cX12_told 4 (some .int) D b0 tA sa sv) (hnt : ∀ x ∈ c.exceptionTable.toList, False) (hS : zSh K A n7 m7) (hM : zSt I A n7 m7 S) (hW : zWf S) (k1 : Qp I (some (vi (qState S 7)))) :
    ∀ (n : Nat) (j v : Nat), j ≤ n7 → v = nsum (fun g => if sG S g 2 = 0 then 0 else 1) j → n7 - j < n → zG p l e zrm_X12_told s m args below meth c 4 D b0 tA sa 0 0 (zQ below D b0 tA sa K args s zrm_X12_told Qp Xp) K 4 [some (vr (A (0)) 17), some (vi ((7 : Int32))), some (vi ((nI v))), some (vi ((nI j)))] [] I := by
  intro n
  induction n with
  | zero => intro j v i1 i2 i3; exact absurd i3 (Nat.not_lt_zero _)
  | succ n ih =>
    intro j v i1 i2 i3
    have hA := hS.1
    have hn6 := hM.1.1
    have hm12 := hM.1.2
    have hgn := hM.ng
    have hcm := hM.nc
    have hlen := hW.len
    have hv9 : v ≤ 6 := by rw [i2]; have := nsum_le (f := (fun g => if sG S g 2 = 0 then 0 else 1)) (b := 1) (fun i => by split <;> omega) j; omega
    have hi9 : qInner S ≤ 60 := nsum_le (f := fun g => (sL S g 1).length) (b := 10) (fun i => hW.len i 1) 6
    have hi8 : nsum (fun g => (sL S g 0).length) 6 ≤ 60 := nsum_le (b := 10) (fun i => hW.len i 0) 6
    refine zr_iload3 X dX12_told_4 ?_
    refine zr_aload0 X dX12_told_5 ?_
    refine zr_getI X zf_X12_22 rfl dX12_told_6 ?_
    refine zr_eq (x2 := (nI n7)) ((hM.2.2.1 4 (by decide) (by decide)).trans hM.2.1.1) ?_
    refine zr_nicmp_ge X (j) (n7) (tgt := 33) (by omega) (by omega) dX12_told_9 (by decide) (fun h1 => ?_) (fun h1 => ?_)
    · skip
      refine zr_iload1 X dX12_told_33 ?_
      refine zr_tblIn (off := 116) (tgt := 150) X dX12_told_34 (by decide) (by decide) (by decide) (by decide) ?_
      refine zr_aload0 X dX12_told_150 ?_
      refine zr_callV0 (rm9 := zrm_X12_isPanic) X hnt zm_X12_87 (by decide) (by decide) (by decide) (Nat.le_of_ble_eq_true rfl) dX12_told_151 ?_
      refine zp_X12_isPanic hS hM hW.keys ?_ ?_
      · skip
        intro hp2
        refine zr_if_eq (tgt := 161) X dX12_told_154 (by decide) (fun h => absurd h (by decide)) (fun _ => ?_)
        refine zr_iconst (v := (1 : Int32)) X dX12_told_157 (by decide) ?_
        refine zr_goto (tgt := 162) X dX12_told_158 (by decide) ?_
        refine zr_iret X (by decide) (by decide) dX12_told_162 ?_
        have e9 : qState S 7 = 1 := if_pos hp2
        rw [e9] at k1; exact k1
      · skip
        intro hp2
        refine zr_if_eq (tgt := 161) X dX12_told_154 (by decide) (fun _ => ?_) (fun h => absurd h (by decide))
        refine zr_iconst (v := (0 : Int32)) X dX12_told_161 (by decide) ?_
        refine zr_iret X (by decide) (by decide) dX12_told_162 ?_
        have e9 : qState S 7 = 0 := if_neg hp2
        rw [e9] at k1; exact k1
    · skip
      refine zr_aload0 X dX12_told_12 ?_
      refine zr_getD (r := A (1)) X zf_X12_27 rfl (by decide) (hS.2.1.2.1) dX12_told_13 ?_
      refine zr_iload3 X dX12_told_16 ?_
      refine zr_aaldD (k := 20) (n := j) (r := A (4 + 5 * j)) X rfl (show _ < 6 from (by first | decide | omega)) ((hS.2.2.1 j (by omega)).1) dX12_told_17 ?_
      refine zr_getI X zf_X12_113 rfl dX12_told_18 ?_
      refine zr_eq (x2 := (sG S j 1)) ((hM.2.2.2.2.1 j (by omega)).1 1 (by decide)) ?_
      refine zr_if_le (tgt := 27) X dX12_told_21 (by decide) (fun h3 => ?_) (fun h3 => ?_)
      · skip
        refine zr_iinc3 (v := (nI (j + 1))) X (show nI (j) + Int32.ofInt 1 = nI (j + 1) from nI_1 (j)) (by decide) rfl dX12_told_27 ?_
        refine zr_goto (tgt := 4) X dX12_told_30 (by decide) ?_
        exact ih (j + 1) _ (by omega) (by rw [i2, nsum, if_pos ((zopen_iff (hW.pad j)).mp h3), Nat.add_zero]) (by omega)
      · skip
        refine zr_iinc2 (v := (nI (v + 1))) X (show nI (v) + Int32.ofInt 1 = nI (v + 1) from nI_1 (v)) (by decide) rfl dX12_told_24 ?_
        refine zr_iinc3 (v := (nI (j + 1))) X (show nI (j) + Int32.ofInt 1 = nI (j + 1) from nI_1 (j)) (by decide) rfl dX12_told_27 ?_
        refine zr_goto (tgt := 4) X dX12_told_30 (by decide) ?_
        exact ih (j + 1) _ (by omega) (by rw [i2, nsum, if_neg (fun z => h3 ((zopen_iff (hW.pad j)).mpr z))]) (by omega)
set_option maxRecDepth 20000 in
theorem zp7_X12_told {l : Launch} {D : va_G} {b0 : Nat} {tA : Nat → ClassId} {sa sv : Nat → Nat} {K : zKt} {I : zI} {Qp : zI → Option AV → Prop} {Xp : String → zI → Prop} {A : Nat → Nat} {n7 m7 : Nat} {S : zS}
    (hS : zSh K A n7 m7) (hM : zSt I A n7 m7 S) (hW : zWf S) (k1 : Qp I (some (vi (qState S 7)))) :
    zC l D b0 tA sa sv K yX12_told (.code yX12_told cX12_told 4 (some .int)) zrm_X12_told [vr (A (0)) 17, vi ((7 : Int32))] I Qp Xp := by
  have hA := hS.1
  have hn6 := hM.1.1
  have hm12 := hM.1.2
  have hgn := hM.ng
  have hcm := hM.nc
  have hlen := hW.len
  refine zC_of (by decide +kernel) (Nat.le_of_ble_eq_true rfl) ?_
  intro p e s m args below meth c X hnt
  have X : zX p l e zrm_X12_told s m args below meth c RX12 cX12_told 4 (some .int) D b0 tA sa sv := X
  refine zr_lv (lv2 := [some (vr (A (0)) 17), some (vi ((7 : Int32))), none, none]) rfl ?_
  refine zr_iconst (v := (0 : Int32)) X dX12_told_0 (by decide) ?_
  refine zr_istore2 X (by decide) rfl dX12_told_1 ?_
  refine zr_iconst (v := (0 : Int32)) X dX12_told_2 (by decide) ?_
  refine zr_istore3 X (by decide) rfl dX12_told_3 ?_
  exact zl7_X12_told X hnt hS hM hW k1 (n7 + 1) 0 0 (by omega) rfl (by omega)
set_option maxRecDepth 20000 in
theorem zl8_X12_told {l : Launch} {D : va_G} {b0 : Nat} {tA : Nat → ClassId} {sa sv : Nat → Nat} {K : zKt} {I : zI} {Qp : zI → Option AV → Prop} {Xp : String → zI → Prop} {p : Program} {e : Env} {s : State} {m : MethodId} {args : Array Value} {below : List Frame} {meth : Method} {c : Code} {A : Nat → Nat} {n7 m7 : Nat} {S : zS}
    (X : zX p l e zrm_X12_told s m args below meth c RX12 cX12_told 4 (some .int) D b0 tA sa sv) (hnt : ∀ x ∈ c.exceptionTable.toList, False) (hS : zSh K A n7 m7) (hM : zSt I A n7 m7 S) (hW : zWf S) (k1 : Qp I (some (vi (qState S 8)))) :
    ∀ (n : Nat) (j v : Nat), j ≤ n7 → v = nsum (fun g => if sG S g 2 = 0 then 0 else 1) j → n7 - j < n → zG p l e zrm_X12_told s m args below meth c 4 D b0 tA sa 0 0 (zQ below D b0 tA sa K args s zrm_X12_told Qp Xp) K 4 [some (vr (A (0)) 17), some (vi ((8 : Int32))), some (vi ((nI v))), some (vi ((nI j)))] [] I := by
  intro n
  induction n with
  | zero => intro j v i1 i2 i3; exact absurd i3 (Nat.not_lt_zero _)
  | succ n ih =>
    intro j v i1 i2 i3
    have hA := hS.1
    have hn6 := hM.1.1
    have hm12 := hM.1.2
    have hgn := hM.ng
    have hcm := hM.nc
    have hlen := hW.len
    have hv9 : v ≤ 6 := by rw [i2]; have := nsum_le (f := (fun g => if sG S g 2 = 0 then 0 else 1)) (b := 1) (fun i => by split <;> omega) j; omega
    have hi9 : qInner S ≤ 60 := nsum_le (f := fun g => (sL S g 1).length) (b := 10) (fun i => hW.len i 1) 6
    have hi8 : nsum (fun g => (sL S g 0).length) 6 ≤ 60 := nsum_le (b := 10) (fun i => hW.len i 0) 6
    refine zr_iload3 X dX12_told_4 ?_
    refine zr_aload0 X dX12_told_5 ?_
    refine zr_getI X zf_X12_22 rfl dX12_told_6 ?_
    refine zr_eq (x2 := (nI n7)) ((hM.2.2.1 4 (by decide) (by decide)).trans hM.2.1.1) ?_
    refine zr_nicmp_ge X (j) (n7) (tgt := 33) (by omega) (by omega) dX12_told_9 (by decide) (fun h1 => ?_) (fun h1 => ?_)
    · skip
      refine zr_iload1 X dX12_told_33 ?_
      refine zr_tblIn (off := 129) (tgt := 163) X dX12_told_34 (by decide) (by decide) (by decide) (by decide) ?_
      refine zr_aload0 X dX12_told_163 ?_
      refine zr_callV0 (rm9 := zrm_X12_turned) X hnt zm_X12_83 (by decide) (by decide) (by decide) (Nat.le_of_ble_eq_true rfl) dX12_told_164 ?_
      refine zp_X12_turned hS hM hW.keys ?_
      refine zr_iret X (by decide) (by decide) dX12_told_167 ?_
      exact k1
    · skip
      refine zr_aload0 X dX12_told_12 ?_
      refine zr_getD (r := A (1)) X zf_X12_27 rfl (by decide) (hS.2.1.2.1) dX12_told_13 ?_
      refine zr_iload3 X dX12_told_16 ?_
      refine zr_aaldD (k := 20) (n := j) (r := A (4 + 5 * j)) X rfl (show _ < 6 from (by first | decide | omega)) ((hS.2.2.1 j (by omega)).1) dX12_told_17 ?_
      refine zr_getI X zf_X12_113 rfl dX12_told_18 ?_
      refine zr_eq (x2 := (sG S j 1)) ((hM.2.2.2.2.1 j (by omega)).1 1 (by decide)) ?_
      refine zr_if_le (tgt := 27) X dX12_told_21 (by decide) (fun h2 => ?_) (fun h2 => ?_)
      · skip
        refine zr_iinc3 (v := (nI (j + 1))) X (show nI (j) + Int32.ofInt 1 = nI (j + 1) from nI_1 (j)) (by decide) rfl dX12_told_27 ?_
        refine zr_goto (tgt := 4) X dX12_told_30 (by decide) ?_
        exact ih (j + 1) _ (by omega) (by rw [i2, nsum, if_pos ((zopen_iff (hW.pad j)).mp h2), Nat.add_zero]) (by omega)
      · skip
        refine zr_iinc2 (v := (nI (v + 1))) X (show nI (v) + Int32.ofInt 1 = nI (v + 1) from nI_1 (v)) (by decide) rfl dX12_told_24 ?_
        refine zr_iinc3 (v := (nI (j + 1))) X (show nI (j) + Int32.ofInt 1 = nI (j + 1) from nI_1 (j)) (by decide) rfl dX12_told_27 ?_
        refine zr_goto (tgt := 4) X dX12_told_30 (by decide) ?_
        exact ih (j + 1) _ (by omega) (by rw [i2, nsum, if_neg (fun z => h2 ((zopen_iff (hW.pad j)).mpr z))]) (by omega)
set_option maxRecDepth 20000 in
theorem zp8_X12_told {l : Launch} {D : va_G} {b0 : Nat} {tA : Nat → ClassId} {sa sv : Nat → Nat} {K : zKt} {I : zI} {Qp : zI → Option AV → Prop} {Xp : String → zI → Prop} {A : Nat → Nat} {n7 m7 : Nat} {S : zS}
    (hS : zSh K A n7 m7) (hM : zSt I A n7 m7 S) (hW : zWf S) (k1 : Qp I (some (vi (qState S 8)))) :
    zC l D b0 tA sa sv K yX12_told (.code yX12_told cX12_told 4 (some .int)) zrm_X12_told [vr (A (0)) 17, vi ((8 : Int32))] I Qp Xp := by
  have hA := hS.1
  have hn6 := hM.1.1
  have hm12 := hM.1.2
  have hgn := hM.ng
  have hcm := hM.nc
  have hlen := hW.len
  refine zC_of (by decide +kernel) (Nat.le_of_ble_eq_true rfl) ?_
  intro p e s m args below meth c X hnt
  have X : zX p l e zrm_X12_told s m args below meth c RX12 cX12_told 4 (some .int) D b0 tA sa sv := X
  refine zr_lv (lv2 := [some (vr (A (0)) 17), some (vi ((8 : Int32))), none, none]) rfl ?_
  refine zr_iconst (v := (0 : Int32)) X dX12_told_0 (by decide) ?_
  refine zr_istore2 X (by decide) rfl dX12_told_1 ?_
  refine zr_iconst (v := (0 : Int32)) X dX12_told_2 (by decide) ?_
  refine zr_istore3 X (by decide) rfl dX12_told_3 ?_
  exact zl8_X12_told X hnt hS hM hW k1 (n7 + 1) 0 0 (by omega) rfl (by omega)
set_option maxRecDepth 20000 in
theorem zl9_X12_told {l : Launch} {D : va_G} {b0 : Nat} {tA : Nat → ClassId} {sa sv : Nat → Nat} {K : zKt} {I : zI} {Qp : zI → Option AV → Prop} {Xp : String → zI → Prop} {p : Program} {e : Env} {s : State} {m : MethodId} {args : Array Value} {below : List Frame} {meth : Method} {c : Code} {A : Nat → Nat} {n7 m7 : Nat} {S : zS}
    (X : zX p l e zrm_X12_told s m args below meth c RX12 cX12_told 4 (some .int) D b0 tA sa sv) (hnt : ∀ x ∈ c.exceptionTable.toList, False) (hS : zSh K A n7 m7) (hM : zSt I A n7 m7 S) (hW : zWf S) (k1 : Qp I (some (vi (qState S 9)))) :
    ∀ (n : Nat) (j v : Nat), j ≤ n7 → v = nsum (fun g => if sG S g 2 = 0 then 0 else 1) j → n7 - j < n → zG p l e zrm_X12_told s m args below meth c 4 D b0 tA sa 0 0 (zQ below D b0 tA sa K args s zrm_X12_told Qp Xp) K 4 [some (vr (A (0)) 17), some (vi ((9 : Int32))), some (vi ((nI v))), some (vi ((nI j)))] [] I := by
  intro n
  induction n with
  | zero => intro j v i1 i2 i3; exact absurd i3 (Nat.not_lt_zero _)
  | succ n ih =>
    intro j v i1 i2 i3
    have hA := hS.1
    have hn6 := hM.1.1
    have hm12 := hM.1.2
    have hgn := hM.ng
    have hcm := hM.nc
    have hlen := hW.len
    have hv9 : v ≤ 6 := by rw [i2]; have := nsum_le (f := (fun g => if sG S g 2 = 0 then 0 else 1)) (b := 1) (fun i => by split <;> omega) j; omega
    have hi9 : qInner S ≤ 60 := nsum_le (f := fun g => (sL S g 1).length) (b := 10) (fun i => hW.len i 1) 6
    have hi8 : nsum (fun g => (sL S g 0).length) 6 ≤ 60 := nsum_le (b := 10) (fun i => hW.len i 0) 6
    refine zr_iload3 X dX12_told_4 ?_
    refine zr_aload0 X dX12_told_5 ?_
    refine zr_getI X zf_X12_22 rfl dX12_told_6 ?_
    refine zr_eq (x2 := (nI n7)) ((hM.2.2.1 4 (by decide) (by decide)).trans hM.2.1.1) ?_
    refine zr_nicmp_ge X (j) (n7) (tgt := 33) (by omega) (by omega) dX12_told_9 (by decide) (fun h1 => ?_) (fun h1 => ?_)
    · skip
      refine zr_iload1 X dX12_told_33 ?_
      refine zr_tblIn (off := 134) (tgt := 168) X dX12_told_34 (by decide) (by decide) (by decide) (by decide) ?_
      refine zr_aload0 X dX12_told_168 ?_
      refine zr_getI X zf_X12_44 rfl dX12_told_169 ?_
      refine zr_eq (x2 := (sX S 9)) (hM.2.2.1 9 (by decide) (by decide)) ?_
      refine zr_iret X (by decide) (by decide) dX12_told_172 ?_
      exact k1
    · skip
      refine zr_aload0 X dX12_told_12 ?_
      refine zr_getD (r := A (1)) X zf_X12_27 rfl (by decide) (hS.2.1.2.1) dX12_told_13 ?_
      refine zr_iload3 X dX12_told_16 ?_
      refine zr_aaldD (k := 20) (n := j) (r := A (4 + 5 * j)) X rfl (show _ < 6 from (by first | decide | omega)) ((hS.2.2.1 j (by omega)).1) dX12_told_17 ?_
      refine zr_getI X zf_X12_113 rfl dX12_told_18 ?_
      refine zr_eq (x2 := (sG S j 1)) ((hM.2.2.2.2.1 j (by omega)).1 1 (by decide)) ?_
      refine zr_if_le (tgt := 27) X dX12_told_21 (by decide) (fun h2 => ?_) (fun h2 => ?_)
      · skip
        refine zr_iinc3 (v := (nI (j + 1))) X (show nI (j) + Int32.ofInt 1 = nI (j + 1) from nI_1 (j)) (by decide) rfl dX12_told_27 ?_
        refine zr_goto (tgt := 4) X dX12_told_30 (by decide) ?_
        exact ih (j + 1) _ (by omega) (by rw [i2, nsum, if_pos ((zopen_iff (hW.pad j)).mp h2), Nat.add_zero]) (by omega)
      · skip
        refine zr_iinc2 (v := (nI (v + 1))) X (show nI (v) + Int32.ofInt 1 = nI (v + 1) from nI_1 (v)) (by decide) rfl dX12_told_24 ?_
        refine zr_iinc3 (v := (nI (j + 1))) X (show nI (j) + Int32.ofInt 1 = nI (j + 1) from nI_1 (j)) (by decide) rfl dX12_told_27 ?_
        refine zr_goto (tgt := 4) X dX12_told_30 (by decide) ?_
        exact ih (j + 1) _ (by omega) (by rw [i2, nsum, if_neg (fun z => h2 ((zopen_iff (hW.pad j)).mpr z))]) (by omega)
set_option maxRecDepth 20000 in
theorem zp9_X12_told {l : Launch} {D : va_G} {b0 : Nat} {tA : Nat → ClassId} {sa sv : Nat → Nat} {K : zKt} {I : zI} {Qp : zI → Option AV → Prop} {Xp : String → zI → Prop} {A : Nat → Nat} {n7 m7 : Nat} {S : zS}
    (hS : zSh K A n7 m7) (hM : zSt I A n7 m7 S) (hW : zWf S) (k1 : Qp I (some (vi (qState S 9)))) :
    zC l D b0 tA sa sv K yX12_told (.code yX12_told cX12_told 4 (some .int)) zrm_X12_told [vr (A (0)) 17, vi ((9 : Int32))] I Qp Xp := by
  have hA := hS.1
  have hn6 := hM.1.1
  have hm12 := hM.1.2
  have hgn := hM.ng
  have hcm := hM.nc
  have hlen := hW.len
  refine zC_of (by decide +kernel) (Nat.le_of_ble_eq_true rfl) ?_
  intro p e s m args below meth c X hnt
  have X : zX p l e zrm_X12_told s m args below meth c RX12 cX12_told 4 (some .int) D b0 tA sa sv := X
  refine zr_lv (lv2 := [some (vr (A (0)) 17), some (vi ((9 : Int32))), none, none]) rfl ?_
  refine zr_iconst (v := (0 : Int32)) X dX12_told_0 (by decide) ?_
  refine zr_istore2 X (by decide) rfl dX12_told_1 ?_
  refine zr_iconst (v := (0 : Int32)) X dX12_told_2 (by decide) ?_
  refine zr_istore3 X (by decide) rfl dX12_told_3 ?_
  exact zl9_X12_told X hnt hS hM hW k1 (n7 + 1) 0 0 (by omega) rfl (by omega)
set_option maxRecDepth 20000 in
theorem zl10_X12_told {l : Launch} {D : va_G} {b0 : Nat} {tA : Nat → ClassId} {sa sv : Nat → Nat} {K : zKt} {I : zI} {Qp : zI → Option AV → Prop} {Xp : String → zI → Prop} {p : Program} {e : Env} {s : State} {m : MethodId} {args : Array Value} {below : List Frame} {meth : Method} {c : Code} {A : Nat → Nat} {n7 m7 : Nat} {S : zS}
    (X : zX p l e zrm_X12_told s m args below meth c RX12 cX12_told 4 (some .int) D b0 tA sa sv) (hnt : ∀ x ∈ c.exceptionTable.toList, False) (hS : zSh K A n7 m7) (hM : zSt I A n7 m7 S) (hW : zWf S) (k1 : Qp I (some (vi (qState S 10)))) :
    ∀ (n : Nat) (j v : Nat), j ≤ n7 → v = nsum (fun g => if sG S g 2 = 0 then 0 else 1) j → n7 - j < n → zG p l e zrm_X12_told s m args below meth c 4 D b0 tA sa 0 0 (zQ below D b0 tA sa K args s zrm_X12_told Qp Xp) K 4 [some (vr (A (0)) 17), some (vi ((10 : Int32))), some (vi ((nI v))), some (vi ((nI j)))] [] I := by
  intro n
  induction n with
  | zero => intro j v i1 i2 i3; exact absurd i3 (Nat.not_lt_zero _)
  | succ n ih =>
    intro j v i1 i2 i3
    have hA := hS.1
    have hn6 := hM.1.1
    have hm12 := hM.1.2
    have hgn := hM.ng
    have hcm := hM.nc
    have hlen := hW.len
    have hv9 : v ≤ 6 := by rw [i2]; have := nsum_le (f := (fun g => if sG S g 2 = 0 then 0 else 1)) (b := 1) (fun i => by split <;> omega) j; omega
    have hi9 : qInner S ≤ 60 := nsum_le (f := fun g => (sL S g 1).length) (b := 10) (fun i => hW.len i 1) 6
    have hi8 : nsum (fun g => (sL S g 0).length) 6 ≤ 60 := nsum_le (b := 10) (fun i => hW.len i 0) 6
    refine zr_iload3 X dX12_told_4 ?_
    refine zr_aload0 X dX12_told_5 ?_
    refine zr_getI X zf_X12_22 rfl dX12_told_6 ?_
    refine zr_eq (x2 := (nI n7)) ((hM.2.2.1 4 (by decide) (by decide)).trans hM.2.1.1) ?_
    refine zr_nicmp_ge X (j) (n7) (tgt := 33) (by omega) (by omega) dX12_told_9 (by decide) (fun h1 => ?_) (fun h1 => ?_)
    · skip
      refine zr_iload1 X dX12_told_33 ?_
      refine zr_tblIn (off := 139) (tgt := 173) X dX12_told_34 (by decide) (by decide) (by decide) (by decide) ?_
      refine zr_aload0 X dX12_told_173 ?_
      refine zr_getI X zf_X12_47 rfl dX12_told_174 ?_
      refine zr_eq (x2 := (sX S 10)) (hM.2.2.1 10 (by decide) (by decide)) ?_
      refine zr_iret X (by decide) (by decide) dX12_told_177 ?_
      exact k1
    · skip
      refine zr_aload0 X dX12_told_12 ?_
      refine zr_getD (r := A (1)) X zf_X12_27 rfl (by decide) (hS.2.1.2.1) dX12_told_13 ?_
      refine zr_iload3 X dX12_told_16 ?_
      refine zr_aaldD (k := 20) (n := j) (r := A (4 + 5 * j)) X rfl (show _ < 6 from (by first | decide | omega)) ((hS.2.2.1 j (by omega)).1) dX12_told_17 ?_
      refine zr_getI X zf_X12_113 rfl dX12_told_18 ?_
      refine zr_eq (x2 := (sG S j 1)) ((hM.2.2.2.2.1 j (by omega)).1 1 (by decide)) ?_
      refine zr_if_le (tgt := 27) X dX12_told_21 (by decide) (fun h2 => ?_) (fun h2 => ?_)
      · skip
        refine zr_iinc3 (v := (nI (j + 1))) X (show nI (j) + Int32.ofInt 1 = nI (j + 1) from nI_1 (j)) (by decide) rfl dX12_told_27 ?_
        refine zr_goto (tgt := 4) X dX12_told_30 (by decide) ?_
        exact ih (j + 1) _ (by omega) (by rw [i2, nsum, if_pos ((zopen_iff (hW.pad j)).mp h2), Nat.add_zero]) (by omega)
      · skip
        refine zr_iinc2 (v := (nI (v + 1))) X (show nI (v) + Int32.ofInt 1 = nI (v + 1) from nI_1 (v)) (by decide) rfl dX12_told_24 ?_
        refine zr_iinc3 (v := (nI (j + 1))) X (show nI (j) + Int32.ofInt 1 = nI (j + 1) from nI_1 (j)) (by decide) rfl dX12_told_27 ?_
        refine zr_goto (tgt := 4) X dX12_told_30 (by decide) ?_
        exact ih (j + 1) _ (by omega) (by rw [i2, nsum, if_neg (fun z => h2 ((zopen_iff (hW.pad j)).mpr z))]) (by omega)
set_option maxRecDepth 20000 in
theorem zp10_X12_told {l : Launch} {D : va_G} {b0 : Nat} {tA : Nat → ClassId} {sa sv : Nat → Nat} {K : zKt} {I : zI} {Qp : zI → Option AV → Prop} {Xp : String → zI → Prop} {A : Nat → Nat} {n7 m7 : Nat} {S : zS}
    (hS : zSh K A n7 m7) (hM : zSt I A n7 m7 S) (hW : zWf S) (k1 : Qp I (some (vi (qState S 10)))) :
    zC l D b0 tA sa sv K yX12_told (.code yX12_told cX12_told 4 (some .int)) zrm_X12_told [vr (A (0)) 17, vi ((10 : Int32))] I Qp Xp := by
  have hA := hS.1
  have hn6 := hM.1.1
  have hm12 := hM.1.2
  have hgn := hM.ng
  have hcm := hM.nc
  have hlen := hW.len
  refine zC_of (by decide +kernel) (Nat.le_of_ble_eq_true rfl) ?_
  intro p e s m args below meth c X hnt
  have X : zX p l e zrm_X12_told s m args below meth c RX12 cX12_told 4 (some .int) D b0 tA sa sv := X
  refine zr_lv (lv2 := [some (vr (A (0)) 17), some (vi ((10 : Int32))), none, none]) rfl ?_
  refine zr_iconst (v := (0 : Int32)) X dX12_told_0 (by decide) ?_
  refine zr_istore2 X (by decide) rfl dX12_told_1 ?_
  refine zr_iconst (v := (0 : Int32)) X dX12_told_2 (by decide) ?_
  refine zr_istore3 X (by decide) rfl dX12_told_3 ?_
  exact zl10_X12_told X hnt hS hM hW k1 (n7 + 1) 0 0 (by omega) rfl (by omega)
set_option maxRecDepth 20000 in
theorem zl11_X12_told {l : Launch} {D : va_G} {b0 : Nat} {tA : Nat → ClassId} {sa sv : Nat → Nat} {K : zKt} {I : zI} {Qp : zI → Option AV → Prop} {Xp : String → zI → Prop} {p : Program} {e : Env} {s : State} {m : MethodId} {args : Array Value} {below : List Frame} {meth : Method} {c : Code} {A : Nat → Nat} {n7 m7 : Nat} {S : zS}
    (X : zX p l e zrm_X12_told s m args below meth c RX12 cX12_told 4 (some .int) D b0 tA sa sv) (hnt : ∀ x ∈ c.exceptionTable.toList, False) (hS : zSh K A n7 m7) (hM : zSt I A n7 m7 S) (hW : zWf S) (k1 : Qp I (some (vi (qState S 11)))) :
    ∀ (n : Nat) (j v : Nat), j ≤ n7 → v = nsum (fun g => if sG S g 2 = 0 then 0 else 1) j → n7 - j < n → zG p l e zrm_X12_told s m args below meth c 4 D b0 tA sa 0 0 (zQ below D b0 tA sa K args s zrm_X12_told Qp Xp) K 4 [some (vr (A (0)) 17), some (vi ((11 : Int32))), some (vi ((nI v))), some (vi ((nI j)))] [] I := by
  intro n
  induction n with
  | zero => intro j v i1 i2 i3; exact absurd i3 (Nat.not_lt_zero _)
  | succ n ih =>
    intro j v i1 i2 i3
    have hA := hS.1
    have hn6 := hM.1.1
    have hm12 := hM.1.2
    have hgn := hM.ng
    have hcm := hM.nc
    have hlen := hW.len
    have hv9 : v ≤ 6 := by rw [i2]; have := nsum_le (f := (fun g => if sG S g 2 = 0 then 0 else 1)) (b := 1) (fun i => by split <;> omega) j; omega
    have hi9 : qInner S ≤ 60 := nsum_le (f := fun g => (sL S g 1).length) (b := 10) (fun i => hW.len i 1) 6
    have hi8 : nsum (fun g => (sL S g 0).length) 6 ≤ 60 := nsum_le (b := 10) (fun i => hW.len i 0) 6
    refine zr_iload3 X dX12_told_4 ?_
    refine zr_aload0 X dX12_told_5 ?_
    refine zr_getI X zf_X12_22 rfl dX12_told_6 ?_
    refine zr_eq (x2 := (nI n7)) ((hM.2.2.1 4 (by decide) (by decide)).trans hM.2.1.1) ?_
    refine zr_nicmp_ge X (j) (n7) (tgt := 33) (by omega) (by omega) dX12_told_9 (by decide) (fun h1 => ?_) (fun h1 => ?_)
    · skip
      refine zr_iload1 X dX12_told_33 ?_
      refine zr_tblIn (off := 144) (tgt := 178) X dX12_told_34 (by decide) (by decide) (by decide) (by decide) ?_
      refine zr_aload0 X dX12_told_178 ?_
      refine zr_getI X zf_X12_50 rfl dX12_told_179 ?_
      refine zr_eq (x2 := (sX S 11)) (hM.2.2.1 11 (by decide) (by decide)) ?_
      refine zr_iret X (by decide) (by decide) dX12_told_182 ?_
      exact k1
    · skip
      refine zr_aload0 X dX12_told_12 ?_
      refine zr_getD (r := A (1)) X zf_X12_27 rfl (by decide) (hS.2.1.2.1) dX12_told_13 ?_
      refine zr_iload3 X dX12_told_16 ?_
      refine zr_aaldD (k := 20) (n := j) (r := A (4 + 5 * j)) X rfl (show _ < 6 from (by first | decide | omega)) ((hS.2.2.1 j (by omega)).1) dX12_told_17 ?_
      refine zr_getI X zf_X12_113 rfl dX12_told_18 ?_
      refine zr_eq (x2 := (sG S j 1)) ((hM.2.2.2.2.1 j (by omega)).1 1 (by decide)) ?_
      refine zr_if_le (tgt := 27) X dX12_told_21 (by decide) (fun h2 => ?_) (fun h2 => ?_)
      · skip
        refine zr_iinc3 (v := (nI (j + 1))) X (show nI (j) + Int32.ofInt 1 = nI (j + 1) from nI_1 (j)) (by decide) rfl dX12_told_27 ?_
        refine zr_goto (tgt := 4) X dX12_told_30 (by decide) ?_
        exact ih (j + 1) _ (by omega) (by rw [i2, nsum, if_pos ((zopen_iff (hW.pad j)).mp h2), Nat.add_zero]) (by omega)
      · skip
        refine zr_iinc2 (v := (nI (v + 1))) X (show nI (v) + Int32.ofInt 1 = nI (v + 1) from nI_1 (v)) (by decide) rfl dX12_told_24 ?_
        refine zr_iinc3 (v := (nI (j + 1))) X (show nI (j) + Int32.ofInt 1 = nI (j + 1) from nI_1 (j)) (by decide) rfl dX12_told_27 ?_
        refine zr_goto (tgt := 4) X dX12_told_30 (by decide) ?_
        exact ih (j + 1) _ (by omega) (by rw [i2, nsum, if_neg (fun z => h2 ((zopen_iff (hW.pad j)).mpr z))]) (by omega)
set_option maxRecDepth 20000 in
theorem zp11_X12_told {l : Launch} {D : va_G} {b0 : Nat} {tA : Nat → ClassId} {sa sv : Nat → Nat} {K : zKt} {I : zI} {Qp : zI → Option AV → Prop} {Xp : String → zI → Prop} {A : Nat → Nat} {n7 m7 : Nat} {S : zS}
    (hS : zSh K A n7 m7) (hM : zSt I A n7 m7 S) (hW : zWf S) (k1 : Qp I (some (vi (qState S 11)))) :
    zC l D b0 tA sa sv K yX12_told (.code yX12_told cX12_told 4 (some .int)) zrm_X12_told [vr (A (0)) 17, vi ((11 : Int32))] I Qp Xp := by
  have hA := hS.1
  have hn6 := hM.1.1
  have hm12 := hM.1.2
  have hgn := hM.ng
  have hcm := hM.nc
  have hlen := hW.len
  refine zC_of (by decide +kernel) (Nat.le_of_ble_eq_true rfl) ?_
  intro p e s m args below meth c X hnt
  have X : zX p l e zrm_X12_told s m args below meth c RX12 cX12_told 4 (some .int) D b0 tA sa sv := X
  refine zr_lv (lv2 := [some (vr (A (0)) 17), some (vi ((11 : Int32))), none, none]) rfl ?_
  refine zr_iconst (v := (0 : Int32)) X dX12_told_0 (by decide) ?_
  refine zr_istore2 X (by decide) rfl dX12_told_1 ?_
  refine zr_iconst (v := (0 : Int32)) X dX12_told_2 (by decide) ?_
  refine zr_istore3 X (by decide) rfl dX12_told_3 ?_
  exact zl11_X12_told X hnt hS hM hW k1 (n7 + 1) 0 0 (by omega) rfl (by omega)
set_option maxRecDepth 20000 in
theorem zl12_X12_told {l : Launch} {D : va_G} {b0 : Nat} {tA : Nat → ClassId} {sa sv : Nat → Nat} {K : zKt} {I : zI} {Qp : zI → Option AV → Prop} {Xp : String → zI → Prop} {p : Program} {e : Env} {s : State} {m : MethodId} {args : Array Value} {below : List Frame} {meth : Method} {c : Code} {A : Nat → Nat} {n7 m7 : Nat} {S : zS}
    (X : zX p l e zrm_X12_told s m args below meth c RX12 cX12_told 4 (some .int) D b0 tA sa sv) (hnt : ∀ x ∈ c.exceptionTable.toList, False) (hS : zSh K A n7 m7) (hM : zSt I A n7 m7 S) (hW : zWf S) (k1 : Qp I (some (vi (qState S 12)))) :
    ∀ (n : Nat) (j v : Nat), j ≤ n7 → v = nsum (fun g => if sG S g 2 = 0 then 0 else 1) j → n7 - j < n → zG p l e zrm_X12_told s m args below meth c 4 D b0 tA sa 0 0 (zQ below D b0 tA sa K args s zrm_X12_told Qp Xp) K 4 [some (vr (A (0)) 17), some (vi ((12 : Int32))), some (vi ((nI v))), some (vi ((nI j)))] [] I := by
  intro n
  induction n with
  | zero => intro j v i1 i2 i3; exact absurd i3 (Nat.not_lt_zero _)
  | succ n ih =>
    intro j v i1 i2 i3
    have hA := hS.1
    have hn6 := hM.1.1
    have hm12 := hM.1.2
    have hgn := hM.ng
    have hcm := hM.nc
    have hlen := hW.len
    have hv9 : v ≤ 6 := by rw [i2]; have := nsum_le (f := (fun g => if sG S g 2 = 0 then 0 else 1)) (b := 1) (fun i => by split <;> omega) j; omega
    have hi9 : qInner S ≤ 60 := nsum_le (f := fun g => (sL S g 1).length) (b := 10) (fun i => hW.len i 1) 6
    have hi8 : nsum (fun g => (sL S g 0).length) 6 ≤ 60 := nsum_le (b := 10) (fun i => hW.len i 0) 6
    refine zr_iload3 X dX12_told_4 ?_
    refine zr_aload0 X dX12_told_5 ?_
    refine zr_getI X zf_X12_22 rfl dX12_told_6 ?_
    refine zr_eq (x2 := (nI n7)) ((hM.2.2.1 4 (by decide) (by decide)).trans hM.2.1.1) ?_
    refine zr_nicmp_ge X (j) (n7) (tgt := 33) (by omega) (by omega) dX12_told_9 (by decide) (fun h1 => ?_) (fun h1 => ?_)
    · skip
      refine zr_iload1 X dX12_told_33 ?_
      refine zr_tblIn (off := 149) (tgt := 183) X dX12_told_34 (by decide) (by decide) (by decide) (by decide) ?_
      refine zr_aload0 X dX12_told_183 ?_
      refine zr_getI X zf_X12_53 rfl dX12_told_184 ?_
      refine zr_eq (x2 := (sX S 12)) (hM.2.2.1 12 (by decide) (by decide)) ?_
      refine zr_iret X (by decide) (by decide) dX12_told_187 ?_
      exact k1
    · skip
      refine zr_aload0 X dX12_told_12 ?_
      refine zr_getD (r := A (1)) X zf_X12_27 rfl (by decide) (hS.2.1.2.1) dX12_told_13 ?_
      refine zr_iload3 X dX12_told_16 ?_
      refine zr_aaldD (k := 20) (n := j) (r := A (4 + 5 * j)) X rfl (show _ < 6 from (by first | decide | omega)) ((hS.2.2.1 j (by omega)).1) dX12_told_17 ?_
      refine zr_getI X zf_X12_113 rfl dX12_told_18 ?_
      refine zr_eq (x2 := (sG S j 1)) ((hM.2.2.2.2.1 j (by omega)).1 1 (by decide)) ?_
      refine zr_if_le (tgt := 27) X dX12_told_21 (by decide) (fun h2 => ?_) (fun h2 => ?_)
      · skip
        refine zr_iinc3 (v := (nI (j + 1))) X (show nI (j) + Int32.ofInt 1 = nI (j + 1) from nI_1 (j)) (by decide) rfl dX12_told_27 ?_
        refine zr_goto (tgt := 4) X dX12_told_30 (by decide) ?_
        exact ih (j + 1) _ (by omega) (by rw [i2, nsum, if_pos ((zopen_iff (hW.pad j)).mp h2), Nat.add_zero]) (by omega)
      · skip
        refine zr_iinc2 (v := (nI (v + 1))) X (show nI (v) + Int32.ofInt 1 = nI (v + 1) from nI_1 (v)) (by decide) rfl dX12_told_24 ?_
        refine zr_iinc3 (v := (nI (j + 1))) X (show nI (j) + Int32.ofInt 1 = nI (j + 1) from nI_1 (j)) (by decide) rfl dX12_told_27 ?_
        refine zr_goto (tgt := 4) X dX12_told_30 (by decide) ?_
        exact ih (j + 1) _ (by omega) (by rw [i2, nsum, if_neg (fun z => h2 ((zopen_iff (hW.pad j)).mpr z))]) (by omega)
set_option maxRecDepth 20000 in
theorem zp12_X12_told {l : Launch} {D : va_G} {b0 : Nat} {tA : Nat → ClassId} {sa sv : Nat → Nat} {K : zKt} {I : zI} {Qp : zI → Option AV → Prop} {Xp : String → zI → Prop} {A : Nat → Nat} {n7 m7 : Nat} {S : zS}
    (hS : zSh K A n7 m7) (hM : zSt I A n7 m7 S) (hW : zWf S) (k1 : Qp I (some (vi (qState S 12)))) :
    zC l D b0 tA sa sv K yX12_told (.code yX12_told cX12_told 4 (some .int)) zrm_X12_told [vr (A (0)) 17, vi ((12 : Int32))] I Qp Xp := by
  have hA := hS.1
  have hn6 := hM.1.1
  have hm12 := hM.1.2
  have hgn := hM.ng
  have hcm := hM.nc
  have hlen := hW.len
  refine zC_of (by decide +kernel) (Nat.le_of_ble_eq_true rfl) ?_
  intro p e s m args below meth c X hnt
  have X : zX p l e zrm_X12_told s m args below meth c RX12 cX12_told 4 (some .int) D b0 tA sa sv := X
  refine zr_lv (lv2 := [some (vr (A (0)) 17), some (vi ((12 : Int32))), none, none]) rfl ?_
  refine zr_iconst (v := (0 : Int32)) X dX12_told_0 (by decide) ?_
  refine zr_istore2 X (by decide) rfl dX12_told_1 ?_
  refine zr_iconst (v := (0 : Int32)) X dX12_told_2 (by decide) ?_
  refine zr_istore3 X (by decide) rfl dX12_told_3 ?_
  exact zl12_X12_told X hnt hS hM hW k1 (n7 + 1) 0 0 (by omega) rfl (by omega)
set_option maxRecDepth 20000 in
theorem zl13_X12_told {l : Launch} {D : va_G} {b0 : Nat} {tA : Nat → ClassId} {sa sv : Nat → Nat} {K : zKt} {I : zI} {Qp : zI → Option AV → Prop} {Xp : String → zI → Prop} {p : Program} {e : Env} {s : State} {m : MethodId} {args : Array Value} {below : List Frame} {meth : Method} {c : Code} {A : Nat → Nat} {n7 m7 : Nat} {S : zS}
    (X : zX p l e zrm_X12_told s m args below meth c RX12 cX12_told 4 (some .int) D b0 tA sa sv) (hnt : ∀ x ∈ c.exceptionTable.toList, False) (hS : zSh K A n7 m7) (hM : zSt I A n7 m7 S) (hW : zWf S) (k1 : Qp I (some (vi (qState S 13)))) :
    ∀ (n : Nat) (j v : Nat), j ≤ n7 → v = nsum (fun g => if sG S g 2 = 0 then 0 else 1) j → n7 - j < n → zG p l e zrm_X12_told s m args below meth c 4 D b0 tA sa 0 0 (zQ below D b0 tA sa K args s zrm_X12_told Qp Xp) K 4 [some (vr (A (0)) 17), some (vi ((13 : Int32))), some (vi ((nI v))), some (vi ((nI j)))] [] I := by
  intro n
  induction n with
  | zero => intro j v i1 i2 i3; exact absurd i3 (Nat.not_lt_zero _)
  | succ n ih =>
    intro j v i1 i2 i3
    have hA := hS.1
    have hn6 := hM.1.1
    have hm12 := hM.1.2
    have hgn := hM.ng
    have hcm := hM.nc
    have hlen := hW.len
    have hv9 : v ≤ 6 := by rw [i2]; have := nsum_le (f := (fun g => if sG S g 2 = 0 then 0 else 1)) (b := 1) (fun i => by split <;> omega) j; omega
    have hi9 : qInner S ≤ 60 := nsum_le (f := fun g => (sL S g 1).length) (b := 10) (fun i => hW.len i 1) 6
    have hi8 : nsum (fun g => (sL S g 0).length) 6 ≤ 60 := nsum_le (b := 10) (fun i => hW.len i 0) 6
    refine zr_iload3 X dX12_told_4 ?_
    refine zr_aload0 X dX12_told_5 ?_
    refine zr_getI X zf_X12_22 rfl dX12_told_6 ?_
    refine zr_eq (x2 := (nI n7)) ((hM.2.2.1 4 (by decide) (by decide)).trans hM.2.1.1) ?_
    refine zr_nicmp_ge X (j) (n7) (tgt := 33) (by omega) (by omega) dX12_told_9 (by decide) (fun h1 => ?_) (fun h1 => ?_)
    · skip
      refine zr_iload1 X dX12_told_33 ?_
      refine zr_tblIn (off := 154) (tgt := 188) X dX12_told_34 (by decide) (by decide) (by decide) (by decide) ?_
      refine zr_aload0 X dX12_told_188 ?_
      refine zr_getI X zf_X12_56 rfl dX12_told_189 ?_
      refine zr_eq (x2 := (sX S 13)) (hM.2.2.1 13 (by decide) (by decide)) ?_
      refine zr_iret X (by decide) (by decide) dX12_told_192 ?_
      exact k1
    · skip
      refine zr_aload0 X dX12_told_12 ?_
      refine zr_getD (r := A (1)) X zf_X12_27 rfl (by decide) (hS.2.1.2.1) dX12_told_13 ?_
      refine zr_iload3 X dX12_told_16 ?_
      refine zr_aaldD (k := 20) (n := j) (r := A (4 + 5 * j)) X rfl (show _ < 6 from (by first | decide | omega)) ((hS.2.2.1 j (by omega)).1) dX12_told_17 ?_
      refine zr_getI X zf_X12_113 rfl dX12_told_18 ?_
      refine zr_eq (x2 := (sG S j 1)) ((hM.2.2.2.2.1 j (by omega)).1 1 (by decide)) ?_
      refine zr_if_le (tgt := 27) X dX12_told_21 (by decide) (fun h2 => ?_) (fun h2 => ?_)
      · skip
        refine zr_iinc3 (v := (nI (j + 1))) X (show nI (j) + Int32.ofInt 1 = nI (j + 1) from nI_1 (j)) (by decide) rfl dX12_told_27 ?_
        refine zr_goto (tgt := 4) X dX12_told_30 (by decide) ?_
        exact ih (j + 1) _ (by omega) (by rw [i2, nsum, if_pos ((zopen_iff (hW.pad j)).mp h2), Nat.add_zero]) (by omega)
      · skip
        refine zr_iinc2 (v := (nI (v + 1))) X (show nI (v) + Int32.ofInt 1 = nI (v + 1) from nI_1 (v)) (by decide) rfl dX12_told_24 ?_
        refine zr_iinc3 (v := (nI (j + 1))) X (show nI (j) + Int32.ofInt 1 = nI (j + 1) from nI_1 (j)) (by decide) rfl dX12_told_27 ?_
        refine zr_goto (tgt := 4) X dX12_told_30 (by decide) ?_
        exact ih (j + 1) _ (by omega) (by rw [i2, nsum, if_neg (fun z => h2 ((zopen_iff (hW.pad j)).mpr z))]) (by omega)
set_option maxRecDepth 20000 in
theorem zp13_X12_told {l : Launch} {D : va_G} {b0 : Nat} {tA : Nat → ClassId} {sa sv : Nat → Nat} {K : zKt} {I : zI} {Qp : zI → Option AV → Prop} {Xp : String → zI → Prop} {A : Nat → Nat} {n7 m7 : Nat} {S : zS}
    (hS : zSh K A n7 m7) (hM : zSt I A n7 m7 S) (hW : zWf S) (k1 : Qp I (some (vi (qState S 13)))) :
    zC l D b0 tA sa sv K yX12_told (.code yX12_told cX12_told 4 (some .int)) zrm_X12_told [vr (A (0)) 17, vi ((13 : Int32))] I Qp Xp := by
  have hA := hS.1
  have hn6 := hM.1.1
  have hm12 := hM.1.2
  have hgn := hM.ng
  have hcm := hM.nc
  have hlen := hW.len
  refine zC_of (by decide +kernel) (Nat.le_of_ble_eq_true rfl) ?_
  intro p e s m args below meth c X hnt
  have X : zX p l e zrm_X12_told s m args below meth c RX12 cX12_told 4 (some .int) D b0 tA sa sv := X
  refine zr_lv (lv2 := [some (vr (A (0)) 17), some (vi ((13 : Int32))), none, none]) rfl ?_
  refine zr_iconst (v := (0 : Int32)) X dX12_told_0 (by decide) ?_
  refine zr_istore2 X (by decide) rfl dX12_told_1 ?_
  refine zr_iconst (v := (0 : Int32)) X dX12_told_2 (by decide) ?_
  refine zr_istore3 X (by decide) rfl dX12_told_3 ?_
  exact zl13_X12_told X hnt hS hM hW k1 (n7 + 1) 0 0 (by omega) rfl (by omega)
set_option maxRecDepth 20000 in
theorem zl14_X12_told {l : Launch} {D : va_G} {b0 : Nat} {tA : Nat → ClassId} {sa sv : Nat → Nat} {K : zKt} {I : zI} {Qp : zI → Option AV → Prop} {Xp : String → zI → Prop} {p : Program} {e : Env} {s : State} {m : MethodId} {args : Array Value} {below : List Frame} {meth : Method} {c : Code} {A : Nat → Nat} {n7 m7 : Nat} {S : zS}
    (X : zX p l e zrm_X12_told s m args below meth c RX12 cX12_told 4 (some .int) D b0 tA sa sv) (hnt : ∀ x ∈ c.exceptionTable.toList, False) (hS : zSh K A n7 m7) (hM : zSt I A n7 m7 S) (hW : zWf S) (k1 : Qp I (some (vi (qState S 14)))) :
    ∀ (n : Nat) (j v : Nat), j ≤ n7 → v = nsum (fun g => if sG S g 2 = 0 then 0 else 1) j → n7 - j < n → zG p l e zrm_X12_told s m args below meth c 4 D b0 tA sa 0 0 (zQ below D b0 tA sa K args s zrm_X12_told Qp Xp) K 4 [some (vr (A (0)) 17), some (vi ((14 : Int32))), some (vi ((nI v))), some (vi ((nI j)))] [] I := by
  intro n
  induction n with
  | zero => intro j v i1 i2 i3; exact absurd i3 (Nat.not_lt_zero _)
  | succ n ih =>
    intro j v i1 i2 i3
    have hA := hS.1
    have hn6 := hM.1.1
    have hm12 := hM.1.2
    have hgn := hM.ng
    have hcm := hM.nc
    have hlen := hW.len
    have hv9 : v ≤ 6 := by rw [i2]; have := nsum_le (f := (fun g => if sG S g 2 = 0 then 0 else 1)) (b := 1) (fun i => by split <;> omega) j; omega
    have hi9 : qInner S ≤ 60 := nsum_le (f := fun g => (sL S g 1).length) (b := 10) (fun i => hW.len i 1) 6
    have hi8 : nsum (fun g => (sL S g 0).length) 6 ≤ 60 := nsum_le (b := 10) (fun i => hW.len i 0) 6
    refine zr_iload3 X dX12_told_4 ?_
    refine zr_aload0 X dX12_told_5 ?_
    refine zr_getI X zf_X12_22 rfl dX12_told_6 ?_
    refine zr_eq (x2 := (nI n7)) ((hM.2.2.1 4 (by decide) (by decide)).trans hM.2.1.1) ?_
    refine zr_nicmp_ge X (j) (n7) (tgt := 33) (by omega) (by omega) dX12_told_9 (by decide) (fun h1 => ?_) (fun h1 => ?_)
    · skip
      refine zr_iload1 X dX12_told_33 ?_
      refine zr_tblIn (off := 159) (tgt := 193) X dX12_told_34 (by decide) (by decide) (by decide) (by decide) ?_
      refine zr_aload0 X dX12_told_193 ?_
      refine zr_getI X zf_X12_59 rfl dX12_told_194 ?_
      refine zr_eq (x2 := (sX S 14)) (hM.2.2.1 14 (by decide) (by decide)) ?_
      refine zr_iret X (by decide) (by decide) dX12_told_197 ?_
      exact k1
    · skip
      refine zr_aload0 X dX12_told_12 ?_
      refine zr_getD (r := A (1)) X zf_X12_27 rfl (by decide) (hS.2.1.2.1) dX12_told_13 ?_
      refine zr_iload3 X dX12_told_16 ?_
      refine zr_aaldD (k := 20) (n := j) (r := A (4 + 5 * j)) X rfl (show _ < 6 from (by first | decide | omega)) ((hS.2.2.1 j (by omega)).1) dX12_told_17 ?_
      refine zr_getI X zf_X12_113 rfl dX12_told_18 ?_
      refine zr_eq (x2 := (sG S j 1)) ((hM.2.2.2.2.1 j (by omega)).1 1 (by decide)) ?_
      refine zr_if_le (tgt := 27) X dX12_told_21 (by decide) (fun h2 => ?_) (fun h2 => ?_)
      · skip
        refine zr_iinc3 (v := (nI (j + 1))) X (show nI (j) + Int32.ofInt 1 = nI (j + 1) from nI_1 (j)) (by decide) rfl dX12_told_27 ?_
        refine zr_goto (tgt := 4) X dX12_told_30 (by decide) ?_
        exact ih (j + 1) _ (by omega) (by rw [i2, nsum, if_pos ((zopen_iff (hW.pad j)).mp h2), Nat.add_zero]) (by omega)
      · skip
        refine zr_iinc2 (v := (nI (v + 1))) X (show nI (v) + Int32.ofInt 1 = nI (v + 1) from nI_1 (v)) (by decide) rfl dX12_told_24 ?_
        refine zr_iinc3 (v := (nI (j + 1))) X (show nI (j) + Int32.ofInt 1 = nI (j + 1) from nI_1 (j)) (by decide) rfl dX12_told_27 ?_
        refine zr_goto (tgt := 4) X dX12_told_30 (by decide) ?_
        exact ih (j + 1) _ (by omega) (by rw [i2, nsum, if_neg (fun z => h2 ((zopen_iff (hW.pad j)).mpr z))]) (by omega)
set_option maxRecDepth 20000 in
theorem zp14_X12_told {l : Launch} {D : va_G} {b0 : Nat} {tA : Nat → ClassId} {sa sv : Nat → Nat} {K : zKt} {I : zI} {Qp : zI → Option AV → Prop} {Xp : String → zI → Prop} {A : Nat → Nat} {n7 m7 : Nat} {S : zS}
    (hS : zSh K A n7 m7) (hM : zSt I A n7 m7 S) (hW : zWf S) (k1 : Qp I (some (vi (qState S 14)))) :
    zC l D b0 tA sa sv K yX12_told (.code yX12_told cX12_told 4 (some .int)) zrm_X12_told [vr (A (0)) 17, vi ((14 : Int32))] I Qp Xp := by
  have hA := hS.1
  have hn6 := hM.1.1
  have hm12 := hM.1.2
  have hgn := hM.ng
  have hcm := hM.nc
  have hlen := hW.len
  refine zC_of (by decide +kernel) (Nat.le_of_ble_eq_true rfl) ?_
  intro p e s m args below meth c X hnt
  have X : zX p l e zrm_X12_told s m args below meth c RX12 cX12_told 4 (some .int) D b0 tA sa sv := X
  refine zr_lv (lv2 := [some (vr (A (0)) 17), some (vi ((14 : Int32))), none, none]) rfl ?_
  refine zr_iconst (v := (0 : Int32)) X dX12_told_0 (by decide) ?_
  refine zr_istore2 X (by decide) rfl dX12_told_1 ?_
  refine zr_iconst (v := (0 : Int32)) X dX12_told_2 (by decide) ?_
  refine zr_istore3 X (by decide) rfl dX12_told_3 ?_
  exact zl14_X12_told X hnt hS hM hW k1 (n7 + 1) 0 0 (by omega) rfl (by omega)
set_option maxRecDepth 20000 in
theorem zl15_X12_told {l : Launch} {D : va_G} {b0 : Nat} {tA : Nat → ClassId} {sa sv : Nat → Nat} {K : zKt} {I : zI} {Qp : zI → Option AV → Prop} {Xp : String → zI → Prop} {p : Program} {e : Env} {s : State} {m : MethodId} {args : Array Value} {below : List Frame} {meth : Method} {c : Code} {A : Nat → Nat} {n7 m7 : Nat} {S : zS}
    (X : zX p l e zrm_X12_told s m args below meth c RX12 cX12_told 4 (some .int) D b0 tA sa sv) (hnt : ∀ x ∈ c.exceptionTable.toList, False) (hS : zSh K A n7 m7) (hM : zSt I A n7 m7 S) (hW : zWf S) (k1 : Qp I (some (vi (qState S 15)))) :
    ∀ (n : Nat) (j v : Nat), j ≤ n7 → v = nsum (fun g => if sG S g 2 = 0 then 0 else 1) j → n7 - j < n → zG p l e zrm_X12_told s m args below meth c 4 D b0 tA sa 0 0 (zQ below D b0 tA sa K args s zrm_X12_told Qp Xp) K 4 [some (vr (A (0)) 17), some (vi ((15 : Int32))), some (vi ((nI v))), some (vi ((nI j)))] [] I := by
  intro n
  induction n with
  | zero => intro j v i1 i2 i3; exact absurd i3 (Nat.not_lt_zero _)
  | succ n ih =>
    intro j v i1 i2 i3
    have hA := hS.1
    have hn6 := hM.1.1
    have hm12 := hM.1.2
    have hgn := hM.ng
    have hcm := hM.nc
    have hlen := hW.len
    have hv9 : v ≤ 6 := by rw [i2]; have := nsum_le (f := (fun g => if sG S g 2 = 0 then 0 else 1)) (b := 1) (fun i => by split <;> omega) j; omega
    have hi9 : qInner S ≤ 60 := nsum_le (f := fun g => (sL S g 1).length) (b := 10) (fun i => hW.len i 1) 6
    have hi8 : nsum (fun g => (sL S g 0).length) 6 ≤ 60 := nsum_le (b := 10) (fun i => hW.len i 0) 6
    refine zr_iload3 X dX12_told_4 ?_
    refine zr_aload0 X dX12_told_5 ?_
    refine zr_getI X zf_X12_22 rfl dX12_told_6 ?_
    refine zr_eq (x2 := (nI n7)) ((hM.2.2.1 4 (by decide) (by decide)).trans hM.2.1.1) ?_
    refine zr_nicmp_ge X (j) (n7) (tgt := 33) (by omega) (by omega) dX12_told_9 (by decide) (fun h1 => ?_) (fun h1 => ?_)
    · skip
      refine zr_iload1 X dX12_told_33 ?_
      refine zr_tblOut (tgt := 198) X dX12_told_34 (by decide) (by decide) ?_
      refine zr_iload2 X dX12_told_198 ?_
      refine zr_iret X (by decide) (by decide) dX12_told_199 ?_
      have e9 : v = qOpenN S := by rw [i2, show j = n7 by omega, ← hgn]; exact (nsum_tail (fun i hi => by rw [(hW.blank i hi).1 2]; rfl) 6 hW.ng.1).symm
      rw [e9] at *; exact k1
    · skip
      refine zr_aload0 X dX12_told_12 ?_
      refine zr_getD (r := A (1)) X zf_X12_27 rfl (by decide) (hS.2.1.2.1) dX12_told_13 ?_
      refine zr_iload3 X dX12_told_16 ?_
      refine zr_aaldD (k := 20) (n := j) (r := A (4 + 5 * j)) X rfl (show _ < 6 from (by first | decide | omega)) ((hS.2.2.1 j (by omega)).1) dX12_told_17 ?_
      refine zr_getI X zf_X12_113 rfl dX12_told_18 ?_
      refine zr_eq (x2 := (sG S j 1)) ((hM.2.2.2.2.1 j (by omega)).1 1 (by decide)) ?_
      refine zr_if_le (tgt := 27) X dX12_told_21 (by decide) (fun h2 => ?_) (fun h2 => ?_)
      · skip
        refine zr_iinc3 (v := (nI (j + 1))) X (show nI (j) + Int32.ofInt 1 = nI (j + 1) from nI_1 (j)) (by decide) rfl dX12_told_27 ?_
        refine zr_goto (tgt := 4) X dX12_told_30 (by decide) ?_
        exact ih (j + 1) _ (by omega) (by rw [i2, nsum, if_pos ((zopen_iff (hW.pad j)).mp h2), Nat.add_zero]) (by omega)
      · skip
        refine zr_iinc2 (v := (nI (v + 1))) X (show nI (v) + Int32.ofInt 1 = nI (v + 1) from nI_1 (v)) (by decide) rfl dX12_told_24 ?_
        refine zr_iinc3 (v := (nI (j + 1))) X (show nI (j) + Int32.ofInt 1 = nI (j + 1) from nI_1 (j)) (by decide) rfl dX12_told_27 ?_
        refine zr_goto (tgt := 4) X dX12_told_30 (by decide) ?_
        exact ih (j + 1) _ (by omega) (by rw [i2, nsum, if_neg (fun z => h2 ((zopen_iff (hW.pad j)).mpr z))]) (by omega)
set_option maxRecDepth 20000 in
theorem zp15_X12_told {l : Launch} {D : va_G} {b0 : Nat} {tA : Nat → ClassId} {sa sv : Nat → Nat} {K : zKt} {I : zI} {Qp : zI → Option AV → Prop} {Xp : String → zI → Prop} {A : Nat → Nat} {n7 m7 : Nat} {S : zS}
    (hS : zSh K A n7 m7) (hM : zSt I A n7 m7 S) (hW : zWf S) (k1 : Qp I (some (vi (qState S 15)))) :
    zC l D b0 tA sa sv K yX12_told (.code yX12_told cX12_told 4 (some .int)) zrm_X12_told [vr (A (0)) 17, vi ((15 : Int32))] I Qp Xp := by
  have hA := hS.1
  have hn6 := hM.1.1
  have hm12 := hM.1.2
  have hgn := hM.ng
  have hcm := hM.nc
  have hlen := hW.len
  refine zC_of (by decide +kernel) (Nat.le_of_ble_eq_true rfl) ?_
  intro p e s m args below meth c X hnt
  have X : zX p l e zrm_X12_told s m args below meth c RX12 cX12_told 4 (some .int) D b0 tA sa sv := X
  refine zr_lv (lv2 := [some (vr (A (0)) 17), some (vi ((15 : Int32))), none, none]) rfl ?_
  refine zr_iconst (v := (0 : Int32)) X dX12_told_0 (by decide) ?_
  refine zr_istore2 X (by decide) rfl dX12_told_1 ?_
  refine zr_iconst (v := (0 : Int32)) X dX12_told_2 (by decide) ?_
  refine zr_istore3 X (by decide) rfl dX12_told_3 ?_
  exact zl15_X12_told X hnt hS hM hW k1 (n7 + 1) 0 0 (by omega) rfl (by omega)
theorem zq_X12_told {l : Launch} {D : va_G} {b0 : Nat} {tA : Nat → ClassId} {sa sv : Nat → Nat} {K : zKt} {I : zI} {Qp : zI → Option AV → Prop} {Xp : String → zI → Prop} {A : Nat → Nat} {n7 m7 w9 : Nat} {S : zS} (hS : zSh K A n7 m7) (hM : zSt I A n7 m7 S) (hW : zWf S) (hw9 : w9 < 16) (k1 : Qp I (some (vi (qState S w9)))) :
    zC l D b0 tA sa sv K yX12_told (.code yX12_told cX12_told 4 (some .int)) zrm_X12_told [vr (A (0)) 17, vi ((nI w9))] I Qp Xp := by
  rcases (show w9 = 0 ∨ w9 = 1 ∨ w9 = 2 ∨ w9 = 3 ∨ w9 = 4 ∨ w9 = 5 ∨ w9 = 6 ∨ w9 = 7 ∨ w9 = 8 ∨ w9 = 9 ∨ w9 = 10 ∨ w9 = 11 ∨ w9 = 12 ∨ w9 = 13 ∨ w9 = 14 ∨ w9 = 15 by omega) with rfl | rfl | rfl | rfl | rfl | rfl | rfl | rfl | rfl | rfl | rfl | rfl | rfl | rfl | rfl | rfl
  · exact zp0_X12_told hS hM hW k1
  · exact zp1_X12_told hS hM hW k1
  · exact zp2_X12_told hS hM hW k1
  · exact zp3_X12_told hS hM hW k1
  · exact zp4_X12_told hS hM hW k1
  · exact zp5_X12_told hS hM hW k1
  · exact zp6_X12_told hS hM hW k1
  · exact zp7_X12_told hS hM hW k1
  · exact zp8_X12_told hS hM hW k1
  · exact zp9_X12_told hS hM hW k1
  · exact zp10_X12_told hS hM hW k1
  · exact zp11_X12_told hS hM hW k1
  · exact zp12_X12_told hS hM hW k1
  · exact zp13_X12_told hS hM hW k1
  · exact zp14_X12_told hS hM hW k1
  · exact zp15_X12_told hS hM hW k1
abbrev zrm_X12_ofGate : Room := { frames := 0, cells := 0, slots := 0, locals := 0 }
set_option maxRecDepth 20000 in
theorem zp0_X12_ofGate {l : Launch} {D : va_G} {b0 : Nat} {tA : Nat → ClassId} {sa sv : Nat → Nat} {K : zKt} {I : zI} {Qp : zI → Option AV → Prop} {Xp : String → zI → Prop} {A : Nat → Nat} {n7 m7 g : Nat} {S : zS}
    (hS : zSh K A n7 m7) (hM : zSt I A n7 m7 S) (hg : g < n7) (k1 : Qp I (some (vi (qGate S g 0)))) :
    zC l D b0 tA sa sv K yX12_ofGate (.code yX12_ofGate cX12_ofGate 4 (some .int)) zrm_X12_ofGate [vr (A (0)) 17, vi ((nI g)), vi ((0 : Int32))] I Qp Xp := by
  have hA := hS.1
  have hn6 := hM.1.1
  have hm12 := hM.1.2
  refine zC_of (by decide +kernel) (Nat.le_of_ble_eq_true rfl) ?_
  intro p e s m args below meth c X hnt
  have X : zX p l e zrm_X12_ofGate s m args below meth c RX12 cX12_ofGate 4 (some .int) D b0 tA sa sv := X
  refine zr_lv (lv2 := [some (vr (A (0)) 17), some (vi ((nI g))), some (vi ((0 : Int32))), none]) rfl ?_
  refine zr_aload0 X dX12_ofGate_0 ?_
  refine zr_getD (r := A (1)) X zf_X12_27 rfl (by decide) (hS.2.1.2.1) dX12_ofGate_1 ?_
  refine zr_iload1 X dX12_ofGate_4 ?_
  refine zr_aaldD (k := 20) (n := g) (r := A (4 + 5 * g)) X rfl (show _ < 6 from (by first | decide | omega)) ((hS.2.2.1 g (by omega)).1) dX12_ofGate_5 ?_
  refine zr_astore3 X (by decide) rfl dX12_ofGate_6 ?_
  refine zr_iload2 X dX12_ofGate_7 ?_
  refine zr_tblIn (off := 48) (tgt := 56) X dX12_ofGate_8 (by decide) (by decide) (by decide) (by decide) ?_
  refine zr_aload3 X dX12_ofGate_56 ?_
  refine zr_getI X zf_X12_171 rfl dX12_ofGate_57 ?_
  refine zr_eq (x2 := (sG S g 0)) ((hM.2.2.2.2.1 g (by omega)).1 0 (by decide)) ?_
  refine zr_iret X (by decide) (by decide) dX12_ofGate_60 ?_
  exact k1
set_option maxRecDepth 20000 in
theorem zp1_X12_ofGate {l : Launch} {D : va_G} {b0 : Nat} {tA : Nat → ClassId} {sa sv : Nat → Nat} {K : zKt} {I : zI} {Qp : zI → Option AV → Prop} {Xp : String → zI → Prop} {A : Nat → Nat} {n7 m7 g : Nat} {S : zS}
    (hS : zSh K A n7 m7) (hM : zSt I A n7 m7 S) (hg : g < n7) (k1 : Qp I (some (vi (qGate S g 1)))) :
    zC l D b0 tA sa sv K yX12_ofGate (.code yX12_ofGate cX12_ofGate 4 (some .int)) zrm_X12_ofGate [vr (A (0)) 17, vi ((nI g)), vi ((1 : Int32))] I Qp Xp := by
  have hA := hS.1
  have hn6 := hM.1.1
  have hm12 := hM.1.2
  refine zC_of (by decide +kernel) (Nat.le_of_ble_eq_true rfl) ?_
  intro p e s m args below meth c X hnt
  have X : zX p l e zrm_X12_ofGate s m args below meth c RX12 cX12_ofGate 4 (some .int) D b0 tA sa sv := X
  refine zr_lv (lv2 := [some (vr (A (0)) 17), some (vi ((nI g))), some (vi ((1 : Int32))), none]) rfl ?_
  refine zr_aload0 X dX12_ofGate_0 ?_
  refine zr_getD (r := A (1)) X zf_X12_27 rfl (by decide) (hS.2.1.2.1) dX12_ofGate_1 ?_
  refine zr_iload1 X dX12_ofGate_4 ?_
  refine zr_aaldD (k := 20) (n := g) (r := A (4 + 5 * g)) X rfl (show _ < 6 from (by first | decide | omega)) ((hS.2.2.1 g (by omega)).1) dX12_ofGate_5 ?_
  refine zr_astore3 X (by decide) rfl dX12_ofGate_6 ?_
  refine zr_iload2 X dX12_ofGate_7 ?_
  refine zr_tblIn (off := 53) (tgt := 61) X dX12_ofGate_8 (by decide) (by decide) (by decide) (by decide) ?_
  refine zr_aload3 X dX12_ofGate_61 ?_
  refine zr_getI X zf_X12_113 rfl dX12_ofGate_62 ?_
  refine zr_eq (x2 := (sG S g 1)) ((hM.2.2.2.2.1 g (by omega)).1 1 (by decide)) ?_
  refine zr_iret X (by decide) (by decide) dX12_ofGate_65 ?_
  exact k1
set_option maxRecDepth 20000 in
theorem zp2_X12_ofGate {l : Launch} {D : va_G} {b0 : Nat} {tA : Nat → ClassId} {sa sv : Nat → Nat} {K : zKt} {I : zI} {Qp : zI → Option AV → Prop} {Xp : String → zI → Prop} {A : Nat → Nat} {n7 m7 g : Nat} {S : zS}
    (hS : zSh K A n7 m7) (hM : zSt I A n7 m7 S) (hg : g < n7) (k1 : Qp I (some (vi (qGate S g 2)))) :
    zC l D b0 tA sa sv K yX12_ofGate (.code yX12_ofGate cX12_ofGate 4 (some .int)) zrm_X12_ofGate [vr (A (0)) 17, vi ((nI g)), vi ((2 : Int32))] I Qp Xp := by
  have hA := hS.1
  have hn6 := hM.1.1
  have hm12 := hM.1.2
  refine zC_of (by decide +kernel) (Nat.le_of_ble_eq_true rfl) ?_
  intro p e s m args below meth c X hnt
  have X : zX p l e zrm_X12_ofGate s m args below meth c RX12 cX12_ofGate 4 (some .int) D b0 tA sa sv := X
  refine zr_lv (lv2 := [some (vr (A (0)) 17), some (vi ((nI g))), some (vi ((2 : Int32))), none]) rfl ?_
  refine zr_aload0 X dX12_ofGate_0 ?_
  refine zr_getD (r := A (1)) X zf_X12_27 rfl (by decide) (hS.2.1.2.1) dX12_ofGate_1 ?_
  refine zr_iload1 X dX12_ofGate_4 ?_
  refine zr_aaldD (k := 20) (n := g) (r := A (4 + 5 * g)) X rfl (show _ < 6 from (by first | decide | omega)) ((hS.2.2.1 g (by omega)).1) dX12_ofGate_5 ?_
  refine zr_astore3 X (by decide) rfl dX12_ofGate_6 ?_
  refine zr_iload2 X dX12_ofGate_7 ?_
  refine zr_tblIn (off := 58) (tgt := 66) X dX12_ofGate_8 (by decide) (by decide) (by decide) (by decide) ?_
  refine zr_aload3 X dX12_ofGate_66 ?_
  refine zr_getI X zf_X12_116 rfl dX12_ofGate_67 ?_
  refine zr_eq (x2 := ((sG S g 2) - 1)) ((hM.2.2.2.2.1 g (by omega)).1 2 (by decide)) ?_
  refine zr_iret X (by decide) (by decide) dX12_ofGate_70 ?_
  exact k1
set_option maxRecDepth 20000 in
theorem zp3_X12_ofGate {l : Launch} {D : va_G} {b0 : Nat} {tA : Nat → ClassId} {sa sv : Nat → Nat} {K : zKt} {I : zI} {Qp : zI → Option AV → Prop} {Xp : String → zI → Prop} {A : Nat → Nat} {n7 m7 g : Nat} {S : zS}
    (hS : zSh K A n7 m7) (hM : zSt I A n7 m7 S) (hg : g < n7) (k1 : Qp I (some (vi (qGate S g 3)))) :
    zC l D b0 tA sa sv K yX12_ofGate (.code yX12_ofGate cX12_ofGate 4 (some .int)) zrm_X12_ofGate [vr (A (0)) 17, vi ((nI g)), vi ((3 : Int32))] I Qp Xp := by
  have hA := hS.1
  have hn6 := hM.1.1
  have hm12 := hM.1.2
  refine zC_of (by decide +kernel) (Nat.le_of_ble_eq_true rfl) ?_
  intro p e s m args below meth c X hnt
  have X : zX p l e zrm_X12_ofGate s m args below meth c RX12 cX12_ofGate 4 (some .int) D b0 tA sa sv := X
  refine zr_lv (lv2 := [some (vr (A (0)) 17), some (vi ((nI g))), some (vi ((3 : Int32))), none]) rfl ?_
  refine zr_aload0 X dX12_ofGate_0 ?_
  refine zr_getD (r := A (1)) X zf_X12_27 rfl (by decide) (hS.2.1.2.1) dX12_ofGate_1 ?_
  refine zr_iload1 X dX12_ofGate_4 ?_
  refine zr_aaldD (k := 20) (n := g) (r := A (4 + 5 * g)) X rfl (show _ < 6 from (by first | decide | omega)) ((hS.2.2.1 g (by omega)).1) dX12_ofGate_5 ?_
  refine zr_astore3 X (by decide) rfl dX12_ofGate_6 ?_
  refine zr_iload2 X dX12_ofGate_7 ?_
  refine zr_tblIn (off := 63) (tgt := 71) X dX12_ofGate_8 (by decide) (by decide) (by decide) (by decide) ?_
  refine zr_aload3 X dX12_ofGate_71 ?_
  refine zr_getZ X zf_X12_119 rfl rfl (by decide) dX12_ofGate_72 (fun hz1 => ?_)
  refine zr_eq (x2 := (sG S g 3)) ((hM.2.2.2.2.1 g (by omega)).1 3 (by decide)) ?_
  have hz1 : (sG S g 3) = 0 ∨ (sG S g 3) = 1 := hz1.imp (fun h => Eq.trans (Eq.symm ((hM.2.2.2.2.1 g (by omega)).1 3 (by decide))) h) (fun h => Eq.trans (Eq.symm ((hM.2.2.2.2.1 g (by omega)).1 3 (by decide))) h)
  refine zr_if_eq (tgt := 82) X dX12_ofGate_75 (by decide) (fun h2 => ?_) (fun h2 => ?_)
  · skip
    refine zr_iconst (v := (0 : Int32)) X dX12_ofGate_82 (by decide) ?_
    refine zr_iret X (by decide) (by decide) dX12_ofGate_83 ?_
    have e9 : qGate S g 3 = 0 := h2
    rw [e9] at k1; exact k1
  · skip
    refine zr_iconst (v := (1 : Int32)) X dX12_ofGate_78 (by decide) ?_
    refine zr_goto (tgt := 83) X dX12_ofGate_79 (by decide) ?_
    refine zr_iret X (by decide) (by decide) dX12_ofGate_83 ?_
    have e9 : qGate S g 3 = 1 := (by assumption : sG S g 3 = 0 ∨ sG S g 3 = 1).resolve_left h2
    rw [e9] at k1; exact k1
set_option maxRecDepth 20000 in
theorem zp4_X12_ofGate {l : Launch} {D : va_G} {b0 : Nat} {tA : Nat → ClassId} {sa sv : Nat → Nat} {K : zKt} {I : zI} {Qp : zI → Option AV → Prop} {Xp : String → zI → Prop} {A : Nat → Nat} {n7 m7 g : Nat} {S : zS}
    (hS : zSh K A n7 m7) (hM : zSt I A n7 m7 S) (hg : g < n7) (k1 : Qp I (some (vi (qGate S g 4)))) :
    zC l D b0 tA sa sv K yX12_ofGate (.code yX12_ofGate cX12_ofGate 4 (some .int)) zrm_X12_ofGate [vr (A (0)) 17, vi ((nI g)), vi ((4 : Int32))] I Qp Xp := by
  have hA := hS.1
  have hn6 := hM.1.1
  have hm12 := hM.1.2
  refine zC_of (by decide +kernel) (Nat.le_of_ble_eq_true rfl) ?_
  intro p e s m args below meth c X hnt
  have X : zX p l e zrm_X12_ofGate s m args below meth c RX12 cX12_ofGate 4 (some .int) D b0 tA sa sv := X
  refine zr_lv (lv2 := [some (vr (A (0)) 17), some (vi ((nI g))), some (vi ((4 : Int32))), none]) rfl ?_
  refine zr_aload0 X dX12_ofGate_0 ?_
  refine zr_getD (r := A (1)) X zf_X12_27 rfl (by decide) (hS.2.1.2.1) dX12_ofGate_1 ?_
  refine zr_iload1 X dX12_ofGate_4 ?_
  refine zr_aaldD (k := 20) (n := g) (r := A (4 + 5 * g)) X rfl (show _ < 6 from (by first | decide | omega)) ((hS.2.2.1 g (by omega)).1) dX12_ofGate_5 ?_
  refine zr_astore3 X (by decide) rfl dX12_ofGate_6 ?_
  refine zr_iload2 X dX12_ofGate_7 ?_
  refine zr_tblIn (off := 76) (tgt := 84) X dX12_ofGate_8 (by decide) (by decide) (by decide) (by decide) ?_
  refine zr_aload3 X dX12_ofGate_84 ?_
  refine zr_getD (r := A (5 + 5 * g)) X zf_X12_174 rfl (by decide) ((hS.2.2.1 g (by omega)).2.1) dX12_ofGate_85 ?_
  refine zr_getI X zf_X12_108 rfl dX12_ofGate_88 ?_
  refine zr_eq (x2 := (nI ((sL S g 0).length))) ((hM.2.2.2.2.1 g (by omega)).2.1.1) ?_
  refine zr_iret X (by decide) (by decide) dX12_ofGate_91 ?_
  exact k1
set_option maxRecDepth 20000 in
theorem zp5_X12_ofGate {l : Launch} {D : va_G} {b0 : Nat} {tA : Nat → ClassId} {sa sv : Nat → Nat} {K : zKt} {I : zI} {Qp : zI → Option AV → Prop} {Xp : String → zI → Prop} {A : Nat → Nat} {n7 m7 g : Nat} {S : zS}
    (hS : zSh K A n7 m7) (hM : zSt I A n7 m7 S) (hg : g < n7) (k1 : Qp I (some (vi (qGate S g 5)))) :
    zC l D b0 tA sa sv K yX12_ofGate (.code yX12_ofGate cX12_ofGate 4 (some .int)) zrm_X12_ofGate [vr (A (0)) 17, vi ((nI g)), vi ((5 : Int32))] I Qp Xp := by
  have hA := hS.1
  have hn6 := hM.1.1
  have hm12 := hM.1.2
  refine zC_of (by decide +kernel) (Nat.le_of_ble_eq_true rfl) ?_
  intro p e s m args below meth c X hnt
  have X : zX p l e zrm_X12_ofGate s m args below meth c RX12 cX12_ofGate 4 (some .int) D b0 tA sa sv := X
  refine zr_lv (lv2 := [some (vr (A (0)) 17), some (vi ((nI g))), some (vi ((5 : Int32))), none]) rfl ?_
  refine zr_aload0 X dX12_ofGate_0 ?_
  refine zr_getD (r := A (1)) X zf_X12_27 rfl (by decide) (hS.2.1.2.1) dX12_ofGate_1 ?_
  refine zr_iload1 X dX12_ofGate_4 ?_
  refine zr_aaldD (k := 20) (n := g) (r := A (4 + 5 * g)) X rfl (show _ < 6 from (by first | decide | omega)) ((hS.2.2.1 g (by omega)).1) dX12_ofGate_5 ?_
  refine zr_astore3 X (by decide) rfl dX12_ofGate_6 ?_
  refine zr_iload2 X dX12_ofGate_7 ?_
  refine zr_tblIn (off := 84) (tgt := 92) X dX12_ofGate_8 (by decide) (by decide) (by decide) (by decide) ?_
  refine zr_aload3 X dX12_ofGate_92 ?_
  refine zr_getD (r := A (7 + 5 * g)) X zf_X12_104 rfl (by decide) ((hS.2.2.1 g (by omega)).2.2.1) dX12_ofGate_93 ?_
  refine zr_getI X zf_X12_108 rfl dX12_ofGate_96 ?_
  refine zr_eq (x2 := (nI ((sL S g 1).length))) ((hM.2.2.2.2.1 g (by omega)).2.2.1) ?_
  refine zr_iret X (by decide) (by decide) dX12_ofGate_99 ?_
  exact k1
set_option maxRecDepth 20000 in
theorem zp6_X12_ofGate {l : Launch} {D : va_G} {b0 : Nat} {tA : Nat → ClassId} {sa sv : Nat → Nat} {K : zKt} {I : zI} {Qp : zI → Option AV → Prop} {Xp : String → zI → Prop} {A : Nat → Nat} {n7 m7 g : Nat} {S : zS}
    (hS : zSh K A n7 m7) (hM : zSt I A n7 m7 S) (hg : g < n7) (k1 : Qp I (some (vi (qGate S g 6)))) :
    zC l D b0 tA sa sv K yX12_ofGate (.code yX12_ofGate cX12_ofGate 4 (some .int)) zrm_X12_ofGate [vr (A (0)) 17, vi ((nI g)), vi ((6 : Int32))] I Qp Xp := by
  have hA := hS.1
  have hn6 := hM.1.1
  have hm12 := hM.1.2
  refine zC_of (by decide +kernel) (Nat.le_of_ble_eq_true rfl) ?_
  intro p e s m args below meth c X hnt
  have X : zX p l e zrm_X12_ofGate s m args below meth c RX12 cX12_ofGate 4 (some .int) D b0 tA sa sv := X
  refine zr_lv (lv2 := [some (vr (A (0)) 17), some (vi ((nI g))), some (vi ((6 : Int32))), none]) rfl ?_
  refine zr_aload0 X dX12_ofGate_0 ?_
  refine zr_getD (r := A (1)) X zf_X12_27 rfl (by decide) (hS.2.1.2.1) dX12_ofGate_1 ?_
  refine zr_iload1 X dX12_ofGate_4 ?_
  refine zr_aaldD (k := 20) (n := g) (r := A (4 + 5 * g)) X rfl (show _ < 6 from (by first | decide | omega)) ((hS.2.2.1 g (by omega)).1) dX12_ofGate_5 ?_
  refine zr_astore3 X (by decide) rfl dX12_ofGate_6 ?_
  refine zr_iload2 X dX12_ofGate_7 ?_
  refine zr_tblIn (off := 92) (tgt := 100) X dX12_ofGate_8 (by decide) (by decide) (by decide) (by decide) ?_
  refine zr_aload3 X dX12_ofGate_100 ?_
  refine zr_getI X zf_X12_125 rfl dX12_ofGate_101 ?_
  refine zr_eq (x2 := (sG S g 4)) ((hM.2.2.2.2.1 g (by omega)).1 4 (by decide)) ?_
  refine zr_iret X (by decide) (by decide) dX12_ofGate_104 ?_
  exact k1
set_option maxRecDepth 20000 in
theorem zp7_X12_ofGate {l : Launch} {D : va_G} {b0 : Nat} {tA : Nat → ClassId} {sa sv : Nat → Nat} {K : zKt} {I : zI} {Qp : zI → Option AV → Prop} {Xp : String → zI → Prop} {A : Nat → Nat} {n7 m7 g : Nat} {S : zS}
    (hS : zSh K A n7 m7) (hM : zSt I A n7 m7 S) (hg : g < n7) (k1 : Qp I (some (vi (qGate S g 7)))) :
    zC l D b0 tA sa sv K yX12_ofGate (.code yX12_ofGate cX12_ofGate 4 (some .int)) zrm_X12_ofGate [vr (A (0)) 17, vi ((nI g)), vi ((7 : Int32))] I Qp Xp := by
  have hA := hS.1
  have hn6 := hM.1.1
  have hm12 := hM.1.2
  refine zC_of (by decide +kernel) (Nat.le_of_ble_eq_true rfl) ?_
  intro p e s m args below meth c X hnt
  have X : zX p l e zrm_X12_ofGate s m args below meth c RX12 cX12_ofGate 4 (some .int) D b0 tA sa sv := X
  refine zr_lv (lv2 := [some (vr (A (0)) 17), some (vi ((nI g))), some (vi ((7 : Int32))), none]) rfl ?_
  refine zr_aload0 X dX12_ofGate_0 ?_
  refine zr_getD (r := A (1)) X zf_X12_27 rfl (by decide) (hS.2.1.2.1) dX12_ofGate_1 ?_
  refine zr_iload1 X dX12_ofGate_4 ?_
  refine zr_aaldD (k := 20) (n := g) (r := A (4 + 5 * g)) X rfl (show _ < 6 from (by first | decide | omega)) ((hS.2.2.1 g (by omega)).1) dX12_ofGate_5 ?_
  refine zr_astore3 X (by decide) rfl dX12_ofGate_6 ?_
  refine zr_iload2 X dX12_ofGate_7 ?_
  refine zr_tblIn (off := 97) (tgt := 105) X dX12_ofGate_8 (by decide) (by decide) (by decide) (by decide) ?_
  refine zr_aload3 X dX12_ofGate_105 ?_
  refine zr_getI X zf_X12_144 rfl dX12_ofGate_106 ?_
  refine zr_eq (x2 := (sG S g 5)) ((hM.2.2.2.2.1 g (by omega)).1 5 (by decide)) ?_
  refine zr_iret X (by decide) (by decide) dX12_ofGate_109 ?_
  exact k1
set_option maxRecDepth 20000 in
theorem zp8_X12_ofGate {l : Launch} {D : va_G} {b0 : Nat} {tA : Nat → ClassId} {sa sv : Nat → Nat} {K : zKt} {I : zI} {Qp : zI → Option AV → Prop} {Xp : String → zI → Prop} {A : Nat → Nat} {n7 m7 g : Nat} {S : zS}
    (hS : zSh K A n7 m7) (hM : zSt I A n7 m7 S) (hg : g < n7) (k1 : Qp I (some (vi (qGate S g 8)))) :
    zC l D b0 tA sa sv K yX12_ofGate (.code yX12_ofGate cX12_ofGate 4 (some .int)) zrm_X12_ofGate [vr (A (0)) 17, vi ((nI g)), vi ((8 : Int32))] I Qp Xp := by
  have hA := hS.1
  have hn6 := hM.1.1
  have hm12 := hM.1.2
  refine zC_of (by decide +kernel) (Nat.le_of_ble_eq_true rfl) ?_
  intro p e s m args below meth c X hnt
  have X : zX p l e zrm_X12_ofGate s m args below meth c RX12 cX12_ofGate 4 (some .int) D b0 tA sa sv := X
  refine zr_lv (lv2 := [some (vr (A (0)) 17), some (vi ((nI g))), some (vi ((8 : Int32))), none]) rfl ?_
  refine zr_aload0 X dX12_ofGate_0 ?_
  refine zr_getD (r := A (1)) X zf_X12_27 rfl (by decide) (hS.2.1.2.1) dX12_ofGate_1 ?_
  refine zr_iload1 X dX12_ofGate_4 ?_
  refine zr_aaldD (k := 20) (n := g) (r := A (4 + 5 * g)) X rfl (show _ < 6 from (by first | decide | omega)) ((hS.2.2.1 g (by omega)).1) dX12_ofGate_5 ?_
  refine zr_astore3 X (by decide) rfl dX12_ofGate_6 ?_
  refine zr_iload2 X dX12_ofGate_7 ?_
  refine zr_tblOut (tgt := 110) X dX12_ofGate_8 (by decide) (by decide) ?_
  refine zr_aload3 X dX12_ofGate_110 ?_
  refine zr_getI X zf_X12_141 rfl dX12_ofGate_111 ?_
  refine zr_eq (x2 := ((sG S g 6) - 1)) ((hM.2.2.2.2.1 g (by omega)).1 6 (by decide)) ?_
  refine zr_iret X (by decide) (by decide) dX12_ofGate_114 ?_
  exact k1
theorem zq_X12_ofGate {l : Launch} {D : va_G} {b0 : Nat} {tA : Nat → ClassId} {sa sv : Nat → Nat} {K : zKt} {I : zI} {Qp : zI → Option AV → Prop} {Xp : String → zI → Prop} {A : Nat → Nat} {n7 m7 g w9 : Nat} {S : zS} (hS : zSh K A n7 m7) (hM : zSt I A n7 m7 S) (hg : g < n7) (hw9 : w9 < 9) (k1 : Qp I (some (vi (qGate S g w9)))) :
    zC l D b0 tA sa sv K yX12_ofGate (.code yX12_ofGate cX12_ofGate 4 (some .int)) zrm_X12_ofGate [vr (A (0)) 17, vi ((nI g)), vi ((nI w9))] I Qp Xp := by
  rcases (show w9 = 0 ∨ w9 = 1 ∨ w9 = 2 ∨ w9 = 3 ∨ w9 = 4 ∨ w9 = 5 ∨ w9 = 6 ∨ w9 = 7 ∨ w9 = 8 by omega) with rfl | rfl | rfl | rfl | rfl | rfl | rfl | rfl | rfl
  · exact zp0_X12_ofGate hS hM hg k1
  · exact zp1_X12_ofGate hS hM hg k1
  · exact zp2_X12_ofGate hS hM hg k1
  · exact zp3_X12_ofGate hS hM hg k1
  · exact zp4_X12_ofGate hS hM hg k1
  · exact zp5_X12_ofGate hS hM hg k1
  · exact zp6_X12_ofGate hS hM hg k1
  · exact zp7_X12_ofGate hS hM hg k1
  · exact zp8_X12_ofGate hS hM hg k1
abbrev zrm_X12_ofCard : Room := { frames := 2, cells := 0, slots := 0, locals := 45 }
set_option maxRecDepth 20000 in
theorem zp0_X12_ofCard {l : Launch} {D : va_G} {b0 : Nat} {tA : Nat → ClassId} {sa sv : Nat → Nat} {K : zKt} {I : zI} {Qp : zI → Option AV → Prop} {Xp : String → zI → Prop} {A : Nat → Nat} {n7 m7 c9 : Nat} {S : zS}
    (hS : zSh K A n7 m7) (hM : zSt I A n7 m7 S) (hW : zWf S) (hc : c9 < m7) (k1 : Qp I (some (vi (qCard S c9 0)))) :
    zC l D b0 tA sa sv K yX12_ofCard (.code yX12_ofCard cX12_ofCard 4 (some .int)) zrm_X12_ofCard [vr (A (0)) 17, vi ((nI c9)), vi ((0 : Int32))] I Qp Xp := by
  have hA := hS.1
  have hn6 := hM.1.1
  have hm12 := hM.1.2
  have hgn := hM.ng
  have hcm := hM.nc
  have hlen := hW.len
  refine zC_of (by decide +kernel) (Nat.le_of_ble_eq_true rfl) ?_
  intro p e s m args below meth c X hnt
  have X : zX p l e zrm_X12_ofCard s m args below meth c RX12 cX12_ofCard 4 (some .int) D b0 tA sa sv := X
  refine zr_lv (lv2 := [some (vr (A (0)) 17), some (vi ((nI c9))), some (vi ((0 : Int32))), none]) rfl ?_
  refine zr_aload0 X dX12_ofCard_0 ?_
  refine zr_iload1 X dX12_ofCard_1 ?_
  refine zr_callV1 (rm9 := zrm_X12_where) X hnt zm_X12_158 (by decide) (by decide) (by decide) (Nat.le_of_ble_eq_true rfl) dX12_ofCard_2 ?_
  refine zp_X12_where (c9 := c9) hS hM hW (by omega) ?_ ?_
  · skip
    intro g1 sd2 p3 ha4; have := ha4.1; have := ha4.2.1; have := (qPos_at hW ha4).2
    refine zr_istore3 X (by decide) rfl dX12_ofCard_5 ?_
    refine zr_iload2 X dX12_ofCard_6 ?_
    refine zr_tblIn (off := 37) (tgt := 44) X dX12_ofCard_7 (by decide) (by decide) (by decide) (by decide) ?_
    refine zr_aload0 X dX12_ofCard_44 ?_
    refine zr_getD (r := A (2)) X zf_X12_36 rfl (by decide) (hS.2.1.2.2.1) dX12_ofCard_45 ?_
    refine zr_iload1 X dX12_ofCard_48 ?_
    refine zr_aaldD (k := 21) (n := c9) (r := A (40 + c9)) X rfl (show _ < 12 from (by first | decide | omega)) (hS.2.2.2.1 c9 (by omega)) dX12_ofCard_49 ?_
    refine zr_getI X zf_X12_67 rfl dX12_ofCard_50 ?_
    refine zr_eq (x2 := (sC S c9 0)) (hM.2.2.2.2.2 c9 (by omega) 0 (by decide)) ?_
    refine zr_iret X (by decide) (by decide) dX12_ofCard_53 ?_
    exact k1
  · skip
    intro hn5
    refine zr_istore3 X (by decide) rfl dX12_ofCard_5 ?_
    refine zr_iload2 X dX12_ofCard_6 ?_
    refine zr_tblIn (off := 37) (tgt := 44) X dX12_ofCard_7 (by decide) (by decide) (by decide) (by decide) ?_
    refine zr_aload0 X dX12_ofCard_44 ?_
    refine zr_getD (r := A (2)) X zf_X12_36 rfl (by decide) (hS.2.1.2.2.1) dX12_ofCard_45 ?_
    refine zr_iload1 X dX12_ofCard_48 ?_
    refine zr_aaldD (k := 21) (n := c9) (r := A (40 + c9)) X rfl (show _ < 12 from (by first | decide | omega)) (hS.2.2.2.1 c9 (by omega)) dX12_ofCard_49 ?_
    refine zr_getI X zf_X12_67 rfl dX12_ofCard_50 ?_
    refine zr_eq (x2 := (sC S c9 0)) (hM.2.2.2.2.2 c9 (by omega) 0 (by decide)) ?_
    refine zr_iret X (by decide) (by decide) dX12_ofCard_53 ?_
    exact k1
set_option maxRecDepth 20000 in
theorem zp1_X12_ofCard {l : Launch} {D : va_G} {b0 : Nat} {tA : Nat → ClassId} {sa sv : Nat → Nat} {K : zKt} {I : zI} {Qp : zI → Option AV → Prop} {Xp : String → zI → Prop} {A : Nat → Nat} {n7 m7 c9 : Nat} {S : zS}
    (hS : zSh K A n7 m7) (hM : zSt I A n7 m7 S) (hW : zWf S) (hc : c9 < m7) (k1 : Qp I (some (vi (qCard S c9 1)))) :
    zC l D b0 tA sa sv K yX12_ofCard (.code yX12_ofCard cX12_ofCard 4 (some .int)) zrm_X12_ofCard [vr (A (0)) 17, vi ((nI c9)), vi ((1 : Int32))] I Qp Xp := by
  have hA := hS.1
  have hn6 := hM.1.1
  have hm12 := hM.1.2
  have hgn := hM.ng
  have hcm := hM.nc
  have hlen := hW.len
  refine zC_of (by decide +kernel) (Nat.le_of_ble_eq_true rfl) ?_
  intro p e s m args below meth c X hnt
  have X : zX p l e zrm_X12_ofCard s m args below meth c RX12 cX12_ofCard 4 (some .int) D b0 tA sa sv := X
  refine zr_lv (lv2 := [some (vr (A (0)) 17), some (vi ((nI c9))), some (vi ((1 : Int32))), none]) rfl ?_
  refine zr_aload0 X dX12_ofCard_0 ?_
  refine zr_iload1 X dX12_ofCard_1 ?_
  refine zr_callV1 (rm9 := zrm_X12_where) X hnt zm_X12_158 (by decide) (by decide) (by decide) (Nat.le_of_ble_eq_true rfl) dX12_ofCard_2 ?_
  refine zp_X12_where (c9 := c9) hS hM hW (by omega) ?_ ?_
  · skip
    intro g1 sd2 p3 ha4; have := ha4.1; have := ha4.2.1; have := (qPos_at hW ha4).2
    refine zr_istore3 X (by decide) rfl dX12_ofCard_5 ?_
    refine zr_iload2 X dX12_ofCard_6 ?_
    refine zr_tblIn (off := 47) (tgt := 54) X dX12_ofCard_7 (by decide) (by decide) (by decide) (by decide) ?_
    refine zr_aload0 X dX12_ofCard_54 ?_
    refine zr_getD (r := A (2)) X zf_X12_36 rfl (by decide) (hS.2.1.2.2.1) dX12_ofCard_55 ?_
    refine zr_iload1 X dX12_ofCard_58 ?_
    refine zr_aaldD (k := 21) (n := c9) (r := A (40 + c9)) X rfl (show _ < 12 from (by first | decide | omega)) (hS.2.2.2.1 c9 (by omega)) dX12_ofCard_59 ?_
    refine zr_getZ X zf_X12_73 rfl rfl (by decide) dX12_ofCard_60 (fun hz6 => ?_)
    refine zr_eq (x2 := (sC S c9 1)) (hM.2.2.2.2.2 c9 (by omega) 1 (by decide)) ?_
    have hz6 : (sC S c9 1) = 0 ∨ (sC S c9 1) = 1 := hz6.imp (fun h => Eq.trans (Eq.symm (hM.2.2.2.2.2 c9 (by omega) 1 (by decide))) h) (fun h => Eq.trans (Eq.symm (hM.2.2.2.2.2 c9 (by omega) 1 (by decide))) h)
    refine zr_if_eq (tgt := 70) X dX12_ofCard_63 (by decide) (fun h7 => ?_) (fun h7 => ?_)
    · skip
      refine zr_iconst (v := (0 : Int32)) X dX12_ofCard_70 (by decide) ?_
      refine zr_iret X (by decide) (by decide) dX12_ofCard_71 ?_
      have e9 : qCard S c9 1 = 0 := h7
      rw [e9] at k1; exact k1
    · skip
      refine zr_iconst (v := (1 : Int32)) X dX12_ofCard_66 (by decide) ?_
      refine zr_goto (tgt := 71) X dX12_ofCard_67 (by decide) ?_
      refine zr_iret X (by decide) (by decide) dX12_ofCard_71 ?_
      have e9 : qCard S c9 1 = 1 := (by assumption : sC S c9 1 = 0 ∨ sC S c9 1 = 1).resolve_left h7
      rw [e9] at k1; exact k1
  · skip
    intro hn5
    refine zr_istore3 X (by decide) rfl dX12_ofCard_5 ?_
    refine zr_iload2 X dX12_ofCard_6 ?_
    refine zr_tblIn (off := 47) (tgt := 54) X dX12_ofCard_7 (by decide) (by decide) (by decide) (by decide) ?_
    refine zr_aload0 X dX12_ofCard_54 ?_
    refine zr_getD (r := A (2)) X zf_X12_36 rfl (by decide) (hS.2.1.2.2.1) dX12_ofCard_55 ?_
    refine zr_iload1 X dX12_ofCard_58 ?_
    refine zr_aaldD (k := 21) (n := c9) (r := A (40 + c9)) X rfl (show _ < 12 from (by first | decide | omega)) (hS.2.2.2.1 c9 (by omega)) dX12_ofCard_59 ?_
    refine zr_getZ X zf_X12_73 rfl rfl (by decide) dX12_ofCard_60 (fun hz8 => ?_)
    refine zr_eq (x2 := (sC S c9 1)) (hM.2.2.2.2.2 c9 (by omega) 1 (by decide)) ?_
    have hz8 : (sC S c9 1) = 0 ∨ (sC S c9 1) = 1 := hz8.imp (fun h => Eq.trans (Eq.symm (hM.2.2.2.2.2 c9 (by omega) 1 (by decide))) h) (fun h => Eq.trans (Eq.symm (hM.2.2.2.2.2 c9 (by omega) 1 (by decide))) h)
    refine zr_if_eq (tgt := 70) X dX12_ofCard_63 (by decide) (fun h9 => ?_) (fun h9 => ?_)
    · skip
      refine zr_iconst (v := (0 : Int32)) X dX12_ofCard_70 (by decide) ?_
      refine zr_iret X (by decide) (by decide) dX12_ofCard_71 ?_
      have e9 : qCard S c9 1 = 0 := h9
      rw [e9] at k1; exact k1
    · skip
      refine zr_iconst (v := (1 : Int32)) X dX12_ofCard_66 (by decide) ?_
      refine zr_goto (tgt := 71) X dX12_ofCard_67 (by decide) ?_
      refine zr_iret X (by decide) (by decide) dX12_ofCard_71 ?_
      have e9 : qCard S c9 1 = 1 := (by assumption : sC S c9 1 = 0 ∨ sC S c9 1 = 1).resolve_left h9
      rw [e9] at k1; exact k1
set_option maxRecDepth 20000 in
theorem zp2_X12_ofCard {l : Launch} {D : va_G} {b0 : Nat} {tA : Nat → ClassId} {sa sv : Nat → Nat} {K : zKt} {I : zI} {Qp : zI → Option AV → Prop} {Xp : String → zI → Prop} {A : Nat → Nat} {n7 m7 c9 : Nat} {S : zS}
    (hS : zSh K A n7 m7) (hM : zSt I A n7 m7 S) (hW : zWf S) (hc : c9 < m7) (k1 : Qp I (some (vi (qCard S c9 2)))) :
    zC l D b0 tA sa sv K yX12_ofCard (.code yX12_ofCard cX12_ofCard 4 (some .int)) zrm_X12_ofCard [vr (A (0)) 17, vi ((nI c9)), vi ((2 : Int32))] I Qp Xp := by
  have hA := hS.1
  have hn6 := hM.1.1
  have hm12 := hM.1.2
  have hgn := hM.ng
  have hcm := hM.nc
  have hlen := hW.len
  refine zC_of (by decide +kernel) (Nat.le_of_ble_eq_true rfl) ?_
  intro p e s m args below meth c X hnt
  have X : zX p l e zrm_X12_ofCard s m args below meth c RX12 cX12_ofCard 4 (some .int) D b0 tA sa sv := X
  refine zr_lv (lv2 := [some (vr (A (0)) 17), some (vi ((nI c9))), some (vi ((2 : Int32))), none]) rfl ?_
  refine zr_aload0 X dX12_ofCard_0 ?_
  refine zr_iload1 X dX12_ofCard_1 ?_
  refine zr_callV1 (rm9 := zrm_X12_where) X hnt zm_X12_158 (by decide) (by decide) (by decide) (Nat.le_of_ble_eq_true rfl) dX12_ofCard_2 ?_
  refine zp_X12_where (c9 := c9) hS hM hW (by omega) ?_ ?_
  · skip
    intro g1 sd2 p3 ha4; have := ha4.1; have := ha4.2.1; have := (qPos_at hW ha4).2
    refine zr_istore3 X (by decide) rfl dX12_ofCard_5 ?_
    refine zr_iload2 X dX12_ofCard_6 ?_
    refine zr_tblIn (off := 65) (tgt := 72) X dX12_ofCard_7 (by decide) (by decide) (by decide) (by decide) ?_
    refine zr_aload0 X dX12_ofCard_72 ?_
    refine zr_getD (r := A (2)) X zf_X12_36 rfl (by decide) (hS.2.1.2.2.1) dX12_ofCard_73 ?_
    refine zr_iload1 X dX12_ofCard_76 ?_
    refine zr_aaldD (k := 21) (n := c9) (r := A (40 + c9)) X rfl (show _ < 12 from (by first | decide | omega)) (hS.2.2.2.1 c9 (by omega)) dX12_ofCard_77 ?_
    refine zr_getZ X zf_X12_77 rfl rfl (by decide) dX12_ofCard_78 (fun hz6 => ?_)
    refine zr_eq (x2 := (sC S c9 2)) (hM.2.2.2.2.2 c9 (by omega) 2 (by decide)) ?_
    have hz6 : (sC S c9 2) = 0 ∨ (sC S c9 2) = 1 := hz6.imp (fun h => Eq.trans (Eq.symm (hM.2.2.2.2.2 c9 (by omega) 2 (by decide))) h) (fun h => Eq.trans (Eq.symm (hM.2.2.2.2.2 c9 (by omega) 2 (by decide))) h)
    refine zr_if_eq (tgt := 88) X dX12_ofCard_81 (by decide) (fun h7 => ?_) (fun h7 => ?_)
    · skip
      refine zr_iconst (v := (0 : Int32)) X dX12_ofCard_88 (by decide) ?_
      refine zr_iret X (by decide) (by decide) dX12_ofCard_89 ?_
      have e9 : qCard S c9 2 = 0 := h7
      rw [e9] at k1; exact k1
    · skip
      refine zr_iconst (v := (1 : Int32)) X dX12_ofCard_84 (by decide) ?_
      refine zr_goto (tgt := 89) X dX12_ofCard_85 (by decide) ?_
      refine zr_iret X (by decide) (by decide) dX12_ofCard_89 ?_
      have e9 : qCard S c9 2 = 1 := (by assumption : sC S c9 2 = 0 ∨ sC S c9 2 = 1).resolve_left h7
      rw [e9] at k1; exact k1
  · skip
    intro hn5
    refine zr_istore3 X (by decide) rfl dX12_ofCard_5 ?_
    refine zr_iload2 X dX12_ofCard_6 ?_
    refine zr_tblIn (off := 65) (tgt := 72) X dX12_ofCard_7 (by decide) (by decide) (by decide) (by decide) ?_
    refine zr_aload0 X dX12_ofCard_72 ?_
    refine zr_getD (r := A (2)) X zf_X12_36 rfl (by decide) (hS.2.1.2.2.1) dX12_ofCard_73 ?_
    refine zr_iload1 X dX12_ofCard_76 ?_
    refine zr_aaldD (k := 21) (n := c9) (r := A (40 + c9)) X rfl (show _ < 12 from (by first | decide | omega)) (hS.2.2.2.1 c9 (by omega)) dX12_ofCard_77 ?_
    refine zr_getZ X zf_X12_77 rfl rfl (by decide) dX12_ofCard_78 (fun hz8 => ?_)
    refine zr_eq (x2 := (sC S c9 2)) (hM.2.2.2.2.2 c9 (by omega) 2 (by decide)) ?_
    have hz8 : (sC S c9 2) = 0 ∨ (sC S c9 2) = 1 := hz8.imp (fun h => Eq.trans (Eq.symm (hM.2.2.2.2.2 c9 (by omega) 2 (by decide))) h) (fun h => Eq.trans (Eq.symm (hM.2.2.2.2.2 c9 (by omega) 2 (by decide))) h)
    refine zr_if_eq (tgt := 88) X dX12_ofCard_81 (by decide) (fun h9 => ?_) (fun h9 => ?_)
    · skip
      refine zr_iconst (v := (0 : Int32)) X dX12_ofCard_88 (by decide) ?_
      refine zr_iret X (by decide) (by decide) dX12_ofCard_89 ?_
      have e9 : qCard S c9 2 = 0 := h9
      rw [e9] at k1; exact k1
    · skip
      refine zr_iconst (v := (1 : Int32)) X dX12_ofCard_84 (by decide) ?_
      refine zr_goto (tgt := 89) X dX12_ofCard_85 (by decide) ?_
      refine zr_iret X (by decide) (by decide) dX12_ofCard_89 ?_
      have e9 : qCard S c9 2 = 1 := (by assumption : sC S c9 2 = 0 ∨ sC S c9 2 = 1).resolve_left h9
      rw [e9] at k1; exact k1
set_option maxRecDepth 20000 in
theorem zp3_X12_ofCard {l : Launch} {D : va_G} {b0 : Nat} {tA : Nat → ClassId} {sa sv : Nat → Nat} {K : zKt} {I : zI} {Qp : zI → Option AV → Prop} {Xp : String → zI → Prop} {A : Nat → Nat} {n7 m7 c9 : Nat} {S : zS}
    (hS : zSh K A n7 m7) (hM : zSt I A n7 m7 S) (hW : zWf S) (hc : c9 < m7) (k1 : Qp I (some (vi (qCard S c9 3)))) :
    zC l D b0 tA sa sv K yX12_ofCard (.code yX12_ofCard cX12_ofCard 4 (some .int)) zrm_X12_ofCard [vr (A (0)) 17, vi ((nI c9)), vi ((3 : Int32))] I Qp Xp := by
  have hA := hS.1
  have hn6 := hM.1.1
  have hm12 := hM.1.2
  have hgn := hM.ng
  have hcm := hM.nc
  have hlen := hW.len
  refine zC_of (by decide +kernel) (Nat.le_of_ble_eq_true rfl) ?_
  intro p e s m args below meth c X hnt
  have X : zX p l e zrm_X12_ofCard s m args below meth c RX12 cX12_ofCard 4 (some .int) D b0 tA sa sv := X
  refine zr_lv (lv2 := [some (vr (A (0)) 17), some (vi ((nI c9))), some (vi ((3 : Int32))), none]) rfl ?_
  refine zr_aload0 X dX12_ofCard_0 ?_
  refine zr_iload1 X dX12_ofCard_1 ?_
  refine zr_callV1 (rm9 := zrm_X12_where) X hnt zm_X12_158 (by decide) (by decide) (by decide) (Nat.le_of_ble_eq_true rfl) dX12_ofCard_2 ?_
  refine zp_X12_where (c9 := c9) hS hM hW (by omega) ?_ ?_
  · skip
    intro g1 sd2 p3 ha4; have := ha4.1; have := ha4.2.1; have := (qPos_at hW ha4).2
    refine zr_istore3 X (by decide) rfl dX12_ofCard_5 ?_
    refine zr_iload2 X dX12_ofCard_6 ?_
    refine zr_tblIn (off := 83) (tgt := 90) X dX12_ofCard_7 (by decide) (by decide) (by decide) (by decide) ?_
    refine zr_iload3 X dX12_ofCard_90 ?_
    refine zr_nif_ge X ((100 * g1 + 50 * sd2 + p3)) (tgt := 98) (by omega) dX12_ofCard_91 (by decide) (fun _ => ?_) (fun h => absurd trivial h)
    refine zr_iload3 X dX12_ofCard_98 ?_
    refine zr_bipush (v := (100 : Int32)) X dX12_ofCard_99 (by decide) ?_
    refine zr_idiv X dX12_ofCard_101 (by decide) ?_
    refine zr_eq (x2 := (nI ((100 * g1 + 50 * sd2 + p3) / 100))) (pk_div (a := (100 * g1 + 50 * sd2 + p3)) (d := 100) (by omega) (by decide) (by decide)) ?_
    refine zr_iret X (by decide) (by decide) dX12_ofCard_102 ?_
    rw [show qCard S c9 3 = qWh S c9 3 from rfl, qWh_at hW ha4] at k1
    rw [if_pos rfl] at k1
    refine cast (congrArg (fun q => Qp I (some (vi (nI q)))) ?_) k1
    omega
  · skip
    intro hn5
    refine zr_istore3 X (by decide) rfl dX12_ofCard_5 ?_
    refine zr_iload2 X dX12_ofCard_6 ?_
    refine zr_tblIn (off := 83) (tgt := 90) X dX12_ofCard_7 (by decide) (by decide) (by decide) (by decide) ?_
    refine zr_iload3 X dX12_ofCard_90 ?_
    refine zr_if_ge (tgt := 98) X dX12_ofCard_91 (by decide) (fun h => absurd h (by decide)) (fun _ => ?_)
    refine zr_iconst (v := (-1 : Int32)) X dX12_ofCard_94 (by decide) ?_
    refine zr_goto (tgt := 102) X dX12_ofCard_95 (by decide) ?_
    refine zr_iret X (by decide) (by decide) dX12_ofCard_102 ?_
    rw [show qCard S c9 3 = qWh S c9 3 from rfl, qWh_not hn5] at k1
    exact k1
set_option maxRecDepth 20000 in
theorem zp4_X12_ofCard {l : Launch} {D : va_G} {b0 : Nat} {tA : Nat → ClassId} {sa sv : Nat → Nat} {K : zKt} {I : zI} {Qp : zI → Option AV → Prop} {Xp : String → zI → Prop} {A : Nat → Nat} {n7 m7 c9 : Nat} {S : zS}
    (hS : zSh K A n7 m7) (hM : zSt I A n7 m7 S) (hW : zWf S) (hc : c9 < m7) (k1 : Qp I (some (vi (qCard S c9 4)))) :
    zC l D b0 tA sa sv K yX12_ofCard (.code yX12_ofCard cX12_ofCard 4 (some .int)) zrm_X12_ofCard [vr (A (0)) 17, vi ((nI c9)), vi ((4 : Int32))] I Qp Xp := by
  have hA := hS.1
  have hn6 := hM.1.1
  have hm12 := hM.1.2
  have hgn := hM.ng
  have hcm := hM.nc
  have hlen := hW.len
  refine zC_of (by decide +kernel) (Nat.le_of_ble_eq_true rfl) ?_
  intro p e s m args below meth c X hnt
  have X : zX p l e zrm_X12_ofCard s m args below meth c RX12 cX12_ofCard 4 (some .int) D b0 tA sa sv := X
  refine zr_lv (lv2 := [some (vr (A (0)) 17), some (vi ((nI c9))), some (vi ((4 : Int32))), none]) rfl ?_
  refine zr_aload0 X dX12_ofCard_0 ?_
  refine zr_iload1 X dX12_ofCard_1 ?_
  refine zr_callV1 (rm9 := zrm_X12_where) X hnt zm_X12_158 (by decide) (by decide) (by decide) (Nat.le_of_ble_eq_true rfl) dX12_ofCard_2 ?_
  refine zp_X12_where (c9 := c9) hS hM hW (by omega) ?_ ?_
  · skip
    intro g1 sd2 p3 ha4; have := ha4.1; have := ha4.2.1; have := (qPos_at hW ha4).2
    refine zr_istore3 X (by decide) rfl dX12_ofCard_5 ?_
    refine zr_iload2 X dX12_ofCard_6 ?_
    refine zr_tblIn (off := 96) (tgt := 103) X dX12_ofCard_7 (by decide) (by decide) (by decide) (by decide) ?_
    refine zr_iload3 X dX12_ofCard_103 ?_
    refine zr_nif_ge X ((100 * g1 + 50 * sd2 + p3)) (tgt := 111) (by omega) dX12_ofCard_104 (by decide) (fun _ => ?_) (fun h => absurd trivial h)
    refine zr_iload3 X dX12_ofCard_111 ?_
    refine zr_bipush (v := (100 : Int32)) X dX12_ofCard_112 (by decide) ?_
    refine zr_irem X dX12_ofCard_114 (by decide) ?_
    refine zr_eq (x2 := (nI ((100 * g1 + 50 * sd2 + p3) % 100))) (pk_rem (a := (100 * g1 + 50 * sd2 + p3)) (d := 100) (by omega) (by decide) (by decide)) ?_
    refine zr_bipush (v := (50 : Int32)) X dX12_ofCard_115 (by decide) ?_
    refine zr_idiv X dX12_ofCard_117 (by decide) ?_
    refine zr_eq (x2 := (nI (((100 * g1 + 50 * sd2 + p3) % 100) / 50))) (pk_div (a := ((100 * g1 + 50 * sd2 + p3) % 100)) (d := 50) (by omega) (by decide) (by decide)) ?_
    refine zr_iret X (by decide) (by decide) dX12_ofCard_118 ?_
    rw [show qCard S c9 4 = qWh S c9 4 from rfl, qWh_at hW ha4] at k1
    rw [if_neg (by decide), if_pos rfl] at k1
    refine cast (congrArg (fun q => Qp I (some (vi (nI q)))) ?_) k1
    omega
  · skip
    intro hn5
    refine zr_istore3 X (by decide) rfl dX12_ofCard_5 ?_
    refine zr_iload2 X dX12_ofCard_6 ?_
    refine zr_tblIn (off := 96) (tgt := 103) X dX12_ofCard_7 (by decide) (by decide) (by decide) (by decide) ?_
    refine zr_iload3 X dX12_ofCard_103 ?_
    refine zr_if_ge (tgt := 111) X dX12_ofCard_104 (by decide) (fun h => absurd h (by decide)) (fun _ => ?_)
    refine zr_iconst (v := (-1 : Int32)) X dX12_ofCard_107 (by decide) ?_
    refine zr_goto (tgt := 118) X dX12_ofCard_108 (by decide) ?_
    refine zr_iret X (by decide) (by decide) dX12_ofCard_118 ?_
    rw [show qCard S c9 4 = qWh S c9 4 from rfl, qWh_not hn5] at k1
    exact k1
set_option maxRecDepth 20000 in
theorem zp5_X12_ofCard {l : Launch} {D : va_G} {b0 : Nat} {tA : Nat → ClassId} {sa sv : Nat → Nat} {K : zKt} {I : zI} {Qp : zI → Option AV → Prop} {Xp : String → zI → Prop} {A : Nat → Nat} {n7 m7 c9 : Nat} {S : zS}
    (hS : zSh K A n7 m7) (hM : zSt I A n7 m7 S) (hW : zWf S) (hc : c9 < m7) (k1 : Qp I (some (vi (qCard S c9 5)))) :
    zC l D b0 tA sa sv K yX12_ofCard (.code yX12_ofCard cX12_ofCard 4 (some .int)) zrm_X12_ofCard [vr (A (0)) 17, vi ((nI c9)), vi ((5 : Int32))] I Qp Xp := by
  have hA := hS.1
  have hn6 := hM.1.1
  have hm12 := hM.1.2
  have hgn := hM.ng
  have hcm := hM.nc
  have hlen := hW.len
  refine zC_of (by decide +kernel) (Nat.le_of_ble_eq_true rfl) ?_
  intro p e s m args below meth c X hnt
  have X : zX p l e zrm_X12_ofCard s m args below meth c RX12 cX12_ofCard 4 (some .int) D b0 tA sa sv := X
  refine zr_lv (lv2 := [some (vr (A (0)) 17), some (vi ((nI c9))), some (vi ((5 : Int32))), none]) rfl ?_
  refine zr_aload0 X dX12_ofCard_0 ?_
  refine zr_iload1 X dX12_ofCard_1 ?_
  refine zr_callV1 (rm9 := zrm_X12_where) X hnt zm_X12_158 (by decide) (by decide) (by decide) (Nat.le_of_ble_eq_true rfl) dX12_ofCard_2 ?_
  refine zp_X12_where (c9 := c9) hS hM hW (by omega) ?_ ?_
  · skip
    intro g1 sd2 p3 ha4; have := ha4.1; have := ha4.2.1; have := (qPos_at hW ha4).2
    refine zr_istore3 X (by decide) rfl dX12_ofCard_5 ?_
    refine zr_iload2 X dX12_ofCard_6 ?_
    refine zr_tblIn (off := 112) (tgt := 119) X dX12_ofCard_7 (by decide) (by decide) (by decide) (by decide) ?_
    refine zr_iload3 X dX12_ofCard_119 ?_
    refine zr_nif_ge X ((100 * g1 + 50 * sd2 + p3)) (tgt := 127) (by omega) dX12_ofCard_120 (by decide) (fun _ => ?_) (fun h => absurd trivial h)
    refine zr_iload3 X dX12_ofCard_127 ?_
    refine zr_bipush (v := (50 : Int32)) X dX12_ofCard_128 (by decide) ?_
    refine zr_irem X dX12_ofCard_130 (by decide) ?_
    refine zr_eq (x2 := (nI ((100 * g1 + 50 * sd2 + p3) % 50))) (pk_rem (a := (100 * g1 + 50 * sd2 + p3)) (d := 50) (by omega) (by decide) (by decide)) ?_
    refine zr_iret X (by decide) (by decide) dX12_ofCard_131 ?_
    rw [show qCard S c9 5 = qWh S c9 5 from rfl, qWh_at hW ha4] at k1
    rw [if_neg (by decide), if_neg (by decide)] at k1
    refine cast (congrArg (fun q => Qp I (some (vi (nI q)))) ?_) k1
    omega
  · skip
    intro hn5
    refine zr_istore3 X (by decide) rfl dX12_ofCard_5 ?_
    refine zr_iload2 X dX12_ofCard_6 ?_
    refine zr_tblIn (off := 112) (tgt := 119) X dX12_ofCard_7 (by decide) (by decide) (by decide) (by decide) ?_
    refine zr_iload3 X dX12_ofCard_119 ?_
    refine zr_if_ge (tgt := 127) X dX12_ofCard_120 (by decide) (fun h => absurd h (by decide)) (fun _ => ?_)
    refine zr_iconst (v := (-1 : Int32)) X dX12_ofCard_123 (by decide) ?_
    refine zr_goto (tgt := 131) X dX12_ofCard_124 (by decide) ?_
    refine zr_iret X (by decide) (by decide) dX12_ofCard_131 ?_
    rw [show qCard S c9 5 = qWh S c9 5 from rfl, qWh_not hn5] at k1
    exact k1
set_option maxRecDepth 20000 in
theorem zp6_X12_ofCard {l : Launch} {D : va_G} {b0 : Nat} {tA : Nat → ClassId} {sa sv : Nat → Nat} {K : zKt} {I : zI} {Qp : zI → Option AV → Prop} {Xp : String → zI → Prop} {A : Nat → Nat} {n7 m7 c9 : Nat} {S : zS}
    (hS : zSh K A n7 m7) (hM : zSt I A n7 m7 S) (hW : zWf S) (hc : c9 < m7) (k1 : Qp I (some (vi (qCard S c9 6)))) :
    zC l D b0 tA sa sv K yX12_ofCard (.code yX12_ofCard cX12_ofCard 4 (some .int)) zrm_X12_ofCard [vr (A (0)) 17, vi ((nI c9)), vi ((6 : Int32))] I Qp Xp := by
  have hA := hS.1
  have hn6 := hM.1.1
  have hm12 := hM.1.2
  have hgn := hM.ng
  have hcm := hM.nc
  have hlen := hW.len
  refine zC_of (by decide +kernel) (Nat.le_of_ble_eq_true rfl) ?_
  intro p e s m args below meth c X hnt
  have X : zX p l e zrm_X12_ofCard s m args below meth c RX12 cX12_ofCard 4 (some .int) D b0 tA sa sv := X
  refine zr_lv (lv2 := [some (vr (A (0)) 17), some (vi ((nI c9))), some (vi ((6 : Int32))), none]) rfl ?_
  refine zr_aload0 X dX12_ofCard_0 ?_
  refine zr_iload1 X dX12_ofCard_1 ?_
  refine zr_callV1 (rm9 := zrm_X12_where) X hnt zm_X12_158 (by decide) (by decide) (by decide) (Nat.le_of_ble_eq_true rfl) dX12_ofCard_2 ?_
  refine zp_X12_where (c9 := c9) hS hM hW (by omega) ?_ ?_
  · skip
    intro g1 sd2 p3 ha4; have := ha4.1; have := ha4.2.1; have := (qPos_at hW ha4).2
    refine zr_istore3 X (by decide) rfl dX12_ofCard_5 ?_
    refine zr_iload2 X dX12_ofCard_6 ?_
    refine zr_tblOut (tgt := 132) X dX12_ofCard_7 (by decide) (by decide) ?_
    refine zr_aload0 X dX12_ofCard_132 ?_
    refine zr_getD (r := A (2)) X zf_X12_36 rfl (by decide) (hS.2.1.2.2.1) dX12_ofCard_133 ?_
    refine zr_iload1 X dX12_ofCard_136 ?_
    refine zr_aaldD (k := 21) (n := c9) (r := A (40 + c9)) X rfl (show _ < 12 from (by first | decide | omega)) (hS.2.2.2.1 c9 (by omega)) dX12_ofCard_137 ?_
    refine zr_getI X zf_X12_80 rfl dX12_ofCard_138 ?_
    refine zr_eq (x2 := (sC S c9 3)) (hM.2.2.2.2.2 c9 (by omega) 3 (by decide)) ?_
    refine zr_iret X (by decide) (by decide) dX12_ofCard_141 ?_
    exact k1
  · skip
    intro hn5
    refine zr_istore3 X (by decide) rfl dX12_ofCard_5 ?_
    refine zr_iload2 X dX12_ofCard_6 ?_
    refine zr_tblOut (tgt := 132) X dX12_ofCard_7 (by decide) (by decide) ?_
    refine zr_aload0 X dX12_ofCard_132 ?_
    refine zr_getD (r := A (2)) X zf_X12_36 rfl (by decide) (hS.2.1.2.2.1) dX12_ofCard_133 ?_
    refine zr_iload1 X dX12_ofCard_136 ?_
    refine zr_aaldD (k := 21) (n := c9) (r := A (40 + c9)) X rfl (show _ < 12 from (by first | decide | omega)) (hS.2.2.2.1 c9 (by omega)) dX12_ofCard_137 ?_
    refine zr_getI X zf_X12_80 rfl dX12_ofCard_138 ?_
    refine zr_eq (x2 := (sC S c9 3)) (hM.2.2.2.2.2 c9 (by omega) 3 (by decide)) ?_
    refine zr_iret X (by decide) (by decide) dX12_ofCard_141 ?_
    exact k1
theorem zq_X12_ofCard {l : Launch} {D : va_G} {b0 : Nat} {tA : Nat → ClassId} {sa sv : Nat → Nat} {K : zKt} {I : zI} {Qp : zI → Option AV → Prop} {Xp : String → zI → Prop} {A : Nat → Nat} {n7 m7 c9 w9 : Nat} {S : zS} (hS : zSh K A n7 m7) (hM : zSt I A n7 m7 S) (hW : zWf S) (hc : c9 < m7) (hw9 : w9 < 7) (k1 : Qp I (some (vi (qCard S c9 w9)))) :
    zC l D b0 tA sa sv K yX12_ofCard (.code yX12_ofCard cX12_ofCard 4 (some .int)) zrm_X12_ofCard [vr (A (0)) 17, vi ((nI c9)), vi ((nI w9))] I Qp Xp := by
  rcases (show w9 = 0 ∨ w9 = 1 ∨ w9 = 2 ∨ w9 = 3 ∨ w9 = 4 ∨ w9 = 5 ∨ w9 = 6 by omega) with rfl | rfl | rfl | rfl | rfl | rfl | rfl
  · exact zp0_X12_ofCard hS hM hW hc k1
  · exact zp1_X12_ofCard hS hM hW hc k1
  · exact zp2_X12_ofCard hS hM hW hc k1
  · exact zp3_X12_ofCard hS hM hW hc k1
  · exact zp4_X12_ofCard hS hM hW hc k1
  · exact zp5_X12_ofCard hS hM hW hc k1
  · exact zp6_X12_ofCard hS hM hW hc k1
