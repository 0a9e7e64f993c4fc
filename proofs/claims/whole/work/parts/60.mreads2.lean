/-! ===== the reference: names found, best gates, out in a panic, shares, what would be ===== -/
abbrev zrm_X8_find : Room := { frames := 2, cells := 0, slots := 0, locals := 47 }
theorem tNmL0 {t : Nat → Nat} {L : Nat} : (fun k => if k < L then nI (t (0 + k)) else 0) = tNmL t L := by
  funext k
  unfold tNmL
  rw [Nat.zero_add]
theorem tFirstB_not {t : Nat → Nat} {L k : Nat} (hk : k < L) (h : tLet (t k) = false) : tFirstB t L = false := by
  unfold tFirstB
  rw [Bool.and_eq_false_iff]
  refine Or.inr ?_
  rw [Bool.eq_false_iff]
  intro z
  rw [List.all_eq_true] at z
  have := z k (List.mem_range.mpr hk)
  rw [h] at this; cases this
theorem tFirstB_len {t : Nat → Nat} {L : Nat} (h : ¬ (1 ≤ L ∧ L ≤ 6)) : tFirstB t L = false := by
  unfold tFirstB
  rw [decide_eq_false h, Bool.false_and]
theorem tFirstB_ok {t : Nat → Nat} {L : Nat} (h : 1 ≤ L ∧ L ≤ 6) (g : ∀ i, i < L → tLet (t i) = true) : tFirstB t L = true := by
  unfold tFirstB
  rw [decide_eq_true h, Bool.true_and, List.all_eq_true]
  exact fun i hi => g i (List.mem_range.mp hi)
set_option maxRecDepth 20000 in
theorem zl_X8_find {l : Launch} {D : va_G} {b0 : Nat} {tA : Nat → ClassId} {sa sv : Nat → Nat} {K : Nat → Option Nat} {I : zI} {Qp : zI → Option AV → Prop} {Xp : String → zI → Prop} {p : Program} {e : Env} {s : State} {m : MethodId} {args : Array Value} {below : List Frame} {meth : Method} {c : Code} {F9 : zI} {y f : Nat} {t : Nat → Nat} {er : Int32} {S : zS} {U : List zS} {L9 : Nat}
    (X : zX p l e zrm_X8_find s m args below meth c RX8 cX8_find 3 (some .int) D b0 tA sa sv) (hnt : ∀ x ∈ c.exceptionTable.toList, False) (hC : zRf F9 I y t f er S U) (hL : L9 ≤ f) (k1 : Qp I (some (vi (qFind S t L9)))) :
    ∀ (n : Nat) (k : Nat), k ≤ L9 → (∀ i, i < k → tLet (t i) = true) → L9 - k < n → zG p l e zrm_X8_find s m args below meth c 3 D b0 tA sa 0 0 (zQ below D b0 tA sa K args s zrm_X8_find Qp Xp) K 34 [some (vr (y) 8), some (vi ((nI L9))), some (vi ((nI k)))] [] I := by
  intro n
  induction n with
  | zero => intro k i1 i2 i9; exact absurd i9 (Nat.not_lt_zero _)
  | succ n ih =>
    intro k i1 i2 i9
    have hW := hC.2.2.2.1
    have hf5 := hC.1.2.1
    have ht9 := hC.1.2.2.1 k
    refine zr_iload2 X dX8_find_34 ?_
    refine zr_iload1 X dX8_find_35 ?_
    refine zr_nicmp_ge X (k) (L9) (tgt := 63) (by omega) (by omega) dX8_find_36 (by decide) (fun h1 => ?_) (fun h1 => ?_)
    · skip
      refine zr_iload1 X dX8_find_63 ?_
      refine zr_iconst (v := (1 : Int32)) X dX8_find_64 (by decide) ?_
      refine zr_bipush (v := (6 : Int32)) X dX8_find_65 (by decide) ?_
      refine zr_callS3 (rm9 := zrm_X8_in) X hnt zm_X8_117 (by decide) (by decide) (by decide) (Nat.le_of_ble_eq_true rfl) dX8_find_67 ?_
      refine zq_X8_in ?_ ?_
      · skip
        intro hi2; have h6L : L9 ≤ 6 := (nI_leI (b := 6) (by omega) (by decide)).mp hi2.2
        refine zr_if_eq (tgt := 86) X dX8_find_70 (by decide) (fun h => absurd h (by decide)) (fun _ => ?_)
        refine zr_aload0 X dX8_find_73 ?_
        refine zr_aload0 X dX8_find_74 ?_
        refine zr_getR X zf_X8_17 rfl (by decide) (by decide) dX8_find_75 ?_
        refine zr_iconst (v := (0 : Int32)) X dX8_find_78 (by decide) ?_
        refine zr_iload1 X dX8_find_79 ?_
        refine zr_callV3 (rm9 := zrm_X8_called) X hnt zm_X8_159 (by decide) (by decide) (by decide) (Nat.le_of_ble_eq_true rfl) dX8_find_80 ?_
        refine zp_X8_called (t := t) (p9 := 0) (L := L9) hC.2.2.1 hW (fun k hk => by rw [Nat.zero_add]; exact hC.1.2.2.2 k (by omega)) (by omega) (by omega) ?_ ?_
        · skip
          intro c1 hq2 hc3
          refine zr_goto (tgt := 87) X dX8_find_83 (by decide) ?_
          refine zr_iret X (by decide) (by decide) dX8_find_87 ?_
          have hj : k = L9 := by omega
          subst hj
          have h16 : 1 ≤ k ∧ k ≤ 6 := ⟨(nI_leI (a := 1) (by decide) (by omega)).mp hi2.1, (nI_leI (b := 6) (by omega) (by decide)).mp hi2.2⟩
          have h8 := hq2
          rw [tNmL0] at h8
          have e9 : qFind S t k = (nI c1) := by unfold qFind; rw [if_pos (tFirstB_ok h16 i2), h8]
          rw [e9] at k1; exact k1
        · skip
          intro hq4
          refine zr_goto (tgt := 87) X dX8_find_83 (by decide) ?_
          refine zr_iret X (by decide) (by decide) dX8_find_87 ?_
          have hj : k = L9 := by omega
          subst hj
          have h16 : 1 ≤ k ∧ k ≤ 6 := ⟨(nI_leI (a := 1) (by decide) (by omega)).mp hi2.1, (nI_leI (b := 6) (by omega) (by decide)).mp hi2.2⟩
          have h8 := hq4
          rw [tNmL0] at h8
          have e9 : qFind S t k = (-1 : Int32) := by unfold qFind; rw [if_pos (tFirstB_ok h16 i2), h8]
          rw [e9] at k1; exact k1
      · skip
        intro hi2
        refine zr_if_eq (tgt := 86) X dX8_find_70 (by decide) (fun _ => ?_) (fun h => absurd h (by decide))
        refine zr_iconst (v := (-1 : Int32)) X dX8_find_86 (by decide) ?_
        refine zr_iret X (by decide) (by decide) dX8_find_87 ?_
        have hj : k = L9 := by omega
        subst hj
        have e9 : qFind S t k = -1 := by unfold qFind; rw [tFirstB_len (fun z => hi2 ⟨(nI_leI (a := 1) (by decide) (by omega)).mpr z.1, (nI_leI (b := 6) (by omega) (by decide)).mpr z.2⟩)]; rfl
        rw [e9] at k1; exact k1
    · skip
      refine zr_aload0 X dX8_find_39 ?_
      refine zr_getR X zf_X8_9 rfl (by decide) (by decide) dX8_find_40 ?_
      refine zr_iload2 X dX8_find_43 ?_
      refine zr_ialdN X rfl (show _ < 500 from (by first | assumption | omega)) dX8_find_44 ?_
      refine zr_eq (x2 := (nI (t k))) (hC.1.2.2.2 k (by omega)) ?_
      refine zr_bipush (v := (97 : Int32)) X dX8_find_45 (by decide) ?_
      refine zr_bipush (v := (122 : Int32)) X dX8_find_47 (by decide) ?_
      refine zr_callS3 (rm9 := zrm_X8_in) X hnt zm_X8_117 (by decide) (by decide) (by decide) (Nat.le_of_ble_eq_true rfl) dX8_find_49 ?_
      refine znL_X8_in (v := t k) (by omega) ?_ ?_
      · skip
        intro hl3; have hl3_2 := tLet_iff.mp hl3
        refine zr_if_ne (tgt := 57) X dX8_find_52 (by decide) (fun _ => ?_) (fun h => absurd h (by decide))
        refine zr_iinc2 (v := (nI (k + 1))) X (show nI (k) + Int32.ofInt 1 = nI (k + 1) from nI_1 (k)) (by decide) rfl dX8_find_57 ?_
        refine zr_goto (tgt := 34) X dX8_find_60 (by decide) ?_
        exact ih (k + 1) (by omega) (fun i hi => by rcases Nat.lt_succ_iff_lt_or_eq.mp hi with q | rfl; exact i2 i q; assumption) (by omega)
      · skip
        intro hl3
        refine zr_if_ne (tgt := 57) X dX8_find_52 (by decide) (fun h => absurd h (by decide)) (fun _ => ?_)
        refine zr_iconst (v := (-1 : Int32)) X dX8_find_55 (by decide) ?_
        refine zr_iret X (by decide) (by decide) dX8_find_56 ?_
        have e9 : qFind S t L9 = -1 := by unfold qFind; rw [tFirstB_not (k := k) (by omega) hl3]; rfl
        rw [e9] at k1; exact k1
set_option maxRecDepth 20000 in
theorem zo_X8_find {l : Launch} {D : va_G} {b0 : Nat} {tA : Nat → ClassId} {sa sv : Nat → Nat} {K : Nat → Option Nat} {I : zI} {Qp : zI → Option AV → Prop} {Xp : String → zI → Prop} {F9 : zI} {y f : Nat} {t : Nat → Nat} {er : Int32} {S : zS} {U : List zS} {L9 : Nat}
    (hC : zRf F9 I y t f er S U) (hL : L9 ≤ f) (k1 : ∀ J : zI, zRf F9 J y t f er S U → J y 0 = 0 → Qp J (some (vi (qFind S t L9)))) :
    zC l D b0 tA sa sv K yX8_find (.code yX8_find cX8_find 3 (some .int)) zrm_X8_find [vr (y) 8, vi ((nI L9))] I Qp Xp := by
  have hC1 : zRf F9 (zput I y 0 0) y t f er S U := hC.put (by decide)
  have hW := hC.2.2.2.1
  have hg6 := hW.ng.1
  have hc12 := hW.nc.1
  have hf5 := hC.1.2.1
  refine zC_of (by decide +kernel) (Nat.le_of_ble_eq_true rfl) ?_
  intro p e s m args below meth c X hnt
  have X : zX p l e zrm_X8_find s m args below meth c RX8 cX8_find 3 (some .int) D b0 tA sa sv := X
  refine zr_lv (lv2 := [some (vr (y) 8), some (vi ((nI L9))), none]) rfl ?_
  refine zr_aload0 X dX8_find_0 ?_
  refine zr_iconst (v := (0 : Int32)) X dX8_find_1 (by decide) ?_
  refine zr_putI X zf_X8_31 rfl (Or.inl rfl) dX8_find_2 ?_
  refine zr_aload0 X dX8_find_5 ?_
  refine zr_iload1 X dX8_find_6 ?_
  refine zr_iconst (v := (0 : Int32)) X dX8_find_7 (by decide) ?_
  refine zr_aload0 X dX8_find_8 ?_
  refine zr_getI X zf_X8_98 rfl dX8_find_9 ?_
  refine zr_eq (x2 := (I (y) 2)) ((zput_nj (by decide))) ?_
  refine zr_eq (x2 := (nI f)) (hC.1.1) ?_
  refine zr_callS3 (rm9 := zrm_X8_in) X hnt zm_X8_117 (by decide) (by decide) (by decide) (Nat.le_of_ble_eq_true rfl) dX8_find_12 ?_
  refine zIo_X8_in (n := (f + 1)) (by omega) (by omega) (pk_sub (a := _ + 1) (b := 1) (by omega)).symm ?_
  refine zr_if_ne (tgt := 22) X dX8_find_15 (by decide) (fun _ => ?_) (fun h => absurd h (by decide))
  refine zr_iconst (v := (0 : Int32)) X dX8_find_22 (by decide) ?_
  refine zr_iconst (v := (1 : Int32)) X dX8_find_23 (by decide) ?_
  refine zr_callV2 (rm9 := zrm_X8_fails) X hnt zm_X8_220 (by decide) (by decide) (by decide) (Nat.le_of_ble_eq_true rfl) dX8_find_24 ?_
  refine zf0_X8_fails (zput_eq) ?_
  refine zr_if_eq (tgt := 32) X dX8_find_27 (by decide) (fun _ => ?_) (fun h => absurd h (by decide))
  refine zr_iconst (v := (0 : Int32)) X dX8_find_32 (by decide) ?_
  refine zr_istore2 X (by decide) rfl dX8_find_33 ?_
  exact zl_X8_find X hnt hC1 hL (k1 _ hC1 zput_eq) (L9 + 1) 0 (by omega) (fun i hi => absurd hi (Nat.not_lt_zero _)) (by omega)
set_option maxRecDepth 20000 in
theorem zx_X8_find {l : Launch} {D : va_G} {b0 : Nat} {tA : Nat → ClassId} {sa sv : Nat → Nat} {K : Nat → Option Nat} {I : zI} {Qp : zI → Option AV → Prop} {Xp : String → zI → Prop} {F9 : zI} {y f : Nat} {t : Nat → Nat} {er : Int32} {S : zS} {U : List zS} {v : Int32}
    (hC : zRf F9 I y t f er S U) (hb : vIdx v (f + 1) = none) (kx : ∀ (J : zI) (v9 : Int32), zRf F9 J y t f er S U → J y 0 = 1 → Qp J (some (vi v9))) :
    zC l D b0 tA sa sv K yX8_find (.code yX8_find cX8_find 3 (some .int)) zrm_X8_find [vr (y) 8, vi (v)] I Qp Xp := by
  have hC1 : zRf F9 (zput I y 0 0) y t f er S U := hC.put (by decide)
  have hW := hC.2.2.2.1
  have hg6 := hW.ng.1
  have hc12 := hW.nc.1
  have hf5 := hC.1.2.1
  refine zC_of (by decide +kernel) (Nat.le_of_ble_eq_true rfl) ?_
  intro p e s m args below meth c X hnt
  have X : zX p l e zrm_X8_find s m args below meth c RX8 cX8_find 3 (some .int) D b0 tA sa sv := X
  refine zr_lv (lv2 := [some (vr (y) 8), some (vi (v)), none]) rfl ?_
  refine zr_aload0 X dX8_find_0 ?_
  refine zr_iconst (v := (0 : Int32)) X dX8_find_1 (by decide) ?_
  refine zr_putI X zf_X8_31 rfl (Or.inl rfl) dX8_find_2 ?_
  refine zr_aload0 X dX8_find_5 ?_
  refine zr_iload1 X dX8_find_6 ?_
  refine zr_iconst (v := (0 : Int32)) X dX8_find_7 (by decide) ?_
  refine zr_aload0 X dX8_find_8 ?_
  refine zr_getI X zf_X8_98 rfl dX8_find_9 ?_
  refine zr_eq (x2 := (I (y) 2)) ((zput_nj (by decide))) ?_
  refine zr_eq (x2 := (nI f)) (hC.1.1) ?_
  refine zr_callS3 (rm9 := zrm_X8_in) X hnt zm_X8_117 (by decide) (by decide) (by decide) (Nat.le_of_ble_eq_true rfl) dX8_find_12 ?_
  refine zIx_X8_in (n := (f + 1)) (by assumption) (by omega) (pk_sub (a := _ + 1) (b := 1) (by omega)).symm ?_
  refine zr_if_ne (tgt := 22) X dX8_find_15 (by decide) (fun h => absurd h (by decide)) (fun _ => ?_)
  refine zr_iconst (v := (1 : Int32)) X dX8_find_18 (by decide) ?_
  refine zr_goto (tgt := 23) X dX8_find_19 (by decide) ?_
  refine zr_iconst (v := (1 : Int32)) X dX8_find_23 (by decide) ?_
  refine zr_callV2 (rm9 := zrm_X8_fails) X hnt zm_X8_220 (by decide) (by decide) (by decide) (Nat.le_of_ble_eq_true rfl) dX8_find_24 ?_
  refine zf1_X8_fails (zput_eq) (by decide) ?_
  refine zr_if_eq (tgt := 32) X dX8_find_27 (by decide) (fun h => absurd h (by decide)) (fun _ => ?_)
  refine zr_iconst (v := (0 : Int32)) X dX8_find_30 (by decide) ?_
  refine zr_iret X (by decide) (by decide) dX8_find_31 ?_
  exact kx _ _ (hC1.put (by decide)) zput_eq
theorem zq_X8_find {l : Launch} {D : va_G} {b0 : Nat} {tA : Nat → ClassId} {sa sv : Nat → Nat} {K : Nat → Option Nat} {I : zI} {Qp : zI → Option AV → Prop} {Xp : String → zI → Prop} {F9 : zI} {y f : Nat} {t : Nat → Nat} {er : Int32} {S : zS} {U : List zS} {v : Int32}
    (hC : zRf F9 I y t f er S U) (k0 : (rFind S t f v).1 = 0 → ∀ J : zI, zRf F9 J y t f er S U → J y 0 = 0 → Qp J (some (vi (rFind S t f v).2))) (kx1 : (rFind S t f v).1 = 1 → ∀ (J : zI) (v9 : Int32), zRf F9 J y t f er S U → J y 0 = 1 → Qp J (some (vi v9))) :
    zC l D b0 tA sa sv K yX8_find (.code yX8_find cX8_find 3 (some .int)) zrm_X8_find [vr (y) 8, vi (v)] I Qp Xp := by
  unfold rFind at k0 kx1
  cases e1 : vIdx v (f + 1) with
  | none => rw [e1] at kx1; exact zx_X8_find hC e1 (kx1 rfl)
  | some L =>
    rw [e1] at k0
    obtain ⟨h1, rfl⟩ := vIdx_some e1
    exact zo_X8_find hC (by omega) (k0 rfl)
abbrev zrm_X8_bestGate : Room := { frames := 2, cells := 0, slots := 0, locals := 44 }
set_option maxRecDepth 20000 in
theorem zl_X8_bestGate {l : Launch} {D : va_G} {b0 : Nat} {tA : Nat → ClassId} {sa sv : Nat → Nat} {K : Nat → Option Nat} {I : zI} {Qp : zI → Option AV → Prop} {Xp : String → zI → Prop} {p : Program} {e : Env} {s : State} {m : MethodId} {args : Array Value} {below : List Frame} {meth : Method} {c : Code} {F9 : zI} {y f : Nat} {t : Nat → Nat} {er : Int32} {S : zS} {U : List zS} {s9 : Nat}
    (X : zX p l e zrm_X8_bestGate s m args below meth c RX8 cX8_bestGate 4 (some .int) D b0 tA sa sv) (hnt : ∀ x ∈ c.exceptionTable.toList, False) (hC : zRf F9 I y t f er S U) (hs : s9 < 2) (k1 : Qp I (some (vi ((qBest S s9 (zng S)).1)))) :
    ∀ (n : Nat) (j : Nat) (x : Int32), j ≤ zng S → ((x = -1 ∧ qBest S s9 j = (-1, 11)) ∨ (∃ b, b < j ∧ x = nI b ∧ qBest S s9 j = (nI b, (sL S b s9).length))) → zng S - j < n → zG p l e zrm_X8_bestGate s m args below meth c 4 D b0 tA sa 0 0 (zQ below D b0 tA sa K args s zrm_X8_bestGate Qp Xp) K 20 [some (vr (y) 8), some (vi ((nI s9))), some (vi (x)), some (vi ((nI j)))] [] I := by
  intro n
  induction n with
  | zero => intro j x i1 i2 i9; exact absurd i9 (Nat.not_lt_zero _)
  | succ n ih =>
    intro j x i1 i2 i9
    have hW := hC.2.2.2.1
    have hg6 := hW.ng.1
    have hc12 := hW.nc.1
    have hl9 := hW.len j s9
    rcases i2 with ⟨rfl, hq⟩ | ⟨b, hb, rfl, hq⟩
    · skip
      refine zr_iload3 X dX8_bestGate_20 ?_
      refine zr_aload0 X dX8_bestGate_21 ?_
      refine zr_getR X zf_X8_17 rfl (by decide) (by decide) dX8_bestGate_22 ?_
      refine zr_iconst (v := (4 : Int32)) X dX8_bestGate_25 (by decide) ?_
      refine zr_ialdN (n := 4) X rfl (show _ < 310 from (by first | assumption | omega | decide)) dX8_bestGate_26 ?_
      refine zr_eq (x2 := (sX S 4)) (hC.2.2.1.1 4 (by decide)) ?_
      refine zr_eq (x2 := (nI (zng S))) (hW.ng.2) ?_
      refine zr_nicmp_ge X (j) ((zng S)) (tgt := 81) (by omega) (by omega) dX8_bestGate_27 (by decide) (fun h1 => ?_) (fun h1 => ?_)
      · skip
        refine zr_iload2 X dX8_bestGate_81 ?_
        refine zr_iret X (by decide) (by decide) dX8_bestGate_82 ?_
        have hj : j = zng S := by omega
        rw [← hj, hq] at k1; exact k1
      · skip
        refine zr_aload0 X dX8_bestGate_30 ?_
        refine zr_getR X zf_X8_17 rfl (by decide) (by decide) dX8_bestGate_31 ?_
        refine zr_iload3 X dX8_bestGate_34 ?_
        refine zr_iconst (v := (0 : Int32)) X dX8_bestGate_35 (by decide) ?_
        refine zr_callS2 (rm9 := zrm_X8_gateAt) X hnt zm_X8_34 (by decide) (by decide) (by decide) (Nat.le_of_ble_eq_true rfl) dX8_bestGate_36 ?_
        refine zn_X8_gateAt (g := j) (w := 0) ?_
        refine zr_ialdN (n := 16 + 29 * j + 0) X rfl (show _ < 310 from (by first | assumption | omega | decide)) dX8_bestGate_39 ?_
        refine zr_eq (x2 := (sG S j 0)) ((hC.2.2.1.2.1 j (by omega)).1 0 (by first | decide | omega)) ?_
        refine zr_iload1 X dX8_bestGate_40 ?_
        refine zr_callS2 (rm9 := zrm_X8_serves) X hnt zm_X8_46 (by decide) (by decide) (by decide) (Nat.le_of_ble_eq_true rfl) dX8_bestGate_41 ?_
        refine zq_X8_serves (s9 := s9) ?_ ?_
        · skip
          intro hs2
          refine zr_if_eq (tgt := 75) X dX8_bestGate_44 (by decide) (fun h => absurd h (by decide)) (fun _ => ?_)
          refine zr_iload2 X dX8_bestGate_47 ?_
          refine zr_iconst (v := (-1 : Int32)) X dX8_bestGate_48 (by decide) ?_
          refine zr_icmp_eq (tgt := 73) X dX8_bestGate_49 (by decide) (fun _ => ?_) (fun h => absurd h (by decide))
          refine zr_iload3 X dX8_bestGate_73 ?_
          refine zr_istore2 X (by decide) rfl dX8_bestGate_74 ?_
          refine zr_iinc3 (v := (nI (j + 1))) X (show nI (j) + Int32.ofInt 1 = nI (j + 1) from nI_1 (j)) (by decide) rfl dX8_bestGate_75 ?_
          refine zr_goto (tgt := 20) X dX8_bestGate_78 (by decide) ?_
          exact ih (j + 1) _ (by omega) (Or.inr ⟨j, by omega, rfl, by rw [qBest, if_pos ⟨hs2, by rw [hq]; show _ < 11; omega⟩]⟩) (by omega)
        · skip
          intro hs2
          refine zr_if_eq (tgt := 75) X dX8_bestGate_44 (by decide) (fun _ => ?_) (fun h => absurd h (by decide))
          refine zr_iinc3 (v := (nI (j + 1))) X (show nI (j) + Int32.ofInt 1 = nI (j + 1) from nI_1 (j)) (by decide) rfl dX8_bestGate_75 ?_
          refine zr_goto (tgt := 20) X dX8_bestGate_78 (by decide) ?_
          exact ih (j + 1) _ (by omega) (Or.inl ⟨rfl, by rw [qBest, if_neg (fun z => hs2 z.1)]; exact hq⟩) (by omega)
    · skip
      have hl8 := hW.len b s9
      refine zr_iload3 X dX8_bestGate_20 ?_
      refine zr_aload0 X dX8_bestGate_21 ?_
      refine zr_getR X zf_X8_17 rfl (by decide) (by decide) dX8_bestGate_22 ?_
      refine zr_iconst (v := (4 : Int32)) X dX8_bestGate_25 (by decide) ?_
      refine zr_ialdN (n := 4) X rfl (show _ < 310 from (by first | assumption | omega | decide)) dX8_bestGate_26 ?_
      refine zr_eq (x2 := (sX S 4)) (hC.2.2.1.1 4 (by decide)) ?_
      refine zr_eq (x2 := (nI (zng S))) (hW.ng.2) ?_
      refine zr_nicmp_ge X (j) ((zng S)) (tgt := 81) (by omega) (by omega) dX8_bestGate_27 (by decide) (fun h1 => ?_) (fun h1 => ?_)
      · skip
        refine zr_iload2 X dX8_bestGate_81 ?_
        refine zr_iret X (by decide) (by decide) dX8_bestGate_82 ?_
        have hj : j = zng S := by omega
        rw [← hj, hq] at k1; exact k1
      · skip
        refine zr_aload0 X dX8_bestGate_30 ?_
        refine zr_getR X zf_X8_17 rfl (by decide) (by decide) dX8_bestGate_31 ?_
        refine zr_iload3 X dX8_bestGate_34 ?_
        refine zr_iconst (v := (0 : Int32)) X dX8_bestGate_35 (by decide) ?_
        refine zr_callS2 (rm9 := zrm_X8_gateAt) X hnt zm_X8_34 (by decide) (by decide) (by decide) (Nat.le_of_ble_eq_true rfl) dX8_bestGate_36 ?_
        refine zn_X8_gateAt (g := j) (w := 0) ?_
        refine zr_ialdN (n := 16 + 29 * j + 0) X rfl (show _ < 310 from (by first | assumption | omega | decide)) dX8_bestGate_39 ?_
        refine zr_eq (x2 := (sG S j 0)) ((hC.2.2.1.2.1 j (by omega)).1 0 (by first | decide | omega)) ?_
        refine zr_iload1 X dX8_bestGate_40 ?_
        refine zr_callS2 (rm9 := zrm_X8_serves) X hnt zm_X8_46 (by decide) (by decide) (by decide) (Nat.le_of_ble_eq_true rfl) dX8_bestGate_41 ?_
        refine zq_X8_serves (s9 := s9) ?_ ?_
        · skip
          intro hs2
          refine zr_if_eq (tgt := 75) X dX8_bestGate_44 (by decide) (fun h => absurd h (by decide)) (fun _ => ?_)
          refine zr_iload2 X dX8_bestGate_47 ?_
          refine zr_iconst (v := (-1 : Int32)) X dX8_bestGate_48 (by decide) ?_
          refine zr_icmp_eq (tgt := 73) X dX8_bestGate_49 (by decide) (fun h => absurd h (zm1 (by omega))) (fun _ => ?_)
          refine zr_aload0 X dX8_bestGate_52 ?_
          refine zr_getR X zf_X8_17 rfl (by decide) (by decide) dX8_bestGate_53 ?_
          refine zr_iload3 X dX8_bestGate_56 ?_
          refine zr_iload1 X dX8_bestGate_57 ?_
          refine zr_callS3 (rm9 := zrm_X8_many) X hnt zm_X8_38 (by decide) (by decide) (by decide) (Nat.le_of_ble_eq_true rfl) dX8_bestGate_58 ?_
          refine zn_X8_many (g := j) (s9 := s9) hC.2.2.1 (by omega) (by omega) ?_
          refine zr_aload0 X dX8_bestGate_61 ?_
          refine zr_getR X zf_X8_17 rfl (by decide) (by decide) dX8_bestGate_62 ?_
          refine zr_iload2 X dX8_bestGate_65 ?_
          refine zr_iload1 X dX8_bestGate_66 ?_
          refine zr_callS3 (rm9 := zrm_X8_many) X hnt zm_X8_38 (by decide) (by decide) (by decide) (Nat.le_of_ble_eq_true rfl) dX8_bestGate_67 ?_
          refine zn_X8_many (g := b) (s9 := s9) hC.2.2.1 (by omega) (by omega) ?_
          refine zr_nicmp_ge X (((sL S j s9).length)) (((sL S b s9).length)) (tgt := 75) (by omega) (by omega) dX8_bestGate_70 (by decide) (fun h3 => ?_) (fun h3 => ?_)
          · skip
            refine zr_iinc3 (v := (nI (j + 1))) X (show nI (j) + Int32.ofInt 1 = nI (j + 1) from nI_1 (j)) (by decide) rfl dX8_bestGate_75 ?_
            refine zr_goto (tgt := 20) X dX8_bestGate_78 (by decide) ?_
            exact ih (j + 1) _ (by omega) (Or.inr ⟨b, by omega, rfl, by rw [qBest, if_neg (fun z => by have h8 := z.2; rw [hq] at h8; have h7 : (sL S j s9).length < (sL S b s9).length := h8; omega)]; exact hq⟩) (by omega)
          · skip
            refine zr_iload3 X dX8_bestGate_73 ?_
            refine zr_istore2 X (by decide) rfl dX8_bestGate_74 ?_
            refine zr_iinc3 (v := (nI (j + 1))) X (show nI (j) + Int32.ofInt 1 = nI (j + 1) from nI_1 (j)) (by decide) rfl dX8_bestGate_75 ?_
            refine zr_goto (tgt := 20) X dX8_bestGate_78 (by decide) ?_
            exact ih (j + 1) _ (by omega) (Or.inr ⟨j, by omega, rfl, by rw [qBest, if_pos ⟨hs2, by rw [hq]; show _ < (sL S b s9).length; omega⟩]⟩) (by omega)
        · skip
          intro hs2
          refine zr_if_eq (tgt := 75) X dX8_bestGate_44 (by decide) (fun _ => ?_) (fun h => absurd h (by decide))
          refine zr_iinc3 (v := (nI (j + 1))) X (show nI (j) + Int32.ofInt 1 = nI (j + 1) from nI_1 (j)) (by decide) rfl dX8_bestGate_75 ?_
          refine zr_goto (tgt := 20) X dX8_bestGate_78 (by decide) ?_
          exact ih (j + 1) _ (by omega) (Or.inr ⟨b, by omega, rfl, by rw [qBest, if_neg (fun z => hs2 z.1)]; exact hq⟩) (by omega)
set_option maxRecDepth 20000 in
theorem zo_X8_bestGate {l : Launch} {D : va_G} {b0 : Nat} {tA : Nat → ClassId} {sa sv : Nat → Nat} {K : Nat → Option Nat} {I : zI} {Qp : zI → Option AV → Prop} {Xp : String → zI → Prop} {F9 : zI} {y f : Nat} {t : Nat → Nat} {er : Int32} {S : zS} {U : List zS} {s9 : Nat}
    (hC : zRf F9 I y t f er S U) (hs : s9 < 2) (k1 : ∀ J : zI, zRf F9 J y t f er S U → J y 0 = 0 → Qp J (some (vi ((qBest S s9 (zng S)).1)))) :
    zC l D b0 tA sa sv K yX8_bestGate (.code yX8_bestGate cX8_bestGate 4 (some .int)) zrm_X8_bestGate [vr (y) 8, vi ((nI s9))] I Qp Xp := by
  have hC1 : zRf F9 (zput I y 0 0) y t f er S U := hC.put (by decide)
  have hW := hC.2.2.2.1
  have hg6 := hW.ng.1
  have hc12 := hW.nc.1
  have hf5 := hC.1.2.1
  refine zC_of (by decide +kernel) (Nat.le_of_ble_eq_true rfl) ?_
  intro p e s m args below meth c X hnt
  have X : zX p l e zrm_X8_bestGate s m args below meth c RX8 cX8_bestGate 4 (some .int) D b0 tA sa sv := X
  refine zr_lv (lv2 := [some (vr (y) 8), some (vi ((nI s9))), none, none]) rfl ?_
  refine zr_aload0 X dX8_bestGate_0 ?_
  refine zr_iconst (v := (0 : Int32)) X dX8_bestGate_1 (by decide) ?_
  refine zr_putI X zf_X8_31 rfl (Or.inl rfl) dX8_bestGate_2 ?_
  refine zr_aload0 X dX8_bestGate_5 ?_
  refine zr_iload1 X dX8_bestGate_6 ?_
  refine zr_iconst (v := (1 : Int32)) X dX8_bestGate_7 (by decide) ?_
  refine zr_callV2 (rm9 := zrm_X8_noSide) X hnt zm_X8_254 (by decide) (by decide) (by decide) (Nat.le_of_ble_eq_true rfl) dX8_bestGate_8 ?_
  refine zo_X8_noSide (zput_eq) (by omega) ?_
  refine zr_if_eq (tgt := 16) X dX8_bestGate_11 (by decide) (fun _ => ?_) (fun h => absurd h (by decide))
  refine zr_iconst (v := (-1 : Int32)) X dX8_bestGate_16 (by decide) ?_
  refine zr_istore2 X (by decide) rfl dX8_bestGate_17 ?_
  refine zr_iconst (v := (0 : Int32)) X dX8_bestGate_18 (by decide) ?_
  refine zr_istore3 X (by decide) rfl dX8_bestGate_19 ?_
  exact zl_X8_bestGate X hnt hC1 hs (k1 _ hC1 zput_eq) (zng S + 1) 0 _ (by omega) (Or.inl ⟨rfl, rfl⟩) (by omega)
set_option maxRecDepth 20000 in
theorem zx_X8_bestGate {l : Launch} {D : va_G} {b0 : Nat} {tA : Nat → ClassId} {sa sv : Nat → Nat} {K : Nat → Option Nat} {I : zI} {Qp : zI → Option AV → Prop} {Xp : String → zI → Prop} {F9 : zI} {y f : Nat} {t : Nat → Nat} {er : Int32} {S : zS} {U : List zS} {v : Int32}
    (hC : zRf F9 I y t f er S U) (hb : vIdx v (2) = none) (kx : ∀ (J : zI) (v9 : Int32), zRf F9 J y t f er S U → J y 0 = 1 → Qp J (some (vi v9))) :
    zC l D b0 tA sa sv K yX8_bestGate (.code yX8_bestGate cX8_bestGate 4 (some .int)) zrm_X8_bestGate [vr (y) 8, vi (v)] I Qp Xp := by
  have hC1 : zRf F9 (zput I y 0 0) y t f er S U := hC.put (by decide)
  have hW := hC.2.2.2.1
  have hg6 := hW.ng.1
  have hc12 := hW.nc.1
  have hf5 := hC.1.2.1
  refine zC_of (by decide +kernel) (Nat.le_of_ble_eq_true rfl) ?_
  intro p e s m args below meth c X hnt
  have X : zX p l e zrm_X8_bestGate s m args below meth c RX8 cX8_bestGate 4 (some .int) D b0 tA sa sv := X
  refine zr_lv (lv2 := [some (vr (y) 8), some (vi (v)), none, none]) rfl ?_
  refine zr_aload0 X dX8_bestGate_0 ?_
  refine zr_iconst (v := (0 : Int32)) X dX8_bestGate_1 (by decide) ?_
  refine zr_putI X zf_X8_31 rfl (Or.inl rfl) dX8_bestGate_2 ?_
  refine zr_aload0 X dX8_bestGate_5 ?_
  refine zr_iload1 X dX8_bestGate_6 ?_
  refine zr_iconst (v := (1 : Int32)) X dX8_bestGate_7 (by decide) ?_
  refine zr_callV2 (rm9 := zrm_X8_noSide) X hnt zm_X8_254 (by decide) (by decide) (by decide) (Nat.le_of_ble_eq_true rfl) dX8_bestGate_8 ?_
  refine zx_X8_noSide (zput_eq) (by assumption) (by decide) ?_
  refine zr_if_eq (tgt := 16) X dX8_bestGate_11 (by decide) (fun h => absurd h (by decide)) (fun _ => ?_)
  refine zr_iconst (v := (0 : Int32)) X dX8_bestGate_14 (by decide) ?_
  refine zr_iret X (by decide) (by decide) dX8_bestGate_15 ?_
  exact kx _ _ (hC1.put (by decide)) zput_eq
theorem zq_X8_bestGate {l : Launch} {D : va_G} {b0 : Nat} {tA : Nat → ClassId} {sa sv : Nat → Nat} {K : Nat → Option Nat} {I : zI} {Qp : zI → Option AV → Prop} {Xp : String → zI → Prop} {F9 : zI} {y f : Nat} {t : Nat → Nat} {er : Int32} {S : zS} {U : List zS} {v : Int32}
    (hC : zRf F9 I y t f er S U) (k0 : (rBest S v).1 = 0 → ∀ J : zI, zRf F9 J y t f er S U → J y 0 = 0 → Qp J (some (vi (rBest S v).2))) (kx1 : (rBest S v).1 = 1 → ∀ (J : zI) (v9 : Int32), zRf F9 J y t f er S U → J y 0 = 1 → Qp J (some (vi v9))) :
    zC l D b0 tA sa sv K yX8_bestGate (.code yX8_bestGate cX8_bestGate 4 (some .int)) zrm_X8_bestGate [vr (y) 8, vi (v)] I Qp Xp := by
  unfold rBest at k0 kx1
  cases e1 : vIdx v (2) with
  | none => rw [e1] at kx1; exact zx_X8_bestGate hC e1 (kx1 rfl)
  | some s =>
    rw [e1] at k0
    obtain ⟨h1, rfl⟩ := vIdx_some e1
    exact zo_X8_bestGate hC h1 (k0 rfl)
abbrev zrm_X8_outInPanic : Room := { frames := 2, cells := 0, slots := 0, locals := 43 }
theorem qOut_s {f a b : Nat} (hf : 0 < f) : max ((a + f - 1) / f) ((b + f - 1) / f) = (max a b + f - 1) / f := by
  rcases Nat.le_total a b with h | h
  · have := Nat.div_le_div_right (c := f) (show a + f - 1 ≤ b + f - 1 by omega)
    rw [show max a b = b by omega]; omega
  · have := Nat.div_le_div_right (c := f) (show b + f - 1 ≤ a + f - 1 by omega)
    rw [show max a b = a by omega]; omega
theorem qLong_tail {S : zS} (hW : zWf S) : ∀ n, zng S ≤ n → qLong S n = qLong S (zng S)
  | 0, h => by rw [Nat.le_zero.mp h]
  | n + 1, h => by
    by_cases e : zng S = n + 1
    · rw [e]
    · rw [qLong, (hW.blank n (by omega)).2 1, List.length_nil, Nat.max_zero, qLong_tail hW n (by omega)]
theorem zn2_X8_max {l : Launch} {D : va_G} {b0 : Nat} {tA : Nat → ClassId} {sa sv : Nat → Nat} {K : Nat → Option Nat} {I : zI} {Qp : zI → Option AV → Prop} {Xp : String → zI → Prop} {a b : Nat} (ha : a < 2 ^ 31) (hb : b < 2 ^ 31) (k1 : Qp I (some (vi (nI (max a b))))) :
    zC l D b0 tA sa sv K yX8_max (.code yX8_max cX8_max 2 (some .int)) zrm_X8_max [vi ((nI a)), vi ((nI b))] I Qp Xp := by
  refine zp_X8_max (fun h => ?_) (fun h => ?_)
  · have := (nI_leI ha hb).mp h
    rw [show max a b = b by omega] at k1; exact k1
  · have : ¬ a ≤ b := fun z => h ((nI_leI ha hb).mpr z)
    rw [show max a b = a by omega] at k1; exact k1
set_option maxRecDepth 20000 in
theorem zl_X8_outInPanic {l : Launch} {D : va_G} {b0 : Nat} {tA : Nat → ClassId} {sa sv : Nat → Nat} {K : Nat → Option Nat} {I : zI} {Qp : zI → Option AV → Prop} {Xp : String → zI → Prop} {p : Program} {e : Env} {s : State} {m : MethodId} {args : Array Value} {below : List Frame} {meth : Method} {c : Code} {F9 : zI} {y f : Nat} {t : Nat → Nat} {er : Int32} {S : zS} {U : List zS} {f9 : Nat}
    (X : zX p l e zrm_X8_outInPanic s m args below meth c RX8 cX8_outInPanic 3 (some .int) D b0 tA sa sv) (hnt : ∀ x ∈ c.exceptionTable.toList, False) (hC : zRf F9 I y t f er S U) (hf1 : 1 ≤ f9) (hf4 : f9 ≤ 4) (hfe : sX S 1 = nI f9) (k1 : Qp I (some (vi (nI (qOut S))))) :
    ∀ (n : Nat) (j v : Nat), j ≤ zng S → v = (qLong S j + f9 - 1) / f9 → zng S - j < n → zG p l e zrm_X8_outInPanic s m args below meth c 3 D b0 tA sa 0 0 (zQ below D b0 tA sa K args s zrm_X8_outInPanic Qp Xp) K 9 [some (vr (y) 8), some (vi ((nI v))), some (vi ((nI j)))] [] I := by
  intro n
  induction n with
  | zero => intro j v i1 i2 i9; exact absurd i9 (Nat.not_lt_zero _)
  | succ n ih =>
    intro j v i1 i2 i9
    have hW := hC.2.2.2.1
    have hg6 := hW.ng.1
    have hc12 := hW.nc.1
    have hl9 := hW.len j 1
    have hl8 := qLong_le (fun g => hW.len g 1) j
    have hv9 : v ≤ 13 := by rw [i2]; exact Nat.le_trans (Nat.div_le_self _ _) (by omega)
    have hd9 : ((sL S j 1).length + f9 - 1) / f9 ≤ 13 := Nat.le_trans (Nat.div_le_self _ _) (by omega)
    refine zr_iload2 X dX8_outInPanic_9 ?_
    refine zr_aload0 X dX8_outInPanic_10 ?_
    refine zr_getR X zf_X8_17 rfl (by decide) (by decide) dX8_outInPanic_11 ?_
    refine zr_iconst (v := (4 : Int32)) X dX8_outInPanic_14 (by decide) ?_
    refine zr_ialdN (n := 4) X rfl (show _ < 310 from (by first | assumption | omega | decide)) dX8_outInPanic_15 ?_
    refine zr_eq (x2 := (sX S 4)) (hC.2.2.1.1 4 (by decide)) ?_
    refine zr_eq (x2 := (nI (zng S))) (hW.ng.2) ?_
    refine zr_nicmp_ge X (j) ((zng S)) (tgt := 55) (by omega) (by omega) dX8_outInPanic_16 (by decide) (fun h1 => ?_) (fun h1 => ?_)
    · skip
      refine zr_iload1 X dX8_outInPanic_55 ?_
      refine zr_iret X (by decide) (by decide) dX8_outInPanic_56 ?_
      have e9 : nI v = nI (qOut S) := by unfold qOut; rw [hfe, nI_clamp (by omega), qLong_tail hW 6 hg6, i2, show j = zng S by omega]
      rw [e9]; exact k1
    · skip
      refine zr_iload1 X dX8_outInPanic_19 ?_
      refine zr_aload0 X dX8_outInPanic_20 ?_
      refine zr_getR X zf_X8_17 rfl (by decide) (by decide) dX8_outInPanic_21 ?_
      refine zr_iload2 X dX8_outInPanic_24 ?_
      refine zr_iconst (v := (1 : Int32)) X dX8_outInPanic_25 (by decide) ?_
      refine zr_callS3 (rm9 := zrm_X8_many) X hnt zm_X8_38 (by decide) (by decide) (by decide) (Nat.le_of_ble_eq_true rfl) dX8_outInPanic_26 ?_
      refine zn_X8_many (g := j) (s9 := 1) hC.2.2.1 (by omega) (by omega) ?_
      refine zr_aload0 X dX8_outInPanic_29 ?_
      refine zr_getR X zf_X8_17 rfl (by decide) (by decide) dX8_outInPanic_30 ?_
      refine zr_iconst (v := (1 : Int32)) X dX8_outInPanic_33 (by decide) ?_
      refine zr_ialdN (n := 1) X rfl (show _ < 310 from (by first | assumption | omega | decide)) dX8_outInPanic_34 ?_
      refine zr_eq (x2 := (sX S 1)) (hC.2.2.1.1 1 (by decide)) ?_
      refine zr_eq (x2 := (nI f9)) (hfe) ?_
      refine zr_iadd X dX8_outInPanic_35 ?_
      refine zr_eq (x2 := (nI (((sL S j 1).length) + f9))) (nI_add (((sL S j 1).length)) (f9)) ?_
      refine zr_iconst (v := (1 : Int32)) X dX8_outInPanic_36 (by decide) ?_
      refine zr_isub X dX8_outInPanic_37 ?_
      refine zr_eq (x2 := (nI ((((sL S j 1).length) + f9) - 1))) (pk_sub (a := (((sL S j 1).length) + f9)) (b := 1) (by omega)) ?_
      refine zr_aload0 X dX8_outInPanic_38 ?_
      refine zr_getR X zf_X8_17 rfl (by decide) (by decide) dX8_outInPanic_39 ?_
      refine zr_iconst (v := (1 : Int32)) X dX8_outInPanic_42 (by decide) ?_
      refine zr_ialdN (n := 1) X rfl (show _ < 310 from (by first | assumption | omega | decide)) dX8_outInPanic_43 ?_
      refine zr_eq (x2 := (sX S 1)) (hC.2.2.1.1 1 (by decide)) ?_
      refine zr_eq (x2 := (nI f9)) (hfe) ?_
      refine zr_idiv X dX8_outInPanic_44 (by first | decide | (intro z; have := (zn_i0 (a := f9) (by omega)).1.mp z; omega)) ?_
      refine zr_eq (x2 := (nI (((((sL S j 1).length) + f9) - 1) / f9))) (pk_div (by omega) (by omega) (by omega)) ?_
      refine zr_callS2 (rm9 := zrm_X8_max) X hnt zm_X8_162 (by decide) (by decide) (by decide) (Nat.le_of_ble_eq_true rfl) dX8_outInPanic_45 ?_
      refine zn2_X8_max (a := v) (b := ((((sL S j 1).length) + f9) - 1) / f9) (by omega) (by omega) ?_
      refine zr_istore1 X (by decide) rfl dX8_outInPanic_48 ?_
      refine zr_iinc2 (v := (nI (j + 1))) X (show nI (j) + Int32.ofInt 1 = nI (j + 1) from nI_1 (j)) (by decide) rfl dX8_outInPanic_49 ?_
      refine zr_goto (tgt := 9) X dX8_outInPanic_52 (by decide) ?_
      exact ih (j + 1) _ (by omega) (by subst i2; rw [qLong]; exact qOut_s (by omega)) (by omega)
set_option maxRecDepth 20000 in
theorem zq_X8_outInPanic {l : Launch} {D : va_G} {b0 : Nat} {tA : Nat → ClassId} {sa sv : Nat → Nat} {K : Nat → Option Nat} {I : zI} {Qp : zI → Option AV → Prop} {Xp : String → zI → Prop} {F9 : zI} {y f : Nat} {t : Nat → Nat} {er : Int32} {S : zS} {U : List zS}
    (hC : zRf F9 I y t f er S U) (k1 : ∀ J : zI, zRf F9 J y t f er S U → J y 0 = 0 → Qp J (some (vi (nI (qOut S))))) :
    zC l D b0 tA sa sv K yX8_outInPanic (.code yX8_outInPanic cX8_outInPanic 3 (some .int)) zrm_X8_outInPanic [vr (y) 8] I Qp Xp := by
  have hC1 : zRf F9 (zput I y 0 0) y t f er S U := hC.put (by decide)
  have hW := hC.2.2.2.1
  have hg6 := hW.ng.1
  have hc12 := hW.nc.1
  have hf5 := hC.1.2.1
  refine zC_of (by decide +kernel) (Nat.le_of_ble_eq_true rfl) ?_
  intro p e s m args below meth c X hnt
  have X : zX p l e zrm_X8_outInPanic s m args below meth c RX8 cX8_outInPanic 3 (some .int) D b0 tA sa sv := X
  refine zr_lv (lv2 := [some (vr (y) 8), none, none]) rfl ?_
  refine zr_aload0 X dX8_outInPanic_0 ?_
  refine zr_iconst (v := (0 : Int32)) X dX8_outInPanic_1 (by decide) ?_
  refine zr_putI X zf_X8_31 rfl (Or.inl rfl) dX8_outInPanic_2 ?_
  refine zr_iconst (v := (0 : Int32)) X dX8_outInPanic_5 (by decide) ?_
  refine zr_istore1 X (by decide) rfl dX8_outInPanic_6 ?_
  refine zr_iconst (v := (0 : Int32)) X dX8_outInPanic_7 (by decide) ?_
  refine zr_istore2 X (by decide) rfl dX8_outInPanic_8 ?_
  obtain ⟨f9, hf1, hf4, hfe⟩ := hW.flow
  exact zl_X8_outInPanic X hnt hC1 hf1 hf4 hfe (k1 _ hC1 zput_eq) (zng S + 1) 0 0 (by omega) (by show 0 = (0 + f9 - 1) / f9; rw [Nat.zero_add]; exact (Nat.div_eq_of_lt (by omega)).symm) (by omega)
abbrev zrm_X8_followerShare : Room := { frames := 0, cells := 0, slots := 0, locals := 0 }
set_option maxRecDepth 20000 in
theorem zq_X8_followerShare {l : Launch} {D : va_G} {b0 : Nat} {tA : Nat → ClassId} {sa sv : Nat → Nat} {K : Nat → Option Nat} {I : zI} {Qp : zI → Option AV → Prop} {Xp : String → zI → Prop} {F9 : zI} {y f : Nat} {t : Nat → Nat} {er : Int32} {S : zS} {U : List zS}
    (hC : zRf F9 I y t f er S U) (k1 : ∀ J : zI, zRf F9 J y t f er S U → J y 0 = 0 → Qp J (some (vf (qShare S)))) :
    zC l D b0 tA sa sv K yX8_followerShare (.code yX8_followerShare cX8_followerShare 2 (some .float)) zrm_X8_followerShare [vr (y) 8] I Qp Xp := by
  have hC1 : zRf F9 (zput I y 0 0) y t f er S U := hC.put (by decide)
  have hW := hC.2.2.2.1
  have hg6 := hW.ng.1
  have hc12 := hW.nc.1
  have hf5 := hC.1.2.1
  refine zC_of (by decide +kernel) (Nat.le_of_ble_eq_true rfl) ?_
  intro p e s m args below meth c X hnt
  have X : zX p l e zrm_X8_followerShare s m args below meth c RX8 cX8_followerShare 2 (some .float) D b0 tA sa sv := X
  refine zr_lv (lv2 := [some (vr (y) 8), none]) rfl ?_
  refine zr_aload0 X dX8_followerShare_0 ?_
  refine zr_iconst (v := (0 : Int32)) X dX8_followerShare_1 (by decide) ?_
  refine zr_putI X zf_X8_31 rfl (Or.inl rfl) dX8_followerShare_2 ?_
  refine zr_aload0 X dX8_followerShare_5 ?_
  refine zr_getR X zf_X8_17 rfl (by decide) (by decide) dX8_followerShare_6 ?_
  refine zr_bipush (v := (9 : Int32)) X dX8_followerShare_9 (by decide) ?_
  refine zr_ialdN (n := 9) X rfl (show _ < 310 from (by first | assumption | omega | decide)) dX8_followerShare_11 ?_
  refine zr_eq (x2 := (sX S 9)) (hC1.2.2.1.1 9 (by decide)) ?_
  refine zr_aload0 X dX8_followerShare_12 ?_
  refine zr_getR X zf_X8_17 rfl (by decide) (by decide) dX8_followerShare_13 ?_
  refine zr_bipush (v := (10 : Int32)) X dX8_followerShare_16 (by decide) ?_
  refine zr_ialdN (n := 10) X rfl (show _ < 310 from (by first | assumption | omega | decide)) dX8_followerShare_18 ?_
  refine zr_eq (x2 := (sX S 10)) (hC1.2.2.1.1 10 (by decide)) ?_
  refine zr_iadd X dX8_followerShare_19 ?_
  refine zr_istore1 X (by decide) rfl dX8_followerShare_20 ?_
  refine zr_iload1 X dX8_followerShare_21 ?_
  refine zr_if_ne (tgt := 29) X dX8_followerShare_22 (by decide) (fun h1 => ?_) (fun h1 => ?_)
  · skip
    refine zr_aload0 X dX8_followerShare_29 ?_
    refine zr_getR X zf_X8_17 rfl (by decide) (by decide) dX8_followerShare_30 ?_
    refine zr_bipush (v := (11 : Int32)) X dX8_followerShare_33 (by decide) ?_
    refine zr_ialdN (n := 11) X rfl (show _ < 310 from (by first | assumption | omega | decide)) dX8_followerShare_35 ?_
    refine zr_eq (x2 := (sX S 11)) (hC1.2.2.1.1 11 (by decide)) ?_
    refine zr_i2f X dX8_followerShare_36 ?_
    refine zr_iload1 X dX8_followerShare_37 ?_
    refine zr_i2f X dX8_followerShare_38 ?_
    refine zr_fdiv X (zshare_ok _ _ (by assumption)) dX8_followerShare_39 ?_
    refine zr_fret X (by decide) (by decide) dX8_followerShare_40 ?_
    have e9 : qShare S = (FP.fdiv (FP.i2f (sX S 11)) (FP.i2f ((sX S 9) + (sX S 10)))) := if_neg h1
    rw [e9] at k1; exact k1 _ hC1 zput_eq
  · skip
    refine zr_fconst0 X dX8_followerShare_25 ?_
    refine zr_goto (tgt := 40) X dX8_followerShare_26 (by decide) ?_
    refine zr_fret X (by decide) (by decide) dX8_followerShare_40 ?_
    have e9 : qShare S = FP.fconst0 := if_pos h1
    rw [e9] at k1; exact k1 _ hC1 zput_eq
abbrev zrm_X8_insideIn : Room := { frames := 6, cells := 0, slots := 0, locals := 138 }
set_option maxRecDepth 20000 in
theorem zo_X8_insideIn {l : Launch} {D : va_G} {b0 : Nat} {tA : Nat → ClassId} {sa sv : Nat → Nat} {K : Nat → Option Nat} {I : zI} {Qp : zI → Option AV → Prop} {Xp : String → zI → Prop} {F9 : zI} {y f : Nat} {t : Nat → Nat} {er : Int32} {S : zS} {U : List zS} {k9 : Nat}
    (hC : zRf F9 I y t f er S U) (h1 : 1 ≤ k9) (h2 : k9 ≤ 200) (k1 : ∀ J : zI, zRf F9 J y t f er S U → J y 0 = 0 → Qp J (some (vi (sX (qTicks S k9) 3)))) :
    zC l D b0 tA sa sv K yX8_insideIn (.code yX8_insideIn cX8_insideIn 2 (some .int)) zrm_X8_insideIn [vr (y) 8, vi ((nI k9))] I Qp Xp := by
  have hC1 : zRf F9 (zput I y 0 0) y t f er S U := hC.put (by decide)
  have hW := hC.2.2.2.1
  have hg6 := hW.ng.1
  have hc12 := hW.nc.1
  have hf5 := hC.1.2.1
  refine zC_of (by decide +kernel) (Nat.le_of_ble_eq_true rfl) ?_
  intro p e s m args below meth c X hnt
  have X : zX p l e zrm_X8_insideIn s m args below meth c RX8 cX8_insideIn 2 (some .int) D b0 tA sa sv := X
  refine zr_lv (lv2 := [some (vr (y) 8), some (vi ((nI k9)))]) rfl ?_
  refine zr_aload0 X dX8_insideIn_0 ?_
  refine zr_iconst (v := (0 : Int32)) X dX8_insideIn_1 (by decide) ?_
  refine zr_putI X zf_X8_31 rfl (Or.inl rfl) dX8_insideIn_2 ?_
  refine zr_aload0 X dX8_insideIn_5 ?_
  refine zr_iload1 X dX8_insideIn_6 ?_
  refine zr_iconst (v := (1 : Int32)) X dX8_insideIn_7 (by decide) ?_
  refine zr_sipush (v := (200 : Int32)) X dX8_insideIn_8 (by decide) ?_
  refine zr_callS3 (rm9 := zrm_X8_in) X hnt zm_X8_117 (by decide) (by decide) (by decide) (Nat.le_of_ble_eq_true rfl) dX8_insideIn_11 ?_
  refine zq_X8_in (fun _ => ?_) (fun h => absurd ⟨(nI_leI (a := 1) (by decide) (by omega)).mpr (by omega), (nI_leI (b := 200) (by omega) (by decide)).mpr (by omega)⟩ h)
  refine zr_if_ne (tgt := 21) X dX8_insideIn_14 (by decide) (fun _ => ?_) (fun h => absurd h (by decide))
  refine zr_iconst (v := (0 : Int32)) X dX8_insideIn_21 (by decide) ?_
  refine zr_iconst (v := (1 : Int32)) X dX8_insideIn_22 (by decide) ?_
  refine zr_callV2 (rm9 := zrm_X8_fails) X hnt zm_X8_220 (by decide) (by decide) (by decide) (Nat.le_of_ble_eq_true rfl) dX8_insideIn_23 ?_
  refine zf0_X8_fails (zput_eq) ?_
  refine zr_if_eq (tgt := 31) X dX8_insideIn_26 (by decide) (fun _ => ?_) (fun h => absurd h (by decide))
  refine zr_aload0 X dX8_insideIn_31 ?_
  refine zr_getR X zf_X8_17 rfl (by decide) (by decide) dX8_insideIn_32 ?_
  refine zr_aload0 X dX8_insideIn_35 ?_
  refine zr_getR X zf_X8_23 rfl (by decide) (by decide) dX8_insideIn_36 ?_
  refine zr_callS2 (rm9 := zrm_X8_copy) X hnt zm_X8_232 (by decide) (by decide) (by decide) (Nat.le_of_ble_eq_true rfl) dX8_insideIn_39 ?_
  refine zp_X8_copy (S := S) (by omega) hC1.2.2.1 ?_
  intro J5 hg6 hM7
  refine zr_aload0 X dX8_insideIn_42 ?_
  refine zr_getR X zf_X8_23 rfl (by decide) (by decide) dX8_insideIn_43 ?_
  refine zr_iload1 X dX8_insideIn_46 ?_
  refine zr_callS2 (rm9 := zrm_X8_lives) X hnt zm_X8_208 (by decide) (by decide) (by decide) (Nat.le_of_ble_eq_true rfl) dX8_insideIn_47 ?_
  refine zp_X8_lives (m9 := k9) hM7 hW (by omega) ?_
  intro J8 hg9 hM10
  refine zr_aload0 X dX8_insideIn_50 ?_
  refine zr_getR X zf_X8_23 rfl (by decide) (by decide) dX8_insideIn_51 ?_
  refine zr_iconst (v := (3 : Int32)) X dX8_insideIn_54 (by decide) ?_
  refine zr_ialdN (n := 3) X rfl (show _ < 310 from (by first | assumption | omega | decide)) dX8_insideIn_55 ?_
  refine zr_eq (x2 := (sX (qTicks S k9) 3)) (hM10.1 3 (by decide)) ?_
  refine zr_iret X (by decide) (by decide) dX8_insideIn_56 ?_
  have hag : zag (zput I y 0 0) J8 (y + 4) 1 := by repeat (first | exact zag.rf | assumption | refine zag.put ?_ (by omega) (by omega) | refine zag.tr ?_ (by assumption) (by omega) (by omega))
  exact k1 _ (hC1.aside hag (by omega) (by omega)) ((congrFun (hag y (by omega)) 0).trans zput_eq)
set_option maxRecDepth 20000 in
theorem zx_X8_insideIn {l : Launch} {D : va_G} {b0 : Nat} {tA : Nat → ClassId} {sa sv : Nat → Nat} {K : Nat → Option Nat} {I : zI} {Qp : zI → Option AV → Prop} {Xp : String → zI → Prop} {F9 : zI} {y f : Nat} {t : Nat → Nat} {er : Int32} {S : zS} {U : List zS} {v : Int32}
    (hC : zRf F9 I y t f er S U) (hb : vIdx v 201 = none ∨ v = 0) (kx : ∀ (J : zI) (v9 : Int32), zRf F9 J y t f er S U → J y 0 = 1 → Qp J (some (vi v9))) :
    zC l D b0 tA sa sv K yX8_insideIn (.code yX8_insideIn cX8_insideIn 2 (some .int)) zrm_X8_insideIn [vr (y) 8, vi (v)] I Qp Xp := by
  have hC1 : zRf F9 (zput I y 0 0) y t f er S U := hC.put (by decide)
  have hW := hC.2.2.2.1
  have hg6 := hW.ng.1
  have hc12 := hW.nc.1
  have hf5 := hC.1.2.1
  refine zC_of (by decide +kernel) (Nat.le_of_ble_eq_true rfl) ?_
  intro p e s m args below meth c X hnt
  have X : zX p l e zrm_X8_insideIn s m args below meth c RX8 cX8_insideIn 2 (some .int) D b0 tA sa sv := X
  refine zr_lv (lv2 := [some (vr (y) 8), some (vi (v))]) rfl ?_
  refine zr_aload0 X dX8_insideIn_0 ?_
  refine zr_iconst (v := (0 : Int32)) X dX8_insideIn_1 (by decide) ?_
  refine zr_putI X zf_X8_31 rfl (Or.inl rfl) dX8_insideIn_2 ?_
  refine zr_aload0 X dX8_insideIn_5 ?_
  refine zr_iload1 X dX8_insideIn_6 ?_
  refine zr_iconst (v := (1 : Int32)) X dX8_insideIn_7 (by decide) ?_
  refine zr_sipush (v := (200 : Int32)) X dX8_insideIn_8 (by decide) ?_
  refine zr_callS3 (rm9 := zrm_X8_in) X hnt zm_X8_117 (by decide) (by decide) (by decide) (Nat.le_of_ble_eq_true rfl) dX8_insideIn_11 ?_
  refine zq_X8_in (fun h => absurd hb (ztick_in (n := 200) (m := (200 : Int32)) (by decide) (by decide) (Int32.not_lt.mpr h.1) h.2)) (fun _ => ?_)
  refine zr_if_ne (tgt := 21) X dX8_insideIn_14 (by decide) (fun h => absurd h (by decide)) (fun _ => ?_)
  refine zr_iconst (v := (1 : Int32)) X dX8_insideIn_17 (by decide) ?_
  refine zr_goto (tgt := 22) X dX8_insideIn_18 (by decide) ?_
  refine zr_iconst (v := (1 : Int32)) X dX8_insideIn_22 (by decide) ?_
  refine zr_callV2 (rm9 := zrm_X8_fails) X hnt zm_X8_220 (by decide) (by decide) (by decide) (Nat.le_of_ble_eq_true rfl) dX8_insideIn_23 ?_
  refine zf1_X8_fails (zput_eq) (by decide) ?_
  refine zr_if_eq (tgt := 31) X dX8_insideIn_26 (by decide) (fun h => absurd h (by decide)) (fun _ => ?_)
  refine zr_iconst (v := (0 : Int32)) X dX8_insideIn_29 (by decide) ?_
  refine zr_iret X (by decide) (by decide) dX8_insideIn_30 ?_
  exact kx _ _ (hC1.put (by decide)) zput_eq
abbrev zrm_X8_followersIn : Room := { frames := 6, cells := 0, slots := 0, locals := 138 }
set_option maxRecDepth 20000 in
theorem zo_X8_followersIn {l : Launch} {D : va_G} {b0 : Nat} {tA : Nat → ClassId} {sa sv : Nat → Nat} {K : Nat → Option Nat} {I : zI} {Qp : zI → Option AV → Prop} {Xp : String → zI → Prop} {F9 : zI} {y f : Nat} {t : Nat → Nat} {er : Int32} {S : zS} {U : List zS} {k9 : Nat}
    (hC : zRf F9 I y t f er S U) (h1 : 1 ≤ k9) (h2 : k9 ≤ 200) (k1 : ∀ J : zI, zRf F9 J y t f er S U → J y 0 = 0 → Qp J (some (vi (sX (qTicks S k9) 11 - sX S 11)))) :
    zC l D b0 tA sa sv K yX8_followersIn (.code yX8_followersIn cX8_followersIn 2 (some .int)) zrm_X8_followersIn [vr (y) 8, vi ((nI k9))] I Qp Xp := by
  have hC1 : zRf F9 (zput I y 0 0) y t f er S U := hC.put (by decide)
  have hW := hC.2.2.2.1
  have hg6 := hW.ng.1
  have hc12 := hW.nc.1
  have hf5 := hC.1.2.1
  refine zC_of (by decide +kernel) (Nat.le_of_ble_eq_true rfl) ?_
  intro p e s m args below meth c X hnt
  have X : zX p l e zrm_X8_followersIn s m args below meth c RX8 cX8_followersIn 2 (some .int) D b0 tA sa sv := X
  refine zr_lv (lv2 := [some (vr (y) 8), some (vi ((nI k9)))]) rfl ?_
  refine zr_aload0 X dX8_followersIn_0 ?_
  refine zr_iconst (v := (0 : Int32)) X dX8_followersIn_1 (by decide) ?_
  refine zr_putI X zf_X8_31 rfl (Or.inl rfl) dX8_followersIn_2 ?_
  refine zr_aload0 X dX8_followersIn_5 ?_
  refine zr_iload1 X dX8_followersIn_6 ?_
  refine zr_iconst (v := (1 : Int32)) X dX8_followersIn_7 (by decide) ?_
  refine zr_sipush (v := (200 : Int32)) X dX8_followersIn_8 (by decide) ?_
  refine zr_callS3 (rm9 := zrm_X8_in) X hnt zm_X8_117 (by decide) (by decide) (by decide) (Nat.le_of_ble_eq_true rfl) dX8_followersIn_11 ?_
  refine zq_X8_in (fun _ => ?_) (fun h => absurd ⟨(nI_leI (a := 1) (by decide) (by omega)).mpr (by omega), (nI_leI (b := 200) (by omega) (by decide)).mpr (by omega)⟩ h)
  refine zr_if_ne (tgt := 21) X dX8_followersIn_14 (by decide) (fun _ => ?_) (fun h => absurd h (by decide))
  refine zr_iconst (v := (0 : Int32)) X dX8_followersIn_21 (by decide) ?_
  refine zr_iconst (v := (1 : Int32)) X dX8_followersIn_22 (by decide) ?_
  refine zr_callV2 (rm9 := zrm_X8_fails) X hnt zm_X8_220 (by decide) (by decide) (by decide) (Nat.le_of_ble_eq_true rfl) dX8_followersIn_23 ?_
  refine zf0_X8_fails (zput_eq) ?_
  refine zr_if_eq (tgt := 31) X dX8_followersIn_26 (by decide) (fun _ => ?_) (fun h => absurd h (by decide))
  refine zr_aload0 X dX8_followersIn_31 ?_
  refine zr_getR X zf_X8_17 rfl (by decide) (by decide) dX8_followersIn_32 ?_
  refine zr_aload0 X dX8_followersIn_35 ?_
  refine zr_getR X zf_X8_23 rfl (by decide) (by decide) dX8_followersIn_36 ?_
  refine zr_callS2 (rm9 := zrm_X8_copy) X hnt zm_X8_232 (by decide) (by decide) (by decide) (Nat.le_of_ble_eq_true rfl) dX8_followersIn_39 ?_
  refine zp_X8_copy (S := S) (by omega) hC1.2.2.1 ?_
  intro J11 hg12 hM13
  refine zr_aload0 X dX8_followersIn_42 ?_
  refine zr_getR X zf_X8_23 rfl (by decide) (by decide) dX8_followersIn_43 ?_
  refine zr_iload1 X dX8_followersIn_46 ?_
  refine zr_callS2 (rm9 := zrm_X8_lives) X hnt zm_X8_208 (by decide) (by decide) (by decide) (Nat.le_of_ble_eq_true rfl) dX8_followersIn_47 ?_
  refine zp_X8_lives (m9 := k9) hM13 hW (by omega) ?_
  intro J14 hg15 hM16
  refine zr_aload0 X dX8_followersIn_50 ?_
  refine zr_getR X zf_X8_23 rfl (by decide) (by decide) dX8_followersIn_51 ?_
  refine zr_bipush (v := (11 : Int32)) X dX8_followersIn_54 (by decide) ?_
  refine zr_ialdN (n := 11) X rfl (show _ < 310 from (by first | assumption | omega | decide)) dX8_followersIn_56 ?_
  refine zr_eq (x2 := (sX (qTicks S k9) 11)) (hM16.1 11 (by decide)) ?_
  refine zr_aload0 X dX8_followersIn_57 ?_
  refine zr_getR X zf_X8_17 rfl (by decide) (by decide) dX8_followersIn_58 ?_
  refine zr_bipush (v := (11 : Int32)) X dX8_followersIn_61 (by decide) ?_
  refine zr_ialdN (n := 11) X rfl (by decide) dX8_followersIn_63 ?_
  refine zr_eq (x2 := (sX S 11)) ((hC1.aside (lo := y + 3) (n := 2) (show zag (zput I y 0 0) J14 (y + 3) 2 by repeat (first | exact zag.rf | assumption | refine zag.put ?_ (by omega) (by omega) | refine zag.tr ?_ (by assumption) (by omega) (by omega))) (by omega) (by omega)).2.2.1.1 11 (by decide)) ?_
  refine zr_isub X dX8_followersIn_64 ?_
  refine zr_iret X (by decide) (by decide) dX8_followersIn_65 ?_
  have hag : zag (zput I y 0 0) J14 (y + 4) 1 := by repeat (first | exact zag.rf | assumption | refine zag.put ?_ (by omega) (by omega) | refine zag.tr ?_ (by assumption) (by omega) (by omega))
  exact k1 _ (hC1.aside hag (by omega) (by omega)) ((congrFun (hag y (by omega)) 0).trans zput_eq)
set_option maxRecDepth 20000 in
theorem zx_X8_followersIn {l : Launch} {D : va_G} {b0 : Nat} {tA : Nat → ClassId} {sa sv : Nat → Nat} {K : Nat → Option Nat} {I : zI} {Qp : zI → Option AV → Prop} {Xp : String → zI → Prop} {F9 : zI} {y f : Nat} {t : Nat → Nat} {er : Int32} {S : zS} {U : List zS} {v : Int32}
    (hC : zRf F9 I y t f er S U) (hb : vIdx v 201 = none ∨ v = 0) (kx : ∀ (J : zI) (v9 : Int32), zRf F9 J y t f er S U → J y 0 = 1 → Qp J (some (vi v9))) :
    zC l D b0 tA sa sv K yX8_followersIn (.code yX8_followersIn cX8_followersIn 2 (some .int)) zrm_X8_followersIn [vr (y) 8, vi (v)] I Qp Xp := by
  have hC1 : zRf F9 (zput I y 0 0) y t f er S U := hC.put (by decide)
  have hW := hC.2.2.2.1
  have hg6 := hW.ng.1
  have hc12 := hW.nc.1
  have hf5 := hC.1.2.1
  refine zC_of (by decide +kernel) (Nat.le_of_ble_eq_true rfl) ?_
  intro p e s m args below meth c X hnt
  have X : zX p l e zrm_X8_followersIn s m args below meth c RX8 cX8_followersIn 2 (some .int) D b0 tA sa sv := X
  refine zr_lv (lv2 := [some (vr (y) 8), some (vi (v))]) rfl ?_
  refine zr_aload0 X dX8_followersIn_0 ?_
  refine zr_iconst (v := (0 : Int32)) X dX8_followersIn_1 (by decide) ?_
  refine zr_putI X zf_X8_31 rfl (Or.inl rfl) dX8_followersIn_2 ?_
  refine zr_aload0 X dX8_followersIn_5 ?_
  refine zr_iload1 X dX8_followersIn_6 ?_
  refine zr_iconst (v := (1 : Int32)) X dX8_followersIn_7 (by decide) ?_
  refine zr_sipush (v := (200 : Int32)) X dX8_followersIn_8 (by decide) ?_
  refine zr_callS3 (rm9 := zrm_X8_in) X hnt zm_X8_117 (by decide) (by decide) (by decide) (Nat.le_of_ble_eq_true rfl) dX8_followersIn_11 ?_
  refine zq_X8_in (fun h => absurd hb (ztick_in (n := 200) (m := (200 : Int32)) (by decide) (by decide) (Int32.not_lt.mpr h.1) h.2)) (fun _ => ?_)
  refine zr_if_ne (tgt := 21) X dX8_followersIn_14 (by decide) (fun h => absurd h (by decide)) (fun _ => ?_)
  refine zr_iconst (v := (1 : Int32)) X dX8_followersIn_17 (by decide) ?_
  refine zr_goto (tgt := 22) X dX8_followersIn_18 (by decide) ?_
  refine zr_iconst (v := (1 : Int32)) X dX8_followersIn_22 (by decide) ?_
  refine zr_callV2 (rm9 := zrm_X8_fails) X hnt zm_X8_220 (by decide) (by decide) (by decide) (Nat.le_of_ble_eq_true rfl) dX8_followersIn_23 ?_
  refine zf1_X8_fails (zput_eq) (by decide) ?_
  refine zr_if_eq (tgt := 31) X dX8_followersIn_26 (by decide) (fun h => absurd h (by decide)) (fun _ => ?_)
  refine zr_iconst (v := (0 : Int32)) X dX8_followersIn_29 (by decide) ?_
  refine zr_iret X (by decide) (by decide) dX8_followersIn_30 ?_
  exact kx _ _ (hC1.put (by decide)) zput_eq
theorem zq_X8_insideIn {l : Launch} {D : va_G} {b0 : Nat} {tA : Nat → ClassId} {sa sv : Nat → Nat} {K : Nat → Option Nat} {I : zI} {Qp : zI → Option AV → Prop} {Xp : String → zI → Prop} {F9 : zI} {y f : Nat} {t : Nat → Nat} {er : Int32} {S : zS} {U : List zS} {v : Int32}
    (hC : zRf F9 I y t f er S U) (k0 : (rInside S v).1 = 0 → ∀ J : zI, zRf F9 J y t f er S U → J y 0 = 0 → Qp J (some (vi (rInside S v).2))) (kx1 : (rInside S v).1 = 1 → ∀ (J : zI) (v9 : Int32), zRf F9 J y t f er S U → J y 0 = 1 → Qp J (some (vi v9))) :
    zC l D b0 tA sa sv K yX8_insideIn (.code yX8_insideIn cX8_insideIn 2 (some .int)) zrm_X8_insideIn [vr (y) 8, vi (v)] I Qp Xp := by
  unfold rInside at k0 kx1
  cases e1 : vTick v 201 with
  | none => rw [e1] at kx1; exact zx_X8_insideIn hC (vTick_none e1) (kx1 rfl)
  | some k =>
    rw [e1] at k0
    obtain ⟨h1, h2, rfl⟩ := vTick_some e1
    exact zo_X8_insideIn hC h1 (by omega) (k0 rfl)
theorem zq_X8_followersIn {l : Launch} {D : va_G} {b0 : Nat} {tA : Nat → ClassId} {sa sv : Nat → Nat} {K : Nat → Option Nat} {I : zI} {Qp : zI → Option AV → Prop} {Xp : String → zI → Prop} {F9 : zI} {y f : Nat} {t : Nat → Nat} {er : Int32} {S : zS} {U : List zS} {v : Int32}
    (hC : zRf F9 I y t f er S U) (k0 : (rFollow S v).1 = 0 → ∀ J : zI, zRf F9 J y t f er S U → J y 0 = 0 → Qp J (some (vi (rFollow S v).2))) (kx1 : (rFollow S v).1 = 1 → ∀ (J : zI) (v9 : Int32), zRf F9 J y t f er S U → J y 0 = 1 → Qp J (some (vi v9))) :
    zC l D b0 tA sa sv K yX8_followersIn (.code yX8_followersIn cX8_followersIn 2 (some .int)) zrm_X8_followersIn [vr (y) 8, vi (v)] I Qp Xp := by
  unfold rFollow at k0 kx1
  cases e1 : vTick v 201 with
  | none => rw [e1] at kx1; exact zx_X8_followersIn hC (vTick_none e1) (kx1 rfl)
  | some k =>
    rw [e1] at k0
    obtain ⟨h1, h2, rfl⟩ := vTick_some e1
    exact zo_X8_followersIn hC h1 (by omega) (k0 rfl)
