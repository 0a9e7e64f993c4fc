/-! ===== the reference reads: numbers, names ===== -/
theorem zmostM {hi : Nat} {x : Int32} (h : x = nI hi - 1) (hh : hi ≤ 1001) (v : Nat) (hv : v ≤ 100000000) : nI v ≤ x ↔ v < hi := by
  subst h
  rcases hi with _ | k
  · rw [Int32.le_iff_toInt_le, nI_toInt (by omega)]
    have : (nI 0 - 1 : Int32).toInt = -1 := by decide
    omega
  · rw [show nI (k + 1) - 1 = nI k from pk_sub (a := k + 1) (b := 1) (by omega), nI_leI (by omega) (by omega)]; omega
theorem tVal_s {t : Nat → Nat} {p k : Nat} : tVal t p (k + 1) = 10 * tVal t p k + (t (p + k) - 48) := rfl
theorem pNum_ok {t : Nat → Nat} {n p lo hi v : Nat} (h : p < n) (hd : tDig (t p) = true) (hv : v = min (tVal t p (tEndD t n p - p)) 100000000) (hhi : hi ≤ 1001) (h1 : lo ≤ v) (h2 : v < hi) : pNum t n p lo hi = .inr v := by
  have e : tVal t p (tEndD t n p - p) = v := by omega
  rw [pNum, if_pos (tKind_1.mpr ⟨h, hd⟩), e, if_pos ⟨h1, h2⟩]
theorem pNum_out {t : Nat → Nat} {n p lo hi v : Nat} (h : p < n) (hd : tDig (t p) = true) (hv : v = min (tVal t p (tEndD t n p - p)) 100000000) (hlo : lo ≤ 1000) (h1 : ¬ (lo ≤ v ∧ v < hi)) : pNum t n p lo hi = .inl (-3, p) := by
  rw [pNum, if_pos (tKind_1.mpr ⟨h, hd⟩), if_neg (fun z => h1 ⟨by omega, by omega⟩)]
theorem pNum_not {t : Nat → Nat} {n p lo hi : Nat} (h : ¬ (p < n ∧ tDig (t p) = true)) : pNum t n p lo hi = .inl (-2, p) := by
  rw [pNum, if_neg (fun z => h (tKind_1.mp z))]
abbrev zrm_X8_number : Room := { frames := 2, cells := 0, slots := 0, locals := 42 }
set_option maxRecDepth 20000 in
theorem zl_X8_number {l : Launch} {D : va_G} {b0 : Nat} {tA : Nat → ClassId} {sa sv : Nat → Nat} {K : Nat → Option Nat} {I : zI} {Qp : zI → Option AV → Prop} {Xp : String → zI → Prop} {p : Program} {e : Env} {s : State} {m : MethodId} {args : Array Value} {below : List Frame} {meth : Method} {c : Code} {y n9 p9 lo hi : Nat} {x2 : Int32} {t : Nat → Nat}
    (X : zX p l e zrm_X8_number s m args below meth c RX8 cX8_number 4 (some .int) D b0 tA sa sv) (hnt : ∀ x ∈ c.exceptionTable.toList, False) (hP : zPq I y t n9 p9) (h13 : I y 13 = nI p9) (hpn : p9 < n9) (hdp : tDig (t p9) = true) (hlo : lo ≤ 1000) (hhi : hi ≤ 1001) (hm : x2 = nI hi - 1) (k1 : ∀ (J : zI) (v : Nat), pNum t n9 p9 lo hi = .inr v → zag I J y 1 → zfm I J y → zPq J y t n9 (tEnd t n9 p9) → Qp J (some (vi (nI v)))) (k2 : ∀ (J : zI) (e : Int32 × Nat), pNum t n9 p9 lo hi = .inl e → zag I J y 1 → zfm I J y → zEq J y e → Qp J (some (vi 0))) :
    ∀ (n : Nat) (r v : Nat), p9 ≤ r → r ≤ tEndD t n9 p9 → v = min (tVal t p9 (r - p9)) 100000000 → n9 - r < n → zG p l e zrm_X8_number s m args below meth c 4 D b0 tA sa 0 0 (zQ below D b0 tA sa K args s zrm_X8_number Qp Xp) K 41 [some (vr (y) 8), some (vi ((nI lo))), some (vi (x2)), some (vi ((nI v)))] [] (zput I (y) 4 ((nI r))) := by
  intro n
  induction n with
  | zero => intro r v i1 i2 hv i9; exact absurd i9 (Nat.not_lt_zero _)
  | succ n ih =>
    intro r v i1 i2 hv i9
    have hle := tEndD_le (t := t) hP.2.2.2.1
    have hn5 := hP.2.2.2.2.1
    have hP9 := hP.pos (r := r) (by omega)
    have hfm9 : zfm I (zput I y 4 (nI r)) y := zfm.rf.put (by decide)
    refine zr_aload0 X dX8_number_41 ?_
    refine zr_aload0 X dX8_number_42 ?_
    refine zr_getI X zf_X8_104 rfl dX8_number_43 ?_
    refine zr_eq (x2 := (nI r)) (zput_eq) ?_
    refine zr_callV1 (rm9 := zrm_X8_byteAt) X hnt zm_X8_107 (by decide) (by decide) (by decide) (Nat.le_of_ble_eq_true rfl) dX8_number_46 ?_
    refine zn_X8_byteAt (k9 := r) hP9 (by omega) ?_ ?_
    · skip
      intro hb1 h22
      refine zr_callS1 (rm9 := zrm_X8_isDigit) X hnt zm_X8_142 (by decide) (by decide) (by decide) (Nat.le_of_ble_eq_true rfl) dX8_number_49 ?_
      refine zn_X8_isDigit (v := t r) (by omega) ?_ ?_
      · skip
        intro hd3; have hd3_2 := tDig_iff.mp hd3
        refine zr_if_eq (tgt := 90) X dX8_number_52 (by decide) (fun h => absurd h (by decide)) (fun _ => ?_)
        refine zr_ldc (v := 100000000) X dX8_number_55 zk_X8_149 ?_
        refine zr_bipush (v := (10 : Int32)) X dX8_number_57 (by decide) ?_
        refine zr_iload3 X dX8_number_59 ?_
        refine zr_imul X dX8_number_60 ?_
        refine zr_eq (x2 := (nI (10 * v))) (nI_mul (10) (v)) ?_
        refine zr_aload0 X dX8_number_61 ?_
        refine zr_aload0 X dX8_number_62 ?_
        refine zr_getI X zf_X8_104 rfl dX8_number_63 ?_
        refine zr_eq (x2 := (nI r)) (zput_eq) ?_
        refine zr_callV1 (rm9 := zrm_X8_byteAt) X hnt zm_X8_107 (by decide) (by decide) (by decide) (Nat.le_of_ble_eq_true rfl) dX8_number_66 ?_
        refine zn_X8_byteAt (k9 := r) hP9 (by omega) ?_ (fun h => absurd h (by omega))
        intro hb4 h25
        refine zr_iadd X dX8_number_69 ?_
        refine zr_eq (x2 := (nI ((10 * v) + (t r)))) (nI_add ((10 * v)) ((t r))) ?_
        refine zr_bipush (v := (48 : Int32)) X dX8_number_70 (by decide) ?_
        refine zr_isub X dX8_number_72 ?_
        refine zr_eq (x2 := (nI (((10 * v) + (t r)) - 48))) (pk_sub (a := ((10 * v) + (t r))) (b := 48) (by omega)) ?_
        refine zr_callS2 (rm9 := zrm_X8_min) X hnt zm_X8_71 (by decide) (by decide) (by decide) (Nat.le_of_ble_eq_true rfl) dX8_number_73 ?_
        refine zn_X8_min (x := 100000000) (y := ((10 * v) + (t r)) - 48) (by omega) (by omega) ?_
        refine zr_istore3 X (by decide) rfl dX8_number_76 ?_
        refine zr_aload0 X dX8_number_77 ?_
        refine zr_dupR X dX8_number_78 ?_
        refine zr_getI X zf_X8_104 rfl dX8_number_79 ?_
        refine zr_eq (x2 := (nI r)) (zput_eq) ?_
        refine zr_iconst (v := (1 : Int32)) X dX8_number_82 (by decide) ?_
        refine zr_iadd X dX8_number_83 ?_
        refine zr_eq (x2 := (nI (r + 1))) (nI_add (r) (1)) ?_
        refine zr_putI X zf_X8_104 rfl (Or.inl rfl) dX8_number_84 ?_
        refine zr_goto (tgt := 41) X dX8_number_87 (by decide) ?_
        refine zr_I zput_zput ?_
        refine ih (r + 1) _ (by omega) (by have := (tEndD_in (t := t) i1 i2 (by omega)).mp (by assumption); omega) ?_ (by omega)
        rw [show r + 1 - p9 = (r - p9) + 1 by omega, tVal_s, show p9 + (r - p9) = r by omega]; omega
      · skip
        intro hd3
        refine zr_if_eq (tgt := 90) X dX8_number_52 (by decide) (fun _ => ?_) (fun h => absurd h (by decide))
        refine zr_iload3 X dX8_number_90 ?_
        refine zr_iload1 X dX8_number_91 ?_
        refine zr_iload2 X dX8_number_92 ?_
        refine zr_callS3 (rm9 := zrm_X8_in) X hnt zm_X8_117 (by decide) (by decide) (by decide) (Nat.le_of_ble_eq_true rfl) dX8_number_93 ?_
        refine zq_X8_in ?_ ?_
        · skip
          intro hi6; have hi6_2 : lo ≤ v ∧ v < hi := ⟨(nI_leI (by omega) (by omega)).mp hi6.1, (zmostM hm hhi _ (by omega)).mp hi6.2⟩
          refine zr_if_ne (tgt := 109) X dX8_number_96 (by decide) (fun _ => ?_) (fun h => absurd h (by decide))
          refine zr_aload0 X dX8_number_109 ?_
          refine zr_callV0 (rm9 := zrm_X8_isGood) X hnt zm_X8_121 (by decide) (by decide) (by decide) (Nat.le_of_ble_eq_true rfl) dX8_number_110 ?_
          refine zg_X8_isGood hP9.1 ?_
          refine zr_if_eq (tgt := 120) X dX8_number_113 (by decide) (fun h => absurd h (by decide)) (fun _ => ?_)
          refine zr_iload3 X dX8_number_116 ?_
          refine zr_goto (tgt := 121) X dX8_number_117 (by decide) ?_
          refine zr_iret X (by decide) (by decide) dX8_number_121 ?_
          have e9 : r = tEndD t n9 p9 := tEndD_is hP.2.2.2.1 i1 i2 (by first | exact Or.inl (by omega) | exact Or.inr (by assumption))
          have hv9 : v = min (tVal t p9 (tEndD t n9 p9 - p9)) 100000000 := by rw [hv, e9]
          exact k1 _ v (pNum_ok hpn hdp hv9 hhi hi6_2.1 hi6_2.2) (by repeat (first | exact zag.rf | assumption | refine zag.put ?_ (by omega) (by omega) | refine zag.tr ?_ (by assumption) (by omega) (by omega))) hfm9 (by rw [tEnd_D hpn hdp, ← e9]; exact hP9)
        · skip
          intro hi6; have hi6_2 : ¬ (lo ≤ v ∧ v < hi) := fun z => hi6 ⟨(nI_leI (by omega) (by omega)).mpr z.1, (zmostM hm hhi _ (by omega)).mpr z.2⟩
          refine zr_if_ne (tgt := 109) X dX8_number_96 (by decide) (fun h => absurd h (by decide)) (fun _ => ?_)
          refine zr_aload0 X dX8_number_99 ?_
          refine zr_bipush (v := (-3 : Int32)) X dX8_number_100 (by decide) ?_
          refine zr_aload0 X dX8_number_102 ?_
          refine zr_getI X zf_X8_146 rfl dX8_number_103 ?_
          refine zr_eq (x2 := (I (y) 13)) ((zput_nj (by decide))) ?_
          refine zr_eq (x2 := (nI p9)) (h13) ?_
          refine zr_callV2 (rm9 := zrm_X8_report) X hnt zm_X8_138 (by decide) (by decide) (by decide) (Nat.le_of_ble_eq_true rfl) dX8_number_106 ?_
          refine zg_X8_report hP9.1 ?_; have hE1 : zEq (zput (zput (zput I (y) 4 ((nI r))) y 5 (-3 : Int32)) y 6 (nI p9)) y ((-3 : Int32), p9) := zEq.mk (by decide); have fr2 : zfm I (zput (zput (zput I (y) 4 ((nI r))) y 5 (-3 : Int32)) y 6 (nI p9)) y := zfm.put (zfm.put hfm9 (by decide)) (by decide)
          refine zr_aload0 X dX8_number_109 ?_
          refine zr_callV0 (rm9 := zrm_X8_isGood) X hnt zm_X8_121 (by decide) (by decide) (by decide) (Nat.le_of_ble_eq_true rfl) dX8_number_110 ?_
          refine zb_X8_isGood (fun z => hE1.1.2 (hE1.1.1.symm.trans z)) ?_
          refine zr_if_eq (tgt := 120) X dX8_number_113 (by decide) (fun _ => ?_) (fun h => absurd h (by decide))
          refine zr_iconst (v := (0 : Int32)) X dX8_number_120 (by decide) ?_
          refine zr_iret X (by decide) (by decide) dX8_number_121 ?_
          have e9 : r = tEndD t n9 p9 := tEndD_is hP.2.2.2.1 i1 i2 (by first | exact Or.inl (by omega) | exact Or.inr (by assumption))
          have hv9 : v = min (tVal t p9 (tEndD t n9 p9 - p9)) 100000000 := by rw [hv, e9]
          exact k2 _ _ (pNum_out hpn hdp hv9 hlo hi6_2) (by repeat (first | exact zag.rf | assumption | refine zag.put ?_ (by omega) (by omega) | refine zag.tr ?_ (by assumption) (by omega) (by omega))) fr2 hE1
    · skip
      intro hb1
      refine zr_callS1 (rm9 := zrm_X8_isDigit) X hnt zm_X8_142 (by decide) (by decide) (by decide) (Nat.le_of_ble_eq_true rfl) dX8_number_49 ?_
      refine zm_X8_isDigit ?_
      refine zr_if_eq (tgt := 90) X dX8_number_52 (by decide) (fun _ => ?_) (fun h => absurd h (by decide))
      refine zr_iload3 X dX8_number_90 ?_
      refine zr_iload1 X dX8_number_91 ?_
      refine zr_iload2 X dX8_number_92 ?_
      refine zr_callS3 (rm9 := zrm_X8_in) X hnt zm_X8_117 (by decide) (by decide) (by decide) (Nat.le_of_ble_eq_true rfl) dX8_number_93 ?_
      refine zq_X8_in ?_ ?_
      · skip
        intro hi7; have hi7_2 : lo ≤ v ∧ v < hi := ⟨(nI_leI (by omega) (by omega)).mp hi7.1, (zmostM hm hhi _ (by omega)).mp hi7.2⟩
        refine zr_if_ne (tgt := 109) X dX8_number_96 (by decide) (fun _ => ?_) (fun h => absurd h (by decide))
        refine zr_aload0 X dX8_number_109 ?_
        refine zr_callV0 (rm9 := zrm_X8_isGood) X hnt zm_X8_121 (by decide) (by decide) (by decide) (Nat.le_of_ble_eq_true rfl) dX8_number_110 ?_
        refine zg_X8_isGood hP9.1 ?_
        refine zr_if_eq (tgt := 120) X dX8_number_113 (by decide) (fun h => absurd h (by decide)) (fun _ => ?_)
        refine zr_iload3 X dX8_number_116 ?_
        refine zr_goto (tgt := 121) X dX8_number_117 (by decide) ?_
        refine zr_iret X (by decide) (by decide) dX8_number_121 ?_
        have e9 : r = tEndD t n9 p9 := tEndD_is hP.2.2.2.1 i1 i2 (by first | exact Or.inl (by omega) | exact Or.inr (by assumption))
        have hv9 : v = min (tVal t p9 (tEndD t n9 p9 - p9)) 100000000 := by rw [hv, e9]
        exact k1 _ v (pNum_ok hpn hdp hv9 hhi hi7_2.1 hi7_2.2) (by repeat (first | exact zag.rf | assumption | refine zag.put ?_ (by omega) (by omega) | refine zag.tr ?_ (by assumption) (by omega) (by omega))) hfm9 (by rw [tEnd_D hpn hdp, ← e9]; exact hP9)
      · skip
        intro hi7; have hi7_2 : ¬ (lo ≤ v ∧ v < hi) := fun z => hi7 ⟨(nI_leI (by omega) (by omega)).mpr z.1, (zmostM hm hhi _ (by omega)).mpr z.2⟩
        refine zr_if_ne (tgt := 109) X dX8_number_96 (by decide) (fun h => absurd h (by decide)) (fun _ => ?_)
        refine zr_aload0 X dX8_number_99 ?_
        refine zr_bipush (v := (-3 : Int32)) X dX8_number_100 (by decide) ?_
        refine zr_aload0 X dX8_number_102 ?_
        refine zr_getI X zf_X8_146 rfl dX8_number_103 ?_
        refine zr_eq (x2 := (I (y) 13)) ((zput_nj (by decide))) ?_
        refine zr_eq (x2 := (nI p9)) (h13) ?_
        refine zr_callV2 (rm9 := zrm_X8_report) X hnt zm_X8_138 (by decide) (by decide) (by decide) (Nat.le_of_ble_eq_true rfl) dX8_number_106 ?_
        refine zg_X8_report hP9.1 ?_; have hE3 : zEq (zput (zput (zput I (y) 4 ((nI r))) y 5 (-3 : Int32)) y 6 (nI p9)) y ((-3 : Int32), p9) := zEq.mk (by decide); have fr4 : zfm I (zput (zput (zput I (y) 4 ((nI r))) y 5 (-3 : Int32)) y 6 (nI p9)) y := zfm.put (zfm.put hfm9 (by decide)) (by decide)
        refine zr_aload0 X dX8_number_109 ?_
        refine zr_callV0 (rm9 := zrm_X8_isGood) X hnt zm_X8_121 (by decide) (by decide) (by decide) (Nat.le_of_ble_eq_true rfl) dX8_number_110 ?_
        refine zb_X8_isGood (fun z => hE3.1.2 (hE3.1.1.symm.trans z)) ?_
        refine zr_if_eq (tgt := 120) X dX8_number_113 (by decide) (fun _ => ?_) (fun h => absurd h (by decide))
        refine zr_iconst (v := (0 : Int32)) X dX8_number_120 (by decide) ?_
        refine zr_iret X (by decide) (by decide) dX8_number_121 ?_
        have e9 : r = tEndD t n9 p9 := tEndD_is hP.2.2.2.1 i1 i2 (by first | exact Or.inl (by omega) | exact Or.inr (by assumption))
        have hv9 : v = min (tVal t p9 (tEndD t n9 p9 - p9)) 100000000 := by rw [hv, e9]
        exact k2 _ _ (pNum_out hpn hdp hv9 hlo hi7_2) (by repeat (first | exact zag.rf | assumption | refine zag.put ?_ (by omega) (by omega) | refine zag.tr ?_ (by assumption) (by omega) (by omega))) fr4 hE3
set_option maxRecDepth 20000 in
theorem zg_X8_number {l : Launch} {D : va_G} {b0 : Nat} {tA : Nat → ClassId} {sa sv : Nat → Nat} {K : Nat → Option Nat} {I : zI} {Qp : zI → Option AV → Prop} {Xp : String → zI → Prop} {y n9 q9 p9 lo hi : Nat} {x2 : Int32} {t : Nat → Nat}
    (hP : zPq I y t n9 q9) (hp : tSkip t n9 q9 = p9) (hlo : lo ≤ 1000) (hhi : hi ≤ 1001) (hm : x2 = nI hi - 1) (k1 : ∀ (J : zI) (v : Nat), pNum t n9 p9 lo hi = .inr v → zag I J y 1 → zfm I J y → zPq J y t n9 (tEnd t n9 p9) → Qp J (some (vi (nI v)))) (k2 : ∀ (J : zI) (e : Int32 × Nat), pNum t n9 p9 lo hi = .inl e → zag I J y 1 → zfm I J y → zEq J y e → Qp J (some (vi 0))) :
    zC l D b0 tA sa sv K yX8_number (.code yX8_number cX8_number 4 (some .int)) zrm_X8_number [vr (y) 8, vi ((nI lo)), vi (x2)] I Qp Xp := by
  have hn5 := hP.2.2.2.2.1
  have hqn := hP.2.2.2.1
  have hpl := tSkip_le (t := t) hP.2.2.2.1
  refine zC_of (by decide +kernel) (Nat.le_of_ble_eq_true rfl) ?_
  intro p e s m args below meth c X hnt
  have X : zX p l e zrm_X8_number s m args below meth c RX8 cX8_number 4 (some .int) D b0 tA sa sv := X
  refine zr_lv (lv2 := [some (vr (y) 8), some (vi ((nI lo))), some (vi (x2)), none]) rfl ?_
  refine zr_aload0 X dX8_number_0 ?_
  refine zr_callV0 (rm9 := zrm_X8_isGood) X hnt zm_X8_121 (by decide) (by decide) (by decide) (Nat.le_of_ble_eq_true rfl) dX8_number_1 ?_
  refine zg_X8_isGood hP.1 ?_
  refine zr_if_ne (tgt := 9) X dX8_number_4 (by decide) (fun _ => ?_) (fun h => absurd h (by decide))
  refine zr_aload0 X dX8_number_9 ?_
  refine zr_callV0 (rm9 := zrm_X8_ahead) X hnt zm_X8_125 (by decide) (by decide) (by decide) (Nat.le_of_ble_eq_true rfl) dX8_number_10 ?_
  refine zp_X8_ahead (p9 := p9) hP hp ?_ ?_
  · skip
    intro J5 hg6 fr7 hP8 hb1 h22; have fr7 : zfm I J5 y := zfm.tr zfm.rf fr7; have := hP8.2.2.2.1
    refine zr_callS1 (rm9 := zrm_X8_isDigit) X hnt zm_X8_142 (by decide) (by decide) (by decide) (Nat.le_of_ble_eq_true rfl) dX8_number_13 ?_
    refine zn_X8_isDigit (v := t p9) (by omega) ?_ ?_
    · skip
      intro hd3; have hd3_2 := tDig_iff.mp hd3
      refine zr_if_ne (tgt := 31) X dX8_number_16 (by decide) (fun _ => ?_) (fun h => absurd h (by decide))
      refine zr_aload0 X dX8_number_31 ?_
      refine zr_aload0 X dX8_number_32 ?_
      refine zr_getI X zf_X8_104 rfl dX8_number_33 ?_
      refine zr_eq (x2 := (nI p9)) (hP8.2.2.1) ?_
      refine zr_putI X zf_X8_146 rfl (Or.inl rfl) dX8_number_36 ?_
      refine zr_iconst (v := (0 : Int32)) X dX8_number_39 (by decide) ?_
      refine zr_istore3 X (by decide) rfl dX8_number_40 ?_
      have hP10 : zPq (zput J5 (y) 13 ((nI p9))) y t n9 (p9) := (zPq.put hP8 (by decide))
      have fr11 : zfm I (zput J5 (y) 13 ((nI p9))) y := (zfm.put fr7 (by decide))
      refine zr_I (zput_id hP10.2.2.1).symm ?_
      exact zl_X8_number X hnt hP10 zput_eq (by assumption) (by assumption) hlo hhi hm (fun J9 v h1 h2 h3 h4 => k1 J9 v h1 (zag.tr (show zag I (zput J5 (y) 13 ((nI p9))) y 1 by repeat (first | exact zag.rf | assumption | refine zag.put ?_ (by omega) (by omega) | refine zag.tr ?_ (by assumption) (by omega) (by omega))) h2 (Nat.le_refl _) (Nat.le_refl _)) (zfm.tr fr11 h3) h4) (fun J9 e h1 h2 h3 h4 => k2 J9 e h1 (zag.tr (show zag I (zput J5 (y) 13 ((nI p9))) y 1 by repeat (first | exact zag.rf | assumption | refine zag.put ?_ (by omega) (by omega) | refine zag.tr ?_ (by assumption) (by omega) (by omega))) h2 (Nat.le_refl _) (Nat.le_refl _)) (zfm.tr fr11 h3) h4) (n9 + 1) p9 0 (Nat.le_refl _) (tEndD_le hP10.2.2.2.1).1 (by rw [Nat.sub_self]; rfl) (by omega)
    · skip
      intro hd3
      refine zr_if_ne (tgt := 31) X dX8_number_16 (by decide) (fun h => absurd h (by decide)) (fun _ => ?_)
      refine zr_aload0 X dX8_number_19 ?_
      refine zr_bipush (v := (-2 : Int32)) X dX8_number_20 (by decide) ?_
      refine zr_aload0 X dX8_number_22 ?_
      refine zr_getI X zf_X8_104 rfl dX8_number_23 ?_
      refine zr_eq (x2 := (nI p9)) (hP8.2.2.1) ?_
      refine zr_callV2 (rm9 := zrm_X8_report) X hnt zm_X8_138 (by decide) (by decide) (by decide) (Nat.le_of_ble_eq_true rfl) dX8_number_26 ?_
      refine zg_X8_report hP8.1 ?_; have hE12 : zEq (zput (zput J5 y 5 (-2 : Int32)) y 6 (nI p9)) y ((-2 : Int32), p9) := zEq.mk (by decide); have fr13 : zfm I (zput (zput J5 y 5 (-2 : Int32)) y 6 (nI p9)) y := zfm.put (zfm.put fr7 (by decide)) (by decide)
      refine zr_iconst (v := (0 : Int32)) X dX8_number_29 (by decide) ?_
      refine zr_iret X (by decide) (by decide) dX8_number_30 ?_
      exact k2 _ _ (pNum_not (fun z => by first | (have h8 := z.2; rw [show tDig (t p9) = false from by assumption] at h8; cases h8) | (have := z.1; omega))) (by repeat (first | exact zag.rf | assumption | refine zag.put ?_ (by omega) (by omega) | refine zag.tr ?_ (by assumption) (by omega) (by omega))) fr13 hE12
  · skip
    intro J5 hg6 fr7 hP8 hb1; have fr7 : zfm I J5 y := zfm.tr zfm.rf fr7; have := hP8.2.2.2.1
    refine zr_callS1 (rm9 := zrm_X8_isDigit) X hnt zm_X8_142 (by decide) (by decide) (by decide) (Nat.le_of_ble_eq_true rfl) dX8_number_13 ?_
    refine zm_X8_isDigit ?_
    refine zr_if_ne (tgt := 31) X dX8_number_16 (by decide) (fun h => absurd h (by decide)) (fun _ => ?_)
    refine zr_aload0 X dX8_number_19 ?_
    refine zr_bipush (v := (-2 : Int32)) X dX8_number_20 (by decide) ?_
    refine zr_aload0 X dX8_number_22 ?_
    refine zr_getI X zf_X8_104 rfl dX8_number_23 ?_
    refine zr_eq (x2 := (nI p9)) (hP8.2.2.1) ?_
    refine zr_callV2 (rm9 := zrm_X8_report) X hnt zm_X8_138 (by decide) (by decide) (by decide) (Nat.le_of_ble_eq_true rfl) dX8_number_26 ?_
    refine zg_X8_report hP8.1 ?_; have hE14 : zEq (zput (zput J5 y 5 (-2 : Int32)) y 6 (nI p9)) y ((-2 : Int32), p9) := zEq.mk (by decide); have fr15 : zfm I (zput (zput J5 y 5 (-2 : Int32)) y 6 (nI p9)) y := zfm.put (zfm.put fr7 (by decide)) (by decide)
    refine zr_iconst (v := (0 : Int32)) X dX8_number_29 (by decide) ?_
    refine zr_iret X (by decide) (by decide) dX8_number_30 ?_
    exact k2 _ _ (pNum_not (fun z => by first | (have h8 := z.2; rw [show tDig (t p9) = false from by assumption] at h8; cases h8) | (have := z.1; omega))) (by repeat (first | exact zag.rf | assumption | refine zag.put ?_ (by omega) (by omega) | refine zag.tr ?_ (by assumption) (by omega) (by omega))) fr15 hE14
set_option maxRecDepth 20000 in
theorem zb_X8_number {l : Launch} {D : va_G} {b0 : Nat} {tA : Nat → ClassId} {sa sv : Nat → Nat} {K : Nat → Option Nat} {I : zI} {Qp : zI → Option AV → Prop} {Xp : String → zI → Prop} {y : Nat} {x1 x2 : Int32} {e9 : Int32 × Nat}
    (hE : zEq I y e9) (k1 : Qp I (some (vi 0))) :
    zC l D b0 tA sa sv K yX8_number (.code yX8_number cX8_number 4 (some .int)) zrm_X8_number [vr (y) 8, vi (x1), vi (x2)] I Qp Xp := by
  refine zC_of (by decide +kernel) (Nat.le_of_ble_eq_true rfl) ?_
  intro p e s m args below meth c X hnt
  have X : zX p l e zrm_X8_number s m args below meth c RX8 cX8_number 4 (some .int) D b0 tA sa sv := X
  refine zr_lv (lv2 := [some (vr (y) 8), some (vi (x1)), some (vi (x2)), none]) rfl ?_
  refine zr_aload0 X dX8_number_0 ?_
  refine zr_callV0 (rm9 := zrm_X8_isGood) X hnt zm_X8_121 (by decide) (by decide) (by decide) (Nat.le_of_ble_eq_true rfl) dX8_number_1 ?_
  refine zb_X8_isGood (fun z => hE.1.2 (hE.1.1.symm.trans z)) ?_
  refine zr_if_ne (tgt := 9) X dX8_number_4 (by decide) (fun h => absurd h (by decide)) (fun _ => ?_)
  refine zr_iconst (v := (0 : Int32)) X dX8_number_7 (by decide) ?_
  refine zr_iret X (by decide) (by decide) dX8_number_8 ?_
  exact k1
abbrev zrm_X8_called : Room := { frames := 1, cells := 0, slots := 0, locals := 21 }
theorem zsame_s {S : zS} {nm : Nat → Int32} {c k b : Nat} (h : (b = 1 ∧ ∀ i, i < k → sM S c i = nm i) ∨ (b = 0 ∧ ∃ i, i < k ∧ ¬ sM S c i = nm i)) (e : sM S c k = nm k) : (b = 1 ∧ ∀ i, i < k + 1 → sM S c i = nm i) ∨ (b = 0 ∧ ∃ i, i < k + 1 ∧ ¬ sM S c i = nm i) := by
  rcases h with ⟨h1, h2⟩ | ⟨h1, i, h2, h3⟩
  · refine Or.inl ⟨h1, fun i hi => ?_⟩
    rcases Nat.lt_succ_iff_lt_or_eq.mp hi with q | rfl
    · exact h2 i q
    · exact e
  · exact Or.inr ⟨h1, i, by omega, h3⟩
theorem zsame_n {S : zS} {nm : Nat → Int32} {c k b : Nat} (e : ¬ sM S c k = nm k) : ((0 : Nat) = 1 ∧ ∀ i, i < k + 1 → sM S c i = nm i) ∨ ((0 : Nat) = 0 ∧ ∃ i, i < k + 1 ∧ ¬ sM S c i = nm i) := Or.inr ⟨rfl, k, by omega, e⟩
set_option maxRecDepth 20000 in
theorem zl2_X8_called {l : Launch} {D : va_G} {b0 : Nat} {tA : Nat → ClassId} {sa sv : Nat → Nat} {K : Nat → Option Nat} {I : zI} {Qp : zI → Option AV → Prop} {Xp : String → zI → Prop} {p : Program} {e : Env} {s : State} {m : MethodId} {args : Array Value} {below : List Frame} {meth : Method} {c : Code} {a y p9 L j : Nat} {t : Nat → Nat} {S : zS}
    (X : zX p l e zrm_X8_called s m args below meth c RX8 cX8_called 7 (some .int) D b0 tA sa sv) (hnt : ∀ x ∈ c.exceptionTable.toList, False) (hM : zMd I a S) (hW : zWf S) (hB : ∀ k, k < L → I (y + 1) (p9 + k) = nI (t (p9 + k))) (hL : p9 + L ≤ 500) (hL6 : L ≤ 6) (hj : j < 12) (hk : ∀ b : Nat, (b = 1 ∧ ∀ i, i < 6 → sM S j i = (fun k => if k < L then nI (t (p9 + k)) else 0) i) ∨ (b = 0 ∧ ∃ i, i < 6 ∧ ¬ sM S j i = (fun k => if k < L then nI (t (p9 + k)) else 0) i) → zG p l e zrm_X8_called s m args below meth c 7 D b0 tA sa 0 0 (zQ below D b0 tA sa K args s zrm_X8_called Qp Xp) K 66 [some (vr (y) 8), some (vr (a) 15), some (vi ((nI p9))), some (vi ((nI L))), some (vi ((nI j))), some (vi ((nI b))), none] [] I) :
    ∀ (n : Nat) (k b : Nat), k ≤ 6 → ((b = 1 ∧ ∀ i, i < k → sM S j i = (fun k => if k < L then nI (t (p9 + k)) else 0) i) ∨ (b = 0 ∧ ∃ i, i < k ∧ ¬ sM S j i = (fun k => if k < L then nI (t (p9 + k)) else 0) i)) → 6 - k < n → zG p l e zrm_X8_called s m args below meth c 7 D b0 tA sa 0 0 (zQ below D b0 tA sa K args s zrm_X8_called Qp Xp) K 17 [some (vr (y) 8), some (vr (a) 15), some (vi ((nI p9))), some (vi ((nI L))), some (vi ((nI j))), some (vi ((nI b))), some (vi ((nI k)))] [] I := by
  intro n
  induction n with
  | zero => intro k b i1 i2 i9; exact absurd i9 (Nat.not_lt_zero _)
  | succ n ih =>
    intro k b i1 i2 i9
    refine zr_iload6 X dX8_called_17 ?_
    refine zr_bipush (v := (6 : Int32)) X dX8_called_19 (by decide) ?_
    refine zr_nicmp_ge X (k) (6) (tgt := 66) (by omega) (by omega) dX8_called_21 (by decide) (fun h1 => ?_) (fun h1 => ?_)
    · skip
      have hk6 : k = 6 := by omega
      subst hk6
      refine zr_forget (lv2 := [some (vr (y) 8), some (vr (a) 15), some (vi ((nI p9))), some (vi ((nI L))), some (vi ((nI j))), some (vi ((nI b))), none]) (fun j9 v9 h9 => by rcases j9 with _ | _ | _ | _ | _ | _ | _ | _ | j9 <;> first | exact h9 | (simp at h9)) ?_
      exact hk b i2
    · skip
      refine zr_aload1 X dX8_called_24 ?_
      refine zr_iload4 X dX8_called_25 ?_
      refine zr_iconst (v := (4 : Int32)) X dX8_called_27 (by decide) ?_
      refine zr_iload6 X dX8_called_28 ?_
      refine zr_iadd X dX8_called_30 ?_
      refine zr_eq (x2 := (nI (4 + k))) (nI_add (4) (k)) ?_
      refine zr_callS2 (rm9 := zrm_X8_cardAt) X hnt zm_X8_61 (by decide) (by decide) (by decide) (Nat.le_of_ble_eq_true rfl) dX8_called_31 ?_
      refine zn_X8_cardAt (g := j) (w := 4 + k) ?_
      refine zr_ialdN (n := 190 + 10 * j + (4 + k)) X rfl (show _ < 310 from (by first | assumption | omega | decide)) dX8_called_34 ?_
      refine zr_eq (x2 := (sM S j k)) ((hM.2.2 j (by omega)).2 k (by omega)) ?_
      refine zr_iload6 X dX8_called_35 ?_
      refine zr_iload3 X dX8_called_37 ?_
      refine zr_nicmp_ge X (k) (L) (tgt := 53) (by omega) (by omega) dX8_called_38 (by decide) (fun h2 => ?_) (fun h2 => ?_)
      · skip
        refine zr_iconst (v := (0 : Int32)) X dX8_called_53 (by decide) ?_
        refine zr_icmp_eq (tgt := 60) X dX8_called_54 (by decide) (fun h3 => ?_) (fun h3 => ?_)
        · skip
          refine zr_iinc6 (v := (nI (k + 1))) X (show nI (k) + Int32.ofInt 1 = nI (k + 1) from nI_1 (k)) (by decide) rfl dX8_called_60 ?_
          refine zr_goto (tgt := 17) X dX8_called_63 (by decide) ?_
          exact ih (k + 1) b (by omega) (zsame_s i2 (by show _ = (if k < L then nI (t (p9 + k)) else 0); rw [if_neg (by omega)]; exact h3)) (by omega)
        · skip
          refine zr_iconst (v := (0 : Int32)) X dX8_called_57 (by decide) ?_
          refine zr_istore5 X (by decide) rfl dX8_called_58 ?_
          refine zr_iinc6 (v := (nI (k + 1))) X (show nI (k) + Int32.ofInt 1 = nI (k + 1) from nI_1 (k)) (by decide) rfl dX8_called_60 ?_
          refine zr_goto (tgt := 17) X dX8_called_63 (by decide) ?_
          exact ih (k + 1) 0 (by omega) (zsame_n (b := b) (fun z => h3 (by rw [z]; show (if k < L then nI (t (p9 + k)) else 0) = _; rw [if_neg (by omega)]))) (by omega)
      · skip
        refine zr_aload0 X dX8_called_41 ?_
        refine zr_getR X zf_X8_9 rfl (by decide) (by decide) dX8_called_42 ?_
        refine zr_iload2 X dX8_called_45 ?_
        refine zr_iload6 X dX8_called_46 ?_
        refine zr_iadd X dX8_called_48 ?_
        refine zr_eq (x2 := (nI (p9 + k))) (nI_add (p9) (k)) ?_
        refine zr_ialdN X rfl (show _ < 500 from (by first | assumption | omega)) dX8_called_49 ?_
        refine zr_eq (x2 := (nI (t (p9 + k)))) (hB k (by omega)) ?_
        refine zr_goto (tgt := 54) X dX8_called_50 (by decide) ?_
        refine zr_icmp_eq (tgt := 60) X dX8_called_54 (by decide) (fun h4 => ?_) (fun h4 => ?_)
        · skip
          refine zr_iinc6 (v := (nI (k + 1))) X (show nI (k) + Int32.ofInt 1 = nI (k + 1) from nI_1 (k)) (by decide) rfl dX8_called_60 ?_
          refine zr_goto (tgt := 17) X dX8_called_63 (by decide) ?_
          exact ih (k + 1) b (by omega) (zsame_s i2 (by show _ = (if k < L then nI (t (p9 + k)) else 0); rw [if_pos (by omega)]; exact h4)) (by omega)
        · skip
          refine zr_iconst (v := (0 : Int32)) X dX8_called_57 (by decide) ?_
          refine zr_istore5 X (by decide) rfl dX8_called_58 ?_
          refine zr_iinc6 (v := (nI (k + 1))) X (show nI (k) + Int32.ofInt 1 = nI (k + 1) from nI_1 (k)) (by decide) rfl dX8_called_60 ?_
          refine zr_goto (tgt := 17) X dX8_called_63 (by decide) ?_
          exact ih (k + 1) 0 (by omega) (zsame_n (b := b) (fun z => h4 (by rw [z]; show (if k < L then nI (t (p9 + k)) else 0) = _; rw [if_pos (by omega)]))) (by omega)
set_option maxRecDepth 20000 in
theorem zl_X8_called {l : Launch} {D : va_G} {b0 : Nat} {tA : Nat → ClassId} {sa sv : Nat → Nat} {K : Nat → Option Nat} {I : zI} {Qp : zI → Option AV → Prop} {Xp : String → zI → Prop} {p : Program} {e : Env} {s : State} {m : MethodId} {args : Array Value} {below : List Frame} {meth : Method} {c : Code} {a y p9 L : Nat} {t : Nat → Nat} {S : zS}
    (X : zX p l e zrm_X8_called s m args below meth c RX8 cX8_called 7 (some .int) D b0 tA sa sv) (hnt : ∀ x ∈ c.exceptionTable.toList, False) (hM : zMd I a S) (hW : zWf S) (hB : ∀ k, k < L → I (y + 1) (p9 + k) = nI (t (p9 + k))) (hL : p9 + L ≤ 500) (hL6 : L ≤ 6) (k1 : ∀ c, pFind S (fun k => if k < L then nI (t (p9 + k)) else 0) = some c → c < znc S → Qp I (some (vi (nI c)))) (k2 : pFind S (fun k => if k < L then nI (t (p9 + k)) else 0) = none → Qp I (some (vi (-1)))) :
    ∀ (n : Nat) (j : Nat), j ≤ znc S → (∀ i, i < j → ¬ ∀ k, k < 6 → sM S i k = (fun k => if k < L then nI (t (p9 + k)) else 0) k) → znc S - j < n → zG p l e zrm_X8_called s m args below meth c 7 D b0 tA sa 0 0 (zQ below D b0 tA sa K args s zrm_X8_called Qp Xp) K 3 [some (vr (y) 8), some (vr (a) 15), some (vi ((nI p9))), some (vi ((nI L))), some (vi ((nI j))), none, none] [] I := by
  intro n
  induction n with
  | zero => intro j i1 i2 i9; exact absurd i9 (Nat.not_lt_zero _)
  | succ n ih =>
    intro j i1 i2 i9
    have hg6 := hW.ng.1
    have hc12 := hW.nc.1
    refine zr_iload4 X dX8_called_3 ?_
    refine zr_aload1 X dX8_called_5 ?_
    refine zr_iconst (v := (5 : Int32)) X dX8_called_6 (by decide) ?_
    refine zr_ialdN (n := 5) X rfl (show _ < 310 from (by first | assumption | omega | decide)) dX8_called_7 ?_
    refine zr_eq (x2 := (sX S 5)) (hM.1 5 (by decide)) ?_
    refine zr_eq (x2 := (nI (znc S))) (hW.nc.2) ?_
    refine zr_nicmp_ge X (j) ((znc S)) (tgt := 80) (by omega) (by omega) dX8_called_8 (by decide) (fun h1 => ?_) (fun h1 => ?_)
    · skip
      refine zr_iconst (v := (-1 : Int32)) X dX8_called_80 (by decide) ?_
      refine zr_iret X (by decide) (by decide) dX8_called_81 ?_
      exact k2 (by cases e : pFind S (fun k => if k < L then nI (t (p9 + k)) else 0) with | none => rfl | some c => exact absurd (pFind_some e).2 (i2 c (by have := (pFind_some e).1; omega)))
    · skip
      refine zr_iconst (v := (1 : Int32)) X dX8_called_11 (by decide) ?_
      refine zr_istore5 X (by decide) rfl dX8_called_12 ?_
      refine zr_iconst (v := (0 : Int32)) X dX8_called_14 (by decide) ?_
      refine zr_istore6 X (by decide) rfl dX8_called_15 ?_
      refine zl2_X8_called X hnt hM hW hB hL hL6 (j := j) (by omega) (fun b hb => ?_) 7 0 1 (by omega) (Or.inl ⟨rfl, fun i hi => absurd hi (Nat.not_lt_zero _)⟩) (by omega)
      have hb1 : b < 2 := by rcases hb with h | h <;> omega
      refine zr_iload5 X dX8_called_66 ?_
      refine zr_nif_eq X (b) (tgt := 74) (by omega) dX8_called_68 (by decide) (fun h2 => ?_) (fun h2 => ?_)
      · skip
        refine zr_iinc4 (v := (nI (j + 1))) X (show nI (j) + Int32.ofInt 1 = nI (j + 1) from nI_1 (j)) (by decide) rfl dX8_called_74 ?_
        refine zr_goto (tgt := 3) X dX8_called_77 (by decide) ?_
        refine zr_forget (lv2 := [some (vr (y) 8), some (vr (a) 15), some (vi ((nI p9))), some (vi ((nI L))), some (vi ((nI (j + 1)))), none, none]) (fun j9 v9 h9 => by rcases j9 with _ | _ | _ | _ | _ | _ | _ | _ | j9 <;> first | exact h9 | (simp at h9)) ?_
        exact ih (j + 1) (by omega) (fun i hi => by rcases Nat.lt_succ_iff_lt_or_eq.mp hi with q | rfl; exact i2 i q; exact fun z => by rcases hb with h | ⟨_, i, h1, h2⟩; exact absurd h.1 (by omega); exact h2 (z i h1)) (by omega)
      · skip
        refine zr_iload4 X dX8_called_71 ?_
        refine zr_iret X (by decide) (by decide) dX8_called_73 ?_
        exact k1 j (pFind_is (by omega) (by rcases hb with h | h; exact h.2; exact absurd h.1 (by assumption)) (fun i hi => i2 i hi)) (by omega)
set_option maxRecDepth 20000 in
theorem zp_X8_called {l : Launch} {D : va_G} {b0 : Nat} {tA : Nat → ClassId} {sa sv : Nat → Nat} {K : Nat → Option Nat} {I : zI} {Qp : zI → Option AV → Prop} {Xp : String → zI → Prop} {a y p9 L : Nat} {t : Nat → Nat} {S : zS}
    (hM : zMd I a S) (hW : zWf S) (hB : ∀ k, k < L → I (y + 1) (p9 + k) = nI (t (p9 + k))) (hL : p9 + L ≤ 500) (hL6 : L ≤ 6) (k1 : ∀ c, pFind S (fun k => if k < L then nI (t (p9 + k)) else 0) = some c → c < znc S → Qp I (some (vi (nI c)))) (k2 : pFind S (fun k => if k < L then nI (t (p9 + k)) else 0) = none → Qp I (some (vi (-1)))) :
    zC l D b0 tA sa sv K yX8_called (.code yX8_called cX8_called 7 (some .int)) zrm_X8_called [vr (y) 8, vr (a) 15, vi ((nI p9)), vi ((nI L))] I Qp Xp := by
  refine zC_of (by decide +kernel) (Nat.le_of_ble_eq_true rfl) ?_
  intro p e s m args below meth c X hnt
  have X : zX p l e zrm_X8_called s m args below meth c RX8 cX8_called 7 (some .int) D b0 tA sa sv := X
  refine zr_lv (lv2 := [some (vr (y) 8), some (vr (a) 15), some (vi ((nI p9))), some (vi ((nI L))), none, none, none]) rfl ?_
  refine zr_iconst (v := (0 : Int32)) X dX8_called_0 (by decide) ?_
  refine zr_istore4 X (by decide) rfl dX8_called_1 ?_
  exact zl_X8_called X hnt hM hW hB hL hL6 k1 k2 (znc S + 1) 0 (by omega) (fun i hi => absurd hi (Nat.not_lt_zero _)) (by omega)
abbrev zrm_X8_name : Room := { frames := 2, cells := 0, slots := 0, locals := 41 }
theorem zput4 {I : zI} {y : Nat} {a b c d : Int32} : zput (zput (zput (zput I y 4 a) y 15 b) y 4 c) y 15 d = zput (zput I y 4 c) y 15 d := by
  rw [zput_cm (I := zput I y 4 a) (j := 15) (k := 4) (by decide), zput_zput, zput_zput]
theorem tEndL_0 {t : Nat → Nat} {n p : Nat} (h : tEndL t n p - p = 0) (hp : p ≤ n) : ¬ tKind t n p = 2 := fun z => by have := tEndL_1 z; omega
theorem tKind_2L {t : Nat → Nat} {n p : Nat} (h : ¬ tEndL t n p - p = 0) (hp : p ≤ n) : tKind t n p = 2 := by
  have h1 := tEndL_le (t := t) hp
  have h2 := tLet_run (t := t) (n := n) (p := p) (i := 0) (by omega)
  exact tKind_2.mpr ⟨by omega, h2⟩
set_option maxRecDepth 20000 in
theorem zl_X8_name {l : Launch} {D : va_G} {b0 : Nat} {tA : Nat → ClassId} {sa sv : Nat → Nat} {K : Nat → Option Nat} {I : zI} {Qp : zI → Option AV → Prop} {Xp : String → zI → Prop} {p : Program} {e : Env} {s : State} {m : MethodId} {args : Array Value} {below : List Frame} {meth : Method} {c : Code} {y n9 p9 : Nat} {t : Nat → Nat}
    (X : zX p l e zrm_X8_name s m args below meth c RX8 cX8_name 1 (some .boolean) D b0 tA sa sv) (hnt : ∀ x ∈ c.exceptionTable.toList, False) (hP : zPq I y t n9 p9) (h14 : I y 14 = nI p9) (k1 : pName t n9 p9 = none → ∀ J : zI, zag I J y 1 → zfm I J y → zPq J y t n9 (tEnd t n9 p9) → J y 14 = nI p9 → J y 15 = nI (tEndL t n9 p9 - p9) → Qp J (some (vi 1))) (k2 : ∀ (J : zI) (e : Int32 × Nat), pName t n9 p9 = some e → zag I J y 1 → zfm I J y → zEq J y e → Qp J (some (vi 0))) :
    ∀ (n : Nat) (r : Nat), p9 ≤ r → r ≤ tEndL t n9 p9 → n9 - r < n → zG p l e zrm_X8_name s m args below meth c 1 D b0 tA sa 0 0 (zQ below D b0 tA sa K args s zrm_X8_name Qp Xp) K 27 [some (vr (y) 8)] [] (zput (zput I (y) 4 ((nI r))) (y) 15 ((nI (r - p9)))) := by
  intro n
  induction n with
  | zero => intro r i1 i2 i9; exact absurd i9 (Nat.not_lt_zero _)
  | succ n ih =>
    intro r i1 i2 i9
    have hle := tEndL_le (t := t) hP.2.2.2.1
    have hn5 := hP.2.2.2.2.1
    have hP9 : zPq (zput (zput I y 4 (nI r)) y 15 (nI (r - p9))) y t n9 r := (hP.pos (r := r) (by omega)).put (by decide)
    have hfm9 : zfm I (zput (zput I y 4 (nI r)) y 15 (nI (r - p9))) y := (zfm.rf.put (by decide)).put (by decide)
    refine zr_aload0 X dX8_name_27 ?_
    refine zr_aload0 X dX8_name_28 ?_
    refine zr_getI X zf_X8_104 rfl dX8_name_29 ?_
    refine zr_eq (x2 := (nI r)) ((zput_nj (by decide)).trans (zput_eq)) ?_
    refine zr_callV1 (rm9 := zrm_X8_byteAt) X hnt zm_X8_107 (by decide) (by decide) (by decide) (Nat.le_of_ble_eq_true rfl) dX8_name_32 ?_
    refine zn_X8_byteAt (k9 := r) hP9 (by omega) ?_ ?_
    · skip
      intro hb1 h22
      refine zr_bipush (v := (97 : Int32)) X dX8_name_35 (by decide) ?_
      refine zr_bipush (v := (122 : Int32)) X dX8_name_37 (by decide) ?_
      refine zr_callS3 (rm9 := zrm_X8_in) X hnt zm_X8_117 (by decide) (by decide) (by decide) (Nat.le_of_ble_eq_true rfl) dX8_name_39 ?_
      refine znL_X8_in (v := t r) (by omega) ?_ ?_
      · skip
        intro hl3; have hl3_2 := tLet_iff.mp hl3
        refine zr_if_eq (tgt := 68) X dX8_name_42 (by decide) (fun h => absurd h (by decide)) (fun _ => ?_)
        refine zr_aload0 X dX8_name_45 ?_
        refine zr_dupR X dX8_name_46 ?_
        refine zr_getI X zf_X8_104 rfl dX8_name_47 ?_
        refine zr_eq (x2 := (nI r)) ((zput_nj (by decide)).trans (zput_eq)) ?_
        refine zr_iconst (v := (1 : Int32)) X dX8_name_50 (by decide) ?_
        refine zr_iadd X dX8_name_51 ?_
        refine zr_eq (x2 := (nI (r + 1))) (nI_add (r) (1)) ?_
        refine zr_putI X zf_X8_104 rfl (Or.inl rfl) dX8_name_52 ?_
        refine zr_aload0 X dX8_name_55 ?_
        refine zr_dupR X dX8_name_56 ?_
        refine zr_getI X zf_X8_153 rfl dX8_name_57 ?_
        refine zr_eq (x2 := (nI (r - p9))) ((zput_nj (by decide)).trans (zput_eq)) ?_
        refine zr_iconst (v := (1 : Int32)) X dX8_name_60 (by decide) ?_
        refine zr_iadd X dX8_name_61 ?_
        refine zr_eq (x2 := (nI ((r - p9) + 1))) (nI_add ((r - p9)) (1)) ?_
        refine zr_putI X zf_X8_153 rfl (Or.inl rfl) dX8_name_62 ?_
        refine zr_goto (tgt := 27) X dX8_name_65 (by decide) ?_
        refine zr_I zput4 ?_
        rw [show r - p9 + 1 = r + 1 - p9 by omega]
        exact ih (r + 1) (by omega) (by have := (tEndL_in (t := t) i1 i2 (by omega)).mp (by assumption); omega) (by omega)
      · skip
        intro hl3
        refine zr_if_eq (tgt := 68) X dX8_name_42 (by decide) (fun _ => ?_) (fun h => absurd h (by decide))
        refine zr_aload0 X dX8_name_68 ?_
        refine zr_getI X zf_X8_153 rfl dX8_name_69 ?_
        refine zr_eq (x2 := (nI (r - p9))) (zput_eq) ?_
        refine zr_nif_ne X ((r - p9)) (tgt := 85) (by omega) dX8_name_72 (by decide) (fun h4 => ?_) (fun h4 => ?_)
        · skip
          refine zr_aload0 X dX8_name_85 ?_
          refine zr_getI X zf_X8_153 rfl dX8_name_86 ?_
          refine zr_eq (x2 := (nI (r - p9))) (zput_eq) ?_
          refine zr_bipush (v := (6 : Int32)) X dX8_name_89 (by decide) ?_
          refine zr_nicmp_le X ((r - p9)) (6) (tgt := 104) (by omega) (by omega) dX8_name_91 (by decide) (fun h5 => ?_) (fun h5 => ?_)
          · skip
            refine zr_aload0 X dX8_name_104 ?_
            refine zr_callV0 (rm9 := zrm_X8_isGood) X hnt zm_X8_121 (by decide) (by decide) (by decide) (Nat.le_of_ble_eq_true rfl) dX8_name_105 ?_
            refine zg_X8_isGood hP9.1 ?_
            refine zr_zret X (by first | decide | assumption | (simp; done)) (by decide) (by decide) dX8_name_108 ?_
            have e9 : r = tEndL t n9 p9 := tEndL_is hP.2.2.2.1 i1 i2 (by first | exact Or.inl (by omega) | exact Or.inr (by assumption))
            subst e9
            exact k1 (by rw [pName, if_pos (tKind_2L (by omega) hP.2.2.2.1), if_pos (by omega)]) _ (by repeat (first | exact zag.rf | assumption | refine zag.put ?_ (by omega) (by omega) | refine zag.tr ?_ (by assumption) (by omega) (by omega))) hfm9 (by have hk := tKind_2L (t := t) (n := n9) (p := p9) (by omega) hP.2.2.2.1; rw [tEnd_L (tKind_2.mp hk).1 (tKind_2.mp hk).2]; exact hP9) (by first | exact h14 | (rw [zput_nj (by decide), zput_nj (by decide)]; exact h14)) (by first | exact zput_eq | rfl)
          · skip
            refine zr_aload0 X dX8_name_94 ?_
            refine zr_bipush (v := (-3 : Int32)) X dX8_name_95 (by decide) ?_
            refine zr_aload0 X dX8_name_97 ?_
            refine zr_getI X zf_X8_150 rfl dX8_name_98 ?_
            refine zr_eq (x2 := (I (y) 14)) ((zput_nj (by decide)).trans ((zput_nj (by decide)))) ?_
            refine zr_eq (x2 := (nI p9)) (h14) ?_
            refine zr_callV2 (rm9 := zrm_X8_report) X hnt zm_X8_138 (by decide) (by decide) (by decide) (Nat.le_of_ble_eq_true rfl) dX8_name_101 ?_
            refine zg_X8_report hP9.1 ?_; have hE16 : zEq (zput (zput (zput (zput I (y) 4 ((nI r))) (y) 15 ((nI (r - p9)))) y 5 (-3 : Int32)) y 6 (nI p9)) y ((-3 : Int32), p9) := zEq.mk (by decide); have fr17 : zfm I (zput (zput (zput (zput I (y) 4 ((nI r))) (y) 15 ((nI (r - p9)))) y 5 (-3 : Int32)) y 6 (nI p9)) y := zfm.put (zfm.put hfm9 (by decide)) (by decide)
            refine zr_aload0 X dX8_name_104 ?_
            refine zr_callV0 (rm9 := zrm_X8_isGood) X hnt zm_X8_121 (by decide) (by decide) (by decide) (Nat.le_of_ble_eq_true rfl) dX8_name_105 ?_
            refine zb_X8_isGood (fun z => hE16.1.2 (hE16.1.1.symm.trans z)) ?_
            refine zr_zret X (by first | decide | assumption | (simp; done)) (by decide) (by decide) dX8_name_108 ?_
            have e9 : r = tEndL t n9 p9 := tEndL_is hP.2.2.2.1 i1 i2 (by first | exact Or.inl (by omega) | exact Or.inr (by assumption))
            subst e9
            first | exact k2 _ _ (by rw [pName, if_neg (tEndL_0 (by omega) hP.2.2.2.1)]) (by repeat (first | exact zag.rf | assumption | refine zag.put ?_ (by omega) (by omega) | refine zag.tr ?_ (by assumption) (by omega) (by omega))) fr17 hE16 | exact k2 _ _ (by rw [pName, if_pos (tKind_2L (by omega) hP.2.2.2.1), if_neg (by omega)]) (by repeat (first | exact zag.rf | assumption | refine zag.put ?_ (by omega) (by omega) | refine zag.tr ?_ (by assumption) (by omega) (by omega))) fr17 hE16
        · skip
          refine zr_aload0 X dX8_name_75 ?_
          refine zr_bipush (v := (-2 : Int32)) X dX8_name_76 (by decide) ?_
          refine zr_aload0 X dX8_name_78 ?_
          refine zr_getI X zf_X8_150 rfl dX8_name_79 ?_
          refine zr_eq (x2 := (I (y) 14)) ((zput_nj (by decide)).trans ((zput_nj (by decide)))) ?_
          refine zr_eq (x2 := (nI p9)) (h14) ?_
          refine zr_callV2 (rm9 := zrm_X8_report) X hnt zm_X8_138 (by decide) (by decide) (by decide) (Nat.le_of_ble_eq_true rfl) dX8_name_82 ?_
          refine zg_X8_report hP9.1 ?_; have hE18 : zEq (zput (zput (zput (zput I (y) 4 ((nI r))) (y) 15 ((nI (r - p9)))) y 5 (-2 : Int32)) y 6 (nI p9)) y ((-2 : Int32), p9) := zEq.mk (by decide); have fr19 : zfm I (zput (zput (zput (zput I (y) 4 ((nI r))) (y) 15 ((nI (r - p9)))) y 5 (-2 : Int32)) y 6 (nI p9)) y := zfm.put (zfm.put hfm9 (by decide)) (by decide)
          refine zr_aload0 X dX8_name_85 ?_
          refine zr_getI X zf_X8_153 rfl dX8_name_86 ?_
          refine zr_bipush (v := (6 : Int32)) X dX8_name_89 (by decide) ?_
          refine zr_icmp_le (tgt := 104) X dX8_name_91 (by decide) (fun h6 => ?_) (fun h6 => ?_)
          · skip
            refine zr_aload0 X dX8_name_104 ?_
            refine zr_callV0 (rm9 := zrm_X8_isGood) X hnt zm_X8_121 (by decide) (by decide) (by decide) (Nat.le_of_ble_eq_true rfl) dX8_name_105 ?_
            refine zb_X8_isGood (fun z => hE18.1.2 (hE18.1.1.symm.trans z)) ?_
            refine zr_zret X (by first | decide | assumption | (simp; done)) (by decide) (by decide) dX8_name_108 ?_
            have e9 : r = tEndL t n9 p9 := tEndL_is hP.2.2.2.1 i1 i2 (by first | exact Or.inl (by omega) | exact Or.inr (by assumption))
            subst e9
            first | exact k2 _ _ (by rw [pName, if_neg (tEndL_0 (by omega) hP.2.2.2.1)]) (by repeat (first | exact zag.rf | assumption | refine zag.put ?_ (by omega) (by omega) | refine zag.tr ?_ (by assumption) (by omega) (by omega))) fr19 hE18 | exact k2 _ _ (by rw [pName, if_pos (tKind_2L (by omega) hP.2.2.2.1), if_neg (by omega)]) (by repeat (first | exact zag.rf | assumption | refine zag.put ?_ (by omega) (by omega) | refine zag.tr ?_ (by assumption) (by omega) (by omega))) fr19 hE18
          · skip
            refine zr_aload0 X dX8_name_94 ?_
            refine zr_bipush (v := (-3 : Int32)) X dX8_name_95 (by decide) ?_
            refine zr_aload0 X dX8_name_97 ?_
            refine zr_getI X zf_X8_150 rfl dX8_name_98 ?_
            refine zr_callV2 (rm9 := zrm_X8_report) X hnt zm_X8_138 (by decide) (by decide) (by decide) (Nat.le_of_ble_eq_true rfl) dX8_name_101 ?_
            refine zb_X8_report (fun z => hE18.1.2 (hE18.1.1.symm.trans z)) ?_
            refine zr_aload0 X dX8_name_104 ?_
            refine zr_callV0 (rm9 := zrm_X8_isGood) X hnt zm_X8_121 (by decide) (by decide) (by decide) (Nat.le_of_ble_eq_true rfl) dX8_name_105 ?_
            refine zb_X8_isGood (fun z => hE18.1.2 (hE18.1.1.symm.trans z)) ?_
            refine zr_zret X (by first | decide | assumption | (simp; done)) (by decide) (by decide) dX8_name_108 ?_
            have e9 : r = tEndL t n9 p9 := tEndL_is hP.2.2.2.1 i1 i2 (by first | exact Or.inl (by omega) | exact Or.inr (by assumption))
            subst e9
            first | exact k2 _ _ (by rw [pName, if_neg (tEndL_0 (by omega) hP.2.2.2.1)]) (by repeat (first | exact zag.rf | assumption | refine zag.put ?_ (by omega) (by omega) | refine zag.tr ?_ (by assumption) (by omega) (by omega))) fr19 hE18 | exact k2 _ _ (by rw [pName, if_pos (tKind_2L (by omega) hP.2.2.2.1), if_neg (by omega)]) (by repeat (first | exact zag.rf | assumption | refine zag.put ?_ (by omega) (by omega) | refine zag.tr ?_ (by assumption) (by omega) (by omega))) fr19 hE18
    · skip
      intro hb1
      refine zr_bipush (v := (97 : Int32)) X dX8_name_35 (by decide) ?_
      refine zr_bipush (v := (122 : Int32)) X dX8_name_37 (by decide) ?_
      refine zr_callS3 (rm9 := zrm_X8_in) X hnt zm_X8_117 (by decide) (by decide) (by decide) (Nat.le_of_ble_eq_true rfl) dX8_name_39 ?_
      refine zq_X8_in (fun h => absurd h (by decide)) (fun _ => ?_)
      refine zr_if_eq (tgt := 68) X dX8_name_42 (by decide) (fun _ => ?_) (fun h => absurd h (by decide))
      refine zr_aload0 X dX8_name_68 ?_
      refine zr_getI X zf_X8_153 rfl dX8_name_69 ?_
      refine zr_eq (x2 := (nI (r - p9))) (zput_eq) ?_
      refine zr_nif_ne X ((r - p9)) (tgt := 85) (by omega) dX8_name_72 (by decide) (fun h7 => ?_) (fun h7 => ?_)
      · skip
        refine zr_aload0 X dX8_name_85 ?_
        refine zr_getI X zf_X8_153 rfl dX8_name_86 ?_
        refine zr_eq (x2 := (nI (r - p9))) (zput_eq) ?_
        refine zr_bipush (v := (6 : Int32)) X dX8_name_89 (by decide) ?_
        refine zr_nicmp_le X ((r - p9)) (6) (tgt := 104) (by omega) (by omega) dX8_name_91 (by decide) (fun h8 => ?_) (fun h8 => ?_)
        · skip
          refine zr_aload0 X dX8_name_104 ?_
          refine zr_callV0 (rm9 := zrm_X8_isGood) X hnt zm_X8_121 (by decide) (by decide) (by decide) (Nat.le_of_ble_eq_true rfl) dX8_name_105 ?_
          refine zg_X8_isGood hP9.1 ?_
          refine zr_zret X (by first | decide | assumption | (simp; done)) (by decide) (by decide) dX8_name_108 ?_
          have e9 : r = tEndL t n9 p9 := tEndL_is hP.2.2.2.1 i1 i2 (by first | exact Or.inl (by omega) | exact Or.inr (by assumption))
          subst e9
          exact k1 (by rw [pName, if_pos (tKind_2L (by omega) hP.2.2.2.1), if_pos (by omega)]) _ (by repeat (first | exact zag.rf | assumption | refine zag.put ?_ (by omega) (by omega) | refine zag.tr ?_ (by assumption) (by omega) (by omega))) hfm9 (by have hk := tKind_2L (t := t) (n := n9) (p := p9) (by omega) hP.2.2.2.1; rw [tEnd_L (tKind_2.mp hk).1 (tKind_2.mp hk).2]; exact hP9) (by first | exact h14 | (rw [zput_nj (by decide), zput_nj (by decide)]; exact h14)) (by first | exact zput_eq | rfl)
        · skip
          refine zr_aload0 X dX8_name_94 ?_
          refine zr_bipush (v := (-3 : Int32)) X dX8_name_95 (by decide) ?_
          refine zr_aload0 X dX8_name_97 ?_
          refine zr_getI X zf_X8_150 rfl dX8_name_98 ?_
          refine zr_eq (x2 := (I (y) 14)) ((zput_nj (by decide)).trans ((zput_nj (by decide)))) ?_
          refine zr_eq (x2 := (nI p9)) (h14) ?_
          refine zr_callV2 (rm9 := zrm_X8_report) X hnt zm_X8_138 (by decide) (by decide) (by decide) (Nat.le_of_ble_eq_true rfl) dX8_name_101 ?_
          refine zg_X8_report hP9.1 ?_; have hE20 : zEq (zput (zput (zput (zput I (y) 4 ((nI r))) (y) 15 ((nI (r - p9)))) y 5 (-3 : Int32)) y 6 (nI p9)) y ((-3 : Int32), p9) := zEq.mk (by decide); have fr21 : zfm I (zput (zput (zput (zput I (y) 4 ((nI r))) (y) 15 ((nI (r - p9)))) y 5 (-3 : Int32)) y 6 (nI p9)) y := zfm.put (zfm.put hfm9 (by decide)) (by decide)
          refine zr_aload0 X dX8_name_104 ?_
          refine zr_callV0 (rm9 := zrm_X8_isGood) X hnt zm_X8_121 (by decide) (by decide) (by decide) (Nat.le_of_ble_eq_true rfl) dX8_name_105 ?_
          refine zb_X8_isGood (fun z => hE20.1.2 (hE20.1.1.symm.trans z)) ?_
          refine zr_zret X (by first | decide | assumption | (simp; done)) (by decide) (by decide) dX8_name_108 ?_
          have e9 : r = tEndL t n9 p9 := tEndL_is hP.2.2.2.1 i1 i2 (by first | exact Or.inl (by omega) | exact Or.inr (by assumption))
          subst e9
          first | exact k2 _ _ (by rw [pName, if_neg (tEndL_0 (by omega) hP.2.2.2.1)]) (by repeat (first | exact zag.rf | assumption | refine zag.put ?_ (by omega) (by omega) | refine zag.tr ?_ (by assumption) (by omega) (by omega))) fr21 hE20 | exact k2 _ _ (by rw [pName, if_pos (tKind_2L (by omega) hP.2.2.2.1), if_neg (by omega)]) (by repeat (first | exact zag.rf | assumption | refine zag.put ?_ (by omega) (by omega) | refine zag.tr ?_ (by assumption) (by omega) (by omega))) fr21 hE20
      · skip
        refine zr_aload0 X dX8_name_75 ?_
        refine zr_bipush (v := (-2 : Int32)) X dX8_name_76 (by decide) ?_
        refine zr_aload0 X dX8_name_78 ?_
        refine zr_getI X zf_X8_150 rfl dX8_name_79 ?_
        refine zr_eq (x2 := (I (y) 14)) ((zput_nj (by decide)).trans ((zput_nj (by decide)))) ?_
        refine zr_eq (x2 := (nI p9)) (h14) ?_
        refine zr_callV2 (rm9 := zrm_X8_report) X hnt zm_X8_138 (by decide) (by decide) (by decide) (Nat.le_of_ble_eq_true rfl) dX8_name_82 ?_
        refine zg_X8_report hP9.1 ?_; have hE22 : zEq (zput (zput (zput (zput I (y) 4 ((nI r))) (y) 15 ((nI (r - p9)))) y 5 (-2 : Int32)) y 6 (nI p9)) y ((-2 : Int32), p9) := zEq.mk (by decide); have fr23 : zfm I (zput (zput (zput (zput I (y) 4 ((nI r))) (y) 15 ((nI (r - p9)))) y 5 (-2 : Int32)) y 6 (nI p9)) y := zfm.put (zfm.put hfm9 (by decide)) (by decide)
        refine zr_aload0 X dX8_name_85 ?_
        refine zr_getI X zf_X8_153 rfl dX8_name_86 ?_
        refine zr_bipush (v := (6 : Int32)) X dX8_name_89 (by decide) ?_
        refine zr_icmp_le (tgt := 104) X dX8_name_91 (by decide) (fun h9 => ?_) (fun h9 => ?_)
        · skip
          refine zr_aload0 X dX8_name_104 ?_
          refine zr_callV0 (rm9 := zrm_X8_isGood) X hnt zm_X8_121 (by decide) (by decide) (by decide) (Nat.le_of_ble_eq_true rfl) dX8_name_105 ?_
          refine zb_X8_isGood (fun z => hE22.1.2 (hE22.1.1.symm.trans z)) ?_
          refine zr_zret X (by first | decide | assumption | (simp; done)) (by decide) (by decide) dX8_name_108 ?_
          have e9 : r = tEndL t n9 p9 := tEndL_is hP.2.2.2.1 i1 i2 (by first | exact Or.inl (by omega) | exact Or.inr (by assumption))
          subst e9
          first | exact k2 _ _ (by rw [pName, if_neg (tEndL_0 (by omega) hP.2.2.2.1)]) (by repeat (first | exact zag.rf | assumption | refine zag.put ?_ (by omega) (by omega) | refine zag.tr ?_ (by assumption) (by omega) (by omega))) fr23 hE22 | exact k2 _ _ (by rw [pName, if_pos (tKind_2L (by omega) hP.2.2.2.1), if_neg (by omega)]) (by repeat (first | exact zag.rf | assumption | refine zag.put ?_ (by omega) (by omega) | refine zag.tr ?_ (by assumption) (by omega) (by omega))) fr23 hE22
        · skip
          refine zr_aload0 X dX8_name_94 ?_
          refine zr_bipush (v := (-3 : Int32)) X dX8_name_95 (by decide) ?_
          refine zr_aload0 X dX8_name_97 ?_
          refine zr_getI X zf_X8_150 rfl dX8_name_98 ?_
          refine zr_callV2 (rm9 := zrm_X8_report) X hnt zm_X8_138 (by decide) (by decide) (by decide) (Nat.le_of_ble_eq_true rfl) dX8_name_101 ?_
          refine zb_X8_report (fun z => hE22.1.2 (hE22.1.1.symm.trans z)) ?_
          refine zr_aload0 X dX8_name_104 ?_
          refine zr_callV0 (rm9 := zrm_X8_isGood) X hnt zm_X8_121 (by decide) (by decide) (by decide) (Nat.le_of_ble_eq_true rfl) dX8_name_105 ?_
          refine zb_X8_isGood (fun z => hE22.1.2 (hE22.1.1.symm.trans z)) ?_
          refine zr_zret X (by first | decide | assumption | (simp; done)) (by decide) (by decide) dX8_name_108 ?_
          have e9 : r = tEndL t n9 p9 := tEndL_is hP.2.2.2.1 i1 i2 (by first | exact Or.inl (by omega) | exact Or.inr (by assumption))
          subst e9
          first | exact k2 _ _ (by rw [pName, if_neg (tEndL_0 (by omega) hP.2.2.2.1)]) (by repeat (first | exact zag.rf | assumption | refine zag.put ?_ (by omega) (by omega) | refine zag.tr ?_ (by assumption) (by omega) (by omega))) fr23 hE22 | exact k2 _ _ (by rw [pName, if_pos (tKind_2L (by omega) hP.2.2.2.1), if_neg (by omega)]) (by repeat (first | exact zag.rf | assumption | refine zag.put ?_ (by omega) (by omega) | refine zag.tr ?_ (by assumption) (by omega) (by omega))) fr23 hE22
set_option maxRecDepth 20000 in
theorem zg_X8_name {l : Launch} {D : va_G} {b0 : Nat} {tA : Nat → ClassId} {sa sv : Nat → Nat} {K : Nat → Option Nat} {I : zI} {Qp : zI → Option AV → Prop} {Xp : String → zI → Prop} {y n9 q9 p9 : Nat} {t : Nat → Nat}
    (hP : zPq I y t n9 q9) (hp : tSkip t n9 q9 = p9) (k1 : pName t n9 p9 = none → ∀ J : zI, zag I J y 1 → zfm I J y → zPq J y t n9 (tEnd t n9 p9) → J y 14 = nI p9 → J y 15 = nI (tEndL t n9 p9 - p9) → Qp J (some (vi 1))) (k2 : ∀ (J : zI) (e : Int32 × Nat), pName t n9 p9 = some e → zag I J y 1 → zfm I J y → zEq J y e → Qp J (some (vi 0))) :
    zC l D b0 tA sa sv K yX8_name (.code yX8_name cX8_name 1 (some .boolean)) zrm_X8_name [vr (y) 8] I Qp Xp := by
  have hn5 := hP.2.2.2.2.1
  have hqn := hP.2.2.2.1
  have hpl := tSkip_le (t := t) hP.2.2.2.1
  refine zC_of (by decide +kernel) (Nat.le_of_ble_eq_true rfl) ?_
  intro p e s m args below meth c X hnt
  have X : zX p l e zrm_X8_name s m args below meth c RX8 cX8_name 1 (some .boolean) D b0 tA sa sv := X
  refine zr_lv (lv2 := [some (vr (y) 8)]) rfl ?_
  refine zr_aload0 X dX8_name_0 ?_
  refine zr_callV0 (rm9 := zrm_X8_isGood) X hnt zm_X8_121 (by decide) (by decide) (by decide) (Nat.le_of_ble_eq_true rfl) dX8_name_1 ?_
  refine zg_X8_isGood hP.1 ?_
  refine zr_if_ne (tgt := 9) X dX8_name_4 (by decide) (fun _ => ?_) (fun h => absurd h (by decide))
  refine zr_aload0 X dX8_name_9 ?_
  refine zr_callV0 (rm9 := zrm_X8_ahead) X hnt zm_X8_125 (by decide) (by decide) (by decide) (Nat.le_of_ble_eq_true rfl) dX8_name_10 ?_
  refine zv_X8_ahead (p9 := p9) hP hp ?_
  intro J24 v9 hg25 fr26 hP27; have fr26 : zfm I J24 y := zfm.tr zfm.rf fr26; have := hP27.2.2.2.1
  refine zr_popI X dX8_name_13 ?_
  refine zr_aload0 X dX8_name_14 ?_
  refine zr_aload0 X dX8_name_15 ?_
  refine zr_getI X zf_X8_104 rfl dX8_name_16 ?_
  refine zr_eq (x2 := (nI p9)) (hP27.2.2.1) ?_
  refine zr_putI X zf_X8_150 rfl (Or.inl rfl) dX8_name_19 ?_
  refine zr_aload0 X dX8_name_22 ?_
  refine zr_iconst (v := (0 : Int32)) X dX8_name_23 (by decide) ?_
  refine zr_putI X zf_X8_153 rfl (Or.inl rfl) dX8_name_24 ?_
  have hP29 : zPq (zput (zput J24 (y) 14 ((nI p9))) (y) 15 ((0 : Int32))) y t n9 (p9) := (zPq.put (zPq.put hP27 (by decide)) (by decide))
  have fr30 : zfm I (zput (zput J24 (y) 14 ((nI p9))) (y) 15 ((0 : Int32))) y := (zfm.put (zfm.put fr26 (by decide)) (by decide))
  have hz9 : zput (zput (zput (zput J24 (y) 14 ((nI p9))) (y) 15 ((0 : Int32))) y 4 (nI p9)) y 15 (nI (p9 - p9)) = (zput (zput J24 (y) 14 ((nI p9))) (y) 15 ((0 : Int32))) := by rw [zput_id (I := (zput (zput J24 (y) 14 ((nI p9))) (y) 15 ((0 : Int32)))) (j := 4) hP29.2.2.1]; exact zput_id (by rw [Nat.sub_self]; exact zput_eq)
  refine zr_I hz9.symm ?_
  exact zl_X8_name X hnt hP29 (by first | exact zput_eq | (rw [zput_nj (by decide)]; exact zput_eq)) (fun h0 J9 h2 h3 h4 h5 h6 => k1 h0 J9 (zag.tr (show zag I (zput (zput J24 (y) 14 ((nI p9))) (y) 15 ((0 : Int32))) y 1 by repeat (first | exact zag.rf | assumption | refine zag.put ?_ (by omega) (by omega) | refine zag.tr ?_ (by assumption) (by omega) (by omega))) h2 (Nat.le_refl _) (Nat.le_refl _)) (zfm.tr fr30 h3) h4 h5 h6) (fun J9 e h1 h2 h3 h4 => k2 J9 e h1 (zag.tr (show zag I (zput (zput J24 (y) 14 ((nI p9))) (y) 15 ((0 : Int32))) y 1 by repeat (first | exact zag.rf | assumption | refine zag.put ?_ (by omega) (by omega) | refine zag.tr ?_ (by assumption) (by omega) (by omega))) h2 (Nat.le_refl _) (Nat.le_refl _)) (zfm.tr fr30 h3) h4) (n9 + 1) p9 (Nat.le_refl _) (tEndL_le hP29.2.2.2.1).1 (by omega)
abbrev zrm_X8_known : Room := { frames := 3, cells := 0, slots := 0, locals := 61 }
theorem zn_X8_max {l : Launch} {D : va_G} {b0 : Nat} {tA : Nat → ClassId} {sa sv : Nat → Nat} {K : Nat → Option Nat} {I : zI} {Qp : zI → Option AV → Prop} {Xp : String → zI → Prop} {c : Nat} (hc : c < 2 ^ 31) (k1 : Qp I (some (vi (nI c)))) :
    zC l D b0 tA sa sv K yX8_max (.code yX8_max cX8_max 2 (some .int)) zrm_X8_max [vi ((0 : Int32)), vi ((nI c))] I Qp Xp := by
  exact zp_X8_max (fun _ => k1) (fun h => absurd ((zn_i0 hc).2.2.1.mpr trivial) h)
set_option maxRecDepth 20000 in
theorem zg_X8_known {l : Launch} {D : va_G} {b0 : Nat} {tA : Nat → ClassId} {sa sv : Nat → Nat} {K : Nat → Option Nat} {I : zI} {Qp : zI → Option AV → Prop} {Xp : String → zI → Prop} {y n9 q9 p9 : Nat} {t : Nat → Nat} {S : zS}
    (hP : zPq I y t n9 q9) (hp : tSkip t n9 q9 = p9) (hM : zMd I (y + 3) S) (hW : zWf S) (k1 : ∀ (J : zI) (c : Nat), pKnown t n9 p9 S = .inr c → zag I J y 1 → zfm I J y → zPq J y t n9 (tEnd t n9 p9) → c < znc S → Qp J (some (vi (nI c)))) (k2 : ∀ (J : zI) (e : Int32 × Nat), pKnown t n9 p9 S = .inl e → zag I J y 1 → zfm I J y → zEq J y e → Qp J (some (vi 0))) :
    zC l D b0 tA sa sv K yX8_known (.code yX8_known cX8_known 2 (some .int)) zrm_X8_known [vr (y) 8] I Qp Xp := by
  have hn5 := hP.2.2.2.2.1
  have hqn := hP.2.2.2.1
  have hpl := tSkip_le (t := t) hP.2.2.2.1
  have hg6 := hW.ng.1
  have hc12 := hW.nc.1
  refine zC_of (by decide +kernel) (Nat.le_of_ble_eq_true rfl) ?_
  intro p e s m args below meth c X hnt
  have X : zX p l e zrm_X8_known s m args below meth c RX8 cX8_known 2 (some .int) D b0 tA sa sv := X
  refine zr_lv (lv2 := [some (vr (y) 8), none]) rfl ?_
  refine zr_aload0 X dX8_known_0 ?_
  refine zr_callV0 (rm9 := zrm_X8_name) X hnt zm_X8_156 (by decide) (by decide) (by decide) (Nat.le_of_ble_eq_true rfl) dX8_known_1 ?_
  refine zg_X8_name (p9 := p9) hP hp ?_ ?_
  · skip
    intro hq32 J31 hg33 fr34 hP35 h1436 h1537; have hM38 : zMd J31 (y + 3) S := zMd.ag hM hg33 (by omega); have fr34 : zfm I J31 y := zfm.tr zfm.rf fr34; obtain ⟨hk2, hL6⟩ := pName_none hq32; have hL1 := tEndL_1 hk2; have hL2 := tEndL_le (t := t) (n := n9) (p := p9) (Nat.le_of_lt (tKind_2.mp hk2).1); have := tNext_le (t := t) (Nat.le_of_lt (tKind_2.mp hk2).1); have := hP35.2.2.2.1
    refine zr_if_ne (tgt := 9) X dX8_known_4 (by decide) (fun _ => ?_) (fun h => absurd h (by decide))
    refine zr_aload0 X dX8_known_9 ?_
    refine zr_aload0 X dX8_known_10 ?_
    refine zr_getR X zf_X8_20 rfl (by decide) (by decide) dX8_known_11 ?_
    refine zr_aload0 X dX8_known_14 ?_
    refine zr_getI X zf_X8_150 rfl dX8_known_15 ?_
    refine zr_eq (x2 := (nI p9)) (h1436) ?_
    refine zr_aload0 X dX8_known_18 ?_
    refine zr_getI X zf_X8_153 rfl dX8_known_19 ?_
    refine zr_eq (x2 := (nI (tEndL t n9 p9 - p9))) (h1537) ?_
    refine zr_callV3 (rm9 := zrm_X8_called) X hnt zm_X8_159 (by decide) (by decide) (by decide) (Nat.le_of_ble_eq_true rfl) dX8_known_22 ?_
    refine zp_X8_called (t := t) (p9 := p9) (L := tEndL t n9 p9 - p9) hM38 hW (fun k hk => hP35.2.2.2.2.2.2 _ (by omega)) (by omega) (by omega) ?_ ?_
    · skip
      intro c46 hq47 hc48
      refine zr_istore1 X (by decide) rfl dX8_known_25 ?_
      refine zr_iload1 X dX8_known_26 ?_
      refine zr_iconst (v := (-1 : Int32)) X dX8_known_27 (by decide) ?_
      refine zr_icmp_ne (tgt := 41) X dX8_known_28 (by decide) (fun _ => ?_) (fun h => absurd h (zm1 (by omega)))
      refine zr_iconst (v := (0 : Int32)) X dX8_known_41 (by decide) ?_
      refine zr_iload1 X dX8_known_42 ?_
      refine zr_callS2 (rm9 := zrm_X8_max) X hnt zm_X8_162 (by decide) (by decide) (by decide) (Nat.le_of_ble_eq_true rfl) dX8_known_43 ?_
      refine zn_X8_max (by omega) ?_
      refine zr_iret X (by decide) (by decide) dX8_known_46 ?_
      exact k1 _ _ (by unfold pKnown; simp only [hq32, show pFind S (tNmF t n9 p9) = _ from hq47]) (by repeat (first | exact zag.rf | assumption | refine zag.put ?_ (by omega) (by omega) | refine zag.tr ?_ (by assumption) (by omega) (by omega))) fr34 hP35 (by omega)
    · skip
      intro hq49
      refine zr_istore1 X (by decide) rfl dX8_known_25 ?_
      refine zr_iload1 X dX8_known_26 ?_
      refine zr_iconst (v := (-1 : Int32)) X dX8_known_27 (by decide) ?_
      refine zr_icmp_ne (tgt := 41) X dX8_known_28 (by decide) (fun h => absurd h (by decide)) (fun _ => ?_)
      refine zr_aload0 X dX8_known_31 ?_
      refine zr_bipush (v := (-4 : Int32)) X dX8_known_32 (by decide) ?_
      refine zr_aload0 X dX8_known_34 ?_
      refine zr_getI X zf_X8_150 rfl dX8_known_35 ?_
      refine zr_eq (x2 := (nI p9)) (h1436) ?_
      refine zr_callV2 (rm9 := zrm_X8_report) X hnt zm_X8_138 (by decide) (by decide) (by decide) (Nat.le_of_ble_eq_true rfl) dX8_known_38 ?_
      refine zg_X8_report hP35.1 ?_; have hE50 : zEq (zput (zput J31 y 5 (-4 : Int32)) y 6 (nI p9)) y ((-4 : Int32), p9) := zEq.mk (by decide); have fr51 : zfm I (zput (zput J31 y 5 (-4 : Int32)) y 6 (nI p9)) y := zfm.put (zfm.put fr34 (by decide)) (by decide)
      refine zr_iconst (v := (0 : Int32)) X dX8_known_41 (by decide) ?_
      refine zr_iload1 X dX8_known_42 ?_
      refine zr_callS2 (rm9 := zrm_X8_max) X hnt zm_X8_162 (by decide) (by decide) (by decide) (Nat.le_of_ble_eq_true rfl) dX8_known_43 ?_
      refine zp_X8_max (fun h => absurd h (by decide)) (fun _ => ?_)
      refine zr_iret X (by decide) (by decide) dX8_known_46 ?_
      exact k2 _ _ (by unfold pKnown; simp only [hq32, show pFind S (tNmF t n9 p9) = _ from hq49]) (by repeat (first | exact zag.rf | assumption | refine zag.put ?_ (by omega) (by omega) | refine zag.tr ?_ (by assumption) (by omega) (by omega))) fr51 hE50
  · skip
    intro J39 e44 hq40 hg41 fr42 hE43; have hM45 : zMd J39 (y + 3) S := zMd.ag hM hg41 (by omega); have fr42 : zfm I J39 y := zfm.tr zfm.rf fr42
    refine zr_if_ne (tgt := 9) X dX8_known_4 (by decide) (fun h => absurd h (by decide)) (fun _ => ?_)
    refine zr_iconst (v := (0 : Int32)) X dX8_known_7 (by decide) ?_
    refine zr_iret X (by decide) (by decide) dX8_known_8 ?_
    exact k2 _ _ (by unfold pKnown; simp only [hq40]) (by repeat (first | exact zag.rf | assumption | refine zag.put ?_ (by omega) (by omega) | refine zag.tr ?_ (by assumption) (by omega) (by omega))) fr42 hE43
