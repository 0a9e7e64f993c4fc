/-! ===== the class reads a setup text ===== -/
section ZLS
variable {p : Program} {l : Launch} {e : Env} {R : Room} {s : State} {m : MethodId} {args : Array Value} {below : List Frame} {meth : Method} {c : Code} {cells slots : Nat} {Q : State → Prop}
variable {cc : ByteArray} {pc nL : Nat} {D : va_G} {b0 : Nat} {tA : Nat → ClassId} {sa sv : Nat → Nat} {K : zKt} {own : String} {ret : Option FieldType} {lv : List (Option AV)} {st : List AV} {I : zI}
theorem zr_ldcS (X : zX p l e R s m args below meth c own cc nL ret D b0 tA sa sv) {index : Nat} {tx : String} (i : Nat) (hq : zST[i]? = some (own, index, tx)) (hi9 : i < 36) (hd : decode cc pc = .ok (.ldc index, 2)) (k : zG p l e R s m args below meth c nL D b0 tA sa cells slots Q K (pc + 2) lv (vr (sa i) (24 + i) :: st) I) : zG p l e R s m args below meth c nL D b0 tA sa cells slots Q K pc lv st I := by
  intro hi hs hl ls hls H locs hP hS
  have ho : zok sa K (vr (sa i) (24 + i)) := Or.inr ⟨by show 24 ≤ 24 + i; omega, by show 24 + i < 84; omega, by show sa i = sa (24 + i - 24); congr 1; omega⟩
  exact va_ldcS X.1 X.2.1 X.2.2.2.1 (X.2.2.2.2.2.2.1.2.2.2.2.2.2.1 i _ hq) hd (k hi ⟨ho, hs⟩ hl ls hls H locs hP hS)
end ZLS
theorem zmost {hi : Nat} {x : Int32} (h : x = nI hi - 1) (hh : hi ≤ 1001) : ∀ v, v ≤ 1000 → (x < nI v ↔ hi ≤ v) := by
  intro v hv
  subst h
  rcases hi with _ | k
  · rw [Int32.lt_iff_toInt_lt, nI_toInt (by omega)]
    have : (nI 0 - 1 : Int32).toInt = -1 := by decide
    omega
  · rw [show nI (k + 1) - 1 = nI k from pk_sub (a := k + 1) (b := 1) (by omega), nI_ltI (by omega) (by omega)]; omega
theorem zEr.mk {J : zI} {x f : Nat} {t : Nat → Nat} {c : Int32} {o : Nat} (hB : zBy J (x + 1) t f) : zEr (zput (zput J (x + 3) 0 c) (x + 3) 1 (nI o)) x t f (c, o) :=
  ⟨hB.ag (lo := x + 3) (n := 1) ((zag.rf.put (by omega) (by omega)).put (by omega) (by omega)) (by omega), by rw [zput_nj (by decide), zput_eq], zput_eq⟩
theorem zfr.er {I J : zI} {x : Nat} {c : Int32} {o : Nat} (h : zfr I J x) : zfr I (zput (zput J (x + 3) 0 c) (x + 3) 1 (nI o)) x := h.ag (lo := x + 3) (n := 1) ((zag.rf.put (by omega) (by omega)).put (by omega) (by omega)) (by omega)
abbrev zrm_X6_fail : Room := { frames := 0, cells := 0, slots := 0, locals := 0 }
set_option maxRecDepth 20000 in
theorem zp_X6_fail {l : Launch} {D : va_G} {b0 : Nat} {tA : Nat → ClassId} {sa sv : Nat → Nat} {K : zKt} {I : zI} {Qp : zI → Option AV → Prop} {Xp : String → zI → Prop} {a : Nat} {x1 : Int32} {x2 : Int32} 
    (h_1 : Qp (zput (zput I (a) 0 (x1)) (a) 1 (x2)) (some (vi ((0 : Int32))))) :
    zC l D b0 tA sa sv K yX6_fail (.code yX6_fail cX6_fail 3 (some .boolean)) zrm_X6_fail [vr (a) 6, vi (x1), vi (x2)] I Qp Xp := by
  refine zC_of (by decide +kernel) (Nat.le_of_ble_eq_true rfl) ?_
  intro p e s m args below meth c X hnt
  have X : zX p l e zrm_X6_fail s m args below meth c RX6 cX6_fail 3 (some .boolean) D b0 tA sa sv := X
  refine zr_lv (lv2 := [some (vr (a) 6), some (vi (x1)), some (vi (x2))]) rfl ?_
  refine zr_aload0 X dX6_fail_0 ?_
  refine zr_iload1 X dX6_fail_1 ?_
  refine zr_putI X zf_X6_169 rfl (Or.inl rfl) dX6_fail_2 ?_
  refine zr_aload0 X dX6_fail_5 ?_
  refine zr_iload2 X dX6_fail_6 ?_
  refine zr_putI X zf_X6_172 rfl (Or.inl rfl) dX6_fail_7 ?_
  refine zr_iconst (v := (0 : Int32)) X dX6_fail_10 (by decide) ?_
  refine zr_zret X (by first | decide | assumption | (simp; done)) (by decide) (by decide) dX6_fail_11 ?_
  exact h_1 
abbrev zrm_X6_isNameNext : Room := { frames := 1, cells := 0, slots := 0, locals := 22 }
set_option maxRecDepth 20000 in
theorem zp_X6_isNameNext {l : Launch} {D : va_G} {b0 : Nat} {tA : Nat → ClassId} {sa sv : Nat → Nat} {K : zKt} {I : zI} {Qp : zI → Option AV → Prop} {Xp : String → zI → Prop} {x f n9 p9 : Nat} {t : Nat → Nat} {S : zS}
    (hS : zPs I x t f n9 p9 S) (k1 : pName t n9 p9 = none → Qp I (some (vi 1))) (k2 : ∀ (J : zI) (er : Int32 × Nat), pName t n9 p9 = some er → zfr I J x → zEr J x t f er → Qp J (some (vi 0))) :
    zC l D b0 tA sa sv K yX6_isNameNext (.code yX6_isNameNext cX6_isNameNext 2 (some .boolean)) zrm_X6_isNameNext [vr (x + 3) 6, vr (x + 1) 3] I Qp Xp := by
  obtain ⟨hB, hn, hT, hR, hW⟩ := hS
  have hf5 := hB.2.1
  have hpn := hT.1
  have hk4 := tKind_le (t := t) (n := n9) (p := p9)
  have hl4 := tEndL_le (t := t) hT.1
  have hg6 := hW.ng.1
  have hc12 := hW.nc.1
  refine zC_of (by decide +kernel) (Nat.le_of_ble_eq_true rfl) ?_
  intro p e s m args below meth c X hnt
  have X : zX p l e zrm_X6_isNameNext s m args below meth c RX6 cX6_isNameNext 2 (some .boolean) D b0 tA sa sv := X
  refine zr_lv (lv2 := [some (vr (x + 3) 6), some (vr (x + 1) 3)]) rfl ?_
  refine zr_aload1 X dX6_isNameNext_0 ?_
  refine zr_getI X zf_X6_15 rfl dX6_isNameNext_1 ?_
  refine zr_eq (x2 := (nI (tKind t n9 p9))) (hT.2.2.2.1) ?_
  refine zr_iconst (v := (2 : Int32)) X dX6_isNameNext_4 (by decide) ?_
  refine zr_nicmp_eq X ((tKind t n9 p9)) (2) (tgt := 19) (by omega) (by omega) dX6_isNameNext_5 (by decide) (fun h1 => ?_) (fun h1 => ?_)
  · skip
    refine zr_aload1 X dX6_isNameNext_19 ?_
    refine zr_getI X zf_X6_166 rfl dX6_isNameNext_20 ?_
    refine zr_eq (x2 := (nI (tEndL t n9 p9 - p9))) ((hT.2.2.2.2.2.2 (by assumption)).1) ?_
    refine zr_bipush (v := (6 : Int32)) X dX6_isNameNext_23 (by decide) ?_
    refine zr_nicmp_le X ((tEndL t n9 p9 - p9)) (6) (tgt := 39) (by omega) (by omega) dX6_isNameNext_25 (by decide) (fun h2 => ?_) (fun h2 => ?_)
    · skip
      refine zr_iconst (v := (1 : Int32)) X dX6_isNameNext_39 (by decide) ?_
      refine zr_zret X (by first | decide | assumption | (simp; done)) (by decide) (by decide) dX6_isNameNext_40 ?_
      exact k1 (by simp [pName, h1, h2])
    · skip
      refine zr_aload0 X dX6_isNameNext_28 ?_
      refine zr_bipush (v := (-3 : Int32)) X dX6_isNameNext_29 (by decide) ?_
      refine zr_aload1 X dX6_isNameNext_31 ?_
      refine zr_getI X zf_X6_55 rfl dX6_isNameNext_32 ?_
      refine zr_eq (x2 := (nI p9)) (hT.2.2.1) ?_
      refine zr_callV2 (rm9 := zrm_X6_fail) X hnt zm_X6_58 (by decide) (by decide) (by decide) (Nat.le_of_ble_eq_true rfl) dX6_isNameNext_35 ?_
      refine zp_X6_fail ?_
      refine zr_zret X (by first | decide | assumption | (simp; done)) (by decide) (by decide) dX6_isNameNext_38 ?_
      exact k2 _ _ (by simp [pName, h1, h2]) (zfr.er zfr.rf) (zEr.mk hB)
  · skip
    refine zr_aload0 X dX6_isNameNext_8 ?_
    refine zr_bipush (v := (-2 : Int32)) X dX6_isNameNext_9 (by decide) ?_
    refine zr_aload1 X dX6_isNameNext_11 ?_
    refine zr_getI X zf_X6_55 rfl dX6_isNameNext_12 ?_
    refine zr_eq (x2 := (nI p9)) (hT.2.2.1) ?_
    refine zr_callV2 (rm9 := zrm_X6_fail) X hnt zm_X6_58 (by decide) (by decide) (by decide) (Nat.le_of_ble_eq_true rfl) dX6_isNameNext_15 ?_
    refine zp_X6_fail ?_
    refine zr_zret X (by first | decide | assumption | (simp; done)) (by decide) (by decide) dX6_isNameNext_18 ?_
    exact k2 _ _ (by simp [pName, h1]) (zfr.er zfr.rf) (zEr.mk hB)
theorem pName_none {t : Nat → Nat} {n p : Nat} (h : pName t n p = none) : tKind t n p = 2 ∧ tEndL t n p - p ≤ 6 := by
  unfold pName at h
  split at h
  · split at h
    · exact ⟨by assumption, by assumption⟩
    · cases h
  · cases h
theorem zn_X5_cardNamed {l : Launch} {D : va_G} {b0 : Nat} {tA : Nat → ClassId} {sa sv : Nat → Nat} {K : zKt} {I : zI} {Qp : zI → Option AV → Prop} {Xp : String → zI → Prop} {a n9 p9 : Nat} {t : Nat → Nat} {S : zS} (hR : zRw I a S) (hW : zWf S) (hk : tKind t n9 p9 = 2) (h6 : tEndL t n9 p9 - p9 ≤ 6) (k1 : ∀ c, pFind S (tNmF t n9 p9) = some c → c < znc S → Qp I (some (vi (nI c)))) (k2 : pFind S (tNmF t n9 p9) = none → Qp I (some (vi (-1)))) :
    zC l D b0 tA sa sv K yX5_cardNamed (.code yX5_cardNamed cX5_cardNamed 3 (some .int)) zrm_X5_cardNamed [vr (a) 5, vi (tNm t p9 (tEndL t n9 p9 - p9))] I Qp Xp := by
  have h1 := tEndL_1 hk
  have hl : ∀ i, i < tEndL t n9 p9 - p9 → tLet (t (p9 + i)) = true := fun i hi => tLet_run (n := n9) hi
  refine zp_X5_cardNamed hR hW (fun c hc e hf => k1 c (pFind_is hc ((znm_iff hW hc h1 h6 hl).mp e) (fun i hi z => hf i hi ((znm_iff hW (Nat.lt_trans hi hc) h1 h6 hl).mpr z))) hc) (fun hf => k2 ?_)
  cases e : pFind S (tNmF t n9 p9) with
  | none => rfl
  | some c =>
    obtain ⟨c1, c2⟩ := pFind_some e
    exact absurd ((znm_iff hW c1 h1 h6 hl).mpr c2) (hf c c1)
abbrev zrm_X6_takeSemicolon : Room := { frames := 3, cells := 0, slots := 0, locals := 65 }
set_option maxRecDepth 20000 in
theorem zp_X6_takeSemicolon {l : Launch} {D : va_G} {b0 : Nat} {tA : Nat → ClassId} {sa sv : Nat → Nat} {K : zKt} {I : zI} {Qp : zI → Option AV → Prop} {Xp : String → zI → Prop} {x f n9 p9 : Nat} {t : Nat → Nat} {S : zS}
    (hS : zPs I x t f n9 p9 S) (k1 : ∀ (J : zI) (p2 : Nat) (S2 : zS), pSemi t n9 p9 S = .inr (p2, S2) → zfr I J x → zPs J x t f n9 p2 S2 → Qp J (some (vi 1))) (k2 : ∀ (J : zI) (er : Int32 × Nat), pSemi t n9 p9 S = .inl er → zfr I J x → zEr J x t f er → Qp J (some (vi 0))) :
    zC l D b0 tA sa sv K yX6_takeSemicolon (.code yX6_takeSemicolon cX6_takeSemicolon 2 (some .boolean)) zrm_X6_takeSemicolon [vr (x + 3) 6, vr (x + 1) 3] I Qp Xp := by
  obtain ⟨hB, hn, hT, hR, hW⟩ := hS
  have hf5 := hB.2.1
  have hpn := hT.1
  have hk4 := tKind_le (t := t) (n := n9) (p := p9)
  have hl4 := tEndL_le (t := t) hT.1
  have hg6 := hW.ng.1
  have hc12 := hW.nc.1
  refine zC_of (by decide +kernel) (Nat.le_of_ble_eq_true rfl) ?_
  intro p e s m args below meth c X hnt
  have X : zX p l e zrm_X6_takeSemicolon s m args below meth c RX6 cX6_takeSemicolon 2 (some .boolean) D b0 tA sa sv := X
  refine zr_lv (lv2 := [some (vr (x + 3) 6), some (vr (x + 1) 3)]) rfl ?_
  refine zr_aload1 X dX6_takeSemicolon_0 ?_
  refine zr_getI X zf_X6_15 rfl dX6_takeSemicolon_1 ?_
  refine zr_eq (x2 := (nI (tKind t n9 p9))) (hT.2.2.2.1) ?_
  refine zr_iconst (v := (3 : Int32)) X dX6_takeSemicolon_4 (by decide) ?_
  refine zr_nicmp_eq X ((tKind t n9 p9)) (3) (tgt := 19) (by omega) (by omega) dX6_takeSemicolon_5 (by decide) (fun h1 => ?_) (fun h1 => ?_)
  · skip
    refine zr_aload1 X dX6_takeSemicolon_19 ?_
    refine zr_callV0 (rm9 := zrm_X3_advance) X hnt zm_X6_68 (by decide) (by decide) (by decide) (Nat.le_of_ble_eq_true rfl) dX6_takeSemicolon_20 ?_
    refine zp_X3_advance (a := x + 1) (t := t) (f := f) (n9 := n9) (p9 := tEnd t n9 p9) hB hn hT.2.1 hT.2.2.2.2.1 (tEnd_le hT.1).1 ?_
    intro J1 hg2 hB3 hT4; have hT4 : zTok J1 (x + 1) t n9 (tNext t n9 p9) := hT4; have hR5 := hR.ag hg2 (by omega); have fr6 : zfr I J1 x := zfr.ag zfr.rf hg2 (by omega); have hk4_J1 := tKind_le (t := t) (n := n9) (p := (tNext t n9 p9)); have hl4_J1 := tEndL_le (t := t) hT4.1; have hpn_J1 := hT4.1
    refine zr_iconst (v := (1 : Int32)) X dX6_takeSemicolon_23 (by decide) ?_
    refine zr_zret X (by first | decide | assumption | (simp; done)) (by decide) (by decide) dX6_takeSemicolon_24 ?_
    exact k1 _ _ _ (by simp [pSemi, h1]) fr6 ⟨hB3, hn, hT4, hR5, hW⟩
  · skip
    refine zr_aload0 X dX6_takeSemicolon_8 ?_
    refine zr_bipush (v := (-2 : Int32)) X dX6_takeSemicolon_9 (by decide) ?_
    refine zr_aload1 X dX6_takeSemicolon_11 ?_
    refine zr_getI X zf_X6_55 rfl dX6_takeSemicolon_12 ?_
    refine zr_eq (x2 := (nI p9)) (hT.2.2.1) ?_
    refine zr_callV2 (rm9 := zrm_X6_fail) X hnt zm_X6_58 (by decide) (by decide) (by decide) (Nat.le_of_ble_eq_true rfl) dX6_takeSemicolon_15 ?_
    refine zp_X6_fail ?_
    refine zr_zret X (by first | decide | assumption | (simp; done)) (by decide) (by decide) dX6_takeSemicolon_18 ?_
    exact k2 _ _ (by simp [pSemi, h1]) (zfr.er zfr.rf) (zEr.mk hB)
abbrev zrm_X6_takeNumber : Room := { frames := 3, cells := 0, slots := 0, locals := 65 }
set_option maxRecDepth 20000 in
theorem zp_X6_takeNumber {l : Launch} {D : va_G} {b0 : Nat} {tA : Nat → ClassId} {sa sv : Nat → Nat} {K : zKt} {I : zI} {Qp : zI → Option AV → Prop} {Xp : String → zI → Prop} {x f n9 p9 : Nat} {t : Nat → Nat} {S : zS} {lo hi : Nat} {x4 : Int32}
    (hS : zPs I x t f n9 p9 S) (hm : ∀ v, v ≤ 1000 → (x4 < nI v ↔ hi ≤ v)) (hlo : lo ≤ 1000) (hhi : hi ≤ 1000) (k1 : ∀ (J : zI) (v : Nat), pNum t n9 p9 lo hi = .inr v → zfr I J x → zPs J x t f n9 (tNext t n9 p9) S → Qp J (some (vi (nI v)))) (k2 : ∀ (J : zI) (er : Int32 × Nat), pNum t n9 p9 lo hi = .inl er → zfr I J x → zEr J x t f er → Qp J (some (vi (-1)))) :
    zC l D b0 tA sa sv K yX6_takeNumber (.code yX6_takeNumber cX6_takeNumber 5 (some .int)) zrm_X6_takeNumber [vr (x + 3) 6, vr (x + 1) 3, vi ((nI lo)), vi (x4)] I Qp Xp := by
  obtain ⟨hB, hn, hT, hR, hW⟩ := hS
  have hf5 := hB.2.1
  have hpn := hT.1
  have hk4 := tKind_le (t := t) (n := n9) (p := p9)
  have hl4 := tEndL_le (t := t) hT.1
  have hg6 := hW.ng.1
  have hc12 := hW.nc.1
  refine zC_of (by decide +kernel) (Nat.le_of_ble_eq_true rfl) ?_
  intro p e s m args below meth c X hnt
  have X : zX p l e zrm_X6_takeNumber s m args below meth c RX6 cX6_takeNumber 5 (some .int) D b0 tA sa sv := X
  refine zr_lv (lv2 := [some (vr (x + 3) 6), some (vr (x + 1) 3), some (vi ((nI lo))), some (vi (x4)), none]) rfl ?_
  refine zr_aload1 X dX6_takeNumber_0 ?_
  refine zr_getI X zf_X6_15 rfl dX6_takeNumber_1 ?_
  refine zr_eq (x2 := (nI (tKind t n9 p9))) (hT.2.2.2.1) ?_
  refine zr_iconst (v := (1 : Int32)) X dX6_takeNumber_4 (by decide) ?_
  refine zr_nicmp_eq X ((tKind t n9 p9)) (1) (tgt := 21) (by omega) (by omega) dX6_takeNumber_5 (by decide) (fun h1 => ?_) (fun h1 => ?_)
  · skip
    refine zr_aload1 X dX6_takeNumber_21 ?_
    refine zr_getI X zf_X6_163 rfl dX6_takeNumber_22 ?_
    refine zr_eq (x2 := (nI (min (tVal t p9 (tEndD t n9 p9 - p9)) 1000))) (hT.2.2.2.2.2.1 (by assumption)) ?_
    refine zr_istore4 X (by decide) rfl dX6_takeNumber_25 ?_
    refine zr_iload4 X dX6_takeNumber_27 ?_
    refine zr_iload2 X dX6_takeNumber_29 ?_
    refine zr_nicmp_lt X ((min (tVal t p9 (tEndD t n9 p9 - p9)) 1000)) (lo) (tgt := 39) (by omega) (by omega) dX6_takeNumber_30 (by decide) (fun h2 => ?_) (fun h2 => ?_)
    · skip
      refine zr_aload0 X dX6_takeNumber_39 ?_
      refine zr_bipush (v := (-3 : Int32)) X dX6_takeNumber_40 (by decide) ?_
      refine zr_aload1 X dX6_takeNumber_42 ?_
      refine zr_getI X zf_X6_55 rfl dX6_takeNumber_43 ?_
      refine zr_eq (x2 := (nI p9)) (hT.2.2.1) ?_
      refine zr_callV2 (rm9 := zrm_X6_fail) X hnt zm_X6_58 (by decide) (by decide) (by decide) (Nat.le_of_ble_eq_true rfl) dX6_takeNumber_46 ?_
      refine zp_X6_fail ?_
      refine zr_popI X dX6_takeNumber_49 ?_
      refine zr_iconst (v := (-1 : Int32)) X dX6_takeNumber_50 (by decide) ?_
      refine zr_iret X (by decide) (by decide) dX6_takeNumber_51 ?_
      exact k2 _ _ (by rw [pNum]; first | (rw [if_neg (by assumption)]; done) | (rw [if_pos (by assumption), if_neg (fun z => by first | omega | (have := (hm _ (Nat.min_le_right _ _)).mp (Int32.not_le.mp (by assumption)); omega))])) (zfr.er zfr.rf) (zEr.mk hB)
    · skip
      refine zr_iload4 X dX6_takeNumber_33 ?_
      refine zr_iload3 X dX6_takeNumber_35 ?_
      refine zr_icmp_le (tgt := 52) X dX6_takeNumber_36 (by decide) (fun h3 => ?_) (fun h3 => ?_)
      · skip
        refine zr_aload1 X dX6_takeNumber_52 ?_
        refine zr_callV0 (rm9 := zrm_X3_advance) X hnt zm_X6_68 (by decide) (by decide) (by decide) (Nat.le_of_ble_eq_true rfl) dX6_takeNumber_53 ?_
        refine zp_X3_advance (a := x + 1) (t := t) (f := f) (n9 := n9) (p9 := tEnd t n9 p9) hB hn hT.2.1 hT.2.2.2.2.1 (tEnd_le hT.1).1 ?_
        intro J7 hg8 hB9 hT10; have hT10 : zTok J7 (x + 1) t n9 (tNext t n9 p9) := hT10; have hR11 := hR.ag hg8 (by omega); have fr12 : zfr I J7 x := zfr.ag zfr.rf hg8 (by omega); have hk4_J7 := tKind_le (t := t) (n := n9) (p := (tNext t n9 p9)); have hl4_J7 := tEndL_le (t := t) hT10.1; have hpn_J7 := hT10.1
        refine zr_iload4 X dX6_takeNumber_56 ?_
        refine zr_iret X (by decide) (by decide) dX6_takeNumber_58 ?_
        have hV : lo ≤ tVal t p9 (tEndD t n9 p9 - p9) ∧ tVal t p9 (tEndD t n9 p9 - p9) < hi := by
          have hx : ¬ hi ≤ min (tVal t p9 (tEndD t n9 p9 - p9)) 1000 := fun z => absurd ((hm _ (by omega)).mpr z) (by first | assumption | (rw [Int32.not_lt]; assumption))
          omega
        rw [show min (tVal t p9 (tEndD t n9 p9 - p9)) 1000 = tVal t p9 (tEndD t n9 p9 - p9) by omega]
        exact k1 _ _ (by rw [pNum, if_pos (by assumption), if_pos hV]) fr12 ⟨hB9, hn, hT10, hR11, hW⟩
      · skip
        refine zr_aload0 X dX6_takeNumber_39 ?_
        refine zr_bipush (v := (-3 : Int32)) X dX6_takeNumber_40 (by decide) ?_
        refine zr_aload1 X dX6_takeNumber_42 ?_
        refine zr_getI X zf_X6_55 rfl dX6_takeNumber_43 ?_
        refine zr_eq (x2 := (nI p9)) (hT.2.2.1) ?_
        refine zr_callV2 (rm9 := zrm_X6_fail) X hnt zm_X6_58 (by decide) (by decide) (by decide) (Nat.le_of_ble_eq_true rfl) dX6_takeNumber_46 ?_
        refine zp_X6_fail ?_
        refine zr_popI X dX6_takeNumber_49 ?_
        refine zr_iconst (v := (-1 : Int32)) X dX6_takeNumber_50 (by decide) ?_
        refine zr_iret X (by decide) (by decide) dX6_takeNumber_51 ?_
        exact k2 _ _ (by rw [pNum]; first | (rw [if_neg (by assumption)]; done) | (rw [if_pos (by assumption), if_neg (fun z => by first | omega | (have := (hm _ (Nat.min_le_right _ _)).mp (Int32.not_le.mp (by assumption)); omega))])) (zfr.er zfr.rf) (zEr.mk hB)
  · skip
    refine zr_aload0 X dX6_takeNumber_8 ?_
    refine zr_bipush (v := (-2 : Int32)) X dX6_takeNumber_9 (by decide) ?_
    refine zr_aload1 X dX6_takeNumber_11 ?_
    refine zr_getI X zf_X6_55 rfl dX6_takeNumber_12 ?_
    refine zr_eq (x2 := (nI p9)) (hT.2.2.1) ?_
    refine zr_callV2 (rm9 := zrm_X6_fail) X hnt zm_X6_58 (by decide) (by decide) (by decide) (Nat.le_of_ble_eq_true rfl) dX6_takeNumber_15 ?_
    refine zp_X6_fail ?_
    refine zr_popI X dX6_takeNumber_18 ?_
    refine zr_iconst (v := (-1 : Int32)) X dX6_takeNumber_19 (by decide) ?_
    refine zr_iret X (by decide) (by decide) dX6_takeNumber_20 ?_
    exact k2 _ _ (by rw [pNum]; first | (rw [if_neg (by assumption)]; done) | (rw [if_pos (by assumption), if_neg (fun z => by first | omega | (have := (hm _ (Nat.min_le_right _ _)).mp (Int32.not_le.mp (by assumption)); omega))])) (zfr.er zfr.rf) (zEr.mk hB)
