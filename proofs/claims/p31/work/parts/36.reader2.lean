/-! ===== the class reads statements ===== -/
theorem qWhy_0 {S : zS} {g s w : Nat} (h : qWhy S g s w = 0) : qSv (sG S g 0) s ∧ (sL S g s).length ≠ 10 ∧ (w ≠ 0 → qPos S (w - 1) = none) := by
  unfold qWhy at h
  split at h
  · cases h
  · rename_i h1
    split at h
    · cases h
    · rename_i h2
      split at h
      · cases h
      · rename_i h3
        refine ⟨Decidable.not_not.mp h1, h2, fun hw => ?_⟩
        cases e : qPos S (w - 1) with
        | none => rfl
        | some i => exact absurd ⟨hw, by rw [e]; exact Option.some_ne_none _⟩ h3
theorem zWf_join {S : zS} {g s w : Nat} (h : zWf S) (hg : g < zng S) (hw : w ≤ znc S) (h0 : qWhy S g s w = 0) : zWf (tL S g s (sL S g s ++ [w])) := by
  obtain ⟨h1, h2, h3⟩ := qWhy_0 h0
  have hl := h.len g s
  refine zWf_mk (zWa_add h.a hg hw (by omega) (fun hn c g' s' p e z => ?_)) (fun k => ?_) (fun z k => h.pan z k)
  · have := h3 hn
    rw [show w - 1 = c by omega] at this
    exact qPos_none h this g' s' p z
  · obtain ⟨p1, p2, p3⟩ := h.pad k
    have hne : ∀ a, sL S k a ≠ [] → sL (tL S g s (sL S g s ++ [w])) k a ≠ [] := fun a ha => by
      rw [tL_L]
      split
      · exact List.append_ne_nil_of_right_ne_nil _ (by simp)
      · exact ha
    refine ⟨p1, p2, ?_⟩
    rcases p3 with p3 | ⟨o, o1, o2, o3, ⟨q1, q2⟩ | ⟨q1, q2⟩⟩
    · exact Or.inl p3
    · refine Or.inr ⟨o, o1, o2, o3, Or.inl ⟨q1, ?_⟩⟩
      rcases q2 with q2 | ⟨q2, q3⟩
      · exact Or.inl q2
      · exact Or.inr ⟨q2, hne 0 q3⟩
    · refine Or.inr ⟨o, o1, o2, o3, Or.inr ⟨q1, ?_⟩⟩
      rcases q2 with q2 | ⟨q2, q3⟩
      · exact Or.inl q2
      · exact Or.inr ⟨q2, hne 1 q3⟩
theorem zWf_list {S : zS} {c : Nat} {v : Int32} (h : zWf S) (hc : c < znc S) (hv : v = 0 ∨ v = 1) : zWf (tC S c 2 v) :=
  zWf_mk (zWa_tC h.a hc (Or.inr hv)) (fun k => zPad_of (h.pad k) rfl (Or.inr rfl)) (fun z k => h.pan z k)
theorem zWf_hf {S : zS} {a b : Nat} (h : zWf S) (ha : 1 ≤ a ∧ a ≤ 9) (hb : 1 ≤ b ∧ b ≤ 4) : zWf (tX (tX S 0 (nI a)) 1 (nI b)) := by
  obtain ⟨h1, h2, h3, h4, h5, hh, h7, h8⟩ := h.a
  have eX : ∀ i, i ≠ 0 → i ≠ 1 → sX (tX (tX S 0 (nI a)) 1 (nI b)) i = sX S i := fun i h0 h1 => by rw [tX_X, if_neg h1, tX_X, if_neg h0]
  have e1 : zng (tX (tX S 0 (nI a)) 1 (nI b)) = zng S := by unfold zng; rw [eX 4 (by omega) (by omega)]
  have e2 : znc (tX (tX S 0 (nI a)) 1 (nI b)) = znc S := by unfold znc; rw [eX 5 (by omega) (by omega)]
  refine zWf_mk ?_ (fun g => zPad_of (h.pad g) rfl (Or.inr rfl)) (fun z g => ?_)
  · unfold zWa
    rw [e1, e2, eX 4 (by omega) (by omega), eX 5 (by omega) (by omega), eX 6 (by omega) (by omega), eX 7 (by omega) (by omega), eX 8 (by omega) (by omega)]
    exact ⟨h1, h2, h3, h4, h5, ⟨⟨a, ha.1, ha.2, by rw [tX_X, if_neg (by omega), tX_X, if_pos rfl]⟩, ⟨b, hb.1, hb.2, by rw [tX_X, if_pos rfl]⟩⟩, h7, h8⟩
  · refine h.pan ?_ g
    unfold zPan at z ⊢
    rw [eX 6 (by omega) (by omega), eX 7 (by omega) (by omega), eX 8 (by omega) (by omega)] at z
    exact z
theorem zn_X5_canTakeGate {l : Launch} {D : va_G} {b0 : Nat} {tA : Nat → ClassId} {sa sv : Nat → Nat} {K : zKt} {I : zI} {Qp : zI → Option AV → Prop} {Xp : String → zI → Prop} {a : Nat} {S : zS} (hR : zRw I a S) (hW : zWf S) (k1 : zng S < 6 → Qp I (some (vi 1))) (k2 : zng S = 6 → Qp I (some (vi 0))) :
    zC l D b0 tA sa sv K yX5_canTakeGate (.code yX5_canTakeGate cX5_canTakeGate 1 (some .boolean)) zrm_X5_canTakeGate [vr (a) 5] I Qp Xp := by
  have e2 := hR.ng hW
  have h6 := hW.ng.1
  refine zp_X5_canTakeGate (fun h => ?_) (fun _ h => k2 ?_) (fun _ h => k1 ?_)
  · rw [e2] at h; exact absurd h (nI_pos (by omega))
  · rw [e2] at h; have := (nI_leI (a := 6) (by decide) (by omega)).mp h; omega
  · rw [e2] at h; have h9 : ¬ 6 ≤ zng S := fun q => h ((nI_leI (a := 6) (by decide) (by omega)).mpr q); omega
theorem zn_X5_canTakeCard {l : Launch} {D : va_G} {b0 : Nat} {tA : Nat → ClassId} {sa sv : Nat → Nat} {K : zKt} {I : zI} {Qp : zI → Option AV → Prop} {Xp : String → zI → Prop} {a : Nat} {S : zS} (hR : zRw I a S) (hW : zWf S) (k1 : znc S < 12 → Qp I (some (vi 1))) (k2 : znc S = 12 → Qp I (some (vi 0))) :
    zC l D b0 tA sa sv K yX5_canTakeCard (.code yX5_canTakeCard cX5_canTakeCard 1 (some .boolean)) zrm_X5_canTakeCard [vr (a) 5] I Qp Xp := by
  have e2 := hR.nc hW
  have h6 := hW.nc.1
  refine zp_X5_canTakeCard (fun h => ?_) (fun _ h => k2 ?_) (fun _ h => k1 ?_)
  · rw [e2] at h; exact absurd h (nI_pos (by omega))
  · rw [e2] at h; have := (nI_leI (a := 12) (by decide) (by omega)).mp h; omega
  · rw [e2] at h; have h9 : ¬ 12 ≤ znc S := fun q => h ((nI_leI (a := 12) (by decide) (by omega)).mpr q); omega
theorem zn_addLast {l : Launch} {D : va_G} {b0 : Nat} {tA : Nat → ClassId} {sa sv : Nat → Nat} {K : zKt} {I : zI} {Qp : zI → Option AV → Prop} {Xp : String → zI → Prop} {a g s9 w : Nat} {x9 : Int32} {S : zS} {a9 : Nat} (hR : zRw I a S) (hg : g < 6) (hs : (s9 = 0 ∧ a9 = a + 1 + 2 + 5 * g + 1) ∨ (s9 = 1 ∧ a9 = a + 1 + 2 + 5 * g + 3)) (hl : (sL S g s9).length < 10) (hx : nI w - 1 = x9) (k1 : ∀ I' : zI, zag I I' a 45 → zRw I' a (tL S g s9 (sL S g s9 ++ [w])) → Qp I' none) :
    zC l D b0 tA sa sv K yX4_addLast (.code yX4_addLast cX4_addLast 2 none) zrm_X4_addLast [vr (a9) 4, vi (x9)] I Qp Xp := by
  subst hx
  have hL : zLn I a9 (sL S g s9) := by
    rcases hs with ⟨rfl, rfl⟩ | ⟨rfl, rfl⟩
    · exact (hR.2.2.1 g hg).2.1
    · exact (hR.2.2.1 g hg).2.2
  exact zq_X4_addLast hL hl (fun I' hg9 hn => k1 I' (hg9.wide (by omega) (by omega)) (zRw_L hR hg hs hg9 hn))
theorem zname_F {t : Nat → Nat} {n9 p9 : Nat} (h : tEndL t n9 p9 - p9 ≤ 6) : znm (tNmF t n9 p9) 6 = tNm t p9 (tEndL t n9 p9 - p9) := by
  have := znm_F (t := t) (p := p9) (L := tEndL t n9 p9 - p9) (fun i hi => tLet_run (n := n9) hi) 6
  rw [show min 6 (tEndL t n9 p9 - p9) = tEndL t n9 p9 - p9 by omega] at this
  exact this
theorem tNmF_ok {t : Nat → Nat} {n9 p9 : Nat} (hk : tKind t n9 p9 = 2) (h : tEndL t n9 p9 - p9 ≤ 6) : ∃ n : Nat, 1 ≤ n ∧ n ≤ 6 ∧ ∀ k : Nat, (k < n → 97 ≤ tNmF t n9 p9 k ∧ tNmF t n9 p9 k ≤ 122) ∧ (n ≤ k → tNmF t n9 p9 k = 0) := by
  refine ⟨tEndL t n9 p9 - p9, tEndL_1 hk, h, fun k => ⟨fun hk => ?_, fun hk => ?_⟩⟩
  · have h1 := tLet_iff.mp (tLet_run (t := t) (n := n9) hk)
    unfold tNmF
    rw [if_pos hk]
    exact ⟨(nI_leI (a := 97) (by decide) (by omega)).mpr h1.1, (nI_leI (b := 122) (by omega) (by decide)).mpr h1.2⟩
  · unfold tNmF; rw [if_neg (by omega)]
theorem zn_X5_addCard {l : Launch} {D : va_G} {b0 : Nat} {tA : Nat → ClassId} {sa sv : Nat → Nat} {K : zKt} {I : zI} {Qp : zI → Option AV → Prop} {Xp : String → zI → Prop} {a n9 p9 : Nat} {v : Int32} {t : Nat → Nat} {S : zS} (hR : zRw I a S) (hW : zWf S) (h12 : znc S < 12) (h6 : tEndL t n9 p9 - p9 ≤ 6) (k1 : ∀ I' : zI, zag I I' a 45 → zRw I' a (qAddCard S (tNmF t n9 p9) v) → Qp I' none) :
    zC l D b0 tA sa sv K yX5_addCard (.code yX5_addCard cX5_addCard 3 none) zrm_X5_addCard [vr (a) 5, vi (tNm t p9 (tEndL t n9 p9 - p9)), vi (v)] I Qp Xp := by
  rw [← zname_F h6]
  exact zq_X5_addCard hR hW h12 k1
abbrev zrm_X6_takeKnownCard : Room := { frames := 3, cells := 0, slots := 0, locals := 65 }
set_option maxRecDepth 20000 in
theorem zp_X6_takeKnownCard {l : Launch} {D : va_G} {b0 : Nat} {tA : Nat → ClassId} {sa sv : Nat → Nat} {K : zKt} {I : zI} {Qp : zI → Option AV → Prop} {Xp : String → zI → Prop} {x f n9 p9 : Nat} {t : Nat → Nat} {S : zS}
    (hS : zPs I x t f n9 p9 S) (k1 : ∀ (J : zI) (c : Nat), pKnown t n9 p9 S = .inr c → zfr I J x → zPs J x t f n9 (tNext t n9 p9) S → c < znc S → Qp J (some (vi (nI c)))) (k2 : ∀ (J : zI) (er : Int32 × Nat), pKnown t n9 p9 S = .inl er → zfr I J x → zEr J x t f er → Qp J (some (vi (-1)))) :
    zC l D b0 tA sa sv K yX6_takeKnownCard (.code yX6_takeKnownCard cX6_takeKnownCard 4 (some .int)) zrm_X6_takeKnownCard [vr (x + 3) 6, vr (x + 1) 3, vr (x + 94) 5] I Qp Xp := by
  obtain ⟨hB, hn, hT, hR, hW⟩ := hS
  have hf5 := hB.2.1
  have hpn := hT.1
  have hk4 := tKind_le (t := t) (n := n9) (p := p9)
  have hl4 := tEndL_le (t := t) hT.1
  have hg6 := hW.ng.1
  have hc12 := hW.nc.1
  refine zC_of (by decide +kernel) (Nat.le_of_ble_eq_true rfl) ?_
  intro p e s m args below meth c X hnt
  have X : zX p l e zrm_X6_takeKnownCard s m args below meth c RX6 cX6_takeKnownCard 4 (some .int) D b0 tA sa sv := X
  refine zr_lv (lv2 := [some (vr (x + 3) 6), some (vr (x + 1) 3), some (vr (x + 94) 5), none]) rfl ?_
  refine zr_aload0 X dX6_takeKnownCard_0 ?_
  refine zr_aload1 X dX6_takeKnownCard_1 ?_
  refine zr_callV1 (rm9 := zrm_X6_isNameNext) X hnt zm_X6_100 (by decide) (by decide) (by decide) (Nat.le_of_ble_eq_true rfl) dX6_takeKnownCard_2 ?_
  refine zp_X6_isNameNext (x := x) (t := t) (f := f) (n9 := n9) (p9 := p9) (S := S) ⟨hB, hn, hT, hR, hW⟩ ?_ ?_
  · skip
    intro hq3; obtain ⟨hk2, hL6⟩ := pName_none hq3; have hL1 := tEndL_1 hk2
    refine zr_if_ne (tgt := 10) X dX6_takeKnownCard_5 (by decide) (fun _ => ?_) (fun h => absurd h (by decide))
    refine zr_aload2 X dX6_takeKnownCard_10 ?_
    refine zr_aload1 X dX6_takeKnownCard_11 ?_
    refine zr_getI X zf_X6_103 rfl dX6_takeKnownCard_12 ?_
    refine zr_eq (x2 := (tNm t p9 (tEndL t n9 p9 - p9))) ((hT.2.2.2.2.2.2 (by assumption)).2) ?_
    refine zr_callV1 (rm9 := zrm_X5_cardNamed) X hnt zm_X6_106 (by decide) (by decide) (by decide) (Nat.le_of_ble_eq_true rfl) dX6_takeKnownCard_15 ?_
    refine zn_X5_cardNamed (t := t) (n9 := n9) (p9 := p9) hR hW (by assumption) (by assumption) ?_ ?_
    · skip
      intro c6 hq7 hc8
      refine zr_istore3 X (by decide) rfl dX6_takeKnownCard_18 ?_
      refine zr_iload3 X dX6_takeKnownCard_19 ?_
      refine zr_iconst (v := (-1 : Int32)) X dX6_takeKnownCard_20 (by decide) ?_
      refine zr_icmp_ne (tgt := 37) X dX6_takeKnownCard_21 (by decide) (fun _ => ?_) (fun h => absurd h (zm1 (by omega)))
      refine zr_aload1 X dX6_takeKnownCard_37 ?_
      refine zr_callV0 (rm9 := zrm_X3_advance) X hnt zm_X6_68 (by decide) (by decide) (by decide) (Nat.le_of_ble_eq_true rfl) dX6_takeKnownCard_38 ?_
      refine zp_X3_advance (a := x + 1) (t := t) (f := f) (n9 := n9) (p9 := tEnd t n9 p9) hB hn hT.2.1 hT.2.2.2.2.1 (tEnd_le hT.1).1 ?_
      intro J10 hg11 hB12 hT13; have hT13 : zTok J10 (x + 1) t n9 (tNext t n9 p9) := hT13; have hR14 := hR.ag hg11 (by omega); have fr15 : zfr I J10 x := zfr.ag zfr.rf hg11 (by omega); have hk4_J10 := tKind_le (t := t) (n := n9) (p := (tNext t n9 p9)); have hl4_J10 := tEndL_le (t := t) hT13.1; have hpn_J10 := hT13.1
      refine zr_iload3 X dX6_takeKnownCard_41 ?_
      refine zr_iret X (by decide) (by decide) dX6_takeKnownCard_42 ?_
      exact k1 _ c6 (by simp [pKnown, hq3, hq7, hc8]) fr15 ⟨hB12, hn, hT13, hR14, hW⟩ (by assumption)
    · skip
      intro hq9
      refine zr_istore3 X (by decide) rfl dX6_takeKnownCard_18 ?_
      refine zr_iload3 X dX6_takeKnownCard_19 ?_
      refine zr_iconst (v := (-1 : Int32)) X dX6_takeKnownCard_20 (by decide) ?_
      refine zr_icmp_ne (tgt := 37) X dX6_takeKnownCard_21 (by decide) (fun h => absurd h (by decide)) (fun _ => ?_)
      refine zr_aload0 X dX6_takeKnownCard_24 ?_
      refine zr_bipush (v := (-4 : Int32)) X dX6_takeKnownCard_25 (by decide) ?_
      refine zr_aload1 X dX6_takeKnownCard_27 ?_
      refine zr_getI X zf_X6_55 rfl dX6_takeKnownCard_28 ?_
      refine zr_eq (x2 := (nI p9)) (hT.2.2.1) ?_
      refine zr_callV2 (rm9 := zrm_X6_fail) X hnt zm_X6_58 (by decide) (by decide) (by decide) (Nat.le_of_ble_eq_true rfl) dX6_takeKnownCard_31 ?_
      refine zp_X6_fail ?_
      refine zr_popI X dX6_takeKnownCard_34 ?_
      refine zr_iconst (v := (-1 : Int32)) X dX6_takeKnownCard_35 (by decide) ?_
      refine zr_iret X (by decide) (by decide) dX6_takeKnownCard_36 ?_
      exact k2 _ _ (by simp [pKnown, hq3, hq9]) (zfr.er zfr.rf) (zEr.mk hB)
  · skip
    intro J1 er4 hq3 fr2 hE5; have fr2 : zfr I J1 x := zfr.tr zfr.rf fr2
    refine zr_if_ne (tgt := 10) X dX6_takeKnownCard_5 (by decide) (fun h => absurd h (by decide)) (fun _ => ?_)
    refine zr_iconst (v := (-1 : Int32)) X dX6_takeKnownCard_8 (by decide) ?_
    refine zr_iret X (by decide) (by decide) dX6_takeKnownCard_9 ?_
    exact k2 _ er4 (by simp [pKnown, hq3]) fr2 hE5
abbrev zrm_X6_readTick : Room := { frames := 4, cells := 0, slots := 0, locals := 93 }
set_option maxRecDepth 20000 in
theorem zp_X6_readTick {l : Launch} {D : va_G} {b0 : Nat} {tA : Nat → ClassId} {sa sv : Nat → Nat} {K : zKt} {I : zI} {Qp : zI → Option AV → Prop} {Xp : String → zI → Prop} {x f n9 p9 : Nat} {t : Nat → Nat} {S : zS}
    (hS : zPs I x t f n9 p9 S) (k1 : ∀ (J : zI) (p2 : Nat) (S2 : zS), pTick t n9 p9 S = .inr (p2, S2) → zfr I J x → zPs J x t f n9 p2 S2 → Qp J (some (vi 1))) (k2 : ∀ (J : zI) (er : Int32 × Nat), pTick t n9 p9 S = .inl er → zfr I J x → zEr J x t f er → Qp J (some (vi 0))) :
    zC l D b0 tA sa sv K yX6_readTick (.code yX6_readTick cX6_readTick 4 (some .boolean)) zrm_X6_readTick [vr (x + 3) 6, vr (x + 1) 3, vr (x + 94) 5] I Qp Xp := by
  obtain ⟨hB, hn, hT, hR, hW⟩ := hS
  have hf5 := hB.2.1
  have hpn := hT.1
  have hk4 := tKind_le (t := t) (n := n9) (p := p9)
  have hl4 := tEndL_le (t := t) hT.1
  have hg6 := hW.ng.1
  have hc12 := hW.nc.1
  refine zC_of (by decide +kernel) (Nat.le_of_ble_eq_true rfl) ?_
  intro p e s m args below meth c X hnt
  have X : zX p l e zrm_X6_readTick s m args below meth c RX6 cX6_readTick 4 (some .boolean) D b0 tA sa sv := X
  refine zr_lv (lv2 := [some (vr (x + 3) 6), some (vr (x + 1) 3), some (vr (x + 94) 5), none]) rfl ?_
  refine zr_aload1 X dX6_readTick_0 ?_
  refine zr_callV0 (rm9 := zrm_X3_advance) X hnt zm_X6_68 (by decide) (by decide) (by decide) (Nat.le_of_ble_eq_true rfl) dX6_readTick_1 ?_
  refine zp_X3_advance (a := x + 1) (t := t) (f := f) (n9 := n9) (p9 := tEnd t n9 p9) hB hn hT.2.1 hT.2.2.2.2.1 (tEnd_le hT.1).1 ?_
  intro J16 hg17 hB18 hT19; have hT19 : zTok J16 (x + 1) t n9 (tNext t n9 p9) := hT19; have hR20 := hR.ag hg17 (by omega); have fr21 : zfr I J16 x := zfr.ag zfr.rf hg17 (by omega); have hk4_J16 := tKind_le (t := t) (n := n9) (p := (tNext t n9 p9)); have hl4_J16 := tEndL_le (t := t) hT19.1; have hpn_J16 := hT19.1
  refine zr_aload0 X dX6_readTick_4 ?_
  refine zr_aload1 X dX6_readTick_5 ?_
  refine zr_iconst (v := (1 : Int32)) X dX6_readTick_6 (by decide) ?_
  refine zr_bipush (v := (99 : Int32)) X dX6_readTick_7 (by decide) ?_
  refine zr_callV3 (rm9 := zrm_X6_takeNumber) X hnt zm_X6_71 (by decide) (by decide) (by decide) (Nat.le_of_ble_eq_true rfl) dX6_readTick_9 ?_
  refine zp_X6_takeNumber (x := x) (t := t) (f := f) (n9 := n9) (p9 := (tNext t n9 p9)) (S := S) (lo := 1) (hi := 100) ⟨hB18, hn, hT19, hR20, hW⟩ (zmost (by decide) (by omega)) (by omega) (by omega) ?_ ?_
  · skip
    intro J22 v26 hq25 fr23 hS24; obtain ⟨hB29, hn33, hT30, hR31, hW32⟩ := hS24; have fr23 : zfr I J22 x := zfr.tr fr21 fr23; have := pNum_gt hq25; have hk4_J22 := tKind_le (t := t) (n := n9) (p := (tNext t n9 (tNext t n9 p9))); have hl4_J22 := tEndL_le (t := t) hT30.1; have hpn_J22 := hT30.1
    refine zr_istore3 X (by decide) rfl dX6_readTick_12 ?_
    refine zr_iload3 X dX6_readTick_13 ?_
    refine zr_nif_ge X (v26) (tgt := 19) (by omega) dX6_readTick_14 (by decide) (fun _ => ?_) (fun h => absurd trivial h)
    refine zr_aload2 X dX6_readTick_19 ?_
    refine zr_iload3 X dX6_readTick_20 ?_
    refine zr_callV1 (rm9 := zrm_X5_passTicks) X hnt zm_X6_157 (by decide) (by decide) (by decide) (Nat.le_of_ble_eq_true rfl) dX6_readTick_21 ?_
    refine zp_X5_passTicks hR31 hW32 (by omega) ?_
    intro J34 hg35 hR36; have hB37 := zBy.ag hB29 hg35 (by omega); have hT38 := zTok.ag hT30 hg35 (by omega); have fr39 : zfr I J34 x := zfr.ag fr23 hg35 (by omega); have hW40 : zWf (qTicks S v26) := zWf_ticks hW32 _
    refine zr_iconst (v := (1 : Int32)) X dX6_readTick_24 (by decide) ?_
    refine zr_zret X (by first | decide | assumption | (simp; done)) (by decide) (by decide) dX6_readTick_25 ?_
    exact k1 _ _ _ (by simp [pTick, hq25]) fr39 ⟨hB37, hn, hT38, hR36, hW40⟩
  · skip
    intro J22 er27 hq25 fr23 hE28; have fr23 : zfr I J22 x := zfr.tr fr21 fr23
    refine zr_istore3 X (by decide) rfl dX6_readTick_12 ?_
    refine zr_iload3 X dX6_readTick_13 ?_
    refine zr_if_ge (tgt := 19) X dX6_readTick_14 (by decide) (fun h => absurd h (by decide)) (fun _ => ?_)
    refine zr_iconst (v := (0 : Int32)) X dX6_readTick_17 (by decide) ?_
    refine zr_zret X (by first | decide | assumption | (simp; done)) (by decide) (by decide) dX6_readTick_18 ?_
    exact k2 _ er27 (by simp [pTick, hq25]) fr23 hE28
abbrev zrm_X6_readKey : Room := { frames := 4, cells := 0, slots := 0, locals := 89 }
set_option maxRecDepth 20000 in
theorem zp_X6_readKey {l : Launch} {D : va_G} {b0 : Nat} {tA : Nat → ClassId} {sa sv : Nat → Nat} {K : zKt} {I : zI} {Qp : zI → Option AV → Prop} {Xp : String → zI → Prop} {x f n9 p9 : Nat} {t : Nat → Nat} {S : zS}
    (hS : zPs I x t f n9 p9 S) (k1 : ∀ (J : zI) (p2 : Nat) (S2 : zS), pKey t n9 p9 S = .inr (p2, S2) → zfr I J x → zPs J x t f n9 p2 S2 → Qp J (some (vi 1))) (k2 : ∀ (J : zI) (er : Int32 × Nat), pKey t n9 p9 S = .inl er → zfr I J x → zEr J x t f er → Qp J (some (vi 0))) :
    zC l D b0 tA sa sv K yX6_readKey (.code yX6_readKey cX6_readKey 4 (some .boolean)) zrm_X6_readKey [vr (x + 3) 6, vr (x + 1) 3, vr (x + 94) 5] I Qp Xp := by
  obtain ⟨hB, hn, hT, hR, hW⟩ := hS
  have hf5 := hB.2.1
  have hpn := hT.1
  have hk4 := tKind_le (t := t) (n := n9) (p := p9)
  have hl4 := tEndL_le (t := t) hT.1
  have hg6 := hW.ng.1
  have hc12 := hW.nc.1
  refine zC_of (by decide +kernel) (Nat.le_of_ble_eq_true rfl) ?_
  intro p e s m args below meth c X hnt
  have X : zX p l e zrm_X6_readKey s m args below meth c RX6 cX6_readKey 4 (some .boolean) D b0 tA sa sv := X
  refine zr_lv (lv2 := [some (vr (x + 3) 6), some (vr (x + 1) 3), some (vr (x + 94) 5), none]) rfl ?_
  refine zr_aload1 X dX6_readKey_0 ?_
  refine zr_callV0 (rm9 := zrm_X3_advance) X hnt zm_X6_68 (by decide) (by decide) (by decide) (Nat.le_of_ble_eq_true rfl) dX6_readKey_1 ?_
  refine zp_X3_advance (a := x + 1) (t := t) (f := f) (n9 := n9) (p9 := tEnd t n9 p9) hB hn hT.2.1 hT.2.2.2.2.1 (tEnd_le hT.1).1 ?_
  intro J41 hg42 hB43 hT44; have hT44 : zTok J41 (x + 1) t n9 (tNext t n9 p9) := hT44; have hR45 := hR.ag hg42 (by omega); have fr46 : zfr I J41 x := zfr.ag zfr.rf hg42 (by omega); have hk4_J41 := tKind_le (t := t) (n := n9) (p := (tNext t n9 p9)); have hl4_J41 := tEndL_le (t := t) hT44.1; have hpn_J41 := hT44.1
  refine zr_aload0 X dX6_readKey_4 ?_
  refine zr_aload1 X dX6_readKey_5 ?_
  refine zr_iconst (v := (0 : Int32)) X dX6_readKey_6 (by decide) ?_
  refine zr_iconst (v := (2 : Int32)) X dX6_readKey_7 (by decide) ?_
  refine zr_callV3 (rm9 := zrm_X6_takeNumber) X hnt zm_X6_71 (by decide) (by decide) (by decide) (Nat.le_of_ble_eq_true rfl) dX6_readKey_8 ?_
  refine zp_X6_takeNumber (x := x) (t := t) (f := f) (n9 := n9) (p9 := (tNext t n9 p9)) (S := S) (lo := 0) (hi := 3) ⟨hB43, hn, hT44, hR45, hW⟩ (zmost (by decide) (by omega)) (by omega) (by omega) ?_ ?_
  · skip
    intro J47 v51 hq50 fr48 hS49; obtain ⟨hB54, hn58, hT55, hR56, hW57⟩ := hS49; have fr48 : zfr I J47 x := zfr.tr fr46 fr48; have := pNum_gt hq50; have hk4_J47 := tKind_le (t := t) (n := n9) (p := (tNext t n9 (tNext t n9 p9))); have hl4_J47 := tEndL_le (t := t) hT55.1; have hpn_J47 := hT55.1
    refine zr_istore3 X (by decide) rfl dX6_readKey_11 ?_
    refine zr_iload3 X dX6_readKey_12 ?_
    refine zr_nif_ge X (v51) (tgt := 18) (by omega) dX6_readKey_13 (by decide) (fun _ => ?_) (fun h => absurd trivial h)
    refine zr_aload2 X dX6_readKey_18 ?_
    refine zr_iload3 X dX6_readKey_19 ?_
    refine zr_callV1 (rm9 := zrm_X5_turnKey) X hnt zm_X6_160 (by decide) (by decide) (by decide) (Nat.le_of_ble_eq_true rfl) dX6_readKey_20 ?_
    refine zp_X5_turnKey hR56 hW57.keys (by omega) ?_
    intro J59 hg60 hR61; have hB62 := zBy.ag hB54 hg60 (by omega); have hT63 := zTok.ag hT55 hg60 (by omega); have fr64 : zfr I J59 x := zfr.ag fr48 hg60 (by omega); have hW65 : zWf (qKey S v51) := zWf_key hW57 (by omega)
    refine zr_iconst (v := (1 : Int32)) X dX6_readKey_23 (by decide) ?_
    refine zr_zret X (by first | decide | assumption | (simp; done)) (by decide) (by decide) dX6_readKey_24 ?_
    exact k1 _ _ _ (by simp [pKey, hq50]) fr64 ⟨hB62, hn, hT63, hR61, hW65⟩
  · skip
    intro J47 er52 hq50 fr48 hE53; have fr48 : zfr I J47 x := zfr.tr fr46 fr48
    refine zr_istore3 X (by decide) rfl dX6_readKey_11 ?_
    refine zr_iload3 X dX6_readKey_12 ?_
    refine zr_if_ge (tgt := 18) X dX6_readKey_13 (by decide) (fun h => absurd h (by decide)) (fun _ => ?_)
    refine zr_iconst (v := (0 : Int32)) X dX6_readKey_16 (by decide) ?_
    refine zr_zret X (by first | decide | assumption | (simp; done)) (by decide) (by decide) dX6_readKey_17 ?_
    exact k2 _ er52 (by simp [pKey, hq50]) fr48 hE53
abbrev zrm_X6_readGate : Room := { frames := 6, cells := 0, slots := 0, locals := 173 }
set_option maxRecDepth 20000 in
theorem zp_X6_readGate {l : Launch} {D : va_G} {b0 : Nat} {tA : Nat → ClassId} {sa sv : Nat → Nat} {K : zKt} {I : zI} {Qp : zI → Option AV → Prop} {Xp : String → zI → Prop} {x f n9 p9 : Nat} {t : Nat → Nat} {S : zS}
    (hS : zPs I x t f n9 p9 S) (k1 : ∀ (J : zI) (p2 : Nat) (S2 : zS), pGate t n9 p9 S = .inr (p2, S2) → zfr I J x → zPs J x t f n9 p2 S2 → Qp J (some (vi 1))) (k2 : ∀ (J : zI) (er : Int32 × Nat), pGate t n9 p9 S = .inl er → zfr I J x → zEr J x t f er → Qp J (some (vi 0))) :
    zC l D b0 tA sa sv K yX6_readGate (.code yX6_readGate cX6_readGate 4 (some .boolean)) zrm_X6_readGate [vr (x + 3) 6, vr (x + 1) 3, vr (x + 94) 5] I Qp Xp := by
  obtain ⟨hB, hn, hT, hR, hW⟩ := hS
  have hf5 := hB.2.1
  have hpn := hT.1
  have hk4 := tKind_le (t := t) (n := n9) (p := p9)
  have hl4 := tEndL_le (t := t) hT.1
  have hg6 := hW.ng.1
  have hc12 := hW.nc.1
  refine zC_of (by decide +kernel) (Nat.le_of_ble_eq_true rfl) ?_
  intro p e s m args below meth c X hnt
  have X : zX p l e zrm_X6_readGate s m args below meth c RX6 cX6_readGate 4 (some .boolean) D b0 tA sa sv := X
  refine zr_lv (lv2 := [some (vr (x + 3) 6), some (vr (x + 1) 3), some (vr (x + 94) 5), none]) rfl ?_
  refine zr_aload2 X dX6_readGate_0 ?_
  refine zr_callV0 (rm9 := zrm_X5_canTakeGate) X hnt zm_X6_83 (by decide) (by decide) (by decide) (Nat.le_of_ble_eq_true rfl) dX6_readGate_1 ?_
  refine zn_X5_canTakeGate hR hW ?_ ?_
  · skip
    intro hc1; have hc1_2 : ¬ zng S = 6 := by omega
    refine zr_if_ne (tgt := 18) X dX6_readGate_4 (by decide) (fun _ => ?_) (fun h => absurd h (by decide))
    refine zr_aload1 X dX6_readGate_18 ?_
    refine zr_callV0 (rm9 := zrm_X3_advance) X hnt zm_X6_68 (by decide) (by decide) (by decide) (Nat.le_of_ble_eq_true rfl) dX6_readGate_19 ?_
    refine zp_X3_advance (a := x + 1) (t := t) (f := f) (n9 := n9) (p9 := tEnd t n9 p9) hB hn hT.2.1 hT.2.2.2.2.1 (tEnd_le hT.1).1 ?_
    intro J66 hg67 hB68 hT69; have hT69 : zTok J66 (x + 1) t n9 (tNext t n9 p9) := hT69; have hR70 := hR.ag hg67 (by omega); have fr71 : zfr I J66 x := zfr.ag zfr.rf hg67 (by omega); have hk4_J66 := tKind_le (t := t) (n := n9) (p := (tNext t n9 p9)); have hl4_J66 := tEndL_le (t := t) hT69.1; have hpn_J66 := hT69.1
    refine zr_aload1 X dX6_readGate_22 ?_
    refine zr_ldcS X 2 rfl (by decide) dX6_readGate_23 ?_
    refine zr_callV1 (rm9 := zrm_X3_isWord) X hnt zm_X6_23 (by decide) (by decide) (by decide) (Nat.le_of_ble_eq_true rfl) dX6_readGate_25 ?_
    refine zp_X3_isWord (a := x + 1) (i := 2) (t := t) (n9 := n9) (p9 := (tNext t n9 p9)) (by omega) hT69 (by decide) ?_ ?_
    · skip
      intro hw2; have hw2 : tIsB t n9 (tNext t n9 p9) wBoth = true := tIsB_iff.mpr hw2
      refine zr_if_eq (tgt := 35) X dX6_readGate_28 (by decide) (fun h => absurd h (by decide)) (fun _ => ?_)
      refine zr_iconst (v := (2 : Int32)) X dX6_readGate_31 (by decide) ?_
      refine zr_goto (tgt := 62) X dX6_readGate_32 (by decide) ?_
      refine zr_istore3 X (by decide) rfl dX6_readGate_62 ?_
      refine zr_iload3 X dX6_readGate_63 ?_
      refine zr_iconst (v := (-1 : Int32)) X dX6_readGate_64 (by decide) ?_
      refine zr_icmp_ne (tgt := 79) X dX6_readGate_65 (by decide) (fun _ => ?_) (fun h => absurd h (by decide))
      refine zr_aload1 X dX6_readGate_79 ?_
      refine zr_callV0 (rm9 := zrm_X3_advance) X hnt zm_X6_68 (by decide) (by decide) (by decide) (Nat.le_of_ble_eq_true rfl) dX6_readGate_80 ?_
      refine zp_X3_advance (a := x + 1) (t := t) (f := f) (n9 := n9) (p9 := tEnd t n9 (tNext t n9 p9)) hB68 hn hT69.2.1 hT69.2.2.2.2.1 (tEnd_le hT69.1).1 ?_
      intro J72 hg73 hB74 hT75; have hT75 : zTok J72 (x + 1) t n9 (tNext t n9 (tNext t n9 p9)) := hT75; have hR76 := hR70.ag hg73 (by omega); have fr77 : zfr I J72 x := zfr.ag fr71 hg73 (by omega); have hk4_J72 := tKind_le (t := t) (n := n9) (p := (tNext t n9 (tNext t n9 p9))); have hl4_J72 := tEndL_le (t := t) hT75.1; have hpn_J72 := hT75.1
      refine zr_aload2 X dX6_readGate_83 ?_
      refine zr_iload3 X dX6_readGate_84 ?_
      refine zr_callV1 (rm9 := zrm_X5_addGate) X hnt zm_X6_93 (by decide) (by decide) (by decide) (Nat.le_of_ble_eq_true rfl) dX6_readGate_85 ?_
      refine zq_X5_addGate hR76 hW (by omega) ?_
      intro J78 hg79 hR80; have hB81 := zBy.ag hB74 hg79 (by omega); have hT82 := zTok.ag hT75 hg79 (by omega); have fr83 : zfr I J78 x := zfr.ag fr77 hg79 (by omega); have hW84 : zWf (qAddGate S (2 : Int32)) := zWf_addGate hW (by omega) (by decide)
      refine zr_iconst (v := (1 : Int32)) X dX6_readGate_88 (by decide) ?_
      refine zr_zret X (by first | decide | assumption | (simp; done)) (by decide) (by decide) dX6_readGate_89 ?_
      exact k1 _ _ _ (by simp [pGate, hc1_2, hw2]) fr83 ⟨hB81, hn, hT82, hR80, hW84⟩
    · skip
      intro hw2; have hw2 : ¬ tIsB t n9 (tNext t n9 p9) wBoth = true := fun z => hw2 (tIsB_iff.mp z)
      refine zr_if_eq (tgt := 35) X dX6_readGate_28 (by decide) (fun _ => ?_) (fun h => absurd h (by decide))
      refine zr_aload1 X dX6_readGate_35 ?_
      refine zr_ldcS X 3 rfl (by decide) dX6_readGate_36 ?_
      refine zr_callV1 (rm9 := zrm_X3_isWord) X hnt zm_X6_23 (by decide) (by decide) (by decide) (Nat.le_of_ble_eq_true rfl) dX6_readGate_38 ?_
      refine zp_X3_isWord (a := x + 1) (i := 3) (t := t) (n9 := n9) (p9 := (tNext t n9 p9)) (by omega) hT69 (by decide) ?_ ?_
      · skip
        intro hw3; have hw3 : tIsB t n9 (tNext t n9 p9) wOut = true := tIsB_iff.mpr hw3
        refine zr_if_eq (tgt := 48) X dX6_readGate_41 (by decide) (fun h => absurd h (by decide)) (fun _ => ?_)
        refine zr_iconst (v := (1 : Int32)) X dX6_readGate_44 (by decide) ?_
        refine zr_goto (tgt := 62) X dX6_readGate_45 (by decide) ?_
        refine zr_istore3 X (by decide) rfl dX6_readGate_62 ?_
        refine zr_iload3 X dX6_readGate_63 ?_
        refine zr_iconst (v := (-1 : Int32)) X dX6_readGate_64 (by decide) ?_
        refine zr_icmp_ne (tgt := 79) X dX6_readGate_65 (by decide) (fun _ => ?_) (fun h => absurd h (by decide))
        refine zr_aload1 X dX6_readGate_79 ?_
        refine zr_callV0 (rm9 := zrm_X3_advance) X hnt zm_X6_68 (by decide) (by decide) (by decide) (Nat.le_of_ble_eq_true rfl) dX6_readGate_80 ?_
        refine zp_X3_advance (a := x + 1) (t := t) (f := f) (n9 := n9) (p9 := tEnd t n9 (tNext t n9 p9)) hB68 hn hT69.2.1 hT69.2.2.2.2.1 (tEnd_le hT69.1).1 ?_
        intro J85 hg86 hB87 hT88; have hT88 : zTok J85 (x + 1) t n9 (tNext t n9 (tNext t n9 p9)) := hT88; have hR89 := hR70.ag hg86 (by omega); have fr90 : zfr I J85 x := zfr.ag fr71 hg86 (by omega); have hk4_J85 := tKind_le (t := t) (n := n9) (p := (tNext t n9 (tNext t n9 p9))); have hl4_J85 := tEndL_le (t := t) hT88.1; have hpn_J85 := hT88.1
        refine zr_aload2 X dX6_readGate_83 ?_
        refine zr_iload3 X dX6_readGate_84 ?_
        refine zr_callV1 (rm9 := zrm_X5_addGate) X hnt zm_X6_93 (by decide) (by decide) (by decide) (Nat.le_of_ble_eq_true rfl) dX6_readGate_85 ?_
        refine zq_X5_addGate hR89 hW (by omega) ?_
        intro J91 hg92 hR93; have hB94 := zBy.ag hB87 hg92 (by omega); have hT95 := zTok.ag hT88 hg92 (by omega); have fr96 : zfr I J91 x := zfr.ag fr90 hg92 (by omega); have hW97 : zWf (qAddGate S (1 : Int32)) := zWf_addGate hW (by omega) (by decide)
        refine zr_iconst (v := (1 : Int32)) X dX6_readGate_88 (by decide) ?_
        refine zr_zret X (by first | decide | assumption | (simp; done)) (by decide) (by decide) dX6_readGate_89 ?_
        exact k1 _ _ _ (by simp [pGate, hc1_2, hw2, hw3]) fr96 ⟨hB94, hn, hT95, hR93, hW97⟩
      · skip
        intro hw3; have hw3 : ¬ tIsB t n9 (tNext t n9 p9) wOut = true := fun z => hw3 (tIsB_iff.mp z)
        refine zr_if_eq (tgt := 48) X dX6_readGate_41 (by decide) (fun _ => ?_) (fun h => absurd h (by decide))
        refine zr_aload1 X dX6_readGate_48 ?_
        refine zr_ldcS X 4 rfl (by decide) dX6_readGate_49 ?_
        refine zr_callV1 (rm9 := zrm_X3_isWord) X hnt zm_X6_23 (by decide) (by decide) (by decide) (Nat.le_of_ble_eq_true rfl) dX6_readGate_51 ?_
        refine zp_X3_isWord (a := x + 1) (i := 4) (t := t) (n9 := n9) (p9 := (tNext t n9 p9)) (by omega) hT69 (by decide) ?_ ?_
        · skip
          intro hw4; have hw4 : tIsB t n9 (tNext t n9 p9) wIn = true := tIsB_iff.mpr hw4
          refine zr_if_eq (tgt := 61) X dX6_readGate_54 (by decide) (fun h => absurd h (by decide)) (fun _ => ?_)
          refine zr_iconst (v := (0 : Int32)) X dX6_readGate_57 (by decide) ?_
          refine zr_goto (tgt := 62) X dX6_readGate_58 (by decide) ?_
          refine zr_istore3 X (by decide) rfl dX6_readGate_62 ?_
          refine zr_iload3 X dX6_readGate_63 ?_
          refine zr_iconst (v := (-1 : Int32)) X dX6_readGate_64 (by decide) ?_
          refine zr_icmp_ne (tgt := 79) X dX6_readGate_65 (by decide) (fun _ => ?_) (fun h => absurd h (by decide))
          refine zr_aload1 X dX6_readGate_79 ?_
          refine zr_callV0 (rm9 := zrm_X3_advance) X hnt zm_X6_68 (by decide) (by decide) (by decide) (Nat.le_of_ble_eq_true rfl) dX6_readGate_80 ?_
          refine zp_X3_advance (a := x + 1) (t := t) (f := f) (n9 := n9) (p9 := tEnd t n9 (tNext t n9 p9)) hB68 hn hT69.2.1 hT69.2.2.2.2.1 (tEnd_le hT69.1).1 ?_
          intro J98 hg99 hB100 hT101; have hT101 : zTok J98 (x + 1) t n9 (tNext t n9 (tNext t n9 p9)) := hT101; have hR102 := hR70.ag hg99 (by omega); have fr103 : zfr I J98 x := zfr.ag fr71 hg99 (by omega); have hk4_J98 := tKind_le (t := t) (n := n9) (p := (tNext t n9 (tNext t n9 p9))); have hl4_J98 := tEndL_le (t := t) hT101.1; have hpn_J98 := hT101.1
          refine zr_aload2 X dX6_readGate_83 ?_
          refine zr_iload3 X dX6_readGate_84 ?_
          refine zr_callV1 (rm9 := zrm_X5_addGate) X hnt zm_X6_93 (by decide) (by decide) (by decide) (Nat.le_of_ble_eq_true rfl) dX6_readGate_85 ?_
          refine zq_X5_addGate hR102 hW (by omega) ?_
          intro J104 hg105 hR106; have hB107 := zBy.ag hB100 hg105 (by omega); have hT108 := zTok.ag hT101 hg105 (by omega); have fr109 : zfr I J104 x := zfr.ag fr103 hg105 (by omega); have hW110 : zWf (qAddGate S (0 : Int32)) := zWf_addGate hW (by omega) (by decide)
          refine zr_iconst (v := (1 : Int32)) X dX6_readGate_88 (by decide) ?_
          refine zr_zret X (by first | decide | assumption | (simp; done)) (by decide) (by decide) dX6_readGate_89 ?_
          exact k1 _ _ _ (by simp [pGate, hc1_2, hw2, hw3, hw4]) fr109 ⟨hB107, hn, hT108, hR106, hW110⟩
        · skip
          intro hw4; have hw4 : ¬ tIsB t n9 (tNext t n9 p9) wIn = true := fun z => hw4 (tIsB_iff.mp z)
          refine zr_if_eq (tgt := 61) X dX6_readGate_54 (by decide) (fun _ => ?_) (fun h => absurd h (by decide))
          refine zr_iconst (v := (-1 : Int32)) X dX6_readGate_61 (by decide) ?_
          refine zr_istore3 X (by decide) rfl dX6_readGate_62 ?_
          refine zr_iload3 X dX6_readGate_63 ?_
          refine zr_iconst (v := (-1 : Int32)) X dX6_readGate_64 (by decide) ?_
          refine zr_icmp_ne (tgt := 79) X dX6_readGate_65 (by decide) (fun h => absurd h (by decide)) (fun _ => ?_)
          refine zr_aload0 X dX6_readGate_68 ?_
          refine zr_bipush (v := (-2 : Int32)) X dX6_readGate_69 (by decide) ?_
          refine zr_aload1 X dX6_readGate_71 ?_
          refine zr_getI X zf_X6_55 rfl dX6_readGate_72 ?_
          refine zr_eq (x2 := (nI (tNext t n9 p9))) (hT69.2.2.1) ?_
          refine zr_callV2 (rm9 := zrm_X6_fail) X hnt zm_X6_58 (by decide) (by decide) (by decide) (Nat.le_of_ble_eq_true rfl) dX6_readGate_75 ?_
          refine zp_X6_fail ?_
          refine zr_zret X (by first | decide | assumption | (simp; done)) (by decide) (by decide) dX6_readGate_78 ?_
          exact k2 _ _ (by simp [pGate, hc1_2, hw2, hw3, hw4]) (zfr.er fr71) (zEr.mk hB68)
  · skip
    intro hc1
    refine zr_if_ne (tgt := 18) X dX6_readGate_4 (by decide) (fun h => absurd h (by decide)) (fun _ => ?_)
    refine zr_aload0 X dX6_readGate_7 ?_
    refine zr_bipush (v := (-5 : Int32)) X dX6_readGate_8 (by decide) ?_
    refine zr_aload1 X dX6_readGate_10 ?_
    refine zr_getI X zf_X6_55 rfl dX6_readGate_11 ?_
    refine zr_eq (x2 := (nI p9)) (hT.2.2.1) ?_
    refine zr_callV2 (rm9 := zrm_X6_fail) X hnt zm_X6_58 (by decide) (by decide) (by decide) (Nat.le_of_ble_eq_true rfl) dX6_readGate_14 ?_
    refine zp_X6_fail ?_
    refine zr_zret X (by first | decide | assumption | (simp; done)) (by decide) (by decide) dX6_readGate_17 ?_
    exact k2 _ _ (by simp [pGate, hc1]) (zfr.er zfr.rf) (zEr.mk hB)
abbrev zrm_X6_readCard : Room := { frames := 4, cells := 0, slots := 0, locals := 89 }
set_option maxRecDepth 20000 in
theorem zp_X6_readCard {l : Launch} {D : va_G} {b0 : Nat} {tA : Nat → ClassId} {sa sv : Nat → Nat} {K : zKt} {I : zI} {Qp : zI → Option AV → Prop} {Xp : String → zI → Prop} {x f n9 p9 : Nat} {t : Nat → Nat} {S : zS}
    (hS : zPs I x t f n9 p9 S) (k1 : ∀ (J : zI) (p2 : Nat) (S2 : zS), pCard t n9 p9 S = .inr (p2, S2) → zfr I J x → zPs J x t f n9 p2 S2 → Qp J (some (vi 1))) (k2 : ∀ (J : zI) (er : Int32 × Nat), pCard t n9 p9 S = .inl er → zfr I J x → zEr J x t f er → Qp J (some (vi 0))) :
    zC l D b0 tA sa sv K yX6_readCard (.code yX6_readCard cX6_readCard 5 (some .boolean)) zrm_X6_readCard [vr (x + 3) 6, vr (x + 1) 3, vr (x + 94) 5] I Qp Xp := by
  obtain ⟨hB, hn, hT, hR, hW⟩ := hS
  have hf5 := hB.2.1
  have hpn := hT.1
  have hk4 := tKind_le (t := t) (n := n9) (p := p9)
  have hl4 := tEndL_le (t := t) hT.1
  have hg6 := hW.ng.1
  have hc12 := hW.nc.1
  refine zC_of (by decide +kernel) (Nat.le_of_ble_eq_true rfl) ?_
  intro p e s m args below meth c X hnt
  have X : zX p l e zrm_X6_readCard s m args below meth c RX6 cX6_readCard 5 (some .boolean) D b0 tA sa sv := X
  refine zr_lv (lv2 := [some (vr (x + 3) 6), some (vr (x + 1) 3), some (vr (x + 94) 5), none, none]) rfl ?_
  refine zr_aload2 X dX6_readCard_0 ?_
  refine zr_callV0 (rm9 := zrm_X5_canTakeCard) X hnt zm_X6_97 (by decide) (by decide) (by decide) (Nat.le_of_ble_eq_true rfl) dX6_readCard_1 ?_
  refine zn_X5_canTakeCard hR hW ?_ ?_
  · skip
    intro hc1; have hc1_2 : ¬ znc S = 12 := by omega
    refine zr_if_ne (tgt := 18) X dX6_readCard_4 (by decide) (fun _ => ?_) (fun h => absurd h (by decide))
    refine zr_aload1 X dX6_readCard_18 ?_
    refine zr_callV0 (rm9 := zrm_X3_advance) X hnt zm_X6_68 (by decide) (by decide) (by decide) (Nat.le_of_ble_eq_true rfl) dX6_readCard_19 ?_
    refine zp_X3_advance (a := x + 1) (t := t) (f := f) (n9 := n9) (p9 := tEnd t n9 p9) hB hn hT.2.1 hT.2.2.2.2.1 (tEnd_le hT.1).1 ?_
    intro J111 hg112 hB113 hT114; have hT114 : zTok J111 (x + 1) t n9 (tNext t n9 p9) := hT114; have hR115 := hR.ag hg112 (by omega); have fr116 : zfr I J111 x := zfr.ag zfr.rf hg112 (by omega); have hk4_J111 := tKind_le (t := t) (n := n9) (p := (tNext t n9 p9)); have hl4_J111 := tEndL_le (t := t) hT114.1; have hpn_J111 := hT114.1
    refine zr_aload0 X dX6_readCard_22 ?_
    refine zr_aload1 X dX6_readCard_23 ?_
    refine zr_callV1 (rm9 := zrm_X6_isNameNext) X hnt zm_X6_100 (by decide) (by decide) (by decide) (Nat.le_of_ble_eq_true rfl) dX6_readCard_24 ?_
    refine zp_X6_isNameNext (x := x) (t := t) (f := f) (n9 := n9) (p9 := (tNext t n9 p9)) (S := S) ⟨hB113, hn, hT114, hR115, hW⟩ ?_ ?_
    · skip
      intro hq119; obtain ⟨hk2, hL6⟩ := pName_none hq119; have hL1 := tEndL_1 hk2
      refine zr_if_ne (tgt := 32) X dX6_readCard_27 (by decide) (fun _ => ?_) (fun h => absurd h (by decide))
      refine zr_aload1 X dX6_readCard_32 ?_
      refine zr_getI X zf_X6_103 rfl dX6_readCard_33 ?_
      refine zr_eq (x2 := (tNm t (tNext t n9 p9) (tEndL t n9 (tNext t n9 p9) - (tNext t n9 p9)))) ((hT114.2.2.2.2.2.2 (by assumption)).2) ?_
      refine zr_istore3 X (by decide) rfl dX6_readCard_36 ?_
      refine zr_aload2 X dX6_readCard_37 ?_
      refine zr_iload3 X dX6_readCard_38 ?_
      refine zr_callV1 (rm9 := zrm_X5_cardNamed) X hnt zm_X6_106 (by decide) (by decide) (by decide) (Nat.le_of_ble_eq_true rfl) dX6_readCard_39 ?_
      refine zn_X5_cardNamed (t := t) (n9 := n9) (p9 := (tNext t n9 p9)) hR115 hW (by assumption) (by assumption) ?_ ?_
      · skip
        intro c122 hq123 hc124
        refine zr_iconst (v := (-1 : Int32)) X dX6_readCard_42 (by decide) ?_
        refine zr_icmp_eq (tgt := 57) X dX6_readCard_43 (by decide) (fun h => absurd h (zm1 (by omega))) (fun _ => ?_)
        refine zr_aload0 X dX6_readCard_46 ?_
        refine zr_bipush (v := (-4 : Int32)) X dX6_readCard_47 (by decide) ?_
        refine zr_aload1 X dX6_readCard_49 ?_
        refine zr_getI X zf_X6_55 rfl dX6_readCard_50 ?_
        refine zr_eq (x2 := (nI (tNext t n9 p9))) (hT114.2.2.1) ?_
        refine zr_callV2 (rm9 := zrm_X6_fail) X hnt zm_X6_58 (by decide) (by decide) (by decide) (Nat.le_of_ble_eq_true rfl) dX6_readCard_53 ?_
        refine zp_X6_fail ?_
        refine zr_zret X (by first | decide | assumption | (simp; done)) (by decide) (by decide) dX6_readCard_56 ?_
        exact k2 _ _ (by simp [pCard, pCard1, pCard2, hc1_2, hq119, hq123, hc124]) (zfr.er fr116) (zEr.mk hB113)
      · skip
        intro hq125
        refine zr_iconst (v := (-1 : Int32)) X dX6_readCard_42 (by decide) ?_
        refine zr_icmp_eq (tgt := 57) X dX6_readCard_43 (by decide) (fun _ => ?_) (fun h => absurd h (by decide))
        refine zr_aload1 X dX6_readCard_57 ?_
        refine zr_callV0 (rm9 := zrm_X3_advance) X hnt zm_X6_68 (by decide) (by decide) (by decide) (Nat.le_of_ble_eq_true rfl) dX6_readCard_58 ?_
        refine zp_X3_advance (a := x + 1) (t := t) (f := f) (n9 := n9) (p9 := tEnd t n9 (tNext t n9 p9)) hB113 hn hT114.2.1 hT114.2.2.2.2.1 (tEnd_le hT114.1).1 ?_
        intro J126 hg127 hB128 hT129; have hT129 : zTok J126 (x + 1) t n9 (tNext t n9 (tNext t n9 p9)) := hT129; have hR130 := hR115.ag hg127 (by omega); have fr131 : zfr I J126 x := zfr.ag fr116 hg127 (by omega); have hk4_J126 := tKind_le (t := t) (n := n9) (p := (tNext t n9 (tNext t n9 p9))); have hl4_J126 := tEndL_le (t := t) hT129.1; have hpn_J126 := hT129.1
        refine zr_aload0 X dX6_readCard_61 ?_
        refine zr_aload1 X dX6_readCard_62 ?_
        refine zr_iconst (v := (0 : Int32)) X dX6_readCard_63 (by decide) ?_
        refine zr_bipush (v := (99 : Int32)) X dX6_readCard_64 (by decide) ?_
        refine zr_callV3 (rm9 := zrm_X6_takeNumber) X hnt zm_X6_71 (by decide) (by decide) (by decide) (Nat.le_of_ble_eq_true rfl) dX6_readCard_66 ?_
        refine zp_X6_takeNumber (x := x) (t := t) (f := f) (n9 := n9) (p9 := (tNext t n9 (tNext t n9 p9))) (S := S) (lo := 0) (hi := 100) ⟨hB128, hn, hT129, hR130, hW⟩ (zmost (by decide) (by omega)) (by omega) (by omega) ?_ ?_
        · skip
          intro J132 v136 hq135 fr133 hS134; obtain ⟨hB139, hn143, hT140, hR141, hW142⟩ := hS134; have fr133 : zfr I J132 x := zfr.tr fr131 fr133; have := pNum_gt hq135; have hk4_J132 := tKind_le (t := t) (n := n9) (p := (tNext t n9 (tNext t n9 (tNext t n9 p9)))); have hl4_J132 := tEndL_le (t := t) hT140.1; have hpn_J132 := hT140.1
          refine zr_istore4 X (by decide) rfl dX6_readCard_69 ?_
          refine zr_iload4 X dX6_readCard_71 ?_
          refine zr_nif_ge X (v136) (tgt := 78) (by omega) dX6_readCard_73 (by decide) (fun _ => ?_) (fun h => absurd trivial h)
          refine zr_aload2 X dX6_readCard_78 ?_
          refine zr_iload3 X dX6_readCard_79 ?_
          refine zr_iload4 X dX6_readCard_80 ?_
          refine zr_callV2 (rm9 := zrm_X5_addCard) X hnt zm_X6_110 (by decide) (by decide) (by decide) (Nat.le_of_ble_eq_true rfl) dX6_readCard_82 ?_
          refine zn_X5_addCard (t := t) (n9 := n9) (p9 := (tNext t n9 p9)) hR141 hW142 (by omega) (by omega) ?_
          intro J144 hg145 hR146; have hB147 := zBy.ag hB139 hg145 (by omega); have hT148 := zTok.ag hT140 hg145 (by omega); have fr149 : zfr I J144 x := zfr.ag fr133 hg145 (by omega); have hW150 : zWf (qAddCard S (tNmF t n9 (tNext t n9 p9)) (nI v136)) := zWf_addCard hW142 (by omega) (tNmF_ok (by assumption) (by assumption))
          refine zr_iconst (v := (1 : Int32)) X dX6_readCard_85 (by decide) ?_
          refine zr_zret X (by first | decide | assumption | (simp; done)) (by decide) (by decide) dX6_readCard_86 ?_
          exact k1 _ _ _ (by simp [pCard, pCard1, pCard2, hc1_2, hq119, hq125, hq135]) fr149 ⟨hB147, hn, hT148, hR146, hW150⟩
        · skip
          intro J132 er137 hq135 fr133 hE138; have fr133 : zfr I J132 x := zfr.tr fr131 fr133
          refine zr_istore4 X (by decide) rfl dX6_readCard_69 ?_
          refine zr_iload4 X dX6_readCard_71 ?_
          refine zr_if_ge (tgt := 78) X dX6_readCard_73 (by decide) (fun h => absurd h (by decide)) (fun _ => ?_)
          refine zr_iconst (v := (0 : Int32)) X dX6_readCard_76 (by decide) ?_
          refine zr_zret X (by first | decide | assumption | (simp; done)) (by decide) (by decide) dX6_readCard_77 ?_
          exact k2 _ er137 (by simp [pCard, pCard1, pCard2, hc1_2, hq119, hq125, hq135]) fr133 hE138
    · skip
      intro J117 er120 hq119 fr118 hE121; have fr118 : zfr I J117 x := zfr.tr fr116 fr118
      refine zr_if_ne (tgt := 32) X dX6_readCard_27 (by decide) (fun h => absurd h (by decide)) (fun _ => ?_)
      refine zr_iconst (v := (0 : Int32)) X dX6_readCard_30 (by decide) ?_
      refine zr_zret X (by first | decide | assumption | (simp; done)) (by decide) (by decide) dX6_readCard_31 ?_
      exact k2 _ er120 (by simp [pCard, pCard1, pCard2, hc1_2, hq119]) fr118 hE121
  · skip
    intro hc1
    refine zr_if_ne (tgt := 18) X dX6_readCard_4 (by decide) (fun h => absurd h (by decide)) (fun _ => ?_)
    refine zr_aload0 X dX6_readCard_7 ?_
    refine zr_bipush (v := (-5 : Int32)) X dX6_readCard_8 (by decide) ?_
    refine zr_aload1 X dX6_readCard_10 ?_
    refine zr_getI X zf_X6_55 rfl dX6_readCard_11 ?_
    refine zr_eq (x2 := (nI p9)) (hT.2.2.1) ?_
    refine zr_callV2 (rm9 := zrm_X6_fail) X hnt zm_X6_58 (by decide) (by decide) (by decide) (Nat.le_of_ble_eq_true rfl) dX6_readCard_14 ?_
    refine zp_X6_fail ?_
    refine zr_zret X (by first | decide | assumption | (simp; done)) (by decide) (by decide) dX6_readCard_17 ?_
    exact k2 _ _ (by simp [pCard, pCard1, pCard2, hc1]) (zfr.er zfr.rf) (zEr.mk hB)
abbrev zrm_X6_readHead : Room := { frames := 6, cells := 0, slots := 0, locals := 173 }
set_option maxRecDepth 20000 in
theorem zp_X6_readHead {l : Launch} {D : va_G} {b0 : Nat} {tA : Nat → ClassId} {sa sv : Nat → Nat} {K : zKt} {I : zI} {Qp : zI → Option AV → Prop} {Xp : String → zI → Prop} {x f n9 p9 : Nat} {t : Nat → Nat} {S : zS}
    (hS : zPs I x t f n9 p9 S) (k1 : ∀ (J : zI) (p2 : Nat) (S2 : zS), pHead t n9 p9 S = .inr (p2, S2) → zfr I J x → zPs J x t f n9 p2 S2 → Qp J (some (vi 1))) (k2 : ∀ (J : zI) (er : Int32 × Nat), pHead t n9 p9 S = .inl er → zfr I J x → zEr J x t f er → Qp J (some (vi 0))) :
    zC l D b0 tA sa sv K yX6_readHead (.code yX6_readHead cX6_readHead 5 (some .boolean)) zrm_X6_readHead [vr (x + 3) 6, vr (x + 1) 3, vr (x + 94) 5] I Qp Xp := by
  obtain ⟨hB, hn, hT, hR, hW⟩ := hS
  have hf5 := hB.2.1
  have hpn := hT.1
  have hk4 := tKind_le (t := t) (n := n9) (p := p9)
  have hl4 := tEndL_le (t := t) hT.1
  have hg6 := hW.ng.1
  have hc12 := hW.nc.1
  refine zC_of (by decide +kernel) (Nat.le_of_ble_eq_true rfl) ?_
  intro p e s m args below meth c X hnt
  have X : zX p l e zrm_X6_readHead s m args below meth c RX6 cX6_readHead 5 (some .boolean) D b0 tA sa sv := X
  refine zr_lv (lv2 := [some (vr (x + 3) 6), some (vr (x + 1) 3), some (vr (x + 94) 5), none, none]) rfl ?_
  refine zr_aload1 X dX6_readHead_0 ?_
  refine zr_ldcS X 0 rfl (by decide) dX6_readHead_1 ?_
  refine zr_callV1 (rm9 := zrm_X3_isWord) X hnt zm_X6_23 (by decide) (by decide) (by decide) (Nat.le_of_ble_eq_true rfl) dX6_readHead_3 ?_
  refine zp_X3_isWord (a := x + 1) (i := 0) (t := t) (n9 := n9) (p9 := p9) (by omega) hT (by decide) ?_ ?_
  · skip
    intro hw1; have hw1 : tIsB t n9 p9 wRow = true := tIsB_iff.mpr hw1
    refine zr_if_ne (tgt := 20) X dX6_readHead_6 (by decide) (fun _ => ?_) (fun h => absurd h (by decide))
    refine zr_aload1 X dX6_readHead_20 ?_
    refine zr_callV0 (rm9 := zrm_X3_advance) X hnt zm_X6_68 (by decide) (by decide) (by decide) (Nat.le_of_ble_eq_true rfl) dX6_readHead_21 ?_
    refine zp_X3_advance (a := x + 1) (t := t) (f := f) (n9 := n9) (p9 := tEnd t n9 p9) hB hn hT.2.1 hT.2.2.2.2.1 (tEnd_le hT.1).1 ?_
    intro J151 hg152 hB153 hT154; have hT154 : zTok J151 (x + 1) t n9 (tNext t n9 p9) := hT154; have hR155 := hR.ag hg152 (by omega); have fr156 : zfr I J151 x := zfr.ag zfr.rf hg152 (by omega); have hk4_J151 := tKind_le (t := t) (n := n9) (p := (tNext t n9 p9)); have hl4_J151 := tEndL_le (t := t) hT154.1; have hpn_J151 := hT154.1
    refine zr_aload0 X dX6_readHead_24 ?_
    refine zr_aload1 X dX6_readHead_25 ?_
    refine zr_iconst (v := (1 : Int32)) X dX6_readHead_26 (by decide) ?_
    refine zr_bipush (v := (9 : Int32)) X dX6_readHead_27 (by decide) ?_
    refine zr_callV3 (rm9 := zrm_X6_takeNumber) X hnt zm_X6_71 (by decide) (by decide) (by decide) (Nat.le_of_ble_eq_true rfl) dX6_readHead_29 ?_
    refine zp_X6_takeNumber (x := x) (t := t) (f := f) (n9 := n9) (p9 := (tNext t n9 p9)) (S := S) (lo := 1) (hi := 10) ⟨hB153, hn, hT154, hR155, hW⟩ (zmost (by decide) (by omega)) (by omega) (by omega) ?_ ?_
    · skip
      intro J157 v161 hq160 fr158 hS159; obtain ⟨hB164, hn168, hT165, hR166, hW167⟩ := hS159; have fr158 : zfr I J157 x := zfr.tr fr156 fr158; have := pNum_gt hq160; have hk4_J157 := tKind_le (t := t) (n := n9) (p := (tNext t n9 (tNext t n9 p9))); have hl4_J157 := tEndL_le (t := t) hT165.1; have hpn_J157 := hT165.1
      refine zr_istore3 X (by decide) rfl dX6_readHead_32 ?_
      refine zr_iload3 X dX6_readHead_33 ?_
      refine zr_nif_ge X (v161) (tgt := 39) (by omega) dX6_readHead_34 (by decide) (fun _ => ?_) (fun h => absurd trivial h)
      refine zr_aload0 X dX6_readHead_39 ?_
      refine zr_aload1 X dX6_readHead_40 ?_
      refine zr_iconst (v := (1 : Int32)) X dX6_readHead_41 (by decide) ?_
      refine zr_iconst (v := (4 : Int32)) X dX6_readHead_42 (by decide) ?_
      refine zr_callV3 (rm9 := zrm_X6_takeNumber) X hnt zm_X6_71 (by decide) (by decide) (by decide) (Nat.le_of_ble_eq_true rfl) dX6_readHead_43 ?_
      refine zp_X6_takeNumber (x := x) (t := t) (f := f) (n9 := n9) (p9 := (tNext t n9 (tNext t n9 p9))) (S := S) (lo := 1) (hi := 5) ⟨hB164, hn, hT165, hR166, hW167⟩ (zmost (by decide) (by omega)) (by omega) (by omega) ?_ ?_
      · skip
        intro J169 v173 hq172 fr170 hS171; obtain ⟨hB176, hn180, hT177, hR178, hW179⟩ := hS171; have fr170 : zfr I J169 x := zfr.tr fr158 fr170; have := pNum_gt hq172; have hk4_J169 := tKind_le (t := t) (n := n9) (p := (tNext t n9 (tNext t n9 (tNext t n9 p9)))); have hl4_J169 := tEndL_le (t := t) hT177.1; have hpn_J169 := hT177.1
        refine zr_istore4 X (by decide) rfl dX6_readHead_46 ?_
        refine zr_iload4 X dX6_readHead_48 ?_
        refine zr_nif_ge X (v173) (tgt := 55) (by omega) dX6_readHead_50 (by decide) (fun _ => ?_) (fun h => absurd trivial h)
        refine zr_aload2 X dX6_readHead_55 ?_
        refine zr_iload3 X dX6_readHead_56 ?_
        refine zr_putI X zf_X6_75 rfl (Or.inl rfl) dX6_readHead_57 ?_
        have hR_1 : zRw _ (x + 94) (tX S 0 (nI v161)) := zRw_X hR178 (i := 0) (v := (nI v161)) (by decide) (by decide)
        refine zr_aload2 X dX6_readHead_60 ?_
        refine zr_iload4 X dX6_readHead_61 ?_
        refine zr_putI X zf_X6_80 rfl (Or.inl rfl) dX6_readHead_63 ?_
        have hR_2 : zRw _ (x + 94) (tX (tX S 0 (nI v161)) 1 (nI v173)) := zRw_X hR_1 (i := 1) (v := (nI v173)) (by decide) (by decide)
        refine zr_aload0 X dX6_readHead_66 ?_
        refine zr_aload1 X dX6_readHead_67 ?_
        refine zr_callV1 (rm9 := zrm_X6_takeSemicolon) X hnt zm_X6_62 (by decide) (by decide) (by decide) (Nat.le_of_ble_eq_true rfl) dX6_readHead_68 ?_
        have hg181 : zag J169 (zput (zput J169 (x + 94) 4 ((nI v161))) (x + 94) 5 ((nI v173))) (x + 94) 45 := by repeat (first | exact zag.rf | assumption | refine zag.put ?_ (by omega) (by omega) | refine zag.tr ?_ (by assumption) (by omega) (by omega))
        have hB182 := zBy.ag hB176 hg181 (by omega)
        have hT183 := zTok.ag hT177 hg181 (by omega)
        have fr184 : zfr I (zput (zput J169 (x + 94) 4 ((nI v161))) (x + 94) 5 ((nI v173))) x := zfr.ag fr170 hg181 (by omega)
        have hW185 : zWf (tX (tX S 0 (nI v161)) 1 (nI v173)) := zWf_hf hW (by omega) (by omega)
        refine zp_X6_takeSemicolon (x := x) (t := t) (f := f) (n9 := n9) (p9 := (tNext t n9 (tNext t n9 (tNext t n9 p9)))) (S := (tX (tX S 0 (nI v161)) 1 (nI v173))) ⟨hB182, hn, hT183, hR_2, hW185⟩ ?_ ?_
        · skip
          intro J186 p190 T191 hq189 fr187 hS188; obtain ⟨hB194, hn198, hT195, hR196, hW197⟩ := hS188; have fr187 : zfr I J186 x := zfr.tr fr184 fr187; have hk4_J186 := tKind_le (t := t) (n := n9) (p := p190); have hl4_J186 := tEndL_le (t := t) hT195.1; have hpn_J186 := hT195.1; have := hW197.ng.1; have := hW197.nc.1
          refine zr_zret X (by first | decide | assumption | (simp; done)) (by decide) (by decide) dX6_readHead_71 ?_
          exact k1 _ _ _ (by simp [pHead, pHead2, hw1, hq160, hq172, hq189]) fr187 ⟨hB194, hn, hT195, hR196, hW197⟩
        · skip
          intro J186 er192 hq189 fr187 hE193; have fr187 : zfr I J186 x := zfr.tr fr184 fr187
          refine zr_zret X (by first | decide | assumption | (simp; done)) (by decide) (by decide) dX6_readHead_71 ?_
          exact k2 _ er192 (by simp [pHead, pHead2, hw1, hq160, hq172, hq189]) fr187 hE193
      · skip
        intro J169 er174 hq172 fr170 hE175; have fr170 : zfr I J169 x := zfr.tr fr158 fr170
        refine zr_istore4 X (by decide) rfl dX6_readHead_46 ?_
        refine zr_iload4 X dX6_readHead_48 ?_
        refine zr_if_ge (tgt := 55) X dX6_readHead_50 (by decide) (fun h => absurd h (by decide)) (fun _ => ?_)
        refine zr_iconst (v := (0 : Int32)) X dX6_readHead_53 (by decide) ?_
        refine zr_zret X (by first | decide | assumption | (simp; done)) (by decide) (by decide) dX6_readHead_54 ?_
        exact k2 _ er174 (by simp [pHead, pHead2, hw1, hq160, hq172]) fr170 hE175
    · skip
      intro J157 er162 hq160 fr158 hE163; have fr158 : zfr I J157 x := zfr.tr fr156 fr158
      refine zr_istore3 X (by decide) rfl dX6_readHead_32 ?_
      refine zr_iload3 X dX6_readHead_33 ?_
      refine zr_if_ge (tgt := 39) X dX6_readHead_34 (by decide) (fun h => absurd h (by decide)) (fun _ => ?_)
      refine zr_iconst (v := (0 : Int32)) X dX6_readHead_37 (by decide) ?_
      refine zr_zret X (by first | decide | assumption | (simp; done)) (by decide) (by decide) dX6_readHead_38 ?_
      exact k2 _ er162 (by simp [pHead, pHead2, hw1, hq160]) fr158 hE163
  · skip
    intro hw1; have hw1 : ¬ tIsB t n9 p9 wRow = true := fun z => hw1 (tIsB_iff.mp z)
    refine zr_if_ne (tgt := 20) X dX6_readHead_6 (by decide) (fun h => absurd h (by decide)) (fun _ => ?_)
    refine zr_aload0 X dX6_readHead_9 ?_
    refine zr_bipush (v := (-2 : Int32)) X dX6_readHead_10 (by decide) ?_
    refine zr_aload1 X dX6_readHead_12 ?_
    refine zr_getI X zf_X6_55 rfl dX6_readHead_13 ?_
    refine zr_eq (x2 := (nI p9)) (hT.2.2.1) ?_
    refine zr_callV2 (rm9 := zrm_X6_fail) X hnt zm_X6_58 (by decide) (by decide) (by decide) (Nat.le_of_ble_eq_true rfl) dX6_readHead_16 ?_
    refine zp_X6_fail ?_
    refine zr_zret X (by first | decide | assumption | (simp; done)) (by decide) (by decide) dX6_readHead_19 ?_
    exact k2 _ _ (by simp [pHead, pHead2, hw1]) (zfr.er zfr.rf) (zEr.mk hB)
