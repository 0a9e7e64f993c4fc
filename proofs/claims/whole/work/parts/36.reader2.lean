/-! ===== the class reads statements ===== -/
theorem qWhy_0 {S : zS} {g s w : Nat} (h : qWhy S g s w = 0) : qSv (sG S g 0) s ∧ (sL S g s).length ≠ 10 ∧ (w ≠ 0 → qPos S (w - 1) = none) := by
  unfold qWhy at h
  split at h
  · cases h
  · rename_i h1
    split at h
    · cases h
    · rename_i h2
      split at h
      · cases h
      · rename_i h3
        refine ⟨Decidable.not_not.mp h1, h2, fun hw => ?_⟩
        cases e : qPos S (w - 1) with
        | none => rfl
        | some i => exact absurd ⟨hw, by rw [e]; exact Option.some_ne_none _⟩ h3
theorem zWf_join {S : zS} {g s w : Nat} (h : zWf S) (hg : g < zng S) (hw : w ≤ znc S) (h0 : qWhy S g s w = 0) : zWf (tL S g s (sL S g s ++ [w])) := by
  obtain ⟨h1, h2, h3⟩ := qWhy_0 h0
  have hl := h.len g s
  refine zWf_mk (zWa_add h.a hg hw (by omega) (fun hn c g' s' p e z => ?_)) (fun k => ?_) (fun z k => h.pan z k)
  · have := h3 hn
    rw [show w - 1 = c by omega] at this
    exact qPos_none h this g' s' p z
  · obtain ⟨p1, p2, p3⟩ := h.pad k
    have hne : ∀ a, sL S k a ≠ [] → sL (tL S g s (sL S g s ++ [w])) k a ≠ [] := fun a ha => by
      rw [tL_L]
      split
      · exact List.append_ne_nil_of_right_ne_nil _ (by simp)
      · exact ha
    refine ⟨p1, p2, ?_⟩
    rcases p3 with p3 | ⟨o, o1, o2, o3, ⟨q1, q2⟩ | ⟨q1, q2⟩⟩
    · exact Or.inl p3
    · refine Or.inr ⟨o, o1, o2, o3, Or.inl ⟨q1, ?_⟩⟩
      rcases q2 with q2 | ⟨q2, q3⟩
      · exact Or.inl q2
      · exact Or.inr ⟨q2, hne 0 q3⟩
    · refine Or.inr ⟨o, o1, o2, o3, Or.inr ⟨q1, ?_⟩⟩
      rcases q2 with q2 | ⟨q2, q3⟩
      · exact Or.inl q2
      · exact Or.inr ⟨q2, hne 1 q3⟩
theorem zWf_list {S : zS} {c : Nat} {v : Int32} (h : zWf S) (hc : c < znc S) (hv : v = 0 ∨ v = 1) : zWf (tC S c 2 v) :=
  zWf_mk (zWa_tC h.a hc (Or.inr hv)) (fun k => zPad_of (h.pad k) rfl (Or.inr rfl)) (fun z k => h.pan z k)
theorem zWf_hf {S : zS} {a b : Nat} (h : zWf S) (ha : 1 ≤ a ∧ a ≤ 9) (hb : 1 ≤ b ∧ b ≤ 4) : zWf (tX (tX S 0 (nI a)) 1 (nI b)) := by
  obtain ⟨h1, h2, h3, h4, h5, hh, h7, h8⟩ := h.a
  have eX : ∀ i, i ≠ 0 → i ≠ 1 → sX (tX (tX S 0 (nI a)) 1 (nI b)) i = sX S i := fun i h0 h1 => by rw [tX_X, if_neg h1, tX_X, if_neg h0]
  have e1 : zng (tX (tX S 0 (nI a)) 1 (nI b)) = zng S := by unfold zng; rw [eX 4 (by omega) (by omega)]
  have e2 : znc (tX (tX S 0 (nI a)) 1 (nI b)) = znc S := by unfold znc; rw [eX 5 (by omega) (by omega)]
  refine zWf_mk ?_ (fun g => zPad_of (h.pad g) rfl (Or.inr rfl)) (fun z g => ?_)
  · unfold zWa
    rw [e1, e2, eX 4 (by omega) (by omega), eX 5 (by omega) (by omega), eX 6 (by omega) (by omega), eX 7 (by omega) (by omega), eX 8 (by omega) (by omega)]
    exact ⟨h1, h2, h3, h4, h5, ⟨⟨a, ha.1, ha.2, by rw [tX_X, if_neg (by omega), tX_X, if_pos rfl]⟩, ⟨b, hb.1, hb.2, by rw [tX_X, if_pos rfl]⟩⟩, h7, h8⟩
  · refine h.pan ?_ g
    unfold zPan at z ⊢
    rw [eX 6 (by omega) (by omega), eX 7 (by omega) (by omega), eX 8 (by omega) (by omega)] at z
    exact z
theorem zn_X5_canTakeGate {l : Launch} {D : va_G} {b0 : Nat} {tA : Nat → ClassId} {sa sv : Nat → Nat} {K : Nat → Option Nat} {I : zI} {Qp : zI → Option AV → Prop} {Xp : String → zI → Prop} {a : Nat} {S : zS} (hR : zRw I a S) (hW : zWf S) (k1 : zng S < 6 → Qp I (some (vi 1))) (k2 : zng S = 6 → Qp I (some (vi 0))) :
    zC l D b0 tA sa sv K yX5_canTakeGate (.code yX5_canTakeGate cX5_canTakeGate 1 (some .boolean)) zrm_X5_canTakeGate [vr (a) 5] I Qp Xp := by
  have e2 := hR.ng hW
  have h6 := hW.ng.1
  refine zp_X5_canTakeGate (fun h => ?_) (fun _ h => k2 ?_) (fun _ h => k1 ?_)
  · rw [e2] at h; exact absurd h (nI_pos (by omega))
  · rw [e2] at h; have := (nI_leI (a := 6) (by decide) (by omega)).mp h; omega
  · rw [e2] at h; have h9 : ¬ 6 ≤ zng S := fun q => h ((nI_leI (a := 6) (by decide) (by omega)).mpr q); omega
theorem zn_X5_canTakeCard {l : Launch} {D : va_G} {b0 : Nat} {tA : Nat → ClassId} {sa sv : Nat → Nat} {K : Nat → Option Nat} {I : zI} {Qp : zI → Option AV → Prop} {Xp : String → zI → Prop} {a : Nat} {S : zS} (hR : zRw I a S) (hW : zWf S) (k1 : znc S < 12 → Qp I (some (vi 1))) (k2 : znc S = 12 → Qp I (some (vi 0))) :
    zC l D b0 tA sa sv K yX5_canTakeCard (.code yX5_canTakeCard cX5_canTakeCard 1 (some .boolean)) zrm_X5_canTakeCard [vr (a) 5] I Qp Xp := by
  have e2 := hR.nc hW
  have h6 := hW.nc.1
  refine zp_X5_canTakeCard (fun h => ?_) (fun _ h => k2 ?_) (fun _ h => k1 ?_)
  · rw [e2] at h; exact absurd h (nI_pos (by omega))
  · rw [e2] at h; have := (nI_leI (a := 12) (by decide) (by omega)).mp h; omega
  · rw [e2] at h; have h9 : ¬ 12 ≤ znc S := fun q => h ((nI_leI (a := 12) (by decide) (by omega)).mpr q); omega
theorem zn_addLast {l : Launch} {D : va_G} {b0 : Nat} {tA : Nat → ClassId} {sa sv : Nat → Nat} {K : Nat → Option Nat} {I : zI} {Qp : zI → Option AV → Prop} {Xp : String → zI → Prop} {a g s9 w : Nat} {x9 : Int32} {S : zS} {a9 : Nat} (hR : zRw I a S) (hg : g < 6) (hs : (s9 = 0 ∧ a9 = a + 1 + 2 + 5 * g + 1) ∨ (s9 = 1 ∧ a9 = a + 1 + 2 + 5 * g + 3)) (hl : (sL S g s9).length < 10) (hx : nI w - 1 = x9) (k1 : ∀ I' : zI, zag I I' a 45 → zRw I' a (tL S g s9 (sL S g s9 ++ [w])) → Qp I' none) :
    zC l D b0 tA sa sv K yX4_addLast (.code yX4_addLast cX4_addLast 2 none) zrm_X4_addLast [vr (a9) 4, vi (x9)] I Qp Xp := by
  subst hx
  have hL : zLn I a9 (sL S g s9) := by
    rcases hs with ⟨rfl, rfl⟩ | ⟨rfl, rfl⟩
    · exact (hR.2.2.1 g hg).2.1
    · exact (hR.2.2.1 g hg).2.2
  exact zq_X4_addLast hL hl (fun I' hg9 hn => k1 I' (hg9.wide (by omega) (by omega)) (zRw_L hR hg hs hg9 hn))
theorem zname_F {t : Nat → Nat} {n9 p9 : Nat} (h : tEndL t n9 p9 - p9 ≤ 6) : znm (tNmF t n9 p9) 6 = tNm t p9 (tEndL t n9 p9 - p9) := by
  have := znm_F (t := t) (p := p9) (L := tEndL t n9 p9 - p9) (fun i hi => tLet_run (n := n9) hi) 6
  rw [show min 6 (tEndL t n9 p9 - p9) = tEndL t n9 p9 - p9 by omega] at this
  exact this
theorem tNmF_ok {t : Nat → Nat} {n9 p9 : Nat} (hk : tKind t n9 p9 = 2) (h : tEndL t n9 p9 - p9 ≤ 6) : ∃ n : Nat, 1 ≤ n ∧ n ≤ 6 ∧ ∀ k : Nat, (k < n → 97 ≤ tNmF t n9 p9 k ∧ tNmF t n9 p9 k ≤ 122) ∧ (n ≤ k → tNmF t n9 p9 k = 0) := by
  refine ⟨tEndL t n9 p9 - p9, tEndL_1 hk, h, fun k => ⟨fun hk => ?_, fun hk => ?_⟩⟩
  · have h1 := tLet_iff.mp (tLet_run (t := t) (n := n9) hk)
    unfold tNmF
    rw [if_pos hk]
    exact ⟨(nI_leI (a := 97) (by decide) (by omega)).mpr h1.1, (nI_leI (b := 122) (by omega) (by decide)).mpr h1.2⟩
  · unfold tNmF; rw [if_neg (by omega)]
theorem zn_X5_addCard {l : Launch} {D : va_G} {b0 : Nat} {tA : Nat → ClassId} {sa sv : Nat → Nat} {K : Nat → Option Nat} {I : zI} {Qp : zI → Option AV → Prop} {Xp : String → zI → Prop} {a n9 p9 : Nat} {v : Int32} {t : Nat → Nat} {S : zS} (hR : zRw I a S) (hW : zWf S) (h12 : znc S < 12) (h6 : tEndL t n9 p9 - p9 ≤ 6) (k1 : ∀ I' : zI, zag I I' a 45 → zRw I' a (qAddCard S (tNmF t n9 p9) v) → Qp I' none) :
    zC l D b0 tA sa sv K yX5_addCard (.code yX5_addCard cX5_addCard 3 none) zrm_X5_addCard [vr (a) 5, vi (tNm t p9 (tEndL t n9 p9 - p9)), vi (v)] I Qp Xp := by
  rw [← zname_F h6]
  exact zq_X5_addCard hR hW h12 k1
abbrev zrm_X6_takeKnownCard : Room := { frames := 3, cells := 0, slots := 0, locals := 65 }
set_option maxRecDepth 20000 in
theorem zp_X6_takeKnownCard {l : Launch} {D : va_G} {b0 : Nat} {tA : Nat → ClassId} {sa sv : Nat → Nat} {K : Nat → Option Nat} {I : zI} {Qp : zI → Option AV → Prop} {Xp : String → zI → Prop} {x f n9 p9 : Nat} {t : Nat → Nat} {S : zS}
    (hS : zPs I x t f n9 p9 S) (k1 : ∀ (J : zI) (c : Nat), pKnown t n9 p9 S = .inr c → zfr I J x → zPs J x t f n9 (tNext t n9 p9) S → c < znc S → Qp J (some (vi (nI c)))) (k2 : ∀ (J : zI) (er : Int32 × Nat), pKnown t n9 p9 S = .inl er → zfr I J x → zEr J x t f er → Qp J (some (vi (-1)))) :
    zC l D b0 tA sa sv K yX6_takeKnownCard (.code yX6_takeKnownCard cX6_takeKnownCard 4 (some .int)) zrm_X6_takeKnownCard [vr (x + 3) 6, vr (x + 1) 3, vr (x + 94) 5] I Qp Xp := by
  obtain ⟨hB, hn, hT, hR, hW⟩ := hS
  have hf5 := hB.2.1
  have hpn := hT.1
  have hk4 := tKind_le (t := t) (n := n9) (p := p9)
  have hl4 := tEndL_le (t := t) hT.1
  have hg6 := hW.ng.1
  have hc12 := hW.nc.1
  refine zC_of (by decide +kernel) (Nat.le_of_ble_eq_true rfl) ?_
  intro p e s m args below meth c X hnt
  have X : zX p l e zrm_X6_takeKnownCard s m args below meth c RX6 cX6_takeKnownCard 4 (some .int) D b0 tA sa sv := X
  refine zr_lv (lv2 := [some (vr (x + 3) 6), some (vr (x + 1) 3), some (vr (x + 94) 5), none]) rfl ?_
  refine zr_aload0 X dX6_takeKnownCard_0 ?_
  refine zr_aload1 X dX6_takeKnownCard_1 ?_
  refine zr_callV1 (rm9 := zrm_X6_isNameNext) X hnt zm_X6_100 (by decide) (by decide) (by decide) (Nat.le_of_ble_eq_true rfl) dX6_takeKnownCard_2 ?_
  refine zp_X6_isNameNext (x := x) (t := t) (f := f) (n9 := n9) (p9 := p9) (S := S) ⟨hB, hn, hT, hR, hW⟩ ?_ ?_
  · skip
    intro hq3; obtain ⟨hk2, hL6⟩ := pName_none hq3; have hL1 := tEndL_1 hk2
    refine zr_if_ne (tgt := 10) X dX6_takeKnownCard_5 (by decide) (fun _ => ?_) (fun h => absurd h (by decide))
    refine zr_aload2 X dX6_takeKnownCard_10 ?_
    refine zr_aload1 X dX6_takeKnownCard_11 ?_
    refine zr_getI X zf_X6_103 rfl dX6_takeKnownCard_12 ?_
    refine zr_eq (x2 := (tNm t p9 (tEndL t n9 p9 - p9))) ((hT.2.2.2.2.2.2 (by assumption)).2) ?_
    refine zr_callV1 (rm9 := zrm_X5_cardNamed) X hnt zm_X6_106 (by decide) (by decide) (by decide) (Nat.le_of_ble_eq_true rfl) dX6_takeKnownCard_15 ?_
    refine zn_X5_cardNamed (t := t) (n9 := n9) (p9 := p9) hR hW (by assumption) (by assumption) ?_ ?_
    · skip
      intro c6 hq7 hc8
      refine zr_istore3 X (by decide) rfl dX6_takeKnownCard_18 ?_
      refine zr_iload3 X dX6_takeKnownCard_19 ?_
      refine zr_iconst (v := (-1 : Int32)) X dX6_takeKnownCard_20 (by decide) ?_
      refine zr_icmp_ne (tgt := 37) X dX6_takeKnownCard_21 (by decide) (fun _ => ?_) (fun h => absurd h (zm1 (by omega)))
      refine zr_aload1 X dX6_takeKnownCard_37 ?_
      refine zr_callV0 (rm9 := zrm_X3_advance) X hnt zm_X6_68 (by decide) (by decide) (by decide) (Nat.le_of_ble_eq_true rfl) dX6_takeKnownCard_38 ?_
      refine zp_X3_advance (a := x + 1) (t := t) (f := f) (n9 := n9) (p9 := tEnd t n9 p9) hB hn hT.2.1 hT.2.2.2.2.1 (tEnd_le hT.1).1 ?_
      intro J10 hg11 hB12 hT13; have hT13 : zTok J10 (x + 1) t n9 (tNext t n9 p9) := hT13; have hR14 := hR.ag hg11 (by omega); have fr15 : zfr I J10 x := zfr.ag zfr.rf hg11 (by omega); have hk4_J10 := tKind_le (t := t) (n := n9) (p := (tNext t n9 p9)); have hl4_J10 := tEndL_le (t := t) hT13.1; have hpn_J10 := hT13.1
      refine zr_iload3 X dX6_takeKnownCard_41 ?_
      refine zr_iret X (by decide) (by decide) dX6_takeKnownCard_42 ?_
      exact k1 _ c6 (by simp [pKnown, hq3, hq7, hc8]) fr15 ⟨hB12, hn, hT13, hR14, hW⟩ (by assumption)
    · skip
      intro hq9
      refine zr_istore3 X (by decide) rfl dX6_takeKnownCard_18 ?_
      refine zr_iload3 X dX6_takeKnownCard_19 ?_
      refine zr_iconst (v := (-1 : Int32)) X dX6_takeKnownCard_20 (by decide) ?_
      refine zr_icmp_ne (tgt := 37) X dX6_takeKnownCard_21 (by decide) (fun h => absurd h (by decide)) (fun _ => ?_)
      refine zr_aload0 X dX6_takeKnownCard_24 ?_
      refine zr_bipush (v := (-4 : Int32)) X dX6_takeKnownCard_25 (by decide) ?_
      refine zr_aload1 X dX6_takeKnownCard_27 ?_
      refine zr_getI X zf_X6_55 rfl dX6_takeKnownCard_28 ?_
      refine zr_eq (x2 := (nI p9)) (hT.2.2.1) ?_
      refine zr_callV2 (rm9 := zrm_X6_fail) X hnt zm_X6_58 (by decide) (by decide) (by decide) (Nat.le_of_ble_eq_true rfl) dX6_takeKnownCard_31 ?_
      refine zp_X6_fail ?_
      refine zr_popI X dX6_takeKnownCard_34 ?_
      refine zr_iconst (v := (-1 : Int32)) X dX6_takeKnownCard_35 (by decide) ?_
      refine zr_iret X (by decide) (by decide) dX6_takeKnownCard_36 ?_
      exact k2 _ _ (by simp [pKnown, hq3, hq9]) (zfr.er zfr.rf) (zEr.mk hB)
  · skip
    intro J1 er4 hq3 fr2 hE5; have fr2 : zfr I J1 x := zfr.tr zfr.rf fr2
    refine zr_if_ne (tgt := 10) X dX6_takeKnownCard_5 (by decide) (fun h => absurd h (by decide)) (fun _ => ?_)
    refine zr_iconst (v := (-1 : Int32)) X dX6_takeKnownCard_8 (by decide) ?_
    refine zr_iret X (by decide) (by decide) dX6_takeKnownCard_9 ?_
    exact k2 _ er4 (by simp [pKnown, hq3]) fr2 hE5
abbrev zrm_X6_takeListed : Room := { frames := 4, cells := 0, slots := 0, locals := 88 }
set_option maxRecDepth 20000 in
theorem zp_X6_takeListed {l : Launch} {D : va_G} {b0 : Nat} {tA : Nat → ClassId} {sa sv : Nat → Nat} {K : Nat → Option Nat} {I : zI} {Qp : zI → Option AV → Prop} {Xp : String → zI → Prop} {x f n9 p9 : Nat} {t : Nat → Nat} {S : zS}
    (hS : zPs I x t f n9 p9 S) (k1 : ∀ (J : zI) (p2 : Nat) (S2 : zS), pListed t n9 p9 S = .inr (p2, S2) → zfr I J x → zPs J x t f n9 p2 S2 → Qp J (some (vi 1))) (k2 : ∀ (J : zI) (er : Int32 × Nat), pListed t n9 p9 S = .inl er → zfr I J x → zEr J x t f er → Qp J (some (vi 0))) :
    zC l D b0 tA sa sv K yX6_takeListed (.code yX6_takeListed cX6_takeListed 4 (some .boolean)) zrm_X6_takeListed [vr (x + 3) 6, vr (x + 1) 3, vr (x + 94) 5] I Qp Xp := by
  obtain ⟨hB, hn, hT, hR, hW⟩ := hS
  have hf5 := hB.2.1
  have hpn := hT.1
  have hk4 := tKind_le (t := t) (n := n9) (p := p9)
  have hl4 := tEndL_le (t := t) hT.1
  have hg6 := hW.ng.1
  have hc12 := hW.nc.1
  refine zC_of (by decide +kernel) (Nat.le_of_ble_eq_true rfl) ?_
  intro p e s m args below meth c X hnt
  have X : zX p l e zrm_X6_takeListed s m args below meth c RX6 cX6_takeListed 4 (some .boolean) D b0 tA sa sv := X
  refine zr_lv (lv2 := [some (vr (x + 3) 6), some (vr (x + 1) 3), some (vr (x + 94) 5), none]) rfl ?_
  refine zr_aload0 X dX6_takeListed_0 ?_
  refine zr_aload1 X dX6_takeListed_1 ?_
  refine zr_aload2 X dX6_takeListed_2 ?_
  refine zr_callV2 (rm9 := zrm_X6_takeKnownCard) X hnt zm_X6_117 (by decide) (by decide) (by decide) (Nat.le_of_ble_eq_true rfl) dX6_takeListed_3 ?_
  refine zp_X6_takeKnownCard (x := x) (t := t) (f := f) (n9 := n9) (p9 := p9) (S := S) ⟨hB, hn, hT, hR, hW⟩ ?_ ?_
  · skip
    intro J16 c20 hq19 fr17 hS18 hc28; obtain ⟨hB23, hn27, hT24, hR25, hW26⟩ := hS18; have fr17 : zfr I J16 x := zfr.tr zfr.rf fr17; have hk4_J16 := tKind_le (t := t) (n := n9) (p := (tNext t n9 p9)); have hl4_J16 := tEndL_le (t := t) hT24.1; have hpn_J16 := hT24.1; have := hW26.nc.1
    refine zr_istore3 X (by decide) rfl dX6_takeListed_6 ?_
    refine zr_aload2 X dX6_takeListed_7 ?_
    refine zr_iload3 X dX6_takeListed_8 ?_
    refine zr_callV1 (rm9 := zrm_X5_hasCard) X hnt zm_X6_121 (by decide) (by decide) (by decide) (Nat.le_of_ble_eq_true rfl) dX6_takeListed_9 ?_
    refine zn_X5_hasCard hR25 hW26 (by omega) (fun _ => ?_) (fun h => absurd (by omega) h)
    refine zr_if_ne (tgt := 17) X dX6_takeListed_12 (by decide) (fun _ => ?_) (fun h => absurd h (by decide))
    refine zr_aload2 X dX6_takeListed_17 ?_
    refine zr_getR X zf_X6_125 rfl (by decide) (by decide) dX6_takeListed_18 ?_
    refine zr_iload3 X dX6_takeListed_21 ?_
    refine zr_aaldN X rfl rfl (by decide) (show _ < 12 from (by first | assumption | omega)) dX6_takeListed_22 ?_
    refine zr_iconst (v := (1 : Int32)) X dX6_takeListed_23 (by decide) ?_
    refine zr_putI X zf_X6_129 rfl (Or.inr (by first | decide | assumption | (simp; done))) dX6_takeListed_24 ?_
    have hR_1 : zRw _ (x + 94) (tC S c20 2 (1 : Int32)) := zRw_C hR25 (show c20 < 12 by omega) (j := 2) (v := (1 : Int32)) (by decide) rfl
    refine zr_iconst (v := (1 : Int32)) X dX6_takeListed_27 (by decide) ?_
    refine zr_zret X (by first | decide | assumption | (simp; done)) (by decide) (by decide) dX6_takeListed_28 ?_
    have hg29 : zag J16 (zput J16 (x + 94 + 2 + 31 + 1 * c20) 3 ((1 : Int32))) (x + 94) 45 := by repeat (first | exact zag.rf | assumption | refine zag.put ?_ (by omega) (by omega) | refine zag.tr ?_ (by assumption) (by omega) (by omega))
    have hB30 := zBy.ag hB23 hg29 (by omega)
    have hT31 := zTok.ag hT24 hg29 (by omega)
    have fr32 : zfr I (zput J16 (x + 94 + 2 + 31 + 1 * c20) 3 ((1 : Int32))) x := zfr.ag fr17 hg29 (by omega)
    have hW33 : zWf (tC S c20 2 (1 : Int32)) := zWf_list hW26 (by assumption) (Or.inr rfl)
    exact k1 _ _ _ (by simp [pListed, hq19]) fr32 ⟨hB30, hn, hT31, hR_1, hW33⟩
  · skip
    intro J16 er21 hq19 fr17 hE22; have fr17 : zfr I J16 x := zfr.tr zfr.rf fr17
    refine zr_istore3 X (by decide) rfl dX6_takeListed_6 ?_
    refine zr_aload2 X dX6_takeListed_7 ?_
    refine zr_iload3 X dX6_takeListed_8 ?_
    refine zr_callV1 (rm9 := zrm_X5_hasCard) X hnt zm_X6_121 (by decide) (by decide) (by decide) (Nat.le_of_ble_eq_true rfl) dX6_takeListed_9 ?_
    refine zq_X5_hasCard (fun h => absurd (by decide) h.1) (fun _ => ?_)
    refine zr_if_ne (tgt := 17) X dX6_takeListed_12 (by decide) (fun h => absurd h (by decide)) (fun _ => ?_)
    refine zr_iconst (v := (0 : Int32)) X dX6_takeListed_15 (by decide) ?_
    refine zr_zret X (by first | decide | assumption | (simp; done)) (by decide) (by decide) dX6_takeListed_16 ?_
    exact k2 _ er21 (by simp [pListed, hq19]) fr17 hE22
abbrev zrm_X6_readTick : Room := { frames := 4, cells := 0, slots := 0, locals := 93 }
set_option maxRecDepth 20000 in
theorem zp_X6_readTick {l : Launch} {D : va_G} {b0 : Nat} {tA : Nat → ClassId} {sa sv : Nat → Nat} {K : Nat → Option Nat} {I : zI} {Qp : zI → Option AV → Prop} {Xp : String → zI → Prop} {x f n9 p9 : Nat} {t : Nat → Nat} {S : zS}
    (hS : zPs I x t f n9 p9 S) (k1 : ∀ (J : zI) (p2 : Nat) (S2 : zS), pTick t n9 p9 S = .inr (p2, S2) → zfr I J x → zPs J x t f n9 p2 S2 → Qp J (some (vi 1))) (k2 : ∀ (J : zI) (er : Int32 × Nat), pTick t n9 p9 S = .inl er → zfr I J x → zEr J x t f er → Qp J (some (vi 0))) :
    zC l D b0 tA sa sv K yX6_readTick (.code yX6_readTick cX6_readTick 4 (some .boolean)) zrm_X6_readTick [vr (x + 3) 6, vr (x + 1) 3, vr (x + 94) 5] I Qp Xp := by
  obtain ⟨hB, hn, hT, hR, hW⟩ := hS
  have hf5 := hB.2.1
  have hpn := hT.1
  have hk4 := tKind_le (t := t) (n := n9) (p := p9)
  have hl4 := tEndL_le (t := t) hT.1
  have hg6 := hW.ng.1
  have hc12 := hW.nc.1
  refine zC_of (by decide +kernel) (Nat.le_of_ble_eq_true rfl) ?_
  intro p e s m args below meth c X hnt
  have X : zX p l e zrm_X6_readTick s m args below meth c RX6 cX6_readTick 4 (some .boolean) D b0 tA sa sv := X
  refine zr_lv (lv2 := [some (vr (x + 3) 6), some (vr (x + 1) 3), some (vr (x + 94) 5), none]) rfl ?_
  refine zr_aload1 X dX6_readTick_0 ?_
  refine zr_callV0 (rm9 := zrm_X3_advance) X hnt zm_X6_68 (by decide) (by decide) (by decide) (Nat.le_of_ble_eq_true rfl) dX6_readTick_1 ?_
  refine zp_X3_advance (a := x + 1) (t := t) (f := f) (n9 := n9) (p9 := tEnd t n9 p9) hB hn hT.2.1 hT.2.2.2.2.1 (tEnd_le hT.1).1 ?_
  intro J34 hg35 hB36 hT37; have hT37 : zTok J34 (x + 1) t n9 (tNext t n9 p9) := hT37; have hR38 := hR.ag hg35 (by omega); have fr39 : zfr I J34 x := zfr.ag zfr.rf hg35 (by omega); have hk4_J34 := tKind_le (t := t) (n := n9) (p := (tNext t n9 p9)); have hl4_J34 := tEndL_le (t := t) hT37.1; have hpn_J34 := hT37.1
  refine zr_aload0 X dX6_readTick_4 ?_
  refine zr_aload1 X dX6_readTick_5 ?_
  refine zr_iconst (v := (1 : Int32)) X dX6_readTick_6 (by decide) ?_
  refine zr_bipush (v := (99 : Int32)) X dX6_readTick_7 (by decide) ?_
  refine zr_callV3 (rm9 := zrm_X6_takeNumber) X hnt zm_X6_71 (by decide) (by decide) (by decide) (Nat.le_of_ble_eq_true rfl) dX6_readTick_9 ?_
  refine zp_X6_takeNumber (x := x) (t := t) (f := f) (n9 := n9) (p9 := (tNext t n9 p9)) (S := S) (lo := 1) (hi := 100) ⟨hB36, hn, hT37, hR38, hW⟩ (zmost (by decide) (by omega)) (by omega) (by omega) ?_ ?_
  · skip
    intro J40 v44 hq43 fr41 hS42; obtain ⟨hB47, hn51, hT48, hR49, hW50⟩ := hS42; have fr41 : zfr I J40 x := zfr.tr fr39 fr41; have := pNum_gt hq43; have hk4_J40 := tKind_le (t := t) (n := n9) (p := (tNext t n9 (tNext t n9 p9))); have hl4_J40 := tEndL_le (t := t) hT48.1; have hpn_J40 := hT48.1
    refine zr_istore3 X (by decide) rfl dX6_readTick_12 ?_
    refine zr_iload3 X dX6_readTick_13 ?_
    refine zr_nif_ge X (v44) (tgt := 19) (by omega) dX6_readTick_14 (by decide) (fun _ => ?_) (fun h => absurd trivial h)
    refine zr_aload2 X dX6_readTick_19 ?_
    refine zr_iload3 X dX6_readTick_20 ?_
    refine zr_callV1 (rm9 := zrm_X5_passTicks) X hnt zm_X6_160 (by decide) (by decide) (by decide) (Nat.le_of_ble_eq_true rfl) dX6_readTick_21 ?_
    refine zp_X5_passTicks hR49 hW50 (by omega) ?_
    intro J52 hg53 hR54; have hB55 := zBy.ag hB47 hg53 (by omega); have hT56 := zTok.ag hT48 hg53 (by omega); have fr57 : zfr I J52 x := zfr.ag fr41 hg53 (by omega); have hW58 : zWf (qTicks S v44) := zWf_ticks hW50 _
    refine zr_iconst (v := (1 : Int32)) X dX6_readTick_24 (by decide) ?_
    refine zr_zret X (by first | decide | assumption | (simp; done)) (by decide) (by decide) dX6_readTick_25 ?_
    exact k1 _ _ _ (by simp [pTick, hq43]) fr57 ⟨hB55, hn, hT56, hR54, hW58⟩
  · skip
    intro J40 er45 hq43 fr41 hE46; have fr41 : zfr I J40 x := zfr.tr fr39 fr41
    refine zr_istore3 X (by decide) rfl dX6_readTick_12 ?_
    refine zr_iload3 X dX6_readTick_13 ?_
    refine zr_if_ge (tgt := 19) X dX6_readTick_14 (by decide) (fun h => absurd h (by decide)) (fun _ => ?_)
    refine zr_iconst (v := (0 : Int32)) X dX6_readTick_17 (by decide) ?_
    refine zr_zret X (by first | decide | assumption | (simp; done)) (by decide) (by decide) dX6_readTick_18 ?_
    exact k2 _ er45 (by simp [pTick, hq43]) fr41 hE46
abbrev zrm_X6_readKey : Room := { frames := 4, cells := 0, slots := 0, locals := 89 }
set_option maxRecDepth 20000 in
theorem zp_X6_readKey {l : Launch} {D : va_G} {b0 : Nat} {tA : Nat → ClassId} {sa sv : Nat → Nat} {K : Nat → Option Nat} {I : zI} {Qp : zI → Option AV → Prop} {Xp : String → zI → Prop} {x f n9 p9 : Nat} {t : Nat → Nat} {S : zS}
    (hS : zPs I x t f n9 p9 S) (k1 : ∀ (J : zI) (p2 : Nat) (S2 : zS), pKey t n9 p9 S = .inr (p2, S2) → zfr I J x → zPs J x t f n9 p2 S2 → Qp J (some (vi 1))) (k2 : ∀ (J : zI) (er : Int32 × Nat), pKey t n9 p9 S = .inl er → zfr I J x → zEr J x t f er → Qp J (some (vi 0))) :
    zC l D b0 tA sa sv K yX6_readKey (.code yX6_readKey cX6_readKey 4 (some .boolean)) zrm_X6_readKey [vr (x + 3) 6, vr (x + 1) 3, vr (x + 94) 5] I Qp Xp := by
  obtain ⟨hB, hn, hT, hR, hW⟩ := hS
  have hf5 := hB.2.1
  have hpn := hT.1
  have hk4 := tKind_le (t := t) (n := n9) (p := p9)
  have hl4 := tEndL_le (t := t) hT.1
  have hg6 := hW.ng.1
  have hc12 := hW.nc.1
  refine zC_of (by decide +kernel) (Nat.le_of_ble_eq_true rfl) ?_
  intro p e s m args below meth c X hnt
  have X : zX p l e zrm_X6_readKey s m args below meth c RX6 cX6_readKey 4 (some .boolean) D b0 tA sa sv := X
  refine zr_lv (lv2 := [some (vr (x + 3) 6), some (vr (x + 1) 3), some (vr (x + 94) 5), none]) rfl ?_
  refine zr_aload1 X dX6_readKey_0 ?_
  refine zr_callV0 (rm9 := zrm_X3_advance) X hnt zm_X6_68 (by decide) (by decide) (by decide) (Nat.le_of_ble_eq_true rfl) dX6_readKey_1 ?_
  refine zp_X3_advance (a := x + 1) (t := t) (f := f) (n9 := n9) (p9 := tEnd t n9 p9) hB hn hT.2.1 hT.2.2.2.2.1 (tEnd_le hT.1).1 ?_
  intro J59 hg60 hB61 hT62; have hT62 : zTok J59 (x + 1) t n9 (tNext t n9 p9) := hT62; have hR63 := hR.ag hg60 (by omega); have fr64 : zfr I J59 x := zfr.ag zfr.rf hg60 (by omega); have hk4_J59 := tKind_le (t := t) (n := n9) (p := (tNext t n9 p9)); have hl4_J59 := tEndL_le (t := t) hT62.1; have hpn_J59 := hT62.1
  refine zr_aload0 X dX6_readKey_4 ?_
  refine zr_aload1 X dX6_readKey_5 ?_
  refine zr_iconst (v := (0 : Int32)) X dX6_readKey_6 (by decide) ?_
  refine zr_iconst (v := (2 : Int32)) X dX6_readKey_7 (by decide) ?_
  refine zr_callV3 (rm9 := zrm_X6_takeNumber) X hnt zm_X6_71 (by decide) (by decide) (by decide) (Nat.le_of_ble_eq_true rfl) dX6_readKey_8 ?_
  refine zp_X6_takeNumber (x := x) (t := t) (f := f) (n9 := n9) (p9 := (tNext t n9 p9)) (S := S) (lo := 0) (hi := 3) ⟨hB61, hn, hT62, hR63, hW⟩ (zmost (by decide) (by omega)) (by omega) (by omega) ?_ ?_
  · skip
    intro J65 v69 hq68 fr66 hS67; obtain ⟨hB72, hn76, hT73, hR74, hW75⟩ := hS67; have fr66 : zfr I J65 x := zfr.tr fr64 fr66; have := pNum_gt hq68; have hk4_J65 := tKind_le (t := t) (n := n9) (p := (tNext t n9 (tNext t n9 p9))); have hl4_J65 := tEndL_le (t := t) hT73.1; have hpn_J65 := hT73.1
    refine zr_istore3 X (by decide) rfl dX6_readKey_11 ?_
    refine zr_iload3 X dX6_readKey_12 ?_
    refine zr_nif_ge X (v69) (tgt := 18) (by omega) dX6_readKey_13 (by decide) (fun _ => ?_) (fun h => absurd trivial h)
    refine zr_aload2 X dX6_readKey_18 ?_
    refine zr_iload3 X dX6_readKey_19 ?_
    refine zr_callV1 (rm9 := zrm_X5_turnKey) X hnt zm_X6_163 (by decide) (by decide) (by decide) (Nat.le_of_ble_eq_true rfl) dX6_readKey_20 ?_
    refine zp_X5_turnKey hR74 hW75.keys (by omega) ?_
    intro J77 hg78 hR79; have hB80 := zBy.ag hB72 hg78 (by omega); have hT81 := zTok.ag hT73 hg78 (by omega); have fr82 : zfr I J77 x := zfr.ag fr66 hg78 (by omega); have hW83 : zWf (qKey S v69) := zWf_key hW75 (by omega)
    refine zr_iconst (v := (1 : Int32)) X dX6_readKey_23 (by decide) ?_
    refine zr_zret X (by first | decide | assumption | (simp; done)) (by decide) (by decide) dX6_readKey_24 ?_
    exact k1 _ _ _ (by simp [pKey, hq68]) fr82 ⟨hB80, hn, hT81, hR79, hW83⟩
  · skip
    intro J65 er70 hq68 fr66 hE71; have fr66 : zfr I J65 x := zfr.tr fr64 fr66
    refine zr_istore3 X (by decide) rfl dX6_readKey_11 ?_
    refine zr_iload3 X dX6_readKey_12 ?_
    refine zr_if_ge (tgt := 18) X dX6_readKey_13 (by decide) (fun h => absurd h (by decide)) (fun _ => ?_)
    refine zr_iconst (v := (0 : Int32)) X dX6_readKey_16 (by decide) ?_
    refine zr_zret X (by first | decide | assumption | (simp; done)) (by decide) (by decide) dX6_readKey_17 ?_
    exact k2 _ er70 (by simp [pKey, hq68]) fr66 hE71
abbrev zrm_X6_readGate : Room := { frames := 6, cells := 0, slots := 0, locals := 173 }
set_option maxRecDepth 20000 in
theorem zp_X6_readGate {l : Launch} {D : va_G} {b0 : Nat} {tA : Nat → ClassId} {sa sv : Nat → Nat} {K : Nat → Option Nat} {I : zI} {Qp : zI → Option AV → Prop} {Xp : String → zI → Prop} {x f n9 p9 : Nat} {t : Nat → Nat} {S : zS}
    (hS : zPs I x t f n9 p9 S) (k1 : ∀ (J : zI) (p2 : Nat) (S2 : zS), pGate t n9 p9 S = .inr (p2, S2) → zfr I J x → zPs J x t f n9 p2 S2 → Qp J (some (vi 1))) (k2 : ∀ (J : zI) (er : Int32 × Nat), pGate t n9 p9 S = .inl er → zfr I J x → zEr J x t f er → Qp J (some (vi 0))) :
    zC l D b0 tA sa sv K yX6_readGate (.code yX6_readGate cX6_readGate 4 (some .boolean)) zrm_X6_readGate [vr (x + 3) 6, vr (x + 1) 3, vr (x + 94) 5] I Qp Xp := by
  obtain ⟨hB, hn, hT, hR, hW⟩ := hS
  have hf5 := hB.2.1
  have hpn := hT.1
  have hk4 := tKind_le (t := t) (n := n9) (p := p9)
  have hl4 := tEndL_le (t := t) hT.1
  have hg6 := hW.ng.1
  have hc12 := hW.nc.1
  refine zC_of (by decide +kernel) (Nat.le_of_ble_eq_true rfl) ?_
  intro p e s m args below meth c X hnt
  have X : zX p l e zrm_X6_readGate s m args below meth c RX6 cX6_readGate 4 (some .boolean) D b0 tA sa sv := X
  refine zr_lv (lv2 := [some (vr (x + 3) 6), some (vr (x + 1) 3), some (vr (x + 94) 5), none]) rfl ?_
  refine zr_aload2 X dX6_readGate_0 ?_
  refine zr_callV0 (rm9 := zrm_X5_canTakeGate) X hnt zm_X6_83 (by decide) (by decide) (by decide) (Nat.le_of_ble_eq_true rfl) dX6_readGate_1 ?_
  refine zn_X5_canTakeGate hR hW ?_ ?_
  · skip
    intro hc1; have hc1_2 : ¬ zng S = 6 := by omega
    refine zr_if_ne (tgt := 18) X dX6_readGate_4 (by decide) (fun _ => ?_) (fun h => absurd h (by decide))
    refine zr_aload1 X dX6_readGate_18 ?_
    refine zr_callV0 (rm9 := zrm_X3_advance) X hnt zm_X6_68 (by decide) (by decide) (by decide) (Nat.le_of_ble_eq_true rfl) dX6_readGate_19 ?_
    refine zp_X3_advance (a := x + 1) (t := t) (f := f) (n9 := n9) (p9 := tEnd t n9 p9) hB hn hT.2.1 hT.2.2.2.2.1 (tEnd_le hT.1).1 ?_
    intro J84 hg85 hB86 hT87; have hT87 : zTok J84 (x + 1) t n9 (tNext t n9 p9) := hT87; have hR88 := hR.ag hg85 (by omega); have fr89 : zfr I J84 x := zfr.ag zfr.rf hg85 (by omega); have hk4_J84 := tKind_le (t := t) (n := n9) (p := (tNext t n9 p9)); have hl4_J84 := tEndL_le (t := t) hT87.1; have hpn_J84 := hT87.1
    refine zr_aload1 X dX6_readGate_22 ?_
    refine zr_ldcS X 2 rfl (by decide) dX6_readGate_23 ?_
    refine zr_callV1 (rm9 := zrm_X3_isWord) X hnt zm_X6_23 (by decide) (by decide) (by decide) (Nat.le_of_ble_eq_true rfl) dX6_readGate_25 ?_
    refine zp_X3_isWord (a := x + 1) (i := 2) (t := t) (n9 := n9) (p9 := (tNext t n9 p9)) (by omega) hT87 (by decide) ?_ ?_
    · skip
      intro hw2; have hw2 : tIsB t n9 (tNext t n9 p9) wBoth = true := tIsB_iff.mpr hw2
      refine zr_if_eq (tgt := 35) X dX6_readGate_28 (by decide) (fun h => absurd h (by decide)) (fun _ => ?_)
      refine zr_iconst (v := (2 : Int32)) X dX6_readGate_31 (by decide) ?_
      refine zr_goto (tgt := 62) X dX6_readGate_32 (by decide) ?_
      refine zr_istore3 X (by decide) rfl dX6_readGate_62 ?_
      refine zr_iload3 X dX6_readGate_63 ?_
      refine zr_iconst (v := (-1 : Int32)) X dX6_readGate_64 (by decide) ?_
      refine zr_icmp_ne (tgt := 79) X dX6_readGate_65 (by decide) (fun _ => ?_) (fun h => absurd h (by decide))
      refine zr_aload1 X dX6_readGate_79 ?_
      refine zr_callV0 (rm9 := zrm_X3_advance) X hnt zm_X6_68 (by decide) (by decide) (by decide) (Nat.le_of_ble_eq_true rfl) dX6_readGate_80 ?_
      refine zp_X3_advance (a := x + 1) (t := t) (f := f) (n9 := n9) (p9 := tEnd t n9 (tNext t n9 p9)) hB86 hn hT87.2.1 hT87.2.2.2.2.1 (tEnd_le hT87.1).1 ?_
      intro J90 hg91 hB92 hT93; have hT93 : zTok J90 (x + 1) t n9 (tNext t n9 (tNext t n9 p9)) := hT93; have hR94 := hR88.ag hg91 (by omega); have fr95 : zfr I J90 x := zfr.ag fr89 hg91 (by omega); have hk4_J90 := tKind_le (t := t) (n := n9) (p := (tNext t n9 (tNext t n9 p9))); have hl4_J90 := tEndL_le (t := t) hT93.1; have hpn_J90 := hT93.1
      refine zr_aload2 X dX6_readGate_83 ?_
      refine zr_iload3 X dX6_readGate_84 ?_
      refine zr_callV1 (rm9 := zrm_X5_addGate) X hnt zm_X6_93 (by decide) (by decide) (by decide) (Nat.le_of_ble_eq_true rfl) dX6_readGate_85 ?_
      refine zq_X5_addGate hR94 hW (by omega) ?_
      intro J96 hg97 hR98; have hB99 := zBy.ag hB92 hg97 (by omega); have hT100 := zTok.ag hT93 hg97 (by omega); have fr101 : zfr I J96 x := zfr.ag fr95 hg97 (by omega); have hW102 : zWf (qAddGate S (2 : Int32)) := zWf_addGate hW (by omega) (by decide)
      refine zr_iconst (v := (1 : Int32)) X dX6_readGate_88 (by decide) ?_
      refine zr_zret X (by first | decide | assumption | (simp; done)) (by decide) (by decide) dX6_readGate_89 ?_
      exact k1 _ _ _ (by simp [pGate, hc1_2, hw2]) fr101 ⟨hB99, hn, hT100, hR98, hW102⟩
    · skip
      intro hw2; have hw2 : ¬ tIsB t n9 (tNext t n9 p9) wBoth = true := fun z => hw2 (tIsB_iff.mp z)
      refine zr_if_eq (tgt := 35) X dX6_readGate_28 (by decide) (fun _ => ?_) (fun h => absurd h (by decide))
      refine zr_aload1 X dX6_readGate_35 ?_
      refine zr_ldcS X 3 rfl (by decide) dX6_readGate_36 ?_
      refine zr_callV1 (rm9 := zrm_X3_isWord) X hnt zm_X6_23 (by decide) (by decide) (by decide) (Nat.le_of_ble_eq_true rfl) dX6_readGate_38 ?_
      refine zp_X3_isWord (a := x + 1) (i := 3) (t := t) (n9 := n9) (p9 := (tNext t n9 p9)) (by omega) hT87 (by decide) ?_ ?_
      · skip
        intro hw3; have hw3 : tIsB t n9 (tNext t n9 p9) wOut = true := tIsB_iff.mpr hw3
        refine zr_if_eq (tgt := 48) X dX6_readGate_41 (by decide) (fun h => absurd h (by decide)) (fun _ => ?_)
        refine zr_iconst (v := (1 : Int32)) X dX6_readGate_44 (by decide) ?_
        refine zr_goto (tgt := 62) X dX6_readGate_45 (by decide) ?_
        refine zr_istore3 X (by decide) rfl dX6_readGate_62 ?_
        refine zr_iload3 X dX6_readGate_63 ?_
        refine zr_iconst (v := (-1 : Int32)) X dX6_readGate_64 (by decide) ?_
        refine zr_icmp_ne (tgt := 79) X dX6_readGate_65 (by decide) (fun _ => ?_) (fun h => absurd h (by decide))
        refine zr_aload1 X dX6_readGate_79 ?_
        refine zr_callV0 (rm9 := zrm_X3_advance) X hnt zm_X6_68 (by decide) (by decide) (by decide) (Nat.le_of_ble_eq_true rfl) dX6_readGate_80 ?_
        refine zp_X3_advance (a := x + 1) (t := t) (f := f) (n9 := n9) (p9 := tEnd t n9 (tNext t n9 p9)) hB86 hn hT87.2.1 hT87.2.2.2.2.1 (tEnd_le hT87.1).1 ?_
        intro J103 hg104 hB105 hT106; have hT106 : zTok J103 (x + 1) t n9 (tNext t n9 (tNext t n9 p9)) := hT106; have hR107 := hR88.ag hg104 (by omega); have fr108 : zfr I J103 x := zfr.ag fr89 hg104 (by omega); have hk4_J103 := tKind_le (t := t) (n := n9) (p := (tNext t n9 (tNext t n9 p9))); have hl4_J103 := tEndL_le (t := t) hT106.1; have hpn_J103 := hT106.1
        refine zr_aload2 X dX6_readGate_83 ?_
        refine zr_iload3 X dX6_readGate_84 ?_
        refine zr_callV1 (rm9 := zrm_X5_addGate) X hnt zm_X6_93 (by decide) (by decide) (by decide) (Nat.le_of_ble_eq_true rfl) dX6_readGate_85 ?_
        refine zq_X5_addGate hR107 hW (by omega) ?_
        intro J109 hg110 hR111; have hB112 := zBy.ag hB105 hg110 (by omega); have hT113 := zTok.ag hT106 hg110 (by omega); have fr114 : zfr I J109 x := zfr.ag fr108 hg110 (by omega); have hW115 : zWf (qAddGate S (1 : Int32)) := zWf_addGate hW (by omega) (by decide)
        refine zr_iconst (v := (1 : Int32)) X dX6_readGate_88 (by decide) ?_
        refine zr_zret X (by first | decide | assumption | (simp; done)) (by decide) (by decide) dX6_readGate_89 ?_
        exact k1 _ _ _ (by simp [pGate, hc1_2, hw2, hw3]) fr114 ⟨hB112, hn, hT113, hR111, hW115⟩
      · skip
        intro hw3; have hw3 : ¬ tIsB t n9 (tNext t n9 p9) wOut = true := fun z => hw3 (tIsB_iff.mp z)
        refine zr_if_eq (tgt := 48) X dX6_readGate_41 (by decide) (fun _ => ?_) (fun h => absurd h (by decide))
        refine zr_aload1 X dX6_readGate_48 ?_
        refine zr_ldcS X 4 rfl (by decide) dX6_readGate_49 ?_
        refine zr_callV1 (rm9 := zrm_X3_isWord) X hnt zm_X6_23 (by decide) (by decide) (by decide) (Nat.le_of_ble_eq_true rfl) dX6_readGate_51 ?_
        refine zp_X3_isWord (a := x + 1) (i := 4) (t := t) (n9 := n9) (p9 := (tNext t n9 p9)) (by omega) hT87 (by decide) ?_ ?_
        · skip
          intro hw4; have hw4 : tIsB t n9 (tNext t n9 p9) wIn = true := tIsB_iff.mpr hw4
          refine zr_if_eq (tgt := 61) X dX6_readGate_54 (by decide) (fun h => absurd h (by decide)) (fun _ => ?_)
          refine zr_iconst (v := (0 : Int32)) X dX6_readGate_57 (by decide) ?_
          refine zr_goto (tgt := 62) X dX6_readGate_58 (by decide) ?_
          refine zr_istore3 X (by decide) rfl dX6_readGate_62 ?_
          refine zr_iload3 X dX6_readGate_63 ?_
          refine zr_iconst (v := (-1 : Int32)) X dX6_readGate_64 (by decide) ?_
          refine zr_icmp_ne (tgt := 79) X dX6_readGate_65 (by decide) (fun _ => ?_) (fun h => absurd h (by decide))
          refine zr_aload1 X dX6_readGate_79 ?_
          refine zr_callV0 (rm9 := zrm_X3_advance) X hnt zm_X6_68 (by decide) (by decide) (by decide) (Nat.le_of_ble_eq_true rfl) dX6_readGate_80 ?_
          refine zp_X3_advance (a := x + 1) (t := t) (f := f) (n9 := n9) (p9 := tEnd t n9 (tNext t n9 p9)) hB86 hn hT87.2.1 hT87.2.2.2.2.1 (tEnd_le hT87.1).1 ?_
          intro J116 hg117 hB118 hT119; have hT119 : zTok J116 (x + 1) t n9 (tNext t n9 (tNext t n9 p9)) := hT119; have hR120 := hR88.ag hg117 (by omega); have fr121 : zfr I J116 x := zfr.ag fr89 hg117 (by omega); have hk4_J116 := tKind_le (t := t) (n := n9) (p := (tNext t n9 (tNext t n9 p9))); have hl4_J116 := tEndL_le (t := t) hT119.1; have hpn_J116 := hT119.1
          refine zr_aload2 X dX6_readGate_83 ?_
          refine zr_iload3 X dX6_readGate_84 ?_
          refine zr_callV1 (rm9 := zrm_X5_addGate) X hnt zm_X6_93 (by decide) (by decide) (by decide) (Nat.le_of_ble_eq_true rfl) dX6_readGate_85 ?_
          refine zq_X5_addGate hR120 hW (by omega) ?_
          intro J122 hg123 hR124; have hB125 := zBy.ag hB118 hg123 (by omega); have hT126 := zTok.ag hT119 hg123 (by omega); have fr127 : zfr I J122 x := zfr.ag fr121 hg123 (by omega); have hW128 : zWf (qAddGate S (0 : Int32)) := zWf_addGate hW (by omega) (by decide)
          refine zr_iconst (v := (1 : Int32)) X dX6_readGate_88 (by decide) ?_
          refine zr_zret X (by first | decide | assumption | (simp; done)) (by decide) (by decide) dX6_readGate_89 ?_
          exact k1 _ _ _ (by simp [pGate, hc1_2, hw2, hw3, hw4]) fr127 ⟨hB125, hn, hT126, hR124, hW128⟩
        · skip
          intro hw4; have hw4 : ¬ tIsB t n9 (tNext t n9 p9) wIn = true := fun z => hw4 (tIsB_iff.mp z)
          refine zr_if_eq (tgt := 61) X dX6_readGate_54 (by decide) (fun _ => ?_) (fun h => absurd h (by decide))
          refine zr_iconst (v := (-1 : Int32)) X dX6_readGate_61 (by decide) ?_
          refine zr_istore3 X (by decide) rfl dX6_readGate_62 ?_
          refine zr_iload3 X dX6_readGate_63 ?_
          refine zr_iconst (v := (-1 : Int32)) X dX6_readGate_64 (by decide) ?_
          refine zr_icmp_ne (tgt := 79) X dX6_readGate_65 (by decide) (fun h => absurd h (by decide)) (fun _ => ?_)
          refine zr_aload0 X dX6_readGate_68 ?_
          refine zr_bipush (v := (-2 : Int32)) X dX6_readGate_69 (by decide) ?_
          refine zr_aload1 X dX6_readGate_71 ?_
          refine zr_getI X zf_X6_55 rfl dX6_readGate_72 ?_
          refine zr_eq (x2 := (nI (tNext t n9 p9))) (hT87.2.2.1) ?_
          refine zr_callV2 (rm9 := zrm_X6_fail) X hnt zm_X6_58 (by decide) (by decide) (by decide) (Nat.le_of_ble_eq_true rfl) dX6_readGate_75 ?_
          refine zp_X6_fail ?_
          refine zr_zret X (by first | decide | assumption | (simp; done)) (by decide) (by decide) dX6_readGate_78 ?_
          exact k2 _ _ (by simp [pGate, hc1_2, hw2, hw3, hw4]) (zfr.er fr89) (zEr.mk hB86)
  · skip
    intro hc1
    refine zr_if_ne (tgt := 18) X dX6_readGate_4 (by decide) (fun h => absurd h (by decide)) (fun _ => ?_)
    refine zr_aload0 X dX6_readGate_7 ?_
    refine zr_bipush (v := (-5 : Int32)) X dX6_readGate_8 (by decide) ?_
    refine zr_aload1 X dX6_readGate_10 ?_
    refine zr_getI X zf_X6_55 rfl dX6_readGate_11 ?_
    refine zr_eq (x2 := (nI p9)) (hT.2.2.1) ?_
    refine zr_callV2 (rm9 := zrm_X6_fail) X hnt zm_X6_58 (by decide) (by decide) (by decide) (Nat.le_of_ble_eq_true rfl) dX6_readGate_14 ?_
    refine zp_X6_fail ?_
    refine zr_zret X (by first | decide | assumption | (simp; done)) (by decide) (by decide) dX6_readGate_17 ?_
    exact k2 _ _ (by simp [pGate, hc1]) (zfr.er zfr.rf) (zEr.mk hB)
abbrev zrm_X6_readCard : Room := { frames := 4, cells := 0, slots := 0, locals := 89 }
set_option maxRecDepth 20000 in
theorem zp_X6_readCard {l : Launch} {D : va_G} {b0 : Nat} {tA : Nat → ClassId} {sa sv : Nat → Nat} {K : Nat → Option Nat} {I : zI} {Qp : zI → Option AV → Prop} {Xp : String → zI → Prop} {x f n9 p9 : Nat} {t : Nat → Nat} {S : zS}
    (hS : zPs I x t f n9 p9 S) (k1 : ∀ (J : zI) (p2 : Nat) (S2 : zS), pCard t n9 p9 S = .inr (p2, S2) → zfr I J x → zPs J x t f n9 p2 S2 → Qp J (some (vi 1))) (k2 : ∀ (J : zI) (er : Int32 × Nat), pCard t n9 p9 S = .inl er → zfr I J x → zEr J x t f er → Qp J (some (vi 0))) :
    zC l D b0 tA sa sv K yX6_readCard (.code yX6_readCard cX6_readCard 5 (some .boolean)) zrm_X6_readCard [vr (x + 3) 6, vr (x + 1) 3, vr (x + 94) 5] I Qp Xp := by
  obtain ⟨hB, hn, hT, hR, hW⟩ := hS
  have hf5 := hB.2.1
  have hpn := hT.1
  have hk4 := tKind_le (t := t) (n := n9) (p := p9)
  have hl4 := tEndL_le (t := t) hT.1
  have hg6 := hW.ng.1
  have hc12 := hW.nc.1
  refine zC_of (by decide +kernel) (Nat.le_of_ble_eq_true rfl) ?_
  intro p e s m args below meth c X hnt
  have X : zX p l e zrm_X6_readCard s m args below meth c RX6 cX6_readCard 5 (some .boolean) D b0 tA sa sv := X
  refine zr_lv (lv2 := [some (vr (x + 3) 6), some (vr (x + 1) 3), some (vr (x + 94) 5), none, none]) rfl ?_
  refine zr_aload2 X dX6_readCard_0 ?_
  refine zr_callV0 (rm9 := zrm_X5_canTakeCard) X hnt zm_X6_97 (by decide) (by decide) (by decide) (Nat.le_of_ble_eq_true rfl) dX6_readCard_1 ?_
  refine zn_X5_canTakeCard hR hW ?_ ?_
  · skip
    intro hc1; have hc1_2 : ¬ znc S = 12 := by omega
    refine zr_if_ne (tgt := 18) X dX6_readCard_4 (by decide) (fun _ => ?_) (fun h => absurd h (by decide))
    refine zr_aload1 X dX6_readCard_18 ?_
    refine zr_callV0 (rm9 := zrm_X3_advance) X hnt zm_X6_68 (by decide) (by decide) (by decide) (Nat.le_of_ble_eq_true rfl) dX6_readCard_19 ?_
    refine zp_X3_advance (a := x + 1) (t := t) (f := f) (n9 := n9) (p9 := tEnd t n9 p9) hB hn hT.2.1 hT.2.2.2.2.1 (tEnd_le hT.1).1 ?_
    intro J129 hg130 hB131 hT132; have hT132 : zTok J129 (x + 1) t n9 (tNext t n9 p9) := hT132; have hR133 := hR.ag hg130 (by omega); have fr134 : zfr I J129 x := zfr.ag zfr.rf hg130 (by omega); have hk4_J129 := tKind_le (t := t) (n := n9) (p := (tNext t n9 p9)); have hl4_J129 := tEndL_le (t := t) hT132.1; have hpn_J129 := hT132.1
    refine zr_aload0 X dX6_readCard_22 ?_
    refine zr_aload1 X dX6_readCard_23 ?_
    refine zr_callV1 (rm9 := zrm_X6_isNameNext) X hnt zm_X6_100 (by decide) (by decide) (by decide) (Nat.le_of_ble_eq_true rfl) dX6_readCard_24 ?_
    refine zp_X6_isNameNext (x := x) (t := t) (f := f) (n9 := n9) (p9 := (tNext t n9 p9)) (S := S) ⟨hB131, hn, hT132, hR133, hW⟩ ?_ ?_
    · skip
      intro hq137; obtain ⟨hk2, hL6⟩ := pName_none hq137; have hL1 := tEndL_1 hk2
      refine zr_if_ne (tgt := 32) X dX6_readCard_27 (by decide) (fun _ => ?_) (fun h => absurd h (by decide))
      refine zr_aload1 X dX6_readCard_32 ?_
      refine zr_getI X zf_X6_103 rfl dX6_readCard_33 ?_
      refine zr_eq (x2 := (tNm t (tNext t n9 p9) (tEndL t n9 (tNext t n9 p9) - (tNext t n9 p9)))) ((hT132.2.2.2.2.2.2 (by assumption)).2) ?_
      refine zr_istore3 X (by decide) rfl dX6_readCard_36 ?_
      refine zr_aload2 X dX6_readCard_37 ?_
      refine zr_iload3 X dX6_readCard_38 ?_
      refine zr_callV1 (rm9 := zrm_X5_cardNamed) X hnt zm_X6_106 (by decide) (by decide) (by decide) (Nat.le_of_ble_eq_true rfl) dX6_readCard_39 ?_
      refine zn_X5_cardNamed (t := t) (n9 := n9) (p9 := (tNext t n9 p9)) hR133 hW (by assumption) (by assumption) ?_ ?_
      · skip
        intro c140 hq141 hc142
        refine zr_iconst (v := (-1 : Int32)) X dX6_readCard_42 (by decide) ?_
        refine zr_icmp_eq (tgt := 57) X dX6_readCard_43 (by decide) (fun h => absurd h (zm1 (by omega))) (fun _ => ?_)
        refine zr_aload0 X dX6_readCard_46 ?_
        refine zr_bipush (v := (-4 : Int32)) X dX6_readCard_47 (by decide) ?_
        refine zr_aload1 X dX6_readCard_49 ?_
        refine zr_getI X zf_X6_55 rfl dX6_readCard_50 ?_
        refine zr_eq (x2 := (nI (tNext t n9 p9))) (hT132.2.2.1) ?_
        refine zr_callV2 (rm9 := zrm_X6_fail) X hnt zm_X6_58 (by decide) (by decide) (by decide) (Nat.le_of_ble_eq_true rfl) dX6_readCard_53 ?_
        refine zp_X6_fail ?_
        refine zr_zret X (by first | decide | assumption | (simp; done)) (by decide) (by decide) dX6_readCard_56 ?_
        exact k2 _ _ (by simp [pCard, pCard1, pCard2, hc1_2, hq137, hq141, hc142]) (zfr.er fr134) (zEr.mk hB131)
      · skip
        intro hq143
        refine zr_iconst (v := (-1 : Int32)) X dX6_readCard_42 (by decide) ?_
        refine zr_icmp_eq (tgt := 57) X dX6_readCard_43 (by decide) (fun _ => ?_) (fun h => absurd h (by decide))
        refine zr_aload1 X dX6_readCard_57 ?_
        refine zr_callV0 (rm9 := zrm_X3_advance) X hnt zm_X6_68 (by decide) (by decide) (by decide) (Nat.le_of_ble_eq_true rfl) dX6_readCard_58 ?_
        refine zp_X3_advance (a := x + 1) (t := t) (f := f) (n9 := n9) (p9 := tEnd t n9 (tNext t n9 p9)) hB131 hn hT132.2.1 hT132.2.2.2.2.1 (tEnd_le hT132.1).1 ?_
        intro J144 hg145 hB146 hT147; have hT147 : zTok J144 (x + 1) t n9 (tNext t n9 (tNext t n9 p9)) := hT147; have hR148 := hR133.ag hg145 (by omega); have fr149 : zfr I J144 x := zfr.ag fr134 hg145 (by omega); have hk4_J144 := tKind_le (t := t) (n := n9) (p := (tNext t n9 (tNext t n9 p9))); have hl4_J144 := tEndL_le (t := t) hT147.1; have hpn_J144 := hT147.1
        refine zr_aload0 X dX6_readCard_61 ?_
        refine zr_aload1 X dX6_readCard_62 ?_
        refine zr_iconst (v := (0 : Int32)) X dX6_readCard_63 (by decide) ?_
        refine zr_bipush (v := (99 : Int32)) X dX6_readCard_64 (by decide) ?_
        refine zr_callV3 (rm9 := zrm_X6_takeNumber) X hnt zm_X6_71 (by decide) (by decide) (by decide) (Nat.le_of_ble_eq_true rfl) dX6_readCard_66 ?_
        refine zp_X6_takeNumber (x := x) (t := t) (f := f) (n9 := n9) (p9 := (tNext t n9 (tNext t n9 p9))) (S := S) (lo := 0) (hi := 100) ⟨hB146, hn, hT147, hR148, hW⟩ (zmost (by decide) (by omega)) (by omega) (by omega) ?_ ?_
        · skip
          intro J150 v154 hq153 fr151 hS152; obtain ⟨hB157, hn161, hT158, hR159, hW160⟩ := hS152; have fr151 : zfr I J150 x := zfr.tr fr149 fr151; have := pNum_gt hq153; have hk4_J150 := tKind_le (t := t) (n := n9) (p := (tNext t n9 (tNext t n9 (tNext t n9 p9)))); have hl4_J150 := tEndL_le (t := t) hT158.1; have hpn_J150 := hT158.1
          refine zr_istore4 X (by decide) rfl dX6_readCard_69 ?_
          refine zr_iload4 X dX6_readCard_71 ?_
          refine zr_nif_ge X (v154) (tgt := 78) (by omega) dX6_readCard_73 (by decide) (fun _ => ?_) (fun h => absurd trivial h)
          refine zr_aload2 X dX6_readCard_78 ?_
          refine zr_iload3 X dX6_readCard_79 ?_
          refine zr_iload4 X dX6_readCard_80 ?_
          refine zr_callV2 (rm9 := zrm_X5_addCard) X hnt zm_X6_110 (by decide) (by decide) (by decide) (Nat.le_of_ble_eq_true rfl) dX6_readCard_82 ?_
          refine zn_X5_addCard (t := t) (n9 := n9) (p9 := (tNext t n9 p9)) hR159 hW160 (by omega) (by omega) ?_
          intro J162 hg163 hR164; have hB165 := zBy.ag hB157 hg163 (by omega); have hT166 := zTok.ag hT158 hg163 (by omega); have fr167 : zfr I J162 x := zfr.ag fr151 hg163 (by omega); have hW168 : zWf (qAddCard S (tNmF t n9 (tNext t n9 p9)) (nI v154)) := zWf_addCard hW160 (by omega) (tNmF_ok (by assumption) (by assumption))
          refine zr_iconst (v := (1 : Int32)) X dX6_readCard_85 (by decide) ?_
          refine zr_zret X (by first | decide | assumption | (simp; done)) (by decide) (by decide) dX6_readCard_86 ?_
          exact k1 _ _ _ (by simp [pCard, pCard1, pCard2, hc1_2, hq137, hq143, hq153]) fr167 ⟨hB165, hn, hT166, hR164, hW168⟩
        · skip
          intro J150 er155 hq153 fr151 hE156; have fr151 : zfr I J150 x := zfr.tr fr149 fr151
          refine zr_istore4 X (by decide) rfl dX6_readCard_69 ?_
          refine zr_iload4 X dX6_readCard_71 ?_
          refine zr_if_ge (tgt := 78) X dX6_readCard_73 (by decide) (fun h => absurd h (by decide)) (fun _ => ?_)
          refine zr_iconst (v := (0 : Int32)) X dX6_readCard_76 (by decide) ?_
          refine zr_zret X (by first | decide | assumption | (simp; done)) (by decide) (by decide) dX6_readCard_77 ?_
          exact k2 _ er155 (by simp [pCard, pCard1, pCard2, hc1_2, hq137, hq143, hq153]) fr151 hE156
    · skip
      intro J135 er138 hq137 fr136 hE139; have fr136 : zfr I J135 x := zfr.tr fr134 fr136
      refine zr_if_ne (tgt := 32) X dX6_readCard_27 (by decide) (fun h => absurd h (by decide)) (fun _ => ?_)
      refine zr_iconst (v := (0 : Int32)) X dX6_readCard_30 (by decide) ?_
      refine zr_zret X (by first | decide | assumption | (simp; done)) (by decide) (by decide) dX6_readCard_31 ?_
      exact k2 _ er138 (by simp [pCard, pCard1, pCard2, hc1_2, hq137]) fr136 hE139
  · skip
    intro hc1
    refine zr_if_ne (tgt := 18) X dX6_readCard_4 (by decide) (fun h => absurd h (by decide)) (fun _ => ?_)
    refine zr_aload0 X dX6_readCard_7 ?_
    refine zr_bipush (v := (-5 : Int32)) X dX6_readCard_8 (by decide) ?_
    refine zr_aload1 X dX6_readCard_10 ?_
    refine zr_getI X zf_X6_55 rfl dX6_readCard_11 ?_
    refine zr_eq (x2 := (nI p9)) (hT.2.2.1) ?_
    refine zr_callV2 (rm9 := zrm_X6_fail) X hnt zm_X6_58 (by decide) (by decide) (by decide) (Nat.le_of_ble_eq_true rfl) dX6_readCard_14 ?_
    refine zp_X6_fail ?_
    refine zr_zret X (by first | decide | assumption | (simp; done)) (by decide) (by decide) dX6_readCard_17 ?_
    exact k2 _ _ (by simp [pCard, pCard1, pCard2, hc1]) (zfr.er zfr.rf) (zEr.mk hB)
abbrev zrm_X6_readHead : Room := { frames := 6, cells := 0, slots := 0, locals := 173 }
set_option maxRecDepth 20000 in
theorem zp_X6_readHead {l : Launch} {D : va_G} {b0 : Nat} {tA : Nat → ClassId} {sa sv : Nat → Nat} {K : Nat → Option Nat} {I : zI} {Qp : zI → Option AV → Prop} {Xp : String → zI → Prop} {x f n9 p9 : Nat} {t : Nat → Nat} {S : zS}
    (hS : zPs I x t f n9 p9 S) (k1 : ∀ (J : zI) (p2 : Nat) (S2 : zS), pHead t n9 p9 S = .inr (p2, S2) → zfr I J x → zPs J x t f n9 p2 S2 → Qp J (some (vi 1))) (k2 : ∀ (J : zI) (er : Int32 × Nat), pHead t n9 p9 S = .inl er → zfr I J x → zEr J x t f er → Qp J (some (vi 0))) :
    zC l D b0 tA sa sv K yX6_readHead (.code yX6_readHead cX6_readHead 5 (some .boolean)) zrm_X6_readHead [vr (x + 3) 6, vr (x + 1) 3, vr (x + 94) 5] I Qp Xp := by
  obtain ⟨hB, hn, hT, hR, hW⟩ := hS
  have hf5 := hB.2.1
  have hpn := hT.1
  have hk4 := tKind_le (t := t) (n := n9) (p := p9)
  have hl4 := tEndL_le (t := t) hT.1
  have hg6 := hW.ng.1
  have hc12 := hW.nc.1
  refine zC_of (by decide +kernel) (Nat.le_of_ble_eq_true rfl) ?_
  intro p e s m args below meth c X hnt
  have X : zX p l e zrm_X6_readHead s m args below meth c RX6 cX6_readHead 5 (some .boolean) D b0 tA sa sv := X
  refine zr_lv (lv2 := [some (vr (x + 3) 6), some (vr (x + 1) 3), some (vr (x + 94) 5), none, none]) rfl ?_
  refine zr_aload1 X dX6_readHead_0 ?_
  refine zr_ldcS X 0 rfl (by decide) dX6_readHead_1 ?_
  refine zr_callV1 (rm9 := zrm_X3_isWord) X hnt zm_X6_23 (by decide) (by decide) (by decide) (Nat.le_of_ble_eq_true rfl) dX6_readHead_3 ?_
  refine zp_X3_isWord (a := x + 1) (i := 0) (t := t) (n9 := n9) (p9 := p9) (by omega) hT (by decide) ?_ ?_
  · skip
    intro hw1; have hw1 : tIsB t n9 p9 wRow = true := tIsB_iff.mpr hw1
    refine zr_if_ne (tgt := 20) X dX6_readHead_6 (by decide) (fun _ => ?_) (fun h => absurd h (by decide))
    refine zr_aload1 X dX6_readHead_20 ?_
    refine zr_callV0 (rm9 := zrm_X3_advance) X hnt zm_X6_68 (by decide) (by decide) (by decide) (Nat.le_of_ble_eq_true rfl) dX6_readHead_21 ?_
    refine zp_X3_advance (a := x + 1) (t := t) (f := f) (n9 := n9) (p9 := tEnd t n9 p9) hB hn hT.2.1 hT.2.2.2.2.1 (tEnd_le hT.1).1 ?_
    intro J169 hg170 hB171 hT172; have hT172 : zTok J169 (x + 1) t n9 (tNext t n9 p9) := hT172; have hR173 := hR.ag hg170 (by omega); have fr174 : zfr I J169 x := zfr.ag zfr.rf hg170 (by omega); have hk4_J169 := tKind_le (t := t) (n := n9) (p := (tNext t n9 p9)); have hl4_J169 := tEndL_le (t := t) hT172.1; have hpn_J169 := hT172.1
    refine zr_aload0 X dX6_readHead_24 ?_
    refine zr_aload1 X dX6_readHead_25 ?_
    refine zr_iconst (v := (1 : Int32)) X dX6_readHead_26 (by decide) ?_
    refine zr_bipush (v := (9 : Int32)) X dX6_readHead_27 (by decide) ?_
    refine zr_callV3 (rm9 := zrm_X6_takeNumber) X hnt zm_X6_71 (by decide) (by decide) (by decide) (Nat.le_of_ble_eq_true rfl) dX6_readHead_29 ?_
    refine zp_X6_takeNumber (x := x) (t := t) (f := f) (n9 := n9) (p9 := (tNext t n9 p9)) (S := S) (lo := 1) (hi := 10) ⟨hB171, hn, hT172, hR173, hW⟩ (zmost (by decide) (by omega)) (by omega) (by omega) ?_ ?_
    · skip
      intro J175 v179 hq178 fr176 hS177; obtain ⟨hB182, hn186, hT183, hR184, hW185⟩ := hS177; have fr176 : zfr I J175 x := zfr.tr fr174 fr176; have := pNum_gt hq178; have hk4_J175 := tKind_le (t := t) (n := n9) (p := (tNext t n9 (tNext t n9 p9))); have hl4_J175 := tEndL_le (t := t) hT183.1; have hpn_J175 := hT183.1
      refine zr_istore3 X (by decide) rfl dX6_readHead_32 ?_
      refine zr_iload3 X dX6_readHead_33 ?_
      refine zr_nif_ge X (v179) (tgt := 39) (by omega) dX6_readHead_34 (by decide) (fun _ => ?_) (fun h => absurd trivial h)
      refine zr_aload0 X dX6_readHead_39 ?_
      refine zr_aload1 X dX6_readHead_40 ?_
      refine zr_iconst (v := (1 : Int32)) X dX6_readHead_41 (by decide) ?_
      refine zr_iconst (v := (4 : Int32)) X dX6_readHead_42 (by decide) ?_
      refine zr_callV3 (rm9 := zrm_X6_takeNumber) X hnt zm_X6_71 (by decide) (by decide) (by decide) (Nat.le_of_ble_eq_true rfl) dX6_readHead_43 ?_
      refine zp_X6_takeNumber (x := x) (t := t) (f := f) (n9 := n9) (p9 := (tNext t n9 (tNext t n9 p9))) (S := S) (lo := 1) (hi := 5) ⟨hB182, hn, hT183, hR184, hW185⟩ (zmost (by decide) (by omega)) (by omega) (by omega) ?_ ?_
      · skip
        intro J187 v191 hq190 fr188 hS189; obtain ⟨hB194, hn198, hT195, hR196, hW197⟩ := hS189; have fr188 : zfr I J187 x := zfr.tr fr176 fr188; have := pNum_gt hq190; have hk4_J187 := tKind_le (t := t) (n := n9) (p := (tNext t n9 (tNext t n9 (tNext t n9 p9)))); have hl4_J187 := tEndL_le (t := t) hT195.1; have hpn_J187 := hT195.1
        refine zr_istore4 X (by decide) rfl dX6_readHead_46 ?_
        refine zr_iload4 X dX6_readHead_48 ?_
        refine zr_nif_ge X (v191) (tgt := 55) (by omega) dX6_readHead_50 (by decide) (fun _ => ?_) (fun h => absurd trivial h)
        refine zr_aload2 X dX6_readHead_55 ?_
        refine zr_iload3 X dX6_readHead_56 ?_
        refine zr_putI X zf_X6_75 rfl (Or.inl rfl) dX6_readHead_57 ?_
        have hR_1 : zRw _ (x + 94) (tX S 0 (nI v179)) := zRw_X hR196 (i := 0) (v := (nI v179)) (by decide) (by decide)
        refine zr_aload2 X dX6_readHead_60 ?_
        refine zr_iload4 X dX6_readHead_61 ?_
        refine zr_putI X zf_X6_80 rfl (Or.inl rfl) dX6_readHead_63 ?_
        have hR_2 : zRw _ (x + 94) (tX (tX S 0 (nI v179)) 1 (nI v191)) := zRw_X hR_1 (i := 1) (v := (nI v191)) (by decide) (by decide)
        refine zr_aload0 X dX6_readHead_66 ?_
        refine zr_aload1 X dX6_readHead_67 ?_
        refine zr_callV1 (rm9 := zrm_X6_takeSemicolon) X hnt zm_X6_62 (by decide) (by decide) (by decide) (Nat.le_of_ble_eq_true rfl) dX6_readHead_68 ?_
        have hg199 : zag J187 (zput (zput J187 (x + 94) 4 ((nI v179))) (x + 94) 5 ((nI v191))) (x + 94) 45 := by repeat (first | exact zag.rf | assumption | refine zag.put ?_ (by omega) (by omega) | refine zag.tr ?_ (by assumption) (by omega) (by omega))
        have hB200 := zBy.ag hB194 hg199 (by omega)
        have hT201 := zTok.ag hT195 hg199 (by omega)
        have fr202 : zfr I (zput (zput J187 (x + 94) 4 ((nI v179))) (x + 94) 5 ((nI v191))) x := zfr.ag fr188 hg199 (by omega)
        have hW203 : zWf (tX (tX S 0 (nI v179)) 1 (nI v191)) := zWf_hf hW (by omega) (by omega)
        refine zp_X6_takeSemicolon (x := x) (t := t) (f := f) (n9 := n9) (p9 := (tNext t n9 (tNext t n9 (tNext t n9 p9)))) (S := (tX (tX S 0 (nI v179)) 1 (nI v191))) ⟨hB200, hn, hT201, hR_2, hW203⟩ ?_ ?_
        · skip
          intro J204 p208 T209 hq207 fr205 hS206; obtain ⟨hB212, hn216, hT213, hR214, hW215⟩ := hS206; have fr205 : zfr I J204 x := zfr.tr fr202 fr205; have hk4_J204 := tKind_le (t := t) (n := n9) (p := p208); have hl4_J204 := tEndL_le (t := t) hT213.1; have hpn_J204 := hT213.1; have := hW215.ng.1; have := hW215.nc.1
          refine zr_zret X (by first | decide | assumption | (simp; done)) (by decide) (by decide) dX6_readHead_71 ?_
          exact k1 _ _ _ (by simp [pHead, pHead2, hw1, hq178, hq190, hq207]) fr205 ⟨hB212, hn, hT213, hR214, hW215⟩
        · skip
          intro J204 er210 hq207 fr205 hE211; have fr205 : zfr I J204 x := zfr.tr fr202 fr205
          refine zr_zret X (by first | decide | assumption | (simp; done)) (by decide) (by decide) dX6_readHead_71 ?_
          exact k2 _ er210 (by simp [pHead, pHead2, hw1, hq178, hq190, hq207]) fr205 hE211
      · skip
        intro J187 er192 hq190 fr188 hE193; have fr188 : zfr I J187 x := zfr.tr fr176 fr188
        refine zr_istore4 X (by decide) rfl dX6_readHead_46 ?_
        refine zr_iload4 X dX6_readHead_48 ?_
        refine zr_if_ge (tgt := 55) X dX6_readHead_50 (by decide) (fun h => absurd h (by decide)) (fun _ => ?_)
        refine zr_iconst (v := (0 : Int32)) X dX6_readHead_53 (by decide) ?_
        refine zr_zret X (by first | decide | assumption | (simp; done)) (by decide) (by decide) dX6_readHead_54 ?_
        exact k2 _ er192 (by simp [pHead, pHead2, hw1, hq178, hq190]) fr188 hE193
    · skip
      intro J175 er180 hq178 fr176 hE181; have fr176 : zfr I J175 x := zfr.tr fr174 fr176
      refine zr_istore3 X (by decide) rfl dX6_readHead_32 ?_
      refine zr_iload3 X dX6_readHead_33 ?_
      refine zr_if_ge (tgt := 39) X dX6_readHead_34 (by decide) (fun h => absurd h (by decide)) (fun _ => ?_)
      refine zr_iconst (v := (0 : Int32)) X dX6_readHead_37 (by decide) ?_
      refine zr_zret X (by first | decide | assumption | (simp; done)) (by decide) (by decide) dX6_readHead_38 ?_
      exact k2 _ er180 (by simp [pHead, pHead2, hw1, hq178]) fr176 hE181
  · skip
    intro hw1; have hw1 : ¬ tIsB t n9 p9 wRow = true := fun z => hw1 (tIsB_iff.mp z)
    refine zr_if_ne (tgt := 20) X dX6_readHead_6 (by decide) (fun h => absurd h (by decide)) (fun _ => ?_)
    refine zr_aload0 X dX6_readHead_9 ?_
    refine zr_bipush (v := (-2 : Int32)) X dX6_readHead_10 (by decide) ?_
    refine zr_aload1 X dX6_readHead_12 ?_
    refine zr_getI X zf_X6_55 rfl dX6_readHead_13 ?_
    refine zr_eq (x2 := (nI p9)) (hT.2.2.1) ?_
    refine zr_callV2 (rm9 := zrm_X6_fail) X hnt zm_X6_58 (by decide) (by decide) (by decide) (Nat.le_of_ble_eq_true rfl) dX6_readHead_16 ?_
    refine zp_X6_fail ?_
    refine zr_zret X (by first | decide | assumption | (simp; done)) (by decide) (by decide) dX6_readHead_19 ?_
    exact k2 _ _ (by simp [pHead, pHead2, hw1]) (zfr.er zfr.rf) (zEr.mk hB)
