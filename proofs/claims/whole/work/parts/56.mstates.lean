/-! ===== the reference reads: statements ===== -/
theorem tIs_inj {t : Nat → Nat} {n p : Nat} {w w2 : List Nat} (h : tIs t n p w) (g : tIs t n p w2) : w = w2 := by
  have hl : w.length = w2.length := h.2.2.1.symm.trans g.2.2.1
  apply List.ext_getElem hl
  intro i h1 h2
  have a1 := h.2.2.2 i h1
  have a2 := g.2.2.2 i h2
  rw [List.getD_eq_getElem?_getD, List.getElem?_eq_getElem h1] at a1
  rw [List.getD_eq_getElem?_getD, List.getElem?_eq_getElem h2] at a2
  exact a1.symm.trans a2
theorem tIsB_x {t : Nat → Nat} {n p : Nat} {w w2 : List Nat} (h : tIsB t n p w = true) (hne : w ≠ w2) : ¬ tIsB t n p w2 = true := fun z => hne (tIs_inj (tIsB_iff.mp h) (tIsB_iff.mp z))
def pGate1 (t : Nat → Nat) (n p : Nat) (S : zS) : zRs :=
  if tIsB t n p wBoth = true then .inr (tNext t n p, qAddGate S 2)
  else if tIsB t n p wOut = true then .inr (tNext t n p, qAddGate S 1)
  else if tIsB t n p wIn = true then .inr (tNext t n p, qAddGate S 0)
  else .inl (-2, p)
theorem pGate_1 {t : Nat → Nat} {n p : Nat} {S : zS} : pGate t n p S = if zng S = 6 then .inl (-5, p) else pGate1 t n (tNext t n p) S := rfl
theorem pCard_1 {t : Nat → Nat} {n p : Nat} {S : zS} : pCard t n p S = if znc S = 12 then .inl (-5, p) else pCard1 t n (tNext t n p) S := rfl
def pList1 (t : Nat → Nat) (n p : Nat) (S : zS) : zRs :=
  match pListed t n p S with
  | .inl e => .inl e
  | .inr q => pMore t n (n - q.1) q.1 q.2
theorem pList_1 {t : Nat → Nat} {n p : Nat} {S : zS} : pList t n p S = pList1 t n (tNext t n p) S := rfl
def pWait1 (t : Nat → Nat) (n p : Nat) (S : zS) : zRs :=
  match pNum t n p 0 (zng S) with
  | .inl e => .inl e
  | .inr g => pWait2 t n (tNext t n p) g S
theorem pWait_1 {t : Nat → Nat} {n p : Nat} {S : zS} : pWait t n p S = pWait1 t n (tNext t n p) S := rfl
/-- names laid letter by letter -/
def qNms (S : zS) (c : Nat) (nm : Nat → Int32) : Nat → zS
  | 0 => S
  | k + 1 => tM (qNms S c nm k) c k (nm k)
theorem qNms_X {S : zS} {c : Nat} {nm : Nat → Int32} : ∀ k, sX (qNms S c nm k) = sX S
  | 0 => rfl
  | k + 1 => qNms_X k
theorem qNms_G {S : zS} {c : Nat} {nm : Nat → Int32} : ∀ k, sG (qNms S c nm k) = sG S
  | 0 => rfl
  | k + 1 => qNms_G k
theorem qNms_L {S : zS} {c : Nat} {nm : Nat → Int32} : ∀ k, sL (qNms S c nm k) = sL S
  | 0 => rfl
  | k + 1 => qNms_L k
theorem qNms_C {S : zS} {c : Nat} {nm : Nat → Int32} : ∀ k, sC (qNms S c nm k) = sC S
  | 0 => rfl
  | k + 1 => qNms_C k
theorem qNms_M {S : zS} {c : Nat} {nm : Nat → Int32} : ∀ (k x y : Nat), sM (qNms S c nm k) x y = if x = c ∧ y < k then nm y else sM S x y
  | 0, x, y => by rw [if_neg (by omega)]; rfl
  | k + 1, x, y => by
    rw [qNms, tM_M, qNms_M k x y]
    by_cases h : x = c ∧ y = k
    · rw [if_pos h, if_pos (by omega), h.2]
    · rw [if_neg h]
      by_cases h2 : x = c ∧ y < k
      · rw [if_pos h2, if_pos (by omega)]
      · rw [if_neg h2, if_neg (by omega)]
theorem qAddCard_of {S T : zS} {nm : Nat → Int32} {v : Int32} (hX : sX T = sX S) (hG : sG T = sG S) (hL : sL T = sL S) (hC : sC T = sC S) (hM : sM T = fun x y => if x = znc S then nm y else sM S x y) : tX (tC T (znc S) 0 v) 5 (nI (znc S + 1)) = qAddCard S nm v := by
  obtain ⟨x, g, l, c, m⟩ := T
  have hX : x = sX S := hX
  have hG : g = sG S := hG
  have hL : l = sL S := hL
  have hC : c = sC S := hC
  subst hX hG hL hC
  have hM : m = fun x y => if x = znc S then nm y else sM S x y := hM
  subst hM
  rfl
theorem qNms_T {S : zS} {nm : Nat → Int32} (hW : zWf S) (hn : ∀ k, 6 ≤ k → nm k = 0) : ∃ T : zS, qNms S (znc S) nm 6 = T ∧ sX T = sX S ∧ sG T = sG S ∧ sL T = sL S ∧ sC T = sC S ∧ sM T = fun x y => if x = znc S then nm y else sM S x y := by
  have h1 := qNms_X (S := S) (c := znc S) (nm := nm) 6
  have h2 := qNms_G (S := S) (c := znc S) (nm := nm) 6
  have h3 := qNms_L (S := S) (c := znc S) (nm := nm) 6
  have h4 := qNms_C (S := S) (c := znc S) (nm := nm) 6
  have h5 := qNms_M (S := S) (c := znc S) (nm := nm) 6
  generalize qNms S (znc S) nm 6 = T at h1 h2 h3 h4 h5 ⊢
  refine ⟨T, rfl, h1, h2, h3, h4, ?_⟩
  funext x y
  rw [h5]
  by_cases h : x = znc S
  · rw [if_pos h]
    by_cases h2 : y < 6
    · rw [if_pos ⟨h, h2⟩]
    · rw [if_neg (fun z => h2 z.2), hn y (by omega)]
      exact (hW.blankc x (by omega)).2 y
  · rw [if_neg (fun z => h z.1), if_neg h]
theorem tNmF_6 {t : Nat → Nat} {n p : Nat} (h : tEndL t n p - p ≤ 6) : ∀ k, 6 ≤ k → tNmF t n p k = 0 := fun k hk => by
  unfold tNmF
  rw [if_neg (by omega)]
abbrev zrm_X8_readGate : Room := { frames := 6, cells := 0, slots := 0, locals := 172 }
set_option maxRecDepth 20000 in
theorem zp_X8_readGate {l : Launch} {D : va_G} {b0 : Nat} {tA : Nat → ClassId} {sa sv : Nat → Nat} {K : Nat → Option Nat} {I : zI} {Qp : zI → Option AV → Prop} {Xp : String → zI → Prop} {y n9 q9 p9 : Nat} {t : Nat → Nat} {S : zS}
    (hP : zPq I y t n9 q9) (hp : tSkip t n9 q9 = p9) (hM : zMd I (y + 3) S) (hW : zWf S) (h6 : zng S < 6) (k1 : ∀ (J : zI) (p2 q2 : Nat) (S2 : zS), pGate1 t n9 p9 S = .inr (p2, S2) → zfm I J y → zPq J y t n9 q2 → tSkip t n9 q2 = p2 → zMd J (y + 3) S2 → zWf S2 → Qp J none) (k2 : ∀ (J : zI) (e : Int32 × Nat), pGate1 t n9 p9 S = .inl e → zfm I J y → zEq J y e → Qp J none) :
    zC l D b0 tA sa sv K yX8_readGate (.code yX8_readGate cX8_readGate 2 none) zrm_X8_readGate [vr (y) 8] I Qp Xp := by
  have hn5 := hP.2.2.2.2.1
  have hqn := hP.2.2.2.1
  have hpl := tSkip_le (t := t) hP.2.2.2.1
  have hg6 := hW.ng.1
  have hc12 := hW.nc.1
  refine zC_of (by decide +kernel) (Nat.le_of_ble_eq_true rfl) ?_
  intro p e s m args below meth c X hnt
  have X : zX p l e zrm_X8_readGate s m args below meth c RX8 cX8_readGate 2 none D b0 tA sa sv := X
  refine zr_lv (lv2 := [some (vr (y) 8), none]) rfl ?_
  refine zr_aload0 X dX8_readGate_0 ?_
  refine zr_callV0 (rm9 := zrm_X8_ahead) X hnt zm_X8_125 (by decide) (by decide) (by decide) (Nat.le_of_ble_eq_true rfl) dX8_readGate_1 ?_
  refine zv_X8_ahead (p9 := p9) hP hp ?_
  intro J1 v9 hg2 fr3 hP4; have hM5 : zMd J1 (y + 3) S := zMd.ag hM hg2 (by omega); have fr3 : zfm I J1 y := zfm.tr zfm.rf fr3; have := hP4.2.2.2.1
  refine zr_popI X dX8_readGate_4 ?_
  refine zr_aload0 X dX8_readGate_5 ?_
  refine zr_getI X zf_X8_104 rfl dX8_readGate_6 ?_
  refine zr_eq (x2 := (nI p9)) (hP4.2.2.1) ?_
  refine zr_istore1 X (by decide) rfl dX8_readGate_9 ?_
  refine zr_aload0 X dX8_readGate_10 ?_
  refine zr_ldcS X 12 rfl (by decide) dX8_readGate_11 ?_
  refine zr_callV1 (rm9 := zrm_X8_takeWord) X hnt zm_X8_166 (by decide) (by decide) (by decide) (Nat.le_of_ble_eq_true rfl) dX8_readGate_13 ?_
  refine zg_X8_takeWord (i := 12) (p9 := p9) hP4 (tSkip_id hP.2.2.2.1 hp) (by decide) ?_ ?_
  · skip
    intro hw3 J6 hg7 fr8 hP9; have hM10 : zMd J6 (y + 3) S := zMd.ag hM5 hg7 (by omega); have fr8 : zfm I J6 y := zfm.tr fr3 fr8; have hw3 : tIsB t n9 p9 wIn = true := hw3; have := tIsB_lt hw3; have := tNext_le (t := t) (Nat.le_of_lt this)
    refine zr_if_eq (tgt := 30) X dX8_readGate_16 (by decide) (fun h => absurd h (by decide)) (fun _ => ?_)
    refine zr_aload0 X dX8_readGate_19 ?_
    refine zr_getR X zf_X8_20 rfl (by decide) (by decide) dX8_readGate_20 ?_
    refine zr_iconst (v := (0 : Int32)) X dX8_readGate_23 (by decide) ?_
    refine zr_callS2 (rm9 := zrm_X8_fits) X hnt zm_X8_170 (by decide) (by decide) (by decide) (Nat.le_of_ble_eq_true rfl) dX8_readGate_24 ?_
    refine zp_X8_fits hM10 hW (by omega) ?_
    intro J16 hg17 hM18; have hP19 : zPq J16 y t n9 (tEnd t n9 p9) := zPq.row hP9 hg17; have fr20 : zfm I J16 y := zfm.row fr8 hg17; have hW21 : zWf (qAddGate S (0 : Int32)) := zWf_addGate hW (by omega) (by decide)
    refine zr_goto (tgt := 77) X dX8_readGate_27 (by decide) ?_
    refine zr_vret X (by decide) (by decide) dX8_readGate_77 ?_
    exact k1 _ _ _ _ (by ((rw [pGate1, if_neg (tIsB_x hw3 (by decide)), if_neg (tIsB_x hw3 (by decide)), if_pos hw3]) <;> rfl)) fr20 hP19 rfl hM18 hW21
  · skip
    intro hw4 J11 hg12 fr13 hP14; have hM15 : zMd J11 (y + 3) S := zMd.ag hM5 hg12 (by omega); have fr13 : zfm I J11 y := zfm.tr fr3 fr13; have hw4 : ¬ tIsB t n9 p9 wIn = true := hw4
    refine zr_if_eq (tgt := 30) X dX8_readGate_16 (by decide) (fun _ => ?_) (fun h => absurd h (by decide))
    refine zr_aload0 X dX8_readGate_30 ?_
    refine zr_ldcS X 13 rfl (by decide) dX8_readGate_31 ?_
    refine zr_callV1 (rm9 := zrm_X8_takeWord) X hnt zm_X8_166 (by decide) (by decide) (by decide) (Nat.le_of_ble_eq_true rfl) dX8_readGate_33 ?_
    refine zg_X8_takeWord (i := 13) (p9 := p9) hP14 (tSkip_id hP4.2.2.2.1 (tSkip_id hP.2.2.2.1 hp)) (by decide) ?_ ?_
    · skip
      intro hw6 J22 hg23 fr24 hP25; have hM26 : zMd J22 (y + 3) S := zMd.ag hM15 hg23 (by omega); have fr24 : zfm I J22 y := zfm.tr fr13 fr24; have hw6 : tIsB t n9 p9 wOut = true := hw6; have := tIsB_lt hw6; have := tNext_le (t := t) (Nat.le_of_lt this)
      refine zr_if_eq (tgt := 50) X dX8_readGate_36 (by decide) (fun h => absurd h (by decide)) (fun _ => ?_)
      refine zr_aload0 X dX8_readGate_39 ?_
      refine zr_getR X zf_X8_20 rfl (by decide) (by decide) dX8_readGate_40 ?_
      refine zr_iconst (v := (1 : Int32)) X dX8_readGate_43 (by decide) ?_
      refine zr_callS2 (rm9 := zrm_X8_fits) X hnt zm_X8_170 (by decide) (by decide) (by decide) (Nat.le_of_ble_eq_true rfl) dX8_readGate_44 ?_
      refine zp_X8_fits hM26 hW (by omega) ?_
      intro J32 hg33 hM34; have hP35 : zPq J32 y t n9 (tEnd t n9 p9) := zPq.row hP25 hg33; have fr36 : zfm I J32 y := zfm.row fr24 hg33; have hW37 : zWf (qAddGate S (1 : Int32)) := zWf_addGate hW (by omega) (by decide)
      refine zr_goto (tgt := 77) X dX8_readGate_47 (by decide) ?_
      refine zr_vret X (by decide) (by decide) dX8_readGate_77 ?_
      exact k1 _ _ _ _ (by ((rw [pGate1, if_neg (tIsB_x hw6 (by decide)), if_pos hw6]) <;> rfl)) fr36 hP35 rfl hM34 hW37
    · skip
      intro hw7 J27 hg28 fr29 hP30; have hM31 : zMd J27 (y + 3) S := zMd.ag hM15 hg28 (by omega); have fr29 : zfm I J27 y := zfm.tr fr13 fr29; have hw7 : ¬ tIsB t n9 p9 wOut = true := hw7
      refine zr_if_eq (tgt := 50) X dX8_readGate_36 (by decide) (fun _ => ?_) (fun h => absurd h (by decide))
      refine zr_aload0 X dX8_readGate_50 ?_
      refine zr_ldcS X 14 rfl (by decide) dX8_readGate_51 ?_
      refine zr_callV1 (rm9 := zrm_X8_takeWord) X hnt zm_X8_166 (by decide) (by decide) (by decide) (Nat.le_of_ble_eq_true rfl) dX8_readGate_53 ?_
      refine zg_X8_takeWord (i := 14) (p9 := p9) hP30 (tSkip_id hP14.2.2.2.1 (tSkip_id hP4.2.2.2.1 (tSkip_id hP.2.2.2.1 hp))) (by decide) ?_ ?_
      · skip
        intro hw9 J38 hg39 fr40 hP41; have hM42 : zMd J38 (y + 3) S := zMd.ag hM31 hg39 (by omega); have fr40 : zfm I J38 y := zfm.tr fr29 fr40; have hw9 : tIsB t n9 p9 wBoth = true := hw9; have := tIsB_lt hw9; have := tNext_le (t := t) (Nat.le_of_lt this)
        refine zr_if_eq (tgt := 70) X dX8_readGate_56 (by decide) (fun h => absurd h (by decide)) (fun _ => ?_)
        refine zr_aload0 X dX8_readGate_59 ?_
        refine zr_getR X zf_X8_20 rfl (by decide) (by decide) dX8_readGate_60 ?_
        refine zr_iconst (v := (2 : Int32)) X dX8_readGate_63 (by decide) ?_
        refine zr_callS2 (rm9 := zrm_X8_fits) X hnt zm_X8_170 (by decide) (by decide) (by decide) (Nat.le_of_ble_eq_true rfl) dX8_readGate_64 ?_
        refine zp_X8_fits hM42 hW (by omega) ?_
        intro J48 hg49 hM50; have hP51 : zPq J48 y t n9 (tEnd t n9 p9) := zPq.row hP41 hg49; have fr52 : zfm I J48 y := zfm.row fr40 hg49; have hW53 : zWf (qAddGate S (2 : Int32)) := zWf_addGate hW (by omega) (by decide)
        refine zr_goto (tgt := 77) X dX8_readGate_67 (by decide) ?_
        refine zr_vret X (by decide) (by decide) dX8_readGate_77 ?_
        exact k1 _ _ _ _ (by ((rw [pGate1, if_pos hw9]) <;> rfl)) fr52 hP51 rfl hM50 hW53
      · skip
        intro hw10 J43 hg44 fr45 hP46; have hM47 : zMd J43 (y + 3) S := zMd.ag hM31 hg44 (by omega); have fr45 : zfm I J43 y := zfm.tr fr29 fr45; have hw10 : ¬ tIsB t n9 p9 wBoth = true := hw10
        refine zr_if_eq (tgt := 70) X dX8_readGate_56 (by decide) (fun _ => ?_) (fun h => absurd h (by decide))
        refine zr_aload0 X dX8_readGate_70 ?_
        refine zr_bipush (v := (-2 : Int32)) X dX8_readGate_71 (by decide) ?_
        refine zr_iload1 X dX8_readGate_73 ?_
        refine zr_callV2 (rm9 := zrm_X8_report) X hnt zm_X8_138 (by decide) (by decide) (by decide) (Nat.le_of_ble_eq_true rfl) dX8_readGate_74 ?_
        refine zg_X8_report hP46.1 ?_; have hE54 : zEq (zput (zput J43 y 5 (-2 : Int32)) y 6 (nI p9)) y ((-2 : Int32), p9) := zEq.mk (by decide); have fr55 : zfm I (zput (zput J43 y 5 (-2 : Int32)) y 6 (nI p9)) y := zfm.put (zfm.put fr45 (by decide)) (by decide)
        refine zr_vret X (by decide) (by decide) dX8_readGate_77 ?_
        exact k2 _ _ (by rw [pGate1, if_neg hw10, if_neg hw7, if_neg hw4]) fr55 hE54
abbrev zrm_X8_readCard : Room := { frames := 3, cells := 0, slots := 0, locals := 65 }
/-- a loop that writes into the row that is tried, when an error has been told: nothing is known of that row any more -/
theorem zfm_of {I J : zI} {y : Nat} (h : zag I J (y + 3) 1) : zfm I J y := zfm.rf.row h
set_option maxRecDepth 20000 in
theorem zl_X8_readCard {l : Launch} {D : va_G} {b0 : Nat} {tA : Nat → ClassId} {sa sv : Nat → Nat} {K : Nat → Option Nat} {I : zI} {Qp : zI → Option AV → Prop} {Xp : String → zI → Prop} {p : Program} {e : Env} {s : State} {m : MethodId} {args : Array Value} {below : List Frame} {meth : Method} {c : Code} {y n9 p9 : Nat} {t : Nat → Nat} {S : zS}
    (X : zX p l e zrm_X8_readCard s m args below meth c RX8 cX8_readCard 3 none D b0 tA sa sv) (hnt : ∀ x ∈ c.exceptionTable.toList, False) (h14 : I y 14 = nI p9) (h15 : I y 15 = nI (tEndL t n9 p9 - p9)) (hB : ∀ k, k < tEndL t n9 p9 - p9 → I (y + 1) (p9 + k) = nI (t (p9 + k))) (hL6 : tEndL t n9 p9 - p9 ≤ 6) (hL5 : p9 + (tEndL t n9 p9 - p9) ≤ 500) (h12 : znc S < 12) (hW : zWf S) (hk : ∀ (J : zI) (T : zS), sX T = sX S → sG T = sG S → sL T = sL S → sC T = sC S → (sM T = fun x y => if x = znc S then (tNmF t n9 p9) y else sM S x y) → zag I J (y + 3) 1 → zMd J (y + 3) T → zG p l e zrm_X8_readCard s m args below meth c 3 D b0 tA sa 0 0 (zQ below D b0 tA sa K args s zrm_X8_readCard Qp Xp) K 94 [some (vr (y) 8), some (vi ((nI (znc S)))), none] [] J) :
    ∀ (n : Nat) (k : Nat) (J : zI), k ≤ 6 → zag I J (y + 3) 1 → zMd J (y + 3) (qNms S (znc S) (tNmF t n9 p9) k) → 6 - k < n → zG p l e zrm_X8_readCard s m args below meth c 3 D b0 tA sa 0 0 (zQ below D b0 tA sa K args s zrm_X8_readCard Qp Xp) K 47 [some (vr (y) 8), some (vi ((nI (znc S)))), some (vi ((nI k)))] [] J := by
  intro n
  induction n with
  | zero => intro k J i1 hgJ i3 i9; exact absurd i9 (Nat.not_lt_zero _)
  | succ n ih =>
    intro k J i1 hgJ i3 i9
    refine zr_iload2 X dX8_readCard_47 ?_
    refine zr_bipush (v := (6 : Int32)) X dX8_readCard_48 (by decide) ?_
    refine zr_nicmp_ge X (k) (6) (tgt := 94) (by omega) (by omega) dX8_readCard_50 (by decide) (fun h1 => ?_) (fun h1 => ?_)
    · skip
      have hk6 : k = 6 := by omega
      subst hk6
      refine zr_forget (lv2 := [some (vr (y) 8), some (vi ((nI (znc S)))), none]) (fun j9 v9 h9 => by rcases j9 with _ | _ | _ | _ | _ | _ | _ | _ | j9 <;> first | exact h9 | (simp at h9)) ?_
      obtain ⟨T, e9, h1, h2, h3, h4, h5⟩ := qNms_T (S := S) hW (tNmF_6 (t := t) (n := n9) (p := p9) hL6)
      rw [e9] at i3; exact hk J T h1 h2 h3 h4 h5 hgJ i3
    · skip
      refine zr_aload0 X dX8_readCard_53 ?_
      refine zr_getR X zf_X8_20 rfl (by decide) (by decide) dX8_readCard_54 ?_
      refine zr_iload1 X dX8_readCard_57 ?_
      refine zr_iconst (v := (4 : Int32)) X dX8_readCard_58 (by decide) ?_
      refine zr_iload2 X dX8_readCard_59 ?_
      refine zr_iadd X dX8_readCard_60 ?_
      refine zr_eq (x2 := (nI (4 + k))) (nI_add (4) (k)) ?_
      refine zr_callS2 (rm9 := zrm_X8_cardAt) X hnt zm_X8_61 (by decide) (by decide) (by decide) (Nat.le_of_ble_eq_true rfl) dX8_readCard_61 ?_
      refine zn_X8_cardAt (g := znc S) (w := 4 + k) ?_
      refine zr_iload2 X dX8_readCard_64 ?_
      refine zr_aload0 X dX8_readCard_65 ?_
      refine zr_getI X zf_X8_153 rfl dX8_readCard_66 ?_
      refine zr_eq (x2 := (I (y) 15)) ((congrFun (hgJ (y) (by omega)) 15)) ?_
      refine zr_eq (x2 := (nI (tEndL t n9 p9 - p9))) (h15) ?_
      refine zr_nicmp_ge X (k) ((tEndL t n9 p9 - p9)) (tgt := 86) (by omega) (by omega) dX8_readCard_69 (by decide) (fun h2 => ?_) (fun h2 => ?_)
      · skip
        refine zr_iconst (v := (0 : Int32)) X dX8_readCard_86 (by decide) ?_
        refine zr_iastN X rfl (show _ < 310 from (by first | assumption | omega)) dX8_readCard_87 ?_
        have hM_1 : zMd _ (y + 3) (tM (qNms S (znc S) (tNmF t n9 p9) k) (znc S) k (0 : Int32)) := zMd_M i3 (c := (znc S)) (k := k) (v := (0 : Int32)) (by omega) (by omega)
        refine zr_iinc2 (v := (nI (k + 1))) X (show nI (k) + Int32.ofInt 1 = nI (k + 1) from nI_1 (k)) (by decide) rfl dX8_readCard_88 ?_
        refine zr_goto (tgt := 47) X dX8_readCard_91 (by decide) ?_
        refine ih (k + 1) _ (by omega) (by repeat (first | exact zag.rf | assumption | refine zag.put ?_ (by omega) (by omega) | refine zag.tr ?_ (by assumption) (by omega) (by omega))) ?_ (by omega)
        show zMd _ (y + 3) (tM (qNms S (znc S) (tNmF t n9 p9) k) (znc S) k ((tNmF t n9 p9) k))
        have e9 : (tNmF t n9 p9) k = (0 : Int32) := by (unfold tNmF; exact if_neg (by omega))
        rw [e9]; exact hM_1
      · skip
        refine zr_aload0 X dX8_readCard_72 ?_
        refine zr_getR X zf_X8_9 rfl (by decide) (by decide) dX8_readCard_73 ?_
        refine zr_aload0 X dX8_readCard_76 ?_
        refine zr_getI X zf_X8_150 rfl dX8_readCard_77 ?_
        refine zr_eq (x2 := (I (y) 14)) ((congrFun (hgJ (y) (by omega)) 14)) ?_
        refine zr_eq (x2 := (nI p9)) (h14) ?_
        refine zr_iload2 X dX8_readCard_80 ?_
        refine zr_iadd X dX8_readCard_81 ?_
        refine zr_eq (x2 := (nI (p9 + k))) (nI_add (p9) (k)) ?_
        refine zr_ialdN X rfl (show _ < 500 from (by first | assumption | omega)) dX8_readCard_82 ?_
        refine zr_eq (x2 := (nI (t (p9 + k)))) ((congrFun (hgJ (y + 1) (by omega)) _).trans (hB _ (by omega))) ?_
        refine zr_goto (tgt := 87) X dX8_readCard_83 (by decide) ?_
        refine zr_iastN X rfl (show _ < 310 from (by first | assumption | omega)) dX8_readCard_87 ?_
        have hM_2 : zMd _ (y + 3) (tM (qNms S (znc S) (tNmF t n9 p9) k) (znc S) k (nI (t (p9 + k)))) := zMd_M i3 (c := (znc S)) (k := k) (v := (nI (t (p9 + k)))) (by omega) (by omega)
        refine zr_iinc2 (v := (nI (k + 1))) X (show nI (k) + Int32.ofInt 1 = nI (k + 1) from nI_1 (k)) (by decide) rfl dX8_readCard_88 ?_
        refine zr_goto (tgt := 47) X dX8_readCard_91 (by decide) ?_
        refine ih (k + 1) _ (by omega) (by repeat (first | exact zag.rf | assumption | refine zag.put ?_ (by omega) (by omega) | refine zag.tr ?_ (by assumption) (by omega) (by omega))) ?_ (by omega)
        show zMd _ (y + 3) (tM (qNms S (znc S) (tNmF t n9 p9) k) (znc S) k ((tNmF t n9 p9) k))
        have e9 : (tNmF t n9 p9) k = nI (t (p9 + k)) := by (unfold tNmF; exact if_pos (by omega))
        rw [e9]; exact hM_2
set_option maxRecDepth 20000 in
theorem zlb_X8_readCard {l : Launch} {D : va_G} {b0 : Nat} {tA : Nat → ClassId} {sa sv : Nat → Nat} {K : Nat → Option Nat} {I : zI} {Qp : zI → Option AV → Prop} {Xp : String → zI → Prop} {p : Program} {e : Env} {s : State} {m : MethodId} {args : Array Value} {below : List Frame} {meth : Method} {c : Code} {y n9 p9 : Nat} {t : Nat → Nat} {S : zS}
    (X : zX p l e zrm_X8_readCard s m args below meth c RX8 cX8_readCard 3 none D b0 tA sa sv) (hnt : ∀ x ∈ c.exceptionTable.toList, False) (h14 : I y 14 = nI p9) (h15 : I y 15 = nI (tEndL t n9 p9 - p9)) (hB : ∀ k, k < tEndL t n9 p9 - p9 → I (y + 1) (p9 + k) = nI (t (p9 + k))) (hL6 : tEndL t n9 p9 - p9 ≤ 6) (hL5 : p9 + (tEndL t n9 p9 - p9) ≤ 500) (h12 : znc S < 12) (hk : ∀ J : zI, zag I J (y + 3) 1 → zG p l e zrm_X8_readCard s m args below meth c 3 D b0 tA sa 0 0 (zQ below D b0 tA sa K args s zrm_X8_readCard Qp Xp) K 94 [some (vr (y) 8), some (vi ((nI (znc S)))), none] [] J) :
    ∀ (n : Nat) (k : Nat) (J : zI), k ≤ 6 → zag I J (y + 3) 1 → 6 - k < n → zG p l e zrm_X8_readCard s m args below meth c 3 D b0 tA sa 0 0 (zQ below D b0 tA sa K args s zrm_X8_readCard Qp Xp) K 47 [some (vr (y) 8), some (vi ((nI (znc S)))), some (vi ((nI k)))] [] J := by
  intro n
  induction n with
  | zero => intro k J i1 hgJ i9; exact absurd i9 (Nat.not_lt_zero _)
  | succ n ih =>
    intro k J i1 hgJ i9
    refine zr_iload2 X dX8_readCard_47 ?_
    refine zr_bipush (v := (6 : Int32)) X dX8_readCard_48 (by decide) ?_
    refine zr_nicmp_ge X (k) (6) (tgt := 94) (by omega) (by omega) dX8_readCard_50 (by decide) (fun h1 => ?_) (fun h1 => ?_)
    · skip
      have hk6 : k = 6 := by omega
      subst hk6
      refine zr_forget (lv2 := [some (vr (y) 8), some (vi ((nI (znc S)))), none]) (fun j9 v9 h9 => by rcases j9 with _ | _ | _ | _ | _ | _ | _ | _ | j9 <;> first | exact h9 | (simp at h9)) ?_
      exact hk J hgJ
    · skip
      refine zr_aload0 X dX8_readCard_53 ?_
      refine zr_getR X zf_X8_20 rfl (by decide) (by decide) dX8_readCard_54 ?_
      refine zr_iload1 X dX8_readCard_57 ?_
      refine zr_iconst (v := (4 : Int32)) X dX8_readCard_58 (by decide) ?_
      refine zr_iload2 X dX8_readCard_59 ?_
      refine zr_iadd X dX8_readCard_60 ?_
      refine zr_eq (x2 := (nI (4 + k))) (nI_add (4) (k)) ?_
      refine zr_callS2 (rm9 := zrm_X8_cardAt) X hnt zm_X8_61 (by decide) (by decide) (by decide) (Nat.le_of_ble_eq_true rfl) dX8_readCard_61 ?_
      refine zn_X8_cardAt (g := znc S) (w := 4 + k) ?_
      refine zr_iload2 X dX8_readCard_64 ?_
      refine zr_aload0 X dX8_readCard_65 ?_
      refine zr_getI X zf_X8_153 rfl dX8_readCard_66 ?_
      refine zr_eq (x2 := (I (y) 15)) ((congrFun (hgJ (y) (by omega)) 15)) ?_
      refine zr_eq (x2 := (nI (tEndL t n9 p9 - p9))) (h15) ?_
      refine zr_nicmp_ge X (k) ((tEndL t n9 p9 - p9)) (tgt := 86) (by omega) (by omega) dX8_readCard_69 (by decide) (fun h2 => ?_) (fun h2 => ?_)
      · skip
        refine zr_iconst (v := (0 : Int32)) X dX8_readCard_86 (by decide) ?_
        refine zr_iastN X rfl (show _ < 310 from (by first | assumption | omega)) dX8_readCard_87 ?_
        refine zr_iinc2 (v := (nI (k + 1))) X (show nI (k) + Int32.ofInt 1 = nI (k + 1) from nI_1 (k)) (by decide) rfl dX8_readCard_88 ?_
        refine zr_goto (tgt := 47) X dX8_readCard_91 (by decide) ?_
        exact ih (k + 1) _ (by omega) (by repeat (first | exact zag.rf | assumption | refine zag.put ?_ (by omega) (by omega) | refine zag.tr ?_ (by assumption) (by omega) (by omega))) (by omega)
      · skip
        refine zr_aload0 X dX8_readCard_72 ?_
        refine zr_getR X zf_X8_9 rfl (by decide) (by decide) dX8_readCard_73 ?_
        refine zr_aload0 X dX8_readCard_76 ?_
        refine zr_getI X zf_X8_150 rfl dX8_readCard_77 ?_
        refine zr_eq (x2 := (I (y) 14)) ((congrFun (hgJ (y) (by omega)) 14)) ?_
        refine zr_eq (x2 := (nI p9)) (h14) ?_
        refine zr_iload2 X dX8_readCard_80 ?_
        refine zr_iadd X dX8_readCard_81 ?_
        refine zr_eq (x2 := (nI (p9 + k))) (nI_add (p9) (k)) ?_
        refine zr_ialdN X rfl (show _ < 500 from (by first | assumption | omega)) dX8_readCard_82 ?_
        refine zr_eq (x2 := (nI (t (p9 + k)))) ((congrFun (hgJ (y + 1) (by omega)) _).trans (hB _ (by omega))) ?_
        refine zr_goto (tgt := 87) X dX8_readCard_83 (by decide) ?_
        refine zr_iastN X rfl (show _ < 310 from (by first | assumption | omega)) dX8_readCard_87 ?_
        refine zr_iinc2 (v := (nI (k + 1))) X (show nI (k) + Int32.ofInt 1 = nI (k + 1) from nI_1 (k)) (by decide) rfl dX8_readCard_88 ?_
        refine zr_goto (tgt := 47) X dX8_readCard_91 (by decide) ?_
        exact ih (k + 1) _ (by omega) (by repeat (first | exact zag.rf | assumption | refine zag.put ?_ (by omega) (by omega) | refine zag.tr ?_ (by assumption) (by omega) (by omega))) (by omega)
set_option maxRecDepth 20000 in
theorem zp_X8_readCard {l : Launch} {D : va_G} {b0 : Nat} {tA : Nat → ClassId} {sa sv : Nat → Nat} {K : Nat → Option Nat} {I : zI} {Qp : zI → Option AV → Prop} {Xp : String → zI → Prop} {y n9 q9 p9 : Nat} {t : Nat → Nat} {S : zS}
    (hP : zPq I y t n9 q9) (hp : tSkip t n9 q9 = p9) (hM : zMd I (y + 3) S) (hW : zWf S) (h12 : znc S < 12) (k1 : ∀ (J : zI) (p2 q2 : Nat) (S2 : zS), pCard1 t n9 p9 S = .inr (p2, S2) → zfm I J y → zPq J y t n9 q2 → tSkip t n9 q2 = p2 → zMd J (y + 3) S2 → zWf S2 → Qp J none) (k2 : ∀ (J : zI) (e : Int32 × Nat), pCard1 t n9 p9 S = .inl e → zfm I J y → zEq J y e → Qp J none) :
    zC l D b0 tA sa sv K yX8_readCard (.code yX8_readCard cX8_readCard 3 none) zrm_X8_readCard [vr (y) 8] I Qp Xp := by
  have hn5 := hP.2.2.2.2.1
  have hqn := hP.2.2.2.1
  have hpl := tSkip_le (t := t) hP.2.2.2.1
  have hg6 := hW.ng.1
  have hc12 := hW.nc.1
  refine zC_of (by decide +kernel) (Nat.le_of_ble_eq_true rfl) ?_
  intro p e s m args below meth c X hnt
  have X : zX p l e zrm_X8_readCard s m args below meth c RX8 cX8_readCard 3 none D b0 tA sa sv := X
  refine zr_lv (lv2 := [some (vr (y) 8), none, none]) rfl ?_
  refine zr_aload0 X dX8_readCard_0 ?_
  refine zr_getR X zf_X8_20 rfl (by decide) (by decide) dX8_readCard_1 ?_
  refine zr_iconst (v := (5 : Int32)) X dX8_readCard_4 (by decide) ?_
  refine zr_ialdN (n := 5) X rfl (show _ < 310 from (by first | assumption | omega | decide)) dX8_readCard_5 ?_
  refine zr_eq (x2 := (sX S 5)) (hM.1 5 (by decide)) ?_
  refine zr_eq (x2 := (nI (znc S))) (hW.nc.2) ?_
  refine zr_istore1 X (by decide) rfl dX8_readCard_6 ?_
  refine zr_aload0 X dX8_readCard_7 ?_
  refine zr_callV0 (rm9 := zrm_X8_name) X hnt zm_X8_156 (by decide) (by decide) (by decide) (Nat.le_of_ble_eq_true rfl) dX8_readCard_8 ?_
  refine zg_X8_name (p9 := p9) hP hp ?_ ?_
  · skip
    intro hq57 J56 hg58 fr59 hP60 h1461 h1562; have hM63 : zMd J56 (y + 3) S := zMd.ag hM hg58 (by omega); have fr59 : zfm I J56 y := zfm.tr zfm.rf fr59; obtain ⟨hk2, hL6⟩ := pName_none hq57; have hL1 := tEndL_1 hk2; have hL2 := tEndL_le (t := t) (n := n9) (p := p9) (Nat.le_of_lt (tKind_2.mp hk2).1); have := tNext_le (t := t) (Nat.le_of_lt (tKind_2.mp hk2).1); have := hP60.2.2.2.1
    refine zr_if_ne (tgt := 15) X dX8_readCard_11 (by decide) (fun _ => ?_) (fun h => absurd h (by decide))
    refine zr_aload0 X dX8_readCard_15 ?_
    refine zr_aload0 X dX8_readCard_16 ?_
    refine zr_getR X zf_X8_20 rfl (by decide) (by decide) dX8_readCard_17 ?_
    refine zr_aload0 X dX8_readCard_20 ?_
    refine zr_getI X zf_X8_150 rfl dX8_readCard_21 ?_
    refine zr_eq (x2 := (nI p9)) (h1461) ?_
    refine zr_aload0 X dX8_readCard_24 ?_
    refine zr_getI X zf_X8_153 rfl dX8_readCard_25 ?_
    refine zr_eq (x2 := (nI (tEndL t n9 p9 - p9))) (h1562) ?_
    refine zr_callV3 (rm9 := zrm_X8_called) X hnt zm_X8_159 (by decide) (by decide) (by decide) (Nat.le_of_ble_eq_true rfl) dX8_readCard_28 ?_
    refine zp_X8_called (t := t) (p9 := p9) (L := tEndL t n9 p9 - p9) hM63 hW (fun k hk => hP60.2.2.2.2.2.2 _ (by omega)) (by omega) (by omega) ?_ ?_
    · skip
      intro c71 hq72 hc73
      refine zr_iconst (v := (-1 : Int32)) X dX8_readCard_31 (by decide) ?_
      refine zr_icmp_eq (tgt := 45) X dX8_readCard_32 (by decide) (fun h => absurd h (zm1 (by omega))) (fun _ => ?_)
      refine zr_aload0 X dX8_readCard_35 ?_
      refine zr_bipush (v := (-4 : Int32)) X dX8_readCard_36 (by decide) ?_
      refine zr_aload0 X dX8_readCard_38 ?_
      refine zr_getI X zf_X8_150 rfl dX8_readCard_39 ?_
      refine zr_eq (x2 := (nI p9)) (h1461) ?_
      refine zr_callV2 (rm9 := zrm_X8_report) X hnt zm_X8_138 (by decide) (by decide) (by decide) (Nat.le_of_ble_eq_true rfl) dX8_readCard_42 ?_
      refine zg_X8_report hP60.1 ?_; have hE75 : zEq (zput (zput J56 y 5 (-4 : Int32)) y 6 (nI p9)) y ((-4 : Int32), p9) := zEq.mk (by decide); have fr76 : zfm I (zput (zput J56 y 5 (-4 : Int32)) y 6 (nI p9)) y := zfm.put (zfm.put fr59 (by decide)) (by decide)
      refine zr_iconst (v := (0 : Int32)) X dX8_readCard_45 (by decide) ?_
      refine zr_istore2 X (by decide) rfl dX8_readCard_46 ?_
      refine zlb_X8_readCard X hnt (t := t) (n9 := n9) (p9 := p9) (S := S) ((zput_nj (by decide)).trans ((zput_nj (by decide)).trans h1461)) ((zput_nj (by decide)).trans ((zput_nj (by decide)).trans h1562)) (fun k hk => (zput_ne (by omega)).trans ((zput_ne (by omega)).trans (hP60.2.2.2.2.2.2 _ (by omega)))) hL6 (by omega) h12 (fun J77 hg78 => ?_) 7 0 _ (by omega) zag.rf (by omega)
      have hE79 : zEq J77 y ((-4 : Int32), p9) := zEq.row hE75 hg78
      have fr80 : zfm I J77 y := zfm.row fr76 hg78
      refine zr_aload0 X dX8_readCard_94 ?_
      refine zr_getR X zf_X8_20 rfl (by decide) (by decide) dX8_readCard_95 ?_
      refine zr_iload1 X dX8_readCard_98 ?_
      refine zr_iconst (v := (0 : Int32)) X dX8_readCard_99 (by decide) ?_
      refine zr_callS2 (rm9 := zrm_X8_cardAt) X hnt zm_X8_61 (by decide) (by decide) (by decide) (Nat.le_of_ble_eq_true rfl) dX8_readCard_100 ?_
      refine zn_X8_cardAt (g := znc S) (w := 0) ?_
      refine zr_aload0 X dX8_readCard_103 ?_
      refine zr_iconst (v := (0 : Int32)) X dX8_readCard_104 (by decide) ?_
      refine zr_bipush (v := (99 : Int32)) X dX8_readCard_105 (by decide) ?_
      refine zr_callV2 (rm9 := zrm_X8_number) X hnt zm_X8_177 (by decide) (by decide) (by decide) (Nat.le_of_ble_eq_true rfl) dX8_readCard_107 ?_
      refine zb_X8_number hE79 ?_
      refine zr_iastN X rfl (show _ < 310 from (by first | assumption | omega)) dX8_readCard_110 ?_
      refine zr_aload0 X dX8_readCard_111 ?_
      refine zr_getR X zf_X8_20 rfl (by decide) (by decide) dX8_readCard_112 ?_
      refine zr_iconst (v := (5 : Int32)) X dX8_readCard_115 (by decide) ?_
      refine zr_dup2 X dX8_readCard_116 ?_
      refine zr_ialdN (n := 5) X rfl (by decide) dX8_readCard_117 ?_
      refine zr_iconst (v := (1 : Int32)) X dX8_readCard_118 (by decide) ?_
      refine zr_iadd X dX8_readCard_119 ?_
      refine zr_iastN (n := 5) X rfl (by decide) dX8_readCard_120 ?_
      refine zr_vret X (by decide) (by decide) dX8_readCard_121 ?_
      have hP81 : zEq (zput (zput J77 (y + 3) (190 + 10 * (znc S) + 0) ((0 : Int32))) (y + 3) 5 ((((zput J77 (y + 3) (190 + 10 * (znc S) + 0) ((0 : Int32))) (y + 3) 5) + (1 : Int32)))) y ((-4 : Int32), p9) := (zEq.rowput (zEq.rowput hE79))
      have fr82 : zfm I (zput (zput J77 (y + 3) (190 + 10 * (znc S) + 0) ((0 : Int32))) (y + 3) 5 ((((zput J77 (y + 3) (190 + 10 * (znc S) + 0) ((0 : Int32))) (y + 3) 5) + (1 : Int32)))) y := (zfm.rowput (zfm.rowput fr80))
      exact k2 _ _ (by unfold pCard1; simp only [hq57, show pFind S (tNmF t n9 p9) = _ from hq72]) fr82 hP81
    · skip
      intro hq74
      refine zr_iconst (v := (-1 : Int32)) X dX8_readCard_31 (by decide) ?_
      refine zr_icmp_eq (tgt := 45) X dX8_readCard_32 (by decide) (fun _ => ?_) (fun h => absurd h (by decide))
      refine zr_iconst (v := (0 : Int32)) X dX8_readCard_45 (by decide) ?_
      refine zr_istore2 X (by decide) rfl dX8_readCard_46 ?_
      refine zl_X8_readCard X hnt (t := t) (n9 := n9) (p9 := p9) (S := S) h1461 h1562 (fun k hk => hP60.2.2.2.2.2.2 _ (by omega)) hL6 (by omega) h12 hW (fun J83 T9 hX9 hG9 hL9 hC9 hN9 hg84 hM85 => ?_) 7 0 _ (by omega) zag.rf hM63 (by omega)
      have hP86 : zPq J83 y t n9 (tEnd t n9 p9) := zPq.row hP60 hg84
      have fr87 : zfm I J83 y := zfm.row fr59 hg84
      refine zr_aload0 X dX8_readCard_94 ?_
      refine zr_getR X zf_X8_20 rfl (by decide) (by decide) dX8_readCard_95 ?_
      refine zr_iload1 X dX8_readCard_98 ?_
      refine zr_iconst (v := (0 : Int32)) X dX8_readCard_99 (by decide) ?_
      refine zr_callS2 (rm9 := zrm_X8_cardAt) X hnt zm_X8_61 (by decide) (by decide) (by decide) (Nat.le_of_ble_eq_true rfl) dX8_readCard_100 ?_
      refine zn_X8_cardAt (g := znc S) (w := 0) ?_
      refine zr_aload0 X dX8_readCard_103 ?_
      refine zr_iconst (v := (0 : Int32)) X dX8_readCard_104 (by decide) ?_
      refine zr_bipush (v := (99 : Int32)) X dX8_readCard_105 (by decide) ?_
      refine zr_callV2 (rm9 := zrm_X8_number) X hnt zm_X8_177 (by decide) (by decide) (by decide) (Nat.le_of_ble_eq_true rfl) dX8_readCard_107 ?_
      refine zg_X8_number (lo := 0) (hi := 100) (p9 := (tNext t n9 p9)) hP86 rfl (by omega) (by omega) (by rfl) ?_ ?_
      · skip
        intro J89 v88 hq90 hg91 fr92 hP93; have hM94 : zMd J89 (y + 3) T9 := zMd.ag hM85 hg91 (by omega); have fr92 : zfm I J89 y := zfm.tr fr87 fr92; have := pNum_gt hq90; have := tNext_le (t := t) (Nat.le_of_lt this.1); have := hP93.2.2.2.1
        refine zr_iastN X rfl (show _ < 310 from (by first | assumption | omega)) dX8_readCard_110 ?_
        have hM_1 : zMd _ (y + 3) (tC T9 (znc S) 0 (nI v88)) := zMd_C hM94 (c := (znc S)) (j := 0) (v := (nI v88)) (by omega) (by decide)
        refine zr_aload0 X dX8_readCard_111 ?_
        refine zr_getR X zf_X8_20 rfl (by decide) (by decide) dX8_readCard_112 ?_
        refine zr_iconst (v := (5 : Int32)) X dX8_readCard_115 (by decide) ?_
        refine zr_dup2 X dX8_readCard_116 ?_
        refine zr_ialdN (n := 5) X rfl (show _ < 310 from (by first | assumption | omega | decide)) dX8_readCard_117 ?_
        refine zr_eq (x2 := (sX (tC T9 (znc S) 0 (nI v88)) 5)) (hM_1.1 5 (by decide)) ?_
        refine zr_eq (x2 := (nI (znc S))) ((congrFun hX9 5).trans hW.nc.2) ?_
        refine zr_iconst (v := (1 : Int32)) X dX8_readCard_118 (by decide) ?_
        refine zr_iadd X dX8_readCard_119 ?_
        refine zr_eq (x2 := (nI ((znc S) + 1))) (nI_add ((znc S)) (1)) ?_
        refine zr_iastN (n := 5) X rfl (by decide) dX8_readCard_120 ?_
        have hM_2 : zMd _ (y + 3) (tX (tC T9 (znc S) 0 (nI v88)) 5 (nI ((znc S) + 1))) := zMd_X hM_1 (i := 5) (v := (nI ((znc S) + 1))) (by decide)
        refine zr_vret X (by decide) (by decide) dX8_readCard_121 ?_
        have hP102 : zPq (zput (zput J89 (y + 3) (190 + 10 * (znc S) + 0) ((nI v88))) (y + 3) 5 ((nI ((znc S) + 1)))) y t n9 (tEnd t n9 ((tNext t n9 p9))) := (zPq.rowput (zPq.rowput hP93))
        have fr103 : zfm I (zput (zput J89 (y + 3) (190 + 10 * (znc S) + 0) ((nI v88))) (y + 3) 5 ((nI ((znc S) + 1)))) y := (zfm.rowput (zfm.rowput fr92))
        have hS9 := qAddCard_of (v := nI v88) hX9 hG9 hL9 hC9 hN9
        have hM9 := hM_2
        rw [hS9] at hM9
        exact k1 _ _ _ _ (by ((unfold pCard1; simp only [hq57, show pFind S (tNmF t n9 p9) = _ from hq74]; unfold pCard2; simp only [hq90]) <;> rfl)) fr103 hP102 rfl hM9 (zWf_addCard hW h12 (tNmF_ok hk2 hL6))
      · skip
        intro J95 e100 hq96 hg97 fr98 hE99; have hM101 : zMd J95 (y + 3) T9 := zMd.ag hM85 hg97 (by omega); have fr98 : zfm I J95 y := zfm.tr fr87 fr98
        refine zr_iastN X rfl (show _ < 310 from (by first | assumption | omega)) dX8_readCard_110 ?_
        have hM_3 : zMd _ (y + 3) (tC T9 (znc S) 0 (0 : Int32)) := zMd_C hM101 (c := (znc S)) (j := 0) (v := (0 : Int32)) (by omega) (by decide)
        refine zr_aload0 X dX8_readCard_111 ?_
        refine zr_getR X zf_X8_20 rfl (by decide) (by decide) dX8_readCard_112 ?_
        refine zr_iconst (v := (5 : Int32)) X dX8_readCard_115 (by decide) ?_
        refine zr_dup2 X dX8_readCard_116 ?_
        refine zr_ialdN (n := 5) X rfl (show _ < 310 from (by first | assumption | omega | decide)) dX8_readCard_117 ?_
        refine zr_eq (x2 := (sX (tC T9 (znc S) 0 (0 : Int32)) 5)) (hM_3.1 5 (by decide)) ?_
        refine zr_eq (x2 := (nI (znc S))) ((congrFun hX9 5).trans hW.nc.2) ?_
        refine zr_iconst (v := (1 : Int32)) X dX8_readCard_118 (by decide) ?_
        refine zr_iadd X dX8_readCard_119 ?_
        refine zr_eq (x2 := (nI ((znc S) + 1))) (nI_add ((znc S)) (1)) ?_
        refine zr_iastN (n := 5) X rfl (by decide) dX8_readCard_120 ?_
        have hM_4 : zMd _ (y + 3) (tX (tC T9 (znc S) 0 (0 : Int32)) 5 (nI ((znc S) + 1))) := zMd_X hM_3 (i := 5) (v := (nI ((znc S) + 1))) (by decide)
        refine zr_vret X (by decide) (by decide) dX8_readCard_121 ?_
        have hP104 : zEq (zput (zput J95 (y + 3) (190 + 10 * (znc S) + 0) ((0 : Int32))) (y + 3) 5 ((nI ((znc S) + 1)))) y e100 := (zEq.rowput (zEq.rowput hE99))
        have fr105 : zfm I (zput (zput J95 (y + 3) (190 + 10 * (znc S) + 0) ((0 : Int32))) (y + 3) 5 ((nI ((znc S) + 1)))) y := (zfm.rowput (zfm.rowput fr98))
        exact k2 _ _ (by unfold pCard1; simp only [hq57, show pFind S (tNmF t n9 p9) = _ from hq74]; unfold pCard2; simp only [hq96]) fr105 hP104
  · skip
    intro J64 e69 hq65 hg66 fr67 hE68; have hM70 : zMd J64 (y + 3) S := zMd.ag hM hg66 (by omega); have fr67 : zfm I J64 y := zfm.tr zfm.rf fr67
    refine zr_if_ne (tgt := 15) X dX8_readCard_11 (by decide) (fun h => absurd h (by decide)) (fun _ => ?_)
    refine zr_vret X (by decide) (by decide) dX8_readCard_14 ?_
    exact k2 _ _ (by unfold pCard1; simp only [hq65]) fr67 hE68
abbrev zrm_X8_readList : Room := { frames := 4, cells := 0, slots := 0, locals := 82 }
set_option maxRecDepth 20000 in
theorem zl_X8_readList {l : Launch} {D : va_G} {b0 : Nat} {tA : Nat → ClassId} {sa sv : Nat → Nat} {K : Nat → Option Nat} {I : zI} {Qp : zI → Option AV → Prop} {Xp : String → zI → Prop} {p : Program} {e : Env} {s : State} {m : MethodId} {args : Array Value} {below : List Frame} {meth : Method} {c : Code} {y n9 : Nat} {t : Nat → Nat} {RES : zRs}
    (X : zX p l e zrm_X8_readList s m args below meth c RX8 cX8_readList 3 none D b0 tA sa sv) (hnt : ∀ x ∈ c.exceptionTable.toList, False) (k1 : ∀ (J : zI) (p2 q2 : Nat) (S2 : zS), RES = .inr (p2, S2) → zfm I J y → zPq J y t n9 q2 → tSkip t n9 q2 = p2 → zMd J (y + 3) S2 → zWf S2 → Qp J none) (k2 : ∀ (J : zI) (e : Int32 × Nat), RES = .inl e → zfm I J y → zEq J y e → Qp J none) :
    ∀ (n : Nat) (pp qq : Nat) (T : zS) (J : zI), pList1 t n9 pp T = RES → zfm I J y → zPq J y t n9 qq → tSkip t n9 qq = pp → zMd J (y + 3) T → zWf T → n9 - pp < n → zG p l e zrm_X8_readList s m args below meth c 3 D b0 tA sa 0 0 (zQ below D b0 tA sa K args s zrm_X8_readList Qp Xp) K 2 [some (vr (y) 8), some (vi ((1 : Int32))), none] [] J := by
  intro n
  induction n with
  | zero => intro pp qq T J i1 i2 i3 i4 i5 i6 i9; exact absurd i9 (Nat.not_lt_zero _)
  | succ n ih =>
    intro pp qq T J i1 i2 i3 i4 i5 i6 i9
    have hn5 := i3.2.2.2.2.1
    have hqn := i3.2.2.2.1
    have hpl := tSkip_le (t := t) i3.2.2.2.1
    have hg6 := i6.ng.1
    have hc12 := i6.nc.1
    refine zr_iload1 X dX8_readList_2 ?_
    refine zr_if_eq (tgt := 45) X dX8_readList_3 (by decide) (fun h => absurd h (by decide)) (fun _ => ?_)
    refine zr_aload0 X dX8_readList_6 ?_
    refine zr_callV0 (rm9 := zrm_X8_known) X hnt zm_X8_180 (by decide) (by decide) (by decide) (Nat.le_of_ble_eq_true rfl) dX8_readList_7 ?_
    refine zg_X8_known (p9 := pp) i3 i4 i5 i6 ?_ ?_
    · skip
      intro J108 c106 hq109 hg110 fr111 hP112; have hM113 : zMd J108 (y + 3) T := zMd.ag i5 hg110 (by omega); have fr111 : zfm I J108 y := zfm.tr i2 fr111; intro hc107; have := hP112.2.2.2.1; have := i6.nc.1; have := pKnown_lt hq109; have := tNext_gt (t := t) (pKnown_lt hq109); have := tNext_le (t := t) (Nat.le_of_lt (pKnown_lt hq109))
      refine zr_istore2 X (by decide) rfl dX8_readList_10 ?_
      refine zr_aload0 X dX8_readList_11 ?_
      refine zr_callV0 (rm9 := zrm_X8_isGood) X hnt zm_X8_121 (by decide) (by decide) (by decide) (Nat.le_of_ble_eq_true rfl) dX8_readList_12 ?_
      refine zg_X8_isGood hP112.1 ?_
      refine zr_if_ne (tgt := 19) X dX8_readList_15 (by decide) (fun _ => ?_) (fun h => absurd h (by decide))
      refine zr_aload0 X dX8_readList_19 ?_
      refine zr_getR X zf_X8_20 rfl (by decide) (by decide) dX8_readList_20 ?_
      refine zr_iload2 X dX8_readList_23 ?_
      refine zr_iconst (v := (2 : Int32)) X dX8_readList_24 (by decide) ?_
      refine zr_callS2 (rm9 := zrm_X8_cardAt) X hnt zm_X8_61 (by decide) (by decide) (by decide) (Nat.le_of_ble_eq_true rfl) dX8_readList_25 ?_
      refine zn_X8_cardAt (g := c106) (w := 2) ?_
      refine zr_iconst (v := (1 : Int32)) X dX8_readList_28 (by decide) ?_
      refine zr_iastN X rfl (show _ < 310 from (by first | assumption | omega)) dX8_readList_29 ?_
      have hM_1 : zMd _ (y + 3) (tC T c106 2 (1 : Int32)) := zMd_C hM113 (c := c106) (j := 2) (v := (1 : Int32)) (by omega) (by decide)
      refine zr_aload0 X dX8_readList_30 ?_
      refine zr_callV0 (rm9 := zrm_X8_ahead) X hnt zm_X8_125 (by decide) (by decide) (by decide) (Nat.le_of_ble_eq_true rfl) dX8_readList_31 ?_
      have hP121 : zPq (zput J108 (y + 3) (190 + 10 * c106 + 2) ((1 : Int32))) y t n9 (tEnd t n9 pp) := (zPq.rowput hP112)
      have fr122 : zfm I (zput J108 (y + 3) (190 + 10 * c106 + 2) ((1 : Int32))) y := (zfm.rowput fr111)
      have hW123 : zWf (tC T c106 2 (1 : Int32)) := zWf_list i6 (by omega) (Or.inr rfl)
      refine zp_X8_ahead (p9 := (tNext t n9 pp)) hP121 rfl ?_ ?_
      · skip
        intro J124 hg125 fr126 hP127 hb1 h22; have hM128 : zMd J124 (y + 3) (tC T c106 2 (1 : Int32)) := zMd.ag hM_1 hg125 (by omega); have fr126 : zfm I J124 y := zfm.tr fr122 fr126; have := hP127.2.2.2.1
        refine zr_bipush (v := (97 : Int32)) X dX8_readList_34 (by decide) ?_
        refine zr_bipush (v := (122 : Int32)) X dX8_readList_36 (by decide) ?_
        refine zr_callS3 (rm9 := zrm_X8_in) X hnt zm_X8_117 (by decide) (by decide) (by decide) (Nat.le_of_ble_eq_true rfl) dX8_readList_38 ?_
        refine znL_X8_in (v := t ((tNext t n9 pp))) (by omega) ?_ ?_
        · skip
          intro hl3; have hl3_2 := tLet_iff.mp hl3
          refine zr_istore1 X (by decide) rfl dX8_readList_41 ?_
          refine zr_goto (tgt := 2) X dX8_readList_42 (by decide) ?_
          have hL9 : pListed t n9 pp T = .inr (tNext t n9 pp, (tC T c106 2 (1 : Int32))) := by unfold pListed; simp only [hq109]
          have hk9 : tKind t n9 (tNext t n9 pp) = 2 := tKind_2.mpr ⟨by omega, by assumption⟩
          have i1b := i1
          unfold pList1 at i1b
          simp only [hL9] at i1b
          rw [pMore_step (by omega) hk9] at i1b
          refine zr_forget (lv2 := [some (vr (y) 8), some (vi ((1 : Int32))), none]) (fun j9 v9 h9 => by rcases j9 with _ | _ | _ | _ | _ | _ | _ | _ | j9 <;> first | exact h9 | (simp at h9)) ?_
          exact ih _ _ _ _ i1b fr126 hP127 (tSkip_id hP121.2.2.2.1 rfl) hM128 hW123 (by omega)
        · skip
          intro hl3
          refine zr_istore1 X (by decide) rfl dX8_readList_41 ?_
          refine zr_goto (tgt := 2) X dX8_readList_42 (by decide) ?_
          refine zr_iload1 X dX8_readList_2 ?_
          refine zr_if_eq (tgt := 45) X dX8_readList_3 (by decide) (fun _ => ?_) (fun h => absurd h (by decide))
          refine zr_vret X (by decide) (by decide) dX8_readList_45 ?_
          have hL9 : pListed t n9 pp T = .inr (tNext t n9 pp, (tC T c106 2 (1 : Int32))) := by unfold pListed; simp only [hq109]
          have hk9 : ¬ tKind t n9 (tNext t n9 pp) = 2 := fun z => by have h8 := tKind_2.mp z; first | (have h7 := h8.2; rw [show tLet (t (tNext t n9 pp)) = false from by assumption] at h7; cases h7) | (have := h8.1; omega)
          exact k1 _ _ _ _ (by rw [← i1]; unfold pList1; simp only [hL9]; exact pMore_stop hk9) fr126 hP127 (tSkip_id hP121.2.2.2.1 rfl) hM128 hW123
      · skip
        intro J124 hg125 fr126 hP127 hb1; have hM128 : zMd J124 (y + 3) (tC T c106 2 (1 : Int32)) := zMd.ag hM_1 hg125 (by omega); have fr126 : zfm I J124 y := zfm.tr fr122 fr126; have := hP127.2.2.2.1
        refine zr_bipush (v := (97 : Int32)) X dX8_readList_34 (by decide) ?_
        refine zr_bipush (v := (122 : Int32)) X dX8_readList_36 (by decide) ?_
        refine zr_callS3 (rm9 := zrm_X8_in) X hnt zm_X8_117 (by decide) (by decide) (by decide) (Nat.le_of_ble_eq_true rfl) dX8_readList_38 ?_
        refine zq_X8_in (fun h => absurd h (by decide)) (fun _ => ?_)
        refine zr_istore1 X (by decide) rfl dX8_readList_41 ?_
        refine zr_goto (tgt := 2) X dX8_readList_42 (by decide) ?_
        refine zr_iload1 X dX8_readList_2 ?_
        refine zr_if_eq (tgt := 45) X dX8_readList_3 (by decide) (fun _ => ?_) (fun h => absurd h (by decide))
        refine zr_vret X (by decide) (by decide) dX8_readList_45 ?_
        have hL9 : pListed t n9 pp T = .inr (tNext t n9 pp, (tC T c106 2 (1 : Int32))) := by unfold pListed; simp only [hq109]
        have hk9 : ¬ tKind t n9 (tNext t n9 pp) = 2 := fun z => by have h8 := tKind_2.mp z; first | (have h7 := h8.2; rw [show tLet (t (tNext t n9 pp)) = false from by assumption] at h7; cases h7) | (have := h8.1; omega)
        exact k1 _ _ _ _ (by rw [← i1]; unfold pList1; simp only [hL9]; exact pMore_stop hk9) fr126 hP127 (tSkip_id hP121.2.2.2.1 rfl) hM128 hW123
    · skip
      intro J114 e119 hq115 hg116 fr117 hE118; have hM120 : zMd J114 (y + 3) T := zMd.ag i5 hg116 (by omega); have fr117 : zfm I J114 y := zfm.tr i2 fr117
      refine zr_istore2 X (by decide) rfl dX8_readList_10 ?_
      refine zr_aload0 X dX8_readList_11 ?_
      refine zr_callV0 (rm9 := zrm_X8_isGood) X hnt zm_X8_121 (by decide) (by decide) (by decide) (Nat.le_of_ble_eq_true rfl) dX8_readList_12 ?_
      refine zb_X8_isGood (fun z => hE118.1.2 (hE118.1.1.symm.trans z)) ?_
      refine zr_if_ne (tgt := 19) X dX8_readList_15 (by decide) (fun h => absurd h (by decide)) (fun _ => ?_)
      refine zr_vret X (by decide) (by decide) dX8_readList_18 ?_
      exact k2 _ _ (by rw [← i1]; unfold pList1 pListed; simp only [hq115]) fr117 hE118
set_option maxRecDepth 20000 in
theorem zp_X8_readList {l : Launch} {D : va_G} {b0 : Nat} {tA : Nat → ClassId} {sa sv : Nat → Nat} {K : Nat → Option Nat} {I : zI} {Qp : zI → Option AV → Prop} {Xp : String → zI → Prop} {y n9 q9 p9 : Nat} {t : Nat → Nat} {S : zS}
    (hP : zPq I y t n9 q9) (hp : tSkip t n9 q9 = p9) (hM : zMd I (y + 3) S) (hW : zWf S) (k1 : ∀ (J : zI) (p2 q2 : Nat) (S2 : zS), pList1 t n9 p9 S = .inr (p2, S2) → zfm I J y → zPq J y t n9 q2 → tSkip t n9 q2 = p2 → zMd J (y + 3) S2 → zWf S2 → Qp J none) (k2 : ∀ (J : zI) (e : Int32 × Nat), pList1 t n9 p9 S = .inl e → zfm I J y → zEq J y e → Qp J none) :
    zC l D b0 tA sa sv K yX8_readList (.code yX8_readList cX8_readList 3 none) zrm_X8_readList [vr (y) 8] I Qp Xp := by
  have hn5 := hP.2.2.2.2.1
  have hqn := hP.2.2.2.1
  have hpl := tSkip_le (t := t) hP.2.2.2.1
  have hg6 := hW.ng.1
  have hc12 := hW.nc.1
  refine zC_of (by decide +kernel) (Nat.le_of_ble_eq_true rfl) ?_
  intro p e s m args below meth c X hnt
  have X : zX p l e zrm_X8_readList s m args below meth c RX8 cX8_readList 3 none D b0 tA sa sv := X
  refine zr_lv (lv2 := [some (vr (y) 8), none, none]) rfl ?_
  refine zr_iconst (v := (1 : Int32)) X dX8_readList_0 (by decide) ?_
  refine zr_istore1 X (by decide) rfl dX8_readList_1 ?_
  exact zl_X8_readList X hnt k1 k2 (n9 + 1) p9 q9 S I rfl zfm.rf hP hp hM hW (by omega)
abbrev zrm_X8_readWait : Room := { frames := 6, cells := 0, slots := 0, locals := 172 }
theorem zneg_lt {k : Nat} (h : ¬ k = 0) (h5 : k < 5) : ¬ (0 : Int32) ≤ -nI k := by
  have : ∀ k : Nat, k < 5 → ¬ k = 0 → ¬ (0 : Int32) ≤ -nI k := by decide
  exact this k h5 h
set_option maxRecDepth 20000 in
theorem zp_X8_readWait {l : Launch} {D : va_G} {b0 : Nat} {tA : Nat → ClassId} {sa sv : Nat → Nat} {K : Nat → Option Nat} {I : zI} {Qp : zI → Option AV → Prop} {Xp : String → zI → Prop} {y n9 q9 p9 : Nat} {t : Nat → Nat} {S : zS}
    (hP : zPq I y t n9 q9) (hp : tSkip t n9 q9 = p9) (hM : zMd I (y + 3) S) (hW : zWf S) (k1 : ∀ (J : zI) (p2 q2 : Nat) (S2 : zS), pWait1 t n9 p9 S = .inr (p2, S2) → zfm I J y → zPq J y t n9 q2 → tSkip t n9 q2 = p2 → zMd J (y + 3) S2 → zWf S2 → Qp J none) (k2 : ∀ (J : zI) (e : Int32 × Nat), pWait1 t n9 p9 S = .inl e → zfm I J y → zEq J y e → Qp J none) :
    zC l D b0 tA sa sv K yX8_readWait (.code yX8_readWait cX8_readWait 5 none) zrm_X8_readWait [vr (y) 8] I Qp Xp := by
  have hn5 := hP.2.2.2.2.1
  have hqn := hP.2.2.2.1
  have hpl := tSkip_le (t := t) hP.2.2.2.1
  have hg6 := hW.ng.1
  have hc12 := hW.nc.1
  refine zC_of (by decide +kernel) (Nat.le_of_ble_eq_true rfl) ?_
  intro p e s m args below meth c X hnt
  have X : zX p l e zrm_X8_readWait s m args below meth c RX8 cX8_readWait 5 none D b0 tA sa sv := X
  refine zr_lv (lv2 := [some (vr (y) 8), none, none, none, none]) rfl ?_
  refine zr_aload0 X dX8_readWait_0 ?_
  refine zr_iconst (v := (0 : Int32)) X dX8_readWait_1 (by decide) ?_
  refine zr_aload0 X dX8_readWait_2 ?_
  refine zr_getR X zf_X8_20 rfl (by decide) (by decide) dX8_readWait_3 ?_
  refine zr_iconst (v := (4 : Int32)) X dX8_readWait_6 (by decide) ?_
  refine zr_ialdN (n := 4) X rfl (show _ < 310 from (by first | assumption | omega | decide)) dX8_readWait_7 ?_
  refine zr_eq (x2 := (sX S 4)) (hM.1 4 (by decide)) ?_
  refine zr_eq (x2 := (nI (zng S))) (hW.ng.2) ?_
  refine zr_iconst (v := (1 : Int32)) X dX8_readWait_8 (by decide) ?_
  refine zr_isub X dX8_readWait_9 ?_
  refine zr_callV2 (rm9 := zrm_X8_number) X hnt zm_X8_177 (by decide) (by decide) (by decide) (Nat.le_of_ble_eq_true rfl) dX8_readWait_10 ?_
  refine zg_X8_number (lo := 0) (hi := (zng S)) (p9 := p9) hP hp (by omega) (by omega) (by rfl) ?_ ?_
  · skip
    intro J130 v129 hq131 hg132 fr133 hP134; have hM135 : zMd J130 (y + 3) S := zMd.ag hM hg132 (by omega); have fr133 : zfm I J130 y := zfm.tr zfm.rf fr133; have := pNum_gt hq131; have := tNext_le (t := t) (Nat.le_of_lt this.1); have := hP134.2.2.2.1
    refine zr_istore1 X (by decide) rfl dX8_readWait_13 ?_
    refine zr_aload0 X dX8_readWait_14 ?_
    refine zr_callV0 (rm9 := zrm_X8_isGood) X hnt zm_X8_121 (by decide) (by decide) (by decide) (Nat.le_of_ble_eq_true rfl) dX8_readWait_15 ?_
    refine zg_X8_isGood hP134.1 ?_
    refine zr_if_ne (tgt := 22) X dX8_readWait_18 (by decide) (fun _ => ?_) (fun h => absurd h (by decide))
    refine zr_aload0 X dX8_readWait_22 ?_
    refine zr_callV0 (rm9 := zrm_X8_ahead) X hnt zm_X8_125 (by decide) (by decide) (by decide) (Nat.le_of_ble_eq_true rfl) dX8_readWait_23 ?_
    refine zv_X8_ahead (p9 := (tNext t n9 p9)) hP134 rfl ?_
    intro J143 v9 hg144 fr145 hP146; have hM147 : zMd J143 (y + 3) S := zMd.ag hM135 hg144 (by omega); have fr145 : zfm I J143 y := zfm.tr fr133 fr145; have := hP146.2.2.2.1
    refine zr_popI X dX8_readWait_26 ?_
    refine zr_aload0 X dX8_readWait_27 ?_
    refine zr_getI X zf_X8_104 rfl dX8_readWait_28 ?_
    refine zr_eq (x2 := (nI ((tNext t n9 p9)))) (hP146.2.2.1) ?_
    refine zr_istore2 X (by decide) rfl dX8_readWait_31 ?_
    refine zr_aload0 X dX8_readWait_32 ?_
    refine zr_ldcS X 12 rfl (by decide) dX8_readWait_33 ?_
    refine zr_callV1 (rm9 := zrm_X8_takeWord) X hnt zm_X8_166 (by decide) (by decide) (by decide) (Nat.le_of_ble_eq_true rfl) dX8_readWait_35 ?_
    refine zg_X8_takeWord (i := 12) (p9 := (tNext t n9 p9)) hP146 (tSkip_id hP134.2.2.2.1 rfl) (by decide) ?_ ?_
    · skip
      intro hw3 J148 hg149 fr150 hP151; have hM152 : zMd J148 (y + 3) S := zMd.ag hM147 hg149 (by omega); have fr150 : zfm I J148 y := zfm.tr fr145 fr150; have hw3 : tIsB t n9 ((tNext t n9 p9)) wIn = true := hw3; have := tIsB_lt hw3; have := tNext_le (t := t) (Nat.le_of_lt this)
      refine zr_istore3 X (by decide) rfl dX8_readWait_38 ?_
      refine zr_iload3 X dX8_readWait_39 ?_
      refine zr_if_ne (tgt := 59) X dX8_readWait_40 (by decide) (fun _ => ?_) (fun h => absurd h (by decide))
      refine zr_aload0 X dX8_readWait_59 ?_
      refine zr_callV0 (rm9 := zrm_X8_isGood) X hnt zm_X8_121 (by decide) (by decide) (by decide) (Nat.le_of_ble_eq_true rfl) dX8_readWait_60 ?_
      refine zg_X8_isGood hP151.1 ?_
      refine zr_if_eq (tgt := 87) X dX8_readWait_63 (by decide) (fun h => absurd h (by decide)) (fun _ => ?_)
      refine zr_aload0 X dX8_readWait_66 ?_
      refine zr_callV0 (rm9 := zrm_X8_ahead) X hnt zm_X8_125 (by decide) (by decide) (by decide) (Nat.le_of_ble_eq_true rfl) dX8_readWait_67 ?_
      refine zp_X8_ahead (p9 := (tNext t n9 ((tNext t n9 p9)))) hP151 rfl ?_ ?_
      · skip
        intro J158 hg159 fr160 hP161 hb5 h26; have hM162 : zMd J158 (y + 3) S := zMd.ag hM152 hg159 (by omega); have fr160 : zfm I J158 y := zfm.tr fr150 fr160; have := hP161.2.2.2.1
        refine zr_bipush (v := (97 : Int32)) X dX8_readWait_70 (by decide) ?_
        refine zr_bipush (v := (122 : Int32)) X dX8_readWait_72 (by decide) ?_
        refine zr_callS3 (rm9 := zrm_X8_in) X hnt zm_X8_117 (by decide) (by decide) (by decide) (Nat.le_of_ble_eq_true rfl) dX8_readWait_74 ?_
        refine znL_X8_in (v := t ((tNext t n9 ((tNext t n9 p9))))) (by omega) ?_ ?_
        · skip
          intro hl7; have hl7_2 := tLet_iff.mp hl7
          refine zr_if_eq (tgt := 87) X dX8_readWait_77 (by decide) (fun h => absurd h (by decide)) (fun _ => ?_)
          refine zr_aload0 X dX8_readWait_80 ?_
          refine zr_callV0 (rm9 := zrm_X8_known) X hnt zm_X8_180 (by decide) (by decide) (by decide) (Nat.le_of_ble_eq_true rfl) dX8_readWait_81 ?_
          refine zg_X8_known (p9 := (tNext t n9 ((tNext t n9 p9)))) hP161 (tSkip_id hP151.2.2.2.1 rfl) hM162 hW ?_ ?_
          · skip
            intro J165 c163 hq166 hg167 fr168 hP169; have hM170 : zMd J165 (y + 3) S := zMd.ag hM162 hg167 (by omega); have fr168 : zfm I J165 y := zfm.tr fr160 fr168; intro hc164; have := hP169.2.2.2.1; have := hW.nc.1; have := pKnown_lt hq166; have := tNext_gt (t := t) (pKnown_lt hq166); have := tNext_le (t := t) (Nat.le_of_lt (pKnown_lt hq166))
            refine zr_goto (tgt := 88) X dX8_readWait_84 (by decide) ?_
            refine zr_istore4 X (by decide) rfl dX8_readWait_88 ?_
            refine zr_aload0 X dX8_readWait_90 ?_
            refine zr_callV0 (rm9 := zrm_X8_isGood) X hnt zm_X8_121 (by decide) (by decide) (by decide) (Nat.le_of_ble_eq_true rfl) dX8_readWait_91 ?_
            refine zg_X8_isGood hP169.1 ?_
            refine zr_if_eq (tgt := 126) X dX8_readWait_94 (by decide) (fun h => absurd h (by decide)) (fun _ => ?_)
            refine zr_aload0 X dX8_readWait_97 ?_
            refine zr_getR X zf_X8_20 rfl (by decide) (by decide) dX8_readWait_98 ?_
            refine zr_iload1 X dX8_readWait_101 ?_
            refine zr_iload3 X dX8_readWait_102 ?_
            refine zr_if_eq (tgt := 110) X dX8_readWait_103 (by decide) (fun h => absurd h (by decide)) (fun _ => ?_)
            refine zr_iconst (v := (0 : Int32)) X dX8_readWait_106 (by decide) ?_
            refine zr_goto (tgt := 111) X dX8_readWait_107 (by decide) ?_
            refine zr_iload4 X dX8_readWait_111 ?_
            refine zr_callS4 (rm9 := zrm_X8_joins) X hnt zm_X8_183 (by decide) (by decide) (by decide) (Nat.le_of_ble_eq_true rfl) dX8_readWait_113 ?_
            refine zok_X8_joins (g := v129) (s9 := 0) hM170 hW (by omega) (by omega) (by omega) ?_ ?_
            · skip
              intro h0184 J178 hg179 hM180; have hP181 : zPq J178 y t n9 (tEnd t n9 ((tNext t n9 ((tNext t n9 p9))))) := zPq.row hP169 hg179; have fr182 : zfm I J178 y := zfm.row fr168 hg179; have hW183 : zWf (tL S v129 0 (sL S v129 0 ++ [(c163 + 1)])) := zWf_join hW (by omega) (by omega) h0184; have hl185 := hW.len v129 0
              refine zr_nif_ge X (((sL S v129 0).length + 1)) (tgt := 126) (by omega) dX8_readWait_116 (by decide) (fun _ => ?_) (fun h => absurd trivial h)
              refine zr_vret X (by decide) (by decide) dX8_readWait_126 ?_
              exact k1 _ _ _ _ (by ((unfold pWait1; simp only [hq131]; unfold pWait2; rw [if_pos hw3]; unfold pWait3; rw [if_pos (tKind_2.mpr ⟨by omega, hl7⟩)]; simp only [hq166]; unfold pWait4; rw [if_pos h0184]) <;> rfl)) fr182 hP181 rfl hM180 hW183
            · skip
              intro h0186; have hn187 : ¬ ((0 : Int32) ≤ (-nI (qWhy S v129 0 (c163 + 1)))) := zneg_lt h0186 qWhy_lt
              refine zr_if_ge (tgt := 126) X dX8_readWait_116 (by decide) (fun h => absurd h (by assumption)) (fun _ => ?_)
              refine zr_aload0 X dX8_readWait_119 ?_
              refine zr_bipush (v := (-6 : Int32)) X dX8_readWait_120 (by decide) ?_
              refine zr_iload2 X dX8_readWait_122 ?_
              refine zr_callV2 (rm9 := zrm_X8_report) X hnt zm_X8_138 (by decide) (by decide) (by decide) (Nat.le_of_ble_eq_true rfl) dX8_readWait_123 ?_
              refine zg_X8_report hP169.1 ?_; have hE188 : zEq (zput (zput J165 y 5 (-6 : Int32)) y 6 (nI (tNext t n9 p9))) y ((-6 : Int32), tNext t n9 p9) := zEq.mk (by decide); have fr189 : zfm I (zput (zput J165 y 5 (-6 : Int32)) y 6 (nI (tNext t n9 p9))) y := zfm.put (zfm.put fr168 (by decide)) (by decide)
              refine zr_vret X (by decide) (by decide) dX8_readWait_126 ?_
              exact k2 _ _ (by unfold pWait1; simp only [hq131]; unfold pWait2; rw [if_pos hw3]; unfold pWait3; rw [if_pos (tKind_2.mpr ⟨by omega, hl7⟩)]; simp only [hq166]; unfold pWait4; rw [if_neg h0186]) fr189 hE188
          · skip
            intro J171 e176 hq172 hg173 fr174 hE175; have hM177 : zMd J171 (y + 3) S := zMd.ag hM162 hg173 (by omega); have fr174 : zfm I J171 y := zfm.tr fr160 fr174
            refine zr_goto (tgt := 88) X dX8_readWait_84 (by decide) ?_
            refine zr_istore4 X (by decide) rfl dX8_readWait_88 ?_
            refine zr_aload0 X dX8_readWait_90 ?_
            refine zr_callV0 (rm9 := zrm_X8_isGood) X hnt zm_X8_121 (by decide) (by decide) (by decide) (Nat.le_of_ble_eq_true rfl) dX8_readWait_91 ?_
            refine zb_X8_isGood (fun z => hE175.1.2 (hE175.1.1.symm.trans z)) ?_
            refine zr_if_eq (tgt := 126) X dX8_readWait_94 (by decide) (fun _ => ?_) (fun h => absurd h (by decide))
            refine zr_vret X (by decide) (by decide) dX8_readWait_126 ?_
            exact k2 _ _ (by unfold pWait1; simp only [hq131]; unfold pWait2; rw [if_pos hw3]; unfold pWait3; rw [if_pos (tKind_2.mpr ⟨by omega, hl7⟩)]; simp only [hq172]) fr174 hE175
        · skip
          intro hl7
          refine zr_if_eq (tgt := 87) X dX8_readWait_77 (by decide) (fun _ => ?_) (fun h => absurd h (by decide))
          refine zr_iconst (v := (-1 : Int32)) X dX8_readWait_87 (by decide) ?_
          refine zr_istore4 X (by decide) rfl dX8_readWait_88 ?_
          refine zr_aload0 X dX8_readWait_90 ?_
          refine zr_callV0 (rm9 := zrm_X8_isGood) X hnt zm_X8_121 (by decide) (by decide) (by decide) (Nat.le_of_ble_eq_true rfl) dX8_readWait_91 ?_
          refine zg_X8_isGood hP161.1 ?_
          refine zr_if_eq (tgt := 126) X dX8_readWait_94 (by decide) (fun h => absurd h (by decide)) (fun _ => ?_)
          refine zr_aload0 X dX8_readWait_97 ?_
          refine zr_getR X zf_X8_20 rfl (by decide) (by decide) dX8_readWait_98 ?_
          refine zr_iload1 X dX8_readWait_101 ?_
          refine zr_iload3 X dX8_readWait_102 ?_
          refine zr_if_eq (tgt := 110) X dX8_readWait_103 (by decide) (fun h => absurd h (by decide)) (fun _ => ?_)
          refine zr_iconst (v := (0 : Int32)) X dX8_readWait_106 (by decide) ?_
          refine zr_goto (tgt := 111) X dX8_readWait_107 (by decide) ?_
          refine zr_iload4 X dX8_readWait_111 ?_
          refine zr_callS4 (rm9 := zrm_X8_joins) X hnt zm_X8_183 (by decide) (by decide) (by decide) (Nat.le_of_ble_eq_true rfl) dX8_readWait_113 ?_
          refine znone_X8_joins (g := v129) (s9 := 0) hM162 hW (by omega) (by omega) ?_ ?_
          · skip
            intro h0196 J190 hg191 hM192; have hP193 : zPq J190 y t n9 ((tNext t n9 ((tNext t n9 p9)))) := zPq.row hP161 hg191; have fr194 : zfm I J190 y := zfm.row fr160 hg191; have hW195 : zWf (tL S v129 0 (sL S v129 0 ++ [0])) := zWf_join hW (by omega) (by omega) h0196; have hl197 := hW.len v129 0
            refine zr_nif_ge X (((sL S v129 0).length + 1)) (tgt := 126) (by omega) dX8_readWait_116 (by decide) (fun _ => ?_) (fun h => absurd trivial h)
            refine zr_vret X (by decide) (by decide) dX8_readWait_126 ?_
            exact k1 _ _ _ _ (by ((unfold pWait1; simp only [hq131]; unfold pWait2; rw [if_pos hw3]; unfold pWait3; rw [if_neg (fun z => by have h8 := tKind_2.mp z; first | (have h7 := h8.2; rw [hl7] at h7; cases h7) | (have := h8.1; omega))]; unfold pWait4; rw [if_pos h0196]) <;> rfl)) fr194 hP193 (tSkip_id hP151.2.2.2.1 rfl) hM192 hW195
          · skip
            intro h0198; have hn199 : ¬ ((0 : Int32) ≤ (-nI (qWhy S v129 0 0))) := zneg_lt h0198 qWhy_lt
            refine zr_if_ge (tgt := 126) X dX8_readWait_116 (by decide) (fun h => absurd h (by assumption)) (fun _ => ?_)
            refine zr_aload0 X dX8_readWait_119 ?_
            refine zr_bipush (v := (-6 : Int32)) X dX8_readWait_120 (by decide) ?_
            refine zr_iload2 X dX8_readWait_122 ?_
            refine zr_callV2 (rm9 := zrm_X8_report) X hnt zm_X8_138 (by decide) (by decide) (by decide) (Nat.le_of_ble_eq_true rfl) dX8_readWait_123 ?_
            refine zg_X8_report hP161.1 ?_; have hE200 : zEq (zput (zput J158 y 5 (-6 : Int32)) y 6 (nI (tNext t n9 p9))) y ((-6 : Int32), tNext t n9 p9) := zEq.mk (by decide); have fr201 : zfm I (zput (zput J158 y 5 (-6 : Int32)) y 6 (nI (tNext t n9 p9))) y := zfm.put (zfm.put fr160 (by decide)) (by decide)
            refine zr_vret X (by decide) (by decide) dX8_readWait_126 ?_
            exact k2 _ _ (by unfold pWait1; simp only [hq131]; unfold pWait2; rw [if_pos hw3]; unfold pWait3; rw [if_neg (fun z => by have h8 := tKind_2.mp z; first | (have h7 := h8.2; rw [hl7] at h7; cases h7) | (have := h8.1; omega))]; unfold pWait4; rw [if_neg h0198]) fr201 hE200
      · skip
        intro J158 hg159 fr160 hP161 hb5; have hM162 : zMd J158 (y + 3) S := zMd.ag hM152 hg159 (by omega); have fr160 : zfm I J158 y := zfm.tr fr150 fr160; have := hP161.2.2.2.1
        refine zr_bipush (v := (97 : Int32)) X dX8_readWait_70 (by decide) ?_
        refine zr_bipush (v := (122 : Int32)) X dX8_readWait_72 (by decide) ?_
        refine zr_callS3 (rm9 := zrm_X8_in) X hnt zm_X8_117 (by decide) (by decide) (by decide) (Nat.le_of_ble_eq_true rfl) dX8_readWait_74 ?_
        refine zq_X8_in (fun h => absurd h (by decide)) (fun _ => ?_)
        refine zr_if_eq (tgt := 87) X dX8_readWait_77 (by decide) (fun _ => ?_) (fun h => absurd h (by decide))
        refine zr_iconst (v := (-1 : Int32)) X dX8_readWait_87 (by decide) ?_
        refine zr_istore4 X (by decide) rfl dX8_readWait_88 ?_
        refine zr_aload0 X dX8_readWait_90 ?_
        refine zr_callV0 (rm9 := zrm_X8_isGood) X hnt zm_X8_121 (by decide) (by decide) (by decide) (Nat.le_of_ble_eq_true rfl) dX8_readWait_91 ?_
        refine zg_X8_isGood hP161.1 ?_
        refine zr_if_eq (tgt := 126) X dX8_readWait_94 (by decide) (fun h => absurd h (by decide)) (fun _ => ?_)
        refine zr_aload0 X dX8_readWait_97 ?_
        refine zr_getR X zf_X8_20 rfl (by decide) (by decide) dX8_readWait_98 ?_
        refine zr_iload1 X dX8_readWait_101 ?_
        refine zr_iload3 X dX8_readWait_102 ?_
        refine zr_if_eq (tgt := 110) X dX8_readWait_103 (by decide) (fun h => absurd h (by decide)) (fun _ => ?_)
        refine zr_iconst (v := (0 : Int32)) X dX8_readWait_106 (by decide) ?_
        refine zr_goto (tgt := 111) X dX8_readWait_107 (by decide) ?_
        refine zr_iload4 X dX8_readWait_111 ?_
        refine zr_callS4 (rm9 := zrm_X8_joins) X hnt zm_X8_183 (by decide) (by decide) (by decide) (Nat.le_of_ble_eq_true rfl) dX8_readWait_113 ?_
        refine znone_X8_joins (g := v129) (s9 := 0) hM162 hW (by omega) (by omega) ?_ ?_
        · skip
          intro h0208 J202 hg203 hM204; have hP205 : zPq J202 y t n9 ((tNext t n9 ((tNext t n9 p9)))) := zPq.row hP161 hg203; have fr206 : zfm I J202 y := zfm.row fr160 hg203; have hW207 : zWf (tL S v129 0 (sL S v129 0 ++ [0])) := zWf_join hW (by omega) (by omega) h0208; have hl209 := hW.len v129 0
          refine zr_nif_ge X (((sL S v129 0).length + 1)) (tgt := 126) (by omega) dX8_readWait_116 (by decide) (fun _ => ?_) (fun h => absurd trivial h)
          refine zr_vret X (by decide) (by decide) dX8_readWait_126 ?_
          exact k1 _ _ _ _ (by ((unfold pWait1; simp only [hq131]; unfold pWait2; rw [if_pos hw3]; unfold pWait3; rw [if_neg (fun z => by have h8 := tKind_2.mp z; have := h8.1; omega)]; unfold pWait4; rw [if_pos h0208]) <;> rfl)) fr206 hP205 (tSkip_id hP151.2.2.2.1 rfl) hM204 hW207
        · skip
          intro h0210; have hn211 : ¬ ((0 : Int32) ≤ (-nI (qWhy S v129 0 0))) := zneg_lt h0210 qWhy_lt
          refine zr_if_ge (tgt := 126) X dX8_readWait_116 (by decide) (fun h => absurd h (by assumption)) (fun _ => ?_)
          refine zr_aload0 X dX8_readWait_119 ?_
          refine zr_bipush (v := (-6 : Int32)) X dX8_readWait_120 (by decide) ?_
          refine zr_iload2 X dX8_readWait_122 ?_
          refine zr_callV2 (rm9 := zrm_X8_report) X hnt zm_X8_138 (by decide) (by decide) (by decide) (Nat.le_of_ble_eq_true rfl) dX8_readWait_123 ?_
          refine zg_X8_report hP161.1 ?_; have hE212 : zEq (zput (zput J158 y 5 (-6 : Int32)) y 6 (nI (tNext t n9 p9))) y ((-6 : Int32), tNext t n9 p9) := zEq.mk (by decide); have fr213 : zfm I (zput (zput J158 y 5 (-6 : Int32)) y 6 (nI (tNext t n9 p9))) y := zfm.put (zfm.put fr160 (by decide)) (by decide)
          refine zr_vret X (by decide) (by decide) dX8_readWait_126 ?_
          exact k2 _ _ (by unfold pWait1; simp only [hq131]; unfold pWait2; rw [if_pos hw3]; unfold pWait3; rw [if_neg (fun z => by have h8 := tKind_2.mp z; have := h8.1; omega)]; unfold pWait4; rw [if_neg h0210]) fr213 hE212
    · skip
      intro hw4 J153 hg154 fr155 hP156; have hM157 : zMd J153 (y + 3) S := zMd.ag hM147 hg154 (by omega); have fr155 : zfm I J153 y := zfm.tr fr145 fr155; have hw4 : ¬ tIsB t n9 ((tNext t n9 p9)) wIn = true := hw4
      refine zr_istore3 X (by decide) rfl dX8_readWait_38 ?_
      refine zr_iload3 X dX8_readWait_39 ?_
      refine zr_if_ne (tgt := 59) X dX8_readWait_40 (by decide) (fun h => absurd h (by decide)) (fun _ => ?_)
      refine zr_aload0 X dX8_readWait_43 ?_
      refine zr_ldcS X 13 rfl (by decide) dX8_readWait_44 ?_
      refine zr_callV1 (rm9 := zrm_X8_takeWord) X hnt zm_X8_166 (by decide) (by decide) (by decide) (Nat.le_of_ble_eq_true rfl) dX8_readWait_46 ?_
      refine zg_X8_takeWord (i := 13) (p9 := (tNext t n9 p9)) hP156 (tSkip_id hP146.2.2.2.1 (tSkip_id hP134.2.2.2.1 rfl)) (by decide) ?_ ?_
      · skip
        intro hw12 J214 hg215 fr216 hP217; have hM218 : zMd J214 (y + 3) S := zMd.ag hM157 hg215 (by omega); have fr216 : zfm I J214 y := zfm.tr fr155 fr216; have hw12 : tIsB t n9 ((tNext t n9 p9)) wOut = true := hw12; have := tIsB_lt hw12; have := tNext_le (t := t) (Nat.le_of_lt this)
        refine zr_if_ne (tgt := 59) X dX8_readWait_49 (by decide) (fun _ => ?_) (fun h => absurd h (by decide))
        refine zr_aload0 X dX8_readWait_59 ?_
        refine zr_callV0 (rm9 := zrm_X8_isGood) X hnt zm_X8_121 (by decide) (by decide) (by decide) (Nat.le_of_ble_eq_true rfl) dX8_readWait_60 ?_
        refine zg_X8_isGood hP217.1 ?_
        refine zr_if_eq (tgt := 87) X dX8_readWait_63 (by decide) (fun h => absurd h (by decide)) (fun _ => ?_)
        refine zr_aload0 X dX8_readWait_66 ?_
        refine zr_callV0 (rm9 := zrm_X8_ahead) X hnt zm_X8_125 (by decide) (by decide) (by decide) (Nat.le_of_ble_eq_true rfl) dX8_readWait_67 ?_
        refine zp_X8_ahead (p9 := (tNext t n9 ((tNext t n9 p9)))) hP217 rfl ?_ ?_
        · skip
          intro J224 hg225 fr226 hP227 hb14 h215; have hM228 : zMd J224 (y + 3) S := zMd.ag hM218 hg225 (by omega); have fr226 : zfm I J224 y := zfm.tr fr216 fr226; have := hP227.2.2.2.1
          refine zr_bipush (v := (97 : Int32)) X dX8_readWait_70 (by decide) ?_
          refine zr_bipush (v := (122 : Int32)) X dX8_readWait_72 (by decide) ?_
          refine zr_callS3 (rm9 := zrm_X8_in) X hnt zm_X8_117 (by decide) (by decide) (by decide) (Nat.le_of_ble_eq_true rfl) dX8_readWait_74 ?_
          refine znL_X8_in (v := t ((tNext t n9 ((tNext t n9 p9))))) (by omega) ?_ ?_
          · skip
            intro hl16; have hl16_2 := tLet_iff.mp hl16
            refine zr_if_eq (tgt := 87) X dX8_readWait_77 (by decide) (fun h => absurd h (by decide)) (fun _ => ?_)
            refine zr_aload0 X dX8_readWait_80 ?_
            refine zr_callV0 (rm9 := zrm_X8_known) X hnt zm_X8_180 (by decide) (by decide) (by decide) (Nat.le_of_ble_eq_true rfl) dX8_readWait_81 ?_
            refine zg_X8_known (p9 := (tNext t n9 ((tNext t n9 p9)))) hP227 (tSkip_id hP217.2.2.2.1 rfl) hM228 hW ?_ ?_
            · skip
              intro J231 c229 hq232 hg233 fr234 hP235; have hM236 : zMd J231 (y + 3) S := zMd.ag hM228 hg233 (by omega); have fr234 : zfm I J231 y := zfm.tr fr226 fr234; intro hc230; have := hP235.2.2.2.1; have := hW.nc.1; have := pKnown_lt hq232; have := tNext_gt (t := t) (pKnown_lt hq232); have := tNext_le (t := t) (Nat.le_of_lt (pKnown_lt hq232))
              refine zr_goto (tgt := 88) X dX8_readWait_84 (by decide) ?_
              refine zr_istore4 X (by decide) rfl dX8_readWait_88 ?_
              refine zr_aload0 X dX8_readWait_90 ?_
              refine zr_callV0 (rm9 := zrm_X8_isGood) X hnt zm_X8_121 (by decide) (by decide) (by decide) (Nat.le_of_ble_eq_true rfl) dX8_readWait_91 ?_
              refine zg_X8_isGood hP235.1 ?_
              refine zr_if_eq (tgt := 126) X dX8_readWait_94 (by decide) (fun h => absurd h (by decide)) (fun _ => ?_)
              refine zr_aload0 X dX8_readWait_97 ?_
              refine zr_getR X zf_X8_20 rfl (by decide) (by decide) dX8_readWait_98 ?_
              refine zr_iload1 X dX8_readWait_101 ?_
              refine zr_iload3 X dX8_readWait_102 ?_
              refine zr_if_eq (tgt := 110) X dX8_readWait_103 (by decide) (fun _ => ?_) (fun h => absurd h (by decide))
              refine zr_iconst (v := (1 : Int32)) X dX8_readWait_110 (by decide) ?_
              refine zr_iload4 X dX8_readWait_111 ?_
              refine zr_callS4 (rm9 := zrm_X8_joins) X hnt zm_X8_183 (by decide) (by decide) (by decide) (Nat.le_of_ble_eq_true rfl) dX8_readWait_113 ?_
              refine zok_X8_joins (g := v129) (s9 := 1) hM236 hW (by omega) (by omega) (by omega) ?_ ?_
              · skip
                intro h0250 J244 hg245 hM246; have hP247 : zPq J244 y t n9 (tEnd t n9 ((tNext t n9 ((tNext t n9 p9))))) := zPq.row hP235 hg245; have fr248 : zfm I J244 y := zfm.row fr234 hg245; have hW249 : zWf (tL S v129 1 (sL S v129 1 ++ [(c229 + 1)])) := zWf_join hW (by omega) (by omega) h0250; have hl251 := hW.len v129 1
                refine zr_nif_ge X (((sL S v129 1).length + 1)) (tgt := 126) (by omega) dX8_readWait_116 (by decide) (fun _ => ?_) (fun h => absurd trivial h)
                refine zr_vret X (by decide) (by decide) dX8_readWait_126 ?_
                exact k1 _ _ _ _ (by ((unfold pWait1; simp only [hq131]; unfold pWait2; rw [if_neg hw4, if_pos hw12]; unfold pWait3; rw [if_pos (tKind_2.mpr ⟨by omega, hl16⟩)]; simp only [hq232]; unfold pWait4; rw [if_pos h0250]) <;> rfl)) fr248 hP247 rfl hM246 hW249
              · skip
                intro h0252; have hn253 : ¬ ((0 : Int32) ≤ (-nI (qWhy S v129 1 (c229 + 1)))) := zneg_lt h0252 qWhy_lt
                refine zr_if_ge (tgt := 126) X dX8_readWait_116 (by decide) (fun h => absurd h (by assumption)) (fun _ => ?_)
                refine zr_aload0 X dX8_readWait_119 ?_
                refine zr_bipush (v := (-6 : Int32)) X dX8_readWait_120 (by decide) ?_
                refine zr_iload2 X dX8_readWait_122 ?_
                refine zr_callV2 (rm9 := zrm_X8_report) X hnt zm_X8_138 (by decide) (by decide) (by decide) (Nat.le_of_ble_eq_true rfl) dX8_readWait_123 ?_
                refine zg_X8_report hP235.1 ?_; have hE254 : zEq (zput (zput J231 y 5 (-6 : Int32)) y 6 (nI (tNext t n9 p9))) y ((-6 : Int32), tNext t n9 p9) := zEq.mk (by decide); have fr255 : zfm I (zput (zput J231 y 5 (-6 : Int32)) y 6 (nI (tNext t n9 p9))) y := zfm.put (zfm.put fr234 (by decide)) (by decide)
                refine zr_vret X (by decide) (by decide) dX8_readWait_126 ?_
                exact k2 _ _ (by unfold pWait1; simp only [hq131]; unfold pWait2; rw [if_neg hw4, if_pos hw12]; unfold pWait3; rw [if_pos (tKind_2.mpr ⟨by omega, hl16⟩)]; simp only [hq232]; unfold pWait4; rw [if_neg h0252]) fr255 hE254
            · skip
              intro J237 e242 hq238 hg239 fr240 hE241; have hM243 : zMd J237 (y + 3) S := zMd.ag hM228 hg239 (by omega); have fr240 : zfm I J237 y := zfm.tr fr226 fr240
              refine zr_goto (tgt := 88) X dX8_readWait_84 (by decide) ?_
              refine zr_istore4 X (by decide) rfl dX8_readWait_88 ?_
              refine zr_aload0 X dX8_readWait_90 ?_
              refine zr_callV0 (rm9 := zrm_X8_isGood) X hnt zm_X8_121 (by decide) (by decide) (by decide) (Nat.le_of_ble_eq_true rfl) dX8_readWait_91 ?_
              refine zb_X8_isGood (fun z => hE241.1.2 (hE241.1.1.symm.trans z)) ?_
              refine zr_if_eq (tgt := 126) X dX8_readWait_94 (by decide) (fun _ => ?_) (fun h => absurd h (by decide))
              refine zr_vret X (by decide) (by decide) dX8_readWait_126 ?_
              exact k2 _ _ (by unfold pWait1; simp only [hq131]; unfold pWait2; rw [if_neg hw4, if_pos hw12]; unfold pWait3; rw [if_pos (tKind_2.mpr ⟨by omega, hl16⟩)]; simp only [hq238]) fr240 hE241
          · skip
            intro hl16
            refine zr_if_eq (tgt := 87) X dX8_readWait_77 (by decide) (fun _ => ?_) (fun h => absurd h (by decide))
            refine zr_iconst (v := (-1 : Int32)) X dX8_readWait_87 (by decide) ?_
            refine zr_istore4 X (by decide) rfl dX8_readWait_88 ?_
            refine zr_aload0 X dX8_readWait_90 ?_
            refine zr_callV0 (rm9 := zrm_X8_isGood) X hnt zm_X8_121 (by decide) (by decide) (by decide) (Nat.le_of_ble_eq_true rfl) dX8_readWait_91 ?_
            refine zg_X8_isGood hP227.1 ?_
            refine zr_if_eq (tgt := 126) X dX8_readWait_94 (by decide) (fun h => absurd h (by decide)) (fun _ => ?_)
            refine zr_aload0 X dX8_readWait_97 ?_
            refine zr_getR X zf_X8_20 rfl (by decide) (by decide) dX8_readWait_98 ?_
            refine zr_iload1 X dX8_readWait_101 ?_
            refine zr_iload3 X dX8_readWait_102 ?_
            refine zr_if_eq (tgt := 110) X dX8_readWait_103 (by decide) (fun _ => ?_) (fun h => absurd h (by decide))
            refine zr_iconst (v := (1 : Int32)) X dX8_readWait_110 (by decide) ?_
            refine zr_iload4 X dX8_readWait_111 ?_
            refine zr_callS4 (rm9 := zrm_X8_joins) X hnt zm_X8_183 (by decide) (by decide) (by decide) (Nat.le_of_ble_eq_true rfl) dX8_readWait_113 ?_
            refine znone_X8_joins (g := v129) (s9 := 1) hM228 hW (by omega) (by omega) ?_ ?_
            · skip
              intro h0262 J256 hg257 hM258; have hP259 : zPq J256 y t n9 ((tNext t n9 ((tNext t n9 p9)))) := zPq.row hP227 hg257; have fr260 : zfm I J256 y := zfm.row fr226 hg257; have hW261 : zWf (tL S v129 1 (sL S v129 1 ++ [0])) := zWf_join hW (by omega) (by omega) h0262; have hl263 := hW.len v129 1
              refine zr_nif_ge X (((sL S v129 1).length + 1)) (tgt := 126) (by omega) dX8_readWait_116 (by decide) (fun _ => ?_) (fun h => absurd trivial h)
              refine zr_vret X (by decide) (by decide) dX8_readWait_126 ?_
              exact k1 _ _ _ _ (by ((unfold pWait1; simp only [hq131]; unfold pWait2; rw [if_neg hw4, if_pos hw12]; unfold pWait3; rw [if_neg (fun z => by have h8 := tKind_2.mp z; first | (have h7 := h8.2; rw [hl16] at h7; cases h7) | (have := h8.1; omega))]; unfold pWait4; rw [if_pos h0262]) <;> rfl)) fr260 hP259 (tSkip_id hP217.2.2.2.1 rfl) hM258 hW261
            · skip
              intro h0264; have hn265 : ¬ ((0 : Int32) ≤ (-nI (qWhy S v129 1 0))) := zneg_lt h0264 qWhy_lt
              refine zr_if_ge (tgt := 126) X dX8_readWait_116 (by decide) (fun h => absurd h (by assumption)) (fun _ => ?_)
              refine zr_aload0 X dX8_readWait_119 ?_
              refine zr_bipush (v := (-6 : Int32)) X dX8_readWait_120 (by decide) ?_
              refine zr_iload2 X dX8_readWait_122 ?_
              refine zr_callV2 (rm9 := zrm_X8_report) X hnt zm_X8_138 (by decide) (by decide) (by decide) (Nat.le_of_ble_eq_true rfl) dX8_readWait_123 ?_
              refine zg_X8_report hP227.1 ?_; have hE266 : zEq (zput (zput J224 y 5 (-6 : Int32)) y 6 (nI (tNext t n9 p9))) y ((-6 : Int32), tNext t n9 p9) := zEq.mk (by decide); have fr267 : zfm I (zput (zput J224 y 5 (-6 : Int32)) y 6 (nI (tNext t n9 p9))) y := zfm.put (zfm.put fr226 (by decide)) (by decide)
              refine zr_vret X (by decide) (by decide) dX8_readWait_126 ?_
              exact k2 _ _ (by unfold pWait1; simp only [hq131]; unfold pWait2; rw [if_neg hw4, if_pos hw12]; unfold pWait3; rw [if_neg (fun z => by have h8 := tKind_2.mp z; first | (have h7 := h8.2; rw [hl16] at h7; cases h7) | (have := h8.1; omega))]; unfold pWait4; rw [if_neg h0264]) fr267 hE266
        · skip
          intro J224 hg225 fr226 hP227 hb14; have hM228 : zMd J224 (y + 3) S := zMd.ag hM218 hg225 (by omega); have fr226 : zfm I J224 y := zfm.tr fr216 fr226; have := hP227.2.2.2.1
          refine zr_bipush (v := (97 : Int32)) X dX8_readWait_70 (by decide) ?_
          refine zr_bipush (v := (122 : Int32)) X dX8_readWait_72 (by decide) ?_
          refine zr_callS3 (rm9 := zrm_X8_in) X hnt zm_X8_117 (by decide) (by decide) (by decide) (Nat.le_of_ble_eq_true rfl) dX8_readWait_74 ?_
          refine zq_X8_in (fun h => absurd h (by decide)) (fun _ => ?_)
          refine zr_if_eq (tgt := 87) X dX8_readWait_77 (by decide) (fun _ => ?_) (fun h => absurd h (by decide))
          refine zr_iconst (v := (-1 : Int32)) X dX8_readWait_87 (by decide) ?_
          refine zr_istore4 X (by decide) rfl dX8_readWait_88 ?_
          refine zr_aload0 X dX8_readWait_90 ?_
          refine zr_callV0 (rm9 := zrm_X8_isGood) X hnt zm_X8_121 (by decide) (by decide) (by decide) (Nat.le_of_ble_eq_true rfl) dX8_readWait_91 ?_
          refine zg_X8_isGood hP227.1 ?_
          refine zr_if_eq (tgt := 126) X dX8_readWait_94 (by decide) (fun h => absurd h (by decide)) (fun _ => ?_)
          refine zr_aload0 X dX8_readWait_97 ?_
          refine zr_getR X zf_X8_20 rfl (by decide) (by decide) dX8_readWait_98 ?_
          refine zr_iload1 X dX8_readWait_101 ?_
          refine zr_iload3 X dX8_readWait_102 ?_
          refine zr_if_eq (tgt := 110) X dX8_readWait_103 (by decide) (fun _ => ?_) (fun h => absurd h (by decide))
          refine zr_iconst (v := (1 : Int32)) X dX8_readWait_110 (by decide) ?_
          refine zr_iload4 X dX8_readWait_111 ?_
          refine zr_callS4 (rm9 := zrm_X8_joins) X hnt zm_X8_183 (by decide) (by decide) (by decide) (Nat.le_of_ble_eq_true rfl) dX8_readWait_113 ?_
          refine znone_X8_joins (g := v129) (s9 := 1) hM228 hW (by omega) (by omega) ?_ ?_
          · skip
            intro h0274 J268 hg269 hM270; have hP271 : zPq J268 y t n9 ((tNext t n9 ((tNext t n9 p9)))) := zPq.row hP227 hg269; have fr272 : zfm I J268 y := zfm.row fr226 hg269; have hW273 : zWf (tL S v129 1 (sL S v129 1 ++ [0])) := zWf_join hW (by omega) (by omega) h0274; have hl275 := hW.len v129 1
            refine zr_nif_ge X (((sL S v129 1).length + 1)) (tgt := 126) (by omega) dX8_readWait_116 (by decide) (fun _ => ?_) (fun h => absurd trivial h)
            refine zr_vret X (by decide) (by decide) dX8_readWait_126 ?_
            exact k1 _ _ _ _ (by ((unfold pWait1; simp only [hq131]; unfold pWait2; rw [if_neg hw4, if_pos hw12]; unfold pWait3; rw [if_neg (fun z => by have h8 := tKind_2.mp z; have := h8.1; omega)]; unfold pWait4; rw [if_pos h0274]) <;> rfl)) fr272 hP271 (tSkip_id hP217.2.2.2.1 rfl) hM270 hW273
          · skip
            intro h0276; have hn277 : ¬ ((0 : Int32) ≤ (-nI (qWhy S v129 1 0))) := zneg_lt h0276 qWhy_lt
            refine zr_if_ge (tgt := 126) X dX8_readWait_116 (by decide) (fun h => absurd h (by assumption)) (fun _ => ?_)
            refine zr_aload0 X dX8_readWait_119 ?_
            refine zr_bipush (v := (-6 : Int32)) X dX8_readWait_120 (by decide) ?_
            refine zr_iload2 X dX8_readWait_122 ?_
            refine zr_callV2 (rm9 := zrm_X8_report) X hnt zm_X8_138 (by decide) (by decide) (by decide) (Nat.le_of_ble_eq_true rfl) dX8_readWait_123 ?_
            refine zg_X8_report hP227.1 ?_; have hE278 : zEq (zput (zput J224 y 5 (-6 : Int32)) y 6 (nI (tNext t n9 p9))) y ((-6 : Int32), tNext t n9 p9) := zEq.mk (by decide); have fr279 : zfm I (zput (zput J224 y 5 (-6 : Int32)) y 6 (nI (tNext t n9 p9))) y := zfm.put (zfm.put fr226 (by decide)) (by decide)
            refine zr_vret X (by decide) (by decide) dX8_readWait_126 ?_
            exact k2 _ _ (by unfold pWait1; simp only [hq131]; unfold pWait2; rw [if_neg hw4, if_pos hw12]; unfold pWait3; rw [if_neg (fun z => by have h8 := tKind_2.mp z; have := h8.1; omega)]; unfold pWait4; rw [if_neg h0276]) fr279 hE278
      · skip
        intro hw13 J219 hg220 fr221 hP222; have hM223 : zMd J219 (y + 3) S := zMd.ag hM157 hg220 (by omega); have fr221 : zfm I J219 y := zfm.tr fr155 fr221; have hw13 : ¬ tIsB t n9 ((tNext t n9 p9)) wOut = true := hw13
        refine zr_if_ne (tgt := 59) X dX8_readWait_49 (by decide) (fun h => absurd h (by decide)) (fun _ => ?_)
        refine zr_aload0 X dX8_readWait_52 ?_
        refine zr_bipush (v := (-2 : Int32)) X dX8_readWait_53 (by decide) ?_
        refine zr_iload2 X dX8_readWait_55 ?_
        refine zr_callV2 (rm9 := zrm_X8_report) X hnt zm_X8_138 (by decide) (by decide) (by decide) (Nat.le_of_ble_eq_true rfl) dX8_readWait_56 ?_
        refine zg_X8_report hP222.1 ?_; have hE280 : zEq (zput (zput J219 y 5 (-2 : Int32)) y 6 (nI (tNext t n9 p9))) y ((-2 : Int32), tNext t n9 p9) := zEq.mk (by decide); have fr281 : zfm I (zput (zput J219 y 5 (-2 : Int32)) y 6 (nI (tNext t n9 p9))) y := zfm.put (zfm.put fr221 (by decide)) (by decide)
        refine zr_aload0 X dX8_readWait_59 ?_
        refine zr_callV0 (rm9 := zrm_X8_isGood) X hnt zm_X8_121 (by decide) (by decide) (by decide) (Nat.le_of_ble_eq_true rfl) dX8_readWait_60 ?_
        refine zb_X8_isGood (fun z => hE280.1.2 (hE280.1.1.symm.trans z)) ?_
        refine zr_if_eq (tgt := 87) X dX8_readWait_63 (by decide) (fun _ => ?_) (fun h => absurd h (by decide))
        refine zr_iconst (v := (-1 : Int32)) X dX8_readWait_87 (by decide) ?_
        refine zr_istore4 X (by decide) rfl dX8_readWait_88 ?_
        refine zr_aload0 X dX8_readWait_90 ?_
        refine zr_callV0 (rm9 := zrm_X8_isGood) X hnt zm_X8_121 (by decide) (by decide) (by decide) (Nat.le_of_ble_eq_true rfl) dX8_readWait_91 ?_
        refine zb_X8_isGood (fun z => hE280.1.2 (hE280.1.1.symm.trans z)) ?_
        refine zr_if_eq (tgt := 126) X dX8_readWait_94 (by decide) (fun _ => ?_) (fun h => absurd h (by decide))
        refine zr_vret X (by decide) (by decide) dX8_readWait_126 ?_
        exact k2 _ _ (by unfold pWait1; simp only [hq131]; unfold pWait2; rw [if_neg hw4, if_neg hw13]) fr281 hE280
  · skip
    intro J136 e141 hq137 hg138 fr139 hE140; have hM142 : zMd J136 (y + 3) S := zMd.ag hM hg138 (by omega); have fr139 : zfm I J136 y := zfm.tr zfm.rf fr139
    refine zr_istore1 X (by decide) rfl dX8_readWait_13 ?_
    refine zr_aload0 X dX8_readWait_14 ?_
    refine zr_callV0 (rm9 := zrm_X8_isGood) X hnt zm_X8_121 (by decide) (by decide) (by decide) (Nat.le_of_ble_eq_true rfl) dX8_readWait_15 ?_
    refine zb_X8_isGood (fun z => hE140.1.2 (hE140.1.1.symm.trans z)) ?_
    refine zr_if_ne (tgt := 22) X dX8_readWait_18 (by decide) (fun h => absurd h (by decide)) (fun _ => ?_)
    refine zr_vret X (by decide) (by decide) dX8_readWait_21 ?_
    exact k2 _ _ (by unfold pWait1; simp only [hq137]) fr139 hE140
abbrev zrm_X8_statement : Room := { frames := 7, cells := 0, slots := 0, locals := 196 }
set_option maxRecDepth 20000 in
theorem zp_X8_statement {l : Launch} {D : va_G} {b0 : Nat} {tA : Nat → ClassId} {sa sv : Nat → Nat} {K : Nat → Option Nat} {I : zI} {Qp : zI → Option AV → Prop} {Xp : String → zI → Prop} {y n9 q9 p9 : Nat} {t : Nat → Nat} {S : zS}
    (hP : zPq I y t n9 q9) (hp : tSkip t n9 q9 = p9) (hM : zMd I (y + 3) S) (hW : zWf S) (k1 : ∀ (J : zI) (p2 q2 : Nat) (S2 : zS), pStmt t n9 p9 S = .inr (p2, S2) → zfm I J y → zPq J y t n9 q2 → tSkip t n9 q2 = p2 → zMd J (y + 3) S2 → zWf S2 → Qp J none) (k2 : ∀ (J : zI) (e : Int32 × Nat), pStmt t n9 p9 S = .inl e → zfm I J y → zEq J y e → Qp J none) :
    zC l D b0 tA sa sv K yX8_statement (.code yX8_statement cX8_statement 3 none) zrm_X8_statement [vr (y) 8] I Qp Xp := by
  have hn5 := hP.2.2.2.2.1
  have hqn := hP.2.2.2.1
  have hpl := tSkip_le (t := t) hP.2.2.2.1
  have hg6 := hW.ng.1
  have hc12 := hW.nc.1
  refine zC_of (by decide +kernel) (Nat.le_of_ble_eq_true rfl) ?_
  intro p e s m args below meth c X hnt
  have X : zX p l e zrm_X8_statement s m args below meth c RX8 cX8_statement 3 none D b0 tA sa sv := X
  refine zr_lv (lv2 := [some (vr (y) 8), none, none]) rfl ?_
  refine zr_aload0 X dX8_statement_0 ?_
  refine zr_callV0 (rm9 := zrm_X8_ahead) X hnt zm_X8_125 (by decide) (by decide) (by decide) (Nat.le_of_ble_eq_true rfl) dX8_statement_1 ?_
  refine zv_X8_ahead (p9 := p9) hP hp ?_
  intro J282 v9 hg283 fr284 hP285; have hM286 : zMd J282 (y + 3) S := zMd.ag hM hg283 (by omega); have fr284 : zfm I J282 y := zfm.tr zfm.rf fr284; have := hP285.2.2.2.1
  refine zr_popI X dX8_statement_4 ?_
  refine zr_aload0 X dX8_statement_5 ?_
  refine zr_getI X zf_X8_104 rfl dX8_statement_6 ?_
  refine zr_eq (x2 := (nI p9)) (hP285.2.2.1) ?_
  refine zr_istore1 X (by decide) rfl dX8_statement_9 ?_
  refine zr_aload0 X dX8_statement_10 ?_
  refine zr_ldcS X 11 rfl (by decide) dX8_statement_11 ?_
  refine zr_callV1 (rm9 := zrm_X8_takeWord) X hnt zm_X8_166 (by decide) (by decide) (by decide) (Nat.le_of_ble_eq_true rfl) dX8_statement_13 ?_
  refine zg_X8_takeWord (i := 11) (p9 := p9) hP285 (tSkip_id hP.2.2.2.1 hp) (by decide) ?_ ?_
  · skip
    intro hw3 J287 hg288 fr289 hP290; have hM291 : zMd J287 (y + 3) S := zMd.ag hM286 hg288 (by omega); have fr289 : zfm I J287 y := zfm.tr fr284 fr289; have hw3 : tIsB t n9 p9 wGate = true := hw3; have := tIsB_lt hw3; have := tNext_le (t := t) (Nat.le_of_lt this)
    refine zr_if_eq (tgt := 51) X dX8_statement_16 (by decide) (fun h => absurd h (by decide)) (fun _ => ?_)
    refine zr_aload0 X dX8_statement_19 ?_
    refine zr_getR X zf_X8_20 rfl (by decide) (by decide) dX8_statement_20 ?_
    refine zr_iconst (v := (4 : Int32)) X dX8_statement_23 (by decide) ?_
    refine zr_ialdN (n := 4) X rfl (show _ < 310 from (by first | assumption | omega | decide)) dX8_statement_24 ?_
    refine zr_eq (x2 := (sX S 4)) (hM291.1 4 (by decide)) ?_
    refine zr_eq (x2 := (nI (zng S))) (hW.ng.2) ?_
    refine zr_bipush (v := (6 : Int32)) X dX8_statement_25 (by decide) ?_
    refine zr_nicmp_ne X ((zng S)) (6) (tgt := 37) (by omega) (by omega) dX8_statement_27 (by decide) (fun h5 => ?_) (fun h5 => ?_)
    · skip
      refine zr_aload0 X dX8_statement_37 ?_
      refine zr_callV0 (rm9 := zrm_X8_isGood) X hnt zm_X8_121 (by decide) (by decide) (by decide) (Nat.le_of_ble_eq_true rfl) dX8_statement_38 ?_
      refine zg_X8_isGood hP290.1 ?_
      refine zr_if_eq (tgt := 201) X dX8_statement_41 (by decide) (fun h => absurd h (by decide)) (fun _ => ?_)
      refine zr_aload0 X dX8_statement_44 ?_
      refine zr_callV0 (rm9 := zrm_X8_readGate) X hnt zm_X8_188 (by decide) (by decide) (by decide) (Nat.le_of_ble_eq_true rfl) dX8_statement_45 ?_
      refine zp_X8_readGate (p9 := (tNext t n9 p9)) hP290 rfl hM291 hW (by omega) ?_ ?_
      · skip
        intro J297 p298 q299 T300 hq301 fr302 hP303 hp304 hM305 hW306; have fr302 : zfm I J297 y := zfm.tr fr289 fr302; have := hP303.2.2.2.1; have hn5_J297 := hP303.2.2.2.2.1; have := tSkip_le (t := t) hP303.2.2.2.1; have := hW306.ng.1; have := hW306.nc.1
        refine zr_goto (tgt := 201) X dX8_statement_48 (by decide) ?_
        refine zr_aload0 X dX8_statement_201 ?_
        refine zr_bipush (v := (59 : Int32)) X dX8_statement_202 (by decide) ?_
        refine zr_callV1 (rm9 := zrm_X8_expect) X hnt zm_X8_216 (by decide) (by decide) (by decide) (Nat.le_of_ble_eq_true rfl) dX8_statement_204 ?_
        refine zg_X8_expect (p9 := p298) (S := T300) hP303 hp304 ?_ ?_
        · skip
          intro hq313 J312 hg314 fr315 hP316; have hM317 : zMd J312 (y + 3) T300 := zMd.ag hM305 hg314 (by omega); have fr315 : zfm I J312 y := zfm.tr fr302 fr315
          refine zr_vret X (by decide) (by decide) dX8_statement_207 ?_
          have hB9 : pBody t n9 p9 S = (.inr (p298, T300)) := by (unfold pBody; rw [if_pos hw3]; rw [pGate_1, if_neg h5]; exact hq301)
          exact k1 _ _ _ _ (by unfold pStmt; simp only [hB9]; exact hq313) fr315 hP316 rfl hM317 hW306
        · skip
          intro J318 e323 hq319 hg320 fr321 hE322; have hM324 : zMd J318 (y + 3) T300 := zMd.ag hM305 hg320 (by omega); have fr321 : zfm I J318 y := zfm.tr fr302 fr321
          refine zr_vret X (by decide) (by decide) dX8_statement_207 ?_
          have hB9 : pBody t n9 p9 S = (.inr (p298, T300)) := by (unfold pBody; rw [if_pos hw3]; rw [pGate_1, if_neg h5]; exact hq301)
          exact k2 _ _ (by unfold pStmt; simp only [hB9]; exact hq319) fr321 hE322
      · skip
        intro J307 e308 hq309 fr310 hE311; have fr310 : zfm I J307 y := zfm.tr fr289 fr310
        refine zr_goto (tgt := 201) X dX8_statement_48 (by decide) ?_
        refine zr_aload0 X dX8_statement_201 ?_
        refine zr_bipush (v := (59 : Int32)) X dX8_statement_202 (by decide) ?_
        refine zr_callV1 (rm9 := zrm_X8_expect) X hnt zm_X8_216 (by decide) (by decide) (by decide) (Nat.le_of_ble_eq_true rfl) dX8_statement_204 ?_
        refine zb_X8_expect hE311 ?_
        refine zr_vret X (by decide) (by decide) dX8_statement_207 ?_
        have hB9 : pBody t n9 p9 S = (.inl e308) := by (unfold pBody; rw [if_pos hw3]; rw [pGate_1, if_neg h5]; exact hq309)
        exact k2 _ _ (by unfold pStmt; simp only [hB9]) fr310 hE311
    · skip
      refine zr_aload0 X dX8_statement_30 ?_
      refine zr_bipush (v := (-5 : Int32)) X dX8_statement_31 (by decide) ?_
      refine zr_iload1 X dX8_statement_33 ?_
      refine zr_callV2 (rm9 := zrm_X8_report) X hnt zm_X8_138 (by decide) (by decide) (by decide) (Nat.le_of_ble_eq_true rfl) dX8_statement_34 ?_
      refine zg_X8_report hP290.1 ?_; have hE325 : zEq (zput (zput J287 y 5 (-5 : Int32)) y 6 (nI p9)) y ((-5 : Int32), p9) := zEq.mk (by decide); have fr326 : zfm I (zput (zput J287 y 5 (-5 : Int32)) y 6 (nI p9)) y := zfm.put (zfm.put fr289 (by decide)) (by decide)
      refine zr_aload0 X dX8_statement_37 ?_
      refine zr_callV0 (rm9 := zrm_X8_isGood) X hnt zm_X8_121 (by decide) (by decide) (by decide) (Nat.le_of_ble_eq_true rfl) dX8_statement_38 ?_
      refine zb_X8_isGood (fun z => hE325.1.2 (hE325.1.1.symm.trans z)) ?_
      refine zr_if_eq (tgt := 201) X dX8_statement_41 (by decide) (fun _ => ?_) (fun h => absurd h (by decide))
      refine zr_aload0 X dX8_statement_201 ?_
      refine zr_bipush (v := (59 : Int32)) X dX8_statement_202 (by decide) ?_
      refine zr_callV1 (rm9 := zrm_X8_expect) X hnt zm_X8_216 (by decide) (by decide) (by decide) (Nat.le_of_ble_eq_true rfl) dX8_statement_204 ?_
      refine zb_X8_expect hE325 ?_
      refine zr_vret X (by decide) (by decide) dX8_statement_207 ?_
      have hB9 : pBody t n9 p9 S = (.inl ((-5 : Int32), p9)) := by (unfold pBody; rw [if_pos hw3]; rw [pGate_1, if_pos h5])
      exact k2 _ _ (by unfold pStmt; simp only [hB9]) fr326 hE325
  · skip
    intro hw4 J292 hg293 fr294 hP295; have hM296 : zMd J292 (y + 3) S := zMd.ag hM286 hg293 (by omega); have fr294 : zfm I J292 y := zfm.tr fr284 fr294; have hw4 : ¬ tIsB t n9 p9 wGate = true := hw4
    refine zr_if_eq (tgt := 51) X dX8_statement_16 (by decide) (fun _ => ?_) (fun h => absurd h (by decide))
    refine zr_aload0 X dX8_statement_51 ?_
    refine zr_ldcS X 15 rfl (by decide) dX8_statement_52 ?_
    refine zr_callV1 (rm9 := zrm_X8_takeWord) X hnt zm_X8_166 (by decide) (by decide) (by decide) (Nat.le_of_ble_eq_true rfl) dX8_statement_54 ?_
    refine zg_X8_takeWord (i := 15) (p9 := p9) hP295 (tSkip_id hP285.2.2.2.1 (tSkip_id hP.2.2.2.1 hp)) (by decide) ?_ ?_
    · skip
      intro hw7 J327 hg328 fr329 hP330; have hM331 : zMd J327 (y + 3) S := zMd.ag hM296 hg328 (by omega); have fr329 : zfm I J327 y := zfm.tr fr294 fr329; have hw7 : tIsB t n9 p9 wCard = true := hw7; have := tIsB_lt hw7; have := tNext_le (t := t) (Nat.le_of_lt this)
      refine zr_if_eq (tgt := 92) X dX8_statement_57 (by decide) (fun h => absurd h (by decide)) (fun _ => ?_)
      refine zr_aload0 X dX8_statement_60 ?_
      refine zr_getR X zf_X8_20 rfl (by decide) (by decide) dX8_statement_61 ?_
      refine zr_iconst (v := (5 : Int32)) X dX8_statement_64 (by decide) ?_
      refine zr_ialdN (n := 5) X rfl (show _ < 310 from (by first | assumption | omega | decide)) dX8_statement_65 ?_
      refine zr_eq (x2 := (sX S 5)) (hM331.1 5 (by decide)) ?_
      refine zr_eq (x2 := (nI (znc S))) (hW.nc.2) ?_
      refine zr_bipush (v := (12 : Int32)) X dX8_statement_66 (by decide) ?_
      refine zr_nicmp_ne X ((znc S)) (12) (tgt := 78) (by omega) (by omega) dX8_statement_68 (by decide) (fun h9 => ?_) (fun h9 => ?_)
      · skip
        refine zr_aload0 X dX8_statement_78 ?_
        refine zr_callV0 (rm9 := zrm_X8_isGood) X hnt zm_X8_121 (by decide) (by decide) (by decide) (Nat.le_of_ble_eq_true rfl) dX8_statement_79 ?_
        refine zg_X8_isGood hP330.1 ?_
        refine zr_if_eq (tgt := 201) X dX8_statement_82 (by decide) (fun h => absurd h (by decide)) (fun _ => ?_)
        refine zr_aload0 X dX8_statement_85 ?_
        refine zr_callV0 (rm9 := zrm_X8_readCard) X hnt zm_X8_193 (by decide) (by decide) (by decide) (Nat.le_of_ble_eq_true rfl) dX8_statement_86 ?_
        refine zp_X8_readCard (p9 := (tNext t n9 p9)) hP330 rfl hM331 hW (by omega) ?_ ?_
        · skip
          intro J337 p338 q339 T340 hq341 fr342 hP343 hp344 hM345 hW346; have fr342 : zfm I J337 y := zfm.tr fr329 fr342; have := hP343.2.2.2.1; have hn5_J337 := hP343.2.2.2.2.1; have := tSkip_le (t := t) hP343.2.2.2.1; have := hW346.ng.1; have := hW346.nc.1
          refine zr_goto (tgt := 201) X dX8_statement_89 (by decide) ?_
          refine zr_aload0 X dX8_statement_201 ?_
          refine zr_bipush (v := (59 : Int32)) X dX8_statement_202 (by decide) ?_
          refine zr_callV1 (rm9 := zrm_X8_expect) X hnt zm_X8_216 (by decide) (by decide) (by decide) (Nat.le_of_ble_eq_true rfl) dX8_statement_204 ?_
          refine zg_X8_expect (p9 := p338) (S := T340) hP343 hp344 ?_ ?_
          · skip
            intro hq353 J352 hg354 fr355 hP356; have hM357 : zMd J352 (y + 3) T340 := zMd.ag hM345 hg354 (by omega); have fr355 : zfm I J352 y := zfm.tr fr342 fr355
            refine zr_vret X (by decide) (by decide) dX8_statement_207 ?_
            have hB9 : pBody t n9 p9 S = (.inr (p338, T340)) := by (unfold pBody; rw [if_neg hw4, if_pos hw7]; rw [pCard_1, if_neg h9]; exact hq341)
            exact k1 _ _ _ _ (by unfold pStmt; simp only [hB9]; exact hq353) fr355 hP356 rfl hM357 hW346
          · skip
            intro J358 e363 hq359 hg360 fr361 hE362; have hM364 : zMd J358 (y + 3) T340 := zMd.ag hM345 hg360 (by omega); have fr361 : zfm I J358 y := zfm.tr fr342 fr361
            refine zr_vret X (by decide) (by decide) dX8_statement_207 ?_
            have hB9 : pBody t n9 p9 S = (.inr (p338, T340)) := by (unfold pBody; rw [if_neg hw4, if_pos hw7]; rw [pCard_1, if_neg h9]; exact hq341)
            exact k2 _ _ (by unfold pStmt; simp only [hB9]; exact hq359) fr361 hE362
        · skip
          intro J347 e348 hq349 fr350 hE351; have fr350 : zfm I J347 y := zfm.tr fr329 fr350
          refine zr_goto (tgt := 201) X dX8_statement_89 (by decide) ?_
          refine zr_aload0 X dX8_statement_201 ?_
          refine zr_bipush (v := (59 : Int32)) X dX8_statement_202 (by decide) ?_
          refine zr_callV1 (rm9 := zrm_X8_expect) X hnt zm_X8_216 (by decide) (by decide) (by decide) (Nat.le_of_ble_eq_true rfl) dX8_statement_204 ?_
          refine zb_X8_expect hE351 ?_
          refine zr_vret X (by decide) (by decide) dX8_statement_207 ?_
          have hB9 : pBody t n9 p9 S = (.inl e348) := by (unfold pBody; rw [if_neg hw4, if_pos hw7]; rw [pCard_1, if_neg h9]; exact hq349)
          exact k2 _ _ (by unfold pStmt; simp only [hB9]) fr350 hE351
      · skip
        refine zr_aload0 X dX8_statement_71 ?_
        refine zr_bipush (v := (-5 : Int32)) X dX8_statement_72 (by decide) ?_
        refine zr_iload1 X dX8_statement_74 ?_
        refine zr_callV2 (rm9 := zrm_X8_report) X hnt zm_X8_138 (by decide) (by decide) (by decide) (Nat.le_of_ble_eq_true rfl) dX8_statement_75 ?_
        refine zg_X8_report hP330.1 ?_; have hE365 : zEq (zput (zput J327 y 5 (-5 : Int32)) y 6 (nI p9)) y ((-5 : Int32), p9) := zEq.mk (by decide); have fr366 : zfm I (zput (zput J327 y 5 (-5 : Int32)) y 6 (nI p9)) y := zfm.put (zfm.put fr329 (by decide)) (by decide)
        refine zr_aload0 X dX8_statement_78 ?_
        refine zr_callV0 (rm9 := zrm_X8_isGood) X hnt zm_X8_121 (by decide) (by decide) (by decide) (Nat.le_of_ble_eq_true rfl) dX8_statement_79 ?_
        refine zb_X8_isGood (fun z => hE365.1.2 (hE365.1.1.symm.trans z)) ?_
        refine zr_if_eq (tgt := 201) X dX8_statement_82 (by decide) (fun _ => ?_) (fun h => absurd h (by decide))
        refine zr_aload0 X dX8_statement_201 ?_
        refine zr_bipush (v := (59 : Int32)) X dX8_statement_202 (by decide) ?_
        refine zr_callV1 (rm9 := zrm_X8_expect) X hnt zm_X8_216 (by decide) (by decide) (by decide) (Nat.le_of_ble_eq_true rfl) dX8_statement_204 ?_
        refine zb_X8_expect hE365 ?_
        refine zr_vret X (by decide) (by decide) dX8_statement_207 ?_
        have hB9 : pBody t n9 p9 S = (.inl ((-5 : Int32), p9)) := by (unfold pBody; rw [if_neg hw4, if_pos hw7]; rw [pCard_1, if_pos h9])
        exact k2 _ _ (by unfold pStmt; simp only [hB9]) fr366 hE365
    · skip
      intro hw8 J332 hg333 fr334 hP335; have hM336 : zMd J332 (y + 3) S := zMd.ag hM296 hg333 (by omega); have fr334 : zfm I J332 y := zfm.tr fr294 fr334; have hw8 : ¬ tIsB t n9 p9 wCard = true := hw8
      refine zr_if_eq (tgt := 92) X dX8_statement_57 (by decide) (fun _ => ?_) (fun h => absurd h (by decide))
      refine zr_aload0 X dX8_statement_92 ?_
      refine zr_ldcS X 16 rfl (by decide) dX8_statement_93 ?_
      refine zr_callV1 (rm9 := zrm_X8_takeWord) X hnt zm_X8_166 (by decide) (by decide) (by decide) (Nat.le_of_ble_eq_true rfl) dX8_statement_95 ?_
      refine zg_X8_takeWord (i := 16) (p9 := p9) hP335 (tSkip_id hP295.2.2.2.1 (tSkip_id hP285.2.2.2.1 (tSkip_id hP.2.2.2.1 hp))) (by decide) ?_ ?_
      · skip
        intro hw11 J367 hg368 fr369 hP370; have hM371 : zMd J367 (y + 3) S := zMd.ag hM336 hg368 (by omega); have fr369 : zfm I J367 y := zfm.tr fr334 fr369; have hw11 : tIsB t n9 p9 wList = true := hw11; have := tIsB_lt hw11; have := tNext_le (t := t) (Nat.le_of_lt this)
        refine zr_if_eq (tgt := 108) X dX8_statement_98 (by decide) (fun h => absurd h (by decide)) (fun _ => ?_)
        refine zr_aload0 X dX8_statement_101 ?_
        refine zr_callV0 (rm9 := zrm_X8_readList) X hnt zm_X8_198 (by decide) (by decide) (by decide) (Nat.le_of_ble_eq_true rfl) dX8_statement_102 ?_
        refine zp_X8_readList (p9 := (tNext t n9 p9)) hP370 rfl hM371 hW ?_ ?_
        · skip
          intro J377 p378 q379 T380 hq381 fr382 hP383 hp384 hM385 hW386; have fr382 : zfm I J377 y := zfm.tr fr369 fr382; have := hP383.2.2.2.1; have hn5_J377 := hP383.2.2.2.2.1; have := tSkip_le (t := t) hP383.2.2.2.1; have := hW386.ng.1; have := hW386.nc.1
          refine zr_goto (tgt := 201) X dX8_statement_105 (by decide) ?_
          refine zr_aload0 X dX8_statement_201 ?_
          refine zr_bipush (v := (59 : Int32)) X dX8_statement_202 (by decide) ?_
          refine zr_callV1 (rm9 := zrm_X8_expect) X hnt zm_X8_216 (by decide) (by decide) (by decide) (Nat.le_of_ble_eq_true rfl) dX8_statement_204 ?_
          refine zg_X8_expect (p9 := p378) (S := T380) hP383 hp384 ?_ ?_
          · skip
            intro hq393 J392 hg394 fr395 hP396; have hM397 : zMd J392 (y + 3) T380 := zMd.ag hM385 hg394 (by omega); have fr395 : zfm I J392 y := zfm.tr fr382 fr395
            refine zr_vret X (by decide) (by decide) dX8_statement_207 ?_
            have hB9 : pBody t n9 p9 S = (.inr (p378, T380)) := by (unfold pBody; rw [if_neg hw4, if_neg hw8, if_pos hw11]; rw [pList_1]; exact hq381)
            exact k1 _ _ _ _ (by unfold pStmt; simp only [hB9]; exact hq393) fr395 hP396 rfl hM397 hW386
          · skip
            intro J398 e403 hq399 hg400 fr401 hE402; have hM404 : zMd J398 (y + 3) T380 := zMd.ag hM385 hg400 (by omega); have fr401 : zfm I J398 y := zfm.tr fr382 fr401
            refine zr_vret X (by decide) (by decide) dX8_statement_207 ?_
            have hB9 : pBody t n9 p9 S = (.inr (p378, T380)) := by (unfold pBody; rw [if_neg hw4, if_neg hw8, if_pos hw11]; rw [pList_1]; exact hq381)
            exact k2 _ _ (by unfold pStmt; simp only [hB9]; exact hq399) fr401 hE402
        · skip
          intro J387 e388 hq389 fr390 hE391; have fr390 : zfm I J387 y := zfm.tr fr369 fr390
          refine zr_goto (tgt := 201) X dX8_statement_105 (by decide) ?_
          refine zr_aload0 X dX8_statement_201 ?_
          refine zr_bipush (v := (59 : Int32)) X dX8_statement_202 (by decide) ?_
          refine zr_callV1 (rm9 := zrm_X8_expect) X hnt zm_X8_216 (by decide) (by decide) (by decide) (Nat.le_of_ble_eq_true rfl) dX8_statement_204 ?_
          refine zb_X8_expect hE391 ?_
          refine zr_vret X (by decide) (by decide) dX8_statement_207 ?_
          have hB9 : pBody t n9 p9 S = (.inl e388) := by (unfold pBody; rw [if_neg hw4, if_neg hw8, if_pos hw11]; rw [pList_1]; exact hq389)
          exact k2 _ _ (by unfold pStmt; simp only [hB9]) fr390 hE391
      · skip
        intro hw12 J372 hg373 fr374 hP375; have hM376 : zMd J372 (y + 3) S := zMd.ag hM336 hg373 (by omega); have fr374 : zfm I J372 y := zfm.tr fr334 fr374; have hw12 : ¬ tIsB t n9 p9 wList = true := hw12
        refine zr_if_eq (tgt := 108) X dX8_statement_98 (by decide) (fun _ => ?_) (fun h => absurd h (by decide))
        refine zr_aload0 X dX8_statement_108 ?_
        refine zr_ldcS X 17 rfl (by decide) dX8_statement_109 ?_
        refine zr_callV1 (rm9 := zrm_X8_takeWord) X hnt zm_X8_166 (by decide) (by decide) (by decide) (Nat.le_of_ble_eq_true rfl) dX8_statement_111 ?_
        refine zg_X8_takeWord (i := 17) (p9 := p9) hP375 (tSkip_id hP335.2.2.2.1 (tSkip_id hP295.2.2.2.1 (tSkip_id hP285.2.2.2.1 (tSkip_id hP.2.2.2.1 hp)))) (by decide) ?_ ?_
        · skip
          intro hw14 J405 hg406 fr407 hP408; have hM409 : zMd J405 (y + 3) S := zMd.ag hM376 hg406 (by omega); have fr407 : zfm I J405 y := zfm.tr fr374 fr407; have hw14 : tIsB t n9 p9 wWait = true := hw14; have := tIsB_lt hw14; have := tNext_le (t := t) (Nat.le_of_lt this)
          refine zr_if_eq (tgt := 124) X dX8_statement_114 (by decide) (fun h => absurd h (by decide)) (fun _ => ?_)
          refine zr_aload0 X dX8_statement_117 ?_
          refine zr_callV0 (rm9 := zrm_X8_readWait) X hnt zm_X8_203 (by decide) (by decide) (by decide) (Nat.le_of_ble_eq_true rfl) dX8_statement_118 ?_
          refine zp_X8_readWait (p9 := (tNext t n9 p9)) hP408 rfl hM409 hW ?_ ?_
          · skip
            intro J415 p416 q417 T418 hq419 fr420 hP421 hp422 hM423 hW424; have fr420 : zfm I J415 y := zfm.tr fr407 fr420; have := hP421.2.2.2.1; have hn5_J415 := hP421.2.2.2.2.1; have := tSkip_le (t := t) hP421.2.2.2.1; have := hW424.ng.1; have := hW424.nc.1
            refine zr_goto (tgt := 201) X dX8_statement_121 (by decide) ?_
            refine zr_aload0 X dX8_statement_201 ?_
            refine zr_bipush (v := (59 : Int32)) X dX8_statement_202 (by decide) ?_
            refine zr_callV1 (rm9 := zrm_X8_expect) X hnt zm_X8_216 (by decide) (by decide) (by decide) (Nat.le_of_ble_eq_true rfl) dX8_statement_204 ?_
            refine zg_X8_expect (p9 := p416) (S := T418) hP421 hp422 ?_ ?_
            · skip
              intro hq431 J430 hg432 fr433 hP434; have hM435 : zMd J430 (y + 3) T418 := zMd.ag hM423 hg432 (by omega); have fr433 : zfm I J430 y := zfm.tr fr420 fr433
              refine zr_vret X (by decide) (by decide) dX8_statement_207 ?_
              have hB9 : pBody t n9 p9 S = (.inr (p416, T418)) := by (unfold pBody; rw [if_neg hw4, if_neg hw8, if_neg hw12, if_pos hw14]; rw [pWait_1]; exact hq419)
              exact k1 _ _ _ _ (by unfold pStmt; simp only [hB9]; exact hq431) fr433 hP434 rfl hM435 hW424
            · skip
              intro J436 e441 hq437 hg438 fr439 hE440; have hM442 : zMd J436 (y + 3) T418 := zMd.ag hM423 hg438 (by omega); have fr439 : zfm I J436 y := zfm.tr fr420 fr439
              refine zr_vret X (by decide) (by decide) dX8_statement_207 ?_
              have hB9 : pBody t n9 p9 S = (.inr (p416, T418)) := by (unfold pBody; rw [if_neg hw4, if_neg hw8, if_neg hw12, if_pos hw14]; rw [pWait_1]; exact hq419)
              exact k2 _ _ (by unfold pStmt; simp only [hB9]; exact hq437) fr439 hE440
          · skip
            intro J425 e426 hq427 fr428 hE429; have fr428 : zfm I J425 y := zfm.tr fr407 fr428
            refine zr_goto (tgt := 201) X dX8_statement_121 (by decide) ?_
            refine zr_aload0 X dX8_statement_201 ?_
            refine zr_bipush (v := (59 : Int32)) X dX8_statement_202 (by decide) ?_
            refine zr_callV1 (rm9 := zrm_X8_expect) X hnt zm_X8_216 (by decide) (by decide) (by decide) (Nat.le_of_ble_eq_true rfl) dX8_statement_204 ?_
            refine zb_X8_expect hE429 ?_
            refine zr_vret X (by decide) (by decide) dX8_statement_207 ?_
            have hB9 : pBody t n9 p9 S = (.inl e426) := by (unfold pBody; rw [if_neg hw4, if_neg hw8, if_neg hw12, if_pos hw14]; rw [pWait_1]; exact hq427)
            exact k2 _ _ (by unfold pStmt; simp only [hB9]) fr428 hE429
        · skip
          intro hw15 J410 hg411 fr412 hP413; have hM414 : zMd J410 (y + 3) S := zMd.ag hM376 hg411 (by omega); have fr412 : zfm I J410 y := zfm.tr fr374 fr412; have hw15 : ¬ tIsB t n9 p9 wWait = true := hw15
          refine zr_if_eq (tgt := 124) X dX8_statement_114 (by decide) (fun _ => ?_) (fun h => absurd h (by decide))
          refine zr_aload0 X dX8_statement_124 ?_
          refine zr_ldcS X 18 rfl (by decide) dX8_statement_125 ?_
          refine zr_callV1 (rm9 := zrm_X8_takeWord) X hnt zm_X8_166 (by decide) (by decide) (by decide) (Nat.le_of_ble_eq_true rfl) dX8_statement_127 ?_
          refine zg_X8_takeWord (i := 18) (p9 := p9) hP413 (tSkip_id hP375.2.2.2.1 (tSkip_id hP335.2.2.2.1 (tSkip_id hP295.2.2.2.1 (tSkip_id hP285.2.2.2.1 (tSkip_id hP.2.2.2.1 hp))))) (by decide) ?_ ?_
          · skip
            intro hw17 J443 hg444 fr445 hP446; have hM447 : zMd J443 (y + 3) S := zMd.ag hM414 hg444 (by omega); have fr445 : zfm I J443 y := zfm.tr fr412 fr445; have hw17 : tIsB t n9 p9 wTick = true := hw17; have := tIsB_lt hw17; have := tNext_le (t := t) (Nat.le_of_lt this)
            refine zr_if_eq (tgt := 159) X dX8_statement_130 (by decide) (fun h => absurd h (by decide)) (fun _ => ?_)
            refine zr_aload0 X dX8_statement_133 ?_
            refine zr_iconst (v := (1 : Int32)) X dX8_statement_134 (by decide) ?_
            refine zr_bipush (v := (99 : Int32)) X dX8_statement_135 (by decide) ?_
            refine zr_callV2 (rm9 := zrm_X8_number) X hnt zm_X8_177 (by decide) (by decide) (by decide) (Nat.le_of_ble_eq_true rfl) dX8_statement_137 ?_
            refine zg_X8_number (lo := 1) (hi := 100) (p9 := (tNext t n9 p9)) hP446 rfl (by omega) (by omega) (by rfl) ?_ ?_
            · skip
              intro J454 v453 hq455 hg456 fr457 hP458; have hM459 : zMd J454 (y + 3) S := zMd.ag hM447 hg456 (by omega); have fr457 : zfm I J454 y := zfm.tr fr445 fr457; have := pNum_gt hq455; have := tNext_le (t := t) (Nat.le_of_lt this.1); have := hP458.2.2.2.1
              refine zr_istore2 X (by decide) rfl dX8_statement_140 ?_
              refine zr_aload0 X dX8_statement_141 ?_
              refine zr_callV0 (rm9 := zrm_X8_isGood) X hnt zm_X8_121 (by decide) (by decide) (by decide) (Nat.le_of_ble_eq_true rfl) dX8_statement_142 ?_
              refine zg_X8_isGood hP458.1 ?_
              refine zr_if_eq (tgt := 156) X dX8_statement_145 (by decide) (fun h => absurd h (by decide)) (fun _ => ?_)
              refine zr_aload0 X dX8_statement_148 ?_
              refine zr_getR X zf_X8_20 rfl (by decide) (by decide) dX8_statement_149 ?_
              refine zr_iload2 X dX8_statement_152 ?_
              refine zr_callS2 (rm9 := zrm_X8_lives) X hnt zm_X8_208 (by decide) (by decide) (by decide) (Nat.le_of_ble_eq_true rfl) dX8_statement_153 ?_
              refine zp_X8_lives hM459 hW (by omega) ?_
              intro J467 hg468 hM469; have hP470 : zPq J467 y t n9 (tEnd t n9 ((tNext t n9 p9))) := zPq.row hP458 hg468; have fr471 : zfm I J467 y := zfm.row fr457 hg468; have hW472 : zWf (qTicks S v453) := zWf_ticks hW _
              refine zr_goto (tgt := 201) X dX8_statement_156 (by decide) ?_
              refine zr_aload0 X dX8_statement_201 ?_
              refine zr_bipush (v := (59 : Int32)) X dX8_statement_202 (by decide) ?_
              refine zr_callV1 (rm9 := zrm_X8_expect) X hnt zm_X8_216 (by decide) (by decide) (by decide) (Nat.le_of_ble_eq_true rfl) dX8_statement_204 ?_
              refine zg_X8_expect (p9 := (tNext t n9 ((tNext t n9 p9)))) (S := (qTicks S v453)) hP470 rfl ?_ ?_
              · skip
                intro hq474 J473 hg475 fr476 hP477; have hM478 : zMd J473 (y + 3) (qTicks S v453) := zMd.ag hM469 hg475 (by omega); have fr476 : zfm I J473 y := zfm.tr fr471 fr476
                refine zr_vret X (by decide) (by decide) dX8_statement_207 ?_
                have hB9 : pBody t n9 p9 S = (.inr ((tNext t n9 ((tNext t n9 p9))), (qTicks S v453))) := by (unfold pBody; rw [if_neg hw4, if_neg hw8, if_neg hw12, if_neg hw15, if_pos hw17]; unfold pTick; simp only [hq455] <;> rfl)
                exact k1 _ _ _ _ (by unfold pStmt; simp only [hB9]; exact hq474) fr476 hP477 rfl hM478 hW472
              · skip
                intro J479 e484 hq480 hg481 fr482 hE483; have hM485 : zMd J479 (y + 3) (qTicks S v453) := zMd.ag hM469 hg481 (by omega); have fr482 : zfm I J479 y := zfm.tr fr471 fr482
                refine zr_vret X (by decide) (by decide) dX8_statement_207 ?_
                have hB9 : pBody t n9 p9 S = (.inr ((tNext t n9 ((tNext t n9 p9))), (qTicks S v453))) := by (unfold pBody; rw [if_neg hw4, if_neg hw8, if_neg hw12, if_neg hw15, if_pos hw17]; unfold pTick; simp only [hq455] <;> rfl)
                exact k2 _ _ (by unfold pStmt; simp only [hB9]; exact hq480) fr482 hE483
            · skip
              intro J460 e465 hq461 hg462 fr463 hE464; have hM466 : zMd J460 (y + 3) S := zMd.ag hM447 hg462 (by omega); have fr463 : zfm I J460 y := zfm.tr fr445 fr463
              refine zr_istore2 X (by decide) rfl dX8_statement_140 ?_
              refine zr_aload0 X dX8_statement_141 ?_
              refine zr_callV0 (rm9 := zrm_X8_isGood) X hnt zm_X8_121 (by decide) (by decide) (by decide) (Nat.le_of_ble_eq_true rfl) dX8_statement_142 ?_
              refine zb_X8_isGood (fun z => hE464.1.2 (hE464.1.1.symm.trans z)) ?_
              refine zr_if_eq (tgt := 156) X dX8_statement_145 (by decide) (fun _ => ?_) (fun h => absurd h (by decide))
              refine zr_goto (tgt := 201) X dX8_statement_156 (by decide) ?_
              refine zr_aload0 X dX8_statement_201 ?_
              refine zr_bipush (v := (59 : Int32)) X dX8_statement_202 (by decide) ?_
              refine zr_callV1 (rm9 := zrm_X8_expect) X hnt zm_X8_216 (by decide) (by decide) (by decide) (Nat.le_of_ble_eq_true rfl) dX8_statement_204 ?_
              refine zb_X8_expect hE464 ?_
              refine zr_vret X (by decide) (by decide) dX8_statement_207 ?_
              have hB9 : pBody t n9 p9 S = (.inl e465) := by (unfold pBody; rw [if_neg hw4, if_neg hw8, if_neg hw12, if_neg hw15, if_pos hw17]; unfold pTick; simp only [hq461] <;> rfl)
              exact k2 _ _ (by unfold pStmt; simp only [hB9]) fr463 hE464
          · skip
            intro hw18 J448 hg449 fr450 hP451; have hM452 : zMd J448 (y + 3) S := zMd.ag hM414 hg449 (by omega); have fr450 : zfm I J448 y := zfm.tr fr412 fr450; have hw18 : ¬ tIsB t n9 p9 wTick = true := hw18
            refine zr_if_eq (tgt := 159) X dX8_statement_130 (by decide) (fun _ => ?_) (fun h => absurd h (by decide))
            refine zr_aload0 X dX8_statement_159 ?_
            refine zr_ldcS X 19 rfl (by decide) dX8_statement_160 ?_
            refine zr_callV1 (rm9 := zrm_X8_takeWord) X hnt zm_X8_166 (by decide) (by decide) (by decide) (Nat.le_of_ble_eq_true rfl) dX8_statement_162 ?_
            refine zg_X8_takeWord (i := 19) (p9 := p9) hP451 (tSkip_id hP413.2.2.2.1 (tSkip_id hP375.2.2.2.1 (tSkip_id hP335.2.2.2.1 (tSkip_id hP295.2.2.2.1 (tSkip_id hP285.2.2.2.1 (tSkip_id hP.2.2.2.1 hp)))))) (by decide) ?_ ?_
            · skip
              intro hw20 J486 hg487 fr488 hP489; have hM490 : zMd J486 (y + 3) S := zMd.ag hM452 hg487 (by omega); have fr488 : zfm I J486 y := zfm.tr fr450 fr488; have hw20 : tIsB t n9 p9 wKey = true := hw20; have := tIsB_lt hw20; have := tNext_le (t := t) (Nat.le_of_lt this)
              refine zr_if_eq (tgt := 194) X dX8_statement_165 (by decide) (fun h => absurd h (by decide)) (fun _ => ?_)
              refine zr_aload0 X dX8_statement_168 ?_
              refine zr_iconst (v := (0 : Int32)) X dX8_statement_169 (by decide) ?_
              refine zr_iconst (v := (2 : Int32)) X dX8_statement_170 (by decide) ?_
              refine zr_callV2 (rm9 := zrm_X8_number) X hnt zm_X8_177 (by decide) (by decide) (by decide) (Nat.le_of_ble_eq_true rfl) dX8_statement_171 ?_
              refine zg_X8_number (lo := 0) (hi := 3) (p9 := (tNext t n9 p9)) hP489 rfl (by omega) (by omega) (by rfl) ?_ ?_
              · skip
                intro J497 v496 hq498 hg499 fr500 hP501; have hM502 : zMd J497 (y + 3) S := zMd.ag hM490 hg499 (by omega); have fr500 : zfm I J497 y := zfm.tr fr488 fr500; have := pNum_gt hq498; have := tNext_le (t := t) (Nat.le_of_lt this.1); have := hP501.2.2.2.1
                refine zr_istore2 X (by decide) rfl dX8_statement_174 ?_
                refine zr_aload0 X dX8_statement_175 ?_
                refine zr_callV0 (rm9 := zrm_X8_isGood) X hnt zm_X8_121 (by decide) (by decide) (by decide) (Nat.le_of_ble_eq_true rfl) dX8_statement_176 ?_
                refine zg_X8_isGood hP501.1 ?_
                refine zr_if_eq (tgt := 191) X dX8_statement_179 (by decide) (fun h => absurd h (by decide)) (fun _ => ?_)
                refine zr_aload0 X dX8_statement_182 ?_
                refine zr_getR X zf_X8_20 rfl (by decide) (by decide) dX8_statement_183 ?_
                refine zr_iload2 X dX8_statement_186 ?_
                refine zr_callS2 (rm9 := zrm_X8_turns) X hnt zm_X8_213 (by decide) (by decide) (by decide) (Nat.le_of_ble_eq_true rfl) dX8_statement_187 ?_
                refine zq_X8_turns hM502 hW (by omega) ?_
                intro J510 hg511 hM512; have hP513 : zPq J510 y t n9 (tEnd t n9 ((tNext t n9 p9))) := zPq.row hP501 hg511; have fr514 : zfm I J510 y := zfm.row fr500 hg511; have hW515 : zWf (qKey S v496) := zWf_key hW (by omega)
                refine zr_popI X dX8_statement_190 ?_
                refine zr_goto (tgt := 201) X dX8_statement_191 (by decide) ?_
                refine zr_aload0 X dX8_statement_201 ?_
                refine zr_bipush (v := (59 : Int32)) X dX8_statement_202 (by decide) ?_
                refine zr_callV1 (rm9 := zrm_X8_expect) X hnt zm_X8_216 (by decide) (by decide) (by decide) (Nat.le_of_ble_eq_true rfl) dX8_statement_204 ?_
                refine zg_X8_expect (p9 := (tNext t n9 ((tNext t n9 p9)))) (S := (qKey S v496)) hP513 rfl ?_ ?_
                · skip
                  intro hq517 J516 hg518 fr519 hP520; have hM521 : zMd J516 (y + 3) (qKey S v496) := zMd.ag hM512 hg518 (by omega); have fr519 : zfm I J516 y := zfm.tr fr514 fr519
                  refine zr_vret X (by decide) (by decide) dX8_statement_207 ?_
                  have hB9 : pBody t n9 p9 S = (.inr ((tNext t n9 ((tNext t n9 p9))), (qKey S v496))) := by (unfold pBody; rw [if_neg hw4, if_neg hw8, if_neg hw12, if_neg hw15, if_neg hw18, if_pos hw20]; unfold pKey; simp only [hq498] <;> rfl)
                  exact k1 _ _ _ _ (by unfold pStmt; simp only [hB9]; exact hq517) fr519 hP520 rfl hM521 hW515
                · skip
                  intro J522 e527 hq523 hg524 fr525 hE526; have hM528 : zMd J522 (y + 3) (qKey S v496) := zMd.ag hM512 hg524 (by omega); have fr525 : zfm I J522 y := zfm.tr fr514 fr525
                  refine zr_vret X (by decide) (by decide) dX8_statement_207 ?_
                  have hB9 : pBody t n9 p9 S = (.inr ((tNext t n9 ((tNext t n9 p9))), (qKey S v496))) := by (unfold pBody; rw [if_neg hw4, if_neg hw8, if_neg hw12, if_neg hw15, if_neg hw18, if_pos hw20]; unfold pKey; simp only [hq498] <;> rfl)
                  exact k2 _ _ (by unfold pStmt; simp only [hB9]; exact hq523) fr525 hE526
              · skip
                intro J503 e508 hq504 hg505 fr506 hE507; have hM509 : zMd J503 (y + 3) S := zMd.ag hM490 hg505 (by omega); have fr506 : zfm I J503 y := zfm.tr fr488 fr506
                refine zr_istore2 X (by decide) rfl dX8_statement_174 ?_
                refine zr_aload0 X dX8_statement_175 ?_
                refine zr_callV0 (rm9 := zrm_X8_isGood) X hnt zm_X8_121 (by decide) (by decide) (by decide) (Nat.le_of_ble_eq_true rfl) dX8_statement_176 ?_
                refine zb_X8_isGood (fun z => hE507.1.2 (hE507.1.1.symm.trans z)) ?_
                refine zr_if_eq (tgt := 191) X dX8_statement_179 (by decide) (fun _ => ?_) (fun h => absurd h (by decide))
                refine zr_goto (tgt := 201) X dX8_statement_191 (by decide) ?_
                refine zr_aload0 X dX8_statement_201 ?_
                refine zr_bipush (v := (59 : Int32)) X dX8_statement_202 (by decide) ?_
                refine zr_callV1 (rm9 := zrm_X8_expect) X hnt zm_X8_216 (by decide) (by decide) (by decide) (Nat.le_of_ble_eq_true rfl) dX8_statement_204 ?_
                refine zb_X8_expect hE507 ?_
                refine zr_vret X (by decide) (by decide) dX8_statement_207 ?_
                have hB9 : pBody t n9 p9 S = (.inl e508) := by (unfold pBody; rw [if_neg hw4, if_neg hw8, if_neg hw12, if_neg hw15, if_neg hw18, if_pos hw20]; unfold pKey; simp only [hq504] <;> rfl)
                exact k2 _ _ (by unfold pStmt; simp only [hB9]) fr506 hE507
            · skip
              intro hw21 J491 hg492 fr493 hP494; have hM495 : zMd J491 (y + 3) S := zMd.ag hM452 hg492 (by omega); have fr493 : zfm I J491 y := zfm.tr fr450 fr493; have hw21 : ¬ tIsB t n9 p9 wKey = true := hw21
              refine zr_if_eq (tgt := 194) X dX8_statement_165 (by decide) (fun _ => ?_) (fun h => absurd h (by decide))
              refine zr_aload0 X dX8_statement_194 ?_
              refine zr_bipush (v := (-2 : Int32)) X dX8_statement_195 (by decide) ?_
              refine zr_iload1 X dX8_statement_197 ?_
              refine zr_callV2 (rm9 := zrm_X8_report) X hnt zm_X8_138 (by decide) (by decide) (by decide) (Nat.le_of_ble_eq_true rfl) dX8_statement_198 ?_
              refine zg_X8_report hP494.1 ?_; have hE529 : zEq (zput (zput J491 y 5 (-2 : Int32)) y 6 (nI p9)) y ((-2 : Int32), p9) := zEq.mk (by decide); have fr530 : zfm I (zput (zput J491 y 5 (-2 : Int32)) y 6 (nI p9)) y := zfm.put (zfm.put fr493 (by decide)) (by decide)
              refine zr_aload0 X dX8_statement_201 ?_
              refine zr_bipush (v := (59 : Int32)) X dX8_statement_202 (by decide) ?_
              refine zr_callV1 (rm9 := zrm_X8_expect) X hnt zm_X8_216 (by decide) (by decide) (by decide) (Nat.le_of_ble_eq_true rfl) dX8_statement_204 ?_
              refine zb_X8_expect hE529 ?_
              refine zr_vret X (by decide) (by decide) dX8_statement_207 ?_
              have hB9 : pBody t n9 p9 S = (.inl ((-2 : Int32), p9)) := by (unfold pBody; rw [if_neg hw4, if_neg hw8, if_neg hw12, if_neg hw15, if_neg hw18, if_neg hw21])
              exact k2 _ _ (by unfold pStmt; simp only [hB9]) fr530 hE529
