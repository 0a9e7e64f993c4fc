/-! ===== what is told of a row ===== -/
section ZSW
variable {p : Program} {l : Launch} {e : Env} {R : Room} {s : State} {m : MethodId} {args : Array Value} {below : List Frame} {meth : Method} {c : Code} {cells slots : Nat} {Q : State → Prop}
variable {cc : ByteArray} {pc nL : Nat} {D : va_G} {b0 : Nat} {tA : Nat → ClassId} {sa sv : Nat → Nat} {K : zKt} {own : String} {ret : Option FieldType} {lv : List (Option AV)} {st : List AV} {I : zI}
theorem zr_tblIn (X : zX p l e R s m args below meth c own cc nL ret D b0 tA sa sv) {dflt lo hi : Int} {offs : Array Int} {len : Nat} {x : Int32} {off : Int} {tgt : Nat} (hd : decode cc pc = .ok (.tableswitch dflt lo hi offs, len)) (h1 : ¬ x.toInt < lo) (h2 : ¬ hi < x.toInt) (ho : offs[(x.toInt - lo).toNat]? = some off) (ht : (pc : Int) + off = (tgt : Int))
    (k : zG p l e R s m args below meth c nL D b0 tA sa cells slots Q K tgt lv st I) : zG p l e R s m args below meth c nL D b0 tA sa cells slots Q K pc lv (vi x :: st) I := by
  intro hi9 hs hl ls hls H locs hP hS
  exact lv_tableIn X.1 X.2.1 hd h1 h2 ho ht (k hi9 hs.2 hl ls hls H locs hP hS)
theorem zr_tblOut (X : zX p l e R s m args below meth c own cc nL ret D b0 tA sa sv) {dflt lo hi : Int} {offs : Array Int} {len : Nat} {x : Int32} {tgt : Nat} (hd : decode cc pc = .ok (.tableswitch dflt lo hi offs, len)) (h : x.toInt < lo ∨ hi < x.toInt) (ht : (pc : Int) + dflt = (tgt : Int))
    (k : zG p l e R s m args below meth c nL D b0 tA sa cells slots Q K tgt lv st I) : zG p l e R s m args below meth c nL D b0 tA sa cells slots Q K pc lv (vi x :: st) I := by
  intro hi9 hs hl ls hls H locs hP hS
  exact lv_tableOut X.1 X.2.1 hd h ht (k hi9 hs.2 hl ls hls H locs hP hS)
end ZSW
/-! what is told of a row -/
abbrev qSv (m : Int32) (s : Nat) : Prop := m = 2 ∨ m = nI s
def qInner (S : zS) : Nat := nsum (fun g => (sL S g 1).length) 6
def qPeople (S : zS) : Nat := nsum (fun g => (sL S g 0).length + (sL S g 1).length) 6
def qOpenN (S : zS) : Nat := nsum (fun g => if sG S g 2 = 0 then 0 else 1) 6
def qListed (S : zS) : Nat := nsum (fun c => if sC S c 2 = 1 then 1 else 0) 12
def qUns (S : zS) (g : Nat) : Nat := (if qSv (sG S g 0) 0 then 0 else (sL S g 0).length) + (if qSv (sG S g 0) 1 then 0 else (sL S g 1).length)
def qUnserved (S : zS) : Nat := nsum (qUns S) 6
def qLen (S : zS) (g : Nat) : Nat := (sL S g 0).length + (sL S g 1).length
def qAhead (S : zS) (g : Nat) : Nat := nsum (fun o => if qLen S g < qLen S o ∨ (qLen S o = qLen S g ∧ o < g) then 1 else 0) (zng S)
/-- where a card stands: 20 times the gate, 10 times the side, the place -/
def qPos (S : zS) (c : Nat) : Option Nat := (List.range 120).find? (fun i => decide ((sL S (i / 20) (i / 10 % 2))[i % 10]? = some (c + 1)))
theorem qPos_some {S : zS} {c i : Nat} (h : qPos S c = some i) : zAt S c (i / 20) (i / 10 % 2) (i % 10) := by
  have h1 := List.find?_some h
  have h2 := List.mem_range.mp (List.mem_of_find?_eq_some h)
  exact ⟨by omega, by omega, of_decide_eq_true h1⟩
theorem qPos_none {S : zS} {c : Nat} (hW : zWf S) (h : qPos S c = none) (g s p : Nat) : ¬ zAt S c g s p := by
  intro ⟨z1, z2, z3⟩
  have hp : p < 10 := by
    rcases Nat.lt_or_ge p (sL S g s).length with q | q
    · have := hW.len g s; omega
    · rw [List.getElem?_eq_none q] at z3; cases z3
  have := List.find?_eq_none.mp h (20 * g + 10 * s + p) (List.mem_range.mpr (by omega))
  rw [show (20 * g + 10 * s + p) / 20 = g by omega, show (20 * g + 10 * s + p) / 10 % 2 = s by omega, show (20 * g + 10 * s + p) % 10 = p by omega] at this
  exact this (decide_eq_true z3)
theorem qPos_at {S : zS} {c g s p : Nat} (hW : zWf S) (h : zAt S c g s p) : qPos S c = some (20 * g + 10 * s + p) ∧ p < 10 := by
  have hp : p < 10 := by
    rcases Nat.lt_or_ge p (sL S g s).length with q | q
    · have := hW.len g s; omega
    · have := h.2.2; rw [List.getElem?_eq_none q] at this; cases this
  refine ⟨?_, hp⟩
  cases e : qPos S c with
  | none => exact absurd h (qPos_none hW e g s p)
  | some i =>
    obtain ⟨r1, r2, r3⟩ := hW.uniq _ _ _ _ _ _ _ (qPos_some e) h
    congr 1
    omega
def qState (S : zS) : Nat → Int32
  | 0 => sX S 4 | 1 => sX S 5 | 2 => sX S 0 | 3 => sX S 1 | 4 => sX S 2 | 5 => sX S 3 | 6 => nI (qPeople S) | 7 => if zPanB S = true then 1 else 0 | 8 => zkeys S
  | 9 => sX S 9 | 10 => sX S 10 | 11 => sX S 11 | 12 => sX S 12 | 13 => sX S 13 | 14 => sX S 14 | _ => nI (qOpenN S)
def qGate (S : zS) (g : Nat) : Nat → Int32
  | 0 => sG S g 0 | 1 => sG S g 1 | 2 => sG S g 2 - 1 | 3 => sG S g 3 | 4 => nI (sL S g 0).length | 5 => nI (sL S g 1).length | 6 => sG S g 4 | 7 => sG S g 5 | _ => sG S g 6 - 1
def qWh (S : zS) (c k : Nat) : Int32 := match qPos S c with
  | none => -1
  | some i => if k = 3 then nI (i / 20) else if k = 4 then nI (i / 10 % 2) else nI (i % 10)
def qCard (S : zS) (c : Nat) : Nat → Int32
  | 0 => sC S c 0 | 1 => sC S c 1 | 2 => sC S c 2 | 6 => sC S c 3 | k => qWh S c k
theorem qWh_at {S : zS} {c g s p k : Nat} (hW : zWf S) (h : zAt S c g s p) : qWh S c k = if k = 3 then nI g else if k = 4 then nI s else nI p := by
  obtain ⟨h1, h2⟩ := qPos_at hW h
  have := h.1; have := h.2.1
  rw [qWh, h1]
  show (if k = 3 then nI ((20 * g + 10 * s + p) / 20) else if k = 4 then nI ((20 * g + 10 * s + p) / 10 % 2) else nI ((20 * g + 10 * s + p) % 10)) = _
  rw [show (20 * g + 10 * s + p) / 20 = g by omega, show (20 * g + 10 * s + p) / 10 % 2 = s by omega, show (20 * g + 10 * s + p) % 10 = p by omega]
theorem qWh_not {S : zS} {c k : Nat} (h : ∀ g s p, ¬ zAt S c g s p) : qWh S c k = -1 := by
  rw [qWh]
  cases e : qPos S c with
  | none => rfl
  | some i => exact absurd (qPos_some e) (h _ _ _)
theorem qWh_3 {S : zS} {c : Nat} (hW : zWf S) : qWh S c 3 = -1 ↔ ∀ g s p, ¬ zAt S c g s p := by
  constructor
  · intro h g s p z
    rw [qWh_at hW z, if_pos rfl] at h
    exact absurd h (zm1 (by have := z.1; omega))
  · exact fun h => qWh_not h
abbrev zrm_X5_peopleInInnerLines : Room := { frames := 0, cells := 0, slots := 0, locals := 0 }
set_option maxRecDepth 20000 in
theorem zl_X5_peopleInInnerLines {l : Launch} {D : va_G} {b0 : Nat} {tA : Nat → ClassId} {sa sv : Nat → Nat} {K : zKt} {I : zI} {Qp : zI → Option AV → Prop} {Xp : String → zI → Prop} {p : Program} {e : Env} {s : State} {m : MethodId} {args : Array Value} {below : List Frame} {meth : Method} {c : Code} {a : Nat} {S : zS}
    (X : zX p l e zrm_X5_peopleInInnerLines s m args below meth c RX5 cX5_peopleInInnerLines 6 (some .int) D b0 tA sa sv) (hnt : ∀ x ∈ c.exceptionTable.toList, False) (hR : zRw I a S) (hW : zWf S) (k1 : Qp I (some (vi (nI (nsum (fun g => (sL S g 1).length) 6))))) :
    ∀ (n : Nat) (j v : Nat), j ≤ 6 → v = nsum (fun g => (sL S g 1).length) j → 6 - j < n → zG p l e zrm_X5_peopleInInnerLines s m args below meth c 6 D b0 tA sa 0 0 (zQ below D b0 tA sa K args s zrm_X5_peopleInInnerLines Qp Xp) K 13 [some (vr (a) 5), some (vi ((nI v))), some (vr (a + 1) 12), some (vi ((6 : Int32))), some (vi ((nI j))), none] [] I := by
  intro n
  induction n with
  | zero => intro j v i1 i2 i3; exact absurd i3 (Nat.not_lt_zero _)
  | succ n ih =>
    intro j v i1 i2 i3
    have hg6 := hW.ng.1
    have hc12 := hW.nc.1
    have hb9 := nsum_le (f := fun g => (sL S g 1).length) (b := 10) (fun i => hW.len i 1) j
    have hl91 := hW.len j 1
    refine zr_iload4 X dX5_peopleInInnerLines_13 ?_
    refine zr_iload3 X dX5_peopleInInnerLines_15 ?_
    refine zr_nicmp_ge X (j) (6) (tgt := 42) (by omega) (by omega) dX5_peopleInInnerLines_16 (by decide) (fun h1 => ?_) (fun h1 => ?_)
    · skip
      refine zr_iload1 X dX5_peopleInInnerLines_42 ?_
      refine zr_iret X (by decide) (by decide) dX5_peopleInInnerLines_43 ?_
      have hj : j = 6 := by omega
      subst hj
      rw [i2]; exact k1
    · skip
      refine zr_aload2 X dX5_peopleInInnerLines_19 ?_
      refine zr_iload4 X dX5_peopleInInnerLines_20 ?_
      refine zr_aaldN X rfl rfl (by decide) (show _ < 6 from (by first | assumption | omega)) dX5_peopleInInnerLines_22 ?_
      refine zr_astore5 X (by decide) rfl dX5_peopleInInnerLines_23 ?_
      refine zr_iload1 X dX5_peopleInInnerLines_25 ?_
      refine zr_aload5 X dX5_peopleInInnerLines_26 ?_
      refine zr_getR X zf_X5_131 rfl (by decide) (by decide) dX5_peopleInInnerLines_28 ?_
      refine zr_getI X zf_X5_144 rfl dX5_peopleInInnerLines_31 ?_
      refine zr_eq (x2 := (nI ((sL S j 1).length))) ((hR.2.2.1 j (by omega)).2.2.1) ?_
      refine zr_iadd X dX5_peopleInInnerLines_34 ?_
      refine zr_eq (x2 := (nI (v + ((sL S j 1).length)))) (nI_add (v) (((sL S j 1).length))) ?_
      refine zr_istore1 X (by decide) rfl dX5_peopleInInnerLines_35 ?_
      refine zr_iinc4 (v := (nI (j + 1))) X (show nI (j) + Int32.ofInt 1 = nI (j + 1) from nI_1 (j)) (by decide) rfl dX5_peopleInInnerLines_36 ?_
      refine zr_goto (tgt := 13) X dX5_peopleInInnerLines_39 (by decide) ?_
      refine zr_forget (lv2 := [some (vr (a) 5), some (vi ((nI (v + ((sL S j 1).length))))), some (vr (a + 1) 12), some (vi ((6 : Int32))), some (vi ((nI (j + 1)))), none]) (fun j9 v9 h9 => by rcases j9 with _ | _ | _ | _ | _ | _ | _ | j9 <;> first | exact h9 | (simp at h9)) ?_
      exact ih (j + 1) _ (by omega) (by first | (rw [nsum, i2]; done) | (rw [nsum, ← i2]; first | rfl | (simp [*]; done) | (skip))) (by omega)
set_option maxRecDepth 20000 in
theorem zp_X5_peopleInInnerLines {l : Launch} {D : va_G} {b0 : Nat} {tA : Nat → ClassId} {sa sv : Nat → Nat} {K : zKt} {I : zI} {Qp : zI → Option AV → Prop} {Xp : String → zI → Prop} {a : Nat} {S : zS}
    (hR : zRw I a S) (hW : zWf S) (k1 : Qp I (some (vi (nI (nsum (fun g => (sL S g 1).length) 6))))) :
    zC l D b0 tA sa sv K yX5_peopleInInnerLines (.code yX5_peopleInInnerLines cX5_peopleInInnerLines 6 (some .int)) zrm_X5_peopleInInnerLines [vr (a) 5] I Qp Xp := by
  have hg6 := hW.ng.1
  have hc12 := hW.nc.1
  refine zC_of (by decide +kernel) (Nat.le_of_ble_eq_true rfl) ?_
  intro p e s m args below meth c X hnt
  have X : zX p l e zrm_X5_peopleInInnerLines s m args below meth c RX5 cX5_peopleInInnerLines 6 (some .int) D b0 tA sa sv := X
  refine zr_lv (lv2 := [some (vr (a) 5), none, none, none, none, none]) rfl ?_
  refine zr_iconst (v := (0 : Int32)) X dX5_peopleInInnerLines_0 (by decide) ?_
  refine zr_istore1 X (by decide) rfl dX5_peopleInInnerLines_1 ?_
  refine zr_aload0 X dX5_peopleInInnerLines_2 ?_
  refine zr_getR X zf_X5_11 rfl (by decide) (by decide) dX5_peopleInInnerLines_3 ?_
  refine zr_astore2 X (by decide) rfl dX5_peopleInInnerLines_6 ?_
  refine zr_aload2 X dX5_peopleInInnerLines_7 ?_
  refine zr_alen (v := 6) X (Or.inr (Or.inl rfl)) rfl dX5_peopleInInnerLines_8 ?_
  refine zr_istore3 X (by decide) rfl dX5_peopleInInnerLines_9 ?_
  refine zr_iconst (v := (0 : Int32)) X dX5_peopleInInnerLines_10 (by decide) ?_
  refine zr_istore4 X (by decide) rfl dX5_peopleInInnerLines_11 ?_
  exact zl_X5_peopleInInnerLines X hnt hR hW k1 7 0 0 (by omega) rfl (by omega)
abbrev zrm_X5_openGates : Room := { frames := 1, cells := 0, slots := 0, locals := 20 }
set_option maxRecDepth 20000 in
theorem zl_X5_openGates {l : Launch} {D : va_G} {b0 : Nat} {tA : Nat → ClassId} {sa sv : Nat → Nat} {K : zKt} {I : zI} {Qp : zI → Option AV → Prop} {Xp : String → zI → Prop} {p : Program} {e : Env} {s : State} {m : MethodId} {args : Array Value} {below : List Frame} {meth : Method} {c : Code} {a : Nat} {S : zS}
    (X : zX p l e zrm_X5_openGates s m args below meth c RX5 cX5_openGates 6 (some .int) D b0 tA sa sv) (hnt : ∀ x ∈ c.exceptionTable.toList, False) (hR : zRw I a S) (hW : zWf S) (k1 : Qp I (some (vi (nI (nsum (fun g => if sG S g 2 = 0 then 0 else 1) 6))))) :
    ∀ (n : Nat) (j v : Nat), j ≤ 6 → v = nsum (fun g => if sG S g 2 = 0 then 0 else 1) j → 6 - j < n → zG p l e zrm_X5_openGates s m args below meth c 6 D b0 tA sa 0 0 (zQ below D b0 tA sa K args s zrm_X5_openGates Qp Xp) K 13 [some (vr (a) 5), some (vi ((nI v))), some (vr (a + 1) 12), some (vi ((6 : Int32))), some (vi ((nI j))), none] [] I := by
  intro n
  induction n with
  | zero => intro j v i1 i2 i3; exact absurd i3 (Nat.not_lt_zero _)
  | succ n ih =>
    intro j v i1 i2 i3
    have hg6 := hW.ng.1
    have hc12 := hW.nc.1
    have hb9 := nsum_le (f := fun g => if sG S g 2 = 0 then 0 else 1) (b := 1) (fun i => by split <;> omega) j
    refine zr_iload4 X dX5_openGates_13 ?_
    refine zr_iload3 X dX5_openGates_15 ?_
    refine zr_nicmp_ge X (j) (6) (tgt := 42) (by omega) (by omega) dX5_openGates_16 (by decide) (fun h1 => ?_) (fun h1 => ?_)
    · skip
      refine zr_iload1 X dX5_openGates_42 ?_
      refine zr_iret X (by decide) (by decide) dX5_openGates_43 ?_
      have hj : j = 6 := by omega
      subst hj
      rw [i2]; exact k1
    · skip
      refine zr_aload2 X dX5_openGates_19 ?_
      refine zr_iload4 X dX5_openGates_20 ?_
      refine zr_aaldN X rfl rfl (by decide) (show _ < 6 from (by first | assumption | omega)) dX5_openGates_22 ?_
      refine zr_astore5 X (by decide) rfl dX5_openGates_23 ?_
      refine zr_aload5 X dX5_openGates_25 ?_
      refine zr_callV0 (rm9 := zrm_X1_isOpen) X hnt zm_X5_147 (by decide) (by decide) (by decide) (Nat.le_of_ble_eq_true rfl) dX5_openGates_27 ?_
      refine zn_X1_isOpen hR (by omega) (hW.pad _) ?_ ?_
      · skip
        intro ho2
        refine zr_if_eq (tgt := 36) X dX5_openGates_30 (by decide) (fun h => absurd h (by decide)) (fun _ => ?_)
        refine zr_iinc1 (v := (nI (v + 1))) X (show nI (v) + Int32.ofInt 1 = nI (v + 1) from nI_1 (v)) (by decide) rfl dX5_openGates_33 ?_
        refine zr_iinc4 (v := (nI (j + 1))) X (show nI (j) + Int32.ofInt 1 = nI (j + 1) from nI_1 (j)) (by decide) rfl dX5_openGates_36 ?_
        refine zr_goto (tgt := 13) X dX5_openGates_39 (by decide) ?_
        refine zr_forget (lv2 := [some (vr (a) 5), some (vi ((nI (v + 1)))), some (vr (a + 1) 12), some (vi ((6 : Int32))), some (vi ((nI (j + 1)))), none]) (fun j9 v9 h9 => by rcases j9 with _ | _ | _ | _ | _ | _ | _ | j9 <;> first | exact h9 | (simp at h9)) ?_
        exact ih (j + 1) _ (by omega) (by first | (rw [nsum, i2]; done) | (rw [nsum, ← i2]; first | rfl | (simp [*]; done) | (skip))) (by omega)
      · skip
        intro ho2
        refine zr_if_eq (tgt := 36) X dX5_openGates_30 (by decide) (fun _ => ?_) (fun h => absurd h (by decide))
        refine zr_iinc4 (v := (nI (j + 1))) X (show nI (j) + Int32.ofInt 1 = nI (j + 1) from nI_1 (j)) (by decide) rfl dX5_openGates_36 ?_
        refine zr_goto (tgt := 13) X dX5_openGates_39 (by decide) ?_
        refine zr_forget (lv2 := [some (vr (a) 5), some (vi ((nI v))), some (vr (a + 1) 12), some (vi ((6 : Int32))), some (vi ((nI (j + 1)))), none]) (fun j9 v9 h9 => by rcases j9 with _ | _ | _ | _ | _ | _ | _ | j9 <;> first | exact h9 | (simp at h9)) ?_
        exact ih (j + 1) _ (by omega) (by first | (rw [nsum, i2]; done) | (rw [nsum, ← i2]; first | rfl | (simp [*]; done) | (skip))) (by omega)
set_option maxRecDepth 20000 in
theorem zp_X5_openGates {l : Launch} {D : va_G} {b0 : Nat} {tA : Nat → ClassId} {sa sv : Nat → Nat} {K : zKt} {I : zI} {Qp : zI → Option AV → Prop} {Xp : String → zI → Prop} {a : Nat} {S : zS}
    (hR : zRw I a S) (hW : zWf S) (k1 : Qp I (some (vi (nI (nsum (fun g => if sG S g 2 = 0 then 0 else 1) 6))))) :
    zC l D b0 tA sa sv K yX5_openGates (.code yX5_openGates cX5_openGates 6 (some .int)) zrm_X5_openGates [vr (a) 5] I Qp Xp := by
  have hg6 := hW.ng.1
  have hc12 := hW.nc.1
  refine zC_of (by decide +kernel) (Nat.le_of_ble_eq_true rfl) ?_
  intro p e s m args below meth c X hnt
  have X : zX p l e zrm_X5_openGates s m args below meth c RX5 cX5_openGates 6 (some .int) D b0 tA sa sv := X
  refine zr_lv (lv2 := [some (vr (a) 5), none, none, none, none, none]) rfl ?_
  refine zr_iconst (v := (0 : Int32)) X dX5_openGates_0 (by decide) ?_
  refine zr_istore1 X (by decide) rfl dX5_openGates_1 ?_
  refine zr_aload0 X dX5_openGates_2 ?_
  refine zr_getR X zf_X5_11 rfl (by decide) (by decide) dX5_openGates_3 ?_
  refine zr_astore2 X (by decide) rfl dX5_openGates_6 ?_
  refine zr_aload2 X dX5_openGates_7 ?_
  refine zr_alen (v := 6) X (Or.inr (Or.inl rfl)) rfl dX5_openGates_8 ?_
  refine zr_istore3 X (by decide) rfl dX5_openGates_9 ?_
  refine zr_iconst (v := (0 : Int32)) X dX5_openGates_10 (by decide) ?_
  refine zr_istore4 X (by decide) rfl dX5_openGates_11 ?_
  exact zl_X5_openGates X hnt hR hW k1 7 0 0 (by omega) rfl (by omega)
abbrev zrm_X5_listedCards : Room := { frames := 0, cells := 0, slots := 0, locals := 0 }
set_option maxRecDepth 20000 in
theorem zl_X5_listedCards {l : Launch} {D : va_G} {b0 : Nat} {tA : Nat → ClassId} {sa sv : Nat → Nat} {K : zKt} {I : zI} {Qp : zI → Option AV → Prop} {Xp : String → zI → Prop} {p : Program} {e : Env} {s : State} {m : MethodId} {args : Array Value} {below : List Frame} {meth : Method} {c : Code} {a : Nat} {S : zS}
    (X : zX p l e zrm_X5_listedCards s m args below meth c RX5 cX5_listedCards 6 (some .int) D b0 tA sa sv) (hnt : ∀ x ∈ c.exceptionTable.toList, False) (hR : zRw I a S) (hW : zWf S) (k1 : Qp I (some (vi (nI (nsum (fun c => if sC S c 2 = 1 then 1 else 0) 12))))) :
    ∀ (n : Nat) (j v : Nat), j ≤ 12 → v = nsum (fun c => if sC S c 2 = 1 then 1 else 0) j → 12 - j < n → zG p l e zrm_X5_listedCards s m args below meth c 6 D b0 tA sa 0 0 (zQ below D b0 tA sa K args s zrm_X5_listedCards Qp Xp) K 13 [some (vr (a) 5), some (vi ((nI v))), some (vr (a + 2) 11), some (vi ((12 : Int32))), some (vi ((nI j))), none] [] I := by
  intro n
  induction n with
  | zero => intro j v i1 i2 i3; exact absurd i3 (Nat.not_lt_zero _)
  | succ n ih =>
    intro j v i1 i2 i3
    have hg6 := hW.ng.1
    have hc12 := hW.nc.1
    have hb9 := nsum_le (f := fun c => if sC S c 2 = 1 then 1 else 0) (b := 1) (fun i => by split <;> omega) j
    refine zr_iload4 X dX5_listedCards_13 ?_
    refine zr_iload3 X dX5_listedCards_15 ?_
    refine zr_nicmp_ge X (j) (12) (tgt := 42) (by omega) (by omega) dX5_listedCards_16 (by decide) (fun h1 => ?_) (fun h1 => ?_)
    · skip
      refine zr_iload1 X dX5_listedCards_42 ?_
      refine zr_iret X (by decide) (by decide) dX5_listedCards_43 ?_
      have hj : j = 12 := by omega
      subst hj
      rw [i2]; exact k1
    · skip
      refine zr_aload2 X dX5_listedCards_19 ?_
      refine zr_iload4 X dX5_listedCards_20 ?_
      refine zr_aaldN X rfl rfl (by decide) (show _ < 12 from (by first | assumption | omega)) dX5_listedCards_22 ?_
      refine zr_astore5 X (by decide) rfl dX5_listedCards_23 ?_
      refine zr_aload5 X dX5_listedCards_25 ?_
      refine zr_getZ X zf_X5_106 rfl rfl (by decide) dX5_listedCards_27 (fun hz2 => ?_)
      refine zr_eq (x2 := (sC S j 2)) ((hR.2.2.2 j (by omega)).2.2.2.1) ?_
      have hz2 : (sC S j 2) = 0 ∨ (sC S j 2) = 1 := hz2.imp (fun h => Eq.trans (Eq.symm ((hR.2.2.2 j (by omega)).2.2.2.1)) h) (fun h => Eq.trans (Eq.symm ((hR.2.2.2 j (by omega)).2.2.2.1)) h)
      refine zr_if_eq (tgt := 36) X dX5_listedCards_30 (by decide) (fun h3 => ?_) (fun h3 => ?_)
      · skip
        refine zr_iinc4 (v := (nI (j + 1))) X (show nI (j) + Int32.ofInt 1 = nI (j + 1) from nI_1 (j)) (by decide) rfl dX5_listedCards_36 ?_
        refine zr_goto (tgt := 13) X dX5_listedCards_39 (by decide) ?_
        refine zr_forget (lv2 := [some (vr (a) 5), some (vi ((nI v))), some (vr (a + 2) 11), some (vi ((12 : Int32))), some (vi ((nI (j + 1)))), none]) (fun j9 v9 h9 => by rcases j9 with _ | _ | _ | _ | _ | _ | _ | j9 <;> first | exact h9 | (simp at h9)) ?_
        exact ih (j + 1) _ (by omega) (by first | (rw [nsum, i2]; done) | (rw [nsum, ← i2]; first | rfl | (simp [*]; done) | (rename_i hz9; rcases hW.bits j with ⟨_, b9 | b9⟩ <;> simp_all))) (by omega)
      · skip
        refine zr_iinc1 (v := (nI (v + 1))) X (show nI (v) + Int32.ofInt 1 = nI (v + 1) from nI_1 (v)) (by decide) rfl dX5_listedCards_33 ?_
        refine zr_iinc4 (v := (nI (j + 1))) X (show nI (j) + Int32.ofInt 1 = nI (j + 1) from nI_1 (j)) (by decide) rfl dX5_listedCards_36 ?_
        refine zr_goto (tgt := 13) X dX5_listedCards_39 (by decide) ?_
        refine zr_forget (lv2 := [some (vr (a) 5), some (vi ((nI (v + 1)))), some (vr (a + 2) 11), some (vi ((12 : Int32))), some (vi ((nI (j + 1)))), none]) (fun j9 v9 h9 => by rcases j9 with _ | _ | _ | _ | _ | _ | _ | j9 <;> first | exact h9 | (simp at h9)) ?_
        exact ih (j + 1) _ (by omega) (by first | (rw [nsum, i2]; done) | (rw [nsum, ← i2]; first | rfl | (simp [*]; done) | (rename_i hz9; rcases hW.bits j with ⟨_, b9 | b9⟩ <;> simp_all))) (by omega)
set_option maxRecDepth 20000 in
theorem zp_X5_listedCards {l : Launch} {D : va_G} {b0 : Nat} {tA : Nat → ClassId} {sa sv : Nat → Nat} {K : zKt} {I : zI} {Qp : zI → Option AV → Prop} {Xp : String → zI → Prop} {a : Nat} {S : zS}
    (hR : zRw I a S) (hW : zWf S) (k1 : Qp I (some (vi (nI (nsum (fun c => if sC S c 2 = 1 then 1 else 0) 12))))) :
    zC l D b0 tA sa sv K yX5_listedCards (.code yX5_listedCards cX5_listedCards 6 (some .int)) zrm_X5_listedCards [vr (a) 5] I Qp Xp := by
  have hg6 := hW.ng.1
  have hc12 := hW.nc.1
  refine zC_of (by decide +kernel) (Nat.le_of_ble_eq_true rfl) ?_
  intro p e s m args below meth c X hnt
  have X : zX p l e zrm_X5_listedCards s m args below meth c RX5 cX5_listedCards 6 (some .int) D b0 tA sa sv := X
  refine zr_lv (lv2 := [some (vr (a) 5), none, none, none, none, none]) rfl ?_
  refine zr_iconst (v := (0 : Int32)) X dX5_listedCards_0 (by decide) ?_
  refine zr_istore1 X (by decide) rfl dX5_listedCards_1 ?_
  refine zr_aload0 X dX5_listedCards_2 ?_
  refine zr_getR X zf_X5_19 rfl (by decide) (by decide) dX5_listedCards_3 ?_
  refine zr_astore2 X (by decide) rfl dX5_listedCards_6 ?_
  refine zr_aload2 X dX5_listedCards_7 ?_
  refine zr_alen (v := 12) X (Or.inr (Or.inl rfl)) rfl dX5_listedCards_8 ?_
  refine zr_istore3 X (by decide) rfl dX5_listedCards_9 ?_
  refine zr_iconst (v := (0 : Int32)) X dX5_listedCards_10 (by decide) ?_
  refine zr_istore4 X (by decide) rfl dX5_listedCards_11 ?_
  exact zl_X5_listedCards X hnt hR hW k1 13 0 0 (by omega) rfl (by omega)
theorem zn_X1_peopleNotServedIn {l : Launch} {D : va_G} {b0 : Nat} {tA : Nat → ClassId} {sa sv : Nat → Nat} {K : zKt} {I : zI} {Qp : zI → Option AV → Prop} {Xp : String → zI → Prop} {a g : Nat} {S : zS} {m : Int32} (hR : zRw I a S) (hg : g < 6) (hl : ∀ s, (sL S g s).length ≤ 10) (k1 : Qp I (some (vi (nI ((if qSv m 0 then 0 else (sL S g 0).length) + (if qSv m 1 then 0 else (sL S g 1).length)))))) :
    zC l D b0 tA sa sv K yX1_peopleNotServedIn (.code yX1_peopleNotServedIn cX1_peopleNotServedIn 3 (some .int)) zrm_X1_peopleNotServedIn [vr (a + 1 + 2 + 5 * g) 1, vi (m)] I Qp Xp := by
  obtain ⟨-, l0, l1⟩ := hR.2.2.1 g hg
  have b0 := hl 0
  have b1 := hl 1
  have e0 : qSv m 0 ↔ (m = 2 ∨ ((0 : Int32) = 1 ∧ m = 1) ∨ (¬ (0 : Int32) = 1 ∧ m = 0)) := by
    show (m = 2 ∨ m = 0) ↔ _
    constructor
    · rintro (h | h)
      · exact Or.inl h
      · exact Or.inr (Or.inr ⟨by decide, h⟩)
    · rintro (h | ⟨h, -⟩ | ⟨-, h⟩)
      · exact Or.inl h
      · exact absurd h (by decide)
      · exact Or.inr h
  have e1 : qSv m 1 ↔ (m = 2 ∨ ((1 : Int32) = 1 ∧ m = 1) ∨ (¬ (1 : Int32) = 1 ∧ m = 0)) := by
    show (m = 2 ∨ m = 1) ↔ _
    constructor
    · rintro (h | h)
      · exact Or.inl h
      · exact Or.inr (Or.inl ⟨rfl, h⟩)
    · rintro (h | ⟨-, h⟩ | ⟨h, -⟩)
      · exact Or.inl h
      · exact Or.inr h
      · exact absurd rfl h
  rw [show nI ((if qSv m 0 then 0 else (sL S g 0).length) + (if qSv m 1 then 0 else (sL S g 1).length)) = nI (if qSv m 0 then 0 else (sL S g 0).length) + nI (if qSv m 1 then 0 else (sL S g 1).length) from (nI_add _ _).symm] at k1
  refine zp_X1_peopleNotServedIn (fun h1 h2 => ?_) (fun h1 h2 => ?_) (fun h1 h2 => ?_) (fun h1 h2 => ?_)
  · rw [if_pos (e0.mpr h1), if_pos (e1.mpr h2)] at k1; exact k1
  · rw [if_pos (e0.mpr h1), if_neg (fun z => h2 (e1.mp z))] at k1; rw [l1.1]; exact k1
  · rw [if_neg (fun z => h1 (e0.mp z)), if_pos (e1.mpr h2)] at k1
    rw [l0.1, show (0 : Int32) + nI (sL S g 0).length = nI (sL S g 0).length + nI 0 from Int32.add_comm _ _]; exact k1
  · rw [if_neg (fun z => h1 (e0.mp z)), if_neg (fun z => h2 (e1.mp z))] at k1
    rw [l0.1, l1.1, show (0 : Int32) + nI (sL S g 0).length = nI (sL S g 0).length from Int32.zero_add _]; exact k1
abbrev zrm_X5_peopleNotServed : Room := { frames := 2, cells := 0, slots := 0, locals := 43 }
set_option maxRecDepth 20000 in
theorem zl_X5_peopleNotServed {l : Launch} {D : va_G} {b0 : Nat} {tA : Nat → ClassId} {sa sv : Nat → Nat} {K : zKt} {I : zI} {Qp : zI → Option AV → Prop} {Xp : String → zI → Prop} {p : Program} {e : Env} {s : State} {m : MethodId} {args : Array Value} {below : List Frame} {meth : Method} {c : Code} {a : Nat} {S : zS}
    (X : zX p l e zrm_X5_peopleNotServed s m args below meth c RX5 cX5_peopleNotServed 6 (some .int) D b0 tA sa sv) (hnt : ∀ x ∈ c.exceptionTable.toList, False) (hR : zRw I a S) (hW : zWf S) (k1 : Qp I (some (vi (nI (nsum (qUns S) 6))))) :
    ∀ (n : Nat) (j v : Nat), j ≤ 6 → v = nsum (qUns S) j → 6 - j < n → zG p l e zrm_X5_peopleNotServed s m args below meth c 6 D b0 tA sa 0 0 (zQ below D b0 tA sa K args s zrm_X5_peopleNotServed Qp Xp) K 13 [some (vr (a) 5), some (vi ((nI v))), some (vr (a + 1) 12), some (vi ((6 : Int32))), some (vi ((nI j))), none] [] I := by
  intro n
  induction n with
  | zero => intro j v i1 i2 i3; exact absurd i3 (Nat.not_lt_zero _)
  | succ n ih =>
    intro j v i1 i2 i3
    have hg6 := hW.ng.1
    have hc12 := hW.nc.1
    have hb9 := nsum_le (f := qUns S) (b := 20) (fun i => by unfold qUns; have := hW.len i 0; have := hW.len i 1; (split <;> split <;> omega)) j
    have hq9 : qUns S j ≤ 20 := by unfold qUns; have := hW.len j 0; have := hW.len j 1; (split <;> split <;> omega)
    refine zr_iload4 X dX5_peopleNotServed_13 ?_
    refine zr_iload3 X dX5_peopleNotServed_15 ?_
    refine zr_nicmp_ge X (j) (6) (tgt := 44) (by omega) (by omega) dX5_peopleNotServed_16 (by decide) (fun h1 => ?_) (fun h1 => ?_)
    · skip
      refine zr_iload1 X dX5_peopleNotServed_44 ?_
      refine zr_iret X (by decide) (by decide) dX5_peopleNotServed_45 ?_
      have hj : j = 6 := by omega
      subst hj
      rw [i2]; exact k1
    · skip
      refine zr_aload2 X dX5_peopleNotServed_19 ?_
      refine zr_iload4 X dX5_peopleNotServed_20 ?_
      refine zr_aaldN X rfl rfl (by decide) (show _ < 6 from (by first | assumption | omega)) dX5_peopleNotServed_22 ?_
      refine zr_astore5 X (by decide) rfl dX5_peopleNotServed_23 ?_
      refine zr_iload1 X dX5_peopleNotServed_25 ?_
      refine zr_aload5 X dX5_peopleNotServed_26 ?_
      refine zr_aload5 X dX5_peopleNotServed_28 ?_
      refine zr_getI X zf_X5_75 rfl dX5_peopleNotServed_30 ?_
      refine zr_eq (x2 := (sG S j 0)) (zGt_j (j := 0) (hR.2.2.1 j (by omega)) (by decide)) ?_
      refine zr_callV1 (rm9 := zrm_X1_peopleNotServedIn) X hnt zm_X5_150 (by decide) (by decide) (by decide) (Nat.le_of_ble_eq_true rfl) dX5_peopleNotServed_33 ?_
      refine zn_X1_peopleNotServedIn hR (by omega) (hW.len _) ?_
      refine zr_iadd X dX5_peopleNotServed_36 ?_
      refine zr_eq (x2 := (nI (v + (qUns S j)))) (nI_add (v) ((qUns S j))) ?_
      refine zr_istore1 X (by decide) rfl dX5_peopleNotServed_37 ?_
      refine zr_iinc4 (v := (nI (j + 1))) X (show nI (j) + Int32.ofInt 1 = nI (j + 1) from nI_1 (j)) (by decide) rfl dX5_peopleNotServed_38 ?_
      refine zr_goto (tgt := 13) X dX5_peopleNotServed_41 (by decide) ?_
      refine zr_forget (lv2 := [some (vr (a) 5), some (vi ((nI (v + (qUns S j))))), some (vr (a + 1) 12), some (vi ((6 : Int32))), some (vi ((nI (j + 1)))), none]) (fun j9 v9 h9 => by rcases j9 with _ | _ | _ | _ | _ | _ | _ | j9 <;> first | exact h9 | (simp at h9)) ?_
      exact ih (j + 1) _ (by omega) (by first | (rw [nsum, i2]; done) | (rw [nsum, ← i2]; first | rfl | (simp [*]; done) | (skip))) (by omega)
set_option maxRecDepth 20000 in
theorem zp_X5_peopleNotServed {l : Launch} {D : va_G} {b0 : Nat} {tA : Nat → ClassId} {sa sv : Nat → Nat} {K : zKt} {I : zI} {Qp : zI → Option AV → Prop} {Xp : String → zI → Prop} {a : Nat} {S : zS}
    (hR : zRw I a S) (hW : zWf S) (k1 : Qp I (some (vi (nI (nsum (qUns S) 6))))) :
    zC l D b0 tA sa sv K yX5_peopleNotServed (.code yX5_peopleNotServed cX5_peopleNotServed 6 (some .int)) zrm_X5_peopleNotServed [vr (a) 5] I Qp Xp := by
  have hg6 := hW.ng.1
  have hc12 := hW.nc.1
  refine zC_of (by decide +kernel) (Nat.le_of_ble_eq_true rfl) ?_
  intro p e s m args below meth c X hnt
  have X : zX p l e zrm_X5_peopleNotServed s m args below meth c RX5 cX5_peopleNotServed 6 (some .int) D b0 tA sa sv := X
  refine zr_lv (lv2 := [some (vr (a) 5), none, none, none, none, none]) rfl ?_
  refine zr_iconst (v := (0 : Int32)) X dX5_peopleNotServed_0 (by decide) ?_
  refine zr_istore1 X (by decide) rfl dX5_peopleNotServed_1 ?_
  refine zr_aload0 X dX5_peopleNotServed_2 ?_
  refine zr_getR X zf_X5_11 rfl (by decide) (by decide) dX5_peopleNotServed_3 ?_
  refine zr_astore2 X (by decide) rfl dX5_peopleNotServed_6 ?_
  refine zr_aload2 X dX5_peopleNotServed_7 ?_
  refine zr_alen (v := 6) X (Or.inr (Or.inl rfl)) rfl dX5_peopleNotServed_8 ?_
  refine zr_istore3 X (by decide) rfl dX5_peopleNotServed_9 ?_
  refine zr_iconst (v := (0 : Int32)) X dX5_peopleNotServed_10 (by decide) ?_
  refine zr_istore4 X (by decide) rfl dX5_peopleNotServed_11 ?_
  exact zl_X5_peopleNotServed X hnt hR hW k1 7 0 0 (by omega) rfl (by omega)
