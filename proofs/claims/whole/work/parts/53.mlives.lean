/-! ===== the reference: ticks pass, keys turn, one more gate ===== -/
/-- beyond the gates there are, nothing happens -/
theorem zX7_live {S : zS} {g : Nat} (hW : zWf S) : zng (qLive S g) = zng S := by
  have h := (zWf_live (g := g) hW)
  have e : sX (qLive S g) 4 = sX S 4 := by
    unfold qLive
    split
    · have : ∀ f (S : zS), sX (qFlee S g f) 4 = sX S 4 := by
        intro f
        induction f with
        | zero => intro S; rfl
        | succ f ih =>
          intro S
          rw [qFlee]
          split
          · rfl
          · rw [ih]
            show sX (tX (qGoes S g 1) 14 _) 4 = _
            rw [tX_X, if_neg (by decide)]
            exact zX7_goes.2.2.1
      exact this _ _
    · split
      · unfold qPass
        have hl : ∀ T, sX (qLess T g) 4 = sX T 4 := by intro T; unfold qLess; split <;> rfl
        split
        · rw [hl]; exact zX7_goes.2.2.1
        · split
          · rw [hl]
            show sX (qGoes S g (qSide S g)) 4 = _
            exact zX7_goes.2.2.1
          · exact hl S
      · unfold qOpen
        split
        · unfold qOpenAt
          split
          · rfl
          · exact zX7_away.2.2.1
        · rfl
  unfold zng
  rw [e]
theorem zng_gates {S : zS} (hW : zWf S) : ∀ n, zng (qGates S n) = zng S
  | 0 => rfl
  | n + 1 => by rw [qGates, zX7_live (zWf_gates hW n), zng_gates hW n]
theorem qGates_tail {S : zS} (hW : zWf S) : ∀ n, zng S ≤ n → qGates S n = qGates S (zng S)
  | 0, h => by rw [Nat.le_zero.mp h]
  | n + 1, h => by
    by_cases e : zng S = n + 1
    · rw [e]
    · rw [qGates, qLive_blank (zWf_gates hW n) (by rw [zng_gates hW n]; omega), qGates_tail hW n (by omega)]
theorem zPad_open {S : zS} {g : Nat} (h : zPad S g) : sG S g 1 ≤ 0 ↔ sG S g 2 = 0 := by
  obtain ⟨-, -, ⟨q, q1, -⟩ | ⟨o, o1, o2, o3, o4⟩⟩ := h
  · rw [q, q1]; decide
  · rw [o3, (zn_i0 (by omega)).2.2.2.2]
    constructor
    · intro z; omega
    · intro z
      rcases o4 with ⟨o4, -⟩ | ⟨o4, -⟩ <;> rw [o4] at z <;> exact absurd z (by decide)
abbrev zrm_X8_lives : Room := { frames := 5, cells := 0, slots := 0, locals := 115 }
set_option maxRecDepth 20000 in
theorem zl2_X8_lives {l : Launch} {D : va_G} {b0 : Nat} {tA : Nat → ClassId} {sa sv : Nat → Nat} {K : Nat → Option Nat} {I : zI} {Qp : zI → Option AV → Prop} {Xp : String → zI → Prop} {p : Program} {e : Env} {s : State} {m : MethodId} {args : Array Value} {below : List Frame} {meth : Method} {c : Code} {a m9 t : Nat} {T : zS}
    (X : zX p l e zrm_X8_lives s m args below meth c RX8 cX8_lives 4 none D b0 tA sa sv) (hnt : ∀ x ∈ c.exceptionTable.toList, False) (hm : m9 < 2 ^ 30) (ht : t < m9) (hW : zWf T) (hk : ∀ J9 : zI, zag I J9 a 1 → zMd J9 a (qGates T 6) → zG p l e zrm_X8_lives s m args below meth c 4 D b0 tA sa 0 0 (zQ below D b0 tA sa K args s zrm_X8_lives Qp Xp) K 60 [some (vr (a) 15), some (vi ((nI m9))), some (vi ((nI t))), none] [] J9) :
    ∀ (n : Nat) (j : Nat) (J : zI), j ≤ zng T → zag I J a 1 → zMd J a (qGates T j) → zng T - j < n → zG p l e zrm_X8_lives s m args below meth c 4 D b0 tA sa 0 0 (zQ below D b0 tA sa K args s zrm_X8_lives Qp Xp) K 9 [some (vr (a) 15), some (vi ((nI m9))), some (vi ((nI t))), some (vi ((nI j)))] [] J := by
  intro n
  induction n with
  | zero => intro j J i0 i1 i2 i6; exact absurd i6 (Nat.not_lt_zero _)
  | succ n ih =>
    intro j J i0 i1 i2 i6
    have hg6 := hW.ng.1
    have i3 := zWf_gates hW j
    obtain ⟨f9, hf1, hf4, hfe⟩ := i3.flow
    refine zr_iload3 X dX8_lives_9 ?_
    refine zr_aload0 X dX8_lives_10 ?_
    refine zr_iconst (v := (4 : Int32)) X dX8_lives_11 (by decide) ?_
    refine zr_ialdN (n := 4) X rfl (show _ < 310 from (by first | assumption | omega | decide)) dX8_lives_12 ?_
    refine zr_eq (x2 := (sX (qGates T j) 4)) (i2.1 4 (by decide)) ?_
    refine zr_eq (x2 := (nI (zng T))) (i3.ng.2.trans (by rw [zng_gates hW])) ?_
    refine zr_nicmp_ge X (j) ((zng T)) (tgt := 60) (by omega) (by omega) dX8_lives_13 (by decide) (fun h1 => ?_) (fun h1 => ?_)
    · skip
      have hj : j = zng T := by omega
      subst hj
      refine zr_forget (lv2 := [some (vr (a) 15), some (vi ((nI m9))), some (vi ((nI t))), none]) (fun j9 v9 h9 => by rcases j9 with _ | _ | _ | _ | _ | _ | _ | _ | j9 <;> first | exact h9 | (simp at h9)) ?_
      rw [← qGates_tail hW 6 hg6] at i2
      exact hk _ i1 i2
    · skip
      refine zr_aload0 X dX8_lives_16 ?_
      refine zr_callS1 (rm9 := zrm_X8_isPanic) X hnt zm_X8_84 (by decide) (by decide) (by decide) (Nat.le_of_ble_eq_true rfl) dX8_lives_17 ?_
      refine zn_X8_isPanic i2 ?_ ?_
      · skip
        intro hp2
        refine zr_if_eq (tgt := 31) X dX8_lives_20 (by decide) (fun h => absurd h (by decide)) (fun _ => ?_)
        refine zr_aload0 X dX8_lives_23 ?_
        refine zr_iload3 X dX8_lives_24 ?_
        refine zr_callS2 (rm9 := zrm_X8_flees) X hnt zm_X8_88 (by decide) (by decide) (by decide) (Nat.le_of_ble_eq_true rfl) dX8_lives_25 ?_
        refine zp_X8_flees (g := j) (f := f9) i2 (by omega) hfe (by omega) (i3.le12 _ _) ?_
        intro J1 hg2 hM3
        refine zr_goto (tgt := 54) X dX8_lives_28 (by decide) ?_
        refine zr_iinc3 (v := (nI (j + 1))) X (show nI (j) + Int32.ofInt 1 = nI (j + 1) from nI_1 (j)) (by decide) rfl dX8_lives_54 ?_
        refine zr_goto (tgt := 9) X dX8_lives_57 (by decide) ?_
        refine ih (j + 1) _ (by omega) (by repeat (first | exact zag.rf | assumption | refine zag.put ?_ (by omega) (by omega) | refine zag.tr ?_ (by assumption) (by omega) (by omega))) ?_ (by omega)
        show zMd _ a (qLive (qGates T j) j)
        first | (rw [qLive, if_pos (zPanB_iff.mpr (by assumption)), hfe, nI_clamp (by omega)]; exact hM3) | (rw [qLive, if_neg (fun z => absurd (zPanB_iff.mp z) (by assumption)), if_pos (fun z => absurd ((zPad_open (i3.pad _)).mpr z) (by assumption))]; exact hM3) | (rw [qLive, if_neg (fun z => absurd (zPanB_iff.mp z) (by assumption)), if_neg (fun z => z ((zPad_open (i3.pad _)).mp (by assumption)))]; exact hM3)
      · skip
        intro hp2
        refine zr_if_eq (tgt := 31) X dX8_lives_20 (by decide) (fun _ => ?_) (fun h => absurd h (by decide))
        refine zr_aload0 X dX8_lives_31 ?_
        refine zr_iload3 X dX8_lives_32 ?_
        refine zr_iconst (v := (1 : Int32)) X dX8_lives_33 (by decide) ?_
        refine zr_callS2 (rm9 := zrm_X8_gateAt) X hnt zm_X8_34 (by decide) (by decide) (by decide) (Nat.le_of_ble_eq_true rfl) dX8_lives_34 ?_
        refine zn_X8_gateAt (g := j) (w := 1) ?_
        refine zr_ialdN (n := 16 + 29 * j + 1) X rfl (show _ < 310 from (by first | assumption | omega | decide)) dX8_lives_37 ?_
        refine zr_eq (x2 := (sG (qGates T j) j 1)) ((i2.2.1 j (by omega)).1 1 (by first | decide | omega)) ?_
        refine zr_if_le (tgt := 49) X dX8_lives_38 (by decide) (fun h3 => ?_) (fun h3 => ?_)
        · skip
          refine zr_aload0 X dX8_lives_49 ?_
          refine zr_iload3 X dX8_lives_50 ?_
          refine zr_callS2 (rm9 := zrm_X8_opens) X hnt zm_X8_95 (by decide) (by decide) (by decide) (Nat.le_of_ble_eq_true rfl) dX8_lives_51 ?_
          refine zq_X8_opens (g := j) i2 (by omega) (fun s9 => i3.le12 _ s9) i3.bits (i3.pad _) ?_
          intro J4 hg5 hM6
          refine zr_iinc3 (v := (nI (j + 1))) X (show nI (j) + Int32.ofInt 1 = nI (j + 1) from nI_1 (j)) (by decide) rfl dX8_lives_54 ?_
          refine zr_goto (tgt := 9) X dX8_lives_57 (by decide) ?_
          refine ih (j + 1) _ (by omega) (by repeat (first | exact zag.rf | assumption | refine zag.put ?_ (by omega) (by omega) | refine zag.tr ?_ (by assumption) (by omega) (by omega))) ?_ (by omega)
          show zMd _ a (qLive (qGates T j) j)
          first | (rw [qLive, if_pos (zPanB_iff.mpr (by assumption)), hfe, nI_clamp (by omega)]; exact hM6) | (rw [qLive, if_neg (fun z => absurd (zPanB_iff.mp z) (by assumption)), if_pos (fun z => absurd ((zPad_open (i3.pad _)).mpr z) (by assumption))]; exact hM6) | (rw [qLive, if_neg (fun z => absurd (zPanB_iff.mp z) (by assumption)), if_neg (fun z => z ((zPad_open (i3.pad _)).mp (by assumption)))]; exact hM6)
        · skip
          refine zr_aload0 X dX8_lives_41 ?_
          refine zr_iload3 X dX8_lives_42 ?_
          refine zr_callS2 (rm9 := zrm_X8_passes) X hnt zm_X8_92 (by decide) (by decide) (by decide) (Nat.le_of_ble_eq_true rfl) dX8_lives_43 ?_
          refine zq_X8_passes (g := j) i2 (by omega) (fun s9 => i3.le12 _ s9) (i3.pad _) (fun z => absurd ((zPad_open (i3.pad _)).mpr z) (by assumption)) ?_
          intro J7 hg8 hM9
          refine zr_goto (tgt := 54) X dX8_lives_46 (by decide) ?_
          refine zr_iinc3 (v := (nI (j + 1))) X (show nI (j) + Int32.ofInt 1 = nI (j + 1) from nI_1 (j)) (by decide) rfl dX8_lives_54 ?_
          refine zr_goto (tgt := 9) X dX8_lives_57 (by decide) ?_
          refine ih (j + 1) _ (by omega) (by repeat (first | exact zag.rf | assumption | refine zag.put ?_ (by omega) (by omega) | refine zag.tr ?_ (by assumption) (by omega) (by omega))) ?_ (by omega)
          show zMd _ a (qLive (qGates T j) j)
          first | (rw [qLive, if_pos (zPanB_iff.mpr (by assumption)), hfe, nI_clamp (by omega)]; exact hM9) | (rw [qLive, if_neg (fun z => absurd (zPanB_iff.mp z) (by assumption)), if_pos (fun z => absurd ((zPad_open (i3.pad _)).mpr z) (by assumption))]; exact hM9) | (rw [qLive, if_neg (fun z => absurd (zPanB_iff.mp z) (by assumption)), if_neg (fun z => z ((zPad_open (i3.pad _)).mp (by assumption)))]; exact hM9)
set_option maxRecDepth 20000 in
theorem zl_X8_lives {l : Launch} {D : va_G} {b0 : Nat} {tA : Nat → ClassId} {sa sv : Nat → Nat} {K : Nat → Option Nat} {I : zI} {Qp : zI → Option AV → Prop} {Xp : String → zI → Prop} {p : Program} {e : Env} {s : State} {m : MethodId} {args : Array Value} {below : List Frame} {meth : Method} {c : Code} {a m9 : Nat} {S : zS}
    (X : zX p l e zrm_X8_lives s m args below meth c RX8 cX8_lives 4 none D b0 tA sa sv) (hnt : ∀ x ∈ c.exceptionTable.toList, False) (hW : zWf S) (hm : m9 < 2 ^ 30) (k1 : ∀ J : zI, zag I J a 1 → zMd J a (qTicks S m9) → Qp J none) :
    ∀ (n : Nat) (t : Nat) (J : zI), t ≤ m9 → zag I J a 1 → zMd J a (qTicks S t) → m9 - t < n → zG p l e zrm_X8_lives s m args below meth c 4 D b0 tA sa 0 0 (zQ below D b0 tA sa K args s zrm_X8_lives Qp Xp) K 2 [some (vr (a) 15), some (vi ((nI m9))), some (vi ((nI t))), none] [] J := by
  intro n
  induction n with
  | zero => intro t J i0 i1 i2 i6; exact absurd i6 (Nat.not_lt_zero _)
  | succ n ih =>
    intro t J i0 i1 i2 i6
    refine zr_iload2 X dX8_lives_2 ?_
    refine zr_iload1 X dX8_lives_3 ?_
    refine zr_nicmp_ge X (t) (m9) (tgt := 73) (by omega) (by omega) dX8_lives_4 (by decide) (fun h1 => ?_) (fun h1 => ?_)
    · skip
      refine zr_vret X (by decide) (by decide) dX8_lives_73 ?_
      have hj : t = m9 := by omega
      subst hj
      exact k1 _ i1 i2
    · skip
      refine zr_iconst (v := (0 : Int32)) X dX8_lives_7 (by decide) ?_
      refine zr_istore3 X (by decide) rfl dX8_lives_8 ?_
      refine zl2_X8_lives (T := qTicks S t) (I := J) X hnt hm (by omega) (zWf_ticks hW t) (fun J9 h1 h2 => ?_) (zng (qTicks S t) + 1) 0 J (by omega) zag.rf i2 (by omega)
      refine zr_aload0 X dX8_lives_60 ?_
      refine zr_iconst (v := (2 : Int32)) X dX8_lives_61 (by decide) ?_
      refine zr_dup2 X dX8_lives_62 ?_
      refine zr_ialdN (n := 2) X rfl (show _ < 310 from (by first | assumption | omega | decide)) dX8_lives_63 ?_
      refine zr_eq (x2 := (sX (qGates (qTicks S t) 6) 2)) (h2.1 2 (by decide)) ?_
      refine zr_iconst (v := (1 : Int32)) X dX8_lives_64 (by decide) ?_
      refine zr_iadd X dX8_lives_65 ?_
      refine zr_iastN (n := 2) X rfl (by decide) dX8_lives_66 ?_
      have hM_1 : zMd _ (a) (tX (qGates (qTicks S t) 6) 2 ((sX (qGates (qTicks S t) 6) 2) + (1 : Int32))) := zMd_X h2 (i := 2) (v := ((sX (qGates (qTicks S t) 6) 2) + (1 : Int32))) (by decide)
      refine zr_iinc2 (v := (nI (t + 1))) X (show nI (t) + Int32.ofInt 1 = nI (t + 1) from nI_1 (t)) (by decide) rfl dX8_lives_67 ?_
      refine zr_goto (tgt := 2) X dX8_lives_70 (by decide) ?_
      exact ih (t + 1) _ (by omega) (by repeat (first | exact zag.rf | assumption | refine zag.put ?_ (by omega) (by omega) | refine zag.tr ?_ (by assumption) (by omega) (by omega))) hM_1 (by omega)
set_option maxRecDepth 20000 in
theorem zp_X8_lives {l : Launch} {D : va_G} {b0 : Nat} {tA : Nat → ClassId} {sa sv : Nat → Nat} {K : Nat → Option Nat} {I : zI} {Qp : zI → Option AV → Prop} {Xp : String → zI → Prop} {a m9 : Nat} {S : zS}
    (hM : zMd I a S) (hW : zWf S) (hm : m9 < 2 ^ 30) (k1 : ∀ J : zI, zag I J a 1 → zMd J a (qTicks S m9) → Qp J none) :
    zC l D b0 tA sa sv K yX8_lives (.code yX8_lives cX8_lives 4 none) zrm_X8_lives [vr (a) 15, vi ((nI m9))] I Qp Xp := by
  refine zC_of (by decide +kernel) (Nat.le_of_ble_eq_true rfl) ?_
  intro p e s m args below meth c X hnt
  have X : zX p l e zrm_X8_lives s m args below meth c RX8 cX8_lives 4 none D b0 tA sa sv := X
  refine zr_lv (lv2 := [some (vr (a) 15), some (vi ((nI m9))), none, none]) rfl ?_
  refine zr_iconst (v := (0 : Int32)) X dX8_lives_0 (by decide) ?_
  refine zr_istore2 X (by decide) rfl dX8_lives_1 ?_
  exact zl_X8_lives X hnt hW hm k1 (m9 + 1) 0 I (by omega) zag.rf hM (by omega)
abbrev zrm_X8_turns : Room := { frames := 2, cells := 0, slots := 0, locals := 40 }
def qShutG (T : zS) (g : Nat) : zS := tG (tG (tG T g 1 0) g 2 0) g 3 0
theorem qShut_s {S : zS} {n : Nat} : qShut S (n + 1) = qShutG (qShut S n) n := rfl
theorem qShutG_id {S : zS} {g : Nat} (h : sG S g 1 = 0 ∧ sG S g 2 = 0 ∧ sG S g 3 = 0) : qShutG S g = S := by
  unfold qShutG
  rw [tG_same (S := S) (j := 1) h.1, tG_same (S := S) (j := 2) h.2.1, tG_same (S := S) (j := 3) h.2.2]
/-- where all from m on are shut, shutting them does nothing -/
theorem qShut_tail {S : zS} {m : Nat} (h : ∀ g, m ≤ g → sG S g 1 = 0 ∧ sG S g 2 = 0 ∧ sG S g 3 = 0) : ∀ n, m ≤ n → qShut S n = qShut S m
  | 0, hm => by rw [Nat.le_zero.mp hm]
  | n + 1, hm => by
    by_cases e : m = n + 1
    · rw [e]
    · rw [qShut_s, qShutG_id, qShut_tail h n (by omega)]
      have := h n (by omega)
      rw [qShut_G, qShut_G, qShut_G]
      refine ⟨?_, ?_, ?_⟩ <;> split <;> first | rfl | exact this.1 | exact this.2.1 | exact this.2.2
theorem zkeys_shut {S : zS} : ∀ n, sX (qShut S n) = sX S
  | 0 => rfl
  | n + 1 => zkeys_shut n
theorem zPan_shut {S : zS} (hW : zWf S) (h : zPan S) (g : Nat) : sG S g 1 = 0 ∧ sG S g 2 = 0 ∧ sG S g 3 = 0 := by
  have h2 := hW.pan h g
  have := zPad_shut (hW.pad g) h2
  exact ⟨this.1, h2, this.2⟩
theorem qKeyed_was {S : zS} {k : Nat} (hW : zWf S) (h : zPan S) : qKey S k = qKeyed S k := by
  unfold qKey
  split
  · exact qShut_tail (m := 0) (S := qKeyed S k) (fun g _ => zPan_shut hW h g) 6 (Nat.zero_le _)
  · rfl
theorem zng_keyed {S : zS} {k : Nat} : zng (qKeyed S k) = zng S := by
  unfold zng qKeyed
  rw [tX_X, if_neg (by omega)]
theorem qShut_ng {S : zS} {k : Nat} (hW : zWf S) : qShut (qKeyed S k) 6 = qShut (qKeyed S k) (zng S) :=
  qShut_tail (S := qKeyed S k) (fun g hg => ⟨(hW.blank g hg).1 1, (hW.blank g hg).1 2, (hW.blank g hg).1 3⟩) 6 hW.ng.1
set_option maxRecDepth 20000 in
theorem zl_X8_turns {l : Launch} {D : va_G} {b0 : Nat} {tA : Nat → ClassId} {sa sv : Nat → Nat} {K : Nat → Option Nat} {I : zI} {Qp : zI → Option AV → Prop} {Xp : String → zI → Prop} {p : Program} {e : Env} {s : State} {m : MethodId} {args : Array Value} {below : List Frame} {meth : Method} {c : Code} {a k9 : Nat} {S : zS}
    (X : zX p l e zrm_X8_turns s m args below meth c RX8 cX8_turns 5 (some .int) D b0 tA sa sv) (hnt : ∀ x ∈ c.exceptionTable.toList, False) (hW : zWf S) (hk : k9 < 3) (hp : zPan (qKeyed S k9)) (k1 : ∀ J : zI, zag I J a 1 → zMd J a (qKey S k9) → Qp J (some (vi (zkeys (qKey S k9))))) :
    ∀ (n : Nat) (j : Nat) (J : zI), j ≤ zng S → zag I J a 1 → zMd J a (qShut (qKeyed S k9) j) → zng S - j < n → zG p l e zrm_X8_turns s m args below meth c 5 D b0 tA sa 0 0 (zQ below D b0 tA sa K args s zrm_X8_turns Qp Xp) K 32 [some (vr (a) 15), some (vi ((nI k9))), some (vi ((0 : Int32))), some (vi ((nI j))), none] [] J := by
  intro n
  induction n with
  | zero => intro j J i0 i1 i2 i6; exact absurd i6 (Nat.not_lt_zero _)
  | succ n ih =>
    intro j J i0 i1 i2 i6
    have hg6 := hW.ng.1
    refine zr_iload3 X dX8_turns_32 ?_
    refine zr_aload0 X dX8_turns_33 ?_
    refine zr_iconst (v := (4 : Int32)) X dX8_turns_34 (by decide) ?_
    refine zr_ialdN (n := 4) X rfl (show _ < 310 from (by first | assumption | omega | decide)) dX8_turns_35 ?_
    refine zr_eq (x2 := (sX (qShut (qKeyed S k9) j) 4)) (i2.1 4 (by decide)) ?_
    refine zr_eq (x2 := (nI (zng S))) ((congrFun (zkeys_shut j) 4).trans (by unfold qKeyed; rw [tX_X, if_neg (by omega)]; exact hW.ng.2)) ?_
    refine zr_nicmp_ge X (j) ((zng S)) (tgt := 69) (by omega) (by omega) dX8_turns_36 (by decide) (fun h1 => ?_) (fun h1 => ?_)
    · skip
      refine zr_aload0 X dX8_turns_69 ?_
      refine zr_callS1 (rm9 := zrm_X8_keys) X hnt zm_X8_64 (by decide) (by decide) (by decide) (Nat.le_of_ble_eq_true rfl) dX8_turns_70 ?_
      refine zn_X8_keys i2 ?_
      refine zr_iret X (by decide) (by decide) dX8_turns_73 ?_
      have hj : j = zng S := by omega
      subst hj
      have e9 : qKey S k9 = qShut (qKeyed S k9) (zng S) := by rw [qKey, if_pos (zPanB_iff.mpr hp), qShut_ng hW]
      rw [e9] at k1; exact k1 _ (by repeat (first | exact zag.rf | assumption | refine zag.put ?_ (by omega) (by omega) | refine zag.tr ?_ (by assumption) (by omega) (by omega))) i2
    · skip
      refine zr_iconst (v := (1 : Int32)) X dX8_turns_39 (by decide) ?_
      refine zr_istore4 X (by decide) rfl dX8_turns_40 ?_
      refine zr_iload4 X dX8_turns_42 ?_
      refine zr_iconst (v := (3 : Int32)) X dX8_turns_44 (by decide) ?_
      refine zr_icmp_gt (tgt := 63) X dX8_turns_45 (by decide) (fun h => absurd h (by decide)) (fun _ => ?_)
      refine zr_aload0 X dX8_turns_48 ?_
      refine zr_iload3 X dX8_turns_49 ?_
      refine zr_iload4 X dX8_turns_50 ?_
      refine zr_callS2 (rm9 := zrm_X8_gateAt) X hnt zm_X8_34 (by decide) (by decide) (by decide) (Nat.le_of_ble_eq_true rfl) dX8_turns_52 ?_
      refine zn_X8_gateAt (g := j) (w := 1) ?_
      refine zr_iconst (v := (0 : Int32)) X dX8_turns_55 (by decide) ?_
      refine zr_iastN X rfl (show _ < 310 from (by first | assumption | omega)) dX8_turns_56 ?_
      have hM_1 : zMd _ (a) (tG (qShut (qKeyed S k9) j) j 1 (0 : Int32)) := zMd_G i2 (g := j) (j := 1) (v := (0 : Int32)) (by omega) (by first | decide | omega)
      refine zr_iinc4 (v := (2 : Int32)) X (by decide) (by decide) rfl dX8_turns_57 ?_
      refine zr_goto (tgt := 42) X dX8_turns_60 (by decide) ?_
      refine zr_iload4 X dX8_turns_42 ?_
      refine zr_iconst (v := (3 : Int32)) X dX8_turns_44 (by decide) ?_
      refine zr_icmp_gt (tgt := 63) X dX8_turns_45 (by decide) (fun h => absurd h (by decide)) (fun _ => ?_)
      refine zr_aload0 X dX8_turns_48 ?_
      refine zr_iload3 X dX8_turns_49 ?_
      refine zr_iload4 X dX8_turns_50 ?_
      refine zr_callS2 (rm9 := zrm_X8_gateAt) X hnt zm_X8_34 (by decide) (by decide) (by decide) (Nat.le_of_ble_eq_true rfl) dX8_turns_52 ?_
      refine zn_X8_gateAt (g := j) (w := 2) ?_
      refine zr_iconst (v := (0 : Int32)) X dX8_turns_55 (by decide) ?_
      refine zr_iastN X rfl (show _ < 310 from (by first | assumption | omega)) dX8_turns_56 ?_
      have hM_2 : zMd _ (a) (tG (tG (qShut (qKeyed S k9) j) j 1 (0 : Int32)) j 2 (0 : Int32)) := zMd_G hM_1 (g := j) (j := 2) (v := (0 : Int32)) (by omega) (by first | decide | omega)
      refine zr_iinc4 (v := (3 : Int32)) X (by decide) (by decide) rfl dX8_turns_57 ?_
      refine zr_goto (tgt := 42) X dX8_turns_60 (by decide) ?_
      refine zr_iload4 X dX8_turns_42 ?_
      refine zr_iconst (v := (3 : Int32)) X dX8_turns_44 (by decide) ?_
      refine zr_icmp_gt (tgt := 63) X dX8_turns_45 (by decide) (fun h => absurd h (by decide)) (fun _ => ?_)
      refine zr_aload0 X dX8_turns_48 ?_
      refine zr_iload3 X dX8_turns_49 ?_
      refine zr_iload4 X dX8_turns_50 ?_
      refine zr_callS2 (rm9 := zrm_X8_gateAt) X hnt zm_X8_34 (by decide) (by decide) (by decide) (Nat.le_of_ble_eq_true rfl) dX8_turns_52 ?_
      refine zn_X8_gateAt (g := j) (w := 3) ?_
      refine zr_iconst (v := (0 : Int32)) X dX8_turns_55 (by decide) ?_
      refine zr_iastN X rfl (show _ < 310 from (by first | assumption | omega)) dX8_turns_56 ?_
      have hM_3 : zMd _ (a) (tG (tG (tG (qShut (qKeyed S k9) j) j 1 (0 : Int32)) j 2 (0 : Int32)) j 3 (0 : Int32)) := zMd_G hM_2 (g := j) (j := 3) (v := (0 : Int32)) (by omega) (by first | decide | omega)
      refine zr_iinc4 (v := (4 : Int32)) X (by decide) (by decide) rfl dX8_turns_57 ?_
      refine zr_goto (tgt := 42) X dX8_turns_60 (by decide) ?_
      refine zr_iload4 X dX8_turns_42 ?_
      refine zr_iconst (v := (3 : Int32)) X dX8_turns_44 (by decide) ?_
      refine zr_icmp_gt (tgt := 63) X dX8_turns_45 (by decide) (fun _ => ?_) (fun h => absurd h (by decide))
      refine zr_iinc3 (v := (nI (j + 1))) X (show nI (j) + Int32.ofInt 1 = nI (j + 1) from nI_1 (j)) (by decide) rfl dX8_turns_63 ?_
      refine zr_goto (tgt := 32) X dX8_turns_66 (by decide) ?_
      refine zr_forget (lv2 := [some (vr (a) 15), some (vi ((nI k9))), some (vi ((0 : Int32))), some (vi ((nI (j + 1)))), none]) (fun j9 v9 h9 => by rcases j9 with _ | _ | _ | _ | _ | _ | _ | _ | j9 <;> first | exact h9 | (simp at h9)) ?_
      exact ih (j + 1) _ (by omega) (by repeat (first | exact zag.rf | assumption | refine zag.put ?_ (by omega) (by omega) | refine zag.tr ?_ (by assumption) (by omega) (by omega))) hM_3 (by omega)
set_option maxRecDepth 20000 in
theorem zp0_X8_turns {l : Launch} {D : va_G} {b0 : Nat} {tA : Nat → ClassId} {sa sv : Nat → Nat} {K : Nat → Option Nat} {I : zI} {Qp : zI → Option AV → Prop} {Xp : String → zI → Prop} {a : Nat} {S : zS}
    (hM : zMd I a S) (hW : zWf S) (k1 : ∀ J : zI, zag I J a 1 → zMd J a (qKey S 0) → Qp J (some (vi (zkeys (qKey S 0))))) :
    zC l D b0 tA sa sv K yX8_turns (.code yX8_turns cX8_turns 5 (some .int)) zrm_X8_turns [vr (a) 15, vi ((0 : Int32))] I Qp Xp := by
  refine zC_of (by decide +kernel) (Nat.le_of_ble_eq_true rfl) ?_
  intro p e s m args below meth c X hnt
  have X : zX p l e zrm_X8_turns s m args below meth c RX8 cX8_turns 5 (some .int) D b0 tA sa sv := X
  refine zr_lv (lv2 := [some (vr (a) 15), some (vi ((0 : Int32))), none, none, none]) rfl ?_
  refine zr_aload0 X dX8_turns_0 ?_
  refine zr_callS1 (rm9 := zrm_X8_isPanic) X hnt zm_X8_84 (by decide) (by decide) (by decide) (Nat.le_of_ble_eq_true rfl) dX8_turns_1 ?_
  refine zn_X8_isPanic hM ?_ ?_
  · skip
    intro hp1
    refine zr_istore2 X (by decide) rfl dX8_turns_4 ?_
    refine zr_aload0 X dX8_turns_5 ?_
    refine zr_bipush (v := (6 : Int32)) X dX8_turns_6 (by decide) ?_
    refine zr_iload1 X dX8_turns_8 ?_
    refine zr_iadd X dX8_turns_9 ?_
    refine zr_eq (x2 := (6 : Int32)) (by decide) ?_
    refine zr_iconst (v := (1 : Int32)) X dX8_turns_10 (by decide) ?_
    refine zr_aload0 X dX8_turns_11 ?_
    refine zr_bipush (v := (6 : Int32)) X dX8_turns_12 (by decide) ?_
    refine zr_iload1 X dX8_turns_14 ?_
    refine zr_iadd X dX8_turns_15 ?_
    refine zr_eq (x2 := (6 : Int32)) (by decide) ?_
    refine zr_ialdN (n := 6) X rfl (show _ < 310 from (by first | assumption | omega | decide)) dX8_turns_16 ?_
    refine zr_eq (x2 := (sX S 6)) (hM.1 6 (by decide)) ?_
    refine zr_isub X dX8_turns_17 ?_
    refine zr_iastN (n := 6) X rfl (by decide) dX8_turns_18 ?_
    have hM_1 : zMd _ (a) (tX S 6 ((1 : Int32) - (sX S 6))) := zMd_X hM (i := 6) (v := ((1 : Int32) - (sX S 6))) (by decide)
    refine zr_iload2 X dX8_turns_19 ?_
    refine zr_if_ne (tgt := 69) X dX8_turns_20 (by decide) (fun _ => ?_) (fun h => absurd h (by decide))
    refine zr_aload0 X dX8_turns_69 ?_
    refine zr_callS1 (rm9 := zrm_X8_keys) X hnt zm_X8_64 (by decide) (by decide) (by decide) (Nat.le_of_ble_eq_true rfl) dX8_turns_70 ?_
    refine zn_X8_keys hM_1 ?_
    refine zr_iret X (by decide) (by decide) dX8_turns_73 ?_
    rw [qKeyed_was hW hp1] at k1; exact k1 _ (by repeat (first | exact zag.rf | assumption | refine zag.put ?_ (by omega) (by omega) | refine zag.tr ?_ (by assumption) (by omega) (by omega))) hM_1
  · skip
    intro hp1
    refine zr_istore2 X (by decide) rfl dX8_turns_4 ?_
    refine zr_aload0 X dX8_turns_5 ?_
    refine zr_bipush (v := (6 : Int32)) X dX8_turns_6 (by decide) ?_
    refine zr_iload1 X dX8_turns_8 ?_
    refine zr_iadd X dX8_turns_9 ?_
    refine zr_eq (x2 := (6 : Int32)) (by decide) ?_
    refine zr_iconst (v := (1 : Int32)) X dX8_turns_10 (by decide) ?_
    refine zr_aload0 X dX8_turns_11 ?_
    refine zr_bipush (v := (6 : Int32)) X dX8_turns_12 (by decide) ?_
    refine zr_iload1 X dX8_turns_14 ?_
    refine zr_iadd X dX8_turns_15 ?_
    refine zr_eq (x2 := (6 : Int32)) (by decide) ?_
    refine zr_ialdN (n := 6) X rfl (show _ < 310 from (by first | assumption | omega | decide)) dX8_turns_16 ?_
    refine zr_eq (x2 := (sX S 6)) (hM.1 6 (by decide)) ?_
    refine zr_isub X dX8_turns_17 ?_
    refine zr_iastN (n := 6) X rfl (by decide) dX8_turns_18 ?_
    have hM_2 : zMd _ (a) (tX S 6 ((1 : Int32) - (sX S 6))) := zMd_X hM (i := 6) (v := ((1 : Int32) - (sX S 6))) (by decide)
    refine zr_iload2 X dX8_turns_19 ?_
    refine zr_if_ne (tgt := 69) X dX8_turns_20 (by decide) (fun h => absurd h (by decide)) (fun _ => ?_)
    refine zr_aload0 X dX8_turns_23 ?_
    refine zr_callS1 (rm9 := zrm_X8_isPanic) X hnt zm_X8_84 (by decide) (by decide) (by decide) (Nat.le_of_ble_eq_true rfl) dX8_turns_24 ?_
    refine zn_X8_isPanic hM_2 ?_ ?_
    · skip
      intro hp2
      refine zr_if_eq (tgt := 69) X dX8_turns_27 (by decide) (fun h => absurd h (by decide)) (fun _ => ?_)
      refine zr_iconst (v := (0 : Int32)) X dX8_turns_30 (by decide) ?_
      refine zr_istore3 X (by decide) rfl dX8_turns_31 ?_
      exact zl_X8_turns (k9 := 0) X hnt hW (by decide) hp2 k1 (zng S + 1) 0 _ (by omega) (by repeat (first | exact zag.rf | assumption | refine zag.put ?_ (by omega) (by omega) | refine zag.tr ?_ (by assumption) (by omega) (by omega))) hM_2 (by omega)
    · skip
      intro hp2
      refine zr_if_eq (tgt := 69) X dX8_turns_27 (by decide) (fun _ => ?_) (fun h => absurd h (by decide))
      refine zr_aload0 X dX8_turns_69 ?_
      refine zr_callS1 (rm9 := zrm_X8_keys) X hnt zm_X8_64 (by decide) (by decide) (by decide) (Nat.le_of_ble_eq_true rfl) dX8_turns_70 ?_
      refine zn_X8_keys hM_2 ?_
      refine zr_iret X (by decide) (by decide) dX8_turns_73 ?_
      have e9 : qKey S 0 = qKeyed S 0 := by rw [qKey, if_neg (fun z => (show ¬ zPan (qKeyed S 0) from hp2) (zPanB_iff.mp z))]
      rw [e9] at k1; exact k1 _ (by repeat (first | exact zag.rf | assumption | refine zag.put ?_ (by omega) (by omega) | refine zag.tr ?_ (by assumption) (by omega) (by omega))) hM_2
set_option maxRecDepth 20000 in
theorem zp1_X8_turns {l : Launch} {D : va_G} {b0 : Nat} {tA : Nat → ClassId} {sa sv : Nat → Nat} {K : Nat → Option Nat} {I : zI} {Qp : zI → Option AV → Prop} {Xp : String → zI → Prop} {a : Nat} {S : zS}
    (hM : zMd I a S) (hW : zWf S) (k1 : ∀ J : zI, zag I J a 1 → zMd J a (qKey S 1) → Qp J (some (vi (zkeys (qKey S 1))))) :
    zC l D b0 tA sa sv K yX8_turns (.code yX8_turns cX8_turns 5 (some .int)) zrm_X8_turns [vr (a) 15, vi ((1 : Int32))] I Qp Xp := by
  refine zC_of (by decide +kernel) (Nat.le_of_ble_eq_true rfl) ?_
  intro p e s m args below meth c X hnt
  have X : zX p l e zrm_X8_turns s m args below meth c RX8 cX8_turns 5 (some .int) D b0 tA sa sv := X
  refine zr_lv (lv2 := [some (vr (a) 15), some (vi ((1 : Int32))), none, none, none]) rfl ?_
  refine zr_aload0 X dX8_turns_0 ?_
  refine zr_callS1 (rm9 := zrm_X8_isPanic) X hnt zm_X8_84 (by decide) (by decide) (by decide) (Nat.le_of_ble_eq_true rfl) dX8_turns_1 ?_
  refine zn_X8_isPanic hM ?_ ?_
  · skip
    intro hp1
    refine zr_istore2 X (by decide) rfl dX8_turns_4 ?_
    refine zr_aload0 X dX8_turns_5 ?_
    refine zr_bipush (v := (6 : Int32)) X dX8_turns_6 (by decide) ?_
    refine zr_iload1 X dX8_turns_8 ?_
    refine zr_iadd X dX8_turns_9 ?_
    refine zr_eq (x2 := (7 : Int32)) (by decide) ?_
    refine zr_iconst (v := (1 : Int32)) X dX8_turns_10 (by decide) ?_
    refine zr_aload0 X dX8_turns_11 ?_
    refine zr_bipush (v := (6 : Int32)) X dX8_turns_12 (by decide) ?_
    refine zr_iload1 X dX8_turns_14 ?_
    refine zr_iadd X dX8_turns_15 ?_
    refine zr_eq (x2 := (7 : Int32)) (by decide) ?_
    refine zr_ialdN (n := 7) X rfl (show _ < 310 from (by first | assumption | omega | decide)) dX8_turns_16 ?_
    refine zr_eq (x2 := (sX S 7)) (hM.1 7 (by decide)) ?_
    refine zr_isub X dX8_turns_17 ?_
    refine zr_iastN (n := 7) X rfl (by decide) dX8_turns_18 ?_
    have hM_1 : zMd _ (a) (tX S 7 ((1 : Int32) - (sX S 7))) := zMd_X hM (i := 7) (v := ((1 : Int32) - (sX S 7))) (by decide)
    refine zr_iload2 X dX8_turns_19 ?_
    refine zr_if_ne (tgt := 69) X dX8_turns_20 (by decide) (fun _ => ?_) (fun h => absurd h (by decide))
    refine zr_aload0 X dX8_turns_69 ?_
    refine zr_callS1 (rm9 := zrm_X8_keys) X hnt zm_X8_64 (by decide) (by decide) (by decide) (Nat.le_of_ble_eq_true rfl) dX8_turns_70 ?_
    refine zn_X8_keys hM_1 ?_
    refine zr_iret X (by decide) (by decide) dX8_turns_73 ?_
    rw [qKeyed_was hW hp1] at k1; exact k1 _ (by repeat (first | exact zag.rf | assumption | refine zag.put ?_ (by omega) (by omega) | refine zag.tr ?_ (by assumption) (by omega) (by omega))) hM_1
  · skip
    intro hp1
    refine zr_istore2 X (by decide) rfl dX8_turns_4 ?_
    refine zr_aload0 X dX8_turns_5 ?_
    refine zr_bipush (v := (6 : Int32)) X dX8_turns_6 (by decide) ?_
    refine zr_iload1 X dX8_turns_8 ?_
    refine zr_iadd X dX8_turns_9 ?_
    refine zr_eq (x2 := (7 : Int32)) (by decide) ?_
    refine zr_iconst (v := (1 : Int32)) X dX8_turns_10 (by decide) ?_
    refine zr_aload0 X dX8_turns_11 ?_
    refine zr_bipush (v := (6 : Int32)) X dX8_turns_12 (by decide) ?_
    refine zr_iload1 X dX8_turns_14 ?_
    refine zr_iadd X dX8_turns_15 ?_
    refine zr_eq (x2 := (7 : Int32)) (by decide) ?_
    refine zr_ialdN (n := 7) X rfl (show _ < 310 from (by first | assumption | omega | decide)) dX8_turns_16 ?_
    refine zr_eq (x2 := (sX S 7)) (hM.1 7 (by decide)) ?_
    refine zr_isub X dX8_turns_17 ?_
    refine zr_iastN (n := 7) X rfl (by decide) dX8_turns_18 ?_
    have hM_2 : zMd _ (a) (tX S 7 ((1 : Int32) - (sX S 7))) := zMd_X hM (i := 7) (v := ((1 : Int32) - (sX S 7))) (by decide)
    refine zr_iload2 X dX8_turns_19 ?_
    refine zr_if_ne (tgt := 69) X dX8_turns_20 (by decide) (fun h => absurd h (by decide)) (fun _ => ?_)
    refine zr_aload0 X dX8_turns_23 ?_
    refine zr_callS1 (rm9 := zrm_X8_isPanic) X hnt zm_X8_84 (by decide) (by decide) (by decide) (Nat.le_of_ble_eq_true rfl) dX8_turns_24 ?_
    refine zn_X8_isPanic hM_2 ?_ ?_
    · skip
      intro hp2
      refine zr_if_eq (tgt := 69) X dX8_turns_27 (by decide) (fun h => absurd h (by decide)) (fun _ => ?_)
      refine zr_iconst (v := (0 : Int32)) X dX8_turns_30 (by decide) ?_
      refine zr_istore3 X (by decide) rfl dX8_turns_31 ?_
      exact zl_X8_turns (k9 := 1) X hnt hW (by decide) hp2 k1 (zng S + 1) 0 _ (by omega) (by repeat (first | exact zag.rf | assumption | refine zag.put ?_ (by omega) (by omega) | refine zag.tr ?_ (by assumption) (by omega) (by omega))) hM_2 (by omega)
    · skip
      intro hp2
      refine zr_if_eq (tgt := 69) X dX8_turns_27 (by decide) (fun _ => ?_) (fun h => absurd h (by decide))
      refine zr_aload0 X dX8_turns_69 ?_
      refine zr_callS1 (rm9 := zrm_X8_keys) X hnt zm_X8_64 (by decide) (by decide) (by decide) (Nat.le_of_ble_eq_true rfl) dX8_turns_70 ?_
      refine zn_X8_keys hM_2 ?_
      refine zr_iret X (by decide) (by decide) dX8_turns_73 ?_
      have e9 : qKey S 1 = qKeyed S 1 := by rw [qKey, if_neg (fun z => (show ¬ zPan (qKeyed S 1) from hp2) (zPanB_iff.mp z))]
      rw [e9] at k1; exact k1 _ (by repeat (first | exact zag.rf | assumption | refine zag.put ?_ (by omega) (by omega) | refine zag.tr ?_ (by assumption) (by omega) (by omega))) hM_2
set_option maxRecDepth 20000 in
theorem zp2_X8_turns {l : Launch} {D : va_G} {b0 : Nat} {tA : Nat → ClassId} {sa sv : Nat → Nat} {K : Nat → Option Nat} {I : zI} {Qp : zI → Option AV → Prop} {Xp : String → zI → Prop} {a : Nat} {S : zS}
    (hM : zMd I a S) (hW : zWf S) (k1 : ∀ J : zI, zag I J a 1 → zMd J a (qKey S 2) → Qp J (some (vi (zkeys (qKey S 2))))) :
    zC l D b0 tA sa sv K yX8_turns (.code yX8_turns cX8_turns 5 (some .int)) zrm_X8_turns [vr (a) 15, vi ((2 : Int32))] I Qp Xp := by
  refine zC_of (by decide +kernel) (Nat.le_of_ble_eq_true rfl) ?_
  intro p e s m args below meth c X hnt
  have X : zX p l e zrm_X8_turns s m args below meth c RX8 cX8_turns 5 (some .int) D b0 tA sa sv := X
  refine zr_lv (lv2 := [some (vr (a) 15), some (vi ((2 : Int32))), none, none, none]) rfl ?_
  refine zr_aload0 X dX8_turns_0 ?_
  refine zr_callS1 (rm9 := zrm_X8_isPanic) X hnt zm_X8_84 (by decide) (by decide) (by decide) (Nat.le_of_ble_eq_true rfl) dX8_turns_1 ?_
  refine zn_X8_isPanic hM ?_ ?_
  · skip
    intro hp1
    refine zr_istore2 X (by decide) rfl dX8_turns_4 ?_
    refine zr_aload0 X dX8_turns_5 ?_
    refine zr_bipush (v := (6 : Int32)) X dX8_turns_6 (by decide) ?_
    refine zr_iload1 X dX8_turns_8 ?_
    refine zr_iadd X dX8_turns_9 ?_
    refine zr_eq (x2 := (8 : Int32)) (by decide) ?_
    refine zr_iconst (v := (1 : Int32)) X dX8_turns_10 (by decide) ?_
    refine zr_aload0 X dX8_turns_11 ?_
    refine zr_bipush (v := (6 : Int32)) X dX8_turns_12 (by decide) ?_
    refine zr_iload1 X dX8_turns_14 ?_
    refine zr_iadd X dX8_turns_15 ?_
    refine zr_eq (x2 := (8 : Int32)) (by decide) ?_
    refine zr_ialdN (n := 8) X rfl (show _ < 310 from (by first | assumption | omega | decide)) dX8_turns_16 ?_
    refine zr_eq (x2 := (sX S 8)) (hM.1 8 (by decide)) ?_
    refine zr_isub X dX8_turns_17 ?_
    refine zr_iastN (n := 8) X rfl (by decide) dX8_turns_18 ?_
    have hM_1 : zMd _ (a) (tX S 8 ((1 : Int32) - (sX S 8))) := zMd_X hM (i := 8) (v := ((1 : Int32) - (sX S 8))) (by decide)
    refine zr_iload2 X dX8_turns_19 ?_
    refine zr_if_ne (tgt := 69) X dX8_turns_20 (by decide) (fun _ => ?_) (fun h => absurd h (by decide))
    refine zr_aload0 X dX8_turns_69 ?_
    refine zr_callS1 (rm9 := zrm_X8_keys) X hnt zm_X8_64 (by decide) (by decide) (by decide) (Nat.le_of_ble_eq_true rfl) dX8_turns_70 ?_
    refine zn_X8_keys hM_1 ?_
    refine zr_iret X (by decide) (by decide) dX8_turns_73 ?_
    rw [qKeyed_was hW hp1] at k1; exact k1 _ (by repeat (first | exact zag.rf | assumption | refine zag.put ?_ (by omega) (by omega) | refine zag.tr ?_ (by assumption) (by omega) (by omega))) hM_1
  · skip
    intro hp1
    refine zr_istore2 X (by decide) rfl dX8_turns_4 ?_
    refine zr_aload0 X dX8_turns_5 ?_
    refine zr_bipush (v := (6 : Int32)) X dX8_turns_6 (by decide) ?_
    refine zr_iload1 X dX8_turns_8 ?_
    refine zr_iadd X dX8_turns_9 ?_
    refine zr_eq (x2 := (8 : Int32)) (by decide) ?_
    refine zr_iconst (v := (1 : Int32)) X dX8_turns_10 (by decide) ?_
    refine zr_aload0 X dX8_turns_11 ?_
    refine zr_bipush (v := (6 : Int32)) X dX8_turns_12 (by decide) ?_
    refine zr_iload1 X dX8_turns_14 ?_
    refine zr_iadd X dX8_turns_15 ?_
    refine zr_eq (x2 := (8 : Int32)) (by decide) ?_
    refine zr_ialdN (n := 8) X rfl (show _ < 310 from (by first | assumption | omega | decide)) dX8_turns_16 ?_
    refine zr_eq (x2 := (sX S 8)) (hM.1 8 (by decide)) ?_
    refine zr_isub X dX8_turns_17 ?_
    refine zr_iastN (n := 8) X rfl (by decide) dX8_turns_18 ?_
    have hM_2 : zMd _ (a) (tX S 8 ((1 : Int32) - (sX S 8))) := zMd_X hM (i := 8) (v := ((1 : Int32) - (sX S 8))) (by decide)
    refine zr_iload2 X dX8_turns_19 ?_
    refine zr_if_ne (tgt := 69) X dX8_turns_20 (by decide) (fun h => absurd h (by decide)) (fun _ => ?_)
    refine zr_aload0 X dX8_turns_23 ?_
    refine zr_callS1 (rm9 := zrm_X8_isPanic) X hnt zm_X8_84 (by decide) (by decide) (by decide) (Nat.le_of_ble_eq_true rfl) dX8_turns_24 ?_
    refine zn_X8_isPanic hM_2 ?_ ?_
    · skip
      intro hp2
      refine zr_if_eq (tgt := 69) X dX8_turns_27 (by decide) (fun h => absurd h (by decide)) (fun _ => ?_)
      refine zr_iconst (v := (0 : Int32)) X dX8_turns_30 (by decide) ?_
      refine zr_istore3 X (by decide) rfl dX8_turns_31 ?_
      exact zl_X8_turns (k9 := 2) X hnt hW (by decide) hp2 k1 (zng S + 1) 0 _ (by omega) (by repeat (first | exact zag.rf | assumption | refine zag.put ?_ (by omega) (by omega) | refine zag.tr ?_ (by assumption) (by omega) (by omega))) hM_2 (by omega)
    · skip
      intro hp2
      refine zr_if_eq (tgt := 69) X dX8_turns_27 (by decide) (fun _ => ?_) (fun h => absurd h (by decide))
      refine zr_aload0 X dX8_turns_69 ?_
      refine zr_callS1 (rm9 := zrm_X8_keys) X hnt zm_X8_64 (by decide) (by decide) (by decide) (Nat.le_of_ble_eq_true rfl) dX8_turns_70 ?_
      refine zn_X8_keys hM_2 ?_
      refine zr_iret X (by decide) (by decide) dX8_turns_73 ?_
      have e9 : qKey S 2 = qKeyed S 2 := by rw [qKey, if_neg (fun z => (show ¬ zPan (qKeyed S 2) from hp2) (zPanB_iff.mp z))]
      rw [e9] at k1; exact k1 _ (by repeat (first | exact zag.rf | assumption | refine zag.put ?_ (by omega) (by omega) | refine zag.tr ?_ (by assumption) (by omega) (by omega))) hM_2
theorem zq_X8_turns {l : Launch} {D : va_G} {b0 : Nat} {tA : Nat → ClassId} {sa sv : Nat → Nat} {K : Nat → Option Nat} {I : zI} {Qp : zI → Option AV → Prop} {Xp : String → zI → Prop} {a k9 : Nat} {S : zS} (hM : zMd I a S) (hW : zWf S) (hk : k9 < 3) (k1 : ∀ J : zI, zag I J a 1 → zMd J a (qKey S k9) → Qp J (some (vi (zkeys (qKey S k9))))) :
    zC l D b0 tA sa sv K yX8_turns (.code yX8_turns cX8_turns 5 (some .int)) zrm_X8_turns [vr (a) 15, vi ((nI k9))] I Qp Xp := by
  rcases (show k9 = 0 ∨ k9 = 1 ∨ k9 = 2 by omega) with rfl | rfl | rfl
  · exact zp0_X8_turns hM hW k1
  · exact zp1_X8_turns hM hW k1
  · exact zp2_X8_turns hM hW k1
abbrev zrm_X8_fits : Room := { frames := 1, cells := 0, slots := 0, locals := 21 }
/-- zeroes from lo on, up to hi -/
def zze (I : zI) (a lo hi : Nat) : zI := fun q i => if q = a ∧ lo ≤ i ∧ i < hi then 0 else I q i
theorem zze_0 {I : zI} {a lo : Nat} : zze I a lo lo = I := by
  funext q i
  unfold zze
  rw [if_neg (by omega)]
theorem zze_s {I : zI} {a lo k : Nat} (h : lo ≤ k) : zput (zze I a lo k) a k 0 = zze I a lo (k + 1) := by
  funext q i
  unfold zput zze
  by_cases h1 : q = a
  · subst h1
    rw [if_pos rfl]
    by_cases h2 : i = k
    · subst h2; rw [if_pos rfl, if_pos ⟨rfl, h, Nat.lt_succ_self _⟩]
    · rw [if_neg h2]
      by_cases h3 : lo ≤ i ∧ i < k
      · rw [if_pos ⟨rfl, h3⟩, if_pos ⟨rfl, h3.1, by omega⟩]
      · rw [if_neg (by omega), if_neg (by omega)]
  · rw [if_neg h1, if_neg (fun z => h1 z.1), if_neg (fun z => h1 z.1)]
theorem zze_ne {I : zI} {a lo hi q : Nat} (h : q ≠ a) : zze I a lo hi q = I q := by
  funext i
  unfold zze
  rw [if_neg (fun z => h z.1)]
theorem zze_out {I : zI} {a lo hi q i : Nat} (h : i < lo ∨ hi ≤ i) : zze I a lo hi q i = I q i := by unfold zze; rw [if_neg (by omega)]
theorem zze_in {I : zI} {a lo hi i : Nat} (h : lo ≤ i) (h2 : i < hi) : zze I a lo hi a i = 0 := by unfold zze; rw [if_pos ⟨rfl, h, h2⟩]
theorem zMd_zero {I : zI} {a g : Nat} {S : zS} (h : zMd I a S) (hg : g < 6) (hb : (∀ j : Nat, sG S g j = 0) ∧ ∀ s : Nat, sL S g s = []) : zMd (zze I a (16 + 29 * g) (16 + 29 * g + 29)) a S := by
  refine ⟨fun k hk => ?_, fun g9 hg9 => ⟨fun j9 hj9 => ?_, fun s9 hs9 => ?_⟩, fun c9 hc9 => ⟨fun j9 hj9 => ?_, fun k9 hk => ?_⟩⟩
  · rw [zze_out (by omega)]; exact h.1 k hk
  · by_cases e : g9 = g
    · subst e; rw [zze_in (by omega) (by omega)]; exact (hb.1 j9).symm
    · rw [zze_out (by omega)]; exact (h.2.1 g9 hg9).1 j9 hj9
  · by_cases e : g9 = g
    · subst e
      rw [hb.2 s9]
      refine ⟨?_, Nat.zero_le _, fun p hp => absurd hp (Nat.not_lt_zero _)⟩
      rw [zze_in (by omega) (by omega)]; rfl
    · exact ((h.2.1 g9 hg9).2 s9 hs9).out (fun i hi => zze_out (by omega))
  · rw [zze_out (by omega)]; exact (h.2.2 c9 hc9).1 j9 hj9
  · rw [zze_out (by omega)]; exact (h.2.2 c9 hc9).2 k9 hk
set_option maxRecDepth 20000 in
theorem zl_X8_fits {l : Launch} {D : va_G} {b0 : Nat} {tA : Nat → ClassId} {sa sv : Nat → Nat} {K : Nat → Option Nat} {I : zI} {Qp : zI → Option AV → Prop} {Xp : String → zI → Prop} {p : Program} {e : Env} {s : State} {m : MethodId} {args : Array Value} {below : List Frame} {meth : Method} {c : Code} {a : Nat} {mo : Int32} {S : zS}
    (X : zX p l e zrm_X8_fits s m args below meth c RX8 cX8_fits 4 none D b0 tA sa sv) (hnt : ∀ x ∈ c.exceptionTable.toList, False) (hM : zMd I a S) (hW : zWf S) (h6 : zng S < 6) (k1 : ∀ J : zI, zag I J a 1 → zMd J a (qAddGate S mo) → Qp J none) :
    ∀ (n : Nat) (j : Nat), j ≤ 29 → 29 - j < n → zG p l e zrm_X8_fits s m args below meth c 4 D b0 tA sa 0 0 (zQ below D b0 tA sa K args s zrm_X8_fits Qp Xp) K 6 [some (vr (a) 15), some (vi (mo)), some (vi ((nI (zng S)))), some (vi ((nI j)))] [] (zze I a (16 + 29 * (zng S)) (16 + 29 * (zng S) + j)) := by
  intro n
  induction n with
  | zero => intro j i1 i3; exact absurd i3 (Nat.not_lt_zero _)
  | succ n ih =>
    intro j i1 i3
    refine zr_iload3 X dX8_fits_6 ?_
    refine zr_bipush (v := (29 : Int32)) X dX8_fits_7 (by decide) ?_
    refine zr_nicmp_ge X (j) (29) (tgt := 26) (by omega) (by omega) dX8_fits_9 (by decide) (fun h1 => ?_) (fun h1 => ?_)
    · skip
      have hj : j = 29 := by omega
      subst hj
      have hM9 := zMd_zero hM h6 (hW.blank (zng S) (Nat.le_refl _))
      refine zr_aload0 X dX8_fits_26 ?_
      refine zr_iload2 X dX8_fits_27 ?_
      refine zr_iconst (v := (0 : Int32)) X dX8_fits_28 (by decide) ?_
      refine zr_callS2 (rm9 := zrm_X8_gateAt) X hnt zm_X8_34 (by decide) (by decide) (by decide) (Nat.le_of_ble_eq_true rfl) dX8_fits_29 ?_
      refine zn_X8_gateAt (g := zng S) (w := 0) ?_
      refine zr_iload1 X dX8_fits_32 ?_
      refine zr_iastN X rfl (show _ < 310 from (by first | assumption | omega)) dX8_fits_33 ?_
      have hM_1 : zMd _ (a) (tG S (zng S) 0 mo) := zMd_G hM9 (g := (zng S)) (j := 0) (v := mo) (by omega) (by first | decide | omega)
      refine zr_aload0 X dX8_fits_34 ?_
      refine zr_iconst (v := (4 : Int32)) X dX8_fits_35 (by decide) ?_
      refine zr_dup2 X dX8_fits_36 ?_
      refine zr_ialdN (n := 4) X rfl (show _ < 310 from (by first | assumption | omega | decide)) dX8_fits_37 ?_
      refine zr_eq (x2 := (sX (tG S (zng S) 0 mo) 4)) (hM_1.1 4 (by decide)) ?_
      refine zr_eq (x2 := (nI (zng S))) (hW.ng.2) ?_
      refine zr_iconst (v := (1 : Int32)) X dX8_fits_38 (by decide) ?_
      refine zr_iadd X dX8_fits_39 ?_
      refine zr_eq (x2 := (nI ((zng S) + 1))) (nI_add ((zng S)) (1)) ?_
      refine zr_iastN (n := 4) X rfl (by decide) dX8_fits_40 ?_
      have hM_2 : zMd _ (a) (tX (tG S (zng S) 0 mo) 4 (nI ((zng S) + 1))) := zMd_X hM_1 (i := 4) (v := (nI ((zng S) + 1))) (by decide)
      refine zr_vret X (by decide) (by decide) dX8_fits_41 ?_
      exact k1 _ (fun q hq => (zput_nq (by omega)).trans ((zput_nq (by omega)).trans (zze_ne (by omega)))) hM_2
    · skip
      refine zr_aload0 X dX8_fits_12 ?_
      refine zr_iload2 X dX8_fits_13 ?_
      refine zr_iload3 X dX8_fits_14 ?_
      refine zr_callS2 (rm9 := zrm_X8_gateAt) X hnt zm_X8_34 (by decide) (by decide) (by decide) (Nat.le_of_ble_eq_true rfl) dX8_fits_15 ?_
      refine zn_X8_gateAt (g := zng S) (w := j) ?_
      refine zr_iconst (v := (0 : Int32)) X dX8_fits_18 (by decide) ?_
      refine zr_iastN X rfl (show _ < 310 from (by first | assumption | omega)) dX8_fits_19 ?_
      refine zr_iinc3 (v := (nI (j + 1))) X (show nI (j) + Int32.ofInt 1 = nI (j + 1) from nI_1 (j)) (by decide) rfl dX8_fits_20 ?_
      refine zr_goto (tgt := 6) X dX8_fits_23 (by decide) ?_
      refine zr_I (zze_s (by omega)) ?_
      exact ih (j + 1) (by omega) (by omega)
set_option maxRecDepth 20000 in
theorem zp_X8_fits {l : Launch} {D : va_G} {b0 : Nat} {tA : Nat → ClassId} {sa sv : Nat → Nat} {K : Nat → Option Nat} {I : zI} {Qp : zI → Option AV → Prop} {Xp : String → zI → Prop} {a : Nat} {mo : Int32} {S : zS}
    (hM : zMd I a S) (hW : zWf S) (h6 : zng S < 6) (k1 : ∀ J : zI, zag I J a 1 → zMd J a (qAddGate S mo) → Qp J none) :
    zC l D b0 tA sa sv K yX8_fits (.code yX8_fits cX8_fits 4 none) zrm_X8_fits [vr (a) 15, vi (mo)] I Qp Xp := by
  refine zC_of (by decide +kernel) (Nat.le_of_ble_eq_true rfl) ?_
  intro p e s m args below meth c X hnt
  have X : zX p l e zrm_X8_fits s m args below meth c RX8 cX8_fits 4 none D b0 tA sa sv := X
  refine zr_lv (lv2 := [some (vr (a) 15), some (vi (mo)), none, none]) rfl ?_
  refine zr_aload0 X dX8_fits_0 ?_
  refine zr_iconst (v := (4 : Int32)) X dX8_fits_1 (by decide) ?_
  refine zr_ialdN (n := 4) X rfl (show _ < 310 from (by first | assumption | omega | decide)) dX8_fits_2 ?_
  refine zr_eq (x2 := (sX S 4)) (hM.1 4 (by decide)) ?_
  refine zr_eq (x2 := (nI (zng S))) (hW.ng.2) ?_
  refine zr_istore2 X (by decide) rfl dX8_fits_3 ?_
  refine zr_iconst (v := (0 : Int32)) X dX8_fits_4 (by decide) ?_
  refine zr_istore3 X (by decide) rfl dX8_fits_5 ?_
  refine zr_I (zze_0 (a := a) (lo := 16 + 29 * (zng S))).symm ?_
  exact zl_X8_fits X hnt hM hW h6 k1 30 0 (by omega) (by omega)
