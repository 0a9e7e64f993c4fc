/-! ===== keys; one more gate, one more card ===== -/
/-- a key turned -/
def qKeyed (S : zS) (k : Nat) : zS := tX S (6 + k) (1 - sX S (6 + k))
def qShut (S : zS) : Nat → zS
  | 0 => S
  | n + 1 => tG (tG (tG (qShut S n) n 1 0) n 2 0) n 3 0
def qKey (S : zS) (k : Nat) : zS := if zPanB (qKeyed S k) = true then qShut (qKeyed S k) 6 else qKeyed S k
abbrev zKs (S : zS) : Prop := (sX S 6 = 0 ∨ sX S 6 = 1) ∧ (sX S 7 = 0 ∨ sX S 7 = 1) ∧ (sX S 8 = 0 ∨ sX S 8 = 1)
theorem zKs_keyed {S : zS} {k : Nat} (h : zKs S) : zKs (qKeyed S k) := by
  have e : ∀ i, (sX S i = 0 ∨ sX S i = 1) → (sX (qKeyed S k) i = 0 ∨ sX (qKeyed S k) i = 1) := by
    intro i hi
    unfold qKeyed
    rw [tX_X]
    split
    · rename_i q
      subst q
      rcases hi with hi | hi <;> rw [hi]
      · exact Or.inr rfl
      · exact Or.inl rfl
    · exact hi
  exact ⟨e 6 h.1, e 7 h.2.1, e 8 h.2.2⟩
theorem zRw_key {I : zI} {r k : Nat} {S : zS} (h : zRw I r S) (hk : k < 3) (hK : zKs S) : zRw (zput I r 6 ((sX S 6 + 2 * sX S 7 + 4 * sX S 8) ^^^ ((1 : Int32) <<< (nI k &&& 31)))) r (qKeyed S k) := by
  have hag : zag I (zput I r 6 ((sX S 6 + 2 * sX S 7 + 4 * sX S 8) ^^^ ((1 : Int32) <<< (nI k &&& 31)))) r 1 := zag.rf.put (by omega) (by omega)
  refine ⟨fun i hi h6 => ?_, ?_, fun g hg => (h.2.2.1 g hg).ag hag (by omega), fun c hc => (h.2.2.2 c hc).ag hag (by omega)⟩
  · rw [zput_nj h6, h.1 i hi h6]
    have : i ≠ 6 + k := by
      intro e
      rcases (show k = 0 ∨ k = 1 ∨ k = 2 by omega) with rfl | rfl | rfl <;> subst e <;> exact h6 rfl
    unfold qKeyed
    rw [tX_X, if_neg this]
  · rw [zput_eq]
    obtain ⟨h6, h7, h8⟩ := hK
    unfold qKeyed
    rcases (show k = 0 ∨ k = 1 ∨ k = 2 by omega) with rfl | rfl | rfl <;> simp only [tX_X] <;> rcases h6 with h6 | h6 <;> rcases h7 with h7 | h7 <;> rcases h8 with h8 | h8 <;> rw [h6, h7, h8] <;> decide
abbrev zrm_X5_turnKey : Room := { frames := 3, cells := 0, slots := 0, locals := 60 }
set_option maxRecDepth 20000 in
theorem zl_X5_turnKey {l : Launch} {D : va_G} {b0 : Nat} {tA : Nat → ClassId} {sa sv : Nat → Nat} {K : zKt} {I : zI} {Qp : zI → Option AV → Prop} {Xp : String → zI → Prop} {p : Program} {e : Env} {s : State} {m : MethodId} {args : Array Value} {below : List Frame} {meth : Method} {c : Code} {a k : Nat} {S : zS}
    (X : zX p l e zrm_X5_turnKey s m args below meth c RX5 cX5_turnKey 6 none D b0 tA sa sv) (hnt : ∀ x ∈ c.exceptionTable.toList, False) (hW : zKs S) (hk : k < 3) (k1 : ∀ I' : zI, zag I I' a 45 → zRw I' a (qKey S k) → Qp I' none) (hp : zPan (qKeyed S k)) :
    ∀ (n : Nat) (j : Nat) (J : zI), j ≤ 6 → zag I J a 45 → zRw J a (qShut (qKeyed S k) j) → 6 - j < n → zG p l e zrm_X5_turnKey s m args below meth c 6 D b0 tA sa 0 0 (zQ below D b0 tA sa K args s zrm_X5_turnKey Qp Xp) K 30 [some (vr (a) 5), some (vi ((nI k))), some (vr (a + 1) 12), some (vi ((6 : Int32))), some (vi ((nI j))), none] [] J := by
  intro n
  induction n with
  | zero => intro j J i0 i1 i2 i6; exact absurd i6 (Nat.not_lt_zero _)
  | succ n ih =>
    intro j J i0 i1 i2 i6
    refine zr_iload4 X dX5_turnKey_30 ?_
    refine zr_iload3 X dX5_turnKey_32 ?_
    refine zr_nicmp_ge X (j) (6) (tgt := 53) (by omega) (by omega) dX5_turnKey_33 (by decide) (fun h1 => ?_) (fun h1 => ?_)
    · skip
      refine zr_vret X (by decide) (by decide) dX5_turnKey_53 ?_
      have hj : j = 6 := by omega
      subst hj
      refine k1 _ i1 ?_
      rw [qKey, if_pos (zPanB_iff.mpr hp)]; exact i2
    · skip
      refine zr_aload2 X dX5_turnKey_36 ?_
      refine zr_iload4 X dX5_turnKey_37 ?_
      refine zr_aaldN X rfl rfl (by decide) (show _ < 6 from (by first | assumption | omega)) dX5_turnKey_39 ?_
      refine zr_astore5 X (by decide) rfl dX5_turnKey_40 ?_
      refine zr_aload5 X dX5_turnKey_42 ?_
      refine zr_callV0 (rm9 := zrm_X1_closePaddles) X hnt zm_X5_167 (by decide) (by decide) (by decide) (Nat.le_of_ble_eq_true rfl) dX5_turnKey_44 ?_
      refine zn_X1_closePaddles i2 (by omega) ?_
      intro J1 hg2 hR3
      refine zr_iinc4 (v := (nI (j + 1))) X (show nI (j) + Int32.ofInt 1 = nI (j + 1) from nI_1 (j)) (by decide) rfl dX5_turnKey_47 ?_
      refine zr_goto (tgt := 30) X dX5_turnKey_50 (by decide) ?_
      refine zr_forget (lv2 := [some (vr (a) 5), some (vi ((nI k))), some (vr (a + 1) 12), some (vi ((6 : Int32))), some (vi ((nI (j + 1)))), none]) (fun j9 v9 h9 => by rcases j9 with _ | _ | _ | _ | _ | _ | j9 <;> first | exact h9 | (simp at h9)) ?_
      exact ih (j + 1) _ (by omega) (by repeat (first | exact zag.rf | assumption | refine zag.put ?_ (by omega) (by omega) | refine zag.tr ?_ (by assumption) (by omega) (by omega))) hR3 (by omega)
set_option maxRecDepth 20000 in
theorem zp_X5_turnKey {l : Launch} {D : va_G} {b0 : Nat} {tA : Nat → ClassId} {sa sv : Nat → Nat} {K : zKt} {I : zI} {Qp : zI → Option AV → Prop} {Xp : String → zI → Prop} {a k : Nat} {S : zS}
    (hR : zRw I a S) (hW : zKs S) (hk : k < 3) (k1 : ∀ I' : zI, zag I I' a 45 → zRw I' a (qKey S k) → Qp I' none) :
    zC l D b0 tA sa sv K yX5_turnKey (.code yX5_turnKey cX5_turnKey 6 none) zrm_X5_turnKey [vr (a) 5, vi ((nI k))] I Qp Xp := by
  refine zC_of (by decide +kernel) (Nat.le_of_ble_eq_true rfl) ?_
  intro p e s m args below meth c X hnt
  have X : zX p l e zrm_X5_turnKey s m args below meth c RX5 cX5_turnKey 6 none D b0 tA sa sv := X
  refine zr_lv (lv2 := [some (vr (a) 5), some (vi ((nI k))), none, none, none, none]) rfl ?_
  refine zr_aload0 X dX5_turnKey_0 ?_
  refine zr_aload0 X dX5_turnKey_1 ?_
  refine zr_getI X zf_X5_45 rfl dX5_turnKey_2 ?_
  refine zr_eq (x2 := (sX S 6 + 2 * sX S 7 + 4 * sX S 8)) (hR.2.1) ?_
  refine zr_iconst (v := (1 : Int32)) X dX5_turnKey_5 (by decide) ?_
  refine zr_iload1 X dX5_turnKey_6 ?_
  refine zr_ishl X dX5_turnKey_7 ?_
  refine zr_ixor X dX5_turnKey_8 ?_
  refine zr_putI X zf_X5_45 rfl (Or.inl rfl) dX5_turnKey_9 ?_
  have hR_1 : zRw _ a (qKeyed S k) := zRw_key hR hk hW
  refine zr_aload0 X dX5_turnKey_12 ?_
  refine zr_callV0 (rm9 := zrm_X5_isPanic) X hnt zm_X5_88 (by decide) (by decide) (by decide) (Nat.le_of_ble_eq_true rfl) dX5_turnKey_13 ?_
  refine zp_X5_isPanic hR_1 (zKs_keyed hW) ?_ ?_
  · skip
    intro hp1
    refine zr_if_eq (tgt := 53) X dX5_turnKey_16 (by decide) (fun h => absurd h (by decide)) (fun _ => ?_)
    refine zr_aload0 X dX5_turnKey_19 ?_
    refine zr_getR X zf_X5_11 rfl (by decide) (by decide) dX5_turnKey_20 ?_
    refine zr_astore2 X (by decide) rfl dX5_turnKey_23 ?_
    refine zr_aload2 X dX5_turnKey_24 ?_
    refine zr_alen (v := 6) X (Or.inr (Or.inl rfl)) rfl dX5_turnKey_25 ?_
    refine zr_istore3 X (by decide) rfl dX5_turnKey_26 ?_
    refine zr_iconst (v := (0 : Int32)) X dX5_turnKey_27 (by decide) ?_
    refine zr_istore4 X (by decide) rfl dX5_turnKey_28 ?_
    exact zl_X5_turnKey (I := I) X hnt hW hk k1 (by assumption) 7 0 _ (by omega) (by repeat (first | exact zag.rf | assumption | refine zag.put ?_ (by omega) (by omega) | refine zag.tr ?_ (by assumption) (by omega) (by omega))) hR_1 (by omega)
  · skip
    intro hp1
    refine zr_if_eq (tgt := 53) X dX5_turnKey_16 (by decide) (fun _ => ?_) (fun h => absurd h (by decide))
    refine zr_vret X (by decide) (by decide) dX5_turnKey_53 ?_
    refine k1 _ (by repeat (first | exact zag.rf | assumption | refine zag.put ?_ (by omega) (by omega) | refine zag.tr ?_ (by assumption) (by omega) (by omega))) ?_
    rw [qKey, if_neg (fun z => absurd (zPanB_iff.mp z) (by assumption))]; exact hR_1
theorem qShut_X {S : zS} : ∀ n, sX (qShut S n) = sX S
  | 0 => rfl
  | n + 1 => qShut_X n
theorem qShut_L {S : zS} : ∀ n, sL (qShut S n) = sL S
  | 0 => rfl
  | n + 1 => qShut_L n
theorem qShut_G {S : zS} : ∀ n g j, sG (qShut S n) g j = if g < n ∧ (j = 1 ∨ j = 2 ∨ j = 3) then 0 else sG S g j
  | 0, g, j => by rw [if_neg (by omega)]; rfl
  | n + 1, g, j => by
    rw [qShut, tG_G, tG_G, tG_G, qShut_G n]
    by_cases h1 : g = n
    · subst h1
      by_cases h2 : j = 1 ∨ j = 2 ∨ j = 3
      · rcases h2 with rfl | rfl | rfl <;> simp
      · rw [if_neg (by omega), if_neg (by omega), if_neg (by omega), if_neg (by omega), if_neg (by omega)]
    · rw [if_neg (by omega), if_neg (by omega), if_neg (by omega)]
      by_cases h3 : g < n ∧ (j = 1 ∨ j = 2 ∨ j = 3)
      · rw [if_pos h3, if_pos (by omega)]
      · rw [if_neg h3, if_neg (by omega)]
theorem zWa_shut {S : zS} (h : zWa S) : ∀ n, zWa (qShut S n)
  | 0 => h
  | n + 1 => zWa_tG (zWa_tG (zWa_tG (zWa_shut h n) (Or.inr rfl)) (Or.inr rfl)) (Or.inr rfl)
theorem zWa_keyed {S : zS} {k : Nat} (h : zWa S) (hk : k < 3) : zWa (qKeyed S k) := by
  have hK : zKs (qKeyed S k) := zKs_keyed h.2.2.2.2.2.2.1
  obtain ⟨h1, h2, h3, h4, h5, h6, h7, h8⟩ := h
  have e : ∀ i, i < 6 → sX (qKeyed S k) i = sX S i := fun i hi => by unfold qKeyed; rw [tX_X, if_neg (by omega)]
  have e1 : zng (qKeyed S k) = zng S := by unfold zng; rw [e 4 (by omega)]
  have e2 : znc (qKeyed S k) = znc S := by unfold znc; rw [e 5 (by omega)]
  unfold zWa
  rw [e1, e2, e 0 (by omega), e 1 (by omega), e 4 (by omega), e 5 (by omega)]
  exact ⟨h1, h2, h3, h4, h5, h6, hK, h8⟩
theorem zWf_key {S : zS} {k : Nat} (h : zWf S) (hk : k < 3) : zWf (qKey S k) := by
  have hA := zWa_keyed h.a hk
  unfold qKey
  split
  · have hB := zWa_shut hA 6
    have h0 : ∀ g, sG (qShut (qKeyed S k) 6) g 1 = 0 ∧ sG (qShut (qKeyed S k) 6) g 2 = 0 ∧ sG (qShut (qKeyed S k) 6) g 3 = 0 := fun g => by
      rcases Nat.lt_or_ge g 6 with q | q
      · rw [qShut_G, qShut_G, qShut_G, if_pos (by omega), if_pos (by omega), if_pos (by omega)]; exact ⟨rfl, rfl, rfl⟩
      · have := hB.2.2.1 g (Nat.le_trans hB.1.1 q)
        exact ⟨this.1 1, this.1 2, this.1 3⟩
    refine zWf_mk hB (fun g => ?_) (fun _ g => (h0 g).2.1)
    have hp := h.pad g
    refine ⟨?_, ?_, Or.inl ⟨(h0 g).2.1, (h0 g).1, (h0 g).2.2⟩⟩
    · rw [qShut_G, if_neg (by omega)]; exact hp.1
    · rw [qShut_G, if_neg (by omega)]; exact hp.2.1
  · rename_i hn
    exact zWf_mk hA (fun g => zPad_of (h.pad g) rfl (Or.inr rfl)) (fun z => absurd (zPanB_iff.mpr z) hn)
/-- one more gate, one more card -/
def qAddGate (S : zS) (m : Int32) : zS := tX (tG S (zng S) 0 m) 4 (nI (zng S + 1))
def qAddCard (S : zS) (nm : Nat → Int32) (t : Int32) : zS := tX (S.1, S.2.1, S.2.2.1, zu2 S.2.2.2.1 (znc S) 0 t, fun x y => if x = znc S then nm y else sM S x y) 5 (nI (znc S + 1))
theorem zng_lt {S : zS} (hW : zWf S) : (sX S 4).toNatClampNeg = zng S ∧ sX S 4 = nI (zng S) := ⟨rfl, hW.ng.2⟩
theorem zq_X5_addGate {l : Launch} {D : va_G} {b0 : Nat} {tA : Nat → ClassId} {sa sv : Nat → Nat} {K : zKt} {I : zI} {Qp : zI → Option AV → Prop} {Xp : String → zI → Prop} {a : Nat} {m : Int32} {S : zS} (hR : zRw I a S) (hW : zWf S) (h6 : zng S < 6) (k1 : ∀ I' : zI, zag I I' a 45 → zRw I' a (qAddGate S m) → Qp I' none) :
    zC l D b0 tA sa sv K yX5_addGate (.code yX5_addGate cX5_addGate 2 none) zrm_X5_addGate [vr (a) 5, vi (m)] I Qp Xp := by
  have e2 := hR.ng hW
  refine zp_X5_addGate (fun h => ?_) (fun _ h => ?_) (fun _ _ => ?_)
  · rw [e2] at h; exact absurd h (nI_pos (by omega))
  · rw [e2] at h; exact absurd ((nI_leI (a := 6) (by decide) (by omega)).mp h) (by omega)
  · rw [e2, nI_clamp (by omega), nI_1]
    refine k1 _ ((zag.rf.put (by omega) (by omega)).put (by omega) (by omega)) ?_
    exact zRw_X (zRw_G hR h6 (j := 0) (v := m) (by decide) rfl rfl) (i := 4) (by decide) (by decide)
theorem zq_X5_addCard {l : Launch} {D : va_G} {b0 : Nat} {tA : Nat → ClassId} {sa sv : Nat → Nat} {K : zKt} {I : zI} {Qp : zI → Option AV → Prop} {Xp : String → zI → Prop} {a : Nat} {t : Int32} {nm : Nat → Int32} {S : zS} (hR : zRw I a S) (hW : zWf S) (h12 : znc S < 12) (k1 : ∀ I' : zI, zag I I' a 45 → zRw I' a (qAddCard S nm t) → Qp I' none) :
    zC l D b0 tA sa sv K yX5_addCard (.code yX5_addCard cX5_addCard 3 none) zrm_X5_addCard [vr (a) 5, vi (znm nm 6), vi (t)] I Qp Xp := by
  have e3 := hR.nc hW
  refine zp_X5_addCard (fun h => ?_) (fun _ h => ?_) (fun _ _ => ?_)
  · rw [e3] at h; exact absurd h (nI_pos (by omega))
  · rw [e3] at h; exact absurd ((nI_leI (a := 12) (by decide) (by omega)).mp h) (by omega)
  · rw [e3, nI_clamp (by omega), nI_1]
    refine k1 _ (((zag.rf.put (by omega) (by omega)).put (by omega) (by omega)).put (by omega) (by omega)) ?_
    have h0 := hW.blankc (znc S) (Nat.le_refl _)
    obtain ⟨c0, c1, c2, c3, c4⟩ := hR.2.2.2 (znc S) h12
    refine zRw_X (S := (S.1, S.2.1, S.2.2.1, zu2 S.2.2.2.1 (znc S) 0 t, fun x y => if x = znc S then nm y else sM S x y)) (zRw_c hR h12 ((zag.rf.put (by omega) (by omega)).put (by omega) (by omega)) rfl rfl rfl (fun k hk => ⟨?_, ?_⟩) ?_) (i := 5) (by decide) (by decide)
    · funext y; exact zu2_ne (fun z => hk z.1)
    · funext y; exact if_neg hk
    · have en : (fun y => if znc S = znc S then nm y else sM S (znc S) y) = nm := funext fun y => if_pos rfl
      refine ⟨?_, ?_, ?_, ?_, ?_⟩
      · rw [zput_nj (by decide), zput_eq]
        show _ = znm (fun y => if znc S = znc S then nm y else sM S (znc S) y) 6
        rw [en]
      · rw [zput_eq]; exact zu2_eq.symm
      · rw [zput_nj (by decide), zput_nj (by decide), c2]; exact (zu2_ne (by omega)).symm
      · rw [zput_nj (by decide), zput_nj (by decide), c3]; exact (zu2_ne (by omega)).symm
      · rw [zput_nj (by decide), zput_nj (by decide), c4]; exact (zu2_ne (by omega)).symm
theorem zWf_addGate {S : zS} {m : Int32} (h : zWf S) (h6 : zng S < 6) (hm : m = 0 ∨ m = 1 ∨ m = 2) : zWf (qAddGate S m) := by
  obtain ⟨h1, h2, h3, h4, h5, hh, h7, h8, h9, h10, h11⟩ := h.a
  have eX : ∀ i, i ≠ 4 → sX (qAddGate S m) i = sX S i := fun i hi => by unfold qAddGate; rw [tX_X, if_neg hi, tG_X]
  have e4 : sX (qAddGate S m) 4 = nI (zng S + 1) := by unfold qAddGate; rw [tX_X, if_pos rfl]
  have e1 : zng (qAddGate S m) = zng S + 1 := by unfold zng; rw [e4]; exact nI_clamp (by omega)
  have e2 : znc (qAddGate S m) = znc S := by unfold znc; rw [eX 5 (by omega)]
  have eG : ∀ g j, sG (qAddGate S m) g j = if g = zng S ∧ j = 0 then m else sG S g j := fun _ _ => rfl
  refine zWf_mk ?_ (fun g => ?_) (fun z g => ?_)
  · unfold zWa
    rw [e1, e2, e4, eX 0 (by omega), eX 1 (by omega), eX 5 (by omega), eX 6 (by omega), eX 7 (by omega), eX 8 (by omega)]
    exact ⟨⟨h6, rfl⟩, h2, fun g hg => ⟨fun j => by rw [eG, if_neg (by omega)]; exact (h3 g (by omega)).1 j, (h3 g (by omega)).2⟩, h4, h5, hh, h7, h8, h9, h10, h11⟩
  · by_cases e : g = zng S
    · subst e
      have hb := (h3 (zng S) (Nat.le_refl _)).1
      unfold zPad
      rw [eG, eG, eG, eG, eG, if_pos ⟨rfl, rfl⟩, if_neg (by omega), if_neg (by omega), if_neg (by omega), if_neg (by omega), hb 1, hb 2, hb 3, hb 6]
      exact ⟨hm, Or.inl rfl, Or.inl ⟨rfl, rfl, rfl⟩⟩
    · exact zPad_of (h.pad g) (funext fun j => by rw [eG, if_neg (fun z => e z.1)]) (Or.inr rfl)
  · rw [eG, if_neg (by omega)]
    refine h.pan ?_ g
    unfold zPan at z ⊢
    rw [eX 6 (by omega), eX 7 (by omega), eX 8 (by omega)] at z
    exact z
theorem zWf_addCard {S : zS} {nm : Nat → Int32} {t : Int32} (h : zWf S) (h12 : znc S < 12) (hn : ∃ n : Nat, 1 ≤ n ∧ n ≤ 6 ∧ ∀ k : Nat, (k < n → 97 ≤ nm k ∧ nm k ≤ 122) ∧ (n ≤ k → nm k = 0)) : zWf (qAddCard S nm t) := by
  obtain ⟨h1, h2, h3, h4, h5, hh, h7, h8, h9, h10, h11⟩ := h.a
  have eX : ∀ i, i ≠ 5 → sX (qAddCard S nm t) i = sX S i := fun i hi => by unfold qAddCard; rw [tX_X, if_neg hi]
  have e5 : sX (qAddCard S nm t) 5 = nI (znc S + 1) := by unfold qAddCard; rw [tX_X, if_pos rfl]
  have e1 : zng (qAddCard S nm t) = zng S := by unfold zng; rw [eX 4 (by omega)]
  have e2 : znc (qAddCard S nm t) = znc S + 1 := by unfold znc; rw [e5]; exact nI_clamp (by omega)
  have eC : ∀ c j, sC (qAddCard S nm t) c j = if c = znc S ∧ j = 0 then t else sC S c j := fun _ _ => rfl
  have eM : ∀ c j, sM (qAddCard S nm t) c j = if c = znc S then nm j else sM S c j := fun _ _ => rfl
  refine zWf_mk ?_ (fun g => zPad_of (h.pad g) rfl (Or.inr rfl)) (fun z g => ?_)
  · unfold zWa
    rw [e1, e2, e5, eX 0 (by omega), eX 1 (by omega), eX 4 (by omega), eX 6 (by omega), eX 7 (by omega), eX 8 (by omega)]
    refine ⟨h1, ⟨h12, rfl⟩, h3, fun g s y hy => Nat.le_succ_of_le (h4 g s y hy), h5, hh, h7, h8, fun c => ?_, fun c hc => ⟨fun j => ?_, fun k => ?_⟩, fun c hc => ?_⟩
    · rw [eC, eC, if_neg (by omega), if_neg (by omega)]; exact h9 c
    · rw [eC, if_neg (by omega)]; exact (h10 c (by omega)).1 j
    · rw [eM, if_neg (by omega)]; exact (h10 c (by omega)).2 k
    · by_cases e : c = znc S
      · subst e
        obtain ⟨n, n1, n2, n3⟩ := hn
        exact ⟨n, n1, n2, fun k => by rw [eM, if_pos rfl]; exact n3 k⟩
      · obtain ⟨n, n1, n2, n3⟩ := h11 c (by omega)
        exact ⟨n, n1, n2, fun k => by rw [eM, if_neg e]; exact n3 k⟩
  · refine h.pan ?_ g
    unfold zPan at z ⊢
    rw [eX 6 (by omega), eX 7 (by omega), eX 8 (by omega)] at z
    exact z
