/-! ===== the reference reads a whole text ===== -/
def zZero : zS := (fun _ => 0, fun _ _ => 0, fun _ _ => [], fun _ _ => 0, fun _ _ => 0)
theorem zMd_zze {I : zI} {a : Nat} : zMd (zze I a 0 310) a zZero :=
  ⟨fun i hi => zze_in (Nat.zero_le _) (by omega), fun g hg => ⟨fun j hj => zze_in (Nat.zero_le _) (by omega), fun s hs => ⟨zze_in (Nat.zero_le _) (by omega), Nat.zero_le _, fun p hp => absurd hp (Nat.not_lt_zero _)⟩⟩, fun c hc => ⟨fun j hj => zze_in (Nat.zero_le _) (by omega), fun k hk => zze_in (Nat.zero_le _) (by omega)⟩⟩
theorem zZero_hf {a b : Int32} : tX (tX zZero 0 a) 1 b = tX (tX zBlank 0 a) 1 b := by
  refine Prod.ext ?_ rfl
  funext i
  show va_up (va_up (fun _ => 0) 0 a) 1 b i = va_up (va_up (sX zBlank) 0 a) 1 b i
  unfold va_up
  split
  · rfl
  · split
    · rfl
    · rename_i h1 h0
      show (0 : Int32) = if i = 0 then 3 else if i = 1 then 2 else 0
      rw [if_neg h0, if_neg h1]
/-- ahead of the reading of a text -/
def zLd (I : zI) (y L : Nat) : zI := zput (zput (zput (zput (zput (zput I y 0 0) y 2 0) y 3 (nI L)) y 4 0) y 5 0) y 6 (-1)
theorem zLd_q {I : zI} {y L q : Nat} (h : q ≠ y) : zLd I y L q = I q := by
  unfold zLd
  rw [zput_nq h, zput_nq h, zput_nq h, zput_nq h, zput_nq h, zput_nq h]
theorem zLd_P {I : zI} {y L f : Nat} {t : Nat → Nat} (h : zBu I y t f) (hL : L ≤ f) : zPq (zze (zLd I y L) (y + 3) 0 310) y t L 0 := by
  have e : zze (zLd I y L) (y + 3) 0 310 y = zLd I y L y := zze_ne (by omega)
  have e1 : zze (zLd I y L) (y + 3) 0 310 (y + 1) = I (y + 1) := (zze_ne (by omega)).trans (zLd_q (by omega))
  unfold zPq zBu
  rw [e, e1]
  have hf := h.1
  exact ⟨(zput_nj (by decide)).trans zput_eq, ⟨(zput_nj (by decide)).trans ((zput_nj (by decide)).trans ((zput_nj (by decide)).trans zput_eq)), zput_eq⟩, (zput_nj (by decide)).trans ((zput_nj (by decide)).trans zput_eq), Nat.zero_le _, by omega, h.2.1, fun k hk => h.2.2 k (by omega)⟩
/-- what a reading leaves of the object -/
theorem zRf_read {F I J : zI} {y L f : Nat} {t : Nat → Nat} {er e2 : Int32} {S : zS} {U : List zS} (h : zRf F I y t f er S U) (g : zfm (zze (zLd I y L) (y + 3) 0 310) J y) : zRf F (zput J y 7 e2) y t 0 e2 S U ∧ zput J y 7 e2 y 0 = 0 := by
  have e : ∀ j, zze (zLd I y L) (y + 3) 0 310 y j = zLd I y L y j := fun j => congrFun (zze_ne (by omega)) j
  have q : ∀ q, q ≠ y → q ≠ y + 3 → zput J y 7 e2 q = I q := fun q h1 h2 => (zput_nq h1).trans ((g.1 q h1 h2).trans ((zze_ne h2).trans (zLd_q h1)))
  have e12 : zput J y 7 e2 y 12 = I y 12 := by
    rw [zput_nj (by decide), g.2.2.2.2.2, e]
    unfold zLd
    rw [zput_nj (by decide), zput_nj (by decide), zput_nj (by decide), zput_nj (by decide), zput_nj (by decide), zput_nj (by decide)]
  have e2' : zput J y 7 e2 y 2 = nI 0 := by
    rw [zput_nj (by decide), g.2.2.1, e]
    unfold zLd
    rw [zput_nj (by decide), zput_nj (by decide), zput_nj (by decide), zput_nj (by decide), zput_eq]; rfl
  have e0 : zput J y 7 e2 y 0 = 0 := by
    rw [zput_nj (by decide), g.2.1, e]
    unfold zLd
    rw [zput_nj (by decide), zput_nj (by decide), zput_nj (by decide), zput_nj (by decide), zput_nj (by decide), zput_eq]
  obtain ⟨h1, h2, h3, h4, h5, h6, h7⟩ := h
  refine ⟨⟨⟨e2', Nat.zero_le _, h1.2.2.1, fun k hk => absurd hk (Nat.not_lt_zero _)⟩, zput_eq, h3.kept (q _ (by omega) (by omega)), h4, fun p hp => (q p (by omega) (by omega)).trans (h5 p hp), ⟨e12.trans h6.1, h6.2.1, fun i u hu => (h6.2.2 i u hu).kept (q _ (by omega) (by omega))⟩, h7⟩, e0⟩
abbrev zrm_X8_load : Room := { frames := 8, cells := 0, slots := 0, locals := 218 }
set_option maxRecDepth 20000 in
theorem zeg_X8_load {l : Launch} {D : va_G} {b0 : Nat} {tA : Nat → ClassId} {sa sv : Nat → Nat} {K : Nat → Option Nat} {I : zI} {Qp : zI → Option AV → Prop} {Xp : String → zI → Prop} {p : Program} {e : Env} {s : State} {m : MethodId} {args : Array Value} {below : List Frame} {meth : Method} {c : Code} {F9 : zI} {y f : Nat} {t : Nat → Nat} {er : Int32} {S : zS} {U : List zS} {J : zI} {L9 q2 : Nat} {S2 : zS}
    (X : zX p l e zrm_X8_load s m args below meth c RX8 cX8_load 3 (some .int) D b0 tA sa sv) (hnt : ∀ x ∈ c.exceptionTable.toList, False) (hC : zRf F9 I y t f er S U) (hJ : zfm (zze (zLd I y L9) (y + 3) 0 310) J y) (hP2 : zPq J y t L9 q2) (hM2 : zMd J (y + 3) S2) (hW2 : zWf S2) (hR9 : zRf F9 (zput J y 7 (-1)) y t 0 (-1) S U ∧ zput J y 7 (-1) y 0 = 0) (k1 : ∀ J9 : zI, zRf F9 J9 y t 0 (-1) S2 (qPush S U) → J9 y 0 = 0 → Qp J9 (some (vi (sX S2 4)))) :
    zG p l e zrm_X8_load s m args below meth c 3 D b0 tA sa 0 0 (zQ below D b0 tA sa K args s zrm_X8_load Qp Xp) K 151 [some (vr (y) 8), none, none] [] J := by
  refine zr_aload0 X dX8_load_151 ?_
  refine zr_aload0 X dX8_load_152 ?_
  refine zr_getI X zf_X8_114 rfl dX8_load_153 ?_
  refine zr_eq (x2 := (-1 : Int32)) (hP2.2.1.2) ?_
  refine zr_putI X zf_X8_13 rfl (Or.inl rfl) dX8_load_156 ?_
  refine zr_aload0 X dX8_load_159 ?_
  refine zr_callV0 (rm9 := zrm_X8_isGood) X hnt zm_X8_121 (by decide) (by decide) (by decide) (Nat.le_of_ble_eq_true rfl) dX8_load_160 ?_
  refine zg_X8_isGood ((zput_nj (by decide)).trans hP2.1) ?_
  refine zr_if_ne (tgt := 171) X dX8_load_163 (by decide) (fun _ => ?_) (fun h => absurd h (by decide))
  refine zr_aload0 X dX8_load_171 ?_
  refine zr_callV0 (rm9 := zrm_X8_remember) X hnt zm_X8_229 (by decide) (by decide) (by decide) (Nat.le_of_ble_eq_true rfl) dX8_load_172 ?_
  refine zp_X8_remember hR9.1 ?_
  intro J1 hR2 h03 e34
  refine zr_aload0 X dX8_load_175 ?_
  refine zr_getR X zf_X8_20 rfl (by decide) (by decide) dX8_load_176 ?_
  refine zr_aload0 X dX8_load_179 ?_
  refine zr_getR X zf_X8_17 rfl (by decide) (by decide) dX8_load_180 ?_
  refine zr_callS2 (rm9 := zrm_X8_copy) X hnt zm_X8_232 (by decide) (by decide) (by decide) (Nat.le_of_ble_eq_true rfl) dX8_load_183 ?_
  refine zp_X8_copy (S := S2) (by omega) (hM2.kept (e34.trans (zput_nq (by omega)))) ?_
  intro J5 hg6 hM7
  refine zr_aload0 X dX8_load_186 ?_
  refine zr_getR X zf_X8_17 rfl (by decide) (by decide) dX8_load_187 ?_
  refine zr_iconst (v := (4 : Int32)) X dX8_load_190 (by decide) ?_
  refine zr_ialdN (n := 4) X rfl (by decide) dX8_load_191 ?_
  refine zr_eq (x2 := (sX S2 4)) (hM7.1 4 (by decide)) ?_
  refine zr_iret X (by decide) (by decide) dX8_load_192 ?_
  exact k1 _ (hR2.now hg6 hM7 hW2) ((congrFun (hg6 y (by omega)) 0).trans (h03.trans hR9.2))
set_option maxRecDepth 20000 in
theorem zeb_X8_load {l : Launch} {D : va_G} {b0 : Nat} {tA : Nat → ClassId} {sa sv : Nat → Nat} {K : Nat → Option Nat} {I : zI} {Qp : zI → Option AV → Prop} {Xp : String → zI → Prop} {p : Program} {e : Env} {s : State} {m : MethodId} {args : Array Value} {below : List Frame} {meth : Method} {c : Code} {F9 : zI} {y f : Nat} {t : Nat → Nat} {er : Int32} {S : zS} {U : List zS} {J : zI} {e9 : Int32 × Nat}
    (X : zX p l e zrm_X8_load s m args below meth c RX8 cX8_load 3 (some .int) D b0 tA sa sv) (hnt : ∀ x ∈ c.exceptionTable.toList, False) (hC : zRf F9 I y t f er S U) (hE2 : zEq J y e9) (hR9 : zRf F9 (zput J y 7 (nI e9.2)) y t 0 (nI e9.2) S U ∧ zput J y 7 (nI e9.2) y 0 = 0) (k2 : ∀ J9 : zI, zRf F9 J9 y t 0 (nI e9.2) S U → J9 y 0 = 0 → Qp J9 (some (vi e9.1))) :
    zG p l e zrm_X8_load s m args below meth c 3 D b0 tA sa 0 0 (zQ below D b0 tA sa K args s zrm_X8_load Qp Xp) K 151 [some (vr (y) 8), none, none] [] J := by
  refine zr_aload0 X dX8_load_151 ?_
  refine zr_aload0 X dX8_load_152 ?_
  refine zr_getI X zf_X8_114 rfl dX8_load_153 ?_
  refine zr_eq (x2 := (nI e9.2)) (hE2.2) ?_
  refine zr_putI X zf_X8_13 rfl (Or.inl rfl) dX8_load_156 ?_
  refine zr_aload0 X dX8_load_159 ?_
  refine zr_callV0 (rm9 := zrm_X8_isGood) X hnt zm_X8_121 (by decide) (by decide) (by decide) (Nat.le_of_ble_eq_true rfl) dX8_load_160 ?_
  refine zb_X8_isGood (fun z => hE2.1.2 (hE2.1.1.symm.trans ((zput_nj (by decide)).symm.trans z))) ?_
  refine zr_if_ne (tgt := 171) X dX8_load_163 (by decide) (fun h => absurd h (by decide)) (fun _ => ?_)
  refine zr_aload0 X dX8_load_166 ?_
  refine zr_getI X zf_X8_111 rfl dX8_load_167 ?_
  refine zr_eq (x2 := (J (y) 5)) ((zput_nj (by decide))) ?_
  refine zr_eq (x2 := e9.1) (hE2.1.1) ?_
  refine zr_iret X (by decide) (by decide) dX8_load_170 ?_
  exact k2 _ hR9.1 hR9.2
set_option maxRecDepth 20000 in
theorem zl_X8_load {l : Launch} {D : va_G} {b0 : Nat} {tA : Nat → ClassId} {sa sv : Nat → Nat} {K : Nat → Option Nat} {I : zI} {Qp : zI → Option AV → Prop} {Xp : String → zI → Prop} {p : Program} {e : Env} {s : State} {m : MethodId} {args : Array Value} {below : List Frame} {meth : Method} {c : Code} {F9 : zI} {y f n9 : Nat} {t : Nat → Nat} {er : Int32} {S : zS} {U : List zS} {RES : zRs}
    (X : zX p l e zrm_X8_load s m args below meth c RX8 cX8_load 3 (some .int) D b0 tA sa sv) (hnt : ∀ x ∈ c.exceptionTable.toList, False) (hC : zRf F9 I y t f er S U) (k1 : ∀ (J : zI) (p2 : Nat) (S2 : zS), RES = .inr (p2, S2) → zRf F9 J y t 0 (-1) S2 (qPush S U) → J y 0 = 0 → Qp J (some (vi (sX S2 4)))) (k2 : ∀ (J : zI) (e : Int32 × Nat), RES = .inl e → zRf F9 J y t 0 (nI e.2) S U → J y 0 = 0 → Qp J (some (vi e.1))) :
    ∀ (n : Nat) (pp qq : Nat) (T : zS) (J : zI), pAll t n9 (n9 - pp) pp T = RES → zfm (zze (zLd I y n9) (y + 3) 0 310) J y → zPq J y t n9 qq → tSkip t n9 qq = pp → zMd J (y + 3) T → zWf T → n9 - pp < n → zG p l e zrm_X8_load s m args below meth c 3 D b0 tA sa 0 0 (zQ below D b0 tA sa K args s zrm_X8_load Qp Xp) K 129 [some (vr (y) 8), none, none] [] J := by
  intro n
  induction n with
  | zero => intro pp qq T J i1 i2 i3 i4 i5 i6 i9; exact absurd i9 (Nat.not_lt_zero _)
  | succ n ih =>
    intro pp qq T J i1 i2 i3 i4 i5 i6 i9
    have hn5 := i3.2.2.2.2.1
    have hqn := i3.2.2.2.1
    have hpl := tSkip_le (t := t) i3.2.2.2.1
    refine zr_aload0 X dX8_load_129 ?_
    refine zr_callV0 (rm9 := zrm_X8_isGood) X hnt zm_X8_121 (by decide) (by decide) (by decide) (Nat.le_of_ble_eq_true rfl) dX8_load_130 ?_
    refine zg_X8_isGood i3.1 ?_
    refine zr_if_eq (tgt := 151) X dX8_load_133 (by decide) (fun h => absurd h (by decide)) (fun _ => ?_)
    refine zr_aload0 X dX8_load_136 ?_
    refine zr_callV0 (rm9 := zrm_X8_ahead) X hnt zm_X8_125 (by decide) (by decide) (by decide) (Nat.le_of_ble_eq_true rfl) dX8_load_137 ?_
    refine zp_X8_ahead (p9 := pp) i3 i4 ?_ ?_
    · skip
      intro J8 hg9 fr10 hP11 hb1 h22; have hM12 : zMd J8 (y + 3) T := zMd.ag i5 hg9 (by omega); have fr10 : zfm (zze (zLd I y n9) (y + 3) 0 310) J8 y := zfm.tr i2 fr10; have := hP11.2.2.2.1
      refine zr_iconst (v := (-1 : Int32)) X dX8_load_140 (by decide) ?_
      refine zr_icmp_eq (tgt := 151) X dX8_load_141 (by decide) (fun h => absurd h (zm1 (by omega))) (fun _ => ?_)
      refine zr_aload0 X dX8_load_144 ?_
      refine zr_callV0 (rm9 := zrm_X8_statement) X hnt zm_X8_226 (by decide) (by decide) (by decide) (Nat.le_of_ble_eq_true rfl) dX8_load_145 ?_
      refine zp_X8_statement (p9 := pp) hP11 (tSkip_id i3.2.2.2.1 i4) hM12 i6 ?_ ?_
      · skip
        intro J13 p14 q15 T16 hq17 fr18 hP19 hp20 hM21 hW22; have fr18 : zfm (zze (zLd I y n9) (y + 3) 0 310) J13 y := zfm.tr fr10 fr18
        refine zr_goto (tgt := 129) X dX8_load_148 (by decide) ?_
        have hgt := pStmt_gt (show pp ≤ n9 by omega) hq17
        have i1b := i1
        rw [pAll_step (by omega), hq17] at i1b
        exact ih _ _ _ _ i1b fr18 hP19 hp20 hM21 hW22 (by omega)
      · skip
        intro J23 e24 hq25 fr26 hE27; have fr26 : zfm (zze (zLd I y n9) (y + 3) 0 310) J23 y := zfm.tr fr10 fr26
        refine zr_goto (tgt := 129) X dX8_load_148 (by decide) ?_
        refine zr_aload0 X dX8_load_129 ?_
        refine zr_callV0 (rm9 := zrm_X8_isGood) X hnt zm_X8_121 (by decide) (by decide) (by decide) (Nat.le_of_ble_eq_true rfl) dX8_load_130 ?_
        refine zb_X8_isGood (fun z => hE27.1.2 (hE27.1.1.symm.trans z)) ?_
        refine zr_if_eq (tgt := 151) X dX8_load_133 (by decide) (fun _ => ?_) (fun h => absurd h (by decide))
        refine zr_forget (lv2 := [some (vr (y) 8), none, none]) (fun j9 v9 h9 => by rcases j9 with _ | _ | _ | _ | _ | _ | _ | _ | j9 <;> first | exact h9 | (simp at h9)) ?_
        exact zeb_X8_load X hnt hC hE27 (zRf_read hC fr26) (fun J9 h1 h2 => k2 J9 _ (by rw [← i1, pAll_step (by omega), hq25]) h1 h2)
    · skip
      intro J8 hg9 fr10 hP11 hb1; have hM12 : zMd J8 (y + 3) T := zMd.ag i5 hg9 (by omega); have fr10 : zfm (zze (zLd I y n9) (y + 3) 0 310) J8 y := zfm.tr i2 fr10; have := hP11.2.2.2.1
      refine zr_iconst (v := (-1 : Int32)) X dX8_load_140 (by decide) ?_
      refine zr_icmp_eq (tgt := 151) X dX8_load_141 (by decide) (fun _ => ?_) (fun h => absurd h (by decide))
      refine zr_forget (lv2 := [some (vr (y) 8), none, none]) (fun j9 v9 h9 => by rcases j9 with _ | _ | _ | _ | _ | _ | _ | _ | j9 <;> first | exact h9 | (simp at h9)) ?_
      exact zeg_X8_load X hnt hC fr10 hP11 hM12 i6 (zRf_read hC fr10) (fun J9 h1 h2 => k1 J9 _ _ (by rw [← i1]; exact pAll_stop (by omega)) h1 h2)
set_option maxRecDepth 20000 in
theorem zlz_X8_load {l : Launch} {D : va_G} {b0 : Nat} {tA : Nat → ClassId} {sa sv : Nat → Nat} {K : Nat → Option Nat} {I : zI} {Qp : zI → Option AV → Prop} {Xp : String → zI → Prop} {p : Program} {e : Env} {s : State} {m : MethodId} {args : Array Value} {below : List Frame} {meth : Method} {c : Code} {J : zI} {y n9 : Nat}
    (X : zX p l e zrm_X8_load s m args below meth c RX8 cX8_load 3 (some .int) D b0 tA sa sv) (hnt : ∀ x ∈ c.exceptionTable.toList, False) (hk : zG p l e zrm_X8_load s m args below meth c 3 D b0 tA sa 0 0 (zQ below D b0 tA sa K args s zrm_X8_load Qp Xp) K 79 [some (vr (y) 8), some (vi ((nI n9))), none] [] (zze J (y + 3) 0 310)) :
    ∀ (n : Nat) (j : Nat), j ≤ 310 → 310 - j < n → zG p l e zrm_X8_load s m args below meth c 3 D b0 tA sa 0 0 (zQ below D b0 tA sa K args s zrm_X8_load Qp Xp) K 59 [some (vr (y) 8), some (vi ((nI n9))), some (vi ((nI j)))] [] (zze J (y + 3) 0 j) := by
  intro n
  induction n with
  | zero => intro j i1 i9; exact absurd i9 (Nat.not_lt_zero _)
  | succ n ih =>
    intro j i1 i9
    refine zr_iload2 X dX8_load_59 ?_
    refine zr_sipush (v := (310 : Int32)) X dX8_load_60 (by decide) ?_
    refine zr_nicmp_ge X (j) (310) (tgt := 79) (by omega) (by omega) dX8_load_63 (by decide) (fun h1 => ?_) (fun h1 => ?_)
    · skip
      have hj : j = 310 := by omega
      subst hj
      refine zr_forget (lv2 := [some (vr (y) 8), some (vi ((nI n9))), none]) (fun j9 v9 h9 => by rcases j9 with _ | _ | _ | _ | _ | _ | _ | _ | j9 <;> first | exact h9 | (simp at h9)) ?_
      exact hk
    · skip
      refine zr_aload0 X dX8_load_66 ?_
      refine zr_getR X zf_X8_20 rfl (by decide) (by decide) dX8_load_67 ?_
      refine zr_iload2 X dX8_load_70 ?_
      refine zr_iconst (v := (0 : Int32)) X dX8_load_71 (by decide) ?_
      refine zr_iastN X rfl (show _ < 310 from (by first | assumption | omega)) dX8_load_72 ?_
      refine zr_iinc2 (v := (nI (j + 1))) X (show nI (j) + Int32.ofInt 1 = nI (j + 1) from nI_1 (j)) (by decide) rfl dX8_load_73 ?_
      refine zr_goto (tgt := 59) X dX8_load_76 (by decide) ?_
      refine zr_I (zze_s (Nat.zero_le _)) ?_
      exact ih (j + 1) (by omega) (by omega)
set_option maxRecDepth 20000 in
theorem zo_X8_load {l : Launch} {D : va_G} {b0 : Nat} {tA : Nat → ClassId} {sa sv : Nat → Nat} {K : Nat → Option Nat} {I : zI} {Qp : zI → Option AV → Prop} {Xp : String → zI → Prop} {F9 : zI} {y f n9 : Nat} {t : Nat → Nat} {er : Int32} {S : zS} {U : List zS}
    (hC : zRf F9 I y t f er S U) (hL : n9 ≤ f) (k1 : ∀ (J : zI) (p2 : Nat) (S2 : zS), pLoad t n9 = .inr (p2, S2) → zRf F9 J y t 0 (-1) S2 (qPush S U) → J y 0 = 0 → Qp J (some (vi (sX S2 4)))) (k2 : ∀ (J : zI) (e : Int32 × Nat), pLoad t n9 = .inl e → zRf F9 J y t 0 (nI e.2) S U → J y 0 = 0 → Qp J (some (vi e.1))) :
    zC l D b0 tA sa sv K yX8_load (.code yX8_load cX8_load 3 (some .int)) zrm_X8_load [vr (y) 8, vi ((nI n9))] I Qp Xp := by
  have hf5 := hC.1.2.1
  have hsk := tSkip_le (t := t) (Nat.zero_le n9)
  refine zC_of (by decide +kernel) (Nat.le_of_ble_eq_true rfl) ?_
  intro p e s m args below meth c X hnt
  have X : zX p l e zrm_X8_load s m args below meth c RX8 cX8_load 3 (some .int) D b0 tA sa sv := X
  refine zr_lv (lv2 := [some (vr (y) 8), some (vi ((nI n9))), none]) rfl ?_
  refine zr_aload0 X dX8_load_0 ?_
  refine zr_iconst (v := (0 : Int32)) X dX8_load_1 (by decide) ?_
  refine zr_putI X zf_X8_31 rfl (Or.inl rfl) dX8_load_2 ?_
  refine zr_aload0 X dX8_load_5 ?_
  refine zr_iload1 X dX8_load_6 ?_
  refine zr_iconst (v := (0 : Int32)) X dX8_load_7 (by decide) ?_
  refine zr_aload0 X dX8_load_8 ?_
  refine zr_getI X zf_X8_98 rfl dX8_load_9 ?_
  refine zr_eq (x2 := (I (y) 2)) ((zput_nj (by decide))) ?_
  refine zr_eq (x2 := (nI f)) (hC.1.1) ?_
  refine zr_callS3 (rm9 := zrm_X8_in) X hnt zm_X8_117 (by decide) (by decide) (by decide) (Nat.le_of_ble_eq_true rfl) dX8_load_12 ?_
  refine zIo_X8_in (n := (f + 1)) (by omega) (by omega) (pk_sub (a := _ + 1) (b := 1) (by omega)).symm ?_
  refine zr_if_ne (tgt := 22) X dX8_load_15 (by decide) (fun _ => ?_) (fun h => absurd h (by decide))
  refine zr_iconst (v := (0 : Int32)) X dX8_load_22 (by decide) ?_
  refine zr_iconst (v := (1 : Int32)) X dX8_load_23 (by decide) ?_
  refine zr_callV2 (rm9 := zrm_X8_fails) X hnt zm_X8_220 (by decide) (by decide) (by decide) (Nat.le_of_ble_eq_true rfl) dX8_load_24 ?_
  refine zf0_X8_fails (zput_eq) ?_
  refine zr_if_eq (tgt := 32) X dX8_load_27 (by decide) (fun _ => ?_) (fun h => absurd h (by decide))
  refine zr_aload0 X dX8_load_32 ?_
  refine zr_iconst (v := (0 : Int32)) X dX8_load_33 (by decide) ?_
  refine zr_putI X zf_X8_98 rfl (Or.inl rfl) dX8_load_34 ?_
  refine zr_aload0 X dX8_load_37 ?_
  refine zr_iload1 X dX8_load_38 ?_
  refine zr_putI X zf_X8_101 rfl (Or.inl rfl) dX8_load_39 ?_
  refine zr_aload0 X dX8_load_42 ?_
  refine zr_iconst (v := (0 : Int32)) X dX8_load_43 (by decide) ?_
  refine zr_putI X zf_X8_104 rfl (Or.inl rfl) dX8_load_44 ?_
  refine zr_aload0 X dX8_load_47 ?_
  refine zr_iconst (v := (0 : Int32)) X dX8_load_48 (by decide) ?_
  refine zr_putI X zf_X8_111 rfl (Or.inl rfl) dX8_load_49 ?_
  refine zr_aload0 X dX8_load_52 ?_
  refine zr_iconst (v := (-1 : Int32)) X dX8_load_53 (by decide) ?_
  refine zr_putI X zf_X8_114 rfl (Or.inl rfl) dX8_load_54 ?_
  refine zr_iconst (v := (0 : Int32)) X dX8_load_57 (by decide) ?_
  refine zr_istore2 X (by decide) rfl dX8_load_58 ?_
  refine zr_I (zze_0 (a := y + 3) (lo := 0)).symm ?_
  refine zlz_X8_load (I := I) (J := zLd I y n9) X hnt ?_ 311 0 (Nat.zero_le _) (by omega)
  have hP9 := zLd_P hC.1.2 hL
  have hM9 := zMd_zze (I := zLd I y n9) (a := y + 3)
  refine zr_aload0 X dX8_load_79 ?_
  refine zr_ldcS X 10 rfl (by decide) dX8_load_80 ?_
  refine zr_callV1 (rm9 := zrm_X8_takeWord) X hnt zm_X8_166 (by decide) (by decide) (by decide) (Nat.le_of_ble_eq_true rfl) dX8_load_82 ?_
  refine zg_X8_takeWord (i := 10) (p9 := (tSkip t n9 0)) hP9 rfl (by decide) ?_ ?_
  · skip
    intro hw2 J28 hg29 fr30 hP31; have hM32 : zMd J28 (y + 3) zZero := zMd.ag hM9 hg29 (by omega); have fr30 : zfm (zze (zLd I y n9) (y + 3) 0 310) J28 y := zfm.tr zfm.rf fr30; have hw2 : tIsB t n9 ((tSkip t n9 0)) wRow = true := hw2; have := tIsB_lt hw2; have := tNext_le (t := t) (Nat.le_of_lt this)
    refine zr_if_ne (tgt := 98) X dX8_load_85 (by decide) (fun _ => ?_) (fun h => absurd h (by decide))
    refine zr_aload0 X dX8_load_98 ?_
    refine zr_getR X zf_X8_20 rfl (by decide) (by decide) dX8_load_99 ?_
    refine zr_iconst (v := (0 : Int32)) X dX8_load_102 (by decide) ?_
    refine zr_aload0 X dX8_load_103 ?_
    refine zr_iconst (v := (1 : Int32)) X dX8_load_104 (by decide) ?_
    refine zr_bipush (v := (9 : Int32)) X dX8_load_105 (by decide) ?_
    refine zr_callV2 (rm9 := zrm_X8_number) X hnt zm_X8_177 (by decide) (by decide) (by decide) (Nat.le_of_ble_eq_true rfl) dX8_load_107 ?_
    refine zg_X8_number (lo := 1) (hi := 10) (p9 := (tNext t n9 ((tSkip t n9 0)))) hP31 rfl (by omega) (by omega) (by rfl) ?_ ?_
    · skip
      intro J39 v38 hq40 hg41 fr42 hP43; have hM44 : zMd J39 (y + 3) zZero := zMd.ag hM32 hg41 (by omega); have fr42 : zfm (zze (zLd I y n9) (y + 3) 0 310) J39 y := zfm.tr fr30 fr42; have := pNum_gt hq40; have := tNext_le (t := t) (Nat.le_of_lt this.1); have := hP43.2.2.2.1
      refine zr_iastN (n := 0) X rfl (by decide) dX8_load_110 ?_
      have hM_1 : zMd _ (y + 3) (tX zZero 0 (nI v38)) := zMd_X hM44 (i := 0) (v := (nI v38)) (by decide)
      refine zr_aload0 X dX8_load_111 ?_
      refine zr_getR X zf_X8_20 rfl (by decide) (by decide) dX8_load_112 ?_
      refine zr_iconst (v := (1 : Int32)) X dX8_load_115 (by decide) ?_
      refine zr_aload0 X dX8_load_116 ?_
      refine zr_iconst (v := (1 : Int32)) X dX8_load_117 (by decide) ?_
      refine zr_iconst (v := (4 : Int32)) X dX8_load_118 (by decide) ?_
      refine zr_callV2 (rm9 := zrm_X8_number) X hnt zm_X8_177 (by decide) (by decide) (by decide) (Nat.le_of_ble_eq_true rfl) dX8_load_119 ?_
      have hP52 : zPq (zput J39 (y + 3) 0 ((nI v38))) y t n9 (tEnd t n9 ((tNext t n9 ((tSkip t n9 0))))) := (zPq.rowput hP43)
      have fr53 : zfm (zze (zLd I y n9) (y + 3) 0 310) (zput J39 (y + 3) 0 ((nI v38))) y := (zfm.rowput fr42)
      refine zg_X8_number (lo := 1) (hi := 5) (p9 := (tNext t n9 ((tNext t n9 ((tSkip t n9 0)))))) hP52 rfl (by omega) (by omega) (by rfl) ?_ ?_
      · skip
        intro J55 v54 hq56 hg57 fr58 hP59; have hM60 : zMd J55 (y + 3) (tX zZero 0 (nI v38)) := zMd.ag hM_1 hg57 (by omega); have fr58 : zfm (zze (zLd I y n9) (y + 3) 0 310) J55 y := zfm.tr fr53 fr58; have := pNum_gt hq56; have := tNext_le (t := t) (Nat.le_of_lt this.1); have := hP59.2.2.2.1
        refine zr_iastN (n := 1) X rfl (by decide) dX8_load_122 ?_
        have hM_2 : zMd _ (y + 3) (tX (tX zZero 0 (nI v38)) 1 (nI v54)) := zMd_X hM60 (i := 1) (v := (nI v54)) (by decide)
        refine zr_aload0 X dX8_load_123 ?_
        refine zr_bipush (v := (59 : Int32)) X dX8_load_124 (by decide) ?_
        refine zr_callV1 (rm9 := zrm_X8_expect) X hnt zm_X8_216 (by decide) (by decide) (by decide) (Nat.le_of_ble_eq_true rfl) dX8_load_126 ?_
        have hP68 : zPq (zput J55 (y + 3) 1 ((nI v54))) y t n9 (tEnd t n9 ((tNext t n9 ((tNext t n9 ((tSkip t n9 0))))))) := (zPq.rowput hP59)
        have fr69 : zfm (zze (zLd I y n9) (y + 3) 0 310) (zput J55 (y + 3) 1 ((nI v54))) y := (zfm.rowput fr58)
        refine zg_X8_expect (p9 := (tNext t n9 ((tNext t n9 ((tNext t n9 ((tSkip t n9 0)))))))) (S := (tX (tX zZero 0 (nI v38)) 1 (nI v54))) hP68 rfl ?_ ?_
        · skip
          intro hq71 J70 hg72 fr73 hP74; have hM75 : zMd J70 (y + 3) (tX (tX zZero 0 (nI v38)) 1 (nI v54)) := zMd.ag hM_2 hg72 (by omega); have fr73 : zfm (zze (zLd I y n9) (y + 3) 0 310) J70 y := zfm.tr fr69 fr73
          have hM9 := hM75
          rw [zZero_hf] at hM9
          have hH9 : pHead t n9 (tSkip t n9 0) zBlank = .inr ((tNext t n9 ((tNext t n9 ((tNext t n9 ((tNext t n9 ((tSkip t n9 0))))))))), tX (tX zBlank 0 (nI v38)) 1 (nI v54)) := by unfold pHead; rw [if_pos hw2]; simp only [hq40]; unfold pHead2; simp only [hq56]; first | exact hq71 | (rw [← zZero_hf]; exact hq71)
          refine zr_forget (lv2 := [some (vr (y) 8), none, none]) (fun j9 v9 h9 => by rcases j9 with _ | _ | _ | _ | _ | _ | _ | _ | j9 <;> first | exact h9 | (simp at h9)) ?_
          exact zl_X8_load (n9 := n9) (RES := pLoad t n9) X hnt hC k1 k2 (n9 + 1) (tNext t n9 ((tNext t n9 ((tNext t n9 ((tNext t n9 ((tSkip t n9 0))))))))) _ _ _ (by unfold pLoad; rw [hH9]) fr73 hP74 rfl hM9 (zWf_hf zWf_blank (by omega) (by omega)) (by omega)
        · skip
          intro J76 e81 hq77 hg78 fr79 hE80; have hM82 : zMd J76 (y + 3) (tX (tX zZero 0 (nI v38)) 1 (nI v54)) := zMd.ag hM_2 hg78 (by omega); have fr79 : zfm (zze (zLd I y n9) (y + 3) 0 310) J76 y := zfm.tr fr69 fr79
          refine zr_aload0 X dX8_load_129 ?_
          refine zr_callV0 (rm9 := zrm_X8_isGood) X hnt zm_X8_121 (by decide) (by decide) (by decide) (Nat.le_of_ble_eq_true rfl) dX8_load_130 ?_
          refine zb_X8_isGood (fun z => hE80.1.2 (hE80.1.1.symm.trans z)) ?_
          refine zr_if_eq (tgt := 151) X dX8_load_133 (by decide) (fun _ => ?_) (fun h => absurd h (by decide))
          have hH9 : pHead t n9 (tSkip t n9 0) zBlank = .inl e81 := by unfold pHead; rw [if_pos hw2]; simp only [hq40]; unfold pHead2; simp only [hq56]; first | exact hq77 | (rw [← zZero_hf]; exact hq77)
          refine zr_forget (lv2 := [some (vr (y) 8), none, none]) (fun j9 v9 h9 => by rcases j9 with _ | _ | _ | _ | _ | _ | _ | _ | j9 <;> first | exact h9 | (simp at h9)) ?_
          exact zeb_X8_load X hnt hC hE80 (zRf_read hC fr79) (fun J9 h1 h2 => k2 J9 _ (by unfold pLoad; rw [hH9]) h1 h2)
      · skip
        intro J61 e66 hq62 hg63 fr64 hE65; have hM67 : zMd J61 (y + 3) (tX zZero 0 (nI v38)) := zMd.ag hM_1 hg63 (by omega); have fr64 : zfm (zze (zLd I y n9) (y + 3) 0 310) J61 y := zfm.tr fr53 fr64
        refine zr_iastN (n := 1) X rfl (by decide) dX8_load_122 ?_
        have hM_3 : zMd _ (y + 3) (tX (tX zZero 0 (nI v38)) 1 (0 : Int32)) := zMd_X hM67 (i := 1) (v := (0 : Int32)) (by decide)
        refine zr_aload0 X dX8_load_123 ?_
        refine zr_bipush (v := (59 : Int32)) X dX8_load_124 (by decide) ?_
        refine zr_callV1 (rm9 := zrm_X8_expect) X hnt zm_X8_216 (by decide) (by decide) (by decide) (Nat.le_of_ble_eq_true rfl) dX8_load_126 ?_
        have hP83 : zEq (zput J61 (y + 3) 1 ((0 : Int32))) y e66 := (zEq.rowput hE65)
        have fr84 : zfm (zze (zLd I y n9) (y + 3) 0 310) (zput J61 (y + 3) 1 ((0 : Int32))) y := (zfm.rowput fr64)
        refine zb_X8_expect hP83 ?_
        refine zr_aload0 X dX8_load_129 ?_
        refine zr_callV0 (rm9 := zrm_X8_isGood) X hnt zm_X8_121 (by decide) (by decide) (by decide) (Nat.le_of_ble_eq_true rfl) dX8_load_130 ?_
        refine zb_X8_isGood (fun z => hP83.1.2 (hP83.1.1.symm.trans z)) ?_
        refine zr_if_eq (tgt := 151) X dX8_load_133 (by decide) (fun _ => ?_) (fun h => absurd h (by decide))
        have hH9 : pHead t n9 (tSkip t n9 0) zBlank = .inl e66 := by unfold pHead; rw [if_pos hw2]; simp only [hq40]; unfold pHead2; simp only [hq62]
        refine zr_forget (lv2 := [some (vr (y) 8), none, none]) (fun j9 v9 h9 => by rcases j9 with _ | _ | _ | _ | _ | _ | _ | _ | j9 <;> first | exact h9 | (simp at h9)) ?_
        exact zeb_X8_load X hnt hC hP83 (zRf_read hC fr84) (fun J9 h1 h2 => k2 J9 _ (by unfold pLoad; rw [hH9]) h1 h2)
    · skip
      intro J45 e50 hq46 hg47 fr48 hE49; have hM51 : zMd J45 (y + 3) zZero := zMd.ag hM32 hg47 (by omega); have fr48 : zfm (zze (zLd I y n9) (y + 3) 0 310) J45 y := zfm.tr fr30 fr48
      refine zr_iastN (n := 0) X rfl (by decide) dX8_load_110 ?_
      have hM_4 : zMd _ (y + 3) (tX zZero 0 (0 : Int32)) := zMd_X hM51 (i := 0) (v := (0 : Int32)) (by decide)
      refine zr_aload0 X dX8_load_111 ?_
      refine zr_getR X zf_X8_20 rfl (by decide) (by decide) dX8_load_112 ?_
      refine zr_iconst (v := (1 : Int32)) X dX8_load_115 (by decide) ?_
      refine zr_aload0 X dX8_load_116 ?_
      refine zr_iconst (v := (1 : Int32)) X dX8_load_117 (by decide) ?_
      refine zr_iconst (v := (4 : Int32)) X dX8_load_118 (by decide) ?_
      refine zr_callV2 (rm9 := zrm_X8_number) X hnt zm_X8_177 (by decide) (by decide) (by decide) (Nat.le_of_ble_eq_true rfl) dX8_load_119 ?_
      have hP85 : zEq (zput J45 (y + 3) 0 ((0 : Int32))) y e50 := (zEq.rowput hE49)
      have fr86 : zfm (zze (zLd I y n9) (y + 3) 0 310) (zput J45 (y + 3) 0 ((0 : Int32))) y := (zfm.rowput fr48)
      refine zb_X8_number hP85 ?_
      refine zr_iastN (n := 1) X rfl (by decide) dX8_load_122 ?_
      have hM_5 : zMd _ (y + 3) (tX (tX zZero 0 (0 : Int32)) 1 (0 : Int32)) := zMd_X hM_4 (i := 1) (v := (0 : Int32)) (by decide)
      refine zr_aload0 X dX8_load_123 ?_
      refine zr_bipush (v := (59 : Int32)) X dX8_load_124 (by decide) ?_
      refine zr_callV1 (rm9 := zrm_X8_expect) X hnt zm_X8_216 (by decide) (by decide) (by decide) (Nat.le_of_ble_eq_true rfl) dX8_load_126 ?_
      have hP87 : zEq (zput (zput J45 (y + 3) 0 ((0 : Int32))) (y + 3) 1 ((0 : Int32))) y e50 := (zEq.rowput hP85)
      have fr88 : zfm (zze (zLd I y n9) (y + 3) 0 310) (zput (zput J45 (y + 3) 0 ((0 : Int32))) (y + 3) 1 ((0 : Int32))) y := (zfm.rowput fr86)
      refine zb_X8_expect hP87 ?_
      refine zr_aload0 X dX8_load_129 ?_
      refine zr_callV0 (rm9 := zrm_X8_isGood) X hnt zm_X8_121 (by decide) (by decide) (by decide) (Nat.le_of_ble_eq_true rfl) dX8_load_130 ?_
      refine zb_X8_isGood (fun z => hP87.1.2 (hP87.1.1.symm.trans z)) ?_
      refine zr_if_eq (tgt := 151) X dX8_load_133 (by decide) (fun _ => ?_) (fun h => absurd h (by decide))
      have hH9 : pHead t n9 (tSkip t n9 0) zBlank = .inl e50 := by unfold pHead; rw [if_pos hw2]; simp only [hq46]
      refine zr_forget (lv2 := [some (vr (y) 8), none, none]) (fun j9 v9 h9 => by rcases j9 with _ | _ | _ | _ | _ | _ | _ | _ | j9 <;> first | exact h9 | (simp at h9)) ?_
      exact zeb_X8_load X hnt hC hP87 (zRf_read hC fr88) (fun J9 h1 h2 => k2 J9 _ (by unfold pLoad; rw [hH9]) h1 h2)
  · skip
    intro hw3 J33 hg34 fr35 hP36; have hM37 : zMd J33 (y + 3) zZero := zMd.ag hM9 hg34 (by omega); have fr35 : zfm (zze (zLd I y n9) (y + 3) 0 310) J33 y := zfm.tr zfm.rf fr35; have hw3 : ¬ tIsB t n9 ((tSkip t n9 0)) wRow = true := hw3
    refine zr_if_ne (tgt := 98) X dX8_load_85 (by decide) (fun h => absurd h (by decide)) (fun _ => ?_)
    refine zr_aload0 X dX8_load_88 ?_
    refine zr_bipush (v := (-2 : Int32)) X dX8_load_89 (by decide) ?_
    refine zr_aload0 X dX8_load_91 ?_
    refine zr_getI X zf_X8_104 rfl dX8_load_92 ?_
    refine zr_eq (x2 := (nI ((tSkip t n9 0)))) (hP36.2.2.1) ?_
    refine zr_callV2 (rm9 := zrm_X8_report) X hnt zm_X8_138 (by decide) (by decide) (by decide) (Nat.le_of_ble_eq_true rfl) dX8_load_95 ?_
    refine zg_X8_report hP36.1 ?_; have hE89 : zEq (zput (zput J33 y 5 (-2 : Int32)) y 6 (nI (tSkip t n9 0))) y ((-2 : Int32), tSkip t n9 0) := zEq.mk (by decide); have fr90 : zfm (zze (zLd I y n9) (y + 3) 0 310) (zput (zput J33 y 5 (-2 : Int32)) y 6 (nI (tSkip t n9 0))) y := zfm.put (zfm.put fr35 (by decide)) (by decide)
    refine zr_aload0 X dX8_load_98 ?_
    refine zr_getR X zf_X8_20 rfl (by decide) (by decide) dX8_load_99 ?_
    refine zr_iconst (v := (0 : Int32)) X dX8_load_102 (by decide) ?_
    refine zr_aload0 X dX8_load_103 ?_
    refine zr_iconst (v := (1 : Int32)) X dX8_load_104 (by decide) ?_
    refine zr_bipush (v := (9 : Int32)) X dX8_load_105 (by decide) ?_
    refine zr_callV2 (rm9 := zrm_X8_number) X hnt zm_X8_177 (by decide) (by decide) (by decide) (Nat.le_of_ble_eq_true rfl) dX8_load_107 ?_
    refine zb_X8_number hE89 ?_
    refine zr_iastN (n := 0) X rfl (by decide) dX8_load_110 ?_
    refine zr_aload0 X dX8_load_111 ?_
    refine zr_getR X zf_X8_20 rfl (by decide) (by decide) dX8_load_112 ?_
    refine zr_iconst (v := (1 : Int32)) X dX8_load_115 (by decide) ?_
    refine zr_aload0 X dX8_load_116 ?_
    refine zr_iconst (v := (1 : Int32)) X dX8_load_117 (by decide) ?_
    refine zr_iconst (v := (4 : Int32)) X dX8_load_118 (by decide) ?_
    refine zr_callV2 (rm9 := zrm_X8_number) X hnt zm_X8_177 (by decide) (by decide) (by decide) (Nat.le_of_ble_eq_true rfl) dX8_load_119 ?_
    have hP91 : zEq (zput (zput (zput J33 y 5 (-2 : Int32)) y 6 (nI (tSkip t n9 0))) (y + 3) 0 ((0 : Int32))) y ((-2 : Int32), tSkip t n9 0) := (zEq.rowput hE89)
    have fr92 : zfm (zze (zLd I y n9) (y + 3) 0 310) (zput (zput (zput J33 y 5 (-2 : Int32)) y 6 (nI (tSkip t n9 0))) (y + 3) 0 ((0 : Int32))) y := (zfm.rowput fr90)
    refine zb_X8_number hP91 ?_
    refine zr_iastN (n := 1) X rfl (by decide) dX8_load_122 ?_
    refine zr_aload0 X dX8_load_123 ?_
    refine zr_bipush (v := (59 : Int32)) X dX8_load_124 (by decide) ?_
    refine zr_callV1 (rm9 := zrm_X8_expect) X hnt zm_X8_216 (by decide) (by decide) (by decide) (Nat.le_of_ble_eq_true rfl) dX8_load_126 ?_
    have hP93 : zEq (zput (zput (zput (zput J33 y 5 (-2 : Int32)) y 6 (nI (tSkip t n9 0))) (y + 3) 0 ((0 : Int32))) (y + 3) 1 ((0 : Int32))) y ((-2 : Int32), tSkip t n9 0) := (zEq.rowput hP91)
    have fr94 : zfm (zze (zLd I y n9) (y + 3) 0 310) (zput (zput (zput (zput J33 y 5 (-2 : Int32)) y 6 (nI (tSkip t n9 0))) (y + 3) 0 ((0 : Int32))) (y + 3) 1 ((0 : Int32))) y := (zfm.rowput fr92)
    refine zb_X8_expect hP93 ?_
    refine zr_aload0 X dX8_load_129 ?_
    refine zr_callV0 (rm9 := zrm_X8_isGood) X hnt zm_X8_121 (by decide) (by decide) (by decide) (Nat.le_of_ble_eq_true rfl) dX8_load_130 ?_
    refine zb_X8_isGood (fun z => hP93.1.2 (hP93.1.1.symm.trans z)) ?_
    refine zr_if_eq (tgt := 151) X dX8_load_133 (by decide) (fun _ => ?_) (fun h => absurd h (by decide))
    have hH9 : pHead t n9 (tSkip t n9 0) zBlank = .inl ((-2 : Int32), tSkip t n9 0) := by unfold pHead; rw [if_neg hw3]
    refine zr_forget (lv2 := [some (vr (y) 8), none, none]) (fun j9 v9 h9 => by rcases j9 with _ | _ | _ | _ | _ | _ | _ | _ | j9 <;> first | exact h9 | (simp at h9)) ?_
    exact zeb_X8_load X hnt hC hP93 (zRf_read hC fr94) (fun J9 h1 h2 => k2 J9 _ (by unfold pLoad; rw [hH9]) h1 h2)
set_option maxRecDepth 20000 in
theorem zx_X8_load {l : Launch} {D : va_G} {b0 : Nat} {tA : Nat → ClassId} {sa sv : Nat → Nat} {K : Nat → Option Nat} {I : zI} {Qp : zI → Option AV → Prop} {Xp : String → zI → Prop} {F9 : zI} {y f : Nat} {t : Nat → Nat} {er : Int32} {S : zS} {U : List zS} {v : Int32}
    (hC : zRf F9 I y t f er S U) (hb : vIdx v (f + 1) = none) (kx : ∀ (J : zI) (v9 : Int32), zRf F9 J y t f er S U → J y 0 = 1 → Qp J (some (vi v9))) :
    zC l D b0 tA sa sv K yX8_load (.code yX8_load cX8_load 3 (some .int)) zrm_X8_load [vr (y) 8, vi (v)] I Qp Xp := by
  have hf5 := hC.1.2.1
  refine zC_of (by decide +kernel) (Nat.le_of_ble_eq_true rfl) ?_
  intro p e s m args below meth c X hnt
  have X : zX p l e zrm_X8_load s m args below meth c RX8 cX8_load 3 (some .int) D b0 tA sa sv := X
  refine zr_lv (lv2 := [some (vr (y) 8), some (vi (v)), none]) rfl ?_
  refine zr_aload0 X dX8_load_0 ?_
  refine zr_iconst (v := (0 : Int32)) X dX8_load_1 (by decide) ?_
  refine zr_putI X zf_X8_31 rfl (Or.inl rfl) dX8_load_2 ?_
  refine zr_aload0 X dX8_load_5 ?_
  refine zr_iload1 X dX8_load_6 ?_
  refine zr_iconst (v := (0 : Int32)) X dX8_load_7 (by decide) ?_
  refine zr_aload0 X dX8_load_8 ?_
  refine zr_getI X zf_X8_98 rfl dX8_load_9 ?_
  refine zr_eq (x2 := (I (y) 2)) ((zput_nj (by decide))) ?_
  refine zr_eq (x2 := (nI f)) (hC.1.1) ?_
  refine zr_callS3 (rm9 := zrm_X8_in) X hnt zm_X8_117 (by decide) (by decide) (by decide) (Nat.le_of_ble_eq_true rfl) dX8_load_12 ?_
  refine zIx_X8_in (n := (f + 1)) (by assumption) (by omega) (pk_sub (a := _ + 1) (b := 1) (by omega)).symm ?_
  refine zr_if_ne (tgt := 22) X dX8_load_15 (by decide) (fun h => absurd h (by decide)) (fun _ => ?_)
  refine zr_iconst (v := (1 : Int32)) X dX8_load_18 (by decide) ?_
  refine zr_goto (tgt := 23) X dX8_load_19 (by decide) ?_
  refine zr_iconst (v := (1 : Int32)) X dX8_load_23 (by decide) ?_
  refine zr_callV2 (rm9 := zrm_X8_fails) X hnt zm_X8_220 (by decide) (by decide) (by decide) (Nat.le_of_ble_eq_true rfl) dX8_load_24 ?_
  refine zf1_X8_fails (zput_eq) (by decide) ?_
  refine zr_if_eq (tgt := 32) X dX8_load_27 (by decide) (fun h => absurd h (by decide)) (fun _ => ?_)
  refine zr_iconst (v := (0 : Int32)) X dX8_load_30 (by decide) ?_
  refine zr_iret X (by decide) (by decide) dX8_load_31 ?_
  exact kx _ _ ((hC.put (by decide)).put (by decide)) zput_eq
