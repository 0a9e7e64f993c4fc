/-! ===== the law's random row: people who wait ===== -/
abbrev zrm_L_randomRow : Room := { frames := 12, cells := 40, slots := 240, locals := 295 }
theorem zX7_flee1 {S : zS} {g : Nat} : zX7 S (qFlee1 S g) := zX7_goes.tr (zX7.tX (by decide))
theorem zX7_flee {g : Nat} : ∀ (n : Nat) {S : zS}, zX7 S (qFlee S g n)
  | 0, S => zX7.rf rfl
  | n + 1, S => by
    rw [qFlee]
    split
    · exact zX7.rf rfl
    · exact zX7_flee1.tr (zX7_flee n)
theorem zX7_less {S : zS} {g : Nat} : zX7 S (qLess S g) := zX7.rf qLess_X
theorem zX7_pass {S : zS} {g : Nat} : zX7 S (qPass S g) := by
  unfold qPass
  split
  · exact (zX7_goes.tr (zX7.rf (S' := tG _ g 3 0) rfl)).tr zX7_less
  · split
    · exact ((zX7_goes.tr (zX7.tX (i := 11) (by decide))).tr (zX7.rf (S' := tG _ g 4 _) rfl)).tr zX7_less
    · exact zX7_less
theorem zX7_open {S : zS} {g : Nat} : zX7 S (qOpen S g) := by
  unfold qOpen
  split
  · unfold qOpenAt
    split
    · exact zX7.rf rfl
    · exact (zX7.rf (S' := tL S _ _ _) rfl).tr zX7_away
  · exact zX7.rf rfl
theorem zX7_live {S : zS} {g : Nat} : zX7 S (qLive S g) := by
  unfold qLive
  split
  · exact zX7_flee _
  · split
    · exact zX7_pass
    · exact zX7_open
theorem zX7_gates {S : zS} : ∀ n, zX7 S (qGates S n)
  | 0 => zX7.rf rfl
  | n + 1 => (zX7_gates n).tr zX7_live
theorem zX7_tick {S : zS} : zX7 S (qTick S) := (zX7_gates 6).tr (zX7.tX (by decide))
theorem zX7_ticks {S : zS} : ∀ n, zX7 S (qTicks S n)
  | 0 => zX7.rf rfl
  | n + 1 => (zX7_ticks n).tr zX7_tick
theorem zTx.on {I J : zI} {x w : Nat} {er : Int32} {S : zS} {U : List zS} {L : List Nat} (h : zTx I x w er S U L) (e : ∀ q : Nat, x ≤ q → q < x + 501 → J q = I q) (ew : J w = I w) : zTx J x w er S U L := by
  obtain ⟨t, h1, h2, h3, h4⟩ := h
  exact ⟨t, h1.on e, h2, ⟨by rw [ew]; exact h3.1, fun k hk => by rw [ew]; exact h3.2 k hk⟩, h4⟩
/-- class, buffer, random numbers and station lie apart -/
def zEx (x w r : Nat) (A : Nat → Nat) (n m : Nat) : Prop := (∀ i : Nat, zvd n m i → x + 501 ≤ A i ∧ A i ≠ w ∧ A i ≠ r) ∧ x + 501 ≤ w ∧ x + 501 ≤ r ∧ w ≠ r
def zfx (I J : zI) (x w r : Nat) (A : Nat → Nat) (n m : Nat) : Prop := ∀ q : Nat, (q < x ∨ x + 501 ≤ q) → q ≠ w → q ≠ r → (∀ i : Nat, zvd n m i → q ≠ A i) → J q = I q
theorem zfx.rf {I : zI} {x w r : Nat} {A : Nat → Nat} {n m : Nat} : zfx I I x w r A n m := fun _ _ _ _ _ => rfl
theorem zfx.tr {I J L : zI} {x w r : Nat} {A : Nat → Nat} {n m : Nat} (h : zfx I J x w r A n m) (g : zfx J L x w r A n m) : zfx I L x w r A n m := fun q a b c d => (g q a b c d).trans (h q a b c d)
def zWx (I : zI) (x w : Nat) (er : Int32) (S : zS) (U : List zS) (L : List Nat) (A : Nat → Nat) (n m : Nat) (T : zS) : Prop := zTx I x w er S U L ∧ zSt I A n m T
theorem zWx.txt {I J : zI} {x w r : Nat} {er : Int32} {S T : zS} {U : List zS} {L L' : List Nat} {A : Nat → Nat} {n m : Nat} (hE : zEx x w r A n m) (h : zWx I x w er S U L A n m T) (hT : zTx J x w er S U L') (hf : zfw I J x w) : zWx J x w er S U L' A n m T ∧ zfx I J x w r A n m :=
  ⟨⟨hT, h.2.on (fun i hi => hf _ (Or.inr (hE.1 i hi).1) (hE.1 i hi).2.1)⟩, fun q a b _ _ => hf q a b⟩
theorem zWx.stn {I J : zI} {x w r : Nat} {er : Int32} {S T T' : zS} {U : List zS} {L : List Nat} {A : Nat → Nat} {n m : Nat} (hE : zEx x w r A n m) (h : zWx I x w er S U L A n m T) (hg : zgA I J A n m) (hM : zSt J A n m T') : zWx J x w er S U L A n m T' ∧ zfx I J x w r A n m :=
  ⟨⟨h.1.on (fun q a b => hg q (fun i hi => by have := (hE.1 i hi).1; omega)) (hg w (fun i hi => (hE.1 i hi).2.1.symm)), hM⟩, fun q _ _ _ d => hg q d⟩
theorem zWx.rnd {I : zI} {x w r : Nat} {er v : Int32} {S T : zS} {U : List zS} {L : List Nat} {A : Nat → Nat} {n m : Nat} (hE : zEx x w r A n m) (h : zWx I x w er S U L A n m T) : zWx (zput I r 0 v) x w er S U L A n m T ∧ zfx I (zput I r 0 v) x w r A n m :=
  ⟨⟨h.1.on (fun q a b => zput_nq (by have := hE.2.2.1; omega)) (zput_nq hE.2.2.2), h.2.on (fun i hi => zput_nq (hE.1 i hi).2.2)⟩, fun q _ _ c _ => zput_nq c⟩
theorem zy_X11_below {l : Launch} {D : va_G} {b0 : Nat} {tA : Nat → ClassId} {sa sv : Nat → Nat} {K : zKt} {I : zI} {Qp : zI → Option AV → Prop} {Xp : String → zI → Prop} {x w r b : Nat} {er : Int32} {S T : zS} {U : List zS} {L : List Nat} {A : Nat → Nat} {n m : Nat} (hE : zEx x w r A n m) (h : zWx I x w er S U L A n m T) (hb : 0 < b) (hb2 : b < 2 ^ 30) (k1 : ∀ (J : zI) (v : Nat), v < b → zWx J x w er S U L A n m T → zfx I J x w r A n m → Qp J (some (vi (nI v)))) :
    zC l D b0 tA sa sv K yX11_below (.code yX11_below cX11_below 2 (some .int)) zrm_X11_below [vr r 16, vi (nI b)] I Qp Xp := by
  refine zp_X11_below hb hb2 (fun v r9 h9 => ?_)
  obtain ⟨g1, g2⟩ := zWx.rnd (v := v) hE h
  exact k1 _ _ h9 g1 g2
theorem qWhy_le4 {S : zS} {g s w : Nat} (h : ¬ qWhy S g s w = 0) : True := trivial
/-- what the law has written says T; of n gates and m cards -/
def zOk (L : List Nat) (T : zS) (n m : Nat) : Prop := zRd L T ∧ (zWf T ∧ zGp T ∧ zNames T) ∧ zng T = n ∧ znc T = m
theorem zx45 {S T : zS} (h : sX T 4 = sX S 4) (h5 : sX T 5 = sX S 5) : zng T = zng S ∧ znc T = znc S := by unfold zng znc; rw [h, h5]; exact ⟨rfl, rfl⟩
theorem zOk.tick {L : List Nat} {T : zS} {n m v : Nat} (h : zOk L T n m) (h1 : 1 ≤ v) (h2 : v < 10) : zOk (L ++ [116, 105, 99, 107, 32, 48 + v, 59]) (qTicks T v) n m := by
  obtain ⟨a, ⟨b1, b2, b3⟩, c, d⟩ := h
  have hx := zX7_ticks (S := T) v
  have e4 := hx.ng
  have e5 := hx.nc
  refine ⟨a.step (Nat.succ_pos _) (show (116 : Nat) ≠ 32 by decide) (fun t n p q1 q2 q3 => zst_tick h1 h2 q1 q2 q3), ⟨zWf_ticks b1 v, b2.kp (zKp.ticks v), fun i hi => ?_⟩, e4.trans c, e5.trans d⟩
  rw [(zKp.ticks (S := T) v).2.2.2]; exact b3 i (by rw [e5] at hi; exact hi)
theorem zOk.line {L : List Nat} {T : zS} {n m g s w : Nat} {W : List Nat} (h : zOk L T n m) (hg : g < n) (hw : w ≤ m) (h0 : qWhy T g s w = 0) (hl : 0 < W.length) (h32 : W.getD 0 0 ≠ 32)
    (hs : ∀ (t : Nat → Nat) (n p : Nat), p + W.length ≤ n → (∀ i, i < W.length → t (p + i) = W.getD i 0) → (n ≤ p + W.length ∨ t (p + W.length) ≠ 32) → pStmt t n p T = .inr (p + W.length, tL T g s (sL T g s ++ [w]))) : zOk (L ++ W) (sJoin1 T g s w) n m := by
  obtain ⟨a, ⟨b1, b2, b3⟩, c, d⟩ := h
  have e : sJoin1 T g s w = tL T g s (sL T g s ++ [w]) := if_pos h0
  have j2 := b2.join (g := g) (s := s) (w := w)
  rw [e] at j2 ⊢
  exact ⟨a.step hl h32 hs, ⟨zWf_join b1 (by omega) (by omega) h0, j2, b3⟩, c, d⟩
set_option maxRecDepth 20000 in
theorem zlw_L_randomRow {l : Launch} {D : va_G} {b0 : Nat} {tA : Nat → ClassId} {sa sv : Nat → Nat} {K : zKt} {I : zI} {Qd : zKt → zI → Option AV → Prop} {K9 : zKt} {cells slots : Nat} {p : Program} {e : Env} {s : State} {m : MethodId} {args : Array Value} {below : List Frame} {meth : Method} {c : Code} {x w r : Nat} {er : Int32} {S : zS} {U : List zS} {A : Nat → Nat} {n7 m7 : Nat} {I9 : zI}
    (X : zX p l e zrm_L_randomRow s m args below meth c RL cL_randomRow 10 (some (.object "GateRowLaw$Station")) D b0 tA sa sv) (hnt : ∀ x ∈ c.exceptionTable.toList, False) (hx : kex K K9) (hcs : cells ≤ 40) (hss : slots ≤ 240) (hS : zSh K9 A n7 m7) (hE : zEx x w r A n7 m7) (hn1 : 0 < n7) (hm1 : 0 < m7) (hn4 : n7 ≤ 4) (hm8 : m7 ≤ 8) (hk : ∀ (J : zI) (L : List Nat) (T : zS), zWx J x w er S U L A n7 m7 T → zOk L T n7 m7 → L.length ≤ 400 → zfx I9 J x w r A n7 m7 → zG p l e zrm_L_randomRow s m args below meth c 10 D b0 tA sa cells slots (zQD below D b0 tA sa K args s zrm_L_randomRow Qd) K9 474 [some (vr (x) 7), some (vr (w) 19), some (vr (r) 16), some (vr (A (0)) 17), none, none, none, none, none, none] [] J) :
    ∀ (n : Nat) (n9 : Nat) (L : List Nat) (T : zS) (J : zI), n9 ≤ 13 → zWx J x w er S U L A n7 m7 T → zOk L T n7 m7 → L.length + 21 * n9 ≤ 400 → zfx I9 J x w r A n7 m7 → n9 < n → zG p l e zrm_L_randomRow s m args below meth c 10 D b0 tA sa cells slots (zQD below D b0 tA sa K args s zrm_L_randomRow Qd) K9 279 [some (vr (x) 7), some (vr (w) 19), some (vr (r) 16), some (vr (A (0)) 17), some (vi ((nI n9))), none, none, none, none, none] [] J := by
  intro n
  induction n with
  | zero => intro n9 L T J i1 i2 i3 i4 i5 i9; exact absurd i9 (Nat.not_lt_zero _)
  | succ n ih =>
    intro n9 L T J i1 i2 i3 i4 i5 i9
    have hA := hS.1
    have hM := i2.2
    have hW := i3.2.1.1
    have hgn := i3.2.2.1
    have hcm := i3.2.2.2
    have hy4 := fun g s w => qWhy_lt (S := T) (g := g) (s := s) (w := w)
    refine zr_iload4 X dL_randomRow_279 ?_
    refine zr_nif_le X (n9) (tgt := 474) (by omega) dL_randomRow_281 (by decide) (fun h1 => ?_) (fun h1 => ?_)
    · skip
      refine zr_forget (lv2 := [some (vr (x) 7), some (vr (w) 19), some (vr (r) 16), some (vr (A (0)) 17), none, none, none, none, none, none]) (fun j9 v9 h9 => by rcases j9 with _ | _ | _ | _ | _ | _ | _ | _ | _ | _ | j9 <;> first | exact h9 | (simp at h9; done) | (simp at h9)) ?_
      exact hk _ _ _ i2 i3 (by omega) i5
    · skip
      refine zr_aload2 X dL_randomRow_284 ?_
      refine zr_aload3 X dL_randomRow_285 ?_
      refine zr_getI X zf_L_143 rfl dL_randomRow_286 ?_
      refine zr_eq (x2 := (nI n7)) ((i2.2.2.2.1 4 (by decide) (by decide)).trans i2.2.2.1.1) ?_
      refine zr_callVQ (rm9 := zrm_X11_below) (As := [vi ((nI n7))]) (st := []) X zm_L_118 rfl rfl ⟨by decide, Nat.le_of_ble_eq_true rfl⟩ ⟨hcs, hss⟩ (Nat.le_of_ble_eq_true rfl) dL_randomRow_289 ?_
      refine zy_X11_below (b := n7) hE i2 (by omega) (by omega) (fun J1 v2 hv3 hw2 hf3 => ?_)
      refine zr_istore5 X (by decide) rfl dL_randomRow_292 ?_
      refine zr_aload2 X dL_randomRow_294 ?_
      refine zr_iconst (v := (3 : Int32)) X dL_randomRow_295 (by decide) ?_
      refine zr_callVQ (rm9 := zrm_X11_below) (As := [vi ((3 : Int32))]) (st := []) X zm_L_118 rfl rfl ⟨by decide, Nat.le_of_ble_eq_true rfl⟩ ⟨hcs, hss⟩ (Nat.le_of_ble_eq_true rfl) dL_randomRow_296 ?_
      refine zy_X11_below (b := 3) hE hw2 (by omega) (by omega) (fun J4 v5 hv6 hw5 hf6 => ?_)
      refine zr_nif_ne X (v5) (tgt := 306) (by omega) dL_randomRow_299 (by decide) (fun h8 => ?_) (fun h8 => ?_)
      · skip
        refine zr_iconst (v := (0 : Int32)) X dL_randomRow_306 (by decide) ?_
        refine zr_istore6 X (by decide) rfl dL_randomRow_307 ?_
        refine zr_aload2 X dL_randomRow_309 ?_
        refine zr_iconst (v := (4 : Int32)) X dL_randomRow_310 (by decide) ?_
        refine zr_callVQ (rm9 := zrm_X11_below) (As := [vi ((4 : Int32))]) (st := []) X zm_L_118 rfl rfl ⟨by decide, Nat.le_of_ble_eq_true rfl⟩ ⟨hcs, hss⟩ (Nat.le_of_ble_eq_true rfl) dL_randomRow_311 ?_
        refine zy_X11_below (b := 4) hE hw5 (by omega) (by omega) (fun J7 v9 hv10 hw8 hf9 => ?_)
        refine zr_nif_ne X (v9) (tgt := 321) (by omega) dL_randomRow_314 (by decide) (fun h12 => ?_) (fun h12 => ?_)
        · skip
          refine zr_aload2 X dL_randomRow_321 ?_
          refine zr_aload3 X dL_randomRow_322 ?_
          refine zr_getI X zf_L_163 rfl dL_randomRow_323 ?_
          refine zr_eq (x2 := (nI m7)) ((hw8.2.2.2.1 5 (by decide) (by decide)).trans hw8.2.2.1.2) ?_
          refine zr_callVQ (rm9 := zrm_X11_below) (As := [vi ((nI m7))]) (st := []) X zm_L_118 rfl rfl ⟨by decide, Nat.le_of_ble_eq_true rfl⟩ ⟨hcs, hss⟩ (Nat.le_of_ble_eq_true rfl) dL_randomRow_326 ?_
          refine zy_X11_below (b := m7) hE hw8 (by omega) (by omega) (fun J10 v13 hv14 hw11 hf12 => ?_)
          refine zr_istore7 X (by decide) rfl dL_randomRow_329 ?_
          refine zr_aload3 X dL_randomRow_331 ?_
          refine zr_iload5 X dL_randomRow_332 ?_
          refine zr_iload6 X dL_randomRow_334 ?_
          refine zr_iload7 X dL_randomRow_336 ?_
          refine zr_callVQ (rm9 := zrm_X12_whyNot) (As := [vi ((nI v2)), vi ((0 : Int32)), vi ((nI v13))]) (st := []) X zm_L_178 rfl rfl ⟨by decide, Nat.le_of_ble_eq_true rfl⟩ ⟨hcs, hss⟩ (Nat.le_of_ble_eq_true rfl) dL_randomRow_338 ?_
          refine zok0_X12_whyNot (g := v2) (c9 := v13) hS hw11.2 hW (by omega) (by omega) ?_; have hq5 := qWhy_lt (S := T) (g := v2) (s := 0) (w := (v13 + 1))
          refine zr_nif_le X ((qWhy T v2 0 (v13 + 1))) (tgt := 347) (by omega) dL_randomRow_341 (by decide) (fun h16 => ?_) (fun h16 => ?_)
          · skip
            refine zr_aload3 X dL_randomRow_347 ?_
            refine zr_iload5 X dL_randomRow_348 ?_
            refine zr_iload6 X dL_randomRow_350 ?_
            refine zr_iload7 X dL_randomRow_352 ?_
            refine zr_callVQ (rm9 := zrm_X12_join) (As := [vi ((nI v2)), vi ((0 : Int32)), vi ((nI v13))]) (st := []) X zm_L_181 rfl rfl ⟨by decide, Nat.le_of_ble_eq_true rfl⟩ ⟨hcs, hss⟩ (Nat.le_of_ble_eq_true rfl) dL_randomRow_354 ?_
            refine zok0_X12_join (g := v2) (c9 := v13) hS hw11.2 hW (by omega) (by omega) (fun J13 hg17 hM18 => ?_)
            obtain ⟨hw14, hf15⟩ := zWx.stn hE hw11 hg17 hM18
            refine zr_istore8 X (by decide) rfl dL_randomRow_357 ?_
            refine zr_aload0 X dL_randomRow_359 ?_
            refine zr_aload1 X dL_randomRow_360 ?_
            refine zr_ldcS X 17 rfl (by decide) dL_randomRow_361 ?_
            refine zr_callSQ (rm9 := zrm_L_write) (As := [vr (x) 7, vr (w) 19, vr (sa 17) (24 + 17)]) (st := []) X zm_L_132 rfl rfl ⟨by decide, Nat.le_of_ble_eq_true rfl⟩ ⟨hcs, hss⟩ (Nat.le_of_ble_eq_true rfl) dL_randomRow_363 ?_
            refine zp_L_write (L := L) (i := 17) hw14.1 (Or.inr hE.2.1) (by decide) (by first | omega | (simp only [List.length_append, List.length_cons, List.length_nil, show (zSW.getD 11 []).length = 1 from rfl, show (zSW.getD 12 []).length = 1 from rfl, show (zSW.getD 16 []).length = 5 from rfl, show (zSW.getD 17 []).length = 5 from rfl, show (zSW.getD 18 []).length = 3 from rfl, show (zSW.getD 19 []).length = 4 from rfl, show (zSW.getD 20 []).length = 2 from rfl, show (zSW.getD 21 []).length = 5 from rfl]; omega)) (fun J16 hT17 hW18 => ?_)
            obtain ⟨hw19, hf20⟩ := zWx.txt hE hw14 hT17 hW18
            refine zr_aload0 X dL_randomRow_366 ?_
            refine zr_aload1 X dL_randomRow_367 ?_
            refine zr_iload5 X dL_randomRow_368 ?_
            refine zr_callSQ (rm9 := zrm_L_writeNumber) (As := [vr (x) 7, vr (w) 19, vi ((nI v2))]) (st := []) X zm_L_136 rfl rfl ⟨by decide, Nat.le_of_ble_eq_true rfl⟩ ⟨hcs, hss⟩ (Nat.le_of_ble_eq_true rfl) dL_randomRow_370 ?_
            refine zp_L_writeNumber (L := (L ++ zSW.getD 17 [])) (n9 := v2) hw19.1 (Or.inr hE.2.1) (by omega) (by first | omega | (simp only [List.length_append, List.length_cons, List.length_nil, show (zSW.getD 11 []).length = 1 from rfl, show (zSW.getD 12 []).length = 1 from rfl, show (zSW.getD 16 []).length = 5 from rfl, show (zSW.getD 17 []).length = 5 from rfl, show (zSW.getD 18 []).length = 3 from rfl, show (zSW.getD 19 []).length = 4 from rfl, show (zSW.getD 20 []).length = 2 from rfl, show (zSW.getD 21 []).length = 5 from rfl]; omega)) (fun J21 hT22 hW23 => ?_)
            obtain ⟨hw24, hf25⟩ := zWx.txt hE hw19 hT22 hW23
            refine zr_aload0 X dL_randomRow_373 ?_
            refine zr_aload1 X dL_randomRow_374 ?_
            refine zr_iload6 X dL_randomRow_375 ?_
            refine zr_if_ne (tgt := 385) X dL_randomRow_377 (by decide) (fun h => absurd h (by decide)) (fun _ => ?_)
            refine zr_ldcS X 18 rfl (by decide) dL_randomRow_380 ?_
            refine zr_goto (tgt := 387) X dL_randomRow_382 (by decide) ?_
            refine zr_callSQ (rm9 := zrm_L_write) (As := [vr (x) 7, vr (w) 19, vr (sa 18) (24 + 18)]) (st := []) X zm_L_132 rfl rfl ⟨by decide, Nat.le_of_ble_eq_true rfl⟩ ⟨hcs, hss⟩ (Nat.le_of_ble_eq_true rfl) dL_randomRow_387 ?_
            refine zp_L_write (L := ((L ++ zSW.getD 17 []) ++ [48 + v2])) (i := 18) hw24.1 (Or.inr hE.2.1) (by decide) (by first | omega | (simp only [List.length_append, List.length_cons, List.length_nil, show (zSW.getD 11 []).length = 1 from rfl, show (zSW.getD 12 []).length = 1 from rfl, show (zSW.getD 16 []).length = 5 from rfl, show (zSW.getD 17 []).length = 5 from rfl, show (zSW.getD 18 []).length = 3 from rfl, show (zSW.getD 19 []).length = 4 from rfl, show (zSW.getD 20 []).length = 2 from rfl, show (zSW.getD 21 []).length = 5 from rfl]; omega)) (fun J26 hT27 hW28 => ?_)
            obtain ⟨hw29, hf30⟩ := zWx.txt hE hw24 hT27 hW28
            refine zr_iload7 X dL_randomRow_390 ?_
            refine zr_nif_lt X (v13) (tgt := 412) (by omega) dL_randomRow_392 (by decide) (fun h => h.elim) (fun _ => ?_)
            refine zr_aload0 X dL_randomRow_395 ?_
            refine zr_aload1 X dL_randomRow_396 ?_
            refine zr_ldcS X 11 rfl (by decide) dL_randomRow_397 ?_
            refine zr_callSQ (rm9 := zrm_L_write) (As := [vr (x) 7, vr (w) 19, vr (sa 11) (24 + 11)]) (st := []) X zm_L_132 rfl rfl ⟨by decide, Nat.le_of_ble_eq_true rfl⟩ ⟨hcs, hss⟩ (Nat.le_of_ble_eq_true rfl) dL_randomRow_399 ?_
            refine zp_L_write (L := (((L ++ zSW.getD 17 []) ++ [48 + v2]) ++ zSW.getD 18 [])) (i := 11) hw29.1 (Or.inr hE.2.1) (by decide) (by first | omega | (simp only [List.length_append, List.length_cons, List.length_nil, show (zSW.getD 11 []).length = 1 from rfl, show (zSW.getD 12 []).length = 1 from rfl, show (zSW.getD 16 []).length = 5 from rfl, show (zSW.getD 17 []).length = 5 from rfl, show (zSW.getD 18 []).length = 3 from rfl, show (zSW.getD 19 []).length = 4 from rfl, show (zSW.getD 20 []).length = 2 from rfl, show (zSW.getD 21 []).length = 5 from rfl]; omega)) (fun J31 hT32 hW33 => ?_)
            obtain ⟨hw34, hf35⟩ := zWx.txt hE hw29 hT32 hW33
            refine zr_aload0 X dL_randomRow_402 ?_
            refine zr_aload1 X dL_randomRow_403 ?_
            refine zr_bipush (v := (97 : Int32)) X dL_randomRow_404 (by decide) ?_
            refine zr_iload7 X dL_randomRow_406 ?_
            refine zr_iadd X dL_randomRow_408 ?_
            refine zr_eq (x2 := (nI (97 + v13))) (nI_add (97) (v13)) ?_
            refine zr_callSQ (rm9 := zrm_L_put) (As := [vr (x) 7, vr (w) 19, vi ((nI (97 + v13)))]) (st := []) X zm_L_33 rfl rfl ⟨by decide, Nat.le_of_ble_eq_true rfl⟩ ⟨hcs, hss⟩ (Nat.le_of_ble_eq_true rfl) dL_randomRow_409 ?_
            refine zp_L_put (L := ((((L ++ zSW.getD 17 []) ++ [48 + v2]) ++ zSW.getD 18 []) ++ zSW.getD 11 [])) (c9 := (97 + v13)) hw34.1 (Or.inr hE.2.1) (by omega) (by first | omega | (simp only [List.length_append, List.length_cons, List.length_nil, show (zSW.getD 11 []).length = 1 from rfl, show (zSW.getD 12 []).length = 1 from rfl, show (zSW.getD 16 []).length = 5 from rfl, show (zSW.getD 17 []).length = 5 from rfl, show (zSW.getD 18 []).length = 3 from rfl, show (zSW.getD 19 []).length = 4 from rfl, show (zSW.getD 20 []).length = 2 from rfl, show (zSW.getD 21 []).length = 5 from rfl]; omega)) (fun J36 hT37 hW38 => ?_)
            obtain ⟨hw39, hf40⟩ := zWx.txt hE hw34 hT37 hW38
            refine zr_aload0 X dL_randomRow_412 ?_
            refine zr_aload1 X dL_randomRow_413 ?_
            refine zr_ldcS X 20 rfl (by decide) dL_randomRow_414 ?_
            refine zr_callSQ (rm9 := zrm_L_write) (As := [vr (x) 7, vr (w) 19, vr (sa 20) (24 + 20)]) (st := []) X zm_L_132 rfl rfl ⟨by decide, Nat.le_of_ble_eq_true rfl⟩ ⟨hcs, hss⟩ (Nat.le_of_ble_eq_true rfl) dL_randomRow_416 ?_
            refine zp_L_write (L := (((((L ++ zSW.getD 17 []) ++ [48 + v2]) ++ zSW.getD 18 []) ++ zSW.getD 11 []) ++ [(97 + v13)])) (i := 20) hw39.1 (Or.inr hE.2.1) (by decide) (by first | omega | (simp only [List.length_append, List.length_cons, List.length_nil, show (zSW.getD 11 []).length = 1 from rfl, show (zSW.getD 12 []).length = 1 from rfl, show (zSW.getD 16 []).length = 5 from rfl, show (zSW.getD 17 []).length = 5 from rfl, show (zSW.getD 18 []).length = 3 from rfl, show (zSW.getD 19 []).length = 4 from rfl, show (zSW.getD 20 []).length = 2 from rfl, show (zSW.getD 21 []).length = 5 from rfl]; omega)) (fun J41 hT42 hW43 => ?_)
            obtain ⟨hw44, hf45⟩ := zWx.txt hE hw39 hT42 hW43
            have he20 : ((((((L ++ zSW.getD 17 []) ++ [48 + v2]) ++ zSW.getD 18 []) ++ zSW.getD 11 []) ++ [(97 + v13)]) ++ zSW.getD 20 []) = L ++ [119, 97, 105, 116, 32, 48 + v2, 32, 105, 110, 32, 97 + v13, 32, 59] := by simp only [List.append_assoc]; rfl
            have hok46 : zOk (L ++ [119, 97, 105, 116, 32, 48 + v2, 32, 105, 110, 32, 97 + v13, 32, 59]) (sJoin1 T v2 0 (v13 + 1)) n7 m7 := i3.line (by omega) (by omega) h16 (Nat.succ_pos _) (show (119 : Nat) ≠ 32 by decide) (fun t n p q1 q2 q3 => zst_wait1_in (by omega) (by omega) i3.2.1.2.2 (by omega) (by omega) h16 q1 q2 q3)
            have hw47 := hw44
            rw [he20] at hw47
            have hl_hok46 : (L ++ [119, 97, 105, 116, 32, 48 + v2, 32, 105, 110, 32, 97 + v13, 32, 59]).length ≤ (L).length + 14 := by rw [List.length_append]; exact Nat.add_le_add_left (show _ ≤ 14 by simp only [List.length_cons, List.length_nil]; omega) _
            refine zr_aload2 X dL_randomRow_419 ?_
            refine zr_iconst (v := (3 : Int32)) X dL_randomRow_420 (by decide) ?_
            refine zr_callVQ (rm9 := zrm_X11_below) (As := [vi ((3 : Int32))]) (st := []) X zm_L_118 rfl rfl ⟨by decide, Nat.le_of_ble_eq_true rfl⟩ ⟨hcs, hss⟩ (Nat.le_of_ble_eq_true rfl) dL_randomRow_421 ?_
            refine zy_X11_below (b := 3) hE hw47 (by omega) (by omega) (fun J48 v21 hv22 hw49 hf50 => ?_)
            refine zr_nif_le X (v21) (tgt := 430) (by omega) dL_randomRow_424 (by decide) (fun h24 => ?_) (fun h24 => ?_)
            · skip
              refine zr_iconst (v := (1 : Int32)) X dL_randomRow_430 (by decide) ?_
              refine zr_aload2 X dL_randomRow_431 ?_
              refine zr_iconst (v := (4 : Int32)) X dL_randomRow_432 (by decide) ?_
              refine zr_callVQ (rm9 := zrm_X11_below) (As := [vi ((4 : Int32))]) (st := [vi ((1 : Int32))]) X zm_L_118 rfl rfl ⟨by decide, Nat.le_of_ble_eq_true rfl⟩ ⟨hcs, hss⟩ (Nat.le_of_ble_eq_true rfl) dL_randomRow_433 ?_
              refine zy_X11_below (b := 4) hE hw49 (by omega) (by omega) (fun J51 v25 hv26 hw52 hf53 => ?_)
              refine zr_iadd X dL_randomRow_436 ?_
              refine zr_eq (x2 := (nI (1 + v25))) (nI_add (1) (v25)) ?_
              refine zr_istore9 X (by decide) rfl dL_randomRow_437 ?_
              refine zr_aload0 X dL_randomRow_439 ?_
              refine zr_aload1 X dL_randomRow_440 ?_
              refine zr_ldcS X 21 rfl (by decide) dL_randomRow_441 ?_
              refine zr_callSQ (rm9 := zrm_L_write) (As := [vr (x) 7, vr (w) 19, vr (sa 21) (24 + 21)]) (st := []) X zm_L_132 rfl rfl ⟨by decide, Nat.le_of_ble_eq_true rfl⟩ ⟨hcs, hss⟩ (Nat.le_of_ble_eq_true rfl) dL_randomRow_443 ?_
              refine zp_L_write (L := (L ++ [119, 97, 105, 116, 32, 48 + v2, 32, 105, 110, 32, 97 + v13, 32, 59])) (i := 21) hw52.1 (Or.inr hE.2.1) (by decide) (by first | omega | (simp only [List.length_append, List.length_cons, List.length_nil, show (zSW.getD 11 []).length = 1 from rfl, show (zSW.getD 12 []).length = 1 from rfl, show (zSW.getD 16 []).length = 5 from rfl, show (zSW.getD 17 []).length = 5 from rfl, show (zSW.getD 18 []).length = 3 from rfl, show (zSW.getD 19 []).length = 4 from rfl, show (zSW.getD 20 []).length = 2 from rfl, show (zSW.getD 21 []).length = 5 from rfl]; omega)) (fun J54 hT55 hW56 => ?_)
              obtain ⟨hw57, hf58⟩ := zWx.txt hE hw52 hT55 hW56
              refine zr_aload0 X dL_randomRow_446 ?_
              refine zr_aload1 X dL_randomRow_447 ?_
              refine zr_iload9 X dL_randomRow_448 ?_
              refine zr_callSQ (rm9 := zrm_L_writeNumber) (As := [vr (x) 7, vr (w) 19, vi ((nI (1 + v25)))]) (st := []) X zm_L_136 rfl rfl ⟨by decide, Nat.le_of_ble_eq_true rfl⟩ ⟨hcs, hss⟩ (Nat.le_of_ble_eq_true rfl) dL_randomRow_450 ?_
              refine zp_L_writeNumber (L := ((L ++ [119, 97, 105, 116, 32, 48 + v2, 32, 105, 110, 32, 97 + v13, 32, 59]) ++ zSW.getD 21 [])) (n9 := (1 + v25)) hw57.1 (Or.inr hE.2.1) (by omega) (by first | omega | (simp only [List.length_append, List.length_cons, List.length_nil, show (zSW.getD 11 []).length = 1 from rfl, show (zSW.getD 12 []).length = 1 from rfl, show (zSW.getD 16 []).length = 5 from rfl, show (zSW.getD 17 []).length = 5 from rfl, show (zSW.getD 18 []).length = 3 from rfl, show (zSW.getD 19 []).length = 4 from rfl, show (zSW.getD 20 []).length = 2 from rfl, show (zSW.getD 21 []).length = 5 from rfl]; omega)) (fun J59 hT60 hW61 => ?_)
              obtain ⟨hw62, hf63⟩ := zWx.txt hE hw57 hT60 hW61
              refine zr_aload0 X dL_randomRow_453 ?_
              refine zr_aload1 X dL_randomRow_454 ?_
              refine zr_ldcS X 12 rfl (by decide) dL_randomRow_455 ?_
              refine zr_callSQ (rm9 := zrm_L_write) (As := [vr (x) 7, vr (w) 19, vr (sa 12) (24 + 12)]) (st := []) X zm_L_132 rfl rfl ⟨by decide, Nat.le_of_ble_eq_true rfl⟩ ⟨hcs, hss⟩ (Nat.le_of_ble_eq_true rfl) dL_randomRow_457 ?_
              refine zp_L_write (L := (((L ++ [119, 97, 105, 116, 32, 48 + v2, 32, 105, 110, 32, 97 + v13, 32, 59]) ++ zSW.getD 21 []) ++ [48 + (1 + v25)])) (i := 12) hw62.1 (Or.inr hE.2.1) (by decide) (by first | omega | (simp only [List.length_append, List.length_cons, List.length_nil, show (zSW.getD 11 []).length = 1 from rfl, show (zSW.getD 12 []).length = 1 from rfl, show (zSW.getD 16 []).length = 5 from rfl, show (zSW.getD 17 []).length = 5 from rfl, show (zSW.getD 18 []).length = 3 from rfl, show (zSW.getD 19 []).length = 4 from rfl, show (zSW.getD 20 []).length = 2 from rfl, show (zSW.getD 21 []).length = 5 from rfl]; omega)) (fun J64 hT65 hW66 => ?_)
              obtain ⟨hw67, hf68⟩ := zWx.txt hE hw62 hT65 hW66
              refine zr_aload3 X dL_randomRow_460 ?_
              refine zr_iload9 X dL_randomRow_461 ?_
              refine zr_callVQ (rm9 := zrm_X12_tick) (As := [vi ((nI (1 + v25)))]) (st := []) X zm_L_192 rfl rfl ⟨by decide, Nat.le_of_ble_eq_true rfl⟩ ⟨hcs, hss⟩ (Nat.le_of_ble_eq_true rfl) dL_randomRow_463 ?_
              refine zp_X12_tick (m9 := (1 + v25)) hS hw67.2 hok46.2.1.1 (by omega) (fun J69 hg28 hM29 => ?_)
              obtain ⟨hw70, hf71⟩ := zWx.stn hE hw67 hg28 hM29
              refine zr_istore8 X (by decide) rfl dL_randomRow_466 ?_
              refine zr_iinc4 (v := (nI (n9 - 1))) X (zdec1 (n := n9) (by omega)) (by decide) rfl dL_randomRow_468 ?_
              refine zr_goto (tgt := 279) X dL_randomRow_471 (by decide) ?_
              have he30 : ((((L ++ [119, 97, 105, 116, 32, 48 + v2, 32, 105, 110, 32, 97 + v13, 32, 59]) ++ zSW.getD 21 []) ++ [48 + (1 + v25)]) ++ zSW.getD 12 []) = (L ++ [119, 97, 105, 116, 32, 48 + v2, 32, 105, 110, 32, 97 + v13, 32, 59]) ++ [116, 105, 99, 107, 32, 48 + (1 + v25), 59] := by simp only [List.append_assoc]; rfl
              have hok73 := hok46.tick (v := (1 + v25)) (by omega) (by omega)
              have hw72 := hw70
              rw [he30] at hw72
              have hl_hok73 : ((L ++ [119, 97, 105, 116, 32, 48 + v2, 32, 105, 110, 32, 97 + v13, 32, 59]) ++ [116, 105, 99, 107, 32, 48 + (1 + v25), 59]).length ≤ ((L ++ [119, 97, 105, 116, 32, 48 + v2, 32, 105, 110, 32, 97 + v13, 32, 59])).length + 7 := by rw [List.length_append]; exact Nat.le_refl _
              refine zr_forget (lv2 := [some (vr (x) 7), some (vr (w) 19), some (vr (r) 16), some (vr (A (0)) 17), some (vi ((nI (n9 - 1)))), none, none, none, none, none]) (fun j9 v9 h9 => by rcases j9 with _ | _ | _ | _ | _ | _ | _ | _ | _ | _ | j9 <;> first | exact h9 | (simp at h9; done) | (simp at h9)) ?_
              exact ih (n9 - 1) ((L ++ [119, 97, 105, 116, 32, 48 + v2, 32, 105, 110, 32, 97 + v13, 32, 59]) ++ [116, 105, 99, 107, 32, 48 + (1 + v25), 59]) _ _ (by omega) hw72 hok73 (by omega) (zfx.tr i5 (zfx.tr (zfx.tr (zfx.tr (zfx.tr (zfx.tr (zfx.tr (zfx.tr (zfx.tr (zfx.tr (zfx.tr (zfx.tr (zfx.tr (zfx.tr (zfx.tr (zfx.tr (zfx.tr hf3 hf6) hf9) hf12) hf15) hf20) hf25) hf30) hf35) hf40) hf45) hf50) hf53) hf58) hf63) hf68) hf71)) (by omega)
            · skip
              refine zr_goto (tgt := 468) X dL_randomRow_427 (by decide) ?_
              refine zr_iinc4 (v := (nI (n9 - 1))) X (zdec1 (n := n9) (by omega)) (by decide) rfl dL_randomRow_468 ?_
              refine zr_goto (tgt := 279) X dL_randomRow_471 (by decide) ?_
              refine zr_forget (lv2 := [some (vr (x) 7), some (vr (w) 19), some (vr (r) 16), some (vr (A (0)) 17), some (vi ((nI (n9 - 1)))), none, none, none, none, none]) (fun j9 v9 h9 => by rcases j9 with _ | _ | _ | _ | _ | _ | _ | _ | _ | _ | j9 <;> first | exact h9 | (simp at h9; done) | (simp at h9)) ?_
              exact ih (n9 - 1) (L ++ [119, 97, 105, 116, 32, 48 + v2, 32, 105, 110, 32, 97 + v13, 32, 59]) _ _ (by omega) hw49 hok46 (by omega) (zfx.tr i5 (zfx.tr (zfx.tr (zfx.tr (zfx.tr (zfx.tr (zfx.tr (zfx.tr (zfx.tr (zfx.tr (zfx.tr (zfx.tr hf3 hf6) hf9) hf12) hf15) hf20) hf25) hf30) hf35) hf40) hf45) hf50)) (by omega)
          · skip
            refine zr_goto (tgt := 468) X dL_randomRow_344 (by decide) ?_
            refine zr_iinc4 (v := (nI (n9 - 1))) X (zdec1 (n := n9) (by omega)) (by decide) rfl dL_randomRow_468 ?_
            refine zr_goto (tgt := 279) X dL_randomRow_471 (by decide) ?_
            refine zr_forget (lv2 := [some (vr (x) 7), some (vr (w) 19), some (vr (r) 16), some (vr (A (0)) 17), some (vi ((nI (n9 - 1)))), none, none, none, none, none]) (fun j9 v9 h9 => by rcases j9 with _ | _ | _ | _ | _ | _ | _ | _ | _ | _ | j9 <;> first | exact h9 | (simp at h9; done) | (simp at h9)) ?_
            exact ih (n9 - 1) L _ _ (by omega) hw11 i3 (by omega) (zfx.tr i5 (zfx.tr (zfx.tr (zfx.tr hf3 hf6) hf9) hf12)) (by omega)
        · skip
          refine zr_iconst (v := (-1 : Int32)) X dL_randomRow_317 (by decide) ?_
          refine zr_goto (tgt := 329) X dL_randomRow_318 (by decide) ?_
          refine zr_istore7 X (by decide) rfl dL_randomRow_329 ?_
          refine zr_aload3 X dL_randomRow_331 ?_
          refine zr_iload5 X dL_randomRow_332 ?_
          refine zr_iload6 X dL_randomRow_334 ?_
          refine zr_iload7 X dL_randomRow_336 ?_
          refine zr_callVQ (rm9 := zrm_X12_whyNot) (As := [vi ((nI v2)), vi ((0 : Int32)), vi ((-1 : Int32))]) (st := []) X zm_L_178 rfl rfl ⟨by decide, Nat.le_of_ble_eq_true rfl⟩ ⟨hcs, hss⟩ (Nat.le_of_ble_eq_true rfl) dL_randomRow_338 ?_
          refine znone0_X12_whyNot (g := v2) hS hw8.2 hW (by omega) ?_; have hq5 := qWhy_lt (S := T) (g := v2) (s := 0) (w := 0)
          refine zr_nif_le X ((qWhy T v2 0 0)) (tgt := 347) (by omega) dL_randomRow_341 (by decide) (fun h31 => ?_) (fun h31 => ?_)
          · skip
            refine zr_aload3 X dL_randomRow_347 ?_
            refine zr_iload5 X dL_randomRow_348 ?_
            refine zr_iload6 X dL_randomRow_350 ?_
            refine zr_iload7 X dL_randomRow_352 ?_
            refine zr_callVQ (rm9 := zrm_X12_join) (As := [vi ((nI v2)), vi ((0 : Int32)), vi ((-1 : Int32))]) (st := []) X zm_L_181 rfl rfl ⟨by decide, Nat.le_of_ble_eq_true rfl⟩ ⟨hcs, hss⟩ (Nat.le_of_ble_eq_true rfl) dL_randomRow_354 ?_
            refine znone0_X12_join (g := v2) hS hw8.2 hW (by omega) (fun J74 hg32 hM33 => ?_)
            obtain ⟨hw75, hf76⟩ := zWx.stn hE hw8 hg32 hM33
            refine zr_istore8 X (by decide) rfl dL_randomRow_357 ?_
            refine zr_aload0 X dL_randomRow_359 ?_
            refine zr_aload1 X dL_randomRow_360 ?_
            refine zr_ldcS X 17 rfl (by decide) dL_randomRow_361 ?_
            refine zr_callSQ (rm9 := zrm_L_write) (As := [vr (x) 7, vr (w) 19, vr (sa 17) (24 + 17)]) (st := []) X zm_L_132 rfl rfl ⟨by decide, Nat.le_of_ble_eq_true rfl⟩ ⟨hcs, hss⟩ (Nat.le_of_ble_eq_true rfl) dL_randomRow_363 ?_
            refine zp_L_write (L := L) (i := 17) hw75.1 (Or.inr hE.2.1) (by decide) (by first | omega | (simp only [List.length_append, List.length_cons, List.length_nil, show (zSW.getD 11 []).length = 1 from rfl, show (zSW.getD 12 []).length = 1 from rfl, show (zSW.getD 16 []).length = 5 from rfl, show (zSW.getD 17 []).length = 5 from rfl, show (zSW.getD 18 []).length = 3 from rfl, show (zSW.getD 19 []).length = 4 from rfl, show (zSW.getD 20 []).length = 2 from rfl, show (zSW.getD 21 []).length = 5 from rfl]; omega)) (fun J77 hT78 hW79 => ?_)
            obtain ⟨hw80, hf81⟩ := zWx.txt hE hw75 hT78 hW79
            refine zr_aload0 X dL_randomRow_366 ?_
            refine zr_aload1 X dL_randomRow_367 ?_
            refine zr_iload5 X dL_randomRow_368 ?_
            refine zr_callSQ (rm9 := zrm_L_writeNumber) (As := [vr (x) 7, vr (w) 19, vi ((nI v2))]) (st := []) X zm_L_136 rfl rfl ⟨by decide, Nat.le_of_ble_eq_true rfl⟩ ⟨hcs, hss⟩ (Nat.le_of_ble_eq_true rfl) dL_randomRow_370 ?_
            refine zp_L_writeNumber (L := (L ++ zSW.getD 17 [])) (n9 := v2) hw80.1 (Or.inr hE.2.1) (by omega) (by first | omega | (simp only [List.length_append, List.length_cons, List.length_nil, show (zSW.getD 11 []).length = 1 from rfl, show (zSW.getD 12 []).length = 1 from rfl, show (zSW.getD 16 []).length = 5 from rfl, show (zSW.getD 17 []).length = 5 from rfl, show (zSW.getD 18 []).length = 3 from rfl, show (zSW.getD 19 []).length = 4 from rfl, show (zSW.getD 20 []).length = 2 from rfl, show (zSW.getD 21 []).length = 5 from rfl]; omega)) (fun J82 hT83 hW84 => ?_)
            obtain ⟨hw85, hf86⟩ := zWx.txt hE hw80 hT83 hW84
            refine zr_aload0 X dL_randomRow_373 ?_
            refine zr_aload1 X dL_randomRow_374 ?_
            refine zr_iload6 X dL_randomRow_375 ?_
            refine zr_if_ne (tgt := 385) X dL_randomRow_377 (by decide) (fun h => absurd h (by decide)) (fun _ => ?_)
            refine zr_ldcS X 18 rfl (by decide) dL_randomRow_380 ?_
            refine zr_goto (tgt := 387) X dL_randomRow_382 (by decide) ?_
            refine zr_callSQ (rm9 := zrm_L_write) (As := [vr (x) 7, vr (w) 19, vr (sa 18) (24 + 18)]) (st := []) X zm_L_132 rfl rfl ⟨by decide, Nat.le_of_ble_eq_true rfl⟩ ⟨hcs, hss⟩ (Nat.le_of_ble_eq_true rfl) dL_randomRow_387 ?_
            refine zp_L_write (L := ((L ++ zSW.getD 17 []) ++ [48 + v2])) (i := 18) hw85.1 (Or.inr hE.2.1) (by decide) (by first | omega | (simp only [List.length_append, List.length_cons, List.length_nil, show (zSW.getD 11 []).length = 1 from rfl, show (zSW.getD 12 []).length = 1 from rfl, show (zSW.getD 16 []).length = 5 from rfl, show (zSW.getD 17 []).length = 5 from rfl, show (zSW.getD 18 []).length = 3 from rfl, show (zSW.getD 19 []).length = 4 from rfl, show (zSW.getD 20 []).length = 2 from rfl, show (zSW.getD 21 []).length = 5 from rfl]; omega)) (fun J87 hT88 hW89 => ?_)
            obtain ⟨hw90, hf91⟩ := zWx.txt hE hw85 hT88 hW89
            refine zr_iload7 X dL_randomRow_390 ?_
            refine zr_if_lt (tgt := 412) X dL_randomRow_392 (by decide) (fun _ => ?_) (fun h => absurd h (by decide))
            refine zr_aload0 X dL_randomRow_412 ?_
            refine zr_aload1 X dL_randomRow_413 ?_
            refine zr_ldcS X 20 rfl (by decide) dL_randomRow_414 ?_
            refine zr_callSQ (rm9 := zrm_L_write) (As := [vr (x) 7, vr (w) 19, vr (sa 20) (24 + 20)]) (st := []) X zm_L_132 rfl rfl ⟨by decide, Nat.le_of_ble_eq_true rfl⟩ ⟨hcs, hss⟩ (Nat.le_of_ble_eq_true rfl) dL_randomRow_416 ?_
            refine zp_L_write (L := (((L ++ zSW.getD 17 []) ++ [48 + v2]) ++ zSW.getD 18 [])) (i := 20) hw90.1 (Or.inr hE.2.1) (by decide) (by first | omega | (simp only [List.length_append, List.length_cons, List.length_nil, show (zSW.getD 11 []).length = 1 from rfl, show (zSW.getD 12 []).length = 1 from rfl, show (zSW.getD 16 []).length = 5 from rfl, show (zSW.getD 17 []).length = 5 from rfl, show (zSW.getD 18 []).length = 3 from rfl, show (zSW.getD 19 []).length = 4 from rfl, show (zSW.getD 20 []).length = 2 from rfl, show (zSW.getD 21 []).length = 5 from rfl]; omega)) (fun J92 hT93 hW94 => ?_)
            obtain ⟨hw95, hf96⟩ := zWx.txt hE hw90 hT93 hW94
            have he34 : ((((L ++ zSW.getD 17 []) ++ [48 + v2]) ++ zSW.getD 18 []) ++ zSW.getD 20 []) = L ++ [119, 97, 105, 116, 32, 48 + v2, 32, 105, 110, 32, 59] := by simp only [List.append_assoc]; rfl
            have hok97 : zOk (L ++ [119, 97, 105, 116, 32, 48 + v2, 32, 105, 110, 32, 59]) (sJoin1 T v2 0 0) n7 m7 := i3.line (by omega) (by omega) h31 (Nat.succ_pos _) (show (119 : Nat) ≠ 32 by decide) (fun t n p q1 q2 q3 => zst_wait0_in (by omega) (by omega) h31 q1 q2 q3)
            have hw98 := hw95
            rw [he34] at hw98
            have hl_hok97 : (L ++ [119, 97, 105, 116, 32, 48 + v2, 32, 105, 110, 32, 59]).length ≤ (L).length + 14 := by rw [List.length_append]; exact Nat.add_le_add_left (show _ ≤ 14 by simp only [List.length_cons, List.length_nil]; omega) _
            refine zr_aload2 X dL_randomRow_419 ?_
            refine zr_iconst (v := (3 : Int32)) X dL_randomRow_420 (by decide) ?_
            refine zr_callVQ (rm9 := zrm_X11_below) (As := [vi ((3 : Int32))]) (st := []) X zm_L_118 rfl rfl ⟨by decide, Nat.le_of_ble_eq_true rfl⟩ ⟨hcs, hss⟩ (Nat.le_of_ble_eq_true rfl) dL_randomRow_421 ?_
            refine zy_X11_below (b := 3) hE hw98 (by omega) (by omega) (fun J99 v35 hv36 hw100 hf101 => ?_)
            refine zr_nif_le X (v35) (tgt := 430) (by omega) dL_randomRow_424 (by decide) (fun h38 => ?_) (fun h38 => ?_)
            · skip
              refine zr_iconst (v := (1 : Int32)) X dL_randomRow_430 (by decide) ?_
              refine zr_aload2 X dL_randomRow_431 ?_
              refine zr_iconst (v := (4 : Int32)) X dL_randomRow_432 (by decide) ?_
              refine zr_callVQ (rm9 := zrm_X11_below) (As := [vi ((4 : Int32))]) (st := [vi ((1 : Int32))]) X zm_L_118 rfl rfl ⟨by decide, Nat.le_of_ble_eq_true rfl⟩ ⟨hcs, hss⟩ (Nat.le_of_ble_eq_true rfl) dL_randomRow_433 ?_
              refine zy_X11_below (b := 4) hE hw100 (by omega) (by omega) (fun J102 v39 hv40 hw103 hf104 => ?_)
              refine zr_iadd X dL_randomRow_436 ?_
              refine zr_eq (x2 := (nI (1 + v39))) (nI_add (1) (v39)) ?_
              refine zr_istore9 X (by decide) rfl dL_randomRow_437 ?_
              refine zr_aload0 X dL_randomRow_439 ?_
              refine zr_aload1 X dL_randomRow_440 ?_
              refine zr_ldcS X 21 rfl (by decide) dL_randomRow_441 ?_
              refine zr_callSQ (rm9 := zrm_L_write) (As := [vr (x) 7, vr (w) 19, vr (sa 21) (24 + 21)]) (st := []) X zm_L_132 rfl rfl ⟨by decide, Nat.le_of_ble_eq_true rfl⟩ ⟨hcs, hss⟩ (Nat.le_of_ble_eq_true rfl) dL_randomRow_443 ?_
              refine zp_L_write (L := (L ++ [119, 97, 105, 116, 32, 48 + v2, 32, 105, 110, 32, 59])) (i := 21) hw103.1 (Or.inr hE.2.1) (by decide) (by first | omega | (simp only [List.length_append, List.length_cons, List.length_nil, show (zSW.getD 11 []).length = 1 from rfl, show (zSW.getD 12 []).length = 1 from rfl, show (zSW.getD 16 []).length = 5 from rfl, show (zSW.getD 17 []).length = 5 from rfl, show (zSW.getD 18 []).length = 3 from rfl, show (zSW.getD 19 []).length = 4 from rfl, show (zSW.getD 20 []).length = 2 from rfl, show (zSW.getD 21 []).length = 5 from rfl]; omega)) (fun J105 hT106 hW107 => ?_)
              obtain ⟨hw108, hf109⟩ := zWx.txt hE hw103 hT106 hW107
              refine zr_aload0 X dL_randomRow_446 ?_
              refine zr_aload1 X dL_randomRow_447 ?_
              refine zr_iload9 X dL_randomRow_448 ?_
              refine zr_callSQ (rm9 := zrm_L_writeNumber) (As := [vr (x) 7, vr (w) 19, vi ((nI (1 + v39)))]) (st := []) X zm_L_136 rfl rfl ⟨by decide, Nat.le_of_ble_eq_true rfl⟩ ⟨hcs, hss⟩ (Nat.le_of_ble_eq_true rfl) dL_randomRow_450 ?_
              refine zp_L_writeNumber (L := ((L ++ [119, 97, 105, 116, 32, 48 + v2, 32, 105, 110, 32, 59]) ++ zSW.getD 21 [])) (n9 := (1 + v39)) hw108.1 (Or.inr hE.2.1) (by omega) (by first | omega | (simp only [List.length_append, List.length_cons, List.length_nil, show (zSW.getD 11 []).length = 1 from rfl, show (zSW.getD 12 []).length = 1 from rfl, show (zSW.getD 16 []).length = 5 from rfl, show (zSW.getD 17 []).length = 5 from rfl, show (zSW.getD 18 []).length = 3 from rfl, show (zSW.getD 19 []).length = 4 from rfl, show (zSW.getD 20 []).length = 2 from rfl, show (zSW.getD 21 []).length = 5 from rfl]; omega)) (fun J110 hT111 hW112 => ?_)
              obtain ⟨hw113, hf114⟩ := zWx.txt hE hw108 hT111 hW112
              refine zr_aload0 X dL_randomRow_453 ?_
              refine zr_aload1 X dL_randomRow_454 ?_
              refine zr_ldcS X 12 rfl (by decide) dL_randomRow_455 ?_
              refine zr_callSQ (rm9 := zrm_L_write) (As := [vr (x) 7, vr (w) 19, vr (sa 12) (24 + 12)]) (st := []) X zm_L_132 rfl rfl ⟨by decide, Nat.le_of_ble_eq_true rfl⟩ ⟨hcs, hss⟩ (Nat.le_of_ble_eq_true rfl) dL_randomRow_457 ?_
              refine zp_L_write (L := (((L ++ [119, 97, 105, 116, 32, 48 + v2, 32, 105, 110, 32, 59]) ++ zSW.getD 21 []) ++ [48 + (1 + v39)])) (i := 12) hw113.1 (Or.inr hE.2.1) (by decide) (by first | omega | (simp only [List.length_append, List.length_cons, List.length_nil, show (zSW.getD 11 []).length = 1 from rfl, show (zSW.getD 12 []).length = 1 from rfl, show (zSW.getD 16 []).length = 5 from rfl, show (zSW.getD 17 []).length = 5 from rfl, show (zSW.getD 18 []).length = 3 from rfl, show (zSW.getD 19 []).length = 4 from rfl, show (zSW.getD 20 []).length = 2 from rfl, show (zSW.getD 21 []).length = 5 from rfl]; omega)) (fun J115 hT116 hW117 => ?_)
              obtain ⟨hw118, hf119⟩ := zWx.txt hE hw113 hT116 hW117
              refine zr_aload3 X dL_randomRow_460 ?_
              refine zr_iload9 X dL_randomRow_461 ?_
              refine zr_callVQ (rm9 := zrm_X12_tick) (As := [vi ((nI (1 + v39)))]) (st := []) X zm_L_192 rfl rfl ⟨by decide, Nat.le_of_ble_eq_true rfl⟩ ⟨hcs, hss⟩ (Nat.le_of_ble_eq_true rfl) dL_randomRow_463 ?_
              refine zp_X12_tick (m9 := (1 + v39)) hS hw118.2 hok97.2.1.1 (by omega) (fun J120 hg42 hM43 => ?_)
              obtain ⟨hw121, hf122⟩ := zWx.stn hE hw118 hg42 hM43
              refine zr_istore8 X (by decide) rfl dL_randomRow_466 ?_
              refine zr_iinc4 (v := (nI (n9 - 1))) X (zdec1 (n := n9) (by omega)) (by decide) rfl dL_randomRow_468 ?_
              refine zr_goto (tgt := 279) X dL_randomRow_471 (by decide) ?_
              have he44 : ((((L ++ [119, 97, 105, 116, 32, 48 + v2, 32, 105, 110, 32, 59]) ++ zSW.getD 21 []) ++ [48 + (1 + v39)]) ++ zSW.getD 12 []) = (L ++ [119, 97, 105, 116, 32, 48 + v2, 32, 105, 110, 32, 59]) ++ [116, 105, 99, 107, 32, 48 + (1 + v39), 59] := by simp only [List.append_assoc]; rfl
              have hok124 := hok97.tick (v := (1 + v39)) (by omega) (by omega)
              have hw123 := hw121
              rw [he44] at hw123
              have hl_hok124 : ((L ++ [119, 97, 105, 116, 32, 48 + v2, 32, 105, 110, 32, 59]) ++ [116, 105, 99, 107, 32, 48 + (1 + v39), 59]).length ≤ ((L ++ [119, 97, 105, 116, 32, 48 + v2, 32, 105, 110, 32, 59])).length + 7 := by rw [List.length_append]; exact Nat.le_refl _
              refine zr_forget (lv2 := [some (vr (x) 7), some (vr (w) 19), some (vr (r) 16), some (vr (A (0)) 17), some (vi ((nI (n9 - 1)))), none, none, none, none, none]) (fun j9 v9 h9 => by rcases j9 with _ | _ | _ | _ | _ | _ | _ | _ | _ | _ | j9 <;> first | exact h9 | (simp at h9; done) | (simp at h9)) ?_
              exact ih (n9 - 1) ((L ++ [119, 97, 105, 116, 32, 48 + v2, 32, 105, 110, 32, 59]) ++ [116, 105, 99, 107, 32, 48 + (1 + v39), 59]) _ _ (by omega) hw123 hok124 (by omega) (zfx.tr i5 (zfx.tr (zfx.tr (zfx.tr (zfx.tr (zfx.tr (zfx.tr (zfx.tr (zfx.tr (zfx.tr (zfx.tr (zfx.tr (zfx.tr (zfx.tr hf3 hf6) hf9) hf76) hf81) hf86) hf91) hf96) hf101) hf104) hf109) hf114) hf119) hf122)) (by omega)
            · skip
              refine zr_goto (tgt := 468) X dL_randomRow_427 (by decide) ?_
              refine zr_iinc4 (v := (nI (n9 - 1))) X (zdec1 (n := n9) (by omega)) (by decide) rfl dL_randomRow_468 ?_
              refine zr_goto (tgt := 279) X dL_randomRow_471 (by decide) ?_
              refine zr_forget (lv2 := [some (vr (x) 7), some (vr (w) 19), some (vr (r) 16), some (vr (A (0)) 17), some (vi ((nI (n9 - 1)))), none, none, none, none, none]) (fun j9 v9 h9 => by rcases j9 with _ | _ | _ | _ | _ | _ | _ | _ | _ | _ | j9 <;> first | exact h9 | (simp at h9; done) | (simp at h9)) ?_
              exact ih (n9 - 1) (L ++ [119, 97, 105, 116, 32, 48 + v2, 32, 105, 110, 32, 59]) _ _ (by omega) hw100 hok97 (by omega) (zfx.tr i5 (zfx.tr (zfx.tr (zfx.tr (zfx.tr (zfx.tr (zfx.tr (zfx.tr (zfx.tr hf3 hf6) hf9) hf76) hf81) hf86) hf91) hf96) hf101)) (by omega)
          · skip
            refine zr_goto (tgt := 468) X dL_randomRow_344 (by decide) ?_
            refine zr_iinc4 (v := (nI (n9 - 1))) X (zdec1 (n := n9) (by omega)) (by decide) rfl dL_randomRow_468 ?_
            refine zr_goto (tgt := 279) X dL_randomRow_471 (by decide) ?_
            refine zr_forget (lv2 := [some (vr (x) 7), some (vr (w) 19), some (vr (r) 16), some (vr (A (0)) 17), some (vi ((nI (n9 - 1)))), none, none, none, none, none]) (fun j9 v9 h9 => by rcases j9 with _ | _ | _ | _ | _ | _ | _ | _ | _ | _ | j9 <;> first | exact h9 | (simp at h9; done) | (simp at h9)) ?_
            exact ih (n9 - 1) L _ _ (by omega) hw8 i3 (by omega) (zfx.tr i5 (zfx.tr (zfx.tr hf3 hf6) hf9)) (by omega)
      · skip
        refine zr_iconst (v := (1 : Int32)) X dL_randomRow_302 (by decide) ?_
        refine zr_goto (tgt := 307) X dL_randomRow_303 (by decide) ?_
        refine zr_istore6 X (by decide) rfl dL_randomRow_307 ?_
        refine zr_aload2 X dL_randomRow_309 ?_
        refine zr_iconst (v := (4 : Int32)) X dL_randomRow_310 (by decide) ?_
        refine zr_callVQ (rm9 := zrm_X11_below) (As := [vi ((4 : Int32))]) (st := []) X zm_L_118 rfl rfl ⟨by decide, Nat.le_of_ble_eq_true rfl⟩ ⟨hcs, hss⟩ (Nat.le_of_ble_eq_true rfl) dL_randomRow_311 ?_
        refine zy_X11_below (b := 4) hE hw5 (by omega) (by omega) (fun J125 v45 hv46 hw126 hf127 => ?_)
        refine zr_nif_ne X (v45) (tgt := 321) (by omega) dL_randomRow_314 (by decide) (fun h48 => ?_) (fun h48 => ?_)
        · skip
          refine zr_aload2 X dL_randomRow_321 ?_
          refine zr_aload3 X dL_randomRow_322 ?_
          refine zr_getI X zf_L_163 rfl dL_randomRow_323 ?_
          refine zr_eq (x2 := (nI m7)) ((hw126.2.2.2.1 5 (by decide) (by decide)).trans hw126.2.2.1.2) ?_
          refine zr_callVQ (rm9 := zrm_X11_below) (As := [vi ((nI m7))]) (st := []) X zm_L_118 rfl rfl ⟨by decide, Nat.le_of_ble_eq_true rfl⟩ ⟨hcs, hss⟩ (Nat.le_of_ble_eq_true rfl) dL_randomRow_326 ?_
          refine zy_X11_below (b := m7) hE hw126 (by omega) (by omega) (fun J128 v49 hv50 hw129 hf130 => ?_)
          refine zr_istore7 X (by decide) rfl dL_randomRow_329 ?_
          refine zr_aload3 X dL_randomRow_331 ?_
          refine zr_iload5 X dL_randomRow_332 ?_
          refine zr_iload6 X dL_randomRow_334 ?_
          refine zr_iload7 X dL_randomRow_336 ?_
          refine zr_callVQ (rm9 := zrm_X12_whyNot) (As := [vi ((nI v2)), vi ((1 : Int32)), vi ((nI v49))]) (st := []) X zm_L_178 rfl rfl ⟨by decide, Nat.le_of_ble_eq_true rfl⟩ ⟨hcs, hss⟩ (Nat.le_of_ble_eq_true rfl) dL_randomRow_338 ?_
          refine zok1_X12_whyNot (g := v2) (c9 := v49) hS hw129.2 hW (by omega) (by omega) ?_; have hq5 := qWhy_lt (S := T) (g := v2) (s := 1) (w := (v49 + 1))
          refine zr_nif_le X ((qWhy T v2 1 (v49 + 1))) (tgt := 347) (by omega) dL_randomRow_341 (by decide) (fun h52 => ?_) (fun h52 => ?_)
          · skip
            refine zr_aload3 X dL_randomRow_347 ?_
            refine zr_iload5 X dL_randomRow_348 ?_
            refine zr_iload6 X dL_randomRow_350 ?_
            refine zr_iload7 X dL_randomRow_352 ?_
            refine zr_callVQ (rm9 := zrm_X12_join) (As := [vi ((nI v2)), vi ((1 : Int32)), vi ((nI v49))]) (st := []) X zm_L_181 rfl rfl ⟨by decide, Nat.le_of_ble_eq_true rfl⟩ ⟨hcs, hss⟩ (Nat.le_of_ble_eq_true rfl) dL_randomRow_354 ?_
            refine zok1_X12_join (g := v2) (c9 := v49) hS hw129.2 hW (by omega) (by omega) (fun J131 hg53 hM54 => ?_)
            obtain ⟨hw132, hf133⟩ := zWx.stn hE hw129 hg53 hM54
            refine zr_istore8 X (by decide) rfl dL_randomRow_357 ?_
            refine zr_aload0 X dL_randomRow_359 ?_
            refine zr_aload1 X dL_randomRow_360 ?_
            refine zr_ldcS X 17 rfl (by decide) dL_randomRow_361 ?_
            refine zr_callSQ (rm9 := zrm_L_write) (As := [vr (x) 7, vr (w) 19, vr (sa 17) (24 + 17)]) (st := []) X zm_L_132 rfl rfl ⟨by decide, Nat.le_of_ble_eq_true rfl⟩ ⟨hcs, hss⟩ (Nat.le_of_ble_eq_true rfl) dL_randomRow_363 ?_
            refine zp_L_write (L := L) (i := 17) hw132.1 (Or.inr hE.2.1) (by decide) (by first | omega | (simp only [List.length_append, List.length_cons, List.length_nil, show (zSW.getD 11 []).length = 1 from rfl, show (zSW.getD 12 []).length = 1 from rfl, show (zSW.getD 16 []).length = 5 from rfl, show (zSW.getD 17 []).length = 5 from rfl, show (zSW.getD 18 []).length = 3 from rfl, show (zSW.getD 19 []).length = 4 from rfl, show (zSW.getD 20 []).length = 2 from rfl, show (zSW.getD 21 []).length = 5 from rfl]; omega)) (fun J134 hT135 hW136 => ?_)
            obtain ⟨hw137, hf138⟩ := zWx.txt hE hw132 hT135 hW136
            refine zr_aload0 X dL_randomRow_366 ?_
            refine zr_aload1 X dL_randomRow_367 ?_
            refine zr_iload5 X dL_randomRow_368 ?_
            refine zr_callSQ (rm9 := zrm_L_writeNumber) (As := [vr (x) 7, vr (w) 19, vi ((nI v2))]) (st := []) X zm_L_136 rfl rfl ⟨by decide, Nat.le_of_ble_eq_true rfl⟩ ⟨hcs, hss⟩ (Nat.le_of_ble_eq_true rfl) dL_randomRow_370 ?_
            refine zp_L_writeNumber (L := (L ++ zSW.getD 17 [])) (n9 := v2) hw137.1 (Or.inr hE.2.1) (by omega) (by first | omega | (simp only [List.length_append, List.length_cons, List.length_nil, show (zSW.getD 11 []).length = 1 from rfl, show (zSW.getD 12 []).length = 1 from rfl, show (zSW.getD 16 []).length = 5 from rfl, show (zSW.getD 17 []).length = 5 from rfl, show (zSW.getD 18 []).length = 3 from rfl, show (zSW.getD 19 []).length = 4 from rfl, show (zSW.getD 20 []).length = 2 from rfl, show (zSW.getD 21 []).length = 5 from rfl]; omega)) (fun J139 hT140 hW141 => ?_)
            obtain ⟨hw142, hf143⟩ := zWx.txt hE hw137 hT140 hW141
            refine zr_aload0 X dL_randomRow_373 ?_
            refine zr_aload1 X dL_randomRow_374 ?_
            refine zr_iload6 X dL_randomRow_375 ?_
            refine zr_if_ne (tgt := 385) X dL_randomRow_377 (by decide) (fun _ => ?_) (fun h => absurd h (by decide))
            refine zr_ldcS X 19 rfl (by decide) dL_randomRow_385 ?_
            refine zr_callSQ (rm9 := zrm_L_write) (As := [vr (x) 7, vr (w) 19, vr (sa 19) (24 + 19)]) (st := []) X zm_L_132 rfl rfl ⟨by decide, Nat.le_of_ble_eq_true rfl⟩ ⟨hcs, hss⟩ (Nat.le_of_ble_eq_true rfl) dL_randomRow_387 ?_
            refine zp_L_write (L := ((L ++ zSW.getD 17 []) ++ [48 + v2])) (i := 19) hw142.1 (Or.inr hE.2.1) (by decide) (by first | omega | (simp only [List.length_append, List.length_cons, List.length_nil, show (zSW.getD 11 []).length = 1 from rfl, show (zSW.getD 12 []).length = 1 from rfl, show (zSW.getD 16 []).length = 5 from rfl, show (zSW.getD 17 []).length = 5 from rfl, show (zSW.getD 18 []).length = 3 from rfl, show (zSW.getD 19 []).length = 4 from rfl, show (zSW.getD 20 []).length = 2 from rfl, show (zSW.getD 21 []).length = 5 from rfl]; omega)) (fun J144 hT145 hW146 => ?_)
            obtain ⟨hw147, hf148⟩ := zWx.txt hE hw142 hT145 hW146
            refine zr_iload7 X dL_randomRow_390 ?_
            refine zr_nif_lt X (v49) (tgt := 412) (by omega) dL_randomRow_392 (by decide) (fun h => h.elim) (fun _ => ?_)
            refine zr_aload0 X dL_randomRow_395 ?_
            refine zr_aload1 X dL_randomRow_396 ?_
            refine zr_ldcS X 11 rfl (by decide) dL_randomRow_397 ?_
            refine zr_callSQ (rm9 := zrm_L_write) (As := [vr (x) 7, vr (w) 19, vr (sa 11) (24 + 11)]) (st := []) X zm_L_132 rfl rfl ⟨by decide, Nat.le_of_ble_eq_true rfl⟩ ⟨hcs, hss⟩ (Nat.le_of_ble_eq_true rfl) dL_randomRow_399 ?_
            refine zp_L_write (L := (((L ++ zSW.getD 17 []) ++ [48 + v2]) ++ zSW.getD 19 [])) (i := 11) hw147.1 (Or.inr hE.2.1) (by decide) (by first | omega | (simp only [List.length_append, List.length_cons, List.length_nil, show (zSW.getD 11 []).length = 1 from rfl, show (zSW.getD 12 []).length = 1 from rfl, show (zSW.getD 16 []).length = 5 from rfl, show (zSW.getD 17 []).length = 5 from rfl, show (zSW.getD 18 []).length = 3 from rfl, show (zSW.getD 19 []).length = 4 from rfl, show (zSW.getD 20 []).length = 2 from rfl, show (zSW.getD 21 []).length = 5 from rfl]; omega)) (fun J149 hT150 hW151 => ?_)
            obtain ⟨hw152, hf153⟩ := zWx.txt hE hw147 hT150 hW151
            refine zr_aload0 X dL_randomRow_402 ?_
            refine zr_aload1 X dL_randomRow_403 ?_
            refine zr_bipush (v := (97 : Int32)) X dL_randomRow_404 (by decide) ?_
            refine zr_iload7 X dL_randomRow_406 ?_
            refine zr_iadd X dL_randomRow_408 ?_
            refine zr_eq (x2 := (nI (97 + v49))) (nI_add (97) (v49)) ?_
            refine zr_callSQ (rm9 := zrm_L_put) (As := [vr (x) 7, vr (w) 19, vi ((nI (97 + v49)))]) (st := []) X zm_L_33 rfl rfl ⟨by decide, Nat.le_of_ble_eq_true rfl⟩ ⟨hcs, hss⟩ (Nat.le_of_ble_eq_true rfl) dL_randomRow_409 ?_
            refine zp_L_put (L := ((((L ++ zSW.getD 17 []) ++ [48 + v2]) ++ zSW.getD 19 []) ++ zSW.getD 11 [])) (c9 := (97 + v49)) hw152.1 (Or.inr hE.2.1) (by omega) (by first | omega | (simp only [List.length_append, List.length_cons, List.length_nil, show (zSW.getD 11 []).length = 1 from rfl, show (zSW.getD 12 []).length = 1 from rfl, show (zSW.getD 16 []).length = 5 from rfl, show (zSW.getD 17 []).length = 5 from rfl, show (zSW.getD 18 []).length = 3 from rfl, show (zSW.getD 19 []).length = 4 from rfl, show (zSW.getD 20 []).length = 2 from rfl, show (zSW.getD 21 []).length = 5 from rfl]; omega)) (fun J154 hT155 hW156 => ?_)
            obtain ⟨hw157, hf158⟩ := zWx.txt hE hw152 hT155 hW156
            refine zr_aload0 X dL_randomRow_412 ?_
            refine zr_aload1 X dL_randomRow_413 ?_
            refine zr_ldcS X 20 rfl (by decide) dL_randomRow_414 ?_
            refine zr_callSQ (rm9 := zrm_L_write) (As := [vr (x) 7, vr (w) 19, vr (sa 20) (24 + 20)]) (st := []) X zm_L_132 rfl rfl ⟨by decide, Nat.le_of_ble_eq_true rfl⟩ ⟨hcs, hss⟩ (Nat.le_of_ble_eq_true rfl) dL_randomRow_416 ?_
            refine zp_L_write (L := (((((L ++ zSW.getD 17 []) ++ [48 + v2]) ++ zSW.getD 19 []) ++ zSW.getD 11 []) ++ [(97 + v49)])) (i := 20) hw157.1 (Or.inr hE.2.1) (by decide) (by first | omega | (simp only [List.length_append, List.length_cons, List.length_nil, show (zSW.getD 11 []).length = 1 from rfl, show (zSW.getD 12 []).length = 1 from rfl, show (zSW.getD 16 []).length = 5 from rfl, show (zSW.getD 17 []).length = 5 from rfl, show (zSW.getD 18 []).length = 3 from rfl, show (zSW.getD 19 []).length = 4 from rfl, show (zSW.getD 20 []).length = 2 from rfl, show (zSW.getD 21 []).length = 5 from rfl]; omega)) (fun J159 hT160 hW161 => ?_)
            obtain ⟨hw162, hf163⟩ := zWx.txt hE hw157 hT160 hW161
            have he56 : ((((((L ++ zSW.getD 17 []) ++ [48 + v2]) ++ zSW.getD 19 []) ++ zSW.getD 11 []) ++ [(97 + v49)]) ++ zSW.getD 20 []) = L ++ [119, 97, 105, 116, 32, 48 + v2, 32, 111, 117, 116, 32, 97 + v49, 32, 59] := by simp only [List.append_assoc]; rfl
            have hok164 : zOk (L ++ [119, 97, 105, 116, 32, 48 + v2, 32, 111, 117, 116, 32, 97 + v49, 32, 59]) (sJoin1 T v2 1 (v49 + 1)) n7 m7 := i3.line (by omega) (by omega) h52 (Nat.succ_pos _) (show (119 : Nat) ≠ 32 by decide) (fun t n p q1 q2 q3 => zst_wait1_out (by omega) (by omega) i3.2.1.2.2 (by omega) (by omega) h52 q1 q2 q3)
            have hw165 := hw162
            rw [he56] at hw165
            have hl_hok164 : (L ++ [119, 97, 105, 116, 32, 48 + v2, 32, 111, 117, 116, 32, 97 + v49, 32, 59]).length ≤ (L).length + 14 := by rw [List.length_append]; exact Nat.add_le_add_left (show _ ≤ 14 by simp only [List.length_cons, List.length_nil]; omega) _
            refine zr_aload2 X dL_randomRow_419 ?_
            refine zr_iconst (v := (3 : Int32)) X dL_randomRow_420 (by decide) ?_
            refine zr_callVQ (rm9 := zrm_X11_below) (As := [vi ((3 : Int32))]) (st := []) X zm_L_118 rfl rfl ⟨by decide, Nat.le_of_ble_eq_true rfl⟩ ⟨hcs, hss⟩ (Nat.le_of_ble_eq_true rfl) dL_randomRow_421 ?_
            refine zy_X11_below (b := 3) hE hw165 (by omega) (by omega) (fun J166 v57 hv58 hw167 hf168 => ?_)
            refine zr_nif_le X (v57) (tgt := 430) (by omega) dL_randomRow_424 (by decide) (fun h60 => ?_) (fun h60 => ?_)
            · skip
              refine zr_iconst (v := (1 : Int32)) X dL_randomRow_430 (by decide) ?_
              refine zr_aload2 X dL_randomRow_431 ?_
              refine zr_iconst (v := (4 : Int32)) X dL_randomRow_432 (by decide) ?_
              refine zr_callVQ (rm9 := zrm_X11_below) (As := [vi ((4 : Int32))]) (st := [vi ((1 : Int32))]) X zm_L_118 rfl rfl ⟨by decide, Nat.le_of_ble_eq_true rfl⟩ ⟨hcs, hss⟩ (Nat.le_of_ble_eq_true rfl) dL_randomRow_433 ?_
              refine zy_X11_below (b := 4) hE hw167 (by omega) (by omega) (fun J169 v61 hv62 hw170 hf171 => ?_)
              refine zr_iadd X dL_randomRow_436 ?_
              refine zr_eq (x2 := (nI (1 + v61))) (nI_add (1) (v61)) ?_
              refine zr_istore9 X (by decide) rfl dL_randomRow_437 ?_
              refine zr_aload0 X dL_randomRow_439 ?_
              refine zr_aload1 X dL_randomRow_440 ?_
              refine zr_ldcS X 21 rfl (by decide) dL_randomRow_441 ?_
              refine zr_callSQ (rm9 := zrm_L_write) (As := [vr (x) 7, vr (w) 19, vr (sa 21) (24 + 21)]) (st := []) X zm_L_132 rfl rfl ⟨by decide, Nat.le_of_ble_eq_true rfl⟩ ⟨hcs, hss⟩ (Nat.le_of_ble_eq_true rfl) dL_randomRow_443 ?_
              refine zp_L_write (L := (L ++ [119, 97, 105, 116, 32, 48 + v2, 32, 111, 117, 116, 32, 97 + v49, 32, 59])) (i := 21) hw170.1 (Or.inr hE.2.1) (by decide) (by first | omega | (simp only [List.length_append, List.length_cons, List.length_nil, show (zSW.getD 11 []).length = 1 from rfl, show (zSW.getD 12 []).length = 1 from rfl, show (zSW.getD 16 []).length = 5 from rfl, show (zSW.getD 17 []).length = 5 from rfl, show (zSW.getD 18 []).length = 3 from rfl, show (zSW.getD 19 []).length = 4 from rfl, show (zSW.getD 20 []).length = 2 from rfl, show (zSW.getD 21 []).length = 5 from rfl]; omega)) (fun J172 hT173 hW174 => ?_)
              obtain ⟨hw175, hf176⟩ := zWx.txt hE hw170 hT173 hW174
              refine zr_aload0 X dL_randomRow_446 ?_
              refine zr_aload1 X dL_randomRow_447 ?_
              refine zr_iload9 X dL_randomRow_448 ?_
              refine zr_callSQ (rm9 := zrm_L_writeNumber) (As := [vr (x) 7, vr (w) 19, vi ((nI (1 + v61)))]) (st := []) X zm_L_136 rfl rfl ⟨by decide, Nat.le_of_ble_eq_true rfl⟩ ⟨hcs, hss⟩ (Nat.le_of_ble_eq_true rfl) dL_randomRow_450 ?_
              refine zp_L_writeNumber (L := ((L ++ [119, 97, 105, 116, 32, 48 + v2, 32, 111, 117, 116, 32, 97 + v49, 32, 59]) ++ zSW.getD 21 [])) (n9 := (1 + v61)) hw175.1 (Or.inr hE.2.1) (by omega) (by first | omega | (simp only [List.length_append, List.length_cons, List.length_nil, show (zSW.getD 11 []).length = 1 from rfl, show (zSW.getD 12 []).length = 1 from rfl, show (zSW.getD 16 []).length = 5 from rfl, show (zSW.getD 17 []).length = 5 from rfl, show (zSW.getD 18 []).length = 3 from rfl, show (zSW.getD 19 []).length = 4 from rfl, show (zSW.getD 20 []).length = 2 from rfl, show (zSW.getD 21 []).length = 5 from rfl]; omega)) (fun J177 hT178 hW179 => ?_)
              obtain ⟨hw180, hf181⟩ := zWx.txt hE hw175 hT178 hW179
              refine zr_aload0 X dL_randomRow_453 ?_
              refine zr_aload1 X dL_randomRow_454 ?_
              refine zr_ldcS X 12 rfl (by decide) dL_randomRow_455 ?_
              refine zr_callSQ (rm9 := zrm_L_write) (As := [vr (x) 7, vr (w) 19, vr (sa 12) (24 + 12)]) (st := []) X zm_L_132 rfl rfl ⟨by decide, Nat.le_of_ble_eq_true rfl⟩ ⟨hcs, hss⟩ (Nat.le_of_ble_eq_true rfl) dL_randomRow_457 ?_
              refine zp_L_write (L := (((L ++ [119, 97, 105, 116, 32, 48 + v2, 32, 111, 117, 116, 32, 97 + v49, 32, 59]) ++ zSW.getD 21 []) ++ [48 + (1 + v61)])) (i := 12) hw180.1 (Or.inr hE.2.1) (by decide) (by first | omega | (simp only [List.length_append, List.length_cons, List.length_nil, show (zSW.getD 11 []).length = 1 from rfl, show (zSW.getD 12 []).length = 1 from rfl, show (zSW.getD 16 []).length = 5 from rfl, show (zSW.getD 17 []).length = 5 from rfl, show (zSW.getD 18 []).length = 3 from rfl, show (zSW.getD 19 []).length = 4 from rfl, show (zSW.getD 20 []).length = 2 from rfl, show (zSW.getD 21 []).length = 5 from rfl]; omega)) (fun J182 hT183 hW184 => ?_)
              obtain ⟨hw185, hf186⟩ := zWx.txt hE hw180 hT183 hW184
              refine zr_aload3 X dL_randomRow_460 ?_
              refine zr_iload9 X dL_randomRow_461 ?_
              refine zr_callVQ (rm9 := zrm_X12_tick) (As := [vi ((nI (1 + v61)))]) (st := []) X zm_L_192 rfl rfl ⟨by decide, Nat.le_of_ble_eq_true rfl⟩ ⟨hcs, hss⟩ (Nat.le_of_ble_eq_true rfl) dL_randomRow_463 ?_
              refine zp_X12_tick (m9 := (1 + v61)) hS hw185.2 hok164.2.1.1 (by omega) (fun J187 hg64 hM65 => ?_)
              obtain ⟨hw188, hf189⟩ := zWx.stn hE hw185 hg64 hM65
              refine zr_istore8 X (by decide) rfl dL_randomRow_466 ?_
              refine zr_iinc4 (v := (nI (n9 - 1))) X (zdec1 (n := n9) (by omega)) (by decide) rfl dL_randomRow_468 ?_
              refine zr_goto (tgt := 279) X dL_randomRow_471 (by decide) ?_
              have he66 : ((((L ++ [119, 97, 105, 116, 32, 48 + v2, 32, 111, 117, 116, 32, 97 + v49, 32, 59]) ++ zSW.getD 21 []) ++ [48 + (1 + v61)]) ++ zSW.getD 12 []) = (L ++ [119, 97, 105, 116, 32, 48 + v2, 32, 111, 117, 116, 32, 97 + v49, 32, 59]) ++ [116, 105, 99, 107, 32, 48 + (1 + v61), 59] := by simp only [List.append_assoc]; rfl
              have hok191 := hok164.tick (v := (1 + v61)) (by omega) (by omega)
              have hw190 := hw188
              rw [he66] at hw190
              have hl_hok191 : ((L ++ [119, 97, 105, 116, 32, 48 + v2, 32, 111, 117, 116, 32, 97 + v49, 32, 59]) ++ [116, 105, 99, 107, 32, 48 + (1 + v61), 59]).length ≤ ((L ++ [119, 97, 105, 116, 32, 48 + v2, 32, 111, 117, 116, 32, 97 + v49, 32, 59])).length + 7 := by rw [List.length_append]; exact Nat.le_refl _
              refine zr_forget (lv2 := [some (vr (x) 7), some (vr (w) 19), some (vr (r) 16), some (vr (A (0)) 17), some (vi ((nI (n9 - 1)))), none, none, none, none, none]) (fun j9 v9 h9 => by rcases j9 with _ | _ | _ | _ | _ | _ | _ | _ | _ | _ | j9 <;> first | exact h9 | (simp at h9; done) | (simp at h9)) ?_
              exact ih (n9 - 1) ((L ++ [119, 97, 105, 116, 32, 48 + v2, 32, 111, 117, 116, 32, 97 + v49, 32, 59]) ++ [116, 105, 99, 107, 32, 48 + (1 + v61), 59]) _ _ (by omega) hw190 hok191 (by omega) (zfx.tr i5 (zfx.tr (zfx.tr (zfx.tr (zfx.tr (zfx.tr (zfx.tr (zfx.tr (zfx.tr (zfx.tr (zfx.tr (zfx.tr (zfx.tr (zfx.tr (zfx.tr (zfx.tr (zfx.tr hf3 hf6) hf127) hf130) hf133) hf138) hf143) hf148) hf153) hf158) hf163) hf168) hf171) hf176) hf181) hf186) hf189)) (by omega)
            · skip
              refine zr_goto (tgt := 468) X dL_randomRow_427 (by decide) ?_
              refine zr_iinc4 (v := (nI (n9 - 1))) X (zdec1 (n := n9) (by omega)) (by decide) rfl dL_randomRow_468 ?_
              refine zr_goto (tgt := 279) X dL_randomRow_471 (by decide) ?_
              refine zr_forget (lv2 := [some (vr (x) 7), some (vr (w) 19), some (vr (r) 16), some (vr (A (0)) 17), some (vi ((nI (n9 - 1)))), none, none, none, none, none]) (fun j9 v9 h9 => by rcases j9 with _ | _ | _ | _ | _ | _ | _ | _ | _ | _ | j9 <;> first | exact h9 | (simp at h9; done) | (simp at h9)) ?_
              exact ih (n9 - 1) (L ++ [119, 97, 105, 116, 32, 48 + v2, 32, 111, 117, 116, 32, 97 + v49, 32, 59]) _ _ (by omega) hw167 hok164 (by omega) (zfx.tr i5 (zfx.tr (zfx.tr (zfx.tr (zfx.tr (zfx.tr (zfx.tr (zfx.tr (zfx.tr (zfx.tr (zfx.tr (zfx.tr hf3 hf6) hf127) hf130) hf133) hf138) hf143) hf148) hf153) hf158) hf163) hf168)) (by omega)
          · skip
            refine zr_goto (tgt := 468) X dL_randomRow_344 (by decide) ?_
            refine zr_iinc4 (v := (nI (n9 - 1))) X (zdec1 (n := n9) (by omega)) (by decide) rfl dL_randomRow_468 ?_
            refine zr_goto (tgt := 279) X dL_randomRow_471 (by decide) ?_
            refine zr_forget (lv2 := [some (vr (x) 7), some (vr (w) 19), some (vr (r) 16), some (vr (A (0)) 17), some (vi ((nI (n9 - 1)))), none, none, none, none, none]) (fun j9 v9 h9 => by rcases j9 with _ | _ | _ | _ | _ | _ | _ | _ | _ | _ | j9 <;> first | exact h9 | (simp at h9; done) | (simp at h9)) ?_
            exact ih (n9 - 1) L _ _ (by omega) hw129 i3 (by omega) (zfx.tr i5 (zfx.tr (zfx.tr (zfx.tr hf3 hf6) hf127) hf130)) (by omega)
        · skip
          refine zr_iconst (v := (-1 : Int32)) X dL_randomRow_317 (by decide) ?_
          refine zr_goto (tgt := 329) X dL_randomRow_318 (by decide) ?_
          refine zr_istore7 X (by decide) rfl dL_randomRow_329 ?_
          refine zr_aload3 X dL_randomRow_331 ?_
          refine zr_iload5 X dL_randomRow_332 ?_
          refine zr_iload6 X dL_randomRow_334 ?_
          refine zr_iload7 X dL_randomRow_336 ?_
          refine zr_callVQ (rm9 := zrm_X12_whyNot) (As := [vi ((nI v2)), vi ((1 : Int32)), vi ((-1 : Int32))]) (st := []) X zm_L_178 rfl rfl ⟨by decide, Nat.le_of_ble_eq_true rfl⟩ ⟨hcs, hss⟩ (Nat.le_of_ble_eq_true rfl) dL_randomRow_338 ?_
          refine znone1_X12_whyNot (g := v2) hS hw126.2 hW (by omega) ?_; have hq5 := qWhy_lt (S := T) (g := v2) (s := 1) (w := 0)
          refine zr_nif_le X ((qWhy T v2 1 0)) (tgt := 347) (by omega) dL_randomRow_341 (by decide) (fun h67 => ?_) (fun h67 => ?_)
          · skip
            refine zr_aload3 X dL_randomRow_347 ?_
            refine zr_iload5 X dL_randomRow_348 ?_
            refine zr_iload6 X dL_randomRow_350 ?_
            refine zr_iload7 X dL_randomRow_352 ?_
            refine zr_callVQ (rm9 := zrm_X12_join) (As := [vi ((nI v2)), vi ((1 : Int32)), vi ((-1 : Int32))]) (st := []) X zm_L_181 rfl rfl ⟨by decide, Nat.le_of_ble_eq_true rfl⟩ ⟨hcs, hss⟩ (Nat.le_of_ble_eq_true rfl) dL_randomRow_354 ?_
            refine znone1_X12_join (g := v2) hS hw126.2 hW (by omega) (fun J192 hg68 hM69 => ?_)
            obtain ⟨hw193, hf194⟩ := zWx.stn hE hw126 hg68 hM69
            refine zr_istore8 X (by decide) rfl dL_randomRow_357 ?_
            refine zr_aload0 X dL_randomRow_359 ?_
            refine zr_aload1 X dL_randomRow_360 ?_
            refine zr_ldcS X 17 rfl (by decide) dL_randomRow_361 ?_
            refine zr_callSQ (rm9 := zrm_L_write) (As := [vr (x) 7, vr (w) 19, vr (sa 17) (24 + 17)]) (st := []) X zm_L_132 rfl rfl ⟨by decide, Nat.le_of_ble_eq_true rfl⟩ ⟨hcs, hss⟩ (Nat.le_of_ble_eq_true rfl) dL_randomRow_363 ?_
            refine zp_L_write (L := L) (i := 17) hw193.1 (Or.inr hE.2.1) (by decide) (by first | omega | (simp only [List.length_append, List.length_cons, List.length_nil, show (zSW.getD 11 []).length = 1 from rfl, show (zSW.getD 12 []).length = 1 from rfl, show (zSW.getD 16 []).length = 5 from rfl, show (zSW.getD 17 []).length = 5 from rfl, show (zSW.getD 18 []).length = 3 from rfl, show (zSW.getD 19 []).length = 4 from rfl, show (zSW.getD 20 []).length = 2 from rfl, show (zSW.getD 21 []).length = 5 from rfl]; omega)) (fun J195 hT196 hW197 => ?_)
            obtain ⟨hw198, hf199⟩ := zWx.txt hE hw193 hT196 hW197
            refine zr_aload0 X dL_randomRow_366 ?_
            refine zr_aload1 X dL_randomRow_367 ?_
            refine zr_iload5 X dL_randomRow_368 ?_
            refine zr_callSQ (rm9 := zrm_L_writeNumber) (As := [vr (x) 7, vr (w) 19, vi ((nI v2))]) (st := []) X zm_L_136 rfl rfl ⟨by decide, Nat.le_of_ble_eq_true rfl⟩ ⟨hcs, hss⟩ (Nat.le_of_ble_eq_true rfl) dL_randomRow_370 ?_
            refine zp_L_writeNumber (L := (L ++ zSW.getD 17 [])) (n9 := v2) hw198.1 (Or.inr hE.2.1) (by omega) (by first | omega | (simp only [List.length_append, List.length_cons, List.length_nil, show (zSW.getD 11 []).length = 1 from rfl, show (zSW.getD 12 []).length = 1 from rfl, show (zSW.getD 16 []).length = 5 from rfl, show (zSW.getD 17 []).length = 5 from rfl, show (zSW.getD 18 []).length = 3 from rfl, show (zSW.getD 19 []).length = 4 from rfl, show (zSW.getD 20 []).length = 2 from rfl, show (zSW.getD 21 []).length = 5 from rfl]; omega)) (fun J200 hT201 hW202 => ?_)
            obtain ⟨hw203, hf204⟩ := zWx.txt hE hw198 hT201 hW202
            refine zr_aload0 X dL_randomRow_373 ?_
            refine zr_aload1 X dL_randomRow_374 ?_
            refine zr_iload6 X dL_randomRow_375 ?_
            refine zr_if_ne (tgt := 385) X dL_randomRow_377 (by decide) (fun _ => ?_) (fun h => absurd h (by decide))
            refine zr_ldcS X 19 rfl (by decide) dL_randomRow_385 ?_
            refine zr_callSQ (rm9 := zrm_L_write) (As := [vr (x) 7, vr (w) 19, vr (sa 19) (24 + 19)]) (st := []) X zm_L_132 rfl rfl ⟨by decide, Nat.le_of_ble_eq_true rfl⟩ ⟨hcs, hss⟩ (Nat.le_of_ble_eq_true rfl) dL_randomRow_387 ?_
            refine zp_L_write (L := ((L ++ zSW.getD 17 []) ++ [48 + v2])) (i := 19) hw203.1 (Or.inr hE.2.1) (by decide) (by first | omega | (simp only [List.length_append, List.length_cons, List.length_nil, show (zSW.getD 11 []).length = 1 from rfl, show (zSW.getD 12 []).length = 1 from rfl, show (zSW.getD 16 []).length = 5 from rfl, show (zSW.getD 17 []).length = 5 from rfl, show (zSW.getD 18 []).length = 3 from rfl, show (zSW.getD 19 []).length = 4 from rfl, show (zSW.getD 20 []).length = 2 from rfl, show (zSW.getD 21 []).length = 5 from rfl]; omega)) (fun J205 hT206 hW207 => ?_)
            obtain ⟨hw208, hf209⟩ := zWx.txt hE hw203 hT206 hW207
            refine zr_iload7 X dL_randomRow_390 ?_
            refine zr_if_lt (tgt := 412) X dL_randomRow_392 (by decide) (fun _ => ?_) (fun h => absurd h (by decide))
            refine zr_aload0 X dL_randomRow_412 ?_
            refine zr_aload1 X dL_randomRow_413 ?_
            refine zr_ldcS X 20 rfl (by decide) dL_randomRow_414 ?_
            refine zr_callSQ (rm9 := zrm_L_write) (As := [vr (x) 7, vr (w) 19, vr (sa 20) (24 + 20)]) (st := []) X zm_L_132 rfl rfl ⟨by decide, Nat.le_of_ble_eq_true rfl⟩ ⟨hcs, hss⟩ (Nat.le_of_ble_eq_true rfl) dL_randomRow_416 ?_
            refine zp_L_write (L := (((L ++ zSW.getD 17 []) ++ [48 + v2]) ++ zSW.getD 19 [])) (i := 20) hw208.1 (Or.inr hE.2.1) (by decide) (by first | omega | (simp only [List.length_append, List.length_cons, List.length_nil, show (zSW.getD 11 []).length = 1 from rfl, show (zSW.getD 12 []).length = 1 from rfl, show (zSW.getD 16 []).length = 5 from rfl, show (zSW.getD 17 []).length = 5 from rfl, show (zSW.getD 18 []).length = 3 from rfl, show (zSW.getD 19 []).length = 4 from rfl, show (zSW.getD 20 []).length = 2 from rfl, show (zSW.getD 21 []).length = 5 from rfl]; omega)) (fun J210 hT211 hW212 => ?_)
            obtain ⟨hw213, hf214⟩ := zWx.txt hE hw208 hT211 hW212
            have he70 : ((((L ++ zSW.getD 17 []) ++ [48 + v2]) ++ zSW.getD 19 []) ++ zSW.getD 20 []) = L ++ [119, 97, 105, 116, 32, 48 + v2, 32, 111, 117, 116, 32, 59] := by simp only [List.append_assoc]; rfl
            have hok215 : zOk (L ++ [119, 97, 105, 116, 32, 48 + v2, 32, 111, 117, 116, 32, 59]) (sJoin1 T v2 1 0) n7 m7 := i3.line (by omega) (by omega) h67 (Nat.succ_pos _) (show (119 : Nat) ≠ 32 by decide) (fun t n p q1 q2 q3 => zst_wait0_out (by omega) (by omega) h67 q1 q2 q3)
            have hw216 := hw213
            rw [he70] at hw216
            have hl_hok215 : (L ++ [119, 97, 105, 116, 32, 48 + v2, 32, 111, 117, 116, 32, 59]).length ≤ (L).length + 14 := by rw [List.length_append]; exact Nat.add_le_add_left (show _ ≤ 14 by simp only [List.length_cons, List.length_nil]; omega) _
            refine zr_aload2 X dL_randomRow_419 ?_
            refine zr_iconst (v := (3 : Int32)) X dL_randomRow_420 (by decide) ?_
            refine zr_callVQ (rm9 := zrm_X11_below) (As := [vi ((3 : Int32))]) (st := []) X zm_L_118 rfl rfl ⟨by decide, Nat.le_of_ble_eq_true rfl⟩ ⟨hcs, hss⟩ (Nat.le_of_ble_eq_true rfl) dL_randomRow_421 ?_
            refine zy_X11_below (b := 3) hE hw216 (by omega) (by omega) (fun J217 v71 hv72 hw218 hf219 => ?_)
            refine zr_nif_le X (v71) (tgt := 430) (by omega) dL_randomRow_424 (by decide) (fun h74 => ?_) (fun h74 => ?_)
            · skip
              refine zr_iconst (v := (1 : Int32)) X dL_randomRow_430 (by decide) ?_
              refine zr_aload2 X dL_randomRow_431 ?_
              refine zr_iconst (v := (4 : Int32)) X dL_randomRow_432 (by decide) ?_
              refine zr_callVQ (rm9 := zrm_X11_below) (As := [vi ((4 : Int32))]) (st := [vi ((1 : Int32))]) X zm_L_118 rfl rfl ⟨by decide, Nat.le_of_ble_eq_true rfl⟩ ⟨hcs, hss⟩ (Nat.le_of_ble_eq_true rfl) dL_randomRow_433 ?_
              refine zy_X11_below (b := 4) hE hw218 (by omega) (by omega) (fun J220 v75 hv76 hw221 hf222 => ?_)
              refine zr_iadd X dL_randomRow_436 ?_
              refine zr_eq (x2 := (nI (1 + v75))) (nI_add (1) (v75)) ?_
              refine zr_istore9 X (by decide) rfl dL_randomRow_437 ?_
              refine zr_aload0 X dL_randomRow_439 ?_
              refine zr_aload1 X dL_randomRow_440 ?_
              refine zr_ldcS X 21 rfl (by decide) dL_randomRow_441 ?_
              refine zr_callSQ (rm9 := zrm_L_write) (As := [vr (x) 7, vr (w) 19, vr (sa 21) (24 + 21)]) (st := []) X zm_L_132 rfl rfl ⟨by decide, Nat.le_of_ble_eq_true rfl⟩ ⟨hcs, hss⟩ (Nat.le_of_ble_eq_true rfl) dL_randomRow_443 ?_
              refine zp_L_write (L := (L ++ [119, 97, 105, 116, 32, 48 + v2, 32, 111, 117, 116, 32, 59])) (i := 21) hw221.1 (Or.inr hE.2.1) (by decide) (by first | omega | (simp only [List.length_append, List.length_cons, List.length_nil, show (zSW.getD 11 []).length = 1 from rfl, show (zSW.getD 12 []).length = 1 from rfl, show (zSW.getD 16 []).length = 5 from rfl, show (zSW.getD 17 []).length = 5 from rfl, show (zSW.getD 18 []).length = 3 from rfl, show (zSW.getD 19 []).length = 4 from rfl, show (zSW.getD 20 []).length = 2 from rfl, show (zSW.getD 21 []).length = 5 from rfl]; omega)) (fun J223 hT224 hW225 => ?_)
              obtain ⟨hw226, hf227⟩ := zWx.txt hE hw221 hT224 hW225
              refine zr_aload0 X dL_randomRow_446 ?_
              refine zr_aload1 X dL_randomRow_447 ?_
              refine zr_iload9 X dL_randomRow_448 ?_
              refine zr_callSQ (rm9 := zrm_L_writeNumber) (As := [vr (x) 7, vr (w) 19, vi ((nI (1 + v75)))]) (st := []) X zm_L_136 rfl rfl ⟨by decide, Nat.le_of_ble_eq_true rfl⟩ ⟨hcs, hss⟩ (Nat.le_of_ble_eq_true rfl) dL_randomRow_450 ?_
              refine zp_L_writeNumber (L := ((L ++ [119, 97, 105, 116, 32, 48 + v2, 32, 111, 117, 116, 32, 59]) ++ zSW.getD 21 [])) (n9 := (1 + v75)) hw226.1 (Or.inr hE.2.1) (by omega) (by first | omega | (simp only [List.length_append, List.length_cons, List.length_nil, show (zSW.getD 11 []).length = 1 from rfl, show (zSW.getD 12 []).length = 1 from rfl, show (zSW.getD 16 []).length = 5 from rfl, show (zSW.getD 17 []).length = 5 from rfl, show (zSW.getD 18 []).length = 3 from rfl, show (zSW.getD 19 []).length = 4 from rfl, show (zSW.getD 20 []).length = 2 from rfl, show (zSW.getD 21 []).length = 5 from rfl]; omega)) (fun J228 hT229 hW230 => ?_)
              obtain ⟨hw231, hf232⟩ := zWx.txt hE hw226 hT229 hW230
              refine zr_aload0 X dL_randomRow_453 ?_
              refine zr_aload1 X dL_randomRow_454 ?_
              refine zr_ldcS X 12 rfl (by decide) dL_randomRow_455 ?_
              refine zr_callSQ (rm9 := zrm_L_write) (As := [vr (x) 7, vr (w) 19, vr (sa 12) (24 + 12)]) (st := []) X zm_L_132 rfl rfl ⟨by decide, Nat.le_of_ble_eq_true rfl⟩ ⟨hcs, hss⟩ (Nat.le_of_ble_eq_true rfl) dL_randomRow_457 ?_
              refine zp_L_write (L := (((L ++ [119, 97, 105, 116, 32, 48 + v2, 32, 111, 117, 116, 32, 59]) ++ zSW.getD 21 []) ++ [48 + (1 + v75)])) (i := 12) hw231.1 (Or.inr hE.2.1) (by decide) (by first | omega | (simp only [List.length_append, List.length_cons, List.length_nil, show (zSW.getD 11 []).length = 1 from rfl, show (zSW.getD 12 []).length = 1 from rfl, show (zSW.getD 16 []).length = 5 from rfl, show (zSW.getD 17 []).length = 5 from rfl, show (zSW.getD 18 []).length = 3 from rfl, show (zSW.getD 19 []).length = 4 from rfl, show (zSW.getD 20 []).length = 2 from rfl, show (zSW.getD 21 []).length = 5 from rfl]; omega)) (fun J233 hT234 hW235 => ?_)
              obtain ⟨hw236, hf237⟩ := zWx.txt hE hw231 hT234 hW235
              refine zr_aload3 X dL_randomRow_460 ?_
              refine zr_iload9 X dL_randomRow_461 ?_
              refine zr_callVQ (rm9 := zrm_X12_tick) (As := [vi ((nI (1 + v75)))]) (st := []) X zm_L_192 rfl rfl ⟨by decide, Nat.le_of_ble_eq_true rfl⟩ ⟨hcs, hss⟩ (Nat.le_of_ble_eq_true rfl) dL_randomRow_463 ?_
              refine zp_X12_tick (m9 := (1 + v75)) hS hw236.2 hok215.2.1.1 (by omega) (fun J238 hg78 hM79 => ?_)
              obtain ⟨hw239, hf240⟩ := zWx.stn hE hw236 hg78 hM79
              refine zr_istore8 X (by decide) rfl dL_randomRow_466 ?_
              refine zr_iinc4 (v := (nI (n9 - 1))) X (zdec1 (n := n9) (by omega)) (by decide) rfl dL_randomRow_468 ?_
              refine zr_goto (tgt := 279) X dL_randomRow_471 (by decide) ?_
              have he80 : ((((L ++ [119, 97, 105, 116, 32, 48 + v2, 32, 111, 117, 116, 32, 59]) ++ zSW.getD 21 []) ++ [48 + (1 + v75)]) ++ zSW.getD 12 []) = (L ++ [119, 97, 105, 116, 32, 48 + v2, 32, 111, 117, 116, 32, 59]) ++ [116, 105, 99, 107, 32, 48 + (1 + v75), 59] := by simp only [List.append_assoc]; rfl
              have hok242 := hok215.tick (v := (1 + v75)) (by omega) (by omega)
              have hw241 := hw239
              rw [he80] at hw241
              have hl_hok242 : ((L ++ [119, 97, 105, 116, 32, 48 + v2, 32, 111, 117, 116, 32, 59]) ++ [116, 105, 99, 107, 32, 48 + (1 + v75), 59]).length ≤ ((L ++ [119, 97, 105, 116, 32, 48 + v2, 32, 111, 117, 116, 32, 59])).length + 7 := by rw [List.length_append]; exact Nat.le_refl _
              refine zr_forget (lv2 := [some (vr (x) 7), some (vr (w) 19), some (vr (r) 16), some (vr (A (0)) 17), some (vi ((nI (n9 - 1)))), none, none, none, none, none]) (fun j9 v9 h9 => by rcases j9 with _ | _ | _ | _ | _ | _ | _ | _ | _ | _ | j9 <;> first | exact h9 | (simp at h9; done) | (simp at h9)) ?_
              exact ih (n9 - 1) ((L ++ [119, 97, 105, 116, 32, 48 + v2, 32, 111, 117, 116, 32, 59]) ++ [116, 105, 99, 107, 32, 48 + (1 + v75), 59]) _ _ (by omega) hw241 hok242 (by omega) (zfx.tr i5 (zfx.tr (zfx.tr (zfx.tr (zfx.tr (zfx.tr (zfx.tr (zfx.tr (zfx.tr (zfx.tr (zfx.tr (zfx.tr (zfx.tr (zfx.tr hf3 hf6) hf127) hf194) hf199) hf204) hf209) hf214) hf219) hf222) hf227) hf232) hf237) hf240)) (by omega)
            · skip
              refine zr_goto (tgt := 468) X dL_randomRow_427 (by decide) ?_
              refine zr_iinc4 (v := (nI (n9 - 1))) X (zdec1 (n := n9) (by omega)) (by decide) rfl dL_randomRow_468 ?_
              refine zr_goto (tgt := 279) X dL_randomRow_471 (by decide) ?_
              refine zr_forget (lv2 := [some (vr (x) 7), some (vr (w) 19), some (vr (r) 16), some (vr (A (0)) 17), some (vi ((nI (n9 - 1)))), none, none, none, none, none]) (fun j9 v9 h9 => by rcases j9 with _ | _ | _ | _ | _ | _ | _ | _ | _ | _ | j9 <;> first | exact h9 | (simp at h9; done) | (simp at h9)) ?_
              exact ih (n9 - 1) (L ++ [119, 97, 105, 116, 32, 48 + v2, 32, 111, 117, 116, 32, 59]) _ _ (by omega) hw218 hok215 (by omega) (zfx.tr i5 (zfx.tr (zfx.tr (zfx.tr (zfx.tr (zfx.tr (zfx.tr (zfx.tr (zfx.tr hf3 hf6) hf127) hf194) hf199) hf204) hf209) hf214) hf219)) (by omega)
          · skip
            refine zr_goto (tgt := 468) X dL_randomRow_344 (by decide) ?_
            refine zr_iinc4 (v := (nI (n9 - 1))) X (zdec1 (n := n9) (by omega)) (by decide) rfl dL_randomRow_468 ?_
            refine zr_goto (tgt := 279) X dL_randomRow_471 (by decide) ?_
            refine zr_forget (lv2 := [some (vr (x) 7), some (vr (w) 19), some (vr (r) 16), some (vr (A (0)) 17), some (vi ((nI (n9 - 1)))), none, none, none, none, none]) (fun j9 v9 h9 => by rcases j9 with _ | _ | _ | _ | _ | _ | _ | _ | _ | _ | j9 <;> first | exact h9 | (simp at h9; done) | (simp at h9)) ?_
            exact ih (n9 - 1) L _ _ (by omega) hw126 i3 (by omega) (zfx.tr i5 (zfx.tr (zfx.tr hf3 hf6) hf127)) (by omega)
