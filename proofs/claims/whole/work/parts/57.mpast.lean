/-! ===== the reference: its object, its past ===== -/
/-- the reference's past: the latest change first -/
def zHi (I : zI) (y : Nat) (U : List zS) : Prop := I y 12 = nI U.length ∧ U.length ≤ 8 ∧ ∀ (i : Nat) (u : zS), U[i]? = some u → zMd I (y + 5 + 1 + 1 * (U.length - 1 - i)) u
def zFrr (F I : zI) (y : Nat) : Prop := ∀ q : Nat, q < y ∨ y + 14 ≤ q → I q = F q
theorem zFrr.rf {I : zI} {y : Nat} : zFrr I I y := fun _ _ => rfl
theorem zFrr.ag {F I I' : zI} {y lo n : Nat} (h : zFrr F I y) (hg : zag I I' lo n) (h1 : y ≤ lo) (h2 : lo + n ≤ y + 14) : zFrr F I' y := fun q hq => (hg q (by omega)).trans (h q hq)
/-- the reference's object at y; what lies outside is as F has it -/
def zRf (F I : zI) (y : Nat) (t : Nat → Nat) (f : Nat) (er : Int32) (S : zS) (U : List zS) : Prop :=
  (I y 2 = nI f ∧ zBu I y t f) ∧ I y 7 = er ∧ zMd I (y + 2) S ∧ zWf S ∧ zFrr F I y ∧ zHi I y U ∧ ∀ u ∈ U, zWf u
theorem zHi.ag {I I' : zI} {y lo n : Nat} {U : List zS} (h : zHi I y U) (hg : zag I I' lo n) (h1 : y < lo) (h2 : lo + n ≤ y + 6 ∨ y + 14 ≤ lo) : zHi I' y U := by
  obtain ⟨g1, g2, g3⟩ := h
  refine ⟨by rw [hg y (by omega)]; exact g1, g2, fun i u hu => (g3 i u hu).ag hg ?_⟩
  omega
theorem zHi.put {I : zI} {y j : Nat} {x : Int32} {U : List zS} (h : zHi I y U) (hj : 12 ≠ j) : zHi (zput I y j x) y U :=
  ⟨(zput_nj hj).trans h.1, h.2.1, fun i u hu => (h.2.2 i u hu).kept (zput_nq (by omega))⟩
theorem zBu.put {I : zI} {y j n : Nat} {x : Int32} {t : Nat → Nat} (h : zBu I y t n) : zBu (zput I y j x) y t n := ⟨h.1, h.2.1, fun k hk => (zput_ne (by omega)).trans (h.2.2 k hk)⟩
theorem zBu.ag {I I' : zI} {y n lo m : Nat} {t : Nat → Nat} (h : zBu I y t n) (hg : zag I I' lo m) (h1 : y + 1 < lo ∨ lo + m ≤ y + 1) : zBu I' y t n := ⟨h.1, h.2.1, fun k hk => by rw [hg _ (by omega)]; exact h.2.2 k hk⟩
/-- a number of its own that tells nothing of the state -/
theorem zRf.put {F I : zI} {y f j : Nat} {t : Nat → Nat} {er : Int32} {S : zS} {U : List zS} {x : Int32} (h : zRf F I y t f er S U) (hj : 2 ≠ j ∧ 7 ≠ j ∧ 12 ≠ j) : zRf F (zput I y j x) y t f er S U :=
  ⟨⟨(zput_nj hj.1).trans h.1.1, h.1.2.put⟩, (zput_nj hj.2.1).trans h.2.1, h.2.2.1.kept (zput_nq (by omega)), h.2.2.2.1, h.2.2.2.2.1.ag (lo := y) (n := 1) (zag.rf.put (Nat.le_refl _) (Nat.lt_succ_self _)) (Nat.le_refl _) (by omega), h.2.2.2.2.2.1.put hj.2.2, h.2.2.2.2.2.2⟩
/-- the row of data has changed -/
theorem zRf.now {F I I' : zI} {y f : Nat} {t : Nat → Nat} {er : Int32} {S S' : zS} {U : List zS} (h : zRf F I y t f er S U) (hg : zag I I' (y + 2) 1) (hM : zMd I' (y + 2) S') (hW : zWf S') : zRf F I' y t f er S' U :=
  ⟨⟨by rw [hg y (by omega)]; exact h.1.1, h.1.2.ag hg (by omega)⟩, by rw [hg y (by omega)]; exact h.2.1, hM, hW, h.2.2.2.2.1.ag hg (by omega) (by omega), h.2.2.2.2.2.1.ag hg (by omega) (by omega), h.2.2.2.2.2.2⟩
/-- what is tried, and what would be, have changed -/
theorem zRf.aside {F I I' : zI} {y f lo n : Nat} {t : Nat → Nat} {er : Int32} {S : zS} {U : List zS} (h : zRf F I y t f er S U) (hg : zag I I' lo n) (h1 : y + 3 ≤ lo) (h2 : lo + n ≤ y + 5) : zRf F I' y t f er S U :=
  ⟨⟨by rw [hg y (by omega)]; exact h.1.1, h.1.2.ag hg (by omega)⟩, by rw [hg y (by omega)]; exact h.2.1, h.2.2.1.ag hg (by omega), h.2.2.2.1, h.2.2.2.2.1.ag hg (by omega) (by omega), h.2.2.2.2.2.1.ag hg (by omega) (by omega), h.2.2.2.2.2.2⟩
theorem zRf.past {F I I' : zI} {y f : Nat} {t : Nat → Nat} {er : Int32} {S : zS} {U U' : List zS} (h : zRf F I y t f er S U) (hg : zag I I' y 14) (e0 : ∀ j, j ≠ 12 → I' y j = I y j) (e1 : I' (y + 1) = I (y + 1)) (e2 : I' (y + 2) = I (y + 2)) (hH : zHi I' y U') (hU : ∀ u ∈ U', zWf u) : zRf F I' y t f er S U' :=
  ⟨⟨(e0 2 (by decide)).trans h.1.1, h.1.2.1, h.1.2.2.1, fun k hk => by rw [e1]; exact h.1.2.2.2 k hk⟩, (e0 7 (by decide)).trans h.2.1, h.2.2.1.kept e2, h.2.2.2.1, h.2.2.2.2.1.ag hg (Nat.le_refl _) (Nat.le_refl _), hH, hU⟩
set_option maxRecDepth 20000 in
theorem zf0_X8_fails {l : Launch} {D : va_G} {b0 : Nat} {tA : Nat → ClassId} {sa sv : Nat → Nat} {K : Nat → Option Nat} {I : zI} {Qp : zI → Option AV → Prop} {Xp : String → zI → Prop} {y : Nat} {x2 : Int32}
    (h : I y 0 = 0) (k1 : Qp I (some (vi 0))) :
    zC l D b0 tA sa sv K yX8_fails (.code yX8_fails cX8_fails 3 (some .boolean)) zrm_X8_fails [vr (y) 8, vi ((0 : Int32)), vi (x2)] I Qp Xp := by
  refine zC_of (by decide +kernel) (Nat.le_of_ble_eq_true rfl) ?_
  intro p e s m args below meth c X hnt
  have X : zX p l e zrm_X8_fails s m args below meth c RX8 cX8_fails 3 (some .boolean) D b0 tA sa sv := X
  refine zr_lv (lv2 := [some (vr (y) 8), some (vi ((0 : Int32))), some (vi (x2))]) rfl ?_
  refine zr_iload1 X dX8_fails_0 ?_
  refine zr_if_eq (tgt := 16) X dX8_fails_1 (by decide) (fun _ => ?_) (fun h => absurd h (by decide))
  refine zr_aload0 X dX8_fails_16 ?_
  refine zr_getI X zf_X8_31 rfl dX8_fails_17 ?_
  refine zr_eq (x2 := (0 : Int32)) (h) ?_
  refine zr_if_eq (tgt := 27) X dX8_fails_20 (by decide) (fun _ => ?_) (fun h => absurd h (by decide))
  refine zr_iconst (v := (0 : Int32)) X dX8_fails_27 (by decide) ?_
  refine zr_zret X (by first | decide | assumption | (simp; done)) (by decide) (by decide) dX8_fails_28 ?_
  exact k1
set_option maxRecDepth 20000 in
theorem zf1_X8_fails {l : Launch} {D : va_G} {b0 : Nat} {tA : Nat → ClassId} {sa sv : Nat → Nat} {K : Nat → Option Nat} {I : zI} {Qp : zI → Option AV → Prop} {Xp : String → zI → Prop} {y : Nat} {x2 : Int32}
    (h : I y 0 = 0) (hx : ¬ x2 = 0) (k1 : Qp (zput I y 0 x2) (some (vi 1))) :
    zC l D b0 tA sa sv K yX8_fails (.code yX8_fails cX8_fails 3 (some .boolean)) zrm_X8_fails [vr (y) 8, vi ((1 : Int32)), vi (x2)] I Qp Xp := by
  refine zC_of (by decide +kernel) (Nat.le_of_ble_eq_true rfl) ?_
  intro p e s m args below meth c X hnt
  have X : zX p l e zrm_X8_fails s m args below meth c RX8 cX8_fails 3 (some .boolean) D b0 tA sa sv := X
  refine zr_lv (lv2 := [some (vr (y) 8), some (vi ((1 : Int32))), some (vi (x2))]) rfl ?_
  refine zr_iload1 X dX8_fails_0 ?_
  refine zr_if_eq (tgt := 16) X dX8_fails_1 (by decide) (fun h => absurd h (by decide)) (fun _ => ?_)
  refine zr_aload0 X dX8_fails_4 ?_
  refine zr_getI X zf_X8_31 rfl dX8_fails_5 ?_
  refine zr_eq (x2 := (0 : Int32)) (h) ?_
  refine zr_if_ne (tgt := 16) X dX8_fails_8 (by decide) (fun h => absurd h (by decide)) (fun _ => ?_)
  refine zr_aload0 X dX8_fails_11 ?_
  refine zr_iload2 X dX8_fails_12 ?_
  refine zr_putI X zf_X8_31 rfl (Or.inl rfl) dX8_fails_13 ?_
  refine zr_aload0 X dX8_fails_16 ?_
  refine zr_getI X zf_X8_31 rfl dX8_fails_17 ?_
  refine zr_eq (x2 := x2) (zput_eq) ?_
  refine zr_if_eq (tgt := 27) X dX8_fails_20 (by decide) (fun h1 => ?_) (fun h1 => ?_)
  · skip
    refine zr_iconst (v := (0 : Int32)) X dX8_fails_27 (by decide) ?_
    refine zr_zret X (by first | decide | assumption | (simp; done)) (by decide) (by decide) dX8_fails_28 ?_
    exact absurd (by assumption) hx
  · skip
    refine zr_iconst (v := (1 : Int32)) X dX8_fails_23 (by decide) ?_
    refine zr_goto (tgt := 28) X dX8_fails_24 (by decide) ?_
    refine zr_zret X (by first | decide | assumption | (simp; done)) (by decide) (by decide) dX8_fails_28 ?_
    exact k1
theorem zIo_X8_in {l : Launch} {D : va_G} {b0 : Nat} {tA : Nat → ClassId} {sa sv : Nat → Nat} {K : Nat → Option Nat} {I : zI} {Qp : zI → Option AV → Prop} {Xp : String → zI → Prop} {k n : Nat} {hi : Int32} (hk : k < n) (hn : n < 2 ^ 30) (hh : hi = nI n - 1) (k1 : Qp I (some (vi 1))) :
    zC l D b0 tA sa sv K yX8_in (.code yX8_in cX8_in 3 (some .boolean)) zrm_X8_in [vi ((nI k)), vi ((0 : Int32)), vi (hi)] I Qp Xp := by
  subst hh
  refine zq_X8_in (fun _ => k1) (fun h => absurd ⟨(nI_leI (a := 0) (by decide) (by omega)).mpr (Nat.zero_le _), ?_⟩ h)
  obtain ⟨m, rfl⟩ : ∃ m, n = m + 1 := ⟨n - 1, by omega⟩
  rw [show nI (m + 1) - 1 = nI m from pk_sub (a := m + 1) (b := 1) (by omega)]
  exact (nI_leI (by omega) (by omega)).mpr (by omega)
theorem zIx_X8_in {l : Launch} {D : va_G} {b0 : Nat} {tA : Nat → ClassId} {sa sv : Nat → Nat} {K : Nat → Option Nat} {I : zI} {Qp : zI → Option AV → Prop} {Xp : String → zI → Prop} {v hi : Int32} {n : Nat} (hb : vIdx v n = none) (hn : n < 2 ^ 30) (hh : hi = nI n - 1) (k1 : Qp I (some (vi 0))) :
    zC l D b0 tA sa sv K yX8_in (.code yX8_in cX8_in 3 (some .boolean)) zrm_X8_in [vi (v), vi ((0 : Int32)), vi (hi)] I Qp Xp := by
  subst hh
  refine zq_X8_in (fun h => ?_) (fun _ => k1)
  exfalso
  rcases n with _ | m
  · have h9 := Int32.le_trans h.1 h.2
    exact absurd h9 (by decide)
  · rw [show nI (m + 1) - 1 = nI m from pk_sub (a := m + 1) (b := 1) (by omega)] at h
    rcases vIdx_out (by omega) hb with q | q
    · exact absurd h.1 (Int32.not_le.mpr q)
    · have h9 := Int32.le_trans q h.2
      rw [nI_leI (by omega) (by omega)] at h9
      omega
abbrev zrm_X8_remember : Room := { frames := 1, cells := 0, slots := 0, locals := 22 }
theorem zHi_push {I J : zI} {y : Nat} {S : zS} {U : List zS} (h : U.length < 8) (hH : zHi I y U) (hg : zag I J (y + 5 + 1 + 1 * U.length) 1) (hM : zMd J (y + 5 + 1 + 1 * U.length) S) : zHi (zput J y 12 (nI (U.length + 1))) y (qPush S U) := by
  obtain ⟨g1, g2, g3⟩ := hH
  have e : qPush S U = S :: U := by unfold qPush; exact List.take_of_length_le (by rw [List.length_cons]; omega)
  rw [e]
  refine ⟨zput_eq, by rw [List.length_cons]; omega, fun i u hu => ?_⟩
  rw [List.length_cons]
  rcases i with _ | i
  · cases hu
    rw [show U.length + 1 - 1 - 0 = U.length by omega]
    exact hM.kept (zput_nq (by omega))
  · rw [List.getElem?_cons_succ] at hu
    have hi : i < U.length := by
      rcases Nat.lt_or_ge i U.length with q | q
      · exact q
      · rw [List.getElem?_eq_none q] at hu; cases hu
    rw [show U.length + 1 - 1 - (i + 1) = U.length - 1 - i by omega]
    exact ((g3 i u hu).ag hg (by omega)).kept (zput_nq (by omega))
theorem zHi_full {J J2 : zI} {y : Nat} {S : zS} {U : List zS} (h : U.length = 8) (h7 : ∀ j, j < 7 → zMd J (y + 5 + 1 + 1 * j) (U.getD (6 - j) zBlank)) (hg : zag J J2 (y + 5 + 1 + 1 * (U.length - 1)) 1) (hM : zMd J2 (y + 5 + 1 + 1 * (U.length - 1)) S) : zHi (zput J2 y 12 (nI (U.length - 1 + 1))) y (qPush S U) := by
  have e7 : U.length - 1 = 7 := by omega
  rw [e7] at hg hM ⊢
  have hl : (qPush S U).length = 8 := by unfold qPush; rw [List.length_take, List.length_cons]; omega
  refine ⟨by rw [hl]; exact zput_eq, by omega, fun i u hu => ?_⟩
  rw [hl]
  have hi : i < 8 := by
    rcases Nat.lt_or_ge i 8 with q | q
    · exact q
    · rw [List.getElem?_eq_none (by omega)] at hu; cases hu
  unfold qPush at hu
  rw [List.getElem?_take_of_lt hi] at hu
  rcases i with _ | i
  · cases hu
    exact hM.kept (zput_nq (by omega))
  · rw [List.getElem?_cons_succ] at hu
    have := h7 (8 - 1 - (i + 1)) (by omega)
    rw [show 6 - (8 - 1 - (i + 1)) = i by omega, List.getD_eq_getElem?_getD, hu] at this
    exact (this.ag hg (by omega)).kept (zput_nq (by omega))
theorem zHi_at {I : zI} {y : Nat} {U : List zS} (h : zHi I y U) (hl : U.length = 8) : ∀ j, j < 8 → zMd I (y + 5 + 1 + 1 * j) (U.getD (7 - j) zBlank) := by
  intro j hj
  have hi : 7 - j < U.length := by omega
  have := h.2.2 (7 - j) _ (List.getElem?_eq_getElem hi)
  rw [show U.length - 1 - (7 - j) = j by omega] at this
  rw [List.getD_eq_getElem?_getD, List.getElem?_eq_getElem hi]
  exact this
set_option maxRecDepth 20000 in
theorem zl_X8_remember {l : Launch} {D : va_G} {b0 : Nat} {tA : Nat → ClassId} {sa sv : Nat → Nat} {K : Nat → Option Nat} {I : zI} {Qp : zI → Option AV → Prop} {Xp : String → zI → Prop} {p : Program} {e : Env} {s : State} {m : MethodId} {args : Array Value} {below : List Frame} {meth : Method} {c : Code} {y : Nat} {U : List zS}
    (X : zX p l e zrm_X8_remember s m args below meth c RX8 cX8_remember 2 none D b0 tA sa sv) (hnt : ∀ x ∈ c.exceptionTable.toList, False) (hk : ∀ J : zI, zag I J (y + 6) 7 → (∀ j, j < 7 → zMd J (y + 5 + 1 + 1 * j) (U.getD (6 - j) zBlank)) → zG p l e zrm_X8_remember s m args below meth c 2 D b0 tA sa 0 0 (zQ below D b0 tA sa K args s zrm_X8_remember Qp Xp) K 40 [some (vr (y) 8), none] [] J) :
    ∀ (n : Nat) (k : Nat) (J : zI), 1 ≤ k → k ≤ 8 → zag I J (y + 6) 7 → (∀ j, k - 1 ≤ j → j < 8 → zMd J (y + 5 + 1 + 1 * j) (U.getD (7 - j) zBlank)) → (∀ j, j < k - 1 → j < 7 → zMd J (y + 5 + 1 + 1 * j) (U.getD (6 - j) zBlank)) → 8 - k < n → zG p l e zrm_X8_remember s m args below meth c 2 D b0 tA sa 0 0 (zQ below D b0 tA sa K args s zrm_X8_remember Qp Xp) K 11 [some (vr (y) 8), some (vi ((nI k)))] [] J := by
  intro n
  induction n with
  | zero => intro k J i1 i2 i3 i4 i5 i9; exact absurd i9 (Nat.not_lt_zero _)
  | succ n ih =>
    intro k J i1 i2 i3 i4 i5 i9
    refine zr_iload1 X dX8_remember_11 ?_
    refine zr_bipush (v := (8 : Int32)) X dX8_remember_12 (by decide) ?_
    refine zr_nicmp_ge X (k) (8) (tgt := 40) (by omega) (by omega) dX8_remember_14 (by decide) (fun h1 => ?_) (fun h1 => ?_)
    · skip
      have hk8 : k = 8 := by omega
      subst hk8
      refine zr_forget (lv2 := [some (vr (y) 8), none]) (fun j9 v9 h9 => by rcases j9 with _ | _ | _ | _ | _ | _ | _ | _ | j9 <;> first | exact h9 | (simp at h9)) ?_
      exact hk J i3 (fun j hj => i5 j hj hj)
    · skip
      refine zr_aload0 X dX8_remember_17 ?_
      refine zr_getR X zf_X8_28 rfl (by decide) (by decide) dX8_remember_18 ?_
      refine zr_iload1 X dX8_remember_21 ?_
      refine zr_aaldN X rfl rfl (by decide) (show _ < 8 from (by first | assumption | omega)) dX8_remember_22 ?_
      refine zr_aload0 X dX8_remember_23 ?_
      refine zr_getR X zf_X8_28 rfl (by decide) (by decide) dX8_remember_24 ?_
      refine zr_iload1 X dX8_remember_27 ?_
      refine zr_iconst (v := (1 : Int32)) X dX8_remember_28 (by decide) ?_
      refine zr_isub X dX8_remember_29 ?_
      refine zr_eq (x2 := (nI (k - 1))) (pk_sub (a := k) (b := 1) (by omega)) ?_
      refine zr_aaldN X rfl rfl (by decide) (show _ < 8 from (by first | assumption | omega)) dX8_remember_30 ?_
      refine zr_callS2 (rm9 := zrm_X8_copy) X hnt zm_X8_232 (by decide) (by decide) (by decide) (Nat.le_of_ble_eq_true rfl) dX8_remember_31 ?_
      refine zp_X8_copy (S := (U.getD (7 - k) zBlank)) (by omega) (i4 k (by omega) (by omega)) ?_
      intro J1 hg2 hM3
      refine zr_iinc1 (v := (nI (k + 1))) X (show nI (k) + Int32.ofInt 1 = nI (k + 1) from nI_1 (k)) (by decide) rfl dX8_remember_34 ?_
      refine zr_goto (tgt := 11) X dX8_remember_37 (by decide) ?_
      refine ih (k + 1) _ (by omega) (by omega) (zag.tr i3 hg2 (by omega) (by omega)) ?_ ?_ (by omega)
      · intro j h1 h2
        exact (i4 j (by omega) h2).ag hg2 (by omega)
      · intro j h1 h2
        by_cases e : j = k - 1
        · subst e; rw [show 6 - (k - 1) = 7 - k by omega]; exact hM3
        · exact (i5 j (by omega) (by omega)).ag hg2 (by omega)
set_option maxRecDepth 20000 in
theorem zp_X8_remember {l : Launch} {D : va_G} {b0 : Nat} {tA : Nat → ClassId} {sa sv : Nat → Nat} {K : Nat → Option Nat} {I : zI} {Qp : zI → Option AV → Prop} {Xp : String → zI → Prop} {F9 : zI} {y f : Nat} {t : Nat → Nat} {er : Int32} {S : zS} {U : List zS}
    (hC : zRf F9 I y t f er S U) (k1 : ∀ J : zI, zRf F9 J y t f er S (qPush S U) → J y 0 = I y 0 → J (y + 3) = I (y + 3) → Qp J none) :
    zC l D b0 tA sa sv K yX8_remember (.code yX8_remember cX8_remember 2 none) zrm_X8_remember [vr (y) 8] I Qp Xp := by
  have hH := hC.2.2.2.2.2.1
  have hl8 := hH.2.1
  refine zC_of (by decide +kernel) (Nat.le_of_ble_eq_true rfl) ?_
  intro p e s m args below meth c X hnt
  have X : zX p l e zrm_X8_remember s m args below meth c RX8 cX8_remember 2 none D b0 tA sa sv := X
  refine zr_lv (lv2 := [some (vr (y) 8), none]) rfl ?_
  refine zr_aload0 X dX8_remember_0 ?_
  refine zr_getI X zf_X8_266 rfl dX8_remember_1 ?_
  refine zr_eq (x2 := (nI U.length)) (hH.1) ?_
  refine zr_bipush (v := (8 : Int32)) X dX8_remember_4 (by decide) ?_
  refine zr_nicmp_ne X (U.length) (8) (tgt := 50) (by omega) (by omega) dX8_remember_6 (by decide) (fun h1 => ?_) (fun h1 => ?_)
  · skip
    refine zr_aload0 X dX8_remember_50 ?_
    refine zr_getR X zf_X8_17 rfl (by decide) (by decide) dX8_remember_51 ?_
    refine zr_aload0 X dX8_remember_54 ?_
    refine zr_getR X zf_X8_28 rfl (by decide) (by decide) dX8_remember_55 ?_
    refine zr_aload0 X dX8_remember_58 ?_
    refine zr_getI X zf_X8_266 rfl dX8_remember_59 ?_
    refine zr_eq (x2 := (nI U.length)) (hH.1) ?_
    refine zr_aaldN X rfl rfl (by decide) (show _ < 8 from (by first | assumption | omega)) dX8_remember_62 ?_
    refine zr_callS2 (rm9 := zrm_X8_copy) X hnt zm_X8_232 (by decide) (by decide) (by decide) (Nat.le_of_ble_eq_true rfl) dX8_remember_63 ?_
    refine zp_X8_copy (S := S) (by omega) hC.2.2.1 ?_
    intro J4 hg5 hM6
    refine zr_aload0 X dX8_remember_66 ?_
    refine zr_dupR X dX8_remember_67 ?_
    refine zr_getI X zf_X8_266 rfl dX8_remember_68 ?_
    refine zr_eq (x2 := (I (y) 12)) ((congrFun (hg5 (y) (by omega)) 12)) ?_
    refine zr_eq (x2 := (nI U.length)) (hH.1) ?_
    refine zr_iconst (v := (1 : Int32)) X dX8_remember_71 (by decide) ?_
    refine zr_iadd X dX8_remember_72 ?_
    refine zr_eq (x2 := (nI (U.length + 1))) (nI_add (U.length) (1)) ?_
    refine zr_putI X zf_X8_266 rfl (Or.inl rfl) dX8_remember_73 ?_
    refine zr_vret X (by decide) (by decide) dX8_remember_76 ?_
    have hH9 : zHi (zput J4 (y) 12 ((nI (U.length + 1)))) y (qPush S U) := zHi_push (by omega) hH hg5 hM6
    have hz : zag I (zput J4 (y) 12 ((nI (U.length + 1)))) y 14 := by repeat (first | exact zag.rf | assumption | refine zag.put ?_ (by omega) (by omega) | refine zag.tr ?_ (by assumption) (by omega) (by omega))
    have h09 : ∀ j, j ≠ 12 → (zput J4 (y) 12 ((nI (U.length + 1)))) y j = I y j := (fun j hj => (zput_nj hj).trans (congrFun (hg5 y (by omega)) j))
    exact k1 _ (hC.past hz h09 ((zput_nq (by omega)).trans (hg5 _ (by omega))) ((zput_nq (by omega)).trans (hg5 _ (by omega))) hH9 (qPush_wf hC.2.2.2.1 hC.2.2.2.2.2.2)) (h09 0 (by decide)) ((zput_nq (by omega)).trans (hg5 _ (by omega)))
  · skip
    refine zr_iconst (v := (1 : Int32)) X dX8_remember_9 (by decide) ?_
    refine zr_istore1 X (by decide) rfl dX8_remember_10 ?_
    refine zl_X8_remember (U := U) X hnt (fun J9 hgJ h7 => ?_) 8 1 I (by omega) (by omega) zag.rf (fun j _ h2 => zHi_at hH (by omega) j h2) (fun j h1 _ => absurd h1 (Nat.not_lt_zero _)) (by omega)
    refine zr_aload0 X dX8_remember_40 ?_
    refine zr_dupR X dX8_remember_41 ?_
    refine zr_getI X zf_X8_266 rfl dX8_remember_42 ?_
    refine zr_eq (x2 := (I (y) 12)) ((congrFun (hgJ (y) (by omega)) 12)) ?_
    refine zr_eq (x2 := (nI U.length)) (hH.1) ?_
    refine zr_iconst (v := (1 : Int32)) X dX8_remember_45 (by decide) ?_
    refine zr_isub X dX8_remember_46 ?_
    refine zr_eq (x2 := (nI (U.length - 1))) (pk_sub (a := U.length) (b := 1) (by omega)) ?_
    refine zr_putI X zf_X8_266 rfl (Or.inl rfl) dX8_remember_47 ?_
    refine zr_aload0 X dX8_remember_50 ?_
    refine zr_getR X zf_X8_17 rfl (by decide) (by decide) dX8_remember_51 ?_
    refine zr_aload0 X dX8_remember_54 ?_
    refine zr_getR X zf_X8_28 rfl (by decide) (by decide) dX8_remember_55 ?_
    refine zr_aload0 X dX8_remember_58 ?_
    refine zr_getI X zf_X8_266 rfl dX8_remember_59 ?_
    refine zr_eq (x2 := (nI (U.length - 1))) (zput_eq) ?_
    refine zr_aaldN X rfl rfl (by decide) (show _ < 8 from (by first | assumption | omega)) dX8_remember_62 ?_
    refine zr_callS2 (rm9 := zrm_X8_copy) X hnt zm_X8_232 (by decide) (by decide) (by decide) (Nat.le_of_ble_eq_true rfl) dX8_remember_63 ?_
    refine zp_X8_copy (S := S) (by omega) ((hC.2.2.1.ag hgJ (by omega)).kept (zput_nq (by omega))) ?_
    intro J7 hg8 hM9
    refine zr_aload0 X dX8_remember_66 ?_
    refine zr_dupR X dX8_remember_67 ?_
    refine zr_getI X zf_X8_266 rfl dX8_remember_68 ?_
    refine zr_eq (x2 := (nI (U.length - 1))) ((congrFun (hg8 (y) (by omega)) 12).trans (zput_eq)) ?_
    refine zr_iconst (v := (1 : Int32)) X dX8_remember_71 (by decide) ?_
    refine zr_iadd X dX8_remember_72 ?_
    refine zr_eq (x2 := (nI ((U.length - 1) + 1))) (nI_add ((U.length - 1)) (1)) ?_
    refine zr_putI X zf_X8_266 rfl (Or.inl rfl) dX8_remember_73 ?_
    refine zr_vret X (by decide) (by decide) dX8_remember_76 ?_
    have hH9 : zHi (zput J7 (y) 12 ((nI ((U.length - 1) + 1)))) y (qPush S U) := zHi_full (by omega) (fun j hj => (h7 j hj).kept (zput_nq (by omega))) hg8 hM9
    have hz : zag I (zput J7 (y) 12 ((nI ((U.length - 1) + 1)))) y 14 := by refine zag.put ?_ (by omega) (by omega); refine zag.tr ?_ hg8 (by omega) (by omega); refine zag.put ?_ (by omega) (by omega); exact hgJ.wide (by omega) (by omega)
    have h09 : ∀ j, j ≠ 12 → (zput J7 (y) 12 ((nI ((U.length - 1) + 1)))) y j = I y j := (fun j hj => (zput_nj hj).trans ((congrFun (hg8 y (by omega)) j).trans ((zput_nj hj).trans (congrFun (hgJ y (by omega)) j))))
    exact k1 _ (hC.past hz h09 ((zput_nq (by omega)).trans ((hg8 _ (by omega)).trans ((zput_nq (by omega)).trans (hgJ _ (by omega))))) ((zput_nq (by omega)).trans ((hg8 _ (by omega)).trans ((zput_nq (by omega)).trans (hgJ _ (by omega))))) hH9 (qPush_wf hC.2.2.2.1 hC.2.2.2.2.2.2)) (h09 0 (by decide)) ((zput_nq (by omega)).trans ((hg8 _ (by omega)).trans ((zput_nq (by omega)).trans (hgJ _ (by omega)))))
