/-! ===== the reference reads: bytes, words, semicolons ===== -/
/-- the bytes of a text, as the reference keeps them; where its reading stands -/
def zBu (I : zI) (y : Nat) (t : Nat → Nat) (n : Nat) : Prop := n ≤ 500 ∧ (∀ k : Nat, t k < 256) ∧ ∀ k : Nat, k < n → I (y + 1) k = nI (t k)
def zPq (I : zI) (y : Nat) (t : Nat → Nat) (n q : Nat) : Prop := I y 5 = 0 ∧ (I y 3 = nI n ∧ I y 6 = -1) ∧ I y 4 = nI q ∧ q ≤ n ∧ zBu I y t n
def zEq (I : zI) (y : Nat) (e : Int32 × Nat) : Prop := (I y 5 = e.1 ∧ ¬ e.1 = 0) ∧ I y 6 = nI e.2
/-- what reading may change of the reference: the row that is tried, and some of its own numbers -/
def zfm (I J : zI) (y : Nat) : Prop := (∀ q : Nat, q ≠ y → q ≠ y + 3 → J q = I q) ∧ J y 0 = I y 0 ∧ J y 2 = I y 2 ∧ J y 3 = I y 3 ∧ J y 7 = I y 7 ∧ J y 12 = I y 12
theorem zfm.rf {I : zI} {y : Nat} : zfm I I y := ⟨fun _ _ _ => rfl, rfl, rfl, rfl, rfl, rfl⟩
theorem zfm.tr {I J J2 : zI} {y : Nat} (h : zfm I J y) (g : zfm J J2 y) : zfm I J2 y := ⟨fun q h1 h2 => (g.1 q h1 h2).trans (h.1 q h1 h2), g.2.1.trans h.2.1, g.2.2.1.trans h.2.2.1, g.2.2.2.1.trans h.2.2.2.1, g.2.2.2.2.1.trans h.2.2.2.2.1, g.2.2.2.2.2.trans h.2.2.2.2.2⟩
theorem zfm.put {I J : zI} {y j : Nat} {x : Int32} (h : zfm I J y) (hj : 0 ≠ j ∧ 2 ≠ j ∧ 3 ≠ j ∧ 7 ≠ j ∧ 12 ≠ j) : zfm I (zput J y j x) y :=
  ⟨fun q h1 h2 => (zput_nq h1).trans (h.1 q h1 h2), (zput_nj hj.1).trans h.2.1, (zput_nj hj.2.1).trans h.2.2.1, (zput_nj hj.2.2.1).trans h.2.2.2.1, (zput_nj hj.2.2.2.1).trans h.2.2.2.2.1, (zput_nj hj.2.2.2.2).trans h.2.2.2.2.2⟩
theorem zfm.row {I J J2 : zI} {y : Nat} (h : zfm I J y) (g : zag J J2 (y + 3) 1) : zfm I J2 y :=
  h.tr ⟨fun q _ h2 => g q (by omega), by rw [g y (by omega)], by rw [g y (by omega)], by rw [g y (by omega)], by rw [g y (by omega)], by rw [g y (by omega)]⟩
theorem zfm.rowput {I J : zI} {y j : Nat} {x : Int32} (h : zfm I J y) : zfm I (zput J (y + 3) j x) y := h.row (zag.rf.put (Nat.le_refl _) (Nat.lt_succ_self _))
theorem zPq.pos {I : zI} {y n q r : Nat} {t : Nat → Nat} (h : zPq I y t n q) (hr : r ≤ n) : zPq (zput I y 4 (nI r)) y t n r :=
  ⟨(zput_nj (by decide)).trans h.1, ⟨(zput_nj (by decide)).trans h.2.1.1, (zput_nj (by decide)).trans h.2.1.2⟩, zput_eq, hr, h.2.2.2.2.1, h.2.2.2.2.2.1, fun k hk => (zput_ne (by omega)).trans (h.2.2.2.2.2.2 k hk)⟩
theorem zPq.put {I : zI} {y n q j : Nat} {x : Int32} {t : Nat → Nat} (h : zPq I y t n q) (hj : 5 ≠ j ∧ 3 ≠ j ∧ 4 ≠ j ∧ 6 ≠ j) : zPq (zput I y j x) y t n q :=
  ⟨(zput_nj hj.1).trans h.1, ⟨(zput_nj hj.2.1).trans h.2.1.1, (zput_nj hj.2.2.2).trans h.2.1.2⟩, (zput_nj hj.2.2.1).trans h.2.2.1, h.2.2.2.1, h.2.2.2.2.1, h.2.2.2.2.2.1, fun k hk => (zput_ne (by omega)).trans (h.2.2.2.2.2.2 k hk)⟩
theorem zPq.row {I J : zI} {y n q : Nat} {t : Nat → Nat} (h : zPq I y t n q) (g : zag I J (y + 3) 1) : zPq J y t n q := by
  have e := g y (by omega)
  have e1 := g (y + 1) (by omega)
  unfold zPq zBu
  rw [e, e1]; exact h
theorem zPq.rowput {I : zI} {y n q j : Nat} {x : Int32} {t : Nat → Nat} (h : zPq I y t n q) : zPq (zput I (y + 3) j x) y t n q := h.row (zag.rf.put (Nat.le_refl _) (Nat.lt_succ_self _))
theorem zEq.row {I J : zI} {y : Nat} {e : Int32 × Nat} (h : zEq I y e) (g : zag I J (y + 3) 1) : zEq J y e := by
  have e1 := g y (by omega)
  unfold zEq
  rw [e1]; exact h
theorem zEq.rowput {I : zI} {y j : Nat} {x : Int32} {e : Int32 × Nat} (h : zEq I y e) : zEq (zput I (y + 3) j x) y e := h.row (zag.rf.put (Nat.le_refl _) (Nat.lt_succ_self _))
theorem zEq.mk {I : zI} {y o : Nat} {c : Int32} (h : ¬ c = 0) : zEq (zput (zput I y 5 c) y 6 (nI o)) y (c, o) := ⟨⟨(zput_nj (by decide)).trans zput_eq, h⟩, zput_eq⟩
theorem zput_id {I : zI} {a j : Nat} {x : Int32} (h : I a j = x) : zput I a j x = I := by
  funext q i
  unfold zput
  split
  · rename_i e
    split
    · rename_i e2; subst e e2; exact h.symm
    · rfl
  · rfl
theorem zput_zput {I : zI} {a j : Nat} {x z : Int32} : zput (zput I a j x) a j z = zput I a j z := by
  funext q i
  unfold zput
  split
  · split <;> rfl
  · rfl
theorem zput_cm {I : zI} {a j k : Nat} {x z : Int32} (h : j ≠ k) : zput (zput I a j x) a k z = zput (zput I a k z) a j x := by
  funext q i
  unfold zput
  split
  · split
    · rename_i e; subst e; rw [if_neg (Ne.symm h)]
    · rfl
  · rfl
theorem tSkip_id {t : Nat → Nat} {n q p : Nat} (hq : q ≤ n) (hp : tSkip t n q = p) : tSkip t n p = p := by
  have h1 := tSkip_le (t := t) hq
  refine tSkip_of (q := p) (by omega) (Nat.le_refl _) (tSkip_le (by omega)).1 ?_
  rcases Nat.lt_or_ge p n with h | h
  · exact Or.inr (fun z => by have := (tSkip_in (t := t) (p := q) (q := p) (by omega) (by omega) h).mp z; omega)
  · exact Or.inl h
theorem tSkip_32 {t : Nat → Nat} {n q p : Nat} (hq : q ≤ n) (hp : tSkip t n q = p) (h : p < n) : ¬ t p = 32 := fun z => by
  have h1 := tSkip_le (t := t) hq
  have := (tSkip_in (t := t) (p := q) (q := p) (by omega) (by omega) h).mp z
  omega
theorem tEnd_D {t : Nat → Nat} {n p : Nat} (h : p < n) (hd : tDig (t p) = true) : tEnd t n p = tEndD t n p := by unfold tEnd; rw [if_neg (by omega), if_pos hd]
theorem tEnd_L {t : Nat → Nat} {n p : Nat} (h : p < n) (hd : tLet (t p) = true) : tEnd t n p = tEndL t n p := by unfold tEnd; rw [if_neg (by omega), if_neg (fun z => by have := tDig_iff.mp z; have := tLet_iff.mp hd; omega), if_pos hd]
theorem tEnd_S {t : Nat → Nat} {n p : Nat} (h : p < n) (hd : t p = 59) : tEnd t n p = p + 1 := by unfold tEnd; rw [if_neg (by omega), if_neg (fun z => by have := tDig_iff.mp z; omega), if_neg (fun z => by have := tLet_iff.mp z; omega)]
theorem tEndD_is {t : Nat → Nat} {n p r : Nat} (hp : p ≤ n) (h1 : p ≤ r) (h2 : r ≤ tEndD t n p) (h : n ≤ r ∨ tDig (t r) = false) : r = tEndD t n p := by
  have h3 := tEndD_le (t := t) hp
  rcases Nat.lt_or_ge r n with q | q
  · rcases h with h | h
    · omega
    · rcases Nat.lt_or_ge r (tEndD t n p) with z | z
      · rw [(tEndD_in h1 h2 q).mpr z] at h; cases h
      · omega
  · omega
theorem tEndL_is {t : Nat → Nat} {n p r : Nat} (hp : p ≤ n) (h1 : p ≤ r) (h2 : r ≤ tEndL t n p) (h : n ≤ r ∨ tLet (t r) = false) : r = tEndL t n p := by
  have h3 := tEndL_le (t := t) hp
  rcases Nat.lt_or_ge r n with q | q
  · rcases h with h | h
    · omega
    · rcases Nat.lt_or_ge r (tEndL t n p) with z | z
      · rw [(tEndL_in h1 h2 q).mpr z] at h; cases h
      · omega
  · omega
theorem tIs_m {t : Nat → Nat} {n p : Nat} {w : List Nat} (hp : p ≤ n) (hw : 1 ≤ w.length) (hl : ∀ i, i < w.length → tLet (w.getD i 0) = true) : tIs t n p w ↔ (∀ i, i < w.length → p + i < n ∧ t (p + i) = w.getD i 0) ∧ ¬ (p + w.length < n ∧ tLet (t (p + w.length)) = true) := by
  have hE := tEndL_le (t := t) hp
  constructor
  · rintro ⟨h1, h2, h3, h4⟩
    refine ⟨fun i hi => ⟨by omega, h4 i hi⟩, fun z => ?_⟩
    have := (tEndL_in (t := t) (n := n) (p := p) (q := p + w.length) (by omega) (by omega) z.1).mp z.2
    omega
  · rintro ⟨h1, h2⟩
    have h0 := h1 0 (by omega)
    have hl0 : tLet (t p) = true := by have := h0.2; rw [Nat.add_zero] at this; rw [this]; exact hl 0 (by omega)
    refine ⟨by omega, hl0, ?_, fun i hi => (h1 i hi).2⟩
    have a1 : ¬ tEndL t n p < p + w.length := fun z => by
      have h9 := h1 (tEndL t n p - p) (by omega)
      rw [show p + (tEndL t n p - p) = tEndL t n p by omega] at h9
      have := (tEndL_in (t := t) (q := tEndL t n p) (by omega) (Nat.le_refl _) h9.1).mp (by rw [h9.2]; exact hl _ (by omega))
      omega
    have a2 : ¬ p + w.length < tEndL t n p := fun z => h2 ⟨by omega, by have := tLet_run (t := t) (n := n) (p := p) (i := w.length) (by omega); exact this⟩
    omega
theorem zSW_w : ∀ i, i < 20 → 1 ≤ (zSW.getD i []).length ∧ (zSW.getD i []).length = zSL.getD i 0 ∧ ∀ k, k < (zSW.getD i []).length → tLet ((zSW.getD i []).getD k 0) = true := by decide +kernel
abbrev zrm_X8_byteAt : Room := { frames := 0, cells := 0, slots := 0, locals := 0 }
set_option maxRecDepth 20000 in
theorem zn_X8_byteAt {l : Launch} {D : va_G} {b0 : Nat} {tA : Nat → ClassId} {sa sv : Nat → Nat} {K : Nat → Option Nat} {I : zI} {Qp : zI → Option AV → Prop} {Xp : String → zI → Prop} {y n9 q9 k9 : Nat} {t : Nat → Nat}
    (hP : zPq I y t n9 q9) (hk : k9 < 2 ^ 30) (k1 : k9 < n9 → t k9 < 256 → Qp I (some (vi (nI (t k9))))) (k2 : n9 ≤ k9 → Qp I (some (vi (-1)))) :
    zC l D b0 tA sa sv K yX8_byteAt (.code yX8_byteAt cX8_byteAt 2 (some .int)) zrm_X8_byteAt [vr (y) 8, vi ((nI k9))] I Qp Xp := by
  have hn5 := hP.2.2.2.2.1
  refine zC_of (by decide +kernel) (Nat.le_of_ble_eq_true rfl) ?_
  intro p e s m args below meth c X hnt
  have X : zX p l e zrm_X8_byteAt s m args below meth c RX8 cX8_byteAt 2 (some .int) D b0 tA sa sv := X
  refine zr_lv (lv2 := [some (vr (y) 8), some (vi ((nI k9)))]) rfl ?_
  refine zr_iload1 X dX8_byteAt_0 ?_
  refine zr_aload0 X dX8_byteAt_1 ?_
  refine zr_getI X zf_X8_101 rfl dX8_byteAt_2 ?_
  refine zr_eq (x2 := (nI n9)) (hP.2.1.1) ?_
  refine zr_nicmp_ge X (k9) (n9) (tgt := 17) (by omega) (by omega) dX8_byteAt_5 (by decide) (fun h1 => ?_) (fun h1 => ?_)
  · skip
    refine zr_iconst (v := (-1 : Int32)) X dX8_byteAt_17 (by decide) ?_
    refine zr_iret X (by decide) (by decide) dX8_byteAt_18 ?_
    exact k2 (by omega)
  · skip
    refine zr_aload0 X dX8_byteAt_8 ?_
    refine zr_getR X zf_X8_9 rfl (by decide) (by decide) dX8_byteAt_9 ?_
    refine zr_iload1 X dX8_byteAt_12 ?_
    refine zr_ialdN X rfl (show _ < 500 from (by first | assumption | omega)) dX8_byteAt_13 ?_
    refine zr_eq (x2 := (nI (t k9))) (hP.2.2.2.2.2.2 k9 (by omega)) ?_
    refine zr_goto (tgt := 18) X dX8_byteAt_14 (by decide) ?_
    refine zr_iret X (by decide) (by decide) dX8_byteAt_18 ?_
    exact k1 (by omega) (hP.2.2.2.2.2.1 _)
theorem znL_X8_in {l : Launch} {D : va_G} {b0 : Nat} {tA : Nat → ClassId} {sa sv : Nat → Nat} {K : Nat → Option Nat} {I : zI} {Qp : zI → Option AV → Prop} {Xp : String → zI → Prop} {v : Nat} (hv : v < 256) (k1 : tLet v = true → Qp I (some (vi 1))) (k2 : tLet v = false → Qp I (some (vi 0))) :
    zC l D b0 tA sa sv K yX8_in (.code yX8_in cX8_in 3 (some .boolean)) zrm_X8_in [vi ((nI v)), vi ((97 : Int32)), vi ((122 : Int32))] I Qp Xp := by
  refine zq_X8_in (fun h => k1 (tLet_iff.mpr ⟨(nI_leI (a := 97) (by decide) (by omega)).mp h.1, (nI_leI (b := 122) (by omega) (by decide)).mp h.2⟩)) (fun h => k2 ?_)
  cases e : tLet v with
  | false => rfl
  | true => exact absurd ⟨(nI_leI (a := 97) (by decide) (by omega)).mpr (tLet_iff.mp e).1, (nI_leI (b := 122) (by omega) (by decide)).mpr (tLet_iff.mp e).2⟩ h
theorem znD_X8_in {l : Launch} {D : va_G} {b0 : Nat} {tA : Nat → ClassId} {sa sv : Nat → Nat} {K : Nat → Option Nat} {I : zI} {Qp : zI → Option AV → Prop} {Xp : String → zI → Prop} {v : Nat} (hv : v < 256) (k1 : tDig v = true → Qp I (some (vi 1))) (k2 : tDig v = false → Qp I (some (vi 0))) :
    zC l D b0 tA sa sv K yX8_in (.code yX8_in cX8_in 3 (some .boolean)) zrm_X8_in [vi ((nI v)), vi ((48 : Int32)), vi ((57 : Int32))] I Qp Xp := by
  refine zq_X8_in (fun h => k1 (tDig_iff.mpr ⟨(nI_leI (a := 48) (by decide) (by omega)).mp h.1, (nI_leI (b := 57) (by omega) (by decide)).mp h.2⟩)) (fun h => k2 ?_)
  cases e : tDig v with
  | false => rfl
  | true => exact absurd ⟨(nI_leI (a := 48) (by decide) (by omega)).mpr (tDig_iff.mp e).1, (nI_leI (b := 57) (by omega) (by decide)).mpr (tDig_iff.mp e).2⟩ h
abbrev zrm_X8_isDigit : Room := { frames := 1, cells := 0, slots := 0, locals := 22 }
set_option maxRecDepth 20000 in
theorem zn_X8_isDigit {l : Launch} {D : va_G} {b0 : Nat} {tA : Nat → ClassId} {sa sv : Nat → Nat} {K : Nat → Option Nat} {I : zI} {Qp : zI → Option AV → Prop} {Xp : String → zI → Prop} {v : Nat}
    (hv : v < 256) (k1 : tDig v = true → Qp I (some (vi 1))) (k2 : tDig v = false → Qp I (some (vi 0))) :
    zC l D b0 tA sa sv K yX8_isDigit (.code yX8_isDigit cX8_isDigit 1 (some .boolean)) zrm_X8_isDigit [vi ((nI v))] I Qp Xp := by
  refine zC_of (by decide +kernel) (Nat.le_of_ble_eq_true rfl) ?_
  intro p e s m args below meth c X hnt
  have X : zX p l e zrm_X8_isDigit s m args below meth c RX8 cX8_isDigit 1 (some .boolean) D b0 tA sa sv := X
  refine zr_lv (lv2 := [some (vi ((nI v)))]) rfl ?_
  refine zr_iload0 X dX8_isDigit_0 ?_
  refine zr_bipush (v := (48 : Int32)) X dX8_isDigit_1 (by decide) ?_
  refine zr_bipush (v := (57 : Int32)) X dX8_isDigit_3 (by decide) ?_
  refine zr_callS3 (rm9 := zrm_X8_in) X hnt zm_X8_117 (by decide) (by decide) (by decide) (Nat.le_of_ble_eq_true rfl) dX8_isDigit_5 ?_
  refine znD_X8_in (v := v) (by omega) ?_ ?_
  · skip
    intro hl1; have hl1_2 := tDig_iff.mp hl1
    refine zr_zret X (by first | decide | assumption | (simp; done)) (by decide) (by decide) dX8_isDigit_8 ?_
    exact k1 hl1
  · skip
    intro hl1
    refine zr_zret X (by first | decide | assumption | (simp; done)) (by decide) (by decide) dX8_isDigit_8 ?_
    exact k2 hl1
set_option maxRecDepth 20000 in
theorem zm_X8_isDigit {l : Launch} {D : va_G} {b0 : Nat} {tA : Nat → ClassId} {sa sv : Nat → Nat} {K : Nat → Option Nat} {I : zI} {Qp : zI → Option AV → Prop} {Xp : String → zI → Prop} 
    (k2 : Qp I (some (vi 0))) :
    zC l D b0 tA sa sv K yX8_isDigit (.code yX8_isDigit cX8_isDigit 1 (some .boolean)) zrm_X8_isDigit [vi ((-1 : Int32))] I Qp Xp := by
  refine zC_of (by decide +kernel) (Nat.le_of_ble_eq_true rfl) ?_
  intro p e s m args below meth c X hnt
  have X : zX p l e zrm_X8_isDigit s m args below meth c RX8 cX8_isDigit 1 (some .boolean) D b0 tA sa sv := X
  refine zr_lv (lv2 := [some (vi ((-1 : Int32)))]) rfl ?_
  refine zr_iload0 X dX8_isDigit_0 ?_
  refine zr_bipush (v := (48 : Int32)) X dX8_isDigit_1 (by decide) ?_
  refine zr_bipush (v := (57 : Int32)) X dX8_isDigit_3 (by decide) ?_
  refine zr_callS3 (rm9 := zrm_X8_in) X hnt zm_X8_117 (by decide) (by decide) (by decide) (Nat.le_of_ble_eq_true rfl) dX8_isDigit_5 ?_
  refine zq_X8_in (fun h => absurd h (by decide)) (fun _ => ?_)
  refine zr_zret X (by first | decide | assumption | (simp; done)) (by decide) (by decide) dX8_isDigit_8 ?_
  exact k2
theorem zg_X8_isGood {l : Launch} {D : va_G} {b0 : Nat} {tA : Nat → ClassId} {sa sv : Nat → Nat} {K : Nat → Option Nat} {I : zI} {Qp : zI → Option AV → Prop} {Xp : String → zI → Prop} {y : Nat} (h : I y 5 = 0) (k1 : Qp I (some (vi 1))) :
    zC l D b0 tA sa sv K yX8_isGood (.code yX8_isGood cX8_isGood 1 (some .boolean)) zrm_X8_isGood [vr (y) 8] I Qp Xp := zp_X8_isGood (fun z => absurd h z) (fun _ => k1)
theorem zb_X8_isGood {l : Launch} {D : va_G} {b0 : Nat} {tA : Nat → ClassId} {sa sv : Nat → Nat} {K : Nat → Option Nat} {I : zI} {Qp : zI → Option AV → Prop} {Xp : String → zI → Prop} {y : Nat} (h : ¬ I y 5 = 0) (k1 : Qp I (some (vi 0))) :
    zC l D b0 tA sa sv K yX8_isGood (.code yX8_isGood cX8_isGood 1 (some .boolean)) zrm_X8_isGood [vr (y) 8] I Qp Xp := zp_X8_isGood (fun _ => k1) (fun z => absurd z h)
theorem zg_X8_report {l : Launch} {D : va_G} {b0 : Nat} {tA : Nat → ClassId} {sa sv : Nat → Nat} {K : Nat → Option Nat} {I : zI} {Qp : zI → Option AV → Prop} {Xp : String → zI → Prop} {y : Nat} {x1 x2 : Int32} (h : I y 5 = 0) (k1 : Qp (zput (zput I y 5 x1) y 6 x2) none) :
    zC l D b0 tA sa sv K yX8_report (.code yX8_report cX8_report 3 none) zrm_X8_report [vr (y) 8, vi (x1), vi (x2)] I Qp Xp := zp_X8_report (fun _ => k1) (fun z => absurd h z)
theorem zb_X8_report {l : Launch} {D : va_G} {b0 : Nat} {tA : Nat → ClassId} {sa sv : Nat → Nat} {K : Nat → Option Nat} {I : zI} {Qp : zI → Option AV → Prop} {Xp : String → zI → Prop} {y : Nat} {x1 x2 : Int32} (h : ¬ I y 5 = 0) (k1 : Qp I none) :
    zC l D b0 tA sa sv K yX8_report (.code yX8_report cX8_report 3 none) zrm_X8_report [vr (y) 8, vi (x1), vi (x2)] I Qp Xp := zp_X8_report (fun z => absurd z h) (fun _ => k1)
abbrev zrm_X8_ahead : Room := { frames := 1, cells := 0, slots := 0, locals := 21 }
set_option maxRecDepth 20000 in
theorem zl_X8_ahead {l : Launch} {D : va_G} {b0 : Nat} {tA : Nat → ClassId} {sa sv : Nat → Nat} {K : Nat → Option Nat} {I : zI} {Qp : zI → Option AV → Prop} {Xp : String → zI → Prop} {p : Program} {e : Env} {s : State} {m : MethodId} {args : Array Value} {below : List Frame} {meth : Method} {c : Code} {y n9 q9 p9 : Nat} {t : Nat → Nat}
    (X : zX p l e zrm_X8_ahead s m args below meth c RX8 cX8_ahead 1 (some .int) D b0 tA sa sv) (hnt : ∀ x ∈ c.exceptionTable.toList, False) (hP : zPq I y t n9 q9) (hp : tSkip t n9 q9 = p9) (k1 : ∀ J : zI, zag I J y 1 → zfm I J y → zPq J y t n9 p9 → p9 < n9 → t p9 < 256 → Qp J (some (vi (nI (t p9))))) (k2 : ∀ J : zI, zag I J y 1 → zfm I J y → zPq J y t n9 p9 → p9 = n9 → Qp J (some (vi (-1)))) :
    ∀ (n : Nat) (r : Nat), q9 ≤ r → r ≤ tSkip t n9 q9 → n9 - r < n → zG p l e zrm_X8_ahead s m args below meth c 1 D b0 tA sa 0 0 (zQ below D b0 tA sa K args s zrm_X8_ahead Qp Xp) K 0 [some (vr (y) 8)] [] (zput I (y) 4 ((nI r))) := by
  intro n
  induction n with
  | zero => intro r i1 i2 i9; exact absurd i9 (Nat.not_lt_zero _)
  | succ n ih =>
    intro r i1 i2 i9
    have hle := tSkip_le (t := t) hP.2.2.2.1
    have hn5 := hP.2.2.2.2.1
    have hP9 := hP.pos (r := r) (by omega)
    refine zr_aload0 X dX8_ahead_0 ?_
    refine zr_aload0 X dX8_ahead_1 ?_
    refine zr_getI X zf_X8_104 rfl dX8_ahead_2 ?_
    refine zr_eq (x2 := (nI r)) (zput_eq) ?_
    refine zr_callV1 (rm9 := zrm_X8_byteAt) X hnt zm_X8_107 (by decide) (by decide) (by decide) (Nat.le_of_ble_eq_true rfl) dX8_ahead_5 ?_
    refine zn_X8_byteAt (k9 := r) hP9 (by omega) ?_ ?_
    · skip
      intro hb1 h22
      refine zr_bipush (v := (32 : Int32)) X dX8_ahead_8 (by decide) ?_
      refine zr_nicmp_ne X ((t r)) (32) (tgt := 26) (by omega) (by omega) dX8_ahead_10 (by decide) (fun h3 => ?_) (fun h3 => ?_)
      · skip
        refine zr_aload0 X dX8_ahead_26 ?_
        refine zr_aload0 X dX8_ahead_27 ?_
        refine zr_getI X zf_X8_104 rfl dX8_ahead_28 ?_
        refine zr_eq (x2 := (nI r)) (zput_eq) ?_
        refine zr_callV1 (rm9 := zrm_X8_byteAt) X hnt zm_X8_107 (by decide) (by decide) (by decide) (Nat.le_of_ble_eq_true rfl) dX8_ahead_31 ?_
        refine zn_X8_byteAt (k9 := r) hP9 (by omega) ?_ (fun h => absurd h (by omega))
        intro hb4 h25
        refine zr_iret X (by decide) (by decide) dX8_ahead_34 ?_
        have e9 : r = p9 := (tSkip_of hP.2.2.2.1 i1 i2 (by first | exact Or.inl (by omega) | exact Or.inr (by assumption))).symm.trans hp
        subst e9
        exact k1 _ (zag.rf.put (Nat.le_refl _) (Nat.lt_succ_self _)) (zfm.rf.put (by decide)) (hP.pos (by omega)) (by omega) (by omega)
      · skip
        refine zr_aload0 X dX8_ahead_13 ?_
        refine zr_dupR X dX8_ahead_14 ?_
        refine zr_getI X zf_X8_104 rfl dX8_ahead_15 ?_
        refine zr_eq (x2 := (nI r)) (zput_eq) ?_
        refine zr_iconst (v := (1 : Int32)) X dX8_ahead_18 (by decide) ?_
        refine zr_iadd X dX8_ahead_19 ?_
        refine zr_eq (x2 := (nI (r + 1))) (nI_add (r) (1)) ?_
        refine zr_putI X zf_X8_104 rfl (Or.inl rfl) dX8_ahead_20 ?_
        refine zr_goto (tgt := 0) X dX8_ahead_23 (by decide) ?_
        refine zr_I zput_zput ?_
        exact ih (r + 1) (by omega) (by have := (tSkip_in (t := t) i1 i2 (by omega)).mp (by assumption); omega) (by omega)
    · skip
      intro hb1
      refine zr_bipush (v := (32 : Int32)) X dX8_ahead_8 (by decide) ?_
      refine zr_icmp_ne (tgt := 26) X dX8_ahead_10 (by decide) (fun _ => ?_) (fun h => absurd h (by decide))
      refine zr_aload0 X dX8_ahead_26 ?_
      refine zr_aload0 X dX8_ahead_27 ?_
      refine zr_getI X zf_X8_104 rfl dX8_ahead_28 ?_
      refine zr_eq (x2 := (nI r)) (zput_eq) ?_
      refine zr_callV1 (rm9 := zrm_X8_byteAt) X hnt zm_X8_107 (by decide) (by decide) (by decide) (Nat.le_of_ble_eq_true rfl) dX8_ahead_31 ?_
      refine zn_X8_byteAt (k9 := r) hP9 (by omega) ?_ ?_
      · skip
        intro hb6 h27
        refine zr_iret X (by decide) (by decide) dX8_ahead_34 ?_
        have e9 : r = p9 := (tSkip_of hP.2.2.2.1 i1 i2 (by first | exact Or.inl (by omega) | exact Or.inr (by assumption))).symm.trans hp
        subst e9
        exact k1 _ (zag.rf.put (Nat.le_refl _) (Nat.lt_succ_self _)) (zfm.rf.put (by decide)) (hP.pos (by omega)) (by omega) (by omega)
      · skip
        intro hb6
        refine zr_iret X (by decide) (by decide) dX8_ahead_34 ?_
        have e9 : r = p9 := (tSkip_of hP.2.2.2.1 i1 i2 (by first | exact Or.inl (by omega) | exact Or.inr (by assumption))).symm.trans hp
        subst e9
        exact k2 _ (zag.rf.put (Nat.le_refl _) (Nat.lt_succ_self _)) (zfm.rf.put (by decide)) (hP.pos (by omega)) (by omega)
set_option maxRecDepth 20000 in
theorem zp_X8_ahead {l : Launch} {D : va_G} {b0 : Nat} {tA : Nat → ClassId} {sa sv : Nat → Nat} {K : Nat → Option Nat} {I : zI} {Qp : zI → Option AV → Prop} {Xp : String → zI → Prop} {y n9 q9 p9 : Nat} {t : Nat → Nat}
    (hP : zPq I y t n9 q9) (hp : tSkip t n9 q9 = p9) (k1 : ∀ J : zI, zag I J y 1 → zfm I J y → zPq J y t n9 p9 → p9 < n9 → t p9 < 256 → Qp J (some (vi (nI (t p9))))) (k2 : ∀ J : zI, zag I J y 1 → zfm I J y → zPq J y t n9 p9 → p9 = n9 → Qp J (some (vi (-1)))) :
    zC l D b0 tA sa sv K yX8_ahead (.code yX8_ahead cX8_ahead 1 (some .int)) zrm_X8_ahead [vr (y) 8] I Qp Xp := by
  refine zC_of (by decide +kernel) (Nat.le_of_ble_eq_true rfl) ?_
  intro p e s m args below meth c X hnt
  have X : zX p l e zrm_X8_ahead s m args below meth c RX8 cX8_ahead 1 (some .int) D b0 tA sa sv := X
  refine zr_lv (lv2 := [some (vr (y) 8)]) rfl ?_
  exact zr_I (zput_id hP.2.2.1).symm (zl_X8_ahead X hnt hP hp k1 k2 (n9 + 1) q9 (Nat.le_refl _) (tSkip_le hP.2.2.2.1).1 (by omega))
theorem zv_X8_ahead {l : Launch} {D : va_G} {b0 : Nat} {tA : Nat → ClassId} {sa sv : Nat → Nat} {K : Nat → Option Nat} {I : zI} {Qp : zI → Option AV → Prop} {Xp : String → zI → Prop} {y n9 q9 p9 : Nat} {t : Nat → Nat} (hP : zPq I y t n9 q9) (hp : tSkip t n9 q9 = p9) (k1 : ∀ (J : zI) (v9 : Int32), zag I J y 1 → zfm I J y → zPq J y t n9 p9 → Qp J (some (vi v9))) :
    zC l D b0 tA sa sv K yX8_ahead (.code yX8_ahead cX8_ahead 1 (some .int)) zrm_X8_ahead [vr (y) 8] I Qp Xp := zp_X8_ahead hP hp (fun J h1 h2 h3 _ _ => k1 J _ h1 h2 h3) (fun J h1 h2 h3 _ => k1 J _ h1 h2 h3)
abbrev zrm_X8_takeWord : Room := { frames := 5, cells := 0, slots := 0, locals := 150 }
set_option maxRecDepth 20000 in
theorem zl_X8_takeWord {l : Launch} {D : va_G} {b0 : Nat} {tA : Nat → ClassId} {sa sv : Nat → Nat} {K : Nat → Option Nat} {I : zI} {Qp : zI → Option AV → Prop} {Xp : String → zI → Prop} {p : Program} {e : Env} {s : State} {m : MethodId} {args : Array Value} {below : List Frame} {meth : Method} {c : Code} {y n9 p9 i : Nat} {t : Nat → Nat}
    (X : zX p l e zrm_X8_takeWord s m args below meth c RX8 cX8_takeWord 3 (some .boolean) D b0 tA sa sv) (hnt : ∀ x ∈ c.exceptionTable.toList, False) (hP : zPq I y t n9 p9) (hi20 : i < 20) (k1 : tIsB t n9 p9 (zSW.getD i []) = true → Qp (zput I y 4 (nI (tEnd t n9 p9))) (some (vi 1))) (k2 : ¬ tIsB t n9 p9 (zSW.getD i []) = true → Qp I (some (vi 0))) :
    ∀ (n : Nat) (k : Nat), k ≤ zSL.getD i 0 → (∀ i9, i9 < k → p9 + i9 < n9 ∧ t (p9 + i9) = (zSW.getD i []).getD i9 0) → zSL.getD i 0 - k < n → zG p l e zrm_X8_takeWord s m args below meth c 3 D b0 tA sa 0 0 (zQ below D b0 tA sa K args s zrm_X8_takeWord Qp Xp) K 16 [some (vr (y) 8), some (vr (sa i) (18 + i)), some (vi ((nI k)))] [] I := by
  intro n
  induction n with
  | zero => intro k i1 i2 i9; exact absurd i9 (Nat.not_lt_zero _)
  | succ n ih =>
    intro k i1 i2 i9
    obtain ⟨hw1, hw2, hw3⟩ := zSW_w i hi20
    have hn5 := hP.2.2.2.2.1
    have hpn := hP.2.2.2.1
    have hz9 := (zSW_all i hi20).2 k
    have hl9 : ∀ i, i < 20 → zSL.getD i 0 < 9 := by decide
    have hl8 := hl9 i hi20
    refine zr_iload2 X dX8_takeWord_16 ?_
    refine zr_aload1 X dX8_takeWord_17 ?_
    refine zr_callW0 (rm9 := zrm_J0_length_8abf5) X hnt (by omega) zm_X8_129 (by decide) (by decide) (by decide) (Nat.le_of_ble_eq_true rfl) dX8_takeWord_18 ?_
    refine zp_J0_length_8abf5 (i := i) (by omega) ?_
    refine zr_nicmp_ge X (k) ((zSL.getD i 0)) (tgt := 48) (by omega) (by omega) dX8_takeWord_21 (by decide) (fun h1 => ?_) (fun h1 => ?_)
    · skip
      refine zr_iload2 X dX8_takeWord_48 ?_
      refine zr_aload1 X dX8_takeWord_49 ?_
      refine zr_callW0 (rm9 := zrm_J0_length_8abf5) X hnt (by omega) zm_X8_129 (by decide) (by decide) (by decide) (Nat.le_of_ble_eq_true rfl) dX8_takeWord_50 ?_
      refine zp_J0_length_8abf5 (i := i) (by omega) ?_
      refine zr_nicmp_lt X (k) ((zSL.getD i 0)) (tgt := 76) (by omega) (by omega) dX8_takeWord_53 (by decide) (fun h2 => ?_) (fun h2 => ?_)
      · exact absurd h2 (by omega)
      · skip
        refine zr_aload0 X dX8_takeWord_56 ?_
        refine zr_aload0 X dX8_takeWord_57 ?_
        refine zr_getI X zf_X8_104 rfl dX8_takeWord_58 ?_
        refine zr_eq (x2 := (nI p9)) (hP.2.2.1) ?_
        refine zr_iload2 X dX8_takeWord_61 ?_
        refine zr_iadd X dX8_takeWord_62 ?_
        refine zr_eq (x2 := (nI (p9 + k))) (nI_add (p9) (k)) ?_
        refine zr_callV1 (rm9 := zrm_X8_byteAt) X hnt zm_X8_107 (by decide) (by decide) (by decide) (Nat.le_of_ble_eq_true rfl) dX8_takeWord_63 ?_
        refine zn_X8_byteAt (k9 := p9 + k) hP (by omega) ?_ ?_
        · skip
          intro hb3 h24
          refine zr_bipush (v := (97 : Int32)) X dX8_takeWord_66 (by decide) ?_
          refine zr_bipush (v := (122 : Int32)) X dX8_takeWord_68 (by decide) ?_
          refine zr_callS3 (rm9 := zrm_X8_in) X hnt zm_X8_117 (by decide) (by decide) (by decide) (Nat.le_of_ble_eq_true rfl) dX8_takeWord_70 ?_
          refine znL_X8_in (v := t (p9 + k)) (by omega) ?_ ?_
          · skip
            intro hl5; have hl5_2 := tLet_iff.mp hl5
            refine zr_if_eq (tgt := 78) X dX8_takeWord_73 (by decide) (fun h => absurd h (by decide)) (fun _ => ?_)
            refine zr_iconst (v := (0 : Int32)) X dX8_takeWord_76 (by decide) ?_
            refine zr_zret X (by first | decide | assumption | (simp; done)) (by decide) (by decide) dX8_takeWord_77 ?_
            refine k2 (fun z => ?_)
            have h9 := (tIs_m hP.2.2.2.1 hw1 hw3).mp (tIsB_iff.mp z)
            first | (have h8 := h9.1 k (by omega); first | exact absurd h8.2 (by assumption) | omega) | exact h9.2 ⟨by omega, by rw [show (zSW.getD i []).length = k by omega]; assumption⟩
          · skip
            intro hl5
            refine zr_if_eq (tgt := 78) X dX8_takeWord_73 (by decide) (fun _ => ?_) (fun h => absurd h (by decide))
            refine zr_aload0 X dX8_takeWord_78 ?_
            refine zr_dupR X dX8_takeWord_79 ?_
            refine zr_getI X zf_X8_104 rfl dX8_takeWord_80 ?_
            refine zr_eq (x2 := (nI p9)) (hP.2.2.1) ?_
            refine zr_iload2 X dX8_takeWord_83 ?_
            refine zr_iadd X dX8_takeWord_84 ?_
            refine zr_eq (x2 := (nI (p9 + k))) (nI_add (p9) (k)) ?_
            refine zr_putI X zf_X8_104 rfl (Or.inl rfl) dX8_takeWord_85 ?_
            refine zr_iconst (v := (1 : Int32)) X dX8_takeWord_88 (by decide) ?_
            refine zr_zret X (by first | decide | assumption | (simp; done)) (by decide) (by decide) dX8_takeWord_89 ?_
            have hkk : k = (zSW.getD i []).length := by omega
            have h9 : tIs t n9 p9 (zSW.getD i []) := (tIs_m hP.2.2.2.1 hw1 hw3).mpr ⟨fun i9 hi9 => i2 i9 (by omega), fun z => by rw [← hkk] at z; first | (have h8 := z.2; rw [show tLet (t (p9 + k)) = false from by assumption] at h8; cases h8) | (have := z.1; omega)⟩
            have h7 := tEnd_L h9.1 h9.2.1
            have h6 := h9.2.2.1
            have h5 := tEndL_le (t := t) hP.2.2.2.1
            have h4 : tEnd t n9 p9 = p9 + k := by omega
            rw [h4] at k1; exact k1 (tIsB_iff.mpr h9)
        · skip
          intro hb3
          refine zr_bipush (v := (97 : Int32)) X dX8_takeWord_66 (by decide) ?_
          refine zr_bipush (v := (122 : Int32)) X dX8_takeWord_68 (by decide) ?_
          refine zr_callS3 (rm9 := zrm_X8_in) X hnt zm_X8_117 (by decide) (by decide) (by decide) (Nat.le_of_ble_eq_true rfl) dX8_takeWord_70 ?_
          refine zq_X8_in (fun h => absurd h (by decide)) (fun _ => ?_)
          refine zr_if_eq (tgt := 78) X dX8_takeWord_73 (by decide) (fun _ => ?_) (fun h => absurd h (by decide))
          refine zr_aload0 X dX8_takeWord_78 ?_
          refine zr_dupR X dX8_takeWord_79 ?_
          refine zr_getI X zf_X8_104 rfl dX8_takeWord_80 ?_
          refine zr_eq (x2 := (nI p9)) (hP.2.2.1) ?_
          refine zr_iload2 X dX8_takeWord_83 ?_
          refine zr_iadd X dX8_takeWord_84 ?_
          refine zr_eq (x2 := (nI (p9 + k))) (nI_add (p9) (k)) ?_
          refine zr_putI X zf_X8_104 rfl (Or.inl rfl) dX8_takeWord_85 ?_
          refine zr_iconst (v := (1 : Int32)) X dX8_takeWord_88 (by decide) ?_
          refine zr_zret X (by first | decide | assumption | (simp; done)) (by decide) (by decide) dX8_takeWord_89 ?_
          have hkk : k = (zSW.getD i []).length := by omega
          have h9 : tIs t n9 p9 (zSW.getD i []) := (tIs_m hP.2.2.2.1 hw1 hw3).mpr ⟨fun i9 hi9 => i2 i9 (by omega), fun z => by rw [← hkk] at z; first | (have h8 := z.2; rw [show tLet (t (p9 + k)) = false from by assumption] at h8; cases h8) | (have := z.1; omega)⟩
          have h7 := tEnd_L h9.1 h9.2.1
          have h6 := h9.2.2.1
          have h5 := tEndL_le (t := t) hP.2.2.2.1
          have h4 : tEnd t n9 p9 = p9 + k := by omega
          rw [h4] at k1; exact k1 (tIsB_iff.mpr h9)
    · skip
      refine zr_aload0 X dX8_takeWord_24 ?_
      refine zr_aload0 X dX8_takeWord_25 ?_
      refine zr_getI X zf_X8_104 rfl dX8_takeWord_26 ?_
      refine zr_eq (x2 := (nI p9)) (hP.2.2.1) ?_
      refine zr_iload2 X dX8_takeWord_29 ?_
      refine zr_iadd X dX8_takeWord_30 ?_
      refine zr_eq (x2 := (nI (p9 + k))) (nI_add (p9) (k)) ?_
      refine zr_callV1 (rm9 := zrm_X8_byteAt) X hnt zm_X8_107 (by decide) (by decide) (by decide) (Nat.le_of_ble_eq_true rfl) dX8_takeWord_31 ?_
      refine zn_X8_byteAt (k9 := p9 + k) hP (by omega) ?_ ?_
      · skip
        intro hb6 h27
        refine zr_aload1 X dX8_takeWord_34 ?_
        refine zr_iload2 X dX8_takeWord_35 ?_
        refine zr_callW1 (rm9 := zrm_J0_charAt_5068e) X hnt (by omega) zm_X8_134 (by decide) (by decide) (by decide) (Nat.le_of_ble_eq_true rfl) dX8_takeWord_36 ?_
        refine zp_J0_charAt_5068e (i := i) (by omega) (by omega) ?_
        refine zr_nicmp_ne X ((t (p9 + k))) (((zSW.getD i []).getD k 0)) (tgt := 48) (by omega) (by omega) dX8_takeWord_39 (by decide) (fun h8 => ?_) (fun h8 => ?_)
        · skip
          refine zr_iload2 X dX8_takeWord_48 ?_
          refine zr_aload1 X dX8_takeWord_49 ?_
          refine zr_callW0 (rm9 := zrm_J0_length_8abf5) X hnt (by omega) zm_X8_129 (by decide) (by decide) (by decide) (Nat.le_of_ble_eq_true rfl) dX8_takeWord_50 ?_
          refine zp_J0_length_8abf5 (i := i) (by omega) ?_
          refine zr_nicmp_lt X (k) ((zSL.getD i 0)) (tgt := 76) (by omega) (by omega) dX8_takeWord_53 (by decide) (fun h9 => ?_) (fun h9 => ?_)
          · skip
            refine zr_iconst (v := (0 : Int32)) X dX8_takeWord_76 (by decide) ?_
            refine zr_zret X (by first | decide | assumption | (simp; done)) (by decide) (by decide) dX8_takeWord_77 ?_
            refine k2 (fun z => ?_)
            have h9 := (tIs_m hP.2.2.2.1 hw1 hw3).mp (tIsB_iff.mp z)
            first | (have h8 := h9.1 k (by omega); first | exact absurd h8.2 (by assumption) | omega) | exact h9.2 ⟨by omega, by rw [show (zSW.getD i []).length = k by omega]; assumption⟩
          · exact absurd h9 (by omega)
        · skip
          refine zr_iinc2 (v := (nI (k + 1))) X (show nI (k) + Int32.ofInt 1 = nI (k + 1) from nI_1 (k)) (by decide) rfl dX8_takeWord_42 ?_
          refine zr_goto (tgt := 16) X dX8_takeWord_45 (by decide) ?_
          exact ih (k + 1) (by omega) (fun i9 hi9 => by rcases Nat.lt_succ_iff_lt_or_eq.mp hi9 with q | rfl; exact i2 i9 q; exact ⟨by omega, by assumption⟩) (by omega)
      · skip
        intro hb6
        refine zr_aload1 X dX8_takeWord_34 ?_
        refine zr_iload2 X dX8_takeWord_35 ?_
        refine zr_callW1 (rm9 := zrm_J0_charAt_5068e) X hnt (by omega) zm_X8_134 (by decide) (by decide) (by decide) (Nat.le_of_ble_eq_true rfl) dX8_takeWord_36 ?_
        refine zp_J0_charAt_5068e (i := i) (by omega) (by omega) ?_
        refine zr_icmp_ne (tgt := 48) X dX8_takeWord_39 (by decide) (fun _ => ?_) (fun h => absurd h.symm (zm1 (by omega)))
        refine zr_iload2 X dX8_takeWord_48 ?_
        refine zr_aload1 X dX8_takeWord_49 ?_
        refine zr_callW0 (rm9 := zrm_J0_length_8abf5) X hnt (by omega) zm_X8_129 (by decide) (by decide) (by decide) (Nat.le_of_ble_eq_true rfl) dX8_takeWord_50 ?_
        refine zp_J0_length_8abf5 (i := i) (by omega) ?_
        refine zr_nicmp_lt X (k) ((zSL.getD i 0)) (tgt := 76) (by omega) (by omega) dX8_takeWord_53 (by decide) (fun h10 => ?_) (fun h10 => ?_)
        · skip
          refine zr_iconst (v := (0 : Int32)) X dX8_takeWord_76 (by decide) ?_
          refine zr_zret X (by first | decide | assumption | (simp; done)) (by decide) (by decide) dX8_takeWord_77 ?_
          refine k2 (fun z => ?_)
          have h9 := (tIs_m hP.2.2.2.1 hw1 hw3).mp (tIsB_iff.mp z)
          first | (have h8 := h9.1 k (by omega); first | exact absurd h8.2 (by assumption) | omega) | exact h9.2 ⟨by omega, by rw [show (zSW.getD i []).length = k by omega]; assumption⟩
        · exact absurd h10 (by omega)
set_option maxRecDepth 20000 in
theorem zg_X8_takeWord {l : Launch} {D : va_G} {b0 : Nat} {tA : Nat → ClassId} {sa sv : Nat → Nat} {K : Nat → Option Nat} {I : zI} {Qp : zI → Option AV → Prop} {Xp : String → zI → Prop} {y n9 q9 p9 i : Nat} {t : Nat → Nat}
    (hP : zPq I y t n9 q9) (hp : tSkip t n9 q9 = p9) (hi20 : i < 20) (k1 : tIsB t n9 p9 (zSW.getD i []) = true → ∀ J : zI, zag I J y 1 → zfm I J y → zPq J y t n9 (tEnd t n9 p9) → Qp J (some (vi 1))) (k2 : ¬ tIsB t n9 p9 (zSW.getD i []) = true → ∀ J : zI, zag I J y 1 → zfm I J y → zPq J y t n9 (p9) → Qp J (some (vi 0))) :
    zC l D b0 tA sa sv K yX8_takeWord (.code yX8_takeWord cX8_takeWord 3 (some .boolean)) zrm_X8_takeWord [vr (y) 8, vr (sa i) (18 + i)] I Qp Xp := by
  have hn5 := hP.2.2.2.2.1
  have hqn := hP.2.2.2.1
  have hpl := tSkip_le (t := t) hP.2.2.2.1
  have hl9 : ∀ i, i < 20 → zSL.getD i 0 < 9 := by decide
  have hl8 := hl9 i hi20
  refine zC_of (by decide +kernel) (Nat.le_of_ble_eq_true rfl) ?_
  intro p e s m args below meth c X hnt
  have X : zX p l e zrm_X8_takeWord s m args below meth c RX8 cX8_takeWord 3 (some .boolean) D b0 tA sa sv := X
  refine zr_lv (lv2 := [some (vr (y) 8), some (vr (sa i) (18 + i)), none]) rfl ?_
  refine zr_aload0 X dX8_takeWord_0 ?_
  refine zr_callV0 (rm9 := zrm_X8_isGood) X hnt zm_X8_121 (by decide) (by decide) (by decide) (Nat.le_of_ble_eq_true rfl) dX8_takeWord_1 ?_
  refine zg_X8_isGood hP.1 ?_
  refine zr_if_ne (tgt := 9) X dX8_takeWord_4 (by decide) (fun _ => ?_) (fun h => absurd h (by decide))
  refine zr_aload0 X dX8_takeWord_9 ?_
  refine zr_callV0 (rm9 := zrm_X8_ahead) X hnt zm_X8_125 (by decide) (by decide) (by decide) (Nat.le_of_ble_eq_true rfl) dX8_takeWord_10 ?_
  refine zv_X8_ahead (p9 := p9) hP hp ?_
  intro J1 v9 hg2 fr3 hP4; have fr3 : zfm I J1 y := zfm.tr zfm.rf fr3; have := hP4.2.2.2.1
  refine zr_popI X dX8_takeWord_13 ?_
  refine zr_iconst (v := (0 : Int32)) X dX8_takeWord_14 (by decide) ?_
  refine zr_istore2 X (by decide) rfl dX8_takeWord_15 ?_
  exact zl_X8_takeWord X hnt hP4 hi20 (fun h => k1 h _ (zag.tr hg2 (zag.rf.put (Nat.le_refl _) (Nat.lt_succ_self _)) (Nat.le_refl _) (Nat.le_refl _)) (fr3.put (by decide)) (hP4.pos (tEnd_le hP4.2.2.2.1).1)) (fun h => k2 h _ hg2 fr3 hP4) 9 0 (by omega) (fun i9 hi9 => absurd hi9 (Nat.not_lt_zero _)) (by omega)
set_option maxRecDepth 20000 in
theorem zb_X8_takeWord {l : Launch} {D : va_G} {b0 : Nat} {tA : Nat → ClassId} {sa sv : Nat → Nat} {K : Nat → Option Nat} {I : zI} {Qp : zI → Option AV → Prop} {Xp : String → zI → Prop} {y i : Nat} {e9 : Int32 × Nat}
    (hE : zEq I y e9) (k1 : Qp I (some (vi 0))) :
    zC l D b0 tA sa sv K yX8_takeWord (.code yX8_takeWord cX8_takeWord 3 (some .boolean)) zrm_X8_takeWord [vr (y) 8, vr (sa i) (18 + i)] I Qp Xp := by
  refine zC_of (by decide +kernel) (Nat.le_of_ble_eq_true rfl) ?_
  intro p e s m args below meth c X hnt
  have X : zX p l e zrm_X8_takeWord s m args below meth c RX8 cX8_takeWord 3 (some .boolean) D b0 tA sa sv := X
  refine zr_lv (lv2 := [some (vr (y) 8), some (vr (sa i) (18 + i)), none]) rfl ?_
  refine zr_aload0 X dX8_takeWord_0 ?_
  refine zr_callV0 (rm9 := zrm_X8_isGood) X hnt zm_X8_121 (by decide) (by decide) (by decide) (Nat.le_of_ble_eq_true rfl) dX8_takeWord_1 ?_
  refine zb_X8_isGood (fun z => hE.1.2 (hE.1.1.symm.trans z)) ?_
  refine zr_if_ne (tgt := 9) X dX8_takeWord_4 (by decide) (fun h => absurd h (by decide)) (fun _ => ?_)
  refine zr_iconst (v := (0 : Int32)) X dX8_takeWord_7 (by decide) ?_
  refine zr_zret X (by first | decide | assumption | (simp; done)) (by decide) (by decide) dX8_takeWord_8 ?_
  exact k1
theorem tIsB_lt {t : Nat → Nat} {n p : Nat} {w : List Nat} (h : tIsB t n p w = true) : p < n := (tIsB_iff.mp h).1
abbrev zrm_X8_expect : Room := { frames := 2, cells := 0, slots := 0, locals := 41 }
set_option maxRecDepth 20000 in
theorem zg_X8_expect {l : Launch} {D : va_G} {b0 : Nat} {tA : Nat → ClassId} {sa sv : Nat → Nat} {K : Nat → Option Nat} {I : zI} {Qp : zI → Option AV → Prop} {Xp : String → zI → Prop} {y n9 q9 p9 : Nat} {t : Nat → Nat} {S : zS}
    (hP : zPq I y t n9 q9) (hp : tSkip t n9 q9 = p9) (k1 : pSemi t n9 p9 S = .inr (tNext t n9 p9, S) → ∀ J : zI, zag I J y 1 → zfm I J y → zPq J y t n9 (tEnd t n9 p9) → Qp J none) (k2 : ∀ (J : zI) (e : Int32 × Nat), pSemi t n9 p9 S = .inl e → zag I J y 1 → zfm I J y → zEq J y e → Qp J none) :
    zC l D b0 tA sa sv K yX8_expect (.code yX8_expect cX8_expect 2 none) zrm_X8_expect [vr (y) 8, vi ((59 : Int32))] I Qp Xp := by
  have hn5 := hP.2.2.2.2.1
  have hqn := hP.2.2.2.1
  have hpl := tSkip_le (t := t) hP.2.2.2.1
  refine zC_of (by decide +kernel) (Nat.le_of_ble_eq_true rfl) ?_
  intro p e s m args below meth c X hnt
  have X : zX p l e zrm_X8_expect s m args below meth c RX8 cX8_expect 2 none D b0 tA sa sv := X
  refine zr_lv (lv2 := [some (vr (y) 8), some (vi ((59 : Int32)))]) rfl ?_
  refine zr_aload0 X dX8_expect_0 ?_
  refine zr_callV0 (rm9 := zrm_X8_isGood) X hnt zm_X8_121 (by decide) (by decide) (by decide) (Nat.le_of_ble_eq_true rfl) dX8_expect_1 ?_
  refine zg_X8_isGood hP.1 ?_
  refine zr_if_ne (tgt := 8) X dX8_expect_4 (by decide) (fun _ => ?_) (fun h => absurd h (by decide))
  refine zr_aload0 X dX8_expect_8 ?_
  refine zr_callV0 (rm9 := zrm_X8_ahead) X hnt zm_X8_125 (by decide) (by decide) (by decide) (Nat.le_of_ble_eq_true rfl) dX8_expect_9 ?_
  refine zp_X8_ahead (p9 := p9) hP hp ?_ ?_
  · skip
    intro J6 hg7 fr8 hP9 hb1 h22; have fr8 : zfm I J6 y := zfm.tr zfm.rf fr8; have := hP9.2.2.2.1
    refine zr_iload1 X dX8_expect_12 ?_
    refine zr_nicmp_ne X ((t p9)) (59) (tgt := 29) (by omega) (by omega) dX8_expect_13 (by decide) (fun h3 => ?_) (fun h3 => ?_)
    · skip
      refine zr_aload0 X dX8_expect_29 ?_
      refine zr_bipush (v := (-2 : Int32)) X dX8_expect_30 (by decide) ?_
      refine zr_aload0 X dX8_expect_32 ?_
      refine zr_getI X zf_X8_104 rfl dX8_expect_33 ?_
      refine zr_eq (x2 := (nI p9)) (hP9.2.2.1) ?_
      refine zr_callV2 (rm9 := zrm_X8_report) X hnt zm_X8_138 (by decide) (by decide) (by decide) (Nat.le_of_ble_eq_true rfl) dX8_expect_36 ?_
      refine zg_X8_report hP9.1 ?_; have hE11 : zEq (zput (zput J6 y 5 (-2 : Int32)) y 6 (nI p9)) y ((-2 : Int32), p9) := zEq.mk (by decide); have fr12 : zfm I (zput (zput J6 y 5 (-2 : Int32)) y 6 (nI p9)) y := zfm.put (zfm.put fr8 (by decide)) (by decide)
      refine zr_vret X (by decide) (by decide) dX8_expect_39 ?_
      exact k2 _ _ (by rw [pSemi, if_neg (fun z => by have := tKind_3.mp z; first | exact absurd this.2 (by assumption) | omega)]) (by repeat (first | exact zag.rf | assumption | refine zag.put ?_ (by omega) (by omega) | refine zag.tr ?_ (by assumption) (by omega) (by omega))) fr12 hE11
    · skip
      refine zr_aload0 X dX8_expect_16 ?_
      refine zr_dupR X dX8_expect_17 ?_
      refine zr_getI X zf_X8_104 rfl dX8_expect_18 ?_
      refine zr_eq (x2 := (nI p9)) (hP9.2.2.1) ?_
      refine zr_iconst (v := (1 : Int32)) X dX8_expect_21 (by decide) ?_
      refine zr_iadd X dX8_expect_22 ?_
      refine zr_eq (x2 := (nI (p9 + 1))) (nI_add (p9) (1)) ?_
      refine zr_putI X zf_X8_104 rfl (Or.inl rfl) dX8_expect_23 ?_
      refine zr_goto (tgt := 39) X dX8_expect_26 (by decide) ?_
      refine zr_vret X (by decide) (by decide) dX8_expect_39 ?_
      have hP13 : zPq (zput J6 (y) 4 ((nI (p9 + 1)))) y t n9 (p9 + 1) := (zPq.pos hP9 (by omega))
      have fr14 : zfm I (zput J6 (y) 4 ((nI (p9 + 1)))) y := (zfm.put fr8 (by decide))
      exact k1 (by rw [pSemi, if_pos (tKind_3.mpr ⟨by assumption, by assumption⟩)]) _ (by repeat (first | exact zag.rf | assumption | refine zag.put ?_ (by omega) (by omega) | refine zag.tr ?_ (by assumption) (by omega) (by omega))) fr14 (by rw [tEnd_S (by assumption) (by assumption)]; exact hP13)
  · skip
    intro J6 hg7 fr8 hP9 hb1; have fr8 : zfm I J6 y := zfm.tr zfm.rf fr8; have := hP9.2.2.2.1
    refine zr_iload1 X dX8_expect_12 ?_
    refine zr_icmp_ne (tgt := 29) X dX8_expect_13 (by decide) (fun _ => ?_) (fun h => absurd h (by decide))
    refine zr_aload0 X dX8_expect_29 ?_
    refine zr_bipush (v := (-2 : Int32)) X dX8_expect_30 (by decide) ?_
    refine zr_aload0 X dX8_expect_32 ?_
    refine zr_getI X zf_X8_104 rfl dX8_expect_33 ?_
    refine zr_eq (x2 := (nI p9)) (hP9.2.2.1) ?_
    refine zr_callV2 (rm9 := zrm_X8_report) X hnt zm_X8_138 (by decide) (by decide) (by decide) (Nat.le_of_ble_eq_true rfl) dX8_expect_36 ?_
    refine zg_X8_report hP9.1 ?_; have hE15 : zEq (zput (zput J6 y 5 (-2 : Int32)) y 6 (nI p9)) y ((-2 : Int32), p9) := zEq.mk (by decide); have fr16 : zfm I (zput (zput J6 y 5 (-2 : Int32)) y 6 (nI p9)) y := zfm.put (zfm.put fr8 (by decide)) (by decide)
    refine zr_vret X (by decide) (by decide) dX8_expect_39 ?_
    exact k2 _ _ (by rw [pSemi, if_neg (fun z => by have := tKind_3.mp z; first | exact absurd this.2 (by assumption) | omega)]) (by repeat (first | exact zag.rf | assumption | refine zag.put ?_ (by omega) (by omega) | refine zag.tr ?_ (by assumption) (by omega) (by omega))) fr16 hE15
set_option maxRecDepth 20000 in
theorem zb_X8_expect {l : Launch} {D : va_G} {b0 : Nat} {tA : Nat → ClassId} {sa sv : Nat → Nat} {K : Nat → Option Nat} {I : zI} {Qp : zI → Option AV → Prop} {Xp : String → zI → Prop} {y : Nat} {e9 : Int32 × Nat}
    (hE : zEq I y e9) (k1 : Qp I none) :
    zC l D b0 tA sa sv K yX8_expect (.code yX8_expect cX8_expect 2 none) zrm_X8_expect [vr (y) 8, vi ((59 : Int32))] I Qp Xp := by
  refine zC_of (by decide +kernel) (Nat.le_of_ble_eq_true rfl) ?_
  intro p e s m args below meth c X hnt
  have X : zX p l e zrm_X8_expect s m args below meth c RX8 cX8_expect 2 none D b0 tA sa sv := X
  refine zr_lv (lv2 := [some (vr (y) 8), some (vi ((59 : Int32)))]) rfl ?_
  refine zr_aload0 X dX8_expect_0 ?_
  refine zr_callV0 (rm9 := zrm_X8_isGood) X hnt zm_X8_121 (by decide) (by decide) (by decide) (Nat.le_of_ble_eq_true rfl) dX8_expect_1 ?_
  refine zb_X8_isGood (fun z => hE.1.2 (hE.1.1.symm.trans z)) ?_
  refine zr_if_ne (tgt := 8) X dX8_expect_4 (by decide) (fun h => absurd h (by decide)) (fun _ => ?_)
  refine zr_vret X (by decide) (by decide) dX8_expect_7 ?_
  exact k1
