/-! ===== the class's object; what it keeps for undo ===== -/
/-- the class's ring of rows: the latest change first -/
def zRg (I : zI) (x : Nat) (U : List zS) : Prop := ∃ nw : Nat, nw < 8 ∧ I (x + 139) 1 = nI nw ∧ I (x + 139) 2 = nI U.length ∧ U.length ≤ 8 ∧ ∀ (i : Nat) (u : zS), U[i]? = some u → zRw I (x + 141 + 45 * ((nw + 8 - i) % 8)) u
theorem zRg.ag {I I' : zI} {x lo n : Nat} {U : List zS} (h : zRg I x U) (hg : zag I I' lo n) (ho : lo + n ≤ x + 139 ∨ x + 501 ≤ lo) : zRg I' x U := by
  obtain ⟨nw, h1, h2, h3, h4, h5⟩ := h
  refine ⟨nw, h1, by rw [hg _ (by omega)]; exact h2, by rw [hg _ (by omega)]; exact h3, h4, fun i u hu => (h5 i u hu).ag hg ?_⟩
  have : (nw + 8 - i) % 8 < 8 := Nat.mod_lt _ (by decide)
  omega
/-- the class's object at x -/
def zFar (F I : zI) (x : Nat) : Prop := ∀ q : Nat, q < x ∨ x + 501 ≤ q → I q = F q
theorem zFar.ag {F I I' : zI} {x lo n : Nat} (h : zFar F I x) (hg : zag I I' lo n) (h1 : x ≤ lo) (h2 : lo + n ≤ x + 501) : zFar F I' x := fun q hq => (hg q (by omega)).trans (h q hq)
theorem zFar.rf {I : zI} {x : Nat} : zFar I I x := fun _ _ => rfl
/-- what lies outside is as F has it -/
def zCl (F : zI) (I : zI) (x : Nat) (t : Nat → Nat) (f : Nat) (er : Int32) (S : zS) (U : List zS) : Prop :=
  zBy I (x + 1) t f ∧ I x 6 = er ∧ zRw I (x + 4) S ∧ zWf S ∧ (zRw I (x + 49) zBlank ∧ zFar F I x) ∧ zRg I x U ∧ ∀ u ∈ U, zWf u
theorem zCl.now {I I' : zI} {F9 : zI} {x f : Nat} {t : Nat → Nat} {er : Int32} {S S' : zS} {U : List zS} (h : zCl F9 I x t f er S U) (hg : zag I I' (x + 4) 45) (hR : zRw I' (x + 4) S') (hW : zWf S') : zCl F9 I' x t f er S' U :=
  ⟨h.1.ag hg (by omega), by rw [hg x (by omega)]; exact h.2.1, hR, hW, ⟨h.2.2.2.2.1.1.ag hg (by omega), h.2.2.2.2.1.2.ag hg (by omega) (by omega)⟩, h.2.2.2.2.2.1.ag hg (by omega), h.2.2.2.2.2.2⟩
theorem zCl.trial {I I' : zI} {F9 : zI} {x f : Nat} {t : Nat → Nat} {er : Int32} {S : zS} {U : List zS} (h : zCl F9 I x t f er S U) (hg : zag I I' (x + 94) 45) : zCl F9 I' x t f er S U :=
  ⟨h.1.ag hg (by omega), by rw [hg x (by omega)]; exact h.2.1, h.2.2.1.ag hg (by omega), h.2.2.2.1, ⟨h.2.2.2.2.1.1.ag hg (by omega), h.2.2.2.2.1.2.ag hg (by omega) (by omega)⟩, h.2.2.2.2.2.1.ag hg (by omega), h.2.2.2.2.2.2⟩
theorem zCl.past {I I' : zI} {F9 : zI} {x f : Nat} {t : Nat → Nat} {er : Int32} {S : zS} {U U' : List zS} (h : zCl F9 I x t f er S U) (hg : zag I I' (x + 139) 362) (hR : zRg I' x U') (hU : ∀ u ∈ U', zWf u) : zCl F9 I' x t f er S U' :=
  ⟨h.1.ag hg (by omega), by rw [hg x (by omega)]; exact h.2.1, h.2.2.1.ag hg (by omega), h.2.2.2.1, ⟨h.2.2.2.2.1.1.ag hg (by omega), h.2.2.2.2.1.2.ag hg (by omega) (by omega)⟩, hR, hU⟩
/-- an index below n -/
def vIdx (v : Int32) (n : Nat) : Option Nat := if 0 ≤ v.toInt ∧ v.toInt < (n : Int) then some v.toInt.toNat else none
theorem vIdx_some {v : Int32} {n k : Nat} (h : vIdx v n = some k) : k < n ∧ v = nI k := by
  unfold vIdx at h
  split at h
  · cases h
    have h9 := Int32.toInt_lt v
    refine ⟨by omega, ?_⟩
    apply Int32.toInt_inj.mp
    rw [nI_toInt (by omega)]; omega
  · cases h
theorem vIdx_none {v : Int32} {n : Nat} (hn : n < 2 ^ 31) (h : vIdx v n = none) (k : Nat) (hk : k < n) : ¬ v = nI k := by
  intro e
  subst e
  unfold vIdx at h
  rw [nI_toInt (by omega), if_pos (by omega)] at h
  cases h
theorem vIdx_is {n k : Nat} (hn : n < 2 ^ 31) (hk : k < n) : vIdx (nI k) n = some k := by
  unfold vIdx
  rw [nI_toInt (by omega), if_pos (by omega)]
  congr 1
/-- not an index: as the class tests it -/
theorem vIdx_out {v : Int32} {n : Nat} (hn : n < 2 ^ 31) (h : vIdx v n = none) : v < 0 ∨ nI n ≤ v := by
  unfold vIdx at h
  split at h
  · cases h
  · rename_i h1
    rw [Int32.lt_iff_toInt_lt, Int32.le_iff_toInt_le, nI_toInt hn]
    have : (0 : Int32).toInt = 0 := by decide
    omega
theorem zshift {U : List zS} {S : zS} {I : zI} {x nw : Nat} (hn : nw < 8) (h5 : ∀ (i : Nat) (u : zS), U[i]? = some u → zRw I (x + 141 + 45 * ((nw + 8 - i) % 8)) u) {nn : Nat} (hnn : nn = (nw + 1) % 8) {J : zI} (hag : zag I J (x + 139) 2) {J2 : zI} (hg2 : zag J J2 (x + 141 + 45 * nn) 45) (hR : zRw J2 (x + 141 + 45 * nn) S) (i : Nat) (u : zS) (hu : ((S :: U).take 8)[i]? = some u) : zRw J2 (x + 141 + 45 * ((nn + 8 - i) % 8)) u := by
  have hi : i < 8 := by
    rcases Nat.lt_or_ge i 8 with q | q
    · exact q
    · rw [List.getElem?_eq_none (by rw [List.length_take]; omega)] at hu; cases hu
  rw [List.getElem?_take_of_lt hi] at hu
  rcases i with _ | i
  · cases hu
    rw [show (nn + 8 - 0) % 8 = nn by omega]; exact hR
  · rw [List.getElem?_cons_succ] at hu
    have := h5 i u hu
    rw [show (nn + 8 - (i + 1)) % 8 = (nw + 8 - i) % 8 by omega]
    refine (this.ag hag (by omega)).ag hg2 ?_
    have h8 : (nw + 8 - i) % 8 ≠ nn := by omega
    omega
theorem zmin8 (n : Nat) (h : n < 2 ^ 31) : (if (8 : Int32) < nI n then (8 : Int32) else nI n) = nI (min n 8) := by
  have e : ((8 : Int32) < nI n) ↔ 8 < n := nI_ltI (a := 8) (by decide) h
  by_cases q : 8 < n
  · rw [if_pos (e.mpr q), show min n 8 = 8 by omega]; rfl
  · rw [if_neg (fun z => q (e.mp z)), show min n 8 = n by omega]
abbrev zrm_X2_remember : Room := { frames := 3, cells := 0, slots := 0, locals := 65 }
set_option maxRecDepth 20000 in
theorem zp_X2_remember {l : Launch} {D : va_G} {b0 : Nat} {tA : Nat → ClassId} {sa sv : Nat → Nat} {K : zKt} {I : zI} {Qp : zI → Option AV → Prop} {Xp : String → zI → Prop} {x : Nat} {S : zS} {U : List zS}
    (hG : zRg I x U) (hR0 : zRw I (x + 4) S) (k1 : ∀ J : zI, zag I J (x + 139) 362 → zRg J x ((S :: U).take 8) → Qp J none) :
    zC l D b0 tA sa sv K yX2_remember (.code yX2_remember cX2_remember 2 none) zrm_X2_remember [vr (x + 139) 2, vr (x + 4) 5] I Qp Xp := by
  obtain ⟨nw, g1, g2, g3, g4, g5⟩ := hG
  refine zC_of (by decide +kernel) (Nat.le_of_ble_eq_true rfl) ?_
  intro p e s m args below meth c X hnt
  have X : zX p l e zrm_X2_remember s m args below meth c RX2 cX2_remember 2 none D b0 tA sa sv := X
  refine zr_lv (lv2 := [some (vr (x + 139) 2), some (vr (x + 4) 5)]) rfl ?_
  refine zr_aload0 X dX2_remember_0 ?_
  refine zr_aload0 X dX2_remember_1 ?_
  refine zr_getI X zf_X2_18 rfl dX2_remember_2 ?_
  refine zr_eq (x2 := (nI nw)) (g2) ?_
  refine zr_iconst (v := (1 : Int32)) X dX2_remember_5 (by decide) ?_
  refine zr_iadd X dX2_remember_6 ?_
  refine zr_eq (x2 := (nI (nw + 1))) (nI_add (nw) (1)) ?_
  refine zr_aload0 X dX2_remember_7 ?_
  refine zr_getR X zf_X2_11 rfl (by decide) (by decide) dX2_remember_8 ?_
  refine zr_alen (v := 8) X (Or.inr (Or.inl rfl)) rfl dX2_remember_11 ?_
  refine zr_nicmp_ge X ((nw + 1)) (8) (tgt := 24) (by omega) (by omega) dX2_remember_12 (by decide) (fun h1 => ?_) (fun h1 => ?_)
  · skip
    refine zr_iconst (v := (0 : Int32)) X dX2_remember_24 (by decide) ?_
    refine zr_putI X zf_X2_18 rfl (Or.inl rfl) dX2_remember_25 ?_
    refine zr_aload0 X dX2_remember_28 ?_
    refine zr_aload0 X dX2_remember_29 ?_
    refine zr_getI X zf_X2_22 rfl dX2_remember_30 ?_
    refine zr_eq (x2 := (I (x + 139) 2)) ((zput_nj (by decide))) ?_
    refine zr_eq (x2 := (nI U.length)) (g3) ?_
    refine zr_iconst (v := (1 : Int32)) X dX2_remember_33 (by decide) ?_
    refine zr_iadd X dX2_remember_34 ?_
    refine zr_eq (x2 := (nI (U.length + 1))) (nI_add (U.length) (1)) ?_
    refine zr_aload0 X dX2_remember_35 ?_
    refine zr_getR X zf_X2_11 rfl (by decide) (by decide) dX2_remember_36 ?_
    refine zr_alen (v := 8) X (Or.inr (Or.inl rfl)) rfl dX2_remember_39 ?_
    refine zr_mmin X zmm_X2_25 zms_min zmi zmc_min ⟨by decide, Nat.le_of_ble_eq_true rfl⟩ (by decide) dX2_remember_40 ?_
    refine zr_eq (x2 := (nI (min (U.length + 1) 8))) (zmin8 _ (by omega)) ?_
    refine zr_putI X zf_X2_22 rfl (Or.inl rfl) dX2_remember_43 ?_
    refine zr_aload0 X dX2_remember_46 ?_
    refine zr_getI X zf_X2_18 rfl dX2_remember_47 ?_
    refine zr_eq (x2 := (0 : Int32)) ((zput_nj (by decide)).trans (zput_eq)) ?_
    refine zr_if_lt (tgt := 78) X dX2_remember_50 (by decide) (fun h => absurd h (by decide)) (fun _ => ?_)
    refine zr_aload0 X dX2_remember_53 ?_
    refine zr_getI X zf_X2_18 rfl dX2_remember_54 ?_
    refine zr_eq (x2 := (0 : Int32)) ((zput_nj (by decide)).trans (zput_eq)) ?_
    refine zr_aload0 X dX2_remember_57 ?_
    refine zr_getR X zf_X2_11 rfl (by decide) (by decide) dX2_remember_58 ?_
    refine zr_alen (v := 8) X (Or.inr (Or.inl rfl)) rfl dX2_remember_61 ?_
    refine zr_icmp_ge (tgt := 78) X dX2_remember_62 (by decide) (fun h => absurd h (by decide)) (fun _ => ?_)
    refine zr_aload0 X dX2_remember_65 ?_
    refine zr_getR X zf_X2_11 rfl (by decide) (by decide) dX2_remember_66 ?_
    refine zr_aload0 X dX2_remember_69 ?_
    refine zr_getI X zf_X2_18 rfl dX2_remember_70 ?_
    refine zr_eq (x2 := (0 : Int32)) ((zput_nj (by decide)).trans (zput_eq)) ?_
    refine zr_aaldN (n := 0) X rfl rfl (by decide) (by decide) dX2_remember_73 ?_
    refine zr_aload1 X dX2_remember_74 ?_
    refine zr_callV1 (rm9 := zrm_X5_copyFrom) X hnt zm_X2_31 (by decide) (by decide) (by decide) (Nat.le_of_ble_eq_true rfl) dX2_remember_75 ?_
    refine zp_X5_copyFrom (S := S) (hR0.ag (lo := x + 139) (n := 1) (by repeat (first | exact zag.rf | assumption | refine zag.put ?_ (by omega) (by omega) | refine zag.tr ?_ (by assumption) (by omega) (by omega))) (by omega)) (by omega) ?_
    intro J1 hg2 hR3
    refine zr_vret X (by decide) (by decide) dX2_remember_78 ?_
    have hJ : zag I (zput (zput I (x + 139) 1 ((0 : Int32))) (x + 139) 2 ((nI (min (U.length + 1) 8)))) (x + 139) 2 := by repeat (first | exact zag.rf | assumption | refine zag.put ?_ (by omega) (by omega) | refine zag.tr ?_ (by assumption) (by omega) (by omega))
    refine k1 _ (zag.tr (hJ.wide (by omega) (by omega)) hg2 (by omega) (by omega)) ⟨0, by omega, (congrFun (hg2 (x + 139) (by omega)) 1).trans ((zput_nj (by decide)).trans (zput_eq) ), (congrFun (hg2 (x + 139) (by omega)) 2).trans ((zput_eq).trans (by rw [List.length_take, List.length_cons, Nat.min_comm])), by rw [List.length_take]; omega, zshift g1 g5 (by omega) hJ hg2 hR3⟩
  · skip
    refine zr_aload0 X dX2_remember_15 ?_
    refine zr_getI X zf_X2_18 rfl dX2_remember_16 ?_
    refine zr_eq (x2 := (nI nw)) (g2) ?_
    refine zr_iconst (v := (1 : Int32)) X dX2_remember_19 (by decide) ?_
    refine zr_iadd X dX2_remember_20 ?_
    refine zr_eq (x2 := (nI (nw + 1))) (nI_add (nw) (1)) ?_
    refine zr_goto (tgt := 25) X dX2_remember_21 (by decide) ?_
    refine zr_putI X zf_X2_18 rfl (Or.inl rfl) dX2_remember_25 ?_
    refine zr_aload0 X dX2_remember_28 ?_
    refine zr_aload0 X dX2_remember_29 ?_
    refine zr_getI X zf_X2_22 rfl dX2_remember_30 ?_
    refine zr_eq (x2 := (I (x + 139) 2)) ((zput_nj (by decide))) ?_
    refine zr_eq (x2 := (nI U.length)) (g3) ?_
    refine zr_iconst (v := (1 : Int32)) X dX2_remember_33 (by decide) ?_
    refine zr_iadd X dX2_remember_34 ?_
    refine zr_eq (x2 := (nI (U.length + 1))) (nI_add (U.length) (1)) ?_
    refine zr_aload0 X dX2_remember_35 ?_
    refine zr_getR X zf_X2_11 rfl (by decide) (by decide) dX2_remember_36 ?_
    refine zr_alen (v := 8) X (Or.inr (Or.inl rfl)) rfl dX2_remember_39 ?_
    refine zr_mmin X zmm_X2_25 zms_min zmi zmc_min ⟨by decide, Nat.le_of_ble_eq_true rfl⟩ (by decide) dX2_remember_40 ?_
    refine zr_eq (x2 := (nI (min (U.length + 1) 8))) (zmin8 _ (by omega)) ?_
    refine zr_putI X zf_X2_22 rfl (Or.inl rfl) dX2_remember_43 ?_
    refine zr_aload0 X dX2_remember_46 ?_
    refine zr_getI X zf_X2_18 rfl dX2_remember_47 ?_
    refine zr_eq (x2 := (nI (nw + 1))) ((zput_nj (by decide)).trans (zput_eq)) ?_
    refine zr_nif_lt X ((nw + 1)) (tgt := 78) (by omega) dX2_remember_50 (by decide) (fun h => h.elim) (fun _ => ?_)
    refine zr_aload0 X dX2_remember_53 ?_
    refine zr_getI X zf_X2_18 rfl dX2_remember_54 ?_
    refine zr_eq (x2 := (nI (nw + 1))) ((zput_nj (by decide)).trans (zput_eq)) ?_
    refine zr_aload0 X dX2_remember_57 ?_
    refine zr_getR X zf_X2_11 rfl (by decide) (by decide) dX2_remember_58 ?_
    refine zr_alen (v := 8) X (Or.inr (Or.inl rfl)) rfl dX2_remember_61 ?_
    refine zr_nicmp_ge X ((nw + 1)) (8) (tgt := 78) (by omega) (by omega) dX2_remember_62 (by decide) (fun h3 => ?_) (fun h3 => ?_)
    · exact absurd h3 (by omega)
    · skip
      refine zr_aload0 X dX2_remember_65 ?_
      refine zr_getR X zf_X2_11 rfl (by decide) (by decide) dX2_remember_66 ?_
      refine zr_aload0 X dX2_remember_69 ?_
      refine zr_getI X zf_X2_18 rfl dX2_remember_70 ?_
      refine zr_eq (x2 := (nI (nw + 1))) ((zput_nj (by decide)).trans (zput_eq)) ?_
      refine zr_aaldN X rfl rfl (by decide) (show _ < 8 from (by first | assumption | omega)) dX2_remember_73 ?_
      refine zr_aload1 X dX2_remember_74 ?_
      refine zr_callV1 (rm9 := zrm_X5_copyFrom) X hnt zm_X2_31 (by decide) (by decide) (by decide) (Nat.le_of_ble_eq_true rfl) dX2_remember_75 ?_
      refine zp_X5_copyFrom (S := S) (hR0.ag (lo := x + 139) (n := 1) (by repeat (first | exact zag.rf | assumption | refine zag.put ?_ (by omega) (by omega) | refine zag.tr ?_ (by assumption) (by omega) (by omega))) (by omega)) (by omega) ?_
      intro J4 hg5 hR6
      refine zr_vret X (by decide) (by decide) dX2_remember_78 ?_
      have hJ : zag I (zput (zput I (x + 139) 1 ((nI (nw + 1)))) (x + 139) 2 ((nI (min (U.length + 1) 8)))) (x + 139) 2 := by repeat (first | exact zag.rf | assumption | refine zag.put ?_ (by omega) (by omega) | refine zag.tr ?_ (by assumption) (by omega) (by omega))
      refine k1 _ (zag.tr (hJ.wide (by omega) (by omega)) hg5 (by omega) (by omega)) ⟨(nw + 1), by omega, (congrFun (hg5 (x + 139) (by omega)) 1).trans ((zput_nj (by decide)).trans (zput_eq) ), (congrFun (hg5 (x + 139) (by omega)) 2).trans ((zput_eq).trans (by rw [List.length_take, List.length_cons, Nat.min_comm])), by rw [List.length_take]; omega, zshift g1 g5 (by omega) hJ hg5 hR6⟩
