/-! ===== what the class answers: best gates, ranks, gaps, out in a panic ===== -/
abbrev zrm_X7_bestGate : Room := { frames := 9, cells := 1, slots := 6, locals := 140 }
/-- the gate with the shortest line on a side, among the first n: the gate, its line -/
def qBest (S : zS) (s : Nat) : Nat → Int32 × Nat
  | 0 => (-1, 11)
  | n + 1 => if qSv (sG S n 0) s ∧ (sL S n s).length < (qBest S s n).2 then (nI n, (sL S n s).length) else qBest S s n
theorem qBest_le {S : zS} {s : Nat} (hl : ∀ g, (sL S g s).length ≤ 10) : ∀ n, (qBest S s n).2 ≤ 11
  | 0 => Nat.le_refl _
  | n + 1 => by
    rw [qBest]
    split
    · have := hl n; show (sL S n s).length ≤ 11; omega
    · exact qBest_le hl n
def rBest (S : zS) (v : Int32) : Nat × Int32 := match vIdx v 2 with | none => (1, 0) | some s => (0, (qBest S s (zng S)).1)
set_option maxRecDepth 20000 in
theorem zl_X7_bestGate {l : Launch} {D : va_G} {b0 : Nat} {tA : Nat → ClassId} {sa sv : Nat → Nat} {K : zKt} {I : zI} {Qp : zI → Option AV → Prop} {Xp : String → zI → Prop} {p : Program} {e : Env} {s : State} {m : MethodId} {args : Array Value} {below : List Frame} {meth : Method} {c : Code} {F9 : zI} {x f : Nat} {t : Nat → Nat} {er : Int32} {S : zS} {U : List zS} {s9 : Nat}
    (X : zX p l e zrm_X7_bestGate s m args below meth c RX7 cX7_bestGate 6 (some .int) D b0 tA sa sv) (hnt : ∀ x ∈ c.exceptionTable.toList, False) (hC : zCl F9 I x t f er S U) (hs : s9 < 2) (k1 : Qp I (some (vi ((qBest S s9 (zng S)).1)))) :
    ∀ (n : Nat) (j : Nat) (b : Int32) (h : Nat), j ≤ zng S → (b, h) = qBest S s9 j → zng S - j < n → zG p l e zrm_X7_bestGate s m args below meth c 6 D b0 tA sa (0 + zrm_X7_requireSide.cells) (0 + zrm_X7_requireSide.slots) (zQ below D b0 tA sa K args s zrm_X7_bestGate Qp Xp) K 12 [some (vr (x) 7), some (vi ((nI s9))), some (vi (b)), some (vi ((nI h))), some (vi ((nI j))), none] [] I := by
  intro n
  induction n with
  | zero => intro j b h i1 i2 i3; exact absurd i3 (Nat.not_lt_zero _)
  | succ n ih =>
    intro j b h i1 i2 i3
    have hR := hC.2.2.1
    have hW := hC.2.2.2.1
    have hg6 := hW.ng.1
    have hc12 := hW.nc.1
    have hf5 := hC.1.2.1
    have hh9 : h ≤ 11 := by have := qBest_le (S := S) (s := s9) (fun g => hW.len g s9) j; rw [← i2] at this; exact this
    have hl90 := hW.len j 0
    have hl91 := hW.len j 1
    refine zr_iload4 X dX7_bestGate_12 ?_
    refine zr_aload0 X dX7_bestGate_14 ?_
    refine zr_getR X zf_X7_26 rfl (by decide) (by decide) dX7_bestGate_15 ?_
    refine zr_getI X zf_X7_75 rfl dX7_bestGate_18 ?_
    refine zr_eq (x2 := (sX S 4)) (hR.1 4 (by decide) (by decide)) ?_
    refine zr_eq (x2 := (nI (zng S))) (hW.ng.2) ?_
    refine zr_nicmp_ge X (j) ((zng S)) (tgt := 90) (by omega) (by omega) dX7_bestGate_21 (by decide) (fun h1 => ?_) (fun h1 => ?_)
    · skip
      refine zr_iload2 X dX7_bestGate_90 ?_
      refine zr_iret X (by decide) (by decide) dX7_bestGate_91 ?_
      have hj : j = zng S := by omega
      subst hj
      rw [← i2] at k1; exact k1
    · skip
      refine zr_iload4 X dX7_bestGate_24 ?_
      refine zr_aload0 X dX7_bestGate_26 ?_
      refine zr_getR X zf_X7_26 rfl (by decide) (by decide) dX7_bestGate_27 ?_
      refine zr_getR X zf_X7_98 rfl (by decide) (by decide) dX7_bestGate_30 ?_
      refine zr_alen (v := 6) X (Or.inr (Or.inl rfl)) rfl dX7_bestGate_33 ?_
      refine zr_nicmp_ge X (j) (6) (tgt := 90) (by omega) (by omega) dX7_bestGate_34 (by decide) (fun h2 => ?_) (fun h2 => ?_)
      · exact absurd h2 (by omega)
      · skip
        refine zr_aload0 X dX7_bestGate_37 ?_
        refine zr_getR X zf_X7_26 rfl (by decide) (by decide) dX7_bestGate_38 ?_
        refine zr_getR X zf_X7_98 rfl (by decide) (by decide) dX7_bestGate_41 ?_
        refine zr_iload4 X dX7_bestGate_44 ?_
        refine zr_aaldN X rfl rfl (by decide) (show _ < 6 from (by first | assumption | omega)) dX7_bestGate_46 ?_
        refine zr_astore5 X (by decide) rfl dX7_bestGate_47 ?_
        refine zr_aload5 X dX7_bestGate_49 ?_
        refine zr_iload1 X dX7_bestGate_51 ?_
        refine zr_callV1 (rm9 := zrm_X1_serves) X hnt zm_X7_151 (by decide) (by decide) (by decide) (Nat.le_of_ble_eq_true rfl) dX7_bestGate_52 ?_
        refine zn_X1_serves (s9 := s9) hR (by omega) hs ?_ ?_
        · skip
          intro hv3
          refine zr_if_eq (tgt := 84) X dX7_bestGate_55 (by decide) (fun h => absurd h (by decide)) (fun _ => ?_)
          refine zr_aload5 X dX7_bestGate_58 ?_
          refine zr_iload1 X dX7_bestGate_60 ?_
          refine zr_callV1 (rm9 := zrm_X1_lineOn) X hnt zm_X7_117 (by decide) (by decide) (by decide) (Nat.le_of_ble_eq_true rfl) dX7_bestGate_61 ?_
          refine zn_X1_lineOn (s9) (by omega) (fun hs4 => ?_) (fun hs4 => ?_)
          · skip
            refine zr_getI X zf_X7_154 rfl dX7_bestGate_64 ?_
            refine zr_eq (x2 := (nI ((sL S j 0).length))) ((hR.2.2.1 j (by omega)).2.1.1) ?_
            refine zr_iload3 X dX7_bestGate_67 ?_
            refine zr_nicmp_ge X (((sL S j 0).length)) (h) (tgt := 84) (by omega) (by omega) dX7_bestGate_68 (by decide) (fun h5 => ?_) (fun h5 => ?_)
            · skip
              refine zr_iinc4 (v := (nI (j + 1))) X (show nI (j) + Int32.ofInt 1 = nI (j + 1) from nI_1 (j)) (by decide) rfl dX7_bestGate_84 ?_
              refine zr_goto (tgt := 12) X dX7_bestGate_87 (by decide) ?_
              refine zr_forget (lv2 := [some (vr (x) 7), some (vi ((nI s9))), some (vi (b)), some (vi ((nI h))), some (vi ((nI (j + 1)))), none]) (fun j9 v9 h9 => by rcases j9 with _ | _ | _ | _ | _ | _ | _ | j9 <;> first | exact h9 | (simp at h9)) ?_
              refine ih (j + 1) _ _ (by omega) ?_ (by omega)
              rw [qBest, ← i2]
              first | (rw [if_pos ⟨by assumption, by show (sL S j s9).length < h; subst_vars; omega⟩]; subst_vars; rfl) | (rw [if_neg (fun z => by first | exact absurd z.1 (by assumption) | (have z2 : (sL S j s9).length < h := z.2; subst_vars; omega))])
            · skip
              refine zr_iload4 X dX7_bestGate_71 ?_
              refine zr_istore2 X (by decide) rfl dX7_bestGate_73 ?_
              refine zr_aload5 X dX7_bestGate_74 ?_
              refine zr_iload1 X dX7_bestGate_76 ?_
              refine zr_callV1 (rm9 := zrm_X1_lineOn) X hnt zm_X7_117 (by decide) (by decide) (by decide) (Nat.le_of_ble_eq_true rfl) dX7_bestGate_77 ?_
              refine zn_X1_lineOn (s9) (by omega) (fun _ => ?_) (fun h => absurd h (by omega))
              refine zr_getI X zf_X7_154 rfl dX7_bestGate_80 ?_
              refine zr_eq (x2 := (nI ((sL S j 0).length))) ((hR.2.2.1 j (by omega)).2.1.1) ?_
              refine zr_istore3 X (by decide) rfl dX7_bestGate_83 ?_
              refine zr_iinc4 (v := (nI (j + 1))) X (show nI (j) + Int32.ofInt 1 = nI (j + 1) from nI_1 (j)) (by decide) rfl dX7_bestGate_84 ?_
              refine zr_goto (tgt := 12) X dX7_bestGate_87 (by decide) ?_
              refine zr_forget (lv2 := [some (vr (x) 7), some (vi ((nI s9))), some (vi ((nI j))), some (vi ((nI ((sL S j 0).length)))), some (vi ((nI (j + 1)))), none]) (fun j9 v9 h9 => by rcases j9 with _ | _ | _ | _ | _ | _ | _ | j9 <;> first | exact h9 | (simp at h9)) ?_
              refine ih (j + 1) _ _ (by omega) ?_ (by omega)
              rw [qBest, ← i2]
              first | (rw [if_pos ⟨by assumption, by show (sL S j s9).length < h; subst_vars; omega⟩]; subst_vars; rfl) | (rw [if_neg (fun z => by first | exact absurd z.1 (by assumption) | (have z2 : (sL S j s9).length < h := z.2; subst_vars; omega))])
          · skip
            refine zr_getI X zf_X7_154 rfl dX7_bestGate_64 ?_
            refine zr_eq (x2 := (nI ((sL S j 1).length))) ((hR.2.2.1 j (by omega)).2.2.1) ?_
            refine zr_iload3 X dX7_bestGate_67 ?_
            refine zr_nicmp_ge X (((sL S j 1).length)) (h) (tgt := 84) (by omega) (by omega) dX7_bestGate_68 (by decide) (fun h7 => ?_) (fun h7 => ?_)
            · skip
              refine zr_iinc4 (v := (nI (j + 1))) X (show nI (j) + Int32.ofInt 1 = nI (j + 1) from nI_1 (j)) (by decide) rfl dX7_bestGate_84 ?_
              refine zr_goto (tgt := 12) X dX7_bestGate_87 (by decide) ?_
              refine zr_forget (lv2 := [some (vr (x) 7), some (vi ((nI s9))), some (vi (b)), some (vi ((nI h))), some (vi ((nI (j + 1)))), none]) (fun j9 v9 h9 => by rcases j9 with _ | _ | _ | _ | _ | _ | _ | j9 <;> first | exact h9 | (simp at h9)) ?_
              refine ih (j + 1) _ _ (by omega) ?_ (by omega)
              rw [qBest, ← i2]
              first | (rw [if_pos ⟨by assumption, by show (sL S j s9).length < h; subst_vars; omega⟩]; subst_vars; rfl) | (rw [if_neg (fun z => by first | exact absurd z.1 (by assumption) | (have z2 : (sL S j s9).length < h := z.2; subst_vars; omega))])
            · skip
              refine zr_iload4 X dX7_bestGate_71 ?_
              refine zr_istore2 X (by decide) rfl dX7_bestGate_73 ?_
              refine zr_aload5 X dX7_bestGate_74 ?_
              refine zr_iload1 X dX7_bestGate_76 ?_
              refine zr_callV1 (rm9 := zrm_X1_lineOn) X hnt zm_X7_117 (by decide) (by decide) (by decide) (Nat.le_of_ble_eq_true rfl) dX7_bestGate_77 ?_
              refine zn_X1_lineOn (s9) (by omega) (fun h => absurd h (by omega)) (fun _ => ?_)
              refine zr_getI X zf_X7_154 rfl dX7_bestGate_80 ?_
              refine zr_eq (x2 := (nI ((sL S j 1).length))) ((hR.2.2.1 j (by omega)).2.2.1) ?_
              refine zr_istore3 X (by decide) rfl dX7_bestGate_83 ?_
              refine zr_iinc4 (v := (nI (j + 1))) X (show nI (j) + Int32.ofInt 1 = nI (j + 1) from nI_1 (j)) (by decide) rfl dX7_bestGate_84 ?_
              refine zr_goto (tgt := 12) X dX7_bestGate_87 (by decide) ?_
              refine zr_forget (lv2 := [some (vr (x) 7), some (vi ((nI s9))), some (vi ((nI j))), some (vi ((nI ((sL S j 1).length)))), some (vi ((nI (j + 1)))), none]) (fun j9 v9 h9 => by rcases j9 with _ | _ | _ | _ | _ | _ | _ | j9 <;> first | exact h9 | (simp at h9)) ?_
              refine ih (j + 1) _ _ (by omega) ?_ (by omega)
              rw [qBest, ← i2]
              first | (rw [if_pos ⟨by assumption, by show (sL S j s9).length < h; subst_vars; omega⟩]; subst_vars; rfl) | (rw [if_neg (fun z => by first | exact absurd z.1 (by assumption) | (have z2 : (sL S j s9).length < h := z.2; subst_vars; omega))])
        · skip
          intro hv3
          refine zr_if_eq (tgt := 84) X dX7_bestGate_55 (by decide) (fun _ => ?_) (fun h => absurd h (by decide))
          refine zr_iinc4 (v := (nI (j + 1))) X (show nI (j) + Int32.ofInt 1 = nI (j + 1) from nI_1 (j)) (by decide) rfl dX7_bestGate_84 ?_
          refine zr_goto (tgt := 12) X dX7_bestGate_87 (by decide) ?_
          refine zr_forget (lv2 := [some (vr (x) 7), some (vi ((nI s9))), some (vi (b)), some (vi ((nI h))), some (vi ((nI (j + 1)))), none]) (fun j9 v9 h9 => by rcases j9 with _ | _ | _ | _ | _ | _ | _ | j9 <;> first | exact h9 | (simp at h9)) ?_
          refine ih (j + 1) _ _ (by omega) ?_ (by omega)
          rw [qBest, ← i2]
          first | (rw [if_pos ⟨by assumption, by show (sL S j s9).length < h; subst_vars; omega⟩]; subst_vars; rfl) | (rw [if_neg (fun z => by first | exact absurd z.1 (by assumption) | (have z2 : (sL S j s9).length < h := z.2; subst_vars; omega))])
set_option maxRecDepth 20000 in
theorem zo_X7_bestGate {l : Launch} {D : va_G} {b0 : Nat} {tA : Nat → ClassId} {sa sv : Nat → Nat} {K : zKt} {I : zI} {Qp : zI → Option AV → Prop} {Xp : String → zI → Prop} {F9 : zI} {x f : Nat} {t : Nat → Nat} {er : Int32} {S : zS} {U : List zS} {s9 : Nat}
    (hC : zCl F9 I x t f er S U) (hs : s9 < 2) (k1 : Qp I (some (vi ((qBest S s9 (zng S)).1)))) :
    zC l D b0 tA sa sv K yX7_bestGate (.code yX7_bestGate cX7_bestGate 6 (some .int)) zrm_X7_bestGate [vr (x) 7, vi ((nI s9))] I Qp Xp := by
  have hR := hC.2.2.1
  have hW := hC.2.2.2.1
  have hg6 := hW.ng.1
  have hc12 := hW.nc.1
  have hf5 := hC.1.2.1
  refine zC_of (by decide +kernel) (Nat.le_of_ble_eq_true rfl) ?_
  intro p e s m args below meth c X hnt
  have X : zX p l e zrm_X7_bestGate s m args below meth c RX7 cX7_bestGate 6 (some .int) D b0 tA sa sv := X
  refine zr_lv (lv2 := [some (vr (x) 7), some (vi ((nI s9))), none, none, none, none]) rfl ?_
  refine zr_iload1 X dX7_bestGate_0 ?_
  refine zr_callS1 (rm9 := zrm_X7_requireSide) X hnt zm_X7_114 (by decide) (by decide) (by decide) (Nat.le_of_ble_eq_true rfl) dX7_bestGate_1 ?_
  refine zo_X7_requireSide hs ?_
  refine zr_iconst (v := (-1 : Int32)) X dX7_bestGate_4 (by decide) ?_
  refine zr_istore2 X (by decide) rfl dX7_bestGate_5 ?_
  refine zr_bipush (v := (11 : Int32)) X dX7_bestGate_6 (by decide) ?_
  refine zr_istore3 X (by decide) rfl dX7_bestGate_8 ?_
  refine zr_iconst (v := (0 : Int32)) X dX7_bestGate_9 (by decide) ?_
  refine zr_istore4 X (by decide) rfl dX7_bestGate_10 ?_
  exact zl_X7_bestGate X hnt hC hs k1 (zng S + 1) 0 _ 11 (by omega) rfl (by omega)
set_option maxRecDepth 20000 in
theorem zx_X7_bestGate {l : Launch} {D : va_G} {b0 : Nat} {tA : Nat → ClassId} {sa sv : Nat → Nat} {K : zKt} {I : zI} {Qp : zI → Option AV → Prop} {Xp : String → zI → Prop} {F9 : zI} {x f : Nat} {t : Nat → Nat} {er : Int32} {S : zS} {U : List zS} {v : Int32}
    (hC : zCl F9 I x t f er S U) (hb : vIdx v (2) = none) (kx : Xp "java/lang/IllegalArgumentException" I) :
    zC l D b0 tA sa sv K yX7_bestGate (.code yX7_bestGate cX7_bestGate 6 (some .int)) zrm_X7_bestGate [vr (x) 7, vi (v)] I Qp Xp := by
  have hR := hC.2.2.1
  have hW := hC.2.2.2.1
  have hg6 := hW.ng.1
  have hc12 := hW.nc.1
  have hf5 := hC.1.2.1
  refine zC_of (by decide +kernel) (Nat.le_of_ble_eq_true rfl) ?_
  intro p e s m args below meth c X hnt
  have X : zX p l e zrm_X7_bestGate s m args below meth c RX7 cX7_bestGate 6 (some .int) D b0 tA sa sv := X
  refine zr_lv (lv2 := [some (vr (x) 7), some (vi (v)), none, none, none, none]) rfl ?_
  refine zr_iload1 X dX7_bestGate_0 ?_
  refine zr_callS1 (rm9 := zrm_X7_requireSide) X hnt zm_X7_114 (by decide) (by decide) (by decide) (Nat.le_of_ble_eq_true rfl) dX7_bestGate_1 ?_
  exact zx_X7_requireSide hb kx
theorem zq_X7_bestGate {l : Launch} {D : va_G} {b0 : Nat} {tA : Nat → ClassId} {sa sv : Nat → Nat} {K : zKt} {I : zI} {Qp : zI → Option AV → Prop} {Xp : String → zI → Prop} {F9 : zI} {x f : Nat} {t : Nat → Nat} {er : Int32} {S : zS} {U : List zS} {v : Int32}
    (hC : zCl F9 I x t f er S U) (k0 : (rBest S v).1 = 0 → Qp I (some (vi (rBest S v).2))) (kx1 : (rBest S v).1 = 1 → Xp "java/lang/IllegalArgumentException" I) :
    zC l D b0 tA sa sv K yX7_bestGate (.code yX7_bestGate cX7_bestGate 6 (some .int)) zrm_X7_bestGate [vr (x) 7, vi (v)] I Qp Xp := by
  unfold rBest at k0 kx1
  cases e1 : vIdx v 2 with
  | none => rw [e1] at kx1; exact zx_X7_bestGate hC e1 (kx1 rfl)
  | some L =>
    rw [e1] at k0
    obtain ⟨h1, rfl⟩ := vIdx_some e1
    exact zo_X7_bestGate hC h1 (k0 rfl)
abbrev zrm_X7_ranked : Room := { frames := 8, cells := 1, slots := 6, locals := 120 }
def qRank (S : zS) (v : Int32) : Option Nat := (List.range (zng S)).find? (fun g => decide (nI (qAhead S g) = v))
def rRank (S : zS) (v : Int32) : Nat × Int32 := match qRank S v with | none => (1, 0) | some g => (0, nI g)
theorem qRank_is {S : zS} {v : Int32} {g : Nat} (hg : g < zng S) (h : nI (qAhead S g) = v) (hf : ∀ i, i < g → ¬ nI (qAhead S i) = v) : qRank S v = some g := by
  unfold qRank
  rw [List.find?_range_eq_some]
  refine ⟨decide_eq_true h, List.mem_range.mpr hg, fun i hi => ?_⟩
  simp [hf i hi]
theorem qRank_no {S : zS} {v : Int32} (hf : ∀ i, i < zng S → ¬ nI (qAhead S i) = v) : qRank S v = none := by
  unfold qRank
  rw [List.find?_eq_none]
  intro i hi
  simp [hf i (List.mem_range.mp hi)]
set_option maxRecDepth 20000 in
theorem zl_X7_ranked {l : Launch} {D : va_G} {b0 : Nat} {tA : Nat → ClassId} {sa sv : Nat → Nat} {K : zKt} {I : zI} {Qp : zI → Option AV → Prop} {Xp : String → zI → Prop} {p : Program} {e : Env} {s : State} {m : MethodId} {args : Array Value} {below : List Frame} {meth : Method} {c : Code} {F9 : zI} {x f : Nat} {t : Nat → Nat} {er : Int32} {S : zS} {U : List zS} {v : Int32}
    (X : zX p l e zrm_X7_ranked s m args below meth c RX7 cX7_ranked 3 (some .int) D b0 tA sa sv) (hnt : ∀ x ∈ c.exceptionTable.toList, False) (hC : zCl F9 I x t f er S U) (k0 : ∀ g, qRank S v = some g → Qp I (some (vi (nI g)))) (kx : qRank S v = none → Xp "java/util/NoSuchElementException" I) :
    ∀ (n : Nat) (j : Nat), j ≤ zng S → (∀ i, i < j → ¬ nI (qAhead S i) = v) → zng S - j < n → zG p l e zrm_X7_ranked s m args below meth c 3 D b0 tA sa 0 0 (zQ below D b0 tA sa K args s zrm_X7_ranked Qp Xp) K 2 [some (vr (x) 7), some (vi (v)), some (vi ((nI j)))] [] I := by
  intro n
  induction n with
  | zero => intro j i1 i2 i3; exact absurd i3 (Nat.not_lt_zero _)
  | succ n ih =>
    intro j i1 i2 i3
    have hR := hC.2.2.1
    have hW := hC.2.2.2.1
    have hg6 := hW.ng.1
    have hc12 := hW.nc.1
    have hf5 := hC.1.2.1
    refine zr_iload2 X dX7_ranked_2 ?_
    refine zr_aload0 X dX7_ranked_3 ?_
    refine zr_getR X zf_X7_26 rfl (by decide) (by decide) dX7_ranked_4 ?_
    refine zr_getI X zf_X7_75 rfl dX7_ranked_7 ?_
    refine zr_eq (x2 := (sX S 4)) (hR.1 4 (by decide) (by decide)) ?_
    refine zr_eq (x2 := (nI (zng S))) (hW.ng.2) ?_
    refine zr_nicmp_ge X (j) ((zng S)) (tgt := 45) (by omega) (by omega) dX7_ranked_10 (by decide) (fun h1 => ?_) (fun h1 => ?_)
    · skip
      refine zr_throwN (i := 28) X hnt zth_nse rfl dX7_ranked_45 dX7_ranked_48 dX7_ranked_49 dX7_ranked_51 dX7_ranked_54 ⟨by decide, by decide⟩ (Nat.le_of_ble_eq_true rfl) (by decide) (by decide) ?_
      exact kx (qRank_no (fun i hi => i2 i (by omega)))
    · skip
      refine zr_iload2 X dX7_ranked_13 ?_
      refine zr_aload0 X dX7_ranked_14 ?_
      refine zr_getR X zf_X7_26 rfl (by decide) (by decide) dX7_ranked_15 ?_
      refine zr_getR X zf_X7_98 rfl (by decide) (by decide) dX7_ranked_18 ?_
      refine zr_alen (v := 6) X (Or.inr (Or.inl rfl)) rfl dX7_ranked_21 ?_
      refine zr_nicmp_ge X (j) (6) (tgt := 45) (by omega) (by omega) dX7_ranked_22 (by decide) (fun h2 => ?_) (fun h2 => ?_)
      · exact absurd h2 (by omega)
      · skip
        refine zr_aload0 X dX7_ranked_25 ?_
        refine zr_getR X zf_X7_26 rfl (by decide) (by decide) dX7_ranked_26 ?_
        refine zr_iload2 X dX7_ranked_29 ?_
        refine zr_callV1 (rm9 := zrm_X5_gatesAheadOf) X hnt zm_X7_192 (by decide) (by decide) (by decide) (Nat.le_of_ble_eq_true rfl) dX7_ranked_30 ?_
        refine zp_X5_gatesAheadOf hR hW (by omega) ?_
        refine zr_iload1 X dX7_ranked_33 ?_
        refine zr_icmp_ne (tgt := 39) X dX7_ranked_34 (by decide) (fun h3 => ?_) (fun h3 => ?_)
        · skip
          refine zr_iinc2 (v := (nI (j + 1))) X (show nI (j) + Int32.ofInt 1 = nI (j + 1) from nI_1 (j)) (by decide) rfl dX7_ranked_39 ?_
          refine zr_goto (tgt := 2) X dX7_ranked_42 (by decide) ?_
          exact ih (j + 1) (by omega) (fun i hi => by rcases Nat.lt_succ_iff_lt_or_eq.mp hi with q | rfl; exact i2 i q; assumption) (by omega)
        · skip
          refine zr_iload2 X dX7_ranked_37 ?_
          refine zr_iret X (by decide) (by decide) dX7_ranked_38 ?_
          exact k0 j (qRank_is (by omega) (by assumption) i2)
set_option maxRecDepth 20000 in
theorem zo_X7_ranked {l : Launch} {D : va_G} {b0 : Nat} {tA : Nat → ClassId} {sa sv : Nat → Nat} {K : zKt} {I : zI} {Qp : zI → Option AV → Prop} {Xp : String → zI → Prop} {F9 : zI} {x f : Nat} {t : Nat → Nat} {er : Int32} {S : zS} {U : List zS} {v : Int32}
    (hC : zCl F9 I x t f er S U) (k0 : ∀ g, qRank S v = some g → Qp I (some (vi (nI g)))) (kx : qRank S v = none → Xp "java/util/NoSuchElementException" I) :
    zC l D b0 tA sa sv K yX7_ranked (.code yX7_ranked cX7_ranked 3 (some .int)) zrm_X7_ranked [vr (x) 7, vi (v)] I Qp Xp := by
  have hR := hC.2.2.1
  have hW := hC.2.2.2.1
  have hg6 := hW.ng.1
  have hc12 := hW.nc.1
  have hf5 := hC.1.2.1
  refine zC_of (by decide +kernel) (Nat.le_of_ble_eq_true rfl) ?_
  intro p e s m args below meth c X hnt
  have X : zX p l e zrm_X7_ranked s m args below meth c RX7 cX7_ranked 3 (some .int) D b0 tA sa sv := X
  refine zr_lv (lv2 := [some (vr (x) 7), some (vi (v)), none]) rfl ?_
  refine zr_iconst (v := (0 : Int32)) X dX7_ranked_0 (by decide) ?_
  refine zr_istore2 X (by decide) rfl dX7_ranked_1 ?_
  exact zl_X7_ranked X hnt hC k0 kx (zng S + 1) 0 (by omega) (fun i hi => absurd hi (Nat.not_lt_zero _)) (by omega)
theorem zq_X7_ranked {l : Launch} {D : va_G} {b0 : Nat} {tA : Nat → ClassId} {sa sv : Nat → Nat} {K : zKt} {I : zI} {Qp : zI → Option AV → Prop} {Xp : String → zI → Prop} {F9 : zI} {x f : Nat} {t : Nat → Nat} {er : Int32} {S : zS} {U : List zS} {v : Int32}
    (hC : zCl F9 I x t f er S U) (k0 : (rRank S v).1 = 0 → Qp I (some (vi (rRank S v).2))) (kx1 : (rRank S v).1 = 1 → Xp "java/util/NoSuchElementException" I) :
    zC l D b0 tA sa sv K yX7_ranked (.code yX7_ranked cX7_ranked 3 (some .int)) zrm_X7_ranked [vr (x) 7, vi (v)] I Qp Xp := by
  unfold rRank at k0 kx1
  refine zo_X7_ranked hC (fun g e => ?_) (fun e => ?_)
  · rw [e] at k0; exact k0 rfl
  · rw [e] at kx1; exact kx1 rfl
def qGapE (S : zS) : Int32 := sX S 9 - sX S 10 - sX S 15 - sX S 3
def qGap (S : zS) : Int32 := (if 0 ≤ qGapE S then qGapE S else 0 - qGapE S) + nI (qUnserved S)
abbrev zrm_X7_gap : Room := { frames := 3, cells := 0, slots := 0, locals := 68 }
set_option maxRecDepth 20000 in
theorem zq_X7_gap {l : Launch} {D : va_G} {b0 : Nat} {tA : Nat → ClassId} {sa sv : Nat → Nat} {K : zKt} {I : zI} {Qp : zI → Option AV → Prop} {Xp : String → zI → Prop} {F9 : zI} {x f : Nat} {t : Nat → Nat} {er : Int32} {S : zS} {U : List zS}
    (hC : zCl F9 I x t f er S U) (k1 : Qp I (some (vi (qGap S)))) :
    zC l D b0 tA sa sv K yX7_gap (.code yX7_gap cX7_gap 2 (some .int)) zrm_X7_gap [vr (x) 7] I Qp Xp := by
  have hR := hC.2.2.1
  have hW := hC.2.2.2.1
  have hg6 := hW.ng.1
  have hc12 := hW.nc.1
  have hf5 := hC.1.2.1
  refine zC_of (by decide +kernel) (Nat.le_of_ble_eq_true rfl) ?_
  intro p e s m args below meth c X hnt
  have X : zX p l e zrm_X7_gap s m args below meth c RX7 cX7_gap 2 (some .int) D b0 tA sa sv := X
  refine zr_lv (lv2 := [some (vr (x) 7), none]) rfl ?_
  refine zr_aload0 X dX7_gap_0 ?_
  refine zr_getR X zf_X7_26 rfl (by decide) (by decide) dX7_gap_1 ?_
  refine zr_getI X zf_X7_197 rfl dX7_gap_4 ?_
  refine zr_eq (x2 := (sX S 9)) (hR.1 9 (by decide) (by decide)) ?_
  refine zr_aload0 X dX7_gap_7 ?_
  refine zr_getR X zf_X7_26 rfl (by decide) (by decide) dX7_gap_8 ?_
  refine zr_getI X zf_X7_200 rfl dX7_gap_11 ?_
  refine zr_eq (x2 := (sX S 10)) (hR.1 10 (by decide) (by decide)) ?_
  refine zr_isub X dX7_gap_14 ?_
  refine zr_aload0 X dX7_gap_15 ?_
  refine zr_getR X zf_X7_26 rfl (by decide) (by decide) dX7_gap_16 ?_
  refine zr_getI X zf_X7_203 rfl dX7_gap_19 ?_
  refine zr_eq (x2 := (sX S 15)) (hR.1 15 (by decide) (by decide)) ?_
  refine zr_isub X dX7_gap_22 ?_
  refine zr_aload0 X dX7_gap_23 ?_
  refine zr_getR X zf_X7_26 rfl (by decide) (by decide) dX7_gap_24 ?_
  refine zr_getI X zf_X7_174 rfl dX7_gap_27 ?_
  refine zr_eq (x2 := (sX S 3)) (hR.1 3 (by decide) (by decide)) ?_
  refine zr_isub X dX7_gap_30 ?_
  refine zr_istore1 X (by decide) rfl dX7_gap_31 ?_
  refine zr_iload1 X dX7_gap_32 ?_
  refine zr_mabs X zmm_X7_206 zms_abs zmi zmc_abs ⟨by decide, Nat.le_of_ble_eq_true rfl⟩ (by decide) dX7_gap_33 ?_
  refine zr_aload0 X dX7_gap_36 ?_
  refine zr_getR X zf_X7_26 rfl (by decide) (by decide) dX7_gap_37 ?_
  refine zr_callV0 (rm9 := zrm_X5_cardsInTwoLines) X hnt zm_X7_209 (by decide) (by decide) (by decide) (Nat.le_of_ble_eq_true rfl) dX7_gap_40 ?_
  refine zp_X5_cardsInTwoLines hR hW ?_
  refine zr_iadd X dX7_gap_43 ?_
  refine zr_aload0 X dX7_gap_44 ?_
  refine zr_getR X zf_X7_26 rfl (by decide) (by decide) dX7_gap_45 ?_
  refine zr_callV0 (rm9 := zrm_X5_peopleNotServed) X hnt zm_X7_212 (by decide) (by decide) (by decide) (Nat.le_of_ble_eq_true rfl) dX7_gap_48 ?_
  refine zp_X5_peopleNotServed hR hW ?_
  refine zr_iadd X dX7_gap_51 ?_
  refine zr_iret X (by decide) (by decide) dX7_gap_52 ?_
  rw [show ∀ y : Int32, y + nI 0 = y from fun y => Int32.add_zero y]; exact k1
