/-! ===== the class reads a whole text, and keeps it ===== -/
abbrev zrm_X7_load : Room := { frames := 9, cells := 1, slots := 6, locals := 223 }
theorem zRw.on {I I' : zI} {r : Nat} {S : zS} (h : zRw I r S) (e : ∀ q, r ≤ q → q < r + 45 → I' q = I q) : zRw I' r S := by
  refine ⟨fun i h1 h2 => by rw [e r (by omega) (by omega)]; exact h.1 i h1 h2, by rw [e r (by omega) (by omega)]; exact h.2.1, fun g hg => ?_, fun c hc => ?_⟩
  · obtain ⟨g1, g2, g3⟩ := h.2.2.1 g hg
    exact ⟨by rw [e _ (by omega) (by omega)]; exact g1, g2.kept (e _ (by omega) (by omega)) (e _ (by omega) (by omega)), g3.kept (e _ (by omega) (by omega)) (e _ (by omega) (by omega))⟩
  · have g1 := h.2.2.2 c hc
    unfold zCd at g1 ⊢
    rw [e _ (by omega) (by omega)]; exact g1
theorem zRg.on {I I' : zI} {x : Nat} {U : List zS} (h : zRg I x U) (e : ∀ q, x + 139 ≤ q → q < x + 501 → I' q = I q) : zRg I' x U := by
  obtain ⟨nw, h1, h2, h3, h4, h5⟩ := h
  refine ⟨nw, h1, by rw [e _ (by omega) (by omega)]; exact h2, by rw [e _ (by omega) (by omega)]; exact h3, h4, fun i u hu => (h5 i u hu).on (fun q h6 h7 => ?_)⟩
  have : (nw + 8 - i) % 8 < 8 := Nat.mod_lt _ (by decide)
  exact e q (by omega) (by omega)
/-- what the reading of a text leaves of the class -/
theorem zCl_read {F I J : zI} {x f : Nat} {t : Nat → Nat} {er e2 : Int32} {S : zS} {U : List zS} (h : zCl F I x t f er S U) (g : zfr I J x) : zCl F (zput (zput J (x + 1) 1 0) x 6 e2) x t 0 e2 S U := by
  have e : ∀ q, q ≠ x → q ≠ x + 1 → q ≠ x + 3 → (q < x + 94 ∨ x + 139 ≤ q) → zput (zput J (x + 1) 1 0) x 6 e2 q = I q := fun q h0 h1 h2 h3 => (zput_nq h0).trans ((zput_nq h1).trans (g q h1 h2 h3))
  obtain ⟨h1, h2, h3, h4, ⟨h5, h6⟩, h7, h8⟩ := h
  refine ⟨⟨(zput_ne (by omega)).trans zput_eq, Nat.zero_le _, h1.2.2.1, fun k hk => absurd hk (Nat.not_lt_zero _)⟩, zput_eq, h3.on (fun q a b => e q (by omega) (by omega) (by omega) (by omega)), h4, ⟨h5.on (fun q a b => e q (by omega) (by omega) (by omega) (by omega)), fun q hq => (e q (by omega) (by omega) (by omega) (by omega)).trans (h6 q hq)⟩, h7.on (fun q a b => e q (by omega) (by omega) (by omega) (by omega)), h8⟩
set_option maxRecDepth 20000 in
theorem zo_X7_load {l : Launch} {D : va_G} {b0 : Nat} {tA : Nat → ClassId} {sa sv : Nat → Nat} {K : zKt} {I : zI} {Qp : zI → Option AV → Prop} {Xp : String → zI → Prop} {F9 : zI} {x f n9 : Nat} {t : Nat → Nat} {er : Int32} {S : zS} {U : List zS}
    (hC : zCl F9 I x t f er S U) (hL : n9 ≤ f) (k1 : ∀ (J : zI) (p2 : Nat) (S2 : zS), pLoad t n9 = .inr (p2, S2) → zCl F9 J x t 0 (-1) S2 (qPush S U) → Qp J (some (vi (sX S2 4)))) (k2 : ∀ (J : zI) (e : Int32 × Nat), pLoad t n9 = .inl e → zCl F9 J x t 0 (nI e.2) S U → Qp J (some (vi e.1))) :
    zC l D b0 tA sa sv K yX7_load (.code yX7_load cX7_load 3 (some .int)) zrm_X7_load [vr (x) 7, vi ((nI n9))] I Qp Xp := by
  have hf5 := hC.1.2.1
  refine zC_of (by decide +kernel) (Nat.le_of_ble_eq_true rfl) ?_
  intro p e s m args below meth c X hnt
  have X : zX p l e zrm_X7_load s m args below meth c RX7 cX7_load 3 (some .int) D b0 tA sa sv := X
  refine zr_lv (lv2 := [some (vr (x) 7), some (vi ((nI n9))), none]) rfl ?_
  refine zr_aload0 X dX7_load_0 ?_
  refine zr_iload1 X dX7_load_1 ?_
  refine zr_callV1 (rm9 := zrm_X7_requireBuffered) X hnt zm_X7_54 (by decide) (by decide) (by decide) (Nat.le_of_ble_eq_true rfl) dX7_load_2 ?_
  refine zo_X7_requireBuffered hC hL ?_
  refine zr_aload0 X dX7_load_5 ?_
  refine zr_getR X zf_X7_33 rfl (by decide) (by decide) dX7_load_6 ?_
  refine zr_aload0 X dX7_load_9 ?_
  refine zr_getR X zf_X7_30 rfl (by decide) (by decide) dX7_load_10 ?_
  refine zr_callV1 (rm9 := zrm_X5_copyFrom) X hnt zm_X7_57 (by decide) (by decide) (by decide) (Nat.le_of_ble_eq_true rfl) dX7_load_13 ?_
  refine zp_X5_copyFrom (S := zBlank) hC.2.2.2.2.1.1 (by omega) ?_
  intro J1 hg1 hR1; have hF1 : zfr I J1 x := zfr.rf.ag hg1 (by omega); have hB1 := hC.1.ag hg1 (by omega)
  refine zr_aload0 X dX7_load_16 ?_
  refine zr_getR X zf_X7_10 rfl (by decide) (by decide) dX7_load_17 ?_
  refine zr_iload1 X dX7_load_20 ?_
  refine zr_callV1 (rm9 := zrm_X3_beginText) X hnt zm_X7_61 (by decide) (by decide) (by decide) (Nat.le_of_ble_eq_true rfl) dX7_load_21 ?_
  refine zp_X3_beginText hB1 hL ?_
  intro J2 hg2 hB2 hT2; have hF2 : zfr I J2 x := hF1.ag hg2 (by omega); have hR2 := hR1.ag hg2 (by omega)
  refine zr_aload0 X dX7_load_24 ?_
  refine zr_getR X zf_X7_19 rfl (by decide) (by decide) dX7_load_25 ?_
  refine zr_aload0 X dX7_load_28 ?_
  refine zr_getR X zf_X7_10 rfl (by decide) (by decide) dX7_load_29 ?_
  refine zr_aload0 X dX7_load_32 ?_
  refine zr_getR X zf_X7_33 rfl (by decide) (by decide) dX7_load_33 ?_
  refine zr_callV2 (rm9 := zrm_X6_readSetup) X hnt zm_X7_64 (by decide) (by decide) (by decide) (Nat.le_of_ble_eq_true rfl) dX7_load_36 ?_
  refine zp_X6_readSetup (RES := pLoad t n9) (x := x) (t := t) (f := f) (n9 := n9) (S := zBlank) ⟨hB2, hL, hT2, hR2, zWf_blank⟩ rfl ?_ ?_
  · skip
    intro J3 p3 T3 hq3 hF3 hS3; obtain ⟨hB3, hn3, hT3, hR3, hW3⟩ := hS3; have hF : zfr I J3 x := hF2.tr hF3; have hC3 := zCl_read (e2 := -1) hC hF
    refine zr_istore2 X (by decide) rfl dX7_load_39 ?_
    refine zr_aload0 X dX7_load_40 ?_
    refine zr_getR X zf_X7_10 rfl (by decide) (by decide) dX7_load_41 ?_
    refine zr_iconst (v := (0 : Int32)) X dX7_load_44 (by decide) ?_
    refine zr_putI X zf_X7_47 rfl (Or.inl rfl) dX7_load_45 ?_
    refine zr_iload2 X dX7_load_48 ?_
    refine zr_if_ne (tgt := 71) X dX7_load_49 (by decide) (fun _ => ?_) (fun h => absurd h (by decide))
    refine zr_aload0 X dX7_load_71 ?_
    refine zr_iconst (v := (-1 : Int32)) X dX7_load_72 (by decide) ?_
    refine zr_putI X zf_X7_43 rfl (Or.inl rfl) dX7_load_73 ?_
    refine zr_aload0 X dX7_load_76 ?_
    refine zr_getR X zf_X7_39 rfl (by decide) (by decide) dX7_load_77 ?_
    refine zr_aload0 X dX7_load_80 ?_
    refine zr_getR X zf_X7_26 rfl (by decide) (by decide) dX7_load_81 ?_
    refine zr_callV1 (rm9 := zrm_X2_remember) X hnt zm_X7_72 (by decide) (by decide) (by decide) (Nat.le_of_ble_eq_true rfl) dX7_load_84 ?_
    refine zp_X2_remember (S := S) (U := U) hC3.2.2.2.2.2.1 hC3.2.2.1 ?_
    intro J4 hg4 hG4; have hC4 := hC3.past hg4 hG4 (qPush_wf hC.2.2.2.1 hC.2.2.2.2.2.2)
    refine zr_aload0 X dX7_load_87 ?_
    refine zr_getR X zf_X7_26 rfl (by decide) (by decide) dX7_load_88 ?_
    refine zr_aload0 X dX7_load_91 ?_
    refine zr_getR X zf_X7_33 rfl (by decide) (by decide) dX7_load_92 ?_
    refine zr_callV1 (rm9 := zrm_X5_copyFrom) X hnt zm_X7_57 (by decide) (by decide) (by decide) (Nat.le_of_ble_eq_true rfl) dX7_load_95 ?_
    refine zp_X5_copyFrom (S := T3) (hR3.on (fun q a b => (hg4 q (by omega)).trans ((zput_nq (by omega)).trans (zput_nq (by omega))))) (by omega) ?_
    intro J5 hg5 hR5
    refine zr_aload0 X dX7_load_98 ?_
    refine zr_getR X zf_X7_26 rfl (by decide) (by decide) dX7_load_99 ?_
    refine zr_getI X zf_X7_75 rfl dX7_load_102 ?_
    refine zr_eq (x2 := (sX T3 4)) (hR5.1 4 (by decide) (by decide)) ?_
    refine zr_iret X (by decide) (by decide) dX7_load_105 ?_
    exact k1 _ _ _ hq3 (hC4.now hg5 hR5 hW3)
  · skip
    intro J3 e3 hq3 hF3 hE3; have hF : zfr I J3 x := hF2.tr hF3; have hC3 := zCl_read (e2 := nI e3.2) hC hF
    refine zr_istore2 X (by decide) rfl dX7_load_39 ?_
    refine zr_aload0 X dX7_load_40 ?_
    refine zr_getR X zf_X7_10 rfl (by decide) (by decide) dX7_load_41 ?_
    refine zr_iconst (v := (0 : Int32)) X dX7_load_44 (by decide) ?_
    refine zr_putI X zf_X7_47 rfl (Or.inl rfl) dX7_load_45 ?_
    refine zr_iload2 X dX7_load_48 ?_
    refine zr_if_ne (tgt := 71) X dX7_load_49 (by decide) (fun h => absurd h (by decide)) (fun _ => ?_)
    refine zr_aload0 X dX7_load_52 ?_
    refine zr_aload0 X dX7_load_53 ?_
    refine zr_getR X zf_X7_19 rfl (by decide) (by decide) dX7_load_54 ?_
    refine zr_getI X zf_X7_68 rfl dX7_load_57 ?_
    refine zr_eq (x2 := (J3 (x + 3) 1)) ((zput_ne (by omega))) ?_
    refine zr_eq (x2 := (nI e3.2)) (hE3.2.2) ?_
    refine zr_putI X zf_X7_43 rfl (Or.inl rfl) dX7_load_60 ?_
    refine zr_aload0 X dX7_load_63 ?_
    refine zr_getR X zf_X7_19 rfl (by decide) (by decide) dX7_load_64 ?_
    refine zr_getI X zf_X7_69 rfl dX7_load_67 ?_
    refine zr_eq (x2 := (J3 (x + 3) 0)) ((zput_ne (by omega)).trans ((zput_ne (by omega)))) ?_
    refine zr_eq (x2 := e3.1) (hE3.2.1) ?_
    refine zr_iret X (by decide) (by decide) dX7_load_70 ?_
    exact k2 _ _ hq3 hC3
set_option maxRecDepth 20000 in
theorem zx_X7_load {l : Launch} {D : va_G} {b0 : Nat} {tA : Nat → ClassId} {sa sv : Nat → Nat} {K : zKt} {I : zI} {Qp : zI → Option AV → Prop} {Xp : String → zI → Prop} {F9 : zI} {x f : Nat} {t : Nat → Nat} {er : Int32} {S : zS} {U : List zS} {v : Int32}
    (hC : zCl F9 I x t f er S U) (hb : vIdx v (f + 1) = none) (kx : Xp "java/lang/IllegalArgumentException" I) :
    zC l D b0 tA sa sv K yX7_load (.code yX7_load cX7_load 3 (some .int)) zrm_X7_load [vr (x) 7, vi (v)] I Qp Xp := by
  refine zC_of (by decide +kernel) (Nat.le_of_ble_eq_true rfl) ?_
  intro p e s m args below meth c X hnt
  have X : zX p l e zrm_X7_load s m args below meth c RX7 cX7_load 3 (some .int) D b0 tA sa sv := X
  refine zr_lv (lv2 := [some (vr (x) 7), some (vi (v)), none]) rfl ?_
  refine zr_aload0 X dX7_load_0 ?_
  refine zr_iload1 X dX7_load_1 ?_
  refine zr_callV1 (rm9 := zrm_X7_requireBuffered) X hnt zm_X7_54 (by decide) (by decide) (by decide) (Nat.le_of_ble_eq_true rfl) dX7_load_2 ?_
  exact zx_X7_requireBuffered hC hb kx
theorem zCl.re {F I : zI} {x f : Nat} {t : Nat → Nat} {er : Int32} {S : zS} {U : List zS} (h : zCl F I x t f er S U) : zCl I I x t f er S U := ⟨h.1, h.2.1, h.2.2.1, h.2.2.2.1, ⟨h.2.2.2.2.1.1, zFar.rf⟩, h.2.2.2.2.2⟩
theorem zCl.on {F I J : zI} {x f : Nat} {t : Nat → Nat} {er : Int32} {S : zS} {U : List zS} (h : zCl F I x t f er S U) (e : ∀ q, x ≤ q → q < x + 501 → J q = I q) : zCl J J x t f er S U := by
  obtain ⟨h1, h2, h3, h4, ⟨h5, h6⟩, h7, h8⟩ := h
  refine ⟨⟨by rw [e _ (by omega) (by omega)]; exact h1.1, h1.2.1, h1.2.2.1, fun k hk => by rw [e _ (by omega) (by omega)]; exact h1.2.2.2 k hk⟩, by rw [e _ (by omega) (by omega)]; exact h2, h3.on (fun q a b => e q (by omega) (by omega)), h4, ⟨h5.on (fun q a b => e q (by omega) (by omega)), zFar.rf⟩, h7.on (fun q a b => e q (by omega) b), h8⟩
def rLoad (t : Nat → Nat) (f : Nat) (v : Int32) : Nat × Int32 := match vIdx v (f + 1) with | none => (1, 0) | some n => match pLoad t n with | .inr q => (0, sX q.2 4) | .inl e => (0, e.1)
def sLoad (t : Nat → Nat) (f : Nat) (v : Int32) (S : zS) : zS := match vIdx v (f + 1) with | none => S | some n => match pLoad t n with | .inr q => q.2 | .inl _ => S
def uLoad (t : Nat → Nat) (f : Nat) (v : Int32) (S : zS) (U : List zS) : List zS := match vIdx v (f + 1) with | none => U | some n => match pLoad t n with | .inr _ => qPush S U | .inl _ => U
def fLoad (f : Nat) (v : Int32) : Nat := match vIdx v (f + 1) with | none => f | some _ => 0
def eLoad (t : Nat → Nat) (f : Nat) (v er : Int32) : Int32 := match vIdx v (f + 1) with | none => er | some n => match pLoad t n with | .inr _ => -1 | .inl e => nI e.2
theorem zq_X7_load {l : Launch} {D : va_G} {b0 : Nat} {tA : Nat → ClassId} {sa sv : Nat → Nat} {K : zKt} {I : zI} {Qp : zI → Option AV → Prop} {Xp : String → zI → Prop} {F9 : zI} {x f : Nat} {t : Nat → Nat} {er : Int32} {S : zS} {U : List zS} {v : Int32}
    (hC : zCl F9 I x t f er S U) (k0 : (rLoad t f v).1 = 0 → ∀ J : zI, zCl F9 J x t (fLoad f v) (eLoad t f v er) (sLoad t f v S) (uLoad t f v S U) → Qp J (some (vi (rLoad t f v).2))) (kx1 : (rLoad t f v).1 = 1 → Xp "java/lang/IllegalArgumentException" I) :
    zC l D b0 tA sa sv K yX7_load (.code yX7_load cX7_load 3 (some .int)) zrm_X7_load [vr (x) 7, vi (v)] I Qp Xp := by
  unfold rLoad fLoad eLoad sLoad uLoad at k0
  unfold rLoad at kx1
  cases hv : vIdx v (f + 1) with
  | none => rw [hv] at kx1; exact zx_X7_load hC hv (kx1 rfl)
  | some n =>
    obtain ⟨hn, rfl⟩ := vIdx_some hv
    rw [hv] at k0
    refine zo_X7_load hC (by omega) (fun J p2 S3 hp hJ => ?_) (fun J e hp hJ => ?_)
    · dsimp only at k0
      rw [hp] at k0; exact k0 rfl J hJ
    · dsimp only at k0
      rw [hp] at k0; exact k0 rfl J hJ
