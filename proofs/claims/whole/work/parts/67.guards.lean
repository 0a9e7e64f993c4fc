/-! ===== the law's guards: the class's exceptions become codes ===== -/
theorem zCl.re {F I : zI} {x f : Nat} {t : Nat → Nat} {er : Int32} {S : zS} {U : List zS} (h : zCl F I x t f er S U) : zCl I I x t f er S U := ⟨h.1, h.2.1, h.2.2.1, h.2.2.2.1, ⟨h.2.2.2.2.1.1, zFar.rf⟩, h.2.2.2.2.2⟩
theorem zCl.on {F I J : zI} {x f : Nat} {t : Nat → Nat} {er : Int32} {S : zS} {U : List zS} (h : zCl F I x t f er S U) (e : ∀ q, x ≤ q → q < x + 501 → J q = I q) : zCl J J x t f er S U := by
  obtain ⟨h1, h2, h3, h4, ⟨h5, h6⟩, h7, h8⟩ := h
  refine ⟨⟨by rw [e _ (by omega) (by omega)]; exact h1.1, h1.2.1, h1.2.2.1, fun k hk => by rw [e _ (by omega) (by omega)]; exact h1.2.2.2 k hk⟩, by rw [e _ (by omega) (by omega)]; exact h2, h3.on (fun q a b => e q (by omega) (by omega)), h4, ⟨h5.on (fun q a b => e q (by omega) (by omega)), zFar.rf⟩, h7.on (fun q a b => e q (by omega) b), h8⟩
theorem zRf.on {F I J : zI} {y f : Nat} {t : Nat → Nat} {er : Int32} {S : zS} {U : List zS} (h : zRf F I y t f er S U) (e : ∀ q, y ≤ q → q < y + 14 → J q = I q) : zRf J J y t f er S U := by
  obtain ⟨⟨h1, h2⟩, h3, h4, h5, h6, h7, h8⟩ := h
  refine ⟨⟨by rw [e _ (by omega) (by omega)]; exact h1, h2.1, h2.2.1, fun k hk => by rw [e _ (by omega) (by omega)]; exact h2.2.2 k hk⟩, by rw [e _ (by omega) (by omega)]; exact h3, h4.kept (e _ (by omega) (by omega)), h5, zFrr.rf, ⟨by rw [e _ (by omega) (by omega)]; exact h7.1, h7.2.1, fun i u hu => (h7.2.2 i u hu).kept (e _ (by omega) ?_)⟩, h8⟩
  have := h7.2.1
  omega
def rLoad (t : Nat → Nat) (f : Nat) (v : Int32) : Nat × Int32 := match vIdx v (f + 1) with | none => (1, 0) | some n => match pLoad t n with | .inr q => (0, sX q.2 4) | .inl e => (0, e.1)
def sLoad (t : Nat → Nat) (f : Nat) (v : Int32) (S : zS) : zS := match vIdx v (f + 1) with | none => S | some n => match pLoad t n with | .inr q => q.2 | .inl _ => S
def uLoad (t : Nat → Nat) (f : Nat) (v : Int32) (S : zS) (U : List zS) : List zS := match vIdx v (f + 1) with | none => U | some n => match pLoad t n with | .inr _ => qPush S U | .inl _ => U
def fLoad (f : Nat) (v : Int32) : Nat := match vIdx v (f + 1) with | none => f | some _ => 0
def eLoad (t : Nat → Nat) (f : Nat) (v er : Int32) : Int32 := match vIdx v (f + 1) with | none => er | some n => match pLoad t n with | .inr _ => -1 | .inl e => nI e.2
theorem zq_X7_load {l : Launch} {D : va_G} {b0 : Nat} {tA : Nat → ClassId} {sa sv : Nat → Nat} {K : Nat → Option Nat} {I : zI} {Qp : zI → Option AV → Prop} {Xp : String → zI → Prop} {F9 : zI} {x f : Nat} {t : Nat → Nat} {er : Int32} {S : zS} {U : List zS} {v : Int32}
    (hC : zCl F9 I x t f er S U) (k0 : (rLoad t f v).1 = 0 → ∀ J : zI, zCl F9 J x t (fLoad f v) (eLoad t f v er) (sLoad t f v S) (uLoad t f v S U) → Qp J (some (vi (rLoad t f v).2))) (kx1 : (rLoad t f v).1 = 1 → Xp "java/lang/IllegalArgumentException" I) :
    zC l D b0 tA sa sv K yX7_load (.code yX7_load cX7_load 3 (some .int)) zrm_X7_load [vr (x) 7, vi (v)] I Qp Xp := by
  unfold rLoad fLoad eLoad sLoad uLoad at k0
  unfold rLoad at kx1
  cases hv : vIdx v (f + 1) with
  | none => rw [hv] at kx1; exact zx_X7_load hC hv (kx1 rfl)
  | some n =>
    obtain ⟨hn, rfl⟩ := vIdx_some hv
    rw [hv] at k0
    refine zo_X7_load hC (by omega) (fun J p2 S3 hp hJ => ?_) (fun J e hp hJ => ?_)
    · dsimp only at k0
      rw [hp] at k0; exact k0 rfl J hJ
    · dsimp only at k0
      rw [hp] at k0; exact k0 rfl J hJ
theorem zcl_L_13 : Cond.classLink RL 13 "java/lang/IllegalArgumentException" ∈ zALL := zin (List.mem_append_right _ (List.mem_of_getElem? (i := 452) (by decide +kernel))) rfl
theorem zca_13 : Cond.castable "java/lang/IllegalArgumentException" "java/lang/IllegalArgumentException" ∈ lw_tbl := List.mem_append_right _ (List.mem_of_getElem? (i := 463) (by decide +kernel))
theorem zcl_L_25 : Cond.classLink RL 25 "java/lang/IndexOutOfBoundsException" ∈ zALL := zin (List.mem_append_right _ (List.mem_of_getElem? (i := 809) (by decide +kernel))) rfl
theorem zca_25 : Cond.castable "java/lang/IndexOutOfBoundsException" "java/lang/IndexOutOfBoundsException" ∈ lw_tbl := List.mem_append_right _ (List.mem_of_getElem? (i := 821) (by decide +kernel))
theorem zcl_L_34 : Cond.classLink RL 34 "java/util/NoSuchElementException" ∈ zALL := zin (List.mem_append_right _ (List.mem_of_getElem? (i := 851) (by decide +kernel))) rfl
theorem zca_34 : Cond.castable "java/util/NoSuchElementException" "java/util/NoSuchElementException" ∈ lw_tbl := List.mem_append_right _ (List.mem_of_getElem? (i := 864) (by decide +kernel))
theorem zcl_L_66 : Cond.classLink RL 66 "java/lang/IllegalStateException" ∈ zALL := zin (List.mem_append_right _ (List.mem_of_getElem? (i := 964) (by decide +kernel))) rfl
theorem zca_66 : Cond.castable "java/lang/IllegalStateException" "java/lang/IllegalStateException" ∈ lw_tbl := List.mem_append_right _ (List.mem_of_getElem? (i := 975) (by decide +kernel))
abbrev zrm_L_state : Room := { frames := 9, cells := 1, slots := 6, locals := 141 }
set_option maxRecDepth 20000 in
theorem zL_state {l : Launch} {D : va_G} {b0 : Nat} {tA : Nat → ClassId} {sa sv : Nat → Nat} {K : Nat → Option Nat} {I : zI} {Qp : zI → Option AV → Prop} {x y out f f2 : Nat} {t t2 : Nat → Nat} {er er2 : Int32} {S S2 : zS} {U U2 : List zS} {v : Int32}
    (hC : zCl I I x t f er S U) (hR : zRf I I y t2 f2 er2 S2 U2) (h1 : x + 501 ≤ y) (h2 : y + 14 ≤ out) (k : ∀ J : zI, zCl J J x t f er S U → zRf J J y t2 f2 er2 S2 U2 → ((rState S v).1 = 0 → J out 0 = (rState S v).2) → Qp J (some (vi (nI (rState S v).1)))) :
    zC l D b0 tA sa sv K yL_state (.codeWith yL_state cL_state 4 (some .int) [(0, 9, 12, 13)]) zrm_L_state [vr x 7, vi v, vr out 17] I Qp (fun _ _ => False) := by
  refine zCW_of (by decide +kernel) (Nat.le_of_ble_eq_true rfl) ?_
  intro p e s m args below meth c X ht
  have X : zX p l e zrm_L_state s m args below meth c RL cL_state 4 (some .int) D b0 tA sa sv := X
  refine zr_lv (lv2 := [some (vr x 7), some (vi v), some (vr out 17), none]) rfl ?_
  refine zr_aload2 X dL_state_0 ?_
  refine zr_iconst (v := (0 : Int32)) X dL_state_1 (by decide) ?_
  refine zr_aload0 X dL_state_2 ?_
  refine zr_iload1 X dL_state_3 ?_
  refine zr_callVX X zm_L_15 (rm9 := zrm_X7_state) (As := [vi v]) (st := [vi 0, vr out 17]) (Xp' := fun E J => J = I ∧ (((rState S v).1 = 1 ∧ E = "java/lang/IllegalArgumentException"))) rfl rfl ⟨by decide, Nat.le_of_ble_eq_true rfl⟩ ⟨by decide, by decide⟩ (Nat.le_of_ble_eq_true rfl) dL_state_4 (fun E J hx => ?_) ?_
  · obtain ⟨rfl, hx⟩ := hx
    rcases hx with ⟨h, rfl⟩
    · refine zr_caught X ht (hpc := 12) (i := 3) (len := 1) ⟨[], ⟨0, 9, 12, 13⟩, [], "java/lang/IllegalArgumentException", rfl, (fun z hz => nomatch hz), rfl, by decide, zcl_L_13, zca_13, rfl⟩ (by decide) ?_ (Or.inl ⟨3, rfl, dL_state_12, rfl⟩) ?_
      · intro j hj w hw
        obtain rfl : j = 2 := by omega
        cases hw; rfl
      refine zr_iconst (v := nI 1) X dL_state_13 (by decide) ?_
      refine zr_iret X (by decide) (by decide) dL_state_14 ?_
      have hn : ¬ (rState S v).1 = 0 := by rw [h]; decide
      have k9 := k _ hC hR (fun q => absurd q hn)
      rw [h] at k9; exact k9
  · refine zq_X7_state hC (fun h => ?_) (fun h => ⟨rfl, ⟨h, rfl⟩⟩)
    have hJ := hC
    refine zr_i2l X dL_state_7 ?_
    refine zr_last X dL_state_8 ?_
    refine zr_goto (tgt := 15) X dL_state_9 (by decide) ?_
    refine zr_iconst (v := nI 0) X dL_state_15 (by decide) ?_
    refine zr_iret X (by decide) (by decide) dL_state_16 ?_
    have k9 := k (zput I out 0 (rState S v).2) (hJ.on (fun q a b => zput_nq (by omega))) (hR.on (fun q a b => (zput_nq (by omega)).trans (hJ.2.2.2.2.1.2 q (Or.inr (by omega))))) (fun _ => zput_eq)
    rw [h] at k9; exact k9
abbrev zrm_L_find : Room := { frames := 10, cells := 1, slots := 6, locals := 162 }
set_option maxRecDepth 20000 in
theorem zL_find {l : Launch} {D : va_G} {b0 : Nat} {tA : Nat → ClassId} {sa sv : Nat → Nat} {K : Nat → Option Nat} {I : zI} {Qp : zI → Option AV → Prop} {x y out f f2 : Nat} {t t2 : Nat → Nat} {er er2 : Int32} {S S2 : zS} {U U2 : List zS} {v : Int32}
    (hC : zCl I I x t f er S U) (hR : zRf I I y t2 f2 er2 S2 U2) (h1 : x + 501 ≤ y) (h2 : y + 14 ≤ out) (k : ∀ J : zI, zCl J J x t f er S U → zRf J J y t2 f2 er2 S2 U2 → ((rFind S t f v).1 = 0 → J out 0 = (rFind S t f v).2) → Qp J (some (vi (nI (rFind S t f v).1)))) :
    zC l D b0 tA sa sv K yL_find (.codeWith yL_find cL_find 4 (some .int) [(0, 9, 12, 13)]) zrm_L_find [vr x 7, vi v, vr out 17] I Qp (fun _ _ => False) := by
  refine zCW_of (by decide +kernel) (Nat.le_of_ble_eq_true rfl) ?_
  intro p e s m args below meth c X ht
  have X : zX p l e zrm_L_find s m args below meth c RL cL_find 4 (some .int) D b0 tA sa sv := X
  refine zr_lv (lv2 := [some (vr x 7), some (vi v), some (vr out 17), none]) rfl ?_
  refine zr_aload2 X dL_find_0 ?_
  refine zr_iconst (v := (0 : Int32)) X dL_find_1 (by decide) ?_
  refine zr_aload0 X dL_find_2 ?_
  refine zr_iload1 X dL_find_3 ?_
  refine zr_callVX X zm_L_18 (rm9 := zrm_X7_find) (As := [vi v]) (st := [vi 0, vr out 17]) (Xp' := fun E J => J = I ∧ (((rFind S t f v).1 = 1 ∧ E = "java/lang/IllegalArgumentException"))) rfl rfl ⟨by decide, Nat.le_of_ble_eq_true rfl⟩ ⟨by decide, by decide⟩ (Nat.le_of_ble_eq_true rfl) dL_find_4 (fun E J hx => ?_) ?_
  · obtain ⟨rfl, hx⟩ := hx
    rcases hx with ⟨h, rfl⟩
    · refine zr_caught X ht (hpc := 12) (i := 3) (len := 1) ⟨[], ⟨0, 9, 12, 13⟩, [], "java/lang/IllegalArgumentException", rfl, (fun z hz => nomatch hz), rfl, by decide, zcl_L_13, zca_13, rfl⟩ (by decide) ?_ (Or.inl ⟨3, rfl, dL_find_12, rfl⟩) ?_
      · intro j hj w hw
        obtain rfl : j = 2 := by omega
        cases hw; rfl
      refine zr_iconst (v := nI 1) X dL_find_13 (by decide) ?_
      refine zr_iret X (by decide) (by decide) dL_find_14 ?_
      have hn : ¬ (rFind S t f v).1 = 0 := by rw [h]; decide
      have k9 := k _ hC hR (fun q => absurd q hn)
      rw [h] at k9; exact k9
  · refine zq_X7_find hC (fun h => ?_) (fun h => ⟨rfl, ⟨h, rfl⟩⟩)
    have hJ := hC
    refine zr_i2l X dL_find_7 ?_
    refine zr_last X dL_find_8 ?_
    refine zr_goto (tgt := 15) X dL_find_9 (by decide) ?_
    refine zr_iconst (v := nI 0) X dL_find_15 (by decide) ?_
    refine zr_iret X (by decide) (by decide) dL_find_16 ?_
    have k9 := k (zput I out 0 (rFind S t f v).2) (hJ.on (fun q a b => zput_nq (by omega))) (hR.on (fun q a b => (zput_nq (by omega)).trans (hJ.2.2.2.2.1.2 q (Or.inr (by omega))))) (fun _ => zput_eq)
    rw [h] at k9; exact k9
abbrev zrm_L_gate : Room := { frames := 10, cells := 2, slots := 12, locals := 163 }
set_option maxRecDepth 20000 in
theorem zL_gate {l : Launch} {D : va_G} {b0 : Nat} {tA : Nat → ClassId} {sa sv : Nat → Nat} {K : Nat → Option Nat} {I : zI} {Qp : zI → Option AV → Prop} {x y out f f2 : Nat} {t t2 : Nat → Nat} {er er2 : Int32} {S S2 : zS} {U U2 : List zS} {u v : Int32}
    (hC : zCl I I x t f er S U) (hR : zRf I I y t2 f2 er2 S2 U2) (h1 : x + 501 ≤ y) (h2 : y + 14 ≤ out) (k : ∀ J : zI, zCl J J x t f er S U → zRf J J y t2 f2 er2 S2 U2 → ((rGate S u v).1 = 0 → J out 0 = (rGate S u v).2) → Qp J (some (vi (nI (rGate S u v).1)))) :
    zC l D b0 tA sa sv K yL_gate (.codeWith yL_gate cL_gate 5 (some .int) [(0, 10, 13, 25), (0, 10, 17, 13)]) zrm_L_gate [vr x 7, vi u, vi v, vr out 17] I Qp (fun _ _ => False) := by
  refine zCW_of (by decide +kernel) (Nat.le_of_ble_eq_true rfl) ?_
  intro p e s m args below meth c X ht
  have X : zX p l e zrm_L_gate s m args below meth c RL cL_gate 5 (some .int) D b0 tA sa sv := X
  refine zr_lv (lv2 := [some (vr x 7), some (vi u), some (vi v), some (vr out 17), none]) rfl ?_
  refine zr_aload3 X dL_gate_0 ?_
  refine zr_iconst (v := (0 : Int32)) X dL_gate_1 (by decide) ?_
  refine zr_aload0 X dL_gate_2 ?_
  refine zr_iload1 X dL_gate_3 ?_
  refine zr_iload2 X dL_gate_4 ?_
  refine zr_callVX X zm_L_21 (rm9 := zrm_X7_gate) (As := [vi u, vi v]) (st := [vi 0, vr out 17]) (Xp' := fun E J => J = I ∧ (((rGate S u v).1 = 1 ∧ E = "java/lang/IndexOutOfBoundsException") ∨ ((rGate S u v).1 = 2 ∧ E = "java/lang/IllegalArgumentException"))) rfl rfl ⟨by decide, Nat.le_of_ble_eq_true rfl⟩ ⟨by decide, by decide⟩ (Nat.le_of_ble_eq_true rfl) dL_gate_5 (fun E J hx => ?_) ?_
  · obtain ⟨rfl, hx⟩ := hx
    rcases hx with ⟨h, rfl⟩ | ⟨h, rfl⟩
    · refine zr_caught X ht (hpc := 13) (i := 4) (len := 2) ⟨[], ⟨0, 10, 13, 25⟩, [⟨0, 10, 17, 13⟩], "java/lang/IndexOutOfBoundsException", rfl, (fun z hz => nomatch hz), rfl, by decide, zcl_L_25, zca_25, rfl⟩ (by decide) ?_ (Or.inr ⟨dL_gate_13, rfl⟩) ?_
      · intro j hj w hw
        obtain rfl : j = 3 := by omega
        cases hw; rfl
      refine zr_iconst (v := nI 1) X dL_gate_15 (by decide) ?_
      refine zr_iret X (by decide) (by decide) dL_gate_16 ?_
      have hn : ¬ (rGate S u v).1 = 0 := by rw [h]; decide
      have k9 := k _ hC hR (fun q => absurd q hn)
      rw [h] at k9; exact k9
    · refine zr_caught X ht (hpc := 17) (i := 4) (len := 2) ⟨[⟨0, 10, 13, 25⟩], ⟨0, 10, 17, 13⟩, [], "java/lang/IllegalArgumentException", rfl, (fun z hz => by
        simp only [List.mem_cons, List.not_mem_nil, or_false] at hz
        rcases hz with rfl
        · exact ⟨by decide, _, zcl_L_25, List.mem_of_getElem? (i := 37) rfl⟩), rfl, by decide, zcl_L_13, zca_13, rfl⟩ (by decide) ?_ (Or.inr ⟨dL_gate_17, rfl⟩) ?_
      · intro j hj w hw
        obtain rfl : j = 3 := by omega
        cases hw; rfl
      refine zr_iconst (v := nI 2) X dL_gate_19 (by decide) ?_
      refine zr_iret X (by decide) (by decide) dL_gate_20 ?_
      have hn : ¬ (rGate S u v).1 = 0 := by rw [h]; decide
      have k9 := k _ hC hR (fun q => absurd q hn)
      rw [h] at k9; exact k9
  · refine zq_X7_gate hC (fun h => ?_) (fun h => ⟨rfl, Or.inl ⟨h, rfl⟩⟩) (fun h => ⟨rfl, Or.inr (⟨h, rfl⟩)⟩)
    have hJ := hC
    refine zr_i2l X dL_gate_8 ?_
    refine zr_last X dL_gate_9 ?_
    refine zr_goto (tgt := 21) X dL_gate_10 (by decide) ?_
    refine zr_iconst (v := nI 0) X dL_gate_21 (by decide) ?_
    refine zr_iret X (by decide) (by decide) dL_gate_22 ?_
    have k9 := k (zput I out 0 (rGate S u v).2) (hJ.on (fun q a b => zput_nq (by omega))) (hR.on (fun q a b => (zput_nq (by omega)).trans (hJ.2.2.2.2.1.2 q (Or.inr (by omega))))) (fun _ => zput_eq)
    rw [h] at k9; exact k9
abbrev zrm_L_card : Room := { frames := 10, cells := 2, slots := 12, locals := 163 }
set_option maxRecDepth 20000 in
theorem zL_card {l : Launch} {D : va_G} {b0 : Nat} {tA : Nat → ClassId} {sa sv : Nat → Nat} {K : Nat → Option Nat} {I : zI} {Qp : zI → Option AV → Prop} {x y out f f2 : Nat} {t t2 : Nat → Nat} {er er2 : Int32} {S S2 : zS} {U U2 : List zS} {u v : Int32}
    (hC : zCl I I x t f er S U) (hR : zRf I I y t2 f2 er2 S2 U2) (h1 : x + 501 ≤ y) (h2 : y + 14 ≤ out) (k : ∀ J : zI, zCl J J x t f er S U → zRf J J y t2 f2 er2 S2 U2 → ((rCard S u v).1 = 0 → J out 0 = (rCard S u v).2) → Qp J (some (vi (nI (rCard S u v).1)))) :
    zC l D b0 tA sa sv K yL_card (.codeWith yL_card cL_card 5 (some .int) [(0, 10, 13, 25), (0, 10, 17, 13)]) zrm_L_card [vr x 7, vi u, vi v, vr out 17] I Qp (fun _ _ => False) := by
  refine zCW_of (by decide +kernel) (Nat.le_of_ble_eq_true rfl) ?_
  intro p e s m args below meth c X ht
  have X : zX p l e zrm_L_card s m args below meth c RL cL_card 5 (some .int) D b0 tA sa sv := X
  refine zr_lv (lv2 := [some (vr x 7), some (vi u), some (vi v), some (vr out 17), none]) rfl ?_
  refine zr_aload3 X dL_card_0 ?_
  refine zr_iconst (v := (0 : Int32)) X dL_card_1 (by decide) ?_
  refine zr_aload0 X dL_card_2 ?_
  refine zr_iload1 X dL_card_3 ?_
  refine zr_iload2 X dL_card_4 ?_
  refine zr_callVX X zm_L_27 (rm9 := zrm_X7_card) (As := [vi u, vi v]) (st := [vi 0, vr out 17]) (Xp' := fun E J => J = I ∧ (((rCard S u v).1 = 1 ∧ E = "java/lang/IndexOutOfBoundsException") ∨ ((rCard S u v).1 = 2 ∧ E = "java/lang/IllegalArgumentException"))) rfl rfl ⟨by decide, Nat.le_of_ble_eq_true rfl⟩ ⟨by decide, by decide⟩ (Nat.le_of_ble_eq_true rfl) dL_card_5 (fun E J hx => ?_) ?_
  · obtain ⟨rfl, hx⟩ := hx
    rcases hx with ⟨h, rfl⟩ | ⟨h, rfl⟩
    · refine zr_caught X ht (hpc := 13) (i := 4) (len := 2) ⟨[], ⟨0, 10, 13, 25⟩, [⟨0, 10, 17, 13⟩], "java/lang/IndexOutOfBoundsException", rfl, (fun z hz => nomatch hz), rfl, by decide, zcl_L_25, zca_25, rfl⟩ (by decide) ?_ (Or.inr ⟨dL_card_13, rfl⟩) ?_
      · intro j hj w hw
        obtain rfl : j = 3 := by omega
        cases hw; rfl
      refine zr_iconst (v := nI 1) X dL_card_15 (by decide) ?_
      refine zr_iret X (by decide) (by decide) dL_card_16 ?_
      have hn : ¬ (rCard S u v).1 = 0 := by rw [h]; decide
      have k9 := k _ hC hR (fun q => absurd q hn)
      rw [h] at k9; exact k9
    · refine zr_caught X ht (hpc := 17) (i := 4) (len := 2) ⟨[⟨0, 10, 13, 25⟩], ⟨0, 10, 17, 13⟩, [], "java/lang/IllegalArgumentException", rfl, (fun z hz => by
        simp only [List.mem_cons, List.not_mem_nil, or_false] at hz
        rcases hz with rfl
        · exact ⟨by decide, _, zcl_L_25, List.mem_of_getElem? (i := 37) rfl⟩), rfl, by decide, zcl_L_13, zca_13, rfl⟩ (by decide) ?_ (Or.inr ⟨dL_card_17, rfl⟩) ?_
      · intro j hj w hw
        obtain rfl : j = 3 := by omega
        cases hw; rfl
      refine zr_iconst (v := nI 2) X dL_card_19 (by decide) ?_
      refine zr_iret X (by decide) (by decide) dL_card_20 ?_
      have hn : ¬ (rCard S u v).1 = 0 := by rw [h]; decide
      have k9 := k _ hC hR (fun q => absurd q hn)
      rw [h] at k9; exact k9
  · refine zq_X7_card hC (fun h => ?_) (fun h => ⟨rfl, Or.inl ⟨h, rfl⟩⟩) (fun h => ⟨rfl, Or.inr (⟨h, rfl⟩)⟩)
    have hJ := hC
    refine zr_i2l X dL_card_8 ?_
    refine zr_last X dL_card_9 ?_
    refine zr_goto (tgt := 21) X dL_card_10 (by decide) ?_
    refine zr_iconst (v := nI 0) X dL_card_21 (by decide) ?_
    refine zr_iret X (by decide) (by decide) dL_card_22 ?_
    have k9 := k (zput I out 0 (rCard S u v).2) (hJ.on (fun q a b => zput_nq (by omega))) (hR.on (fun q a b => (zput_nq (by omega)).trans (hJ.2.2.2.2.1.2 q (Or.inr (by omega))))) (fun _ => zput_eq)
    rw [h] at k9; exact k9
abbrev zrm_L_inLine : Room := { frames := 10, cells := 3, slots := 18, locals := 165 }
set_option maxRecDepth 20000 in
theorem zL_inLine {l : Launch} {D : va_G} {b0 : Nat} {tA : Nat → ClassId} {sa sv : Nat → Nat} {K : Nat → Option Nat} {I : zI} {Qp : zI → Option AV → Prop} {x y out f f2 : Nat} {t t2 : Nat → Nat} {er er2 : Int32} {S S2 : zS} {U U2 : List zS} {u v v3 : Int32}
    (hC : zCl I I x t f er S U) (hR : zRf I I y t2 f2 er2 S2 U2) (h1 : x + 501 ≤ y) (h2 : y + 14 ≤ out) (k : ∀ J : zI, zCl J J x t f er S U → zRf J J y t2 f2 er2 S2 U2 → ((rInLine S u v v3).1 = 0 → J out 0 = (rInLine S u v v3).2) → Qp J (some (vi (nI (rInLine S u v v3).1)))) :
    zC l D b0 tA sa sv K yL_inLine (.codeWith yL_inLine cL_inLine 6 (some .int) [(0, 12, 15, 25), (0, 12, 19, 13), (0, 12, 23, 34)]) zrm_L_inLine [vr x 7, vi u, vi v, vi v3, vr out 17] I Qp (fun _ _ => False) := by
  refine zCW_of (by decide +kernel) (Nat.le_of_ble_eq_true rfl) ?_
  intro p e s m args below meth c X ht
  have X : zX p l e zrm_L_inLine s m args below meth c RL cL_inLine 6 (some .int) D b0 tA sa sv := X
  refine zr_lv (lv2 := [some (vr x 7), some (vi u), some (vi v), some (vi v3), some (vr out 17), none]) rfl ?_
  refine zr_aload4 X dL_inLine_0 ?_
  refine zr_iconst (v := (0 : Int32)) X dL_inLine_2 (by decide) ?_
  refine zr_aload0 X dL_inLine_3 ?_
  refine zr_iload1 X dL_inLine_4 ?_
  refine zr_iload2 X dL_inLine_5 ?_
  refine zr_iload3 X dL_inLine_6 ?_
  refine zr_callVX X zm_L_30 (rm9 := zrm_X7_inLine) (As := [vi u, vi v, vi v3]) (st := [vi 0, vr out 17]) (Xp' := fun E J => J = I ∧ (((rInLine S u v v3).1 = 1 ∧ E = "java/lang/IndexOutOfBoundsException") ∨ ((rInLine S u v v3).1 = 2 ∧ E = "java/lang/IllegalArgumentException") ∨ ((rInLine S u v v3).1 = 3 ∧ E = "java/util/NoSuchElementException"))) rfl rfl ⟨by decide, Nat.le_of_ble_eq_true rfl⟩ ⟨by decide, by decide⟩ (Nat.le_of_ble_eq_true rfl) dL_inLine_7 (fun E J hx => ?_) ?_
  · obtain ⟨rfl, hx⟩ := hx
    rcases hx with ⟨h, rfl⟩ | ⟨h, rfl⟩ | ⟨h, rfl⟩
    · refine zr_caught X ht (hpc := 15) (i := 5) (len := 2) ⟨[], ⟨0, 12, 15, 25⟩, [⟨0, 12, 19, 13⟩, ⟨0, 12, 23, 34⟩], "java/lang/IndexOutOfBoundsException", rfl, (fun z hz => nomatch hz), rfl, by decide, zcl_L_25, zca_25, rfl⟩ (by decide) ?_ (Or.inr ⟨dL_inLine_15, rfl⟩) ?_
      · intro j hj w hw
        obtain rfl : j = 4 := by omega
        cases hw; rfl
      refine zr_iconst (v := nI 1) X dL_inLine_17 (by decide) ?_
      refine zr_iret X (by decide) (by decide) dL_inLine_18 ?_
      have hn : ¬ (rInLine S u v v3).1 = 0 := by rw [h]; decide
      have k9 := k _ hC hR (fun q => absurd q hn)
      rw [h] at k9; exact k9
    · refine zr_caught X ht (hpc := 19) (i := 5) (len := 2) ⟨[⟨0, 12, 15, 25⟩], ⟨0, 12, 19, 13⟩, [⟨0, 12, 23, 34⟩], "java/lang/IllegalArgumentException", rfl, (fun z hz => by
        simp only [List.mem_cons, List.not_mem_nil, or_false] at hz
        rcases hz with rfl
        · exact ⟨by decide, _, zcl_L_25, List.mem_of_getElem? (i := 37) rfl⟩), rfl, by decide, zcl_L_13, zca_13, rfl⟩ (by decide) ?_ (Or.inr ⟨dL_inLine_19, rfl⟩) ?_
      · intro j hj w hw
        obtain rfl : j = 4 := by omega
        cases hw; rfl
      refine zr_iconst (v := nI 2) X dL_inLine_21 (by decide) ?_
      refine zr_iret X (by decide) (by decide) dL_inLine_22 ?_
      have hn : ¬ (rInLine S u v v3).1 = 0 := by rw [h]; decide
      have k9 := k _ hC hR (fun q => absurd q hn)
      rw [h] at k9; exact k9
    · refine zr_caught X ht (hpc := 23) (i := 5) (len := 2) ⟨[⟨0, 12, 15, 25⟩, ⟨0, 12, 19, 13⟩], ⟨0, 12, 23, 34⟩, [], "java/util/NoSuchElementException", rfl, (fun z hz => by
        simp only [List.mem_cons, List.not_mem_nil, or_false] at hz
        rcases hz with rfl | rfl
        · exact ⟨by decide, _, zcl_L_25, List.mem_of_getElem? (i := 47) rfl⟩
        · exact ⟨by decide, _, zcl_L_13, List.mem_of_getElem? (i := 45) rfl⟩), rfl, by decide, zcl_L_34, zca_34, rfl⟩ (by decide) ?_ (Or.inr ⟨dL_inLine_23, rfl⟩) ?_
      · intro j hj w hw
        obtain rfl : j = 4 := by omega
        cases hw; rfl
      refine zr_iconst (v := nI 3) X dL_inLine_25 (by decide) ?_
      refine zr_iret X (by decide) (by decide) dL_inLine_26 ?_
      have hn : ¬ (rInLine S u v v3).1 = 0 := by rw [h]; decide
      have k9 := k _ hC hR (fun q => absurd q hn)
      rw [h] at k9; exact k9
  · refine zq_X7_inLine hC (fun h => ?_) (fun h => ⟨rfl, Or.inl ⟨h, rfl⟩⟩) (fun h => ⟨rfl, Or.inr (Or.inl ⟨h, rfl⟩)⟩) (fun h => ⟨rfl, Or.inr (Or.inr (⟨h, rfl⟩))⟩)
    have hJ := hC
    refine zr_i2l X dL_inLine_10 ?_
    refine zr_last X dL_inLine_11 ?_
    refine zr_goto (tgt := 27) X dL_inLine_12 (by decide) ?_
    refine zr_iconst (v := nI 0) X dL_inLine_27 (by decide) ?_
    refine zr_iret X (by decide) (by decide) dL_inLine_28 ?_
    have k9 := k (zput I out 0 (rInLine S u v v3).2) (hJ.on (fun q a b => zput_nq (by omega))) (hR.on (fun q a b => (zput_nq (by omega)).trans (hJ.2.2.2.2.1.2 q (Or.inr (by omega))))) (fun _ => zput_eq)
    rw [h] at k9; exact k9
abbrev zrm_L_why : Room := { frames := 10, cells := 2, slots := 12, locals := 163 }
set_option maxRecDepth 20000 in
theorem zL_why {l : Launch} {D : va_G} {b0 : Nat} {tA : Nat → ClassId} {sa sv : Nat → Nat} {K : Nat → Option Nat} {I : zI} {Qp : zI → Option AV → Prop} {x y out f f2 : Nat} {t t2 : Nat → Nat} {er er2 : Int32} {S S2 : zS} {U U2 : List zS} {u v : Int32}
    (hC : zCl I I x t f er S U) (hR : zRf I I y t2 f2 er2 S2 U2) (h1 : x + 501 ≤ y) (h2 : y + 14 ≤ out) (k : ∀ J : zI, zCl J J x t f er S U → zRf J J y t2 f2 er2 S2 U2 → ((rWhy S u v).1 = 0 → J out 0 = (rWhy S u v).2) → Qp J (some (vi (nI (rWhy S u v).1)))) :
    zC l D b0 tA sa sv K yL_why (.codeWith yL_why cL_why 5 (some .int) [(0, 10, 13, 25), (0, 10, 17, 13)]) zrm_L_why [vr x 7, vi u, vi v, vr out 17] I Qp (fun _ _ => False) := by
  refine zCW_of (by decide +kernel) (Nat.le_of_ble_eq_true rfl) ?_
  intro p e s m args below meth c X ht
  have X : zX p l e zrm_L_why s m args below meth c RL cL_why 5 (some .int) D b0 tA sa sv := X
  refine zr_lv (lv2 := [some (vr x 7), some (vi u), some (vi v), some (vr out 17), none]) rfl ?_
  refine zr_aload3 X dL_why_0 ?_
  refine zr_iconst (v := (0 : Int32)) X dL_why_1 (by decide) ?_
  refine zr_aload0 X dL_why_2 ?_
  refine zr_iload1 X dL_why_3 ?_
  refine zr_iload2 X dL_why_4 ?_
  refine zr_callVX X zm_L_36 (rm9 := zrm_X7_why) (As := [vi u, vi v]) (st := [vi 0, vr out 17]) (Xp' := fun E J => J = I ∧ (((rWhy S u v).1 = 1 ∧ E = "java/lang/IndexOutOfBoundsException") ∨ ((rWhy S u v).1 = 2 ∧ E = "java/lang/IllegalArgumentException"))) rfl rfl ⟨by decide, Nat.le_of_ble_eq_true rfl⟩ ⟨by decide, by decide⟩ (Nat.le_of_ble_eq_true rfl) dL_why_5 (fun E J hx => ?_) ?_
  · obtain ⟨rfl, hx⟩ := hx
    rcases hx with ⟨h, rfl⟩ | ⟨h, rfl⟩
    · refine zr_caught X ht (hpc := 13) (i := 4) (len := 2) ⟨[], ⟨0, 10, 13, 25⟩, [⟨0, 10, 17, 13⟩], "java/lang/IndexOutOfBoundsException", rfl, (fun z hz => nomatch hz), rfl, by decide, zcl_L_25, zca_25, rfl⟩ (by decide) ?_ (Or.inr ⟨dL_why_13, rfl⟩) ?_
      · intro j hj w hw
        obtain rfl : j = 3 := by omega
        cases hw; rfl
      refine zr_iconst (v := nI 1) X dL_why_15 (by decide) ?_
      refine zr_iret X (by decide) (by decide) dL_why_16 ?_
      have hn : ¬ (rWhy S u v).1 = 0 := by rw [h]; decide
      have k9 := k _ hC hR (fun q => absurd q hn)
      rw [h] at k9; exact k9
    · refine zr_caught X ht (hpc := 17) (i := 4) (len := 2) ⟨[⟨0, 10, 13, 25⟩], ⟨0, 10, 17, 13⟩, [], "java/lang/IllegalArgumentException", rfl, (fun z hz => by
        simp only [List.mem_cons, List.not_mem_nil, or_false] at hz
        rcases hz with rfl
        · exact ⟨by decide, _, zcl_L_25, List.mem_of_getElem? (i := 37) rfl⟩), rfl, by decide, zcl_L_13, zca_13, rfl⟩ (by decide) ?_ (Or.inr ⟨dL_why_17, rfl⟩) ?_
      · intro j hj w hw
        obtain rfl : j = 3 := by omega
        cases hw; rfl
      refine zr_iconst (v := nI 2) X dL_why_19 (by decide) ?_
      refine zr_iret X (by decide) (by decide) dL_why_20 ?_
      have hn : ¬ (rWhy S u v).1 = 0 := by rw [h]; decide
      have k9 := k _ hC hR (fun q => absurd q hn)
      rw [h] at k9; exact k9
  · refine zq_X7_why hC (fun h => ?_) (fun h => ⟨rfl, Or.inl ⟨h, rfl⟩⟩) (fun h => ⟨rfl, Or.inr (⟨h, rfl⟩)⟩)
    have hJ := hC
    refine zr_i2l X dL_why_8 ?_
    refine zr_last X dL_why_9 ?_
    refine zr_goto (tgt := 21) X dL_why_10 (by decide) ?_
    refine zr_iconst (v := nI 0) X dL_why_21 (by decide) ?_
    refine zr_iret X (by decide) (by decide) dL_why_22 ?_
    have k9 := k (zput I out 0 (rWhy S u v).2) (hJ.on (fun q a b => zput_nq (by omega))) (hR.on (fun q a b => (zput_nq (by omega)).trans (hJ.2.2.2.2.1.2 q (Or.inr (by omega))))) (fun _ => zput_eq)
    rw [h] at k9; exact k9
abbrev zrm_L_whyNotJoin : Room := { frames := 10, cells := 3, slots := 18, locals := 164 }
set_option maxRecDepth 20000 in
theorem zL_whyNotJoin {l : Launch} {D : va_G} {b0 : Nat} {tA : Nat → ClassId} {sa sv : Nat → Nat} {K : Nat → Option Nat} {I : zI} {Qp : zI → Option AV → Prop} {x y out f f2 : Nat} {t t2 : Nat → Nat} {er er2 : Int32} {S S2 : zS} {U U2 : List zS} {u v v3 : Int32}
    (hC : zCl I I x t f er S U) (hR : zRf I I y t2 f2 er2 S2 U2) (h1 : x + 501 ≤ y) (h2 : y + 14 ≤ out) (k : ∀ J : zI, zCl J J x t f er S U → zRf J J y t2 f2 er2 S2 U2 → ((rWhyJoin S u v v3).1 = 0 → J out 0 = (rWhyJoin S u v v3).2) → Qp J (some (vi (nI (rWhyJoin S u v v3).1)))) :
    zC l D b0 tA sa sv K yL_whyNotJoin (.codeWith yL_whyNotJoin cL_whyNotJoin 6 (some .int) [(0, 12, 15, 25), (0, 12, 19, 13)]) zrm_L_whyNotJoin [vr x 7, vi u, vi v, vi v3, vr out 17] I Qp (fun _ _ => False) := by
  refine zCW_of (by decide +kernel) (Nat.le_of_ble_eq_true rfl) ?_
  intro p e s m args below meth c X ht
  have X : zX p l e zrm_L_whyNotJoin s m args below meth c RL cL_whyNotJoin 6 (some .int) D b0 tA sa sv := X
  refine zr_lv (lv2 := [some (vr x 7), some (vi u), some (vi v), some (vi v3), some (vr out 17), none]) rfl ?_
  refine zr_aload4 X dL_whyNotJoin_0 ?_
  refine zr_iconst (v := (0 : Int32)) X dL_whyNotJoin_2 (by decide) ?_
  refine zr_aload0 X dL_whyNotJoin_3 ?_
  refine zr_iload1 X dL_whyNotJoin_4 ?_
  refine zr_iload2 X dL_whyNotJoin_5 ?_
  refine zr_iload3 X dL_whyNotJoin_6 ?_
  refine zr_callVX X zm_L_39 (rm9 := zrm_X7_whyNotJoin) (As := [vi u, vi v, vi v3]) (st := [vi 0, vr out 17]) (Xp' := fun E J => J = I ∧ (((rWhyJoin S u v v3).1 = 1 ∧ E = "java/lang/IndexOutOfBoundsException") ∨ ((rWhyJoin S u v v3).1 = 2 ∧ E = "java/lang/IllegalArgumentException"))) rfl rfl ⟨by decide, Nat.le_of_ble_eq_true rfl⟩ ⟨by decide, by decide⟩ (Nat.le_of_ble_eq_true rfl) dL_whyNotJoin_7 (fun E J hx => ?_) ?_
  · obtain ⟨rfl, hx⟩ := hx
    rcases hx with ⟨h, rfl⟩ | ⟨h, rfl⟩
    · refine zr_caught X ht (hpc := 15) (i := 5) (len := 2) ⟨[], ⟨0, 12, 15, 25⟩, [⟨0, 12, 19, 13⟩], "java/lang/IndexOutOfBoundsException", rfl, (fun z hz => nomatch hz), rfl, by decide, zcl_L_25, zca_25, rfl⟩ (by decide) ?_ (Or.inr ⟨dL_whyNotJoin_15, rfl⟩) ?_
      · intro j hj w hw
        obtain rfl : j = 4 := by omega
        cases hw; rfl
      refine zr_iconst (v := nI 1) X dL_whyNotJoin_17 (by decide) ?_
      refine zr_iret X (by decide) (by decide) dL_whyNotJoin_18 ?_
      have hn : ¬ (rWhyJoin S u v v3).1 = 0 := by rw [h]; decide
      have k9 := k _ hC hR (fun q => absurd q hn)
      rw [h] at k9; exact k9
    · refine zr_caught X ht (hpc := 19) (i := 5) (len := 2) ⟨[⟨0, 12, 15, 25⟩], ⟨0, 12, 19, 13⟩, [], "java/lang/IllegalArgumentException", rfl, (fun z hz => by
        simp only [List.mem_cons, List.not_mem_nil, or_false] at hz
        rcases hz with rfl
        · exact ⟨by decide, _, zcl_L_25, List.mem_of_getElem? (i := 37) rfl⟩), rfl, by decide, zcl_L_13, zca_13, rfl⟩ (by decide) ?_ (Or.inr ⟨dL_whyNotJoin_19, rfl⟩) ?_
      · intro j hj w hw
        obtain rfl : j = 4 := by omega
        cases hw; rfl
      refine zr_iconst (v := nI 2) X dL_whyNotJoin_21 (by decide) ?_
      refine zr_iret X (by decide) (by decide) dL_whyNotJoin_22 ?_
      have hn : ¬ (rWhyJoin S u v v3).1 = 0 := by rw [h]; decide
      have k9 := k _ hC hR (fun q => absurd q hn)
      rw [h] at k9; exact k9
  · refine zq_X7_whyNotJoin hC (fun h => ?_) (fun h => ⟨rfl, Or.inl ⟨h, rfl⟩⟩) (fun h => ⟨rfl, Or.inr (⟨h, rfl⟩)⟩)
    have hJ := hC
    refine zr_i2l X dL_whyNotJoin_10 ?_
    refine zr_last X dL_whyNotJoin_11 ?_
    refine zr_goto (tgt := 23) X dL_whyNotJoin_12 (by decide) ?_
    refine zr_iconst (v := nI 0) X dL_whyNotJoin_23 (by decide) ?_
    refine zr_iret X (by decide) (by decide) dL_whyNotJoin_24 ?_
    have k9 := k (zput I out 0 (rWhyJoin S u v v3).2) (hJ.on (fun q a b => zput_nq (by omega))) (hR.on (fun q a b => (zput_nq (by omega)).trans (hJ.2.2.2.2.1.2 q (Or.inr (by omega))))) (fun _ => zput_eq)
    rw [h] at k9; exact k9
abbrev zrm_L_bestGate : Room := { frames := 10, cells := 1, slots := 6, locals := 165 }
set_option maxRecDepth 20000 in
theorem zL_bestGate {l : Launch} {D : va_G} {b0 : Nat} {tA : Nat → ClassId} {sa sv : Nat → Nat} {K : Nat → Option Nat} {I : zI} {Qp : zI → Option AV → Prop} {x y out f f2 : Nat} {t t2 : Nat → Nat} {er er2 : Int32} {S S2 : zS} {U U2 : List zS} {v : Int32}
    (hC : zCl I I x t f er S U) (hR : zRf I I y t2 f2 er2 S2 U2) (h1 : x + 501 ≤ y) (h2 : y + 14 ≤ out) (k : ∀ J : zI, zCl J J x t f er S U → zRf J J y t2 f2 er2 S2 U2 → ((rBest S v).1 = 0 → J out 0 = (rBest S v).2) → Qp J (some (vi (nI (rBest S v).1)))) :
    zC l D b0 tA sa sv K yL_bestGate (.codeWith yL_bestGate cL_bestGate 4 (some .int) [(0, 9, 12, 13)]) zrm_L_bestGate [vr x 7, vi v, vr out 17] I Qp (fun _ _ => False) := by
  refine zCW_of (by decide +kernel) (Nat.le_of_ble_eq_true rfl) ?_
  intro p e s m args below meth c X ht
  have X : zX p l e zrm_L_bestGate s m args below meth c RL cL_bestGate 4 (some .int) D b0 tA sa sv := X
  refine zr_lv (lv2 := [some (vr x 7), some (vi v), some (vr out 17), none]) rfl ?_
  refine zr_aload2 X dL_bestGate_0 ?_
  refine zr_iconst (v := (0 : Int32)) X dL_bestGate_1 (by decide) ?_
  refine zr_aload0 X dL_bestGate_2 ?_
  refine zr_iload1 X dL_bestGate_3 ?_
  refine zr_callVX X zm_L_42 (rm9 := zrm_X7_bestGate) (As := [vi v]) (st := [vi 0, vr out 17]) (Xp' := fun E J => J = I ∧ (((rBest S v).1 = 1 ∧ E = "java/lang/IllegalArgumentException"))) rfl rfl ⟨by decide, Nat.le_of_ble_eq_true rfl⟩ ⟨by decide, by decide⟩ (Nat.le_of_ble_eq_true rfl) dL_bestGate_4 (fun E J hx => ?_) ?_
  · obtain ⟨rfl, hx⟩ := hx
    rcases hx with ⟨h, rfl⟩
    · refine zr_caught X ht (hpc := 12) (i := 3) (len := 1) ⟨[], ⟨0, 9, 12, 13⟩, [], "java/lang/IllegalArgumentException", rfl, (fun z hz => nomatch hz), rfl, by decide, zcl_L_13, zca_13, rfl⟩ (by decide) ?_ (Or.inl ⟨3, rfl, dL_bestGate_12, rfl⟩) ?_
      · intro j hj w hw
        obtain rfl : j = 2 := by omega
        cases hw; rfl
      refine zr_iconst (v := nI 1) X dL_bestGate_13 (by decide) ?_
      refine zr_iret X (by decide) (by decide) dL_bestGate_14 ?_
      have hn : ¬ (rBest S v).1 = 0 := by rw [h]; decide
      have k9 := k _ hC hR (fun q => absurd q hn)
      rw [h] at k9; exact k9
  · refine zq_X7_bestGate hC (fun h => ?_) (fun h => ⟨rfl, ⟨h, rfl⟩⟩)
    have hJ := hC
    refine zr_i2l X dL_bestGate_7 ?_
    refine zr_last X dL_bestGate_8 ?_
    refine zr_goto (tgt := 15) X dL_bestGate_9 (by decide) ?_
    refine zr_iconst (v := nI 0) X dL_bestGate_15 (by decide) ?_
    refine zr_iret X (by decide) (by decide) dL_bestGate_16 ?_
    have k9 := k (zput I out 0 (rBest S v).2) (hJ.on (fun q a b => zput_nq (by omega))) (hR.on (fun q a b => (zput_nq (by omega)).trans (hJ.2.2.2.2.1.2 q (Or.inr (by omega))))) (fun _ => zput_eq)
    rw [h] at k9; exact k9
abbrev zrm_L_nextSide : Room := { frames := 10, cells := 1, slots := 6, locals := 162 }
set_option maxRecDepth 20000 in
theorem zL_nextSide {l : Launch} {D : va_G} {b0 : Nat} {tA : Nat → ClassId} {sa sv : Nat → Nat} {K : Nat → Option Nat} {I : zI} {Qp : zI → Option AV → Prop} {x y out f f2 : Nat} {t t2 : Nat → Nat} {er er2 : Int32} {S S2 : zS} {U U2 : List zS} {u : Int32}
    (hC : zCl I I x t f er S U) (hR : zRf I I y t2 f2 er2 S2 U2) (h1 : x + 501 ≤ y) (h2 : y + 14 ≤ out) (k : ∀ J : zI, zCl J J x t f er S U → zRf J J y t2 f2 er2 S2 U2 → ((rNext S u).1 = 0 → J out 0 = (rNext S u).2) → Qp J (some (vi (nI (rNext S u).1)))) :
    zC l D b0 tA sa sv K yL_nextSide (.codeWith yL_nextSide cL_nextSide 4 (some .int) [(0, 9, 12, 25)]) zrm_L_nextSide [vr x 7, vi u, vr out 17] I Qp (fun _ _ => False) := by
  refine zCW_of (by decide +kernel) (Nat.le_of_ble_eq_true rfl) ?_
  intro p e s m args below meth c X ht
  have X : zX p l e zrm_L_nextSide s m args below meth c RL cL_nextSide 4 (some .int) D b0 tA sa sv := X
  refine zr_lv (lv2 := [some (vr x 7), some (vi u), some (vr out 17), none]) rfl ?_
  refine zr_aload2 X dL_nextSide_0 ?_
  refine zr_iconst (v := (0 : Int32)) X dL_nextSide_1 (by decide) ?_
  refine zr_aload0 X dL_nextSide_2 ?_
  refine zr_iload1 X dL_nextSide_3 ?_
  refine zr_callVX X zm_L_45 (rm9 := zrm_X7_nextSide) (As := [vi u]) (st := [vi 0, vr out 17]) (Xp' := fun E J => J = I ∧ (((rNext S u).1 = 1 ∧ E = "java/lang/IndexOutOfBoundsException"))) rfl rfl ⟨by decide, Nat.le_of_ble_eq_true rfl⟩ ⟨by decide, by decide⟩ (Nat.le_of_ble_eq_true rfl) dL_nextSide_4 (fun E J hx => ?_) ?_
  · obtain ⟨rfl, hx⟩ := hx
    rcases hx with ⟨h, rfl⟩
    · refine zr_caught X ht (hpc := 12) (i := 3) (len := 1) ⟨[], ⟨0, 9, 12, 25⟩, [], "java/lang/IndexOutOfBoundsException", rfl, (fun z hz => nomatch hz), rfl, by decide, zcl_L_25, zca_25, rfl⟩ (by decide) ?_ (Or.inl ⟨3, rfl, dL_nextSide_12, rfl⟩) ?_
      · intro j hj w hw
        obtain rfl : j = 2 := by omega
        cases hw; rfl
      refine zr_iconst (v := nI 1) X dL_nextSide_13 (by decide) ?_
      refine zr_iret X (by decide) (by decide) dL_nextSide_14 ?_
      have hn : ¬ (rNext S u).1 = 0 := by rw [h]; decide
      have k9 := k _ hC hR (fun q => absurd q hn)
      rw [h] at k9; exact k9
  · refine zq_X7_nextSide hC (fun h => ?_) (fun h => ⟨rfl, ⟨h, rfl⟩⟩)
    have hJ := hC
    refine zr_i2l X dL_nextSide_7 ?_
    refine zr_last X dL_nextSide_8 ?_
    refine zr_goto (tgt := 15) X dL_nextSide_9 (by decide) ?_
    refine zr_iconst (v := nI 0) X dL_nextSide_15 (by decide) ?_
    refine zr_iret X (by decide) (by decide) dL_nextSide_16 ?_
    have k9 := k (zput I out 0 (rNext S u).2) (hJ.on (fun q a b => zput_nq (by omega))) (hR.on (fun q a b => (zput_nq (by omega)).trans (hJ.2.2.2.2.1.2 q (Or.inr (by omega))))) (fun _ => zput_eq)
    rw [h] at k9; exact k9
abbrev zrm_L_throughIn : Room := { frames := 10, cells := 1, slots := 6, locals := 163 }
set_option maxRecDepth 20000 in
theorem zL_throughIn {l : Launch} {D : va_G} {b0 : Nat} {tA : Nat → ClassId} {sa sv : Nat → Nat} {K : Nat → Option Nat} {I : zI} {Qp : zI → Option AV → Prop} {x y out f f2 : Nat} {t t2 : Nat → Nat} {er er2 : Int32} {S S2 : zS} {U U2 : List zS} {v : Int32}
    (hC : zCl I I x t f er S U) (hR : zRf I I y t2 f2 er2 S2 U2) (h1 : x + 501 ≤ y) (h2 : y + 14 ≤ out) (k : ∀ J : zI, zCl J J x t f er S U → zRf J J y t2 f2 er2 S2 U2 → ((rThrough S v).1 = 0 → J out 0 = (rThrough S v).2) → Qp J (some (vi (nI (rThrough S v).1)))) :
    zC l D b0 tA sa sv K yL_throughIn (.codeWith yL_throughIn cL_throughIn 4 (some .int) [(0, 9, 12, 25)]) zrm_L_throughIn [vr x 7, vi v, vr out 17] I Qp (fun _ _ => False) := by
  refine zCW_of (by decide +kernel) (Nat.le_of_ble_eq_true rfl) ?_
  intro p e s m args below meth c X ht
  have X : zX p l e zrm_L_throughIn s m args below meth c RL cL_throughIn 4 (some .int) D b0 tA sa sv := X
  refine zr_lv (lv2 := [some (vr x 7), some (vi v), some (vr out 17), none]) rfl ?_
  refine zr_aload2 X dL_throughIn_0 ?_
  refine zr_iconst (v := (0 : Int32)) X dL_throughIn_1 (by decide) ?_
  refine zr_aload0 X dL_throughIn_2 ?_
  refine zr_iload1 X dL_throughIn_3 ?_
  refine zr_callVX X zm_L_48 (rm9 := zrm_X7_throughIn) (As := [vi v]) (st := [vi 0, vr out 17]) (Xp' := fun E J => J = I ∧ (((rThrough S v).1 = 1 ∧ E = "java/lang/IndexOutOfBoundsException"))) rfl rfl ⟨by decide, Nat.le_of_ble_eq_true rfl⟩ ⟨by decide, by decide⟩ (Nat.le_of_ble_eq_true rfl) dL_throughIn_4 (fun E J hx => ?_) ?_
  · obtain ⟨rfl, hx⟩ := hx
    rcases hx with ⟨h, rfl⟩
    · refine zr_caught X ht (hpc := 12) (i := 3) (len := 1) ⟨[], ⟨0, 9, 12, 25⟩, [], "java/lang/IndexOutOfBoundsException", rfl, (fun z hz => nomatch hz), rfl, by decide, zcl_L_25, zca_25, rfl⟩ (by decide) ?_ (Or.inl ⟨3, rfl, dL_throughIn_12, rfl⟩) ?_
      · intro j hj w hw
        obtain rfl : j = 2 := by omega
        cases hw; rfl
      refine zr_iconst (v := nI 1) X dL_throughIn_13 (by decide) ?_
      refine zr_iret X (by decide) (by decide) dL_throughIn_14 ?_
      have hn : ¬ (rThrough S v).1 = 0 := by rw [h]; decide
      have k9 := k _ hC hR (fun q => absurd q hn)
      rw [h] at k9; exact k9
  · refine zq_X7_throughIn hC (fun h J hJ => ?_) (fun h => ⟨rfl, ⟨h, rfl⟩⟩)
    refine zr_i2l X dL_throughIn_7 ?_
    refine zr_last X dL_throughIn_8 ?_
    refine zr_goto (tgt := 15) X dL_throughIn_9 (by decide) ?_
    refine zr_iconst (v := nI 0) X dL_throughIn_15 (by decide) ?_
    refine zr_iret X (by decide) (by decide) dL_throughIn_16 ?_
    have k9 := k (zput J out 0 (rThrough S v).2) (hJ.on (fun q a b => zput_nq (by omega))) (hR.on (fun q a b => (zput_nq (by omega)).trans (hJ.2.2.2.2.1.2 q (Or.inr (by omega))))) (fun _ => zput_eq)
    rw [h] at k9; exact k9
abbrev zrm_L_insideIn : Room := { frames := 10, cells := 1, slots := 6, locals := 162 }
set_option maxRecDepth 20000 in
theorem zL_insideIn {l : Launch} {D : va_G} {b0 : Nat} {tA : Nat → ClassId} {sa sv : Nat → Nat} {K : Nat → Option Nat} {I : zI} {Qp : zI → Option AV → Prop} {x y out f f2 : Nat} {t t2 : Nat → Nat} {er er2 : Int32} {S S2 : zS} {U U2 : List zS} {v : Int32}
    (hC : zCl I I x t f er S U) (hR : zRf I I y t2 f2 er2 S2 U2) (h1 : x + 501 ≤ y) (h2 : y + 14 ≤ out) (k : ∀ J : zI, zCl J J x t f er S U → zRf J J y t2 f2 er2 S2 U2 → ((rInside S v).1 = 0 → J out 0 = (rInside S v).2) → Qp J (some (vi (nI (rInside S v).1)))) :
    zC l D b0 tA sa sv K yL_insideIn (.codeWith yL_insideIn cL_insideIn 4 (some .int) [(0, 9, 12, 13)]) zrm_L_insideIn [vr x 7, vi v, vr out 17] I Qp (fun _ _ => False) := by
  refine zCW_of (by decide +kernel) (Nat.le_of_ble_eq_true rfl) ?_
  intro p e s m args below meth c X ht
  have X : zX p l e zrm_L_insideIn s m args below meth c RL cL_insideIn 4 (some .int) D b0 tA sa sv := X
  refine zr_lv (lv2 := [some (vr x 7), some (vi v), some (vr out 17), none]) rfl ?_
  refine zr_aload2 X dL_insideIn_0 ?_
  refine zr_iconst (v := (0 : Int32)) X dL_insideIn_1 (by decide) ?_
  refine zr_aload0 X dL_insideIn_2 ?_
  refine zr_iload1 X dL_insideIn_3 ?_
  refine zr_callVX X zm_L_51 (rm9 := zrm_X7_insideIn) (As := [vi v]) (st := [vi 0, vr out 17]) (Xp' := fun E J => J = I ∧ (((rInside S v).1 = 1 ∧ E = "java/lang/IllegalArgumentException"))) rfl rfl ⟨by decide, Nat.le_of_ble_eq_true rfl⟩ ⟨by decide, by decide⟩ (Nat.le_of_ble_eq_true rfl) dL_insideIn_4 (fun E J hx => ?_) ?_
  · obtain ⟨rfl, hx⟩ := hx
    rcases hx with ⟨h, rfl⟩
    · refine zr_caught X ht (hpc := 12) (i := 3) (len := 1) ⟨[], ⟨0, 9, 12, 13⟩, [], "java/lang/IllegalArgumentException", rfl, (fun z hz => nomatch hz), rfl, by decide, zcl_L_13, zca_13, rfl⟩ (by decide) ?_ (Or.inl ⟨3, rfl, dL_insideIn_12, rfl⟩) ?_
      · intro j hj w hw
        obtain rfl : j = 2 := by omega
        cases hw; rfl
      refine zr_iconst (v := nI 1) X dL_insideIn_13 (by decide) ?_
      refine zr_iret X (by decide) (by decide) dL_insideIn_14 ?_
      have hn : ¬ (rInside S v).1 = 0 := by rw [h]; decide
      have k9 := k _ hC hR (fun q => absurd q hn)
      rw [h] at k9; exact k9
  · refine zq_X7_insideIn hC (fun h J hJ => ?_) (fun h => ⟨rfl, ⟨h, rfl⟩⟩)
    refine zr_i2l X dL_insideIn_7 ?_
    refine zr_last X dL_insideIn_8 ?_
    refine zr_goto (tgt := 15) X dL_insideIn_9 (by decide) ?_
    refine zr_iconst (v := nI 0) X dL_insideIn_15 (by decide) ?_
    refine zr_iret X (by decide) (by decide) dL_insideIn_16 ?_
    have k9 := k (zput J out 0 (rInside S v).2) (hJ.on (fun q a b => zput_nq (by omega))) (hR.on (fun q a b => (zput_nq (by omega)).trans (hJ.2.2.2.2.1.2 q (Or.inr (by omega))))) (fun _ => zput_eq)
    rw [h] at k9; exact k9
abbrev zrm_L_followersIn : Room := { frames := 10, cells := 1, slots := 6, locals := 162 }
set_option maxRecDepth 20000 in
theorem zL_followersIn {l : Launch} {D : va_G} {b0 : Nat} {tA : Nat → ClassId} {sa sv : Nat → Nat} {K : Nat → Option Nat} {I : zI} {Qp : zI → Option AV → Prop} {x y out f f2 : Nat} {t t2 : Nat → Nat} {er er2 : Int32} {S S2 : zS} {U U2 : List zS} {v : Int32}
    (hC : zCl I I x t f er S U) (hR : zRf I I y t2 f2 er2 S2 U2) (h1 : x + 501 ≤ y) (h2 : y + 14 ≤ out) (k : ∀ J : zI, zCl J J x t f er S U → zRf J J y t2 f2 er2 S2 U2 → ((rFollow S v).1 = 0 → J out 0 = (rFollow S v).2) → Qp J (some (vi (nI (rFollow S v).1)))) :
    zC l D b0 tA sa sv K yL_followersIn (.codeWith yL_followersIn cL_followersIn 4 (some .int) [(0, 9, 12, 13)]) zrm_L_followersIn [vr x 7, vi v, vr out 17] I Qp (fun _ _ => False) := by
  refine zCW_of (by decide +kernel) (Nat.le_of_ble_eq_true rfl) ?_
  intro p e s m args below meth c X ht
  have X : zX p l e zrm_L_followersIn s m args below meth c RL cL_followersIn 4 (some .int) D b0 tA sa sv := X
  refine zr_lv (lv2 := [some (vr x 7), some (vi v), some (vr out 17), none]) rfl ?_
  refine zr_aload2 X dL_followersIn_0 ?_
  refine zr_iconst (v := (0 : Int32)) X dL_followersIn_1 (by decide) ?_
  refine zr_aload0 X dL_followersIn_2 ?_
  refine zr_iload1 X dL_followersIn_3 ?_
  refine zr_callVX X zm_L_54 (rm9 := zrm_X7_followersIn) (As := [vi v]) (st := [vi 0, vr out 17]) (Xp' := fun E J => J = I ∧ (((rFollow S v).1 = 1 ∧ E = "java/lang/IllegalArgumentException"))) rfl rfl ⟨by decide, Nat.le_of_ble_eq_true rfl⟩ ⟨by decide, by decide⟩ (Nat.le_of_ble_eq_true rfl) dL_followersIn_4 (fun E J hx => ?_) ?_
  · obtain ⟨rfl, hx⟩ := hx
    rcases hx with ⟨h, rfl⟩
    · refine zr_caught X ht (hpc := 12) (i := 3) (len := 1) ⟨[], ⟨0, 9, 12, 13⟩, [], "java/lang/IllegalArgumentException", rfl, (fun z hz => nomatch hz), rfl, by decide, zcl_L_13, zca_13, rfl⟩ (by decide) ?_ (Or.inl ⟨3, rfl, dL_followersIn_12, rfl⟩) ?_
      · intro j hj w hw
        obtain rfl : j = 2 := by omega
        cases hw; rfl
      refine zr_iconst (v := nI 1) X dL_followersIn_13 (by decide) ?_
      refine zr_iret X (by decide) (by decide) dL_followersIn_14 ?_
      have hn : ¬ (rFollow S v).1 = 0 := by rw [h]; decide
      have k9 := k _ hC hR (fun q => absurd q hn)
      rw [h] at k9; exact k9
  · refine zq_X7_followersIn hC (fun h J hJ => ?_) (fun h => ⟨rfl, ⟨h, rfl⟩⟩)
    refine zr_i2l X dL_followersIn_7 ?_
    refine zr_last X dL_followersIn_8 ?_
    refine zr_goto (tgt := 15) X dL_followersIn_9 (by decide) ?_
    refine zr_iconst (v := nI 0) X dL_followersIn_15 (by decide) ?_
    refine zr_iret X (by decide) (by decide) dL_followersIn_16 ?_
    have k9 := k (zput J out 0 (rFollow S v).2) (hJ.on (fun q a b => zput_nq (by omega))) (hR.on (fun q a b => (zput_nq (by omega)).trans (hJ.2.2.2.2.1.2 q (Or.inr (by omega))))) (fun _ => zput_eq)
    rw [h] at k9; exact k9
abbrev zrm_L_ranked : Room := { frames := 9, cells := 1, slots := 6, locals := 142 }
set_option maxRecDepth 20000 in
theorem zL_ranked {l : Launch} {D : va_G} {b0 : Nat} {tA : Nat → ClassId} {sa sv : Nat → Nat} {K : Nat → Option Nat} {I : zI} {Qp : zI → Option AV → Prop} {x y out f f2 : Nat} {t t2 : Nat → Nat} {er er2 : Int32} {S S2 : zS} {U U2 : List zS} {v : Int32}
    (hC : zCl I I x t f er S U) (hR : zRf I I y t2 f2 er2 S2 U2) (h1 : x + 501 ≤ y) (h2 : y + 14 ≤ out) (k : ∀ J : zI, zCl J J x t f er S U → zRf J J y t2 f2 er2 S2 U2 → ((rRank S v).1 = 0 → J out 0 = (rRank S v).2) → Qp J (some (vi (nI (rRank S v).1)))) :
    zC l D b0 tA sa sv K yL_ranked (.codeWith yL_ranked cL_ranked 4 (some .int) [(0, 9, 12, 34)]) zrm_L_ranked [vr x 7, vi v, vr out 17] I Qp (fun _ _ => False) := by
  refine zCW_of (by decide +kernel) (Nat.le_of_ble_eq_true rfl) ?_
  intro p e s m args below meth c X ht
  have X : zX p l e zrm_L_ranked s m args below meth c RL cL_ranked 4 (some .int) D b0 tA sa sv := X
  refine zr_lv (lv2 := [some (vr x 7), some (vi v), some (vr out 17), none]) rfl ?_
  refine zr_aload2 X dL_ranked_0 ?_
  refine zr_iconst (v := (0 : Int32)) X dL_ranked_1 (by decide) ?_
  refine zr_aload0 X dL_ranked_2 ?_
  refine zr_iload1 X dL_ranked_3 ?_
  refine zr_callVX X zm_L_57 (rm9 := zrm_X7_ranked) (As := [vi v]) (st := [vi 0, vr out 17]) (Xp' := fun E J => J = I ∧ (((rRank S v).1 = 1 ∧ E = "java/util/NoSuchElementException"))) rfl rfl ⟨by decide, Nat.le_of_ble_eq_true rfl⟩ ⟨by decide, by decide⟩ (Nat.le_of_ble_eq_true rfl) dL_ranked_4 (fun E J hx => ?_) ?_
  · obtain ⟨rfl, hx⟩ := hx
    rcases hx with ⟨h, rfl⟩
    · refine zr_caught X ht (hpc := 12) (i := 3) (len := 1) ⟨[], ⟨0, 9, 12, 34⟩, [], "java/util/NoSuchElementException", rfl, (fun z hz => nomatch hz), rfl, by decide, zcl_L_34, zca_34, rfl⟩ (by decide) ?_ (Or.inl ⟨3, rfl, dL_ranked_12, rfl⟩) ?_
      · intro j hj w hw
        obtain rfl : j = 2 := by omega
        cases hw; rfl
      refine zr_iconst (v := nI 1) X dL_ranked_13 (by decide) ?_
      refine zr_iret X (by decide) (by decide) dL_ranked_14 ?_
      have hn : ¬ (rRank S v).1 = 0 := by rw [h]; decide
      have k9 := k _ hC hR (fun q => absurd q hn)
      rw [h] at k9; exact k9
  · refine zq_X7_ranked hC (fun h => ?_) (fun h => ⟨rfl, ⟨h, rfl⟩⟩)
    have hJ := hC
    refine zr_i2l X dL_ranked_7 ?_
    refine zr_last X dL_ranked_8 ?_
    refine zr_goto (tgt := 15) X dL_ranked_9 (by decide) ?_
    refine zr_iconst (v := nI 0) X dL_ranked_15 (by decide) ?_
    refine zr_iret X (by decide) (by decide) dL_ranked_16 ?_
    have k9 := k (zput I out 0 (rRank S v).2) (hJ.on (fun q a b => zput_nq (by omega))) (hR.on (fun q a b => (zput_nq (by omega)).trans (hJ.2.2.2.2.1.2 q (Or.inr (by omega))))) (fun _ => zput_eq)
    rw [h] at k9; exact k9
abbrev zrm_L_join : Room := { frames := 10, cells := 3, slots := 18, locals := 166 }
set_option maxRecDepth 20000 in
theorem zL_join {l : Launch} {D : va_G} {b0 : Nat} {tA : Nat → ClassId} {sa sv : Nat → Nat} {K : Nat → Option Nat} {I : zI} {Qp : zI → Option AV → Prop} {x y out f f2 : Nat} {t t2 : Nat → Nat} {er er2 : Int32} {S S2 : zS} {U U2 : List zS} {u v v3 : Int32}
    (hC : zCl I I x t f er S U) (hR : zRf I I y t2 f2 er2 S2 U2) (h1 : x + 501 ≤ y) (h2 : y + 14 ≤ out) (k : ∀ J : zI, zCl J J x t f er (if (rJoin S u v v3).1 = 0 then sJoin S u v v3 else S) (if (rJoin S u v v3).1 = 0 then qPush S U else U) → zRf J J y t2 f2 er2 S2 U2 → ((rJoin S u v v3).1 = 0 → J out 0 = (rJoin S u v v3).2) → Qp J (some (vi (nI (rJoin S u v v3).1)))) :
    zC l D b0 tA sa sv K yL_join (.codeWith yL_join cL_join 6 (some .int) [(0, 12, 15, 25), (0, 12, 19, 13)]) zrm_L_join [vr x 7, vi u, vi v, vi v3, vr out 17] I Qp (fun _ _ => False) := by
  refine zCW_of (by decide +kernel) (Nat.le_of_ble_eq_true rfl) ?_
  intro p e s m args below meth c X ht
  have X : zX p l e zrm_L_join s m args below meth c RL cL_join 6 (some .int) D b0 tA sa sv := X
  refine zr_lv (lv2 := [some (vr x 7), some (vi u), some (vi v), some (vi v3), some (vr out 17), none]) rfl ?_
  refine zr_aload4 X dL_join_0 ?_
  refine zr_iconst (v := (0 : Int32)) X dL_join_2 (by decide) ?_
  refine zr_aload0 X dL_join_3 ?_
  refine zr_iload1 X dL_join_4 ?_
  refine zr_iload2 X dL_join_5 ?_
  refine zr_iload3 X dL_join_6 ?_
  refine zr_callVX X zm_L_60 (rm9 := zrm_X7_join) (As := [vi u, vi v, vi v3]) (st := [vi 0, vr out 17]) (Xp' := fun E J => J = I ∧ (((rJoin S u v v3).1 = 1 ∧ E = "java/lang/IndexOutOfBoundsException") ∨ ((rJoin S u v v3).1 = 2 ∧ E = "java/lang/IllegalArgumentException"))) rfl rfl ⟨by decide, Nat.le_of_ble_eq_true rfl⟩ ⟨by decide, by decide⟩ (Nat.le_of_ble_eq_true rfl) dL_join_7 (fun E J hx => ?_) ?_
  · obtain ⟨rfl, hx⟩ := hx
    rcases hx with ⟨h, rfl⟩ | ⟨h, rfl⟩
    · refine zr_caught X ht (hpc := 15) (i := 5) (len := 2) ⟨[], ⟨0, 12, 15, 25⟩, [⟨0, 12, 19, 13⟩], "java/lang/IndexOutOfBoundsException", rfl, (fun z hz => nomatch hz), rfl, by decide, zcl_L_25, zca_25, rfl⟩ (by decide) ?_ (Or.inr ⟨dL_join_15, rfl⟩) ?_
      · intro j hj w hw
        obtain rfl : j = 4 := by omega
        cases hw; rfl
      refine zr_iconst (v := nI 1) X dL_join_17 (by decide) ?_
      refine zr_iret X (by decide) (by decide) dL_join_18 ?_
      have hn : ¬ (rJoin S u v v3).1 = 0 := by rw [h]; decide
      simp only [if_neg hn] at k
      have k9 := k _ hC hR (fun q => absurd q hn)
      rw [h] at k9; exact k9
    · refine zr_caught X ht (hpc := 19) (i := 5) (len := 2) ⟨[⟨0, 12, 15, 25⟩], ⟨0, 12, 19, 13⟩, [], "java/lang/IllegalArgumentException", rfl, (fun z hz => by
        simp only [List.mem_cons, List.not_mem_nil, or_false] at hz
        rcases hz with rfl
        · exact ⟨by decide, _, zcl_L_25, List.mem_of_getElem? (i := 37) rfl⟩), rfl, by decide, zcl_L_13, zca_13, rfl⟩ (by decide) ?_ (Or.inr ⟨dL_join_19, rfl⟩) ?_
      · intro j hj w hw
        obtain rfl : j = 4 := by omega
        cases hw; rfl
      refine zr_iconst (v := nI 2) X dL_join_21 (by decide) ?_
      refine zr_iret X (by decide) (by decide) dL_join_22 ?_
      have hn : ¬ (rJoin S u v v3).1 = 0 := by rw [h]; decide
      simp only [if_neg hn] at k
      have k9 := k _ hC hR (fun q => absurd q hn)
      rw [h] at k9; exact k9
  · refine zq_X7_join hC (fun h J hJ => ?_) (fun h => ⟨rfl, Or.inl ⟨h, rfl⟩⟩) (fun h => ⟨rfl, Or.inr (⟨h, rfl⟩)⟩)
    refine zr_i2l X dL_join_10 ?_
    refine zr_last X dL_join_11 ?_
    refine zr_goto (tgt := 23) X dL_join_12 (by decide) ?_
    refine zr_iconst (v := nI 0) X dL_join_23 (by decide) ?_
    refine zr_iret X (by decide) (by decide) dL_join_24 ?_
    simp only [if_pos h] at k
    have k9 := k (zput J out 0 (rJoin S u v v3).2) (hJ.on (fun q a b => zput_nq (by omega))) (hR.on (fun q a b => (zput_nq (by omega)).trans (hJ.2.2.2.2.1.2 q (Or.inr (by omega))))) (fun _ => zput_eq)
    rw [h] at k9; exact k9
abbrev zrm_L_leave : Room := { frames := 10, cells := 3, slots := 18, locals := 165 }
set_option maxRecDepth 20000 in
theorem zL_leave {l : Launch} {D : va_G} {b0 : Nat} {tA : Nat → ClassId} {sa sv : Nat → Nat} {K : Nat → Option Nat} {I : zI} {Qp : zI → Option AV → Prop} {x y out f f2 : Nat} {t t2 : Nat → Nat} {er er2 : Int32} {S S2 : zS} {U U2 : List zS} {u v v3 : Int32}
    (hC : zCl I I x t f er S U) (hR : zRf I I y t2 f2 er2 S2 U2) (h1 : x + 501 ≤ y) (h2 : y + 14 ≤ out) (k : ∀ J : zI, zCl J J x t f er (if (rLeave S u v v3).1 = 0 then sLeave S u v v3 else S) (if (rLeave S u v v3).1 = 0 then qPush S U else U) → zRf J J y t2 f2 er2 S2 U2 → ((rLeave S u v v3).1 = 0 → J out 0 = (rLeave S u v v3).2) → Qp J (some (vi (nI (rLeave S u v v3).1)))) :
    zC l D b0 tA sa sv K yL_leave (.codeWith yL_leave cL_leave 6 (some .int) [(0, 12, 15, 25), (0, 12, 19, 13), (0, 12, 23, 34), (0, 12, 27, 66)]) zrm_L_leave [vr x 7, vi u, vi v, vi v3, vr out 17] I Qp (fun _ _ => False) := by
  refine zCW_of (by decide +kernel) (Nat.le_of_ble_eq_true rfl) ?_
  intro p e s m args below meth c X ht
  have X : zX p l e zrm_L_leave s m args below meth c RL cL_leave 6 (some .int) D b0 tA sa sv := X
  refine zr_lv (lv2 := [some (vr x 7), some (vi u), some (vi v), some (vi v3), some (vr out 17), none]) rfl ?_
  refine zr_aload4 X dL_leave_0 ?_
  refine zr_iconst (v := (0 : Int32)) X dL_leave_2 (by decide) ?_
  refine zr_aload0 X dL_leave_3 ?_
  refine zr_iload1 X dL_leave_4 ?_
  refine zr_iload2 X dL_leave_5 ?_
  refine zr_iload3 X dL_leave_6 ?_
  refine zr_callVX X zm_L_63 (rm9 := zrm_X7_leave) (As := [vi u, vi v, vi v3]) (st := [vi 0, vr out 17]) (Xp' := fun E J => J = I ∧ (((rLeave S u v v3).1 = 1 ∧ E = "java/lang/IndexOutOfBoundsException") ∨ ((rLeave S u v v3).1 = 2 ∧ E = "java/lang/IllegalArgumentException") ∨ ((rLeave S u v v3).1 = 3 ∧ E = "java/util/NoSuchElementException") ∨ ((rLeave S u v v3).1 = 4 ∧ E = "java/lang/IllegalStateException"))) rfl rfl ⟨by decide, Nat.le_of_ble_eq_true rfl⟩ ⟨by decide, by decide⟩ (Nat.le_of_ble_eq_true rfl) dL_leave_7 (fun E J hx => ?_) ?_
  · obtain ⟨rfl, hx⟩ := hx
    rcases hx with ⟨h, rfl⟩ | ⟨h, rfl⟩ | ⟨h, rfl⟩ | ⟨h, rfl⟩
    · refine zr_caught X ht (hpc := 15) (i := 5) (len := 2) ⟨[], ⟨0, 12, 15, 25⟩, [⟨0, 12, 19, 13⟩, ⟨0, 12, 23, 34⟩, ⟨0, 12, 27, 66⟩], "java/lang/IndexOutOfBoundsException", rfl, (fun z hz => nomatch hz), rfl, by decide, zcl_L_25, zca_25, rfl⟩ (by decide) ?_ (Or.inr ⟨dL_leave_15, rfl⟩) ?_
      · intro j hj w hw
        obtain rfl : j = 4 := by omega
        cases hw; rfl
      refine zr_iconst (v := nI 1) X dL_leave_17 (by decide) ?_
      refine zr_iret X (by decide) (by decide) dL_leave_18 ?_
      have hn : ¬ (rLeave S u v v3).1 = 0 := by rw [h]; decide
      simp only [if_neg hn] at k
      have k9 := k _ hC hR (fun q => absurd q hn)
      rw [h] at k9; exact k9
    · refine zr_caught X ht (hpc := 19) (i := 5) (len := 2) ⟨[⟨0, 12, 15, 25⟩], ⟨0, 12, 19, 13⟩, [⟨0, 12, 23, 34⟩, ⟨0, 12, 27, 66⟩], "java/lang/IllegalArgumentException", rfl, (fun z hz => by
        simp only [List.mem_cons, List.not_mem_nil, or_false] at hz
        rcases hz with rfl
        · exact ⟨by decide, _, zcl_L_25, List.mem_of_getElem? (i := 37) rfl⟩), rfl, by decide, zcl_L_13, zca_13, rfl⟩ (by decide) ?_ (Or.inr ⟨dL_leave_19, rfl⟩) ?_
      · intro j hj w hw
        obtain rfl : j = 4 := by omega
        cases hw; rfl
      refine zr_iconst (v := nI 2) X dL_leave_21 (by decide) ?_
      refine zr_iret X (by decide) (by decide) dL_leave_22 ?_
      have hn : ¬ (rLeave S u v v3).1 = 0 := by rw [h]; decide
      simp only [if_neg hn] at k
      have k9 := k _ hC hR (fun q => absurd q hn)
      rw [h] at k9; exact k9
    · refine zr_caught X ht (hpc := 23) (i := 5) (len := 2) ⟨[⟨0, 12, 15, 25⟩, ⟨0, 12, 19, 13⟩], ⟨0, 12, 23, 34⟩, [⟨0, 12, 27, 66⟩], "java/util/NoSuchElementException", rfl, (fun z hz => by
        simp only [List.mem_cons, List.not_mem_nil, or_false] at hz
        rcases hz with rfl | rfl
        · exact ⟨by decide, _, zcl_L_25, List.mem_of_getElem? (i := 47) rfl⟩
        · exact ⟨by decide, _, zcl_L_13, List.mem_of_getElem? (i := 45) rfl⟩), rfl, by decide, zcl_L_34, zca_34, rfl⟩ (by decide) ?_ (Or.inr ⟨dL_leave_23, rfl⟩) ?_
      · intro j hj w hw
        obtain rfl : j = 4 := by omega
        cases hw; rfl
      refine zr_iconst (v := nI 3) X dL_leave_25 (by decide) ?_
      refine zr_iret X (by decide) (by decide) dL_leave_26 ?_
      have hn : ¬ (rLeave S u v v3).1 = 0 := by rw [h]; decide
      simp only [if_neg hn] at k
      have k9 := k _ hC hR (fun q => absurd q hn)
      rw [h] at k9; exact k9
    · refine zr_caught X ht (hpc := 27) (i := 5) (len := 2) ⟨[⟨0, 12, 15, 25⟩, ⟨0, 12, 19, 13⟩, ⟨0, 12, 23, 34⟩], ⟨0, 12, 27, 66⟩, [], "java/lang/IllegalStateException", rfl, (fun z hz => by
        simp only [List.mem_cons, List.not_mem_nil, or_false] at hz
        rcases hz with rfl | rfl | rfl
        · exact ⟨by decide, _, zcl_L_25, List.mem_of_getElem? (i := 40) rfl⟩
        · exact ⟨by decide, _, zcl_L_13, List.mem_of_getElem? (i := 39) rfl⟩
        · exact ⟨by decide, _, zcl_L_34, List.mem_of_getElem? (i := 41) rfl⟩), rfl, by decide, zcl_L_66, zca_66, rfl⟩ (by decide) ?_ (Or.inr ⟨dL_leave_27, rfl⟩) ?_
      · intro j hj w hw
        obtain rfl : j = 4 := by omega
        cases hw; rfl
      refine zr_iconst (v := nI 4) X dL_leave_29 (by decide) ?_
      refine zr_iret X (by decide) (by decide) dL_leave_30 ?_
      have hn : ¬ (rLeave S u v v3).1 = 0 := by rw [h]; decide
      simp only [if_neg hn] at k
      have k9 := k _ hC hR (fun q => absurd q hn)
      rw [h] at k9; exact k9
  · refine zq_X7_leave hC (fun h J hJ => ?_) (fun h => ⟨rfl, Or.inl ⟨h, rfl⟩⟩) (fun h => ⟨rfl, Or.inr (Or.inl ⟨h, rfl⟩)⟩) (fun h => ⟨rfl, Or.inr (Or.inr (Or.inl ⟨h, rfl⟩))⟩) (fun h => ⟨rfl, Or.inr (Or.inr (Or.inr (⟨h, rfl⟩)))⟩)
    refine zr_i2l X dL_leave_10 ?_
    refine zr_last X dL_leave_11 ?_
    refine zr_goto (tgt := 31) X dL_leave_12 (by decide) ?_
    refine zr_iconst (v := nI 0) X dL_leave_31 (by decide) ?_
    refine zr_iret X (by decide) (by decide) dL_leave_32 ?_
    simp only [if_pos h] at k
    have k9 := k (zput J out 0 (rLeave S u v v3).2) (hJ.on (fun q a b => zput_nq (by omega))) (hR.on (fun q a b => (zput_nq (by omega)).trans (hJ.2.2.2.2.1.2 q (Or.inr (by omega))))) (fun _ => zput_eq)
    rw [h] at k9; exact k9
abbrev zrm_L_list : Room := { frames := 10, cells := 1, slots := 6, locals := 163 }
set_option maxRecDepth 20000 in
theorem zL_list {l : Launch} {D : va_G} {b0 : Nat} {tA : Nat → ClassId} {sa sv : Nat → Nat} {K : Nat → Option Nat} {I : zI} {Qp : zI → Option AV → Prop} {x y out f f2 : Nat} {t t2 : Nat → Nat} {er er2 : Int32} {S S2 : zS} {U U2 : List zS} {u b : Int32}
    (hC : zCl I I x t f er S U) (hR : zRf I I y t2 f2 er2 S2 U2) (h1 : x + 501 ≤ y) (h2 : y + 14 ≤ out) (hb : b = 0 ∨ b = 1) (k : ∀ J : zI, zCl J J x t f er (if (rList S u b).1 = 0 then sList S u b else S) (if (rList S u b).1 = 0 then qPush S U else U) → zRf J J y t2 f2 er2 S2 U2 → ((rList S u b).1 = 0 → J out 0 = (rList S u b).2) → Qp J (some (vi (nI (rList S u b).1)))) :
    zC l D b0 tA sa sv K yL_list (.codeWith yL_list cL_list 5 (some .int) [(0, 10, 13, 25)]) zrm_L_list [vr x 7, vi u, vi b, vr out 17] I Qp (fun _ _ => False) := by
  refine zCW_of (by decide +kernel) (Nat.le_of_ble_eq_true rfl) ?_
  intro p e s m args below meth c X ht
  have X : zX p l e zrm_L_list s m args below meth c RL cL_list 5 (some .int) D b0 tA sa sv := X
  refine zr_lv (lv2 := [some (vr x 7), some (vi u), some (vi b), some (vr out 17), none]) rfl ?_
  refine zr_aload3 X dL_list_0 ?_
  refine zr_iconst (v := (0 : Int32)) X dL_list_1 (by decide) ?_
  refine zr_aload0 X dL_list_2 ?_
  refine zr_iload1 X dL_list_3 ?_
  refine zr_iload2 X dL_list_4 ?_
  refine zr_callVX X zm_L_68 (rm9 := zrm_X7_list) (As := [vi u, vi b]) (st := [vi 0, vr out 17]) (Xp' := fun E J => J = I ∧ (((rList S u b).1 = 1 ∧ E = "java/lang/IndexOutOfBoundsException"))) rfl rfl ⟨by decide, Nat.le_of_ble_eq_true rfl⟩ ⟨by decide, by decide⟩ (Nat.le_of_ble_eq_true rfl) dL_list_5 (fun E J hx => ?_) ?_
  · obtain ⟨rfl, hx⟩ := hx
    rcases hx with ⟨h, rfl⟩
    · refine zr_caught X ht (hpc := 13) (i := 4) (len := 2) ⟨[], ⟨0, 10, 13, 25⟩, [], "java/lang/IndexOutOfBoundsException", rfl, (fun z hz => nomatch hz), rfl, by decide, zcl_L_25, zca_25, rfl⟩ (by decide) ?_ (Or.inr ⟨dL_list_13, rfl⟩) ?_
      · intro j hj w hw
        obtain rfl : j = 3 := by omega
        cases hw; rfl
      refine zr_iconst (v := nI 1) X dL_list_15 (by decide) ?_
      refine zr_iret X (by decide) (by decide) dL_list_16 ?_
      have hn : ¬ (rList S u b).1 = 0 := by rw [h]; decide
      simp only [if_neg hn] at k
      have k9 := k _ hC hR (fun q => absurd q hn)
      rw [h] at k9; exact k9
  · refine zq_X7_list hC hb (fun h J hJ => ?_) (fun h => ⟨rfl, ⟨h, rfl⟩⟩)
    refine zr_i2l X dL_list_8 ?_
    refine zr_last X dL_list_9 ?_
    refine zr_goto (tgt := 17) X dL_list_10 (by decide) ?_
    refine zr_iconst (v := nI 0) X dL_list_17 (by decide) ?_
    refine zr_iret X (by decide) (by decide) dL_list_18 ?_
    simp only [if_pos h] at k
    have k9 := k (zput J out 0 (rList S u b).2) (hJ.on (fun q a b => zput_nq (by omega))) (hR.on (fun q a b => (zput_nq (by omega)).trans (hJ.2.2.2.2.1.2 q (Or.inr (by omega))))) (fun _ => zput_eq)
    rw [h] at k9; exact k9
abbrev zrm_L_charge : Room := { frames := 10, cells := 2, slots := 12, locals := 163 }
set_option maxRecDepth 20000 in
theorem zL_charge {l : Launch} {D : va_G} {b0 : Nat} {tA : Nat → ClassId} {sa sv : Nat → Nat} {K : Nat → Option Nat} {I : zI} {Qp : zI → Option AV → Prop} {x y out f f2 : Nat} {t t2 : Nat → Nat} {er er2 : Int32} {S S2 : zS} {U U2 : List zS} {u v : Int32}
    (hC : zCl I I x t f er S U) (hR : zRf I I y t2 f2 er2 S2 U2) (h1 : x + 501 ≤ y) (h2 : y + 14 ≤ out) (k : ∀ J : zI, zCl J J x t f er (if (rCharge S u v).1 = 0 then sCharge S u v else S) (if (rCharge S u v).1 = 0 then qPush S U else U) → zRf J J y t2 f2 er2 S2 U2 → ((rCharge S u v).1 = 0 → J out 0 = (rCharge S u v).2) → Qp J (some (vi (nI (rCharge S u v).1)))) :
    zC l D b0 tA sa sv K yL_charge (.codeWith yL_charge cL_charge 5 (some .int) [(0, 10, 13, 25), (0, 10, 17, 13), (0, 10, 21, 66)]) zrm_L_charge [vr x 7, vi u, vi v, vr out 17] I Qp (fun _ _ => False) := by
  refine zCW_of (by decide +kernel) (Nat.le_of_ble_eq_true rfl) ?_
  intro p e s m args below meth c X ht
  have X : zX p l e zrm_L_charge s m args below meth c RL cL_charge 5 (some .int) D b0 tA sa sv := X
  refine zr_lv (lv2 := [some (vr x 7), some (vi u), some (vi v), some (vr out 17), none]) rfl ?_
  refine zr_aload3 X dL_charge_0 ?_
  refine zr_iconst (v := (0 : Int32)) X dL_charge_1 (by decide) ?_
  refine zr_aload0 X dL_charge_2 ?_
  refine zr_iload1 X dL_charge_3 ?_
  refine zr_iload2 X dL_charge_4 ?_
  refine zr_callVX X zm_L_72 (rm9 := zrm_X7_charge) (As := [vi u, vi v]) (st := [vi 0, vr out 17]) (Xp' := fun E J => J = I ∧ (((rCharge S u v).1 = 1 ∧ E = "java/lang/IndexOutOfBoundsException") ∨ ((rCharge S u v).1 = 2 ∧ E = "java/lang/IllegalArgumentException") ∨ ((rCharge S u v).1 = 3 ∧ E = "java/lang/IllegalStateException"))) rfl rfl ⟨by decide, Nat.le_of_ble_eq_true rfl⟩ ⟨by decide, by decide⟩ (Nat.le_of_ble_eq_true rfl) dL_charge_5 (fun E J hx => ?_) ?_
  · obtain ⟨rfl, hx⟩ := hx
    rcases hx with ⟨h, rfl⟩ | ⟨h, rfl⟩ | ⟨h, rfl⟩
    · refine zr_caught X ht (hpc := 13) (i := 4) (len := 2) ⟨[], ⟨0, 10, 13, 25⟩, [⟨0, 10, 17, 13⟩, ⟨0, 10, 21, 66⟩], "java/lang/IndexOutOfBoundsException", rfl, (fun z hz => nomatch hz), rfl, by decide, zcl_L_25, zca_25, rfl⟩ (by decide) ?_ (Or.inr ⟨dL_charge_13, rfl⟩) ?_
      · intro j hj w hw
        obtain rfl : j = 3 := by omega
        cases hw; rfl
      refine zr_iconst (v := nI 1) X dL_charge_15 (by decide) ?_
      refine zr_iret X (by decide) (by decide) dL_charge_16 ?_
      have hn : ¬ (rCharge S u v).1 = 0 := by rw [h]; decide
      simp only [if_neg hn] at k
      have k9 := k _ hC hR (fun q => absurd q hn)
      rw [h] at k9; exact k9
    · refine zr_caught X ht (hpc := 17) (i := 4) (len := 2) ⟨[⟨0, 10, 13, 25⟩], ⟨0, 10, 17, 13⟩, [⟨0, 10, 21, 66⟩], "java/lang/IllegalArgumentException", rfl, (fun z hz => by
        simp only [List.mem_cons, List.not_mem_nil, or_false] at hz
        rcases hz with rfl
        · exact ⟨by decide, _, zcl_L_25, List.mem_of_getElem? (i := 37) rfl⟩), rfl, by decide, zcl_L_13, zca_13, rfl⟩ (by decide) ?_ (Or.inr ⟨dL_charge_17, rfl⟩) ?_
      · intro j hj w hw
        obtain rfl : j = 3 := by omega
        cases hw; rfl
      refine zr_iconst (v := nI 2) X dL_charge_19 (by decide) ?_
      refine zr_iret X (by decide) (by decide) dL_charge_20 ?_
      have hn : ¬ (rCharge S u v).1 = 0 := by rw [h]; decide
      simp only [if_neg hn] at k
      have k9 := k _ hC hR (fun q => absurd q hn)
      rw [h] at k9; exact k9
    · refine zr_caught X ht (hpc := 21) (i := 4) (len := 2) ⟨[⟨0, 10, 13, 25⟩, ⟨0, 10, 17, 13⟩], ⟨0, 10, 21, 66⟩, [], "java/lang/IllegalStateException", rfl, (fun z hz => by
        simp only [List.mem_cons, List.not_mem_nil, or_false] at hz
        rcases hz with rfl | rfl
        · exact ⟨by decide, _, zcl_L_25, List.mem_of_getElem? (i := 40) rfl⟩
        · exact ⟨by decide, _, zcl_L_13, List.mem_of_getElem? (i := 39) rfl⟩), rfl, by decide, zcl_L_66, zca_66, rfl⟩ (by decide) ?_ (Or.inr ⟨dL_charge_21, rfl⟩) ?_
      · intro j hj w hw
        obtain rfl : j = 3 := by omega
        cases hw; rfl
      refine zr_iconst (v := nI 3) X dL_charge_23 (by decide) ?_
      refine zr_iret X (by decide) (by decide) dL_charge_24 ?_
      have hn : ¬ (rCharge S u v).1 = 0 := by rw [h]; decide
      simp only [if_neg hn] at k
      have k9 := k _ hC hR (fun q => absurd q hn)
      rw [h] at k9; exact k9
  · refine zq_X7_charge hC (fun h J hJ => ?_) (fun h => ⟨rfl, Or.inl ⟨h, rfl⟩⟩) (fun h => ⟨rfl, Or.inr (Or.inl ⟨h, rfl⟩)⟩) (fun h => ⟨rfl, Or.inr (Or.inr (⟨h, rfl⟩))⟩)
    refine zr_i2l X dL_charge_8 ?_
    refine zr_last X dL_charge_9 ?_
    refine zr_goto (tgt := 25) X dL_charge_10 (by decide) ?_
    refine zr_iconst (v := nI 0) X dL_charge_25 (by decide) ?_
    refine zr_iret X (by decide) (by decide) dL_charge_26 ?_
    simp only [if_pos h] at k
    have k9 := k (zput J out 0 (rCharge S u v).2) (hJ.on (fun q a b => zput_nq (by omega))) (hR.on (fun q a b => (zput_nq (by omega)).trans (hJ.2.2.2.2.1.2 q (Or.inr (by omega))))) (fun _ => zput_eq)
    rw [h] at k9; exact k9
abbrev zrm_L_mode : Room := { frames := 10, cells := 2, slots := 12, locals := 164 }
set_option maxRecDepth 20000 in
theorem zL_mode {l : Launch} {D : va_G} {b0 : Nat} {tA : Nat → ClassId} {sa sv : Nat → Nat} {K : Nat → Option Nat} {I : zI} {Qp : zI → Option AV → Prop} {x y out f f2 : Nat} {t t2 : Nat → Nat} {er er2 : Int32} {S S2 : zS} {U U2 : List zS} {u v : Int32}
    (hC : zCl I I x t f er S U) (hR : zRf I I y t2 f2 er2 S2 U2) (h1 : x + 501 ≤ y) (h2 : y + 14 ≤ out) (k : ∀ J : zI, zCl J J x t f er (if (rMode S u v).1 = 0 then sMode S u v else S) (if (rMode S u v).1 = 0 then qPush S U else U) → zRf J J y t2 f2 er2 S2 U2 → ((rMode S u v).1 = 0 → J out 0 = (rMode S u v).2) → Qp J (some (vi (nI (rMode S u v).1)))) :
    zC l D b0 tA sa sv K yL_mode (.codeWith yL_mode cL_mode 5 (some .int) [(0, 10, 13, 25), (0, 10, 17, 13), (0, 10, 21, 66)]) zrm_L_mode [vr x 7, vi u, vi v, vr out 17] I Qp (fun _ _ => False) := by
  refine zCW_of (by decide +kernel) (Nat.le_of_ble_eq_true rfl) ?_
  intro p e s m args below meth c X ht
  have X : zX p l e zrm_L_mode s m args below meth c RL cL_mode 5 (some .int) D b0 tA sa sv := X
  refine zr_lv (lv2 := [some (vr x 7), some (vi u), some (vi v), some (vr out 17), none]) rfl ?_
  refine zr_aload3 X dL_mode_0 ?_
  refine zr_iconst (v := (0 : Int32)) X dL_mode_1 (by decide) ?_
  refine zr_aload0 X dL_mode_2 ?_
  refine zr_iload1 X dL_mode_3 ?_
  refine zr_iload2 X dL_mode_4 ?_
  refine zr_callVX X zm_L_75 (rm9 := zrm_X7_mode) (As := [vi u, vi v]) (st := [vi 0, vr out 17]) (Xp' := fun E J => J = I ∧ (((rMode S u v).1 = 1 ∧ E = "java/lang/IndexOutOfBoundsException") ∨ ((rMode S u v).1 = 2 ∧ E = "java/lang/IllegalArgumentException") ∨ ((rMode S u v).1 = 3 ∧ E = "java/lang/IllegalStateException"))) rfl rfl ⟨by decide, Nat.le_of_ble_eq_true rfl⟩ ⟨by decide, by decide⟩ (Nat.le_of_ble_eq_true rfl) dL_mode_5 (fun E J hx => ?_) ?_
  · obtain ⟨rfl, hx⟩ := hx
    rcases hx with ⟨h, rfl⟩ | ⟨h, rfl⟩ | ⟨h, rfl⟩
    · refine zr_caught X ht (hpc := 13) (i := 4) (len := 2) ⟨[], ⟨0, 10, 13, 25⟩, [⟨0, 10, 17, 13⟩, ⟨0, 10, 21, 66⟩], "java/lang/IndexOutOfBoundsException", rfl, (fun z hz => nomatch hz), rfl, by decide, zcl_L_25, zca_25, rfl⟩ (by decide) ?_ (Or.inr ⟨dL_mode_13, rfl⟩) ?_
      · intro j hj w hw
        obtain rfl : j = 3 := by omega
        cases hw; rfl
      refine zr_iconst (v := nI 1) X dL_mode_15 (by decide) ?_
      refine zr_iret X (by decide) (by decide) dL_mode_16 ?_
      have hn : ¬ (rMode S u v).1 = 0 := by rw [h]; decide
      simp only [if_neg hn] at k
      have k9 := k _ hC hR (fun q => absurd q hn)
      rw [h] at k9; exact k9
    · refine zr_caught X ht (hpc := 17) (i := 4) (len := 2) ⟨[⟨0, 10, 13, 25⟩], ⟨0, 10, 17, 13⟩, [⟨0, 10, 21, 66⟩], "java/lang/IllegalArgumentException", rfl, (fun z hz => by
        simp only [List.mem_cons, List.not_mem_nil, or_false] at hz
        rcases hz with rfl
        · exact ⟨by decide, _, zcl_L_25, List.mem_of_getElem? (i := 37) rfl⟩), rfl, by decide, zcl_L_13, zca_13, rfl⟩ (by decide) ?_ (Or.inr ⟨dL_mode_17, rfl⟩) ?_
      · intro j hj w hw
        obtain rfl : j = 3 := by omega
        cases hw; rfl
      refine zr_iconst (v := nI 2) X dL_mode_19 (by decide) ?_
      refine zr_iret X (by decide) (by decide) dL_mode_20 ?_
      have hn : ¬ (rMode S u v).1 = 0 := by rw [h]; decide
      simp only [if_neg hn] at k
      have k9 := k _ hC hR (fun q => absurd q hn)
      rw [h] at k9; exact k9
    · refine zr_caught X ht (hpc := 21) (i := 4) (len := 2) ⟨[⟨0, 10, 13, 25⟩, ⟨0, 10, 17, 13⟩], ⟨0, 10, 21, 66⟩, [], "java/lang/IllegalStateException", rfl, (fun z hz => by
        simp only [List.mem_cons, List.not_mem_nil, or_false] at hz
        rcases hz with rfl | rfl
        · exact ⟨by decide, _, zcl_L_25, List.mem_of_getElem? (i := 40) rfl⟩
        · exact ⟨by decide, _, zcl_L_13, List.mem_of_getElem? (i := 39) rfl⟩), rfl, by decide, zcl_L_66, zca_66, rfl⟩ (by decide) ?_ (Or.inr ⟨dL_mode_21, rfl⟩) ?_
      · intro j hj w hw
        obtain rfl : j = 3 := by omega
        cases hw; rfl
      refine zr_iconst (v := nI 3) X dL_mode_23 (by decide) ?_
      refine zr_iret X (by decide) (by decide) dL_mode_24 ?_
      have hn : ¬ (rMode S u v).1 = 0 := by rw [h]; decide
      simp only [if_neg hn] at k
      have k9 := k _ hC hR (fun q => absurd q hn)
      rw [h] at k9; exact k9
  · refine zq_X7_mode hC (fun h J hJ => ?_) (fun h => ⟨rfl, Or.inl ⟨h, rfl⟩⟩) (fun h => ⟨rfl, Or.inr (Or.inl ⟨h, rfl⟩)⟩) (fun h => ⟨rfl, Or.inr (Or.inr (⟨h, rfl⟩))⟩)
    refine zr_i2l X dL_mode_8 ?_
    refine zr_last X dL_mode_9 ?_
    refine zr_goto (tgt := 25) X dL_mode_10 (by decide) ?_
    refine zr_iconst (v := nI 0) X dL_mode_25 (by decide) ?_
    refine zr_iret X (by decide) (by decide) dL_mode_26 ?_
    simp only [if_pos h] at k
    have k9 := k (zput J out 0 (rMode S u v).2) (hJ.on (fun q a b => zput_nq (by omega))) (hR.on (fun q a b => (zput_nq (by omega)).trans (hJ.2.2.2.2.1.2 q (Or.inr (by omega))))) (fun _ => zput_eq)
    rw [h] at k9; exact k9
abbrev zrm_L_key : Room := { frames := 9, cells := 1, slots := 6, locals := 141 }
set_option maxRecDepth 20000 in
theorem zL_key {l : Launch} {D : va_G} {b0 : Nat} {tA : Nat → ClassId} {sa sv : Nat → Nat} {K : Nat → Option Nat} {I : zI} {Qp : zI → Option AV → Prop} {x y out f f2 : Nat} {t t2 : Nat → Nat} {er er2 : Int32} {S S2 : zS} {U U2 : List zS} {v : Int32}
    (hC : zCl I I x t f er S U) (hR : zRf I I y t2 f2 er2 S2 U2) (h1 : x + 501 ≤ y) (h2 : y + 14 ≤ out) (k : ∀ J : zI, zCl J J x t f er (if (rKey S v).1 = 0 then sKey S v else S) (if (rKey S v).1 = 0 then qPush S U else U) → zRf J J y t2 f2 er2 S2 U2 → ((rKey S v).1 = 0 → J out 0 = (rKey S v).2) → Qp J (some (vi (nI (rKey S v).1)))) :
    zC l D b0 tA sa sv K yL_key (.codeWith yL_key cL_key 4 (some .int) [(0, 9, 12, 13)]) zrm_L_key [vr x 7, vi v, vr out 17] I Qp (fun _ _ => False) := by
  refine zCW_of (by decide +kernel) (Nat.le_of_ble_eq_true rfl) ?_
  intro p e s m args below meth c X ht
  have X : zX p l e zrm_L_key s m args below meth c RL cL_key 4 (some .int) D b0 tA sa sv := X
  refine zr_lv (lv2 := [some (vr x 7), some (vi v), some (vr out 17), none]) rfl ?_
  refine zr_aload2 X dL_key_0 ?_
  refine zr_iconst (v := (0 : Int32)) X dL_key_1 (by decide) ?_
  refine zr_aload0 X dL_key_2 ?_
  refine zr_iload1 X dL_key_3 ?_
  refine zr_callVX X zm_L_78 (rm9 := zrm_X7_key) (As := [vi v]) (st := [vi 0, vr out 17]) (Xp' := fun E J => J = I ∧ (((rKey S v).1 = 1 ∧ E = "java/lang/IllegalArgumentException"))) rfl rfl ⟨by decide, Nat.le_of_ble_eq_true rfl⟩ ⟨by decide, by decide⟩ (Nat.le_of_ble_eq_true rfl) dL_key_4 (fun E J hx => ?_) ?_
  · obtain ⟨rfl, hx⟩ := hx
    rcases hx with ⟨h, rfl⟩
    · refine zr_caught X ht (hpc := 12) (i := 3) (len := 1) ⟨[], ⟨0, 9, 12, 13⟩, [], "java/lang/IllegalArgumentException", rfl, (fun z hz => nomatch hz), rfl, by decide, zcl_L_13, zca_13, rfl⟩ (by decide) ?_ (Or.inl ⟨3, rfl, dL_key_12, rfl⟩) ?_
      · intro j hj w hw
        obtain rfl : j = 2 := by omega
        cases hw; rfl
      refine zr_iconst (v := nI 1) X dL_key_13 (by decide) ?_
      refine zr_iret X (by decide) (by decide) dL_key_14 ?_
      have hn : ¬ (rKey S v).1 = 0 := by rw [h]; decide
      simp only [if_neg hn] at k
      have k9 := k _ hC hR (fun q => absurd q hn)
      rw [h] at k9; exact k9
  · refine zq_X7_key hC (fun h J hJ => ?_) (fun h => ⟨rfl, ⟨h, rfl⟩⟩)
    refine zr_i2l X dL_key_7 ?_
    refine zr_last X dL_key_8 ?_
    refine zr_goto (tgt := 15) X dL_key_9 (by decide) ?_
    refine zr_iconst (v := nI 0) X dL_key_15 (by decide) ?_
    refine zr_iret X (by decide) (by decide) dL_key_16 ?_
    simp only [if_pos h] at k
    have k9 := k (zput J out 0 (rKey S v).2) (hJ.on (fun q a b => zput_nq (by omega))) (hR.on (fun q a b => (zput_nq (by omega)).trans (hJ.2.2.2.2.1.2 q (Or.inr (by omega))))) (fun _ => zput_eq)
    rw [h] at k9; exact k9
abbrev zrm_L_tick : Room := { frames := 10, cells := 1, slots := 6, locals := 163 }
set_option maxRecDepth 20000 in
theorem zL_tick {l : Launch} {D : va_G} {b0 : Nat} {tA : Nat → ClassId} {sa sv : Nat → Nat} {K : Nat → Option Nat} {I : zI} {Qp : zI → Option AV → Prop} {x y out f f2 : Nat} {t t2 : Nat → Nat} {er er2 : Int32} {S S2 : zS} {U U2 : List zS} {v : Int32}
    (hC : zCl I I x t f er S U) (hR : zRf I I y t2 f2 er2 S2 U2) (h1 : x + 501 ≤ y) (h2 : y + 14 ≤ out) (k : ∀ J : zI, zCl J J x t f er (if (rTick S v).1 = 0 then sTick S v else S) (if (rTick S v).1 = 0 then qPush S U else U) → zRf J J y t2 f2 er2 S2 U2 → ((rTick S v).1 = 0 → J out 0 = (rTick S v).2) → Qp J (some (vi (nI (rTick S v).1)))) :
    zC l D b0 tA sa sv K yL_tick (.codeWith yL_tick cL_tick 4 (some .int) [(0, 9, 12, 13)]) zrm_L_tick [vr x 7, vi v, vr out 17] I Qp (fun _ _ => False) := by
  refine zCW_of (by decide +kernel) (Nat.le_of_ble_eq_true rfl) ?_
  intro p e s m args below meth c X ht
  have X : zX p l e zrm_L_tick s m args below meth c RL cL_tick 4 (some .int) D b0 tA sa sv := X
  refine zr_lv (lv2 := [some (vr x 7), some (vi v), some (vr out 17), none]) rfl ?_
  refine zr_aload2 X dL_tick_0 ?_
  refine zr_iconst (v := (0 : Int32)) X dL_tick_1 (by decide) ?_
  refine zr_aload0 X dL_tick_2 ?_
  refine zr_iload1 X dL_tick_3 ?_
  refine zr_callVX X zm_L_81 (rm9 := zrm_X7_tick) (As := [vi v]) (st := [vi 0, vr out 17]) (Xp' := fun E J => J = I ∧ (((rTick S v).1 = 1 ∧ E = "java/lang/IllegalArgumentException"))) rfl rfl ⟨by decide, Nat.le_of_ble_eq_true rfl⟩ ⟨by decide, by decide⟩ (Nat.le_of_ble_eq_true rfl) dL_tick_4 (fun E J hx => ?_) ?_
  · obtain ⟨rfl, hx⟩ := hx
    rcases hx with ⟨h, rfl⟩
    · refine zr_caught X ht (hpc := 12) (i := 3) (len := 1) ⟨[], ⟨0, 9, 12, 13⟩, [], "java/lang/IllegalArgumentException", rfl, (fun z hz => nomatch hz), rfl, by decide, zcl_L_13, zca_13, rfl⟩ (by decide) ?_ (Or.inl ⟨3, rfl, dL_tick_12, rfl⟩) ?_
      · intro j hj w hw
        obtain rfl : j = 2 := by omega
        cases hw; rfl
      refine zr_iconst (v := nI 1) X dL_tick_13 (by decide) ?_
      refine zr_iret X (by decide) (by decide) dL_tick_14 ?_
      have hn : ¬ (rTick S v).1 = 0 := by rw [h]; decide
      simp only [if_neg hn] at k
      have k9 := k _ hC hR (fun q => absurd q hn)
      rw [h] at k9; exact k9
  · refine zq_X7_tick hC (fun h J hJ => ?_) (fun h => ⟨rfl, ⟨h, rfl⟩⟩)
    refine zr_i2l X dL_tick_7 ?_
    refine zr_last X dL_tick_8 ?_
    refine zr_goto (tgt := 15) X dL_tick_9 (by decide) ?_
    refine zr_iconst (v := nI 0) X dL_tick_15 (by decide) ?_
    refine zr_iret X (by decide) (by decide) dL_tick_16 ?_
    simp only [if_pos h] at k
    have k9 := k (zput J out 0 (rTick S v).2) (hJ.on (fun q a b => zput_nq (by omega))) (hR.on (fun q a b => (zput_nq (by omega)).trans (hJ.2.2.2.2.1.2 q (Or.inr (by omega))))) (fun _ => zput_eq)
    rw [h] at k9; exact k9
abbrev zrm_L_load : Room := { frames := 10, cells := 1, slots := 6, locals := 245 }
set_option maxRecDepth 20000 in
theorem zL_load {l : Launch} {D : va_G} {b0 : Nat} {tA : Nat → ClassId} {sa sv : Nat → Nat} {K : Nat → Option Nat} {I : zI} {Qp : zI → Option AV → Prop} {x y out f f2 : Nat} {t t2 : Nat → Nat} {er er2 : Int32} {S S2 : zS} {U U2 : List zS} {v : Int32}
    (hC : zCl I I x t f er S U) (hR : zRf I I y t2 f2 er2 S2 U2) (h1 : x + 501 ≤ y) (h2 : y + 14 ≤ out) (k : ∀ J : zI, zCl J J x t (fLoad f v) (eLoad t f v er) (sLoad t f v S) (uLoad t f v S U) → zRf J J y t2 f2 er2 S2 U2 → ((rLoad t f v).1 = 0 → J out 0 = (rLoad t f v).2) → Qp J (some (vi (nI (rLoad t f v).1)))) :
    zC l D b0 tA sa sv K yL_load (.codeWith yL_load cL_load 4 (some .int) [(0, 9, 12, 13)]) zrm_L_load [vr x 7, vi v, vr out 17] I Qp (fun _ _ => False) := by
  refine zCW_of (by decide +kernel) (Nat.le_of_ble_eq_true rfl) ?_
  intro p e s m args below meth c X ht
  have X : zX p l e zrm_L_load s m args below meth c RL cL_load 4 (some .int) D b0 tA sa sv := X
  refine zr_lv (lv2 := [some (vr x 7), some (vi v), some (vr out 17), none]) rfl ?_
  refine zr_aload2 X dL_load_0 ?_
  refine zr_iconst (v := (0 : Int32)) X dL_load_1 (by decide) ?_
  refine zr_aload0 X dL_load_2 ?_
  refine zr_iload1 X dL_load_3 ?_
  refine zr_callVX X zm_L_7 (rm9 := zrm_X7_load) (As := [vi v]) (st := [vi 0, vr out 17]) (Xp' := fun E J => J = I ∧ (((rLoad t f v).1 = 1 ∧ E = "java/lang/IllegalArgumentException"))) rfl rfl ⟨by decide, Nat.le_of_ble_eq_true rfl⟩ ⟨by decide, by decide⟩ (Nat.le_of_ble_eq_true rfl) dL_load_4 (fun E J hx => ?_) ?_
  · obtain ⟨rfl, hx⟩ := hx
    rcases hx with ⟨h, rfl⟩
    · refine zr_caught X ht (hpc := 12) (i := 3) (len := 1) ⟨[], ⟨0, 9, 12, 13⟩, [], "java/lang/IllegalArgumentException", rfl, (fun z hz => nomatch hz), rfl, by decide, zcl_L_13, zca_13, rfl⟩ (by decide) ?_ (Or.inl ⟨3, rfl, dL_load_12, rfl⟩) ?_
      · intro j hj w hw
        obtain rfl : j = 2 := by omega
        cases hw; rfl
      refine zr_iconst (v := nI 1) X dL_load_13 (by decide) ?_
      refine zr_iret X (by decide) (by decide) dL_load_14 ?_
      have hn : ¬ (rLoad t f v).1 = 0 := by rw [h]; decide
      have hv : vIdx v (f + 1) = none := by
        unfold rLoad at hn
        cases hv : vIdx v (f + 1) with
        | none => rfl
        | some n => rw [hv] at hn; dsimp only at hn; split at hn <;> exact absurd rfl hn
      have e1 : fLoad f v = f := by unfold fLoad; rw [hv]
      have e2 : eLoad t f v er = er := by unfold eLoad; rw [hv]
      have e3 : sLoad t f v S = S := by unfold sLoad; rw [hv]
      have e4 : uLoad t f v S U = U := by unfold uLoad; rw [hv]
      rw [e1, e2, e3, e4] at k
      have k9 := k _ hC hR (fun q => absurd q hn)
      rw [h] at k9; exact k9
  · refine zq_X7_load hC (fun h J hJ => ?_) (fun h => ⟨rfl, ⟨h, rfl⟩⟩)
    refine zr_i2l X dL_load_7 ?_
    refine zr_last X dL_load_8 ?_
    refine zr_goto (tgt := 15) X dL_load_9 (by decide) ?_
    refine zr_iconst (v := nI 0) X dL_load_15 (by decide) ?_
    refine zr_iret X (by decide) (by decide) dL_load_16 ?_
    have k9 := k (zput J out 0 (rLoad t f v).2) (hJ.on (fun q a b => zput_nq (by omega))) (hR.on (fun q a b => (zput_nq (by omega)).trans (hJ.2.2.2.2.1.2 q (Or.inr (by omega))))) (fun _ => zput_eq)
    rw [h] at k9; exact k9
